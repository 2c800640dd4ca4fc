theorem dX2_countNumber_42 : decode cX2_countNumber 42 = .ok (.aload_n 0, 1) := by decide +kernel
theorem dX2_countNumber_43 : decode cX2_countNumber 43 = .ok (.iconst 5, 1) := by decide +kernel
theorem dX2_countNumber_44 : decode cX2_countNumber 44 = .ok (.invokevirtual 52, 3) := by decide +kernel
theorem dX2_countNumber_47 : decode cX2_countNumber 47 = .ok (.ireturn, 1) := by decide +kernel
theorem dX2_countNumber_48 : decode cX2_countNumber 48 = .ok (.aload_n 0, 1) := by decide +kernel
theorem dX2_countNumber_49 : decode cX2_countNumber 49 = .ok (.bipush 6, 2) := by decide +kernel
theorem dX2_countNumber_51 : decode cX2_countNumber 51 = .ok (.invokevirtual 52, 3) := by decide +kernel
theorem dX2_countNumber_54 : decode cX2_countNumber 54 = .ok (.ireturn, 1) := by decide +kernel
theorem dX2_countNumber_55 : decode cX2_countNumber 55 = .ok (.aload_n 0, 1) := by decide +kernel
theorem dX2_countNumber_56 : decode cX2_countNumber 56 = .ok (.iload_n 1, 1) := by decide +kernel
theorem dX2_countNumber_57 : decode cX2_countNumber 57 = .ok (.invokevirtual 55, 3) := by decide +kernel
theorem dX2_countNumber_60 : decode cX2_countNumber 60 = .ok (.ireturn, 1) := by decide +kernel
set_option maxRecDepth 20000 in
theorem ggX2_overBrands_X2_ofBrand : GoodIn wsX2_overBrands wsX2_ofBrand := goodIn_r _ [5, 6, 7, 8, 4, 9, 10, 11] (by decide +kernel) (by decide +kernel)
set_option maxRecDepth 20000 in
theorem gX2_overBrands_X2_ofBrand : GoodIn wsX2_overBrands (wsV RX2 42 RX2 yX2_ofBrand wsX2_ofBrand) := goodIn_app (goodIn_of _ (by decide +kernel)) ggX2_overBrands_X2_ofBrand
theorem dX2_overBrands_0 : decode cX2_overBrands 0 = .ok (.iconst 0, 1) := by decide +kernel
theorem dX2_overBrands_1 : decode cX2_overBrands 1 = .ok (.istore_n 2, 1) := by decide +kernel
theorem dX2_overBrands_2 : decode cX2_overBrands 2 = .ok (.iconst 0, 1) := by decide +kernel
theorem dX2_overBrands_3 : decode cX2_overBrands 3 = .ok (.istore_n 3, 1) := by decide +kernel
theorem dX2_overBrands_4 : decode cX2_overBrands 4 = .ok (.iload_n 3, 1) := by decide +kernel
theorem dX2_overBrands_5 : decode cX2_overBrands 5 = .ok (.bipush 8, 2) := by decide +kernel
theorem dX2_overBrands_7 : decode cX2_overBrands 7 = .ok (.if_icmp .ge 18, 3) := by decide +kernel
theorem dX2_overBrands_10 : decode cX2_overBrands 10 = .ok (.iload_n 2, 1) := by decide +kernel
theorem dX2_overBrands_11 : decode cX2_overBrands 11 = .ok (.aload_n 0, 1) := by decide +kernel
theorem dX2_overBrands_12 : decode cX2_overBrands 12 = .ok (.iload_n 3, 1) := by decide +kernel
theorem dX2_overBrands_13 : decode cX2_overBrands 13 = .ok (.iload_n 1, 1) := by decide +kernel
theorem dX2_overBrands_14 : decode cX2_overBrands 14 = .ok (.invokevirtual 42, 3) := by decide +kernel
theorem dX2_overBrands_17 : decode cX2_overBrands 17 = .ok (.iadd, 1) := by decide +kernel
theorem dX2_overBrands_18 : decode cX2_overBrands 18 = .ok (.istore_n 2, 1) := by decide +kernel
theorem dX2_overBrands_19 : decode cX2_overBrands 19 = .ok (.iinc 3 1, 3) := by decide +kernel
theorem dX2_overBrands_22 : decode cX2_overBrands 22 = .ok (.goto (-18), 3) := by decide +kernel
theorem dX2_overBrands_25 : decode cX2_overBrands 25 = .ok (.iload_n 2, 1) := by decide +kernel
theorem dX2_overBrands_26 : decode cX2_overBrands 26 = .ok (.ireturn, 1) := by decide +kernel
set_option maxRecDepth 20000 in
theorem ggX2_brandSum_X2_brandNumber : GoodIn wsX2_brandSum wsX2_brandNumber := goodIn_r _ [5, 6, 7, 8, 4, 9, 10, 11, 12, 13, 14, 15, 16, 17, 18, 19, 20, 21, 22, 23] (by decide +kernel) (by decide +kernel)
set_option maxRecDepth 20000 in
theorem gX2_brandSum_X2_brandNumber : GoodIn wsX2_brandSum (wsV RX2 58 RX2 yX2_brandNumber wsX2_brandNumber) := goodIn_app (goodIn_of _ (by decide +kernel)) ggX2_brandSum_X2_brandNumber
theorem dX2_brandSum_0 : decode cX2_brandSum 0 = .ok (.iconst 0, 1) := by decide +kernel
theorem dX2_brandSum_1 : decode cX2_brandSum 1 = .ok (.istore_n 3, 1) := by decide +kernel
theorem dX2_brandSum_2 : decode cX2_brandSum 2 = .ok (.iconst 0, 1) := by decide +kernel
theorem dX2_brandSum_3 : decode cX2_brandSum 3 = .ok (.istore 4, 2) := by decide +kernel
theorem dX2_brandSum_5 : decode cX2_brandSum 5 = .ok (.iload 4, 2) := by decide +kernel
theorem dX2_brandSum_7 : decode cX2_brandSum 7 = .ok (.bipush 8, 2) := by decide +kernel
theorem dX2_brandSum_9 : decode cX2_brandSum 9 = .ok (.if_icmp .ge 35, 3) := by decide +kernel
theorem dX2_brandSum_12 : decode cX2_brandSum 12 = .ok (.iload_n 1, 1) := by decide +kernel
theorem dX2_brandSum_13 : decode cX2_brandSum 13 = .ok (.istore 5, 2) := by decide +kernel
theorem dX2_brandSum_15 : decode cX2_brandSum 15 = .ok (.iload 5, 2) := by decide +kernel
theorem dX2_brandSum_17 : decode cX2_brandSum 17 = .ok (.iload_n 2, 1) := by decide +kernel
theorem dX2_brandSum_18 : decode cX2_brandSum 18 = .ok (.if_icmp .gt 20, 3) := by decide +kernel
theorem dX2_brandSum_21 : decode cX2_brandSum 21 = .ok (.iload_n 3, 1) := by decide +kernel
theorem dX2_brandSum_22 : decode cX2_brandSum 22 = .ok (.aload_n 0, 1) := by decide +kernel
theorem dX2_brandSum_23 : decode cX2_brandSum 23 = .ok (.iload 4, 2) := by decide +kernel
theorem dX2_brandSum_25 : decode cX2_brandSum 25 = .ok (.iload 5, 2) := by decide +kernel
theorem dX2_brandSum_27 : decode cX2_brandSum 27 = .ok (.invokevirtual 58, 3) := by decide +kernel
theorem dX2_brandSum_30 : decode cX2_brandSum 30 = .ok (.iadd, 1) := by decide +kernel
theorem dX2_brandSum_31 : decode cX2_brandSum 31 = .ok (.istore_n 3, 1) := by decide +kernel
theorem dX2_brandSum_32 : decode cX2_brandSum 32 = .ok (.iinc 5 1, 3) := by decide +kernel
theorem dX2_brandSum_35 : decode cX2_brandSum 35 = .ok (.goto (-20), 3) := by decide +kernel
theorem dX2_brandSum_38 : decode cX2_brandSum 38 = .ok (.iinc 4 1, 3) := by decide +kernel
theorem dX2_brandSum_41 : decode cX2_brandSum 41 = .ok (.goto (-36), 3) := by decide +kernel
theorem dX2_brandSum_44 : decode cX2_brandSum 44 = .ok (.iload_n 3, 1) := by decide +kernel
theorem dX2_brandSum_45 : decode cX2_brandSum 45 = .ok (.ireturn, 1) := by decide +kernel
set_option maxRecDepth 20000 in
theorem ggX2_overShops_X2_ofShop : GoodIn wsX2_overShops wsX2_ofShop := goodIn_r _ [5, 6, 7, 8, 4, 9, 10, 11] (by decide +kernel) (by decide +kernel)
set_option maxRecDepth 20000 in
theorem gX2_overShops_X2_ofShop : GoodIn wsX2_overShops (wsV RX2 49 RX2 yX2_ofShop wsX2_ofShop) := goodIn_app (goodIn_of _ (by decide +kernel)) ggX2_overShops_X2_ofShop
theorem dX2_overShops_0 : decode cX2_overShops 0 = .ok (.iconst 0, 1) := by decide +kernel
theorem dX2_overShops_1 : decode cX2_overShops 1 = .ok (.istore_n 2, 1) := by decide +kernel
theorem dX2_overShops_2 : decode cX2_overShops 2 = .ok (.iconst 0, 1) := by decide +kernel
theorem dX2_overShops_3 : decode cX2_overShops 3 = .ok (.istore_n 3, 1) := by decide +kernel
theorem dX2_overShops_4 : decode cX2_overShops 4 = .ok (.iload_n 3, 1) := by decide +kernel
theorem dX2_overShops_5 : decode cX2_overShops 5 = .ok (.bipush 6, 2) := by decide +kernel
theorem dX2_overShops_7 : decode cX2_overShops 7 = .ok (.if_icmp .ge 18, 3) := by decide +kernel
theorem dX2_overShops_10 : decode cX2_overShops 10 = .ok (.iload_n 2, 1) := by decide +kernel
theorem dX2_overShops_11 : decode cX2_overShops 11 = .ok (.aload_n 0, 1) := by decide +kernel
theorem dX2_overShops_12 : decode cX2_overShops 12 = .ok (.iload_n 3, 1) := by decide +kernel
theorem dX2_overShops_13 : decode cX2_overShops 13 = .ok (.iload_n 1, 1) := by decide +kernel
theorem dX2_overShops_14 : decode cX2_overShops 14 = .ok (.invokevirtual 49, 3) := by decide +kernel
theorem dX2_overShops_17 : decode cX2_overShops 17 = .ok (.iadd, 1) := by decide +kernel
theorem dX2_overShops_18 : decode cX2_overShops 18 = .ok (.istore_n 2, 1) := by decide +kernel
theorem dX2_overShops_19 : decode cX2_overShops 19 = .ok (.iinc 3 1, 3) := by decide +kernel
theorem dX2_overShops_22 : decode cX2_overShops 22 = .ok (.goto (-18), 3) := by decide +kernel
theorem dX2_overShops_25 : decode cX2_overShops 25 = .ok (.iload_n 2, 1) := by decide +kernel
theorem dX2_overShops_26 : decode cX2_overShops 26 = .ok (.ireturn, 1) := by decide +kernel
set_option maxRecDepth 20000 in
theorem ggX2_overBrandsOf_X2_ofShop : GoodIn wsX2_overBrandsOf wsX2_ofShop := goodIn_r _ [5, 6, 7, 8, 4, 9, 10, 11] (by decide +kernel) (by decide +kernel)
set_option maxRecDepth 20000 in
theorem gX2_overBrandsOf_X2_ofShop : GoodIn wsX2_overBrandsOf (wsV RX2 49 RX2 yX2_ofShop wsX2_ofShop) := goodIn_app (goodIn_of _ (by decide +kernel)) ggX2_overBrandsOf_X2_ofShop
theorem dX2_overBrandsOf_0 : decode cX2_overBrandsOf 0 = .ok (.iconst 0, 1) := by decide +kernel
theorem dX2_overBrandsOf_1 : decode cX2_overBrandsOf 1 = .ok (.istore_n 3, 1) := by decide +kernel
theorem dX2_overBrandsOf_2 : decode cX2_overBrandsOf 2 = .ok (.iconst 0, 1) := by decide +kernel
theorem dX2_overBrandsOf_3 : decode cX2_overBrandsOf 3 = .ok (.istore 4, 2) := by decide +kernel
theorem dX2_overBrandsOf_5 : decode cX2_overBrandsOf 5 = .ok (.iload 4, 2) := by decide +kernel
theorem dX2_overBrandsOf_7 : decode cX2_overBrandsOf 7 = .ok (.bipush 8, 2) := by decide +kernel
theorem dX2_overBrandsOf_9 : decode cX2_overBrandsOf 9 = .ok (.if_icmp .ge 21, 3) := by decide +kernel
theorem dX2_overBrandsOf_12 : decode cX2_overBrandsOf 12 = .ok (.iload_n 3, 1) := by decide +kernel
theorem dX2_overBrandsOf_13 : decode cX2_overBrandsOf 13 = .ok (.aload_n 0, 1) := by decide +kernel
theorem dX2_overBrandsOf_14 : decode cX2_overBrandsOf 14 = .ok (.iload_n 1, 1) := by decide +kernel
theorem dX2_overBrandsOf_15 : decode cX2_overBrandsOf 15 = .ok (.iload_n 2, 1) := by decide +kernel
theorem dX2_overBrandsOf_16 : decode cX2_overBrandsOf 16 = .ok (.iload 4, 2) := by decide +kernel
theorem dX2_overBrandsOf_18 : decode cX2_overBrandsOf 18 = .ok (.iadd, 1) := by decide +kernel
theorem dX2_overBrandsOf_19 : decode cX2_overBrandsOf 19 = .ok (.invokevirtual 49, 3) := by decide +kernel
theorem dX2_overBrandsOf_22 : decode cX2_overBrandsOf 22 = .ok (.iadd, 1) := by decide +kernel
theorem dX2_overBrandsOf_23 : decode cX2_overBrandsOf 23 = .ok (.istore_n 3, 1) := by decide +kernel
theorem dX2_overBrandsOf_24 : decode cX2_overBrandsOf 24 = .ok (.iinc 4 1, 3) := by decide +kernel
theorem dX2_overBrandsOf_27 : decode cX2_overBrandsOf 27 = .ok (.goto (-22), 3) := by decide +kernel
theorem dX2_overBrandsOf_30 : decode cX2_overBrandsOf 30 = .ok (.iload_n 3, 1) := by decide +kernel
theorem dX2_overBrandsOf_31 : decode cX2_overBrandsOf 31 = .ok (.ireturn, 1) := by decide +kernel
set_option maxRecDepth 20000 in
theorem ggX3_init_X0_init : GoodIn wsX3_init wsX0_init := goodIn_r _ [11, 12, 2, 3] (by decide +kernel) (by decide +kernel)
set_option maxRecDepth 20000 in
theorem gX3_init_X0_init_n15 : GoodIn wsX3_init (wsX0_init) := ggX3_init_X0_init
theorem dX3_init_0 : decode cX3_init 0 = .ok (.aload_n 0, 1) := by decide +kernel
theorem dX3_init_1 : decode cX3_init 1 = .ok (.invokespecial 1, 3) := by decide +kernel
theorem dX3_init_4 : decode cX3_init 4 = .ok (.aload_n 0, 1) := by decide +kernel
theorem dX3_init_5 : decode cX3_init 5 = .ok (.bipush 60, 2) := by decide +kernel
theorem dX3_init_7 : decode cX3_init 7 = .ok (.newarray .int, 2) := by decide +kernel
theorem dX3_init_9 : decode cX3_init 9 = .ok (.putfield 9, 3) := by decide +kernel
theorem dX3_init_12 : decode cX3_init 12 = .ok (.aload_n 0, 1) := by decide +kernel
theorem dX3_init_13 : decode cX3_init 13 = .ok (.new 13, 3) := by decide +kernel
theorem dX3_init_16 : decode cX3_init 16 = .ok (.dup, 1) := by decide +kernel
theorem dX3_init_17 : decode cX3_init 17 = .ok (.invokespecial 15, 3) := by decide +kernel
theorem dX3_init_20 : decode cX3_init 20 = .ok (.putfield 16, 3) := by decide +kernel
theorem dX3_init_23 : decode cX3_init 23 = .ok (.return_, 1) := by decide +kernel
set_option maxRecDepth 20000 in
theorem ggX4_init_X2_init : GoodIn wsX4_init wsX2_init := goodIn_r _ [11, 12, 2, 3, 8, 13, 14, 15, 16, 17, 18, 19, 6, 20, 21, 22, 23, 24, 25] (by decide +kernel) (by decide +kernel)
set_option maxRecDepth 20000 in
theorem gX4_init_X2_init_n11 : GoodIn wsX4_init (wsX2_init) := ggX4_init_X2_init
theorem dX4_init_0 : decode cX4_init 0 = .ok (.aload_n 0, 1) := by decide +kernel
theorem dX4_init_1 : decode cX4_init 1 = .ok (.invokespecial 3, 3) := by decide +kernel
theorem dX4_init_4 : decode cX4_init 4 = .ok (.aload_n 0, 1) := by decide +kernel
theorem dX4_init_5 : decode cX4_init 5 = .ok (.new 9, 3) := by decide +kernel
theorem dX4_init_8 : decode cX4_init 8 = .ok (.dup, 1) := by decide +kernel
theorem dX4_init_9 : decode cX4_init 9 = .ok (.invokespecial 11, 3) := by decide +kernel
theorem dX4_init_12 : decode cX4_init 12 = .ok (.putfield 12, 3) := by decide +kernel
theorem dX4_init_15 : decode cX4_init 15 = .ok (.aload_n 0, 1) := by decide +kernel
theorem dX4_init_16 : decode cX4_init 16 = .ok (.bipush 8, 2) := by decide +kernel
theorem dX4_init_18 : decode cX4_init 18 = .ok (.newarray .int, 2) := by decide +kernel
theorem dX4_init_20 : decode cX4_init 20 = .ok (.putfield 18, 3) := by decide +kernel
theorem dX4_init_23 : decode cX4_init 23 = .ok (.return_, 1) := by decide +kernel
set_option maxRecDepth 20000 in
theorem ggX4_depositOf_X2_ofBrand : GoodIn wsX4_depositOf wsX2_ofBrand := goodIn_r _ [5, 6, 7, 8, 3, 9, 10, 16] (by decide +kernel) (by decide +kernel)
set_option maxRecDepth 20000 in
theorem gX4_depositOf_X2_ofBrand_n22 : GoodIn wsX4_depositOf (wsX2_ofBrand) := ggX4_depositOf_X2_ofBrand
set_option maxRecDepth 20000 in
theorem ggX4_depositOf_X2_ofSetting : GoodIn wsX4_depositOf wsX2_ofSetting := goodIn_r _ [13, 6, 7, 8, 3, 9, 10, 16] (by decide +kernel) (by decide +kernel)
set_option maxRecDepth 20000 in
theorem gX4_depositOf_X2_ofSetting_n26 : GoodIn wsX4_depositOf (wsX2_ofSetting) := ggX4_depositOf_X2_ofSetting
theorem dX4_depositOf_0 : decode cX4_depositOf 0 = .ok (.aload_n 0, 1) := by decide +kernel
theorem dX4_depositOf_1 : decode cX4_depositOf 1 = .ok (.getfield 12, 3) := by decide +kernel
theorem dX4_depositOf_4 : decode cX4_depositOf 4 = .ok (.aload_n 0, 1) := by decide +kernel
theorem dX4_depositOf_5 : decode cX4_depositOf 5 = .ok (.getfield 12, 3) := by decide +kernel
theorem dX4_depositOf_8 : decode cX4_depositOf 8 = .ok (.iload_n 1, 1) := by decide +kernel
theorem dX4_depositOf_9 : decode cX4_depositOf 9 = .ok (.iconst 0, 1) := by decide +kernel
theorem dX4_depositOf_10 : decode cX4_depositOf 10 = .ok (.invokevirtual 22, 3) := by decide +kernel
theorem dX4_depositOf_13 : decode cX4_depositOf 13 = .ok (.invokevirtual 26, 3) := by decide +kernel
theorem dX4_depositOf_16 : decode cX4_depositOf 16 = .ok (.ireturn, 1) := by decide +kernel
set_option maxRecDepth 20000 in
theorem ggX4_crateDeposits_X2_ofSetting : GoodIn wsX4_crateDeposits wsX2_ofSetting := goodIn_r _ [5, 6, 7, 8, 3, 9, 10, 13] (by decide +kernel) (by decide +kernel)
set_option maxRecDepth 20000 in
theorem gX4_crateDeposits_X2_ofSetting_n26 : GoodIn wsX4_crateDeposits (wsX2_ofSetting) := ggX4_crateDeposits_X2_ofSetting
theorem dX4_crateDeposits_0 : decode cX4_crateDeposits 0 = .ok (.bipush 12, 2) := by decide +kernel
theorem dX4_crateDeposits_2 : decode cX4_crateDeposits 2 = .ok (.aload_n 0, 1) := by decide +kernel
theorem dX4_crateDeposits_3 : decode cX4_crateDeposits 3 = .ok (.getfield 12, 3) := by decide +kernel
theorem dX4_crateDeposits_6 : decode cX4_crateDeposits 6 = .ok (.iload_n 1, 1) := by decide +kernel
theorem dX4_crateDeposits_7 : decode cX4_crateDeposits 7 = .ok (.invokevirtual 26, 3) := by decide +kernel
theorem dX4_crateDeposits_10 : decode cX4_crateDeposits 10 = .ok (.imul, 1) := by decide +kernel
theorem dX4_crateDeposits_11 : decode cX4_crateDeposits 11 = .ok (.aload_n 0, 1) := by decide +kernel
theorem dX4_crateDeposits_12 : decode cX4_crateDeposits 12 = .ok (.getfield 12, 3) := by decide +kernel
theorem dX4_crateDeposits_15 : decode cX4_crateDeposits 15 = .ok (.iconst 3, 1) := by decide +kernel
theorem dX4_crateDeposits_16 : decode cX4_crateDeposits 16 = .ok (.invokevirtual 26, 3) := by decide +kernel
theorem dX4_crateDeposits_19 : decode cX4_crateDeposits 19 = .ok (.iadd, 1) := by decide +kernel
theorem dX4_crateDeposits_20 : decode cX4_crateDeposits 20 = .ok (.ireturn, 1) := by decide +kernel
set_option maxRecDepth 20000 in
theorem ggX4_cratePrice_X2_ofBrand : GoodIn wsX4_cratePrice wsX2_ofBrand := goodIn_r _ [5, 6, 7, 8, 3, 9, 10, 21] (by decide +kernel) (by decide +kernel)
set_option maxRecDepth 20000 in
theorem gX4_cratePrice_X2_ofBrand_n22 : GoodIn wsX4_cratePrice (wsX2_ofBrand) := ggX4_cratePrice_X2_ofBrand
set_option maxRecDepth 20000 in
theorem ggX4_cratePrice_X4_crateDeposits : GoodIn wsX4_cratePrice wsX4_crateDeposits := goodIn_r _ [15, 1, 16, 3, 17, 18, 6, 7, 8, 9, 10, 19, 20, 21] (by decide +kernel) (by decide +kernel)
set_option maxRecDepth 20000 in
theorem gX4_cratePrice_X4_crateDeposits : GoodIn wsX4_cratePrice (wsV RX4 30 RX4 yX4_crateDeposits wsX4_crateDeposits) := goodIn_app (goodIn_of _ (by decide +kernel)) ggX4_cratePrice_X4_crateDeposits
set_option maxRecDepth 20000 in
theorem ggX4_cratePrice_X2_ofSetting : GoodIn wsX4_cratePrice wsX2_ofSetting := goodIn_r _ [18, 6, 7, 8, 3, 9, 10, 21] (by decide +kernel) (by decide +kernel)
set_option maxRecDepth 20000 in
theorem gX4_cratePrice_X2_ofSetting_n26 : GoodIn wsX4_cratePrice (wsX2_ofSetting) := ggX4_cratePrice_X2_ofSetting
theorem dX4_cratePrice_0 : decode cX4_cratePrice 0 = .ok (.aload_n 0, 1) := by decide +kernel
theorem dX4_cratePrice_1 : decode cX4_cratePrice 1 = .ok (.aload_n 0, 1) := by decide +kernel
theorem dX4_cratePrice_2 : decode cX4_cratePrice 2 = .ok (.getfield 12, 3) := by decide +kernel
theorem dX4_cratePrice_5 : decode cX4_cratePrice 5 = .ok (.iload_n 1, 1) := by decide +kernel
theorem dX4_cratePrice_6 : decode cX4_cratePrice 6 = .ok (.iconst 0, 1) := by decide +kernel
theorem dX4_cratePrice_7 : decode cX4_cratePrice 7 = .ok (.invokevirtual 22, 3) := by decide +kernel
theorem dX4_cratePrice_10 : decode cX4_cratePrice 10 = .ok (.invokevirtual 30, 3) := by decide +kernel
theorem dX4_cratePrice_13 : decode cX4_cratePrice 13 = .ok (.aload_n 0, 1) := by decide +kernel
theorem dX4_cratePrice_14 : decode cX4_cratePrice 14 = .ok (.getfield 12, 3) := by decide +kernel
theorem dX4_cratePrice_17 : decode cX4_cratePrice 17 = .ok (.iconst 4, 1) := by decide +kernel
theorem dX4_cratePrice_18 : decode cX4_cratePrice 18 = .ok (.invokevirtual 26, 3) := by decide +kernel
theorem dX4_cratePrice_21 : decode cX4_cratePrice 21 = .ok (.iadd, 1) := by decide +kernel
theorem dX4_cratePrice_22 : decode cX4_cratePrice 22 = .ok (.ireturn, 1) := by decide +kernel
theorem dX4_bottleReason_0 : decode cX4_bottleReason 0 = .ok (.iload_n 0, 1) := by decide +kernel
theorem dX4_bottleReason_1 : decode cX4_bottleReason 1 = .ok (.iload_n 1, 1) := by decide +kernel
theorem dX4_bottleReason_2 : decode cX4_bottleReason 2 = .ok (.if_icmp .ge 7, 3) := by decide +kernel
theorem dX4_bottleReason_5 : decode cX4_bottleReason 5 = .ok (.iconst 1, 1) := by decide +kernel
theorem dX4_bottleReason_6 : decode cX4_bottleReason 6 = .ok (.goto 4, 3) := by decide +kernel
theorem dX4_bottleReason_9 : decode cX4_bottleReason 9 = .ok (.iconst 0, 1) := by decide +kernel
theorem dX4_bottleReason_10 : decode cX4_bottleReason 10 = .ok (.ireturn, 1) := by decide +kernel
set_option maxRecDepth 20000 in
theorem ggX4_deliverReason_X2_ofBrand : GoodIn wsX4_deliverReason wsX2_ofBrand := goodIn_r _ [5, 6, 7, 8, 3, 9, 10, 31] (by decide +kernel) (by decide +kernel)
set_option maxRecDepth 20000 in
theorem gX4_deliverReason_X2_ofBrand_n22 : GoodIn wsX4_deliverReason (wsX2_ofBrand) := ggX4_deliverReason_X2_ofBrand
set_option maxRecDepth 20000 in
theorem ggX4_deliverReason_X2_ofAll : GoodIn wsX4_deliverReason wsX2_ofAll := goodIn_r _ [13, 6, 7, 8, 3, 9, 10, 31] (by decide +kernel) (by decide +kernel)
set_option maxRecDepth 20000 in
theorem gX4_deliverReason_X2_ofAll_n33 : GoodIn wsX4_deliverReason (wsX2_ofAll) := ggX4_deliverReason_X2_ofAll
set_option maxRecDepth 20000 in
theorem ggX4_deliverReason_X2_ofShop : GoodIn wsX4_deliverReason wsX2_ofShop := goodIn_r _ [16, 6, 7, 8, 3, 9, 10, 31] (by decide +kernel) (by decide +kernel)
set_option maxRecDepth 20000 in
theorem gX4_deliverReason_X2_ofShop_n36 : GoodIn wsX4_deliverReason (wsX2_ofShop) := ggX4_deliverReason_X2_ofShop
set_option maxRecDepth 20000 in
theorem ggX4_deliverReason_X4_cratePrice : GoodIn wsX4_deliverReason wsX4_cratePrice := goodIn_r _ [21, 1, 2, 3, 4, 5, 6, 7, 8, 9, 10, 22, 23, 24, 20, 25, 26, 27, 28, 29, 30, 31] (by decide +kernel) (by decide +kernel)
set_option maxRecDepth 20000 in
theorem gX4_deliverReason_X4_cratePrice : GoodIn wsX4_deliverReason (wsV RX4 39 RX4 yX4_cratePrice wsX4_cratePrice) := goodIn_app (goodIn_of _ (by decide +kernel)) ggX4_deliverReason_X4_cratePrice
theorem dX4_deliverReason_0 : decode cX4_deliverReason 0 = .ok (.aload_n 0, 1) := by decide +kernel
theorem dX4_deliverReason_1 : decode cX4_deliverReason 1 = .ok (.getfield 12, 3) := by decide +kernel
theorem dX4_deliverReason_4 : decode cX4_deliverReason 4 = .ok (.iload_n 1, 1) := by decide +kernel
theorem dX4_deliverReason_5 : decode cX4_deliverReason 5 = .ok (.iconst 2, 1) := by decide +kernel
theorem dX4_deliverReason_6 : decode cX4_deliverReason 6 = .ok (.invokevirtual 22, 3) := by decide +kernel
theorem dX4_deliverReason_9 : decode cX4_deliverReason 9 = .ok (.bipush 12, 2) := by decide +kernel
theorem dX4_deliverReason_11 : decode cX4_deliverReason 11 = .ok (.iload_n 3, 1) := by decide +kernel
theorem dX4_deliverReason_12 : decode cX4_deliverReason 12 = .ok (.imul, 1) := by decide +kernel
theorem dX4_deliverReason_13 : decode cX4_deliverReason 13 = .ok (.if_icmp .ge 5, 3) := by decide +kernel
theorem dX4_deliverReason_16 : decode cX4_deliverReason 16 = .ok (.iconst 1, 1) := by decide +kernel
theorem dX4_deliverReason_17 : decode cX4_deliverReason 17 = .ok (.ireturn, 1) := by decide +kernel
theorem dX4_deliverReason_18 : decode cX4_deliverReason 18 = .ok (.aload_n 0, 1) := by decide +kernel
theorem dX4_deliverReason_19 : decode cX4_deliverReason 19 = .ok (.getfield 12, 3) := by decide +kernel
theorem dX4_deliverReason_22 : decode cX4_deliverReason 22 = .ok (.iconst 2, 1) := by decide +kernel
theorem dX4_deliverReason_23 : decode cX4_deliverReason 23 = .ok (.invokevirtual 33, 3) := by decide +kernel
theorem dX4_deliverReason_26 : decode cX4_deliverReason 26 = .ok (.iload_n 3, 1) := by decide +kernel
theorem dX4_deliverReason_27 : decode cX4_deliverReason 27 = .ok (.if_icmp .ge 5, 3) := by decide +kernel
theorem dX4_deliverReason_30 : decode cX4_deliverReason 30 = .ok (.iconst 2, 1) := by decide +kernel
theorem dX4_deliverReason_31 : decode cX4_deliverReason 31 = .ok (.ireturn, 1) := by decide +kernel
theorem dX4_deliverReason_32 : decode cX4_deliverReason 32 = .ok (.aload_n 0, 1) := by decide +kernel
theorem dX4_deliverReason_33 : decode cX4_deliverReason 33 = .ok (.getfield 12, 3) := by decide +kernel
theorem dX4_deliverReason_36 : decode cX4_deliverReason 36 = .ok (.iload_n 2, 1) := by decide +kernel
theorem dX4_deliverReason_37 : decode cX4_deliverReason 37 = .ok (.iconst 0, 1) := by decide +kernel
theorem dX4_deliverReason_38 : decode cX4_deliverReason 38 = .ok (.invokevirtual 36, 3) := by decide +kernel
theorem dX4_deliverReason_41 : decode cX4_deliverReason 41 = .ok (.iload_n 3, 1) := by decide +kernel
theorem dX4_deliverReason_42 : decode cX4_deliverReason 42 = .ok (.aload_n 0, 1) := by decide +kernel
theorem dX4_deliverReason_43 : decode cX4_deliverReason 43 = .ok (.iload_n 1, 1) := by decide +kernel
theorem dX4_deliverReason_44 : decode cX4_deliverReason 44 = .ok (.invokevirtual 39, 3) := by decide +kernel
theorem dX4_deliverReason_47 : decode cX4_deliverReason 47 = .ok (.imul, 1) := by decide +kernel
theorem dX4_deliverReason_48 : decode cX4_deliverReason 48 = .ok (.if_icmp .ge 7, 3) := by decide +kernel
theorem dX4_deliverReason_51 : decode cX4_deliverReason 51 = .ok (.iconst 3, 1) := by decide +kernel
theorem dX4_deliverReason_52 : decode cX4_deliverReason 52 = .ok (.goto 4, 3) := by decide +kernel
theorem dX4_deliverReason_55 : decode cX4_deliverReason 55 = .ok (.iconst 0, 1) := by decide +kernel
theorem dX4_deliverReason_56 : decode cX4_deliverReason 56 = .ok (.ireturn, 1) := by decide +kernel
set_option maxRecDepth 20000 in
theorem ggX4_sellReason_X2_ofShop : GoodIn wsX4_sellReason wsX2_ofShop := goodIn_r _ [5, 6, 7, 8, 3, 9, 10, 17] (by decide +kernel) (by decide +kernel)
set_option maxRecDepth 20000 in
theorem gX4_sellReason_X2_ofShop_n36 : GoodIn wsX4_sellReason (wsX2_ofShop) := ggX4_sellReason_X2_ofShop
set_option maxRecDepth 20000 in
theorem ggX4_sellReason_X4_bottleReason : GoodIn wsX4_sellReason wsX4_bottleReason := goodIn_r _ [14] (by decide +kernel) (by decide +kernel)
set_option maxRecDepth 20000 in
theorem gX4_sellReason_X4_bottleReason : GoodIn wsX4_sellReason (va_wsS RX4 42 yX4_bottleReason wsX4_bottleReason) := goodIn_app (goodIn_of _ (by decide +kernel)) ggX4_sellReason_X4_bottleReason
theorem dX4_sellReason_0 : decode cX4_sellReason 0 = .ok (.aload_n 0, 1) := by decide +kernel
theorem dX4_sellReason_1 : decode cX4_sellReason 1 = .ok (.getfield 12, 3) := by decide +kernel
theorem dX4_sellReason_4 : decode cX4_sellReason 4 = .ok (.iload_n 1, 1) := by decide +kernel
theorem dX4_sellReason_5 : decode cX4_sellReason 5 = .ok (.bipush 10, 2) := by decide +kernel
theorem dX4_sellReason_7 : decode cX4_sellReason 7 = .ok (.iload_n 2, 1) := by decide +kernel
theorem dX4_sellReason_8 : decode cX4_sellReason 8 = .ok (.iadd, 1) := by decide +kernel
theorem dX4_sellReason_9 : decode cX4_sellReason 9 = .ok (.invokevirtual 36, 3) := by decide +kernel
theorem dX4_sellReason_12 : decode cX4_sellReason 12 = .ok (.iload_n 3, 1) := by decide +kernel
theorem dX4_sellReason_13 : decode cX4_sellReason 13 = .ok (.invokestatic 42, 3) := by decide +kernel
theorem dX4_sellReason_16 : decode cX4_sellReason 16 = .ok (.ireturn, 1) := by decide +kernel
set_option maxRecDepth 20000 in
theorem ggX4_returnReason_X2_ofBrand : GoodIn wsX4_returnReason wsX2_ofBrand := goodIn_r _ [5, 6, 7, 8, 3, 9, 10, 24] (by decide +kernel) (by decide +kernel)
set_option maxRecDepth 20000 in
theorem gX4_returnReason_X2_ofBrand_n22 : GoodIn wsX4_returnReason (wsX2_ofBrand) := ggX4_returnReason_X2_ofBrand
set_option maxRecDepth 20000 in
theorem ggX4_returnReason_X2_ofShop : GoodIn wsX4_returnReason wsX2_ofShop := goodIn_r _ [13, 6, 7, 8, 3, 9, 10, 24] (by decide +kernel) (by decide +kernel)
set_option maxRecDepth 20000 in
theorem gX4_returnReason_X2_ofShop_n36 : GoodIn wsX4_returnReason (wsX2_ofShop) := ggX4_returnReason_X2_ofShop
set_option maxRecDepth 20000 in
theorem ggX4_returnReason_X4_depositOf : GoodIn wsX4_returnReason wsX4_depositOf := goodIn_r _ [18, 1, 2, 3, 4, 5, 6, 7, 8, 9, 10, 19, 20, 21, 22, 23, 24] (by decide +kernel) (by decide +kernel)
set_option maxRecDepth 20000 in
theorem gX4_returnReason_X4_depositOf : GoodIn wsX4_returnReason (wsV RX4 45 RX4 yX4_depositOf wsX4_depositOf) := goodIn_app (goodIn_of _ (by decide +kernel)) ggX4_returnReason_X4_depositOf
theorem dX4_returnReason_0 : decode cX4_returnReason 0 = .ok (.aload_n 0, 1) := by decide +kernel
theorem dX4_returnReason_1 : decode cX4_returnReason 1 = .ok (.getfield 12, 3) := by decide +kernel
theorem dX4_returnReason_4 : decode cX4_returnReason 4 = .ok (.iload_n 2, 1) := by decide +kernel
theorem dX4_returnReason_5 : decode cX4_returnReason 5 = .ok (.iconst 5, 1) := by decide +kernel
theorem dX4_returnReason_6 : decode cX4_returnReason 6 = .ok (.invokevirtual 22, 3) := by decide +kernel
theorem dX4_returnReason_9 : decode cX4_returnReason 9 = .ok (.iload_n 3, 1) := by decide +kernel
theorem dX4_returnReason_10 : decode cX4_returnReason 10 = .ok (.if_icmp .ge 5, 3) := by decide +kernel
theorem dX4_returnReason_13 : decode cX4_returnReason 13 = .ok (.iconst 1, 1) := by decide +kernel
theorem dX4_returnReason_14 : decode cX4_returnReason 14 = .ok (.ireturn, 1) := by decide +kernel
theorem dX4_returnReason_15 : decode cX4_returnReason 15 = .ok (.aload_n 0, 1) := by decide +kernel
theorem dX4_returnReason_16 : decode cX4_returnReason 16 = .ok (.getfield 12, 3) := by decide +kernel
theorem dX4_returnReason_19 : decode cX4_returnReason 19 = .ok (.iload_n 1, 1) := by decide +kernel
theorem dX4_returnReason_20 : decode cX4_returnReason 20 = .ok (.iconst 0, 1) := by decide +kernel
theorem dX4_returnReason_21 : decode cX4_returnReason 21 = .ok (.invokevirtual 36, 3) := by decide +kernel
theorem dX4_returnReason_24 : decode cX4_returnReason 24 = .ok (.iload_n 3, 1) := by decide +kernel
theorem dX4_returnReason_25 : decode cX4_returnReason 25 = .ok (.aload_n 0, 1) := by decide +kernel
theorem dX4_returnReason_26 : decode cX4_returnReason 26 = .ok (.iload_n 2, 1) := by decide +kernel
theorem dX4_returnReason_27 : decode cX4_returnReason 27 = .ok (.invokevirtual 45, 3) := by decide +kernel
theorem dX4_returnReason_30 : decode cX4_returnReason 30 = .ok (.imul, 1) := by decide +kernel
theorem dX4_returnReason_31 : decode cX4_returnReason 31 = .ok (.if_icmp .ge 7, 3) := by decide +kernel
theorem dX4_returnReason_34 : decode cX4_returnReason 34 = .ok (.iconst 3, 1) := by decide +kernel
theorem dX4_returnReason_35 : decode cX4_returnReason 35 = .ok (.goto 4, 3) := by decide +kernel
theorem dX4_returnReason_38 : decode cX4_returnReason 38 = .ok (.iconst 0, 1) := by decide +kernel
theorem dX4_returnReason_39 : decode cX4_returnReason 39 = .ok (.ireturn, 1) := by decide +kernel
set_option maxRecDepth 20000 in
theorem ggX4_breakReason_X2_ofShop : GoodIn wsX4_breakReason wsX2_ofShop := goodIn_r _ [5, 6, 7, 8, 3, 9, 10, 17] (by decide +kernel) (by decide +kernel)
set_option maxRecDepth 20000 in
theorem gX4_breakReason_X2_ofShop_n36 : GoodIn wsX4_breakReason (wsX2_ofShop) := ggX4_breakReason_X2_ofShop
set_option maxRecDepth 20000 in
theorem ggX4_breakReason_X4_bottleReason : GoodIn wsX4_breakReason wsX4_bottleReason := goodIn_r _ [14] (by decide +kernel) (by decide +kernel)
set_option maxRecDepth 20000 in
theorem gX4_breakReason_X4_bottleReason : GoodIn wsX4_breakReason (va_wsS RX4 42 yX4_bottleReason wsX4_bottleReason) := goodIn_app (goodIn_of _ (by decide +kernel)) ggX4_breakReason_X4_bottleReason
theorem dX4_breakReason_0 : decode cX4_breakReason 0 = .ok (.aload_n 0, 1) := by decide +kernel
theorem dX4_breakReason_1 : decode cX4_breakReason 1 = .ok (.getfield 12, 3) := by decide +kernel
theorem dX4_breakReason_4 : decode cX4_breakReason 4 = .ok (.iload_n 1, 1) := by decide +kernel
theorem dX4_breakReason_5 : decode cX4_breakReason 5 = .ok (.bipush 20, 2) := by decide +kernel
theorem dX4_breakReason_7 : decode cX4_breakReason 7 = .ok (.iload_n 2, 1) := by decide +kernel
theorem dX4_breakReason_8 : decode cX4_breakReason 8 = .ok (.iadd, 1) := by decide +kernel
theorem dX4_breakReason_9 : decode cX4_breakReason 9 = .ok (.invokevirtual 36, 3) := by decide +kernel
theorem dX4_breakReason_12 : decode cX4_breakReason 12 = .ok (.iload_n 3, 1) := by decide +kernel
theorem dX4_breakReason_13 : decode cX4_breakReason 13 = .ok (.invokestatic 42, 3) := by decide +kernel
theorem dX4_breakReason_16 : decode cX4_breakReason 16 = .ok (.ireturn, 1) := by decide +kernel
set_option maxRecDepth 20000 in
theorem ggX4_collectReason_X4_emptiesOf : GoodIn wsX4_collectReason wsX4_emptiesOf := goodIn_r _ [6, 1, 7, 8, 9, 10, 11, 12, 13, 14, 15, 16, 17, 18, 19, 20, 21] (by decide +kernel) (by decide +kernel)
set_option maxRecDepth 20000 in
theorem gX4_collectReason_X4_emptiesOf : GoodIn wsX4_collectReason (wsV RX4 48 RX4 yX4_emptiesOf wsX4_emptiesOf) := goodIn_app (goodIn_of _ (by decide +kernel)) ggX4_collectReason_X4_emptiesOf
set_option maxRecDepth 20000 in
theorem ggX4_collectReason_X2_ofShop : GoodIn wsX4_collectReason wsX2_ofShop := goodIn_r _ [18, 11, 12, 13, 8, 14, 15, 21] (by decide +kernel) (by decide +kernel)
set_option maxRecDepth 20000 in
theorem gX4_collectReason_X2_ofShop_n36 : GoodIn wsX4_collectReason (wsX2_ofShop) := ggX4_collectReason_X2_ofShop
theorem dX4_collectReason_0 : decode cX4_collectReason 0 = .ok (.aload_n 0, 1) := by decide +kernel
theorem dX4_collectReason_1 : decode cX4_collectReason 1 = .ok (.iload_n 1, 1) := by decide +kernel
theorem dX4_collectReason_2 : decode cX4_collectReason 2 = .ok (.iload_n 2, 1) := by decide +kernel
theorem dX4_collectReason_3 : decode cX4_collectReason 3 = .ok (.invokevirtual 48, 3) := by decide +kernel
theorem dX4_collectReason_6 : decode cX4_collectReason 6 = .ok (.bipush 12, 2) := by decide +kernel
theorem dX4_collectReason_8 : decode cX4_collectReason 8 = .ok (.iload_n 3, 1) := by decide +kernel
theorem dX4_collectReason_9 : decode cX4_collectReason 9 = .ok (.imul, 1) := by decide +kernel
theorem dX4_collectReason_10 : decode cX4_collectReason 10 = .ok (.if_icmp .ge 5, 3) := by decide +kernel
theorem dX4_collectReason_13 : decode cX4_collectReason 13 = .ok (.iconst 1, 1) := by decide +kernel
theorem dX4_collectReason_14 : decode cX4_collectReason 14 = .ok (.ireturn, 1) := by decide +kernel
theorem dX4_collectReason_15 : decode cX4_collectReason 15 = .ok (.aload_n 0, 1) := by decide +kernel
theorem dX4_collectReason_16 : decode cX4_collectReason 16 = .ok (.getfield 12, 3) := by decide +kernel
theorem dX4_collectReason_19 : decode cX4_collectReason 19 = .ok (.iload_n 1, 1) := by decide +kernel
theorem dX4_collectReason_20 : decode cX4_collectReason 20 = .ok (.iconst 1, 1) := by decide +kernel
theorem dX4_collectReason_21 : decode cX4_collectReason 21 = .ok (.invokevirtual 36, 3) := by decide +kernel
theorem dX4_collectReason_24 : decode cX4_collectReason 24 = .ok (.iload_n 3, 1) := by decide +kernel
theorem dX4_collectReason_25 : decode cX4_collectReason 25 = .ok (.if_icmp .ge 7, 3) := by decide +kernel
theorem dX4_collectReason_28 : decode cX4_collectReason 28 = .ok (.iconst 2, 1) := by decide +kernel
theorem dX4_collectReason_29 : decode cX4_collectReason 29 = .ok (.goto 4, 3) := by decide +kernel
theorem dX4_collectReason_32 : decode cX4_collectReason 32 = .ok (.iconst 0, 1) := by decide +kernel
theorem dX4_collectReason_33 : decode cX4_collectReason 33 = .ok (.ireturn, 1) := by decide +kernel
set_option maxRecDepth 20000 in
theorem ggX4_fillBottles_X4_wornBy : GoodIn wsX4_fillBottles wsX4_wornBy := goodIn_r _ [6, 1, 7, 8, 9, 10, 11, 12, 13, 14, 15, 16, 17, 18, 26, 27, 28] (by decide +kernel) (by decide +kernel)
set_option maxRecDepth 20000 in
theorem gX4_fillBottles_X4_wornBy : GoodIn wsX4_fillBottles (wsV RX4 51 RX4 yX4_wornBy wsX4_wornBy) := goodIn_app (goodIn_of _ (by decide +kernel)) ggX4_fillBottles_X4_wornBy
set_option maxRecDepth 20000 in
theorem ggX4_fillBottles_X2_addToBrand : GoodIn wsX4_fillBottles wsX2_addToBrand := goodIn_r _ [21, 11, 12, 13, 8, 14, 15, 22, 23, 24, 25, 28] (by decide +kernel) (by decide +kernel)
set_option maxRecDepth 20000 in
theorem gX4_fillBottles_X2_addToBrand_n54 : GoodIn wsX4_fillBottles (wsX2_addToBrand) := ggX4_fillBottles_X2_addToBrand
theorem dX4_fillBottles_0 : decode cX4_fillBottles 0 = .ok (.aload_n 0, 1) := by decide +kernel
theorem dX4_fillBottles_1 : decode cX4_fillBottles 1 = .ok (.iload_n 1, 1) := by decide +kernel
theorem dX4_fillBottles_2 : decode cX4_fillBottles 2 = .ok (.iload_n 2, 1) := by decide +kernel
theorem dX4_fillBottles_3 : decode cX4_fillBottles 3 = .ok (.invokevirtual 51, 3) := by decide +kernel
theorem dX4_fillBottles_6 : decode cX4_fillBottles 6 = .ok (.istore_n 3, 1) := by decide +kernel
theorem dX4_fillBottles_7 : decode cX4_fillBottles 7 = .ok (.aload_n 0, 1) := by decide +kernel
theorem dX4_fillBottles_8 : decode cX4_fillBottles 8 = .ok (.getfield 12, 3) := by decide +kernel
theorem dX4_fillBottles_11 : decode cX4_fillBottles 11 = .ok (.iload_n 1, 1) := by decide +kernel
theorem dX4_fillBottles_12 : decode cX4_fillBottles 12 = .ok (.iconst 1, 1) := by decide +kernel
theorem dX4_fillBottles_13 : decode cX4_fillBottles 13 = .ok (.iload_n 2, 1) := by decide +kernel
theorem dX4_fillBottles_14 : decode cX4_fillBottles 14 = .ok (.ineg, 1) := by decide +kernel
theorem dX4_fillBottles_15 : decode cX4_fillBottles 15 = .ok (.invokevirtual 54, 3) := by decide +kernel
theorem dX4_fillBottles_18 : decode cX4_fillBottles 18 = .ok (.aload_n 0, 1) := by decide +kernel
theorem dX4_fillBottles_19 : decode cX4_fillBottles 19 = .ok (.getfield 12, 3) := by decide +kernel
theorem dX4_fillBottles_22 : decode cX4_fillBottles 22 = .ok (.iload_n 1, 1) := by decide +kernel
theorem dX4_fillBottles_23 : decode cX4_fillBottles 23 = .ok (.iconst 2, 1) := by decide +kernel
theorem dX4_fillBottles_24 : decode cX4_fillBottles 24 = .ok (.iload_n 2, 1) := by decide +kernel
theorem dX4_fillBottles_25 : decode cX4_fillBottles 25 = .ok (.iload_n 3, 1) := by decide +kernel
theorem dX4_fillBottles_26 : decode cX4_fillBottles 26 = .ok (.isub, 1) := by decide +kernel
theorem dX4_fillBottles_27 : decode cX4_fillBottles 27 = .ok (.invokevirtual 54, 3) := by decide +kernel
theorem dX4_fillBottles_30 : decode cX4_fillBottles 30 = .ok (.aload_n 0, 1) := by decide +kernel
theorem dX4_fillBottles_31 : decode cX4_fillBottles 31 = .ok (.getfield 12, 3) := by decide +kernel
theorem dX4_fillBottles_34 : decode cX4_fillBottles 34 = .ok (.iload_n 1, 1) := by decide +kernel
theorem dX4_fillBottles_35 : decode cX4_fillBottles 35 = .ok (.bipush 9, 2) := by decide +kernel
theorem dX4_fillBottles_37 : decode cX4_fillBottles 37 = .ok (.iload_n 3, 1) := by decide +kernel
theorem dX4_fillBottles_38 : decode cX4_fillBottles 38 = .ok (.invokevirtual 54, 3) := by decide +kernel
theorem dX4_fillBottles_41 : decode cX4_fillBottles 41 = .ok (.aload_n 0, 1) := by decide +kernel
theorem dX4_fillBottles_42 : decode cX4_fillBottles 42 = .ok (.getfield 12, 3) := by decide +kernel
theorem dX4_fillBottles_45 : decode cX4_fillBottles 45 = .ok (.iload_n 1, 1) := by decide +kernel
theorem dX4_fillBottles_46 : decode cX4_fillBottles 46 = .ok (.bipush 10, 2) := by decide +kernel
theorem dX4_fillBottles_48 : decode cX4_fillBottles 48 = .ok (.iload_n 2, 1) := by decide +kernel
theorem dX4_fillBottles_49 : decode cX4_fillBottles 49 = .ok (.invokevirtual 54, 3) := by decide +kernel
theorem dX4_fillBottles_52 : decode cX4_fillBottles 52 = .ok (.iload_n 2, 1) := by decide +kernel
theorem dX4_fillBottles_53 : decode cX4_fillBottles 53 = .ok (.iload_n 3, 1) := by decide +kernel
theorem dX4_fillBottles_54 : decode cX4_fillBottles 54 = .ok (.isub, 1) := by decide +kernel
theorem dX4_fillBottles_55 : decode cX4_fillBottles 55 = .ok (.ireturn, 1) := by decide +kernel
set_option maxRecDepth 20000 in
theorem ggX4_deliverCrates_X2_ofBrand : GoodIn wsX4_deliverCrates wsX2_ofBrand := goodIn_r _ [5, 6, 7, 8, 3, 9, 10, 34] (by decide +kernel) (by decide +kernel)
set_option maxRecDepth 20000 in
theorem gX4_deliverCrates_X2_ofBrand_n22 : GoodIn wsX4_deliverCrates (wsX2_ofBrand) := ggX4_deliverCrates_X2_ofBrand
set_option maxRecDepth 20000 in
theorem ggX4_deliverCrates_X4_crateDeposits : GoodIn wsX4_deliverCrates wsX4_crateDeposits := goodIn_r _ [15, 1, 16, 3, 17, 18, 6, 7, 8, 9, 10, 32, 33, 34] (by decide +kernel) (by decide +kernel)
set_option maxRecDepth 20000 in
theorem gX4_deliverCrates_X4_crateDeposits : GoodIn wsX4_deliverCrates (wsV RX4 30 RX4 yX4_crateDeposits wsX4_crateDeposits) := goodIn_app (goodIn_of _ (by decide +kernel)) ggX4_deliverCrates_X4_crateDeposits
set_option maxRecDepth 20000 in
theorem ggX4_deliverCrates_X2_ofSetting : GoodIn wsX4_deliverCrates wsX2_ofSetting := goodIn_r _ [18, 6, 7, 8, 3, 9, 10, 34] (by decide +kernel) (by decide +kernel)
set_option maxRecDepth 20000 in
theorem gX4_deliverCrates_X2_ofSetting_n26 : GoodIn wsX4_deliverCrates (wsX2_ofSetting) := ggX4_deliverCrates_X2_ofSetting
set_option maxRecDepth 20000 in
theorem ggX4_deliverCrates_X2_addToBrand : GoodIn wsX4_deliverCrates wsX2_addToBrand := goodIn_r _ [21, 6, 7, 8, 3, 9, 10, 22, 23, 24, 25, 34] (by decide +kernel) (by decide +kernel)
set_option maxRecDepth 20000 in
theorem gX4_deliverCrates_X2_addToBrand_n54 : GoodIn wsX4_deliverCrates (wsX2_addToBrand) := ggX4_deliverCrates_X2_addToBrand
set_option maxRecDepth 20000 in
theorem ggX4_deliverCrates_X2_addToShop : GoodIn wsX4_deliverCrates wsX2_addToShop := goodIn_r _ [28, 6, 7, 8, 3, 9, 10, 22, 23, 24, 25, 34] (by decide +kernel) (by decide +kernel)
set_option maxRecDepth 20000 in
theorem gX4_deliverCrates_X2_addToShop_n58 : GoodIn wsX4_deliverCrates (wsX2_addToShop) := ggX4_deliverCrates_X2_addToShop
set_option maxRecDepth 20000 in
theorem ggX4_deliverCrates_X2_addToAll : GoodIn wsX4_deliverCrates wsX2_addToAll := goodIn_r _ [31, 6, 7, 8, 3, 9, 10, 22, 23, 24, 25, 34] (by decide +kernel) (by decide +kernel)
set_option maxRecDepth 20000 in
theorem gX4_deliverCrates_X2_addToAll_n61 : GoodIn wsX4_deliverCrates (wsX2_addToAll) := ggX4_deliverCrates_X2_addToAll
theorem dX4_deliverCrates_0 : decode cX4_deliverCrates 0 = .ok (.iload_n 3, 1) := by decide +kernel
theorem dX4_deliverCrates_1 : decode cX4_deliverCrates 1 = .ok (.aload_n 0, 1) := by decide +kernel
theorem dX4_deliverCrates_2 : decode cX4_deliverCrates 2 = .ok (.aload_n 0, 1) := by decide +kernel
theorem dX4_deliverCrates_3 : decode cX4_deliverCrates 3 = .ok (.getfield 12, 3) := by decide +kernel
theorem dX4_deliverCrates_6 : decode cX4_deliverCrates 6 = .ok (.iload_n 1, 1) := by decide +kernel
theorem dX4_deliverCrates_7 : decode cX4_deliverCrates 7 = .ok (.iconst 0, 1) := by decide +kernel
theorem dX4_deliverCrates_8 : decode cX4_deliverCrates 8 = .ok (.invokevirtual 22, 3) := by decide +kernel
theorem dX4_deliverCrates_11 : decode cX4_deliverCrates 11 = .ok (.invokevirtual 30, 3) := by decide +kernel
theorem dX4_deliverCrates_14 : decode cX4_deliverCrates 14 = .ok (.imul, 1) := by decide +kernel
theorem dX4_deliverCrates_15 : decode cX4_deliverCrates 15 = .ok (.istore 4, 2) := by decide +kernel
theorem dX4_deliverCrates_17 : decode cX4_deliverCrates 17 = .ok (.iload_n 3, 1) := by decide +kernel
theorem dX4_deliverCrates_18 : decode cX4_deliverCrates 18 = .ok (.aload_n 0, 1) := by decide +kernel
theorem dX4_deliverCrates_19 : decode cX4_deliverCrates 19 = .ok (.getfield 12, 3) := by decide +kernel
theorem dX4_deliverCrates_22 : decode cX4_deliverCrates 22 = .ok (.iconst 4, 1) := by decide +kernel
theorem dX4_deliverCrates_23 : decode cX4_deliverCrates 23 = .ok (.invokevirtual 26, 3) := by decide +kernel
theorem dX4_deliverCrates_26 : decode cX4_deliverCrates 26 = .ok (.imul, 1) := by decide +kernel
theorem dX4_deliverCrates_27 : decode cX4_deliverCrates 27 = .ok (.istore 5, 2) := by decide +kernel
theorem dX4_deliverCrates_29 : decode cX4_deliverCrates 29 = .ok (.aload_n 0, 1) := by decide +kernel
theorem dX4_deliverCrates_30 : decode cX4_deliverCrates 30 = .ok (.getfield 12, 3) := by decide +kernel
theorem dX4_deliverCrates_33 : decode cX4_deliverCrates 33 = .ok (.iload_n 1, 1) := by decide +kernel
theorem dX4_deliverCrates_34 : decode cX4_deliverCrates 34 = .ok (.iconst 2, 1) := by decide +kernel
theorem dX4_deliverCrates_35 : decode cX4_deliverCrates 35 = .ok (.bipush (-12), 2) := by decide +kernel
theorem dX4_deliverCrates_37 : decode cX4_deliverCrates 37 = .ok (.iload_n 3, 1) := by decide +kernel
theorem dX4_deliverCrates_38 : decode cX4_deliverCrates 38 = .ok (.imul, 1) := by decide +kernel
theorem dX4_deliverCrates_39 : decode cX4_deliverCrates 39 = .ok (.invokevirtual 54, 3) := by decide +kernel
theorem dX4_deliverCrates_42 : decode cX4_deliverCrates 42 = .ok (.aload_n 0, 1) := by decide +kernel
theorem dX4_deliverCrates_43 : decode cX4_deliverCrates 43 = .ok (.getfield 12, 3) := by decide +kernel
theorem dX4_deliverCrates_46 : decode cX4_deliverCrates 46 = .ok (.iload_n 2, 1) := by decide +kernel
theorem dX4_deliverCrates_47 : decode cX4_deliverCrates 47 = .ok (.bipush 10, 2) := by decide +kernel
theorem dX4_deliverCrates_49 : decode cX4_deliverCrates 49 = .ok (.iload_n 1, 1) := by decide +kernel
theorem dX4_deliverCrates_50 : decode cX4_deliverCrates 50 = .ok (.iadd, 1) := by decide +kernel
theorem dX4_deliverCrates_51 : decode cX4_deliverCrates 51 = .ok (.bipush 12, 2) := by decide +kernel
theorem dX4_deliverCrates_53 : decode cX4_deliverCrates 53 = .ok (.iload_n 3, 1) := by decide +kernel
theorem dX4_deliverCrates_54 : decode cX4_deliverCrates 54 = .ok (.imul, 1) := by decide +kernel
theorem dX4_deliverCrates_55 : decode cX4_deliverCrates 55 = .ok (.invokevirtual 58, 3) := by decide +kernel
theorem dX4_deliverCrates_58 : decode cX4_deliverCrates 58 = .ok (.aload_n 0, 1) := by decide +kernel
theorem dX4_deliverCrates_59 : decode cX4_deliverCrates 59 = .ok (.getfield 12, 3) := by decide +kernel
theorem dX4_deliverCrates_62 : decode cX4_deliverCrates 62 = .ok (.iconst 2, 1) := by decide +kernel
theorem dX4_deliverCrates_63 : decode cX4_deliverCrates 63 = .ok (.iload_n 3, 1) := by decide +kernel
theorem dX4_deliverCrates_64 : decode cX4_deliverCrates 64 = .ok (.ineg, 1) := by decide +kernel
theorem dX4_deliverCrates_65 : decode cX4_deliverCrates 65 = .ok (.invokevirtual 61, 3) := by decide +kernel
theorem dX4_deliverCrates_68 : decode cX4_deliverCrates 68 = .ok (.aload_n 0, 1) := by decide +kernel
theorem dX4_deliverCrates_69 : decode cX4_deliverCrates 69 = .ok (.getfield 12, 3) := by decide +kernel
theorem dX4_deliverCrates_72 : decode cX4_deliverCrates 72 = .ok (.iload_n 2, 1) := by decide +kernel
theorem dX4_deliverCrates_73 : decode cX4_deliverCrates 73 = .ok (.iconst 1, 1) := by decide +kernel
theorem dX4_deliverCrates_74 : decode cX4_deliverCrates 74 = .ok (.iload_n 3, 1) := by decide +kernel
theorem dX4_deliverCrates_75 : decode cX4_deliverCrates 75 = .ok (.invokevirtual 58, 3) := by decide +kernel
theorem dX4_deliverCrates_78 : decode cX4_deliverCrates 78 = .ok (.aload_n 0, 1) := by decide +kernel
theorem dX4_deliverCrates_79 : decode cX4_deliverCrates 79 = .ok (.getfield 12, 3) := by decide +kernel
theorem dX4_deliverCrates_82 : decode cX4_deliverCrates 82 = .ok (.iload_n 2, 1) := by decide +kernel
theorem dX4_deliverCrates_83 : decode cX4_deliverCrates 83 = .ok (.iconst 0, 1) := by decide +kernel
theorem dX4_deliverCrates_84 : decode cX4_deliverCrates 84 = .ok (.iload 4, 2) := by decide +kernel
theorem dX4_deliverCrates_86 : decode cX4_deliverCrates 86 = .ok (.ineg, 1) := by decide +kernel
theorem dX4_deliverCrates_87 : decode cX4_deliverCrates 87 = .ok (.iload 5, 2) := by decide +kernel
theorem dX4_deliverCrates_89 : decode cX4_deliverCrates 89 = .ok (.isub, 1) := by decide +kernel
theorem dX4_deliverCrates_90 : decode cX4_deliverCrates 90 = .ok (.invokevirtual 58, 3) := by decide +kernel
theorem dX4_deliverCrates_93 : decode cX4_deliverCrates 93 = .ok (.aload_n 0, 1) := by decide +kernel
theorem dX4_deliverCrates_94 : decode cX4_deliverCrates 94 = .ok (.getfield 12, 3) := by decide +kernel
theorem dX4_deliverCrates_97 : decode cX4_deliverCrates 97 = .ok (.iload_n 2, 1) := by decide +kernel
theorem dX4_deliverCrates_98 : decode cX4_deliverCrates 98 = .ok (.iconst 4, 1) := by decide +kernel
theorem dX4_deliverCrates_99 : decode cX4_deliverCrates 99 = .ok (.iload 4, 2) := by decide +kernel
theorem dX4_deliverCrates_101 : decode cX4_deliverCrates 101 = .ok (.invokevirtual 58, 3) := by decide +kernel
theorem dX4_deliverCrates_104 : decode cX4_deliverCrates 104 = .ok (.aload_n 0, 1) := by decide +kernel
theorem dX4_deliverCrates_105 : decode cX4_deliverCrates 105 = .ok (.getfield 12, 3) := by decide +kernel
theorem dX4_deliverCrates_108 : decode cX4_deliverCrates 108 = .ok (.iconst 4, 1) := by decide +kernel
theorem dX4_deliverCrates_109 : decode cX4_deliverCrates 109 = .ok (.iload 4, 2) := by decide +kernel
theorem dX4_deliverCrates_111 : decode cX4_deliverCrates 111 = .ok (.invokevirtual 61, 3) := by decide +kernel
theorem dX4_deliverCrates_114 : decode cX4_deliverCrates 114 = .ok (.aload_n 0, 1) := by decide +kernel
theorem dX4_deliverCrates_115 : decode cX4_deliverCrates 115 = .ok (.getfield 12, 3) := by decide +kernel
theorem dX4_deliverCrates_118 : decode cX4_deliverCrates 118 = .ok (.iload_n 2, 1) := by decide +kernel
theorem dX4_deliverCrates_119 : decode cX4_deliverCrates 119 = .ok (.iconst 5, 1) := by decide +kernel
theorem dX4_deliverCrates_120 : decode cX4_deliverCrates 120 = .ok (.iload 5, 2) := by decide +kernel
theorem dX4_deliverCrates_122 : decode cX4_deliverCrates 122 = .ok (.invokevirtual 58, 3) := by decide +kernel
theorem dX4_deliverCrates_125 : decode cX4_deliverCrates 125 = .ok (.aload_n 0, 1) := by decide +kernel
theorem dX4_deliverCrates_126 : decode cX4_deliverCrates 126 = .ok (.getfield 12, 3) := by decide +kernel
theorem dX4_deliverCrates_129 : decode cX4_deliverCrates 129 = .ok (.bipush 6, 2) := by decide +kernel
theorem dX4_deliverCrates_131 : decode cX4_deliverCrates 131 = .ok (.iload 5, 2) := by decide +kernel
theorem dX4_deliverCrates_133 : decode cX4_deliverCrates 133 = .ok (.invokevirtual 61, 3) := by decide +kernel
theorem dX4_deliverCrates_136 : decode cX4_deliverCrates 136 = .ok (.iload 4, 2) := by decide +kernel
theorem dX4_deliverCrates_138 : decode cX4_deliverCrates 138 = .ok (.iload 5, 2) := by decide +kernel
theorem dX4_deliverCrates_140 : decode cX4_deliverCrates 140 = .ok (.iadd, 1) := by decide +kernel
theorem dX4_deliverCrates_141 : decode cX4_deliverCrates 141 = .ok (.ireturn, 1) := by decide +kernel
set_option maxRecDepth 20000 in
theorem ggX4_sellBottles_X2_addToShop : GoodIn wsX4_sellBottles wsX2_addToShop := goodIn_r _ [5, 6, 7, 8, 3, 9, 10, 11, 12, 13, 14, 34] (by decide +kernel) (by decide +kernel)
set_option maxRecDepth 20000 in
theorem gX4_sellBottles_X2_addToShop_n58 : GoodIn wsX4_sellBottles (wsX2_addToShop) := ggX4_sellBottles_X2_addToShop
set_option maxRecDepth 20000 in
theorem ggX4_sellBottles_X2_addToBrand : GoodIn wsX4_sellBottles wsX2_addToBrand := goodIn_r _ [17, 6, 7, 8, 3, 9, 10, 11, 12, 13, 14, 34] (by decide +kernel) (by decide +kernel)
set_option maxRecDepth 20000 in
theorem gX4_sellBottles_X2_addToBrand_n54 : GoodIn wsX4_sellBottles (wsX2_addToBrand) := ggX4_sellBottles_X2_addToBrand
set_option maxRecDepth 20000 in
theorem ggX4_sellBottles_X4_depositOf : GoodIn wsX4_sellBottles wsX4_depositOf := goodIn_r _ [22, 1, 23, 3, 24, 25, 6, 7, 8, 9, 10, 26, 27, 28, 32, 33, 34] (by decide +kernel) (by decide +kernel)
set_option maxRecDepth 20000 in
theorem gX4_sellBottles_X4_depositOf : GoodIn wsX4_sellBottles (wsV RX4 45 RX4 yX4_depositOf wsX4_depositOf) := goodIn_app (goodIn_of _ (by decide +kernel)) ggX4_sellBottles_X4_depositOf
set_option maxRecDepth 20000 in
theorem ggX4_sellBottles_X2_ofShop : GoodIn wsX4_sellBottles wsX2_ofShop := goodIn_r _ [31, 6, 7, 8, 3, 9, 10, 34] (by decide +kernel) (by decide +kernel)
set_option maxRecDepth 20000 in
theorem gX4_sellBottles_X2_ofShop_n36 : GoodIn wsX4_sellBottles (wsX2_ofShop) := ggX4_sellBottles_X2_ofShop
theorem dX4_sellBottles_0 : decode cX4_sellBottles 0 = .ok (.aload_n 0, 1) := by decide +kernel
theorem dX4_sellBottles_1 : decode cX4_sellBottles 1 = .ok (.getfield 12, 3) := by decide +kernel
theorem dX4_sellBottles_4 : decode cX4_sellBottles 4 = .ok (.iload_n 1, 1) := by decide +kernel
theorem dX4_sellBottles_5 : decode cX4_sellBottles 5 = .ok (.bipush 10, 2) := by decide +kernel
theorem dX4_sellBottles_7 : decode cX4_sellBottles 7 = .ok (.iload_n 2, 1) := by decide +kernel
theorem dX4_sellBottles_8 : decode cX4_sellBottles 8 = .ok (.iadd, 1) := by decide +kernel
theorem dX4_sellBottles_9 : decode cX4_sellBottles 9 = .ok (.iload_n 3, 1) := by decide +kernel
theorem dX4_sellBottles_10 : decode cX4_sellBottles 10 = .ok (.ineg, 1) := by decide +kernel
theorem dX4_sellBottles_11 : decode cX4_sellBottles 11 = .ok (.invokevirtual 58, 3) := by decide +kernel
theorem dX4_sellBottles_14 : decode cX4_sellBottles 14 = .ok (.aload_n 0, 1) := by decide +kernel
theorem dX4_sellBottles_15 : decode cX4_sellBottles 15 = .ok (.getfield 12, 3) := by decide +kernel
theorem dX4_sellBottles_18 : decode cX4_sellBottles 18 = .ok (.iload_n 2, 1) := by decide +kernel
theorem dX4_sellBottles_19 : decode cX4_sellBottles 19 = .ok (.iconst 5, 1) := by decide +kernel
theorem dX4_sellBottles_20 : decode cX4_sellBottles 20 = .ok (.iload_n 3, 1) := by decide +kernel
theorem dX4_sellBottles_21 : decode cX4_sellBottles 21 = .ok (.invokevirtual 54, 3) := by decide +kernel
theorem dX4_sellBottles_24 : decode cX4_sellBottles 24 = .ok (.aload_n 0, 1) := by decide +kernel
theorem dX4_sellBottles_25 : decode cX4_sellBottles 25 = .ok (.getfield 12, 3) := by decide +kernel
theorem dX4_sellBottles_28 : decode cX4_sellBottles 28 = .ok (.iload_n 1, 1) := by decide +kernel
theorem dX4_sellBottles_29 : decode cX4_sellBottles 29 = .ok (.bipush 6, 2) := by decide +kernel
theorem dX4_sellBottles_31 : decode cX4_sellBottles 31 = .ok (.iload_n 3, 1) := by decide +kernel
theorem dX4_sellBottles_32 : decode cX4_sellBottles 32 = .ok (.invokevirtual 58, 3) := by decide +kernel
theorem dX4_sellBottles_35 : decode cX4_sellBottles 35 = .ok (.aload_n 0, 1) := by decide +kernel
theorem dX4_sellBottles_36 : decode cX4_sellBottles 36 = .ok (.getfield 12, 3) := by decide +kernel
theorem dX4_sellBottles_39 : decode cX4_sellBottles 39 = .ok (.iload_n 1, 1) := by decide +kernel
theorem dX4_sellBottles_40 : decode cX4_sellBottles 40 = .ok (.iconst 0, 1) := by decide +kernel
theorem dX4_sellBottles_41 : decode cX4_sellBottles 41 = .ok (.iload_n 3, 1) := by decide +kernel
theorem dX4_sellBottles_42 : decode cX4_sellBottles 42 = .ok (.aload_n 0, 1) := by decide +kernel
theorem dX4_sellBottles_43 : decode cX4_sellBottles 43 = .ok (.iload_n 2, 1) := by decide +kernel
theorem dX4_sellBottles_44 : decode cX4_sellBottles 44 = .ok (.invokevirtual 45, 3) := by decide +kernel
theorem dX4_sellBottles_47 : decode cX4_sellBottles 47 = .ok (.imul, 1) := by decide +kernel
theorem dX4_sellBottles_48 : decode cX4_sellBottles 48 = .ok (.invokevirtual 58, 3) := by decide +kernel
theorem dX4_sellBottles_51 : decode cX4_sellBottles 51 = .ok (.aload_n 0, 1) := by decide +kernel
theorem dX4_sellBottles_52 : decode cX4_sellBottles 52 = .ok (.getfield 12, 3) := by decide +kernel
theorem dX4_sellBottles_55 : decode cX4_sellBottles 55 = .ok (.iload_n 1, 1) := by decide +kernel
theorem dX4_sellBottles_56 : decode cX4_sellBottles 56 = .ok (.iconst 0, 1) := by decide +kernel
theorem dX4_sellBottles_57 : decode cX4_sellBottles 57 = .ok (.invokevirtual 36, 3) := by decide +kernel
theorem dX4_sellBottles_60 : decode cX4_sellBottles 60 = .ok (.ireturn, 1) := by decide +kernel
set_option maxRecDepth 20000 in
theorem ggX4_returnBottles_X2_addToBrand : GoodIn wsX4_returnBottles wsX2_addToBrand := goodIn_r _ [5, 6, 7, 8, 3, 9, 10, 11, 12, 13, 14, 34] (by decide +kernel) (by decide +kernel)
set_option maxRecDepth 20000 in
theorem gX4_returnBottles_X2_addToBrand_n54 : GoodIn wsX4_returnBottles (wsX2_addToBrand) := ggX4_returnBottles_X2_addToBrand
set_option maxRecDepth 20000 in
theorem ggX4_returnBottles_X2_addToShop : GoodIn wsX4_returnBottles wsX2_addToShop := goodIn_r _ [17, 6, 7, 8, 3, 9, 10, 11, 12, 13, 14, 34] (by decide +kernel) (by decide +kernel)
set_option maxRecDepth 20000 in
theorem gX4_returnBottles_X2_addToShop_n58 : GoodIn wsX4_returnBottles (wsX2_addToShop) := ggX4_returnBottles_X2_addToShop
set_option maxRecDepth 20000 in
theorem ggX4_returnBottles_X4_depositOf : GoodIn wsX4_returnBottles wsX4_depositOf := goodIn_r _ [22, 1, 23, 3, 24, 25, 6, 7, 8, 9, 10, 26, 27, 28, 32, 33, 34] (by decide +kernel) (by decide +kernel)
set_option maxRecDepth 20000 in
theorem gX4_returnBottles_X4_depositOf : GoodIn wsX4_returnBottles (wsV RX4 45 RX4 yX4_depositOf wsX4_depositOf) := goodIn_app (goodIn_of _ (by decide +kernel)) ggX4_returnBottles_X4_depositOf
set_option maxRecDepth 20000 in
theorem ggX4_returnBottles_X2_ofShop : GoodIn wsX4_returnBottles wsX2_ofShop := goodIn_r _ [31, 6, 7, 8, 3, 9, 10, 34] (by decide +kernel) (by decide +kernel)
set_option maxRecDepth 20000 in
theorem gX4_returnBottles_X2_ofShop_n36 : GoodIn wsX4_returnBottles (wsX2_ofShop) := ggX4_returnBottles_X2_ofShop
theorem dX4_returnBottles_0 : decode cX4_returnBottles 0 = .ok (.aload_n 0, 1) := by decide +kernel
theorem dX4_returnBottles_1 : decode cX4_returnBottles 1 = .ok (.getfield 12, 3) := by decide +kernel
theorem dX4_returnBottles_4 : decode cX4_returnBottles 4 = .ok (.iload_n 2, 1) := by decide +kernel
theorem dX4_returnBottles_5 : decode cX4_returnBottles 5 = .ok (.iconst 5, 1) := by decide +kernel
theorem dX4_returnBottles_6 : decode cX4_returnBottles 6 = .ok (.iload_n 3, 1) := by decide +kernel
theorem dX4_returnBottles_7 : decode cX4_returnBottles 7 = .ok (.ineg, 1) := by decide +kernel
theorem dX4_returnBottles_8 : decode cX4_returnBottles 8 = .ok (.invokevirtual 54, 3) := by decide +kernel
theorem dX4_returnBottles_11 : decode cX4_returnBottles 11 = .ok (.aload_n 0, 1) := by decide +kernel
theorem dX4_returnBottles_12 : decode cX4_returnBottles 12 = .ok (.getfield 12, 3) := by decide +kernel
theorem dX4_returnBottles_15 : decode cX4_returnBottles 15 = .ok (.iload_n 1, 1) := by decide +kernel
theorem dX4_returnBottles_16 : decode cX4_returnBottles 16 = .ok (.bipush 20, 2) := by decide +kernel
theorem dX4_returnBottles_18 : decode cX4_returnBottles 18 = .ok (.iload_n 2, 1) := by decide +kernel
theorem dX4_returnBottles_19 : decode cX4_returnBottles 19 = .ok (.iadd, 1) := by decide +kernel
theorem dX4_returnBottles_20 : decode cX4_returnBottles 20 = .ok (.iload_n 3, 1) := by decide +kernel
theorem dX4_returnBottles_21 : decode cX4_returnBottles 21 = .ok (.invokevirtual 58, 3) := by decide +kernel
theorem dX4_returnBottles_24 : decode cX4_returnBottles 24 = .ok (.aload_n 0, 1) := by decide +kernel
theorem dX4_returnBottles_25 : decode cX4_returnBottles 25 = .ok (.getfield 12, 3) := by decide +kernel
theorem dX4_returnBottles_28 : decode cX4_returnBottles 28 = .ok (.iload_n 1, 1) := by decide +kernel
theorem dX4_returnBottles_29 : decode cX4_returnBottles 29 = .ok (.bipush 6, 2) := by decide +kernel
theorem dX4_returnBottles_31 : decode cX4_returnBottles 31 = .ok (.iload_n 3, 1) := by decide +kernel
theorem dX4_returnBottles_32 : decode cX4_returnBottles 32 = .ok (.ineg, 1) := by decide +kernel
theorem dX4_returnBottles_33 : decode cX4_returnBottles 33 = .ok (.invokevirtual 58, 3) := by decide +kernel
theorem dX4_returnBottles_36 : decode cX4_returnBottles 36 = .ok (.aload_n 0, 1) := by decide +kernel
theorem dX4_returnBottles_37 : decode cX4_returnBottles 37 = .ok (.getfield 12, 3) := by decide +kernel
theorem dX4_returnBottles_40 : decode cX4_returnBottles 40 = .ok (.iload_n 1, 1) := by decide +kernel
theorem dX4_returnBottles_41 : decode cX4_returnBottles 41 = .ok (.iconst 0, 1) := by decide +kernel
theorem dX4_returnBottles_42 : decode cX4_returnBottles 42 = .ok (.iload_n 3, 1) := by decide +kernel
theorem dX4_returnBottles_43 : decode cX4_returnBottles 43 = .ok (.ineg, 1) := by decide +kernel
theorem dX4_returnBottles_44 : decode cX4_returnBottles 44 = .ok (.aload_n 0, 1) := by decide +kernel
theorem dX4_returnBottles_45 : decode cX4_returnBottles 45 = .ok (.iload_n 2, 1) := by decide +kernel
theorem dX4_returnBottles_46 : decode cX4_returnBottles 46 = .ok (.invokevirtual 45, 3) := by decide +kernel
theorem dX4_returnBottles_49 : decode cX4_returnBottles 49 = .ok (.imul, 1) := by decide +kernel
theorem dX4_returnBottles_50 : decode cX4_returnBottles 50 = .ok (.invokevirtual 58, 3) := by decide +kernel
theorem dX4_returnBottles_53 : decode cX4_returnBottles 53 = .ok (.aload_n 0, 1) := by decide +kernel
theorem dX4_returnBottles_54 : decode cX4_returnBottles 54 = .ok (.getfield 12, 3) := by decide +kernel
theorem dX4_returnBottles_57 : decode cX4_returnBottles 57 = .ok (.iload_n 1, 1) := by decide +kernel
theorem dX4_returnBottles_58 : decode cX4_returnBottles 58 = .ok (.iconst 0, 1) := by decide +kernel
theorem dX4_returnBottles_59 : decode cX4_returnBottles 59 = .ok (.invokevirtual 36, 3) := by decide +kernel
theorem dX4_returnBottles_62 : decode cX4_returnBottles 62 = .ok (.ireturn, 1) := by decide +kernel
set_option maxRecDepth 20000 in
theorem ggX4_breakBottles_X4_depositOf : GoodIn wsX4_breakBottles wsX4_depositOf := goodIn_r _ [10, 1, 11, 12, 13, 14, 15, 16, 17, 18, 19, 20, 21, 22, 39, 40, 41] (by decide +kernel) (by decide +kernel)
set_option maxRecDepth 20000 in
theorem gX4_breakBottles_X4_depositOf : GoodIn wsX4_breakBottles (wsV RX4 45 RX4 yX4_depositOf wsX4_depositOf) := goodIn_app (goodIn_of _ (by decide +kernel)) ggX4_breakBottles_X4_depositOf
set_option maxRecDepth 20000 in
theorem ggX4_breakBottles_X2_ofAll : GoodIn wsX4_breakBottles wsX2_ofAll := goodIn_r _ [25, 15, 16, 17, 12, 18, 19, 41] (by decide +kernel) (by decide +kernel)
set_option maxRecDepth 20000 in
theorem gX4_breakBottles_X2_ofAll_n33 : GoodIn wsX4_breakBottles (wsX2_ofAll) := ggX4_breakBottles_X2_ofAll
set_option maxRecDepth 20000 in
theorem ggX4_breakBottles_X2_addToShop : GoodIn wsX4_breakBottles wsX2_addToShop := goodIn_r _ [28, 15, 16, 17, 12, 18, 19, 29, 30, 31, 32, 41] (by decide +kernel) (by decide +kernel)
set_option maxRecDepth 20000 in
theorem gX4_breakBottles_X2_addToShop_n58 : GoodIn wsX4_breakBottles (wsX2_addToShop) := ggX4_breakBottles_X2_addToShop
set_option maxRecDepth 20000 in
theorem ggX4_breakBottles_X2_addToBrand : GoodIn wsX4_breakBottles wsX2_addToBrand := goodIn_r _ [35, 15, 16, 17, 12, 18, 19, 29, 30, 31, 32, 41] (by decide +kernel) (by decide +kernel)
set_option maxRecDepth 20000 in
theorem gX4_breakBottles_X2_addToBrand_n54 : GoodIn wsX4_breakBottles (wsX2_addToBrand) := ggX4_breakBottles_X2_addToBrand
set_option maxRecDepth 20000 in
theorem ggX4_breakBottles_X2_addToAll : GoodIn wsX4_breakBottles wsX2_addToAll := goodIn_r _ [38, 15, 16, 17, 12, 18, 19, 29, 30, 31, 32, 41] (by decide +kernel) (by decide +kernel)
set_option maxRecDepth 20000 in
theorem gX4_breakBottles_X2_addToAll_n61 : GoodIn wsX4_breakBottles (wsX2_addToAll) := ggX4_breakBottles_X2_addToAll
theorem dX4_breakBottles_0 : decode cX4_breakBottles 0 = .ok (.iload_n 3, 1) := by decide +kernel
theorem dX4_breakBottles_1 : decode cX4_breakBottles 1 = .ok (.aload_n 0, 1) := by decide +kernel
theorem dX4_breakBottles_2 : decode cX4_breakBottles 2 = .ok (.iload_n 2, 1) := by decide +kernel
theorem dX4_breakBottles_3 : decode cX4_breakBottles 3 = .ok (.invokevirtual 45, 3) := by decide +kernel
theorem dX4_breakBottles_6 : decode cX4_breakBottles 6 = .ok (.imul, 1) := by decide +kernel
theorem dX4_breakBottles_7 : decode cX4_breakBottles 7 = .ok (.istore 4, 2) := by decide +kernel
theorem dX4_breakBottles_9 : decode cX4_breakBottles 9 = .ok (.iload 4, 2) := by decide +kernel
theorem dX4_breakBottles_11 : decode cX4_breakBottles 11 = .ok (.aload_n 0, 1) := by decide +kernel
theorem dX4_breakBottles_12 : decode cX4_breakBottles 12 = .ok (.getfield 12, 3) := by decide +kernel
theorem dX4_breakBottles_15 : decode cX4_breakBottles 15 = .ok (.bipush 6, 2) := by decide +kernel
theorem dX4_breakBottles_17 : decode cX4_breakBottles 17 = .ok (.invokevirtual 33, 3) := by decide +kernel
theorem dX4_breakBottles_20 : decode cX4_breakBottles 20 = .ok (.invokestatic 65, 3) := by decide +kernel
theorem dX4_breakBottles_23 : decode cX4_breakBottles 23 = .ok (.istore 5, 2) := by decide +kernel
theorem dX4_breakBottles_25 : decode cX4_breakBottles 25 = .ok (.aload_n 0, 1) := by decide +kernel
theorem dX4_breakBottles_26 : decode cX4_breakBottles 26 = .ok (.getfield 12, 3) := by decide +kernel
theorem dX4_breakBottles_29 : decode cX4_breakBottles 29 = .ok (.iload_n 1, 1) := by decide +kernel
theorem dX4_breakBottles_30 : decode cX4_breakBottles 30 = .ok (.bipush 20, 2) := by decide +kernel
theorem dX4_breakBottles_32 : decode cX4_breakBottles 32 = .ok (.iload_n 2, 1) := by decide +kernel
theorem dX4_breakBottles_33 : decode cX4_breakBottles 33 = .ok (.iadd, 1) := by decide +kernel
theorem dX4_breakBottles_34 : decode cX4_breakBottles 34 = .ok (.iload_n 3, 1) := by decide +kernel
theorem dX4_breakBottles_35 : decode cX4_breakBottles 35 = .ok (.ineg, 1) := by decide +kernel
theorem dX4_breakBottles_36 : decode cX4_breakBottles 36 = .ok (.invokevirtual 58, 3) := by decide +kernel
theorem dX4_breakBottles_39 : decode cX4_breakBottles 39 = .ok (.aload_n 0, 1) := by decide +kernel
theorem dX4_breakBottles_40 : decode cX4_breakBottles 40 = .ok (.getfield 12, 3) := by decide +kernel
theorem dX4_breakBottles_43 : decode cX4_breakBottles 43 = .ok (.iload_n 2, 1) := by decide +kernel
theorem dX4_breakBottles_44 : decode cX4_breakBottles 44 = .ok (.bipush 7, 2) := by decide +kernel
theorem dX4_breakBottles_46 : decode cX4_breakBottles 46 = .ok (.iload_n 3, 1) := by decide +kernel
theorem dX4_breakBottles_47 : decode cX4_breakBottles 47 = .ok (.invokevirtual 54, 3) := by decide +kernel
theorem dX4_breakBottles_50 : decode cX4_breakBottles 50 = .ok (.aload_n 0, 1) := by decide +kernel
theorem dX4_breakBottles_51 : decode cX4_breakBottles 51 = .ok (.getfield 12, 3) := by decide +kernel
theorem dX4_breakBottles_54 : decode cX4_breakBottles 54 = .ok (.iconst 5, 1) := by decide +kernel
theorem dX4_breakBottles_55 : decode cX4_breakBottles 55 = .ok (.iload 4, 2) := by decide +kernel
theorem dX4_breakBottles_57 : decode cX4_breakBottles 57 = .ok (.invokevirtual 61, 3) := by decide +kernel
theorem dX4_breakBottles_60 : decode cX4_breakBottles 60 = .ok (.aload_n 0, 1) := by decide +kernel
theorem dX4_breakBottles_61 : decode cX4_breakBottles 61 = .ok (.getfield 12, 3) := by decide +kernel
theorem dX4_breakBottles_64 : decode cX4_breakBottles 64 = .ok (.bipush 6, 2) := by decide +kernel
theorem dX4_breakBottles_66 : decode cX4_breakBottles 66 = .ok (.iload 5, 2) := by decide +kernel
theorem dX4_breakBottles_68 : decode cX4_breakBottles 68 = .ok (.ineg, 1) := by decide +kernel
theorem dX4_breakBottles_69 : decode cX4_breakBottles 69 = .ok (.invokevirtual 61, 3) := by decide +kernel
theorem dX4_breakBottles_72 : decode cX4_breakBottles 72 = .ok (.aload_n 0, 1) := by decide +kernel
theorem dX4_breakBottles_73 : decode cX4_breakBottles 73 = .ok (.getfield 12, 3) := by decide +kernel
theorem dX4_breakBottles_76 : decode cX4_breakBottles 76 = .ok (.iload_n 1, 1) := by decide +kernel
theorem dX4_breakBottles_77 : decode cX4_breakBottles 77 = .ok (.iconst 5, 1) := by decide +kernel
theorem dX4_breakBottles_78 : decode cX4_breakBottles 78 = .ok (.iload 5, 2) := by decide +kernel
theorem dX4_breakBottles_80 : decode cX4_breakBottles 80 = .ok (.ineg, 1) := by decide +kernel
theorem dX4_breakBottles_81 : decode cX4_breakBottles 81 = .ok (.invokevirtual 58, 3) := by decide +kernel
theorem dX4_breakBottles_84 : decode cX4_breakBottles 84 = .ok (.aload_n 0, 1) := by decide +kernel
theorem dX4_breakBottles_85 : decode cX4_breakBottles 85 = .ok (.getfield 12, 3) := by decide +kernel
theorem dX4_breakBottles_88 : decode cX4_breakBottles 88 = .ok (.iload_n 1, 1) := by decide +kernel
theorem dX4_breakBottles_89 : decode cX4_breakBottles 89 = .ok (.iconst 0, 1) := by decide +kernel
theorem dX4_breakBottles_90 : decode cX4_breakBottles 90 = .ok (.iload 5, 2) := by decide +kernel
theorem dX4_breakBottles_92 : decode cX4_breakBottles 92 = .ok (.invokevirtual 58, 3) := by decide +kernel
theorem dX4_breakBottles_95 : decode cX4_breakBottles 95 = .ok (.iload 5, 2) := by decide +kernel
theorem dX4_breakBottles_97 : decode cX4_breakBottles 97 = .ok (.ireturn, 1) := by decide +kernel
set_option maxRecDepth 20000 in
theorem ggX4_loseBottles_X2_addToBrand : GoodIn wsX4_loseBottles wsX2_addToBrand := goodIn_r _ [5, 6, 7, 8, 3, 9, 10, 11, 12, 13, 14, 31] (by decide +kernel) (by decide +kernel)
set_option maxRecDepth 20000 in
theorem gX4_loseBottles_X2_addToBrand_n54 : GoodIn wsX4_loseBottles (wsX2_addToBrand) := ggX4_loseBottles_X2_addToBrand
set_option maxRecDepth 20000 in
theorem ggX4_loseBottles_X4_depositOf : GoodIn wsX4_loseBottles wsX4_depositOf := goodIn_r _ [19, 1, 20, 3, 21, 22, 6, 7, 8, 9, 10, 23, 24, 25, 29, 30, 31] (by decide +kernel) (by decide +kernel)
set_option maxRecDepth 20000 in
theorem gX4_loseBottles_X4_depositOf : GoodIn wsX4_loseBottles (wsV RX4 45 RX4 yX4_depositOf wsX4_depositOf) := goodIn_app (goodIn_of _ (by decide +kernel)) ggX4_loseBottles_X4_depositOf
set_option maxRecDepth 20000 in
theorem ggX4_loseBottles_X2_addToAll : GoodIn wsX4_loseBottles wsX2_addToAll := goodIn_r _ [28, 6, 7, 8, 3, 9, 10, 11, 12, 13, 14, 31] (by decide +kernel) (by decide +kernel)
set_option maxRecDepth 20000 in
theorem gX4_loseBottles_X2_addToAll_n61 : GoodIn wsX4_loseBottles (wsX2_addToAll) := ggX4_loseBottles_X2_addToAll
set_option maxRecDepth 20000 in
theorem ggX4_loseBottles_X2_ofBrand : GoodIn wsX4_loseBottles wsX2_ofBrand := goodIn_r _ [22, 6, 7, 8, 3, 9, 10, 31] (by decide +kernel) (by decide +kernel)
set_option maxRecDepth 20000 in
theorem gX4_loseBottles_X2_ofBrand_n22 : GoodIn wsX4_loseBottles (wsX2_ofBrand) := ggX4_loseBottles_X2_ofBrand
theorem dX4_loseBottles_0 : decode cX4_loseBottles 0 = .ok (.aload_n 0, 1) := by decide +kernel
theorem dX4_loseBottles_1 : decode cX4_loseBottles 1 = .ok (.getfield 12, 3) := by decide +kernel
theorem dX4_loseBottles_4 : decode cX4_loseBottles 4 = .ok (.iload_n 1, 1) := by decide +kernel
theorem dX4_loseBottles_5 : decode cX4_loseBottles 5 = .ok (.iconst 5, 1) := by decide +kernel
theorem dX4_loseBottles_6 : decode cX4_loseBottles 6 = .ok (.iload_n 2, 1) := by decide +kernel
theorem dX4_loseBottles_7 : decode cX4_loseBottles 7 = .ok (.ineg, 1) := by decide +kernel
theorem dX4_loseBottles_8 : decode cX4_loseBottles 8 = .ok (.invokevirtual 54, 3) := by decide +kernel
theorem dX4_loseBottles_11 : decode cX4_loseBottles 11 = .ok (.aload_n 0, 1) := by decide +kernel
theorem dX4_loseBottles_12 : decode cX4_loseBottles 12 = .ok (.getfield 12, 3) := by decide +kernel
theorem dX4_loseBottles_15 : decode cX4_loseBottles 15 = .ok (.iload_n 1, 1) := by decide +kernel
theorem dX4_loseBottles_16 : decode cX4_loseBottles 16 = .ok (.bipush 8, 2) := by decide +kernel
theorem dX4_loseBottles_18 : decode cX4_loseBottles 18 = .ok (.iload_n 2, 1) := by decide +kernel
theorem dX4_loseBottles_19 : decode cX4_loseBottles 19 = .ok (.invokevirtual 54, 3) := by decide +kernel
theorem dX4_loseBottles_22 : decode cX4_loseBottles 22 = .ok (.aload_n 0, 1) := by decide +kernel
theorem dX4_loseBottles_23 : decode cX4_loseBottles 23 = .ok (.getfield 12, 3) := by decide +kernel
theorem dX4_loseBottles_26 : decode cX4_loseBottles 26 = .ok (.iconst 5, 1) := by decide +kernel
theorem dX4_loseBottles_27 : decode cX4_loseBottles 27 = .ok (.iload_n 2, 1) := by decide +kernel
theorem dX4_loseBottles_28 : decode cX4_loseBottles 28 = .ok (.aload_n 0, 1) := by decide +kernel
theorem dX4_loseBottles_29 : decode cX4_loseBottles 29 = .ok (.iload_n 1, 1) := by decide +kernel
theorem dX4_loseBottles_30 : decode cX4_loseBottles 30 = .ok (.invokevirtual 45, 3) := by decide +kernel
theorem dX4_loseBottles_33 : decode cX4_loseBottles 33 = .ok (.imul, 1) := by decide +kernel
theorem dX4_loseBottles_34 : decode cX4_loseBottles 34 = .ok (.invokevirtual 61, 3) := by decide +kernel
theorem dX4_loseBottles_37 : decode cX4_loseBottles 37 = .ok (.aload_n 0, 1) := by decide +kernel
theorem dX4_loseBottles_38 : decode cX4_loseBottles 38 = .ok (.getfield 12, 3) := by decide +kernel
theorem dX4_loseBottles_41 : decode cX4_loseBottles 41 = .ok (.iload_n 1, 1) := by decide +kernel
theorem dX4_loseBottles_42 : decode cX4_loseBottles 42 = .ok (.iconst 5, 1) := by decide +kernel
theorem dX4_loseBottles_43 : decode cX4_loseBottles 43 = .ok (.invokevirtual 22, 3) := by decide +kernel
theorem dX4_loseBottles_46 : decode cX4_loseBottles 46 = .ok (.ireturn, 1) := by decide +kernel
set_option maxRecDepth 20000 in
theorem ggX4_collectCrates_X4_crateDeposits : GoodIn wsX4_collectCrates wsX4_crateDeposits := goodIn_r _ [6, 1, 7, 8, 9, 10, 11, 12, 13, 14, 15, 51, 52, 53] (by decide +kernel) (by decide +kernel)
set_option maxRecDepth 20000 in
theorem gX4_collectCrates_X4_crateDeposits : GoodIn wsX4_collectCrates (wsV RX4 30 RX4 yX4_crateDeposits wsX4_crateDeposits) := goodIn_app (goodIn_of _ (by decide +kernel)) ggX4_collectCrates_X4_crateDeposits
set_option maxRecDepth 20000 in
theorem ggX4_collectCrates_X4_pickEmpties : GoodIn wsX4_collectCrates wsX4_pickEmpties := goodIn_r _ [19, 20, 1, 21, 8, 22, 23, 11, 12, 13, 14, 15, 24, 25, 26, 27, 28, 29, 5, 30, 51, 52, 53] (by decide +kernel) (by decide +kernel)
set_option maxRecDepth 20000 in
theorem gX4_collectCrates_X4_pickEmpties : GoodIn wsX4_collectCrates (wsV RX4 70 RX4 yX4_pickEmpties wsX4_pickEmpties) := goodIn_app (goodIn_of _ (by decide +kernel)) ggX4_collectCrates_X4_pickEmpties
set_option maxRecDepth 20000 in
theorem ggX4_collectCrates_X2_ofBrand : GoodIn wsX4_collectCrates wsX2_ofBrand := goodIn_r _ [23, 11, 12, 13, 8, 14, 15, 53] (by decide +kernel) (by decide +kernel)
set_option maxRecDepth 20000 in
theorem gX4_collectCrates_X2_ofBrand_n22 : GoodIn wsX4_collectCrates (wsX2_ofBrand) := ggX4_collectCrates_X2_ofBrand
set_option maxRecDepth 20000 in
theorem ggX4_collectCrates_X4_pickedOf : GoodIn wsX4_collectCrates wsX4_pickedOf := goodIn_r _ [34, 1, 20, 24, 8, 25, 26, 11, 12, 13, 14, 15, 35, 36, 37, 51, 52, 53] (by decide +kernel) (by decide +kernel)
set_option maxRecDepth 20000 in
theorem gX4_collectCrates_X4_pickedOf : GoodIn wsX4_collectCrates (wsV RX4 73 RX4 yX4_pickedOf wsX4_pickedOf) := goodIn_app (goodIn_of _ (by decide +kernel)) ggX4_collectCrates_X4_pickedOf
set_option maxRecDepth 20000 in
theorem ggX4_collectCrates_X2_addToShop : GoodIn wsX4_collectCrates wsX2_addToShop := goodIn_r _ [40, 11, 12, 13, 8, 14, 15, 41, 42, 43, 44, 53] (by decide +kernel) (by decide +kernel)
set_option maxRecDepth 20000 in
theorem gX4_collectCrates_X2_addToShop_n58 : GoodIn wsX4_collectCrates (wsX2_addToShop) := ggX4_collectCrates_X2_addToShop
set_option maxRecDepth 20000 in
theorem ggX4_collectCrates_X2_addToBrand : GoodIn wsX4_collectCrates wsX2_addToBrand := goodIn_r _ [47, 11, 12, 13, 8, 14, 15, 41, 42, 43, 44, 53] (by decide +kernel) (by decide +kernel)
set_option maxRecDepth 20000 in
theorem gX4_collectCrates_X2_addToBrand_n54 : GoodIn wsX4_collectCrates (wsX2_addToBrand) := ggX4_collectCrates_X2_addToBrand
set_option maxRecDepth 20000 in
theorem ggX4_collectCrates_X2_addToAll : GoodIn wsX4_collectCrates wsX2_addToAll := goodIn_r _ [50, 11, 12, 13, 8, 14, 15, 41, 42, 43, 44, 53] (by decide +kernel) (by decide +kernel)
set_option maxRecDepth 20000 in
theorem gX4_collectCrates_X2_addToAll_n61 : GoodIn wsX4_collectCrates (wsX2_addToAll) := ggX4_collectCrates_X2_addToAll
theorem dX4_collectCrates_0 : decode cX4_collectCrates 0 = .ok (.iload_n 3, 1) := by decide +kernel
theorem dX4_collectCrates_1 : decode cX4_collectCrates 1 = .ok (.aload_n 0, 1) := by decide +kernel
theorem dX4_collectCrates_2 : decode cX4_collectCrates 2 = .ok (.iload_n 2, 1) := by decide +kernel
theorem dX4_collectCrates_3 : decode cX4_collectCrates 3 = .ok (.invokevirtual 30, 3) := by decide +kernel
theorem dX4_collectCrates_6 : decode cX4_collectCrates 6 = .ok (.imul, 1) := by decide +kernel
theorem dX4_collectCrates_7 : decode cX4_collectCrates 7 = .ok (.istore 4, 2) := by decide +kernel
theorem dX4_collectCrates_9 : decode cX4_collectCrates 9 = .ok (.aload_n 0, 1) := by decide +kernel
theorem dX4_collectCrates_10 : decode cX4_collectCrates 10 = .ok (.iload_n 1, 1) := by decide +kernel
theorem dX4_collectCrates_11 : decode cX4_collectCrates 11 = .ok (.iload_n 2, 1) := by decide +kernel
theorem dX4_collectCrates_12 : decode cX4_collectCrates 12 = .ok (.bipush 12, 2) := by decide +kernel
theorem dX4_collectCrates_14 : decode cX4_collectCrates 14 = .ok (.iload_n 3, 1) := by decide +kernel
theorem dX4_collectCrates_15 : decode cX4_collectCrates 15 = .ok (.imul, 1) := by decide +kernel
theorem dX4_collectCrates_16 : decode cX4_collectCrates 16 = .ok (.invokevirtual 70, 3) := by decide +kernel
theorem dX4_collectCrates_19 : decode cX4_collectCrates 19 = .ok (.iconst 0, 1) := by decide +kernel
theorem dX4_collectCrates_20 : decode cX4_collectCrates 20 = .ok (.istore 5, 2) := by decide +kernel
theorem dX4_collectCrates_22 : decode cX4_collectCrates 22 = .ok (.iload 5, 2) := by decide +kernel
theorem dX4_collectCrates_24 : decode cX4_collectCrates 24 = .ok (.bipush 8, 2) := by decide +kernel
theorem dX4_collectCrates_26 : decode cX4_collectCrates 26 = .ok (.if_icmp .ge 61, 3) := by decide +kernel
theorem dX4_collectCrates_29 : decode cX4_collectCrates 29 = .ok (.aload_n 0, 1) := by decide +kernel
theorem dX4_collectCrates_30 : decode cX4_collectCrates 30 = .ok (.getfield 12, 3) := by decide +kernel
theorem dX4_collectCrates_33 : decode cX4_collectCrates 33 = .ok (.iload 5, 2) := by decide +kernel
theorem dX4_collectCrates_35 : decode cX4_collectCrates 35 = .ok (.iconst 0, 1) := by decide +kernel
theorem dX4_collectCrates_36 : decode cX4_collectCrates 36 = .ok (.invokevirtual 22, 3) := by decide +kernel
theorem dX4_collectCrates_39 : decode cX4_collectCrates 39 = .ok (.iload_n 2, 1) := by decide +kernel
theorem dX4_collectCrates_40 : decode cX4_collectCrates 40 = .ok (.if_icmp .ne 41, 3) := by decide +kernel
theorem dX4_collectCrates_43 : decode cX4_collectCrates 43 = .ok (.aload_n 0, 1) := by decide +kernel
theorem dX4_collectCrates_44 : decode cX4_collectCrates 44 = .ok (.iload_n 1, 1) := by decide +kernel
theorem dX4_collectCrates_45 : decode cX4_collectCrates 45 = .ok (.iload 5, 2) := by decide +kernel
theorem dX4_collectCrates_47 : decode cX4_collectCrates 47 = .ok (.invokevirtual 73, 3) := by decide +kernel
theorem dX4_collectCrates_50 : decode cX4_collectCrates 50 = .ok (.istore 6, 2) := by decide +kernel
theorem dX4_collectCrates_52 : decode cX4_collectCrates 52 = .ok (.aload_n 0, 1) := by decide +kernel
theorem dX4_collectCrates_53 : decode cX4_collectCrates 53 = .ok (.getfield 12, 3) := by decide +kernel
theorem dX4_collectCrates_56 : decode cX4_collectCrates 56 = .ok (.iload_n 1, 1) := by decide +kernel
theorem dX4_collectCrates_57 : decode cX4_collectCrates 57 = .ok (.bipush 20, 2) := by decide +kernel
theorem dX4_collectCrates_59 : decode cX4_collectCrates 59 = .ok (.iload 5, 2) := by decide +kernel
theorem dX4_collectCrates_61 : decode cX4_collectCrates 61 = .ok (.iadd, 1) := by decide +kernel
theorem dX4_collectCrates_62 : decode cX4_collectCrates 62 = .ok (.iload 6, 2) := by decide +kernel
theorem dX4_collectCrates_64 : decode cX4_collectCrates 64 = .ok (.ineg, 1) := by decide +kernel
theorem dX4_collectCrates_65 : decode cX4_collectCrates 65 = .ok (.invokevirtual 58, 3) := by decide +kernel
theorem dX4_collectCrates_68 : decode cX4_collectCrates 68 = .ok (.aload_n 0, 1) := by decide +kernel
theorem dX4_collectCrates_69 : decode cX4_collectCrates 69 = .ok (.getfield 12, 3) := by decide +kernel
theorem dX4_collectCrates_72 : decode cX4_collectCrates 72 = .ok (.iload 5, 2) := by decide +kernel
theorem dX4_collectCrates_74 : decode cX4_collectCrates 74 = .ok (.bipush 6, 2) := by decide +kernel
theorem dX4_collectCrates_76 : decode cX4_collectCrates 76 = .ok (.iload 6, 2) := by decide +kernel
theorem dX4_collectCrates_78 : decode cX4_collectCrates 78 = .ok (.invokevirtual 54, 3) := by decide +kernel
theorem dX4_collectCrates_81 : decode cX4_collectCrates 81 = .ok (.iinc 5 1, 3) := by decide +kernel
theorem dX4_collectCrates_84 : decode cX4_collectCrates 84 = .ok (.goto (-62), 3) := by decide +kernel
theorem dX4_collectCrates_87 : decode cX4_collectCrates 87 = .ok (.aload_n 0, 1) := by decide +kernel
theorem dX4_collectCrates_88 : decode cX4_collectCrates 88 = .ok (.getfield 12, 3) := by decide +kernel
theorem dX4_collectCrates_91 : decode cX4_collectCrates 91 = .ok (.iload_n 1, 1) := by decide +kernel
theorem dX4_collectCrates_92 : decode cX4_collectCrates 92 = .ok (.iconst 1, 1) := by decide +kernel
theorem dX4_collectCrates_93 : decode cX4_collectCrates 93 = .ok (.iload_n 3, 1) := by decide +kernel
theorem dX4_collectCrates_94 : decode cX4_collectCrates 94 = .ok (.ineg, 1) := by decide +kernel
theorem dX4_collectCrates_95 : decode cX4_collectCrates 95 = .ok (.invokevirtual 58, 3) := by decide +kernel
theorem dX4_collectCrates_98 : decode cX4_collectCrates 98 = .ok (.aload_n 0, 1) := by decide +kernel
theorem dX4_collectCrates_99 : decode cX4_collectCrates 99 = .ok (.getfield 12, 3) := by decide +kernel
theorem dX4_collectCrates_102 : decode cX4_collectCrates 102 = .ok (.iconst 2, 1) := by decide +kernel
theorem dX4_collectCrates_103 : decode cX4_collectCrates 103 = .ok (.iload_n 3, 1) := by decide +kernel
theorem dX4_collectCrates_104 : decode cX4_collectCrates 104 = .ok (.invokevirtual 61, 3) := by decide +kernel
theorem dX4_collectCrates_107 : decode cX4_collectCrates 107 = .ok (.aload_n 0, 1) := by decide +kernel
theorem dX4_collectCrates_108 : decode cX4_collectCrates 108 = .ok (.getfield 12, 3) := by decide +kernel
theorem dX4_collectCrates_111 : decode cX4_collectCrates 111 = .ok (.iload_n 1, 1) := by decide +kernel
theorem dX4_collectCrates_112 : decode cX4_collectCrates 112 = .ok (.iconst 0, 1) := by decide +kernel
theorem dX4_collectCrates_113 : decode cX4_collectCrates 113 = .ok (.iload 4, 2) := by decide +kernel
theorem dX4_collectCrates_115 : decode cX4_collectCrates 115 = .ok (.invokevirtual 58, 3) := by decide +kernel
theorem dX4_collectCrates_118 : decode cX4_collectCrates 118 = .ok (.aload_n 0, 1) := by decide +kernel
theorem dX4_collectCrates_119 : decode cX4_collectCrates 119 = .ok (.getfield 12, 3) := by decide +kernel
theorem dX4_collectCrates_122 : decode cX4_collectCrates 122 = .ok (.iload_n 1, 1) := by decide +kernel
theorem dX4_collectCrates_123 : decode cX4_collectCrates 123 = .ok (.iconst 4, 1) := by decide +kernel
theorem dX4_collectCrates_124 : decode cX4_collectCrates 124 = .ok (.iload 4, 2) := by decide +kernel
theorem dX4_collectCrates_126 : decode cX4_collectCrates 126 = .ok (.ineg, 1) := by decide +kernel
theorem dX4_collectCrates_127 : decode cX4_collectCrates 127 = .ok (.invokevirtual 58, 3) := by decide +kernel
theorem dX4_collectCrates_130 : decode cX4_collectCrates 130 = .ok (.aload_n 0, 1) := by decide +kernel
theorem dX4_collectCrates_131 : decode cX4_collectCrates 131 = .ok (.getfield 12, 3) := by decide +kernel
theorem dX4_collectCrates_134 : decode cX4_collectCrates 134 = .ok (.iconst 4, 1) := by decide +kernel
theorem dX4_collectCrates_135 : decode cX4_collectCrates 135 = .ok (.iload 4, 2) := by decide +kernel
theorem dX4_collectCrates_137 : decode cX4_collectCrates 137 = .ok (.ineg, 1) := by decide +kernel
theorem dX4_collectCrates_138 : decode cX4_collectCrates 138 = .ok (.invokevirtual 61, 3) := by decide +kernel
theorem dX4_collectCrates_141 : decode cX4_collectCrates 141 = .ok (.iload 4, 2) := by decide +kernel
theorem dX4_collectCrates_143 : decode cX4_collectCrates 143 = .ok (.ireturn, 1) := by decide +kernel
set_option maxRecDepth 20000 in
theorem ggX4_sortBottles_X2_ofBrand : GoodIn wsX4_sortBottles wsX2_ofBrand := goodIn_r _ [9, 10, 11, 12, 7, 13, 14, 29] (by decide +kernel) (by decide +kernel)
set_option maxRecDepth 20000 in
theorem gX4_sortBottles_X2_ofBrand_n22 : GoodIn wsX4_sortBottles (wsX2_ofBrand) := ggX4_sortBottles_X2_ofBrand
set_option maxRecDepth 20000 in
theorem ggX4_sortBottles_X2_addToBrand : GoodIn wsX4_sortBottles wsX2_addToBrand := goodIn_r _ [17, 10, 11, 12, 7, 13, 14, 18, 19, 20, 21, 29] (by decide +kernel) (by decide +kernel)
set_option maxRecDepth 20000 in
theorem gX4_sortBottles_X2_addToBrand_n54 : GoodIn wsX4_sortBottles (wsX2_addToBrand) := ggX4_sortBottles_X2_addToBrand
set_option maxRecDepth 20000 in
theorem ggX4_sortBottles_X4_yardOf : GoodIn wsX4_sortBottles wsX4_yardOf := goodIn_r _ [26, 1, 6, 7, 8, 9, 10, 11, 12, 13, 14, 27, 28, 29] (by decide +kernel) (by decide +kernel)
set_option maxRecDepth 20000 in
theorem gX4_sortBottles_X4_yardOf : GoodIn wsX4_sortBottles (wsV RX4 76 RX4 yX4_yardOf wsX4_yardOf) := goodIn_app (goodIn_of _ (by decide +kernel)) ggX4_sortBottles_X4_yardOf
theorem dX4_sortBottles_0 : decode cX4_sortBottles 0 = .ok (.iload_n 2, 1) := by decide +kernel
theorem dX4_sortBottles_1 : decode cX4_sortBottles 1 = .ok (.istore_n 3, 1) := by decide +kernel
theorem dX4_sortBottles_2 : decode cX4_sortBottles 2 = .ok (.iconst 0, 1) := by decide +kernel
theorem dX4_sortBottles_3 : decode cX4_sortBottles 3 = .ok (.istore 4, 2) := by decide +kernel
theorem dX4_sortBottles_5 : decode cX4_sortBottles 5 = .ok (.iload 4, 2) := by decide +kernel
theorem dX4_sortBottles_7 : decode cX4_sortBottles 7 = .ok (.bipush 8, 2) := by decide +kernel
theorem dX4_sortBottles_9 : decode cX4_sortBottles 9 = .ok (.if_icmp .ge 71, 3) := by decide +kernel
theorem dX4_sortBottles_12 : decode cX4_sortBottles 12 = .ok (.aload_n 0, 1) := by decide +kernel
theorem dX4_sortBottles_13 : decode cX4_sortBottles 13 = .ok (.getfield 12, 3) := by decide +kernel
theorem dX4_sortBottles_16 : decode cX4_sortBottles 16 = .ok (.iload 4, 2) := by decide +kernel
theorem dX4_sortBottles_18 : decode cX4_sortBottles 18 = .ok (.iconst 0, 1) := by decide +kernel
theorem dX4_sortBottles_19 : decode cX4_sortBottles 19 = .ok (.invokevirtual 22, 3) := by decide +kernel
theorem dX4_sortBottles_22 : decode cX4_sortBottles 22 = .ok (.iload_n 1, 1) := by decide +kernel
theorem dX4_sortBottles_23 : decode cX4_sortBottles 23 = .ok (.if_icmp .ne 51, 3) := by decide +kernel
theorem dX4_sortBottles_26 : decode cX4_sortBottles 26 = .ok (.iload_n 3, 1) := by decide +kernel
theorem dX4_sortBottles_27 : decode cX4_sortBottles 27 = .ok (.aload_n 0, 1) := by decide +kernel
theorem dX4_sortBottles_28 : decode cX4_sortBottles 28 = .ok (.getfield 12, 3) := by decide +kernel
theorem dX4_sortBottles_31 : decode cX4_sortBottles 31 = .ok (.iload 4, 2) := by decide +kernel
theorem dX4_sortBottles_33 : decode cX4_sortBottles 33 = .ok (.bipush 6, 2) := by decide +kernel
theorem dX4_sortBottles_35 : decode cX4_sortBottles 35 = .ok (.invokevirtual 22, 3) := by decide +kernel
theorem dX4_sortBottles_38 : decode cX4_sortBottles 38 = .ok (.invokestatic 65, 3) := by decide +kernel
theorem dX4_sortBottles_41 : decode cX4_sortBottles 41 = .ok (.istore 5, 2) := by decide +kernel
theorem dX4_sortBottles_43 : decode cX4_sortBottles 43 = .ok (.aload_n 0, 1) := by decide +kernel
theorem dX4_sortBottles_44 : decode cX4_sortBottles 44 = .ok (.getfield 12, 3) := by decide +kernel
theorem dX4_sortBottles_47 : decode cX4_sortBottles 47 = .ok (.iload 4, 2) := by decide +kernel
theorem dX4_sortBottles_49 : decode cX4_sortBottles 49 = .ok (.bipush 6, 2) := by decide +kernel
theorem dX4_sortBottles_51 : decode cX4_sortBottles 51 = .ok (.iload 5, 2) := by decide +kernel
theorem dX4_sortBottles_53 : decode cX4_sortBottles 53 = .ok (.ineg, 1) := by decide +kernel
theorem dX4_sortBottles_54 : decode cX4_sortBottles 54 = .ok (.invokevirtual 54, 3) := by decide +kernel
theorem dX4_sortBottles_57 : decode cX4_sortBottles 57 = .ok (.aload_n 0, 1) := by decide +kernel
theorem dX4_sortBottles_58 : decode cX4_sortBottles 58 = .ok (.getfield 12, 3) := by decide +kernel
theorem dX4_sortBottles_61 : decode cX4_sortBottles 61 = .ok (.iload 4, 2) := by decide +kernel
theorem dX4_sortBottles_63 : decode cX4_sortBottles 63 = .ok (.iconst 1, 1) := by decide +kernel
theorem dX4_sortBottles_64 : decode cX4_sortBottles 64 = .ok (.iload 5, 2) := by decide +kernel
theorem dX4_sortBottles_66 : decode cX4_sortBottles 66 = .ok (.invokevirtual 54, 3) := by decide +kernel
theorem dX4_sortBottles_69 : decode cX4_sortBottles 69 = .ok (.iload_n 3, 1) := by decide +kernel
theorem dX4_sortBottles_70 : decode cX4_sortBottles 70 = .ok (.iload 5, 2) := by decide +kernel
theorem dX4_sortBottles_72 : decode cX4_sortBottles 72 = .ok (.isub, 1) := by decide +kernel
theorem dX4_sortBottles_73 : decode cX4_sortBottles 73 = .ok (.istore_n 3, 1) := by decide +kernel
theorem dX4_sortBottles_74 : decode cX4_sortBottles 74 = .ok (.iinc 4 1, 3) := by decide +kernel
theorem dX4_sortBottles_77 : decode cX4_sortBottles 77 = .ok (.goto (-72), 3) := by decide +kernel
theorem dX4_sortBottles_80 : decode cX4_sortBottles 80 = .ok (.aload_n 0, 1) := by decide +kernel
theorem dX4_sortBottles_81 : decode cX4_sortBottles 81 = .ok (.iload_n 1, 1) := by decide +kernel
theorem dX4_sortBottles_82 : decode cX4_sortBottles 82 = .ok (.invokevirtual 76, 3) := by decide +kernel
theorem dX4_sortBottles_85 : decode cX4_sortBottles 85 = .ok (.ireturn, 1) := by decide +kernel
set_option maxRecDepth 20000 in
theorem ggX4_swapBottles_X2_addToBrand : GoodIn wsX4_swapBottles wsX2_addToBrand := goodIn_r _ [5, 6, 7, 8, 3, 9, 10, 11, 12, 13, 14, 23] (by decide +kernel) (by decide +kernel)
set_option maxRecDepth 20000 in
theorem gX4_swapBottles_X2_addToBrand_n54 : GoodIn wsX4_swapBottles (wsX2_addToBrand) := ggX4_swapBottles_X2_addToBrand
set_option maxRecDepth 20000 in
theorem ggX4_swapBottles_X2_addToSwaps : GoodIn wsX4_swapBottles wsX2_addToSwaps := goodIn_r _ [17, 6, 7, 8, 3, 9, 10, 11, 12, 13, 14, 23] (by decide +kernel) (by decide +kernel)
set_option maxRecDepth 20000 in
theorem gX4_swapBottles_X2_addToSwaps_n79 : GoodIn wsX4_swapBottles (wsX2_addToSwaps) := ggX4_swapBottles_X2_addToSwaps
set_option maxRecDepth 20000 in
theorem ggX4_swapBottles_X2_ofSwaps : GoodIn wsX4_swapBottles wsX2_ofSwaps := goodIn_r _ [20, 6, 7, 8, 3, 9, 10, 23] (by decide +kernel) (by decide +kernel)
set_option maxRecDepth 20000 in
theorem gX4_swapBottles_X2_ofSwaps_n82 : GoodIn wsX4_swapBottles (wsX2_ofSwaps) := ggX4_swapBottles_X2_ofSwaps
theorem dX4_swapBottles_0 : decode cX4_swapBottles 0 = .ok (.aload_n 0, 1) := by decide +kernel
theorem dX4_swapBottles_1 : decode cX4_swapBottles 1 = .ok (.getfield 12, 3) := by decide +kernel
theorem dX4_swapBottles_4 : decode cX4_swapBottles 4 = .ok (.iload_n 1, 1) := by decide +kernel
theorem dX4_swapBottles_5 : decode cX4_swapBottles 5 = .ok (.iconst 1, 1) := by decide +kernel
theorem dX4_swapBottles_6 : decode cX4_swapBottles 6 = .ok (.iload_n 3, 1) := by decide +kernel
theorem dX4_swapBottles_7 : decode cX4_swapBottles 7 = .ok (.ineg, 1) := by decide +kernel
theorem dX4_swapBottles_8 : decode cX4_swapBottles 8 = .ok (.invokevirtual 54, 3) := by decide +kernel
theorem dX4_swapBottles_11 : decode cX4_swapBottles 11 = .ok (.aload_n 0, 1) := by decide +kernel
theorem dX4_swapBottles_12 : decode cX4_swapBottles 12 = .ok (.getfield 12, 3) := by decide +kernel
theorem dX4_swapBottles_15 : decode cX4_swapBottles 15 = .ok (.iload_n 2, 1) := by decide +kernel
theorem dX4_swapBottles_16 : decode cX4_swapBottles 16 = .ok (.iconst 1, 1) := by decide +kernel
theorem dX4_swapBottles_17 : decode cX4_swapBottles 17 = .ok (.iload_n 3, 1) := by decide +kernel
theorem dX4_swapBottles_18 : decode cX4_swapBottles 18 = .ok (.invokevirtual 54, 3) := by decide +kernel
theorem dX4_swapBottles_21 : decode cX4_swapBottles 21 = .ok (.aload_n 0, 1) := by decide +kernel
theorem dX4_swapBottles_22 : decode cX4_swapBottles 22 = .ok (.getfield 12, 3) := by decide +kernel
theorem dX4_swapBottles_25 : decode cX4_swapBottles 25 = .ok (.iload_n 1, 1) := by decide +kernel
theorem dX4_swapBottles_26 : decode cX4_swapBottles 26 = .ok (.bipush 11, 2) := by decide +kernel
theorem dX4_swapBottles_28 : decode cX4_swapBottles 28 = .ok (.iload_n 3, 1) := by decide +kernel
theorem dX4_swapBottles_29 : decode cX4_swapBottles 29 = .ok (.invokevirtual 54, 3) := by decide +kernel
theorem dX4_swapBottles_32 : decode cX4_swapBottles 32 = .ok (.aload_n 0, 1) := by decide +kernel
theorem dX4_swapBottles_33 : decode cX4_swapBottles 33 = .ok (.getfield 12, 3) := by decide +kernel
theorem dX4_swapBottles_36 : decode cX4_swapBottles 36 = .ok (.iload_n 2, 1) := by decide +kernel
theorem dX4_swapBottles_37 : decode cX4_swapBottles 37 = .ok (.bipush 11, 2) := by decide +kernel
theorem dX4_swapBottles_39 : decode cX4_swapBottles 39 = .ok (.iload_n 3, 1) := by decide +kernel
theorem dX4_swapBottles_40 : decode cX4_swapBottles 40 = .ok (.ineg, 1) := by decide +kernel
theorem dX4_swapBottles_41 : decode cX4_swapBottles 41 = .ok (.invokevirtual 54, 3) := by decide +kernel
theorem dX4_swapBottles_44 : decode cX4_swapBottles 44 = .ok (.aload_n 0, 1) := by decide +kernel
theorem dX4_swapBottles_45 : decode cX4_swapBottles 45 = .ok (.getfield 12, 3) := by decide +kernel
theorem dX4_swapBottles_48 : decode cX4_swapBottles 48 = .ok (.iload_n 1, 1) := by decide +kernel
theorem dX4_swapBottles_49 : decode cX4_swapBottles 49 = .ok (.iload_n 2, 1) := by decide +kernel
theorem dX4_swapBottles_50 : decode cX4_swapBottles 50 = .ok (.iload_n 3, 1) := by decide +kernel
theorem dX4_swapBottles_51 : decode cX4_swapBottles 51 = .ok (.invokevirtual 79, 3) := by decide +kernel
theorem dX4_swapBottles_54 : decode cX4_swapBottles 54 = .ok (.aload_n 0, 1) := by decide +kernel
theorem dX4_swapBottles_55 : decode cX4_swapBottles 55 = .ok (.getfield 12, 3) := by decide +kernel
theorem dX4_swapBottles_58 : decode cX4_swapBottles 58 = .ok (.iload_n 2, 1) := by decide +kernel
theorem dX4_swapBottles_59 : decode cX4_swapBottles 59 = .ok (.iload_n 1, 1) := by decide +kernel
theorem dX4_swapBottles_60 : decode cX4_swapBottles 60 = .ok (.iload_n 3, 1) := by decide +kernel
theorem dX4_swapBottles_61 : decode cX4_swapBottles 61 = .ok (.ineg, 1) := by decide +kernel
theorem dX4_swapBottles_62 : decode cX4_swapBottles 62 = .ok (.invokevirtual 79, 3) := by decide +kernel
theorem dX4_swapBottles_65 : decode cX4_swapBottles 65 = .ok (.aload_n 0, 1) := by decide +kernel
theorem dX4_swapBottles_66 : decode cX4_swapBottles 66 = .ok (.getfield 12, 3) := by decide +kernel
theorem dX4_swapBottles_69 : decode cX4_swapBottles 69 = .ok (.iload_n 1, 1) := by decide +kernel
theorem dX4_swapBottles_70 : decode cX4_swapBottles 70 = .ok (.iload_n 2, 1) := by decide +kernel
theorem dX4_swapBottles_71 : decode cX4_swapBottles 71 = .ok (.invokevirtual 82, 3) := by decide +kernel
theorem dX4_swapBottles_74 : decode cX4_swapBottles 74 = .ok (.ireturn, 1) := by decide +kernel
set_option maxRecDepth 20000 in
theorem ggX4_emptiesOf_X2_ofBrand : GoodIn wsX4_emptiesOf wsX2_ofBrand := goodIn_r _ [5, 6, 7, 8, 3, 9, 10, 16] (by decide +kernel) (by decide +kernel)
set_option maxRecDepth 20000 in
theorem gX4_emptiesOf_X2_ofBrand_n22 : GoodIn wsX4_emptiesOf (wsX2_ofBrand) := ggX4_emptiesOf_X2_ofBrand
set_option maxRecDepth 20000 in
theorem ggX4_emptiesOf_X2_ofShop : GoodIn wsX4_emptiesOf wsX2_ofShop := goodIn_r _ [13, 6, 7, 8, 3, 9, 10, 16] (by decide +kernel) (by decide +kernel)
set_option maxRecDepth 20000 in
theorem gX4_emptiesOf_X2_ofShop_n36 : GoodIn wsX4_emptiesOf (wsX2_ofShop) := ggX4_emptiesOf_X2_ofShop
theorem dX4_emptiesOf_0 : decode cX4_emptiesOf 0 = .ok (.iconst 0, 1) := by decide +kernel
theorem dX4_emptiesOf_1 : decode cX4_emptiesOf 1 = .ok (.istore_n 3, 1) := by decide +kernel
theorem dX4_emptiesOf_2 : decode cX4_emptiesOf 2 = .ok (.iconst 0, 1) := by decide +kernel
theorem dX4_emptiesOf_3 : decode cX4_emptiesOf 3 = .ok (.istore 4, 2) := by decide +kernel
theorem dX4_emptiesOf_5 : decode cX4_emptiesOf 5 = .ok (.iload 4, 2) := by decide +kernel
theorem dX4_emptiesOf_7 : decode cX4_emptiesOf 7 = .ok (.bipush 8, 2) := by decide +kernel
theorem dX4_emptiesOf_9 : decode cX4_emptiesOf 9 = .ok (.if_icmp .ge 39, 3) := by decide +kernel
theorem dX4_emptiesOf_12 : decode cX4_emptiesOf 12 = .ok (.aload_n 0, 1) := by decide +kernel
theorem dX4_emptiesOf_13 : decode cX4_emptiesOf 13 = .ok (.getfield 12, 3) := by decide +kernel
theorem dX4_emptiesOf_16 : decode cX4_emptiesOf 16 = .ok (.iload 4, 2) := by decide +kernel
theorem dX4_emptiesOf_18 : decode cX4_emptiesOf 18 = .ok (.iconst 0, 1) := by decide +kernel
theorem dX4_emptiesOf_19 : decode cX4_emptiesOf 19 = .ok (.invokevirtual 22, 3) := by decide +kernel
theorem dX4_emptiesOf_22 : decode cX4_emptiesOf 22 = .ok (.iload_n 2, 1) := by decide +kernel
theorem dX4_emptiesOf_23 : decode cX4_emptiesOf 23 = .ok (.if_icmp .ne 19, 3) := by decide +kernel
theorem dX4_emptiesOf_26 : decode cX4_emptiesOf 26 = .ok (.iload_n 3, 1) := by decide +kernel
theorem dX4_emptiesOf_27 : decode cX4_emptiesOf 27 = .ok (.aload_n 0, 1) := by decide +kernel
theorem dX4_emptiesOf_28 : decode cX4_emptiesOf 28 = .ok (.getfield 12, 3) := by decide +kernel
theorem dX4_emptiesOf_31 : decode cX4_emptiesOf 31 = .ok (.iload_n 1, 1) := by decide +kernel
theorem dX4_emptiesOf_32 : decode cX4_emptiesOf 32 = .ok (.bipush 20, 2) := by decide +kernel
theorem dX4_emptiesOf_34 : decode cX4_emptiesOf 34 = .ok (.iload 4, 2) := by decide +kernel
theorem dX4_emptiesOf_36 : decode cX4_emptiesOf 36 = .ok (.iadd, 1) := by decide +kernel
theorem dX4_emptiesOf_37 : decode cX4_emptiesOf 37 = .ok (.invokevirtual 36, 3) := by decide +kernel
theorem dX4_emptiesOf_40 : decode cX4_emptiesOf 40 = .ok (.iadd, 1) := by decide +kernel
theorem dX4_emptiesOf_41 : decode cX4_emptiesOf 41 = .ok (.istore_n 3, 1) := by decide +kernel
theorem dX4_emptiesOf_42 : decode cX4_emptiesOf 42 = .ok (.iinc 4 1, 3) := by decide +kernel
theorem dX4_emptiesOf_45 : decode cX4_emptiesOf 45 = .ok (.goto (-40), 3) := by decide +kernel
theorem dX4_emptiesOf_48 : decode cX4_emptiesOf 48 = .ok (.iload_n 3, 1) := by decide +kernel
theorem dX4_emptiesOf_49 : decode cX4_emptiesOf 49 = .ok (.ireturn, 1) := by decide +kernel
set_option maxRecDepth 20000 in
theorem ggX4_yardOf_X2_ofBrand : GoodIn wsX4_yardOf wsX2_ofBrand := goodIn_r _ [5, 6, 7, 8, 3, 9, 10, 13] (by decide +kernel) (by decide +kernel)
set_option maxRecDepth 20000 in
theorem gX4_yardOf_X2_ofBrand_n22 : GoodIn wsX4_yardOf (wsX2_ofBrand) := ggX4_yardOf_X2_ofBrand
theorem dX4_yardOf_0 : decode cX4_yardOf 0 = .ok (.iconst 0, 1) := by decide +kernel
theorem dX4_yardOf_1 : decode cX4_yardOf 1 = .ok (.istore_n 2, 1) := by decide +kernel
theorem dX4_yardOf_2 : decode cX4_yardOf 2 = .ok (.iconst 0, 1) := by decide +kernel
theorem dX4_yardOf_3 : decode cX4_yardOf 3 = .ok (.istore_n 3, 1) := by decide +kernel
theorem dX4_yardOf_4 : decode cX4_yardOf 4 = .ok (.iload_n 3, 1) := by decide +kernel
theorem dX4_yardOf_5 : decode cX4_yardOf 5 = .ok (.bipush 8, 2) := by decide +kernel
theorem dX4_yardOf_7 : decode cX4_yardOf 7 = .ok (.if_icmp .ge 35, 3) := by decide +kernel
theorem dX4_yardOf_10 : decode cX4_yardOf 10 = .ok (.aload_n 0, 1) := by decide +kernel
theorem dX4_yardOf_11 : decode cX4_yardOf 11 = .ok (.getfield 12, 3) := by decide +kernel
theorem dX4_yardOf_14 : decode cX4_yardOf 14 = .ok (.iload_n 3, 1) := by decide +kernel
theorem dX4_yardOf_15 : decode cX4_yardOf 15 = .ok (.iconst 0, 1) := by decide +kernel
theorem dX4_yardOf_16 : decode cX4_yardOf 16 = .ok (.invokevirtual 22, 3) := by decide +kernel
theorem dX4_yardOf_19 : decode cX4_yardOf 19 = .ok (.iload_n 1, 1) := by decide +kernel
theorem dX4_yardOf_20 : decode cX4_yardOf 20 = .ok (.if_icmp .ne 16, 3) := by decide +kernel
theorem dX4_yardOf_23 : decode cX4_yardOf 23 = .ok (.iload_n 2, 1) := by decide +kernel
theorem dX4_yardOf_24 : decode cX4_yardOf 24 = .ok (.aload_n 0, 1) := by decide +kernel
theorem dX4_yardOf_25 : decode cX4_yardOf 25 = .ok (.getfield 12, 3) := by decide +kernel
theorem dX4_yardOf_28 : decode cX4_yardOf 28 = .ok (.iload_n 3, 1) := by decide +kernel
theorem dX4_yardOf_29 : decode cX4_yardOf 29 = .ok (.bipush 6, 2) := by decide +kernel
theorem dX4_yardOf_31 : decode cX4_yardOf 31 = .ok (.invokevirtual 22, 3) := by decide +kernel
theorem dX4_yardOf_34 : decode cX4_yardOf 34 = .ok (.iadd, 1) := by decide +kernel
theorem dX4_yardOf_35 : decode cX4_yardOf 35 = .ok (.istore_n 2, 1) := by decide +kernel
theorem dX4_yardOf_36 : decode cX4_yardOf 36 = .ok (.iinc 3 1, 3) := by decide +kernel
theorem dX4_yardOf_39 : decode cX4_yardOf 39 = .ok (.goto (-35), 3) := by decide +kernel
theorem dX4_yardOf_42 : decode cX4_yardOf 42 = .ok (.iload_n 2, 1) := by decide +kernel
theorem dX4_yardOf_43 : decode cX4_yardOf 43 = .ok (.ireturn, 1) := by decide +kernel
set_option maxRecDepth 20000 in
theorem ggX4_pickEmpties_X2_ofBrand : GoodIn wsX4_pickEmpties wsX2_ofBrand := goodIn_r _ [6, 7, 8, 9, 4, 10, 11, 22] (by decide +kernel) (by decide +kernel)
set_option maxRecDepth 20000 in
theorem gX4_pickEmpties_X2_ofBrand_n22 : GoodIn wsX4_pickEmpties (wsX2_ofBrand) := ggX4_pickEmpties_X2_ofBrand
set_option maxRecDepth 20000 in
theorem ggX4_pickEmpties_X2_ofShop : GoodIn wsX4_pickEmpties wsX2_ofShop := goodIn_r _ [14, 7, 8, 9, 4, 10, 11, 22] (by decide +kernel) (by decide +kernel)
set_option maxRecDepth 20000 in
theorem gX4_pickEmpties_X2_ofShop_n36 : GoodIn wsX4_pickEmpties (wsX2_ofShop) := ggX4_pickEmpties_X2_ofShop
set_option maxRecDepth 20000 in
theorem ggX4_pickEmpties_X4_pickOne : GoodIn wsX4_pickEmpties wsX4_pickOne := goodIn_r _ [19, 1, 20, 21] (by decide +kernel) (by decide +kernel)
set_option maxRecDepth 20000 in
theorem gX4_pickEmpties_X4_pickOne : GoodIn wsX4_pickEmpties (wsV RX4 85 RX4 yX4_pickOne wsX4_pickOne) := goodIn_app (goodIn_of _ (by decide +kernel)) ggX4_pickEmpties_X4_pickOne
theorem dX4_pickEmpties_0 : decode cX4_pickEmpties 0 = .ok (.iconst 0, 1) := by decide +kernel
theorem dX4_pickEmpties_1 : decode cX4_pickEmpties 1 = .ok (.istore 4, 2) := by decide +kernel
theorem dX4_pickEmpties_3 : decode cX4_pickEmpties 3 = .ok (.iload 4, 2) := by decide +kernel
theorem dX4_pickEmpties_5 : decode cX4_pickEmpties 5 = .ok (.aload_n 0, 1) := by decide +kernel
theorem dX4_pickEmpties_6 : decode cX4_pickEmpties 6 = .ok (.getfield 18, 3) := by decide +kernel
theorem dX4_pickEmpties_9 : decode cX4_pickEmpties 9 = .ok (.arraylength, 1) := by decide +kernel
theorem dX4_pickEmpties_10 : decode cX4_pickEmpties 10 = .ok (.if_icmp .ge 59, 3) := by decide +kernel
theorem dX4_pickEmpties_13 : decode cX4_pickEmpties 13 = .ok (.aload_n 0, 1) := by decide +kernel
theorem dX4_pickEmpties_14 : decode cX4_pickEmpties 14 = .ok (.getfield 12, 3) := by decide +kernel
theorem dX4_pickEmpties_17 : decode cX4_pickEmpties 17 = .ok (.iload 4, 2) := by decide +kernel
theorem dX4_pickEmpties_19 : decode cX4_pickEmpties 19 = .ok (.iconst 0, 1) := by decide +kernel
theorem dX4_pickEmpties_20 : decode cX4_pickEmpties 20 = .ok (.invokevirtual 22, 3) := by decide +kernel
theorem dX4_pickEmpties_23 : decode cX4_pickEmpties 23 = .ok (.iload_n 2, 1) := by decide +kernel
theorem dX4_pickEmpties_24 : decode cX4_pickEmpties 24 = .ok (.if_icmp .ne 7, 3) := by decide +kernel
theorem dX4_pickEmpties_27 : decode cX4_pickEmpties 27 = .ok (.iconst 1, 1) := by decide +kernel
theorem dX4_pickEmpties_28 : decode cX4_pickEmpties 28 = .ok (.goto 4, 3) := by decide +kernel
theorem dX4_pickEmpties_31 : decode cX4_pickEmpties 31 = .ok (.iconst 0, 1) := by decide +kernel
theorem dX4_pickEmpties_32 : decode cX4_pickEmpties 32 = .ok (.istore 5, 2) := by decide +kernel
theorem dX4_pickEmpties_34 : decode cX4_pickEmpties 34 = .ok (.aload_n 0, 1) := by decide +kernel
theorem dX4_pickEmpties_35 : decode cX4_pickEmpties 35 = .ok (.getfield 18, 3) := by decide +kernel
theorem dX4_pickEmpties_38 : decode cX4_pickEmpties 38 = .ok (.iload 4, 2) := by decide +kernel
theorem dX4_pickEmpties_40 : decode cX4_pickEmpties 40 = .ok (.iload 5, 2) := by decide +kernel
theorem dX4_pickEmpties_42 : decode cX4_pickEmpties 42 = .ok (.ifCond .eq 19, 3) := by decide +kernel
theorem dX4_pickEmpties_45 : decode cX4_pickEmpties 45 = .ok (.aload_n 0, 1) := by decide +kernel
theorem dX4_pickEmpties_46 : decode cX4_pickEmpties 46 = .ok (.getfield 12, 3) := by decide +kernel
theorem dX4_pickEmpties_49 : decode cX4_pickEmpties 49 = .ok (.iload_n 1, 1) := by decide +kernel
theorem dX4_pickEmpties_50 : decode cX4_pickEmpties 50 = .ok (.bipush 20, 2) := by decide +kernel
theorem dX4_pickEmpties_52 : decode cX4_pickEmpties 52 = .ok (.iload 4, 2) := by decide +kernel
theorem dX4_pickEmpties_54 : decode cX4_pickEmpties 54 = .ok (.iadd, 1) := by decide +kernel
theorem dX4_pickEmpties_55 : decode cX4_pickEmpties 55 = .ok (.invokevirtual 36, 3) := by decide +kernel
theorem dX4_pickEmpties_58 : decode cX4_pickEmpties 58 = .ok (.goto 4, 3) := by decide +kernel
theorem dX4_pickEmpties_61 : decode cX4_pickEmpties 61 = .ok (.iconst 0, 1) := by decide +kernel
theorem dX4_pickEmpties_62 : decode cX4_pickEmpties 62 = .ok (.iastore, 1) := by decide +kernel
theorem dX4_pickEmpties_63 : decode cX4_pickEmpties 63 = .ok (.iinc 4 1, 3) := by decide +kernel
theorem dX4_pickEmpties_66 : decode cX4_pickEmpties 66 = .ok (.goto (-63), 3) := by decide +kernel
theorem dX4_pickEmpties_69 : decode cX4_pickEmpties 69 = .ok (.iconst 0, 1) := by decide +kernel
theorem dX4_pickEmpties_70 : decode cX4_pickEmpties 70 = .ok (.istore 4, 2) := by decide +kernel
theorem dX4_pickEmpties_72 : decode cX4_pickEmpties 72 = .ok (.iload 4, 2) := by decide +kernel
theorem dX4_pickEmpties_74 : decode cX4_pickEmpties 74 = .ok (.iload_n 3, 1) := by decide +kernel
theorem dX4_pickEmpties_75 : decode cX4_pickEmpties 75 = .ok (.if_icmp .ge 13, 3) := by decide +kernel
theorem dX4_pickEmpties_78 : decode cX4_pickEmpties 78 = .ok (.aload_n 0, 1) := by decide +kernel
theorem dX4_pickEmpties_79 : decode cX4_pickEmpties 79 = .ok (.invokevirtual 85, 3) := by decide +kernel
theorem dX4_pickEmpties_82 : decode cX4_pickEmpties 82 = .ok (.iinc 4 1, 3) := by decide +kernel
theorem dX4_pickEmpties_85 : decode cX4_pickEmpties 85 = .ok (.goto (-13), 3) := by decide +kernel
theorem dX4_pickEmpties_88 : decode cX4_pickEmpties 88 = .ok (.return_, 1) := by decide +kernel
theorem dX4_pickOne_0 : decode cX4_pickOne 0 = .ok (.iconst 0, 1) := by decide +kernel
theorem dX4_pickOne_1 : decode cX4_pickOne 1 = .ok (.istore_n 1, 1) := by decide +kernel
theorem dX4_pickOne_2 : decode cX4_pickOne 2 = .ok (.iconst 0, 1) := by decide +kernel
theorem dX4_pickOne_3 : decode cX4_pickOne 3 = .ok (.istore_n 2, 1) := by decide +kernel
theorem dX4_pickOne_4 : decode cX4_pickOne 4 = .ok (.iconst 0, 1) := by decide +kernel
theorem dX4_pickOne_5 : decode cX4_pickOne 5 = .ok (.istore_n 3, 1) := by decide +kernel
theorem dX4_pickOne_6 : decode cX4_pickOne 6 = .ok (.iload_n 3, 1) := by decide +kernel
theorem dX4_pickOne_7 : decode cX4_pickOne 7 = .ok (.aload_n 0, 1) := by decide +kernel
theorem dX4_pickOne_8 : decode cX4_pickOne 8 = .ok (.getfield 18, 3) := by decide +kernel
theorem dX4_pickOne_11 : decode cX4_pickOne 11 = .ok (.arraylength, 1) := by decide +kernel
theorem dX4_pickOne_12 : decode cX4_pickOne 12 = .ok (.if_icmp .ge 28, 3) := by decide +kernel
theorem dX4_pickOne_15 : decode cX4_pickOne 15 = .ok (.aload_n 0, 1) := by decide +kernel
theorem dX4_pickOne_16 : decode cX4_pickOne 16 = .ok (.getfield 18, 3) := by decide +kernel
theorem dX4_pickOne_19 : decode cX4_pickOne 19 = .ok (.iload_n 3, 1) := by decide +kernel
theorem dX4_pickOne_20 : decode cX4_pickOne 20 = .ok (.iaload, 1) := by decide +kernel
theorem dX4_pickOne_21 : decode cX4_pickOne 21 = .ok (.iload_n 2, 1) := by decide +kernel
theorem dX4_pickOne_22 : decode cX4_pickOne 22 = .ok (.if_icmp .le 12, 3) := by decide +kernel
theorem dX4_pickOne_25 : decode cX4_pickOne 25 = .ok (.aload_n 0, 1) := by decide +kernel
theorem dX4_pickOne_26 : decode cX4_pickOne 26 = .ok (.getfield 18, 3) := by decide +kernel
theorem dX4_pickOne_29 : decode cX4_pickOne 29 = .ok (.iload_n 3, 1) := by decide +kernel
theorem dX4_pickOne_30 : decode cX4_pickOne 30 = .ok (.iaload, 1) := by decide +kernel
theorem dX4_pickOne_31 : decode cX4_pickOne 31 = .ok (.istore_n 2, 1) := by decide +kernel
theorem dX4_pickOne_32 : decode cX4_pickOne 32 = .ok (.iload_n 3, 1) := by decide +kernel
theorem dX4_pickOne_33 : decode cX4_pickOne 33 = .ok (.istore_n 1, 1) := by decide +kernel
theorem dX4_pickOne_34 : decode cX4_pickOne 34 = .ok (.iinc 3 1, 3) := by decide +kernel
theorem dX4_pickOne_37 : decode cX4_pickOne 37 = .ok (.goto (-31), 3) := by decide +kernel
theorem dX4_pickOne_40 : decode cX4_pickOne 40 = .ok (.iload_n 2, 1) := by decide +kernel
theorem dX4_pickOne_41 : decode cX4_pickOne 41 = .ok (.ifCond .le 22, 3) := by decide +kernel
theorem dX4_pickOne_44 : decode cX4_pickOne 44 = .ok (.iload_n 1, 1) := by decide +kernel
theorem dX4_pickOne_45 : decode cX4_pickOne 45 = .ok (.aload_n 0, 1) := by decide +kernel
theorem dX4_pickOne_46 : decode cX4_pickOne 46 = .ok (.getfield 18, 3) := by decide +kernel
theorem dX4_pickOne_49 : decode cX4_pickOne 49 = .ok (.arraylength, 1) := by decide +kernel
theorem dX4_pickOne_50 : decode cX4_pickOne 50 = .ok (.if_icmp .ge 13, 3) := by decide +kernel
theorem dX4_pickOne_53 : decode cX4_pickOne 53 = .ok (.aload_n 0, 1) := by decide +kernel
theorem dX4_pickOne_54 : decode cX4_pickOne 54 = .ok (.getfield 18, 3) := by decide +kernel
theorem dX4_pickOne_57 : decode cX4_pickOne 57 = .ok (.iload_n 1, 1) := by decide +kernel
theorem dX4_pickOne_58 : decode cX4_pickOne 58 = .ok (.dup2, 1) := by decide +kernel
theorem dX4_pickOne_59 : decode cX4_pickOne 59 = .ok (.iaload, 1) := by decide +kernel
theorem dX4_pickOne_60 : decode cX4_pickOne 60 = .ok (.iconst 1, 1) := by decide +kernel
theorem dX4_pickOne_61 : decode cX4_pickOne 61 = .ok (.isub, 1) := by decide +kernel
theorem dX4_pickOne_62 : decode cX4_pickOne 62 = .ok (.iastore, 1) := by decide +kernel
theorem dX4_pickOne_63 : decode cX4_pickOne 63 = .ok (.return_, 1) := by decide +kernel
set_option maxRecDepth 20000 in
theorem ggX4_pickedOf_X2_ofShop : GoodIn wsX4_pickedOf wsX2_ofShop := goodIn_r _ [6, 7, 8, 9, 4, 10, 11, 17] (by decide +kernel) (by decide +kernel)
set_option maxRecDepth 20000 in
theorem gX4_pickedOf_X2_ofShop_n36 : GoodIn wsX4_pickedOf (wsX2_ofShop) := ggX4_pickedOf_X2_ofShop
set_option maxRecDepth 20000 in
theorem ggX4_pickedOf_X5_entry : GoodIn wsX4_pickedOf wsX5_entry := goodIn_r _ [14] (by decide +kernel) (by decide +kernel)
set_option maxRecDepth 20000 in
theorem gX4_pickedOf_X5_entry_n88 : GoodIn wsX4_pickedOf (wsX5_entry) := ggX4_pickedOf_X5_entry
theorem dX4_pickedOf_0 : decode cX4_pickedOf 0 = .ok (.aload_n 0, 1) := by decide +kernel
theorem dX4_pickedOf_1 : decode cX4_pickedOf 1 = .ok (.getfield 12, 3) := by decide +kernel
theorem dX4_pickedOf_4 : decode cX4_pickedOf 4 = .ok (.iload_n 1, 1) := by decide +kernel
theorem dX4_pickedOf_5 : decode cX4_pickedOf 5 = .ok (.bipush 20, 2) := by decide +kernel
theorem dX4_pickedOf_7 : decode cX4_pickedOf 7 = .ok (.iload_n 2, 1) := by decide +kernel
theorem dX4_pickedOf_8 : decode cX4_pickedOf 8 = .ok (.iadd, 1) := by decide +kernel
theorem dX4_pickedOf_9 : decode cX4_pickedOf 9 = .ok (.invokevirtual 36, 3) := by decide +kernel
theorem dX4_pickedOf_12 : decode cX4_pickedOf 12 = .ok (.aload_n 0, 1) := by decide +kernel
theorem dX4_pickedOf_13 : decode cX4_pickedOf 13 = .ok (.getfield 18, 3) := by decide +kernel
theorem dX4_pickedOf_16 : decode cX4_pickedOf 16 = .ok (.iload_n 2, 1) := by decide +kernel
theorem dX4_pickedOf_17 : decode cX4_pickedOf 17 = .ok (.invokestatic 88, 3) := by decide +kernel
theorem dX4_pickedOf_20 : decode cX4_pickedOf 20 = .ok (.isub, 1) := by decide +kernel
theorem dX4_pickedOf_21 : decode cX4_pickedOf 21 = .ok (.ireturn, 1) := by decide +kernel
set_option maxRecDepth 20000 in
theorem ggX4_wornBy_X2_ofSetting : GoodIn wsX4_wornBy wsX2_ofSetting := goodIn_r _ [5, 6, 7, 8, 3, 9, 10, 16] (by decide +kernel) (by decide +kernel)
set_option maxRecDepth 20000 in
theorem gX4_wornBy_X2_ofSetting_n26 : GoodIn wsX4_wornBy (wsX2_ofSetting) := ggX4_wornBy_X2_ofSetting
set_option maxRecDepth 20000 in
theorem ggX4_wornBy_X2_ofBrand : GoodIn wsX4_wornBy wsX2_ofBrand := goodIn_r _ [13, 6, 7, 8, 3, 9, 10, 16] (by decide +kernel) (by decide +kernel)
set_option maxRecDepth 20000 in
theorem gX4_wornBy_X2_ofBrand_n22 : GoodIn wsX4_wornBy (wsX2_ofBrand) := ggX4_wornBy_X2_ofBrand
theorem dX4_wornBy_0 : decode cX4_wornBy 0 = .ok (.aload_n 0, 1) := by decide +kernel
theorem dX4_wornBy_1 : decode cX4_wornBy 1 = .ok (.getfield 12, 3) := by decide +kernel
theorem dX4_wornBy_4 : decode cX4_wornBy 4 = .ok (.iconst 5, 1) := by decide +kernel
theorem dX4_wornBy_5 : decode cX4_wornBy 5 = .ok (.invokevirtual 26, 3) := by decide +kernel
theorem dX4_wornBy_8 : decode cX4_wornBy 8 = .ok (.istore_n 3, 1) := by decide +kernel
theorem dX4_wornBy_9 : decode cX4_wornBy 9 = .ok (.aload_n 0, 1) := by decide +kernel
theorem dX4_wornBy_10 : decode cX4_wornBy 10 = .ok (.getfield 12, 3) := by decide +kernel
theorem dX4_wornBy_13 : decode cX4_wornBy 13 = .ok (.iload_n 1, 1) := by decide +kernel
theorem dX4_wornBy_14 : decode cX4_wornBy 14 = .ok (.bipush 10, 2) := by decide +kernel
theorem dX4_wornBy_16 : decode cX4_wornBy 16 = .ok (.invokevirtual 22, 3) := by decide +kernel
theorem dX4_wornBy_19 : decode cX4_wornBy 19 = .ok (.istore 4, 2) := by decide +kernel
theorem dX4_wornBy_21 : decode cX4_wornBy 21 = .ok (.iload_n 3, 1) := by decide +kernel
theorem dX4_wornBy_22 : decode cX4_wornBy 22 = .ok (.ifCond .le 17, 3) := by decide +kernel
theorem dX4_wornBy_25 : decode cX4_wornBy 25 = .ok (.iload 4, 2) := by decide +kernel
theorem dX4_wornBy_27 : decode cX4_wornBy 27 = .ok (.iload_n 2, 1) := by decide +kernel
theorem dX4_wornBy_28 : decode cX4_wornBy 28 = .ok (.iadd, 1) := by decide +kernel
theorem dX4_wornBy_29 : decode cX4_wornBy 29 = .ok (.iload_n 3, 1) := by decide +kernel
theorem dX4_wornBy_30 : decode cX4_wornBy 30 = .ok (.idiv, 1) := by decide +kernel
theorem dX4_wornBy_31 : decode cX4_wornBy 31 = .ok (.iload 4, 2) := by decide +kernel
theorem dX4_wornBy_33 : decode cX4_wornBy 33 = .ok (.iload_n 3, 1) := by decide +kernel
theorem dX4_wornBy_34 : decode cX4_wornBy 34 = .ok (.idiv, 1) := by decide +kernel
theorem dX4_wornBy_35 : decode cX4_wornBy 35 = .ok (.isub, 1) := by decide +kernel
theorem dX4_wornBy_36 : decode cX4_wornBy 36 = .ok (.goto 4, 3) := by decide +kernel
theorem dX4_wornBy_39 : decode cX4_wornBy 39 = .ok (.iconst 0, 1) := by decide +kernel
theorem dX4_wornBy_40 : decode cX4_wornBy 40 = .ok (.ireturn, 1) := by decide +kernel
set_option maxRecDepth 20000 in
theorem ggX4_mostDeliverable_X4_cratePrice : GoodIn wsX4_mostDeliverable wsX4_cratePrice := goodIn_r _ [10, 1, 11, 12, 13, 14, 15, 16, 17, 18, 19, 20, 21, 22, 9, 23, 24, 25, 26, 33, 34, 35] (by decide +kernel) (by decide +kernel)
set_option maxRecDepth 20000 in
theorem gX4_mostDeliverable_X4_cratePrice : GoodIn wsX4_mostDeliverable (wsV RX4 39 RX4 yX4_cratePrice wsX4_cratePrice) := goodIn_app (goodIn_of _ (by decide +kernel)) ggX4_mostDeliverable_X4_cratePrice
set_option maxRecDepth 20000 in
theorem ggX4_mostDeliverable_X2_ofShop : GoodIn wsX4_mostDeliverable wsX2_ofShop := goodIn_r _ [29, 15, 16, 17, 12, 18, 19, 35] (by decide +kernel) (by decide +kernel)
set_option maxRecDepth 20000 in
theorem gX4_mostDeliverable_X2_ofShop_n36 : GoodIn wsX4_mostDeliverable (wsX2_ofShop) := ggX4_mostDeliverable_X2_ofShop
set_option maxRecDepth 20000 in
theorem ggX4_mostDeliverable_X2_ofBrand : GoodIn wsX4_mostDeliverable wsX2_ofBrand := goodIn_r _ [14, 15, 16, 17, 12, 18, 19, 35] (by decide +kernel) (by decide +kernel)
set_option maxRecDepth 20000 in
theorem gX4_mostDeliverable_X2_ofBrand_n22 : GoodIn wsX4_mostDeliverable (wsX2_ofBrand) := ggX4_mostDeliverable_X2_ofBrand
set_option maxRecDepth 20000 in
theorem ggX4_mostDeliverable_X2_ofAll : GoodIn wsX4_mostDeliverable wsX2_ofAll := goodIn_r _ [32, 15, 16, 17, 12, 18, 19, 35] (by decide +kernel) (by decide +kernel)
set_option maxRecDepth 20000 in
theorem gX4_mostDeliverable_X2_ofAll_n33 : GoodIn wsX4_mostDeliverable (wsX2_ofAll) := ggX4_mostDeliverable_X2_ofAll
theorem dX4_mostDeliverable_0 : decode cX4_mostDeliverable 0 = .ok (.aload_n 0, 1) := by decide +kernel
theorem dX4_mostDeliverable_1 : decode cX4_mostDeliverable 1 = .ok (.iload_n 1, 1) := by decide +kernel
theorem dX4_mostDeliverable_2 : decode cX4_mostDeliverable 2 = .ok (.invokevirtual 39, 3) := by decide +kernel
theorem dX4_mostDeliverable_5 : decode cX4_mostDeliverable 5 = .ok (.istore_n 3, 1) := by decide +kernel
theorem dX4_mostDeliverable_6 : decode cX4_mostDeliverable 6 = .ok (.iload_n 3, 1) := by decide +kernel
theorem dX4_mostDeliverable_7 : decode cX4_mostDeliverable 7 = .ok (.ifCond .le 17, 3) := by decide +kernel
theorem dX4_mostDeliverable_10 : decode cX4_mostDeliverable 10 = .ok (.aload_n 0, 1) := by decide +kernel
theorem dX4_mostDeliverable_11 : decode cX4_mostDeliverable 11 = .ok (.getfield 12, 3) := by decide +kernel
theorem dX4_mostDeliverable_14 : decode cX4_mostDeliverable 14 = .ok (.iload_n 2, 1) := by decide +kernel
theorem dX4_mostDeliverable_15 : decode cX4_mostDeliverable 15 = .ok (.iconst 0, 1) := by decide +kernel
theorem dX4_mostDeliverable_16 : decode cX4_mostDeliverable 16 = .ok (.invokevirtual 36, 3) := by decide +kernel
theorem dX4_mostDeliverable_19 : decode cX4_mostDeliverable 19 = .ok (.iload_n 3, 1) := by decide +kernel
theorem dX4_mostDeliverable_20 : decode cX4_mostDeliverable 20 = .ok (.idiv, 1) := by decide +kernel
theorem dX4_mostDeliverable_21 : decode cX4_mostDeliverable 21 = .ok (.goto 5, 3) := by decide +kernel
theorem dX4_mostDeliverable_24 : decode cX4_mostDeliverable 24 = .ok (.bipush 50, 2) := by decide +kernel
theorem dX4_mostDeliverable_26 : decode cX4_mostDeliverable 26 = .ok (.istore 4, 2) := by decide +kernel
theorem dX4_mostDeliverable_28 : decode cX4_mostDeliverable 28 = .ok (.aload_n 0, 1) := by decide +kernel
theorem dX4_mostDeliverable_29 : decode cX4_mostDeliverable 29 = .ok (.getfield 12, 3) := by decide +kernel
theorem dX4_mostDeliverable_32 : decode cX4_mostDeliverable 32 = .ok (.iload_n 1, 1) := by decide +kernel
theorem dX4_mostDeliverable_33 : decode cX4_mostDeliverable 33 = .ok (.iconst 2, 1) := by decide +kernel
theorem dX4_mostDeliverable_34 : decode cX4_mostDeliverable 34 = .ok (.invokevirtual 22, 3) := by decide +kernel
theorem dX4_mostDeliverable_37 : decode cX4_mostDeliverable 37 = .ok (.bipush 12, 2) := by decide +kernel
theorem dX4_mostDeliverable_39 : decode cX4_mostDeliverable 39 = .ok (.idiv, 1) := by decide +kernel
theorem dX4_mostDeliverable_40 : decode cX4_mostDeliverable 40 = .ok (.aload_n 0, 1) := by decide +kernel
theorem dX4_mostDeliverable_41 : decode cX4_mostDeliverable 41 = .ok (.getfield 12, 3) := by decide +kernel
theorem dX4_mostDeliverable_44 : decode cX4_mostDeliverable 44 = .ok (.iconst 2, 1) := by decide +kernel
theorem dX4_mostDeliverable_45 : decode cX4_mostDeliverable 45 = .ok (.invokevirtual 33, 3) := by decide +kernel
theorem dX4_mostDeliverable_48 : decode cX4_mostDeliverable 48 = .ok (.invokestatic 65, 3) := by decide +kernel
theorem dX4_mostDeliverable_51 : decode cX4_mostDeliverable 51 = .ok (.istore 5, 2) := by decide +kernel
theorem dX4_mostDeliverable_53 : decode cX4_mostDeliverable 53 = .ok (.iload 5, 2) := by decide +kernel
theorem dX4_mostDeliverable_55 : decode cX4_mostDeliverable 55 = .ok (.iload 4, 2) := by decide +kernel
theorem dX4_mostDeliverable_57 : decode cX4_mostDeliverable 57 = .ok (.invokestatic 65, 3) := by decide +kernel
theorem dX4_mostDeliverable_60 : decode cX4_mostDeliverable 60 = .ok (.bipush 50, 2) := by decide +kernel
theorem dX4_mostDeliverable_62 : decode cX4_mostDeliverable 62 = .ok (.invokestatic 65, 3) := by decide +kernel
theorem dX4_mostDeliverable_65 : decode cX4_mostDeliverable 65 = .ok (.ireturn, 1) := by decide +kernel
set_option maxRecDepth 20000 in
theorem ggX4_mostCollectable_X4_emptiesOf : GoodIn wsX4_mostCollectable wsX4_emptiesOf := goodIn_r _ [10, 1, 11, 12, 13, 14, 15, 16, 17, 18, 19, 20, 21, 22, 23, 24, 25] (by decide +kernel) (by decide +kernel)
set_option maxRecDepth 20000 in
theorem gX4_mostCollectable_X4_emptiesOf : GoodIn wsX4_mostCollectable (wsV RX4 48 RX4 yX4_emptiesOf wsX4_emptiesOf) := goodIn_app (goodIn_of _ (by decide +kernel)) ggX4_mostCollectable_X4_emptiesOf
set_option maxRecDepth 20000 in
theorem ggX4_mostCollectable_X2_ofShop : GoodIn wsX4_mostCollectable wsX2_ofShop := goodIn_r _ [22, 15, 16, 17, 12, 18, 19, 25] (by decide +kernel) (by decide +kernel)
set_option maxRecDepth 20000 in
theorem gX4_mostCollectable_X2_ofShop_n36 : GoodIn wsX4_mostCollectable (wsX2_ofShop) := ggX4_mostCollectable_X2_ofShop
theorem dX4_mostCollectable_0 : decode cX4_mostCollectable 0 = .ok (.aload_n 0, 1) := by decide +kernel
theorem dX4_mostCollectable_1 : decode cX4_mostCollectable 1 = .ok (.iload_n 1, 1) := by decide +kernel
theorem dX4_mostCollectable_2 : decode cX4_mostCollectable 2 = .ok (.iload_n 2, 1) := by decide +kernel
theorem dX4_mostCollectable_3 : decode cX4_mostCollectable 3 = .ok (.invokevirtual 48, 3) := by decide +kernel
theorem dX4_mostCollectable_6 : decode cX4_mostCollectable 6 = .ok (.bipush 12, 2) := by decide +kernel
theorem dX4_mostCollectable_8 : decode cX4_mostCollectable 8 = .ok (.idiv, 1) := by decide +kernel
theorem dX4_mostCollectable_9 : decode cX4_mostCollectable 9 = .ok (.aload_n 0, 1) := by decide +kernel
theorem dX4_mostCollectable_10 : decode cX4_mostCollectable 10 = .ok (.getfield 12, 3) := by decide +kernel
theorem dX4_mostCollectable_13 : decode cX4_mostCollectable 13 = .ok (.iload_n 1, 1) := by decide +kernel
theorem dX4_mostCollectable_14 : decode cX4_mostCollectable 14 = .ok (.iconst 1, 1) := by decide +kernel
theorem dX4_mostCollectable_15 : decode cX4_mostCollectable 15 = .ok (.invokevirtual 36, 3) := by decide +kernel
theorem dX4_mostCollectable_18 : decode cX4_mostCollectable 18 = .ok (.invokestatic 65, 3) := by decide +kernel
theorem dX4_mostCollectable_21 : decode cX4_mostCollectable 21 = .ok (.istore_n 3, 1) := by decide +kernel
theorem dX4_mostCollectable_22 : decode cX4_mostCollectable 22 = .ok (.iload_n 3, 1) := by decide +kernel
theorem dX4_mostCollectable_23 : decode cX4_mostCollectable 23 = .ok (.bipush 50, 2) := by decide +kernel
theorem dX4_mostCollectable_25 : decode cX4_mostCollectable 25 = .ok (.invokestatic 65, 3) := by decide +kernel
theorem dX4_mostCollectable_28 : decode cX4_mostCollectable 28 = .ok (.ireturn, 1) := by decide +kernel
set_option maxRecDepth 20000 in
theorem ggX4_wouldCollect_X2_ofBrand : GoodIn wsX4_wouldCollect wsX2_ofBrand := goodIn_r _ [5, 6, 7, 8, 3, 9, 10, 41] (by decide +kernel) (by decide +kernel)
set_option maxRecDepth 20000 in
theorem gX4_wouldCollect_X2_ofBrand_n22 : GoodIn wsX4_wouldCollect (wsX2_ofBrand) := ggX4_wouldCollect_X2_ofBrand
set_option maxRecDepth 20000 in
theorem ggX4_wouldCollect_X4_collectReason : GoodIn wsX4_wouldCollect wsX4_collectReason := goodIn_r _ [15, 1, 16, 17, 18, 14, 19, 2, 3, 4, 5, 6, 7, 8, 9, 10, 20, 21, 22, 39, 40, 41] (by decide +kernel) (by decide +kernel)
set_option maxRecDepth 20000 in
theorem gX4_wouldCollect_X4_collectReason : GoodIn wsX4_wouldCollect (wsV RX4 92 RX4 yX4_collectReason wsX4_collectReason) := goodIn_app (goodIn_of _ (by decide +kernel)) ggX4_wouldCollect_X4_collectReason
set_option maxRecDepth 20000 in
theorem ggX4_wouldCollect_X4_pickEmpties : GoodIn wsX4_wouldCollect wsX4_pickEmpties := goodIn_r _ [26, 27, 1, 2, 3, 4, 5, 6, 7, 8, 9, 10, 20, 21, 22, 28, 29, 30, 14, 31, 39, 40, 41] (by decide +kernel) (by decide +kernel)
set_option maxRecDepth 20000 in
theorem gX4_wouldCollect_X4_pickEmpties : GoodIn wsX4_wouldCollect (wsV RX4 70 RX4 yX4_pickEmpties wsX4_pickEmpties) := goodIn_app (goodIn_of _ (by decide +kernel)) ggX4_wouldCollect_X4_pickEmpties
set_option maxRecDepth 20000 in
theorem ggX4_wouldCollect_X4_pickedOf : GoodIn wsX4_wouldCollect wsX4_pickedOf := goodIn_r _ [35, 1, 27, 20, 3, 21, 22, 6, 7, 8, 9, 10, 36, 37, 38, 39, 40, 41] (by decide +kernel) (by decide +kernel)
set_option maxRecDepth 20000 in
theorem gX4_wouldCollect_X4_pickedOf : GoodIn wsX4_wouldCollect (wsV RX4 73 RX4 yX4_pickedOf wsX4_pickedOf) := goodIn_app (goodIn_of _ (by decide +kernel)) ggX4_wouldCollect_X4_pickedOf
theorem dX4_wouldCollect_0 : decode cX4_wouldCollect 0 = .ok (.aload_n 0, 1) := by decide +kernel
theorem dX4_wouldCollect_1 : decode cX4_wouldCollect 1 = .ok (.getfield 12, 3) := by decide +kernel
theorem dX4_wouldCollect_4 : decode cX4_wouldCollect 4 = .ok (.iload_n 2, 1) := by decide +kernel
theorem dX4_wouldCollect_5 : decode cX4_wouldCollect 5 = .ok (.iconst 0, 1) := by decide +kernel
theorem dX4_wouldCollect_6 : decode cX4_wouldCollect 6 = .ok (.invokevirtual 22, 3) := by decide +kernel
theorem dX4_wouldCollect_9 : decode cX4_wouldCollect 9 = .ok (.istore 4, 2) := by decide +kernel
theorem dX4_wouldCollect_11 : decode cX4_wouldCollect 11 = .ok (.aload_n 0, 1) := by decide +kernel
theorem dX4_wouldCollect_12 : decode cX4_wouldCollect 12 = .ok (.iload_n 1, 1) := by decide +kernel
theorem dX4_wouldCollect_13 : decode cX4_wouldCollect 13 = .ok (.iload 4, 2) := by decide +kernel
theorem dX4_wouldCollect_15 : decode cX4_wouldCollect 15 = .ok (.iload_n 3, 1) := by decide +kernel
theorem dX4_wouldCollect_16 : decode cX4_wouldCollect 16 = .ok (.invokevirtual 92, 3) := by decide +kernel
theorem dX4_wouldCollect_19 : decode cX4_wouldCollect 19 = .ok (.ifCond .eq 5, 3) := by decide +kernel
theorem dX4_wouldCollect_22 : decode cX4_wouldCollect 22 = .ok (.iconst (-1), 1) := by decide +kernel
theorem dX4_wouldCollect_23 : decode cX4_wouldCollect 23 = .ok (.ireturn, 1) := by decide +kernel
theorem dX4_wouldCollect_24 : decode cX4_wouldCollect 24 = .ok (.aload_n 0, 1) := by decide +kernel
theorem dX4_wouldCollect_25 : decode cX4_wouldCollect 25 = .ok (.iload_n 1, 1) := by decide +kernel
theorem dX4_wouldCollect_26 : decode cX4_wouldCollect 26 = .ok (.iload 4, 2) := by decide +kernel
theorem dX4_wouldCollect_28 : decode cX4_wouldCollect 28 = .ok (.bipush 12, 2) := by decide +kernel
theorem dX4_wouldCollect_30 : decode cX4_wouldCollect 30 = .ok (.iload_n 3, 1) := by decide +kernel
theorem dX4_wouldCollect_31 : decode cX4_wouldCollect 31 = .ok (.imul, 1) := by decide +kernel
theorem dX4_wouldCollect_32 : decode cX4_wouldCollect 32 = .ok (.invokevirtual 70, 3) := by decide +kernel
theorem dX4_wouldCollect_35 : decode cX4_wouldCollect 35 = .ok (.aload_n 0, 1) := by decide +kernel
theorem dX4_wouldCollect_36 : decode cX4_wouldCollect 36 = .ok (.iload_n 1, 1) := by decide +kernel
theorem dX4_wouldCollect_37 : decode cX4_wouldCollect 37 = .ok (.iload_n 2, 1) := by decide +kernel
theorem dX4_wouldCollect_38 : decode cX4_wouldCollect 38 = .ok (.invokevirtual 73, 3) := by decide +kernel
theorem dX4_wouldCollect_41 : decode cX4_wouldCollect 41 = .ok (.ireturn, 1) := by decide +kernel
set_option maxRecDepth 20000 in
theorem ggX4_bestToCollect_X4_mostCollectable : GoodIn wsX4_bestToCollect wsX4_mostCollectable := goodIn_r _ [5, 6, 7, 8, 9, 10, 11, 12, 13, 4, 14, 15, 16, 17, 18, 19, 20, 21, 22, 23, 24, 25, 26, 27, 28, 29] (by decide +kernel) (by decide +kernel)
set_option maxRecDepth 20000 in
theorem gX4_bestToCollect_X4_mostCollectable : GoodIn wsX4_bestToCollect (wsV RX4 96 RX4 yX4_mostCollectable wsX4_mostCollectable) := goodIn_app (goodIn_of _ (by decide +kernel)) ggX4_bestToCollect_X4_mostCollectable
theorem dX4_bestToCollect_0 : decode cX4_bestToCollect 0 = .ok (.iconst (-1), 1) := by decide +kernel
theorem dX4_bestToCollect_1 : decode cX4_bestToCollect 1 = .ok (.istore_n 2, 1) := by decide +kernel
theorem dX4_bestToCollect_2 : decode cX4_bestToCollect 2 = .ok (.iconst 0, 1) := by decide +kernel
theorem dX4_bestToCollect_3 : decode cX4_bestToCollect 3 = .ok (.istore_n 3, 1) := by decide +kernel
theorem dX4_bestToCollect_4 : decode cX4_bestToCollect 4 = .ok (.iconst 0, 1) := by decide +kernel
theorem dX4_bestToCollect_5 : decode cX4_bestToCollect 5 = .ok (.istore 4, 2) := by decide +kernel
theorem dX4_bestToCollect_7 : decode cX4_bestToCollect 7 = .ok (.iload 4, 2) := by decide +kernel
theorem dX4_bestToCollect_9 : decode cX4_bestToCollect 9 = .ok (.bipush 6, 2) := by decide +kernel
theorem dX4_bestToCollect_11 : decode cX4_bestToCollect 11 = .ok (.if_icmp .ge 30, 3) := by decide +kernel
theorem dX4_bestToCollect_14 : decode cX4_bestToCollect 14 = .ok (.aload_n 0, 1) := by decide +kernel
theorem dX4_bestToCollect_15 : decode cX4_bestToCollect 15 = .ok (.iload 4, 2) := by decide +kernel
theorem dX4_bestToCollect_17 : decode cX4_bestToCollect 17 = .ok (.iload_n 1, 1) := by decide +kernel
theorem dX4_bestToCollect_18 : decode cX4_bestToCollect 18 = .ok (.invokevirtual 96, 3) := by decide +kernel
theorem dX4_bestToCollect_21 : decode cX4_bestToCollect 21 = .ok (.istore 5, 2) := by decide +kernel
theorem dX4_bestToCollect_23 : decode cX4_bestToCollect 23 = .ok (.iload 5, 2) := by decide +kernel
theorem dX4_bestToCollect_25 : decode cX4_bestToCollect 25 = .ok (.iload_n 3, 1) := by decide +kernel
theorem dX4_bestToCollect_26 : decode cX4_bestToCollect 26 = .ok (.if_icmp .le 9, 3) := by decide +kernel
theorem dX4_bestToCollect_29 : decode cX4_bestToCollect 29 = .ok (.iload 5, 2) := by decide +kernel
theorem dX4_bestToCollect_31 : decode cX4_bestToCollect 31 = .ok (.istore_n 3, 1) := by decide +kernel
theorem dX4_bestToCollect_32 : decode cX4_bestToCollect 32 = .ok (.iload 4, 2) := by decide +kernel
theorem dX4_bestToCollect_34 : decode cX4_bestToCollect 34 = .ok (.istore_n 2, 1) := by decide +kernel
theorem dX4_bestToCollect_35 : decode cX4_bestToCollect 35 = .ok (.iinc 4 1, 3) := by decide +kernel
theorem dX4_bestToCollect_38 : decode cX4_bestToCollect 38 = .ok (.goto (-31), 3) := by decide +kernel
theorem dX4_bestToCollect_41 : decode cX4_bestToCollect 41 = .ok (.iload_n 2, 1) := by decide +kernel
theorem dX4_bestToCollect_42 : decode cX4_bestToCollect 42 = .ok (.ireturn, 1) := by decide +kernel
set_option maxRecDepth 20000 in
theorem ggX5_init_X4_init : GoodIn wsX5_init wsX4_init := goodIn_r _ [22, 23, 2, 3, 24, 25, 26, 27, 28, 29, 30, 31, 32, 33, 34, 35, 36, 37, 38, 39, 40, 41, 42, 43, 44, 77, 59, 60] (by decide +kernel) (by decide +kernel)
set_option maxRecDepth 20000 in
theorem gX5_init_X4_init_n11 : GoodIn wsX5_init (wsX4_init) := ggX5_init_X4_init
set_option maxRecDepth 20000 in
theorem ggX5_init_X1_init : GoodIn wsX5_init wsX1_init := goodIn_r _ [46, 47, 2, 3, 48, 49, 25, 26, 30, 31, 32, 28, 33, 34, 35, 36, 37, 38, 39, 40, 41, 42, 43, 44, 66, 67, 68, 77] (by decide +kernel) (by decide +kernel)
set_option maxRecDepth 20000 in
theorem gX5_init_X1_init_n25 : GoodIn wsX5_init (wsX1_init) := ggX5_init_X1_init
set_option maxRecDepth 20000 in
theorem ggX5_init_X3_init : GoodIn wsX5_init wsX3_init := goodIn_r _ [51, 52, 2, 3, 28, 53, 54, 18, 19, 55, 56, 57, 58, 69, 70, 71, 72, 73, 74, 75, 76] (by decide +kernel) (by decide +kernel)
set_option maxRecDepth 20000 in
theorem gX5_init_X3_init_n32 : GoodIn wsX5_init (wsX3_init) := ggX5_init_X3_init
set_option maxRecDepth 20000 in
theorem ggX5_init_X0_init : GoodIn wsX5_init wsX0_init := goodIn_r _ [57, 58, 2, 3] (by decide +kernel) (by decide +kernel)
set_option maxRecDepth 20000 in
theorem gX5_init_X0_init_n39 : GoodIn wsX5_init (wsX0_init) := ggX5_init_X0_init
theorem dX5_init_0 : decode cX5_init 0 = .ok (.aload_n 0, 1) := by decide +kernel
theorem dX5_init_1 : decode cX5_init 1 = .ok (.invokespecial 3, 3) := by decide +kernel
theorem dX5_init_4 : decode cX5_init 4 = .ok (.aload_n 0, 1) := by decide +kernel
theorem dX5_init_5 : decode cX5_init 5 = .ok (.new 9, 3) := by decide +kernel
theorem dX5_init_8 : decode cX5_init 8 = .ok (.dup, 1) := by decide +kernel
theorem dX5_init_9 : decode cX5_init 9 = .ok (.invokespecial 11, 3) := by decide +kernel
theorem dX5_init_12 : decode cX5_init 12 = .ok (.putfield 12, 3) := by decide +kernel
theorem dX5_init_15 : decode cX5_init 15 = .ok (.aload_n 0, 1) := by decide +kernel
theorem dX5_init_16 : decode cX5_init 16 = .ok (.aload_n 0, 1) := by decide +kernel
theorem dX5_init_17 : decode cX5_init 17 = .ok (.getfield 12, 3) := by decide +kernel
theorem dX5_init_20 : decode cX5_init 20 = .ok (.getfield 16, 3) := by decide +kernel
theorem dX5_init_23 : decode cX5_init 23 = .ok (.putfield 20, 3) := by decide +kernel
theorem dX5_init_26 : decode cX5_init 26 = .ok (.aload_n 0, 1) := by decide +kernel
theorem dX5_init_27 : decode cX5_init 27 = .ok (.new 23, 3) := by decide +kernel
theorem dX5_init_30 : decode cX5_init 30 = .ok (.dup, 1) := by decide +kernel
theorem dX5_init_31 : decode cX5_init 31 = .ok (.invokespecial 25, 3) := by decide +kernel
theorem dX5_init_34 : decode cX5_init 34 = .ok (.putfield 26, 3) := by decide +kernel
theorem dX5_init_37 : decode cX5_init 37 = .ok (.aload_n 0, 1) := by decide +kernel
theorem dX5_init_38 : decode cX5_init 38 = .ok (.new 30, 3) := by decide +kernel
theorem dX5_init_41 : decode cX5_init 41 = .ok (.dup, 1) := by decide +kernel
theorem dX5_init_42 : decode cX5_init 42 = .ok (.invokespecial 32, 3) := by decide +kernel
theorem dX5_init_45 : decode cX5_init 45 = .ok (.putfield 33, 3) := by decide +kernel
theorem dX5_init_48 : decode cX5_init 48 = .ok (.aload_n 0, 1) := by decide +kernel
theorem dX5_init_49 : decode cX5_init 49 = .ok (.new 37, 3) := by decide +kernel
theorem dX5_init_52 : decode cX5_init 52 = .ok (.dup, 1) := by decide +kernel
theorem dX5_init_53 : decode cX5_init 53 = .ok (.invokespecial 39, 3) := by decide +kernel
theorem dX5_init_56 : decode cX5_init 56 = .ok (.putfield 40, 3) := by decide +kernel
theorem dX5_init_59 : decode cX5_init 59 = .ok (.return_, 1) := by decide +kernel
set_option maxRecDepth 20000 in
theorem ggX5_addBrand_X5_needKind : GoodIn wsX5_addBrand wsX5_needKind := goodIn_ca (goodIn_r _ [6, 7, 8, 5, 9, 10, 11, 12, 13, 14] (by decide +kernel) (by decide +kernel)) (goodIn_sub (fun _ h => List.mem_cons_of_mem _ (List.mem_append_left _ (List.mem_append_right _ h))) (by decide +kernel))
set_option maxRecDepth 20000 in
theorem gX5_addBrand_X5_needKind : GoodIn wsX5_addBrand (va_wsS RX5 44 yX5_needKind wsX5_needKind) := goodIn_app (goodIn_of _ (by decide +kernel)) ggX5_addBrand_X5_needKind
set_option maxRecDepth 20000 in
theorem ggX5_addBrand_X5_needRange : GoodIn wsX5_addBrand wsX5_needRange := goodIn_ca (goodIn_r _ [9, 10, 11, 5, 12, 13, 14] (by decide +kernel) (by decide +kernel)) (goodIn_sub (fun _ h => List.mem_cons_of_mem _ (List.mem_append_left _ (List.mem_append_right _ h))) (by decide +kernel))
set_option maxRecDepth 20000 in
theorem gX5_addBrand_X5_needRange : GoodIn wsX5_addBrand (va_wsS RX5 48 yX5_needRange wsX5_needRange) := goodIn_app (goodIn_of _ (by decide +kernel)) ggX5_addBrand_X5_needRange
set_option maxRecDepth 20000 in
theorem ggX5_addBrand_X2_ofAll : GoodIn wsX5_addBrand wsX2_ofAll := goodIn_r _ [18, 19, 20, 21, 16, 22, 23, 62] (by decide +kernel) (by decide +kernel)
set_option maxRecDepth 20000 in
theorem gX5_addBrand_X2_ofAll_n52 : GoodIn wsX5_addBrand (wsX2_ofAll) := ggX5_addBrand_X2_ofAll
set_option maxRecDepth 20000 in
theorem ggX5_addBrand_X5_needState : GoodIn wsX5_addBrand wsX5_needState := goodIn_ca (goodIn_r _ [26, 27, 28] (by decide +kernel) (by decide +kernel)) (goodIn_sub (fun _ h => List.mem_cons_of_mem _ (List.mem_append_right _ h)) (by decide +kernel))
set_option maxRecDepth 20000 in
theorem gX5_addBrand_X5_needState : GoodIn wsX5_addBrand (va_wsS RX5 58 yX5_needState wsX5_needState) := goodIn_app (goodIn_of _ (by decide +kernel)) ggX5_addBrand_X5_needState
set_option maxRecDepth 20000 in
theorem ggX5_addBrand_X1_keep : GoodIn wsX5_addBrand wsX1_keep := goodIn_r _ [32, 33, 34, 35, 36, 37, 30, 38, 39, 40, 16, 41, 42, 23, 43, 44, 45, 46, 63, 64, 65, 62] (by decide +kernel) (by decide +kernel)
set_option maxRecDepth 20000 in
theorem gX5_addBrand_X1_keep_n62 : GoodIn wsX5_addBrand (wsX1_keep) := ggX5_addBrand_X1_keep
set_option maxRecDepth 20000 in
theorem ggX5_addBrand_X2_addToAll : GoodIn wsX5_addBrand wsX2_addToAll := goodIn_r _ [49, 19, 20, 21, 16, 22, 23, 50, 51, 52, 53, 62] (by decide +kernel) (by decide +kernel)
set_option maxRecDepth 20000 in
theorem gX5_addBrand_X2_addToAll_n66 : GoodIn wsX5_addBrand (wsX2_addToAll) := ggX5_addBrand_X2_addToAll
set_option maxRecDepth 20000 in
theorem ggX5_addBrand_X2_addToBrand : GoodIn wsX5_addBrand wsX2_addToBrand := goodIn_r _ [56, 19, 20, 21, 16, 22, 23, 50, 51, 52, 53, 62] (by decide +kernel) (by decide +kernel)
set_option maxRecDepth 20000 in
theorem gX5_addBrand_X2_addToBrand_n70 : GoodIn wsX5_addBrand (wsX2_addToBrand) := ggX5_addBrand_X2_addToBrand
theorem dX5_addBrand_0 : decode cX5_addBrand 0 = .ok (.iload_n 1, 1) := by decide +kernel
theorem dX5_addBrand_1 : decode cX5_addBrand 1 = .ok (.invokestatic 44, 3) := by decide +kernel
theorem dX5_addBrand_4 : decode cX5_addBrand 4 = .ok (.iload_n 2, 1) := by decide +kernel
theorem dX5_addBrand_5 : decode cX5_addBrand 5 = .ok (.iconst 0, 1) := by decide +kernel
theorem dX5_addBrand_6 : decode cX5_addBrand 6 = .ok (.sipush 5000, 3) := by decide +kernel
theorem dX5_addBrand_9 : decode cX5_addBrand 9 = .ok (.invokestatic 48, 3) := by decide +kernel
theorem dX5_addBrand_12 : decode cX5_addBrand 12 = .ok (.aload_n 0, 1) := by decide +kernel
theorem dX5_addBrand_13 : decode cX5_addBrand 13 = .ok (.getfield 20, 3) := by decide +kernel
theorem dX5_addBrand_16 : decode cX5_addBrand 16 = .ok (.iconst 0, 1) := by decide +kernel
theorem dX5_addBrand_17 : decode cX5_addBrand 17 = .ok (.invokevirtual 52, 3) := by decide +kernel
theorem dX5_addBrand_20 : decode cX5_addBrand 20 = .ok (.istore_n 3, 1) := by decide +kernel
theorem dX5_addBrand_21 : decode cX5_addBrand 21 = .ok (.iload_n 3, 1) := by decide +kernel
theorem dX5_addBrand_22 : decode cX5_addBrand 22 = .ok (.bipush 8, 2) := by decide +kernel
theorem dX5_addBrand_24 : decode cX5_addBrand 24 = .ok (.if_icmp .ge 7, 3) := by decide +kernel
theorem dX5_addBrand_27 : decode cX5_addBrand 27 = .ok (.iconst 1, 1) := by decide +kernel
theorem dX5_addBrand_28 : decode cX5_addBrand 28 = .ok (.goto 4, 3) := by decide +kernel
theorem dX5_addBrand_31 : decode cX5_addBrand 31 = .ok (.iconst 0, 1) := by decide +kernel
theorem dX5_addBrand_32 : decode cX5_addBrand 32 = .ok (.invokestatic 58, 3) := by decide +kernel
theorem dX5_addBrand_35 : decode cX5_addBrand 35 = .ok (.aload_n 0, 1) := by decide +kernel
theorem dX5_addBrand_36 : decode cX5_addBrand 36 = .ok (.getfield 26, 3) := by decide +kernel
theorem dX5_addBrand_39 : decode cX5_addBrand 39 = .ok (.aload_n 0, 1) := by decide +kernel
theorem dX5_addBrand_40 : decode cX5_addBrand 40 = .ok (.getfield 20, 3) := by decide +kernel
theorem dX5_addBrand_43 : decode cX5_addBrand 43 = .ok (.invokevirtual 62, 3) := by decide +kernel
theorem dX5_addBrand_46 : decode cX5_addBrand 46 = .ok (.aload_n 0, 1) := by decide +kernel
theorem dX5_addBrand_47 : decode cX5_addBrand 47 = .ok (.getfield 20, 3) := by decide +kernel
theorem dX5_addBrand_50 : decode cX5_addBrand 50 = .ok (.iconst 0, 1) := by decide +kernel
theorem dX5_addBrand_51 : decode cX5_addBrand 51 = .ok (.iconst 1, 1) := by decide +kernel
theorem dX5_addBrand_52 : decode cX5_addBrand 52 = .ok (.invokevirtual 66, 3) := by decide +kernel
theorem dX5_addBrand_55 : decode cX5_addBrand 55 = .ok (.aload_n 0, 1) := by decide +kernel
theorem dX5_addBrand_56 : decode cX5_addBrand 56 = .ok (.getfield 20, 3) := by decide +kernel
theorem dX5_addBrand_59 : decode cX5_addBrand 59 = .ok (.iload_n 3, 1) := by decide +kernel
theorem dX5_addBrand_60 : decode cX5_addBrand 60 = .ok (.iconst 0, 1) := by decide +kernel
theorem dX5_addBrand_61 : decode cX5_addBrand 61 = .ok (.iload_n 1, 1) := by decide +kernel
theorem dX5_addBrand_62 : decode cX5_addBrand 62 = .ok (.invokevirtual 70, 3) := by decide +kernel
theorem dX5_addBrand_65 : decode cX5_addBrand 65 = .ok (.aload_n 0, 1) := by decide +kernel
theorem dX5_addBrand_66 : decode cX5_addBrand 66 = .ok (.getfield 20, 3) := by decide +kernel
theorem dX5_addBrand_69 : decode cX5_addBrand 69 = .ok (.iload_n 3, 1) := by decide +kernel
theorem dX5_addBrand_70 : decode cX5_addBrand 70 = .ok (.iconst 1, 1) := by decide +kernel
theorem dX5_addBrand_71 : decode cX5_addBrand 71 = .ok (.iload_n 2, 1) := by decide +kernel
theorem dX5_addBrand_72 : decode cX5_addBrand 72 = .ok (.invokevirtual 70, 3) := by decide +kernel
theorem dX5_addBrand_75 : decode cX5_addBrand 75 = .ok (.iload_n 3, 1) := by decide +kernel
theorem dX5_addBrand_76 : decode cX5_addBrand 76 = .ok (.ireturn, 1) := by decide +kernel
set_option maxRecDepth 20000 in
theorem ggX5_addShop_X5_needRange : GoodIn wsX5_addShop wsX5_needRange := goodIn_ca (goodIn_r _ [7, 8, 9, 6, 10, 11, 12] (by decide +kernel) (by decide +kernel)) (goodIn_sub (fun _ h => List.mem_cons_of_mem _ (List.mem_append_left _ (List.mem_append_right _ h))) (by decide +kernel))
set_option maxRecDepth 20000 in
theorem gX5_addShop_X5_needRange : GoodIn wsX5_addShop (va_wsS RX5 48 yX5_needRange wsX5_needRange) := goodIn_app (goodIn_of _ (by decide +kernel)) ggX5_addShop_X5_needRange
set_option maxRecDepth 20000 in
theorem ggX5_addShop_X2_ofAll : GoodIn wsX5_addShop wsX2_ofAll := goodIn_r _ [16, 17, 18, 19, 14, 20, 21, 60] (by decide +kernel) (by decide +kernel)
set_option maxRecDepth 20000 in
theorem gX5_addShop_X2_ofAll_n52 : GoodIn wsX5_addShop (wsX2_ofAll) := ggX5_addShop_X2_ofAll
set_option maxRecDepth 20000 in
theorem ggX5_addShop_X5_needState : GoodIn wsX5_addShop wsX5_needState := goodIn_ca (goodIn_r _ [24, 25, 26] (by decide +kernel) (by decide +kernel)) (goodIn_sub (fun _ h => List.mem_cons_of_mem _ (List.mem_append_right _ h)) (by decide +kernel))
set_option maxRecDepth 20000 in
theorem gX5_addShop_X5_needState : GoodIn wsX5_addShop (va_wsS RX5 58 yX5_needState wsX5_needState) := goodIn_app (goodIn_of _ (by decide +kernel)) ggX5_addShop_X5_needState
set_option maxRecDepth 20000 in
theorem ggX5_addShop_X1_keep : GoodIn wsX5_addShop wsX1_keep := goodIn_r _ [30, 31, 32, 33, 34, 35, 28, 36, 37, 38, 14, 39, 40, 21, 41, 42, 43, 44, 61, 62, 63, 60] (by decide +kernel) (by decide +kernel)
set_option maxRecDepth 20000 in
theorem gX5_addShop_X1_keep_n62 : GoodIn wsX5_addShop (wsX1_keep) := ggX5_addShop_X1_keep
set_option maxRecDepth 20000 in
theorem ggX5_addShop_X2_addToAll : GoodIn wsX5_addShop wsX2_addToAll := goodIn_r _ [47, 17, 18, 19, 14, 20, 21, 48, 49, 50, 51, 60] (by decide +kernel) (by decide +kernel)
set_option maxRecDepth 20000 in
theorem gX5_addShop_X2_addToAll_n66 : GoodIn wsX5_addShop (wsX2_addToAll) := ggX5_addShop_X2_addToAll
set_option maxRecDepth 20000 in
theorem ggX5_addShop_X2_addToShop : GoodIn wsX5_addShop wsX2_addToShop := goodIn_r _ [54, 17, 18, 19, 14, 20, 21, 48, 49, 50, 51, 60] (by decide +kernel) (by decide +kernel)
set_option maxRecDepth 20000 in
theorem gX5_addShop_X2_addToShop_n74 : GoodIn wsX5_addShop (wsX2_addToShop) := ggX5_addShop_X2_addToShop
theorem dX5_addShop_0 : decode cX5_addShop 0 = .ok (.iload_n 1, 1) := by decide +kernel
theorem dX5_addShop_1 : decode cX5_addShop 1 = .ok (.iconst 0, 1) := by decide +kernel
theorem dX5_addShop_2 : decode cX5_addShop 2 = .ok (.ldc 73, 2) := by decide +kernel
theorem dX5_addShop_4 : decode cX5_addShop 4 = .ok (.invokestatic 48, 3) := by decide +kernel
theorem dX5_addShop_7 : decode cX5_addShop 7 = .ok (.aload_n 0, 1) := by decide +kernel
theorem dX5_addShop_8 : decode cX5_addShop 8 = .ok (.getfield 20, 3) := by decide +kernel
theorem dX5_addShop_11 : decode cX5_addShop 11 = .ok (.iconst 1, 1) := by decide +kernel
theorem dX5_addShop_12 : decode cX5_addShop 12 = .ok (.invokevirtual 52, 3) := by decide +kernel
theorem dX5_addShop_15 : decode cX5_addShop 15 = .ok (.istore_n 2, 1) := by decide +kernel
theorem dX5_addShop_16 : decode cX5_addShop 16 = .ok (.iload_n 2, 1) := by decide +kernel
theorem dX5_addShop_17 : decode cX5_addShop 17 = .ok (.bipush 6, 2) := by decide +kernel
theorem dX5_addShop_19 : decode cX5_addShop 19 = .ok (.if_icmp .ge 7, 3) := by decide +kernel
theorem dX5_addShop_22 : decode cX5_addShop 22 = .ok (.iconst 1, 1) := by decide +kernel
theorem dX5_addShop_23 : decode cX5_addShop 23 = .ok (.goto 4, 3) := by decide +kernel
theorem dX5_addShop_26 : decode cX5_addShop 26 = .ok (.iconst 0, 1) := by decide +kernel
theorem dX5_addShop_27 : decode cX5_addShop 27 = .ok (.invokestatic 58, 3) := by decide +kernel
theorem dX5_addShop_30 : decode cX5_addShop 30 = .ok (.aload_n 0, 1) := by decide +kernel
theorem dX5_addShop_31 : decode cX5_addShop 31 = .ok (.getfield 26, 3) := by decide +kernel
theorem dX5_addShop_34 : decode cX5_addShop 34 = .ok (.aload_n 0, 1) := by decide +kernel
theorem dX5_addShop_35 : decode cX5_addShop 35 = .ok (.getfield 20, 3) := by decide +kernel
theorem dX5_addShop_38 : decode cX5_addShop 38 = .ok (.invokevirtual 62, 3) := by decide +kernel
theorem dX5_addShop_41 : decode cX5_addShop 41 = .ok (.aload_n 0, 1) := by decide +kernel
theorem dX5_addShop_42 : decode cX5_addShop 42 = .ok (.getfield 20, 3) := by decide +kernel
theorem dX5_addShop_45 : decode cX5_addShop 45 = .ok (.iconst 1, 1) := by decide +kernel
theorem dX5_addShop_46 : decode cX5_addShop 46 = .ok (.iconst 1, 1) := by decide +kernel
theorem dX5_addShop_47 : decode cX5_addShop 47 = .ok (.invokevirtual 66, 3) := by decide +kernel
theorem dX5_addShop_50 : decode cX5_addShop 50 = .ok (.aload_n 0, 1) := by decide +kernel
theorem dX5_addShop_51 : decode cX5_addShop 51 = .ok (.getfield 20, 3) := by decide +kernel
theorem dX5_addShop_54 : decode cX5_addShop 54 = .ok (.iload_n 2, 1) := by decide +kernel
theorem dX5_addShop_55 : decode cX5_addShop 55 = .ok (.iconst 0, 1) := by decide +kernel
theorem dX5_addShop_56 : decode cX5_addShop 56 = .ok (.iload_n 1, 1) := by decide +kernel
theorem dX5_addShop_57 : decode cX5_addShop 57 = .ok (.invokevirtual 74, 3) := by decide +kernel
theorem dX5_addShop_60 : decode cX5_addShop 60 = .ok (.iload_n 2, 1) := by decide +kernel
theorem dX5_addShop_61 : decode cX5_addShop 61 = .ok (.ireturn, 1) := by decide +kernel
set_option maxRecDepth 20000 in
theorem ggX5_buyCrates_X5_needRange : GoodIn wsX5_buyCrates wsX5_needRange := goodIn_ca (goodIn_r _ [6, 7, 8, 5, 9, 10, 11] (by decide +kernel) (by decide +kernel)) (goodIn_sub (fun _ h => List.mem_cons_of_mem _ (List.mem_append_left _ (List.mem_append_right _ h))) (by decide +kernel))
set_option maxRecDepth 20000 in
theorem gX5_buyCrates_X5_needRange : GoodIn wsX5_buyCrates (va_wsS RX5 48 yX5_needRange wsX5_needRange) := goodIn_app (goodIn_of _ (by decide +kernel)) ggX5_buyCrates_X5_needRange
set_option maxRecDepth 20000 in
theorem ggX5_buyCrates_X2_ofAll : GoodIn wsX5_buyCrates wsX2_ofAll := goodIn_r _ [15, 16, 17, 18, 13, 19, 20, 76] (by decide +kernel) (by decide +kernel)
set_option maxRecDepth 20000 in
theorem gX5_buyCrates_X2_ofAll_n52 : GoodIn wsX5_buyCrates (wsX2_ofAll) := ggX5_buyCrates_X2_ofAll
set_option maxRecDepth 20000 in
theorem ggX5_buyCrates_X2_countNumber : GoodIn wsX5_buyCrates wsX2_countNumber := goodIn_r _ [23, 24, 25, 26, 13, 27, 28, 29, 30, 31, 16, 17, 18, 19, 20, 32, 33, 34, 35, 36, 37, 38, 39, 40, 12, 14, 15, 76] (by decide +kernel) (by decide +kernel)
set_option maxRecDepth 20000 in
theorem gX5_buyCrates_X2_countNumber_n77 : GoodIn wsX5_buyCrates (wsX2_countNumber) := ggX5_buyCrates_X2_countNumber
set_option maxRecDepth 20000 in
theorem ggX5_buyCrates_X5_needState : GoodIn wsX5_buyCrates wsX5_needState := goodIn_ca (goodIn_r _ [43, 44, 45] (by decide +kernel) (by decide +kernel)) (goodIn_sub (fun _ h => List.mem_cons_of_mem _ (List.mem_append_right _ h)) (by decide +kernel))
set_option maxRecDepth 20000 in
theorem gX5_buyCrates_X5_needState : GoodIn wsX5_buyCrates (va_wsS RX5 58 yX5_needState wsX5_needState) := goodIn_app (goodIn_of _ (by decide +kernel)) ggX5_buyCrates_X5_needState
set_option maxRecDepth 20000 in
theorem ggX5_buyCrates_X1_keep : GoodIn wsX5_buyCrates wsX1_keep := goodIn_r _ [49, 50, 51, 52, 53, 54, 47, 55, 56, 57, 13, 58, 59, 20, 60, 61, 62, 63, 77, 78, 79, 76] (by decide +kernel) (by decide +kernel)
set_option maxRecDepth 20000 in
theorem gX5_buyCrates_X1_keep_n62 : GoodIn wsX5_buyCrates (wsX1_keep) := ggX5_buyCrates_X1_keep
set_option maxRecDepth 20000 in
theorem ggX5_buyCrates_X2_addToAll : GoodIn wsX5_buyCrates wsX2_addToAll := goodIn_r _ [66, 16, 17, 18, 13, 19, 20, 67, 68, 69, 70, 76] (by decide +kernel) (by decide +kernel)
set_option maxRecDepth 20000 in
theorem gX5_buyCrates_X2_addToAll_n66 : GoodIn wsX5_buyCrates (wsX2_addToAll) := ggX5_buyCrates_X2_addToAll
theorem dX5_buyCrates_0 : decode cX5_buyCrates 0 = .ok (.iload_n 1, 1) := by decide +kernel
theorem dX5_buyCrates_1 : decode cX5_buyCrates 1 = .ok (.iconst 1, 1) := by decide +kernel
theorem dX5_buyCrates_2 : decode cX5_buyCrates 2 = .ok (.sipush 500, 3) := by decide +kernel
theorem dX5_buyCrates_5 : decode cX5_buyCrates 5 = .ok (.invokestatic 48, 3) := by decide +kernel
theorem dX5_buyCrates_8 : decode cX5_buyCrates 8 = .ok (.aload_n 0, 1) := by decide +kernel
theorem dX5_buyCrates_9 : decode cX5_buyCrates 9 = .ok (.getfield 20, 3) := by decide +kernel
theorem dX5_buyCrates_12 : decode cX5_buyCrates 12 = .ok (.iconst 2, 1) := by decide +kernel
theorem dX5_buyCrates_13 : decode cX5_buyCrates 13 = .ok (.invokevirtual 52, 3) := by decide +kernel
theorem dX5_buyCrates_16 : decode cX5_buyCrates 16 = .ok (.aload_n 0, 1) := by decide +kernel
theorem dX5_buyCrates_17 : decode cX5_buyCrates 17 = .ok (.getfield 20, 3) := by decide +kernel
theorem dX5_buyCrates_20 : decode cX5_buyCrates 20 = .ok (.iconst 3, 1) := by decide +kernel
theorem dX5_buyCrates_21 : decode cX5_buyCrates 21 = .ok (.invokevirtual 77, 3) := by decide +kernel
theorem dX5_buyCrates_24 : decode cX5_buyCrates 24 = .ok (.iadd, 1) := by decide +kernel
theorem dX5_buyCrates_25 : decode cX5_buyCrates 25 = .ok (.iload_n 1, 1) := by decide +kernel
theorem dX5_buyCrates_26 : decode cX5_buyCrates 26 = .ok (.iadd, 1) := by decide +kernel
theorem dX5_buyCrates_27 : decode cX5_buyCrates 27 = .ok (.sipush 1000, 3) := by decide +kernel
theorem dX5_buyCrates_30 : decode cX5_buyCrates 30 = .ok (.if_icmp .gt 7, 3) := by decide +kernel
theorem dX5_buyCrates_33 : decode cX5_buyCrates 33 = .ok (.iconst 1, 1) := by decide +kernel
theorem dX5_buyCrates_34 : decode cX5_buyCrates 34 = .ok (.goto 4, 3) := by decide +kernel
theorem dX5_buyCrates_37 : decode cX5_buyCrates 37 = .ok (.iconst 0, 1) := by decide +kernel
theorem dX5_buyCrates_38 : decode cX5_buyCrates 38 = .ok (.invokestatic 58, 3) := by decide +kernel
theorem dX5_buyCrates_41 : decode cX5_buyCrates 41 = .ok (.aload_n 0, 1) := by decide +kernel
theorem dX5_buyCrates_42 : decode cX5_buyCrates 42 = .ok (.getfield 26, 3) := by decide +kernel
theorem dX5_buyCrates_45 : decode cX5_buyCrates 45 = .ok (.aload_n 0, 1) := by decide +kernel
theorem dX5_buyCrates_46 : decode cX5_buyCrates 46 = .ok (.getfield 20, 3) := by decide +kernel
theorem dX5_buyCrates_49 : decode cX5_buyCrates 49 = .ok (.invokevirtual 62, 3) := by decide +kernel
theorem dX5_buyCrates_52 : decode cX5_buyCrates 52 = .ok (.aload_n 0, 1) := by decide +kernel
theorem dX5_buyCrates_53 : decode cX5_buyCrates 53 = .ok (.getfield 20, 3) := by decide +kernel
theorem dX5_buyCrates_56 : decode cX5_buyCrates 56 = .ok (.iconst 2, 1) := by decide +kernel
theorem dX5_buyCrates_57 : decode cX5_buyCrates 57 = .ok (.iload_n 1, 1) := by decide +kernel
theorem dX5_buyCrates_58 : decode cX5_buyCrates 58 = .ok (.invokevirtual 66, 3) := by decide +kernel
theorem dX5_buyCrates_61 : decode cX5_buyCrates 61 = .ok (.aload_n 0, 1) := by decide +kernel
theorem dX5_buyCrates_62 : decode cX5_buyCrates 62 = .ok (.getfield 20, 3) := by decide +kernel
theorem dX5_buyCrates_65 : decode cX5_buyCrates 65 = .ok (.iconst 2, 1) := by decide +kernel
theorem dX5_buyCrates_66 : decode cX5_buyCrates 66 = .ok (.invokevirtual 52, 3) := by decide +kernel
theorem dX5_buyCrates_69 : decode cX5_buyCrates 69 = .ok (.ireturn, 1) := by decide +kernel
set_option maxRecDepth 20000 in
theorem ggX5_set_X5_needSetting : GoodIn wsX5_set wsX5_needSetting := goodIn_ca (goodIn_r _ [8, 9, 10] (by decide +kernel) (by decide +kernel)) (goodIn_sub (fun _ h => List.mem_cons_of_mem _ (List.mem_append_left _ (List.mem_append_left _ (List.mem_append_right _ h)))) (by decide +kernel))
set_option maxRecDepth 20000 in
theorem gX5_set_X5_needSetting : GoodIn wsX5_set (va_wsS RX5 80 yX5_needSetting wsX5_needSetting) := goodIn_app (goodIn_of _ (by decide +kernel)) ggX5_set_X5_needSetting
set_option maxRecDepth 20000 in
theorem ggX5_set_X5_entry : GoodIn wsX5_set wsX5_entry := goodIn_r _ [13] (by decide +kernel) (by decide +kernel)
set_option maxRecDepth 20000 in
theorem gX5_set_X5_entry : GoodIn wsX5_set (va_wsS RX5 87 yX5_entry wsX5_entry) := goodIn_app (goodIn_of _ (by decide +kernel)) ggX5_set_X5_entry
set_option maxRecDepth 20000 in
theorem ggX5_set_X5_needRange : GoodIn wsX5_set wsX5_needRange := goodIn_ca (goodIn_r _ [16, 17, 18, 7, 19, 20, 21] (by decide +kernel) (by decide +kernel)) (goodIn_sub (fun _ h => List.mem_cons_of_mem _ (List.mem_append_left _ (List.mem_append_right _ h))) (by decide +kernel))
set_option maxRecDepth 20000 in
theorem gX5_set_X5_needRange : GoodIn wsX5_set (va_wsS RX5 48 yX5_needRange wsX5_needRange) := goodIn_app (goodIn_of _ (by decide +kernel)) ggX5_set_X5_needRange
set_option maxRecDepth 20000 in
theorem ggX5_set_X2_ofAll : GoodIn wsX5_set wsX2_ofAll := goodIn_r _ [25, 26, 27, 28, 23, 29, 30, 69] (by decide +kernel) (by decide +kernel)
set_option maxRecDepth 20000 in
theorem gX5_set_X2_ofAll_n52 : GoodIn wsX5_set (wsX2_ofAll) := ggX5_set_X2_ofAll
set_option maxRecDepth 20000 in
theorem ggX5_set_X5_needState : GoodIn wsX5_set wsX5_needState := goodIn_ca (goodIn_r _ [33, 34, 35] (by decide +kernel) (by decide +kernel)) (goodIn_sub (fun _ h => List.mem_cons_of_mem _ (List.mem_append_right _ h)) (by decide +kernel))
set_option maxRecDepth 20000 in
theorem gX5_set_X5_needState : GoodIn wsX5_set (va_wsS RX5 58 yX5_needState wsX5_needState) := goodIn_app (goodIn_of _ (by decide +kernel)) ggX5_set_X5_needState
set_option maxRecDepth 20000 in
theorem ggX5_set_X1_keep : GoodIn wsX5_set wsX1_keep := goodIn_r _ [39, 40, 41, 42, 43, 44, 37, 45, 46, 47, 23, 48, 49, 30, 50, 51, 52, 53, 70, 71, 72, 69] (by decide +kernel) (by decide +kernel)
set_option maxRecDepth 20000 in
theorem gX5_set_X1_keep_n62 : GoodIn wsX5_set (wsX1_keep) := ggX5_set_X1_keep
set_option maxRecDepth 20000 in
theorem ggX5_set_X2_ofSetting : GoodIn wsX5_set wsX2_ofSetting := goodIn_r _ [56, 26, 27, 28, 23, 29, 30, 69] (by decide +kernel) (by decide +kernel)
set_option maxRecDepth 20000 in
theorem gX5_set_X2_ofSetting_n94 : GoodIn wsX5_set (wsX2_ofSetting) := ggX5_set_X2_ofSetting
set_option maxRecDepth 20000 in
theorem ggX5_set_X2_putSetting : GoodIn wsX5_set wsX2_putSetting := goodIn_r _ [59, 60, 61, 62, 23, 63, 30, 69] (by decide +kernel) (by decide +kernel)
set_option maxRecDepth 20000 in
theorem gX5_set_X2_putSetting_n97 : GoodIn wsX5_set (wsX2_putSetting) := ggX5_set_X2_putSetting
theorem dX5_set_0 : decode cX5_set 0 = .ok (.iload_n 1, 1) := by decide +kernel
theorem dX5_set_1 : decode cX5_set 1 = .ok (.invokestatic 80, 3) := by decide +kernel
theorem dX5_set_4 : decode cX5_set 4 = .ok (.iload_n 2, 1) := by decide +kernel
theorem dX5_set_5 : decode cX5_set 5 = .ok (.getstatic 83, 3) := by decide +kernel
theorem dX5_set_8 : decode cX5_set 8 = .ok (.iload_n 1, 1) := by decide +kernel
theorem dX5_set_9 : decode cX5_set 9 = .ok (.invokestatic 87, 3) := by decide +kernel
theorem dX5_set_12 : decode cX5_set 12 = .ok (.getstatic 91, 3) := by decide +kernel
theorem dX5_set_15 : decode cX5_set 15 = .ok (.iload_n 1, 1) := by decide +kernel
theorem dX5_set_16 : decode cX5_set 16 = .ok (.invokestatic 87, 3) := by decide +kernel
theorem dX5_set_19 : decode cX5_set 19 = .ok (.invokestatic 48, 3) := by decide +kernel
theorem dX5_set_22 : decode cX5_set 22 = .ok (.iload_n 1, 1) := by decide +kernel
theorem dX5_set_23 : decode cX5_set 23 = .ok (.iconst 3, 1) := by decide +kernel
theorem dX5_set_24 : decode cX5_set 24 = .ok (.if_icmp .gt 14, 3) := by decide +kernel
theorem dX5_set_27 : decode cX5_set 27 = .ok (.aload_n 0, 1) := by decide +kernel
theorem dX5_set_28 : decode cX5_set 28 = .ok (.getfield 20, 3) := by decide +kernel
theorem dX5_set_31 : decode cX5_set 31 = .ok (.iconst 4, 1) := by decide +kernel
theorem dX5_set_32 : decode cX5_set 32 = .ok (.invokevirtual 52, 3) := by decide +kernel
theorem dX5_set_35 : decode cX5_set 35 = .ok (.ifCond .ne 7, 3) := by decide +kernel
theorem dX5_set_38 : decode cX5_set 38 = .ok (.iconst 1, 1) := by decide +kernel
theorem dX5_set_39 : decode cX5_set 39 = .ok (.goto 4, 3) := by decide +kernel
theorem dX5_set_42 : decode cX5_set 42 = .ok (.iconst 0, 1) := by decide +kernel
theorem dX5_set_43 : decode cX5_set 43 = .ok (.invokestatic 58, 3) := by decide +kernel
theorem dX5_set_46 : decode cX5_set 46 = .ok (.aload_n 0, 1) := by decide +kernel
theorem dX5_set_47 : decode cX5_set 47 = .ok (.getfield 26, 3) := by decide +kernel
theorem dX5_set_50 : decode cX5_set 50 = .ok (.aload_n 0, 1) := by decide +kernel
theorem dX5_set_51 : decode cX5_set 51 = .ok (.getfield 20, 3) := by decide +kernel
theorem dX5_set_54 : decode cX5_set 54 = .ok (.invokevirtual 62, 3) := by decide +kernel
theorem dX5_set_57 : decode cX5_set 57 = .ok (.aload_n 0, 1) := by decide +kernel
theorem dX5_set_58 : decode cX5_set 58 = .ok (.getfield 20, 3) := by decide +kernel
theorem dX5_set_61 : decode cX5_set 61 = .ok (.iload_n 1, 1) := by decide +kernel
theorem dX5_set_62 : decode cX5_set 62 = .ok (.invokevirtual 94, 3) := by decide +kernel
theorem dX5_set_65 : decode cX5_set 65 = .ok (.istore_n 3, 1) := by decide +kernel
theorem dX5_set_66 : decode cX5_set 66 = .ok (.aload_n 0, 1) := by decide +kernel
theorem dX5_set_67 : decode cX5_set 67 = .ok (.getfield 20, 3) := by decide +kernel
theorem dX5_set_70 : decode cX5_set 70 = .ok (.iload_n 1, 1) := by decide +kernel
theorem dX5_set_71 : decode cX5_set 71 = .ok (.iload_n 2, 1) := by decide +kernel
theorem dX5_set_72 : decode cX5_set 72 = .ok (.invokevirtual 97, 3) := by decide +kernel
theorem dX5_set_75 : decode cX5_set 75 = .ok (.iload_n 3, 1) := by decide +kernel
theorem dX5_set_76 : decode cX5_set 76 = .ok (.ireturn, 1) := by decide +kernel
set_option maxRecDepth 20000 in
theorem ggX5_fill_X5_needBrand : GoodIn wsX5_fill wsX5_needBrand := goodIn_ca (goodIn_r _ [8, 9, 10, 11, 12, 13, 7, 14, 1, 15, 16, 17, 18, 19, 20, 21, 22, 23, 77, 78, 79, 80, 81, 82] (by decide +kernel) (by decide +kernel)) (goodIn_sub (fun _ h => List.mem_cons_of_mem _ (List.mem_append_left _ (List.mem_append_left _ (List.mem_append_right _ h)))) (by decide +kernel))
set_option maxRecDepth 20000 in
theorem gX5_fill_X5_needBrand : GoodIn wsX5_fill (wsV RX5 100 RX5 yX5_needBrand wsX5_needBrand) := goodIn_app (goodIn_of _ (by decide +kernel)) ggX5_fill_X5_needBrand
set_option maxRecDepth 20000 in
theorem ggX5_fill_X5_needRange : GoodIn wsX5_fill wsX5_needRange := goodIn_ca (goodIn_r _ [26, 27, 28, 7, 29, 30, 31] (by decide +kernel) (by decide +kernel)) (goodIn_sub (fun _ h => List.mem_cons_of_mem _ (List.mem_append_left _ (List.mem_append_right _ h))) (by decide +kernel))
