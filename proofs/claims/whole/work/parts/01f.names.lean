theorem dX6_breaksThem_17 : decode cX6_breaksThem 17 = .ok (.invokestatic 76, 3) := by decide +kernel
theorem dX6_breaksThem_20 : decode cX6_breaksThem 20 = .ok (.istore 5, 2) := by decide +kernel
theorem dX6_breaksThem_22 : decode cX6_breaksThem 22 = .ok (.aload_n 0, 1) := by decide +kernel
theorem dX6_breaksThem_23 : decode cX6_breaksThem 23 = .ok (.getfield 7, 3) := by decide +kernel
theorem dX6_breaksThem_26 : decode cX6_breaksThem 26 = .ok (.iload_n 1, 1) := by decide +kernel
theorem dX6_breaksThem_27 : decode cX6_breaksThem 27 = .ok (.bipush 13, 2) := by decide +kernel
theorem dX6_breaksThem_29 : decode cX6_breaksThem 29 = .ok (.iload_n 2, 1) := by decide +kernel
theorem dX6_breaksThem_30 : decode cX6_breaksThem 30 = .ok (.iadd, 1) := by decide +kernel
theorem dX6_breaksThem_31 : decode cX6_breaksThem 31 = .ok (.invokestatic 43, 3) := by decide +kernel
theorem dX6_breaksThem_34 : decode cX6_breaksThem 34 = .ok (.dup2, 1) := by decide +kernel
theorem dX6_breaksThem_35 : decode cX6_breaksThem 35 = .ok (.iaload, 1) := by decide +kernel
theorem dX6_breaksThem_36 : decode cX6_breaksThem 36 = .ok (.iload_n 3, 1) := by decide +kernel
theorem dX6_breaksThem_37 : decode cX6_breaksThem 37 = .ok (.isub, 1) := by decide +kernel
theorem dX6_breaksThem_38 : decode cX6_breaksThem 38 = .ok (.iastore, 1) := by decide +kernel
theorem dX6_breaksThem_39 : decode cX6_breaksThem 39 = .ok (.aload_n 0, 1) := by decide +kernel
theorem dX6_breaksThem_40 : decode cX6_breaksThem 40 = .ok (.getfield 7, 3) := by decide +kernel
theorem dX6_breaksThem_43 : decode cX6_breaksThem 43 = .ok (.iload_n 2, 1) := by decide +kernel
theorem dX6_breaksThem_44 : decode cX6_breaksThem 44 = .ok (.iconst 5, 1) := by decide +kernel
theorem dX6_breaksThem_45 : decode cX6_breaksThem 45 = .ok (.invokestatic 39, 3) := by decide +kernel
theorem dX6_breaksThem_48 : decode cX6_breaksThem 48 = .ok (.dup2, 1) := by decide +kernel
theorem dX6_breaksThem_49 : decode cX6_breaksThem 49 = .ok (.iaload, 1) := by decide +kernel
theorem dX6_breaksThem_50 : decode cX6_breaksThem 50 = .ok (.iload_n 3, 1) := by decide +kernel
theorem dX6_breaksThem_51 : decode cX6_breaksThem 51 = .ok (.iadd, 1) := by decide +kernel
theorem dX6_breaksThem_52 : decode cX6_breaksThem 52 = .ok (.iastore, 1) := by decide +kernel
theorem dX6_breaksThem_53 : decode cX6_breaksThem 53 = .ok (.aload_n 0, 1) := by decide +kernel
theorem dX6_breaksThem_54 : decode cX6_breaksThem 54 = .ok (.getfield 7, 3) := by decide +kernel
theorem dX6_breaksThem_57 : decode cX6_breaksThem 57 = .ok (.iconst 4, 1) := by decide +kernel
theorem dX6_breaksThem_58 : decode cX6_breaksThem 58 = .ok (.dup2, 1) := by decide +kernel
theorem dX6_breaksThem_59 : decode cX6_breaksThem 59 = .ok (.iaload, 1) := by decide +kernel
theorem dX6_breaksThem_60 : decode cX6_breaksThem 60 = .ok (.iload 4, 2) := by decide +kernel
theorem dX6_breaksThem_62 : decode cX6_breaksThem 62 = .ok (.iadd, 1) := by decide +kernel
theorem dX6_breaksThem_63 : decode cX6_breaksThem 63 = .ok (.iastore, 1) := by decide +kernel
theorem dX6_breaksThem_64 : decode cX6_breaksThem 64 = .ok (.aload_n 0, 1) := by decide +kernel
theorem dX6_breaksThem_65 : decode cX6_breaksThem 65 = .ok (.getfield 7, 3) := by decide +kernel
theorem dX6_breaksThem_68 : decode cX6_breaksThem 68 = .ok (.iconst 5, 1) := by decide +kernel
theorem dX6_breaksThem_69 : decode cX6_breaksThem 69 = .ok (.dup2, 1) := by decide +kernel
theorem dX6_breaksThem_70 : decode cX6_breaksThem 70 = .ok (.iaload, 1) := by decide +kernel
theorem dX6_breaksThem_71 : decode cX6_breaksThem 71 = .ok (.iload 5, 2) := by decide +kernel
theorem dX6_breaksThem_73 : decode cX6_breaksThem 73 = .ok (.isub, 1) := by decide +kernel
theorem dX6_breaksThem_74 : decode cX6_breaksThem 74 = .ok (.iastore, 1) := by decide +kernel
theorem dX6_breaksThem_75 : decode cX6_breaksThem 75 = .ok (.aload_n 0, 1) := by decide +kernel
theorem dX6_breaksThem_76 : decode cX6_breaksThem 76 = .ok (.getfield 7, 3) := by decide +kernel
theorem dX6_breaksThem_79 : decode cX6_breaksThem 79 = .ok (.iload_n 1, 1) := by decide +kernel
theorem dX6_breaksThem_80 : decode cX6_breaksThem 80 = .ok (.iconst 0, 1) := by decide +kernel
theorem dX6_breaksThem_81 : decode cX6_breaksThem 81 = .ok (.invokestatic 43, 3) := by decide +kernel
theorem dX6_breaksThem_84 : decode cX6_breaksThem 84 = .ok (.dup2, 1) := by decide +kernel
theorem dX6_breaksThem_85 : decode cX6_breaksThem 85 = .ok (.iaload, 1) := by decide +kernel
theorem dX6_breaksThem_86 : decode cX6_breaksThem 86 = .ok (.iload 5, 2) := by decide +kernel
theorem dX6_breaksThem_88 : decode cX6_breaksThem 88 = .ok (.iadd, 1) := by decide +kernel
theorem dX6_breaksThem_89 : decode cX6_breaksThem 89 = .ok (.iastore, 1) := by decide +kernel
theorem dX6_breaksThem_90 : decode cX6_breaksThem 90 = .ok (.aload_n 0, 1) := by decide +kernel
theorem dX6_breaksThem_91 : decode cX6_breaksThem 91 = .ok (.getfield 7, 3) := by decide +kernel
theorem dX6_breaksThem_94 : decode cX6_breaksThem 94 = .ok (.iload_n 1, 1) := by decide +kernel
theorem dX6_breaksThem_95 : decode cX6_breaksThem 95 = .ok (.iconst 3, 1) := by decide +kernel
theorem dX6_breaksThem_96 : decode cX6_breaksThem 96 = .ok (.invokestatic 43, 3) := by decide +kernel
theorem dX6_breaksThem_99 : decode cX6_breaksThem 99 = .ok (.dup2, 1) := by decide +kernel
theorem dX6_breaksThem_100 : decode cX6_breaksThem 100 = .ok (.iaload, 1) := by decide +kernel
theorem dX6_breaksThem_101 : decode cX6_breaksThem 101 = .ok (.iload 5, 2) := by decide +kernel
theorem dX6_breaksThem_103 : decode cX6_breaksThem 103 = .ok (.isub, 1) := by decide +kernel
theorem dX6_breaksThem_104 : decode cX6_breaksThem 104 = .ok (.iastore, 1) := by decide +kernel
theorem dX6_breaksThem_105 : decode cX6_breaksThem 105 = .ok (.iload 5, 2) := by decide +kernel
theorem dX6_breaksThem_107 : decode cX6_breaksThem 107 = .ok (.ireturn, 1) := by decide +kernel
set_option maxRecDepth 20000 in
theorem ggX6_emptiesOf_X6_of : GoodIn wsX6_emptiesOf wsX6_of := goodIn_r _ [6, 1, 7, 8, 5, 9, 17, 18, 19, 20, 21, 22, 23, 24, 25, 26, 27, 28, 29, 30, 31, 32] (by decide +kernel) (by decide +kernel)
set_option maxRecDepth 20000 in
theorem gX6_emptiesOf_X6_of : GoodIn wsX6_emptiesOf (wsV RX6 46 RX6 yX6_of wsX6_of) := goodIn_app (goodIn_of _ (by decide +kernel)) ggX6_emptiesOf_X6_of
set_option maxRecDepth 20000 in
theorem ggX6_emptiesOf_X6_ofShop : GoodIn wsX6_emptiesOf wsX6_ofShop := goodIn_r _ [13, 1, 14, 15, 5, 16, 17, 18, 19, 20, 21, 22, 23, 24, 25, 26, 27, 28, 29, 30, 31, 32] (by decide +kernel) (by decide +kernel)
set_option maxRecDepth 20000 in
theorem gX6_emptiesOf_X6_ofShop : GoodIn wsX6_emptiesOf (wsV RX6 57 RX6 yX6_ofShop wsX6_ofShop) := goodIn_app (goodIn_of _ (by decide +kernel)) ggX6_emptiesOf_X6_ofShop
theorem dX6_emptiesOf_0 : decode cX6_emptiesOf 0 = .ok (.iconst 0, 1) := by decide +kernel
theorem dX6_emptiesOf_1 : decode cX6_emptiesOf 1 = .ok (.istore_n 3, 1) := by decide +kernel
theorem dX6_emptiesOf_2 : decode cX6_emptiesOf 2 = .ok (.iconst 0, 1) := by decide +kernel
theorem dX6_emptiesOf_3 : decode cX6_emptiesOf 3 = .ok (.istore 4, 2) := by decide +kernel
theorem dX6_emptiesOf_5 : decode cX6_emptiesOf 5 = .ok (.iload 4, 2) := by decide +kernel
theorem dX6_emptiesOf_7 : decode cX6_emptiesOf 7 = .ok (.aload_n 0, 1) := by decide +kernel
theorem dX6_emptiesOf_8 : decode cX6_emptiesOf 8 = .ok (.getfield 7, 3) := by decide +kernel
theorem dX6_emptiesOf_11 : decode cX6_emptiesOf 11 = .ok (.iconst 0, 1) := by decide +kernel
theorem dX6_emptiesOf_12 : decode cX6_emptiesOf 12 = .ok (.iaload, 1) := by decide +kernel
theorem dX6_emptiesOf_13 : decode cX6_emptiesOf 13 = .ok (.if_icmp .ge 37, 3) := by decide +kernel
theorem dX6_emptiesOf_16 : decode cX6_emptiesOf 16 = .ok (.iload_n 3, 1) := by decide +kernel
theorem dX6_emptiesOf_17 : decode cX6_emptiesOf 17 = .ok (.aload_n 0, 1) := by decide +kernel
theorem dX6_emptiesOf_18 : decode cX6_emptiesOf 18 = .ok (.iload 4, 2) := by decide +kernel
theorem dX6_emptiesOf_20 : decode cX6_emptiesOf 20 = .ok (.iconst 0, 1) := by decide +kernel
theorem dX6_emptiesOf_21 : decode cX6_emptiesOf 21 = .ok (.invokevirtual 46, 3) := by decide +kernel
theorem dX6_emptiesOf_24 : decode cX6_emptiesOf 24 = .ok (.iload_n 2, 1) := by decide +kernel
theorem dX6_emptiesOf_25 : decode cX6_emptiesOf 25 = .ok (.if_icmp .ne 16, 3) := by decide +kernel
theorem dX6_emptiesOf_28 : decode cX6_emptiesOf 28 = .ok (.aload_n 0, 1) := by decide +kernel
theorem dX6_emptiesOf_29 : decode cX6_emptiesOf 29 = .ok (.iload_n 1, 1) := by decide +kernel
theorem dX6_emptiesOf_30 : decode cX6_emptiesOf 30 = .ok (.bipush 13, 2) := by decide +kernel
theorem dX6_emptiesOf_32 : decode cX6_emptiesOf 32 = .ok (.iload 4, 2) := by decide +kernel
theorem dX6_emptiesOf_34 : decode cX6_emptiesOf 34 = .ok (.iadd, 1) := by decide +kernel
theorem dX6_emptiesOf_35 : decode cX6_emptiesOf 35 = .ok (.invokevirtual 57, 3) := by decide +kernel
theorem dX6_emptiesOf_38 : decode cX6_emptiesOf 38 = .ok (.goto 4, 3) := by decide +kernel
theorem dX6_emptiesOf_41 : decode cX6_emptiesOf 41 = .ok (.iconst 0, 1) := by decide +kernel
theorem dX6_emptiesOf_42 : decode cX6_emptiesOf 42 = .ok (.iadd, 1) := by decide +kernel
theorem dX6_emptiesOf_43 : decode cX6_emptiesOf 43 = .ok (.istore_n 3, 1) := by decide +kernel
theorem dX6_emptiesOf_44 : decode cX6_emptiesOf 44 = .ok (.iinc 4 1, 3) := by decide +kernel
theorem dX6_emptiesOf_47 : decode cX6_emptiesOf 47 = .ok (.goto (-42), 3) := by decide +kernel
theorem dX6_emptiesOf_50 : decode cX6_emptiesOf 50 = .ok (.iload_n 3, 1) := by decide +kernel
theorem dX6_emptiesOf_51 : decode cX6_emptiesOf 51 = .ok (.ireturn, 1) := by decide +kernel
set_option maxRecDepth 20000 in
theorem ggX6_againstCollect_X6_emptiesOf : GoodIn wsX6_againstCollect wsX6_emptiesOf := goodIn_r _ [5, 6, 7, 8, 9, 4, 10, 11, 12, 13, 14, 15, 16, 17, 18, 19, 20, 21, 22, 23, 24, 25, 26, 27, 28, 29, 30, 31, 32, 33, 34, 35, 36] (by decide +kernel) (by decide +kernel)
set_option maxRecDepth 20000 in
theorem gX6_againstCollect_X6_emptiesOf : GoodIn wsX6_againstCollect (wsV RX6 79 RX6 yX6_emptiesOf wsX6_emptiesOf) := goodIn_app (goodIn_of _ (by decide +kernel)) ggX6_againstCollect_X6_emptiesOf
set_option maxRecDepth 20000 in
theorem ggX6_againstCollect_X6_ofShop : GoodIn wsX6_againstCollect wsX6_ofShop := goodIn_r _ [17, 6, 18, 19, 4, 20, 21, 22, 23, 24, 25, 26, 27, 28, 29, 30, 31, 32, 33, 34, 35, 36] (by decide +kernel) (by decide +kernel)
set_option maxRecDepth 20000 in
theorem gX6_againstCollect_X6_ofShop : GoodIn wsX6_againstCollect (wsV RX6 57 RX6 yX6_ofShop wsX6_ofShop) := goodIn_app (goodIn_of _ (by decide +kernel)) ggX6_againstCollect_X6_ofShop
theorem dX6_againstCollect_0 : decode cX6_againstCollect 0 = .ok (.aload_n 0, 1) := by decide +kernel
theorem dX6_againstCollect_1 : decode cX6_againstCollect 1 = .ok (.iload_n 1, 1) := by decide +kernel
theorem dX6_againstCollect_2 : decode cX6_againstCollect 2 = .ok (.iload_n 2, 1) := by decide +kernel
theorem dX6_againstCollect_3 : decode cX6_againstCollect 3 = .ok (.invokevirtual 79, 3) := by decide +kernel
theorem dX6_againstCollect_6 : decode cX6_againstCollect 6 = .ok (.bipush 12, 2) := by decide +kernel
theorem dX6_againstCollect_8 : decode cX6_againstCollect 8 = .ok (.iload_n 3, 1) := by decide +kernel
theorem dX6_againstCollect_9 : decode cX6_againstCollect 9 = .ok (.imul, 1) := by decide +kernel
theorem dX6_againstCollect_10 : decode cX6_againstCollect 10 = .ok (.if_icmp .ge 7, 3) := by decide +kernel
theorem dX6_againstCollect_13 : decode cX6_againstCollect 13 = .ok (.iconst 1, 1) := by decide +kernel
theorem dX6_againstCollect_14 : decode cX6_againstCollect 14 = .ok (.goto 18, 3) := by decide +kernel
theorem dX6_againstCollect_17 : decode cX6_againstCollect 17 = .ok (.aload_n 0, 1) := by decide +kernel
theorem dX6_againstCollect_18 : decode cX6_againstCollect 18 = .ok (.iload_n 1, 1) := by decide +kernel
theorem dX6_againstCollect_19 : decode cX6_againstCollect 19 = .ok (.iconst 1, 1) := by decide +kernel
theorem dX6_againstCollect_20 : decode cX6_againstCollect 20 = .ok (.invokevirtual 57, 3) := by decide +kernel
theorem dX6_againstCollect_23 : decode cX6_againstCollect 23 = .ok (.iload_n 3, 1) := by decide +kernel
theorem dX6_againstCollect_24 : decode cX6_againstCollect 24 = .ok (.if_icmp .ge 7, 3) := by decide +kernel
theorem dX6_againstCollect_27 : decode cX6_againstCollect 27 = .ok (.iconst 2, 1) := by decide +kernel
theorem dX6_againstCollect_28 : decode cX6_againstCollect 28 = .ok (.goto 4, 3) := by decide +kernel
theorem dX6_againstCollect_31 : decode cX6_againstCollect 31 = .ok (.iconst 0, 1) := by decide +kernel
theorem dX6_againstCollect_32 : decode cX6_againstCollect 32 = .ok (.ireturn, 1) := by decide +kernel
set_option maxRecDepth 20000 in
theorem ggX6_mostEmpties_X6_of : GoodIn wsX6_mostEmpties wsX6_of := goodIn_r _ [6, 1, 7, 8, 5, 9, 17, 18, 19, 20, 21, 22, 23, 24, 25, 26, 27, 28, 29, 30, 31, 32] (by decide +kernel) (by decide +kernel)
set_option maxRecDepth 20000 in
theorem gX6_mostEmpties_X6_of : GoodIn wsX6_mostEmpties (wsV RX6 46 RX6 yX6_of wsX6_of) := goodIn_app (goodIn_of _ (by decide +kernel)) ggX6_mostEmpties_X6_of
set_option maxRecDepth 20000 in
theorem ggX6_mostEmpties_X6_ofShop : GoodIn wsX6_mostEmpties wsX6_ofShop := goodIn_r _ [13, 1, 14, 15, 5, 16, 17, 18, 19, 20, 21, 22, 23, 24, 25, 26, 27, 28, 29, 30, 31, 32] (by decide +kernel) (by decide +kernel)
set_option maxRecDepth 20000 in
theorem gX6_mostEmpties_X6_ofShop : GoodIn wsX6_mostEmpties (wsV RX6 57 RX6 yX6_ofShop wsX6_ofShop) := goodIn_app (goodIn_of _ (by decide +kernel)) ggX6_mostEmpties_X6_ofShop
theorem dX6_mostEmpties_0 : decode cX6_mostEmpties 0 = .ok (.iconst (-1), 1) := by decide +kernel
theorem dX6_mostEmpties_1 : decode cX6_mostEmpties 1 = .ok (.istore_n 3, 1) := by decide +kernel
theorem dX6_mostEmpties_2 : decode cX6_mostEmpties 2 = .ok (.iconst 0, 1) := by decide +kernel
theorem dX6_mostEmpties_3 : decode cX6_mostEmpties 3 = .ok (.istore 4, 2) := by decide +kernel
theorem dX6_mostEmpties_5 : decode cX6_mostEmpties 5 = .ok (.iload 4, 2) := by decide +kernel
theorem dX6_mostEmpties_7 : decode cX6_mostEmpties 7 = .ok (.aload_n 0, 1) := by decide +kernel
theorem dX6_mostEmpties_8 : decode cX6_mostEmpties 8 = .ok (.getfield 7, 3) := by decide +kernel
theorem dX6_mostEmpties_11 : decode cX6_mostEmpties 11 = .ok (.iconst 0, 1) := by decide +kernel
theorem dX6_mostEmpties_12 : decode cX6_mostEmpties 12 = .ok (.iaload, 1) := by decide +kernel
theorem dX6_mostEmpties_13 : decode cX6_mostEmpties 13 = .ok (.if_icmp .ge 65, 3) := by decide +kernel
theorem dX6_mostEmpties_16 : decode cX6_mostEmpties 16 = .ok (.aload_n 0, 1) := by decide +kernel
theorem dX6_mostEmpties_17 : decode cX6_mostEmpties 17 = .ok (.iload 4, 2) := by decide +kernel
theorem dX6_mostEmpties_19 : decode cX6_mostEmpties 19 = .ok (.iconst 0, 1) := by decide +kernel
theorem dX6_mostEmpties_20 : decode cX6_mostEmpties 20 = .ok (.invokevirtual 46, 3) := by decide +kernel
theorem dX6_mostEmpties_23 : decode cX6_mostEmpties 23 = .ok (.iload_n 2, 1) := by decide +kernel
theorem dX6_mostEmpties_24 : decode cX6_mostEmpties 24 = .ok (.if_icmp .ne 33, 3) := by decide +kernel
theorem dX6_mostEmpties_27 : decode cX6_mostEmpties 27 = .ok (.iload_n 3, 1) := by decide +kernel
theorem dX6_mostEmpties_28 : decode cX6_mostEmpties 28 = .ok (.ifCond .lt 25, 3) := by decide +kernel
theorem dX6_mostEmpties_31 : decode cX6_mostEmpties 31 = .ok (.aload_n 0, 1) := by decide +kernel
theorem dX6_mostEmpties_32 : decode cX6_mostEmpties 32 = .ok (.iload_n 1, 1) := by decide +kernel
theorem dX6_mostEmpties_33 : decode cX6_mostEmpties 33 = .ok (.bipush 13, 2) := by decide +kernel
theorem dX6_mostEmpties_35 : decode cX6_mostEmpties 35 = .ok (.iload 4, 2) := by decide +kernel
theorem dX6_mostEmpties_37 : decode cX6_mostEmpties 37 = .ok (.iadd, 1) := by decide +kernel
theorem dX6_mostEmpties_38 : decode cX6_mostEmpties 38 = .ok (.invokevirtual 57, 3) := by decide +kernel
theorem dX6_mostEmpties_41 : decode cX6_mostEmpties 41 = .ok (.aload_n 0, 1) := by decide +kernel
theorem dX6_mostEmpties_42 : decode cX6_mostEmpties 42 = .ok (.iload_n 1, 1) := by decide +kernel
theorem dX6_mostEmpties_43 : decode cX6_mostEmpties 43 = .ok (.bipush 13, 2) := by decide +kernel
theorem dX6_mostEmpties_45 : decode cX6_mostEmpties 45 = .ok (.iload_n 3, 1) := by decide +kernel
theorem dX6_mostEmpties_46 : decode cX6_mostEmpties 46 = .ok (.iadd, 1) := by decide +kernel
theorem dX6_mostEmpties_47 : decode cX6_mostEmpties 47 = .ok (.invokevirtual 57, 3) := by decide +kernel
theorem dX6_mostEmpties_50 : decode cX6_mostEmpties 50 = .ok (.if_icmp .le 7, 3) := by decide +kernel
theorem dX6_mostEmpties_53 : decode cX6_mostEmpties 53 = .ok (.iconst 1, 1) := by decide +kernel
theorem dX6_mostEmpties_54 : decode cX6_mostEmpties 54 = .ok (.goto 4, 3) := by decide +kernel
theorem dX6_mostEmpties_57 : decode cX6_mostEmpties 57 = .ok (.iconst 0, 1) := by decide +kernel
theorem dX6_mostEmpties_58 : decode cX6_mostEmpties 58 = .ok (.istore 5, 2) := by decide +kernel
theorem dX6_mostEmpties_60 : decode cX6_mostEmpties 60 = .ok (.iload 5, 2) := by decide +kernel
theorem dX6_mostEmpties_62 : decode cX6_mostEmpties 62 = .ok (.ifCond .eq 8, 3) := by decide +kernel
theorem dX6_mostEmpties_65 : decode cX6_mostEmpties 65 = .ok (.iload 4, 2) := by decide +kernel
theorem dX6_mostEmpties_67 : decode cX6_mostEmpties 67 = .ok (.goto 4, 3) := by decide +kernel
theorem dX6_mostEmpties_70 : decode cX6_mostEmpties 70 = .ok (.iload_n 3, 1) := by decide +kernel
theorem dX6_mostEmpties_71 : decode cX6_mostEmpties 71 = .ok (.istore_n 3, 1) := by decide +kernel
theorem dX6_mostEmpties_72 : decode cX6_mostEmpties 72 = .ok (.iinc 4 1, 3) := by decide +kernel
theorem dX6_mostEmpties_75 : decode cX6_mostEmpties 75 = .ok (.goto (-70), 3) := by decide +kernel
theorem dX6_mostEmpties_78 : decode cX6_mostEmpties 78 = .ok (.iload_n 3, 1) := by decide +kernel
theorem dX6_mostEmpties_79 : decode cX6_mostEmpties 79 = .ok (.ireturn, 1) := by decide +kernel
set_option maxRecDepth 20000 in
theorem ggX6_collects_X6_mostEmpties : GoodIn wsX6_collects wsX6_mostEmpties := goodIn_r _ [6, 1, 7, 8, 9, 5, 10, 11, 12, 13, 14, 15, 16, 17, 18, 19, 20, 25, 26, 27, 28, 29, 30, 31, 32, 33, 34, 35, 36, 37, 38, 39, 40] (by decide +kernel) (by decide +kernel)
set_option maxRecDepth 20000 in
theorem gX6_collects_X6_mostEmpties : GoodIn wsX6_collects (wsV RX6 82 RX6 yX6_mostEmpties wsX6_mostEmpties) := goodIn_app (goodIn_of _ (by decide +kernel)) ggX6_collects_X6_mostEmpties
set_option maxRecDepth 20000 in
theorem ggX6_collects_X6_shopAt : GoodIn wsX6_collects wsX6_shopAt := goodIn_r _ [20] (by decide +kernel) (by decide +kernel)
set_option maxRecDepth 20000 in
theorem gX6_collects_X6_shopAt : GoodIn wsX6_collects (va_wsS RX6 43 yX6_shopAt wsX6_shopAt) := goodIn_app (goodIn_of _ (by decide +kernel)) ggX6_collects_X6_shopAt
set_option maxRecDepth 20000 in
theorem ggX6_collects_X6_brandAt : GoodIn wsX6_collects wsX6_brandAt := goodIn_r _ [13] (by decide +kernel) (by decide +kernel)
set_option maxRecDepth 20000 in
theorem gX6_collects_X6_brandAt : GoodIn wsX6_collects (va_wsS RX6 39 yX6_brandAt wsX6_brandAt) := goodIn_app (goodIn_of _ (by decide +kernel)) ggX6_collects_X6_brandAt
set_option maxRecDepth 20000 in
theorem ggX6_collects_X6_depositsFor : GoodIn wsX6_collects wsX6_depositsFor := goodIn_r _ [24, 1, 25, 26, 27, 28, 29, 30, 31, 32, 33, 34, 35, 36, 37, 38, 39, 40] (by decide +kernel) (by decide +kernel)
set_option maxRecDepth 20000 in
theorem gX6_collects_X6_depositsFor : GoodIn wsX6_collects (wsV RX6 67 RX6 yX6_depositsFor wsX6_depositsFor) := goodIn_app (goodIn_of _ (by decide +kernel)) ggX6_collects_X6_depositsFor
theorem dX6_collects_0 : decode cX6_collects 0 = .ok (.iconst 0, 1) := by decide +kernel
theorem dX6_collects_1 : decode cX6_collects 1 = .ok (.istore 4, 2) := by decide +kernel
theorem dX6_collects_3 : decode cX6_collects 3 = .ok (.iload 4, 2) := by decide +kernel
theorem dX6_collects_5 : decode cX6_collects 5 = .ok (.bipush 12, 2) := by decide +kernel
theorem dX6_collects_7 : decode cX6_collects 7 = .ok (.iload_n 3, 1) := by decide +kernel
theorem dX6_collects_8 : decode cX6_collects 8 = .ok (.imul, 1) := by decide +kernel
theorem dX6_collects_9 : decode cX6_collects 9 = .ok (.if_icmp .ge 50, 3) := by decide +kernel
theorem dX6_collects_12 : decode cX6_collects 12 = .ok (.aload_n 0, 1) := by decide +kernel
theorem dX6_collects_13 : decode cX6_collects 13 = .ok (.iload_n 1, 1) := by decide +kernel
theorem dX6_collects_14 : decode cX6_collects 14 = .ok (.iload_n 2, 1) := by decide +kernel
theorem dX6_collects_15 : decode cX6_collects 15 = .ok (.invokevirtual 82, 3) := by decide +kernel
theorem dX6_collects_18 : decode cX6_collects 18 = .ok (.istore 5, 2) := by decide +kernel
theorem dX6_collects_20 : decode cX6_collects 20 = .ok (.aload_n 0, 1) := by decide +kernel
theorem dX6_collects_21 : decode cX6_collects 21 = .ok (.getfield 7, 3) := by decide +kernel
theorem dX6_collects_24 : decode cX6_collects 24 = .ok (.iload_n 1, 1) := by decide +kernel
theorem dX6_collects_25 : decode cX6_collects 25 = .ok (.bipush 13, 2) := by decide +kernel
theorem dX6_collects_27 : decode cX6_collects 27 = .ok (.iload 5, 2) := by decide +kernel
theorem dX6_collects_29 : decode cX6_collects 29 = .ok (.iadd, 1) := by decide +kernel
theorem dX6_collects_30 : decode cX6_collects 30 = .ok (.invokestatic 43, 3) := by decide +kernel
theorem dX6_collects_33 : decode cX6_collects 33 = .ok (.dup2, 1) := by decide +kernel
theorem dX6_collects_34 : decode cX6_collects 34 = .ok (.iaload, 1) := by decide +kernel
theorem dX6_collects_35 : decode cX6_collects 35 = .ok (.iconst 1, 1) := by decide +kernel
theorem dX6_collects_36 : decode cX6_collects 36 = .ok (.isub, 1) := by decide +kernel
theorem dX6_collects_37 : decode cX6_collects 37 = .ok (.iastore, 1) := by decide +kernel
theorem dX6_collects_38 : decode cX6_collects 38 = .ok (.aload_n 0, 1) := by decide +kernel
theorem dX6_collects_39 : decode cX6_collects 39 = .ok (.getfield 7, 3) := by decide +kernel
theorem dX6_collects_42 : decode cX6_collects 42 = .ok (.iload 5, 2) := by decide +kernel
theorem dX6_collects_44 : decode cX6_collects 44 = .ok (.iconst 4, 1) := by decide +kernel
theorem dX6_collects_45 : decode cX6_collects 45 = .ok (.invokestatic 39, 3) := by decide +kernel
theorem dX6_collects_48 : decode cX6_collects 48 = .ok (.dup2, 1) := by decide +kernel
theorem dX6_collects_49 : decode cX6_collects 49 = .ok (.iaload, 1) := by decide +kernel
theorem dX6_collects_50 : decode cX6_collects 50 = .ok (.iconst 1, 1) := by decide +kernel
theorem dX6_collects_51 : decode cX6_collects 51 = .ok (.iadd, 1) := by decide +kernel
theorem dX6_collects_52 : decode cX6_collects 52 = .ok (.iastore, 1) := by decide +kernel
theorem dX6_collects_53 : decode cX6_collects 53 = .ok (.iinc 4 1, 3) := by decide +kernel
theorem dX6_collects_56 : decode cX6_collects 56 = .ok (.goto (-53), 3) := by decide +kernel
theorem dX6_collects_59 : decode cX6_collects 59 = .ok (.aload_n 0, 1) := by decide +kernel
theorem dX6_collects_60 : decode cX6_collects 60 = .ok (.iload_n 2, 1) := by decide +kernel
theorem dX6_collects_61 : decode cX6_collects 61 = .ok (.iload_n 3, 1) := by decide +kernel
theorem dX6_collects_62 : decode cX6_collects 62 = .ok (.invokevirtual 67, 3) := by decide +kernel
theorem dX6_collects_65 : decode cX6_collects 65 = .ok (.istore 4, 2) := by decide +kernel
theorem dX6_collects_67 : decode cX6_collects 67 = .ok (.aload_n 0, 1) := by decide +kernel
theorem dX6_collects_68 : decode cX6_collects 68 = .ok (.getfield 7, 3) := by decide +kernel
theorem dX6_collects_71 : decode cX6_collects 71 = .ok (.iload_n 1, 1) := by decide +kernel
theorem dX6_collects_72 : decode cX6_collects 72 = .ok (.iconst 1, 1) := by decide +kernel
theorem dX6_collects_73 : decode cX6_collects 73 = .ok (.invokestatic 43, 3) := by decide +kernel
theorem dX6_collects_76 : decode cX6_collects 76 = .ok (.dup2, 1) := by decide +kernel
theorem dX6_collects_77 : decode cX6_collects 77 = .ok (.iaload, 1) := by decide +kernel
theorem dX6_collects_78 : decode cX6_collects 78 = .ok (.iload_n 3, 1) := by decide +kernel
theorem dX6_collects_79 : decode cX6_collects 79 = .ok (.isub, 1) := by decide +kernel
theorem dX6_collects_80 : decode cX6_collects 80 = .ok (.iastore, 1) := by decide +kernel
theorem dX6_collects_81 : decode cX6_collects 81 = .ok (.aload_n 0, 1) := by decide +kernel
theorem dX6_collects_82 : decode cX6_collects 82 = .ok (.getfield 7, 3) := by decide +kernel
theorem dX6_collects_85 : decode cX6_collects 85 = .ok (.iconst 2, 1) := by decide +kernel
theorem dX6_collects_86 : decode cX6_collects 86 = .ok (.dup2, 1) := by decide +kernel
theorem dX6_collects_87 : decode cX6_collects 87 = .ok (.iaload, 1) := by decide +kernel
theorem dX6_collects_88 : decode cX6_collects 88 = .ok (.iload_n 3, 1) := by decide +kernel
theorem dX6_collects_89 : decode cX6_collects 89 = .ok (.iadd, 1) := by decide +kernel
theorem dX6_collects_90 : decode cX6_collects 90 = .ok (.iastore, 1) := by decide +kernel
theorem dX6_collects_91 : decode cX6_collects 91 = .ok (.aload_n 0, 1) := by decide +kernel
theorem dX6_collects_92 : decode cX6_collects 92 = .ok (.getfield 7, 3) := by decide +kernel
theorem dX6_collects_95 : decode cX6_collects 95 = .ok (.iload_n 1, 1) := by decide +kernel
theorem dX6_collects_96 : decode cX6_collects 96 = .ok (.iconst 0, 1) := by decide +kernel
theorem dX6_collects_97 : decode cX6_collects 97 = .ok (.invokestatic 43, 3) := by decide +kernel
theorem dX6_collects_100 : decode cX6_collects 100 = .ok (.dup2, 1) := by decide +kernel
theorem dX6_collects_101 : decode cX6_collects 101 = .ok (.iaload, 1) := by decide +kernel
theorem dX6_collects_102 : decode cX6_collects 102 = .ok (.iload 4, 2) := by decide +kernel
theorem dX6_collects_104 : decode cX6_collects 104 = .ok (.iadd, 1) := by decide +kernel
theorem dX6_collects_105 : decode cX6_collects 105 = .ok (.iastore, 1) := by decide +kernel
theorem dX6_collects_106 : decode cX6_collects 106 = .ok (.aload_n 0, 1) := by decide +kernel
theorem dX6_collects_107 : decode cX6_collects 107 = .ok (.getfield 7, 3) := by decide +kernel
theorem dX6_collects_110 : decode cX6_collects 110 = .ok (.iload_n 1, 1) := by decide +kernel
theorem dX6_collects_111 : decode cX6_collects 111 = .ok (.iconst 2, 1) := by decide +kernel
theorem dX6_collects_112 : decode cX6_collects 112 = .ok (.invokestatic 43, 3) := by decide +kernel
theorem dX6_collects_115 : decode cX6_collects 115 = .ok (.dup2, 1) := by decide +kernel
theorem dX6_collects_116 : decode cX6_collects 116 = .ok (.iaload, 1) := by decide +kernel
theorem dX6_collects_117 : decode cX6_collects 117 = .ok (.iload 4, 2) := by decide +kernel
theorem dX6_collects_119 : decode cX6_collects 119 = .ok (.isub, 1) := by decide +kernel
theorem dX6_collects_120 : decode cX6_collects 120 = .ok (.iastore, 1) := by decide +kernel
theorem dX6_collects_121 : decode cX6_collects 121 = .ok (.aload_n 0, 1) := by decide +kernel
theorem dX6_collects_122 : decode cX6_collects 122 = .ok (.getfield 7, 3) := by decide +kernel
theorem dX6_collects_125 : decode cX6_collects 125 = .ok (.iconst 3, 1) := by decide +kernel
theorem dX6_collects_126 : decode cX6_collects 126 = .ok (.dup2, 1) := by decide +kernel
theorem dX6_collects_127 : decode cX6_collects 127 = .ok (.iaload, 1) := by decide +kernel
theorem dX6_collects_128 : decode cX6_collects 128 = .ok (.iload 4, 2) := by decide +kernel
theorem dX6_collects_130 : decode cX6_collects 130 = .ok (.isub, 1) := by decide +kernel
theorem dX6_collects_131 : decode cX6_collects 131 = .ok (.iastore, 1) := by decide +kernel
theorem dX6_collects_132 : decode cX6_collects 132 = .ok (.iload 4, 2) := by decide +kernel
theorem dX6_collects_134 : decode cX6_collects 134 = .ok (.ireturn, 1) := by decide +kernel
set_option maxRecDepth 20000 in
theorem ggX6_yardOf_X6_of : GoodIn wsX6_yardOf wsX6_of := goodIn_r _ [6, 1, 7, 8, 5, 9, 10, 11, 12, 13, 14, 15, 16, 17, 18, 19, 20, 21, 22, 23, 24, 25] (by decide +kernel) (by decide +kernel)
set_option maxRecDepth 20000 in
theorem gX6_yardOf_X6_of : GoodIn wsX6_yardOf (wsV RX6 46 RX6 yX6_of wsX6_of) := goodIn_app (goodIn_of _ (by decide +kernel)) ggX6_yardOf_X6_of
theorem dX6_yardOf_0 : decode cX6_yardOf 0 = .ok (.iconst 0, 1) := by decide +kernel
theorem dX6_yardOf_1 : decode cX6_yardOf 1 = .ok (.istore_n 2, 1) := by decide +kernel
theorem dX6_yardOf_2 : decode cX6_yardOf 2 = .ok (.iconst 0, 1) := by decide +kernel
theorem dX6_yardOf_3 : decode cX6_yardOf 3 = .ok (.istore_n 3, 1) := by decide +kernel
theorem dX6_yardOf_4 : decode cX6_yardOf 4 = .ok (.iload_n 3, 1) := by decide +kernel
theorem dX6_yardOf_5 : decode cX6_yardOf 5 = .ok (.aload_n 0, 1) := by decide +kernel
theorem dX6_yardOf_6 : decode cX6_yardOf 6 = .ok (.getfield 7, 3) := by decide +kernel
theorem dX6_yardOf_9 : decode cX6_yardOf 9 = .ok (.iconst 0, 1) := by decide +kernel
theorem dX6_yardOf_10 : decode cX6_yardOf 10 = .ok (.iaload, 1) := by decide +kernel
theorem dX6_yardOf_11 : decode cX6_yardOf 11 = .ok (.if_icmp .ge 32, 3) := by decide +kernel
theorem dX6_yardOf_14 : decode cX6_yardOf 14 = .ok (.iload_n 2, 1) := by decide +kernel
theorem dX6_yardOf_15 : decode cX6_yardOf 15 = .ok (.aload_n 0, 1) := by decide +kernel
theorem dX6_yardOf_16 : decode cX6_yardOf 16 = .ok (.iload_n 3, 1) := by decide +kernel
theorem dX6_yardOf_17 : decode cX6_yardOf 17 = .ok (.iconst 0, 1) := by decide +kernel
theorem dX6_yardOf_18 : decode cX6_yardOf 18 = .ok (.invokevirtual 46, 3) := by decide +kernel
theorem dX6_yardOf_21 : decode cX6_yardOf 21 = .ok (.iload_n 1, 1) := by decide +kernel
theorem dX6_yardOf_22 : decode cX6_yardOf 22 = .ok (.if_icmp .ne 12, 3) := by decide +kernel
theorem dX6_yardOf_25 : decode cX6_yardOf 25 = .ok (.aload_n 0, 1) := by decide +kernel
theorem dX6_yardOf_26 : decode cX6_yardOf 26 = .ok (.iload_n 3, 1) := by decide +kernel
theorem dX6_yardOf_27 : decode cX6_yardOf 27 = .ok (.iconst 4, 1) := by decide +kernel
theorem dX6_yardOf_28 : decode cX6_yardOf 28 = .ok (.invokevirtual 46, 3) := by decide +kernel
theorem dX6_yardOf_31 : decode cX6_yardOf 31 = .ok (.goto 4, 3) := by decide +kernel
theorem dX6_yardOf_34 : decode cX6_yardOf 34 = .ok (.iconst 0, 1) := by decide +kernel
theorem dX6_yardOf_35 : decode cX6_yardOf 35 = .ok (.iadd, 1) := by decide +kernel
theorem dX6_yardOf_36 : decode cX6_yardOf 36 = .ok (.istore_n 2, 1) := by decide +kernel
theorem dX6_yardOf_37 : decode cX6_yardOf 37 = .ok (.iinc 3 1, 3) := by decide +kernel
theorem dX6_yardOf_40 : decode cX6_yardOf 40 = .ok (.goto (-36), 3) := by decide +kernel
theorem dX6_yardOf_43 : decode cX6_yardOf 43 = .ok (.iload_n 2, 1) := by decide +kernel
theorem dX6_yardOf_44 : decode cX6_yardOf 44 = .ok (.ireturn, 1) := by decide +kernel
set_option maxRecDepth 20000 in
theorem ggX6_fill_X6_isBrand : GoodIn wsX6_fill wsX6_isBrand := goodIn_r _ [6, 7, 8, 9, 5, 10, 36, 37, 38, 39, 40, 41, 42, 43, 44, 45, 46, 47, 48, 49, 50, 51] (by decide +kernel) (by decide +kernel)
set_option maxRecDepth 20000 in
theorem gX6_fill_X6_isBrand : GoodIn wsX6_fill (wsV RX6 85 RX6 yX6_isBrand wsX6_isBrand) := goodIn_app (goodIn_of _ (by decide +kernel)) ggX6_fill_X6_isBrand
set_option maxRecDepth 20000 in
theorem ggX6_fill_X6_fails : GoodIn wsX6_fill wsX6_fails := goodIn_r _ [14, 1, 36, 37, 38, 39, 40, 41, 42, 43, 44, 45, 46, 47, 48, 49, 50, 51] (by decide +kernel) (by decide +kernel)
set_option maxRecDepth 20000 in
theorem gX6_fill_X6_fails : GoodIn wsX6_fill (wsV RX6 49 RX6 yX6_fails wsX6_fails) := goodIn_app (goodIn_of _ (by decide +kernel)) ggX6_fill_X6_fails
set_option maxRecDepth 20000 in
theorem ggX6_fill_X6_in : GoodIn wsX6_fill wsX6_in := goodIn_r _ [10] (by decide +kernel) (by decide +kernel)
set_option maxRecDepth 20000 in
theorem gX6_fill_X6_in : GoodIn wsX6_fill (va_wsS RX6 35 yX6_in wsX6_in) := goodIn_app (goodIn_of _ (by decide +kernel)) ggX6_fill_X6_in
set_option maxRecDepth 20000 in
theorem ggX6_fill_X6_of : GoodIn wsX6_fill wsX6_of := goodIn_r _ [18, 7, 19, 20, 5, 21, 36, 37, 38, 39, 40, 41, 42, 43, 44, 45, 46, 47, 48, 49, 50, 51] (by decide +kernel) (by decide +kernel)
set_option maxRecDepth 20000 in
theorem gX6_fill_X6_of : GoodIn wsX6_fill (wsV RX6 46 RX6 yX6_of wsX6_of) := goodIn_app (goodIn_of _ (by decide +kernel)) ggX6_fill_X6_of
set_option maxRecDepth 20000 in
theorem ggX6_fill_X6_save : GoodIn wsX6_fill wsX6_save := goodIn_r _ [25, 26, 27, 7, 36, 37, 38, 39, 40, 41, 42, 43, 44, 45, 46, 47, 48, 49, 50, 51] (by decide +kernel) (by decide +kernel)
set_option maxRecDepth 20000 in
theorem gX6_fill_X6_save : GoodIn wsX6_fill (wsV RX6 53 RX6 yX6_save wsX6_save) := goodIn_app (goodIn_of _ (by decide +kernel)) ggX6_fill_X6_save
set_option maxRecDepth 20000 in
theorem ggX6_fill_X6_fills : GoodIn wsX6_fill wsX6_fills := goodIn_r _ [31, 7, 32, 33, 34, 5, 35, 15, 16, 17, 18, 19, 20, 21, 36, 37, 38, 39, 40, 41, 42, 43, 44, 45, 46, 47, 48, 49, 50, 51] (by decide +kernel) (by decide +kernel)
set_option maxRecDepth 20000 in
theorem gX6_fill_X6_fills : GoodIn wsX6_fill (wsV RX6 89 RX6 yX6_fills wsX6_fills) := goodIn_app (goodIn_of _ (by decide +kernel)) ggX6_fill_X6_fills
theorem dX6_fill_0 : decode cX6_fill 0 = .ok (.aload_n 0, 1) := by decide +kernel
theorem dX6_fill_1 : decode cX6_fill 1 = .ok (.iconst 0, 1) := by decide +kernel
theorem dX6_fill_2 : decode cX6_fill 2 = .ok (.putfield 28, 3) := by decide +kernel
theorem dX6_fill_5 : decode cX6_fill 5 = .ok (.aload_n 0, 1) := by decide +kernel
theorem dX6_fill_6 : decode cX6_fill 6 = .ok (.iload_n 1, 1) := by decide +kernel
theorem dX6_fill_7 : decode cX6_fill 7 = .ok (.invokevirtual 85, 3) := by decide +kernel
theorem dX6_fill_10 : decode cX6_fill 10 = .ok (.ifCond .ne 9, 3) := by decide +kernel
theorem dX6_fill_13 : decode cX6_fill 13 = .ok (.aload_n 0, 1) := by decide +kernel
theorem dX6_fill_14 : decode cX6_fill 14 = .ok (.iconst 1, 1) := by decide +kernel
theorem dX6_fill_15 : decode cX6_fill 15 = .ok (.invokevirtual 49, 3) := by decide +kernel
theorem dX6_fill_18 : decode cX6_fill 18 = .ok (.ireturn, 1) := by decide +kernel
theorem dX6_fill_19 : decode cX6_fill 19 = .ok (.iload_n 2, 1) := by decide +kernel
theorem dX6_fill_20 : decode cX6_fill 20 = .ok (.iconst 1, 1) := by decide +kernel
theorem dX6_fill_21 : decode cX6_fill 21 = .ok (.sipush 5000, 3) := by decide +kernel
theorem dX6_fill_24 : decode cX6_fill 24 = .ok (.invokestatic 35, 3) := by decide +kernel
theorem dX6_fill_27 : decode cX6_fill 27 = .ok (.ifCond .ne 9, 3) := by decide +kernel
theorem dX6_fill_30 : decode cX6_fill 30 = .ok (.aload_n 0, 1) := by decide +kernel
theorem dX6_fill_31 : decode cX6_fill 31 = .ok (.iconst 2, 1) := by decide +kernel
theorem dX6_fill_32 : decode cX6_fill 32 = .ok (.invokevirtual 49, 3) := by decide +kernel
theorem dX6_fill_35 : decode cX6_fill 35 = .ok (.ireturn, 1) := by decide +kernel
theorem dX6_fill_36 : decode cX6_fill 36 = .ok (.aload_n 0, 1) := by decide +kernel
theorem dX6_fill_37 : decode cX6_fill 37 = .ok (.iload_n 1, 1) := by decide +kernel
theorem dX6_fill_38 : decode cX6_fill 38 = .ok (.iconst 1, 1) := by decide +kernel
theorem dX6_fill_39 : decode cX6_fill 39 = .ok (.invokevirtual 46, 3) := by decide +kernel
theorem dX6_fill_42 : decode cX6_fill 42 = .ok (.iload_n 2, 1) := by decide +kernel
theorem dX6_fill_43 : decode cX6_fill 43 = .ok (.if_icmp .ge 9, 3) := by decide +kernel
theorem dX6_fill_46 : decode cX6_fill 46 = .ok (.aload_n 0, 1) := by decide +kernel
theorem dX6_fill_47 : decode cX6_fill 47 = .ok (.iconst 3, 1) := by decide +kernel
theorem dX6_fill_48 : decode cX6_fill 48 = .ok (.invokevirtual 49, 3) := by decide +kernel
theorem dX6_fill_51 : decode cX6_fill 51 = .ok (.ireturn, 1) := by decide +kernel
theorem dX6_fill_52 : decode cX6_fill 52 = .ok (.aload_n 0, 1) := by decide +kernel
theorem dX6_fill_53 : decode cX6_fill 53 = .ok (.invokevirtual 53, 3) := by decide +kernel
theorem dX6_fill_56 : decode cX6_fill 56 = .ok (.aload_n 0, 1) := by decide +kernel
theorem dX6_fill_57 : decode cX6_fill 57 = .ok (.iload_n 1, 1) := by decide +kernel
theorem dX6_fill_58 : decode cX6_fill 58 = .ok (.iload_n 2, 1) := by decide +kernel
theorem dX6_fill_59 : decode cX6_fill 59 = .ok (.invokevirtual 89, 3) := by decide +kernel
theorem dX6_fill_62 : decode cX6_fill 62 = .ok (.ireturn, 1) := by decide +kernel
set_option maxRecDepth 20000 in
theorem ggX6_deliver_X6_isBrand : GoodIn wsX6_deliver wsX6_isBrand := goodIn_r _ [6, 7, 8, 9, 5, 10, 55, 56, 57, 58, 59, 60, 61, 62, 63, 64, 65, 66, 67, 68, 69, 70] (by decide +kernel) (by decide +kernel)
set_option maxRecDepth 20000 in
theorem gX6_deliver_X6_isBrand : GoodIn wsX6_deliver (wsV RX6 85 RX6 yX6_isBrand wsX6_isBrand) := goodIn_app (goodIn_of _ (by decide +kernel)) ggX6_deliver_X6_isBrand
set_option maxRecDepth 20000 in
theorem ggX6_deliver_X6_isShop : GoodIn wsX6_deliver wsX6_isShop := goodIn_r _ [14, 7, 8, 9, 5, 10, 55, 56, 57, 58, 59, 60, 61, 62, 63, 64, 65, 66, 67, 68, 69, 70] (by decide +kernel) (by decide +kernel)
set_option maxRecDepth 20000 in
theorem gX6_deliver_X6_isShop : GoodIn wsX6_deliver (wsV RX6 92 RX6 yX6_isShop wsX6_isShop) := goodIn_app (goodIn_of _ (by decide +kernel)) ggX6_deliver_X6_isShop
set_option maxRecDepth 20000 in
theorem ggX6_deliver_X6_fails : GoodIn wsX6_deliver wsX6_fails := goodIn_r _ [18, 1, 55, 56, 57, 58, 59, 60, 61, 62, 63, 64, 65, 66, 67, 68, 69, 70] (by decide +kernel) (by decide +kernel)
set_option maxRecDepth 20000 in
theorem gX6_deliver_X6_fails : GoodIn wsX6_deliver (wsV RX6 49 RX6 yX6_fails wsX6_fails) := goodIn_app (goodIn_of _ (by decide +kernel)) ggX6_deliver_X6_fails
set_option maxRecDepth 20000 in
theorem ggX6_deliver_X6_in : GoodIn wsX6_deliver wsX6_in := goodIn_r _ [10] (by decide +kernel) (by decide +kernel)
set_option maxRecDepth 20000 in
theorem gX6_deliver_X6_in : GoodIn wsX6_deliver (va_wsS RX6 35 yX6_in wsX6_in) := goodIn_app (goodIn_of _ (by decide +kernel)) ggX6_deliver_X6_in
set_option maxRecDepth 20000 in
theorem ggX6_deliver_X6_againstDeliver : GoodIn wsX6_deliver wsX6_againstDeliver := goodIn_r _ [22, 7, 23, 24, 25, 5, 26, 27, 28, 29, 30, 31, 32, 33, 34, 35, 36, 37, 38, 39, 40, 41, 42, 43, 44, 55, 56, 57, 58, 59, 60, 61, 62, 63, 64, 65, 66, 67, 68, 69, 70] (by decide +kernel) (by decide +kernel)
set_option maxRecDepth 20000 in
theorem gX6_deliver_X6_againstDeliver : GoodIn wsX6_deliver (wsV RX6 95 RX6 yX6_againstDeliver wsX6_againstDeliver) := goodIn_app (goodIn_of _ (by decide +kernel)) ggX6_deliver_X6_againstDeliver
set_option maxRecDepth 20000 in
theorem ggX6_deliver_X6_save : GoodIn wsX6_deliver wsX6_save := goodIn_r _ [48, 49, 50, 7, 55, 56, 57, 58, 59, 60, 61, 62, 63, 64, 65, 66, 67, 68, 69, 70] (by decide +kernel) (by decide +kernel)
set_option maxRecDepth 20000 in
theorem gX6_deliver_X6_save : GoodIn wsX6_deliver (wsV RX6 53 RX6 yX6_save wsX6_save) := goodIn_app (goodIn_of _ (by decide +kernel)) ggX6_deliver_X6_save
set_option maxRecDepth 20000 in
theorem ggX6_deliver_X6_delivers : GoodIn wsX6_deliver wsX6_delivers := goodIn_r _ [54, 7, 23, 24, 25, 5, 26, 27, 28, 29, 41, 42, 43, 44, 34, 35, 36, 55, 56, 57, 58, 59, 60, 61, 62, 63, 64, 65, 66, 67, 68, 69, 70] (by decide +kernel) (by decide +kernel)
set_option maxRecDepth 20000 in
theorem gX6_deliver_X6_delivers : GoodIn wsX6_deliver (wsV RX6 99 RX6 yX6_delivers wsX6_delivers) := goodIn_app (goodIn_of _ (by decide +kernel)) ggX6_deliver_X6_delivers
theorem dX6_deliver_0 : decode cX6_deliver 0 = .ok (.aload_n 0, 1) := by decide +kernel
theorem dX6_deliver_1 : decode cX6_deliver 1 = .ok (.iconst 0, 1) := by decide +kernel
theorem dX6_deliver_2 : decode cX6_deliver 2 = .ok (.putfield 28, 3) := by decide +kernel
theorem dX6_deliver_5 : decode cX6_deliver 5 = .ok (.aload_n 0, 1) := by decide +kernel
theorem dX6_deliver_6 : decode cX6_deliver 6 = .ok (.iload_n 1, 1) := by decide +kernel
theorem dX6_deliver_7 : decode cX6_deliver 7 = .ok (.invokevirtual 85, 3) := by decide +kernel
theorem dX6_deliver_10 : decode cX6_deliver 10 = .ok (.ifCond .eq 11, 3) := by decide +kernel
theorem dX6_deliver_13 : decode cX6_deliver 13 = .ok (.aload_n 0, 1) := by decide +kernel
theorem dX6_deliver_14 : decode cX6_deliver 14 = .ok (.iload_n 2, 1) := by decide +kernel
theorem dX6_deliver_15 : decode cX6_deliver 15 = .ok (.invokevirtual 92, 3) := by decide +kernel
theorem dX6_deliver_18 : decode cX6_deliver 18 = .ok (.ifCond .ne 9, 3) := by decide +kernel
theorem dX6_deliver_21 : decode cX6_deliver 21 = .ok (.aload_n 0, 1) := by decide +kernel
theorem dX6_deliver_22 : decode cX6_deliver 22 = .ok (.iconst 1, 1) := by decide +kernel
theorem dX6_deliver_23 : decode cX6_deliver 23 = .ok (.invokevirtual 49, 3) := by decide +kernel
theorem dX6_deliver_26 : decode cX6_deliver 26 = .ok (.ireturn, 1) := by decide +kernel
theorem dX6_deliver_27 : decode cX6_deliver 27 = .ok (.iload_n 3, 1) := by decide +kernel
theorem dX6_deliver_28 : decode cX6_deliver 28 = .ok (.iconst 1, 1) := by decide +kernel
theorem dX6_deliver_29 : decode cX6_deliver 29 = .ok (.bipush 50, 2) := by decide +kernel
theorem dX6_deliver_31 : decode cX6_deliver 31 = .ok (.invokestatic 35, 3) := by decide +kernel
theorem dX6_deliver_34 : decode cX6_deliver 34 = .ok (.ifCond .ne 9, 3) := by decide +kernel
theorem dX6_deliver_37 : decode cX6_deliver 37 = .ok (.aload_n 0, 1) := by decide +kernel
theorem dX6_deliver_38 : decode cX6_deliver 38 = .ok (.iconst 2, 1) := by decide +kernel
theorem dX6_deliver_39 : decode cX6_deliver 39 = .ok (.invokevirtual 49, 3) := by decide +kernel
theorem dX6_deliver_42 : decode cX6_deliver 42 = .ok (.ireturn, 1) := by decide +kernel
theorem dX6_deliver_43 : decode cX6_deliver 43 = .ok (.aload_n 0, 1) := by decide +kernel
theorem dX6_deliver_44 : decode cX6_deliver 44 = .ok (.iload_n 1, 1) := by decide +kernel
theorem dX6_deliver_45 : decode cX6_deliver 45 = .ok (.iload_n 2, 1) := by decide +kernel
theorem dX6_deliver_46 : decode cX6_deliver 46 = .ok (.iload_n 3, 1) := by decide +kernel
theorem dX6_deliver_47 : decode cX6_deliver 47 = .ok (.invokevirtual 95, 3) := by decide +kernel
theorem dX6_deliver_50 : decode cX6_deliver 50 = .ok (.ifCond .le 9, 3) := by decide +kernel
theorem dX6_deliver_53 : decode cX6_deliver 53 = .ok (.aload_n 0, 1) := by decide +kernel
theorem dX6_deliver_54 : decode cX6_deliver 54 = .ok (.iconst 3, 1) := by decide +kernel
theorem dX6_deliver_55 : decode cX6_deliver 55 = .ok (.invokevirtual 49, 3) := by decide +kernel
theorem dX6_deliver_58 : decode cX6_deliver 58 = .ok (.ireturn, 1) := by decide +kernel
theorem dX6_deliver_59 : decode cX6_deliver 59 = .ok (.aload_n 0, 1) := by decide +kernel
theorem dX6_deliver_60 : decode cX6_deliver 60 = .ok (.invokevirtual 53, 3) := by decide +kernel
theorem dX6_deliver_63 : decode cX6_deliver 63 = .ok (.aload_n 0, 1) := by decide +kernel
theorem dX6_deliver_64 : decode cX6_deliver 64 = .ok (.iload_n 1, 1) := by decide +kernel
theorem dX6_deliver_65 : decode cX6_deliver 65 = .ok (.iload_n 2, 1) := by decide +kernel
theorem dX6_deliver_66 : decode cX6_deliver 66 = .ok (.iload_n 3, 1) := by decide +kernel
theorem dX6_deliver_67 : decode cX6_deliver 67 = .ok (.invokevirtual 99, 3) := by decide +kernel
theorem dX6_deliver_70 : decode cX6_deliver 70 = .ok (.ireturn, 1) := by decide +kernel
set_option maxRecDepth 20000 in
theorem ggX6_sell_X6_isShop : GoodIn wsX6_sell wsX6_isShop := goodIn_r _ [6, 7, 8, 9, 5, 10, 51, 52, 53, 54, 55, 56, 57, 58, 59, 60, 61, 62, 63, 64, 65, 66] (by decide +kernel) (by decide +kernel)
set_option maxRecDepth 20000 in
theorem gX6_sell_X6_isShop : GoodIn wsX6_sell (wsV RX6 92 RX6 yX6_isShop wsX6_isShop) := goodIn_app (goodIn_of _ (by decide +kernel)) ggX6_sell_X6_isShop
set_option maxRecDepth 20000 in
theorem ggX6_sell_X6_isBrand : GoodIn wsX6_sell wsX6_isBrand := goodIn_r _ [14, 7, 8, 9, 5, 10, 51, 52, 53, 54, 55, 56, 57, 58, 59, 60, 61, 62, 63, 64, 65, 66] (by decide +kernel) (by decide +kernel)
set_option maxRecDepth 20000 in
theorem gX6_sell_X6_isBrand : GoodIn wsX6_sell (wsV RX6 85 RX6 yX6_isBrand wsX6_isBrand) := goodIn_app (goodIn_of _ (by decide +kernel)) ggX6_sell_X6_isBrand
set_option maxRecDepth 20000 in
theorem ggX6_sell_X6_fails : GoodIn wsX6_sell wsX6_fails := goodIn_r _ [18, 1, 51, 52, 53, 54, 55, 56, 57, 58, 59, 60, 61, 62, 63, 64, 65, 66] (by decide +kernel) (by decide +kernel)
set_option maxRecDepth 20000 in
theorem gX6_sell_X6_fails : GoodIn wsX6_sell (wsV RX6 49 RX6 yX6_fails wsX6_fails) := goodIn_app (goodIn_of _ (by decide +kernel)) ggX6_sell_X6_fails
set_option maxRecDepth 20000 in
theorem ggX6_sell_X6_in : GoodIn wsX6_sell wsX6_in := goodIn_r _ [10] (by decide +kernel) (by decide +kernel)
set_option maxRecDepth 20000 in
theorem gX6_sell_X6_in : GoodIn wsX6_sell (va_wsS RX6 35 yX6_in wsX6_in) := goodIn_app (goodIn_of _ (by decide +kernel)) ggX6_sell_X6_in
set_option maxRecDepth 20000 in
theorem ggX6_sell_X6_againstSell : GoodIn wsX6_sell wsX6_againstSell := goodIn_r _ [22, 23, 24, 25, 5, 26, 7, 27, 28, 29, 51, 52, 53, 54, 55, 56, 57, 58, 59, 60, 61, 62, 63, 64, 65, 66] (by decide +kernel) (by decide +kernel)
set_option maxRecDepth 20000 in
theorem gX6_sell_X6_againstSell : GoodIn wsX6_sell (wsV RX6 102 RX6 yX6_againstSell wsX6_againstSell) := goodIn_app (goodIn_of _ (by decide +kernel)) ggX6_sell_X6_againstSell
set_option maxRecDepth 20000 in
theorem ggX6_sell_X6_save : GoodIn wsX6_sell wsX6_save := goodIn_r _ [33, 34, 35, 7, 51, 52, 53, 54, 55, 56, 57, 58, 59, 60, 61, 62, 63, 64, 65, 66] (by decide +kernel) (by decide +kernel)
set_option maxRecDepth 20000 in
theorem gX6_sell_X6_save : GoodIn wsX6_sell (wsV RX6 53 RX6 yX6_save wsX6_save) := goodIn_app (goodIn_of _ (by decide +kernel)) ggX6_sell_X6_save
set_option maxRecDepth 20000 in
theorem ggX6_sell_X6_sells : GoodIn wsX6_sell wsX6_sells := goodIn_r _ [39, 7, 27, 28, 5, 29, 40, 41, 42, 43, 44, 45, 46, 47, 48, 49, 50, 23, 24, 25, 26, 51, 52, 53, 54, 55, 56, 57, 58, 59, 60, 61, 62, 63, 64, 65, 66] (by decide +kernel) (by decide +kernel)
set_option maxRecDepth 20000 in
theorem gX6_sell_X6_sells : GoodIn wsX6_sell (wsV RX6 105 RX6 yX6_sells wsX6_sells) := goodIn_app (goodIn_of _ (by decide +kernel)) ggX6_sell_X6_sells
theorem dX6_sell_0 : decode cX6_sell 0 = .ok (.aload_n 0, 1) := by decide +kernel
theorem dX6_sell_1 : decode cX6_sell 1 = .ok (.iconst 0, 1) := by decide +kernel
theorem dX6_sell_2 : decode cX6_sell 2 = .ok (.putfield 28, 3) := by decide +kernel
theorem dX6_sell_5 : decode cX6_sell 5 = .ok (.aload_n 0, 1) := by decide +kernel
theorem dX6_sell_6 : decode cX6_sell 6 = .ok (.iload_n 1, 1) := by decide +kernel
theorem dX6_sell_7 : decode cX6_sell 7 = .ok (.invokevirtual 92, 3) := by decide +kernel
theorem dX6_sell_10 : decode cX6_sell 10 = .ok (.ifCond .eq 11, 3) := by decide +kernel
theorem dX6_sell_13 : decode cX6_sell 13 = .ok (.aload_n 0, 1) := by decide +kernel
theorem dX6_sell_14 : decode cX6_sell 14 = .ok (.iload_n 2, 1) := by decide +kernel
theorem dX6_sell_15 : decode cX6_sell 15 = .ok (.invokevirtual 85, 3) := by decide +kernel
theorem dX6_sell_18 : decode cX6_sell 18 = .ok (.ifCond .ne 9, 3) := by decide +kernel
theorem dX6_sell_21 : decode cX6_sell 21 = .ok (.aload_n 0, 1) := by decide +kernel
theorem dX6_sell_22 : decode cX6_sell 22 = .ok (.iconst 1, 1) := by decide +kernel
theorem dX6_sell_23 : decode cX6_sell 23 = .ok (.invokevirtual 49, 3) := by decide +kernel
theorem dX6_sell_26 : decode cX6_sell 26 = .ok (.ireturn, 1) := by decide +kernel
theorem dX6_sell_27 : decode cX6_sell 27 = .ok (.iload_n 3, 1) := by decide +kernel
theorem dX6_sell_28 : decode cX6_sell 28 = .ok (.iconst 1, 1) := by decide +kernel
theorem dX6_sell_29 : decode cX6_sell 29 = .ok (.sipush 500, 3) := by decide +kernel
theorem dX6_sell_32 : decode cX6_sell 32 = .ok (.invokestatic 35, 3) := by decide +kernel
theorem dX6_sell_35 : decode cX6_sell 35 = .ok (.ifCond .ne 9, 3) := by decide +kernel
theorem dX6_sell_38 : decode cX6_sell 38 = .ok (.aload_n 0, 1) := by decide +kernel
theorem dX6_sell_39 : decode cX6_sell 39 = .ok (.iconst 2, 1) := by decide +kernel
theorem dX6_sell_40 : decode cX6_sell 40 = .ok (.invokevirtual 49, 3) := by decide +kernel
theorem dX6_sell_43 : decode cX6_sell 43 = .ok (.ireturn, 1) := by decide +kernel
theorem dX6_sell_44 : decode cX6_sell 44 = .ok (.aload_n 0, 1) := by decide +kernel
theorem dX6_sell_45 : decode cX6_sell 45 = .ok (.iload_n 1, 1) := by decide +kernel
theorem dX6_sell_46 : decode cX6_sell 46 = .ok (.iload_n 2, 1) := by decide +kernel
theorem dX6_sell_47 : decode cX6_sell 47 = .ok (.iload_n 3, 1) := by decide +kernel
theorem dX6_sell_48 : decode cX6_sell 48 = .ok (.invokevirtual 102, 3) := by decide +kernel
theorem dX6_sell_51 : decode cX6_sell 51 = .ok (.ifCond .le 9, 3) := by decide +kernel
theorem dX6_sell_54 : decode cX6_sell 54 = .ok (.aload_n 0, 1) := by decide +kernel
theorem dX6_sell_55 : decode cX6_sell 55 = .ok (.iconst 3, 1) := by decide +kernel
theorem dX6_sell_56 : decode cX6_sell 56 = .ok (.invokevirtual 49, 3) := by decide +kernel
theorem dX6_sell_59 : decode cX6_sell 59 = .ok (.ireturn, 1) := by decide +kernel
theorem dX6_sell_60 : decode cX6_sell 60 = .ok (.aload_n 0, 1) := by decide +kernel
theorem dX6_sell_61 : decode cX6_sell 61 = .ok (.invokevirtual 53, 3) := by decide +kernel
theorem dX6_sell_64 : decode cX6_sell 64 = .ok (.aload_n 0, 1) := by decide +kernel
theorem dX6_sell_65 : decode cX6_sell 65 = .ok (.iload_n 1, 1) := by decide +kernel
theorem dX6_sell_66 : decode cX6_sell 66 = .ok (.iload_n 2, 1) := by decide +kernel
theorem dX6_sell_67 : decode cX6_sell 67 = .ok (.iload_n 3, 1) := by decide +kernel
theorem dX6_sell_68 : decode cX6_sell 68 = .ok (.invokevirtual 105, 3) := by decide +kernel
theorem dX6_sell_71 : decode cX6_sell 71 = .ok (.ireturn, 1) := by decide +kernel
set_option maxRecDepth 20000 in
theorem ggX6_takeBack_X6_isShop : GoodIn wsX6_takeBack wsX6_isShop := goodIn_r _ [6, 7, 8, 9, 5, 10, 51, 52, 53, 54, 55, 56, 57, 58, 59, 60, 61, 62, 63, 64, 65, 66] (by decide +kernel) (by decide +kernel)
set_option maxRecDepth 20000 in
theorem gX6_takeBack_X6_isShop : GoodIn wsX6_takeBack (wsV RX6 92 RX6 yX6_isShop wsX6_isShop) := goodIn_app (goodIn_of _ (by decide +kernel)) ggX6_takeBack_X6_isShop
set_option maxRecDepth 20000 in
theorem ggX6_takeBack_X6_isBrand : GoodIn wsX6_takeBack wsX6_isBrand := goodIn_r _ [14, 7, 8, 9, 5, 10, 51, 52, 53, 54, 55, 56, 57, 58, 59, 60, 61, 62, 63, 64, 65, 66] (by decide +kernel) (by decide +kernel)
set_option maxRecDepth 20000 in
theorem gX6_takeBack_X6_isBrand : GoodIn wsX6_takeBack (wsV RX6 85 RX6 yX6_isBrand wsX6_isBrand) := goodIn_app (goodIn_of _ (by decide +kernel)) ggX6_takeBack_X6_isBrand
set_option maxRecDepth 20000 in
theorem ggX6_takeBack_X6_fails : GoodIn wsX6_takeBack wsX6_fails := goodIn_r _ [18, 1, 51, 52, 53, 54, 55, 56, 57, 58, 59, 60, 61, 62, 63, 64, 65, 66] (by decide +kernel) (by decide +kernel)
set_option maxRecDepth 20000 in
theorem gX6_takeBack_X6_fails : GoodIn wsX6_takeBack (wsV RX6 49 RX6 yX6_fails wsX6_fails) := goodIn_app (goodIn_of _ (by decide +kernel)) ggX6_takeBack_X6_fails
set_option maxRecDepth 20000 in
theorem ggX6_takeBack_X6_in : GoodIn wsX6_takeBack wsX6_in := goodIn_r _ [10] (by decide +kernel) (by decide +kernel)
set_option maxRecDepth 20000 in
theorem gX6_takeBack_X6_in : GoodIn wsX6_takeBack (va_wsS RX6 35 yX6_in wsX6_in) := goodIn_app (goodIn_of _ (by decide +kernel)) ggX6_takeBack_X6_in
set_option maxRecDepth 20000 in
theorem ggX6_takeBack_X6_againstTakeBack : GoodIn wsX6_takeBack wsX6_againstTakeBack := goodIn_r _ [22, 23, 24, 25, 5, 26, 7, 27, 28, 29, 30, 31, 32, 33, 34, 35, 36, 37, 38, 39, 40, 51, 52, 53, 54, 55, 56, 57, 58, 59, 60, 61, 62, 63, 64, 65, 66] (by decide +kernel) (by decide +kernel)
set_option maxRecDepth 20000 in
theorem gX6_takeBack_X6_againstTakeBack : GoodIn wsX6_takeBack (wsV RX6 108 RX6 yX6_againstTakeBack wsX6_againstTakeBack) := goodIn_app (goodIn_of _ (by decide +kernel)) ggX6_takeBack_X6_againstTakeBack
set_option maxRecDepth 20000 in
theorem ggX6_takeBack_X6_save : GoodIn wsX6_takeBack wsX6_save := goodIn_r _ [44, 45, 46, 7, 51, 52, 53, 54, 55, 56, 57, 58, 59, 60, 61, 62, 63, 64, 65, 66] (by decide +kernel) (by decide +kernel)
set_option maxRecDepth 20000 in
theorem gX6_takeBack_X6_save : GoodIn wsX6_takeBack (wsV RX6 53 RX6 yX6_save wsX6_save) := goodIn_app (goodIn_of _ (by decide +kernel)) ggX6_takeBack_X6_save
set_option maxRecDepth 20000 in
theorem ggX6_takeBack_X6_takesBack : GoodIn wsX6_takeBack wsX6_takesBack := goodIn_r _ [50, 7, 27, 28, 5, 29, 34, 35, 36, 37, 38, 39, 40, 23, 24, 25, 26, 30, 31, 32, 33, 51, 52, 53, 54, 55, 56, 57, 58, 59, 60, 61, 62, 63, 64, 65, 66] (by decide +kernel) (by decide +kernel)
set_option maxRecDepth 20000 in
theorem gX6_takeBack_X6_takesBack : GoodIn wsX6_takeBack (wsV RX6 111 RX6 yX6_takesBack wsX6_takesBack) := goodIn_app (goodIn_of _ (by decide +kernel)) ggX6_takeBack_X6_takesBack
theorem dX6_takeBack_0 : decode cX6_takeBack 0 = .ok (.aload_n 0, 1) := by decide +kernel
theorem dX6_takeBack_1 : decode cX6_takeBack 1 = .ok (.iconst 0, 1) := by decide +kernel
theorem dX6_takeBack_2 : decode cX6_takeBack 2 = .ok (.putfield 28, 3) := by decide +kernel
theorem dX6_takeBack_5 : decode cX6_takeBack 5 = .ok (.aload_n 0, 1) := by decide +kernel
theorem dX6_takeBack_6 : decode cX6_takeBack 6 = .ok (.iload_n 1, 1) := by decide +kernel
theorem dX6_takeBack_7 : decode cX6_takeBack 7 = .ok (.invokevirtual 92, 3) := by decide +kernel
theorem dX6_takeBack_10 : decode cX6_takeBack 10 = .ok (.ifCond .eq 11, 3) := by decide +kernel
theorem dX6_takeBack_13 : decode cX6_takeBack 13 = .ok (.aload_n 0, 1) := by decide +kernel
theorem dX6_takeBack_14 : decode cX6_takeBack 14 = .ok (.iload_n 2, 1) := by decide +kernel
theorem dX6_takeBack_15 : decode cX6_takeBack 15 = .ok (.invokevirtual 85, 3) := by decide +kernel
theorem dX6_takeBack_18 : decode cX6_takeBack 18 = .ok (.ifCond .ne 9, 3) := by decide +kernel
theorem dX6_takeBack_21 : decode cX6_takeBack 21 = .ok (.aload_n 0, 1) := by decide +kernel
theorem dX6_takeBack_22 : decode cX6_takeBack 22 = .ok (.iconst 1, 1) := by decide +kernel
theorem dX6_takeBack_23 : decode cX6_takeBack 23 = .ok (.invokevirtual 49, 3) := by decide +kernel
theorem dX6_takeBack_26 : decode cX6_takeBack 26 = .ok (.ireturn, 1) := by decide +kernel
theorem dX6_takeBack_27 : decode cX6_takeBack 27 = .ok (.iload_n 3, 1) := by decide +kernel
theorem dX6_takeBack_28 : decode cX6_takeBack 28 = .ok (.iconst 1, 1) := by decide +kernel
theorem dX6_takeBack_29 : decode cX6_takeBack 29 = .ok (.sipush 500, 3) := by decide +kernel
theorem dX6_takeBack_32 : decode cX6_takeBack 32 = .ok (.invokestatic 35, 3) := by decide +kernel
theorem dX6_takeBack_35 : decode cX6_takeBack 35 = .ok (.ifCond .ne 9, 3) := by decide +kernel
theorem dX6_takeBack_38 : decode cX6_takeBack 38 = .ok (.aload_n 0, 1) := by decide +kernel
theorem dX6_takeBack_39 : decode cX6_takeBack 39 = .ok (.iconst 2, 1) := by decide +kernel
theorem dX6_takeBack_40 : decode cX6_takeBack 40 = .ok (.invokevirtual 49, 3) := by decide +kernel
theorem dX6_takeBack_43 : decode cX6_takeBack 43 = .ok (.ireturn, 1) := by decide +kernel
theorem dX6_takeBack_44 : decode cX6_takeBack 44 = .ok (.aload_n 0, 1) := by decide +kernel
theorem dX6_takeBack_45 : decode cX6_takeBack 45 = .ok (.iload_n 1, 1) := by decide +kernel
theorem dX6_takeBack_46 : decode cX6_takeBack 46 = .ok (.iload_n 2, 1) := by decide +kernel
theorem dX6_takeBack_47 : decode cX6_takeBack 47 = .ok (.iload_n 3, 1) := by decide +kernel
theorem dX6_takeBack_48 : decode cX6_takeBack 48 = .ok (.invokevirtual 108, 3) := by decide +kernel
theorem dX6_takeBack_51 : decode cX6_takeBack 51 = .ok (.ifCond .le 9, 3) := by decide +kernel
theorem dX6_takeBack_54 : decode cX6_takeBack 54 = .ok (.aload_n 0, 1) := by decide +kernel
theorem dX6_takeBack_55 : decode cX6_takeBack 55 = .ok (.iconst 3, 1) := by decide +kernel
theorem dX6_takeBack_56 : decode cX6_takeBack 56 = .ok (.invokevirtual 49, 3) := by decide +kernel
theorem dX6_takeBack_59 : decode cX6_takeBack 59 = .ok (.ireturn, 1) := by decide +kernel
theorem dX6_takeBack_60 : decode cX6_takeBack 60 = .ok (.aload_n 0, 1) := by decide +kernel
theorem dX6_takeBack_61 : decode cX6_takeBack 61 = .ok (.invokevirtual 53, 3) := by decide +kernel
theorem dX6_takeBack_64 : decode cX6_takeBack 64 = .ok (.aload_n 0, 1) := by decide +kernel
theorem dX6_takeBack_65 : decode cX6_takeBack 65 = .ok (.iload_n 1, 1) := by decide +kernel
theorem dX6_takeBack_66 : decode cX6_takeBack 66 = .ok (.iload_n 2, 1) := by decide +kernel
theorem dX6_takeBack_67 : decode cX6_takeBack 67 = .ok (.iload_n 3, 1) := by decide +kernel
theorem dX6_takeBack_68 : decode cX6_takeBack 68 = .ok (.invokevirtual 111, 3) := by decide +kernel
theorem dX6_takeBack_71 : decode cX6_takeBack 71 = .ok (.ireturn, 1) := by decide +kernel
set_option maxRecDepth 20000 in
theorem ggX6_breaks_X6_isShop : GoodIn wsX6_breaks wsX6_isShop := goodIn_r _ [6, 7, 8, 9, 5, 10, 54, 55, 56, 57, 58, 59, 60, 61, 62, 63, 64, 65, 66, 67, 68, 69] (by decide +kernel) (by decide +kernel)
set_option maxRecDepth 20000 in
theorem gX6_breaks_X6_isShop : GoodIn wsX6_breaks (wsV RX6 92 RX6 yX6_isShop wsX6_isShop) := goodIn_app (goodIn_of _ (by decide +kernel)) ggX6_breaks_X6_isShop
set_option maxRecDepth 20000 in
theorem ggX6_breaks_X6_isBrand : GoodIn wsX6_breaks wsX6_isBrand := goodIn_r _ [14, 7, 8, 9, 5, 10, 54, 55, 56, 57, 58, 59, 60, 61, 62, 63, 64, 65, 66, 67, 68, 69] (by decide +kernel) (by decide +kernel)
set_option maxRecDepth 20000 in
theorem gX6_breaks_X6_isBrand : GoodIn wsX6_breaks (wsV RX6 85 RX6 yX6_isBrand wsX6_isBrand) := goodIn_app (goodIn_of _ (by decide +kernel)) ggX6_breaks_X6_isBrand
set_option maxRecDepth 20000 in
theorem ggX6_breaks_X6_fails : GoodIn wsX6_breaks wsX6_fails := goodIn_r _ [18, 1, 54, 55, 56, 57, 58, 59, 60, 61, 62, 63, 64, 65, 66, 67, 68, 69] (by decide +kernel) (by decide +kernel)
set_option maxRecDepth 20000 in
theorem gX6_breaks_X6_fails : GoodIn wsX6_breaks (wsV RX6 49 RX6 yX6_fails wsX6_fails) := goodIn_app (goodIn_of _ (by decide +kernel)) ggX6_breaks_X6_fails
set_option maxRecDepth 20000 in
theorem ggX6_breaks_X6_in : GoodIn wsX6_breaks wsX6_in := goodIn_r _ [10] (by decide +kernel) (by decide +kernel)
set_option maxRecDepth 20000 in
theorem gX6_breaks_X6_in : GoodIn wsX6_breaks (va_wsS RX6 35 yX6_in wsX6_in) := goodIn_app (goodIn_of _ (by decide +kernel)) ggX6_breaks_X6_in
set_option maxRecDepth 20000 in
theorem ggX6_breaks_X6_againstBreak : GoodIn wsX6_breaks wsX6_againstBreak := goodIn_r _ [22, 23, 24, 25, 5, 26, 7, 27, 28, 29, 54, 55, 56, 57, 58, 59, 60, 61, 62, 63, 64, 65, 66, 67, 68, 69] (by decide +kernel) (by decide +kernel)
set_option maxRecDepth 20000 in
theorem gX6_breaks_X6_againstBreak : GoodIn wsX6_breaks (wsV RX6 114 RX6 yX6_againstBreak wsX6_againstBreak) := goodIn_app (goodIn_of _ (by decide +kernel)) ggX6_breaks_X6_againstBreak
set_option maxRecDepth 20000 in
theorem ggX6_breaks_X6_save : GoodIn wsX6_breaks wsX6_save := goodIn_r _ [33, 34, 35, 7, 54, 55, 56, 57, 58, 59, 60, 61, 62, 63, 64, 65, 66, 67, 68, 69] (by decide +kernel) (by decide +kernel)
set_option maxRecDepth 20000 in
theorem gX6_breaks_X6_save : GoodIn wsX6_breaks (wsV RX6 53 RX6 yX6_save wsX6_save) := goodIn_app (goodIn_of _ (by decide +kernel)) ggX6_breaks_X6_save
set_option maxRecDepth 20000 in
theorem ggX6_breaks_X6_breaksThem : GoodIn wsX6_breaks wsX6_breaksThem := goodIn_r _ [39, 7, 40, 41, 42, 5, 43, 44, 45, 46, 47, 48, 49, 50, 51, 52, 53, 27, 28, 29, 54, 55, 56, 57, 58, 59, 60, 61, 62, 63, 64, 65, 66, 67, 68, 69] (by decide +kernel) (by decide +kernel)
set_option maxRecDepth 20000 in
theorem gX6_breaks_X6_breaksThem : GoodIn wsX6_breaks (wsV RX6 117 RX6 yX6_breaksThem wsX6_breaksThem) := goodIn_app (goodIn_of _ (by decide +kernel)) ggX6_breaks_X6_breaksThem
theorem dX6_breaks_0 : decode cX6_breaks 0 = .ok (.aload_n 0, 1) := by decide +kernel
theorem dX6_breaks_1 : decode cX6_breaks 1 = .ok (.iconst 0, 1) := by decide +kernel
theorem dX6_breaks_2 : decode cX6_breaks 2 = .ok (.putfield 28, 3) := by decide +kernel
theorem dX6_breaks_5 : decode cX6_breaks 5 = .ok (.aload_n 0, 1) := by decide +kernel
theorem dX6_breaks_6 : decode cX6_breaks 6 = .ok (.iload_n 1, 1) := by decide +kernel
theorem dX6_breaks_7 : decode cX6_breaks 7 = .ok (.invokevirtual 92, 3) := by decide +kernel
theorem dX6_breaks_10 : decode cX6_breaks 10 = .ok (.ifCond .eq 11, 3) := by decide +kernel
theorem dX6_breaks_13 : decode cX6_breaks 13 = .ok (.aload_n 0, 1) := by decide +kernel
theorem dX6_breaks_14 : decode cX6_breaks 14 = .ok (.iload_n 2, 1) := by decide +kernel
theorem dX6_breaks_15 : decode cX6_breaks 15 = .ok (.invokevirtual 85, 3) := by decide +kernel
theorem dX6_breaks_18 : decode cX6_breaks 18 = .ok (.ifCond .ne 9, 3) := by decide +kernel
theorem dX6_breaks_21 : decode cX6_breaks 21 = .ok (.aload_n 0, 1) := by decide +kernel
theorem dX6_breaks_22 : decode cX6_breaks 22 = .ok (.iconst 1, 1) := by decide +kernel
theorem dX6_breaks_23 : decode cX6_breaks 23 = .ok (.invokevirtual 49, 3) := by decide +kernel
theorem dX6_breaks_26 : decode cX6_breaks 26 = .ok (.ireturn, 1) := by decide +kernel
theorem dX6_breaks_27 : decode cX6_breaks 27 = .ok (.iload_n 3, 1) := by decide +kernel
theorem dX6_breaks_28 : decode cX6_breaks 28 = .ok (.iconst 1, 1) := by decide +kernel
theorem dX6_breaks_29 : decode cX6_breaks 29 = .ok (.sipush 500, 3) := by decide +kernel
theorem dX6_breaks_32 : decode cX6_breaks 32 = .ok (.invokestatic 35, 3) := by decide +kernel
theorem dX6_breaks_35 : decode cX6_breaks 35 = .ok (.ifCond .ne 9, 3) := by decide +kernel
theorem dX6_breaks_38 : decode cX6_breaks 38 = .ok (.aload_n 0, 1) := by decide +kernel
theorem dX6_breaks_39 : decode cX6_breaks 39 = .ok (.iconst 2, 1) := by decide +kernel
theorem dX6_breaks_40 : decode cX6_breaks 40 = .ok (.invokevirtual 49, 3) := by decide +kernel
theorem dX6_breaks_43 : decode cX6_breaks 43 = .ok (.ireturn, 1) := by decide +kernel
theorem dX6_breaks_44 : decode cX6_breaks 44 = .ok (.aload_n 0, 1) := by decide +kernel
theorem dX6_breaks_45 : decode cX6_breaks 45 = .ok (.iload_n 1, 1) := by decide +kernel
theorem dX6_breaks_46 : decode cX6_breaks 46 = .ok (.iload_n 2, 1) := by decide +kernel
theorem dX6_breaks_47 : decode cX6_breaks 47 = .ok (.iload_n 3, 1) := by decide +kernel
theorem dX6_breaks_48 : decode cX6_breaks 48 = .ok (.invokevirtual 114, 3) := by decide +kernel
theorem dX6_breaks_51 : decode cX6_breaks 51 = .ok (.ifCond .le 9, 3) := by decide +kernel
theorem dX6_breaks_54 : decode cX6_breaks 54 = .ok (.aload_n 0, 1) := by decide +kernel
theorem dX6_breaks_55 : decode cX6_breaks 55 = .ok (.iconst 3, 1) := by decide +kernel
theorem dX6_breaks_56 : decode cX6_breaks 56 = .ok (.invokevirtual 49, 3) := by decide +kernel
theorem dX6_breaks_59 : decode cX6_breaks 59 = .ok (.ireturn, 1) := by decide +kernel
theorem dX6_breaks_60 : decode cX6_breaks 60 = .ok (.aload_n 0, 1) := by decide +kernel
theorem dX6_breaks_61 : decode cX6_breaks 61 = .ok (.invokevirtual 53, 3) := by decide +kernel
theorem dX6_breaks_64 : decode cX6_breaks 64 = .ok (.aload_n 0, 1) := by decide +kernel
theorem dX6_breaks_65 : decode cX6_breaks 65 = .ok (.iload_n 1, 1) := by decide +kernel
theorem dX6_breaks_66 : decode cX6_breaks 66 = .ok (.iload_n 2, 1) := by decide +kernel
theorem dX6_breaks_67 : decode cX6_breaks 67 = .ok (.iload_n 3, 1) := by decide +kernel
theorem dX6_breaks_68 : decode cX6_breaks 68 = .ok (.invokevirtual 117, 3) := by decide +kernel
theorem dX6_breaks_71 : decode cX6_breaks 71 = .ok (.ireturn, 1) := by decide +kernel
set_option maxRecDepth 20000 in
theorem ggX6_lose_X6_isBrand : GoodIn wsX6_lose wsX6_isBrand := goodIn_r _ [7, 2, 8, 9, 6, 10, 32, 33, 34, 35, 36, 37, 38, 39, 40, 41, 42, 43, 44, 45, 46, 47] (by decide +kernel) (by decide +kernel)
set_option maxRecDepth 20000 in
theorem gX6_lose_X6_isBrand : GoodIn wsX6_lose (wsV RX6 85 RX6 yX6_isBrand wsX6_isBrand) := goodIn_app (goodIn_of _ (by decide +kernel)) ggX6_lose_X6_isBrand
set_option maxRecDepth 20000 in
theorem ggX6_lose_X6_fails : GoodIn wsX6_lose wsX6_fails := goodIn_r _ [14, 1, 32, 33, 34, 35, 36, 37, 38, 39, 40, 41, 42, 43, 44, 45, 46, 47] (by decide +kernel) (by decide +kernel)
set_option maxRecDepth 20000 in
theorem gX6_lose_X6_fails : GoodIn wsX6_lose (wsV RX6 49 RX6 yX6_fails wsX6_fails) := goodIn_app (goodIn_of _ (by decide +kernel)) ggX6_lose_X6_fails
set_option maxRecDepth 20000 in
theorem ggX6_lose_X6_in : GoodIn wsX6_lose wsX6_in := goodIn_r _ [10] (by decide +kernel) (by decide +kernel)
set_option maxRecDepth 20000 in
theorem gX6_lose_X6_in : GoodIn wsX6_lose (va_wsS RX6 35 yX6_in wsX6_in) := goodIn_app (goodIn_of _ (by decide +kernel)) ggX6_lose_X6_in
set_option maxRecDepth 20000 in
theorem ggX6_lose_X6_of : GoodIn wsX6_lose wsX6_of := goodIn_r _ [18, 2, 19, 20, 6, 21, 32, 33, 34, 35, 36, 37, 38, 39, 40, 41, 42, 43, 44, 45, 46, 47] (by decide +kernel) (by decide +kernel)
set_option maxRecDepth 20000 in
theorem gX6_lose_X6_of : GoodIn wsX6_lose (wsV RX6 46 RX6 yX6_of wsX6_of) := goodIn_app (goodIn_of _ (by decide +kernel)) ggX6_lose_X6_of
set_option maxRecDepth 20000 in
theorem ggX6_lose_X6_save : GoodIn wsX6_lose wsX6_save := goodIn_r _ [25, 26, 27, 2, 32, 33, 34, 35, 36, 37, 38, 39, 40, 41, 42, 43, 44, 45, 46, 47] (by decide +kernel) (by decide +kernel)
set_option maxRecDepth 20000 in
theorem gX6_lose_X6_save : GoodIn wsX6_lose (wsV RX6 53 RX6 yX6_save wsX6_save) := goodIn_app (goodIn_of _ (by decide +kernel)) ggX6_lose_X6_save
set_option maxRecDepth 20000 in
theorem ggX6_lose_X6_brandAt : GoodIn wsX6_lose wsX6_brandAt := goodIn_r _ [21] (by decide +kernel) (by decide +kernel)
set_option maxRecDepth 20000 in
theorem gX6_lose_X6_brandAt : GoodIn wsX6_lose (va_wsS RX6 39 yX6_brandAt wsX6_brandAt) := goodIn_app (goodIn_of _ (by decide +kernel)) ggX6_lose_X6_brandAt
set_option maxRecDepth 20000 in
theorem ggX6_lose_X6_deposit : GoodIn wsX6_lose wsX6_deposit := goodIn_r _ [31, 2, 15, 16, 17, 6, 18, 19, 20, 21, 32, 33, 34, 35, 36, 37, 38, 39, 40, 41, 42, 43, 44, 45, 46, 47] (by decide +kernel) (by decide +kernel)
set_option maxRecDepth 20000 in
theorem gX6_lose_X6_deposit : GoodIn wsX6_lose (wsV RX6 73 RX6 yX6_deposit wsX6_deposit) := goodIn_app (goodIn_of _ (by decide +kernel)) ggX6_lose_X6_deposit
theorem dX6_lose_0 : decode cX6_lose 0 = .ok (.aload_n 0, 1) := by decide +kernel
theorem dX6_lose_1 : decode cX6_lose 1 = .ok (.iconst 0, 1) := by decide +kernel
theorem dX6_lose_2 : decode cX6_lose 2 = .ok (.putfield 28, 3) := by decide +kernel
theorem dX6_lose_5 : decode cX6_lose 5 = .ok (.aload_n 0, 1) := by decide +kernel
theorem dX6_lose_6 : decode cX6_lose 6 = .ok (.iload_n 1, 1) := by decide +kernel
theorem dX6_lose_7 : decode cX6_lose 7 = .ok (.invokevirtual 85, 3) := by decide +kernel
theorem dX6_lose_10 : decode cX6_lose 10 = .ok (.ifCond .ne 9, 3) := by decide +kernel
theorem dX6_lose_13 : decode cX6_lose 13 = .ok (.aload_n 0, 1) := by decide +kernel
theorem dX6_lose_14 : decode cX6_lose 14 = .ok (.iconst 1, 1) := by decide +kernel
theorem dX6_lose_15 : decode cX6_lose 15 = .ok (.invokevirtual 49, 3) := by decide +kernel
theorem dX6_lose_18 : decode cX6_lose 18 = .ok (.ireturn, 1) := by decide +kernel
theorem dX6_lose_19 : decode cX6_lose 19 = .ok (.iload_n 2, 1) := by decide +kernel
theorem dX6_lose_20 : decode cX6_lose 20 = .ok (.iconst 1, 1) := by decide +kernel
theorem dX6_lose_21 : decode cX6_lose 21 = .ok (.sipush 5000, 3) := by decide +kernel
theorem dX6_lose_24 : decode cX6_lose 24 = .ok (.invokestatic 35, 3) := by decide +kernel
theorem dX6_lose_27 : decode cX6_lose 27 = .ok (.ifCond .ne 9, 3) := by decide +kernel
theorem dX6_lose_30 : decode cX6_lose 30 = .ok (.aload_n 0, 1) := by decide +kernel
theorem dX6_lose_31 : decode cX6_lose 31 = .ok (.iconst 2, 1) := by decide +kernel
theorem dX6_lose_32 : decode cX6_lose 32 = .ok (.invokevirtual 49, 3) := by decide +kernel
theorem dX6_lose_35 : decode cX6_lose 35 = .ok (.ireturn, 1) := by decide +kernel
theorem dX6_lose_36 : decode cX6_lose 36 = .ok (.aload_n 0, 1) := by decide +kernel
theorem dX6_lose_37 : decode cX6_lose 37 = .ok (.iload_n 1, 1) := by decide +kernel
theorem dX6_lose_38 : decode cX6_lose 38 = .ok (.iconst 3, 1) := by decide +kernel
theorem dX6_lose_39 : decode cX6_lose 39 = .ok (.invokevirtual 46, 3) := by decide +kernel
theorem dX6_lose_42 : decode cX6_lose 42 = .ok (.iload_n 2, 1) := by decide +kernel
theorem dX6_lose_43 : decode cX6_lose 43 = .ok (.if_icmp .ge 9, 3) := by decide +kernel
theorem dX6_lose_46 : decode cX6_lose 46 = .ok (.aload_n 0, 1) := by decide +kernel
theorem dX6_lose_47 : decode cX6_lose 47 = .ok (.iconst 3, 1) := by decide +kernel
theorem dX6_lose_48 : decode cX6_lose 48 = .ok (.invokevirtual 49, 3) := by decide +kernel
theorem dX6_lose_51 : decode cX6_lose 51 = .ok (.ireturn, 1) := by decide +kernel
theorem dX6_lose_52 : decode cX6_lose 52 = .ok (.aload_n 0, 1) := by decide +kernel
theorem dX6_lose_53 : decode cX6_lose 53 = .ok (.invokevirtual 53, 3) := by decide +kernel
theorem dX6_lose_56 : decode cX6_lose 56 = .ok (.aload_n 0, 1) := by decide +kernel
theorem dX6_lose_57 : decode cX6_lose 57 = .ok (.getfield 7, 3) := by decide +kernel
theorem dX6_lose_60 : decode cX6_lose 60 = .ok (.iload_n 1, 1) := by decide +kernel
theorem dX6_lose_61 : decode cX6_lose 61 = .ok (.iconst 3, 1) := by decide +kernel
theorem dX6_lose_62 : decode cX6_lose 62 = .ok (.invokestatic 39, 3) := by decide +kernel
theorem dX6_lose_65 : decode cX6_lose 65 = .ok (.dup2, 1) := by decide +kernel
theorem dX6_lose_66 : decode cX6_lose 66 = .ok (.iaload, 1) := by decide +kernel
theorem dX6_lose_67 : decode cX6_lose 67 = .ok (.iload_n 2, 1) := by decide +kernel
theorem dX6_lose_68 : decode cX6_lose 68 = .ok (.isub, 1) := by decide +kernel
theorem dX6_lose_69 : decode cX6_lose 69 = .ok (.iastore, 1) := by decide +kernel
theorem dX6_lose_70 : decode cX6_lose 70 = .ok (.aload_n 0, 1) := by decide +kernel
theorem dX6_lose_71 : decode cX6_lose 71 = .ok (.getfield 7, 3) := by decide +kernel
theorem dX6_lose_74 : decode cX6_lose 74 = .ok (.iload_n 1, 1) := by decide +kernel
theorem dX6_lose_75 : decode cX6_lose 75 = .ok (.bipush 6, 2) := by decide +kernel
theorem dX6_lose_77 : decode cX6_lose 77 = .ok (.invokestatic 39, 3) := by decide +kernel
theorem dX6_lose_80 : decode cX6_lose 80 = .ok (.dup2, 1) := by decide +kernel
theorem dX6_lose_81 : decode cX6_lose 81 = .ok (.iaload, 1) := by decide +kernel
theorem dX6_lose_82 : decode cX6_lose 82 = .ok (.iload_n 2, 1) := by decide +kernel
theorem dX6_lose_83 : decode cX6_lose 83 = .ok (.iadd, 1) := by decide +kernel
theorem dX6_lose_84 : decode cX6_lose 84 = .ok (.iastore, 1) := by decide +kernel
theorem dX6_lose_85 : decode cX6_lose 85 = .ok (.aload_n 0, 1) := by decide +kernel
theorem dX6_lose_86 : decode cX6_lose 86 = .ok (.getfield 7, 3) := by decide +kernel
theorem dX6_lose_89 : decode cX6_lose 89 = .ok (.iconst 4, 1) := by decide +kernel
theorem dX6_lose_90 : decode cX6_lose 90 = .ok (.dup2, 1) := by decide +kernel
theorem dX6_lose_91 : decode cX6_lose 91 = .ok (.iaload, 1) := by decide +kernel
theorem dX6_lose_92 : decode cX6_lose 92 = .ok (.iload_n 2, 1) := by decide +kernel
theorem dX6_lose_93 : decode cX6_lose 93 = .ok (.aload_n 0, 1) := by decide +kernel
theorem dX6_lose_94 : decode cX6_lose 94 = .ok (.iload_n 1, 1) := by decide +kernel
theorem dX6_lose_95 : decode cX6_lose 95 = .ok (.invokevirtual 73, 3) := by decide +kernel
theorem dX6_lose_98 : decode cX6_lose 98 = .ok (.imul, 1) := by decide +kernel
theorem dX6_lose_99 : decode cX6_lose 99 = .ok (.iadd, 1) := by decide +kernel
theorem dX6_lose_100 : decode cX6_lose 100 = .ok (.iastore, 1) := by decide +kernel
theorem dX6_lose_101 : decode cX6_lose 101 = .ok (.aload_n 0, 1) := by decide +kernel
theorem dX6_lose_102 : decode cX6_lose 102 = .ok (.iload_n 1, 1) := by decide +kernel
theorem dX6_lose_103 : decode cX6_lose 103 = .ok (.iconst 3, 1) := by decide +kernel
theorem dX6_lose_104 : decode cX6_lose 104 = .ok (.invokevirtual 46, 3) := by decide +kernel
theorem dX6_lose_107 : decode cX6_lose 107 = .ok (.ireturn, 1) := by decide +kernel
set_option maxRecDepth 20000 in
theorem ggX6_collect_X6_isShop : GoodIn wsX6_collect wsX6_isShop := goodIn_r _ [6, 7, 8, 9, 5, 10, 55, 56, 57, 58, 59, 60, 61, 62, 63, 64, 65, 66, 67, 68, 69, 70] (by decide +kernel) (by decide +kernel)
set_option maxRecDepth 20000 in
theorem gX6_collect_X6_isShop : GoodIn wsX6_collect (wsV RX6 92 RX6 yX6_isShop wsX6_isShop) := goodIn_app (goodIn_of _ (by decide +kernel)) ggX6_collect_X6_isShop
set_option maxRecDepth 20000 in
theorem ggX6_collect_X6_fails : GoodIn wsX6_collect wsX6_fails := goodIn_r _ [14, 1, 55, 56, 57, 58, 59, 60, 61, 62, 63, 64, 65, 66, 67, 68, 69, 70] (by decide +kernel) (by decide +kernel)
set_option maxRecDepth 20000 in
theorem gX6_collect_X6_fails : GoodIn wsX6_collect (wsV RX6 49 RX6 yX6_fails wsX6_fails) := goodIn_app (goodIn_of _ (by decide +kernel)) ggX6_collect_X6_fails
set_option maxRecDepth 20000 in
theorem ggX6_collect_X6_in : GoodIn wsX6_collect wsX6_in := goodIn_r _ [10] (by decide +kernel) (by decide +kernel)
set_option maxRecDepth 20000 in
theorem gX6_collect_X6_in : GoodIn wsX6_collect (va_wsS RX6 35 yX6_in wsX6_in) := goodIn_app (goodIn_of _ (by decide +kernel)) ggX6_collect_X6_in
set_option maxRecDepth 20000 in
theorem ggX6_collect_X6_againstCollect : GoodIn wsX6_collect wsX6_againstCollect := goodIn_r _ [18, 19, 20, 21, 5, 22, 7, 23, 24, 25, 26, 27, 28, 29, 30, 31, 32, 33, 34, 35, 36, 55, 56, 57, 58, 59, 60, 61, 62, 63, 64, 65, 66, 67, 68, 69, 70] (by decide +kernel) (by decide +kernel)
set_option maxRecDepth 20000 in
theorem gX6_collect_X6_againstCollect : GoodIn wsX6_collect (wsV RX6 120 RX6 yX6_againstCollect wsX6_againstCollect) := goodIn_app (goodIn_of _ (by decide +kernel)) ggX6_collect_X6_againstCollect
set_option maxRecDepth 20000 in
theorem ggX6_collect_X6_save : GoodIn wsX6_collect wsX6_save := goodIn_r _ [40, 41, 42, 7, 55, 56, 57, 58, 59, 60, 61, 62, 63, 64, 65, 66, 67, 68, 69, 70] (by decide +kernel) (by decide +kernel)
set_option maxRecDepth 20000 in
theorem gX6_collect_X6_save : GoodIn wsX6_collect (wsV RX6 53 RX6 yX6_save wsX6_save) := goodIn_app (goodIn_of _ (by decide +kernel)) ggX6_collect_X6_save
set_option maxRecDepth 20000 in
theorem ggX6_collect_X6_collects : GoodIn wsX6_collect wsX6_collects := goodIn_r _ [46, 7, 47, 48, 49, 5, 50, 23, 24, 25, 26, 27, 28, 29, 30, 31, 32, 33, 34, 35, 36, 51, 52, 53, 54, 55, 56, 57, 58, 59, 60, 61, 62, 63, 64, 65, 66, 67, 68, 69, 70] (by decide +kernel) (by decide +kernel)
set_option maxRecDepth 20000 in
theorem gX6_collect_X6_collects : GoodIn wsX6_collect (wsV RX6 123 RX6 yX6_collects wsX6_collects) := goodIn_app (goodIn_of _ (by decide +kernel)) ggX6_collect_X6_collects
theorem dX6_collect_0 : decode cX6_collect 0 = .ok (.aload_n 0, 1) := by decide +kernel
theorem dX6_collect_1 : decode cX6_collect 1 = .ok (.iconst 0, 1) := by decide +kernel
theorem dX6_collect_2 : decode cX6_collect 2 = .ok (.putfield 28, 3) := by decide +kernel
theorem dX6_collect_5 : decode cX6_collect 5 = .ok (.aload_n 0, 1) := by decide +kernel
theorem dX6_collect_6 : decode cX6_collect 6 = .ok (.iload_n 1, 1) := by decide +kernel
theorem dX6_collect_7 : decode cX6_collect 7 = .ok (.invokevirtual 92, 3) := by decide +kernel
theorem dX6_collect_10 : decode cX6_collect 10 = .ok (.ifCond .ne 9, 3) := by decide +kernel
theorem dX6_collect_13 : decode cX6_collect 13 = .ok (.aload_n 0, 1) := by decide +kernel
theorem dX6_collect_14 : decode cX6_collect 14 = .ok (.iconst 1, 1) := by decide +kernel
theorem dX6_collect_15 : decode cX6_collect 15 = .ok (.invokevirtual 49, 3) := by decide +kernel
theorem dX6_collect_18 : decode cX6_collect 18 = .ok (.ireturn, 1) := by decide +kernel
theorem dX6_collect_19 : decode cX6_collect 19 = .ok (.iload_n 2, 1) := by decide +kernel
theorem dX6_collect_20 : decode cX6_collect 20 = .ok (.iconst 0, 1) := by decide +kernel
theorem dX6_collect_21 : decode cX6_collect 21 = .ok (.iconst 2, 1) := by decide +kernel
theorem dX6_collect_22 : decode cX6_collect 22 = .ok (.invokestatic 35, 3) := by decide +kernel
theorem dX6_collect_25 : decode cX6_collect 25 = .ok (.ifCond .eq 13, 3) := by decide +kernel
theorem dX6_collect_28 : decode cX6_collect 28 = .ok (.iload_n 3, 1) := by decide +kernel
theorem dX6_collect_29 : decode cX6_collect 29 = .ok (.iconst 1, 1) := by decide +kernel
theorem dX6_collect_30 : decode cX6_collect 30 = .ok (.bipush 50, 2) := by decide +kernel
theorem dX6_collect_32 : decode cX6_collect 32 = .ok (.invokestatic 35, 3) := by decide +kernel
theorem dX6_collect_35 : decode cX6_collect 35 = .ok (.ifCond .ne 9, 3) := by decide +kernel
theorem dX6_collect_38 : decode cX6_collect 38 = .ok (.aload_n 0, 1) := by decide +kernel
theorem dX6_collect_39 : decode cX6_collect 39 = .ok (.iconst 2, 1) := by decide +kernel
theorem dX6_collect_40 : decode cX6_collect 40 = .ok (.invokevirtual 49, 3) := by decide +kernel
theorem dX6_collect_43 : decode cX6_collect 43 = .ok (.ireturn, 1) := by decide +kernel
theorem dX6_collect_44 : decode cX6_collect 44 = .ok (.aload_n 0, 1) := by decide +kernel
theorem dX6_collect_45 : decode cX6_collect 45 = .ok (.iload_n 1, 1) := by decide +kernel
theorem dX6_collect_46 : decode cX6_collect 46 = .ok (.iload_n 2, 1) := by decide +kernel
theorem dX6_collect_47 : decode cX6_collect 47 = .ok (.iload_n 3, 1) := by decide +kernel
theorem dX6_collect_48 : decode cX6_collect 48 = .ok (.invokevirtual 120, 3) := by decide +kernel
theorem dX6_collect_51 : decode cX6_collect 51 = .ok (.ifCond .le 9, 3) := by decide +kernel
theorem dX6_collect_54 : decode cX6_collect 54 = .ok (.aload_n 0, 1) := by decide +kernel
theorem dX6_collect_55 : decode cX6_collect 55 = .ok (.iconst 3, 1) := by decide +kernel
theorem dX6_collect_56 : decode cX6_collect 56 = .ok (.invokevirtual 49, 3) := by decide +kernel
theorem dX6_collect_59 : decode cX6_collect 59 = .ok (.ireturn, 1) := by decide +kernel
theorem dX6_collect_60 : decode cX6_collect 60 = .ok (.aload_n 0, 1) := by decide +kernel
theorem dX6_collect_61 : decode cX6_collect 61 = .ok (.invokevirtual 53, 3) := by decide +kernel
theorem dX6_collect_64 : decode cX6_collect 64 = .ok (.aload_n 0, 1) := by decide +kernel
theorem dX6_collect_65 : decode cX6_collect 65 = .ok (.iload_n 1, 1) := by decide +kernel
theorem dX6_collect_66 : decode cX6_collect 66 = .ok (.iload_n 2, 1) := by decide +kernel
theorem dX6_collect_67 : decode cX6_collect 67 = .ok (.iload_n 3, 1) := by decide +kernel
theorem dX6_collect_68 : decode cX6_collect 68 = .ok (.invokevirtual 123, 3) := by decide +kernel
theorem dX6_collect_71 : decode cX6_collect 71 = .ok (.ireturn, 1) := by decide +kernel
set_option maxRecDepth 20000 in
theorem ggX6_sort_X6_in : GoodIn wsX6_sort wsX6_in := goodIn_r _ [6] (by decide +kernel) (by decide +kernel)
set_option maxRecDepth 20000 in
theorem gX6_sort_X6_in : GoodIn wsX6_sort (va_wsS RX6 35 yX6_in wsX6_in) := goodIn_app (goodIn_of _ (by decide +kernel)) ggX6_sort_X6_in
set_option maxRecDepth 20000 in
theorem ggX6_sort_X6_fails : GoodIn wsX6_sort wsX6_fails := goodIn_r _ [10, 1, 31, 32, 33, 34, 35, 36, 37, 38, 39, 40, 41, 42, 43, 44, 45, 46] (by decide +kernel) (by decide +kernel)
set_option maxRecDepth 20000 in
theorem gX6_sort_X6_fails : GoodIn wsX6_sort (wsV RX6 49 RX6 yX6_fails wsX6_fails) := goodIn_app (goodIn_of _ (by decide +kernel)) ggX6_sort_X6_fails
set_option maxRecDepth 20000 in
theorem ggX6_sort_X6_yardOf : GoodIn wsX6_sort wsX6_yardOf := goodIn_r _ [14, 2, 15, 16, 17, 5, 18, 19, 20, 21, 31, 32, 33, 34, 35, 36, 37, 38, 39, 40, 41, 42, 43, 44, 45, 46] (by decide +kernel) (by decide +kernel)
set_option maxRecDepth 20000 in
theorem gX6_sort_X6_yardOf : GoodIn wsX6_sort (wsV RX6 126 RX6 yX6_yardOf wsX6_yardOf) := goodIn_app (goodIn_of _ (by decide +kernel)) ggX6_sort_X6_yardOf
set_option maxRecDepth 20000 in
theorem ggX6_sort_X6_save : GoodIn wsX6_sort wsX6_save := goodIn_r _ [25, 26, 27, 2, 31, 32, 33, 34, 35, 36, 37, 38, 39, 40, 41, 42, 43, 44, 45, 46] (by decide +kernel) (by decide +kernel)
set_option maxRecDepth 20000 in
theorem gX6_sort_X6_save : GoodIn wsX6_sort (wsV RX6 53 RX6 yX6_save wsX6_save) := goodIn_app (goodIn_of _ (by decide +kernel)) ggX6_sort_X6_save
set_option maxRecDepth 20000 in
theorem ggX6_sort_X6_of : GoodIn wsX6_sort wsX6_of := goodIn_r _ [18, 2, 19, 20, 5, 21, 31, 32, 33, 34, 35, 36, 37, 38, 39, 40, 41, 42, 43, 44, 45, 46] (by decide +kernel) (by decide +kernel)
set_option maxRecDepth 20000 in
theorem gX6_sort_X6_of : GoodIn wsX6_sort (wsV RX6 46 RX6 yX6_of wsX6_of) := goodIn_app (goodIn_of _ (by decide +kernel)) ggX6_sort_X6_of
set_option maxRecDepth 20000 in
theorem ggX6_sort_X6_least : GoodIn wsX6_sort wsX6_least := goodIn_r _ [30] (by decide +kernel) (by decide +kernel)
set_option maxRecDepth 20000 in
theorem gX6_sort_X6_least : GoodIn wsX6_sort (va_wsS RX6 76 yX6_least wsX6_least) := goodIn_app (goodIn_of _ (by decide +kernel)) ggX6_sort_X6_least
set_option maxRecDepth 20000 in
theorem ggX6_sort_X6_brandAt : GoodIn wsX6_sort wsX6_brandAt := goodIn_r _ [21] (by decide +kernel) (by decide +kernel)
set_option maxRecDepth 20000 in
theorem gX6_sort_X6_brandAt : GoodIn wsX6_sort (va_wsS RX6 39 yX6_brandAt wsX6_brandAt) := goodIn_app (goodIn_of _ (by decide +kernel)) ggX6_sort_X6_brandAt
theorem dX6_sort_0 : decode cX6_sort 0 = .ok (.aload_n 0, 1) := by decide +kernel
theorem dX6_sort_1 : decode cX6_sort 1 = .ok (.iconst 0, 1) := by decide +kernel
theorem dX6_sort_2 : decode cX6_sort 2 = .ok (.putfield 28, 3) := by decide +kernel
theorem dX6_sort_5 : decode cX6_sort 5 = .ok (.iload_n 1, 1) := by decide +kernel
theorem dX6_sort_6 : decode cX6_sort 6 = .ok (.iconst 0, 1) := by decide +kernel
theorem dX6_sort_7 : decode cX6_sort 7 = .ok (.iconst 2, 1) := by decide +kernel
theorem dX6_sort_8 : decode cX6_sort 8 = .ok (.invokestatic 35, 3) := by decide +kernel
theorem dX6_sort_11 : decode cX6_sort 11 = .ok (.ifCond .eq 14, 3) := by decide +kernel
theorem dX6_sort_14 : decode cX6_sort 14 = .ok (.iload_n 2, 1) := by decide +kernel
theorem dX6_sort_15 : decode cX6_sort 15 = .ok (.iconst 1, 1) := by decide +kernel
theorem dX6_sort_16 : decode cX6_sort 16 = .ok (.sipush 5000, 3) := by decide +kernel
theorem dX6_sort_19 : decode cX6_sort 19 = .ok (.invokestatic 35, 3) := by decide +kernel
theorem dX6_sort_22 : decode cX6_sort 22 = .ok (.ifCond .ne 9, 3) := by decide +kernel
theorem dX6_sort_25 : decode cX6_sort 25 = .ok (.aload_n 0, 1) := by decide +kernel
theorem dX6_sort_26 : decode cX6_sort 26 = .ok (.iconst 1, 1) := by decide +kernel
theorem dX6_sort_27 : decode cX6_sort 27 = .ok (.invokevirtual 49, 3) := by decide +kernel
theorem dX6_sort_30 : decode cX6_sort 30 = .ok (.ireturn, 1) := by decide +kernel
theorem dX6_sort_31 : decode cX6_sort 31 = .ok (.aload_n 0, 1) := by decide +kernel
theorem dX6_sort_32 : decode cX6_sort 32 = .ok (.iload_n 1, 1) := by decide +kernel
theorem dX6_sort_33 : decode cX6_sort 33 = .ok (.invokevirtual 126, 3) := by decide +kernel
theorem dX6_sort_36 : decode cX6_sort 36 = .ok (.iload_n 2, 1) := by decide +kernel
theorem dX6_sort_37 : decode cX6_sort 37 = .ok (.if_icmp .ge 9, 3) := by decide +kernel
theorem dX6_sort_40 : decode cX6_sort 40 = .ok (.aload_n 0, 1) := by decide +kernel
theorem dX6_sort_41 : decode cX6_sort 41 = .ok (.iconst 2, 1) := by decide +kernel
theorem dX6_sort_42 : decode cX6_sort 42 = .ok (.invokevirtual 49, 3) := by decide +kernel
theorem dX6_sort_45 : decode cX6_sort 45 = .ok (.ireturn, 1) := by decide +kernel
theorem dX6_sort_46 : decode cX6_sort 46 = .ok (.aload_n 0, 1) := by decide +kernel
theorem dX6_sort_47 : decode cX6_sort 47 = .ok (.invokevirtual 53, 3) := by decide +kernel
theorem dX6_sort_50 : decode cX6_sort 50 = .ok (.iload_n 2, 1) := by decide +kernel
theorem dX6_sort_51 : decode cX6_sort 51 = .ok (.istore_n 3, 1) := by decide +kernel
theorem dX6_sort_52 : decode cX6_sort 52 = .ok (.iconst 0, 1) := by decide +kernel
theorem dX6_sort_53 : decode cX6_sort 53 = .ok (.istore 4, 2) := by decide +kernel
theorem dX6_sort_55 : decode cX6_sort 55 = .ok (.iload 4, 2) := by decide +kernel
theorem dX6_sort_57 : decode cX6_sort 57 = .ok (.aload_n 0, 1) := by decide +kernel
theorem dX6_sort_58 : decode cX6_sort 58 = .ok (.getfield 7, 3) := by decide +kernel
theorem dX6_sort_61 : decode cX6_sort 61 = .ok (.iconst 0, 1) := by decide +kernel
theorem dX6_sort_62 : decode cX6_sort 62 = .ok (.iaload, 1) := by decide +kernel
theorem dX6_sort_63 : decode cX6_sort 63 = .ok (.if_icmp .ge 74, 3) := by decide +kernel
theorem dX6_sort_66 : decode cX6_sort 66 = .ok (.aload_n 0, 1) := by decide +kernel
theorem dX6_sort_67 : decode cX6_sort 67 = .ok (.iload 4, 2) := by decide +kernel
theorem dX6_sort_69 : decode cX6_sort 69 = .ok (.iconst 0, 1) := by decide +kernel
theorem dX6_sort_70 : decode cX6_sort 70 = .ok (.invokevirtual 46, 3) := by decide +kernel
theorem dX6_sort_73 : decode cX6_sort 73 = .ok (.iload_n 1, 1) := by decide +kernel
theorem dX6_sort_74 : decode cX6_sort 74 = .ok (.if_icmp .ne 17, 3) := by decide +kernel
theorem dX6_sort_77 : decode cX6_sort 77 = .ok (.iload_n 3, 1) := by decide +kernel
theorem dX6_sort_78 : decode cX6_sort 78 = .ok (.aload_n 0, 1) := by decide +kernel
theorem dX6_sort_79 : decode cX6_sort 79 = .ok (.iload 4, 2) := by decide +kernel
theorem dX6_sort_81 : decode cX6_sort 81 = .ok (.iconst 4, 1) := by decide +kernel
theorem dX6_sort_82 : decode cX6_sort 82 = .ok (.invokevirtual 46, 3) := by decide +kernel
theorem dX6_sort_85 : decode cX6_sort 85 = .ok (.invokestatic 76, 3) := by decide +kernel
theorem dX6_sort_88 : decode cX6_sort 88 = .ok (.goto 4, 3) := by decide +kernel
theorem dX6_sort_91 : decode cX6_sort 91 = .ok (.iconst 0, 1) := by decide +kernel
theorem dX6_sort_92 : decode cX6_sort 92 = .ok (.istore 5, 2) := by decide +kernel
theorem dX6_sort_94 : decode cX6_sort 94 = .ok (.aload_n 0, 1) := by decide +kernel
theorem dX6_sort_95 : decode cX6_sort 95 = .ok (.getfield 7, 3) := by decide +kernel
theorem dX6_sort_98 : decode cX6_sort 98 = .ok (.iload 4, 2) := by decide +kernel
theorem dX6_sort_100 : decode cX6_sort 100 = .ok (.iconst 4, 1) := by decide +kernel
theorem dX6_sort_101 : decode cX6_sort 101 = .ok (.invokestatic 39, 3) := by decide +kernel
theorem dX6_sort_104 : decode cX6_sort 104 = .ok (.dup2, 1) := by decide +kernel
theorem dX6_sort_105 : decode cX6_sort 105 = .ok (.iaload, 1) := by decide +kernel
theorem dX6_sort_106 : decode cX6_sort 106 = .ok (.iload 5, 2) := by decide +kernel
theorem dX6_sort_108 : decode cX6_sort 108 = .ok (.isub, 1) := by decide +kernel
theorem dX6_sort_109 : decode cX6_sort 109 = .ok (.iastore, 1) := by decide +kernel
theorem dX6_sort_110 : decode cX6_sort 110 = .ok (.aload_n 0, 1) := by decide +kernel
theorem dX6_sort_111 : decode cX6_sort 111 = .ok (.getfield 7, 3) := by decide +kernel
theorem dX6_sort_114 : decode cX6_sort 114 = .ok (.iload 4, 2) := by decide +kernel
theorem dX6_sort_116 : decode cX6_sort 116 = .ok (.iconst 1, 1) := by decide +kernel
theorem dX6_sort_117 : decode cX6_sort 117 = .ok (.invokestatic 39, 3) := by decide +kernel
theorem dX6_sort_120 : decode cX6_sort 120 = .ok (.dup2, 1) := by decide +kernel
theorem dX6_sort_121 : decode cX6_sort 121 = .ok (.iaload, 1) := by decide +kernel
theorem dX6_sort_122 : decode cX6_sort 122 = .ok (.iload 5, 2) := by decide +kernel
theorem dX6_sort_124 : decode cX6_sort 124 = .ok (.iadd, 1) := by decide +kernel
theorem dX6_sort_125 : decode cX6_sort 125 = .ok (.iastore, 1) := by decide +kernel
theorem dX6_sort_126 : decode cX6_sort 126 = .ok (.iload_n 3, 1) := by decide +kernel
theorem dX6_sort_127 : decode cX6_sort 127 = .ok (.iload 5, 2) := by decide +kernel
theorem dX6_sort_129 : decode cX6_sort 129 = .ok (.isub, 1) := by decide +kernel
theorem dX6_sort_130 : decode cX6_sort 130 = .ok (.istore_n 3, 1) := by decide +kernel
theorem dX6_sort_131 : decode cX6_sort 131 = .ok (.iinc 4 1, 3) := by decide +kernel
theorem dX6_sort_134 : decode cX6_sort 134 = .ok (.goto (-79), 3) := by decide +kernel
theorem dX6_sort_137 : decode cX6_sort 137 = .ok (.aload_n 0, 1) := by decide +kernel
theorem dX6_sort_138 : decode cX6_sort 138 = .ok (.iload_n 1, 1) := by decide +kernel
theorem dX6_sort_139 : decode cX6_sort 139 = .ok (.invokevirtual 126, 3) := by decide +kernel
theorem dX6_sort_142 : decode cX6_sort 142 = .ok (.ireturn, 1) := by decide +kernel
set_option maxRecDepth 20000 in
theorem ggX6_swap_X6_isBrand : GoodIn wsX6_swap wsX6_isBrand := goodIn_r _ [7, 2, 8, 9, 6, 10, 28, 29, 30, 31, 32, 33, 34, 35, 36, 37, 38, 39, 40, 41, 42, 43] (by decide +kernel) (by decide +kernel)
set_option maxRecDepth 20000 in
theorem gX6_swap_X6_isBrand : GoodIn wsX6_swap (wsV RX6 85 RX6 yX6_isBrand wsX6_isBrand) := goodIn_app (goodIn_of _ (by decide +kernel)) ggX6_swap_X6_isBrand
set_option maxRecDepth 20000 in
theorem ggX6_swap_X6_fails : GoodIn wsX6_swap wsX6_fails := goodIn_r _ [14, 1, 28, 29, 30, 31, 32, 33, 34, 35, 36, 37, 38, 39, 40, 41, 42, 43] (by decide +kernel) (by decide +kernel)
set_option maxRecDepth 20000 in
theorem gX6_swap_X6_fails : GoodIn wsX6_swap (wsV RX6 49 RX6 yX6_fails wsX6_fails) := goodIn_app (goodIn_of _ (by decide +kernel)) ggX6_swap_X6_fails
set_option maxRecDepth 20000 in
theorem ggX6_swap_X6_of : GoodIn wsX6_swap wsX6_of := goodIn_r _ [18, 2, 19, 20, 6, 21, 28, 29, 30, 31, 32, 33, 34, 35, 36, 37, 38, 39, 40, 41, 42, 43] (by decide +kernel) (by decide +kernel)
set_option maxRecDepth 20000 in
theorem gX6_swap_X6_of : GoodIn wsX6_swap (wsV RX6 46 RX6 yX6_of wsX6_of) := goodIn_app (goodIn_of _ (by decide +kernel)) ggX6_swap_X6_of
set_option maxRecDepth 20000 in
theorem ggX6_swap_X6_in : GoodIn wsX6_swap wsX6_in := goodIn_r _ [10] (by decide +kernel) (by decide +kernel)
set_option maxRecDepth 20000 in
theorem gX6_swap_X6_in : GoodIn wsX6_swap (va_wsS RX6 35 yX6_in wsX6_in) := goodIn_app (goodIn_of _ (by decide +kernel)) ggX6_swap_X6_in
set_option maxRecDepth 20000 in
theorem ggX6_swap_X6_save : GoodIn wsX6_swap wsX6_save := goodIn_r _ [25, 26, 27, 2, 28, 29, 30, 31, 32, 33, 34, 35, 36, 37, 38, 39, 40, 41, 42, 43] (by decide +kernel) (by decide +kernel)
set_option maxRecDepth 20000 in
theorem gX6_swap_X6_save : GoodIn wsX6_swap (wsV RX6 53 RX6 yX6_save wsX6_save) := goodIn_app (goodIn_of _ (by decide +kernel)) ggX6_swap_X6_save
set_option maxRecDepth 20000 in
theorem ggX6_swap_X6_brandAt : GoodIn wsX6_swap wsX6_brandAt := goodIn_r _ [21] (by decide +kernel) (by decide +kernel)
set_option maxRecDepth 20000 in
theorem gX6_swap_X6_brandAt : GoodIn wsX6_swap (va_wsS RX6 39 yX6_brandAt wsX6_brandAt) := goodIn_app (goodIn_of _ (by decide +kernel)) ggX6_swap_X6_brandAt
theorem dX6_swap_0 : decode cX6_swap 0 = .ok (.aload_n 0, 1) := by decide +kernel
theorem dX6_swap_1 : decode cX6_swap 1 = .ok (.iconst 0, 1) := by decide +kernel
theorem dX6_swap_2 : decode cX6_swap 2 = .ok (.putfield 28, 3) := by decide +kernel
theorem dX6_swap_5 : decode cX6_swap 5 = .ok (.aload_n 0, 1) := by decide +kernel
theorem dX6_swap_6 : decode cX6_swap 6 = .ok (.iload_n 1, 1) := by decide +kernel
theorem dX6_swap_7 : decode cX6_swap 7 = .ok (.invokevirtual 85, 3) := by decide +kernel
theorem dX6_swap_10 : decode cX6_swap 10 = .ok (.ifCond .eq 11, 3) := by decide +kernel
theorem dX6_swap_13 : decode cX6_swap 13 = .ok (.aload_n 0, 1) := by decide +kernel
theorem dX6_swap_14 : decode cX6_swap 14 = .ok (.iload_n 2, 1) := by decide +kernel
theorem dX6_swap_15 : decode cX6_swap 15 = .ok (.invokevirtual 85, 3) := by decide +kernel
theorem dX6_swap_18 : decode cX6_swap 18 = .ok (.ifCond .ne 9, 3) := by decide +kernel
theorem dX6_swap_21 : decode cX6_swap 21 = .ok (.aload_n 0, 1) := by decide +kernel
theorem dX6_swap_22 : decode cX6_swap 22 = .ok (.iconst 1, 1) := by decide +kernel
theorem dX6_swap_23 : decode cX6_swap 23 = .ok (.invokevirtual 49, 3) := by decide +kernel
theorem dX6_swap_26 : decode cX6_swap 26 = .ok (.ireturn, 1) := by decide +kernel
theorem dX6_swap_27 : decode cX6_swap 27 = .ok (.iload_n 1, 1) := by decide +kernel
theorem dX6_swap_28 : decode cX6_swap 28 = .ok (.iload_n 2, 1) := by decide +kernel
theorem dX6_swap_29 : decode cX6_swap 29 = .ok (.if_icmp .eq 29, 3) := by decide +kernel
theorem dX6_swap_32 : decode cX6_swap 32 = .ok (.aload_n 0, 1) := by decide +kernel
theorem dX6_swap_33 : decode cX6_swap 33 = .ok (.iload_n 1, 1) := by decide +kernel
theorem dX6_swap_34 : decode cX6_swap 34 = .ok (.iconst 0, 1) := by decide +kernel
theorem dX6_swap_35 : decode cX6_swap 35 = .ok (.invokevirtual 46, 3) := by decide +kernel
theorem dX6_swap_38 : decode cX6_swap 38 = .ok (.aload_n 0, 1) := by decide +kernel
theorem dX6_swap_39 : decode cX6_swap 39 = .ok (.iload_n 2, 1) := by decide +kernel
theorem dX6_swap_40 : decode cX6_swap 40 = .ok (.iconst 0, 1) := by decide +kernel
theorem dX6_swap_41 : decode cX6_swap 41 = .ok (.invokevirtual 46, 3) := by decide +kernel
theorem dX6_swap_44 : decode cX6_swap 44 = .ok (.if_icmp .ne 14, 3) := by decide +kernel
theorem dX6_swap_47 : decode cX6_swap 47 = .ok (.iload_n 3, 1) := by decide +kernel
theorem dX6_swap_48 : decode cX6_swap 48 = .ok (.iconst 1, 1) := by decide +kernel
theorem dX6_swap_49 : decode cX6_swap 49 = .ok (.sipush 5000, 3) := by decide +kernel
theorem dX6_swap_52 : decode cX6_swap 52 = .ok (.invokestatic 35, 3) := by decide +kernel
theorem dX6_swap_55 : decode cX6_swap 55 = .ok (.ifCond .ne 9, 3) := by decide +kernel
theorem dX6_swap_58 : decode cX6_swap 58 = .ok (.aload_n 0, 1) := by decide +kernel
theorem dX6_swap_59 : decode cX6_swap 59 = .ok (.iconst 2, 1) := by decide +kernel
theorem dX6_swap_60 : decode cX6_swap 60 = .ok (.invokevirtual 49, 3) := by decide +kernel
theorem dX6_swap_63 : decode cX6_swap 63 = .ok (.ireturn, 1) := by decide +kernel
theorem dX6_swap_64 : decode cX6_swap 64 = .ok (.aload_n 0, 1) := by decide +kernel
theorem dX6_swap_65 : decode cX6_swap 65 = .ok (.iload_n 1, 1) := by decide +kernel
theorem dX6_swap_66 : decode cX6_swap 66 = .ok (.iconst 1, 1) := by decide +kernel
theorem dX6_swap_67 : decode cX6_swap 67 = .ok (.invokevirtual 46, 3) := by decide +kernel
theorem dX6_swap_70 : decode cX6_swap 70 = .ok (.iload_n 3, 1) := by decide +kernel
theorem dX6_swap_71 : decode cX6_swap 71 = .ok (.if_icmp .ge 9, 3) := by decide +kernel
theorem dX6_swap_74 : decode cX6_swap 74 = .ok (.aload_n 0, 1) := by decide +kernel
theorem dX6_swap_75 : decode cX6_swap 75 = .ok (.iconst 3, 1) := by decide +kernel
theorem dX6_swap_76 : decode cX6_swap 76 = .ok (.invokevirtual 49, 3) := by decide +kernel
theorem dX6_swap_79 : decode cX6_swap 79 = .ok (.ireturn, 1) := by decide +kernel
theorem dX6_swap_80 : decode cX6_swap 80 = .ok (.aload_n 0, 1) := by decide +kernel
theorem dX6_swap_81 : decode cX6_swap 81 = .ok (.invokevirtual 53, 3) := by decide +kernel
theorem dX6_swap_84 : decode cX6_swap 84 = .ok (.aload_n 0, 1) := by decide +kernel
theorem dX6_swap_85 : decode cX6_swap 85 = .ok (.getfield 7, 3) := by decide +kernel
theorem dX6_swap_88 : decode cX6_swap 88 = .ok (.iload_n 1, 1) := by decide +kernel
theorem dX6_swap_89 : decode cX6_swap 89 = .ok (.iconst 1, 1) := by decide +kernel
theorem dX6_swap_90 : decode cX6_swap 90 = .ok (.invokestatic 39, 3) := by decide +kernel
theorem dX6_swap_93 : decode cX6_swap 93 = .ok (.dup2, 1) := by decide +kernel
theorem dX6_swap_94 : decode cX6_swap 94 = .ok (.iaload, 1) := by decide +kernel
theorem dX6_swap_95 : decode cX6_swap 95 = .ok (.iload_n 3, 1) := by decide +kernel
theorem dX6_swap_96 : decode cX6_swap 96 = .ok (.isub, 1) := by decide +kernel
theorem dX6_swap_97 : decode cX6_swap 97 = .ok (.iastore, 1) := by decide +kernel
theorem dX6_swap_98 : decode cX6_swap 98 = .ok (.aload_n 0, 1) := by decide +kernel
theorem dX6_swap_99 : decode cX6_swap 99 = .ok (.getfield 7, 3) := by decide +kernel
theorem dX6_swap_102 : decode cX6_swap 102 = .ok (.iload_n 2, 1) := by decide +kernel
theorem dX6_swap_103 : decode cX6_swap 103 = .ok (.iconst 1, 1) := by decide +kernel
theorem dX6_swap_104 : decode cX6_swap 104 = .ok (.invokestatic 39, 3) := by decide +kernel
theorem dX6_swap_107 : decode cX6_swap 107 = .ok (.dup2, 1) := by decide +kernel
theorem dX6_swap_108 : decode cX6_swap 108 = .ok (.iaload, 1) := by decide +kernel
theorem dX6_swap_109 : decode cX6_swap 109 = .ok (.iload_n 3, 1) := by decide +kernel
theorem dX6_swap_110 : decode cX6_swap 110 = .ok (.iadd, 1) := by decide +kernel
theorem dX6_swap_111 : decode cX6_swap 111 = .ok (.iastore, 1) := by decide +kernel
theorem dX6_swap_112 : decode cX6_swap 112 = .ok (.aload_n 0, 1) := by decide +kernel
theorem dX6_swap_113 : decode cX6_swap 113 = .ok (.getfield 7, 3) := by decide +kernel
theorem dX6_swap_116 : decode cX6_swap 116 = .ok (.iload_n 1, 1) := by decide +kernel
theorem dX6_swap_117 : decode cX6_swap 117 = .ok (.bipush 9, 2) := by decide +kernel
theorem dX6_swap_119 : decode cX6_swap 119 = .ok (.invokestatic 39, 3) := by decide +kernel
theorem dX6_swap_122 : decode cX6_swap 122 = .ok (.dup2, 1) := by decide +kernel
theorem dX6_swap_123 : decode cX6_swap 123 = .ok (.iaload, 1) := by decide +kernel
theorem dX6_swap_124 : decode cX6_swap 124 = .ok (.iload_n 3, 1) := by decide +kernel
theorem dX6_swap_125 : decode cX6_swap 125 = .ok (.iadd, 1) := by decide +kernel
theorem dX6_swap_126 : decode cX6_swap 126 = .ok (.iastore, 1) := by decide +kernel
theorem dX6_swap_127 : decode cX6_swap 127 = .ok (.aload_n 0, 1) := by decide +kernel
theorem dX6_swap_128 : decode cX6_swap 128 = .ok (.getfield 7, 3) := by decide +kernel
theorem dX6_swap_131 : decode cX6_swap 131 = .ok (.iload_n 2, 1) := by decide +kernel
theorem dX6_swap_132 : decode cX6_swap 132 = .ok (.bipush 9, 2) := by decide +kernel
theorem dX6_swap_134 : decode cX6_swap 134 = .ok (.invokestatic 39, 3) := by decide +kernel
theorem dX6_swap_137 : decode cX6_swap 137 = .ok (.dup2, 1) := by decide +kernel
theorem dX6_swap_138 : decode cX6_swap 138 = .ok (.iaload, 1) := by decide +kernel
theorem dX6_swap_139 : decode cX6_swap 139 = .ok (.iload_n 3, 1) := by decide +kernel
theorem dX6_swap_140 : decode cX6_swap 140 = .ok (.isub, 1) := by decide +kernel
theorem dX6_swap_141 : decode cX6_swap 141 = .ok (.iastore, 1) := by decide +kernel
theorem dX6_swap_142 : decode cX6_swap 142 = .ok (.aload_n 0, 1) := by decide +kernel
theorem dX6_swap_143 : decode cX6_swap 143 = .ok (.getfield 7, 3) := by decide +kernel
theorem dX6_swap_146 : decode cX6_swap 146 = .ok (.sipush 219, 3) := by decide +kernel
theorem dX6_swap_149 : decode cX6_swap 149 = .ok (.bipush 8, 2) := by decide +kernel
theorem dX6_swap_151 : decode cX6_swap 151 = .ok (.iload_n 1, 1) := by decide +kernel
theorem dX6_swap_152 : decode cX6_swap 152 = .ok (.imul, 1) := by decide +kernel
theorem dX6_swap_153 : decode cX6_swap 153 = .ok (.iadd, 1) := by decide +kernel
theorem dX6_swap_154 : decode cX6_swap 154 = .ok (.iload_n 2, 1) := by decide +kernel
theorem dX6_swap_155 : decode cX6_swap 155 = .ok (.iadd, 1) := by decide +kernel
theorem dX6_swap_156 : decode cX6_swap 156 = .ok (.dup2, 1) := by decide +kernel
theorem dX6_swap_157 : decode cX6_swap 157 = .ok (.iaload, 1) := by decide +kernel
theorem dX6_swap_158 : decode cX6_swap 158 = .ok (.iload_n 3, 1) := by decide +kernel
theorem dX6_swap_159 : decode cX6_swap 159 = .ok (.iadd, 1) := by decide +kernel
theorem dX6_swap_160 : decode cX6_swap 160 = .ok (.iastore, 1) := by decide +kernel
theorem dX6_swap_161 : decode cX6_swap 161 = .ok (.aload_n 0, 1) := by decide +kernel
theorem dX6_swap_162 : decode cX6_swap 162 = .ok (.getfield 7, 3) := by decide +kernel
theorem dX6_swap_165 : decode cX6_swap 165 = .ok (.sipush 219, 3) := by decide +kernel
theorem dX6_swap_168 : decode cX6_swap 168 = .ok (.bipush 8, 2) := by decide +kernel
theorem dX6_swap_170 : decode cX6_swap 170 = .ok (.iload_n 1, 1) := by decide +kernel
theorem dX6_swap_171 : decode cX6_swap 171 = .ok (.imul, 1) := by decide +kernel
theorem dX6_swap_172 : decode cX6_swap 172 = .ok (.iadd, 1) := by decide +kernel
theorem dX6_swap_173 : decode cX6_swap 173 = .ok (.iload_n 2, 1) := by decide +kernel
theorem dX6_swap_174 : decode cX6_swap 174 = .ok (.iadd, 1) := by decide +kernel
theorem dX6_swap_175 : decode cX6_swap 175 = .ok (.iaload, 1) := by decide +kernel
theorem dX6_swap_176 : decode cX6_swap 176 = .ok (.aload_n 0, 1) := by decide +kernel
theorem dX6_swap_177 : decode cX6_swap 177 = .ok (.getfield 7, 3) := by decide +kernel
theorem dX6_swap_180 : decode cX6_swap 180 = .ok (.sipush 219, 3) := by decide +kernel
theorem dX6_swap_183 : decode cX6_swap 183 = .ok (.bipush 8, 2) := by decide +kernel
theorem dX6_swap_185 : decode cX6_swap 185 = .ok (.iload_n 2, 1) := by decide +kernel
theorem dX6_swap_186 : decode cX6_swap 186 = .ok (.imul, 1) := by decide +kernel
theorem dX6_swap_187 : decode cX6_swap 187 = .ok (.iadd, 1) := by decide +kernel
theorem dX6_swap_188 : decode cX6_swap 188 = .ok (.iload_n 1, 1) := by decide +kernel
theorem dX6_swap_189 : decode cX6_swap 189 = .ok (.iadd, 1) := by decide +kernel
theorem dX6_swap_190 : decode cX6_swap 190 = .ok (.iaload, 1) := by decide +kernel
theorem dX6_swap_191 : decode cX6_swap 191 = .ok (.isub, 1) := by decide +kernel
theorem dX6_swap_192 : decode cX6_swap 192 = .ok (.ireturn, 1) := by decide +kernel
set_option maxRecDepth 20000 in
theorem ggX6_append_X6_in : GoodIn wsX6_append wsX6_in := goodIn_r _ [7] (by decide +kernel) (by decide +kernel)
set_option maxRecDepth 20000 in
theorem gX6_append_X6_in : GoodIn wsX6_append (va_wsS RX6 35 yX6_in wsX6_in) := goodIn_app (goodIn_of _ (by decide +kernel)) ggX6_append_X6_in
set_option maxRecDepth 20000 in
theorem ggX6_append_X6_fails : GoodIn wsX6_append wsX6_fails := goodIn_r _ [11, 1, 12, 13, 14, 15, 16, 17, 18, 19, 20, 21, 22, 23, 24, 25, 26, 27] (by decide +kernel) (by decide +kernel)
set_option maxRecDepth 20000 in
theorem gX6_append_X6_fails : GoodIn wsX6_append (wsV RX6 49 RX6 yX6_fails wsX6_fails) := goodIn_app (goodIn_of _ (by decide +kernel)) ggX6_append_X6_fails
theorem dX6_append_0 : decode cX6_append 0 = .ok (.aload_n 0, 1) := by decide +kernel
theorem dX6_append_1 : decode cX6_append 1 = .ok (.iconst 0, 1) := by decide +kernel
theorem dX6_append_2 : decode cX6_append 2 = .ok (.putfield 28, 3) := by decide +kernel
theorem dX6_append_5 : decode cX6_append 5 = .ok (.iload_n 1, 1) := by decide +kernel
theorem dX6_append_6 : decode cX6_append 6 = .ok (.bipush 33, 2) := by decide +kernel
theorem dX6_append_8 : decode cX6_append 8 = .ok (.bipush 126, 2) := by decide +kernel
theorem dX6_append_10 : decode cX6_append 10 = .ok (.invokestatic 35, 3) := by decide +kernel
theorem dX6_append_13 : decode cX6_append 13 = .ok (.ifCond .ne 9, 3) := by decide +kernel
theorem dX6_append_16 : decode cX6_append 16 = .ok (.aload_n 0, 1) := by decide +kernel
theorem dX6_append_17 : decode cX6_append 17 = .ok (.iconst 1, 1) := by decide +kernel
theorem dX6_append_18 : decode cX6_append 18 = .ok (.invokevirtual 49, 3) := by decide +kernel
theorem dX6_append_21 : decode cX6_append 21 = .ok (.ireturn, 1) := by decide +kernel
theorem dX6_append_22 : decode cX6_append 22 = .ok (.aload_n 0, 1) := by decide +kernel
theorem dX6_append_23 : decode cX6_append 23 = .ok (.getfield 129, 3) := by decide +kernel
theorem dX6_append_26 : decode cX6_append 26 = .ok (.bipush 60, 2) := by decide +kernel
theorem dX6_append_28 : decode cX6_append 28 = .ok (.if_icmp .ne 9, 3) := by decide +kernel
theorem dX6_append_31 : decode cX6_append 31 = .ok (.aload_n 0, 1) := by decide +kernel
theorem dX6_append_32 : decode cX6_append 32 = .ok (.iconst 2, 1) := by decide +kernel
theorem dX6_append_33 : decode cX6_append 33 = .ok (.invokevirtual 49, 3) := by decide +kernel
theorem dX6_append_36 : decode cX6_append 36 = .ok (.ireturn, 1) := by decide +kernel
theorem dX6_append_37 : decode cX6_append 37 = .ok (.aload_n 0, 1) := by decide +kernel
theorem dX6_append_38 : decode cX6_append 38 = .ok (.getfield 19, 3) := by decide +kernel
theorem dX6_append_41 : decode cX6_append 41 = .ok (.aload_n 0, 1) := by decide +kernel
theorem dX6_append_42 : decode cX6_append 42 = .ok (.getfield 129, 3) := by decide +kernel
theorem dX6_append_45 : decode cX6_append 45 = .ok (.iload_n 1, 1) := by decide +kernel
theorem dX6_append_46 : decode cX6_append 46 = .ok (.iastore, 1) := by decide +kernel
theorem dX6_append_47 : decode cX6_append 47 = .ok (.aload_n 0, 1) := by decide +kernel
theorem dX6_append_48 : decode cX6_append 48 = .ok (.dup, 1) := by decide +kernel
theorem dX6_append_49 : decode cX6_append 49 = .ok (.getfield 129, 3) := by decide +kernel
theorem dX6_append_52 : decode cX6_append 52 = .ok (.iconst 1, 1) := by decide +kernel
theorem dX6_append_53 : decode cX6_append 53 = .ok (.iadd, 1) := by decide +kernel
theorem dX6_append_54 : decode cX6_append 54 = .ok (.putfield 129, 3) := by decide +kernel
theorem dX6_append_57 : decode cX6_append 57 = .ok (.aload_n 0, 1) := by decide +kernel
theorem dX6_append_58 : decode cX6_append 58 = .ok (.getfield 129, 3) := by decide +kernel
theorem dX6_append_61 : decode cX6_append 61 = .ok (.ireturn, 1) := by decide +kernel
theorem dX6_clearBuffer_0 : decode cX6_clearBuffer 0 = .ok (.aload_n 0, 1) := by decide +kernel
theorem dX6_clearBuffer_1 : decode cX6_clearBuffer 1 = .ok (.iconst 0, 1) := by decide +kernel
theorem dX6_clearBuffer_2 : decode cX6_clearBuffer 2 = .ok (.putfield 28, 3) := by decide +kernel
theorem dX6_clearBuffer_5 : decode cX6_clearBuffer 5 = .ok (.aload_n 0, 1) := by decide +kernel
theorem dX6_clearBuffer_6 : decode cX6_clearBuffer 6 = .ok (.getfield 129, 3) := by decide +kernel
theorem dX6_clearBuffer_9 : decode cX6_clearBuffer 9 = .ok (.istore_n 1, 1) := by decide +kernel
theorem dX6_clearBuffer_10 : decode cX6_clearBuffer 10 = .ok (.aload_n 0, 1) := by decide +kernel
theorem dX6_clearBuffer_11 : decode cX6_clearBuffer 11 = .ok (.iconst 0, 1) := by decide +kernel
theorem dX6_clearBuffer_12 : decode cX6_clearBuffer 12 = .ok (.putfield 129, 3) := by decide +kernel
theorem dX6_clearBuffer_15 : decode cX6_clearBuffer 15 = .ok (.iload_n 1, 1) := by decide +kernel
theorem dX6_clearBuffer_16 : decode cX6_clearBuffer 16 = .ok (.ireturn, 1) := by decide +kernel
theorem dX6_sign_0 : decode cX6_sign 0 = .ok (.aload_n 0, 1) := by decide +kernel
theorem dX6_sign_1 : decode cX6_sign 1 = .ok (.getfield 132, 3) := by decide +kernel
theorem dX6_sign_4 : decode cX6_sign 4 = .ok (.aload_n 0, 1) := by decide +kernel
theorem dX6_sign_5 : decode cX6_sign 5 = .ok (.getfield 129, 3) := by decide +kernel
theorem dX6_sign_8 : decode cX6_sign 8 = .ok (.if_icmp .ge 20, 3) := by decide +kernel
theorem dX6_sign_11 : decode cX6_sign 11 = .ok (.aload_n 0, 1) := by decide +kernel
theorem dX6_sign_12 : decode cX6_sign 12 = .ok (.getfield 19, 3) := by decide +kernel
theorem dX6_sign_15 : decode cX6_sign 15 = .ok (.aload_n 0, 1) := by decide +kernel
theorem dX6_sign_16 : decode cX6_sign 16 = .ok (.getfield 132, 3) := by decide +kernel
theorem dX6_sign_19 : decode cX6_sign 19 = .ok (.iaload, 1) := by decide +kernel
theorem dX6_sign_20 : decode cX6_sign 20 = .ok (.iload_n 1, 1) := by decide +kernel
theorem dX6_sign_21 : decode cX6_sign 21 = .ok (.if_icmp .ne 7, 3) := by decide +kernel
theorem dX6_sign_24 : decode cX6_sign 24 = .ok (.iconst 1, 1) := by decide +kernel
theorem dX6_sign_25 : decode cX6_sign 25 = .ok (.goto 4, 3) := by decide +kernel
theorem dX6_sign_28 : decode cX6_sign 28 = .ok (.iconst 0, 1) := by decide +kernel
theorem dX6_sign_29 : decode cX6_sign 29 = .ok (.istore_n 2, 1) := by decide +kernel
theorem dX6_sign_30 : decode cX6_sign 30 = .ok (.aload_n 0, 1) := by decide +kernel
theorem dX6_sign_31 : decode cX6_sign 31 = .ok (.dup, 1) := by decide +kernel
theorem dX6_sign_32 : decode cX6_sign 32 = .ok (.getfield 132, 3) := by decide +kernel
theorem dX6_sign_35 : decode cX6_sign 35 = .ok (.iload_n 2, 1) := by decide +kernel
theorem dX6_sign_36 : decode cX6_sign 36 = .ok (.ifCond .eq 7, 3) := by decide +kernel
theorem dX6_sign_39 : decode cX6_sign 39 = .ok (.iconst 1, 1) := by decide +kernel
theorem dX6_sign_40 : decode cX6_sign 40 = .ok (.goto 4, 3) := by decide +kernel
theorem dX6_sign_43 : decode cX6_sign 43 = .ok (.iconst 0, 1) := by decide +kernel
theorem dX6_sign_44 : decode cX6_sign 44 = .ok (.iadd, 1) := by decide +kernel
theorem dX6_sign_45 : decode cX6_sign 45 = .ok (.putfield 132, 3) := by decide +kernel
theorem dX6_sign_48 : decode cX6_sign 48 = .ok (.iload_n 2, 1) := by decide +kernel
theorem dX6_sign_49 : decode cX6_sign 49 = .ok (.ireturn, 1) := by decide +kernel
set_option maxRecDepth 20000 in
theorem ggX6_digitTo_X6_in : GoodIn wsX6_digitTo wsX6_in := goodIn_r _ [8] (by decide +kernel) (by decide +kernel)
set_option maxRecDepth 20000 in
theorem gX6_digitTo_X6_in : GoodIn wsX6_digitTo (va_wsS RX6 35 yX6_in wsX6_in) := goodIn_app (goodIn_of _ (by decide +kernel)) ggX6_digitTo_X6_in
theorem dX6_digitTo_0 : decode cX6_digitTo 0 = .ok (.aload_n 0, 1) := by decide +kernel
theorem dX6_digitTo_1 : decode cX6_digitTo 1 = .ok (.aload_n 0, 1) := by decide +kernel
theorem dX6_digitTo_2 : decode cX6_digitTo 2 = .ok (.getfield 132, 3) := by decide +kernel
theorem dX6_digitTo_5 : decode cX6_digitTo 5 = .ok (.aload_n 0, 1) := by decide +kernel
theorem dX6_digitTo_6 : decode cX6_digitTo 6 = .ok (.getfield 129, 3) := by decide +kernel
theorem dX6_digitTo_9 : decode cX6_digitTo 9 = .ok (.if_icmp .ge 18, 3) := by decide +kernel
theorem dX6_digitTo_12 : decode cX6_digitTo 12 = .ok (.aload_n 0, 1) := by decide +kernel
theorem dX6_digitTo_13 : decode cX6_digitTo 13 = .ok (.getfield 19, 3) := by decide +kernel
theorem dX6_digitTo_16 : decode cX6_digitTo 16 = .ok (.aload_n 0, 1) := by decide +kernel
theorem dX6_digitTo_17 : decode cX6_digitTo 17 = .ok (.getfield 132, 3) := by decide +kernel
theorem dX6_digitTo_20 : decode cX6_digitTo 20 = .ok (.iaload, 1) := by decide +kernel
theorem dX6_digitTo_21 : decode cX6_digitTo 21 = .ok (.bipush 48, 2) := by decide +kernel
theorem dX6_digitTo_23 : decode cX6_digitTo 23 = .ok (.isub, 1) := by decide +kernel
theorem dX6_digitTo_24 : decode cX6_digitTo 24 = .ok (.goto 4, 3) := by decide +kernel
theorem dX6_digitTo_27 : decode cX6_digitTo 27 = .ok (.iconst (-1), 1) := by decide +kernel
theorem dX6_digitTo_28 : decode cX6_digitTo 28 = .ok (.putfield 135, 3) := by decide +kernel
theorem dX6_digitTo_31 : decode cX6_digitTo 31 = .ok (.aload_n 0, 1) := by decide +kernel
theorem dX6_digitTo_32 : decode cX6_digitTo 32 = .ok (.getfield 135, 3) := by decide +kernel
theorem dX6_digitTo_35 : decode cX6_digitTo 35 = .ok (.iconst 0, 1) := by decide +kernel
theorem dX6_digitTo_36 : decode cX6_digitTo 36 = .ok (.iload_n 1, 1) := by decide +kernel
theorem dX6_digitTo_37 : decode cX6_digitTo 37 = .ok (.invokestatic 35, 3) := by decide +kernel
theorem dX6_digitTo_40 : decode cX6_digitTo 40 = .ok (.istore_n 2, 1) := by decide +kernel
theorem dX6_digitTo_41 : decode cX6_digitTo 41 = .ok (.aload_n 0, 1) := by decide +kernel
theorem dX6_digitTo_42 : decode cX6_digitTo 42 = .ok (.dup, 1) := by decide +kernel
theorem dX6_digitTo_43 : decode cX6_digitTo 43 = .ok (.getfield 132, 3) := by decide +kernel
theorem dX6_digitTo_46 : decode cX6_digitTo 46 = .ok (.iload_n 2, 1) := by decide +kernel
theorem dX6_digitTo_47 : decode cX6_digitTo 47 = .ok (.ifCond .eq 7, 3) := by decide +kernel
theorem dX6_digitTo_50 : decode cX6_digitTo 50 = .ok (.iconst 1, 1) := by decide +kernel
theorem dX6_digitTo_51 : decode cX6_digitTo 51 = .ok (.goto 4, 3) := by decide +kernel
theorem dX6_digitTo_54 : decode cX6_digitTo 54 = .ok (.iconst 0, 1) := by decide +kernel
theorem dX6_digitTo_55 : decode cX6_digitTo 55 = .ok (.iadd, 1) := by decide +kernel
theorem dX6_digitTo_56 : decode cX6_digitTo 56 = .ok (.putfield 132, 3) := by decide +kernel
theorem dX6_digitTo_59 : decode cX6_digitTo 59 = .ok (.iload_n 2, 1) := by decide +kernel
theorem dX6_digitTo_60 : decode cX6_digitTo 60 = .ok (.ireturn, 1) := by decide +kernel
set_option maxRecDepth 20000 in
theorem ggX6_readNumber_X6_in : GoodIn wsX6_readNumber wsX6_in := goodIn_r _ [8] (by decide +kernel) (by decide +kernel)
set_option maxRecDepth 20000 in
theorem gX6_readNumber_X6_in : GoodIn wsX6_readNumber (va_wsS RX6 35 yX6_in wsX6_in) := goodIn_app (goodIn_of _ (by decide +kernel)) ggX6_readNumber_X6_in
theorem dX6_readNumber_0 : decode cX6_readNumber 0 = .ok (.aload_n 0, 1) := by decide +kernel
theorem dX6_readNumber_1 : decode cX6_readNumber 1 = .ok (.iconst 0, 1) := by decide +kernel
theorem dX6_readNumber_2 : decode cX6_readNumber 2 = .ok (.putfield 138, 3) := by decide +kernel
theorem dX6_readNumber_5 : decode cX6_readNumber 5 = .ok (.aload_n 0, 1) := by decide +kernel
theorem dX6_readNumber_6 : decode cX6_readNumber 6 = .ok (.getfield 132, 3) := by decide +kernel
theorem dX6_readNumber_9 : decode cX6_readNumber 9 = .ok (.aload_n 0, 1) := by decide +kernel
theorem dX6_readNumber_10 : decode cX6_readNumber 10 = .ok (.getfield 129, 3) := by decide +kernel
theorem dX6_readNumber_13 : decode cX6_readNumber 13 = .ok (.if_icmp .ge 95, 3) := by decide +kernel
theorem dX6_readNumber_16 : decode cX6_readNumber 16 = .ok (.aload_n 0, 1) := by decide +kernel
theorem dX6_readNumber_17 : decode cX6_readNumber 17 = .ok (.getfield 19, 3) := by decide +kernel
theorem dX6_readNumber_20 : decode cX6_readNumber 20 = .ok (.aload_n 0, 1) := by decide +kernel
theorem dX6_readNumber_21 : decode cX6_readNumber 21 = .ok (.getfield 132, 3) := by decide +kernel
theorem dX6_readNumber_24 : decode cX6_readNumber 24 = .ok (.iaload, 1) := by decide +kernel
theorem dX6_readNumber_25 : decode cX6_readNumber 25 = .ok (.aload_n 0, 1) := by decide +kernel
theorem dX6_readNumber_26 : decode cX6_readNumber 26 = .ok (.getfield 138, 3) := by decide +kernel
theorem dX6_readNumber_29 : decode cX6_readNumber 29 = .ok (.ifCond .ne 8, 3) := by decide +kernel
theorem dX6_readNumber_32 : decode cX6_readNumber 32 = .ok (.bipush 49, 2) := by decide +kernel
theorem dX6_readNumber_34 : decode cX6_readNumber 34 = .ok (.goto 5, 3) := by decide +kernel
theorem dX6_readNumber_37 : decode cX6_readNumber 37 = .ok (.bipush 48, 2) := by decide +kernel
theorem dX6_readNumber_39 : decode cX6_readNumber 39 = .ok (.bipush 57, 2) := by decide +kernel
theorem dX6_readNumber_41 : decode cX6_readNumber 41 = .ok (.invokestatic 35, 3) := by decide +kernel
theorem dX6_readNumber_44 : decode cX6_readNumber 44 = .ok (.ifCond .eq 64, 3) := by decide +kernel
theorem dX6_readNumber_47 : decode cX6_readNumber 47 = .ok (.bipush 10, 2) := by decide +kernel
theorem dX6_readNumber_49 : decode cX6_readNumber 49 = .ok (.aload_n 0, 1) := by decide +kernel
theorem dX6_readNumber_50 : decode cX6_readNumber 50 = .ok (.getfield 138, 3) := by decide +kernel
theorem dX6_readNumber_53 : decode cX6_readNumber 53 = .ok (.imul, 1) := by decide +kernel
theorem dX6_readNumber_54 : decode cX6_readNumber 54 = .ok (.aload_n 0, 1) := by decide +kernel
theorem dX6_readNumber_55 : decode cX6_readNumber 55 = .ok (.getfield 19, 3) := by decide +kernel
theorem dX6_readNumber_58 : decode cX6_readNumber 58 = .ok (.aload_n 0, 1) := by decide +kernel
theorem dX6_readNumber_59 : decode cX6_readNumber 59 = .ok (.getfield 132, 3) := by decide +kernel
theorem dX6_readNumber_62 : decode cX6_readNumber 62 = .ok (.iaload, 1) := by decide +kernel
theorem dX6_readNumber_63 : decode cX6_readNumber 63 = .ok (.iadd, 1) := by decide +kernel
theorem dX6_readNumber_64 : decode cX6_readNumber 64 = .ok (.bipush 48, 2) := by decide +kernel
theorem dX6_readNumber_66 : decode cX6_readNumber 66 = .ok (.isub, 1) := by decide +kernel
theorem dX6_readNumber_67 : decode cX6_readNumber 67 = .ok (.iload_n 1, 1) := by decide +kernel
theorem dX6_readNumber_68 : decode cX6_readNumber 68 = .ok (.if_icmp .gt 40, 3) := by decide +kernel
theorem dX6_readNumber_71 : decode cX6_readNumber 71 = .ok (.aload_n 0, 1) := by decide +kernel
theorem dX6_readNumber_72 : decode cX6_readNumber 72 = .ok (.bipush 10, 2) := by decide +kernel
theorem dX6_readNumber_74 : decode cX6_readNumber 74 = .ok (.aload_n 0, 1) := by decide +kernel
theorem dX6_readNumber_75 : decode cX6_readNumber 75 = .ok (.getfield 138, 3) := by decide +kernel
theorem dX6_readNumber_78 : decode cX6_readNumber 78 = .ok (.imul, 1) := by decide +kernel
theorem dX6_readNumber_79 : decode cX6_readNumber 79 = .ok (.aload_n 0, 1) := by decide +kernel
theorem dX6_readNumber_80 : decode cX6_readNumber 80 = .ok (.getfield 19, 3) := by decide +kernel
theorem dX6_readNumber_83 : decode cX6_readNumber 83 = .ok (.aload_n 0, 1) := by decide +kernel
theorem dX6_readNumber_84 : decode cX6_readNumber 84 = .ok (.getfield 132, 3) := by decide +kernel
theorem dX6_readNumber_87 : decode cX6_readNumber 87 = .ok (.iaload, 1) := by decide +kernel
theorem dX6_readNumber_88 : decode cX6_readNumber 88 = .ok (.iadd, 1) := by decide +kernel
theorem dX6_readNumber_89 : decode cX6_readNumber 89 = .ok (.bipush 48, 2) := by decide +kernel
theorem dX6_readNumber_91 : decode cX6_readNumber 91 = .ok (.isub, 1) := by decide +kernel
theorem dX6_readNumber_92 : decode cX6_readNumber 92 = .ok (.putfield 138, 3) := by decide +kernel
theorem dX6_readNumber_95 : decode cX6_readNumber 95 = .ok (.aload_n 0, 1) := by decide +kernel
theorem dX6_readNumber_96 : decode cX6_readNumber 96 = .ok (.dup, 1) := by decide +kernel
theorem dX6_readNumber_97 : decode cX6_readNumber 97 = .ok (.getfield 132, 3) := by decide +kernel
theorem dX6_readNumber_100 : decode cX6_readNumber 100 = .ok (.iconst 1, 1) := by decide +kernel
theorem dX6_readNumber_101 : decode cX6_readNumber 101 = .ok (.iadd, 1) := by decide +kernel
theorem dX6_readNumber_102 : decode cX6_readNumber 102 = .ok (.putfield 132, 3) := by decide +kernel
theorem dX6_readNumber_105 : decode cX6_readNumber 105 = .ok (.goto (-100), 3) := by decide +kernel
theorem dX6_readNumber_108 : decode cX6_readNumber 108 = .ok (.aload_n 0, 1) := by decide +kernel
theorem dX6_readNumber_109 : decode cX6_readNumber 109 = .ok (.getfield 138, 3) := by decide +kernel
theorem dX6_readNumber_112 : decode cX6_readNumber 112 = .ok (.ifCond .le 7, 3) := by decide +kernel
theorem dX6_readNumber_115 : decode cX6_readNumber 115 = .ok (.iconst 1, 1) := by decide +kernel
theorem dX6_readNumber_116 : decode cX6_readNumber 116 = .ok (.goto 4, 3) := by decide +kernel
theorem dX6_readNumber_119 : decode cX6_readNumber 119 = .ok (.iconst 0, 1) := by decide +kernel
theorem dX6_readNumber_120 : decode cX6_readNumber 120 = .ok (.ireturn, 1) := by decide +kernel
set_option maxRecDepth 20000 in
theorem ggX6_readOrder_X6_digitTo : GoodIn wsX6_readOrder wsX6_digitTo := goodIn_r _ [13, 2, 3, 4, 6, 14, 15, 12, 16, 26, 27, 28, 29, 30, 31, 32, 33, 34, 35, 36, 37, 38, 39, 40, 41] (by decide +kernel) (by decide +kernel)
set_option maxRecDepth 20000 in
theorem gX6_readOrder_X6_digitTo : GoodIn wsX6_readOrder (wsV RX6 148 RX6 yX6_digitTo wsX6_digitTo) := goodIn_app (goodIn_of _ (by decide +kernel)) ggX6_readOrder_X6_digitTo
set_option maxRecDepth 20000 in
theorem ggX6_readOrder_X6_sign : GoodIn wsX6_readOrder wsX6_sign := goodIn_r _ [20, 2, 3, 4, 26, 27, 28, 29, 30, 31, 32, 33, 34, 35, 36, 37, 38, 39, 40, 41] (by decide +kernel) (by decide +kernel)
set_option maxRecDepth 20000 in
theorem gX6_readOrder_X6_sign : GoodIn wsX6_readOrder (wsV RX6 154 RX6 yX6_sign wsX6_sign) := goodIn_app (goodIn_of _ (by decide +kernel)) ggX6_readOrder_X6_sign
set_option maxRecDepth 20000 in
theorem ggX6_readOrder_X6_readNumber : GoodIn wsX6_readOrder wsX6_readNumber := goodIn_r _ [24, 25, 2, 3, 4, 14, 15, 12, 16, 26, 27, 28, 29, 30, 31, 32, 33, 34, 35, 36, 37, 38, 39, 40, 41] (by decide +kernel) (by decide +kernel)
set_option maxRecDepth 20000 in
theorem gX6_readOrder_X6_readNumber : GoodIn wsX6_readOrder (wsV RX6 160 RX6 yX6_readNumber wsX6_readNumber) := goodIn_app (goodIn_of _ (by decide +kernel)) ggX6_readOrder_X6_readNumber
theorem dX6_readOrder_0 : decode cX6_readOrder 0 = .ok (.aload_n 0, 1) := by decide +kernel
theorem dX6_readOrder_1 : decode cX6_readOrder 1 = .ok (.iconst 0, 1) := by decide +kernel
theorem dX6_readOrder_2 : decode cX6_readOrder 2 = .ok (.putfield 141, 3) := by decide +kernel
theorem dX6_readOrder_5 : decode cX6_readOrder 5 = .ok (.aload_n 0, 1) := by decide +kernel
theorem dX6_readOrder_6 : decode cX6_readOrder 6 = .ok (.aload_n 0, 1) := by decide +kernel
theorem dX6_readOrder_7 : decode cX6_readOrder 7 = .ok (.getfield 132, 3) := by decide +kernel
theorem dX6_readOrder_10 : decode cX6_readOrder 10 = .ok (.aload_n 0, 1) := by decide +kernel
theorem dX6_readOrder_11 : decode cX6_readOrder 11 = .ok (.getfield 129, 3) := by decide +kernel
theorem dX6_readOrder_14 : decode cX6_readOrder 14 = .ok (.if_icmp .ge 15, 3) := by decide +kernel
theorem dX6_readOrder_17 : decode cX6_readOrder 17 = .ok (.aload_n 0, 1) := by decide +kernel
theorem dX6_readOrder_18 : decode cX6_readOrder 18 = .ok (.getfield 19, 3) := by decide +kernel
theorem dX6_readOrder_21 : decode cX6_readOrder 21 = .ok (.aload_n 0, 1) := by decide +kernel
theorem dX6_readOrder_22 : decode cX6_readOrder 22 = .ok (.getfield 132, 3) := by decide +kernel
theorem dX6_readOrder_25 : decode cX6_readOrder 25 = .ok (.iaload, 1) := by decide +kernel
theorem dX6_readOrder_26 : decode cX6_readOrder 26 = .ok (.goto 4, 3) := by decide +kernel
theorem dX6_readOrder_29 : decode cX6_readOrder 29 = .ok (.iconst 0, 1) := by decide +kernel
theorem dX6_readOrder_30 : decode cX6_readOrder 30 = .ok (.putfield 145, 3) := by decide +kernel
theorem dX6_readOrder_33 : decode cX6_readOrder 33 = .ok (.aload_n 0, 1) := by decide +kernel
theorem dX6_readOrder_34 : decode cX6_readOrder 34 = .ok (.getfield 145, 3) := by decide +kernel
theorem dX6_readOrder_37 : decode cX6_readOrder 37 = .ok (.bipush 100, 2) := by decide +kernel
theorem dX6_readOrder_39 : decode cX6_readOrder 39 = .ok (.if_icmp .ne 7, 3) := by decide +kernel
theorem dX6_readOrder_42 : decode cX6_readOrder 42 = .ok (.iconst 1, 1) := by decide +kernel
theorem dX6_readOrder_43 : decode cX6_readOrder 43 = .ok (.goto 4, 3) := by decide +kernel
theorem dX6_readOrder_46 : decode cX6_readOrder 46 = .ok (.iconst 0, 1) := by decide +kernel
theorem dX6_readOrder_47 : decode cX6_readOrder 47 = .ok (.istore_n 1, 1) := by decide +kernel
theorem dX6_readOrder_48 : decode cX6_readOrder 48 = .ok (.iload_n 1, 1) := by decide +kernel
theorem dX6_readOrder_49 : decode cX6_readOrder 49 = .ok (.ifCond .ne 41, 3) := by decide +kernel
theorem dX6_readOrder_52 : decode cX6_readOrder 52 = .ok (.aload_n 0, 1) := by decide +kernel
theorem dX6_readOrder_53 : decode cX6_readOrder 53 = .ok (.getfield 145, 3) := by decide +kernel
theorem dX6_readOrder_56 : decode cX6_readOrder 56 = .ok (.bipush 115, 2) := by decide +kernel
theorem dX6_readOrder_58 : decode cX6_readOrder 58 = .ok (.if_icmp .eq 32, 3) := by decide +kernel
theorem dX6_readOrder_61 : decode cX6_readOrder 61 = .ok (.aload_n 0, 1) := by decide +kernel
theorem dX6_readOrder_62 : decode cX6_readOrder 62 = .ok (.getfield 145, 3) := by decide +kernel
theorem dX6_readOrder_65 : decode cX6_readOrder 65 = .ok (.bipush 114, 2) := by decide +kernel
theorem dX6_readOrder_67 : decode cX6_readOrder 67 = .ok (.if_icmp .eq 23, 3) := by decide +kernel
theorem dX6_readOrder_70 : decode cX6_readOrder 70 = .ok (.aload_n 0, 1) := by decide +kernel
theorem dX6_readOrder_71 : decode cX6_readOrder 71 = .ok (.getfield 145, 3) := by decide +kernel
theorem dX6_readOrder_74 : decode cX6_readOrder 74 = .ok (.bipush 98, 2) := by decide +kernel
theorem dX6_readOrder_76 : decode cX6_readOrder 76 = .ok (.if_icmp .eq 14, 3) := by decide +kernel
theorem dX6_readOrder_79 : decode cX6_readOrder 79 = .ok (.aload_n 0, 1) := by decide +kernel
theorem dX6_readOrder_80 : decode cX6_readOrder 80 = .ok (.getfield 145, 3) := by decide +kernel
theorem dX6_readOrder_83 : decode cX6_readOrder 83 = .ok (.bipush 99, 2) := by decide +kernel
theorem dX6_readOrder_85 : decode cX6_readOrder 85 = .ok (.if_icmp .eq 5, 3) := by decide +kernel
theorem dX6_readOrder_88 : decode cX6_readOrder 88 = .ok (.iconst 0, 1) := by decide +kernel
theorem dX6_readOrder_89 : decode cX6_readOrder 89 = .ok (.ireturn, 1) := by decide +kernel
theorem dX6_readOrder_90 : decode cX6_readOrder 90 = .ok (.aload_n 0, 1) := by decide +kernel
theorem dX6_readOrder_91 : decode cX6_readOrder 91 = .ok (.dup, 1) := by decide +kernel
theorem dX6_readOrder_92 : decode cX6_readOrder 92 = .ok (.getfield 132, 3) := by decide +kernel
theorem dX6_readOrder_95 : decode cX6_readOrder 95 = .ok (.iconst 1, 1) := by decide +kernel
theorem dX6_readOrder_96 : decode cX6_readOrder 96 = .ok (.iadd, 1) := by decide +kernel
theorem dX6_readOrder_97 : decode cX6_readOrder 97 = .ok (.putfield 132, 3) := by decide +kernel
theorem dX6_readOrder_100 : decode cX6_readOrder 100 = .ok (.aload_n 0, 1) := by decide +kernel
theorem dX6_readOrder_101 : decode cX6_readOrder 101 = .ok (.iload_n 1, 1) := by decide +kernel
theorem dX6_readOrder_102 : decode cX6_readOrder 102 = .ok (.ifCond .eq 8, 3) := by decide +kernel
theorem dX6_readOrder_105 : decode cX6_readOrder 105 = .ok (.bipush 7, 2) := by decide +kernel
theorem dX6_readOrder_107 : decode cX6_readOrder 107 = .ok (.goto 4, 3) := by decide +kernel
theorem dX6_readOrder_110 : decode cX6_readOrder 110 = .ok (.iconst 5, 1) := by decide +kernel
theorem dX6_readOrder_111 : decode cX6_readOrder 111 = .ok (.invokevirtual 148, 3) := by decide +kernel
theorem dX6_readOrder_114 : decode cX6_readOrder 114 = .ok (.istore_n 2, 1) := by decide +kernel
theorem dX6_readOrder_115 : decode cX6_readOrder 115 = .ok (.aload_n 0, 1) := by decide +kernel
theorem dX6_readOrder_116 : decode cX6_readOrder 116 = .ok (.aload_n 0, 1) := by decide +kernel
theorem dX6_readOrder_117 : decode cX6_readOrder 117 = .ok (.getfield 135, 3) := by decide +kernel
theorem dX6_readOrder_120 : decode cX6_readOrder 120 = .ok (.putfield 151, 3) := by decide +kernel
theorem dX6_readOrder_123 : decode cX6_readOrder 123 = .ok (.iload_n 2, 1) := by decide +kernel
theorem dX6_readOrder_124 : decode cX6_readOrder 124 = .ok (.ifCond .eq 55, 3) := by decide +kernel
theorem dX6_readOrder_127 : decode cX6_readOrder 127 = .ok (.aload_n 0, 1) := by decide +kernel
theorem dX6_readOrder_128 : decode cX6_readOrder 128 = .ok (.iload_n 1, 1) := by decide +kernel
theorem dX6_readOrder_129 : decode cX6_readOrder 129 = .ok (.ifCond .eq 8, 3) := by decide +kernel
theorem dX6_readOrder_132 : decode cX6_readOrder 132 = .ok (.bipush 62, 2) := by decide +kernel
theorem dX6_readOrder_134 : decode cX6_readOrder 134 = .ok (.goto 5, 3) := by decide +kernel
theorem dX6_readOrder_137 : decode cX6_readOrder 137 = .ok (.bipush 58, 2) := by decide +kernel
theorem dX6_readOrder_139 : decode cX6_readOrder 139 = .ok (.invokevirtual 154, 3) := by decide +kernel
theorem dX6_readOrder_142 : decode cX6_readOrder 142 = .ok (.ifCond .eq 37, 3) := by decide +kernel
theorem dX6_readOrder_145 : decode cX6_readOrder 145 = .ok (.aload_n 0, 1) := by decide +kernel
theorem dX6_readOrder_146 : decode cX6_readOrder 146 = .ok (.iload_n 1, 1) := by decide +kernel
theorem dX6_readOrder_147 : decode cX6_readOrder 147 = .ok (.ifCond .eq 7, 3) := by decide +kernel
theorem dX6_readOrder_150 : decode cX6_readOrder 150 = .ok (.iconst 5, 1) := by decide +kernel
theorem dX6_readOrder_151 : decode cX6_readOrder 151 = .ok (.goto 18, 3) := by decide +kernel
theorem dX6_readOrder_154 : decode cX6_readOrder 154 = .ok (.aload_n 0, 1) := by decide +kernel
theorem dX6_readOrder_155 : decode cX6_readOrder 155 = .ok (.getfield 145, 3) := by decide +kernel
theorem dX6_readOrder_158 : decode cX6_readOrder 158 = .ok (.bipush 99, 2) := by decide +kernel
theorem dX6_readOrder_160 : decode cX6_readOrder 160 = .ok (.if_icmp .ne 7, 3) := by decide +kernel
theorem dX6_readOrder_163 : decode cX6_readOrder 163 = .ok (.iconst 2, 1) := by decide +kernel
theorem dX6_readOrder_164 : decode cX6_readOrder 164 = .ok (.goto 5, 3) := by decide +kernel
theorem dX6_readOrder_167 : decode cX6_readOrder 167 = .ok (.bipush 7, 2) := by decide +kernel
theorem dX6_readOrder_169 : decode cX6_readOrder 169 = .ok (.invokevirtual 148, 3) := by decide +kernel
theorem dX6_readOrder_172 : decode cX6_readOrder 172 = .ok (.ifCond .eq 7, 3) := by decide +kernel
theorem dX6_readOrder_175 : decode cX6_readOrder 175 = .ok (.iconst 1, 1) := by decide +kernel
theorem dX6_readOrder_176 : decode cX6_readOrder 176 = .ok (.goto 4, 3) := by decide +kernel
theorem dX6_readOrder_179 : decode cX6_readOrder 179 = .ok (.iconst 0, 1) := by decide +kernel
theorem dX6_readOrder_180 : decode cX6_readOrder 180 = .ok (.istore_n 2, 1) := by decide +kernel
theorem dX6_readOrder_181 : decode cX6_readOrder 181 = .ok (.aload_n 0, 1) := by decide +kernel
theorem dX6_readOrder_182 : decode cX6_readOrder 182 = .ok (.aload_n 0, 1) := by decide +kernel
theorem dX6_readOrder_183 : decode cX6_readOrder 183 = .ok (.getfield 135, 3) := by decide +kernel
theorem dX6_readOrder_186 : decode cX6_readOrder 186 = .ok (.putfield 157, 3) := by decide +kernel
theorem dX6_readOrder_189 : decode cX6_readOrder 189 = .ok (.aload_n 0, 1) := by decide +kernel
theorem dX6_readOrder_190 : decode cX6_readOrder 190 = .ok (.iload_n 2, 1) := by decide +kernel
theorem dX6_readOrder_191 : decode cX6_readOrder 191 = .ok (.ifCond .eq 44, 3) := by decide +kernel
theorem dX6_readOrder_194 : decode cX6_readOrder 194 = .ok (.aload_n 0, 1) := by decide +kernel
theorem dX6_readOrder_195 : decode cX6_readOrder 195 = .ok (.bipush 42, 2) := by decide +kernel
theorem dX6_readOrder_197 : decode cX6_readOrder 197 = .ok (.invokevirtual 154, 3) := by decide +kernel
theorem dX6_readOrder_200 : decode cX6_readOrder 200 = .ok (.ifCond .eq 35, 3) := by decide +kernel
theorem dX6_readOrder_203 : decode cX6_readOrder 203 = .ok (.aload_n 0, 1) := by decide +kernel
theorem dX6_readOrder_204 : decode cX6_readOrder 204 = .ok (.iload_n 1, 1) := by decide +kernel
theorem dX6_readOrder_205 : decode cX6_readOrder 205 = .ok (.ifCond .ne 12, 3) := by decide +kernel
theorem dX6_readOrder_208 : decode cX6_readOrder 208 = .ok (.aload_n 0, 1) := by decide +kernel
theorem dX6_readOrder_209 : decode cX6_readOrder 209 = .ok (.getfield 145, 3) := by decide +kernel
theorem dX6_readOrder_212 : decode cX6_readOrder 212 = .ok (.bipush 99, 2) := by decide +kernel
theorem dX6_readOrder_214 : decode cX6_readOrder 214 = .ok (.if_icmp .ne 8, 3) := by decide +kernel
theorem dX6_readOrder_217 : decode cX6_readOrder 217 = .ok (.bipush 50, 2) := by decide +kernel
theorem dX6_readOrder_219 : decode cX6_readOrder 219 = .ok (.goto 6, 3) := by decide +kernel
theorem dX6_readOrder_222 : decode cX6_readOrder 222 = .ok (.sipush 500, 3) := by decide +kernel
theorem dX6_readOrder_225 : decode cX6_readOrder 225 = .ok (.invokevirtual 160, 3) := by decide +kernel
theorem dX6_readOrder_228 : decode cX6_readOrder 228 = .ok (.ifCond .eq 7, 3) := by decide +kernel
theorem dX6_readOrder_231 : decode cX6_readOrder 231 = .ok (.iconst 1, 1) := by decide +kernel
theorem dX6_readOrder_232 : decode cX6_readOrder 232 = .ok (.goto 4, 3) := by decide +kernel
theorem dX6_readOrder_235 : decode cX6_readOrder 235 = .ok (.iconst 0, 1) := by decide +kernel
theorem dX6_readOrder_236 : decode cX6_readOrder 236 = .ok (.putfield 141, 3) := by decide +kernel
theorem dX6_readOrder_239 : decode cX6_readOrder 239 = .ok (.aload_n 0, 1) := by decide +kernel
theorem dX6_readOrder_240 : decode cX6_readOrder 240 = .ok (.getfield 141, 3) := by decide +kernel
theorem dX6_readOrder_243 : decode cX6_readOrder 243 = .ok (.ifCond .eq 16, 3) := by decide +kernel
theorem dX6_readOrder_246 : decode cX6_readOrder 246 = .ok (.aload_n 0, 1) := by decide +kernel
theorem dX6_readOrder_247 : decode cX6_readOrder 247 = .ok (.bipush 59, 2) := by decide +kernel
theorem dX6_readOrder_249 : decode cX6_readOrder 249 = .ok (.invokevirtual 154, 3) := by decide +kernel
theorem dX6_readOrder_252 : decode cX6_readOrder 252 = .ok (.ifCond .eq 7, 3) := by decide +kernel
theorem dX6_readOrder_255 : decode cX6_readOrder 255 = .ok (.iconst 1, 1) := by decide +kernel
theorem dX6_readOrder_256 : decode cX6_readOrder 256 = .ok (.goto 4, 3) := by decide +kernel
theorem dX6_readOrder_259 : decode cX6_readOrder 259 = .ok (.iconst 0, 1) := by decide +kernel
theorem dX6_readOrder_260 : decode cX6_readOrder 260 = .ok (.ireturn, 1) := by decide +kernel
set_option maxRecDepth 20000 in
theorem ggX6_reads_X6_readOrder : GoodIn wsX6_reads wsX6_readOrder := goodIn_r _ [6, 7, 1, 8, 9, 10, 11, 12, 13, 14, 15, 16, 5, 17, 18, 19, 20, 21, 22, 23, 24, 25, 26, 27, 28, 29, 30, 31, 32, 33, 34, 35, 36, 37, 38, 39, 40, 41, 42, 43, 44, 45] (by decide +kernel) (by decide +kernel)
set_option maxRecDepth 20000 in
theorem gX6_reads_X6_readOrder : GoodIn wsX6_reads (wsV RX6 163 RX6 yX6_readOrder wsX6_readOrder) := goodIn_app (goodIn_of _ (by decide +kernel)) ggX6_reads_X6_readOrder
theorem dX6_reads_0 : decode cX6_reads 0 = .ok (.aload_n 0, 1) := by decide +kernel
theorem dX6_reads_1 : decode cX6_reads 1 = .ok (.iconst 0, 1) := by decide +kernel
theorem dX6_reads_2 : decode cX6_reads 2 = .ok (.putfield 132, 3) := by decide +kernel
theorem dX6_reads_5 : decode cX6_reads 5 = .ok (.iconst 1, 1) := by decide +kernel
theorem dX6_reads_6 : decode cX6_reads 6 = .ok (.istore_n 1, 1) := by decide +kernel
theorem dX6_reads_7 : decode cX6_reads 7 = .ok (.iload_n 1, 1) := by decide +kernel
theorem dX6_reads_8 : decode cX6_reads 8 = .ok (.ifCond .eq 11, 3) := by decide +kernel
theorem dX6_reads_11 : decode cX6_reads 11 = .ok (.aload_n 0, 1) := by decide +kernel
theorem dX6_reads_12 : decode cX6_reads 12 = .ok (.invokevirtual 163, 3) := by decide +kernel
theorem dX6_reads_15 : decode cX6_reads 15 = .ok (.istore_n 1, 1) := by decide +kernel
theorem dX6_reads_16 : decode cX6_reads 16 = .ok (.goto (-9), 3) := by decide +kernel
theorem dX6_reads_19 : decode cX6_reads 19 = .ok (.aload_n 0, 1) := by decide +kernel
theorem dX6_reads_20 : decode cX6_reads 20 = .ok (.getfield 132, 3) := by decide +kernel
theorem dX6_reads_23 : decode cX6_reads 23 = .ok (.ireturn, 1) := by decide +kernel
set_option maxRecDepth 20000 in
theorem ggX6_firstError_X6_reads : GoodIn wsX6_firstError wsX6_reads := goodIn_r _ [6, 7, 8, 9, 10, 5, 11, 12, 13, 14, 15, 16, 17, 18, 19, 20, 21, 22, 23, 24, 25, 26, 27, 28, 29, 30, 31, 32, 33, 34, 35, 36, 37, 38, 39, 40, 41, 42, 43, 44, 45, 46, 47, 48, 49, 50] (by decide +kernel) (by decide +kernel)
set_option maxRecDepth 20000 in
theorem gX6_firstError_X6_reads : GoodIn wsX6_firstError (wsV RX6 167 RX6 yX6_reads wsX6_reads) := goodIn_app (goodIn_of _ (by decide +kernel)) ggX6_firstError_X6_reads
theorem dX6_firstError_0 : decode cX6_firstError 0 = .ok (.aload_n 0, 1) := by decide +kernel
theorem dX6_firstError_1 : decode cX6_firstError 1 = .ok (.iconst 0, 1) := by decide +kernel
theorem dX6_firstError_2 : decode cX6_firstError 2 = .ok (.putfield 28, 3) := by decide +kernel
theorem dX6_firstError_5 : decode cX6_firstError 5 = .ok (.aload_n 0, 1) := by decide +kernel
theorem dX6_firstError_6 : decode cX6_firstError 6 = .ok (.invokevirtual 167, 3) := by decide +kernel
theorem dX6_firstError_9 : decode cX6_firstError 9 = .ok (.ireturn, 1) := by decide +kernel
set_option maxRecDepth 20000 in
theorem ggX6_againstOrder_X6_isShop : GoodIn wsX6_againstOrder wsX6_isShop := goodIn_r _ [9, 10, 11, 12, 8, 13, 68, 69, 70, 71, 72, 73, 74, 75, 76, 77, 78, 79, 80, 81, 82, 83] (by decide +kernel) (by decide +kernel)
set_option maxRecDepth 20000 in
theorem gX6_againstOrder_X6_isShop : GoodIn wsX6_againstOrder (wsV RX6 92 RX6 yX6_isShop wsX6_isShop) := goodIn_app (goodIn_of _ (by decide +kernel)) ggX6_againstOrder_X6_isShop
set_option maxRecDepth 20000 in
theorem ggX6_againstOrder_X6_isBrand : GoodIn wsX6_againstOrder wsX6_isBrand := goodIn_r _ [17, 10, 11, 12, 8, 13, 68, 69, 70, 71, 72, 73, 74, 75, 76, 77, 78, 79, 80, 81, 82, 83] (by decide +kernel) (by decide +kernel)
set_option maxRecDepth 20000 in
theorem gX6_againstOrder_X6_isBrand : GoodIn wsX6_againstOrder (wsV RX6 85 RX6 yX6_isBrand wsX6_isBrand) := goodIn_app (goodIn_of _ (by decide +kernel)) ggX6_againstOrder_X6_isBrand
set_option maxRecDepth 20000 in
theorem ggX6_againstOrder_X6_againstDeliver : GoodIn wsX6_againstOrder wsX6_againstDeliver := goodIn_r _ [21, 10, 22, 23, 24, 8, 25, 26, 27, 28, 29, 30, 31, 32, 33, 34, 35, 36, 37, 38, 39, 40, 41, 42, 43, 68, 69, 70, 71, 72, 73, 74, 75, 76, 77, 78, 79, 80, 81, 82, 83] (by decide +kernel) (by decide +kernel)
set_option maxRecDepth 20000 in
theorem gX6_againstOrder_X6_againstDeliver : GoodIn wsX6_againstOrder (wsV RX6 95 RX6 yX6_againstDeliver wsX6_againstDeliver) := goodIn_app (goodIn_of _ (by decide +kernel)) ggX6_againstOrder_X6_againstDeliver
set_option maxRecDepth 20000 in
theorem ggX6_againstOrder_X6_againstSell : GoodIn wsX6_againstOrder wsX6_againstSell := goodIn_r _ [47, 29, 30, 31, 8, 32, 10, 33, 34, 35, 68, 69, 70, 71, 72, 73, 74, 75, 76, 77, 78, 79, 80, 81, 82, 83] (by decide +kernel) (by decide +kernel)
set_option maxRecDepth 20000 in
theorem gX6_againstOrder_X6_againstSell : GoodIn wsX6_againstOrder (wsV RX6 102 RX6 yX6_againstSell wsX6_againstSell) := goodIn_app (goodIn_of _ (by decide +kernel)) ggX6_againstOrder_X6_againstSell
set_option maxRecDepth 20000 in
theorem ggX6_againstOrder_X6_againstTakeBack : GoodIn wsX6_againstOrder wsX6_againstTakeBack := goodIn_r _ [51, 22, 23, 24, 8, 25, 10, 26, 27, 28, 29, 30, 31, 32, 33, 34, 35, 52, 53, 54, 55, 68, 69, 70, 71, 72, 73, 74, 75, 76, 77, 78, 79, 80, 81, 82, 83] (by decide +kernel) (by decide +kernel)
set_option maxRecDepth 20000 in
theorem gX6_againstOrder_X6_againstTakeBack : GoodIn wsX6_againstOrder (wsV RX6 108 RX6 yX6_againstTakeBack wsX6_againstTakeBack) := goodIn_app (goodIn_of _ (by decide +kernel)) ggX6_againstOrder_X6_againstTakeBack
set_option maxRecDepth 20000 in
theorem ggX6_againstOrder_X6_againstBreak : GoodIn wsX6_againstOrder wsX6_againstBreak := goodIn_r _ [59, 29, 30, 31, 8, 32, 10, 33, 34, 35, 68, 69, 70, 71, 72, 73, 74, 75, 76, 77, 78, 79, 80, 81, 82, 83] (by decide +kernel) (by decide +kernel)
set_option maxRecDepth 20000 in
theorem gX6_againstOrder_X6_againstBreak : GoodIn wsX6_againstOrder (wsV RX6 114 RX6 yX6_againstBreak wsX6_againstBreak) := goodIn_app (goodIn_of _ (by decide +kernel)) ggX6_againstOrder_X6_againstBreak
set_option maxRecDepth 20000 in
theorem ggX6_againstOrder_X6_againstCollect : GoodIn wsX6_againstOrder wsX6_againstCollect := goodIn_r _ [63, 64, 65, 66, 8, 67, 10, 22, 23, 24, 25, 26, 27, 28, 29, 30, 31, 32, 33, 34, 35, 68, 69, 70, 71, 72, 73, 74, 75, 76, 77, 78, 79, 80, 81, 82, 83] (by decide +kernel) (by decide +kernel)
set_option maxRecDepth 20000 in
theorem gX6_againstOrder_X6_againstCollect : GoodIn wsX6_againstOrder (wsV RX6 120 RX6 yX6_againstCollect wsX6_againstCollect) := goodIn_app (goodIn_of _ (by decide +kernel)) ggX6_againstOrder_X6_againstCollect
theorem dX6_againstOrder_0 : decode cX6_againstOrder 0 = .ok (.aload_n 0, 1) := by decide +kernel
theorem dX6_againstOrder_1 : decode cX6_againstOrder 1 = .ok (.getfield 145, 3) := by decide +kernel
theorem dX6_againstOrder_4 : decode cX6_againstOrder 4 = .ok (.bipush 100, 2) := by decide +kernel
theorem dX6_againstOrder_6 : decode cX6_againstOrder 6 = .ok (.if_icmp .ne 7, 3) := by decide +kernel
theorem dX6_againstOrder_9 : decode cX6_againstOrder 9 = .ok (.iconst 1, 1) := by decide +kernel
theorem dX6_againstOrder_10 : decode cX6_againstOrder 10 = .ok (.goto 4, 3) := by decide +kernel
theorem dX6_againstOrder_13 : decode cX6_againstOrder 13 = .ok (.iconst 0, 1) := by decide +kernel
theorem dX6_againstOrder_14 : decode cX6_againstOrder 14 = .ok (.istore_n 1, 1) := by decide +kernel
theorem dX6_againstOrder_15 : decode cX6_againstOrder 15 = .ok (.iload_n 1, 1) := by decide +kernel
theorem dX6_againstOrder_16 : decode cX6_againstOrder 16 = .ok (.ifCond .eq 10, 3) := by decide +kernel
theorem dX6_againstOrder_19 : decode cX6_againstOrder 19 = .ok (.aload_n 0, 1) := by decide +kernel
theorem dX6_againstOrder_20 : decode cX6_againstOrder 20 = .ok (.getfield 157, 3) := by decide +kernel
theorem dX6_againstOrder_23 : decode cX6_againstOrder 23 = .ok (.goto 7, 3) := by decide +kernel
theorem dX6_againstOrder_26 : decode cX6_againstOrder 26 = .ok (.aload_n 0, 1) := by decide +kernel
theorem dX6_againstOrder_27 : decode cX6_againstOrder 27 = .ok (.getfield 151, 3) := by decide +kernel
theorem dX6_againstOrder_30 : decode cX6_againstOrder 30 = .ok (.istore_n 2, 1) := by decide +kernel
theorem dX6_againstOrder_31 : decode cX6_againstOrder 31 = .ok (.iload_n 1, 1) := by decide +kernel
theorem dX6_againstOrder_32 : decode cX6_againstOrder 32 = .ok (.ifCond .eq 10, 3) := by decide +kernel
theorem dX6_againstOrder_35 : decode cX6_againstOrder 35 = .ok (.aload_n 0, 1) := by decide +kernel
theorem dX6_againstOrder_36 : decode cX6_againstOrder 36 = .ok (.getfield 151, 3) := by decide +kernel
theorem dX6_againstOrder_39 : decode cX6_againstOrder 39 = .ok (.goto 7, 3) := by decide +kernel
theorem dX6_againstOrder_42 : decode cX6_againstOrder 42 = .ok (.aload_n 0, 1) := by decide +kernel
theorem dX6_againstOrder_43 : decode cX6_againstOrder 43 = .ok (.getfield 157, 3) := by decide +kernel
theorem dX6_againstOrder_46 : decode cX6_againstOrder 46 = .ok (.istore_n 3, 1) := by decide +kernel
theorem dX6_againstOrder_47 : decode cX6_againstOrder 47 = .ok (.aload_n 0, 1) := by decide +kernel
theorem dX6_againstOrder_48 : decode cX6_againstOrder 48 = .ok (.iload_n 2, 1) := by decide +kernel
theorem dX6_againstOrder_49 : decode cX6_againstOrder 49 = .ok (.invokevirtual 92, 3) := by decide +kernel
theorem dX6_againstOrder_52 : decode cX6_againstOrder 52 = .ok (.ifCond .eq 20, 3) := by decide +kernel
theorem dX6_againstOrder_55 : decode cX6_againstOrder 55 = .ok (.aload_n 0, 1) := by decide +kernel
theorem dX6_againstOrder_56 : decode cX6_againstOrder 56 = .ok (.getfield 145, 3) := by decide +kernel
theorem dX6_againstOrder_59 : decode cX6_againstOrder 59 = .ok (.bipush 99, 2) := by decide +kernel
theorem dX6_againstOrder_61 : decode cX6_againstOrder 61 = .ok (.if_icmp .eq 13, 3) := by decide +kernel
theorem dX6_againstOrder_64 : decode cX6_againstOrder 64 = .ok (.aload_n 0, 1) := by decide +kernel
theorem dX6_againstOrder_65 : decode cX6_againstOrder 65 = .ok (.iload_n 3, 1) := by decide +kernel
theorem dX6_againstOrder_66 : decode cX6_againstOrder 66 = .ok (.invokevirtual 85, 3) := by decide +kernel
theorem dX6_againstOrder_69 : decode cX6_againstOrder 69 = .ok (.ifCond .ne 5, 3) := by decide +kernel
theorem dX6_againstOrder_72 : decode cX6_againstOrder 72 = .ok (.iconst 4, 1) := by decide +kernel
theorem dX6_againstOrder_73 : decode cX6_againstOrder 73 = .ok (.ireturn, 1) := by decide +kernel
theorem dX6_againstOrder_74 : decode cX6_againstOrder 74 = .ok (.aload_n 0, 1) := by decide +kernel
theorem dX6_againstOrder_75 : decode cX6_againstOrder 75 = .ok (.getfield 145, 3) := by decide +kernel
theorem dX6_againstOrder_78 : decode cX6_againstOrder 78 = .ok (.lookupswitch 86 #[(98, 75), (100, 42), (114, 64), (115, 53)], 42) := by decide +kernel
theorem dX6_againstOrder_120 : decode cX6_againstOrder 120 = .ok (.aload_n 0, 1) := by decide +kernel
theorem dX6_againstOrder_121 : decode cX6_againstOrder 121 = .ok (.iload_n 3, 1) := by decide +kernel
theorem dX6_againstOrder_122 : decode cX6_againstOrder 122 = .ok (.iload_n 2, 1) := by decide +kernel
theorem dX6_againstOrder_123 : decode cX6_againstOrder 123 = .ok (.aload_n 0, 1) := by decide +kernel
theorem dX6_againstOrder_124 : decode cX6_againstOrder 124 = .ok (.getfield 138, 3) := by decide +kernel
theorem dX6_againstOrder_127 : decode cX6_againstOrder 127 = .ok (.invokevirtual 95, 3) := by decide +kernel
theorem dX6_againstOrder_130 : decode cX6_againstOrder 130 = .ok (.ireturn, 1) := by decide +kernel
theorem dX6_againstOrder_131 : decode cX6_againstOrder 131 = .ok (.aload_n 0, 1) := by decide +kernel
theorem dX6_againstOrder_132 : decode cX6_againstOrder 132 = .ok (.iload_n 2, 1) := by decide +kernel
theorem dX6_againstOrder_133 : decode cX6_againstOrder 133 = .ok (.iload_n 3, 1) := by decide +kernel
theorem dX6_againstOrder_134 : decode cX6_againstOrder 134 = .ok (.aload_n 0, 1) := by decide +kernel
theorem dX6_againstOrder_135 : decode cX6_againstOrder 135 = .ok (.getfield 138, 3) := by decide +kernel
theorem dX6_againstOrder_138 : decode cX6_againstOrder 138 = .ok (.invokevirtual 102, 3) := by decide +kernel
theorem dX6_againstOrder_141 : decode cX6_againstOrder 141 = .ok (.ireturn, 1) := by decide +kernel
theorem dX6_againstOrder_142 : decode cX6_againstOrder 142 = .ok (.aload_n 0, 1) := by decide +kernel
theorem dX6_againstOrder_143 : decode cX6_againstOrder 143 = .ok (.iload_n 2, 1) := by decide +kernel
theorem dX6_againstOrder_144 : decode cX6_againstOrder 144 = .ok (.iload_n 3, 1) := by decide +kernel
theorem dX6_againstOrder_145 : decode cX6_againstOrder 145 = .ok (.aload_n 0, 1) := by decide +kernel
theorem dX6_againstOrder_146 : decode cX6_againstOrder 146 = .ok (.getfield 138, 3) := by decide +kernel
theorem dX6_againstOrder_149 : decode cX6_againstOrder 149 = .ok (.invokevirtual 108, 3) := by decide +kernel
theorem dX6_againstOrder_152 : decode cX6_againstOrder 152 = .ok (.ireturn, 1) := by decide +kernel
theorem dX6_againstOrder_153 : decode cX6_againstOrder 153 = .ok (.aload_n 0, 1) := by decide +kernel
theorem dX6_againstOrder_154 : decode cX6_againstOrder 154 = .ok (.iload_n 2, 1) := by decide +kernel
theorem dX6_againstOrder_155 : decode cX6_againstOrder 155 = .ok (.iload_n 3, 1) := by decide +kernel
theorem dX6_againstOrder_156 : decode cX6_againstOrder 156 = .ok (.aload_n 0, 1) := by decide +kernel
theorem dX6_againstOrder_157 : decode cX6_againstOrder 157 = .ok (.getfield 138, 3) := by decide +kernel
theorem dX6_againstOrder_160 : decode cX6_againstOrder 160 = .ok (.invokevirtual 114, 3) := by decide +kernel
theorem dX6_againstOrder_163 : decode cX6_againstOrder 163 = .ok (.ireturn, 1) := by decide +kernel
theorem dX6_againstOrder_164 : decode cX6_againstOrder 164 = .ok (.aload_n 0, 1) := by decide +kernel
theorem dX6_againstOrder_165 : decode cX6_againstOrder 165 = .ok (.iload_n 2, 1) := by decide +kernel
theorem dX6_againstOrder_166 : decode cX6_againstOrder 166 = .ok (.iload_n 3, 1) := by decide +kernel
theorem dX6_againstOrder_167 : decode cX6_againstOrder 167 = .ok (.aload_n 0, 1) := by decide +kernel
theorem dX6_againstOrder_168 : decode cX6_againstOrder 168 = .ok (.getfield 138, 3) := by decide +kernel
theorem dX6_againstOrder_171 : decode cX6_againstOrder 171 = .ok (.invokevirtual 120, 3) := by decide +kernel
theorem dX6_againstOrder_174 : decode cX6_againstOrder 174 = .ok (.ireturn, 1) := by decide +kernel
set_option maxRecDepth 20000 in
theorem ggX6_doOrder_X6_delivers : GoodIn wsX6_doOrder wsX6_delivers := goodIn_r _ [9, 10, 11, 12, 13, 8, 14, 15, 16, 17, 18, 19, 20, 21, 22, 23, 24, 56, 57, 58, 59, 60, 61, 62, 63, 64, 65, 66, 67, 68, 69, 70, 71] (by decide +kernel) (by decide +kernel)
set_option maxRecDepth 20000 in
theorem gX6_doOrder_X6_delivers : GoodIn wsX6_doOrder (wsV RX6 99 RX6 yX6_delivers wsX6_delivers) := goodIn_app (goodIn_of _ (by decide +kernel)) ggX6_doOrder_X6_delivers
set_option maxRecDepth 20000 in
theorem ggX6_doOrder_X6_sells : GoodIn wsX6_doOrder wsX6_sells := goodIn_r _ [28, 10, 22, 23, 8, 24, 15, 16, 17, 29, 30, 31, 32, 11, 12, 13, 14, 33, 34, 35, 36, 56, 57, 58, 59, 60, 61, 62, 63, 64, 65, 66, 67, 68, 69, 70, 71] (by decide +kernel) (by decide +kernel)
set_option maxRecDepth 20000 in
theorem gX6_doOrder_X6_sells : GoodIn wsX6_doOrder (wsV RX6 105 RX6 yX6_sells wsX6_sells) := goodIn_app (goodIn_of _ (by decide +kernel)) ggX6_doOrder_X6_sells
set_option maxRecDepth 20000 in
theorem ggX6_doOrder_X6_takesBack : GoodIn wsX6_doOrder wsX6_takesBack := goodIn_r _ [40, 10, 15, 16, 8, 17, 22, 23, 24, 29, 30, 31, 32, 11, 12, 13, 14, 33, 34, 35, 36, 56, 57, 58, 59, 60, 61, 62, 63, 64, 65, 66, 67, 68, 69, 70, 71] (by decide +kernel) (by decide +kernel)
set_option maxRecDepth 20000 in
theorem gX6_doOrder_X6_takesBack : GoodIn wsX6_doOrder (wsV RX6 111 RX6 yX6_takesBack wsX6_takesBack) := goodIn_app (goodIn_of _ (by decide +kernel)) ggX6_doOrder_X6_takesBack
set_option maxRecDepth 20000 in
theorem ggX6_doOrder_X6_breaksThem : GoodIn wsX6_doOrder wsX6_breaksThem := goodIn_r _ [44, 10, 29, 30, 31, 8, 32, 11, 12, 13, 14, 15, 16, 17, 45, 46, 47, 22, 23, 24, 56, 57, 58, 59, 60, 61, 62, 63, 64, 65, 66, 67, 68, 69, 70, 71] (by decide +kernel) (by decide +kernel)
set_option maxRecDepth 20000 in
theorem gX6_doOrder_X6_breaksThem : GoodIn wsX6_doOrder (wsV RX6 117 RX6 yX6_breaksThem wsX6_breaksThem) := goodIn_app (goodIn_of _ (by decide +kernel)) ggX6_doOrder_X6_breaksThem
set_option maxRecDepth 20000 in
theorem ggX6_doOrder_X6_collects : GoodIn wsX6_doOrder wsX6_collects := goodIn_r _ [51, 10, 52, 53, 54, 8, 55, 11, 12, 13, 14, 15, 16, 17, 33, 34, 35, 36, 22, 23, 24, 18, 19, 20, 21, 56, 57, 58, 59, 60, 61, 62, 63, 64, 65, 66, 67, 68, 69, 70, 71] (by decide +kernel) (by decide +kernel)
set_option maxRecDepth 20000 in
theorem gX6_doOrder_X6_collects : GoodIn wsX6_doOrder (wsV RX6 123 RX6 yX6_collects wsX6_collects) := goodIn_app (goodIn_of _ (by decide +kernel)) ggX6_doOrder_X6_collects
theorem dX6_doOrder_0 : decode cX6_doOrder 0 = .ok (.aload_n 0, 1) := by decide +kernel
theorem dX6_doOrder_1 : decode cX6_doOrder 1 = .ok (.getfield 145, 3) := by decide +kernel
theorem dX6_doOrder_4 : decode cX6_doOrder 4 = .ok (.lookupswitch 124 #[(98, 104), (100, 44), (114, 84), (115, 64)], 44) := by decide +kernel
theorem dX6_doOrder_48 : decode cX6_doOrder 48 = .ok (.aload_n 0, 1) := by decide +kernel
theorem dX6_doOrder_49 : decode cX6_doOrder 49 = .ok (.aload_n 0, 1) := by decide +kernel
theorem dX6_doOrder_50 : decode cX6_doOrder 50 = .ok (.getfield 151, 3) := by decide +kernel
theorem dX6_doOrder_53 : decode cX6_doOrder 53 = .ok (.aload_n 0, 1) := by decide +kernel
theorem dX6_doOrder_54 : decode cX6_doOrder 54 = .ok (.getfield 157, 3) := by decide +kernel
theorem dX6_doOrder_57 : decode cX6_doOrder 57 = .ok (.aload_n 0, 1) := by decide +kernel
theorem dX6_doOrder_58 : decode cX6_doOrder 58 = .ok (.getfield 138, 3) := by decide +kernel
theorem dX6_doOrder_61 : decode cX6_doOrder 61 = .ok (.invokevirtual 99, 3) := by decide +kernel
theorem dX6_doOrder_64 : decode cX6_doOrder 64 = .ok (.pop, 1) := by decide +kernel
theorem dX6_doOrder_65 : decode cX6_doOrder 65 = .ok (.goto 80, 3) := by decide +kernel
theorem dX6_doOrder_68 : decode cX6_doOrder 68 = .ok (.aload_n 0, 1) := by decide +kernel
theorem dX6_doOrder_69 : decode cX6_doOrder 69 = .ok (.aload_n 0, 1) := by decide +kernel
theorem dX6_doOrder_70 : decode cX6_doOrder 70 = .ok (.getfield 151, 3) := by decide +kernel
theorem dX6_doOrder_73 : decode cX6_doOrder 73 = .ok (.aload_n 0, 1) := by decide +kernel
theorem dX6_doOrder_74 : decode cX6_doOrder 74 = .ok (.getfield 157, 3) := by decide +kernel
theorem dX6_doOrder_77 : decode cX6_doOrder 77 = .ok (.aload_n 0, 1) := by decide +kernel
theorem dX6_doOrder_78 : decode cX6_doOrder 78 = .ok (.getfield 138, 3) := by decide +kernel
theorem dX6_doOrder_81 : decode cX6_doOrder 81 = .ok (.invokevirtual 105, 3) := by decide +kernel
theorem dX6_doOrder_84 : decode cX6_doOrder 84 = .ok (.pop, 1) := by decide +kernel
theorem dX6_doOrder_85 : decode cX6_doOrder 85 = .ok (.goto 60, 3) := by decide +kernel
theorem dX6_doOrder_88 : decode cX6_doOrder 88 = .ok (.aload_n 0, 1) := by decide +kernel
theorem dX6_doOrder_89 : decode cX6_doOrder 89 = .ok (.aload_n 0, 1) := by decide +kernel
theorem dX6_doOrder_90 : decode cX6_doOrder 90 = .ok (.getfield 151, 3) := by decide +kernel
theorem dX6_doOrder_93 : decode cX6_doOrder 93 = .ok (.aload_n 0, 1) := by decide +kernel
theorem dX6_doOrder_94 : decode cX6_doOrder 94 = .ok (.getfield 157, 3) := by decide +kernel
theorem dX6_doOrder_97 : decode cX6_doOrder 97 = .ok (.aload_n 0, 1) := by decide +kernel
theorem dX6_doOrder_98 : decode cX6_doOrder 98 = .ok (.getfield 138, 3) := by decide +kernel
theorem dX6_doOrder_101 : decode cX6_doOrder 101 = .ok (.invokevirtual 111, 3) := by decide +kernel
theorem dX6_doOrder_104 : decode cX6_doOrder 104 = .ok (.pop, 1) := by decide +kernel
theorem dX6_doOrder_105 : decode cX6_doOrder 105 = .ok (.goto 40, 3) := by decide +kernel
theorem dX6_doOrder_108 : decode cX6_doOrder 108 = .ok (.aload_n 0, 1) := by decide +kernel
theorem dX6_doOrder_109 : decode cX6_doOrder 109 = .ok (.aload_n 0, 1) := by decide +kernel
theorem dX6_doOrder_110 : decode cX6_doOrder 110 = .ok (.getfield 151, 3) := by decide +kernel
theorem dX6_doOrder_113 : decode cX6_doOrder 113 = .ok (.aload_n 0, 1) := by decide +kernel
theorem dX6_doOrder_114 : decode cX6_doOrder 114 = .ok (.getfield 157, 3) := by decide +kernel
theorem dX6_doOrder_117 : decode cX6_doOrder 117 = .ok (.aload_n 0, 1) := by decide +kernel
theorem dX6_doOrder_118 : decode cX6_doOrder 118 = .ok (.getfield 138, 3) := by decide +kernel
theorem dX6_doOrder_121 : decode cX6_doOrder 121 = .ok (.invokevirtual 117, 3) := by decide +kernel
theorem dX6_doOrder_124 : decode cX6_doOrder 124 = .ok (.pop, 1) := by decide +kernel
theorem dX6_doOrder_125 : decode cX6_doOrder 125 = .ok (.goto 20, 3) := by decide +kernel
theorem dX6_doOrder_128 : decode cX6_doOrder 128 = .ok (.aload_n 0, 1) := by decide +kernel
theorem dX6_doOrder_129 : decode cX6_doOrder 129 = .ok (.aload_n 0, 1) := by decide +kernel
theorem dX6_doOrder_130 : decode cX6_doOrder 130 = .ok (.getfield 151, 3) := by decide +kernel
theorem dX6_doOrder_133 : decode cX6_doOrder 133 = .ok (.aload_n 0, 1) := by decide +kernel
theorem dX6_doOrder_134 : decode cX6_doOrder 134 = .ok (.getfield 157, 3) := by decide +kernel
theorem dX6_doOrder_137 : decode cX6_doOrder 137 = .ok (.aload_n 0, 1) := by decide +kernel
theorem dX6_doOrder_138 : decode cX6_doOrder 138 = .ok (.getfield 138, 3) := by decide +kernel
theorem dX6_doOrder_141 : decode cX6_doOrder 141 = .ok (.invokevirtual 123, 3) := by decide +kernel
theorem dX6_doOrder_144 : decode cX6_doOrder 144 = .ok (.pop, 1) := by decide +kernel
theorem dX6_doOrder_145 : decode cX6_doOrder 145 = .ok (.return_, 1) := by decide +kernel
set_option maxRecDepth 20000 in
theorem ggX6_run_X6_reads : GoodIn wsX6_run wsX6_reads := goodIn_r _ [10, 5, 11, 12, 13, 9, 14, 3, 2, 15, 16, 17, 18, 19, 20, 21, 22, 23, 24, 25, 26, 27, 28, 29, 30, 31, 32, 33, 34, 35, 139, 140, 141, 142, 143, 144, 145, 146, 147, 148, 149, 150, 151, 152, 153, 154] (by decide +kernel) (by decide +kernel)
set_option maxRecDepth 20000 in
theorem gX6_run_X6_reads : GoodIn wsX6_run (wsV RX6 167 RX6 yX6_reads wsX6_reads) := goodIn_app (goodIn_of _ (by decide +kernel)) ggX6_run_X6_reads
set_option maxRecDepth 20000 in
theorem ggX6_run_X6_fails : GoodIn wsX6_run wsX6_fails := goodIn_r _ [39, 1, 139, 140, 141, 142, 143, 144, 145, 146, 147, 148, 149, 150, 151, 152, 153, 154] (by decide +kernel) (by decide +kernel)
set_option maxRecDepth 20000 in
theorem gX6_run_X6_fails : GoodIn wsX6_run (wsV RX6 49 RX6 yX6_fails wsX6_fails) := goodIn_app (goodIn_of _ (by decide +kernel)) ggX6_run_X6_fails
set_option maxRecDepth 20000 in
theorem ggX6_run_X6_save : GoodIn wsX6_run wsX6_save := goodIn_r _ [43, 44, 45, 4, 139, 140, 141, 142, 143, 144, 145, 146, 147, 148, 149, 150, 151, 152, 153, 154] (by decide +kernel) (by decide +kernel)
set_option maxRecDepth 20000 in
theorem gX6_run_X6_save : GoodIn wsX6_run (wsV RX6 53 RX6 yX6_save wsX6_save) := goodIn_app (goodIn_of _ (by decide +kernel)) ggX6_run_X6_save
