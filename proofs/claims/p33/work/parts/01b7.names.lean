set_option maxRecDepth 20000 in
theorem wsL_law_in0 : ∀ w ∈ wsL_law0, w ∈ lw_tbl := fun w h => (List.mem_append.mp h).elim (fun h => (List.mem_append.mp h).elim (fun h => (List.mem_append.mp h).elim (fun h => (List.mem_append.mp h).elim (fun h => (List.mem_append.mp h).elim (fun h => (List.mem_append.mp h).elim (fun h => (List.mem_append.mp h).elim (fun h => (List.mem_append.mp h).elim (fun h => bm_wsL_law0_r1 w h) (fun h => (List.mem_append.mp h).elim (fun h => bm_wsL_law0_r2 w h) (fun h => (List.mem_append.mp h).elim (fun h => bm_wsL_law0_r3 w h) (fun h => (List.mem_append.mp h).elim (fun h => bm_wsL_law0_r4 w h) (fun h => (List.mem_append.mp h).elim (fun h => bm_wsL_law0_r5 w h) (fun h => (List.mem_append.mp h).elim (fun h => bm_wsL_law0_r6 w h) (fun h => (List.mem_append.mp h).elim (fun h => bm_wsL_law0_r7 w h) (fun h => (List.mem_append.mp h).elim (fun h => bm_wsL_law0_r8 w h) (fun h => (List.mem_append.mp h).elim (fun h => bm_wsL_law0_r9 w h) (fun h => (List.mem_append.mp h).elim (fun h => bm_wsL_law0_r10 w h) (fun h => (List.mem_append.mp h).elim (fun h => bm_wsL_law0_r11 w h) (fun h => (List.mem_append.mp h).elim (fun h => bm_wsL_law0_r12 w h) (fun h => (List.mem_append.mp h).elim (fun h => bm_wsL_law0_r13 w h) (fun h => (List.mem_append.mp h).elim (fun h => bm_wsL_law0_r14 w h) (fun h => (List.mem_append.mp h).elim (fun h => bm_wsL_law0_r15 w h) (fun h => (List.mem_append.mp h).elim (fun h => bm_wsL_law0_r16 w h) (fun h => bm_wsL_law0_r17 w h))))))))))))))))) (fun h => bm_wsX50 w h)) (fun h => bm_wsX40 w h)) (fun h => bm_wsX10 w h)) (fun h => bm_wsX30 w h)) (fun h => bm_wsX00 w h)) (fun h => bm_wsX20 w h)) (fun h => absurd h List.not_mem_nil)
theorem wsL_law_x0 : ∀ w ∈ (vx_atS RX5 304 "java/lang/IllegalArgumentException" ["java/lang/RuntimeException", "java/lang/Exception"]).filter goodWord, w ∈ lw_tbl := by decide +kernel
theorem wsL_law_x1 : ∀ w ∈ (vx_atS RX5 293 "java/lang/IndexOutOfBoundsException" ["java/lang/RuntimeException", "java/lang/Exception"]).filter goodWord, w ∈ lw_tbl := by decide +kernel
theorem wsL_law_x2 : ∀ w ∈ (vx_atS RX5 309 "java/lang/IllegalStateException" ["java/lang/RuntimeException", "java/lang/Exception"]).filter goodWord, w ∈ lw_tbl := by decide +kernel
theorem wsL_law_in : ∀ w ∈ wsL_law, w ∈ lw_tbl := fun w h => (List.mem_append.mp h).elim (fun h => (List.mem_append.mp h).elim (fun h => (List.mem_append.mp h).elim (fun h => wsL_law_in0 w h) (fun h => wsL_law_x0 w h)) (fun h => wsL_law_x1 w h)) (fun h => wsL_law_x2 w h)
theorem inlX0 : ∀ w ∈ wsX00, w ∈ wsL_law := fun _ h => List.mem_append_left _ (List.mem_append_left _ (List.mem_append_left _ (List.mem_append_left _ (List.mem_append_left _ (List.mem_append_right _ h)))))
theorem inX0 : ∀ w ∈ wsX00, w ∈ lw_tbl := fun w h => wsL_law_in w (inlX0 w h)
theorem inlX1 : ∀ w ∈ wsX10, w ∈ wsL_law := fun _ h => List.mem_append_left _ (List.mem_append_left _ (List.mem_append_left _ (List.mem_append_left _ (List.mem_append_left _ (List.mem_append_left _ (List.mem_append_left _ (List.mem_append_right _ h)))))))
theorem inX1 : ∀ w ∈ wsX10, w ∈ lw_tbl := fun w h => wsL_law_in w (inlX1 w h)
theorem inlX2 : ∀ w ∈ wsX20, w ∈ wsL_law := fun _ h => List.mem_append_left _ (List.mem_append_left _ (List.mem_append_left _ (List.mem_append_left _ (List.mem_append_right _ h))))
theorem inX2 : ∀ w ∈ wsX20, w ∈ lw_tbl := fun w h => wsL_law_in w (inlX2 w h)
theorem inlX3 : ∀ w ∈ wsX30, w ∈ wsL_law := fun _ h => List.mem_append_left _ (List.mem_append_left _ (List.mem_append_left _ (List.mem_append_left _ (List.mem_append_left _ (List.mem_append_left _ (List.mem_append_right _ h))))))
theorem inX3 : ∀ w ∈ wsX30, w ∈ lw_tbl := fun w h => wsL_law_in w (inlX3 w h)
theorem inlX4 : ∀ w ∈ wsX40, w ∈ wsL_law := fun _ h => List.mem_append_left _ (List.mem_append_left _ (List.mem_append_left _ (List.mem_append_left _ (List.mem_append_left _ (List.mem_append_left _ (List.mem_append_left _ (List.mem_append_left _ (List.mem_append_right _ h))))))))
theorem inX4 : ∀ w ∈ wsX40, w ∈ lw_tbl := fun w h => wsL_law_in w (inlX4 w h)
theorem inlX5 : ∀ w ∈ wsX50, w ∈ wsL_law := fun _ h => List.mem_append_left _ (List.mem_append_left _ (List.mem_append_left _ (List.mem_append_left _ (List.mem_append_left _ (List.mem_append_left _ (List.mem_append_left _ (List.mem_append_left _ (List.mem_append_left _ (List.mem_append_right _ h)))))))))
theorem inX5 : ∀ w ∈ wsX50, w ∈ lw_tbl := fun w h => wsL_law_in w (inlX5 w h)
theorem inX6 : ∀ w ∈ wsX60, w ∈ lw_tbl := by decide +kernel
theorem inJ9 : ∀ w ∈ wsJ90, w ∈ lw_tbl := by decide +kernel
theorem inJ0 : ∀ w ∈ wsJ00, w ∈ lw_tbl := by decide +kernel
theorem inJ10 : ∀ w ∈ wsJ100, w ∈ lw_tbl := by decide +kernel
theorem dX0_init_0 : decode cX0_init 0 = .ok (.aload_n 0, 1) := by decide +kernel
theorem dX0_init_1 : decode cX0_init 1 = .ok (.invokespecial 3, 3) := by decide +kernel
theorem dX0_init_4 : decode cX0_init 4 = .ok (.return_, 1) := by decide +kernel
set_option maxRecDepth 20000 in
theorem ggX1_init_X2_init : GoodIn wsX1_init wsX2_init := goodIn_r _ [9, 10, 2, 3, 11, 12, 13, 14, 15, 16, 17, 18, 7, 19, 20, 21, 22, 23, 27] (by decide +kernel) (by decide +kernel)
set_option maxRecDepth 20000 in
theorem gX1_init_X2_init_n15 : GoodIn wsX1_init (wsX2_init) := ggX1_init_X2_init
theorem dX1_init_0 : decode cX1_init 0 = .ok (.aload_n 0, 1) := by decide +kernel
theorem dX1_init_1 : decode cX1_init 1 = .ok (.invokespecial 1, 3) := by decide +kernel
theorem dX1_init_4 : decode cX1_init 4 = .ok (.aload_n 0, 1) := by decide +kernel
theorem dX1_init_5 : decode cX1_init 5 = .ok (.bipush 6, 2) := by decide +kernel
theorem dX1_init_7 : decode cX1_init 7 = .ok (.anewarray 9, 3) := by decide +kernel
theorem dX1_init_10 : decode cX1_init 10 = .ok (.putfield 11, 3) := by decide +kernel
theorem dX1_init_13 : decode cX1_init 13 = .ok (.iconst 0, 1) := by decide +kernel
theorem dX1_init_14 : decode cX1_init 14 = .ok (.istore_n 1, 1) := by decide +kernel
theorem dX1_init_15 : decode cX1_init 15 = .ok (.iload_n 1, 1) := by decide +kernel
theorem dX1_init_16 : decode cX1_init 16 = .ok (.aload_n 0, 1) := by decide +kernel
theorem dX1_init_17 : decode cX1_init 17 = .ok (.getfield 11, 3) := by decide +kernel
theorem dX1_init_20 : decode cX1_init 20 = .ok (.arraylength, 1) := by decide +kernel
theorem dX1_init_21 : decode cX1_init 21 = .ok (.if_icmp .ge 22, 3) := by decide +kernel
theorem dX1_init_24 : decode cX1_init 24 = .ok (.aload_n 0, 1) := by decide +kernel
theorem dX1_init_25 : decode cX1_init 25 = .ok (.getfield 11, 3) := by decide +kernel
theorem dX1_init_28 : decode cX1_init 28 = .ok (.iload_n 1, 1) := by decide +kernel
theorem dX1_init_29 : decode cX1_init 29 = .ok (.new 9, 3) := by decide +kernel
theorem dX1_init_32 : decode cX1_init 32 = .ok (.dup, 1) := by decide +kernel
theorem dX1_init_33 : decode cX1_init 33 = .ok (.invokespecial 15, 3) := by decide +kernel
theorem dX1_init_36 : decode cX1_init 36 = .ok (.aastore, 1) := by decide +kernel
theorem dX1_init_37 : decode cX1_init 37 = .ok (.iinc 1 1, 3) := by decide +kernel
theorem dX1_init_40 : decode cX1_init 40 = .ok (.goto (-25), 3) := by decide +kernel
theorem dX1_init_43 : decode cX1_init 43 = .ok (.return_, 1) := by decide +kernel
theorem dX1_kept_0 : decode cX1_kept 0 = .ok (.aload_n 0, 1) := by decide +kernel
theorem dX1_kept_1 : decode cX1_kept 1 = .ok (.getfield 16, 3) := by decide +kernel
theorem dX1_kept_4 : decode cX1_kept 4 = .ok (.ireturn, 1) := by decide +kernel
theorem dX1_latestState_0 : decode cX1_latestState 0 = .ok (.aload_n 0, 1) := by decide +kernel
theorem dX1_latestState_1 : decode cX1_latestState 1 = .ok (.getfield 20, 3) := by decide +kernel
theorem dX1_latestState_4 : decode cX1_latestState 4 = .ok (.ifCond .lt 27, 3) := by decide +kernel
theorem dX1_latestState_7 : decode cX1_latestState 7 = .ok (.aload_n 0, 1) := by decide +kernel
theorem dX1_latestState_8 : decode cX1_latestState 8 = .ok (.getfield 20, 3) := by decide +kernel
theorem dX1_latestState_11 : decode cX1_latestState 11 = .ok (.aload_n 0, 1) := by decide +kernel
theorem dX1_latestState_12 : decode cX1_latestState 12 = .ok (.getfield 11, 3) := by decide +kernel
theorem dX1_latestState_15 : decode cX1_latestState 15 = .ok (.arraylength, 1) := by decide +kernel
theorem dX1_latestState_16 : decode cX1_latestState 16 = .ok (.if_icmp .ge 15, 3) := by decide +kernel
theorem dX1_latestState_19 : decode cX1_latestState 19 = .ok (.aload_n 0, 1) := by decide +kernel
theorem dX1_latestState_20 : decode cX1_latestState 20 = .ok (.getfield 11, 3) := by decide +kernel
theorem dX1_latestState_23 : decode cX1_latestState 23 = .ok (.aload_n 0, 1) := by decide +kernel
theorem dX1_latestState_24 : decode cX1_latestState 24 = .ok (.getfield 20, 3) := by decide +kernel
theorem dX1_latestState_27 : decode cX1_latestState 27 = .ok (.aaload, 1) := by decide +kernel
theorem dX1_latestState_28 : decode cX1_latestState 28 = .ok (.goto 4, 3) := by decide +kernel
theorem dX1_latestState_31 : decode cX1_latestState 31 = .ok (.aconst_null, 1) := by decide +kernel
theorem dX1_latestState_32 : decode cX1_latestState 32 = .ok (.areturn, 1) := by decide +kernel
set_option maxRecDepth 20000 in
theorem ggX1_keep_X1_latestState : GoodIn wsX1_keep wsX1_latestState := goodIn_r _ [7, 1, 8, 18, 19, 20] (by decide +kernel) (by decide +kernel)
set_option maxRecDepth 20000 in
theorem gX1_keep_X1_latestState : GoodIn wsX1_keep (wsV RX1 23 RX1 yX1_latestState wsX1_latestState) := goodIn_app (goodIn_of _ (by decide +kernel)) ggX1_keep_X1_latestState
set_option maxRecDepth 20000 in
theorem ggX1_keep_X2_copyFrom : GoodIn wsX1_keep wsX2_copyFrom := goodIn_r _ [12, 13, 14, 15, 16, 17, 21] (by decide +kernel) (by decide +kernel)
set_option maxRecDepth 20000 in
theorem gX1_keep_X2_copyFrom_n27 : GoodIn wsX1_keep (wsX2_copyFrom) := ggX1_keep_X2_copyFrom
theorem dX1_keep_0 : decode cX1_keep 0 = .ok (.aload_n 0, 1) := by decide +kernel
theorem dX1_keep_1 : decode cX1_keep 1 = .ok (.aload_n 0, 1) := by decide +kernel
theorem dX1_keep_2 : decode cX1_keep 2 = .ok (.getfield 20, 3) := by decide +kernel
theorem dX1_keep_5 : decode cX1_keep 5 = .ok (.iconst 1, 1) := by decide +kernel
theorem dX1_keep_6 : decode cX1_keep 6 = .ok (.iadd, 1) := by decide +kernel
theorem dX1_keep_7 : decode cX1_keep 7 = .ok (.bipush 6, 2) := by decide +kernel
theorem dX1_keep_9 : decode cX1_keep 9 = .ok (.if_icmp .ge 12, 3) := by decide +kernel
theorem dX1_keep_12 : decode cX1_keep 12 = .ok (.aload_n 0, 1) := by decide +kernel
theorem dX1_keep_13 : decode cX1_keep 13 = .ok (.getfield 20, 3) := by decide +kernel
theorem dX1_keep_16 : decode cX1_keep 16 = .ok (.iconst 1, 1) := by decide +kernel
theorem dX1_keep_17 : decode cX1_keep 17 = .ok (.iadd, 1) := by decide +kernel
theorem dX1_keep_18 : decode cX1_keep 18 = .ok (.goto 4, 3) := by decide +kernel
theorem dX1_keep_21 : decode cX1_keep 21 = .ok (.iconst 0, 1) := by decide +kernel
theorem dX1_keep_22 : decode cX1_keep 22 = .ok (.putfield 20, 3) := by decide +kernel
theorem dX1_keep_25 : decode cX1_keep 25 = .ok (.aload_n 0, 1) := by decide +kernel
theorem dX1_keep_26 : decode cX1_keep 26 = .ok (.aload_n 0, 1) := by decide +kernel
theorem dX1_keep_27 : decode cX1_keep 27 = .ok (.getfield 16, 3) := by decide +kernel
theorem dX1_keep_30 : decode cX1_keep 30 = .ok (.bipush 6, 2) := by decide +kernel
theorem dX1_keep_32 : decode cX1_keep 32 = .ok (.if_icmp .ge 12, 3) := by decide +kernel
theorem dX1_keep_35 : decode cX1_keep 35 = .ok (.aload_n 0, 1) := by decide +kernel
theorem dX1_keep_36 : decode cX1_keep 36 = .ok (.getfield 16, 3) := by decide +kernel
theorem dX1_keep_39 : decode cX1_keep 39 = .ok (.iconst 1, 1) := by decide +kernel
theorem dX1_keep_40 : decode cX1_keep 40 = .ok (.iadd, 1) := by decide +kernel
theorem dX1_keep_41 : decode cX1_keep 41 = .ok (.goto 5, 3) := by decide +kernel
theorem dX1_keep_44 : decode cX1_keep 44 = .ok (.bipush 6, 2) := by decide +kernel
theorem dX1_keep_46 : decode cX1_keep 46 = .ok (.putfield 16, 3) := by decide +kernel
theorem dX1_keep_49 : decode cX1_keep 49 = .ok (.aload_n 0, 1) := by decide +kernel
theorem dX1_keep_50 : decode cX1_keep 50 = .ok (.invokevirtual 23, 3) := by decide +kernel
theorem dX1_keep_53 : decode cX1_keep 53 = .ok (.astore_n 2, 1) := by decide +kernel
theorem dX1_keep_54 : decode cX1_keep 54 = .ok (.aload_n 2, 1) := by decide +kernel
theorem dX1_keep_55 : decode cX1_keep 55 = .ok (.ifnull 8, 3) := by decide +kernel
theorem dX1_keep_58 : decode cX1_keep 58 = .ok (.aload_n 2, 1) := by decide +kernel
theorem dX1_keep_59 : decode cX1_keep 59 = .ok (.aload_n 1, 1) := by decide +kernel
theorem dX1_keep_60 : decode cX1_keep 60 = .ok (.invokevirtual 27, 3) := by decide +kernel
theorem dX1_keep_63 : decode cX1_keep 63 = .ok (.return_, 1) := by decide +kernel
set_option maxRecDepth 20000 in
theorem ggX1_giveBack_X1_latestState : GoodIn wsX1_giveBack wsX1_latestState := goodIn_r _ [7, 2, 8, 18, 19, 20] (by decide +kernel) (by decide +kernel)
set_option maxRecDepth 20000 in
theorem gX1_giveBack_X1_latestState : GoodIn wsX1_giveBack (wsV RX1 23 RX1 yX1_latestState wsX1_latestState) := goodIn_app (goodIn_of _ (by decide +kernel)) ggX1_giveBack_X1_latestState
set_option maxRecDepth 20000 in
theorem ggX1_giveBack_X2_copyFrom : GoodIn wsX1_giveBack wsX2_copyFrom := goodIn_r _ [12, 13, 14, 15, 16, 17, 21] (by decide +kernel) (by decide +kernel)
set_option maxRecDepth 20000 in
theorem gX1_giveBack_X2_copyFrom_n27 : GoodIn wsX1_giveBack (wsX2_copyFrom) := ggX1_giveBack_X2_copyFrom
theorem dX1_giveBack_0 : decode cX1_giveBack 0 = .ok (.aload_n 1, 1) := by decide +kernel
theorem dX1_giveBack_1 : decode cX1_giveBack 1 = .ok (.ifnull 49, 3) := by decide +kernel
theorem dX1_giveBack_4 : decode cX1_giveBack 4 = .ok (.aload_n 0, 1) := by decide +kernel
theorem dX1_giveBack_5 : decode cX1_giveBack 5 = .ok (.getfield 16, 3) := by decide +kernel
theorem dX1_giveBack_8 : decode cX1_giveBack 8 = .ok (.ifCond .le 42, 3) := by decide +kernel
theorem dX1_giveBack_11 : decode cX1_giveBack 11 = .ok (.aload_n 1, 1) := by decide +kernel
theorem dX1_giveBack_12 : decode cX1_giveBack 12 = .ok (.aload_n 0, 1) := by decide +kernel
theorem dX1_giveBack_13 : decode cX1_giveBack 13 = .ok (.invokevirtual 23, 3) := by decide +kernel
theorem dX1_giveBack_16 : decode cX1_giveBack 16 = .ok (.invokevirtual 27, 3) := by decide +kernel
theorem dX1_giveBack_19 : decode cX1_giveBack 19 = .ok (.aload_n 0, 1) := by decide +kernel
theorem dX1_giveBack_20 : decode cX1_giveBack 20 = .ok (.aload_n 0, 1) := by decide +kernel
theorem dX1_giveBack_21 : decode cX1_giveBack 21 = .ok (.getfield 20, 3) := by decide +kernel
theorem dX1_giveBack_24 : decode cX1_giveBack 24 = .ok (.ifCond .le 12, 3) := by decide +kernel
theorem dX1_giveBack_27 : decode cX1_giveBack 27 = .ok (.aload_n 0, 1) := by decide +kernel
theorem dX1_giveBack_28 : decode cX1_giveBack 28 = .ok (.getfield 20, 3) := by decide +kernel
theorem dX1_giveBack_31 : decode cX1_giveBack 31 = .ok (.iconst 1, 1) := by decide +kernel
theorem dX1_giveBack_32 : decode cX1_giveBack 32 = .ok (.isub, 1) := by decide +kernel
theorem dX1_giveBack_33 : decode cX1_giveBack 33 = .ok (.goto 4, 3) := by decide +kernel
theorem dX1_giveBack_36 : decode cX1_giveBack 36 = .ok (.iconst 5, 1) := by decide +kernel
theorem dX1_giveBack_37 : decode cX1_giveBack 37 = .ok (.putfield 20, 3) := by decide +kernel
theorem dX1_giveBack_40 : decode cX1_giveBack 40 = .ok (.aload_n 0, 1) := by decide +kernel
theorem dX1_giveBack_41 : decode cX1_giveBack 41 = .ok (.dup, 1) := by decide +kernel
theorem dX1_giveBack_42 : decode cX1_giveBack 42 = .ok (.getfield 16, 3) := by decide +kernel
theorem dX1_giveBack_45 : decode cX1_giveBack 45 = .ok (.iconst 1, 1) := by decide +kernel
theorem dX1_giveBack_46 : decode cX1_giveBack 46 = .ok (.isub, 1) := by decide +kernel
theorem dX1_giveBack_47 : decode cX1_giveBack 47 = .ok (.putfield 16, 3) := by decide +kernel
theorem dX1_giveBack_50 : decode cX1_giveBack 50 = .ok (.return_, 1) := by decide +kernel
set_option maxRecDepth 20000 in
theorem ggX2_init_X5_entry : GoodIn wsX2_init wsX5_entry := goodIn_r _ [8] (by decide +kernel) (by decide +kernel)
set_option maxRecDepth 20000 in
theorem gX2_init_X5_entry_n18 : GoodIn wsX2_init (wsX5_entry) := ggX2_init_X5_entry
set_option maxRecDepth 20000 in
theorem ggX2_init_X2_putSetting : GoodIn wsX2_init wsX2_putSetting := goodIn_r _ [13, 14, 15, 16, 12, 17, 5, 18] (by decide +kernel) (by decide +kernel)
set_option maxRecDepth 20000 in
theorem gX2_init_X2_putSetting : GoodIn wsX2_init (wsV RX2 22 RX2 yX2_putSetting wsX2_putSetting) := goodIn_app (goodIn_of _ (by decide +kernel)) ggX2_init_X2_putSetting
theorem dX2_init_0 : decode cX2_init 0 = .ok (.aload_n 0, 1) := by decide +kernel
theorem dX2_init_1 : decode cX2_init 1 = .ok (.invokespecial 5, 3) := by decide +kernel
theorem dX2_init_4 : decode cX2_init 4 = .ok (.aload_n 0, 1) := by decide +kernel
theorem dX2_init_5 : decode cX2_init 5 = .ok (.sipush 345, 3) := by decide +kernel
theorem dX2_init_8 : decode cX2_init 8 = .ok (.newarray .int, 2) := by decide +kernel
theorem dX2_init_10 : decode cX2_init 10 = .ok (.putfield 11, 3) := by decide +kernel
theorem dX2_init_13 : decode cX2_init 13 = .ok (.iconst 0, 1) := by decide +kernel
theorem dX2_init_14 : decode cX2_init 14 = .ok (.istore_n 1, 1) := by decide +kernel
theorem dX2_init_15 : decode cX2_init 15 = .ok (.iload_n 1, 1) := by decide +kernel
theorem dX2_init_16 : decode cX2_init 16 = .ok (.bipush 6, 2) := by decide +kernel
theorem dX2_init_18 : decode cX2_init 18 = .ok (.if_icmp .ge 21, 3) := by decide +kernel
theorem dX2_init_21 : decode cX2_init 21 = .ok (.aload_n 0, 1) := by decide +kernel
theorem dX2_init_22 : decode cX2_init 22 = .ok (.iload_n 1, 1) := by decide +kernel
theorem dX2_init_23 : decode cX2_init 23 = .ok (.getstatic 15, 3) := by decide +kernel
theorem dX2_init_26 : decode cX2_init 26 = .ok (.iload_n 1, 1) := by decide +kernel
theorem dX2_init_27 : decode cX2_init 27 = .ok (.invokestatic 18, 3) := by decide +kernel
theorem dX2_init_30 : decode cX2_init 30 = .ok (.invokevirtual 22, 3) := by decide +kernel
theorem dX2_init_33 : decode cX2_init 33 = .ok (.iinc 1 1, 3) := by decide +kernel
theorem dX2_init_36 : decode cX2_init 36 = .ok (.goto (-21), 3) := by decide +kernel
theorem dX2_init_39 : decode cX2_init 39 = .ok (.return_, 1) := by decide +kernel
theorem dX2_copyFrom_0 : decode cX2_copyFrom 0 = .ok (.aload_n 1, 1) := by decide +kernel
theorem dX2_copyFrom_1 : decode cX2_copyFrom 1 = .ok (.ifnull 34, 3) := by decide +kernel
theorem dX2_copyFrom_4 : decode cX2_copyFrom 4 = .ok (.aload_n 1, 1) := by decide +kernel
theorem dX2_copyFrom_5 : decode cX2_copyFrom 5 = .ok (.getfield 11, 3) := by decide +kernel
theorem dX2_copyFrom_8 : decode cX2_copyFrom 8 = .ok (.arraylength, 1) := by decide +kernel
theorem dX2_copyFrom_9 : decode cX2_copyFrom 9 = .ok (.aload_n 0, 1) := by decide +kernel
theorem dX2_copyFrom_10 : decode cX2_copyFrom 10 = .ok (.getfield 11, 3) := by decide +kernel
theorem dX2_copyFrom_13 : decode cX2_copyFrom 13 = .ok (.arraylength, 1) := by decide +kernel
theorem dX2_copyFrom_14 : decode cX2_copyFrom 14 = .ok (.if_icmp .ne 21, 3) := by decide +kernel
theorem dX2_copyFrom_17 : decode cX2_copyFrom 17 = .ok (.aload_n 1, 1) := by decide +kernel
theorem dX2_copyFrom_18 : decode cX2_copyFrom 18 = .ok (.getfield 11, 3) := by decide +kernel
theorem dX2_copyFrom_21 : decode cX2_copyFrom 21 = .ok (.iconst 0, 1) := by decide +kernel
theorem dX2_copyFrom_22 : decode cX2_copyFrom 22 = .ok (.aload_n 0, 1) := by decide +kernel
theorem dX2_copyFrom_23 : decode cX2_copyFrom 23 = .ok (.getfield 11, 3) := by decide +kernel
theorem dX2_copyFrom_26 : decode cX2_copyFrom 26 = .ok (.iconst 0, 1) := by decide +kernel
theorem dX2_copyFrom_27 : decode cX2_copyFrom 27 = .ok (.aload_n 0, 1) := by decide +kernel
theorem dX2_copyFrom_28 : decode cX2_copyFrom 28 = .ok (.getfield 11, 3) := by decide +kernel
theorem dX2_copyFrom_31 : decode cX2_copyFrom 31 = .ok (.arraylength, 1) := by decide +kernel
theorem dX2_copyFrom_32 : decode cX2_copyFrom 32 = .ok (.invokestatic 26, 3) := by decide +kernel
theorem dX2_copyFrom_35 : decode cX2_copyFrom 35 = .ok (.return_, 1) := by decide +kernel
theorem dX2_get_0 : decode cX2_get 0 = .ok (.iload_n 1, 1) := by decide +kernel
theorem dX2_get_1 : decode cX2_get 1 = .ok (.ifCond .lt 21, 3) := by decide +kernel
theorem dX2_get_4 : decode cX2_get 4 = .ok (.iload_n 1, 1) := by decide +kernel
theorem dX2_get_5 : decode cX2_get 5 = .ok (.aload_n 0, 1) := by decide +kernel
theorem dX2_get_6 : decode cX2_get 6 = .ok (.getfield 11, 3) := by decide +kernel
theorem dX2_get_9 : decode cX2_get 9 = .ok (.arraylength, 1) := by decide +kernel
theorem dX2_get_10 : decode cX2_get 10 = .ok (.if_icmp .ge 12, 3) := by decide +kernel
theorem dX2_get_13 : decode cX2_get 13 = .ok (.aload_n 0, 1) := by decide +kernel
theorem dX2_get_14 : decode cX2_get 14 = .ok (.getfield 11, 3) := by decide +kernel
theorem dX2_get_17 : decode cX2_get 17 = .ok (.iload_n 1, 1) := by decide +kernel
theorem dX2_get_18 : decode cX2_get 18 = .ok (.iaload, 1) := by decide +kernel
theorem dX2_get_19 : decode cX2_get 19 = .ok (.goto 4, 3) := by decide +kernel
theorem dX2_get_22 : decode cX2_get 22 = .ok (.iconst 0, 1) := by decide +kernel
theorem dX2_get_23 : decode cX2_get 23 = .ok (.ireturn, 1) := by decide +kernel
theorem dX2_put_0 : decode cX2_put 0 = .ok (.iload_n 1, 1) := by decide +kernel
theorem dX2_put_1 : decode cX2_put 1 = .ok (.ifCond .lt 19, 3) := by decide +kernel
theorem dX2_put_4 : decode cX2_put 4 = .ok (.iload_n 1, 1) := by decide +kernel
theorem dX2_put_5 : decode cX2_put 5 = .ok (.aload_n 0, 1) := by decide +kernel
theorem dX2_put_6 : decode cX2_put 6 = .ok (.getfield 11, 3) := by decide +kernel
theorem dX2_put_9 : decode cX2_put 9 = .ok (.arraylength, 1) := by decide +kernel
theorem dX2_put_10 : decode cX2_put 10 = .ok (.if_icmp .ge 10, 3) := by decide +kernel
theorem dX2_put_13 : decode cX2_put 13 = .ok (.aload_n 0, 1) := by decide +kernel
theorem dX2_put_14 : decode cX2_put 14 = .ok (.getfield 11, 3) := by decide +kernel
theorem dX2_put_17 : decode cX2_put 17 = .ok (.iload_n 1, 1) := by decide +kernel
theorem dX2_put_18 : decode cX2_put 18 = .ok (.iload_n 2, 1) := by decide +kernel
theorem dX2_put_19 : decode cX2_put 19 = .ok (.iastore, 1) := by decide +kernel
theorem dX2_put_20 : decode cX2_put 20 = .ok (.return_, 1) := by decide +kernel
set_option maxRecDepth 20000 in
theorem ggX2_ofAll_X2_get : GoodIn wsX2_ofAll wsX2_get := goodIn_r _ [5, 6, 7] (by decide +kernel) (by decide +kernel)
set_option maxRecDepth 20000 in
theorem gX2_ofAll_X2_get : GoodIn wsX2_ofAll (wsV RX2 32 RX2 yX2_get wsX2_get) := goodIn_app (goodIn_of _ (by decide +kernel)) ggX2_ofAll_X2_get
theorem dX2_ofAll_0 : decode cX2_ofAll 0 = .ok (.aload_n 0, 1) := by decide +kernel
theorem dX2_ofAll_1 : decode cX2_ofAll 1 = .ok (.iload_n 1, 1) := by decide +kernel
theorem dX2_ofAll_2 : decode cX2_ofAll 2 = .ok (.invokevirtual 32, 3) := by decide +kernel
theorem dX2_ofAll_5 : decode cX2_ofAll 5 = .ok (.ireturn, 1) := by decide +kernel
set_option maxRecDepth 20000 in
theorem ggX2_addToAll_X2_get : GoodIn wsX2_addToAll wsX2_get := goodIn_r _ [5, 6, 11] (by decide +kernel) (by decide +kernel)
set_option maxRecDepth 20000 in
theorem gX2_addToAll_X2_get : GoodIn wsX2_addToAll (wsV RX2 32 RX2 yX2_get wsX2_get) := goodIn_app (goodIn_of _ (by decide +kernel)) ggX2_addToAll_X2_get
set_option maxRecDepth 20000 in
theorem ggX2_addToAll_X2_put : GoodIn wsX2_addToAll wsX2_put := goodIn_r _ [10, 6, 11] (by decide +kernel) (by decide +kernel)
set_option maxRecDepth 20000 in
theorem gX2_addToAll_X2_put : GoodIn wsX2_addToAll (wsV RX2 36 RX2 yX2_put wsX2_put) := goodIn_app (goodIn_of _ (by decide +kernel)) ggX2_addToAll_X2_put
theorem dX2_addToAll_0 : decode cX2_addToAll 0 = .ok (.aload_n 0, 1) := by decide +kernel
theorem dX2_addToAll_1 : decode cX2_addToAll 1 = .ok (.iload_n 1, 1) := by decide +kernel
theorem dX2_addToAll_2 : decode cX2_addToAll 2 = .ok (.aload_n 0, 1) := by decide +kernel
theorem dX2_addToAll_3 : decode cX2_addToAll 3 = .ok (.iload_n 1, 1) := by decide +kernel
theorem dX2_addToAll_4 : decode cX2_addToAll 4 = .ok (.invokevirtual 32, 3) := by decide +kernel
theorem dX2_addToAll_7 : decode cX2_addToAll 7 = .ok (.iload_n 2, 1) := by decide +kernel
theorem dX2_addToAll_8 : decode cX2_addToAll 8 = .ok (.iadd, 1) := by decide +kernel
theorem dX2_addToAll_9 : decode cX2_addToAll 9 = .ok (.invokevirtual 36, 3) := by decide +kernel
theorem dX2_addToAll_12 : decode cX2_addToAll 12 = .ok (.return_, 1) := by decide +kernel
set_option maxRecDepth 20000 in
theorem ggX2_ofSetting_X2_get : GoodIn wsX2_ofSetting wsX2_get := goodIn_r _ [5, 6, 7] (by decide +kernel) (by decide +kernel)
set_option maxRecDepth 20000 in
theorem gX2_ofSetting_X2_get : GoodIn wsX2_ofSetting (wsV RX2 32 RX2 yX2_get wsX2_get) := goodIn_app (goodIn_of _ (by decide +kernel)) ggX2_ofSetting_X2_get
theorem dX2_ofSetting_0 : decode cX2_ofSetting 0 = .ok (.aload_n 0, 1) := by decide +kernel
theorem dX2_ofSetting_1 : decode cX2_ofSetting 1 = .ok (.bipush 11, 2) := by decide +kernel
theorem dX2_ofSetting_3 : decode cX2_ofSetting 3 = .ok (.iload_n 1, 1) := by decide +kernel
theorem dX2_ofSetting_4 : decode cX2_ofSetting 4 = .ok (.iadd, 1) := by decide +kernel
theorem dX2_ofSetting_5 : decode cX2_ofSetting 5 = .ok (.invokevirtual 32, 3) := by decide +kernel
theorem dX2_ofSetting_8 : decode cX2_ofSetting 8 = .ok (.ireturn, 1) := by decide +kernel
set_option maxRecDepth 20000 in
theorem ggX2_putSetting_X2_put : GoodIn wsX2_putSetting wsX2_put := goodIn_r _ [5, 6, 7] (by decide +kernel) (by decide +kernel)
set_option maxRecDepth 20000 in
theorem gX2_putSetting_X2_put : GoodIn wsX2_putSetting (wsV RX2 36 RX2 yX2_put wsX2_put) := goodIn_app (goodIn_of _ (by decide +kernel)) ggX2_putSetting_X2_put
theorem dX2_putSetting_0 : decode cX2_putSetting 0 = .ok (.aload_n 0, 1) := by decide +kernel
theorem dX2_putSetting_1 : decode cX2_putSetting 1 = .ok (.bipush 11, 2) := by decide +kernel
theorem dX2_putSetting_3 : decode cX2_putSetting 3 = .ok (.iload_n 1, 1) := by decide +kernel
theorem dX2_putSetting_4 : decode cX2_putSetting 4 = .ok (.iadd, 1) := by decide +kernel
theorem dX2_putSetting_5 : decode cX2_putSetting 5 = .ok (.iload_n 2, 1) := by decide +kernel
theorem dX2_putSetting_6 : decode cX2_putSetting 6 = .ok (.invokevirtual 36, 3) := by decide +kernel
theorem dX2_putSetting_9 : decode cX2_putSetting 9 = .ok (.return_, 1) := by decide +kernel
set_option maxRecDepth 20000 in
theorem ggX2_ofBrand_X2_get : GoodIn wsX2_ofBrand wsX2_get := goodIn_r _ [5, 6, 7] (by decide +kernel) (by decide +kernel)
set_option maxRecDepth 20000 in
theorem gX2_ofBrand_X2_get : GoodIn wsX2_ofBrand (wsV RX2 32 RX2 yX2_get wsX2_get) := goodIn_app (goodIn_of _ (by decide +kernel)) ggX2_ofBrand_X2_get
theorem dX2_ofBrand_0 : decode cX2_ofBrand 0 = .ok (.aload_n 0, 1) := by decide +kernel
theorem dX2_ofBrand_1 : decode cX2_ofBrand 1 = .ok (.bipush 17, 2) := by decide +kernel
theorem dX2_ofBrand_3 : decode cX2_ofBrand 3 = .ok (.iload_n 1, 1) := by decide +kernel
theorem dX2_ofBrand_4 : decode cX2_ofBrand 4 = .ok (.bipush 12, 2) := by decide +kernel
theorem dX2_ofBrand_6 : decode cX2_ofBrand 6 = .ok (.imul, 1) := by decide +kernel
theorem dX2_ofBrand_7 : decode cX2_ofBrand 7 = .ok (.iadd, 1) := by decide +kernel
theorem dX2_ofBrand_8 : decode cX2_ofBrand 8 = .ok (.iload_n 2, 1) := by decide +kernel
theorem dX2_ofBrand_9 : decode cX2_ofBrand 9 = .ok (.iadd, 1) := by decide +kernel
theorem dX2_ofBrand_10 : decode cX2_ofBrand 10 = .ok (.invokevirtual 32, 3) := by decide +kernel
theorem dX2_ofBrand_13 : decode cX2_ofBrand 13 = .ok (.ireturn, 1) := by decide +kernel
set_option maxRecDepth 20000 in
theorem ggX2_addToBrand_X2_get : GoodIn wsX2_addToBrand wsX2_get := goodIn_r _ [5, 6, 11] (by decide +kernel) (by decide +kernel)
set_option maxRecDepth 20000 in
theorem gX2_addToBrand_X2_get : GoodIn wsX2_addToBrand (wsV RX2 32 RX2 yX2_get wsX2_get) := goodIn_app (goodIn_of _ (by decide +kernel)) ggX2_addToBrand_X2_get
set_option maxRecDepth 20000 in
theorem ggX2_addToBrand_X2_put : GoodIn wsX2_addToBrand wsX2_put := goodIn_r _ [10, 6, 11] (by decide +kernel) (by decide +kernel)
set_option maxRecDepth 20000 in
theorem gX2_addToBrand_X2_put : GoodIn wsX2_addToBrand (wsV RX2 36 RX2 yX2_put wsX2_put) := goodIn_app (goodIn_of _ (by decide +kernel)) ggX2_addToBrand_X2_put
theorem dX2_addToBrand_0 : decode cX2_addToBrand 0 = .ok (.bipush 17, 2) := by decide +kernel
theorem dX2_addToBrand_2 : decode cX2_addToBrand 2 = .ok (.iload_n 1, 1) := by decide +kernel
theorem dX2_addToBrand_3 : decode cX2_addToBrand 3 = .ok (.bipush 12, 2) := by decide +kernel
theorem dX2_addToBrand_5 : decode cX2_addToBrand 5 = .ok (.imul, 1) := by decide +kernel
theorem dX2_addToBrand_6 : decode cX2_addToBrand 6 = .ok (.iadd, 1) := by decide +kernel
theorem dX2_addToBrand_7 : decode cX2_addToBrand 7 = .ok (.iload_n 2, 1) := by decide +kernel
theorem dX2_addToBrand_8 : decode cX2_addToBrand 8 = .ok (.iadd, 1) := by decide +kernel
theorem dX2_addToBrand_9 : decode cX2_addToBrand 9 = .ok (.istore 4, 2) := by decide +kernel
theorem dX2_addToBrand_11 : decode cX2_addToBrand 11 = .ok (.aload_n 0, 1) := by decide +kernel
theorem dX2_addToBrand_12 : decode cX2_addToBrand 12 = .ok (.iload 4, 2) := by decide +kernel
theorem dX2_addToBrand_14 : decode cX2_addToBrand 14 = .ok (.aload_n 0, 1) := by decide +kernel
theorem dX2_addToBrand_15 : decode cX2_addToBrand 15 = .ok (.iload 4, 2) := by decide +kernel
theorem dX2_addToBrand_17 : decode cX2_addToBrand 17 = .ok (.invokevirtual 32, 3) := by decide +kernel
theorem dX2_addToBrand_20 : decode cX2_addToBrand 20 = .ok (.iload_n 3, 1) := by decide +kernel
theorem dX2_addToBrand_21 : decode cX2_addToBrand 21 = .ok (.iadd, 1) := by decide +kernel
theorem dX2_addToBrand_22 : decode cX2_addToBrand 22 = .ok (.invokevirtual 36, 3) := by decide +kernel
theorem dX2_addToBrand_25 : decode cX2_addToBrand 25 = .ok (.return_, 1) := by decide +kernel
set_option maxRecDepth 20000 in
theorem ggX2_ofShop_X2_get : GoodIn wsX2_ofShop wsX2_get := goodIn_r _ [5, 6, 7] (by decide +kernel) (by decide +kernel)
set_option maxRecDepth 20000 in
theorem gX2_ofShop_X2_get : GoodIn wsX2_ofShop (wsV RX2 32 RX2 yX2_get wsX2_get) := goodIn_app (goodIn_of _ (by decide +kernel)) ggX2_ofShop_X2_get
theorem dX2_ofShop_0 : decode cX2_ofShop 0 = .ok (.aload_n 0, 1) := by decide +kernel
theorem dX2_ofShop_1 : decode cX2_ofShop 1 = .ok (.bipush 113, 2) := by decide +kernel
theorem dX2_ofShop_3 : decode cX2_ofShop 3 = .ok (.iload_n 1, 1) := by decide +kernel
theorem dX2_ofShop_4 : decode cX2_ofShop 4 = .ok (.bipush 28, 2) := by decide +kernel
theorem dX2_ofShop_6 : decode cX2_ofShop 6 = .ok (.imul, 1) := by decide +kernel
theorem dX2_ofShop_7 : decode cX2_ofShop 7 = .ok (.iadd, 1) := by decide +kernel
theorem dX2_ofShop_8 : decode cX2_ofShop 8 = .ok (.iload_n 2, 1) := by decide +kernel
theorem dX2_ofShop_9 : decode cX2_ofShop 9 = .ok (.iadd, 1) := by decide +kernel
theorem dX2_ofShop_10 : decode cX2_ofShop 10 = .ok (.invokevirtual 32, 3) := by decide +kernel
theorem dX2_ofShop_13 : decode cX2_ofShop 13 = .ok (.ireturn, 1) := by decide +kernel
set_option maxRecDepth 20000 in
theorem ggX2_addToShop_X2_get : GoodIn wsX2_addToShop wsX2_get := goodIn_r _ [5, 6, 11] (by decide +kernel) (by decide +kernel)
set_option maxRecDepth 20000 in
theorem gX2_addToShop_X2_get : GoodIn wsX2_addToShop (wsV RX2 32 RX2 yX2_get wsX2_get) := goodIn_app (goodIn_of _ (by decide +kernel)) ggX2_addToShop_X2_get
set_option maxRecDepth 20000 in
theorem ggX2_addToShop_X2_put : GoodIn wsX2_addToShop wsX2_put := goodIn_r _ [10, 6, 11] (by decide +kernel) (by decide +kernel)
set_option maxRecDepth 20000 in
theorem gX2_addToShop_X2_put : GoodIn wsX2_addToShop (wsV RX2 36 RX2 yX2_put wsX2_put) := goodIn_app (goodIn_of _ (by decide +kernel)) ggX2_addToShop_X2_put
theorem dX2_addToShop_0 : decode cX2_addToShop 0 = .ok (.bipush 113, 2) := by decide +kernel
theorem dX2_addToShop_2 : decode cX2_addToShop 2 = .ok (.iload_n 1, 1) := by decide +kernel
theorem dX2_addToShop_3 : decode cX2_addToShop 3 = .ok (.bipush 28, 2) := by decide +kernel
theorem dX2_addToShop_5 : decode cX2_addToShop 5 = .ok (.imul, 1) := by decide +kernel
theorem dX2_addToShop_6 : decode cX2_addToShop 6 = .ok (.iadd, 1) := by decide +kernel
theorem dX2_addToShop_7 : decode cX2_addToShop 7 = .ok (.iload_n 2, 1) := by decide +kernel
theorem dX2_addToShop_8 : decode cX2_addToShop 8 = .ok (.iadd, 1) := by decide +kernel
theorem dX2_addToShop_9 : decode cX2_addToShop 9 = .ok (.istore 4, 2) := by decide +kernel
theorem dX2_addToShop_11 : decode cX2_addToShop 11 = .ok (.aload_n 0, 1) := by decide +kernel
theorem dX2_addToShop_12 : decode cX2_addToShop 12 = .ok (.iload 4, 2) := by decide +kernel
theorem dX2_addToShop_14 : decode cX2_addToShop 14 = .ok (.aload_n 0, 1) := by decide +kernel
theorem dX2_addToShop_15 : decode cX2_addToShop 15 = .ok (.iload 4, 2) := by decide +kernel
theorem dX2_addToShop_17 : decode cX2_addToShop 17 = .ok (.invokevirtual 32, 3) := by decide +kernel
theorem dX2_addToShop_20 : decode cX2_addToShop 20 = .ok (.iload_n 3, 1) := by decide +kernel
theorem dX2_addToShop_21 : decode cX2_addToShop 21 = .ok (.iadd, 1) := by decide +kernel
theorem dX2_addToShop_22 : decode cX2_addToShop 22 = .ok (.invokevirtual 36, 3) := by decide +kernel
theorem dX2_addToShop_25 : decode cX2_addToShop 25 = .ok (.return_, 1) := by decide +kernel
set_option maxRecDepth 20000 in
theorem ggX2_ofSwaps_X2_get : GoodIn wsX2_ofSwaps wsX2_get := goodIn_r _ [5, 6, 7] (by decide +kernel) (by decide +kernel)
set_option maxRecDepth 20000 in
theorem gX2_ofSwaps_X2_get : GoodIn wsX2_ofSwaps (wsV RX2 32 RX2 yX2_get wsX2_get) := goodIn_app (goodIn_of _ (by decide +kernel)) ggX2_ofSwaps_X2_get
theorem dX2_ofSwaps_0 : decode cX2_ofSwaps 0 = .ok (.aload_n 0, 1) := by decide +kernel
theorem dX2_ofSwaps_1 : decode cX2_ofSwaps 1 = .ok (.sipush 281, 3) := by decide +kernel
theorem dX2_ofSwaps_4 : decode cX2_ofSwaps 4 = .ok (.iload_n 1, 1) := by decide +kernel
theorem dX2_ofSwaps_5 : decode cX2_ofSwaps 5 = .ok (.bipush 8, 2) := by decide +kernel
theorem dX2_ofSwaps_7 : decode cX2_ofSwaps 7 = .ok (.imul, 1) := by decide +kernel
theorem dX2_ofSwaps_8 : decode cX2_ofSwaps 8 = .ok (.iadd, 1) := by decide +kernel
theorem dX2_ofSwaps_9 : decode cX2_ofSwaps 9 = .ok (.iload_n 2, 1) := by decide +kernel
theorem dX2_ofSwaps_10 : decode cX2_ofSwaps 10 = .ok (.iadd, 1) := by decide +kernel
theorem dX2_ofSwaps_11 : decode cX2_ofSwaps 11 = .ok (.invokevirtual 32, 3) := by decide +kernel
theorem dX2_ofSwaps_14 : decode cX2_ofSwaps 14 = .ok (.ireturn, 1) := by decide +kernel
set_option maxRecDepth 20000 in
theorem ggX2_addToSwaps_X2_get : GoodIn wsX2_addToSwaps wsX2_get := goodIn_r _ [5, 6, 11] (by decide +kernel) (by decide +kernel)
set_option maxRecDepth 20000 in
theorem gX2_addToSwaps_X2_get : GoodIn wsX2_addToSwaps (wsV RX2 32 RX2 yX2_get wsX2_get) := goodIn_app (goodIn_of _ (by decide +kernel)) ggX2_addToSwaps_X2_get
set_option maxRecDepth 20000 in
theorem ggX2_addToSwaps_X2_put : GoodIn wsX2_addToSwaps wsX2_put := goodIn_r _ [10, 6, 11] (by decide +kernel) (by decide +kernel)
set_option maxRecDepth 20000 in
theorem gX2_addToSwaps_X2_put : GoodIn wsX2_addToSwaps (wsV RX2 36 RX2 yX2_put wsX2_put) := goodIn_app (goodIn_of _ (by decide +kernel)) ggX2_addToSwaps_X2_put
theorem dX2_addToSwaps_0 : decode cX2_addToSwaps 0 = .ok (.sipush 281, 3) := by decide +kernel
theorem dX2_addToSwaps_3 : decode cX2_addToSwaps 3 = .ok (.iload_n 1, 1) := by decide +kernel
theorem dX2_addToSwaps_4 : decode cX2_addToSwaps 4 = .ok (.bipush 8, 2) := by decide +kernel
theorem dX2_addToSwaps_6 : decode cX2_addToSwaps 6 = .ok (.imul, 1) := by decide +kernel
theorem dX2_addToSwaps_7 : decode cX2_addToSwaps 7 = .ok (.iadd, 1) := by decide +kernel
theorem dX2_addToSwaps_8 : decode cX2_addToSwaps 8 = .ok (.iload_n 2, 1) := by decide +kernel
theorem dX2_addToSwaps_9 : decode cX2_addToSwaps 9 = .ok (.iadd, 1) := by decide +kernel
theorem dX2_addToSwaps_10 : decode cX2_addToSwaps 10 = .ok (.istore 4, 2) := by decide +kernel
theorem dX2_addToSwaps_12 : decode cX2_addToSwaps 12 = .ok (.aload_n 0, 1) := by decide +kernel
theorem dX2_addToSwaps_13 : decode cX2_addToSwaps 13 = .ok (.iload 4, 2) := by decide +kernel
theorem dX2_addToSwaps_15 : decode cX2_addToSwaps 15 = .ok (.aload_n 0, 1) := by decide +kernel
theorem dX2_addToSwaps_16 : decode cX2_addToSwaps 16 = .ok (.iload 4, 2) := by decide +kernel
theorem dX2_addToSwaps_18 : decode cX2_addToSwaps 18 = .ok (.invokevirtual 32, 3) := by decide +kernel
theorem dX2_addToSwaps_21 : decode cX2_addToSwaps 21 = .ok (.iload_n 3, 1) := by decide +kernel
theorem dX2_addToSwaps_22 : decode cX2_addToSwaps 22 = .ok (.iadd, 1) := by decide +kernel
theorem dX2_addToSwaps_23 : decode cX2_addToSwaps 23 = .ok (.invokevirtual 36, 3) := by decide +kernel
theorem dX2_addToSwaps_26 : decode cX2_addToSwaps 26 = .ok (.return_, 1) := by decide +kernel
set_option maxRecDepth 20000 in
theorem ggX2_brandNumber_X2_overShops : GoodIn wsX2_brandNumber wsX2_overShops := goodIn_r _ [5, 6, 7, 8, 4, 9, 10, 11, 12, 13, 14, 19] (by decide +kernel) (by decide +kernel)
set_option maxRecDepth 20000 in
theorem gX2_brandNumber_X2_overShops : GoodIn wsX2_brandNumber (wsV RX2 39 RX2 yX2_overShops wsX2_overShops) := goodIn_app (goodIn_of _ (by decide +kernel)) ggX2_brandNumber_X2_overShops
set_option maxRecDepth 20000 in
theorem ggX2_brandNumber_X2_ofBrand : GoodIn wsX2_brandNumber wsX2_ofBrand := goodIn_r _ [18, 10, 11, 12, 4, 13, 14, 19] (by decide +kernel) (by decide +kernel)
set_option maxRecDepth 20000 in
theorem gX2_brandNumber_X2_ofBrand : GoodIn wsX2_brandNumber (wsV RX2 42 RX2 yX2_ofBrand wsX2_ofBrand) := goodIn_app (goodIn_of _ (by decide +kernel)) ggX2_brandNumber_X2_ofBrand
theorem dX2_brandNumber_0 : decode cX2_brandNumber 0 = .ok (.iload_n 2, 1) := by decide +kernel
theorem dX2_brandNumber_1 : decode cX2_brandNumber 1 = .ok (.lookupswitch 45 #[(3, 27), (4, 36)], 27) := by decide +kernel
theorem dX2_brandNumber_28 : decode cX2_brandNumber 28 = .ok (.aload_n 0, 1) := by decide +kernel
theorem dX2_brandNumber_29 : decode cX2_brandNumber 29 = .ok (.bipush 10, 2) := by decide +kernel
theorem dX2_brandNumber_31 : decode cX2_brandNumber 31 = .ok (.iload_n 1, 1) := by decide +kernel
theorem dX2_brandNumber_32 : decode cX2_brandNumber 32 = .ok (.iadd, 1) := by decide +kernel
theorem dX2_brandNumber_33 : decode cX2_brandNumber 33 = .ok (.invokevirtual 39, 3) := by decide +kernel
theorem dX2_brandNumber_36 : decode cX2_brandNumber 36 = .ok (.ireturn, 1) := by decide +kernel
theorem dX2_brandNumber_37 : decode cX2_brandNumber 37 = .ok (.aload_n 0, 1) := by decide +kernel
theorem dX2_brandNumber_38 : decode cX2_brandNumber 38 = .ok (.bipush 20, 2) := by decide +kernel
theorem dX2_brandNumber_40 : decode cX2_brandNumber 40 = .ok (.iload_n 1, 1) := by decide +kernel
theorem dX2_brandNumber_41 : decode cX2_brandNumber 41 = .ok (.iadd, 1) := by decide +kernel
theorem dX2_brandNumber_42 : decode cX2_brandNumber 42 = .ok (.invokevirtual 39, 3) := by decide +kernel
theorem dX2_brandNumber_45 : decode cX2_brandNumber 45 = .ok (.ireturn, 1) := by decide +kernel
theorem dX2_brandNumber_46 : decode cX2_brandNumber 46 = .ok (.aload_n 0, 1) := by decide +kernel
theorem dX2_brandNumber_47 : decode cX2_brandNumber 47 = .ok (.iload_n 1, 1) := by decide +kernel
theorem dX2_brandNumber_48 : decode cX2_brandNumber 48 = .ok (.iload_n 2, 1) := by decide +kernel
theorem dX2_brandNumber_49 : decode cX2_brandNumber 49 = .ok (.invokevirtual 42, 3) := by decide +kernel
theorem dX2_brandNumber_52 : decode cX2_brandNumber 52 = .ok (.ireturn, 1) := by decide +kernel
set_option maxRecDepth 20000 in
theorem ggX2_shopNumber_X2_overBrandsOf : GoodIn wsX2_shopNumber wsX2_overBrandsOf := goodIn_r _ [5, 6, 7, 8, 4, 9, 10, 11, 12, 13, 14, 15] (by decide +kernel) (by decide +kernel)
set_option maxRecDepth 20000 in
theorem gX2_shopNumber_X2_overBrandsOf : GoodIn wsX2_shopNumber (wsV RX2 46 RX2 yX2_overBrandsOf wsX2_overBrandsOf) := goodIn_app (goodIn_of _ (by decide +kernel)) ggX2_shopNumber_X2_overBrandsOf
set_option maxRecDepth 20000 in
theorem ggX2_shopNumber_X2_ofShop : GoodIn wsX2_shopNumber wsX2_ofShop := goodIn_r _ [9, 10, 11, 12, 4, 13, 14, 15] (by decide +kernel) (by decide +kernel)
set_option maxRecDepth 20000 in
theorem gX2_shopNumber_X2_ofShop : GoodIn wsX2_shopNumber (wsV RX2 49 RX2 yX2_ofShop wsX2_ofShop) := goodIn_app (goodIn_of _ (by decide +kernel)) ggX2_shopNumber_X2_ofShop
theorem dX2_shopNumber_0 : decode cX2_shopNumber 0 = .ok (.iload_n 2, 1) := by decide +kernel
theorem dX2_shopNumber_1 : decode cX2_shopNumber 1 = .ok (.lookupswitch 43 #[(2, 27), (3, 35)], 27) := by decide +kernel
theorem dX2_shopNumber_28 : decode cX2_shopNumber 28 = .ok (.aload_n 0, 1) := by decide +kernel
theorem dX2_shopNumber_29 : decode cX2_shopNumber 29 = .ok (.iload_n 1, 1) := by decide +kernel
theorem dX2_shopNumber_30 : decode cX2_shopNumber 30 = .ok (.bipush 10, 2) := by decide +kernel
theorem dX2_shopNumber_32 : decode cX2_shopNumber 32 = .ok (.invokevirtual 46, 3) := by decide +kernel
theorem dX2_shopNumber_35 : decode cX2_shopNumber 35 = .ok (.ireturn, 1) := by decide +kernel
theorem dX2_shopNumber_36 : decode cX2_shopNumber 36 = .ok (.aload_n 0, 1) := by decide +kernel
theorem dX2_shopNumber_37 : decode cX2_shopNumber 37 = .ok (.iload_n 1, 1) := by decide +kernel
theorem dX2_shopNumber_38 : decode cX2_shopNumber 38 = .ok (.bipush 20, 2) := by decide +kernel
theorem dX2_shopNumber_40 : decode cX2_shopNumber 40 = .ok (.invokevirtual 46, 3) := by decide +kernel
theorem dX2_shopNumber_43 : decode cX2_shopNumber 43 = .ok (.ireturn, 1) := by decide +kernel
theorem dX2_shopNumber_44 : decode cX2_shopNumber 44 = .ok (.aload_n 0, 1) := by decide +kernel
theorem dX2_shopNumber_45 : decode cX2_shopNumber 45 = .ok (.iload_n 1, 1) := by decide +kernel
theorem dX2_shopNumber_46 : decode cX2_shopNumber 46 = .ok (.iload_n 2, 1) := by decide +kernel
theorem dX2_shopNumber_47 : decode cX2_shopNumber 47 = .ok (.invokevirtual 49, 3) := by decide +kernel
theorem dX2_shopNumber_50 : decode cX2_shopNumber 50 = .ok (.ireturn, 1) := by decide +kernel
set_option maxRecDepth 20000 in
theorem ggX2_countNumber_X2_overShops : GoodIn wsX2_countNumber wsX2_overShops := goodIn_r _ [5, 6, 7, 8, 4, 9, 10, 11, 12, 13, 14, 27] (by decide +kernel) (by decide +kernel)
set_option maxRecDepth 20000 in
theorem gX2_countNumber_X2_overShops : GoodIn wsX2_countNumber (wsV RX2 39 RX2 yX2_overShops wsX2_overShops) := goodIn_app (goodIn_of _ (by decide +kernel)) ggX2_countNumber_X2_overShops
set_option maxRecDepth 20000 in
theorem ggX2_countNumber_X2_overBrands : GoodIn wsX2_countNumber wsX2_overBrands := goodIn_r _ [18, 19, 20, 21, 4, 22, 10, 11, 12, 13, 14, 27] (by decide +kernel) (by decide +kernel)
set_option maxRecDepth 20000 in
theorem gX2_countNumber_X2_overBrands : GoodIn wsX2_countNumber (wsV RX2 52 RX2 yX2_overBrands wsX2_overBrands) := goodIn_app (goodIn_of _ (by decide +kernel)) ggX2_countNumber_X2_overBrands
set_option maxRecDepth 20000 in
theorem ggX2_countNumber_X2_ofAll : GoodIn wsX2_countNumber wsX2_ofAll := goodIn_r _ [26, 10, 11, 12, 4, 13, 14, 27] (by decide +kernel) (by decide +kernel)
set_option maxRecDepth 20000 in
theorem gX2_countNumber_X2_ofAll : GoodIn wsX2_countNumber (wsV RX2 55 RX2 yX2_ofAll wsX2_ofAll) := goodIn_app (goodIn_of _ (by decide +kernel)) ggX2_countNumber_X2_ofAll
theorem dX2_countNumber_0 : decode cX2_countNumber 0 = .ok (.iload_n 1, 1) := by decide +kernel
theorem dX2_countNumber_1 : decode cX2_countNumber 1 = .ok (.lookupswitch 54 #[(3, 35), (7, 41), (8, 47)], 35) := by decide +kernel
theorem dX2_countNumber_36 : decode cX2_countNumber 36 = .ok (.aload_n 0, 1) := by decide +kernel
theorem dX2_countNumber_37 : decode cX2_countNumber 37 = .ok (.iconst 1, 1) := by decide +kernel
theorem dX2_countNumber_38 : decode cX2_countNumber 38 = .ok (.invokevirtual 39, 3) := by decide +kernel
theorem dX2_countNumber_41 : decode cX2_countNumber 41 = .ok (.ireturn, 1) := by decide +kernel

