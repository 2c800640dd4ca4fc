set_option maxRecDepth 100000 in
theorem bm_wsL_law0_r16 : ∀ w ∈ wsL_law0_r16, w ∈ lw_tbl := bmem_of [627, 628, 631, 50, 632, 633, 634, 635, 636, 639, 51, 640, 643, 52, 644, 645, 646, 647, 648, 649, 650, 651, 652, 655] (by decide +kernel)
set_option maxRecDepth 100000 in
theorem bh_brands : Cond.code yL_brands cL_brands 10 (some .boolean) ∈ lw_tbl := List.mem_append_right _ (List.mem_append_right _ (List.mem_append_left _ (List.mem_of_getElem? (i := 173) rfl)))
set_option maxRecDepth 100000 in
theorem bh_money : Cond.code yL_money cL_money 11 (some .boolean) ∈ lw_tbl := List.mem_append_right _ (List.mem_append_right _ (List.mem_append_left _ (List.mem_of_getElem? (i := 200) rfl)))
set_option maxRecDepth 100000 in
theorem bm_wsL_law0_r17 : ∀ w ∈ wsL_law0_r17, w ∈ lw_tbl := by
  show ∀ w ∈ ([Cond.selects RX4 yX4_swapBottles yX4_swapBottles, Cond.code yX4_swapBottles cX4_swapBottles 4 (some .int), Cond.instanceMethod yX2_addToSwaps, Cond.selects RX2 yX2_addToSwaps yX2_addToSwaps, Cond.code yX2_addToSwaps cX2_addToSwaps 5 none, Cond.instanceMethod yX2_ofSwaps, Cond.selects RX2 yX2_ofSwaps yX2_ofSwaps, Cond.code yX2_ofSwaps cX2_ofSwaps 3 (some .int), Cond.methodLink RL 102 yL_brands, Cond.static yL_brands] ++ (Cond.code yL_brands cL_brands 10 (some .boolean) :: ([Cond.methodLink RL 106 yL_money, Cond.static yL_money] ++ (Cond.code yL_money cL_money 11 (some .boolean) :: [Cond.methodLink RL 109 yX5_undo, Cond.instanceMethod yX5_undo, Cond.selects RX5 yX5_undo yX5_undo, Cond.code yX5_undo cX5_undo 1 (some .int), Cond.instanceMethod yX1_giveBack, Cond.selects RX1 yX1_giveBack yX1_giveBack, Cond.code yX1_giveBack cX1_giveBack 2 none])))), w ∈ lw_tbl
  exact (List.forall_mem_append.mpr ⟨bmem_of [53, 656, 659, 54, 660, 663, 55, 664, 467, 468] (by decide +kernel), (List.forall_mem_cons.mpr ⟨bh_brands, (List.forall_mem_append.mpr ⟨bmem_of [494, 495] (by decide +kernel), (List.forall_mem_cons.mpr ⟨bh_money, (bmem_of [409, 410, 411, 412, 419, 22, 420] (by decide +kernel))⟩)⟩)⟩)⟩)
set_option maxRecDepth 100000 in
theorem bm_wsX50 : ∀ w ∈ wsX50, w ∈ lw_tbl := bmem_of [175, 177, 179, 181, 183] (by decide +kernel)
set_option maxRecDepth 100000 in
theorem bm_wsX40 : ∀ w ∈ wsX40, w ∈ lw_tbl := bmem_of [112, 114] (by decide +kernel)
set_option maxRecDepth 100000 in
theorem bm_wsX10 : ∀ w ∈ wsX10, w ∈ lw_tbl := bmem_of [129, 131, 133] (by decide +kernel)
