set_option maxRecDepth 100000 in
theorem bm_wsL_law0_r6 : ∀ w ∈ wsL_law0_r6, w ∈ lw_tbl := bmem_of [67, 452, 445, 447, 26, 448, 351, 352, 353, 354, 374, 377, 355, 356, 357, 358, 68, 376, 269, 3, 270, 275, 276, 277] (by decide +kernel)
set_option maxRecDepth 100000 in
theorem bm_wsL_law0_r7 : ∀ w ∈ wsL_law0_r7, w ∈ lw_tbl := bmem_of [278, 69, 296, 5, 297, 127, 128, 298, 300, 6, 301, 304, 7, 305, 306, 308, 307, 70, 381, 16, 382, 326, 327, 328] (by decide +kernel)
set_option maxRecDepth 100000 in
theorem bm_wsL_law0_r8 : ∀ w ∈ wsL_law0_r8, w ∈ lw_tbl := bmem_of [329, 332, 11, 333, 342, 344, 14, 345, 350, 311, 8, 312, 186, 187, 188, 189, 315, 9, 316, 384, 385, 386, 387, 388] (by decide +kernel)
set_option maxRecDepth 100000 in
theorem bm_wsL_law0_r9 : ∀ w ∈ wsL_law0_r9, w ∈ lw_tbl := bmem_of [390, 17, 391, 392, 394, 18, 395, 400, 19, 401, 402, 404, 20, 405, 421, 422, 423, 424, 317, 318, 319, 320, 321, 324] (by decide +kernel)
set_option maxRecDepth 100000 in
theorem bh_acts : Cond.code yL_acts cL_acts 24 (some .boolean) ∈ lw_tbl := List.mem_append_right _ (List.mem_append_right _ (List.mem_append_left _ (List.mem_of_getElem? (i := 207) rfl)))
set_option maxRecDepth 100000 in
theorem bm_wsL_law0_r10 : ∀ w ∈ wsL_law0_r10, w ∈ lw_tbl := by
  show ∀ w ∈ ([Cond.selects RX2 yX2_addToShop yX2_addToShop, Cond.code yX2_addToShop cX2_addToShop 5 none, Cond.methodLink RL 98 yL_acts, Cond.static yL_acts] ++ (Cond.code yL_acts cL_acts 24 (some .boolean) :: [Cond.methodLink RL 9 yX5_count, Cond.instanceMethod yX5_count, Cond.selects RX5 yX5_count yX5_count, Cond.code yX5_count cX5_count 2 (some .int), Cond.instanceMethod yX1_kept, Cond.selects RX1 yX1_kept yX1_kept, Cond.code yX1_kept cX1_kept 1 (some .int), Cond.methodLink RL 29 yX5_filled, Cond.instanceMethod yX5_filled, Cond.selects RX5 yX5_filled yX5_filled, Cond.code yX5_filled cX5_filled 3 (some .int), Cond.methodLink RL 35 yX5_whyNotDeliver, Cond.instanceMethod yX5_whyNotDeliver, Cond.selects RX5 yX5_whyNotDeliver yX5_whyNotDeliver, Cond.code yX5_whyNotDeliver cX5_whyNotDeliver 4 (some .int), Cond.methodLink RX5 110 yX5_needShop, Cond.instanceMethod yX5_needShop, Cond.selects RX5 yX5_needShop yX5_needShop, Cond.code yX5_needShop cX5_needShop 2 none])), w ∈ lw_tbl
  exact (List.forall_mem_append.mpr ⟨bmem_of [10, 325, 501, 502] (by decide +kernel), (List.forall_mem_cons.mpr ⟨bh_acts, (bmem_of [429, 430, 431, 432, 415, 21, 416, 504, 505, 506, 507, 509, 510, 511, 512, 474, 476, 28, 477] (by decide +kernel))⟩)⟩)
