set_option maxRecDepth 100000 in
theorem bm_wsL_law0_r11 : ∀ w ∈ wsL_law0_r11, w ∈ lw_tbl := bmem_of [478, 480, 29, 481, 515, 32, 516, 518, 520, 33, 521, 522, 524, 34, 525, 526, 527, 528, 529, 532, 35, 533, 497, 498] (by decide +kernel)
set_option maxRecDepth 100000 in
theorem bm_wsL_law0_r12 : ∀ w ∈ wsL_law0_r12, w ∈ lw_tbl := bmem_of [499, 500, 534, 535, 536, 537, 540, 36, 541, 470, 471, 472, 473, 483, 484, 485, 488, 30, 489, 490, 492, 31, 493, 544] (by decide +kernel)
set_option maxRecDepth 100000 in
theorem bm_wsL_law0_r13 : ∀ w ∈ wsL_law0_r13, w ∈ lw_tbl := bmem_of [545, 546, 547, 550, 37, 551, 552, 553, 554, 557, 38, 558, 559, 561, 39, 562, 563, 564, 565, 566, 569, 40, 570, 573] (by decide +kernel)
set_option maxRecDepth 100000 in
theorem bm_wsL_law0_r14 : ∀ w ∈ wsL_law0_r14, w ∈ lw_tbl := bmem_of [41, 574, 575, 576, 577, 578, 581, 42, 582, 583, 585, 43, 586, 587, 589, 44, 590, 591, 593, 45, 594, 595, 597, 46] (by decide +kernel)
set_option maxRecDepth 100000 in
theorem bm_wsL_law0_r15 : ∀ w ∈ wsL_law0_r15, w ∈ lw_tbl := bmem_of [598, 600, 601, 602, 603, 605, 606, 607, 608, 611, 47, 612, 613, 614, 615, 616, 619, 48, 620, 623, 49, 624, 625, 626] (by decide +kernel)
