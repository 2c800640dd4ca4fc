set_option maxRecDepth 100000 in
theorem bm_wsX30 : ∀ w ∈ wsX30, w ∈ lw_tbl := bmem_of [161, 163, 165] (by decide +kernel)
set_option maxRecDepth 100000 in
theorem bm_wsX00 : ∀ w ∈ wsX00, w ∈ lw_tbl := bmem_of [148, 150, 152, 154, 156] (by decide +kernel)
set_option maxRecDepth 100000 in
theorem bm_wsX20 : ∀ w ∈ wsX20, w ∈ lw_tbl := bmem_of [105] (by decide +kernel)
