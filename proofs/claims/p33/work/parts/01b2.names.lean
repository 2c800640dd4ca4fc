theorem bmem_of {big ws : List Cond} (ps : List Nat) (hp : ps.map (fun i => big[i]?) = ws.map some) : ∀ w ∈ ws, w ∈ big := by
  intro w hw
  have h1 : some w ∈ ws.map some := List.mem_map.mpr ⟨w, hw, rfl⟩
  rw [← hp] at h1
  obtain ⟨i, -, hi⟩ := List.mem_map.mp h1
  exact List.mem_of_getElem? hi
set_option maxRecDepth 100000 in
theorem bm_wsL_law0_r1 : ∀ w ∈ wsL_law0_r1, w ∈ lw_tbl := bmem_of [71, 72, 57, 108, 73, 74, 75, 76, 77, 78, 79, 80, 58, 172, 170, 117, 118, 60, 171, 136, 137, 61, 173, 168] (by decide +kernel)
set_option maxRecDepth 100000 in
theorem bm_wsL_law0_r2 : ∀ w ∈ wsL_law0_r2, w ∈ lw_tbl := bmem_of [143, 62, 174, 82, 83, 84, 85, 86, 59, 109, 111, 88, 89, 90, 104, 94, 95, 96, 98, 0, 99, 100, 102, 1] (by decide +kernel)
set_option maxRecDepth 100000 in
theorem bm_wsL_law0_r3 : ∀ w ∈ wsL_law0_r3, w ∈ lw_tbl := bmem_of [103, 120, 121, 122, 123, 126, 139, 140, 141, 159, 142, 160, 145, 146, 147, 462, 463, 56, 464, 465, 466, 453, 454, 455] (by decide +kernel)
set_option maxRecDepth 100000 in
theorem bm_wsL_law0_r4 : ∀ w ∈ wsL_law0_r4, w ∈ lw_tbl := bmem_of [456, 459, 27, 460, 461, 427, 23, 428, 334, 336, 12, 337, 338, 340, 13, 341, 271, 273, 4, 274, 346, 348, 15, 349] (by decide +kernel)
set_option maxRecDepth 100000 in
theorem bm_wsL_law0_r5 : ∀ w ∈ wsL_law0_r5, w ∈ lw_tbl := bmem_of [433, 434, 435, 436, 190, 191, 192, 193, 194, 195, 196, 197, 198, 199, 66, 439, 24, 440, 441, 443, 25, 444, 450, 451] (by decide +kernel)
