set_option maxRecDepth 20000 in
theorem tin_r1 : ∀ w ∈ wsL_law_r1, w ∈ lw_tbl := mem_pl [29, 30, 22, 31, 32, 33, 34, 35, 36, 37, 38, 23, 131, 132, 133, 136, 130, 137, 115, 116, 25, 139, 40, 41] (by decide +kernel)
set_option maxRecDepth 20000 in
theorem tgd_r1 : wsL_law_r1.all goodWord = true := by decide +kernel
set_option maxRecDepth 20000 in
theorem tin_r2 : ∀ w ∈ wsL_law_r2, w ∈ lw_tbl := mem_pl [42, 69, 74, 43, 44, 24, 75, 77, 78, 79, 80, 81, 82, 83, 84, 46, 47, 48, 53, 54, 56, 118, 119, 120] (by decide +kernel)
set_option maxRecDepth 20000 in
theorem tgd_r2 : wsL_law_r2.all goodWord = true := by decide +kernel
set_option maxRecDepth 20000 in
theorem tin_r3 : ∀ w ∈ wsL_law_r3, w ∈ lw_tbl := mem_pl [161, 162, 21, 163, 164, 275, 276, 277, 168, 169, 170, 171, 138, 135, 172, 173, 174, 175, 70, 73, 50, 52, 176, 177] (by decide +kernel)
set_option maxRecDepth 20000 in
theorem tgd_r3 : wsL_law_r3.all goodWord = true := by decide +kernel
set_option maxRecDepth 20000 in
theorem tin_r4 : ∀ w ∈ wsL_law_r4, w ∈ lw_tbl := mem_pl [178, 179, 180, 182, 0, 183, 184, 186, 1, 187, 278, 279, 280, 281, 282, 284, 4, 285, 134, 286, 287, 288, 289, 71] (by decide +kernel)
set_option maxRecDepth 20000 in
theorem tgd_r4 : wsL_law_r4.all goodWord = true := by decide +kernel
set_option maxRecDepth 20000 in
theorem tin_r5 : ∀ w ∈ wsL_law_r5, w ∈ lw_tbl := mem_pl [72, 290, 292, 291, 26, 293, 294, 295, 296, 49, 51, 297, 298, 299, 300, 301, 243, 245, 3, 246, 219, 220, 302, 304] (by decide +kernel)
set_option maxRecDepth 20000 in
theorem tgd_r5 : wsL_law_r5.all goodWord = true := by decide +kernel
