set_option maxRecDepth 20000 in
theorem tin_r6 : ∀ w ∈ wsL_law_r6, w ∈ lw_tbl := mem_pl [5, 305, 306, 307, 308, 309, 310, 312, 6, 313, 314, 315, 27, 316, 232, 233, 234, 235, 236, 237, 238, 239, 55, 57] (by decide +kernel)
set_option maxRecDepth 20000 in
theorem tgd_r6 : wsL_law_r6.all goodWord = true := by decide +kernel
set_option maxRecDepth 20000 in
theorem tin_r7 : ∀ w ∈ wsL_law_r7, w ∈ lw_tbl := mem_pl [240, 241, 242, 247, 248, 249, 250, 251, 252, 253, 254, 188, 189, 190, 191, 192, 193, 194, 195, 196, 197, 198, 199, 317] (by decide +kernel)
set_option maxRecDepth 20000 in
theorem tgd_r7 : wsL_law_r7.all goodWord = true := by decide +kernel
set_option maxRecDepth 20000 in
theorem tin_r8 : ∀ w ∈ wsL_law_r8, w ∈ lw_tbl := mem_pl [318, 319, 200, 201, 202, 320, 321, 322, 263, 264, 265, 266, 76, 267, 268, 269, 270, 271, 272, 273, 274, 323, 324, 325] (by decide +kernel)
set_option maxRecDepth 20000 in
theorem tgd_r8 : wsL_law_r8.all goodWord = true := by decide +kernel
set_option maxRecDepth 20000 in
theorem tin_r9 : ∀ w ∈ wsL_law_r9, w ∈ lw_tbl := mem_pl [326, 327, 328, 329, 330, 331, 332, 333, 334, 335, 336, 337, 339, 7, 340, 341, 343, 8, 344, 345, 347, 9, 348, 349] (by decide +kernel)
set_option maxRecDepth 20000 in
theorem tgd_r9 : wsL_law_r9.all goodWord = true := by decide +kernel
set_option maxRecDepth 20000 in
theorem tin_r10 : ∀ w ∈ wsL_law_r10, w ∈ lw_tbl := mem_pl [351, 10, 352, 214, 216, 2, 217, 203, 204, 205, 206, 207, 208, 209, 210, 211, 212, 213, 353, 354, 355, 356, 357, 358] (by decide +kernel)
set_option maxRecDepth 20000 in
theorem tgd_r10 : wsL_law_r10.all goodWord = true := by decide +kernel
