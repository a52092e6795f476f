theorem mem_pl2 {big ws a b : List Cond} {x : Cond} (e : ws = a ++ x :: b) (ha : ∀ w ∈ a, w ∈ big) (hb : ∀ w ∈ b, w ∈ big) (hx : x ∈ big) : ∀ w ∈ ws, w ∈ big := by
  intro w hw
  rw [e] at hw
  rcases List.mem_append.mp hw with h | h
  · exact ha w h
  · rcases List.mem_cons.mp h with h | h
    · rw [h]; exact hx
    · exact hb w h
set_option maxRecDepth 20000 in
theorem tin_r11 : ∀ w ∈ wsL_law_r11, w ∈ lw_tbl := mem_pl [359, 360, 361, 362, 363, 364, 365, 366, 367, 368, 369, 370, 371, 372, 373, 374, 375, 376, 377, 378, 379, 380, 381, 382] (by decide +kernel)
set_option maxRecDepth 20000 in
theorem tgd_r11 : wsL_law_r11.all goodWord = true := by decide +kernel
set_option maxRecDepth 20000 in
theorem tin_r12 : ∀ w ∈ wsL_law_r12, w ∈ lw_tbl := mem_pl [383, 384, 385, 386, 387, 388, 389, 391, 11, 392, 393, 395, 12, 396, 397, 398, 28, 399, 400, 401, 402, 403, 404, 405] (by decide +kernel)
set_option maxRecDepth 20000 in
theorem tgd_r12 : wsL_law_r12.all goodWord = true := by decide +kernel
set_option maxRecDepth 20000 in
theorem tin_r13 : ∀ w ∈ wsL_law_r13, w ∈ lw_tbl := mem_pl2 (x := Cond.code yL_isDelivered cL_isDelivered 24 (some .boolean)) (a := wsL_law_r13.take 23) (b := wsL_law_r13.drop 24) rfl (mem_pl [406, 407, 408, 409, 410, 411, 412, 413, 414, 415, 416, 417, 418, 419, 420, 421, 422, 423, 424, 425, 426, 431, 432] (by decide +kernel)) (mem_pl [] (by decide +kernel)) (List.mem_append_right _ (List.mem_of_getElem? (i := 412) rfl))
set_option maxRecDepth 20000 in
theorem tgd_r13 : wsL_law_r13.all goodWord = true := by decide +kernel
set_option maxRecDepth 20000 in
theorem tin_r14 : ∀ w ∈ wsL_law_r14, w ∈ lw_tbl := mem_pl [434, 435, 436, 437, 438, 439, 440, 441, 442, 443, 445, 13, 446, 447, 449, 14, 450, 451, 453, 15, 454, 455, 457, 16] (by decide +kernel)
set_option maxRecDepth 20000 in
theorem tgd_r14 : wsL_law_r14.all goodWord = true := by decide +kernel
set_option maxRecDepth 20000 in
theorem tin_r15 : ∀ w ∈ wsL_law_r15, w ∈ lw_tbl := mem_pl2 (x := Cond.code yL_agree cL_agree 11 (some .boolean)) (a := wsL_law_r15.take 19) (b := wsL_law_r15.drop 20) rfl (mem_pl [458, 459, 461, 17, 462, 463, 465, 18, 466, 467, 469, 19, 470, 471, 473, 20, 474, 165, 166] (by decide +kernel)) (mem_pl [221, 222, 223, 224] (by decide +kernel)) (List.mem_append_right _ (List.mem_of_getElem? (i := 146) rfl))
set_option maxRecDepth 20000 in
theorem tgd_r15 : wsL_law_r15.all goodWord = true := by decide +kernel
set_option maxRecDepth 20000 in
theorem tin_r16 : ∀ w ∈ wsL_law_r16, w ∈ lw_tbl := mem_pl [225, 226, 227, 228, 229, 230, 231, 255, 256, 257, 258, 259, 260, 261, 262] (by decide +kernel)
set_option maxRecDepth 20000 in
theorem tgd_r16 : wsL_law_r16.all goodWord = true := by decide +kernel
