set_option maxRecDepth 100000 in
theorem wsL_law0_r8_in : ∀ w ∈ wsL_law0_r8, w ∈ lw_tbl := fun w h => (goodIn_r (big := lw_tbl) wsL_law0_r8 [233, 234, 489, 392, 393, 394, 427, 383, 490, 491, 492, 493, 66, 494, 312, 313, 314, 60, 315, 496, 308, 309, 310, 311] rfl (by decide +kernel) w h).1
set_option maxRecDepth 100000 in
theorem wsL_law0_r9_in : ∀ w ∈ wsL_law0_r9, w ∈ lw_tbl := fun w h => (goodIn_r (big := lw_tbl) wsL_law0_r9 [295, 497, 364, 365, 366, 89, 91, 367, 368, 369, 370, 526, 371, 372, 500, 501, 502, 503, 504, 505, 90, 507, 257, 258] rfl (by decide +kernel) w h).1
set_option maxRecDepth 100000 in
theorem wsL_law0_r10_in : ∀ w ∈ wsL_law0_r10, w ∈ lw_tbl := fun w h => (goodIn_r (big := lw_tbl) wsL_law0_r10 [259, 260, 373, 374, 375, 376, 377, 431, 528, 524, 378, 342, 343, 344, 345, 92, 346, 347, 348, 350, 351, 352, 353, 354] rfl (by decide +kernel) w h).1
set_option maxRecDepth 100000 in
theorem wsL_law0_r11_in : ∀ w ∈ wsL_law0_r11, w ∈ lw_tbl := fun w h => (goodIn_r (big := lw_tbl) wsL_law0_r11 [355, 356, 357, 358, 87, 94, 329, 256, 248, 328, 359, 360, 361, 362, 57, 54, 65, 51, 363, 508, 417, 418, 419, 510] rfl (by decide +kernel) w h).1
set_option maxRecDepth 100000 in
theorem wsL_law0_r12_in : ∀ w ∈ wsL_law0_r12, w ∈ lw_tbl := fun w h => (goodIn_r (big := lw_tbl) wsL_law0_r12 [511, 512, 513, 120, 121, 122, 123, 124, 125, 126, 198, 199, 200, 202, 203, 204, 206, 207, 208, 209, 226, 227, 228, 229] rfl (by decide +kernel) w h).1
set_option maxRecDepth 100000 in
theorem wsL_law0_r13_in : ∀ w ∈ wsL_law0_r13, w ∈ lw_tbl := fun w h => (goodIn_r (big := lw_tbl) wsL_law0_r13 [240, 241, 242, 243, 244, 245, 246, 247, 93, 252, 253, 254, 255, 68, 316, 317, 318, 319, 320, 321, 322, 323, 324, 325] rfl (by decide +kernel) w h).1
set_option maxRecDepth 100000 in
theorem wsL_law0_r14_in : ∀ w ∈ wsL_law0_r14, w ∈ lw_tbl := fun w h => (goodIn_r (big := lw_tbl) wsL_law0_r14 [326, 327, 333, 334, 335, 336, 337, 338, 339, 340, 341, 59, 56, 265, 266, 267, 268, 291, 292, 293, 294, 61, 64, 67] rfl (by decide +kernel) w h).1
