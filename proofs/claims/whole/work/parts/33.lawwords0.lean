set_option maxRecDepth 100000 in
theorem wsL_law0_r1_in : ∀ w ∈ wsL_law0_r1, w ∈ lw_tbl := fun w h => (goodIn_r (big := lw_tbl) wsL_law0_r1 [33, 34, 20, 534, 535, 24, 741, 35, 36, 37, 38, 39, 40, 41, 42, 21, 127, 55, 56, 22, 128, 129, 43, 44] rfl (by decide +kernel) w h).1
set_option maxRecDepth 100000 in
theorem wsL_law0_r2_in : ∀ w ∈ wsL_law0_r2, w ∈ lw_tbl := fun w h => (goodIn_r (big := lw_tbl) wsL_law0_r2 [45, 46, 54, 47, 48, 57, 58, 59, 60, 102, 61, 103, 63, 23, 65, 66, 67, 536, 537, 538, 539, 546, 547, 548] rfl (by decide +kernel) w h).1
set_option maxRecDepth 100000 in
theorem wsL_law0_r3_in : ∀ w ∈ wsL_law0_r3, w ∈ lw_tbl := fun w h => (goodIn_r (big := lw_tbl) wsL_law0_r3 [549, 550, 540, 542, 2, 543, 252, 253, 19, 254, 255, 256, 257, 258, 259, 260, 262, 28, 330, 29, 261, 201, 202, 232] rfl (by decide +kernel) w h).1
set_option maxRecDepth 100000 in
theorem wsL_law0_r4_in : ∀ w ∈ wsL_law0_r4, w ∈ lw_tbl := fun w h => (goodIn_r (big := lw_tbl) wsL_law0_r4 [197, 198, 199, 346, 347, 348, 349, 570, 571, 572, 573, 544, 574, 575, 576, 577, 578, 579, 580, 582, 3, 583, 566, 567] rfl (by decide +kernel) w h).1
set_option maxRecDepth 100000 in
theorem wsL_law0_r5_in : ∀ w ∈ wsL_law0_r5, w ∈ lw_tbl := fun w h => (goodIn_r (big := lw_tbl) wsL_law0_r5 [568, 569, 350, 351, 352, 353, 354, 355, 356, 231, 154, 155, 156, 359, 360, 361, 362, 584, 585, 586, 587, 588, 363, 364] rfl (by decide +kernel) w h).1
set_option maxRecDepth 100000 in
theorem wsL_law0_r6_in : ∀ w ∈ wsL_law0_r6, w ∈ lw_tbl := fun w h => (goodIn_r (big := lw_tbl) wsL_law0_r6 [365, 366, 367, 368, 369, 370, 386, 30, 371, 372, 373, 374, 375, 376, 378, 379, 380, 382, 383, 384, 385, 104, 402, 403] rfl (by decide +kernel) w h).1
set_option maxRecDepth 100000 in
theorem wsL_law0_r7_in : ∀ w ∈ wsL_law0_r7, w ∈ lw_tbl := fun w h => (goodIn_r (big := lw_tbl) wsL_law0_r7 [404, 405, 192, 193, 194, 195, 196, 407, 408, 409, 410, 411, 412, 413, 414, 110, 163, 164, 165, 166, 415, 416, 417, 418] rfl (by decide +kernel) w h).1
