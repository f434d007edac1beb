set_option maxRecDepth 100000 in
theorem wsL_law0_r1_in : ∀ w ∈ wsL_law0_r1, w ∈ lw_tbl := fun w h => (goodIn_r (big := lw_tbl) wsL_law0_r1 [16, 17, 3, 37, 525, 554, 551, 552, 15, 553, 414, 534, 415, 14, 420, 422, 424, 432, 548, 549, 550, 555, 18, 19] rfl (by decide +kernel) w h).1
set_option maxRecDepth 100000 in
theorem wsL_law0_r2_in : ∀ w ∈ wsL_law0_r2, w ∈ lw_tbl := fun w h => (goodIn_r (big := lw_tbl) wsL_law0_r2 [20, 21, 22, 23, 24, 25, 4, 110, 38, 39, 5, 111, 112, 26, 27, 28, 29, 30, 31, 40, 41, 42, 43, 85] rfl (by decide +kernel) w h).1
set_option maxRecDepth 100000 in
theorem wsL_law0_r3_in : ∀ w ∈ wsL_law0_r3, w ∈ lw_tbl := fun w h => (goodIn_r (big := lw_tbl) wsL_law0_r3 [44, 86, 46, 6, 48, 49, 50, 514, 515, 2, 516, 517, 518, 7, 519, 520, 521, 522, 529, 531, 523, 533, 453, 454] rfl (by decide +kernel) w h).1
set_option maxRecDepth 100000 in
theorem wsL_law0_r4_in : ∀ w ∈ wsL_law0_r4, w ∈ lw_tbl := fun w h => (goodIn_r (big := lw_tbl) wsL_law0_r4 [455, 456, 449, 450, 451, 452, 457, 458, 459, 532, 530, 428, 426, 527, 430, 498, 499, 460, 461, 462, 463, 273, 11, 130] rfl (by decide +kernel) w h).1
set_option maxRecDepth 100000 in
theorem wsL_law0_r5_in : ∀ w ∈ wsL_law0_r5, w ∈ lw_tbl := fun w h => (goodIn_r (big := lw_tbl) wsL_law0_r5 [12, 127, 128, 129, 465, 235, 236, 237, 466, 467, 468, 469, 470, 471, 472, 473, 476, 330, 331, 332, 477, 478, 479, 480] rfl (by decide +kernel) w h).1
set_option maxRecDepth 100000 in
theorem wsL_law0_r6_in : ∀ w ∈ wsL_law0_r6, w ∈ lw_tbl := fun w h => (goodIn_r (big := lw_tbl) wsL_law0_r6 [481, 384, 385, 386, 429, 423, 421, 425, 387, 388, 389, 390, 482, 483, 484, 485, 210, 13, 63, 269, 271, 1, 272, 88] rfl (by decide +kernel) w h).1
set_option maxRecDepth 100000 in
theorem wsL_law0_r7_in : ∀ w ∈ wsL_law0_r7, w ∈ lw_tbl := fun w h => (goodIn_r (big := lw_tbl) wsL_law0_r7 [290, 249, 250, 251, 486, 304, 305, 306, 62, 488, 296, 297, 298, 299, 300, 301, 302, 55, 52, 58, 303, 230, 231, 232] rfl (by decide +kernel) w h).1
