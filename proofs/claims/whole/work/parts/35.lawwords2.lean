set_option maxRecDepth 100000 in
theorem wsL_law0_r15_in : ∀ w ∈ wsL_law0_r15, w ∈ lw_tbl := fun w h => (goodIn_r (big := lw_tbl) wsL_law0_r15 [670, 463, 464, 465, 466, 467, 468, 469, 671, 672, 673, 674, 470, 471, 472, 473, 474, 475, 476, 234, 235, 236, 237, 78] rfl (by decide +kernel) w h).1
set_option maxRecDepth 100000 in
theorem wsL_law0_r16_in : ∀ w ∈ wsL_law0_r16, w ∈ lw_tbl := fun w h => (goodIn_r (big := lw_tbl) wsL_law0_r16 [81, 84, 86, 243, 675, 676, 677, 678, 679, 681, 14, 682, 478, 479, 480, 481, 482, 483, 484, 221, 222, 223, 224, 111] rfl (by decide +kernel) w h).1
set_option maxRecDepth 100000 in
theorem wsL_law0_r17_in : ∀ w ∈ wsL_law0_r17, w ∈ lw_tbl := fun w h => (goodIn_r (big := lw_tbl) wsL_law0_r17 [225, 208, 209, 210, 167, 153, 226, 184, 185, 186, 187, 227, 228, 229, 230, 76, 73, 683, 684, 685, 686, 687, 689, 15] rfl (by decide +kernel) w h).1
set_option maxRecDepth 100000 in
theorem wsL_law0_r18_in : ∀ w ∈ wsL_law0_r18, w ∈ lw_tbl := fun w h => (goodIn_r (big := lw_tbl) wsL_law0_r18 [690, 691, 693, 16, 694, 485, 486, 487, 488, 489, 490, 491, 493, 494, 495, 496, 695, 696, 697, 698, 497, 498, 499, 500] rfl (by decide +kernel) w h).1
set_option maxRecDepth 100000 in
theorem wsL_law0_r19_in : ∀ w ∈ wsL_law0_r19, w ∈ lw_tbl := fun w h => (goodIn_r (big := lw_tbl) wsL_law0_r19 [501, 502, 503, 109, 504, 505, 506, 508, 509, 510, 511, 512, 150, 151, 152, 157, 171, 172, 173, 174, 175, 699, 700, 701] rfl (by decide +kernel) w h).1
set_option maxRecDepth 100000 in
theorem wsL_law0_r20_in : ∀ w ∈ wsL_law0_r20, w ∈ lw_tbl := fun w h => (goodIn_r (big := lw_tbl) wsL_law0_r20 [702, 703, 705, 17, 706, 707, 709, 18, 710, 711, 513, 514, 515, 516, 517, 518, 519, 141, 142, 143, 144, 145, 146, 147] rfl (by decide +kernel) w h).1
set_option maxRecDepth 100000 in
theorem wsL_law0_r21_in : ∀ w ∈ wsL_law0_r21, w ∈ lw_tbl := fun w h => (goodIn_r (big := lw_tbl) wsL_law0_r21 [148, 712, 713, 714, 715, 716, 717, 718, 137, 138, 139, 140, 149, 719, 720, 721, 722, 179, 180, 181, 182, 183, 723, 724] rfl (by decide +kernel) w h).1
