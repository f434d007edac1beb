set_option maxRecDepth 100000 in
theorem wsL_law0_r8_in : ∀ w ∈ wsL_law0_r8, w ∈ lw_tbl := fun w h => (goodIn_r (big := lw_tbl) wsL_law0_r8 [68, 71, 74, 77, 79, 82, 85, 158, 159, 160, 161, 106, 162, 590, 591, 592, 593, 545, 614, 616, 615, 32, 594, 595] rfl (by decide +kernel) w h).1
set_option maxRecDepth 100000 in
theorem wsL_law0_r9_in : ∀ w ∈ wsL_law0_r9, w ∈ lw_tbl := fun w h => (goodIn_r (big := lw_tbl) wsL_law0_r9 [596, 597, 598, 599, 600, 601, 602, 603, 605, 4, 606, 607, 609, 5, 610, 611, 612, 31, 613, 617, 619, 6, 620, 621] rfl (by decide +kernel) w h).1
set_option maxRecDepth 100000 in
theorem wsL_law0_r10_in : ∀ w ∈ wsL_law0_r10, w ∈ lw_tbl := fun w h => (goodIn_r (big := lw_tbl) wsL_law0_r10 [622, 623, 624, 419, 420, 421, 422, 423, 424, 425, 80, 426, 428, 1, 429, 105, 233, 431, 168, 169, 170, 433, 239, 240] rfl (by decide +kernel) w h).1
set_option maxRecDepth 100000 in
theorem wsL_law0_r11_in : ∀ w ∈ wsL_law0_r11, w ∈ lw_tbl := fun w h => (goodIn_r (big := lw_tbl) wsL_law0_r11 [241, 242, 188, 189, 190, 72, 69, 75, 191, 625, 626, 627, 628, 629, 631, 7, 632, 633, 635, 8, 636, 637, 639, 9] rfl (by decide +kernel) w h).1
set_option maxRecDepth 100000 in
theorem wsL_law0_r12_in : ∀ w ∈ wsL_law0_r12, w ∈ lw_tbl := fun w h => (goodIn_r (big := lw_tbl) wsL_law0_r12 [640, 641, 643, 10, 644, 645, 647, 11, 648, 434, 435, 436, 437, 438, 439, 440, 83, 441, 248, 249, 250, 251, 443, 244] rfl (by decide +kernel) w h).1
set_option maxRecDepth 100000 in
theorem wsL_law0_r13_in : ∀ w ∈ wsL_law0_r13, w ∈ lw_tbl := fun w h => (goodIn_r (big := lw_tbl) wsL_law0_r13 [245, 246, 247, 238, 444, 176, 177, 178, 108, 649, 650, 651, 652, 653, 655, 12, 656, 657, 659, 13, 660, 445, 446, 447] rfl (by decide +kernel) w h).1
set_option maxRecDepth 100000 in
theorem wsL_law0_r14_in : ∀ w ∈ wsL_law0_r14, w ∈ lw_tbl := fun w h => (goodIn_r (big := lw_tbl) wsL_law0_r14 [448, 449, 450, 451, 452, 453, 107, 455, 661, 662, 663, 664, 665, 666, 456, 457, 458, 459, 460, 461, 462, 667, 668, 669] rfl (by decide +kernel) w h).1
