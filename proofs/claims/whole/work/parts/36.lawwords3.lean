set_option maxRecDepth 100000 in
theorem wsL_law0_r22_in : ∀ w ∈ wsL_law0_r22, w ∈ lw_tbl := fun w h => (goodIn_r (big := lw_tbl) wsL_law0_r22 [725, 726, 521, 522, 523, 524, 525, 526, 527, 529, 530, 531, 532, 533, 727, 728, 729, 730, 203, 204, 205, 206, 207, 211] rfl (by decide +kernel) w h).1
set_option maxRecDepth 100000 in
theorem wsL_law0_r23_in : ∀ w ∈ wsL_law0_r23, w ∈ lw_tbl := fun w h => (goodIn_r (big := lw_tbl) wsL_law0_r23 [212, 213, 214, 70, 731, 732, 733, 734, 215, 216, 217, 218, 219, 220, 735, 736, 737, 738, 739, 740] rfl (by decide +kernel) w h).1
set_option maxRecDepth 100000 in
theorem inX3 : ∀ w ∈ wsX30, w ∈ lw_tbl := fun w h => (goodIn_r (big := lw_tbl) wsX30 [130, 132, 134] rfl (by decide +kernel) w h).1
set_option maxRecDepth 100000 in
theorem inX4 : ∀ w ∈ wsX40, w ∈ lw_tbl := fun w h => (goodIn_r (big := lw_tbl) wsX40 [551, 553, 555, 557, 559, 561, 563] rfl (by decide +kernel) w h).1
set_option maxRecDepth 100000 in
theorem inX1 : ∀ w ∈ wsX10, w ∈ lw_tbl := fun w h => (goodIn_r (big := lw_tbl) wsX10 [49, 51] rfl (by decide +kernel) w h).1
set_option maxRecDepth 100000 in
theorem inX0 : ∀ w ∈ wsX00, w ∈ lw_tbl := fun w h => (goodIn_r (big := lw_tbl) wsX00 [112, 114, 116, 118, 120, 122, 124] rfl (by decide +kernel) w h).1
set_option maxRecDepth 100000 in
theorem inX2 : ∀ w ∈ wsX20, w ∈ lw_tbl := fun w h => (goodIn_r (big := lw_tbl) wsX20 [87, 89, 91, 93, 95, 97, 99] rfl (by decide +kernel) w h).1
