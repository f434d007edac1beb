set_option maxRecDepth 100000 in
theorem inX2 : ∀ w ∈ wsX20, w ∈ lw_tbl := fun w h => (goodIn_r (big := lw_tbl) wsX20 [70, 72, 74, 76, 78, 80, 82] rfl (by decide +kernel) w h).1
