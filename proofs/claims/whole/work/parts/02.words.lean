theorem i_X0 : ∀ w ∈ wsX00, w ∈ lw_tbl := by decide +kernel
