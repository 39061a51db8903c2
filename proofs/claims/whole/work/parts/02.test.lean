theorem am_allgood : lw_tbl.all goodWord = true := by decide +kernel
