theorem tst_len : lw_tbl.length = 1400 := by decide +kernel
theorem tst_good : lw_tbl.all goodWord = true := by decide +kernel
