theorem tst_1 : lw_tbl.length = 1900 := by decide +kernel
theorem tst_2 : (lw_tbl.filter (fun w => !goodWord w)) = [] := by decide +kernel
