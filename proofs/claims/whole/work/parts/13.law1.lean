/-! the checks of part 09 hold of the program -/
theorem kL_0 : chkL mY mC mL mT lw_tbl nM 224 0 p224_0 = true := by decide +kernel
theorem kL_18 : chkL mY mC mL mT lw_tbl nM 224 18 p224_18 = true := by decide +kernel
theorem kL_220 : chkL mY mC mL mT lw_tbl nM 224 220 p224_220 = true := by decide +kernel
theorem kL_243 : chkL mY mC mL mT lw_tbl nM 224 243 p224_243 = true := by decide +kernel
theorem kL_286 : chkL mY mC mL mT lw_tbl nM 224 286 p224_286 = true := by decide +kernel
theorem kL_329 : chkL mY mC mL mT lw_tbl nM 224 329 p224_329 = true := by decide +kernel
theorem kL_362 : chkL mY mC mL mT lw_tbl nM 224 362 p224_362 = true := by decide +kernel
theorem kL_395 : chkL mY mC mL mT lw_tbl nM 224 395 p224_395 = true := by decide +kernel
theorem kL_448 : chkL mY mC mL mT lw_tbl nM 224 448 p224_448 = true := by decide +kernel
theorem kL_491 : chkL mY mC mL mT lw_tbl nM 224 491 p224_491 = true := by decide +kernel
theorem kL_544 : chkL mY mC mL mT lw_tbl nM 224 544 p224_544 = true := by decide +kernel
theorem kL_607 : chkL mY mC mL mT lw_tbl nM 224 607 p224_607 = true := by decide +kernel
theorem kL_640 : chkL mY mC mL mT lw_tbl nM 224 640 p224_640 = true := by decide +kernel
theorem kL_641 : chkL mY mC mL mT lw_tbl nM 224 641 p224_641 = true := by decide +kernel
theorem kL_677 : chkL mY mC mL mT lw_tbl nM 224 677 p224_677 = true := by decide +kernel
theorem kL_678 : chkL mY mC mL mT lw_tbl nM 224 678 p224_678 = true := by decide +kernel
theorem kL_686 : chkL mY mC mL mT lw_tbl nM 224 686 p224_686 = true := by decide +kernel
