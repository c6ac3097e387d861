/-! the checks of part 09 hold of the program -/
theorem kL_729 : chkL mY mC mL mT lw_tbl nM 224 729 p224_729 = true := by decide +kernel
theorem kL_792 : chkL mY mC mL mT lw_tbl nM 224 792 p224_792 = true := by decide +kernel
theorem kL_867 : chkL mY mC mL mT lw_tbl nM 224 867 p224_867 = true := by decide +kernel
theorem kL_942 : chkL mY mC mL mT lw_tbl nM 224 942 p224_942 = true := by decide +kernel
theorem kL_975 : chkL mY mC mL mT lw_tbl nM 224 975 p224_975 = true := by decide +kernel
theorem kL_1018 : chkL mY mC mL mT lw_tbl nM 224 1018 p224_1018 = true := by decide +kernel
theorem kL_1061 : chkL mY mC mL mT lw_tbl nM 224 1061 p224_1061 = true := by decide +kernel
theorem kL_1094 : chkL mY mC mL mT lw_tbl nM 224 1094 p224_1094 = true := by decide +kernel
theorem kL_1127 : chkL mY mC mL mT lw_tbl nM 224 1127 p224_1127 = true := by decide +kernel
theorem kL_1160 : chkL mY mC mL mT lw_tbl nM 224 1160 p224_1160 = true := by decide +kernel
theorem kL_1183 : chkL mY mC mL mT lw_tbl nM 224 1183 p224_1183 = true := by decide +kernel
theorem kL_1206 : chkL mY mC mL mT lw_tbl nM 224 1206 p224_1206 = true := by decide +kernel
theorem kL_1239 : chkL mY mC mL mT lw_tbl nM 224 1239 p224_1239 = true := by decide +kernel
theorem kL_1282 : chkL mY mC mL mT lw_tbl nM 224 1282 p224_1282 = true := by decide +kernel
theorem kL_1335 : chkL mY mC mL mT lw_tbl nM 224 1335 p224_1335 = true := by decide +kernel
theorem kL_1378 : chkL mY mC mL mT lw_tbl nM 224 1378 p224_1378 = true := by decide +kernel
theorem kL_1411 : chkL mY mC mL mT lw_tbl nM 224 1411 p224_1411 = true := by decide +kernel
