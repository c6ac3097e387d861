/-! the checks of part 09 hold of the program -/
theorem kL_1444 : chkL mY mC mL mT lw_tbl nM 224 1444 p224_1444 = true := by decide +kernel
theorem kL_1477 : chkL mY mC mL mT lw_tbl nM 224 1477 p224_1477 = true := by decide +kernel
theorem kL_1510 : chkL mY mC mL mT lw_tbl nM 224 1510 p224_1510 = true := by decide +kernel
theorem kL_1553 : chkL mY mC mL mT lw_tbl nM 224 1553 p224_1553 = true := by decide +kernel
theorem kL_1576 : chkL mY mC mL mT lw_tbl nM 224 1576 p224_1576 = true := by decide +kernel
theorem kL_1609 : chkL mY mC mL mT lw_tbl nM 224 1609 p224_1609 = true := by decide +kernel
theorem kL_1632 : chkL mY mC mL mT lw_tbl nM 224 1632 p224_1632 = true := by decide +kernel
theorem kL_1665 : chkL mY mC mL mT lw_tbl nM 224 1665 p224_1665 = true := by decide +kernel
theorem kL_1708 : chkL mY mC mL mT lw_tbl nM 224 1708 p224_1708 = true := by decide +kernel
theorem kL_1731 : chkL mY mC mL mT lw_tbl nM 224 1731 p224_1731 = true := by decide +kernel
theorem kL_1764 : chkL mY mC mL mT lw_tbl nM 224 1764 p224_1764 = true := by decide +kernel
theorem kL_1787 : chkL mY mC mL mT lw_tbl nM 224 1787 p224_1787 = true := by decide +kernel
theorem kL_1830 : chkL mY mC mL mT lw_tbl nM 224 1830 p224_1830 = true := by decide +kernel
theorem kL_1873 : chkL mY mC mL mT lw_tbl nM 224 1873 p224_1873 = true := by decide +kernel
theorem kL_1906 : chkL mY mC mL mT lw_tbl nM 224 1906 p224_1906 = true := by decide +kernel
theorem kL_1969 : chkL mY mC mL mT lw_tbl nM 224 1969 p224_1969 = true := by decide +kernel
theorem kL_1975 : chkL mY mC mL mT lw_tbl nM 224 1975 p224_1975 = true := by decide +kernel
theorem kLaw : p224.all (fun q => chkL mY mC mL mT lw_tbl nM 224 q.1 q.2) = true := by
  simp only [p224, List.all_cons, List.all_nil, Bool.and_true, kL_0, kL_18, kL_220, kL_243, kL_286, kL_329, kL_362, kL_395, kL_448, kL_491, kL_544, kL_607, kL_640, kL_641, kL_677, kL_678, kL_686, kL_729, kL_792, kL_867, kL_942, kL_975, kL_1018, kL_1061, kL_1094, kL_1127, kL_1160, kL_1183, kL_1206, kL_1239, kL_1282, kL_1335, kL_1378, kL_1411, kL_1444, kL_1477, kL_1510, kL_1553, kL_1576, kL_1609, kL_1632, kL_1665, kL_1708, kL_1731, kL_1764, kL_1787, kL_1830, kL_1873, kL_1906, kL_1969, kL_1975]
