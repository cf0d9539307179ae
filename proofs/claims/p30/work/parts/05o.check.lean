theorem zck_241_84 : zckR zMlaw 1344 zi_241_84 = true := by decide +kernel
theorem zck_241_85 : zckR zMlaw 1360 zi_241_85 = true := by decide +kernel
theorem zck_241_86 : zckR zMlaw 1376 zi_241_86 = true := by decide +kernel
theorem zck_241_87 : zckR zMlaw 1392 zi_241_87 = true := by decide +kernel
theorem zck_241_88 : zckR zMlaw 1408 zi_241_88 = true := by decide +kernel
