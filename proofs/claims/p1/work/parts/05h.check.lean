theorem zck_241 : zckM 241 zi_241 = true := by decide +kernel
