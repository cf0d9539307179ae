set_option maxRecDepth 20000 in
theorem zck_241 : zckM 241 zi_241 = true := fzw_N_ok (by decide +kernel)
