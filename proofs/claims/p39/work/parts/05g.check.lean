theorem zck_237 : zckM 237 zi_237 = true := fzw_N_ok (by decide +kernel)
theorem zck_238 : zckM 238 zi_238 = true := fzw_N_ok (by decide +kernel)
theorem zck_239 : zckM 239 zi_239 = true := fzw_N_ok (by decide +kernel)
theorem zck_240 : zckM 240 zi_240 = true := fzw_N_ok (by decide +kernel)
