set_option maxRecDepth 1000000 in
theorem kkb_2546 : okB 11 true prog_14_method_1_code 2546 pb_X12_init_b2546 = true := by decide +kernel
