set_option maxRecDepth 1000000 in
theorem kkb_1903 : okB 11 true prog_14_method_1_code 1903 pb_X12_init_b1903 = true := by decide +kernel
set_option maxRecDepth 1000000 in
theorem kkb_1962 : okB 11 true prog_14_method_1_code 1962 pb_X12_init_b1962 = true := by decide +kernel
