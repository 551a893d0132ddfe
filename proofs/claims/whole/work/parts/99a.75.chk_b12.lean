set_option maxRecDepth 1000000 in
theorem kkb_2400 : okB 11 true prog_14_method_1_code 2400 pb_X12_init_b2400 = true := by decide +kernel
set_option maxRecDepth 1000000 in
theorem kkb_2476 : okB 11 true prog_14_method_1_code 2476 pb_X12_init_b2476 = true := by decide +kernel
