set_option maxRecDepth 1000000 in
theorem kkb_0 : okB 11 true prog_14_method_1_code 0 pb_X12_init_b0 = true := by decide +kernel
set_option maxRecDepth 1000000 in
theorem kkb_91 : okB 11 true prog_14_method_1_code 91 pb_X12_init_b91 = true := by decide +kernel
