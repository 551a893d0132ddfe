set_option maxRecDepth 1000000 in
theorem kkb_2277 : okB 11 true prog_14_method_1_code 2277 pb_X12_init_b2277 = true := by decide +kernel
set_option maxRecDepth 1000000 in
theorem kkb_2341 : okB 11 true prog_14_method_1_code 2341 pb_X12_init_b2341 = true := by decide +kernel
