set_option maxRecDepth 1000000 in
theorem kkb_2212 : okB 11 true prog_14_method_1_code 2212 pb_X12_init_b2212 = true := by decide +kernel
set_option maxRecDepth 1000000 in
theorem kkb_2277 : okB 11 true prog_14_method_1_code 2277 pb_X12_init_b2277 = true := by decide +kernel
