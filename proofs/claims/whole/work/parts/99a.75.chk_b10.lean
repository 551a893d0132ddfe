set_option maxRecDepth 1000000 in
theorem kkb_2136 : okB 11 true prog_14_method_1_code 2136 pb_X12_init_b2136 = true := by decide +kernel
set_option maxRecDepth 1000000 in
theorem kkb_2212 : okB 11 true prog_14_method_1_code 2212 pb_X12_init_b2212 = true := by decide +kernel
