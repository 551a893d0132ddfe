set_option maxRecDepth 1000000 in
theorem kkb_2021 : okB 11 true prog_14_method_1_code 2021 pb_X12_init_b2021 = true := by decide +kernel
set_option maxRecDepth 1000000 in
theorem kkb_2075 : okB 11 true prog_14_method_1_code 2075 pb_X12_init_b2075 = true := by decide +kernel
