set_option maxRecDepth 1000000 in
theorem kkb_813 : okB 11 true prog_14_method_1_code 813 pb_X12_init_b813 = true := by decide +kernel
set_option maxRecDepth 1000000 in
theorem kkb_879 : okB 11 true prog_14_method_1_code 879 pb_X12_init_b879 = true := by decide +kernel
