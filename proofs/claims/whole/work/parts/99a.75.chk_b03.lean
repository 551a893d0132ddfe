set_option maxRecDepth 1000000 in
theorem kkb_425 : okB 11 true prog_14_method_1_code 425 pb_X12_init_b425 = true := by decide +kernel
set_option maxRecDepth 1000000 in
theorem kkb_479 : okB 11 true prog_14_method_1_code 479 pb_X12_init_b479 = true := by decide +kernel
