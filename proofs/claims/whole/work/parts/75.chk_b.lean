set_option maxRecDepth 1000000 in
theorem kkb_0 : okB 11 true prog_14_method_1_code 0 pb_X12_init_b0 = true := by decide +kernel
set_option maxRecDepth 1000000 in
theorem kkb_91 : okB 11 true prog_14_method_1_code 91 pb_X12_init_b91 = true := by decide +kernel
set_option maxRecDepth 1000000 in
theorem kkb_161 : okB 11 true prog_14_method_1_code 161 pb_X12_init_b161 = true := by decide +kernel
set_option maxRecDepth 1000000 in
theorem kkb_215 : okB 11 true prog_14_method_1_code 215 pb_X12_init_b215 = true := by decide +kernel
set_option maxRecDepth 1000000 in
theorem kkb_285 : okB 11 true prog_14_method_1_code 285 pb_X12_init_b285 = true := by decide +kernel
set_option maxRecDepth 1000000 in
theorem kkb_366 : okB 11 true prog_14_method_1_code 366 pb_X12_init_b366 = true := by decide +kernel
set_option maxRecDepth 1000000 in
theorem kkb_425 : okB 11 true prog_14_method_1_code 425 pb_X12_init_b425 = true := by decide +kernel
set_option maxRecDepth 1000000 in
theorem kkb_479 : okB 11 true prog_14_method_1_code 479 pb_X12_init_b479 = true := by decide +kernel
set_option maxRecDepth 1000000 in
theorem kkb_543 : okB 11 true prog_14_method_1_code 543 pb_X12_init_b543 = true := by decide +kernel
set_option maxRecDepth 1000000 in
theorem kkb_602 : okB 11 true prog_14_method_1_code 602 pb_X12_init_b602 = true := by decide +kernel
set_option maxRecDepth 1000000 in
theorem kkb_666 : okB 11 true prog_14_method_1_code 666 pb_X12_init_b666 = true := by decide +kernel
set_option maxRecDepth 1000000 in
theorem kkb_742 : okB 11 true prog_14_method_1_code 742 pb_X12_init_b742 = true := by decide +kernel
set_option maxRecDepth 1000000 in
theorem kkb_813 : okB 11 true prog_14_method_1_code 813 pb_X12_init_b813 = true := by decide +kernel
set_option maxRecDepth 1000000 in
theorem kkb_879 : okB 11 true prog_14_method_1_code 879 pb_X12_init_b879 = true := by decide +kernel
set_option maxRecDepth 1000000 in
theorem kkb_939 : okB 11 true prog_14_method_1_code 939 pb_X12_init_b939 = true := by decide +kernel
set_option maxRecDepth 1000000 in
theorem kkb_1018 : okB 11 true prog_14_method_1_code 1018 pb_X12_init_b1018 = true := by decide +kernel
set_option maxRecDepth 1000000 in
theorem kkb_1811 : okB 11 true prog_14_method_1_code 1811 pb_X12_init_b1811 = true := by decide +kernel
set_option maxRecDepth 1000000 in
theorem kkb_1903 : okB 11 true prog_14_method_1_code 1903 pb_X12_init_b1903 = true := by decide +kernel
set_option maxRecDepth 1000000 in
theorem kkb_1962 : okB 11 true prog_14_method_1_code 1962 pb_X12_init_b1962 = true := by decide +kernel
set_option maxRecDepth 1000000 in
theorem kkb_2021 : okB 11 true prog_14_method_1_code 2021 pb_X12_init_b2021 = true := by decide +kernel
set_option maxRecDepth 1000000 in
theorem kkb_2075 : okB 11 true prog_14_method_1_code 2075 pb_X12_init_b2075 = true := by decide +kernel
set_option maxRecDepth 1000000 in
theorem kkb_2136 : okB 11 true prog_14_method_1_code 2136 pb_X12_init_b2136 = true := by decide +kernel
set_option maxRecDepth 1000000 in
theorem kkb_2212 : okB 11 true prog_14_method_1_code 2212 pb_X12_init_b2212 = true := by decide +kernel
set_option maxRecDepth 1000000 in
theorem kkb_2277 : okB 11 true prog_14_method_1_code 2277 pb_X12_init_b2277 = true := by decide +kernel
set_option maxRecDepth 1000000 in
theorem kkb_2341 : okB 11 true prog_14_method_1_code 2341 pb_X12_init_b2341 = true := by decide +kernel
set_option maxRecDepth 1000000 in
theorem kkb_2400 : okB 11 true prog_14_method_1_code 2400 pb_X12_init_b2400 = true := by decide +kernel
set_option maxRecDepth 1000000 in
theorem kkb_2476 : okB 11 true prog_14_method_1_code 2476 pb_X12_init_b2476 = true := by decide +kernel
set_option maxRecDepth 1000000 in
theorem kkb_2546 : okB 11 true prog_14_method_1_code 2546 pb_X12_init_b2546 = true := by decide +kernel
