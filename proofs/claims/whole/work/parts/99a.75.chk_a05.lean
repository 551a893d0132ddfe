set_option maxRecDepth 1000000 in
theorem kk_300 : okBs 11 false prog_14_method_153_code pb_X12_status = true := by decide +kernel
set_option maxRecDepth 1000000 in
theorem kk_301 : okBs 13 false prog_17_method_49_code pb_J6_bitCount_0f7a4 = true := by decide +kernel
set_option maxRecDepth 1000000 in
theorem kk_302 : okBs 14 false prog_18_method_47_code pb_J9_floorDiv_7cf53 = true := by decide +kernel
set_option maxRecDepth 1000000 in
theorem kk_303 : okBs 14 false prog_18_method_59_code pb_J9_abs_0f7a4 = true := by decide +kernel
set_option maxRecDepth 1000000 in
theorem kk_304 : okBs 14 false prog_18_method_65_code pb_J9_max_7cf53 = true := by decide +kernel
set_option maxRecDepth 1000000 in
theorem kk_305 : okBs 14 false prog_18_method_66_code pb_J9_max_f86c9 = true := by decide +kernel
set_option maxRecDepth 1000000 in
theorem kk_306 : okBs 14 false prog_18_method_69_code pb_J9_min_7cf53 = true := by decide +kernel
set_option maxRecDepth 1000000 in
theorem kk_307 : okBs 14 false prog_18_method_70_code pb_J9_min_f86c9 = true := by decide +kernel
set_option maxRecDepth 1000000 in
theorem kk_308 : okBs 15 false prog_20_method_103_code pb_J7_fill_53178 = true := by decide +kernel
