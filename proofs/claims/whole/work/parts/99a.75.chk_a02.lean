set_option maxRecDepth 1000000 in
theorem kk_120 : okBs 10 false prog_1_method_13_code pb_X11_kept = true := by decide +kernel
set_option maxRecDepth 1000000 in
theorem kk_121 : okBs 10 false prog_1_method_14_code pb_X11_mean = true := by decide +kernel
set_option maxRecDepth 1000000 in
theorem kk_122 : okBs 10 false prog_1_method_15_code pb_X11_odds = true := by decide +kernel
set_option maxRecDepth 1000000 in
theorem kk_123 : okBs 10 false prog_1_method_16_code pb_X11_hire = true := by decide +kernel
set_option maxRecDepth 1000000 in
theorem kk_124 : okBs 10 false prog_1_method_17_code pb_X11_change = true := by decide +kernel
set_option maxRecDepth 1000000 in
theorem kk_125 : okBs 10 false prog_1_method_18_code pb_X11_points = true := by decide +kernel
set_option maxRecDepth 1000000 in
theorem kk_126 : okBs 10 false prog_1_method_19_code pb_X11_fell = true := by decide +kernel
set_option maxRecDepth 1000000 in
theorem kk_127 : okBs 10 false prog_1_method_20_code pb_X11_asked = true := by decide +kernel
set_option maxRecDepth 1000000 in
theorem kk_128 : okBs 10 false prog_1_method_21_code pb_X11_loudest = true := by decide +kernel
set_option maxRecDepth 1000000 in
theorem kk_129 : okBs 10 false prog_1_method_22_code pb_X11_minutes = true := by decide +kernel
set_option maxRecDepth 1000000 in
theorem kk_130 : okBs 10 false prog_1_method_23_code pb_X11_point = true := by decide +kernel
set_option maxRecDepth 1000000 in
theorem kk_131 : okBs 10 false prog_1_method_24_code pb_X11_move = true := by decide +kernel
set_option maxRecDepth 1000000 in
theorem kk_132 : okBs 10 false prog_1_method_25_code pb_X11_take = true := by decide +kernel
set_option maxRecDepth 1000000 in
theorem kk_133 : okBs 10 false prog_1_method_26_code pb_X11_dismiss = true := by decide +kernel
set_option maxRecDepth 1000000 in
theorem kk_134 : okBs 10 false prog_1_method_27_code pb_X11_undo = true := by decide +kernel
set_option maxRecDepth 1000000 in
theorem kk_135 : okBs 10 false prog_1_method_28_code pb_X11_seed = true := by decide +kernel
set_option maxRecDepth 1000000 in
theorem kk_136 : okBs 10 false prog_1_method_29_code pb_X11_ask = true := by decide +kernel
set_option maxRecDepth 1000000 in
theorem kk_137 : okBs 10 false prog_1_method_30_code pb_X11_image = true := by decide +kernel
set_option maxRecDepth 1000000 in
theorem kk_138 : okBs 10 false prog_1_method_31_code pb_X11_octet = true := by decide +kernel
set_option maxRecDepth 1000000 in
theorem kk_139 : okBs 10 false prog_1_method_32_code pb_X11_on = true := by decide +kernel
set_option maxRecDepth 1000000 in
theorem kk_140 : okBs 10 false prog_1_method_33_code pb_X11_status = true := by decide +kernel
set_option maxRecDepth 1000000 in
theorem kk_141 : okBs 10 false prog_1_method_34_code pb_X11_refuse = true := by decide +kernel
set_option maxRecDepth 1000000 in
theorem kk_142 : okBs 10 false prog_1_method_35_code pb_X11_isSide = true := by decide +kernel
set_option maxRecDepth 1000000 in
theorem kk_143 : okBs 10 false prog_1_method_36_code pb_X11_putBytes = true := by decide +kernel
set_option maxRecDepth 1000000 in
theorem kk_144 : okBs 10 false prog_1_method_37_code pb_X11_takeTape = true := by decide +kernel
set_option maxRecDepth 1000000 in
theorem kk_145 : okBs 10 false prog_1_method_38_code pb_X11_drawOfHundred = true := by decide +kernel
set_option maxRecDepth 1000000 in
theorem kk_146 : okBs 10 false prog_1_method_39_code pb_X11_passMinute = true := by decide +kernel
set_option maxRecDepth 1000000 in
theorem kk_147 : okBs 10 false prog_1_method_40_code pb_X11_cut = true := by decide +kernel
set_option maxRecDepth 1000000 in
theorem kk_149 : okBs 11 false prog_14_method_2_code pb_X12_isIn = true := by decide +kernel
set_option maxRecDepth 1000000 in
theorem kk_150 : okBs 11 false prog_14_method_3_code pb_X12_feed = true := by decide +kernel
set_option maxRecDepth 1000000 in
theorem kk_151 : okBs 11 false prog_14_method_4_code pb_X12_end = true := by decide +kernel
set_option maxRecDepth 1000000 in
theorem kk_152 : okBs 11 false prog_14_method_5_code pb_X12_fail = true := by decide +kernel
set_option maxRecDepth 1000000 in
theorem kk_153 : okBs 11 false prog_14_method_6_code pb_X12_isLetter = true := by decide +kernel
set_option maxRecDepth 1000000 in
theorem kk_154 : okBs 11 false prog_14_method_7_code pb_X12_isDigit = true := by decide +kernel
set_option maxRecDepth 1000000 in
theorem kk_155 : okBs 11 false prog_14_method_8_code pb_X12_look = true := by decide +kernel
set_option maxRecDepth 1000000 in
theorem kk_156 : okBs 11 false prog_14_method_9_code pb_X12_isHere = true := by decide +kernel
set_option maxRecDepth 1000000 in
theorem kk_157 : okBs 11 false prog_14_method_10_code pb_X12_takes = true := by decide +kernel
set_option maxRecDepth 1000000 in
theorem kk_158 : okBs 11 false prog_14_method_11_code pb_X12_asks = true := by decide +kernel
set_option maxRecDepth 1000000 in
theorem kk_159 : okBs 11 false prog_14_method_12_code pb_X12_takesSign = true := by decide +kernel
set_option maxRecDepth 1000000 in
theorem kk_160 : okBs 11 false prog_14_method_13_code pb_X12_asksSign = true := by decide +kernel
set_option maxRecDepth 1000000 in
theorem kk_161 : okBs 11 false prog_14_method_14_code pb_X12_number = true := by decide +kernel
set_option maxRecDepth 1000000 in
theorem kk_162 : okBs 11 false prog_14_method_15_code pb_X12_isOwnHere = true := by decide +kernel
set_option maxRecDepth 1000000 in
theorem kk_163 : okBs 11 false prog_14_method_16_code pb_X12_name = true := by decide +kernel
set_option maxRecDepth 1000000 in
theorem kk_164 : okBs 11 false prog_14_method_17_code pb_X12_isFull = true := by decide +kernel
set_option maxRecDepth 1000000 in
theorem kk_165 : okBs 11 false prog_14_method_18_code pb_X12_nameOf = true := by decide +kernel
set_option maxRecDepth 1000000 in
theorem kk_166 : okBs 11 false prog_14_method_19_code pb_X12_newName = true := by decide +kernel
set_option maxRecDepth 1000000 in
theorem kk_167 : okBs 11 false prog_14_method_20_code pb_X12_hallTold = true := by decide +kernel
set_option maxRecDepth 1000000 in
theorem kk_168 : okBs 11 false prog_14_method_21_code pb_X12_partyHere = true := by decide +kernel
set_option maxRecDepth 1000000 in
theorem kk_169 : okBs 11 false prog_14_method_22_code pb_X12_personTold = true := by decide +kernel
set_option maxRecDepth 1000000 in
theorem kk_170 : okBs 11 false prog_14_method_23_code pb_X12_sitterHere = true := by decide +kernel
set_option maxRecDepth 1000000 in
theorem kk_171 : okBs 11 false prog_14_method_24_code pb_X12_hatredTold = true := by decide +kernel
set_option maxRecDepth 1000000 in
theorem kk_172 : okBs 11 false prog_14_method_25_code pb_X12_pointTold = true := by decide +kernel
set_option maxRecDepth 1000000 in
theorem kk_173 : okBs 11 false prog_14_method_26_code pb_X12_noiseTold = true := by decide +kernel
set_option maxRecDepth 1000000 in
theorem kk_174 : okBs 11 false prog_14_method_27_code pb_X12_muteTold = true := by decide +kernel
set_option maxRecDepth 1000000 in
theorem kk_175 : okBs 11 false prog_14_method_28_code pb_X12_sumIsTold = true := by decide +kernel
set_option maxRecDepth 1000000 in
theorem kk_176 : okBs 11 false prog_14_method_29_code pb_X12_statementTold = true := by decide +kernel
set_option maxRecDepth 1000000 in
theorem kk_177 : okBs 11 false prog_14_method_30_code pb_X12_hall = true := by decide +kernel
set_option maxRecDepth 1000000 in
theorem kk_178 : okBs 11 false prog_14_method_31_code pb_X12_stands = true := by decide +kernel
set_option maxRecDepth 1000000 in
theorem kk_179 : okBs 11 false prog_14_method_32_code pb_X12_code = true := by decide +kernel
