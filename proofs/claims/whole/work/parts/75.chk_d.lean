set_option maxRecDepth 1000000 in
theorem kk_149 : okBs 11 false prog_14_method_2_code pb_X12_isIn = true := by decide +kernel
set_option maxRecDepth 1000000 in
theorem kk_150 : okBs 11 false prog_14_method_3_code pb_X12_feed = true := by decide +kernel
set_option maxRecDepth 1000000 in
theorem kk_151 : okBs 11 false prog_14_method_4_code pb_X12_end = true := by decide +kernel
set_option maxRecDepth 1000000 in
theorem kk_152 : okBs 11 false prog_14_method_5_code pb_X12_fail = true := by decide +kernel
set_option maxRecDepth 1000000 in
theorem kk_153 : okBs 11 false prog_14_method_6_code pb_X12_isLetter = true := by decide +kernel
set_option maxRecDepth 1000000 in
theorem kk_154 : okBs 11 false prog_14_method_7_code pb_X12_isDigit = true := by decide +kernel
set_option maxRecDepth 1000000 in
theorem kk_155 : okBs 11 false prog_14_method_8_code pb_X12_look = true := by decide +kernel
set_option maxRecDepth 1000000 in
theorem kk_156 : okBs 11 false prog_14_method_9_code pb_X12_isHere = true := by decide +kernel
set_option maxRecDepth 1000000 in
theorem kk_157 : okBs 11 false prog_14_method_10_code pb_X12_takes = true := by decide +kernel
set_option maxRecDepth 1000000 in
theorem kk_158 : okBs 11 false prog_14_method_11_code pb_X12_asks = true := by decide +kernel
set_option maxRecDepth 1000000 in
theorem kk_159 : okBs 11 false prog_14_method_12_code pb_X12_takesSign = true := by decide +kernel
set_option maxRecDepth 1000000 in
theorem kk_160 : okBs 11 false prog_14_method_13_code pb_X12_asksSign = true := by decide +kernel
set_option maxRecDepth 1000000 in
theorem kk_161 : okBs 11 false prog_14_method_14_code pb_X12_number = true := by decide +kernel
set_option maxRecDepth 1000000 in
theorem kk_162 : okBs 11 false prog_14_method_15_code pb_X12_isOwnHere = true := by decide +kernel
set_option maxRecDepth 1000000 in
theorem kk_163 : okBs 11 false prog_14_method_16_code pb_X12_name = true := by decide +kernel
set_option maxRecDepth 1000000 in
theorem kk_164 : okBs 11 false prog_14_method_17_code pb_X12_isFull = true := by decide +kernel
set_option maxRecDepth 1000000 in
theorem kk_165 : okBs 11 false prog_14_method_18_code pb_X12_nameOf = true := by decide +kernel
set_option maxRecDepth 1000000 in
theorem kk_166 : okBs 11 false prog_14_method_19_code pb_X12_newName = true := by decide +kernel
set_option maxRecDepth 1000000 in
theorem kk_167 : okBs 11 false prog_14_method_20_code pb_X12_hallTold = true := by decide +kernel
set_option maxRecDepth 1000000 in
theorem kk_168 : okBs 11 false prog_14_method_21_code pb_X12_partyHere = true := by decide +kernel
set_option maxRecDepth 1000000 in
theorem kk_169 : okBs 11 false prog_14_method_22_code pb_X12_personTold = true := by decide +kernel
set_option maxRecDepth 1000000 in
theorem kk_170 : okBs 11 false prog_14_method_23_code pb_X12_sitterHere = true := by decide +kernel
set_option maxRecDepth 1000000 in
theorem kk_171 : okBs 11 false prog_14_method_24_code pb_X12_hatredTold = true := by decide +kernel
set_option maxRecDepth 1000000 in
theorem kk_172 : okBs 11 false prog_14_method_25_code pb_X12_pointTold = true := by decide +kernel
set_option maxRecDepth 1000000 in
theorem kk_173 : okBs 11 false prog_14_method_26_code pb_X12_noiseTold = true := by decide +kernel
set_option maxRecDepth 1000000 in
theorem kk_174 : okBs 11 false prog_14_method_27_code pb_X12_muteTold = true := by decide +kernel
set_option maxRecDepth 1000000 in
theorem kk_175 : okBs 11 false prog_14_method_28_code pb_X12_sumIsTold = true := by decide +kernel
set_option maxRecDepth 1000000 in
theorem kk_176 : okBs 11 false prog_14_method_29_code pb_X12_statementTold = true := by decide +kernel
set_option maxRecDepth 1000000 in
theorem kk_177 : okBs 11 false prog_14_method_30_code pb_X12_hall = true := by decide +kernel
set_option maxRecDepth 1000000 in
theorem kk_178 : okBs 11 false prog_14_method_31_code pb_X12_stands = true := by decide +kernel
set_option maxRecDepth 1000000 in
theorem kk_179 : okBs 11 false prog_14_method_32_code pb_X12_code = true := by decide +kernel
set_option maxRecDepth 1000000 in
theorem kk_180 : okBs 11 false prog_14_method_33_code pb_X12_opens = true := by decide +kernel
set_option maxRecDepth 1000000 in
theorem kk_181 : okBs 11 false prog_14_method_34_code pb_X12_isOn = true := by decide +kernel
set_option maxRecDepth 1000000 in
theorem kk_182 : okBs 11 false prog_14_method_35_code pb_X12_drops = true := by decide +kernel
set_option maxRecDepth 1000000 in
theorem kk_183 : okBs 11 false prog_14_method_36_code pb_X12_isMark = true := by decide +kernel
set_option maxRecDepth 1000000 in
theorem kk_184 : okBs 11 false prog_14_method_37_code pb_X12_waitsLast = true := by decide +kernel
set_option maxRecDepth 1000000 in
theorem kk_185 : okBs 11 false prog_14_method_38_code pb_X12_dropsToMark = true := by decide +kernel
set_option maxRecDepth 1000000 in
theorem kk_186 : okBs 11 false prog_14_method_39_code pb_X12_onePart = true := by decide +kernel
set_option maxRecDepth 1000000 in
theorem kk_187 : okBs 11 false prog_14_method_40_code pb_X12_goesOn = true := by decide +kernel
set_option maxRecDepth 1000000 in
theorem kk_188 : okBs 11 false prog_14_method_41_code pb_X12_sumsTold = true := by decide +kernel
set_option maxRecDepth 1000000 in
theorem kk_189 : okBs 11 false prog_14_method_42_code pb_X12_fault = true := by decide +kernel
set_option maxRecDepth 1000000 in
theorem kk_190 : okBs 11 false prog_14_method_43_code pb_X12_clip = true := by decide +kernel
set_option maxRecDepth 1000000 in
theorem kk_191 : okBs 11 false prog_14_method_44_code pb_X12_floor = true := by decide +kernel
set_option maxRecDepth 1000000 in
theorem kk_192 : okBs 11 false prog_14_method_45_code pb_X12_puts = true := by decide +kernel
set_option maxRecDepth 1000000 in
theorem kk_193 : okBs 11 false prog_14_method_46_code pb_X12_joins = true := by decide +kernel
set_option maxRecDepth 1000000 in
theorem kk_194 : okBs 11 false prog_14_method_47_code pb_X12_seatMany = true := by decide +kernel
set_option maxRecDepth 1000000 in
theorem kk_195 : okBs 11 false prog_14_method_48_code pb_X12_peopleMany = true := by decide +kernel
set_option maxRecDepth 1000000 in
theorem kk_196 : okBs 11 false prog_14_method_49_code pb_X12_muteMany = true := by decide +kernel
set_option maxRecDepth 1000000 in
theorem kk_197 : okBs 11 false prog_14_method_50_code pb_X12_pointMany = true := by decide +kernel
set_option maxRecDepth 1000000 in
theorem kk_198 : okBs 11 false prog_14_method_51_code pb_X12_isSeat = true := by decide +kernel
set_option maxRecDepth 1000000 in
theorem kk_199 : okBs 11 false prog_14_method_52_code pb_X12_seatOf = true := by decide +kernel
set_option maxRecDepth 1000000 in
theorem kk_200 : okBs 11 false prog_14_method_53_code pb_X12_doesSit = true := by decide +kernel
set_option maxRecDepth 1000000 in
theorem kk_201 : okBs 11 false prog_14_method_54_code pb_X12_sitterAt = true := by decide +kernel
set_option maxRecDepth 1000000 in
theorem kk_202 : okBs 11 false prog_14_method_55_code pb_X12_isMute = true := by decide +kernel
set_option maxRecDepth 1000000 in
theorem kk_203 : okBs 11 false prog_14_method_56_code pb_X12_keepsOf = true := by decide +kernel
set_option maxRecDepth 1000000 in
theorem kk_204 : okBs 11 false prog_14_method_57_code pb_X12_itchesOf = true := by decide +kernel
set_option maxRecDepth 1000000 in
theorem kk_205 : okBs 11 false prog_14_method_58_code pb_X12_partyOf = true := by decide +kernel
set_option maxRecDepth 1000000 in
theorem kk_206 : okBs 11 false prog_14_method_59_code pb_X12_isBeside = true := by decide +kernel
set_option maxRecDepth 1000000 in
theorem kk_207 : okBs 11 false prog_14_method_60_code pb_X12_nearOf = true := by decide +kernel
set_option maxRecDepth 1000000 in
theorem kk_208 : okBs 11 false prog_14_method_61_code pb_X12_hatedOf = true := by decide +kernel
set_option maxRecDepth 1000000 in
theorem kk_209 : okBs 11 false prog_14_method_62_code pb_X12_askedOf = true := by decide +kernel
set_option maxRecDepth 1000000 in
theorem kk_210 : okBs 11 false prog_14_method_63_code pb_X12_noiseAt = true := by decide +kernel
set_option maxRecDepth 1000000 in
theorem kk_211 : okBs 11 false prog_14_method_64_code pb_X12_told = true := by decide +kernel
set_option maxRecDepth 1000000 in
theorem kk_212 : okBs 11 false prog_14_method_65_code pb_X12_weightOf = true := by decide +kernel
set_option maxRecDepth 1000000 in
theorem kk_213 : okBs 11 false prog_14_method_66_code pb_X12_coughOf = true := by decide +kernel
set_option maxRecDepth 1000000 in
theorem kk_214 : okBs 11 false prog_14_method_67_code pb_X12_signOf = true := by decide +kernel
set_option maxRecDepth 1000000 in
theorem kk_215 : okBs 11 false prog_14_method_68_code pb_X12_moves = true := by decide +kernel
set_option maxRecDepth 1000000 in
theorem kk_216 : okBs 11 false prog_14_method_69_code pb_X12_hiredMany = true := by decide +kernel
set_option maxRecDepth 1000000 in
theorem kk_217 : okBs 11 false prog_14_method_70_code pb_X12_has = true := by decide +kernel
set_option maxRecDepth 1000000 in
theorem kk_218 : okBs 11 false prog_14_method_71_code pb_X12_scale = true := by decide +kernel
set_option maxRecDepth 1000000 in
theorem kk_219 : okBs 11 false prog_14_method_72_code pb_X12_letter = true := by decide +kernel
set_option maxRecDepth 1000000 in
theorem kk_220 : okBs 11 false prog_14_method_73_code pb_X12_sits = true := by decide +kernel
set_option maxRecDepth 1000000 in
theorem kk_221 : okBs 11 false prog_14_method_74_code pb_X12_seat = true := by decide +kernel
set_option maxRecDepth 1000000 in
theorem kk_222 : okBs 11 false prog_14_method_75_code pb_X12_mute = true := by decide +kernel
set_option maxRecDepth 1000000 in
theorem kk_223 : okBs 11 false prog_14_method_76_code pb_X12_noise = true := by decide +kernel
set_option maxRecDepth 1000000 in
theorem kk_224 : okBs 11 false prog_14_method_77_code pb_X12_kept = true := by decide +kernel
set_option maxRecDepth 1000000 in
theorem kk_225 : okBs 11 false prog_14_method_78_code pb_X12_putsAside = true := by decide +kernel
set_option maxRecDepth 1000000 in
theorem kk_226 : okBs 11 false prog_14_method_79_code pb_X12_takesBack = true := by decide +kernel
set_option maxRecDepth 1000000 in
theorem kk_227 : okBs 11 false prog_14_method_80_code pb_X12_meanMove = true := by decide +kernel
set_option maxRecDepth 1000000 in
theorem kk_228 : okBs 11 false prog_14_method_81_code pb_X12_meanOf = true := by decide +kernel
set_option maxRecDepth 1000000 in
theorem kk_229 : okBs 11 false prog_14_method_82_code pb_X12_isAhead = true := by decide +kernel
