set_option maxRecDepth 1000000 in
theorem kk_180 : okBs 11 false prog_14_method_33_code pb_X12_opens = true := by decide +kernel
set_option maxRecDepth 1000000 in
theorem kk_181 : okBs 11 false prog_14_method_34_code pb_X12_isOn = true := by decide +kernel
set_option maxRecDepth 1000000 in
theorem kk_182 : okBs 11 false prog_14_method_35_code pb_X12_drops = true := by decide +kernel
set_option maxRecDepth 1000000 in
theorem kk_183 : okBs 11 false prog_14_method_36_code pb_X12_isMark = true := by decide +kernel
set_option maxRecDepth 1000000 in
theorem kk_184 : okBs 11 false prog_14_method_37_code pb_X12_waitsLast = true := by decide +kernel
set_option maxRecDepth 1000000 in
theorem kk_185 : okBs 11 false prog_14_method_38_code pb_X12_dropsToMark = true := by decide +kernel
set_option maxRecDepth 1000000 in
theorem kk_186 : okBs 11 false prog_14_method_39_code pb_X12_onePart = true := by decide +kernel
set_option maxRecDepth 1000000 in
theorem kk_187 : okBs 11 false prog_14_method_40_code pb_X12_goesOn = true := by decide +kernel
set_option maxRecDepth 1000000 in
theorem kk_188 : okBs 11 false prog_14_method_41_code pb_X12_sumsTold = true := by decide +kernel
set_option maxRecDepth 1000000 in
theorem kk_189 : okBs 11 false prog_14_method_42_code pb_X12_fault = true := by decide +kernel
set_option maxRecDepth 1000000 in
theorem kk_190 : okBs 11 false prog_14_method_43_code pb_X12_clip = true := by decide +kernel
set_option maxRecDepth 1000000 in
theorem kk_191 : okBs 11 false prog_14_method_44_code pb_X12_floor = true := by decide +kernel
set_option maxRecDepth 1000000 in
theorem kk_192 : okBs 11 false prog_14_method_45_code pb_X12_puts = true := by decide +kernel
set_option maxRecDepth 1000000 in
theorem kk_193 : okBs 11 false prog_14_method_46_code pb_X12_joins = true := by decide +kernel
set_option maxRecDepth 1000000 in
theorem kk_194 : okBs 11 false prog_14_method_47_code pb_X12_seatMany = true := by decide +kernel
set_option maxRecDepth 1000000 in
theorem kk_195 : okBs 11 false prog_14_method_48_code pb_X12_peopleMany = true := by decide +kernel
set_option maxRecDepth 1000000 in
theorem kk_196 : okBs 11 false prog_14_method_49_code pb_X12_muteMany = true := by decide +kernel
set_option maxRecDepth 1000000 in
theorem kk_197 : okBs 11 false prog_14_method_50_code pb_X12_pointMany = true := by decide +kernel
set_option maxRecDepth 1000000 in
theorem kk_198 : okBs 11 false prog_14_method_51_code pb_X12_isSeat = true := by decide +kernel
set_option maxRecDepth 1000000 in
theorem kk_199 : okBs 11 false prog_14_method_52_code pb_X12_seatOf = true := by decide +kernel
set_option maxRecDepth 1000000 in
theorem kk_200 : okBs 11 false prog_14_method_53_code pb_X12_doesSit = true := by decide +kernel
set_option maxRecDepth 1000000 in
theorem kk_201 : okBs 11 false prog_14_method_54_code pb_X12_sitterAt = true := by decide +kernel
set_option maxRecDepth 1000000 in
theorem kk_202 : okBs 11 false prog_14_method_55_code pb_X12_isMute = true := by decide +kernel
set_option maxRecDepth 1000000 in
theorem kk_203 : okBs 11 false prog_14_method_56_code pb_X12_keepsOf = true := by decide +kernel
set_option maxRecDepth 1000000 in
theorem kk_204 : okBs 11 false prog_14_method_57_code pb_X12_itchesOf = true := by decide +kernel
set_option maxRecDepth 1000000 in
theorem kk_205 : okBs 11 false prog_14_method_58_code pb_X12_partyOf = true := by decide +kernel
set_option maxRecDepth 1000000 in
theorem kk_206 : okBs 11 false prog_14_method_59_code pb_X12_isBeside = true := by decide +kernel
set_option maxRecDepth 1000000 in
theorem kk_207 : okBs 11 false prog_14_method_60_code pb_X12_nearOf = true := by decide +kernel
set_option maxRecDepth 1000000 in
theorem kk_208 : okBs 11 false prog_14_method_61_code pb_X12_hatedOf = true := by decide +kernel
set_option maxRecDepth 1000000 in
theorem kk_209 : okBs 11 false prog_14_method_62_code pb_X12_askedOf = true := by decide +kernel
set_option maxRecDepth 1000000 in
theorem kk_210 : okBs 11 false prog_14_method_63_code pb_X12_noiseAt = true := by decide +kernel
set_option maxRecDepth 1000000 in
theorem kk_211 : okBs 11 false prog_14_method_64_code pb_X12_told = true := by decide +kernel
set_option maxRecDepth 1000000 in
theorem kk_212 : okBs 11 false prog_14_method_65_code pb_X12_weightOf = true := by decide +kernel
set_option maxRecDepth 1000000 in
theorem kk_213 : okBs 11 false prog_14_method_66_code pb_X12_coughOf = true := by decide +kernel
set_option maxRecDepth 1000000 in
theorem kk_214 : okBs 11 false prog_14_method_67_code pb_X12_signOf = true := by decide +kernel
set_option maxRecDepth 1000000 in
theorem kk_215 : okBs 11 false prog_14_method_68_code pb_X12_moves = true := by decide +kernel
set_option maxRecDepth 1000000 in
theorem kk_216 : okBs 11 false prog_14_method_69_code pb_X12_hiredMany = true := by decide +kernel
set_option maxRecDepth 1000000 in
theorem kk_217 : okBs 11 false prog_14_method_70_code pb_X12_has = true := by decide +kernel
set_option maxRecDepth 1000000 in
theorem kk_218 : okBs 11 false prog_14_method_71_code pb_X12_scale = true := by decide +kernel
set_option maxRecDepth 1000000 in
theorem kk_219 : okBs 11 false prog_14_method_72_code pb_X12_letter = true := by decide +kernel
set_option maxRecDepth 1000000 in
theorem kk_220 : okBs 11 false prog_14_method_73_code pb_X12_sits = true := by decide +kernel
set_option maxRecDepth 1000000 in
theorem kk_221 : okBs 11 false prog_14_method_74_code pb_X12_seat = true := by decide +kernel
set_option maxRecDepth 1000000 in
theorem kk_222 : okBs 11 false prog_14_method_75_code pb_X12_mute = true := by decide +kernel
set_option maxRecDepth 1000000 in
theorem kk_223 : okBs 11 false prog_14_method_76_code pb_X12_noise = true := by decide +kernel
set_option maxRecDepth 1000000 in
theorem kk_224 : okBs 11 false prog_14_method_77_code pb_X12_kept = true := by decide +kernel
set_option maxRecDepth 1000000 in
theorem kk_225 : okBs 11 false prog_14_method_78_code pb_X12_putsAside = true := by decide +kernel
set_option maxRecDepth 1000000 in
theorem kk_226 : okBs 11 false prog_14_method_79_code pb_X12_takesBack = true := by decide +kernel
set_option maxRecDepth 1000000 in
theorem kk_227 : okBs 11 false prog_14_method_80_code pb_X12_meanMove = true := by decide +kernel
set_option maxRecDepth 1000000 in
theorem kk_228 : okBs 11 false prog_14_method_81_code pb_X12_meanOf = true := by decide +kernel
set_option maxRecDepth 1000000 in
theorem kk_229 : okBs 11 false prog_14_method_82_code pb_X12_isAhead = true := by decide +kernel
set_option maxRecDepth 1000000 in
theorem kk_230 : okBs 11 false prog_14_method_83_code pb_X12_mean = true := by decide +kernel
set_option maxRecDepth 1000000 in
theorem kk_231 : okBs 11 false prog_14_method_84_code pb_X12_laysItchers = true := by decide +kernel
set_option maxRecDepth 1000000 in
theorem kk_232 : okBs 11 false prog_14_method_85_code pb_X12_movedBy = true := by decide +kernel
set_option maxRecDepth 1000000 in
theorem kk_233 : okBs 11 false prog_14_method_86_code pb_X12_waysOf = true := by decide +kernel
set_option maxRecDepth 1000000 in
theorem kk_234 : okBs 11 false prog_14_method_87_code pb_X12_odds = true := by decide +kernel
set_option maxRecDepth 1000000 in
theorem kk_235 : okBs 11 false prog_14_method_88_code pb_X12_freeSeat = true := by decide +kernel
set_option maxRecDepth 1000000 in
theorem kk_236 : okBs 11 false prog_14_method_89_code pb_X12_areSeated = true := by decide +kernel
set_option maxRecDepth 1000000 in
theorem kk_237 : okBs 11 false prog_14_method_90_code pb_X12_bits = true := by decide +kernel
set_option maxRecDepth 1000000 in
theorem kk_238 : okBs 11 false prog_14_method_91_code pb_X12_costsOf = true := by decide +kernel
set_option maxRecDepth 1000000 in
theorem kk_239 : okBs 11 false prog_14_method_92_code pb_X12_isEnough = true := by decide +kernel
