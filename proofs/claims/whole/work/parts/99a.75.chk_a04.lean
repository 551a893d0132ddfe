set_option maxRecDepth 1000000 in
theorem kk_240 : okBs 11 false prog_14_method_93_code pb_X12_hire = true := by decide +kernel
set_option maxRecDepth 1000000 in
theorem kk_241 : okBs 11 false prog_14_method_94_code pb_X12_changes = true := by decide +kernel
set_option maxRecDepth 1000000 in
theorem kk_242 : okBs 11 false prog_14_method_95_code pb_X12_change = true := by decide +kernel
set_option maxRecDepth 1000000 in
theorem kk_243 : okBs 11 false prog_14_method_96_code pb_X12_laysPointMoves = true := by decide +kernel
set_option maxRecDepth 1000000 in
theorem kk_244 : okBs 11 false prog_14_method_97_code pb_X12_bestPoint = true := by decide +kernel
set_option maxRecDepth 1000000 in
theorem kk_245 : okBs 11 false prog_14_method_98_code pb_X12_points = true := by decide +kernel
set_option maxRecDepth 1000000 in
theorem kk_246 : okBs 11 false prog_14_method_99_code pb_X12_peopleIn = true := by decide +kernel
set_option maxRecDepth 1000000 in
theorem kk_247 : okBs 11 false prog_14_method_100_code pb_X12_fell = true := by decide +kernel
set_option maxRecDepth 1000000 in
theorem kk_248 : okBs 11 false prog_14_method_101_code pb_X12_asked = true := by decide +kernel
set_option maxRecDepth 1000000 in
theorem kk_249 : okBs 11 false prog_14_method_102_code pb_X12_loudest = true := by decide +kernel
set_option maxRecDepth 1000000 in
theorem kk_250 : okBs 11 false prog_14_method_103_code pb_X12_keeps = true := by decide +kernel
set_option maxRecDepth 1000000 in
theorem kk_251 : okBs 11 false prog_14_method_104_code pb_X12_undo = true := by decide +kernel
set_option maxRecDepth 1000000 in
theorem kk_252 : okBs 11 false prog_14_method_105_code pb_X12_seed = true := by decide +kernel
set_option maxRecDepth 1000000 in
theorem kk_253 : okBs 11 false prog_14_method_106_code pb_X12_drawOf = true := by decide +kernel
set_option maxRecDepth 1000000 in
theorem kk_254 : okBs 11 false prog_14_method_107_code pb_X12_isKept = true := by decide +kernel
set_option maxRecDepth 1000000 in
theorem kk_255 : okBs 11 false prog_14_method_108_code pb_X12_minuteGoes = true := by decide +kernel
set_option maxRecDepth 1000000 in
theorem kk_256 : okBs 11 false prog_14_method_109_code pb_X12_minutes = true := by decide +kernel
set_option maxRecDepth 1000000 in
theorem kk_257 : okBs 11 false prog_14_method_110_code pb_X12_refuses = true := by decide +kernel
set_option maxRecDepth 1000000 in
theorem kk_258 : okBs 11 false prog_14_method_111_code pb_X12_point = true := by decide +kernel
set_option maxRecDepth 1000000 in
theorem kk_259 : okBs 11 false prog_14_method_112_code pb_X12_move = true := by decide +kernel
set_option maxRecDepth 1000000 in
theorem kk_260 : okBs 11 false prog_14_method_113_code pb_X12_take = true := by decide +kernel
set_option maxRecDepth 1000000 in
theorem kk_261 : okBs 11 false prog_14_method_114_code pb_X12_dismiss = true := by decide +kernel
set_option maxRecDepth 1000000 in
theorem kk_262 : okBs 11 false prog_14_method_115_code pb_X12_qCode = true := by decide +kernel
set_option maxRecDepth 1000000 in
theorem kk_263 : okBs 11 false prog_14_method_116_code pb_X12_qOpens = true := by decide +kernel
set_option maxRecDepth 1000000 in
theorem kk_264 : okBs 11 false prog_14_method_117_code pb_X12_qIsOn = true := by decide +kernel
set_option maxRecDepth 1000000 in
theorem kk_265 : okBs 11 false prog_14_method_118_code pb_X12_qDrops = true := by decide +kernel
set_option maxRecDepth 1000000 in
theorem kk_266 : okBs 11 false prog_14_method_119_code pb_X12_qIsBracket = true := by decide +kernel
set_option maxRecDepth 1000000 in
theorem kk_267 : okBs 11 false prog_14_method_120_code pb_X12_qBracket = true := by decide +kernel
set_option maxRecDepth 1000000 in
theorem kk_268 : okBs 11 false prog_14_method_121_code pb_X12_qDropsToBracket = true := by decide +kernel
set_option maxRecDepth 1000000 in
theorem kk_269 : okBs 11 false prog_14_method_122_code pb_X12_qWordHere = true := by decide +kernel
set_option maxRecDepth 1000000 in
theorem kk_270 : okBs 11 false prog_14_method_123_code pb_X12_qWordOf = true := by decide +kernel
set_option maxRecDepth 1000000 in
theorem kk_271 : okBs 11 false prog_14_method_124_code pb_X12_qAsksWord = true := by decide +kernel
set_option maxRecDepth 1000000 in
theorem kk_272 : okBs 11 false prog_14_method_125_code pb_X12_qEndsPart = true := by decide +kernel
set_option maxRecDepth 1000000 in
theorem kk_273 : okBs 11 false prog_14_method_126_code pb_X12_qPartTold = true := by decide +kernel
set_option maxRecDepth 1000000 in
theorem kk_274 : okBs 11 false prog_14_method_127_code pb_X12_qGoesOn = true := by decide +kernel
set_option maxRecDepth 1000000 in
theorem kk_275 : okBs 11 false prog_14_method_128_code pb_X12_qSums = true := by decide +kernel
set_option maxRecDepth 1000000 in
theorem kk_276 : okBs 11 false prog_14_method_129_code pb_X12_qFact = true := by decide +kernel
set_option maxRecDepth 1000000 in
theorem kk_277 : okBs 11 false prog_14_method_130_code pb_X12_qHasSquare = true := by decide +kernel
set_option maxRecDepth 1000000 in
theorem kk_278 : okBs 11 false prog_14_method_131_code pb_X12_qDropsNots = true := by decide +kernel
set_option maxRecDepth 1000000 in
theorem kk_279 : okBs 11 false prog_14_method_132_code pb_X12_qTest = true := by decide +kernel
set_option maxRecDepth 1000000 in
theorem kk_280 : okBs 11 false prog_14_method_133_code pb_X12_qGoesOnTest = true := by decide +kernel
set_option maxRecDepth 1000000 in
theorem kk_281 : okBs 11 false prog_14_method_134_code pb_X12_qClip = true := by decide +kernel
set_option maxRecDepth 1000000 in
theorem kk_282 : okBs 11 false prog_14_method_135_code pb_X12_qFloor = true := by decide +kernel
set_option maxRecDepth 1000000 in
theorem kk_283 : okBs 11 false prog_14_method_136_code pb_X12_qPuts = true := by decide +kernel
set_option maxRecDepth 1000000 in
theorem kk_284 : okBs 11 false prog_14_method_137_code pb_X12_qJoins = true := by decide +kernel
set_option maxRecDepth 1000000 in
theorem kk_285 : okBs 11 false prog_14_method_138_code pb_X12_qPartOf = true := by decide +kernel
set_option maxRecDepth 1000000 in
theorem kk_286 : okBs 11 false prog_14_method_139_code pb_X12_qOf = true := by decide +kernel
set_option maxRecDepth 1000000 in
theorem kk_287 : okBs 11 false prog_14_method_140_code pb_X12_qTold = true := by decide +kernel
set_option maxRecDepth 1000000 in
theorem kk_288 : okBs 11 false prog_14_method_141_code pb_X12_qKind = true := by decide +kernel
set_option maxRecDepth 1000000 in
theorem kk_289 : okBs 11 false prog_14_method_142_code pb_X12_qTakes = true := by decide +kernel
set_option maxRecDepth 1000000 in
theorem kk_290 : okBs 11 false prog_14_method_143_code pb_X12_ask = true := by decide +kernel
set_option maxRecDepth 1000000 in
theorem kk_291 : okBs 11 false prog_14_method_144_code pb_X12_checked = true := by decide +kernel
set_option maxRecDepth 1000000 in
theorem kk_292 : okBs 11 false prog_14_method_145_code pb_X12_writes = true := by decide +kernel
set_option maxRecDepth 1000000 in
theorem kk_293 : okBs 11 false prog_14_method_146_code pb_X12_image = true := by decide +kernel
set_option maxRecDepth 1000000 in
theorem kk_294 : okBs 11 false prog_14_method_147_code pb_X12_octet = true := by decide +kernel
set_option maxRecDepth 1000000 in
theorem kk_295 : okBs 11 false prog_14_method_148_code pb_X12_scaleTold = true := by decide +kernel
set_option maxRecDepth 1000000 in
theorem kk_296 : okBs 11 false prog_14_method_149_code pb_X12_seatTold = true := by decide +kernel
set_option maxRecDepth 1000000 in
theorem kk_297 : okBs 11 false prog_14_method_150_code pb_X12_areSeatsTold = true := by decide +kernel
set_option maxRecDepth 1000000 in
theorem kk_298 : okBs 11 false prog_14_method_151_code pb_X12_isTold = true := by decide +kernel
set_option maxRecDepth 1000000 in
theorem kk_299 : okBs 11 false prog_14_method_152_code pb_X12_on = true := by decide +kernel
