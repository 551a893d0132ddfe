set_option maxRecDepth 1000000 in
theorem kkw_1018 : okB 11 true prog_14_method_1_code 1018 pb_X12_init_b1018 = true := by
  have e : pb_X12_init_b1018 = cb_1018_0 ++ (cb_1018_1 ++ (cb_1018_2 ++ (cb_1018_3 ++ (cb_1018_4 ++ (cb_1018_5 ++ (cb_1018_6)))))) := rfl
  rw [e, okB_app, okB_app, okB_app, okB_app, okB_app, okB_app]
  show (okB 11 true prog_14_method_1_code 1018 cb_1018_0 && (okB 11 true prog_14_method_1_code 1156 cb_1018_1 && (okB 11 true prog_14_method_1_code 1281 cb_1018_2 && (okB 11 true prog_14_method_1_code 1406 cb_1018_3 && (okB 11 true prog_14_method_1_code 1531 cb_1018_4 && (okB 11 true prog_14_method_1_code 1656 cb_1018_5 && (okB 11 true prog_14_method_1_code 1797 cb_1018_6))))))) = true
  rw [kkx_1018_0, kkx_1018_1, kkx_1018_2, kkx_1018_3, kkx_1018_4, kkx_1018_5, kkx_1018_6]
  rfl
