set_option maxRecDepth 100000 in
theorem v_table_0_1 :  xe_t 132 [(1, nI 0), (2, nI 1)] = true := by decide +kernel
set_option maxRecDepth 100000 in
theorem v_table_0_2 :  xe_t 132 [(1, nI 0), (2, nI 2)] = true := by decide +kernel
set_option maxRecDepth 100000 in
theorem v_table_0_3 :  xe_t 132 [(1, nI 0), (2, nI 3)] = true := by decide +kernel
set_option maxRecDepth 100000 in
theorem v_table_0_4 :  xe_t 132 [(1, nI 0), (2, nI 4)] = true := by decide +kernel
set_option maxRecDepth 100000 in
theorem v_table_0_5 :  xe_t 132 [(1, nI 0), (2, nI 5)] = true := by decide +kernel
set_option maxRecDepth 100000 in
theorem v_table_0_6 :  xe_t 132 [(1, nI 0), (2, nI 6)] = true := by decide +kernel
set_option maxRecDepth 100000 in
theorem v_table_0_7 :  xe_t 132 [(1, nI 0), (2, nI 7)] = true := by decide +kernel
set_option maxRecDepth 100000 in
theorem v_table_0_8 :  xe_t 132 [(1, nI 0), (2, nI 8)] = true := by decide +kernel
set_option maxRecDepth 100000 in
theorem v_table_1_1 :  xe_t 132 [(1, nI 1), (2, nI 1)] = true := by decide +kernel
set_option maxRecDepth 100000 in
theorem v_table_1_2 :  xe_t 132 [(1, nI 1), (2, nI 2)] = true := by decide +kernel
set_option maxRecDepth 100000 in
theorem v_table_1_3 :  xe_t 132 [(1, nI 1), (2, nI 3)] = true := by decide +kernel
set_option maxRecDepth 100000 in
theorem v_table_1_4 :  xe_t 132 [(1, nI 1), (2, nI 4)] = true := by decide +kernel
set_option maxRecDepth 100000 in
theorem v_table_1_5 :  xe_t 132 [(1, nI 1), (2, nI 5)] = true := by decide +kernel
set_option maxRecDepth 100000 in
theorem v_table_1_6 :  xe_t 132 [(1, nI 1), (2, nI 6)] = true := by decide +kernel
set_option maxRecDepth 100000 in
theorem v_table_1_7 :  xe_t 132 [(1, nI 1), (2, nI 7)] = true := by decide +kernel
set_option maxRecDepth 100000 in
theorem v_table_1_8 :  xe_t 132 [(1, nI 1), (2, nI 8)] = true := by decide +kernel
set_option maxRecDepth 100000 in
theorem v_table_2_1 :  xe_t 132 [(1, nI 2), (2, nI 1)] = true := by decide +kernel
set_option maxRecDepth 100000 in
theorem v_table_2_2 :  xe_t 132 [(1, nI 2), (2, nI 2)] = true := by decide +kernel
set_option maxRecDepth 100000 in
theorem v_table_2_3 :  xe_t 132 [(1, nI 2), (2, nI 3)] = true := by decide +kernel
set_option maxRecDepth 100000 in
theorem v_table_2_4 :  xe_t 132 [(1, nI 2), (2, nI 4)] = true := by decide +kernel
set_option maxRecDepth 100000 in
theorem v_table_2_5 :  xe_t 132 [(1, nI 2), (2, nI 5)] = true := by decide +kernel
set_option maxRecDepth 100000 in
theorem v_table_2_6 :  xe_t 132 [(1, nI 2), (2, nI 6)] = true := by decide +kernel
set_option maxRecDepth 100000 in
theorem v_table_2_7 :  xe_t 132 [(1, nI 2), (2, nI 7)] = true := by decide +kernel
set_option maxRecDepth 100000 in
theorem v_table_2_8 :  xe_t 132 [(1, nI 2), (2, nI 8)] = true := by decide +kernel
set_option maxRecDepth 100000 in
theorem v_table_3_1 :  xe_t 132 [(1, nI 3), (2, nI 1)] = true := by decide +kernel
set_option maxRecDepth 100000 in
theorem v_table_3_2 :  xe_t 132 [(1, nI 3), (2, nI 2)] = true := by decide +kernel
set_option maxRecDepth 100000 in
theorem v_table_3_3 :  xe_t 132 [(1, nI 3), (2, nI 3)] = true := by decide +kernel
set_option maxRecDepth 100000 in
theorem v_table_3_4 :  xe_t 132 [(1, nI 3), (2, nI 4)] = true := by decide +kernel
set_option maxRecDepth 100000 in
theorem v_table_3_5 :  xe_t 132 [(1, nI 3), (2, nI 5)] = true := by decide +kernel
set_option maxRecDepth 100000 in
theorem v_table_3_6 :  xe_t 132 [(1, nI 3), (2, nI 6)] = true := by decide +kernel
set_option maxRecDepth 100000 in
theorem v_table_3_7 :  xe_t 132 [(1, nI 3), (2, nI 7)] = true := by decide +kernel
set_option maxRecDepth 100000 in
theorem v_table_3_8 :  xe_t 132 [(1, nI 3), (2, nI 8)] = true := by decide +kernel
