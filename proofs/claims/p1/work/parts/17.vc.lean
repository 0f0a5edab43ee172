set_option maxRecDepth 100000 in
theorem v_left_0 : ∀ t, t < 4 → ∀ w, w < 2 →  xe_t 578 [(1, nI 0), (2, nI t), (3, nI w)] = true := by decide +kernel
set_option maxRecDepth 100000 in
theorem v_alike_0 : ∀ t, t < 4 → ∀ w, w < 1 →  xe_t 644 [(1, nI 0), (2, nI t), (3, nI w)] = true := by decide +kernel
set_option maxRecDepth 100000 in
theorem v_name_0 : ∀ t, t < 4 →  xe_t 703 [(1, nI 0), (2, nI t)] = true := by decide +kernel
set_option maxRecDepth 100000 in
theorem v_product_0_0 : ∀ u, u < 4 →  xe_t 845 [(1, nI 0), (2, nI 0), (3, nI u)] = true := by decide +kernel
set_option maxRecDepth 100000 in
theorem v_product_0_1 : ∀ u, u < 4 →  xe_t 845 [(1, nI 0), (2, nI 1), (3, nI u)] = true := by decide +kernel
set_option maxRecDepth 100000 in
theorem v_product_0_2 : ∀ u, u < 4 →  xe_t 845 [(1, nI 0), (2, nI 2), (3, nI u)] = true := by decide +kernel
set_option maxRecDepth 100000 in
theorem v_product_0_3 : ∀ u, u < 4 →  xe_t 845 [(1, nI 0), (2, nI 3), (3, nI u)] = true := by decide +kernel
set_option maxRecDepth 100000 in
theorem v_left_1 : ∀ t, t < 4 → ∀ w, w < 2 →  xe_t 578 [(1, nI 1), (2, nI t), (3, nI w)] = true := by decide +kernel
set_option maxRecDepth 100000 in
theorem v_alike_1 : ∀ t, t < 4 → ∀ w, w < 1 →  xe_t 644 [(1, nI 1), (2, nI t), (3, nI w)] = true := by decide +kernel
set_option maxRecDepth 100000 in
theorem v_name_1 : ∀ t, t < 4 →  xe_t 703 [(1, nI 1), (2, nI t)] = true := by decide +kernel
set_option maxRecDepth 100000 in
theorem v_product_1_0 : ∀ u, u < 4 →  xe_t 845 [(1, nI 1), (2, nI 0), (3, nI u)] = true := by decide +kernel
set_option maxRecDepth 100000 in
theorem v_product_1_1 : ∀ u, u < 4 →  xe_t 845 [(1, nI 1), (2, nI 1), (3, nI u)] = true := by decide +kernel
set_option maxRecDepth 100000 in
theorem v_product_1_2 : ∀ u, u < 4 →  xe_t 845 [(1, nI 1), (2, nI 2), (3, nI u)] = true := by decide +kernel
set_option maxRecDepth 100000 in
theorem v_product_1_3 : ∀ u, u < 4 →  xe_t 845 [(1, nI 1), (2, nI 3), (3, nI u)] = true := by decide +kernel
set_option maxRecDepth 100000 in
theorem v_left_2 : ∀ t, t < 4 → ∀ w, w < 2 →  xe_t 578 [(1, nI 2), (2, nI t), (3, nI w)] = true := by decide +kernel
set_option maxRecDepth 100000 in
theorem v_alike_2 : ∀ t, t < 4 → ∀ w, w < 1 →  xe_t 644 [(1, nI 2), (2, nI t), (3, nI w)] = true := by decide +kernel
set_option maxRecDepth 100000 in
theorem v_name_2 : ∀ t, t < 4 →  xe_t 703 [(1, nI 2), (2, nI t)] = true := by decide +kernel
set_option maxRecDepth 100000 in
theorem v_product_2_0 : ∀ u, u < 4 →  xe_t 845 [(1, nI 2), (2, nI 0), (3, nI u)] = true := by decide +kernel
set_option maxRecDepth 100000 in
theorem v_product_2_1 : ∀ u, u < 4 →  xe_t 845 [(1, nI 2), (2, nI 1), (3, nI u)] = true := by decide +kernel
set_option maxRecDepth 100000 in
theorem v_product_2_2 : ∀ u, u < 4 →  xe_t 845 [(1, nI 2), (2, nI 2), (3, nI u)] = true := by decide +kernel
set_option maxRecDepth 100000 in
theorem v_product_2_3 : ∀ u, u < 4 →  xe_t 845 [(1, nI 2), (2, nI 3), (3, nI u)] = true := by decide +kernel
set_option maxRecDepth 100000 in
theorem v_left_3 : ∀ t, t < 4 → ∀ w, w < 2 →  xe_t 578 [(1, nI 3), (2, nI t), (3, nI w)] = true := by decide +kernel
set_option maxRecDepth 100000 in
theorem v_alike_3 : ∀ t, t < 4 → ∀ w, w < 1 →  xe_t 644 [(1, nI 3), (2, nI t), (3, nI w)] = true := by decide +kernel
set_option maxRecDepth 100000 in
theorem v_name_3 : ∀ t, t < 4 →  xe_t 703 [(1, nI 3), (2, nI t)] = true := by decide +kernel
set_option maxRecDepth 100000 in
theorem v_product_3_0 : ∀ u, u < 4 →  xe_t 845 [(1, nI 3), (2, nI 0), (3, nI u)] = true := by decide +kernel
set_option maxRecDepth 100000 in
theorem v_product_3_1 : ∀ u, u < 4 →  xe_t 845 [(1, nI 3), (2, nI 1), (3, nI u)] = true := by decide +kernel
set_option maxRecDepth 100000 in
theorem v_product_3_2 : ∀ u, u < 4 →  xe_t 845 [(1, nI 3), (2, nI 2), (3, nI u)] = true := by decide +kernel
set_option maxRecDepth 100000 in
theorem v_product_3_3 : ∀ u, u < 4 →  xe_t 845 [(1, nI 3), (2, nI 3), (3, nI u)] = true := by decide +kernel
set_option maxRecDepth 100000 in
theorem v_doubled_0 : ∀ t, t < 4 →  xe_t 802 [(1, nI 0), (2, nI t)] = true := by decide +kernel
set_option maxRecDepth 100000 in
theorem v_doubled_1 : ∀ t, t < 4 →  xe_t 802 [(1, nI 1), (2, nI t)] = true := by decide +kernel
set_option maxRecDepth 100000 in
theorem v_doubled_2 : ∀ t, t < 4 →  xe_t 802 [(1, nI 2), (2, nI t)] = true := by decide +kernel
set_option maxRecDepth 100000 in
theorem v_doubled_3 : ∀ t, t < 4 →  xe_t 802 [(1, nI 3), (2, nI t)] = true := by decide +kernel
