set_option maxRecDepth 100000 in
theorem v_at : ∀ t, t < 4 →  xe_t 218 [(1, nI t), (2, 0), (3, 0)] = true := by decide +kernel
set_option maxRecDepth 100000 in
theorem v_empty : ∀ t, t < 4 →  xe_t 261 [(1, nI t)] = true := by decide +kernel
set_option maxRecDepth 100000 in
theorem v_ways1 : ∀ t, t < 4 →  xe_t 284 [(1, nI t), (2, 1)] = true := by decide +kernel
set_option maxRecDepth 100000 in
theorem v_divide : ∀ t, t < 4 → ∀ w, w < 2 →  xe_t 350 [(1, nI t), (2, nI w), (3, 0), (4, 0)] = true := by decide +kernel
set_option maxRecDepth 100000 in
theorem v_joining : ∀ t, t < 4 → ∀ w, w < 5 →  xe_t 446 [(1, nI t), (2, nI w)] = true := by decide +kernel
set_option maxRecDepth 100000 in
theorem v_made : ∀ t, t < 4 → ∀ w, w < 2 →  xe_t 479 [(1, nI t), (2, nI w)] = true := by decide +kernel
set_option maxRecDepth 100000 in
theorem v_parts : ∀ t, t < 4 → ∀ w, w < 2 →  xe_t 512 [(1, nI t), (2, nI w)] = true := by decide +kernel
set_option maxRecDepth 100000 in
theorem v_normal : ∀ t, t < 4 → ∀ w, w < 2 →  xe_t 545 [(1, nI t), (2, nI w)] = true := by decide +kernel
set_option maxRecDepth 100000 in
theorem v_square1 : ∀ t, t < 4 →  xe_t 736 [(1, nI t), (2, -1)] = true := by decide +kernel
set_option maxRecDepth 100000 in
theorem v_size : ∀ t, t < 4 →  xe_t 888 [(1, nI t)] = true := by decide +kernel
set_option maxRecDepth 100000 in
theorem v_end_0 : ∀ t, t < 4 →  xe_t 317 [(1, nI 0), (2, nI t)] = true := by decide +kernel
set_option maxRecDepth 100000 in
theorem v_law_0_0 : ∀ k, k < 13 →  xe_t 403 [(1, nI 0), (2, nI k), (3, nI 0)] = true := by decide +kernel
set_option maxRecDepth 100000 in
theorem v_law_0_1 : ∀ k, k < 13 →  xe_t 403 [(1, nI 0), (2, nI k), (3, nI 1)] = true := by decide +kernel
set_option maxRecDepth 100000 in
theorem v_end_1 : ∀ t, t < 4 →  xe_t 317 [(1, nI 1), (2, nI t)] = true := by decide +kernel
set_option maxRecDepth 100000 in
theorem v_law_1_0 : ∀ k, k < 13 →  xe_t 403 [(1, nI 1), (2, nI k), (3, nI 0)] = true := by decide +kernel
set_option maxRecDepth 100000 in
theorem v_law_1_1 : ∀ k, k < 13 →  xe_t 403 [(1, nI 1), (2, nI k), (3, nI 1)] = true := by decide +kernel
set_option maxRecDepth 100000 in
theorem v_end_2 : ∀ t, t < 4 →  xe_t 317 [(1, nI 2), (2, nI t)] = true := by decide +kernel
set_option maxRecDepth 100000 in
theorem v_law_2_0 : ∀ k, k < 13 →  xe_t 403 [(1, nI 2), (2, nI k), (3, nI 0)] = true := by decide +kernel
set_option maxRecDepth 100000 in
theorem v_law_2_1 : ∀ k, k < 13 →  xe_t 403 [(1, nI 2), (2, nI k), (3, nI 1)] = true := by decide +kernel
set_option maxRecDepth 100000 in
theorem v_end_3 : ∀ t, t < 4 →  xe_t 317 [(1, nI 3), (2, nI t)] = true := by decide +kernel
set_option maxRecDepth 100000 in
theorem v_law_3_0 : ∀ k, k < 13 →  xe_t 403 [(1, nI 3), (2, nI k), (3, nI 0)] = true := by decide +kernel
set_option maxRecDepth 100000 in
theorem v_law_3_1 : ∀ k, k < 13 →  xe_t 403 [(1, nI 3), (2, nI k), (3, nI 1)] = true := by decide +kernel
