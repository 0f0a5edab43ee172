/-! p1: the law's runs on the new objects -/
abbrev xp_LS : List (Option Value) := [some (.float 0), some (.ref 0), some (.ref 32), some (.int 0)]
def xp_rf : Nat → Nat → Option Nat := hx17.2.1
def xp_mm : Nat → Nat → Int32 := hx17.2.2
def xp_sh : List (Nat × Nat) := [(7, 5), (2, 4), (3, 2), (0, 64), (3, 2), (0, 64), (3, 2), (0, 64), (3, 2), (0, 64), (3, 2), (0, 64), (4, 8), (3, 2), (0, 64), (3, 2), (0, 64), (0, 25), (0, 8), (0, 8), (5, 7), (0, 343), (0, 343), (0, 7), (0, 49), (0, 7), (6, 5), (3, 2), (0, 64), (0, 8), (0, 8), (0, 8), (8, 7), (0, 6), (0, 384), (0, 64), (0, 8), (0, 35280), (1, 5040)]
theorem xp_eq : hx17 = (xp_sh, xp_rf, xp_mm) := rfl
def xe_go (pc : Nat) (sc : List (Nat × Int32)) (ds : List Bool) : Option xe_R := xe_lp ((1000000, 5) :: sc) (xe_call ((1000000, 5) :: sc) 6000 60) 6000 xi_law pc xp_LS [] (xp_sh, xp_rf, xp_mm) ds
def xe_t (pc : Nat) (sc : List (Nat × Int32)) : Bool := match xe_go pc sc [] with
  | some (some (.int 1), _, _, []) => true
  | _ => false
set_option maxRecDepth 100000 in
theorem v_table : ∀ t, t < 4 → ∀ n, n < 8 → xe_t 132 [(1, nI t), (2, nI (n + 1))] = true := by decide +kernel
set_option maxRecDepth 100000 in
theorem v_at : ∀ t, t < 4 → xe_t 218 [(1, nI t), (2, 0), (3, 0)] = true := by decide +kernel
set_option maxRecDepth 100000 in
theorem v_empty : ∀ t, t < 4 → xe_t 261 [(1, nI t)] = true := by decide +kernel
set_option maxRecDepth 100000 in
theorem v_ways1 : ∀ t, t < 4 → xe_t 284 [(1, nI t), (2, 1)] = true := by decide +kernel
set_option maxRecDepth 100000 in
theorem v_end : ∀ s, s < 4 → ∀ t, t < 4 → xe_t 317 [(1, nI s), (2, nI t)] = true := by decide +kernel
set_option maxRecDepth 100000 in
theorem v_divide : ∀ t, t < 4 → ∀ w, w < 2 → xe_t 350 [(1, nI t), (2, nI w), (3, 0), (4, 0)] = true := by decide +kernel
set_option maxRecDepth 100000 in
theorem v_law : ∀ t, t < 4 → ∀ k, k < 13 → ∀ w, w < 2 → xe_t 403 [(1, nI t), (2, nI k), (3, nI w)] = true := by decide +kernel
set_option maxRecDepth 100000 in
theorem v_joining : ∀ t, t < 4 → ∀ w, w < 5 → xe_t 446 [(1, nI t), (2, nI w)] = true := by decide +kernel
set_option maxRecDepth 100000 in
theorem v_made : ∀ t, t < 4 → ∀ w, w < 2 → xe_t 479 [(1, nI t), (2, nI w)] = true := by decide +kernel
set_option maxRecDepth 100000 in
theorem v_parts : ∀ t, t < 4 → ∀ w, w < 2 → xe_t 512 [(1, nI t), (2, nI w)] = true := by decide +kernel
set_option maxRecDepth 100000 in
theorem v_normal : ∀ t, t < 4 → ∀ w, w < 2 → xe_t 545 [(1, nI t), (2, nI w)] = true := by decide +kernel
set_option maxRecDepth 100000 in
theorem v_left : ∀ s, s < 4 → ∀ t, t < 4 → ∀ w, w < 2 → xe_t 578 [(1, nI s), (2, nI t), (3, nI w)] = true := by decide +kernel
set_option maxRecDepth 100000 in
theorem v_alike : ∀ s, s < 4 → ∀ t, t < 4 → ∀ w, w < 2 → xe_t 644 [(1, nI s), (2, nI t), (3, nI w)] = true := by decide +kernel
set_option maxRecDepth 100000 in
theorem v_name : ∀ s, s < 4 → ∀ t, t < 4 → xe_t 703 [(1, nI s), (2, nI t)] = true := by decide +kernel
set_option maxRecDepth 100000 in
theorem v_square1 : ∀ t, t < 4 → xe_t 736 [(1, nI t), (2, -1)] = true := by decide +kernel
set_option maxRecDepth 100000 in
theorem v_product : ∀ s, s < 4 → ∀ t, t < 4 → ∀ u, u < 4 → xe_t 845 [(1, nI s), (2, nI t), (3, nI u)] = true := by decide +kernel
set_option maxRecDepth 100000 in
theorem v_size : ∀ t, t < 4 → xe_t 888 [(1, nI t)] = true := by decide +kernel
