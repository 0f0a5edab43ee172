/-! p1: the law's runs on the new objects -/
abbrev xp_LS : List (Option Value) := [some (.float 0), some (.ref 0), some (.ref 32), some (.int 0)]
def xp_rf : Nat → Nat → Option Nat := hx17.2.1
def xp_mm : Nat → Nat → Int32 := hx17.2.2
def xp_sh : List (Nat × Nat) := [(7, 5), (2, 4), (3, 2), (0, 64), (3, 2), (0, 64), (3, 2), (0, 64), (3, 2), (0, 64), (3, 2), (0, 64), (4, 8), (3, 2), (0, 64), (3, 2), (0, 64), (0, 25), (0, 8), (0, 8), (5, 7), (0, 343), (0, 343), (0, 7), (0, 49), (0, 7), (6, 5), (3, 2), (0, 64), (0, 8), (0, 8), (0, 8), (8, 7), (0, 6), (0, 384), (0, 64), (0, 8), (0, 35280), (1, 5040)]
theorem xp_eq : hx17 = (xp_sh, xp_rf, xp_mm) := rfl
def xe_go (pc : Nat) (sc : List (Nat × Int32)) (ds : List Bool) : Option xe_R := xe_lp ((1000000, 5) :: sc) (xe_call ((1000000, 5) :: sc) 6000 60) 6000 xi_law pc xp_LS [] (xp_sh, xp_rf, xp_mm) ds
def xe_t (pc : Nat) (sc : List (Nat × Int32)) : Bool := match xe_go pc sc [] with
  | some (some (.int 1), _, _, []) => true
  | _ => false
