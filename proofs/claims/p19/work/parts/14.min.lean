/-! the heap of the two new objects: its shape, its references, its ints -/
def xp_rf : Nat → Nat → Option Nat := hx17.2.1
def xp_mm : Nat → Nat → Int32 := hx17.2.2
def xp_sh : List (Nat × Nat) := [(7, 5), (2, 4), (3, 2), (0, 64), (3, 2), (0, 64), (3, 2), (0, 64), (3, 2), (0, 64), (3, 2), (0, 64), (4, 8), (3, 2), (0, 64), (3, 2), (0, 64), (0, 25), (0, 8), (0, 8), (5, 7), (0, 343), (0, 343), (0, 7), (0, 49), (0, 7), (6, 5), (3, 2), (0, 64), (0, 8), (0, 8), (0, 8), (8, 7), (0, 6), (0, 384), (0, 64), (0, 8), (0, 35280), (1, 5040)]
theorem xp_eq : hx17 = (xp_sh, xp_rf, xp_mm) := rfl
