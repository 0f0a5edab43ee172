/-! the LAWS: one case, both sides; written by wip/tools/lawgen.py -/
theorem zg_10 (a0 a1 a2 a3 a4 a5 a6 a7 a8 a9 a10 : Option Value) (l : zL) : (a0 :: a1 :: a2 :: a3 :: a4 :: a5 :: a6 :: a7 :: a8 :: a9 :: a10 :: l)[10]? = some a10 := rfl
def lwB (n : Nat) (c : tC) (w x y z : Nat) : Bool := match w with
  | 0 => decide (c x y = c y x)
  | 1 => decide (c (c x y) z = c x (c y z))
  | 2 => decide (c x (c y x) = c (c x y) x)
  | 3 => decide (c x (c x y) = c (c x x) y)
  | 4 => decide (c (c y x) x = c y (c x x))
  | 5 => decide (c x (c y (c x z)) = c (c x (c y x)) z)
  | 6 => decide (c (c (c z x) y) x = c z (c (c x y) x))
  | 7 => decide (c (c (c x y) x) z = c x (c y (c x z)))
  | 8 => decide (tun n c x 0 = tov n c 0 x)
  | 9 => decide (c (tun n c x 0) (c x y) = y)
  | 10 => decide (c (c y x) (tov n c 0 x) = y)
  | 11 => decide (c x x = 0)
  | _ => decide (c (c x y) (c x z) = c (c x x) (c y z))
def lwL (w : Nat) : Nat := match w with
  | 0 => 2
  | 1 => 3
  | 2 => 2
  | 3 => 2
  | 4 => 2
  | 5 => 3
  | 6 => 3
  | 7 => 3
  | 8 => 1
  | 9 => 2
  | 10 => 2
  | 11 => 1
  | _ => 3
theorem tJ0 : (nI 0).toInt = 0 := by decide
theorem tJ1 : (nI 1).toInt = 1 := by decide
theorem tJ2 : (nI 2).toInt = 2 := by decide
theorem tJ3 : (nI 3).toInt = 3 := by decide
theorem tJ4 : (nI 4).toInt = 4 := by decide
theorem tJ5 : (nI 5).toInt = 5 := by decide
theorem tJ6 : (nI 6).toInt = 6 := by decide
theorem tJ7 : (nI 7).toInt = 7 := by decide
theorem tJ8 : (nI 8).toInt = 8 := by decide
theorem tJ9 : (nI 9).toInt = 9 := by decide
theorem tJ10 : (nI 10).toInt = 10 := by decide
theorem tJ11 : (nI 11).toInt = 11 := by decide
theorem tJ12 : (nI 12).toInt = 12 := by decide
theorem pkC0 : zpick 0 [(66, zg_Laws_countLetters_g1), (68, zg_Laws_countLetters_g2), (66, zg_Laws_countLetters_g1), (66, zg_Laws_countLetters_g1), (66, zg_Laws_countLetters_g1), (68, zg_Laws_countLetters_g2), (68, zg_Laws_countLetters_g2), (68, zg_Laws_countLetters_g2), (64, zg_Laws_countLetters_g0), (66, zg_Laws_countLetters_g1), (66, zg_Laws_countLetters_g1), (64, zg_Laws_countLetters_g0)] zg_Laws_countLetters_g2 (nI 0) = zret (zk (nI 2)) := rfl
theorem pkC1 : zpick 0 [(66, zg_Laws_countLetters_g1), (68, zg_Laws_countLetters_g2), (66, zg_Laws_countLetters_g1), (66, zg_Laws_countLetters_g1), (66, zg_Laws_countLetters_g1), (68, zg_Laws_countLetters_g2), (68, zg_Laws_countLetters_g2), (68, zg_Laws_countLetters_g2), (64, zg_Laws_countLetters_g0), (66, zg_Laws_countLetters_g1), (66, zg_Laws_countLetters_g1), (64, zg_Laws_countLetters_g0)] zg_Laws_countLetters_g2 (nI 1) = zret (zk (nI 3)) := rfl
theorem pkC2 : zpick 0 [(66, zg_Laws_countLetters_g1), (68, zg_Laws_countLetters_g2), (66, zg_Laws_countLetters_g1), (66, zg_Laws_countLetters_g1), (66, zg_Laws_countLetters_g1), (68, zg_Laws_countLetters_g2), (68, zg_Laws_countLetters_g2), (68, zg_Laws_countLetters_g2), (64, zg_Laws_countLetters_g0), (66, zg_Laws_countLetters_g1), (66, zg_Laws_countLetters_g1), (64, zg_Laws_countLetters_g0)] zg_Laws_countLetters_g2 (nI 2) = zret (zk (nI 2)) := rfl
theorem pkC3 : zpick 0 [(66, zg_Laws_countLetters_g1), (68, zg_Laws_countLetters_g2), (66, zg_Laws_countLetters_g1), (66, zg_Laws_countLetters_g1), (66, zg_Laws_countLetters_g1), (68, zg_Laws_countLetters_g2), (68, zg_Laws_countLetters_g2), (68, zg_Laws_countLetters_g2), (64, zg_Laws_countLetters_g0), (66, zg_Laws_countLetters_g1), (66, zg_Laws_countLetters_g1), (64, zg_Laws_countLetters_g0)] zg_Laws_countLetters_g2 (nI 3) = zret (zk (nI 2)) := rfl
theorem pkC4 : zpick 0 [(66, zg_Laws_countLetters_g1), (68, zg_Laws_countLetters_g2), (66, zg_Laws_countLetters_g1), (66, zg_Laws_countLetters_g1), (66, zg_Laws_countLetters_g1), (68, zg_Laws_countLetters_g2), (68, zg_Laws_countLetters_g2), (68, zg_Laws_countLetters_g2), (64, zg_Laws_countLetters_g0), (66, zg_Laws_countLetters_g1), (66, zg_Laws_countLetters_g1), (64, zg_Laws_countLetters_g0)] zg_Laws_countLetters_g2 (nI 4) = zret (zk (nI 2)) := rfl
theorem pkC5 : zpick 0 [(66, zg_Laws_countLetters_g1), (68, zg_Laws_countLetters_g2), (66, zg_Laws_countLetters_g1), (66, zg_Laws_countLetters_g1), (66, zg_Laws_countLetters_g1), (68, zg_Laws_countLetters_g2), (68, zg_Laws_countLetters_g2), (68, zg_Laws_countLetters_g2), (64, zg_Laws_countLetters_g0), (66, zg_Laws_countLetters_g1), (66, zg_Laws_countLetters_g1), (64, zg_Laws_countLetters_g0)] zg_Laws_countLetters_g2 (nI 5) = zret (zk (nI 3)) := rfl
theorem pkC6 : zpick 0 [(66, zg_Laws_countLetters_g1), (68, zg_Laws_countLetters_g2), (66, zg_Laws_countLetters_g1), (66, zg_Laws_countLetters_g1), (66, zg_Laws_countLetters_g1), (68, zg_Laws_countLetters_g2), (68, zg_Laws_countLetters_g2), (68, zg_Laws_countLetters_g2), (64, zg_Laws_countLetters_g0), (66, zg_Laws_countLetters_g1), (66, zg_Laws_countLetters_g1), (64, zg_Laws_countLetters_g0)] zg_Laws_countLetters_g2 (nI 6) = zret (zk (nI 3)) := rfl
theorem pkC7 : zpick 0 [(66, zg_Laws_countLetters_g1), (68, zg_Laws_countLetters_g2), (66, zg_Laws_countLetters_g1), (66, zg_Laws_countLetters_g1), (66, zg_Laws_countLetters_g1), (68, zg_Laws_countLetters_g2), (68, zg_Laws_countLetters_g2), (68, zg_Laws_countLetters_g2), (64, zg_Laws_countLetters_g0), (66, zg_Laws_countLetters_g1), (66, zg_Laws_countLetters_g1), (64, zg_Laws_countLetters_g0)] zg_Laws_countLetters_g2 (nI 7) = zret (zk (nI 3)) := rfl
theorem pkC8 : zpick 0 [(66, zg_Laws_countLetters_g1), (68, zg_Laws_countLetters_g2), (66, zg_Laws_countLetters_g1), (66, zg_Laws_countLetters_g1), (66, zg_Laws_countLetters_g1), (68, zg_Laws_countLetters_g2), (68, zg_Laws_countLetters_g2), (68, zg_Laws_countLetters_g2), (64, zg_Laws_countLetters_g0), (66, zg_Laws_countLetters_g1), (66, zg_Laws_countLetters_g1), (64, zg_Laws_countLetters_g0)] zg_Laws_countLetters_g2 (nI 8) = zret (zk (nI 1)) := rfl
theorem pkC9 : zpick 0 [(66, zg_Laws_countLetters_g1), (68, zg_Laws_countLetters_g2), (66, zg_Laws_countLetters_g1), (66, zg_Laws_countLetters_g1), (66, zg_Laws_countLetters_g1), (68, zg_Laws_countLetters_g2), (68, zg_Laws_countLetters_g2), (68, zg_Laws_countLetters_g2), (64, zg_Laws_countLetters_g0), (66, zg_Laws_countLetters_g1), (66, zg_Laws_countLetters_g1), (64, zg_Laws_countLetters_g0)] zg_Laws_countLetters_g2 (nI 9) = zret (zk (nI 2)) := rfl
theorem pkC10 : zpick 0 [(66, zg_Laws_countLetters_g1), (68, zg_Laws_countLetters_g2), (66, zg_Laws_countLetters_g1), (66, zg_Laws_countLetters_g1), (66, zg_Laws_countLetters_g1), (68, zg_Laws_countLetters_g2), (68, zg_Laws_countLetters_g2), (68, zg_Laws_countLetters_g2), (64, zg_Laws_countLetters_g0), (66, zg_Laws_countLetters_g1), (66, zg_Laws_countLetters_g1), (64, zg_Laws_countLetters_g0)] zg_Laws_countLetters_g2 (nI 10) = zret (zk (nI 2)) := rfl
theorem pkC11 : zpick 0 [(66, zg_Laws_countLetters_g1), (68, zg_Laws_countLetters_g2), (66, zg_Laws_countLetters_g1), (66, zg_Laws_countLetters_g1), (66, zg_Laws_countLetters_g1), (68, zg_Laws_countLetters_g2), (68, zg_Laws_countLetters_g2), (68, zg_Laws_countLetters_g2), (64, zg_Laws_countLetters_g0), (66, zg_Laws_countLetters_g1), (66, zg_Laws_countLetters_g1), (64, zg_Laws_countLetters_g0)] zg_Laws_countLetters_g2 (nI 11) = zret (zk (nI 1)) := rfl
theorem pkC12 : zpick 0 [(66, zg_Laws_countLetters_g1), (68, zg_Laws_countLetters_g2), (66, zg_Laws_countLetters_g1), (66, zg_Laws_countLetters_g1), (66, zg_Laws_countLetters_g1), (68, zg_Laws_countLetters_g2), (68, zg_Laws_countLetters_g2), (68, zg_Laws_countLetters_g2), (64, zg_Laws_countLetters_g0), (66, zg_Laws_countLetters_g1), (66, zg_Laws_countLetters_g1), (64, zg_Laws_countLetters_g0)] zg_Laws_countLetters_g2 (nI 12) = zret (zk (nI 3)) := rfl
theorem pkT0 : zpick 0 [(84, zg_Laws_holdsForTwo_g0), (231, zg_Laws_holdsForTwo_g7), (97, zg_Laws_holdsForTwo_g1), (120, zg_Laws_holdsForTwo_g2), (143, zg_Laws_holdsForTwo_g3), (231, zg_Laws_holdsForTwo_g7), (231, zg_Laws_holdsForTwo_g7), (231, zg_Laws_holdsForTwo_g7), (166, zg_Laws_holdsForTwo_g4), (187, zg_Laws_holdsForTwo_g5), (209, zg_Laws_holdsForTwo_g6)] zg_Laws_holdsForTwo_g7 (nI 0) = zretz (zite (zcmp .eq (zi 5) (zi 6)) (zk (nI 1)) (zk (nI 0))) := rfl
theorem pkT2 : zpick 0 [(84, zg_Laws_holdsForTwo_g0), (231, zg_Laws_holdsForTwo_g7), (97, zg_Laws_holdsForTwo_g1), (120, zg_Laws_holdsForTwo_g2), (143, zg_Laws_holdsForTwo_g3), (231, zg_Laws_holdsForTwo_g7), (231, zg_Laws_holdsForTwo_g7), (231, zg_Laws_holdsForTwo_g7), (166, zg_Laws_holdsForTwo_g4), (187, zg_Laws_holdsForTwo_g5), (209, zg_Laws_holdsForTwo_g6)] zg_Laws_holdsForTwo_g7 (nI 2) = zretz (zite (zcmp .eq (zcallv 0 zf_Table_times (zc (zc (zc (zn) (za 0)) (zi 2)) (zi 6))) (zcallv 0 zf_Table_times (zc (zc (zc (zn) (za 0)) (zi 5)) (zi 2)))) (zk (nI 1)) (zk (nI 0))) := rfl
theorem pkT3 : zpick 0 [(84, zg_Laws_holdsForTwo_g0), (231, zg_Laws_holdsForTwo_g7), (97, zg_Laws_holdsForTwo_g1), (120, zg_Laws_holdsForTwo_g2), (143, zg_Laws_holdsForTwo_g3), (231, zg_Laws_holdsForTwo_g7), (231, zg_Laws_holdsForTwo_g7), (231, zg_Laws_holdsForTwo_g7), (166, zg_Laws_holdsForTwo_g4), (187, zg_Laws_holdsForTwo_g5), (209, zg_Laws_holdsForTwo_g6)] zg_Laws_holdsForTwo_g7 (nI 3) = zretz (zite (zcmp .eq (zcallv 0 zf_Table_times (zc (zc (zc (zn) (za 0)) (zi 2)) (zi 5))) (zcallv 0 zf_Table_times (zc (zc (zc (zn) (za 0)) (zi 4)) (zi 3)))) (zk (nI 1)) (zk (nI 0))) := rfl
theorem pkT4 : zpick 0 [(84, zg_Laws_holdsForTwo_g0), (231, zg_Laws_holdsForTwo_g7), (97, zg_Laws_holdsForTwo_g1), (120, zg_Laws_holdsForTwo_g2), (143, zg_Laws_holdsForTwo_g3), (231, zg_Laws_holdsForTwo_g7), (231, zg_Laws_holdsForTwo_g7), (231, zg_Laws_holdsForTwo_g7), (166, zg_Laws_holdsForTwo_g4), (187, zg_Laws_holdsForTwo_g5), (209, zg_Laws_holdsForTwo_g6)] zg_Laws_holdsForTwo_g7 (nI 4) = zretz (zite (zcmp .eq (zcallv 0 zf_Table_times (zc (zc (zc (zn) (za 0)) (zi 6)) (zi 2))) (zcallv 0 zf_Table_times (zc (zc (zc (zn) (za 0)) (zi 3)) (zi 4)))) (zk (nI 1)) (zk (nI 0))) := rfl
theorem pkT8 : zpick 0 [(84, zg_Laws_holdsForTwo_g0), (231, zg_Laws_holdsForTwo_g7), (97, zg_Laws_holdsForTwo_g1), (120, zg_Laws_holdsForTwo_g2), (143, zg_Laws_holdsForTwo_g3), (231, zg_Laws_holdsForTwo_g7), (231, zg_Laws_holdsForTwo_g7), (231, zg_Laws_holdsForTwo_g7), (166, zg_Laws_holdsForTwo_g4), (187, zg_Laws_holdsForTwo_g5), (209, zg_Laws_holdsForTwo_g6)] zg_Laws_holdsForTwo_g7 (nI 8) = zretz (zite (zcmp .eq (zcallv 0 zf_Table_under (zc (zc (zc (zn) (za 0)) (zi 2)) (zk (nI 0)))) (zcallv 0 zf_Table_over (zc (zc (zc (zn) (za 0)) (zk (nI 0))) (zi 2)))) (zk (nI 1)) (zk (nI 0))) := rfl
theorem pkT9 : zpick 0 [(84, zg_Laws_holdsForTwo_g0), (231, zg_Laws_holdsForTwo_g7), (97, zg_Laws_holdsForTwo_g1), (120, zg_Laws_holdsForTwo_g2), (143, zg_Laws_holdsForTwo_g3), (231, zg_Laws_holdsForTwo_g7), (231, zg_Laws_holdsForTwo_g7), (231, zg_Laws_holdsForTwo_g7), (166, zg_Laws_holdsForTwo_g4), (187, zg_Laws_holdsForTwo_g5), (209, zg_Laws_holdsForTwo_g6)] zg_Laws_holdsForTwo_g7 (nI 9) = zretz (zite (zcmp .eq (zcallv 0 zf_Table_times (zc (zc (zc (zn) (za 0)) (zcallv 0 zf_Table_under (zc (zc (zc (zn) (za 0)) (zi 2)) (zk (nI 0))))) (zi 5))) (zi 3)) (zk (nI 1)) (zk (nI 0))) := rfl
theorem pkT10 : zpick 0 [(84, zg_Laws_holdsForTwo_g0), (231, zg_Laws_holdsForTwo_g7), (97, zg_Laws_holdsForTwo_g1), (120, zg_Laws_holdsForTwo_g2), (143, zg_Laws_holdsForTwo_g3), (231, zg_Laws_holdsForTwo_g7), (231, zg_Laws_holdsForTwo_g7), (231, zg_Laws_holdsForTwo_g7), (166, zg_Laws_holdsForTwo_g4), (187, zg_Laws_holdsForTwo_g5), (209, zg_Laws_holdsForTwo_g6)] zg_Laws_holdsForTwo_g7 (nI 10) = zretz (zite (zcmp .eq (zcallv 0 zf_Table_times (zc (zc (zc (zn) (za 0)) (zi 6)) (zcallv 0 zf_Table_over (zc (zc (zc (zn) (za 0)) (zk (nI 0))) (zi 2))))) (zi 3)) (zk (nI 1)) (zk (nI 0))) := rfl
theorem pkT11 : zpick 0 [(84, zg_Laws_holdsForTwo_g0), (231, zg_Laws_holdsForTwo_g7), (97, zg_Laws_holdsForTwo_g1), (120, zg_Laws_holdsForTwo_g2), (143, zg_Laws_holdsForTwo_g3), (231, zg_Laws_holdsForTwo_g7), (231, zg_Laws_holdsForTwo_g7), (231, zg_Laws_holdsForTwo_g7), (166, zg_Laws_holdsForTwo_g4), (187, zg_Laws_holdsForTwo_g5), (209, zg_Laws_holdsForTwo_g6)] zg_Laws_holdsForTwo_g7 (nI 11) = zretz (zite (zcz .eq (zi 4)) (zk (nI 1)) (zk (nI 0))) := rfl
theorem pkH1 : zpick 1 [(68, zg_Laws_holdsForThree_g0), (203, zg_Laws_holdsForThree_g4), (203, zg_Laws_holdsForThree_g4), (203, zg_Laws_holdsForThree_g4), (92, zg_Laws_holdsForThree_g1), (130, zg_Laws_holdsForThree_g2), (169, zg_Laws_holdsForThree_g3)] zg_Laws_holdsForThree_g4 (nI 1) = zretz (zite (zcmp .eq (zcallv 0 zf_Table_times (zc (zc (zc (zn) (za 0)) (zi 5)) (zi 4))) (zcallv 0 zf_Table_times (zc (zc (zc (zn) (za 0)) (zi 2)) (zi 7)))) (zk (nI 1)) (zk (nI 0))) := rfl
theorem pkH5 : zpick 1 [(68, zg_Laws_holdsForThree_g0), (203, zg_Laws_holdsForThree_g4), (203, zg_Laws_holdsForThree_g4), (203, zg_Laws_holdsForThree_g4), (92, zg_Laws_holdsForThree_g1), (130, zg_Laws_holdsForThree_g2), (169, zg_Laws_holdsForThree_g3)] zg_Laws_holdsForThree_g4 (nI 5) = zretz (zite (zcmp .eq (zcallv 0 zf_Table_times (zc (zc (zc (zn) (za 0)) (zi 2)) (zcallv 0 zf_Table_times (zc (zc (zc (zn) (za 0)) (zi 3)) (zi 6))))) (zcallv 0 zf_Table_times (zc (zc (zc (zn) (za 0)) (zcallv 0 zf_Table_times (zc (zc (zc (zn) (za 0)) (zi 2)) (zcallv 0 zf_Table_times (zc (zc (zc (zn) (za 0)) (zi 3)) (zi 2)))))) (zi 4)))) (zk (nI 1)) (zk (nI 0))) := rfl
theorem pkH6 : zpick 1 [(68, zg_Laws_holdsForThree_g0), (203, zg_Laws_holdsForThree_g4), (203, zg_Laws_holdsForThree_g4), (203, zg_Laws_holdsForThree_g4), (92, zg_Laws_holdsForThree_g1), (130, zg_Laws_holdsForThree_g2), (169, zg_Laws_holdsForThree_g3)] zg_Laws_holdsForThree_g4 (nI 6) = zretz (zite (zcmp .eq (zcallv 0 zf_Table_times (zc (zc (zc (zn) (za 0)) (zcallv 0 zf_Table_times (zc (zc (zc (zn) (za 0)) (zcallv 0 zf_Table_times (zc (zc (zc (zn) (za 0)) (zi 4)) (zi 2)))) (zi 3)))) (zi 2))) (zcallv 0 zf_Table_times (zc (zc (zc (zn) (za 0)) (zi 4)) (zcallv 0 zf_Table_times (zc (zc (zc (zn) (za 0)) (zi 5)) (zi 2)))))) (zk (nI 1)) (zk (nI 0))) := rfl
theorem pkH7 : zpick 1 [(68, zg_Laws_holdsForThree_g0), (203, zg_Laws_holdsForThree_g4), (203, zg_Laws_holdsForThree_g4), (203, zg_Laws_holdsForThree_g4), (92, zg_Laws_holdsForThree_g1), (130, zg_Laws_holdsForThree_g2), (169, zg_Laws_holdsForThree_g3)] zg_Laws_holdsForThree_g4 (nI 7) = zretz (zite (zcmp .eq (zcallv 0 zf_Table_times (zc (zc (zc (zn) (za 0)) (zcallv 0 zf_Table_times (zc (zc (zc (zn) (za 0)) (zi 5)) (zi 2)))) (zi 4))) (zcallv 0 zf_Table_times (zc (zc (zc (zn) (za 0)) (zi 2)) (zcallv 0 zf_Table_times (zc (zc (zc (zn) (za 0)) (zi 3)) (zi 6)))))) (zk (nI 1)) (zk (nI 0))) := rfl
theorem pkH12 : zpick 1 [(68, zg_Laws_holdsForThree_g0), (203, zg_Laws_holdsForThree_g4), (203, zg_Laws_holdsForThree_g4), (203, zg_Laws_holdsForThree_g4), (92, zg_Laws_holdsForThree_g1), (130, zg_Laws_holdsForThree_g2), (169, zg_Laws_holdsForThree_g3)] zg_Laws_holdsForThree_g4 (nI 12) = zretz (zite (zcmp .eq (zcallv 0 zf_Table_times (zc (zc (zc (zn) (za 0)) (zi 5)) (zi 6))) (zcallv 0 zf_Table_times (zc (zc (zc (zn) (za 0)) (zcallv 0 zf_Table_times (zc (zc (zc (zn) (za 0)) (zi 2)) (zi 2)))) (zi 7)))) (zk (nI 1)) (zk (nI 0))) := rfl
theorem pkM0 : zpick 0 [(92, zg_M_holds_g0), (105, zg_M_holds_g1), (138, zg_M_holds_g2), (163, zg_M_holds_g3), (189, zg_M_holds_g4), (215, zg_M_holds_g5), (260, zg_M_holds_g6), (305, zg_M_holds_g7), (350, zg_M_holds_g8), (373, zg_M_holds_g9), (398, zg_M_holds_g10), (423, zg_M_holds_g11)] zg_M_holds_g12 (nI 0) = zretz (zite (zcmp .eq (zi 6) (zi 7)) (zk (nI 1)) (zk (nI 0))) := rfl
theorem pkM1 : zpick 0 [(92, zg_M_holds_g0), (105, zg_M_holds_g1), (138, zg_M_holds_g2), (163, zg_M_holds_g3), (189, zg_M_holds_g4), (215, zg_M_holds_g5), (260, zg_M_holds_g6), (305, zg_M_holds_g7), (350, zg_M_holds_g8), (373, zg_M_holds_g9), (398, zg_M_holds_g10), (423, zg_M_holds_g11)] zg_M_holds_g12 (nI 1) = zretz (zite (zcmp .eq (zcallv 5 zf_M_cell (zc (zc (zc (zc (zn) (za 0)) (zi 1)) (zi 6)) (zi 5))) (zcallv 5 zf_M_cell (zc (zc (zc (zc (zn) (za 0)) (zi 1)) (zi 3)) (zcallv 5 zf_M_cell (zc (zc (zc (zc (zn) (za 0)) (zi 1)) (zi 4)) (zi 5)))))) (zk (nI 1)) (zk (nI 0))) := rfl
theorem pkM2 : zpick 0 [(92, zg_M_holds_g0), (105, zg_M_holds_g1), (138, zg_M_holds_g2), (163, zg_M_holds_g3), (189, zg_M_holds_g4), (215, zg_M_holds_g5), (260, zg_M_holds_g6), (305, zg_M_holds_g7), (350, zg_M_holds_g8), (373, zg_M_holds_g9), (398, zg_M_holds_g10), (423, zg_M_holds_g11)] zg_M_holds_g12 (nI 2) = zretz (zite (zcmp .eq (zcallv 5 zf_M_cell (zc (zc (zc (zc (zn) (za 0)) (zi 1)) (zi 3)) (zi 7))) (zcallv 5 zf_M_cell (zc (zc (zc (zc (zn) (za 0)) (zi 1)) (zi 6)) (zi 3)))) (zk (nI 1)) (zk (nI 0))) := rfl
theorem pkM3 : zpick 0 [(92, zg_M_holds_g0), (105, zg_M_holds_g1), (138, zg_M_holds_g2), (163, zg_M_holds_g3), (189, zg_M_holds_g4), (215, zg_M_holds_g5), (260, zg_M_holds_g6), (305, zg_M_holds_g7), (350, zg_M_holds_g8), (373, zg_M_holds_g9), (398, zg_M_holds_g10), (423, zg_M_holds_g11)] zg_M_holds_g12 (nI 3) = zretz (zite (zcmp .eq (zcallv 5 zf_M_cell (zc (zc (zc (zc (zn) (za 0)) (zi 1)) (zi 3)) (zi 6))) (zcallv 5 zf_M_cell (zc (zc (zc (zc (zn) (za 0)) (zi 1)) (zi 8)) (zi 4)))) (zk (nI 1)) (zk (nI 0))) := rfl
theorem pkM4 : zpick 0 [(92, zg_M_holds_g0), (105, zg_M_holds_g1), (138, zg_M_holds_g2), (163, zg_M_holds_g3), (189, zg_M_holds_g4), (215, zg_M_holds_g5), (260, zg_M_holds_g6), (305, zg_M_holds_g7), (350, zg_M_holds_g8), (373, zg_M_holds_g9), (398, zg_M_holds_g10), (423, zg_M_holds_g11)] zg_M_holds_g12 (nI 4) = zretz (zite (zcmp .eq (zcallv 5 zf_M_cell (zc (zc (zc (zc (zn) (za 0)) (zi 1)) (zi 7)) (zi 3))) (zcallv 5 zf_M_cell (zc (zc (zc (zc (zn) (za 0)) (zi 1)) (zi 4)) (zi 8)))) (zk (nI 1)) (zk (nI 0))) := rfl
theorem pkM5 : zpick 0 [(92, zg_M_holds_g0), (105, zg_M_holds_g1), (138, zg_M_holds_g2), (163, zg_M_holds_g3), (189, zg_M_holds_g4), (215, zg_M_holds_g5), (260, zg_M_holds_g6), (305, zg_M_holds_g7), (350, zg_M_holds_g8), (373, zg_M_holds_g9), (398, zg_M_holds_g10), (423, zg_M_holds_g11)] zg_M_holds_g12 (nI 5) = zretz (zite (zcmp .eq (zcallv 5 zf_M_cell (zc (zc (zc (zc (zn) (za 0)) (zi 1)) (zi 3)) (zcallv 5 zf_M_cell (zc (zc (zc (zc (zn) (za 0)) (zi 1)) (zi 4)) (zcallv 5 zf_M_cell (zc (zc (zc (zc (zn) (za 0)) (zi 1)) (zi 3)) (zi 5))))))) (zcallv 5 zf_M_cell (zc (zc (zc (zc (zn) (za 0)) (zi 1)) (zcallv 5 zf_M_cell (zc (zc (zc (zc (zn) (za 0)) (zi 1)) (zi 3)) (zi 7)))) (zi 5)))) (zk (nI 1)) (zk (nI 0))) := rfl
theorem pkM6 : zpick 0 [(92, zg_M_holds_g0), (105, zg_M_holds_g1), (138, zg_M_holds_g2), (163, zg_M_holds_g3), (189, zg_M_holds_g4), (215, zg_M_holds_g5), (260, zg_M_holds_g6), (305, zg_M_holds_g7), (350, zg_M_holds_g8), (373, zg_M_holds_g9), (398, zg_M_holds_g10), (423, zg_M_holds_g11)] zg_M_holds_g12 (nI 6) = zretz (zite (zcmp .eq (zcallv 5 zf_M_cell (zc (zc (zc (zc (zn) (za 0)) (zi 1)) (zcallv 5 zf_M_cell (zc (zc (zc (zc (zn) (za 0)) (zi 1)) (zcallv 5 zf_M_cell (zc (zc (zc (zc (zn) (za 0)) (zi 1)) (zi 5)) (zi 3)))) (zi 4)))) (zi 3))) (zcallv 5 zf_M_cell (zc (zc (zc (zc (zn) (za 0)) (zi 1)) (zi 5)) (zcallv 5 zf_M_cell (zc (zc (zc (zc (zn) (za 0)) (zi 1)) (zi 6)) (zi 3)))))) (zk (nI 1)) (zk (nI 0))) := rfl
theorem pkM7 : zpick 0 [(92, zg_M_holds_g0), (105, zg_M_holds_g1), (138, zg_M_holds_g2), (163, zg_M_holds_g3), (189, zg_M_holds_g4), (215, zg_M_holds_g5), (260, zg_M_holds_g6), (305, zg_M_holds_g7), (350, zg_M_holds_g8), (373, zg_M_holds_g9), (398, zg_M_holds_g10), (423, zg_M_holds_g11)] zg_M_holds_g12 (nI 7) = zretz (zite (zcmp .eq (zcallv 5 zf_M_cell (zc (zc (zc (zc (zn) (za 0)) (zi 1)) (zcallv 5 zf_M_cell (zc (zc (zc (zc (zn) (za 0)) (zi 1)) (zi 6)) (zi 3)))) (zi 5))) (zcallv 5 zf_M_cell (zc (zc (zc (zc (zn) (za 0)) (zi 1)) (zi 3)) (zcallv 5 zf_M_cell (zc (zc (zc (zc (zn) (za 0)) (zi 1)) (zi 4)) (zcallv 5 zf_M_cell (zc (zc (zc (zc (zn) (za 0)) (zi 1)) (zi 3)) (zi 5)))))))) (zk (nI 1)) (zk (nI 0))) := rfl
theorem pkM8 : zpick 0 [(92, zg_M_holds_g0), (105, zg_M_holds_g1), (138, zg_M_holds_g2), (163, zg_M_holds_g3), (189, zg_M_holds_g4), (215, zg_M_holds_g5), (260, zg_M_holds_g6), (305, zg_M_holds_g7), (350, zg_M_holds_g8), (373, zg_M_holds_g9), (398, zg_M_holds_g10), (423, zg_M_holds_g11)] zg_M_holds_g12 (nI 8) = zretz (zite (zcmp .eq (zcallv 5 zf_M_behind (zc (zc (zc (zc (zn) (za 0)) (zi 1)) (zi 3)) (zk (nI 0)))) (zcallv 5 zf_M_ahead (zc (zc (zc (zc (zn) (za 0)) (zi 1)) (zk (nI 0))) (zi 3)))) (zk (nI 1)) (zk (nI 0))) := rfl
theorem pkM9 : zpick 0 [(92, zg_M_holds_g0), (105, zg_M_holds_g1), (138, zg_M_holds_g2), (163, zg_M_holds_g3), (189, zg_M_holds_g4), (215, zg_M_holds_g5), (260, zg_M_holds_g6), (305, zg_M_holds_g7), (350, zg_M_holds_g8), (373, zg_M_holds_g9), (398, zg_M_holds_g10), (423, zg_M_holds_g11)] zg_M_holds_g12 (nI 9) = zretz (zite (zcmp .eq (zcallv 5 zf_M_cell (zc (zc (zc (zc (zn) (za 0)) (zi 1)) (zcallv 5 zf_M_behind (zc (zc (zc (zc (zn) (za 0)) (zi 1)) (zi 3)) (zk (nI 0))))) (zi 6))) (zi 4)) (zk (nI 1)) (zk (nI 0))) := rfl
theorem pkM10 : zpick 0 [(92, zg_M_holds_g0), (105, zg_M_holds_g1), (138, zg_M_holds_g2), (163, zg_M_holds_g3), (189, zg_M_holds_g4), (215, zg_M_holds_g5), (260, zg_M_holds_g6), (305, zg_M_holds_g7), (350, zg_M_holds_g8), (373, zg_M_holds_g9), (398, zg_M_holds_g10), (423, zg_M_holds_g11)] zg_M_holds_g12 (nI 10) = zretz (zite (zcmp .eq (zcallv 5 zf_M_cell (zc (zc (zc (zc (zn) (za 0)) (zi 1)) (zi 7)) (zcallv 5 zf_M_ahead (zc (zc (zc (zc (zn) (za 0)) (zi 1)) (zk (nI 0))) (zi 3))))) (zi 4)) (zk (nI 1)) (zk (nI 0))) := rfl
theorem pkM11 : zpick 0 [(92, zg_M_holds_g0), (105, zg_M_holds_g1), (138, zg_M_holds_g2), (163, zg_M_holds_g3), (189, zg_M_holds_g4), (215, zg_M_holds_g5), (260, zg_M_holds_g6), (305, zg_M_holds_g7), (350, zg_M_holds_g8), (373, zg_M_holds_g9), (398, zg_M_holds_g10), (423, zg_M_holds_g11)] zg_M_holds_g12 (nI 11) = zretz (zite (zcz .eq (zi 8)) (zk (nI 1)) (zk (nI 0))) := rfl
theorem pkM12 : zpick 0 [(92, zg_M_holds_g0), (105, zg_M_holds_g1), (138, zg_M_holds_g2), (163, zg_M_holds_g3), (189, zg_M_holds_g4), (215, zg_M_holds_g5), (260, zg_M_holds_g6), (305, zg_M_holds_g7), (350, zg_M_holds_g8), (373, zg_M_holds_g9), (398, zg_M_holds_g10), (423, zg_M_holds_g11)] zg_M_holds_g12 (nI 12) = zretz (zite (zcmp .eq (zcallv 5 zf_M_cell (zc (zc (zc (zc (zn) (za 0)) (zi 1)) (zi 6)) (zcallv 5 zf_M_cell (zc (zc (zc (zc (zn) (za 0)) (zi 1)) (zi 3)) (zi 5))))) (zcallv 5 zf_M_cell (zc (zc (zc (zc (zn) (za 0)) (zi 1)) (zi 8)) (zcallv 5 zf_M_cell (zc (zc (zc (zc (zn) (za 0)) (zi 1)) (zi 4)) (zi 5)))))) (zk (nI 1)) (zk (nI 0))) := rfl
theorem qW_c0 {M : zM} {k n x y z : Nat} {c : tC} (hk : ztb k) (h : kT M k n c) (ho : tO n c) (hf : tF n c) (hx : x < n) (hy : y < n) (hz : z < n) : zf_Laws_holds [.ref k, .int (nI 0), .int (nI x), .int (nI y), .int (nI z)] M = some (some (zb (lwB n c 0 x y z)), M) := by
    have h8 := ho.1.2
    have f0 := hf x y hx hy
    have f1 := hf y x hy hx
    have f2 := hf x x hx hx
    have m0 := qT_mul (M := M) hk h h8 hf hx hy
    have m1 := qT_mul (M := M) hk h h8 hf hy hx
    have m2 := qT_mul (M := M) hk h h8 hf hx hx
    simp (disch := omega) [zf_Laws_holds, zf_Laws_countLetters, zf_Laws_holdsForTwo, zsw, pkC0, pkT0, zmeth, xm_en, zret, zretz, zretv, zseq, zst, zinc, zkl, zskip, zk, zi, za, zbin, zdiv, zrem, zgi, zgr, zld, zldr, zlen, zn, zc, zcall, zcallv, zrcv, zdo, zdov, zpf, zpfc, zas, zasc, zmin, zmax, zcmp, zcz, zand_e, zor_e, zite_e, zbite_e, zif_e, znot_e, z_add, z_sub, z_mul, z_and, z_or, z_xor, z_shl, z_shr, zcpy, -List.getElem?_cons_succ, zg_0, zg_1, zg_2, zg_3, zg_4, zg_5, zg_6, zg_7, zg_8, zg_9, zc_lt, zc_le, zc_gt, zc_ge, zc_eq, zc_ne, zc_lt0, zc_ge0, zc_gt0, zc_eq0, zc_ne0, zb_ne, zb_eq, zb_01, z_00, z_01, z_11, zb_f, zb_T, zb_F, zbm1, zbm2, zbm5, zbm6, zbm3, zbm4, nI_clamp, zmod_n, pk_div, nI_ne0, pk_mul, nI_add, nI_1, ztb_tag hk, m0, m1, m2, lwB]
theorem qW_c1 {M : zM} {k n x y z : Nat} {c : tC} (hk : ztb k) (h : kT M k n c) (ho : tO n c) (hf : tF n c) (hx : x < n) (hy : y < n) (hz : z < n) : zf_Laws_holds [.ref k, .int (nI 1), .int (nI x), .int (nI y), .int (nI z)] M = some (some (zb (lwB n c 1 x y z)), M) := by
    have h8 := ho.1.2
    have f0 := hf x y hx hy
    have f1 := hf x z hx hz
    have f2 := hf y z hy hz
    have f3 := hf (c x y) z f0 hz
    have f4 := hf x (c y z) hx f2
    have m0 := qT_mul (M := M) hk h h8 hf hx hy
    have m1 := qT_mul (M := M) hk h h8 hf hx hz
    have m2 := qT_mul (M := M) hk h h8 hf hy hz
    have m3 := qT_mul (M := M) hk h h8 hf f0 hz
    have m4 := qT_mul (M := M) hk h h8 hf hx f2
    simp (disch := omega) [zf_Laws_holds, zf_Laws_countLetters, zf_Laws_holdsForThree, zsw, pkC1, pkH1, zmeth, xm_en, zret, zretz, zretv, zseq, zst, zinc, zkl, zskip, zk, zi, za, zbin, zdiv, zrem, zgi, zgr, zld, zldr, zlen, zn, zc, zcall, zcallv, zrcv, zdo, zdov, zpf, zpfc, zas, zasc, zmin, zmax, zcmp, zcz, zand_e, zor_e, zite_e, zbite_e, zif_e, znot_e, z_add, z_sub, z_mul, z_and, z_or, z_xor, z_shl, z_shr, zcpy, -List.getElem?_cons_succ, zg_0, zg_1, zg_2, zg_3, zg_4, zg_5, zg_6, zg_7, zg_8, zg_9, zc_lt, zc_le, zc_gt, zc_ge, zc_eq, zc_ne, zc_lt0, zc_ge0, zc_gt0, zc_eq0, zc_ne0, zb_ne, zb_eq, zb_01, z_00, z_01, z_11, zb_f, zb_T, zb_F, zbm1, zbm2, zbm5, zbm6, zbm3, zbm4, nI_clamp, zmod_n, pk_div, nI_ne0, pk_mul, nI_add, nI_1, ztb_tag hk, m0, m1, m2, m3, m4, lwB]
theorem qW_c2 {M : zM} {k n x y z : Nat} {c : tC} (hk : ztb k) (h : kT M k n c) (ho : tO n c) (hf : tF n c) (hx : x < n) (hy : y < n) (hz : z < n) : zf_Laws_holds [.ref k, .int (nI 2), .int (nI x), .int (nI y), .int (nI z)] M = some (some (zb (lwB n c 2 x y z)), M) := by
    have h8 := ho.1.2
    have f0 := hf x y hx hy
    have f1 := hf y x hy hx
    have f2 := hf x x hx hx
    have f3 := hf x (c y x) hx f1
    have f4 := hf (c x y) x f0 hx
    have m0 := qT_mul (M := M) hk h h8 hf hx hy
    have m1 := qT_mul (M := M) hk h h8 hf hy hx
    have m2 := qT_mul (M := M) hk h h8 hf hx hx
    have m3 := qT_mul (M := M) hk h h8 hf hx f1
    have m4 := qT_mul (M := M) hk h h8 hf f0 hx
    simp (disch := omega) [zf_Laws_holds, zf_Laws_countLetters, zf_Laws_holdsForTwo, zsw, pkC2, pkT2, zmeth, xm_en, zret, zretz, zretv, zseq, zst, zinc, zkl, zskip, zk, zi, za, zbin, zdiv, zrem, zgi, zgr, zld, zldr, zlen, zn, zc, zcall, zcallv, zrcv, zdo, zdov, zpf, zpfc, zas, zasc, zmin, zmax, zcmp, zcz, zand_e, zor_e, zite_e, zbite_e, zif_e, znot_e, z_add, z_sub, z_mul, z_and, z_or, z_xor, z_shl, z_shr, zcpy, -List.getElem?_cons_succ, zg_0, zg_1, zg_2, zg_3, zg_4, zg_5, zg_6, zg_7, zg_8, zg_9, zc_lt, zc_le, zc_gt, zc_ge, zc_eq, zc_ne, zc_lt0, zc_ge0, zc_gt0, zc_eq0, zc_ne0, zb_ne, zb_eq, zb_01, z_00, z_01, z_11, zb_f, zb_T, zb_F, zbm1, zbm2, zbm5, zbm6, zbm3, zbm4, nI_clamp, zmod_n, pk_div, nI_ne0, pk_mul, nI_add, nI_1, ztb_tag hk, m0, m1, m2, m3, m4, lwB]
theorem qW_c3 {M : zM} {k n x y z : Nat} {c : tC} (hk : ztb k) (h : kT M k n c) (ho : tO n c) (hf : tF n c) (hx : x < n) (hy : y < n) (hz : z < n) : zf_Laws_holds [.ref k, .int (nI 3), .int (nI x), .int (nI y), .int (nI z)] M = some (some (zb (lwB n c 3 x y z)), M) := by
    have h8 := ho.1.2
    have f0 := hf x y hx hy
    have f1 := hf y x hy hx
    have f2 := hf x x hx hx
    have f3 := hf x (c x y) hx f0
    have f4 := hf (c x x) y f2 hy
    have m0 := qT_mul (M := M) hk h h8 hf hx hy
    have m1 := qT_mul (M := M) hk h h8 hf hy hx
    have m2 := qT_mul (M := M) hk h h8 hf hx hx
    have m3 := qT_mul (M := M) hk h h8 hf hx f0
    have m4 := qT_mul (M := M) hk h h8 hf f2 hy
    simp (disch := omega) [zf_Laws_holds, zf_Laws_countLetters, zf_Laws_holdsForTwo, zsw, pkC3, pkT3, zmeth, xm_en, zret, zretz, zretv, zseq, zst, zinc, zkl, zskip, zk, zi, za, zbin, zdiv, zrem, zgi, zgr, zld, zldr, zlen, zn, zc, zcall, zcallv, zrcv, zdo, zdov, zpf, zpfc, zas, zasc, zmin, zmax, zcmp, zcz, zand_e, zor_e, zite_e, zbite_e, zif_e, znot_e, z_add, z_sub, z_mul, z_and, z_or, z_xor, z_shl, z_shr, zcpy, -List.getElem?_cons_succ, zg_0, zg_1, zg_2, zg_3, zg_4, zg_5, zg_6, zg_7, zg_8, zg_9, zc_lt, zc_le, zc_gt, zc_ge, zc_eq, zc_ne, zc_lt0, zc_ge0, zc_gt0, zc_eq0, zc_ne0, zb_ne, zb_eq, zb_01, z_00, z_01, z_11, zb_f, zb_T, zb_F, zbm1, zbm2, zbm5, zbm6, zbm3, zbm4, nI_clamp, zmod_n, pk_div, nI_ne0, pk_mul, nI_add, nI_1, ztb_tag hk, m0, m1, m2, m3, m4, lwB]
theorem qW_c4 {M : zM} {k n x y z : Nat} {c : tC} (hk : ztb k) (h : kT M k n c) (ho : tO n c) (hf : tF n c) (hx : x < n) (hy : y < n) (hz : z < n) : zf_Laws_holds [.ref k, .int (nI 4), .int (nI x), .int (nI y), .int (nI z)] M = some (some (zb (lwB n c 4 x y z)), M) := by
    have h8 := ho.1.2
    have f0 := hf x y hx hy
    have f1 := hf y x hy hx
    have f2 := hf x x hx hx
    have f3 := hf (c y x) x f1 hx
    have f4 := hf y (c x x) hy f2
    have m0 := qT_mul (M := M) hk h h8 hf hx hy
    have m1 := qT_mul (M := M) hk h h8 hf hy hx
    have m2 := qT_mul (M := M) hk h h8 hf hx hx
    have m3 := qT_mul (M := M) hk h h8 hf f1 hx
    have m4 := qT_mul (M := M) hk h h8 hf hy f2
    simp (disch := omega) [zf_Laws_holds, zf_Laws_countLetters, zf_Laws_holdsForTwo, zsw, pkC4, pkT4, zmeth, xm_en, zret, zretz, zretv, zseq, zst, zinc, zkl, zskip, zk, zi, za, zbin, zdiv, zrem, zgi, zgr, zld, zldr, zlen, zn, zc, zcall, zcallv, zrcv, zdo, zdov, zpf, zpfc, zas, zasc, zmin, zmax, zcmp, zcz, zand_e, zor_e, zite_e, zbite_e, zif_e, znot_e, z_add, z_sub, z_mul, z_and, z_or, z_xor, z_shl, z_shr, zcpy, -List.getElem?_cons_succ, zg_0, zg_1, zg_2, zg_3, zg_4, zg_5, zg_6, zg_7, zg_8, zg_9, zc_lt, zc_le, zc_gt, zc_ge, zc_eq, zc_ne, zc_lt0, zc_ge0, zc_gt0, zc_eq0, zc_ne0, zb_ne, zb_eq, zb_01, z_00, z_01, z_11, zb_f, zb_T, zb_F, zbm1, zbm2, zbm5, zbm6, zbm3, zbm4, nI_clamp, zmod_n, pk_div, nI_ne0, pk_mul, nI_add, nI_1, ztb_tag hk, m0, m1, m2, m3, m4, lwB]
theorem qW_c5 {M : zM} {k n x y z : Nat} {c : tC} (hk : ztb k) (h : kT M k n c) (ho : tO n c) (hf : tF n c) (hx : x < n) (hy : y < n) (hz : z < n) : zf_Laws_holds [.ref k, .int (nI 5), .int (nI x), .int (nI y), .int (nI z)] M = some (some (zb (lwB n c 5 x y z)), M) := by
    have h8 := ho.1.2
    have f0 := hf x y hx hy
    have f1 := hf x z hx hz
    have f2 := hf y z hy hz
    have f3 := hf y (c x z) hy f1
    have f4 := hf x (c y (c x z)) hx f3
    have f5 := hf y x hy hx
    have f6 := hf x (c y x) hx f5
    have f7 := hf (c x (c y x)) z f6 hz
    have m0 := qT_mul (M := M) hk h h8 hf hx hy
    have m1 := qT_mul (M := M) hk h h8 hf hx hz
    have m2 := qT_mul (M := M) hk h h8 hf hy hz
    have m3 := qT_mul (M := M) hk h h8 hf hy f1
    have m4 := qT_mul (M := M) hk h h8 hf hx f3
    have m5 := qT_mul (M := M) hk h h8 hf hy hx
    have m6 := qT_mul (M := M) hk h h8 hf hx f5
    have m7 := qT_mul (M := M) hk h h8 hf f6 hz
    simp (disch := omega) [zf_Laws_holds, zf_Laws_countLetters, zf_Laws_holdsForThree, zsw, pkC5, pkH5, zmeth, xm_en, zret, zretz, zretv, zseq, zst, zinc, zkl, zskip, zk, zi, za, zbin, zdiv, zrem, zgi, zgr, zld, zldr, zlen, zn, zc, zcall, zcallv, zrcv, zdo, zdov, zpf, zpfc, zas, zasc, zmin, zmax, zcmp, zcz, zand_e, zor_e, zite_e, zbite_e, zif_e, znot_e, z_add, z_sub, z_mul, z_and, z_or, z_xor, z_shl, z_shr, zcpy, -List.getElem?_cons_succ, zg_0, zg_1, zg_2, zg_3, zg_4, zg_5, zg_6, zg_7, zg_8, zg_9, zc_lt, zc_le, zc_gt, zc_ge, zc_eq, zc_ne, zc_lt0, zc_ge0, zc_gt0, zc_eq0, zc_ne0, zb_ne, zb_eq, zb_01, z_00, z_01, z_11, zb_f, zb_T, zb_F, zbm1, zbm2, zbm5, zbm6, zbm3, zbm4, nI_clamp, zmod_n, pk_div, nI_ne0, pk_mul, nI_add, nI_1, ztb_tag hk, m0, m1, m2, m3, m4, m5, m6, m7, lwB]
theorem qW_c6 {M : zM} {k n x y z : Nat} {c : tC} (hk : ztb k) (h : kT M k n c) (ho : tO n c) (hf : tF n c) (hx : x < n) (hy : y < n) (hz : z < n) : zf_Laws_holds [.ref k, .int (nI 6), .int (nI x), .int (nI y), .int (nI z)] M = some (some (zb (lwB n c 6 x y z)), M) := by
    have h8 := ho.1.2
    have f0 := hf x y hx hy
    have f1 := hf x z hx hz
    have f2 := hf y z hy hz
    have f3 := hf z x hz hx
    have f4 := hf (c z x) y f3 hy
    have f5 := hf (c (c z x) y) x f4 hx
    have f6 := hf (c x y) x f0 hx
    have f7 := hf z (c (c x y) x) hz f6
    have m0 := qT_mul (M := M) hk h h8 hf hx hy
    have m1 := qT_mul (M := M) hk h h8 hf hx hz
    have m2 := qT_mul (M := M) hk h h8 hf hy hz
    have m3 := qT_mul (M := M) hk h h8 hf hz hx
    have m4 := qT_mul (M := M) hk h h8 hf f3 hy
    have m5 := qT_mul (M := M) hk h h8 hf f4 hx
    have m6 := qT_mul (M := M) hk h h8 hf f0 hx
    have m7 := qT_mul (M := M) hk h h8 hf hz f6
    simp (disch := omega) [zf_Laws_holds, zf_Laws_countLetters, zf_Laws_holdsForThree, zsw, pkC6, pkH6, zmeth, xm_en, zret, zretz, zretv, zseq, zst, zinc, zkl, zskip, zk, zi, za, zbin, zdiv, zrem, zgi, zgr, zld, zldr, zlen, zn, zc, zcall, zcallv, zrcv, zdo, zdov, zpf, zpfc, zas, zasc, zmin, zmax, zcmp, zcz, zand_e, zor_e, zite_e, zbite_e, zif_e, znot_e, z_add, z_sub, z_mul, z_and, z_or, z_xor, z_shl, z_shr, zcpy, -List.getElem?_cons_succ, zg_0, zg_1, zg_2, zg_3, zg_4, zg_5, zg_6, zg_7, zg_8, zg_9, zc_lt, zc_le, zc_gt, zc_ge, zc_eq, zc_ne, zc_lt0, zc_ge0, zc_gt0, zc_eq0, zc_ne0, zb_ne, zb_eq, zb_01, z_00, z_01, z_11, zb_f, zb_T, zb_F, zbm1, zbm2, zbm5, zbm6, zbm3, zbm4, nI_clamp, zmod_n, pk_div, nI_ne0, pk_mul, nI_add, nI_1, ztb_tag hk, m0, m1, m2, m3, m4, m5, m6, m7, lwB]
theorem qW_c7 {M : zM} {k n x y z : Nat} {c : tC} (hk : ztb k) (h : kT M k n c) (ho : tO n c) (hf : tF n c) (hx : x < n) (hy : y < n) (hz : z < n) : zf_Laws_holds [.ref k, .int (nI 7), .int (nI x), .int (nI y), .int (nI z)] M = some (some (zb (lwB n c 7 x y z)), M) := by
    have h8 := ho.1.2
    have f0 := hf x y hx hy
    have f1 := hf x z hx hz
    have f2 := hf y z hy hz
    have f3 := hf (c x y) x f0 hx
    have f4 := hf (c (c x y) x) z f3 hz
    have f5 := hf y (c x z) hy f1
    have f6 := hf x (c y (c x z)) hx f5
    have m0 := qT_mul (M := M) hk h h8 hf hx hy
    have m1 := qT_mul (M := M) hk h h8 hf hx hz
    have m2 := qT_mul (M := M) hk h h8 hf hy hz
    have m3 := qT_mul (M := M) hk h h8 hf f0 hx
    have m4 := qT_mul (M := M) hk h h8 hf f3 hz
    have m5 := qT_mul (M := M) hk h h8 hf hy f1
    have m6 := qT_mul (M := M) hk h h8 hf hx f5
    simp (disch := omega) [zf_Laws_holds, zf_Laws_countLetters, zf_Laws_holdsForThree, zsw, pkC7, pkH7, zmeth, xm_en, zret, zretz, zretv, zseq, zst, zinc, zkl, zskip, zk, zi, za, zbin, zdiv, zrem, zgi, zgr, zld, zldr, zlen, zn, zc, zcall, zcallv, zrcv, zdo, zdov, zpf, zpfc, zas, zasc, zmin, zmax, zcmp, zcz, zand_e, zor_e, zite_e, zbite_e, zif_e, znot_e, z_add, z_sub, z_mul, z_and, z_or, z_xor, z_shl, z_shr, zcpy, -List.getElem?_cons_succ, zg_0, zg_1, zg_2, zg_3, zg_4, zg_5, zg_6, zg_7, zg_8, zg_9, zc_lt, zc_le, zc_gt, zc_ge, zc_eq, zc_ne, zc_lt0, zc_ge0, zc_gt0, zc_eq0, zc_ne0, zb_ne, zb_eq, zb_01, z_00, z_01, z_11, zb_f, zb_T, zb_F, zbm1, zbm2, zbm5, zbm6, zbm3, zbm4, nI_clamp, zmod_n, pk_div, nI_ne0, pk_mul, nI_add, nI_1, ztb_tag hk, m0, m1, m2, m3, m4, m5, m6, lwB]
theorem qW_c8 {M : zM} {k n x y z : Nat} {c : tC} (hk : ztb k) (h : kT M k n c) (ho : tO n c) (hf : tF n c) (hx : x < n) (hy : y < n) (hz : z < n) : zf_Laws_holds [.ref k, .int (nI 8), .int (nI x), .int (nI y), .int (nI z)] M = some (some (zb (lwB n c 8 x y z)), M) := by
    have h8 := ho.1.2
    have f0 := hf x y hx hy
    have f1 := hf y x hy hx
    have f2 := hf x x hx hx
    have m0 := qT_mul (M := M) hk h h8 hf hx hy
    have m1 := qT_mul (M := M) hk h h8 hf hy hx
    have m2 := qT_mul (M := M) hk h h8 hf hx hx
    have u := tun_ok ho hf hx (show 0 < n from ho.1.1)
    have v := tov_ok ho hf hx (show 0 < n from ho.1.1)
    have mu := qT_under (M := M) (w := 0) hk h h8 hx (by decide) u.1
    have mv := qT_over (M := M) (w := 0) hk h h8 hx (by decide) v.1
    have eu : zidx (fun b => decide (c x b = 0)) 0 n = tun n c x 0 := rfl
    have ev : zidx (fun a => decide (c a x = 0)) 0 n = tov n c 0 x := rfl
    rw [eu] at mu
    rw [ev] at mv
    have u1 := u.1
    have v1 := v.1
    simp (disch := omega) [zf_Laws_holds, zf_Laws_countLetters, zf_Laws_holdsForTwo, zsw, pkC8, pkT8, zmeth, xm_en, zret, zretz, zretv, zseq, zst, zinc, zkl, zskip, zk, zi, za, zbin, zdiv, zrem, zgi, zgr, zld, zldr, zlen, zn, zc, zcall, zcallv, zrcv, zdo, zdov, zpf, zpfc, zas, zasc, zmin, zmax, zcmp, zcz, zand_e, zor_e, zite_e, zbite_e, zif_e, znot_e, z_add, z_sub, z_mul, z_and, z_or, z_xor, z_shl, z_shr, zcpy, -List.getElem?_cons_succ, zg_0, zg_1, zg_2, zg_3, zg_4, zg_5, zg_6, zg_7, zg_8, zg_9, zc_lt, zc_le, zc_gt, zc_ge, zc_eq, zc_ne, zc_lt0, zc_ge0, zc_gt0, zc_eq0, zc_ne0, zb_ne, zb_eq, zb_01, z_00, z_01, z_11, zb_f, zb_T, zb_F, zbm1, zbm2, zbm5, zbm6, zbm3, zbm4, nI_clamp, zmod_n, pk_div, nI_ne0, pk_mul, nI_add, nI_1, ztb_tag hk, m0, m1, m2, mu, mv, lwB]
theorem qW_c9 {M : zM} {k n x y z : Nat} {c : tC} (hk : ztb k) (h : kT M k n c) (ho : tO n c) (hf : tF n c) (hx : x < n) (hy : y < n) (hz : z < n) : zf_Laws_holds [.ref k, .int (nI 9), .int (nI x), .int (nI y), .int (nI z)] M = some (some (zb (lwB n c 9 x y z)), M) := by
    have h8 := ho.1.2
    have f0 := hf x y hx hy
    have f1 := hf y x hy hx
    have f2 := hf x x hx hx
    have m0 := qT_mul (M := M) hk h h8 hf hx hy
    have m1 := qT_mul (M := M) hk h h8 hf hy hx
    have m2 := qT_mul (M := M) hk h h8 hf hx hx
    have u := tun_ok ho hf hx (show 0 < n from ho.1.1)
    have v := tov_ok ho hf hx (show 0 < n from ho.1.1)
    have mu := qT_under (M := M) (w := 0) hk h h8 hx (by decide) u.1
    have mv := qT_over (M := M) (w := 0) hk h h8 hx (by decide) v.1
    have eu : zidx (fun b => decide (c x b = 0)) 0 n = tun n c x 0 := rfl
    have ev : zidx (fun a => decide (c a x = 0)) 0 n = tov n c 0 x := rfl
    rw [eu] at mu
    rw [ev] at mv
    have g1 := hf (tun n c x 0) (c x y) u.1 f0
    have k1 := qT_mul (M := M) hk h h8 hf u.1 f0
    have u1 := u.1
    have v1 := v.1
    simp (disch := omega) [zf_Laws_holds, zf_Laws_countLetters, zf_Laws_holdsForTwo, zsw, pkC9, pkT9, zmeth, xm_en, zret, zretz, zretv, zseq, zst, zinc, zkl, zskip, zk, zi, za, zbin, zdiv, zrem, zgi, zgr, zld, zldr, zlen, zn, zc, zcall, zcallv, zrcv, zdo, zdov, zpf, zpfc, zas, zasc, zmin, zmax, zcmp, zcz, zand_e, zor_e, zite_e, zbite_e, zif_e, znot_e, z_add, z_sub, z_mul, z_and, z_or, z_xor, z_shl, z_shr, zcpy, -List.getElem?_cons_succ, zg_0, zg_1, zg_2, zg_3, zg_4, zg_5, zg_6, zg_7, zg_8, zg_9, zc_lt, zc_le, zc_gt, zc_ge, zc_eq, zc_ne, zc_lt0, zc_ge0, zc_gt0, zc_eq0, zc_ne0, zb_ne, zb_eq, zb_01, z_00, z_01, z_11, zb_f, zb_T, zb_F, zbm1, zbm2, zbm5, zbm6, zbm3, zbm4, nI_clamp, zmod_n, pk_div, nI_ne0, pk_mul, nI_add, nI_1, ztb_tag hk, m0, m1, m2, mu, mv, k1, lwB]
theorem qW_c10 {M : zM} {k n x y z : Nat} {c : tC} (hk : ztb k) (h : kT M k n c) (ho : tO n c) (hf : tF n c) (hx : x < n) (hy : y < n) (hz : z < n) : zf_Laws_holds [.ref k, .int (nI 10), .int (nI x), .int (nI y), .int (nI z)] M = some (some (zb (lwB n c 10 x y z)), M) := by
    have h8 := ho.1.2
    have f0 := hf x y hx hy
    have f1 := hf y x hy hx
    have f2 := hf x x hx hx
    have m0 := qT_mul (M := M) hk h h8 hf hx hy
    have m1 := qT_mul (M := M) hk h h8 hf hy hx
    have m2 := qT_mul (M := M) hk h h8 hf hx hx
    have u := tun_ok ho hf hx (show 0 < n from ho.1.1)
    have v := tov_ok ho hf hx (show 0 < n from ho.1.1)
    have mu := qT_under (M := M) (w := 0) hk h h8 hx (by decide) u.1
    have mv := qT_over (M := M) (w := 0) hk h h8 hx (by decide) v.1
    have eu : zidx (fun b => decide (c x b = 0)) 0 n = tun n c x 0 := rfl
    have ev : zidx (fun a => decide (c a x = 0)) 0 n = tov n c 0 x := rfl
    rw [eu] at mu
    rw [ev] at mv
    have g1 := hf (c y x) (tov n c 0 x) f1 v.1
    have k1 := qT_mul (M := M) hk h h8 hf f1 v.1
    have u1 := u.1
    have v1 := v.1
    simp (disch := omega) [zf_Laws_holds, zf_Laws_countLetters, zf_Laws_holdsForTwo, zsw, pkC10, pkT10, zmeth, xm_en, zret, zretz, zretv, zseq, zst, zinc, zkl, zskip, zk, zi, za, zbin, zdiv, zrem, zgi, zgr, zld, zldr, zlen, zn, zc, zcall, zcallv, zrcv, zdo, zdov, zpf, zpfc, zas, zasc, zmin, zmax, zcmp, zcz, zand_e, zor_e, zite_e, zbite_e, zif_e, znot_e, z_add, z_sub, z_mul, z_and, z_or, z_xor, z_shl, z_shr, zcpy, -List.getElem?_cons_succ, zg_0, zg_1, zg_2, zg_3, zg_4, zg_5, zg_6, zg_7, zg_8, zg_9, zc_lt, zc_le, zc_gt, zc_ge, zc_eq, zc_ne, zc_lt0, zc_ge0, zc_gt0, zc_eq0, zc_ne0, zb_ne, zb_eq, zb_01, z_00, z_01, z_11, zb_f, zb_T, zb_F, zbm1, zbm2, zbm5, zbm6, zbm3, zbm4, nI_clamp, zmod_n, pk_div, nI_ne0, pk_mul, nI_add, nI_1, ztb_tag hk, m0, m1, m2, mu, mv, k1, lwB]
theorem qW_c11 {M : zM} {k n x y z : Nat} {c : tC} (hk : ztb k) (h : kT M k n c) (ho : tO n c) (hf : tF n c) (hx : x < n) (hy : y < n) (hz : z < n) : zf_Laws_holds [.ref k, .int (nI 11), .int (nI x), .int (nI y), .int (nI z)] M = some (some (zb (lwB n c 11 x y z)), M) := by
    have h8 := ho.1.2
    have f0 := hf x y hx hy
    have f1 := hf y x hy hx
    have f2 := hf x x hx hx
    have m0 := qT_mul (M := M) hk h h8 hf hx hy
    have m1 := qT_mul (M := M) hk h h8 hf hy hx
    have m2 := qT_mul (M := M) hk h h8 hf hx hx
    simp (disch := omega) [zf_Laws_holds, zf_Laws_countLetters, zf_Laws_holdsForTwo, zsw, pkC11, pkT11, zmeth, xm_en, zret, zretz, zretv, zseq, zst, zinc, zkl, zskip, zk, zi, za, zbin, zdiv, zrem, zgi, zgr, zld, zldr, zlen, zn, zc, zcall, zcallv, zrcv, zdo, zdov, zpf, zpfc, zas, zasc, zmin, zmax, zcmp, zcz, zand_e, zor_e, zite_e, zbite_e, zif_e, znot_e, z_add, z_sub, z_mul, z_and, z_or, z_xor, z_shl, z_shr, zcpy, -List.getElem?_cons_succ, zg_0, zg_1, zg_2, zg_3, zg_4, zg_5, zg_6, zg_7, zg_8, zg_9, zc_lt, zc_le, zc_gt, zc_ge, zc_eq, zc_ne, zc_lt0, zc_ge0, zc_gt0, zc_eq0, zc_ne0, zb_ne, zb_eq, zb_01, z_00, z_01, z_11, zb_f, zb_T, zb_F, zbm1, zbm2, zbm5, zbm6, zbm3, zbm4, nI_clamp, zmod_n, pk_div, nI_ne0, pk_mul, nI_add, nI_1, ztb_tag hk, m0, m1, m2, lwB]
theorem qW_c12 {M : zM} {k n x y z : Nat} {c : tC} (hk : ztb k) (h : kT M k n c) (ho : tO n c) (hf : tF n c) (hx : x < n) (hy : y < n) (hz : z < n) : zf_Laws_holds [.ref k, .int (nI 12), .int (nI x), .int (nI y), .int (nI z)] M = some (some (zb (lwB n c 12 x y z)), M) := by
    have h8 := ho.1.2
    have f0 := hf x y hx hy
    have f1 := hf x z hx hz
    have f2 := hf y z hy hz
    have f3 := hf (c x y) (c x z) f0 f1
    have f4 := hf x x hx hx
    have f5 := hf (c x x) (c y z) f4 f2
    have m0 := qT_mul (M := M) hk h h8 hf hx hy
    have m1 := qT_mul (M := M) hk h h8 hf hx hz
    have m2 := qT_mul (M := M) hk h h8 hf hy hz
    have m3 := qT_mul (M := M) hk h h8 hf f0 f1
    have m4 := qT_mul (M := M) hk h h8 hf hx hx
    have m5 := qT_mul (M := M) hk h h8 hf f4 f2
    simp (disch := omega) [zf_Laws_holds, zf_Laws_countLetters, zf_Laws_holdsForThree, zsw, pkC12, pkH12, zmeth, xm_en, zret, zretz, zretv, zseq, zst, zinc, zkl, zskip, zk, zi, za, zbin, zdiv, zrem, zgi, zgr, zld, zldr, zlen, zn, zc, zcall, zcallv, zrcv, zdo, zdov, zpf, zpfc, zas, zasc, zmin, zmax, zcmp, zcz, zand_e, zor_e, zite_e, zbite_e, zif_e, znot_e, z_add, z_sub, z_mul, z_and, z_or, z_xor, z_shl, z_shr, zcpy, -List.getElem?_cons_succ, zg_0, zg_1, zg_2, zg_3, zg_4, zg_5, zg_6, zg_7, zg_8, zg_9, zc_lt, zc_le, zc_gt, zc_ge, zc_eq, zc_ne, zc_lt0, zc_ge0, zc_gt0, zc_eq0, zc_ne0, zb_ne, zb_eq, zb_01, z_00, z_01, z_11, zb_f, zb_T, zb_F, zbm1, zbm2, zbm5, zbm6, zbm3, zbm4, nI_clamp, zmod_n, pk_div, nI_ne0, pk_mul, nI_add, nI_1, ztb_tag hk, m0, m1, m2, m3, m4, m5, lwB]
theorem qW_m0 {M : zM} {t n x y z : Nat} {c : tC} (ht : t < 6) (h : rT M t n c) (ho : tO n c) (hf : tF n c) (hx : x < n) (hy : y < n) (hz : z < n) : zf_M_holds [.ref 32, .int (nI t), .int (nI 0), .int (nI x), .int (nI y), .int (nI z)] M = some (some (zb (lwB n c 0 x y z)), M) := by
    have h8 := ho.1.2
    have f0 := hf x y hx hy
    have f1 := hf y x hy hx
    have f2 := hf x x hx hx
    have m0 := qM_mul (M := M) ht h h8 hf hx hy
    have m1 := qM_mul (M := M) ht h h8 hf hy hx
    have m2 := qM_mul (M := M) ht h h8 hf hx hx
    simp (disch := omega) [zf_M_holds, zsw, pkM0, zmeth, xm_en, zret, zretz, zretv, zseq, zst, zinc, zkl, zskip, zk, zi, za, zbin, zdiv, zrem, zgi, zgr, zld, zldr, zlen, zn, zc, zcall, zcallv, zrcv, zdo, zdov, zpf, zpfc, zas, zasc, zmin, zmax, zcmp, zcz, zand_e, zor_e, zite_e, zbite_e, zif_e, znot_e, z_add, z_sub, z_mul, z_and, z_or, z_xor, z_shl, z_shr, zcpy, -List.getElem?_cons_succ, zg_0, zg_1, zg_2, zg_3, zg_4, zg_5, zg_6, zg_7, zg_8, zg_9, zc_lt, zc_le, zc_gt, zc_ge, zc_eq, zc_ne, zc_lt0, zc_ge0, zc_gt0, zc_eq0, zc_ne0, zb_ne, zb_eq, zb_01, z_00, z_01, z_11, zb_f, zb_T, zb_F, zbm1, zbm2, zbm5, zbm6, zbm3, zbm4, nI_clamp, zmod_n, pk_div, nI_ne0, pk_mul, nI_add, nI_1, zt_0, zt_12, zt_20, zt_26, zt_32, zf_0_0, zf_0_1, zf_0_2, zf_0_3, zf_0_4, zf_12_0, zf_12_1, zf_12_2, zf_12_4, zf_12_5, zf_20_1, zf_20_2, zf_20_3, zf_20_4, zf_20_6, zf_26_0, zf_26_1, zf_26_2, zf_26_3, zf_32_0, zf_32_1, zf_32_3, zf_32_4, zf_32_5, zf_32_6, m0, m1, m2, lwB]
theorem qW_m1 {M : zM} {t n x y z : Nat} {c : tC} (ht : t < 6) (h : rT M t n c) (ho : tO n c) (hf : tF n c) (hx : x < n) (hy : y < n) (hz : z < n) : zf_M_holds [.ref 32, .int (nI t), .int (nI 1), .int (nI x), .int (nI y), .int (nI z)] M = some (some (zb (lwB n c 1 x y z)), M) := by
    have h8 := ho.1.2
    have f0 := hf x y hx hy
    have f1 := hf y x hy hx
    have f2 := hf x x hx hx
    have f3 := hf (c x y) z f0 hz
    have f4 := hf y z hy hz
    have f5 := hf x (c y z) hx f4
    have m0 := qM_mul (M := M) ht h h8 hf hx hy
    have m1 := qM_mul (M := M) ht h h8 hf hy hx
    have m2 := qM_mul (M := M) ht h h8 hf hx hx
    have m3 := qM_mul (M := M) ht h h8 hf f0 hz
    have m4 := qM_mul (M := M) ht h h8 hf hy hz
    have m5 := qM_mul (M := M) ht h h8 hf hx f4
    simp (disch := omega) [zf_M_holds, zsw, pkM1, zmeth, xm_en, zret, zretz, zretv, zseq, zst, zinc, zkl, zskip, zk, zi, za, zbin, zdiv, zrem, zgi, zgr, zld, zldr, zlen, zn, zc, zcall, zcallv, zrcv, zdo, zdov, zpf, zpfc, zas, zasc, zmin, zmax, zcmp, zcz, zand_e, zor_e, zite_e, zbite_e, zif_e, znot_e, z_add, z_sub, z_mul, z_and, z_or, z_xor, z_shl, z_shr, zcpy, -List.getElem?_cons_succ, zg_0, zg_1, zg_2, zg_3, zg_4, zg_5, zg_6, zg_7, zg_8, zg_9, zc_lt, zc_le, zc_gt, zc_ge, zc_eq, zc_ne, zc_lt0, zc_ge0, zc_gt0, zc_eq0, zc_ne0, zb_ne, zb_eq, zb_01, z_00, z_01, z_11, zb_f, zb_T, zb_F, zbm1, zbm2, zbm5, zbm6, zbm3, zbm4, nI_clamp, zmod_n, pk_div, nI_ne0, pk_mul, nI_add, nI_1, zt_0, zt_12, zt_20, zt_26, zt_32, zf_0_0, zf_0_1, zf_0_2, zf_0_3, zf_0_4, zf_12_0, zf_12_1, zf_12_2, zf_12_4, zf_12_5, zf_20_1, zf_20_2, zf_20_3, zf_20_4, zf_20_6, zf_26_0, zf_26_1, zf_26_2, zf_26_3, zf_32_0, zf_32_1, zf_32_3, zf_32_4, zf_32_5, zf_32_6, m0, m1, m2, m3, m4, m5, lwB]
theorem qW_m2 {M : zM} {t n x y z : Nat} {c : tC} (ht : t < 6) (h : rT M t n c) (ho : tO n c) (hf : tF n c) (hx : x < n) (hy : y < n) (hz : z < n) : zf_M_holds [.ref 32, .int (nI t), .int (nI 2), .int (nI x), .int (nI y), .int (nI z)] M = some (some (zb (lwB n c 2 x y z)), M) := by
    have h8 := ho.1.2
    have f0 := hf x y hx hy
    have f1 := hf y x hy hx
    have f2 := hf x x hx hx
    have f3 := hf x (c y x) hx f1
    have f4 := hf (c x y) x f0 hx
    have m0 := qM_mul (M := M) ht h h8 hf hx hy
    have m1 := qM_mul (M := M) ht h h8 hf hy hx
    have m2 := qM_mul (M := M) ht h h8 hf hx hx
    have m3 := qM_mul (M := M) ht h h8 hf hx f1
    have m4 := qM_mul (M := M) ht h h8 hf f0 hx
    simp (disch := omega) [zf_M_holds, zsw, pkM2, zmeth, xm_en, zret, zretz, zretv, zseq, zst, zinc, zkl, zskip, zk, zi, za, zbin, zdiv, zrem, zgi, zgr, zld, zldr, zlen, zn, zc, zcall, zcallv, zrcv, zdo, zdov, zpf, zpfc, zas, zasc, zmin, zmax, zcmp, zcz, zand_e, zor_e, zite_e, zbite_e, zif_e, znot_e, z_add, z_sub, z_mul, z_and, z_or, z_xor, z_shl, z_shr, zcpy, -List.getElem?_cons_succ, zg_0, zg_1, zg_2, zg_3, zg_4, zg_5, zg_6, zg_7, zg_8, zg_9, zc_lt, zc_le, zc_gt, zc_ge, zc_eq, zc_ne, zc_lt0, zc_ge0, zc_gt0, zc_eq0, zc_ne0, zb_ne, zb_eq, zb_01, z_00, z_01, z_11, zb_f, zb_T, zb_F, zbm1, zbm2, zbm5, zbm6, zbm3, zbm4, nI_clamp, zmod_n, pk_div, nI_ne0, pk_mul, nI_add, nI_1, zt_0, zt_12, zt_20, zt_26, zt_32, zf_0_0, zf_0_1, zf_0_2, zf_0_3, zf_0_4, zf_12_0, zf_12_1, zf_12_2, zf_12_4, zf_12_5, zf_20_1, zf_20_2, zf_20_3, zf_20_4, zf_20_6, zf_26_0, zf_26_1, zf_26_2, zf_26_3, zf_32_0, zf_32_1, zf_32_3, zf_32_4, zf_32_5, zf_32_6, m0, m1, m2, m3, m4, lwB]
theorem qW_m3 {M : zM} {t n x y z : Nat} {c : tC} (ht : t < 6) (h : rT M t n c) (ho : tO n c) (hf : tF n c) (hx : x < n) (hy : y < n) (hz : z < n) : zf_M_holds [.ref 32, .int (nI t), .int (nI 3), .int (nI x), .int (nI y), .int (nI z)] M = some (some (zb (lwB n c 3 x y z)), M) := by
    have h8 := ho.1.2
    have f0 := hf x y hx hy
    have f1 := hf y x hy hx
    have f2 := hf x x hx hx
    have f3 := hf x (c x y) hx f0
    have f4 := hf (c x x) y f2 hy
    have m0 := qM_mul (M := M) ht h h8 hf hx hy
    have m1 := qM_mul (M := M) ht h h8 hf hy hx
    have m2 := qM_mul (M := M) ht h h8 hf hx hx
    have m3 := qM_mul (M := M) ht h h8 hf hx f0
    have m4 := qM_mul (M := M) ht h h8 hf f2 hy
    simp (disch := omega) [zf_M_holds, zsw, pkM3, zmeth, xm_en, zret, zretz, zretv, zseq, zst, zinc, zkl, zskip, zk, zi, za, zbin, zdiv, zrem, zgi, zgr, zld, zldr, zlen, zn, zc, zcall, zcallv, zrcv, zdo, zdov, zpf, zpfc, zas, zasc, zmin, zmax, zcmp, zcz, zand_e, zor_e, zite_e, zbite_e, zif_e, znot_e, z_add, z_sub, z_mul, z_and, z_or, z_xor, z_shl, z_shr, zcpy, -List.getElem?_cons_succ, zg_0, zg_1, zg_2, zg_3, zg_4, zg_5, zg_6, zg_7, zg_8, zg_9, zc_lt, zc_le, zc_gt, zc_ge, zc_eq, zc_ne, zc_lt0, zc_ge0, zc_gt0, zc_eq0, zc_ne0, zb_ne, zb_eq, zb_01, z_00, z_01, z_11, zb_f, zb_T, zb_F, zbm1, zbm2, zbm5, zbm6, zbm3, zbm4, nI_clamp, zmod_n, pk_div, nI_ne0, pk_mul, nI_add, nI_1, zt_0, zt_12, zt_20, zt_26, zt_32, zf_0_0, zf_0_1, zf_0_2, zf_0_3, zf_0_4, zf_12_0, zf_12_1, zf_12_2, zf_12_4, zf_12_5, zf_20_1, zf_20_2, zf_20_3, zf_20_4, zf_20_6, zf_26_0, zf_26_1, zf_26_2, zf_26_3, zf_32_0, zf_32_1, zf_32_3, zf_32_4, zf_32_5, zf_32_6, m0, m1, m2, m3, m4, lwB]
theorem qW_m4 {M : zM} {t n x y z : Nat} {c : tC} (ht : t < 6) (h : rT M t n c) (ho : tO n c) (hf : tF n c) (hx : x < n) (hy : y < n) (hz : z < n) : zf_M_holds [.ref 32, .int (nI t), .int (nI 4), .int (nI x), .int (nI y), .int (nI z)] M = some (some (zb (lwB n c 4 x y z)), M) := by
    have h8 := ho.1.2
    have f0 := hf x y hx hy
    have f1 := hf y x hy hx
    have f2 := hf x x hx hx
    have f3 := hf (c y x) x f1 hx
    have f4 := hf y (c x x) hy f2
    have m0 := qM_mul (M := M) ht h h8 hf hx hy
    have m1 := qM_mul (M := M) ht h h8 hf hy hx
    have m2 := qM_mul (M := M) ht h h8 hf hx hx
    have m3 := qM_mul (M := M) ht h h8 hf f1 hx
    have m4 := qM_mul (M := M) ht h h8 hf hy f2
    simp (disch := omega) [zf_M_holds, zsw, pkM4, zmeth, xm_en, zret, zretz, zretv, zseq, zst, zinc, zkl, zskip, zk, zi, za, zbin, zdiv, zrem, zgi, zgr, zld, zldr, zlen, zn, zc, zcall, zcallv, zrcv, zdo, zdov, zpf, zpfc, zas, zasc, zmin, zmax, zcmp, zcz, zand_e, zor_e, zite_e, zbite_e, zif_e, znot_e, z_add, z_sub, z_mul, z_and, z_or, z_xor, z_shl, z_shr, zcpy, -List.getElem?_cons_succ, zg_0, zg_1, zg_2, zg_3, zg_4, zg_5, zg_6, zg_7, zg_8, zg_9, zc_lt, zc_le, zc_gt, zc_ge, zc_eq, zc_ne, zc_lt0, zc_ge0, zc_gt0, zc_eq0, zc_ne0, zb_ne, zb_eq, zb_01, z_00, z_01, z_11, zb_f, zb_T, zb_F, zbm1, zbm2, zbm5, zbm6, zbm3, zbm4, nI_clamp, zmod_n, pk_div, nI_ne0, pk_mul, nI_add, nI_1, zt_0, zt_12, zt_20, zt_26, zt_32, zf_0_0, zf_0_1, zf_0_2, zf_0_3, zf_0_4, zf_12_0, zf_12_1, zf_12_2, zf_12_4, zf_12_5, zf_20_1, zf_20_2, zf_20_3, zf_20_4, zf_20_6, zf_26_0, zf_26_1, zf_26_2, zf_26_3, zf_32_0, zf_32_1, zf_32_3, zf_32_4, zf_32_5, zf_32_6, m0, m1, m2, m3, m4, lwB]
theorem qW_m5 {M : zM} {t n x y z : Nat} {c : tC} (ht : t < 6) (h : rT M t n c) (ho : tO n c) (hf : tF n c) (hx : x < n) (hy : y < n) (hz : z < n) : zf_M_holds [.ref 32, .int (nI t), .int (nI 5), .int (nI x), .int (nI y), .int (nI z)] M = some (some (zb (lwB n c 5 x y z)), M) := by
    have h8 := ho.1.2
    have f0 := hf x y hx hy
    have f1 := hf y x hy hx
    have f2 := hf x x hx hx
    have f3 := hf x z hx hz
    have f4 := hf y (c x z) hy f3
    have f5 := hf x (c y (c x z)) hx f4
    have f6 := hf x (c y x) hx f1
    have f7 := hf (c x (c y x)) z f6 hz
    have m0 := qM_mul (M := M) ht h h8 hf hx hy
    have m1 := qM_mul (M := M) ht h h8 hf hy hx
    have m2 := qM_mul (M := M) ht h h8 hf hx hx
    have m3 := qM_mul (M := M) ht h h8 hf hx hz
    have m4 := qM_mul (M := M) ht h h8 hf hy f3
    have m5 := qM_mul (M := M) ht h h8 hf hx f4
    have m6 := qM_mul (M := M) ht h h8 hf hx f1
    have m7 := qM_mul (M := M) ht h h8 hf f6 hz
    simp (disch := omega) [zf_M_holds, zsw, pkM5, zmeth, xm_en, zret, zretz, zretv, zseq, zst, zinc, zkl, zskip, zk, zi, za, zbin, zdiv, zrem, zgi, zgr, zld, zldr, zlen, zn, zc, zcall, zcallv, zrcv, zdo, zdov, zpf, zpfc, zas, zasc, zmin, zmax, zcmp, zcz, zand_e, zor_e, zite_e, zbite_e, zif_e, znot_e, z_add, z_sub, z_mul, z_and, z_or, z_xor, z_shl, z_shr, zcpy, -List.getElem?_cons_succ, zg_0, zg_1, zg_2, zg_3, zg_4, zg_5, zg_6, zg_7, zg_8, zg_9, zc_lt, zc_le, zc_gt, zc_ge, zc_eq, zc_ne, zc_lt0, zc_ge0, zc_gt0, zc_eq0, zc_ne0, zb_ne, zb_eq, zb_01, z_00, z_01, z_11, zb_f, zb_T, zb_F, zbm1, zbm2, zbm5, zbm6, zbm3, zbm4, nI_clamp, zmod_n, pk_div, nI_ne0, pk_mul, nI_add, nI_1, zt_0, zt_12, zt_20, zt_26, zt_32, zf_0_0, zf_0_1, zf_0_2, zf_0_3, zf_0_4, zf_12_0, zf_12_1, zf_12_2, zf_12_4, zf_12_5, zf_20_1, zf_20_2, zf_20_3, zf_20_4, zf_20_6, zf_26_0, zf_26_1, zf_26_2, zf_26_3, zf_32_0, zf_32_1, zf_32_3, zf_32_4, zf_32_5, zf_32_6, m0, m1, m2, m3, m4, m5, m6, m7, lwB]
theorem qW_m6 {M : zM} {t n x y z : Nat} {c : tC} (ht : t < 6) (h : rT M t n c) (ho : tO n c) (hf : tF n c) (hx : x < n) (hy : y < n) (hz : z < n) : zf_M_holds [.ref 32, .int (nI t), .int (nI 6), .int (nI x), .int (nI y), .int (nI z)] M = some (some (zb (lwB n c 6 x y z)), M) := by
    have h8 := ho.1.2
    have f0 := hf x y hx hy
    have f1 := hf y x hy hx
    have f2 := hf x x hx hx
    have f3 := hf z x hz hx
    have f4 := hf (c z x) y f3 hy
    have f5 := hf (c (c z x) y) x f4 hx
    have f6 := hf (c x y) x f0 hx
    have f7 := hf z (c (c x y) x) hz f6
    have m0 := qM_mul (M := M) ht h h8 hf hx hy
    have m1 := qM_mul (M := M) ht h h8 hf hy hx
    have m2 := qM_mul (M := M) ht h h8 hf hx hx
    have m3 := qM_mul (M := M) ht h h8 hf hz hx
    have m4 := qM_mul (M := M) ht h h8 hf f3 hy
    have m5 := qM_mul (M := M) ht h h8 hf f4 hx
    have m6 := qM_mul (M := M) ht h h8 hf f0 hx
    have m7 := qM_mul (M := M) ht h h8 hf hz f6
    simp (disch := omega) [zf_M_holds, zsw, pkM6, zmeth, xm_en, zret, zretz, zretv, zseq, zst, zinc, zkl, zskip, zk, zi, za, zbin, zdiv, zrem, zgi, zgr, zld, zldr, zlen, zn, zc, zcall, zcallv, zrcv, zdo, zdov, zpf, zpfc, zas, zasc, zmin, zmax, zcmp, zcz, zand_e, zor_e, zite_e, zbite_e, zif_e, znot_e, z_add, z_sub, z_mul, z_and, z_or, z_xor, z_shl, z_shr, zcpy, -List.getElem?_cons_succ, zg_0, zg_1, zg_2, zg_3, zg_4, zg_5, zg_6, zg_7, zg_8, zg_9, zc_lt, zc_le, zc_gt, zc_ge, zc_eq, zc_ne, zc_lt0, zc_ge0, zc_gt0, zc_eq0, zc_ne0, zb_ne, zb_eq, zb_01, z_00, z_01, z_11, zb_f, zb_T, zb_F, zbm1, zbm2, zbm5, zbm6, zbm3, zbm4, nI_clamp, zmod_n, pk_div, nI_ne0, pk_mul, nI_add, nI_1, zt_0, zt_12, zt_20, zt_26, zt_32, zf_0_0, zf_0_1, zf_0_2, zf_0_3, zf_0_4, zf_12_0, zf_12_1, zf_12_2, zf_12_4, zf_12_5, zf_20_1, zf_20_2, zf_20_3, zf_20_4, zf_20_6, zf_26_0, zf_26_1, zf_26_2, zf_26_3, zf_32_0, zf_32_1, zf_32_3, zf_32_4, zf_32_5, zf_32_6, m0, m1, m2, m3, m4, m5, m6, m7, lwB]
theorem qW_m7 {M : zM} {t n x y z : Nat} {c : tC} (ht : t < 6) (h : rT M t n c) (ho : tO n c) (hf : tF n c) (hx : x < n) (hy : y < n) (hz : z < n) : zf_M_holds [.ref 32, .int (nI t), .int (nI 7), .int (nI x), .int (nI y), .int (nI z)] M = some (some (zb (lwB n c 7 x y z)), M) := by
    have h8 := ho.1.2
    have f0 := hf x y hx hy
    have f1 := hf y x hy hx
    have f2 := hf x x hx hx
    have f3 := hf (c x y) x f0 hx
    have f4 := hf (c (c x y) x) z f3 hz
    have f5 := hf x z hx hz
    have f6 := hf y (c x z) hy f5
    have f7 := hf x (c y (c x z)) hx f6
    have m0 := qM_mul (M := M) ht h h8 hf hx hy
    have m1 := qM_mul (M := M) ht h h8 hf hy hx
    have m2 := qM_mul (M := M) ht h h8 hf hx hx
    have m3 := qM_mul (M := M) ht h h8 hf f0 hx
    have m4 := qM_mul (M := M) ht h h8 hf f3 hz
    have m5 := qM_mul (M := M) ht h h8 hf hx hz
    have m6 := qM_mul (M := M) ht h h8 hf hy f5
    have m7 := qM_mul (M := M) ht h h8 hf hx f6
    simp (disch := omega) [zf_M_holds, zsw, pkM7, zmeth, xm_en, zret, zretz, zretv, zseq, zst, zinc, zkl, zskip, zk, zi, za, zbin, zdiv, zrem, zgi, zgr, zld, zldr, zlen, zn, zc, zcall, zcallv, zrcv, zdo, zdov, zpf, zpfc, zas, zasc, zmin, zmax, zcmp, zcz, zand_e, zor_e, zite_e, zbite_e, zif_e, znot_e, z_add, z_sub, z_mul, z_and, z_or, z_xor, z_shl, z_shr, zcpy, -List.getElem?_cons_succ, zg_0, zg_1, zg_2, zg_3, zg_4, zg_5, zg_6, zg_7, zg_8, zg_9, zc_lt, zc_le, zc_gt, zc_ge, zc_eq, zc_ne, zc_lt0, zc_ge0, zc_gt0, zc_eq0, zc_ne0, zb_ne, zb_eq, zb_01, z_00, z_01, z_11, zb_f, zb_T, zb_F, zbm1, zbm2, zbm5, zbm6, zbm3, zbm4, nI_clamp, zmod_n, pk_div, nI_ne0, pk_mul, nI_add, nI_1, zt_0, zt_12, zt_20, zt_26, zt_32, zf_0_0, zf_0_1, zf_0_2, zf_0_3, zf_0_4, zf_12_0, zf_12_1, zf_12_2, zf_12_4, zf_12_5, zf_20_1, zf_20_2, zf_20_3, zf_20_4, zf_20_6, zf_26_0, zf_26_1, zf_26_2, zf_26_3, zf_32_0, zf_32_1, zf_32_3, zf_32_4, zf_32_5, zf_32_6, m0, m1, m2, m3, m4, m5, m6, m7, lwB]
theorem qW_m8 {M : zM} {t n x y z : Nat} {c : tC} (ht : t < 6) (h : rT M t n c) (ho : tO n c) (hf : tF n c) (hx : x < n) (hy : y < n) (hz : z < n) : zf_M_holds [.ref 32, .int (nI t), .int (nI 8), .int (nI x), .int (nI y), .int (nI z)] M = some (some (zb (lwB n c 8 x y z)), M) := by
    have h8 := ho.1.2
    have f0 := hf x y hx hy
    have f1 := hf y x hy hx
    have f2 := hf x x hx hx
    have m0 := qM_mul (M := M) ht h h8 hf hx hy
    have m1 := qM_mul (M := M) ht h h8 hf hy hx
    have m2 := qM_mul (M := M) ht h h8 hf hx hx
    have u := tun_ok ho hf hx (show 0 < n from ho.1.1)
    have v := tov_ok ho hf hx (show 0 < n from ho.1.1)
    have mu := qM_behind (M := M) (w := 0) ht h h8 hx (by decide) u.1
    have mv := qM_ahead (M := M) (w := 0) ht h h8 hx (by decide) v.1
    have eu : zidx (fun b => decide (c x b = 0)) 0 n = tun n c x 0 := rfl
    have ev : zidx (fun a => decide (c a x = 0)) 0 n = tov n c 0 x := rfl
    rw [eu] at mu
    rw [ev] at mv
    have u1 := u.1
    have v1 := v.1
    simp (disch := omega) [zf_M_holds, zsw, pkM8, zmeth, xm_en, zret, zretz, zretv, zseq, zst, zinc, zkl, zskip, zk, zi, za, zbin, zdiv, zrem, zgi, zgr, zld, zldr, zlen, zn, zc, zcall, zcallv, zrcv, zdo, zdov, zpf, zpfc, zas, zasc, zmin, zmax, zcmp, zcz, zand_e, zor_e, zite_e, zbite_e, zif_e, znot_e, z_add, z_sub, z_mul, z_and, z_or, z_xor, z_shl, z_shr, zcpy, -List.getElem?_cons_succ, zg_0, zg_1, zg_2, zg_3, zg_4, zg_5, zg_6, zg_7, zg_8, zg_9, zc_lt, zc_le, zc_gt, zc_ge, zc_eq, zc_ne, zc_lt0, zc_ge0, zc_gt0, zc_eq0, zc_ne0, zb_ne, zb_eq, zb_01, z_00, z_01, z_11, zb_f, zb_T, zb_F, zbm1, zbm2, zbm5, zbm6, zbm3, zbm4, nI_clamp, zmod_n, pk_div, nI_ne0, pk_mul, nI_add, nI_1, zt_0, zt_12, zt_20, zt_26, zt_32, zf_0_0, zf_0_1, zf_0_2, zf_0_3, zf_0_4, zf_12_0, zf_12_1, zf_12_2, zf_12_4, zf_12_5, zf_20_1, zf_20_2, zf_20_3, zf_20_4, zf_20_6, zf_26_0, zf_26_1, zf_26_2, zf_26_3, zf_32_0, zf_32_1, zf_32_3, zf_32_4, zf_32_5, zf_32_6, m0, m1, m2, mu, mv, lwB]
theorem qW_m9 {M : zM} {t n x y z : Nat} {c : tC} (ht : t < 6) (h : rT M t n c) (ho : tO n c) (hf : tF n c) (hx : x < n) (hy : y < n) (hz : z < n) : zf_M_holds [.ref 32, .int (nI t), .int (nI 9), .int (nI x), .int (nI y), .int (nI z)] M = some (some (zb (lwB n c 9 x y z)), M) := by
    have h8 := ho.1.2
    have f0 := hf x y hx hy
    have f1 := hf y x hy hx
    have f2 := hf x x hx hx
    have m0 := qM_mul (M := M) ht h h8 hf hx hy
    have m1 := qM_mul (M := M) ht h h8 hf hy hx
    have m2 := qM_mul (M := M) ht h h8 hf hx hx
    have u := tun_ok ho hf hx (show 0 < n from ho.1.1)
    have v := tov_ok ho hf hx (show 0 < n from ho.1.1)
    have mu := qM_behind (M := M) (w := 0) ht h h8 hx (by decide) u.1
    have mv := qM_ahead (M := M) (w := 0) ht h h8 hx (by decide) v.1
    have eu : zidx (fun b => decide (c x b = 0)) 0 n = tun n c x 0 := rfl
    have ev : zidx (fun a => decide (c a x = 0)) 0 n = tov n c 0 x := rfl
    rw [eu] at mu
    rw [ev] at mv
    have g1 := hf (tun n c x 0) (c x y) u.1 f0
    have k1 := qM_mul (M := M) ht h h8 hf u.1 f0
    have u1 := u.1
    have v1 := v.1
    simp (disch := omega) [zf_M_holds, zsw, pkM9, zmeth, xm_en, zret, zretz, zretv, zseq, zst, zinc, zkl, zskip, zk, zi, za, zbin, zdiv, zrem, zgi, zgr, zld, zldr, zlen, zn, zc, zcall, zcallv, zrcv, zdo, zdov, zpf, zpfc, zas, zasc, zmin, zmax, zcmp, zcz, zand_e, zor_e, zite_e, zbite_e, zif_e, znot_e, z_add, z_sub, z_mul, z_and, z_or, z_xor, z_shl, z_shr, zcpy, -List.getElem?_cons_succ, zg_0, zg_1, zg_2, zg_3, zg_4, zg_5, zg_6, zg_7, zg_8, zg_9, zc_lt, zc_le, zc_gt, zc_ge, zc_eq, zc_ne, zc_lt0, zc_ge0, zc_gt0, zc_eq0, zc_ne0, zb_ne, zb_eq, zb_01, z_00, z_01, z_11, zb_f, zb_T, zb_F, zbm1, zbm2, zbm5, zbm6, zbm3, zbm4, nI_clamp, zmod_n, pk_div, nI_ne0, pk_mul, nI_add, nI_1, zt_0, zt_12, zt_20, zt_26, zt_32, zf_0_0, zf_0_1, zf_0_2, zf_0_3, zf_0_4, zf_12_0, zf_12_1, zf_12_2, zf_12_4, zf_12_5, zf_20_1, zf_20_2, zf_20_3, zf_20_4, zf_20_6, zf_26_0, zf_26_1, zf_26_2, zf_26_3, zf_32_0, zf_32_1, zf_32_3, zf_32_4, zf_32_5, zf_32_6, m0, m1, m2, mu, mv, k1, lwB]
theorem qW_m10 {M : zM} {t n x y z : Nat} {c : tC} (ht : t < 6) (h : rT M t n c) (ho : tO n c) (hf : tF n c) (hx : x < n) (hy : y < n) (hz : z < n) : zf_M_holds [.ref 32, .int (nI t), .int (nI 10), .int (nI x), .int (nI y), .int (nI z)] M = some (some (zb (lwB n c 10 x y z)), M) := by
    have h8 := ho.1.2
    have f0 := hf x y hx hy
    have f1 := hf y x hy hx
    have f2 := hf x x hx hx
    have m0 := qM_mul (M := M) ht h h8 hf hx hy
    have m1 := qM_mul (M := M) ht h h8 hf hy hx
    have m2 := qM_mul (M := M) ht h h8 hf hx hx
    have u := tun_ok ho hf hx (show 0 < n from ho.1.1)
    have v := tov_ok ho hf hx (show 0 < n from ho.1.1)
    have mu := qM_behind (M := M) (w := 0) ht h h8 hx (by decide) u.1
    have mv := qM_ahead (M := M) (w := 0) ht h h8 hx (by decide) v.1
    have eu : zidx (fun b => decide (c x b = 0)) 0 n = tun n c x 0 := rfl
    have ev : zidx (fun a => decide (c a x = 0)) 0 n = tov n c 0 x := rfl
    rw [eu] at mu
    rw [ev] at mv
    have g1 := hf (c y x) (tov n c 0 x) f1 v.1
    have k1 := qM_mul (M := M) ht h h8 hf f1 v.1
    have u1 := u.1
    have v1 := v.1
    simp (disch := omega) [zf_M_holds, zsw, pkM10, zmeth, xm_en, zret, zretz, zretv, zseq, zst, zinc, zkl, zskip, zk, zi, za, zbin, zdiv, zrem, zgi, zgr, zld, zldr, zlen, zn, zc, zcall, zcallv, zrcv, zdo, zdov, zpf, zpfc, zas, zasc, zmin, zmax, zcmp, zcz, zand_e, zor_e, zite_e, zbite_e, zif_e, znot_e, z_add, z_sub, z_mul, z_and, z_or, z_xor, z_shl, z_shr, zcpy, -List.getElem?_cons_succ, zg_0, zg_1, zg_2, zg_3, zg_4, zg_5, zg_6, zg_7, zg_8, zg_9, zc_lt, zc_le, zc_gt, zc_ge, zc_eq, zc_ne, zc_lt0, zc_ge0, zc_gt0, zc_eq0, zc_ne0, zb_ne, zb_eq, zb_01, z_00, z_01, z_11, zb_f, zb_T, zb_F, zbm1, zbm2, zbm5, zbm6, zbm3, zbm4, nI_clamp, zmod_n, pk_div, nI_ne0, pk_mul, nI_add, nI_1, zt_0, zt_12, zt_20, zt_26, zt_32, zf_0_0, zf_0_1, zf_0_2, zf_0_3, zf_0_4, zf_12_0, zf_12_1, zf_12_2, zf_12_4, zf_12_5, zf_20_1, zf_20_2, zf_20_3, zf_20_4, zf_20_6, zf_26_0, zf_26_1, zf_26_2, zf_26_3, zf_32_0, zf_32_1, zf_32_3, zf_32_4, zf_32_5, zf_32_6, m0, m1, m2, mu, mv, k1, lwB]
theorem qW_m11 {M : zM} {t n x y z : Nat} {c : tC} (ht : t < 6) (h : rT M t n c) (ho : tO n c) (hf : tF n c) (hx : x < n) (hy : y < n) (hz : z < n) : zf_M_holds [.ref 32, .int (nI t), .int (nI 11), .int (nI x), .int (nI y), .int (nI z)] M = some (some (zb (lwB n c 11 x y z)), M) := by
    have h8 := ho.1.2
    have f0 := hf x y hx hy
    have f1 := hf y x hy hx
    have f2 := hf x x hx hx
    have m0 := qM_mul (M := M) ht h h8 hf hx hy
    have m1 := qM_mul (M := M) ht h h8 hf hy hx
    have m2 := qM_mul (M := M) ht h h8 hf hx hx
    simp (disch := omega) [zf_M_holds, zsw, pkM11, zmeth, xm_en, zret, zretz, zretv, zseq, zst, zinc, zkl, zskip, zk, zi, za, zbin, zdiv, zrem, zgi, zgr, zld, zldr, zlen, zn, zc, zcall, zcallv, zrcv, zdo, zdov, zpf, zpfc, zas, zasc, zmin, zmax, zcmp, zcz, zand_e, zor_e, zite_e, zbite_e, zif_e, znot_e, z_add, z_sub, z_mul, z_and, z_or, z_xor, z_shl, z_shr, zcpy, -List.getElem?_cons_succ, zg_0, zg_1, zg_2, zg_3, zg_4, zg_5, zg_6, zg_7, zg_8, zg_9, zc_lt, zc_le, zc_gt, zc_ge, zc_eq, zc_ne, zc_lt0, zc_ge0, zc_gt0, zc_eq0, zc_ne0, zb_ne, zb_eq, zb_01, z_00, z_01, z_11, zb_f, zb_T, zb_F, zbm1, zbm2, zbm5, zbm6, zbm3, zbm4, nI_clamp, zmod_n, pk_div, nI_ne0, pk_mul, nI_add, nI_1, zt_0, zt_12, zt_20, zt_26, zt_32, zf_0_0, zf_0_1, zf_0_2, zf_0_3, zf_0_4, zf_12_0, zf_12_1, zf_12_2, zf_12_4, zf_12_5, zf_20_1, zf_20_2, zf_20_3, zf_20_4, zf_20_6, zf_26_0, zf_26_1, zf_26_2, zf_26_3, zf_32_0, zf_32_1, zf_32_3, zf_32_4, zf_32_5, zf_32_6, m0, m1, m2, lwB]
theorem qW_m12 {M : zM} {t n x y z : Nat} {c : tC} (ht : t < 6) (h : rT M t n c) (ho : tO n c) (hf : tF n c) (hx : x < n) (hy : y < n) (hz : z < n) : zf_M_holds [.ref 32, .int (nI t), .int (nI 12), .int (nI x), .int (nI y), .int (nI z)] M = some (some (zb (lwB n c 12 x y z)), M) := by
    have h8 := ho.1.2
    have f0 := hf x y hx hy
    have f1 := hf y x hy hx
    have f2 := hf x x hx hx
    have f3 := hf x z hx hz
    have f4 := hf (c x y) (c x z) f0 f3
    have f5 := hf y z hy hz
    have f6 := hf (c x x) (c y z) f2 f5
    have m0 := qM_mul (M := M) ht h h8 hf hx hy
    have m1 := qM_mul (M := M) ht h h8 hf hy hx
    have m2 := qM_mul (M := M) ht h h8 hf hx hx
    have m3 := qM_mul (M := M) ht h h8 hf hx hz
    have m4 := qM_mul (M := M) ht h h8 hf f0 f3
    have m5 := qM_mul (M := M) ht h h8 hf hy hz
    have m6 := qM_mul (M := M) ht h h8 hf f2 f5
    simp (disch := omega) [zf_M_holds, zsw, pkM12, zmeth, xm_en, zret, zretz, zretv, zseq, zst, zinc, zkl, zskip, zk, zi, za, zbin, zdiv, zrem, zgi, zgr, zld, zldr, zlen, zn, zc, zcall, zcallv, zrcv, zdo, zdov, zpf, zpfc, zas, zasc, zmin, zmax, zcmp, zcz, zand_e, zor_e, zite_e, zbite_e, zif_e, znot_e, z_add, z_sub, z_mul, z_and, z_or, z_xor, z_shl, z_shr, zcpy, -List.getElem?_cons_succ, zg_0, zg_1, zg_2, zg_3, zg_4, zg_5, zg_6, zg_7, zg_8, zg_9, zc_lt, zc_le, zc_gt, zc_ge, zc_eq, zc_ne, zc_lt0, zc_ge0, zc_gt0, zc_eq0, zc_ne0, zb_ne, zb_eq, zb_01, z_00, z_01, z_11, zb_f, zb_T, zb_F, zbm1, zbm2, zbm5, zbm6, zbm3, zbm4, nI_clamp, zmod_n, pk_div, nI_ne0, pk_mul, nI_add, nI_1, zt_0, zt_12, zt_20, zt_26, zt_32, zf_0_0, zf_0_1, zf_0_2, zf_0_3, zf_0_4, zf_12_0, zf_12_1, zf_12_2, zf_12_4, zf_12_5, zf_20_1, zf_20_2, zf_20_3, zf_20_4, zf_20_6, zf_26_0, zf_26_1, zf_26_2, zf_26_3, zf_32_0, zf_32_1, zf_32_3, zf_32_4, zf_32_5, zf_32_6, m0, m1, m2, m3, m4, m5, m6, lwB]
theorem qW_c {M : zM} {k n x y z : Nat} {c : tC} (hk : ztb k) (h : kT M k n c) (ho : tO n c) (hf : tF n c) (hx : x < n) (hy : y < n) (hz : z < n) {w : Nat} (hw : w < 13) : zf_Laws_holds [.ref k, .int (nI w), .int (nI x), .int (nI y), .int (nI z)] M = some (some (zb (lwB n c w x y z)), M) := by
  match w, hw with
  | 0, _ => exact qW_c0 hk h ho hf hx hy hz
  | 1, _ => exact qW_c1 hk h ho hf hx hy hz
  | 2, _ => exact qW_c2 hk h ho hf hx hy hz
  | 3, _ => exact qW_c3 hk h ho hf hx hy hz
  | 4, _ => exact qW_c4 hk h ho hf hx hy hz
  | 5, _ => exact qW_c5 hk h ho hf hx hy hz
  | 6, _ => exact qW_c6 hk h ho hf hx hy hz
  | 7, _ => exact qW_c7 hk h ho hf hx hy hz
  | 8, _ => exact qW_c8 hk h ho hf hx hy hz
  | 9, _ => exact qW_c9 hk h ho hf hx hy hz
  | 10, _ => exact qW_c10 hk h ho hf hx hy hz
  | 11, _ => exact qW_c11 hk h ho hf hx hy hz
  | 12, _ => exact qW_c12 hk h ho hf hx hy hz
theorem qW_m {M : zM} {t n x y z : Nat} {c : tC} (ht : t < 6) (h : rT M t n c) (ho : tO n c) (hf : tF n c) (hx : x < n) (hy : y < n) (hz : z < n) {w : Nat} (hw : w < 13) : zf_M_holds [.ref 32, .int (nI t), .int (nI w), .int (nI x), .int (nI y), .int (nI z)] M = some (some (zb (lwB n c w x y z)), M) := by
  match w, hw with
  | 0, _ => exact qW_m0 ht h ho hf hx hy hz
  | 1, _ => exact qW_m1 ht h ho hf hx hy hz
  | 2, _ => exact qW_m2 ht h ho hf hx hy hz
  | 3, _ => exact qW_m3 ht h ho hf hx hy hz
  | 4, _ => exact qW_m4 ht h ho hf hx hy hz
  | 5, _ => exact qW_m5 ht h ho hf hx hy hz
  | 6, _ => exact qW_m6 ht h ho hf hx hy hz
  | 7, _ => exact qW_m7 ht h ho hf hx hy hz
  | 8, _ => exact qW_m8 ht h ho hf hx hy hz
  | 9, _ => exact qW_m9 ht h ho hf hx hy hz
  | 10, _ => exact qW_m10 ht h ho hf hx hy hz
  | 11, _ => exact qW_m11 ht h ho hf hx hy hz
  | 12, _ => exact qW_m12 ht h ho hf hx hy hz
theorem qW_lc {M : zM} {w : Nat} (hw : w < 13) : zf_Laws_countLetters [.int (nI w)] M = some (some (nI (lwL w)), M) := by
  match w, hw with
  | 0, _ => simp [zf_Laws_countLetters, zsw, pkC0, zmeth, xm_en, zret, zretz, zretv, zseq, zst, zinc, zkl, zskip, zk, zi, za, zbin, zdiv, zrem, zgi, zgr, zld, zldr, zlen, zn, zc, zcall, zcallv, zrcv, zdo, zdov, zpf, zpfc, zas, zasc, zmin, zmax, zcmp, zcz, zand_e, zor_e, zite_e, zbite_e, zif_e, znot_e, z_add, z_sub, z_mul, z_and, z_or, z_xor, z_shl, z_shr, zcpy, -List.getElem?_cons_succ, zg_0, zg_1, zg_2, zg_3, zg_4, zg_5, zg_6, zg_7, zg_8, zg_9, lwL]
  | 1, _ => simp [zf_Laws_countLetters, zsw, pkC1, zmeth, xm_en, zret, zretz, zretv, zseq, zst, zinc, zkl, zskip, zk, zi, za, zbin, zdiv, zrem, zgi, zgr, zld, zldr, zlen, zn, zc, zcall, zcallv, zrcv, zdo, zdov, zpf, zpfc, zas, zasc, zmin, zmax, zcmp, zcz, zand_e, zor_e, zite_e, zbite_e, zif_e, znot_e, z_add, z_sub, z_mul, z_and, z_or, z_xor, z_shl, z_shr, zcpy, -List.getElem?_cons_succ, zg_0, zg_1, zg_2, zg_3, zg_4, zg_5, zg_6, zg_7, zg_8, zg_9, lwL]
  | 2, _ => simp [zf_Laws_countLetters, zsw, pkC2, zmeth, xm_en, zret, zretz, zretv, zseq, zst, zinc, zkl, zskip, zk, zi, za, zbin, zdiv, zrem, zgi, zgr, zld, zldr, zlen, zn, zc, zcall, zcallv, zrcv, zdo, zdov, zpf, zpfc, zas, zasc, zmin, zmax, zcmp, zcz, zand_e, zor_e, zite_e, zbite_e, zif_e, znot_e, z_add, z_sub, z_mul, z_and, z_or, z_xor, z_shl, z_shr, zcpy, -List.getElem?_cons_succ, zg_0, zg_1, zg_2, zg_3, zg_4, zg_5, zg_6, zg_7, zg_8, zg_9, lwL]
  | 3, _ => simp [zf_Laws_countLetters, zsw, pkC3, zmeth, xm_en, zret, zretz, zretv, zseq, zst, zinc, zkl, zskip, zk, zi, za, zbin, zdiv, zrem, zgi, zgr, zld, zldr, zlen, zn, zc, zcall, zcallv, zrcv, zdo, zdov, zpf, zpfc, zas, zasc, zmin, zmax, zcmp, zcz, zand_e, zor_e, zite_e, zbite_e, zif_e, znot_e, z_add, z_sub, z_mul, z_and, z_or, z_xor, z_shl, z_shr, zcpy, -List.getElem?_cons_succ, zg_0, zg_1, zg_2, zg_3, zg_4, zg_5, zg_6, zg_7, zg_8, zg_9, lwL]
  | 4, _ => simp [zf_Laws_countLetters, zsw, pkC4, zmeth, xm_en, zret, zretz, zretv, zseq, zst, zinc, zkl, zskip, zk, zi, za, zbin, zdiv, zrem, zgi, zgr, zld, zldr, zlen, zn, zc, zcall, zcallv, zrcv, zdo, zdov, zpf, zpfc, zas, zasc, zmin, zmax, zcmp, zcz, zand_e, zor_e, zite_e, zbite_e, zif_e, znot_e, z_add, z_sub, z_mul, z_and, z_or, z_xor, z_shl, z_shr, zcpy, -List.getElem?_cons_succ, zg_0, zg_1, zg_2, zg_3, zg_4, zg_5, zg_6, zg_7, zg_8, zg_9, lwL]
  | 5, _ => simp [zf_Laws_countLetters, zsw, pkC5, zmeth, xm_en, zret, zretz, zretv, zseq, zst, zinc, zkl, zskip, zk, zi, za, zbin, zdiv, zrem, zgi, zgr, zld, zldr, zlen, zn, zc, zcall, zcallv, zrcv, zdo, zdov, zpf, zpfc, zas, zasc, zmin, zmax, zcmp, zcz, zand_e, zor_e, zite_e, zbite_e, zif_e, znot_e, z_add, z_sub, z_mul, z_and, z_or, z_xor, z_shl, z_shr, zcpy, -List.getElem?_cons_succ, zg_0, zg_1, zg_2, zg_3, zg_4, zg_5, zg_6, zg_7, zg_8, zg_9, lwL]
  | 6, _ => simp [zf_Laws_countLetters, zsw, pkC6, zmeth, xm_en, zret, zretz, zretv, zseq, zst, zinc, zkl, zskip, zk, zi, za, zbin, zdiv, zrem, zgi, zgr, zld, zldr, zlen, zn, zc, zcall, zcallv, zrcv, zdo, zdov, zpf, zpfc, zas, zasc, zmin, zmax, zcmp, zcz, zand_e, zor_e, zite_e, zbite_e, zif_e, znot_e, z_add, z_sub, z_mul, z_and, z_or, z_xor, z_shl, z_shr, zcpy, -List.getElem?_cons_succ, zg_0, zg_1, zg_2, zg_3, zg_4, zg_5, zg_6, zg_7, zg_8, zg_9, lwL]
  | 7, _ => simp [zf_Laws_countLetters, zsw, pkC7, zmeth, xm_en, zret, zretz, zretv, zseq, zst, zinc, zkl, zskip, zk, zi, za, zbin, zdiv, zrem, zgi, zgr, zld, zldr, zlen, zn, zc, zcall, zcallv, zrcv, zdo, zdov, zpf, zpfc, zas, zasc, zmin, zmax, zcmp, zcz, zand_e, zor_e, zite_e, zbite_e, zif_e, znot_e, z_add, z_sub, z_mul, z_and, z_or, z_xor, z_shl, z_shr, zcpy, -List.getElem?_cons_succ, zg_0, zg_1, zg_2, zg_3, zg_4, zg_5, zg_6, zg_7, zg_8, zg_9, lwL]
  | 8, _ => simp [zf_Laws_countLetters, zsw, pkC8, zmeth, xm_en, zret, zretz, zretv, zseq, zst, zinc, zkl, zskip, zk, zi, za, zbin, zdiv, zrem, zgi, zgr, zld, zldr, zlen, zn, zc, zcall, zcallv, zrcv, zdo, zdov, zpf, zpfc, zas, zasc, zmin, zmax, zcmp, zcz, zand_e, zor_e, zite_e, zbite_e, zif_e, znot_e, z_add, z_sub, z_mul, z_and, z_or, z_xor, z_shl, z_shr, zcpy, -List.getElem?_cons_succ, zg_0, zg_1, zg_2, zg_3, zg_4, zg_5, zg_6, zg_7, zg_8, zg_9, lwL]
  | 9, _ => simp [zf_Laws_countLetters, zsw, pkC9, zmeth, xm_en, zret, zretz, zretv, zseq, zst, zinc, zkl, zskip, zk, zi, za, zbin, zdiv, zrem, zgi, zgr, zld, zldr, zlen, zn, zc, zcall, zcallv, zrcv, zdo, zdov, zpf, zpfc, zas, zasc, zmin, zmax, zcmp, zcz, zand_e, zor_e, zite_e, zbite_e, zif_e, znot_e, z_add, z_sub, z_mul, z_and, z_or, z_xor, z_shl, z_shr, zcpy, -List.getElem?_cons_succ, zg_0, zg_1, zg_2, zg_3, zg_4, zg_5, zg_6, zg_7, zg_8, zg_9, lwL]
  | 10, _ => simp [zf_Laws_countLetters, zsw, pkC10, zmeth, xm_en, zret, zretz, zretv, zseq, zst, zinc, zkl, zskip, zk, zi, za, zbin, zdiv, zrem, zgi, zgr, zld, zldr, zlen, zn, zc, zcall, zcallv, zrcv, zdo, zdov, zpf, zpfc, zas, zasc, zmin, zmax, zcmp, zcz, zand_e, zor_e, zite_e, zbite_e, zif_e, znot_e, z_add, z_sub, z_mul, z_and, z_or, z_xor, z_shl, z_shr, zcpy, -List.getElem?_cons_succ, zg_0, zg_1, zg_2, zg_3, zg_4, zg_5, zg_6, zg_7, zg_8, zg_9, lwL]
  | 11, _ => simp [zf_Laws_countLetters, zsw, pkC11, zmeth, xm_en, zret, zretz, zretv, zseq, zst, zinc, zkl, zskip, zk, zi, za, zbin, zdiv, zrem, zgi, zgr, zld, zldr, zlen, zn, zc, zcall, zcallv, zrcv, zdo, zdov, zpf, zpfc, zas, zasc, zmin, zmax, zcmp, zcz, zand_e, zor_e, zite_e, zbite_e, zif_e, znot_e, z_add, z_sub, z_mul, z_and, z_or, z_xor, z_shl, z_shr, zcpy, -List.getElem?_cons_succ, zg_0, zg_1, zg_2, zg_3, zg_4, zg_5, zg_6, zg_7, zg_8, zg_9, lwL]
  | 12, _ => simp [zf_Laws_countLetters, zsw, pkC12, zmeth, xm_en, zret, zretz, zretv, zseq, zst, zinc, zkl, zskip, zk, zi, za, zbin, zdiv, zrem, zgi, zgr, zld, zldr, zlen, zn, zc, zcall, zcallv, zrcv, zdo, zdov, zpf, zpfc, zas, zasc, zmin, zmax, zcmp, zcz, zand_e, zor_e, zite_e, zbite_e, zif_e, znot_e, z_add, z_sub, z_mul, z_and, z_or, z_xor, z_shl, z_shr, zcpy, -List.getElem?_cons_succ, zg_0, zg_1, zg_2, zg_3, zg_4, zg_5, zg_6, zg_7, zg_8, zg_9, lwL]
theorem qW_lm {M : zM} {w : Nat} (hw : w < 13) : zf_M_letters [.int (nI w)] M = some (some (nI (lwL w)), M) := by
  match w, hw with
  | 0, _ => simp (disch := omega) [zf_M_letters, qM_in, zmeth, xm_en, zret, zretz, zretv, zseq, zst, zinc, zkl, zskip, zk, zi, za, zbin, zdiv, zrem, zgi, zgr, zld, zldr, zlen, zn, zc, zcall, zcallv, zrcv, zdo, zdov, zpf, zpfc, zas, zasc, zmin, zmax, zcmp, zcz, zand_e, zor_e, zite_e, zbite_e, zif_e, znot_e, z_add, z_sub, z_mul, z_and, z_or, z_xor, z_shl, z_shr, zcpy, -List.getElem?_cons_succ, zg_0, zg_1, zg_2, zg_3, zg_4, zg_5, zg_6, zg_7, zg_8, zg_9, zc_lt, zc_le, zc_gt, zc_ge, zc_eq, zc_ne, zc_lt0, zc_ge0, zc_gt0, zc_eq0, zc_ne0, zb_ne, zb_eq, zb_01, z_00, z_01, z_11, zb_f, zb_T, zb_F, zbm1, zbm2, zbm5, zbm6, zbm3, zbm4, nI_clamp, zmod_n, pk_div, nI_ne0, pk_mul, nI_add, nI_1, lwL]
  | 1, _ => simp (disch := omega) [zf_M_letters, qM_in, zmeth, xm_en, zret, zretz, zretv, zseq, zst, zinc, zkl, zskip, zk, zi, za, zbin, zdiv, zrem, zgi, zgr, zld, zldr, zlen, zn, zc, zcall, zcallv, zrcv, zdo, zdov, zpf, zpfc, zas, zasc, zmin, zmax, zcmp, zcz, zand_e, zor_e, zite_e, zbite_e, zif_e, znot_e, z_add, z_sub, z_mul, z_and, z_or, z_xor, z_shl, z_shr, zcpy, -List.getElem?_cons_succ, zg_0, zg_1, zg_2, zg_3, zg_4, zg_5, zg_6, zg_7, zg_8, zg_9, zc_lt, zc_le, zc_gt, zc_ge, zc_eq, zc_ne, zc_lt0, zc_ge0, zc_gt0, zc_eq0, zc_ne0, zb_ne, zb_eq, zb_01, z_00, z_01, z_11, zb_f, zb_T, zb_F, zbm1, zbm2, zbm5, zbm6, zbm3, zbm4, nI_clamp, zmod_n, pk_div, nI_ne0, pk_mul, nI_add, nI_1, lwL]
  | 2, _ => simp (disch := omega) [zf_M_letters, qM_in, zmeth, xm_en, zret, zretz, zretv, zseq, zst, zinc, zkl, zskip, zk, zi, za, zbin, zdiv, zrem, zgi, zgr, zld, zldr, zlen, zn, zc, zcall, zcallv, zrcv, zdo, zdov, zpf, zpfc, zas, zasc, zmin, zmax, zcmp, zcz, zand_e, zor_e, zite_e, zbite_e, zif_e, znot_e, z_add, z_sub, z_mul, z_and, z_or, z_xor, z_shl, z_shr, zcpy, -List.getElem?_cons_succ, zg_0, zg_1, zg_2, zg_3, zg_4, zg_5, zg_6, zg_7, zg_8, zg_9, zc_lt, zc_le, zc_gt, zc_ge, zc_eq, zc_ne, zc_lt0, zc_ge0, zc_gt0, zc_eq0, zc_ne0, zb_ne, zb_eq, zb_01, z_00, z_01, z_11, zb_f, zb_T, zb_F, zbm1, zbm2, zbm5, zbm6, zbm3, zbm4, nI_clamp, zmod_n, pk_div, nI_ne0, pk_mul, nI_add, nI_1, lwL]
  | 3, _ => simp (disch := omega) [zf_M_letters, qM_in, zmeth, xm_en, zret, zretz, zretv, zseq, zst, zinc, zkl, zskip, zk, zi, za, zbin, zdiv, zrem, zgi, zgr, zld, zldr, zlen, zn, zc, zcall, zcallv, zrcv, zdo, zdov, zpf, zpfc, zas, zasc, zmin, zmax, zcmp, zcz, zand_e, zor_e, zite_e, zbite_e, zif_e, znot_e, z_add, z_sub, z_mul, z_and, z_or, z_xor, z_shl, z_shr, zcpy, -List.getElem?_cons_succ, zg_0, zg_1, zg_2, zg_3, zg_4, zg_5, zg_6, zg_7, zg_8, zg_9, zc_lt, zc_le, zc_gt, zc_ge, zc_eq, zc_ne, zc_lt0, zc_ge0, zc_gt0, zc_eq0, zc_ne0, zb_ne, zb_eq, zb_01, z_00, z_01, z_11, zb_f, zb_T, zb_F, zbm1, zbm2, zbm5, zbm6, zbm3, zbm4, nI_clamp, zmod_n, pk_div, nI_ne0, pk_mul, nI_add, nI_1, lwL]
  | 4, _ => simp (disch := omega) [zf_M_letters, qM_in, zmeth, xm_en, zret, zretz, zretv, zseq, zst, zinc, zkl, zskip, zk, zi, za, zbin, zdiv, zrem, zgi, zgr, zld, zldr, zlen, zn, zc, zcall, zcallv, zrcv, zdo, zdov, zpf, zpfc, zas, zasc, zmin, zmax, zcmp, zcz, zand_e, zor_e, zite_e, zbite_e, zif_e, znot_e, z_add, z_sub, z_mul, z_and, z_or, z_xor, z_shl, z_shr, zcpy, -List.getElem?_cons_succ, zg_0, zg_1, zg_2, zg_3, zg_4, zg_5, zg_6, zg_7, zg_8, zg_9, zc_lt, zc_le, zc_gt, zc_ge, zc_eq, zc_ne, zc_lt0, zc_ge0, zc_gt0, zc_eq0, zc_ne0, zb_ne, zb_eq, zb_01, z_00, z_01, z_11, zb_f, zb_T, zb_F, zbm1, zbm2, zbm5, zbm6, zbm3, zbm4, nI_clamp, zmod_n, pk_div, nI_ne0, pk_mul, nI_add, nI_1, lwL]
  | 5, _ => simp (disch := omega) [zf_M_letters, qM_in, zmeth, xm_en, zret, zretz, zretv, zseq, zst, zinc, zkl, zskip, zk, zi, za, zbin, zdiv, zrem, zgi, zgr, zld, zldr, zlen, zn, zc, zcall, zcallv, zrcv, zdo, zdov, zpf, zpfc, zas, zasc, zmin, zmax, zcmp, zcz, zand_e, zor_e, zite_e, zbite_e, zif_e, znot_e, z_add, z_sub, z_mul, z_and, z_or, z_xor, z_shl, z_shr, zcpy, -List.getElem?_cons_succ, zg_0, zg_1, zg_2, zg_3, zg_4, zg_5, zg_6, zg_7, zg_8, zg_9, zc_lt, zc_le, zc_gt, zc_ge, zc_eq, zc_ne, zc_lt0, zc_ge0, zc_gt0, zc_eq0, zc_ne0, zb_ne, zb_eq, zb_01, z_00, z_01, z_11, zb_f, zb_T, zb_F, zbm1, zbm2, zbm5, zbm6, zbm3, zbm4, nI_clamp, zmod_n, pk_div, nI_ne0, pk_mul, nI_add, nI_1, lwL]
  | 6, _ => simp (disch := omega) [zf_M_letters, qM_in, zmeth, xm_en, zret, zretz, zretv, zseq, zst, zinc, zkl, zskip, zk, zi, za, zbin, zdiv, zrem, zgi, zgr, zld, zldr, zlen, zn, zc, zcall, zcallv, zrcv, zdo, zdov, zpf, zpfc, zas, zasc, zmin, zmax, zcmp, zcz, zand_e, zor_e, zite_e, zbite_e, zif_e, znot_e, z_add, z_sub, z_mul, z_and, z_or, z_xor, z_shl, z_shr, zcpy, -List.getElem?_cons_succ, zg_0, zg_1, zg_2, zg_3, zg_4, zg_5, zg_6, zg_7, zg_8, zg_9, zc_lt, zc_le, zc_gt, zc_ge, zc_eq, zc_ne, zc_lt0, zc_ge0, zc_gt0, zc_eq0, zc_ne0, zb_ne, zb_eq, zb_01, z_00, z_01, z_11, zb_f, zb_T, zb_F, zbm1, zbm2, zbm5, zbm6, zbm3, zbm4, nI_clamp, zmod_n, pk_div, nI_ne0, pk_mul, nI_add, nI_1, lwL]
  | 7, _ => simp (disch := omega) [zf_M_letters, qM_in, zmeth, xm_en, zret, zretz, zretv, zseq, zst, zinc, zkl, zskip, zk, zi, za, zbin, zdiv, zrem, zgi, zgr, zld, zldr, zlen, zn, zc, zcall, zcallv, zrcv, zdo, zdov, zpf, zpfc, zas, zasc, zmin, zmax, zcmp, zcz, zand_e, zor_e, zite_e, zbite_e, zif_e, znot_e, z_add, z_sub, z_mul, z_and, z_or, z_xor, z_shl, z_shr, zcpy, -List.getElem?_cons_succ, zg_0, zg_1, zg_2, zg_3, zg_4, zg_5, zg_6, zg_7, zg_8, zg_9, zc_lt, zc_le, zc_gt, zc_ge, zc_eq, zc_ne, zc_lt0, zc_ge0, zc_gt0, zc_eq0, zc_ne0, zb_ne, zb_eq, zb_01, z_00, z_01, z_11, zb_f, zb_T, zb_F, zbm1, zbm2, zbm5, zbm6, zbm3, zbm4, nI_clamp, zmod_n, pk_div, nI_ne0, pk_mul, nI_add, nI_1, lwL]
  | 8, _ => simp (disch := omega) [zf_M_letters, qM_in, zmeth, xm_en, zret, zretz, zretv, zseq, zst, zinc, zkl, zskip, zk, zi, za, zbin, zdiv, zrem, zgi, zgr, zld, zldr, zlen, zn, zc, zcall, zcallv, zrcv, zdo, zdov, zpf, zpfc, zas, zasc, zmin, zmax, zcmp, zcz, zand_e, zor_e, zite_e, zbite_e, zif_e, znot_e, z_add, z_sub, z_mul, z_and, z_or, z_xor, z_shl, z_shr, zcpy, -List.getElem?_cons_succ, zg_0, zg_1, zg_2, zg_3, zg_4, zg_5, zg_6, zg_7, zg_8, zg_9, zc_lt, zc_le, zc_gt, zc_ge, zc_eq, zc_ne, zc_lt0, zc_ge0, zc_gt0, zc_eq0, zc_ne0, zb_ne, zb_eq, zb_01, z_00, z_01, z_11, zb_f, zb_T, zb_F, zbm1, zbm2, zbm5, zbm6, zbm3, zbm4, nI_clamp, zmod_n, pk_div, nI_ne0, pk_mul, nI_add, nI_1, lwL]
  | 9, _ => simp (disch := omega) [zf_M_letters, qM_in, zmeth, xm_en, zret, zretz, zretv, zseq, zst, zinc, zkl, zskip, zk, zi, za, zbin, zdiv, zrem, zgi, zgr, zld, zldr, zlen, zn, zc, zcall, zcallv, zrcv, zdo, zdov, zpf, zpfc, zas, zasc, zmin, zmax, zcmp, zcz, zand_e, zor_e, zite_e, zbite_e, zif_e, znot_e, z_add, z_sub, z_mul, z_and, z_or, z_xor, z_shl, z_shr, zcpy, -List.getElem?_cons_succ, zg_0, zg_1, zg_2, zg_3, zg_4, zg_5, zg_6, zg_7, zg_8, zg_9, zc_lt, zc_le, zc_gt, zc_ge, zc_eq, zc_ne, zc_lt0, zc_ge0, zc_gt0, zc_eq0, zc_ne0, zb_ne, zb_eq, zb_01, z_00, z_01, z_11, zb_f, zb_T, zb_F, zbm1, zbm2, zbm5, zbm6, zbm3, zbm4, nI_clamp, zmod_n, pk_div, nI_ne0, pk_mul, nI_add, nI_1, lwL]
  | 10, _ => simp (disch := omega) [zf_M_letters, qM_in, zmeth, xm_en, zret, zretz, zretv, zseq, zst, zinc, zkl, zskip, zk, zi, za, zbin, zdiv, zrem, zgi, zgr, zld, zldr, zlen, zn, zc, zcall, zcallv, zrcv, zdo, zdov, zpf, zpfc, zas, zasc, zmin, zmax, zcmp, zcz, zand_e, zor_e, zite_e, zbite_e, zif_e, znot_e, z_add, z_sub, z_mul, z_and, z_or, z_xor, z_shl, z_shr, zcpy, -List.getElem?_cons_succ, zg_0, zg_1, zg_2, zg_3, zg_4, zg_5, zg_6, zg_7, zg_8, zg_9, zc_lt, zc_le, zc_gt, zc_ge, zc_eq, zc_ne, zc_lt0, zc_ge0, zc_gt0, zc_eq0, zc_ne0, zb_ne, zb_eq, zb_01, z_00, z_01, z_11, zb_f, zb_T, zb_F, zbm1, zbm2, zbm5, zbm6, zbm3, zbm4, nI_clamp, zmod_n, pk_div, nI_ne0, pk_mul, nI_add, nI_1, lwL]
  | 11, _ => simp (disch := omega) [zf_M_letters, qM_in, zmeth, xm_en, zret, zretz, zretv, zseq, zst, zinc, zkl, zskip, zk, zi, za, zbin, zdiv, zrem, zgi, zgr, zld, zldr, zlen, zn, zc, zcall, zcallv, zrcv, zdo, zdov, zpf, zpfc, zas, zasc, zmin, zmax, zcmp, zcz, zand_e, zor_e, zite_e, zbite_e, zif_e, znot_e, z_add, z_sub, z_mul, z_and, z_or, z_xor, z_shl, z_shr, zcpy, -List.getElem?_cons_succ, zg_0, zg_1, zg_2, zg_3, zg_4, zg_5, zg_6, zg_7, zg_8, zg_9, zc_lt, zc_le, zc_gt, zc_ge, zc_eq, zc_ne, zc_lt0, zc_ge0, zc_gt0, zc_eq0, zc_ne0, zb_ne, zb_eq, zb_01, z_00, z_01, z_11, zb_f, zb_T, zb_F, zbm1, zbm2, zbm5, zbm6, zbm3, zbm4, nI_clamp, zmod_n, pk_div, nI_ne0, pk_mul, nI_add, nI_1, lwL]
  | 12, _ => simp (disch := omega) [zf_M_letters, qM_in, zmeth, xm_en, zret, zretz, zretv, zseq, zst, zinc, zkl, zskip, zk, zi, za, zbin, zdiv, zrem, zgi, zgr, zld, zldr, zlen, zn, zc, zcall, zcallv, zrcv, zdo, zdov, zpf, zpfc, zas, zasc, zmin, zmax, zcmp, zcz, zand_e, zor_e, zite_e, zbite_e, zif_e, znot_e, z_add, z_sub, z_mul, z_and, z_or, z_xor, z_shl, z_shr, zcpy, -List.getElem?_cons_succ, zg_0, zg_1, zg_2, zg_3, zg_4, zg_5, zg_6, zg_7, zg_8, zg_9, zc_lt, zc_le, zc_gt, zc_ge, zc_eq, zc_ne, zc_lt0, zc_ge0, zc_gt0, zc_eq0, zc_ne0, zb_ne, zb_eq, zb_01, z_00, z_01, z_11, zb_f, zb_T, zb_F, zbm1, zbm2, zbm5, zbm6, zbm3, zbm4, nI_clamp, zmod_n, pk_div, nI_ne0, pk_mul, nI_add, nI_1, lwL]
