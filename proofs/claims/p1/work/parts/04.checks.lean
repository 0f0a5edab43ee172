theorem xm_mall : ∀ y, y < xm_N - 1 → xm_mchk y = true := sorry
theorem xm_kall : ∀ y, y < xm_N → (xm_rw y).all (xm_ochk y) = true := sorry
