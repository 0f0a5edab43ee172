/-! every row decodes as it says, every link stands in the tables: by program -/
set_option maxRecDepth 100000 in
theorem xm_k0 : (xm_rw 0).all (xm_ochk 0) = true := xm_allF rfl (by decide +kernel)
set_option maxRecDepth 100000 in
theorem xm_k1 : (xm_rw 1).all (xm_ochk 1) = true := xm_allF rfl (by decide +kernel)
set_option maxRecDepth 100000 in
theorem xm_k2 : (xm_rw 2).all (xm_ochk 2) = true := xm_allF rfl (by decide +kernel)
set_option maxRecDepth 100000 in
theorem xm_k3 : (xm_rw 3).all (xm_ochk 3) = true := xm_allF rfl (by decide +kernel)
set_option maxRecDepth 100000 in
theorem xm_k4 : (xm_rw 4).all (xm_ochk 4) = true := xm_allF rfl (by decide +kernel)
set_option maxRecDepth 100000 in
theorem xm_k5 : (xm_rw 5).all (xm_ochk 5) = true := xm_allF rfl (by decide +kernel)
set_option maxRecDepth 100000 in
theorem xm_k6 : (xm_rw 6).all (xm_ochk 6) = true := xm_allF rfl (by decide +kernel)
set_option maxRecDepth 100000 in
theorem xm_k7 : (xm_rw 7).all (xm_ochk 7) = true := xm_allF rfl (by decide +kernel)
set_option maxRecDepth 100000 in
theorem xm_k8 : (xm_rw 8).all (xm_ochk 8) = true := xm_allF rfl (by decide +kernel)
set_option maxRecDepth 100000 in
theorem xm_k9 : (xm_rw 9).all (xm_ochk 9) = true := xm_allF rfl (by decide +kernel)
set_option maxRecDepth 100000 in
theorem xm_k10 : (xm_rw 10).all (xm_ochk 10) = true := xm_allF rfl (by decide +kernel)
set_option maxRecDepth 100000 in
theorem xm_k11 : (xm_rw 11).all (xm_ochk 11) = true := xm_allF rfl (by decide +kernel)
set_option maxRecDepth 100000 in
theorem xm_k12 : (xm_rw 12).all (xm_ochk 12) = true := xm_allF rfl (by decide +kernel)
set_option maxRecDepth 100000 in
theorem xm_k13 : (xm_rw 13).all (xm_ochk 13) = true := xm_allF rfl (by decide +kernel)
set_option maxRecDepth 100000 in
theorem xm_k14 : (xm_rw 14).all (xm_ochk 14) = true := xm_allF rfl (by decide +kernel)
set_option maxRecDepth 100000 in
theorem xm_k15 : (xm_rw 15).all (xm_ochk 15) = true := xm_allF rfl (by decide +kernel)
set_option maxRecDepth 100000 in
theorem xm_k16 : (xm_rw 16).all (xm_ochk 16) = true := xm_allF rfl (by decide +kernel)
set_option maxRecDepth 100000 in
theorem xm_k17 : (xm_rw 17).all (xm_ochk 17) = true := xm_allF rfl (by decide +kernel)
set_option maxRecDepth 100000 in
theorem xm_k18 : (xm_rw 18).all (xm_ochk 18) = true := xm_allF rfl (by decide +kernel)
set_option maxRecDepth 100000 in
theorem xm_k19 : (xm_rw 19).all (xm_ochk 19) = true := xm_allF rfl (by decide +kernel)
set_option maxRecDepth 100000 in
theorem xm_k20 : (xm_rw 20).all (xm_ochk 20) = true := xm_allF rfl (by decide +kernel)
set_option maxRecDepth 100000 in
theorem xm_k21 : (xm_rw 21).all (xm_ochk 21) = true := xm_allF rfl (by decide +kernel)
set_option maxRecDepth 100000 in
theorem xm_k22 : (xm_rw 22).all (xm_ochk 22) = true := xm_allF rfl (by decide +kernel)
set_option maxRecDepth 100000 in
theorem xm_k23 : (xm_rw 23).all (xm_ochk 23) = true := xm_allF rfl (by decide +kernel)
set_option maxRecDepth 100000 in
theorem xm_k24 : (xm_rw 24).all (xm_ochk 24) = true := xm_allF rfl (by decide +kernel)
set_option maxRecDepth 100000 in
theorem xm_k25 : (xm_rw 25).all (xm_ochk 25) = true := xm_allF rfl (by decide +kernel)
set_option maxRecDepth 100000 in
theorem xm_k26 : (xm_rw 26).all (xm_ochk 26) = true := xm_allF rfl (by decide +kernel)
set_option maxRecDepth 100000 in
theorem xm_k27 : (xm_rw 27).all (xm_ochk 27) = true := xm_allF rfl (by decide +kernel)
set_option maxRecDepth 100000 in
theorem xm_k28 : (xm_rw 28).all (xm_ochk 28) = true := xm_allF rfl (by decide +kernel)
set_option maxRecDepth 100000 in
theorem xm_k29 : (xm_rw 29).all (xm_ochk 29) = true := xm_allF rfl (by decide +kernel)
set_option maxRecDepth 100000 in
theorem xm_k30 : (xm_rw 30).all (xm_ochk 30) = true := xm_allF rfl (by decide +kernel)
set_option maxRecDepth 100000 in
theorem xm_k31 : (xm_rw 31).all (xm_ochk 31) = true := xm_allF rfl (by decide +kernel)
set_option maxRecDepth 100000 in
theorem xm_k32 : (xm_rw 32).all (xm_ochk 32) = true := xm_allF rfl (by decide +kernel)
set_option maxRecDepth 100000 in
theorem xm_k33 : (xm_rw 33).all (xm_ochk 33) = true := xm_allF rfl (by decide +kernel)
set_option maxRecDepth 100000 in
theorem xm_k34 : (xm_rw 34).all (xm_ochk 34) = true := xm_allF rfl (by decide +kernel)
set_option maxRecDepth 100000 in
theorem xm_k35 : (xm_rw 35).all (xm_ochk 35) = true := xm_allF rfl (by decide +kernel)
set_option maxRecDepth 100000 in
theorem xm_k36 : (xm_rw 36).all (xm_ochk 36) = true := xm_allF rfl (by decide +kernel)
set_option maxRecDepth 100000 in
theorem xm_k37 : (xm_rw 37).all (xm_ochk 37) = true := xm_allF rfl (by decide +kernel)
set_option maxRecDepth 100000 in
theorem xm_k38 : (xm_rw 38).all (xm_ochk 38) = true := xm_allF rfl (by decide +kernel)
