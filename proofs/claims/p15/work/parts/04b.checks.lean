/-! every row decodes as it says, every link stands in the tables: by program -/
set_option maxRecDepth 100000 in
theorem xm_k39 : (xm_rw 39).all (xm_ochk 39) = true := xm_allF rfl (by decide +kernel)
set_option maxRecDepth 100000 in
theorem xm_k40 : (xm_rw 40).all (xm_ochk 40) = true := xm_allF rfl (by decide +kernel)
set_option maxRecDepth 100000 in
theorem xm_k41 : (xm_rw 41).all (xm_ochk 41) = true := xm_allF rfl (by decide +kernel)
set_option maxRecDepth 100000 in
theorem xm_k42 : (xm_rw 42).all (xm_ochk 42) = true := xm_allF rfl (by decide +kernel)
set_option maxRecDepth 100000 in
theorem xm_k43 : (xm_rw 43).all (xm_ochk 43) = true := xm_allF rfl (by decide +kernel)
set_option maxRecDepth 100000 in
theorem xm_k44 : (xm_rw 44).all (xm_ochk 44) = true := xm_allF rfl (by decide +kernel)
set_option maxRecDepth 100000 in
theorem xm_k45 : (xm_rw 45).all (xm_ochk 45) = true := xm_allF rfl (by decide +kernel)
set_option maxRecDepth 100000 in
theorem xm_k46 : (xm_rw 46).all (xm_ochk 46) = true := xm_allF rfl (by decide +kernel)
set_option maxRecDepth 100000 in
theorem xm_k47 : (xm_rw 47).all (xm_ochk 47) = true := xm_allF rfl (by decide +kernel)
set_option maxRecDepth 100000 in
theorem xm_k48 : (xm_rw 48).all (xm_ochk 48) = true := xm_allF rfl (by decide +kernel)
set_option maxRecDepth 100000 in
theorem xm_k49 : (xm_rw 49).all (xm_ochk 49) = true := xm_allF rfl (by decide +kernel)
set_option maxRecDepth 100000 in
theorem xm_k50 : (xm_rw 50).all (xm_ochk 50) = true := xm_allF rfl (by decide +kernel)
set_option maxRecDepth 100000 in
theorem xm_k51 : (xm_rw 51).all (xm_ochk 51) = true := xm_allF rfl (by decide +kernel)
set_option maxRecDepth 100000 in
theorem xm_k52 : (xm_rw 52).all (xm_ochk 52) = true := xm_allF rfl (by decide +kernel)
set_option maxRecDepth 100000 in
theorem xm_k53 : (xm_rw 53).all (xm_ochk 53) = true := xm_allF rfl (by decide +kernel)
set_option maxRecDepth 100000 in
theorem xm_k54 : (xm_rw 54).all (xm_ochk 54) = true := xm_allF rfl (by decide +kernel)
set_option maxRecDepth 100000 in
theorem xm_k55 : (xm_rw 55).all (xm_ochk 55) = true := xm_allF rfl (by decide +kernel)
set_option maxRecDepth 100000 in
theorem xm_k56 : (xm_rw 56).all (xm_ochk 56) = true := xm_allF rfl (by decide +kernel)
set_option maxRecDepth 100000 in
theorem xm_k57 : (xm_rw 57).all (xm_ochk 57) = true := xm_allF rfl (by decide +kernel)
set_option maxRecDepth 100000 in
theorem xm_k58 : (xm_rw 58).all (xm_ochk 58) = true := xm_allF rfl (by decide +kernel)
set_option maxRecDepth 100000 in
theorem xm_k59 : (xm_rw 59).all (xm_ochk 59) = true := xm_allF rfl (by decide +kernel)
set_option maxRecDepth 100000 in
theorem xm_k60 : (xm_rw 60).all (xm_ochk 60) = true := xm_allF rfl (by decide +kernel)
set_option maxRecDepth 100000 in
theorem xm_k61 : (xm_rw 61).all (xm_ochk 61) = true := xm_allF rfl (by decide +kernel)
set_option maxRecDepth 100000 in
theorem xm_k62 : (xm_rw 62).all (xm_ochk 62) = true := xm_allF rfl (by decide +kernel)
set_option maxRecDepth 100000 in
theorem xm_k63 : (xm_rw 63).all (xm_ochk 63) = true := xm_allF rfl (by decide +kernel)
set_option maxRecDepth 100000 in
theorem xm_k64 : (xm_rw 64).all (xm_ochk 64) = true := xm_allF rfl (by decide +kernel)
set_option maxRecDepth 100000 in
theorem xm_k65 : (xm_rw 65).all (xm_ochk 65) = true := xm_allF rfl (by decide +kernel)
set_option maxRecDepth 100000 in
theorem xm_k66 : (xm_rw 66).all (xm_ochk 66) = true := xm_allF rfl (by decide +kernel)
