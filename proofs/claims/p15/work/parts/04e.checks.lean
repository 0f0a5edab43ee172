/-! every row decodes as it says, every link stands in the tables: by program -/
set_option maxRecDepth 100000 in
theorem xm_k100 : (xm_rw 100).all (xm_ochk 100) = true := xm_allF rfl (by decide +kernel)
set_option maxRecDepth 100000 in
theorem xm_k101 : (xm_rw 101).all (xm_ochk 101) = true := xm_allF rfl (by decide +kernel)
set_option maxRecDepth 100000 in
theorem xm_k102 : (xm_rw 102).all (xm_ochk 102) = true := xm_allF rfl (by decide +kernel)
set_option maxRecDepth 100000 in
theorem xm_k103 : (xm_rw 103).all (xm_ochk 103) = true := xm_allF rfl (by decide +kernel)
set_option maxRecDepth 100000 in
theorem xm_k104 : (xm_rw 104).all (xm_ochk 104) = true := xm_allF rfl (by decide +kernel)
set_option maxRecDepth 100000 in
theorem xm_k105 : (xm_rw 105).all (xm_ochk 105) = true := xm_allF rfl (by decide +kernel)
set_option maxRecDepth 100000 in
theorem xm_k106 : (xm_rw 106).all (xm_ochk 106) = true := xm_allF rfl (by decide +kernel)
set_option maxRecDepth 100000 in
theorem xm_k107 : (xm_rw 107).all (xm_ochk 107) = true := xm_allF rfl (by decide +kernel)
set_option maxRecDepth 100000 in
theorem xm_k108 : (xm_rw 108).all (xm_ochk 108) = true := xm_allF rfl (by decide +kernel)
set_option maxRecDepth 100000 in
theorem xm_k109 : (xm_rw 109).all (xm_ochk 109) = true := xm_allF rfl (by decide +kernel)
set_option maxRecDepth 100000 in
theorem xm_k110 : (xm_rw 110).all (xm_ochk 110) = true := xm_allF rfl (by decide +kernel)
set_option maxRecDepth 100000 in
theorem xm_k111 : (xm_rw 111).all (xm_ochk 111) = true := xm_allF rfl (by decide +kernel)
set_option maxRecDepth 100000 in
theorem xm_k112 : (xm_rw 112).all (xm_ochk 112) = true := xm_allF rfl (by decide +kernel)
set_option maxRecDepth 100000 in
theorem xm_k113 : (xm_rw 113).all (xm_ochk 113) = true := xm_allF rfl (by decide +kernel)
set_option maxRecDepth 100000 in
theorem xm_k114 : (xm_rw 114).all (xm_ochk 114) = true := xm_allF rfl (by decide +kernel)
set_option maxRecDepth 100000 in
theorem xm_k115 : (xm_rw 115).all (xm_ochk 115) = true := xm_allF rfl (by decide +kernel)
set_option maxRecDepth 100000 in
theorem xm_k116 : (xm_rw 116).all (xm_ochk 116) = true := xm_allF rfl (by decide +kernel)
set_option maxRecDepth 100000 in
theorem xm_k117 : (xm_rw 117).all (xm_ochk 117) = true := xm_allF rfl (by decide +kernel)
