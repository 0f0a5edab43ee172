/-! every row decodes as it says, every link stands in the tables: by program -/
set_option maxRecDepth 100000 in
theorem xm_k87 : (xm_rw 87).all (xm_ochk 87) = true := xm_allF rfl (by decide +kernel)
set_option maxRecDepth 100000 in
theorem xm_k88 : (xm_rw 88).all (xm_ochk 88) = true := xm_allF rfl (by decide +kernel)
set_option maxRecDepth 100000 in
theorem xm_k89 : (xm_rw 89).all (xm_ochk 89) = true := xm_allF rfl (by decide +kernel)
set_option maxRecDepth 100000 in
theorem xm_k90 : (xm_rw 90).all (xm_ochk 90) = true := xm_allF rfl (by decide +kernel)
set_option maxRecDepth 100000 in
theorem xm_k91 : (xm_rw 91).all (xm_ochk 91) = true := xm_allF rfl (by decide +kernel)
set_option maxRecDepth 100000 in
theorem xm_k92 : (xm_rw 92).all (xm_ochk 92) = true := xm_allF rfl (by decide +kernel)
set_option maxRecDepth 100000 in
theorem xm_k93 : (xm_rw 93).all (xm_ochk 93) = true := xm_allF rfl (by decide +kernel)
set_option maxRecDepth 100000 in
theorem xm_k94 : (xm_rw 94).all (xm_ochk 94) = true := xm_allF rfl (by decide +kernel)
set_option maxRecDepth 100000 in
theorem xm_k95 : (xm_rw 95).all (xm_ochk 95) = true := xm_allF rfl (by decide +kernel)
set_option maxRecDepth 100000 in
theorem xm_k96 : (xm_rw 96).all (xm_ochk 96) = true := xm_allF rfl (by decide +kernel)
set_option maxRecDepth 100000 in
theorem xm_k97 : (xm_rw 97).all (xm_ochk 97) = true := xm_allF rfl (by decide +kernel)
set_option maxRecDepth 100000 in
theorem xm_k98 : (xm_rw 98).all (xm_ochk 98) = true := xm_allF rfl (by decide +kernel)
set_option maxRecDepth 100000 in
theorem xm_k99 : (xm_rw 99).all (xm_ochk 99) = true := xm_allF rfl (by decide +kernel)
