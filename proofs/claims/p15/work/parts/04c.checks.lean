/-! every row decodes as it says, every link stands in the tables: by program -/
set_option maxRecDepth 100000 in
theorem xm_k67 : (xm_rw 67).all (xm_ochk 67) = true := xm_allF rfl (by decide +kernel)
set_option maxRecDepth 100000 in
theorem xm_k68 : (xm_rw 68).all (xm_ochk 68) = true := xm_allF rfl (by decide +kernel)
set_option maxRecDepth 100000 in
theorem xm_k69 : (xm_rw 69).all (xm_ochk 69) = true := xm_allF rfl (by decide +kernel)
set_option maxRecDepth 100000 in
theorem xm_k70 : (xm_rw 70).all (xm_ochk 70) = true := xm_allF rfl (by decide +kernel)
set_option maxRecDepth 100000 in
theorem xm_k71 : (xm_rw 71).all (xm_ochk 71) = true := xm_allF rfl (by decide +kernel)
set_option maxRecDepth 100000 in
theorem xm_k72 : (xm_rw 72).all (xm_ochk 72) = true := xm_allF rfl (by decide +kernel)
set_option maxRecDepth 100000 in
theorem xm_k73 : (xm_rw 73).all (xm_ochk 73) = true := xm_allF rfl (by decide +kernel)
set_option maxRecDepth 100000 in
theorem xm_k74 : (xm_rw 74).all (xm_ochk 74) = true := xm_allF rfl (by decide +kernel)
set_option maxRecDepth 100000 in
theorem xm_k75 : (xm_rw 75).all (xm_ochk 75) = true := xm_allF rfl (by decide +kernel)
set_option maxRecDepth 100000 in
theorem xm_k76 : (xm_rw 76).all (xm_ochk 76) = true := xm_allF rfl (by decide +kernel)
set_option maxRecDepth 100000 in
theorem xm_k77 : (xm_rw 77).all (xm_ochk 77) = true := xm_allF rfl (by decide +kernel)
set_option maxRecDepth 100000 in
theorem xm_k78 : (xm_rw 78).all (xm_ochk 78) = true := xm_allF rfl (by decide +kernel)
set_option maxRecDepth 100000 in
theorem xm_k79 : (xm_rw 79).all (xm_ochk 79) = true := xm_allF rfl (by decide +kernel)
set_option maxRecDepth 100000 in
theorem xm_k80 : (xm_rw 80).all (xm_ochk 80) = true := xm_allF rfl (by decide +kernel)
set_option maxRecDepth 100000 in
theorem xm_k81 : (xm_rw 81).all (xm_ochk 81) = true := xm_allF rfl (by decide +kernel)
set_option maxRecDepth 100000 in
theorem xm_k82 : (xm_rw 82).all (xm_ochk 82) = true := xm_allF rfl (by decide +kernel)
set_option maxRecDepth 100000 in
theorem xm_k83 : (xm_rw 83).all (xm_ochk 83) = true := xm_allF rfl (by decide +kernel)
set_option maxRecDepth 100000 in
theorem xm_k84 : (xm_rw 84).all (xm_ochk 84) = true := xm_allF rfl (by decide +kernel)
set_option maxRecDepth 100000 in
theorem xm_k85 : (xm_rw 85).all (xm_ochk 85) = true := xm_allF rfl (by decide +kernel)
set_option maxRecDepth 100000 in
theorem xm_k86 : (xm_rw 86).all (xm_ochk 86) = true := xm_allF rfl (by decide +kernel)
