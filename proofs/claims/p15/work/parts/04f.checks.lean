/-! every row decodes as it says, every link stands in the tables: by program -/
set_option maxRecDepth 100000 in
theorem xm_k118 : (xm_rw 118).all (xm_ochk 118) = true := xm_allF rfl (by decide +kernel)
set_option maxRecDepth 100000 in
theorem xm_k119 : (xm_rw 119).all (xm_ochk 119) = true := xm_allF rfl (by decide +kernel)
set_option maxRecDepth 100000 in
theorem xm_k120 : (xm_rw 120).all (xm_ochk 120) = true := xm_allF rfl (by decide +kernel)
set_option maxRecDepth 100000 in
theorem xm_k121 : (xm_rw 121).all (xm_ochk 121) = true := xm_allF rfl (by decide +kernel)
set_option maxRecDepth 100000 in
theorem xm_k122 : (xm_rw 122).all (xm_ochk 122) = true := xm_allF rfl (by decide +kernel)
set_option maxRecDepth 100000 in
theorem xm_k123 : (xm_rw 123).all (xm_ochk 123) = true := xm_allF rfl (by decide +kernel)
set_option maxRecDepth 100000 in
theorem xm_k124 : (xm_rw 124).all (xm_ochk 124) = true := xm_allF rfl (by decide +kernel)
set_option maxRecDepth 100000 in
theorem xm_k125 : (xm_rw 125).all (xm_ochk 125) = true := xm_allF rfl (by decide +kernel)
set_option maxRecDepth 100000 in
theorem xm_k126 : (xm_rw 126).all (xm_ochk 126) = true := xm_allF rfl (by decide +kernel)
set_option maxRecDepth 100000 in
theorem xm_k127 : (xm_rw 127).all (xm_ochk 127) = true := xm_allF rfl (by decide +kernel)
set_option maxRecDepth 100000 in
theorem xm_k128 : (xm_rw 128).all (xm_ochk 128) = true := xm_allF rfl (by decide +kernel)
set_option maxRecDepth 100000 in
theorem xm_k129 : (xm_rw 129).all (xm_ochk 129) = true := xm_allF rfl (by decide +kernel)
set_option maxRecDepth 100000 in
theorem xm_k130 : (xm_rw 130).all (xm_ochk 130) = true := xm_allF rfl (by decide +kernel)
set_option maxRecDepth 100000 in
theorem xm_k131 : (xm_rw 131).all (xm_ochk 131) = true := xm_allF rfl (by decide +kernel)
set_option maxRecDepth 100000 in
theorem xm_k132 : (xm_rw 132).all (xm_ochk 132) = true := xm_allF rfl (by decide +kernel)
set_option maxRecDepth 100000 in
theorem xm_k133 : (xm_rw 133).all (xm_ochk 133) = true := xm_allF rfl (by decide +kernel)
set_option maxRecDepth 100000 in
theorem xm_k134 : (xm_rw 134).all (xm_ochk 134) = true := xm_allF rfl (by decide +kernel)
set_option maxRecDepth 100000 in
theorem xm_k135 : (xm_rw 135).all (xm_ochk 135) = true := xm_allF rfl (by decide +kernel)
set_option maxRecDepth 100000 in
theorem xm_k136 : (xm_rw 136).all (xm_ochk 136) = true := xm_allF rfl (by decide +kernel)
set_option maxRecDepth 100000 in
theorem xm_k137 : (xm_rw 137).all (xm_ochk 137) = true := xm_allF rfl (by decide +kernel)
set_option maxRecDepth 100000 in
theorem xm_k138 : (xm_rw 138).all (xm_ochk 138) = true := xm_allF rfl (by decide +kernel)
set_option maxRecDepth 100000 in
theorem xm_k139 : (xm_rw 139).all (xm_ochk 139) = true := xm_allF rfl (by decide +kernel)
set_option maxRecDepth 100000 in
theorem xm_k140 : (xm_rw 140).all (xm_ochk 140) = true := xm_allF rfl (by decide +kernel)
set_option maxRecDepth 100000 in
theorem xm_k141 : (xm_rw 141).all (xm_ochk 141) = true := xm_allF rfl (by decide +kernel)
set_option maxRecDepth 100000 in
theorem xm_k142 : (xm_rw 142).all (xm_ochk 142) = true := xm_allF rfl (by decide +kernel)
set_option maxRecDepth 100000 in
theorem xm_k143 : (xm_rw 143).all (xm_ochk 143) = true := xm_allF rfl (by decide +kernel)
set_option maxRecDepth 100000 in
theorem xm_k144 : (xm_rw 144).all (xm_ochk 144) = true := xm_allF rfl (by decide +kernel)
set_option maxRecDepth 100000 in
theorem xm_k145 : (xm_rw 145).all (xm_ochk 145) = true := xm_allF rfl (by decide +kernel)
set_option maxRecDepth 100000 in
theorem xm_k146 : (xm_rw 146).all (xm_ochk 146) = true := xm_allF rfl (by decide +kernel)
set_option maxRecDepth 100000 in
theorem xm_k147 : (xm_rw 147).all (xm_ochk 147) = true := xm_allF rfl (by decide +kernel)
set_option maxRecDepth 100000 in
theorem xm_k148 : (xm_rw 148).all (xm_ochk 148) = true := xm_allF rfl (by decide +kernel)
set_option maxRecDepth 100000 in
theorem xm_k149 : (xm_rw 149).all (xm_ochk 149) = true := xm_allF rfl (by decide +kernel)
set_option maxRecDepth 100000 in
theorem xm_k150 : (xm_rw 150).all (xm_ochk 150) = true := xm_allF rfl (by decide +kernel)
set_option maxRecDepth 100000 in
theorem xm_k151 : (xm_rw 151).all (xm_ochk 151) = true := xm_allF rfl (by decide +kernel)
set_option maxRecDepth 100000 in
theorem xm_k152 : (xm_rw 152).all (xm_ochk 152) = true := xm_allF rfl (by decide +kernel)
set_option maxRecDepth 100000 in
theorem xm_k153 : (xm_rw 153).all (xm_ochk 153) = true := xm_allF rfl (by decide +kernel)
