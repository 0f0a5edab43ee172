/-! every row decodes as it says, every link stands in the tables: by program -/
set_option maxRecDepth 100000 in
theorem xm_k154 : (xm_rw 154).all (xm_ochk 154) = true := by decide +kernel
