set_option maxRecDepth 100000 in
theorem ck_197_0 : ck_l 197 0 ((t_Law_law.drop 0).take 200) = true := by decide +kernel
