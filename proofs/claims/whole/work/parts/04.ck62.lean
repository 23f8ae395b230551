set_option maxRecDepth 100000 in
theorem ck_197_2 : ck_l 197 400 ((t_Law_law.drop 400).take 200) = true := by decide +kernel
