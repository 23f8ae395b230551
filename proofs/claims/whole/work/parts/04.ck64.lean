set_option maxRecDepth 100000 in
theorem ck_197_4 : ck_l 197 800 ((t_Law_law.drop 800).take 1200) = true := by decide +kernel
