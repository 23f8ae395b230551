set_option maxRecDepth 100000 in
theorem ck_197_3 : ck_l 197 600 ((t_Law_law.drop 600).take 200) = true := by decide +kernel
