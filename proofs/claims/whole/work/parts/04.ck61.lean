set_option maxRecDepth 100000 in
theorem ck_197_1 : ck_l 197 200 ((t_Law_law.drop 200).take 200) = true := by decide +kernel
