set_option maxRecDepth 100000 in
theorem ck_0 : sm_ckm 0 = true := by decide +kernel
set_option maxRecDepth 100000 in
theorem ck_1 : sm_ckm 1 = true := by decide +kernel
set_option maxRecDepth 100000 in
theorem ck_2 : sm_ckm 2 = true := by decide +kernel
set_option maxRecDepth 100000 in
theorem ck_3 : sm_ckm 3 = true := by decide +kernel
set_option maxRecDepth 100000 in
theorem ck_4 : sm_ckm 4 = true := by decide +kernel
set_option maxRecDepth 100000 in
theorem ck_5 : sm_ckm 5 = true := by decide +kernel
set_option maxRecDepth 100000 in
theorem ck_6 : sm_ckm 6 = true := by decide +kernel
set_option maxRecDepth 100000 in
theorem ck_7 : sm_ckm 7 = true := by decide +kernel
set_option maxRecDepth 100000 in
theorem ck_8 : sm_ckm 8 = true := by decide +kernel
set_option maxRecDepth 100000 in
theorem ck_9 : sm_ckm 9 = true := by decide +kernel
set_option maxRecDepth 100000 in
theorem ck_10 : sm_ckm 10 = true := by decide +kernel
set_option maxRecDepth 100000 in
theorem ck_11 : sm_ckm 11 = true := by decide +kernel
set_option maxRecDepth 100000 in
theorem ck_12 : sm_ckm 12 = true := by decide +kernel
set_option maxRecDepth 100000 in
theorem ck_13 : sm_ckm 13 = true := by decide +kernel
set_option maxRecDepth 100000 in
theorem ck_14 : sm_ckm 14 = true := by decide +kernel
set_option maxRecDepth 100000 in
theorem ck_15 : sm_ckm 15 = true := by decide +kernel
set_option maxRecDepth 100000 in
theorem ck_16 : sm_ckm 16 = true := by decide +kernel
set_option maxRecDepth 100000 in
theorem ck_17 : sm_ckm 17 = true := by decide +kernel
set_option maxRecDepth 100000 in
theorem ck_18 : sm_ckm 18 = true := by decide +kernel
set_option maxRecDepth 100000 in
theorem ck_19 : sm_ckm 19 = true := by decide +kernel
set_option maxRecDepth 100000 in
theorem ck_20 : sm_ckm 20 = true := by decide +kernel
set_option maxRecDepth 100000 in
theorem ck_21 : sm_ckm 21 = true := by decide +kernel
set_option maxRecDepth 100000 in
theorem ck_22 : sm_ckm 22 = true := by decide +kernel
set_option maxRecDepth 100000 in
theorem ck_23 : sm_ckm 23 = true := by decide +kernel
set_option maxRecDepth 100000 in
theorem ck_24 : sm_ckm 24 = true := by decide +kernel
set_option maxRecDepth 100000 in
theorem ck_25 : sm_ckm 25 = true := by decide +kernel
set_option maxRecDepth 100000 in
theorem ck_26 : sm_ckm 26 = true := by decide +kernel
set_option maxRecDepth 100000 in
theorem ck_27 : sm_ckm 27 = true := by decide +kernel
set_option maxRecDepth 100000 in
theorem ck_28 : sm_ckm 28 = true := by decide +kernel
set_option maxRecDepth 100000 in
theorem ck_29 : sm_ckm 29 = true := by decide +kernel
set_option maxRecDepth 100000 in
theorem ck_30 : sm_ckm 30 = true := by decide +kernel
set_option maxRecDepth 100000 in
theorem ck_31 : sm_ckm 31 = true := by decide +kernel
set_option maxRecDepth 100000 in
theorem ck_32 : sm_ckm 32 = true := by decide +kernel
set_option maxRecDepth 100000 in
theorem ck_33 : sm_ckm 33 = true := by decide +kernel
set_option maxRecDepth 100000 in
theorem ck_34 : sm_ckm 34 = true := by decide +kernel
set_option maxRecDepth 100000 in
theorem ck_35 : sm_ckm 35 = true := by decide +kernel
set_option maxRecDepth 100000 in
theorem ck_36 : sm_ckm 36 = true := by decide +kernel
set_option maxRecDepth 100000 in
theorem ck_37 : sm_ckm 37 = true := by decide +kernel
set_option maxRecDepth 100000 in
theorem ck_38 : sm_ckm 38 = true := by decide +kernel
set_option maxRecDepth 100000 in
theorem ck_39 : sm_ckm 39 = true := by decide +kernel
set_option maxRecDepth 100000 in
theorem ck_40 : sm_ckm 40 = true := by decide +kernel
set_option maxRecDepth 100000 in
theorem ck_41 : sm_ckm 41 = true := by decide +kernel
set_option maxRecDepth 100000 in
theorem ck_42 : sm_ckm 42 = true := by decide +kernel
set_option maxRecDepth 100000 in
theorem ck_43 : sm_ckm 43 = true := by decide +kernel
set_option maxRecDepth 100000 in
theorem ck_44 : sm_ckm 44 = true := by decide +kernel
set_option maxRecDepth 100000 in
theorem ck_45 : sm_ckm 45 = true := by decide +kernel
set_option maxRecDepth 100000 in
theorem ck_46 : sm_ckm 46 = true := by decide +kernel
set_option maxRecDepth 100000 in
theorem ck_47 : sm_ckm 47 = true := by decide +kernel
set_option maxRecDepth 100000 in
theorem ck_48 : sm_ckm 48 = true := by decide +kernel
set_option maxRecDepth 100000 in
theorem ck_49 : sm_ckm 49 = true := by decide +kernel
set_option maxRecDepth 100000 in
theorem ck_50 : sm_ckm 50 = true := by decide +kernel
set_option maxRecDepth 100000 in
theorem ck_51 : sm_ckm 51 = true := by decide +kernel
set_option maxRecDepth 100000 in
theorem ck_52 : sm_ckm 52 = true := by decide +kernel
set_option maxRecDepth 100000 in
theorem ck_53 : sm_ckm 53 = true := by decide +kernel
set_option maxRecDepth 100000 in
theorem ck_54 : sm_ckm 54 = true := by decide +kernel
set_option maxRecDepth 100000 in
theorem ck_55 : sm_ckm 55 = true := by decide +kernel
set_option maxRecDepth 100000 in
theorem ck_56 : sm_ckm 56 = true := by decide +kernel
set_option maxRecDepth 100000 in
theorem ck_57 : sm_ckm 57 = true := by decide +kernel
set_option maxRecDepth 100000 in
theorem ck_58 : sm_ckm 58 = true := by decide +kernel
set_option maxRecDepth 100000 in
theorem ck_59 : sm_ckm 59 = true := by decide +kernel
set_option maxRecDepth 100000 in
theorem ck_60 : sm_ckm 60 = true := by decide +kernel
set_option maxRecDepth 100000 in
theorem ck_61 : sm_ckm 61 = true := by decide +kernel
set_option maxRecDepth 100000 in
theorem ck_62 : sm_ckm 62 = true := by decide +kernel
set_option maxRecDepth 100000 in
theorem ck_63 : sm_ckm 63 = true := by decide +kernel
set_option maxRecDepth 100000 in
theorem ck_64 : sm_ckm 64 = true := by decide +kernel
set_option maxRecDepth 100000 in
theorem ck_65 : sm_ckm 65 = true := by decide +kernel
set_option maxRecDepth 100000 in
theorem ck_66 : sm_ckm 66 = true := by decide +kernel
set_option maxRecDepth 100000 in
theorem ck_67 : sm_ckm 67 = true := by decide +kernel
set_option maxRecDepth 100000 in
theorem ck_68 : sm_ckm 68 = true := by decide +kernel
set_option maxRecDepth 100000 in
theorem ck_69 : sm_ckm 69 = true := by decide +kernel
