set_option maxRecDepth 100000 in
theorem ck_70 : sm_ckm 70 = true := by decide +kernel
set_option maxRecDepth 100000 in
theorem ck_71 : sm_ckm 71 = true := by decide +kernel
set_option maxRecDepth 100000 in
theorem ck_72 : sm_ckm 72 = true := by decide +kernel
set_option maxRecDepth 100000 in
theorem ck_73 : sm_ckm 73 = true := by decide +kernel
set_option maxRecDepth 100000 in
theorem ck_74 : sm_ckm 74 = true := by decide +kernel
set_option maxRecDepth 100000 in
theorem ck_75 : sm_ckm 75 = true := by decide +kernel
set_option maxRecDepth 100000 in
theorem ck_76 : sm_ckm 76 = true := by decide +kernel
set_option maxRecDepth 100000 in
theorem ck_77 : sm_ckm 77 = true := by decide +kernel
set_option maxRecDepth 100000 in
theorem ck_78 : sm_ckm 78 = true := by decide +kernel
set_option maxRecDepth 100000 in
theorem ck_79 : sm_ckm 79 = true := by decide +kernel
set_option maxRecDepth 100000 in
theorem ck_80 : sm_ckm 80 = true := by decide +kernel
set_option maxRecDepth 100000 in
theorem ck_81 : sm_ckm 81 = true := by decide +kernel
set_option maxRecDepth 100000 in
theorem ck_82 : sm_ckm 82 = true := by decide +kernel
set_option maxRecDepth 100000 in
theorem ck_83 : sm_ckm 83 = true := by decide +kernel
set_option maxRecDepth 100000 in
theorem ck_84 : sm_ckm 84 = true := by decide +kernel
set_option maxRecDepth 100000 in
theorem ck_85 : sm_ckm 85 = true := by decide +kernel
set_option maxRecDepth 100000 in
theorem ck_86 : sm_ckm 86 = true := by decide +kernel
set_option maxRecDepth 100000 in
theorem ck_87 : sm_ckm 87 = true := by decide +kernel
set_option maxRecDepth 100000 in
theorem ck_88 : sm_ckm 88 = true := by decide +kernel
set_option maxRecDepth 100000 in
theorem ck_89 : sm_ckm 89 = true := by decide +kernel
set_option maxRecDepth 100000 in
theorem ck_90 : sm_ckm 90 = true := by decide +kernel
set_option maxRecDepth 100000 in
theorem ck_91 : sm_ckm 91 = true := by decide +kernel
set_option maxRecDepth 100000 in
theorem ck_92 : sm_ckm 92 = true := by decide +kernel
set_option maxRecDepth 100000 in
theorem ck_93 : sm_ckm 93 = true := by decide +kernel
set_option maxRecDepth 100000 in
theorem ck_94 : sm_ckm 94 = true := by decide +kernel
set_option maxRecDepth 100000 in
theorem ck_95 : sm_ckm 95 = true := by decide +kernel
set_option maxRecDepth 100000 in
theorem ck_96 : sm_ckm 96 = true := by decide +kernel
set_option maxRecDepth 100000 in
theorem ck_97 : sm_ckm 97 = true := by decide +kernel
set_option maxRecDepth 100000 in
theorem ck_98 : sm_ckm 98 = true := by decide +kernel
set_option maxRecDepth 100000 in
theorem ck_99 : sm_ckm 99 = true := by decide +kernel
set_option maxRecDepth 100000 in
theorem ck_100 : sm_ckm 100 = true := by decide +kernel
set_option maxRecDepth 100000 in
theorem ck_101 : sm_ckm 101 = true := by decide +kernel
set_option maxRecDepth 100000 in
theorem ck_102 : sm_ckm 102 = true := by decide +kernel
set_option maxRecDepth 100000 in
theorem ck_103 : sm_ckm 103 = true := by decide +kernel
set_option maxRecDepth 100000 in
theorem ck_104 : sm_ckm 104 = true := by decide +kernel
set_option maxRecDepth 100000 in
theorem ck_105 : sm_ckm 105 = true := by decide +kernel
set_option maxRecDepth 100000 in
theorem ck_106 : sm_ckm 106 = true := by decide +kernel
set_option maxRecDepth 100000 in
theorem ck_107 : sm_ckm 107 = true := by decide +kernel
set_option maxRecDepth 100000 in
theorem ck_108 : sm_ckm 108 = true := by decide +kernel
set_option maxRecDepth 100000 in
theorem ck_109 : sm_ckm 109 = true := by decide +kernel
set_option maxRecDepth 100000 in
theorem ck_110 : sm_ckm 110 = true := by decide +kernel
set_option maxRecDepth 100000 in
theorem ck_111 : sm_ckm 111 = true := by decide +kernel
set_option maxRecDepth 100000 in
theorem ck_112 : sm_ckm 112 = true := by decide +kernel
set_option maxRecDepth 100000 in
theorem ck_113 : sm_ckm 113 = true := by decide +kernel
set_option maxRecDepth 100000 in
theorem ck_114 : sm_ckm 114 = true := by decide +kernel
set_option maxRecDepth 100000 in
theorem ck_115 : sm_ckm 115 = true := by decide +kernel
set_option maxRecDepth 100000 in
theorem ck_116 : sm_ckm 116 = true := by decide +kernel
set_option maxRecDepth 100000 in
theorem ck_117 : sm_ckm 117 = true := by decide +kernel
set_option maxRecDepth 100000 in
theorem ck_118 : sm_ckm 118 = true := by decide +kernel
set_option maxRecDepth 100000 in
theorem ck_119 : sm_ckm 119 = true := by decide +kernel
set_option maxRecDepth 100000 in
theorem ck_120 : sm_ckm 120 = true := by decide +kernel
set_option maxRecDepth 100000 in
theorem ck_121 : sm_ckm 121 = true := by decide +kernel
set_option maxRecDepth 100000 in
theorem ck_122 : sm_ckm 122 = true := by decide +kernel
set_option maxRecDepth 100000 in
theorem ck_123 : sm_ckm 123 = true := by decide +kernel
set_option maxRecDepth 100000 in
theorem ck_124 : sm_ckm 124 = true := by decide +kernel
set_option maxRecDepth 100000 in
theorem ck_125 : sm_ckm 125 = true := by decide +kernel
set_option maxRecDepth 100000 in
theorem ck_126 : sm_ckm 126 = true := by decide +kernel
set_option maxRecDepth 100000 in
theorem ck_127 : sm_ckm 127 = true := by decide +kernel
set_option maxRecDepth 100000 in
theorem ck_128 : sm_ckm 128 = true := by decide +kernel
set_option maxRecDepth 100000 in
theorem ck_129 : sm_ckm 129 = true := by decide +kernel
