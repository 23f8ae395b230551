set_option maxRecDepth 100000 in
theorem mp_70 : (parseMethodDescriptor (sm_mi 70).1.desc).map (fun d => d.parameters.length) = some (sm_np.getD 70 0) := by decide +kernel
set_option maxRecDepth 100000 in
theorem mp_71 : (parseMethodDescriptor (sm_mi 71).1.desc).map (fun d => d.parameters.length) = some (sm_np.getD 71 0) := by decide +kernel
set_option maxRecDepth 100000 in
theorem mp_72 : (parseMethodDescriptor (sm_mi 72).1.desc).map (fun d => d.parameters.length) = some (sm_np.getD 72 0) := by decide +kernel
set_option maxRecDepth 100000 in
theorem mp_73 : (parseMethodDescriptor (sm_mi 73).1.desc).map (fun d => d.parameters.length) = some (sm_np.getD 73 0) := by decide +kernel
set_option maxRecDepth 100000 in
theorem mp_74 : (parseMethodDescriptor (sm_mi 74).1.desc).map (fun d => d.parameters.length) = some (sm_np.getD 74 0) := by decide +kernel
set_option maxRecDepth 100000 in
theorem mp_75 : (parseMethodDescriptor (sm_mi 75).1.desc).map (fun d => d.parameters.length) = some (sm_np.getD 75 0) := by decide +kernel
set_option maxRecDepth 100000 in
theorem mp_76 : (parseMethodDescriptor (sm_mi 76).1.desc).map (fun d => d.parameters.length) = some (sm_np.getD 76 0) := by decide +kernel
set_option maxRecDepth 100000 in
theorem mp_77 : (parseMethodDescriptor (sm_mi 77).1.desc).map (fun d => d.parameters.length) = some (sm_np.getD 77 0) := by decide +kernel
set_option maxRecDepth 100000 in
theorem mp_78 : (parseMethodDescriptor (sm_mi 78).1.desc).map (fun d => d.parameters.length) = some (sm_np.getD 78 0) := by decide +kernel
set_option maxRecDepth 100000 in
theorem mp_79 : (parseMethodDescriptor (sm_mi 79).1.desc).map (fun d => d.parameters.length) = some (sm_np.getD 79 0) := by decide +kernel
set_option maxRecDepth 100000 in
theorem mp_80 : (parseMethodDescriptor (sm_mi 80).1.desc).map (fun d => d.parameters.length) = some (sm_np.getD 80 0) := by decide +kernel
set_option maxRecDepth 100000 in
theorem mp_81 : (parseMethodDescriptor (sm_mi 81).1.desc).map (fun d => d.parameters.length) = some (sm_np.getD 81 0) := by decide +kernel
set_option maxRecDepth 100000 in
theorem mp_82 : (parseMethodDescriptor (sm_mi 82).1.desc).map (fun d => d.parameters.length) = some (sm_np.getD 82 0) := by decide +kernel
set_option maxRecDepth 100000 in
theorem mp_83 : (parseMethodDescriptor (sm_mi 83).1.desc).map (fun d => d.parameters.length) = some (sm_np.getD 83 0) := by decide +kernel
set_option maxRecDepth 100000 in
theorem mp_84 : (parseMethodDescriptor (sm_mi 84).1.desc).map (fun d => d.parameters.length) = some (sm_np.getD 84 0) := by decide +kernel
set_option maxRecDepth 100000 in
theorem mp_85 : (parseMethodDescriptor (sm_mi 85).1.desc).map (fun d => d.parameters.length) = some (sm_np.getD 85 0) := by decide +kernel
set_option maxRecDepth 100000 in
theorem mp_86 : (parseMethodDescriptor (sm_mi 86).1.desc).map (fun d => d.parameters.length) = some (sm_np.getD 86 0) := by decide +kernel
set_option maxRecDepth 100000 in
theorem mp_87 : (parseMethodDescriptor (sm_mi 87).1.desc).map (fun d => d.parameters.length) = some (sm_np.getD 87 0) := by decide +kernel
set_option maxRecDepth 100000 in
theorem mp_88 : (parseMethodDescriptor (sm_mi 88).1.desc).map (fun d => d.parameters.length) = some (sm_np.getD 88 0) := by decide +kernel
set_option maxRecDepth 100000 in
theorem mp_89 : (parseMethodDescriptor (sm_mi 89).1.desc).map (fun d => d.parameters.length) = some (sm_np.getD 89 0) := by decide +kernel
set_option maxRecDepth 100000 in
theorem mp_90 : (parseMethodDescriptor (sm_mi 90).1.desc).map (fun d => d.parameters.length) = some (sm_np.getD 90 0) := by decide +kernel
set_option maxRecDepth 100000 in
theorem mp_91 : (parseMethodDescriptor (sm_mi 91).1.desc).map (fun d => d.parameters.length) = some (sm_np.getD 91 0) := by decide +kernel
set_option maxRecDepth 100000 in
theorem mp_92 : (parseMethodDescriptor (sm_mi 92).1.desc).map (fun d => d.parameters.length) = some (sm_np.getD 92 0) := by decide +kernel
set_option maxRecDepth 100000 in
theorem mp_93 : (parseMethodDescriptor (sm_mi 93).1.desc).map (fun d => d.parameters.length) = some (sm_np.getD 93 0) := by decide +kernel
set_option maxRecDepth 100000 in
theorem mp_94 : (parseMethodDescriptor (sm_mi 94).1.desc).map (fun d => d.parameters.length) = some (sm_np.getD 94 0) := by decide +kernel
set_option maxRecDepth 100000 in
theorem mp_95 : (parseMethodDescriptor (sm_mi 95).1.desc).map (fun d => d.parameters.length) = some (sm_np.getD 95 0) := by decide +kernel
set_option maxRecDepth 100000 in
theorem mp_96 : (parseMethodDescriptor (sm_mi 96).1.desc).map (fun d => d.parameters.length) = some (sm_np.getD 96 0) := by decide +kernel
set_option maxRecDepth 100000 in
theorem mp_97 : (parseMethodDescriptor (sm_mi 97).1.desc).map (fun d => d.parameters.length) = some (sm_np.getD 97 0) := by decide +kernel
set_option maxRecDepth 100000 in
theorem mp_98 : (parseMethodDescriptor (sm_mi 98).1.desc).map (fun d => d.parameters.length) = some (sm_np.getD 98 0) := by decide +kernel
set_option maxRecDepth 100000 in
theorem mp_99 : (parseMethodDescriptor (sm_mi 99).1.desc).map (fun d => d.parameters.length) = some (sm_np.getD 99 0) := by decide +kernel
set_option maxRecDepth 100000 in
theorem mp_100 : (parseMethodDescriptor (sm_mi 100).1.desc).map (fun d => d.parameters.length) = some (sm_np.getD 100 0) := by decide +kernel
set_option maxRecDepth 100000 in
theorem mp_101 : (parseMethodDescriptor (sm_mi 101).1.desc).map (fun d => d.parameters.length) = some (sm_np.getD 101 0) := by decide +kernel
set_option maxRecDepth 100000 in
theorem mp_102 : (parseMethodDescriptor (sm_mi 102).1.desc).map (fun d => d.parameters.length) = some (sm_np.getD 102 0) := by decide +kernel
set_option maxRecDepth 100000 in
theorem mp_103 : (parseMethodDescriptor (sm_mi 103).1.desc).map (fun d => d.parameters.length) = some (sm_np.getD 103 0) := by decide +kernel
set_option maxRecDepth 100000 in
theorem mp_104 : (parseMethodDescriptor (sm_mi 104).1.desc).map (fun d => d.parameters.length) = some (sm_np.getD 104 0) := by decide +kernel
set_option maxRecDepth 100000 in
theorem mp_105 : (parseMethodDescriptor (sm_mi 105).1.desc).map (fun d => d.parameters.length) = some (sm_np.getD 105 0) := by decide +kernel
set_option maxRecDepth 100000 in
theorem mp_106 : (parseMethodDescriptor (sm_mi 106).1.desc).map (fun d => d.parameters.length) = some (sm_np.getD 106 0) := by decide +kernel
set_option maxRecDepth 100000 in
theorem mp_107 : (parseMethodDescriptor (sm_mi 107).1.desc).map (fun d => d.parameters.length) = some (sm_np.getD 107 0) := by decide +kernel
set_option maxRecDepth 100000 in
theorem mp_108 : (parseMethodDescriptor (sm_mi 108).1.desc).map (fun d => d.parameters.length) = some (sm_np.getD 108 0) := by decide +kernel
set_option maxRecDepth 100000 in
theorem mp_109 : (parseMethodDescriptor (sm_mi 109).1.desc).map (fun d => d.parameters.length) = some (sm_np.getD 109 0) := by decide +kernel
set_option maxRecDepth 100000 in
theorem mp_110 : (parseMethodDescriptor (sm_mi 110).1.desc).map (fun d => d.parameters.length) = some (sm_np.getD 110 0) := by decide +kernel
set_option maxRecDepth 100000 in
theorem mp_111 : (parseMethodDescriptor (sm_mi 111).1.desc).map (fun d => d.parameters.length) = some (sm_np.getD 111 0) := by decide +kernel
set_option maxRecDepth 100000 in
theorem mp_112 : (parseMethodDescriptor (sm_mi 112).1.desc).map (fun d => d.parameters.length) = some (sm_np.getD 112 0) := by decide +kernel
set_option maxRecDepth 100000 in
theorem mp_113 : (parseMethodDescriptor (sm_mi 113).1.desc).map (fun d => d.parameters.length) = some (sm_np.getD 113 0) := by decide +kernel
set_option maxRecDepth 100000 in
theorem mp_114 : (parseMethodDescriptor (sm_mi 114).1.desc).map (fun d => d.parameters.length) = some (sm_np.getD 114 0) := by decide +kernel
set_option maxRecDepth 100000 in
theorem mp_115 : (parseMethodDescriptor (sm_mi 115).1.desc).map (fun d => d.parameters.length) = some (sm_np.getD 115 0) := by decide +kernel
set_option maxRecDepth 100000 in
theorem mp_116 : (parseMethodDescriptor (sm_mi 116).1.desc).map (fun d => d.parameters.length) = some (sm_np.getD 116 0) := by decide +kernel
set_option maxRecDepth 100000 in
theorem mp_117 : (parseMethodDescriptor (sm_mi 117).1.desc).map (fun d => d.parameters.length) = some (sm_np.getD 117 0) := by decide +kernel
set_option maxRecDepth 100000 in
theorem mp_118 : (parseMethodDescriptor (sm_mi 118).1.desc).map (fun d => d.parameters.length) = some (sm_np.getD 118 0) := by decide +kernel
set_option maxRecDepth 100000 in
theorem mp_119 : (parseMethodDescriptor (sm_mi 119).1.desc).map (fun d => d.parameters.length) = some (sm_np.getD 119 0) := by decide +kernel
set_option maxRecDepth 100000 in
theorem mp_120 : (parseMethodDescriptor (sm_mi 120).1.desc).map (fun d => d.parameters.length) = some (sm_np.getD 120 0) := by decide +kernel
set_option maxRecDepth 100000 in
theorem mp_121 : (parseMethodDescriptor (sm_mi 121).1.desc).map (fun d => d.parameters.length) = some (sm_np.getD 121 0) := by decide +kernel
set_option maxRecDepth 100000 in
theorem mp_122 : (parseMethodDescriptor (sm_mi 122).1.desc).map (fun d => d.parameters.length) = some (sm_np.getD 122 0) := by decide +kernel
set_option maxRecDepth 100000 in
theorem mp_123 : (parseMethodDescriptor (sm_mi 123).1.desc).map (fun d => d.parameters.length) = some (sm_np.getD 123 0) := by decide +kernel
set_option maxRecDepth 100000 in
theorem mp_124 : (parseMethodDescriptor (sm_mi 124).1.desc).map (fun d => d.parameters.length) = some (sm_np.getD 124 0) := by decide +kernel
set_option maxRecDepth 100000 in
theorem mp_125 : (parseMethodDescriptor (sm_mi 125).1.desc).map (fun d => d.parameters.length) = some (sm_np.getD 125 0) := by decide +kernel
set_option maxRecDepth 100000 in
theorem mp_126 : (parseMethodDescriptor (sm_mi 126).1.desc).map (fun d => d.parameters.length) = some (sm_np.getD 126 0) := by decide +kernel
set_option maxRecDepth 100000 in
theorem mp_127 : (parseMethodDescriptor (sm_mi 127).1.desc).map (fun d => d.parameters.length) = some (sm_np.getD 127 0) := by decide +kernel
set_option maxRecDepth 100000 in
theorem mp_128 : (parseMethodDescriptor (sm_mi 128).1.desc).map (fun d => d.parameters.length) = some (sm_np.getD 128 0) := by decide +kernel
set_option maxRecDepth 100000 in
theorem mp_129 : (parseMethodDescriptor (sm_mi 129).1.desc).map (fun d => d.parameters.length) = some (sm_np.getD 129 0) := by decide +kernel
set_option maxRecDepth 100000 in
theorem mp_130 : (parseMethodDescriptor (sm_mi 130).1.desc).map (fun d => d.parameters.length) = some (sm_np.getD 130 0) := by decide +kernel
set_option maxRecDepth 100000 in
theorem mp_131 : (parseMethodDescriptor (sm_mi 131).1.desc).map (fun d => d.parameters.length) = some (sm_np.getD 131 0) := by decide +kernel
set_option maxRecDepth 100000 in
theorem mp_132 : (parseMethodDescriptor (sm_mi 132).1.desc).map (fun d => d.parameters.length) = some (sm_np.getD 132 0) := by decide +kernel
set_option maxRecDepth 100000 in
theorem mp_133 : (parseMethodDescriptor (sm_mi 133).1.desc).map (fun d => d.parameters.length) = some (sm_np.getD 133 0) := by decide +kernel
set_option maxRecDepth 100000 in
theorem mp_134 : (parseMethodDescriptor (sm_mi 134).1.desc).map (fun d => d.parameters.length) = some (sm_np.getD 134 0) := by decide +kernel
set_option maxRecDepth 100000 in
theorem mp_135 : (parseMethodDescriptor (sm_mi 135).1.desc).map (fun d => d.parameters.length) = some (sm_np.getD 135 0) := by decide +kernel
set_option maxRecDepth 100000 in
theorem mp_136 : (parseMethodDescriptor (sm_mi 136).1.desc).map (fun d => d.parameters.length) = some (sm_np.getD 136 0) := by decide +kernel
set_option maxRecDepth 100000 in
theorem mp_137 : (parseMethodDescriptor (sm_mi 137).1.desc).map (fun d => d.parameters.length) = some (sm_np.getD 137 0) := by decide +kernel
set_option maxRecDepth 100000 in
theorem mp_138 : (parseMethodDescriptor (sm_mi 138).1.desc).map (fun d => d.parameters.length) = some (sm_np.getD 138 0) := by decide +kernel
set_option maxRecDepth 100000 in
theorem mp_139 : (parseMethodDescriptor (sm_mi 139).1.desc).map (fun d => d.parameters.length) = some (sm_np.getD 139 0) := by decide +kernel
