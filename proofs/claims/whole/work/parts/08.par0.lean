set_option maxRecDepth 100000 in
theorem mp_0 : (parseMethodDescriptor (sm_mi 0).1.desc).map (fun d => d.parameters.length) = some (sm_np.getD 0 0) := by decide +kernel
set_option maxRecDepth 100000 in
theorem mp_1 : (parseMethodDescriptor (sm_mi 1).1.desc).map (fun d => d.parameters.length) = some (sm_np.getD 1 0) := by decide +kernel
set_option maxRecDepth 100000 in
theorem mp_2 : (parseMethodDescriptor (sm_mi 2).1.desc).map (fun d => d.parameters.length) = some (sm_np.getD 2 0) := by decide +kernel
set_option maxRecDepth 100000 in
theorem mp_3 : (parseMethodDescriptor (sm_mi 3).1.desc).map (fun d => d.parameters.length) = some (sm_np.getD 3 0) := by decide +kernel
set_option maxRecDepth 100000 in
theorem mp_4 : (parseMethodDescriptor (sm_mi 4).1.desc).map (fun d => d.parameters.length) = some (sm_np.getD 4 0) := by decide +kernel
set_option maxRecDepth 100000 in
theorem mp_5 : (parseMethodDescriptor (sm_mi 5).1.desc).map (fun d => d.parameters.length) = some (sm_np.getD 5 0) := by decide +kernel
set_option maxRecDepth 100000 in
theorem mp_6 : (parseMethodDescriptor (sm_mi 6).1.desc).map (fun d => d.parameters.length) = some (sm_np.getD 6 0) := by decide +kernel
set_option maxRecDepth 100000 in
theorem mp_7 : (parseMethodDescriptor (sm_mi 7).1.desc).map (fun d => d.parameters.length) = some (sm_np.getD 7 0) := by decide +kernel
set_option maxRecDepth 100000 in
theorem mp_8 : (parseMethodDescriptor (sm_mi 8).1.desc).map (fun d => d.parameters.length) = some (sm_np.getD 8 0) := by decide +kernel
set_option maxRecDepth 100000 in
theorem mp_9 : (parseMethodDescriptor (sm_mi 9).1.desc).map (fun d => d.parameters.length) = some (sm_np.getD 9 0) := by decide +kernel
set_option maxRecDepth 100000 in
theorem mp_10 : (parseMethodDescriptor (sm_mi 10).1.desc).map (fun d => d.parameters.length) = some (sm_np.getD 10 0) := by decide +kernel
set_option maxRecDepth 100000 in
theorem mp_11 : (parseMethodDescriptor (sm_mi 11).1.desc).map (fun d => d.parameters.length) = some (sm_np.getD 11 0) := by decide +kernel
set_option maxRecDepth 100000 in
theorem mp_12 : (parseMethodDescriptor (sm_mi 12).1.desc).map (fun d => d.parameters.length) = some (sm_np.getD 12 0) := by decide +kernel
set_option maxRecDepth 100000 in
theorem mp_13 : (parseMethodDescriptor (sm_mi 13).1.desc).map (fun d => d.parameters.length) = some (sm_np.getD 13 0) := by decide +kernel
set_option maxRecDepth 100000 in
theorem mp_14 : (parseMethodDescriptor (sm_mi 14).1.desc).map (fun d => d.parameters.length) = some (sm_np.getD 14 0) := by decide +kernel
set_option maxRecDepth 100000 in
theorem mp_15 : (parseMethodDescriptor (sm_mi 15).1.desc).map (fun d => d.parameters.length) = some (sm_np.getD 15 0) := by decide +kernel
set_option maxRecDepth 100000 in
theorem mp_16 : (parseMethodDescriptor (sm_mi 16).1.desc).map (fun d => d.parameters.length) = some (sm_np.getD 16 0) := by decide +kernel
set_option maxRecDepth 100000 in
theorem mp_17 : (parseMethodDescriptor (sm_mi 17).1.desc).map (fun d => d.parameters.length) = some (sm_np.getD 17 0) := by decide +kernel
set_option maxRecDepth 100000 in
theorem mp_18 : (parseMethodDescriptor (sm_mi 18).1.desc).map (fun d => d.parameters.length) = some (sm_np.getD 18 0) := by decide +kernel
set_option maxRecDepth 100000 in
theorem mp_19 : (parseMethodDescriptor (sm_mi 19).1.desc).map (fun d => d.parameters.length) = some (sm_np.getD 19 0) := by decide +kernel
set_option maxRecDepth 100000 in
theorem mp_20 : (parseMethodDescriptor (sm_mi 20).1.desc).map (fun d => d.parameters.length) = some (sm_np.getD 20 0) := by decide +kernel
set_option maxRecDepth 100000 in
theorem mp_21 : (parseMethodDescriptor (sm_mi 21).1.desc).map (fun d => d.parameters.length) = some (sm_np.getD 21 0) := by decide +kernel
set_option maxRecDepth 100000 in
theorem mp_22 : (parseMethodDescriptor (sm_mi 22).1.desc).map (fun d => d.parameters.length) = some (sm_np.getD 22 0) := by decide +kernel
set_option maxRecDepth 100000 in
theorem mp_23 : (parseMethodDescriptor (sm_mi 23).1.desc).map (fun d => d.parameters.length) = some (sm_np.getD 23 0) := by decide +kernel
set_option maxRecDepth 100000 in
theorem mp_24 : (parseMethodDescriptor (sm_mi 24).1.desc).map (fun d => d.parameters.length) = some (sm_np.getD 24 0) := by decide +kernel
set_option maxRecDepth 100000 in
theorem mp_25 : (parseMethodDescriptor (sm_mi 25).1.desc).map (fun d => d.parameters.length) = some (sm_np.getD 25 0) := by decide +kernel
set_option maxRecDepth 100000 in
theorem mp_26 : (parseMethodDescriptor (sm_mi 26).1.desc).map (fun d => d.parameters.length) = some (sm_np.getD 26 0) := by decide +kernel
set_option maxRecDepth 100000 in
theorem mp_27 : (parseMethodDescriptor (sm_mi 27).1.desc).map (fun d => d.parameters.length) = some (sm_np.getD 27 0) := by decide +kernel
set_option maxRecDepth 100000 in
theorem mp_28 : (parseMethodDescriptor (sm_mi 28).1.desc).map (fun d => d.parameters.length) = some (sm_np.getD 28 0) := by decide +kernel
set_option maxRecDepth 100000 in
theorem mp_29 : (parseMethodDescriptor (sm_mi 29).1.desc).map (fun d => d.parameters.length) = some (sm_np.getD 29 0) := by decide +kernel
set_option maxRecDepth 100000 in
theorem mp_30 : (parseMethodDescriptor (sm_mi 30).1.desc).map (fun d => d.parameters.length) = some (sm_np.getD 30 0) := by decide +kernel
set_option maxRecDepth 100000 in
theorem mp_31 : (parseMethodDescriptor (sm_mi 31).1.desc).map (fun d => d.parameters.length) = some (sm_np.getD 31 0) := by decide +kernel
set_option maxRecDepth 100000 in
theorem mp_32 : (parseMethodDescriptor (sm_mi 32).1.desc).map (fun d => d.parameters.length) = some (sm_np.getD 32 0) := by decide +kernel
set_option maxRecDepth 100000 in
theorem mp_33 : (parseMethodDescriptor (sm_mi 33).1.desc).map (fun d => d.parameters.length) = some (sm_np.getD 33 0) := by decide +kernel
set_option maxRecDepth 100000 in
theorem mp_34 : (parseMethodDescriptor (sm_mi 34).1.desc).map (fun d => d.parameters.length) = some (sm_np.getD 34 0) := by decide +kernel
set_option maxRecDepth 100000 in
theorem mp_35 : (parseMethodDescriptor (sm_mi 35).1.desc).map (fun d => d.parameters.length) = some (sm_np.getD 35 0) := by decide +kernel
set_option maxRecDepth 100000 in
theorem mp_36 : (parseMethodDescriptor (sm_mi 36).1.desc).map (fun d => d.parameters.length) = some (sm_np.getD 36 0) := by decide +kernel
set_option maxRecDepth 100000 in
theorem mp_37 : (parseMethodDescriptor (sm_mi 37).1.desc).map (fun d => d.parameters.length) = some (sm_np.getD 37 0) := by decide +kernel
set_option maxRecDepth 100000 in
theorem mp_38 : (parseMethodDescriptor (sm_mi 38).1.desc).map (fun d => d.parameters.length) = some (sm_np.getD 38 0) := by decide +kernel
set_option maxRecDepth 100000 in
theorem mp_39 : (parseMethodDescriptor (sm_mi 39).1.desc).map (fun d => d.parameters.length) = some (sm_np.getD 39 0) := by decide +kernel
set_option maxRecDepth 100000 in
theorem mp_40 : (parseMethodDescriptor (sm_mi 40).1.desc).map (fun d => d.parameters.length) = some (sm_np.getD 40 0) := by decide +kernel
set_option maxRecDepth 100000 in
theorem mp_41 : (parseMethodDescriptor (sm_mi 41).1.desc).map (fun d => d.parameters.length) = some (sm_np.getD 41 0) := by decide +kernel
set_option maxRecDepth 100000 in
theorem mp_42 : (parseMethodDescriptor (sm_mi 42).1.desc).map (fun d => d.parameters.length) = some (sm_np.getD 42 0) := by decide +kernel
set_option maxRecDepth 100000 in
theorem mp_43 : (parseMethodDescriptor (sm_mi 43).1.desc).map (fun d => d.parameters.length) = some (sm_np.getD 43 0) := by decide +kernel
set_option maxRecDepth 100000 in
theorem mp_44 : (parseMethodDescriptor (sm_mi 44).1.desc).map (fun d => d.parameters.length) = some (sm_np.getD 44 0) := by decide +kernel
set_option maxRecDepth 100000 in
theorem mp_45 : (parseMethodDescriptor (sm_mi 45).1.desc).map (fun d => d.parameters.length) = some (sm_np.getD 45 0) := by decide +kernel
set_option maxRecDepth 100000 in
theorem mp_46 : (parseMethodDescriptor (sm_mi 46).1.desc).map (fun d => d.parameters.length) = some (sm_np.getD 46 0) := by decide +kernel
set_option maxRecDepth 100000 in
theorem mp_47 : (parseMethodDescriptor (sm_mi 47).1.desc).map (fun d => d.parameters.length) = some (sm_np.getD 47 0) := by decide +kernel
set_option maxRecDepth 100000 in
theorem mp_48 : (parseMethodDescriptor (sm_mi 48).1.desc).map (fun d => d.parameters.length) = some (sm_np.getD 48 0) := by decide +kernel
set_option maxRecDepth 100000 in
theorem mp_49 : (parseMethodDescriptor (sm_mi 49).1.desc).map (fun d => d.parameters.length) = some (sm_np.getD 49 0) := by decide +kernel
set_option maxRecDepth 100000 in
theorem mp_50 : (parseMethodDescriptor (sm_mi 50).1.desc).map (fun d => d.parameters.length) = some (sm_np.getD 50 0) := by decide +kernel
set_option maxRecDepth 100000 in
theorem mp_51 : (parseMethodDescriptor (sm_mi 51).1.desc).map (fun d => d.parameters.length) = some (sm_np.getD 51 0) := by decide +kernel
set_option maxRecDepth 100000 in
theorem mp_52 : (parseMethodDescriptor (sm_mi 52).1.desc).map (fun d => d.parameters.length) = some (sm_np.getD 52 0) := by decide +kernel
set_option maxRecDepth 100000 in
theorem mp_53 : (parseMethodDescriptor (sm_mi 53).1.desc).map (fun d => d.parameters.length) = some (sm_np.getD 53 0) := by decide +kernel
set_option maxRecDepth 100000 in
theorem mp_54 : (parseMethodDescriptor (sm_mi 54).1.desc).map (fun d => d.parameters.length) = some (sm_np.getD 54 0) := by decide +kernel
set_option maxRecDepth 100000 in
theorem mp_55 : (parseMethodDescriptor (sm_mi 55).1.desc).map (fun d => d.parameters.length) = some (sm_np.getD 55 0) := by decide +kernel
set_option maxRecDepth 100000 in
theorem mp_56 : (parseMethodDescriptor (sm_mi 56).1.desc).map (fun d => d.parameters.length) = some (sm_np.getD 56 0) := by decide +kernel
set_option maxRecDepth 100000 in
theorem mp_57 : (parseMethodDescriptor (sm_mi 57).1.desc).map (fun d => d.parameters.length) = some (sm_np.getD 57 0) := by decide +kernel
set_option maxRecDepth 100000 in
theorem mp_58 : (parseMethodDescriptor (sm_mi 58).1.desc).map (fun d => d.parameters.length) = some (sm_np.getD 58 0) := by decide +kernel
set_option maxRecDepth 100000 in
theorem mp_59 : (parseMethodDescriptor (sm_mi 59).1.desc).map (fun d => d.parameters.length) = some (sm_np.getD 59 0) := by decide +kernel
set_option maxRecDepth 100000 in
theorem mp_60 : (parseMethodDescriptor (sm_mi 60).1.desc).map (fun d => d.parameters.length) = some (sm_np.getD 60 0) := by decide +kernel
set_option maxRecDepth 100000 in
theorem mp_61 : (parseMethodDescriptor (sm_mi 61).1.desc).map (fun d => d.parameters.length) = some (sm_np.getD 61 0) := by decide +kernel
set_option maxRecDepth 100000 in
theorem mp_62 : (parseMethodDescriptor (sm_mi 62).1.desc).map (fun d => d.parameters.length) = some (sm_np.getD 62 0) := by decide +kernel
set_option maxRecDepth 100000 in
theorem mp_63 : (parseMethodDescriptor (sm_mi 63).1.desc).map (fun d => d.parameters.length) = some (sm_np.getD 63 0) := by decide +kernel
set_option maxRecDepth 100000 in
theorem mp_64 : (parseMethodDescriptor (sm_mi 64).1.desc).map (fun d => d.parameters.length) = some (sm_np.getD 64 0) := by decide +kernel
set_option maxRecDepth 100000 in
theorem mp_65 : (parseMethodDescriptor (sm_mi 65).1.desc).map (fun d => d.parameters.length) = some (sm_np.getD 65 0) := by decide +kernel
set_option maxRecDepth 100000 in
theorem mp_66 : (parseMethodDescriptor (sm_mi 66).1.desc).map (fun d => d.parameters.length) = some (sm_np.getD 66 0) := by decide +kernel
set_option maxRecDepth 100000 in
theorem mp_67 : (parseMethodDescriptor (sm_mi 67).1.desc).map (fun d => d.parameters.length) = some (sm_np.getD 67 0) := by decide +kernel
set_option maxRecDepth 100000 in
theorem mp_68 : (parseMethodDescriptor (sm_mi 68).1.desc).map (fun d => d.parameters.length) = some (sm_np.getD 68 0) := by decide +kernel
set_option maxRecDepth 100000 in
theorem mp_69 : (parseMethodDescriptor (sm_mi 69).1.desc).map (fun d => d.parameters.length) = some (sm_np.getD 69 0) := by decide +kernel
