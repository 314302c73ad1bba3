set_option maxRecDepth 100000 in
theorem q_e66 : (List.range 41).all (fun pc => match q_x66 pc with | none => true | some i => q_dec prog_1_method_25_code pc i) = true := by decide +kernel
set_option maxRecDepth 100000 in
theorem q_e67 : (List.range 163).all (fun pc => match q_x67 pc with | none => true | some i => q_dec prog_1_method_26_code pc i) = true := by decide +kernel
set_option maxRecDepth 100000 in
theorem q_e68 : (List.range 95).all (fun pc => match q_x68 pc with | none => true | some i => q_dec prog_1_method_27_code pc i) = true := by decide +kernel
set_option maxRecDepth 100000 in
theorem q_e69 : (List.range 100).all (fun pc => match q_x69 pc with | none => true | some i => q_dec prog_1_method_28_code pc i) = true := by decide +kernel
set_option maxRecDepth 100000 in
theorem q_e70 : (List.range 289).all (fun pc => match q_x70 pc with | none => true | some i => q_dec prog_1_method_29_code pc i) = true := by decide +kernel
set_option maxRecDepth 100000 in
theorem q_e71 : (List.range 35).all (fun pc => match q_x71 pc with | none => true | some i => q_dec prog_1_method_30_code pc i) = true := by decide +kernel
set_option maxRecDepth 100000 in
theorem q_e72 : (List.range 95).all (fun pc => match q_x72 pc with | none => true | some i => q_dec prog_1_method_31_code pc i) = true := by decide +kernel
set_option maxRecDepth 100000 in
theorem q_e73 : (List.range 22).all (fun pc => match q_x73 pc with | none => true | some i => q_dec prog_1_method_32_code pc i) = true := by decide +kernel
set_option maxRecDepth 100000 in
theorem q_e74 : (List.range 20).all (fun pc => match q_x74 pc with | none => true | some i => q_dec prog_1_method_33_code pc i) = true := by decide +kernel
set_option maxRecDepth 100000 in
theorem q_e75 : (List.range 6).all (fun pc => match q_x75 pc with | none => true | some i => q_dec prog_1_method_34_code pc i) = true := by decide +kernel
set_option maxRecDepth 100000 in
theorem q_e76 : (List.range 3).all (fun pc => match q_x76 pc with | none => true | some i => q_dec prog_1_method_35_code pc i) = true := by decide +kernel
set_option maxRecDepth 100000 in
theorem q_e77 : (List.range 55).all (fun pc => match q_x77 pc with | none => true | some i => q_dec prog_1_method_36_code pc i) = true := by decide +kernel
set_option maxRecDepth 100000 in
theorem q_e78 : (List.range 170).all (fun pc => match q_x78 pc with | none => true | some i => q_dec prog_10_method_1_code pc i) = true := by decide +kernel
set_option maxRecDepth 100000 in
theorem q_e79 : (List.range 11).all (fun pc => match q_x79 pc with | none => true | some i => q_dec prog_10_method_2_code pc i) = true := by decide +kernel
set_option maxRecDepth 100000 in
theorem q_e80 : (List.range 48).all (fun pc => match q_x80 pc with | none => true | some i => q_dec prog_10_method_3_code pc i) = true := by decide +kernel
set_option maxRecDepth 100000 in
theorem q_e81 : (List.range 30).all (fun pc => match q_x81 pc with | none => true | some i => q_dec prog_10_method_4_code pc i) = true := by decide +kernel
set_option maxRecDepth 100000 in
theorem q_e82 : (List.range 11).all (fun pc => match q_x82 pc with | none => true | some i => q_dec prog_10_method_5_code pc i) = true := by decide +kernel
set_option maxRecDepth 100000 in
theorem q_e83 : (List.range 163).all (fun pc => match q_x83 pc with | none => true | some i => q_dec prog_10_method_6_code pc i) = true := by decide +kernel
set_option maxRecDepth 100000 in
theorem q_e84 : (List.range 265).all (fun pc => match q_x84 pc with | none => true | some i => q_dec prog_10_method_7_code pc i) = true := by decide +kernel
set_option maxRecDepth 100000 in
theorem q_e85 : (List.range 26).all (fun pc => match q_x85 pc with | none => true | some i => q_dec prog_10_method_8_code pc i) = true := by decide +kernel
set_option maxRecDepth 100000 in
theorem q_e86 : (List.range 54).all (fun pc => match q_x86 pc with | none => true | some i => q_dec prog_10_method_9_code pc i) = true := by decide +kernel
set_option maxRecDepth 100000 in
theorem q_e87 : (List.range 13).all (fun pc => match q_x87 pc with | none => true | some i => q_dec prog_10_method_10_code pc i) = true := by decide +kernel
set_option maxRecDepth 100000 in
theorem q_e88 : (List.range 16).all (fun pc => match q_x88 pc with | none => true | some i => q_dec prog_10_method_11_code pc i) = true := by decide +kernel
set_option maxRecDepth 100000 in
theorem q_e89 : (List.range 65).all (fun pc => match q_x89 pc with | none => true | some i => q_dec prog_10_method_12_code pc i) = true := by decide +kernel
set_option maxRecDepth 100000 in
theorem q_e90 : (List.range 24).all (fun pc => match q_x90 pc with | none => true | some i => q_dec prog_10_method_13_code pc i) = true := by decide +kernel
set_option maxRecDepth 100000 in
theorem q_e91 : (List.range 27).all (fun pc => match q_x91 pc with | none => true | some i => q_dec prog_10_method_14_code pc i) = true := by decide +kernel
set_option maxRecDepth 100000 in
theorem q_e92 : (List.range 77).all (fun pc => match q_x92 pc with | none => true | some i => q_dec prog_10_method_15_code pc i) = true := by decide +kernel
set_option maxRecDepth 100000 in
theorem q_e93 : (List.range 30).all (fun pc => match q_x93 pc with | none => true | some i => q_dec prog_10_method_16_code pc i) = true := by decide +kernel
set_option maxRecDepth 100000 in
theorem q_e94 : (List.range 151).all (fun pc => match q_x94 pc with | none => true | some i => q_dec prog_10_method_17_code pc i) = true := by decide +kernel
set_option maxRecDepth 100000 in
theorem q_e95 : (List.range 84).all (fun pc => match q_x95 pc with | none => true | some i => q_dec prog_10_method_18_code pc i) = true := by decide +kernel
set_option maxRecDepth 100000 in
theorem q_e96 : (List.range 53).all (fun pc => match q_x96 pc with | none => true | some i => q_dec prog_10_method_19_code pc i) = true := by decide +kernel
set_option maxRecDepth 100000 in
theorem q_e97 : (List.range 149).all (fun pc => match q_x97 pc with | none => true | some i => q_dec prog_10_method_20_code pc i) = true := by decide +kernel
set_option maxRecDepth 100000 in
theorem q_e98 : (List.range 35).all (fun pc => match q_x98 pc with | none => true | some i => q_dec prog_10_method_21_code pc i) = true := by decide +kernel
