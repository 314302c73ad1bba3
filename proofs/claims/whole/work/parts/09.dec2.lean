set_option maxRecDepth 100000 in
theorem q_e33 : (List.range 20).all (fun pc => match q_x33 pc with | none => true | some i => q_dec prog_6_method_4_code pc i) = true := by decide +kernel
set_option maxRecDepth 100000 in
theorem q_e34 : (List.range 43).all (fun pc => match q_x34 pc with | none => true | some i => q_dec prog_6_method_5_code pc i) = true := by decide +kernel
set_option maxRecDepth 100000 in
theorem q_e35 : (List.range 38).all (fun pc => match q_x35 pc with | none => true | some i => q_dec prog_6_method_6_code pc i) = true := by decide +kernel
set_option maxRecDepth 100000 in
theorem q_e36 : (List.range 67).all (fun pc => match q_x36 pc with | none => true | some i => q_dec prog_6_method_7_code pc i) = true := by decide +kernel
set_option maxRecDepth 100000 in
theorem q_e37 : (List.range 18).all (fun pc => match q_x37 pc with | none => true | some i => q_dec prog_7_method_1_code pc i) = true := by decide +kernel
set_option maxRecDepth 100000 in
theorem q_e38 : (List.range 79).all (fun pc => match q_x38 pc with | none => true | some i => q_dec prog_7_method_2_code pc i) = true := by decide +kernel
set_option maxRecDepth 100000 in
theorem q_e39 : (List.range 16).all (fun pc => match q_x39 pc with | none => true | some i => q_dec prog_7_method_3_code pc i) = true := by decide +kernel
set_option maxRecDepth 100000 in
theorem q_e40 : (List.range 41).all (fun pc => match q_x40 pc with | none => true | some i => q_dec prog_7_method_4_code pc i) = true := by decide +kernel
set_option maxRecDepth 100000 in
theorem q_e41 : (List.range 33).all (fun pc => match q_x41 pc with | none => true | some i => q_dec prog_7_method_5_code pc i) = true := by decide +kernel
set_option maxRecDepth 100000 in
theorem q_e42 : (List.range 147).all (fun pc => match q_x42 pc with | none => true | some i => q_dec prog_1_method_1_code pc i) = true := by decide +kernel
set_option maxRecDepth 100000 in
theorem q_e43 : (List.range 39).all (fun pc => match q_x43 pc with | none => true | some i => q_dec prog_1_method_2_code pc i) = true := by decide +kernel
set_option maxRecDepth 100000 in
theorem q_e44 : (List.range 26).all (fun pc => match q_x44 pc with | none => true | some i => q_dec prog_1_method_3_code pc i) = true := by decide +kernel
set_option maxRecDepth 100000 in
theorem q_e45 : (List.range 37).all (fun pc => match q_x45 pc with | none => true | some i => q_dec prog_1_method_4_code pc i) = true := by decide +kernel
set_option maxRecDepth 100000 in
theorem q_e46 : (List.range 106).all (fun pc => match q_x46 pc with | none => true | some i => q_dec prog_1_method_5_code pc i) = true := by decide +kernel
set_option maxRecDepth 100000 in
theorem q_e47 : (List.range 192).all (fun pc => match q_x47 pc with | none => true | some i => q_dec prog_1_method_6_code pc i) = true := by decide +kernel
set_option maxRecDepth 100000 in
theorem q_e48 : (List.range 257).all (fun pc => match q_x48 pc with | none => true | some i => q_dec prog_1_method_7_code pc i) = true := by decide +kernel
set_option maxRecDepth 100000 in
theorem q_e49 : (List.range 25).all (fun pc => match q_x49 pc with | none => true | some i => q_dec prog_1_method_8_code pc i) = true := by decide +kernel
set_option maxRecDepth 100000 in
theorem q_e50 : (List.range 58).all (fun pc => match q_x50 pc with | none => true | some i => q_dec prog_1_method_9_code pc i) = true := by decide +kernel
set_option maxRecDepth 100000 in
theorem q_e51 : (List.range 89).all (fun pc => match q_x51 pc with | none => true | some i => q_dec prog_1_method_10_code pc i) = true := by decide +kernel
set_option maxRecDepth 100000 in
theorem q_e52 : (List.range 5).all (fun pc => match q_x52 pc with | none => true | some i => q_dec prog_1_method_11_code pc i) = true := by decide +kernel
set_option maxRecDepth 100000 in
theorem q_e53 : (List.range 24).all (fun pc => match q_x53 pc with | none => true | some i => q_dec prog_1_method_12_code pc i) = true := by decide +kernel
set_option maxRecDepth 100000 in
theorem q_e54 : (List.range 159).all (fun pc => match q_x54 pc with | none => true | some i => q_dec prog_1_method_13_code pc i) = true := by decide +kernel
set_option maxRecDepth 100000 in
theorem q_e55 : (List.range 25).all (fun pc => match q_x55 pc with | none => true | some i => q_dec prog_1_method_14_code pc i) = true := by decide +kernel
set_option maxRecDepth 100000 in
theorem q_e56 : (List.range 168).all (fun pc => match q_x56 pc with | none => true | some i => q_dec prog_1_method_15_code pc i) = true := by decide +kernel
set_option maxRecDepth 100000 in
theorem q_e57 : (List.range 32).all (fun pc => match q_x57 pc with | none => true | some i => q_dec prog_1_method_16_code pc i) = true := by decide +kernel
set_option maxRecDepth 100000 in
theorem q_e58 : (List.range 64).all (fun pc => match q_x58 pc with | none => true | some i => q_dec prog_1_method_17_code pc i) = true := by decide +kernel
set_option maxRecDepth 100000 in
theorem q_e59 : (List.range 33).all (fun pc => match q_x59 pc with | none => true | some i => q_dec prog_1_method_18_code pc i) = true := by decide +kernel
set_option maxRecDepth 100000 in
theorem q_e60 : (List.range 28).all (fun pc => match q_x60 pc with | none => true | some i => q_dec prog_1_method_19_code pc i) = true := by decide +kernel
set_option maxRecDepth 100000 in
theorem q_e61 : (List.range 18).all (fun pc => match q_x61 pc with | none => true | some i => q_dec prog_1_method_20_code pc i) = true := by decide +kernel
set_option maxRecDepth 100000 in
theorem q_e62 : (List.range 24).all (fun pc => match q_x62 pc with | none => true | some i => q_dec prog_1_method_21_code pc i) = true := by decide +kernel
set_option maxRecDepth 100000 in
theorem q_e63 : (List.range 11).all (fun pc => match q_x63 pc with | none => true | some i => q_dec prog_1_method_22_code pc i) = true := by decide +kernel
set_option maxRecDepth 100000 in
theorem q_e64 : (List.range 115).all (fun pc => match q_x64 pc with | none => true | some i => q_dec prog_1_method_23_code pc i) = true := by decide +kernel
set_option maxRecDepth 100000 in
theorem q_e65 : (List.range 79).all (fun pc => match q_x65 pc with | none => true | some i => q_dec prog_1_method_24_code pc i) = true := by decide +kernel
