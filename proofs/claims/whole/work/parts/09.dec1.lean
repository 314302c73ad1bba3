set_option maxRecDepth 100000 in
theorem q_e0 : (List.range 29).all (fun pc => match q_x0 pc with | none => true | some i => q_dec prog_4_method_1_code pc i) = true := by decide +kernel
set_option maxRecDepth 100000 in
theorem q_e1 : (List.range 211).all (fun pc => match q_x1 pc with | none => true | some i => q_dec prog_4_method_2_code pc i) = true := by decide +kernel
set_option maxRecDepth 100000 in
theorem q_e2 : (List.range 22).all (fun pc => match q_x2 pc with | none => true | some i => q_dec prog_4_method_3_code pc i) = true := by decide +kernel
set_option maxRecDepth 100000 in
theorem q_e3 : (List.range 38).all (fun pc => match q_x3 pc with | none => true | some i => q_dec prog_4_method_4_code pc i) = true := by decide +kernel
set_option maxRecDepth 100000 in
theorem q_e4 : (List.range 23).all (fun pc => match q_x4 pc with | none => true | some i => q_dec prog_4_method_5_code pc i) = true := by decide +kernel
set_option maxRecDepth 100000 in
theorem q_e5 : (List.range 175).all (fun pc => match q_x5 pc with | none => true | some i => q_dec prog_4_method_6_code pc i) = true := by decide +kernel
set_option maxRecDepth 100000 in
theorem q_e6 : (List.range 15).all (fun pc => match q_x6 pc with | none => true | some i => q_dec prog_5_method_1_code pc i) = true := by decide +kernel
set_option maxRecDepth 100000 in
theorem q_e7 : (List.range 17).all (fun pc => match q_x7 pc with | none => true | some i => q_dec prog_5_method_2_code pc i) = true := by decide +kernel
set_option maxRecDepth 100000 in
theorem q_e8 : (List.range 9).all (fun pc => match q_x8 pc with | none => true | some i => q_dec prog_5_method_3_code pc i) = true := by decide +kernel
set_option maxRecDepth 100000 in
theorem q_e9 : (List.range 38).all (fun pc => match q_x9 pc with | none => true | some i => q_dec prog_3_method_1_code pc i) = true := by decide +kernel
set_option maxRecDepth 100000 in
theorem q_e10 : (List.range 45).all (fun pc => match q_x10 pc with | none => true | some i => q_dec prog_3_method_2_code pc i) = true := by decide +kernel
set_option maxRecDepth 100000 in
theorem q_e11 : (List.range 21).all (fun pc => match q_x11 pc with | none => true | some i => q_dec prog_3_method_3_code pc i) = true := by decide +kernel
set_option maxRecDepth 100000 in
theorem q_e12 : (List.range 93).all (fun pc => match q_x12 pc with | none => true | some i => q_dec prog_3_method_4_code pc i) = true := by decide +kernel
set_option maxRecDepth 100000 in
theorem q_e13 : (List.range 23).all (fun pc => match q_x13 pc with | none => true | some i => q_dec prog_3_method_5_code pc i) = true := by decide +kernel
set_option maxRecDepth 100000 in
theorem q_e14 : (List.range 17).all (fun pc => match q_x14 pc with | none => true | some i => q_dec prog_3_method_6_code pc i) = true := by decide +kernel
set_option maxRecDepth 100000 in
theorem q_e15 : (List.range 131).all (fun pc => match q_x15 pc with | none => true | some i => q_dec prog_2_method_1_code pc i) = true := by decide +kernel
set_option maxRecDepth 100000 in
theorem q_e16 : (List.range 49).all (fun pc => match q_x16 pc with | none => true | some i => q_dec prog_2_method_2_code pc i) = true := by decide +kernel
set_option maxRecDepth 100000 in
theorem q_e17 : (List.range 50).all (fun pc => match q_x17 pc with | none => true | some i => q_dec prog_2_method_3_code pc i) = true := by decide +kernel
set_option maxRecDepth 100000 in
theorem q_e18 : (List.range 31).all (fun pc => match q_x18 pc with | none => true | some i => q_dec prog_2_method_4_code pc i) = true := by decide +kernel
set_option maxRecDepth 100000 in
theorem q_e19 : (List.range 93).all (fun pc => match q_x19 pc with | none => true | some i => q_dec prog_2_method_5_code pc i) = true := by decide +kernel
set_option maxRecDepth 100000 in
theorem q_e20 : (List.range 87).all (fun pc => match q_x20 pc with | none => true | some i => q_dec prog_2_method_6_code pc i) = true := by decide +kernel
set_option maxRecDepth 100000 in
theorem q_e21 : (List.range 35).all (fun pc => match q_x21 pc with | none => true | some i => q_dec prog_2_method_7_code pc i) = true := by decide +kernel
set_option maxRecDepth 100000 in
theorem q_e22 : (List.range 58).all (fun pc => match q_x22 pc with | none => true | some i => q_dec prog_2_method_8_code pc i) = true := by decide +kernel
set_option maxRecDepth 100000 in
theorem q_e23 : (List.range 39).all (fun pc => match q_x23 pc with | none => true | some i => q_dec prog_2_method_9_code pc i) = true := by decide +kernel
set_option maxRecDepth 100000 in
theorem q_e24 : (List.range 25).all (fun pc => match q_x24 pc with | none => true | some i => q_dec prog_2_method_10_code pc i) = true := by decide +kernel
set_option maxRecDepth 100000 in
theorem q_e25 : (List.range 35).all (fun pc => match q_x25 pc with | none => true | some i => q_dec prog_8_method_1_code pc i) = true := by decide +kernel
set_option maxRecDepth 100000 in
theorem q_e26 : (List.range 63).all (fun pc => match q_x26 pc with | none => true | some i => q_dec prog_8_method_2_code pc i) = true := by decide +kernel
set_option maxRecDepth 100000 in
theorem q_e27 : (List.range 49).all (fun pc => match q_x27 pc with | none => true | some i => q_dec prog_8_method_3_code pc i) = true := by decide +kernel
set_option maxRecDepth 100000 in
theorem q_e28 : (List.range 40).all (fun pc => match q_x28 pc with | none => true | some i => q_dec prog_8_method_4_code pc i) = true := by decide +kernel
set_option maxRecDepth 100000 in
theorem q_e29 : (List.range 90).all (fun pc => match q_x29 pc with | none => true | some i => q_dec prog_8_method_5_code pc i) = true := by decide +kernel
set_option maxRecDepth 100000 in
theorem q_e30 : (List.range 109).all (fun pc => match q_x30 pc with | none => true | some i => q_dec prog_6_method_1_code pc i) = true := by decide +kernel
set_option maxRecDepth 100000 in
theorem q_e31 : (List.range 59).all (fun pc => match q_x31 pc with | none => true | some i => q_dec prog_6_method_2_code pc i) = true := by decide +kernel
set_option maxRecDepth 100000 in
theorem q_e32 : (List.range 148).all (fun pc => match q_x32 pc with | none => true | some i => q_dec prog_6_method_3_code pc i) = true := by decide +kernel
