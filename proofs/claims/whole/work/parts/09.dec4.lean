set_option maxRecDepth 100000 in
theorem q_e99 : (List.range 126).all (fun pc => match q_x99 pc with | none => true | some i => q_dec prog_10_method_22_code pc i) = true := by decide +kernel
set_option maxRecDepth 100000 in
theorem q_e100 : (List.range 38).all (fun pc => match q_x100 pc with | none => true | some i => q_dec prog_10_method_23_code pc i) = true := by decide +kernel
set_option maxRecDepth 100000 in
theorem q_e101 : (List.range 38).all (fun pc => match q_x101 pc with | none => true | some i => q_dec prog_10_method_24_code pc i) = true := by decide +kernel
set_option maxRecDepth 100000 in
theorem q_e102 : (List.range 72).all (fun pc => match q_x102 pc with | none => true | some i => q_dec prog_10_method_25_code pc i) = true := by decide +kernel
set_option maxRecDepth 100000 in
theorem q_e103 : (List.range 37).all (fun pc => match q_x103 pc with | none => true | some i => q_dec prog_10_method_26_code pc i) = true := by decide +kernel
set_option maxRecDepth 100000 in
theorem q_e104 : (List.range 23).all (fun pc => match q_x104 pc with | none => true | some i => q_dec prog_10_method_27_code pc i) = true := by decide +kernel
set_option maxRecDepth 100000 in
theorem q_e105 : (List.range 49).all (fun pc => match q_x105 pc with | none => true | some i => q_dec prog_10_method_28_code pc i) = true := by decide +kernel
set_option maxRecDepth 100000 in
theorem q_e106 : (List.range 47).all (fun pc => match q_x106 pc with | none => true | some i => q_dec prog_10_method_29_code pc i) = true := by decide +kernel
set_option maxRecDepth 100000 in
theorem q_e107 : (List.range 58).all (fun pc => match q_x107 pc with | none => true | some i => q_dec prog_10_method_30_code pc i) = true := by decide +kernel
set_option maxRecDepth 100000 in
theorem q_e108 : (List.range 315).all (fun pc => match q_x108 pc with | none => true | some i => q_dec prog_10_method_31_code pc i) = true := by decide +kernel
set_option maxRecDepth 100000 in
theorem q_e109 : (List.range 50).all (fun pc => match q_x109 pc with | none => true | some i => q_dec prog_10_method_32_code pc i) = true := by decide +kernel
set_option maxRecDepth 100000 in
theorem q_e110 : (List.range 19).all (fun pc => match q_x110 pc with | none => true | some i => q_dec prog_10_method_33_code pc i) = true := by decide +kernel
set_option maxRecDepth 100000 in
theorem q_e111 : (List.range 400).all (fun pc => match q_x111 pc with | none => true | some i => q_dec prog_10_method_34_code pc i) = true := by decide +kernel
set_option maxRecDepth 100000 in
theorem q_e112 : (List.range 18).all (fun pc => match q_x112 pc with | none => true | some i => q_dec prog_10_method_35_code pc i) = true := by decide +kernel
set_option maxRecDepth 100000 in
theorem q_e113 : (List.range 37).all (fun pc => match q_x113 pc with | none => true | some i => q_dec prog_10_method_36_code pc i) = true := by decide +kernel
set_option maxRecDepth 100000 in
theorem q_e114 : (List.range 75).all (fun pc => match q_x114 pc with | none => true | some i => q_dec prog_10_method_37_code pc i) = true := by decide +kernel
set_option maxRecDepth 100000 in
theorem q_e115 : (List.range 19).all (fun pc => match q_x115 pc with | none => true | some i => q_dec prog_10_method_38_code pc i) = true := by decide +kernel
set_option maxRecDepth 100000 in
theorem q_e116 : (List.range 194).all (fun pc => match q_x116 pc with | none => true | some i => q_dec prog_10_method_39_code pc i) = true := by decide +kernel
set_option maxRecDepth 100000 in
theorem q_e117 : (List.range 169).all (fun pc => match q_x117 pc with | none => true | some i => q_dec prog_10_method_40_code pc i) = true := by decide +kernel
set_option maxRecDepth 100000 in
theorem q_e118 : (List.range 70).all (fun pc => match q_x118 pc with | none => true | some i => q_dec prog_10_method_41_code pc i) = true := by decide +kernel
set_option maxRecDepth 100000 in
theorem q_e119 : (List.range 460).all (fun pc => match q_x119 pc with | none => true | some i => q_dec prog_10_method_42_code pc i) = true := by decide +kernel
set_option maxRecDepth 100000 in
theorem q_e120 : (List.range 58).all (fun pc => match q_x120 pc with | none => true | some i => q_dec prog_10_method_43_code pc i) = true := by decide +kernel
set_option maxRecDepth 100000 in
theorem q_e121 : (List.range 100).all (fun pc => match q_x121 pc with | none => true | some i => q_dec prog_10_method_44_code pc i) = true := by decide +kernel
set_option maxRecDepth 100000 in
theorem q_e122 : (List.range 323).all (fun pc => match q_x122 pc with | none => true | some i => q_dec prog_10_method_45_code pc i) = true := by decide +kernel
set_option maxRecDepth 100000 in
theorem q_e123 : (List.range 107).all (fun pc => match q_x123 pc with | none => true | some i => q_dec prog_10_method_46_code pc i) = true := by decide +kernel
set_option maxRecDepth 100000 in
theorem q_e124 : (List.range 114).all (fun pc => match q_x124 pc with | none => true | some i => q_dec prog_10_method_47_code pc i) = true := by decide +kernel
set_option maxRecDepth 100000 in
theorem q_e125 : (List.range 58).all (fun pc => match q_x125 pc with | none => true | some i => q_dec prog_10_method_48_code pc i) = true := by decide +kernel
set_option maxRecDepth 100000 in
theorem q_e126 : (List.range 5).all (fun pc => match q_x126 pc with | none => true | some i => q_dec prog_10_method_49_code pc i) = true := by decide +kernel
set_option maxRecDepth 100000 in
theorem q_e127 : (List.range 36).all (fun pc => match q_x127 pc with | none => true | some i => q_dec prog_10_method_50_code pc i) = true := by decide +kernel
set_option maxRecDepth 100000 in
theorem q_e128 : (List.range 126).all (fun pc => match q_x128 pc with | none => true | some i => q_dec prog_10_method_51_code pc i) = true := by decide +kernel
set_option maxRecDepth 100000 in
theorem q_e129 : (List.range 24).all (fun pc => match q_x129 pc with | none => true | some i => q_dec prog_10_method_52_code pc i) = true := by decide +kernel
set_option maxRecDepth 100000 in
theorem q_e130 : (List.range 202).all (fun pc => match q_x130 pc with | none => true | some i => q_dec prog_10_method_53_code pc i) = true := by decide +kernel
