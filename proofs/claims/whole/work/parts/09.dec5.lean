theorem q_dchunk {x : Nat → Option Instr} {b : ByteArray} {a N : Nat} (h2 : (List.range N).all (fun j => match x (a + j) with | none => true | some i => q_dec b (a + j) i) = true) {pc : Nat} {i : Instr} (h : x pc = some i) (h1 : a ≤ pc) (h3 : pc < a + N) : q_dec b pc i = true := by
  obtain ⟨j, rfl⟩ : ∃ j, pc = a + j := ⟨pc - a, by omega⟩
  have h4 := List.all_eq_true.mp h2 j (List.mem_range.mpr (by omega))
  rw [h] at h4
  exact h4
set_option maxRecDepth 100000 in
theorem q_el0 : (List.range 32).all (fun j => match q_x131 (0 + j) with | none => true | some i => q_dec code (0 + j) i) = true := by decide +kernel
set_option maxRecDepth 100000 in
theorem q_el32 : (List.range 32).all (fun j => match q_x131 (32 + j) with | none => true | some i => q_dec code (32 + j) i) = true := by decide +kernel
set_option maxRecDepth 100000 in
theorem q_el64 : (List.range 32).all (fun j => match q_x131 (64 + j) with | none => true | some i => q_dec code (64 + j) i) = true := by decide +kernel
set_option maxRecDepth 100000 in
theorem q_el96 : (List.range 32).all (fun j => match q_x131 (96 + j) with | none => true | some i => q_dec code (96 + j) i) = true := by decide +kernel
set_option maxRecDepth 100000 in
theorem q_el128 : (List.range 32).all (fun j => match q_x131 (128 + j) with | none => true | some i => q_dec code (128 + j) i) = true := by decide +kernel
set_option maxRecDepth 100000 in
theorem q_el160 : (List.range 32).all (fun j => match q_x131 (160 + j) with | none => true | some i => q_dec code (160 + j) i) = true := by decide +kernel
set_option maxRecDepth 100000 in
theorem q_el192 : (List.range 32).all (fun j => match q_x131 (192 + j) with | none => true | some i => q_dec code (192 + j) i) = true := by decide +kernel
set_option maxRecDepth 100000 in
theorem q_el224 : (List.range 32).all (fun j => match q_x131 (224 + j) with | none => true | some i => q_dec code (224 + j) i) = true := by decide +kernel
set_option maxRecDepth 100000 in
theorem q_el256 : (List.range 32).all (fun j => match q_x131 (256 + j) with | none => true | some i => q_dec code (256 + j) i) = true := by decide +kernel
set_option maxRecDepth 100000 in
theorem q_el288 : (List.range 32).all (fun j => match q_x131 (288 + j) with | none => true | some i => q_dec code (288 + j) i) = true := by decide +kernel
set_option maxRecDepth 100000 in
theorem q_el320 : (List.range 32).all (fun j => match q_x131 (320 + j) with | none => true | some i => q_dec code (320 + j) i) = true := by decide +kernel
set_option maxRecDepth 100000 in
theorem q_el352 : (List.range 32).all (fun j => match q_x131 (352 + j) with | none => true | some i => q_dec code (352 + j) i) = true := by decide +kernel
set_option maxRecDepth 100000 in
theorem q_el384 : (List.range 32).all (fun j => match q_x131 (384 + j) with | none => true | some i => q_dec code (384 + j) i) = true := by decide +kernel
set_option maxRecDepth 100000 in
theorem q_el416 : (List.range 32).all (fun j => match q_x131 (416 + j) with | none => true | some i => q_dec code (416 + j) i) = true := by decide +kernel
set_option maxRecDepth 100000 in
theorem q_el448 : (List.range 32).all (fun j => match q_x131 (448 + j) with | none => true | some i => q_dec code (448 + j) i) = true := by decide +kernel
set_option maxRecDepth 100000 in
theorem q_el480 : (List.range 32).all (fun j => match q_x131 (480 + j) with | none => true | some i => q_dec code (480 + j) i) = true := by decide +kernel
set_option maxRecDepth 100000 in
theorem q_el512 : (List.range 32).all (fun j => match q_x131 (512 + j) with | none => true | some i => q_dec code (512 + j) i) = true := by decide +kernel
set_option maxRecDepth 100000 in
theorem q_el544 : (List.range 32).all (fun j => match q_x131 (544 + j) with | none => true | some i => q_dec code (544 + j) i) = true := by decide +kernel
set_option maxRecDepth 100000 in
theorem q_el576 : (List.range 32).all (fun j => match q_x131 (576 + j) with | none => true | some i => q_dec code (576 + j) i) = true := by decide +kernel
set_option maxRecDepth 100000 in
theorem q_el608 : (List.range 32).all (fun j => match q_x131 (608 + j) with | none => true | some i => q_dec code (608 + j) i) = true := by decide +kernel
set_option maxRecDepth 100000 in
theorem q_el640 : (List.range 32).all (fun j => match q_x131 (640 + j) with | none => true | some i => q_dec code (640 + j) i) = true := by decide +kernel
set_option maxRecDepth 100000 in
theorem q_el672 : (List.range 32).all (fun j => match q_x131 (672 + j) with | none => true | some i => q_dec code (672 + j) i) = true := by decide +kernel
set_option maxRecDepth 100000 in
theorem q_el704 : (List.range 32).all (fun j => match q_x131 (704 + j) with | none => true | some i => q_dec code (704 + j) i) = true := by decide +kernel
set_option maxRecDepth 100000 in
theorem q_el736 : (List.range 32).all (fun j => match q_x131 (736 + j) with | none => true | some i => q_dec code (736 + j) i) = true := by decide +kernel
set_option maxRecDepth 100000 in
theorem q_el768 : (List.range 13).all (fun j => match q_x131 (768 + j) with | none => true | some i => q_dec code (768 + j) i) = true := by decide +kernel
theorem q_elaw : ∀ pc i, q_x131 pc = some i → q_dec code pc i = true := by
  intro pc i h
  have hlt := q_g_lt h
  rcases Nat.lt_or_ge pc 32 with h1 | h1
  · exact q_dchunk q_el0 h (by omega) (by omega)
  rcases Nat.lt_or_ge pc 64 with h1 | h1
  · exact q_dchunk q_el32 h (by omega) (by omega)
  rcases Nat.lt_or_ge pc 96 with h1 | h1
  · exact q_dchunk q_el64 h (by omega) (by omega)
  rcases Nat.lt_or_ge pc 128 with h1 | h1
  · exact q_dchunk q_el96 h (by omega) (by omega)
  rcases Nat.lt_or_ge pc 160 with h1 | h1
  · exact q_dchunk q_el128 h (by omega) (by omega)
  rcases Nat.lt_or_ge pc 192 with h1 | h1
  · exact q_dchunk q_el160 h (by omega) (by omega)
  rcases Nat.lt_or_ge pc 224 with h1 | h1
  · exact q_dchunk q_el192 h (by omega) (by omega)
  rcases Nat.lt_or_ge pc 256 with h1 | h1
  · exact q_dchunk q_el224 h (by omega) (by omega)
  rcases Nat.lt_or_ge pc 288 with h1 | h1
  · exact q_dchunk q_el256 h (by omega) (by omega)
  rcases Nat.lt_or_ge pc 320 with h1 | h1
  · exact q_dchunk q_el288 h (by omega) (by omega)
  rcases Nat.lt_or_ge pc 352 with h1 | h1
  · exact q_dchunk q_el320 h (by omega) (by omega)
  rcases Nat.lt_or_ge pc 384 with h1 | h1
  · exact q_dchunk q_el352 h (by omega) (by omega)
  rcases Nat.lt_or_ge pc 416 with h1 | h1
  · exact q_dchunk q_el384 h (by omega) (by omega)
  rcases Nat.lt_or_ge pc 448 with h1 | h1
  · exact q_dchunk q_el416 h (by omega) (by omega)
  rcases Nat.lt_or_ge pc 480 with h1 | h1
  · exact q_dchunk q_el448 h (by omega) (by omega)
  rcases Nat.lt_or_ge pc 512 with h1 | h1
  · exact q_dchunk q_el480 h (by omega) (by omega)
  rcases Nat.lt_or_ge pc 544 with h1 | h1
  · exact q_dchunk q_el512 h (by omega) (by omega)
  rcases Nat.lt_or_ge pc 576 with h1 | h1
  · exact q_dchunk q_el544 h (by omega) (by omega)
  rcases Nat.lt_or_ge pc 608 with h1 | h1
  · exact q_dchunk q_el576 h (by omega) (by omega)
  rcases Nat.lt_or_ge pc 640 with h1 | h1
  · exact q_dchunk q_el608 h (by omega) (by omega)
  rcases Nat.lt_or_ge pc 672 with h1 | h1
  · exact q_dchunk q_el640 h (by omega) (by omega)
  rcases Nat.lt_or_ge pc 704 with h1 | h1
  · exact q_dchunk q_el672 h (by omega) (by omega)
  rcases Nat.lt_or_ge pc 736 with h1 | h1
  · exact q_dchunk q_el704 h (by omega) (by omega)
  rcases Nat.lt_or_ge pc 768 with h1 | h1
  · exact q_dchunk q_el736 h (by omega) (by omega)
  exact q_dchunk q_el768 h (by omega) (by omega)
