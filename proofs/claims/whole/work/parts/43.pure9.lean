/-! addresses of accounts and sessions -/
def q_Ac (n : Nat) (R : q_R) (a : Nat) : Prop :=
  (84 ≤ a) ∧
  (a + 19 ≤ 160) ∧
  (q_ob n a 3) ∧
  (R a 2 = some (a + 1)) ∧
  (q_ob n (a + 1) 1) ∧
  (R a 3 = some (a + 2)) ∧
  (q_ob n (a + 2) 1) ∧
  (R a 4 = some (a + 3)) ∧
  (q_ob n (a + 3) 1) ∧
  (R a 6 = some (a + 4)) ∧
  (q_ar n (a + 4) 3 10) ∧
  (R a 8 = some (a + 5)) ∧
  (q_ob n (a + 5) 2) ∧
  (R (a + 5) 4 = some (a + 6)) ∧
  (q_ar n (a + 6) 0 6) ∧
  (R a 9 = some (a + 7)) ∧
  (q_ob n (a + 7) 1) ∧
  (R a 10 = some (a + 8)) ∧
  (q_ar n (a + 8) 0 8) ∧
  (∀ x, a + 9 ≤ x → x < a + 19 → q_ob n x 1)
theorem q_Ac.lo {n : Nat} {R : q_R} {a : Nat} (h : q_Ac n R a) : 84 ≤ a := h.1
theorem q_Ac.hi {n : Nat} {R : q_R} {a : Nat} (h : q_Ac n R a) : a + 19 ≤ 160 := h.2.1
theorem q_Ac.ob {n : Nat} {R : q_R} {a : Nat} (h : q_Ac n R a) : q_ob n a 3 := h.2.2.1
theorem q_Ac.r2 {n : Nat} {R : q_R} {a : Nat} (h : q_Ac n R a) : R a 2 = some (a + 1) := h.2.2.2.1
theorem q_Ac.o1 {n : Nat} {R : q_R} {a : Nat} (h : q_Ac n R a) : q_ob n (a + 1) 1 := h.2.2.2.2.1
theorem q_Ac.r3 {n : Nat} {R : q_R} {a : Nat} (h : q_Ac n R a) : R a 3 = some (a + 2) := h.2.2.2.2.2.1
theorem q_Ac.o2 {n : Nat} {R : q_R} {a : Nat} (h : q_Ac n R a) : q_ob n (a + 2) 1 := h.2.2.2.2.2.2.1
theorem q_Ac.r4 {n : Nat} {R : q_R} {a : Nat} (h : q_Ac n R a) : R a 4 = some (a + 3) := h.2.2.2.2.2.2.2.1
theorem q_Ac.o3 {n : Nat} {R : q_R} {a : Nat} (h : q_Ac n R a) : q_ob n (a + 3) 1 := h.2.2.2.2.2.2.2.2.1
theorem q_Ac.r6 {n : Nat} {R : q_R} {a : Nat} (h : q_Ac n R a) : R a 6 = some (a + 4) := h.2.2.2.2.2.2.2.2.2.1
theorem q_Ac.o4 {n : Nat} {R : q_R} {a : Nat} (h : q_Ac n R a) : q_ar n (a + 4) 3 10 := h.2.2.2.2.2.2.2.2.2.2.1
theorem q_Ac.r8 {n : Nat} {R : q_R} {a : Nat} (h : q_Ac n R a) : R a 8 = some (a + 5) := h.2.2.2.2.2.2.2.2.2.2.2.1
theorem q_Ac.o5 {n : Nat} {R : q_R} {a : Nat} (h : q_Ac n R a) : q_ob n (a + 5) 2 := h.2.2.2.2.2.2.2.2.2.2.2.2.1
theorem q_Ac.re {n : Nat} {R : q_R} {a : Nat} (h : q_Ac n R a) : R (a + 5) 4 = some (a + 6) := h.2.2.2.2.2.2.2.2.2.2.2.2.2.1
theorem q_Ac.o6 {n : Nat} {R : q_R} {a : Nat} (h : q_Ac n R a) : q_ar n (a + 6) 0 6 := h.2.2.2.2.2.2.2.2.2.2.2.2.2.2.1
theorem q_Ac.r9 {n : Nat} {R : q_R} {a : Nat} (h : q_Ac n R a) : R a 9 = some (a + 7) := h.2.2.2.2.2.2.2.2.2.2.2.2.2.2.2.1
theorem q_Ac.o7 {n : Nat} {R : q_R} {a : Nat} (h : q_Ac n R a) : q_ob n (a + 7) 1 := h.2.2.2.2.2.2.2.2.2.2.2.2.2.2.2.2.1
theorem q_Ac.r10 {n : Nat} {R : q_R} {a : Nat} (h : q_Ac n R a) : R a 10 = some (a + 8) := h.2.2.2.2.2.2.2.2.2.2.2.2.2.2.2.2.2.1
theorem q_Ac.o8 {n : Nat} {R : q_R} {a : Nat} (h : q_Ac n R a) : q_ar n (a + 8) 0 8 := h.2.2.2.2.2.2.2.2.2.2.2.2.2.2.2.2.2.2.1
theorem q_Ac.op {n : Nat} {R : q_R} {a : Nat} (h : q_Ac n R a) : ∀ x, a + 9 ≤ x → x < a + 19 → q_ob n x 1 := h.2.2.2.2.2.2.2.2.2.2.2.2.2.2.2.2.2.2.2
theorem q_Ac_of {n : Nat} {I : q_I} {R : q_R} (hK : q_K0 n I R) {u : Nat} (hu : u < 4) : q_Ac n R (84 + 19 * u) := by
  have h4 : u = 0 ∨ u = 1 ∨ u = 2 ∨ u = 3 := by omega
  rcases h4 with rfl | rfl | rfl | rfl
  · refine ⟨by decide, by decide, ⟨Nat.lt_of_lt_of_le (by decide) hK.1, rfl⟩, hK.2.1 _ _ _ rfl, ⟨Nat.lt_of_lt_of_le (by decide) hK.1, rfl⟩, hK.2.1 _ _ _ rfl, ⟨Nat.lt_of_lt_of_le (by decide) hK.1, rfl⟩, hK.2.1 _ _ _ rfl, ⟨Nat.lt_of_lt_of_le (by decide) hK.1, rfl⟩, hK.2.1 _ _ _ rfl, ⟨by decide, Nat.lt_of_lt_of_le (by decide) hK.1, rfl⟩, hK.2.1 _ _ _ rfl, ⟨Nat.lt_of_lt_of_le (by decide) hK.1, rfl⟩, hK.2.1 _ _ _ rfl, ⟨by decide, Nat.lt_of_lt_of_le (by decide) hK.1, rfl⟩, hK.2.1 _ _ _ rfl, ⟨Nat.lt_of_lt_of_le (by decide) hK.1, rfl⟩, hK.2.1 _ _ _ rfl, ⟨by decide, Nat.lt_of_lt_of_le (by decide) hK.1, rfl⟩, fun x h1 h2 => ?_⟩
    have hx : x = 93 ∨ x = 94 ∨ x = 95 ∨ x = 96 ∨ x = 97 ∨ x = 98 ∨ x = 99 ∨ x = 100 ∨ x = 101 ∨ x = 102 := by omega
    rcases hx with rfl | rfl | rfl | rfl | rfl | rfl | rfl | rfl | rfl | rfl
    all_goals exact ⟨Nat.lt_of_lt_of_le (by decide) hK.1, rfl⟩
  · refine ⟨by decide, by decide, ⟨Nat.lt_of_lt_of_le (by decide) hK.1, rfl⟩, hK.2.1 _ _ _ rfl, ⟨Nat.lt_of_lt_of_le (by decide) hK.1, rfl⟩, hK.2.1 _ _ _ rfl, ⟨Nat.lt_of_lt_of_le (by decide) hK.1, rfl⟩, hK.2.1 _ _ _ rfl, ⟨Nat.lt_of_lt_of_le (by decide) hK.1, rfl⟩, hK.2.1 _ _ _ rfl, ⟨by decide, Nat.lt_of_lt_of_le (by decide) hK.1, rfl⟩, hK.2.1 _ _ _ rfl, ⟨Nat.lt_of_lt_of_le (by decide) hK.1, rfl⟩, hK.2.1 _ _ _ rfl, ⟨by decide, Nat.lt_of_lt_of_le (by decide) hK.1, rfl⟩, hK.2.1 _ _ _ rfl, ⟨Nat.lt_of_lt_of_le (by decide) hK.1, rfl⟩, hK.2.1 _ _ _ rfl, ⟨by decide, Nat.lt_of_lt_of_le (by decide) hK.1, rfl⟩, fun x h1 h2 => ?_⟩
    have hx : x = 112 ∨ x = 113 ∨ x = 114 ∨ x = 115 ∨ x = 116 ∨ x = 117 ∨ x = 118 ∨ x = 119 ∨ x = 120 ∨ x = 121 := by omega
    rcases hx with rfl | rfl | rfl | rfl | rfl | rfl | rfl | rfl | rfl | rfl
    all_goals exact ⟨Nat.lt_of_lt_of_le (by decide) hK.1, rfl⟩
  · refine ⟨by decide, by decide, ⟨Nat.lt_of_lt_of_le (by decide) hK.1, rfl⟩, hK.2.1 _ _ _ rfl, ⟨Nat.lt_of_lt_of_le (by decide) hK.1, rfl⟩, hK.2.1 _ _ _ rfl, ⟨Nat.lt_of_lt_of_le (by decide) hK.1, rfl⟩, hK.2.1 _ _ _ rfl, ⟨Nat.lt_of_lt_of_le (by decide) hK.1, rfl⟩, hK.2.1 _ _ _ rfl, ⟨by decide, Nat.lt_of_lt_of_le (by decide) hK.1, rfl⟩, hK.2.1 _ _ _ rfl, ⟨Nat.lt_of_lt_of_le (by decide) hK.1, rfl⟩, hK.2.1 _ _ _ rfl, ⟨by decide, Nat.lt_of_lt_of_le (by decide) hK.1, rfl⟩, hK.2.1 _ _ _ rfl, ⟨Nat.lt_of_lt_of_le (by decide) hK.1, rfl⟩, hK.2.1 _ _ _ rfl, ⟨by decide, Nat.lt_of_lt_of_le (by decide) hK.1, rfl⟩, fun x h1 h2 => ?_⟩
    have hx : x = 131 ∨ x = 132 ∨ x = 133 ∨ x = 134 ∨ x = 135 ∨ x = 136 ∨ x = 137 ∨ x = 138 ∨ x = 139 ∨ x = 140 := by omega
    rcases hx with rfl | rfl | rfl | rfl | rfl | rfl | rfl | rfl | rfl | rfl
    all_goals exact ⟨Nat.lt_of_lt_of_le (by decide) hK.1, rfl⟩
  · refine ⟨by decide, by decide, ⟨Nat.lt_of_lt_of_le (by decide) hK.1, rfl⟩, hK.2.1 _ _ _ rfl, ⟨Nat.lt_of_lt_of_le (by decide) hK.1, rfl⟩, hK.2.1 _ _ _ rfl, ⟨Nat.lt_of_lt_of_le (by decide) hK.1, rfl⟩, hK.2.1 _ _ _ rfl, ⟨Nat.lt_of_lt_of_le (by decide) hK.1, rfl⟩, hK.2.1 _ _ _ rfl, ⟨by decide, Nat.lt_of_lt_of_le (by decide) hK.1, rfl⟩, hK.2.1 _ _ _ rfl, ⟨Nat.lt_of_lt_of_le (by decide) hK.1, rfl⟩, hK.2.1 _ _ _ rfl, ⟨by decide, Nat.lt_of_lt_of_le (by decide) hK.1, rfl⟩, hK.2.1 _ _ _ rfl, ⟨Nat.lt_of_lt_of_le (by decide) hK.1, rfl⟩, hK.2.1 _ _ _ rfl, ⟨by decide, Nat.lt_of_lt_of_le (by decide) hK.1, rfl⟩, fun x h1 h2 => ?_⟩
    have hx : x = 150 ∨ x = 151 ∨ x = 152 ∨ x = 153 ∨ x = 154 ∨ x = 155 ∨ x = 156 ∨ x = 157 ∨ x = 158 ∨ x = 159 := by omega
    rcases hx with rfl | rfl | rfl | rfl | rfl | rfl | rfl | rfl | rfl | rfl
    all_goals exact ⟨Nat.lt_of_lt_of_le (by decide) hK.1, rfl⟩
theorem q_kdS {t i : Nat} (h : t = 71 ∨ ∃ j, t = 214 + 10 * j) (hi : i < 10) : q_kd (t + i) = q_kS i := by
  rcases h with rfl | ⟨j, rfl⟩
  · have hx : i = 0 ∨ i = 1 ∨ i = 2 ∨ i = 3 ∨ i = 4 ∨ i = 5 ∨ i = 6 ∨ i = 7 ∨ i = 8 ∨ i = 9 := by omega
    rcases hx with rfl | rfl | rfl | rfl | rfl | rfl | rfl | rfl | rfl | rfl
    all_goals rfl
  · unfold q_kd
    have e1 : Nat.blt (214 + 10 * j + i) 84 = false := Bool.eq_false_iff.mpr (fun h => by rw [Nat.blt_eq] at h; omega)
    have e2 : Nat.blt (214 + 10 * j + i) 160 = false := Bool.eq_false_iff.mpr (fun h => by rw [Nat.blt_eq] at h; omega)
    have e3 : Nat.blt (214 + 10 * j + i) 192 = false := Bool.eq_false_iff.mpr (fun h => by rw [Nat.blt_eq] at h; omega)
    have e4 : Nat.blt (214 + 10 * j + i) 214 = false := Bool.eq_false_iff.mpr (fun h => by rw [Nat.blt_eq] at h; omega)
    rw [e1, e2, e3, e4, show (214 + 10 * j + i - 214) % 10 = i by omega]
    rfl
def q_Se (n : Nat) (R : q_R) (t : Nat) : Prop :=
  (t = 71 ∨ ∃ j, t = 214 + 10 * j) ∧
  (t + 10 ≤ n) ∧
  (R t 1 = some (t + 1)) ∧
  (R t 2 = some (t + 2)) ∧
  (R t 4 = some (t + 3)) ∧
  (R t 5 = some (t + 4)) ∧
  (R t 10 = some (t + 5)) ∧
  (R (t + 5) 1 = some (t + 6)) ∧
  (R (t + 5) 2 = some (t + 7)) ∧
  (R (t + 5) 3 = some (t + 8)) ∧
  (R t 15 = some (t + 9))
theorem q_Se.lo {n : Nat} {R : q_R} {t : Nat} (h : q_Se n R t) : t = 71 ∨ ∃ j, t = 214 + 10 * j := h.1
theorem q_Se.hi {n : Nat} {R : q_R} {t : Nat} (h : q_Se n R t) : t + 10 ≤ n := h.2.1
theorem q_Se.r1 {n : Nat} {R : q_R} {t : Nat} (h : q_Se n R t) : R t 1 = some (t + 1) := h.2.2.1
theorem q_Se.r2 {n : Nat} {R : q_R} {t : Nat} (h : q_Se n R t) : R t 2 = some (t + 2) := h.2.2.2.1
theorem q_Se.r4 {n : Nat} {R : q_R} {t : Nat} (h : q_Se n R t) : R t 4 = some (t + 3) := h.2.2.2.2.1
theorem q_Se.r5 {n : Nat} {R : q_R} {t : Nat} (h : q_Se n R t) : R t 5 = some (t + 4) := h.2.2.2.2.2.1
theorem q_Se.r10 {n : Nat} {R : q_R} {t : Nat} (h : q_Se n R t) : R t 10 = some (t + 5) := h.2.2.2.2.2.2.1
theorem q_Se.s1 {n : Nat} {R : q_R} {t : Nat} (h : q_Se n R t) : R (t + 5) 1 = some (t + 6) := h.2.2.2.2.2.2.2.1
theorem q_Se.s2 {n : Nat} {R : q_R} {t : Nat} (h : q_Se n R t) : R (t + 5) 2 = some (t + 7) := h.2.2.2.2.2.2.2.2.1
theorem q_Se.s3 {n : Nat} {R : q_R} {t : Nat} (h : q_Se n R t) : R (t + 5) 3 = some (t + 8) := h.2.2.2.2.2.2.2.2.2.1
theorem q_Se.r15 {n : Nat} {R : q_R} {t : Nat} (h : q_Se n R t) : R t 15 = some (t + 9) := h.2.2.2.2.2.2.2.2.2.2
theorem q_Se.ob {n : Nat} {R : q_R} {t : Nat} (h : q_Se n R t) : q_ob n t 5 := ⟨by have := h.hi; omega, q_kdS h.lo (i := 0) (by decide)⟩
theorem q_Se.o1 {n : Nat} {R : q_R} {t : Nat} (h : q_Se n R t) : q_ar n (t + 1) 0 8 := ⟨by rcases h.lo with e | ⟨j, e⟩ <;> omega, by have := h.hi; omega, q_kdS h.lo (i := 1) (by decide)⟩
theorem q_Se.o2 {n : Nat} {R : q_R} {t : Nat} (h : q_Se n R t) : q_ob n (t + 2) 1 := ⟨by have := h.hi; omega, q_kdS h.lo (i := 2) (by decide)⟩
theorem q_Se.o3 {n : Nat} {R : q_R} {t : Nat} (h : q_Se n R t) : q_ar n (t + 3) 0 8 := ⟨by rcases h.lo with e | ⟨j, e⟩ <;> omega, by have := h.hi; omega, q_kdS h.lo (i := 3) (by decide)⟩
theorem q_Se.o4 {n : Nat} {R : q_R} {t : Nat} (h : q_Se n R t) : q_ar n (t + 4) 0 8 := ⟨by rcases h.lo with e | ⟨j, e⟩ <;> omega, by have := h.hi; omega, q_kdS h.lo (i := 4) (by decide)⟩
theorem q_Se.o5 {n : Nat} {R : q_R} {t : Nat} (h : q_Se n R t) : q_ob n (t + 5) 4 := ⟨by have := h.hi; omega, q_kdS h.lo (i := 5) (by decide)⟩
theorem q_Se.o6 {n : Nat} {R : q_R} {t : Nat} (h : q_Se n R t) : q_ar n (t + 6) 0 28 := ⟨by rcases h.lo with e | ⟨j, e⟩ <;> omega, by have := h.hi; omega, q_kdS h.lo (i := 6) (by decide)⟩
theorem q_Se.o7 {n : Nat} {R : q_R} {t : Nat} (h : q_Se n R t) : q_ar n (t + 7) 0 28 := ⟨by rcases h.lo with e | ⟨j, e⟩ <;> omega, by have := h.hi; omega, q_kdS h.lo (i := 7) (by decide)⟩
theorem q_Se.o8 {n : Nat} {R : q_R} {t : Nat} (h : q_Se n R t) : q_ar n (t + 8) 0 224 := ⟨by rcases h.lo with e | ⟨j, e⟩ <;> omega, by have := h.hi; omega, q_kdS h.lo (i := 8) (by decide)⟩
theorem q_Se.o9 {n : Nat} {R : q_R} {t : Nat} (h : q_Se n R t) : q_ar n (t + 9) 0 8 := ⟨by rcases h.lo with e | ⟨j, e⟩ <;> omega, by have := h.hi; omega, q_kdS h.lo (i := 9) (by decide)⟩
theorem q_Se.to {n n2 : Nat} {R R2 : q_R} {t : Nat} (h : q_Se n R t) (hn : n ≤ n2) (h0 : R2 t = R t) (h5 : R2 (t + 5) = R (t + 5)) : q_Se n2 R2 t := by
  obtain ⟨a, b, c⟩ := h
  refine ⟨a, by omega, ?_⟩
  rw [h0, h5]
  exact c
theorem Int32.g_le1 {v : Int32} : nI 2147483646 < v ↔ nI 2147483647 ≤ v := by
  rw [Int32.lt_iff_toInt_lt, Int32.le_iff_toInt_le, nI_toInt (by decide), nI_toInt (by decide)]
  omega
def g_key (v : Int32) : Int32 := if v < nI 1 then nI 0 else if nI 2147483646 < v then nI 0 else nI 1
