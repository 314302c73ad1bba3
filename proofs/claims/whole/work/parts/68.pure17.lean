/-! how all is made -/
def q_acI (I : q_I) (R : q_R) (a : Nat) (v : Int32) : Prop :=
  (R a 2 = some (a + 1)) ∧
  (R a 3 = some (a + 2)) ∧
  (R a 4 = some (a + 3)) ∧
  (R a 6 = some (a + 4)) ∧
  (R a 8 = some (a + 5)) ∧
  (R (a + 5) 4 = some (a + 6)) ∧
  (R a 9 = some (a + 7)) ∧
  (R a 10 = some (a + 8)) ∧
  (∀ k, k < 10 → R (a + 4) k = some (a + 9 + k)) ∧
  (∀ x, a ≤ x → x < a + 19 → x ≠ a + 8 → x ≠ a + 4 → ∀ j, I x j = 0) ∧
  (I (a + 8) 2 = v) ∧
  (∀ j, j ≠ 2 → I (a + 8) j = 0)
theorem q_acI.r2 {I : q_I} {R : q_R} {a : Nat} {v : Int32} (h : q_acI I R a v) : R a 2 = some (a + 1) := h.1
theorem q_acI.r3 {I : q_I} {R : q_R} {a : Nat} {v : Int32} (h : q_acI I R a v) : R a 3 = some (a + 2) := h.2.1
theorem q_acI.r4 {I : q_I} {R : q_R} {a : Nat} {v : Int32} (h : q_acI I R a v) : R a 4 = some (a + 3) := h.2.2.1
theorem q_acI.r6 {I : q_I} {R : q_R} {a : Nat} {v : Int32} (h : q_acI I R a v) : R a 6 = some (a + 4) := h.2.2.2.1
theorem q_acI.r8 {I : q_I} {R : q_R} {a : Nat} {v : Int32} (h : q_acI I R a v) : R a 8 = some (a + 5) := h.2.2.2.2.1
theorem q_acI.re {I : q_I} {R : q_R} {a : Nat} {v : Int32} (h : q_acI I R a v) : R (a + 5) 4 = some (a + 6) := h.2.2.2.2.2.1
theorem q_acI.r9 {I : q_I} {R : q_R} {a : Nat} {v : Int32} (h : q_acI I R a v) : R a 9 = some (a + 7) := h.2.2.2.2.2.2.1
theorem q_acI.r10 {I : q_I} {R : q_R} {a : Nat} {v : Int32} (h : q_acI I R a v) : R a 10 = some (a + 8) := h.2.2.2.2.2.2.2.1
theorem q_acI.rp {I : q_I} {R : q_R} {a : Nat} {v : Int32} (h : q_acI I R a v) : ∀ k, k < 10 → R (a + 4) k = some (a + 9 + k) := h.2.2.2.2.2.2.2.2.1
theorem q_acI.z {I : q_I} {R : q_R} {a : Nat} {v : Int32} (h : q_acI I R a v) : ∀ x, a ≤ x → x < a + 19 → x ≠ a + 8 → x ≠ a + 4 → ∀ j, I x j = 0 := h.2.2.2.2.2.2.2.2.2.1
theorem q_acI.s2 {I : q_I} {R : q_R} {a : Nat} {v : Int32} (h : q_acI I R a v) : I (a + 8) 2 = v := h.2.2.2.2.2.2.2.2.2.2.1
theorem q_acI.sz {I : q_I} {R : q_R} {a : Nat} {v : Int32} (h : q_acI I R a v) : ∀ j, j ≠ 2 → I (a + 8) j = 0 := h.2.2.2.2.2.2.2.2.2.2.2
theorem q_acI_to {I I2 : q_I} {R R2 : q_R} {a : Nat} {v : Int32} (h : q_acI I R a v) (hI : ∀ x, a ≤ x → x < a + 19 → I2 x = I x) (hR : ∀ x, a ≤ x → x < a + 19 → R2 x = R x) : q_acI I2 R2 a v := by
  obtain ⟨a0, a1, a2, a3, a4, a5, a6, a7, a8, a9, a10, a11⟩ := h
  have r0 := hR a (by omega) (by omega)
  have r5 := hR (a + 5) (by omega) (by omega)
  have r4 := hR (a + 4) (by omega) (by omega)
  have i8 := hI (a + 8) (by omega) (by omega)
  exact ⟨by rw [r0]; exact a0, by rw [r0]; exact a1, by rw [r0]; exact a2, by rw [r0]; exact a3, by rw [r0]; exact a4, by rw [r5]; exact a5, by rw [r0]; exact a6, by rw [r0]; exact a7, by rw [r4]; exact a8, fun x h1 h2 h3 h4 j => by rw [hI x h1 h2]; exact a9 x h1 h2 h3 h4 j, by rw [i8]; exact a10, by rw [i8]; exact a11⟩
def q_b (c : Nat) (I : q_I) (J : q_L) (R : q_R) : Prop :=
  (R 3 0 = some 4) ∧
  (R 3 1 = some 8) ∧
  (R 3 2 = some 9) ∧
  (R 3 3 = some 10) ∧
  (R 3 6 = some 71) ∧
  (R 3 7 = some 81) ∧
  (R 3 8 = some 82) ∧
  (R 3 9 = some 83) ∧
  (R 4 0 = some 5) ∧
  (R 4 1 = some 6) ∧
  (R 4 2 = some 7) ∧
  (∀ k, k < 60 → R 10 k = some (11 + k)) ∧
  (q_Se c R 71) ∧
  (I 3 4 = nI 0) ∧
  (J 3 5 = lN 0) ∧
  (∀ e k, e < 60 → J (11 + e) k = lN 0) ∧
  (∀ u, u < 4 → 84 + 19 * u + 19 ≤ c → R 8 u = some (84 + 19 * u) ∧ q_acI I R (84 + 19 * u) (nI u)) ∧
  (∀ p, p < 16 → 160 + 2 * p + 2 ≤ c → R 9 p = some (160 + 2 * p) ∧ R (160 + 2 * p) 0 = some (160 + 2 * p + 1) ∧ I (160 + 2 * p) 1 = nI 0)
theorem q_b.r30 {c : Nat} {I : q_I} {J : q_L} {R : q_R} (h : q_b c I J R) : R 3 0 = some 4 := h.1
theorem q_b.r31 {c : Nat} {I : q_I} {J : q_L} {R : q_R} (h : q_b c I J R) : R 3 1 = some 8 := h.2.1
theorem q_b.r32 {c : Nat} {I : q_I} {J : q_L} {R : q_R} (h : q_b c I J R) : R 3 2 = some 9 := h.2.2.1
theorem q_b.r33 {c : Nat} {I : q_I} {J : q_L} {R : q_R} (h : q_b c I J R) : R 3 3 = some 10 := h.2.2.2.1
theorem q_b.r36 {c : Nat} {I : q_I} {J : q_L} {R : q_R} (h : q_b c I J R) : R 3 6 = some 71 := h.2.2.2.2.1
theorem q_b.r37 {c : Nat} {I : q_I} {J : q_L} {R : q_R} (h : q_b c I J R) : R 3 7 = some 81 := h.2.2.2.2.2.1
theorem q_b.r38 {c : Nat} {I : q_I} {J : q_L} {R : q_R} (h : q_b c I J R) : R 3 8 = some 82 := h.2.2.2.2.2.2.1
theorem q_b.r39 {c : Nat} {I : q_I} {J : q_L} {R : q_R} (h : q_b c I J R) : R 3 9 = some 83 := h.2.2.2.2.2.2.2.1
theorem q_b.r40 {c : Nat} {I : q_I} {J : q_L} {R : q_R} (h : q_b c I J R) : R 4 0 = some 5 := h.2.2.2.2.2.2.2.2.1
theorem q_b.r41 {c : Nat} {I : q_I} {J : q_L} {R : q_R} (h : q_b c I J R) : R 4 1 = some 6 := h.2.2.2.2.2.2.2.2.2.1
theorem q_b.r42 {c : Nat} {I : q_I} {J : q_L} {R : q_R} (h : q_b c I J R) : R 4 2 = some 7 := h.2.2.2.2.2.2.2.2.2.2.1
theorem q_b.r10 {c : Nat} {I : q_I} {J : q_L} {R : q_R} (h : q_b c I J R) : ∀ k, k < 60 → R 10 k = some (11 + k) := h.2.2.2.2.2.2.2.2.2.2.2.1
theorem q_b.se {c : Nat} {I : q_I} {J : q_L} {R : q_R} (h : q_b c I J R) : q_Se c R 71 := h.2.2.2.2.2.2.2.2.2.2.2.2.1
theorem q_b.i34 {c : Nat} {I : q_I} {J : q_L} {R : q_R} (h : q_b c I J R) : I 3 4 = nI 0 := h.2.2.2.2.2.2.2.2.2.2.2.2.2.1
theorem q_b.j35 {c : Nat} {I : q_I} {J : q_L} {R : q_R} (h : q_b c I J R) : J 3 5 = lN 0 := h.2.2.2.2.2.2.2.2.2.2.2.2.2.2.1
theorem q_b.jl {c : Nat} {I : q_I} {J : q_L} {R : q_R} (h : q_b c I J R) : ∀ e k, e < 60 → J (11 + e) k = lN 0 := h.2.2.2.2.2.2.2.2.2.2.2.2.2.2.2.1
theorem q_b.ac {c : Nat} {I : q_I} {J : q_L} {R : q_R} (h : q_b c I J R) : ∀ u, u < 4 → 84 + 19 * u + 19 ≤ c → R 8 u = some (84 + 19 * u) ∧ q_acI I R (84 + 19 * u) (nI u) := h.2.2.2.2.2.2.2.2.2.2.2.2.2.2.2.2.1
theorem q_b.li {c : Nat} {I : q_I} {J : q_L} {R : q_R} (h : q_b c I J R) : ∀ p, p < 16 → 160 + 2 * p + 2 ≤ c → R 9 p = some (160 + 2 * p) ∧ R (160 + 2 * p) 0 = some (160 + 2 * p + 1) ∧ I (160 + 2 * p) 1 = nI 0 := h.2.2.2.2.2.2.2.2.2.2.2.2.2.2.2.2.2
theorem q_b_to {c c2 : Nat} {I I2 : q_I} {J J2 : q_L} {R R2 : q_R} (h : q_b c I J R) (hc : c ≤ c2) (hc0 : 84 ≤ c) (hI : ∀ x, 3 ≤ x → x < c → I2 x = I x ∧ J2 x = J x) (hR : ∀ x, x < c → x ≠ 8 → x ≠ 9 → R2 x = R x)
    (hac : ∀ u, u < 4 → 84 + 19 * u + 19 ≤ c2 → R2 8 u = some (84 + 19 * u) ∧ (84 + 19 * u + 19 ≤ c ∨ q_acI I2 R2 (84 + 19 * u) (nI u))) (hli : ∀ p, p < 16 → 160 + 2 * p + 2 ≤ c2 → R2 9 p = some (160 + 2 * p) ∧ (160 + 2 * p + 2 ≤ c ∨ (R2 (160 + 2 * p) 0 = some (160 + 2 * p + 1) ∧ I2 (160 + 2 * p) 1 = nI 0))) : q_b c2 I2 J2 R2 := by
  refine ⟨by rw [hR 3 (by omega) (by omega) (by omega)]; exact h.r30, by rw [hR 3 (by omega) (by omega) (by omega)]; exact h.r31, by rw [hR 3 (by omega) (by omega) (by omega)]; exact h.r32, by rw [hR 3 (by omega) (by omega) (by omega)]; exact h.r33, by rw [hR 3 (by omega) (by omega) (by omega)]; exact h.r36, by rw [hR 3 (by omega) (by omega) (by omega)]; exact h.r37, by rw [hR 3 (by omega) (by omega) (by omega)]; exact h.r38, by rw [hR 3 (by omega) (by omega) (by omega)]; exact h.r39, by rw [hR 4 (by omega) (by omega) (by omega)]; exact h.r40, by rw [hR 4 (by omega) (by omega) (by omega)]; exact h.r41, by rw [hR 4 (by omega) (by omega) (by omega)]; exact h.r42, ?_, h.se.to hc (hR 71 (by omega) (by omega) (by omega)) (hR 76 (by omega) (by omega) (by omega)), ?_, ?_, ?_, fun u hu hu2 => ?_, fun p hp hp2 => ?_⟩
  · rw [hR 10 (by omega) (by omega) (by omega)]; exact h.r10
  · rw [(hI 3 (by omega) (by omega)).1]; exact h.i34
  · rw [(hI 3 (by omega) (by omega)).2]; exact h.j35
  · intro e k he; rw [(hI (11 + e) (by omega) (by omega)).2]; exact h.jl e k he
  · obtain ⟨a, b⟩ := hac u hu hu2
    refine ⟨a, b.elim (fun q => ?_) (fun q => q)⟩
    exact q_acI_to (h.ac u hu q).2 (fun x h1 h2 => (hI x (by omega) (by omega)).1) (fun x h1 h2 => hR x (by omega) (by omega) (by omega))
  · obtain ⟨a, b⟩ := hli p hp hp2
    refine ⟨a, b.elim (fun q => ?_) (fun q => q)⟩
    obtain ⟨-, k1, k2⟩ := h.li p hp q
    exact ⟨by rw [hR _ (by omega) (by omega) (by omega)]; exact k1, by rw [(hI _ (by omega) (by omega)).1]; exact k2⟩
theorem q_b_acc {u : Nat} {I I2 : q_I} {J J2 : q_L} {R R2 : q_R} (h : q_b (84 + 19 * u) I J R) (hu : u < 4) (hI : ∀ x, 3 ≤ x → x < 84 + 19 * u → I2 x = I x ∧ J2 x = J x) (hR : ∀ x, x < 84 + 19 * u → x ≠ 8 → R2 x = R x) (h8 : R2 8 = va_up (R 8) u (some (84 + 19 * u))) (hq : q_acI I2 R2 (84 + 19 * u) (nI u)) : q_b (84 + 19 * u + 19) I2 J2 R2 := by
  refine q_b_to h (by omega) (by omega) hI (fun x h1 h2 _ => hR x h1 h2) (fun w hw hw2 => ?_) (fun p hp hp2 => by omega)
  rw [h8]
  by_cases e : w = u
  · subst e; exact ⟨va_up_self _ _ _, Or.inr hq⟩
  · rw [va_up_ne _ _ e]; exact ⟨(h.ac w hw (by omega)).1, Or.inl (by omega)⟩
theorem q_b_li {p : Nat} {I I2 : q_I} {J J2 : q_L} {R R2 : q_R} (h : q_b (160 + 2 * p) I J R) (hp : p < 16) (hI : ∀ x, 3 ≤ x → x < 160 + 2 * p → I2 x = I x ∧ J2 x = J x) (hR : ∀ x, x < 160 + 2 * p → x ≠ 9 → R2 x = R x) (h9 : R2 9 = va_up (R 9) p (some (160 + 2 * p))) (hr : R2 (160 + 2 * p) 0 = some (160 + 2 * p + 1)) (hz : I2 (160 + 2 * p) 1 = nI 0) : q_b (160 + 2 * p + 2) I2 J2 R2 := by
  refine q_b_to h (by omega) (by omega) hI (fun x h1 _ h2 => hR x h1 h2) (fun w hw hw2 => ?_) (fun q hq hq2 => ?_)
  · rw [hR 8 (by omega) (by omega)]; exact ⟨(h.ac w hw (by omega)).1, Or.inl (by omega)⟩
  · rw [h9]
    by_cases e : q = p
    · subst e; exact ⟨va_up_self _ _ _, Or.inr ⟨hr, hz⟩⟩
    · rw [va_up_ne _ _ e]; exact ⟨(h.li q hq (by omega)).1, Or.inl (by omega)⟩
theorem q_nb {a b : Nat} (h : a ≠ b) : Nat.beq a b = false := Bool.eq_false_iff.mpr (fun q => h (by rw [Nat.beq_eq] at q; exact q))
theorem q_nl {a b : Nat} (h : ¬ a < b) : Nat.blt a b = false := Bool.eq_false_iff.mpr (fun q => h (by rw [Nat.blt_eq] at q; exact q))
theorem q_lt {a b : Nat} (h : a < b) : Nat.blt a b = true := by rw [Nat.blt_eq]; exact h
theorem q_fx_of {R : q_R} (h3 : R 3 0 = some 4 ∧ R 3 1 = some 8 ∧ R 3 2 = some 9 ∧ R 3 3 = some 10 ∧ R 3 7 = some 81 ∧ R 3 8 = some 82 ∧ R 3 9 = some 83) (h4 : R 4 0 = some 5 ∧ R 4 1 = some 6 ∧ R 4 2 = some 7) (h8 : ∀ k, k < 4 → R 8 k = some (84 + 19 * k)) (h9 : ∀ k, k < 16 → R 9 k = some (160 + 2 * k)) (h10 : ∀ k, k < 60 → R 10 k = some (11 + k))
    (ha : ∀ u, u < 4 → R (84 + 19 * u) 2 = some (84 + 19 * u + 1) ∧ R (84 + 19 * u) 3 = some (84 + 19 * u + 2) ∧ R (84 + 19 * u) 4 = some (84 + 19 * u + 3) ∧ R (84 + 19 * u) 6 = some (84 + 19 * u + 4) ∧ R (84 + 19 * u) 8 = some (84 + 19 * u + 5) ∧ R (84 + 19 * u) 9 = some (84 + 19 * u + 7) ∧ R (84 + 19 * u) 10 = some (84 + 19 * u + 8) ∧ R (84 + 19 * u + 5) 4 = some (84 + 19 * u + 6))
    (hl : ∀ p, p < 16 → R (160 + 2 * p) 0 = some (160 + 2 * p + 1)) (hm : ∀ k, k < 16 → R 192 k = some (193 + k)) (hm2 : ∀ k, 18 ≤ k → k < 23 → R 192 k = some (191 + k)) : ∀ a k b, q_fx a k = some b → R a k = some b := by
  intro a k b h
  unfold q_fx at h
  by_cases a3 : a = 3
  · subst a3
    replace h : (bif Nat.beq k 0 then some 4 else bif Nat.beq k 1 then some 8 else bif Nat.beq k 2 then some 9 else bif Nat.beq k 3 then some 10 else bif Nat.beq k 7 then some 81 else bif Nat.beq k 8 then some 82 else bif Nat.beq k 9 then some 83 else none) = some b := h
    by_cases k0 : k = 0
    · subst k0; rw [h3.1]; exact h
    by_cases k1 : k = 1
    · subst k1; rw [h3.2.1]; exact h
    by_cases k2 : k = 2
    · subst k2; rw [h3.2.2.1]; exact h
    by_cases k3 : k = 3
    · subst k3; rw [h3.2.2.2.1]; exact h
    by_cases k7 : k = 7
    · subst k7; rw [h3.2.2.2.2.1]; exact h
    by_cases k8 : k = 8
    · subst k8; rw [h3.2.2.2.2.2.1]; exact h
    by_cases k9 : k = 9
    · subst k9; rw [h3.2.2.2.2.2.2]; exact h
    rw [q_nb k0, q_nb k1, q_nb k2, q_nb k3, q_nb k7, q_nb k8, q_nb k9] at h
    exact absurd h (by simp)
  rw [q_nb a3] at h
  by_cases a4 : a = 4
  · subst a4
    replace h : (bif Nat.beq k 0 then some 5 else bif Nat.beq k 1 then some 6 else bif Nat.beq k 2 then some 7 else none) = some b := h
    by_cases k0 : k = 0
    · subst k0; rw [h4.1]; exact h
    by_cases k1 : k = 1
    · subst k1; rw [h4.2.1]; exact h
    by_cases k2 : k = 2
    · subst k2; rw [h4.2.2]; exact h
    rw [q_nb k0, q_nb k1, q_nb k2] at h
    exact absurd h (by simp)
  rw [q_nb a4] at h
  by_cases a8 : a = 8
  · subst a8
    replace h : (bif Nat.blt k 4 then some (84 + 19 * k) else none) = some b := h
    by_cases c : k < 4
    · rw [q_lt c] at h; rw [h8 k c]; exact h
    · rw [q_nl c] at h; exact absurd h (by simp)
  rw [q_nb a8] at h
  by_cases a9 : a = 9
  · subst a9
    replace h : (bif Nat.blt k 16 then some (160 + 2 * k) else none) = some b := h
    by_cases c : k < 16
    · rw [q_lt c] at h; rw [h9 k c]; exact h
    · rw [q_nl c] at h; exact absurd h (by simp)
  rw [q_nb a9] at h
  by_cases a10 : a = 10
  · subst a10
    replace h : (bif Nat.blt k 60 then some (11 + k) else none) = some b := h
    by_cases c : k < 60
    · rw [q_lt c] at h; rw [h10 k c]; exact h
    · rw [q_nl c] at h; exact absurd h (by simp)
  rw [q_nb a10] at h
  by_cases b84 : a < 84
  · rw [q_lt b84] at h; exact absurd h (by simp)
  rw [q_nl b84] at h
  by_cases b160 : a < 160
  · rw [q_lt b160] at h
    replace h : (bif Nat.beq ((a - 84) % 19) 0 then (bif Nat.beq k 2 then some (a + 1) else bif Nat.beq k 3 then some (a + 2) else bif Nat.beq k 4 then some (a + 3) else bif Nat.beq k 6 then some (a + 4) else bif Nat.beq k 8 then some (a + 5) else bif Nat.beq k 9 then some (a + 7) else bif Nat.beq k 10 then some (a + 8) else none) else
      bif Nat.beq ((a - 84) % 19) 5 then (bif Nat.beq k 4 then some (a + 1) else none) else none) = some b := h
    by_cases m0 : (a - 84) % 19 = 0
    · obtain ⟨u, hu, rfl⟩ : ∃ u, u < 4 ∧ a = 84 + 19 * u := ⟨(a - 84) / 19, by omega, by omega⟩
      rw [m0] at h
      obtain ⟨g2, g3, g4, g6, g8, g9, g10, -⟩ := ha u hu
      replace h : (bif Nat.beq k 2 then some (84 + 19 * u + 1) else bif Nat.beq k 3 then some (84 + 19 * u + 2) else bif Nat.beq k 4 then some (84 + 19 * u + 3) else bif Nat.beq k 6 then some (84 + 19 * u + 4) else bif Nat.beq k 8 then some (84 + 19 * u + 5) else bif Nat.beq k 9 then some (84 + 19 * u + 7) else bif Nat.beq k 10 then some (84 + 19 * u + 8) else none) = some b := h
      by_cases k2 : k = 2
      · subst k2; rw [g2]; exact h
      by_cases k3 : k = 3
      · subst k3; rw [g3]; exact h
      by_cases k4 : k = 4
      · subst k4; rw [g4]; exact h
      by_cases k6 : k = 6
      · subst k6; rw [g6]; exact h
      by_cases k8 : k = 8
      · subst k8; rw [g8]; exact h
      by_cases k9 : k = 9
      · subst k9; rw [g9]; exact h
      by_cases k10 : k = 10
      · subst k10; rw [g10]; exact h
      rw [q_nb k2, q_nb k3, q_nb k4, q_nb k6, q_nb k8, q_nb k9, q_nb k10] at h
      exact absurd h (by simp)
    rw [q_nb m0] at h
    by_cases m5 : (a - 84) % 19 = 5
    · obtain ⟨u, hu, rfl⟩ : ∃ u, u < 4 ∧ a = 84 + 19 * u + 5 := ⟨(a - 84) / 19, by omega, by omega⟩
      rw [m5] at h
      replace h : (bif Nat.beq k 4 then some (84 + 19 * u + 5 + 1) else none) = some b := h
      by_cases k4 : k = 4
      · subst k4; rw [(ha u hu).2.2.2.2.2.2.2]; exact h
      · rw [q_nb k4] at h; exact absurd h (by simp)
    · rw [q_nb m5] at h; exact absurd h (by simp)
  rw [q_nl b160] at h
  by_cases b192 : a < 192
  · rw [q_lt b192] at h
    replace h : (bif Nat.beq (a % 2) 0 then (bif Nat.beq k 0 then some (a + 1) else none) else none) = some b := h
    by_cases m0 : a % 2 = 0
    · obtain ⟨p, hp, rfl⟩ : ∃ p, p < 16 ∧ a = 160 + 2 * p := ⟨(a - 160) / 2, by omega, by omega⟩
      rw [m0] at h
      replace h : (bif Nat.beq k 0 then some (160 + 2 * p + 1) else none) = some b := h
      by_cases k0 : k = 0
      · subst k0; rw [hl p hp]; exact h
      · rw [q_nb k0] at h; exact absurd h (by simp)
    · rw [q_nb m0] at h; exact absurd h (by simp)
  rw [q_nl b192] at h
  by_cases a192 : a = 192
  · subst a192
    replace h : (bif Nat.blt k 16 then some (193 + k) else bif Nat.blt k 18 then none else bif Nat.blt k 23 then some (191 + k) else none) = some b := h
    by_cases c : k < 16
    · rw [q_lt c] at h; rw [hm k c]; exact h
    · rw [q_nl c] at h
      by_cases c2 : k < 18
      · rw [q_lt c2] at h; exact absurd h (by simp)
      · rw [q_nl c2] at h
        by_cases c3 : k < 23
        · rw [q_lt c3] at h; rw [hm2 k (by omega) c3]; exact h
        · rw [q_nl c3] at h; exact absurd h (by simp)
  · rw [q_nb a192] at h; exact absurd h (by simp)
