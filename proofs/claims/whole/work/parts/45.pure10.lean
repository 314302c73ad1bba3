/-! public keys are not zero; the upper half -/
theorem g_times_n {a b : Nat} (ha : a < 2147483647) (hb : b < 2147483647) : g_times (nI a) (nI b) = nI (a * b % 2147483647) := by
  have h : a * b < 2147483647 * 2147483647 := Nat.mul_lt_mul'' ha hb
  unfold g_times
  rw [nI_l (by omega), nI_l (by omega), lN_mul, pk_lRem (by omega) (by decide) (by decide), lN_i]
def g_cop (x : Int32) : Prop := ∃ s : Nat, x = nI s ∧ s < 2147483647 ∧ Nat.gcd s 2147483647 = 1
theorem g_cop_t {x y : Int32} (hx : g_cop x) (hy : g_cop y) : g_cop (g_times x y) := by
  obtain ⟨a, rfl, ha, ga⟩ := hx
  obtain ⟨b, rfl, hb, gb⟩ := hy
  refine ⟨a * b % 2147483647, g_times_n ha hb, Nat.mod_lt _ (by decide), ?_⟩
  have h1 : Nat.gcd (a * b) 2147483647 = 1 := Nat.Coprime.mul_left ga gb
  rw [← Nat.gcd_rec 2147483647 (a * b), Nat.gcd_comm]
  exact h1
theorem g_cop_p {b : Int32} (hb : g_cop b) (e : Int32) : ∀ k, g_cop (g_pit b e k).1 ∧ g_cop (g_pit b e k).2
  | 0 => ⟨⟨1, rfl, by decide, by decide⟩, hb⟩
  | k + 1 => by
    obtain ⟨h1, h2⟩ := g_cop_p hb e k
    show g_cop (g_pst e k (g_pit b e k)).1 ∧ g_cop (g_pst e k (g_pit b e k)).2
    unfold g_pst
    refine ⟨?_, g_cop_t h2 h2⟩
    show g_cop (if g_bk e k = nI 1 then g_times (g_pit b e k).1 (g_pit b e k).2 else (g_pit b e k).1)
    split
    · exact g_cop_t h1 h2
    · exact h1
theorem g_pub_ne (x : Int32) : ¬ g_pub x = 0 := by
  intro h
  obtain ⟨s, hs, hl, hg⟩ := (g_cop_p (b := nI 7) ⟨7, rfl, by decide, by decide⟩ x 31).1
  have h2 : nI s = nI 0 := hs.symm.trans h
  rw [nI_eq (by omega) (by decide)] at h2
  subst h2
  exact absurd hg (by decide)
theorem g_up_u (z : Int64) : (z.toUInt64 >>> ((nI 32).toInt64.toUInt64 &&& Int64.toUInt64 63)).toInt64.toInt32 = g_up z := by
  unfold g_up
  apply Int32.toBitVec_inj.mp
  have e1 : ((nI 32).toInt64.toUInt64 &&& Int64.toUInt64 63) = 32 := by decide +kernel
  have e2 : ((nI 32).toInt64 &&& 63) = 32 := by decide +kernel
  rw [e1, e2]
  apply BitVec.eq_of_getLsbD_eq
  intro i hi
  rw [Int64.toBitVec_toInt32, Int64.toBitVec_toInt32, BitVec.getLsbD_signExtend, BitVec.getLsbD_signExtend, if_pos (show i < 64 by omega), if_pos (show i < 64 by omega)]
  have s1 : (z.toUInt64 >>> 32).toInt64.toBitVec = z.toBitVec >>> 32 := by
    show (z.toUInt64 >>> 32).toBitVec = _
    rw [UInt64.toBitVec_shiftRight]
    rfl
  have s2 : (z >>> (32 : Int64)).toBitVec = z.toBitVec.sshiftRight 32 := by
    rw [Int64.toBitVec_shiftRight]
    rfl
  rw [s1, s2, BitVec.getLsbD_sshiftRight]
  rw [show z.toBitVec >>> 32 = z.toBitVec.ushiftRight 32 from rfl]
  rw [show (z.toBitVec.ushiftRight 32).getLsbD i = z.toBitVec.getLsbD (32 + i) from BitVec.getLsbD_ushiftRight ..]
  rw [if_pos (show 32 + i < 64 by omega)]
  simp [show ¬ 64 ≤ i by omega]
/-! what belongs to a user; an account of the class and the reference's rows -/
def q_own (v r j : Nat) : Prop := ((r = 193 ∨ r = 194 ∨ r = 195 ∨ r = 196 ∨ r = 201 ∨ r = 204) ∧ j = v) ∨ ((r = 197 ∨ r = 198 ∨ r = 199) ∧ 2 * v ≤ j ∧ j < 2 * v + 2) ∨ (r = 200 ∧ 20 * v ≤ j ∧ j < 20 * v + 20) ∨ (r = 202 ∧ 4 * v ≤ j ∧ j < 4 * v + 4) ∨ (r = 203 ∧ 6 * v ≤ j ∧ j < 6 * v + 6)
def q_eu (A B : q_I) (v : Nat) : Prop := ∀ r j, q_own v r j → A r j = B r j
theorem q_eu_rf (A : q_I) (v : Nat) : q_eu A A v := fun _ _ _ => rfl
theorem q_eu_up {A B : q_I} {u v r j : Nat} {x : Int32} (h : q_eu A B v) (ho : q_own u r j) (huv : u ≠ v) : q_eu (q_up A r j x) B v := by
  intro r2 j2 h2
  rw [← h r2 j2 h2]
  by_cases e : r2 = r
  · subst e
    refine q_usn (fun e2 => huv ?_)
    subst e2
    unfold q_own at ho h2
    omega
  · rw [q_un e]
theorem f_draw_eu {A B : q_I} {u v : Nat} (h : q_eu A B v) (huv : u ≠ v) : q_eu (f_draw u A) B v := q_eu_up h (by unfold q_own; omega) huv
theorem f_sign_eu {A B : q_I} {u v : Nat} (h : q_eu A B v) (huv : u ≠ v) : q_eu (f_sign u A) B v := by
  unfold f_sign f_sg2
  refine q_eu_up (u := u) (q_eu_up (u := u) (q_eu_up (u := u) (q_eu_up (u := u) (f_draw_eu ?_ huv) ?_ huv) ?_ huv) ?_ huv) ?_ huv
  · unfold f_sg1
    exact q_eu_up (u := u) (q_eu_up (u := u) (f_draw_eu h huv) (by unfold q_own; omega) huv) (by unfold q_own; omega) huv
  all_goals (unfold q_own; omega)
theorem f_reg_eu {A B : q_I} {u v : Nat} {z : Int64} (h : q_eu A B v) (huv : u ≠ v) : q_eu (f_reg u z A) B v := by
  unfold f_reg
  refine f_sign_eu (q_eu_up (u := u) (q_eu_up (u := u) (f_draw_eu (q_eu_up (u := u) (q_eu_up (u := u) (q_eu_up (u := u) h ?_ huv) ?_ huv) ?_ huv) huv) ?_ huv) ?_ huv) huv
  all_goals (unfold q_own; omega)
theorem f_pk1_eu {A B : q_I} {u v f c : Nat} (h : q_eu A B v) (huv : u ≠ v) (hf : f < 6) (hc : c < 10) : q_eu (f_pk1 u f c A) B v := by
  unfold f_pk1
  refine q_eu_up (u := u) (q_eu_up (u := u) (q_eu_up (u := u) (q_eu_up (u := u) (q_eu_up (u := u) (f_draw_eu h huv) ?_ huv) ?_ huv) ?_ huv) ?_ huv) ?_ huv
  all_goals (unfold q_own; omega)
def c_A (I : q_I) (R : q_R) (M : q_I) (a : Nat) (u : Nat) : Prop :=
  (I a 0 = M 193 u) ∧
  (q_bz (M 193 u)) ∧
  (I a 1 = M 196 u) ∧
  (I (a + 1) 0 = M 197 (2 * u)) ∧
  (I (a + 1) 1 = M 197 (2 * u + 1)) ∧
  (I (a + 2) 0 = M 198 (2 * u)) ∧
  (I (a + 2) 1 = M 198 (2 * u + 1)) ∧
  ((I a 5 = nI 0 ∧ M 199 (2 * u + 1) = 0) ∨ (I a 5 = nI 1 ∧ ¬ M 199 (2 * u + 1) = 0 ∧ I (a + 3) 0 = M 199 (2 * u) ∧ I (a + 3) 1 = M 199 (2 * u + 1))) ∧
  (M 193 u = 0 ∨ ¬ M 198 (2 * u + 1) = 0) ∧
  (∃ (c : Nat) (pr : Nat → Nat), c ≤ 10 ∧ M 201 u = nI c ∧ I a 7 = nI c ∧ (∀ k, k < 10 → R (a + 4) k = some (pr k) ∧ a + 9 ≤ pr k ∧ pr k < a + 19) ∧ (∀ k l, k < 10 → l < 10 → pr k = pr l → k = l) ∧ ∀ k, k < c → I (pr k) 0 = M 200 (2 * (10 * u + k)) ∧ I (pr k) 1 = M 200 (2 * (10 * u + k) + 1) ∧ ¬ M 200 (2 * (10 * u + k) + 1) = 0) ∧
  (I (a + 5) 0 = M 202 (4 * u)) ∧
  (I (a + 5) 1 = M 202 (4 * u + 1)) ∧
  (I (a + 5) 2 = M 202 (4 * u + 2)) ∧
  (I (a + 5) 3 = M 202 (4 * u + 3)) ∧
  (∃ f : Nat, f ≤ 6 ∧ M 204 u = nI f ∧ I (a + 5) 5 = nI f ∧ ∀ k, k < f → I (a + 6) k = M 203 (6 * u + k)) ∧
  (∀ i, i < 8 → I (a + 8) i = g_fl (M 194 u) (M 195 u) (nI u) (nI 0) i)
theorem c_A.reg {I : q_I} {R : q_R} {M : q_I} {a : Nat} {u : Nat} (h : c_A I R M a u) : I a 0 = M 193 u := h.1
theorem c_A.rbz {I : q_I} {R : q_R} {M : q_I} {a : Nat} {u : Nat} (h : c_A I R M a u) : q_bz (M 193 u) := h.2.1
theorem c_A.dr {I : q_I} {R : q_R} {M : q_I} {a : Nat} {u : Nat} (h : c_A I R M a u) : I a 1 = M 196 u := h.2.2.1
theorem c_A.i0 {I : q_I} {R : q_R} {M : q_I} {a : Nat} {u : Nat} (h : c_A I R M a u) : I (a + 1) 0 = M 197 (2 * u) := h.2.2.2.1
theorem c_A.i1 {I : q_I} {R : q_R} {M : q_I} {a : Nat} {u : Nat} (h : c_A I R M a u) : I (a + 1) 1 = M 197 (2 * u + 1) := h.2.2.2.2.1
theorem c_A.s0 {I : q_I} {R : q_R} {M : q_I} {a : Nat} {u : Nat} (h : c_A I R M a u) : I (a + 2) 0 = M 198 (2 * u) := h.2.2.2.2.2.1
theorem c_A.s1 {I : q_I} {R : q_R} {M : q_I} {a : Nat} {u : Nat} (h : c_A I R M a u) : I (a + 2) 1 = M 198 (2 * u + 1) := h.2.2.2.2.2.2.1
theorem c_A.old {I : q_I} {R : q_R} {M : q_I} {a : Nat} {u : Nat} (h : c_A I R M a u) : (I a 5 = nI 0 ∧ M 199 (2 * u + 1) = 0) ∨ (I a 5 = nI 1 ∧ ¬ M 199 (2 * u + 1) = 0 ∧ I (a + 3) 0 = M 199 (2 * u) ∧ I (a + 3) 1 = M 199 (2 * u + 1)) := h.2.2.2.2.2.2.2.1
theorem c_A.sn {I : q_I} {R : q_R} {M : q_I} {a : Nat} {u : Nat} (h : c_A I R M a u) : M 193 u = 0 ∨ ¬ M 198 (2 * u + 1) = 0 := h.2.2.2.2.2.2.2.2.1
theorem c_A.once {I : q_I} {R : q_R} {M : q_I} {a : Nat} {u : Nat} (h : c_A I R M a u) : ∃ (c : Nat) (pr : Nat → Nat), c ≤ 10 ∧ M 201 u = nI c ∧ I a 7 = nI c ∧ (∀ k, k < 10 → R (a + 4) k = some (pr k) ∧ a + 9 ≤ pr k ∧ pr k < a + 19) ∧ (∀ k l, k < 10 → l < 10 → pr k = pr l → k = l) ∧ ∀ k, k < c → I (pr k) 0 = M 200 (2 * (10 * u + k)) ∧ I (pr k) 1 = M 200 (2 * (10 * u + k) + 1) ∧ ¬ M 200 (2 * (10 * u + k) + 1) = 0 := h.2.2.2.2.2.2.2.2.2.1
theorem c_A.e0 {I : q_I} {R : q_R} {M : q_I} {a : Nat} {u : Nat} (h : c_A I R M a u) : I (a + 5) 0 = M 202 (4 * u) := h.2.2.2.2.2.2.2.2.2.2.1
theorem c_A.e1 {I : q_I} {R : q_R} {M : q_I} {a : Nat} {u : Nat} (h : c_A I R M a u) : I (a + 5) 1 = M 202 (4 * u + 1) := h.2.2.2.2.2.2.2.2.2.2.2.1
theorem c_A.e2 {I : q_I} {R : q_R} {M : q_I} {a : Nat} {u : Nat} (h : c_A I R M a u) : I (a + 5) 2 = M 202 (4 * u + 2) := h.2.2.2.2.2.2.2.2.2.2.2.2.1
theorem c_A.e3 {I : q_I} {R : q_R} {M : q_I} {a : Nat} {u : Nat} (h : c_A I R M a u) : I (a + 5) 3 = M 202 (4 * u + 3) := h.2.2.2.2.2.2.2.2.2.2.2.2.2.1
theorem c_A.off {I : q_I} {R : q_R} {M : q_I} {a : Nat} {u : Nat} (h : c_A I R M a u) : ∃ f : Nat, f ≤ 6 ∧ M 204 u = nI f ∧ I (a + 5) 5 = nI f ∧ ∀ k, k < f → I (a + 6) k = M 203 (6 * u + k) := h.2.2.2.2.2.2.2.2.2.2.2.2.2.2.1
theorem c_A.seed {I : q_I} {R : q_R} {M : q_I} {a : Nat} {u : Nat} (h : c_A I R M a u) : ∀ i, i < 8 → I (a + 8) i = g_fl (M 194 u) (M 195 u) (nI u) (nI 0) i := h.2.2.2.2.2.2.2.2.2.2.2.2.2.2.2
theorem c_A_to {I I2 : q_I} {R R2 : q_R} {M M2 : q_I} {a u : Nat} (h : c_A I R M a u) (hI : ∀ x, a ≤ x → x < a + 19 → I2 x = I x) (hR : R2 (a + 4) = R (a + 4)) (hM : q_eu M2 M u) : c_A I2 R2 M2 a u := by
  have i0 := hI a (by omega) (by omega)
  have i1 := hI (a + 1) (by omega) (by omega)
  have i2 := hI (a + 2) (by omega) (by omega)
  have i3 := hI (a + 3) (by omega) (by omega)
  have i5 := hI (a + 5) (by omega) (by omega)
  have i6 := hI (a + 6) (by omega) (by omega)
  have i8 := hI (a + 8) (by omega) (by omega)
  have m := fun r j (ho : q_own u r j) => hM r j ho
  refine ⟨?_, ?_, ?_, ?_, ?_, ?_, ?_, ?_, ?_, ?_, ?_, ?_, ?_, ?_, ?_, ?_⟩
  · rw [i0, hM 193 u (by unfold q_own; omega)]; exact h.reg
  · rw [hM 193 u (by unfold q_own; omega)]; exact h.rbz
  · rw [i0, hM 196 u (by unfold q_own; omega)]; exact h.dr
  · rw [i1, hM 197 (2 * u) (by unfold q_own; omega)]; exact h.i0
  · rw [i1, hM 197 (2 * u + 1) (by unfold q_own; omega)]; exact h.i1
  · rw [i2, hM 198 (2 * u) (by unfold q_own; omega)]; exact h.s0
  · rw [i2, hM 198 (2 * u + 1) (by unfold q_own; omega)]; exact h.s1
  · rw [i0, i3, hM 199 (2 * u) (by unfold q_own; omega), hM 199 (2 * u + 1) (by unfold q_own; omega)]; exact h.old
  · rw [hM 193 u (by unfold q_own; omega), hM 198 (2 * u + 1) (by unfold q_own; omega)]; exact h.sn
  · obtain ⟨c, pr, h1, h2, h3, h4, h5, h6⟩ := h.once
    refine ⟨c, pr, h1, ?_, ?_, fun k hk => ?_, h5, fun k hk => ?_⟩
    · rw [hM 201 u (by unfold q_own; omega)]; exact h2
    · rw [i0]; exact h3
    · rw [hR]; exact h4 k hk
    · obtain ⟨-, p1, p2⟩ := h4 k (by omega)
      rw [hI (pr k) (by omega) (by omega), hM 200 (2 * (10 * u + k)) (by unfold q_own; omega), hM 200 (2 * (10 * u + k) + 1) (by unfold q_own; omega)]
      exact h6 k hk
  · rw [i5, hM 202 (4 * u) (by unfold q_own; omega)]; exact h.e0
  · rw [i5, hM 202 (4 * u + 1) (by unfold q_own; omega)]; exact h.e1
  · rw [i5, hM 202 (4 * u + 2) (by unfold q_own; omega)]; exact h.e2
  · rw [i5, hM 202 (4 * u + 3) (by unfold q_own; omega)]; exact h.e3
  · obtain ⟨f, h1, h2, h3, h4⟩ := h.off
    refine ⟨f, h1, ?_, ?_, fun k hk => ?_⟩
    · rw [hM 204 u (by unfold q_own; omega)]; exact h2
    · rw [i5]; exact h3
    · rw [i6, hM 203 (6 * u + k) (by unfold q_own; omega)]; exact h4 k hk
  · intro i hi
    rw [i8, hM 194 u (by unfold q_own; omega), hM 195 u (by unfold q_own; omega)]
    exact h.seed i hi
theorem f_sign_v {u : Nat} {M : q_I} : f_sign u M 196 u = M 196 u + nI 1 + nI 1 ∧ f_sign u M 198 (2 * u) = g_nx M u ∧ f_sign u M 198 (2 * u + 1) = g_pub (g_nx M u) ∧ f_sign u M 202 (4 * u) = M 197 (2 * u + 1) ∧ f_sign u M 202 (4 * u + 1) = g_pub (g_nx M u) ∧ f_sign u M 202 (4 * u + 2) = g_pub (g_priv (M 194 u) (M 195 u) u (M 196 u + nI 1 + nI 1)) ∧ f_sign u M 202 (4 * u + 3) = g_prf (g_priv (M 194 u) (M 195 u) u (M 196 u + nI 1 + nI 1)) (M 197 (2 * u)) (g_hash (M 197 (2 * u + 1)) (g_pub (g_nx M u)) (g_pub (g_priv (M 194 u) (M 195 u) u (M 196 u + nI 1 + nI 1)))) := by
  refine ⟨?_, ?_, ?_, ?_, ?_, ?_, ?_⟩
  all_goals simp (disch := omega) only [f_sign, f_sg2, f_sg1, f_draw, g_nx, q_un, q_usk, q_usn]
