def g_fl (a b c e : Int32) (i : Nat) : Int32 := if i = 0 then a else if i = 1 then b else if i = 2 then c else if i = 3 then e else nI 0
def g_half (x : Int32) : Int32 := (x.toUInt32 >>> ((nI 1).toUInt32 &&& Int32.toUInt32 31)).toInt32
/-- a private key drawn: entropy, user, which draw -/
def g_priv (lo hi : Int32) (u : Nat) (c : Int32) : Int32 := nI 2 + (g_half (g_mix (g_fl lo hi (nI u) (nI 0)) c (nI 1) (nI 0) (nI 0) 0) - g_half (g_mix (g_fl lo hi (nI u) (nI 0)) c (nI 1) (nI 0) (nI 0) 0) / nI 2147483644 * nI 2147483644)
def g_pub (x : Int32) : Int32 := g_pow (nI 7) x
def g_hash (x s r : Int32) : Int32 := g_half (g_mix (g_fl (nI 0) (nI 0) (nI 0) (nI 0)) x s r (nI 3) 0)
def g_up (z : Int64) : Int32 := (z >>> ((nI 32).toInt64 &&& 63)).toInt32
def g_tag (key : Nat → Int32) (x n pn : Int32) (z : Int64) (a b : Int32) : Int64 := g_wide (fun i => g_mix key x n pn (g_up z) i) z.toInt32 a b (nI 10)
/-! the reference's state: its rows 193 .. 206, the number of envelopes (192, 16), the envelopes (208), the latest text (192, 17) -/
def q_ms (I' M : q_I) : Prop := (∀ a, 193 ≤ a → a ≤ 206 → I' a = M a) ∧ I' 192 16 = M 192 16
def q_mf (I' I : q_I) : Prop := ∀ x, (x < 192 ∨ 214 ≤ x) → I' x = I x
def g_kn (f : Nat → Int32) (u : Int32) : Int32 := if u < 0 then nI 0 else if nI 3 < u then nI 0 else if f u.toNatClampNeg = 0 then nI 0 else nI 1
def g_pr (f : Nat → Int32) (a b : Int32) : Int32 := if g_kn f a = 0 then nI 0 else if g_kn f b = 0 then nI 0 else if a = b then nI 0 else nI 1
theorem g_lt4 {u : Int32} (h0 : ¬ u < 0) (h3 : ¬ nI 3 < u) : ∃ j : Nat, j < 4 ∧ u = nI j := by
  obtain ⟨j, h1, h2⟩ := nI_of2 (M := nI 3) (n := 3) (by decide) h0 (k2_le h3)
  exact ⟨j, by omega, h2⟩
theorem g_cl {j : Nat} (h : j < 10000) : (nI j).toNatClampNeg = j := nI_clamp (by omega)
theorem g_kn_1 {f : Nat → Int32} {u : Int32} (h : ¬ g_kn f u = 0) : ∃ j : Nat, j < 4 ∧ u = nI j ∧ ¬ f j = 0 ∧ g_kn f u = nI 1 := by
  unfold g_kn at h ⊢
  by_cases h0 : u < 0
  · rw [if_pos h0] at h; exact absurd rfl h
  · rw [if_neg h0] at h ⊢
    by_cases h3 : nI 3 < u
    · rw [if_pos h3] at h; exact absurd rfl h
    · rw [if_neg h3] at h ⊢
      obtain ⟨j, hj, rfl⟩ := g_lt4 h0 h3
      rw [g_cl (by omega)] at h ⊢
      by_cases hf : f j = 0
      · rw [if_pos hf] at h; exact absurd rfl h
      · exact ⟨j, hj, rfl, hf, if_neg hf⟩
theorem g_pr_1 {f : Nat → Int32} {a b : Int32} (h : ¬ g_pr f a b = 0) : ∃ i j : Nat, i < 4 ∧ j < 4 ∧ a = nI i ∧ b = nI j ∧ i ≠ j ∧ ¬ f i = 0 ∧ ¬ f j = 0 ∧ g_pr f a b = nI 1 := by
  unfold g_pr at h ⊢
  by_cases h1 : g_kn f a = 0
  · rw [if_pos h1] at h; exact absurd rfl h
  · rw [if_neg h1] at h ⊢
    by_cases h2 : g_kn f b = 0
    · rw [if_pos h2] at h; exact absurd rfl h
    · rw [if_neg h2] at h ⊢
      by_cases h3 : a = b
      · rw [if_pos h3] at h; exact absurd rfl h
      · rw [if_neg h3]
        obtain ⟨i, i1, i2, i3, -⟩ := g_kn_1 h1
        obtain ⟨j, j1, j2, j3, -⟩ := g_kn_1 h2
        exact ⟨i, j, i1, j1, i2, j2, fun e => h3 (by rw [i2, j2, e]), i3, j3, rfl⟩
/-- the next private key of a user -/
def g_nx (M : q_I) (u : Nat) : Int32 := g_priv (M 194 u) (M 195 u) u (M 196 u + nI 1)
def f_draw (u : Nat) (M : q_I) : q_I := q_up M 196 u (M 196 u + nI 1)
def g_prf (r x h : Int32) : Int32 := (r.toInt64 + x.toInt64 * h.toInt64 - (r.toInt64 + x.toInt64 * h.toInt64) / lN 2147483646 * lN 2147483646).toInt32
/-- a new signed pair -/
def f_sg1 (u : Nat) (M : q_I) : q_I := q_up (q_up (f_draw u M) 198 (2 * u) (g_nx M u)) 198 (2 * u + 1) (g_pub (g_nx M u))
/-- the entry, with the nonce k -/
def f_sg2 (u : Nat) (k : Int32) (M : q_I) : q_I := q_up (q_up (q_up (q_up M 202 (4 * u) (M 197 (2 * u + 1))) 202 (4 * u + 1) (M 198 (2 * u + 1))) 202 (4 * u + 2) (g_pub k)) 202 (4 * u + 3) (g_prf k (M 197 (2 * u)) (g_hash (M 197 (2 * u + 1)) (M 198 (2 * u + 1)) (g_pub k)))
def f_sign (u : Nat) (M : q_I) : q_I := f_sg2 u (g_nx (f_sg1 u M) u) (f_draw u (f_sg1 u M))
def f_reg (u : Nat) (z : Int64) (M : q_I) : q_I :=
  let M1 := q_up (q_up (q_up M 193 u (nI 1)) 194 u z.toInt32) 195 u (g_up z)
  f_sign u (q_up (q_up (f_draw u M1) 197 (2 * u) (g_nx M1 u)) 197 (2 * u + 1) (g_pub (g_nx M1 u)))
def f_register (u : Int32) (z : Int64) (M : q_I) : Int32 × q_I := if u < 0 then (nI 0, M) else if nI 3 < u then (nI 0, M) else if M 193 u.toNatClampNeg = 0 then (nI 1, f_reg u.toNatClampNeg z M) else (nI 0, M)
def f_rotate (u : Int32) (M : q_I) : Int32 × q_I := if g_kn (M 193) u = 0 then (nI 0, M) else (nI 1, f_sign u.toNatClampNeg (q_up (q_up M 199 (2 * u.toNatClampNeg) (M 198 (2 * u.toNatClampNeg))) 199 (2 * u.toNatClampNeg + 1) (M 198 (2 * u.toNatClampNeg + 1))))
theorem q_ms_rf (I : q_I) : q_ms I I := ⟨fun _ _ _ => rfl, rfl⟩
theorem q_mf_rf (I : q_I) : q_mf I I := fun _ _ => rfl
theorem q_mf_tr {A B C : q_I} (h : q_mf A B) (h2 : q_mf B C) : q_mf A C := fun x hx => (h x hx).trans (h2 x hx)
