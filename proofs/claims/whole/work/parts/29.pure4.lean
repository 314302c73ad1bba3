/-! prekeys, spoil, holds of the reference, as functions of its rows -/
def g_holds (x s r m : Int32) : Int32 := if x < nI 1 then nI 0 else if nI 2147483647 ≤ x then nI 0 else if s < nI 1 then nI 0 else if nI 2147483647 ≤ s then nI 0 else if r < nI 1 then nI 0 else if nI 2147483647 ≤ r then nI 0 else if m < 0 then nI 0 else if m ≤ nI 2147483645 then (if g_pow (nI 7) m = g_times r (g_pow x (g_hash x s r)) then nI 1 else nI 0) else nI 0
def f_spoil (u w m : Int32) (M : q_I) : Int32 × q_I := if g_kn (M 193) u = 0 then (nI 0, M) else if w < 0 then (nI 0, M) else if w ≤ nI 3 then (nI 1, q_up M 202 (4 * u.toNatClampNeg + w.toNatClampNeg) (M 202 (4 * u.toNatClampNeg + w.toNatClampNeg) ^^^ m)) else (nI 0, M)
/-- one one-time pair more: f offered, c pairs before -/
def f_pk1 (u f c : Nat) (M : q_I) : q_I := q_up (q_up (q_up (q_up (q_up (f_draw u M) 200 (2 * (10 * u + c)) (g_nx M u)) 200 (2 * (10 * u + c) + 1) (g_pub (g_nx M u))) 203 (6 * u + f) (g_pub (g_nx M u))) 201 u (nI (c + 1))) 204 u (nI (f + 1))
def f_pk (u f c : Nat) : Nat → q_I → q_I
  | 0, M => M
  | k + 1, M => f_pk1 u (f + k) (c + k) (f_pk u f c k M)
theorem g_pl {x : Int32} {N : Nat} (hN : N < 10000) (h0 : ¬ x < 0) (h1 : x ≤ nI N) : ∃ j : Nat, j ≤ N ∧ x = nI j := nI_of2 (nI_toInt (by omega)) h0 h1
def q_mq (A B : q_I) : Prop := ∀ a, 193 ≤ a → a ≤ 206 → A a = B a
theorem q_mq_up {A B : q_I} (h : q_mq A B) {x k : Nat} {v w : Int32} (hv : v = w) (h1 : 193 ≤ x) (h2 : x ≤ 206) : q_mq (q_up A x k v) (q_up B x k w) := by
  intro a ha hb
  subst hv
  by_cases e : a = x
  · subst e; rw [q_us, q_us, h a ha hb]
  · rw [q_un e, q_un e, h a ha hb]
theorem g_nx_c {A B : q_I} (h : q_mq A B) (u : Nat) : g_nx A u = g_nx B u := by
  unfold g_nx; rw [h 194 (by decide) (by decide), h 195 (by decide) (by decide), h 196 (by decide) (by decide)]
theorem f_draw_c {A B : q_I} (h : q_mq A B) (u : Nat) : q_mq (f_draw u A) (f_draw u B) := q_mq_up h (by rw [h 196 (by decide) (by decide)]) (by decide) (by decide)
theorem f_sg1_c {A B : q_I} (h : q_mq A B) (u : Nat) : q_mq (f_sg1 u A) (f_sg1 u B) := q_mq_up (q_mq_up (f_draw_c h u) (g_nx_c h u) (by decide) (by decide)) (by rw [g_nx_c h u]) (by decide) (by decide)
theorem f_sg2_c {A B : q_I} (h : q_mq A B) (u : Nat) {k l : Int32} (hk : k = l) : q_mq (f_sg2 u k A) (f_sg2 u l B) := by
  subst hk
  have h7 := h 197 (by decide) (by decide)
  have h8 := h 198 (by decide) (by decide)
  exact q_mq_up (q_mq_up (q_mq_up (q_mq_up h (by rw [h7]) (by decide) (by decide)) (by rw [h8]) (by decide) (by decide)) rfl (by decide) (by decide)) (by rw [h7, h8]) (by decide) (by decide)
theorem f_sign_c {A B : q_I} (h : q_mq A B) (u : Nat) : q_mq (f_sign u A) (f_sign u B) := f_sg2_c (f_draw_c (f_sg1_c h u) u) u (g_nx_c (f_sg1_c h u) u)
theorem f_pk1_c {A B : q_I} (h : q_mq A B) (u f c : Nat) : q_mq (f_pk1 u f c A) (f_pk1 u f c B) :=
  q_mq_up (q_mq_up (q_mq_up (q_mq_up (q_mq_up (f_draw_c h u) (g_nx_c h u) (by decide) (by decide)) (by rw [g_nx_c h u]) (by decide) (by decide)) (by rw [g_nx_c h u]) (by decide) (by decide)) rfl (by decide) (by decide)) rfl (by decide) (by decide)
def f_prekeys (u w : Int32) (M : q_I) : Int32 × q_I := if g_kn (M 193) u = 0 then (-1, M) else if w < nI 1 then (-1, M) else if w ≤ nI 6 then
  (nI (min (min w.toNatClampNeg (6 - (M 204 u.toNatClampNeg).toNatClampNeg)) (10 - (M 201 u.toNatClampNeg).toNatClampNeg)), f_pk u.toNatClampNeg (M 204 u.toNatClampNeg).toNatClampNeg (M 201 u.toNatClampNeg).toNatClampNeg (min (min w.toNatClampNeg (6 - (M 204 u.toNatClampNeg).toNatClampNeg)) (10 - (M 201 u.toNatClampNeg).toNatClampNeg)) M) else (-1, M)
def g_power (b e : Int32) : Int32 := if b < 0 then -1 else if nI 2147483647 ≤ b then -1 else if e < 0 then -1 else if e < nI 2147483647 then g_pow b e else -1
def g_mkey (z : Int64) (i : Nat) : Int32 := if i = 0 then g_up z else if i = 1 then z.toInt32 else nI (i - 1)
/-- row 207 to the front of list p, the blocks before k one place back -/
def f_rows (p k : Nat) (r : Nat → Int32) (M : q_I) : q_I := va_up M 205 (fun j => if 474 * p ≤ j ∧ j < 474 * p + 158 then r (j - 474 * p) else if 474 * p + 158 ≤ j ∧ j < 474 * p + 158 * (k + 1) then M 205 (j - 158) else M 205 j)
theorem f_sign_n {u a : Nat} {M : q_I} (h6 : a ≠ 196) (h8 : a ≠ 198) (h2 : a ≠ 202) : f_sign u M a = M a := by
  unfold f_sign f_sg2
  rw [q_un h2, q_un h2, q_un h2, q_un h2]
  unfold f_draw
  rw [q_un h6]
  unfold f_sg1
  rw [q_un h8, q_un h8]
  unfold f_draw
  rw [q_un h6]
