/-! prekeys, spoil, holds of the reference, as functions of its rows -/
def g_holds (x s r m : Int32) : Int32 := if x < nI 1 then nI 0 else if nI 2147483647 ≤ x then nI 0 else if s < nI 1 then nI 0 else if nI 2147483647 ≤ s then nI 0 else if r < nI 1 then nI 0 else if nI 2147483647 ≤ r then nI 0 else if m < 0 then nI 0 else if m ≤ nI 2147483645 then (if g_pow (nI 7) m = g_times r (g_pow x (g_hash x s r)) then nI 1 else nI 0) else nI 0
def f_spoil (u w m : Int32) (M : q_I) : Int32 × q_I := if g_kn (M 193) u = 0 then (nI 0, M) else if w < 0 then (nI 0, M) else if w ≤ nI 3 then (nI 1, q_up M 202 (4 * u.toNatClampNeg + w.toNatClampNeg) (M 202 (4 * u.toNatClampNeg + w.toNatClampNeg) ^^^ m)) else (nI 0, M)
/-- one one-time pair more: f offered, c pairs before -/
def f_pk1 (u f c : Nat) (M : q_I) : q_I := q_up (q_up (q_up (q_up (q_up (f_draw u M) 200 (2 * (10 * u + c)) (g_nx M u)) 200 (2 * (10 * u + c) + 1) (g_pub (g_nx M u))) 203 (6 * u + f) (g_pub (g_nx M u))) 201 u (nI (c + 1))) 204 u (nI (f + 1))
def f_pk (u f c : Nat) : Nat → q_I → q_I
  | 0, M => M
  | k + 1, M => f_pk1 u (f + k) (c + k) (f_pk u f c k M)
theorem g_pl {x : Int32} {N : Nat} (hN : N < 10000) (h0 : ¬ x < 0) (h1 : x ≤ nI N) : ∃ j : Nat, j ≤ N ∧ x = nI j := nI_of2 (nI_toInt (by omega)) h0 h1
