/-! a try of a session's row, as a function -/
abbrev s_T : Type := Int32 × (Nat → Int32) × (Nat → Int32) × Bool
def s_mk (r : Nat → Int32) : Nat → Int32 := g_mix (fun j => r (30 + j)) (nI 7) (nI 0) (nI 0) (nI 0)
def s_mv (m : Nat) (r : Nat → Int32) : Nat → Int32 := fun i => if i = 7 then nI (m + 1) else if 30 ≤ i ∧ i < 38 then g_mix (fun j => r (30 + j)) (nI 8) (nI 0) (nI 0) (nI 0) (i - 30) else r i
def s_end (m c w : Nat) (tg : (Nat → Int32) → Int64) (T : Int64) (tu : Bool) (r : Nat → Int32) : s_T :=
  if r 5 = 0 then (nI 1, r, r, tu) else if m < w then (nI 5, r, r, tu) else if 8 < m - w then (nI 2, r, r, tu) else if 12 < c + (m - w) then (nI 2, r, r, tu) else
  if tg (s_mk (s_sk c (m - w) r)) = T then (nI 0, s_mv m (s_sk c (m - w) r), s_mk (s_sk c (m - w) r), tu) else (nI 1, r, r, tu)
def s_mid (X : Int32) (m p c w : Nat) (q : Int32) (tg : (Nat → Int32) → Int64) (T : Int64) (r : Nat → Int32) : s_T :=
  if X = r 1 then s_end m c w tg T false r else
  if r 5 = nI 1 ∧ w < p then (if 8 < p - w then (nI 2, r, r, false) else s_end m (c + (p - w)) 0 tg T true (s_turn X q (s_sk c (p - w) r)))
  else s_end m c 0 tg T true (s_turn X q r)
def s_hit (X : Int32) (m : Nat) (r : Nat → Int32) : Nat → Bool := fun k => decide (r (38 + 10 * k) = X ∧ r (38 + 10 * k + 1) = nI m)
def s_trial (X : Int32) (m p c w : Nat) (q : Int32) (tg : (Nat → Int32) → Int64) (T : Int64) (r : Nat → Int32) : s_T :=
  if g_first (s_hit X m r) c < c then (if tg (fun i => r (40 + 10 * g_first (s_hit X m r) c + i)) = T then (nI 0, s_gone (g_first (s_hit X m r) c) c r, (fun i => r (40 + 10 * g_first (s_hit X m r) c + i)), false) else (nI 1, r, r, false))
  else s_mid X m p c w q tg T r
theorem s_end_tu {m c w : Nat} {tg : (Nat → Int32) → Int64} {T : Int64} {tu : Bool} {r : Nat → Int32} : (s_end m c w tg T tu r).2.2.2 = tu := by
  unfold s_end
  split
  · rfl
  · split
    · rfl
    · split
      · rfl
      · split
        · rfl
        · split
          · rfl
          · rfl
