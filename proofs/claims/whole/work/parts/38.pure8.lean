theorem q_m1s (x : Int32) : x + -1 = x - nI 1 := by
  rw [Int32.sub_eq_add_neg]; rfl
/-! lemmas of the functions of opening; beginning and sending as functions -/
theorem f_fur_ok {G : Nat → Nat → Int32} {M : q_I} {N : q_L} {e a b p j k : Nat} {ans : Int32} (h : (f_try M N e a b (f_row M p k (G k))).1 = nI 0) : f_fur G M N e a b p (j + 1) k ans = (nI 0, f_rows p k (va_up (f_try M N e a b (f_row M p k (G k))).2.1 11 (nI 1)) (f_ok (f_try M N e a b (f_row M p k (G k))) b M), f_tx N e (f_try M N e a b (f_row M p k (G k)))) := by
  rw [f_fur, if_pos h]
theorem f_fur_no {G : Nat → Nat → Int32} {M : q_I} {N : q_L} {e a b p j k : Nat} {ans : Int32} (h : ¬ (f_try M N e a b (f_row M p k (G k))).1 = nI 0) : f_fur G M N e a b p (j + 1) k ans = f_fur G M N e a b p j (k + 1) (if k = 0 then (f_try M N e a b (f_row M p k (G k))).1 else ans) := by
  rw [f_fur, if_neg h]
theorem f_come_n {p m a : Nat} {r : Nat → Int32} {M : q_I} (h5 : a ≠ 205) (h6 : a ≠ 206) : f_come p m r M a = M a := by
  unfold f_come
  rw [f_rows_n h5, q_un h6]
theorem f_come_206 {p m : Nat} {r : Nat → Int32} {M : q_I} : f_come p m r M 206 = va_up (M 206) p (nI (min m 2 + 1)) := by
  unfold f_come
  rw [f_rows_n (by decide), q_us]
theorem f_come_205 {p m : Nat} {r s : Nat → Int32} {A M : q_I} (h : A 205 = M 205) (hr : ∀ i, i < 158 → s i = r i) : f_rows p (min m 2) s A 205 = f_come p m r M 205 := by
  unfold f_come
  exact f_rows_c (by rw [q_un (by decide)]; exact h) hr
theorem f_rem_n {b i c a : Nat} {M : q_I} (h0 : a ≠ 200) (h1 : a ≠ 201) : f_rem b i c M a = M a := by
  unfold f_rem
  rw [va_up_ne _ _ h0, q_un h1]
theorem f_rem_201 {b i c : Nat} {M : q_I} : f_rem b i c M 201 = va_up (M 201) b (nI (c - 1)) := by
  unfold f_rem
  rw [va_up_ne _ _ (by decide), q_us]
theorem f_rem_200 {b i c j : Nat} {M : q_I} : f_rem b i c M 200 j = if 2 * (10 * b + i) ≤ j ∧ j < 2 * (10 * b + (c - 1)) then M 200 (j + 2) else M 200 j := by
  unfold f_rem
  rw [va_up_self]
theorem f_save_n {p k a : Nat} {r : Nat → Int32} {M : q_I} (h : a ≠ 205) : f_save p k r M a = M a := va_up_ne _ _ h
theorem f_save_205 {p k j : Nat} {r : Nat → Int32} {M : q_I} : f_save p k r M 205 j = if 158 * (3 * p + k) ≤ j ∧ j < 158 * (3 * p + k) + 158 then r (j - 158 * (3 * p + k)) else M 205 j := by
  unfold f_save
  rw [va_up_self]
/-- one of the offered keys taken: f were there -/
def f_off (b f : Nat) (M : q_I) : q_I := va_up (q_up M 204 b (nI (f - 1))) 203 (fun j => if 6 * b ≤ j ∧ j < 6 * b + (f - 1) then M 203 (j + 1) else M 203 j)
def g_off (b f : Nat) (M : q_I) : Int32 := if f = 0 then nI 0 else M 203 (6 * b)
theorem f_off_n {b f a : Nat} {M : q_I} (h3 : a ≠ 203) (h4 : a ≠ 204) : f_off b f M a = M a := by
  unfold f_off
  rw [va_up_ne _ _ h3, q_un h4]
theorem f_off_204 {b f : Nat} {M : q_I} : f_off b f M 204 = va_up (M 204) b (nI (f - 1)) := by
  unfold f_off
  rw [va_up_ne _ _ (by decide), q_us]
theorem f_off_203 {b f j : Nat} {M : q_I} : f_off b f M 203 j = if 6 * b ≤ j ∧ j < 6 * b + (f - 1) then M 203 (j + 1) else M 203 j := by
  unfold f_off
  rw [va_up_self]
/-- the row of a session begun: keys e (ephemeral) and w (ratchet) of a -/
def s_beg (e w s o : Int32) (root : Nat → Int32) : Nat → Int32 := fun i => if i = 0 then g_pub e else if i = 1 then s else if i = 2 then w else if i = 3 then g_pub w else if i = 4 then nI 1 else if i = 10 then nI 1 else if i = 12 then s else if i = 13 then o else
  if 14 ≤ i ∧ i < 22 then g_mix root (g_pow s w) (nI 5) (nI 0) (nI 0) (i - 14) else if 22 ≤ i ∧ i < 30 then g_mix root (g_pow s w) (nI 6) (nI 0) (nI 0) (i - 22) else nI 0
def g_brt (M : q_I) (a b : Nat) (e o : Int32) : Nat → Int32 := g_agr (g_pow (M 202 (4 * b + 1)) (M 197 (2 * a))) (g_pow (M 202 (4 * b)) e) (g_pow (M 202 (4 * b + 1)) e) (if o = 0 then nI 0 else g_pow o e) (M 197 (2 * a + 1)) (M 202 (4 * b)) o
def f_bg1 (a b f m : Nat) (M : q_I) : q_I := f_come (4 * a + b) m (s_beg (g_nx M a) (g_nx (f_draw a M) a) (M 202 (4 * b + 1)) (g_off b f M) (g_brt M a b (g_nx M a) (g_off b f M))) (f_draw a (f_draw a (f_off b f M)))
def f_bg (a b f m : Nat) (M : q_I) : Int32 × q_I := if g_holds (M 202 (4 * b)) (M 202 (4 * b + 1)) (M 202 (4 * b + 2)) (M 202 (4 * b + 3)) = 0 then (nI 1, f_off b f M) else (nI 0, f_bg1 a b f m M)
def f_begin (u v : Int32) (M : q_I) : Int32 × q_I := if g_pr (M 193) u v = 0 then (-1, M) else f_bg u.toNatClampNeg v.toNatClampNeg (M 204 v.toNatClampNeg).toNatClampNeg (M 206 (4 * u.toNatClampNeg + v.toNatClampNeg)).toNatClampNeg M
/-- an envelope written -/
def s_kS (r : Nat → Int32) : Nat → Int32 := g_mix (fun j => r (22 + j)) (nI 7) (nI 0) (nI 0) (nI 0)
def g_un (r : Nat → Int32) : Bool := decide (r 10 = nI 1 ∧ r 11 = 0)
def g_ci (z : Int64) (r : Nat → Int32) : Int64 := z ^^^ g_wide (s_kS r) (nI 9) (nI 0) (nI 0) (nI 0)
def g_let (z : Int64) (a b : Nat) (M : q_I) (r : Nat → Int32) : Nat → Int64 := fun i => if i = 0 then (nI a).toInt64 else if i = 1 then (nI b).toInt64 else if i = 2 then (if g_un r = true then lN 0 else lN 1) else
  if i = 3 then (if g_un r = true then (M 197 (2 * a + 1)).toInt64 else lN 0) else if i = 4 then (if g_un r = true then (r 0).toInt64 else lN 0) else if i = 5 then (if g_un r = true then (r 12).toInt64 else lN 0) else if i = 6 then (if g_un r = true then (r 13).toInt64 else lN 0) else
  if i = 7 then (r 3).toInt64 else if i = 8 then (r 6).toInt64 else if i = 9 then (r 8).toInt64 else if i = 10 then g_ci z r else g_tag (s_kS r) (r 3) (r 6) (r 8) (g_ci z r) (M 197 (2 * a + 1)) (M 197 (2 * b + 1))
def s_snd (r : Nat → Int32) : Nat → Int32 := fun i => if i = 6 then r 6 + nI 1 else if 22 ≤ i ∧ i < 30 then g_mix (fun j => r (22 + j)) (nI 8) (nI 0) (nI 0) (nI 0) (i - 22) else r i
def f_snd (z : Int64) (a b E : Nat) (M : q_I) (N : q_L) : Int32 × q_I × q_L := (nI E, q_up (f_save (4 * a + b) 0 (s_snd (f_blk M (4 * a + b) 0)) M) 192 16 (nI (E + 1)), va_up N 208 (fun j => if 12 * E ≤ j ∧ j < 12 * E + 12 then g_let z a b M (f_blk M (4 * a + b) 0) (j - 12 * E) else N 208 j))
def f_send (u v : Int32) (z : Int64) (M : q_I) (N : q_L) : Int32 × q_I × q_L := if g_pr (M 193) u v = 0 then (-1, M, N) else if M 206 (4 * u.toNatClampNeg + v.toNatClampNeg) = 0 then (-1, M, N) else if M 192 16 = nI 60 then (-1, M, N) else f_snd z u.toNatClampNeg v.toNatClampNeg (M 192 16).toNatClampNeg M N
