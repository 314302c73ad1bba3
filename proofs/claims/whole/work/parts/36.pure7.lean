/-! opening, as a function of the reference's rows (M) and longs (N); G: what stood in the scratch row -/
def q_RI (r : Nat → Int32) : Prop := (∃ c : Nat, c ≤ 12 ∧ r 9 = nI c) ∧ (∃ w : Nat, w ≤ 1001 ∧ r 7 = nI w)
theorem s_turn_9 {x q : Int32} {r : Nat → Int32} : s_turn x q r 9 = r 9 := by
  unfold s_turn
  rw [if_neg (by decide), if_neg (by decide), if_neg (by decide), if_neg (by decide), if_neg (by decide), if_neg (by decide), if_neg (by decide), if_neg (by decide), if_neg (by decide), if_neg (by decide), if_neg (by decide)]
theorem s_turn_7 {x q : Int32} {r : Nat → Int32} : s_turn x q r 7 = nI 0 := by
  unfold s_turn
  rw [if_neg (by decide), if_neg (by decide), if_neg (by decide), if_neg (by decide), if_neg (by decide), if_neg (by decide), if_pos rfl]
def f_try (M : q_I) (N : q_L) (e a b : Nat) (r : Nat → Int32) : s_T := s_trial (N 208 (e + 7)).toInt32 (N 208 (e + 8)).toInt32.toNatClampNeg (N 208 (e + 9)).toInt32.toNatClampNeg (r 9).toNatClampNeg (r 7).toNatClampNeg (g_nx M b) (g_tg (N 208) e (M 197 (2 * a + 1)) (M 197 (2 * b + 1))) (N 208 (e + 11)) r
theorem f_try_e {M : q_I} {N : q_L} {e a b m p c w : Nat} {r : Nat → Int32} (hm : N 208 (e + 8) = lN m) (hp : N 208 (e + 9) = lN p) (hc : r 9 = nI c) (hw : r 7 = nI w) (m1 : m ≤ 1000) (p1 : p ≤ 1000) (c1 : c ≤ 12) (w1 : w ≤ 1001) :
    f_try M N e a b r = s_trial (N 208 (e + 7)).toInt32 m p c w (g_nx M b) (g_tg (N 208) e (M 197 (2 * a + 1)) (M 197 (2 * b + 1))) (N 208 (e + 11)) r := by
  unfold f_try
  rw [hm, hp, hc, hw, lN_i, lN_i, g_cl (by omega), g_cl (by omega), g_cl (by omega), g_cl (by omega)]
theorem f_try_c {A B : q_I} (h : q_mq A B) (N : q_L) (e a b : Nat) (r : Nat → Int32) : f_try A N e a b r = f_try B N e a b r := by
  unfold f_try
  rw [g_nx_c h, h 197 (by decide) (by decide)]
def f_ok (S : s_T) (b : Nat) (M : q_I) : q_I := if S.2.2.2 = true then f_draw b M else M
def f_tx (N : q_L) (e : Nat) (S : s_T) : q_L := q_up N 192 17 (N 208 (e + 10) ^^^ g_wide S.2.2.1 (nI 9) (nI 0) (nI 0) (nI 0))
theorem f_ok_196 {S : s_T} {b : Nat} {M : q_I} : f_ok S b M 196 = if S.2.2.2 = true then va_up (M 196) b (M 196 b + nI 1) else M 196 := by
  unfold f_ok
  split
  · exact q_us
  · rfl
theorem f_ok_n {S : s_T} {b a : Nat} {M : q_I} (h : a ≠ 196) : f_ok S b M a = M a := by
  unfold f_ok
  split
  · exact q_un h
  · rfl
theorem f_rows_n {p k a : Nat} {r : Nat → Int32} {M : q_I} (h : a ≠ 205) : f_rows p k r M a = M a := va_up_ne _ _ h
theorem f_rows_c {p k : Nat} {r s : Nat → Int32} {A B : q_I} (h : A 205 = B 205) (hr : ∀ i, i < 158 → r i = s i) : f_rows p k r A 205 = f_rows p k s B 205 := by
  unfold f_rows
  rw [va_up_self, va_up_self]
  funext j
  by_cases c : 474 * p ≤ j ∧ j < 474 * p + 158
  · rw [if_pos c, if_pos c, hr _ (by omega)]
  · rw [if_neg c, if_neg c, h]
def f_row (M : q_I) (p k : Nat) (g : Nat → Int32) : Nat → Int32 := fun i => if i < 158 then M 205 (158 * (3 * p + k) + i) else g i
def f_save (p k : Nat) (r : Nat → Int32) (M : q_I) : q_I := va_up M 205 (fun j => if 158 * (3 * p + k) ≤ j ∧ j < 158 * (3 * p + k) + 158 then r (j - 158 * (3 * p + k)) else M 205 j)
def f_fur (G : Nat → Nat → Int32) (M : q_I) (N : q_L) (e a b p : Nat) : Nat → Nat → Int32 → Int32 × q_I × q_L
  | 0, _, ans => (ans, M, N)
  | j + 1, k, ans => if (f_try M N e a b (f_row M p k (G k))).1 = nI 0 then (nI 0, f_rows p k (va_up (f_try M N e a b (f_row M p k (G k))).2.1 11 (nI 1)) (f_ok (f_try M N e a b (f_row M p k (G k))) b M), f_tx N e (f_try M N e a b (f_row M p k (G k))))
    else f_fur G M N e a b p j (k + 1) (if k = 0 then (f_try M N e a b (f_row M p k (G k))).1 else ans)
theorem f_fur_G {G H : Nat → Nat → Int32} {M : q_I} {N : q_L} {e a b p : Nat} : ∀ (j k : Nat) (ans : Int32), (∀ i, k ≤ i → G i = H i) → f_fur G M N e a b p j k ans = f_fur H M N e a b p j k ans
  | 0, _, _, _ => rfl
  | j + 1, k, ans, h => by
    unfold f_fur
    rw [h k (Nat.le_refl _), f_fur_G j (k + 1) _ (fun i hi => h i (by omega))]
def f_at (g : Nat → Int32) (M : q_I) (N : q_L) (e a b p k : Nat) : Int32 × q_I × q_L := if (f_try M N e a b (f_row M p k g)).1 = nI 0 then (nI 0, f_save p k (va_up (f_try M N e a b (f_row M p k g)).2.1 11 (nI 1)) (f_ok (f_try M N e a b (f_row M p k g)) b M), f_tx N e (f_try M N e a b (f_row M p k g))) else ((f_try M N e a b (f_row M p k g)).1, M, N)
/-- a session put in front of a list with m in it -/
def f_come (p m : Nat) (r : Nat → Int32) (M : q_I) : q_I := f_rows p (min m 2) r (q_up M 206 p (nI (min m 2 + 1)))
/-- a one-time pair removed -/
def f_rem (b it c : Nat) (M : q_I) : q_I := va_up (q_up M 201 b (nI (c - 1))) 200 (fun j => if 2 * (10 * b + it) ≤ j ∧ j < 2 * (10 * b + (c - 1)) then M 200 (j + 2) else M 200 j)
def g_agr (o1 o2 o3 o4 a b o : Int32) : Nat → Int32 := g_mix (fun j => g_mix (g_fl (nI 0) (nI 0) (nI 0) (nI 0)) o1 o2 o3 o4 j) a b (nI 4) o
def s_new (base s pub : Int32) (root g : Nat → Int32) : Nat → Int32 := fun i => if i = 0 then base else if i = 2 then s else if i = 3 then pub else if 14 ≤ i ∧ i < 22 then root (i - 14) else if i < 318 then nI 0 else g i
def f_now (M : q_I) (N : q_L) (e b : Nat) : Bool := decide (N 208 (e + 5) = (M 198 (2 * b + 1)).toInt64)
def f_old (M : q_I) (N : q_L) (e b : Nat) : Bool := decide (¬ M 199 (2 * b + 1) = 0 ∧ N 208 (e + 5) = (M 199 (2 * b + 1)).toInt64)
def f_hit (M : q_I) (N : q_L) (e b : Nat) : Nat → Bool := fun k => decide ((M 200 (2 * (10 * b + k) + 1)).toInt64 = N 208 (e + 6))
/-- which one-time pair is named: c when none is -/
def f_it (M : q_I) (N : q_L) (e b c : Nat) : Nat := g_first (f_hit M N e b) c
def f_brow (g : Nat → Int32) (M : q_I) (N : q_L) (e a b c : Nat) : Nat → Int32 :=
  s_new (N 208 (e + 4)).toInt32 (if f_now M N e b = true then M 198 (2 * b) else M 199 (2 * b)) (N 208 (e + 5)).toInt32
    (g_agr (g_pow (M 197 (2 * a + 1)) (if f_now M N e b = true then M 198 (2 * b) else M 199 (2 * b))) (g_pow (N 208 (e + 4)).toInt32 (M 197 (2 * b))) (g_pow (N 208 (e + 4)).toInt32 (if f_now M N e b = true then M 198 (2 * b) else M 199 (2 * b)))
      (if f_it M N e b c < c then g_pow (N 208 (e + 4)).toInt32 (M 200 (2 * (10 * b + f_it M N e b c))) else nI 0) (M 197 (2 * a + 1)) (M 197 (2 * b + 1)) (if f_it M N e b c < c then M 200 (2 * (10 * b + f_it M N e b c) + 1) else nI 0)) g
def f_beg2 (g : Nat → Int32) (M : q_I) (N : q_L) (e a b p m c : Nat) : Int32 × q_I × q_L :=
  if (f_try M N e a b (f_brow g M N e a b c)).1 = nI 0 then
    (nI 0, (if f_it M N e b c < c then f_rem b (f_it M N e b c) c (f_come p m (va_up (f_try M N e a b (f_brow g M N e a b c)).2.1 11 (nI 1)) (f_ok (f_try M N e a b (f_brow g M N e a b c)) b M)) else f_come p m (va_up (f_try M N e a b (f_brow g M N e a b c)).2.1 11 (nI 1)) (f_ok (f_try M N e a b (f_brow g M N e a b c)) b M)), f_tx N e (f_try M N e a b (f_brow g M N e a b c)))
  else ((f_try M N e a b (f_brow g M N e a b c)).1, M, N)
def f_begun (g : Nat → Int32) (M : q_I) (N : q_L) (e a b p m c : Nat) : Int32 × q_I × q_L :=
  if (f_now M N e b = false ∧ f_old M N e b = false) ∨ (¬ f_it M N e b c < c ∧ ¬ N 208 (e + 6) = lN 0) then (nI 3, M, N) else f_beg2 g M N e a b p m c
def f_bhit (M : q_I) (N : q_L) (e p : Nat) : Nat → Bool := fun k => decide ((M 205 (158 * (3 * p + k))).toInt64 = N 208 (e + 4))
def f_op (G : Nat → Nat → Int32) (M : q_I) (N : q_L) (e a b m c : Nat) : Int32 × q_I × q_L :=
  if N 208 (e + 2) = lN 1 then f_fur G M N e a b (4 * b + a) m 0 (nI 6) else
  if g_first (f_bhit M N e (4 * b + a)) m < m then f_at (G 0) M N e a b (4 * b + a) (g_first (f_bhit M N e (4 * b + a)) m) else f_begun (G 0) M N e a b (4 * b + a) m c
def g_mal (M : q_I) (N : q_L) (e : Nat) : Int32 := if g_wi (N 208 e) (lN 0) (lN 3) = 0 then nI 1 else if g_wi (N 208 (e + 1)) (lN 0) (lN 3) = 0 then nI 1 else if g_pr (M 193) (N 208 e).toInt32 (N 208 (e + 1)).toInt32 = 0 then nI 1 else if g_wi (N 208 (e + 2)) (lN 0) (lN 1) = 0 then nI 1 else
  if g_wi (N 208 (e + 7)) (lN 2) (lN 2147483645) = 0 then nI 1 else if g_wi (N 208 (e + 8)) (lN 0) (lN 1000) = 0 then nI 1 else if g_wi (N 208 (e + 9)) (lN 0) (lN 1000) = 0 then nI 1 else
  if N 208 (e + 2) = lN 0 then (if N 208 (e + 3) = (M 197 (2 * (N 208 e).toInt32.toNatClampNeg + 1)).toInt64 then (if g_wi (N 208 (e + 4)) (lN 2) (lN 2147483645) = 0 then nI 1 else nI 0) else nI 1) else nI 0
/-- what is known of an envelope that is not malformed -/
def q_wf (M : q_I) (N : q_L) (e a b m p : Nat) : Prop :=
  (a < 4) ∧
  (b < 4) ∧
  (a ≠ b) ∧
  (¬ M 193 a = 0) ∧
  (¬ M 193 b = 0) ∧
  (N 208 e = lN a) ∧
  (N 208 (e + 1) = lN b) ∧
  (N 208 (e + 2) = lN 0 ∨ N 208 (e + 2) = lN 1) ∧
  (∃ x : Nat, 2 ≤ x ∧ x ≤ 2147483645 ∧ N 208 (e + 7) = lN x) ∧
  (N 208 (e + 8) = lN m) ∧
  (m ≤ 1000) ∧
  (N 208 (e + 9) = lN p) ∧
  (p ≤ 1000) ∧
  (N 208 (e + 2) = lN 0 → N 208 (e + 3) = (M 197 (2 * a + 1)).toInt64 ∧ ∃ y : Nat, 2 ≤ y ∧ y ≤ 2147483645 ∧ N 208 (e + 4) = lN y)
theorem q_wf.ha {M : q_I} {N : q_L} {e a b m p : Nat} (h : q_wf M N e a b m p) : a < 4 := h.1
theorem q_wf.hb {M : q_I} {N : q_L} {e a b m p : Nat} (h : q_wf M N e a b m p) : b < 4 := h.2.1
theorem q_wf.hab {M : q_I} {N : q_L} {e a b m p : Nat} (h : q_wf M N e a b m p) : a ≠ b := h.2.2.1
theorem q_wf.ra {M : q_I} {N : q_L} {e a b m p : Nat} (h : q_wf M N e a b m p) : ¬ M 193 a = 0 := h.2.2.2.1
theorem q_wf.rb {M : q_I} {N : q_L} {e a b m p : Nat} (h : q_wf M N e a b m p) : ¬ M 193 b = 0 := h.2.2.2.2.1
theorem q_wf.fa {M : q_I} {N : q_L} {e a b m p : Nat} (h : q_wf M N e a b m p) : N 208 e = lN a := h.2.2.2.2.2.1
theorem q_wf.fb {M : q_I} {N : q_L} {e a b m p : Nat} (h : q_wf M N e a b m p) : N 208 (e + 1) = lN b := h.2.2.2.2.2.2.1
theorem q_wf.fk {M : q_I} {N : q_L} {e a b m p : Nat} (h : q_wf M N e a b m p) : N 208 (e + 2) = lN 0 ∨ N 208 (e + 2) = lN 1 := h.2.2.2.2.2.2.2.1
theorem q_wf.fx {M : q_I} {N : q_L} {e a b m p : Nat} (h : q_wf M N e a b m p) : ∃ x : Nat, 2 ≤ x ∧ x ≤ 2147483645 ∧ N 208 (e + 7) = lN x := h.2.2.2.2.2.2.2.2.1
theorem q_wf.fm {M : q_I} {N : q_L} {e a b m p : Nat} (h : q_wf M N e a b m p) : N 208 (e + 8) = lN m := h.2.2.2.2.2.2.2.2.2.1
theorem q_wf.hm {M : q_I} {N : q_L} {e a b m p : Nat} (h : q_wf M N e a b m p) : m ≤ 1000 := h.2.2.2.2.2.2.2.2.2.2.1
theorem q_wf.fp {M : q_I} {N : q_L} {e a b m p : Nat} (h : q_wf M N e a b m p) : N 208 (e + 9) = lN p := h.2.2.2.2.2.2.2.2.2.2.2.1
theorem q_wf.hp {M : q_I} {N : q_L} {e a b m p : Nat} (h : q_wf M N e a b m p) : p ≤ 1000 := h.2.2.2.2.2.2.2.2.2.2.2.2.1
theorem q_wf.f1 {M : q_I} {N : q_L} {e a b m p : Nat} (h : q_wf M N e a b m p) : N 208 (e + 2) = lN 0 → N 208 (e + 3) = (M 197 (2 * a + 1)).toInt64 ∧ ∃ y : Nat, 2 ≤ y ∧ y ≤ 2147483645 ∧ N 208 (e + 4) = lN y := h.2.2.2.2.2.2.2.2.2.2.2.2.2
theorem g_mal_0 {M : q_I} {N : q_L} {e : Nat} (h : g_mal M N e = 0) : ∃ a b m p, q_wf M N e a b m p := by
  unfold g_mal at h
  by_cases h1 : g_wi (N 208 e) (lN 0) (lN 3) = 0
  · rw [if_pos h1] at h; exact absurd h (by decide)
  rw [if_neg h1] at h
  by_cases h2 : g_wi (N 208 (e + 1)) (lN 0) (lN 3) = 0
  · rw [if_pos h2] at h; exact absurd h (by decide)
  rw [if_neg h2] at h
  by_cases h3 : g_pr (M 193) (N 208 e).toInt32 (N 208 (e + 1)).toInt32 = 0
  · rw [if_pos h3] at h; exact absurd h (by decide)
  rw [if_neg h3] at h
  by_cases h4 : g_wi (N 208 (e + 2)) (lN 0) (lN 1) = 0
  · rw [if_pos h4] at h; exact absurd h (by decide)
  rw [if_neg h4] at h
  by_cases h5 : g_wi (N 208 (e + 7)) (lN 2) (lN 2147483645) = 0
  · rw [if_pos h5] at h; exact absurd h (by decide)
  rw [if_neg h5] at h
  by_cases h6 : g_wi (N 208 (e + 8)) (lN 0) (lN 1000) = 0
  · rw [if_pos h6] at h; exact absurd h (by decide)
  rw [if_neg h6] at h
  by_cases h7 : g_wi (N 208 (e + 9)) (lN 0) (lN 1000) = 0
  · rw [if_pos h7] at h; exact absurd h (by decide)
  rw [if_neg h7] at h
  obtain ⟨a, -, ha, fa⟩ := g_wi_n (by decide) (by decide) h1
  obtain ⟨b, -, hb, fb⟩ := g_wi_n (by decide) (by decide) h2
  obtain ⟨k, -, hk, fk⟩ := g_wi_n (by decide) (by decide) h4
  obtain ⟨x, hx1, hx2, fx⟩ := g_wi_n (by decide) (by decide) h5
  obtain ⟨m, -, hm, fm⟩ := g_wi_n (by decide) (by decide) h6
  obtain ⟨p, -, hp, fp⟩ := g_wi_n (by decide) (by decide) h7
  rw [fa, fb, lN_i, lN_i] at h3
  obtain ⟨i, j, hi, hj, ei, ej, hij, hfi, hfj, -⟩ := g_pr_1 h3
  have e1 : a = i := (nI_eq (by omega) (by omega)).mp ei
  have e2 : b = j := (nI_eq (by omega) (by omega)).mp ej
  subst e1 e2
  have fk2 : N 208 (e + 2) = lN 0 ∨ N 208 (e + 2) = lN 1 := by
    have : k = 0 ∨ k = 1 := by omega
    rcases this with rfl | rfl
    · exact Or.inl fk
    · exact Or.inr fk
  refine ⟨a, b, m, p, hi, hj, hij, hfi, hfj, fa, fb, fk2, ⟨x, hx1, hx2, fx⟩, fm, hm, fp, hp, fun hz => ?_⟩
  rw [if_pos hz, fa, lN_i, g_cl (by omega)] at h
  by_cases h8 : N 208 (e + 3) = (M 197 (2 * a + 1)).toInt64
  · rw [if_pos h8] at h
    by_cases h9 : g_wi (N 208 (e + 4)) (lN 2) (lN 2147483645) = 0
    · rw [if_pos h9] at h; exact absurd h (by decide)
    · obtain ⟨y, hy1, hy2, fy⟩ := g_wi_n (by decide) (by decide) h9
      exact ⟨h8, y, hy1, hy2, fy⟩
  · rw [if_neg h8] at h; exact absurd h (by decide)
def f_open (G : Nat → Nat → Int32) (v : Int32) (M : q_I) (N : q_L) : Int32 × q_I × q_L := if g_th (M 192 16) v = 0 then (-1, M, N) else if g_mal M N (12 * v.toNatClampNeg) = 0 then
  f_op G M N (12 * v.toNatClampNeg) (N 208 (12 * v.toNatClampNeg)).toInt32.toNatClampNeg (N 208 (12 * v.toNatClampNeg + 1)).toInt32.toNatClampNeg (M 206 (4 * (N 208 (12 * v.toNatClampNeg + 1)).toInt32.toNatClampNeg + (N 208 (12 * v.toNatClampNeg)).toInt32.toNatClampNeg)).toNatClampNeg (M 201 (N 208 (12 * v.toNatClampNeg + 1)).toInt32.toNatClampNeg).toNatClampNeg
  else (nI 4, M, N)
