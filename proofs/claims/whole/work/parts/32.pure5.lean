/-! envelopes, rows of sessions: the reference's work as functions of its rows -/
theorem q_sub {a b c : Nat} (h : c + b = a) : nI a - nI b = nI c := by
  subst h
  rw [pk_sub (by omega)]
  congr 1
  omega
def g_th (c e : Int32) : Int32 := if e < 0 then nI 0 else if c ≤ e then nI 0 else nI 1
theorem g_th_1 {c e : Int32} {E : Nat} (hc : c = nI E) (hE : E ≤ 60) (h : ¬ g_th c e = 0) : ∃ j : Nat, j < E ∧ e = nI j := by
  unfold g_th at h
  subst hc
  by_cases h0 : e < 0
  · rw [if_pos h0] at h; exact absurd rfl h
  · rw [if_neg h0] at h
    by_cases h1 : nI E ≤ e
    · rw [if_pos h1] at h; exact absurd rfl h
    · rcases pk_ix e (show E < 2 ^ 31 by omega) with h2 | h2 | h2
      · exact absurd h2 h0
      · exact absurd h2 h1
      · exact h2
def g_wi (v lo hi : Int64) : Int32 := if v < lo then nI 0 else if hi < v then nI 0 else nI 1
theorem g_wi_n {v : Int64} {lo hi : Nat} (h1 : lo < 2 ^ 31) (h2 : hi < 2 ^ 31) (h : ¬ g_wi v (lN lo) (lN hi) = 0) : ∃ j : Nat, lo ≤ j ∧ j ≤ hi ∧ v = lN j := by
  unfold g_wi at h
  by_cases g1 : v < lN lo
  · rw [if_pos g1] at h; exact absurd rfl h
  · rw [if_neg g1] at h
    by_cases g2 : lN hi < v
    · rw [if_pos g2] at h; exact absurd rfl h
    · have e1 : (lN lo).toInt = lo := lN_toInt h1
      have e2 : (lN hi).toInt = hi := lN_toInt h2
      rw [Int64.lt_iff_toInt_lt] at g1 g2
      have g0 : ¬ v < 0 := by rw [Int64.lt_iff_toInt_lt, show (0 : Int64).toInt = 0 from rfl]; omega
      obtain ⟨k, hk, rfl⟩ := pk_lOf g0
      have e3 : (lN k).toInt = k := lg_ofNat_toInt (by omega)
      exact ⟨k, by omega, by omega, rfl⟩
def g_first (P : Nat → Bool) : Nat → Nat
  | 0 => 0
  | c + 1 => if g_first P c < c then g_first P c else if P c then c else c + 1
theorem g_first_s (P : Nat → Bool) : ∀ c, g_first P c ≤ c ∧ (∀ j, j < g_first P c → P j = false) ∧ (g_first P c < c → P (g_first P c) = true)
  | 0 => ⟨Nat.le_refl _, fun j hj => absurd hj (Nat.not_lt_zero _), fun h => absurd h (Nat.lt_irrefl _)⟩
  | c + 1 => by
    obtain ⟨h1, h2, h3⟩ := g_first_s P c
    unfold g_first
    by_cases h : g_first P c < c
    · rw [if_pos h]; exact ⟨by omega, h2, fun _ => h3 h⟩
    · rw [if_neg h]
      have e : g_first P c = c := by omega
      rw [e] at h2
      by_cases hp : P c = true
      · rw [if_pos hp]; exact ⟨by omega, h2, fun _ => hp⟩
      · rw [if_neg hp]
        refine ⟨Nat.le_refl _, fun j hj => ?_, fun h => absurd h (Nat.lt_irrefl _)⟩
        by_cases e2 : j = c
        · subst e2; simpa using hp
        · exact h2 j (by omega)
theorem g_first_u {P : Nat → Bool} {c k : Nat} (h1 : k ≤ c) (h2 : ∀ j, j < k → P j = false) (h3 : k < c → P k = true) : g_first P c = k := by
  obtain ⟨g1, g2, g3⟩ := g_first_s P c
  rcases Nat.lt_trichotomy (g_first P c) k with h | h | h
  · have := g3 (by omega); rw [h2 _ h] at this; exact absurd this (by decide)
  · exact h
  · have := g2 k h; rw [h3 (by omega)] at this; exact absurd this (by decide)
theorem g_wide_c {f g : Nat → Int32} (h : ∀ i, i < 8 → f i = g i) (a b c e : Int32) : g_wide f a b c e = g_wide g a b c e := by
  unfold g_wide
  rw [g_mix_c (i := 0) h _ _ _ _ (by decide), g_mix_c (i := 1) h _ _ _ _ (by decide)]
theorem g_tag_c {f g : Nat → Int32} (h : ∀ i, i < 8 → f i = g i) (x n pn : Int32) (z : Int64) (a b : Int32) : g_tag f x n pn z a b = g_tag g x n pn z a b := by
  unfold g_tag
  exact g_wide_c (fun i hi => g_mix_c h _ _ _ _ (by omega)) _ _ _ _
def g_tg (F : Nat → Int64) (e : Nat) (ia ib : Int32) (key : Nat → Int32) : Int64 := g_tag key (F (e + 7)).toInt32 (F (e + 8)).toInt32 (F (e + 9)).toInt32 (F (e + 10)) ia ib
def f_alter (e w : Int32) (z : Int64) (M : q_I) (N : q_L) : Int32 × q_L := if g_th (M 192 16) e = 0 then (nI 0, N) else if w < 0 then (nI 0, N) else if w ≤ nI 11 then (nI 1, q_up N 208 (12 * e.toNatClampNeg + w.toNatClampNeg) (N 208 (12 * e.toNatClampNeg + w.toNatClampNeg) ^^^ z)) else (nI 0, N)
def f_copy (e : Int32) (M : q_I) (N : q_L) : Int32 × q_I × q_L := if g_th (M 192 16) e = 0 then (-1, M, N) else if M 192 16 = nI 60 then (-1, M, N) else
  (M 192 16, q_up M 192 16 (nI ((M 192 16).toNatClampNeg + 1)), va_up N 208 (fun j => if 12 * (M 192 16).toNatClampNeg ≤ j ∧ j < 12 * (M 192 16).toNatClampNeg + 12 then N 208 (12 * e.toNatClampNeg + (j - 12 * (M 192 16).toNatClampNeg)) else N 208 j))
def g_env (e w : Int32) (M : q_I) (N : q_L) : Int64 := if g_th (M 192 16) e = 0 then -1 else if w < 0 then -1 else if nI 11 < w then -1 else N 208 (12 * e.toNatClampNeg + w.toNatClampNeg)
def g_us (M : q_I) (j i : Nat) : Int32 := if i = 0 then M 197 (2 * j + 1) else if i = 1 then M 198 (2 * j + 1) else if i = 2 then M 199 (2 * j + 1) else if i = 3 then M 196 j else if i = 4 then M 201 j else if i = 5 then M 204 j else M 202 (4 * j + (i - 6))
def g_user (u w : Int32) (M : q_I) : Int32 := if g_kn (M 193) u = 0 then -1 else if w < 0 then -1 else if w ≤ nI 9 then g_us M u.toNatClampNeg w.toNatClampNeg else -1
def g_sess (u v : Int32) (M : q_I) : Int32 := if g_pr (M 193) u v = 0 then -1 else M 206 (4 * u.toNatClampNeg + v.toNatClampNeg)
def g_se (r : Nat → Int32) (i : Nat) : Int32 := if i = 0 then r 0 else if i = 1 then r 6 else if i = 2 then r 7 else if i = 3 then r 8 else if i = 4 then r 9 else if i = 5 then r 1 else if i = 6 then r 3 else if i = 7 then (if r 10 = nI 1 then (if r 11 = 0 then nI 1 else nI 0) else nI 0) else r 14
/-- the row k of the list p -/
def f_blk (M : q_I) (p k : Nat) : Nat → Int32 := fun i => M 205 (158 * (3 * p + k) + i)
def g_session (u v k w : Int32) (M : q_I) : Int32 := if g_pr (M 193) u v = 0 then -1 else if k < 0 then -1 else if M 206 (4 * u.toNatClampNeg + v.toNatClampNeg) ≤ k then -1 else if w < 0 then -1 else if w ≤ nI 8 then g_se (f_blk M (4 * u.toNatClampNeg + v.toNatClampNeg) k.toNatClampNeg) w.toNatClampNeg else -1
/-- one message key kept: c are kept before -/
def s_sk1 (c : Nat) (r : Nat → Int32) : Nat → Int32 := fun i => if i = 7 then r 7 + nI 1 else if i = 9 then nI (c + 1) else if i = 38 + 10 * c then r 1 else if i = 39 + 10 * c then r 7 else if 40 + 10 * c ≤ i ∧ i < 48 + 10 * c then g_mix (fun j => r (30 + j)) (nI 7) (nI 0) (nI 0) (nI 0) (i - (40 + 10 * c)) else if 30 ≤ i ∧ i < 38 then g_mix (fun j => r (30 + j)) (nI 8) (nI 0) (nI 0) (nI 0) (i - 30) else r i
def s_sk (c : Nat) : Nat → (Nat → Int32) → Nat → Int32
  | 0, r => r
  | k + 1, r => s_sk1 (c + k) (s_sk c k r)
def s_gone (k c : Nat) (r : Nat → Int32) : Nat → Int32 := fun i => if i = 9 then nI (c - 1) else if 38 + 10 * k ≤ i ∧ i < 38 + 10 * (c - 1) then r (i + 10) else r i
def s_rt (r : Nat → Int32) : Nat → Int32 := fun j => r (14 + j)
def s_turn (x q : Int32) (r : Nat → Int32) : Nat → Int32 := fun i => if i = 1 then x else if i = 2 then q else if i = 3 then g_pub q else if i = 4 then nI 1 else if i = 5 then nI 1 else if i = 6 then nI 0 else if i = 7 then nI 0 else if i = 8 then r 6 else
  if 14 ≤ i ∧ i < 22 then g_mix (g_mix (s_rt r) (g_pow x (r 2)) (nI 5) (nI 0) (nI 0)) (g_pow x q) (nI 5) (nI 0) (nI 0) (i - 14) else
  if 22 ≤ i ∧ i < 30 then g_mix (g_mix (s_rt r) (g_pow x (r 2)) (nI 5) (nI 0) (nI 0)) (g_pow x q) (nI 6) (nI 0) (nI 0) (i - 22) else
  if 30 ≤ i ∧ i < 38 then g_mix (s_rt r) (g_pow x (r 2)) (nI 6) (nI 0) (nI 0) (i - 30) else r i
theorem s_sk_9 {c : Nat} {r : Nat → Int32} (h : r 9 = nI c) : ∀ k, s_sk c k r 9 = nI (c + k)
  | 0 => h
  | k + 1 => by
    show s_sk1 (c + k) (s_sk c k r) 9 = _
    unfold s_sk1
    rw [if_neg (by decide), if_pos rfl]
    rfl
theorem s_sk_7 {c w : Nat} {r : Nat → Int32} (h : r 7 = nI w) : ∀ k, s_sk c k r 7 = nI (w + k)
  | 0 => h
  | k + 1 => by
    show s_sk1 (c + k) (s_sk c k r) 7 = _
    unfold s_sk1
    rw [if_pos rfl, s_sk_7 h k, nI_add]
    rfl
theorem s_sk_5 {c : Nat} {r : Nat → Int32} {i : Nat} (h7 : i ≠ 7) (h9 : i ≠ 9) (h30 : i < 30) : ∀ k, s_sk c k r i = r i
  | 0 => rfl
  | k + 1 => by
    show s_sk1 (c + k) (s_sk c k r) i = _
    unfold s_sk1
    rw [if_neg h7, if_neg h9, if_neg (by omega), if_neg (by omega), if_neg (by omega), if_neg (by omega), s_sk_5 h7 h9 h30 k]
