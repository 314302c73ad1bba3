theorem q_nm1 {k : Nat} (h : k < 10000) : ¬ nI k = -1 := by
  intro z
  exact nI_pos (show k < 2 ^ 31 by omega) (by rw [z]; decide)
theorem s_mid_t {X : Int32} {m p c w : Nat} {q : Int32} {tg : (Nat → Int32) → Int64} {T : Int64} {r : Nat → Int32} (h1 : ¬ X = r 1) (h5 : r 5 = nI 1) (h8 : p - w ≤ 8) : s_mid X m p c w q tg T r = s_end m (c + (p - w)) 0 tg T true (s_ss q (s_tr X (s_sk c (p - w) r))) := by
  unfold s_mid
  rw [if_neg h1]
  by_cases hw : w < p
  · rw [if_pos ⟨h5, hw⟩, if_neg (by omega), s_turn_e]
  · rw [if_neg (fun z => hw z.2), show p - w = 0 by omega, s_turn_e]
    rfl
theorem s_mid_f {X : Int32} {m p c w : Nat} {q : Int32} {tg : (Nat → Int32) → Int64} {T : Int64} {r : Nat → Int32} (h1 : ¬ X = r 1) (h5 : r 5 = 0) : s_mid X m p c w q tg T r = s_end m c 0 tg T true (s_ss q (s_tr X r)) := by
  unfold s_mid
  rw [if_neg h1, if_neg (fun z => absurd (h5.symm.trans z.1) (by decide)), s_turn_e]
set_option maxHeartbeats 4000000 in
theorem c_tryTrial {L d n : Nat} {I : q_I} {J : q_L} {R : q_R} {Q : q_Q} {t le e a b m p : Nat} {r : Nat → Int32} {N : q_L} {M : q_I} (hK : q_K0 n I R) (ha : ∀ u, u < 4 → c_A I R M (84 + 19 * u) u) (ht : R 3 6 = some t) (hS : q_Se n R t) (hl : q_ar n le 1 12) (hJ : ∀ k, k < 12 → J le k = N 208 (e + k)) (hwf : q_wf M N e a b m p) (h : s_R I t r) (hs : s_S I t r ∨ (r 9 = nI 0 ∧ ¬ (N 208 (e + 7)).toInt32 = r 1)) (hri : q_RI r) (hno : ∀ I', ¬ (f_try M N e a b r).1 = nI 0 → (∀ x, x ≠ 5 → x ≠ 6 → x ≠ 7 → x ≠ 82 → x ≠ 83 → (x < t ∨ t + 10 ≤ x) → I' x = I x) → Q (some (.int (f_try M N e a b r).1)) (n, I', J, R)) (hok : ∀ I', (f_try M N e a b r).1 = nI 0 → s_R I' t (va_up (f_try M N e a b r).2.1 11 (nI 1)) → s_S I' t (va_up (f_try M N e a b r).2.1 11 (nI 1)) → (∀ u, u < 4 → c_A I' R (f_ok (f_try M N e a b r) b M) (84 + 19 * u) u) → (∀ x, x ≠ 5 → x ≠ 6 → x ≠ 7 → x ≠ 82 → x ≠ 83 → x ≠ 84 + 19 * b → (x < t ∨ t + 10 ≤ x) → I' x = I x) → Q (some (.int (nI 0))) (n, I', q_up J 3 5 (J le 10 ^^^ g_wide (f_try M N e a b r).2.2.1 (nI 9) (nI 0) (nI 0) (nI 0)), R)) : q_Ex L (d + 6) 70 [.ref 3, .ref le] (n, I, J, R) Q := by
  refine q_in (x := q_m70) rfl rfl ?_
  show q_W L (d + 5) 70 q_m70 Q 0 [some (.ref 3), some (.ref le), none, none, none, none] [] (n, I, J, R) 0 0
  have hge := hS.ge
  have h4a := hwf.ha
  have h4b := hwf.hb
  have hm := hwf.hm
  have hp := hwf.hp
  obtain ⟨⟨c, hc12, hc⟩, w, hw1, hw⟩ := hri
  have f0 : J le 0 = lN a := (hJ 0 (by decide)).trans hwf.fa
  have f1 : J le 1 = lN b := (hJ 1 (by decide)).trans hwf.fb
  have hft := f_try_e (M := M) (N := N) (e := e) (a := a) (b := b) hwf.fm hwf.fp hc hw hm hp hc12 hw1
  obtain ⟨tg, etg⟩ : ∃ z, z = g_tg (N 208) e (M 197 (2 * a + 1)) (M 197 (2 * b + 1)) := ⟨_, rfl⟩
  have htg : ∀ key, g_tag key (J le 7).toInt32 (J le 8).toInt32 (J le 9).toInt32 (J le 10) (M 197 (2 * a + 1)) (M 197 (2 * b + 1)) = tg key := fun key => by rw [hJ 7 (by decide), hJ 8 (by decide), hJ 9 (by decide), hJ 10 (by decide), etg]; rfl
  have hT : J le 11 = N 208 (e + 11) := hJ 11 (by decide)
  rw [← etg] at hft
  refine q_k 2 ?_
  show q_W L (d + 5) 70 q_m70 Q 3 [some (.ref 3), some (.ref le), none, none, none, none] [.int (nI 7), .ref le] (n, I, J, R) 0 0
  refine q_lal (m := 7) rfl (hl) (by decide) (rfl) ?_
  refine q_k 2 ?_
  show q_W L (d + 5) 70 q_m70 Q 6 [some (.ref 3), some (.ref le), some (.int ((J le 7).toInt32)), none, none, none] [] (n, I, J, R) 0 0
  obtain ⟨X, eX⟩ : ∃ zz9, zz9 = (J le 7).toInt32 := ⟨_, rfl⟩
  rw [← eX]
  refine q_k 2 ?_
  show q_W L (d + 5) 70 q_m70 Q 9 [some (.ref 3), some (.ref le), some (.int X), none, none, none] [.int (nI 8), .ref le] (n, I, J, R) 0 0
  refine q_lal (m := 8) rfl (hl) (by decide) (rfl) ?_
  refine q_k 1 ?_
  show q_W L (d + 5) 70 q_m70 Q 11 [some (.ref 3), some (.ref le), some (.int X), none, none, none] [.int ((J le 8).toInt32)] (n, I, J, R) 0 0
  refine q_top (w := nI m) (by rw [hJ 8 (by decide), hwf.fm]; exact lN_i _) ?_
  refine q_k 2 ?_
  show q_W L (d + 5) 70 q_m70 Q 13 [some (.ref 3), some (.ref le), some (.int X), some (.int (nI m)), none, none] [.ref 3] (n, I, J, R) 0 0
  refine q_gR (b := t) rfl rfl (⟨Nat.lt_of_lt_of_le (by decide) hK.1, rfl⟩) (ht) ?_
  refine q_gR (b := (t + 5)) rfl rfl (hS.ob) (hS.r10) ?_
  refine q_k 2 ?_
  show q_W L (d + 5) 70 q_m70 Q 21 [some (.ref 3), some (.ref le), some (.int X), some (.int (nI m)), none, none] [.int (nI m), .int X, .ref (t + 5)] (n, I, J, R) 0 0
  refine q_cv (as := [.int X, .int (nI m)]) (rs := []) rfl rfl rfl (hS.o5) rfl rfl ?_
  refine c_placeOf (s := t + 5) (c := c) (hS.o5) (hS.s1) (hS.s2) (hS.s3) (hS.o6) (hS.o7) (hS.o8) (by rw [h.k0, hc]) (by omega) (fun k hk hg => ?_) (fun hg => ?_)
  · skip
    show q_W L (d + 5) 70 q_m70 Q 24 [some (.ref 3), some (.ref le), some (.int X), some (.int (nI m)), none, none] [.int (nI k)] (n, I, J, R) 0 0
    have hgc : g_first (fun k => decide (I (t + 5 + 1) k = X ∧ I (t + 5 + 2) k = nI m)) c = g_first (s_hit X m r) c := g_first_cg (fun j hj => by
      obtain ⟨k1, k2, -⟩ := h.kp j (by rw [hc, g_cl (by omega)]; exact hj)
      unfold s_hit
      show decide (I (t + 6) j = X ∧ I (t + 7) j = nI m) = _
      rw [k1, k2])
    have hX : (N 208 (e + 7)).toInt32 = X := by rw [eX, hJ 7 (by decide)]
    rw [hX] at hft hs
    rw [hgc] at hg
    have hs' : s_S I t r := hs.resolve_right (fun z => absurd ((nI_eq (by omega) (by decide)).mp (hc.symm.trans z.1)) (by omega))
    refine q_k 3 ?_
    show q_W L (d + 5) 70 q_m70 Q 29 [some (.ref 3), some (.ref le), some (.int X), some (.int (nI m)), some (.int (nI k)), none] [.int (-1), .int (nI k)] (n, I, J, R) 0 0
    refine q_one rfl rfl ?_
    show ((nI k) = (-1) → q_W L (d + 5) 70 q_m70 Q 71 [some (.ref 3), some (.ref le), some (.int X), some (.int (nI m)), some (.int (nI k)), none] [] (n, I, J, R) 0 0) ∧ (¬ (nI k) = (-1) → q_W L (d + 5) 70 q_m70 Q 32 [some (.ref 3), some (.ref le), some (.int X), some (.int (nI m)), some (.int (nI k)), none] [] (n, I, J, R) 0 0)
    refine ⟨fun z => absurd z (q_nm1 (by omega)), fun _ => ?_⟩
    refine q_k 1 ?_
    show q_W L (d + 5) 70 q_m70 Q 33 [some (.ref 3), some (.ref le), some (.int X), some (.int (nI m)), some (.int (nI k)), none] [.ref 3] (n, I, J, R) 0 0
    refine q_gR (b := t) rfl rfl (⟨Nat.lt_of_lt_of_le (by decide) hK.1, rfl⟩) (ht) ?_
    refine q_gR (b := (t + 5)) rfl rfl (hS.ob) (hS.r10) ?_
    refine q_k 2 ?_
    show q_W L (d + 5) 70 q_m70 Q 42 [some (.ref 3), some (.ref le), some (.int X), some (.int (nI m)), some (.int (nI k)), none] [.ref 3, .int (nI k), .ref (t + 5)] (n, I, J, R) 0 0
    refine q_gR (b := 82) rfl rfl (⟨Nat.lt_of_lt_of_le (by decide) hK.1, rfl⟩) (hK.2.1 3 8 82 rfl) ?_
    refine q_cv (as := [.int (nI k), .ref 82]) (rs := []) rfl rfl rfl (hS.o5) rfl rfl ?_
    refine c_takeOut (s := t + 5) (c := c) (hS.o5) (hS.s1) (hS.s2) (hS.s3) (hS.o6) (hS.o7) (hS.o8) (⟨by decide, Nat.lt_of_lt_of_le (by decide) hK.1, rfl⟩) (by omega) (by omega) (by omega) (by omega) (by rw [h.k0, hc]) (by omega) (hk) (fun I1 a1 d1 p1 q1 w1 g1 => ?_)
    have g1t : ∀ x, x ≠ 82 → (x < t ∨ t + 10 ≤ x) → I1 x = I x := fun x h82 hx => g1 x (by omega) (by omega) (by omega) (by omega) h82
    have m1 : s_R I1 t (s_gone k c r) := s_R_gone h hc (by omega) hk d1 p1 q1 w1 (fun x hx => g1 x (by omega) (by omega) (by omega) (by omega) (by omega))
    have n1 : s_S I1 t (s_gone k c r) := s_S_gone hs' (g1 (t + 3) (by omega) (by omega) (by omega) (by omega) (by omega))
    have key1 : ∀ i, i < 8 → I1 82 i = r (40 + 10 * k + i) := fun i hi => by rw [a1 i hi]; exact (h.kp k (by rw [hc, g_cl (by omega)]; exact hk)).2.2 i hi
    have K1 := q_K0_to hK (g1t 0 (by decide) (by omega)) (g1t 1 (by decide) (by omega))
    have ha1 : ∀ u, u < 4 → c_A I1 R M (84 + 19 * u) u := fun u hu => c_A_to (ha u hu) (fun x h1 h2 => g1t x (by omega) (by omega)) rfl (q_eu_rf _ _)
    show q_W L (d + 5) 70 q_m70 Q 48 [some (.ref 3), some (.ref le), some (.int X), some (.int (nI m)), some (.int (nI k)), none] [] (n, I1, J, R) 0 0
    refine q_k 2 ?_
    show q_W L (d + 5) 70 q_m70 Q 50 [some (.ref 3), some (.ref le), some (.int X), some (.int (nI m)), some (.int (nI k)), none] [.ref le, .ref 3] (n, I1, J, R) 0 0
    refine q_cv (as := [.ref le]) (rs := []) rfl rfl rfl (⟨Nat.lt_of_lt_of_le (by decide) hK.1, rfl⟩) rfl rfl ?_
    refine c_tagOf (K1) (ha1) (hl) (f0) (f1) (h4a) (h4b) (fun I2 g2 => ?_)
    refine q_topL (w := tg (fun i => r (40 + 10 * k + i))) ((htg _).symm.trans (g_tag_c (fun i hi => (key1 i hi).symm) _ _ _ _ _ _) |>.symm) ?_
    show q_W L (d + 5) 70 q_m70 Q 53 [some (.ref 3), some (.ref le), some (.int X), some (.int (nI m)), some (.int (nI k)), none] [.long (tg (fun i => r (40 + 10 * k + i)))] (n, I2, J, R) 0 0
    refine q_k 2 ?_
    show q_W L (d + 5) 70 q_m70 Q 56 [some (.ref 3), some (.ref le), some (.int X), some (.int (nI m)), some (.int (nI k)), none] [.int (nI 11), .ref le, .long (tg (fun i => r (40 + 10 * k + i)))] (n, I2, J, R) 0 0
    refine q_lal (m := 11) rfl (hl) (by decide) (rfl) ?_
    refine q_k 1 ?_
    show q_W L (d + 5) 70 q_m70 Q 58 [some (.ref 3), some (.ref le), some (.int X), some (.int (nI m)), some (.int (nI k)), none] [.int (lg_cmp (tg (fun i => r (40 + 10 * k + i))) (J le 11))] (n, I2, J, R) 0 0
    refine q_one rfl rfl ?_
    show (¬ (lg_cmp (tg (fun i => r (40 + 10 * k + i))) (J le 11)) = 0 → q_W L (d + 5) 70 q_m70 Q 69 [some (.ref 3), some (.ref le), some (.int X), some (.int (nI m)), some (.int (nI k)), none] [] (n, I2, J, R) 0 0) ∧ ((lg_cmp (tg (fun i => r (40 + 10 * k + i))) (J le 11)) = 0 → q_W L (d + 5) 70 q_m70 Q 61 [some (.ref 3), some (.ref le), some (.int X), some (.int (nI m)), some (.int (nI k)), none] [] (n, I2, J, R) 0 0)
    refine ⟨fun h58 => ?_, fun h58 => ?_⟩
    · skip
      rw [lg_cmp_eq] at h58
      refine q_k 1 ?_
      show q_W L (d + 5) 70 q_m70 Q 70 [some (.ref 3), some (.ref le), some (.int X), some (.int (nI m)), some (.int (nI k)), none] [.int (nI 1)] (n, I2, J, R) 0 0
      refine q_one rfl rfl ?_
      show Q (some (.int (nI 1))) (n, I2, J, R)
      rw [hT] at h58
      have hS0 : s_trial X m p c w (g_nx M b) tg (N 208 (e + 11)) r = (nI 1, r, r, false) := by unfold s_trial; rw [hg, if_pos hk, if_neg h58]
      rw [hft, hS0] at hno
      exact hno I2 (show ¬ nI 1 = nI 0 by decide) (fun x h5 h6 h7 h82 h83 hx => (g2 x h5 h6 h7 h83).trans (g1t x h82 hx))
    · skip
      rw [lg_cmp_eq] at h58
      rw [hT] at h58
      have hS0 : s_trial X m p c w (g_nx M b) tg (N 208 (e + 11)) r = (nI 0, s_gone k c r, (fun i => r (40 + 10 * k + i)), false) := by unfold s_trial; rw [hg, if_pos hk, if_pos h58]
      rw [hft, hS0] at hok
      have g2t : ∀ x, x ≠ 5 → x ≠ 6 → x ≠ 7 → x ≠ 82 → x ≠ 83 → (x < t ∨ t + 10 ≤ x) → I2 x = I x := fun x h5 h6 h7 h82 h83 hx => (g2 x h5 h6 h7 h83).trans (g1t x h82 hx)
      have m2 : s_R I2 t (s_gone k c r) := s_R_to m1 (fun x h1 h2 => g2 x (by omega) (by omega) (by omega) (by omega))
      have n2 : s_S I2 t (s_gone k c r) := s_S_to n1 (fun x h1 h2 => g2 x (by omega) (by omega) (by omega) (by omega))
      have key2 : ∀ i, i < 8 → I2 82 i = r (40 + 10 * k + i) := fun i hi => by rw [g2 82 (by decide) (by decide) (by decide) (by decide)]; exact key1 i hi
      have K2 := q_K0_to K1 (g2 0 (by decide) (by decide) (by decide) (by decide)) (g2 1 (by decide) (by decide) (by decide) (by decide))
      refine q_k 2 ?_
      show q_W L (d + 5) 70 q_m70 Q 63 [some (.ref 3), some (.ref le), some (.int X), some (.int (nI m)), some (.int (nI k)), none] [.ref le, .ref 3] (n, I2, J, R) 0 0
      refine q_cv (as := [.ref le]) (rs := []) rfl rfl rfl (⟨Nat.lt_of_lt_of_le (by decide) hK.1, rfl⟩) rfl rfl ?_
      refine c_finish (K2) (hl) (ht) (hS) (fun I3 a3 g3 => ?_)
      show q_W L (d + 5) 70 q_m70 Q 66 [some (.ref 3), some (.ref le), some (.int X), some (.int (nI m)), some (.int (nI k)), none] [.int (nI 0)] (n, I3, q_up J 3 5 (J le 10 ^^^ g_wide (I2 82) (nI 9) (nI 0) (nI 0) (nI 0)), R) 0 0
      refine q_k 1 ?_
      show q_W L (d + 5) 70 q_m70 Q 70 [some (.ref 3), some (.ref le), some (.int X), some (.int (nI m)), some (.int (nI k)), none] [.int (nI 0)] (n, I3, q_up J 3 5 (J le 10 ^^^ g_wide (I2 82) (nI 9) (nI 0) (nI 0) (nI 0)), R) 0 0
      refine q_one rfl rfl ?_
      show Q (some (.int (nI 0))) (n, I3, q_up J 3 5 (J le 10 ^^^ g_wide (I2 82) (nI 9) (nI 0) (nI 0) (nI 0)), R)
      rw [g_wide_c key2]
      exact hok I3 rfl (s_R_an m2 a3 (fun x h1 h2 => g3 x (by omega) (by omega) (by omega) (by omega))) (s_S_an n2 (g3 (t + 3) (by omega) (by omega) (by omega) (by omega))) (fun u hu => c_A_to (ha1 u hu) (fun x h1 h2 => by rw [g3 x (by omega) (by omega) (by omega) (by omega), g2 x (by omega) (by omega) (by omega) (by omega)]) rfl (q_eu_rf _ _)) (fun x h5 h6 h7 h82 h83 _ hx => (g3 x h5 h6 h7 (by omega)).trans (g2t x h5 h6 h7 h82 h83 hx))
  · skip
    show q_W L (d + 5) 70 q_m70 Q 24 [some (.ref 3), some (.ref le), some (.int X), some (.int (nI m)), none, none] [.int (-1)] (n, I, J, R) 0 0
    have hgc : g_first (fun k => decide (I (t + 5 + 1) k = X ∧ I (t + 5 + 2) k = nI m)) c = g_first (s_hit X m r) c := g_first_cg (fun j hj => by
      obtain ⟨k1, k2, -⟩ := h.kp j (by rw [hc, g_cl (by omega)]; exact hj)
      unfold s_hit
      show decide (I (t + 6) j = X ∧ I (t + 7) j = nI m) = _
      rw [k1, k2])
    have hX : (N 208 (e + 7)).toInt32 = X := by rw [eX, hJ 7 (by decide)]
    rw [hX] at hft hs
    rw [hgc] at hg
    refine q_k 3 ?_
    show q_W L (d + 5) 70 q_m70 Q 29 [some (.ref 3), some (.ref le), some (.int X), some (.int (nI m)), some (.int (-1)), none] [.int (-1), .int (-1)] (n, I, J, R) 0 0
    refine q_one rfl rfl ?_
    show ((-1) = (-1) → q_W L (d + 5) 70 q_m70 Q 71 [some (.ref 3), some (.ref le), some (.int X), some (.int (nI m)), some (.int (-1)), none] [] (n, I, J, R) 0 0) ∧ (¬ (-1) = (-1) → q_W L (d + 5) 70 q_m70 Q 32 [some (.ref 3), some (.ref le), some (.int X), some (.int (nI m)), some (.int (-1)), none] [] (n, I, J, R) 0 0)
    refine ⟨fun _ => ?_, fun z => absurd (rfl) z⟩
    refine q_k 2 ?_
    show q_W L (d + 5) 70 q_m70 Q 73 [some (.ref 3), some (.ref le), some (.int X), some (.int (nI m)), some (.int (-1)), none] [.ref 3, .int X] (n, I, J, R) 0 0
    refine q_gR (b := t) rfl rfl (⟨Nat.lt_of_lt_of_le (by decide) hK.1, rfl⟩) (ht) ?_
    refine q_gI rfl rfl (hS.ob) ?_
    refine q_top (w := r 1) (h.f3) ?_
    refine q_one rfl rfl ?_
    show (X = (r 1) → q_W L (d + 5) 70 q_m70 Q 86 [some (.ref 3), some (.ref le), some (.int X), some (.int (nI m)), some (.int (-1)), none] [] (n, I, J, R) 0 0) ∧ (¬ X = (r 1) → q_W L (d + 5) 70 q_m70 Q 82 [some (.ref 3), some (.ref le), some (.int X), some (.int (nI m)), some (.int (-1)), none] [] (n, I, J, R) 0 0)
    refine ⟨fun h79 => ?_, fun h79 => ?_⟩
    · skip
      refine q_k 3 ?_
      show q_W L (d + 5) 70 q_m70 Q 91 [some (.ref 3), some (.ref le), some (.int X), some (.int (nI m)), some (.int (-1)), some (.int (nI 0))] [.int (nI 0)] (n, I, J, R) 0 0
      refine q_one rfl rfl ?_
      show ((nI 0) = 0 → q_W L (d + 5) 70 q_m70 Q 137 [some (.ref 3), some (.ref le), some (.int X), some (.int (nI m)), some (.int (-1)), some (.int (nI 0))] [] (n, I, J, R) 0 0) ∧ (¬ (nI 0) = 0 → q_W L (d + 5) 70 q_m70 Q 94 [some (.ref 3), some (.ref le), some (.int X), some (.int (nI m)), some (.int (-1)), some (.int (nI 0))] [] (n, I, J, R) 0 0)
      refine ⟨fun _ => ?_, fun z => absurd (by decide) z⟩
      have hS0 : s_trial X m p c w (g_nx M b) tg (N 208 (e + 11)) r = s_end m c w tg (N 208 (e + 11)) false r := by unfold s_trial; rw [hg, if_neg (Nat.lt_irrefl _)]; unfold s_mid; rw [if_pos h79]
      rw [hft, hS0] at hno hok
      exact c_try_tail0 hK ha ht hS hl f0 f1 h4a h4b htg hT h (hs.resolve_right (fun z => z.2 h79)) hc (by omega) hw hw1 hm hno hok
    · skip
      refine q_k 4 ?_
      show q_W L (d + 5) 70 q_m70 Q 91 [some (.ref 3), some (.ref le), some (.int X), some (.int (nI m)), some (.int (-1)), some (.int (nI 1))] [.int (nI 1)] (n, I, J, R) 0 0
      refine q_one rfl rfl ?_
      show ((nI 1) = 0 → q_W L (d + 5) 70 q_m70 Q 137 [some (.ref 3), some (.ref le), some (.int X), some (.int (nI m)), some (.int (-1)), some (.int (nI 1))] [] (n, I, J, R) 0 0) ∧ (¬ (nI 1) = 0 → q_W L (d + 5) 70 q_m70 Q 94 [some (.ref 3), some (.ref le), some (.int X), some (.int (nI m)), some (.int (-1)), some (.int (nI 1))] [] (n, I, J, R) 0 0)
      refine ⟨fun z => absurd z (by decide), fun _ => ?_⟩
      refine q_k 1 ?_
      show q_W L (d + 5) 70 q_m70 Q 95 [some (.ref 3), some (.ref le), some (.int X), some (.int (nI m)), some (.int (-1)), some (.int (nI 1))] [.ref 3] (n, I, J, R) 0 0
      refine q_gR (b := t) rfl rfl (⟨Nat.lt_of_lt_of_le (by decide) hK.1, rfl⟩) (ht) ?_
      refine q_gZ rfl rfl (hS.ob) ?_
      refine q_top (w := r 5) (h.f6) ?_
      refine q_one rfl rfl ?_
      show ((r 5) = 0 → q_W L (d + 5) 70 q_m70 Q 125 [some (.ref 3), some (.ref le), some (.int X), some (.int (nI m)), some (.int (-1)), some (.int (nI 1))] [] (n, I, J, R) 0 0) ∧ (¬ (r 5) = 0 → q_W L (d + 5) 70 q_m70 Q 104 [some (.ref 3), some (.ref le), some (.int X), some (.int (nI m)), some (.int (-1)), some (.int (nI 1))] [] (n, I, J, R) 0 0)
      refine ⟨fun h101 => ?_, fun h101 => ?_⟩
      · skip
        refine q_k 1 ?_
        show q_W L (d + 5) 70 q_m70 Q 126 [some (.ref 3), some (.ref le), some (.int X), some (.int (nI m)), some (.int (-1)), some (.int (nI 1))] [.ref 3] (n, I, J, R) 0 0
        refine q_gR (b := t) rfl rfl (⟨Nat.lt_of_lt_of_le (by decide) hK.1, rfl⟩) (ht) ?_
        refine q_k 1 ?_
        show q_W L (d + 5) 70 q_m70 Q 130 [some (.ref 3), some (.ref le), some (.int X), some (.int (nI m)), some (.int (-1)), some (.int (nI 1))] [.ref 3, .ref t] (n, I, J, R) 0 0
        refine q_gR (b := 4) rfl rfl (⟨Nat.lt_of_lt_of_le (by decide) hK.1, rfl⟩) (hK.2.1 3 0 4 rfl) ?_
        refine q_k 1 ?_
        show q_W L (d + 5) 70 q_m70 Q 134 [some (.ref 3), some (.ref le), some (.int X), some (.int (nI m)), some (.int (-1)), some (.int (nI 1))] [.int X, .ref 4, .ref t] (n, I, J, R) 0 0
        refine q_cv (as := [.ref 4, .int X]) (rs := []) rfl rfl rfl (hS.ob) rfl rfl ?_
        refine c_turnReceiving (hK) (hS) (h) (fun I1 a1 u1 g1 => ?_)
        show q_W L (d + 5) 70 q_m70 Q 137 [some (.ref 3), some (.ref le), some (.int X), some (.int (nI m)), some (.int (-1)), some (.int (nI 1))] [] (n, I1, J, R) 0 0
        have hS0 : s_trial X m p c w (g_nx M b) tg (N 208 (e + 11)) r = s_end m c 0 tg (N 208 (e + 11)) true (s_ss (g_nx M b) (s_tr X r)) := by unfold s_trial; rw [hg, if_neg (Nat.lt_irrefl _)]; exact s_mid_f h79 h101
        rw [hft, hS0] at hno hok
        have gz : ∀ x, x ≠ 5 → x ≠ 6 → (x < t ∨ t + 10 ≤ x) → I1 x = I x := g1
        refine c_try_tail1 (q_K0_to hK (gz 0 (by decide) (by decide) (by omega)) (gz 1 (by decide) (by decide) (by omega))) (fun u hu => c_A_to (ha u hu) (fun x h1 h2 => gz x (by omega) (by omega) (by omega)) rfl (q_eu_rf _ _)) ht hS hl f0 f1 h4a h4b htg hT a1 (c := c) (w := 0) (by rw [s_tr_n (by omega)]; exact hc) (by omega) s_tr_7 (by decide) hm (fun I2 z fr => hno I2 z (fun x h5 h6 h7 h82 h83 hx => (fr x h5 h6 h7 h82 h83 hx).trans (gz x h5 h6 hx))) (fun I2 z rr sr aa fr => hok I2 z rr sr aa (fun x h5 h6 h7 h82 h83 hb hx => (fr x h5 h6 h7 h82 h83 hb hx).trans (gz x h5 h6 hx)))
      · skip
        have h5 : r 5 = nI 1 := h.z6.resolve_left h101
        refine q_k 1 ?_
        show q_W L (d + 5) 70 q_m70 Q 105 [some (.ref 3), some (.ref le), some (.int X), some (.int (nI m)), some (.int (-1)), some (.int (nI 1))] [.ref 3] (n, I, J, R) 0 0
        refine q_gR (b := t) rfl rfl (⟨Nat.lt_of_lt_of_le (by decide) hK.1, rfl⟩) (ht) ?_
        refine q_k 1 ?_
        show q_W L (d + 5) 70 q_m70 Q 109 [some (.ref 3), some (.ref le), some (.int X), some (.int (nI m)), some (.int (-1)), some (.int (nI 1))] [.ref 3, .ref t] (n, I, J, R) 0 0
        refine q_gR (b := 4) rfl rfl (⟨Nat.lt_of_lt_of_le (by decide) hK.1, rfl⟩) (hK.2.1 3 0 4 rfl) ?_
        refine q_k 2 ?_
        show q_W L (d + 5) 70 q_m70 Q 115 [some (.ref 3), some (.ref le), some (.int X), some (.int (nI m)), some (.int (-1)), some (.int (nI 1))] [.int (nI 9), .ref le, .ref 4, .ref t] (n, I, J, R) 0 0
        refine q_lal (m := 9) rfl (hl) (by decide) (rfl) ?_
        refine q_k 1 ?_
        show q_W L (d + 5) 70 q_m70 Q 117 [some (.ref 3), some (.ref le), some (.int X), some (.int (nI m)), some (.int (-1)), some (.int (nI 1))] [.int ((J le 9).toInt32), .ref 4, .ref t] (n, I, J, R) 0 0
        refine q_top (w := nI p) (by rw [hJ 9 (by decide), hwf.fp]; exact lN_i _) ?_
        refine q_cv (as := [.ref 4, .int (nI p)]) (rs := []) rfl rfl rfl (hS.ob) rfl rfl ?_
        refine c_skipTo (t := t) (m := p) (c := c) (w := w) (r := r) (hK) (hS) (h) (hc) (hw) (by omega) (by omega) (by omega) (Or.inl h5) (fun h8 => ?_) (fun h8 I1 a1 u1 g1 => ?_)
        · skip
          show q_W L (d + 5) 70 q_m70 Q 120 [some (.ref 3), some (.ref le), some (.int X), some (.int (nI m)), some (.int (-1)), some (.int (nI 1))] [.int (nI 0)] (n, I, J, R) 0 0
          refine q_one rfl rfl ?_
          show (¬ (nI 0) = 0 → q_W L (d + 5) 70 q_m70 Q 125 [some (.ref 3), some (.ref le), some (.int X), some (.int (nI m)), some (.int (-1)), some (.int (nI 1))] [] (n, I, J, R) 0 0) ∧ ((nI 0) = 0 → q_W L (d + 5) 70 q_m70 Q 123 [some (.ref 3), some (.ref le), some (.int X), some (.int (nI m)), some (.int (-1)), some (.int (nI 1))] [] (n, I, J, R) 0 0)
          refine ⟨fun z => absurd (by decide) z, fun _ => ?_⟩
          refine q_k 1 ?_
          show q_W L (d + 5) 70 q_m70 Q 124 [some (.ref 3), some (.ref le), some (.int X), some (.int (nI m)), some (.int (-1)), some (.int (nI 1))] [.int (nI 2)] (n, I, J, R) 0 0
          refine q_one rfl rfl ?_
          show Q (some (.int (nI 2))) (n, I, J, R)
          have hS0 : s_trial X m p c w (g_nx M b) tg (N 208 (e + 11)) r = (nI 2, r, r, false) := by unfold s_trial; rw [hg, if_neg (Nat.lt_irrefl _)]; unfold s_mid; rw [if_neg h79, if_pos ⟨h5, by omega⟩, if_pos h8]
          rw [hft, hS0] at hno
          exact hno I (show ¬ nI 2 = nI 0 by decide) (fun _ _ _ _ _ _ _ => rfl)
        · skip
          show q_W L (d + 5) 70 q_m70 Q 120 [some (.ref 3), some (.ref le), some (.int X), some (.int (nI m)), some (.int (-1)), some (.int (nI 1))] [.int (nI 1)] (n, I1, J, R) 0 0
          refine q_one rfl rfl ?_
          show (¬ (nI 1) = 0 → q_W L (d + 5) 70 q_m70 Q 125 [some (.ref 3), some (.ref le), some (.int X), some (.int (nI m)), some (.int (-1)), some (.int (nI 1))] [] (n, I1, J, R) 0 0) ∧ ((nI 1) = 0 → q_W L (d + 5) 70 q_m70 Q 123 [some (.ref 3), some (.ref le), some (.int X), some (.int (nI m)), some (.int (-1)), some (.int (nI 1))] [] (n, I1, J, R) 0 0)
          refine ⟨fun _ => ?_, fun z => absurd z (by decide)⟩
          refine q_k 1 ?_
          show q_W L (d + 5) 70 q_m70 Q 126 [some (.ref 3), some (.ref le), some (.int X), some (.int (nI m)), some (.int (-1)), some (.int (nI 1))] [.ref 3] (n, I1, J, R) 0 0
          refine q_gR (b := t) rfl rfl (⟨Nat.lt_of_lt_of_le (by decide) hK.1, rfl⟩) (ht) ?_
          refine q_k 1 ?_
          show q_W L (d + 5) 70 q_m70 Q 130 [some (.ref 3), some (.ref le), some (.int X), some (.int (nI m)), some (.int (-1)), some (.int (nI 1))] [.ref 3, .ref t] (n, I1, J, R) 0 0
          refine q_gR (b := 4) rfl rfl (⟨Nat.lt_of_lt_of_le (by decide) hK.1, rfl⟩) (hK.2.1 3 0 4 rfl) ?_
          refine q_k 1 ?_
          show q_W L (d + 5) 70 q_m70 Q 134 [some (.ref 3), some (.ref le), some (.int X), some (.int (nI m)), some (.int (-1)), some (.int (nI 1))] [.int X, .ref 4, .ref t] (n, I1, J, R) 0 0
          refine q_cv (as := [.ref 4, .int X]) (rs := []) rfl rfl rfl (hS.ob) rfl rfl ?_
          refine c_turnReceiving (q_K0_to hK (g1 0 (by decide) (by decide) (by omega)) (g1 1 (by decide) (by decide) (by omega))) (hS) (a1) (fun I2 a2 u2 g2 => ?_)
          show q_W L (d + 5) 70 q_m70 Q 137 [some (.ref 3), some (.ref le), some (.int X), some (.int (nI m)), some (.int (-1)), some (.int (nI 1))] [] (n, I2, J, R) 0 0
          have hS0 : s_trial X m p c w (g_nx M b) tg (N 208 (e + 11)) r = s_end m (c + (p - w)) 0 tg (N 208 (e + 11)) true (s_ss (g_nx M b) (s_tr X (s_sk c (p - w) r))) := by unfold s_trial; rw [hg, if_neg (Nat.lt_irrefl _)]; exact s_mid_t h79 h5 h8
          rw [hft, hS0] at hno hok
          have gz : ∀ x, x ≠ 5 → x ≠ 6 → (x < t ∨ t + 10 ≤ x) → I2 x = I x := fun x h5 h6 hx => (g2 x h5 h6 hx).trans (g1 x h5 h6 hx)
          refine c_try_tail1 (q_K0_to hK (gz 0 (by decide) (by decide) (by omega)) (gz 1 (by decide) (by decide) (by omega))) (fun u hu => c_A_to (ha u hu) (fun x h1 h2 => gz x (by omega) (by omega) (by omega)) rfl (q_eu_rf _ _)) ht hS hl f0 f1 h4a h4b htg hT a2 (c := (c + (p - w))) (w := 0) (by rw [s_tr_n (by omega)]; exact s_sk_9 hc _) (by omega) s_tr_7 (by decide) hm (fun I2 z fr => hno I2 z (fun x h5 h6 h7 h82 h83 hx => (fr x h5 h6 h7 h82 h83 hx).trans (gz x h5 h6 hx))) (fun I2 z rr sr aa fr => hok I2 z rr sr aa (fun x h5 h6 h7 h82 h83 hb hx => (fr x h5 h6 h7 h82 h83 hb hx).trans (gz x h5 h6 hx)))
