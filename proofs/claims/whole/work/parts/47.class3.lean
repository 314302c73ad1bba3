/-! one-time pairs -/
theorem q_mn {x y : Nat} (hx : x < 10000) (hy : y < 10000) : (if nI y < nI x then nI y else nI x) = nI (min x y) := by
  by_cases h : y < x
  · rw [if_pos (nI_lt h (by omega)), show min x y = y by omega]
  · rw [if_neg (nI_nlt (by omega) (by omega)), show min x y = x by omega]
theorem f_pk_v {u f c : Nat} {M : q_I} (h1 : M 201 u = nI c) (h4 : M 204 u = nI f) : ∀ k, f_pk u f c k M 201 u = nI (c + k) ∧ f_pk u f c k M 204 u = nI (f + k) ∧ f_pk u f c k M 193 = M 193
  | 0 => ⟨h1, h4, rfl⟩
  | k + 1 => by
    obtain ⟨-, -, h3⟩ := f_pk_v h1 h4 k
    show f_pk1 u (f + k) (c + k) (f_pk u f c k M) 201 u = _ ∧ f_pk1 u (f + k) (c + k) (f_pk u f c k M) 204 u = _ ∧ f_pk1 u (f + k) (c + k) (f_pk u f c k M) 193 = _
    unfold f_pk1 f_draw
    refine ⟨?_, ?_, ?_⟩
    · rw [q_un (by decide), q_usk]; rfl
    · rw [q_usk]; rfl
    · rw [q_un (by decide), q_un (by decide), q_un (by decide), q_un (by decide), q_un (by decide), q_un (by decide)]; exact h3
set_option maxHeartbeats 1000000 in
theorem c_offerOneTime {L d n : Nat} {I : q_I} {J : q_L} {R : q_R} {Q : q_Q} {a u w f c : Nat} {M : q_I} (hK : q_K0 n I R) (hA : q_Ac n R a) (hc : c_A I R M a u) (hM1 : M 201 u = nI c) (hM4 : M 204 u = nI f) (hf6 : f ≤ 6) (hc10 : c ≤ 10) (hw : w ≤ 6) (hQ : ∀ I', c_A I' R (f_pk u f c (min w (min (6 - f) (10 - c))) M) a u → (∀ x, x ≠ 5 → x ≠ 6 → x ≠ 7 → (x < a ∨ a + 19 ≤ x) → I' x = I x) → Q (some (.int (nI (min w (min (6 - f) (10 - c)))))) (n, I', J, R)) : q_Ex L (d + 5) 20 [.ref a, .ref 4, .int (nI w)] (n, I, J, R) Q := by
  refine q_in (x := q_m20) rfl rfl ?_
  show q_W L (d + 4) 20 q_m20 Q 0 [some (.ref a), some (.ref 4), some (.int (nI w)), none, none, none, none] [] (n, I, J, R) 0 0
  obtain ⟨f0, y1, y2, y3, y4⟩ := hc.off
  obtain ⟨c0, pr0, x1, x2, x3, x4, x5, x6⟩ := hc.once
  have ec : c = c0 := (nI_eq (by omega) (by omega)).mp (hM1.symm.trans x2)
  have ef : f = f0 := (nI_eq (by omega) (by omega)).mp (hM4.symm.trans y2)
  subst ec
  subst ef
  have h84 := hA.lo
  have h160 := hA.hi
  refine q_k 2 ?_
  show q_W L (d + 4) 20 q_m20 Q 3 [some (.ref a), some (.ref 4), some (.int (nI w)), none, none, none, none] [.ref a, .int (nI 6)] (n, I, J, R) 0 0
  refine q_gR (b := (a + 5)) rfl rfl (hA.ob) (hA.r8) ?_
  refine q_gI rfl rfl (hA.o5) ?_
  refine q_top (w := nI f) (y3) ?_
  refine q_k 1 ?_
  show q_W L (d + 4) 20 q_m20 Q 10 [some (.ref a), some (.ref 4), some (.int (nI w)), none, none, none, none] [.int ((nI 6) - (nI f))] (n, I, J, R) 0 0
  refine q_top (w := nI (6 - f)) (pk_sub hf6) ?_
  refine q_k 2 ?_
  show q_W L (d + 4) 20 q_m20 Q 13 [some (.ref a), some (.ref 4), some (.int (nI w)), none, none, none, none] [.ref a, .int (nI 10), .int (nI (6 - f))] (n, I, J, R) 0 0
  refine q_gI rfl rfl (hA.ob) ?_
  refine q_top (w := nI c) (x3) ?_
  refine q_k 1 ?_
  show q_W L (d + 4) 20 q_m20 Q 17 [some (.ref a), some (.ref 4), some (.int (nI w)), none, none, none, none] [.int ((nI 10) - (nI c)), .int (nI (6 - f))] (n, I, J, R) 0 0
  refine q_top (w := nI (10 - c)) (pk_sub hc10) ?_
  refine q_mmn rfl rfl rfl ?_
  refine q_top (w := nI (min (6 - f) (10 - c))) (q_mn (by omega) (by omega)) ?_
  refine q_k 3 ?_
  show q_W L (d + 4) 20 q_m20 Q 23 [some (.ref a), some (.ref 4), some (.int (nI w)), some (.int (nI (min (6 - f) (10 - c)))), none, none, none] [.int (nI (min (6 - f) (10 - c))), .int (nI w)] (n, I, J, R) 0 0
  refine q_mmn rfl rfl rfl ?_
  refine q_top (w := nI (min w (min (6 - f) (10 - c)))) (q_mn (by omega) (by omega)) ?_
  refine q_k 3 ?_
  show q_W L (d + 4) 20 q_m20 Q 31 [some (.ref a), some (.ref 4), some (.int (nI w)), some (.int (nI (min (6 - f) (10 - c)))), some (.int (nI (min w (min (6 - f) (10 - c))))), some (.int (nI 0)), none] [] (n, I, J, R) 0 0
  refine q_loop (σ := q_I) (min w (min (6 - f) (10 - c))) (fun k I2 => c_A I2 R (f_pk u f c k M) a u ∧ ∀ x, x ≠ 5 → x ≠ 6 → x ≠ 7 → (x < a ∨ a + 19 ≤ x) → I2 x = I x) (fun k I2 => q_W L (d + 4) 20 q_m20 Q 31 [some (.ref a), some (.ref 4), some (.int (nI w)), some (.int (nI (min (6 - f) (10 - c)))), some (.int (nI (min w (min (6 - f) (10 - c))))), some (.int (nI k)), none] [] (n, I2, J, R) 0 0) ?_ ?_ 0 I (Nat.zero_le _) ?_
  · intro I2 hI2
    show q_W L (d + 4) 20 q_m20 Q 31 [some (.ref a), some (.ref 4), some (.int (nI w)), some (.int (nI (min (6 - f) (10 - c)))), some (.int (nI (min w (min (6 - f) (10 - c))))), some (.int (nI (min w (min (6 - f) (10 - c))))), none] [] (n, I2, J, R) 0 0
    refine q_k 2 ?_
    show q_W L (d + 4) 20 q_m20 Q 35 [some (.ref a), some (.ref 4), some (.int (nI w)), some (.int (nI (min (6 - f) (10 - c)))), some (.int (nI (min w (min (6 - f) (10 - c))))), some (.int (nI (min w (min (6 - f) (10 - c))))), none] [.int (nI (min w (min (6 - f) (10 - c)))), .int (nI (min w (min (6 - f) (10 - c))))] (n, I2, J, R) 0 0
    refine q_one rfl rfl ?_
    show ((nI (min w (min (6 - f) (10 - c)))) ≤ (nI (min w (min (6 - f) (10 - c)))) → q_W L (d + 4) 20 q_m20 Q 84 [some (.ref a), some (.ref 4), some (.int (nI w)), some (.int (nI (min (6 - f) (10 - c)))), some (.int (nI (min w (min (6 - f) (10 - c))))), some (.int (nI (min w (min (6 - f) (10 - c))))), none] [] (n, I2, J, R) 0 0) ∧ (¬ (nI (min w (min (6 - f) (10 - c)))) ≤ (nI (min w (min (6 - f) (10 - c)))) → q_W L (d + 4) 20 q_m20 Q 38 [some (.ref a), some (.ref 4), some (.int (nI w)), some (.int (nI (min (6 - f) (10 - c)))), some (.int (nI (min w (min (6 - f) (10 - c))))), some (.int (nI (min w (min (6 - f) (10 - c))))), none] [] (n, I2, J, R) 0 0)
    refine ⟨fun _ => ?_, fun z => absurd (nI_le (Nat.le_refl _) (by omega)) z⟩
    refine q_k 1 ?_
    show q_W L (d + 4) 20 q_m20 Q 86 [some (.ref a), some (.ref 4), some (.int (nI w)), some (.int (nI (min (6 - f) (10 - c)))), some (.int (nI (min w (min (6 - f) (10 - c))))), some (.int (nI (min w (min (6 - f) (10 - c))))), none] [.int (nI (min w (min (6 - f) (10 - c))))] (n, I2, J, R) 0 0
    refine q_one rfl rfl ?_
    show Q (some (.int (nI (min w (min (6 - f) (10 - c)))))) (n, I2, J, R)
    exact hQ I2 hI2.1 hI2.2
  · intro k I2 hk hI2 ih
    obtain ⟨c2, pr, h1, h2, h3, h4, h5, h6⟩ := hI2.1.once
    obtain ⟨f2, q1, q2, q3, q4⟩ := hI2.1.off
    obtain ⟨z1, z2, -⟩ := f_pk_v hM1 hM4 k
    have ec : c2 = c + k := (nI_eq (by omega) (by omega)).mp (h2.symm.trans z1)
    have ef : f2 = f + k := (nI_eq (by omega) (by omega)).mp (q2.symm.trans z2)
    subst ec ef
    obtain ⟨-, hp1, hp2⟩ := h4 (c + k) (by omega)
    show q_W L (d + 4) 20 q_m20 Q 31 [some (.ref a), some (.ref 4), some (.int (nI w)), some (.int (nI (min (6 - f) (10 - c)))), some (.int (nI (min w (min (6 - f) (10 - c))))), some (.int (nI k)), none] [] (n, I2, J, R) 0 0
    refine q_k 2 ?_
    show q_W L (d + 4) 20 q_m20 Q 35 [some (.ref a), some (.ref 4), some (.int (nI w)), some (.int (nI (min (6 - f) (10 - c)))), some (.int (nI (min w (min (6 - f) (10 - c))))), some (.int (nI k)), none] [.int (nI (min w (min (6 - f) (10 - c)))), .int (nI k)] (n, I2, J, R) 0 0
    refine q_one rfl rfl ?_
    show ((nI (min w (min (6 - f) (10 - c)))) ≤ (nI k) → q_W L (d + 4) 20 q_m20 Q 84 [some (.ref a), some (.ref 4), some (.int (nI w)), some (.int (nI (min (6 - f) (10 - c)))), some (.int (nI (min w (min (6 - f) (10 - c))))), some (.int (nI k)), none] [] (n, I2, J, R) 0 0) ∧ (¬ (nI (min w (min (6 - f) (10 - c)))) ≤ (nI k) → q_W L (d + 4) 20 q_m20 Q 38 [some (.ref a), some (.ref 4), some (.int (nI w)), some (.int (nI (min (6 - f) (10 - c)))), some (.int (nI (min w (min (6 - f) (10 - c))))), some (.int (nI k)), none] [] (n, I2, J, R) 0 0)
    refine ⟨fun z => absurd z (nI_ge hk (by omega)), fun _ => ?_⟩
    refine q_k 1 ?_
    show q_W L (d + 4) 20 q_m20 Q 39 [some (.ref a), some (.ref 4), some (.int (nI w)), some (.int (nI (min (6 - f) (10 - c)))), some (.int (nI (min w (min (6 - f) (10 - c))))), some (.int (nI k)), none] [.ref a] (n, I2, J, R) 0 0
    refine q_gR (b := (a + 4)) rfl rfl (hA.ob) (hA.r6) ?_
    refine q_k 1 ?_
    show q_W L (d + 4) 20 q_m20 Q 43 [some (.ref a), some (.ref 4), some (.int (nI w)), some (.int (nI (min (6 - f) (10 - c)))), some (.int (nI (min w (min (6 - f) (10 - c))))), some (.int (nI k)), none] [.ref a, .ref (a + 4)] (n, I2, J, R) 0 0
    refine q_gI rfl rfl (hA.ob) ?_
    refine q_top (w := nI (c + k)) (h3) ?_
    refine q_aal (m := c + k) (b := (pr (c + k))) rfl (hA.o4) ⟨rfl, rfl⟩ (by omega) rfl ((h4 (c + k) (by omega)).1) ?_
    refine q_k 4 ?_
    show q_W L (d + 4) 20 q_m20 Q 53 [some (.ref a), some (.ref 4), some (.int (nI w)), some (.int (nI (min (6 - f) (10 - c)))), some (.int (nI (min w (min (6 - f) (10 - c))))), some (.int (nI k)), some (.ref (pr (c + k)))] [.ref (pr (c + k)), .ref 4, .ref a] (n, I2, J, R) 0 0
    refine q_cv (as := [.ref 4, .ref (pr (c + k))]) (rs := []) rfl rfl rfl (hA.ob) rfl rfl ?_
    refine c_draw (q_K0_to hK (hI2.2 0 (by omega) (by omega) (by omega) (by omega)) (hI2.2 1 (by omega) (by omega) (by omega) (by omega))) (hA) (hA.op _ hp1 hp2) (by omega) (hI2.1.seed) (fun I3 d3 k3 g3 f3 => ?_)
    rw [hI2.1.dr] at d3 k3 g3
    show q_W L (d + 4) 20 q_m20 Q 56 [some (.ref a), some (.ref 4), some (.int (nI w)), some (.int (nI (min (6 - f) (10 - c)))), some (.int (nI (min w (min (6 - f) (10 - c))))), some (.int (nI k)), some (.ref (pr (c + k)))] [] (n, I3, J, R) 0 0
    refine q_k 2 ?_
    show q_W L (d + 4) 20 q_m20 Q 58 [some (.ref a), some (.ref 4), some (.int (nI w)), some (.int (nI (min (6 - f) (10 - c)))), some (.int (nI (min w (min (6 - f) (10 - c))))), some (.int (nI k)), some (.ref (pr (c + k)))] [.ref a, .ref a] (n, I3, J, R) 0 0
    refine q_gI rfl rfl (hA.ob) ?_
    refine q_top (w := nI (c + k)) (by rw [d3, va_up_ne _ _ (by decide)]; exact h3) ?_
    refine q_k 2 ?_
    show q_W L (d + 4) 20 q_m20 Q 63 [some (.ref a), some (.ref 4), some (.int (nI w)), some (.int (nI (min (6 - f) (10 - c)))), some (.int (nI (min w (min (6 - f) (10 - c))))), some (.int (nI k)), some (.ref (pr (c + k)))] [.int ((nI (c + k)) + (nI 1)), .ref a] (n, I3, J, R) 0 0
    refine q_top (w := nI (c + k + 1)) (nI_add _ _) ?_
    refine q_pI rfl rfl rfl (hA.ob) ?_
    obtain ⟨I4, eI4⟩ : ∃ zz9, zz9 = q_up I3 a 7 (nI (c + k + 1)) := ⟨_, rfl⟩
    rw [← eI4]
    refine q_k 1 ?_
    show q_W L (d + 4) 20 q_m20 Q 67 [some (.ref a), some (.ref 4), some (.int (nI w)), some (.int (nI (min (6 - f) (10 - c)))), some (.int (nI (min w (min (6 - f) (10 - c))))), some (.int (nI k)), some (.ref (pr (c + k)))] [.ref a] (n, I4, J, R) 0 0
    refine q_gR (b := (a + 5)) rfl rfl (hA.ob) (hA.r8) ?_
    refine q_k 1 ?_
    show q_W L (d + 4) 20 q_m20 Q 72 [some (.ref a), some (.ref 4), some (.int (nI w)), some (.int (nI (min (6 - f) (10 - c)))), some (.int (nI (min w (min (6 - f) (10 - c))))), some (.int (nI k)), some (.ref (pr (c + k)))] [.ref (pr (c + k)), .ref (a + 5)] (n, I4, J, R) 0 0
    refine q_gI rfl rfl (hA.op _ hp1 hp2) ?_
    refine q_top (w := g_pub (g_priv (f_pk u f c k M 194 u) (f_pk u f c k M 195 u) u (f_pk u f c k M 196 u + nI 1))) (by rw [eI4, q_un (by omega)]; exact g3) ?_
    refine q_cv (as := [.int (g_pub (g_priv (f_pk u f c k M 194 u) (f_pk u f c k M 195 u) u (f_pk u f c k M 196 u + nI 1)))]) (rs := []) rfl rfl rfl (hA.o5) rfl rfl ?_
    refine c_offer (e := a + 5) (f := f + k) hA.o5 hA.re hA.o6 (by rw [eI4, q_un (by omega), f3 (a + 5) (by omega) (by omega) (by omega) (by omega) (by omega)]; exact q3) (by omega) ?_
    obtain ⟨I5, eI5⟩ : ∃ zz9, zz9 = q_up (q_up I4 (a + 6) (f + k) (g_pub (g_priv (f_pk u f c k M 194 u) (f_pk u f c k M 195 u) u (f_pk u f c k M 196 u + nI 1)))) (a + 5) 5 (nI (f + k + 1)) := ⟨_, rfl⟩
    show q_W L (d + 4) 20 q_m20 Q 78 _ _ (n, q_up (q_up I4 (a + 6) (f + k) (g_pub (g_priv (f_pk u f c k M 194 u) (f_pk u f c k M 195 u) u (f_pk u f c k M 196 u + nI 1)))) (a + 5) 5 (nI (f + k + 1)), J, R) 0 0
    rw [← eI5]
    show q_W L (d + 4) 20 q_m20 Q 78 [some (.ref a), some (.ref 4), some (.int (nI w)), some (.int (nI (min (6 - f) (10 - c)))), some (.int (nI (min w (min (6 - f) (10 - c))))), some (.int (nI k)), some (.ref (pr (c + k)))] [] (n, I5, J, R) 0 0
    refine q_k 1 ?_
    show q_W L (d + 4) 20 q_m20 Q 81 [some (.ref a), some (.ref 4), some (.int (nI w)), some (.int (nI (min (6 - f) (10 - c)))), some (.int (nI (min w (min (6 - f) (10 - c))))), some (.int ((nI k) + nI 1)), some (.ref (pr (c + k)))] [] (n, I5, J, R) 0 0
    rw [show (nI k) + nI 1 = nI (k + 1) from nI_add _ _]
    refine q_k 1 ?_
    show q_W L (d + 4) 20 q_m20 Q 31 [some (.ref a), some (.ref 4), some (.int (nI w)), some (.int (nI (min (6 - f) (10 - c)))), some (.int (nI (min w (min (6 - f) (10 - c))))), some (.int (nI (k + 1))), some (.ref (pr (c + k)))] [] (n, I5, J, R) 0 0
    refine q_fg 6 ?_
    refine ih _ ⟨?_, fun x h5' h6' h7' hx => ?_⟩
    · show c_A I5 R (f_pk1 u (f + k) (c + k) (f_pk u f c k M)) a u
      obtain ⟨B, eB⟩ : ∃ B, B = f_pk u f c k M := ⟨_, rfl⟩
      rw [← eB] at k3 g3 d3 eI5 ⊢
      have hcb : c_A I2 R B a u := by rw [eB]; exact hI2.1
      have h6b := h6
      have q4b := q4
      rw [← eB] at h6b q4b
      have hnx : g_nx B u = g_priv (B 194 u) (B 195 u) u (B 196 u + nI 1) := rfl
      have hfr : ∀ x, x ≠ 5 → x ≠ 6 → x ≠ 7 → x ≠ a → x ≠ a + 5 → x ≠ a + 6 → x ≠ pr (c + k) → I5 x = I2 x := fun x h5 h6 h7 h0 h55 h66 hp => by rw [eI5, q_un h55, q_un h66, eI4, q_un h0, f3 x h5 h6 h7 h0 hp]
      have ha5 : I5 a = va_up (va_up (I2 a) 1 (B 196 u + nI 1)) 7 (nI (c + k + 1)) := by rw [eI5, q_un (by omega), q_un (by omega), eI4, q_us, d3]
      have he5 : ∀ j, j ≠ 5 → I5 (a + 5) j = I2 (a + 5) j := fun j hj => by rw [eI5, q_usn hj, q_un (by omega), eI4, q_un (by omega), f3 (a + 5) (by omega) (by omega) (by omega) (by omega) (by omega)]
      refine ⟨?_, ?_, ?_, ?_, ?_, ?_, ?_, ?_, ?_, ?_, ?_, ?_, ?_, ?_, ?_, ?_⟩
      · rw [ha5, va_up_ne _ _ (by decide), va_up_ne _ _ (by decide)]; simp (disch := omega) only [f_pk1, f_draw, g_nx, q_un, q_usk, q_usn]; exact hcb.reg
      · simp (disch := omega) only [f_pk1, f_draw, g_nx, q_un, q_usk, q_usn]; exact hcb.rbz
      · rw [ha5, va_up_ne _ _ (by decide), va_up_self]; simp (disch := omega) only [f_pk1, f_draw, g_nx, q_un, q_usk, q_usn]
      · rw [hfr (a + 1) (by omega) (by omega) (by omega) (by omega) (by omega) (by omega) (by omega)]; simp (disch := omega) only [f_pk1, f_draw, g_nx, q_un, q_usk, q_usn]; exact hcb.i0
      · rw [hfr (a + 1) (by omega) (by omega) (by omega) (by omega) (by omega) (by omega) (by omega)]; simp (disch := omega) only [f_pk1, f_draw, g_nx, q_un, q_usk, q_usn]; exact hcb.i1
      · rw [hfr (a + 2) (by omega) (by omega) (by omega) (by omega) (by omega) (by omega) (by omega)]; simp (disch := omega) only [f_pk1, f_draw, g_nx, q_un, q_usk, q_usn]; exact hcb.s0
      · rw [hfr (a + 2) (by omega) (by omega) (by omega) (by omega) (by omega) (by omega) (by omega)]; simp (disch := omega) only [f_pk1, f_draw, g_nx, q_un, q_usk, q_usn]; exact hcb.s1
      · rw [ha5, va_up_ne _ _ (by decide), va_up_ne _ _ (by decide), hfr (a + 3) (by omega) (by omega) (by omega) (by omega) (by omega) (by omega) (by omega)]; simp (disch := omega) only [f_pk1, f_draw, g_nx, q_un, q_usk, q_usn]; exact hcb.old
      · simp (disch := omega) only [f_pk1, f_draw, g_nx, q_un, q_usk, q_usn]; exact hcb.sn
      · refine ⟨c + k + 1, pr, by omega, ?_, ?_, h4, h5, fun i hi => ?_⟩
        · simp (disch := omega) only [f_pk1, f_draw, g_nx, q_un, q_usk, q_usn]
        · rw [ha5, va_up_self]
        · obtain ⟨-, p1, p2⟩ := h4 i (by omega)
          by_cases ei : i = c + k
          · subst ei
            have r0 : I5 (pr (c + k)) 0 = g_nx B u := by rw [eI5, q_un (by omega), q_un (by omega), eI4, q_un (by omega), k3, hnx]
            have r1 : I5 (pr (c + k)) 1 = g_pub (g_nx B u) := by rw [eI5, q_un (by omega), q_un (by omega), eI4, q_un (by omega), g3, hnx]
            have m0 : f_pk1 u (f + k) (c + k) B 200 (2 * (10 * u + (c + k))) = g_nx B u := by unfold f_pk1 f_draw; simp (disch := omega) only [q_un, q_usk, q_usn]
            have m1 : f_pk1 u (f + k) (c + k) B 200 (2 * (10 * u + (c + k)) + 1) = g_pub (g_nx B u) := by unfold f_pk1 f_draw; simp (disch := omega) only [q_un, q_usk, q_usn]
            rw [r0, r1, m0, m1]
            exact ⟨rfl, rfl, g_pub_ne _⟩
          · have hne : pr i ≠ pr (c + k) := fun z => ei (h5 i (c + k) (by omega) (by omega) z)
            rw [hfr (pr i) (by omega) (by omega) (by omega) (by omega) (by omega) (by omega) hne]
            simp (disch := omega) only [f_pk1, f_draw, g_nx, q_un, q_usk, q_usn]
            exact h6b i (by omega)
      · rw [he5 0 (by decide)]; simp (disch := omega) only [f_pk1, f_draw, g_nx, q_un, q_usk, q_usn]; exact hcb.e0
      · rw [he5 1 (by decide)]; simp (disch := omega) only [f_pk1, f_draw, g_nx, q_un, q_usk, q_usn]; exact hcb.e1
      · rw [he5 2 (by decide)]; simp (disch := omega) only [f_pk1, f_draw, g_nx, q_un, q_usk, q_usn]; exact hcb.e2
      · rw [he5 3 (by decide)]; simp (disch := omega) only [f_pk1, f_draw, g_nx, q_un, q_usk, q_usn]; exact hcb.e3
      · refine ⟨f + k + 1, by omega, ?_, ?_, fun i hi => ?_⟩
        · simp (disch := omega) only [f_pk1, f_draw, g_nx, q_un, q_usk, q_usn]
        · rw [eI5, q_usk]
        · rw [eI5, q_un (by omega)]
          by_cases ei : i = f + k
          · subst ei
            have m2 : f_pk1 u (f + k) (c + k) B 203 (6 * u + (f + k)) = g_pub (g_nx B u) := by unfold f_pk1 f_draw; simp (disch := omega) only [q_un, q_usk, q_usn]
            rw [q_usk, m2, hnx]
          · rw [q_usn ei, eI4, q_un (by omega), f3 (a + 6) (by omega) (by omega) (by omega) (by omega) (by omega)]; simp (disch := omega) only [f_pk1, f_draw, g_nx, q_un, q_usk, q_usn]; exact q4b i (by omega)
      · intro i hi
        rw [hfr (a + 8) (by omega) (by omega) (by omega) (by omega) (by omega) (by omega) (by omega)]; simp (disch := omega) only [f_pk1, f_draw, g_nx, q_un, q_usk, q_usn]; exact hcb.seed i hi
    · rw [eI5, q_un (by omega), q_un (by omega), eI4, q_un (by omega), f3 x h5' h6' h7' (by omega) (by omega)]; exact hI2.2 x h5' h6' h7' hx
  · exact ⟨hc, fun _ _ _ _ _ => rfl⟩
theorem c_placeOfOneTime {L d n : Nat} {I : q_I} {J : q_L} {R : q_R} {Q : q_Q} {a u c : Nat} {z : Int64} {M : q_I} (hA : q_Ac n R a) (hc : c_A I R M a u) (hM1 : M 201 u = nI c) (hc10 : c ≤ 10) (hQ1 : ∀ k, k < c → g_first (fun k => decide ((M 200 (2 * (10 * u + k) + 1)).toInt64 = z)) c = k → Q (some (.int (nI k))) (n, I, J, R)) (hQ2 : g_first (fun k => decide ((M 200 (2 * (10 * u + k) + 1)).toInt64 = z)) c = c → Q (some (.int (-1))) (n, I, J, R)) : q_Ex L (d + 1) 21 [.ref a, .long z] (n, I, J, R) Q := by
  refine q_in (x := q_m21) rfl rfl ?_
  show q_W L d 21 q_m21 Q 0 [some (.ref a), some (.long z), none, none] [] (n, I, J, R) 0 0
  obtain ⟨c0, pr, h1, h2, h3, h4, h5, h6⟩ := hc.once
  have ec : c = c0 := (nI_eq (by omega) (by omega)).mp (hM1.symm.trans h2)
  subst ec
  refine q_k 2 ?_
  show q_W L d 21 q_m21 Q 2 [some (.ref a), some (.long z), none, some (.int (nI 0))] [] (n, I, J, R) 0 0
  refine q_loop (σ := Unit) c (fun k _ => ∀ j, j < k → (fun k => decide ((M 200 (2 * (10 * u + k) + 1)).toInt64 = z)) j = false) (fun k _ => q_W L d 21 q_m21 Q 2 [some (.ref a), some (.long z), none, some (.int (nI k))] [] (n, I, J, R) 0 0) ?_ ?_ 0 () (Nat.zero_le _) ?_
  · intro _ hN
    show q_W L d 21 q_m21 Q 2 [some (.ref a), some (.long z), none, some (.int (nI c))] [] (n, I, J, R) 0 0
    refine q_k 2 ?_
    show q_W L d 21 q_m21 Q 4 [some (.ref a), some (.long z), none, some (.int (nI c))] [.ref a, .int (nI c)] (n, I, J, R) 0 0
    refine q_gI rfl rfl (hA.ob) ?_
    refine q_top (w := nI c) (h3) ?_
    refine q_one rfl rfl ?_
    show ((nI c) ≤ (nI c) → q_W L d 21 q_m21 Q 33 [some (.ref a), some (.long z), none, some (.int (nI c))] [] (n, I, J, R) 0 0) ∧ (¬ (nI c) ≤ (nI c) → q_W L d 21 q_m21 Q 10 [some (.ref a), some (.long z), none, some (.int (nI c))] [] (n, I, J, R) 0 0)
    refine ⟨fun _ => ?_, fun z => absurd (nI_le (Nat.le_refl _) (by omega)) z⟩
    refine q_k 1 ?_
    show q_W L d 21 q_m21 Q 34 [some (.ref a), some (.long z), none, some (.int (nI c))] [.int (-1)] (n, I, J, R) 0 0
    refine q_one rfl rfl ?_
    show Q (some (.int (-1))) (n, I, J, R)
    exact hQ2 (g_first_u (Nat.le_refl _) hN (fun z => absurd z (Nat.lt_irrefl _)))
  · intro k _ hk hP ih
    show q_W L d 21 q_m21 Q 2 [some (.ref a), some (.long z), none, some (.int (nI k))] [] (n, I, J, R) 0 0
    refine q_k 2 ?_
    show q_W L d 21 q_m21 Q 4 [some (.ref a), some (.long z), none, some (.int (nI k))] [.ref a, .int (nI k)] (n, I, J, R) 0 0
    refine q_gI rfl rfl (hA.ob) ?_
    refine q_top (w := nI c) (h3) ?_
    refine q_one rfl rfl ?_
    show ((nI c) ≤ (nI k) → q_W L d 21 q_m21 Q 33 [some (.ref a), some (.long z), none, some (.int (nI k))] [] (n, I, J, R) 0 0) ∧ (¬ (nI c) ≤ (nI k) → q_W L d 21 q_m21 Q 10 [some (.ref a), some (.long z), none, some (.int (nI k))] [] (n, I, J, R) 0 0)
    refine ⟨fun z => absurd z (nI_ge hk (by omega)), fun _ => ?_⟩
    refine q_k 1 ?_
    show q_W L d 21 q_m21 Q 11 [some (.ref a), some (.long z), none, some (.int (nI k))] [.ref a] (n, I, J, R) 0 0
    refine q_gR (b := (a + 4)) rfl rfl (hA.ob) (hA.r6) ?_
    refine q_k 1 ?_
    show q_W L d 21 q_m21 Q 15 [some (.ref a), some (.long z), none, some (.int (nI k))] [.int (nI k), .ref (a + 4)] (n, I, J, R) 0 0
    refine q_aal (m := k) (b := (pr k)) rfl (hA.o4) ⟨rfl, rfl⟩ (by omega) rfl ((h4 k (by omega)).1) ?_
    refine q_gI rfl rfl (hA.op _ (h4 k (by omega)).2.1 (h4 k (by omega)).2.2) ?_
    refine q_top (w := M 200 (2 * (10 * u + k) + 1)) ((h6 k hk).2.1) ?_
    refine q_k 3 ?_
    show q_W L d 21 q_m21 Q 22 [some (.ref a), some (.long z), none, some (.int (nI k))] [.int (lg_cmp ((M 200 (2 * (10 * u + k) + 1)).toInt64) z)] (n, I, J, R) 0 0
    refine q_one rfl rfl ?_
    show (¬ (lg_cmp ((M 200 (2 * (10 * u + k) + 1)).toInt64) z) = 0 → q_W L d 21 q_m21 Q 27 [some (.ref a), some (.long z), none, some (.int (nI k))] [] (n, I, J, R) 0 0) ∧ ((lg_cmp ((M 200 (2 * (10 * u + k) + 1)).toInt64) z) = 0 → q_W L d 21 q_m21 Q 25 [some (.ref a), some (.long z), none, some (.int (nI k))] [] (n, I, J, R) 0 0)
    refine ⟨fun h22 => ?_, fun h22 => ?_⟩
    · skip
      rw [lg_cmp_eq] at h22
      refine q_k 1 ?_
      show q_W L d 21 q_m21 Q 30 [some (.ref a), some (.long z), none, some (.int ((nI k) + nI 1))] [] (n, I, J, R) 0 0
      rw [show (nI k) + nI 1 = nI (k + 1) from nI_add _ _]
      refine q_k 1 ?_
      show q_W L d 21 q_m21 Q 2 [some (.ref a), some (.long z), none, some (.int (nI (k + 1)))] [] (n, I, J, R) 0 0
      refine ih () (fun j hj => ?_)
      by_cases e : j = k
      · subst e; exact decide_eq_false h22
      · exact hP j (by omega)
    · skip
      rw [lg_cmp_eq] at h22
      refine q_k 1 ?_
      show q_W L d 21 q_m21 Q 26 [some (.ref a), some (.long z), none, some (.int (nI k))] [.int (nI k)] (n, I, J, R) 0 0
      refine q_one rfl rfl ?_
      show Q (some (.int (nI k))) (n, I, J, R)
      exact hQ1 k hk (g_first_u (by omega) hP (fun _ => decide_eq_true h22))
  · exact fun j hj => absurd hj (Nat.not_lt_zero _)
theorem c_hasSigned {L d n : Nat} {I : q_I} {J : q_L} {R : q_R} {Q : q_Q} {a u : Nat} {z : Int64} {M : q_I} (hA : q_Ac n R a) (hc : c_A I R M a u) (hQ1 : z = (M 198 (2 * u + 1)).toInt64 → Q (some (.int (nI 1))) (n, I, J, R)) (hQ2 : ¬ z = (M 198 (2 * u + 1)).toInt64 → ¬ M 199 (2 * u + 1) = 0 ∧ z = (M 199 (2 * u + 1)).toInt64 → Q (some (.int (nI 1))) (n, I, J, R)) (hQ3 : ¬ z = (M 198 (2 * u + 1)).toInt64 → ¬ (¬ M 199 (2 * u + 1) = 0 ∧ z = (M 199 (2 * u + 1)).toInt64) → Q (some (.int (nI 0))) (n, I, J, R)) : q_Ex L (d + 1) 23 [.ref a, .long z] (n, I, J, R) Q := by
  refine q_in (x := q_m23) rfl rfl ?_
  show q_W L d 23 q_m23 Q 0 [some (.ref a), some (.long z), none] [] (n, I, J, R) 0 0
  refine q_k 2 ?_
  show q_W L d 23 q_m23 Q 2 [some (.ref a), some (.long z), none] [.ref a, .long z] (n, I, J, R) 0 0
  refine q_gR (b := (a + 2)) rfl rfl (hA.ob) (hA.r3) ?_
  refine q_gI rfl rfl (hA.o2) ?_
  refine q_top (w := M 198 (2 * u + 1)) (hc.s1) ?_
  refine q_k 2 ?_
  show q_W L d 23 q_m23 Q 10 [some (.ref a), some (.long z), none] [.int (lg_cmp z ((M 198 (2 * u + 1)).toInt64))] (n, I, J, R) 0 0
  refine q_one rfl rfl ?_
  show ((lg_cmp z ((M 198 (2 * u + 1)).toInt64)) = 0 → q_W L d 23 q_m23 Q 33 [some (.ref a), some (.long z), none] [] (n, I, J, R) 0 0) ∧ (¬ (lg_cmp z ((M 198 (2 * u + 1)).toInt64)) = 0 → q_W L d 23 q_m23 Q 13 [some (.ref a), some (.long z), none] [] (n, I, J, R) 0 0)
  refine ⟨fun h10 => ?_, fun h10 => ?_⟩
  · skip
    rw [lg_cmp_eq] at h10
    refine q_k 2 ?_
    show q_W L d 23 q_m23 Q 38 [some (.ref a), some (.long z), none] [.int (nI 1)] (n, I, J, R) 0 0
    refine q_one rfl rfl ?_
    show q_bz (nI 1) ∧ Q (some (.int (nI 1))) (n, I, J, R)
    refine ⟨Or.inr rfl, ?_⟩
    exact hQ1 h10
  · skip
    rw [lg_cmp_eq] at h10
    refine q_k 1 ?_
    show q_W L d 23 q_m23 Q 14 [some (.ref a), some (.long z), none] [.ref a] (n, I, J, R) 0 0
    refine q_gZ rfl rfl (hA.ob) ?_
    refine q_one rfl rfl ?_
    show ((I a 5) = 0 → q_W L d 23 q_m23 Q 37 [some (.ref a), some (.long z), none] [] (n, I, J, R) 0 0) ∧ (¬ (I a 5) = 0 → q_W L d 23 q_m23 Q 20 [some (.ref a), some (.long z), none] [] (n, I, J, R) 0 0)
    refine ⟨fun h17 => ?_, fun h17 => ?_⟩
    · skip
      refine q_k 1 ?_
      show q_W L d 23 q_m23 Q 38 [some (.ref a), some (.long z), none] [.int (nI 0)] (n, I, J, R) 0 0
      refine q_one rfl rfl ?_
      show q_bz (nI 0) ∧ Q (some (.int (nI 0))) (n, I, J, R)
      refine ⟨Or.inl rfl, ?_⟩
      refine hQ3 h10 (fun q => ?_)
      rcases hc.old with ⟨q1, q2⟩ | ⟨q1, q2, q3, q4⟩
      · exact q.1 q2
      · exact absurd (q1.symm.trans h17) (by decide)
    · skip
      rcases hc.old with ⟨q1, q2⟩ | ⟨q1, q2, q3, q4⟩
      · exact absurd (show I a 5 = 0 from q1) h17
      refine q_k 2 ?_
      show q_W L d 23 q_m23 Q 22 [some (.ref a), some (.long z), none] [.ref a, .long z] (n, I, J, R) 0 0
      refine q_gR (b := (a + 3)) rfl rfl (hA.ob) (hA.r4) ?_
      refine q_gI rfl rfl (hA.o3) ?_
      refine q_top (w := M 199 (2 * u + 1)) (q4) ?_
      refine q_k 2 ?_
      show q_W L d 23 q_m23 Q 30 [some (.ref a), some (.long z), none] [.int (lg_cmp z ((M 199 (2 * u + 1)).toInt64))] (n, I, J, R) 0 0
      refine q_one rfl rfl ?_
      show (¬ (lg_cmp z ((M 199 (2 * u + 1)).toInt64)) = 0 → q_W L d 23 q_m23 Q 37 [some (.ref a), some (.long z), none] [] (n, I, J, R) 0 0) ∧ ((lg_cmp z ((M 199 (2 * u + 1)).toInt64)) = 0 → q_W L d 23 q_m23 Q 33 [some (.ref a), some (.long z), none] [] (n, I, J, R) 0 0)
      refine ⟨fun h30 => ?_, fun h30 => ?_⟩
      · skip
        rw [lg_cmp_eq] at h30
        refine q_k 1 ?_
        show q_W L d 23 q_m23 Q 38 [some (.ref a), some (.long z), none] [.int (nI 0)] (n, I, J, R) 0 0
        refine q_one rfl rfl ?_
        show q_bz (nI 0) ∧ Q (some (.int (nI 0))) (n, I, J, R)
        refine ⟨Or.inl rfl, ?_⟩
        exact hQ3 h10 (fun q => h30 q.2)
      · skip
        rw [lg_cmp_eq] at h30
        refine q_k 2 ?_
        show q_W L d 23 q_m23 Q 38 [some (.ref a), some (.long z), none] [.int (nI 1)] (n, I, J, R) 0 0
        refine q_one rfl rfl ?_
        show q_bz (nI 1) ∧ Q (some (.int (nI 1))) (n, I, J, R)
        refine ⟨Or.inr rfl, ?_⟩
        exact hQ2 h10 ⟨q2, h30⟩
theorem c_signedOf {L d n : Nat} {I : q_I} {J : q_L} {R : q_R} {Q : q_Q} {a u : Nat} {z : Int64} {M : q_I} (hA : q_Ac n R a) (hc : c_A I R M a u) (hQ1 : z = (M 198 (2 * u + 1)).toInt64 → Q (some (.ref (a + 2))) (n, I, J, R)) (hQ2 : ¬ z = (M 198 (2 * u + 1)).toInt64 → Q (some (.ref (a + 3))) (n, I, J, R)) : q_Ex L (d + 1) 24 [.ref a, .long z] (n, I, J, R) Q := by
  refine q_in (x := q_m24) rfl rfl ?_
  show q_W L d 24 q_m24 Q 0 [some (.ref a), some (.long z), none] [] (n, I, J, R) 0 0
  refine q_k 2 ?_
  show q_W L d 24 q_m24 Q 2 [some (.ref a), some (.long z), none] [.ref a, .long z] (n, I, J, R) 0 0
  refine q_gR (b := (a + 2)) rfl rfl (hA.ob) (hA.r3) ?_
  refine q_gI rfl rfl (hA.o2) ?_
  refine q_top (w := M 198 (2 * u + 1)) (hc.s1) ?_
  refine q_k 2 ?_
  show q_W L d 24 q_m24 Q 10 [some (.ref a), some (.long z), none] [.int (lg_cmp z ((M 198 (2 * u + 1)).toInt64))] (n, I, J, R) 0 0
  refine q_one rfl rfl ?_
  show (¬ (lg_cmp z ((M 198 (2 * u + 1)).toInt64)) = 0 → q_W L d 24 q_m24 Q 20 [some (.ref a), some (.long z), none] [] (n, I, J, R) 0 0) ∧ ((lg_cmp z ((M 198 (2 * u + 1)).toInt64)) = 0 → q_W L d 24 q_m24 Q 13 [some (.ref a), some (.long z), none] [] (n, I, J, R) 0 0)
  refine ⟨fun h10 => ?_, fun h10 => ?_⟩
  · skip
    rw [lg_cmp_eq] at h10
    refine q_k 1 ?_
    show q_W L d 24 q_m24 Q 21 [some (.ref a), some (.long z), none] [.ref a] (n, I, J, R) 0 0
    refine q_gR (b := (a + 3)) rfl rfl (hA.ob) (hA.r4) ?_
    refine q_one rfl rfl ?_
    show Q (some (.ref (a + 3))) (n, I, J, R)
    exact hQ2 h10
  · skip
    rw [lg_cmp_eq] at h10
    refine q_k 1 ?_
    show q_W L d 24 q_m24 Q 14 [some (.ref a), some (.long z), none] [.ref a] (n, I, J, R) 0 0
    refine q_gR (b := (a + 2)) rfl rfl (hA.ob) (hA.r3) ?_
    refine q_k 1 ?_
    show q_W L d 24 q_m24 Q 24 [some (.ref a), some (.long z), none] [.ref (a + 2)] (n, I, J, R) 0 0
    refine q_one rfl rfl ?_
    show Q (some (.ref (a + 2))) (n, I, J, R)
    exact hQ1 h10
theorem c_removeOneTime {L d n : Nat} {I : q_I} {J : q_L} {R : q_R} {Q : q_Q} {a u c k0 : Nat} {M : q_I} (hA : q_Ac n R a) (hc : c_A I R M a u) (hM1 : M 201 u = nI c) (hc10 : c ≤ 10) (hk0 : k0 < c) (hQ : ∀ I' R', c_A I' R' (f_rem u k0 c M) a u → (∀ x, x ≠ a → I' x = I x) → (∀ x, x ≠ a + 4 → R' x = R x) → Q none (n, I', J, R')) : q_Ex L (d + 1) 22 [.ref a, .int (nI k0)] (n, I, J, R) Q := by
  refine q_in (x := q_m22) rfl rfl ?_
  show q_W L d 22 q_m22 Q 0 [some (.ref a), some (.int (nI k0)), none, none] [] (n, I, J, R) 0 0
  obtain ⟨c0, pr, h1, h2, h3, h4, h5, h6⟩ := hc.once
  have ec : c = c0 := (nI_eq (by omega) (by omega)).mp (hM1.symm.trans h2)
  subst ec
  have h84 := hA.lo
  have h160 := hA.hi
  refine q_k 1 ?_
  show q_W L d 22 q_m22 Q 1 [some (.ref a), some (.int (nI k0)), none, none] [.ref a] (n, I, J, R) 0 0
  refine q_gR (b := (a + 4)) rfl rfl (hA.ob) (hA.r6) ?_
  refine q_k 1 ?_
  show q_W L d 22 q_m22 Q 5 [some (.ref a), some (.int (nI k0)), none, none] [.int (nI k0), .ref (a + 4)] (n, I, J, R) 0 0
  refine q_aal (m := k0) (b := (pr k0)) rfl (hA.o4) ⟨rfl, rfl⟩ (by omega) rfl ((h4 k0 (by omega)).1) ?_
  refine q_k 3 ?_
  show q_W L d 22 q_m22 Q 9 [some (.ref a), some (.int (nI k0)), some (.ref (pr k0)), none] [.ref a, .ref a] (n, I, J, R) 0 0
  refine q_gI rfl rfl (hA.ob) ?_
  refine q_top (w := nI c) (h3) ?_
  refine q_k 2 ?_
  show q_W L d 22 q_m22 Q 14 [some (.ref a), some (.int (nI k0)), some (.ref (pr k0)), none] [.int ((nI c) - (nI 1)), .ref a] (n, I, J, R) 0 0
  refine q_top (w := nI (c - 1)) (pk_sub (by omega)) ?_
  refine q_pI rfl rfl rfl (hA.ob) ?_
  obtain ⟨I1, eI1⟩ : ∃ zz9, zz9 = q_up I a 7 (nI (c - 1)) := ⟨_, rfl⟩
  rw [← eI1]
  refine q_k 2 ?_
  show q_W L d 22 q_m22 Q 19 [some (.ref a), some (.int (nI k0)), some (.ref (pr k0)), some (.int (nI k0))] [] (n, I1, J, R) 0 0
  refine q_loop (σ := q_R) (c - 1) (fun k R2 => (∀ j, j < 10 → R2 (a + 4) j = if k0 ≤ j ∧ j < k then R (a + 4) (j + 1) else R (a + 4) j) ∧ k0 ≤ k ∧ ∀ x, x ≠ a + 4 → R2 x = R x) (fun k R2 => q_W L d 22 q_m22 Q 19 [some (.ref a), some (.int (nI k0)), some (.ref (pr k0)), some (.int (nI k))] [] (n, I1, J, R2) 0 0) ?_ ?_ k0 R (by omega) ?_
  · intro R2 hR2
    show q_W L d 22 q_m22 Q 19 [some (.ref a), some (.int (nI k0)), some (.ref (pr k0)), some (.int (nI (c - 1)))] [] (n, I1, J, R2) 0 0
    refine q_k 2 ?_
    show q_W L d 22 q_m22 Q 21 [some (.ref a), some (.int (nI k0)), some (.ref (pr k0)), some (.int (nI (c - 1)))] [.ref a, .int (nI (c - 1))] (n, I1, J, R2) 0 0
    refine q_gI rfl rfl (hA.ob) ?_
    refine q_top (w := nI (c - 1)) (by rw [eI1, q_usk]) ?_
    refine q_one rfl rfl ?_
    show ((nI (c - 1)) ≤ (nI (c - 1)) → q_W L d 22 q_m22 Q 47 [some (.ref a), some (.int (nI k0)), some (.ref (pr k0)), some (.int (nI (c - 1)))] [] (n, I1, J, R2) 0 0) ∧ (¬ (nI (c - 1)) ≤ (nI (c - 1)) → q_W L d 22 q_m22 Q 27 [some (.ref a), some (.int (nI k0)), some (.ref (pr k0)), some (.int (nI (c - 1)))] [] (n, I1, J, R2) 0 0)
    refine ⟨fun _ => ?_, fun z => absurd (nI_le (Nat.le_refl _) (by omega)) z⟩
    refine q_k 1 ?_
    show q_W L d 22 q_m22 Q 48 [some (.ref a), some (.int (nI k0)), some (.ref (pr k0)), some (.int (nI (c - 1)))] [.ref a] (n, I1, J, R2) 0 0
    refine q_gR (b := (a + 4)) rfl rfl (hA.ob) (by rw [hR2.2.2 a (by omega)]; exact hA.r6) ?_
    refine q_k 1 ?_
    show q_W L d 22 q_m22 Q 52 [some (.ref a), some (.int (nI k0)), some (.ref (pr k0)), some (.int (nI (c - 1)))] [.ref a, .ref (a + 4)] (n, I1, J, R2) 0 0
    refine q_gI rfl rfl (hA.ob) ?_
    refine q_top (w := nI (c - 1)) (by rw [eI1, q_usk]) ?_
    refine q_k 1 ?_
    show q_W L d 22 q_m22 Q 56 [some (.ref a), some (.int (nI k0)), some (.ref (pr k0)), some (.int (nI (c - 1)))] [.ref (pr k0), .int (nI (c - 1)), .ref (a + 4)] (n, I1, J, R2) 0 0
    refine q_aas (m := c - 1) rfl (hA.o4) ⟨rfl, rfl⟩ (hA.op _ (h4 k0 (by omega)).2.1 (h4 k0 (by omega)).2.2) (by omega) rfl ?_
    obtain ⟨R3, eR3⟩ : ∃ zz9, zz9 = q_up R2 (a + 4) (c - 1) (some (pr k0)) := ⟨_, rfl⟩
    rw [← eR3]
    refine q_one rfl rfl ?_
    show Q (none) (n, I1, J, R3)
    refine hQ I1 R3 ?_ (fun x hx => by rw [eI1, q_un hx]) (fun x hx => by rw [eR3, q_un hx]; exact hR2.2.2 x hx)
    have hpr : ∃ pr2 : Nat → Nat, pr2 = fun j => if j = c - 1 then pr k0 else if k0 ≤ j ∧ j < c - 1 then pr (j + 1) else pr j := ⟨_, rfl⟩
    obtain ⟨pr2, ep⟩ := hpr
    have pa : pr2 (c - 1) = pr k0 := by rw [ep]; exact if_pos rfl
    have pb : ∀ j, k0 ≤ j → j < c - 1 → pr2 j = pr (j + 1) := fun j a1 a2 => by rw [ep]; simp only []; rw [if_neg (by omega), if_pos ⟨a1, a2⟩]
    have pc : ∀ j, j < k0 ∨ c ≤ j → pr2 j = pr j := fun j a1 => by rw [ep]; simp only []; rw [if_neg (by omega), if_neg (by omega)]
    have hidx : ∀ j, j < 10 → ∃ i, i < 10 ∧ pr2 j = pr i ∧ (j = c - 1 ∧ i = k0 ∨ (k0 ≤ j ∧ j < c - 1) ∧ i = j + 1 ∨ (j < k0 ∨ c ≤ j) ∧ i = j) := by
      intro j hj
      by_cases a1 : j = c - 1
      · subst a1; exact ⟨k0, by omega, pa, Or.inl ⟨rfl, rfl⟩⟩
      · by_cases a2 : k0 ≤ j ∧ j < c - 1
        · exact ⟨j + 1, by omega, pb j a2.1 a2.2, Or.inr (Or.inl ⟨a2, rfl⟩)⟩
        · exact ⟨j, hj, pc j (by omega), Or.inr (Or.inr ⟨by omega, rfl⟩)⟩
    have hI1 : ∀ x, x ≠ a → I1 x = I x := fun x hx => by rw [eI1, q_un hx]
    have ia : ∀ j, j ≠ 7 → I1 a j = I a j := fun j hj => by rw [eI1, q_usn hj]
    refine ⟨?_, ?_, ?_, ?_, ?_, ?_, ?_, ?_, ?_, ?_, ?_, ?_, ?_, ?_, ?_, ?_⟩
    · rw [ia 0 (by decide), f_rem_n (by decide) (by decide)]; exact hc.reg
    · rw [f_rem_n (by decide) (by decide)]; exact hc.rbz
    · rw [ia 1 (by decide), f_rem_n (by decide) (by decide)]; exact hc.dr
    · rw [hI1 (a + 1) (by omega), f_rem_n (by decide) (by decide)]; exact hc.i0
    · rw [hI1 (a + 1) (by omega), f_rem_n (by decide) (by decide)]; exact hc.i1
    · rw [hI1 (a + 2) (by omega), f_rem_n (by decide) (by decide)]; exact hc.s0
    · rw [hI1 (a + 2) (by omega), f_rem_n (by decide) (by decide)]; exact hc.s1
    · rw [ia 5 (by decide), hI1 (a + 3) (by omega), f_rem_n (by decide) (by decide)]; exact hc.old
    · rw [f_rem_n (by decide) (by decide), f_rem_n (by decide) (by decide)]; exact hc.sn
    · refine ⟨c - 1, pr2, by omega, ?_, ?_, fun j hj => ?_, fun j l hj hl e => ?_, fun j hj => ?_⟩
      · rw [f_rem_201, va_up_self]
      · rw [eI1, q_usk]
      · obtain ⟨i, hi, e1, hcs⟩ := hidx j hj
        rw [e1]
        refine ⟨?_, (h4 i hi).2⟩
        rw [← (h4 i hi).1, eR3]
        by_cases a1 : j = c - 1
        · have ei : i = k0 := by omega
          rw [a1, q_usk, ei, (h4 k0 (by omega)).1]
        · rw [q_usn a1, hR2.1 j hj]
          by_cases a2 : k0 ≤ j ∧ j < c - 1
          · rw [if_pos a2, show i = j + 1 by omega]
          · rw [if_neg a2, show i = j by omega]
      · obtain ⟨i, hi, e1, c1⟩ := hidx j hj
        obtain ⟨i2, hi2, e2, c2⟩ := hidx l hl
        have e3 : i = i2 := h5 i i2 hi hi2 (by rw [← e1, ← e2]; exact e)
        omega
      · obtain ⟨i, hi, e1, c1⟩ := hidx j (by omega)
        obtain ⟨-, p1, p2⟩ := h4 i hi
        rw [e1, hI1 (pr i) (by omega), f_rem_200, f_rem_200]
        by_cases a2 : k0 ≤ j
        · rw [if_pos (by omega), if_pos (by omega), show 2 * (10 * u + j) + 2 = 2 * (10 * u + i) by omega, show 2 * (10 * u + j) + 1 + 2 = 2 * (10 * u + i) + 1 by omega]
          exact h6 i (by omega)
        · rw [if_neg (by omega), if_neg (by omega), show j = i by omega]
          exact h6 i (by omega)
    · rw [hI1 (a + 5) (by omega), f_rem_n (by decide) (by decide)]; exact hc.e0
    · rw [hI1 (a + 5) (by omega), f_rem_n (by decide) (by decide)]; exact hc.e1
    · rw [hI1 (a + 5) (by omega), f_rem_n (by decide) (by decide)]; exact hc.e2
    · rw [hI1 (a + 5) (by omega), f_rem_n (by decide) (by decide)]; exact hc.e3
    · obtain ⟨f, q1, q2, q3, q4⟩ := hc.off
      refine ⟨f, q1, ?_, ?_, fun k hk => ?_⟩
      · rw [f_rem_n (by decide) (by decide)]; exact q2
      · rw [hI1 (a + 5) (by omega)]; exact q3
      · rw [hI1 (a + 6) (by omega), f_rem_n (by decide) (by decide)]; exact q4 k hk
    · intro i hi
      rw [hI1 (a + 8) (by omega), f_rem_n (by decide) (by decide), f_rem_n (by decide) (by decide)]; exact hc.seed i hi
  · intro k R2 hk hR2 ih
    show q_W L d 22 q_m22 Q 19 [some (.ref a), some (.int (nI k0)), some (.ref (pr k0)), some (.int (nI k))] [] (n, I1, J, R2) 0 0
    refine q_k 2 ?_
    show q_W L d 22 q_m22 Q 21 [some (.ref a), some (.int (nI k0)), some (.ref (pr k0)), some (.int (nI k))] [.ref a, .int (nI k)] (n, I1, J, R2) 0 0
    refine q_gI rfl rfl (hA.ob) ?_
    refine q_top (w := nI (c - 1)) (by rw [eI1, q_usk]) ?_
    refine q_one rfl rfl ?_
    show ((nI (c - 1)) ≤ (nI k) → q_W L d 22 q_m22 Q 47 [some (.ref a), some (.int (nI k0)), some (.ref (pr k0)), some (.int (nI k))] [] (n, I1, J, R2) 0 0) ∧ (¬ (nI (c - 1)) ≤ (nI k) → q_W L d 22 q_m22 Q 27 [some (.ref a), some (.int (nI k0)), some (.ref (pr k0)), some (.int (nI k))] [] (n, I1, J, R2) 0 0)
    refine ⟨fun z => absurd z (nI_ge hk (by omega)), fun _ => ?_⟩
    refine q_k 1 ?_
    show q_W L d 22 q_m22 Q 28 [some (.ref a), some (.int (nI k0)), some (.ref (pr k0)), some (.int (nI k))] [.ref a] (n, I1, J, R2) 0 0
    refine q_gR (b := (a + 4)) rfl rfl (hA.ob) (by rw [hR2.2.2 a (by omega)]; exact hA.r6) ?_
    refine q_k 2 ?_
    show q_W L d 22 q_m22 Q 33 [some (.ref a), some (.int (nI k0)), some (.ref (pr k0)), some (.int (nI k))] [.ref a, .int (nI k), .ref (a + 4)] (n, I1, J, R2) 0 0
    refine q_gR (b := (a + 4)) rfl rfl (hA.ob) (by rw [hR2.2.2 a (by omega)]; exact hA.r6) ?_
    refine q_k 3 ?_
    show q_W L d 22 q_m22 Q 39 [some (.ref a), some (.int (nI k0)), some (.ref (pr k0)), some (.int (nI k))] [.int ((nI k) + (nI 1)), .ref (a + 4), .int (nI k), .ref (a + 4)] (n, I1, J, R2) 0 0
    refine q_top (w := nI (k + 1)) (nI_add _ _) ?_
    refine q_aal (m := k + 1) (b := (pr (k + 1))) rfl (hA.o4) ⟨rfl, rfl⟩ (by omega) rfl (by rw [hR2.1 (k + 1) (by omega), if_neg (by omega)]; exact (h4 (k + 1) (by omega)).1) ?_
    refine q_aas (m := k) rfl (hA.o4) ⟨rfl, rfl⟩ (hA.op _ (h4 (k + 1) (by omega)).2.1 (h4 (k + 1) (by omega)).2.2) (by omega) rfl ?_
    refine q_k 1 ?_
    show q_W L d 22 q_m22 Q 44 [some (.ref a), some (.int (nI k0)), some (.ref (pr k0)), some (.int ((nI k) + nI 1))] [] (n, I1, J, q_up R2 (a + 4) k (some (pr (k + 1)))) 0 0
    rw [show (nI k) + nI 1 = nI (k + 1) from nI_add _ _]
    refine q_k 1 ?_
    show q_W L d 22 q_m22 Q 19 [some (.ref a), some (.int (nI k0)), some (.ref (pr k0)), some (.int (nI (k + 1)))] [] (n, I1, J, q_up R2 (a + 4) k (some (pr (k + 1)))) 0 0
    refine ih _ ⟨fun j hj => ?_, by omega, fun x hx => ?_⟩
    · by_cases e : j = k
      · subst e; rw [q_usk, if_pos (by omega), (h4 (j + 1) (by omega)).1]
      · rw [q_usn e, hR2.1 j hj]
        by_cases c1 : k0 ≤ j ∧ j < k
        · rw [if_pos c1, if_pos (by omega)]
        · rw [if_neg c1, if_neg (by omega)]
    · rw [q_un hx]; exact hR2.2.2 x hx
  · exact ⟨fun j _ => by rw [if_neg (by omega)], Nat.le_refl _, fun _ _ => rfl⟩
