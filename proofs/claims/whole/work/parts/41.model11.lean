set_option maxHeartbeats 4000000 in
theorem m_begin {L d n : Nat} {I : q_I} {J : q_L} {R : q_R} {Q : q_Q} {u v : Int32} (hK : q_K0 n I R) (hof : ∀ b, b < 4 → ∃ f : Nat, f ≤ 6 ∧ I 204 b = nI f) (hmn : ∀ p, p < 16 → ∃ m : Nat, m ≤ 3 ∧ I 206 p = nI m) (hQ : ∀ I', q_ms I' (f_begin u v I).2 → q_mf I' I → Q (some (.int (f_begin u v I).1)) (n, I', J, R)) : q_Ex L (d + 6) 108 [.ref 192, .int u, .int v] (n, I, J, R) Q := by
  refine q_in (x := q_m108) rfl rfl ?_
  show q_W L (d + 5) 108 q_m108 Q 0 [some (.ref 192), some (.int u), some (.int v), none, none, none, none, none] [] (n, I, J, R) 0 0
  refine q_k 3 ?_
  show q_W L (d + 5) 108 q_m108 Q 3 [some (.ref 192), some (.int u), some (.int v), none, none, none, none, none] [.int v, .int u, .ref 192] (n, I, J, R) 0 0
  refine q_cv (as := [.int u, .int v]) (rs := []) rfl rfl rfl (⟨Nat.lt_of_lt_of_le (by decide) hK.1, rfl⟩) rfl rfl ?_
  refine m_pair (hK) ?_
  show q_W L (d + 5) 108 q_m108 Q 6 [some (.ref 192), some (.int u), some (.int v), none, none, none, none, none] [.int (g_pr (I 193) u v)] (n, I, J, R) 0 0
  refine q_one rfl rfl ?_
  show (¬ (g_pr (I 193) u v) = 0 → q_W L (d + 5) 108 q_m108 Q 11 [some (.ref 192), some (.int u), some (.int v), none, none, none, none, none] [] (n, I, J, R) 0 0) ∧ ((g_pr (I 193) u v) = 0 → q_W L (d + 5) 108 q_m108 Q 9 [some (.ref 192), some (.int u), some (.int v), none, none, none, none, none] [] (n, I, J, R) 0 0)
  refine ⟨fun h6 => ?_, fun h6 => ?_⟩
  · skip
    obtain ⟨a, b, ha, hb, rfl, rfl, hab, hfa, hfb, hk1⟩ := g_pr_1 h6
    obtain ⟨f, hf6, hf⟩ := hof b hb
    obtain ⟨m, hm3, hm⟩ := hmn (4 * a + b) (by omega)
    simp only [f_begin, if_neg h6, g_cl (show a < 10000 by omega), g_cl (show b < 10000 by omega), hf, hm, g_cl (show f < 10000 by omega), g_cl (show m < 10000 by omega)] at hQ
    obtain ⟨w0, ew0⟩ : ∃ z, z = g_nx (f_draw a I) a := ⟨_, rfl⟩
    rcases Nat.eq_zero_or_pos f with rfl | hfp
    · skip
      show q_W L (d + 5) 108 q_m108 Q 11 [some (.ref 192), some (.int (nI a)), some (.int (nI b)), none, none, none, none, none] [] (n, I, J, R) 0 0
      refine q_k 1 ?_
      show q_W L (d + 5) 108 q_m108 Q 12 [some (.ref 192), some (.int (nI a)), some (.int (nI b)), none, none, none, none, none] [.ref 192] (n, I, J, R) 0 0
      refine q_gR (b := 204) rfl rfl (⟨Nat.lt_of_lt_of_le (by decide) hK.1, rfl⟩) (hK.2.1 192 11 204 rfl) ?_
      refine q_k 1 ?_
      show q_W L (d + 5) 108 q_m108 Q 16 [some (.ref 192), some (.int (nI a)), some (.int (nI b)), none, none, none, none, none] [.int (nI b), .ref 204] (n, I, J, R) 0 0
      refine q_ial (m := b) rfl (⟨by decide, Nat.lt_of_lt_of_le (by decide) hK.1, rfl⟩) (hb) (rfl) ?_
      refine q_top (w := nI 0) (hf) ?_
      refine q_one rfl rfl ?_
      show ((nI 0) ≤ 0 → q_W L (d + 5) 108 q_m108 Q 32 [some (.ref 192), some (.int (nI a)), some (.int (nI b)), none, none, none, none, none] [] (n, I, J, R) 0 0) ∧ (¬ (nI 0) ≤ 0 → q_W L (d + 5) 108 q_m108 Q 20 [some (.ref 192), some (.int (nI a)), some (.int (nI b)), none, none, none, none, none] [] (n, I, J, R) 0 0)
      refine ⟨fun _ => ?_, fun z => absurd (by decide) z⟩
      refine q_k 3 ?_
      show q_W L (d + 5) 108 q_m108 Q 35 [some (.ref 192), some (.int (nI a)), some (.int (nI b)), some (.int (nI 0)), none, none, none, none] [.ref 192] (n, I, J, R) 0 0
      refine q_gR (b := 204) rfl rfl (⟨Nat.lt_of_lt_of_le (by decide) hK.1, rfl⟩) (hK.2.1 192 11 204 rfl) ?_
      refine q_k 2 ?_
      show q_W L (d + 5) 108 q_m108 Q 40 [some (.ref 192), some (.int (nI a)), some (.int (nI b)), some (.int (nI 0)), none, none, none, none] [.int (nI b), .ref 204, .int (nI b), .ref 204] (n, I, J, R) 0 0
      refine q_ial (m := b) rfl (⟨by decide, Nat.lt_of_lt_of_le (by decide) hK.1, rfl⟩) (hb) (rfl) ?_
      refine q_top (w := nI 0) (hf) ?_
      refine q_k 1 ?_
      show q_W L (d + 5) 108 q_m108 Q 42 [some (.ref 192), some (.int (nI a)), some (.int (nI b)), some (.int (nI 0)), none, none, none, none] [.ref 192, .int (nI 0), .int (nI b), .ref 204] (n, I, J, R) 0 0
      refine q_gR (b := 204) rfl rfl (⟨Nat.lt_of_lt_of_le (by decide) hK.1, rfl⟩) (hK.2.1 192 11 204 rfl) ?_
      refine q_k 1 ?_
      show q_W L (d + 5) 108 q_m108 Q 46 [some (.ref 192), some (.int (nI a)), some (.int (nI b)), some (.int (nI 0)), none, none, none, none] [.int (nI b), .ref 204, .int (nI 0), .int (nI b), .ref 204] (n, I, J, R) 0 0
      refine q_ial (m := b) rfl (⟨by decide, Nat.lt_of_lt_of_le (by decide) hK.1, rfl⟩) (hb) (rfl) ?_
      refine q_top (w := nI 0) (hf) ?_
      refine q_one rfl rfl ?_
      show ((nI 0) ≤ 0 → q_W L (d + 5) 108 q_m108 Q 54 [some (.ref 192), some (.int (nI a)), some (.int (nI b)), some (.int (nI 0)), none, none, none, none] [.int (nI 0), .int (nI b), .ref 204] (n, I, J, R) 0 0) ∧ (¬ (nI 0) ≤ 0 → q_W L (d + 5) 108 q_m108 Q 50 [some (.ref 192), some (.int (nI a)), some (.int (nI b)), some (.int (nI 0)), none, none, none, none] [.int (nI 0), .int (nI b), .ref 204] (n, I, J, R) 0 0)
      refine ⟨fun _ => ?_, fun z => absurd (by decide) z⟩
      refine q_k 2 ?_
      show q_W L (d + 5) 108 q_m108 Q 56 [some (.ref 192), some (.int (nI a)), some (.int (nI b)), some (.int (nI 0)), none, none, none, none] [.int ((nI 0) - (nI 0)), .int (nI b), .ref 204] (n, I, J, R) 0 0
      refine q_top (w := nI 0) (pk_sub (by decide)) ?_
      refine q_ias (m := b) rfl (⟨by decide, Nat.lt_of_lt_of_le (by decide) hK.1, rfl⟩) (hb) (rfl) ?_
      obtain ⟨I1, eI1⟩ : ∃ zz9, zz9 = q_up I 204 b (nI 0) := ⟨_, rfl⟩
      rw [← eI1]
      refine q_k 2 ?_
      show q_W L (d + 5) 108 q_m108 Q 60 [some (.ref 192), some (.int (nI a)), some (.int (nI b)), some (.int (nI 0)), some (.int (nI 0)), none, none, none] [] (n, I1, J, R) 0 0
      refine q_loop (σ := q_I) 0 (fun y I2 => (∀ j, I2 203 j = if 6 * b ≤ j ∧ j < 6 * b + y then I 203 (j + 1) else I 203 j) ∧ ∀ x, x ≠ 203 → I2 x = I1 x) (fun y I2 => q_W L (d + 5) 108 q_m108 Q 60 [some (.ref 192), some (.int (nI a)), some (.int (nI b)), some (.int (nI 0)), some (.int (nI y)), none, none, none] [] (n, I2, J, R) 0 0) ?_ ?_ 0 I1 (Nat.zero_le _) ?_
      · intro I2 hI2
        show q_W L (d + 5) 108 q_m108 Q 60 [some (.ref 192), some (.int (nI a)), some (.int (nI b)), some (.int (nI 0)), some (.int (nI 0)), none, none, none] [] (n, I2, J, R) 0 0
        refine q_k 2 ?_
        show q_W L (d + 5) 108 q_m108 Q 63 [some (.ref 192), some (.int (nI a)), some (.int (nI b)), some (.int (nI 0)), some (.int (nI 0)), none, none, none] [.ref 192, .int (nI 0)] (n, I2, J, R) 0 0
        refine q_gR (b := 204) rfl rfl (⟨Nat.lt_of_lt_of_le (by decide) hK.1, rfl⟩) (hK.2.1 192 11 204 rfl) ?_
        refine q_k 1 ?_
        show q_W L (d + 5) 108 q_m108 Q 67 [some (.ref 192), some (.int (nI a)), some (.int (nI b)), some (.int (nI 0)), some (.int (nI 0)), none, none, none] [.int (nI b), .ref 204, .int (nI 0)] (n, I2, J, R) 0 0
        refine q_ial (m := b) rfl (⟨by decide, Nat.lt_of_lt_of_le (by decide) hK.1, rfl⟩) (hb) (rfl) ?_
        refine q_top (w := nI 0) (by rw [hI2.2 204 (by decide), eI1, q_usk]) ?_
        refine q_one rfl rfl ?_
        show ((nI 0) ≤ (nI 0) → q_W L (d + 5) 108 q_m108 Q 103 [some (.ref 192), some (.int (nI a)), some (.int (nI b)), some (.int (nI 0)), some (.int (nI 0)), none, none, none] [] (n, I2, J, R) 0 0) ∧ (¬ (nI 0) ≤ (nI 0) → q_W L (d + 5) 108 q_m108 Q 71 [some (.ref 192), some (.int (nI a)), some (.int (nI b)), some (.int (nI 0)), some (.int (nI 0)), none, none, none] [] (n, I2, J, R) 0 0)
        refine ⟨fun _ => ?_, fun z => absurd (nI_le (Nat.le_refl _) (by omega)) z⟩
        refine q_k 2 ?_
        show q_W L (d + 5) 108 q_m108 Q 105 [some (.ref 192), some (.int (nI a)), some (.int (nI b)), some (.int (nI 0)), some (.int (nI 0)), none, none, none] [.int (nI b), .ref 192] (n, I2, J, R) 0 0
        refine q_cv (as := [.int (nI b)]) (rs := []) rfl rfl rfl (⟨Nat.lt_of_lt_of_le (by decide) hK.1, rfl⟩) rfl rfl ?_
        refine m_holds (q_K0_to hK (by rw [hI2.2 0 (by decide), eI1, q_un (by decide)]) (by rw [hI2.2 1 (by decide), eI1, q_un (by decide)])) (hb) (fun I3 f3 => ?_)
        refine q_top (w := g_holds (I 202 (4 * b)) (I 202 (4 * b + 1)) (I 202 (4 * b + 2)) (I 202 (4 * b + 3))) (by rw [hI2.2 202 (by decide), eI1, q_un (by decide)]) ?_
        show q_W L (d + 5) 108 q_m108 Q 108 [some (.ref 192), some (.int (nI a)), some (.int (nI b)), some (.int (nI 0)), some (.int (nI 0)), none, none, none] [.int (g_holds (I 202 (4 * b)) (I 202 (4 * b + 1)) (I 202 (4 * b + 2)) (I 202 (4 * b + 3)))] (n, I3, J, R) 0 0
        refine q_one rfl rfl ?_
        show (¬ (g_holds (I 202 (4 * b)) (I 202 (4 * b + 1)) (I 202 (4 * b + 2)) (I 202 (4 * b + 3))) = 0 → q_W L (d + 5) 108 q_m108 Q 113 [some (.ref 192), some (.int (nI a)), some (.int (nI b)), some (.int (nI 0)), some (.int (nI 0)), none, none, none] [] (n, I3, J, R) 0 0) ∧ ((g_holds (I 202 (4 * b)) (I 202 (4 * b + 1)) (I 202 (4 * b + 2)) (I 202 (4 * b + 3))) = 0 → q_W L (d + 5) 108 q_m108 Q 111 [some (.ref 192), some (.int (nI a)), some (.int (nI b)), some (.int (nI 0)), some (.int (nI 0)), none, none, none] [] (n, I3, J, R) 0 0)
        refine ⟨fun h108 => ?_, fun h108 => ?_⟩
        · skip
          refine q_k 1 ?_
          show q_W L (d + 5) 108 q_m108 Q 114 [some (.ref 192), some (.int (nI a)), some (.int (nI b)), some (.int (nI 0)), some (.int (nI 0)), none, none, none] [.ref 192] (n, I3, J, R) 0 0
          refine q_gR (b := 202) rfl rfl (⟨Nat.lt_of_lt_of_le (by decide) hK.1, rfl⟩) (hK.2.1 192 9 202 rfl) ?_
          refine q_k 3 ?_
          show q_W L (d + 5) 108 q_m108 Q 120 [some (.ref 192), some (.int (nI a)), some (.int (nI b)), some (.int (nI 0)), some (.int (nI 0)), none, none, none] [.int ((nI 4) * (nI b)), .ref 202] (n, I3, J, R) 0 0
          refine q_top (w := nI (4 * b)) (pk_mul _ _) ?_
          refine q_ial (m := 4 * b) rfl (⟨by decide, Nat.lt_of_lt_of_le (by decide) hK.1, rfl⟩) (by omega) (rfl) ?_
          refine q_top (w := I 202 (4 * b)) (by rw [f3 202 (by decide) (by decide) (by decide) (by decide), hI2.2 202 (by decide), eI1, q_un (by decide)]) ?_
          refine q_k 1 ?_
          show q_W L (d + 5) 108 q_m108 Q 123 [some (.ref 192), some (.int (nI a)), some (.int (nI b)), some (.int (nI 0)), some (.int (I 202 (4 * b))), none, none, none] [] (n, I3, J, R) 0 0
          obtain ⟨x0, ex0⟩ : ∃ zz9, zz9 = I 202 (4 * b) := ⟨_, rfl⟩
          rw [← ex0]
          refine q_k 1 ?_
          show q_W L (d + 5) 108 q_m108 Q 124 [some (.ref 192), some (.int (nI a)), some (.int (nI b)), some (.int (nI 0)), some (.int x0), none, none, none] [.ref 192] (n, I3, J, R) 0 0
          refine q_gR (b := 202) rfl rfl (⟨Nat.lt_of_lt_of_le (by decide) hK.1, rfl⟩) (hK.2.1 192 9 202 rfl) ?_
          refine q_k 3 ?_
          show q_W L (d + 5) 108 q_m108 Q 130 [some (.ref 192), some (.int (nI a)), some (.int (nI b)), some (.int (nI 0)), some (.int x0), none, none, none] [.int ((nI 4) * (nI b)), .ref 202] (n, I3, J, R) 0 0
          refine q_top (w := nI (4 * b)) (pk_mul _ _) ?_
          refine q_k 2 ?_
          show q_W L (d + 5) 108 q_m108 Q 132 [some (.ref 192), some (.int (nI a)), some (.int (nI b)), some (.int (nI 0)), some (.int x0), none, none, none] [.int ((nI (4 * b)) + (nI 1)), .ref 202] (n, I3, J, R) 0 0
          refine q_top (w := nI (4 * b + 1)) (nI_add _ _) ?_
          refine q_ial (m := 4 * b + 1) rfl (⟨by decide, Nat.lt_of_lt_of_le (by decide) hK.1, rfl⟩) (by omega) (rfl) ?_
          refine q_top (w := I 202 (4 * b + 1)) (by rw [f3 202 (by decide) (by decide) (by decide) (by decide), hI2.2 202 (by decide), eI1, q_un (by decide)]) ?_
          refine q_k 1 ?_
          show q_W L (d + 5) 108 q_m108 Q 135 [some (.ref 192), some (.int (nI a)), some (.int (nI b)), some (.int (nI 0)), some (.int x0), some (.int (I 202 (4 * b + 1))), none, none] [] (n, I3, J, R) 0 0
          obtain ⟨s0, es0⟩ : ∃ zz9, zz9 = I 202 (4 * b + 1) := ⟨_, rfl⟩
          rw [← es0]
          refine q_k 2 ?_
          show q_W L (d + 5) 108 q_m108 Q 137 [some (.ref 192), some (.int (nI a)), some (.int (nI b)), some (.int (nI 0)), some (.int x0), some (.int s0), none, none] [.int (nI a), .ref 192] (n, I3, J, R) 0 0
          refine q_cv (as := [.int (nI a)]) (rs := []) rfl rfl rfl (⟨Nat.lt_of_lt_of_le (by decide) hK.1, rfl⟩) rfl rfl ?_
          refine m_draw (q_K0_to hK (by rw [f3 0 (by decide) (by decide) (by decide) (by decide), hI2.2 0 (by decide), eI1, q_un (by decide)]) (by rw [f3 1 (by decide) (by decide) (by decide) (by decide), hI2.2 1 (by decide), eI1, q_un (by decide)])) (ha) (fun I4 a4 b4 c4 f4 e4 => ?_)
          have hq4 : g_priv (I3 194 a) (I3 195 a) a (I3 196 a + nI 1) = g_nx I a := by unfold g_nx; rw [f3 194 (by decide) (by decide) (by decide) (by decide), hI2.2 194 (by decide), eI1, q_un (by decide), f3 195 (by decide) (by decide) (by decide) (by decide), hI2.2 195 (by decide), eI1, q_un (by decide), f3 196 (by decide) (by decide) (by decide) (by decide), hI2.2 196 (by decide), eI1, q_un (by decide)]
          rw [hq4] at a4 b4
          show q_W L (d + 5) 108 q_m108 Q 140 [some (.ref 192), some (.int (nI a)), some (.int (nI b)), some (.int (nI 0)), some (.int x0), some (.int s0), none, none] [] (n, I4, J, R) 0 0
          refine q_k 1 ?_
          show q_W L (d + 5) 108 q_m108 Q 141 [some (.ref 192), some (.int (nI a)), some (.int (nI b)), some (.int (nI 0)), some (.int x0), some (.int s0), none, none] [.ref 192] (n, I4, J, R) 0 0
          refine q_gI rfl rfl (⟨Nat.lt_of_lt_of_le (by decide) hK.1, rfl⟩) ?_
          refine q_top (w := g_nx I a) (a4) ?_
          refine q_k 1 ?_
          show q_W L (d + 5) 108 q_m108 Q 146 [some (.ref 192), some (.int (nI a)), some (.int (nI b)), some (.int (nI 0)), some (.int x0), some (.int s0), some (.int (g_nx I a)), none] [] (n, I4, J, R) 0 0
          obtain ⟨e0, ee0⟩ : ∃ zz9, zz9 = g_nx I a := ⟨_, rfl⟩
          rw [← ee0]
          refine q_k 1 ?_
          show q_W L (d + 5) 108 q_m108 Q 147 [some (.ref 192), some (.int (nI a)), some (.int (nI b)), some (.int (nI 0)), some (.int x0), some (.int s0), some (.int e0), none] [.ref 192] (n, I4, J, R) 0 0
          refine q_gI rfl rfl (⟨Nat.lt_of_lt_of_le (by decide) hK.1, rfl⟩) ?_
          refine q_top (w := g_pub e0) (by rw [b4, ee0]) ?_
          refine q_k 3 ?_
          show q_W L (d + 5) 108 q_m108 Q 154 [some (.ref 192), some (.int (nI a)), some (.int (nI b)), some (.int (nI 0)), some (.int x0), some (.int s0), some (.int e0), some (.int (g_pub e0))] [.int (nI a), .ref 192] (n, I4, J, R) 0 0
          refine q_cv (as := [.int (nI a)]) (rs := []) rfl rfl rfl (⟨Nat.lt_of_lt_of_le (by decide) hK.1, rfl⟩) rfl rfl ?_
          refine m_draw (q_K0_to hK (by rw [f4 0 (by decide) (by decide) (by decide) (by decide) (by decide) (by decide), f3 0 (by decide) (by decide) (by decide) (by decide), hI2.2 0 (by decide), eI1, q_un (by decide)]) (by rw [f4 1 (by decide) (by decide) (by decide) (by decide) (by decide) (by decide), f3 1 (by decide) (by decide) (by decide) (by decide), hI2.2 1 (by decide), eI1, q_un (by decide)])) (ha) (fun I5 a5 b5 c5 f5 e5 => ?_)
          have hc4 : I4 196 = va_up (I 196) a (I 196 a + nI 1) := by rw [c4, f3 196 (by decide) (by decide) (by decide) (by decide), hI2.2 196 (by decide), eI1, q_un (by decide)]
          have hq5 : g_priv (I4 194 a) (I4 195 a) a (I4 196 a + nI 1) = w0 := by
            rw [ew0, hc4, f4 194 (by decide) (by decide) (by decide) (by decide) (by decide) (by decide), f3 194 (by decide) (by decide) (by decide) (by decide), hI2.2 194 (by decide), eI1, q_un (by decide)]
            rw [f4 195 (by decide) (by decide) (by decide) (by decide) (by decide) (by decide), f3 195 (by decide) (by decide) (by decide) (by decide), hI2.2 195 (by decide), eI1, q_un (by decide)]
            unfold g_nx f_draw
            rw [q_un (by decide), q_un (by decide), q_us]
          rw [hq5] at a5 b5
          show q_W L (d + 5) 108 q_m108 Q 157 [some (.ref 192), some (.int (nI a)), some (.int (nI b)), some (.int (nI 0)), some (.int x0), some (.int s0), some (.int e0), some (.int (g_pub e0))] [] (n, I5, J, R) 0 0
          refine q_k 1 ?_
          show q_W L (d + 5) 108 q_m108 Q 158 [some (.ref 192), some (.int (nI a)), some (.int (nI b)), some (.int (nI 0)), some (.int x0), some (.int s0), some (.int e0), some (.int (g_pub e0))] [.ref 192] (n, I5, J, R) 0 0
          refine q_cv (as := []) (rs := []) rfl rfl rfl (⟨Nat.lt_of_lt_of_le (by decide) hK.1, rfl⟩) rfl rfl ?_
          refine m_clear (q_K0_to hK (by rw [f5 0 (by decide) (by decide) (by decide) (by decide) (by decide) (by decide), f4 0 (by decide) (by decide) (by decide) (by decide) (by decide) (by decide), f3 0 (by decide) (by decide) (by decide) (by decide), hI2.2 0 (by decide), eI1, q_un (by decide)]) (by rw [f5 1 (by decide) (by decide) (by decide) (by decide) (by decide) (by decide), f4 1 (by decide) (by decide) (by decide) (by decide) (by decide) (by decide), f3 1 (by decide) (by decide) (by decide) (by decide), hI2.2 1 (by decide), eI1, q_un (by decide)])) (fun I6 h6' f6 => ?_)
          show q_W L (d + 5) 108 q_m108 Q 161 [some (.ref 192), some (.int (nI a)), some (.int (nI b)), some (.int (nI 0)), some (.int x0), some (.int s0), some (.int e0), some (.int (g_pub e0))] [] (n, I6, J, R) 0 0
          refine q_k 1 ?_
          show q_W L (d + 5) 108 q_m108 Q 162 [some (.ref 192), some (.int (nI a)), some (.int (nI b)), some (.int (nI 0)), some (.int x0), some (.int s0), some (.int e0), some (.int (g_pub e0))] [.ref 192] (n, I6, J, R) 0 0
          refine q_gR (b := 207) rfl rfl (⟨Nat.lt_of_lt_of_le (by decide) hK.1, rfl⟩) (hK.2.1 192 14 207 rfl) ?_
          refine q_k 2 ?_
          show q_W L (d + 5) 108 q_m108 Q 168 [some (.ref 192), some (.int (nI a)), some (.int (nI b)), some (.int (nI 0)), some (.int x0), some (.int s0), some (.int e0), some (.int (g_pub e0))] [.int (g_pub e0), .int (nI 0), .ref 207] (n, I6, J, R) 0 0
          refine q_ias (m := 0) rfl (⟨by decide, Nat.lt_of_lt_of_le (by decide) hK.1, rfl⟩) (by decide) (rfl) ?_
          refine q_k 1 ?_
          show q_W L (d + 5) 108 q_m108 Q 170 [some (.ref 192), some (.int (nI a)), some (.int (nI b)), some (.int (nI 0)), some (.int x0), some (.int s0), some (.int e0), some (.int (g_pub e0))] [.ref 192] (n, q_up I6 207 0 (g_pub e0), J, R) 0 0
          refine q_gR (b := 207) rfl rfl (⟨Nat.lt_of_lt_of_le (by decide) hK.1, rfl⟩) (hK.2.1 192 14 207 rfl) ?_
          refine q_k 2 ?_
          show q_W L (d + 5) 108 q_m108 Q 176 [some (.ref 192), some (.int (nI a)), some (.int (nI b)), some (.int (nI 0)), some (.int x0), some (.int s0), some (.int e0), some (.int (g_pub e0))] [.int s0, .int (nI 1), .ref 207] (n, q_up I6 207 0 (g_pub e0), J, R) 0 0
          refine q_ias (m := 1) rfl (⟨by decide, Nat.lt_of_lt_of_le (by decide) hK.1, rfl⟩) (by decide) (rfl) ?_
          refine q_k 1 ?_
          show q_W L (d + 5) 108 q_m108 Q 178 [some (.ref 192), some (.int (nI a)), some (.int (nI b)), some (.int (nI 0)), some (.int x0), some (.int s0), some (.int e0), some (.int (g_pub e0))] [.ref 192] (n, q_up (q_up I6 207 0 (g_pub e0)) 207 1 s0, J, R) 0 0
          refine q_gR (b := 207) rfl rfl (⟨Nat.lt_of_lt_of_le (by decide) hK.1, rfl⟩) (hK.2.1 192 14 207 rfl) ?_
          refine q_k 2 ?_
          show q_W L (d + 5) 108 q_m108 Q 183 [some (.ref 192), some (.int (nI a)), some (.int (nI b)), some (.int (nI 0)), some (.int x0), some (.int s0), some (.int e0), some (.int (g_pub e0))] [.ref 192, .int (nI 2), .ref 207] (n, q_up (q_up I6 207 0 (g_pub e0)) 207 1 s0, J, R) 0 0
          refine q_gI rfl rfl (⟨Nat.lt_of_lt_of_le (by decide) hK.1, rfl⟩) ?_
          refine q_top (w := w0) (by rw [q_un (by decide), q_un (by decide), f6 192 (by decide)]; exact a5) ?_
          refine q_ias (m := 2) rfl (⟨by decide, Nat.lt_of_lt_of_le (by decide) hK.1, rfl⟩) (by decide) (rfl) ?_
          refine q_k 1 ?_
          show q_W L (d + 5) 108 q_m108 Q 188 [some (.ref 192), some (.int (nI a)), some (.int (nI b)), some (.int (nI 0)), some (.int x0), some (.int s0), some (.int e0), some (.int (g_pub e0))] [.ref 192] (n, q_up (q_up (q_up I6 207 0 (g_pub e0)) 207 1 s0) 207 2 w0, J, R) 0 0
          refine q_gR (b := 207) rfl rfl (⟨Nat.lt_of_lt_of_le (by decide) hK.1, rfl⟩) (hK.2.1 192 14 207 rfl) ?_
          refine q_k 2 ?_
          show q_W L (d + 5) 108 q_m108 Q 193 [some (.ref 192), some (.int (nI a)), some (.int (nI b)), some (.int (nI 0)), some (.int x0), some (.int s0), some (.int e0), some (.int (g_pub e0))] [.ref 192, .int (nI 3), .ref 207] (n, q_up (q_up (q_up I6 207 0 (g_pub e0)) 207 1 s0) 207 2 w0, J, R) 0 0
          refine q_gI rfl rfl (⟨Nat.lt_of_lt_of_le (by decide) hK.1, rfl⟩) ?_
          refine q_top (w := g_pub w0) (by rw [q_un (by decide), q_un (by decide), q_un (by decide), f6 192 (by decide)]; exact b5) ?_
          refine q_ias (m := 3) rfl (⟨by decide, Nat.lt_of_lt_of_le (by decide) hK.1, rfl⟩) (by decide) (rfl) ?_
          refine q_k 1 ?_
          show q_W L (d + 5) 108 q_m108 Q 198 [some (.ref 192), some (.int (nI a)), some (.int (nI b)), some (.int (nI 0)), some (.int x0), some (.int s0), some (.int e0), some (.int (g_pub e0))] [.ref 192] (n, q_up (q_up (q_up (q_up I6 207 0 (g_pub e0)) 207 1 s0) 207 2 w0) 207 3 (g_pub w0), J, R) 0 0
          refine q_gR (b := 207) rfl rfl (⟨Nat.lt_of_lt_of_le (by decide) hK.1, rfl⟩) (hK.2.1 192 14 207 rfl) ?_
          refine q_k 2 ?_
          show q_W L (d + 5) 108 q_m108 Q 204 [some (.ref 192), some (.int (nI a)), some (.int (nI b)), some (.int (nI 0)), some (.int x0), some (.int s0), some (.int e0), some (.int (g_pub e0))] [.int (nI 1), .int (nI 10), .ref 207] (n, q_up (q_up (q_up (q_up I6 207 0 (g_pub e0)) 207 1 s0) 207 2 w0) 207 3 (g_pub w0), J, R) 0 0
          refine q_ias (m := 10) rfl (⟨by decide, Nat.lt_of_lt_of_le (by decide) hK.1, rfl⟩) (by decide) (rfl) ?_
          refine q_k 1 ?_
          show q_W L (d + 5) 108 q_m108 Q 206 [some (.ref 192), some (.int (nI a)), some (.int (nI b)), some (.int (nI 0)), some (.int x0), some (.int s0), some (.int e0), some (.int (g_pub e0))] [.ref 192] (n, q_up (q_up (q_up (q_up (q_up I6 207 0 (g_pub e0)) 207 1 s0) 207 2 w0) 207 3 (g_pub w0)) 207 10 (nI 1), J, R) 0 0
          refine q_gR (b := 207) rfl rfl (⟨Nat.lt_of_lt_of_le (by decide) hK.1, rfl⟩) (hK.2.1 192 14 207 rfl) ?_
          refine q_k 2 ?_
          show q_W L (d + 5) 108 q_m108 Q 213 [some (.ref 192), some (.int (nI a)), some (.int (nI b)), some (.int (nI 0)), some (.int x0), some (.int s0), some (.int e0), some (.int (g_pub e0))] [.int s0, .int (nI 12), .ref 207] (n, q_up (q_up (q_up (q_up (q_up I6 207 0 (g_pub e0)) 207 1 s0) 207 2 w0) 207 3 (g_pub w0)) 207 10 (nI 1), J, R) 0 0
          refine q_ias (m := 12) rfl (⟨by decide, Nat.lt_of_lt_of_le (by decide) hK.1, rfl⟩) (by decide) (rfl) ?_
          refine q_k 1 ?_
          show q_W L (d + 5) 108 q_m108 Q 215 [some (.ref 192), some (.int (nI a)), some (.int (nI b)), some (.int (nI 0)), some (.int x0), some (.int s0), some (.int e0), some (.int (g_pub e0))] [.ref 192] (n, q_up (q_up (q_up (q_up (q_up (q_up I6 207 0 (g_pub e0)) 207 1 s0) 207 2 w0) 207 3 (g_pub w0)) 207 10 (nI 1)) 207 12 s0, J, R) 0 0
          refine q_gR (b := 207) rfl rfl (⟨Nat.lt_of_lt_of_le (by decide) hK.1, rfl⟩) (hK.2.1 192 14 207 rfl) ?_
          refine q_k 2 ?_
          show q_W L (d + 5) 108 q_m108 Q 221 [some (.ref 192), some (.int (nI a)), some (.int (nI b)), some (.int (nI 0)), some (.int x0), some (.int s0), some (.int e0), some (.int (g_pub e0))] [.int (nI 0), .int (nI 13), .ref 207] (n, q_up (q_up (q_up (q_up (q_up (q_up I6 207 0 (g_pub e0)) 207 1 s0) 207 2 w0) 207 3 (g_pub w0)) 207 10 (nI 1)) 207 12 s0, J, R) 0 0
          refine q_ias (m := 13) rfl (⟨by decide, Nat.lt_of_lt_of_le (by decide) hK.1, rfl⟩) (by decide) (rfl) ?_
          obtain ⟨I7, eI7⟩ : ∃ zz9, zz9 = q_up (q_up (q_up (q_up (q_up (q_up (q_up I6 207 0 (g_pub e0)) 207 1 s0) 207 2 w0) 207 3 (g_pub w0)) 207 10 (nI 1)) 207 12 s0) 207 13 (nI 0) := ⟨_, rfl⟩
          rw [← eI7]
          refine q_k 3 ?_
          show q_W L (d + 5) 108 q_m108 Q 226 [some (.ref 192), some (.int (nI a)), some (.int (nI b)), some (.int (nI 0)), some (.int x0), some (.int s0), some (.int e0), some (.int (g_pub e0))] [.ref 192, .int s0, .ref 192] (n, I7, J, R) 0 0
          refine q_gR (b := 197) rfl rfl (⟨Nat.lt_of_lt_of_le (by decide) hK.1, rfl⟩) (hK.2.1 192 4 197 rfl) ?_
          refine q_k 3 ?_
          show q_W L (d + 5) 108 q_m108 Q 232 [some (.ref 192), some (.int (nI a)), some (.int (nI b)), some (.int (nI 0)), some (.int x0), some (.int s0), some (.int e0), some (.int (g_pub e0))] [.int ((nI 2) * (nI a)), .ref 197, .int s0, .ref 192] (n, I7, J, R) 0 0
          refine q_top (w := nI (2 * a)) (pk_mul _ _) ?_
          refine q_ial (m := 2 * a) rfl (⟨by decide, Nat.lt_of_lt_of_le (by decide) hK.1, rfl⟩) (by omega) (rfl) ?_
          refine q_top (w := I 197 (2 * a)) (by rw [eI7, q_un (by decide), q_un (by decide), q_un (by decide), q_un (by decide), q_un (by decide), q_un (by decide), q_un (by decide), f6 197 (by decide), f5 197 (by decide) (by decide) (by decide) (by decide) (by decide) (by decide), f4 197 (by decide) (by decide) (by decide) (by decide) (by decide) (by decide), f3 197 (by decide) (by decide) (by decide) (by decide), hI2.2 197 (by decide), eI1, q_un (by decide)]) ?_
          refine q_cs (as := [.int s0, .int (I 197 (2 * a))]) (rs := [.ref 192]) rfl rfl rfl rfl rfl ?_
          refine m_raised  ?_
          show q_W L (d + 5) 108 q_m108 Q 236 [some (.ref 192), some (.int (nI a)), some (.int (nI b)), some (.int (nI 0)), some (.int x0), some (.int s0), some (.int e0), some (.int (g_pub e0))] [.int (g_pow s0 (I 197 (2 * a))), .ref 192] (n, I7, J, R) 0 0
          refine q_k 2 ?_
          show q_W L (d + 5) 108 q_m108 Q 240 [some (.ref 192), some (.int (nI a)), some (.int (nI b)), some (.int (nI 0)), some (.int x0), some (.int s0), some (.int e0), some (.int (g_pub e0))] [.int e0, .int x0, .int (g_pow s0 (I 197 (2 * a))), .ref 192] (n, I7, J, R) 0 0
          refine q_cs (as := [.int x0, .int e0]) (rs := [.int (g_pow s0 (I 197 (2 * a))), .ref 192]) rfl rfl rfl rfl rfl ?_
          refine m_raised  ?_
          show q_W L (d + 5) 108 q_m108 Q 243 [some (.ref 192), some (.int (nI a)), some (.int (nI b)), some (.int (nI 0)), some (.int x0), some (.int s0), some (.int e0), some (.int (g_pub e0))] [.int (g_pow x0 e0), .int (g_pow s0 (I 197 (2 * a))), .ref 192] (n, I7, J, R) 0 0
          refine q_k 2 ?_
          show q_W L (d + 5) 108 q_m108 Q 247 [some (.ref 192), some (.int (nI a)), some (.int (nI b)), some (.int (nI 0)), some (.int x0), some (.int s0), some (.int e0), some (.int (g_pub e0))] [.int e0, .int s0, .int (g_pow x0 e0), .int (g_pow s0 (I 197 (2 * a))), .ref 192] (n, I7, J, R) 0 0
          refine q_cs (as := [.int s0, .int e0]) (rs := [.int (g_pow x0 e0), .int (g_pow s0 (I 197 (2 * a))), .ref 192]) rfl rfl rfl rfl rfl ?_
          refine m_raised  ?_
          show q_W L (d + 5) 108 q_m108 Q 250 [some (.ref 192), some (.int (nI a)), some (.int (nI b)), some (.int (nI 0)), some (.int x0), some (.int s0), some (.int e0), some (.int (g_pub e0))] [.int (g_pow s0 e0), .int (g_pow x0 e0), .int (g_pow s0 (I 197 (2 * a))), .ref 192] (n, I7, J, R) 0 0
          refine q_k 1 ?_
          show q_W L (d + 5) 108 q_m108 Q 251 [some (.ref 192), some (.int (nI a)), some (.int (nI b)), some (.int (nI 0)), some (.int x0), some (.int s0), some (.int e0), some (.int (g_pub e0))] [.int (nI 0), .int (g_pow s0 e0), .int (g_pow x0 e0), .int (g_pow s0 (I 197 (2 * a))), .ref 192] (n, I7, J, R) 0 0
          refine q_one rfl rfl ?_
          show (¬ (nI 0) = 0 → q_W L (d + 5) 108 q_m108 Q 258 [some (.ref 192), some (.int (nI a)), some (.int (nI b)), some (.int (nI 0)), some (.int x0), some (.int s0), some (.int e0), some (.int (g_pub e0))] [.int (g_pow s0 e0), .int (g_pow x0 e0), .int (g_pow s0 (I 197 (2 * a))), .ref 192] (n, I7, J, R) 0 0) ∧ ((nI 0) = 0 → q_W L (d + 5) 108 q_m108 Q 254 [some (.ref 192), some (.int (nI a)), some (.int (nI b)), some (.int (nI 0)), some (.int x0), some (.int s0), some (.int e0), some (.int (g_pub e0))] [.int (g_pow s0 e0), .int (g_pow x0 e0), .int (g_pow s0 (I 197 (2 * a))), .ref 192] (n, I7, J, R) 0 0)
          refine ⟨fun z => absurd (by decide) z, fun _ => ?_⟩
          refine q_k 3 ?_
          show q_W L (d + 5) 108 q_m108 Q 265 [some (.ref 192), some (.int (nI a)), some (.int (nI b)), some (.int (nI 0)), some (.int x0), some (.int s0), some (.int e0), some (.int (g_pub e0))] [.ref 192, .int (nI 0), .int (g_pow s0 e0), .int (g_pow x0 e0), .int (g_pow s0 (I 197 (2 * a))), .ref 192] (n, I7, J, R) 0 0
          refine q_gR (b := 197) rfl rfl (⟨Nat.lt_of_lt_of_le (by decide) hK.1, rfl⟩) (hK.2.1 192 4 197 rfl) ?_
          refine q_k 3 ?_
          show q_W L (d + 5) 108 q_m108 Q 271 [some (.ref 192), some (.int (nI a)), some (.int (nI b)), some (.int (nI 0)), some (.int x0), some (.int s0), some (.int e0), some (.int (g_pub e0))] [.int ((nI 2) * (nI a)), .ref 197, .int (nI 0), .int (g_pow s0 e0), .int (g_pow x0 e0), .int (g_pow s0 (I 197 (2 * a))), .ref 192] (n, I7, J, R) 0 0
          refine q_top (w := nI (2 * a)) (pk_mul _ _) ?_
          refine q_k 2 ?_
          show q_W L (d + 5) 108 q_m108 Q 273 [some (.ref 192), some (.int (nI a)), some (.int (nI b)), some (.int (nI 0)), some (.int x0), some (.int s0), some (.int e0), some (.int (g_pub e0))] [.int ((nI (2 * a)) + (nI 1)), .ref 197, .int (nI 0), .int (g_pow s0 e0), .int (g_pow x0 e0), .int (g_pow s0 (I 197 (2 * a))), .ref 192] (n, I7, J, R) 0 0
          refine q_top (w := nI (2 * a + 1)) (nI_add _ _) ?_
          refine q_ial (m := 2 * a + 1) rfl (⟨by decide, Nat.lt_of_lt_of_le (by decide) hK.1, rfl⟩) (by omega) (rfl) ?_
          refine q_top (w := I 197 (2 * a + 1)) (by rw [eI7, q_un (by decide), q_un (by decide), q_un (by decide), q_un (by decide), q_un (by decide), q_un (by decide), q_un (by decide), f6 197 (by decide), f5 197 (by decide) (by decide) (by decide) (by decide) (by decide) (by decide), f4 197 (by decide) (by decide) (by decide) (by decide) (by decide) (by decide), f3 197 (by decide) (by decide) (by decide) (by decide), hI2.2 197 (by decide), eI1, q_un (by decide)]) ?_
          refine q_k 2 ?_
          show q_W L (d + 5) 108 q_m108 Q 277 [some (.ref 192), some (.int (nI a)), some (.int (nI b)), some (.int (nI 0)), some (.int x0), some (.int s0), some (.int e0), some (.int (g_pub e0))] [.int (nI 0), .int x0, .int (I 197 (2 * a + 1)), .int (nI 0), .int (g_pow s0 e0), .int (g_pow x0 e0), .int (g_pow s0 (I 197 (2 * a))), .ref 192] (n, I7, J, R) 0 0
          refine q_cv (as := [.int (g_pow s0 (I 197 (2 * a))), .int (g_pow x0 e0), .int (g_pow s0 e0), .int (nI 0), .int (I 197 (2 * a + 1)), .int x0, .int (nI 0)]) (rs := []) rfl rfl rfl (⟨Nat.lt_of_lt_of_le (by decide) hK.1, rfl⟩) rfl rfl ?_
          refine m_agree (q_K0_to hK (by rw [eI7, q_un (by decide), q_un (by decide), q_un (by decide), q_un (by decide), q_un (by decide), q_un (by decide), q_un (by decide), f6 0 (by decide), f5 0 (by decide) (by decide) (by decide) (by decide) (by decide) (by decide), f4 0 (by decide) (by decide) (by decide) (by decide) (by decide) (by decide), f3 0 (by decide) (by decide) (by decide) (by decide), hI2.2 0 (by decide), eI1, q_un (by decide)]) (by rw [eI7, q_un (by decide), q_un (by decide), q_un (by decide), q_un (by decide), q_un (by decide), q_un (by decide), q_un (by decide), f6 1 (by decide), f5 1 (by decide) (by decide) (by decide) (by decide) (by decide) (by decide), f4 1 (by decide) (by decide) (by decide) (by decide) (by decide) (by decide), f3 1 (by decide) (by decide) (by decide) (by decide), hI2.2 1 (by decide), eI1, q_un (by decide)])) (fun I8 a8 g8 f8 => ?_)
          show q_W L (d + 5) 108 q_m108 Q 280 [some (.ref 192), some (.int (nI a)), some (.int (nI b)), some (.int (nI 0)), some (.int x0), some (.int s0), some (.int e0), some (.int (g_pub e0))] [] (n, I8, J, R) 0 0
          refine q_k 3 ?_
          show q_W L (d + 5) 108 q_m108 Q 284 [some (.ref 192), some (.int (nI a)), some (.int (nI b)), some (.int (nI 0)), some (.int x0), some (.int s0), some (.int e0), some (.int (g_pub e0))] [.ref 192, .int s0, .ref 192] (n, I8, J, R) 0 0
          refine q_gR (b := 207) rfl rfl (⟨Nat.lt_of_lt_of_le (by decide) hK.1, rfl⟩) (hK.2.1 192 14 207 rfl) ?_
          refine q_k 1 ?_
          show q_W L (d + 5) 108 q_m108 Q 288 [some (.ref 192), some (.int (nI a)), some (.int (nI b)), some (.int (nI 0)), some (.int x0), some (.int s0), some (.int e0), some (.int (g_pub e0))] [.int (nI 2), .ref 207, .int s0, .ref 192] (n, I8, J, R) 0 0
          refine q_ial (m := 2) rfl (⟨by decide, Nat.lt_of_lt_of_le (by decide) hK.1, rfl⟩) (by decide) (rfl) ?_
          refine q_top (w := w0) (by rw [g8 2 (by decide), eI7, q_usn (by decide), q_usn (by decide), q_usn (by decide), q_usn (by decide), q_usk]) ?_
          refine q_cs (as := [.int s0, .int w0]) (rs := [.ref 192]) rfl rfl rfl rfl rfl ?_
          refine m_raised  ?_
          show q_W L (d + 5) 108 q_m108 Q 292 [some (.ref 192), some (.int (nI a)), some (.int (nI b)), some (.int (nI 0)), some (.int x0), some (.int s0), some (.int e0), some (.int (g_pub e0))] [.int (g_pow s0 w0), .ref 192] (n, I8, J, R) 0 0
          refine q_k 1 ?_
          show q_W L (d + 5) 108 q_m108 Q 294 [some (.ref 192), some (.int (nI a)), some (.int (nI b)), some (.int (nI 0)), some (.int x0), some (.int s0), some (.int e0), some (.int (g_pub e0))] [.int (nI 22), .int (g_pow s0 w0), .ref 192] (n, I8, J, R) 0 0
          refine q_cv (as := [.int (g_pow s0 w0), .int (nI 22)]) (rs := []) rfl rfl rfl (⟨Nat.lt_of_lt_of_le (by decide) hK.1, rfl⟩) rfl rfl ?_
          refine m_step (q_K0_to hK (by rw [f8 0 (by decide) (by decide) (by decide) (by decide) (by decide), eI7, q_un (by decide), q_un (by decide), q_un (by decide), q_un (by decide), q_un (by decide), q_un (by decide), q_un (by decide), f6 0 (by decide), f5 0 (by decide) (by decide) (by decide) (by decide) (by decide) (by decide), f4 0 (by decide) (by decide) (by decide) (by decide) (by decide) (by decide), f3 0 (by decide) (by decide) (by decide) (by decide), hI2.2 0 (by decide), eI1, q_un (by decide)]) (by rw [f8 1 (by decide) (by decide) (by decide) (by decide) (by decide), eI7, q_un (by decide), q_un (by decide), q_un (by decide), q_un (by decide), q_un (by decide), q_un (by decide), q_un (by decide), f6 1 (by decide), f5 1 (by decide) (by decide) (by decide) (by decide) (by decide) (by decide), f4 1 (by decide) (by decide) (by decide) (by decide) (by decide) (by decide), f3 1 (by decide) (by decide) (by decide) (by decide), hI2.2 1 (by decide), eI1, q_un (by decide)])) (by decide) (by decide) (fun I9 a9 b9 g9 f9 => ?_)
          show q_W L (d + 5) 108 q_m108 Q 297 [some (.ref 192), some (.int (nI a)), some (.int (nI b)), some (.int (nI 0)), some (.int x0), some (.int s0), some (.int e0), some (.int (g_pub e0))] [] (n, I9, J, R) 0 0
          refine q_k 1 ?_
          show q_W L (d + 5) 108 q_m108 Q 298 [some (.ref 192), some (.int (nI a)), some (.int (nI b)), some (.int (nI 0)), some (.int x0), some (.int s0), some (.int e0), some (.int (g_pub e0))] [.ref 192] (n, I9, J, R) 0 0
          refine q_gR (b := 207) rfl rfl (⟨Nat.lt_of_lt_of_le (by decide) hK.1, rfl⟩) (hK.2.1 192 14 207 rfl) ?_
          refine q_k 2 ?_
          show q_W L (d + 5) 108 q_m108 Q 303 [some (.ref 192), some (.int (nI a)), some (.int (nI b)), some (.int (nI 0)), some (.int x0), some (.int s0), some (.int e0), some (.int (g_pub e0))] [.int (nI 1), .int (nI 4), .ref 207] (n, I9, J, R) 0 0
          refine q_ias (m := 4) rfl (⟨by decide, Nat.lt_of_lt_of_le (by decide) hK.1, rfl⟩) (by decide) (rfl) ?_
          obtain ⟨I10, eI10⟩ : ∃ zz9, zz9 = q_up I9 207 4 (nI 1) := ⟨_, rfl⟩
          rw [← eI10]
          refine q_k 4 ?_
          show q_W L (d + 5) 108 q_m108 Q 308 [some (.ref 192), some (.int (nI a)), some (.int (nI b)), some (.int (nI 0)), some (.int x0), some (.int s0), some (.int e0), some (.int (g_pub e0))] [.int ((nI 4) * (nI a)), .ref 192] (n, I10, J, R) 0 0
          refine q_top (w := nI (4 * a)) (pk_mul _ _) ?_
          refine q_k 2 ?_
          show q_W L (d + 5) 108 q_m108 Q 310 [some (.ref 192), some (.int (nI a)), some (.int (nI b)), some (.int (nI 0)), some (.int x0), some (.int s0), some (.int e0), some (.int (g_pub e0))] [.int ((nI (4 * a)) + (nI b)), .ref 192] (n, I10, J, R) 0 0
          refine q_top (w := nI (4 * a + b)) (nI_add _ _) ?_
          refine q_cv (as := [.int (nI (4 * a + b))]) (rs := []) rfl rfl rfl (⟨Nat.lt_of_lt_of_le (by decide) hK.1, rfl⟩) rfl rfl ?_
          refine m_comes (q_K0_to hK (by rw [eI10, q_un (by decide), f9 0 (by decide) (by decide) (by decide) (by decide), f8 0 (by decide) (by decide) (by decide) (by decide) (by decide), eI7, q_un (by decide), q_un (by decide), q_un (by decide), q_un (by decide), q_un (by decide), q_un (by decide), q_un (by decide), f6 0 (by decide), f5 0 (by decide) (by decide) (by decide) (by decide) (by decide) (by decide), f4 0 (by decide) (by decide) (by decide) (by decide) (by decide) (by decide), f3 0 (by decide) (by decide) (by decide) (by decide), hI2.2 0 (by decide), eI1, q_un (by decide)]) (by rw [eI10, q_un (by decide), f9 1 (by decide) (by decide) (by decide) (by decide), f8 1 (by decide) (by decide) (by decide) (by decide) (by decide), eI7, q_un (by decide), q_un (by decide), q_un (by decide), q_un (by decide), q_un (by decide), q_un (by decide), q_un (by decide), f6 1 (by decide), f5 1 (by decide) (by decide) (by decide) (by decide) (by decide) (by decide), f4 1 (by decide) (by decide) (by decide) (by decide) (by decide) (by decide), f3 1 (by decide) (by decide) (by decide) (by decide), hI2.2 1 (by decide), eI1, q_un (by decide)])) (by omega) (by rw [eI10, q_un (by decide), f9 206 (by decide) (by decide) (by decide) (by decide), f8 206 (by decide) (by decide) (by decide) (by decide) (by decide), eI7, q_un (by decide), q_un (by decide), q_un (by decide), q_un (by decide), q_un (by decide), q_un (by decide), q_un (by decide), f6 206 (by decide), f5 206 (by decide) (by decide) (by decide) (by decide) (by decide) (by decide), f4 206 (by decide) (by decide) (by decide) (by decide) (by decide) (by decide), f3 206 (by decide) (by decide) (by decide) (by decide), hI2.2 206 (by decide), eI1, q_un (by decide)]; exact hm) (hm3) (fun I11 m11 r11 f11 => ?_)
          show q_W L (d + 5) 108 q_m108 Q 313 [some (.ref 192), some (.int (nI a)), some (.int (nI b)), some (.int (nI 0)), some (.int x0), some (.int s0), some (.int e0), some (.int (g_pub e0))] [] (n, I11, J, R) 0 0
          refine q_k 1 ?_
          show q_W L (d + 5) 108 q_m108 Q 314 [some (.ref 192), some (.int (nI a)), some (.int (nI b)), some (.int (nI 0)), some (.int x0), some (.int s0), some (.int e0), some (.int (g_pub e0))] [.int (nI 0)] (n, I11, J, R) 0 0
          refine q_one rfl rfl ?_
          show Q (some (.int (nI 0))) (n, I11, J, R)
          have hgo : g_off b 0 I = nI 0 := by unfold g_off; rw [if_pos rfl]
          have hB : f_bg a b 0 m I = (nI 0, f_come (4 * a + b) m (s_beg e0 w0 s0 (nI 0) (g_agr (g_pow s0 (I 197 (2 * a))) (g_pow x0 e0) (g_pow s0 e0) (nI 0) (I 197 (2 * a + 1)) x0 (nI 0))) (f_draw a (f_draw a (f_off b 0 I)))) := by
            unfold f_bg
            rw [if_neg h108]
            unfold f_bg1 g_brt
            rw [hgo, if_pos (show nI 0 = (0 : Int32) from rfl)]
            rw [← ee0, ← ew0, ← es0, ← ex0]
          rw [hB] at hQ
          have hroot : ∀ i, i < 8 → I8 207 (14 + i) = (g_agr (g_pow s0 (I 197 (2 * a))) (g_pow x0 e0) (g_pow s0 e0) (nI 0) (I 197 (2 * a + 1)) x0 (nI 0)) i := fun i hi => by rw [a8 i hi]; rfl
          have hrow : ∀ i, i < 158 → I10 207 i = (s_beg e0 w0 s0 (nI 0) (g_agr (g_pow s0 (I 197 (2 * a))) (g_pow x0 e0) (g_pow s0 e0) (nI 0) (I 197 (2 * a + 1)) x0 (nI 0))) i := by
            intro i hi
            unfold s_beg
            rw [eI10]
            by_cases e4 : i = 4
            · subst e4; rw [q_usk, if_neg (by decide), if_neg (by decide), if_neg (by decide), if_neg (by decide), if_pos rfl]
            · rw [q_usn e4]
              by_cases c1 : 14 ≤ i ∧ i < 22
              · obtain ⟨j, rfl⟩ : ∃ j, i = 14 + j := ⟨i - 14, by omega⟩
                rw [b9 j (by omega), if_neg (by omega), if_neg (by omega), if_neg (by omega), if_neg (by omega), if_neg (by omega), if_neg (by omega), if_neg (by omega), if_neg (by omega), if_pos c1, show 14 + j - 14 = j by omega]
                exact g_mix_c hroot _ _ _ _ (by omega)
              · by_cases c2 : 22 ≤ i ∧ i < 30
                · obtain ⟨j, rfl⟩ : ∃ j, i = 22 + j := ⟨i - 22, by omega⟩
                  rw [a9 j (by omega), if_neg (by omega), if_neg (by omega), if_neg (by omega), if_neg (by omega), if_neg (by omega), if_neg (by omega), if_neg (by omega), if_neg (by omega), if_neg c1, if_pos c2, show 22 + j - 22 = j by omega]
                  exact g_mix_c hroot _ _ _ _ (by omega)
                · rw [g9 i (by omega) (by omega), g8 i (by omega), eI7]
                  by_cases e33 : i = 13
                  · subst e33; rw [q_usk, if_neg (by decide), if_neg (by decide), if_neg (by decide), if_neg (by decide), if_neg (by decide), if_neg (by decide), if_neg (by decide), if_pos rfl]
                  · rw [q_usn e33]
                    by_cases e32 : i = 12
                    · subst e32; rw [q_usk, if_neg (by decide), if_neg (by decide), if_neg (by decide), if_neg (by decide), if_neg (by decide), if_neg (by decide), if_pos rfl]
                    · rw [q_usn e32]
                      by_cases e30 : i = 10
                      · subst e30; rw [q_usk, if_neg (by decide), if_neg (by decide), if_neg (by decide), if_neg (by decide), if_neg (by decide), if_pos rfl]
                      · rw [q_usn e30]
                        by_cases e23 : i = 3
                        · subst e23; rw [q_usk, if_neg (by decide), if_neg (by decide), if_neg (by decide), if_pos rfl]
                        · rw [q_usn e23]
                          by_cases e22 : i = 2
                          · subst e22; rw [q_usk, if_neg (by decide), if_neg (by decide), if_pos rfl]
                          · rw [q_usn e22]
                            by_cases e21 : i = 1
                            · subst e21; rw [q_usk, if_neg (by decide), if_pos rfl]
                            · rw [q_usn e21]
                              by_cases e20 : i = 0
                              · subst e20; rw [q_usk, if_pos rfl]
                              · rw [q_usn e20]
                                rw [if_neg e20, if_neg e21, if_neg e22, if_neg e23, if_neg e4, if_neg e30, if_neg e32, if_neg e33, if_neg c1, if_neg c2]
                                exact h6' i (by omega)
          have hc5 : I5 196 = va_up (va_up (I 196) a (I 196 a + nI 1)) a (va_up (I 196) a (I 196 a + nI 1) a + nI 1) := by rw [c5, hc4]
          refine hQ I11 ⟨fun y hy1 hy2 => ?_, ?_⟩ (fun y hy => ?_)
          · show I11 y = (f_come (4 * a + b) m (s_beg e0 w0 s0 (nI 0) (g_agr (g_pow s0 (I 197 (2 * a))) (g_pow x0 e0) (g_pow s0 e0) (nI 0) (I 197 (2 * a + 1)) x0 (nI 0))) (f_draw a (f_draw a (f_off b 0 I)))) y
            by_cases e5 : y = 205
            · subst e5
              rw [r11]
              refine f_come_205 ?_ hrow
              rw [eI10, q_un (by decide), f9 205 (by decide) (by decide) (by decide) (by decide), f8 205 (by decide) (by decide) (by decide) (by decide) (by decide), eI7, q_un (by decide), q_un (by decide), q_un (by decide), q_un (by decide), q_un (by decide), q_un (by decide), q_un (by decide), f6 205 (by decide), f5 205 (by decide) (by decide) (by decide) (by decide) (by decide) (by decide), f4 205 (by decide) (by decide) (by decide) (by decide) (by decide) (by decide), f3 205 (by decide) (by decide) (by decide) (by decide), hI2.2 205 (by decide), eI1, q_un (by decide)]
              unfold f_draw
              rw [q_un (by decide), q_un (by decide), f_off_n (by decide) (by decide)]
            · by_cases e6 : y = 206
              · subst e6
                rw [m11, f_come_206, eI10, q_un (by decide), f9 206 (by decide) (by decide) (by decide) (by decide), f8 206 (by decide) (by decide) (by decide) (by decide) (by decide), eI7, q_un (by decide), q_un (by decide), q_un (by decide), q_un (by decide), q_un (by decide), q_un (by decide), q_un (by decide), f6 206 (by decide), f5 206 (by decide) (by decide) (by decide) (by decide) (by decide) (by decide), f4 206 (by decide) (by decide) (by decide) (by decide) (by decide) (by decide), f3 206 (by decide) (by decide) (by decide) (by decide), hI2.2 206 (by decide), eI1, q_un (by decide)]
                unfold f_draw
                rw [q_un (by decide), q_un (by decide), f_off_n (by decide) (by decide)]
              · rw [f11 y e5 e6, f_come_n e5 e6, eI10, q_un (by omega), f9 y (by omega) (by omega) (by omega) (by omega), f8 y (by omega) (by omega) (by omega) (by omega) (by omega), eI7, q_un (by omega), q_un (by omega), q_un (by omega), q_un (by omega), q_un (by omega), q_un (by omega), q_un (by omega), f6 y (by omega)]
                by_cases e9 : y = 196
                · subst e9
                  rw [hc5]
                  unfold f_draw
                  rw [q_us, q_us, f_off_n (by decide) (by decide)]
                · rw [f5 y (by omega) e9 (by omega) (by omega) (by omega) (by omega), f4 y (by omega) e9 (by omega) (by omega) (by omega) (by omega), f3 y (by omega) (by omega) (by omega) (by omega)]
                  unfold f_draw
                  rw [q_un e9, q_un e9]
                  by_cases e3 : y = 203
                  · subst e3; funext j; rw [hI2.1 j, f_off_203]
                  · rw [hI2.2 y e3, eI1]
                    by_cases e4 : y = 204
                    · subst e4; rw [q_us, f_off_204]
                    · rw [q_un e4, f_off_n e3 e4]
          · show I11 192 16 = (f_come (4 * a + b) m (s_beg e0 w0 s0 (nI 0) (g_agr (g_pow s0 (I 197 (2 * a))) (g_pow x0 e0) (g_pow s0 e0) (nI 0) (I 197 (2 * a + 1)) x0 (nI 0))) (f_draw a (f_draw a (f_off b 0 I)))) 192 16
            rw [f11 192 (by decide) (by decide), f_come_n (by decide) (by decide), eI10, q_un (by decide), f9 192 (by decide) (by decide) (by decide) (by decide), f8 192 (by decide) (by decide) (by decide) (by decide) (by decide), eI7, q_un (by decide), q_un (by decide), q_un (by decide), q_un (by decide), q_un (by decide), q_un (by decide), q_un (by decide), f6 192 (by decide), e5 16 (by decide) (by decide), e4 16 (by decide) (by decide), f3 192 (by decide) (by decide) (by decide) (by decide), hI2.2 192 (by decide), eI1, q_un (by decide)]
            unfold f_draw
            rw [q_un (by decide), q_un (by decide), f_off_n (by decide) (by decide)]
          · rw [f11 y (by omega) (by omega), eI10, q_un (by omega), f9 y (by omega) (by omega) (by omega) (by omega), f8 y (by omega) (by omega) (by omega) (by omega) (by omega), eI7, q_un (by omega), q_un (by omega), q_un (by omega), q_un (by omega), q_un (by omega), q_un (by omega), q_un (by omega), f6 y (by omega), f5 y (by omega) (by omega) (by omega) (by omega) (by omega) (by omega), f4 y (by omega) (by omega) (by omega) (by omega) (by omega) (by omega), f3 y (by omega) (by omega) (by omega) (by omega), hI2.2 y (by omega), eI1, q_un (by omega)]
        · skip
          refine q_k 1 ?_
          show q_W L (d + 5) 108 q_m108 Q 112 [some (.ref 192), some (.int (nI a)), some (.int (nI b)), some (.int (nI 0)), some (.int (nI 0)), none, none, none] [.int (nI 1)] (n, I3, J, R) 0 0
          refine q_one rfl rfl ?_
          show Q (some (.int (nI 1))) (n, I3, J, R)
          have hB : f_bg a b 0 m I = (nI 1, f_off b 0 I) := by unfold f_bg; rw [if_pos h108]
          rw [hB] at hQ
          refine hQ I3 ⟨fun y hy1 hy2 => ?_, ?_⟩ (fun y hy => ?_)
          · show I3 y = f_off b 0 I y
            rw [f3 y (by omega) (by omega) (by omega) (by omega)]
            by_cases e3 : y = 203
            · subst e3; funext j; rw [hI2.1 j, f_off_203]
            · rw [hI2.2 y e3, eI1]
              by_cases e4 : y = 204
              · subst e4; rw [q_us, f_off_204]
              · rw [q_un e4, f_off_n e3 e4]
          · show I3 192 16 = f_off b 0 I 192 16
            rw [f3 192 (by decide) (by decide) (by decide) (by decide), hI2.2 192 (by decide), eI1, q_un (by decide), f_off_n (by decide) (by decide)]
          · rw [f3 y (by omega) (by omega) (by omega) (by omega), hI2.2 y (by omega), eI1, q_un (by omega)]
      · intro y I2 hk hI2 ih
        show q_W L (d + 5) 108 q_m108 Q 60 [some (.ref 192), some (.int (nI a)), some (.int (nI b)), some (.int (nI 0)), some (.int (nI y)), none, none, none] [] (n, I2, J, R) 0 0
        refine q_k 2 ?_
        show q_W L (d + 5) 108 q_m108 Q 63 [some (.ref 192), some (.int (nI a)), some (.int (nI b)), some (.int (nI 0)), some (.int (nI y)), none, none, none] [.ref 192, .int (nI y)] (n, I2, J, R) 0 0
        refine q_gR (b := 204) rfl rfl (⟨Nat.lt_of_lt_of_le (by decide) hK.1, rfl⟩) (hK.2.1 192 11 204 rfl) ?_
        refine q_k 1 ?_
        show q_W L (d + 5) 108 q_m108 Q 67 [some (.ref 192), some (.int (nI a)), some (.int (nI b)), some (.int (nI 0)), some (.int (nI y)), none, none, none] [.int (nI b), .ref 204, .int (nI y)] (n, I2, J, R) 0 0
        refine q_ial (m := b) rfl (⟨by decide, Nat.lt_of_lt_of_le (by decide) hK.1, rfl⟩) (hb) (rfl) ?_
        refine q_top (w := nI 0) (by rw [hI2.2 204 (by decide), eI1, q_usk]) ?_
        refine q_one rfl rfl ?_
        show ((nI 0) ≤ (nI y) → q_W L (d + 5) 108 q_m108 Q 103 [some (.ref 192), some (.int (nI a)), some (.int (nI b)), some (.int (nI 0)), some (.int (nI y)), none, none, none] [] (n, I2, J, R) 0 0) ∧ (¬ (nI 0) ≤ (nI y) → q_W L (d + 5) 108 q_m108 Q 71 [some (.ref 192), some (.int (nI a)), some (.int (nI b)), some (.int (nI 0)), some (.int (nI y)), none, none, none] [] (n, I2, J, R) 0 0)
        refine ⟨fun z => absurd z (nI_ge hk (by omega)), fun _ => ?_⟩
        refine q_k 1 ?_
        show q_W L (d + 5) 108 q_m108 Q 72 [some (.ref 192), some (.int (nI a)), some (.int (nI b)), some (.int (nI 0)), some (.int (nI y)), none, none, none] [.ref 192] (n, I2, J, R) 0 0
        refine q_gR (b := 203) rfl rfl (⟨Nat.lt_of_lt_of_le (by decide) hK.1, rfl⟩) (hK.2.1 192 10 203 rfl) ?_
        refine q_k 3 ?_
        show q_W L (d + 5) 108 q_m108 Q 79 [some (.ref 192), some (.int (nI a)), some (.int (nI b)), some (.int (nI 0)), some (.int (nI y)), none, none, none] [.int ((nI 6) * (nI b)), .ref 203] (n, I2, J, R) 0 0
        refine q_top (w := nI (6 * b)) (pk_mul _ _) ?_
        refine q_k 2 ?_
        show q_W L (d + 5) 108 q_m108 Q 82 [some (.ref 192), some (.int (nI a)), some (.int (nI b)), some (.int (nI 0)), some (.int (nI y)), none, none, none] [.int ((nI (6 * b)) + (nI y)), .ref 203] (n, I2, J, R) 0 0
        refine q_top (w := nI (6 * b + y)) (nI_add _ _) ?_
        refine q_k 1 ?_
        show q_W L (d + 5) 108 q_m108 Q 83 [some (.ref 192), some (.int (nI a)), some (.int (nI b)), some (.int (nI 0)), some (.int (nI y)), none, none, none] [.ref 192, .int (nI (6 * b + y)), .ref 203] (n, I2, J, R) 0 0
        refine q_gR (b := 203) rfl rfl (⟨Nat.lt_of_lt_of_le (by decide) hK.1, rfl⟩) (hK.2.1 192 10 203 rfl) ?_
        refine q_k 3 ?_
        show q_W L (d + 5) 108 q_m108 Q 90 [some (.ref 192), some (.int (nI a)), some (.int (nI b)), some (.int (nI 0)), some (.int (nI y)), none, none, none] [.int ((nI 6) * (nI b)), .ref 203, .int (nI (6 * b + y)), .ref 203] (n, I2, J, R) 0 0
        refine q_top (w := nI (6 * b)) (pk_mul _ _) ?_
        refine q_k 2 ?_
        show q_W L (d + 5) 108 q_m108 Q 93 [some (.ref 192), some (.int (nI a)), some (.int (nI b)), some (.int (nI 0)), some (.int (nI y)), none, none, none] [.int ((nI (6 * b)) + (nI y)), .ref 203, .int (nI (6 * b + y)), .ref 203] (n, I2, J, R) 0 0
        refine q_top (w := nI (6 * b + y)) (nI_add _ _) ?_
        refine q_k 2 ?_
        show q_W L (d + 5) 108 q_m108 Q 95 [some (.ref 192), some (.int (nI a)), some (.int (nI b)), some (.int (nI 0)), some (.int (nI y)), none, none, none] [.int ((nI (6 * b + y)) + (nI 1)), .ref 203, .int (nI (6 * b + y)), .ref 203] (n, I2, J, R) 0 0
        refine q_top (w := nI (6 * b + y + 1)) (nI_add _ _) ?_
        refine q_ial (m := 6 * b + y + 1) rfl (⟨by decide, Nat.lt_of_lt_of_le (by decide) hK.1, rfl⟩) (by omega) (rfl) ?_
        refine q_top (w := I 203 (6 * b + y + 1)) (by rw [hI2.1, if_neg (by omega)]) ?_
        refine q_ias (m := 6 * b + y) rfl (⟨by decide, Nat.lt_of_lt_of_le (by decide) hK.1, rfl⟩) (by omega) (rfl) ?_
        refine q_k 1 ?_
        show q_W L (d + 5) 108 q_m108 Q 100 [some (.ref 192), some (.int (nI a)), some (.int (nI b)), some (.int (nI 0)), some (.int ((nI y) + nI 1)), none, none, none] [] (n, q_up I2 203 (6 * b + y) (I 203 (6 * b + y + 1)), J, R) 0 0
        rw [show (nI y) + nI 1 = nI (y + 1) from nI_add _ _]
        refine q_k 1 ?_
        show q_W L (d + 5) 108 q_m108 Q 60 [some (.ref 192), some (.int (nI a)), some (.int (nI b)), some (.int (nI 0)), some (.int (nI (y + 1))), none, none, none] [] (n, q_up I2 203 (6 * b + y) (I 203 (6 * b + y + 1)), J, R) 0 0
        refine ih _ ⟨fun j => ?_, fun x hx => ?_⟩
        · by_cases e : j = 6 * b + y
          · subst e; rw [q_usk, if_pos (by omega)]
          · rw [q_usn e, hI2.1 j]
            by_cases c1 : 6 * b ≤ j ∧ j < 6 * b + y
            · rw [if_pos c1, if_pos (by omega)]
            · rw [if_neg c1, if_neg (by omega)]
        · rw [q_un hx]; exact hI2.2 x hx
      · exact ⟨fun j => by rw [if_neg (by omega), eI1, q_un (by decide)], fun _ _ => rfl⟩
    · skip
      show q_W L (d + 5) 108 q_m108 Q 11 [some (.ref 192), some (.int (nI a)), some (.int (nI b)), none, none, none, none, none] [] (n, I, J, R) 0 0
      refine q_k 1 ?_
      show q_W L (d + 5) 108 q_m108 Q 12 [some (.ref 192), some (.int (nI a)), some (.int (nI b)), none, none, none, none, none] [.ref 192] (n, I, J, R) 0 0
      refine q_gR (b := 204) rfl rfl (⟨Nat.lt_of_lt_of_le (by decide) hK.1, rfl⟩) (hK.2.1 192 11 204 rfl) ?_
      refine q_k 1 ?_
      show q_W L (d + 5) 108 q_m108 Q 16 [some (.ref 192), some (.int (nI a)), some (.int (nI b)), none, none, none, none, none] [.int (nI b), .ref 204] (n, I, J, R) 0 0
      refine q_ial (m := b) rfl (⟨by decide, Nat.lt_of_lt_of_le (by decide) hK.1, rfl⟩) (hb) (rfl) ?_
      refine q_top (w := nI f) (hf) ?_
      refine q_one rfl rfl ?_
      show ((nI f) ≤ 0 → q_W L (d + 5) 108 q_m108 Q 32 [some (.ref 192), some (.int (nI a)), some (.int (nI b)), none, none, none, none, none] [] (n, I, J, R) 0 0) ∧ (¬ (nI f) ≤ 0 → q_W L (d + 5) 108 q_m108 Q 20 [some (.ref 192), some (.int (nI a)), some (.int (nI b)), none, none, none, none, none] [] (n, I, J, R) 0 0)
      refine ⟨fun z => absurd z (nI_nle (by omega) (by omega)), fun _ => ?_⟩
      refine q_k 1 ?_
      show q_W L (d + 5) 108 q_m108 Q 21 [some (.ref 192), some (.int (nI a)), some (.int (nI b)), none, none, none, none, none] [.ref 192] (n, I, J, R) 0 0
      refine q_gR (b := 203) rfl rfl (⟨Nat.lt_of_lt_of_le (by decide) hK.1, rfl⟩) (hK.2.1 192 10 203 rfl) ?_
      refine q_k 3 ?_
      show q_W L (d + 5) 108 q_m108 Q 28 [some (.ref 192), some (.int (nI a)), some (.int (nI b)), none, none, none, none, none] [.int ((nI 6) * (nI b)), .ref 203] (n, I, J, R) 0 0
      refine q_top (w := nI (6 * b)) (pk_mul _ _) ?_
      refine q_ial (m := 6 * b) rfl (⟨by decide, Nat.lt_of_lt_of_le (by decide) hK.1, rfl⟩) (by omega) (rfl) ?_
      refine q_k 2 ?_
      show q_W L (d + 5) 108 q_m108 Q 34 [some (.ref 192), some (.int (nI a)), some (.int (nI b)), some (.int (I 203 (6 * b))), none, none, none, none] [] (n, I, J, R) 0 0
      obtain ⟨o0, eo0⟩ : ∃ zz9, zz9 = I 203 (6 * b) := ⟨_, rfl⟩
      rw [← eo0]
      refine q_k 1 ?_
      show q_W L (d + 5) 108 q_m108 Q 35 [some (.ref 192), some (.int (nI a)), some (.int (nI b)), some (.int o0), none, none, none, none] [.ref 192] (n, I, J, R) 0 0
      refine q_gR (b := 204) rfl rfl (⟨Nat.lt_of_lt_of_le (by decide) hK.1, rfl⟩) (hK.2.1 192 11 204 rfl) ?_
      refine q_k 2 ?_
      show q_W L (d + 5) 108 q_m108 Q 40 [some (.ref 192), some (.int (nI a)), some (.int (nI b)), some (.int o0), none, none, none, none] [.int (nI b), .ref 204, .int (nI b), .ref 204] (n, I, J, R) 0 0
      refine q_ial (m := b) rfl (⟨by decide, Nat.lt_of_lt_of_le (by decide) hK.1, rfl⟩) (hb) (rfl) ?_
      refine q_top (w := nI f) (hf) ?_
      refine q_k 1 ?_
      show q_W L (d + 5) 108 q_m108 Q 42 [some (.ref 192), some (.int (nI a)), some (.int (nI b)), some (.int o0), none, none, none, none] [.ref 192, .int (nI f), .int (nI b), .ref 204] (n, I, J, R) 0 0
      refine q_gR (b := 204) rfl rfl (⟨Nat.lt_of_lt_of_le (by decide) hK.1, rfl⟩) (hK.2.1 192 11 204 rfl) ?_
      refine q_k 1 ?_
      show q_W L (d + 5) 108 q_m108 Q 46 [some (.ref 192), some (.int (nI a)), some (.int (nI b)), some (.int o0), none, none, none, none] [.int (nI b), .ref 204, .int (nI f), .int (nI b), .ref 204] (n, I, J, R) 0 0
      refine q_ial (m := b) rfl (⟨by decide, Nat.lt_of_lt_of_le (by decide) hK.1, rfl⟩) (hb) (rfl) ?_
      refine q_top (w := nI f) (hf) ?_
      refine q_one rfl rfl ?_
      show ((nI f) ≤ 0 → q_W L (d + 5) 108 q_m108 Q 54 [some (.ref 192), some (.int (nI a)), some (.int (nI b)), some (.int o0), none, none, none, none] [.int (nI f), .int (nI b), .ref 204] (n, I, J, R) 0 0) ∧ (¬ (nI f) ≤ 0 → q_W L (d + 5) 108 q_m108 Q 50 [some (.ref 192), some (.int (nI a)), some (.int (nI b)), some (.int o0), none, none, none, none] [.int (nI f), .int (nI b), .ref 204] (n, I, J, R) 0 0)
      refine ⟨fun z => absurd z (nI_nle (by omega) (by omega)), fun _ => ?_⟩
      refine q_k 3 ?_
      show q_W L (d + 5) 108 q_m108 Q 56 [some (.ref 192), some (.int (nI a)), some (.int (nI b)), some (.int o0), none, none, none, none] [.int ((nI f) - (nI 1)), .int (nI b), .ref 204] (n, I, J, R) 0 0
      refine q_top (w := nI (f - 1)) (pk_sub (by omega)) ?_
      refine q_ias (m := b) rfl (⟨by decide, Nat.lt_of_lt_of_le (by decide) hK.1, rfl⟩) (hb) (rfl) ?_
      obtain ⟨I1, eI1⟩ : ∃ zz9, zz9 = q_up I 204 b (nI (f - 1)) := ⟨_, rfl⟩
      rw [← eI1]
      refine q_k 2 ?_
      show q_W L (d + 5) 108 q_m108 Q 60 [some (.ref 192), some (.int (nI a)), some (.int (nI b)), some (.int o0), some (.int (nI 0)), none, none, none] [] (n, I1, J, R) 0 0
      refine q_loop (σ := q_I) (f - 1) (fun y I2 => (∀ j, I2 203 j = if 6 * b ≤ j ∧ j < 6 * b + y then I 203 (j + 1) else I 203 j) ∧ ∀ x, x ≠ 203 → I2 x = I1 x) (fun y I2 => q_W L (d + 5) 108 q_m108 Q 60 [some (.ref 192), some (.int (nI a)), some (.int (nI b)), some (.int o0), some (.int (nI y)), none, none, none] [] (n, I2, J, R) 0 0) ?_ ?_ 0 I1 (Nat.zero_le _) ?_
      · intro I2 hI2
        show q_W L (d + 5) 108 q_m108 Q 60 [some (.ref 192), some (.int (nI a)), some (.int (nI b)), some (.int o0), some (.int (nI (f - 1))), none, none, none] [] (n, I2, J, R) 0 0
        refine q_k 2 ?_
        show q_W L (d + 5) 108 q_m108 Q 63 [some (.ref 192), some (.int (nI a)), some (.int (nI b)), some (.int o0), some (.int (nI (f - 1))), none, none, none] [.ref 192, .int (nI (f - 1))] (n, I2, J, R) 0 0
        refine q_gR (b := 204) rfl rfl (⟨Nat.lt_of_lt_of_le (by decide) hK.1, rfl⟩) (hK.2.1 192 11 204 rfl) ?_
        refine q_k 1 ?_
        show q_W L (d + 5) 108 q_m108 Q 67 [some (.ref 192), some (.int (nI a)), some (.int (nI b)), some (.int o0), some (.int (nI (f - 1))), none, none, none] [.int (nI b), .ref 204, .int (nI (f - 1))] (n, I2, J, R) 0 0
        refine q_ial (m := b) rfl (⟨by decide, Nat.lt_of_lt_of_le (by decide) hK.1, rfl⟩) (hb) (rfl) ?_
        refine q_top (w := nI (f - 1)) (by rw [hI2.2 204 (by decide), eI1, q_usk]) ?_
        refine q_one rfl rfl ?_
        show ((nI (f - 1)) ≤ (nI (f - 1)) → q_W L (d + 5) 108 q_m108 Q 103 [some (.ref 192), some (.int (nI a)), some (.int (nI b)), some (.int o0), some (.int (nI (f - 1))), none, none, none] [] (n, I2, J, R) 0 0) ∧ (¬ (nI (f - 1)) ≤ (nI (f - 1)) → q_W L (d + 5) 108 q_m108 Q 71 [some (.ref 192), some (.int (nI a)), some (.int (nI b)), some (.int o0), some (.int (nI (f - 1))), none, none, none] [] (n, I2, J, R) 0 0)
        refine ⟨fun _ => ?_, fun z => absurd (nI_le (Nat.le_refl _) (by omega)) z⟩
        refine q_k 2 ?_
        show q_W L (d + 5) 108 q_m108 Q 105 [some (.ref 192), some (.int (nI a)), some (.int (nI b)), some (.int o0), some (.int (nI (f - 1))), none, none, none] [.int (nI b), .ref 192] (n, I2, J, R) 0 0
        refine q_cv (as := [.int (nI b)]) (rs := []) rfl rfl rfl (⟨Nat.lt_of_lt_of_le (by decide) hK.1, rfl⟩) rfl rfl ?_
        refine m_holds (q_K0_to hK (by rw [hI2.2 0 (by decide), eI1, q_un (by decide)]) (by rw [hI2.2 1 (by decide), eI1, q_un (by decide)])) (hb) (fun I3 f3 => ?_)
        refine q_top (w := g_holds (I 202 (4 * b)) (I 202 (4 * b + 1)) (I 202 (4 * b + 2)) (I 202 (4 * b + 3))) (by rw [hI2.2 202 (by decide), eI1, q_un (by decide)]) ?_
        show q_W L (d + 5) 108 q_m108 Q 108 [some (.ref 192), some (.int (nI a)), some (.int (nI b)), some (.int o0), some (.int (nI (f - 1))), none, none, none] [.int (g_holds (I 202 (4 * b)) (I 202 (4 * b + 1)) (I 202 (4 * b + 2)) (I 202 (4 * b + 3)))] (n, I3, J, R) 0 0
        refine q_one rfl rfl ?_
        show (¬ (g_holds (I 202 (4 * b)) (I 202 (4 * b + 1)) (I 202 (4 * b + 2)) (I 202 (4 * b + 3))) = 0 → q_W L (d + 5) 108 q_m108 Q 113 [some (.ref 192), some (.int (nI a)), some (.int (nI b)), some (.int o0), some (.int (nI (f - 1))), none, none, none] [] (n, I3, J, R) 0 0) ∧ ((g_holds (I 202 (4 * b)) (I 202 (4 * b + 1)) (I 202 (4 * b + 2)) (I 202 (4 * b + 3))) = 0 → q_W L (d + 5) 108 q_m108 Q 111 [some (.ref 192), some (.int (nI a)), some (.int (nI b)), some (.int o0), some (.int (nI (f - 1))), none, none, none] [] (n, I3, J, R) 0 0)
        refine ⟨fun h108 => ?_, fun h108 => ?_⟩
        · skip
          refine q_k 1 ?_
          show q_W L (d + 5) 108 q_m108 Q 114 [some (.ref 192), some (.int (nI a)), some (.int (nI b)), some (.int o0), some (.int (nI (f - 1))), none, none, none] [.ref 192] (n, I3, J, R) 0 0
          refine q_gR (b := 202) rfl rfl (⟨Nat.lt_of_lt_of_le (by decide) hK.1, rfl⟩) (hK.2.1 192 9 202 rfl) ?_
          refine q_k 3 ?_
          show q_W L (d + 5) 108 q_m108 Q 120 [some (.ref 192), some (.int (nI a)), some (.int (nI b)), some (.int o0), some (.int (nI (f - 1))), none, none, none] [.int ((nI 4) * (nI b)), .ref 202] (n, I3, J, R) 0 0
          refine q_top (w := nI (4 * b)) (pk_mul _ _) ?_
          refine q_ial (m := 4 * b) rfl (⟨by decide, Nat.lt_of_lt_of_le (by decide) hK.1, rfl⟩) (by omega) (rfl) ?_
          refine q_top (w := I 202 (4 * b)) (by rw [f3 202 (by decide) (by decide) (by decide) (by decide), hI2.2 202 (by decide), eI1, q_un (by decide)]) ?_
          refine q_k 1 ?_
          show q_W L (d + 5) 108 q_m108 Q 123 [some (.ref 192), some (.int (nI a)), some (.int (nI b)), some (.int o0), some (.int (I 202 (4 * b))), none, none, none] [] (n, I3, J, R) 0 0
          obtain ⟨x0, ex0⟩ : ∃ zz9, zz9 = I 202 (4 * b) := ⟨_, rfl⟩
          rw [← ex0]
          refine q_k 1 ?_
          show q_W L (d + 5) 108 q_m108 Q 124 [some (.ref 192), some (.int (nI a)), some (.int (nI b)), some (.int o0), some (.int x0), none, none, none] [.ref 192] (n, I3, J, R) 0 0
          refine q_gR (b := 202) rfl rfl (⟨Nat.lt_of_lt_of_le (by decide) hK.1, rfl⟩) (hK.2.1 192 9 202 rfl) ?_
          refine q_k 3 ?_
          show q_W L (d + 5) 108 q_m108 Q 130 [some (.ref 192), some (.int (nI a)), some (.int (nI b)), some (.int o0), some (.int x0), none, none, none] [.int ((nI 4) * (nI b)), .ref 202] (n, I3, J, R) 0 0
          refine q_top (w := nI (4 * b)) (pk_mul _ _) ?_
          refine q_k 2 ?_
          show q_W L (d + 5) 108 q_m108 Q 132 [some (.ref 192), some (.int (nI a)), some (.int (nI b)), some (.int o0), some (.int x0), none, none, none] [.int ((nI (4 * b)) + (nI 1)), .ref 202] (n, I3, J, R) 0 0
          refine q_top (w := nI (4 * b + 1)) (nI_add _ _) ?_
          refine q_ial (m := 4 * b + 1) rfl (⟨by decide, Nat.lt_of_lt_of_le (by decide) hK.1, rfl⟩) (by omega) (rfl) ?_
          refine q_top (w := I 202 (4 * b + 1)) (by rw [f3 202 (by decide) (by decide) (by decide) (by decide), hI2.2 202 (by decide), eI1, q_un (by decide)]) ?_
          refine q_k 1 ?_
          show q_W L (d + 5) 108 q_m108 Q 135 [some (.ref 192), some (.int (nI a)), some (.int (nI b)), some (.int o0), some (.int x0), some (.int (I 202 (4 * b + 1))), none, none] [] (n, I3, J, R) 0 0
          obtain ⟨s0, es0⟩ : ∃ zz9, zz9 = I 202 (4 * b + 1) := ⟨_, rfl⟩
          rw [← es0]
          refine q_k 2 ?_
          show q_W L (d + 5) 108 q_m108 Q 137 [some (.ref 192), some (.int (nI a)), some (.int (nI b)), some (.int o0), some (.int x0), some (.int s0), none, none] [.int (nI a), .ref 192] (n, I3, J, R) 0 0
          refine q_cv (as := [.int (nI a)]) (rs := []) rfl rfl rfl (⟨Nat.lt_of_lt_of_le (by decide) hK.1, rfl⟩) rfl rfl ?_
          refine m_draw (q_K0_to hK (by rw [f3 0 (by decide) (by decide) (by decide) (by decide), hI2.2 0 (by decide), eI1, q_un (by decide)]) (by rw [f3 1 (by decide) (by decide) (by decide) (by decide), hI2.2 1 (by decide), eI1, q_un (by decide)])) (ha) (fun I4 a4 b4 c4 f4 e4 => ?_)
          have hq4 : g_priv (I3 194 a) (I3 195 a) a (I3 196 a + nI 1) = g_nx I a := by unfold g_nx; rw [f3 194 (by decide) (by decide) (by decide) (by decide), hI2.2 194 (by decide), eI1, q_un (by decide), f3 195 (by decide) (by decide) (by decide) (by decide), hI2.2 195 (by decide), eI1, q_un (by decide), f3 196 (by decide) (by decide) (by decide) (by decide), hI2.2 196 (by decide), eI1, q_un (by decide)]
          rw [hq4] at a4 b4
          show q_W L (d + 5) 108 q_m108 Q 140 [some (.ref 192), some (.int (nI a)), some (.int (nI b)), some (.int o0), some (.int x0), some (.int s0), none, none] [] (n, I4, J, R) 0 0
          refine q_k 1 ?_
          show q_W L (d + 5) 108 q_m108 Q 141 [some (.ref 192), some (.int (nI a)), some (.int (nI b)), some (.int o0), some (.int x0), some (.int s0), none, none] [.ref 192] (n, I4, J, R) 0 0
          refine q_gI rfl rfl (⟨Nat.lt_of_lt_of_le (by decide) hK.1, rfl⟩) ?_
          refine q_top (w := g_nx I a) (a4) ?_
          refine q_k 1 ?_
          show q_W L (d + 5) 108 q_m108 Q 146 [some (.ref 192), some (.int (nI a)), some (.int (nI b)), some (.int o0), some (.int x0), some (.int s0), some (.int (g_nx I a)), none] [] (n, I4, J, R) 0 0
          obtain ⟨e0, ee0⟩ : ∃ zz9, zz9 = g_nx I a := ⟨_, rfl⟩
          rw [← ee0]
          refine q_k 1 ?_
          show q_W L (d + 5) 108 q_m108 Q 147 [some (.ref 192), some (.int (nI a)), some (.int (nI b)), some (.int o0), some (.int x0), some (.int s0), some (.int e0), none] [.ref 192] (n, I4, J, R) 0 0
          refine q_gI rfl rfl (⟨Nat.lt_of_lt_of_le (by decide) hK.1, rfl⟩) ?_
          refine q_top (w := g_pub e0) (by rw [b4, ee0]) ?_
          refine q_k 3 ?_
          show q_W L (d + 5) 108 q_m108 Q 154 [some (.ref 192), some (.int (nI a)), some (.int (nI b)), some (.int o0), some (.int x0), some (.int s0), some (.int e0), some (.int (g_pub e0))] [.int (nI a), .ref 192] (n, I4, J, R) 0 0
          refine q_cv (as := [.int (nI a)]) (rs := []) rfl rfl rfl (⟨Nat.lt_of_lt_of_le (by decide) hK.1, rfl⟩) rfl rfl ?_
          refine m_draw (q_K0_to hK (by rw [f4 0 (by decide) (by decide) (by decide) (by decide) (by decide) (by decide), f3 0 (by decide) (by decide) (by decide) (by decide), hI2.2 0 (by decide), eI1, q_un (by decide)]) (by rw [f4 1 (by decide) (by decide) (by decide) (by decide) (by decide) (by decide), f3 1 (by decide) (by decide) (by decide) (by decide), hI2.2 1 (by decide), eI1, q_un (by decide)])) (ha) (fun I5 a5 b5 c5 f5 e5 => ?_)
          have hc4 : I4 196 = va_up (I 196) a (I 196 a + nI 1) := by rw [c4, f3 196 (by decide) (by decide) (by decide) (by decide), hI2.2 196 (by decide), eI1, q_un (by decide)]
          have hq5 : g_priv (I4 194 a) (I4 195 a) a (I4 196 a + nI 1) = w0 := by
            rw [ew0, hc4, f4 194 (by decide) (by decide) (by decide) (by decide) (by decide) (by decide), f3 194 (by decide) (by decide) (by decide) (by decide), hI2.2 194 (by decide), eI1, q_un (by decide)]
            rw [f4 195 (by decide) (by decide) (by decide) (by decide) (by decide) (by decide), f3 195 (by decide) (by decide) (by decide) (by decide), hI2.2 195 (by decide), eI1, q_un (by decide)]
            unfold g_nx f_draw
            rw [q_un (by decide), q_un (by decide), q_us]
          rw [hq5] at a5 b5
          show q_W L (d + 5) 108 q_m108 Q 157 [some (.ref 192), some (.int (nI a)), some (.int (nI b)), some (.int o0), some (.int x0), some (.int s0), some (.int e0), some (.int (g_pub e0))] [] (n, I5, J, R) 0 0
          refine q_k 1 ?_
          show q_W L (d + 5) 108 q_m108 Q 158 [some (.ref 192), some (.int (nI a)), some (.int (nI b)), some (.int o0), some (.int x0), some (.int s0), some (.int e0), some (.int (g_pub e0))] [.ref 192] (n, I5, J, R) 0 0
          refine q_cv (as := []) (rs := []) rfl rfl rfl (⟨Nat.lt_of_lt_of_le (by decide) hK.1, rfl⟩) rfl rfl ?_
          refine m_clear (q_K0_to hK (by rw [f5 0 (by decide) (by decide) (by decide) (by decide) (by decide) (by decide), f4 0 (by decide) (by decide) (by decide) (by decide) (by decide) (by decide), f3 0 (by decide) (by decide) (by decide) (by decide), hI2.2 0 (by decide), eI1, q_un (by decide)]) (by rw [f5 1 (by decide) (by decide) (by decide) (by decide) (by decide) (by decide), f4 1 (by decide) (by decide) (by decide) (by decide) (by decide) (by decide), f3 1 (by decide) (by decide) (by decide) (by decide), hI2.2 1 (by decide), eI1, q_un (by decide)])) (fun I6 h6' f6 => ?_)
          show q_W L (d + 5) 108 q_m108 Q 161 [some (.ref 192), some (.int (nI a)), some (.int (nI b)), some (.int o0), some (.int x0), some (.int s0), some (.int e0), some (.int (g_pub e0))] [] (n, I6, J, R) 0 0
          refine q_k 1 ?_
          show q_W L (d + 5) 108 q_m108 Q 162 [some (.ref 192), some (.int (nI a)), some (.int (nI b)), some (.int o0), some (.int x0), some (.int s0), some (.int e0), some (.int (g_pub e0))] [.ref 192] (n, I6, J, R) 0 0
          refine q_gR (b := 207) rfl rfl (⟨Nat.lt_of_lt_of_le (by decide) hK.1, rfl⟩) (hK.2.1 192 14 207 rfl) ?_
          refine q_k 2 ?_
          show q_W L (d + 5) 108 q_m108 Q 168 [some (.ref 192), some (.int (nI a)), some (.int (nI b)), some (.int o0), some (.int x0), some (.int s0), some (.int e0), some (.int (g_pub e0))] [.int (g_pub e0), .int (nI 0), .ref 207] (n, I6, J, R) 0 0
          refine q_ias (m := 0) rfl (⟨by decide, Nat.lt_of_lt_of_le (by decide) hK.1, rfl⟩) (by decide) (rfl) ?_
          refine q_k 1 ?_
          show q_W L (d + 5) 108 q_m108 Q 170 [some (.ref 192), some (.int (nI a)), some (.int (nI b)), some (.int o0), some (.int x0), some (.int s0), some (.int e0), some (.int (g_pub e0))] [.ref 192] (n, q_up I6 207 0 (g_pub e0), J, R) 0 0
          refine q_gR (b := 207) rfl rfl (⟨Nat.lt_of_lt_of_le (by decide) hK.1, rfl⟩) (hK.2.1 192 14 207 rfl) ?_
          refine q_k 2 ?_
          show q_W L (d + 5) 108 q_m108 Q 176 [some (.ref 192), some (.int (nI a)), some (.int (nI b)), some (.int o0), some (.int x0), some (.int s0), some (.int e0), some (.int (g_pub e0))] [.int s0, .int (nI 1), .ref 207] (n, q_up I6 207 0 (g_pub e0), J, R) 0 0
          refine q_ias (m := 1) rfl (⟨by decide, Nat.lt_of_lt_of_le (by decide) hK.1, rfl⟩) (by decide) (rfl) ?_
          refine q_k 1 ?_
          show q_W L (d + 5) 108 q_m108 Q 178 [some (.ref 192), some (.int (nI a)), some (.int (nI b)), some (.int o0), some (.int x0), some (.int s0), some (.int e0), some (.int (g_pub e0))] [.ref 192] (n, q_up (q_up I6 207 0 (g_pub e0)) 207 1 s0, J, R) 0 0
          refine q_gR (b := 207) rfl rfl (⟨Nat.lt_of_lt_of_le (by decide) hK.1, rfl⟩) (hK.2.1 192 14 207 rfl) ?_
          refine q_k 2 ?_
          show q_W L (d + 5) 108 q_m108 Q 183 [some (.ref 192), some (.int (nI a)), some (.int (nI b)), some (.int o0), some (.int x0), some (.int s0), some (.int e0), some (.int (g_pub e0))] [.ref 192, .int (nI 2), .ref 207] (n, q_up (q_up I6 207 0 (g_pub e0)) 207 1 s0, J, R) 0 0
          refine q_gI rfl rfl (⟨Nat.lt_of_lt_of_le (by decide) hK.1, rfl⟩) ?_
          refine q_top (w := w0) (by rw [q_un (by decide), q_un (by decide), f6 192 (by decide)]; exact a5) ?_
          refine q_ias (m := 2) rfl (⟨by decide, Nat.lt_of_lt_of_le (by decide) hK.1, rfl⟩) (by decide) (rfl) ?_
          refine q_k 1 ?_
          show q_W L (d + 5) 108 q_m108 Q 188 [some (.ref 192), some (.int (nI a)), some (.int (nI b)), some (.int o0), some (.int x0), some (.int s0), some (.int e0), some (.int (g_pub e0))] [.ref 192] (n, q_up (q_up (q_up I6 207 0 (g_pub e0)) 207 1 s0) 207 2 w0, J, R) 0 0
          refine q_gR (b := 207) rfl rfl (⟨Nat.lt_of_lt_of_le (by decide) hK.1, rfl⟩) (hK.2.1 192 14 207 rfl) ?_
          refine q_k 2 ?_
          show q_W L (d + 5) 108 q_m108 Q 193 [some (.ref 192), some (.int (nI a)), some (.int (nI b)), some (.int o0), some (.int x0), some (.int s0), some (.int e0), some (.int (g_pub e0))] [.ref 192, .int (nI 3), .ref 207] (n, q_up (q_up (q_up I6 207 0 (g_pub e0)) 207 1 s0) 207 2 w0, J, R) 0 0
          refine q_gI rfl rfl (⟨Nat.lt_of_lt_of_le (by decide) hK.1, rfl⟩) ?_
          refine q_top (w := g_pub w0) (by rw [q_un (by decide), q_un (by decide), q_un (by decide), f6 192 (by decide)]; exact b5) ?_
          refine q_ias (m := 3) rfl (⟨by decide, Nat.lt_of_lt_of_le (by decide) hK.1, rfl⟩) (by decide) (rfl) ?_
          refine q_k 1 ?_
          show q_W L (d + 5) 108 q_m108 Q 198 [some (.ref 192), some (.int (nI a)), some (.int (nI b)), some (.int o0), some (.int x0), some (.int s0), some (.int e0), some (.int (g_pub e0))] [.ref 192] (n, q_up (q_up (q_up (q_up I6 207 0 (g_pub e0)) 207 1 s0) 207 2 w0) 207 3 (g_pub w0), J, R) 0 0
          refine q_gR (b := 207) rfl rfl (⟨Nat.lt_of_lt_of_le (by decide) hK.1, rfl⟩) (hK.2.1 192 14 207 rfl) ?_
          refine q_k 2 ?_
          show q_W L (d + 5) 108 q_m108 Q 204 [some (.ref 192), some (.int (nI a)), some (.int (nI b)), some (.int o0), some (.int x0), some (.int s0), some (.int e0), some (.int (g_pub e0))] [.int (nI 1), .int (nI 10), .ref 207] (n, q_up (q_up (q_up (q_up I6 207 0 (g_pub e0)) 207 1 s0) 207 2 w0) 207 3 (g_pub w0), J, R) 0 0
          refine q_ias (m := 10) rfl (⟨by decide, Nat.lt_of_lt_of_le (by decide) hK.1, rfl⟩) (by decide) (rfl) ?_
          refine q_k 1 ?_
          show q_W L (d + 5) 108 q_m108 Q 206 [some (.ref 192), some (.int (nI a)), some (.int (nI b)), some (.int o0), some (.int x0), some (.int s0), some (.int e0), some (.int (g_pub e0))] [.ref 192] (n, q_up (q_up (q_up (q_up (q_up I6 207 0 (g_pub e0)) 207 1 s0) 207 2 w0) 207 3 (g_pub w0)) 207 10 (nI 1), J, R) 0 0
          refine q_gR (b := 207) rfl rfl (⟨Nat.lt_of_lt_of_le (by decide) hK.1, rfl⟩) (hK.2.1 192 14 207 rfl) ?_
          refine q_k 2 ?_
          show q_W L (d + 5) 108 q_m108 Q 213 [some (.ref 192), some (.int (nI a)), some (.int (nI b)), some (.int o0), some (.int x0), some (.int s0), some (.int e0), some (.int (g_pub e0))] [.int s0, .int (nI 12), .ref 207] (n, q_up (q_up (q_up (q_up (q_up I6 207 0 (g_pub e0)) 207 1 s0) 207 2 w0) 207 3 (g_pub w0)) 207 10 (nI 1), J, R) 0 0
          refine q_ias (m := 12) rfl (⟨by decide, Nat.lt_of_lt_of_le (by decide) hK.1, rfl⟩) (by decide) (rfl) ?_
          refine q_k 1 ?_
          show q_W L (d + 5) 108 q_m108 Q 215 [some (.ref 192), some (.int (nI a)), some (.int (nI b)), some (.int o0), some (.int x0), some (.int s0), some (.int e0), some (.int (g_pub e0))] [.ref 192] (n, q_up (q_up (q_up (q_up (q_up (q_up I6 207 0 (g_pub e0)) 207 1 s0) 207 2 w0) 207 3 (g_pub w0)) 207 10 (nI 1)) 207 12 s0, J, R) 0 0
          refine q_gR (b := 207) rfl rfl (⟨Nat.lt_of_lt_of_le (by decide) hK.1, rfl⟩) (hK.2.1 192 14 207 rfl) ?_
          refine q_k 2 ?_
          show q_W L (d + 5) 108 q_m108 Q 221 [some (.ref 192), some (.int (nI a)), some (.int (nI b)), some (.int o0), some (.int x0), some (.int s0), some (.int e0), some (.int (g_pub e0))] [.int o0, .int (nI 13), .ref 207] (n, q_up (q_up (q_up (q_up (q_up (q_up I6 207 0 (g_pub e0)) 207 1 s0) 207 2 w0) 207 3 (g_pub w0)) 207 10 (nI 1)) 207 12 s0, J, R) 0 0
          refine q_ias (m := 13) rfl (⟨by decide, Nat.lt_of_lt_of_le (by decide) hK.1, rfl⟩) (by decide) (rfl) ?_
          obtain ⟨I7, eI7⟩ : ∃ zz9, zz9 = q_up (q_up (q_up (q_up (q_up (q_up (q_up I6 207 0 (g_pub e0)) 207 1 s0) 207 2 w0) 207 3 (g_pub w0)) 207 10 (nI 1)) 207 12 s0) 207 13 o0 := ⟨_, rfl⟩
          rw [← eI7]
          refine q_k 3 ?_
          show q_W L (d + 5) 108 q_m108 Q 226 [some (.ref 192), some (.int (nI a)), some (.int (nI b)), some (.int o0), some (.int x0), some (.int s0), some (.int e0), some (.int (g_pub e0))] [.ref 192, .int s0, .ref 192] (n, I7, J, R) 0 0
          refine q_gR (b := 197) rfl rfl (⟨Nat.lt_of_lt_of_le (by decide) hK.1, rfl⟩) (hK.2.1 192 4 197 rfl) ?_
          refine q_k 3 ?_
          show q_W L (d + 5) 108 q_m108 Q 232 [some (.ref 192), some (.int (nI a)), some (.int (nI b)), some (.int o0), some (.int x0), some (.int s0), some (.int e0), some (.int (g_pub e0))] [.int ((nI 2) * (nI a)), .ref 197, .int s0, .ref 192] (n, I7, J, R) 0 0
          refine q_top (w := nI (2 * a)) (pk_mul _ _) ?_
          refine q_ial (m := 2 * a) rfl (⟨by decide, Nat.lt_of_lt_of_le (by decide) hK.1, rfl⟩) (by omega) (rfl) ?_
          refine q_top (w := I 197 (2 * a)) (by rw [eI7, q_un (by decide), q_un (by decide), q_un (by decide), q_un (by decide), q_un (by decide), q_un (by decide), q_un (by decide), f6 197 (by decide), f5 197 (by decide) (by decide) (by decide) (by decide) (by decide) (by decide), f4 197 (by decide) (by decide) (by decide) (by decide) (by decide) (by decide), f3 197 (by decide) (by decide) (by decide) (by decide), hI2.2 197 (by decide), eI1, q_un (by decide)]) ?_
          refine q_cs (as := [.int s0, .int (I 197 (2 * a))]) (rs := [.ref 192]) rfl rfl rfl rfl rfl ?_
          refine m_raised  ?_
          show q_W L (d + 5) 108 q_m108 Q 236 [some (.ref 192), some (.int (nI a)), some (.int (nI b)), some (.int o0), some (.int x0), some (.int s0), some (.int e0), some (.int (g_pub e0))] [.int (g_pow s0 (I 197 (2 * a))), .ref 192] (n, I7, J, R) 0 0
          refine q_k 2 ?_
          show q_W L (d + 5) 108 q_m108 Q 240 [some (.ref 192), some (.int (nI a)), some (.int (nI b)), some (.int o0), some (.int x0), some (.int s0), some (.int e0), some (.int (g_pub e0))] [.int e0, .int x0, .int (g_pow s0 (I 197 (2 * a))), .ref 192] (n, I7, J, R) 0 0
          refine q_cs (as := [.int x0, .int e0]) (rs := [.int (g_pow s0 (I 197 (2 * a))), .ref 192]) rfl rfl rfl rfl rfl ?_
          refine m_raised  ?_
          show q_W L (d + 5) 108 q_m108 Q 243 [some (.ref 192), some (.int (nI a)), some (.int (nI b)), some (.int o0), some (.int x0), some (.int s0), some (.int e0), some (.int (g_pub e0))] [.int (g_pow x0 e0), .int (g_pow s0 (I 197 (2 * a))), .ref 192] (n, I7, J, R) 0 0
          refine q_k 2 ?_
          show q_W L (d + 5) 108 q_m108 Q 247 [some (.ref 192), some (.int (nI a)), some (.int (nI b)), some (.int o0), some (.int x0), some (.int s0), some (.int e0), some (.int (g_pub e0))] [.int e0, .int s0, .int (g_pow x0 e0), .int (g_pow s0 (I 197 (2 * a))), .ref 192] (n, I7, J, R) 0 0
          refine q_cs (as := [.int s0, .int e0]) (rs := [.int (g_pow x0 e0), .int (g_pow s0 (I 197 (2 * a))), .ref 192]) rfl rfl rfl rfl rfl ?_
          refine m_raised  ?_
          show q_W L (d + 5) 108 q_m108 Q 250 [some (.ref 192), some (.int (nI a)), some (.int (nI b)), some (.int o0), some (.int x0), some (.int s0), some (.int e0), some (.int (g_pub e0))] [.int (g_pow s0 e0), .int (g_pow x0 e0), .int (g_pow s0 (I 197 (2 * a))), .ref 192] (n, I7, J, R) 0 0
          refine q_k 1 ?_
          show q_W L (d + 5) 108 q_m108 Q 251 [some (.ref 192), some (.int (nI a)), some (.int (nI b)), some (.int o0), some (.int x0), some (.int s0), some (.int e0), some (.int (g_pub e0))] [.int o0, .int (g_pow s0 e0), .int (g_pow x0 e0), .int (g_pow s0 (I 197 (2 * a))), .ref 192] (n, I7, J, R) 0 0
          refine q_one rfl rfl ?_
          show (¬ o0 = 0 → q_W L (d + 5) 108 q_m108 Q 258 [some (.ref 192), some (.int (nI a)), some (.int (nI b)), some (.int o0), some (.int x0), some (.int s0), some (.int e0), some (.int (g_pub e0))] [.int (g_pow s0 e0), .int (g_pow x0 e0), .int (g_pow s0 (I 197 (2 * a))), .ref 192] (n, I7, J, R) 0 0) ∧ (o0 = 0 → q_W L (d + 5) 108 q_m108 Q 254 [some (.ref 192), some (.int (nI a)), some (.int (nI b)), some (.int o0), some (.int x0), some (.int s0), some (.int e0), some (.int (g_pub e0))] [.int (g_pow s0 e0), .int (g_pow x0 e0), .int (g_pow s0 (I 197 (2 * a))), .ref 192] (n, I7, J, R) 0 0)
          refine ⟨fun h251 => ?_, fun h251 => ?_⟩
          · skip
            refine q_k 2 ?_
            show q_W L (d + 5) 108 q_m108 Q 261 [some (.ref 192), some (.int (nI a)), some (.int (nI b)), some (.int o0), some (.int x0), some (.int s0), some (.int e0), some (.int (g_pub e0))] [.int e0, .int o0, .int (g_pow s0 e0), .int (g_pow x0 e0), .int (g_pow s0 (I 197 (2 * a))), .ref 192] (n, I7, J, R) 0 0
            refine q_cs (as := [.int o0, .int e0]) (rs := [.int (g_pow s0 e0), .int (g_pow x0 e0), .int (g_pow s0 (I 197 (2 * a))), .ref 192]) rfl rfl rfl rfl rfl ?_
            refine m_raised  ?_
            show q_W L (d + 5) 108 q_m108 Q 264 [some (.ref 192), some (.int (nI a)), some (.int (nI b)), some (.int o0), some (.int x0), some (.int s0), some (.int e0), some (.int (g_pub e0))] [.int (g_pow o0 e0), .int (g_pow s0 e0), .int (g_pow x0 e0), .int (g_pow s0 (I 197 (2 * a))), .ref 192] (n, I7, J, R) 0 0
            refine q_k 1 ?_
            show q_W L (d + 5) 108 q_m108 Q 265 [some (.ref 192), some (.int (nI a)), some (.int (nI b)), some (.int o0), some (.int x0), some (.int s0), some (.int e0), some (.int (g_pub e0))] [.ref 192, .int (g_pow o0 e0), .int (g_pow s0 e0), .int (g_pow x0 e0), .int (g_pow s0 (I 197 (2 * a))), .ref 192] (n, I7, J, R) 0 0
            refine q_gR (b := 197) rfl rfl (⟨Nat.lt_of_lt_of_le (by decide) hK.1, rfl⟩) (hK.2.1 192 4 197 rfl) ?_
            refine q_k 3 ?_
            show q_W L (d + 5) 108 q_m108 Q 271 [some (.ref 192), some (.int (nI a)), some (.int (nI b)), some (.int o0), some (.int x0), some (.int s0), some (.int e0), some (.int (g_pub e0))] [.int ((nI 2) * (nI a)), .ref 197, .int (g_pow o0 e0), .int (g_pow s0 e0), .int (g_pow x0 e0), .int (g_pow s0 (I 197 (2 * a))), .ref 192] (n, I7, J, R) 0 0
            refine q_top (w := nI (2 * a)) (pk_mul _ _) ?_
            refine q_k 2 ?_
            show q_W L (d + 5) 108 q_m108 Q 273 [some (.ref 192), some (.int (nI a)), some (.int (nI b)), some (.int o0), some (.int x0), some (.int s0), some (.int e0), some (.int (g_pub e0))] [.int ((nI (2 * a)) + (nI 1)), .ref 197, .int (g_pow o0 e0), .int (g_pow s0 e0), .int (g_pow x0 e0), .int (g_pow s0 (I 197 (2 * a))), .ref 192] (n, I7, J, R) 0 0
            refine q_top (w := nI (2 * a + 1)) (nI_add _ _) ?_
            refine q_ial (m := 2 * a + 1) rfl (⟨by decide, Nat.lt_of_lt_of_le (by decide) hK.1, rfl⟩) (by omega) (rfl) ?_
            refine q_top (w := I 197 (2 * a + 1)) (by rw [eI7, q_un (by decide), q_un (by decide), q_un (by decide), q_un (by decide), q_un (by decide), q_un (by decide), q_un (by decide), f6 197 (by decide), f5 197 (by decide) (by decide) (by decide) (by decide) (by decide) (by decide), f4 197 (by decide) (by decide) (by decide) (by decide) (by decide) (by decide), f3 197 (by decide) (by decide) (by decide) (by decide), hI2.2 197 (by decide), eI1, q_un (by decide)]) ?_
            refine q_k 2 ?_
            show q_W L (d + 5) 108 q_m108 Q 277 [some (.ref 192), some (.int (nI a)), some (.int (nI b)), some (.int o0), some (.int x0), some (.int s0), some (.int e0), some (.int (g_pub e0))] [.int o0, .int x0, .int (I 197 (2 * a + 1)), .int (g_pow o0 e0), .int (g_pow s0 e0), .int (g_pow x0 e0), .int (g_pow s0 (I 197 (2 * a))), .ref 192] (n, I7, J, R) 0 0
            refine q_cv (as := [.int (g_pow s0 (I 197 (2 * a))), .int (g_pow x0 e0), .int (g_pow s0 e0), .int (g_pow o0 e0), .int (I 197 (2 * a + 1)), .int x0, .int o0]) (rs := []) rfl rfl rfl (⟨Nat.lt_of_lt_of_le (by decide) hK.1, rfl⟩) rfl rfl ?_
            refine m_agree (q_K0_to hK (by rw [eI7, q_un (by decide), q_un (by decide), q_un (by decide), q_un (by decide), q_un (by decide), q_un (by decide), q_un (by decide), f6 0 (by decide), f5 0 (by decide) (by decide) (by decide) (by decide) (by decide) (by decide), f4 0 (by decide) (by decide) (by decide) (by decide) (by decide) (by decide), f3 0 (by decide) (by decide) (by decide) (by decide), hI2.2 0 (by decide), eI1, q_un (by decide)]) (by rw [eI7, q_un (by decide), q_un (by decide), q_un (by decide), q_un (by decide), q_un (by decide), q_un (by decide), q_un (by decide), f6 1 (by decide), f5 1 (by decide) (by decide) (by decide) (by decide) (by decide) (by decide), f4 1 (by decide) (by decide) (by decide) (by decide) (by decide) (by decide), f3 1 (by decide) (by decide) (by decide) (by decide), hI2.2 1 (by decide), eI1, q_un (by decide)])) (fun I8 a8 g8 f8 => ?_)
            show q_W L (d + 5) 108 q_m108 Q 280 [some (.ref 192), some (.int (nI a)), some (.int (nI b)), some (.int o0), some (.int x0), some (.int s0), some (.int e0), some (.int (g_pub e0))] [] (n, I8, J, R) 0 0
            refine q_k 3 ?_
            show q_W L (d + 5) 108 q_m108 Q 284 [some (.ref 192), some (.int (nI a)), some (.int (nI b)), some (.int o0), some (.int x0), some (.int s0), some (.int e0), some (.int (g_pub e0))] [.ref 192, .int s0, .ref 192] (n, I8, J, R) 0 0
            refine q_gR (b := 207) rfl rfl (⟨Nat.lt_of_lt_of_le (by decide) hK.1, rfl⟩) (hK.2.1 192 14 207 rfl) ?_
            refine q_k 1 ?_
            show q_W L (d + 5) 108 q_m108 Q 288 [some (.ref 192), some (.int (nI a)), some (.int (nI b)), some (.int o0), some (.int x0), some (.int s0), some (.int e0), some (.int (g_pub e0))] [.int (nI 2), .ref 207, .int s0, .ref 192] (n, I8, J, R) 0 0
            refine q_ial (m := 2) rfl (⟨by decide, Nat.lt_of_lt_of_le (by decide) hK.1, rfl⟩) (by decide) (rfl) ?_
            refine q_top (w := w0) (by rw [g8 2 (by decide), eI7, q_usn (by decide), q_usn (by decide), q_usn (by decide), q_usn (by decide), q_usk]) ?_
            refine q_cs (as := [.int s0, .int w0]) (rs := [.ref 192]) rfl rfl rfl rfl rfl ?_
            refine m_raised  ?_
            show q_W L (d + 5) 108 q_m108 Q 292 [some (.ref 192), some (.int (nI a)), some (.int (nI b)), some (.int o0), some (.int x0), some (.int s0), some (.int e0), some (.int (g_pub e0))] [.int (g_pow s0 w0), .ref 192] (n, I8, J, R) 0 0
            refine q_k 1 ?_
            show q_W L (d + 5) 108 q_m108 Q 294 [some (.ref 192), some (.int (nI a)), some (.int (nI b)), some (.int o0), some (.int x0), some (.int s0), some (.int e0), some (.int (g_pub e0))] [.int (nI 22), .int (g_pow s0 w0), .ref 192] (n, I8, J, R) 0 0
            refine q_cv (as := [.int (g_pow s0 w0), .int (nI 22)]) (rs := []) rfl rfl rfl (⟨Nat.lt_of_lt_of_le (by decide) hK.1, rfl⟩) rfl rfl ?_
            refine m_step (q_K0_to hK (by rw [f8 0 (by decide) (by decide) (by decide) (by decide) (by decide), eI7, q_un (by decide), q_un (by decide), q_un (by decide), q_un (by decide), q_un (by decide), q_un (by decide), q_un (by decide), f6 0 (by decide), f5 0 (by decide) (by decide) (by decide) (by decide) (by decide) (by decide), f4 0 (by decide) (by decide) (by decide) (by decide) (by decide) (by decide), f3 0 (by decide) (by decide) (by decide) (by decide), hI2.2 0 (by decide), eI1, q_un (by decide)]) (by rw [f8 1 (by decide) (by decide) (by decide) (by decide) (by decide), eI7, q_un (by decide), q_un (by decide), q_un (by decide), q_un (by decide), q_un (by decide), q_un (by decide), q_un (by decide), f6 1 (by decide), f5 1 (by decide) (by decide) (by decide) (by decide) (by decide) (by decide), f4 1 (by decide) (by decide) (by decide) (by decide) (by decide) (by decide), f3 1 (by decide) (by decide) (by decide) (by decide), hI2.2 1 (by decide), eI1, q_un (by decide)])) (by decide) (by decide) (fun I9 a9 b9 g9 f9 => ?_)
            show q_W L (d + 5) 108 q_m108 Q 297 [some (.ref 192), some (.int (nI a)), some (.int (nI b)), some (.int o0), some (.int x0), some (.int s0), some (.int e0), some (.int (g_pub e0))] [] (n, I9, J, R) 0 0
            refine q_k 1 ?_
            show q_W L (d + 5) 108 q_m108 Q 298 [some (.ref 192), some (.int (nI a)), some (.int (nI b)), some (.int o0), some (.int x0), some (.int s0), some (.int e0), some (.int (g_pub e0))] [.ref 192] (n, I9, J, R) 0 0
            refine q_gR (b := 207) rfl rfl (⟨Nat.lt_of_lt_of_le (by decide) hK.1, rfl⟩) (hK.2.1 192 14 207 rfl) ?_
            refine q_k 2 ?_
            show q_W L (d + 5) 108 q_m108 Q 303 [some (.ref 192), some (.int (nI a)), some (.int (nI b)), some (.int o0), some (.int x0), some (.int s0), some (.int e0), some (.int (g_pub e0))] [.int (nI 1), .int (nI 4), .ref 207] (n, I9, J, R) 0 0
            refine q_ias (m := 4) rfl (⟨by decide, Nat.lt_of_lt_of_le (by decide) hK.1, rfl⟩) (by decide) (rfl) ?_
            obtain ⟨I10, eI10⟩ : ∃ zz9, zz9 = q_up I9 207 4 (nI 1) := ⟨_, rfl⟩
            rw [← eI10]
            refine q_k 4 ?_
            show q_W L (d + 5) 108 q_m108 Q 308 [some (.ref 192), some (.int (nI a)), some (.int (nI b)), some (.int o0), some (.int x0), some (.int s0), some (.int e0), some (.int (g_pub e0))] [.int ((nI 4) * (nI a)), .ref 192] (n, I10, J, R) 0 0
            refine q_top (w := nI (4 * a)) (pk_mul _ _) ?_
            refine q_k 2 ?_
            show q_W L (d + 5) 108 q_m108 Q 310 [some (.ref 192), some (.int (nI a)), some (.int (nI b)), some (.int o0), some (.int x0), some (.int s0), some (.int e0), some (.int (g_pub e0))] [.int ((nI (4 * a)) + (nI b)), .ref 192] (n, I10, J, R) 0 0
            refine q_top (w := nI (4 * a + b)) (nI_add _ _) ?_
            refine q_cv (as := [.int (nI (4 * a + b))]) (rs := []) rfl rfl rfl (⟨Nat.lt_of_lt_of_le (by decide) hK.1, rfl⟩) rfl rfl ?_
            refine m_comes (q_K0_to hK (by rw [eI10, q_un (by decide), f9 0 (by decide) (by decide) (by decide) (by decide), f8 0 (by decide) (by decide) (by decide) (by decide) (by decide), eI7, q_un (by decide), q_un (by decide), q_un (by decide), q_un (by decide), q_un (by decide), q_un (by decide), q_un (by decide), f6 0 (by decide), f5 0 (by decide) (by decide) (by decide) (by decide) (by decide) (by decide), f4 0 (by decide) (by decide) (by decide) (by decide) (by decide) (by decide), f3 0 (by decide) (by decide) (by decide) (by decide), hI2.2 0 (by decide), eI1, q_un (by decide)]) (by rw [eI10, q_un (by decide), f9 1 (by decide) (by decide) (by decide) (by decide), f8 1 (by decide) (by decide) (by decide) (by decide) (by decide), eI7, q_un (by decide), q_un (by decide), q_un (by decide), q_un (by decide), q_un (by decide), q_un (by decide), q_un (by decide), f6 1 (by decide), f5 1 (by decide) (by decide) (by decide) (by decide) (by decide) (by decide), f4 1 (by decide) (by decide) (by decide) (by decide) (by decide) (by decide), f3 1 (by decide) (by decide) (by decide) (by decide), hI2.2 1 (by decide), eI1, q_un (by decide)])) (by omega) (by rw [eI10, q_un (by decide), f9 206 (by decide) (by decide) (by decide) (by decide), f8 206 (by decide) (by decide) (by decide) (by decide) (by decide), eI7, q_un (by decide), q_un (by decide), q_un (by decide), q_un (by decide), q_un (by decide), q_un (by decide), q_un (by decide), f6 206 (by decide), f5 206 (by decide) (by decide) (by decide) (by decide) (by decide) (by decide), f4 206 (by decide) (by decide) (by decide) (by decide) (by decide) (by decide), f3 206 (by decide) (by decide) (by decide) (by decide), hI2.2 206 (by decide), eI1, q_un (by decide)]; exact hm) (hm3) (fun I11 m11 r11 f11 => ?_)
            show q_W L (d + 5) 108 q_m108 Q 313 [some (.ref 192), some (.int (nI a)), some (.int (nI b)), some (.int o0), some (.int x0), some (.int s0), some (.int e0), some (.int (g_pub e0))] [] (n, I11, J, R) 0 0
            refine q_k 1 ?_
            show q_W L (d + 5) 108 q_m108 Q 314 [some (.ref 192), some (.int (nI a)), some (.int (nI b)), some (.int o0), some (.int x0), some (.int s0), some (.int e0), some (.int (g_pub e0))] [.int (nI 0)] (n, I11, J, R) 0 0
            refine q_one rfl rfl ?_
            show Q (some (.int (nI 0))) (n, I11, J, R)
            have hgo : g_off b f I = o0 := by unfold g_off; rw [if_neg (by omega), eo0]
            have hB : f_bg a b f m I = (nI 0, f_come (4 * a + b) m (s_beg e0 w0 s0 o0 (g_agr (g_pow s0 (I 197 (2 * a))) (g_pow x0 e0) (g_pow s0 e0) (g_pow o0 e0) (I 197 (2 * a + 1)) x0 o0)) (f_draw a (f_draw a (f_off b f I)))) := by
              unfold f_bg
              rw [if_neg h108]
              unfold f_bg1 g_brt
              rw [hgo, if_neg h251]
              rw [← ee0, ← ew0, ← es0, ← ex0]
            rw [hB] at hQ
            have hroot : ∀ i, i < 8 → I8 207 (14 + i) = (g_agr (g_pow s0 (I 197 (2 * a))) (g_pow x0 e0) (g_pow s0 e0) (g_pow o0 e0) (I 197 (2 * a + 1)) x0 o0) i := fun i hi => by rw [a8 i hi]; rfl
            have hrow : ∀ i, i < 158 → I10 207 i = (s_beg e0 w0 s0 o0 (g_agr (g_pow s0 (I 197 (2 * a))) (g_pow x0 e0) (g_pow s0 e0) (g_pow o0 e0) (I 197 (2 * a + 1)) x0 o0)) i := by
              intro i hi
              unfold s_beg
              rw [eI10]
              by_cases e4 : i = 4
              · subst e4; rw [q_usk, if_neg (by decide), if_neg (by decide), if_neg (by decide), if_neg (by decide), if_pos rfl]
              · rw [q_usn e4]
                by_cases c1 : 14 ≤ i ∧ i < 22
                · obtain ⟨j, rfl⟩ : ∃ j, i = 14 + j := ⟨i - 14, by omega⟩
                  rw [b9 j (by omega), if_neg (by omega), if_neg (by omega), if_neg (by omega), if_neg (by omega), if_neg (by omega), if_neg (by omega), if_neg (by omega), if_neg (by omega), if_pos c1, show 14 + j - 14 = j by omega]
                  exact g_mix_c hroot _ _ _ _ (by omega)
                · by_cases c2 : 22 ≤ i ∧ i < 30
                  · obtain ⟨j, rfl⟩ : ∃ j, i = 22 + j := ⟨i - 22, by omega⟩
                    rw [a9 j (by omega), if_neg (by omega), if_neg (by omega), if_neg (by omega), if_neg (by omega), if_neg (by omega), if_neg (by omega), if_neg (by omega), if_neg (by omega), if_neg c1, if_pos c2, show 22 + j - 22 = j by omega]
                    exact g_mix_c hroot _ _ _ _ (by omega)
                  · rw [g9 i (by omega) (by omega), g8 i (by omega), eI7]
                    by_cases e33 : i = 13
                    · subst e33; rw [q_usk, if_neg (by decide), if_neg (by decide), if_neg (by decide), if_neg (by decide), if_neg (by decide), if_neg (by decide), if_neg (by decide), if_pos rfl]
                    · rw [q_usn e33]
                      by_cases e32 : i = 12
                      · subst e32; rw [q_usk, if_neg (by decide), if_neg (by decide), if_neg (by decide), if_neg (by decide), if_neg (by decide), if_neg (by decide), if_pos rfl]
                      · rw [q_usn e32]
                        by_cases e30 : i = 10
                        · subst e30; rw [q_usk, if_neg (by decide), if_neg (by decide), if_neg (by decide), if_neg (by decide), if_neg (by decide), if_pos rfl]
                        · rw [q_usn e30]
                          by_cases e23 : i = 3
                          · subst e23; rw [q_usk, if_neg (by decide), if_neg (by decide), if_neg (by decide), if_pos rfl]
                          · rw [q_usn e23]
                            by_cases e22 : i = 2
                            · subst e22; rw [q_usk, if_neg (by decide), if_neg (by decide), if_pos rfl]
                            · rw [q_usn e22]
                              by_cases e21 : i = 1
                              · subst e21; rw [q_usk, if_neg (by decide), if_pos rfl]
                              · rw [q_usn e21]
                                by_cases e20 : i = 0
                                · subst e20; rw [q_usk, if_pos rfl]
                                · rw [q_usn e20]
                                  rw [if_neg e20, if_neg e21, if_neg e22, if_neg e23, if_neg e4, if_neg e30, if_neg e32, if_neg e33, if_neg c1, if_neg c2]
                                  exact h6' i (by omega)
            have hc5 : I5 196 = va_up (va_up (I 196) a (I 196 a + nI 1)) a (va_up (I 196) a (I 196 a + nI 1) a + nI 1) := by rw [c5, hc4]
            refine hQ I11 ⟨fun y hy1 hy2 => ?_, ?_⟩ (fun y hy => ?_)
            · show I11 y = (f_come (4 * a + b) m (s_beg e0 w0 s0 o0 (g_agr (g_pow s0 (I 197 (2 * a))) (g_pow x0 e0) (g_pow s0 e0) (g_pow o0 e0) (I 197 (2 * a + 1)) x0 o0)) (f_draw a (f_draw a (f_off b f I)))) y
              by_cases e5 : y = 205
              · subst e5
                rw [r11]
                refine f_come_205 ?_ hrow
                rw [eI10, q_un (by decide), f9 205 (by decide) (by decide) (by decide) (by decide), f8 205 (by decide) (by decide) (by decide) (by decide) (by decide), eI7, q_un (by decide), q_un (by decide), q_un (by decide), q_un (by decide), q_un (by decide), q_un (by decide), q_un (by decide), f6 205 (by decide), f5 205 (by decide) (by decide) (by decide) (by decide) (by decide) (by decide), f4 205 (by decide) (by decide) (by decide) (by decide) (by decide) (by decide), f3 205 (by decide) (by decide) (by decide) (by decide), hI2.2 205 (by decide), eI1, q_un (by decide)]
                unfold f_draw
                rw [q_un (by decide), q_un (by decide), f_off_n (by decide) (by decide)]
              · by_cases e6 : y = 206
                · subst e6
                  rw [m11, f_come_206, eI10, q_un (by decide), f9 206 (by decide) (by decide) (by decide) (by decide), f8 206 (by decide) (by decide) (by decide) (by decide) (by decide), eI7, q_un (by decide), q_un (by decide), q_un (by decide), q_un (by decide), q_un (by decide), q_un (by decide), q_un (by decide), f6 206 (by decide), f5 206 (by decide) (by decide) (by decide) (by decide) (by decide) (by decide), f4 206 (by decide) (by decide) (by decide) (by decide) (by decide) (by decide), f3 206 (by decide) (by decide) (by decide) (by decide), hI2.2 206 (by decide), eI1, q_un (by decide)]
                  unfold f_draw
                  rw [q_un (by decide), q_un (by decide), f_off_n (by decide) (by decide)]
                · rw [f11 y e5 e6, f_come_n e5 e6, eI10, q_un (by omega), f9 y (by omega) (by omega) (by omega) (by omega), f8 y (by omega) (by omega) (by omega) (by omega) (by omega), eI7, q_un (by omega), q_un (by omega), q_un (by omega), q_un (by omega), q_un (by omega), q_un (by omega), q_un (by omega), f6 y (by omega)]
                  by_cases e9 : y = 196
                  · subst e9
                    rw [hc5]
                    unfold f_draw
                    rw [q_us, q_us, f_off_n (by decide) (by decide)]
                  · rw [f5 y (by omega) e9 (by omega) (by omega) (by omega) (by omega), f4 y (by omega) e9 (by omega) (by omega) (by omega) (by omega), f3 y (by omega) (by omega) (by omega) (by omega)]
                    unfold f_draw
                    rw [q_un e9, q_un e9]
                    by_cases e3 : y = 203
                    · subst e3; funext j; rw [hI2.1 j, f_off_203]
                    · rw [hI2.2 y e3, eI1]
                      by_cases e4 : y = 204
                      · subst e4; rw [q_us, f_off_204]
                      · rw [q_un e4, f_off_n e3 e4]
            · show I11 192 16 = (f_come (4 * a + b) m (s_beg e0 w0 s0 o0 (g_agr (g_pow s0 (I 197 (2 * a))) (g_pow x0 e0) (g_pow s0 e0) (g_pow o0 e0) (I 197 (2 * a + 1)) x0 o0)) (f_draw a (f_draw a (f_off b f I)))) 192 16
              rw [f11 192 (by decide) (by decide), f_come_n (by decide) (by decide), eI10, q_un (by decide), f9 192 (by decide) (by decide) (by decide) (by decide), f8 192 (by decide) (by decide) (by decide) (by decide) (by decide), eI7, q_un (by decide), q_un (by decide), q_un (by decide), q_un (by decide), q_un (by decide), q_un (by decide), q_un (by decide), f6 192 (by decide), e5 16 (by decide) (by decide), e4 16 (by decide) (by decide), f3 192 (by decide) (by decide) (by decide) (by decide), hI2.2 192 (by decide), eI1, q_un (by decide)]
              unfold f_draw
              rw [q_un (by decide), q_un (by decide), f_off_n (by decide) (by decide)]
            · rw [f11 y (by omega) (by omega), eI10, q_un (by omega), f9 y (by omega) (by omega) (by omega) (by omega), f8 y (by omega) (by omega) (by omega) (by omega) (by omega), eI7, q_un (by omega), q_un (by omega), q_un (by omega), q_un (by omega), q_un (by omega), q_un (by omega), q_un (by omega), f6 y (by omega), f5 y (by omega) (by omega) (by omega) (by omega) (by omega) (by omega), f4 y (by omega) (by omega) (by omega) (by omega) (by omega) (by omega), f3 y (by omega) (by omega) (by omega) (by omega), hI2.2 y (by omega), eI1, q_un (by omega)]
          · skip
            refine q_k 3 ?_
            show q_W L (d + 5) 108 q_m108 Q 265 [some (.ref 192), some (.int (nI a)), some (.int (nI b)), some (.int o0), some (.int x0), some (.int s0), some (.int e0), some (.int (g_pub e0))] [.ref 192, .int (nI 0), .int (g_pow s0 e0), .int (g_pow x0 e0), .int (g_pow s0 (I 197 (2 * a))), .ref 192] (n, I7, J, R) 0 0
            refine q_gR (b := 197) rfl rfl (⟨Nat.lt_of_lt_of_le (by decide) hK.1, rfl⟩) (hK.2.1 192 4 197 rfl) ?_
            refine q_k 3 ?_
            show q_W L (d + 5) 108 q_m108 Q 271 [some (.ref 192), some (.int (nI a)), some (.int (nI b)), some (.int o0), some (.int x0), some (.int s0), some (.int e0), some (.int (g_pub e0))] [.int ((nI 2) * (nI a)), .ref 197, .int (nI 0), .int (g_pow s0 e0), .int (g_pow x0 e0), .int (g_pow s0 (I 197 (2 * a))), .ref 192] (n, I7, J, R) 0 0
            refine q_top (w := nI (2 * a)) (pk_mul _ _) ?_
            refine q_k 2 ?_
            show q_W L (d + 5) 108 q_m108 Q 273 [some (.ref 192), some (.int (nI a)), some (.int (nI b)), some (.int o0), some (.int x0), some (.int s0), some (.int e0), some (.int (g_pub e0))] [.int ((nI (2 * a)) + (nI 1)), .ref 197, .int (nI 0), .int (g_pow s0 e0), .int (g_pow x0 e0), .int (g_pow s0 (I 197 (2 * a))), .ref 192] (n, I7, J, R) 0 0
            refine q_top (w := nI (2 * a + 1)) (nI_add _ _) ?_
            refine q_ial (m := 2 * a + 1) rfl (⟨by decide, Nat.lt_of_lt_of_le (by decide) hK.1, rfl⟩) (by omega) (rfl) ?_
            refine q_top (w := I 197 (2 * a + 1)) (by rw [eI7, q_un (by decide), q_un (by decide), q_un (by decide), q_un (by decide), q_un (by decide), q_un (by decide), q_un (by decide), f6 197 (by decide), f5 197 (by decide) (by decide) (by decide) (by decide) (by decide) (by decide), f4 197 (by decide) (by decide) (by decide) (by decide) (by decide) (by decide), f3 197 (by decide) (by decide) (by decide) (by decide), hI2.2 197 (by decide), eI1, q_un (by decide)]) ?_
            refine q_k 2 ?_
            show q_W L (d + 5) 108 q_m108 Q 277 [some (.ref 192), some (.int (nI a)), some (.int (nI b)), some (.int o0), some (.int x0), some (.int s0), some (.int e0), some (.int (g_pub e0))] [.int o0, .int x0, .int (I 197 (2 * a + 1)), .int (nI 0), .int (g_pow s0 e0), .int (g_pow x0 e0), .int (g_pow s0 (I 197 (2 * a))), .ref 192] (n, I7, J, R) 0 0
            refine q_cv (as := [.int (g_pow s0 (I 197 (2 * a))), .int (g_pow x0 e0), .int (g_pow s0 e0), .int (nI 0), .int (I 197 (2 * a + 1)), .int x0, .int o0]) (rs := []) rfl rfl rfl (⟨Nat.lt_of_lt_of_le (by decide) hK.1, rfl⟩) rfl rfl ?_
            refine m_agree (q_K0_to hK (by rw [eI7, q_un (by decide), q_un (by decide), q_un (by decide), q_un (by decide), q_un (by decide), q_un (by decide), q_un (by decide), f6 0 (by decide), f5 0 (by decide) (by decide) (by decide) (by decide) (by decide) (by decide), f4 0 (by decide) (by decide) (by decide) (by decide) (by decide) (by decide), f3 0 (by decide) (by decide) (by decide) (by decide), hI2.2 0 (by decide), eI1, q_un (by decide)]) (by rw [eI7, q_un (by decide), q_un (by decide), q_un (by decide), q_un (by decide), q_un (by decide), q_un (by decide), q_un (by decide), f6 1 (by decide), f5 1 (by decide) (by decide) (by decide) (by decide) (by decide) (by decide), f4 1 (by decide) (by decide) (by decide) (by decide) (by decide) (by decide), f3 1 (by decide) (by decide) (by decide) (by decide), hI2.2 1 (by decide), eI1, q_un (by decide)])) (fun I8 a8 g8 f8 => ?_)
            show q_W L (d + 5) 108 q_m108 Q 280 [some (.ref 192), some (.int (nI a)), some (.int (nI b)), some (.int o0), some (.int x0), some (.int s0), some (.int e0), some (.int (g_pub e0))] [] (n, I8, J, R) 0 0
            refine q_k 3 ?_
            show q_W L (d + 5) 108 q_m108 Q 284 [some (.ref 192), some (.int (nI a)), some (.int (nI b)), some (.int o0), some (.int x0), some (.int s0), some (.int e0), some (.int (g_pub e0))] [.ref 192, .int s0, .ref 192] (n, I8, J, R) 0 0
            refine q_gR (b := 207) rfl rfl (⟨Nat.lt_of_lt_of_le (by decide) hK.1, rfl⟩) (hK.2.1 192 14 207 rfl) ?_
            refine q_k 1 ?_
            show q_W L (d + 5) 108 q_m108 Q 288 [some (.ref 192), some (.int (nI a)), some (.int (nI b)), some (.int o0), some (.int x0), some (.int s0), some (.int e0), some (.int (g_pub e0))] [.int (nI 2), .ref 207, .int s0, .ref 192] (n, I8, J, R) 0 0
            refine q_ial (m := 2) rfl (⟨by decide, Nat.lt_of_lt_of_le (by decide) hK.1, rfl⟩) (by decide) (rfl) ?_
            refine q_top (w := w0) (by rw [g8 2 (by decide), eI7, q_usn (by decide), q_usn (by decide), q_usn (by decide), q_usn (by decide), q_usk]) ?_
            refine q_cs (as := [.int s0, .int w0]) (rs := [.ref 192]) rfl rfl rfl rfl rfl ?_
            refine m_raised  ?_
            show q_W L (d + 5) 108 q_m108 Q 292 [some (.ref 192), some (.int (nI a)), some (.int (nI b)), some (.int o0), some (.int x0), some (.int s0), some (.int e0), some (.int (g_pub e0))] [.int (g_pow s0 w0), .ref 192] (n, I8, J, R) 0 0
            refine q_k 1 ?_
            show q_W L (d + 5) 108 q_m108 Q 294 [some (.ref 192), some (.int (nI a)), some (.int (nI b)), some (.int o0), some (.int x0), some (.int s0), some (.int e0), some (.int (g_pub e0))] [.int (nI 22), .int (g_pow s0 w0), .ref 192] (n, I8, J, R) 0 0
            refine q_cv (as := [.int (g_pow s0 w0), .int (nI 22)]) (rs := []) rfl rfl rfl (⟨Nat.lt_of_lt_of_le (by decide) hK.1, rfl⟩) rfl rfl ?_
            refine m_step (q_K0_to hK (by rw [f8 0 (by decide) (by decide) (by decide) (by decide) (by decide), eI7, q_un (by decide), q_un (by decide), q_un (by decide), q_un (by decide), q_un (by decide), q_un (by decide), q_un (by decide), f6 0 (by decide), f5 0 (by decide) (by decide) (by decide) (by decide) (by decide) (by decide), f4 0 (by decide) (by decide) (by decide) (by decide) (by decide) (by decide), f3 0 (by decide) (by decide) (by decide) (by decide), hI2.2 0 (by decide), eI1, q_un (by decide)]) (by rw [f8 1 (by decide) (by decide) (by decide) (by decide) (by decide), eI7, q_un (by decide), q_un (by decide), q_un (by decide), q_un (by decide), q_un (by decide), q_un (by decide), q_un (by decide), f6 1 (by decide), f5 1 (by decide) (by decide) (by decide) (by decide) (by decide) (by decide), f4 1 (by decide) (by decide) (by decide) (by decide) (by decide) (by decide), f3 1 (by decide) (by decide) (by decide) (by decide), hI2.2 1 (by decide), eI1, q_un (by decide)])) (by decide) (by decide) (fun I9 a9 b9 g9 f9 => ?_)
            show q_W L (d + 5) 108 q_m108 Q 297 [some (.ref 192), some (.int (nI a)), some (.int (nI b)), some (.int o0), some (.int x0), some (.int s0), some (.int e0), some (.int (g_pub e0))] [] (n, I9, J, R) 0 0
            refine q_k 1 ?_
            show q_W L (d + 5) 108 q_m108 Q 298 [some (.ref 192), some (.int (nI a)), some (.int (nI b)), some (.int o0), some (.int x0), some (.int s0), some (.int e0), some (.int (g_pub e0))] [.ref 192] (n, I9, J, R) 0 0
            refine q_gR (b := 207) rfl rfl (⟨Nat.lt_of_lt_of_le (by decide) hK.1, rfl⟩) (hK.2.1 192 14 207 rfl) ?_
            refine q_k 2 ?_
            show q_W L (d + 5) 108 q_m108 Q 303 [some (.ref 192), some (.int (nI a)), some (.int (nI b)), some (.int o0), some (.int x0), some (.int s0), some (.int e0), some (.int (g_pub e0))] [.int (nI 1), .int (nI 4), .ref 207] (n, I9, J, R) 0 0
            refine q_ias (m := 4) rfl (⟨by decide, Nat.lt_of_lt_of_le (by decide) hK.1, rfl⟩) (by decide) (rfl) ?_
            obtain ⟨I10, eI10⟩ : ∃ zz9, zz9 = q_up I9 207 4 (nI 1) := ⟨_, rfl⟩
            rw [← eI10]
            refine q_k 4 ?_
            show q_W L (d + 5) 108 q_m108 Q 308 [some (.ref 192), some (.int (nI a)), some (.int (nI b)), some (.int o0), some (.int x0), some (.int s0), some (.int e0), some (.int (g_pub e0))] [.int ((nI 4) * (nI a)), .ref 192] (n, I10, J, R) 0 0
            refine q_top (w := nI (4 * a)) (pk_mul _ _) ?_
            refine q_k 2 ?_
            show q_W L (d + 5) 108 q_m108 Q 310 [some (.ref 192), some (.int (nI a)), some (.int (nI b)), some (.int o0), some (.int x0), some (.int s0), some (.int e0), some (.int (g_pub e0))] [.int ((nI (4 * a)) + (nI b)), .ref 192] (n, I10, J, R) 0 0
            refine q_top (w := nI (4 * a + b)) (nI_add _ _) ?_
            refine q_cv (as := [.int (nI (4 * a + b))]) (rs := []) rfl rfl rfl (⟨Nat.lt_of_lt_of_le (by decide) hK.1, rfl⟩) rfl rfl ?_
            refine m_comes (q_K0_to hK (by rw [eI10, q_un (by decide), f9 0 (by decide) (by decide) (by decide) (by decide), f8 0 (by decide) (by decide) (by decide) (by decide) (by decide), eI7, q_un (by decide), q_un (by decide), q_un (by decide), q_un (by decide), q_un (by decide), q_un (by decide), q_un (by decide), f6 0 (by decide), f5 0 (by decide) (by decide) (by decide) (by decide) (by decide) (by decide), f4 0 (by decide) (by decide) (by decide) (by decide) (by decide) (by decide), f3 0 (by decide) (by decide) (by decide) (by decide), hI2.2 0 (by decide), eI1, q_un (by decide)]) (by rw [eI10, q_un (by decide), f9 1 (by decide) (by decide) (by decide) (by decide), f8 1 (by decide) (by decide) (by decide) (by decide) (by decide), eI7, q_un (by decide), q_un (by decide), q_un (by decide), q_un (by decide), q_un (by decide), q_un (by decide), q_un (by decide), f6 1 (by decide), f5 1 (by decide) (by decide) (by decide) (by decide) (by decide) (by decide), f4 1 (by decide) (by decide) (by decide) (by decide) (by decide) (by decide), f3 1 (by decide) (by decide) (by decide) (by decide), hI2.2 1 (by decide), eI1, q_un (by decide)])) (by omega) (by rw [eI10, q_un (by decide), f9 206 (by decide) (by decide) (by decide) (by decide), f8 206 (by decide) (by decide) (by decide) (by decide) (by decide), eI7, q_un (by decide), q_un (by decide), q_un (by decide), q_un (by decide), q_un (by decide), q_un (by decide), q_un (by decide), f6 206 (by decide), f5 206 (by decide) (by decide) (by decide) (by decide) (by decide) (by decide), f4 206 (by decide) (by decide) (by decide) (by decide) (by decide) (by decide), f3 206 (by decide) (by decide) (by decide) (by decide), hI2.2 206 (by decide), eI1, q_un (by decide)]; exact hm) (hm3) (fun I11 m11 r11 f11 => ?_)
            show q_W L (d + 5) 108 q_m108 Q 313 [some (.ref 192), some (.int (nI a)), some (.int (nI b)), some (.int o0), some (.int x0), some (.int s0), some (.int e0), some (.int (g_pub e0))] [] (n, I11, J, R) 0 0
            refine q_k 1 ?_
            show q_W L (d + 5) 108 q_m108 Q 314 [some (.ref 192), some (.int (nI a)), some (.int (nI b)), some (.int o0), some (.int x0), some (.int s0), some (.int e0), some (.int (g_pub e0))] [.int (nI 0)] (n, I11, J, R) 0 0
            refine q_one rfl rfl ?_
            show Q (some (.int (nI 0))) (n, I11, J, R)
            have hgo : g_off b f I = o0 := by unfold g_off; rw [if_neg (by omega), eo0]
            have hB : f_bg a b f m I = (nI 0, f_come (4 * a + b) m (s_beg e0 w0 s0 o0 (g_agr (g_pow s0 (I 197 (2 * a))) (g_pow x0 e0) (g_pow s0 e0) (nI 0) (I 197 (2 * a + 1)) x0 o0)) (f_draw a (f_draw a (f_off b f I)))) := by
              unfold f_bg
              rw [if_neg h108]
              unfold f_bg1 g_brt
              rw [hgo, if_pos h251]
              rw [← ee0, ← ew0, ← es0, ← ex0]
            rw [hB] at hQ
            have hroot : ∀ i, i < 8 → I8 207 (14 + i) = (g_agr (g_pow s0 (I 197 (2 * a))) (g_pow x0 e0) (g_pow s0 e0) (nI 0) (I 197 (2 * a + 1)) x0 o0) i := fun i hi => by rw [a8 i hi]; rfl
            have hrow : ∀ i, i < 158 → I10 207 i = (s_beg e0 w0 s0 o0 (g_agr (g_pow s0 (I 197 (2 * a))) (g_pow x0 e0) (g_pow s0 e0) (nI 0) (I 197 (2 * a + 1)) x0 o0)) i := by
              intro i hi
              unfold s_beg
              rw [eI10]
              by_cases e4 : i = 4
              · subst e4; rw [q_usk, if_neg (by decide), if_neg (by decide), if_neg (by decide), if_neg (by decide), if_pos rfl]
              · rw [q_usn e4]
                by_cases c1 : 14 ≤ i ∧ i < 22
                · obtain ⟨j, rfl⟩ : ∃ j, i = 14 + j := ⟨i - 14, by omega⟩
                  rw [b9 j (by omega), if_neg (by omega), if_neg (by omega), if_neg (by omega), if_neg (by omega), if_neg (by omega), if_neg (by omega), if_neg (by omega), if_neg (by omega), if_pos c1, show 14 + j - 14 = j by omega]
                  exact g_mix_c hroot _ _ _ _ (by omega)
                · by_cases c2 : 22 ≤ i ∧ i < 30
                  · obtain ⟨j, rfl⟩ : ∃ j, i = 22 + j := ⟨i - 22, by omega⟩
                    rw [a9 j (by omega), if_neg (by omega), if_neg (by omega), if_neg (by omega), if_neg (by omega), if_neg (by omega), if_neg (by omega), if_neg (by omega), if_neg (by omega), if_neg c1, if_pos c2, show 22 + j - 22 = j by omega]
                    exact g_mix_c hroot _ _ _ _ (by omega)
                  · rw [g9 i (by omega) (by omega), g8 i (by omega), eI7]
                    by_cases e33 : i = 13
                    · subst e33; rw [q_usk, if_neg (by decide), if_neg (by decide), if_neg (by decide), if_neg (by decide), if_neg (by decide), if_neg (by decide), if_neg (by decide), if_pos rfl]
                    · rw [q_usn e33]
                      by_cases e32 : i = 12
                      · subst e32; rw [q_usk, if_neg (by decide), if_neg (by decide), if_neg (by decide), if_neg (by decide), if_neg (by decide), if_neg (by decide), if_pos rfl]
                      · rw [q_usn e32]
                        by_cases e30 : i = 10
                        · subst e30; rw [q_usk, if_neg (by decide), if_neg (by decide), if_neg (by decide), if_neg (by decide), if_neg (by decide), if_pos rfl]
                        · rw [q_usn e30]
                          by_cases e23 : i = 3
                          · subst e23; rw [q_usk, if_neg (by decide), if_neg (by decide), if_neg (by decide), if_pos rfl]
                          · rw [q_usn e23]
                            by_cases e22 : i = 2
                            · subst e22; rw [q_usk, if_neg (by decide), if_neg (by decide), if_pos rfl]
                            · rw [q_usn e22]
                              by_cases e21 : i = 1
                              · subst e21; rw [q_usk, if_neg (by decide), if_pos rfl]
                              · rw [q_usn e21]
                                by_cases e20 : i = 0
                                · subst e20; rw [q_usk, if_pos rfl]
                                · rw [q_usn e20]
                                  rw [if_neg e20, if_neg e21, if_neg e22, if_neg e23, if_neg e4, if_neg e30, if_neg e32, if_neg e33, if_neg c1, if_neg c2]
                                  exact h6' i (by omega)
            have hc5 : I5 196 = va_up (va_up (I 196) a (I 196 a + nI 1)) a (va_up (I 196) a (I 196 a + nI 1) a + nI 1) := by rw [c5, hc4]
            refine hQ I11 ⟨fun y hy1 hy2 => ?_, ?_⟩ (fun y hy => ?_)
            · show I11 y = (f_come (4 * a + b) m (s_beg e0 w0 s0 o0 (g_agr (g_pow s0 (I 197 (2 * a))) (g_pow x0 e0) (g_pow s0 e0) (nI 0) (I 197 (2 * a + 1)) x0 o0)) (f_draw a (f_draw a (f_off b f I)))) y
              by_cases e5 : y = 205
              · subst e5
                rw [r11]
                refine f_come_205 ?_ hrow
                rw [eI10, q_un (by decide), f9 205 (by decide) (by decide) (by decide) (by decide), f8 205 (by decide) (by decide) (by decide) (by decide) (by decide), eI7, q_un (by decide), q_un (by decide), q_un (by decide), q_un (by decide), q_un (by decide), q_un (by decide), q_un (by decide), f6 205 (by decide), f5 205 (by decide) (by decide) (by decide) (by decide) (by decide) (by decide), f4 205 (by decide) (by decide) (by decide) (by decide) (by decide) (by decide), f3 205 (by decide) (by decide) (by decide) (by decide), hI2.2 205 (by decide), eI1, q_un (by decide)]
                unfold f_draw
                rw [q_un (by decide), q_un (by decide), f_off_n (by decide) (by decide)]
              · by_cases e6 : y = 206
                · subst e6
                  rw [m11, f_come_206, eI10, q_un (by decide), f9 206 (by decide) (by decide) (by decide) (by decide), f8 206 (by decide) (by decide) (by decide) (by decide) (by decide), eI7, q_un (by decide), q_un (by decide), q_un (by decide), q_un (by decide), q_un (by decide), q_un (by decide), q_un (by decide), f6 206 (by decide), f5 206 (by decide) (by decide) (by decide) (by decide) (by decide) (by decide), f4 206 (by decide) (by decide) (by decide) (by decide) (by decide) (by decide), f3 206 (by decide) (by decide) (by decide) (by decide), hI2.2 206 (by decide), eI1, q_un (by decide)]
                  unfold f_draw
                  rw [q_un (by decide), q_un (by decide), f_off_n (by decide) (by decide)]
                · rw [f11 y e5 e6, f_come_n e5 e6, eI10, q_un (by omega), f9 y (by omega) (by omega) (by omega) (by omega), f8 y (by omega) (by omega) (by omega) (by omega) (by omega), eI7, q_un (by omega), q_un (by omega), q_un (by omega), q_un (by omega), q_un (by omega), q_un (by omega), q_un (by omega), f6 y (by omega)]
                  by_cases e9 : y = 196
                  · subst e9
                    rw [hc5]
                    unfold f_draw
                    rw [q_us, q_us, f_off_n (by decide) (by decide)]
                  · rw [f5 y (by omega) e9 (by omega) (by omega) (by omega) (by omega), f4 y (by omega) e9 (by omega) (by omega) (by omega) (by omega), f3 y (by omega) (by omega) (by omega) (by omega)]
                    unfold f_draw
                    rw [q_un e9, q_un e9]
                    by_cases e3 : y = 203
                    · subst e3; funext j; rw [hI2.1 j, f_off_203]
                    · rw [hI2.2 y e3, eI1]
                      by_cases e4 : y = 204
                      · subst e4; rw [q_us, f_off_204]
                      · rw [q_un e4, f_off_n e3 e4]
            · show I11 192 16 = (f_come (4 * a + b) m (s_beg e0 w0 s0 o0 (g_agr (g_pow s0 (I 197 (2 * a))) (g_pow x0 e0) (g_pow s0 e0) (nI 0) (I 197 (2 * a + 1)) x0 o0)) (f_draw a (f_draw a (f_off b f I)))) 192 16
              rw [f11 192 (by decide) (by decide), f_come_n (by decide) (by decide), eI10, q_un (by decide), f9 192 (by decide) (by decide) (by decide) (by decide), f8 192 (by decide) (by decide) (by decide) (by decide) (by decide), eI7, q_un (by decide), q_un (by decide), q_un (by decide), q_un (by decide), q_un (by decide), q_un (by decide), q_un (by decide), f6 192 (by decide), e5 16 (by decide) (by decide), e4 16 (by decide) (by decide), f3 192 (by decide) (by decide) (by decide) (by decide), hI2.2 192 (by decide), eI1, q_un (by decide)]
              unfold f_draw
              rw [q_un (by decide), q_un (by decide), f_off_n (by decide) (by decide)]
            · rw [f11 y (by omega) (by omega), eI10, q_un (by omega), f9 y (by omega) (by omega) (by omega) (by omega), f8 y (by omega) (by omega) (by omega) (by omega) (by omega), eI7, q_un (by omega), q_un (by omega), q_un (by omega), q_un (by omega), q_un (by omega), q_un (by omega), q_un (by omega), f6 y (by omega), f5 y (by omega) (by omega) (by omega) (by omega) (by omega) (by omega), f4 y (by omega) (by omega) (by omega) (by omega) (by omega) (by omega), f3 y (by omega) (by omega) (by omega) (by omega), hI2.2 y (by omega), eI1, q_un (by omega)]
        · skip
          refine q_k 1 ?_
          show q_W L (d + 5) 108 q_m108 Q 112 [some (.ref 192), some (.int (nI a)), some (.int (nI b)), some (.int o0), some (.int (nI (f - 1))), none, none, none] [.int (nI 1)] (n, I3, J, R) 0 0
          refine q_one rfl rfl ?_
          show Q (some (.int (nI 1))) (n, I3, J, R)
          have hB : f_bg a b f m I = (nI 1, f_off b f I) := by unfold f_bg; rw [if_pos h108]
          rw [hB] at hQ
          refine hQ I3 ⟨fun y hy1 hy2 => ?_, ?_⟩ (fun y hy => ?_)
          · show I3 y = f_off b f I y
            rw [f3 y (by omega) (by omega) (by omega) (by omega)]
            by_cases e3 : y = 203
            · subst e3; funext j; rw [hI2.1 j, f_off_203]
            · rw [hI2.2 y e3, eI1]
              by_cases e4 : y = 204
              · subst e4; rw [q_us, f_off_204]
              · rw [q_un e4, f_off_n e3 e4]
          · show I3 192 16 = f_off b f I 192 16
            rw [f3 192 (by decide) (by decide) (by decide) (by decide), hI2.2 192 (by decide), eI1, q_un (by decide), f_off_n (by decide) (by decide)]
          · rw [f3 y (by omega) (by omega) (by omega) (by omega), hI2.2 y (by omega), eI1, q_un (by omega)]
      · intro y I2 hk hI2 ih
        show q_W L (d + 5) 108 q_m108 Q 60 [some (.ref 192), some (.int (nI a)), some (.int (nI b)), some (.int o0), some (.int (nI y)), none, none, none] [] (n, I2, J, R) 0 0
        refine q_k 2 ?_
        show q_W L (d + 5) 108 q_m108 Q 63 [some (.ref 192), some (.int (nI a)), some (.int (nI b)), some (.int o0), some (.int (nI y)), none, none, none] [.ref 192, .int (nI y)] (n, I2, J, R) 0 0
        refine q_gR (b := 204) rfl rfl (⟨Nat.lt_of_lt_of_le (by decide) hK.1, rfl⟩) (hK.2.1 192 11 204 rfl) ?_
        refine q_k 1 ?_
        show q_W L (d + 5) 108 q_m108 Q 67 [some (.ref 192), some (.int (nI a)), some (.int (nI b)), some (.int o0), some (.int (nI y)), none, none, none] [.int (nI b), .ref 204, .int (nI y)] (n, I2, J, R) 0 0
        refine q_ial (m := b) rfl (⟨by decide, Nat.lt_of_lt_of_le (by decide) hK.1, rfl⟩) (hb) (rfl) ?_
        refine q_top (w := nI (f - 1)) (by rw [hI2.2 204 (by decide), eI1, q_usk]) ?_
        refine q_one rfl rfl ?_
        show ((nI (f - 1)) ≤ (nI y) → q_W L (d + 5) 108 q_m108 Q 103 [some (.ref 192), some (.int (nI a)), some (.int (nI b)), some (.int o0), some (.int (nI y)), none, none, none] [] (n, I2, J, R) 0 0) ∧ (¬ (nI (f - 1)) ≤ (nI y) → q_W L (d + 5) 108 q_m108 Q 71 [some (.ref 192), some (.int (nI a)), some (.int (nI b)), some (.int o0), some (.int (nI y)), none, none, none] [] (n, I2, J, R) 0 0)
        refine ⟨fun z => absurd z (nI_ge hk (by omega)), fun _ => ?_⟩
        refine q_k 1 ?_
        show q_W L (d + 5) 108 q_m108 Q 72 [some (.ref 192), some (.int (nI a)), some (.int (nI b)), some (.int o0), some (.int (nI y)), none, none, none] [.ref 192] (n, I2, J, R) 0 0
        refine q_gR (b := 203) rfl rfl (⟨Nat.lt_of_lt_of_le (by decide) hK.1, rfl⟩) (hK.2.1 192 10 203 rfl) ?_
        refine q_k 3 ?_
        show q_W L (d + 5) 108 q_m108 Q 79 [some (.ref 192), some (.int (nI a)), some (.int (nI b)), some (.int o0), some (.int (nI y)), none, none, none] [.int ((nI 6) * (nI b)), .ref 203] (n, I2, J, R) 0 0
        refine q_top (w := nI (6 * b)) (pk_mul _ _) ?_
        refine q_k 2 ?_
        show q_W L (d + 5) 108 q_m108 Q 82 [some (.ref 192), some (.int (nI a)), some (.int (nI b)), some (.int o0), some (.int (nI y)), none, none, none] [.int ((nI (6 * b)) + (nI y)), .ref 203] (n, I2, J, R) 0 0
        refine q_top (w := nI (6 * b + y)) (nI_add _ _) ?_
        refine q_k 1 ?_
        show q_W L (d + 5) 108 q_m108 Q 83 [some (.ref 192), some (.int (nI a)), some (.int (nI b)), some (.int o0), some (.int (nI y)), none, none, none] [.ref 192, .int (nI (6 * b + y)), .ref 203] (n, I2, J, R) 0 0
        refine q_gR (b := 203) rfl rfl (⟨Nat.lt_of_lt_of_le (by decide) hK.1, rfl⟩) (hK.2.1 192 10 203 rfl) ?_
        refine q_k 3 ?_
        show q_W L (d + 5) 108 q_m108 Q 90 [some (.ref 192), some (.int (nI a)), some (.int (nI b)), some (.int o0), some (.int (nI y)), none, none, none] [.int ((nI 6) * (nI b)), .ref 203, .int (nI (6 * b + y)), .ref 203] (n, I2, J, R) 0 0
        refine q_top (w := nI (6 * b)) (pk_mul _ _) ?_
        refine q_k 2 ?_
        show q_W L (d + 5) 108 q_m108 Q 93 [some (.ref 192), some (.int (nI a)), some (.int (nI b)), some (.int o0), some (.int (nI y)), none, none, none] [.int ((nI (6 * b)) + (nI y)), .ref 203, .int (nI (6 * b + y)), .ref 203] (n, I2, J, R) 0 0
        refine q_top (w := nI (6 * b + y)) (nI_add _ _) ?_
        refine q_k 2 ?_
        show q_W L (d + 5) 108 q_m108 Q 95 [some (.ref 192), some (.int (nI a)), some (.int (nI b)), some (.int o0), some (.int (nI y)), none, none, none] [.int ((nI (6 * b + y)) + (nI 1)), .ref 203, .int (nI (6 * b + y)), .ref 203] (n, I2, J, R) 0 0
        refine q_top (w := nI (6 * b + y + 1)) (nI_add _ _) ?_
        refine q_ial (m := 6 * b + y + 1) rfl (⟨by decide, Nat.lt_of_lt_of_le (by decide) hK.1, rfl⟩) (by omega) (rfl) ?_
        refine q_top (w := I 203 (6 * b + y + 1)) (by rw [hI2.1, if_neg (by omega)]) ?_
        refine q_ias (m := 6 * b + y) rfl (⟨by decide, Nat.lt_of_lt_of_le (by decide) hK.1, rfl⟩) (by omega) (rfl) ?_
        refine q_k 1 ?_
        show q_W L (d + 5) 108 q_m108 Q 100 [some (.ref 192), some (.int (nI a)), some (.int (nI b)), some (.int o0), some (.int ((nI y) + nI 1)), none, none, none] [] (n, q_up I2 203 (6 * b + y) (I 203 (6 * b + y + 1)), J, R) 0 0
        rw [show (nI y) + nI 1 = nI (y + 1) from nI_add _ _]
        refine q_k 1 ?_
        show q_W L (d + 5) 108 q_m108 Q 60 [some (.ref 192), some (.int (nI a)), some (.int (nI b)), some (.int o0), some (.int (nI (y + 1))), none, none, none] [] (n, q_up I2 203 (6 * b + y) (I 203 (6 * b + y + 1)), J, R) 0 0
        refine ih _ ⟨fun j => ?_, fun x hx => ?_⟩
        · by_cases e : j = 6 * b + y
          · subst e; rw [q_usk, if_pos (by omega)]
          · rw [q_usn e, hI2.1 j]
            by_cases c1 : 6 * b ≤ j ∧ j < 6 * b + y
            · rw [if_pos c1, if_pos (by omega)]
            · rw [if_neg c1, if_neg (by omega)]
        · rw [q_un hx]; exact hI2.2 x hx
      · exact ⟨fun j => by rw [if_neg (by omega), eI1, q_un (by decide)], fun _ _ => rfl⟩
  · skip
    refine q_k 1 ?_
    show q_W L (d + 5) 108 q_m108 Q 10 [some (.ref 192), some (.int u), some (.int v), none, none, none, none, none] [.int (-1)] (n, I, J, R) 0 0
    refine q_one rfl rfl ?_
    show Q (some (.int (-1))) (n, I, J, R)
    simp only [f_begin, if_pos h6] at hQ
    exact hQ I (q_ms_rf I) (q_mf_rf I)
