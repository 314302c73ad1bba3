set_option maxHeartbeats 1000000 in
theorem m_register {L d n : Nat} {I : q_I} {J : q_L} {R : q_R} {Q : q_Q} {u : Int32} {z : Int64} (hK : q_K0 n I R) (hQ : ∀ I', q_ms I' (f_register u z I).2 → q_mf I' I → Q (some (.int (f_register u z I).1)) (n, I', J, R)) : q_Ex L (d + 6) 95 [.ref 192, .int u, .long z] (n, I, J, R) Q := by
  refine q_in (x := q_m95) rfl rfl ?_
  show q_W L (d + 5) 95 q_m95 Q 0 [some (.ref 192), some (.int u), some (.long z), none] [] (n, I, J, R) 0 0
  refine q_k 1 ?_
  show q_W L (d + 5) 95 q_m95 Q 1 [some (.ref 192), some (.int u), some (.long z), none] [.int u] (n, I, J, R) 0 0
  refine q_one rfl rfl ?_
  show (u < 0 → q_W L (d + 5) 95 q_m95 Q 18 [some (.ref 192), some (.int u), some (.long z), none] [] (n, I, J, R) 0 0) ∧ (¬ u < 0 → q_W L (d + 5) 95 q_m95 Q 4 [some (.ref 192), some (.int u), some (.long z), none] [] (n, I, J, R) 0 0)
  refine ⟨fun h1 => ?_, fun h1 => ?_⟩
  · skip
    refine q_k 1 ?_
    show q_W L (d + 5) 95 q_m95 Q 19 [some (.ref 192), some (.int u), some (.long z), none] [.int (nI 0)] (n, I, J, R) 0 0
    refine q_one rfl rfl ?_
    show q_bz (nI 0) ∧ Q (some (.int (nI 0))) (n, I, J, R)
    refine ⟨Or.inl rfl, ?_⟩
    simp only [f_register, if_pos h1] at hQ
    exact hQ I (q_ms_rf I) (q_mf_rf I)
  · skip
    refine q_k 2 ?_
    show q_W L (d + 5) 95 q_m95 Q 6 [some (.ref 192), some (.int u), some (.long z), none] [.int (nI 3), .int u] (n, I, J, R) 0 0
    refine q_one rfl rfl ?_
    show ((nI 3) < u → q_W L (d + 5) 95 q_m95 Q 18 [some (.ref 192), some (.int u), some (.long z), none] [] (n, I, J, R) 0 0) ∧ (¬ (nI 3) < u → q_W L (d + 5) 95 q_m95 Q 9 [some (.ref 192), some (.int u), some (.long z), none] [] (n, I, J, R) 0 0)
    refine ⟨fun h6 => ?_, fun h6 => ?_⟩
    · skip
      refine q_k 1 ?_
      show q_W L (d + 5) 95 q_m95 Q 19 [some (.ref 192), some (.int u), some (.long z), none] [.int (nI 0)] (n, I, J, R) 0 0
      refine q_one rfl rfl ?_
      show q_bz (nI 0) ∧ Q (some (.int (nI 0))) (n, I, J, R)
      refine ⟨Or.inl rfl, ?_⟩
      simp only [f_register, if_neg h1, if_pos h6] at hQ
      exact hQ I (q_ms_rf I) (q_mf_rf I)
    · skip
      obtain ⟨j, hj, rfl⟩ := g_lt4 h1 h6
      refine q_k 1 ?_
      show q_W L (d + 5) 95 q_m95 Q 10 [some (.ref 192), some (.int (nI j)), some (.long z), none] [.ref 192] (n, I, J, R) 0 0
      refine q_gR (b := 193) rfl rfl (⟨Nat.lt_of_lt_of_le (by decide) hK.1, rfl⟩) (hK.2.1 192 0 193 rfl) ?_
      refine q_k 1 ?_
      show q_W L (d + 5) 95 q_m95 Q 14 [some (.ref 192), some (.int (nI j)), some (.long z), none] [.int (nI j), .ref 193] (n, I, J, R) 0 0
      refine q_zal (m := j) rfl (⟨by decide, Nat.lt_of_lt_of_le (by decide) hK.1, rfl⟩) (hj) (rfl) ?_
      refine q_one rfl rfl ?_
      show ((I 193 j) = 0 → q_W L (d + 5) 95 q_m95 Q 20 [some (.ref 192), some (.int (nI j)), some (.long z), none] [] (n, I, J, R) 0 0) ∧ (¬ (I 193 j) = 0 → q_W L (d + 5) 95 q_m95 Q 18 [some (.ref 192), some (.int (nI j)), some (.long z), none] [] (n, I, J, R) 0 0)
      refine ⟨fun h15 => ?_, fun h15 => ?_⟩
      · skip
        refine q_k 1 ?_
        show q_W L (d + 5) 95 q_m95 Q 21 [some (.ref 192), some (.int (nI j)), some (.long z), none] [.ref 192] (n, I, J, R) 0 0
        refine q_gR (b := 193) rfl rfl (⟨Nat.lt_of_lt_of_le (by decide) hK.1, rfl⟩) (hK.2.1 192 0 193 rfl) ?_
        refine q_k 2 ?_
        show q_W L (d + 5) 95 q_m95 Q 26 [some (.ref 192), some (.int (nI j)), some (.long z), none] [.int (nI 1), .int (nI j), .ref 193] (n, I, J, R) 0 0
        refine q_zas (m := j) rfl (⟨by decide, Nat.lt_of_lt_of_le (by decide) hK.1, rfl⟩) (hj) rfl (Or.inr rfl) ?_
        refine q_k 1 ?_
        show q_W L (d + 5) 95 q_m95 Q 28 [some (.ref 192), some (.int (nI j)), some (.long z), none] [.ref 192] (n, q_up I 193 j (nI 1), J, R) 0 0
        refine q_gR (b := 194) rfl rfl (⟨Nat.lt_of_lt_of_le (by decide) hK.1, rfl⟩) (hK.2.1 192 1 194 rfl) ?_
        refine q_k 3 ?_
        show q_W L (d + 5) 95 q_m95 Q 34 [some (.ref 192), some (.int (nI j)), some (.long z), none] [.int ((z).toInt32), .int (nI j), .ref 194] (n, q_up I 193 j (nI 1), J, R) 0 0
        refine q_ias (m := j) rfl (⟨by decide, Nat.lt_of_lt_of_le (by decide) hK.1, rfl⟩) (hj) (rfl) ?_
        refine q_k 1 ?_
        show q_W L (d + 5) 95 q_m95 Q 36 [some (.ref 192), some (.int (nI j)), some (.long z), none] [.ref 192] (n, q_up (q_up I 193 j (nI 1)) 194 j ((z).toInt32), J, R) 0 0
        refine q_gR (b := 195) rfl rfl (⟨Nat.lt_of_lt_of_le (by decide) hK.1, rfl⟩) (hK.2.1 192 2 195 rfl) ?_
        refine q_k 5 ?_
        show q_W L (d + 5) 95 q_m95 Q 45 [some (.ref 192), some (.int (nI j)), some (.long z), none] [.int ((z >>> (((nI 32)).toInt64 &&& 63)).toInt32), .int (nI j), .ref 195] (n, q_up (q_up I 193 j (nI 1)) 194 j ((z).toInt32), J, R) 0 0
        refine q_top (w := g_up z) (rfl) ?_
        refine q_ias (m := j) rfl (⟨by decide, Nat.lt_of_lt_of_le (by decide) hK.1, rfl⟩) (hj) (rfl) ?_
        obtain ⟨I1, eI1⟩ : ∃ zz9, zz9 = q_up (q_up (q_up I 193 j (nI 1)) 194 j ((z).toInt32)) 195 j (g_up z) := ⟨_, rfl⟩
        rw [← eI1]
        refine q_k 2 ?_
        show q_W L (d + 5) 95 q_m95 Q 48 [some (.ref 192), some (.int (nI j)), some (.long z), none] [.int (nI j), .ref 192] (n, I1, J, R) 0 0
        refine q_cv (as := [.int (nI j)]) (rs := []) rfl rfl rfl (⟨Nat.lt_of_lt_of_le (by decide) hK.1, rfl⟩) rfl rfl ?_
        refine m_draw (q_K0_to hK (by rw [eI1, q_un (by decide), q_un (by decide), q_un (by decide)]) (by rw [eI1, q_un (by decide), q_un (by decide), q_un (by decide)])) (hj) (fun I2 a2 b2 c2 f2 e2 => ?_)
        show q_W L (d + 5) 95 q_m95 Q 51 [some (.ref 192), some (.int (nI j)), some (.long z), none] [] (n, I2, J, R) 0 0
        refine q_k 1 ?_
        show q_W L (d + 5) 95 q_m95 Q 52 [some (.ref 192), some (.int (nI j)), some (.long z), none] [.ref 192] (n, I2, J, R) 0 0
        refine q_gR (b := 197) rfl rfl (⟨Nat.lt_of_lt_of_le (by decide) hK.1, rfl⟩) (hK.2.1 192 4 197 rfl) ?_
        refine q_k 3 ?_
        show q_W L (d + 5) 95 q_m95 Q 58 [some (.ref 192), some (.int (nI j)), some (.long z), none] [.int ((nI 2) * (nI j)), .ref 197] (n, I2, J, R) 0 0
        refine q_top (w := nI (2 * j)) (pk_mul _ _) ?_
        refine q_k 1 ?_
        show q_W L (d + 5) 95 q_m95 Q 59 [some (.ref 192), some (.int (nI j)), some (.long z), none] [.ref 192, .int (nI (2 * j)), .ref 197] (n, I2, J, R) 0 0
        refine q_gI rfl rfl (⟨Nat.lt_of_lt_of_le (by decide) hK.1, rfl⟩) ?_
        refine q_top (w := g_nx I1 j) (a2) ?_
        refine q_ias (m := 2 * j) rfl (⟨by decide, Nat.lt_of_lt_of_le (by decide) hK.1, rfl⟩) (by omega) (rfl) ?_
        refine q_k 1 ?_
        show q_W L (d + 5) 95 q_m95 Q 64 [some (.ref 192), some (.int (nI j)), some (.long z), none] [.ref 192] (n, q_up I2 197 (2 * j) (g_nx I1 j), J, R) 0 0
        refine q_gR (b := 197) rfl rfl (⟨Nat.lt_of_lt_of_le (by decide) hK.1, rfl⟩) (hK.2.1 192 4 197 rfl) ?_
        refine q_k 3 ?_
        show q_W L (d + 5) 95 q_m95 Q 70 [some (.ref 192), some (.int (nI j)), some (.long z), none] [.int ((nI 2) * (nI j)), .ref 197] (n, q_up I2 197 (2 * j) (g_nx I1 j), J, R) 0 0
        refine q_top (w := nI (2 * j)) (pk_mul _ _) ?_
        refine q_k 2 ?_
        show q_W L (d + 5) 95 q_m95 Q 72 [some (.ref 192), some (.int (nI j)), some (.long z), none] [.int ((nI (2 * j)) + (nI 1)), .ref 197] (n, q_up I2 197 (2 * j) (g_nx I1 j), J, R) 0 0
        refine q_top (w := nI (2 * j + 1)) (nI_add _ _) ?_
        refine q_k 1 ?_
        show q_W L (d + 5) 95 q_m95 Q 73 [some (.ref 192), some (.int (nI j)), some (.long z), none] [.ref 192, .int (nI (2 * j + 1)), .ref 197] (n, q_up I2 197 (2 * j) (g_nx I1 j), J, R) 0 0
        refine q_gI rfl rfl (⟨Nat.lt_of_lt_of_le (by decide) hK.1, rfl⟩) ?_
        refine q_top (w := g_pub (g_nx I1 j)) (by rw [q_un (by decide)]; exact b2) ?_
        refine q_ias (m := 2 * j + 1) rfl (⟨by decide, Nat.lt_of_lt_of_le (by decide) hK.1, rfl⟩) (by omega) (rfl) ?_
        obtain ⟨I3, eI3⟩ : ∃ zz9, zz9 = q_up (q_up I2 197 (2 * j) (g_nx I1 j)) 197 (2 * j + 1) (g_pub (g_nx I1 j)) := ⟨_, rfl⟩
        rw [← eI3]
        refine q_k 2 ?_
        show q_W L (d + 5) 95 q_m95 Q 79 [some (.ref 192), some (.int (nI j)), some (.long z), none] [.int (nI j), .ref 192] (n, I3, J, R) 0 0
        refine q_cv (as := [.int (nI j)]) (rs := []) rfl rfl rfl (⟨Nat.lt_of_lt_of_le (by decide) hK.1, rfl⟩) rfl rfl ?_
        refine m_sign (q_K0_to hK (by rw [eI3, q_un (by decide), q_un (by decide), f2 0 (by decide) (by decide) (by decide) (by decide) (by decide) (by decide), eI1, q_un (by decide), q_un (by decide), q_un (by decide)]) (by rw [eI3, q_un (by decide), q_un (by decide), f2 1 (by decide) (by decide) (by decide) (by decide) (by decide) (by decide), eI1, q_un (by decide), q_un (by decide), q_un (by decide)])) (hj) (fun I4 s4 f4 e4 => ?_)
        show q_W L (d + 5) 95 q_m95 Q 82 [some (.ref 192), some (.int (nI j)), some (.long z), none] [] (n, I4, J, R) 0 0
        refine q_k 1 ?_
        show q_W L (d + 5) 95 q_m95 Q 83 [some (.ref 192), some (.int (nI j)), some (.long z), none] [.int (nI 1)] (n, I4, J, R) 0 0
        refine q_one rfl rfl ?_
        show q_bz (nI 1) ∧ Q (some (.int (nI 1))) (n, I4, J, R)
        refine ⟨Or.inr rfl, ?_⟩
        simp only [f_register, if_neg h1, if_neg h6, g_cl (show j < 10000 by omega), if_pos h15] at hQ
        have hfr : f_reg j z I = f_sign j (q_up (q_up (f_draw j I1) 197 (2 * j) (g_nx I1 j)) 197 (2 * j + 1) (g_pub (g_nx I1 j))) := by rw [eI1]; rfl
        rw [hfr] at hQ
        refine hQ I4 ⟨fun a ha hb => ?_, ?_⟩ (fun x hx => ?_)
        · rw [s4 a ha hb]
          refine f_sign_c (fun b hb1 hb2 => ?_) j a ha hb
          rw [eI3]
          by_cases e7 : b = 197
          · subst e7; rw [q_us, q_us, q_us, q_us, f2 197 (by decide) (by decide) (by decide) (by decide) (by decide) (by decide), show f_draw j I1 197 = I1 197 from q_un (by decide)]
          · rw [q_un e7, q_un e7, q_un e7, q_un e7]
            by_cases e6 : b = 196
            · subst e6; rw [c2]; exact q_us.symm
            · rw [f2 b (by omega) e6 (by omega) (by omega) (by omega) (by omega)]; exact (q_un e6).symm
        · rw [e4 16 (by decide) (by decide), eI3, q_un (by decide), q_un (by decide), e2 16 (by decide) (by decide), eI1, q_un (by decide), q_un (by decide), q_un (by decide)]
          rw [f_sign_n (by decide) (by decide) (by decide), q_un (by decide), q_un (by decide)]
          unfold f_draw
          rw [q_un (by decide), q_un (by decide), q_un (by decide), q_un (by decide)]
        · rw [f4 x (by omega) (by omega) (by omega) (by omega) (by omega) (by omega) (by omega) (by omega), eI3, q_un (by omega), q_un (by omega), f2 x (by omega) (by omega) (by omega) (by omega) (by omega) (by omega), eI1, q_un (by omega), q_un (by omega), q_un (by omega)]
      · skip
        refine q_k 1 ?_
        show q_W L (d + 5) 95 q_m95 Q 19 [some (.ref 192), some (.int (nI j)), some (.long z), none] [.int (nI 0)] (n, I, J, R) 0 0
        refine q_one rfl rfl ?_
        show q_bz (nI 0) ∧ Q (some (.int (nI 0))) (n, I, J, R)
        refine ⟨Or.inl rfl, ?_⟩
        simp only [f_register, if_neg h1, if_neg h6, g_cl (show j < 10000 by omega), if_neg h15] at hQ
        exact hQ I (q_ms_rf I) (q_mf_rf I)
theorem m_rotate {L d n : Nat} {I : q_I} {J : q_L} {R : q_R} {Q : q_Q} {u : Int32} (hK : q_K0 n I R) (hQ : ∀ I', q_ms I' (f_rotate u I).2 → q_mf I' I → Q (some (.int (f_rotate u I).1)) (n, I', J, R)) : q_Ex L (d + 6) 96 [.ref 192, .int u] (n, I, J, R) Q := by
  refine q_in (x := q_m96) rfl rfl ?_
  show q_W L (d + 5) 96 q_m96 Q 0 [some (.ref 192), some (.int u)] [] (n, I, J, R) 0 0
  refine q_k 2 ?_
  show q_W L (d + 5) 96 q_m96 Q 2 [some (.ref 192), some (.int u)] [.int u, .ref 192] (n, I, J, R) 0 0
  refine q_cv (as := [.int u]) (rs := []) rfl rfl rfl (⟨Nat.lt_of_lt_of_le (by decide) hK.1, rfl⟩) rfl rfl ?_
  refine m_known (hK) ?_
  show q_W L (d + 5) 96 q_m96 Q 5 [some (.ref 192), some (.int u)] [.int (g_kn (I 193) u)] (n, I, J, R) 0 0
  refine q_one rfl rfl ?_
  show (¬ (g_kn (I 193) u) = 0 → q_W L (d + 5) 96 q_m96 Q 10 [some (.ref 192), some (.int u)] [] (n, I, J, R) 0 0) ∧ ((g_kn (I 193) u) = 0 → q_W L (d + 5) 96 q_m96 Q 8 [some (.ref 192), some (.int u)] [] (n, I, J, R) 0 0)
  refine ⟨fun h5 => ?_, fun h5 => ?_⟩
  · skip
    obtain ⟨j, hj, rfl, hf, hk1⟩ := g_kn_1 h5
    refine q_k 1 ?_
    show q_W L (d + 5) 96 q_m96 Q 11 [some (.ref 192), some (.int (nI j))] [.ref 192] (n, I, J, R) 0 0
    refine q_gR (b := 199) rfl rfl (⟨Nat.lt_of_lt_of_le (by decide) hK.1, rfl⟩) (hK.2.1 192 6 199 rfl) ?_
    refine q_k 3 ?_
    show q_W L (d + 5) 96 q_m96 Q 17 [some (.ref 192), some (.int (nI j))] [.int ((nI 2) * (nI j)), .ref 199] (n, I, J, R) 0 0
    refine q_top (w := nI (2 * j)) (pk_mul _ _) ?_
    refine q_k 1 ?_
    show q_W L (d + 5) 96 q_m96 Q 18 [some (.ref 192), some (.int (nI j))] [.ref 192, .int (nI (2 * j)), .ref 199] (n, I, J, R) 0 0
    refine q_gR (b := 198) rfl rfl (⟨Nat.lt_of_lt_of_le (by decide) hK.1, rfl⟩) (hK.2.1 192 5 198 rfl) ?_
    refine q_k 3 ?_
    show q_W L (d + 5) 96 q_m96 Q 24 [some (.ref 192), some (.int (nI j))] [.int ((nI 2) * (nI j)), .ref 198, .int (nI (2 * j)), .ref 199] (n, I, J, R) 0 0
    refine q_top (w := nI (2 * j)) (pk_mul _ _) ?_
    refine q_ial (m := 2 * j) rfl (⟨by decide, Nat.lt_of_lt_of_le (by decide) hK.1, rfl⟩) (by omega) (rfl) ?_
    refine q_ias (m := 2 * j) rfl (⟨by decide, Nat.lt_of_lt_of_le (by decide) hK.1, rfl⟩) (by omega) (rfl) ?_
    refine q_k 1 ?_
    show q_W L (d + 5) 96 q_m96 Q 27 [some (.ref 192), some (.int (nI j))] [.ref 192] (n, q_up I 199 (2 * j) (I 198 (2 * j)), J, R) 0 0
    refine q_gR (b := 199) rfl rfl (⟨Nat.lt_of_lt_of_le (by decide) hK.1, rfl⟩) (hK.2.1 192 6 199 rfl) ?_
    refine q_k 3 ?_
    show q_W L (d + 5) 96 q_m96 Q 33 [some (.ref 192), some (.int (nI j))] [.int ((nI 2) * (nI j)), .ref 199] (n, q_up I 199 (2 * j) (I 198 (2 * j)), J, R) 0 0
    refine q_top (w := nI (2 * j)) (pk_mul _ _) ?_
    refine q_k 2 ?_
    show q_W L (d + 5) 96 q_m96 Q 35 [some (.ref 192), some (.int (nI j))] [.int ((nI (2 * j)) + (nI 1)), .ref 199] (n, q_up I 199 (2 * j) (I 198 (2 * j)), J, R) 0 0
    refine q_top (w := nI (2 * j + 1)) (nI_add _ _) ?_
    refine q_k 1 ?_
    show q_W L (d + 5) 96 q_m96 Q 36 [some (.ref 192), some (.int (nI j))] [.ref 192, .int (nI (2 * j + 1)), .ref 199] (n, q_up I 199 (2 * j) (I 198 (2 * j)), J, R) 0 0
    refine q_gR (b := 198) rfl rfl (⟨Nat.lt_of_lt_of_le (by decide) hK.1, rfl⟩) (hK.2.1 192 5 198 rfl) ?_
    refine q_k 3 ?_
    show q_W L (d + 5) 96 q_m96 Q 42 [some (.ref 192), some (.int (nI j))] [.int ((nI 2) * (nI j)), .ref 198, .int (nI (2 * j + 1)), .ref 199] (n, q_up I 199 (2 * j) (I 198 (2 * j)), J, R) 0 0
    refine q_top (w := nI (2 * j)) (pk_mul _ _) ?_
    refine q_k 2 ?_
    show q_W L (d + 5) 96 q_m96 Q 44 [some (.ref 192), some (.int (nI j))] [.int ((nI (2 * j)) + (nI 1)), .ref 198, .int (nI (2 * j + 1)), .ref 199] (n, q_up I 199 (2 * j) (I 198 (2 * j)), J, R) 0 0
    refine q_top (w := nI (2 * j + 1)) (nI_add _ _) ?_
    refine q_ial (m := 2 * j + 1) rfl (⟨by decide, Nat.lt_of_lt_of_le (by decide) hK.1, rfl⟩) (by omega) (rfl) ?_
    refine q_top (w := I 198 (2 * j + 1)) (by rw [q_un (by decide)]) ?_
    refine q_ias (m := 2 * j + 1) rfl (⟨by decide, Nat.lt_of_lt_of_le (by decide) hK.1, rfl⟩) (by omega) (rfl) ?_
    obtain ⟨I1, eI1⟩ : ∃ zz9, zz9 = q_up (q_up I 199 (2 * j) (I 198 (2 * j))) 199 (2 * j + 1) (I 198 (2 * j + 1)) := ⟨_, rfl⟩
    rw [← eI1]
    refine q_k 2 ?_
    show q_W L (d + 5) 96 q_m96 Q 48 [some (.ref 192), some (.int (nI j))] [.int (nI j), .ref 192] (n, I1, J, R) 0 0
    refine q_cv (as := [.int (nI j)]) (rs := []) rfl rfl rfl (⟨Nat.lt_of_lt_of_le (by decide) hK.1, rfl⟩) rfl rfl ?_
    refine m_sign (q_K0_to hK (by rw [eI1, q_un (by decide), q_un (by decide)]) (by rw [eI1, q_un (by decide), q_un (by decide)])) (hj) (fun I4 s4 f4 e4 => ?_)
    show q_W L (d + 5) 96 q_m96 Q 51 [some (.ref 192), some (.int (nI j))] [] (n, I4, J, R) 0 0
    refine q_k 1 ?_
    show q_W L (d + 5) 96 q_m96 Q 52 [some (.ref 192), some (.int (nI j))] [.int (nI 1)] (n, I4, J, R) 0 0
    refine q_one rfl rfl ?_
    show q_bz (nI 1) ∧ Q (some (.int (nI 1))) (n, I4, J, R)
    refine ⟨Or.inr rfl, ?_⟩
    simp only [f_rotate, if_neg h5, g_cl (show j < 10000 by omega)] at hQ
    refine hQ I4 ⟨fun a ha hb => ?_, ?_⟩ (fun x hx => ?_)
    · rw [s4 a ha hb, eI1]
    · rw [e4 16 (by decide) (by decide), eI1, f_sign_n (by decide) (by decide) (by decide)]
    · rw [f4 x (by omega) (by omega) (by omega) (by omega) (by omega) (by omega) (by omega) (by omega), eI1, q_un (by omega), q_un (by omega)]
  · skip
    refine q_k 1 ?_
    show q_W L (d + 5) 96 q_m96 Q 9 [some (.ref 192), some (.int u)] [.int (nI 0)] (n, I, J, R) 0 0
    refine q_one rfl rfl ?_
    show q_bz (nI 0) ∧ Q (some (.int (nI 0))) (n, I, J, R)
    refine ⟨Or.inl rfl, ?_⟩
    simp only [f_rotate, if_pos h5] at hQ
    exact hQ I (q_ms_rf I) (q_mf_rf I)
theorem m_spoil {L d n : Nat} {I : q_I} {J : q_L} {R : q_R} {Q : q_Q} {u w m : Int32} (hK : q_K0 n I R) (hQ : ∀ I', q_ms I' (f_spoil u w m I).2 → q_mf I' I → Q (some (.int (f_spoil u w m I).1)) (n, I', J, R)) : q_Ex L (d + 2) 98 [.ref 192, .int u, .int w, .int m] (n, I, J, R) Q := by
  refine q_in (x := q_m98) rfl rfl ?_
  show q_W L (d + 1) 98 q_m98 Q 0 [some (.ref 192), some (.int u), some (.int w), some (.int m)] [] (n, I, J, R) 0 0
  refine q_k 2 ?_
  show q_W L (d + 1) 98 q_m98 Q 2 [some (.ref 192), some (.int u), some (.int w), some (.int m)] [.int u, .ref 192] (n, I, J, R) 0 0
  refine q_cv (as := [.int u]) (rs := []) rfl rfl rfl (⟨Nat.lt_of_lt_of_le (by decide) hK.1, rfl⟩) rfl rfl ?_
  refine m_known (hK) ?_
  show q_W L (d + 1) 98 q_m98 Q 5 [some (.ref 192), some (.int u), some (.int w), some (.int m)] [.int (g_kn (I 193) u)] (n, I, J, R) 0 0
  refine q_one rfl rfl ?_
  show ((g_kn (I 193) u) = 0 → q_W L (d + 1) 98 q_m98 Q 17 [some (.ref 192), some (.int u), some (.int w), some (.int m)] [] (n, I, J, R) 0 0) ∧ (¬ (g_kn (I 193) u) = 0 → q_W L (d + 1) 98 q_m98 Q 8 [some (.ref 192), some (.int u), some (.int w), some (.int m)] [] (n, I, J, R) 0 0)
  refine ⟨fun h5 => ?_, fun h5 => ?_⟩
  · skip
    refine q_k 1 ?_
    show q_W L (d + 1) 98 q_m98 Q 18 [some (.ref 192), some (.int u), some (.int w), some (.int m)] [.int (nI 0)] (n, I, J, R) 0 0
    refine q_one rfl rfl ?_
    show q_bz (nI 0) ∧ Q (some (.int (nI 0))) (n, I, J, R)
    refine ⟨Or.inl rfl, ?_⟩
    simp only [f_spoil, if_pos h5] at hQ
    exact hQ I (q_ms_rf I) (q_mf_rf I)
  · skip
    obtain ⟨j, hj, rfl, hf, hk1⟩ := g_kn_1 h5
    refine q_k 1 ?_
    show q_W L (d + 1) 98 q_m98 Q 9 [some (.ref 192), some (.int (nI j)), some (.int w), some (.int m)] [.int w] (n, I, J, R) 0 0
    refine q_one rfl rfl ?_
    show (w < 0 → q_W L (d + 1) 98 q_m98 Q 17 [some (.ref 192), some (.int (nI j)), some (.int w), some (.int m)] [] (n, I, J, R) 0 0) ∧ (¬ w < 0 → q_W L (d + 1) 98 q_m98 Q 12 [some (.ref 192), some (.int (nI j)), some (.int w), some (.int m)] [] (n, I, J, R) 0 0)
    refine ⟨fun h9 => ?_, fun h9 => ?_⟩
    · skip
      refine q_k 1 ?_
      show q_W L (d + 1) 98 q_m98 Q 18 [some (.ref 192), some (.int (nI j)), some (.int w), some (.int m)] [.int (nI 0)] (n, I, J, R) 0 0
      refine q_one rfl rfl ?_
      show q_bz (nI 0) ∧ Q (some (.int (nI 0))) (n, I, J, R)
      refine ⟨Or.inl rfl, ?_⟩
      simp only [f_spoil, if_neg h5, if_pos h9] at hQ
      exact hQ I (q_ms_rf I) (q_mf_rf I)
    · skip
      refine q_k 2 ?_
      show q_W L (d + 1) 98 q_m98 Q 14 [some (.ref 192), some (.int (nI j)), some (.int w), some (.int m)] [.int (nI 3), .int w] (n, I, J, R) 0 0
      refine q_one rfl rfl ?_
      show (w ≤ (nI 3) → q_W L (d + 1) 98 q_m98 Q 19 [some (.ref 192), some (.int (nI j)), some (.int w), some (.int m)] [] (n, I, J, R) 0 0) ∧ (¬ w ≤ (nI 3) → q_W L (d + 1) 98 q_m98 Q 17 [some (.ref 192), some (.int (nI j)), some (.int w), some (.int m)] [] (n, I, J, R) 0 0)
      refine ⟨fun h14 => ?_, fun h14 => ?_⟩
      · skip
        obtain ⟨i, hi, rfl⟩ := g_pl (by decide) h9 h14
        refine q_k 1 ?_
        show q_W L (d + 1) 98 q_m98 Q 20 [some (.ref 192), some (.int (nI j)), some (.int (nI i)), some (.int m)] [.ref 192] (n, I, J, R) 0 0
        refine q_gR (b := 202) rfl rfl (⟨Nat.lt_of_lt_of_le (by decide) hK.1, rfl⟩) (hK.2.1 192 9 202 rfl) ?_
        refine q_k 3 ?_
        show q_W L (d + 1) 98 q_m98 Q 26 [some (.ref 192), some (.int (nI j)), some (.int (nI i)), some (.int m)] [.int ((nI 4) * (nI j)), .ref 202] (n, I, J, R) 0 0
        refine q_top (w := nI (4 * j)) (pk_mul _ _) ?_
        refine q_k 2 ?_
        show q_W L (d + 1) 98 q_m98 Q 28 [some (.ref 192), some (.int (nI j)), some (.int (nI i)), some (.int m)] [.int ((nI (4 * j)) + (nI i)), .ref 202] (n, I, J, R) 0 0
        refine q_top (w := nI (4 * j + i)) (nI_add _ _) ?_
        refine q_k 1 ?_
        show q_W L (d + 1) 98 q_m98 Q 29 [some (.ref 192), some (.int (nI j)), some (.int (nI i)), some (.int m)] [.int (nI (4 * j + i)), .ref 202, .int (nI (4 * j + i)), .ref 202] (n, I, J, R) 0 0
        refine q_ial (m := 4 * j + i) rfl (⟨by decide, Nat.lt_of_lt_of_le (by decide) hK.1, rfl⟩) (by omega) (rfl) ?_
        refine q_k 2 ?_
        show q_W L (d + 1) 98 q_m98 Q 32 [some (.ref 192), some (.int (nI j)), some (.int (nI i)), some (.int m)] [.int ((I 202 (4 * j + i)) ^^^ m), .int (nI (4 * j + i)), .ref 202] (n, I, J, R) 0 0
        refine q_ias (m := 4 * j + i) rfl (⟨by decide, Nat.lt_of_lt_of_le (by decide) hK.1, rfl⟩) (by omega) (rfl) ?_
        obtain ⟨I1, eI1⟩ : ∃ zz9, zz9 = q_up I 202 (4 * j + i) ((I 202 (4 * j + i)) ^^^ m) := ⟨_, rfl⟩
        rw [← eI1]
        refine q_k 1 ?_
        show q_W L (d + 1) 98 q_m98 Q 34 [some (.ref 192), some (.int (nI j)), some (.int (nI i)), some (.int m)] [.int (nI 1)] (n, I1, J, R) 0 0
        refine q_one rfl rfl ?_
        show q_bz (nI 1) ∧ Q (some (.int (nI 1))) (n, I1, J, R)
        refine ⟨Or.inr rfl, ?_⟩
        simp only [f_spoil, if_neg h5, if_neg h9, if_pos h14, g_cl (show j < 10000 by omega), g_cl (show i < 10000 by omega)] at hQ
        refine hQ I1 ⟨fun a _ _ => by rw [eI1], by rw [eI1]⟩ (fun x hx => by rw [eI1, q_un (by omega)])
      · skip
        refine q_k 1 ?_
        show q_W L (d + 1) 98 q_m98 Q 18 [some (.ref 192), some (.int (nI j)), some (.int w), some (.int m)] [.int (nI 0)] (n, I, J, R) 0 0
        refine q_one rfl rfl ?_
        show q_bz (nI 0) ∧ Q (some (.int (nI 0))) (n, I, J, R)
        refine ⟨Or.inl rfl, ?_⟩
        simp only [f_spoil, if_neg h5, if_neg h9, if_neg h14] at hQ
        exact hQ I (q_ms_rf I) (q_mf_rf I)
theorem m_power {L d n : Nat} {I : q_I} {J : q_L} {R : q_R} {Q : q_Q} {b e : Int32} (hQ : Q (some (.int (g_power b e))) (n, I, J, R)) : q_Ex L (d + 3) 81 [.ref 192, .int b, .int e] (n, I, J, R) Q := by
  refine q_in (x := q_m81) rfl rfl ?_
  show q_W L (d + 2) 81 q_m81 Q 0 [some (.ref 192), some (.int b), some (.int e)] [] (n, I, J, R) 0 0
  refine q_k 1 ?_
  show q_W L (d + 2) 81 q_m81 Q 1 [some (.ref 192), some (.int b), some (.int e)] [.int b] (n, I, J, R) 0 0
  refine q_one rfl rfl ?_
  show (b < 0 → q_W L (d + 2) 81 q_m81 Q 20 [some (.ref 192), some (.int b), some (.int e)] [] (n, I, J, R) 0 0) ∧ (¬ b < 0 → q_W L (d + 2) 81 q_m81 Q 4 [some (.ref 192), some (.int b), some (.int e)] [] (n, I, J, R) 0 0)
  refine ⟨fun h1 => ?_, fun h1 => ?_⟩
  · skip
    refine q_k 2 ?_
    show q_W L (d + 2) 81 q_m81 Q 29 [some (.ref 192), some (.int b), some (.int e)] [.int (-1)] (n, I, J, R) 0 0
    refine q_one rfl rfl ?_
    show Q (some (.int (-1))) (n, I, J, R)
    simp only [g_power, if_pos h1] at hQ
    exact hQ
  · skip
    refine q_k 2 ?_
    show q_W L (d + 2) 81 q_m81 Q 7 [some (.ref 192), some (.int b), some (.int e)] [.int (nI 2147483647), .int b] (n, I, J, R) 0 0
    refine q_one rfl rfl ?_
    show ((nI 2147483647) ≤ b → q_W L (d + 2) 81 q_m81 Q 20 [some (.ref 192), some (.int b), some (.int e)] [] (n, I, J, R) 0 0) ∧ (¬ (nI 2147483647) ≤ b → q_W L (d + 2) 81 q_m81 Q 10 [some (.ref 192), some (.int b), some (.int e)] [] (n, I, J, R) 0 0)
    refine ⟨fun h7 => ?_, fun h7 => ?_⟩
    · skip
      refine q_k 2 ?_
      show q_W L (d + 2) 81 q_m81 Q 29 [some (.ref 192), some (.int b), some (.int e)] [.int (-1)] (n, I, J, R) 0 0
      refine q_one rfl rfl ?_
      show Q (some (.int (-1))) (n, I, J, R)
      simp only [g_power, if_neg h1, if_pos h7] at hQ
      exact hQ
    · skip
      refine q_k 1 ?_
      show q_W L (d + 2) 81 q_m81 Q 11 [some (.ref 192), some (.int b), some (.int e)] [.int e] (n, I, J, R) 0 0
      refine q_one rfl rfl ?_
      show (e < 0 → q_W L (d + 2) 81 q_m81 Q 20 [some (.ref 192), some (.int b), some (.int e)] [] (n, I, J, R) 0 0) ∧ (¬ e < 0 → q_W L (d + 2) 81 q_m81 Q 14 [some (.ref 192), some (.int b), some (.int e)] [] (n, I, J, R) 0 0)
      refine ⟨fun h11 => ?_, fun h11 => ?_⟩
      · skip
        refine q_k 2 ?_
        show q_W L (d + 2) 81 q_m81 Q 29 [some (.ref 192), some (.int b), some (.int e)] [.int (-1)] (n, I, J, R) 0 0
        refine q_one rfl rfl ?_
        show Q (some (.int (-1))) (n, I, J, R)
        simp only [g_power, if_neg h1, if_neg h7, if_pos h11] at hQ
        exact hQ
      · skip
        refine q_k 2 ?_
        show q_W L (d + 2) 81 q_m81 Q 17 [some (.ref 192), some (.int b), some (.int e)] [.int (nI 2147483647), .int e] (n, I, J, R) 0 0
        refine q_one rfl rfl ?_
        show (e < (nI 2147483647) → q_W L (d + 2) 81 q_m81 Q 24 [some (.ref 192), some (.int b), some (.int e)] [] (n, I, J, R) 0 0) ∧ (¬ e < (nI 2147483647) → q_W L (d + 2) 81 q_m81 Q 20 [some (.ref 192), some (.int b), some (.int e)] [] (n, I, J, R) 0 0)
        refine ⟨fun h17 => ?_, fun h17 => ?_⟩
        · skip
          refine q_k 2 ?_
          show q_W L (d + 2) 81 q_m81 Q 26 [some (.ref 192), some (.int b), some (.int e)] [.int e, .int b] (n, I, J, R) 0 0
          refine q_cs (as := [.int b, .int e]) (rs := []) rfl rfl rfl rfl rfl ?_
          refine m_raised  ?_
          show q_W L (d + 2) 81 q_m81 Q 29 [some (.ref 192), some (.int b), some (.int e)] [.int (g_pow b e)] (n, I, J, R) 0 0
          refine q_one rfl rfl ?_
          show Q (some (.int (g_pow b e))) (n, I, J, R)
          simp only [g_power, if_neg h1, if_neg h7, if_neg h11, if_pos h17] at hQ
          exact hQ
        · skip
          refine q_k 2 ?_
          show q_W L (d + 2) 81 q_m81 Q 29 [some (.ref 192), some (.int b), some (.int e)] [.int (-1)] (n, I, J, R) 0 0
          refine q_one rfl rfl ?_
          show Q (some (.int (-1))) (n, I, J, R)
          simp only [g_power, if_neg h1, if_neg h7, if_neg h11, if_neg h17] at hQ
          exact hQ
theorem m_mix {L d n : Nat} {I : q_I} {J : q_L} {R : q_R} {Q : q_Q} {z : Int64} {a b : Int32} (hK : q_K0 n I R) (hQ : ∀ I', (∀ x, x ≠ 209 → x ≠ 210 → x ≠ 211 → x ≠ 212 → I' x = I x) → Q (some (.long (g_wide (g_mkey z) a b (nI 0) (nI 0)))) (n, I', J, R)) : q_Ex L (d + 4) 89 [.ref 192, .long z, .int a, .int b] (n, I, J, R) Q := by
  refine q_in (x := q_m89) rfl rfl ?_
  show q_W L (d + 3) 89 q_m89 Q 0 [some (.ref 192), some (.long z), none, some (.int a), some (.int b), none] [] (n, I, J, R) 0 0
  refine q_k 2 ?_
  show q_W L (d + 3) 89 q_m89 Q 3 [some (.ref 192), some (.long z), none, some (.int a), some (.int b), some (.int (nI 2))] [] (n, I, J, R) 0 0
  refine q_loop (σ := q_I) 8 (fun k I2 => 2 ≤ k ∧ (∀ i, 2 ≤ i → i < k → I2 212 i = nI (i - 1)) ∧ ∀ x, x ≠ 212 → I2 x = I x) (fun k I2 => q_W L (d + 3) 89 q_m89 Q 3 [some (.ref 192), some (.long z), none, some (.int a), some (.int b), some (.int (nI k))] [] (n, I2, J, R) 0 0) ?_ ?_ 2 I (by decide) ?_
  · intro I2 hI2z
    have hI2 := hI2z.2
    show q_W L (d + 3) 89 q_m89 Q 3 [some (.ref 192), some (.long z), none, some (.int a), some (.int b), some (.int (nI 8))] [] (n, I2, J, R) 0 0
    refine q_k 2 ?_
    show q_W L (d + 3) 89 q_m89 Q 7 [some (.ref 192), some (.long z), none, some (.int a), some (.int b), some (.int (nI 8))] [.int (nI 8), .int (nI 8)] (n, I2, J, R) 0 0
    refine q_one rfl rfl ?_
    show ((nI 8) ≤ (nI 8) → q_W L (d + 3) 89 q_m89 Q 27 [some (.ref 192), some (.long z), none, some (.int a), some (.int b), some (.int (nI 8))] [] (n, I2, J, R) 0 0) ∧ (¬ (nI 8) ≤ (nI 8) → q_W L (d + 3) 89 q_m89 Q 10 [some (.ref 192), some (.long z), none, some (.int a), some (.int b), some (.int (nI 8))] [] (n, I2, J, R) 0 0)
    refine ⟨fun _ => ?_, fun z => absurd (nI_le (Nat.le_refl _) (by decide)) z⟩
    refine q_k 1 ?_
    show q_W L (d + 3) 89 q_m89 Q 28 [some (.ref 192), some (.long z), none, some (.int a), some (.int b), some (.int (nI 8))] [.ref 192] (n, I2, J, R) 0 0
    refine q_gR (b := 212) rfl rfl (⟨Nat.lt_of_lt_of_le (by decide) hK.1, rfl⟩) (hK.2.1 192 21 212 rfl) ?_
    refine q_k 5 ?_
    show q_W L (d + 3) 89 q_m89 Q 37 [some (.ref 192), some (.long z), none, some (.int a), some (.int b), some (.int (nI 8))] [.int ((z >>> (((nI 32)).toInt64 &&& 63)).toInt32), .int (nI 0), .ref 212] (n, I2, J, R) 0 0
    refine q_top (w := g_up z) (rfl) ?_
    refine q_ias (m := 0) rfl (⟨by decide, Nat.lt_of_lt_of_le (by decide) hK.1, rfl⟩) (by decide) (rfl) ?_
    refine q_k 1 ?_
    show q_W L (d + 3) 89 q_m89 Q 39 [some (.ref 192), some (.long z), none, some (.int a), some (.int b), some (.int (nI 8))] [.ref 192] (n, q_up I2 212 0 (g_up z), J, R) 0 0
    refine q_gR (b := 212) rfl rfl (⟨Nat.lt_of_lt_of_le (by decide) hK.1, rfl⟩) (hK.2.1 192 21 212 rfl) ?_
    refine q_k 3 ?_
    show q_W L (d + 3) 89 q_m89 Q 45 [some (.ref 192), some (.long z), none, some (.int a), some (.int b), some (.int (nI 8))] [.int ((z).toInt32), .int (nI 1), .ref 212] (n, q_up I2 212 0 (g_up z), J, R) 0 0
    refine q_ias (m := 1) rfl (⟨by decide, Nat.lt_of_lt_of_le (by decide) hK.1, rfl⟩) (by decide) (rfl) ?_
    obtain ⟨I3, eI3⟩ : ∃ zz9, zz9 = q_up (q_up I2 212 0 (g_up z)) 212 1 ((z).toInt32) := ⟨_, rfl⟩
    rw [← eI3]
    refine q_k 2 ?_
    show q_W L (d + 3) 89 q_m89 Q 48 [some (.ref 192), some (.long z), none, some (.int a), some (.int b), some (.int (nI 8))] [.ref 192, .ref 192] (n, I3, J, R) 0 0
    refine q_gR (b := 212) rfl rfl (⟨Nat.lt_of_lt_of_le (by decide) hK.1, rfl⟩) (hK.2.1 192 21 212 rfl) ?_
    refine q_k 5 ?_
    show q_W L (d + 3) 89 q_m89 Q 57 [some (.ref 192), some (.long z), none, some (.int a), some (.int b), some (.int (nI 8))] [.int (nI 0), .int (nI 0), .int b, .int a, .int (nI 0), .ref 212, .ref 192] (n, I3, J, R) 0 0
    refine q_cv (as := [.ref 212, .int (nI 0), .int a, .int b, .int (nI 0), .int (nI 0)]) (rs := []) rfl rfl rfl (⟨Nat.lt_of_lt_of_le (by decide) hK.1, rfl⟩) rfl rfl ?_
    refine m_mixed (q_K0_to hK (by rw [eI3, q_un (by decide), q_un (by decide)]; exact hI2.2 0 (by decide)) (by rw [eI3, q_un (by decide), q_un (by decide)]; exact hI2.2 1 (by decide))) (⟨by decide, Nat.lt_of_lt_of_le (by decide) hK.1, rfl⟩) (rfl) (by decide) (by decide) (fun I4 h4 f4 => ?_)
    show q_W L (d + 3) 89 q_m89 Q 60 [some (.ref 192), some (.long z), none, some (.int a), some (.int b), some (.int (nI 8))] [] (n, I4, J, R) 0 0
    refine q_k 1 ?_
    show q_W L (d + 3) 89 q_m89 Q 61 [some (.ref 192), some (.long z), none, some (.int a), some (.int b), some (.int (nI 8))] [.ref 192] (n, I4, J, R) 0 0
    refine q_cv (as := []) (rs := []) rfl rfl rfl (⟨Nat.lt_of_lt_of_le (by decide) hK.1, rfl⟩) rfl rfl ?_
    refine m_longOf (q_K0_to hK (by rw [f4 0 (by decide) (by decide) (by decide), eI3, q_un (by decide), q_un (by decide)]; exact hI2.2 0 (by decide)) (by rw [f4 1 (by decide) (by decide) (by decide), eI3, q_un (by decide), q_un (by decide)]; exact hI2.2 1 (by decide))) ?_
    show q_W L (d + 3) 89 q_m89 Q 64 [some (.ref 192), some (.long z), none, some (.int a), some (.int b), some (.int (nI 8))] [.long (g_join (I4 211 0) (I4 211 1))] (n, I4, J, R) 0 0
    refine q_one rfl rfl ?_
    show Q (some (.long (g_join (I4 211 0) (I4 211 1)))) (n, I4, J, R)
    have hk : ∀ i, i < 8 → I3 212 (0 + i) = g_mkey z i := fun i hi => by
      rw [Nat.zero_add, eI3]
      unfold g_mkey
      by_cases e1 : i = 1
      · subst e1; rw [q_usk]; rfl
      · rw [q_usn e1]
        by_cases e0 : i = 0
        · subst e0; rw [q_usk]; rfl
        · rw [q_usn e0, if_neg e0, if_neg e1]; exact hI2.1 i (by omega) hi
    have hw : g_join (I4 211 0) (I4 211 1) = g_wide (g_mkey z) a b (nI 0) (nI 0) := by
      rw [h4 0 (by decide), h4 1 (by decide), g_mix_c (i := 0) hk _ _ _ _ (by decide), g_mix_c (i := 1) hk _ _ _ _ (by decide)]
      rfl
    rw [hw]
    exact hQ I4 (fun y h9 h10 h11 h12 => by rw [f4 y h9 h10 h11, eI3, q_un h12, q_un h12]; exact hI2.2 y h12)
  · intro k I2 hk hI2z ih
    have hk2 := hI2z.1
    have hI2 := hI2z.2
    show q_W L (d + 3) 89 q_m89 Q 3 [some (.ref 192), some (.long z), none, some (.int a), some (.int b), some (.int (nI k))] [] (n, I2, J, R) 0 0
    refine q_k 2 ?_
    show q_W L (d + 3) 89 q_m89 Q 7 [some (.ref 192), some (.long z), none, some (.int a), some (.int b), some (.int (nI k))] [.int (nI 8), .int (nI k)] (n, I2, J, R) 0 0
    refine q_one rfl rfl ?_
    show ((nI 8) ≤ (nI k) → q_W L (d + 3) 89 q_m89 Q 27 [some (.ref 192), some (.long z), none, some (.int a), some (.int b), some (.int (nI k))] [] (n, I2, J, R) 0 0) ∧ (¬ (nI 8) ≤ (nI k) → q_W L (d + 3) 89 q_m89 Q 10 [some (.ref 192), some (.long z), none, some (.int a), some (.int b), some (.int (nI k))] [] (n, I2, J, R) 0 0)
    refine ⟨fun z => absurd z (nI_ge hk (by decide)), fun _ => ?_⟩
    refine q_k 1 ?_
    show q_W L (d + 3) 89 q_m89 Q 11 [some (.ref 192), some (.long z), none, some (.int a), some (.int b), some (.int (nI k))] [.ref 192] (n, I2, J, R) 0 0
    refine q_gR (b := 212) rfl rfl (⟨Nat.lt_of_lt_of_le (by decide) hK.1, rfl⟩) (hK.2.1 192 21 212 rfl) ?_
    refine q_k 4 ?_
    show q_W L (d + 3) 89 q_m89 Q 20 [some (.ref 192), some (.long z), none, some (.int a), some (.int b), some (.int (nI k))] [.int ((nI k) - (nI 1)), .int (nI k), .ref 212] (n, I2, J, R) 0 0
    refine q_top (w := nI (k - 1)) (pk_sub (by omega)) ?_
    refine q_ias (m := k) rfl (⟨by decide, Nat.lt_of_lt_of_le (by decide) hK.1, rfl⟩) (by omega) (rfl) ?_
    refine q_k 1 ?_
    show q_W L (d + 3) 89 q_m89 Q 24 [some (.ref 192), some (.long z), none, some (.int a), some (.int b), some (.int ((nI k) + nI 1))] [] (n, q_up I2 212 k (nI (k - 1)), J, R) 0 0
    rw [show (nI k) + nI 1 = nI (k + 1) from nI_add _ _]
    refine q_k 1 ?_
    show q_W L (d + 3) 89 q_m89 Q 3 [some (.ref 192), some (.long z), none, some (.int a), some (.int b), some (.int (nI (k + 1)))] [] (n, q_up I2 212 k (nI (k - 1)), J, R) 0 0
    refine ih _ ⟨by omega, fun i h1 h2 => ?_, fun x hx => ?_⟩
    · by_cases e : i = k
      · subst e; rw [q_usk]
      · rw [q_usn e]; exact hI2.1 i h1 (by omega)
    · rw [q_un hx]; exact hI2.2 x hx
  · exact ⟨by decide, fun i h1 h2 => absurd h2 (by omega), fun _ _ => rfl⟩
set_option maxHeartbeats 2000000 in
theorem m_prekeys {L d n : Nat} {I : q_I} {J : q_L} {R : q_R} {Q : q_Q} {u w : Int32} (hK : q_K0 n I R) (hfc : ∀ j, j < 4 → ∃ f c : Nat, f ≤ 6 ∧ c ≤ 10 ∧ I 204 j = nI f ∧ I 201 j = nI c) (hQ : ∀ I', q_ms I' (f_prekeys u w I).2 → q_mf I' I → Q (some (.int (f_prekeys u w I).1)) (n, I', J, R)) : q_Ex L (d + 5) 97 [.ref 192, .int u, .int w] (n, I, J, R) Q := by
  refine q_in (x := q_m97) rfl rfl ?_
  show q_W L (d + 4) 97 q_m97 Q 0 [some (.ref 192), some (.int u), some (.int w), none] [] (n, I, J, R) 0 0
  refine q_k 2 ?_
  show q_W L (d + 4) 97 q_m97 Q 2 [some (.ref 192), some (.int u), some (.int w), none] [.int u, .ref 192] (n, I, J, R) 0 0
  refine q_cv (as := [.int u]) (rs := []) rfl rfl rfl (⟨Nat.lt_of_lt_of_le (by decide) hK.1, rfl⟩) rfl rfl ?_
  refine m_known (hK) ?_
  show q_W L (d + 4) 97 q_m97 Q 5 [some (.ref 192), some (.int u), some (.int w), none] [.int (g_kn (I 193) u)] (n, I, J, R) 0 0
  refine q_one rfl rfl ?_
  show ((g_kn (I 193) u) = 0 → q_W L (d + 4) 97 q_m97 Q 19 [some (.ref 192), some (.int u), some (.int w), none] [] (n, I, J, R) 0 0) ∧ (¬ (g_kn (I 193) u) = 0 → q_W L (d + 4) 97 q_m97 Q 8 [some (.ref 192), some (.int u), some (.int w), none] [] (n, I, J, R) 0 0)
  refine ⟨fun h5 => ?_, fun h5 => ?_⟩
  · skip
    refine q_k 1 ?_
    show q_W L (d + 4) 97 q_m97 Q 20 [some (.ref 192), some (.int u), some (.int w), none] [.int (-1)] (n, I, J, R) 0 0
    refine q_one rfl rfl ?_
    show Q (some (.int (-1))) (n, I, J, R)
    simp only [f_prekeys, if_pos h5] at hQ
    exact hQ I (q_ms_rf I) (q_mf_rf I)
  · skip
    obtain ⟨j, hj, rfl, hf, hk1⟩ := g_kn_1 h5
    obtain ⟨f, c, hf6, hc10, hf0, hc0⟩ := hfc j hj
    refine q_k 2 ?_
    show q_W L (d + 4) 97 q_m97 Q 10 [some (.ref 192), some (.int (nI j)), some (.int w), none] [.int (nI 1), .int w] (n, I, J, R) 0 0
    refine q_one rfl rfl ?_
    show (w < (nI 1) → q_W L (d + 4) 97 q_m97 Q 19 [some (.ref 192), some (.int (nI j)), some (.int w), none] [] (n, I, J, R) 0 0) ∧ (¬ w < (nI 1) → q_W L (d + 4) 97 q_m97 Q 13 [some (.ref 192), some (.int (nI j)), some (.int w), none] [] (n, I, J, R) 0 0)
    refine ⟨fun h10 => ?_, fun h10 => ?_⟩
    · skip
      refine q_k 1 ?_
      show q_W L (d + 4) 97 q_m97 Q 20 [some (.ref 192), some (.int (nI j)), some (.int w), none] [.int (-1)] (n, I, J, R) 0 0
      refine q_one rfl rfl ?_
      show Q (some (.int (-1))) (n, I, J, R)
      simp only [f_prekeys, if_neg h5, if_pos h10] at hQ
      exact hQ I (q_ms_rf I) (q_mf_rf I)
    · skip
      refine q_k 2 ?_
      show q_W L (d + 4) 97 q_m97 Q 16 [some (.ref 192), some (.int (nI j)), some (.int w), none] [.int (nI 6), .int w] (n, I, J, R) 0 0
      refine q_one rfl rfl ?_
      show (w ≤ (nI 6) → q_W L (d + 4) 97 q_m97 Q 21 [some (.ref 192), some (.int (nI j)), some (.int w), none] [] (n, I, J, R) 0 0) ∧ (¬ w ≤ (nI 6) → q_W L (d + 4) 97 q_m97 Q 19 [some (.ref 192), some (.int (nI j)), some (.int w), none] [] (n, I, J, R) 0 0)
      refine ⟨fun h16 => ?_, fun h16 => ?_⟩
      · skip
        obtain ⟨i, hi, rfl⟩ := g_pl (by decide) (fun z => h10 (Int32.lt_of_lt_of_le z (by decide))) h16
        refine q_k 2 ?_
        show q_W L (d + 4) 97 q_m97 Q 23 [some (.ref 192), some (.int (nI j)), some (.int (nI i)), some (.int (nI 0))] [] (n, I, J, R) 0 0
        obtain ⟨mm, hmm⟩ : ∃ z, z = min (min i (6 - f)) (10 - c) := ⟨_, rfl⟩
        have hm1 : mm ≤ i ∧ mm ≤ 6 - f ∧ mm ≤ 10 - c ∧ (mm = i ∨ mm = 6 - f ∨ mm = 10 - c) := by omega
        have hpk16 : ∀ k, I 192 16 = f_pk j f c k I 192 16 := by
          intro k
          induction k with
          | zero => rfl
          | succ k ih => rw [ih]; rfl
        refine q_loop (σ := q_I) mm (fun k I2 => (q_mq I2 (f_pk j f c k I) ∧ I2 192 16 = I 192 16) ∧ q_mf I2 I ∧ I2 204 j = nI (f + k) ∧ I2 201 j = nI (c + k)) (fun k I2 => q_W L (d + 4) 97 q_m97 Q 23 [some (.ref 192), some (.int (nI j)), some (.int (nI i)), some (.int (nI k))] [] (n, I2, J, R) 0 0) ?_ ?_ 0 I (Nat.zero_le _) ?_
        · intro I2 hI2
          show q_W L (d + 4) 97 q_m97 Q 23 [some (.ref 192), some (.int (nI j)), some (.int (nI i)), some (.int (nI mm))] [] (n, I2, J, R) 0 0
          refine q_k 2 ?_
          show q_W L (d + 4) 97 q_m97 Q 25 [some (.ref 192), some (.int (nI j)), some (.int (nI i)), some (.int (nI mm))] [.int (nI i), .int (nI mm)] (n, I2, J, R) 0 0
          refine q_one rfl rfl ?_
          show ((nI i) ≤ (nI mm) → q_W L (d + 4) 97 q_m97 Q 147 [some (.ref 192), some (.int (nI j)), some (.int (nI i)), some (.int (nI mm))] [] (n, I2, J, R) 0 0) ∧ (¬ (nI i) ≤ (nI mm) → q_W L (d + 4) 97 q_m97 Q 28 [some (.ref 192), some (.int (nI j)), some (.int (nI i)), some (.int (nI mm))] [] (n, I2, J, R) 0 0)
          refine ⟨fun h25 => ?_, fun h25 => ?_⟩
          · skip
            refine q_k 1 ?_
            show q_W L (d + 4) 97 q_m97 Q 148 [some (.ref 192), some (.int (nI j)), some (.int (nI i)), some (.int (nI mm))] [.int (nI mm)] (n, I2, J, R) 0 0
            refine q_one rfl rfl ?_
            show Q (some (.int (nI mm))) (n, I2, J, R)
            simp only [f_prekeys, if_neg h5, if_neg h10, if_pos h16, g_cl (show j < 10000 by omega), hf0, hc0, g_cl (show i < 10000 by omega), g_cl (show f < 10000 by omega), g_cl (show c < 10000 by omega), ← hmm] at hQ
            exact hQ I2 ⟨hI2.1.1, hI2.1.2.trans (hpk16 mm)⟩ hI2.2.1
          · skip
            refine q_k 1 ?_
            show q_W L (d + 4) 97 q_m97 Q 29 [some (.ref 192), some (.int (nI j)), some (.int (nI i)), some (.int (nI mm))] [.ref 192] (n, I2, J, R) 0 0
            refine q_gR (b := 204) rfl rfl (⟨Nat.lt_of_lt_of_le (by decide) hK.1, rfl⟩) (hK.2.1 192 11 204 rfl) ?_
            refine q_k 1 ?_
            show q_W L (d + 4) 97 q_m97 Q 33 [some (.ref 192), some (.int (nI j)), some (.int (nI i)), some (.int (nI mm))] [.int (nI j), .ref 204] (n, I2, J, R) 0 0
            refine q_ial (m := j) rfl (⟨by decide, Nat.lt_of_lt_of_le (by decide) hK.1, rfl⟩) (hj) (rfl) ?_
            refine q_top (w := nI (f + mm)) (hI2.2.2.1) ?_
            refine q_k 1 ?_
            show q_W L (d + 4) 97 q_m97 Q 36 [some (.ref 192), some (.int (nI j)), some (.int (nI i)), some (.int (nI mm))] [.int (nI 6), .int (nI (f + mm))] (n, I2, J, R) 0 0
            refine q_one rfl rfl ?_
            show ((nI 6) ≤ (nI (f + mm)) → q_W L (d + 4) 97 q_m97 Q 147 [some (.ref 192), some (.int (nI j)), some (.int (nI i)), some (.int (nI mm))] [] (n, I2, J, R) 0 0) ∧ (¬ (nI 6) ≤ (nI (f + mm)) → q_W L (d + 4) 97 q_m97 Q 39 [some (.ref 192), some (.int (nI j)), some (.int (nI i)), some (.int (nI mm))] [] (n, I2, J, R) 0 0)
            refine ⟨fun h36 => ?_, fun h36 => ?_⟩
            · skip
              refine q_k 1 ?_
              show q_W L (d + 4) 97 q_m97 Q 148 [some (.ref 192), some (.int (nI j)), some (.int (nI i)), some (.int (nI mm))] [.int (nI mm)] (n, I2, J, R) 0 0
              refine q_one rfl rfl ?_
              show Q (some (.int (nI mm))) (n, I2, J, R)
              simp only [f_prekeys, if_neg h5, if_neg h10, if_pos h16, g_cl (show j < 10000 by omega), hf0, hc0, g_cl (show i < 10000 by omega), g_cl (show f < 10000 by omega), g_cl (show c < 10000 by omega), ← hmm] at hQ
              exact hQ I2 ⟨hI2.1.1, hI2.1.2.trans (hpk16 mm)⟩ hI2.2.1
            · skip
              refine q_k 1 ?_
              show q_W L (d + 4) 97 q_m97 Q 40 [some (.ref 192), some (.int (nI j)), some (.int (nI i)), some (.int (nI mm))] [.ref 192] (n, I2, J, R) 0 0
              refine q_gR (b := 201) rfl rfl (⟨Nat.lt_of_lt_of_le (by decide) hK.1, rfl⟩) (hK.2.1 192 8 201 rfl) ?_
              refine q_k 1 ?_
              show q_W L (d + 4) 97 q_m97 Q 44 [some (.ref 192), some (.int (nI j)), some (.int (nI i)), some (.int (nI mm))] [.int (nI j), .ref 201] (n, I2, J, R) 0 0
              refine q_ial (m := j) rfl (⟨by decide, Nat.lt_of_lt_of_le (by decide) hK.1, rfl⟩) (hj) (rfl) ?_
              refine q_top (w := nI (c + mm)) (hI2.2.2.2) ?_
              refine q_k 1 ?_
              show q_W L (d + 4) 97 q_m97 Q 47 [some (.ref 192), some (.int (nI j)), some (.int (nI i)), some (.int (nI mm))] [.int (nI 10), .int (nI (c + mm))] (n, I2, J, R) 0 0
              refine q_one rfl rfl ?_
              show ((nI 10) ≤ (nI (c + mm)) → q_W L (d + 4) 97 q_m97 Q 147 [some (.ref 192), some (.int (nI j)), some (.int (nI i)), some (.int (nI mm))] [] (n, I2, J, R) 0 0) ∧ (¬ (nI 10) ≤ (nI (c + mm)) → q_W L (d + 4) 97 q_m97 Q 50 [some (.ref 192), some (.int (nI j)), some (.int (nI i)), some (.int (nI mm))] [] (n, I2, J, R) 0 0)
              refine ⟨fun _ => ?_, fun z => absurd (nI_le (show 10 ≤ c + mm by have g1 : mm ≠ i := fun e => h25 (by rw [e]; exact nI_le (Nat.le_refl _) (by omega)); have g2 : f + mm ≠ 6 := fun e => h36 (by rw [e]; exact nI_le (Nat.le_refl _) (by omega)); omega) (by omega)) z⟩
              refine q_k 1 ?_
              show q_W L (d + 4) 97 q_m97 Q 148 [some (.ref 192), some (.int (nI j)), some (.int (nI i)), some (.int (nI mm))] [.int (nI mm)] (n, I2, J, R) 0 0
              refine q_one rfl rfl ?_
              show Q (some (.int (nI mm))) (n, I2, J, R)
              simp only [f_prekeys, if_neg h5, if_neg h10, if_pos h16, g_cl (show j < 10000 by omega), hf0, hc0, g_cl (show i < 10000 by omega), g_cl (show f < 10000 by omega), g_cl (show c < 10000 by omega), ← hmm] at hQ
              exact hQ I2 ⟨hI2.1.1, hI2.1.2.trans (hpk16 mm)⟩ hI2.2.1
        · intro k I2 hk hI2 ih
          show q_W L (d + 4) 97 q_m97 Q 23 [some (.ref 192), some (.int (nI j)), some (.int (nI i)), some (.int (nI k))] [] (n, I2, J, R) 0 0
          refine q_k 2 ?_
          show q_W L (d + 4) 97 q_m97 Q 25 [some (.ref 192), some (.int (nI j)), some (.int (nI i)), some (.int (nI k))] [.int (nI i), .int (nI k)] (n, I2, J, R) 0 0
          refine q_one rfl rfl ?_
          show ((nI i) ≤ (nI k) → q_W L (d + 4) 97 q_m97 Q 147 [some (.ref 192), some (.int (nI j)), some (.int (nI i)), some (.int (nI k))] [] (n, I2, J, R) 0 0) ∧ (¬ (nI i) ≤ (nI k) → q_W L (d + 4) 97 q_m97 Q 28 [some (.ref 192), some (.int (nI j)), some (.int (nI i)), some (.int (nI k))] [] (n, I2, J, R) 0 0)
          refine ⟨fun z => absurd z (nI_ge (show k < i by omega) (by omega)), fun _ => ?_⟩
          refine q_k 1 ?_
          show q_W L (d + 4) 97 q_m97 Q 29 [some (.ref 192), some (.int (nI j)), some (.int (nI i)), some (.int (nI k))] [.ref 192] (n, I2, J, R) 0 0
          refine q_gR (b := 204) rfl rfl (⟨Nat.lt_of_lt_of_le (by decide) hK.1, rfl⟩) (hK.2.1 192 11 204 rfl) ?_
          refine q_k 1 ?_
          show q_W L (d + 4) 97 q_m97 Q 33 [some (.ref 192), some (.int (nI j)), some (.int (nI i)), some (.int (nI k))] [.int (nI j), .ref 204] (n, I2, J, R) 0 0
          refine q_ial (m := j) rfl (⟨by decide, Nat.lt_of_lt_of_le (by decide) hK.1, rfl⟩) (hj) (rfl) ?_
          refine q_top (w := nI (f + k)) (hI2.2.2.1) ?_
          refine q_k 1 ?_
          show q_W L (d + 4) 97 q_m97 Q 36 [some (.ref 192), some (.int (nI j)), some (.int (nI i)), some (.int (nI k))] [.int (nI 6), .int (nI (f + k))] (n, I2, J, R) 0 0
          refine q_one rfl rfl ?_
          show ((nI 6) ≤ (nI (f + k)) → q_W L (d + 4) 97 q_m97 Q 147 [some (.ref 192), some (.int (nI j)), some (.int (nI i)), some (.int (nI k))] [] (n, I2, J, R) 0 0) ∧ (¬ (nI 6) ≤ (nI (f + k)) → q_W L (d + 4) 97 q_m97 Q 39 [some (.ref 192), some (.int (nI j)), some (.int (nI i)), some (.int (nI k))] [] (n, I2, J, R) 0 0)
          refine ⟨fun z => absurd z (nI_ge (by omega) (by decide)), fun _ => ?_⟩
          refine q_k 1 ?_
          show q_W L (d + 4) 97 q_m97 Q 40 [some (.ref 192), some (.int (nI j)), some (.int (nI i)), some (.int (nI k))] [.ref 192] (n, I2, J, R) 0 0
          refine q_gR (b := 201) rfl rfl (⟨Nat.lt_of_lt_of_le (by decide) hK.1, rfl⟩) (hK.2.1 192 8 201 rfl) ?_
          refine q_k 1 ?_
          show q_W L (d + 4) 97 q_m97 Q 44 [some (.ref 192), some (.int (nI j)), some (.int (nI i)), some (.int (nI k))] [.int (nI j), .ref 201] (n, I2, J, R) 0 0
          refine q_ial (m := j) rfl (⟨by decide, Nat.lt_of_lt_of_le (by decide) hK.1, rfl⟩) (hj) (rfl) ?_
          refine q_top (w := nI (c + k)) (hI2.2.2.2) ?_
          refine q_k 1 ?_
          show q_W L (d + 4) 97 q_m97 Q 47 [some (.ref 192), some (.int (nI j)), some (.int (nI i)), some (.int (nI k))] [.int (nI 10), .int (nI (c + k))] (n, I2, J, R) 0 0
          refine q_one rfl rfl ?_
          show ((nI 10) ≤ (nI (c + k)) → q_W L (d + 4) 97 q_m97 Q 147 [some (.ref 192), some (.int (nI j)), some (.int (nI i)), some (.int (nI k))] [] (n, I2, J, R) 0 0) ∧ (¬ (nI 10) ≤ (nI (c + k)) → q_W L (d + 4) 97 q_m97 Q 50 [some (.ref 192), some (.int (nI j)), some (.int (nI i)), some (.int (nI k))] [] (n, I2, J, R) 0 0)
          refine ⟨fun z => absurd z (nI_ge (by omega) (by decide)), fun _ => ?_⟩
          refine q_k 2 ?_
          show q_W L (d + 4) 97 q_m97 Q 52 [some (.ref 192), some (.int (nI j)), some (.int (nI i)), some (.int (nI k))] [.int (nI j), .ref 192] (n, I2, J, R) 0 0
          refine q_cv (as := [.int (nI j)]) (rs := []) rfl rfl rfl (⟨Nat.lt_of_lt_of_le (by decide) hK.1, rfl⟩) rfl rfl ?_
          refine m_draw (q_K0_to hK (hI2.2.1 0 (by decide)) (hI2.2.1 1 (by decide))) (hj) (fun I3 a3 b3 c3 f3 e3 => ?_)
          show q_W L (d + 4) 97 q_m97 Q 55 [some (.ref 192), some (.int (nI j)), some (.int (nI i)), some (.int (nI k))] [] (n, I3, J, R) 0 0
          refine q_k 1 ?_
          show q_W L (d + 4) 97 q_m97 Q 56 [some (.ref 192), some (.int (nI j)), some (.int (nI i)), some (.int (nI k))] [.ref 192] (n, I3, J, R) 0 0
          refine q_gR (b := 200) rfl rfl (⟨Nat.lt_of_lt_of_le (by decide) hK.1, rfl⟩) (hK.2.1 192 7 200 rfl) ?_
          refine q_k 4 ?_
          show q_W L (d + 4) 97 q_m97 Q 64 [some (.ref 192), some (.int (nI j)), some (.int (nI i)), some (.int (nI k))] [.int ((nI 10) * (nI j)), .int (nI 2), .ref 200] (n, I3, J, R) 0 0
          refine q_top (w := nI (10 * j)) (pk_mul _ _) ?_
          refine q_k 1 ?_
          show q_W L (d + 4) 97 q_m97 Q 65 [some (.ref 192), some (.int (nI j)), some (.int (nI i)), some (.int (nI k))] [.ref 192, .int (nI (10 * j)), .int (nI 2), .ref 200] (n, I3, J, R) 0 0
          refine q_gR (b := 201) rfl rfl (⟨Nat.lt_of_lt_of_le (by decide) hK.1, rfl⟩) (hK.2.1 192 8 201 rfl) ?_
          refine q_k 1 ?_
          show q_W L (d + 4) 97 q_m97 Q 69 [some (.ref 192), some (.int (nI j)), some (.int (nI i)), some (.int (nI k))] [.int (nI j), .ref 201, .int (nI (10 * j)), .int (nI 2), .ref 200] (n, I3, J, R) 0 0
          refine q_ial (m := j) rfl (⟨by decide, Nat.lt_of_lt_of_le (by decide) hK.1, rfl⟩) (hj) (rfl) ?_
          refine q_top (w := nI (c + k)) (by rw [f3 201 (by decide) (by decide) (by decide) (by decide) (by decide) (by decide)]; exact hI2.2.2.2) ?_
          refine q_k 1 ?_
          show q_W L (d + 4) 97 q_m97 Q 71 [some (.ref 192), some (.int (nI j)), some (.int (nI i)), some (.int (nI k))] [.int ((nI (10 * j)) + (nI (c + k))), .int (nI 2), .ref 200] (n, I3, J, R) 0 0
          refine q_top (w := nI (10 * j + (c + k))) (nI_add _ _) ?_
          refine q_k 1 ?_
          show q_W L (d + 4) 97 q_m97 Q 72 [some (.ref 192), some (.int (nI j)), some (.int (nI i)), some (.int (nI k))] [.int ((nI 2) * (nI (10 * j + (c + k)))), .ref 200] (n, I3, J, R) 0 0
          refine q_top (w := nI (2 * (10 * j + (c + k)))) (pk_mul _ _) ?_
          refine q_k 1 ?_
          show q_W L (d + 4) 97 q_m97 Q 73 [some (.ref 192), some (.int (nI j)), some (.int (nI i)), some (.int (nI k))] [.ref 192, .int (nI (2 * (10 * j + (c + k)))), .ref 200] (n, I3, J, R) 0 0
          refine q_gI rfl rfl (⟨Nat.lt_of_lt_of_le (by decide) hK.1, rfl⟩) ?_
          refine q_top (w := g_nx I2 j) (a3) ?_
          refine q_ias (m := 2 * (10 * j + (c + k))) rfl (⟨by decide, Nat.lt_of_lt_of_le (by decide) hK.1, rfl⟩) (by omega) (rfl) ?_
          refine q_k 1 ?_
          show q_W L (d + 4) 97 q_m97 Q 78 [some (.ref 192), some (.int (nI j)), some (.int (nI i)), some (.int (nI k))] [.ref 192] (n, q_up I3 200 (2 * (10 * j + (c + k))) (g_nx I2 j), J, R) 0 0
          refine q_gR (b := 200) rfl rfl (⟨Nat.lt_of_lt_of_le (by decide) hK.1, rfl⟩) (hK.2.1 192 7 200 rfl) ?_
          refine q_k 4 ?_
          show q_W L (d + 4) 97 q_m97 Q 86 [some (.ref 192), some (.int (nI j)), some (.int (nI i)), some (.int (nI k))] [.int ((nI 10) * (nI j)), .int (nI 2), .ref 200] (n, q_up I3 200 (2 * (10 * j + (c + k))) (g_nx I2 j), J, R) 0 0
          refine q_top (w := nI (10 * j)) (pk_mul _ _) ?_
          refine q_k 1 ?_
          show q_W L (d + 4) 97 q_m97 Q 87 [some (.ref 192), some (.int (nI j)), some (.int (nI i)), some (.int (nI k))] [.ref 192, .int (nI (10 * j)), .int (nI 2), .ref 200] (n, q_up I3 200 (2 * (10 * j + (c + k))) (g_nx I2 j), J, R) 0 0
          refine q_gR (b := 201) rfl rfl (⟨Nat.lt_of_lt_of_le (by decide) hK.1, rfl⟩) (hK.2.1 192 8 201 rfl) ?_
          refine q_k 1 ?_
          show q_W L (d + 4) 97 q_m97 Q 91 [some (.ref 192), some (.int (nI j)), some (.int (nI i)), some (.int (nI k))] [.int (nI j), .ref 201, .int (nI (10 * j)), .int (nI 2), .ref 200] (n, q_up I3 200 (2 * (10 * j + (c + k))) (g_nx I2 j), J, R) 0 0
          refine q_ial (m := j) rfl (⟨by decide, Nat.lt_of_lt_of_le (by decide) hK.1, rfl⟩) (hj) (rfl) ?_
          refine q_top (w := nI (c + k)) (by rw [q_un (by decide), f3 201 (by decide) (by decide) (by decide) (by decide) (by decide) (by decide)]; exact hI2.2.2.2) ?_
          refine q_k 1 ?_
          show q_W L (d + 4) 97 q_m97 Q 93 [some (.ref 192), some (.int (nI j)), some (.int (nI i)), some (.int (nI k))] [.int ((nI (10 * j)) + (nI (c + k))), .int (nI 2), .ref 200] (n, q_up I3 200 (2 * (10 * j + (c + k))) (g_nx I2 j), J, R) 0 0
          refine q_top (w := nI (10 * j + (c + k))) (nI_add _ _) ?_
          refine q_k 1 ?_
          show q_W L (d + 4) 97 q_m97 Q 94 [some (.ref 192), some (.int (nI j)), some (.int (nI i)), some (.int (nI k))] [.int ((nI 2) * (nI (10 * j + (c + k)))), .ref 200] (n, q_up I3 200 (2 * (10 * j + (c + k))) (g_nx I2 j), J, R) 0 0
          refine q_top (w := nI (2 * (10 * j + (c + k)))) (pk_mul _ _) ?_
          refine q_k 2 ?_
          show q_W L (d + 4) 97 q_m97 Q 96 [some (.ref 192), some (.int (nI j)), some (.int (nI i)), some (.int (nI k))] [.int ((nI (2 * (10 * j + (c + k)))) + (nI 1)), .ref 200] (n, q_up I3 200 (2 * (10 * j + (c + k))) (g_nx I2 j), J, R) 0 0
          refine q_top (w := nI (2 * (10 * j + (c + k)) + 1)) (nI_add _ _) ?_
          refine q_k 1 ?_
          show q_W L (d + 4) 97 q_m97 Q 97 [some (.ref 192), some (.int (nI j)), some (.int (nI i)), some (.int (nI k))] [.ref 192, .int (nI (2 * (10 * j + (c + k)) + 1)), .ref 200] (n, q_up I3 200 (2 * (10 * j + (c + k))) (g_nx I2 j), J, R) 0 0
          refine q_gI rfl rfl (⟨Nat.lt_of_lt_of_le (by decide) hK.1, rfl⟩) ?_
          refine q_top (w := g_pub (g_nx I2 j)) (by rw [q_un (by decide)]; exact b3) ?_
          refine q_ias (m := 2 * (10 * j + (c + k)) + 1) rfl (⟨by decide, Nat.lt_of_lt_of_le (by decide) hK.1, rfl⟩) (by omega) (rfl) ?_
          refine q_k 1 ?_
          show q_W L (d + 4) 97 q_m97 Q 102 [some (.ref 192), some (.int (nI j)), some (.int (nI i)), some (.int (nI k))] [.ref 192] (n, q_up (q_up I3 200 (2 * (10 * j + (c + k))) (g_nx I2 j)) 200 (2 * (10 * j + (c + k)) + 1) (g_pub (g_nx I2 j)), J, R) 0 0
          refine q_gR (b := 203) rfl rfl (⟨Nat.lt_of_lt_of_le (by decide) hK.1, rfl⟩) (hK.2.1 192 10 203 rfl) ?_
          refine q_k 3 ?_
          show q_W L (d + 4) 97 q_m97 Q 109 [some (.ref 192), some (.int (nI j)), some (.int (nI i)), some (.int (nI k))] [.int ((nI 6) * (nI j)), .ref 203] (n, q_up (q_up I3 200 (2 * (10 * j + (c + k))) (g_nx I2 j)) 200 (2 * (10 * j + (c + k)) + 1) (g_pub (g_nx I2 j)), J, R) 0 0
          refine q_top (w := nI (6 * j)) (pk_mul _ _) ?_
          refine q_k 1 ?_
          show q_W L (d + 4) 97 q_m97 Q 110 [some (.ref 192), some (.int (nI j)), some (.int (nI i)), some (.int (nI k))] [.ref 192, .int (nI (6 * j)), .ref 203] (n, q_up (q_up I3 200 (2 * (10 * j + (c + k))) (g_nx I2 j)) 200 (2 * (10 * j + (c + k)) + 1) (g_pub (g_nx I2 j)), J, R) 0 0
          refine q_gR (b := 204) rfl rfl (⟨Nat.lt_of_lt_of_le (by decide) hK.1, rfl⟩) (hK.2.1 192 11 204 rfl) ?_
          refine q_k 1 ?_
          show q_W L (d + 4) 97 q_m97 Q 114 [some (.ref 192), some (.int (nI j)), some (.int (nI i)), some (.int (nI k))] [.int (nI j), .ref 204, .int (nI (6 * j)), .ref 203] (n, q_up (q_up I3 200 (2 * (10 * j + (c + k))) (g_nx I2 j)) 200 (2 * (10 * j + (c + k)) + 1) (g_pub (g_nx I2 j)), J, R) 0 0
          refine q_ial (m := j) rfl (⟨by decide, Nat.lt_of_lt_of_le (by decide) hK.1, rfl⟩) (hj) (rfl) ?_
          refine q_top (w := nI (f + k)) (by rw [q_un (by decide), q_un (by decide), f3 204 (by decide) (by decide) (by decide) (by decide) (by decide) (by decide)]; exact hI2.2.2.1) ?_
          refine q_k 1 ?_
          show q_W L (d + 4) 97 q_m97 Q 116 [some (.ref 192), some (.int (nI j)), some (.int (nI i)), some (.int (nI k))] [.int ((nI (6 * j)) + (nI (f + k))), .ref 203] (n, q_up (q_up I3 200 (2 * (10 * j + (c + k))) (g_nx I2 j)) 200 (2 * (10 * j + (c + k)) + 1) (g_pub (g_nx I2 j)), J, R) 0 0
          refine q_top (w := nI (6 * j + (f + k))) (nI_add _ _) ?_
          refine q_k 1 ?_
          show q_W L (d + 4) 97 q_m97 Q 117 [some (.ref 192), some (.int (nI j)), some (.int (nI i)), some (.int (nI k))] [.ref 192, .int (nI (6 * j + (f + k))), .ref 203] (n, q_up (q_up I3 200 (2 * (10 * j + (c + k))) (g_nx I2 j)) 200 (2 * (10 * j + (c + k)) + 1) (g_pub (g_nx I2 j)), J, R) 0 0
          refine q_gI rfl rfl (⟨Nat.lt_of_lt_of_le (by decide) hK.1, rfl⟩) ?_
          refine q_top (w := g_pub (g_nx I2 j)) (by rw [q_un (by decide), q_un (by decide)]; exact b3) ?_
          refine q_ias (m := 6 * j + (f + k)) rfl (⟨by decide, Nat.lt_of_lt_of_le (by decide) hK.1, rfl⟩) (by omega) (rfl) ?_
          refine q_k 1 ?_
          show q_W L (d + 4) 97 q_m97 Q 122 [some (.ref 192), some (.int (nI j)), some (.int (nI i)), some (.int (nI k))] [.ref 192] (n, q_up (q_up (q_up I3 200 (2 * (10 * j + (c + k))) (g_nx I2 j)) 200 (2 * (10 * j + (c + k)) + 1) (g_pub (g_nx I2 j))) 203 (6 * j + (f + k)) (g_pub (g_nx I2 j)), J, R) 0 0
          refine q_gR (b := 201) rfl rfl (⟨Nat.lt_of_lt_of_le (by decide) hK.1, rfl⟩) (hK.2.1 192 8 201 rfl) ?_
          refine q_k 2 ?_
          show q_W L (d + 4) 97 q_m97 Q 127 [some (.ref 192), some (.int (nI j)), some (.int (nI i)), some (.int (nI k))] [.int (nI j), .ref 201, .int (nI j), .ref 201] (n, q_up (q_up (q_up I3 200 (2 * (10 * j + (c + k))) (g_nx I2 j)) 200 (2 * (10 * j + (c + k)) + 1) (g_pub (g_nx I2 j))) 203 (6 * j + (f + k)) (g_pub (g_nx I2 j)), J, R) 0 0
          refine q_ial (m := j) rfl (⟨by decide, Nat.lt_of_lt_of_le (by decide) hK.1, rfl⟩) (hj) (rfl) ?_
          refine q_top (w := nI (c + k)) (by rw [q_un (by decide), q_un (by decide), q_un (by decide), f3 201 (by decide) (by decide) (by decide) (by decide) (by decide) (by decide)]; exact hI2.2.2.2) ?_
          refine q_k 2 ?_
          show q_W L (d + 4) 97 q_m97 Q 130 [some (.ref 192), some (.int (nI j)), some (.int (nI i)), some (.int (nI k))] [.int ((nI (c + k)) + (nI 1)), .int (nI j), .ref 201] (n, q_up (q_up (q_up I3 200 (2 * (10 * j + (c + k))) (g_nx I2 j)) 200 (2 * (10 * j + (c + k)) + 1) (g_pub (g_nx I2 j))) 203 (6 * j + (f + k)) (g_pub (g_nx I2 j)), J, R) 0 0
          refine q_top (w := nI (c + k + 1)) (nI_add _ _) ?_
          refine q_ias (m := j) rfl (⟨by decide, Nat.lt_of_lt_of_le (by decide) hK.1, rfl⟩) (hj) (rfl) ?_
          refine q_k 1 ?_
          show q_W L (d + 4) 97 q_m97 Q 132 [some (.ref 192), some (.int (nI j)), some (.int (nI i)), some (.int (nI k))] [.ref 192] (n, q_up (q_up (q_up (q_up I3 200 (2 * (10 * j + (c + k))) (g_nx I2 j)) 200 (2 * (10 * j + (c + k)) + 1) (g_pub (g_nx I2 j))) 203 (6 * j + (f + k)) (g_pub (g_nx I2 j))) 201 j (nI (c + k + 1)), J, R) 0 0
          refine q_gR (b := 204) rfl rfl (⟨Nat.lt_of_lt_of_le (by decide) hK.1, rfl⟩) (hK.2.1 192 11 204 rfl) ?_
          refine q_k 2 ?_
          show q_W L (d + 4) 97 q_m97 Q 137 [some (.ref 192), some (.int (nI j)), some (.int (nI i)), some (.int (nI k))] [.int (nI j), .ref 204, .int (nI j), .ref 204] (n, q_up (q_up (q_up (q_up I3 200 (2 * (10 * j + (c + k))) (g_nx I2 j)) 200 (2 * (10 * j + (c + k)) + 1) (g_pub (g_nx I2 j))) 203 (6 * j + (f + k)) (g_pub (g_nx I2 j))) 201 j (nI (c + k + 1)), J, R) 0 0
          refine q_ial (m := j) rfl (⟨by decide, Nat.lt_of_lt_of_le (by decide) hK.1, rfl⟩) (hj) (rfl) ?_
          refine q_top (w := nI (f + k)) (by rw [q_un (by decide), q_un (by decide), q_un (by decide), q_un (by decide), f3 204 (by decide) (by decide) (by decide) (by decide) (by decide) (by decide)]; exact hI2.2.2.1) ?_
          refine q_k 2 ?_
          show q_W L (d + 4) 97 q_m97 Q 140 [some (.ref 192), some (.int (nI j)), some (.int (nI i)), some (.int (nI k))] [.int ((nI (f + k)) + (nI 1)), .int (nI j), .ref 204] (n, q_up (q_up (q_up (q_up I3 200 (2 * (10 * j + (c + k))) (g_nx I2 j)) 200 (2 * (10 * j + (c + k)) + 1) (g_pub (g_nx I2 j))) 203 (6 * j + (f + k)) (g_pub (g_nx I2 j))) 201 j (nI (c + k + 1)), J, R) 0 0
          refine q_top (w := nI (f + k + 1)) (nI_add _ _) ?_
          refine q_ias (m := j) rfl (⟨by decide, Nat.lt_of_lt_of_le (by decide) hK.1, rfl⟩) (hj) (rfl) ?_
          obtain ⟨I4, eI4⟩ : ∃ zz9, zz9 = q_up (q_up (q_up (q_up (q_up I3 200 (2 * (10 * j + (c + k))) (g_nx I2 j)) 200 (2 * (10 * j + (c + k)) + 1) (g_pub (g_nx I2 j))) 203 (6 * j + (f + k)) (g_pub (g_nx I2 j))) 201 j (nI (c + k + 1))) 204 j (nI (f + k + 1)) := ⟨_, rfl⟩
          rw [← eI4]
          refine q_k 1 ?_
          show q_W L (d + 4) 97 q_m97 Q 144 [some (.ref 192), some (.int (nI j)), some (.int (nI i)), some (.int ((nI k) + nI 1))] [] (n, I4, J, R) 0 0
          rw [show (nI k) + nI 1 = nI (k + 1) from nI_add _ _]
          refine q_k 1 ?_
          show q_W L (d + 4) 97 q_m97 Q 23 [some (.ref 192), some (.int (nI j)), some (.int (nI i)), some (.int (nI (k + 1)))] [] (n, I4, J, R) 0 0
          refine ih _ ⟨⟨?_, ?_⟩, fun x hx => ?_, ?_, ?_⟩
          · have h7 : q_mq I4 (f_pk1 j (f + k) (c + k) I2) := by
              intro a ha hb
              rw [eI4]
              refine q_mq_up (q_mq_up (q_mq_up (q_mq_up (q_mq_up (fun b hb1 hb2 => ?_) rfl (by decide) (by decide)) rfl (by decide) (by decide)) rfl (by decide) (by decide)) rfl (by decide) (by decide)) rfl (by decide) (by decide) a ha hb
              by_cases e6 : b = 196
              · subst e6; rw [c3]; rfl
              · rw [f3 b (by omega) e6 (by omega) (by omega) (by omega) (by omega)]; exact (q_un e6).symm
            intro a ha hb
            rw [h7 a ha hb]
            exact f_pk1_c hI2.1.1 j (f + k) (c + k) a ha hb
          · rw [eI4, q_un (by decide), q_un (by decide), q_un (by decide), q_un (by decide), q_un (by decide), e3 16 (by decide) (by decide)]; exact hI2.1.2
          · rw [eI4, q_un (by omega), q_un (by omega), q_un (by omega), q_un (by omega), q_un (by omega), f3 x (by omega) (by omega) (by omega) (by omega) (by omega) (by omega)]; exact hI2.2.1 x hx
          · rw [eI4, q_usk]; rfl
          · rw [eI4, q_un (by decide), q_usk]; rfl
        · exact ⟨⟨fun _ _ _ => rfl, rfl⟩, q_mf_rf I, hf0, hc0⟩
      · skip
        refine q_k 1 ?_
        show q_W L (d + 4) 97 q_m97 Q 20 [some (.ref 192), some (.int (nI j)), some (.int w), none] [.int (-1)] (n, I, J, R) 0 0
        refine q_one rfl rfl ?_
        show Q (some (.int (-1))) (n, I, J, R)
        simp only [f_prekeys, if_neg h5, if_neg h10, if_neg h16] at hQ
        exact hQ I (q_ms_rf I) (q_mf_rf I)
