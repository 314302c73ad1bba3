set_option maxHeartbeats 1000000 in
theorem m_sign {L d n : Nat} {I : q_I} {J : q_L} {R : q_R} {Q : q_Q} {u : Nat} (hK : q_K0 n I R) (hu : u < 4) (hQ : ∀ I', (∀ a, 193 ≤ a → a ≤ 206 → I' a = f_sign u I a) → (∀ x, x ≠ 192 → x ≠ 196 → x ≠ 198 → x ≠ 202 → x ≠ 209 → x ≠ 210 → x ≠ 211 → x ≠ 212 → I' x = I x) → (∀ k, k ≠ 23 → k ≠ 24 → I' 192 k = I 192 k) → Q none (n, I', J, R)) : q_Ex L (d + 5) 94 [.ref 192, .int (nI u)] (n, I, J, R) Q := by
  refine q_in (x := q_m94) rfl rfl ?_
  show q_W L (d + 4) 94 q_m94 Q 0 [some (.ref 192), some (.int (nI u)), none] [] (n, I, J, R) 0 0
  refine q_k 2 ?_
  show q_W L (d + 4) 94 q_m94 Q 2 [some (.ref 192), some (.int (nI u)), none] [.int (nI u), .ref 192] (n, I, J, R) 0 0
  refine q_cv (as := [.int (nI u)]) (rs := []) rfl rfl rfl (⟨Nat.lt_of_lt_of_le (by decide) hK.1, rfl⟩) rfl rfl ?_
  refine m_draw (hK) (hu) (fun I1 a1 b1 c1 f1 e1 => ?_)
  show q_W L (d + 4) 94 q_m94 Q 5 [some (.ref 192), some (.int (nI u)), none] [] (n, I1, J, R) 0 0
  refine q_k 1 ?_
  show q_W L (d + 4) 94 q_m94 Q 6 [some (.ref 192), some (.int (nI u)), none] [.ref 192] (n, I1, J, R) 0 0
  refine q_gR (b := 198) rfl rfl (⟨Nat.lt_of_lt_of_le (by decide) hK.1, rfl⟩) (hK.2.1 192 5 198 rfl) ?_
  refine q_k 3 ?_
  show q_W L (d + 4) 94 q_m94 Q 12 [some (.ref 192), some (.int (nI u)), none] [.int ((nI 2) * (nI u)), .ref 198] (n, I1, J, R) 0 0
  refine q_top (w := nI (2 * u)) (pk_mul _ _) ?_
  refine q_k 1 ?_
  show q_W L (d + 4) 94 q_m94 Q 13 [some (.ref 192), some (.int (nI u)), none] [.ref 192, .int (nI (2 * u)), .ref 198] (n, I1, J, R) 0 0
  refine q_gI rfl rfl (⟨Nat.lt_of_lt_of_le (by decide) hK.1, rfl⟩) ?_
  refine q_top (w := g_nx I u) (a1) ?_
  refine q_ias (m := 2 * u) rfl (⟨by decide, Nat.lt_of_lt_of_le (by decide) hK.1, rfl⟩) (by omega) (rfl) ?_
  refine q_k 1 ?_
  show q_W L (d + 4) 94 q_m94 Q 18 [some (.ref 192), some (.int (nI u)), none] [.ref 192] (n, q_up I1 198 (2 * u) (g_nx I u), J, R) 0 0
  refine q_gR (b := 198) rfl rfl (⟨Nat.lt_of_lt_of_le (by decide) hK.1, rfl⟩) (hK.2.1 192 5 198 rfl) ?_
  refine q_k 3 ?_
  show q_W L (d + 4) 94 q_m94 Q 24 [some (.ref 192), some (.int (nI u)), none] [.int ((nI 2) * (nI u)), .ref 198] (n, q_up I1 198 (2 * u) (g_nx I u), J, R) 0 0
  refine q_top (w := nI (2 * u)) (pk_mul _ _) ?_
  refine q_k 2 ?_
  show q_W L (d + 4) 94 q_m94 Q 26 [some (.ref 192), some (.int (nI u)), none] [.int ((nI (2 * u)) + (nI 1)), .ref 198] (n, q_up I1 198 (2 * u) (g_nx I u), J, R) 0 0
  refine q_top (w := nI (2 * u + 1)) (nI_add _ _) ?_
  refine q_k 1 ?_
  show q_W L (d + 4) 94 q_m94 Q 27 [some (.ref 192), some (.int (nI u)), none] [.ref 192, .int (nI (2 * u + 1)), .ref 198] (n, q_up I1 198 (2 * u) (g_nx I u), J, R) 0 0
  refine q_gI rfl rfl (⟨Nat.lt_of_lt_of_le (by decide) hK.1, rfl⟩) ?_
  refine q_top (w := g_pub (g_nx I u)) (b1) ?_
  refine q_ias (m := 2 * u + 1) rfl (⟨by decide, Nat.lt_of_lt_of_le (by decide) hK.1, rfl⟩) (by omega) (rfl) ?_
  obtain ⟨I2, eI2⟩ : ∃ zz9, zz9 = q_up (q_up I1 198 (2 * u) (g_nx I u)) 198 (2 * u + 1) (g_pub (g_nx I u)) := ⟨_, rfl⟩
  rw [← eI2]
  refine q_k 2 ?_
  show q_W L (d + 4) 94 q_m94 Q 33 [some (.ref 192), some (.int (nI u)), none] [.int (nI u), .ref 192] (n, I2, J, R) 0 0
  refine q_cv (as := [.int (nI u)]) (rs := []) rfl rfl rfl (⟨Nat.lt_of_lt_of_le (by decide) hK.1, rfl⟩) rfl rfl ?_
  refine m_draw (q_K0_to hK (by rw [eI2, q_un (by decide), q_un (by decide), f1 0 (by decide) (by decide) (by decide) (by decide) (by decide) (by decide)]) (by rw [eI2, q_un (by decide), q_un (by decide), f1 1 (by decide) (by decide) (by decide) (by decide) (by decide) (by decide)])) (hu) (fun I3 a3 b3 c3 f3 e3 => ?_)
  have hk2 : g_priv (I2 194 u) (I2 195 u) u (I2 196 u + nI 1) = g_nx (f_sg1 u I) u := by
    have e4 : I2 194 = I 194 := by rw [eI2, q_un (by decide), q_un (by decide), f1 194 (by decide) (by decide) (by decide) (by decide) (by decide) (by decide)]
    have e5 : I2 195 = I 195 := by rw [eI2, q_un (by decide), q_un (by decide), f1 195 (by decide) (by decide) (by decide) (by decide) (by decide) (by decide)]
    have e6 : I2 196 = va_up (I 196) u (I 196 u + nI 1) := by rw [eI2, q_un (by decide), q_un (by decide), c1]
    rw [e4, e5, e6]
    rfl
  show q_W L (d + 4) 94 q_m94 Q 36 [some (.ref 192), some (.int (nI u)), none] [] (n, I3, J, R) 0 0
  refine q_k 2 ?_
  show q_W L (d + 4) 94 q_m94 Q 38 [some (.ref 192), some (.int (nI u)), none] [.ref 192, .ref 192] (n, I3, J, R) 0 0
  refine q_gR (b := 197) rfl rfl (⟨Nat.lt_of_lt_of_le (by decide) hK.1, rfl⟩) (hK.2.1 192 4 197 rfl) ?_
  refine q_k 3 ?_
  show q_W L (d + 4) 94 q_m94 Q 44 [some (.ref 192), some (.int (nI u)), none] [.int ((nI 2) * (nI u)), .ref 197, .ref 192] (n, I3, J, R) 0 0
  refine q_top (w := nI (2 * u)) (pk_mul _ _) ?_
  refine q_k 2 ?_
  show q_W L (d + 4) 94 q_m94 Q 46 [some (.ref 192), some (.int (nI u)), none] [.int ((nI (2 * u)) + (nI 1)), .ref 197, .ref 192] (n, I3, J, R) 0 0
  refine q_top (w := nI (2 * u + 1)) (nI_add _ _) ?_
  refine q_ial (m := 2 * u + 1) rfl (⟨by decide, Nat.lt_of_lt_of_le (by decide) hK.1, rfl⟩) (by omega) (rfl) ?_
  refine q_top (w := I 197 (2 * u + 1)) (by rw [f3 197 (by decide) (by decide) (by decide) (by decide) (by decide) (by decide), eI2, q_un (by decide), q_un (by decide), f1 197 (by decide) (by decide) (by decide) (by decide) (by decide) (by decide)]) ?_
  refine q_k 1 ?_
  show q_W L (d + 4) 94 q_m94 Q 48 [some (.ref 192), some (.int (nI u)), none] [.ref 192, .int (I 197 (2 * u + 1)), .ref 192] (n, I3, J, R) 0 0
  refine q_gR (b := 198) rfl rfl (⟨Nat.lt_of_lt_of_le (by decide) hK.1, rfl⟩) (hK.2.1 192 5 198 rfl) ?_
  refine q_k 3 ?_
  show q_W L (d + 4) 94 q_m94 Q 54 [some (.ref 192), some (.int (nI u)), none] [.int ((nI 2) * (nI u)), .ref 198, .int (I 197 (2 * u + 1)), .ref 192] (n, I3, J, R) 0 0
  refine q_top (w := nI (2 * u)) (pk_mul _ _) ?_
  refine q_k 2 ?_
  show q_W L (d + 4) 94 q_m94 Q 56 [some (.ref 192), some (.int (nI u)), none] [.int ((nI (2 * u)) + (nI 1)), .ref 198, .int (I 197 (2 * u + 1)), .ref 192] (n, I3, J, R) 0 0
  refine q_top (w := nI (2 * u + 1)) (nI_add _ _) ?_
  refine q_ial (m := 2 * u + 1) rfl (⟨by decide, Nat.lt_of_lt_of_le (by decide) hK.1, rfl⟩) (by omega) (rfl) ?_
  refine q_top (w := g_pub (g_nx I u)) (by rw [f3 198 (by decide) (by decide) (by decide) (by decide) (by decide) (by decide), eI2, q_usk]) ?_
  refine q_k 1 ?_
  show q_W L (d + 4) 94 q_m94 Q 58 [some (.ref 192), some (.int (nI u)), none] [.ref 192, .int (g_pub (g_nx I u)), .int (I 197 (2 * u + 1)), .ref 192] (n, I3, J, R) 0 0
  refine q_gI rfl rfl (⟨Nat.lt_of_lt_of_le (by decide) hK.1, rfl⟩) ?_
  refine q_top (w := g_pub (g_nx (f_sg1 u I) u)) (b3.trans (by rw [hk2])) ?_
  refine q_cv (as := [.int (I 197 (2 * u + 1)), .int (g_pub (g_nx I u)), .int (g_pub (g_nx (f_sg1 u I) u))]) (rs := []) rfl rfl rfl (⟨Nat.lt_of_lt_of_le (by decide) hK.1, rfl⟩) rfl rfl ?_
  refine m_hash (q_K0_to hK (by rw [f3 0 (by decide) (by decide) (by decide) (by decide) (by decide) (by decide), eI2, q_un (by decide), q_un (by decide), f1 0 (by decide) (by decide) (by decide) (by decide) (by decide) (by decide)]) (by rw [f3 1 (by decide) (by decide) (by decide) (by decide) (by decide) (by decide), eI2, q_un (by decide), q_un (by decide), f1 1 (by decide) (by decide) (by decide) (by decide) (by decide) (by decide)])) (fun I4 f4 => ?_)
  show q_W L (d + 4) 94 q_m94 Q 64 [some (.ref 192), some (.int (nI u)), none] [.int (g_hash (I 197 (2 * u + 1)) (g_pub (g_nx I u)) (g_pub (g_nx (f_sg1 u I) u)))] (n, I4, J, R) 0 0
  refine q_k 2 ?_
  show q_W L (d + 4) 94 q_m94 Q 66 [some (.ref 192), some (.int (nI u)), some (.int (g_hash (I 197 (2 * u + 1)) (g_pub (g_nx I u)) (g_pub (g_nx (f_sg1 u I) u))))] [.ref 192] (n, I4, J, R) 0 0
  refine q_gR (b := 202) rfl rfl (⟨Nat.lt_of_lt_of_le (by decide) hK.1, rfl⟩) (hK.2.1 192 9 202 rfl) ?_
  refine q_k 3 ?_
  show q_W L (d + 4) 94 q_m94 Q 72 [some (.ref 192), some (.int (nI u)), some (.int (g_hash (I 197 (2 * u + 1)) (g_pub (g_nx I u)) (g_pub (g_nx (f_sg1 u I) u))))] [.int ((nI 4) * (nI u)), .ref 202] (n, I4, J, R) 0 0
  refine q_top (w := nI (4 * u)) (pk_mul _ _) ?_
  refine q_k 1 ?_
  show q_W L (d + 4) 94 q_m94 Q 73 [some (.ref 192), some (.int (nI u)), some (.int (g_hash (I 197 (2 * u + 1)) (g_pub (g_nx I u)) (g_pub (g_nx (f_sg1 u I) u))))] [.ref 192, .int (nI (4 * u)), .ref 202] (n, I4, J, R) 0 0
  refine q_gR (b := 197) rfl rfl (⟨Nat.lt_of_lt_of_le (by decide) hK.1, rfl⟩) (hK.2.1 192 4 197 rfl) ?_
  refine q_k 3 ?_
  show q_W L (d + 4) 94 q_m94 Q 79 [some (.ref 192), some (.int (nI u)), some (.int (g_hash (I 197 (2 * u + 1)) (g_pub (g_nx I u)) (g_pub (g_nx (f_sg1 u I) u))))] [.int ((nI 2) * (nI u)), .ref 197, .int (nI (4 * u)), .ref 202] (n, I4, J, R) 0 0
  refine q_top (w := nI (2 * u)) (pk_mul _ _) ?_
  refine q_k 2 ?_
  show q_W L (d + 4) 94 q_m94 Q 81 [some (.ref 192), some (.int (nI u)), some (.int (g_hash (I 197 (2 * u + 1)) (g_pub (g_nx I u)) (g_pub (g_nx (f_sg1 u I) u))))] [.int ((nI (2 * u)) + (nI 1)), .ref 197, .int (nI (4 * u)), .ref 202] (n, I4, J, R) 0 0
  refine q_top (w := nI (2 * u + 1)) (nI_add _ _) ?_
  refine q_ial (m := 2 * u + 1) rfl (⟨by decide, Nat.lt_of_lt_of_le (by decide) hK.1, rfl⟩) (by omega) (rfl) ?_
  refine q_top (w := I 197 (2 * u + 1)) (by rw [f4 197 (by decide) (by decide) (by decide) (by decide), f3 197 (by decide) (by decide) (by decide) (by decide) (by decide) (by decide), eI2, q_un (by decide), q_un (by decide), f1 197 (by decide) (by decide) (by decide) (by decide) (by decide) (by decide)]) ?_
  refine q_ias (m := 4 * u) rfl (⟨by decide, Nat.lt_of_lt_of_le (by decide) hK.1, rfl⟩) (by omega) (rfl) ?_
  refine q_k 1 ?_
  show q_W L (d + 4) 94 q_m94 Q 84 [some (.ref 192), some (.int (nI u)), some (.int (g_hash (I 197 (2 * u + 1)) (g_pub (g_nx I u)) (g_pub (g_nx (f_sg1 u I) u))))] [.ref 192] (n, q_up I4 202 (4 * u) (I 197 (2 * u + 1)), J, R) 0 0
  refine q_gR (b := 202) rfl rfl (⟨Nat.lt_of_lt_of_le (by decide) hK.1, rfl⟩) (hK.2.1 192 9 202 rfl) ?_
  refine q_k 3 ?_
  show q_W L (d + 4) 94 q_m94 Q 90 [some (.ref 192), some (.int (nI u)), some (.int (g_hash (I 197 (2 * u + 1)) (g_pub (g_nx I u)) (g_pub (g_nx (f_sg1 u I) u))))] [.int ((nI 4) * (nI u)), .ref 202] (n, q_up I4 202 (4 * u) (I 197 (2 * u + 1)), J, R) 0 0
  refine q_top (w := nI (4 * u)) (pk_mul _ _) ?_
  refine q_k 2 ?_
  show q_W L (d + 4) 94 q_m94 Q 92 [some (.ref 192), some (.int (nI u)), some (.int (g_hash (I 197 (2 * u + 1)) (g_pub (g_nx I u)) (g_pub (g_nx (f_sg1 u I) u))))] [.int ((nI (4 * u)) + (nI 1)), .ref 202] (n, q_up I4 202 (4 * u) (I 197 (2 * u + 1)), J, R) 0 0
  refine q_top (w := nI (4 * u + 1)) (nI_add _ _) ?_
  refine q_k 1 ?_
  show q_W L (d + 4) 94 q_m94 Q 93 [some (.ref 192), some (.int (nI u)), some (.int (g_hash (I 197 (2 * u + 1)) (g_pub (g_nx I u)) (g_pub (g_nx (f_sg1 u I) u))))] [.ref 192, .int (nI (4 * u + 1)), .ref 202] (n, q_up I4 202 (4 * u) (I 197 (2 * u + 1)), J, R) 0 0
  refine q_gR (b := 198) rfl rfl (⟨Nat.lt_of_lt_of_le (by decide) hK.1, rfl⟩) (hK.2.1 192 5 198 rfl) ?_
  refine q_k 3 ?_
  show q_W L (d + 4) 94 q_m94 Q 99 [some (.ref 192), some (.int (nI u)), some (.int (g_hash (I 197 (2 * u + 1)) (g_pub (g_nx I u)) (g_pub (g_nx (f_sg1 u I) u))))] [.int ((nI 2) * (nI u)), .ref 198, .int (nI (4 * u + 1)), .ref 202] (n, q_up I4 202 (4 * u) (I 197 (2 * u + 1)), J, R) 0 0
  refine q_top (w := nI (2 * u)) (pk_mul _ _) ?_
  refine q_k 2 ?_
  show q_W L (d + 4) 94 q_m94 Q 101 [some (.ref 192), some (.int (nI u)), some (.int (g_hash (I 197 (2 * u + 1)) (g_pub (g_nx I u)) (g_pub (g_nx (f_sg1 u I) u))))] [.int ((nI (2 * u)) + (nI 1)), .ref 198, .int (nI (4 * u + 1)), .ref 202] (n, q_up I4 202 (4 * u) (I 197 (2 * u + 1)), J, R) 0 0
  refine q_top (w := nI (2 * u + 1)) (nI_add _ _) ?_
  refine q_ial (m := 2 * u + 1) rfl (⟨by decide, Nat.lt_of_lt_of_le (by decide) hK.1, rfl⟩) (by omega) (rfl) ?_
  refine q_top (w := g_pub (g_nx I u)) (by rw [q_un (by decide), f4 198 (by decide) (by decide) (by decide) (by decide), f3 198 (by decide) (by decide) (by decide) (by decide) (by decide) (by decide), eI2, q_usk]) ?_
  refine q_ias (m := 4 * u + 1) rfl (⟨by decide, Nat.lt_of_lt_of_le (by decide) hK.1, rfl⟩) (by omega) (rfl) ?_
  refine q_k 1 ?_
  show q_W L (d + 4) 94 q_m94 Q 104 [some (.ref 192), some (.int (nI u)), some (.int (g_hash (I 197 (2 * u + 1)) (g_pub (g_nx I u)) (g_pub (g_nx (f_sg1 u I) u))))] [.ref 192] (n, q_up (q_up I4 202 (4 * u) (I 197 (2 * u + 1))) 202 (4 * u + 1) (g_pub (g_nx I u)), J, R) 0 0
  refine q_gR (b := 202) rfl rfl (⟨Nat.lt_of_lt_of_le (by decide) hK.1, rfl⟩) (hK.2.1 192 9 202 rfl) ?_
  refine q_k 3 ?_
  show q_W L (d + 4) 94 q_m94 Q 110 [some (.ref 192), some (.int (nI u)), some (.int (g_hash (I 197 (2 * u + 1)) (g_pub (g_nx I u)) (g_pub (g_nx (f_sg1 u I) u))))] [.int ((nI 4) * (nI u)), .ref 202] (n, q_up (q_up I4 202 (4 * u) (I 197 (2 * u + 1))) 202 (4 * u + 1) (g_pub (g_nx I u)), J, R) 0 0
  refine q_top (w := nI (4 * u)) (pk_mul _ _) ?_
  refine q_k 2 ?_
  show q_W L (d + 4) 94 q_m94 Q 112 [some (.ref 192), some (.int (nI u)), some (.int (g_hash (I 197 (2 * u + 1)) (g_pub (g_nx I u)) (g_pub (g_nx (f_sg1 u I) u))))] [.int ((nI (4 * u)) + (nI 2)), .ref 202] (n, q_up (q_up I4 202 (4 * u) (I 197 (2 * u + 1))) 202 (4 * u + 1) (g_pub (g_nx I u)), J, R) 0 0
  refine q_top (w := nI (4 * u + 2)) (nI_add _ _) ?_
  refine q_k 1 ?_
  show q_W L (d + 4) 94 q_m94 Q 113 [some (.ref 192), some (.int (nI u)), some (.int (g_hash (I 197 (2 * u + 1)) (g_pub (g_nx I u)) (g_pub (g_nx (f_sg1 u I) u))))] [.ref 192, .int (nI (4 * u + 2)), .ref 202] (n, q_up (q_up I4 202 (4 * u) (I 197 (2 * u + 1))) 202 (4 * u + 1) (g_pub (g_nx I u)), J, R) 0 0
  refine q_gI rfl rfl (⟨Nat.lt_of_lt_of_le (by decide) hK.1, rfl⟩) ?_
  refine q_top (w := g_pub (g_nx (f_sg1 u I) u)) (by rw [q_un (by decide), q_un (by decide), f4 192 (by decide) (by decide) (by decide) (by decide), b3, hk2]) ?_
  refine q_ias (m := 4 * u + 2) rfl (⟨by decide, Nat.lt_of_lt_of_le (by decide) hK.1, rfl⟩) (by omega) (rfl) ?_
  refine q_k 1 ?_
  show q_W L (d + 4) 94 q_m94 Q 118 [some (.ref 192), some (.int (nI u)), some (.int (g_hash (I 197 (2 * u + 1)) (g_pub (g_nx I u)) (g_pub (g_nx (f_sg1 u I) u))))] [.ref 192] (n, q_up (q_up (q_up I4 202 (4 * u) (I 197 (2 * u + 1))) 202 (4 * u + 1) (g_pub (g_nx I u))) 202 (4 * u + 2) (g_pub (g_nx (f_sg1 u I) u)), J, R) 0 0
  refine q_gR (b := 202) rfl rfl (⟨Nat.lt_of_lt_of_le (by decide) hK.1, rfl⟩) (hK.2.1 192 9 202 rfl) ?_
  refine q_k 3 ?_
  show q_W L (d + 4) 94 q_m94 Q 124 [some (.ref 192), some (.int (nI u)), some (.int (g_hash (I 197 (2 * u + 1)) (g_pub (g_nx I u)) (g_pub (g_nx (f_sg1 u I) u))))] [.int ((nI 4) * (nI u)), .ref 202] (n, q_up (q_up (q_up I4 202 (4 * u) (I 197 (2 * u + 1))) 202 (4 * u + 1) (g_pub (g_nx I u))) 202 (4 * u + 2) (g_pub (g_nx (f_sg1 u I) u)), J, R) 0 0
  refine q_top (w := nI (4 * u)) (pk_mul _ _) ?_
  refine q_k 2 ?_
  show q_W L (d + 4) 94 q_m94 Q 126 [some (.ref 192), some (.int (nI u)), some (.int (g_hash (I 197 (2 * u + 1)) (g_pub (g_nx I u)) (g_pub (g_nx (f_sg1 u I) u))))] [.int ((nI (4 * u)) + (nI 3)), .ref 202] (n, q_up (q_up (q_up I4 202 (4 * u) (I 197 (2 * u + 1))) 202 (4 * u + 1) (g_pub (g_nx I u))) 202 (4 * u + 2) (g_pub (g_nx (f_sg1 u I) u)), J, R) 0 0
  refine q_top (w := nI (4 * u + 3)) (nI_add _ _) ?_
  refine q_k 1 ?_
  show q_W L (d + 4) 94 q_m94 Q 127 [some (.ref 192), some (.int (nI u)), some (.int (g_hash (I 197 (2 * u + 1)) (g_pub (g_nx I u)) (g_pub (g_nx (f_sg1 u I) u))))] [.ref 192, .int (nI (4 * u + 3)), .ref 202] (n, q_up (q_up (q_up I4 202 (4 * u) (I 197 (2 * u + 1))) 202 (4 * u + 1) (g_pub (g_nx I u))) 202 (4 * u + 2) (g_pub (g_nx (f_sg1 u I) u)), J, R) 0 0
  refine q_gI rfl rfl (⟨Nat.lt_of_lt_of_le (by decide) hK.1, rfl⟩) ?_
  refine q_top (w := g_nx (f_sg1 u I) u) (by rw [q_un (by decide), q_un (by decide), q_un (by decide), f4 192 (by decide) (by decide) (by decide) (by decide), a3, hk2]) ?_
  refine q_k 2 ?_
  show q_W L (d + 4) 94 q_m94 Q 132 [some (.ref 192), some (.int (nI u)), some (.int (g_hash (I 197 (2 * u + 1)) (g_pub (g_nx I u)) (g_pub (g_nx (f_sg1 u I) u))))] [.ref 192, .long ((g_nx (f_sg1 u I) u).toInt64), .int (nI (4 * u + 3)), .ref 202] (n, q_up (q_up (q_up I4 202 (4 * u) (I 197 (2 * u + 1))) 202 (4 * u + 1) (g_pub (g_nx I u))) 202 (4 * u + 2) (g_pub (g_nx (f_sg1 u I) u)), J, R) 0 0
  refine q_gR (b := 197) rfl rfl (⟨Nat.lt_of_lt_of_le (by decide) hK.1, rfl⟩) (hK.2.1 192 4 197 rfl) ?_
  refine q_k 3 ?_
  show q_W L (d + 4) 94 q_m94 Q 138 [some (.ref 192), some (.int (nI u)), some (.int (g_hash (I 197 (2 * u + 1)) (g_pub (g_nx I u)) (g_pub (g_nx (f_sg1 u I) u))))] [.int ((nI 2) * (nI u)), .ref 197, .long ((g_nx (f_sg1 u I) u).toInt64), .int (nI (4 * u + 3)), .ref 202] (n, q_up (q_up (q_up I4 202 (4 * u) (I 197 (2 * u + 1))) 202 (4 * u + 1) (g_pub (g_nx I u))) 202 (4 * u + 2) (g_pub (g_nx (f_sg1 u I) u)), J, R) 0 0
  refine q_top (w := nI (2 * u)) (pk_mul _ _) ?_
  refine q_ial (m := 2 * u) rfl (⟨by decide, Nat.lt_of_lt_of_le (by decide) hK.1, rfl⟩) (by omega) (rfl) ?_
  refine q_top (w := I 197 (2 * u)) (by rw [q_un (by decide), q_un (by decide), q_un (by decide), f4 197 (by decide) (by decide) (by decide) (by decide), f3 197 (by decide) (by decide) (by decide) (by decide) (by decide) (by decide), eI2, q_un (by decide), q_un (by decide), f1 197 (by decide) (by decide) (by decide) (by decide) (by decide) (by decide)]) ?_
  refine q_k 6 ?_
  show q_W L (d + 4) 94 q_m94 Q 147 [some (.ref 192), some (.int (nI u)), some (.int (g_hash (I 197 (2 * u + 1)) (g_pub (g_nx I u)) (g_pub (g_nx (f_sg1 u I) u))))] [.long (lN 2147483646), .long (((g_nx (f_sg1 u I) u).toInt64) + (((I 197 (2 * u)).toInt64) * ((g_hash (I 197 (2 * u + 1)) (g_pub (g_nx I u)) (g_pub (g_nx (f_sg1 u I) u))).toInt64))), .int (nI (4 * u + 3)), .ref 202] (n, q_up (q_up (q_up I4 202 (4 * u) (I 197 (2 * u + 1))) 202 (4 * u + 1) (g_pub (g_nx I u))) 202 (4 * u + 2) (g_pub (g_nx (f_sg1 u I) u)), J, R) 0 0
  refine q_one rfl rfl ?_
  show ¬ (lN 2147483646) = 0 ∧ q_W L (d + 4) 94 q_m94 Q 148 [some (.ref 192), some (.int (nI u)), some (.int (g_hash (I 197 (2 * u + 1)) (g_pub (g_nx I u)) (g_pub (g_nx (f_sg1 u I) u))))] [.long ((((g_nx (f_sg1 u I) u).toInt64) + (((I 197 (2 * u)).toInt64) * ((g_hash (I 197 (2 * u + 1)) (g_pub (g_nx I u)) (g_pub (g_nx (f_sg1 u I) u))).toInt64))) - (((g_nx (f_sg1 u I) u).toInt64) + (((I 197 (2 * u)).toInt64) * ((g_hash (I 197 (2 * u + 1)) (g_pub (g_nx I u)) (g_pub (g_nx (f_sg1 u I) u))).toInt64))) / (lN 2147483646) * (lN 2147483646)), .int (nI (4 * u + 3)), .ref 202] (n, q_up (q_up (q_up I4 202 (4 * u) (I 197 (2 * u + 1))) 202 (4 * u + 1) (g_pub (g_nx I u))) 202 (4 * u + 2) (g_pub (g_nx (f_sg1 u I) u)), J, R) 0 0
  refine ⟨by decide +kernel, ?_⟩
  refine q_k 1 ?_
  show q_W L (d + 4) 94 q_m94 Q 149 [some (.ref 192), some (.int (nI u)), some (.int (g_hash (I 197 (2 * u + 1)) (g_pub (g_nx I u)) (g_pub (g_nx (f_sg1 u I) u))))] [.int (((((g_nx (f_sg1 u I) u).toInt64) + (((I 197 (2 * u)).toInt64) * ((g_hash (I 197 (2 * u + 1)) (g_pub (g_nx I u)) (g_pub (g_nx (f_sg1 u I) u))).toInt64))) - (((g_nx (f_sg1 u I) u).toInt64) + (((I 197 (2 * u)).toInt64) * ((g_hash (I 197 (2 * u + 1)) (g_pub (g_nx I u)) (g_pub (g_nx (f_sg1 u I) u))).toInt64))) / (lN 2147483646) * (lN 2147483646)).toInt32), .int (nI (4 * u + 3)), .ref 202] (n, q_up (q_up (q_up I4 202 (4 * u) (I 197 (2 * u + 1))) 202 (4 * u + 1) (g_pub (g_nx I u))) 202 (4 * u + 2) (g_pub (g_nx (f_sg1 u I) u)), J, R) 0 0
  refine q_ias (m := 4 * u + 3) rfl (⟨by decide, Nat.lt_of_lt_of_le (by decide) hK.1, rfl⟩) (by omega) (rfl) ?_
  obtain ⟨I5, eI5⟩ : ∃ zz9, zz9 = q_up (q_up (q_up (q_up I4 202 (4 * u) (I 197 (2 * u + 1))) 202 (4 * u + 1) (g_pub (g_nx I u))) 202 (4 * u + 2) (g_pub (g_nx (f_sg1 u I) u))) 202 (4 * u + 3) (((((g_nx (f_sg1 u I) u).toInt64) + (((I 197 (2 * u)).toInt64) * ((g_hash (I 197 (2 * u + 1)) (g_pub (g_nx I u)) (g_pub (g_nx (f_sg1 u I) u))).toInt64))) - (((g_nx (f_sg1 u I) u).toInt64) + (((I 197 (2 * u)).toInt64) * ((g_hash (I 197 (2 * u + 1)) (g_pub (g_nx I u)) (g_pub (g_nx (f_sg1 u I) u))).toInt64))) / (lN 2147483646) * (lN 2147483646)).toInt32) := ⟨_, rfl⟩
  rw [← eI5]
  refine q_one rfl rfl ?_
  show Q (none) (n, I5, J, R)
  refine hQ I5 (fun a h193 h206 => ?_) (fun y h192 h196 h198 h202 h9 h10 h11 h12 => ?_) (fun k h23 h24 => ?_)
  · rw [eI5]
    by_cases e2 : a = 202
    · subst e2
      rw [q_us, q_us, q_us, q_us, f4 202 (by decide) (by decide) (by decide) (by decide), f3 202 (by decide) (by decide) (by decide) (by decide) (by decide) (by decide), eI2, q_un (by decide), q_un (by decide), f1 202 (by decide) (by decide) (by decide) (by decide) (by decide) (by decide)]
      unfold f_sign f_sg2
      rw [q_us, q_us, q_us, q_us]
      simp [f_draw, f_sg1, q_up, va_up, g_prf]
    · rw [q_un e2, q_un e2, q_un e2, q_un e2, show f_sign u I a = f_draw u (f_sg1 u I) a from by unfold f_sign f_sg2; rw [q_un e2, q_un e2, q_un e2, q_un e2], f4 a (by omega) (by omega) (by omega) (by omega)]
      by_cases e6 : a = 196
      · subst e6
        rw [c3, eI2, q_un (by decide), q_un (by decide), c1]
        rfl
      · rw [f3 a (by omega) e6 (by omega) (by omega) (by omega) (by omega), eI2, show f_draw u (f_sg1 u I) a = f_sg1 u I a from q_un e6]
        unfold f_sg1
        by_cases e8 : a = 198
        · subst e8; rw [q_us, q_us, q_us, q_us, f1 198 (by decide) (by decide) (by decide) (by decide) (by decide) (by decide)]; rfl
        · rw [q_un e8, q_un e8, q_un e8, q_un e8, f1 a (by omega) e6 (by omega) (by omega) (by omega) (by omega)]; exact (q_un e6).symm
  · rw [eI5, q_un h202, q_un h202, q_un h202, q_un h202, f4 y h9 h10 h11 h12, f3 y h192 h196 h9 h10 h11 h12, eI2, q_un h198, q_un h198, f1 y h192 h196 h9 h10 h11 h12]
  · rw [eI5, q_un (by decide), q_un (by decide), q_un (by decide), q_un (by decide), f4 192 (by decide) (by decide) (by decide) (by decide), e3 k h23 h24, eI2, q_un (by decide), q_un (by decide), e1 k h23 h24]
set_option maxHeartbeats 1000000 in
theorem m_holds {L d n : Nat} {I : q_I} {J : q_L} {R : q_R} {Q : q_Q} {u : Nat} (hK : q_K0 n I R) (hu : u < 4) (hQ : ∀ I', (∀ x, x ≠ 209 → x ≠ 210 → x ≠ 211 → x ≠ 212 → I' x = I x) → Q (some (.int (g_holds (I 202 (4 * u)) (I 202 (4 * u + 1)) (I 202 (4 * u + 2)) (I 202 (4 * u + 3))))) (n, I', J, R)) : q_Ex L (d + 5) 99 [.ref 192, .int (nI u)] (n, I, J, R) Q := by
  refine q_in (x := q_m99) rfl rfl ?_
  show q_W L (d + 4) 99 q_m99 Q 0 [some (.ref 192), some (.int (nI u)), none, none, none, none] [] (n, I, J, R) 0 0
  refine q_k 1 ?_
  show q_W L (d + 4) 99 q_m99 Q 1 [some (.ref 192), some (.int (nI u)), none, none, none, none] [.ref 192] (n, I, J, R) 0 0
  refine q_gR (b := 202) rfl rfl (⟨Nat.lt_of_lt_of_le (by decide) hK.1, rfl⟩) (hK.2.1 192 9 202 rfl) ?_
  refine q_k 3 ?_
  show q_W L (d + 4) 99 q_m99 Q 7 [some (.ref 192), some (.int (nI u)), none, none, none, none] [.int ((nI 4) * (nI u)), .ref 202] (n, I, J, R) 0 0
  refine q_top (w := nI (4 * u)) (pk_mul _ _) ?_
  refine q_ial (m := 4 * u) rfl (⟨by decide, Nat.lt_of_lt_of_le (by decide) hK.1, rfl⟩) (by omega) (rfl) ?_
  refine q_k 1 ?_
  show q_W L (d + 4) 99 q_m99 Q 9 [some (.ref 192), some (.int (nI u)), some (.int (I 202 (4 * u))), none, none, none] [] (n, I, J, R) 0 0
  obtain ⟨x, ex⟩ : ∃ zz9, zz9 = I 202 (4 * u) := ⟨_, rfl⟩
  rw [← ex]
  refine q_k 1 ?_
  show q_W L (d + 4) 99 q_m99 Q 10 [some (.ref 192), some (.int (nI u)), some (.int x), none, none, none] [.ref 192] (n, I, J, R) 0 0
  refine q_gR (b := 202) rfl rfl (⟨Nat.lt_of_lt_of_le (by decide) hK.1, rfl⟩) (hK.2.1 192 9 202 rfl) ?_
  refine q_k 3 ?_
  show q_W L (d + 4) 99 q_m99 Q 16 [some (.ref 192), some (.int (nI u)), some (.int x), none, none, none] [.int ((nI 4) * (nI u)), .ref 202] (n, I, J, R) 0 0
  refine q_top (w := nI (4 * u)) (pk_mul _ _) ?_
  refine q_k 2 ?_
  show q_W L (d + 4) 99 q_m99 Q 18 [some (.ref 192), some (.int (nI u)), some (.int x), none, none, none] [.int ((nI (4 * u)) + (nI 1)), .ref 202] (n, I, J, R) 0 0
  refine q_top (w := nI (4 * u + 1)) (nI_add _ _) ?_
  refine q_ial (m := 4 * u + 1) rfl (⟨by decide, Nat.lt_of_lt_of_le (by decide) hK.1, rfl⟩) (by omega) (rfl) ?_
  refine q_k 1 ?_
  show q_W L (d + 4) 99 q_m99 Q 20 [some (.ref 192), some (.int (nI u)), some (.int x), some (.int (I 202 (4 * u + 1))), none, none] [] (n, I, J, R) 0 0
  obtain ⟨s, es⟩ : ∃ zz9, zz9 = I 202 (4 * u + 1) := ⟨_, rfl⟩
  rw [← es]
  refine q_k 1 ?_
  show q_W L (d + 4) 99 q_m99 Q 21 [some (.ref 192), some (.int (nI u)), some (.int x), some (.int s), none, none] [.ref 192] (n, I, J, R) 0 0
  refine q_gR (b := 202) rfl rfl (⟨Nat.lt_of_lt_of_le (by decide) hK.1, rfl⟩) (hK.2.1 192 9 202 rfl) ?_
  refine q_k 3 ?_
  show q_W L (d + 4) 99 q_m99 Q 27 [some (.ref 192), some (.int (nI u)), some (.int x), some (.int s), none, none] [.int ((nI 4) * (nI u)), .ref 202] (n, I, J, R) 0 0
  refine q_top (w := nI (4 * u)) (pk_mul _ _) ?_
  refine q_k 2 ?_
  show q_W L (d + 4) 99 q_m99 Q 29 [some (.ref 192), some (.int (nI u)), some (.int x), some (.int s), none, none] [.int ((nI (4 * u)) + (nI 2)), .ref 202] (n, I, J, R) 0 0
  refine q_top (w := nI (4 * u + 2)) (nI_add _ _) ?_
  refine q_ial (m := 4 * u + 2) rfl (⟨by decide, Nat.lt_of_lt_of_le (by decide) hK.1, rfl⟩) (by omega) (rfl) ?_
  refine q_k 1 ?_
  show q_W L (d + 4) 99 q_m99 Q 32 [some (.ref 192), some (.int (nI u)), some (.int x), some (.int s), some (.int (I 202 (4 * u + 2))), none] [] (n, I, J, R) 0 0
  obtain ⟨r, er⟩ : ∃ zz9, zz9 = I 202 (4 * u + 2) := ⟨_, rfl⟩
  rw [← er]
  refine q_k 1 ?_
  show q_W L (d + 4) 99 q_m99 Q 33 [some (.ref 192), some (.int (nI u)), some (.int x), some (.int s), some (.int r), none] [.ref 192] (n, I, J, R) 0 0
  refine q_gR (b := 202) rfl rfl (⟨Nat.lt_of_lt_of_le (by decide) hK.1, rfl⟩) (hK.2.1 192 9 202 rfl) ?_
  refine q_k 3 ?_
  show q_W L (d + 4) 99 q_m99 Q 39 [some (.ref 192), some (.int (nI u)), some (.int x), some (.int s), some (.int r), none] [.int ((nI 4) * (nI u)), .ref 202] (n, I, J, R) 0 0
  refine q_top (w := nI (4 * u)) (pk_mul _ _) ?_
  refine q_k 2 ?_
  show q_W L (d + 4) 99 q_m99 Q 41 [some (.ref 192), some (.int (nI u)), some (.int x), some (.int s), some (.int r), none] [.int ((nI (4 * u)) + (nI 3)), .ref 202] (n, I, J, R) 0 0
  refine q_top (w := nI (4 * u + 3)) (nI_add _ _) ?_
  refine q_ial (m := 4 * u + 3) rfl (⟨by decide, Nat.lt_of_lt_of_le (by decide) hK.1, rfl⟩) (by omega) (rfl) ?_
  refine q_k 1 ?_
  show q_W L (d + 4) 99 q_m99 Q 44 [some (.ref 192), some (.int (nI u)), some (.int x), some (.int s), some (.int r), some (.int (I 202 (4 * u + 3)))] [] (n, I, J, R) 0 0
  obtain ⟨m, em⟩ : ∃ zz9, zz9 = I 202 (4 * u + 3) := ⟨_, rfl⟩
  rw [← em]
  refine q_k 2 ?_
  show q_W L (d + 4) 99 q_m99 Q 46 [some (.ref 192), some (.int (nI u)), some (.int x), some (.int s), some (.int r), some (.int m)] [.int (nI 1), .int x] (n, I, J, R) 0 0
  refine q_one rfl rfl ?_
  show (x < (nI 1) → q_W L (d + 4) 99 q_m99 Q 91 [some (.ref 192), some (.int (nI u)), some (.int x), some (.int s), some (.int r), some (.int m)] [] (n, I, J, R) 0 0) ∧ (¬ x < (nI 1) → q_W L (d + 4) 99 q_m99 Q 49 [some (.ref 192), some (.int (nI u)), some (.int x), some (.int s), some (.int r), some (.int m)] [] (n, I, J, R) 0 0)
  refine ⟨fun h46 => ?_, fun h46 => ?_⟩
  · skip
    refine q_k 1 ?_
    show q_W L (d + 4) 99 q_m99 Q 92 [some (.ref 192), some (.int (nI u)), some (.int x), some (.int s), some (.int r), some (.int m)] [.int (nI 0)] (n, I, J, R) 0 0
    refine q_one rfl rfl ?_
    show q_bz (nI 0) ∧ Q (some (.int (nI 0))) (n, I, J, R)
    refine ⟨Or.inl rfl, ?_⟩
    simp only [g_holds] at hQ
    simp only [← ex, ← es, ← er, ← em] at hQ
    simp only [if_pos h46] at hQ
    exact hQ I (fun _ _ _ _ _ => rfl)
  · skip
    refine q_k 2 ?_
    show q_W L (d + 4) 99 q_m99 Q 52 [some (.ref 192), some (.int (nI u)), some (.int x), some (.int s), some (.int r), some (.int m)] [.int (nI 2147483647), .int x] (n, I, J, R) 0 0
    refine q_one rfl rfl ?_
    show ((nI 2147483647) ≤ x → q_W L (d + 4) 99 q_m99 Q 91 [some (.ref 192), some (.int (nI u)), some (.int x), some (.int s), some (.int r), some (.int m)] [] (n, I, J, R) 0 0) ∧ (¬ (nI 2147483647) ≤ x → q_W L (d + 4) 99 q_m99 Q 55 [some (.ref 192), some (.int (nI u)), some (.int x), some (.int s), some (.int r), some (.int m)] [] (n, I, J, R) 0 0)
    refine ⟨fun h52 => ?_, fun h52 => ?_⟩
    · skip
      refine q_k 1 ?_
      show q_W L (d + 4) 99 q_m99 Q 92 [some (.ref 192), some (.int (nI u)), some (.int x), some (.int s), some (.int r), some (.int m)] [.int (nI 0)] (n, I, J, R) 0 0
      refine q_one rfl rfl ?_
      show q_bz (nI 0) ∧ Q (some (.int (nI 0))) (n, I, J, R)
      refine ⟨Or.inl rfl, ?_⟩
      simp only [g_holds] at hQ
      simp only [← ex, ← es, ← er, ← em] at hQ
      simp only [if_neg h46, if_pos h52] at hQ
      exact hQ I (fun _ _ _ _ _ => rfl)
    · skip
      refine q_k 2 ?_
      show q_W L (d + 4) 99 q_m99 Q 57 [some (.ref 192), some (.int (nI u)), some (.int x), some (.int s), some (.int r), some (.int m)] [.int (nI 1), .int s] (n, I, J, R) 0 0
      refine q_one rfl rfl ?_
      show (s < (nI 1) → q_W L (d + 4) 99 q_m99 Q 91 [some (.ref 192), some (.int (nI u)), some (.int x), some (.int s), some (.int r), some (.int m)] [] (n, I, J, R) 0 0) ∧ (¬ s < (nI 1) → q_W L (d + 4) 99 q_m99 Q 60 [some (.ref 192), some (.int (nI u)), some (.int x), some (.int s), some (.int r), some (.int m)] [] (n, I, J, R) 0 0)
      refine ⟨fun h57 => ?_, fun h57 => ?_⟩
      · skip
        refine q_k 1 ?_
        show q_W L (d + 4) 99 q_m99 Q 92 [some (.ref 192), some (.int (nI u)), some (.int x), some (.int s), some (.int r), some (.int m)] [.int (nI 0)] (n, I, J, R) 0 0
        refine q_one rfl rfl ?_
        show q_bz (nI 0) ∧ Q (some (.int (nI 0))) (n, I, J, R)
        refine ⟨Or.inl rfl, ?_⟩
        simp only [g_holds] at hQ
        simp only [← ex, ← es, ← er, ← em] at hQ
        simp only [if_neg h46, if_neg h52, if_pos h57] at hQ
        exact hQ I (fun _ _ _ _ _ => rfl)
      · skip
        refine q_k 2 ?_
        show q_W L (d + 4) 99 q_m99 Q 63 [some (.ref 192), some (.int (nI u)), some (.int x), some (.int s), some (.int r), some (.int m)] [.int (nI 2147483647), .int s] (n, I, J, R) 0 0
        refine q_one rfl rfl ?_
        show ((nI 2147483647) ≤ s → q_W L (d + 4) 99 q_m99 Q 91 [some (.ref 192), some (.int (nI u)), some (.int x), some (.int s), some (.int r), some (.int m)] [] (n, I, J, R) 0 0) ∧ (¬ (nI 2147483647) ≤ s → q_W L (d + 4) 99 q_m99 Q 66 [some (.ref 192), some (.int (nI u)), some (.int x), some (.int s), some (.int r), some (.int m)] [] (n, I, J, R) 0 0)
        refine ⟨fun h63 => ?_, fun h63 => ?_⟩
        · skip
          refine q_k 1 ?_
          show q_W L (d + 4) 99 q_m99 Q 92 [some (.ref 192), some (.int (nI u)), some (.int x), some (.int s), some (.int r), some (.int m)] [.int (nI 0)] (n, I, J, R) 0 0
          refine q_one rfl rfl ?_
          show q_bz (nI 0) ∧ Q (some (.int (nI 0))) (n, I, J, R)
          refine ⟨Or.inl rfl, ?_⟩
          simp only [g_holds] at hQ
          simp only [← ex, ← es, ← er, ← em] at hQ
          simp only [if_neg h46, if_neg h52, if_neg h57, if_pos h63] at hQ
          exact hQ I (fun _ _ _ _ _ => rfl)
        · skip
          refine q_k 2 ?_
          show q_W L (d + 4) 99 q_m99 Q 69 [some (.ref 192), some (.int (nI u)), some (.int x), some (.int s), some (.int r), some (.int m)] [.int (nI 1), .int r] (n, I, J, R) 0 0
          refine q_one rfl rfl ?_
          show (r < (nI 1) → q_W L (d + 4) 99 q_m99 Q 91 [some (.ref 192), some (.int (nI u)), some (.int x), some (.int s), some (.int r), some (.int m)] [] (n, I, J, R) 0 0) ∧ (¬ r < (nI 1) → q_W L (d + 4) 99 q_m99 Q 72 [some (.ref 192), some (.int (nI u)), some (.int x), some (.int s), some (.int r), some (.int m)] [] (n, I, J, R) 0 0)
          refine ⟨fun h69 => ?_, fun h69 => ?_⟩
          · skip
            refine q_k 1 ?_
            show q_W L (d + 4) 99 q_m99 Q 92 [some (.ref 192), some (.int (nI u)), some (.int x), some (.int s), some (.int r), some (.int m)] [.int (nI 0)] (n, I, J, R) 0 0
            refine q_one rfl rfl ?_
            show q_bz (nI 0) ∧ Q (some (.int (nI 0))) (n, I, J, R)
            refine ⟨Or.inl rfl, ?_⟩
            simp only [g_holds] at hQ
            simp only [← ex, ← es, ← er, ← em] at hQ
            simp only [if_neg h46, if_neg h52, if_neg h57, if_neg h63, if_pos h69] at hQ
            exact hQ I (fun _ _ _ _ _ => rfl)
          · skip
            refine q_k 2 ?_
            show q_W L (d + 4) 99 q_m99 Q 76 [some (.ref 192), some (.int (nI u)), some (.int x), some (.int s), some (.int r), some (.int m)] [.int (nI 2147483647), .int r] (n, I, J, R) 0 0
            refine q_one rfl rfl ?_
            show ((nI 2147483647) ≤ r → q_W L (d + 4) 99 q_m99 Q 91 [some (.ref 192), some (.int (nI u)), some (.int x), some (.int s), some (.int r), some (.int m)] [] (n, I, J, R) 0 0) ∧ (¬ (nI 2147483647) ≤ r → q_W L (d + 4) 99 q_m99 Q 79 [some (.ref 192), some (.int (nI u)), some (.int x), some (.int s), some (.int r), some (.int m)] [] (n, I, J, R) 0 0)
            refine ⟨fun h76 => ?_, fun h76 => ?_⟩
            · skip
              refine q_k 1 ?_
              show q_W L (d + 4) 99 q_m99 Q 92 [some (.ref 192), some (.int (nI u)), some (.int x), some (.int s), some (.int r), some (.int m)] [.int (nI 0)] (n, I, J, R) 0 0
              refine q_one rfl rfl ?_
              show q_bz (nI 0) ∧ Q (some (.int (nI 0))) (n, I, J, R)
              refine ⟨Or.inl rfl, ?_⟩
              simp only [g_holds] at hQ
              simp only [← ex, ← es, ← er, ← em] at hQ
              simp only [if_neg h46, if_neg h52, if_neg h57, if_neg h63, if_neg h69, if_pos h76] at hQ
              exact hQ I (fun _ _ _ _ _ => rfl)
            · skip
              refine q_k 1 ?_
              show q_W L (d + 4) 99 q_m99 Q 81 [some (.ref 192), some (.int (nI u)), some (.int x), some (.int s), some (.int r), some (.int m)] [.int m] (n, I, J, R) 0 0
              refine q_one rfl rfl ?_
              show (m < 0 → q_W L (d + 4) 99 q_m99 Q 91 [some (.ref 192), some (.int (nI u)), some (.int x), some (.int s), some (.int r), some (.int m)] [] (n, I, J, R) 0 0) ∧ (¬ m < 0 → q_W L (d + 4) 99 q_m99 Q 84 [some (.ref 192), some (.int (nI u)), some (.int x), some (.int s), some (.int r), some (.int m)] [] (n, I, J, R) 0 0)
              refine ⟨fun h81 => ?_, fun h81 => ?_⟩
              · skip
                refine q_k 1 ?_
                show q_W L (d + 4) 99 q_m99 Q 92 [some (.ref 192), some (.int (nI u)), some (.int x), some (.int s), some (.int r), some (.int m)] [.int (nI 0)] (n, I, J, R) 0 0
                refine q_one rfl rfl ?_
                show q_bz (nI 0) ∧ Q (some (.int (nI 0))) (n, I, J, R)
                refine ⟨Or.inl rfl, ?_⟩
                simp only [g_holds] at hQ
                simp only [← ex, ← es, ← er, ← em] at hQ
                simp only [if_neg h46, if_neg h52, if_neg h57, if_neg h63, if_neg h69, if_neg h76, if_pos h81] at hQ
                exact hQ I (fun _ _ _ _ _ => rfl)
              · skip
                refine q_k 2 ?_
                show q_W L (d + 4) 99 q_m99 Q 88 [some (.ref 192), some (.int (nI u)), some (.int x), some (.int s), some (.int r), some (.int m)] [.int (nI 2147483645), .int m] (n, I, J, R) 0 0
                refine q_one rfl rfl ?_
                show (m ≤ (nI 2147483645) → q_W L (d + 4) 99 q_m99 Q 93 [some (.ref 192), some (.int (nI u)), some (.int x), some (.int s), some (.int r), some (.int m)] [] (n, I, J, R) 0 0) ∧ (¬ m ≤ (nI 2147483645) → q_W L (d + 4) 99 q_m99 Q 91 [some (.ref 192), some (.int (nI u)), some (.int x), some (.int s), some (.int r), some (.int m)] [] (n, I, J, R) 0 0)
                refine ⟨fun h88 => ?_, fun h88 => ?_⟩
                · skip
                  refine q_k 2 ?_
                  show q_W L (d + 4) 99 q_m99 Q 97 [some (.ref 192), some (.int (nI u)), some (.int x), some (.int s), some (.int r), some (.int m)] [.int m, .int (nI 7)] (n, I, J, R) 0 0
                  refine q_cs (as := [.int (nI 7), .int m]) (rs := []) rfl rfl rfl rfl rfl ?_
                  refine m_raised  ?_
                  show q_W L (d + 4) 99 q_m99 Q 100 [some (.ref 192), some (.int (nI u)), some (.int x), some (.int s), some (.int r), some (.int m)] [.int (g_pow (nI 7) m)] (n, I, J, R) 0 0
                  refine q_k 6 ?_
                  show q_W L (d + 4) 99 q_m99 Q 108 [some (.ref 192), some (.int (nI u)), some (.int x), some (.int s), some (.int r), some (.int m)] [.int r, .int s, .int x, .ref 192, .int x, .int r, .int (g_pow (nI 7) m)] (n, I, J, R) 0 0
                  refine q_cv (as := [.int x, .int s, .int r]) (rs := [.int x, .int r, .int (g_pow (nI 7) m)]) rfl rfl rfl (⟨Nat.lt_of_lt_of_le (by decide) hK.1, rfl⟩) rfl rfl ?_
                  refine m_hash (hK) (fun I1 f1 => ?_)
                  show q_W L (d + 4) 99 q_m99 Q 111 [some (.ref 192), some (.int (nI u)), some (.int x), some (.int s), some (.int r), some (.int m)] [.int (g_hash x s r), .int x, .int r, .int (g_pow (nI 7) m)] (n, I1, J, R) 0 0
                  refine q_cs (as := [.int x, .int (g_hash x s r)]) (rs := [.int r, .int (g_pow (nI 7) m)]) rfl rfl rfl rfl rfl ?_
                  refine m_raised  ?_
                  show q_W L (d + 4) 99 q_m99 Q 114 [some (.ref 192), some (.int (nI u)), some (.int x), some (.int s), some (.int r), some (.int m)] [.int (g_pow x (g_hash x s r)), .int r, .int (g_pow (nI 7) m)] (n, I1, J, R) 0 0
                  refine q_cs (as := [.int r, .int (g_pow x (g_hash x s r))]) (rs := [.int (g_pow (nI 7) m)]) rfl rfl rfl rfl rfl ?_
                  refine m_times  ?_
                  show q_W L (d + 4) 99 q_m99 Q 117 [some (.ref 192), some (.int (nI u)), some (.int x), some (.int s), some (.int r), some (.int m)] [.int (g_times r (g_pow x (g_hash x s r))), .int (g_pow (nI 7) m)] (n, I1, J, R) 0 0
                  refine q_one rfl rfl ?_
                  show (¬ (g_pow (nI 7) m) = (g_times r (g_pow x (g_hash x s r))) → q_W L (d + 4) 99 q_m99 Q 124 [some (.ref 192), some (.int (nI u)), some (.int x), some (.int s), some (.int r), some (.int m)] [] (n, I1, J, R) 0 0) ∧ ((g_pow (nI 7) m) = (g_times r (g_pow x (g_hash x s r))) → q_W L (d + 4) 99 q_m99 Q 120 [some (.ref 192), some (.int (nI u)), some (.int x), some (.int s), some (.int r), some (.int m)] [] (n, I1, J, R) 0 0)
                  refine ⟨fun h117 => ?_, fun h117 => ?_⟩
                  · skip
                    refine q_k 1 ?_
                    show q_W L (d + 4) 99 q_m99 Q 125 [some (.ref 192), some (.int (nI u)), some (.int x), some (.int s), some (.int r), some (.int m)] [.int (nI 0)] (n, I1, J, R) 0 0
                    refine q_one rfl rfl ?_
                    show q_bz (nI 0) ∧ Q (some (.int (nI 0))) (n, I1, J, R)
                    refine ⟨Or.inl rfl, ?_⟩
                    simp only [g_holds] at hQ
                    simp only [← ex, ← es, ← er, ← em] at hQ
                    simp only [if_neg h46, if_neg h52, if_neg h57, if_neg h63, if_neg h69, if_neg h76, if_neg h81, if_pos h88, if_neg h117] at hQ
                    exact hQ I1 f1
                  · skip
                    refine q_k 2 ?_
                    show q_W L (d + 4) 99 q_m99 Q 125 [some (.ref 192), some (.int (nI u)), some (.int x), some (.int s), some (.int r), some (.int m)] [.int (nI 1)] (n, I1, J, R) 0 0
                    refine q_one rfl rfl ?_
                    show q_bz (nI 1) ∧ Q (some (.int (nI 1))) (n, I1, J, R)
                    refine ⟨Or.inr rfl, ?_⟩
                    simp only [g_holds] at hQ
                    simp only [← ex, ← es, ← er, ← em] at hQ
                    simp only [if_neg h46, if_neg h52, if_neg h57, if_neg h63, if_neg h69, if_neg h76, if_neg h81, if_pos h88, if_pos h117] at hQ
                    exact hQ I1 f1
                · skip
                  refine q_k 1 ?_
                  show q_W L (d + 4) 99 q_m99 Q 92 [some (.ref 192), some (.int (nI u)), some (.int x), some (.int s), some (.int r), some (.int m)] [.int (nI 0)] (n, I, J, R) 0 0
                  refine q_one rfl rfl ?_
                  show q_bz (nI 0) ∧ Q (some (.int (nI 0))) (n, I, J, R)
                  refine ⟨Or.inl rfl, ?_⟩
                  simp only [g_holds] at hQ
                  simp only [← ex, ← es, ← er, ← em] at hQ
                  simp only [if_neg h46, if_neg h52, if_neg h57, if_neg h63, if_neg h69, if_neg h76, if_neg h81, if_neg h88] at hQ
                  exact hQ I (fun _ _ _ _ _ => rfl)
