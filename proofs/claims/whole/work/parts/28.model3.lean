theorem m_known {L d n : Nat} {I : q_I} {J : q_L} {R : q_R} {Q : q_Q} {u : Int32} (hK : q_K0 n I R) (hQ : Q (some (.int (g_kn (I 193) u))) (n, I, J, R)) : q_Ex L (d + 1) 90 [.ref 192, .int u] (n, I, J, R) Q := by
  refine q_in (x := q_m90) rfl rfl ?_
  show q_W L d 90 q_m90 Q 0 [some (.ref 192), some (.int u)] [] (n, I, J, R) 0 0
  refine q_k 1 ?_
  show q_W L d 90 q_m90 Q 1 [some (.ref 192), some (.int u)] [.int u] (n, I, J, R) 0 0
  refine q_one rfl rfl ?_
  show (u < 0 → q_W L d 90 q_m90 Q 22 [some (.ref 192), some (.int u)] [] (n, I, J, R) 0 0) ∧ (¬ u < 0 → q_W L d 90 q_m90 Q 4 [some (.ref 192), some (.int u)] [] (n, I, J, R) 0 0)
  refine ⟨fun h1 => ?_, fun h1 => ?_⟩
  · skip
    refine q_k 1 ?_
    show q_W L d 90 q_m90 Q 23 [some (.ref 192), some (.int u)] [.int (nI 0)] (n, I, J, R) 0 0
    refine q_one rfl rfl ?_
    show q_bz (nI 0) ∧ Q (some (.int (nI 0))) (n, I, J, R)
    refine ⟨Or.inl rfl, ?_⟩
    unfold g_kn at hQ
    rw [if_pos h1] at hQ
    exact hQ
  · skip
    refine q_k 2 ?_
    show q_W L d 90 q_m90 Q 6 [some (.ref 192), some (.int u)] [.int (nI 3), .int u] (n, I, J, R) 0 0
    refine q_one rfl rfl ?_
    show ((nI 3) < u → q_W L d 90 q_m90 Q 22 [some (.ref 192), some (.int u)] [] (n, I, J, R) 0 0) ∧ (¬ (nI 3) < u → q_W L d 90 q_m90 Q 9 [some (.ref 192), some (.int u)] [] (n, I, J, R) 0 0)
    refine ⟨fun h6 => ?_, fun h6 => ?_⟩
    · skip
      refine q_k 1 ?_
      show q_W L d 90 q_m90 Q 23 [some (.ref 192), some (.int u)] [.int (nI 0)] (n, I, J, R) 0 0
      refine q_one rfl rfl ?_
      show q_bz (nI 0) ∧ Q (some (.int (nI 0))) (n, I, J, R)
      refine ⟨Or.inl rfl, ?_⟩
      unfold g_kn at hQ
      rw [if_neg h1, if_pos h6] at hQ
      exact hQ
    · skip
      obtain ⟨j, hj, rfl⟩ := g_lt4 h1 h6
      refine q_k 1 ?_
      show q_W L d 90 q_m90 Q 10 [some (.ref 192), some (.int (nI j))] [.ref 192] (n, I, J, R) 0 0
      refine q_gR (b := 193) rfl rfl (⟨Nat.lt_of_lt_of_le (by decide) hK.1, rfl⟩) (hK.2.1 192 0 193 rfl) ?_
      refine q_k 1 ?_
      show q_W L d 90 q_m90 Q 14 [some (.ref 192), some (.int (nI j))] [.int (nI j), .ref 193] (n, I, J, R) 0 0
      refine q_zal (m := j) rfl (⟨by decide, Nat.lt_of_lt_of_le (by decide) hK.1, rfl⟩) (hj) (rfl) ?_
      refine q_one rfl rfl ?_
      show ((I 193 j) = 0 → q_W L d 90 q_m90 Q 22 [some (.ref 192), some (.int (nI j))] [] (n, I, J, R) 0 0) ∧ (¬ (I 193 j) = 0 → q_W L d 90 q_m90 Q 18 [some (.ref 192), some (.int (nI j))] [] (n, I, J, R) 0 0)
      refine ⟨fun h15 => ?_, fun h15 => ?_⟩
      · skip
        refine q_k 1 ?_
        show q_W L d 90 q_m90 Q 23 [some (.ref 192), some (.int (nI j))] [.int (nI 0)] (n, I, J, R) 0 0
        refine q_one rfl rfl ?_
        show q_bz (nI 0) ∧ Q (some (.int (nI 0))) (n, I, J, R)
        refine ⟨Or.inl rfl, ?_⟩
        unfold g_kn at hQ
        rw [if_neg h1, if_neg h6, g_cl (by omega), if_pos h15] at hQ
        exact hQ
      · skip
        refine q_k 2 ?_
        show q_W L d 90 q_m90 Q 23 [some (.ref 192), some (.int (nI j))] [.int (nI 1)] (n, I, J, R) 0 0
        refine q_one rfl rfl ?_
        show q_bz (nI 1) ∧ Q (some (.int (nI 1))) (n, I, J, R)
        refine ⟨Or.inr rfl, ?_⟩
        unfold g_kn at hQ
        rw [if_neg h1, if_neg h6, g_cl (by omega), if_neg h15] at hQ
        exact hQ
theorem m_pair {L d n : Nat} {I : q_I} {J : q_L} {R : q_R} {Q : q_Q} {a b : Int32} (hK : q_K0 n I R) (hQ : Q (some (.int (g_pr (I 193) a b))) (n, I, J, R)) : q_Ex L (d + 2) 91 [.ref 192, .int a, .int b] (n, I, J, R) Q := by
  refine q_in (x := q_m91) rfl rfl ?_
  show q_W L (d + 1) 91 q_m91 Q 0 [some (.ref 192), some (.int a), some (.int b)] [] (n, I, J, R) 0 0
  refine q_k 2 ?_
  show q_W L (d + 1) 91 q_m91 Q 2 [some (.ref 192), some (.int a), some (.int b)] [.int a, .ref 192] (n, I, J, R) 0 0
  refine q_cv (as := [.int a]) (rs := []) rfl rfl rfl (⟨Nat.lt_of_lt_of_le (by decide) hK.1, rfl⟩) rfl rfl ?_
  refine m_known (hK) ?_
  show q_W L (d + 1) 91 q_m91 Q 5 [some (.ref 192), some (.int a), some (.int b)] [.int (g_kn (I 193) a)] (n, I, J, R) 0 0
  refine q_one rfl rfl ?_
  show ((g_kn (I 193) a) = 0 → q_W L (d + 1) 91 q_m91 Q 25 [some (.ref 192), some (.int a), some (.int b)] [] (n, I, J, R) 0 0) ∧ (¬ (g_kn (I 193) a) = 0 → q_W L (d + 1) 91 q_m91 Q 8 [some (.ref 192), some (.int a), some (.int b)] [] (n, I, J, R) 0 0)
  refine ⟨fun h5 => ?_, fun h5 => ?_⟩
  · skip
    refine q_k 1 ?_
    show q_W L (d + 1) 91 q_m91 Q 26 [some (.ref 192), some (.int a), some (.int b)] [.int (nI 0)] (n, I, J, R) 0 0
    refine q_one rfl rfl ?_
    show q_bz (nI 0) ∧ Q (some (.int (nI 0))) (n, I, J, R)
    refine ⟨Or.inl rfl, ?_⟩
    unfold g_pr at hQ
    rw [if_pos h5] at hQ
    exact hQ
  · skip
    refine q_k 2 ?_
    show q_W L (d + 1) 91 q_m91 Q 10 [some (.ref 192), some (.int a), some (.int b)] [.int b, .ref 192] (n, I, J, R) 0 0
    refine q_cv (as := [.int b]) (rs := []) rfl rfl rfl (⟨Nat.lt_of_lt_of_le (by decide) hK.1, rfl⟩) rfl rfl ?_
    refine m_known (hK) ?_
    show q_W L (d + 1) 91 q_m91 Q 13 [some (.ref 192), some (.int a), some (.int b)] [.int (g_kn (I 193) b)] (n, I, J, R) 0 0
    refine q_one rfl rfl ?_
    show ((g_kn (I 193) b) = 0 → q_W L (d + 1) 91 q_m91 Q 25 [some (.ref 192), some (.int a), some (.int b)] [] (n, I, J, R) 0 0) ∧ (¬ (g_kn (I 193) b) = 0 → q_W L (d + 1) 91 q_m91 Q 16 [some (.ref 192), some (.int a), some (.int b)] [] (n, I, J, R) 0 0)
    refine ⟨fun h13 => ?_, fun h13 => ?_⟩
    · skip
      refine q_k 1 ?_
      show q_W L (d + 1) 91 q_m91 Q 26 [some (.ref 192), some (.int a), some (.int b)] [.int (nI 0)] (n, I, J, R) 0 0
      refine q_one rfl rfl ?_
      show q_bz (nI 0) ∧ Q (some (.int (nI 0))) (n, I, J, R)
      refine ⟨Or.inl rfl, ?_⟩
      unfold g_pr at hQ
      rw [if_neg h5, if_pos h13] at hQ
      exact hQ
    · skip
      refine q_k 2 ?_
      show q_W L (d + 1) 91 q_m91 Q 18 [some (.ref 192), some (.int a), some (.int b)] [.int b, .int a] (n, I, J, R) 0 0
      refine q_one rfl rfl ?_
      show (a = b → q_W L (d + 1) 91 q_m91 Q 25 [some (.ref 192), some (.int a), some (.int b)] [] (n, I, J, R) 0 0) ∧ (¬ a = b → q_W L (d + 1) 91 q_m91 Q 21 [some (.ref 192), some (.int a), some (.int b)] [] (n, I, J, R) 0 0)
      refine ⟨fun h18 => ?_, fun h18 => ?_⟩
      · skip
        refine q_k 1 ?_
        show q_W L (d + 1) 91 q_m91 Q 26 [some (.ref 192), some (.int a), some (.int b)] [.int (nI 0)] (n, I, J, R) 0 0
        refine q_one rfl rfl ?_
        show q_bz (nI 0) ∧ Q (some (.int (nI 0))) (n, I, J, R)
        refine ⟨Or.inl rfl, ?_⟩
        unfold g_pr at hQ
        rw [if_neg h5, if_neg h13, if_pos h18] at hQ
        exact hQ
      · skip
        refine q_k 2 ?_
        show q_W L (d + 1) 91 q_m91 Q 26 [some (.ref 192), some (.int a), some (.int b)] [.int (nI 1)] (n, I, J, R) 0 0
        refine q_one rfl rfl ?_
        show q_bz (nI 1) ∧ Q (some (.int (nI 1))) (n, I, J, R)
        refine ⟨Or.inr rfl, ?_⟩
        unfold g_pr at hQ
        rw [if_neg h5, if_neg h13, if_neg h18] at hQ
        exact hQ
theorem m_clear {L d n : Nat} {I : q_I} {J : q_L} {R : q_R} {Q : q_Q} (hK : q_K0 n I R) (hQ : ∀ I', (∀ i, i < 318 → I' 207 i = nI 0) → (∀ x, x ≠ 207 → I' x = I x) → Q none (n, I', J, R)) : q_Ex L (d + 1) 104 [.ref 192] (n, I, J, R) Q := by
  refine q_in (x := q_m104) rfl rfl ?_
  show q_W L d 104 q_m104 Q 0 [some (.ref 192), none] [] (n, I, J, R) 0 0
  refine q_k 2 ?_
  show q_W L d 104 q_m104 Q 2 [some (.ref 192), some (.int (nI 0))] [] (n, I, J, R) 0 0
  refine q_loop (σ := q_I) 318 (fun k I2 => (∀ i, i < k → I2 207 i = nI 0) ∧ ∀ x, x ≠ 207 → I2 x = I x) (fun k I2 => q_W L d 104 q_m104 Q 2 [some (.ref 192), some (.int (nI k))] [] (n, I2, J, R) 0 0) ?_ ?_ 0 I (Nat.zero_le _) ?_
  · intro I2 hI2
    show q_W L d 104 q_m104 Q 2 [some (.ref 192), some (.int (nI 318))] [] (n, I2, J, R) 0 0
    refine q_k 2 ?_
    show q_W L d 104 q_m104 Q 6 [some (.ref 192), some (.int (nI 318))] [.int (nI 318), .int (nI 318)] (n, I2, J, R) 0 0
    refine q_one rfl rfl ?_
    show ((nI 318) ≤ (nI 318) → q_W L d 104 q_m104 Q 22 [some (.ref 192), some (.int (nI 318))] [] (n, I2, J, R) 0 0) ∧ (¬ (nI 318) ≤ (nI 318) → q_W L d 104 q_m104 Q 9 [some (.ref 192), some (.int (nI 318))] [] (n, I2, J, R) 0 0)
    refine ⟨fun _ => ?_, fun z => absurd (nI_le (Nat.le_refl _) (by decide)) z⟩
    refine q_one rfl rfl ?_
    show Q (none) (n, I2, J, R)
    exact hQ I2 hI2.1 hI2.2
  · intro k I2 hk hI2 ih
    show q_W L d 104 q_m104 Q 2 [some (.ref 192), some (.int (nI k))] [] (n, I2, J, R) 0 0
    refine q_k 2 ?_
    show q_W L d 104 q_m104 Q 6 [some (.ref 192), some (.int (nI k))] [.int (nI 318), .int (nI k)] (n, I2, J, R) 0 0
    refine q_one rfl rfl ?_
    show ((nI 318) ≤ (nI k) → q_W L d 104 q_m104 Q 22 [some (.ref 192), some (.int (nI k))] [] (n, I2, J, R) 0 0) ∧ (¬ (nI 318) ≤ (nI k) → q_W L d 104 q_m104 Q 9 [some (.ref 192), some (.int (nI k))] [] (n, I2, J, R) 0 0)
    refine ⟨fun z => absurd z (nI_ge hk (by decide)), fun _ => ?_⟩
    refine q_k 1 ?_
    show q_W L d 104 q_m104 Q 10 [some (.ref 192), some (.int (nI k))] [.ref 192] (n, I2, J, R) 0 0
    refine q_gR (b := 207) rfl rfl (⟨Nat.lt_of_lt_of_le (by decide) hK.1, rfl⟩) (hK.2.1 192 14 207 rfl) ?_
    refine q_k 2 ?_
    show q_W L d 104 q_m104 Q 15 [some (.ref 192), some (.int (nI k))] [.int (nI 0), .int (nI k), .ref 207] (n, I2, J, R) 0 0
    refine q_ias (m := k) rfl (⟨by decide, Nat.lt_of_lt_of_le (by decide) hK.1, rfl⟩) (by omega) (rfl) ?_
    refine q_k 1 ?_
    show q_W L d 104 q_m104 Q 19 [some (.ref 192), some (.int ((nI k) + nI 1))] [] (n, q_up I2 207 k (nI 0), J, R) 0 0
    rw [show (nI k) + nI 1 = nI (k + 1) from nI_add _ _]
    refine q_k 1 ?_
    show q_W L d 104 q_m104 Q 2 [some (.ref 192), some (.int (nI (k + 1)))] [] (n, q_up I2 207 k (nI 0), J, R) 0 0
    refine ih _ ⟨fun i hi => ?_, fun x hx => ?_⟩
    · by_cases e : i = k
      · subst e; rw [q_usk]
      · rw [q_usn e]; exact hI2.1 i (by omega)
    · rw [q_un hx]; exact hI2.2 x hx
  · exact ⟨fun i hi => absurd hi (Nat.not_lt_zero _), fun _ _ => rfl⟩
theorem m_load {L d n : Nat} {I : q_I} {J : q_L} {R : q_R} {Q : q_Q} {p k0 : Nat} (hK : q_K0 n I R) (hp : p < 16) (hk0 : k0 < 3) (hQ : ∀ I', (∀ i, i < 158 → I' 207 i = I 205 (158 * (3 * p + k0) + i)) → (∀ i, 158 ≤ i → I' 207 i = I 207 i) → (∀ x, x ≠ 207 → I' x = I x) → Q none (n, I', J, R)) : q_Ex L (d + 1) 100 [.ref 192, .int (nI p), .int (nI k0)] (n, I, J, R) Q := by
  refine q_in (x := q_m100) rfl rfl ?_
  show q_W L d 100 q_m100 Q 0 [some (.ref 192), some (.int (nI p)), some (.int (nI k0)), none] [] (n, I, J, R) 0 0
  refine q_k 2 ?_
  show q_W L d 100 q_m100 Q 2 [some (.ref 192), some (.int (nI p)), some (.int (nI k0)), some (.int (nI 0))] [] (n, I, J, R) 0 0
  refine q_loop (σ := q_I) 158 (fun k I2 => (∀ i, i < k → I2 207 i = I 205 (158 * (3 * p + k0) + i)) ∧ (∀ i, k ≤ i → I2 207 i = I 207 i) ∧ ∀ x, x ≠ 207 → I2 x = I x) (fun k I2 => q_W L d 100 q_m100 Q 2 [some (.ref 192), some (.int (nI p)), some (.int (nI k0)), some (.int (nI k))] [] (n, I2, J, R) 0 0) ?_ ?_ 0 I (Nat.zero_le _) ?_
  · intro I2 hI2
    show q_W L d 100 q_m100 Q 2 [some (.ref 192), some (.int (nI p)), some (.int (nI k0)), some (.int (nI 158))] [] (n, I2, J, R) 0 0
    refine q_k 2 ?_
    show q_W L d 100 q_m100 Q 6 [some (.ref 192), some (.int (nI p)), some (.int (nI k0)), some (.int (nI 158))] [.int (nI 158), .int (nI 158)] (n, I2, J, R) 0 0
    refine q_one rfl rfl ?_
    show ((nI 158) ≤ (nI 158) → q_W L d 100 q_m100 Q 37 [some (.ref 192), some (.int (nI p)), some (.int (nI k0)), some (.int (nI 158))] [] (n, I2, J, R) 0 0) ∧ (¬ (nI 158) ≤ (nI 158) → q_W L d 100 q_m100 Q 9 [some (.ref 192), some (.int (nI p)), some (.int (nI k0)), some (.int (nI 158))] [] (n, I2, J, R) 0 0)
    refine ⟨fun _ => ?_, fun z => absurd (nI_le (Nat.le_refl _) (by decide)) z⟩
    refine q_one rfl rfl ?_
    show Q (none) (n, I2, J, R)
    exact hQ I2 hI2.1 hI2.2.1 hI2.2.2
  · intro k I2 hk hI2 ih
    show q_W L d 100 q_m100 Q 2 [some (.ref 192), some (.int (nI p)), some (.int (nI k0)), some (.int (nI k))] [] (n, I2, J, R) 0 0
    refine q_k 2 ?_
    show q_W L d 100 q_m100 Q 6 [some (.ref 192), some (.int (nI p)), some (.int (nI k0)), some (.int (nI k))] [.int (nI 158), .int (nI k)] (n, I2, J, R) 0 0
    refine q_one rfl rfl ?_
    show ((nI 158) ≤ (nI k) → q_W L d 100 q_m100 Q 37 [some (.ref 192), some (.int (nI p)), some (.int (nI k0)), some (.int (nI k))] [] (n, I2, J, R) 0 0) ∧ (¬ (nI 158) ≤ (nI k) → q_W L d 100 q_m100 Q 9 [some (.ref 192), some (.int (nI p)), some (.int (nI k0)), some (.int (nI k))] [] (n, I2, J, R) 0 0)
    refine ⟨fun z => absurd z (nI_ge hk (by decide)), fun _ => ?_⟩
    refine q_k 1 ?_
    show q_W L d 100 q_m100 Q 10 [some (.ref 192), some (.int (nI p)), some (.int (nI k0)), some (.int (nI k))] [.ref 192] (n, I2, J, R) 0 0
    refine q_gR (b := 207) rfl rfl (⟨Nat.lt_of_lt_of_le (by decide) hK.1, rfl⟩) (hK.2.1 192 14 207 rfl) ?_
    refine q_k 2 ?_
    show q_W L d 100 q_m100 Q 15 [some (.ref 192), some (.int (nI p)), some (.int (nI k0)), some (.int (nI k))] [.ref 192, .int (nI k), .ref 207] (n, I2, J, R) 0 0
    refine q_gR (b := 205) rfl rfl (⟨Nat.lt_of_lt_of_le (by decide) hK.1, rfl⟩) (hK.2.1 192 12 205 rfl) ?_
    refine q_k 4 ?_
    show q_W L d 100 q_m100 Q 24 [some (.ref 192), some (.int (nI p)), some (.int (nI k0)), some (.int (nI k))] [.int ((nI 3) * (nI p)), .int (nI 158), .ref 205, .int (nI k), .ref 207] (n, I2, J, R) 0 0
    refine q_top (w := nI (3 * p)) (pk_mul _ _) ?_
    refine q_k 2 ?_
    show q_W L d 100 q_m100 Q 26 [some (.ref 192), some (.int (nI p)), some (.int (nI k0)), some (.int (nI k))] [.int ((nI (3 * p)) + (nI k0)), .int (nI 158), .ref 205, .int (nI k), .ref 207] (n, I2, J, R) 0 0
    refine q_top (w := nI (3 * p + k0)) (nI_add _ _) ?_
    refine q_k 1 ?_
    show q_W L d 100 q_m100 Q 27 [some (.ref 192), some (.int (nI p)), some (.int (nI k0)), some (.int (nI k))] [.int ((nI 158) * (nI (3 * p + k0))), .ref 205, .int (nI k), .ref 207] (n, I2, J, R) 0 0
    refine q_top (w := nI (158 * (3 * p + k0))) (pk_mul _ _) ?_
    refine q_k 2 ?_
    show q_W L d 100 q_m100 Q 29 [some (.ref 192), some (.int (nI p)), some (.int (nI k0)), some (.int (nI k))] [.int ((nI (158 * (3 * p + k0))) + (nI k)), .ref 205, .int (nI k), .ref 207] (n, I2, J, R) 0 0
    refine q_top (w := nI (158 * (3 * p + k0) + k)) (nI_add _ _) ?_
    refine q_ial (m := 158 * (3 * p + k0) + k) rfl (⟨by decide, Nat.lt_of_lt_of_le (by decide) hK.1, rfl⟩) (by omega) (rfl) ?_
    refine q_ias (m := k) rfl (⟨by decide, Nat.lt_of_lt_of_le (by decide) hK.1, rfl⟩) (by omega) (rfl) ?_
    refine q_k 1 ?_
    show q_W L d 100 q_m100 Q 34 [some (.ref 192), some (.int (nI p)), some (.int (nI k0)), some (.int ((nI k) + nI 1))] [] (n, q_up I2 207 k (I2 205 (158 * (3 * p + k0) + k)), J, R) 0 0
    rw [show (nI k) + nI 1 = nI (k + 1) from nI_add _ _]
    refine q_k 1 ?_
    show q_W L d 100 q_m100 Q 2 [some (.ref 192), some (.int (nI p)), some (.int (nI k0)), some (.int (nI (k + 1)))] [] (n, q_up I2 207 k (I2 205 (158 * (3 * p + k0) + k)), J, R) 0 0
    refine ih _ ⟨fun i hi => ?_, fun i hi => ?_, fun x hx => ?_⟩
    · by_cases e : i = k
      · subst e; rw [q_usk, hI2.2.2 205 (by decide)]
      · rw [q_usn e]; exact hI2.1 i (by omega)
    · rw [q_usn (by omega)]; exact hI2.2.1 i (by omega)
    · rw [q_un hx]; exact hI2.2.2 x hx
  · exact ⟨fun i hi => absurd hi (Nat.not_lt_zero _), fun _ _ => rfl, fun _ _ => rfl⟩
theorem m_save {L d n : Nat} {I : q_I} {J : q_L} {R : q_R} {Q : q_Q} {p k0 : Nat} (hK : q_K0 n I R) (hp : p < 16) (hk0 : k0 < 3) (hQ : ∀ I', (∀ i, i < 158 → I' 205 (158 * (3 * p + k0) + i) = I 207 i) → (∀ j, (j < 158 * (3 * p + k0) ∨ 158 * (3 * p + k0) + 158 ≤ j) → I' 205 j = I 205 j) → (∀ x, x ≠ 205 → I' x = I x) → Q none (n, I', J, R)) : q_Ex L (d + 1) 101 [.ref 192, .int (nI p), .int (nI k0)] (n, I, J, R) Q := by
  refine q_in (x := q_m101) rfl rfl ?_
  show q_W L d 101 q_m101 Q 0 [some (.ref 192), some (.int (nI p)), some (.int (nI k0)), none] [] (n, I, J, R) 0 0
  refine q_k 2 ?_
  show q_W L d 101 q_m101 Q 2 [some (.ref 192), some (.int (nI p)), some (.int (nI k0)), some (.int (nI 0))] [] (n, I, J, R) 0 0
  refine q_loop (σ := q_I) 158 (fun k I2 => (∀ i, i < k → I2 205 (158 * (3 * p + k0) + i) = I 207 i) ∧ (∀ j, (j < 158 * (3 * p + k0) ∨ 158 * (3 * p + k0) + k ≤ j) → I2 205 j = I 205 j) ∧ ∀ x, x ≠ 205 → I2 x = I x) (fun k I2 => q_W L d 101 q_m101 Q 2 [some (.ref 192), some (.int (nI p)), some (.int (nI k0)), some (.int (nI k))] [] (n, I2, J, R) 0 0) ?_ ?_ 0 I (Nat.zero_le _) ?_
  · intro I2 hI2
    show q_W L d 101 q_m101 Q 2 [some (.ref 192), some (.int (nI p)), some (.int (nI k0)), some (.int (nI 158))] [] (n, I2, J, R) 0 0
    refine q_k 2 ?_
    show q_W L d 101 q_m101 Q 6 [some (.ref 192), some (.int (nI p)), some (.int (nI k0)), some (.int (nI 158))] [.int (nI 158), .int (nI 158)] (n, I2, J, R) 0 0
    refine q_one rfl rfl ?_
    show ((nI 158) ≤ (nI 158) → q_W L d 101 q_m101 Q 37 [some (.ref 192), some (.int (nI p)), some (.int (nI k0)), some (.int (nI 158))] [] (n, I2, J, R) 0 0) ∧ (¬ (nI 158) ≤ (nI 158) → q_W L d 101 q_m101 Q 9 [some (.ref 192), some (.int (nI p)), some (.int (nI k0)), some (.int (nI 158))] [] (n, I2, J, R) 0 0)
    refine ⟨fun _ => ?_, fun z => absurd (nI_le (Nat.le_refl _) (by decide)) z⟩
    refine q_one rfl rfl ?_
    show Q (none) (n, I2, J, R)
    exact hQ I2 hI2.1 hI2.2.1 hI2.2.2
  · intro k I2 hk hI2 ih
    show q_W L d 101 q_m101 Q 2 [some (.ref 192), some (.int (nI p)), some (.int (nI k0)), some (.int (nI k))] [] (n, I2, J, R) 0 0
    refine q_k 2 ?_
    show q_W L d 101 q_m101 Q 6 [some (.ref 192), some (.int (nI p)), some (.int (nI k0)), some (.int (nI k))] [.int (nI 158), .int (nI k)] (n, I2, J, R) 0 0
    refine q_one rfl rfl ?_
    show ((nI 158) ≤ (nI k) → q_W L d 101 q_m101 Q 37 [some (.ref 192), some (.int (nI p)), some (.int (nI k0)), some (.int (nI k))] [] (n, I2, J, R) 0 0) ∧ (¬ (nI 158) ≤ (nI k) → q_W L d 101 q_m101 Q 9 [some (.ref 192), some (.int (nI p)), some (.int (nI k0)), some (.int (nI k))] [] (n, I2, J, R) 0 0)
    refine ⟨fun z => absurd z (nI_ge hk (by decide)), fun _ => ?_⟩
    refine q_k 1 ?_
    show q_W L d 101 q_m101 Q 10 [some (.ref 192), some (.int (nI p)), some (.int (nI k0)), some (.int (nI k))] [.ref 192] (n, I2, J, R) 0 0
    refine q_gR (b := 205) rfl rfl (⟨Nat.lt_of_lt_of_le (by decide) hK.1, rfl⟩) (hK.2.1 192 12 205 rfl) ?_
    refine q_k 4 ?_
    show q_W L d 101 q_m101 Q 19 [some (.ref 192), some (.int (nI p)), some (.int (nI k0)), some (.int (nI k))] [.int ((nI 3) * (nI p)), .int (nI 158), .ref 205] (n, I2, J, R) 0 0
    refine q_top (w := nI (3 * p)) (pk_mul _ _) ?_
    refine q_k 2 ?_
    show q_W L d 101 q_m101 Q 21 [some (.ref 192), some (.int (nI p)), some (.int (nI k0)), some (.int (nI k))] [.int ((nI (3 * p)) + (nI k0)), .int (nI 158), .ref 205] (n, I2, J, R) 0 0
    refine q_top (w := nI (3 * p + k0)) (nI_add _ _) ?_
    refine q_k 1 ?_
    show q_W L d 101 q_m101 Q 22 [some (.ref 192), some (.int (nI p)), some (.int (nI k0)), some (.int (nI k))] [.int ((nI 158) * (nI (3 * p + k0))), .ref 205] (n, I2, J, R) 0 0
    refine q_top (w := nI (158 * (3 * p + k0))) (pk_mul _ _) ?_
    refine q_k 2 ?_
    show q_W L d 101 q_m101 Q 24 [some (.ref 192), some (.int (nI p)), some (.int (nI k0)), some (.int (nI k))] [.int ((nI (158 * (3 * p + k0))) + (nI k)), .ref 205] (n, I2, J, R) 0 0
    refine q_top (w := nI (158 * (3 * p + k0) + k)) (nI_add _ _) ?_
    refine q_k 1 ?_
    show q_W L d 101 q_m101 Q 25 [some (.ref 192), some (.int (nI p)), some (.int (nI k0)), some (.int (nI k))] [.ref 192, .int (nI (158 * (3 * p + k0) + k)), .ref 205] (n, I2, J, R) 0 0
    refine q_gR (b := 207) rfl rfl (⟨Nat.lt_of_lt_of_le (by decide) hK.1, rfl⟩) (hK.2.1 192 14 207 rfl) ?_
    refine q_k 1 ?_
    show q_W L d 101 q_m101 Q 29 [some (.ref 192), some (.int (nI p)), some (.int (nI k0)), some (.int (nI k))] [.int (nI k), .ref 207, .int (nI (158 * (3 * p + k0) + k)), .ref 205] (n, I2, J, R) 0 0
    refine q_ial (m := k) rfl (⟨by decide, Nat.lt_of_lt_of_le (by decide) hK.1, rfl⟩) (by omega) (rfl) ?_
    refine q_ias (m := 158 * (3 * p + k0) + k) rfl (⟨by decide, Nat.lt_of_lt_of_le (by decide) hK.1, rfl⟩) (by omega) (rfl) ?_
    refine q_k 1 ?_
    show q_W L d 101 q_m101 Q 34 [some (.ref 192), some (.int (nI p)), some (.int (nI k0)), some (.int ((nI k) + nI 1))] [] (n, q_up I2 205 (158 * (3 * p + k0) + k) (I2 207 k), J, R) 0 0
    rw [show (nI k) + nI 1 = nI (k + 1) from nI_add _ _]
    refine q_k 1 ?_
    show q_W L d 101 q_m101 Q 2 [some (.ref 192), some (.int (nI p)), some (.int (nI k0)), some (.int (nI (k + 1)))] [] (n, q_up I2 205 (158 * (3 * p + k0) + k) (I2 207 k), J, R) 0 0
    refine ih _ ⟨fun i hi => ?_, fun i hi => ?_, fun x hx => ?_⟩
    · by_cases e : i = k
      · subst e; rw [q_usk, hI2.2.2 207 (by decide)]
      · rw [q_usn (by omega)]; exact hI2.1 i (by omega)
    · rw [q_usn (by omega)]; exact hI2.2.1 i (by omega)
    · rw [q_un hx]; exact hI2.2.2 x hx
  · exact ⟨fun i hi => absurd hi (Nat.not_lt_zero _), fun _ _ => rfl, fun _ _ => rfl⟩
theorem m_step {L d n : Nat} {I : q_I} {J : q_L} {R : q_R} {Q : q_Q} {pl : Nat} {e : Int32} (hK : q_K0 n I R) (hpl : 22 ≤ pl) (hpl2 : pl + 8 ≤ 318) (hQ : ∀ I', (∀ i, i < 8 → I' 207 (pl + i) = g_mix (fun j => I 207 (14 + j)) e (nI 6) (nI 0) (nI 0) i) → (∀ i, i < 8 → I' 207 (14 + i) = g_mix (fun j => I 207 (14 + j)) e (nI 5) (nI 0) (nI 0) i) → (∀ j, (j < 14 ∨ 22 ≤ j) → (j < pl ∨ pl + 8 ≤ j) → I' 207 j = I 207 j) → (∀ x, x ≠ 207 → x ≠ 209 → x ≠ 210 → x ≠ 211 → I' x = I x) → Q none (n, I', J, R)) : q_Ex L (d + 4) 105 [.ref 192, .int e, .int (nI pl)] (n, I, J, R) Q := by
  refine q_in (x := q_m105) rfl rfl ?_
  show q_W L (d + 3) 105 q_m105 Q 0 [some (.ref 192), some (.int e), some (.int (nI pl))] [] (n, I, J, R) 0 0
  refine q_k 2 ?_
  show q_W L (d + 3) 105 q_m105 Q 2 [some (.ref 192), some (.int e), some (.int (nI pl))] [.ref 192, .ref 192] (n, I, J, R) 0 0
  refine q_gR (b := 207) rfl rfl (⟨Nat.lt_of_lt_of_le (by decide) hK.1, rfl⟩) (hK.2.1 192 14 207 rfl) ?_
  refine q_k 5 ?_
  show q_W L (d + 3) 105 q_m105 Q 12 [some (.ref 192), some (.int e), some (.int (nI pl))] [.int (nI 0), .int (nI 0), .int (nI 6), .int e, .int (nI 14), .ref 207, .ref 192] (n, I, J, R) 0 0
  refine q_cv (as := [.ref 207, .int (nI 14), .int e, .int (nI 6), .int (nI 0), .int (nI 0)]) (rs := []) rfl rfl rfl (⟨Nat.lt_of_lt_of_le (by decide) hK.1, rfl⟩) rfl rfl ?_
  refine m_mixed (hK) (⟨by decide, Nat.lt_of_lt_of_le (by decide) hK.1, rfl⟩) (rfl) (by decide) (by decide) (fun I1 h1 f1 => ?_)
  show q_W L (d + 3) 105 q_m105 Q 15 [some (.ref 192), some (.int e), some (.int (nI pl))] [] (n, I1, J, R) 0 0
  refine q_k 2 ?_
  show q_W L (d + 3) 105 q_m105 Q 17 [some (.ref 192), some (.int e), some (.int (nI pl))] [.ref 192, .ref 192] (n, I1, J, R) 0 0
  refine q_gR (b := 207) rfl rfl (⟨Nat.lt_of_lt_of_le (by decide) hK.1, rfl⟩) (hK.2.1 192 14 207 rfl) ?_
  refine q_k 1 ?_
  show q_W L (d + 3) 105 q_m105 Q 21 [some (.ref 192), some (.int e), some (.int (nI pl))] [.int (nI pl), .ref 207, .ref 192] (n, I1, J, R) 0 0
  refine q_cv (as := [.ref 207, .int (nI pl)]) (rs := []) rfl rfl rfl (⟨Nat.lt_of_lt_of_le (by decide) hK.1, rfl⟩) rfl rfl ?_
  refine m_store (q_K0_to hK (by rw [f1 0 (by decide) (by decide) (by decide)]) (by rw [f1 1 (by decide) (by decide) (by decide)])) (⟨by decide, Nat.lt_of_lt_of_le (by decide) hK.1, rfl⟩) (rfl) (by omega) (by decide) (fun I2 h2 g2 f2 => ?_)
  show q_W L (d + 3) 105 q_m105 Q 24 [some (.ref 192), some (.int e), some (.int (nI pl))] [] (n, I2, J, R) 0 0
  refine q_k 2 ?_
  show q_W L (d + 3) 105 q_m105 Q 26 [some (.ref 192), some (.int e), some (.int (nI pl))] [.ref 192, .ref 192] (n, I2, J, R) 0 0
  refine q_gR (b := 207) rfl rfl (⟨Nat.lt_of_lt_of_le (by decide) hK.1, rfl⟩) (hK.2.1 192 14 207 rfl) ?_
  refine q_k 5 ?_
  show q_W L (d + 3) 105 q_m105 Q 35 [some (.ref 192), some (.int e), some (.int (nI pl))] [.int (nI 0), .int (nI 0), .int (nI 5), .int e, .int (nI 14), .ref 207, .ref 192] (n, I2, J, R) 0 0
  refine q_cv (as := [.ref 207, .int (nI 14), .int e, .int (nI 5), .int (nI 0), .int (nI 0)]) (rs := []) rfl rfl rfl (⟨Nat.lt_of_lt_of_le (by decide) hK.1, rfl⟩) rfl rfl ?_
  refine m_mixed (q_K0_to hK (by rw [f2 0 (by decide), f1 0 (by decide) (by decide) (by decide)]) (by rw [f2 1 (by decide), f1 1 (by decide) (by decide) (by decide)])) (⟨by decide, Nat.lt_of_lt_of_le (by decide) hK.1, rfl⟩) (rfl) (by decide) (by decide) (fun I3 h3 f3 => ?_)
  show q_W L (d + 3) 105 q_m105 Q 38 [some (.ref 192), some (.int e), some (.int (nI pl))] [] (n, I3, J, R) 0 0
  refine q_k 2 ?_
  show q_W L (d + 3) 105 q_m105 Q 40 [some (.ref 192), some (.int e), some (.int (nI pl))] [.ref 192, .ref 192] (n, I3, J, R) 0 0
  refine q_gR (b := 207) rfl rfl (⟨Nat.lt_of_lt_of_le (by decide) hK.1, rfl⟩) (hK.2.1 192 14 207 rfl) ?_
  refine q_k 1 ?_
  show q_W L (d + 3) 105 q_m105 Q 45 [some (.ref 192), some (.int e), some (.int (nI pl))] [.int (nI 14), .ref 207, .ref 192] (n, I3, J, R) 0 0
  refine q_cv (as := [.ref 207, .int (nI 14)]) (rs := []) rfl rfl rfl (⟨Nat.lt_of_lt_of_le (by decide) hK.1, rfl⟩) rfl rfl ?_
  refine m_store (q_K0_to hK (by rw [f3 0 (by decide) (by decide) (by decide), f2 0 (by decide), f1 0 (by decide) (by decide) (by decide)]) (by rw [f3 1 (by decide) (by decide) (by decide), f2 1 (by decide), f1 1 (by decide) (by decide) (by decide)])) (⟨by decide, Nat.lt_of_lt_of_le (by decide) hK.1, rfl⟩) (rfl) (by decide) (by decide) (fun I4 h4 g4 f4 => ?_)
  show q_W L (d + 3) 105 q_m105 Q 48 [some (.ref 192), some (.int e), some (.int (nI pl))] [] (n, I4, J, R) 0 0
  refine q_one rfl rfl ?_
  show Q (none) (n, I4, J, R)
  have r1 : I1 207 = I 207 := f1 207 (by decide) (by decide) (by decide)
  have r3 : I3 207 = I2 207 := f3 207 (by decide) (by decide) (by decide)
  have hrt : ∀ j, j < 8 → I2 207 (14 + j) = I 207 (14 + j) := fun j hj => by rw [g2 (14 + j) (by omega), r1]
  refine hQ I4 (fun i hi => ?_) (fun i hi => ?_) (fun j h1' h2' => ?_) (fun y h7 h9 h10 h11 => ?_)
  · rw [g4 (pl + i) (by omega), r3, h2 i hi, h1 i hi]
  · rw [h4 i hi, h3 i hi]; exact g_mix_c hrt _ _ _ _ (by omega)
  · rw [g4 j (by omega), r3, g2 j (by omega), r1]
  · rw [f4 y h7, f3 y h9 h10 h11, f2 y h7, f1 y h9 h10 h11]
theorem m_take {L d n : Nat} {I : q_I} {J : q_L} {R : q_R} {Q : q_Q} {pl : Nat} (hK : q_K0 n I R) (hpl : pl + 8 ≤ 318) (hQ : ∀ I', (∀ i, i < 8 → I' 212 i = g_mix (fun j => I 207 (pl + j)) (nI 7) (nI 0) (nI 0) (nI 0) i) → (∀ i, i < 8 → I' 207 (pl + i) = g_mix (fun j => I 207 (pl + j)) (nI 8) (nI 0) (nI 0) (nI 0) i) → (∀ j, (j < pl ∨ pl + 8 ≤ j) → I' 207 j = I 207 j) → (∀ x, x ≠ 207 → x ≠ 209 → x ≠ 210 → x ≠ 211 → x ≠ 212 → I' x = I x) → Q none (n, I', J, R)) : q_Ex L (d + 4) 106 [.ref 192, .int (nI pl)] (n, I, J, R) Q := by
  refine q_in (x := q_m106) rfl rfl ?_
  show q_W L (d + 3) 106 q_m106 Q 0 [some (.ref 192), some (.int (nI pl))] [] (n, I, J, R) 0 0
  refine q_k 2 ?_
  show q_W L (d + 3) 106 q_m106 Q 2 [some (.ref 192), some (.int (nI pl))] [.ref 192, .ref 192] (n, I, J, R) 0 0
  refine q_gR (b := 207) rfl rfl (⟨Nat.lt_of_lt_of_le (by decide) hK.1, rfl⟩) (hK.2.1 192 14 207 rfl) ?_
  refine q_k 5 ?_
  show q_W L (d + 3) 106 q_m106 Q 11 [some (.ref 192), some (.int (nI pl))] [.int (nI 0), .int (nI 0), .int (nI 0), .int (nI 7), .int (nI pl), .ref 207, .ref 192] (n, I, J, R) 0 0
  refine q_cv (as := [.ref 207, .int (nI pl), .int (nI 7), .int (nI 0), .int (nI 0), .int (nI 0)]) (rs := []) rfl rfl rfl (⟨Nat.lt_of_lt_of_le (by decide) hK.1, rfl⟩) rfl rfl ?_
  refine m_mixed (hK) (⟨by decide, Nat.lt_of_lt_of_le (by decide) hK.1, rfl⟩) (rfl) (hpl) (by decide) (fun I1 h1 f1 => ?_)
  show q_W L (d + 3) 106 q_m106 Q 14 [some (.ref 192), some (.int (nI pl))] [] (n, I1, J, R) 0 0
  refine q_k 2 ?_
  show q_W L (d + 3) 106 q_m106 Q 16 [some (.ref 192), some (.int (nI pl))] [.ref 192, .ref 192] (n, I1, J, R) 0 0
  refine q_gR (b := 212) rfl rfl (⟨Nat.lt_of_lt_of_le (by decide) hK.1, rfl⟩) (hK.2.1 192 21 212 rfl) ?_
  refine q_k 1 ?_
  show q_W L (d + 3) 106 q_m106 Q 20 [some (.ref 192), some (.int (nI pl))] [.int (nI 0), .ref 212, .ref 192] (n, I1, J, R) 0 0
  refine q_cv (as := [.ref 212, .int (nI 0)]) (rs := []) rfl rfl rfl (⟨Nat.lt_of_lt_of_le (by decide) hK.1, rfl⟩) rfl rfl ?_
  refine m_store (q_K0_to hK (by rw [f1 0 (by decide) (by decide) (by decide)]) (by rw [f1 1 (by decide) (by decide) (by decide)])) (⟨by decide, Nat.lt_of_lt_of_le (by decide) hK.1, rfl⟩) (rfl) (by decide) (by decide) (fun I2 h2 g2 f2 => ?_)
  show q_W L (d + 3) 106 q_m106 Q 23 [some (.ref 192), some (.int (nI pl))] [] (n, I2, J, R) 0 0
  refine q_k 2 ?_
  show q_W L (d + 3) 106 q_m106 Q 25 [some (.ref 192), some (.int (nI pl))] [.ref 192, .ref 192] (n, I2, J, R) 0 0
  refine q_gR (b := 207) rfl rfl (⟨Nat.lt_of_lt_of_le (by decide) hK.1, rfl⟩) (hK.2.1 192 14 207 rfl) ?_
  refine q_k 5 ?_
  show q_W L (d + 3) 106 q_m106 Q 34 [some (.ref 192), some (.int (nI pl))] [.int (nI 0), .int (nI 0), .int (nI 0), .int (nI 8), .int (nI pl), .ref 207, .ref 192] (n, I2, J, R) 0 0
  refine q_cv (as := [.ref 207, .int (nI pl), .int (nI 8), .int (nI 0), .int (nI 0), .int (nI 0)]) (rs := []) rfl rfl rfl (⟨Nat.lt_of_lt_of_le (by decide) hK.1, rfl⟩) rfl rfl ?_
  refine m_mixed (q_K0_to hK (by rw [f2 0 (by decide), f1 0 (by decide) (by decide) (by decide)]) (by rw [f2 1 (by decide), f1 1 (by decide) (by decide) (by decide)])) (⟨by decide, Nat.lt_of_lt_of_le (by decide) hK.1, rfl⟩) (rfl) (hpl) (by decide) (fun I3 h3 f3 => ?_)
  show q_W L (d + 3) 106 q_m106 Q 37 [some (.ref 192), some (.int (nI pl))] [] (n, I3, J, R) 0 0
  refine q_k 2 ?_
  show q_W L (d + 3) 106 q_m106 Q 39 [some (.ref 192), some (.int (nI pl))] [.ref 192, .ref 192] (n, I3, J, R) 0 0
  refine q_gR (b := 207) rfl rfl (⟨Nat.lt_of_lt_of_le (by decide) hK.1, rfl⟩) (hK.2.1 192 14 207 rfl) ?_
  refine q_k 1 ?_
  show q_W L (d + 3) 106 q_m106 Q 43 [some (.ref 192), some (.int (nI pl))] [.int (nI pl), .ref 207, .ref 192] (n, I3, J, R) 0 0
  refine q_cv (as := [.ref 207, .int (nI pl)]) (rs := []) rfl rfl rfl (⟨Nat.lt_of_lt_of_le (by decide) hK.1, rfl⟩) rfl rfl ?_
  refine m_store (q_K0_to hK (by rw [f3 0 (by decide) (by decide) (by decide), f2 0 (by decide), f1 0 (by decide) (by decide) (by decide)]) (by rw [f3 1 (by decide) (by decide) (by decide), f2 1 (by decide), f1 1 (by decide) (by decide) (by decide)])) (⟨by decide, Nat.lt_of_lt_of_le (by decide) hK.1, rfl⟩) (rfl) (hpl) (by decide) (fun I4 h4 g4 f4 => ?_)
  show q_W L (d + 3) 106 q_m106 Q 46 [some (.ref 192), some (.int (nI pl))] [] (n, I4, J, R) 0 0
  refine q_one rfl rfl ?_
  show Q (none) (n, I4, J, R)
  have r1 : I2 207 = I 207 := by rw [f2 207 (by decide), f1 207 (by decide) (by decide) (by decide)]
  refine hQ I4 (fun i hi => ?_) (fun i hi => ?_) (fun j hj => ?_) (fun y h7 h9 h10 h11 h12 => ?_)
  · rw [f4 212 (by decide), f3 212 (by decide) (by decide) (by decide)]; have := h2 i hi; rw [Nat.zero_add] at this; rw [this, h1 i hi]
  · rw [h4 i hi, h3 i hi, r1]
  · rw [g4 j hj, f3 207 (by decide) (by decide) (by decide), r1]
  · rw [f4 y h7, f3 y h9 h10 h11, f2 y h12, f1 y h9 h10 h11]
theorem m_agree {L d n : Nat} {I : q_I} {J : q_L} {R : q_R} {Q : q_Q} {o1 o2 o3 o4 a b o : Int32} (hK : q_K0 n I R) (hQ : ∀ I', (∀ i, i < 8 → I' 207 (14 + i) = g_mix (fun j => g_mix (g_fl (nI 0) (nI 0) (nI 0) (nI 0)) o1 o2 o3 o4 j) a b (nI 4) o i) → (∀ j, (j < 14 ∨ 22 ≤ j) → I' 207 j = I 207 j) → (∀ x, x ≠ 207 → x ≠ 209 → x ≠ 210 → x ≠ 211 → x ≠ 212 → I' x = I x) → Q none (n, I', J, R)) : q_Ex L (d + 4) 107 [.ref 192, .int o1, .int o2, .int o3, .int o4, .int a, .int b, .int o] (n, I, J, R) Q := by
  refine q_in (x := q_m107) rfl rfl ?_
  show q_W L (d + 3) 107 q_m107 Q 0 [some (.ref 192), some (.int o1), some (.int o2), some (.int o3), some (.int o4), some (.int a), some (.int b), some (.int o)] [] (n, I, J, R) 0 0
  refine q_k 5 ?_
  show q_W L (d + 3) 107 q_m107 Q 5 [some (.ref 192), some (.int o1), some (.int o2), some (.int o3), some (.int o4), some (.int a), some (.int b), some (.int o)] [.int (nI 0), .int (nI 0), .int (nI 0), .int (nI 0), .ref 192] (n, I, J, R) 0 0
  refine q_cv (as := [.int (nI 0), .int (nI 0), .int (nI 0), .int (nI 0)]) (rs := []) rfl rfl rfl (⟨Nat.lt_of_lt_of_le (by decide) hK.1, rfl⟩) rfl rfl ?_
  refine m_fill (hK) (fun I1 h1 f1 => ?_)
  show q_W L (d + 3) 107 q_m107 Q 8 [some (.ref 192), some (.int o1), some (.int o2), some (.int o3), some (.int o4), some (.int a), some (.int b), some (.int o)] [] (n, I1, J, R) 0 0
  refine q_k 2 ?_
  show q_W L (d + 3) 107 q_m107 Q 10 [some (.ref 192), some (.int o1), some (.int o2), some (.int o3), some (.int o4), some (.int a), some (.int b), some (.int o)] [.ref 192, .ref 192] (n, I1, J, R) 0 0
  refine q_gR (b := 212) rfl rfl (⟨Nat.lt_of_lt_of_le (by decide) hK.1, rfl⟩) (hK.2.1 192 21 212 rfl) ?_
  refine q_k 5 ?_
  show q_W L (d + 3) 107 q_m107 Q 19 [some (.ref 192), some (.int o1), some (.int o2), some (.int o3), some (.int o4), some (.int a), some (.int b), some (.int o)] [.int o4, .int o3, .int o2, .int o1, .int (nI 0), .ref 212, .ref 192] (n, I1, J, R) 0 0
  refine q_cv (as := [.ref 212, .int (nI 0), .int o1, .int o2, .int o3, .int o4]) (rs := []) rfl rfl rfl (⟨Nat.lt_of_lt_of_le (by decide) hK.1, rfl⟩) rfl rfl ?_
  refine m_mixed (q_K0_to hK (by rw [f1 0 (by decide)]) (by rw [f1 1 (by decide)])) (⟨by decide, Nat.lt_of_lt_of_le (by decide) hK.1, rfl⟩) (rfl) (by decide) (by decide) (fun I2 h2 f2 => ?_)
  show q_W L (d + 3) 107 q_m107 Q 22 [some (.ref 192), some (.int o1), some (.int o2), some (.int o3), some (.int o4), some (.int a), some (.int b), some (.int o)] [] (n, I2, J, R) 0 0
  refine q_k 2 ?_
  show q_W L (d + 3) 107 q_m107 Q 24 [some (.ref 192), some (.int o1), some (.int o2), some (.int o3), some (.int o4), some (.int a), some (.int b), some (.int o)] [.ref 192, .ref 192] (n, I2, J, R) 0 0
  refine q_gR (b := 212) rfl rfl (⟨Nat.lt_of_lt_of_le (by decide) hK.1, rfl⟩) (hK.2.1 192 21 212 rfl) ?_
  refine q_k 1 ?_
  show q_W L (d + 3) 107 q_m107 Q 28 [some (.ref 192), some (.int o1), some (.int o2), some (.int o3), some (.int o4), some (.int a), some (.int b), some (.int o)] [.int (nI 0), .ref 212, .ref 192] (n, I2, J, R) 0 0
  refine q_cv (as := [.ref 212, .int (nI 0)]) (rs := []) rfl rfl rfl (⟨Nat.lt_of_lt_of_le (by decide) hK.1, rfl⟩) rfl rfl ?_
  refine m_store (q_K0_to hK (by rw [f2 0 (by decide) (by decide) (by decide), f1 0 (by decide)]) (by rw [f2 1 (by decide) (by decide) (by decide), f1 1 (by decide)])) (⟨by decide, Nat.lt_of_lt_of_le (by decide) hK.1, rfl⟩) (rfl) (by decide) (by decide) (fun I3 h3 g3 f3 => ?_)
  show q_W L (d + 3) 107 q_m107 Q 31 [some (.ref 192), some (.int o1), some (.int o2), some (.int o3), some (.int o4), some (.int a), some (.int b), some (.int o)] [] (n, I3, J, R) 0 0
  refine q_k 2 ?_
  show q_W L (d + 3) 107 q_m107 Q 33 [some (.ref 192), some (.int o1), some (.int o2), some (.int o3), some (.int o4), some (.int a), some (.int b), some (.int o)] [.ref 192, .ref 192] (n, I3, J, R) 0 0
  refine q_gR (b := 212) rfl rfl (⟨Nat.lt_of_lt_of_le (by decide) hK.1, rfl⟩) (hK.2.1 192 21 212 rfl) ?_
  refine q_k 5 ?_
  show q_W L (d + 3) 107 q_m107 Q 44 [some (.ref 192), some (.int o1), some (.int o2), some (.int o3), some (.int o4), some (.int a), some (.int b), some (.int o)] [.int o, .int (nI 4), .int b, .int a, .int (nI 0), .ref 212, .ref 192] (n, I3, J, R) 0 0
  refine q_cv (as := [.ref 212, .int (nI 0), .int a, .int b, .int (nI 4), .int o]) (rs := []) rfl rfl rfl (⟨Nat.lt_of_lt_of_le (by decide) hK.1, rfl⟩) rfl rfl ?_
  refine m_mixed (q_K0_to hK (by rw [f3 0 (by decide), f2 0 (by decide) (by decide) (by decide), f1 0 (by decide)]) (by rw [f3 1 (by decide), f2 1 (by decide) (by decide) (by decide), f1 1 (by decide)])) (⟨by decide, Nat.lt_of_lt_of_le (by decide) hK.1, rfl⟩) (rfl) (by decide) (by decide) (fun I4 h4 f4 => ?_)
  show q_W L (d + 3) 107 q_m107 Q 47 [some (.ref 192), some (.int o1), some (.int o2), some (.int o3), some (.int o4), some (.int a), some (.int b), some (.int o)] [] (n, I4, J, R) 0 0
  refine q_k 2 ?_
  show q_W L (d + 3) 107 q_m107 Q 49 [some (.ref 192), some (.int o1), some (.int o2), some (.int o3), some (.int o4), some (.int a), some (.int b), some (.int o)] [.ref 192, .ref 192] (n, I4, J, R) 0 0
  refine q_gR (b := 207) rfl rfl (⟨Nat.lt_of_lt_of_le (by decide) hK.1, rfl⟩) (hK.2.1 192 14 207 rfl) ?_
  refine q_k 1 ?_
  show q_W L (d + 3) 107 q_m107 Q 54 [some (.ref 192), some (.int o1), some (.int o2), some (.int o3), some (.int o4), some (.int a), some (.int b), some (.int o)] [.int (nI 14), .ref 207, .ref 192] (n, I4, J, R) 0 0
  refine q_cv (as := [.ref 207, .int (nI 14)]) (rs := []) rfl rfl rfl (⟨Nat.lt_of_lt_of_le (by decide) hK.1, rfl⟩) rfl rfl ?_
  refine m_store (q_K0_to hK (by rw [f4 0 (by decide) (by decide) (by decide), f3 0 (by decide), f2 0 (by decide) (by decide) (by decide), f1 0 (by decide)]) (by rw [f4 1 (by decide) (by decide) (by decide), f3 1 (by decide), f2 1 (by decide) (by decide) (by decide), f1 1 (by decide)])) (⟨by decide, Nat.lt_of_lt_of_le (by decide) hK.1, rfl⟩) (rfl) (by decide) (by decide) (fun I5 h5 g5 f5 => ?_)
  show q_W L (d + 3) 107 q_m107 Q 57 [some (.ref 192), some (.int o1), some (.int o2), some (.int o3), some (.int o4), some (.int a), some (.int b), some (.int o)] [] (n, I5, J, R) 0 0
  refine q_one rfl rfl ?_
  show Q (none) (n, I5, J, R)
  have k3 : ∀ i, i < 8 → I3 212 (0 + i) = g_mix (g_fl (nI 0) (nI 0) (nI 0) (nI 0)) o1 o2 o3 o4 i := fun i hi => by
    rw [h3 i hi, h2 i hi]
    exact g_mix_c (fun j hj => by rw [Nat.zero_add]; exact h1 j hj) _ _ _ _ (by omega)
  refine hQ I5 (fun i hi => ?_) (fun j hj => ?_) (fun y h7 h9 h10 h11 h12 => ?_)
  · rw [h5 i hi, h4 i hi]; exact g_mix_c k3 _ _ _ _ (by omega)
  · rw [g5 j (by omega), f4 207 (by decide) (by decide) (by decide), f3 207 (by decide), f2 207 (by decide) (by decide) (by decide), f1 207 (by decide)]
  · rw [f5 y h7, f4 y h9 h10 h11, f3 y h12, f2 y h9 h10 h11, f1 y h12]
