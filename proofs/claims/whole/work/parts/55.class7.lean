theorem CR_fr {n : Nat} {I I2 : q_I} {J : q_L} {R : q_R} {M : q_I} {N : q_L} (h : CR n I J R M N) (hI : ∀ x, x ≠ 5 → x ≠ 6 → x ≠ 7 → x ≠ 81 → x ≠ 82 → x ≠ 83 → I2 x = I x) : CR n I2 J R M N ∧ q_nmf I2 I := by
  obtain ⟨hK, hn, ha, ⟨ss, mc, tr, hL⟩, ⟨E, hE⟩⟩ := h
  exact ⟨⟨q_K0_to hK (hI 0 (by decide) (by decide) (by decide) (by decide) (by decide) (by decide)) (hI 1 (by decide) (by decide) (by decide) (by decide) (by decide) (by decide)), hn, fun v hv => c_A_to (ha v hv) (fun x h1 h2 => hI x (by omega) (by omega) (by omega) (by omega) (by omega) (by omega)) rfl (q_eu_rf _ _), ⟨ss, mc, tr, c_L_to hL (Nat.le_refl _) hK.1 (fun x _ h1 _ => hI x (by omega) (by omega) (by omega) (by omega) (by omega) (by omega)) (fun x _ _ => rfl) rfl rfl⟩, ⟨E, c_E_to hE (hI 3 (by decide) (by decide) (by decide) (by decide) (by decide) (by decide)) rfl⟩⟩, fun x hx => hI x (by omega) (by omega) (by omega) (by omega) (by omega) (by omega)⟩
theorem c_isRegistered {L d n : Nat} {I : q_I} {J : q_L} {R : q_R} {Q : q_Q} {z : Int64} {M : q_I} (hK : q_K0 n I R) (ha : ∀ u, u < 4 → c_A I R M (84 + 19 * u) u) (hQ1 : ∀ j, j < 4 → z = lN j → ¬ M 193 j = 0 → Q (some (.int (nI 1))) (n, I, J, R)) (hQ0 : (∀ j, j < 4 → z = lN j → M 193 j = 0) → Q (some (.int (nI 0))) (n, I, J, R)) : q_Ex L (d + 1) 59 [.ref 3, .long z] (n, I, J, R) Q := by
  refine q_in (x := q_m59) rfl rfl ?_
  show q_W L d 59 q_m59 Q 0 [some (.ref 3), some (.long z), none] [] (n, I, J, R) 0 0
  refine q_k 3 ?_
  show q_W L d 59 q_m59 Q 3 [some (.ref 3), some (.long z), none] [.int (lg_cmp z (lN 0))] (n, I, J, R) 0 0
  refine q_one rfl rfl ?_
  show ((lg_cmp z (lN 0)) < 0 → q_W L d 59 q_m59 Q 31 [some (.ref 3), some (.long z), none] [] (n, I, J, R) 0 0) ∧ (¬ (lg_cmp z (lN 0)) < 0 → q_W L d 59 q_m59 Q 6 [some (.ref 3), some (.long z), none] [] (n, I, J, R) 0 0)
  refine ⟨fun h3 => ?_, fun h3 => ?_⟩
  · skip
    rw [lg_cmp_lt] at h3
    refine q_k 1 ?_
    show q_W L d 59 q_m59 Q 32 [some (.ref 3), some (.long z), none] [.int (nI 0)] (n, I, J, R) 0 0
    refine q_one rfl rfl ?_
    show q_bz (nI 0) ∧ Q (some (.int (nI 0))) (n, I, J, R)
    refine ⟨Or.inl rfl, ?_⟩
    exact hQ0 (fun j hj e => by rw [e] at h3; exact absurd h3 (q_lNn (by omega)))
  · skip
    rw [lg_cmp_lt] at h3
    refine q_k 3 ?_
    show q_W L d 59 q_m59 Q 11 [some (.ref 3), some (.long z), none] [.int (lg_cmp z (lN 4))] (n, I, J, R) 0 0
    refine q_one rfl rfl ?_
    show (0 ≤ (lg_cmp z (lN 4)) → q_W L d 59 q_m59 Q 31 [some (.ref 3), some (.long z), none] [] (n, I, J, R) 0 0) ∧ (¬ 0 ≤ (lg_cmp z (lN 4)) → q_W L d 59 q_m59 Q 14 [some (.ref 3), some (.long z), none] [] (n, I, J, R) 0 0)
    refine ⟨fun h11 => ?_, fun h11 => ?_⟩
    · skip
      rw [lg_cmp_ge] at h11
      refine q_k 1 ?_
      show q_W L d 59 q_m59 Q 32 [some (.ref 3), some (.long z), none] [.int (nI 0)] (n, I, J, R) 0 0
      refine q_one rfl rfl ?_
      show q_bz (nI 0) ∧ Q (some (.int (nI 0))) (n, I, J, R)
      refine ⟨Or.inl rfl, ?_⟩
      exact hQ0 (fun j hj e => by rw [e] at h11; exact absurd h11 (q_lNl (by omega) (by decide) hj))
    · skip
      rw [lg_cmp_ge] at h11
      obtain ⟨j, hj, rfl⟩ := q_l4 (by decide) h3 h11
      show q_W L d 59 q_m59 Q 14 [some (.ref 3), some (.long (lN j)), none] [] (n, I, J, R) 0 0
      refine q_k 1 ?_
      show q_W L d 59 q_m59 Q 15 [some (.ref 3), some (.long (lN j)), none] [.ref 3] (n, I, J, R) 0 0
      refine q_gR (b := 8) rfl rfl (⟨Nat.lt_of_lt_of_le (by decide) hK.1, rfl⟩) (hK.2.1 3 1 8 rfl) ?_
      refine q_k 2 ?_
      show q_W L d 59 q_m59 Q 20 [some (.ref 3), some (.long (lN j)), none] [.int ((lN j).toInt32), .ref 8] (n, I, J, R) 0 0
      refine q_top (w := nI j) (lN_i _) ?_
      refine q_aal (m := j) (b := (84 + 19 * j)) rfl (⟨by decide, Nat.lt_of_lt_of_le (by decide) hK.1, rfl⟩) ⟨rfl, rfl⟩ (hj) rfl (hK.2.1 8 j _ (q_fx8 j hj)) ?_
      refine q_gZ rfl rfl ((q_Ac_of hK hj).ob) ?_
      refine q_top (w := M 193 j) ((ha j hj).reg) ?_
      refine q_one rfl rfl ?_
      show ((M 193 j) = 0 → q_W L d 59 q_m59 Q 31 [some (.ref 3), some (.long (lN j)), none] [] (n, I, J, R) 0 0) ∧ (¬ (M 193 j) = 0 → q_W L d 59 q_m59 Q 27 [some (.ref 3), some (.long (lN j)), none] [] (n, I, J, R) 0 0)
      refine ⟨fun h24 => ?_, fun h24 => ?_⟩
      · skip
        refine q_k 1 ?_
        show q_W L d 59 q_m59 Q 32 [some (.ref 3), some (.long (lN j)), none] [.int (nI 0)] (n, I, J, R) 0 0
        refine q_one rfl rfl ?_
        show q_bz (nI 0) ∧ Q (some (.int (nI 0))) (n, I, J, R)
        refine ⟨Or.inl rfl, ?_⟩
        exact hQ0 (fun i hi e => by rw [← q_lNi (by omega) (by omega) e]; exact h24)
      · skip
        refine q_k 2 ?_
        show q_W L d 59 q_m59 Q 32 [some (.ref 3), some (.long (lN j)), none] [.int (nI 1)] (n, I, J, R) 0 0
        refine q_one rfl rfl ?_
        show q_bz (nI 1) ∧ Q (some (.int (nI 1))) (n, I, J, R)
        refine ⟨Or.inr rfl, ?_⟩
        exact hQ1 j hj rfl h24
theorem c_areTwo {L d n : Nat} {I : q_I} {J : q_L} {R : q_R} {Q : q_Q} {z y : Int64} {M : q_I} (hK : q_K0 n I R) (ha : ∀ u, u < 4 → c_A I R M (84 + 19 * u) u) (hQ1 : ∀ i j, i < 4 → j < 4 → i ≠ j → z = lN i → y = lN j → ¬ M 193 i = 0 → ¬ M 193 j = 0 → Q (some (.int (nI 1))) (n, I, J, R)) (hQ0 : (∀ i j, i < 4 → j < 4 → i ≠ j → z = lN i → y = lN j → ¬ M 193 i = 0 → ¬ M 193 j = 0 → False) → Q (some (.int (nI 0))) (n, I, J, R)) : q_Ex L (d + 2) 60 [.ref 3, .long z, .long y] (n, I, J, R) Q := by
  refine q_in (x := q_m60) rfl rfl ?_
  show q_W L (d + 1) 60 q_m60 Q 0 [some (.ref 3), some (.long z), none, some (.long y), none] [] (n, I, J, R) 0 0
  refine q_k 2 ?_
  show q_W L (d + 1) 60 q_m60 Q 2 [some (.ref 3), some (.long z), none, some (.long y), none] [.long z, .ref 3] (n, I, J, R) 0 0
  refine q_cv (as := [.long z]) (rs := []) rfl rfl rfl (⟨Nat.lt_of_lt_of_le (by decide) hK.1, rfl⟩) rfl rfl ?_
  refine c_isRegistered (hK) (ha) (fun i hi ei hri => ?_) (fun hno => ?_)
  · skip
    show q_W L (d + 1) 60 q_m60 Q 5 [some (.ref 3), some (.long z), none, some (.long y), none] [.int (nI 1)] (n, I, J, R) 0 0
    refine q_one rfl rfl ?_
    show ((nI 1) = 0 → q_W L (d + 1) 60 q_m60 Q 26 [some (.ref 3), some (.long z), none, some (.long y), none] [] (n, I, J, R) 0 0) ∧ (¬ (nI 1) = 0 → q_W L (d + 1) 60 q_m60 Q 8 [some (.ref 3), some (.long z), none, some (.long y), none] [] (n, I, J, R) 0 0)
    refine ⟨fun z => absurd z (by decide), fun _ => ?_⟩
    refine q_k 2 ?_
    show q_W L (d + 1) 60 q_m60 Q 10 [some (.ref 3), some (.long z), none, some (.long y), none] [.long y, .ref 3] (n, I, J, R) 0 0
    refine q_cv (as := [.long y]) (rs := []) rfl rfl rfl (⟨Nat.lt_of_lt_of_le (by decide) hK.1, rfl⟩) rfl rfl ?_
    refine c_isRegistered (hK) (ha) (fun j hj ej hrj => ?_) (fun hno => ?_)
    · skip
      show q_W L (d + 1) 60 q_m60 Q 13 [some (.ref 3), some (.long z), none, some (.long y), none] [.int (nI 1)] (n, I, J, R) 0 0
      refine q_one rfl rfl ?_
      show ((nI 1) = 0 → q_W L (d + 1) 60 q_m60 Q 26 [some (.ref 3), some (.long z), none, some (.long y), none] [] (n, I, J, R) 0 0) ∧ (¬ (nI 1) = 0 → q_W L (d + 1) 60 q_m60 Q 16 [some (.ref 3), some (.long z), none, some (.long y), none] [] (n, I, J, R) 0 0)
      refine ⟨fun z => absurd z (by decide), fun _ => ?_⟩
      refine q_k 3 ?_
      show q_W L (d + 1) 60 q_m60 Q 19 [some (.ref 3), some (.long z), none, some (.long y), none] [.int (lg_cmp z y)] (n, I, J, R) 0 0
      refine q_one rfl rfl ?_
      show ((lg_cmp z y) = 0 → q_W L (d + 1) 60 q_m60 Q 26 [some (.ref 3), some (.long z), none, some (.long y), none] [] (n, I, J, R) 0 0) ∧ (¬ (lg_cmp z y) = 0 → q_W L (d + 1) 60 q_m60 Q 22 [some (.ref 3), some (.long z), none, some (.long y), none] [] (n, I, J, R) 0 0)
      refine ⟨fun h19 => ?_, fun h19 => ?_⟩
      · skip
        rw [lg_cmp_eq] at h19
        refine q_k 1 ?_
        show q_W L (d + 1) 60 q_m60 Q 27 [some (.ref 3), some (.long z), none, some (.long y), none] [.int (nI 0)] (n, I, J, R) 0 0
        refine q_one rfl rfl ?_
        show q_bz (nI 0) ∧ Q (some (.int (nI 0))) (n, I, J, R)
        refine ⟨Or.inl rfl, ?_⟩
        exact hQ0 (fun i2 j2 hi2 hj2 hne e1 e2 _ _ => hne (q_lNi (by omega) (by omega) (e1.symm.trans (h19.trans e2))))
      · skip
        rw [lg_cmp_eq] at h19
        refine q_k 2 ?_
        show q_W L (d + 1) 60 q_m60 Q 27 [some (.ref 3), some (.long z), none, some (.long y), none] [.int (nI 1)] (n, I, J, R) 0 0
        refine q_one rfl rfl ?_
        show q_bz (nI 1) ∧ Q (some (.int (nI 1))) (n, I, J, R)
        refine ⟨Or.inr rfl, ?_⟩
        exact hQ1 i j hi hj (fun e => h19 (by rw [ei, ej, e])) ei ej hri hrj
    · skip
      show q_W L (d + 1) 60 q_m60 Q 13 [some (.ref 3), some (.long z), none, some (.long y), none] [.int (nI 0)] (n, I, J, R) 0 0
      refine q_one rfl rfl ?_
      show ((nI 0) = 0 → q_W L (d + 1) 60 q_m60 Q 26 [some (.ref 3), some (.long z), none, some (.long y), none] [] (n, I, J, R) 0 0) ∧ (¬ (nI 0) = 0 → q_W L (d + 1) 60 q_m60 Q 16 [some (.ref 3), some (.long z), none, some (.long y), none] [] (n, I, J, R) 0 0)
      refine ⟨fun _ => ?_, fun z => absurd (by decide) z⟩
      refine q_k 1 ?_
      show q_W L (d + 1) 60 q_m60 Q 27 [some (.ref 3), some (.long z), none, some (.long y), none] [.int (nI 0)] (n, I, J, R) 0 0
      refine q_one rfl rfl ?_
      show q_bz (nI 0) ∧ Q (some (.int (nI 0))) (n, I, J, R)
      refine ⟨Or.inl rfl, ?_⟩
      exact hQ0 (fun i2 j hi2 hj _ _ e _ hr => hr (hno j hj e))
  · skip
    show q_W L (d + 1) 60 q_m60 Q 5 [some (.ref 3), some (.long z), none, some (.long y), none] [.int (nI 0)] (n, I, J, R) 0 0
    refine q_one rfl rfl ?_
    show ((nI 0) = 0 → q_W L (d + 1) 60 q_m60 Q 26 [some (.ref 3), some (.long z), none, some (.long y), none] [] (n, I, J, R) 0 0) ∧ (¬ (nI 0) = 0 → q_W L (d + 1) 60 q_m60 Q 8 [some (.ref 3), some (.long z), none, some (.long y), none] [] (n, I, J, R) 0 0)
    refine ⟨fun _ => ?_, fun z => absurd (by decide) z⟩
    refine q_k 1 ?_
    show q_W L (d + 1) 60 q_m60 Q 27 [some (.ref 3), some (.long z), none, some (.long y), none] [.int (nI 0)] (n, I, J, R) 0 0
    refine q_one rfl rfl ?_
    show q_bz (nI 0) ∧ Q (some (.int (nI 0))) (n, I, J, R)
    refine ⟨Or.inl rfl, ?_⟩
    exact hQ0 (fun i j hi hj _ e _ hr _ => hr (hno i hi e))
theorem c_isEnvelope {L d n : Nat} {I : q_I} {J : q_L} {R : q_R} {Q : q_Q} {v : Int32} {E : Nat} (hK : q_K0 n I R) (hE : I 3 4 = nI E) (hE6 : E ≤ 60) (hQ1 : ∀ j, j < E → v = nI j → Q (some (.int (nI 1))) (n, I, J, R)) (hQ0 : g_th (nI E) v = 0 → Q (some (.int (nI 0))) (n, I, J, R)) : q_Ex L (d + 1) 61 [.ref 3, .int v] (n, I, J, R) Q := by
  refine q_in (x := q_m61) rfl rfl ?_
  show q_W L d 61 q_m61 Q 0 [some (.ref 3), some (.int v)] [] (n, I, J, R) 0 0
  refine q_k 1 ?_
  show q_W L d 61 q_m61 Q 1 [some (.ref 3), some (.int v)] [.int v] (n, I, J, R) 0 0
  refine q_one rfl rfl ?_
  show (v < 0 → q_W L d 61 q_m61 Q 16 [some (.ref 3), some (.int v)] [] (n, I, J, R) 0 0) ∧ (¬ v < 0 → q_W L d 61 q_m61 Q 4 [some (.ref 3), some (.int v)] [] (n, I, J, R) 0 0)
  refine ⟨fun h1 => ?_, fun h1 => ?_⟩
  · skip
    refine q_k 1 ?_
    show q_W L d 61 q_m61 Q 17 [some (.ref 3), some (.int v)] [.int (nI 0)] (n, I, J, R) 0 0
    refine q_one rfl rfl ?_
    show q_bz (nI 0) ∧ Q (some (.int (nI 0))) (n, I, J, R)
    refine ⟨Or.inl rfl, ?_⟩
    exact hQ0 (by unfold g_th; rw [if_pos h1]; rfl)
  · skip
    refine q_k 2 ?_
    show q_W L d 61 q_m61 Q 6 [some (.ref 3), some (.int v)] [.ref 3, .int v] (n, I, J, R) 0 0
    refine q_gI rfl rfl (⟨Nat.lt_of_lt_of_le (by decide) hK.1, rfl⟩) ?_
    refine q_top (w := nI E) (hE) ?_
    refine q_one rfl rfl ?_
    show ((nI E) ≤ v → q_W L d 61 q_m61 Q 16 [some (.ref 3), some (.int v)] [] (n, I, J, R) 0 0) ∧ (¬ (nI E) ≤ v → q_W L d 61 q_m61 Q 12 [some (.ref 3), some (.int v)] [] (n, I, J, R) 0 0)
    refine ⟨fun h9 => ?_, fun h9 => ?_⟩
    · skip
      refine q_k 1 ?_
      show q_W L d 61 q_m61 Q 17 [some (.ref 3), some (.int v)] [.int (nI 0)] (n, I, J, R) 0 0
      refine q_one rfl rfl ?_
      show q_bz (nI 0) ∧ Q (some (.int (nI 0))) (n, I, J, R)
      refine ⟨Or.inl rfl, ?_⟩
      exact hQ0 (by unfold g_th; rw [if_neg h1, if_pos h9]; rfl)
    · skip
      refine q_k 2 ?_
      show q_W L d 61 q_m61 Q 17 [some (.ref 3), some (.int v)] [.int (nI 1)] (n, I, J, R) 0 0
      refine q_one rfl rfl ?_
      show q_bz (nI 1) ∧ Q (some (.int (nI 1))) (n, I, J, R)
      refine ⟨Or.inr rfl, ?_⟩
      rcases pk_ix v (show E < 2 ^ 31 by omega) with q | q | ⟨j, hj, e⟩
      · exact absurd q h1
      · exact absurd q h9
      · exact hQ1 j hj e
theorem c_isField {L d n : Nat} {I : q_I} {J : q_L} {R : q_R} {Q : q_Q} {v w : Int32} {E : Nat} (hK : q_K0 n I R) (hE : I 3 4 = nI E) (hE6 : E ≤ 60) (hQ1 : ∀ j k, j < E → k < 12 → v = nI j → w = nI k → Q (some (.int (nI 1))) (n, I, J, R)) (hQ0 : (g_th (nI E) v = 0 ∨ w < 0 ∨ nI 11 < w) → Q (some (.int (nI 0))) (n, I, J, R)) : q_Ex L (d + 2) 62 [.ref 3, .int v, .int w] (n, I, J, R) Q := by
  refine q_in (x := q_m62) rfl rfl ?_
  show q_W L (d + 1) 62 q_m62 Q 0 [some (.ref 3), some (.int v), some (.int w)] [] (n, I, J, R) 0 0
  refine q_k 2 ?_
  show q_W L (d + 1) 62 q_m62 Q 2 [some (.ref 3), some (.int v), some (.int w)] [.int v, .ref 3] (n, I, J, R) 0 0
  refine q_cv (as := [.int v]) (rs := []) rfl rfl rfl (⟨Nat.lt_of_lt_of_le (by decide) hK.1, rfl⟩) rfl rfl ?_
  refine c_isEnvelope (hK) (hE) (hE6) (fun j hj ej => ?_) (fun hno => ?_)
  · skip
    show q_W L (d + 1) 62 q_m62 Q 5 [some (.ref 3), some (.int v), some (.int w)] [.int (nI 1)] (n, I, J, R) 0 0
    refine q_one rfl rfl ?_
    show ((nI 1) = 0 → q_W L (d + 1) 62 q_m62 Q 22 [some (.ref 3), some (.int v), some (.int w)] [] (n, I, J, R) 0 0) ∧ (¬ (nI 1) = 0 → q_W L (d + 1) 62 q_m62 Q 8 [some (.ref 3), some (.int v), some (.int w)] [] (n, I, J, R) 0 0)
    refine ⟨fun z => absurd z (by decide), fun _ => ?_⟩
    refine q_k 1 ?_
    show q_W L (d + 1) 62 q_m62 Q 9 [some (.ref 3), some (.int v), some (.int w)] [.int w] (n, I, J, R) 0 0
    refine q_one rfl rfl ?_
    show (w < 0 → q_W L (d + 1) 62 q_m62 Q 22 [some (.ref 3), some (.int v), some (.int w)] [] (n, I, J, R) 0 0) ∧ (¬ w < 0 → q_W L (d + 1) 62 q_m62 Q 12 [some (.ref 3), some (.int v), some (.int w)] [] (n, I, J, R) 0 0)
    refine ⟨fun h9 => ?_, fun h9 => ?_⟩
    · skip
      refine q_k 1 ?_
      show q_W L (d + 1) 62 q_m62 Q 23 [some (.ref 3), some (.int v), some (.int w)] [.int (nI 0)] (n, I, J, R) 0 0
      refine q_one rfl rfl ?_
      show q_bz (nI 0) ∧ Q (some (.int (nI 0))) (n, I, J, R)
      refine ⟨Or.inl rfl, ?_⟩
      exact hQ0 (Or.inr (Or.inl h9))
    · skip
      refine q_k 2 ?_
      show q_W L (d + 1) 62 q_m62 Q 15 [some (.ref 3), some (.int v), some (.int w)] [.int (nI 12), .int w] (n, I, J, R) 0 0
      refine q_one rfl rfl ?_
      show ((nI 12) ≤ w → q_W L (d + 1) 62 q_m62 Q 22 [some (.ref 3), some (.int v), some (.int w)] [] (n, I, J, R) 0 0) ∧ (¬ (nI 12) ≤ w → q_W L (d + 1) 62 q_m62 Q 18 [some (.ref 3), some (.int v), some (.int w)] [] (n, I, J, R) 0 0)
      refine ⟨fun h15 => ?_, fun h15 => ?_⟩
      · skip
        refine q_k 1 ?_
        show q_W L (d + 1) 62 q_m62 Q 23 [some (.ref 3), some (.int v), some (.int w)] [.int (nI 0)] (n, I, J, R) 0 0
        refine q_one rfl rfl ?_
        show q_bz (nI 0) ∧ Q (some (.int (nI 0))) (n, I, J, R)
        refine ⟨Or.inl rfl, ?_⟩
        exact hQ0 (Or.inr (Or.inr (g_1112.mp h15)))
      · skip
        refine q_k 2 ?_
        show q_W L (d + 1) 62 q_m62 Q 23 [some (.ref 3), some (.int v), some (.int w)] [.int (nI 1)] (n, I, J, R) 0 0
        refine q_one rfl rfl ?_
        show q_bz (nI 1) ∧ Q (some (.int (nI 1))) (n, I, J, R)
        refine ⟨Or.inr rfl, ?_⟩
        obtain ⟨k, hk, ek⟩ := g_pl (by decide) h9 (k2_le (fun z => h15 (g_1112.mpr z)))
        exact hQ1 j k hj (by omega) ej ek
  · skip
    show q_W L (d + 1) 62 q_m62 Q 5 [some (.ref 3), some (.int v), some (.int w)] [.int (nI 0)] (n, I, J, R) 0 0
    refine q_one rfl rfl ?_
    show ((nI 0) = 0 → q_W L (d + 1) 62 q_m62 Q 22 [some (.ref 3), some (.int v), some (.int w)] [] (n, I, J, R) 0 0) ∧ (¬ (nI 0) = 0 → q_W L (d + 1) 62 q_m62 Q 8 [some (.ref 3), some (.int v), some (.int w)] [] (n, I, J, R) 0 0)
    refine ⟨fun _ => ?_, fun z => absurd (by decide) z⟩
    refine q_k 1 ?_
    show q_W L (d + 1) 62 q_m62 Q 23 [some (.ref 3), some (.int v), some (.int w)] [.int (nI 0)] (n, I, J, R) 0 0
    refine q_one rfl rfl ?_
    show q_bz (nI 0) ∧ Q (some (.int (nI 0))) (n, I, J, R)
    refine ⟨Or.inl rfl, ?_⟩
    exact hQ0 (Or.inl hno)
theorem c_listOf {L d n : Nat} {I : q_I} {J : q_L} {R : q_R} {Q : q_Q} {i j : Nat} (hK : q_K0 n I R) (hi : i < 4) (hj : j < 4) (hQ : Q (some (.ref (160 + 2 * (4 * i + j)))) (n, I, J, R)) : q_Ex L (d + 1) 63 [.ref 3, .int (nI i), .int (nI j)] (n, I, J, R) Q := by
  refine q_in (x := q_m63) rfl rfl ?_
  show q_W L d 63 q_m63 Q 0 [some (.ref 3), some (.int (nI i)), some (.int (nI j))] [] (n, I, J, R) 0 0
  refine q_k 1 ?_
  show q_W L d 63 q_m63 Q 1 [some (.ref 3), some (.int (nI i)), some (.int (nI j))] [.ref 3] (n, I, J, R) 0 0
  refine q_gR (b := 9) rfl rfl (⟨Nat.lt_of_lt_of_le (by decide) hK.1, rfl⟩) (hK.2.1 3 2 9 rfl) ?_
  refine q_k 3 ?_
  show q_W L d 63 q_m63 Q 7 [some (.ref 3), some (.int (nI i)), some (.int (nI j))] [.int ((nI i) * (nI 4)), .ref 9] (n, I, J, R) 0 0
  refine q_top (w := nI (i * 4)) (pk_mul _ _) ?_
  refine q_k 2 ?_
  show q_W L d 63 q_m63 Q 9 [some (.ref 3), some (.int (nI i)), some (.int (nI j))] [.int ((nI (i * 4)) + (nI j)), .ref 9] (n, I, J, R) 0 0
  refine q_top (w := nI (4 * i + j)) (by rw [nI_add, Nat.mul_comm]) ?_
  refine q_aal (m := 4 * i + j) (b := (160 + 2 * (4 * i + j))) rfl (⟨by decide, Nat.lt_of_lt_of_le (by decide) hK.1, rfl⟩) ⟨rfl, rfl⟩ (by omega) rfl (hK.2.1 9 _ _ (q_fx9 (4 * i + j) (by omega))) ?_
  refine q_one rfl rfl ?_
  show Q (some (.ref (160 + 2 * (4 * i + j)))) (n, I, J, R)
  exact hQ
theorem c_isOrd {L d n : Nat} {I : q_I} {J : q_L} {R : q_R} {Q : q_Q} {z : Int64} (hQ : Q (some (.int (g_wi z (lN 2) (lN 2147483645)))) (n, I, J, R)) : q_Ex L (d + 1) 73 [.long z] (n, I, J, R) Q := by
  refine q_in (x := q_m73) rfl rfl ?_
  show q_W L d 73 q_m73 Q 0 [some (.long z), none] [] (n, I, J, R) 0 0
  refine q_k 3 ?_
  show q_W L d 73 q_m73 Q 5 [some (.long z), none] [.int (lg_cmp z (lN 2))] (n, I, J, R) 0 0
  refine q_one rfl rfl ?_
  show ((lg_cmp z (lN 2)) < 0 → q_W L d 73 q_m73 Q 20 [some (.long z), none] [] (n, I, J, R) 0 0) ∧ (¬ (lg_cmp z (lN 2)) < 0 → q_W L d 73 q_m73 Q 8 [some (.long z), none] [] (n, I, J, R) 0 0)
  refine ⟨fun h5 => ?_, fun h5 => ?_⟩
  · skip
    rw [lg_cmp_lt] at h5
    refine q_k 1 ?_
    show q_W L d 73 q_m73 Q 21 [some (.long z), none] [.int (nI 0)] (n, I, J, R) 0 0
    refine q_one rfl rfl ?_
    show q_bz (nI 0) ∧ Q (some (.int (nI 0))) (n, I, J, R)
    refine ⟨Or.inl rfl, ?_⟩
    simp only [g_wi, if_pos h5] at hQ
    exact hQ
  · skip
    rw [lg_cmp_lt] at h5
    refine q_k 3 ?_
    show q_W L d 73 q_m73 Q 13 [some (.long z), none] [.int (lg_cmp z (lN 2147483645))] (n, I, J, R) 0 0
    refine q_one rfl rfl ?_
    show (0 < (lg_cmp z (lN 2147483645)) → q_W L d 73 q_m73 Q 20 [some (.long z), none] [] (n, I, J, R) 0 0) ∧ (¬ 0 < (lg_cmp z (lN 2147483645)) → q_W L d 73 q_m73 Q 16 [some (.long z), none] [] (n, I, J, R) 0 0)
    refine ⟨fun h13 => ?_, fun h13 => ?_⟩
    · skip
      rw [lg_cmp_gt] at h13
      refine q_k 1 ?_
      show q_W L d 73 q_m73 Q 21 [some (.long z), none] [.int (nI 0)] (n, I, J, R) 0 0
      refine q_one rfl rfl ?_
      show q_bz (nI 0) ∧ Q (some (.int (nI 0))) (n, I, J, R)
      refine ⟨Or.inl rfl, ?_⟩
      simp only [g_wi, if_neg h5, if_pos h13] at hQ
      exact hQ
    · skip
      rw [lg_cmp_gt] at h13
      refine q_k 2 ?_
      show q_W L d 73 q_m73 Q 21 [some (.long z), none] [.int (nI 1)] (n, I, J, R) 0 0
      refine q_one rfl rfl ?_
      show q_bz (nI 1) ∧ Q (some (.int (nI 1))) (n, I, J, R)
      refine ⟨Or.inr rfl, ?_⟩
      simp only [g_wi, if_neg h5, if_neg h13] at hQ
      exact hQ
theorem c_isNum {L d n : Nat} {I : q_I} {J : q_L} {R : q_R} {Q : q_Q} {z : Int64} (hQ : Q (some (.int (g_wi z (lN 0) (lN 1000)))) (n, I, J, R)) : q_Ex L (d + 1) 74 [.long z] (n, I, J, R) Q := by
  refine q_in (x := q_m74) rfl rfl ?_
  show q_W L d 74 q_m74 Q 0 [some (.long z), none] [] (n, I, J, R) 0 0
  refine q_k 3 ?_
  show q_W L d 74 q_m74 Q 3 [some (.long z), none] [.int (lg_cmp z (lN 0))] (n, I, J, R) 0 0
  refine q_one rfl rfl ?_
  show ((lg_cmp z (lN 0)) < 0 → q_W L d 74 q_m74 Q 18 [some (.long z), none] [] (n, I, J, R) 0 0) ∧ (¬ (lg_cmp z (lN 0)) < 0 → q_W L d 74 q_m74 Q 6 [some (.long z), none] [] (n, I, J, R) 0 0)
  refine ⟨fun h3 => ?_, fun h3 => ?_⟩
  · skip
    rw [lg_cmp_lt] at h3
    refine q_k 1 ?_
    show q_W L d 74 q_m74 Q 19 [some (.long z), none] [.int (nI 0)] (n, I, J, R) 0 0
    refine q_one rfl rfl ?_
    show q_bz (nI 0) ∧ Q (some (.int (nI 0))) (n, I, J, R)
    refine ⟨Or.inl rfl, ?_⟩
    simp only [g_wi, if_pos h3] at hQ
    exact hQ
  · skip
    rw [lg_cmp_lt] at h3
    refine q_k 3 ?_
    show q_W L d 74 q_m74 Q 11 [some (.long z), none] [.int (lg_cmp z (lN 1000))] (n, I, J, R) 0 0
    refine q_one rfl rfl ?_
    show (0 < (lg_cmp z (lN 1000)) → q_W L d 74 q_m74 Q 18 [some (.long z), none] [] (n, I, J, R) 0 0) ∧ (¬ 0 < (lg_cmp z (lN 1000)) → q_W L d 74 q_m74 Q 14 [some (.long z), none] [] (n, I, J, R) 0 0)
    refine ⟨fun h11 => ?_, fun h11 => ?_⟩
    · skip
      rw [lg_cmp_gt] at h11
      refine q_k 1 ?_
      show q_W L d 74 q_m74 Q 19 [some (.long z), none] [.int (nI 0)] (n, I, J, R) 0 0
      refine q_one rfl rfl ?_
      show q_bz (nI 0) ∧ Q (some (.int (nI 0))) (n, I, J, R)
      refine ⟨Or.inl rfl, ?_⟩
      simp only [g_wi, if_neg h3, if_pos h11] at hQ
      exact hQ
    · skip
      rw [lg_cmp_gt] at h11
      refine q_k 2 ?_
      show q_W L d 74 q_m74 Q 19 [some (.long z), none] [.int (nI 1)] (n, I, J, R) 0 0
      refine q_one rfl rfl ?_
      show q_bz (nI 1) ∧ Q (some (.int (nI 1))) (n, I, J, R)
      refine ⟨Or.inr rfl, ?_⟩
      simp only [g_wi, if_neg h3, if_neg h11] at hQ
      exact hQ
theorem g_wi01_0 {z : Int64} (h0 : ¬ z = lN 0) (h1 : ¬ z = lN 1) : g_wi z (lN 0) (lN 1) = 0 := by
  refine Classical.byContradiction fun hn => ?_
  obtain ⟨j, -, hj, rfl⟩ := g_wi_n (by decide) (by decide) hn
  have : j = 0 ∨ j = 1 := by omega
  rcases this with rfl | rfl
  · exact h0 rfl
  · exact h1 rfl
theorem g_wi01_1 {z : Int64} (h : z = lN 0 ∨ z = lN 1) : ¬ g_wi z (lN 0) (lN 1) = 0 := by
  rcases h with rfl | rfl
  · decide +kernel
  · decide +kernel
theorem g_wi03 {j : Nat} (h : j < 4) : ¬ g_wi (lN j) (lN 0) (lN 3) = 0 := by
  have : j = 0 ∨ j = 1 ∨ j = 2 ∨ j = 3 := by omega
  rcases this with rfl | rfl | rfl | rfl
  all_goals decide +kernel
/-- what is asked of an envelope between two users that are there -/
def g_mal2 (M : q_I) (F : Nat → Int64) (a : Nat) : Int32 := if g_wi (F 2) (lN 0) (lN 1) = 0 then nI 1 else
  if g_wi (F 7) (lN 2) (lN 2147483645) = 0 then nI 1 else if g_wi (F 8) (lN 0) (lN 1000) = 0 then nI 1 else if g_wi (F 9) (lN 0) (lN 1000) = 0 then nI 1 else
  if F 2 = lN 0 then (if F 3 = (M 197 (2 * a + 1)).toInt64 then (if g_wi (F 4) (lN 2) (lN 2147483645) = 0 then nI 1 else nI 0) else nI 1) else nI 0
theorem g_mal_1 {M : q_I} {N : q_L} {e : Nat} (h : ∀ i j, i < 4 → j < 4 → i ≠ j → N 208 e = lN i → N 208 (e + 1) = lN j → ¬ M 193 i = 0 → ¬ M 193 j = 0 → False) : g_mal M N e = nI 1 := by
  unfold g_mal
  by_cases h1 : g_wi (N 208 e) (lN 0) (lN 3) = 0
  · rw [if_pos h1]
  rw [if_neg h1]
  by_cases h2 : g_wi (N 208 (e + 1)) (lN 0) (lN 3) = 0
  · rw [if_pos h2]
  rw [if_neg h2]
  obtain ⟨a, -, ha, fa⟩ := g_wi_n (by decide) (by decide) h1
  obtain ⟨b, -, hb, fb⟩ := g_wi_n (by decide) (by decide) h2
  by_cases h3 : g_pr (M 193) (N 208 e).toInt32 (N 208 (e + 1)).toInt32 = 0
  · rw [if_pos h3]
  · rw [fa, fb, lN_i, lN_i] at h3
    obtain ⟨i, j, hi, hj, ei, ej, hij, hfi, hfj, -⟩ := g_pr_1 h3
    have e1 : a = i := (nI_eq (by omega) (by omega)).mp ei
    have e2 : b = j := (nI_eq (by omega) (by omega)).mp ej
    subst e1 e2
    exact (h a b hi hj hij fa fb hfi hfj).elim
theorem g_mal_2 {M : q_I} {N : q_L} {F : Nat → Int64} {e a b : Nat} (hF : ∀ k, k < 12 → F k = N 208 (e + k)) (ha : a < 4) (hb : b < 4) (hab : a ≠ b) (fa : N 208 e = lN a) (fb : N 208 (e + 1) = lN b) (ra : ¬ M 193 a = 0) (rb : ¬ M 193 b = 0) : g_mal M N e = g_mal2 M F a := by
  unfold g_mal g_mal2
  rw [hF 2 (by decide), hF 3 (by decide), hF 4 (by decide), hF 7 (by decide), hF 8 (by decide), hF 9 (by decide), fa, fb, if_neg (g_wi03 ha), if_neg (g_wi03 hb), lN_i, lN_i, if_neg (g_pr_j ha hb hab ra rb), g_cl (by omega)]
theorem c_isMalformed {L d n : Nat} {I : q_I} {J : q_L} {R : q_R} {Q : q_Q} {le e : Nat} {N : q_L} {M : q_I} (hK : q_K0 n I R) (ha : ∀ u, u < 4 → c_A I R M (84 + 19 * u) u) (hl : q_ar n le 1 12) (hJ : ∀ k, k < 12 → J le k = N 208 (e + k)) (hQ : Q (some (.int (g_mal M N e))) (n, I, J, R)) : q_Ex L (d + 3) 64 [.ref 3, .ref le] (n, I, J, R) Q := by
  refine q_in (x := q_m64) rfl rfl ?_
  show q_W L (d + 2) 64 q_m64 Q 0 [some (.ref 3), some (.ref le), none, none] [] (n, I, J, R) 0 0
  refine q_k 3 ?_
  show q_W L (d + 2) 64 q_m64 Q 3 [some (.ref 3), some (.ref le), none, none] [.int (nI 0), .ref le, .ref 3] (n, I, J, R) 0 0
  refine q_lal (m := 0) rfl (hl) (by decide) (rfl) ?_
  refine q_k 2 ?_
  show q_W L (d + 2) 64 q_m64 Q 6 [some (.ref 3), some (.ref le), none, none] [.int (nI 1), .ref le, .long (J le 0), .ref 3] (n, I, J, R) 0 0
  refine q_lal (m := 1) rfl (hl) (by decide) (rfl) ?_
  refine q_cv (as := [.long (J le 0), .long (J le 1)]) (rs := []) rfl rfl rfl (⟨Nat.lt_of_lt_of_le (by decide) hK.1, rfl⟩) rfl rfl ?_
  refine c_areTwo (hK) (ha) (fun i j hi hj hij e0 e1 hri hrj => ?_) (fun hno => ?_)
  · skip
    show q_W L (d + 2) 64 q_m64 Q 10 [some (.ref 3), some (.ref le), none, none] [.int (nI 1)] (n, I, J, R) 0 0
    rw [g_mal_2 hJ hi hj hij ((hJ 0 (by decide)).symm.trans e0) ((hJ 1 (by decide)).symm.trans e1) hri hrj] at hQ
    refine q_one rfl rfl ?_
    show (¬ (nI 1) = 0 → q_W L (d + 2) 64 q_m64 Q 15 [some (.ref 3), some (.ref le), none, none] [] (n, I, J, R) 0 0) ∧ ((nI 1) = 0 → q_W L (d + 2) 64 q_m64 Q 13 [some (.ref 3), some (.ref le), none, none] [] (n, I, J, R) 0 0)
    refine ⟨fun _ => ?_, fun z => absurd z (by decide)⟩
    refine q_k 2 ?_
    show q_W L (d + 2) 64 q_m64 Q 17 [some (.ref 3), some (.ref le), none, none] [.int (nI 2), .ref le] (n, I, J, R) 0 0
    refine q_lal (m := 2) rfl (hl) (by decide) (rfl) ?_
    refine q_k 2 ?_
    show q_W L (d + 2) 64 q_m64 Q 20 [some (.ref 3), some (.ref le), none, none] [.int (lg_cmp (J le 2) (lN 0))] (n, I, J, R) 0 0
    refine q_one rfl rfl ?_
    show ((lg_cmp (J le 2) (lN 0)) = 0 → q_W L (d + 2) 64 q_m64 Q 33 [some (.ref 3), some (.ref le), none, none] [] (n, I, J, R) 0 0) ∧ (¬ (lg_cmp (J le 2) (lN 0)) = 0 → q_W L (d + 2) 64 q_m64 Q 23 [some (.ref 3), some (.ref le), none, none] [] (n, I, J, R) 0 0)
    refine ⟨fun h20 => ?_, fun h20 => ?_⟩
    · skip
      rw [lg_cmp_eq] at h20
      have hkd : J le 2 = lN 0 ∨ J le 2 = lN 1 := Or.inl h20
      refine q_k 2 ?_
      show q_W L (d + 2) 64 q_m64 Q 36 [some (.ref 3), some (.ref le), none, none] [.int (nI 7), .ref le] (n, I, J, R) 0 0
      refine q_lal (m := 7) rfl (hl) (by decide) (rfl) ?_
      refine q_cs (as := [.long (J le 7)]) (rs := []) rfl rfl rfl rfl rfl ?_
      refine c_isOrd  ?_
      show q_W L (d + 2) 64 q_m64 Q 40 [some (.ref 3), some (.ref le), none, none] [.int (g_wi (J le 7) (lN 2) (lN 2147483645))] (n, I, J, R) 0 0
      refine q_one rfl rfl ?_
      show ((g_wi (J le 7) (lN 2) (lN 2147483645)) = 0 → q_W L (d + 2) 64 q_m64 Q 63 [some (.ref 3), some (.ref le), none, none] [] (n, I, J, R) 0 0) ∧ (¬ (g_wi (J le 7) (lN 2) (lN 2147483645)) = 0 → q_W L (d + 2) 64 q_m64 Q 43 [some (.ref 3), some (.ref le), none, none] [] (n, I, J, R) 0 0)
      refine ⟨fun h40 => ?_, fun h40 => ?_⟩
      · skip
        refine q_k 1 ?_
        show q_W L (d + 2) 64 q_m64 Q 64 [some (.ref 3), some (.ref le), none, none] [.int (nI 1)] (n, I, J, R) 0 0
        refine q_one rfl rfl ?_
        show q_bz (nI 1) ∧ Q (some (.int (nI 1))) (n, I, J, R)
        refine ⟨Or.inr rfl, ?_⟩
        have hG : g_mal2 M (J le) i = nI 1 := by unfold g_mal2; rw [if_neg (g_wi01_1 hkd), if_pos h40]
        rw [hG] at hQ
        exact hQ
      · skip
        refine q_k 2 ?_
        show q_W L (d + 2) 64 q_m64 Q 46 [some (.ref 3), some (.ref le), none, none] [.int (nI 8), .ref le] (n, I, J, R) 0 0
        refine q_lal (m := 8) rfl (hl) (by decide) (rfl) ?_
        refine q_cs (as := [.long (J le 8)]) (rs := []) rfl rfl rfl rfl rfl ?_
        refine c_isNum  ?_
        show q_W L (d + 2) 64 q_m64 Q 50 [some (.ref 3), some (.ref le), none, none] [.int (g_wi (J le 8) (lN 0) (lN 1000))] (n, I, J, R) 0 0
        refine q_one rfl rfl ?_
        show ((g_wi (J le 8) (lN 0) (lN 1000)) = 0 → q_W L (d + 2) 64 q_m64 Q 63 [some (.ref 3), some (.ref le), none, none] [] (n, I, J, R) 0 0) ∧ (¬ (g_wi (J le 8) (lN 0) (lN 1000)) = 0 → q_W L (d + 2) 64 q_m64 Q 53 [some (.ref 3), some (.ref le), none, none] [] (n, I, J, R) 0 0)
        refine ⟨fun h50 => ?_, fun h50 => ?_⟩
        · skip
          refine q_k 1 ?_
          show q_W L (d + 2) 64 q_m64 Q 64 [some (.ref 3), some (.ref le), none, none] [.int (nI 1)] (n, I, J, R) 0 0
          refine q_one rfl rfl ?_
          show q_bz (nI 1) ∧ Q (some (.int (nI 1))) (n, I, J, R)
          refine ⟨Or.inr rfl, ?_⟩
          have hG : g_mal2 M (J le) i = nI 1 := by unfold g_mal2; rw [if_neg (g_wi01_1 hkd), if_neg h40, if_pos h50]
          rw [hG] at hQ
          exact hQ
        · skip
          refine q_k 2 ?_
          show q_W L (d + 2) 64 q_m64 Q 56 [some (.ref 3), some (.ref le), none, none] [.int (nI 9), .ref le] (n, I, J, R) 0 0
          refine q_lal (m := 9) rfl (hl) (by decide) (rfl) ?_
          refine q_cs (as := [.long (J le 9)]) (rs := []) rfl rfl rfl rfl rfl ?_
          refine c_isNum  ?_
          show q_W L (d + 2) 64 q_m64 Q 60 [some (.ref 3), some (.ref le), none, none] [.int (g_wi (J le 9) (lN 0) (lN 1000))] (n, I, J, R) 0 0
          refine q_one rfl rfl ?_
          show (¬ (g_wi (J le 9) (lN 0) (lN 1000)) = 0 → q_W L (d + 2) 64 q_m64 Q 65 [some (.ref 3), some (.ref le), none, none] [] (n, I, J, R) 0 0) ∧ ((g_wi (J le 9) (lN 0) (lN 1000)) = 0 → q_W L (d + 2) 64 q_m64 Q 63 [some (.ref 3), some (.ref le), none, none] [] (n, I, J, R) 0 0)
          refine ⟨fun h60 => ?_, fun h60 => ?_⟩
          · skip
            refine q_k 2 ?_
            show q_W L (d + 2) 64 q_m64 Q 67 [some (.ref 3), some (.ref le), none, none] [.int (nI 2), .ref le] (n, I, J, R) 0 0
            refine q_lal (m := 2) rfl (hl) (by decide) (rfl) ?_
            refine q_k 2 ?_
            show q_W L (d + 2) 64 q_m64 Q 70 [some (.ref 3), some (.ref le), none, none] [.int (lg_cmp (J le 2) (lN 1))] (n, I, J, R) 0 0
            refine q_one rfl rfl ?_
            show (¬ (lg_cmp (J le 2) (lN 1)) = 0 → q_W L (d + 2) 64 q_m64 Q 75 [some (.ref 3), some (.ref le), none, none] [] (n, I, J, R) 0 0) ∧ ((lg_cmp (J le 2) (lN 1)) = 0 → q_W L (d + 2) 64 q_m64 Q 73 [some (.ref 3), some (.ref le), none, none] [] (n, I, J, R) 0 0)
            refine ⟨fun h70 => ?_, fun h70 => ?_⟩
            · skip
              rw [lg_cmp_eq] at h70
              have hk0 : J le 2 = lN 0 := hkd.resolve_right h70
              refine q_k 1 ?_
              show q_W L (d + 2) 64 q_m64 Q 76 [some (.ref 3), some (.ref le), none, none] [.ref 3] (n, I, J, R) 0 0
              refine q_gR (b := 8) rfl rfl (⟨Nat.lt_of_lt_of_le (by decide) hK.1, rfl⟩) (hK.2.1 3 1 8 rfl) ?_
              refine q_k 2 ?_
              show q_W L (d + 2) 64 q_m64 Q 81 [some (.ref 3), some (.ref le), none, none] [.int (nI 0), .ref le, .ref 8] (n, I, J, R) 0 0
              refine q_lal (m := 0) rfl (hl) (by decide) (rfl) ?_
              refine q_k 1 ?_
              show q_W L (d + 2) 64 q_m64 Q 83 [some (.ref 3), some (.ref le), none, none] [.int ((J le 0).toInt32), .ref 8] (n, I, J, R) 0 0
              refine q_top (w := nI i) (by rw [e0]; exact lN_i _) ?_
              refine q_aal (m := i) (b := (84 + 19 * i)) rfl (⟨by decide, Nat.lt_of_lt_of_le (by decide) hK.1, rfl⟩) ⟨rfl, rfl⟩ (hi) rfl (hK.2.1 8 i _ (q_fx8 i hi)) ?_
              refine q_gR (b := (84 + 19 * i + 1)) rfl rfl ((q_Ac_of hK hi).ob) ((q_Ac_of hK hi).r2) ?_
              refine q_gI rfl rfl ((q_Ac_of hK hi).o1) ?_
              refine q_top (w := M 197 (2 * i + 1)) ((ha i hi).i1) ?_
              refine q_k 4 ?_
              show q_W L (d + 2) 64 q_m64 Q 94 [some (.ref 3), some (.ref le), some (.long ((M 197 (2 * i + 1)).toInt64)), none] [.int (nI 3), .ref le] (n, I, J, R) 0 0
              refine q_lal (m := 3) rfl (hl) (by decide) (rfl) ?_
              refine q_k 2 ?_
              show q_W L (d + 2) 64 q_m64 Q 97 [some (.ref 3), some (.ref le), some (.long ((M 197 (2 * i + 1)).toInt64)), none] [.int (lg_cmp (J le 3) ((M 197 (2 * i + 1)).toInt64))] (n, I, J, R) 0 0
              refine q_one rfl rfl ?_
              show (¬ (lg_cmp (J le 3) ((M 197 (2 * i + 1)).toInt64)) = 0 → q_W L (d + 2) 64 q_m64 Q 109 [some (.ref 3), some (.ref le), some (.long ((M 197 (2 * i + 1)).toInt64)), none] [] (n, I, J, R) 0 0) ∧ ((lg_cmp (J le 3) ((M 197 (2 * i + 1)).toInt64)) = 0 → q_W L (d + 2) 64 q_m64 Q 100 [some (.ref 3), some (.ref le), some (.long ((M 197 (2 * i + 1)).toInt64)), none] [] (n, I, J, R) 0 0)
              refine ⟨fun h97 => ?_, fun h97 => ?_⟩
              · skip
                rw [lg_cmp_eq] at h97
                refine q_k 2 ?_
                show q_W L (d + 2) 64 q_m64 Q 114 [some (.ref 3), some (.ref le), some (.long ((M 197 (2 * i + 1)).toInt64)), none] [.int (nI 1)] (n, I, J, R) 0 0
                refine q_one rfl rfl ?_
                show q_bz (nI 1) ∧ Q (some (.int (nI 1))) (n, I, J, R)
                refine ⟨Or.inr rfl, ?_⟩
                have hG : g_mal2 M (J le) i = nI 1 := by unfold g_mal2; rw [if_neg (g_wi01_1 hkd), if_neg h40, if_neg h50, if_neg h60, if_pos hk0, if_neg h97]
                rw [hG] at hQ
                exact hQ
              · skip
                rw [lg_cmp_eq] at h97
                refine q_k 2 ?_
                show q_W L (d + 2) 64 q_m64 Q 102 [some (.ref 3), some (.ref le), some (.long ((M 197 (2 * i + 1)).toInt64)), none] [.int (nI 4), .ref le] (n, I, J, R) 0 0
                refine q_lal (m := 4) rfl (hl) (by decide) (rfl) ?_
                refine q_cs (as := [.long (J le 4)]) (rs := []) rfl rfl rfl rfl rfl ?_
                refine c_isOrd  ?_
                show q_W L (d + 2) 64 q_m64 Q 106 [some (.ref 3), some (.ref le), some (.long ((M 197 (2 * i + 1)).toInt64)), none] [.int (g_wi (J le 4) (lN 2) (lN 2147483645))] (n, I, J, R) 0 0
                refine q_one rfl rfl ?_
                show (¬ (g_wi (J le 4) (lN 2) (lN 2147483645)) = 0 → q_W L (d + 2) 64 q_m64 Q 113 [some (.ref 3), some (.ref le), some (.long ((M 197 (2 * i + 1)).toInt64)), none] [] (n, I, J, R) 0 0) ∧ ((g_wi (J le 4) (lN 2) (lN 2147483645)) = 0 → q_W L (d + 2) 64 q_m64 Q 109 [some (.ref 3), some (.ref le), some (.long ((M 197 (2 * i + 1)).toInt64)), none] [] (n, I, J, R) 0 0)
                refine ⟨fun h106 => ?_, fun h106 => ?_⟩
                · skip
                  refine q_k 1 ?_
                  show q_W L (d + 2) 64 q_m64 Q 114 [some (.ref 3), some (.ref le), some (.long ((M 197 (2 * i + 1)).toInt64)), none] [.int (nI 0)] (n, I, J, R) 0 0
                  refine q_one rfl rfl ?_
                  show q_bz (nI 0) ∧ Q (some (.int (nI 0))) (n, I, J, R)
                  refine ⟨Or.inl rfl, ?_⟩
                  have hG : g_mal2 M (J le) i = nI 0 := by unfold g_mal2; rw [if_neg (g_wi01_1 hkd), if_neg h40, if_neg h50, if_neg h60, if_pos hk0, if_pos h97, if_neg h106]
                  rw [hG] at hQ
                  exact hQ
                · skip
                  refine q_k 2 ?_
                  show q_W L (d + 2) 64 q_m64 Q 114 [some (.ref 3), some (.ref le), some (.long ((M 197 (2 * i + 1)).toInt64)), none] [.int (nI 1)] (n, I, J, R) 0 0
                  refine q_one rfl rfl ?_
                  show q_bz (nI 1) ∧ Q (some (.int (nI 1))) (n, I, J, R)
                  refine ⟨Or.inr rfl, ?_⟩
                  have hG : g_mal2 M (J le) i = nI 1 := by unfold g_mal2; rw [if_neg (g_wi01_1 hkd), if_neg h40, if_neg h50, if_neg h60, if_pos hk0, if_pos h97, if_pos h106]
                  rw [hG] at hQ
                  exact hQ
            · skip
              rw [lg_cmp_eq] at h70
              refine q_k 1 ?_
              show q_W L (d + 2) 64 q_m64 Q 74 [some (.ref 3), some (.ref le), none, none] [.int (nI 0)] (n, I, J, R) 0 0
              refine q_one rfl rfl ?_
              show q_bz (nI 0) ∧ Q (some (.int (nI 0))) (n, I, J, R)
              refine ⟨Or.inl rfl, ?_⟩
              have hG : g_mal2 M (J le) i = nI 0 := by unfold g_mal2; rw [if_neg (g_wi01_1 hkd), if_neg h40, if_neg h50, if_neg h60, if_neg (show ¬ J le 2 = lN 0 from fun z => absurd (z.symm.trans h70) (by decide +kernel))]
              rw [hG] at hQ
              exact hQ
          · skip
            refine q_k 1 ?_
            show q_W L (d + 2) 64 q_m64 Q 64 [some (.ref 3), some (.ref le), none, none] [.int (nI 1)] (n, I, J, R) 0 0
            refine q_one rfl rfl ?_
            show q_bz (nI 1) ∧ Q (some (.int (nI 1))) (n, I, J, R)
            refine ⟨Or.inr rfl, ?_⟩
            have hG : g_mal2 M (J le) i = nI 1 := by unfold g_mal2; rw [if_neg (g_wi01_1 hkd), if_neg h40, if_neg h50, if_pos h60]
            rw [hG] at hQ
            exact hQ
    · skip
      rw [lg_cmp_eq] at h20
      refine q_k 2 ?_
      show q_W L (d + 2) 64 q_m64 Q 25 [some (.ref 3), some (.ref le), none, none] [.int (nI 2), .ref le] (n, I, J, R) 0 0
      refine q_lal (m := 2) rfl (hl) (by decide) (rfl) ?_
      refine q_k 2 ?_
      show q_W L (d + 2) 64 q_m64 Q 28 [some (.ref 3), some (.ref le), none, none] [.int (lg_cmp (J le 2) (lN 1))] (n, I, J, R) 0 0
      refine q_one rfl rfl ?_
      show ((lg_cmp (J le 2) (lN 1)) = 0 → q_W L (d + 2) 64 q_m64 Q 33 [some (.ref 3), some (.ref le), none, none] [] (n, I, J, R) 0 0) ∧ (¬ (lg_cmp (J le 2) (lN 1)) = 0 → q_W L (d + 2) 64 q_m64 Q 31 [some (.ref 3), some (.ref le), none, none] [] (n, I, J, R) 0 0)
      refine ⟨fun h28 => ?_, fun h28 => ?_⟩
      · skip
        rw [lg_cmp_eq] at h28
        have hkd : J le 2 = lN 0 ∨ J le 2 = lN 1 := Or.inr h28
        refine q_k 2 ?_
        show q_W L (d + 2) 64 q_m64 Q 36 [some (.ref 3), some (.ref le), none, none] [.int (nI 7), .ref le] (n, I, J, R) 0 0
        refine q_lal (m := 7) rfl (hl) (by decide) (rfl) ?_
        refine q_cs (as := [.long (J le 7)]) (rs := []) rfl rfl rfl rfl rfl ?_
        refine c_isOrd  ?_
        show q_W L (d + 2) 64 q_m64 Q 40 [some (.ref 3), some (.ref le), none, none] [.int (g_wi (J le 7) (lN 2) (lN 2147483645))] (n, I, J, R) 0 0
        refine q_one rfl rfl ?_
        show ((g_wi (J le 7) (lN 2) (lN 2147483645)) = 0 → q_W L (d + 2) 64 q_m64 Q 63 [some (.ref 3), some (.ref le), none, none] [] (n, I, J, R) 0 0) ∧ (¬ (g_wi (J le 7) (lN 2) (lN 2147483645)) = 0 → q_W L (d + 2) 64 q_m64 Q 43 [some (.ref 3), some (.ref le), none, none] [] (n, I, J, R) 0 0)
        refine ⟨fun h40 => ?_, fun h40 => ?_⟩
        · skip
          refine q_k 1 ?_
          show q_W L (d + 2) 64 q_m64 Q 64 [some (.ref 3), some (.ref le), none, none] [.int (nI 1)] (n, I, J, R) 0 0
          refine q_one rfl rfl ?_
          show q_bz (nI 1) ∧ Q (some (.int (nI 1))) (n, I, J, R)
          refine ⟨Or.inr rfl, ?_⟩
          have hG : g_mal2 M (J le) i = nI 1 := by unfold g_mal2; rw [if_neg (g_wi01_1 hkd), if_pos h40]
          rw [hG] at hQ
          exact hQ
        · skip
          refine q_k 2 ?_
          show q_W L (d + 2) 64 q_m64 Q 46 [some (.ref 3), some (.ref le), none, none] [.int (nI 8), .ref le] (n, I, J, R) 0 0
          refine q_lal (m := 8) rfl (hl) (by decide) (rfl) ?_
          refine q_cs (as := [.long (J le 8)]) (rs := []) rfl rfl rfl rfl rfl ?_
          refine c_isNum  ?_
          show q_W L (d + 2) 64 q_m64 Q 50 [some (.ref 3), some (.ref le), none, none] [.int (g_wi (J le 8) (lN 0) (lN 1000))] (n, I, J, R) 0 0
          refine q_one rfl rfl ?_
          show ((g_wi (J le 8) (lN 0) (lN 1000)) = 0 → q_W L (d + 2) 64 q_m64 Q 63 [some (.ref 3), some (.ref le), none, none] [] (n, I, J, R) 0 0) ∧ (¬ (g_wi (J le 8) (lN 0) (lN 1000)) = 0 → q_W L (d + 2) 64 q_m64 Q 53 [some (.ref 3), some (.ref le), none, none] [] (n, I, J, R) 0 0)
          refine ⟨fun h50 => ?_, fun h50 => ?_⟩
          · skip
            refine q_k 1 ?_
            show q_W L (d + 2) 64 q_m64 Q 64 [some (.ref 3), some (.ref le), none, none] [.int (nI 1)] (n, I, J, R) 0 0
            refine q_one rfl rfl ?_
            show q_bz (nI 1) ∧ Q (some (.int (nI 1))) (n, I, J, R)
            refine ⟨Or.inr rfl, ?_⟩
            have hG : g_mal2 M (J le) i = nI 1 := by unfold g_mal2; rw [if_neg (g_wi01_1 hkd), if_neg h40, if_pos h50]
            rw [hG] at hQ
            exact hQ
          · skip
            refine q_k 2 ?_
            show q_W L (d + 2) 64 q_m64 Q 56 [some (.ref 3), some (.ref le), none, none] [.int (nI 9), .ref le] (n, I, J, R) 0 0
            refine q_lal (m := 9) rfl (hl) (by decide) (rfl) ?_
            refine q_cs (as := [.long (J le 9)]) (rs := []) rfl rfl rfl rfl rfl ?_
            refine c_isNum  ?_
            show q_W L (d + 2) 64 q_m64 Q 60 [some (.ref 3), some (.ref le), none, none] [.int (g_wi (J le 9) (lN 0) (lN 1000))] (n, I, J, R) 0 0
            refine q_one rfl rfl ?_
            show (¬ (g_wi (J le 9) (lN 0) (lN 1000)) = 0 → q_W L (d + 2) 64 q_m64 Q 65 [some (.ref 3), some (.ref le), none, none] [] (n, I, J, R) 0 0) ∧ ((g_wi (J le 9) (lN 0) (lN 1000)) = 0 → q_W L (d + 2) 64 q_m64 Q 63 [some (.ref 3), some (.ref le), none, none] [] (n, I, J, R) 0 0)
            refine ⟨fun h60 => ?_, fun h60 => ?_⟩
            · skip
              refine q_k 2 ?_
              show q_W L (d + 2) 64 q_m64 Q 67 [some (.ref 3), some (.ref le), none, none] [.int (nI 2), .ref le] (n, I, J, R) 0 0
              refine q_lal (m := 2) rfl (hl) (by decide) (rfl) ?_
              refine q_k 2 ?_
              show q_W L (d + 2) 64 q_m64 Q 70 [some (.ref 3), some (.ref le), none, none] [.int (lg_cmp (J le 2) (lN 1))] (n, I, J, R) 0 0
              refine q_one rfl rfl ?_
              show (¬ (lg_cmp (J le 2) (lN 1)) = 0 → q_W L (d + 2) 64 q_m64 Q 75 [some (.ref 3), some (.ref le), none, none] [] (n, I, J, R) 0 0) ∧ ((lg_cmp (J le 2) (lN 1)) = 0 → q_W L (d + 2) 64 q_m64 Q 73 [some (.ref 3), some (.ref le), none, none] [] (n, I, J, R) 0 0)
              refine ⟨fun h70 => ?_, fun h70 => ?_⟩
              · skip
                rw [lg_cmp_eq] at h70
                have hk0 : J le 2 = lN 0 := hkd.resolve_right h70
                refine q_k 1 ?_
                show q_W L (d + 2) 64 q_m64 Q 76 [some (.ref 3), some (.ref le), none, none] [.ref 3] (n, I, J, R) 0 0
                refine q_gR (b := 8) rfl rfl (⟨Nat.lt_of_lt_of_le (by decide) hK.1, rfl⟩) (hK.2.1 3 1 8 rfl) ?_
                refine q_k 2 ?_
                show q_W L (d + 2) 64 q_m64 Q 81 [some (.ref 3), some (.ref le), none, none] [.int (nI 0), .ref le, .ref 8] (n, I, J, R) 0 0
                refine q_lal (m := 0) rfl (hl) (by decide) (rfl) ?_
                refine q_k 1 ?_
                show q_W L (d + 2) 64 q_m64 Q 83 [some (.ref 3), some (.ref le), none, none] [.int ((J le 0).toInt32), .ref 8] (n, I, J, R) 0 0
                refine q_top (w := nI i) (by rw [e0]; exact lN_i _) ?_
                refine q_aal (m := i) (b := (84 + 19 * i)) rfl (⟨by decide, Nat.lt_of_lt_of_le (by decide) hK.1, rfl⟩) ⟨rfl, rfl⟩ (hi) rfl (hK.2.1 8 i _ (q_fx8 i hi)) ?_
                refine q_gR (b := (84 + 19 * i + 1)) rfl rfl ((q_Ac_of hK hi).ob) ((q_Ac_of hK hi).r2) ?_
                refine q_gI rfl rfl ((q_Ac_of hK hi).o1) ?_
                refine q_top (w := M 197 (2 * i + 1)) ((ha i hi).i1) ?_
                refine q_k 4 ?_
                show q_W L (d + 2) 64 q_m64 Q 94 [some (.ref 3), some (.ref le), some (.long ((M 197 (2 * i + 1)).toInt64)), none] [.int (nI 3), .ref le] (n, I, J, R) 0 0
                refine q_lal (m := 3) rfl (hl) (by decide) (rfl) ?_
                refine q_k 2 ?_
                show q_W L (d + 2) 64 q_m64 Q 97 [some (.ref 3), some (.ref le), some (.long ((M 197 (2 * i + 1)).toInt64)), none] [.int (lg_cmp (J le 3) ((M 197 (2 * i + 1)).toInt64))] (n, I, J, R) 0 0
                refine q_one rfl rfl ?_
                show (¬ (lg_cmp (J le 3) ((M 197 (2 * i + 1)).toInt64)) = 0 → q_W L (d + 2) 64 q_m64 Q 109 [some (.ref 3), some (.ref le), some (.long ((M 197 (2 * i + 1)).toInt64)), none] [] (n, I, J, R) 0 0) ∧ ((lg_cmp (J le 3) ((M 197 (2 * i + 1)).toInt64)) = 0 → q_W L (d + 2) 64 q_m64 Q 100 [some (.ref 3), some (.ref le), some (.long ((M 197 (2 * i + 1)).toInt64)), none] [] (n, I, J, R) 0 0)
                refine ⟨fun h97 => ?_, fun h97 => ?_⟩
                · skip
                  rw [lg_cmp_eq] at h97
                  refine q_k 2 ?_
                  show q_W L (d + 2) 64 q_m64 Q 114 [some (.ref 3), some (.ref le), some (.long ((M 197 (2 * i + 1)).toInt64)), none] [.int (nI 1)] (n, I, J, R) 0 0
                  refine q_one rfl rfl ?_
                  show q_bz (nI 1) ∧ Q (some (.int (nI 1))) (n, I, J, R)
                  refine ⟨Or.inr rfl, ?_⟩
                  have hG : g_mal2 M (J le) i = nI 1 := by unfold g_mal2; rw [if_neg (g_wi01_1 hkd), if_neg h40, if_neg h50, if_neg h60, if_pos hk0, if_neg h97]
                  rw [hG] at hQ
                  exact hQ
                · skip
                  rw [lg_cmp_eq] at h97
                  refine q_k 2 ?_
                  show q_W L (d + 2) 64 q_m64 Q 102 [some (.ref 3), some (.ref le), some (.long ((M 197 (2 * i + 1)).toInt64)), none] [.int (nI 4), .ref le] (n, I, J, R) 0 0
                  refine q_lal (m := 4) rfl (hl) (by decide) (rfl) ?_
                  refine q_cs (as := [.long (J le 4)]) (rs := []) rfl rfl rfl rfl rfl ?_
                  refine c_isOrd  ?_
                  show q_W L (d + 2) 64 q_m64 Q 106 [some (.ref 3), some (.ref le), some (.long ((M 197 (2 * i + 1)).toInt64)), none] [.int (g_wi (J le 4) (lN 2) (lN 2147483645))] (n, I, J, R) 0 0
                  refine q_one rfl rfl ?_
                  show (¬ (g_wi (J le 4) (lN 2) (lN 2147483645)) = 0 → q_W L (d + 2) 64 q_m64 Q 113 [some (.ref 3), some (.ref le), some (.long ((M 197 (2 * i + 1)).toInt64)), none] [] (n, I, J, R) 0 0) ∧ ((g_wi (J le 4) (lN 2) (lN 2147483645)) = 0 → q_W L (d + 2) 64 q_m64 Q 109 [some (.ref 3), some (.ref le), some (.long ((M 197 (2 * i + 1)).toInt64)), none] [] (n, I, J, R) 0 0)
                  refine ⟨fun h106 => ?_, fun h106 => ?_⟩
                  · skip
                    refine q_k 1 ?_
                    show q_W L (d + 2) 64 q_m64 Q 114 [some (.ref 3), some (.ref le), some (.long ((M 197 (2 * i + 1)).toInt64)), none] [.int (nI 0)] (n, I, J, R) 0 0
                    refine q_one rfl rfl ?_
                    show q_bz (nI 0) ∧ Q (some (.int (nI 0))) (n, I, J, R)
                    refine ⟨Or.inl rfl, ?_⟩
                    have hG : g_mal2 M (J le) i = nI 0 := by unfold g_mal2; rw [if_neg (g_wi01_1 hkd), if_neg h40, if_neg h50, if_neg h60, if_pos hk0, if_pos h97, if_neg h106]
                    rw [hG] at hQ
                    exact hQ
                  · skip
                    refine q_k 2 ?_
                    show q_W L (d + 2) 64 q_m64 Q 114 [some (.ref 3), some (.ref le), some (.long ((M 197 (2 * i + 1)).toInt64)), none] [.int (nI 1)] (n, I, J, R) 0 0
                    refine q_one rfl rfl ?_
                    show q_bz (nI 1) ∧ Q (some (.int (nI 1))) (n, I, J, R)
                    refine ⟨Or.inr rfl, ?_⟩
                    have hG : g_mal2 M (J le) i = nI 1 := by unfold g_mal2; rw [if_neg (g_wi01_1 hkd), if_neg h40, if_neg h50, if_neg h60, if_pos hk0, if_pos h97, if_pos h106]
                    rw [hG] at hQ
                    exact hQ
              · skip
                rw [lg_cmp_eq] at h70
                refine q_k 1 ?_
                show q_W L (d + 2) 64 q_m64 Q 74 [some (.ref 3), some (.ref le), none, none] [.int (nI 0)] (n, I, J, R) 0 0
                refine q_one rfl rfl ?_
                show q_bz (nI 0) ∧ Q (some (.int (nI 0))) (n, I, J, R)
                refine ⟨Or.inl rfl, ?_⟩
                have hG : g_mal2 M (J le) i = nI 0 := by unfold g_mal2; rw [if_neg (g_wi01_1 hkd), if_neg h40, if_neg h50, if_neg h60, if_neg (show ¬ J le 2 = lN 0 from fun z => absurd (z.symm.trans h70) (by decide +kernel))]
                rw [hG] at hQ
                exact hQ
            · skip
              refine q_k 1 ?_
              show q_W L (d + 2) 64 q_m64 Q 64 [some (.ref 3), some (.ref le), none, none] [.int (nI 1)] (n, I, J, R) 0 0
              refine q_one rfl rfl ?_
              show q_bz (nI 1) ∧ Q (some (.int (nI 1))) (n, I, J, R)
              refine ⟨Or.inr rfl, ?_⟩
              have hG : g_mal2 M (J le) i = nI 1 := by unfold g_mal2; rw [if_neg (g_wi01_1 hkd), if_neg h40, if_neg h50, if_pos h60]
              rw [hG] at hQ
              exact hQ
      · skip
        rw [lg_cmp_eq] at h28
        refine q_k 1 ?_
        show q_W L (d + 2) 64 q_m64 Q 32 [some (.ref 3), some (.ref le), none, none] [.int (nI 1)] (n, I, J, R) 0 0
        refine q_one rfl rfl ?_
        show q_bz (nI 1) ∧ Q (some (.int (nI 1))) (n, I, J, R)
        refine ⟨Or.inr rfl, ?_⟩
        have hG : g_mal2 M (J le) i = nI 1 := by unfold g_mal2; rw [if_pos (g_wi01_0 h20 h28)]
        rw [hG] at hQ
        exact hQ
  · skip
    show q_W L (d + 2) 64 q_m64 Q 10 [some (.ref 3), some (.ref le), none, none] [.int (nI 0)] (n, I, J, R) 0 0
    refine q_one rfl rfl ?_
    show (¬ (nI 0) = 0 → q_W L (d + 2) 64 q_m64 Q 15 [some (.ref 3), some (.ref le), none, none] [] (n, I, J, R) 0 0) ∧ ((nI 0) = 0 → q_W L (d + 2) 64 q_m64 Q 13 [some (.ref 3), some (.ref le), none, none] [] (n, I, J, R) 0 0)
    refine ⟨fun z => absurd (by decide) z, fun _ => ?_⟩
    refine q_k 1 ?_
    show q_W L (d + 2) 64 q_m64 Q 14 [some (.ref 3), some (.ref le), none, none] [.int (nI 1)] (n, I, J, R) 0 0
    refine q_one rfl rfl ?_
    show q_bz (nI 1) ∧ Q (some (.int (nI 1))) (n, I, J, R)
    refine ⟨Or.inr rfl, ?_⟩
    rw [g_mal_1 (e := e) (M := M) (N := N) (fun i j hi hj hij ei ej => hno i j hi hj hij ((hJ 0 (by decide)).trans ei) ((hJ 1 (by decide)).trans ej))] at hQ
    exact hQ
theorem k_register {L d n : Nat} {I : q_I} {J : q_L} {R : q_R} {Q : q_Q} {M : q_I} {N : q_L} {u : Int32} {z : Int64} (h : CR n I J R M N) (hQ : ∀ n' I' J' R', CR n' I' J' R' ((f_register u z M).2) (N) → q_nmf I' I → (J' 208 = J 208 ∧ J' 192 = J 192) → Q (some (.int (f_register u z M).1)) (n', I', J', R')) : q_Ex L (d + 7) 43 [.ref 3, .int u, .long z] (n, I, J, R) Q := by
  refine q_in (x := q_m43) rfl rfl ?_
  show q_W L (d + 6) 43 q_m43 Q 0 [some (.ref 3), some (.int u), some (.long z), none] [] (n, I, J, R) 0 0
  have hK := h.K
  have ha := h.ac
  refine q_k 1 ?_
  show q_W L (d + 6) 43 q_m43 Q 1 [some (.ref 3), some (.int u), some (.long z), none] [.int u] (n, I, J, R) 0 0
  refine q_one rfl rfl ?_
  show (u < 0 → q_W L (d + 6) 43 q_m43 Q 21 [some (.ref 3), some (.int u), some (.long z), none] [] (n, I, J, R) 0 0) ∧ (¬ u < 0 → q_W L (d + 6) 43 q_m43 Q 4 [some (.ref 3), some (.int u), some (.long z), none] [] (n, I, J, R) 0 0)
  refine ⟨fun h1 => ?_, fun h1 => ?_⟩
  · skip
    refine q_k 1 ?_
    show q_W L (d + 6) 43 q_m43 Q 22 [some (.ref 3), some (.int u), some (.long z), none] [.int (nI 0)] (n, I, J, R) 0 0
    refine q_one rfl rfl ?_
    show q_bz (nI 0) ∧ Q (some (.int (nI 0))) (n, I, J, R)
    refine ⟨Or.inl rfl, ?_⟩
    rw [show f_register u z M = (nI 0, M) by unfold f_register; rw [if_pos h1]] at hQ
    dsimp only at hQ
    exact hQ n I J R h (q_nmf_rf _) ⟨rfl, rfl⟩
  · skip
    refine q_k 2 ?_
    show q_W L (d + 6) 43 q_m43 Q 6 [some (.ref 3), some (.int u), some (.long z), none] [.int (nI 4), .int u] (n, I, J, R) 0 0
    refine q_one rfl rfl ?_
    show ((nI 4) ≤ u → q_W L (d + 6) 43 q_m43 Q 21 [some (.ref 3), some (.int u), some (.long z), none] [] (n, I, J, R) 0 0) ∧ (¬ (nI 4) ≤ u → q_W L (d + 6) 43 q_m43 Q 9 [some (.ref 3), some (.int u), some (.long z), none] [] (n, I, J, R) 0 0)
    refine ⟨fun h6 => ?_, fun h6 => ?_⟩
    · skip
      refine q_k 1 ?_
      show q_W L (d + 6) 43 q_m43 Q 22 [some (.ref 3), some (.int u), some (.long z), none] [.int (nI 0)] (n, I, J, R) 0 0
      refine q_one rfl rfl ?_
      show q_bz (nI 0) ∧ Q (some (.int (nI 0))) (n, I, J, R)
      refine ⟨Or.inl rfl, ?_⟩
      rw [show f_register u z M = (nI 0, M) by unfold f_register; rw [if_neg h1, if_pos (g_34.mp h6)]] at hQ
      dsimp only at hQ
      exact hQ n I J R h (q_nmf_rf _) ⟨rfl, rfl⟩
    · skip
      obtain ⟨j, hj, rfl⟩ := g_lt4 h1 (fun z => h6 (g_34.mpr z))
      show q_W L (d + 6) 43 q_m43 Q 9 [some (.ref 3), some (.int (nI j)), some (.long z), none] [] (n, I, J, R) 0 0
      refine q_k 1 ?_
      show q_W L (d + 6) 43 q_m43 Q 10 [some (.ref 3), some (.int (nI j)), some (.long z), none] [.ref 3] (n, I, J, R) 0 0
      refine q_gR (b := 8) rfl rfl (⟨Nat.lt_of_lt_of_le (by decide) hK.1, rfl⟩) (hK.2.1 3 1 8 rfl) ?_
      refine q_k 1 ?_
      show q_W L (d + 6) 43 q_m43 Q 14 [some (.ref 3), some (.int (nI j)), some (.long z), none] [.int (nI j), .ref 8] (n, I, J, R) 0 0
      refine q_aal (m := j) (b := (84 + 19 * j)) rfl (⟨by decide, Nat.lt_of_lt_of_le (by decide) hK.1, rfl⟩) ⟨rfl, rfl⟩ (hj) rfl (hK.2.1 8 j _ (q_fx8 j hj)) ?_
      refine q_gZ rfl rfl ((q_Ac_of hK hj).ob) ?_
      refine q_top (w := M 193 j) ((ha j hj).reg) ?_
      refine q_one rfl rfl ?_
      show ((M 193 j) = 0 → q_W L (d + 6) 43 q_m43 Q 23 [some (.ref 3), some (.int (nI j)), some (.long z), none] [] (n, I, J, R) 0 0) ∧ (¬ (M 193 j) = 0 → q_W L (d + 6) 43 q_m43 Q 21 [some (.ref 3), some (.int (nI j)), some (.long z), none] [] (n, I, J, R) 0 0)
      refine ⟨fun h18 => ?_, fun h18 => ?_⟩
      · skip
        refine q_k 1 ?_
        show q_W L (d + 6) 43 q_m43 Q 24 [some (.ref 3), some (.int (nI j)), some (.long z), none] [.ref 3] (n, I, J, R) 0 0
        refine q_gR (b := 8) rfl rfl (⟨Nat.lt_of_lt_of_le (by decide) hK.1, rfl⟩) (hK.2.1 3 1 8 rfl) ?_
        refine q_k 1 ?_
        show q_W L (d + 6) 43 q_m43 Q 28 [some (.ref 3), some (.int (nI j)), some (.long z), none] [.int (nI j), .ref 8] (n, I, J, R) 0 0
        refine q_aal (m := j) (b := (84 + 19 * j)) rfl (⟨by decide, Nat.lt_of_lt_of_le (by decide) hK.1, rfl⟩) ⟨rfl, rfl⟩ (hj) rfl (hK.2.1 8 j _ (q_fx8 j hj)) ?_
        refine q_k 1 ?_
        show q_W L (d + 6) 43 q_m43 Q 30 [some (.ref 3), some (.int (nI j)), some (.long z), none] [.ref 3, .ref (84 + 19 * j)] (n, I, J, R) 0 0
        refine q_gR (b := 4) rfl rfl (⟨Nat.lt_of_lt_of_le (by decide) hK.1, rfl⟩) (hK.2.1 3 0 4 rfl) ?_
        refine q_k 1 ?_
        show q_W L (d + 6) 43 q_m43 Q 34 [some (.ref 3), some (.int (nI j)), some (.long z), none] [.long z, .ref 4, .ref (84 + 19 * j)] (n, I, J, R) 0 0
        refine q_cv (as := [.ref 4, .long z]) (rs := []) rfl rfl rfl ((q_Ac_of hK hj).ob) rfl rfl ?_
        refine c_enter (hK) (q_Ac_of hK hj) (ha j hj) (fun I1 a1 f1 => ?_)
        show q_W L (d + 6) 43 q_m43 Q 37 [some (.ref 3), some (.int (nI j)), some (.long z), none] [] (n, I1, J, R) 0 0
        refine q_k 1 ?_
        show q_W L (d + 6) 43 q_m43 Q 38 [some (.ref 3), some (.int (nI j)), some (.long z), none] [.int (nI 1)] (n, I1, J, R) 0 0
        refine q_one rfl rfl ?_
        show q_bz (nI 1) ∧ Q (some (.int (nI 1))) (n, I1, J, R)
        refine ⟨Or.inr rfl, ?_⟩
        rw [show f_register (nI j) z M = (nI 1, f_reg j z M) by unfold f_register; rw [if_neg h1, if_neg (fun z => h6 (g_34.mpr z)), g_cl (by omega), if_pos h18]] at hQ
        dsimp only at hQ
        obtain ⟨c1, c2⟩ := CR_acct h hj a1 f1 (fun v hv huv => f_reg_eu (q_eu_rf _ _) huv) (f_reg_n (by decide) (by decide) (by decide) (by decide) (by decide) (by decide) (by decide)) (f_reg_n (by decide) (by decide) (by decide) (by decide) (by decide) (by decide) (by decide)) (by rw [f_reg_n (by decide) (by decide) (by decide) (by decide) (by decide) (by decide) (by decide)])
        exact hQ n I1 J R c1 c2 ⟨rfl, rfl⟩
      · skip
        refine q_k 1 ?_
        show q_W L (d + 6) 43 q_m43 Q 22 [some (.ref 3), some (.int (nI j)), some (.long z), none] [.int (nI 0)] (n, I, J, R) 0 0
        refine q_one rfl rfl ?_
        show q_bz (nI 0) ∧ Q (some (.int (nI 0))) (n, I, J, R)
        refine ⟨Or.inl rfl, ?_⟩
        rw [show f_register (nI j) z M = (nI 0, M) by unfold f_register; rw [if_neg h1, if_neg (fun z => h6 (g_34.mpr z)), g_cl (by omega), if_neg h18]] at hQ
        dsimp only at hQ
        exact hQ n I J R h (q_nmf_rf _) ⟨rfl, rfl⟩
theorem k_rotate {L d n : Nat} {I : q_I} {J : q_L} {R : q_R} {Q : q_Q} {M : q_I} {N : q_L} {u : Int32} (h : CR n I J R M N) (hQ : ∀ n' I' J' R', CR n' I' J' R' ((f_rotate u M).2) (N) → q_nmf I' I → (J' 208 = J 208 ∧ J' 192 = J 192) → Q (some (.int (f_rotate u M).1)) (n', I', J', R')) : q_Ex L (d + 7) 44 [.ref 3, .int u] (n, I, J, R) Q := by
  refine q_in (x := q_m44) rfl rfl ?_
  show q_W L (d + 6) 44 q_m44 Q 0 [some (.ref 3), some (.int u)] [] (n, I, J, R) 0 0
  have hK := h.K
  have ha := h.ac
  refine q_k 3 ?_
  show q_W L (d + 6) 44 q_m44 Q 3 [some (.ref 3), some (.int u)] [.long ((u).toInt64), .ref 3] (n, I, J, R) 0 0
  refine q_cv (as := [.long ((u).toInt64)]) (rs := []) rfl rfl rfl (⟨Nat.lt_of_lt_of_le (by decide) hK.1, rfl⟩) rfl rfl ?_
  refine c_isRegistered (hK) (ha) (fun j hj ej hrj => ?_) (fun hno => ?_)
  · skip
    show q_W L (d + 6) 44 q_m44 Q 6 [some (.ref 3), some (.int u)] [.int (nI 1)] (n, I, J, R) 0 0
    obtain rfl := q_il ej
    show q_W L (d + 6) 44 q_m44 Q 6 [some (.ref 3), some (.int (nI j))] [.int (nI 1)] (n, I, J, R) 0 0
    refine q_one rfl rfl ?_
    show (¬ (nI 1) = 0 → q_W L (d + 6) 44 q_m44 Q 11 [some (.ref 3), some (.int (nI j))] [] (n, I, J, R) 0 0) ∧ ((nI 1) = 0 → q_W L (d + 6) 44 q_m44 Q 9 [some (.ref 3), some (.int (nI j))] [] (n, I, J, R) 0 0)
    refine ⟨fun _ => ?_, fun z => absurd z (by decide)⟩
    refine q_k 1 ?_
    show q_W L (d + 6) 44 q_m44 Q 12 [some (.ref 3), some (.int (nI j))] [.ref 3] (n, I, J, R) 0 0
    refine q_gR (b := 8) rfl rfl (⟨Nat.lt_of_lt_of_le (by decide) hK.1, rfl⟩) (hK.2.1 3 1 8 rfl) ?_
    refine q_k 1 ?_
    show q_W L (d + 6) 44 q_m44 Q 16 [some (.ref 3), some (.int (nI j))] [.int (nI j), .ref 8] (n, I, J, R) 0 0
    refine q_aal (m := j) (b := (84 + 19 * j)) rfl (⟨by decide, Nat.lt_of_lt_of_le (by decide) hK.1, rfl⟩) ⟨rfl, rfl⟩ (hj) rfl (hK.2.1 8 j _ (q_fx8 j hj)) ?_
    refine q_k 1 ?_
    show q_W L (d + 6) 44 q_m44 Q 18 [some (.ref 3), some (.int (nI j))] [.ref 3, .ref (84 + 19 * j)] (n, I, J, R) 0 0
    refine q_gR (b := 4) rfl rfl (⟨Nat.lt_of_lt_of_le (by decide) hK.1, rfl⟩) (hK.2.1 3 0 4 rfl) ?_
    refine q_cv (as := [.ref 4]) (rs := []) rfl rfl rfl ((q_Ac_of hK hj).ob) rfl rfl ?_
    refine c_renew (hK) (q_Ac_of hK hj) (ha j hj) ((ha j hj).sn.resolve_left hrj) (fun I1 a1 f1 => ?_)
    show q_W L (d + 6) 44 q_m44 Q 24 [some (.ref 3), some (.int (nI j))] [] (n, I1, J, R) 0 0
    refine q_k 1 ?_
    show q_W L (d + 6) 44 q_m44 Q 25 [some (.ref 3), some (.int (nI j))] [.int (nI 1)] (n, I1, J, R) 0 0
    refine q_one rfl rfl ?_
    show q_bz (nI 1) ∧ Q (some (.int (nI 1))) (n, I1, J, R)
    refine ⟨Or.inr rfl, ?_⟩
    rw [show f_rotate (nI j) M = (nI 1, f_sign j (q_up (q_up M 199 (2 * j) (M 198 (2 * j))) 199 (2 * j + 1) (M 198 (2 * j + 1)))) by unfold f_rotate; rw [if_neg (g_kn_j hj hrj), g_cl (by omega)]] at hQ
    dsimp only at hQ
    obtain ⟨c1, c2⟩ := CR_acct h hj a1 f1 (fun v hv huv => f_sign_eu (q_eu_up (u := j) (q_eu_up (u := j) (q_eu_rf _ _) (by unfold q_own; omega) huv) (by unfold q_own; omega) huv) huv) (by rw [f_sign_n (by decide) (by decide) (by decide), q_un (by decide), q_un (by decide)]) (by rw [f_sign_n (by decide) (by decide) (by decide), q_un (by decide), q_un (by decide)]) (by rw [f_sign_n (by decide) (by decide) (by decide), q_un (by decide), q_un (by decide)])
    exact hQ n I1 J R c1 c2 ⟨rfl, rfl⟩
  · skip
    show q_W L (d + 6) 44 q_m44 Q 6 [some (.ref 3), some (.int u)] [.int (nI 0)] (n, I, J, R) 0 0
    refine q_one rfl rfl ?_
    show (¬ (nI 0) = 0 → q_W L (d + 6) 44 q_m44 Q 11 [some (.ref 3), some (.int u)] [] (n, I, J, R) 0 0) ∧ ((nI 0) = 0 → q_W L (d + 6) 44 q_m44 Q 9 [some (.ref 3), some (.int u)] [] (n, I, J, R) 0 0)
    refine ⟨fun z => absurd (by decide) z, fun _ => ?_⟩
    refine q_k 1 ?_
    show q_W L (d + 6) 44 q_m44 Q 10 [some (.ref 3), some (.int u)] [.int (nI 0)] (n, I, J, R) 0 0
    refine q_one rfl rfl ?_
    show q_bz (nI 0) ∧ Q (some (.int (nI 0))) (n, I, J, R)
    refine ⟨Or.inl rfl, ?_⟩
    rw [show f_rotate u M = (nI 0, M) by unfold f_rotate; rw [if_pos (g_kn_0 hno)]] at hQ
    dsimp only at hQ
    exact hQ n I J R h (q_nmf_rf _) ⟨rfl, rfl⟩
theorem k_prekeys {L d n : Nat} {I : q_I} {J : q_L} {R : q_R} {Q : q_Q} {M : q_I} {N : q_L} {u w : Int32} (h : CR n I J R M N) (hQ : ∀ n' I' J' R', CR n' I' J' R' ((f_prekeys u w M).2) (N) → q_nmf I' I → (J' 208 = J 208 ∧ J' 192 = J 192) → Q (some (.int (f_prekeys u w M).1)) (n', I', J', R')) : q_Ex L (d + 6) 45 [.ref 3, .int u, .int w] (n, I, J, R) Q := by
  refine q_in (x := q_m45) rfl rfl ?_
  show q_W L (d + 5) 45 q_m45 Q 0 [some (.ref 3), some (.int u), some (.int w)] [] (n, I, J, R) 0 0
  have hK := h.K
  have ha := h.ac
  refine q_k 3 ?_
  show q_W L (d + 5) 45 q_m45 Q 3 [some (.ref 3), some (.int u), some (.int w)] [.long ((u).toInt64), .ref 3] (n, I, J, R) 0 0
  refine q_cv (as := [.long ((u).toInt64)]) (rs := []) rfl rfl rfl (⟨Nat.lt_of_lt_of_le (by decide) hK.1, rfl⟩) rfl rfl ?_
  refine c_isRegistered (hK) (ha) (fun j hj ej hrj => ?_) (fun hno => ?_)
  · skip
    show q_W L (d + 5) 45 q_m45 Q 6 [some (.ref 3), some (.int u), some (.int w)] [.int (nI 1)] (n, I, J, R) 0 0
    obtain rfl := q_il ej
    show q_W L (d + 5) 45 q_m45 Q 6 [some (.ref 3), some (.int (nI j)), some (.int w)] [.int (nI 1)] (n, I, J, R) 0 0
    refine q_one rfl rfl ?_
    show ((nI 1) = 0 → q_W L (d + 5) 45 q_m45 Q 20 [some (.ref 3), some (.int (nI j)), some (.int w)] [] (n, I, J, R) 0 0) ∧ (¬ (nI 1) = 0 → q_W L (d + 5) 45 q_m45 Q 9 [some (.ref 3), some (.int (nI j)), some (.int w)] [] (n, I, J, R) 0 0)
    refine ⟨fun z => absurd z (by decide), fun _ => ?_⟩
    refine q_k 2 ?_
    show q_W L (d + 5) 45 q_m45 Q 11 [some (.ref 3), some (.int (nI j)), some (.int w)] [.int (nI 1), .int w] (n, I, J, R) 0 0
    refine q_one rfl rfl ?_
    show (w < (nI 1) → q_W L (d + 5) 45 q_m45 Q 20 [some (.ref 3), some (.int (nI j)), some (.int w)] [] (n, I, J, R) 0 0) ∧ (¬ w < (nI 1) → q_W L (d + 5) 45 q_m45 Q 14 [some (.ref 3), some (.int (nI j)), some (.int w)] [] (n, I, J, R) 0 0)
    refine ⟨fun h11 => ?_, fun h11 => ?_⟩
    · skip
      refine q_k 1 ?_
      show q_W L (d + 5) 45 q_m45 Q 21 [some (.ref 3), some (.int (nI j)), some (.int w)] [.int (-1)] (n, I, J, R) 0 0
      refine q_one rfl rfl ?_
      show Q (some (.int (-1))) (n, I, J, R)
      rw [show f_prekeys (nI j) w M = (-1, M) by unfold f_prekeys; rw [if_neg (g_kn_j hj hrj), if_pos h11]] at hQ
      dsimp only at hQ
      exact hQ n I J R h (q_nmf_rf _) ⟨rfl, rfl⟩
    · skip
      refine q_k 2 ?_
      show q_W L (d + 5) 45 q_m45 Q 17 [some (.ref 3), some (.int (nI j)), some (.int w)] [.int (nI 6), .int w] (n, I, J, R) 0 0
      refine q_one rfl rfl ?_
      show (w ≤ (nI 6) → q_W L (d + 5) 45 q_m45 Q 22 [some (.ref 3), some (.int (nI j)), some (.int w)] [] (n, I, J, R) 0 0) ∧ (¬ w ≤ (nI 6) → q_W L (d + 5) 45 q_m45 Q 20 [some (.ref 3), some (.int (nI j)), some (.int w)] [] (n, I, J, R) 0 0)
      refine ⟨fun h17 => ?_, fun h17 => ?_⟩
      · skip
        obtain ⟨w0, hw0, rfl⟩ := g_pl (by decide) (fun z => h11 (Int32.lt_trans z (by decide +kernel))) h17
        obtain ⟨c, pr, hc10, hM1, -⟩ := (ha j hj).once
        obtain ⟨f, hf6, hM4, -⟩ := (ha j hj).off
        show q_W L (d + 5) 45 q_m45 Q 22 [some (.ref 3), some (.int (nI j)), some (.int (nI w0))] [] (n, I, J, R) 0 0
        refine q_k 1 ?_
        show q_W L (d + 5) 45 q_m45 Q 23 [some (.ref 3), some (.int (nI j)), some (.int (nI w0))] [.ref 3] (n, I, J, R) 0 0
        refine q_gR (b := 8) rfl rfl (⟨Nat.lt_of_lt_of_le (by decide) hK.1, rfl⟩) (hK.2.1 3 1 8 rfl) ?_
        refine q_k 1 ?_
        show q_W L (d + 5) 45 q_m45 Q 27 [some (.ref 3), some (.int (nI j)), some (.int (nI w0))] [.int (nI j), .ref 8] (n, I, J, R) 0 0
        refine q_aal (m := j) (b := (84 + 19 * j)) rfl (⟨by decide, Nat.lt_of_lt_of_le (by decide) hK.1, rfl⟩) ⟨rfl, rfl⟩ (hj) rfl (hK.2.1 8 j _ (q_fx8 j hj)) ?_
        refine q_k 1 ?_
        show q_W L (d + 5) 45 q_m45 Q 29 [some (.ref 3), some (.int (nI j)), some (.int (nI w0))] [.ref 3, .ref (84 + 19 * j)] (n, I, J, R) 0 0
        refine q_gR (b := 4) rfl rfl (⟨Nat.lt_of_lt_of_le (by decide) hK.1, rfl⟩) (hK.2.1 3 0 4 rfl) ?_
        refine q_k 1 ?_
        show q_W L (d + 5) 45 q_m45 Q 33 [some (.ref 3), some (.int (nI j)), some (.int (nI w0))] [.int (nI w0), .ref 4, .ref (84 + 19 * j)] (n, I, J, R) 0 0
        refine q_cv (as := [.ref 4, .int (nI w0)]) (rs := []) rfl rfl rfl ((q_Ac_of hK hj).ob) rfl rfl ?_
        refine c_offerOneTime (hK) (q_Ac_of hK hj) (ha j hj) (hM1) (hM4) (hf6) (hc10) (hw0) (fun I1 a1 f1 => ?_)
        show q_W L (d + 5) 45 q_m45 Q 36 [some (.ref 3), some (.int (nI j)), some (.int (nI w0))] [.int (nI (min w0 (min (6 - f) (10 - c))))] (n, I1, J, R) 0 0
        refine q_one rfl rfl ?_
        show Q (some (.int (nI (min w0 (min (6 - f) (10 - c)))))) (n, I1, J, R)
        rw [show f_prekeys (nI j) (nI w0) M = (nI (min w0 (min (6 - f) (10 - c))), f_pk j f c (min w0 (min (6 - f) (10 - c))) M) by unfold f_prekeys; rw [if_neg (g_kn_j hj hrj), if_neg h11, if_pos h17, g_cl (show j < 10000 by omega), hM1, hM4, g_cl (show w0 < 10000 by omega), g_cl (show f < 10000 by omega), g_cl (show c < 10000 by omega), Nat.min_assoc]] at hQ
        dsimp only at hQ
        obtain ⟨c1, c2⟩ := CR_acct h hj a1 f1 (fun v hv huv => f_pk_eu (q_eu_rf _ _) huv _ (by omega) (by omega)) (f_pk_n (by decide) (by decide) (by decide) (by decide) (by decide) _) (f_pk_n (by decide) (by decide) (by decide) (by decide) (by decide) _) (by rw [f_pk_n (by decide) (by decide) (by decide) (by decide) (by decide)])
        exact hQ n I1 J R c1 c2 ⟨rfl, rfl⟩
      · skip
        refine q_k 1 ?_
        show q_W L (d + 5) 45 q_m45 Q 21 [some (.ref 3), some (.int (nI j)), some (.int w)] [.int (-1)] (n, I, J, R) 0 0
        refine q_one rfl rfl ?_
        show Q (some (.int (-1))) (n, I, J, R)
        rw [show f_prekeys (nI j) w M = (-1, M) by unfold f_prekeys; rw [if_neg (g_kn_j hj hrj), if_neg h11, if_neg h17]] at hQ
        dsimp only at hQ
        exact hQ n I J R h (q_nmf_rf _) ⟨rfl, rfl⟩
  · skip
    show q_W L (d + 5) 45 q_m45 Q 6 [some (.ref 3), some (.int u), some (.int w)] [.int (nI 0)] (n, I, J, R) 0 0
    refine q_one rfl rfl ?_
    show ((nI 0) = 0 → q_W L (d + 5) 45 q_m45 Q 20 [some (.ref 3), some (.int u), some (.int w)] [] (n, I, J, R) 0 0) ∧ (¬ (nI 0) = 0 → q_W L (d + 5) 45 q_m45 Q 9 [some (.ref 3), some (.int u), some (.int w)] [] (n, I, J, R) 0 0)
    refine ⟨fun _ => ?_, fun z => absurd (by decide) z⟩
    refine q_k 1 ?_
    show q_W L (d + 5) 45 q_m45 Q 21 [some (.ref 3), some (.int u), some (.int w)] [.int (-1)] (n, I, J, R) 0 0
    refine q_one rfl rfl ?_
    show Q (some (.int (-1))) (n, I, J, R)
    rw [show f_prekeys u w M = (-1, M) by unfold f_prekeys; rw [if_pos (g_kn_0 hno)]] at hQ
    dsimp only at hQ
    exact hQ n I J R h (q_nmf_rf _) ⟨rfl, rfl⟩
theorem g_swd {w : Int32} {N : Nat} (hN : N < 10000) (h : w.toInt < 0 ∨ (N : Int) < w.toInt) : w < 0 ∨ (¬ w < 0 ∧ ¬ w ≤ nI N) := by
  rw [Int32.lt_iff_toInt_lt, Int32.le_iff_toInt_le, nI_toInt (show N < 2 ^ 31 by omega), show (0 : Int32).toInt = 0 from rfl]
  omega
theorem k_spoil {L d n : Nat} {I : q_I} {J : q_L} {R : q_R} {Q : q_Q} {M : q_I} {N : q_L} {u w m : Int32} (h : CR n I J R M N) (hQ : ∀ n' I' J' R', CR n' I' J' R' ((f_spoil u w m M).2) (N) → q_nmf I' I → (J' 208 = J 208 ∧ J' 192 = J 192) → Q (some (.int (f_spoil u w m M).1)) (n', I', J', R')) : q_Ex L (d + 2) 46 [.ref 3, .int u, .int w, .int m] (n, I, J, R) Q := by
  refine q_in (x := q_m46) rfl rfl ?_
  show q_W L (d + 1) 46 q_m46 Q 0 [some (.ref 3), some (.int u), some (.int w), some (.int m), none] [] (n, I, J, R) 0 0
  have hK := h.K
  have ha := h.ac
  refine q_k 3 ?_
  show q_W L (d + 1) 46 q_m46 Q 3 [some (.ref 3), some (.int u), some (.int w), some (.int m), none] [.long ((u).toInt64), .ref 3] (n, I, J, R) 0 0
  refine q_cv (as := [.long ((u).toInt64)]) (rs := []) rfl rfl rfl (⟨Nat.lt_of_lt_of_le (by decide) hK.1, rfl⟩) rfl rfl ?_
  refine c_isRegistered (hK) (ha) (fun j hj ej hrj => ?_) (fun hno => ?_)
  · skip
    show q_W L (d + 1) 46 q_m46 Q 6 [some (.ref 3), some (.int u), some (.int w), some (.int m), none] [.int (nI 1)] (n, I, J, R) 0 0
    obtain rfl := q_il ej
    show q_W L (d + 1) 46 q_m46 Q 6 [some (.ref 3), some (.int (nI j)), some (.int w), some (.int m), none] [.int (nI 1)] (n, I, J, R) 0 0
    refine q_one rfl rfl ?_
    show (¬ (nI 1) = 0 → q_W L (d + 1) 46 q_m46 Q 11 [some (.ref 3), some (.int (nI j)), some (.int w), some (.int m), none] [] (n, I, J, R) 0 0) ∧ ((nI 1) = 0 → q_W L (d + 1) 46 q_m46 Q 9 [some (.ref 3), some (.int (nI j)), some (.int w), some (.int m), none] [] (n, I, J, R) 0 0)
    refine ⟨fun _ => ?_, fun z => absurd z (by decide)⟩
    refine q_k 1 ?_
    show q_W L (d + 1) 46 q_m46 Q 12 [some (.ref 3), some (.int (nI j)), some (.int w), some (.int m), none] [.ref 3] (n, I, J, R) 0 0
    refine q_gR (b := 8) rfl rfl (⟨Nat.lt_of_lt_of_le (by decide) hK.1, rfl⟩) (hK.2.1 3 1 8 rfl) ?_
    refine q_k 1 ?_
    show q_W L (d + 1) 46 q_m46 Q 16 [some (.ref 3), some (.int (nI j)), some (.int w), some (.int m), none] [.int (nI j), .ref 8] (n, I, J, R) 0 0
    refine q_aal (m := j) (b := (84 + 19 * j)) rfl (⟨by decide, Nat.lt_of_lt_of_le (by decide) hK.1, rfl⟩) ⟨rfl, rfl⟩ (hj) rfl (hK.2.1 8 j _ (q_fx8 j hj)) ?_
    refine q_gR (b := (84 + 19 * j + 5)) rfl rfl ((q_Ac_of hK hj).ob) ((q_Ac_of hK hj).r8) ?_
    refine q_k 2 ?_
    show q_W L (d + 1) 46 q_m46 Q 23 [some (.ref 3), some (.int (nI j)), some (.int w), some (.int m), some (.ref (84 + 19 * j + 5))] [.int w] (n, I, J, R) 0 0
    refine q_one rfl rfl ?_
    show (w.toInt < 0 ∨ 3 < w.toInt → q_W L (d + 1) 46 q_m46 Q 104 [some (.ref 3), some (.int (nI j)), some (.int w), some (.int m), some (.ref (84 + 19 * j + 5))] [] (n, I, J, R) 0 0) ∧ (w.toInt = 0 → q_W L (d + 1) 46 q_m46 Q 52 [some (.ref 3), some (.int (nI j)), some (.int w), some (.int m), some (.ref (84 + 19 * j + 5))] [] (n, I, J, R) 0 0) ∧ (w.toInt = 0 + 1 → q_W L (d + 1) 46 q_m46 Q 65 [some (.ref 3), some (.int (nI j)), some (.int w), some (.int m), some (.ref (84 + 19 * j + 5))] [] (n, I, J, R) 0 0) ∧ (w.toInt = 0 + 1 + 1 → q_W L (d + 1) 46 q_m46 Q 78 [some (.ref 3), some (.int (nI j)), some (.int w), some (.int m), some (.ref (84 + 19 * j + 5))] [] (n, I, J, R) 0 0) ∧ (w.toInt = 0 + 1 + 1 + 1 → q_W L (d + 1) 46 q_m46 Q 91 [some (.ref 3), some (.int (nI j)), some (.int w), some (.int m), some (.ref (84 + 19 * j + 5))] [] (n, I, J, R) 0 0) ∧ True
    refine ⟨fun hsw => ?_, fun hsw => ?_, fun hsw => ?_, fun hsw => ?_, fun hsw => ?_, trivial⟩
    · skip
      refine q_k 1 ?_
      show q_W L (d + 1) 46 q_m46 Q 105 [some (.ref 3), some (.int (nI j)), some (.int w), some (.int m), some (.ref (84 + 19 * j + 5))] [.int (nI 0)] (n, I, J, R) 0 0
      refine q_one rfl rfl ?_
      show q_bz (nI 0) ∧ Q (some (.int (nI 0))) (n, I, J, R)
      refine ⟨Or.inl rfl, ?_⟩
      rw [show f_spoil (nI j) w m M = (nI 0, M) by unfold f_spoil; rw [if_neg (g_kn_j hj hrj)]; rcases g_swd (N := 3) (by decide) hsw with q | ⟨q, q2⟩; rw [if_pos q]; rw [if_neg q, if_neg q2]] at hQ
      dsimp only at hQ
      exact hQ n I J R h (q_nmf_rf _) ⟨rfl, rfl⟩
    · skip
      have hw23 : w = nI 0 := q_swi hsw (by decide)
      refine q_k 2 ?_
      show q_W L (d + 1) 46 q_m46 Q 55 [some (.ref 3), some (.int (nI j)), some (.int w), some (.int m), some (.ref (84 + 19 * j + 5))] [.ref (84 + 19 * j + 5), .ref (84 + 19 * j + 5)] (n, I, J, R) 0 0
      refine q_gI rfl rfl ((q_Ac_of hK hj).o5) ?_
      refine q_k 2 ?_
      show q_W L (d + 1) 46 q_m46 Q 60 [some (.ref 3), some (.int (nI j)), some (.int w), some (.int m), some (.ref (84 + 19 * j + 5))] [.int ((I (84 + 19 * j + 5) 0) ^^^ m), .ref (84 + 19 * j + 5)] (n, I, J, R) 0 0
      refine q_pI rfl rfl rfl ((q_Ac_of hK hj).o5) ?_
      refine q_k 1 ?_
      show q_W L (d + 1) 46 q_m46 Q 64 [some (.ref 3), some (.int (nI j)), some (.int w), some (.int m), some (.ref (84 + 19 * j + 5))] [.int (nI 1)] (n, q_up I (84 + 19 * j + 5) 0 ((I (84 + 19 * j + 5) 0) ^^^ m), J, R) 0 0
      refine q_one rfl rfl ?_
      show q_bz (nI 1) ∧ Q (some (.int (nI 1))) (n, q_up I (84 + 19 * j + 5) 0 ((I (84 + 19 * j + 5) 0) ^^^ m), J, R)
      refine ⟨Or.inr rfl, ?_⟩
      rw [hw23] at hQ
      rw [show f_spoil (nI j) (nI 0) m M = (nI 1, q_up M 202 (4 * j + 0) (M 202 (4 * j + 0) ^^^ m)) by unfold f_spoil; rw [if_neg (g_kn_j hj hrj), if_neg (nI_pos (by decide)), if_pos (nI_le (by decide) (by decide)), g_cl (show j < 10000 by omega), g_cl (by decide)]] at hQ
      dsimp only at hQ
      rw [show I (84 + 19 * j + 5) 0 = M 202 (4 * j + 0) from (ha j hj).e0]
      obtain ⟨c1, c2⟩ := CR_acct h hj (c_A_sp (k := 0) (v := M 202 (4 * j + 0) ^^^ m) (ha j hj) (by decide)) (fun x _ _ _ hx => q_un (by omega)) (fun v hv huv => q_eu_up (u := j) (q_eu_rf _ _) (by unfold q_own; omega) huv) (q_un (by decide)) (q_un (by decide)) (by rw [q_un (by decide)])
      exact hQ n _ J R c1 c2 ⟨rfl, rfl⟩
    · skip
      have hw23 : w = nI 1 := q_swi hsw (by decide)
      refine q_k 2 ?_
      show q_W L (d + 1) 46 q_m46 Q 68 [some (.ref 3), some (.int (nI j)), some (.int w), some (.int m), some (.ref (84 + 19 * j + 5))] [.ref (84 + 19 * j + 5), .ref (84 + 19 * j + 5)] (n, I, J, R) 0 0
      refine q_gI rfl rfl ((q_Ac_of hK hj).o5) ?_
      refine q_k 2 ?_
      show q_W L (d + 1) 46 q_m46 Q 73 [some (.ref 3), some (.int (nI j)), some (.int w), some (.int m), some (.ref (84 + 19 * j + 5))] [.int ((I (84 + 19 * j + 5) 1) ^^^ m), .ref (84 + 19 * j + 5)] (n, I, J, R) 0 0
      refine q_pI rfl rfl rfl ((q_Ac_of hK hj).o5) ?_
      refine q_k 1 ?_
      show q_W L (d + 1) 46 q_m46 Q 77 [some (.ref 3), some (.int (nI j)), some (.int w), some (.int m), some (.ref (84 + 19 * j + 5))] [.int (nI 1)] (n, q_up I (84 + 19 * j + 5) 1 ((I (84 + 19 * j + 5) 1) ^^^ m), J, R) 0 0
      refine q_one rfl rfl ?_
      show q_bz (nI 1) ∧ Q (some (.int (nI 1))) (n, q_up I (84 + 19 * j + 5) 1 ((I (84 + 19 * j + 5) 1) ^^^ m), J, R)
      refine ⟨Or.inr rfl, ?_⟩
      rw [hw23] at hQ
      rw [show f_spoil (nI j) (nI 1) m M = (nI 1, q_up M 202 (4 * j + 1) (M 202 (4 * j + 1) ^^^ m)) by unfold f_spoil; rw [if_neg (g_kn_j hj hrj), if_neg (nI_pos (by decide)), if_pos (nI_le (by decide) (by decide)), g_cl (show j < 10000 by omega), g_cl (by decide)]] at hQ
      dsimp only at hQ
      rw [show I (84 + 19 * j + 5) 1 = M 202 (4 * j + 1) from (ha j hj).e1]
      obtain ⟨c1, c2⟩ := CR_acct h hj (c_A_sp (k := 1) (v := M 202 (4 * j + 1) ^^^ m) (ha j hj) (by decide)) (fun x _ _ _ hx => q_un (by omega)) (fun v hv huv => q_eu_up (u := j) (q_eu_rf _ _) (by unfold q_own; omega) huv) (q_un (by decide)) (q_un (by decide)) (by rw [q_un (by decide)])
      exact hQ n _ J R c1 c2 ⟨rfl, rfl⟩
    · skip
      have hw23 : w = nI 2 := q_swi hsw (by decide)
      refine q_k 2 ?_
      show q_W L (d + 1) 46 q_m46 Q 81 [some (.ref 3), some (.int (nI j)), some (.int w), some (.int m), some (.ref (84 + 19 * j + 5))] [.ref (84 + 19 * j + 5), .ref (84 + 19 * j + 5)] (n, I, J, R) 0 0
      refine q_gI rfl rfl ((q_Ac_of hK hj).o5) ?_
      refine q_k 2 ?_
      show q_W L (d + 1) 46 q_m46 Q 86 [some (.ref 3), some (.int (nI j)), some (.int w), some (.int m), some (.ref (84 + 19 * j + 5))] [.int ((I (84 + 19 * j + 5) 2) ^^^ m), .ref (84 + 19 * j + 5)] (n, I, J, R) 0 0
      refine q_pI rfl rfl rfl ((q_Ac_of hK hj).o5) ?_
      refine q_k 1 ?_
      show q_W L (d + 1) 46 q_m46 Q 90 [some (.ref 3), some (.int (nI j)), some (.int w), some (.int m), some (.ref (84 + 19 * j + 5))] [.int (nI 1)] (n, q_up I (84 + 19 * j + 5) 2 ((I (84 + 19 * j + 5) 2) ^^^ m), J, R) 0 0
      refine q_one rfl rfl ?_
      show q_bz (nI 1) ∧ Q (some (.int (nI 1))) (n, q_up I (84 + 19 * j + 5) 2 ((I (84 + 19 * j + 5) 2) ^^^ m), J, R)
      refine ⟨Or.inr rfl, ?_⟩
      rw [hw23] at hQ
      rw [show f_spoil (nI j) (nI 2) m M = (nI 1, q_up M 202 (4 * j + 2) (M 202 (4 * j + 2) ^^^ m)) by unfold f_spoil; rw [if_neg (g_kn_j hj hrj), if_neg (nI_pos (by decide)), if_pos (nI_le (by decide) (by decide)), g_cl (show j < 10000 by omega), g_cl (by decide)]] at hQ
      dsimp only at hQ
      rw [show I (84 + 19 * j + 5) 2 = M 202 (4 * j + 2) from (ha j hj).e2]
      obtain ⟨c1, c2⟩ := CR_acct h hj (c_A_sp (k := 2) (v := M 202 (4 * j + 2) ^^^ m) (ha j hj) (by decide)) (fun x _ _ _ hx => q_un (by omega)) (fun v hv huv => q_eu_up (u := j) (q_eu_rf _ _) (by unfold q_own; omega) huv) (q_un (by decide)) (q_un (by decide)) (by rw [q_un (by decide)])
      exact hQ n _ J R c1 c2 ⟨rfl, rfl⟩
    · skip
      have hw23 : w = nI 3 := q_swi hsw (by decide)
      refine q_k 2 ?_
      show q_W L (d + 1) 46 q_m46 Q 94 [some (.ref 3), some (.int (nI j)), some (.int w), some (.int m), some (.ref (84 + 19 * j + 5))] [.ref (84 + 19 * j + 5), .ref (84 + 19 * j + 5)] (n, I, J, R) 0 0
      refine q_gI rfl rfl ((q_Ac_of hK hj).o5) ?_
      refine q_k 2 ?_
      show q_W L (d + 1) 46 q_m46 Q 99 [some (.ref 3), some (.int (nI j)), some (.int w), some (.int m), some (.ref (84 + 19 * j + 5))] [.int ((I (84 + 19 * j + 5) 3) ^^^ m), .ref (84 + 19 * j + 5)] (n, I, J, R) 0 0
      refine q_pI rfl rfl rfl ((q_Ac_of hK hj).o5) ?_
      refine q_k 1 ?_
      show q_W L (d + 1) 46 q_m46 Q 103 [some (.ref 3), some (.int (nI j)), some (.int w), some (.int m), some (.ref (84 + 19 * j + 5))] [.int (nI 1)] (n, q_up I (84 + 19 * j + 5) 3 ((I (84 + 19 * j + 5) 3) ^^^ m), J, R) 0 0
      refine q_one rfl rfl ?_
      show q_bz (nI 1) ∧ Q (some (.int (nI 1))) (n, q_up I (84 + 19 * j + 5) 3 ((I (84 + 19 * j + 5) 3) ^^^ m), J, R)
      refine ⟨Or.inr rfl, ?_⟩
      rw [hw23] at hQ
      rw [show f_spoil (nI j) (nI 3) m M = (nI 1, q_up M 202 (4 * j + 3) (M 202 (4 * j + 3) ^^^ m)) by unfold f_spoil; rw [if_neg (g_kn_j hj hrj), if_neg (nI_pos (by decide)), if_pos (nI_le (by decide) (by decide)), g_cl (show j < 10000 by omega), g_cl (by decide)]] at hQ
      dsimp only at hQ
      rw [show I (84 + 19 * j + 5) 3 = M 202 (4 * j + 3) from (ha j hj).e3]
      obtain ⟨c1, c2⟩ := CR_acct h hj (c_A_sp (k := 3) (v := M 202 (4 * j + 3) ^^^ m) (ha j hj) (by decide)) (fun x _ _ _ hx => q_un (by omega)) (fun v hv huv => q_eu_up (u := j) (q_eu_rf _ _) (by unfold q_own; omega) huv) (q_un (by decide)) (q_un (by decide)) (by rw [q_un (by decide)])
      exact hQ n _ J R c1 c2 ⟨rfl, rfl⟩
  · skip
    show q_W L (d + 1) 46 q_m46 Q 6 [some (.ref 3), some (.int u), some (.int w), some (.int m), none] [.int (nI 0)] (n, I, J, R) 0 0
    refine q_one rfl rfl ?_
    show (¬ (nI 0) = 0 → q_W L (d + 1) 46 q_m46 Q 11 [some (.ref 3), some (.int u), some (.int w), some (.int m), none] [] (n, I, J, R) 0 0) ∧ ((nI 0) = 0 → q_W L (d + 1) 46 q_m46 Q 9 [some (.ref 3), some (.int u), some (.int w), some (.int m), none] [] (n, I, J, R) 0 0)
    refine ⟨fun z => absurd (by decide) z, fun _ => ?_⟩
    refine q_k 1 ?_
    show q_W L (d + 1) 46 q_m46 Q 10 [some (.ref 3), some (.int u), some (.int w), some (.int m), none] [.int (nI 0)] (n, I, J, R) 0 0
    refine q_one rfl rfl ?_
    show q_bz (nI 0) ∧ Q (some (.int (nI 0))) (n, I, J, R)
    refine ⟨Or.inl rfl, ?_⟩
    rw [show f_spoil u w m M = (nI 0, M) by unfold f_spoil; rw [if_pos (g_kn_0 hno)]] at hQ
    dsimp only at hQ
    exact hQ n I J R h (q_nmf_rf _) ⟨rfl, rfl⟩
theorem k_text {L d n : Nat} {I : q_I} {J : q_L} {R : q_R} {Q : q_Q} {M : q_I} {N : q_L} (h : CR n I J R M N) (hQ : Q (some (.long (N 192 17))) (n, I, J, R)) : q_Ex L (d + 1) 52 [.ref 3] (n, I, J, R) Q := by
  refine q_in (x := q_m52) rfl rfl ?_
  show q_W L d 52 q_m52 Q 0 [some (.ref 3)] [] (n, I, J, R) 0 0
  have hK := h.K
  have ha := h.ac
  obtain ⟨E, hE⟩ := h.en
  refine q_k 1 ?_
  show q_W L d 52 q_m52 Q 1 [some (.ref 3)] [.ref 3] (n, I, J, R) 0 0
  refine q_gJ rfl rfl (⟨Nat.lt_of_lt_of_le (by decide) hK.1, rfl⟩) ?_
  refine q_one rfl rfl ?_
  show Q (some (.long (J 3 5))) (n, I, J, R)
  rw [hE.tx]
  exact hQ
theorem g_th_j {E j : Nat} (hj : j < E) (hE : E ≤ 60) : ¬ g_th (nI E) (nI j) = 0 := by
  unfold g_th
  rw [if_neg (nI_pos (by omega)), if_neg (fun z => absurd ((nI_leI (by omega) (by omega)).mp z) (by omega))]
  decide
theorem k_envelope {L d n : Nat} {I : q_I} {J : q_L} {R : q_R} {Q : q_Q} {M : q_I} {N : q_L} {v w : Int32} (h : CR n I J R M N) (hQ : Q (some (.long (g_env v w M N))) (n, I, J, R)) : q_Ex L (d + 3) 53 [.ref 3, .int v, .int w] (n, I, J, R) Q := by
  refine q_in (x := q_m53) rfl rfl ?_
  show q_W L (d + 2) 53 q_m53 Q 0 [some (.ref 3), some (.int v), some (.int w)] [] (n, I, J, R) 0 0
  have hK := h.K
  have ha := h.ac
  obtain ⟨E, hE⟩ := h.en
  have hE6 := hE.e6
  refine q_k 3 ?_
  show q_W L (d + 2) 53 q_m53 Q 3 [some (.ref 3), some (.int v), some (.int w)] [.int w, .int v, .ref 3] (n, I, J, R) 0 0
  refine q_cv (as := [.int v, .int w]) (rs := []) rfl rfl rfl (⟨Nat.lt_of_lt_of_le (by decide) hK.1, rfl⟩) rfl rfl ?_
  refine c_isField (hK) (hE.eI) (hE6) (fun j k hj hk ej ek => ?_) (fun hno => ?_)
  · skip
    show q_W L (d + 2) 53 q_m53 Q 6 [some (.ref 3), some (.int v), some (.int w)] [.int (nI 1)] (n, I, J, R) 0 0
    subst ej ek
    show q_W L (d + 2) 53 q_m53 Q 6 [some (.ref 3), some (.int (nI j)), some (.int (nI k))] [.int (nI 1)] (n, I, J, R) 0 0
    refine q_one rfl rfl ?_
    show ((nI 1) = 0 → q_W L (d + 2) 53 q_m53 Q 20 [some (.ref 3), some (.int (nI j)), some (.int (nI k))] [] (n, I, J, R) 0 0) ∧ (¬ (nI 1) = 0 → q_W L (d + 2) 53 q_m53 Q 9 [some (.ref 3), some (.int (nI j)), some (.int (nI k))] [] (n, I, J, R) 0 0)
    refine ⟨fun z => absurd z (by decide), fun _ => ?_⟩
    refine q_k 1 ?_
    show q_W L (d + 2) 53 q_m53 Q 10 [some (.ref 3), some (.int (nI j)), some (.int (nI k))] [.ref 3] (n, I, J, R) 0 0
    refine q_gR (b := 10) rfl rfl (⟨Nat.lt_of_lt_of_le (by decide) hK.1, rfl⟩) (hK.2.1 3 3 10 rfl) ?_
    refine q_k 1 ?_
    show q_W L (d + 2) 53 q_m53 Q 14 [some (.ref 3), some (.int (nI j)), some (.int (nI k))] [.int (nI j), .ref 10] (n, I, J, R) 0 0
    refine q_aal (m := j) (b := (11 + j)) rfl (⟨by decide, Nat.lt_of_lt_of_le (by decide) hK.1, rfl⟩) ⟨rfl, rfl⟩ (by omega) rfl (hK.2.1 10 j _ (q_fxA j (by omega))) ?_
    refine q_k 1 ?_
    show q_W L (d + 2) 53 q_m53 Q 16 [some (.ref 3), some (.int (nI j)), some (.int (nI k))] [.int (nI k), .ref (11 + j)] (n, I, J, R) 0 0
    refine q_lal (m := k) rfl (q_arE hK.1 (by omega)) (hk) (rfl) ?_
    refine q_topL (w := N 208 (12 * j + k)) (hE.lt j k hj hk) ?_
    refine q_k 1 ?_
    show q_W L (d + 2) 53 q_m53 Q 23 [some (.ref 3), some (.int (nI j)), some (.int (nI k))] [.long (N 208 (12 * j + k))] (n, I, J, R) 0 0
    refine q_one rfl rfl ?_
    show Q (some (.long (N 208 (12 * j + k)))) (n, I, J, R)
    rw [show g_env (nI j) (nI k) M N = N 208 (12 * j + k) by unfold g_env; rw [hE.eM, if_neg (g_th_j hj hE6), if_neg (nI_pos (by omega)), if_neg (fun z => absurd ((nI_ltI (by decide) (by omega)).mp z) (by omega)), g_cl (by omega), g_cl (by omega)]] at hQ
    exact hQ
  · skip
    show q_W L (d + 2) 53 q_m53 Q 6 [some (.ref 3), some (.int v), some (.int w)] [.int (nI 0)] (n, I, J, R) 0 0
    refine q_one rfl rfl ?_
    show ((nI 0) = 0 → q_W L (d + 2) 53 q_m53 Q 20 [some (.ref 3), some (.int v), some (.int w)] [] (n, I, J, R) 0 0) ∧ (¬ (nI 0) = 0 → q_W L (d + 2) 53 q_m53 Q 9 [some (.ref 3), some (.int v), some (.int w)] [] (n, I, J, R) 0 0)
    refine ⟨fun _ => ?_, fun z => absurd (by decide) z⟩
    refine q_k 1 ?_
    show q_W L (d + 2) 53 q_m53 Q 23 [some (.ref 3), some (.int v), some (.int w)] [.long (-1)] (n, I, J, R) 0 0
    refine q_one rfl rfl ?_
    show Q (some (.long (-1))) (n, I, J, R)
    have hG : g_env v w M N = -1 := by
      unfold g_env
      rw [hE.eM]
      rcases hno with q | q | q
      · rw [if_pos q]
      · by_cases q1 : g_th (nI E) v = 0
        · rw [if_pos q1]
        · rw [if_neg q1, if_pos q]
      · by_cases q1 : g_th (nI E) v = 0
        · rw [if_pos q1]
        · rw [if_neg q1]
          by_cases q2 : w < 0
          · rw [if_pos q2]
          · rw [if_neg q2, if_pos q]
    rw [hG] at hQ
    exact hQ
theorem k_alter {L d n : Nat} {I : q_I} {J : q_L} {R : q_R} {Q : q_Q} {M : q_I} {N : q_L} {v w : Int32} {z : Int64} (h : CR n I J R M N) (hQ : ∀ n' I' J' R', CR n' I' J' R' (M) ((f_alter v w z M N).2) → q_nmf I' I → (J' 208 = J 208 ∧ J' 192 = J 192) → Q (some (.int (f_alter v w z M N).1)) (n', I', J', R')) : q_Ex L (d + 3) 49 [.ref 3, .int v, .int w, .long z] (n, I, J, R) Q := by
  refine q_in (x := q_m49) rfl rfl ?_
  show q_W L (d + 2) 49 q_m49 Q 0 [some (.ref 3), some (.int v), some (.int w), some (.long z), none] [] (n, I, J, R) 0 0
  have hK := h.K
  have ha := h.ac
  obtain ⟨E, hE⟩ := h.en
  have hE6 := hE.e6
  refine q_k 3 ?_
  show q_W L (d + 2) 49 q_m49 Q 3 [some (.ref 3), some (.int v), some (.int w), some (.long z), none] [.int w, .int v, .ref 3] (n, I, J, R) 0 0
  refine q_cv (as := [.int v, .int w]) (rs := []) rfl rfl rfl (⟨Nat.lt_of_lt_of_le (by decide) hK.1, rfl⟩) rfl rfl ?_
  refine c_isField (hK) (hE.eI) (hE6) (fun j k hj hk ej ek => ?_) (fun hno => ?_)
  · skip
    show q_W L (d + 2) 49 q_m49 Q 6 [some (.ref 3), some (.int v), some (.int w), some (.long z), none] [.int (nI 1)] (n, I, J, R) 0 0
    subst ej ek
    show q_W L (d + 2) 49 q_m49 Q 6 [some (.ref 3), some (.int (nI j)), some (.int (nI k)), some (.long z), none] [.int (nI 1)] (n, I, J, R) 0 0
    refine q_one rfl rfl ?_
    show (¬ (nI 1) = 0 → q_W L (d + 2) 49 q_m49 Q 11 [some (.ref 3), some (.int (nI j)), some (.int (nI k)), some (.long z), none] [] (n, I, J, R) 0 0) ∧ ((nI 1) = 0 → q_W L (d + 2) 49 q_m49 Q 9 [some (.ref 3), some (.int (nI j)), some (.int (nI k)), some (.long z), none] [] (n, I, J, R) 0 0)
    refine ⟨fun _ => ?_, fun z => absurd z (by decide)⟩
    refine q_k 1 ?_
    show q_W L (d + 2) 49 q_m49 Q 12 [some (.ref 3), some (.int (nI j)), some (.int (nI k)), some (.long z), none] [.ref 3] (n, I, J, R) 0 0
    refine q_gR (b := 10) rfl rfl (⟨Nat.lt_of_lt_of_le (by decide) hK.1, rfl⟩) (hK.2.1 3 3 10 rfl) ?_
    refine q_k 1 ?_
    show q_W L (d + 2) 49 q_m49 Q 16 [some (.ref 3), some (.int (nI j)), some (.int (nI k)), some (.long z), none] [.int (nI j), .ref 10] (n, I, J, R) 0 0
    refine q_aal (m := j) (b := (11 + j)) rfl (⟨by decide, Nat.lt_of_lt_of_le (by decide) hK.1, rfl⟩) ⟨rfl, rfl⟩ (by omega) rfl (hK.2.1 10 j _ (q_fxA j (by omega))) ?_
    refine q_k 2 ?_
    show q_W L (d + 2) 49 q_m49 Q 19 [some (.ref 3), some (.int (nI j)), some (.int (nI k)), some (.long z), none] [.int (nI k), .ref (11 + j), .int (nI k), .ref (11 + j)] (n, I, J, R) 0 0
    refine q_lal (m := k) rfl (q_arE hK.1 (by omega)) (hk) (rfl) ?_
    refine q_topL (w := N 208 (12 * j + k)) (hE.lt j k hj hk) ?_
    refine q_k 2 ?_
    show q_W L (d + 2) 49 q_m49 Q 22 [some (.ref 3), some (.int (nI j)), some (.int (nI k)), some (.long z), none] [.long ((N 208 (12 * j + k)) ^^^ z), .int (nI k), .ref (11 + j)] (n, I, J, R) 0 0
    refine q_las (m := k) rfl (q_arE hK.1 (by omega)) (hk) (rfl) ?_
    refine q_k 1 ?_
    show q_W L (d + 2) 49 q_m49 Q 24 [some (.ref 3), some (.int (nI j)), some (.int (nI k)), some (.long z), none] [.int (nI 1)] (n, I, q_up J (11 + j) k ((N 208 (12 * j + k)) ^^^ z), R) 0 0
    refine q_one rfl rfl ?_
    show q_bz (nI 1) ∧ Q (some (.int (nI 1))) (n, I, q_up J (11 + j) k ((N 208 (12 * j + k)) ^^^ z), R)
    refine ⟨Or.inr rfl, ?_⟩
    rw [show f_alter (nI j) (nI k) z M N = (nI 1, q_up N 208 (12 * j + k) (N 208 (12 * j + k) ^^^ z)) by unfold f_alter; rw [hE.eM, if_neg (g_th_j hj hE6), if_neg (nI_pos (by omega)), if_pos (nI_le (by omega) (by decide)), g_cl (by omega), g_cl (by omega)]] at hQ
    dsimp only at hQ
    refine hQ n I _ R ⟨hK, h.nj, ha, h.li, E, hE6, hE.eM, hE.eI, fun e l he hl => ?_, fun e l h1 h2 h3 => ?_, ?_⟩ (q_nmf_rf _) ⟨q_un (by omega), q_un (by omega)⟩
    · by_cases c1 : e = j
      · subst c1
        by_cases c2 : l = k
        · subst c2; rw [q_usk, q_usk]
        · rw [q_usn c2, q_usn (by omega)]; exact hE.lt e l he hl
      · rw [q_un (by omega), q_usn (by omega)]; exact hE.lt e l he hl
    · rw [q_un (by omega)]; exact hE.lz e l h1 h2 h3
    · rw [q_un (by omega), q_un (by decide)]; exact hE.tx
  · skip
    show q_W L (d + 2) 49 q_m49 Q 6 [some (.ref 3), some (.int v), some (.int w), some (.long z), none] [.int (nI 0)] (n, I, J, R) 0 0
    refine q_one rfl rfl ?_
    show (¬ (nI 0) = 0 → q_W L (d + 2) 49 q_m49 Q 11 [some (.ref 3), some (.int v), some (.int w), some (.long z), none] [] (n, I, J, R) 0 0) ∧ ((nI 0) = 0 → q_W L (d + 2) 49 q_m49 Q 9 [some (.ref 3), some (.int v), some (.int w), some (.long z), none] [] (n, I, J, R) 0 0)
    refine ⟨fun z => absurd (by decide) z, fun _ => ?_⟩
    refine q_k 1 ?_
    show q_W L (d + 2) 49 q_m49 Q 10 [some (.ref 3), some (.int v), some (.int w), some (.long z), none] [.int (nI 0)] (n, I, J, R) 0 0
    refine q_one rfl rfl ?_
    show q_bz (nI 0) ∧ Q (some (.int (nI 0))) (n, I, J, R)
    refine ⟨Or.inl rfl, ?_⟩
    have hG : f_alter v w z M N = (nI 0, N) := by
      unfold f_alter
      rw [hE.eM]
      rcases hno with q | q | q
      · rw [if_pos q]
      · by_cases q1 : g_th (nI E) v = 0
        · rw [if_pos q1]
        · rw [if_neg q1, if_pos q]
      · by_cases q1 : g_th (nI E) v = 0
        · rw [if_pos q1]
        · rw [if_neg q1]
          by_cases q2 : w < 0
          · rw [if_pos q2]
          · rw [if_neg q2, if_neg (fun z => Int32.lt_irrefl (Int32.lt_of_lt_of_le q z))]
    rw [hG] at hQ
    exact hQ n I J R h (q_nmf_rf _) ⟨rfl, rfl⟩
theorem k_copy {L d n : Nat} {I : q_I} {J : q_L} {R : q_R} {Q : q_Q} {M : q_I} {N : q_L} {v : Int32} (h : CR n I J R M N) (hQ : ∀ n' I' J' R', CR n' I' J' R' ((f_copy v M N).2.1) ((f_copy v M N).2.2) → q_nmf I' I → (J' 208 = J 208 ∧ J' 192 = J 192) → Q (some (.int (f_copy v M N).1)) (n', I', J', R')) : q_Ex L (d + 2) 50 [.ref 3, .int v] (n, I, J, R) Q := by
  refine q_in (x := q_m50) rfl rfl ?_
  show q_W L (d + 1) 50 q_m50 Q 0 [some (.ref 3), some (.int v)] [] (n, I, J, R) 0 0
  have hK := h.K
  have ha := h.ac
  obtain ⟨E, hE⟩ := h.en
  have hE6 := hE.e6
  refine q_k 2 ?_
  show q_W L (d + 1) 50 q_m50 Q 2 [some (.ref 3), some (.int v)] [.int v, .ref 3] (n, I, J, R) 0 0
  refine q_cv (as := [.int v]) (rs := []) rfl rfl rfl (⟨Nat.lt_of_lt_of_le (by decide) hK.1, rfl⟩) rfl rfl ?_
  refine c_isEnvelope (hK) (hE.eI) (hE6) (fun j hj ej => ?_) (fun hno => ?_)
  · skip
    show q_W L (d + 1) 50 q_m50 Q 5 [some (.ref 3), some (.int v)] [.int (nI 1)] (n, I, J, R) 0 0
    subst ej
    show q_W L (d + 1) 50 q_m50 Q 5 [some (.ref 3), some (.int (nI j))] [.int (nI 1)] (n, I, J, R) 0 0
    refine q_one rfl rfl ?_
    show ((nI 1) = 0 → q_W L (d + 1) 50 q_m50 Q 17 [some (.ref 3), some (.int (nI j))] [] (n, I, J, R) 0 0) ∧ (¬ (nI 1) = 0 → q_W L (d + 1) 50 q_m50 Q 8 [some (.ref 3), some (.int (nI j))] [] (n, I, J, R) 0 0)
    refine ⟨fun z => absurd z (by decide), fun _ => ?_⟩
    refine q_k 1 ?_
    show q_W L (d + 1) 50 q_m50 Q 9 [some (.ref 3), some (.int (nI j))] [.ref 3] (n, I, J, R) 0 0
    refine q_gI rfl rfl (⟨Nat.lt_of_lt_of_le (by decide) hK.1, rfl⟩) ?_
    refine q_top (w := nI E) (hE.eI) ?_
    refine q_k 1 ?_
    show q_W L (d + 1) 50 q_m50 Q 14 [some (.ref 3), some (.int (nI j))] [.int (nI 60), .int (nI E)] (n, I, J, R) 0 0
    refine q_one rfl rfl ?_
    show ((nI E) < (nI 60) → q_W L (d + 1) 50 q_m50 Q 19 [some (.ref 3), some (.int (nI j))] [] (n, I, J, R) 0 0) ∧ (¬ (nI E) < (nI 60) → q_W L (d + 1) 50 q_m50 Q 17 [some (.ref 3), some (.int (nI j))] [] (n, I, J, R) 0 0)
    refine ⟨fun h14 => ?_, fun h14 => ?_⟩
    · skip
      have hlt : E < 60 := (nI_ltI (by omega) (by decide)).mp h14
      refine q_k 1 ?_
      show q_W L (d + 1) 50 q_m50 Q 20 [some (.ref 3), some (.int (nI j))] [.ref 3] (n, I, J, R) 0 0
      refine q_gR (b := 10) rfl rfl (⟨Nat.lt_of_lt_of_le (by decide) hK.1, rfl⟩) (hK.2.1 3 3 10 rfl) ?_
      refine q_k 1 ?_
      show q_W L (d + 1) 50 q_m50 Q 24 [some (.ref 3), some (.int (nI j))] [.int (nI j), .ref 10] (n, I, J, R) 0 0
      refine q_aal (m := j) (b := (11 + j)) rfl (⟨by decide, Nat.lt_of_lt_of_le (by decide) hK.1, rfl⟩) ⟨rfl, rfl⟩ (by omega) rfl (hK.2.1 10 j _ (q_fxA j (by omega))) ?_
      refine q_k 2 ?_
      show q_W L (d + 1) 50 q_m50 Q 27 [some (.ref 3), some (.int (nI j))] [.ref 3, .int (nI 0), .ref (11 + j)] (n, I, J, R) 0 0
      refine q_gR (b := 10) rfl rfl (⟨Nat.lt_of_lt_of_le (by decide) hK.1, rfl⟩) (hK.2.1 3 3 10 rfl) ?_
      refine q_k 1 ?_
      show q_W L (d + 1) 50 q_m50 Q 31 [some (.ref 3), some (.int (nI j))] [.ref 3, .ref 10, .int (nI 0), .ref (11 + j)] (n, I, J, R) 0 0
      refine q_gI rfl rfl (⟨Nat.lt_of_lt_of_le (by decide) hK.1, rfl⟩) ?_
      refine q_top (w := nI E) (hE.eI) ?_
      refine q_aal (m := E) (b := (11 + E)) rfl (⟨by decide, Nat.lt_of_lt_of_le (by decide) hK.1, rfl⟩) ⟨rfl, rfl⟩ (by omega) rfl (hK.2.1 10 E _ (q_fxA E (by omega))) ?_
      refine q_k 2 ?_
      show q_W L (d + 1) 50 q_m50 Q 38 [some (.ref 3), some (.int (nI j))] [.int (nI 12), .int (nI 0), .ref (11 + E), .int (nI 0), .ref (11 + j)] (n, I, J, R) 0 0
      refine q_acL (sp := 0) (dp := 0) (c := 12) rfl rfl rfl (q_arE hK.1 (by omega)) (q_arE hK.1 (by omega)) (by decide) (by decide) ⟨rfl, rfl⟩ ?_
      refine q_k 2 ?_
      show q_W L (d + 1) 50 q_m50 Q 43 [some (.ref 3), some (.int (nI j))] [.ref 3, .ref 3] (n, I, va_up J (11 + E) (va_cpy (J (11 + j)) (J (11 + E)) 0 0 12), R) 0 0
      refine q_gI rfl rfl (⟨Nat.lt_of_lt_of_le (by decide) hK.1, rfl⟩) ?_
      refine q_top (w := nI E) (hE.eI) ?_
      refine q_k 2 ?_
      show q_W L (d + 1) 50 q_m50 Q 48 [some (.ref 3), some (.int (nI j))] [.int ((nI E) + (nI 1)), .ref 3] (n, I, va_up J (11 + E) (va_cpy (J (11 + j)) (J (11 + E)) 0 0 12), R) 0 0
      refine q_top (w := nI (E + 1)) (nI_add _ _) ?_
      refine q_pI rfl rfl rfl (⟨Nat.lt_of_lt_of_le (by decide) hK.1, rfl⟩) ?_
      refine q_k 1 ?_
      show q_W L (d + 1) 50 q_m50 Q 52 [some (.ref 3), some (.int (nI j))] [.ref 3] (n, q_up I 3 4 (nI (E + 1)), va_up J (11 + E) (va_cpy (J (11 + j)) (J (11 + E)) 0 0 12), R) 0 0
      refine q_gI rfl rfl (⟨Nat.lt_of_lt_of_le (by decide) hK.1, rfl⟩) ?_
      refine q_top (w := nI (E + 1)) (by rw [q_usk]) ?_
      refine q_k 2 ?_
      show q_W L (d + 1) 50 q_m50 Q 57 [some (.ref 3), some (.int (nI j))] [.int ((nI (E + 1)) - (nI 1))] (n, q_up I 3 4 (nI (E + 1)), va_up J (11 + E) (va_cpy (J (11 + j)) (J (11 + E)) 0 0 12), R) 0 0
      refine q_top (w := nI E) (q_sub rfl) ?_
      refine q_one rfl rfl ?_
      show Q (some (.int (nI E))) (n, q_up I 3 4 (nI (E + 1)), va_up J (11 + E) (va_cpy (J (11 + j)) (J (11 + E)) 0 0 12), R)
      rw [show f_copy (nI j) M N = (nI E, q_up M 192 16 (nI (E + 1)), va_up N 208 (fun i => if 12 * E ≤ i ∧ i < 12 * E + 12 then N 208 (12 * j + (i - 12 * E)) else N 208 i)) by unfold f_copy; rw [hE.eM, if_neg (g_th_j hj hE6), if_neg (fun z => absurd ((nI_eq (by omega) (by decide)).mp z) (by omega)), g_cl (by omega), g_cl (by omega)]] at hQ
      dsimp only at hQ
      refine hQ n (q_up I 3 4 (nI (E + 1))) _ R ⟨q_K0_to hK (q_un (by decide)) (q_un (by decide)), h.nj, fun u hu => c_A_to (ha u hu) (fun x h1 h2 => q_un (by omega)) rfl (fun r l ho => by unfold q_own at ho; rw [q_un (by omega)]), ?_, E + 1, by omega, q_usk, q_usk, fun e l he hl => ?_, fun e l h1 h2 h3 => ?_, ?_⟩ (fun x hx => q_un (by omega)) ⟨va_up_ne _ _ (by omega), va_up_ne _ _ (by omega)⟩
      · obtain ⟨ss, mc, tr, hL⟩ := h.li
        exact ⟨ss, mc, tr, c_L_to hL (Nat.le_refl _) hK.1 (fun x _ h1 _ => q_un (by omega)) (fun x _ _ => rfl) (q_un (by decide)) (q_un (by decide))⟩
      · by_cases c1 : e = E
        · subst c1
          rw [va_up_self, va_up_self, pk_cpy_in (by omega) (by omega), if_pos (by omega), show 12 * e + l - 12 * e = l by omega, show 0 + (l - 0) = l by omega]
          exact hE.lt j l hj hl
        · rw [va_up_ne _ _ (by omega), va_up_self, if_neg (by omega)]; exact hE.lt e l (by omega) hl
      · rw [va_up_ne _ _ (by omega)]; exact hE.lz e l (by omega) h2 h3
      · rw [va_up_ne _ _ (by omega), va_up_ne _ _ (by decide)]; exact hE.tx
    · skip
      have hlt : E = 60 := by rcases Nat.lt_or_ge E 60 with q | q; exact absurd (nI_lt q (by decide)) h14; omega
      refine q_k 1 ?_
      show q_W L (d + 1) 50 q_m50 Q 18 [some (.ref 3), some (.int (nI j))] [.int (-1)] (n, I, J, R) 0 0
      refine q_one rfl rfl ?_
      show Q (some (.int (-1))) (n, I, J, R)
      rw [show f_copy (nI j) M N = (-1, M, N) by unfold f_copy; rw [hE.eM, if_neg (g_th_j hj hE6), if_pos (by rw [hlt])]] at hQ
      dsimp only at hQ
      exact hQ n I J R h (q_nmf_rf _) ⟨rfl, rfl⟩
  · skip
    show q_W L (d + 1) 50 q_m50 Q 5 [some (.ref 3), some (.int v)] [.int (nI 0)] (n, I, J, R) 0 0
    refine q_one rfl rfl ?_
    show ((nI 0) = 0 → q_W L (d + 1) 50 q_m50 Q 17 [some (.ref 3), some (.int v)] [] (n, I, J, R) 0 0) ∧ (¬ (nI 0) = 0 → q_W L (d + 1) 50 q_m50 Q 8 [some (.ref 3), some (.int v)] [] (n, I, J, R) 0 0)
    refine ⟨fun _ => ?_, fun z => absurd (by decide) z⟩
    refine q_k 1 ?_
    show q_W L (d + 1) 50 q_m50 Q 18 [some (.ref 3), some (.int v)] [.int (-1)] (n, I, J, R) 0 0
    refine q_one rfl rfl ?_
    show Q (some (.int (-1))) (n, I, J, R)
    rw [show f_copy v M N = (-1, M, N) by unfold f_copy; rw [hE.eM, if_pos hno]] at hQ
    dsimp only at hQ
    exact hQ n I J R h (q_nmf_rf _) ⟨rfl, rfl⟩
