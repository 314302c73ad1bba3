theorem g_let_0 {z : Int64} {a b : Nat} {M : q_I} {r : Nat → Int32} : g_let z a b M r 0 = (nI a).toInt64 := by unfold g_let; rw [if_pos rfl]
theorem g_let_1 {z : Int64} {a b : Nat} {M : q_I} {r : Nat → Int32} : g_let z a b M r 1 = (nI b).toInt64 := by unfold g_let; rw [if_neg (by decide), if_pos rfl]
theorem g_let_7 {z : Int64} {a b : Nat} {M : q_I} {r : Nat → Int32} : g_let z a b M r 7 = (r 3).toInt64 := by unfold g_let; rw [if_neg (by decide), if_neg (by decide), if_neg (by decide), if_neg (by decide), if_neg (by decide), if_neg (by decide), if_neg (by decide), if_pos rfl]
theorem g_let_8 {z : Int64} {a b : Nat} {M : q_I} {r : Nat → Int32} : g_let z a b M r 8 = (r 6).toInt64 := by unfold g_let; rw [if_neg (by decide), if_neg (by decide), if_neg (by decide), if_neg (by decide), if_neg (by decide), if_neg (by decide), if_neg (by decide), if_neg (by decide), if_pos rfl]
theorem g_let_9 {z : Int64} {a b : Nat} {M : q_I} {r : Nat → Int32} : g_let z a b M r 9 = (r 8).toInt64 := by unfold g_let; rw [if_neg (by decide), if_neg (by decide), if_neg (by decide), if_neg (by decide), if_neg (by decide), if_neg (by decide), if_neg (by decide), if_neg (by decide), if_neg (by decide), if_pos rfl]
theorem g_let_10 {z : Int64} {a b : Nat} {M : q_I} {r : Nat → Int32} : g_let z a b M r 10 = g_ci z r := by unfold g_let; rw [if_neg (by decide), if_neg (by decide), if_neg (by decide), if_neg (by decide), if_neg (by decide), if_neg (by decide), if_neg (by decide), if_neg (by decide), if_neg (by decide), if_neg (by decide), if_pos rfl]
theorem g_let_11 {z : Int64} {a b : Nat} {M : q_I} {r : Nat → Int32} : g_let z a b M r 11 = g_tag (s_kS r) (r 3) (r 6) (r 8) (g_ci z r) (M 197 (2 * a + 1)) (M 197 (2 * b + 1)) := by unfold g_let; rw [if_neg (by decide), if_neg (by decide), if_neg (by decide), if_neg (by decide), if_neg (by decide), if_neg (by decide), if_neg (by decide), if_neg (by decide), if_neg (by decide), if_neg (by decide), if_neg (by decide)]
theorem g_let_2t {z : Int64} {a b : Nat} {M : q_I} {r : Nat → Int32} (h : g_un r = true) : g_let z a b M r 2 = lN 0 := by unfold g_let; rw [if_neg (by decide), if_neg (by decide), if_pos rfl, if_pos h]
theorem g_let_2f {z : Int64} {a b : Nat} {M : q_I} {r : Nat → Int32} (h : ¬ g_un r = true) : g_let z a b M r 2 = lN 1 := by unfold g_let; rw [if_neg (by decide), if_neg (by decide), if_pos rfl, if_neg h]
theorem g_let_3t {z : Int64} {a b : Nat} {M : q_I} {r : Nat → Int32} (h : g_un r = true) : g_let z a b M r 3 = (M 197 (2 * a + 1)).toInt64 := by unfold g_let; rw [if_neg (by decide), if_neg (by decide), if_neg (by decide), if_pos rfl, if_pos h]
theorem g_let_3f {z : Int64} {a b : Nat} {M : q_I} {r : Nat → Int32} (h : ¬ g_un r = true) : g_let z a b M r 3 = lN 0 := by unfold g_let; rw [if_neg (by decide), if_neg (by decide), if_neg (by decide), if_pos rfl, if_neg h]
theorem g_let_4t {z : Int64} {a b : Nat} {M : q_I} {r : Nat → Int32} (h : g_un r = true) : g_let z a b M r 4 = (r 0).toInt64 := by unfold g_let; rw [if_neg (by decide), if_neg (by decide), if_neg (by decide), if_neg (by decide), if_pos rfl, if_pos h]
theorem g_let_4f {z : Int64} {a b : Nat} {M : q_I} {r : Nat → Int32} (h : ¬ g_un r = true) : g_let z a b M r 4 = lN 0 := by unfold g_let; rw [if_neg (by decide), if_neg (by decide), if_neg (by decide), if_neg (by decide), if_pos rfl, if_neg h]
theorem g_let_5t {z : Int64} {a b : Nat} {M : q_I} {r : Nat → Int32} (h : g_un r = true) : g_let z a b M r 5 = (r 12).toInt64 := by unfold g_let; rw [if_neg (by decide), if_neg (by decide), if_neg (by decide), if_neg (by decide), if_neg (by decide), if_pos rfl, if_pos h]
theorem g_let_5f {z : Int64} {a b : Nat} {M : q_I} {r : Nat → Int32} (h : ¬ g_un r = true) : g_let z a b M r 5 = lN 0 := by unfold g_let; rw [if_neg (by decide), if_neg (by decide), if_neg (by decide), if_neg (by decide), if_neg (by decide), if_pos rfl, if_neg h]
theorem g_let_6t {z : Int64} {a b : Nat} {M : q_I} {r : Nat → Int32} (h : g_un r = true) : g_let z a b M r 6 = (r 13).toInt64 := by unfold g_let; rw [if_neg (by decide), if_neg (by decide), if_neg (by decide), if_neg (by decide), if_neg (by decide), if_neg (by decide), if_pos rfl, if_pos h]
theorem g_let_6f {z : Int64} {a b : Nat} {M : q_I} {r : Nat → Int32} (h : ¬ g_un r = true) : g_let z a b M r 6 = lN 0 := by unfold g_let; rw [if_neg (by decide), if_neg (by decide), if_neg (by decide), if_neg (by decide), if_neg (by decide), if_neg (by decide), if_pos rfl, if_neg h]
set_option maxHeartbeats 4000000 in
theorem m_send {L d n : Nat} {I : q_I} {J : q_L} {R : q_R} {Q : q_Q} {u v : Int32} {z : Int64} {E : Nat} (hK : q_K0 n I R) (hE : I 192 16 = nI E) (hE6 : E ≤ 60) (hmn : ∀ p, p < 16 → ∃ m : Nat, m ≤ 3 ∧ I 206 p = nI m) (hQ : ∀ I', q_ms I' (f_send u v z I J).2.1 → q_mf I' I → Q (some (.int (f_send u v z I J).1)) (n, I', (f_send u v z I J).2.2, R)) : q_Ex L (d + 5) 111 [.ref 192, .int u, .int v, .long z] (n, I, J, R) Q := by
  refine q_in (x := q_m111) rfl rfl ?_
  show q_W L (d + 4) 111 q_m111 Q 0 [some (.ref 192), some (.int u), some (.int v), some (.long z), none, none, none, none] [] (n, I, J, R) 0 0
  refine q_k 3 ?_
  show q_W L (d + 4) 111 q_m111 Q 3 [some (.ref 192), some (.int u), some (.int v), some (.long z), none, none, none, none] [.int v, .int u, .ref 192] (n, I, J, R) 0 0
  refine q_cv (as := [.int u, .int v]) (rs := []) rfl rfl rfl (⟨Nat.lt_of_lt_of_le (by decide) hK.1, rfl⟩) rfl rfl ?_
  refine m_pair (hK) ?_
  show q_W L (d + 4) 111 q_m111 Q 6 [some (.ref 192), some (.int u), some (.int v), some (.long z), none, none, none, none] [.int (g_pr (I 193) u v)] (n, I, J, R) 0 0
  refine q_one rfl rfl ?_
  show ((g_pr (I 193) u v) = 0 → q_W L (d + 4) 111 q_m111 Q 31 [some (.ref 192), some (.int u), some (.int v), some (.long z), none, none, none, none] [] (n, I, J, R) 0 0) ∧ (¬ (g_pr (I 193) u v) = 0 → q_W L (d + 4) 111 q_m111 Q 9 [some (.ref 192), some (.int u), some (.int v), some (.long z), none, none, none, none] [] (n, I, J, R) 0 0)
  refine ⟨fun h6 => ?_, fun h6 => ?_⟩
  · skip
    refine q_k 1 ?_
    show q_W L (d + 4) 111 q_m111 Q 32 [some (.ref 192), some (.int u), some (.int v), some (.long z), none, none, none, none] [.int (-1)] (n, I, J, R) 0 0
    refine q_one rfl rfl ?_
    show Q (some (.int (-1))) (n, I, J, R)
    simp only [f_send, if_pos h6] at hQ
    exact hQ I (q_ms_rf I) (q_mf_rf I)
  · skip
    obtain ⟨a, b, ha, hb, rfl, rfl, hab, hfa, hfb, hk1⟩ := g_pr_1 h6
    obtain ⟨m, hm3, hm⟩ := hmn (4 * a + b) (by omega)
    refine q_k 1 ?_
    show q_W L (d + 4) 111 q_m111 Q 10 [some (.ref 192), some (.int (nI a)), some (.int (nI b)), some (.long z), none, none, none, none] [.ref 192] (n, I, J, R) 0 0
    refine q_gR (b := 206) rfl rfl (⟨Nat.lt_of_lt_of_le (by decide) hK.1, rfl⟩) (hK.2.1 192 13 206 rfl) ?_
    refine q_k 3 ?_
    show q_W L (d + 4) 111 q_m111 Q 16 [some (.ref 192), some (.int (nI a)), some (.int (nI b)), some (.long z), none, none, none, none] [.int ((nI 4) * (nI a)), .ref 206] (n, I, J, R) 0 0
    refine q_top (w := nI (4 * a)) (pk_mul _ _) ?_
    refine q_k 2 ?_
    show q_W L (d + 4) 111 q_m111 Q 18 [some (.ref 192), some (.int (nI a)), some (.int (nI b)), some (.long z), none, none, none, none] [.int ((nI (4 * a)) + (nI b)), .ref 206] (n, I, J, R) 0 0
    refine q_top (w := nI (4 * a + b)) (nI_add _ _) ?_
    refine q_ial (m := 4 * a + b) rfl (⟨by decide, Nat.lt_of_lt_of_le (by decide) hK.1, rfl⟩) (by omega) (rfl) ?_
    refine q_one rfl rfl ?_
    show ((I 206 (4 * a + b)) = 0 → q_W L (d + 4) 111 q_m111 Q 31 [some (.ref 192), some (.int (nI a)), some (.int (nI b)), some (.long z), none, none, none, none] [] (n, I, J, R) 0 0) ∧ (¬ (I 206 (4 * a + b)) = 0 → q_W L (d + 4) 111 q_m111 Q 22 [some (.ref 192), some (.int (nI a)), some (.int (nI b)), some (.long z), none, none, none, none] [] (n, I, J, R) 0 0)
    refine ⟨fun h19 => ?_, fun h19 => ?_⟩
    · skip
      refine q_k 1 ?_
      show q_W L (d + 4) 111 q_m111 Q 32 [some (.ref 192), some (.int (nI a)), some (.int (nI b)), some (.long z), none, none, none, none] [.int (-1)] (n, I, J, R) 0 0
      refine q_one rfl rfl ?_
      show Q (some (.int (-1))) (n, I, J, R)
      simp only [f_send, if_neg h6, g_cl (show a < 10000 by omega), g_cl (show b < 10000 by omega), if_pos h19] at hQ
      exact hQ I (q_ms_rf I) (q_mf_rf I)
    · skip
      refine q_k 1 ?_
      show q_W L (d + 4) 111 q_m111 Q 23 [some (.ref 192), some (.int (nI a)), some (.int (nI b)), some (.long z), none, none, none, none] [.ref 192] (n, I, J, R) 0 0
      refine q_gI rfl rfl (⟨Nat.lt_of_lt_of_le (by decide) hK.1, rfl⟩) ?_
      refine q_k 1 ?_
      show q_W L (d + 4) 111 q_m111 Q 28 [some (.ref 192), some (.int (nI a)), some (.int (nI b)), some (.long z), none, none, none, none] [.int (nI 60), .int (I 192 16)] (n, I, J, R) 0 0
      refine q_one rfl rfl ?_
      show (¬ (I 192 16) = (nI 60) → q_W L (d + 4) 111 q_m111 Q 33 [some (.ref 192), some (.int (nI a)), some (.int (nI b)), some (.long z), none, none, none, none] [] (n, I, J, R) 0 0) ∧ ((I 192 16) = (nI 60) → q_W L (d + 4) 111 q_m111 Q 31 [some (.ref 192), some (.int (nI a)), some (.int (nI b)), some (.long z), none, none, none, none] [] (n, I, J, R) 0 0)
      refine ⟨fun h28 => ?_, fun h28 => ?_⟩
      · skip
        have hE60 : E < 60 := by rcases Nat.lt_or_ge E 60 with h | h; exact h; exact absurd (show nI E = nI 60 by congr 1; omega) (hE ▸ h28)
        simp only [f_send, if_neg h6, g_cl (show a < 10000 by omega), g_cl (show b < 10000 by omega), if_neg h19, if_neg h28] at hQ
        rw [hE, g_cl (show E < 10000 by omega)] at hQ
        obtain ⟨r, er⟩ : ∃ y, y = f_blk I (4 * a + b) 0 := ⟨_, rfl⟩
        refine q_k 3 ?_
        show q_W L (d + 4) 111 q_m111 Q 36 [some (.ref 192), some (.int (nI a)), some (.int (nI b)), some (.long z), none, none, none, none] [.int ((nI 4) * (nI a))] (n, I, J, R) 0 0
        refine q_top (w := nI (4 * a)) (pk_mul _ _) ?_
        refine q_k 2 ?_
        show q_W L (d + 4) 111 q_m111 Q 38 [some (.ref 192), some (.int (nI a)), some (.int (nI b)), some (.long z), none, none, none, none] [.int ((nI (4 * a)) + (nI b))] (n, I, J, R) 0 0
        refine q_top (w := nI (4 * a + b)) (nI_add _ _) ?_
        refine q_k 4 ?_
        show q_W L (d + 4) 111 q_m111 Q 44 [some (.ref 192), some (.int (nI a)), some (.int (nI b)), some (.long z), none, some (.int (nI (4 * a + b))), none, none] [.int (nI 0), .int (nI (4 * a + b)), .ref 192] (n, I, J, R) 0 0
        refine q_cv (as := [.int (nI (4 * a + b)), .int (nI 0)]) (rs := []) rfl rfl rfl (⟨Nat.lt_of_lt_of_le (by decide) hK.1, rfl⟩) rfl rfl ?_
        refine m_load (hK) (by omega) (by decide) (fun I1 a1 b1 f1 => ?_)
        have hr : ∀ i, i < 158 → I1 207 i = r i := fun i hi => by rw [a1 i hi, er]; rfl
        show q_W L (d + 4) 111 q_m111 Q 47 [some (.ref 192), some (.int (nI a)), some (.int (nI b)), some (.long z), none, some (.int (nI (4 * a + b))), none, none] [] (n, I1, J, R) 0 0
        refine q_k 2 ?_
        show q_W L (d + 4) 111 q_m111 Q 50 [some (.ref 192), some (.int (nI a)), some (.int (nI b)), some (.long z), none, some (.int (nI (4 * a + b))), none, none] [.ref 192, .int (nI 12)] (n, I1, J, R) 0 0
        refine q_gI rfl rfl (⟨Nat.lt_of_lt_of_le (by decide) hK.1, rfl⟩) ?_
        refine q_top (w := nI E) (by rw [f1 192 (by decide)]; exact hE) ?_
        refine q_k 1 ?_
        show q_W L (d + 4) 111 q_m111 Q 54 [some (.ref 192), some (.int (nI a)), some (.int (nI b)), some (.long z), none, some (.int (nI (4 * a + b))), none, none] [.int ((nI 12) * (nI E))] (n, I1, J, R) 0 0
        refine q_top (w := nI (12 * E)) (pk_mul _ _) ?_
        refine q_k 3 ?_
        show q_W L (d + 4) 111 q_m111 Q 59 [some (.ref 192), some (.int (nI a)), some (.int (nI b)), some (.long z), none, some (.int (nI (4 * a + b))), some (.int (nI (12 * E))), some (.int (nI 0))] [] (n, I1, J, R) 0 0
        refine q_loop (σ := q_L) 12 (fun y J2 => (∀ j, J2 208 j = if 12 * E ≤ j ∧ j < 12 * E + y then lN 0 else J 208 j) ∧ ∀ x, x ≠ 208 → J2 x = J x) (fun y J2 => q_W L (d + 4) 111 q_m111 Q 59 [some (.ref 192), some (.int (nI a)), some (.int (nI b)), some (.long z), none, some (.int (nI (4 * a + b))), some (.int (nI (12 * E))), some (.int (nI y))] [] (n, I1, J2, R) 0 0) ?_ ?_ 0 J (Nat.zero_le _) ?_
        · intro J2 hJ2
          show q_W L (d + 4) 111 q_m111 Q 59 [some (.ref 192), some (.int (nI a)), some (.int (nI b)), some (.long z), none, some (.int (nI (4 * a + b))), some (.int (nI (12 * E))), some (.int (nI 12))] [] (n, I1, J2, R) 0 0
          refine q_k 2 ?_
          show q_W L (d + 4) 111 q_m111 Q 63 [some (.ref 192), some (.int (nI a)), some (.int (nI b)), some (.long z), none, some (.int (nI (4 * a + b))), some (.int (nI (12 * E))), some (.int (nI 12))] [.int (nI 12), .int (nI 12)] (n, I1, J2, R) 0 0
          refine q_one rfl rfl ?_
          show ((nI 12) ≤ (nI 12) → q_W L (d + 4) 111 q_m111 Q 83 [some (.ref 192), some (.int (nI a)), some (.int (nI b)), some (.long z), none, some (.int (nI (4 * a + b))), some (.int (nI (12 * E))), some (.int (nI 12))] [] (n, I1, J2, R) 0 0) ∧ (¬ (nI 12) ≤ (nI 12) → q_W L (d + 4) 111 q_m111 Q 66 [some (.ref 192), some (.int (nI a)), some (.int (nI b)), some (.long z), none, some (.int (nI (4 * a + b))), some (.int (nI (12 * E))), some (.int (nI 12))] [] (n, I1, J2, R) 0 0)
          refine ⟨fun _ => ?_, fun z => absurd (nI_le (Nat.le_refl _) (by decide)) z⟩
          refine q_k 1 ?_
          show q_W L (d + 4) 111 q_m111 Q 84 [some (.ref 192), some (.int (nI a)), some (.int (nI b)), some (.long z), none, some (.int (nI (4 * a + b))), some (.int (nI (12 * E))), some (.int (nI 12))] [.ref 192] (n, I1, J2, R) 0 0
          refine q_gR (b := 208) rfl rfl (⟨Nat.lt_of_lt_of_le (by decide) hK.1, rfl⟩) (hK.2.1 192 15 208 rfl) ?_
          refine q_k 3 ?_
          show q_W L (d + 4) 111 q_m111 Q 91 [some (.ref 192), some (.int (nI a)), some (.int (nI b)), some (.long z), none, some (.int (nI (4 * a + b))), some (.int (nI (12 * E))), some (.int (nI 12))] [.long ((nI a).toInt64), .int (nI (12 * E)), .ref 208] (n, I1, J2, R) 0 0
          refine q_las (m := 12 * E) rfl (⟨by decide, Nat.lt_of_lt_of_le (by decide) hK.1, rfl⟩) (by omega) (rfl) ?_
          refine q_k 1 ?_
          show q_W L (d + 4) 111 q_m111 Q 93 [some (.ref 192), some (.int (nI a)), some (.int (nI b)), some (.long z), none, some (.int (nI (4 * a + b))), some (.int (nI (12 * E))), some (.int (nI 12))] [.ref 192] (n, I1, q_up J2 208 (12 * E) ((nI a).toInt64), R) 0 0
          refine q_gR (b := 208) rfl rfl (⟨Nat.lt_of_lt_of_le (by decide) hK.1, rfl⟩) (hK.2.1 192 15 208 rfl) ?_
          refine q_k 3 ?_
          show q_W L (d + 4) 111 q_m111 Q 100 [some (.ref 192), some (.int (nI a)), some (.int (nI b)), some (.long z), none, some (.int (nI (4 * a + b))), some (.int (nI (12 * E))), some (.int (nI 12))] [.int ((nI (12 * E)) + (nI 1)), .ref 208] (n, I1, q_up J2 208 (12 * E) ((nI a).toInt64), R) 0 0
          refine q_top (w := nI (12 * E + 1)) (nI_add _ _) ?_
          refine q_k 2 ?_
          show q_W L (d + 4) 111 q_m111 Q 102 [some (.ref 192), some (.int (nI a)), some (.int (nI b)), some (.long z), none, some (.int (nI (4 * a + b))), some (.int (nI (12 * E))), some (.int (nI 12))] [.long ((nI b).toInt64), .int (nI (12 * E + 1)), .ref 208] (n, I1, q_up J2 208 (12 * E) ((nI a).toInt64), R) 0 0
          refine q_las (m := 12 * E + 1) rfl (⟨by decide, Nat.lt_of_lt_of_le (by decide) hK.1, rfl⟩) (by omega) (rfl) ?_
          refine q_k 1 ?_
          show q_W L (d + 4) 111 q_m111 Q 104 [some (.ref 192), some (.int (nI a)), some (.int (nI b)), some (.long z), none, some (.int (nI (4 * a + b))), some (.int (nI (12 * E))), some (.int (nI 12))] [.ref 192] (n, I1, q_up (q_up J2 208 (12 * E) ((nI a).toInt64)) 208 (12 * E + 1) ((nI b).toInt64), R) 0 0
          refine q_gR (b := 207) rfl rfl (⟨Nat.lt_of_lt_of_le (by decide) hK.1, rfl⟩) (hK.2.1 192 14 207 rfl) ?_
          refine q_k 1 ?_
          show q_W L (d + 4) 111 q_m111 Q 109 [some (.ref 192), some (.int (nI a)), some (.int (nI b)), some (.long z), none, some (.int (nI (4 * a + b))), some (.int (nI (12 * E))), some (.int (nI 12))] [.int (nI 10), .ref 207] (n, I1, q_up (q_up J2 208 (12 * E) ((nI a).toInt64)) 208 (12 * E + 1) ((nI b).toInt64), R) 0 0
          refine q_ial (m := 10) rfl (⟨by decide, Nat.lt_of_lt_of_le (by decide) hK.1, rfl⟩) (by decide) (rfl) ?_
          refine q_top (w := r 10) (hr 10 (by decide)) ?_
          refine q_k 1 ?_
          show q_W L (d + 4) 111 q_m111 Q 111 [some (.ref 192), some (.int (nI a)), some (.int (nI b)), some (.long z), none, some (.int (nI (4 * a + b))), some (.int (nI (12 * E))), some (.int (nI 12))] [.int (nI 1), .int (r 10)] (n, I1, q_up (q_up J2 208 (12 * E) ((nI a).toInt64)) 208 (12 * E + 1) ((nI b).toInt64), R) 0 0
          refine q_one rfl rfl ?_
          show (¬ (r 10) = (nI 1) → q_W L (d + 4) 111 q_m111 Q 128 [some (.ref 192), some (.int (nI a)), some (.int (nI b)), some (.long z), none, some (.int (nI (4 * a + b))), some (.int (nI (12 * E))), some (.int (nI 12))] [] (n, I1, q_up (q_up J2 208 (12 * E) ((nI a).toInt64)) 208 (12 * E + 1) ((nI b).toInt64), R) 0 0) ∧ ((r 10) = (nI 1) → q_W L (d + 4) 111 q_m111 Q 114 [some (.ref 192), some (.int (nI a)), some (.int (nI b)), some (.long z), none, some (.int (nI (4 * a + b))), some (.int (nI (12 * E))), some (.int (nI 12))] [] (n, I1, q_up (q_up J2 208 (12 * E) ((nI a).toInt64)) 208 (12 * E + 1) ((nI b).toInt64), R) 0 0)
          refine ⟨fun h111 => ?_, fun h111 => ?_⟩
          · skip
            have hun : ¬ g_un r = true := by unfold g_un; rw [decide_eq_true_eq]; exact fun q => h111 q.1
            refine q_k 3 ?_
            show q_W L (d + 4) 111 q_m111 Q 132 [some (.ref 192), some (.int (nI a)), some (.int (nI b)), some (.long z), none, some (.int (nI (4 * a + b))), some (.int (nI (12 * E))), some (.int (nI 0))] [.ref 192] (n, I1, q_up (q_up J2 208 (12 * E) ((nI a).toInt64)) 208 (12 * E + 1) ((nI b).toInt64), R) 0 0
            refine q_gR (b := 208) rfl rfl (⟨Nat.lt_of_lt_of_le (by decide) hK.1, rfl⟩) (hK.2.1 192 15 208 rfl) ?_
            refine q_k 3 ?_
            show q_W L (d + 4) 111 q_m111 Q 139 [some (.ref 192), some (.int (nI a)), some (.int (nI b)), some (.long z), none, some (.int (nI (4 * a + b))), some (.int (nI (12 * E))), some (.int (nI 0))] [.int ((nI (12 * E)) + (nI 2)), .ref 208] (n, I1, q_up (q_up J2 208 (12 * E) ((nI a).toInt64)) 208 (12 * E + 1) ((nI b).toInt64), R) 0 0
            refine q_top (w := nI (12 * E + 2)) (nI_add _ _) ?_
            refine q_k 1 ?_
            show q_W L (d + 4) 111 q_m111 Q 141 [some (.ref 192), some (.int (nI a)), some (.int (nI b)), some (.long z), none, some (.int (nI (4 * a + b))), some (.int (nI (12 * E))), some (.int (nI 0))] [.int (nI 0), .int (nI (12 * E + 2)), .ref 208] (n, I1, q_up (q_up J2 208 (12 * E) ((nI a).toInt64)) 208 (12 * E + 1) ((nI b).toInt64), R) 0 0
            refine q_one rfl rfl ?_
            show ((nI 0) = 0 → q_W L (d + 4) 111 q_m111 Q 148 [some (.ref 192), some (.int (nI a)), some (.int (nI b)), some (.long z), none, some (.int (nI (4 * a + b))), some (.int (nI (12 * E))), some (.int (nI 0))] [.int (nI (12 * E + 2)), .ref 208] (n, I1, q_up (q_up J2 208 (12 * E) ((nI a).toInt64)) 208 (12 * E + 1) ((nI b).toInt64), R) 0 0) ∧ (¬ (nI 0) = 0 → q_W L (d + 4) 111 q_m111 Q 144 [some (.ref 192), some (.int (nI a)), some (.int (nI b)), some (.long z), none, some (.int (nI (4 * a + b))), some (.int (nI (12 * E))), some (.int (nI 0))] [.int (nI (12 * E + 2)), .ref 208] (n, I1, q_up (q_up J2 208 (12 * E) ((nI a).toInt64)) 208 (12 * E + 1) ((nI b).toInt64), R) 0 0)
            refine ⟨fun _ => ?_, fun z => absurd (by decide) z⟩
            refine q_k 1 ?_
            show q_W L (d + 4) 111 q_m111 Q 149 [some (.ref 192), some (.int (nI a)), some (.int (nI b)), some (.long z), none, some (.int (nI (4 * a + b))), some (.int (nI (12 * E))), some (.int (nI 0))] [.long (lN 1), .int (nI (12 * E + 2)), .ref 208] (n, I1, q_up (q_up J2 208 (12 * E) ((nI a).toInt64)) 208 (12 * E + 1) ((nI b).toInt64), R) 0 0
            refine q_las (m := 12 * E + 2) rfl (⟨by decide, Nat.lt_of_lt_of_le (by decide) hK.1, rfl⟩) (by omega) (rfl) ?_
            refine q_k 1 ?_
            show q_W L (d + 4) 111 q_m111 Q 152 [some (.ref 192), some (.int (nI a)), some (.int (nI b)), some (.long z), none, some (.int (nI (4 * a + b))), some (.int (nI (12 * E))), some (.int (nI 0))] [.int (nI 0)] (n, I1, q_up (q_up (q_up J2 208 (12 * E) ((nI a).toInt64)) 208 (12 * E + 1) ((nI b).toInt64)) 208 (12 * E + 2) (lN 1), R) 0 0
            refine q_one rfl rfl ?_
            show ((nI 0) = 0 → q_W L (d + 4) 111 q_m111 Q 226 [some (.ref 192), some (.int (nI a)), some (.int (nI b)), some (.long z), none, some (.int (nI (4 * a + b))), some (.int (nI (12 * E))), some (.int (nI 0))] [] (n, I1, q_up (q_up (q_up J2 208 (12 * E) ((nI a).toInt64)) 208 (12 * E + 1) ((nI b).toInt64)) 208 (12 * E + 2) (lN 1), R) 0 0) ∧ (¬ (nI 0) = 0 → q_W L (d + 4) 111 q_m111 Q 155 [some (.ref 192), some (.int (nI a)), some (.int (nI b)), some (.long z), none, some (.int (nI (4 * a + b))), some (.int (nI (12 * E))), some (.int (nI 0))] [] (n, I1, q_up (q_up (q_up J2 208 (12 * E) ((nI a).toInt64)) 208 (12 * E + 1) ((nI b).toInt64)) 208 (12 * E + 2) (lN 1), R) 0 0)
            refine ⟨fun _ => ?_, fun z => absurd (by decide) z⟩
            refine q_k 1 ?_
            show q_W L (d + 4) 111 q_m111 Q 227 [some (.ref 192), some (.int (nI a)), some (.int (nI b)), some (.long z), none, some (.int (nI (4 * a + b))), some (.int (nI (12 * E))), some (.int (nI 0))] [.ref 192] (n, I1, q_up (q_up (q_up J2 208 (12 * E) ((nI a).toInt64)) 208 (12 * E + 1) ((nI b).toInt64)) 208 (12 * E + 2) (lN 1), R) 0 0
            refine q_gR (b := 208) rfl rfl (⟨Nat.lt_of_lt_of_le (by decide) hK.1, rfl⟩) (hK.2.1 192 15 208 rfl) ?_
            refine q_k 3 ?_
            show q_W L (d + 4) 111 q_m111 Q 235 [some (.ref 192), some (.int (nI a)), some (.int (nI b)), some (.long z), none, some (.int (nI (4 * a + b))), some (.int (nI (12 * E))), some (.int (nI 0))] [.int ((nI (12 * E)) + (nI 7)), .ref 208] (n, I1, q_up (q_up (q_up J2 208 (12 * E) ((nI a).toInt64)) 208 (12 * E + 1) ((nI b).toInt64)) 208 (12 * E + 2) (lN 1), R) 0 0
            refine q_top (w := nI (12 * E + 7)) (nI_add _ _) ?_
            refine q_k 1 ?_
            show q_W L (d + 4) 111 q_m111 Q 236 [some (.ref 192), some (.int (nI a)), some (.int (nI b)), some (.long z), none, some (.int (nI (4 * a + b))), some (.int (nI (12 * E))), some (.int (nI 0))] [.ref 192, .int (nI (12 * E + 7)), .ref 208] (n, I1, q_up (q_up (q_up J2 208 (12 * E) ((nI a).toInt64)) 208 (12 * E + 1) ((nI b).toInt64)) 208 (12 * E + 2) (lN 1), R) 0 0
            refine q_gR (b := 207) rfl rfl (⟨Nat.lt_of_lt_of_le (by decide) hK.1, rfl⟩) (hK.2.1 192 14 207 rfl) ?_
            refine q_k 1 ?_
            show q_W L (d + 4) 111 q_m111 Q 240 [some (.ref 192), some (.int (nI a)), some (.int (nI b)), some (.long z), none, some (.int (nI (4 * a + b))), some (.int (nI (12 * E))), some (.int (nI 0))] [.int (nI 3), .ref 207, .int (nI (12 * E + 7)), .ref 208] (n, I1, q_up (q_up (q_up J2 208 (12 * E) ((nI a).toInt64)) 208 (12 * E + 1) ((nI b).toInt64)) 208 (12 * E + 2) (lN 1), R) 0 0
            refine q_ial (m := 3) rfl (⟨by decide, Nat.lt_of_lt_of_le (by decide) hK.1, rfl⟩) (by decide) (rfl) ?_
            refine q_top (w := r 3) (hr 3 (by decide)) ?_
            refine q_k 1 ?_
            show q_W L (d + 4) 111 q_m111 Q 242 [some (.ref 192), some (.int (nI a)), some (.int (nI b)), some (.long z), none, some (.int (nI (4 * a + b))), some (.int (nI (12 * E))), some (.int (nI 0))] [.long ((r 3).toInt64), .int (nI (12 * E + 7)), .ref 208] (n, I1, q_up (q_up (q_up J2 208 (12 * E) ((nI a).toInt64)) 208 (12 * E + 1) ((nI b).toInt64)) 208 (12 * E + 2) (lN 1), R) 0 0
            refine q_las (m := 12 * E + 7) rfl (⟨by decide, Nat.lt_of_lt_of_le (by decide) hK.1, rfl⟩) (by omega) (rfl) ?_
            refine q_k 1 ?_
            show q_W L (d + 4) 111 q_m111 Q 244 [some (.ref 192), some (.int (nI a)), some (.int (nI b)), some (.long z), none, some (.int (nI (4 * a + b))), some (.int (nI (12 * E))), some (.int (nI 0))] [.ref 192] (n, I1, q_up (q_up (q_up (q_up J2 208 (12 * E) ((nI a).toInt64)) 208 (12 * E + 1) ((nI b).toInt64)) 208 (12 * E + 2) (lN 1)) 208 (12 * E + 7) ((r 3).toInt64), R) 0 0
            refine q_gR (b := 208) rfl rfl (⟨Nat.lt_of_lt_of_le (by decide) hK.1, rfl⟩) (hK.2.1 192 15 208 rfl) ?_
            refine q_k 3 ?_
            show q_W L (d + 4) 111 q_m111 Q 252 [some (.ref 192), some (.int (nI a)), some (.int (nI b)), some (.long z), none, some (.int (nI (4 * a + b))), some (.int (nI (12 * E))), some (.int (nI 0))] [.int ((nI (12 * E)) + (nI 8)), .ref 208] (n, I1, q_up (q_up (q_up (q_up J2 208 (12 * E) ((nI a).toInt64)) 208 (12 * E + 1) ((nI b).toInt64)) 208 (12 * E + 2) (lN 1)) 208 (12 * E + 7) ((r 3).toInt64), R) 0 0
            refine q_top (w := nI (12 * E + 8)) (nI_add _ _) ?_
            refine q_k 1 ?_
            show q_W L (d + 4) 111 q_m111 Q 253 [some (.ref 192), some (.int (nI a)), some (.int (nI b)), some (.long z), none, some (.int (nI (4 * a + b))), some (.int (nI (12 * E))), some (.int (nI 0))] [.ref 192, .int (nI (12 * E + 8)), .ref 208] (n, I1, q_up (q_up (q_up (q_up J2 208 (12 * E) ((nI a).toInt64)) 208 (12 * E + 1) ((nI b).toInt64)) 208 (12 * E + 2) (lN 1)) 208 (12 * E + 7) ((r 3).toInt64), R) 0 0
            refine q_gR (b := 207) rfl rfl (⟨Nat.lt_of_lt_of_le (by decide) hK.1, rfl⟩) (hK.2.1 192 14 207 rfl) ?_
            refine q_k 1 ?_
            show q_W L (d + 4) 111 q_m111 Q 258 [some (.ref 192), some (.int (nI a)), some (.int (nI b)), some (.long z), none, some (.int (nI (4 * a + b))), some (.int (nI (12 * E))), some (.int (nI 0))] [.int (nI 6), .ref 207, .int (nI (12 * E + 8)), .ref 208] (n, I1, q_up (q_up (q_up (q_up J2 208 (12 * E) ((nI a).toInt64)) 208 (12 * E + 1) ((nI b).toInt64)) 208 (12 * E + 2) (lN 1)) 208 (12 * E + 7) ((r 3).toInt64), R) 0 0
            refine q_ial (m := 6) rfl (⟨by decide, Nat.lt_of_lt_of_le (by decide) hK.1, rfl⟩) (by decide) (rfl) ?_
            refine q_top (w := r 6) (hr 6 (by decide)) ?_
            refine q_k 1 ?_
            show q_W L (d + 4) 111 q_m111 Q 260 [some (.ref 192), some (.int (nI a)), some (.int (nI b)), some (.long z), none, some (.int (nI (4 * a + b))), some (.int (nI (12 * E))), some (.int (nI 0))] [.long ((r 6).toInt64), .int (nI (12 * E + 8)), .ref 208] (n, I1, q_up (q_up (q_up (q_up J2 208 (12 * E) ((nI a).toInt64)) 208 (12 * E + 1) ((nI b).toInt64)) 208 (12 * E + 2) (lN 1)) 208 (12 * E + 7) ((r 3).toInt64), R) 0 0
            refine q_las (m := 12 * E + 8) rfl (⟨by decide, Nat.lt_of_lt_of_le (by decide) hK.1, rfl⟩) (by omega) (rfl) ?_
            refine q_k 1 ?_
            show q_W L (d + 4) 111 q_m111 Q 262 [some (.ref 192), some (.int (nI a)), some (.int (nI b)), some (.long z), none, some (.int (nI (4 * a + b))), some (.int (nI (12 * E))), some (.int (nI 0))] [.ref 192] (n, I1, q_up (q_up (q_up (q_up (q_up J2 208 (12 * E) ((nI a).toInt64)) 208 (12 * E + 1) ((nI b).toInt64)) 208 (12 * E + 2) (lN 1)) 208 (12 * E + 7) ((r 3).toInt64)) 208 (12 * E + 8) ((r 6).toInt64), R) 0 0
            refine q_gR (b := 208) rfl rfl (⟨Nat.lt_of_lt_of_le (by decide) hK.1, rfl⟩) (hK.2.1 192 15 208 rfl) ?_
            refine q_k 3 ?_
            show q_W L (d + 4) 111 q_m111 Q 270 [some (.ref 192), some (.int (nI a)), some (.int (nI b)), some (.long z), none, some (.int (nI (4 * a + b))), some (.int (nI (12 * E))), some (.int (nI 0))] [.int ((nI (12 * E)) + (nI 9)), .ref 208] (n, I1, q_up (q_up (q_up (q_up (q_up J2 208 (12 * E) ((nI a).toInt64)) 208 (12 * E + 1) ((nI b).toInt64)) 208 (12 * E + 2) (lN 1)) 208 (12 * E + 7) ((r 3).toInt64)) 208 (12 * E + 8) ((r 6).toInt64), R) 0 0
            refine q_top (w := nI (12 * E + 9)) (nI_add _ _) ?_
            refine q_k 1 ?_
            show q_W L (d + 4) 111 q_m111 Q 271 [some (.ref 192), some (.int (nI a)), some (.int (nI b)), some (.long z), none, some (.int (nI (4 * a + b))), some (.int (nI (12 * E))), some (.int (nI 0))] [.ref 192, .int (nI (12 * E + 9)), .ref 208] (n, I1, q_up (q_up (q_up (q_up (q_up J2 208 (12 * E) ((nI a).toInt64)) 208 (12 * E + 1) ((nI b).toInt64)) 208 (12 * E + 2) (lN 1)) 208 (12 * E + 7) ((r 3).toInt64)) 208 (12 * E + 8) ((r 6).toInt64), R) 0 0
            refine q_gR (b := 207) rfl rfl (⟨Nat.lt_of_lt_of_le (by decide) hK.1, rfl⟩) (hK.2.1 192 14 207 rfl) ?_
            refine q_k 1 ?_
            show q_W L (d + 4) 111 q_m111 Q 276 [some (.ref 192), some (.int (nI a)), some (.int (nI b)), some (.long z), none, some (.int (nI (4 * a + b))), some (.int (nI (12 * E))), some (.int (nI 0))] [.int (nI 8), .ref 207, .int (nI (12 * E + 9)), .ref 208] (n, I1, q_up (q_up (q_up (q_up (q_up J2 208 (12 * E) ((nI a).toInt64)) 208 (12 * E + 1) ((nI b).toInt64)) 208 (12 * E + 2) (lN 1)) 208 (12 * E + 7) ((r 3).toInt64)) 208 (12 * E + 8) ((r 6).toInt64), R) 0 0
            refine q_ial (m := 8) rfl (⟨by decide, Nat.lt_of_lt_of_le (by decide) hK.1, rfl⟩) (by decide) (rfl) ?_
            refine q_top (w := r 8) (hr 8 (by decide)) ?_
            refine q_k 1 ?_
            show q_W L (d + 4) 111 q_m111 Q 278 [some (.ref 192), some (.int (nI a)), some (.int (nI b)), some (.long z), none, some (.int (nI (4 * a + b))), some (.int (nI (12 * E))), some (.int (nI 0))] [.long ((r 8).toInt64), .int (nI (12 * E + 9)), .ref 208] (n, I1, q_up (q_up (q_up (q_up (q_up J2 208 (12 * E) ((nI a).toInt64)) 208 (12 * E + 1) ((nI b).toInt64)) 208 (12 * E + 2) (lN 1)) 208 (12 * E + 7) ((r 3).toInt64)) 208 (12 * E + 8) ((r 6).toInt64), R) 0 0
            refine q_las (m := 12 * E + 9) rfl (⟨by decide, Nat.lt_of_lt_of_le (by decide) hK.1, rfl⟩) (by omega) (rfl) ?_
            refine q_k 2 ?_
            show q_W L (d + 4) 111 q_m111 Q 282 [some (.ref 192), some (.int (nI a)), some (.int (nI b)), some (.long z), none, some (.int (nI (4 * a + b))), some (.int (nI (12 * E))), some (.int (nI 0))] [.int (nI 22), .ref 192] (n, I1, q_up (q_up (q_up (q_up (q_up (q_up J2 208 (12 * E) ((nI a).toInt64)) 208 (12 * E + 1) ((nI b).toInt64)) 208 (12 * E + 2) (lN 1)) 208 (12 * E + 7) ((r 3).toInt64)) 208 (12 * E + 8) ((r 6).toInt64)) 208 (12 * E + 9) ((r 8).toInt64), R) 0 0
            refine q_cv (as := [.int (nI 22)]) (rs := []) rfl rfl rfl (⟨Nat.lt_of_lt_of_le (by decide) hK.1, rfl⟩) rfl rfl ?_
            refine m_take (q_K0_to hK (f1 0 (by decide)) (f1 1 (by decide))) (by decide) (fun I2 a2 b2 g2 f2 => ?_)
            show q_W L (d + 4) 111 q_m111 Q 285 [some (.ref 192), some (.int (nI a)), some (.int (nI b)), some (.long z), none, some (.int (nI (4 * a + b))), some (.int (nI (12 * E))), some (.int (nI 0))] [] (n, I2, q_up (q_up (q_up (q_up (q_up (q_up J2 208 (12 * E) ((nI a).toInt64)) 208 (12 * E + 1) ((nI b).toInt64)) 208 (12 * E + 2) (lN 1)) 208 (12 * E + 7) ((r 3).toInt64)) 208 (12 * E + 8) ((r 6).toInt64)) 208 (12 * E + 9) ((r 8).toInt64), R) 0 0
            refine q_k 1 ?_
            show q_W L (d + 4) 111 q_m111 Q 286 [some (.ref 192), some (.int (nI a)), some (.int (nI b)), some (.long z), none, some (.int (nI (4 * a + b))), some (.int (nI (12 * E))), some (.int (nI 0))] [.ref 192] (n, I2, q_up (q_up (q_up (q_up (q_up (q_up J2 208 (12 * E) ((nI a).toInt64)) 208 (12 * E + 1) ((nI b).toInt64)) 208 (12 * E + 2) (lN 1)) 208 (12 * E + 7) ((r 3).toInt64)) 208 (12 * E + 8) ((r 6).toInt64)) 208 (12 * E + 9) ((r 8).toInt64), R) 0 0
            refine q_gR (b := 208) rfl rfl (⟨Nat.lt_of_lt_of_le (by decide) hK.1, rfl⟩) (hK.2.1 192 15 208 rfl) ?_
            refine q_k 3 ?_
            show q_W L (d + 4) 111 q_m111 Q 294 [some (.ref 192), some (.int (nI a)), some (.int (nI b)), some (.long z), none, some (.int (nI (4 * a + b))), some (.int (nI (12 * E))), some (.int (nI 0))] [.int ((nI (12 * E)) + (nI 10)), .ref 208] (n, I2, q_up (q_up (q_up (q_up (q_up (q_up J2 208 (12 * E) ((nI a).toInt64)) 208 (12 * E + 1) ((nI b).toInt64)) 208 (12 * E + 2) (lN 1)) 208 (12 * E + 7) ((r 3).toInt64)) 208 (12 * E + 8) ((r 6).toInt64)) 208 (12 * E + 9) ((r 8).toInt64), R) 0 0
            refine q_top (w := nI (12 * E + 10)) (nI_add _ _) ?_
            refine q_k 2 ?_
            show q_W L (d + 4) 111 q_m111 Q 296 [some (.ref 192), some (.int (nI a)), some (.int (nI b)), some (.long z), none, some (.int (nI (4 * a + b))), some (.int (nI (12 * E))), some (.int (nI 0))] [.ref 192, .long z, .int (nI (12 * E + 10)), .ref 208] (n, I2, q_up (q_up (q_up (q_up (q_up (q_up J2 208 (12 * E) ((nI a).toInt64)) 208 (12 * E + 1) ((nI b).toInt64)) 208 (12 * E + 2) (lN 1)) 208 (12 * E + 7) ((r 3).toInt64)) 208 (12 * E + 8) ((r 6).toInt64)) 208 (12 * E + 9) ((r 8).toInt64), R) 0 0
            refine q_cv (as := []) (rs := [.long z, .int (nI (12 * E + 10)), .ref 208]) rfl rfl rfl (⟨Nat.lt_of_lt_of_le (by decide) hK.1, rfl⟩) rfl rfl ?_
            refine m_mask (q_K0_to hK (by rw [f2 0 (by decide) (by decide) (by decide) (by decide) (by decide), f1 0 (by decide)]) (by rw [f2 1 (by decide) (by decide) (by decide) (by decide) (by decide), f1 1 (by decide)])) (fun I3 f3 => ?_)
            show q_W L (d + 4) 111 q_m111 Q 299 [some (.ref 192), some (.int (nI a)), some (.int (nI b)), some (.long z), none, some (.int (nI (4 * a + b))), some (.int (nI (12 * E))), some (.int (nI 0))] [.long (g_wide (I2 212) (nI 9) (nI 0) (nI 0) (nI 0)), .long z, .int (nI (12 * E + 10)), .ref 208] (n, I3, q_up (q_up (q_up (q_up (q_up (q_up J2 208 (12 * E) ((nI a).toInt64)) 208 (12 * E + 1) ((nI b).toInt64)) 208 (12 * E + 2) (lN 1)) 208 (12 * E + 7) ((r 3).toInt64)) 208 (12 * E + 8) ((r 6).toInt64)) 208 (12 * E + 9) ((r 8).toInt64), R) 0 0
            refine q_k 1 ?_
            show q_W L (d + 4) 111 q_m111 Q 300 [some (.ref 192), some (.int (nI a)), some (.int (nI b)), some (.long z), none, some (.int (nI (4 * a + b))), some (.int (nI (12 * E))), some (.int (nI 0))] [.long (z ^^^ (g_wide (I2 212) (nI 9) (nI 0) (nI 0) (nI 0))), .int (nI (12 * E + 10)), .ref 208] (n, I3, q_up (q_up (q_up (q_up (q_up (q_up J2 208 (12 * E) ((nI a).toInt64)) 208 (12 * E + 1) ((nI b).toInt64)) 208 (12 * E + 2) (lN 1)) 208 (12 * E + 7) ((r 3).toInt64)) 208 (12 * E + 8) ((r 6).toInt64)) 208 (12 * E + 9) ((r 8).toInt64), R) 0 0
            refine q_las (m := 12 * E + 10) rfl (⟨by decide, Nat.lt_of_lt_of_le (by decide) hK.1, rfl⟩) (by omega) (rfl) ?_
            obtain ⟨J3, eJ3⟩ : ∃ zz9, zz9 = q_up (q_up (q_up (q_up (q_up (q_up (q_up J2 208 (12 * E) ((nI a).toInt64)) 208 (12 * E + 1) ((nI b).toInt64)) 208 (12 * E + 2) (lN 1)) 208 (12 * E + 7) ((r 3).toInt64)) 208 (12 * E + 8) ((r 6).toInt64)) 208 (12 * E + 9) ((r 8).toInt64)) 208 (12 * E + 10) (z ^^^ (g_wide (I2 212) (nI 9) (nI 0) (nI 0) (nI 0))) := ⟨_, rfl⟩
            rw [← eJ3]
            refine q_k 1 ?_
            show q_W L (d + 4) 111 q_m111 Q 302 [some (.ref 192), some (.int (nI a)), some (.int (nI b)), some (.long z), none, some (.int (nI (4 * a + b))), some (.int (nI (12 * E))), some (.int (nI 0))] [.ref 192] (n, I3, J3, R) 0 0
            refine q_gR (b := 208) rfl rfl (⟨Nat.lt_of_lt_of_le (by decide) hK.1, rfl⟩) (hK.2.1 192 15 208 rfl) ?_
            refine q_k 3 ?_
            show q_W L (d + 4) 111 q_m111 Q 310 [some (.ref 192), some (.int (nI a)), some (.int (nI b)), some (.long z), none, some (.int (nI (4 * a + b))), some (.int (nI (12 * E))), some (.int (nI 0))] [.int ((nI (12 * E)) + (nI 11)), .ref 208] (n, I3, J3, R) 0 0
            refine q_top (w := nI (12 * E + 11)) (nI_add _ _) ?_
            refine q_k 2 ?_
            show q_W L (d + 4) 111 q_m111 Q 312 [some (.ref 192), some (.int (nI a)), some (.int (nI b)), some (.long z), none, some (.int (nI (4 * a + b))), some (.int (nI (12 * E))), some (.int (nI 0))] [.ref 192, .ref 192, .int (nI (12 * E + 11)), .ref 208] (n, I3, J3, R) 0 0
            refine q_gR (b := 207) rfl rfl (⟨Nat.lt_of_lt_of_le (by decide) hK.1, rfl⟩) (hK.2.1 192 14 207 rfl) ?_
            refine q_k 1 ?_
            show q_W L (d + 4) 111 q_m111 Q 316 [some (.ref 192), some (.int (nI a)), some (.int (nI b)), some (.long z), none, some (.int (nI (4 * a + b))), some (.int (nI (12 * E))), some (.int (nI 0))] [.int (nI 3), .ref 207, .ref 192, .int (nI (12 * E + 11)), .ref 208] (n, I3, J3, R) 0 0
            refine q_ial (m := 3) rfl (⟨by decide, Nat.lt_of_lt_of_le (by decide) hK.1, rfl⟩) (by decide) (rfl) ?_
            refine q_top (w := r 3) (by rw [f3 207 (by decide) (by decide) (by decide), g2 3 (by decide)]; exact hr 3 (by decide)) ?_
            refine q_k 1 ?_
            show q_W L (d + 4) 111 q_m111 Q 318 [some (.ref 192), some (.int (nI a)), some (.int (nI b)), some (.long z), none, some (.int (nI (4 * a + b))), some (.int (nI (12 * E))), some (.int (nI 0))] [.ref 192, .int (r 3), .ref 192, .int (nI (12 * E + 11)), .ref 208] (n, I3, J3, R) 0 0
            refine q_gR (b := 207) rfl rfl (⟨Nat.lt_of_lt_of_le (by decide) hK.1, rfl⟩) (hK.2.1 192 14 207 rfl) ?_
            refine q_k 1 ?_
            show q_W L (d + 4) 111 q_m111 Q 323 [some (.ref 192), some (.int (nI a)), some (.int (nI b)), some (.long z), none, some (.int (nI (4 * a + b))), some (.int (nI (12 * E))), some (.int (nI 0))] [.int (nI 6), .ref 207, .int (r 3), .ref 192, .int (nI (12 * E + 11)), .ref 208] (n, I3, J3, R) 0 0
            refine q_ial (m := 6) rfl (⟨by decide, Nat.lt_of_lt_of_le (by decide) hK.1, rfl⟩) (by decide) (rfl) ?_
            refine q_top (w := r 6) (by rw [f3 207 (by decide) (by decide) (by decide), g2 6 (by decide)]; exact hr 6 (by decide)) ?_
            refine q_k 1 ?_
            show q_W L (d + 4) 111 q_m111 Q 325 [some (.ref 192), some (.int (nI a)), some (.int (nI b)), some (.long z), none, some (.int (nI (4 * a + b))), some (.int (nI (12 * E))), some (.int (nI 0))] [.ref 192, .int (r 6), .int (r 3), .ref 192, .int (nI (12 * E + 11)), .ref 208] (n, I3, J3, R) 0 0
            refine q_gR (b := 207) rfl rfl (⟨Nat.lt_of_lt_of_le (by decide) hK.1, rfl⟩) (hK.2.1 192 14 207 rfl) ?_
            refine q_k 1 ?_
            show q_W L (d + 4) 111 q_m111 Q 330 [some (.ref 192), some (.int (nI a)), some (.int (nI b)), some (.long z), none, some (.int (nI (4 * a + b))), some (.int (nI (12 * E))), some (.int (nI 0))] [.int (nI 8), .ref 207, .int (r 6), .int (r 3), .ref 192, .int (nI (12 * E + 11)), .ref 208] (n, I3, J3, R) 0 0
            refine q_ial (m := 8) rfl (⟨by decide, Nat.lt_of_lt_of_le (by decide) hK.1, rfl⟩) (by decide) (rfl) ?_
            refine q_top (w := r 8) (by rw [f3 207 (by decide) (by decide) (by decide), g2 8 (by decide)]; exact hr 8 (by decide)) ?_
            refine q_k 1 ?_
            show q_W L (d + 4) 111 q_m111 Q 332 [some (.ref 192), some (.int (nI a)), some (.int (nI b)), some (.long z), none, some (.int (nI (4 * a + b))), some (.int (nI (12 * E))), some (.int (nI 0))] [.ref 192, .int (r 8), .int (r 6), .int (r 3), .ref 192, .int (nI (12 * E + 11)), .ref 208] (n, I3, J3, R) 0 0
            refine q_gR (b := 208) rfl rfl (⟨Nat.lt_of_lt_of_le (by decide) hK.1, rfl⟩) (hK.2.1 192 15 208 rfl) ?_
            refine q_k 3 ?_
            show q_W L (d + 4) 111 q_m111 Q 340 [some (.ref 192), some (.int (nI a)), some (.int (nI b)), some (.long z), none, some (.int (nI (4 * a + b))), some (.int (nI (12 * E))), some (.int (nI 0))] [.int ((nI (12 * E)) + (nI 10)), .ref 208, .int (r 8), .int (r 6), .int (r 3), .ref 192, .int (nI (12 * E + 11)), .ref 208] (n, I3, J3, R) 0 0
            refine q_top (w := nI (12 * E + 10)) (nI_add _ _) ?_
            refine q_lal (m := 12 * E + 10) rfl (⟨by decide, Nat.lt_of_lt_of_le (by decide) hK.1, rfl⟩) (by omega) (rfl) ?_
            refine q_topL (w := z ^^^ g_wide (I2 212) (nI 9) (nI 0) (nI 0) (nI 0)) (by rw [eJ3, q_usk]) ?_
            refine q_k 1 ?_
            show q_W L (d + 4) 111 q_m111 Q 342 [some (.ref 192), some (.int (nI a)), some (.int (nI b)), some (.long z), none, some (.int (nI (4 * a + b))), some (.int (nI (12 * E))), some (.int (nI 0))] [.ref 192, .long (z ^^^ g_wide (I2 212) (nI 9) (nI 0) (nI 0) (nI 0)), .int (r 8), .int (r 6), .int (r 3), .ref 192, .int (nI (12 * E + 11)), .ref 208] (n, I3, J3, R) 0 0
            refine q_gR (b := 197) rfl rfl (⟨Nat.lt_of_lt_of_le (by decide) hK.1, rfl⟩) (hK.2.1 192 4 197 rfl) ?_
            refine q_k 3 ?_
            show q_W L (d + 4) 111 q_m111 Q 348 [some (.ref 192), some (.int (nI a)), some (.int (nI b)), some (.long z), none, some (.int (nI (4 * a + b))), some (.int (nI (12 * E))), some (.int (nI 0))] [.int ((nI 2) * (nI a)), .ref 197, .long (z ^^^ g_wide (I2 212) (nI 9) (nI 0) (nI 0) (nI 0)), .int (r 8), .int (r 6), .int (r 3), .ref 192, .int (nI (12 * E + 11)), .ref 208] (n, I3, J3, R) 0 0
            refine q_top (w := nI (2 * a)) (pk_mul _ _) ?_
            refine q_k 2 ?_
            show q_W L (d + 4) 111 q_m111 Q 350 [some (.ref 192), some (.int (nI a)), some (.int (nI b)), some (.long z), none, some (.int (nI (4 * a + b))), some (.int (nI (12 * E))), some (.int (nI 0))] [.int ((nI (2 * a)) + (nI 1)), .ref 197, .long (z ^^^ g_wide (I2 212) (nI 9) (nI 0) (nI 0) (nI 0)), .int (r 8), .int (r 6), .int (r 3), .ref 192, .int (nI (12 * E + 11)), .ref 208] (n, I3, J3, R) 0 0
            refine q_top (w := nI (2 * a + 1)) (nI_add _ _) ?_
            refine q_ial (m := 2 * a + 1) rfl (⟨by decide, Nat.lt_of_lt_of_le (by decide) hK.1, rfl⟩) (by omega) (rfl) ?_
            refine q_top (w := I 197 (2 * a + 1)) (by rw [f3 197 (by decide) (by decide) (by decide), f2 197 (by decide) (by decide) (by decide) (by decide) (by decide), f1 197 (by decide)]) ?_
            refine q_k 1 ?_
            show q_W L (d + 4) 111 q_m111 Q 352 [some (.ref 192), some (.int (nI a)), some (.int (nI b)), some (.long z), none, some (.int (nI (4 * a + b))), some (.int (nI (12 * E))), some (.int (nI 0))] [.ref 192, .int (I 197 (2 * a + 1)), .long (z ^^^ g_wide (I2 212) (nI 9) (nI 0) (nI 0) (nI 0)), .int (r 8), .int (r 6), .int (r 3), .ref 192, .int (nI (12 * E + 11)), .ref 208] (n, I3, J3, R) 0 0
            refine q_gR (b := 197) rfl rfl (⟨Nat.lt_of_lt_of_le (by decide) hK.1, rfl⟩) (hK.2.1 192 4 197 rfl) ?_
            refine q_k 3 ?_
            show q_W L (d + 4) 111 q_m111 Q 358 [some (.ref 192), some (.int (nI a)), some (.int (nI b)), some (.long z), none, some (.int (nI (4 * a + b))), some (.int (nI (12 * E))), some (.int (nI 0))] [.int ((nI 2) * (nI b)), .ref 197, .int (I 197 (2 * a + 1)), .long (z ^^^ g_wide (I2 212) (nI 9) (nI 0) (nI 0) (nI 0)), .int (r 8), .int (r 6), .int (r 3), .ref 192, .int (nI (12 * E + 11)), .ref 208] (n, I3, J3, R) 0 0
            refine q_top (w := nI (2 * b)) (pk_mul _ _) ?_
            refine q_k 2 ?_
            show q_W L (d + 4) 111 q_m111 Q 360 [some (.ref 192), some (.int (nI a)), some (.int (nI b)), some (.long z), none, some (.int (nI (4 * a + b))), some (.int (nI (12 * E))), some (.int (nI 0))] [.int ((nI (2 * b)) + (nI 1)), .ref 197, .int (I 197 (2 * a + 1)), .long (z ^^^ g_wide (I2 212) (nI 9) (nI 0) (nI 0) (nI 0)), .int (r 8), .int (r 6), .int (r 3), .ref 192, .int (nI (12 * E + 11)), .ref 208] (n, I3, J3, R) 0 0
            refine q_top (w := nI (2 * b + 1)) (nI_add _ _) ?_
            refine q_ial (m := 2 * b + 1) rfl (⟨by decide, Nat.lt_of_lt_of_le (by decide) hK.1, rfl⟩) (by omega) (rfl) ?_
            refine q_top (w := I 197 (2 * b + 1)) (by rw [f3 197 (by decide) (by decide) (by decide), f2 197 (by decide) (by decide) (by decide) (by decide) (by decide), f1 197 (by decide)]) ?_
            refine q_cv (as := [.int (r 3), .int (r 6), .int (r 8), .long (z ^^^ g_wide (I2 212) (nI 9) (nI 0) (nI 0) (nI 0)), .int (I 197 (2 * a + 1)), .int (I 197 (2 * b + 1))]) (rs := [.int (nI (12 * E + 11)), .ref 208]) rfl rfl rfl (⟨Nat.lt_of_lt_of_le (by decide) hK.1, rfl⟩) rfl rfl ?_
            refine m_tag (q_K0_to hK (by rw [f3 0 (by decide) (by decide) (by decide), f2 0 (by decide) (by decide) (by decide) (by decide) (by decide), f1 0 (by decide)]) (by rw [f3 1 (by decide) (by decide) (by decide), f2 1 (by decide) (by decide) (by decide) (by decide) (by decide), f1 1 (by decide)])) (fun I4 f4 => ?_)
            show q_W L (d + 4) 111 q_m111 Q 364 [some (.ref 192), some (.int (nI a)), some (.int (nI b)), some (.long z), none, some (.int (nI (4 * a + b))), some (.int (nI (12 * E))), some (.int (nI 0))] [.long (g_tag (I3 212) (r 3) (r 6) (r 8) (z ^^^ g_wide (I2 212) (nI 9) (nI 0) (nI 0) (nI 0)) (I 197 (2 * a + 1)) (I 197 (2 * b + 1))), .int (nI (12 * E + 11)), .ref 208] (n, I4, J3, R) 0 0
            refine q_las (m := 12 * E + 11) rfl (⟨by decide, Nat.lt_of_lt_of_le (by decide) hK.1, rfl⟩) (by omega) (rfl) ?_
            obtain ⟨J4, eJ4⟩ : ∃ zz9, zz9 = q_up J3 208 (12 * E + 11) (g_tag (I3 212) (r 3) (r 6) (r 8) (z ^^^ g_wide (I2 212) (nI 9) (nI 0) (nI 0) (nI 0)) (I 197 (2 * a + 1)) (I 197 (2 * b + 1))) := ⟨_, rfl⟩
            rw [← eJ4]
            refine q_k 1 ?_
            show q_W L (d + 4) 111 q_m111 Q 366 [some (.ref 192), some (.int (nI a)), some (.int (nI b)), some (.long z), none, some (.int (nI (4 * a + b))), some (.int (nI (12 * E))), some (.int (nI 0))] [.ref 192] (n, I4, J4, R) 0 0
            refine q_gR (b := 207) rfl rfl (⟨Nat.lt_of_lt_of_le (by decide) hK.1, rfl⟩) (hK.2.1 192 14 207 rfl) ?_
            refine q_k 2 ?_
            show q_W L (d + 4) 111 q_m111 Q 372 [some (.ref 192), some (.int (nI a)), some (.int (nI b)), some (.long z), none, some (.int (nI (4 * a + b))), some (.int (nI (12 * E))), some (.int (nI 0))] [.int (nI 6), .ref 207, .int (nI 6), .ref 207] (n, I4, J4, R) 0 0
            refine q_ial (m := 6) rfl (⟨by decide, Nat.lt_of_lt_of_le (by decide) hK.1, rfl⟩) (by decide) (rfl) ?_
            refine q_top (w := r 6) (by rw [f4 207 (by decide) (by decide) (by decide) (by decide), f3 207 (by decide) (by decide) (by decide), g2 6 (by decide)]; exact hr 6 (by decide)) ?_
            refine q_k 2 ?_
            show q_W L (d + 4) 111 q_m111 Q 375 [some (.ref 192), some (.int (nI a)), some (.int (nI b)), some (.long z), none, some (.int (nI (4 * a + b))), some (.int (nI (12 * E))), some (.int (nI 0))] [.int ((r 6) + (nI 1)), .int (nI 6), .ref 207] (n, I4, J4, R) 0 0
            refine q_ias (m := 6) rfl (⟨by decide, Nat.lt_of_lt_of_le (by decide) hK.1, rfl⟩) (by decide) (rfl) ?_
            obtain ⟨I5, eI5⟩ : ∃ zz9, zz9 = q_up I4 207 6 ((r 6) + (nI 1)) := ⟨_, rfl⟩
            rw [← eI5]
            refine q_k 3 ?_
            show q_W L (d + 4) 111 q_m111 Q 380 [some (.ref 192), some (.int (nI a)), some (.int (nI b)), some (.long z), none, some (.int (nI (4 * a + b))), some (.int (nI (12 * E))), some (.int (nI 0))] [.int (nI 0), .int (nI (4 * a + b)), .ref 192] (n, I5, J4, R) 0 0
            refine q_cv (as := [.int (nI (4 * a + b)), .int (nI 0)]) (rs := []) rfl rfl rfl (⟨Nat.lt_of_lt_of_le (by decide) hK.1, rfl⟩) rfl rfl ?_
            refine m_save (q_K0_to hK (by rw [eI5, q_un (by decide), f4 0 (by decide) (by decide) (by decide) (by decide), f3 0 (by decide) (by decide) (by decide), f2 0 (by decide) (by decide) (by decide) (by decide) (by decide), f1 0 (by decide)]) (by rw [eI5, q_un (by decide), f4 1 (by decide) (by decide) (by decide) (by decide), f3 1 (by decide) (by decide) (by decide), f2 1 (by decide) (by decide) (by decide) (by decide) (by decide), f1 1 (by decide)])) (by omega) (by decide) (fun I6 h6' g6 f6 => ?_)
            show q_W L (d + 4) 111 q_m111 Q 383 [some (.ref 192), some (.int (nI a)), some (.int (nI b)), some (.long z), none, some (.int (nI (4 * a + b))), some (.int (nI (12 * E))), some (.int (nI 0))] [] (n, I6, J4, R) 0 0
            refine q_k 2 ?_
            show q_W L (d + 4) 111 q_m111 Q 385 [some (.ref 192), some (.int (nI a)), some (.int (nI b)), some (.long z), none, some (.int (nI (4 * a + b))), some (.int (nI (12 * E))), some (.int (nI 0))] [.ref 192, .ref 192] (n, I6, J4, R) 0 0
            refine q_gI rfl rfl (⟨Nat.lt_of_lt_of_le (by decide) hK.1, rfl⟩) ?_
            refine q_top (w := nI E) (by rw [f6 192 (by decide), eI5, q_un (by decide), f4 192 (by decide) (by decide) (by decide) (by decide), f3 192 (by decide) (by decide) (by decide), f2 192 (by decide) (by decide) (by decide) (by decide) (by decide), f1 192 (by decide)]; exact hE) ?_
            refine q_k 2 ?_
            show q_W L (d + 4) 111 q_m111 Q 390 [some (.ref 192), some (.int (nI a)), some (.int (nI b)), some (.long z), none, some (.int (nI (4 * a + b))), some (.int (nI (12 * E))), some (.int (nI 0))] [.int ((nI E) + (nI 1)), .ref 192] (n, I6, J4, R) 0 0
            refine q_top (w := nI (E + 1)) (nI_add _ _) ?_
            refine q_pI rfl rfl rfl (⟨Nat.lt_of_lt_of_le (by decide) hK.1, rfl⟩) ?_
            refine q_k 1 ?_
            show q_W L (d + 4) 111 q_m111 Q 394 [some (.ref 192), some (.int (nI a)), some (.int (nI b)), some (.long z), none, some (.int (nI (4 * a + b))), some (.int (nI (12 * E))), some (.int (nI 0))] [.ref 192] (n, q_up I6 192 16 (nI (E + 1)), J4, R) 0 0
            refine q_gI rfl rfl (⟨Nat.lt_of_lt_of_le (by decide) hK.1, rfl⟩) ?_
            refine q_top (w := nI (E + 1)) (q_usk) ?_
            refine q_k 2 ?_
            show q_W L (d + 4) 111 q_m111 Q 399 [some (.ref 192), some (.int (nI a)), some (.int (nI b)), some (.long z), none, some (.int (nI (4 * a + b))), some (.int (nI (12 * E))), some (.int (nI 0))] [.int ((nI (E + 1)) - (nI 1))] (n, q_up I6 192 16 (nI (E + 1)), J4, R) 0 0
            refine q_top (w := nI E) (q_sub rfl) ?_
            refine q_one rfl rfl ?_
            show Q (some (.int (nI E))) (n, q_up I6 192 16 (nI (E + 1)), J4, R)
            have hkey : ∀ i, i < 8 → I2 212 i = s_kS r i := fun i hi => by rw [a2 i hi]; exact g_mix_c (fun j hj => hr (22 + j) (by omega)) _ _ _ _ (by omega)
            have hci : z ^^^ g_wide (I2 212) (nI 9) (nI 0) (nI 0) (nI 0) = g_ci z r := by unfold g_ci; rw [g_wide_c hkey]
            have htg : g_tag (I3 212) (r 3) (r 6) (r 8) (g_ci z r) (I 197 (2 * a + 1)) (I 197 (2 * b + 1)) = g_tag (s_kS r) (r 3) (r 6) (r 8) (g_ci z r) (I 197 (2 * a + 1)) (I 197 (2 * b + 1)) := g_tag_c (fun i hi => by rw [f3 212 (by decide) (by decide) (by decide)]; exact hkey i hi) _ _ _ _ _ _
            have eJ : J4 = va_up J 208 (fun j => if 12 * E ≤ j ∧ j < 12 * E + 12 then g_let z a b I r (j - 12 * E) else J 208 j) := by
              funext y
              by_cases ey : y = 208
              · subst ey
                rw [va_up_self]
                funext j
                rw [eJ4]
                by_cases e11 : j = 12 * E + 11
                · subst e11; rw [q_usk, if_pos (by omega), show 12 * E + 11 - 12 * E = 11 by omega, g_let_11, hci, htg]
                · rw [q_usn e11]
                  rw [eJ3]
                  by_cases e10 : j = 12 * E + 10
                  · subst e10; rw [q_usk, if_pos (by omega), show 12 * E + 10 - 12 * E = 10 by omega, g_let_10, hci]
                  · rw [q_usn e10]
                    by_cases e9 : j = 12 * E + 9
                    · subst e9; rw [q_usk, if_pos (by omega), show 12 * E + 9 - 12 * E = 9 by omega, g_let_9]
                    · rw [q_usn e9]
                      by_cases e8 : j = 12 * E + 8
                      · subst e8; rw [q_usk, if_pos (by omega), show 12 * E + 8 - 12 * E = 8 by omega, g_let_8]
                      · rw [q_usn e8]
                        by_cases e7 : j = 12 * E + 7
                        · subst e7; rw [q_usk, if_pos (by omega), show 12 * E + 7 - 12 * E = 7 by omega, g_let_7]
                        · rw [q_usn e7]
                          by_cases e2 : j = 12 * E + 2
                          · subst e2; rw [q_usk, if_pos (by omega), show 12 * E + 2 - 12 * E = 2 by omega, g_let_2f hun]
                          · rw [q_usn e2]
                            by_cases e1 : j = 12 * E + 1
                            · subst e1; rw [q_usk, if_pos (by omega), show 12 * E + 1 - 12 * E = 1 by omega, g_let_1]
                            · rw [q_usn e1]
                              by_cases e0 : j = 12 * E
                              · subst e0; rw [q_usk, if_pos (by omega), show 12 * E - 12 * E = 0 by omega, g_let_0]
                              · rw [q_usn e0]
                                rw [hJ2.1 j]
                                by_cases c1 : 12 * E ≤ j ∧ j < 12 * E + 12
                                · rw [if_pos c1, if_pos c1]
                                  have hj : j - 12 * E = 3 ∨ j - 12 * E = 4 ∨ j - 12 * E = 5 ∨ j - 12 * E = 6 := by omega
                                  rcases hj with hj | hj | hj | hj
                                  · rw [hj, g_let_3f hun]
                                  · rw [hj, g_let_4f hun]
                                  · rw [hj, g_let_5f hun]
                                  · rw [hj, g_let_6f hun]
                                · rw [if_neg c1, if_neg c1]
              · rw [va_up_ne _ _ ey, eJ4, q_un ey, eJ3, q_un ey, q_un ey, q_un ey, q_un ey, q_un ey, q_un ey, q_un ey]; exact hJ2.2 y ey
            rw [eJ]
            unfold f_snd at hQ
            rw [← er] at hQ
            refine hQ _ ⟨fun y hy1 hy2 => ?_, ?_⟩ (fun y hy => ?_)
            · show q_up I6 192 16 (nI (E + 1)) y = q_up (f_save (4 * a + b) 0 (s_snd r) I) 192 16 (nI (E + 1)) y
              rw [q_un (by omega), q_un (by omega)]
              by_cases e5 : y = 205
              · subst e5
                funext j
                rw [f_save_205]
                by_cases c1 : 158 * (3 * (4 * a + b) + 0) ≤ j ∧ j < 158 * (3 * (4 * a + b) + 0) + 158
                · rw [if_pos c1]
                  obtain ⟨i, rfl⟩ : ∃ i, j = 158 * (3 * (4 * a + b) + 0) + i := ⟨j - 158 * (3 * (4 * a + b) + 0), by omega⟩
                  rw [h6' i (by omega), show 158 * (3 * (4 * a + b) + 0) + i - 158 * (3 * (4 * a + b) + 0) = i by omega, eI5]
                  unfold s_snd
                  by_cases e6 : i = 6
                  · subst e6; rw [q_usk, if_pos rfl]
                  · rw [q_usn e6, if_neg e6, f4 207 (by decide) (by decide) (by decide) (by decide), f3 207 (by decide) (by decide) (by decide)]
                    by_cases c2 : 22 ≤ i ∧ i < 30
                    · obtain ⟨k, rfl⟩ : ∃ k, i = 22 + k := ⟨i - 22, by omega⟩
                      rw [b2 k (by omega), if_pos c2, show 22 + k - 22 = k by omega]
                      exact g_mix_c (fun j hj => hr (22 + j) (by omega)) _ _ _ _ (by omega)
                    · rw [if_neg c2, g2 i (by omega)]; exact hr i (by omega)
                · rw [if_neg c1, g6 j (by omega), eI5, q_un (by decide), f4 205 (by decide) (by decide) (by decide) (by decide), f3 205 (by decide) (by decide) (by decide), f2 205 (by decide) (by decide) (by decide) (by decide) (by decide), f1 205 (by decide)]
              · rw [f6 y e5, f_save_n e5, eI5, q_un (by omega), f4 y (by omega) (by omega) (by omega) (by omega), f3 y (by omega) (by omega) (by omega), f2 y (by omega) (by omega) (by omega) (by omega) (by omega), f1 y (by omega)]
            · show q_up I6 192 16 (nI (E + 1)) 192 16 = q_up (f_save (4 * a + b) 0 (s_snd r) I) 192 16 (nI (E + 1)) 192 16
              rw [q_usk, q_usk]
            · rw [q_un (by omega), f6 y (by omega), eI5, q_un (by omega), f4 y (by omega) (by omega) (by omega) (by omega), f3 y (by omega) (by omega) (by omega), f2 y (by omega) (by omega) (by omega) (by omega) (by omega), f1 y (by omega)]
          · skip
            refine q_k 1 ?_
            show q_W L (d + 4) 111 q_m111 Q 115 [some (.ref 192), some (.int (nI a)), some (.int (nI b)), some (.long z), none, some (.int (nI (4 * a + b))), some (.int (nI (12 * E))), some (.int (nI 12))] [.ref 192] (n, I1, q_up (q_up J2 208 (12 * E) ((nI a).toInt64)) 208 (12 * E + 1) ((nI b).toInt64), R) 0 0
            refine q_gR (b := 207) rfl rfl (⟨Nat.lt_of_lt_of_le (by decide) hK.1, rfl⟩) (hK.2.1 192 14 207 rfl) ?_
            refine q_k 1 ?_
            show q_W L (d + 4) 111 q_m111 Q 120 [some (.ref 192), some (.int (nI a)), some (.int (nI b)), some (.long z), none, some (.int (nI (4 * a + b))), some (.int (nI (12 * E))), some (.int (nI 12))] [.int (nI 11), .ref 207] (n, I1, q_up (q_up J2 208 (12 * E) ((nI a).toInt64)) 208 (12 * E + 1) ((nI b).toInt64), R) 0 0
            refine q_ial (m := 11) rfl (⟨by decide, Nat.lt_of_lt_of_le (by decide) hK.1, rfl⟩) (by decide) (rfl) ?_
            refine q_top (w := r 11) (hr 11 (by decide)) ?_
            refine q_one rfl rfl ?_
            show (¬ (r 11) = 0 → q_W L (d + 4) 111 q_m111 Q 128 [some (.ref 192), some (.int (nI a)), some (.int (nI b)), some (.long z), none, some (.int (nI (4 * a + b))), some (.int (nI (12 * E))), some (.int (nI 12))] [] (n, I1, q_up (q_up J2 208 (12 * E) ((nI a).toInt64)) 208 (12 * E + 1) ((nI b).toInt64), R) 0 0) ∧ ((r 11) = 0 → q_W L (d + 4) 111 q_m111 Q 124 [some (.ref 192), some (.int (nI a)), some (.int (nI b)), some (.long z), none, some (.int (nI (4 * a + b))), some (.int (nI (12 * E))), some (.int (nI 12))] [] (n, I1, q_up (q_up J2 208 (12 * E) ((nI a).toInt64)) 208 (12 * E + 1) ((nI b).toInt64), R) 0 0)
            refine ⟨fun h121 => ?_, fun h121 => ?_⟩
            · skip
              have hun : ¬ g_un r = true := by unfold g_un; rw [decide_eq_true_eq]; exact fun q => h121 q.2
              refine q_k 3 ?_
              show q_W L (d + 4) 111 q_m111 Q 132 [some (.ref 192), some (.int (nI a)), some (.int (nI b)), some (.long z), none, some (.int (nI (4 * a + b))), some (.int (nI (12 * E))), some (.int (nI 0))] [.ref 192] (n, I1, q_up (q_up J2 208 (12 * E) ((nI a).toInt64)) 208 (12 * E + 1) ((nI b).toInt64), R) 0 0
              refine q_gR (b := 208) rfl rfl (⟨Nat.lt_of_lt_of_le (by decide) hK.1, rfl⟩) (hK.2.1 192 15 208 rfl) ?_
              refine q_k 3 ?_
              show q_W L (d + 4) 111 q_m111 Q 139 [some (.ref 192), some (.int (nI a)), some (.int (nI b)), some (.long z), none, some (.int (nI (4 * a + b))), some (.int (nI (12 * E))), some (.int (nI 0))] [.int ((nI (12 * E)) + (nI 2)), .ref 208] (n, I1, q_up (q_up J2 208 (12 * E) ((nI a).toInt64)) 208 (12 * E + 1) ((nI b).toInt64), R) 0 0
              refine q_top (w := nI (12 * E + 2)) (nI_add _ _) ?_
              refine q_k 1 ?_
              show q_W L (d + 4) 111 q_m111 Q 141 [some (.ref 192), some (.int (nI a)), some (.int (nI b)), some (.long z), none, some (.int (nI (4 * a + b))), some (.int (nI (12 * E))), some (.int (nI 0))] [.int (nI 0), .int (nI (12 * E + 2)), .ref 208] (n, I1, q_up (q_up J2 208 (12 * E) ((nI a).toInt64)) 208 (12 * E + 1) ((nI b).toInt64), R) 0 0
              refine q_one rfl rfl ?_
              show ((nI 0) = 0 → q_W L (d + 4) 111 q_m111 Q 148 [some (.ref 192), some (.int (nI a)), some (.int (nI b)), some (.long z), none, some (.int (nI (4 * a + b))), some (.int (nI (12 * E))), some (.int (nI 0))] [.int (nI (12 * E + 2)), .ref 208] (n, I1, q_up (q_up J2 208 (12 * E) ((nI a).toInt64)) 208 (12 * E + 1) ((nI b).toInt64), R) 0 0) ∧ (¬ (nI 0) = 0 → q_W L (d + 4) 111 q_m111 Q 144 [some (.ref 192), some (.int (nI a)), some (.int (nI b)), some (.long z), none, some (.int (nI (4 * a + b))), some (.int (nI (12 * E))), some (.int (nI 0))] [.int (nI (12 * E + 2)), .ref 208] (n, I1, q_up (q_up J2 208 (12 * E) ((nI a).toInt64)) 208 (12 * E + 1) ((nI b).toInt64), R) 0 0)
              refine ⟨fun _ => ?_, fun z => absurd (by decide) z⟩
              refine q_k 1 ?_
              show q_W L (d + 4) 111 q_m111 Q 149 [some (.ref 192), some (.int (nI a)), some (.int (nI b)), some (.long z), none, some (.int (nI (4 * a + b))), some (.int (nI (12 * E))), some (.int (nI 0))] [.long (lN 1), .int (nI (12 * E + 2)), .ref 208] (n, I1, q_up (q_up J2 208 (12 * E) ((nI a).toInt64)) 208 (12 * E + 1) ((nI b).toInt64), R) 0 0
              refine q_las (m := 12 * E + 2) rfl (⟨by decide, Nat.lt_of_lt_of_le (by decide) hK.1, rfl⟩) (by omega) (rfl) ?_
              refine q_k 1 ?_
              show q_W L (d + 4) 111 q_m111 Q 152 [some (.ref 192), some (.int (nI a)), some (.int (nI b)), some (.long z), none, some (.int (nI (4 * a + b))), some (.int (nI (12 * E))), some (.int (nI 0))] [.int (nI 0)] (n, I1, q_up (q_up (q_up J2 208 (12 * E) ((nI a).toInt64)) 208 (12 * E + 1) ((nI b).toInt64)) 208 (12 * E + 2) (lN 1), R) 0 0
              refine q_one rfl rfl ?_
              show ((nI 0) = 0 → q_W L (d + 4) 111 q_m111 Q 226 [some (.ref 192), some (.int (nI a)), some (.int (nI b)), some (.long z), none, some (.int (nI (4 * a + b))), some (.int (nI (12 * E))), some (.int (nI 0))] [] (n, I1, q_up (q_up (q_up J2 208 (12 * E) ((nI a).toInt64)) 208 (12 * E + 1) ((nI b).toInt64)) 208 (12 * E + 2) (lN 1), R) 0 0) ∧ (¬ (nI 0) = 0 → q_W L (d + 4) 111 q_m111 Q 155 [some (.ref 192), some (.int (nI a)), some (.int (nI b)), some (.long z), none, some (.int (nI (4 * a + b))), some (.int (nI (12 * E))), some (.int (nI 0))] [] (n, I1, q_up (q_up (q_up J2 208 (12 * E) ((nI a).toInt64)) 208 (12 * E + 1) ((nI b).toInt64)) 208 (12 * E + 2) (lN 1), R) 0 0)
              refine ⟨fun _ => ?_, fun z => absurd (by decide) z⟩
              refine q_k 1 ?_
              show q_W L (d + 4) 111 q_m111 Q 227 [some (.ref 192), some (.int (nI a)), some (.int (nI b)), some (.long z), none, some (.int (nI (4 * a + b))), some (.int (nI (12 * E))), some (.int (nI 0))] [.ref 192] (n, I1, q_up (q_up (q_up J2 208 (12 * E) ((nI a).toInt64)) 208 (12 * E + 1) ((nI b).toInt64)) 208 (12 * E + 2) (lN 1), R) 0 0
              refine q_gR (b := 208) rfl rfl (⟨Nat.lt_of_lt_of_le (by decide) hK.1, rfl⟩) (hK.2.1 192 15 208 rfl) ?_
              refine q_k 3 ?_
              show q_W L (d + 4) 111 q_m111 Q 235 [some (.ref 192), some (.int (nI a)), some (.int (nI b)), some (.long z), none, some (.int (nI (4 * a + b))), some (.int (nI (12 * E))), some (.int (nI 0))] [.int ((nI (12 * E)) + (nI 7)), .ref 208] (n, I1, q_up (q_up (q_up J2 208 (12 * E) ((nI a).toInt64)) 208 (12 * E + 1) ((nI b).toInt64)) 208 (12 * E + 2) (lN 1), R) 0 0
              refine q_top (w := nI (12 * E + 7)) (nI_add _ _) ?_
              refine q_k 1 ?_
              show q_W L (d + 4) 111 q_m111 Q 236 [some (.ref 192), some (.int (nI a)), some (.int (nI b)), some (.long z), none, some (.int (nI (4 * a + b))), some (.int (nI (12 * E))), some (.int (nI 0))] [.ref 192, .int (nI (12 * E + 7)), .ref 208] (n, I1, q_up (q_up (q_up J2 208 (12 * E) ((nI a).toInt64)) 208 (12 * E + 1) ((nI b).toInt64)) 208 (12 * E + 2) (lN 1), R) 0 0
              refine q_gR (b := 207) rfl rfl (⟨Nat.lt_of_lt_of_le (by decide) hK.1, rfl⟩) (hK.2.1 192 14 207 rfl) ?_
              refine q_k 1 ?_
              show q_W L (d + 4) 111 q_m111 Q 240 [some (.ref 192), some (.int (nI a)), some (.int (nI b)), some (.long z), none, some (.int (nI (4 * a + b))), some (.int (nI (12 * E))), some (.int (nI 0))] [.int (nI 3), .ref 207, .int (nI (12 * E + 7)), .ref 208] (n, I1, q_up (q_up (q_up J2 208 (12 * E) ((nI a).toInt64)) 208 (12 * E + 1) ((nI b).toInt64)) 208 (12 * E + 2) (lN 1), R) 0 0
              refine q_ial (m := 3) rfl (⟨by decide, Nat.lt_of_lt_of_le (by decide) hK.1, rfl⟩) (by decide) (rfl) ?_
              refine q_top (w := r 3) (hr 3 (by decide)) ?_
              refine q_k 1 ?_
              show q_W L (d + 4) 111 q_m111 Q 242 [some (.ref 192), some (.int (nI a)), some (.int (nI b)), some (.long z), none, some (.int (nI (4 * a + b))), some (.int (nI (12 * E))), some (.int (nI 0))] [.long ((r 3).toInt64), .int (nI (12 * E + 7)), .ref 208] (n, I1, q_up (q_up (q_up J2 208 (12 * E) ((nI a).toInt64)) 208 (12 * E + 1) ((nI b).toInt64)) 208 (12 * E + 2) (lN 1), R) 0 0
              refine q_las (m := 12 * E + 7) rfl (⟨by decide, Nat.lt_of_lt_of_le (by decide) hK.1, rfl⟩) (by omega) (rfl) ?_
              refine q_k 1 ?_
              show q_W L (d + 4) 111 q_m111 Q 244 [some (.ref 192), some (.int (nI a)), some (.int (nI b)), some (.long z), none, some (.int (nI (4 * a + b))), some (.int (nI (12 * E))), some (.int (nI 0))] [.ref 192] (n, I1, q_up (q_up (q_up (q_up J2 208 (12 * E) ((nI a).toInt64)) 208 (12 * E + 1) ((nI b).toInt64)) 208 (12 * E + 2) (lN 1)) 208 (12 * E + 7) ((r 3).toInt64), R) 0 0
              refine q_gR (b := 208) rfl rfl (⟨Nat.lt_of_lt_of_le (by decide) hK.1, rfl⟩) (hK.2.1 192 15 208 rfl) ?_
              refine q_k 3 ?_
              show q_W L (d + 4) 111 q_m111 Q 252 [some (.ref 192), some (.int (nI a)), some (.int (nI b)), some (.long z), none, some (.int (nI (4 * a + b))), some (.int (nI (12 * E))), some (.int (nI 0))] [.int ((nI (12 * E)) + (nI 8)), .ref 208] (n, I1, q_up (q_up (q_up (q_up J2 208 (12 * E) ((nI a).toInt64)) 208 (12 * E + 1) ((nI b).toInt64)) 208 (12 * E + 2) (lN 1)) 208 (12 * E + 7) ((r 3).toInt64), R) 0 0
              refine q_top (w := nI (12 * E + 8)) (nI_add _ _) ?_
              refine q_k 1 ?_
              show q_W L (d + 4) 111 q_m111 Q 253 [some (.ref 192), some (.int (nI a)), some (.int (nI b)), some (.long z), none, some (.int (nI (4 * a + b))), some (.int (nI (12 * E))), some (.int (nI 0))] [.ref 192, .int (nI (12 * E + 8)), .ref 208] (n, I1, q_up (q_up (q_up (q_up J2 208 (12 * E) ((nI a).toInt64)) 208 (12 * E + 1) ((nI b).toInt64)) 208 (12 * E + 2) (lN 1)) 208 (12 * E + 7) ((r 3).toInt64), R) 0 0
              refine q_gR (b := 207) rfl rfl (⟨Nat.lt_of_lt_of_le (by decide) hK.1, rfl⟩) (hK.2.1 192 14 207 rfl) ?_
              refine q_k 1 ?_
              show q_W L (d + 4) 111 q_m111 Q 258 [some (.ref 192), some (.int (nI a)), some (.int (nI b)), some (.long z), none, some (.int (nI (4 * a + b))), some (.int (nI (12 * E))), some (.int (nI 0))] [.int (nI 6), .ref 207, .int (nI (12 * E + 8)), .ref 208] (n, I1, q_up (q_up (q_up (q_up J2 208 (12 * E) ((nI a).toInt64)) 208 (12 * E + 1) ((nI b).toInt64)) 208 (12 * E + 2) (lN 1)) 208 (12 * E + 7) ((r 3).toInt64), R) 0 0
              refine q_ial (m := 6) rfl (⟨by decide, Nat.lt_of_lt_of_le (by decide) hK.1, rfl⟩) (by decide) (rfl) ?_
              refine q_top (w := r 6) (hr 6 (by decide)) ?_
              refine q_k 1 ?_
              show q_W L (d + 4) 111 q_m111 Q 260 [some (.ref 192), some (.int (nI a)), some (.int (nI b)), some (.long z), none, some (.int (nI (4 * a + b))), some (.int (nI (12 * E))), some (.int (nI 0))] [.long ((r 6).toInt64), .int (nI (12 * E + 8)), .ref 208] (n, I1, q_up (q_up (q_up (q_up J2 208 (12 * E) ((nI a).toInt64)) 208 (12 * E + 1) ((nI b).toInt64)) 208 (12 * E + 2) (lN 1)) 208 (12 * E + 7) ((r 3).toInt64), R) 0 0
              refine q_las (m := 12 * E + 8) rfl (⟨by decide, Nat.lt_of_lt_of_le (by decide) hK.1, rfl⟩) (by omega) (rfl) ?_
              refine q_k 1 ?_
              show q_W L (d + 4) 111 q_m111 Q 262 [some (.ref 192), some (.int (nI a)), some (.int (nI b)), some (.long z), none, some (.int (nI (4 * a + b))), some (.int (nI (12 * E))), some (.int (nI 0))] [.ref 192] (n, I1, q_up (q_up (q_up (q_up (q_up J2 208 (12 * E) ((nI a).toInt64)) 208 (12 * E + 1) ((nI b).toInt64)) 208 (12 * E + 2) (lN 1)) 208 (12 * E + 7) ((r 3).toInt64)) 208 (12 * E + 8) ((r 6).toInt64), R) 0 0
              refine q_gR (b := 208) rfl rfl (⟨Nat.lt_of_lt_of_le (by decide) hK.1, rfl⟩) (hK.2.1 192 15 208 rfl) ?_
              refine q_k 3 ?_
              show q_W L (d + 4) 111 q_m111 Q 270 [some (.ref 192), some (.int (nI a)), some (.int (nI b)), some (.long z), none, some (.int (nI (4 * a + b))), some (.int (nI (12 * E))), some (.int (nI 0))] [.int ((nI (12 * E)) + (nI 9)), .ref 208] (n, I1, q_up (q_up (q_up (q_up (q_up J2 208 (12 * E) ((nI a).toInt64)) 208 (12 * E + 1) ((nI b).toInt64)) 208 (12 * E + 2) (lN 1)) 208 (12 * E + 7) ((r 3).toInt64)) 208 (12 * E + 8) ((r 6).toInt64), R) 0 0
              refine q_top (w := nI (12 * E + 9)) (nI_add _ _) ?_
              refine q_k 1 ?_
              show q_W L (d + 4) 111 q_m111 Q 271 [some (.ref 192), some (.int (nI a)), some (.int (nI b)), some (.long z), none, some (.int (nI (4 * a + b))), some (.int (nI (12 * E))), some (.int (nI 0))] [.ref 192, .int (nI (12 * E + 9)), .ref 208] (n, I1, q_up (q_up (q_up (q_up (q_up J2 208 (12 * E) ((nI a).toInt64)) 208 (12 * E + 1) ((nI b).toInt64)) 208 (12 * E + 2) (lN 1)) 208 (12 * E + 7) ((r 3).toInt64)) 208 (12 * E + 8) ((r 6).toInt64), R) 0 0
              refine q_gR (b := 207) rfl rfl (⟨Nat.lt_of_lt_of_le (by decide) hK.1, rfl⟩) (hK.2.1 192 14 207 rfl) ?_
              refine q_k 1 ?_
              show q_W L (d + 4) 111 q_m111 Q 276 [some (.ref 192), some (.int (nI a)), some (.int (nI b)), some (.long z), none, some (.int (nI (4 * a + b))), some (.int (nI (12 * E))), some (.int (nI 0))] [.int (nI 8), .ref 207, .int (nI (12 * E + 9)), .ref 208] (n, I1, q_up (q_up (q_up (q_up (q_up J2 208 (12 * E) ((nI a).toInt64)) 208 (12 * E + 1) ((nI b).toInt64)) 208 (12 * E + 2) (lN 1)) 208 (12 * E + 7) ((r 3).toInt64)) 208 (12 * E + 8) ((r 6).toInt64), R) 0 0
              refine q_ial (m := 8) rfl (⟨by decide, Nat.lt_of_lt_of_le (by decide) hK.1, rfl⟩) (by decide) (rfl) ?_
              refine q_top (w := r 8) (hr 8 (by decide)) ?_
              refine q_k 1 ?_
              show q_W L (d + 4) 111 q_m111 Q 278 [some (.ref 192), some (.int (nI a)), some (.int (nI b)), some (.long z), none, some (.int (nI (4 * a + b))), some (.int (nI (12 * E))), some (.int (nI 0))] [.long ((r 8).toInt64), .int (nI (12 * E + 9)), .ref 208] (n, I1, q_up (q_up (q_up (q_up (q_up J2 208 (12 * E) ((nI a).toInt64)) 208 (12 * E + 1) ((nI b).toInt64)) 208 (12 * E + 2) (lN 1)) 208 (12 * E + 7) ((r 3).toInt64)) 208 (12 * E + 8) ((r 6).toInt64), R) 0 0
              refine q_las (m := 12 * E + 9) rfl (⟨by decide, Nat.lt_of_lt_of_le (by decide) hK.1, rfl⟩) (by omega) (rfl) ?_
              refine q_k 2 ?_
              show q_W L (d + 4) 111 q_m111 Q 282 [some (.ref 192), some (.int (nI a)), some (.int (nI b)), some (.long z), none, some (.int (nI (4 * a + b))), some (.int (nI (12 * E))), some (.int (nI 0))] [.int (nI 22), .ref 192] (n, I1, q_up (q_up (q_up (q_up (q_up (q_up J2 208 (12 * E) ((nI a).toInt64)) 208 (12 * E + 1) ((nI b).toInt64)) 208 (12 * E + 2) (lN 1)) 208 (12 * E + 7) ((r 3).toInt64)) 208 (12 * E + 8) ((r 6).toInt64)) 208 (12 * E + 9) ((r 8).toInt64), R) 0 0
              refine q_cv (as := [.int (nI 22)]) (rs := []) rfl rfl rfl (⟨Nat.lt_of_lt_of_le (by decide) hK.1, rfl⟩) rfl rfl ?_
              refine m_take (q_K0_to hK (f1 0 (by decide)) (f1 1 (by decide))) (by decide) (fun I2 a2 b2 g2 f2 => ?_)
              show q_W L (d + 4) 111 q_m111 Q 285 [some (.ref 192), some (.int (nI a)), some (.int (nI b)), some (.long z), none, some (.int (nI (4 * a + b))), some (.int (nI (12 * E))), some (.int (nI 0))] [] (n, I2, q_up (q_up (q_up (q_up (q_up (q_up J2 208 (12 * E) ((nI a).toInt64)) 208 (12 * E + 1) ((nI b).toInt64)) 208 (12 * E + 2) (lN 1)) 208 (12 * E + 7) ((r 3).toInt64)) 208 (12 * E + 8) ((r 6).toInt64)) 208 (12 * E + 9) ((r 8).toInt64), R) 0 0
              refine q_k 1 ?_
              show q_W L (d + 4) 111 q_m111 Q 286 [some (.ref 192), some (.int (nI a)), some (.int (nI b)), some (.long z), none, some (.int (nI (4 * a + b))), some (.int (nI (12 * E))), some (.int (nI 0))] [.ref 192] (n, I2, q_up (q_up (q_up (q_up (q_up (q_up J2 208 (12 * E) ((nI a).toInt64)) 208 (12 * E + 1) ((nI b).toInt64)) 208 (12 * E + 2) (lN 1)) 208 (12 * E + 7) ((r 3).toInt64)) 208 (12 * E + 8) ((r 6).toInt64)) 208 (12 * E + 9) ((r 8).toInt64), R) 0 0
              refine q_gR (b := 208) rfl rfl (⟨Nat.lt_of_lt_of_le (by decide) hK.1, rfl⟩) (hK.2.1 192 15 208 rfl) ?_
              refine q_k 3 ?_
              show q_W L (d + 4) 111 q_m111 Q 294 [some (.ref 192), some (.int (nI a)), some (.int (nI b)), some (.long z), none, some (.int (nI (4 * a + b))), some (.int (nI (12 * E))), some (.int (nI 0))] [.int ((nI (12 * E)) + (nI 10)), .ref 208] (n, I2, q_up (q_up (q_up (q_up (q_up (q_up J2 208 (12 * E) ((nI a).toInt64)) 208 (12 * E + 1) ((nI b).toInt64)) 208 (12 * E + 2) (lN 1)) 208 (12 * E + 7) ((r 3).toInt64)) 208 (12 * E + 8) ((r 6).toInt64)) 208 (12 * E + 9) ((r 8).toInt64), R) 0 0
              refine q_top (w := nI (12 * E + 10)) (nI_add _ _) ?_
              refine q_k 2 ?_
              show q_W L (d + 4) 111 q_m111 Q 296 [some (.ref 192), some (.int (nI a)), some (.int (nI b)), some (.long z), none, some (.int (nI (4 * a + b))), some (.int (nI (12 * E))), some (.int (nI 0))] [.ref 192, .long z, .int (nI (12 * E + 10)), .ref 208] (n, I2, q_up (q_up (q_up (q_up (q_up (q_up J2 208 (12 * E) ((nI a).toInt64)) 208 (12 * E + 1) ((nI b).toInt64)) 208 (12 * E + 2) (lN 1)) 208 (12 * E + 7) ((r 3).toInt64)) 208 (12 * E + 8) ((r 6).toInt64)) 208 (12 * E + 9) ((r 8).toInt64), R) 0 0
              refine q_cv (as := []) (rs := [.long z, .int (nI (12 * E + 10)), .ref 208]) rfl rfl rfl (⟨Nat.lt_of_lt_of_le (by decide) hK.1, rfl⟩) rfl rfl ?_
              refine m_mask (q_K0_to hK (by rw [f2 0 (by decide) (by decide) (by decide) (by decide) (by decide), f1 0 (by decide)]) (by rw [f2 1 (by decide) (by decide) (by decide) (by decide) (by decide), f1 1 (by decide)])) (fun I3 f3 => ?_)
              show q_W L (d + 4) 111 q_m111 Q 299 [some (.ref 192), some (.int (nI a)), some (.int (nI b)), some (.long z), none, some (.int (nI (4 * a + b))), some (.int (nI (12 * E))), some (.int (nI 0))] [.long (g_wide (I2 212) (nI 9) (nI 0) (nI 0) (nI 0)), .long z, .int (nI (12 * E + 10)), .ref 208] (n, I3, q_up (q_up (q_up (q_up (q_up (q_up J2 208 (12 * E) ((nI a).toInt64)) 208 (12 * E + 1) ((nI b).toInt64)) 208 (12 * E + 2) (lN 1)) 208 (12 * E + 7) ((r 3).toInt64)) 208 (12 * E + 8) ((r 6).toInt64)) 208 (12 * E + 9) ((r 8).toInt64), R) 0 0
              refine q_k 1 ?_
              show q_W L (d + 4) 111 q_m111 Q 300 [some (.ref 192), some (.int (nI a)), some (.int (nI b)), some (.long z), none, some (.int (nI (4 * a + b))), some (.int (nI (12 * E))), some (.int (nI 0))] [.long (z ^^^ (g_wide (I2 212) (nI 9) (nI 0) (nI 0) (nI 0))), .int (nI (12 * E + 10)), .ref 208] (n, I3, q_up (q_up (q_up (q_up (q_up (q_up J2 208 (12 * E) ((nI a).toInt64)) 208 (12 * E + 1) ((nI b).toInt64)) 208 (12 * E + 2) (lN 1)) 208 (12 * E + 7) ((r 3).toInt64)) 208 (12 * E + 8) ((r 6).toInt64)) 208 (12 * E + 9) ((r 8).toInt64), R) 0 0
              refine q_las (m := 12 * E + 10) rfl (⟨by decide, Nat.lt_of_lt_of_le (by decide) hK.1, rfl⟩) (by omega) (rfl) ?_
              obtain ⟨J3, eJ3⟩ : ∃ zz9, zz9 = q_up (q_up (q_up (q_up (q_up (q_up (q_up J2 208 (12 * E) ((nI a).toInt64)) 208 (12 * E + 1) ((nI b).toInt64)) 208 (12 * E + 2) (lN 1)) 208 (12 * E + 7) ((r 3).toInt64)) 208 (12 * E + 8) ((r 6).toInt64)) 208 (12 * E + 9) ((r 8).toInt64)) 208 (12 * E + 10) (z ^^^ (g_wide (I2 212) (nI 9) (nI 0) (nI 0) (nI 0))) := ⟨_, rfl⟩
              rw [← eJ3]
              refine q_k 1 ?_
              show q_W L (d + 4) 111 q_m111 Q 302 [some (.ref 192), some (.int (nI a)), some (.int (nI b)), some (.long z), none, some (.int (nI (4 * a + b))), some (.int (nI (12 * E))), some (.int (nI 0))] [.ref 192] (n, I3, J3, R) 0 0
              refine q_gR (b := 208) rfl rfl (⟨Nat.lt_of_lt_of_le (by decide) hK.1, rfl⟩) (hK.2.1 192 15 208 rfl) ?_
              refine q_k 3 ?_
              show q_W L (d + 4) 111 q_m111 Q 310 [some (.ref 192), some (.int (nI a)), some (.int (nI b)), some (.long z), none, some (.int (nI (4 * a + b))), some (.int (nI (12 * E))), some (.int (nI 0))] [.int ((nI (12 * E)) + (nI 11)), .ref 208] (n, I3, J3, R) 0 0
              refine q_top (w := nI (12 * E + 11)) (nI_add _ _) ?_
              refine q_k 2 ?_
              show q_W L (d + 4) 111 q_m111 Q 312 [some (.ref 192), some (.int (nI a)), some (.int (nI b)), some (.long z), none, some (.int (nI (4 * a + b))), some (.int (nI (12 * E))), some (.int (nI 0))] [.ref 192, .ref 192, .int (nI (12 * E + 11)), .ref 208] (n, I3, J3, R) 0 0
              refine q_gR (b := 207) rfl rfl (⟨Nat.lt_of_lt_of_le (by decide) hK.1, rfl⟩) (hK.2.1 192 14 207 rfl) ?_
              refine q_k 1 ?_
              show q_W L (d + 4) 111 q_m111 Q 316 [some (.ref 192), some (.int (nI a)), some (.int (nI b)), some (.long z), none, some (.int (nI (4 * a + b))), some (.int (nI (12 * E))), some (.int (nI 0))] [.int (nI 3), .ref 207, .ref 192, .int (nI (12 * E + 11)), .ref 208] (n, I3, J3, R) 0 0
              refine q_ial (m := 3) rfl (⟨by decide, Nat.lt_of_lt_of_le (by decide) hK.1, rfl⟩) (by decide) (rfl) ?_
              refine q_top (w := r 3) (by rw [f3 207 (by decide) (by decide) (by decide), g2 3 (by decide)]; exact hr 3 (by decide)) ?_
              refine q_k 1 ?_
              show q_W L (d + 4) 111 q_m111 Q 318 [some (.ref 192), some (.int (nI a)), some (.int (nI b)), some (.long z), none, some (.int (nI (4 * a + b))), some (.int (nI (12 * E))), some (.int (nI 0))] [.ref 192, .int (r 3), .ref 192, .int (nI (12 * E + 11)), .ref 208] (n, I3, J3, R) 0 0
              refine q_gR (b := 207) rfl rfl (⟨Nat.lt_of_lt_of_le (by decide) hK.1, rfl⟩) (hK.2.1 192 14 207 rfl) ?_
              refine q_k 1 ?_
              show q_W L (d + 4) 111 q_m111 Q 323 [some (.ref 192), some (.int (nI a)), some (.int (nI b)), some (.long z), none, some (.int (nI (4 * a + b))), some (.int (nI (12 * E))), some (.int (nI 0))] [.int (nI 6), .ref 207, .int (r 3), .ref 192, .int (nI (12 * E + 11)), .ref 208] (n, I3, J3, R) 0 0
              refine q_ial (m := 6) rfl (⟨by decide, Nat.lt_of_lt_of_le (by decide) hK.1, rfl⟩) (by decide) (rfl) ?_
              refine q_top (w := r 6) (by rw [f3 207 (by decide) (by decide) (by decide), g2 6 (by decide)]; exact hr 6 (by decide)) ?_
              refine q_k 1 ?_
              show q_W L (d + 4) 111 q_m111 Q 325 [some (.ref 192), some (.int (nI a)), some (.int (nI b)), some (.long z), none, some (.int (nI (4 * a + b))), some (.int (nI (12 * E))), some (.int (nI 0))] [.ref 192, .int (r 6), .int (r 3), .ref 192, .int (nI (12 * E + 11)), .ref 208] (n, I3, J3, R) 0 0
              refine q_gR (b := 207) rfl rfl (⟨Nat.lt_of_lt_of_le (by decide) hK.1, rfl⟩) (hK.2.1 192 14 207 rfl) ?_
              refine q_k 1 ?_
              show q_W L (d + 4) 111 q_m111 Q 330 [some (.ref 192), some (.int (nI a)), some (.int (nI b)), some (.long z), none, some (.int (nI (4 * a + b))), some (.int (nI (12 * E))), some (.int (nI 0))] [.int (nI 8), .ref 207, .int (r 6), .int (r 3), .ref 192, .int (nI (12 * E + 11)), .ref 208] (n, I3, J3, R) 0 0
              refine q_ial (m := 8) rfl (⟨by decide, Nat.lt_of_lt_of_le (by decide) hK.1, rfl⟩) (by decide) (rfl) ?_
              refine q_top (w := r 8) (by rw [f3 207 (by decide) (by decide) (by decide), g2 8 (by decide)]; exact hr 8 (by decide)) ?_
              refine q_k 1 ?_
              show q_W L (d + 4) 111 q_m111 Q 332 [some (.ref 192), some (.int (nI a)), some (.int (nI b)), some (.long z), none, some (.int (nI (4 * a + b))), some (.int (nI (12 * E))), some (.int (nI 0))] [.ref 192, .int (r 8), .int (r 6), .int (r 3), .ref 192, .int (nI (12 * E + 11)), .ref 208] (n, I3, J3, R) 0 0
              refine q_gR (b := 208) rfl rfl (⟨Nat.lt_of_lt_of_le (by decide) hK.1, rfl⟩) (hK.2.1 192 15 208 rfl) ?_
              refine q_k 3 ?_
              show q_W L (d + 4) 111 q_m111 Q 340 [some (.ref 192), some (.int (nI a)), some (.int (nI b)), some (.long z), none, some (.int (nI (4 * a + b))), some (.int (nI (12 * E))), some (.int (nI 0))] [.int ((nI (12 * E)) + (nI 10)), .ref 208, .int (r 8), .int (r 6), .int (r 3), .ref 192, .int (nI (12 * E + 11)), .ref 208] (n, I3, J3, R) 0 0
              refine q_top (w := nI (12 * E + 10)) (nI_add _ _) ?_
              refine q_lal (m := 12 * E + 10) rfl (⟨by decide, Nat.lt_of_lt_of_le (by decide) hK.1, rfl⟩) (by omega) (rfl) ?_
              refine q_topL (w := z ^^^ g_wide (I2 212) (nI 9) (nI 0) (nI 0) (nI 0)) (by rw [eJ3, q_usk]) ?_
              refine q_k 1 ?_
              show q_W L (d + 4) 111 q_m111 Q 342 [some (.ref 192), some (.int (nI a)), some (.int (nI b)), some (.long z), none, some (.int (nI (4 * a + b))), some (.int (nI (12 * E))), some (.int (nI 0))] [.ref 192, .long (z ^^^ g_wide (I2 212) (nI 9) (nI 0) (nI 0) (nI 0)), .int (r 8), .int (r 6), .int (r 3), .ref 192, .int (nI (12 * E + 11)), .ref 208] (n, I3, J3, R) 0 0
              refine q_gR (b := 197) rfl rfl (⟨Nat.lt_of_lt_of_le (by decide) hK.1, rfl⟩) (hK.2.1 192 4 197 rfl) ?_
              refine q_k 3 ?_
              show q_W L (d + 4) 111 q_m111 Q 348 [some (.ref 192), some (.int (nI a)), some (.int (nI b)), some (.long z), none, some (.int (nI (4 * a + b))), some (.int (nI (12 * E))), some (.int (nI 0))] [.int ((nI 2) * (nI a)), .ref 197, .long (z ^^^ g_wide (I2 212) (nI 9) (nI 0) (nI 0) (nI 0)), .int (r 8), .int (r 6), .int (r 3), .ref 192, .int (nI (12 * E + 11)), .ref 208] (n, I3, J3, R) 0 0
              refine q_top (w := nI (2 * a)) (pk_mul _ _) ?_
              refine q_k 2 ?_
              show q_W L (d + 4) 111 q_m111 Q 350 [some (.ref 192), some (.int (nI a)), some (.int (nI b)), some (.long z), none, some (.int (nI (4 * a + b))), some (.int (nI (12 * E))), some (.int (nI 0))] [.int ((nI (2 * a)) + (nI 1)), .ref 197, .long (z ^^^ g_wide (I2 212) (nI 9) (nI 0) (nI 0) (nI 0)), .int (r 8), .int (r 6), .int (r 3), .ref 192, .int (nI (12 * E + 11)), .ref 208] (n, I3, J3, R) 0 0
              refine q_top (w := nI (2 * a + 1)) (nI_add _ _) ?_
              refine q_ial (m := 2 * a + 1) rfl (⟨by decide, Nat.lt_of_lt_of_le (by decide) hK.1, rfl⟩) (by omega) (rfl) ?_
              refine q_top (w := I 197 (2 * a + 1)) (by rw [f3 197 (by decide) (by decide) (by decide), f2 197 (by decide) (by decide) (by decide) (by decide) (by decide), f1 197 (by decide)]) ?_
              refine q_k 1 ?_
              show q_W L (d + 4) 111 q_m111 Q 352 [some (.ref 192), some (.int (nI a)), some (.int (nI b)), some (.long z), none, some (.int (nI (4 * a + b))), some (.int (nI (12 * E))), some (.int (nI 0))] [.ref 192, .int (I 197 (2 * a + 1)), .long (z ^^^ g_wide (I2 212) (nI 9) (nI 0) (nI 0) (nI 0)), .int (r 8), .int (r 6), .int (r 3), .ref 192, .int (nI (12 * E + 11)), .ref 208] (n, I3, J3, R) 0 0
              refine q_gR (b := 197) rfl rfl (⟨Nat.lt_of_lt_of_le (by decide) hK.1, rfl⟩) (hK.2.1 192 4 197 rfl) ?_
              refine q_k 3 ?_
              show q_W L (d + 4) 111 q_m111 Q 358 [some (.ref 192), some (.int (nI a)), some (.int (nI b)), some (.long z), none, some (.int (nI (4 * a + b))), some (.int (nI (12 * E))), some (.int (nI 0))] [.int ((nI 2) * (nI b)), .ref 197, .int (I 197 (2 * a + 1)), .long (z ^^^ g_wide (I2 212) (nI 9) (nI 0) (nI 0) (nI 0)), .int (r 8), .int (r 6), .int (r 3), .ref 192, .int (nI (12 * E + 11)), .ref 208] (n, I3, J3, R) 0 0
              refine q_top (w := nI (2 * b)) (pk_mul _ _) ?_
              refine q_k 2 ?_
              show q_W L (d + 4) 111 q_m111 Q 360 [some (.ref 192), some (.int (nI a)), some (.int (nI b)), some (.long z), none, some (.int (nI (4 * a + b))), some (.int (nI (12 * E))), some (.int (nI 0))] [.int ((nI (2 * b)) + (nI 1)), .ref 197, .int (I 197 (2 * a + 1)), .long (z ^^^ g_wide (I2 212) (nI 9) (nI 0) (nI 0) (nI 0)), .int (r 8), .int (r 6), .int (r 3), .ref 192, .int (nI (12 * E + 11)), .ref 208] (n, I3, J3, R) 0 0
              refine q_top (w := nI (2 * b + 1)) (nI_add _ _) ?_
              refine q_ial (m := 2 * b + 1) rfl (⟨by decide, Nat.lt_of_lt_of_le (by decide) hK.1, rfl⟩) (by omega) (rfl) ?_
              refine q_top (w := I 197 (2 * b + 1)) (by rw [f3 197 (by decide) (by decide) (by decide), f2 197 (by decide) (by decide) (by decide) (by decide) (by decide), f1 197 (by decide)]) ?_
              refine q_cv (as := [.int (r 3), .int (r 6), .int (r 8), .long (z ^^^ g_wide (I2 212) (nI 9) (nI 0) (nI 0) (nI 0)), .int (I 197 (2 * a + 1)), .int (I 197 (2 * b + 1))]) (rs := [.int (nI (12 * E + 11)), .ref 208]) rfl rfl rfl (⟨Nat.lt_of_lt_of_le (by decide) hK.1, rfl⟩) rfl rfl ?_
              refine m_tag (q_K0_to hK (by rw [f3 0 (by decide) (by decide) (by decide), f2 0 (by decide) (by decide) (by decide) (by decide) (by decide), f1 0 (by decide)]) (by rw [f3 1 (by decide) (by decide) (by decide), f2 1 (by decide) (by decide) (by decide) (by decide) (by decide), f1 1 (by decide)])) (fun I4 f4 => ?_)
              show q_W L (d + 4) 111 q_m111 Q 364 [some (.ref 192), some (.int (nI a)), some (.int (nI b)), some (.long z), none, some (.int (nI (4 * a + b))), some (.int (nI (12 * E))), some (.int (nI 0))] [.long (g_tag (I3 212) (r 3) (r 6) (r 8) (z ^^^ g_wide (I2 212) (nI 9) (nI 0) (nI 0) (nI 0)) (I 197 (2 * a + 1)) (I 197 (2 * b + 1))), .int (nI (12 * E + 11)), .ref 208] (n, I4, J3, R) 0 0
              refine q_las (m := 12 * E + 11) rfl (⟨by decide, Nat.lt_of_lt_of_le (by decide) hK.1, rfl⟩) (by omega) (rfl) ?_
              obtain ⟨J4, eJ4⟩ : ∃ zz9, zz9 = q_up J3 208 (12 * E + 11) (g_tag (I3 212) (r 3) (r 6) (r 8) (z ^^^ g_wide (I2 212) (nI 9) (nI 0) (nI 0) (nI 0)) (I 197 (2 * a + 1)) (I 197 (2 * b + 1))) := ⟨_, rfl⟩
              rw [← eJ4]
              refine q_k 1 ?_
              show q_W L (d + 4) 111 q_m111 Q 366 [some (.ref 192), some (.int (nI a)), some (.int (nI b)), some (.long z), none, some (.int (nI (4 * a + b))), some (.int (nI (12 * E))), some (.int (nI 0))] [.ref 192] (n, I4, J4, R) 0 0
              refine q_gR (b := 207) rfl rfl (⟨Nat.lt_of_lt_of_le (by decide) hK.1, rfl⟩) (hK.2.1 192 14 207 rfl) ?_
              refine q_k 2 ?_
              show q_W L (d + 4) 111 q_m111 Q 372 [some (.ref 192), some (.int (nI a)), some (.int (nI b)), some (.long z), none, some (.int (nI (4 * a + b))), some (.int (nI (12 * E))), some (.int (nI 0))] [.int (nI 6), .ref 207, .int (nI 6), .ref 207] (n, I4, J4, R) 0 0
              refine q_ial (m := 6) rfl (⟨by decide, Nat.lt_of_lt_of_le (by decide) hK.1, rfl⟩) (by decide) (rfl) ?_
              refine q_top (w := r 6) (by rw [f4 207 (by decide) (by decide) (by decide) (by decide), f3 207 (by decide) (by decide) (by decide), g2 6 (by decide)]; exact hr 6 (by decide)) ?_
              refine q_k 2 ?_
              show q_W L (d + 4) 111 q_m111 Q 375 [some (.ref 192), some (.int (nI a)), some (.int (nI b)), some (.long z), none, some (.int (nI (4 * a + b))), some (.int (nI (12 * E))), some (.int (nI 0))] [.int ((r 6) + (nI 1)), .int (nI 6), .ref 207] (n, I4, J4, R) 0 0
              refine q_ias (m := 6) rfl (⟨by decide, Nat.lt_of_lt_of_le (by decide) hK.1, rfl⟩) (by decide) (rfl) ?_
              obtain ⟨I5, eI5⟩ : ∃ zz9, zz9 = q_up I4 207 6 ((r 6) + (nI 1)) := ⟨_, rfl⟩
              rw [← eI5]
              refine q_k 3 ?_
              show q_W L (d + 4) 111 q_m111 Q 380 [some (.ref 192), some (.int (nI a)), some (.int (nI b)), some (.long z), none, some (.int (nI (4 * a + b))), some (.int (nI (12 * E))), some (.int (nI 0))] [.int (nI 0), .int (nI (4 * a + b)), .ref 192] (n, I5, J4, R) 0 0
              refine q_cv (as := [.int (nI (4 * a + b)), .int (nI 0)]) (rs := []) rfl rfl rfl (⟨Nat.lt_of_lt_of_le (by decide) hK.1, rfl⟩) rfl rfl ?_
              refine m_save (q_K0_to hK (by rw [eI5, q_un (by decide), f4 0 (by decide) (by decide) (by decide) (by decide), f3 0 (by decide) (by decide) (by decide), f2 0 (by decide) (by decide) (by decide) (by decide) (by decide), f1 0 (by decide)]) (by rw [eI5, q_un (by decide), f4 1 (by decide) (by decide) (by decide) (by decide), f3 1 (by decide) (by decide) (by decide), f2 1 (by decide) (by decide) (by decide) (by decide) (by decide), f1 1 (by decide)])) (by omega) (by decide) (fun I6 h6' g6 f6 => ?_)
              show q_W L (d + 4) 111 q_m111 Q 383 [some (.ref 192), some (.int (nI a)), some (.int (nI b)), some (.long z), none, some (.int (nI (4 * a + b))), some (.int (nI (12 * E))), some (.int (nI 0))] [] (n, I6, J4, R) 0 0
              refine q_k 2 ?_
              show q_W L (d + 4) 111 q_m111 Q 385 [some (.ref 192), some (.int (nI a)), some (.int (nI b)), some (.long z), none, some (.int (nI (4 * a + b))), some (.int (nI (12 * E))), some (.int (nI 0))] [.ref 192, .ref 192] (n, I6, J4, R) 0 0
              refine q_gI rfl rfl (⟨Nat.lt_of_lt_of_le (by decide) hK.1, rfl⟩) ?_
              refine q_top (w := nI E) (by rw [f6 192 (by decide), eI5, q_un (by decide), f4 192 (by decide) (by decide) (by decide) (by decide), f3 192 (by decide) (by decide) (by decide), f2 192 (by decide) (by decide) (by decide) (by decide) (by decide), f1 192 (by decide)]; exact hE) ?_
              refine q_k 2 ?_
              show q_W L (d + 4) 111 q_m111 Q 390 [some (.ref 192), some (.int (nI a)), some (.int (nI b)), some (.long z), none, some (.int (nI (4 * a + b))), some (.int (nI (12 * E))), some (.int (nI 0))] [.int ((nI E) + (nI 1)), .ref 192] (n, I6, J4, R) 0 0
              refine q_top (w := nI (E + 1)) (nI_add _ _) ?_
              refine q_pI rfl rfl rfl (⟨Nat.lt_of_lt_of_le (by decide) hK.1, rfl⟩) ?_
              refine q_k 1 ?_
              show q_W L (d + 4) 111 q_m111 Q 394 [some (.ref 192), some (.int (nI a)), some (.int (nI b)), some (.long z), none, some (.int (nI (4 * a + b))), some (.int (nI (12 * E))), some (.int (nI 0))] [.ref 192] (n, q_up I6 192 16 (nI (E + 1)), J4, R) 0 0
              refine q_gI rfl rfl (⟨Nat.lt_of_lt_of_le (by decide) hK.1, rfl⟩) ?_
              refine q_top (w := nI (E + 1)) (q_usk) ?_
              refine q_k 2 ?_
              show q_W L (d + 4) 111 q_m111 Q 399 [some (.ref 192), some (.int (nI a)), some (.int (nI b)), some (.long z), none, some (.int (nI (4 * a + b))), some (.int (nI (12 * E))), some (.int (nI 0))] [.int ((nI (E + 1)) - (nI 1))] (n, q_up I6 192 16 (nI (E + 1)), J4, R) 0 0
              refine q_top (w := nI E) (q_sub rfl) ?_
              refine q_one rfl rfl ?_
              show Q (some (.int (nI E))) (n, q_up I6 192 16 (nI (E + 1)), J4, R)
              have hkey : ∀ i, i < 8 → I2 212 i = s_kS r i := fun i hi => by rw [a2 i hi]; exact g_mix_c (fun j hj => hr (22 + j) (by omega)) _ _ _ _ (by omega)
              have hci : z ^^^ g_wide (I2 212) (nI 9) (nI 0) (nI 0) (nI 0) = g_ci z r := by unfold g_ci; rw [g_wide_c hkey]
              have htg : g_tag (I3 212) (r 3) (r 6) (r 8) (g_ci z r) (I 197 (2 * a + 1)) (I 197 (2 * b + 1)) = g_tag (s_kS r) (r 3) (r 6) (r 8) (g_ci z r) (I 197 (2 * a + 1)) (I 197 (2 * b + 1)) := g_tag_c (fun i hi => by rw [f3 212 (by decide) (by decide) (by decide)]; exact hkey i hi) _ _ _ _ _ _
              have eJ : J4 = va_up J 208 (fun j => if 12 * E ≤ j ∧ j < 12 * E + 12 then g_let z a b I r (j - 12 * E) else J 208 j) := by
                funext y
                by_cases ey : y = 208
                · subst ey
                  rw [va_up_self]
                  funext j
                  rw [eJ4]
                  by_cases e11 : j = 12 * E + 11
                  · subst e11; rw [q_usk, if_pos (by omega), show 12 * E + 11 - 12 * E = 11 by omega, g_let_11, hci, htg]
                  · rw [q_usn e11]
                    rw [eJ3]
                    by_cases e10 : j = 12 * E + 10
                    · subst e10; rw [q_usk, if_pos (by omega), show 12 * E + 10 - 12 * E = 10 by omega, g_let_10, hci]
                    · rw [q_usn e10]
                      by_cases e9 : j = 12 * E + 9
                      · subst e9; rw [q_usk, if_pos (by omega), show 12 * E + 9 - 12 * E = 9 by omega, g_let_9]
                      · rw [q_usn e9]
                        by_cases e8 : j = 12 * E + 8
                        · subst e8; rw [q_usk, if_pos (by omega), show 12 * E + 8 - 12 * E = 8 by omega, g_let_8]
                        · rw [q_usn e8]
                          by_cases e7 : j = 12 * E + 7
                          · subst e7; rw [q_usk, if_pos (by omega), show 12 * E + 7 - 12 * E = 7 by omega, g_let_7]
                          · rw [q_usn e7]
                            by_cases e2 : j = 12 * E + 2
                            · subst e2; rw [q_usk, if_pos (by omega), show 12 * E + 2 - 12 * E = 2 by omega, g_let_2f hun]
                            · rw [q_usn e2]
                              by_cases e1 : j = 12 * E + 1
                              · subst e1; rw [q_usk, if_pos (by omega), show 12 * E + 1 - 12 * E = 1 by omega, g_let_1]
                              · rw [q_usn e1]
                                by_cases e0 : j = 12 * E
                                · subst e0; rw [q_usk, if_pos (by omega), show 12 * E - 12 * E = 0 by omega, g_let_0]
                                · rw [q_usn e0]
                                  rw [hJ2.1 j]
                                  by_cases c1 : 12 * E ≤ j ∧ j < 12 * E + 12
                                  · rw [if_pos c1, if_pos c1]
                                    have hj : j - 12 * E = 3 ∨ j - 12 * E = 4 ∨ j - 12 * E = 5 ∨ j - 12 * E = 6 := by omega
                                    rcases hj with hj | hj | hj | hj
                                    · rw [hj, g_let_3f hun]
                                    · rw [hj, g_let_4f hun]
                                    · rw [hj, g_let_5f hun]
                                    · rw [hj, g_let_6f hun]
                                  · rw [if_neg c1, if_neg c1]
                · rw [va_up_ne _ _ ey, eJ4, q_un ey, eJ3, q_un ey, q_un ey, q_un ey, q_un ey, q_un ey, q_un ey, q_un ey]; exact hJ2.2 y ey
              rw [eJ]
              unfold f_snd at hQ
              rw [← er] at hQ
              refine hQ _ ⟨fun y hy1 hy2 => ?_, ?_⟩ (fun y hy => ?_)
              · show q_up I6 192 16 (nI (E + 1)) y = q_up (f_save (4 * a + b) 0 (s_snd r) I) 192 16 (nI (E + 1)) y
                rw [q_un (by omega), q_un (by omega)]
                by_cases e5 : y = 205
                · subst e5
                  funext j
                  rw [f_save_205]
                  by_cases c1 : 158 * (3 * (4 * a + b) + 0) ≤ j ∧ j < 158 * (3 * (4 * a + b) + 0) + 158
                  · rw [if_pos c1]
                    obtain ⟨i, rfl⟩ : ∃ i, j = 158 * (3 * (4 * a + b) + 0) + i := ⟨j - 158 * (3 * (4 * a + b) + 0), by omega⟩
                    rw [h6' i (by omega), show 158 * (3 * (4 * a + b) + 0) + i - 158 * (3 * (4 * a + b) + 0) = i by omega, eI5]
                    unfold s_snd
                    by_cases e6 : i = 6
                    · subst e6; rw [q_usk, if_pos rfl]
                    · rw [q_usn e6, if_neg e6, f4 207 (by decide) (by decide) (by decide) (by decide), f3 207 (by decide) (by decide) (by decide)]
                      by_cases c2 : 22 ≤ i ∧ i < 30
                      · obtain ⟨k, rfl⟩ : ∃ k, i = 22 + k := ⟨i - 22, by omega⟩
                        rw [b2 k (by omega), if_pos c2, show 22 + k - 22 = k by omega]
                        exact g_mix_c (fun j hj => hr (22 + j) (by omega)) _ _ _ _ (by omega)
                      · rw [if_neg c2, g2 i (by omega)]; exact hr i (by omega)
                  · rw [if_neg c1, g6 j (by omega), eI5, q_un (by decide), f4 205 (by decide) (by decide) (by decide) (by decide), f3 205 (by decide) (by decide) (by decide), f2 205 (by decide) (by decide) (by decide) (by decide) (by decide), f1 205 (by decide)]
                · rw [f6 y e5, f_save_n e5, eI5, q_un (by omega), f4 y (by omega) (by omega) (by omega) (by omega), f3 y (by omega) (by omega) (by omega), f2 y (by omega) (by omega) (by omega) (by omega) (by omega), f1 y (by omega)]
              · show q_up I6 192 16 (nI (E + 1)) 192 16 = q_up (f_save (4 * a + b) 0 (s_snd r) I) 192 16 (nI (E + 1)) 192 16
                rw [q_usk, q_usk]
              · rw [q_un (by omega), f6 y (by omega), eI5, q_un (by omega), f4 y (by omega) (by omega) (by omega) (by omega), f3 y (by omega) (by omega) (by omega), f2 y (by omega) (by omega) (by omega) (by omega) (by omega), f1 y (by omega)]
            · skip
              have hun : g_un r = true := decide_eq_true ⟨h111, h121⟩
              refine q_k 4 ?_
              show q_W L (d + 4) 111 q_m111 Q 132 [some (.ref 192), some (.int (nI a)), some (.int (nI b)), some (.long z), none, some (.int (nI (4 * a + b))), some (.int (nI (12 * E))), some (.int (nI 1))] [.ref 192] (n, I1, q_up (q_up J2 208 (12 * E) ((nI a).toInt64)) 208 (12 * E + 1) ((nI b).toInt64), R) 0 0
              refine q_gR (b := 208) rfl rfl (⟨Nat.lt_of_lt_of_le (by decide) hK.1, rfl⟩) (hK.2.1 192 15 208 rfl) ?_
              refine q_k 3 ?_
              show q_W L (d + 4) 111 q_m111 Q 139 [some (.ref 192), some (.int (nI a)), some (.int (nI b)), some (.long z), none, some (.int (nI (4 * a + b))), some (.int (nI (12 * E))), some (.int (nI 1))] [.int ((nI (12 * E)) + (nI 2)), .ref 208] (n, I1, q_up (q_up J2 208 (12 * E) ((nI a).toInt64)) 208 (12 * E + 1) ((nI b).toInt64), R) 0 0
              refine q_top (w := nI (12 * E + 2)) (nI_add _ _) ?_
              refine q_k 1 ?_
              show q_W L (d + 4) 111 q_m111 Q 141 [some (.ref 192), some (.int (nI a)), some (.int (nI b)), some (.long z), none, some (.int (nI (4 * a + b))), some (.int (nI (12 * E))), some (.int (nI 1))] [.int (nI 1), .int (nI (12 * E + 2)), .ref 208] (n, I1, q_up (q_up J2 208 (12 * E) ((nI a).toInt64)) 208 (12 * E + 1) ((nI b).toInt64), R) 0 0
              refine q_one rfl rfl ?_
              show ((nI 1) = 0 → q_W L (d + 4) 111 q_m111 Q 148 [some (.ref 192), some (.int (nI a)), some (.int (nI b)), some (.long z), none, some (.int (nI (4 * a + b))), some (.int (nI (12 * E))), some (.int (nI 1))] [.int (nI (12 * E + 2)), .ref 208] (n, I1, q_up (q_up J2 208 (12 * E) ((nI a).toInt64)) 208 (12 * E + 1) ((nI b).toInt64), R) 0 0) ∧ (¬ (nI 1) = 0 → q_W L (d + 4) 111 q_m111 Q 144 [some (.ref 192), some (.int (nI a)), some (.int (nI b)), some (.long z), none, some (.int (nI (4 * a + b))), some (.int (nI (12 * E))), some (.int (nI 1))] [.int (nI (12 * E + 2)), .ref 208] (n, I1, q_up (q_up J2 208 (12 * E) ((nI a).toInt64)) 208 (12 * E + 1) ((nI b).toInt64), R) 0 0)
              refine ⟨fun z => absurd z (by decide), fun _ => ?_⟩
              refine q_k 2 ?_
              show q_W L (d + 4) 111 q_m111 Q 149 [some (.ref 192), some (.int (nI a)), some (.int (nI b)), some (.long z), none, some (.int (nI (4 * a + b))), some (.int (nI (12 * E))), some (.int (nI 1))] [.long (lN 0), .int (nI (12 * E + 2)), .ref 208] (n, I1, q_up (q_up J2 208 (12 * E) ((nI a).toInt64)) 208 (12 * E + 1) ((nI b).toInt64), R) 0 0
              refine q_las (m := 12 * E + 2) rfl (⟨by decide, Nat.lt_of_lt_of_le (by decide) hK.1, rfl⟩) (by omega) (rfl) ?_
              refine q_k 1 ?_
              show q_W L (d + 4) 111 q_m111 Q 152 [some (.ref 192), some (.int (nI a)), some (.int (nI b)), some (.long z), none, some (.int (nI (4 * a + b))), some (.int (nI (12 * E))), some (.int (nI 1))] [.int (nI 1)] (n, I1, q_up (q_up (q_up J2 208 (12 * E) ((nI a).toInt64)) 208 (12 * E + 1) ((nI b).toInt64)) 208 (12 * E + 2) (lN 0), R) 0 0
              refine q_one rfl rfl ?_
              show ((nI 1) = 0 → q_W L (d + 4) 111 q_m111 Q 226 [some (.ref 192), some (.int (nI a)), some (.int (nI b)), some (.long z), none, some (.int (nI (4 * a + b))), some (.int (nI (12 * E))), some (.int (nI 1))] [] (n, I1, q_up (q_up (q_up J2 208 (12 * E) ((nI a).toInt64)) 208 (12 * E + 1) ((nI b).toInt64)) 208 (12 * E + 2) (lN 0), R) 0 0) ∧ (¬ (nI 1) = 0 → q_W L (d + 4) 111 q_m111 Q 155 [some (.ref 192), some (.int (nI a)), some (.int (nI b)), some (.long z), none, some (.int (nI (4 * a + b))), some (.int (nI (12 * E))), some (.int (nI 1))] [] (n, I1, q_up (q_up (q_up J2 208 (12 * E) ((nI a).toInt64)) 208 (12 * E + 1) ((nI b).toInt64)) 208 (12 * E + 2) (lN 0), R) 0 0)
              refine ⟨fun z => absurd z (by decide), fun _ => ?_⟩
              refine q_k 1 ?_
              show q_W L (d + 4) 111 q_m111 Q 156 [some (.ref 192), some (.int (nI a)), some (.int (nI b)), some (.long z), none, some (.int (nI (4 * a + b))), some (.int (nI (12 * E))), some (.int (nI 1))] [.ref 192] (n, I1, q_up (q_up (q_up J2 208 (12 * E) ((nI a).toInt64)) 208 (12 * E + 1) ((nI b).toInt64)) 208 (12 * E + 2) (lN 0), R) 0 0
              refine q_gR (b := 208) rfl rfl (⟨Nat.lt_of_lt_of_le (by decide) hK.1, rfl⟩) (hK.2.1 192 15 208 rfl) ?_
              refine q_k 3 ?_
              show q_W L (d + 4) 111 q_m111 Q 163 [some (.ref 192), some (.int (nI a)), some (.int (nI b)), some (.long z), none, some (.int (nI (4 * a + b))), some (.int (nI (12 * E))), some (.int (nI 1))] [.int ((nI (12 * E)) + (nI 3)), .ref 208] (n, I1, q_up (q_up (q_up J2 208 (12 * E) ((nI a).toInt64)) 208 (12 * E + 1) ((nI b).toInt64)) 208 (12 * E + 2) (lN 0), R) 0 0
              refine q_top (w := nI (12 * E + 3)) (nI_add _ _) ?_
              refine q_k 1 ?_
              show q_W L (d + 4) 111 q_m111 Q 164 [some (.ref 192), some (.int (nI a)), some (.int (nI b)), some (.long z), none, some (.int (nI (4 * a + b))), some (.int (nI (12 * E))), some (.int (nI 1))] [.ref 192, .int (nI (12 * E + 3)), .ref 208] (n, I1, q_up (q_up (q_up J2 208 (12 * E) ((nI a).toInt64)) 208 (12 * E + 1) ((nI b).toInt64)) 208 (12 * E + 2) (lN 0), R) 0 0
              refine q_gR (b := 197) rfl rfl (⟨Nat.lt_of_lt_of_le (by decide) hK.1, rfl⟩) (hK.2.1 192 4 197 rfl) ?_
              refine q_k 3 ?_
              show q_W L (d + 4) 111 q_m111 Q 170 [some (.ref 192), some (.int (nI a)), some (.int (nI b)), some (.long z), none, some (.int (nI (4 * a + b))), some (.int (nI (12 * E))), some (.int (nI 1))] [.int ((nI 2) * (nI a)), .ref 197, .int (nI (12 * E + 3)), .ref 208] (n, I1, q_up (q_up (q_up J2 208 (12 * E) ((nI a).toInt64)) 208 (12 * E + 1) ((nI b).toInt64)) 208 (12 * E + 2) (lN 0), R) 0 0
              refine q_top (w := nI (2 * a)) (pk_mul _ _) ?_
              refine q_k 2 ?_
              show q_W L (d + 4) 111 q_m111 Q 172 [some (.ref 192), some (.int (nI a)), some (.int (nI b)), some (.long z), none, some (.int (nI (4 * a + b))), some (.int (nI (12 * E))), some (.int (nI 1))] [.int ((nI (2 * a)) + (nI 1)), .ref 197, .int (nI (12 * E + 3)), .ref 208] (n, I1, q_up (q_up (q_up J2 208 (12 * E) ((nI a).toInt64)) 208 (12 * E + 1) ((nI b).toInt64)) 208 (12 * E + 2) (lN 0), R) 0 0
              refine q_top (w := nI (2 * a + 1)) (nI_add _ _) ?_
              refine q_ial (m := 2 * a + 1) rfl (⟨by decide, Nat.lt_of_lt_of_le (by decide) hK.1, rfl⟩) (by omega) (rfl) ?_
              refine q_top (w := I 197 (2 * a + 1)) (by rw [f1 197 (by decide)]) ?_
              refine q_k 1 ?_
              show q_W L (d + 4) 111 q_m111 Q 174 [some (.ref 192), some (.int (nI a)), some (.int (nI b)), some (.long z), none, some (.int (nI (4 * a + b))), some (.int (nI (12 * E))), some (.int (nI 1))] [.long ((I 197 (2 * a + 1)).toInt64), .int (nI (12 * E + 3)), .ref 208] (n, I1, q_up (q_up (q_up J2 208 (12 * E) ((nI a).toInt64)) 208 (12 * E + 1) ((nI b).toInt64)) 208 (12 * E + 2) (lN 0), R) 0 0
              refine q_las (m := 12 * E + 3) rfl (⟨by decide, Nat.lt_of_lt_of_le (by decide) hK.1, rfl⟩) (by omega) (rfl) ?_
              refine q_k 1 ?_
              show q_W L (d + 4) 111 q_m111 Q 176 [some (.ref 192), some (.int (nI a)), some (.int (nI b)), some (.long z), none, some (.int (nI (4 * a + b))), some (.int (nI (12 * E))), some (.int (nI 1))] [.ref 192] (n, I1, q_up (q_up (q_up (q_up J2 208 (12 * E) ((nI a).toInt64)) 208 (12 * E + 1) ((nI b).toInt64)) 208 (12 * E + 2) (lN 0)) 208 (12 * E + 3) ((I 197 (2 * a + 1)).toInt64), R) 0 0
              refine q_gR (b := 208) rfl rfl (⟨Nat.lt_of_lt_of_le (by decide) hK.1, rfl⟩) (hK.2.1 192 15 208 rfl) ?_
              refine q_k 3 ?_
              show q_W L (d + 4) 111 q_m111 Q 183 [some (.ref 192), some (.int (nI a)), some (.int (nI b)), some (.long z), none, some (.int (nI (4 * a + b))), some (.int (nI (12 * E))), some (.int (nI 1))] [.int ((nI (12 * E)) + (nI 4)), .ref 208] (n, I1, q_up (q_up (q_up (q_up J2 208 (12 * E) ((nI a).toInt64)) 208 (12 * E + 1) ((nI b).toInt64)) 208 (12 * E + 2) (lN 0)) 208 (12 * E + 3) ((I 197 (2 * a + 1)).toInt64), R) 0 0
              refine q_top (w := nI (12 * E + 4)) (nI_add _ _) ?_
              refine q_k 1 ?_
              show q_W L (d + 4) 111 q_m111 Q 184 [some (.ref 192), some (.int (nI a)), some (.int (nI b)), some (.long z), none, some (.int (nI (4 * a + b))), some (.int (nI (12 * E))), some (.int (nI 1))] [.ref 192, .int (nI (12 * E + 4)), .ref 208] (n, I1, q_up (q_up (q_up (q_up J2 208 (12 * E) ((nI a).toInt64)) 208 (12 * E + 1) ((nI b).toInt64)) 208 (12 * E + 2) (lN 0)) 208 (12 * E + 3) ((I 197 (2 * a + 1)).toInt64), R) 0 0
              refine q_gR (b := 207) rfl rfl (⟨Nat.lt_of_lt_of_le (by decide) hK.1, rfl⟩) (hK.2.1 192 14 207 rfl) ?_
              refine q_k 1 ?_
              show q_W L (d + 4) 111 q_m111 Q 188 [some (.ref 192), some (.int (nI a)), some (.int (nI b)), some (.long z), none, some (.int (nI (4 * a + b))), some (.int (nI (12 * E))), some (.int (nI 1))] [.int (nI 0), .ref 207, .int (nI (12 * E + 4)), .ref 208] (n, I1, q_up (q_up (q_up (q_up J2 208 (12 * E) ((nI a).toInt64)) 208 (12 * E + 1) ((nI b).toInt64)) 208 (12 * E + 2) (lN 0)) 208 (12 * E + 3) ((I 197 (2 * a + 1)).toInt64), R) 0 0
              refine q_ial (m := 0) rfl (⟨by decide, Nat.lt_of_lt_of_le (by decide) hK.1, rfl⟩) (by decide) (rfl) ?_
              refine q_top (w := r 0) (hr 0 (by decide)) ?_
              refine q_k 1 ?_
              show q_W L (d + 4) 111 q_m111 Q 190 [some (.ref 192), some (.int (nI a)), some (.int (nI b)), some (.long z), none, some (.int (nI (4 * a + b))), some (.int (nI (12 * E))), some (.int (nI 1))] [.long ((r 0).toInt64), .int (nI (12 * E + 4)), .ref 208] (n, I1, q_up (q_up (q_up (q_up J2 208 (12 * E) ((nI a).toInt64)) 208 (12 * E + 1) ((nI b).toInt64)) 208 (12 * E + 2) (lN 0)) 208 (12 * E + 3) ((I 197 (2 * a + 1)).toInt64), R) 0 0
              refine q_las (m := 12 * E + 4) rfl (⟨by decide, Nat.lt_of_lt_of_le (by decide) hK.1, rfl⟩) (by omega) (rfl) ?_
              refine q_k 1 ?_
              show q_W L (d + 4) 111 q_m111 Q 192 [some (.ref 192), some (.int (nI a)), some (.int (nI b)), some (.long z), none, some (.int (nI (4 * a + b))), some (.int (nI (12 * E))), some (.int (nI 1))] [.ref 192] (n, I1, q_up (q_up (q_up (q_up (q_up J2 208 (12 * E) ((nI a).toInt64)) 208 (12 * E + 1) ((nI b).toInt64)) 208 (12 * E + 2) (lN 0)) 208 (12 * E + 3) ((I 197 (2 * a + 1)).toInt64)) 208 (12 * E + 4) ((r 0).toInt64), R) 0 0
              refine q_gR (b := 208) rfl rfl (⟨Nat.lt_of_lt_of_le (by decide) hK.1, rfl⟩) (hK.2.1 192 15 208 rfl) ?_
              refine q_k 3 ?_
              show q_W L (d + 4) 111 q_m111 Q 199 [some (.ref 192), some (.int (nI a)), some (.int (nI b)), some (.long z), none, some (.int (nI (4 * a + b))), some (.int (nI (12 * E))), some (.int (nI 1))] [.int ((nI (12 * E)) + (nI 5)), .ref 208] (n, I1, q_up (q_up (q_up (q_up (q_up J2 208 (12 * E) ((nI a).toInt64)) 208 (12 * E + 1) ((nI b).toInt64)) 208 (12 * E + 2) (lN 0)) 208 (12 * E + 3) ((I 197 (2 * a + 1)).toInt64)) 208 (12 * E + 4) ((r 0).toInt64), R) 0 0
              refine q_top (w := nI (12 * E + 5)) (nI_add _ _) ?_
              refine q_k 1 ?_
              show q_W L (d + 4) 111 q_m111 Q 200 [some (.ref 192), some (.int (nI a)), some (.int (nI b)), some (.long z), none, some (.int (nI (4 * a + b))), some (.int (nI (12 * E))), some (.int (nI 1))] [.ref 192, .int (nI (12 * E + 5)), .ref 208] (n, I1, q_up (q_up (q_up (q_up (q_up J2 208 (12 * E) ((nI a).toInt64)) 208 (12 * E + 1) ((nI b).toInt64)) 208 (12 * E + 2) (lN 0)) 208 (12 * E + 3) ((I 197 (2 * a + 1)).toInt64)) 208 (12 * E + 4) ((r 0).toInt64), R) 0 0
              refine q_gR (b := 207) rfl rfl (⟨Nat.lt_of_lt_of_le (by decide) hK.1, rfl⟩) (hK.2.1 192 14 207 rfl) ?_
              refine q_k 1 ?_
              show q_W L (d + 4) 111 q_m111 Q 205 [some (.ref 192), some (.int (nI a)), some (.int (nI b)), some (.long z), none, some (.int (nI (4 * a + b))), some (.int (nI (12 * E))), some (.int (nI 1))] [.int (nI 12), .ref 207, .int (nI (12 * E + 5)), .ref 208] (n, I1, q_up (q_up (q_up (q_up (q_up J2 208 (12 * E) ((nI a).toInt64)) 208 (12 * E + 1) ((nI b).toInt64)) 208 (12 * E + 2) (lN 0)) 208 (12 * E + 3) ((I 197 (2 * a + 1)).toInt64)) 208 (12 * E + 4) ((r 0).toInt64), R) 0 0
              refine q_ial (m := 12) rfl (⟨by decide, Nat.lt_of_lt_of_le (by decide) hK.1, rfl⟩) (by decide) (rfl) ?_
              refine q_top (w := r 12) (hr 12 (by decide)) ?_
              refine q_k 1 ?_
              show q_W L (d + 4) 111 q_m111 Q 207 [some (.ref 192), some (.int (nI a)), some (.int (nI b)), some (.long z), none, some (.int (nI (4 * a + b))), some (.int (nI (12 * E))), some (.int (nI 1))] [.long ((r 12).toInt64), .int (nI (12 * E + 5)), .ref 208] (n, I1, q_up (q_up (q_up (q_up (q_up J2 208 (12 * E) ((nI a).toInt64)) 208 (12 * E + 1) ((nI b).toInt64)) 208 (12 * E + 2) (lN 0)) 208 (12 * E + 3) ((I 197 (2 * a + 1)).toInt64)) 208 (12 * E + 4) ((r 0).toInt64), R) 0 0
              refine q_las (m := 12 * E + 5) rfl (⟨by decide, Nat.lt_of_lt_of_le (by decide) hK.1, rfl⟩) (by omega) (rfl) ?_
              refine q_k 1 ?_
              show q_W L (d + 4) 111 q_m111 Q 209 [some (.ref 192), some (.int (nI a)), some (.int (nI b)), some (.long z), none, some (.int (nI (4 * a + b))), some (.int (nI (12 * E))), some (.int (nI 1))] [.ref 192] (n, I1, q_up (q_up (q_up (q_up (q_up (q_up J2 208 (12 * E) ((nI a).toInt64)) 208 (12 * E + 1) ((nI b).toInt64)) 208 (12 * E + 2) (lN 0)) 208 (12 * E + 3) ((I 197 (2 * a + 1)).toInt64)) 208 (12 * E + 4) ((r 0).toInt64)) 208 (12 * E + 5) ((r 12).toInt64), R) 0 0
              refine q_gR (b := 208) rfl rfl (⟨Nat.lt_of_lt_of_le (by decide) hK.1, rfl⟩) (hK.2.1 192 15 208 rfl) ?_
              refine q_k 3 ?_
              show q_W L (d + 4) 111 q_m111 Q 217 [some (.ref 192), some (.int (nI a)), some (.int (nI b)), some (.long z), none, some (.int (nI (4 * a + b))), some (.int (nI (12 * E))), some (.int (nI 1))] [.int ((nI (12 * E)) + (nI 6)), .ref 208] (n, I1, q_up (q_up (q_up (q_up (q_up (q_up J2 208 (12 * E) ((nI a).toInt64)) 208 (12 * E + 1) ((nI b).toInt64)) 208 (12 * E + 2) (lN 0)) 208 (12 * E + 3) ((I 197 (2 * a + 1)).toInt64)) 208 (12 * E + 4) ((r 0).toInt64)) 208 (12 * E + 5) ((r 12).toInt64), R) 0 0
              refine q_top (w := nI (12 * E + 6)) (nI_add _ _) ?_
              refine q_k 1 ?_
              show q_W L (d + 4) 111 q_m111 Q 218 [some (.ref 192), some (.int (nI a)), some (.int (nI b)), some (.long z), none, some (.int (nI (4 * a + b))), some (.int (nI (12 * E))), some (.int (nI 1))] [.ref 192, .int (nI (12 * E + 6)), .ref 208] (n, I1, q_up (q_up (q_up (q_up (q_up (q_up J2 208 (12 * E) ((nI a).toInt64)) 208 (12 * E + 1) ((nI b).toInt64)) 208 (12 * E + 2) (lN 0)) 208 (12 * E + 3) ((I 197 (2 * a + 1)).toInt64)) 208 (12 * E + 4) ((r 0).toInt64)) 208 (12 * E + 5) ((r 12).toInt64), R) 0 0
              refine q_gR (b := 207) rfl rfl (⟨Nat.lt_of_lt_of_le (by decide) hK.1, rfl⟩) (hK.2.1 192 14 207 rfl) ?_
              refine q_k 1 ?_
              show q_W L (d + 4) 111 q_m111 Q 223 [some (.ref 192), some (.int (nI a)), some (.int (nI b)), some (.long z), none, some (.int (nI (4 * a + b))), some (.int (nI (12 * E))), some (.int (nI 1))] [.int (nI 13), .ref 207, .int (nI (12 * E + 6)), .ref 208] (n, I1, q_up (q_up (q_up (q_up (q_up (q_up J2 208 (12 * E) ((nI a).toInt64)) 208 (12 * E + 1) ((nI b).toInt64)) 208 (12 * E + 2) (lN 0)) 208 (12 * E + 3) ((I 197 (2 * a + 1)).toInt64)) 208 (12 * E + 4) ((r 0).toInt64)) 208 (12 * E + 5) ((r 12).toInt64), R) 0 0
              refine q_ial (m := 13) rfl (⟨by decide, Nat.lt_of_lt_of_le (by decide) hK.1, rfl⟩) (by decide) (rfl) ?_
              refine q_top (w := r 13) (hr 13 (by decide)) ?_
              refine q_k 1 ?_
              show q_W L (d + 4) 111 q_m111 Q 225 [some (.ref 192), some (.int (nI a)), some (.int (nI b)), some (.long z), none, some (.int (nI (4 * a + b))), some (.int (nI (12 * E))), some (.int (nI 1))] [.long ((r 13).toInt64), .int (nI (12 * E + 6)), .ref 208] (n, I1, q_up (q_up (q_up (q_up (q_up (q_up J2 208 (12 * E) ((nI a).toInt64)) 208 (12 * E + 1) ((nI b).toInt64)) 208 (12 * E + 2) (lN 0)) 208 (12 * E + 3) ((I 197 (2 * a + 1)).toInt64)) 208 (12 * E + 4) ((r 0).toInt64)) 208 (12 * E + 5) ((r 12).toInt64), R) 0 0
              refine q_las (m := 12 * E + 6) rfl (⟨by decide, Nat.lt_of_lt_of_le (by decide) hK.1, rfl⟩) (by omega) (rfl) ?_
              refine q_k 1 ?_
              show q_W L (d + 4) 111 q_m111 Q 227 [some (.ref 192), some (.int (nI a)), some (.int (nI b)), some (.long z), none, some (.int (nI (4 * a + b))), some (.int (nI (12 * E))), some (.int (nI 1))] [.ref 192] (n, I1, q_up (q_up (q_up (q_up (q_up (q_up (q_up J2 208 (12 * E) ((nI a).toInt64)) 208 (12 * E + 1) ((nI b).toInt64)) 208 (12 * E + 2) (lN 0)) 208 (12 * E + 3) ((I 197 (2 * a + 1)).toInt64)) 208 (12 * E + 4) ((r 0).toInt64)) 208 (12 * E + 5) ((r 12).toInt64)) 208 (12 * E + 6) ((r 13).toInt64), R) 0 0
              refine q_gR (b := 208) rfl rfl (⟨Nat.lt_of_lt_of_le (by decide) hK.1, rfl⟩) (hK.2.1 192 15 208 rfl) ?_
              refine q_k 3 ?_
              show q_W L (d + 4) 111 q_m111 Q 235 [some (.ref 192), some (.int (nI a)), some (.int (nI b)), some (.long z), none, some (.int (nI (4 * a + b))), some (.int (nI (12 * E))), some (.int (nI 1))] [.int ((nI (12 * E)) + (nI 7)), .ref 208] (n, I1, q_up (q_up (q_up (q_up (q_up (q_up (q_up J2 208 (12 * E) ((nI a).toInt64)) 208 (12 * E + 1) ((nI b).toInt64)) 208 (12 * E + 2) (lN 0)) 208 (12 * E + 3) ((I 197 (2 * a + 1)).toInt64)) 208 (12 * E + 4) ((r 0).toInt64)) 208 (12 * E + 5) ((r 12).toInt64)) 208 (12 * E + 6) ((r 13).toInt64), R) 0 0
              refine q_top (w := nI (12 * E + 7)) (nI_add _ _) ?_
              refine q_k 1 ?_
              show q_W L (d + 4) 111 q_m111 Q 236 [some (.ref 192), some (.int (nI a)), some (.int (nI b)), some (.long z), none, some (.int (nI (4 * a + b))), some (.int (nI (12 * E))), some (.int (nI 1))] [.ref 192, .int (nI (12 * E + 7)), .ref 208] (n, I1, q_up (q_up (q_up (q_up (q_up (q_up (q_up J2 208 (12 * E) ((nI a).toInt64)) 208 (12 * E + 1) ((nI b).toInt64)) 208 (12 * E + 2) (lN 0)) 208 (12 * E + 3) ((I 197 (2 * a + 1)).toInt64)) 208 (12 * E + 4) ((r 0).toInt64)) 208 (12 * E + 5) ((r 12).toInt64)) 208 (12 * E + 6) ((r 13).toInt64), R) 0 0
              refine q_gR (b := 207) rfl rfl (⟨Nat.lt_of_lt_of_le (by decide) hK.1, rfl⟩) (hK.2.1 192 14 207 rfl) ?_
              refine q_k 1 ?_
              show q_W L (d + 4) 111 q_m111 Q 240 [some (.ref 192), some (.int (nI a)), some (.int (nI b)), some (.long z), none, some (.int (nI (4 * a + b))), some (.int (nI (12 * E))), some (.int (nI 1))] [.int (nI 3), .ref 207, .int (nI (12 * E + 7)), .ref 208] (n, I1, q_up (q_up (q_up (q_up (q_up (q_up (q_up J2 208 (12 * E) ((nI a).toInt64)) 208 (12 * E + 1) ((nI b).toInt64)) 208 (12 * E + 2) (lN 0)) 208 (12 * E + 3) ((I 197 (2 * a + 1)).toInt64)) 208 (12 * E + 4) ((r 0).toInt64)) 208 (12 * E + 5) ((r 12).toInt64)) 208 (12 * E + 6) ((r 13).toInt64), R) 0 0
              refine q_ial (m := 3) rfl (⟨by decide, Nat.lt_of_lt_of_le (by decide) hK.1, rfl⟩) (by decide) (rfl) ?_
              refine q_top (w := r 3) (hr 3 (by decide)) ?_
              refine q_k 1 ?_
              show q_W L (d + 4) 111 q_m111 Q 242 [some (.ref 192), some (.int (nI a)), some (.int (nI b)), some (.long z), none, some (.int (nI (4 * a + b))), some (.int (nI (12 * E))), some (.int (nI 1))] [.long ((r 3).toInt64), .int (nI (12 * E + 7)), .ref 208] (n, I1, q_up (q_up (q_up (q_up (q_up (q_up (q_up J2 208 (12 * E) ((nI a).toInt64)) 208 (12 * E + 1) ((nI b).toInt64)) 208 (12 * E + 2) (lN 0)) 208 (12 * E + 3) ((I 197 (2 * a + 1)).toInt64)) 208 (12 * E + 4) ((r 0).toInt64)) 208 (12 * E + 5) ((r 12).toInt64)) 208 (12 * E + 6) ((r 13).toInt64), R) 0 0
              refine q_las (m := 12 * E + 7) rfl (⟨by decide, Nat.lt_of_lt_of_le (by decide) hK.1, rfl⟩) (by omega) (rfl) ?_
              refine q_k 1 ?_
              show q_W L (d + 4) 111 q_m111 Q 244 [some (.ref 192), some (.int (nI a)), some (.int (nI b)), some (.long z), none, some (.int (nI (4 * a + b))), some (.int (nI (12 * E))), some (.int (nI 1))] [.ref 192] (n, I1, q_up (q_up (q_up (q_up (q_up (q_up (q_up (q_up J2 208 (12 * E) ((nI a).toInt64)) 208 (12 * E + 1) ((nI b).toInt64)) 208 (12 * E + 2) (lN 0)) 208 (12 * E + 3) ((I 197 (2 * a + 1)).toInt64)) 208 (12 * E + 4) ((r 0).toInt64)) 208 (12 * E + 5) ((r 12).toInt64)) 208 (12 * E + 6) ((r 13).toInt64)) 208 (12 * E + 7) ((r 3).toInt64), R) 0 0
              refine q_gR (b := 208) rfl rfl (⟨Nat.lt_of_lt_of_le (by decide) hK.1, rfl⟩) (hK.2.1 192 15 208 rfl) ?_
              refine q_k 3 ?_
              show q_W L (d + 4) 111 q_m111 Q 252 [some (.ref 192), some (.int (nI a)), some (.int (nI b)), some (.long z), none, some (.int (nI (4 * a + b))), some (.int (nI (12 * E))), some (.int (nI 1))] [.int ((nI (12 * E)) + (nI 8)), .ref 208] (n, I1, q_up (q_up (q_up (q_up (q_up (q_up (q_up (q_up J2 208 (12 * E) ((nI a).toInt64)) 208 (12 * E + 1) ((nI b).toInt64)) 208 (12 * E + 2) (lN 0)) 208 (12 * E + 3) ((I 197 (2 * a + 1)).toInt64)) 208 (12 * E + 4) ((r 0).toInt64)) 208 (12 * E + 5) ((r 12).toInt64)) 208 (12 * E + 6) ((r 13).toInt64)) 208 (12 * E + 7) ((r 3).toInt64), R) 0 0
              refine q_top (w := nI (12 * E + 8)) (nI_add _ _) ?_
              refine q_k 1 ?_
              show q_W L (d + 4) 111 q_m111 Q 253 [some (.ref 192), some (.int (nI a)), some (.int (nI b)), some (.long z), none, some (.int (nI (4 * a + b))), some (.int (nI (12 * E))), some (.int (nI 1))] [.ref 192, .int (nI (12 * E + 8)), .ref 208] (n, I1, q_up (q_up (q_up (q_up (q_up (q_up (q_up (q_up J2 208 (12 * E) ((nI a).toInt64)) 208 (12 * E + 1) ((nI b).toInt64)) 208 (12 * E + 2) (lN 0)) 208 (12 * E + 3) ((I 197 (2 * a + 1)).toInt64)) 208 (12 * E + 4) ((r 0).toInt64)) 208 (12 * E + 5) ((r 12).toInt64)) 208 (12 * E + 6) ((r 13).toInt64)) 208 (12 * E + 7) ((r 3).toInt64), R) 0 0
              refine q_gR (b := 207) rfl rfl (⟨Nat.lt_of_lt_of_le (by decide) hK.1, rfl⟩) (hK.2.1 192 14 207 rfl) ?_
              refine q_k 1 ?_
              show q_W L (d + 4) 111 q_m111 Q 258 [some (.ref 192), some (.int (nI a)), some (.int (nI b)), some (.long z), none, some (.int (nI (4 * a + b))), some (.int (nI (12 * E))), some (.int (nI 1))] [.int (nI 6), .ref 207, .int (nI (12 * E + 8)), .ref 208] (n, I1, q_up (q_up (q_up (q_up (q_up (q_up (q_up (q_up J2 208 (12 * E) ((nI a).toInt64)) 208 (12 * E + 1) ((nI b).toInt64)) 208 (12 * E + 2) (lN 0)) 208 (12 * E + 3) ((I 197 (2 * a + 1)).toInt64)) 208 (12 * E + 4) ((r 0).toInt64)) 208 (12 * E + 5) ((r 12).toInt64)) 208 (12 * E + 6) ((r 13).toInt64)) 208 (12 * E + 7) ((r 3).toInt64), R) 0 0
              refine q_ial (m := 6) rfl (⟨by decide, Nat.lt_of_lt_of_le (by decide) hK.1, rfl⟩) (by decide) (rfl) ?_
              refine q_top (w := r 6) (hr 6 (by decide)) ?_
              refine q_k 1 ?_
              show q_W L (d + 4) 111 q_m111 Q 260 [some (.ref 192), some (.int (nI a)), some (.int (nI b)), some (.long z), none, some (.int (nI (4 * a + b))), some (.int (nI (12 * E))), some (.int (nI 1))] [.long ((r 6).toInt64), .int (nI (12 * E + 8)), .ref 208] (n, I1, q_up (q_up (q_up (q_up (q_up (q_up (q_up (q_up J2 208 (12 * E) ((nI a).toInt64)) 208 (12 * E + 1) ((nI b).toInt64)) 208 (12 * E + 2) (lN 0)) 208 (12 * E + 3) ((I 197 (2 * a + 1)).toInt64)) 208 (12 * E + 4) ((r 0).toInt64)) 208 (12 * E + 5) ((r 12).toInt64)) 208 (12 * E + 6) ((r 13).toInt64)) 208 (12 * E + 7) ((r 3).toInt64), R) 0 0
              refine q_las (m := 12 * E + 8) rfl (⟨by decide, Nat.lt_of_lt_of_le (by decide) hK.1, rfl⟩) (by omega) (rfl) ?_
              refine q_k 1 ?_
              show q_W L (d + 4) 111 q_m111 Q 262 [some (.ref 192), some (.int (nI a)), some (.int (nI b)), some (.long z), none, some (.int (nI (4 * a + b))), some (.int (nI (12 * E))), some (.int (nI 1))] [.ref 192] (n, I1, q_up (q_up (q_up (q_up (q_up (q_up (q_up (q_up (q_up J2 208 (12 * E) ((nI a).toInt64)) 208 (12 * E + 1) ((nI b).toInt64)) 208 (12 * E + 2) (lN 0)) 208 (12 * E + 3) ((I 197 (2 * a + 1)).toInt64)) 208 (12 * E + 4) ((r 0).toInt64)) 208 (12 * E + 5) ((r 12).toInt64)) 208 (12 * E + 6) ((r 13).toInt64)) 208 (12 * E + 7) ((r 3).toInt64)) 208 (12 * E + 8) ((r 6).toInt64), R) 0 0
              refine q_gR (b := 208) rfl rfl (⟨Nat.lt_of_lt_of_le (by decide) hK.1, rfl⟩) (hK.2.1 192 15 208 rfl) ?_
              refine q_k 3 ?_
              show q_W L (d + 4) 111 q_m111 Q 270 [some (.ref 192), some (.int (nI a)), some (.int (nI b)), some (.long z), none, some (.int (nI (4 * a + b))), some (.int (nI (12 * E))), some (.int (nI 1))] [.int ((nI (12 * E)) + (nI 9)), .ref 208] (n, I1, q_up (q_up (q_up (q_up (q_up (q_up (q_up (q_up (q_up J2 208 (12 * E) ((nI a).toInt64)) 208 (12 * E + 1) ((nI b).toInt64)) 208 (12 * E + 2) (lN 0)) 208 (12 * E + 3) ((I 197 (2 * a + 1)).toInt64)) 208 (12 * E + 4) ((r 0).toInt64)) 208 (12 * E + 5) ((r 12).toInt64)) 208 (12 * E + 6) ((r 13).toInt64)) 208 (12 * E + 7) ((r 3).toInt64)) 208 (12 * E + 8) ((r 6).toInt64), R) 0 0
              refine q_top (w := nI (12 * E + 9)) (nI_add _ _) ?_
              refine q_k 1 ?_
              show q_W L (d + 4) 111 q_m111 Q 271 [some (.ref 192), some (.int (nI a)), some (.int (nI b)), some (.long z), none, some (.int (nI (4 * a + b))), some (.int (nI (12 * E))), some (.int (nI 1))] [.ref 192, .int (nI (12 * E + 9)), .ref 208] (n, I1, q_up (q_up (q_up (q_up (q_up (q_up (q_up (q_up (q_up J2 208 (12 * E) ((nI a).toInt64)) 208 (12 * E + 1) ((nI b).toInt64)) 208 (12 * E + 2) (lN 0)) 208 (12 * E + 3) ((I 197 (2 * a + 1)).toInt64)) 208 (12 * E + 4) ((r 0).toInt64)) 208 (12 * E + 5) ((r 12).toInt64)) 208 (12 * E + 6) ((r 13).toInt64)) 208 (12 * E + 7) ((r 3).toInt64)) 208 (12 * E + 8) ((r 6).toInt64), R) 0 0
              refine q_gR (b := 207) rfl rfl (⟨Nat.lt_of_lt_of_le (by decide) hK.1, rfl⟩) (hK.2.1 192 14 207 rfl) ?_
              refine q_k 1 ?_
              show q_W L (d + 4) 111 q_m111 Q 276 [some (.ref 192), some (.int (nI a)), some (.int (nI b)), some (.long z), none, some (.int (nI (4 * a + b))), some (.int (nI (12 * E))), some (.int (nI 1))] [.int (nI 8), .ref 207, .int (nI (12 * E + 9)), .ref 208] (n, I1, q_up (q_up (q_up (q_up (q_up (q_up (q_up (q_up (q_up J2 208 (12 * E) ((nI a).toInt64)) 208 (12 * E + 1) ((nI b).toInt64)) 208 (12 * E + 2) (lN 0)) 208 (12 * E + 3) ((I 197 (2 * a + 1)).toInt64)) 208 (12 * E + 4) ((r 0).toInt64)) 208 (12 * E + 5) ((r 12).toInt64)) 208 (12 * E + 6) ((r 13).toInt64)) 208 (12 * E + 7) ((r 3).toInt64)) 208 (12 * E + 8) ((r 6).toInt64), R) 0 0
              refine q_ial (m := 8) rfl (⟨by decide, Nat.lt_of_lt_of_le (by decide) hK.1, rfl⟩) (by decide) (rfl) ?_
              refine q_top (w := r 8) (hr 8 (by decide)) ?_
              refine q_k 1 ?_
              show q_W L (d + 4) 111 q_m111 Q 278 [some (.ref 192), some (.int (nI a)), some (.int (nI b)), some (.long z), none, some (.int (nI (4 * a + b))), some (.int (nI (12 * E))), some (.int (nI 1))] [.long ((r 8).toInt64), .int (nI (12 * E + 9)), .ref 208] (n, I1, q_up (q_up (q_up (q_up (q_up (q_up (q_up (q_up (q_up J2 208 (12 * E) ((nI a).toInt64)) 208 (12 * E + 1) ((nI b).toInt64)) 208 (12 * E + 2) (lN 0)) 208 (12 * E + 3) ((I 197 (2 * a + 1)).toInt64)) 208 (12 * E + 4) ((r 0).toInt64)) 208 (12 * E + 5) ((r 12).toInt64)) 208 (12 * E + 6) ((r 13).toInt64)) 208 (12 * E + 7) ((r 3).toInt64)) 208 (12 * E + 8) ((r 6).toInt64), R) 0 0
              refine q_las (m := 12 * E + 9) rfl (⟨by decide, Nat.lt_of_lt_of_le (by decide) hK.1, rfl⟩) (by omega) (rfl) ?_
              refine q_k 2 ?_
              show q_W L (d + 4) 111 q_m111 Q 282 [some (.ref 192), some (.int (nI a)), some (.int (nI b)), some (.long z), none, some (.int (nI (4 * a + b))), some (.int (nI (12 * E))), some (.int (nI 1))] [.int (nI 22), .ref 192] (n, I1, q_up (q_up (q_up (q_up (q_up (q_up (q_up (q_up (q_up (q_up J2 208 (12 * E) ((nI a).toInt64)) 208 (12 * E + 1) ((nI b).toInt64)) 208 (12 * E + 2) (lN 0)) 208 (12 * E + 3) ((I 197 (2 * a + 1)).toInt64)) 208 (12 * E + 4) ((r 0).toInt64)) 208 (12 * E + 5) ((r 12).toInt64)) 208 (12 * E + 6) ((r 13).toInt64)) 208 (12 * E + 7) ((r 3).toInt64)) 208 (12 * E + 8) ((r 6).toInt64)) 208 (12 * E + 9) ((r 8).toInt64), R) 0 0
              refine q_cv (as := [.int (nI 22)]) (rs := []) rfl rfl rfl (⟨Nat.lt_of_lt_of_le (by decide) hK.1, rfl⟩) rfl rfl ?_
              refine m_take (q_K0_to hK (f1 0 (by decide)) (f1 1 (by decide))) (by decide) (fun I2 a2 b2 g2 f2 => ?_)
              show q_W L (d + 4) 111 q_m111 Q 285 [some (.ref 192), some (.int (nI a)), some (.int (nI b)), some (.long z), none, some (.int (nI (4 * a + b))), some (.int (nI (12 * E))), some (.int (nI 1))] [] (n, I2, q_up (q_up (q_up (q_up (q_up (q_up (q_up (q_up (q_up (q_up J2 208 (12 * E) ((nI a).toInt64)) 208 (12 * E + 1) ((nI b).toInt64)) 208 (12 * E + 2) (lN 0)) 208 (12 * E + 3) ((I 197 (2 * a + 1)).toInt64)) 208 (12 * E + 4) ((r 0).toInt64)) 208 (12 * E + 5) ((r 12).toInt64)) 208 (12 * E + 6) ((r 13).toInt64)) 208 (12 * E + 7) ((r 3).toInt64)) 208 (12 * E + 8) ((r 6).toInt64)) 208 (12 * E + 9) ((r 8).toInt64), R) 0 0
              refine q_k 1 ?_
              show q_W L (d + 4) 111 q_m111 Q 286 [some (.ref 192), some (.int (nI a)), some (.int (nI b)), some (.long z), none, some (.int (nI (4 * a + b))), some (.int (nI (12 * E))), some (.int (nI 1))] [.ref 192] (n, I2, q_up (q_up (q_up (q_up (q_up (q_up (q_up (q_up (q_up (q_up J2 208 (12 * E) ((nI a).toInt64)) 208 (12 * E + 1) ((nI b).toInt64)) 208 (12 * E + 2) (lN 0)) 208 (12 * E + 3) ((I 197 (2 * a + 1)).toInt64)) 208 (12 * E + 4) ((r 0).toInt64)) 208 (12 * E + 5) ((r 12).toInt64)) 208 (12 * E + 6) ((r 13).toInt64)) 208 (12 * E + 7) ((r 3).toInt64)) 208 (12 * E + 8) ((r 6).toInt64)) 208 (12 * E + 9) ((r 8).toInt64), R) 0 0
              refine q_gR (b := 208) rfl rfl (⟨Nat.lt_of_lt_of_le (by decide) hK.1, rfl⟩) (hK.2.1 192 15 208 rfl) ?_
              refine q_k 3 ?_
              show q_W L (d + 4) 111 q_m111 Q 294 [some (.ref 192), some (.int (nI a)), some (.int (nI b)), some (.long z), none, some (.int (nI (4 * a + b))), some (.int (nI (12 * E))), some (.int (nI 1))] [.int ((nI (12 * E)) + (nI 10)), .ref 208] (n, I2, q_up (q_up (q_up (q_up (q_up (q_up (q_up (q_up (q_up (q_up J2 208 (12 * E) ((nI a).toInt64)) 208 (12 * E + 1) ((nI b).toInt64)) 208 (12 * E + 2) (lN 0)) 208 (12 * E + 3) ((I 197 (2 * a + 1)).toInt64)) 208 (12 * E + 4) ((r 0).toInt64)) 208 (12 * E + 5) ((r 12).toInt64)) 208 (12 * E + 6) ((r 13).toInt64)) 208 (12 * E + 7) ((r 3).toInt64)) 208 (12 * E + 8) ((r 6).toInt64)) 208 (12 * E + 9) ((r 8).toInt64), R) 0 0
              refine q_top (w := nI (12 * E + 10)) (nI_add _ _) ?_
              refine q_k 2 ?_
              show q_W L (d + 4) 111 q_m111 Q 296 [some (.ref 192), some (.int (nI a)), some (.int (nI b)), some (.long z), none, some (.int (nI (4 * a + b))), some (.int (nI (12 * E))), some (.int (nI 1))] [.ref 192, .long z, .int (nI (12 * E + 10)), .ref 208] (n, I2, q_up (q_up (q_up (q_up (q_up (q_up (q_up (q_up (q_up (q_up J2 208 (12 * E) ((nI a).toInt64)) 208 (12 * E + 1) ((nI b).toInt64)) 208 (12 * E + 2) (lN 0)) 208 (12 * E + 3) ((I 197 (2 * a + 1)).toInt64)) 208 (12 * E + 4) ((r 0).toInt64)) 208 (12 * E + 5) ((r 12).toInt64)) 208 (12 * E + 6) ((r 13).toInt64)) 208 (12 * E + 7) ((r 3).toInt64)) 208 (12 * E + 8) ((r 6).toInt64)) 208 (12 * E + 9) ((r 8).toInt64), R) 0 0
              refine q_cv (as := []) (rs := [.long z, .int (nI (12 * E + 10)), .ref 208]) rfl rfl rfl (⟨Nat.lt_of_lt_of_le (by decide) hK.1, rfl⟩) rfl rfl ?_
              refine m_mask (q_K0_to hK (by rw [f2 0 (by decide) (by decide) (by decide) (by decide) (by decide), f1 0 (by decide)]) (by rw [f2 1 (by decide) (by decide) (by decide) (by decide) (by decide), f1 1 (by decide)])) (fun I3 f3 => ?_)
              show q_W L (d + 4) 111 q_m111 Q 299 [some (.ref 192), some (.int (nI a)), some (.int (nI b)), some (.long z), none, some (.int (nI (4 * a + b))), some (.int (nI (12 * E))), some (.int (nI 1))] [.long (g_wide (I2 212) (nI 9) (nI 0) (nI 0) (nI 0)), .long z, .int (nI (12 * E + 10)), .ref 208] (n, I3, q_up (q_up (q_up (q_up (q_up (q_up (q_up (q_up (q_up (q_up J2 208 (12 * E) ((nI a).toInt64)) 208 (12 * E + 1) ((nI b).toInt64)) 208 (12 * E + 2) (lN 0)) 208 (12 * E + 3) ((I 197 (2 * a + 1)).toInt64)) 208 (12 * E + 4) ((r 0).toInt64)) 208 (12 * E + 5) ((r 12).toInt64)) 208 (12 * E + 6) ((r 13).toInt64)) 208 (12 * E + 7) ((r 3).toInt64)) 208 (12 * E + 8) ((r 6).toInt64)) 208 (12 * E + 9) ((r 8).toInt64), R) 0 0
              refine q_k 1 ?_
              show q_W L (d + 4) 111 q_m111 Q 300 [some (.ref 192), some (.int (nI a)), some (.int (nI b)), some (.long z), none, some (.int (nI (4 * a + b))), some (.int (nI (12 * E))), some (.int (nI 1))] [.long (z ^^^ (g_wide (I2 212) (nI 9) (nI 0) (nI 0) (nI 0))), .int (nI (12 * E + 10)), .ref 208] (n, I3, q_up (q_up (q_up (q_up (q_up (q_up (q_up (q_up (q_up (q_up J2 208 (12 * E) ((nI a).toInt64)) 208 (12 * E + 1) ((nI b).toInt64)) 208 (12 * E + 2) (lN 0)) 208 (12 * E + 3) ((I 197 (2 * a + 1)).toInt64)) 208 (12 * E + 4) ((r 0).toInt64)) 208 (12 * E + 5) ((r 12).toInt64)) 208 (12 * E + 6) ((r 13).toInt64)) 208 (12 * E + 7) ((r 3).toInt64)) 208 (12 * E + 8) ((r 6).toInt64)) 208 (12 * E + 9) ((r 8).toInt64), R) 0 0
              refine q_las (m := 12 * E + 10) rfl (⟨by decide, Nat.lt_of_lt_of_le (by decide) hK.1, rfl⟩) (by omega) (rfl) ?_
              obtain ⟨J3, eJ3⟩ : ∃ zz9, zz9 = q_up (q_up (q_up (q_up (q_up (q_up (q_up (q_up (q_up (q_up (q_up J2 208 (12 * E) ((nI a).toInt64)) 208 (12 * E + 1) ((nI b).toInt64)) 208 (12 * E + 2) (lN 0)) 208 (12 * E + 3) ((I 197 (2 * a + 1)).toInt64)) 208 (12 * E + 4) ((r 0).toInt64)) 208 (12 * E + 5) ((r 12).toInt64)) 208 (12 * E + 6) ((r 13).toInt64)) 208 (12 * E + 7) ((r 3).toInt64)) 208 (12 * E + 8) ((r 6).toInt64)) 208 (12 * E + 9) ((r 8).toInt64)) 208 (12 * E + 10) (z ^^^ (g_wide (I2 212) (nI 9) (nI 0) (nI 0) (nI 0))) := ⟨_, rfl⟩
              rw [← eJ3]
              refine q_k 1 ?_
              show q_W L (d + 4) 111 q_m111 Q 302 [some (.ref 192), some (.int (nI a)), some (.int (nI b)), some (.long z), none, some (.int (nI (4 * a + b))), some (.int (nI (12 * E))), some (.int (nI 1))] [.ref 192] (n, I3, J3, R) 0 0
              refine q_gR (b := 208) rfl rfl (⟨Nat.lt_of_lt_of_le (by decide) hK.1, rfl⟩) (hK.2.1 192 15 208 rfl) ?_
              refine q_k 3 ?_
              show q_W L (d + 4) 111 q_m111 Q 310 [some (.ref 192), some (.int (nI a)), some (.int (nI b)), some (.long z), none, some (.int (nI (4 * a + b))), some (.int (nI (12 * E))), some (.int (nI 1))] [.int ((nI (12 * E)) + (nI 11)), .ref 208] (n, I3, J3, R) 0 0
              refine q_top (w := nI (12 * E + 11)) (nI_add _ _) ?_
              refine q_k 2 ?_
              show q_W L (d + 4) 111 q_m111 Q 312 [some (.ref 192), some (.int (nI a)), some (.int (nI b)), some (.long z), none, some (.int (nI (4 * a + b))), some (.int (nI (12 * E))), some (.int (nI 1))] [.ref 192, .ref 192, .int (nI (12 * E + 11)), .ref 208] (n, I3, J3, R) 0 0
              refine q_gR (b := 207) rfl rfl (⟨Nat.lt_of_lt_of_le (by decide) hK.1, rfl⟩) (hK.2.1 192 14 207 rfl) ?_
              refine q_k 1 ?_
              show q_W L (d + 4) 111 q_m111 Q 316 [some (.ref 192), some (.int (nI a)), some (.int (nI b)), some (.long z), none, some (.int (nI (4 * a + b))), some (.int (nI (12 * E))), some (.int (nI 1))] [.int (nI 3), .ref 207, .ref 192, .int (nI (12 * E + 11)), .ref 208] (n, I3, J3, R) 0 0
              refine q_ial (m := 3) rfl (⟨by decide, Nat.lt_of_lt_of_le (by decide) hK.1, rfl⟩) (by decide) (rfl) ?_
              refine q_top (w := r 3) (by rw [f3 207 (by decide) (by decide) (by decide), g2 3 (by decide)]; exact hr 3 (by decide)) ?_
              refine q_k 1 ?_
              show q_W L (d + 4) 111 q_m111 Q 318 [some (.ref 192), some (.int (nI a)), some (.int (nI b)), some (.long z), none, some (.int (nI (4 * a + b))), some (.int (nI (12 * E))), some (.int (nI 1))] [.ref 192, .int (r 3), .ref 192, .int (nI (12 * E + 11)), .ref 208] (n, I3, J3, R) 0 0
              refine q_gR (b := 207) rfl rfl (⟨Nat.lt_of_lt_of_le (by decide) hK.1, rfl⟩) (hK.2.1 192 14 207 rfl) ?_
              refine q_k 1 ?_
              show q_W L (d + 4) 111 q_m111 Q 323 [some (.ref 192), some (.int (nI a)), some (.int (nI b)), some (.long z), none, some (.int (nI (4 * a + b))), some (.int (nI (12 * E))), some (.int (nI 1))] [.int (nI 6), .ref 207, .int (r 3), .ref 192, .int (nI (12 * E + 11)), .ref 208] (n, I3, J3, R) 0 0
              refine q_ial (m := 6) rfl (⟨by decide, Nat.lt_of_lt_of_le (by decide) hK.1, rfl⟩) (by decide) (rfl) ?_
              refine q_top (w := r 6) (by rw [f3 207 (by decide) (by decide) (by decide), g2 6 (by decide)]; exact hr 6 (by decide)) ?_
              refine q_k 1 ?_
              show q_W L (d + 4) 111 q_m111 Q 325 [some (.ref 192), some (.int (nI a)), some (.int (nI b)), some (.long z), none, some (.int (nI (4 * a + b))), some (.int (nI (12 * E))), some (.int (nI 1))] [.ref 192, .int (r 6), .int (r 3), .ref 192, .int (nI (12 * E + 11)), .ref 208] (n, I3, J3, R) 0 0
              refine q_gR (b := 207) rfl rfl (⟨Nat.lt_of_lt_of_le (by decide) hK.1, rfl⟩) (hK.2.1 192 14 207 rfl) ?_
              refine q_k 1 ?_
              show q_W L (d + 4) 111 q_m111 Q 330 [some (.ref 192), some (.int (nI a)), some (.int (nI b)), some (.long z), none, some (.int (nI (4 * a + b))), some (.int (nI (12 * E))), some (.int (nI 1))] [.int (nI 8), .ref 207, .int (r 6), .int (r 3), .ref 192, .int (nI (12 * E + 11)), .ref 208] (n, I3, J3, R) 0 0
              refine q_ial (m := 8) rfl (⟨by decide, Nat.lt_of_lt_of_le (by decide) hK.1, rfl⟩) (by decide) (rfl) ?_
              refine q_top (w := r 8) (by rw [f3 207 (by decide) (by decide) (by decide), g2 8 (by decide)]; exact hr 8 (by decide)) ?_
              refine q_k 1 ?_
              show q_W L (d + 4) 111 q_m111 Q 332 [some (.ref 192), some (.int (nI a)), some (.int (nI b)), some (.long z), none, some (.int (nI (4 * a + b))), some (.int (nI (12 * E))), some (.int (nI 1))] [.ref 192, .int (r 8), .int (r 6), .int (r 3), .ref 192, .int (nI (12 * E + 11)), .ref 208] (n, I3, J3, R) 0 0
              refine q_gR (b := 208) rfl rfl (⟨Nat.lt_of_lt_of_le (by decide) hK.1, rfl⟩) (hK.2.1 192 15 208 rfl) ?_
              refine q_k 3 ?_
              show q_W L (d + 4) 111 q_m111 Q 340 [some (.ref 192), some (.int (nI a)), some (.int (nI b)), some (.long z), none, some (.int (nI (4 * a + b))), some (.int (nI (12 * E))), some (.int (nI 1))] [.int ((nI (12 * E)) + (nI 10)), .ref 208, .int (r 8), .int (r 6), .int (r 3), .ref 192, .int (nI (12 * E + 11)), .ref 208] (n, I3, J3, R) 0 0
              refine q_top (w := nI (12 * E + 10)) (nI_add _ _) ?_
              refine q_lal (m := 12 * E + 10) rfl (⟨by decide, Nat.lt_of_lt_of_le (by decide) hK.1, rfl⟩) (by omega) (rfl) ?_
              refine q_topL (w := z ^^^ g_wide (I2 212) (nI 9) (nI 0) (nI 0) (nI 0)) (by rw [eJ3, q_usk]) ?_
              refine q_k 1 ?_
              show q_W L (d + 4) 111 q_m111 Q 342 [some (.ref 192), some (.int (nI a)), some (.int (nI b)), some (.long z), none, some (.int (nI (4 * a + b))), some (.int (nI (12 * E))), some (.int (nI 1))] [.ref 192, .long (z ^^^ g_wide (I2 212) (nI 9) (nI 0) (nI 0) (nI 0)), .int (r 8), .int (r 6), .int (r 3), .ref 192, .int (nI (12 * E + 11)), .ref 208] (n, I3, J3, R) 0 0
              refine q_gR (b := 197) rfl rfl (⟨Nat.lt_of_lt_of_le (by decide) hK.1, rfl⟩) (hK.2.1 192 4 197 rfl) ?_
              refine q_k 3 ?_
              show q_W L (d + 4) 111 q_m111 Q 348 [some (.ref 192), some (.int (nI a)), some (.int (nI b)), some (.long z), none, some (.int (nI (4 * a + b))), some (.int (nI (12 * E))), some (.int (nI 1))] [.int ((nI 2) * (nI a)), .ref 197, .long (z ^^^ g_wide (I2 212) (nI 9) (nI 0) (nI 0) (nI 0)), .int (r 8), .int (r 6), .int (r 3), .ref 192, .int (nI (12 * E + 11)), .ref 208] (n, I3, J3, R) 0 0
              refine q_top (w := nI (2 * a)) (pk_mul _ _) ?_
              refine q_k 2 ?_
              show q_W L (d + 4) 111 q_m111 Q 350 [some (.ref 192), some (.int (nI a)), some (.int (nI b)), some (.long z), none, some (.int (nI (4 * a + b))), some (.int (nI (12 * E))), some (.int (nI 1))] [.int ((nI (2 * a)) + (nI 1)), .ref 197, .long (z ^^^ g_wide (I2 212) (nI 9) (nI 0) (nI 0) (nI 0)), .int (r 8), .int (r 6), .int (r 3), .ref 192, .int (nI (12 * E + 11)), .ref 208] (n, I3, J3, R) 0 0
              refine q_top (w := nI (2 * a + 1)) (nI_add _ _) ?_
              refine q_ial (m := 2 * a + 1) rfl (⟨by decide, Nat.lt_of_lt_of_le (by decide) hK.1, rfl⟩) (by omega) (rfl) ?_
              refine q_top (w := I 197 (2 * a + 1)) (by rw [f3 197 (by decide) (by decide) (by decide), f2 197 (by decide) (by decide) (by decide) (by decide) (by decide), f1 197 (by decide)]) ?_
              refine q_k 1 ?_
              show q_W L (d + 4) 111 q_m111 Q 352 [some (.ref 192), some (.int (nI a)), some (.int (nI b)), some (.long z), none, some (.int (nI (4 * a + b))), some (.int (nI (12 * E))), some (.int (nI 1))] [.ref 192, .int (I 197 (2 * a + 1)), .long (z ^^^ g_wide (I2 212) (nI 9) (nI 0) (nI 0) (nI 0)), .int (r 8), .int (r 6), .int (r 3), .ref 192, .int (nI (12 * E + 11)), .ref 208] (n, I3, J3, R) 0 0
              refine q_gR (b := 197) rfl rfl (⟨Nat.lt_of_lt_of_le (by decide) hK.1, rfl⟩) (hK.2.1 192 4 197 rfl) ?_
              refine q_k 3 ?_
              show q_W L (d + 4) 111 q_m111 Q 358 [some (.ref 192), some (.int (nI a)), some (.int (nI b)), some (.long z), none, some (.int (nI (4 * a + b))), some (.int (nI (12 * E))), some (.int (nI 1))] [.int ((nI 2) * (nI b)), .ref 197, .int (I 197 (2 * a + 1)), .long (z ^^^ g_wide (I2 212) (nI 9) (nI 0) (nI 0) (nI 0)), .int (r 8), .int (r 6), .int (r 3), .ref 192, .int (nI (12 * E + 11)), .ref 208] (n, I3, J3, R) 0 0
              refine q_top (w := nI (2 * b)) (pk_mul _ _) ?_
              refine q_k 2 ?_
              show q_W L (d + 4) 111 q_m111 Q 360 [some (.ref 192), some (.int (nI a)), some (.int (nI b)), some (.long z), none, some (.int (nI (4 * a + b))), some (.int (nI (12 * E))), some (.int (nI 1))] [.int ((nI (2 * b)) + (nI 1)), .ref 197, .int (I 197 (2 * a + 1)), .long (z ^^^ g_wide (I2 212) (nI 9) (nI 0) (nI 0) (nI 0)), .int (r 8), .int (r 6), .int (r 3), .ref 192, .int (nI (12 * E + 11)), .ref 208] (n, I3, J3, R) 0 0
              refine q_top (w := nI (2 * b + 1)) (nI_add _ _) ?_
              refine q_ial (m := 2 * b + 1) rfl (⟨by decide, Nat.lt_of_lt_of_le (by decide) hK.1, rfl⟩) (by omega) (rfl) ?_
              refine q_top (w := I 197 (2 * b + 1)) (by rw [f3 197 (by decide) (by decide) (by decide), f2 197 (by decide) (by decide) (by decide) (by decide) (by decide), f1 197 (by decide)]) ?_
              refine q_cv (as := [.int (r 3), .int (r 6), .int (r 8), .long (z ^^^ g_wide (I2 212) (nI 9) (nI 0) (nI 0) (nI 0)), .int (I 197 (2 * a + 1)), .int (I 197 (2 * b + 1))]) (rs := [.int (nI (12 * E + 11)), .ref 208]) rfl rfl rfl (⟨Nat.lt_of_lt_of_le (by decide) hK.1, rfl⟩) rfl rfl ?_
              refine m_tag (q_K0_to hK (by rw [f3 0 (by decide) (by decide) (by decide), f2 0 (by decide) (by decide) (by decide) (by decide) (by decide), f1 0 (by decide)]) (by rw [f3 1 (by decide) (by decide) (by decide), f2 1 (by decide) (by decide) (by decide) (by decide) (by decide), f1 1 (by decide)])) (fun I4 f4 => ?_)
              show q_W L (d + 4) 111 q_m111 Q 364 [some (.ref 192), some (.int (nI a)), some (.int (nI b)), some (.long z), none, some (.int (nI (4 * a + b))), some (.int (nI (12 * E))), some (.int (nI 1))] [.long (g_tag (I3 212) (r 3) (r 6) (r 8) (z ^^^ g_wide (I2 212) (nI 9) (nI 0) (nI 0) (nI 0)) (I 197 (2 * a + 1)) (I 197 (2 * b + 1))), .int (nI (12 * E + 11)), .ref 208] (n, I4, J3, R) 0 0
              refine q_las (m := 12 * E + 11) rfl (⟨by decide, Nat.lt_of_lt_of_le (by decide) hK.1, rfl⟩) (by omega) (rfl) ?_
              obtain ⟨J4, eJ4⟩ : ∃ zz9, zz9 = q_up J3 208 (12 * E + 11) (g_tag (I3 212) (r 3) (r 6) (r 8) (z ^^^ g_wide (I2 212) (nI 9) (nI 0) (nI 0) (nI 0)) (I 197 (2 * a + 1)) (I 197 (2 * b + 1))) := ⟨_, rfl⟩
              rw [← eJ4]
              refine q_k 1 ?_
              show q_W L (d + 4) 111 q_m111 Q 366 [some (.ref 192), some (.int (nI a)), some (.int (nI b)), some (.long z), none, some (.int (nI (4 * a + b))), some (.int (nI (12 * E))), some (.int (nI 1))] [.ref 192] (n, I4, J4, R) 0 0
              refine q_gR (b := 207) rfl rfl (⟨Nat.lt_of_lt_of_le (by decide) hK.1, rfl⟩) (hK.2.1 192 14 207 rfl) ?_
              refine q_k 2 ?_
              show q_W L (d + 4) 111 q_m111 Q 372 [some (.ref 192), some (.int (nI a)), some (.int (nI b)), some (.long z), none, some (.int (nI (4 * a + b))), some (.int (nI (12 * E))), some (.int (nI 1))] [.int (nI 6), .ref 207, .int (nI 6), .ref 207] (n, I4, J4, R) 0 0
              refine q_ial (m := 6) rfl (⟨by decide, Nat.lt_of_lt_of_le (by decide) hK.1, rfl⟩) (by decide) (rfl) ?_
              refine q_top (w := r 6) (by rw [f4 207 (by decide) (by decide) (by decide) (by decide), f3 207 (by decide) (by decide) (by decide), g2 6 (by decide)]; exact hr 6 (by decide)) ?_
              refine q_k 2 ?_
              show q_W L (d + 4) 111 q_m111 Q 375 [some (.ref 192), some (.int (nI a)), some (.int (nI b)), some (.long z), none, some (.int (nI (4 * a + b))), some (.int (nI (12 * E))), some (.int (nI 1))] [.int ((r 6) + (nI 1)), .int (nI 6), .ref 207] (n, I4, J4, R) 0 0
              refine q_ias (m := 6) rfl (⟨by decide, Nat.lt_of_lt_of_le (by decide) hK.1, rfl⟩) (by decide) (rfl) ?_
              obtain ⟨I5, eI5⟩ : ∃ zz9, zz9 = q_up I4 207 6 ((r 6) + (nI 1)) := ⟨_, rfl⟩
              rw [← eI5]
              refine q_k 3 ?_
              show q_W L (d + 4) 111 q_m111 Q 380 [some (.ref 192), some (.int (nI a)), some (.int (nI b)), some (.long z), none, some (.int (nI (4 * a + b))), some (.int (nI (12 * E))), some (.int (nI 1))] [.int (nI 0), .int (nI (4 * a + b)), .ref 192] (n, I5, J4, R) 0 0
              refine q_cv (as := [.int (nI (4 * a + b)), .int (nI 0)]) (rs := []) rfl rfl rfl (⟨Nat.lt_of_lt_of_le (by decide) hK.1, rfl⟩) rfl rfl ?_
              refine m_save (q_K0_to hK (by rw [eI5, q_un (by decide), f4 0 (by decide) (by decide) (by decide) (by decide), f3 0 (by decide) (by decide) (by decide), f2 0 (by decide) (by decide) (by decide) (by decide) (by decide), f1 0 (by decide)]) (by rw [eI5, q_un (by decide), f4 1 (by decide) (by decide) (by decide) (by decide), f3 1 (by decide) (by decide) (by decide), f2 1 (by decide) (by decide) (by decide) (by decide) (by decide), f1 1 (by decide)])) (by omega) (by decide) (fun I6 h6' g6 f6 => ?_)
              show q_W L (d + 4) 111 q_m111 Q 383 [some (.ref 192), some (.int (nI a)), some (.int (nI b)), some (.long z), none, some (.int (nI (4 * a + b))), some (.int (nI (12 * E))), some (.int (nI 1))] [] (n, I6, J4, R) 0 0
              refine q_k 2 ?_
              show q_W L (d + 4) 111 q_m111 Q 385 [some (.ref 192), some (.int (nI a)), some (.int (nI b)), some (.long z), none, some (.int (nI (4 * a + b))), some (.int (nI (12 * E))), some (.int (nI 1))] [.ref 192, .ref 192] (n, I6, J4, R) 0 0
              refine q_gI rfl rfl (⟨Nat.lt_of_lt_of_le (by decide) hK.1, rfl⟩) ?_
              refine q_top (w := nI E) (by rw [f6 192 (by decide), eI5, q_un (by decide), f4 192 (by decide) (by decide) (by decide) (by decide), f3 192 (by decide) (by decide) (by decide), f2 192 (by decide) (by decide) (by decide) (by decide) (by decide), f1 192 (by decide)]; exact hE) ?_
              refine q_k 2 ?_
              show q_W L (d + 4) 111 q_m111 Q 390 [some (.ref 192), some (.int (nI a)), some (.int (nI b)), some (.long z), none, some (.int (nI (4 * a + b))), some (.int (nI (12 * E))), some (.int (nI 1))] [.int ((nI E) + (nI 1)), .ref 192] (n, I6, J4, R) 0 0
              refine q_top (w := nI (E + 1)) (nI_add _ _) ?_
              refine q_pI rfl rfl rfl (⟨Nat.lt_of_lt_of_le (by decide) hK.1, rfl⟩) ?_
              refine q_k 1 ?_
              show q_W L (d + 4) 111 q_m111 Q 394 [some (.ref 192), some (.int (nI a)), some (.int (nI b)), some (.long z), none, some (.int (nI (4 * a + b))), some (.int (nI (12 * E))), some (.int (nI 1))] [.ref 192] (n, q_up I6 192 16 (nI (E + 1)), J4, R) 0 0
              refine q_gI rfl rfl (⟨Nat.lt_of_lt_of_le (by decide) hK.1, rfl⟩) ?_
              refine q_top (w := nI (E + 1)) (q_usk) ?_
              refine q_k 2 ?_
              show q_W L (d + 4) 111 q_m111 Q 399 [some (.ref 192), some (.int (nI a)), some (.int (nI b)), some (.long z), none, some (.int (nI (4 * a + b))), some (.int (nI (12 * E))), some (.int (nI 1))] [.int ((nI (E + 1)) - (nI 1))] (n, q_up I6 192 16 (nI (E + 1)), J4, R) 0 0
              refine q_top (w := nI E) (q_sub rfl) ?_
              refine q_one rfl rfl ?_
              show Q (some (.int (nI E))) (n, q_up I6 192 16 (nI (E + 1)), J4, R)
              have hkey : ∀ i, i < 8 → I2 212 i = s_kS r i := fun i hi => by rw [a2 i hi]; exact g_mix_c (fun j hj => hr (22 + j) (by omega)) _ _ _ _ (by omega)
              have hci : z ^^^ g_wide (I2 212) (nI 9) (nI 0) (nI 0) (nI 0) = g_ci z r := by unfold g_ci; rw [g_wide_c hkey]
              have htg : g_tag (I3 212) (r 3) (r 6) (r 8) (g_ci z r) (I 197 (2 * a + 1)) (I 197 (2 * b + 1)) = g_tag (s_kS r) (r 3) (r 6) (r 8) (g_ci z r) (I 197 (2 * a + 1)) (I 197 (2 * b + 1)) := g_tag_c (fun i hi => by rw [f3 212 (by decide) (by decide) (by decide)]; exact hkey i hi) _ _ _ _ _ _
              have eJ : J4 = va_up J 208 (fun j => if 12 * E ≤ j ∧ j < 12 * E + 12 then g_let z a b I r (j - 12 * E) else J 208 j) := by
                funext y
                by_cases ey : y = 208
                · subst ey
                  rw [va_up_self]
                  funext j
                  rw [eJ4]
                  by_cases e11 : j = 12 * E + 11
                  · subst e11; rw [q_usk, if_pos (by omega), show 12 * E + 11 - 12 * E = 11 by omega, g_let_11, hci, htg]
                  · rw [q_usn e11]
                    rw [eJ3]
                    by_cases e10 : j = 12 * E + 10
                    · subst e10; rw [q_usk, if_pos (by omega), show 12 * E + 10 - 12 * E = 10 by omega, g_let_10, hci]
                    · rw [q_usn e10]
                      by_cases e9 : j = 12 * E + 9
                      · subst e9; rw [q_usk, if_pos (by omega), show 12 * E + 9 - 12 * E = 9 by omega, g_let_9]
                      · rw [q_usn e9]
                        by_cases e8 : j = 12 * E + 8
                        · subst e8; rw [q_usk, if_pos (by omega), show 12 * E + 8 - 12 * E = 8 by omega, g_let_8]
                        · rw [q_usn e8]
                          by_cases e7 : j = 12 * E + 7
                          · subst e7; rw [q_usk, if_pos (by omega), show 12 * E + 7 - 12 * E = 7 by omega, g_let_7]
                          · rw [q_usn e7]
                            by_cases e6 : j = 12 * E + 6
                            · subst e6; rw [q_usk, if_pos (by omega), show 12 * E + 6 - 12 * E = 6 by omega, g_let_6t hun]
                            · rw [q_usn e6]
                              by_cases e5 : j = 12 * E + 5
                              · subst e5; rw [q_usk, if_pos (by omega), show 12 * E + 5 - 12 * E = 5 by omega, g_let_5t hun]
                              · rw [q_usn e5]
                                by_cases e4 : j = 12 * E + 4
                                · subst e4; rw [q_usk, if_pos (by omega), show 12 * E + 4 - 12 * E = 4 by omega, g_let_4t hun]
                                · rw [q_usn e4]
                                  by_cases e3 : j = 12 * E + 3
                                  · subst e3; rw [q_usk, if_pos (by omega), show 12 * E + 3 - 12 * E = 3 by omega, g_let_3t hun]
                                  · rw [q_usn e3]
                                    by_cases e2 : j = 12 * E + 2
                                    · subst e2; rw [q_usk, if_pos (by omega), show 12 * E + 2 - 12 * E = 2 by omega, g_let_2t hun]
                                    · rw [q_usn e2]
                                      by_cases e1 : j = 12 * E + 1
                                      · subst e1; rw [q_usk, if_pos (by omega), show 12 * E + 1 - 12 * E = 1 by omega, g_let_1]
                                      · rw [q_usn e1]
                                        by_cases e0 : j = 12 * E
                                        · subst e0; rw [q_usk, if_pos (by omega), show 12 * E - 12 * E = 0 by omega, g_let_0]
                                        · rw [q_usn e0]
                                          rw [hJ2.1 j]
                                          by_cases c1 : 12 * E ≤ j ∧ j < 12 * E + 12
                                          · exact absurd c1 (by omega)
                                          · rw [if_neg c1, if_neg c1]
                · rw [va_up_ne _ _ ey, eJ4, q_un ey, eJ3, q_un ey, q_un ey, q_un ey, q_un ey, q_un ey, q_un ey, q_un ey, q_un ey, q_un ey, q_un ey, q_un ey]; exact hJ2.2 y ey
              rw [eJ]
              unfold f_snd at hQ
              rw [← er] at hQ
              refine hQ _ ⟨fun y hy1 hy2 => ?_, ?_⟩ (fun y hy => ?_)
              · show q_up I6 192 16 (nI (E + 1)) y = q_up (f_save (4 * a + b) 0 (s_snd r) I) 192 16 (nI (E + 1)) y
                rw [q_un (by omega), q_un (by omega)]
                by_cases e5 : y = 205
                · subst e5
                  funext j
                  rw [f_save_205]
                  by_cases c1 : 158 * (3 * (4 * a + b) + 0) ≤ j ∧ j < 158 * (3 * (4 * a + b) + 0) + 158
                  · rw [if_pos c1]
                    obtain ⟨i, rfl⟩ : ∃ i, j = 158 * (3 * (4 * a + b) + 0) + i := ⟨j - 158 * (3 * (4 * a + b) + 0), by omega⟩
                    rw [h6' i (by omega), show 158 * (3 * (4 * a + b) + 0) + i - 158 * (3 * (4 * a + b) + 0) = i by omega, eI5]
                    unfold s_snd
                    by_cases e6 : i = 6
                    · subst e6; rw [q_usk, if_pos rfl]
                    · rw [q_usn e6, if_neg e6, f4 207 (by decide) (by decide) (by decide) (by decide), f3 207 (by decide) (by decide) (by decide)]
                      by_cases c2 : 22 ≤ i ∧ i < 30
                      · obtain ⟨k, rfl⟩ : ∃ k, i = 22 + k := ⟨i - 22, by omega⟩
                        rw [b2 k (by omega), if_pos c2, show 22 + k - 22 = k by omega]
                        exact g_mix_c (fun j hj => hr (22 + j) (by omega)) _ _ _ _ (by omega)
                      · rw [if_neg c2, g2 i (by omega)]; exact hr i (by omega)
                  · rw [if_neg c1, g6 j (by omega), eI5, q_un (by decide), f4 205 (by decide) (by decide) (by decide) (by decide), f3 205 (by decide) (by decide) (by decide), f2 205 (by decide) (by decide) (by decide) (by decide) (by decide), f1 205 (by decide)]
                · rw [f6 y e5, f_save_n e5, eI5, q_un (by omega), f4 y (by omega) (by omega) (by omega) (by omega), f3 y (by omega) (by omega) (by omega), f2 y (by omega) (by omega) (by omega) (by omega) (by omega), f1 y (by omega)]
              · show q_up I6 192 16 (nI (E + 1)) 192 16 = q_up (f_save (4 * a + b) 0 (s_snd r) I) 192 16 (nI (E + 1)) 192 16
                rw [q_usk, q_usk]
              · rw [q_un (by omega), f6 y (by omega), eI5, q_un (by omega), f4 y (by omega) (by omega) (by omega) (by omega), f3 y (by omega) (by omega) (by omega), f2 y (by omega) (by omega) (by omega) (by omega) (by omega), f1 y (by omega)]
        · intro y J2 hk hJ2 ih
          show q_W L (d + 4) 111 q_m111 Q 59 [some (.ref 192), some (.int (nI a)), some (.int (nI b)), some (.long z), none, some (.int (nI (4 * a + b))), some (.int (nI (12 * E))), some (.int (nI y))] [] (n, I1, J2, R) 0 0
          refine q_k 2 ?_
          show q_W L (d + 4) 111 q_m111 Q 63 [some (.ref 192), some (.int (nI a)), some (.int (nI b)), some (.long z), none, some (.int (nI (4 * a + b))), some (.int (nI (12 * E))), some (.int (nI y))] [.int (nI 12), .int (nI y)] (n, I1, J2, R) 0 0
          refine q_one rfl rfl ?_
          show ((nI 12) ≤ (nI y) → q_W L (d + 4) 111 q_m111 Q 83 [some (.ref 192), some (.int (nI a)), some (.int (nI b)), some (.long z), none, some (.int (nI (4 * a + b))), some (.int (nI (12 * E))), some (.int (nI y))] [] (n, I1, J2, R) 0 0) ∧ (¬ (nI 12) ≤ (nI y) → q_W L (d + 4) 111 q_m111 Q 66 [some (.ref 192), some (.int (nI a)), some (.int (nI b)), some (.long z), none, some (.int (nI (4 * a + b))), some (.int (nI (12 * E))), some (.int (nI y))] [] (n, I1, J2, R) 0 0)
          refine ⟨fun z => absurd z (nI_ge hk (by decide)), fun _ => ?_⟩
          refine q_k 1 ?_
          show q_W L (d + 4) 111 q_m111 Q 67 [some (.ref 192), some (.int (nI a)), some (.int (nI b)), some (.long z), none, some (.int (nI (4 * a + b))), some (.int (nI (12 * E))), some (.int (nI y))] [.ref 192] (n, I1, J2, R) 0 0
          refine q_gR (b := 208) rfl rfl (⟨Nat.lt_of_lt_of_le (by decide) hK.1, rfl⟩) (hK.2.1 192 15 208 rfl) ?_
          refine q_k 3 ?_
          show q_W L (d + 4) 111 q_m111 Q 75 [some (.ref 192), some (.int (nI a)), some (.int (nI b)), some (.long z), none, some (.int (nI (4 * a + b))), some (.int (nI (12 * E))), some (.int (nI y))] [.int ((nI (12 * E)) + (nI y)), .ref 208] (n, I1, J2, R) 0 0
          refine q_top (w := nI (12 * E + y)) (nI_add _ _) ?_
          refine q_k 1 ?_
          show q_W L (d + 4) 111 q_m111 Q 76 [some (.ref 192), some (.int (nI a)), some (.int (nI b)), some (.long z), none, some (.int (nI (4 * a + b))), some (.int (nI (12 * E))), some (.int (nI y))] [.long (lN 0), .int (nI (12 * E + y)), .ref 208] (n, I1, J2, R) 0 0
          refine q_las (m := 12 * E + y) rfl (⟨by decide, Nat.lt_of_lt_of_le (by decide) hK.1, rfl⟩) (by omega) (rfl) ?_
          refine q_k 1 ?_
          show q_W L (d + 4) 111 q_m111 Q 80 [some (.ref 192), some (.int (nI a)), some (.int (nI b)), some (.long z), none, some (.int (nI (4 * a + b))), some (.int (nI (12 * E))), some (.int ((nI y) + nI 1))] [] (n, I1, q_up J2 208 (12 * E + y) (lN 0), R) 0 0
          rw [show (nI y) + nI 1 = nI (y + 1) from nI_add _ _]
          refine q_k 1 ?_
          show q_W L (d + 4) 111 q_m111 Q 59 [some (.ref 192), some (.int (nI a)), some (.int (nI b)), some (.long z), none, some (.int (nI (4 * a + b))), some (.int (nI (12 * E))), some (.int (nI (y + 1)))] [] (n, I1, q_up J2 208 (12 * E + y) (lN 0), R) 0 0
          refine ih _ ⟨fun j => ?_, fun x hx => ?_⟩
          · by_cases e : j = 12 * E + y
            · subst e; rw [q_usk, if_pos (by omega)]
            · rw [q_usn e, hJ2.1 j]
              by_cases c1 : 12 * E ≤ j ∧ j < 12 * E + y
              · rw [if_pos c1, if_pos (by omega)]
              · rw [if_neg c1, if_neg (by omega)]
          · rw [q_un hx]; exact hJ2.2 x hx
        · exact ⟨fun j => by rw [if_neg (by omega)], fun _ _ => rfl⟩
      · skip
        refine q_k 1 ?_
        show q_W L (d + 4) 111 q_m111 Q 32 [some (.ref 192), some (.int (nI a)), some (.int (nI b)), some (.long z), none, none, none, none] [.int (-1)] (n, I, J, R) 0 0
        refine q_one rfl rfl ?_
        show Q (some (.int (-1))) (n, I, J, R)
        simp only [f_send, if_neg h6, g_cl (show a < 10000 by omega), g_cl (show b < 10000 by omega), if_neg h19, if_pos h28] at hQ
        exact hQ I (q_ms_rf I) (q_mf_rf I)
