theorem g_user_j {M : q_I} {j k : Nat} (hj : j < 4) (hr : ¬ M 193 j = 0) (hk : k ≤ 9) : g_user (nI j) (nI k) M = g_us M j k := by
  unfold g_user
  rw [if_neg (g_kn_j hj hr), if_neg (nI_pos (by omega)), if_pos (nI_le hk (by decide)), g_cl (by omega), g_cl (by omega)]
theorem g_user_d {M : q_I} {j : Nat} {w : Int32} (hj : j < 4) (hr : ¬ M 193 j = 0) (h : w.toInt < 0 ∨ (9 : Int) < w.toInt) : g_user (nI j) w M = -1 := by
  unfold g_user
  rw [if_neg (g_kn_j hj hr)]
  rcases g_swd (N := 9) (by decide) h with q | ⟨q, q2⟩
  · rw [if_pos q]
  · rw [if_neg q, if_neg q2]
theorem k_user {L d n : Nat} {I : q_I} {J : q_L} {R : q_R} {Q : q_Q} {M : q_I} {N : q_L} {u w : Int32} (h : CR n I J R M N) (hQ : Q (some (.int (g_user u w M))) (n, I, J, R)) : q_Ex L (d + 2) 54 [.ref 3, .int u, .int w] (n, I, J, R) Q := by
  refine q_in (x := q_m54) rfl rfl ?_
  show q_W L (d + 1) 54 q_m54 Q 0 [some (.ref 3), some (.int u), some (.int w), none] [] (n, I, J, R) 0 0
  have hK := h.K
  have ha := h.ac
  refine q_k 3 ?_
  show q_W L (d + 1) 54 q_m54 Q 3 [some (.ref 3), some (.int u), some (.int w), none] [.long ((u).toInt64), .ref 3] (n, I, J, R) 0 0
  refine q_cv (as := [.long ((u).toInt64)]) (rs := []) rfl rfl rfl (⟨Nat.lt_of_lt_of_le (by decide) hK.1, rfl⟩) rfl rfl ?_
  refine c_isRegistered (hK) (ha) (fun j hj ej hrj => ?_) (fun hno => ?_)
  · skip
    show q_W L (d + 1) 54 q_m54 Q 6 [some (.ref 3), some (.int u), some (.int w), none] [.int (nI 1)] (n, I, J, R) 0 0
    obtain rfl := q_il ej
    show q_W L (d + 1) 54 q_m54 Q 6 [some (.ref 3), some (.int (nI j)), some (.int w), none] [.int (nI 1)] (n, I, J, R) 0 0
    refine q_one rfl rfl ?_
    show (¬ (nI 1) = 0 → q_W L (d + 1) 54 q_m54 Q 11 [some (.ref 3), some (.int (nI j)), some (.int w), none] [] (n, I, J, R) 0 0) ∧ ((nI 1) = 0 → q_W L (d + 1) 54 q_m54 Q 9 [some (.ref 3), some (.int (nI j)), some (.int w), none] [] (n, I, J, R) 0 0)
    refine ⟨fun _ => ?_, fun z => absurd z (by decide)⟩
    refine q_k 1 ?_
    show q_W L (d + 1) 54 q_m54 Q 12 [some (.ref 3), some (.int (nI j)), some (.int w), none] [.ref 3] (n, I, J, R) 0 0
    refine q_gR (b := 8) rfl rfl (⟨Nat.lt_of_lt_of_le (by decide) hK.1, rfl⟩) (hK.2.1 3 1 8 rfl) ?_
    refine q_k 1 ?_
    show q_W L (d + 1) 54 q_m54 Q 16 [some (.ref 3), some (.int (nI j)), some (.int w), none] [.int (nI j), .ref 8] (n, I, J, R) 0 0
    refine q_aal (m := j) (b := (84 + 19 * j)) rfl (⟨by decide, Nat.lt_of_lt_of_le (by decide) hK.1, rfl⟩) ⟨rfl, rfl⟩ (hj) rfl (hK.2.1 8 j _ (q_fx8 j hj)) ?_
    refine q_k 2 ?_
    show q_W L (d + 1) 54 q_m54 Q 19 [some (.ref 3), some (.int (nI j)), some (.int w), some (.ref (84 + 19 * j))] [.int w] (n, I, J, R) 0 0
    refine q_one rfl rfl ?_
    show (w.toInt < 0 ∨ 9 < w.toInt → q_W L (d + 1) 54 q_m54 Q 157 [some (.ref 3), some (.int (nI j)), some (.int w), some (.ref (84 + 19 * j))] [] (n, I, J, R) 0 0) ∧ (w.toInt = 0 → q_W L (d + 1) 54 q_m54 Q 72 [some (.ref 3), some (.int (nI j)), some (.int w), some (.ref (84 + 19 * j))] [] (n, I, J, R) 0 0) ∧ (w.toInt = 0 + 1 → q_W L (d + 1) 54 q_m54 Q 80 [some (.ref 3), some (.int (nI j)), some (.int w), some (.ref (84 + 19 * j))] [] (n, I, J, R) 0 0) ∧ (w.toInt = 0 + 1 + 1 → q_W L (d + 1) 54 q_m54 Q 88 [some (.ref 3), some (.int (nI j)), some (.int w), some (.ref (84 + 19 * j))] [] (n, I, J, R) 0 0) ∧ (w.toInt = 0 + 1 + 1 + 1 → q_W L (d + 1) 54 q_m54 Q 107 [some (.ref 3), some (.int (nI j)), some (.int w), some (.ref (84 + 19 * j))] [] (n, I, J, R) 0 0) ∧ (w.toInt = 0 + 1 + 1 + 1 + 1 → q_W L (d + 1) 54 q_m54 Q 112 [some (.ref 3), some (.int (nI j)), some (.int w), some (.ref (84 + 19 * j))] [] (n, I, J, R) 0 0) ∧ (w.toInt = 0 + 1 + 1 + 1 + 1 + 1 → q_W L (d + 1) 54 q_m54 Q 117 [some (.ref 3), some (.int (nI j)), some (.int w), some (.ref (84 + 19 * j))] [] (n, I, J, R) 0 0) ∧ (w.toInt = 0 + 1 + 1 + 1 + 1 + 1 + 1 → q_W L (d + 1) 54 q_m54 Q 125 [some (.ref 3), some (.int (nI j)), some (.int w), some (.ref (84 + 19 * j))] [] (n, I, J, R) 0 0) ∧ (w.toInt = 0 + 1 + 1 + 1 + 1 + 1 + 1 + 1 → q_W L (d + 1) 54 q_m54 Q 133 [some (.ref 3), some (.int (nI j)), some (.int w), some (.ref (84 + 19 * j))] [] (n, I, J, R) 0 0) ∧ (w.toInt = 0 + 1 + 1 + 1 + 1 + 1 + 1 + 1 + 1 → q_W L (d + 1) 54 q_m54 Q 141 [some (.ref 3), some (.int (nI j)), some (.int w), some (.ref (84 + 19 * j))] [] (n, I, J, R) 0 0) ∧ (w.toInt = 0 + 1 + 1 + 1 + 1 + 1 + 1 + 1 + 1 + 1 → q_W L (d + 1) 54 q_m54 Q 149 [some (.ref 3), some (.int (nI j)), some (.int w), some (.ref (84 + 19 * j))] [] (n, I, J, R) 0 0) ∧ True
    refine ⟨fun hsw => ?_, fun hsw => ?_, fun hsw => ?_, fun hsw => ?_, fun hsw => ?_, fun hsw => ?_, fun hsw => ?_, fun hsw => ?_, fun hsw => ?_, fun hsw => ?_, fun hsw => ?_, trivial⟩
    · skip
      refine q_k 1 ?_
      show q_W L (d + 1) 54 q_m54 Q 158 [some (.ref 3), some (.int (nI j)), some (.int w), some (.ref (84 + 19 * j))] [.int (-1)] (n, I, J, R) 0 0
      refine q_one rfl rfl ?_
      show Q (some (.int (-1))) (n, I, J, R)
      rw [g_user_d hj hrj hsw] at hQ
      exact hQ
    · skip
      have hw19 : w = nI 0 := q_swi hsw (by decide)
      rw [hw19, g_user_j hj hrj (by decide)] at hQ
      refine q_k 1 ?_
      show q_W L (d + 1) 54 q_m54 Q 73 [some (.ref 3), some (.int (nI j)), some (.int w), some (.ref (84 + 19 * j))] [.ref (84 + 19 * j)] (n, I, J, R) 0 0
      refine q_gR (b := (84 + 19 * j + 1)) rfl rfl ((q_Ac_of hK hj).ob) ((q_Ac_of hK hj).r2) ?_
      refine q_gI rfl rfl ((q_Ac_of hK hj).o1) ?_
      refine q_top (w := M 197 (2 * j + 1)) ((ha j hj).i1) ?_
      refine q_one rfl rfl ?_
      show Q (some (.int (M 197 (2 * j + 1)))) (n, I, J, R)
      exact hQ
    · skip
      have hw19 : w = nI 1 := q_swi hsw (by decide)
      rw [hw19, g_user_j hj hrj (by decide)] at hQ
      refine q_k 1 ?_
      show q_W L (d + 1) 54 q_m54 Q 81 [some (.ref 3), some (.int (nI j)), some (.int w), some (.ref (84 + 19 * j))] [.ref (84 + 19 * j)] (n, I, J, R) 0 0
      refine q_gR (b := (84 + 19 * j + 2)) rfl rfl ((q_Ac_of hK hj).ob) ((q_Ac_of hK hj).r3) ?_
      refine q_gI rfl rfl ((q_Ac_of hK hj).o2) ?_
      refine q_top (w := M 198 (2 * j + 1)) ((ha j hj).s1) ?_
      refine q_one rfl rfl ?_
      show Q (some (.int (M 198 (2 * j + 1)))) (n, I, J, R)
      exact hQ
    · skip
      have hw19 : w = nI 2 := q_swi hsw (by decide)
      rw [hw19, g_user_j hj hrj (by decide)] at hQ
      rcases (ha j hj).old with ⟨o1, o2⟩ | ⟨o1, o2, -, o4⟩
      · skip
        show q_W L (d + 1) 54 q_m54 Q 88 [some (.ref 3), some (.int (nI j)), some (.int w), some (.ref (84 + 19 * j))] [] (n, I, J, R) 0 0
        refine q_k 1 ?_
        show q_W L (d + 1) 54 q_m54 Q 89 [some (.ref 3), some (.int (nI j)), some (.int w), some (.ref (84 + 19 * j))] [.ref (84 + 19 * j)] (n, I, J, R) 0 0
        refine q_gZ rfl rfl ((q_Ac_of hK hj).ob) ?_
        refine q_top (w := nI 0) (o1) ?_
        refine q_one rfl rfl ?_
        show ((nI 0) = 0 → q_W L (d + 1) 54 q_m54 Q 105 [some (.ref 3), some (.int (nI j)), some (.int w), some (.ref (84 + 19 * j))] [] (n, I, J, R) 0 0) ∧ (¬ (nI 0) = 0 → q_W L (d + 1) 54 q_m54 Q 95 [some (.ref 3), some (.int (nI j)), some (.int w), some (.ref (84 + 19 * j))] [] (n, I, J, R) 0 0)
        refine ⟨fun _ => ?_, fun z => absurd (by decide) z⟩
        refine q_k 1 ?_
        show q_W L (d + 1) 54 q_m54 Q 106 [some (.ref 3), some (.int (nI j)), some (.int w), some (.ref (84 + 19 * j))] [.int (nI 0)] (n, I, J, R) 0 0
        refine q_one rfl rfl ?_
        show Q (some (.int (nI 0))) (n, I, J, R)
        have hz : g_us M j 2 = nI 0 := o2
        rw [hz] at hQ
        exact hQ
      · skip
        show q_W L (d + 1) 54 q_m54 Q 88 [some (.ref 3), some (.int (nI j)), some (.int w), some (.ref (84 + 19 * j))] [] (n, I, J, R) 0 0
        refine q_k 1 ?_
        show q_W L (d + 1) 54 q_m54 Q 89 [some (.ref 3), some (.int (nI j)), some (.int w), some (.ref (84 + 19 * j))] [.ref (84 + 19 * j)] (n, I, J, R) 0 0
        refine q_gZ rfl rfl ((q_Ac_of hK hj).ob) ?_
        refine q_top (w := nI 1) (o1) ?_
        refine q_one rfl rfl ?_
        show ((nI 1) = 0 → q_W L (d + 1) 54 q_m54 Q 105 [some (.ref 3), some (.int (nI j)), some (.int w), some (.ref (84 + 19 * j))] [] (n, I, J, R) 0 0) ∧ (¬ (nI 1) = 0 → q_W L (d + 1) 54 q_m54 Q 95 [some (.ref 3), some (.int (nI j)), some (.int w), some (.ref (84 + 19 * j))] [] (n, I, J, R) 0 0)
        refine ⟨fun z => absurd z (by decide), fun _ => ?_⟩
        refine q_k 1 ?_
        show q_W L (d + 1) 54 q_m54 Q 96 [some (.ref 3), some (.int (nI j)), some (.int w), some (.ref (84 + 19 * j))] [.ref (84 + 19 * j)] (n, I, J, R) 0 0
        refine q_gR (b := (84 + 19 * j + 3)) rfl rfl ((q_Ac_of hK hj).ob) ((q_Ac_of hK hj).r4) ?_
        refine q_gI rfl rfl ((q_Ac_of hK hj).o3) ?_
        refine q_top (w := M 199 (2 * j + 1)) (o4) ?_
        refine q_k 1 ?_
        show q_W L (d + 1) 54 q_m54 Q 106 [some (.ref 3), some (.int (nI j)), some (.int w), some (.ref (84 + 19 * j))] [.int (M 199 (2 * j + 1))] (n, I, J, R) 0 0
        refine q_one rfl rfl ?_
        show Q (some (.int (M 199 (2 * j + 1)))) (n, I, J, R)
        exact hQ
    · skip
      have hw19 : w = nI 3 := q_swi hsw (by decide)
      rw [hw19, g_user_j hj hrj (by decide)] at hQ
      refine q_k 1 ?_
      show q_W L (d + 1) 54 q_m54 Q 108 [some (.ref 3), some (.int (nI j)), some (.int w), some (.ref (84 + 19 * j))] [.ref (84 + 19 * j)] (n, I, J, R) 0 0
      refine q_gI rfl rfl ((q_Ac_of hK hj).ob) ?_
      refine q_top (w := M 196 j) ((ha j hj).dr) ?_
      refine q_one rfl rfl ?_
      show Q (some (.int (M 196 j))) (n, I, J, R)
      exact hQ
    · skip
      have hw19 : w = nI 4 := q_swi hsw (by decide)
      rw [hw19, g_user_j hj hrj (by decide)] at hQ
      obtain ⟨c, pr, -, hM1, hI7, -⟩ := (ha j hj).once
      refine q_k 1 ?_
      show q_W L (d + 1) 54 q_m54 Q 113 [some (.ref 3), some (.int (nI j)), some (.int w), some (.ref (84 + 19 * j))] [.ref (84 + 19 * j)] (n, I, J, R) 0 0
      refine q_gI rfl rfl ((q_Ac_of hK hj).ob) ?_
      refine q_top (w := M 201 j) (by rw [hM1]; exact hI7) ?_
      refine q_one rfl rfl ?_
      show Q (some (.int (M 201 j))) (n, I, J, R)
      exact hQ
    · skip
      have hw19 : w = nI 5 := q_swi hsw (by decide)
      rw [hw19, g_user_j hj hrj (by decide)] at hQ
      obtain ⟨f, -, hM4, hI5, -⟩ := (ha j hj).off
      refine q_k 1 ?_
      show q_W L (d + 1) 54 q_m54 Q 118 [some (.ref 3), some (.int (nI j)), some (.int w), some (.ref (84 + 19 * j))] [.ref (84 + 19 * j)] (n, I, J, R) 0 0
      refine q_gR (b := (84 + 19 * j + 5)) rfl rfl ((q_Ac_of hK hj).ob) ((q_Ac_of hK hj).r8) ?_
      refine q_gI rfl rfl ((q_Ac_of hK hj).o5) ?_
      refine q_top (w := M 204 j) (by rw [hM4]; exact hI5) ?_
      refine q_one rfl rfl ?_
      show Q (some (.int (M 204 j))) (n, I, J, R)
      exact hQ
    · skip
      have hw19 : w = nI 6 := q_swi hsw (by decide)
      rw [hw19, g_user_j hj hrj (by decide)] at hQ
      refine q_k 1 ?_
      show q_W L (d + 1) 54 q_m54 Q 126 [some (.ref 3), some (.int (nI j)), some (.int w), some (.ref (84 + 19 * j))] [.ref (84 + 19 * j)] (n, I, J, R) 0 0
      refine q_gR (b := (84 + 19 * j + 5)) rfl rfl ((q_Ac_of hK hj).ob) ((q_Ac_of hK hj).r8) ?_
      refine q_gI rfl rfl ((q_Ac_of hK hj).o5) ?_
      refine q_top (w := M 202 (4 * j)) ((ha j hj).e0) ?_
      refine q_one rfl rfl ?_
      show Q (some (.int (M 202 (4 * j)))) (n, I, J, R)
      exact hQ
    · skip
      have hw19 : w = nI 7 := q_swi hsw (by decide)
      rw [hw19, g_user_j hj hrj (by decide)] at hQ
      refine q_k 1 ?_
      show q_W L (d + 1) 54 q_m54 Q 134 [some (.ref 3), some (.int (nI j)), some (.int w), some (.ref (84 + 19 * j))] [.ref (84 + 19 * j)] (n, I, J, R) 0 0
      refine q_gR (b := (84 + 19 * j + 5)) rfl rfl ((q_Ac_of hK hj).ob) ((q_Ac_of hK hj).r8) ?_
      refine q_gI rfl rfl ((q_Ac_of hK hj).o5) ?_
      refine q_top (w := M 202 (4 * j + 1)) ((ha j hj).e1) ?_
      refine q_one rfl rfl ?_
      show Q (some (.int (M 202 (4 * j + 1)))) (n, I, J, R)
      exact hQ
    · skip
      have hw19 : w = nI 8 := q_swi hsw (by decide)
      rw [hw19, g_user_j hj hrj (by decide)] at hQ
      refine q_k 1 ?_
      show q_W L (d + 1) 54 q_m54 Q 142 [some (.ref 3), some (.int (nI j)), some (.int w), some (.ref (84 + 19 * j))] [.ref (84 + 19 * j)] (n, I, J, R) 0 0
      refine q_gR (b := (84 + 19 * j + 5)) rfl rfl ((q_Ac_of hK hj).ob) ((q_Ac_of hK hj).r8) ?_
      refine q_gI rfl rfl ((q_Ac_of hK hj).o5) ?_
      refine q_top (w := M 202 (4 * j + 2)) ((ha j hj).e2) ?_
      refine q_one rfl rfl ?_
      show Q (some (.int (M 202 (4 * j + 2)))) (n, I, J, R)
      exact hQ
    · skip
      have hw19 : w = nI 9 := q_swi hsw (by decide)
      rw [hw19, g_user_j hj hrj (by decide)] at hQ
      refine q_k 1 ?_
      show q_W L (d + 1) 54 q_m54 Q 150 [some (.ref 3), some (.int (nI j)), some (.int w), some (.ref (84 + 19 * j))] [.ref (84 + 19 * j)] (n, I, J, R) 0 0
      refine q_gR (b := (84 + 19 * j + 5)) rfl rfl ((q_Ac_of hK hj).ob) ((q_Ac_of hK hj).r8) ?_
      refine q_gI rfl rfl ((q_Ac_of hK hj).o5) ?_
      refine q_top (w := M 202 (4 * j + 3)) ((ha j hj).e3) ?_
      refine q_one rfl rfl ?_
      show Q (some (.int (M 202 (4 * j + 3)))) (n, I, J, R)
      exact hQ
  · skip
    show q_W L (d + 1) 54 q_m54 Q 6 [some (.ref 3), some (.int u), some (.int w), none] [.int (nI 0)] (n, I, J, R) 0 0
    refine q_one rfl rfl ?_
    show (¬ (nI 0) = 0 → q_W L (d + 1) 54 q_m54 Q 11 [some (.ref 3), some (.int u), some (.int w), none] [] (n, I, J, R) 0 0) ∧ ((nI 0) = 0 → q_W L (d + 1) 54 q_m54 Q 9 [some (.ref 3), some (.int u), some (.int w), none] [] (n, I, J, R) 0 0)
    refine ⟨fun z => absurd (by decide) z, fun _ => ?_⟩
    refine q_k 1 ?_
    show q_W L (d + 1) 54 q_m54 Q 10 [some (.ref 3), some (.int u), some (.int w), none] [.int (-1)] (n, I, J, R) 0 0
    refine q_one rfl rfl ?_
    show Q (some (.int (-1))) (n, I, J, R)
    rw [show g_user u w M = -1 by unfold g_user; rw [if_pos (g_kn_0 hno)]] at hQ
    exact hQ
theorem k_sessions {L d n : Nat} {I : q_I} {J : q_L} {R : q_R} {Q : q_Q} {M : q_I} {N : q_L} {u v : Int32} (h : CR n I J R M N) (hQ : Q (some (.int (g_sess u v M))) (n, I, J, R)) : q_Ex L (d + 3) 55 [.ref 3, .int u, .int v] (n, I, J, R) Q := by
  refine q_in (x := q_m55) rfl rfl ?_
  show q_W L (d + 2) 55 q_m55 Q 0 [some (.ref 3), some (.int u), some (.int v)] [] (n, I, J, R) 0 0
  have hK := h.K
  have ha := h.ac
  obtain ⟨ss, mc, tr, hL⟩ := h.li
  refine q_k 5 ?_
  show q_W L (d + 2) 55 q_m55 Q 5 [some (.ref 3), some (.int u), some (.int v)] [.long ((v).toInt64), .long ((u).toInt64), .ref 3] (n, I, J, R) 0 0
  refine q_cv (as := [.long ((u).toInt64), .long ((v).toInt64)]) (rs := []) rfl rfl rfl (⟨Nat.lt_of_lt_of_le (by decide) hK.1, rfl⟩) rfl rfl ?_
  refine c_areTwo (hK) (ha) (fun i j hi hj hij ei ej hri hrj => ?_) (fun hno => ?_)
  · skip
    show q_W L (d + 2) 55 q_m55 Q 8 [some (.ref 3), some (.int u), some (.int v)] [.int (nI 1)] (n, I, J, R) 0 0
    obtain rfl := q_il ei
    obtain rfl := q_il ej
    show q_W L (d + 2) 55 q_m55 Q 8 [some (.ref 3), some (.int (nI i)), some (.int (nI j))] [.int (nI 1)] (n, I, J, R) 0 0
    obtain ⟨hm3, hM6, hI6⟩ := hL.m3 (4 * i + j) (by omega)
    refine q_one rfl rfl ?_
    show ((nI 1) = 0 → q_W L (d + 2) 55 q_m55 Q 23 [some (.ref 3), some (.int (nI i)), some (.int (nI j))] [] (n, I, J, R) 0 0) ∧ (¬ (nI 1) = 0 → q_W L (d + 2) 55 q_m55 Q 11 [some (.ref 3), some (.int (nI i)), some (.int (nI j))] [] (n, I, J, R) 0 0)
    refine ⟨fun z => absurd z (by decide), fun _ => ?_⟩
    refine q_k 3 ?_
    show q_W L (d + 2) 55 q_m55 Q 14 [some (.ref 3), some (.int (nI i)), some (.int (nI j))] [.int (nI j), .int (nI i), .ref 3] (n, I, J, R) 0 0
    refine q_cv (as := [.int (nI i), .int (nI j)]) (rs := []) rfl rfl rfl (⟨Nat.lt_of_lt_of_le (by decide) hK.1, rfl⟩) rfl rfl ?_
    refine c_listOf (hK) (hi) (hj) ?_
    show q_W L (d + 2) 55 q_m55 Q 17 [some (.ref 3), some (.int (nI i)), some (.int (nI j))] [.ref (160 + 2 * (4 * i + j))] (n, I, J, R) 0 0
    refine q_gI rfl rfl (q_obL hK.1 (by omega)) ?_
    refine q_top (w := M 206 (4 * i + j)) (by rw [hM6]; exact hI6) ?_
    refine q_k 1 ?_
    show q_W L (d + 2) 55 q_m55 Q 24 [some (.ref 3), some (.int (nI i)), some (.int (nI j))] [.int (M 206 (4 * i + j))] (n, I, J, R) 0 0
    refine q_one rfl rfl ?_
    show Q (some (.int (M 206 (4 * i + j)))) (n, I, J, R)
    rw [show g_sess (nI i) (nI j) M = M 206 (4 * i + j) by unfold g_sess; rw [if_neg (g_pr_j hi hj hij hri hrj), g_cl (by omega), g_cl (by omega)]] at hQ
    exact hQ
  · skip
    show q_W L (d + 2) 55 q_m55 Q 8 [some (.ref 3), some (.int u), some (.int v)] [.int (nI 0)] (n, I, J, R) 0 0
    refine q_one rfl rfl ?_
    show ((nI 0) = 0 → q_W L (d + 2) 55 q_m55 Q 23 [some (.ref 3), some (.int u), some (.int v)] [] (n, I, J, R) 0 0) ∧ (¬ (nI 0) = 0 → q_W L (d + 2) 55 q_m55 Q 11 [some (.ref 3), some (.int u), some (.int v)] [] (n, I, J, R) 0 0)
    refine ⟨fun _ => ?_, fun z => absurd (by decide) z⟩
    refine q_k 1 ?_
    show q_W L (d + 2) 55 q_m55 Q 24 [some (.ref 3), some (.int u), some (.int v)] [.int (-1)] (n, I, J, R) 0 0
    refine q_one rfl rfl ?_
    show Q (some (.int (-1))) (n, I, J, R)
    rw [show g_sess u v M = -1 by unfold g_sess; rw [if_pos (g_pr_0 hno)]] at hQ
    exact hQ
theorem g_session_j {M : q_I} {i j k l m : Nat} (hi : i < 4) (hj : j < 4) (hij : i ≠ j) (hri : ¬ M 193 i = 0) (hrj : ¬ M 193 j = 0) (hm : M 206 (4 * i + j) = nI m) (hm3 : m ≤ 3) (hk : k < m) (hl : l ≤ 8) : g_session (nI i) (nI j) (nI k) (nI l) M = g_se (f_blk M (4 * i + j) k) l := by
  unfold g_session
  rw [if_neg (g_pr_j hi hj hij hri hrj), if_neg (nI_pos (by omega)), g_cl (show i < 10000 by omega), g_cl (show j < 10000 by omega), hm, if_neg (fun z => absurd ((nI_leI (by omega) (by omega)).mp z) (by omega)), if_neg (nI_pos (by omega)), if_pos (nI_le hl (by decide)), g_cl (by omega), g_cl (by omega)]
theorem g_session_d {M : q_I} {i j k m : Nat} {w : Int32} (hi : i < 4) (hj : j < 4) (hij : i ≠ j) (hri : ¬ M 193 i = 0) (hrj : ¬ M 193 j = 0) (hm : M 206 (4 * i + j) = nI m) (hm3 : m ≤ 3) (hk : k < m) (h : w.toInt < 0 ∨ (8 : Int) < w.toInt) : g_session (nI i) (nI j) (nI k) w M = -1 := by
  unfold g_session
  rw [if_neg (g_pr_j hi hj hij hri hrj), if_neg (nI_pos (by omega)), g_cl (show i < 10000 by omega), g_cl (show j < 10000 by omega), hm, if_neg (fun z => absurd ((nI_leI (by omega) (by omega)).mp z) (by omega))]
  rcases g_swd (N := 8) (by decide) h with q | ⟨q, q2⟩
  · rw [if_pos q]
  · rw [if_neg q, if_neg q2]
theorem g_se_un {r : Nat → Int32} : g_se r 7 = if g_un r = true then nI 1 else nI 0 := by
  show (if r 10 = nI 1 then (if r 11 = 0 then nI 1 else nI 0) else nI 0) = _
  unfold g_un
  by_cases h1 : r 10 = nI 1
  · by_cases h2 : r 11 = 0
    · rw [if_pos h1, if_pos h2, if_pos (decide_eq_true ⟨h1, h2⟩)]
    · rw [if_pos h1, if_neg h2, if_neg (fun z => h2 (of_decide_eq_true z).2)]
  · rw [if_neg h1, if_neg (fun z => h1 (of_decide_eq_true z).1)]
theorem k_session {L d n : Nat} {I : q_I} {J : q_L} {R : q_R} {Q : q_Q} {M : q_I} {N : q_L} {u v k w : Int32} (h : CR n I J R M N) (hQ : Q (some (.int (g_session u v k w M))) (n, I, J, R)) : q_Ex L (d + 3) 56 [.ref 3, .int u, .int v, .int k, .int w] (n, I, J, R) Q := by
  refine q_in (x := q_m56) rfl rfl ?_
  show q_W L (d + 2) 56 q_m56 Q 0 [some (.ref 3), some (.int u), some (.int v), some (.int k), some (.int w), none] [] (n, I, J, R) 0 0
  have hK := h.K
  have ha := h.ac
  obtain ⟨ss, mc, tr, hL⟩ := h.li
  refine q_k 5 ?_
  show q_W L (d + 2) 56 q_m56 Q 5 [some (.ref 3), some (.int u), some (.int v), some (.int k), some (.int w), none] [.long ((v).toInt64), .long ((u).toInt64), .ref 3] (n, I, J, R) 0 0
  refine q_cv (as := [.long ((u).toInt64), .long ((v).toInt64)]) (rs := []) rfl rfl rfl (⟨Nat.lt_of_lt_of_le (by decide) hK.1, rfl⟩) rfl rfl ?_
  refine c_areTwo (hK) (ha) (fun i j hi hj hij ei ej hri hrj => ?_) (fun hno => ?_)
  · skip
    show q_W L (d + 2) 56 q_m56 Q 8 [some (.ref 3), some (.int u), some (.int v), some (.int k), some (.int w), none] [.int (nI 1)] (n, I, J, R) 0 0
    obtain rfl := q_il ei
    obtain rfl := q_il ej
    show q_W L (d + 2) 56 q_m56 Q 8 [some (.ref 3), some (.int (nI i)), some (.int (nI j)), some (.int k), some (.int w), none] [.int (nI 1)] (n, I, J, R) 0 0
    obtain ⟨hm3, hM6, hI6⟩ := hL.m3 (4 * i + j) (by omega)
    refine q_one rfl rfl ?_
    show ((nI 1) = 0 → q_W L (d + 2) 56 q_m56 Q 28 [some (.ref 3), some (.int (nI i)), some (.int (nI j)), some (.int k), some (.int w), none] [] (n, I, J, R) 0 0) ∧ (¬ (nI 1) = 0 → q_W L (d + 2) 56 q_m56 Q 11 [some (.ref 3), some (.int (nI i)), some (.int (nI j)), some (.int k), some (.int w), none] [] (n, I, J, R) 0 0)
    refine ⟨fun z => absurd z (by decide), fun _ => ?_⟩
    refine q_k 1 ?_
    show q_W L (d + 2) 56 q_m56 Q 12 [some (.ref 3), some (.int (nI i)), some (.int (nI j)), some (.int k), some (.int w), none] [.int k] (n, I, J, R) 0 0
    refine q_one rfl rfl ?_
    show (k < 0 → q_W L (d + 2) 56 q_m56 Q 28 [some (.ref 3), some (.int (nI i)), some (.int (nI j)), some (.int k), some (.int w), none] [] (n, I, J, R) 0 0) ∧ (¬ k < 0 → q_W L (d + 2) 56 q_m56 Q 15 [some (.ref 3), some (.int (nI i)), some (.int (nI j)), some (.int k), some (.int w), none] [] (n, I, J, R) 0 0)
    refine ⟨fun h12 => ?_, fun h12 => ?_⟩
    · skip
      refine q_k 1 ?_
      show q_W L (d + 2) 56 q_m56 Q 29 [some (.ref 3), some (.int (nI i)), some (.int (nI j)), some (.int k), some (.int w), none] [.int (-1)] (n, I, J, R) 0 0
      refine q_one rfl rfl ?_
      show Q (some (.int (-1))) (n, I, J, R)
      rw [show g_session (nI i) (nI j) k w M = -1 by unfold g_session; rw [if_neg (g_pr_j hi hj hij hri hrj), if_pos h12]] at hQ
      exact hQ
    · skip
      refine q_k 4 ?_
      show q_W L (d + 2) 56 q_m56 Q 19 [some (.ref 3), some (.int (nI i)), some (.int (nI j)), some (.int k), some (.int w), none] [.int (nI j), .int (nI i), .ref 3, .int k] (n, I, J, R) 0 0
      refine q_cv (as := [.int (nI i), .int (nI j)]) (rs := [.int k]) rfl rfl rfl (⟨Nat.lt_of_lt_of_le (by decide) hK.1, rfl⟩) rfl rfl ?_
      refine c_listOf (hK) (hi) (hj) ?_
      show q_W L (d + 2) 56 q_m56 Q 22 [some (.ref 3), some (.int (nI i)), some (.int (nI j)), some (.int k), some (.int w), none] [.ref (160 + 2 * (4 * i + j)), .int k] (n, I, J, R) 0 0
      refine q_gI rfl rfl (q_obL hK.1 (by omega)) ?_
      refine q_top (w := nI (mc (4 * i + j))) (hI6) ?_
      refine q_one rfl rfl ?_
      show (k < (nI (mc (4 * i + j))) → q_W L (d + 2) 56 q_m56 Q 30 [some (.ref 3), some (.int (nI i)), some (.int (nI j)), some (.int k), some (.int w), none] [] (n, I, J, R) 0 0) ∧ (¬ k < (nI (mc (4 * i + j))) → q_W L (d + 2) 56 q_m56 Q 28 [some (.ref 3), some (.int (nI i)), some (.int (nI j)), some (.int k), some (.int w), none] [] (n, I, J, R) 0 0)
      refine ⟨fun h25 => ?_, fun h25 => ?_⟩
      · skip
        obtain ⟨l, hl, rfl⟩ : ∃ l : Nat, l < mc (4 * i + j) ∧ k = nI l := by
          rcases pk_ix k (show mc (4 * i + j) < 2 ^ 31 by omega) with q | q | q
          · exact absurd q h12
          · exact (Int32.lt_irrefl (Int32.lt_of_lt_of_le h25 q)).elim
          · exact q
        obtain ⟨hR1, hS, -⟩ := hL.rw (4 * i + j) l (by omega) hl
        obtain ⟨hsr, -, -⟩ := hL.re (4 * i + j) l (by omega) hl
        show q_W L (d + 2) 56 q_m56 Q 30 [some (.ref 3), some (.int (nI i)), some (.int (nI j)), some (.int (nI l)), some (.int w), none] [] (n, I, J, R) 0 0
        refine q_k 3 ?_
        show q_W L (d + 2) 56 q_m56 Q 33 [some (.ref 3), some (.int (nI i)), some (.int (nI j)), some (.int (nI l)), some (.int w), none] [.int (nI j), .int (nI i), .ref 3] (n, I, J, R) 0 0
        refine q_cv (as := [.int (nI i), .int (nI j)]) (rs := []) rfl rfl rfl (⟨Nat.lt_of_lt_of_le (by decide) hK.1, rfl⟩) rfl rfl ?_
        refine c_listOf (hK) (hi) (hj) ?_
        show q_W L (d + 2) 56 q_m56 Q 36 [some (.ref 3), some (.int (nI i)), some (.int (nI j)), some (.int (nI l)), some (.int w), none] [.ref (160 + 2 * (4 * i + j))] (n, I, J, R) 0 0
        refine q_gR (b := (160 + 2 * (4 * i + j) + 1)) rfl rfl (q_obL hK.1 (by omega)) (hK.2.1 _ _ _ (q_fxL (4 * i + j) (by omega))) ?_
        refine q_k 1 ?_
        show q_W L (d + 2) 56 q_m56 Q 40 [some (.ref 3), some (.int (nI i)), some (.int (nI j)), some (.int (nI l)), some (.int w), none] [.int (nI l), .ref (160 + 2 * (4 * i + j) + 1)] (n, I, J, R) 0 0
        refine q_aal (m := l) (b := (ss (4 * i + j) l)) rfl (q_arL hK.1 (by omega)) ⟨rfl, rfl⟩ (by omega) rfl (hR1) ?_
        refine q_k 2 ?_
        show q_W L (d + 2) 56 q_m56 Q 45 [some (.ref 3), some (.int (nI i)), some (.int (nI j)), some (.int (nI l)), some (.int w), some (.ref (ss (4 * i + j) l))] [.int w] (n, I, J, R) 0 0
        refine q_one rfl rfl ?_
        show (w.toInt < 0 ∨ 8 < w.toInt → q_W L (d + 2) 56 q_m56 Q 166 [some (.ref 3), some (.int (nI i)), some (.int (nI j)), some (.int (nI l)), some (.int w), some (.ref (ss (4 * i + j) l))] [] (n, I, J, R) 0 0) ∧ (w.toInt = 0 → q_W L (d + 2) 56 q_m56 Q 96 [some (.ref 3), some (.int (nI i)), some (.int (nI j)), some (.int (nI l)), some (.int w), some (.ref (ss (4 * i + j) l))] [] (n, I, J, R) 0 0) ∧ (w.toInt = 0 + 1 → q_W L (d + 2) 56 q_m56 Q 102 [some (.ref 3), some (.int (nI i)), some (.int (nI j)), some (.int (nI l)), some (.int w), some (.ref (ss (4 * i + j) l))] [] (n, I, J, R) 0 0) ∧ (w.toInt = 0 + 1 + 1 → q_W L (d + 2) 56 q_m56 Q 108 [some (.ref 3), some (.int (nI i)), some (.int (nI j)), some (.int (nI l)), some (.int w), some (.ref (ss (4 * i + j) l))] [] (n, I, J, R) 0 0) ∧ (w.toInt = 0 + 1 + 1 + 1 → q_W L (d + 2) 56 q_m56 Q 114 [some (.ref 3), some (.int (nI i)), some (.int (nI j)), some (.int (nI l)), some (.int w), some (.ref (ss (4 * i + j) l))] [] (n, I, J, R) 0 0) ∧ (w.toInt = 0 + 1 + 1 + 1 + 1 → q_W L (d + 2) 56 q_m56 Q 120 [some (.ref 3), some (.int (nI i)), some (.int (nI j)), some (.int (nI l)), some (.int w), some (.ref (ss (4 * i + j) l))] [] (n, I, J, R) 0 0) ∧ (w.toInt = 0 + 1 + 1 + 1 + 1 + 1 → q_W L (d + 2) 56 q_m56 Q 129 [some (.ref 3), some (.int (nI i)), some (.int (nI j)), some (.int (nI l)), some (.int w), some (.ref (ss (4 * i + j) l))] [] (n, I, J, R) 0 0) ∧ (w.toInt = 0 + 1 + 1 + 1 + 1 + 1 + 1 → q_W L (d + 2) 56 q_m56 Q 135 [some (.ref 3), some (.int (nI i)), some (.int (nI j)), some (.int (nI l)), some (.int w), some (.ref (ss (4 * i + j) l))] [] (n, I, J, R) 0 0) ∧ (w.toInt = 0 + 1 + 1 + 1 + 1 + 1 + 1 + 1 → q_W L (d + 2) 56 q_m56 Q 144 [some (.ref 3), some (.int (nI i)), some (.int (nI j)), some (.int (nI l)), some (.int w), some (.ref (ss (4 * i + j) l))] [] (n, I, J, R) 0 0) ∧ (w.toInt = 0 + 1 + 1 + 1 + 1 + 1 + 1 + 1 + 1 → q_W L (d + 2) 56 q_m56 Q 158 [some (.ref 3), some (.int (nI i)), some (.int (nI j)), some (.int (nI l)), some (.int w), some (.ref (ss (4 * i + j) l))] [] (n, I, J, R) 0 0) ∧ True
        refine ⟨fun hsw => ?_, fun hsw => ?_, fun hsw => ?_, fun hsw => ?_, fun hsw => ?_, fun hsw => ?_, fun hsw => ?_, fun hsw => ?_, fun hsw => ?_, fun hsw => ?_, trivial⟩
        · skip
          refine q_k 1 ?_
          show q_W L (d + 2) 56 q_m56 Q 167 [some (.ref 3), some (.int (nI i)), some (.int (nI j)), some (.int (nI l)), some (.int w), some (.ref (ss (4 * i + j) l))] [.int (-1)] (n, I, J, R) 0 0
          refine q_one rfl rfl ?_
          show Q (some (.int (-1))) (n, I, J, R)
          rw [g_session_d hi hj hij hri hrj hM6 hm3 hl hsw] at hQ
          exact hQ
        · skip
          have hw45 : w = nI 0 := q_swi hsw (by decide)
          rw [hw45, g_session_j hi hj hij hri hrj hM6 hm3 hl (by decide)] at hQ
          refine q_k 1 ?_
          show q_W L (d + 2) 56 q_m56 Q 98 [some (.ref 3), some (.int (nI i)), some (.int (nI j)), some (.int (nI l)), some (.int w), some (.ref (ss (4 * i + j) l))] [.ref (ss (4 * i + j) l)] (n, I, J, R) 0 0
          refine q_gI rfl rfl (hS.ob) ?_
          refine q_top (w := f_blk M (4 * i + j) l 0) (hsr.f0) ?_
          refine q_one rfl rfl ?_
          show Q (some (.int (f_blk M (4 * i + j) l 0))) (n, I, J, R)
          exact hQ
        · skip
          have hw45 : w = nI 1 := q_swi hsw (by decide)
          rw [hw45, g_session_j hi hj hij hri hrj hM6 hm3 hl (by decide)] at hQ
          refine q_k 1 ?_
          show q_W L (d + 2) 56 q_m56 Q 104 [some (.ref 3), some (.int (nI i)), some (.int (nI j)), some (.int (nI l)), some (.int w), some (.ref (ss (4 * i + j) l))] [.ref (ss (4 * i + j) l)] (n, I, J, R) 0 0
          refine q_gI rfl rfl (hS.ob) ?_
          refine q_top (w := f_blk M (4 * i + j) l 6) (hsr.f7) ?_
          refine q_one rfl rfl ?_
          show Q (some (.int (f_blk M (4 * i + j) l 6))) (n, I, J, R)
          exact hQ
        · skip
          have hw45 : w = nI 2 := q_swi hsw (by decide)
          rw [hw45, g_session_j hi hj hij hri hrj hM6 hm3 hl (by decide)] at hQ
          refine q_k 1 ?_
          show q_W L (d + 2) 56 q_m56 Q 110 [some (.ref 3), some (.int (nI i)), some (.int (nI j)), some (.int (nI l)), some (.int w), some (.ref (ss (4 * i + j) l))] [.ref (ss (4 * i + j) l)] (n, I, J, R) 0 0
          refine q_gI rfl rfl (hS.ob) ?_
          refine q_top (w := f_blk M (4 * i + j) l 7) (hsr.f8) ?_
          refine q_one rfl rfl ?_
          show Q (some (.int (f_blk M (4 * i + j) l 7))) (n, I, J, R)
          exact hQ
        · skip
          have hw45 : w = nI 3 := q_swi hsw (by decide)
          rw [hw45, g_session_j hi hj hij hri hrj hM6 hm3 hl (by decide)] at hQ
          refine q_k 1 ?_
          show q_W L (d + 2) 56 q_m56 Q 116 [some (.ref 3), some (.int (nI i)), some (.int (nI j)), some (.int (nI l)), some (.int w), some (.ref (ss (4 * i + j) l))] [.ref (ss (4 * i + j) l)] (n, I, J, R) 0 0
          refine q_gI rfl rfl (hS.ob) ?_
          refine q_top (w := f_blk M (4 * i + j) l 8) (hsr.f9) ?_
          refine q_one rfl rfl ?_
          show Q (some (.int (f_blk M (4 * i + j) l 8))) (n, I, J, R)
          exact hQ
        · skip
          have hw45 : w = nI 4 := q_swi hsw (by decide)
          rw [hw45, g_session_j hi hj hij hri hrj hM6 hm3 hl (by decide)] at hQ
          refine q_k 1 ?_
          show q_W L (d + 2) 56 q_m56 Q 122 [some (.ref 3), some (.int (nI i)), some (.int (nI j)), some (.int (nI l)), some (.int w), some (.ref (ss (4 * i + j) l))] [.ref (ss (4 * i + j) l)] (n, I, J, R) 0 0
          refine q_gR (b := (ss (4 * i + j) l + 5)) rfl rfl (hS.ob) (hS.r10) ?_
          refine q_gI rfl rfl (hS.o5) ?_
          refine q_top (w := f_blk M (4 * i + j) l 9) (hsr.k0) ?_
          refine q_one rfl rfl ?_
          show Q (some (.int (f_blk M (4 * i + j) l 9))) (n, I, J, R)
          exact hQ
        · skip
          have hw45 : w = nI 5 := q_swi hsw (by decide)
          rw [hw45, g_session_j hi hj hij hri hrj hM6 hm3 hl (by decide)] at hQ
          refine q_k 1 ?_
          show q_W L (d + 2) 56 q_m56 Q 131 [some (.ref 3), some (.int (nI i)), some (.int (nI j)), some (.int (nI l)), some (.int w), some (.ref (ss (4 * i + j) l))] [.ref (ss (4 * i + j) l)] (n, I, J, R) 0 0
          refine q_gI rfl rfl (hS.ob) ?_
          refine q_top (w := f_blk M (4 * i + j) l 1) (hsr.f3) ?_
          refine q_one rfl rfl ?_
          show Q (some (.int (f_blk M (4 * i + j) l 1))) (n, I, J, R)
          exact hQ
        · skip
          have hw45 : w = nI 6 := q_swi hsw (by decide)
          rw [hw45, g_session_j hi hj hij hri hrj hM6 hm3 hl (by decide)] at hQ
          refine q_k 1 ?_
          show q_W L (d + 2) 56 q_m56 Q 137 [some (.ref 3), some (.int (nI i)), some (.int (nI j)), some (.int (nI l)), some (.int w), some (.ref (ss (4 * i + j) l))] [.ref (ss (4 * i + j) l)] (n, I, J, R) 0 0
          refine q_gR (b := (ss (4 * i + j) l + 2)) rfl rfl (hS.ob) (hS.r2) ?_
          refine q_gI rfl rfl (hS.o2) ?_
          refine q_top (w := f_blk M (4 * i + j) l 3) (hsr.p1) ?_
          refine q_one rfl rfl ?_
          show Q (some (.int (f_blk M (4 * i + j) l 3))) (n, I, J, R)
          exact hQ
        · skip
          have hw45 : w = nI 7 := q_swi hsw (by decide)
          rw [hw45, g_session_j hi hj hij hri hrj hM6 hm3 hl (by decide)] at hQ
          rw [g_se_un] at hQ
          by_cases hu : g_un (f_blk M (4 * i + j) l) = true
          · skip
            rw [if_pos hu] at hQ
            show q_W L (d + 2) 56 q_m56 Q 144 [some (.ref 3), some (.int (nI i)), some (.int (nI j)), some (.int (nI l)), some (.int w), some (.ref (ss (4 * i + j) l))] [] (n, I, J, R) 0 0
            refine q_k 1 ?_
            show q_W L (d + 2) 56 q_m56 Q 146 [some (.ref 3), some (.int (nI i)), some (.int (nI j)), some (.int (nI l)), some (.int w), some (.ref (ss (4 * i + j) l))] [.ref (ss (4 * i + j) l)] (n, I, J, R) 0 0
            refine q_cv (as := []) (rs := []) rfl rfl rfl (hS.ob) rfl rfl ?_
            refine c_isUnanswered hS hsr ?_
            rw [if_pos hu]
            show q_W L (d + 2) 56 q_m56 Q 149 [some (.ref 3), some (.int (nI i)), some (.int (nI j)), some (.int (nI l)), some (.int w), some (.ref (ss (4 * i + j) l))] [.int (nI 1)] (n, I, J, R) 0 0
            refine q_one rfl rfl ?_
            show ((nI 1) = 0 → q_W L (d + 2) 56 q_m56 Q 156 [some (.ref 3), some (.int (nI i)), some (.int (nI j)), some (.int (nI l)), some (.int w), some (.ref (ss (4 * i + j) l))] [] (n, I, J, R) 0 0) ∧ (¬ (nI 1) = 0 → q_W L (d + 2) 56 q_m56 Q 152 [some (.ref 3), some (.int (nI i)), some (.int (nI j)), some (.int (nI l)), some (.int w), some (.ref (ss (4 * i + j) l))] [] (n, I, J, R) 0 0)
            refine ⟨fun z => absurd z (by decide), fun _ => ?_⟩
            refine q_k 2 ?_
            show q_W L (d + 2) 56 q_m56 Q 157 [some (.ref 3), some (.int (nI i)), some (.int (nI j)), some (.int (nI l)), some (.int w), some (.ref (ss (4 * i + j) l))] [.int (nI 1)] (n, I, J, R) 0 0
            refine q_one rfl rfl ?_
            show Q (some (.int (nI 1))) (n, I, J, R)
            exact hQ
          · skip
            rw [if_neg hu] at hQ
            show q_W L (d + 2) 56 q_m56 Q 144 [some (.ref 3), some (.int (nI i)), some (.int (nI j)), some (.int (nI l)), some (.int w), some (.ref (ss (4 * i + j) l))] [] (n, I, J, R) 0 0
            refine q_k 1 ?_
            show q_W L (d + 2) 56 q_m56 Q 146 [some (.ref 3), some (.int (nI i)), some (.int (nI j)), some (.int (nI l)), some (.int w), some (.ref (ss (4 * i + j) l))] [.ref (ss (4 * i + j) l)] (n, I, J, R) 0 0
            refine q_cv (as := []) (rs := []) rfl rfl rfl (hS.ob) rfl rfl ?_
            refine c_isUnanswered hS hsr ?_
            rw [if_neg hu]
            show q_W L (d + 2) 56 q_m56 Q 149 [some (.ref 3), some (.int (nI i)), some (.int (nI j)), some (.int (nI l)), some (.int w), some (.ref (ss (4 * i + j) l))] [.int (nI 0)] (n, I, J, R) 0 0
            refine q_one rfl rfl ?_
            show ((nI 0) = 0 → q_W L (d + 2) 56 q_m56 Q 156 [some (.ref 3), some (.int (nI i)), some (.int (nI j)), some (.int (nI l)), some (.int w), some (.ref (ss (4 * i + j) l))] [] (n, I, J, R) 0 0) ∧ (¬ (nI 0) = 0 → q_W L (d + 2) 56 q_m56 Q 152 [some (.ref 3), some (.int (nI i)), some (.int (nI j)), some (.int (nI l)), some (.int w), some (.ref (ss (4 * i + j) l))] [] (n, I, J, R) 0 0)
            refine ⟨fun _ => ?_, fun z => absurd (by decide) z⟩
            refine q_k 1 ?_
            show q_W L (d + 2) 56 q_m56 Q 157 [some (.ref 3), some (.int (nI i)), some (.int (nI j)), some (.int (nI l)), some (.int w), some (.ref (ss (4 * i + j) l))] [.int (nI 0)] (n, I, J, R) 0 0
            refine q_one rfl rfl ?_
            show Q (some (.int (nI 0))) (n, I, J, R)
            exact hQ
        · skip
          have hw45 : w = nI 8 := q_swi hsw (by decide)
          rw [hw45, g_session_j hi hj hij hri hrj hM6 hm3 hl (by decide)] at hQ
          refine q_k 1 ?_
          show q_W L (d + 2) 56 q_m56 Q 160 [some (.ref 3), some (.int (nI i)), some (.int (nI j)), some (.int (nI l)), some (.int w), some (.ref (ss (4 * i + j) l))] [.ref (ss (4 * i + j) l)] (n, I, J, R) 0 0
          refine q_gR (b := (ss (4 * i + j) l + 1)) rfl rfl (hS.ob) (hS.r1) ?_
          refine q_k 1 ?_
          show q_W L (d + 2) 56 q_m56 Q 164 [some (.ref 3), some (.int (nI i)), some (.int (nI j)), some (.int (nI l)), some (.int w), some (.ref (ss (4 * i + j) l))] [.int (nI 0), .ref (ss (4 * i + j) l + 1)] (n, I, J, R) 0 0
          refine q_ial (m := 0) rfl (hS.o1) (by decide) (rfl) ?_
          refine q_top (w := f_blk M (4 * i + j) l 14) (hsr.rt 0 (by decide)) ?_
          refine q_one rfl rfl ?_
          show Q (some (.int (f_blk M (4 * i + j) l 14))) (n, I, J, R)
          exact hQ
      · skip
        refine q_k 1 ?_
        show q_W L (d + 2) 56 q_m56 Q 29 [some (.ref 3), some (.int (nI i)), some (.int (nI j)), some (.int k), some (.int w), none] [.int (-1)] (n, I, J, R) 0 0
        refine q_one rfl rfl ?_
        show Q (some (.int (-1))) (n, I, J, R)
        rw [show g_session (nI i) (nI j) k w M = -1 by unfold g_session; rw [if_neg (g_pr_j hi hj hij hri hrj), if_neg h12, g_cl (show i < 10000 by omega), g_cl (show j < 10000 by omega), hM6, if_pos (Int32.not_lt.mp h25)]] at hQ
        exact hQ
  · skip
    show q_W L (d + 2) 56 q_m56 Q 8 [some (.ref 3), some (.int u), some (.int v), some (.int k), some (.int w), none] [.int (nI 0)] (n, I, J, R) 0 0
    refine q_one rfl rfl ?_
    show ((nI 0) = 0 → q_W L (d + 2) 56 q_m56 Q 28 [some (.ref 3), some (.int u), some (.int v), some (.int k), some (.int w), none] [] (n, I, J, R) 0 0) ∧ (¬ (nI 0) = 0 → q_W L (d + 2) 56 q_m56 Q 11 [some (.ref 3), some (.int u), some (.int v), some (.int k), some (.int w), none] [] (n, I, J, R) 0 0)
    refine ⟨fun _ => ?_, fun z => absurd (by decide) z⟩
    refine q_k 1 ?_
    show q_W L (d + 2) 56 q_m56 Q 29 [some (.ref 3), some (.int u), some (.int v), some (.int k), some (.int w), none] [.int (-1)] (n, I, J, R) 0 0
    refine q_one rfl rfl ?_
    show Q (some (.int (-1))) (n, I, J, R)
    rw [show g_session u v k w M = -1 by unfold g_session; rw [if_pos (g_pr_0 hno)]] at hQ
    exact hQ
theorem g_PP {b : Int32} : nI 2147483647 ≤ b ↔ b = nI 2147483647 := by
  have h := Int32.toInt_lt b
  rw [Int32.le_iff_toInt_le, nI_toInt (by decide), ← Int32.toInt_inj, nI_toInt (by decide)]
  omega
theorem k_power {L d n : Nat} {I : q_I} {J : q_L} {R : q_R} {Q : q_Q} {b e : Int32} (hQ : Q (some (.int (g_power b e))) (n, I, J, R)) : q_Ex L (d + 2) 57 [.ref 3, .int b, .int e] (n, I, J, R) Q := by
  refine q_in (x := q_m57) rfl rfl ?_
  show q_W L (d + 1) 57 q_m57 Q 0 [some (.ref 3), some (.int b), some (.int e)] [] (n, I, J, R) 0 0
  refine q_k 1 ?_
  show q_W L (d + 1) 57 q_m57 Q 1 [some (.ref 3), some (.int b), some (.int e)] [.int b] (n, I, J, R) 0 0
  refine q_one rfl rfl ?_
  show (b < 0 → q_W L (d + 1) 57 q_m57 Q 22 [some (.ref 3), some (.int b), some (.int e)] [] (n, I, J, R) 0 0) ∧ (¬ b < 0 → q_W L (d + 1) 57 q_m57 Q 4 [some (.ref 3), some (.int b), some (.int e)] [] (n, I, J, R) 0 0)
  refine ⟨fun h1 => ?_, fun h1 => ?_⟩
  · skip
    refine q_k 2 ?_
    show q_W L (d + 1) 57 q_m57 Q 31 [some (.ref 3), some (.int b), some (.int e)] [.int (-1)] (n, I, J, R) 0 0
    refine q_one rfl rfl ?_
    show Q (some (.int (-1))) (n, I, J, R)
    rw [show g_power b e = -1 by unfold g_power; rw [if_pos h1]] at hQ
    exact hQ
  · skip
    refine q_k 2 ?_
    show q_W L (d + 1) 57 q_m57 Q 8 [some (.ref 3), some (.int b), some (.int e)] [.int (nI 2147483647), .int b] (n, I, J, R) 0 0
    refine q_one rfl rfl ?_
    show (b = (nI 2147483647) → q_W L (d + 1) 57 q_m57 Q 22 [some (.ref 3), some (.int b), some (.int e)] [] (n, I, J, R) 0 0) ∧ (¬ b = (nI 2147483647) → q_W L (d + 1) 57 q_m57 Q 11 [some (.ref 3), some (.int b), some (.int e)] [] (n, I, J, R) 0 0)
    refine ⟨fun h8 => ?_, fun h8 => ?_⟩
    · skip
      refine q_k 2 ?_
      show q_W L (d + 1) 57 q_m57 Q 31 [some (.ref 3), some (.int b), some (.int e)] [.int (-1)] (n, I, J, R) 0 0
      refine q_one rfl rfl ?_
      show Q (some (.int (-1))) (n, I, J, R)
      rw [show g_power b e = -1 by unfold g_power; rw [if_neg h1, if_pos (g_PP.mpr h8)]] at hQ
      exact hQ
    · skip
      refine q_k 1 ?_
      show q_W L (d + 1) 57 q_m57 Q 12 [some (.ref 3), some (.int b), some (.int e)] [.int e] (n, I, J, R) 0 0
      refine q_one rfl rfl ?_
      show (e < 0 → q_W L (d + 1) 57 q_m57 Q 22 [some (.ref 3), some (.int b), some (.int e)] [] (n, I, J, R) 0 0) ∧ (¬ e < 0 → q_W L (d + 1) 57 q_m57 Q 15 [some (.ref 3), some (.int b), some (.int e)] [] (n, I, J, R) 0 0)
      refine ⟨fun h12 => ?_, fun h12 => ?_⟩
      · skip
        refine q_k 2 ?_
        show q_W L (d + 1) 57 q_m57 Q 31 [some (.ref 3), some (.int b), some (.int e)] [.int (-1)] (n, I, J, R) 0 0
        refine q_one rfl rfl ?_
        show Q (some (.int (-1))) (n, I, J, R)
        rw [show g_power b e = -1 by unfold g_power; rw [if_neg h1, if_neg (fun z => h8 (g_PP.mp z)), if_pos h12]] at hQ
        exact hQ
      · skip
        refine q_k 2 ?_
        show q_W L (d + 1) 57 q_m57 Q 19 [some (.ref 3), some (.int b), some (.int e)] [.int (nI 2147483647), .int e] (n, I, J, R) 0 0
        refine q_one rfl rfl ?_
        show (¬ e = (nI 2147483647) → q_W L (d + 1) 57 q_m57 Q 26 [some (.ref 3), some (.int b), some (.int e)] [] (n, I, J, R) 0 0) ∧ (e = (nI 2147483647) → q_W L (d + 1) 57 q_m57 Q 22 [some (.ref 3), some (.int b), some (.int e)] [] (n, I, J, R) 0 0)
        refine ⟨fun h19 => ?_, fun h19 => ?_⟩
        · skip
          refine q_k 2 ?_
          show q_W L (d + 1) 57 q_m57 Q 28 [some (.ref 3), some (.int b), some (.int e)] [.int e, .int b] (n, I, J, R) 0 0
          refine q_cs (as := [.int b, .int e]) (rs := []) rfl rfl rfl rfl rfl ?_
          refine c_raised  ?_
          show q_W L (d + 1) 57 q_m57 Q 31 [some (.ref 3), some (.int b), some (.int e)] [.int (g_pow b e)] (n, I, J, R) 0 0
          refine q_one rfl rfl ?_
          show Q (some (.int (g_pow b e))) (n, I, J, R)
          rw [show g_power b e = g_pow b e by unfold g_power; rw [if_neg h1, if_neg (fun z => h8 (g_PP.mp z)), if_neg h12, if_pos (Int32.not_le.mp (fun z => h19 (g_PP.mp z)))]] at hQ
          exact hQ
        · skip
          refine q_k 2 ?_
          show q_W L (d + 1) 57 q_m57 Q 31 [some (.ref 3), some (.int b), some (.int e)] [.int (-1)] (n, I, J, R) 0 0
          refine q_one rfl rfl ?_
          show Q (some (.int (-1))) (n, I, J, R)
          rw [show g_power b e = -1 by unfold g_power; rw [if_neg h1, if_neg (fun z => h8 (g_PP.mp z)), if_neg h12, if_neg (fun z => Int32.lt_irrefl (Int32.lt_of_lt_of_le z (g_PP.mpr h19)))]] at hQ
          exact hQ
theorem k_mix {L d n : Nat} {I : q_I} {J : q_L} {R : q_R} {Q : q_Q} {M : q_I} {N : q_L} {z : Int64} {a b : Int32} (h : CR n I J R M N) (hQ : ∀ n' I' J' R', CR n' I' J' R' (M) (N) → q_nmf I' I → (J' 208 = J 208 ∧ J' 192 = J 192) → Q (some (.long (g_wide (g_mkey z) a b (nI 0) (nI 0)))) (n', I', J', R')) : q_Ex L (d + 4) 58 [.ref 3, .long z, .int a, .int b] (n, I, J, R) Q := by
  refine q_in (x := q_m58) rfl rfl ?_
  show q_W L (d + 3) 58 q_m58 Q 0 [some (.ref 3), some (.long z), none, some (.int a), some (.int b), none] [] (n, I, J, R) 0 0
  have hK := h.K
  refine q_k 1 ?_
  show q_W L (d + 3) 58 q_m58 Q 1 [some (.ref 3), some (.long z), none, some (.int a), some (.int b), none] [.ref 3] (n, I, J, R) 0 0
  refine q_gR (b := 83) rfl rfl (⟨Nat.lt_of_lt_of_le (by decide) hK.1, rfl⟩) (hK.2.1 3 9 83 rfl) ?_
  refine q_k 2 ?_
  show q_W L (d + 3) 58 q_m58 Q 6 [some (.ref 3), some (.long z), none, some (.int a), some (.int b), none] [.long z, .int (nI 0), .ref 83] (n, I, J, R) 0 0
  refine q_cs (as := [.long z]) (rs := [.int (nI 0), .ref 83]) rfl rfl rfl rfl rfl ?_
  refine c_upperHalf  ?_
  refine q_top (w := g_up z) (g_up_u z) ?_
  show q_W L (d + 3) 58 q_m58 Q 9 [some (.ref 3), some (.long z), none, some (.int a), some (.int b), none] [.int (g_up z), .int (nI 0), .ref 83] (n, I, J, R) 0 0
  refine q_ias (m := 0) rfl (⟨by decide, Nat.lt_of_lt_of_le (by decide) hK.1, rfl⟩) (by decide) (rfl) ?_
  refine q_k 1 ?_
  show q_W L (d + 3) 58 q_m58 Q 11 [some (.ref 3), some (.long z), none, some (.int a), some (.int b), none] [.ref 3] (n, q_up I 83 0 (g_up z), J, R) 0 0
  refine q_gR (b := 83) rfl rfl (⟨Nat.lt_of_lt_of_le (by decide) hK.1, rfl⟩) (hK.2.1 3 9 83 rfl) ?_
  refine q_k 2 ?_
  show q_W L (d + 3) 58 q_m58 Q 16 [some (.ref 3), some (.long z), none, some (.int a), some (.int b), none] [.long z, .int (nI 1), .ref 83] (n, q_up I 83 0 (g_up z), J, R) 0 0
  refine q_cs (as := [.long z]) (rs := [.int (nI 1), .ref 83]) rfl rfl rfl rfl rfl ?_
  refine c_lowerHalf  ?_
  show q_W L (d + 3) 58 q_m58 Q 19 [some (.ref 3), some (.long z), none, some (.int a), some (.int b), none] [.int z.toInt32, .int (nI 1), .ref 83] (n, q_up I 83 0 (g_up z), J, R) 0 0
  refine q_ias (m := 1) rfl (⟨by decide, Nat.lt_of_lt_of_le (by decide) hK.1, rfl⟩) (by decide) (rfl) ?_
  obtain ⟨I1, eI1⟩ : ∃ zz9, zz9 = q_up (q_up I 83 0 (g_up z)) 83 1 z.toInt32 := ⟨_, rfl⟩
  rw [← eI1]
  refine q_k 2 ?_
  show q_W L (d + 3) 58 q_m58 Q 23 [some (.ref 3), some (.long z), none, some (.int a), some (.int b), some (.int (nI 2))] [] (n, I1, J, R) 0 0
  refine q_loop (σ := q_I) 8 (fun k I2 => 2 ≤ k ∧ (∀ i, i < k → I2 83 i = g_mkey z i) ∧ ∀ x, x ≠ 83 → I2 x = I x) (fun k I2 => q_W L (d + 3) 58 q_m58 Q 23 [some (.ref 3), some (.long z), none, some (.int a), some (.int b), some (.int (nI k))] [] (n, I2, J, R) 0 0) ?_ ?_ 2 I1 (by decide) ?_
  · intro I2 hI2
    show q_W L (d + 3) 58 q_m58 Q 23 [some (.ref 3), some (.long z), none, some (.int a), some (.int b), some (.int (nI 8))] [] (n, I2, J, R) 0 0
    refine q_k 2 ?_
    show q_W L (d + 3) 58 q_m58 Q 27 [some (.ref 3), some (.long z), none, some (.int a), some (.int b), some (.int (nI 8))] [.int (nI 8), .int (nI 8)] (n, I2, J, R) 0 0
    refine q_one rfl rfl ?_
    show ((nI 8) ≤ (nI 8) → q_W L (d + 3) 58 q_m58 Q 47 [some (.ref 3), some (.long z), none, some (.int a), some (.int b), some (.int (nI 8))] [] (n, I2, J, R) 0 0) ∧ (¬ (nI 8) ≤ (nI 8) → q_W L (d + 3) 58 q_m58 Q 30 [some (.ref 3), some (.long z), none, some (.int a), some (.int b), some (.int (nI 8))] [] (n, I2, J, R) 0 0)
    refine ⟨fun _ => ?_, fun z => absurd (nI_le (Nat.le_refl _) (by decide)) z⟩
    refine q_k 1 ?_
    show q_W L (d + 3) 58 q_m58 Q 48 [some (.ref 3), some (.long z), none, some (.int a), some (.int b), some (.int (nI 8))] [.ref 3] (n, I2, J, R) 0 0
    refine q_gR (b := 4) rfl rfl (⟨Nat.lt_of_lt_of_le (by decide) hK.1, rfl⟩) (hK.2.1 3 0 4 rfl) ?_
    refine q_k 1 ?_
    show q_W L (d + 3) 58 q_m58 Q 52 [some (.ref 3), some (.long z), none, some (.int a), some (.int b), some (.int (nI 8))] [.ref 3, .ref 4] (n, I2, J, R) 0 0
    refine q_gR (b := 83) rfl rfl (⟨Nat.lt_of_lt_of_le (by decide) hK.1, rfl⟩) (hK.2.1 3 9 83 rfl) ?_
    refine q_k 4 ?_
    show q_W L (d + 3) 58 q_m58 Q 60 [some (.ref 3), some (.long z), none, some (.int a), some (.int b), some (.int (nI 8))] [.int (nI 0), .int (nI 0), .int b, .int a, .ref 83, .ref 4] (n, I2, J, R) 0 0
    refine q_cv (as := [.ref 83, .int a, .int b, .int (nI 0), .int (nI 0)]) (rs := []) rfl rfl rfl (⟨Nat.lt_of_lt_of_le (by decide) hK.1, rfl⟩) rfl rfl ?_
    refine c_wideWord (q_K0_to hK (hI2.2.2 0 (by decide)) (hI2.2.2 1 (by decide))) (Or.inl ⟨by decide, Nat.lt_of_lt_of_le (by decide) hK.1, rfl⟩) (by decide) (fun I3 f3 => ?_)
    show q_W L (d + 3) 58 q_m58 Q 63 [some (.ref 3), some (.long z), none, some (.int a), some (.int b), some (.int (nI 8))] [.long (g_wide (I2 83) a b (nI 0) (nI 0))] (n, I3, J, R) 0 0
    refine q_one rfl rfl ?_
    show Q (some (.long (g_wide (I2 83) a b (nI 0) (nI 0)))) (n, I3, J, R)
    rw [g_wide_c hI2.2.1]
    obtain ⟨c1, c2⟩ := CR_fr h (I2 := I3) (fun x h5 h6 h7 _ _ h83 => (f3 x h5 h6 h7).trans (hI2.2.2 x h83))
    exact hQ n I3 J R c1 c2 ⟨rfl, rfl⟩
  · intro k I2 hk hI2 ih
    show q_W L (d + 3) 58 q_m58 Q 23 [some (.ref 3), some (.long z), none, some (.int a), some (.int b), some (.int (nI k))] [] (n, I2, J, R) 0 0
    refine q_k 2 ?_
    show q_W L (d + 3) 58 q_m58 Q 27 [some (.ref 3), some (.long z), none, some (.int a), some (.int b), some (.int (nI k))] [.int (nI 8), .int (nI k)] (n, I2, J, R) 0 0
    refine q_one rfl rfl ?_
    show ((nI 8) ≤ (nI k) → q_W L (d + 3) 58 q_m58 Q 47 [some (.ref 3), some (.long z), none, some (.int a), some (.int b), some (.int (nI k))] [] (n, I2, J, R) 0 0) ∧ (¬ (nI 8) ≤ (nI k) → q_W L (d + 3) 58 q_m58 Q 30 [some (.ref 3), some (.long z), none, some (.int a), some (.int b), some (.int (nI k))] [] (n, I2, J, R) 0 0)
    refine ⟨fun z => absurd z (nI_ge hk (by decide)), fun _ => ?_⟩
    refine q_k 1 ?_
    show q_W L (d + 3) 58 q_m58 Q 31 [some (.ref 3), some (.long z), none, some (.int a), some (.int b), some (.int (nI k))] [.ref 3] (n, I2, J, R) 0 0
    refine q_gR (b := 83) rfl rfl (⟨Nat.lt_of_lt_of_le (by decide) hK.1, rfl⟩) (hK.2.1 3 9 83 rfl) ?_
    refine q_k 4 ?_
    show q_W L (d + 3) 58 q_m58 Q 40 [some (.ref 3), some (.long z), none, some (.int a), some (.int b), some (.int (nI k))] [.int ((nI k) - (nI 1)), .int (nI k), .ref 83] (n, I2, J, R) 0 0
    refine q_top (w := nI (k - 1)) (pk_sub (by have := hI2.1; omega)) ?_
    refine q_ias (m := k) rfl (⟨by decide, Nat.lt_of_lt_of_le (by decide) hK.1, rfl⟩) (by omega) (rfl) ?_
    refine q_k 1 ?_
    show q_W L (d + 3) 58 q_m58 Q 44 [some (.ref 3), some (.long z), none, some (.int a), some (.int b), some (.int ((nI k) + nI 1))] [] (n, q_up I2 83 k (nI (k - 1)), J, R) 0 0
    rw [show (nI k) + nI 1 = nI (k + 1) from nI_add _ _]
    refine q_k 1 ?_
    show q_W L (d + 3) 58 q_m58 Q 23 [some (.ref 3), some (.long z), none, some (.int a), some (.int b), some (.int (nI (k + 1)))] [] (n, q_up I2 83 k (nI (k - 1)), J, R) 0 0
    refine ih _ ⟨by have := hI2.1; omega, fun i hi => ?_, fun x hx => ?_⟩
    · by_cases e : i = k
      · subst e; rw [q_usk]; unfold g_mkey; rw [if_neg (by have := hI2.1; omega), if_neg (by have := hI2.1; omega)]
      · rw [q_usn e]; exact hI2.2.1 i (by omega)
    · rw [q_un hx]; exact hI2.2.2 x hx
  · refine ⟨by decide, fun i hi => ?_, fun x hx => ?_⟩
    · have h0 : i = 0 ∨ i = 1 := by omega
      rcases h0 with rfl | rfl
      · rw [eI1, q_usn (by decide), q_usk]; rfl
      · rw [eI1, q_usk]; rfl
    · rw [eI1, q_un hx, q_un hx]
