theorem q_RI_snd {r : Nat → Int32} (h : q_RI r) : q_RI (s_snd r) := by
  unfold q_RI
  rw [s_snd_n (by omega), s_snd_n (by omega)]
  exact h
set_option maxHeartbeats 8000000 in
theorem k_send {L d n : Nat} {I : q_I} {J : q_L} {R : q_R} {Q : q_Q} {M : q_I} {N : q_L} {u v : Int32} {z : Int64} (h : CR n I J R M N) (hQ : ∀ n' I' J' R', CR n' I' J' R' ((f_send u v z M N).2.1) ((f_send u v z M N).2.2) → q_nmf I' I → (J' 208 = J 208 ∧ J' 192 = J 192) → Q (some (.int (f_send u v z M N).1)) (n', I', J', R')) : q_Ex L (d + 5) 48 [.ref 3, .int u, .int v, .long z] (n, I, J, R) Q := by
  refine q_in (x := q_m48) rfl rfl ?_
  show q_W L (d + 4) 48 q_m48 Q 0 [some (.ref 3), some (.int u), some (.int v), some (.long z), none, none, none] [] (n, I, J, R) 0 0
  have hK := h.K
  have ha := h.ac
  obtain ⟨ss, mc, tr, hL⟩ := h.li
  obtain ⟨E, hE⟩ := h.en
  have hE6 := hE.e6
  refine q_k 5 ?_
  show q_W L (d + 4) 48 q_m48 Q 5 [some (.ref 3), some (.int u), some (.int v), some (.long z), none, none, none] [.long ((v).toInt64), .long ((u).toInt64), .ref 3] (n, I, J, R) 0 0
  refine q_cv (as := [.long ((u).toInt64), .long ((v).toInt64)]) (rs := []) rfl rfl rfl (⟨Nat.lt_of_lt_of_le (by decide) hK.1, rfl⟩) rfl rfl ?_
  refine c_areTwo (hK) (ha) (fun i j hi hj hij ei ej hri hrj => ?_) (fun hno => ?_)
  · skip
    show q_W L (d + 4) 48 q_m48 Q 8 [some (.ref 3), some (.int u), some (.int v), some (.long z), none, none, none] [.int (nI 1)] (n, I, J, R) 0 0
    obtain rfl := q_il ei
    obtain rfl := q_il ej
    show q_W L (d + 4) 48 q_m48 Q 8 [some (.ref 3), some (.int (nI i)), some (.int (nI j)), some (.long z), none, none, none] [.int (nI 1)] (n, I, J, R) 0 0
    obtain ⟨hm3, hM6, hI6⟩ := hL.m3 (4 * i + j) (by omega)
    refine q_one rfl rfl ?_
    show ((nI 1) = 0 → q_W L (d + 4) 48 q_m48 Q 32 [some (.ref 3), some (.int (nI i)), some (.int (nI j)), some (.long z), none, none, none] [] (n, I, J, R) 0 0) ∧ (¬ (nI 1) = 0 → q_W L (d + 4) 48 q_m48 Q 11 [some (.ref 3), some (.int (nI i)), some (.int (nI j)), some (.long z), none, none, none] [] (n, I, J, R) 0 0)
    refine ⟨fun z => absurd z (by decide), fun _ => ?_⟩
    refine q_k 3 ?_
    show q_W L (d + 4) 48 q_m48 Q 14 [some (.ref 3), some (.int (nI i)), some (.int (nI j)), some (.long z), none, none, none] [.int (nI j), .int (nI i), .ref 3] (n, I, J, R) 0 0
    refine q_cv (as := [.int (nI i), .int (nI j)]) (rs := []) rfl rfl rfl (⟨Nat.lt_of_lt_of_le (by decide) hK.1, rfl⟩) rfl rfl ?_
    refine c_listOf (hK) (hi) (hj) ?_
    show q_W L (d + 4) 48 q_m48 Q 17 [some (.ref 3), some (.int (nI i)), some (.int (nI j)), some (.long z), none, none, none] [.ref (160 + 2 * (4 * i + j))] (n, I, J, R) 0 0
    refine q_gI rfl rfl (q_obL hK.1 (by omega)) ?_
    refine q_top (w := nI (mc (4 * i + j))) (hI6) ?_
    refine q_one rfl rfl ?_
    show ((nI (mc (4 * i + j))) = 0 → q_W L (d + 4) 48 q_m48 Q 32 [some (.ref 3), some (.int (nI i)), some (.int (nI j)), some (.long z), none, none, none] [] (n, I, J, R) 0 0) ∧ (¬ (nI (mc (4 * i + j))) = 0 → q_W L (d + 4) 48 q_m48 Q 23 [some (.ref 3), some (.int (nI i)), some (.int (nI j)), some (.long z), none, none, none] [] (n, I, J, R) 0 0)
    refine ⟨fun h20 => ?_, fun h20 => ?_⟩
    · skip
      refine q_k 1 ?_
      show q_W L (d + 4) 48 q_m48 Q 33 [some (.ref 3), some (.int (nI i)), some (.int (nI j)), some (.long z), none, none, none] [.int (-1)] (n, I, J, R) 0 0
      refine q_one rfl rfl ?_
      show Q (some (.int (-1))) (n, I, J, R)
      rw [show f_send (nI i) (nI j) z M N = (-1, M, N) by unfold f_send; rw [if_neg (g_pr_j hi hj hij hri hrj), g_cl (show i < 10000 by omega), g_cl (show j < 10000 by omega), if_pos (hM6.trans h20)]] at hQ
      dsimp only at hQ
      exact hQ n I J R h (q_nmf_rf _) ⟨rfl, rfl⟩
    · skip
      have hm0 : 0 < mc (4 * i + j) := by rcases Nat.eq_zero_or_pos (mc (4 * i + j)) with w | w; exact absurd (show nI (mc (4 * i + j)) = 0 by rw [w]; rfl) h20; exact w
      refine q_k 1 ?_
      show q_W L (d + 4) 48 q_m48 Q 24 [some (.ref 3), some (.int (nI i)), some (.int (nI j)), some (.long z), none, none, none] [.ref 3] (n, I, J, R) 0 0
      refine q_gI rfl rfl (⟨Nat.lt_of_lt_of_le (by decide) hK.1, rfl⟩) ?_
      refine q_top (w := nI E) (hE.eI) ?_
      refine q_k 1 ?_
      show q_W L (d + 4) 48 q_m48 Q 29 [some (.ref 3), some (.int (nI i)), some (.int (nI j)), some (.long z), none, none, none] [.int (nI 60), .int (nI E)] (n, I, J, R) 0 0
      refine q_one rfl rfl ?_
      show ((nI E) < (nI 60) → q_W L (d + 4) 48 q_m48 Q 34 [some (.ref 3), some (.int (nI i)), some (.int (nI j)), some (.long z), none, none, none] [] (n, I, J, R) 0 0) ∧ (¬ (nI E) < (nI 60) → q_W L (d + 4) 48 q_m48 Q 32 [some (.ref 3), some (.int (nI i)), some (.int (nI j)), some (.long z), none, none, none] [] (n, I, J, R) 0 0)
      refine ⟨fun h29 => ?_, fun h29 => ?_⟩
      · skip
        have hlt : E < 60 := (nI_ltI (by omega) (by decide)).mp h29
        have hS := hL.se (p := 4 * i + j) (by omega) hm0
        have hge := hS.ge
        have hhi := hS.hi
        obtain ⟨hsr, hss, hri2⟩ := hL.re (4 * i + j) 0 (by omega) hm0
        have hR1 := (hL.rw (4 * i + j) 0 (by omega) hm0).1
        obtain ⟨r, er⟩ : ∃ w, w = f_blk M (4 * i + j) 0 := ⟨_, rfl⟩
        rw [← er] at hsr hss hri2
        have hF : f_send (nI i) (nI j) z M N = f_snd z i j E M N := by unfold f_send; rw [if_neg (g_pr_j hi hj hij hri hrj), g_cl (show i < 10000 by omega), g_cl (show j < 10000 by omega), if_neg (fun w => h20 (hM6.symm.trans w)), hE.eM, if_neg (fun w => absurd ((nI_eq (by omega) (by decide)).mp w) (by omega)), g_cl (show E < 10000 by omega)]
        rw [hF] at hQ
        obtain ⟨t, et⟩ : ∃ w, w = ss (4 * i + j) 0 := ⟨_, rfl⟩
        rw [← et] at hS hge hhi hsr hss hR1
        by_cases hu : g_un r = true
        · skip
          show q_W L (d + 4) 48 q_m48 Q 34 [some (.ref 3), some (.int (nI i)), some (.int (nI j)), some (.long z), none, none, none] [] (n, I, J, R) 0 0
          refine q_k 3 ?_
          show q_W L (d + 4) 48 q_m48 Q 37 [some (.ref 3), some (.int (nI i)), some (.int (nI j)), some (.long z), none, none, none] [.int (nI j), .int (nI i), .ref 3] (n, I, J, R) 0 0
          refine q_cv (as := [.int (nI i), .int (nI j)]) (rs := []) rfl rfl rfl (⟨Nat.lt_of_lt_of_le (by decide) hK.1, rfl⟩) rfl rfl ?_
          refine c_listOf (hK) (hi) (hj) ?_
          show q_W L (d + 4) 48 q_m48 Q 40 [some (.ref 3), some (.int (nI i)), some (.int (nI j)), some (.long z), none, none, none] [.ref (160 + 2 * (4 * i + j))] (n, I, J, R) 0 0
          refine q_gR (b := (160 + 2 * (4 * i + j) + 1)) rfl rfl (q_obL hK.1 (by omega)) (hK.2.1 _ _ _ (q_fxL (4 * i + j) (by omega))) ?_
          refine q_k 1 ?_
          show q_W L (d + 4) 48 q_m48 Q 44 [some (.ref 3), some (.int (nI i)), some (.int (nI j)), some (.long z), none, none, none] [.int (nI 0), .ref (160 + 2 * (4 * i + j) + 1)] (n, I, J, R) 0 0
          refine q_aal (m := 0) (b := t) rfl (q_arL hK.1 (by omega)) ⟨rfl, rfl⟩ (by decide) rfl (hR1) ?_
          refine q_k 2 ?_
          show q_W L (d + 4) 48 q_m48 Q 48 [some (.ref 3), some (.int (nI i)), some (.int (nI j)), some (.long z), none, some (.ref t), none] [.ref 3] (n, I, J, R) 0 0
          refine q_gR (b := 10) rfl rfl (⟨Nat.lt_of_lt_of_le (by decide) hK.1, rfl⟩) (hK.2.1 3 3 10 rfl) ?_
          refine q_k 1 ?_
          show q_W L (d + 4) 48 q_m48 Q 52 [some (.ref 3), some (.int (nI i)), some (.int (nI j)), some (.long z), none, some (.ref t), none] [.ref 3, .ref 10] (n, I, J, R) 0 0
          refine q_gI rfl rfl (⟨Nat.lt_of_lt_of_le (by decide) hK.1, rfl⟩) ?_
          refine q_top (w := nI E) (hE.eI) ?_
          refine q_aal (m := E) (b := (11 + E)) rfl (⟨by decide, Nat.lt_of_lt_of_le (by decide) hK.1, rfl⟩) ⟨rfl, rfl⟩ (by omega) rfl (hK.2.1 10 E _ (q_fxA E (by omega))) ?_
          refine q_k 5 ?_
          show q_W L (d + 4) 48 q_m48 Q 63 [some (.ref 3), some (.int (nI i)), some (.int (nI j)), some (.long z), none, some (.ref t), some (.ref (11 + E))] [.long ((nI i).toInt64), .int (nI 0), .ref (11 + E)] (n, I, J, R) 0 0
          refine q_las (m := 0) rfl (q_arE hK.1 (by omega)) (by decide) (rfl) ?_
          refine q_k 4 ?_
          show q_W L (d + 4) 48 q_m48 Q 69 [some (.ref 3), some (.int (nI i)), some (.int (nI j)), some (.long z), none, some (.ref t), some (.ref (11 + E))] [.long ((nI j).toInt64), .int (nI 1), .ref (11 + E)] (n, I, q_up J (11 + E) 0 ((nI i).toInt64), R) 0 0
          refine q_las (m := 1) rfl (q_arE hK.1 (by omega)) (by decide) (rfl) ?_
          refine q_k 3 ?_
          show q_W L (d + 4) 48 q_m48 Q 75 [some (.ref 3), some (.int (nI i)), some (.int (nI j)), some (.long z), none, some (.ref t), some (.ref (11 + E))] [.ref t, .int (nI 2), .ref (11 + E)] (n, I, q_up (q_up J (11 + E) 0 ((nI i).toInt64)) (11 + E) 1 ((nI j).toInt64), R) 0 0
          refine q_cv (as := []) (rs := [.int (nI 2), .ref (11 + E)]) rfl rfl rfl (hS.ob) rfl rfl ?_
          refine c_isUnanswered hS hsr ?_
          rw [if_pos hu]
          show q_W L (d + 4) 48 q_m48 Q 78 [some (.ref 3), some (.int (nI i)), some (.int (nI j)), some (.long z), none, some (.ref t), some (.ref (11 + E))] [.int (nI 1), .int (nI 2), .ref (11 + E)] (n, I, q_up (q_up J (11 + E) 0 ((nI i).toInt64)) (11 + E) 1 ((nI j).toInt64), R) 0 0
          refine q_one rfl rfl ?_
          show ((nI 1) = 0 → q_W L (d + 4) 48 q_m48 Q 85 [some (.ref 3), some (.int (nI i)), some (.int (nI j)), some (.long z), none, some (.ref t), some (.ref (11 + E))] [.int (nI 2), .ref (11 + E)] (n, I, q_up (q_up J (11 + E) 0 ((nI i).toInt64)) (11 + E) 1 ((nI j).toInt64), R) 0 0) ∧ (¬ (nI 1) = 0 → q_W L (d + 4) 48 q_m48 Q 81 [some (.ref 3), some (.int (nI i)), some (.int (nI j)), some (.long z), none, some (.ref t), some (.ref (11 + E))] [.int (nI 2), .ref (11 + E)] (n, I, q_up (q_up J (11 + E) 0 ((nI i).toInt64)) (11 + E) 1 ((nI j).toInt64), R) 0 0)
          refine ⟨fun z => absurd z (by decide), fun _ => ?_⟩
          refine q_k 2 ?_
          show q_W L (d + 4) 48 q_m48 Q 86 [some (.ref 3), some (.int (nI i)), some (.int (nI j)), some (.long z), none, some (.ref t), some (.ref (11 + E))] [.long (lN 0), .int (nI 2), .ref (11 + E)] (n, I, q_up (q_up J (11 + E) 0 ((nI i).toInt64)) (11 + E) 1 ((nI j).toInt64), R) 0 0
          refine q_las (m := 2) rfl (q_arE hK.1 (by omega)) (by decide) (rfl) ?_
          refine q_k 1 ?_
          show q_W L (d + 4) 48 q_m48 Q 89 [some (.ref 3), some (.int (nI i)), some (.int (nI j)), some (.long z), none, some (.ref t), some (.ref (11 + E))] [.ref t] (n, I, q_up (q_up (q_up J (11 + E) 0 ((nI i).toInt64)) (11 + E) 1 ((nI j).toInt64)) (11 + E) 2 (lN 0), R) 0 0
          refine q_cv (as := []) (rs := []) rfl rfl rfl (hS.ob) rfl rfl ?_
          refine c_isUnanswered hS hsr ?_
          rw [if_pos hu]
          show q_W L (d + 4) 48 q_m48 Q 92 [some (.ref 3), some (.int (nI i)), some (.int (nI j)), some (.long z), none, some (.ref t), some (.ref (11 + E))] [.int (nI 1)] (n, I, q_up (q_up (q_up J (11 + E) 0 ((nI i).toInt64)) (11 + E) 1 ((nI j).toInt64)) (11 + E) 2 (lN 0), R) 0 0
          refine q_one rfl rfl ?_
          show ((nI 1) = 0 → q_W L (d + 4) 48 q_m48 Q 143 [some (.ref 3), some (.int (nI i)), some (.int (nI j)), some (.long z), none, some (.ref t), some (.ref (11 + E))] [] (n, I, q_up (q_up (q_up J (11 + E) 0 ((nI i).toInt64)) (11 + E) 1 ((nI j).toInt64)) (11 + E) 2 (lN 0), R) 0 0) ∧ (¬ (nI 1) = 0 → q_W L (d + 4) 48 q_m48 Q 95 [some (.ref 3), some (.int (nI i)), some (.int (nI j)), some (.long z), none, some (.ref t), some (.ref (11 + E))] [] (n, I, q_up (q_up (q_up J (11 + E) 0 ((nI i).toInt64)) (11 + E) 1 ((nI j).toInt64)) (11 + E) 2 (lN 0), R) 0 0)
          refine ⟨fun z => absurd z (by decide), fun _ => ?_⟩
          refine q_k 3 ?_
          show q_W L (d + 4) 48 q_m48 Q 99 [some (.ref 3), some (.int (nI i)), some (.int (nI j)), some (.long z), none, some (.ref t), some (.ref (11 + E))] [.ref 3, .int (nI 3), .ref (11 + E)] (n, I, q_up (q_up (q_up J (11 + E) 0 ((nI i).toInt64)) (11 + E) 1 ((nI j).toInt64)) (11 + E) 2 (lN 0), R) 0 0
          refine q_gR (b := 8) rfl rfl (⟨Nat.lt_of_lt_of_le (by decide) hK.1, rfl⟩) (hK.2.1 3 1 8 rfl) ?_
          refine q_k 1 ?_
          show q_W L (d + 4) 48 q_m48 Q 103 [some (.ref 3), some (.int (nI i)), some (.int (nI j)), some (.long z), none, some (.ref t), some (.ref (11 + E))] [.int (nI i), .ref 8, .int (nI 3), .ref (11 + E)] (n, I, q_up (q_up (q_up J (11 + E) 0 ((nI i).toInt64)) (11 + E) 1 ((nI j).toInt64)) (11 + E) 2 (lN 0), R) 0 0
          refine q_aal (m := i) (b := (84 + 19 * i)) rfl (⟨by decide, Nat.lt_of_lt_of_le (by decide) hK.1, rfl⟩) ⟨rfl, rfl⟩ (hi) rfl (hK.2.1 8 i _ (q_fx8 i hi)) ?_
          refine q_gR (b := (84 + 19 * i + 1)) rfl rfl ((q_Ac_of hK hi).ob) ((q_Ac_of hK hi).r2) ?_
          refine q_gI rfl rfl ((q_Ac_of hK hi).o1) ?_
          refine q_top (w := M 197 (2 * i + 1)) ((ha i hi).i1) ?_
          refine q_k 1 ?_
          show q_W L (d + 4) 48 q_m48 Q 111 [some (.ref 3), some (.int (nI i)), some (.int (nI j)), some (.long z), none, some (.ref t), some (.ref (11 + E))] [.long ((M 197 (2 * i + 1)).toInt64), .int (nI 3), .ref (11 + E)] (n, I, q_up (q_up (q_up J (11 + E) 0 ((nI i).toInt64)) (11 + E) 1 ((nI j).toInt64)) (11 + E) 2 (lN 0), R) 0 0
          refine q_las (m := 3) rfl (q_arE hK.1 (by omega)) (by decide) (rfl) ?_
          refine q_k 3 ?_
          show q_W L (d + 4) 48 q_m48 Q 117 [some (.ref 3), some (.int (nI i)), some (.int (nI j)), some (.long z), none, some (.ref t), some (.ref (11 + E))] [.ref t, .int (nI 4), .ref (11 + E)] (n, I, q_up (q_up (q_up (q_up J (11 + E) 0 ((nI i).toInt64)) (11 + E) 1 ((nI j).toInt64)) (11 + E) 2 (lN 0)) (11 + E) 3 ((M 197 (2 * i + 1)).toInt64), R) 0 0
          refine q_gI rfl rfl (hS.ob) ?_
          refine q_top (w := r 0) (hsr.f0) ?_
          refine q_k 1 ?_
          show q_W L (d + 4) 48 q_m48 Q 121 [some (.ref 3), some (.int (nI i)), some (.int (nI j)), some (.long z), none, some (.ref t), some (.ref (11 + E))] [.long ((r 0).toInt64), .int (nI 4), .ref (11 + E)] (n, I, q_up (q_up (q_up (q_up J (11 + E) 0 ((nI i).toInt64)) (11 + E) 1 ((nI j).toInt64)) (11 + E) 2 (lN 0)) (11 + E) 3 ((M 197 (2 * i + 1)).toInt64), R) 0 0
          refine q_las (m := 4) rfl (q_arE hK.1 (by omega)) (by decide) (rfl) ?_
          refine q_k 3 ?_
          show q_W L (d + 4) 48 q_m48 Q 127 [some (.ref 3), some (.int (nI i)), some (.int (nI j)), some (.long z), none, some (.ref t), some (.ref (11 + E))] [.ref t, .int (nI 5), .ref (11 + E)] (n, I, q_up (q_up (q_up (q_up (q_up J (11 + E) 0 ((nI i).toInt64)) (11 + E) 1 ((nI j).toInt64)) (11 + E) 2 (lN 0)) (11 + E) 3 ((M 197 (2 * i + 1)).toInt64)) (11 + E) 4 ((r 0).toInt64), R) 0 0
          refine q_gI rfl rfl (hS.ob) ?_
          refine q_top (w := r 12) (hsr.f13) ?_
          refine q_k 1 ?_
          show q_W L (d + 4) 48 q_m48 Q 131 [some (.ref 3), some (.int (nI i)), some (.int (nI j)), some (.long z), none, some (.ref t), some (.ref (11 + E))] [.long ((r 12).toInt64), .int (nI 5), .ref (11 + E)] (n, I, q_up (q_up (q_up (q_up (q_up J (11 + E) 0 ((nI i).toInt64)) (11 + E) 1 ((nI j).toInt64)) (11 + E) 2 (lN 0)) (11 + E) 3 ((M 197 (2 * i + 1)).toInt64)) (11 + E) 4 ((r 0).toInt64), R) 0 0
          refine q_las (m := 5) rfl (q_arE hK.1 (by omega)) (by decide) (rfl) ?_
          refine q_k 3 ?_
          show q_W L (d + 4) 48 q_m48 Q 138 [some (.ref 3), some (.int (nI i)), some (.int (nI j)), some (.long z), none, some (.ref t), some (.ref (11 + E))] [.ref t, .int (nI 6), .ref (11 + E)] (n, I, q_up (q_up (q_up (q_up (q_up (q_up J (11 + E) 0 ((nI i).toInt64)) (11 + E) 1 ((nI j).toInt64)) (11 + E) 2 (lN 0)) (11 + E) 3 ((M 197 (2 * i + 1)).toInt64)) (11 + E) 4 ((r 0).toInt64)) (11 + E) 5 ((r 12).toInt64), R) 0 0
          refine q_gI rfl rfl (hS.ob) ?_
          refine q_top (w := r 13) (hsr.f14) ?_
          refine q_k 1 ?_
          show q_W L (d + 4) 48 q_m48 Q 142 [some (.ref 3), some (.int (nI i)), some (.int (nI j)), some (.long z), none, some (.ref t), some (.ref (11 + E))] [.long ((r 13).toInt64), .int (nI 6), .ref (11 + E)] (n, I, q_up (q_up (q_up (q_up (q_up (q_up J (11 + E) 0 ((nI i).toInt64)) (11 + E) 1 ((nI j).toInt64)) (11 + E) 2 (lN 0)) (11 + E) 3 ((M 197 (2 * i + 1)).toInt64)) (11 + E) 4 ((r 0).toInt64)) (11 + E) 5 ((r 12).toInt64), R) 0 0
          refine q_las (m := 6) rfl (q_arE hK.1 (by omega)) (by decide) (rfl) ?_
          refine q_k 3 ?_
          show q_W L (d + 4) 48 q_m48 Q 149 [some (.ref 3), some (.int (nI i)), some (.int (nI j)), some (.long z), none, some (.ref t), some (.ref (11 + E))] [.ref t, .int (nI 7), .ref (11 + E)] (n, I, q_up (q_up (q_up (q_up (q_up (q_up (q_up J (11 + E) 0 ((nI i).toInt64)) (11 + E) 1 ((nI j).toInt64)) (11 + E) 2 (lN 0)) (11 + E) 3 ((M 197 (2 * i + 1)).toInt64)) (11 + E) 4 ((r 0).toInt64)) (11 + E) 5 ((r 12).toInt64)) (11 + E) 6 ((r 13).toInt64), R) 0 0
          refine q_gR (b := (t + 2)) rfl rfl (hS.ob) (hS.r2) ?_
          refine q_gI rfl rfl (hS.o2) ?_
          refine q_top (w := r 3) (hsr.p1) ?_
          refine q_k 1 ?_
          show q_W L (d + 4) 48 q_m48 Q 156 [some (.ref 3), some (.int (nI i)), some (.int (nI j)), some (.long z), none, some (.ref t), some (.ref (11 + E))] [.long ((r 3).toInt64), .int (nI 7), .ref (11 + E)] (n, I, q_up (q_up (q_up (q_up (q_up (q_up (q_up J (11 + E) 0 ((nI i).toInt64)) (11 + E) 1 ((nI j).toInt64)) (11 + E) 2 (lN 0)) (11 + E) 3 ((M 197 (2 * i + 1)).toInt64)) (11 + E) 4 ((r 0).toInt64)) (11 + E) 5 ((r 12).toInt64)) (11 + E) 6 ((r 13).toInt64), R) 0 0
          refine q_las (m := 7) rfl (q_arE hK.1 (by omega)) (by decide) (rfl) ?_
          refine q_k 3 ?_
          show q_W L (d + 4) 48 q_m48 Q 163 [some (.ref 3), some (.int (nI i)), some (.int (nI j)), some (.long z), none, some (.ref t), some (.ref (11 + E))] [.ref t, .int (nI 8), .ref (11 + E)] (n, I, q_up (q_up (q_up (q_up (q_up (q_up (q_up (q_up J (11 + E) 0 ((nI i).toInt64)) (11 + E) 1 ((nI j).toInt64)) (11 + E) 2 (lN 0)) (11 + E) 3 ((M 197 (2 * i + 1)).toInt64)) (11 + E) 4 ((r 0).toInt64)) (11 + E) 5 ((r 12).toInt64)) (11 + E) 6 ((r 13).toInt64)) (11 + E) 7 ((r 3).toInt64), R) 0 0
          refine q_gI rfl rfl (hS.ob) ?_
          refine q_top (w := r 6) (hsr.f7) ?_
          refine q_k 1 ?_
          show q_W L (d + 4) 48 q_m48 Q 167 [some (.ref 3), some (.int (nI i)), some (.int (nI j)), some (.long z), none, some (.ref t), some (.ref (11 + E))] [.long ((r 6).toInt64), .int (nI 8), .ref (11 + E)] (n, I, q_up (q_up (q_up (q_up (q_up (q_up (q_up (q_up J (11 + E) 0 ((nI i).toInt64)) (11 + E) 1 ((nI j).toInt64)) (11 + E) 2 (lN 0)) (11 + E) 3 ((M 197 (2 * i + 1)).toInt64)) (11 + E) 4 ((r 0).toInt64)) (11 + E) 5 ((r 12).toInt64)) (11 + E) 6 ((r 13).toInt64)) (11 + E) 7 ((r 3).toInt64), R) 0 0
          refine q_las (m := 8) rfl (q_arE hK.1 (by omega)) (by decide) (rfl) ?_
          refine q_k 3 ?_
          show q_W L (d + 4) 48 q_m48 Q 174 [some (.ref 3), some (.int (nI i)), some (.int (nI j)), some (.long z), none, some (.ref t), some (.ref (11 + E))] [.ref t, .int (nI 9), .ref (11 + E)] (n, I, q_up (q_up (q_up (q_up (q_up (q_up (q_up (q_up (q_up J (11 + E) 0 ((nI i).toInt64)) (11 + E) 1 ((nI j).toInt64)) (11 + E) 2 (lN 0)) (11 + E) 3 ((M 197 (2 * i + 1)).toInt64)) (11 + E) 4 ((r 0).toInt64)) (11 + E) 5 ((r 12).toInt64)) (11 + E) 6 ((r 13).toInt64)) (11 + E) 7 ((r 3).toInt64)) (11 + E) 8 ((r 6).toInt64), R) 0 0
          refine q_gI rfl rfl (hS.ob) ?_
          refine q_top (w := r 8) (hsr.f9) ?_
          refine q_k 1 ?_
          show q_W L (d + 4) 48 q_m48 Q 178 [some (.ref 3), some (.int (nI i)), some (.int (nI j)), some (.long z), none, some (.ref t), some (.ref (11 + E))] [.long ((r 8).toInt64), .int (nI 9), .ref (11 + E)] (n, I, q_up (q_up (q_up (q_up (q_up (q_up (q_up (q_up (q_up J (11 + E) 0 ((nI i).toInt64)) (11 + E) 1 ((nI j).toInt64)) (11 + E) 2 (lN 0)) (11 + E) 3 ((M 197 (2 * i + 1)).toInt64)) (11 + E) 4 ((r 0).toInt64)) (11 + E) 5 ((r 12).toInt64)) (11 + E) 6 ((r 13).toInt64)) (11 + E) 7 ((r 3).toInt64)) (11 + E) 8 ((r 6).toInt64), R) 0 0
          refine q_las (m := 9) rfl (q_arE hK.1 (by omega)) (by decide) (rfl) ?_
          refine q_k 1 ?_
          show q_W L (d + 4) 48 q_m48 Q 180 [some (.ref 3), some (.int (nI i)), some (.int (nI j)), some (.long z), none, some (.ref t), some (.ref (11 + E))] [.ref 3] (n, I, q_up (q_up (q_up (q_up (q_up (q_up (q_up (q_up (q_up (q_up J (11 + E) 0 ((nI i).toInt64)) (11 + E) 1 ((nI j).toInt64)) (11 + E) 2 (lN 0)) (11 + E) 3 ((M 197 (2 * i + 1)).toInt64)) (11 + E) 4 ((r 0).toInt64)) (11 + E) 5 ((r 12).toInt64)) (11 + E) 6 ((r 13).toInt64)) (11 + E) 7 ((r 3).toInt64)) (11 + E) 8 ((r 6).toInt64)) (11 + E) 9 ((r 8).toInt64), R) 0 0
          refine q_gR (b := 4) rfl rfl (⟨Nat.lt_of_lt_of_le (by decide) hK.1, rfl⟩) (hK.2.1 3 0 4 rfl) ?_
          refine q_k 1 ?_
          show q_W L (d + 4) 48 q_m48 Q 184 [some (.ref 3), some (.int (nI i)), some (.int (nI j)), some (.long z), none, some (.ref t), some (.ref (11 + E))] [.ref 3, .ref 4] (n, I, q_up (q_up (q_up (q_up (q_up (q_up (q_up (q_up (q_up (q_up J (11 + E) 0 ((nI i).toInt64)) (11 + E) 1 ((nI j).toInt64)) (11 + E) 2 (lN 0)) (11 + E) 3 ((M 197 (2 * i + 1)).toInt64)) (11 + E) 4 ((r 0).toInt64)) (11 + E) 5 ((r 12).toInt64)) (11 + E) 6 ((r 13).toInt64)) (11 + E) 7 ((r 3).toInt64)) (11 + E) 8 ((r 6).toInt64)) (11 + E) 9 ((r 8).toInt64), R) 0 0
          refine q_gR (b := 82) rfl rfl (⟨Nat.lt_of_lt_of_le (by decide) hK.1, rfl⟩) (hK.2.1 3 8 82 rfl) ?_
          refine q_k 1 ?_
          show q_W L (d + 4) 48 q_m48 Q 189 [some (.ref 3), some (.int (nI i)), some (.int (nI j)), some (.long z), none, some (.ref t), some (.ref (11 + E))] [.ref t, .ref 82, .ref 4] (n, I, q_up (q_up (q_up (q_up (q_up (q_up (q_up (q_up (q_up (q_up J (11 + E) 0 ((nI i).toInt64)) (11 + E) 1 ((nI j).toInt64)) (11 + E) 2 (lN 0)) (11 + E) 3 ((M 197 (2 * i + 1)).toInt64)) (11 + E) 4 ((r 0).toInt64)) (11 + E) 5 ((r 12).toInt64)) (11 + E) 6 ((r 13).toInt64)) (11 + E) 7 ((r 3).toInt64)) (11 + E) 8 ((r 6).toInt64)) (11 + E) 9 ((r 8).toInt64), R) 0 0
          refine q_gR (b := (t + 3)) rfl rfl (hS.ob) (hS.r4) ?_
          refine q_cv (as := [.ref 82, .ref (t + 3)]) (rs := []) rfl rfl rfl (⟨Nat.lt_of_lt_of_le (by decide) hK.1, rfl⟩) rfl rfl ?_
          refine c_take (hK) (⟨by decide, Nat.lt_of_lt_of_le (by decide) hK.1, rfl⟩) (by decide) (by decide) (hS.o3) (by omega) (by omega) (by omega) (fun I1 a1 b1 g1 => ?_)
          show q_W L (d + 4) 48 q_m48 Q 195 [some (.ref 3), some (.int (nI i)), some (.int (nI j)), some (.long z), none, some (.ref t), some (.ref (11 + E))] [] (n, I1, q_up (q_up (q_up (q_up (q_up (q_up (q_up (q_up (q_up (q_up J (11 + E) 0 ((nI i).toInt64)) (11 + E) 1 ((nI j).toInt64)) (11 + E) 2 (lN 0)) (11 + E) 3 ((M 197 (2 * i + 1)).toInt64)) (11 + E) 4 ((r 0).toInt64)) (11 + E) 5 ((r 12).toInt64)) (11 + E) 6 ((r 13).toInt64)) (11 + E) 7 ((r 3).toInt64)) (11 + E) 8 ((r 6).toInt64)) (11 + E) 9 ((r 8).toInt64), R) 0 0
          refine q_k 4 ?_
          show q_W L (d + 4) 48 q_m48 Q 201 [some (.ref 3), some (.int (nI i)), some (.int (nI j)), some (.long z), none, some (.ref t), some (.ref (11 + E))] [.ref 3, .long z, .int (nI 10), .ref (11 + E)] (n, I1, q_up (q_up (q_up (q_up (q_up (q_up (q_up (q_up (q_up (q_up J (11 + E) 0 ((nI i).toInt64)) (11 + E) 1 ((nI j).toInt64)) (11 + E) 2 (lN 0)) (11 + E) 3 ((M 197 (2 * i + 1)).toInt64)) (11 + E) 4 ((r 0).toInt64)) (11 + E) 5 ((r 12).toInt64)) (11 + E) 6 ((r 13).toInt64)) (11 + E) 7 ((r 3).toInt64)) (11 + E) 8 ((r 6).toInt64)) (11 + E) 9 ((r 8).toInt64), R) 0 0
          refine q_gR (b := 4) rfl rfl (⟨Nat.lt_of_lt_of_le (by decide) hK.1, rfl⟩) (hK.2.1 3 0 4 rfl) ?_
          refine q_k 1 ?_
          show q_W L (d + 4) 48 q_m48 Q 205 [some (.ref 3), some (.int (nI i)), some (.int (nI j)), some (.long z), none, some (.ref t), some (.ref (11 + E))] [.ref 3, .ref 4, .long z, .int (nI 10), .ref (11 + E)] (n, I1, q_up (q_up (q_up (q_up (q_up (q_up (q_up (q_up (q_up (q_up J (11 + E) 0 ((nI i).toInt64)) (11 + E) 1 ((nI j).toInt64)) (11 + E) 2 (lN 0)) (11 + E) 3 ((M 197 (2 * i + 1)).toInt64)) (11 + E) 4 ((r 0).toInt64)) (11 + E) 5 ((r 12).toInt64)) (11 + E) 6 ((r 13).toInt64)) (11 + E) 7 ((r 3).toInt64)) (11 + E) 8 ((r 6).toInt64)) (11 + E) 9 ((r 8).toInt64), R) 0 0
          refine q_gR (b := 82) rfl rfl (⟨Nat.lt_of_lt_of_le (by decide) hK.1, rfl⟩) (hK.2.1 3 8 82 rfl) ?_
          refine q_k 4 ?_
          show q_W L (d + 4) 48 q_m48 Q 213 [some (.ref 3), some (.int (nI i)), some (.int (nI j)), some (.long z), none, some (.ref t), some (.ref (11 + E))] [.int (nI 0), .int (nI 0), .int (nI 0), .int (nI 9), .ref 82, .ref 4, .long z, .int (nI 10), .ref (11 + E)] (n, I1, q_up (q_up (q_up (q_up (q_up (q_up (q_up (q_up (q_up (q_up J (11 + E) 0 ((nI i).toInt64)) (11 + E) 1 ((nI j).toInt64)) (11 + E) 2 (lN 0)) (11 + E) 3 ((M 197 (2 * i + 1)).toInt64)) (11 + E) 4 ((r 0).toInt64)) (11 + E) 5 ((r 12).toInt64)) (11 + E) 6 ((r 13).toInt64)) (11 + E) 7 ((r 3).toInt64)) (11 + E) 8 ((r 6).toInt64)) (11 + E) 9 ((r 8).toInt64), R) 0 0
          refine q_cv (as := [.ref 82, .int (nI 9), .int (nI 0), .int (nI 0), .int (nI 0)]) (rs := [.long z, .int (nI 10), .ref (11 + E)]) rfl rfl rfl (⟨Nat.lt_of_lt_of_le (by decide) hK.1, rfl⟩) rfl rfl ?_
          have K1 := q_K0_to hK (g1 0 (by omega) (by omega) (by omega) (by omega)) (g1 1 (by omega) (by omega) (by omega) (by omega))
          refine c_wideWord (K1) (Or.inl ⟨by decide, Nat.lt_of_lt_of_le (by decide) hK.1, rfl⟩) (by decide) (fun I2 g2 => ?_)
          have key1 : ∀ l, l < 8 → I1 82 l = s_kS r l := fun l hl => by rw [a1 l hl]; exact g_mix_c (fun m hm => hss m hm) _ _ _ _ (by omega)
          show q_W L (d + 4) 48 q_m48 Q 216 [some (.ref 3), some (.int (nI i)), some (.int (nI j)), some (.long z), none, some (.ref t), some (.ref (11 + E))] [.long (g_wide (I1 82) (nI 9) (nI 0) (nI 0) (nI 0)), .long z, .int (nI 10), .ref (11 + E)] (n, I2, q_up (q_up (q_up (q_up (q_up (q_up (q_up (q_up (q_up (q_up J (11 + E) 0 ((nI i).toInt64)) (11 + E) 1 ((nI j).toInt64)) (11 + E) 2 (lN 0)) (11 + E) 3 ((M 197 (2 * i + 1)).toInt64)) (11 + E) 4 ((r 0).toInt64)) (11 + E) 5 ((r 12).toInt64)) (11 + E) 6 ((r 13).toInt64)) (11 + E) 7 ((r 3).toInt64)) (11 + E) 8 ((r 6).toInt64)) (11 + E) 9 ((r 8).toInt64), R) 0 0
          refine q_k 1 ?_
          show q_W L (d + 4) 48 q_m48 Q 217 [some (.ref 3), some (.int (nI i)), some (.int (nI j)), some (.long z), none, some (.ref t), some (.ref (11 + E))] [.long (z ^^^ (g_wide (I1 82) (nI 9) (nI 0) (nI 0) (nI 0))), .int (nI 10), .ref (11 + E)] (n, I2, q_up (q_up (q_up (q_up (q_up (q_up (q_up (q_up (q_up (q_up J (11 + E) 0 ((nI i).toInt64)) (11 + E) 1 ((nI j).toInt64)) (11 + E) 2 (lN 0)) (11 + E) 3 ((M 197 (2 * i + 1)).toInt64)) (11 + E) 4 ((r 0).toInt64)) (11 + E) 5 ((r 12).toInt64)) (11 + E) 6 ((r 13).toInt64)) (11 + E) 7 ((r 3).toInt64)) (11 + E) 8 ((r 6).toInt64)) (11 + E) 9 ((r 8).toInt64), R) 0 0
          refine q_topL (w := g_ci z r) (by unfold g_ci; rw [g_wide_c key1]) ?_
          refine q_las (m := 10) rfl (q_arE hK.1 (by omega)) (by decide) (rfl) ?_
          refine q_k 4 ?_
          show q_W L (d + 4) 48 q_m48 Q 225 [some (.ref 3), some (.int (nI i)), some (.int (nI j)), some (.long z), none, some (.ref t), some (.ref (11 + E))] [.ref (11 + E), .ref 3, .int (nI 11), .ref (11 + E)] (n, I2, q_up (q_up (q_up (q_up (q_up (q_up (q_up (q_up (q_up (q_up (q_up J (11 + E) 0 ((nI i).toInt64)) (11 + E) 1 ((nI j).toInt64)) (11 + E) 2 (lN 0)) (11 + E) 3 ((M 197 (2 * i + 1)).toInt64)) (11 + E) 4 ((r 0).toInt64)) (11 + E) 5 ((r 12).toInt64)) (11 + E) 6 ((r 13).toInt64)) (11 + E) 7 ((r 3).toInt64)) (11 + E) 8 ((r 6).toInt64)) (11 + E) 9 ((r 8).toInt64)) (11 + E) 10 (g_ci z r), R) 0 0
          refine q_cv (as := [.ref (11 + E)]) (rs := [.int (nI 11), .ref (11 + E)]) rfl rfl rfl (⟨Nat.lt_of_lt_of_le (by decide) hK.1, rfl⟩) rfl rfl ?_
          obtain ⟨J1, eJ1⟩ : ∃ zz9, zz9 = q_up (q_up (q_up (q_up (q_up (q_up (q_up (q_up (q_up (q_up (q_up J (11 + E) 0 ((nI i).toInt64)) (11 + E) 1 ((nI j).toInt64)) (11 + E) 2 (lN 0)) (11 + E) 3 ((M 197 (2 * i + 1)).toInt64)) (11 + E) 4 ((r 0).toInt64)) (11 + E) 5 ((r 12).toInt64)) (11 + E) 6 ((r 13).toInt64)) (11 + E) 7 ((r 3).toInt64)) (11 + E) 8 ((r 6).toInt64)) (11 + E) 9 ((r 8).toInt64)) (11 + E) 10 (g_ci z r) := ⟨_, rfl⟩
          rw [← eJ1]
          have w0 : J1 (11 + E) 0 = (nI i).toInt64 := by rw [eJ1]; simp (disch := omega) only [q_usk, q_usn]
          have w1 : J1 (11 + E) 1 = (nI j).toInt64 := by rw [eJ1]; simp (disch := omega) only [q_usk, q_usn]
          have w2 : J1 (11 + E) 2 = lN 0 := by rw [eJ1]; simp (disch := omega) only [q_usk, q_usn]
          have w7 : J1 (11 + E) 7 = (r 3).toInt64 := by rw [eJ1]; simp (disch := omega) only [q_usk, q_usn]
          have w8 : J1 (11 + E) 8 = (r 6).toInt64 := by rw [eJ1]; simp (disch := omega) only [q_usk, q_usn]
          have w9 : J1 (11 + E) 9 = (r 8).toInt64 := by rw [eJ1]; simp (disch := omega) only [q_usk, q_usn]
          have w10 : J1 (11 + E) 10 = g_ci z r := by rw [eJ1]; simp (disch := omega) only [q_usk, q_usn]
          have w3 : J1 (11 + E) 3 = (M 197 (2 * i + 1)).toInt64 := by rw [eJ1]; simp (disch := omega) only [q_usk, q_usn]
          have w4 : J1 (11 + E) 4 = (r 0).toInt64 := by rw [eJ1]; simp (disch := omega) only [q_usk, q_usn]
          have w5 : J1 (11 + E) 5 = (r 12).toInt64 := by rw [eJ1]; simp (disch := omega) only [q_usk, q_usn]
          have w6 : J1 (11 + E) 6 = (r 13).toInt64 := by rw [eJ1]; simp (disch := omega) only [q_usk, q_usn]
          have wx : ∀ x, x ≠ 11 + E → J1 x = J x := fun x hx => by rw [eJ1]; simp (disch := omega) only [q_un]
          have g2t : ∀ x, x ≠ 5 → x ≠ 6 → x ≠ 7 → x ≠ 82 → x ≠ t + 3 → I2 x = I x := fun x h5 h6 h7 h82 h3 => (g2 x h5 h6 h7).trans (g1 x h5 h6 h82 h3)
          have K2 := q_K0_to K1 (g2 0 (by decide) (by decide) (by decide)) (g2 1 (by decide) (by decide) (by decide))
          have ha2 : ∀ u, u < 4 → c_A I2 R M (84 + 19 * u) u := fun u hu2 => c_A_to (ha u hu2) (fun x h1 h2 => g2t x (by omega) (by omega) (by omega) (by omega) (by omega)) rfl (q_eu_rf _ _)
          refine c_tagOf (a := i) (b := j) (K2) (ha2) (q_arE hK.1 hlt) (w0.trans (q_li (by omega))) (w1.trans (q_li (by omega))) (hi) (hj) (fun I3 g3 => ?_)
          refine q_topL (w := g_tag (s_kS r) (r 3) (r 6) (r 8) (g_ci z r) (M 197 (2 * i + 1)) (M 197 (2 * j + 1))) (by rw [w7, w8, w9, w10, Int32.toInt32_toInt64, Int32.toInt32_toInt64, Int32.toInt32_toInt64]; exact g_tag_c (fun l hl => by rw [g2 82 (by decide) (by decide) (by decide)]; exact key1 l hl) _ _ _ _ _ _) ?_
          show q_W L (d + 4) 48 q_m48 Q 228 [some (.ref 3), some (.int (nI i)), some (.int (nI j)), some (.long z), none, some (.ref t), some (.ref (11 + E))] [.long (g_tag (s_kS r) (r 3) (r 6) (r 8) (g_ci z r) (M 197 (2 * i + 1)) (M 197 (2 * j + 1))), .int (nI 11), .ref (11 + E)] (n, I3, J1, R) 0 0
          refine q_las (m := 11) rfl (q_arE hK.1 (by omega)) (by decide) (rfl) ?_
          refine q_k 2 ?_
          show q_W L (d + 4) 48 q_m48 Q 232 [some (.ref 3), some (.int (nI i)), some (.int (nI j)), some (.long z), none, some (.ref t), some (.ref (11 + E))] [.ref t, .ref t] (n, I3, q_up J1 (11 + E) 11 (g_tag (s_kS r) (r 3) (r 6) (r 8) (g_ci z r) (M 197 (2 * i + 1)) (M 197 (2 * j + 1))), R) 0 0
          refine q_gI rfl rfl (hS.ob) ?_
          refine q_k 2 ?_
          show q_W L (d + 4) 48 q_m48 Q 237 [some (.ref 3), some (.int (nI i)), some (.int (nI j)), some (.long z), none, some (.ref t), some (.ref (11 + E))] [.int ((I3 t 7) + (nI 1)), .ref t] (n, I3, q_up J1 (11 + E) 11 (g_tag (s_kS r) (r 3) (r 6) (r 8) (g_ci z r) (M 197 (2 * i + 1)) (M 197 (2 * j + 1))), R) 0 0
          refine q_pI rfl rfl rfl (hS.ob) ?_
          refine q_k 2 ?_
          show q_W L (d + 4) 48 q_m48 Q 242 [some (.ref 3), some (.int (nI i)), some (.int (nI j)), some (.long z), none, some (.ref t), some (.ref (11 + E))] [.ref 3, .ref 3] (n, q_up I3 t 7 ((I3 t 7) + (nI 1)), q_up J1 (11 + E) 11 (g_tag (s_kS r) (r 3) (r 6) (r 8) (g_ci z r) (M 197 (2 * i + 1)) (M 197 (2 * j + 1))), R) 0 0
          refine q_gI rfl rfl (⟨Nat.lt_of_lt_of_le (by decide) hK.1, rfl⟩) ?_
          refine q_top (w := nI E) (by rw [q_un (by omega), g3 3 (by decide) (by decide) (by decide) (by decide)]; exact (congrFun (g2t 3 (by omega) (by omega) (by omega) (by omega) (by omega)) 4).trans hE.eI) ?_
          refine q_k 2 ?_
          show q_W L (d + 4) 48 q_m48 Q 247 [some (.ref 3), some (.int (nI i)), some (.int (nI j)), some (.long z), none, some (.ref t), some (.ref (11 + E))] [.int ((nI E) + (nI 1)), .ref 3] (n, q_up I3 t 7 ((I3 t 7) + (nI 1)), q_up J1 (11 + E) 11 (g_tag (s_kS r) (r 3) (r 6) (r 8) (g_ci z r) (M 197 (2 * i + 1)) (M 197 (2 * j + 1))), R) 0 0
          refine q_top (w := nI (E + 1)) (nI_add _ _) ?_
          refine q_pI rfl rfl rfl (⟨Nat.lt_of_lt_of_le (by decide) hK.1, rfl⟩) ?_
          refine q_k 1 ?_
          show q_W L (d + 4) 48 q_m48 Q 251 [some (.ref 3), some (.int (nI i)), some (.int (nI j)), some (.long z), none, some (.ref t), some (.ref (11 + E))] [.ref 3] (n, q_up (q_up I3 t 7 ((I3 t 7) + (nI 1))) 3 4 (nI (E + 1)), q_up J1 (11 + E) 11 (g_tag (s_kS r) (r 3) (r 6) (r 8) (g_ci z r) (M 197 (2 * i + 1)) (M 197 (2 * j + 1))), R) 0 0
          refine q_gI rfl rfl (⟨Nat.lt_of_lt_of_le (by decide) hK.1, rfl⟩) ?_
          refine q_top (w := nI (E + 1)) (q_usk) ?_
          refine q_k 2 ?_
          show q_W L (d + 4) 48 q_m48 Q 256 [some (.ref 3), some (.int (nI i)), some (.int (nI j)), some (.long z), none, some (.ref t), some (.ref (11 + E))] [.int ((nI (E + 1)) - (nI 1))] (n, q_up (q_up I3 t 7 ((I3 t 7) + (nI 1))) 3 4 (nI (E + 1)), q_up J1 (11 + E) 11 (g_tag (s_kS r) (r 3) (r 6) (r 8) (g_ci z r) (M 197 (2 * i + 1)) (M 197 (2 * j + 1))), R) 0 0
          refine q_top (w := nI E) (q_sub rfl) ?_
          refine q_one rfl rfl ?_
          show Q (some (.int (nI E))) (n, q_up (q_up I3 t 7 ((I3 t 7) + (nI 1))) 3 4 (nI (E + 1)), q_up J1 (11 + E) 11 (g_tag (s_kS r) (r 3) (r 6) (r 8) (g_ci z r) (M 197 (2 * i + 1)) (M 197 (2 * j + 1))), R)
          have hrow : ∀ l, l < 12 → q_up J1 (11 + E) 11 (g_tag (s_kS r) (r 3) (r 6) (r 8) (g_ci z r) (M 197 (2 * i + 1)) (M 197 (2 * j + 1))) (11 + E) l = g_let z i j M r l := by
            intro l hl
            have h12 : l = 0 ∨ l = 1 ∨ l = 2 ∨ l = 3 ∨ l = 4 ∨ l = 5 ∨ l = 6 ∨ l = 7 ∨ l = 8 ∨ l = 9 ∨ l = 10 ∨ l = 11 := by omega
            rcases h12 with rfl | rfl | rfl | rfl | rfl | rfl | rfl | rfl | rfl | rfl | rfl | rfl
            · rw [q_usn (by decide), w0, g_let_0]
            · rw [q_usn (by decide), w1, g_let_1]
            · rw [q_usn (by decide), w2, g_let_2t hu]
            · rw [q_usn (by decide), w3, g_let_3t hu]
            · rw [q_usn (by decide), w4, g_let_4t hu]
            · rw [q_usn (by decide), w5, g_let_5t hu]
            · rw [q_usn (by decide), w6, g_let_6t hu]
            · rw [q_usn (by decide), w7, g_let_7]
            · rw [q_usn (by decide), w8, g_let_8]
            · rw [q_usn (by decide), w9, g_let_9]
            · rw [q_usn (by decide), w10, g_let_10]
            · rw [q_usk, g_let_11]
          have g3t : ∀ x, x ≠ 5 → x ≠ 6 → x ≠ 7 → x ≠ 82 → x ≠ 83 → x ≠ t + 3 → I3 x = I x := fun x h5 h6 h7 h82 h83 h3 => (g3 x h5 h6 h7 h83).trans (g2t x h5 h6 h7 h82 h3)
          obtain ⟨I4, eI4⟩ : ∃ w, w = q_up (q_up I3 t 7 (I3 t 7 + nI 1)) 3 4 (nI (E + 1)) := ⟨_, rfl⟩
          rw [← eI4]
          have g4 : ∀ x, x ≠ 5 → x ≠ 6 → x ≠ 7 → x ≠ 82 → x ≠ 83 → x ≠ t + 3 → x ≠ t → x ≠ 3 → I4 x = I x := fun x h5 h6 h7 h82 h83 h3 ht h33 => by rw [eI4, q_un h33, q_un ht]; exact g3t x h5 h6 h7 h82 h83 h3
          obtain ⟨m4, n4⟩ := s_R_snd (I2 := I4) hsr hss (by rw [eI4, q_un (by omega), q_us, g3t t (by omega) (by omega) (by omega) (by omega) (by omega) (by omega)]) (fun l hl => by rw [eI4, q_un (by omega), q_un (by omega), g3 (t + 3) (by omega) (by omega) (by omega) (by omega), g2 (t + 3) (by omega) (by omega) (by omega), b1 l hl]) (fun x h1 h2 h3 => g4 x (by omega) (by omega) (by omega) (by omega) (by omega) (by omega) (by omega) (by omega))
          unfold f_snd at hQ
          rw [← er] at hQ
          dsimp only at hQ
          rw [et] at m4 n4
          have hL2 : c_L n I4 R (q_up (f_save (4 * i + j) 0 (s_snd r) M) 192 16 (nI (E + 1))) ss mc tr := c_L_up (k := 0) (row := s_snd r) hL hK.1 (show 4 * i + j < 16 by omega) hm0 (fun x hx h1 h2 => g4 x (by omega) (by omega) (by omega) (by omega) (by omega) (by omega) (by omega) (by omega)) m4 n4 (q_RI_snd hri2) (by rw [q_un (by decide)]) (by rw [q_un (by decide), f_save_n (by decide)])
          refine hQ n I4 _ R ⟨q_K0_to hK (g4 0 (by omega) (by omega) (by omega) (by omega) (by omega) (by omega) (by omega) (by omega)) (g4 1 (by omega) (by omega) (by omega) (by omega) (by omega) (by omega) (by omega) (by omega)), h.nj, fun u hu2 => c_A_to (ha u hu2) (fun x h1 h2 => g4 x (by omega) (by omega) (by omega) (by omega) (by omega) (by omega) (by omega) (by omega)) rfl (fun r l ho => by unfold q_own at ho; rw [q_un (by omega), f_save_n (by omega)]), ⟨ss, mc, tr, hL2⟩, ⟨E + 1, by omega, q_usk, by rw [eI4, q_usk], fun e l he hl => ?_, fun e l h1 h2 h3 => ?_, ?_⟩⟩ (fun x hx => g4 x (by omega) (by omega) (by omega) (by omega) (by omega) (by omega) (by omega) (by omega)) ⟨by rw [q_un (by omega), wx _ (by omega)], by rw [q_un (by omega), wx _ (by omega)]⟩
          · show q_up J1 (11 + E) 11 _ (11 + e) l = va_up N 208 _ 208 (12 * e + l)
            rw [va_up_self]
            by_cases c1 : e = E
            · rw [c1, hrow l hl, if_pos (by omega), show 12 * E + l - 12 * E = l by omega]
            · rw [q_un (by omega), wx _ (by omega), if_neg (by omega)]; exact hE.lt e l (by omega) hl
          · rw [q_un (by omega), wx _ (by omega)]; exact hE.lz e l (by omega) h2 h3
          · show q_up J1 (11 + E) 11 _ 3 5 = va_up N 208 _ 192 17
            rw [q_un (by omega), wx _ (by omega), va_up_ne _ _ (by decide)]; exact hE.tx
        · skip
          show q_W L (d + 4) 48 q_m48 Q 34 [some (.ref 3), some (.int (nI i)), some (.int (nI j)), some (.long z), none, none, none] [] (n, I, J, R) 0 0
          refine q_k 3 ?_
          show q_W L (d + 4) 48 q_m48 Q 37 [some (.ref 3), some (.int (nI i)), some (.int (nI j)), some (.long z), none, none, none] [.int (nI j), .int (nI i), .ref 3] (n, I, J, R) 0 0
          refine q_cv (as := [.int (nI i), .int (nI j)]) (rs := []) rfl rfl rfl (⟨Nat.lt_of_lt_of_le (by decide) hK.1, rfl⟩) rfl rfl ?_
          refine c_listOf (hK) (hi) (hj) ?_
          show q_W L (d + 4) 48 q_m48 Q 40 [some (.ref 3), some (.int (nI i)), some (.int (nI j)), some (.long z), none, none, none] [.ref (160 + 2 * (4 * i + j))] (n, I, J, R) 0 0
          refine q_gR (b := (160 + 2 * (4 * i + j) + 1)) rfl rfl (q_obL hK.1 (by omega)) (hK.2.1 _ _ _ (q_fxL (4 * i + j) (by omega))) ?_
          refine q_k 1 ?_
          show q_W L (d + 4) 48 q_m48 Q 44 [some (.ref 3), some (.int (nI i)), some (.int (nI j)), some (.long z), none, none, none] [.int (nI 0), .ref (160 + 2 * (4 * i + j) + 1)] (n, I, J, R) 0 0
          refine q_aal (m := 0) (b := t) rfl (q_arL hK.1 (by omega)) ⟨rfl, rfl⟩ (by decide) rfl (hR1) ?_
          refine q_k 2 ?_
          show q_W L (d + 4) 48 q_m48 Q 48 [some (.ref 3), some (.int (nI i)), some (.int (nI j)), some (.long z), none, some (.ref t), none] [.ref 3] (n, I, J, R) 0 0
          refine q_gR (b := 10) rfl rfl (⟨Nat.lt_of_lt_of_le (by decide) hK.1, rfl⟩) (hK.2.1 3 3 10 rfl) ?_
          refine q_k 1 ?_
          show q_W L (d + 4) 48 q_m48 Q 52 [some (.ref 3), some (.int (nI i)), some (.int (nI j)), some (.long z), none, some (.ref t), none] [.ref 3, .ref 10] (n, I, J, R) 0 0
          refine q_gI rfl rfl (⟨Nat.lt_of_lt_of_le (by decide) hK.1, rfl⟩) ?_
          refine q_top (w := nI E) (hE.eI) ?_
          refine q_aal (m := E) (b := (11 + E)) rfl (⟨by decide, Nat.lt_of_lt_of_le (by decide) hK.1, rfl⟩) ⟨rfl, rfl⟩ (by omega) rfl (hK.2.1 10 E _ (q_fxA E (by omega))) ?_
          refine q_k 5 ?_
          show q_W L (d + 4) 48 q_m48 Q 63 [some (.ref 3), some (.int (nI i)), some (.int (nI j)), some (.long z), none, some (.ref t), some (.ref (11 + E))] [.long ((nI i).toInt64), .int (nI 0), .ref (11 + E)] (n, I, J, R) 0 0
          refine q_las (m := 0) rfl (q_arE hK.1 (by omega)) (by decide) (rfl) ?_
          refine q_k 4 ?_
          show q_W L (d + 4) 48 q_m48 Q 69 [some (.ref 3), some (.int (nI i)), some (.int (nI j)), some (.long z), none, some (.ref t), some (.ref (11 + E))] [.long ((nI j).toInt64), .int (nI 1), .ref (11 + E)] (n, I, q_up J (11 + E) 0 ((nI i).toInt64), R) 0 0
          refine q_las (m := 1) rfl (q_arE hK.1 (by omega)) (by decide) (rfl) ?_
          refine q_k 3 ?_
          show q_W L (d + 4) 48 q_m48 Q 75 [some (.ref 3), some (.int (nI i)), some (.int (nI j)), some (.long z), none, some (.ref t), some (.ref (11 + E))] [.ref t, .int (nI 2), .ref (11 + E)] (n, I, q_up (q_up J (11 + E) 0 ((nI i).toInt64)) (11 + E) 1 ((nI j).toInt64), R) 0 0
          refine q_cv (as := []) (rs := [.int (nI 2), .ref (11 + E)]) rfl rfl rfl (hS.ob) rfl rfl ?_
          refine c_isUnanswered hS hsr ?_
          rw [if_neg hu]
          show q_W L (d + 4) 48 q_m48 Q 78 [some (.ref 3), some (.int (nI i)), some (.int (nI j)), some (.long z), none, some (.ref t), some (.ref (11 + E))] [.int (nI 0), .int (nI 2), .ref (11 + E)] (n, I, q_up (q_up J (11 + E) 0 ((nI i).toInt64)) (11 + E) 1 ((nI j).toInt64), R) 0 0
          refine q_one rfl rfl ?_
          show ((nI 0) = 0 → q_W L (d + 4) 48 q_m48 Q 85 [some (.ref 3), some (.int (nI i)), some (.int (nI j)), some (.long z), none, some (.ref t), some (.ref (11 + E))] [.int (nI 2), .ref (11 + E)] (n, I, q_up (q_up J (11 + E) 0 ((nI i).toInt64)) (11 + E) 1 ((nI j).toInt64), R) 0 0) ∧ (¬ (nI 0) = 0 → q_W L (d + 4) 48 q_m48 Q 81 [some (.ref 3), some (.int (nI i)), some (.int (nI j)), some (.long z), none, some (.ref t), some (.ref (11 + E))] [.int (nI 2), .ref (11 + E)] (n, I, q_up (q_up J (11 + E) 0 ((nI i).toInt64)) (11 + E) 1 ((nI j).toInt64), R) 0 0)
          refine ⟨fun _ => ?_, fun z => absurd (by decide) z⟩
          refine q_k 1 ?_
          show q_W L (d + 4) 48 q_m48 Q 86 [some (.ref 3), some (.int (nI i)), some (.int (nI j)), some (.long z), none, some (.ref t), some (.ref (11 + E))] [.long (lN 1), .int (nI 2), .ref (11 + E)] (n, I, q_up (q_up J (11 + E) 0 ((nI i).toInt64)) (11 + E) 1 ((nI j).toInt64), R) 0 0
          refine q_las (m := 2) rfl (q_arE hK.1 (by omega)) (by decide) (rfl) ?_
          refine q_k 1 ?_
          show q_W L (d + 4) 48 q_m48 Q 89 [some (.ref 3), some (.int (nI i)), some (.int (nI j)), some (.long z), none, some (.ref t), some (.ref (11 + E))] [.ref t] (n, I, q_up (q_up (q_up J (11 + E) 0 ((nI i).toInt64)) (11 + E) 1 ((nI j).toInt64)) (11 + E) 2 (lN 1), R) 0 0
          refine q_cv (as := []) (rs := []) rfl rfl rfl (hS.ob) rfl rfl ?_
          refine c_isUnanswered hS hsr ?_
          rw [if_neg hu]
          show q_W L (d + 4) 48 q_m48 Q 92 [some (.ref 3), some (.int (nI i)), some (.int (nI j)), some (.long z), none, some (.ref t), some (.ref (11 + E))] [.int (nI 0)] (n, I, q_up (q_up (q_up J (11 + E) 0 ((nI i).toInt64)) (11 + E) 1 ((nI j).toInt64)) (11 + E) 2 (lN 1), R) 0 0
          refine q_one rfl rfl ?_
          show ((nI 0) = 0 → q_W L (d + 4) 48 q_m48 Q 143 [some (.ref 3), some (.int (nI i)), some (.int (nI j)), some (.long z), none, some (.ref t), some (.ref (11 + E))] [] (n, I, q_up (q_up (q_up J (11 + E) 0 ((nI i).toInt64)) (11 + E) 1 ((nI j).toInt64)) (11 + E) 2 (lN 1), R) 0 0) ∧ (¬ (nI 0) = 0 → q_W L (d + 4) 48 q_m48 Q 95 [some (.ref 3), some (.int (nI i)), some (.int (nI j)), some (.long z), none, some (.ref t), some (.ref (11 + E))] [] (n, I, q_up (q_up (q_up J (11 + E) 0 ((nI i).toInt64)) (11 + E) 1 ((nI j).toInt64)) (11 + E) 2 (lN 1), R) 0 0)
          refine ⟨fun _ => ?_, fun z => absurd (by decide) z⟩
          refine q_k 3 ?_
          show q_W L (d + 4) 48 q_m48 Q 149 [some (.ref 3), some (.int (nI i)), some (.int (nI j)), some (.long z), none, some (.ref t), some (.ref (11 + E))] [.ref t, .int (nI 7), .ref (11 + E)] (n, I, q_up (q_up (q_up J (11 + E) 0 ((nI i).toInt64)) (11 + E) 1 ((nI j).toInt64)) (11 + E) 2 (lN 1), R) 0 0
          refine q_gR (b := (t + 2)) rfl rfl (hS.ob) (hS.r2) ?_
          refine q_gI rfl rfl (hS.o2) ?_
          refine q_top (w := r 3) (hsr.p1) ?_
          refine q_k 1 ?_
          show q_W L (d + 4) 48 q_m48 Q 156 [some (.ref 3), some (.int (nI i)), some (.int (nI j)), some (.long z), none, some (.ref t), some (.ref (11 + E))] [.long ((r 3).toInt64), .int (nI 7), .ref (11 + E)] (n, I, q_up (q_up (q_up J (11 + E) 0 ((nI i).toInt64)) (11 + E) 1 ((nI j).toInt64)) (11 + E) 2 (lN 1), R) 0 0
          refine q_las (m := 7) rfl (q_arE hK.1 (by omega)) (by decide) (rfl) ?_
          refine q_k 3 ?_
          show q_W L (d + 4) 48 q_m48 Q 163 [some (.ref 3), some (.int (nI i)), some (.int (nI j)), some (.long z), none, some (.ref t), some (.ref (11 + E))] [.ref t, .int (nI 8), .ref (11 + E)] (n, I, q_up (q_up (q_up (q_up J (11 + E) 0 ((nI i).toInt64)) (11 + E) 1 ((nI j).toInt64)) (11 + E) 2 (lN 1)) (11 + E) 7 ((r 3).toInt64), R) 0 0
          refine q_gI rfl rfl (hS.ob) ?_
          refine q_top (w := r 6) (hsr.f7) ?_
          refine q_k 1 ?_
          show q_W L (d + 4) 48 q_m48 Q 167 [some (.ref 3), some (.int (nI i)), some (.int (nI j)), some (.long z), none, some (.ref t), some (.ref (11 + E))] [.long ((r 6).toInt64), .int (nI 8), .ref (11 + E)] (n, I, q_up (q_up (q_up (q_up J (11 + E) 0 ((nI i).toInt64)) (11 + E) 1 ((nI j).toInt64)) (11 + E) 2 (lN 1)) (11 + E) 7 ((r 3).toInt64), R) 0 0
          refine q_las (m := 8) rfl (q_arE hK.1 (by omega)) (by decide) (rfl) ?_
          refine q_k 3 ?_
          show q_W L (d + 4) 48 q_m48 Q 174 [some (.ref 3), some (.int (nI i)), some (.int (nI j)), some (.long z), none, some (.ref t), some (.ref (11 + E))] [.ref t, .int (nI 9), .ref (11 + E)] (n, I, q_up (q_up (q_up (q_up (q_up J (11 + E) 0 ((nI i).toInt64)) (11 + E) 1 ((nI j).toInt64)) (11 + E) 2 (lN 1)) (11 + E) 7 ((r 3).toInt64)) (11 + E) 8 ((r 6).toInt64), R) 0 0
          refine q_gI rfl rfl (hS.ob) ?_
          refine q_top (w := r 8) (hsr.f9) ?_
          refine q_k 1 ?_
          show q_W L (d + 4) 48 q_m48 Q 178 [some (.ref 3), some (.int (nI i)), some (.int (nI j)), some (.long z), none, some (.ref t), some (.ref (11 + E))] [.long ((r 8).toInt64), .int (nI 9), .ref (11 + E)] (n, I, q_up (q_up (q_up (q_up (q_up J (11 + E) 0 ((nI i).toInt64)) (11 + E) 1 ((nI j).toInt64)) (11 + E) 2 (lN 1)) (11 + E) 7 ((r 3).toInt64)) (11 + E) 8 ((r 6).toInt64), R) 0 0
          refine q_las (m := 9) rfl (q_arE hK.1 (by omega)) (by decide) (rfl) ?_
          refine q_k 1 ?_
          show q_W L (d + 4) 48 q_m48 Q 180 [some (.ref 3), some (.int (nI i)), some (.int (nI j)), some (.long z), none, some (.ref t), some (.ref (11 + E))] [.ref 3] (n, I, q_up (q_up (q_up (q_up (q_up (q_up J (11 + E) 0 ((nI i).toInt64)) (11 + E) 1 ((nI j).toInt64)) (11 + E) 2 (lN 1)) (11 + E) 7 ((r 3).toInt64)) (11 + E) 8 ((r 6).toInt64)) (11 + E) 9 ((r 8).toInt64), R) 0 0
          refine q_gR (b := 4) rfl rfl (⟨Nat.lt_of_lt_of_le (by decide) hK.1, rfl⟩) (hK.2.1 3 0 4 rfl) ?_
          refine q_k 1 ?_
          show q_W L (d + 4) 48 q_m48 Q 184 [some (.ref 3), some (.int (nI i)), some (.int (nI j)), some (.long z), none, some (.ref t), some (.ref (11 + E))] [.ref 3, .ref 4] (n, I, q_up (q_up (q_up (q_up (q_up (q_up J (11 + E) 0 ((nI i).toInt64)) (11 + E) 1 ((nI j).toInt64)) (11 + E) 2 (lN 1)) (11 + E) 7 ((r 3).toInt64)) (11 + E) 8 ((r 6).toInt64)) (11 + E) 9 ((r 8).toInt64), R) 0 0
          refine q_gR (b := 82) rfl rfl (⟨Nat.lt_of_lt_of_le (by decide) hK.1, rfl⟩) (hK.2.1 3 8 82 rfl) ?_
          refine q_k 1 ?_
          show q_W L (d + 4) 48 q_m48 Q 189 [some (.ref 3), some (.int (nI i)), some (.int (nI j)), some (.long z), none, some (.ref t), some (.ref (11 + E))] [.ref t, .ref 82, .ref 4] (n, I, q_up (q_up (q_up (q_up (q_up (q_up J (11 + E) 0 ((nI i).toInt64)) (11 + E) 1 ((nI j).toInt64)) (11 + E) 2 (lN 1)) (11 + E) 7 ((r 3).toInt64)) (11 + E) 8 ((r 6).toInt64)) (11 + E) 9 ((r 8).toInt64), R) 0 0
          refine q_gR (b := (t + 3)) rfl rfl (hS.ob) (hS.r4) ?_
          refine q_cv (as := [.ref 82, .ref (t + 3)]) (rs := []) rfl rfl rfl (⟨Nat.lt_of_lt_of_le (by decide) hK.1, rfl⟩) rfl rfl ?_
          refine c_take (hK) (⟨by decide, Nat.lt_of_lt_of_le (by decide) hK.1, rfl⟩) (by decide) (by decide) (hS.o3) (by omega) (by omega) (by omega) (fun I1 a1 b1 g1 => ?_)
          show q_W L (d + 4) 48 q_m48 Q 195 [some (.ref 3), some (.int (nI i)), some (.int (nI j)), some (.long z), none, some (.ref t), some (.ref (11 + E))] [] (n, I1, q_up (q_up (q_up (q_up (q_up (q_up J (11 + E) 0 ((nI i).toInt64)) (11 + E) 1 ((nI j).toInt64)) (11 + E) 2 (lN 1)) (11 + E) 7 ((r 3).toInt64)) (11 + E) 8 ((r 6).toInt64)) (11 + E) 9 ((r 8).toInt64), R) 0 0
          refine q_k 4 ?_
          show q_W L (d + 4) 48 q_m48 Q 201 [some (.ref 3), some (.int (nI i)), some (.int (nI j)), some (.long z), none, some (.ref t), some (.ref (11 + E))] [.ref 3, .long z, .int (nI 10), .ref (11 + E)] (n, I1, q_up (q_up (q_up (q_up (q_up (q_up J (11 + E) 0 ((nI i).toInt64)) (11 + E) 1 ((nI j).toInt64)) (11 + E) 2 (lN 1)) (11 + E) 7 ((r 3).toInt64)) (11 + E) 8 ((r 6).toInt64)) (11 + E) 9 ((r 8).toInt64), R) 0 0
          refine q_gR (b := 4) rfl rfl (⟨Nat.lt_of_lt_of_le (by decide) hK.1, rfl⟩) (hK.2.1 3 0 4 rfl) ?_
          refine q_k 1 ?_
          show q_W L (d + 4) 48 q_m48 Q 205 [some (.ref 3), some (.int (nI i)), some (.int (nI j)), some (.long z), none, some (.ref t), some (.ref (11 + E))] [.ref 3, .ref 4, .long z, .int (nI 10), .ref (11 + E)] (n, I1, q_up (q_up (q_up (q_up (q_up (q_up J (11 + E) 0 ((nI i).toInt64)) (11 + E) 1 ((nI j).toInt64)) (11 + E) 2 (lN 1)) (11 + E) 7 ((r 3).toInt64)) (11 + E) 8 ((r 6).toInt64)) (11 + E) 9 ((r 8).toInt64), R) 0 0
          refine q_gR (b := 82) rfl rfl (⟨Nat.lt_of_lt_of_le (by decide) hK.1, rfl⟩) (hK.2.1 3 8 82 rfl) ?_
          refine q_k 4 ?_
          show q_W L (d + 4) 48 q_m48 Q 213 [some (.ref 3), some (.int (nI i)), some (.int (nI j)), some (.long z), none, some (.ref t), some (.ref (11 + E))] [.int (nI 0), .int (nI 0), .int (nI 0), .int (nI 9), .ref 82, .ref 4, .long z, .int (nI 10), .ref (11 + E)] (n, I1, q_up (q_up (q_up (q_up (q_up (q_up J (11 + E) 0 ((nI i).toInt64)) (11 + E) 1 ((nI j).toInt64)) (11 + E) 2 (lN 1)) (11 + E) 7 ((r 3).toInt64)) (11 + E) 8 ((r 6).toInt64)) (11 + E) 9 ((r 8).toInt64), R) 0 0
          refine q_cv (as := [.ref 82, .int (nI 9), .int (nI 0), .int (nI 0), .int (nI 0)]) (rs := [.long z, .int (nI 10), .ref (11 + E)]) rfl rfl rfl (⟨Nat.lt_of_lt_of_le (by decide) hK.1, rfl⟩) rfl rfl ?_
          have K1 := q_K0_to hK (g1 0 (by omega) (by omega) (by omega) (by omega)) (g1 1 (by omega) (by omega) (by omega) (by omega))
          refine c_wideWord (K1) (Or.inl ⟨by decide, Nat.lt_of_lt_of_le (by decide) hK.1, rfl⟩) (by decide) (fun I2 g2 => ?_)
          have key1 : ∀ l, l < 8 → I1 82 l = s_kS r l := fun l hl => by rw [a1 l hl]; exact g_mix_c (fun m hm => hss m hm) _ _ _ _ (by omega)
          show q_W L (d + 4) 48 q_m48 Q 216 [some (.ref 3), some (.int (nI i)), some (.int (nI j)), some (.long z), none, some (.ref t), some (.ref (11 + E))] [.long (g_wide (I1 82) (nI 9) (nI 0) (nI 0) (nI 0)), .long z, .int (nI 10), .ref (11 + E)] (n, I2, q_up (q_up (q_up (q_up (q_up (q_up J (11 + E) 0 ((nI i).toInt64)) (11 + E) 1 ((nI j).toInt64)) (11 + E) 2 (lN 1)) (11 + E) 7 ((r 3).toInt64)) (11 + E) 8 ((r 6).toInt64)) (11 + E) 9 ((r 8).toInt64), R) 0 0
          refine q_k 1 ?_
          show q_W L (d + 4) 48 q_m48 Q 217 [some (.ref 3), some (.int (nI i)), some (.int (nI j)), some (.long z), none, some (.ref t), some (.ref (11 + E))] [.long (z ^^^ (g_wide (I1 82) (nI 9) (nI 0) (nI 0) (nI 0))), .int (nI 10), .ref (11 + E)] (n, I2, q_up (q_up (q_up (q_up (q_up (q_up J (11 + E) 0 ((nI i).toInt64)) (11 + E) 1 ((nI j).toInt64)) (11 + E) 2 (lN 1)) (11 + E) 7 ((r 3).toInt64)) (11 + E) 8 ((r 6).toInt64)) (11 + E) 9 ((r 8).toInt64), R) 0 0
          refine q_topL (w := g_ci z r) (by unfold g_ci; rw [g_wide_c key1]) ?_
          refine q_las (m := 10) rfl (q_arE hK.1 (by omega)) (by decide) (rfl) ?_
          refine q_k 4 ?_
          show q_W L (d + 4) 48 q_m48 Q 225 [some (.ref 3), some (.int (nI i)), some (.int (nI j)), some (.long z), none, some (.ref t), some (.ref (11 + E))] [.ref (11 + E), .ref 3, .int (nI 11), .ref (11 + E)] (n, I2, q_up (q_up (q_up (q_up (q_up (q_up (q_up J (11 + E) 0 ((nI i).toInt64)) (11 + E) 1 ((nI j).toInt64)) (11 + E) 2 (lN 1)) (11 + E) 7 ((r 3).toInt64)) (11 + E) 8 ((r 6).toInt64)) (11 + E) 9 ((r 8).toInt64)) (11 + E) 10 (g_ci z r), R) 0 0
          refine q_cv (as := [.ref (11 + E)]) (rs := [.int (nI 11), .ref (11 + E)]) rfl rfl rfl (⟨Nat.lt_of_lt_of_le (by decide) hK.1, rfl⟩) rfl rfl ?_
          obtain ⟨J1, eJ1⟩ : ∃ zz9, zz9 = q_up (q_up (q_up (q_up (q_up (q_up (q_up J (11 + E) 0 ((nI i).toInt64)) (11 + E) 1 ((nI j).toInt64)) (11 + E) 2 (lN 1)) (11 + E) 7 ((r 3).toInt64)) (11 + E) 8 ((r 6).toInt64)) (11 + E) 9 ((r 8).toInt64)) (11 + E) 10 (g_ci z r) := ⟨_, rfl⟩
          rw [← eJ1]
          have w0 : J1 (11 + E) 0 = (nI i).toInt64 := by rw [eJ1]; simp (disch := omega) only [q_usk, q_usn]
          have w1 : J1 (11 + E) 1 = (nI j).toInt64 := by rw [eJ1]; simp (disch := omega) only [q_usk, q_usn]
          have w2 : J1 (11 + E) 2 = lN 1 := by rw [eJ1]; simp (disch := omega) only [q_usk, q_usn]
          have w7 : J1 (11 + E) 7 = (r 3).toInt64 := by rw [eJ1]; simp (disch := omega) only [q_usk, q_usn]
          have w8 : J1 (11 + E) 8 = (r 6).toInt64 := by rw [eJ1]; simp (disch := omega) only [q_usk, q_usn]
          have w9 : J1 (11 + E) 9 = (r 8).toInt64 := by rw [eJ1]; simp (disch := omega) only [q_usk, q_usn]
          have w10 : J1 (11 + E) 10 = g_ci z r := by rw [eJ1]; simp (disch := omega) only [q_usk, q_usn]
          have w3 : J1 (11 + E) 3 = lN 0 := by rw [eJ1]; simp (disch := omega) only [q_usk, q_usn]; exact hE.lz E 3 (Nat.le_refl _) hlt (by decide)
          have w4 : J1 (11 + E) 4 = lN 0 := by rw [eJ1]; simp (disch := omega) only [q_usk, q_usn]; exact hE.lz E 4 (Nat.le_refl _) hlt (by decide)
          have w5 : J1 (11 + E) 5 = lN 0 := by rw [eJ1]; simp (disch := omega) only [q_usk, q_usn]; exact hE.lz E 5 (Nat.le_refl _) hlt (by decide)
          have w6 : J1 (11 + E) 6 = lN 0 := by rw [eJ1]; simp (disch := omega) only [q_usk, q_usn]; exact hE.lz E 6 (Nat.le_refl _) hlt (by decide)
          have wx : ∀ x, x ≠ 11 + E → J1 x = J x := fun x hx => by rw [eJ1]; simp (disch := omega) only [q_un]
          have g2t : ∀ x, x ≠ 5 → x ≠ 6 → x ≠ 7 → x ≠ 82 → x ≠ t + 3 → I2 x = I x := fun x h5 h6 h7 h82 h3 => (g2 x h5 h6 h7).trans (g1 x h5 h6 h82 h3)
          have K2 := q_K0_to K1 (g2 0 (by decide) (by decide) (by decide)) (g2 1 (by decide) (by decide) (by decide))
          have ha2 : ∀ u, u < 4 → c_A I2 R M (84 + 19 * u) u := fun u hu2 => c_A_to (ha u hu2) (fun x h1 h2 => g2t x (by omega) (by omega) (by omega) (by omega) (by omega)) rfl (q_eu_rf _ _)
          refine c_tagOf (a := i) (b := j) (K2) (ha2) (q_arE hK.1 hlt) (w0.trans (q_li (by omega))) (w1.trans (q_li (by omega))) (hi) (hj) (fun I3 g3 => ?_)
          refine q_topL (w := g_tag (s_kS r) (r 3) (r 6) (r 8) (g_ci z r) (M 197 (2 * i + 1)) (M 197 (2 * j + 1))) (by rw [w7, w8, w9, w10, Int32.toInt32_toInt64, Int32.toInt32_toInt64, Int32.toInt32_toInt64]; exact g_tag_c (fun l hl => by rw [g2 82 (by decide) (by decide) (by decide)]; exact key1 l hl) _ _ _ _ _ _) ?_
          show q_W L (d + 4) 48 q_m48 Q 228 [some (.ref 3), some (.int (nI i)), some (.int (nI j)), some (.long z), none, some (.ref t), some (.ref (11 + E))] [.long (g_tag (s_kS r) (r 3) (r 6) (r 8) (g_ci z r) (M 197 (2 * i + 1)) (M 197 (2 * j + 1))), .int (nI 11), .ref (11 + E)] (n, I3, J1, R) 0 0
          refine q_las (m := 11) rfl (q_arE hK.1 (by omega)) (by decide) (rfl) ?_
          refine q_k 2 ?_
          show q_W L (d + 4) 48 q_m48 Q 232 [some (.ref 3), some (.int (nI i)), some (.int (nI j)), some (.long z), none, some (.ref t), some (.ref (11 + E))] [.ref t, .ref t] (n, I3, q_up J1 (11 + E) 11 (g_tag (s_kS r) (r 3) (r 6) (r 8) (g_ci z r) (M 197 (2 * i + 1)) (M 197 (2 * j + 1))), R) 0 0
          refine q_gI rfl rfl (hS.ob) ?_
          refine q_k 2 ?_
          show q_W L (d + 4) 48 q_m48 Q 237 [some (.ref 3), some (.int (nI i)), some (.int (nI j)), some (.long z), none, some (.ref t), some (.ref (11 + E))] [.int ((I3 t 7) + (nI 1)), .ref t] (n, I3, q_up J1 (11 + E) 11 (g_tag (s_kS r) (r 3) (r 6) (r 8) (g_ci z r) (M 197 (2 * i + 1)) (M 197 (2 * j + 1))), R) 0 0
          refine q_pI rfl rfl rfl (hS.ob) ?_
          refine q_k 2 ?_
          show q_W L (d + 4) 48 q_m48 Q 242 [some (.ref 3), some (.int (nI i)), some (.int (nI j)), some (.long z), none, some (.ref t), some (.ref (11 + E))] [.ref 3, .ref 3] (n, q_up I3 t 7 ((I3 t 7) + (nI 1)), q_up J1 (11 + E) 11 (g_tag (s_kS r) (r 3) (r 6) (r 8) (g_ci z r) (M 197 (2 * i + 1)) (M 197 (2 * j + 1))), R) 0 0
          refine q_gI rfl rfl (⟨Nat.lt_of_lt_of_le (by decide) hK.1, rfl⟩) ?_
          refine q_top (w := nI E) (by rw [q_un (by omega), g3 3 (by decide) (by decide) (by decide) (by decide)]; exact (congrFun (g2t 3 (by omega) (by omega) (by omega) (by omega) (by omega)) 4).trans hE.eI) ?_
          refine q_k 2 ?_
          show q_W L (d + 4) 48 q_m48 Q 247 [some (.ref 3), some (.int (nI i)), some (.int (nI j)), some (.long z), none, some (.ref t), some (.ref (11 + E))] [.int ((nI E) + (nI 1)), .ref 3] (n, q_up I3 t 7 ((I3 t 7) + (nI 1)), q_up J1 (11 + E) 11 (g_tag (s_kS r) (r 3) (r 6) (r 8) (g_ci z r) (M 197 (2 * i + 1)) (M 197 (2 * j + 1))), R) 0 0
          refine q_top (w := nI (E + 1)) (nI_add _ _) ?_
          refine q_pI rfl rfl rfl (⟨Nat.lt_of_lt_of_le (by decide) hK.1, rfl⟩) ?_
          refine q_k 1 ?_
          show q_W L (d + 4) 48 q_m48 Q 251 [some (.ref 3), some (.int (nI i)), some (.int (nI j)), some (.long z), none, some (.ref t), some (.ref (11 + E))] [.ref 3] (n, q_up (q_up I3 t 7 ((I3 t 7) + (nI 1))) 3 4 (nI (E + 1)), q_up J1 (11 + E) 11 (g_tag (s_kS r) (r 3) (r 6) (r 8) (g_ci z r) (M 197 (2 * i + 1)) (M 197 (2 * j + 1))), R) 0 0
          refine q_gI rfl rfl (⟨Nat.lt_of_lt_of_le (by decide) hK.1, rfl⟩) ?_
          refine q_top (w := nI (E + 1)) (q_usk) ?_
          refine q_k 2 ?_
          show q_W L (d + 4) 48 q_m48 Q 256 [some (.ref 3), some (.int (nI i)), some (.int (nI j)), some (.long z), none, some (.ref t), some (.ref (11 + E))] [.int ((nI (E + 1)) - (nI 1))] (n, q_up (q_up I3 t 7 ((I3 t 7) + (nI 1))) 3 4 (nI (E + 1)), q_up J1 (11 + E) 11 (g_tag (s_kS r) (r 3) (r 6) (r 8) (g_ci z r) (M 197 (2 * i + 1)) (M 197 (2 * j + 1))), R) 0 0
          refine q_top (w := nI E) (q_sub rfl) ?_
          refine q_one rfl rfl ?_
          show Q (some (.int (nI E))) (n, q_up (q_up I3 t 7 ((I3 t 7) + (nI 1))) 3 4 (nI (E + 1)), q_up J1 (11 + E) 11 (g_tag (s_kS r) (r 3) (r 6) (r 8) (g_ci z r) (M 197 (2 * i + 1)) (M 197 (2 * j + 1))), R)
          have hrow : ∀ l, l < 12 → q_up J1 (11 + E) 11 (g_tag (s_kS r) (r 3) (r 6) (r 8) (g_ci z r) (M 197 (2 * i + 1)) (M 197 (2 * j + 1))) (11 + E) l = g_let z i j M r l := by
            intro l hl
            have h12 : l = 0 ∨ l = 1 ∨ l = 2 ∨ l = 3 ∨ l = 4 ∨ l = 5 ∨ l = 6 ∨ l = 7 ∨ l = 8 ∨ l = 9 ∨ l = 10 ∨ l = 11 := by omega
            rcases h12 with rfl | rfl | rfl | rfl | rfl | rfl | rfl | rfl | rfl | rfl | rfl | rfl
            · rw [q_usn (by decide), w0, g_let_0]
            · rw [q_usn (by decide), w1, g_let_1]
            · rw [q_usn (by decide), w2, g_let_2f hu]
            · rw [q_usn (by decide), w3, g_let_3f hu]
            · rw [q_usn (by decide), w4, g_let_4f hu]
            · rw [q_usn (by decide), w5, g_let_5f hu]
            · rw [q_usn (by decide), w6, g_let_6f hu]
            · rw [q_usn (by decide), w7, g_let_7]
            · rw [q_usn (by decide), w8, g_let_8]
            · rw [q_usn (by decide), w9, g_let_9]
            · rw [q_usn (by decide), w10, g_let_10]
            · rw [q_usk, g_let_11]
          have g3t : ∀ x, x ≠ 5 → x ≠ 6 → x ≠ 7 → x ≠ 82 → x ≠ 83 → x ≠ t + 3 → I3 x = I x := fun x h5 h6 h7 h82 h83 h3 => (g3 x h5 h6 h7 h83).trans (g2t x h5 h6 h7 h82 h3)
          obtain ⟨I4, eI4⟩ : ∃ w, w = q_up (q_up I3 t 7 (I3 t 7 + nI 1)) 3 4 (nI (E + 1)) := ⟨_, rfl⟩
          rw [← eI4]
          have g4 : ∀ x, x ≠ 5 → x ≠ 6 → x ≠ 7 → x ≠ 82 → x ≠ 83 → x ≠ t + 3 → x ≠ t → x ≠ 3 → I4 x = I x := fun x h5 h6 h7 h82 h83 h3 ht h33 => by rw [eI4, q_un h33, q_un ht]; exact g3t x h5 h6 h7 h82 h83 h3
          obtain ⟨m4, n4⟩ := s_R_snd (I2 := I4) hsr hss (by rw [eI4, q_un (by omega), q_us, g3t t (by omega) (by omega) (by omega) (by omega) (by omega) (by omega)]) (fun l hl => by rw [eI4, q_un (by omega), q_un (by omega), g3 (t + 3) (by omega) (by omega) (by omega) (by omega), g2 (t + 3) (by omega) (by omega) (by omega), b1 l hl]) (fun x h1 h2 h3 => g4 x (by omega) (by omega) (by omega) (by omega) (by omega) (by omega) (by omega) (by omega))
          unfold f_snd at hQ
          rw [← er] at hQ
          dsimp only at hQ
          rw [et] at m4 n4
          have hL2 : c_L n I4 R (q_up (f_save (4 * i + j) 0 (s_snd r) M) 192 16 (nI (E + 1))) ss mc tr := c_L_up (k := 0) (row := s_snd r) hL hK.1 (show 4 * i + j < 16 by omega) hm0 (fun x hx h1 h2 => g4 x (by omega) (by omega) (by omega) (by omega) (by omega) (by omega) (by omega) (by omega)) m4 n4 (q_RI_snd hri2) (by rw [q_un (by decide)]) (by rw [q_un (by decide), f_save_n (by decide)])
          refine hQ n I4 _ R ⟨q_K0_to hK (g4 0 (by omega) (by omega) (by omega) (by omega) (by omega) (by omega) (by omega) (by omega)) (g4 1 (by omega) (by omega) (by omega) (by omega) (by omega) (by omega) (by omega) (by omega)), h.nj, fun u hu2 => c_A_to (ha u hu2) (fun x h1 h2 => g4 x (by omega) (by omega) (by omega) (by omega) (by omega) (by omega) (by omega) (by omega)) rfl (fun r l ho => by unfold q_own at ho; rw [q_un (by omega), f_save_n (by omega)]), ⟨ss, mc, tr, hL2⟩, ⟨E + 1, by omega, q_usk, by rw [eI4, q_usk], fun e l he hl => ?_, fun e l h1 h2 h3 => ?_, ?_⟩⟩ (fun x hx => g4 x (by omega) (by omega) (by omega) (by omega) (by omega) (by omega) (by omega) (by omega)) ⟨by rw [q_un (by omega), wx _ (by omega)], by rw [q_un (by omega), wx _ (by omega)]⟩
          · show q_up J1 (11 + E) 11 _ (11 + e) l = va_up N 208 _ 208 (12 * e + l)
            rw [va_up_self]
            by_cases c1 : e = E
            · rw [c1, hrow l hl, if_pos (by omega), show 12 * E + l - 12 * E = l by omega]
            · rw [q_un (by omega), wx _ (by omega), if_neg (by omega)]; exact hE.lt e l (by omega) hl
          · rw [q_un (by omega), wx _ (by omega)]; exact hE.lz e l (by omega) h2 h3
          · show q_up J1 (11 + E) 11 _ 3 5 = va_up N 208 _ 192 17
            rw [q_un (by omega), wx _ (by omega), va_up_ne _ _ (by decide)]; exact hE.tx
      · skip
        have hlt : E = 60 := by rcases Nat.lt_or_ge E 60 with w | w; exact absurd (nI_lt w (by decide)) h29; omega
        refine q_k 1 ?_
        show q_W L (d + 4) 48 q_m48 Q 33 [some (.ref 3), some (.int (nI i)), some (.int (nI j)), some (.long z), none, none, none] [.int (-1)] (n, I, J, R) 0 0
        refine q_one rfl rfl ?_
        show Q (some (.int (-1))) (n, I, J, R)
        rw [show f_send (nI i) (nI j) z M N = (-1, M, N) by unfold f_send; rw [if_neg (g_pr_j hi hj hij hri hrj), g_cl (show i < 10000 by omega), g_cl (show j < 10000 by omega), if_neg (fun w => h20 (hM6.symm.trans w)), if_pos (by rw [hE.eM, hlt])]] at hQ
        dsimp only at hQ
        exact hQ n I J R h (q_nmf_rf _) ⟨rfl, rfl⟩
  · skip
    show q_W L (d + 4) 48 q_m48 Q 8 [some (.ref 3), some (.int u), some (.int v), some (.long z), none, none, none] [.int (nI 0)] (n, I, J, R) 0 0
    refine q_one rfl rfl ?_
    show ((nI 0) = 0 → q_W L (d + 4) 48 q_m48 Q 32 [some (.ref 3), some (.int u), some (.int v), some (.long z), none, none, none] [] (n, I, J, R) 0 0) ∧ (¬ (nI 0) = 0 → q_W L (d + 4) 48 q_m48 Q 11 [some (.ref 3), some (.int u), some (.int v), some (.long z), none, none, none] [] (n, I, J, R) 0 0)
    refine ⟨fun _ => ?_, fun z => absurd (by decide) z⟩
    refine q_k 1 ?_
    show q_W L (d + 4) 48 q_m48 Q 33 [some (.ref 3), some (.int u), some (.int v), some (.long z), none, none, none] [.int (-1)] (n, I, J, R) 0 0
    refine q_one rfl rfl ?_
    show Q (some (.int (-1))) (n, I, J, R)
    rw [show f_send u v z M N = (-1, M, N) by unfold f_send; rw [if_pos (g_pr_0 hno)]] at hQ
    dsimp only at hQ
    exact hQ n I J R h (q_nmf_rf _) ⟨rfl, rfl⟩
