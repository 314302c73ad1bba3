set_option maxHeartbeats 8000000 in
theorem k_begin {L d n : Nat} {I : q_I} {J : q_L} {R : q_R} {Q : q_Q} {M : q_I} {N : q_L} {u v : Int32} (h : CR n I J R M N) (hQ : ∀ n' I' J' R', CR n' I' J' R' ((f_begin u v M).2) (N) → q_nmf I' I → (J' 208 = J 208 ∧ J' 192 = J 192) → Q (some (.int (f_begin u v M).1)) (n', I', J', R')) : q_Ex L (d + 6) 47 [.ref 3, .int u, .int v] (n, I, J, R) Q := by
  refine q_in (x := q_m47) rfl rfl ?_
  show q_W L (d + 5) 47 q_m47 Q 0 [some (.ref 3), some (.int u), some (.int v), none, none] [] (n, I, J, R) 0 0
  have hK := h.K
  have ha := h.ac
  obtain ⟨ss, mc, tr, hL⟩ := h.li
  obtain ⟨E, hE⟩ := h.en
  have hE6 := hE.e6
  refine q_k 5 ?_
  show q_W L (d + 5) 47 q_m47 Q 5 [some (.ref 3), some (.int u), some (.int v), none, none] [.long ((v).toInt64), .long ((u).toInt64), .ref 3] (n, I, J, R) 0 0
  refine q_cv (as := [.long ((u).toInt64), .long ((v).toInt64)]) (rs := []) rfl rfl rfl (⟨Nat.lt_of_lt_of_le (by decide) hK.1, rfl⟩) rfl rfl ?_
  refine c_areTwo (hK) (ha) (fun i j hi hj hij ei ej hri hrj => ?_) (fun hno => ?_)
  · skip
    show q_W L (d + 5) 47 q_m47 Q 8 [some (.ref 3), some (.int u), some (.int v), none, none] [.int (nI 1)] (n, I, J, R) 0 0
    obtain rfl := q_il ei
    obtain rfl := q_il ej
    show q_W L (d + 5) 47 q_m47 Q 8 [some (.ref 3), some (.int (nI i)), some (.int (nI j)), none, none] [.int (nI 1)] (n, I, J, R) 0 0
    obtain ⟨hm3, hM6, hI6⟩ := hL.m3 (4 * i + j) (by omega)
    have htg := hL.ts.ge
    have hth := hL.ts.hi
    obtain ⟨f, hf6, hM4, hI5, hofr⟩ := (ha j hj).off
    have hAj := q_Ac_of hK hj
    have hAi := q_Ac_of hK hi
    have hF : f_begin (nI i) (nI j) M = f_bg i j f (mc (4 * i + j)) M := by unfold f_begin; rw [if_neg (g_pr_j hi hj hij hri hrj), g_cl (show i < 10000 by omega), g_cl (show j < 10000 by omega), hM4, hM6, g_cl (by omega), g_cl (by omega)]
    rw [hF] at hQ
    refine q_one rfl rfl ?_
    show (¬ (nI 1) = 0 → q_W L (d + 5) 47 q_m47 Q 13 [some (.ref 3), some (.int (nI i)), some (.int (nI j)), none, none] [] (n, I, J, R) 0 0) ∧ ((nI 1) = 0 → q_W L (d + 5) 47 q_m47 Q 11 [some (.ref 3), some (.int (nI i)), some (.int (nI j)), none, none] [] (n, I, J, R) 0 0)
    refine ⟨fun _ => ?_, fun z => absurd z (by decide)⟩
    refine q_k 1 ?_
    show q_W L (d + 5) 47 q_m47 Q 14 [some (.ref 3), some (.int (nI i)), some (.int (nI j)), none, none] [.ref 3] (n, I, J, R) 0 0
    refine q_gR (b := 8) rfl rfl (⟨Nat.lt_of_lt_of_le (by decide) hK.1, rfl⟩) (hK.2.1 3 1 8 rfl) ?_
    refine q_k 1 ?_
    show q_W L (d + 5) 47 q_m47 Q 18 [some (.ref 3), some (.int (nI i)), some (.int (nI j)), none, none] [.int (nI j), .ref 8] (n, I, J, R) 0 0
    refine q_aal (m := j) (b := (84 + 19 * j)) rfl (⟨by decide, Nat.lt_of_lt_of_le (by decide) hK.1, rfl⟩) ⟨rfl, rfl⟩ (hj) rfl (hK.2.1 8 j _ (q_fx8 j hj)) ?_
    refine q_gR (b := (84 + 19 * j + 5)) rfl rfl ((q_Ac_of hK hj).ob) ((q_Ac_of hK hj).r8) ?_
    refine q_k 2 ?_
    show q_W L (d + 5) 47 q_m47 Q 24 [some (.ref 3), some (.int (nI i)), some (.int (nI j)), some (.ref (84 + 19 * j + 5)), none] [.ref (84 + 19 * j + 5)] (n, I, J, R) 0 0
    refine q_cv (as := []) (rs := []) rfl rfl rfl ((q_Ac_of hK hj).o5) rfl rfl ?_
    refine c_handOut (e := 84 + 19 * j + 5) (f := f) (hAj.o5) (hAj.re) (hAj.o6) (hI5) (hf6) (fun I1 a1 b1 g1 => ?_)
    have hov : (if f = 0 then nI 0 else I (84 + 19 * j + 5 + 1) 0) = g_off j f M := by
      unfold g_off
      by_cases f0 : f = 0
      · rw [if_pos f0, if_pos f0]
      · rw [if_neg f0, if_neg f0]; exact hofr 0 (by omega)
    rw [hov]
    obtain ⟨ov, eov⟩ : ∃ w, w = g_off j f M := ⟨_, rfl⟩
    rw [← eov]
    have g1e : ∀ l, l ≠ 5 → I1 (84 + 19 * j + 5) l = I (84 + 19 * j + 5) l := fun l hl => by rw [a1, va_up_ne _ _ hl]
    show q_W L (d + 5) 47 q_m47 Q 27 [some (.ref 3), some (.int (nI i)), some (.int (nI j)), some (.ref (84 + 19 * j + 5)), none] [.int ov] (n, I1, J, R) 0 0
    refine q_k 3 ?_
    show q_W L (d + 5) 47 q_m47 Q 31 [some (.ref 3), some (.int (nI i)), some (.int (nI j)), some (.ref (84 + 19 * j + 5)), some (.int ov)] [.ref 3, .ref (84 + 19 * j + 5)] (n, I1, J, R) 0 0
    refine q_gR (b := 4) rfl rfl (⟨Nat.lt_of_lt_of_le (by decide) hK.1, rfl⟩) (hK.2.1 3 0 4 rfl) ?_
    refine q_cv (as := [.ref 4]) (rs := []) rfl rfl rfl ((q_Ac_of hK hj).o5) rfl rfl ?_
    refine c_holds (e := 84 + 19 * j + 5) (q_K0_to hK (g1 0 (by omega) (by omega)) (g1 1 (by omega) (by omega))) (hAj.o5) (by omega) (by omega) (by omega) (fun I2 g2 => ?_)
    have K2 : q_K0 n I2 R := q_K0_to hK (by rw [g2 0 (by decide) (by decide) (by decide), g1 0 (by omega) (by omega)]) (by rw [g2 1 (by decide) (by decide) (by decide), g1 1 (by omega) (by omega)])
    have g2t : ∀ x, x ≠ 5 → x ≠ 6 → x ≠ 7 → x ≠ 84 + 19 * j + 5 → x ≠ 84 + 19 * j + 5 + 1 → I2 x = I x := fun x h5 h6 h7 h8 h9 => (g2 x h5 h6 h7).trans (g1 x h8 h9)
    have caj : c_A I2 R (f_off j f M) (84 + 19 * j) j := c_A_to (c_A_off (I2 := I1) (ha j hj) hM4 hf6 a1 b1 (fun x h1 h2 => g1 x h1 h2)) (fun x h1 h2 => g2 x (by omega) (by omega) (by omega)) rfl (q_eu_rf _ _)
    have ca2 : ∀ u, u < 4 → c_A I2 R (f_off j f M) (84 + 19 * u) u := by
      intro u hu
      by_cases e : j = u
      · subst e; exact caj
      · exact c_A_to (ha u hu) (fun x h1 h2 => g2t x (by omega) (by omega) (by omega) (by omega) (by omega)) rfl (f_off_eu hf6 e)
    refine q_top (w := g_holds (M 202 (4 * j)) (M 202 (4 * j + 1)) (M 202 (4 * j + 2)) (M 202 (4 * j + 3))) (by rw [g1e 0 (by decide), g1e 1 (by decide), g1e 2 (by decide), g1e 3 (by decide), (ha j hj).e0, (ha j hj).e1, (ha j hj).e2, (ha j hj).e3]) ?_
    show q_W L (d + 5) 47 q_m47 Q 37 [some (.ref 3), some (.int (nI i)), some (.int (nI j)), some (.ref (84 + 19 * j + 5)), some (.int ov)] [.int (g_holds (M 202 (4 * j)) (M 202 (4 * j + 1)) (M 202 (4 * j + 2)) (M 202 (4 * j + 3)))] (n, I2, J, R) 0 0
    refine q_one rfl rfl ?_
    show (¬ (g_holds (M 202 (4 * j)) (M 202 (4 * j + 1)) (M 202 (4 * j + 2)) (M 202 (4 * j + 3))) = 0 → q_W L (d + 5) 47 q_m47 Q 42 [some (.ref 3), some (.int (nI i)), some (.int (nI j)), some (.ref (84 + 19 * j + 5)), some (.int ov)] [] (n, I2, J, R) 0 0) ∧ ((g_holds (M 202 (4 * j)) (M 202 (4 * j + 1)) (M 202 (4 * j + 2)) (M 202 (4 * j + 3))) = 0 → q_W L (d + 5) 47 q_m47 Q 40 [some (.ref 3), some (.int (nI i)), some (.int (nI j)), some (.ref (84 + 19 * j + 5)), some (.int ov)] [] (n, I2, J, R) 0 0)
    refine ⟨fun h37 => ?_, fun h37 => ?_⟩
    · skip
      refine q_k 1 ?_
      show q_W L (d + 5) 47 q_m47 Q 43 [some (.ref 3), some (.int (nI i)), some (.int (nI j)), some (.ref (84 + 19 * j + 5)), some (.int ov)] [.ref 3] (n, I2, J, R) 0 0
      refine q_gR (b := 8) rfl rfl (⟨Nat.lt_of_lt_of_le (by decide) hK.1, rfl⟩) (hK.2.1 3 1 8 rfl) ?_
      refine q_k 1 ?_
      show q_W L (d + 5) 47 q_m47 Q 47 [some (.ref 3), some (.int (nI i)), some (.int (nI j)), some (.ref (84 + 19 * j + 5)), some (.int ov)] [.int (nI i), .ref 8] (n, I2, J, R) 0 0
      refine q_aal (m := i) (b := (84 + 19 * i)) rfl (⟨by decide, Nat.lt_of_lt_of_le (by decide) hK.1, rfl⟩) ⟨rfl, rfl⟩ (hi) rfl (hK.2.1 8 i _ (q_fx8 i hi)) ?_
      refine q_k 1 ?_
      show q_W L (d + 5) 47 q_m47 Q 49 [some (.ref 3), some (.int (nI i)), some (.int (nI j)), some (.ref (84 + 19 * j + 5)), some (.int ov)] [.ref 3, .ref (84 + 19 * i)] (n, I2, J, R) 0 0
      refine q_gR (b := 4) rfl rfl (⟨Nat.lt_of_lt_of_le (by decide) hK.1, rfl⟩) (hK.2.1 3 0 4 rfl) ?_
      refine q_k 1 ?_
      show q_W L (d + 5) 47 q_m47 Q 53 [some (.ref 3), some (.int (nI i)), some (.int (nI j)), some (.ref (84 + 19 * j + 5)), some (.int ov)] [.ref 3, .ref 4, .ref (84 + 19 * i)] (n, I2, J, R) 0 0
      refine q_gR (b := 81) rfl rfl (⟨Nat.lt_of_lt_of_le (by decide) hK.1, rfl⟩) (hK.2.1 3 7 81 rfl) ?_
      refine q_cv (as := [.ref 4, .ref 81]) (rs := []) rfl rfl rfl ((q_Ac_of hK hi).ob) rfl rfl ?_
      refine c_draw (lo := (f_off j f M) 194 i) (hi := (f_off j f M) 195 i) (u := i) (K2) (hAi) (⟨Nat.lt_of_lt_of_le (by decide) hK.1, rfl⟩) (by omega) ((ca2 i hi).seed) (fun I3 a3 p3 q3 g3 => ?_)
      have enx : g_priv ((f_off j f M) 194 i) ((f_off j f M) 195 i) i (I2 (84 + 19 * i) 1 + nI 1) = g_nx M i := by rw [(ca2 i hi).dr]; exact g_nx_off
      rw [enx] at p3 q3
      have ca3 := cA_draw ca2 hi a3 (fun x h1 h2 h3 => g3 x (by omega) (by omega) (by omega) h3 (by omega))
      show q_W L (d + 5) 47 q_m47 Q 59 [some (.ref 3), some (.int (nI i)), some (.int (nI j)), some (.ref (84 + 19 * j + 5)), some (.int ov)] [] (n, I3, J, R) 0 0
      refine q_k 1 ?_
      show q_W L (d + 5) 47 q_m47 Q 60 [some (.ref 3), some (.int (nI i)), some (.int (nI j)), some (.ref (84 + 19 * j + 5)), some (.int ov)] [.ref 3] (n, I3, J, R) 0 0
      refine q_gR (b := tr) rfl rfl (⟨Nat.lt_of_lt_of_le (by decide) hK.1, rfl⟩) (hL.tr) ?_
      refine q_cv (as := []) (rs := []) rfl rfl rfl (hL.ts.ob) rfl rfl ?_
      refine c_clear (hL.ts) (fun I4 z4 y4 g4 => ?_)
      show q_W L (d + 5) 47 q_m47 Q 66 [some (.ref 3), some (.int (nI i)), some (.int (nI j)), some (.ref (84 + 19 * j + 5)), some (.int ov)] [] (n, I4, J, R) 0 0
      refine q_k 1 ?_
      show q_W L (d + 5) 47 q_m47 Q 67 [some (.ref 3), some (.int (nI i)), some (.int (nI j)), some (.ref (84 + 19 * j + 5)), some (.int ov)] [.ref 3] (n, I4, J, R) 0 0
      refine q_gR (b := tr) rfl rfl (⟨Nat.lt_of_lt_of_le (by decide) hK.1, rfl⟩) (hL.tr) ?_
      refine q_k 1 ?_
      show q_W L (d + 5) 47 q_m47 Q 71 [some (.ref 3), some (.int (nI i)), some (.int (nI j)), some (.ref (84 + 19 * j + 5)), some (.int ov)] [.ref 3, .ref tr] (n, I4, J, R) 0 0
      refine q_gR (b := 81) rfl rfl (⟨Nat.lt_of_lt_of_le (by decide) hK.1, rfl⟩) (hK.2.1 3 7 81 rfl) ?_
      refine q_gI rfl rfl (⟨Nat.lt_of_lt_of_le (by decide) hK.1, rfl⟩) ?_
      refine q_pI rfl rfl rfl (hL.ts.ob) ?_
      refine q_k 1 ?_
      show q_W L (d + 5) 47 q_m47 Q 81 [some (.ref 3), some (.int (nI i)), some (.int (nI j)), some (.ref (84 + 19 * j + 5)), some (.int ov)] [.ref 3] (n, q_up I4 tr 0 (I4 81 1), J, R) 0 0
      refine q_gR (b := tr) rfl rfl (⟨Nat.lt_of_lt_of_le (by decide) hK.1, rfl⟩) (hL.tr) ?_
      refine q_k 1 ?_
      show q_W L (d + 5) 47 q_m47 Q 85 [some (.ref 3), some (.int (nI i)), some (.int (nI j)), some (.ref (84 + 19 * j + 5)), some (.int ov)] [.int (nI 1), .ref tr] (n, q_up I4 tr 0 (I4 81 1), J, R) 0 0
      refine q_pZ rfl rfl rfl (hL.ts.ob) (Or.inr rfl) ?_
      refine q_k 1 ?_
      show q_W L (d + 5) 47 q_m47 Q 89 [some (.ref 3), some (.int (nI i)), some (.int (nI j)), some (.ref (84 + 19 * j + 5)), some (.int ov)] [.ref 3] (n, q_up (q_up I4 tr 0 (I4 81 1)) tr 11 (nI 1), J, R) 0 0
      refine q_gR (b := tr) rfl rfl (⟨Nat.lt_of_lt_of_le (by decide) hK.1, rfl⟩) (hL.tr) ?_
      refine q_k 1 ?_
      show q_W L (d + 5) 47 q_m47 Q 93 [some (.ref 3), some (.int (nI i)), some (.int (nI j)), some (.ref (84 + 19 * j + 5)), some (.int ov)] [.ref (84 + 19 * j + 5), .ref tr] (n, q_up (q_up I4 tr 0 (I4 81 1)) tr 11 (nI 1), J, R) 0 0
      refine q_gI rfl rfl ((q_Ac_of hK hj).o5) ?_
      refine q_top (w := M 202 (4 * j + 1)) (by simp (disch := omega) only [q_un]; rw [g4 (84 + 19 * j + 5) (by omega) (by omega), (ca3 j hj).e1]; exact congrFun ((q_un (by decide)).trans (f_off_n (by decide) (by decide))) _) ?_
      refine q_pI rfl rfl rfl (hL.ts.ob) ?_
      refine q_k 1 ?_
      show q_W L (d + 5) 47 q_m47 Q 100 [some (.ref 3), some (.int (nI i)), some (.int (nI j)), some (.ref (84 + 19 * j + 5)), some (.int ov)] [.ref 3] (n, q_up (q_up (q_up I4 tr 0 (I4 81 1)) tr 11 (nI 1)) tr 13 (M 202 (4 * j + 1)), J, R) 0 0
      refine q_gR (b := tr) rfl rfl (⟨Nat.lt_of_lt_of_le (by decide) hK.1, rfl⟩) (hL.tr) ?_
      refine q_k 1 ?_
      show q_W L (d + 5) 47 q_m47 Q 105 [some (.ref 3), some (.int (nI i)), some (.int (nI j)), some (.ref (84 + 19 * j + 5)), some (.int ov)] [.int ov, .ref tr] (n, q_up (q_up (q_up I4 tr 0 (I4 81 1)) tr 11 (nI 1)) tr 13 (M 202 (4 * j + 1)), J, R) 0 0
      refine q_pI rfl rfl rfl (hL.ts.ob) ?_
      obtain ⟨I5, eI5⟩ : ∃ zz9, zz9 = q_up (q_up (q_up (q_up I4 tr 0 (I4 81 1)) tr 11 (nI 1)) tr 13 (M 202 (4 * j + 1))) tr 14 ov := ⟨_, rfl⟩
      rw [← eI5]
      refine q_k 2 ?_
      show q_W L (d + 5) 47 q_m47 Q 110 [some (.ref 3), some (.int (nI i)), some (.int (nI j)), some (.ref (84 + 19 * j + 5)), some (.int ov)] [.ref 3, .ref 3] (n, I5, J, R) 0 0
      refine q_gR (b := 8) rfl rfl (⟨Nat.lt_of_lt_of_le (by decide) hK.1, rfl⟩) (hK.2.1 3 1 8 rfl) ?_
      refine q_k 1 ?_
      show q_W L (d + 5) 47 q_m47 Q 114 [some (.ref 3), some (.int (nI i)), some (.int (nI j)), some (.ref (84 + 19 * j + 5)), some (.int ov)] [.int (nI i), .ref 8, .ref 3] (n, I5, J, R) 0 0
      refine q_aal (m := i) (b := (84 + 19 * i)) rfl (⟨by decide, Nat.lt_of_lt_of_le (by decide) hK.1, rfl⟩) ⟨rfl, rfl⟩ (hi) rfl (hK.2.1 8 i _ (q_fx8 i hi)) ?_
      refine q_gR (b := (84 + 19 * i + 1)) rfl rfl ((q_Ac_of hK hi).ob) ((q_Ac_of hK hi).r2) ?_
      refine q_k 2 ?_
      show q_W L (d + 5) 47 q_m47 Q 121 [some (.ref 3), some (.int (nI i)), some (.int (nI j)), some (.ref (84 + 19 * j + 5)), some (.int ov)] [.int ov, .ref (84 + 19 * j + 5), .ref (84 + 19 * i + 1), .ref 3] (n, I5, J, R) 0 0
      refine q_cv (as := [.ref (84 + 19 * i + 1), .ref (84 + 19 * j + 5), .int ov]) (rs := []) rfl rfl rfl (⟨Nat.lt_of_lt_of_le (by decide) hK.1, rfl⟩) rfl rfl ?_
      have g5t : ∀ x, x ≠ tr → x ≠ tr + 5 → I5 x = I3 x := fun x h1 h2 => by rw [eI5]; simp (disch := omega) only [q_un]; exact g4 x h1 h2
      have K5 : q_K0 n I5 R := q_K0_to K2 (by rw [g5t 0 (by omega) (by omega), g3 0 (by omega) (by omega) (by omega) (by omega) (by omega)]) (by rw [g5t 1 (by omega) (by omega), g3 1 (by omega) (by omega) (by omega) (by omega) (by omega)])
      have ca5 : ∀ u, u < 4 → c_A I5 R (f_draw i (f_off j f M)) (84 + 19 * u) u := fun u hu => c_A_to (ca3 u hu) (fun x h1 h2 => g5t x (by omega) (by omega)) rfl (q_eu_rf _ _)
      refine c_agree1 (t := tr) (id := 84 + 19 * i + 1) (en := 84 + 19 * j + 5) (K5) (hL.tr) (hL.ts) (hAi.o1) (hAj.o5) (by omega) (by omega) (fun I6 r6 g6 => ?_)
      have ro6 : ∀ l, l < 8 → I6 (tr + 1) l = g_brt M i j (g_nx M i) ov l := fun l hl => by
        rw [r6 l hl, g5t 81 (by omega) (by omega), p3, (ca5 j hj).e0, (ca5 j hj).e1, (ca5 i hi).i0, (ca5 i hi).i1, show f_draw i (f_off j f M) 202 = M 202 from (q_un (by decide)).trans (f_off_n (by decide) (by decide)), show f_draw i (f_off j f M) 197 = M 197 from (q_un (by decide)).trans (f_off_n (by decide) (by decide))]
        rfl
      have K6 := q_K0_to K5 (g6 0 (by decide) (by decide) (by omega)) (g6 1 (by decide) (by decide) (by omega))
      have ca6 : ∀ u, u < 4 → c_A I6 R (f_draw i (f_off j f M)) (84 + 19 * u) u := fun u hu => c_A_to (ca5 u hu) (fun x h1 h2 => g6 x (by omega) (by omega) (by omega)) rfl (q_eu_rf _ _)
      show q_W L (d + 5) 47 q_m47 Q 124 [some (.ref 3), some (.int (nI i)), some (.int (nI j)), some (.ref (84 + 19 * j + 5)), some (.int ov)] [] (n, I6, J, R) 0 0
      refine q_k 1 ?_
      show q_W L (d + 5) 47 q_m47 Q 125 [some (.ref 3), some (.int (nI i)), some (.int (nI j)), some (.ref (84 + 19 * j + 5)), some (.int ov)] [.ref 3] (n, I6, J, R) 0 0
      refine q_gR (b := 8) rfl rfl (⟨Nat.lt_of_lt_of_le (by decide) hK.1, rfl⟩) (hK.2.1 3 1 8 rfl) ?_
      refine q_k 1 ?_
      show q_W L (d + 5) 47 q_m47 Q 129 [some (.ref 3), some (.int (nI i)), some (.int (nI j)), some (.ref (84 + 19 * j + 5)), some (.int ov)] [.int (nI i), .ref 8] (n, I6, J, R) 0 0
      refine q_aal (m := i) (b := (84 + 19 * i)) rfl (⟨by decide, Nat.lt_of_lt_of_le (by decide) hK.1, rfl⟩) ⟨rfl, rfl⟩ (hi) rfl (hK.2.1 8 i _ (q_fx8 i hi)) ?_
      refine q_k 1 ?_
      show q_W L (d + 5) 47 q_m47 Q 131 [some (.ref 3), some (.int (nI i)), some (.int (nI j)), some (.ref (84 + 19 * j + 5)), some (.int ov)] [.ref 3, .ref (84 + 19 * i)] (n, I6, J, R) 0 0
      refine q_gR (b := 4) rfl rfl (⟨Nat.lt_of_lt_of_le (by decide) hK.1, rfl⟩) (hK.2.1 3 0 4 rfl) ?_
      refine q_k 1 ?_
      show q_W L (d + 5) 47 q_m47 Q 135 [some (.ref 3), some (.int (nI i)), some (.int (nI j)), some (.ref (84 + 19 * j + 5)), some (.int ov)] [.ref 3, .ref 4, .ref (84 + 19 * i)] (n, I6, J, R) 0 0
      refine q_gR (b := tr) rfl rfl (⟨Nat.lt_of_lt_of_le (by decide) hK.1, rfl⟩) (hL.tr) ?_
      refine q_gR (b := (tr + 2)) rfl rfl (hL.ts.ob) (hL.ts.r2) ?_
      refine q_cv (as := [.ref 4, .ref (tr + 2)]) (rs := []) rfl rfl rfl ((q_Ac_of hK hi).ob) rfl rfl ?_
      refine c_draw (lo := (f_draw i (f_off j f M)) 194 i) (hi := (f_draw i (f_off j f M)) 195 i) (u := i) (K6) (hAi) (hL.ts.o2) (by omega) ((ca6 i hi).seed) (fun I7 a7 p7 q7 g7 => ?_)
      have enx2 : g_priv ((f_draw i (f_off j f M)) 194 i) ((f_draw i (f_off j f M)) 195 i) i (I6 (84 + 19 * i) 1 + nI 1) = g_nx (f_draw i M) i := by rw [(ca6 i hi).dr]; exact g_nx_dof
      rw [enx2] at p7 q7
      have ca7 := cA_draw ca6 hi a7 (fun x h1 h2 h3 => g7 x (by omega) (by omega) (by omega) h3 (by omega))
      show q_W L (d + 5) 47 q_m47 Q 144 [some (.ref 3), some (.int (nI i)), some (.int (nI j)), some (.ref (84 + 19 * j + 5)), some (.int ov)] [] (n, I7, J, R) 0 0
      refine q_k 1 ?_
      show q_W L (d + 5) 47 q_m47 Q 145 [some (.ref 3), some (.int (nI i)), some (.int (nI j)), some (.ref (84 + 19 * j + 5)), some (.int ov)] [.ref 3] (n, I7, J, R) 0 0
      refine q_gR (b := tr) rfl rfl (⟨Nat.lt_of_lt_of_le (by decide) hK.1, rfl⟩) (hL.tr) ?_
      refine q_k 1 ?_
      show q_W L (d + 5) 47 q_m47 Q 149 [some (.ref 3), some (.int (nI i)), some (.int (nI j)), some (.ref (84 + 19 * j + 5)), some (.int ov)] [.ref (84 + 19 * j + 5), .ref tr] (n, I7, J, R) 0 0
      refine q_gI rfl rfl ((q_Ac_of hK hj).o5) ?_
      refine q_top (w := M 202 (4 * j + 1)) (by rw [(ca7 j hj).e1]; exact congrFun ((q_un (by decide)).trans ((q_un (by decide)).trans (f_off_n (by decide) (by decide)))) _) ?_
      refine q_pI rfl rfl rfl (hL.ts.ob) ?_
      obtain ⟨I8, eI8⟩ : ∃ zz9, zz9 = q_up I7 tr 3 (M 202 (4 * j + 1)) := ⟨_, rfl⟩
      rw [← eI8]
      refine q_k 1 ?_
      show q_W L (d + 5) 47 q_m47 Q 156 [some (.ref 3), some (.int (nI i)), some (.int (nI j)), some (.ref (84 + 19 * j + 5)), some (.int ov)] [.ref 3] (n, I8, J, R) 0 0
      refine q_gR (b := tr) rfl rfl (⟨Nat.lt_of_lt_of_le (by decide) hK.1, rfl⟩) (hL.tr) ?_
      refine q_k 1 ?_
      show q_W L (d + 5) 47 q_m47 Q 160 [some (.ref 3), some (.int (nI i)), some (.int (nI j)), some (.ref (84 + 19 * j + 5)), some (.int ov)] [.ref 3, .ref tr] (n, I8, J, R) 0 0
      refine q_gR (b := 4) rfl rfl (⟨Nat.lt_of_lt_of_le (by decide) hK.1, rfl⟩) (hK.2.1 3 0 4 rfl) ?_
      refine q_k 1 ?_
      show q_W L (d + 5) 47 q_m47 Q 164 [some (.ref 3), some (.int (nI i)), some (.int (nI j)), some (.ref (84 + 19 * j + 5)), some (.int ov)] [.ref 3, .ref 4, .ref tr] (n, I8, J, R) 0 0
      refine q_gR (b := tr) rfl rfl (⟨Nat.lt_of_lt_of_le (by decide) hK.1, rfl⟩) (hL.tr) ?_
      refine q_gR (b := (tr + 3)) rfl rfl (hL.ts.ob) (hL.ts.r4) ?_
      refine q_cv (as := [.ref 4, .ref (tr + 3)]) (rs := []) rfl rfl rfl (hL.ts.ob) rfl rfl ?_
      have K8 : q_K0 n I8 R := q_K0_to K6 (by rw [eI8, q_un (by omega), g7 0 (by omega) (by omega) (by omega) (by omega) (by omega)]) (by rw [eI8, q_un (by omega), g7 1 (by omega) (by omega) (by omega) (by omega) (by omega)])
      refine c_step (t := tr) (K8) (hL.ts) (hL.ts.o3) (by omega) (by omega) (fun I9 a9 b9 g9 => ?_)
      have ed : g_pow (I8 tr 3) (I8 (tr + 2) 0) = g_pow (M 202 (4 * j + 1)) (g_nx (f_draw i M) i) := by rw [eI8, q_usk, q_un (by omega), p7]
      rw [ed] at a9 b9
      have e81 : ∀ l, l < 8 → I8 (tr + 1) l = g_brt M i j (g_nx M i) ov l := fun l hl => by rw [eI8, q_un (by omega), g7 (tr + 1) (by omega) (by omega) (by omega) (by omega) (by omega)]; exact ro6 l hl
      have t9 : ∀ l, l ≠ 3 → I9 tr l = I5 tr l := fun l hl => by rw [g9 tr (by omega) (by omega) (by omega) (by omega), eI8, q_usn hl, g7 tr (by omega) (by omega) (by omega) (by omega) (by omega), g6 tr (by omega) (by omega) (by omega)]
      obtain ⟨m9, n9⟩ : s_R I9 tr (s_beg (g_nx M i) (g_nx (f_draw i M) i) (M 202 (4 * j + 1)) ov (g_brt M i j (g_nx M i) ov)) ∧ s_S I9 tr (s_beg (g_nx M i) (g_nx (f_draw i M) i) (M 202 (4 * j + 1)) ov (g_brt M i j (g_nx M i) ov)) := by
        refine s_R_beg (fun k hk => ?_) ?_ ?_ ?_ ?_ ?_ ?_ ?_ ?_ (fun l hl => ?_) (fun l hl => ?_)
        · rw [t9 k (by omega), eI5]; simp (disch := omega) only [q_usn]; exact z4 k (by omega)
        · rw [t9 0 (by decide), eI5]; simp (disch := omega) only [q_usn, q_usk]; rw [g4 81 (by omega) (by omega)]; exact q3
        · rw [g9 tr (by omega) (by omega) (by omega) (by omega), eI8, q_usk]
        · rw [g9 (tr + 2) (by omega) (by omega) (by omega) (by omega), eI8, q_un (by omega)]; exact p7
        · rw [g9 (tr + 2) (by omega) (by omega) (by omega) (by omega), eI8, q_un (by omega)]; exact q7
        · rw [g9 (tr + 5) (by omega) (by omega) (by omega) (by omega), eI8, q_un (by omega), g7 (tr + 5) (by omega) (by omega) (by omega) (by omega) (by omega), g6 (tr + 5) (by omega) (by omega) (by omega), eI5]; simp (disch := omega) only [q_un]; exact y4
        · rw [t9 11 (by decide), eI5]; simp (disch := omega) only [q_usn, q_usk]
        · rw [t9 13 (by decide), eI5]; simp (disch := omega) only [q_usn, q_usk]
        · rw [t9 14 (by decide), eI5]; simp (disch := omega) only [q_usn, q_usk]
        · rw [b9 l hl]; exact g_mix_c e81 _ _ _ _ (by omega)
        · rw [a9 l hl]; exact g_mix_c e81 _ _ _ _ (by omega)
      have K9 : q_K0 n I9 R := q_K0_to K8 (g9 0 (by omega) (by omega) (by omega) (by omega)) (g9 1 (by omega) (by omega) (by omega) (by omega))
      have ca9 : ∀ u, u < 4 → c_A I9 R (f_draw i (f_draw i (f_off j f M))) (84 + 19 * u) u := fun u hu => c_A_to (ca7 u hu) (fun x h1 h2 => by rw [g9 x (by omega) (by omega) (by omega) (by omega), eI8, q_un (by omega)]) rfl (q_eu_rf _ _)
      have fr9 : ∀ x, x ≠ 5 → x ≠ 6 → x ≠ 7 → x ≠ 81 → (x < 84 ∨ 160 ≤ x) → (x < tr ∨ tr + 10 ≤ x) → I9 x = I x := fun x h5 h6 h7 h81 hx ht => by rw [g9 x h5 h6 (by omega) (by omega), eI8, q_un (by omega), g7 x h5 h6 h7 (by omega) (by omega), g6 x h5 h6 (by omega), g5t x (by omega) (by omega), g3 x h5 h6 h7 (by omega) h81, g2t x h5 h6 h7 (by omega) (by omega)]
      show q_W L (d + 5) 47 q_m47 Q 173 [some (.ref 3), some (.int (nI i)), some (.int (nI j)), some (.ref (84 + 19 * j + 5)), some (.int ov)] [] (n, I9, J, R) 0 0
      refine q_k 4 ?_
      show q_W L (d + 5) 47 q_m47 Q 177 [some (.ref 3), some (.int (nI i)), some (.int (nI j)), some (.ref (84 + 19 * j + 5)), some (.int ov)] [.int (nI j), .int (nI i), .ref 3, .ref 3] (n, I9, J, R) 0 0
      refine q_cv (as := [.int (nI i), .int (nI j)]) (rs := [.ref 3]) rfl rfl rfl (⟨Nat.lt_of_lt_of_le (by decide) hK.1, rfl⟩) rfl rfl ?_
      refine c_listOf (K9) (hi) (hj) ?_
      show q_W L (d + 5) 47 q_m47 Q 180 [some (.ref 3), some (.int (nI i)), some (.int (nI j)), some (.ref (84 + 19 * j + 5)), some (.int ov)] [.ref (160 + 2 * (4 * i + j)), .ref 3] (n, I9, J, R) 0 0
      refine q_k 1 ?_
      show q_W L (d + 5) 47 q_m47 Q 181 [some (.ref 3), some (.int (nI i)), some (.int (nI j)), some (.ref (84 + 19 * j + 5)), some (.int ov)] [.ref 3, .ref (160 + 2 * (4 * i + j)), .ref 3] (n, I9, J, R) 0 0
      refine q_gR (b := tr) rfl rfl (⟨Nat.lt_of_lt_of_le (by decide) hK.1, rfl⟩) (hL.tr) ?_
      refine q_cvA (as := [.ref tr]) (rs := [.ref 3]) rfl rfl rfl (q_obL hK.1 (by omega)) rfl rfl ⟨by decide, by decide⟩ ?_
      have hFb : f_bg i j f (mc (4 * i + j)) M = (nI 0, (f_come (4 * i + j) (mc (4 * i + j)) (s_beg (g_nx M i) (g_nx (f_draw i M) i) (M 202 (4 * j + 1)) ov (g_brt M i j (g_nx M i) ov)) (f_draw i (f_draw i (f_off j f M))))) := by unfold f_bg f_bg1; rw [if_neg h37, ← eov]
      rw [hFb] at hQ
      dsimp only at hQ
      have hme : ∀ q, (f_come (4 * i + j) (mc (4 * i + j)) (s_beg (g_nx M i) (g_nx (f_draw i M) i) (M 202 (4 * j + 1)) ov (g_brt M i j (g_nx M i) ov)) (f_draw i (f_draw i (f_off j f M)))) 206 q = if q = 4 * i + j then nI (min (mc (4 * i + j)) 2 + 1) else M 206 q := fun q => by rw [f_come_206]; unfold f_draw; rw [q_un (by decide), q_un (by decide), f_off_n (by decide) (by decide)]; unfold va_up; rfl
      have hm5 : (f_come (4 * i + j) (mc (4 * i + j)) (s_beg (g_nx M i) (g_nx (f_draw i M) i) (M 202 (4 * j + 1)) ov (g_brt M i j (g_nx M i) ov)) (f_draw i (f_draw i (f_off j f M)))) 205 = f_rows (4 * i + j) (min (mc (4 * i + j)) 2) (s_beg (g_nx M i) (g_nx (f_draw i M) i) (M 202 (4 * j + 1)) ov (g_brt M i j (g_nx M i) ov)) M 205 := (f_come_205 (show M 205 = (f_draw i (f_draw i (f_off j f M))) 205 from by unfold f_draw; rw [q_un (by decide), q_un (by decide), f_off_n (by decide) (by decide)]) (fun _ _ => rfl)).symm
      have hm192 : (f_come (4 * i + j) (mc (4 * i + j)) (s_beg (g_nx M i) (g_nx (f_draw i M) i) (M 202 (4 * j + 1)) ov (g_brt M i j (g_nx M i) ov)) (f_draw i (f_draw i (f_off j f M)))) 192 16 = M 192 16 := by rw [f_come_n (by decide) (by decide)]; unfold f_draw; rw [q_un (by decide), q_un (by decide), f_off_n (by decide) (by decide)]
      refine c_putInFront (s := 160 + 2 * (4 * i + j)) (m := mc (4 * i + j)) (rr := ss (4 * i + j)) (q_obL hK.1 (by omega)) (hK.2.1 _ _ _ (q_fxL (4 * i + j) (by omega))) (q_arL hK.1 (by omega)) (by omega) h.nj (by rw [fr9 (160 + 2 * (4 * i + j)) (by omega) (by omega) (by omega) (by omega) (by omega) (by omega)]; exact hI6) hm3 hL.ts.ob (fun l hl => ⟨(hL.rw (4 * i + j) l (by omega) hl).1, (hL.se (p := 4 * i + j) (by omega) hl).ob⟩) (fun em I10 R10 i10 j10 x0 x1 x2 x10 => ?_) (fun em I10 J10 R10 i10 x0 xk j10 l10 x10 s10 => ?_)
      · skip
        show q_W L (d + 5) 47 q_m47 Q 187 [some (.ref 3), some (.int (nI i)), some (.int (nI j)), some (.ref (84 + 19 * j + 5)), some (.int ov)] [.ref (ss (4 * i + j) 2), .ref 3] (n, I10, J, R10) 10 334
        have gI : ∀ x, x ≠ 160 + 2 * (4 * i + j) → x < n → I10 x = I9 x := fun x hx _ => j10 x hx
        have gR : ∀ x, x ≠ 160 + 2 * (4 * i + j) + 1 → x < n → R10 x = R x := fun x hx _ => x10 x hx
        have h2m : 2 < mc (4 * i + j) := by omega
        have h2s := hL.se (p := 4 * i + j) (by omega) h2m
        have h2g := h2s.ge
        have h2h := h2s.hi
        have hn0 := hK.1
        refine q_pR rfl rfl rfl (⟨by omega, rfl⟩) ?_
        obtain ⟨R11, eR11⟩ : ∃ zz9, zz9 = q_up R10 3 6 (some (ss (4 * i + j) 2)) := ⟨_, rfl⟩
        rw [← eR11]
        refine q_k 1 ?_
        show q_W L (d + 5) 47 q_m47 Q 191 [some (.ref 3), some (.int (nI i)), some (.int (nI j)), some (.ref (84 + 19 * j + 5)), some (.int ov)] [.int (nI 0)] (n, I10, J, R11) 10 334
        refine q_one rfl rfl ?_
        show Q (some (.int (nI 0))) (n, I10, J, R11)
        have hRR : ∀ x, x ≠ 160 + 2 * (4 * i + j) + 1 → x ≠ 3 → x < n → R11 x = R x := fun x h1 h2 h3 => by rw [eR11, q_un h2]; exact gR x h1 h3
        have hRs1 : R11 (160 + 2 * (4 * i + j) + 1) = R10 (160 + 2 * (4 * i + j) + 1) := by rw [eR11, q_un (by omega)]
        have hmin : min (mc (4 * i + j)) 2 = 2 := by omega
        rw [hmin] at hme hm5
        obtain ⟨ss2, mc2, hL2⟩ := c_L_mv (n2 := n) (I2 := I10) (R2 := R11) (M2 := (f_come (4 * i + j) (mc (4 * i + j)) (s_beg (g_nx M i) (g_nx (f_draw i M) i) (M 202 (4 * j + 1)) ov (g_brt M i j (g_nx M i) ov)) (f_draw i (f_draw i (f_off j f M))))) (tr2 := ss (4 * i + j) 2) (p := 4 * i + j) (k := 2) (m2 := 3) (row := (s_beg (g_nx M i) (g_nx (f_draw i M) i) (M 202 (4 * j + 1)) ov (g_brt M i j (g_nx M i) ov))) hL hK.1 (by omega) (by omega) (by omega) (by omega) (by omega) (fun l h1 h2 => by omega) (by rw [eR11, q_usk]) (h2s.to (Nat.le_refl _) (hRR _ (by omega) (by omega) (by omega)) (hRR _ (by omega) (by omega) (by omega))) (hL.rw (4 * i + j) 2 (by omega) h2m).2.2 (fun q l hq hl hne he => by obtain ⟨e1, e2⟩ := hL.inj q l (4 * i + j) 2 hq hl (by omega) h2m he; rcases hne with z1 | z1; exact z1 e1; exact z1 e2) (by rw [hRs1]; exact x0) (fun l hl => by rw [hRs1]; have h01 : l = 0 ∨ l = 1 := (by omega); rcases h01 with rfl | rfl; exact x1; exact x2) (fun l h1 h2 => by omega) (fun x hx h2 => hRR x (by omega) (by omega) hx) (fun x hx h2 h3 => by rw [gI x (by omega) hx]; exact fr9 x (by omega) (by omega) (by omega) (by omega) (by omega) (by omega)) (by rw [i10, va_up_self]) (s_R_to m9 (fun x h1 h2 => gI x (by omega) (by omega))) (s_S_to n9 (fun x h1 h2 => gI x (by omega) (by omega))) (s_beg_ri _ _ _ _ _) hm5 (fun q hq => by rw [hme q, if_neg hq]) (by rw [hme (4 * i + j), if_pos rfl])
        exact hQ (n) I10 J R11 ⟨q_K0_R (q_K0_to hK (by rw [gI 0 (by omega) (by omega)]; exact fr9 0 (by omega) (by omega) (by omega) (by omega) (by omega) (by omega)) (by rw [gI 1 (by omega) (by omega)]; exact fr9 1 (by omega) (by omega) (by omega) (by omega) (by omega) (by omega))) (show n ≤ n by omega) (fun x l => by by_cases x1 : x = 160 + 2 * (4 * i + j) + 1; exact Or.inr (by rw [x1]; exact q_fxn1 (p := 4 * i + j) (by omega)); by_cases x4 : 214 ≤ x; exact Or.inr (q_fxS x4); by_cases x3 : x = 3; subst x3; by_cases l6 : l = 6; exact Or.inr (by rw [l6]; rfl); exact Or.inl (by rw [eR11, q_usn l6, gR 3 (by omega) (by omega)]); exact Or.inl (by rw [hRR x x1 x3 (by omega)])), h.nj, fun u hu => c_A_to (ca9 u hu) (fun x h1 h2 => gI x (by omega) (by omega)) (hRR _ (by omega) (by omega) (by omega)) (fun r l ho => by unfold q_own at ho; rw [f_come_n (by omega) (by omega)]), ⟨ss2, mc2, _, hL2⟩, ⟨E, c_E_to hE (by rw [gI 3 (by omega) (by omega)]; exact fr9 3 (by omega) (by omega) (by omega) (by omega) (by omega) (by omega)) hm192⟩⟩ (fun x hx => by rw [gI x (by omega) (by omega)]; exact fr9 x (by omega) (by omega) (by omega) (by omega) (by omega) (by omega)) ⟨rfl, rfl⟩
      · skip
        show q_W L (d + 5) 47 q_m47 Q 187 [some (.ref 3), some (.int (nI i)), some (.int (nI j)), some (.ref (84 + 19 * j + 5)), some (.int ov)] [.ref n, .ref 3] (n + 10, I10, J10, R10) 10 334
        have gI : ∀ x, x ≠ 160 + 2 * (4 * i + j) → x < n → I10 x = I9 x := fun x hx hl => j10 x hx (Or.inl hl)
        have gR : ∀ x, x ≠ 160 + 2 * (4 * i + j) + 1 → x < n → R10 x = R x := fun x hx hl => x10 x hx (Or.inl hl)
        have hn0 := hK.1
        refine q_pR rfl rfl rfl (⟨by omega, rfl⟩) ?_
        obtain ⟨R11, eR11⟩ : ∃ zz9, zz9 = q_up R10 3 6 (some n) := ⟨_, rfl⟩
        rw [← eR11]
        refine q_k 1 ?_
        show q_W L (d + 5) 47 q_m47 Q 191 [some (.ref 3), some (.int (nI i)), some (.int (nI j)), some (.ref (84 + 19 * j + 5)), some (.int ov)] [.int (nI 0)] (n + 10, I10, J10, R11) 10 334
        refine q_one rfl rfl ?_
        show Q (some (.int (nI 0))) (n + 10, I10, J10, R11)
        have hRR : ∀ x, x ≠ 160 + 2 * (4 * i + j) + 1 → x ≠ 3 → x < n → R11 x = R x := fun x h1 h2 h3 => by rw [eR11, q_un h2]; exact gR x h1 h3
        have hRs1 : R11 (160 + 2 * (4 * i + j) + 1) = R10 (160 + 2 * (4 * i + j) + 1) := by rw [eR11, q_un (by omega)]
        have hmin : min (mc (4 * i + j)) 2 = mc (4 * i + j) := by omega
        rw [hmin] at hme hm5
        obtain ⟨ss2, mc2, hL2⟩ := c_L_mv (n2 := n + 10) (I2 := I10) (R2 := R11) (M2 := (f_come (4 * i + j) (mc (4 * i + j)) (s_beg (g_nx M i) (g_nx (f_draw i M) i) (M 202 (4 * j + 1)) ov (g_brt M i j (g_nx M i) ov)) (f_draw i (f_draw i (f_off j f M))))) (tr2 := n) (p := 4 * i + j) (k := mc (4 * i + j)) (m2 := (mc (4 * i + j) + 1)) (row := (s_beg (g_nx M i) (g_nx (f_draw i M) i) (M 202 (4 * j + 1)) ov (g_brt M i j (g_nx M i) ov))) hL hK.1 (by omega) (by omega) (by omega) (by omega) (by omega) (fun l h1 h2 => by omega) (by rw [eR11, q_usk]) (s10.to (Nat.le_refl _) (by rw [eR11, q_un (by omega)]) (by rw [eR11, q_un (by omega)])) (by omega) (fun q l hq hl _ he => by have := (hL.se hq hl).hi; omega) (by rw [hRs1]; exact x0) (fun l hl => by rw [hRs1]; exact xk l hl) (fun l h1 h2 => by omega) (fun x hx h2 => hRR x (by omega) (by omega) hx) (fun x hx h2 h3 => by rw [gI x (by omega) hx]; exact fr9 x (by omega) (by omega) (by omega) (by omega) (by omega) (by omega)) (by rw [i10]) (s_R_to m9 (fun x h1 h2 => gI x (by omega) (by omega))) (s_S_to n9 (fun x h1 h2 => gI x (by omega) (by omega))) (s_beg_ri _ _ _ _ _) hm5 (fun q hq => by rw [hme q, if_neg hq]) (by rw [hme (4 * i + j), if_pos rfl])
        exact hQ (n + 10) I10 J10 R11 ⟨q_K0_R (q_K0_to hK (by rw [gI 0 (by omega) (by omega)]; exact fr9 0 (by omega) (by omega) (by omega) (by omega) (by omega) (by omega)) (by rw [gI 1 (by omega) (by omega)]; exact fr9 1 (by omega) (by omega) (by omega) (by omega) (by omega) (by omega))) (show n ≤ n + 10 by omega) (fun x l => by by_cases x1 : x = 160 + 2 * (4 * i + j) + 1; exact Or.inr (by rw [x1]; exact q_fxn1 (p := 4 * i + j) (by omega)); by_cases x4 : 214 ≤ x; exact Or.inr (q_fxS x4); by_cases x3 : x = 3; subst x3; by_cases l6 : l = 6; exact Or.inr (by rw [l6]; rfl); exact Or.inl (by rw [eR11, q_usn l6, gR 3 (by omega) (by omega)]); exact Or.inl (by rw [hRR x x1 x3 (by omega)])), (by obtain ⟨w, hw⟩ := h.nj; exact ⟨w + 1, by omega⟩), fun u hu => c_A_to (ca9 u hu) (fun x h1 h2 => gI x (by omega) (by omega)) (hRR _ (by omega) (by omega) (by omega)) (fun r l ho => by unfold q_own at ho; rw [f_come_n (by omega) (by omega)]), ⟨ss2, mc2, _, hL2⟩, ⟨E, c_E_J (c_E_to hE (by rw [gI 3 (by omega) (by omega)]; exact fr9 3 (by omega) (by omega) (by omega) (by omega) (by omega) (by omega)) hm192) (fun x hx => l10 x (by omega))⟩⟩ (fun x hx => by rw [gI x (by omega) (by omega)]; exact fr9 x (by omega) (by omega) (by omega) (by omega) (by omega) (by omega)) ⟨l10 208 (by omega), l10 192 (by omega)⟩
    · skip
      refine q_k 1 ?_
      show q_W L (d + 5) 47 q_m47 Q 41 [some (.ref 3), some (.int (nI i)), some (.int (nI j)), some (.ref (84 + 19 * j + 5)), some (.int ov)] [.int (nI 1)] (n, I2, J, R) 0 0
      refine q_one rfl rfl ?_
      show Q (some (.int (nI 1))) (n, I2, J, R)
      rw [show f_bg i j f (mc (4 * i + j)) M = (nI 1, (f_off j f M)) by unfold f_bg; rw [if_pos h37]] at hQ
      dsimp only at hQ
      obtain ⟨c1, c2⟩ := CR_acct h hj caj (fun x h5 h6 h7 hx => g2t x h5 h6 h7 (by omega) (by omega)) (fun v hv huv => f_off_eu hf6 huv) (f_off_n (by decide) (by decide)) (f_off_n (by decide) (by decide)) (by rw [f_off_n (by decide) (by decide)])
      exact hQ n I2 J R c1 c2 ⟨rfl, rfl⟩
  · skip
    show q_W L (d + 5) 47 q_m47 Q 8 [some (.ref 3), some (.int u), some (.int v), none, none] [.int (nI 0)] (n, I, J, R) 0 0
    refine q_one rfl rfl ?_
    show (¬ (nI 0) = 0 → q_W L (d + 5) 47 q_m47 Q 13 [some (.ref 3), some (.int u), some (.int v), none, none] [] (n, I, J, R) 0 0) ∧ ((nI 0) = 0 → q_W L (d + 5) 47 q_m47 Q 11 [some (.ref 3), some (.int u), some (.int v), none, none] [] (n, I, J, R) 0 0)
    refine ⟨fun z => absurd (by decide) z, fun _ => ?_⟩
    refine q_k 1 ?_
    show q_W L (d + 5) 47 q_m47 Q 12 [some (.ref 3), some (.int u), some (.int v), none, none] [.int (-1)] (n, I, J, R) 0 0
    refine q_one rfl rfl ?_
    show Q (some (.int (-1))) (n, I, J, R)
    rw [show f_begin u v M = (-1, M) by unfold f_begin; rw [if_pos (g_pr_0 hno)]] at hQ
    dsimp only at hQ
    exact hQ n I J R h (q_nmf_rf _) ⟨rfl, rfl⟩
