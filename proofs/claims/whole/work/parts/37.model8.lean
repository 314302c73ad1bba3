set_option maxHeartbeats 2000000 in
theorem m_trial {L d n : Nat} {I : q_I} {J : q_L} {R : q_R} {Q : q_Q} {e a b m p c w : Nat} (hK : q_K0 n I R) (he : e + 12 ≤ 720) (hfa : J 208 e = lN a) (hfb : J 208 (e + 1) = lN b) (ha : a < 4) (hb : b < 4) (hfm : J 208 (e + 8) = lN m) (hm : m ≤ 1000) (hfp : J 208 (e + 9) = lN p) (hp : p ≤ 1000) (hc : I 207 9 = nI c) (hc12 : c ≤ 12) (hw : I 207 7 = nI w) (hw2 : w ≤ 1001) (hQ : ∀ I', ((f_try I J e a b (I 207)).1 = nI 0 → I' 207 = (f_try I J e a b (I 207)).2.1 ∧ (∀ i, i < 8 → I' 212 i = (f_try I J e a b (I 207)).2.2.1 i) ∧ I' 196 = if (f_try I J e a b (I 207)).2.2.2 = true then va_up (I 196) b (I 196 b + nI 1) else I 196) → (∀ j, j ≠ b → I' 196 j = I 196 j) → (∀ x, x ≠ 192 → x ≠ 196 → x ≠ 207 → x ≠ 209 → x ≠ 210 → x ≠ 211 → x ≠ 212 → x ≠ 213 → I' x = I x) → (∀ k, k ≠ 23 → k ≠ 24 → I' 192 k = I 192 k) → Q (some (.int (f_try I J e a b (I 207)).1)) (n, I', J, R)) : q_Ex L (d + 6) 122 [.ref 192, .int (nI e), .int (nI b)] (n, I, J, R) Q := by
  refine q_in (x := q_m122) rfl rfl ?_
  show q_W L (d + 5) 122 q_m122 Q 0 [some (.ref 192), some (.int (nI e)), some (.int (nI b)), none, none, none, none, none, none] [] (n, I, J, R) 0 0
  rw [f_try_e hfm hfp hc hw hm hp hc12 hw2] at hQ
  refine q_k 1 ?_
  show q_W L (d + 5) 122 q_m122 Q 1 [some (.ref 192), some (.int (nI e)), some (.int (nI b)), none, none, none, none, none, none] [.ref 192] (n, I, J, R) 0 0
  refine q_gR (b := 208) rfl rfl (⟨Nat.lt_of_lt_of_le (by decide) hK.1, rfl⟩) (hK.2.1 192 15 208 rfl) ?_
  refine q_k 3 ?_
  show q_W L (d + 5) 122 q_m122 Q 8 [some (.ref 192), some (.int (nI e)), some (.int (nI b)), none, none, none, none, none, none] [.int ((nI e) + (nI 7)), .ref 208] (n, I, J, R) 0 0
  refine q_top (w := nI (e + 7)) (nI_add _ _) ?_
  refine q_lal (m := e + 7) rfl (⟨by decide, Nat.lt_of_lt_of_le (by decide) hK.1, rfl⟩) (by omega) (rfl) ?_
  refine q_k 3 ?_
  show q_W L (d + 5) 122 q_m122 Q 12 [some (.ref 192), some (.int (nI e)), some (.int (nI b)), some (.int ((J 208 (e + 7)).toInt32)), none, none, none, none, none] [.ref 192] (n, I, J, R) 0 0
  refine q_gR (b := 208) rfl rfl (⟨Nat.lt_of_lt_of_le (by decide) hK.1, rfl⟩) (hK.2.1 192 15 208 rfl) ?_
  refine q_k 3 ?_
  show q_W L (d + 5) 122 q_m122 Q 19 [some (.ref 192), some (.int (nI e)), some (.int (nI b)), some (.int ((J 208 (e + 7)).toInt32)), none, none, none, none, none] [.int ((nI e) + (nI 8)), .ref 208] (n, I, J, R) 0 0
  refine q_top (w := nI (e + 8)) (nI_add _ _) ?_
  refine q_lal (m := e + 8) rfl (⟨by decide, Nat.lt_of_lt_of_le (by decide) hK.1, rfl⟩) (by omega) (rfl) ?_
  refine q_k 1 ?_
  show q_W L (d + 5) 122 q_m122 Q 21 [some (.ref 192), some (.int (nI e)), some (.int (nI b)), some (.int ((J 208 (e + 7)).toInt32)), none, none, none, none, none] [.int ((J 208 (e + 8)).toInt32)] (n, I, J, R) 0 0
  refine q_top (w := nI m) (by rw [hfm]; exact lN_i _) ?_
  refine q_k 2 ?_
  show q_W L (d + 5) 122 q_m122 Q 24 [some (.ref 192), some (.int (nI e)), some (.int (nI b)), some (.int ((J 208 (e + 7)).toInt32)), some (.int (nI m)), none, none, none, none] [.ref 192] (n, I, J, R) 0 0
  refine q_gR (b := 208) rfl rfl (⟨Nat.lt_of_lt_of_le (by decide) hK.1, rfl⟩) (hK.2.1 192 15 208 rfl) ?_
  refine q_k 3 ?_
  show q_W L (d + 5) 122 q_m122 Q 31 [some (.ref 192), some (.int (nI e)), some (.int (nI b)), some (.int ((J 208 (e + 7)).toInt32)), some (.int (nI m)), none, none, none, none] [.int ((nI e) + (nI 9)), .ref 208] (n, I, J, R) 0 0
  refine q_top (w := nI (e + 9)) (nI_add _ _) ?_
  refine q_lal (m := e + 9) rfl (⟨by decide, Nat.lt_of_lt_of_le (by decide) hK.1, rfl⟩) (by omega) (rfl) ?_
  refine q_k 1 ?_
  show q_W L (d + 5) 122 q_m122 Q 33 [some (.ref 192), some (.int (nI e)), some (.int (nI b)), some (.int ((J 208 (e + 7)).toInt32)), some (.int (nI m)), none, none, none, none] [.int ((J 208 (e + 9)).toInt32)] (n, I, J, R) 0 0
  refine q_top (w := nI p) (by rw [hfp]; exact lN_i _) ?_
  refine q_k 3 ?_
  show q_W L (d + 5) 122 q_m122 Q 38 [some (.ref 192), some (.int (nI e)), some (.int (nI b)), some (.int ((J 208 (e + 7)).toInt32)), some (.int (nI m)), some (.int (nI p)), some (.int (nI 0)), none, none] [] (n, I, J, R) 0 0
  refine q_loop (σ := Unit) c (fun k _ => ∀ j, j < k → s_hit (J 208 (e + 7)).toInt32 m (I 207) j = false) (fun k _ => q_W L (d + 5) 122 q_m122 Q 38 [some (.ref 192), some (.int (nI e)), some (.int (nI b)), some (.int ((J 208 (e + 7)).toInt32)), some (.int (nI m)), some (.int (nI p)), some (.int (nI k)), none, none] [] (n, I, J, R) 0 0) ?_ ?_ 0 () (Nat.zero_le _) ?_
  · intro _ hN
    show q_W L (d + 5) 122 q_m122 Q 38 [some (.ref 192), some (.int (nI e)), some (.int (nI b)), some (.int ((J 208 (e + 7)).toInt32)), some (.int (nI m)), some (.int (nI p)), some (.int (nI c)), none, none] [] (n, I, J, R) 0 0
    have hfst : g_first (s_hit (J 208 (e + 7)).toInt32 m (I 207)) c = c := g_first_u (Nat.le_refl _) hN (fun z => absurd z (Nat.lt_irrefl _))
    refine q_k 2 ?_
    show q_W L (d + 5) 122 q_m122 Q 41 [some (.ref 192), some (.int (nI e)), some (.int (nI b)), some (.int ((J 208 (e + 7)).toInt32)), some (.int (nI m)), some (.int (nI p)), some (.int (nI c)), none, none] [.ref 192, .int (nI c)] (n, I, J, R) 0 0
    refine q_gR (b := 207) rfl rfl (⟨Nat.lt_of_lt_of_le (by decide) hK.1, rfl⟩) (hK.2.1 192 14 207 rfl) ?_
    refine q_k 1 ?_
    show q_W L (d + 5) 122 q_m122 Q 46 [some (.ref 192), some (.int (nI e)), some (.int (nI b)), some (.int ((J 208 (e + 7)).toInt32)), some (.int (nI m)), some (.int (nI p)), some (.int (nI c)), none, none] [.int (nI 9), .ref 207, .int (nI c)] (n, I, J, R) 0 0
    refine q_ial (m := 9) rfl (⟨by decide, Nat.lt_of_lt_of_le (by decide) hK.1, rfl⟩) (by decide) (rfl) ?_
    refine q_top (w := nI c) (hc) ?_
    refine q_one rfl rfl ?_
    show ((nI c) ≤ (nI c) → q_W L (d + 5) 122 q_m122 Q 144 [some (.ref 192), some (.int (nI e)), some (.int (nI b)), some (.int ((J 208 (e + 7)).toInt32)), some (.int (nI m)), some (.int (nI p)), some (.int (nI c)), none, none] [] (n, I, J, R) 0 0) ∧ (¬ (nI c) ≤ (nI c) → q_W L (d + 5) 122 q_m122 Q 50 [some (.ref 192), some (.int (nI e)), some (.int (nI b)), some (.int ((J 208 (e + 7)).toInt32)), some (.int (nI m)), some (.int (nI p)), some (.int (nI c)), none, none] [] (n, I, J, R) 0 0)
    refine ⟨fun _ => ?_, fun z => absurd (nI_le (Nat.le_refl _) (by omega)) z⟩
    refine q_k 2 ?_
    show q_W L (d + 5) 122 q_m122 Q 146 [some (.ref 192), some (.int (nI e)), some (.int (nI b)), some (.int ((J 208 (e + 7)).toInt32)), some (.int (nI m)), some (.int (nI p)), some (.int (nI c)), none, none] [.ref 192, .int ((J 208 (e + 7)).toInt32)] (n, I, J, R) 0 0
    refine q_gR (b := 207) rfl rfl (⟨Nat.lt_of_lt_of_le (by decide) hK.1, rfl⟩) (hK.2.1 192 14 207 rfl) ?_
    refine q_k 1 ?_
    show q_W L (d + 5) 122 q_m122 Q 150 [some (.ref 192), some (.int (nI e)), some (.int (nI b)), some (.int ((J 208 (e + 7)).toInt32)), some (.int (nI m)), some (.int (nI p)), some (.int (nI c)), none, none] [.int (nI 1), .ref 207, .int ((J 208 (e + 7)).toInt32)] (n, I, J, R) 0 0
    refine q_ial (m := 1) rfl (⟨by decide, Nat.lt_of_lt_of_le (by decide) hK.1, rfl⟩) (by decide) (rfl) ?_
    refine q_one rfl rfl ?_
    show (((J 208 (e + 7)).toInt32) = (I 207 1) → q_W L (d + 5) 122 q_m122 Q 205 [some (.ref 192), some (.int (nI e)), some (.int (nI b)), some (.int ((J 208 (e + 7)).toInt32)), some (.int (nI m)), some (.int (nI p)), some (.int (nI c)), none, none] [] (n, I, J, R) 0 0) ∧ (¬ ((J 208 (e + 7)).toInt32) = (I 207 1) → q_W L (d + 5) 122 q_m122 Q 154 [some (.ref 192), some (.int (nI e)), some (.int (nI b)), some (.int ((J 208 (e + 7)).toInt32)), some (.int (nI m)), some (.int (nI p)), some (.int (nI c)), none, none] [] (n, I, J, R) 0 0)
    refine ⟨fun h151 => ?_, fun h151 => ?_⟩
    · skip
      have hS : s_trial (J 208 (e + 7)).toInt32 m p c w (g_nx I b) (g_tg (J 208) e (I 197 (2 * a + 1)) (I 197 (2 * b + 1))) (J 208 (e + 11)) (I 207) = s_end m c w (g_tg (J 208) e (I 197 (2 * a + 1)) (I 197 (2 * b + 1))) (J 208 (e + 11)) false (I 207) := by unfold s_trial; rw [hfst, if_neg (Nat.lt_irrefl _)]; unfold s_mid; rw [if_pos h151]
      rw [hS] at hQ
      refine q_fg 6 ?_
      refine m_trial_end (tu := false) hK he hfa hfb ha hb hm hc (by omega) hw hw2 (fun I8 g1 g2 => ?_)
      exact hQ I8 (fun z => ⟨(g1 z).1, (g1 z).2, by rw [s_end_tu, if_neg (by decide)]; exact g2 196 (by decide) (by decide) (by decide) (by decide) (by decide) (by decide)⟩) (fun j _ => by rw [g2 196 (by decide) (by decide) (by decide) (by decide) (by decide) (by decide)]) (fun y _ _ h7 h9 h10 h11 h12 h13 => g2 y h7 h9 h10 h11 h12 h13) (fun k _ _ => by rw [g2 192 (by decide) (by decide) (by decide) (by decide) (by decide) (by decide)])
    · skip
      refine q_k 1 ?_
      show q_W L (d + 5) 122 q_m122 Q 155 [some (.ref 192), some (.int (nI e)), some (.int (nI b)), some (.int ((J 208 (e + 7)).toInt32)), some (.int (nI m)), some (.int (nI p)), some (.int (nI c)), none, none] [.ref 192] (n, I, J, R) 0 0
      refine q_gR (b := 207) rfl rfl (⟨Nat.lt_of_lt_of_le (by decide) hK.1, rfl⟩) (hK.2.1 192 14 207 rfl) ?_
      refine q_k 1 ?_
      show q_W L (d + 5) 122 q_m122 Q 159 [some (.ref 192), some (.int (nI e)), some (.int (nI b)), some (.int ((J 208 (e + 7)).toInt32)), some (.int (nI m)), some (.int (nI p)), some (.int (nI c)), none, none] [.int (nI 5), .ref 207] (n, I, J, R) 0 0
      refine q_ial (m := 5) rfl (⟨by decide, Nat.lt_of_lt_of_le (by decide) hK.1, rfl⟩) (by decide) (rfl) ?_
      refine q_k 1 ?_
      show q_W L (d + 5) 122 q_m122 Q 161 [some (.ref 192), some (.int (nI e)), some (.int (nI b)), some (.int ((J 208 (e + 7)).toInt32)), some (.int (nI m)), some (.int (nI p)), some (.int (nI c)), none, none] [.int (nI 1), .int (I 207 5)] (n, I, J, R) 0 0
      refine q_one rfl rfl ?_
      show (¬ (I 207 5) = (nI 1) → q_W L (d + 5) 122 q_m122 Q 199 [some (.ref 192), some (.int (nI e)), some (.int (nI b)), some (.int ((J 208 (e + 7)).toInt32)), some (.int (nI m)), some (.int (nI p)), some (.int (nI c)), none, none] [] (n, I, J, R) 0 0) ∧ ((I 207 5) = (nI 1) → q_W L (d + 5) 122 q_m122 Q 164 [some (.ref 192), some (.int (nI e)), some (.int (nI b)), some (.int ((J 208 (e + 7)).toInt32)), some (.int (nI m)), some (.int (nI p)), some (.int (nI c)), none, none] [] (n, I, J, R) 0 0)
      refine ⟨fun h161 => ?_, fun h161 => ?_⟩
      · skip
        refine q_k 3 ?_
        show q_W L (d + 5) 122 q_m122 Q 202 [some (.ref 192), some (.int (nI e)), some (.int (nI b)), some (.int ((J 208 (e + 7)).toInt32)), some (.int (nI m)), some (.int (nI p)), some (.int (nI c)), none, none] [.int (nI b), .int ((J 208 (e + 7)).toInt32), .ref 192] (n, I, J, R) 0 0
        refine q_cv (as := [.int ((J 208 (e + 7)).toInt32), .int (nI b)]) (rs := []) rfl rfl rfl (⟨Nat.lt_of_lt_of_le (by decide) hK.1, rfl⟩) rfl rfl ?_
        refine m_turned (hK) (hb) (fun I3 h3 c3 f3 e3 => ?_)
        show q_W L (d + 5) 122 q_m122 Q 205 [some (.ref 192), some (.int (nI e)), some (.int (nI b)), some (.int ((J 208 (e + 7)).toInt32)), some (.int (nI m)), some (.int (nI p)), some (.int (nI c)), none, none] [] (n, I3, J, R) 0 0
        have hS : s_trial (J 208 (e + 7)).toInt32 m p c w (g_nx I b) (g_tg (J 208) e (I 197 (2 * a + 1)) (I 197 (2 * b + 1))) (J 208 (e + 11)) (I 207) = s_end m c 0 (g_tg (J 208) e (I3 197 (2 * a + 1)) (I3 197 (2 * b + 1))) (J 208 (e + 11)) true (I3 207) := by rw [f3 197 (by decide) (by decide) (by decide) (by decide) (by decide) (by decide) (by decide), h3]; unfold s_trial; rw [hfst, if_neg (Nat.lt_irrefl _)]; unfold s_mid; rw [if_neg h151, if_neg (fun z => h161 z.1)]
        rw [hS] at hQ
        refine q_fg 6 ?_
        refine m_trial_end (tu := true) (w := 0) (q_K0_to hK (by rw [f3 0 (by decide) (by decide) (by decide) (by decide) (by decide) (by decide) (by decide)]) (by rw [f3 1 (by decide) (by decide) (by decide) (by decide) (by decide) (by decide) (by decide)])) he hfa hfb ha hb hm (by rw [h3, s_turn_9]; exact hc) (by omega) (by rw [h3, s_turn_7]) (by omega) (fun I8 g1 g2 => ?_)
        exact hQ I8 (fun z => ⟨(g1 z).1, (g1 z).2, by rw [s_end_tu, if_pos rfl, g2 196 (by decide) (by decide) (by decide) (by decide) (by decide) (by decide), c3]⟩) (fun j hj => by rw [g2 196 (by decide) (by decide) (by decide) (by decide) (by decide) (by decide), c3, va_up_ne _ _ hj]) (fun y h2' h6 h7 h9 h10 h11 h12 h13 => (g2 y h7 h9 h10 h11 h12 h13).trans (f3 y h2' h6 h7 h9 h10 h11 h12)) (fun k h23 h24 => by rw [g2 192 (by decide) (by decide) (by decide) (by decide) (by decide) (by decide), e3 k h23 h24])
      · skip
        refine q_k 2 ?_
        show q_W L (d + 5) 122 q_m122 Q 167 [some (.ref 192), some (.int (nI e)), some (.int (nI b)), some (.int ((J 208 (e + 7)).toInt32)), some (.int (nI m)), some (.int (nI p)), some (.int (nI c)), none, none] [.ref 192, .int (nI p)] (n, I, J, R) 0 0
        refine q_gR (b := 207) rfl rfl (⟨Nat.lt_of_lt_of_le (by decide) hK.1, rfl⟩) (hK.2.1 192 14 207 rfl) ?_
        refine q_k 1 ?_
        show q_W L (d + 5) 122 q_m122 Q 172 [some (.ref 192), some (.int (nI e)), some (.int (nI b)), some (.int ((J 208 (e + 7)).toInt32)), some (.int (nI m)), some (.int (nI p)), some (.int (nI c)), none, none] [.int (nI 7), .ref 207, .int (nI p)] (n, I, J, R) 0 0
        refine q_ial (m := 7) rfl (⟨by decide, Nat.lt_of_lt_of_le (by decide) hK.1, rfl⟩) (by decide) (rfl) ?_
        refine q_top (w := nI w) (hw) ?_
        refine q_one rfl rfl ?_
        show ((nI p) ≤ (nI w) → q_W L (d + 5) 122 q_m122 Q 199 [some (.ref 192), some (.int (nI e)), some (.int (nI b)), some (.int ((J 208 (e + 7)).toInt32)), some (.int (nI m)), some (.int (nI p)), some (.int (nI c)), none, none] [] (n, I, J, R) 0 0) ∧ (¬ (nI p) ≤ (nI w) → q_W L (d + 5) 122 q_m122 Q 176 [some (.ref 192), some (.int (nI e)), some (.int (nI b)), some (.int ((J 208 (e + 7)).toInt32)), some (.int (nI m)), some (.int (nI p)), some (.int (nI c)), none, none] [] (n, I, J, R) 0 0)
        refine ⟨fun h173 => ?_, fun h173 => ?_⟩
        · skip
          have hpw : ¬ w < p := fun z => absurd h173 (nI_ge z (by omega))
          refine q_k 3 ?_
          show q_W L (d + 5) 122 q_m122 Q 202 [some (.ref 192), some (.int (nI e)), some (.int (nI b)), some (.int ((J 208 (e + 7)).toInt32)), some (.int (nI m)), some (.int (nI p)), some (.int (nI c)), none, none] [.int (nI b), .int ((J 208 (e + 7)).toInt32), .ref 192] (n, I, J, R) 0 0
          refine q_cv (as := [.int ((J 208 (e + 7)).toInt32), .int (nI b)]) (rs := []) rfl rfl rfl (⟨Nat.lt_of_lt_of_le (by decide) hK.1, rfl⟩) rfl rfl ?_
          refine m_turned (hK) (hb) (fun I3 h3 c3 f3 e3 => ?_)
          show q_W L (d + 5) 122 q_m122 Q 205 [some (.ref 192), some (.int (nI e)), some (.int (nI b)), some (.int ((J 208 (e + 7)).toInt32)), some (.int (nI m)), some (.int (nI p)), some (.int (nI c)), none, none] [] (n, I3, J, R) 0 0
          have hS : s_trial (J 208 (e + 7)).toInt32 m p c w (g_nx I b) (g_tg (J 208) e (I 197 (2 * a + 1)) (I 197 (2 * b + 1))) (J 208 (e + 11)) (I 207) = s_end m c 0 (g_tg (J 208) e (I3 197 (2 * a + 1)) (I3 197 (2 * b + 1))) (J 208 (e + 11)) true (I3 207) := by rw [f3 197 (by decide) (by decide) (by decide) (by decide) (by decide) (by decide) (by decide), h3]; unfold s_trial; rw [hfst, if_neg (Nat.lt_irrefl _)]; unfold s_mid; rw [if_neg h151, if_neg (fun z => hpw z.2)]
          rw [hS] at hQ
          refine q_fg 6 ?_
          refine m_trial_end (tu := true) (w := 0) (q_K0_to hK (by rw [f3 0 (by decide) (by decide) (by decide) (by decide) (by decide) (by decide) (by decide)]) (by rw [f3 1 (by decide) (by decide) (by decide) (by decide) (by decide) (by decide) (by decide)])) he hfa hfb ha hb hm (by rw [h3, s_turn_9]; exact hc) (by omega) (by rw [h3, s_turn_7]) (by omega) (fun I8 g1 g2 => ?_)
          exact hQ I8 (fun z => ⟨(g1 z).1, (g1 z).2, by rw [s_end_tu, if_pos rfl, g2 196 (by decide) (by decide) (by decide) (by decide) (by decide) (by decide), c3]⟩) (fun j hj => by rw [g2 196 (by decide) (by decide) (by decide) (by decide) (by decide) (by decide), c3, va_up_ne _ _ hj]) (fun y h2' h6 h7 h9 h10 h11 h12 h13 => (g2 y h7 h9 h10 h11 h12 h13).trans (f3 y h2' h6 h7 h9 h10 h11 h12)) (fun k h23 h24 => by rw [g2 192 (by decide) (by decide) (by decide) (by decide) (by decide) (by decide), e3 k h23 h24])
        · skip
          have hpw : w < p := by rcases Nat.lt_or_ge w p with h | h; exact h; exact absurd (nI_le h (by omega)) h173
          refine q_k 2 ?_
          show q_W L (d + 5) 122 q_m122 Q 179 [some (.ref 192), some (.int (nI e)), some (.int (nI b)), some (.int ((J 208 (e + 7)).toInt32)), some (.int (nI m)), some (.int (nI p)), some (.int (nI c)), none, none] [.ref 192, .int (nI p)] (n, I, J, R) 0 0
          refine q_gR (b := 207) rfl rfl (⟨Nat.lt_of_lt_of_le (by decide) hK.1, rfl⟩) (hK.2.1 192 14 207 rfl) ?_
          refine q_k 1 ?_
          show q_W L (d + 5) 122 q_m122 Q 184 [some (.ref 192), some (.int (nI e)), some (.int (nI b)), some (.int ((J 208 (e + 7)).toInt32)), some (.int (nI m)), some (.int (nI p)), some (.int (nI c)), none, none] [.int (nI 7), .ref 207, .int (nI p)] (n, I, J, R) 0 0
          refine q_ial (m := 7) rfl (⟨by decide, Nat.lt_of_lt_of_le (by decide) hK.1, rfl⟩) (by decide) (rfl) ?_
          refine q_top (w := nI w) (hw) ?_
          refine q_k 1 ?_
          show q_W L (d + 5) 122 q_m122 Q 186 [some (.ref 192), some (.int (nI e)), some (.int (nI b)), some (.int ((J 208 (e + 7)).toInt32)), some (.int (nI m)), some (.int (nI p)), some (.int (nI c)), none, none] [.int ((nI p) - (nI w))] (n, I, J, R) 0 0
          refine q_top (w := nI (p - w)) (pk_sub (by omega)) ?_
          refine q_k 1 ?_
          show q_W L (d + 5) 122 q_m122 Q 188 [some (.ref 192), some (.int (nI e)), some (.int (nI b)), some (.int ((J 208 (e + 7)).toInt32)), some (.int (nI m)), some (.int (nI p)), some (.int (nI c)), none, none] [.int (nI 8), .int (nI (p - w))] (n, I, J, R) 0 0
          refine q_one rfl rfl ?_
          show ((nI (p - w)) ≤ (nI 8) → q_W L (d + 5) 122 q_m122 Q 193 [some (.ref 192), some (.int (nI e)), some (.int (nI b)), some (.int ((J 208 (e + 7)).toInt32)), some (.int (nI m)), some (.int (nI p)), some (.int (nI c)), none, none] [] (n, I, J, R) 0 0) ∧ (¬ (nI (p - w)) ≤ (nI 8) → q_W L (d + 5) 122 q_m122 Q 191 [some (.ref 192), some (.int (nI e)), some (.int (nI b)), some (.int ((J 208 (e + 7)).toInt32)), some (.int (nI m)), some (.int (nI p)), some (.int (nI c)), none, none] [] (n, I, J, R) 0 0)
          refine ⟨fun h188 => ?_, fun h188 => ?_⟩
          · skip
            have h8 : p - w ≤ 8 := (nI_leI (by omega) (by decide)).mp h188
            refine q_k 2 ?_
            show q_W L (d + 5) 122 q_m122 Q 196 [some (.ref 192), some (.int (nI e)), some (.int (nI b)), some (.int ((J 208 (e + 7)).toInt32)), some (.int (nI m)), some (.int (nI p)), some (.int (nI c)), none, none] [.int (nI p), .ref 192] (n, I, J, R) 0 0
            refine q_cv (as := [.int (nI p)]) (rs := []) rfl rfl rfl (⟨Nat.lt_of_lt_of_le (by decide) hK.1, rfl⟩) rfl rfl ?_
            refine m_skip (hK) (hc) (hw) (by omega) (by omega) (by omega) (fun I2 h2 f2 => ?_)
            show q_W L (d + 5) 122 q_m122 Q 199 [some (.ref 192), some (.int (nI e)), some (.int (nI b)), some (.int ((J 208 (e + 7)).toInt32)), some (.int (nI m)), some (.int (nI p)), some (.int (nI c)), none, none] [] (n, I2, J, R) 0 0
            refine q_k 3 ?_
            show q_W L (d + 5) 122 q_m122 Q 202 [some (.ref 192), some (.int (nI e)), some (.int (nI b)), some (.int ((J 208 (e + 7)).toInt32)), some (.int (nI m)), some (.int (nI p)), some (.int (nI c)), none, none] [.int (nI b), .int ((J 208 (e + 7)).toInt32), .ref 192] (n, I2, J, R) 0 0
            refine q_cv (as := [.int ((J 208 (e + 7)).toInt32), .int (nI b)]) (rs := []) rfl rfl rfl (⟨Nat.lt_of_lt_of_le (by decide) hK.1, rfl⟩) rfl rfl ?_
            refine m_turned (q_K0_to hK (f2 0 (by decide) (by decide) (by decide) (by decide) (by decide)) (f2 1 (by decide) (by decide) (by decide) (by decide) (by decide))) (hb) (fun I3 h3 c3 f3 e3 => ?_)
            show q_W L (d + 5) 122 q_m122 Q 205 [some (.ref 192), some (.int (nI e)), some (.int (nI b)), some (.int ((J 208 (e + 7)).toInt32)), some (.int (nI m)), some (.int (nI p)), some (.int (nI c)), none, none] [] (n, I3, J, R) 0 0
            have hnx : g_nx I2 b = g_nx I b := by unfold g_nx; rw [f2 194 (by decide) (by decide) (by decide) (by decide) (by decide), f2 195 (by decide) (by decide) (by decide) (by decide) (by decide), f2 196 (by decide) (by decide) (by decide) (by decide) (by decide)]
            have hS : s_trial (J 208 (e + 7)).toInt32 m p c w (g_nx I b) (g_tg (J 208) e (I 197 (2 * a + 1)) (I 197 (2 * b + 1))) (J 208 (e + 11)) (I 207) = s_end m (c + (p - w)) 0 (g_tg (J 208) e (I3 197 (2 * a + 1)) (I3 197 (2 * b + 1))) (J 208 (e + 11)) true (I3 207) := by rw [f3 197 (by decide) (by decide) (by decide) (by decide) (by decide) (by decide) (by decide), f2 197 (by decide) (by decide) (by decide) (by decide) (by decide), h3, hnx, h2]; unfold s_trial; rw [hfst, if_neg (Nat.lt_irrefl _)]; unfold s_mid; rw [if_neg h151, if_pos ⟨h161, hpw⟩, if_neg (show ¬ 8 < p - w by omega)]
            rw [hS] at hQ
            refine q_fg 6 ?_
            refine m_trial_end (tu := true) (w := 0) (q_K0_to hK (by rw [f3 0 (by decide) (by decide) (by decide) (by decide) (by decide) (by decide) (by decide), f2 0 (by decide) (by decide) (by decide) (by decide) (by decide)]) (by rw [f3 1 (by decide) (by decide) (by decide) (by decide) (by decide) (by decide) (by decide), f2 1 (by decide) (by decide) (by decide) (by decide) (by decide)])) he hfa hfb ha hb hm (by rw [h3, s_turn_9, h2, s_sk_9 hc]) (by omega) (by rw [h3, s_turn_7]) (by omega) (fun I8 g1 g2 => ?_)
            exact hQ I8 (fun z => ⟨(g1 z).1, (g1 z).2, by rw [s_end_tu, if_pos rfl, g2 196 (by decide) (by decide) (by decide) (by decide) (by decide) (by decide), c3, f2 196 (by decide) (by decide) (by decide) (by decide) (by decide)]⟩) (fun j hj => by rw [g2 196 (by decide) (by decide) (by decide) (by decide) (by decide) (by decide), c3, f2 196 (by decide) (by decide) (by decide) (by decide) (by decide), va_up_ne _ _ hj]) (fun y h2' h6 h7 h9 h10 h11 h12 h13 => (g2 y h7 h9 h10 h11 h12 h13).trans ((f3 y h2' h6 h7 h9 h10 h11 h12).trans (f2 y h7 h9 h10 h11 h12))) (fun k h23 h24 => by rw [g2 192 (by decide) (by decide) (by decide) (by decide) (by decide) (by decide), e3 k h23 h24, f2 192 (by decide) (by decide) (by decide) (by decide) (by decide)])
          · skip
            have h8 : 8 < p - w := by rcases Nat.lt_or_ge 8 (p - w) with h | h; exact h; exact absurd (nI_le h (by decide)) h188
            refine q_k 1 ?_
            show q_W L (d + 5) 122 q_m122 Q 192 [some (.ref 192), some (.int (nI e)), some (.int (nI b)), some (.int ((J 208 (e + 7)).toInt32)), some (.int (nI m)), some (.int (nI p)), some (.int (nI c)), none, none] [.int (nI 2)] (n, I, J, R) 0 0
            refine q_one rfl rfl ?_
            show Q (some (.int (nI 2))) (n, I, J, R)
            have hS : s_trial (J 208 (e + 7)).toInt32 m p c w (g_nx I b) (g_tg (J 208) e (I 197 (2 * a + 1)) (I 197 (2 * b + 1))) (J 208 (e + 11)) (I 207) = (nI 2, I 207, I 207, false) := by unfold s_trial; rw [hfst, if_neg (Nat.lt_irrefl _)]; unfold s_mid; rw [if_neg h151, if_pos ⟨h161, hpw⟩, if_pos h8]
            rw [hS] at hQ
            exact hQ I (fun z => absurd (show nI 2 = nI 0 from z) (by decide)) (fun _ _ => rfl) (fun _ _ _ _ _ _ _ _ _ => rfl) (fun _ _ _ => rfl)
  · intro k _ hk hP ih
    show q_W L (d + 5) 122 q_m122 Q 38 [some (.ref 192), some (.int (nI e)), some (.int (nI b)), some (.int ((J 208 (e + 7)).toInt32)), some (.int (nI m)), some (.int (nI p)), some (.int (nI k)), none, none] [] (n, I, J, R) 0 0
    refine q_k 2 ?_
    show q_W L (d + 5) 122 q_m122 Q 41 [some (.ref 192), some (.int (nI e)), some (.int (nI b)), some (.int ((J 208 (e + 7)).toInt32)), some (.int (nI m)), some (.int (nI p)), some (.int (nI k)), none, none] [.ref 192, .int (nI k)] (n, I, J, R) 0 0
    refine q_gR (b := 207) rfl rfl (⟨Nat.lt_of_lt_of_le (by decide) hK.1, rfl⟩) (hK.2.1 192 14 207 rfl) ?_
    refine q_k 1 ?_
    show q_W L (d + 5) 122 q_m122 Q 46 [some (.ref 192), some (.int (nI e)), some (.int (nI b)), some (.int ((J 208 (e + 7)).toInt32)), some (.int (nI m)), some (.int (nI p)), some (.int (nI k)), none, none] [.int (nI 9), .ref 207, .int (nI k)] (n, I, J, R) 0 0
    refine q_ial (m := 9) rfl (⟨by decide, Nat.lt_of_lt_of_le (by decide) hK.1, rfl⟩) (by decide) (rfl) ?_
    refine q_top (w := nI c) (hc) ?_
    refine q_one rfl rfl ?_
    show ((nI c) ≤ (nI k) → q_W L (d + 5) 122 q_m122 Q 144 [some (.ref 192), some (.int (nI e)), some (.int (nI b)), some (.int ((J 208 (e + 7)).toInt32)), some (.int (nI m)), some (.int (nI p)), some (.int (nI k)), none, none] [] (n, I, J, R) 0 0) ∧ (¬ (nI c) ≤ (nI k) → q_W L (d + 5) 122 q_m122 Q 50 [some (.ref 192), some (.int (nI e)), some (.int (nI b)), some (.int ((J 208 (e + 7)).toInt32)), some (.int (nI m)), some (.int (nI p)), some (.int (nI k)), none, none] [] (n, I, J, R) 0 0)
    refine ⟨fun z => absurd z (nI_ge hk (by omega)), fun _ => ?_⟩
    refine q_k 4 ?_
    show q_W L (d + 5) 122 q_m122 Q 57 [some (.ref 192), some (.int (nI e)), some (.int (nI b)), some (.int ((J 208 (e + 7)).toInt32)), some (.int (nI m)), some (.int (nI p)), some (.int (nI k)), none, none] [.int ((nI 10) * (nI k)), .int (nI 38)] (n, I, J, R) 0 0
    refine q_top (w := nI (10 * k)) (pk_mul _ _) ?_
    refine q_k 1 ?_
    show q_W L (d + 5) 122 q_m122 Q 58 [some (.ref 192), some (.int (nI e)), some (.int (nI b)), some (.int ((J 208 (e + 7)).toInt32)), some (.int (nI m)), some (.int (nI p)), some (.int (nI k)), none, none] [.int ((nI 38) + (nI (10 * k)))] (n, I, J, R) 0 0
    refine q_top (w := nI (38 + (10 * k))) (nI_add _ _) ?_
    refine q_k 2 ?_
    show q_W L (d + 5) 122 q_m122 Q 61 [some (.ref 192), some (.int (nI e)), some (.int (nI b)), some (.int ((J 208 (e + 7)).toInt32)), some (.int (nI m)), some (.int (nI p)), some (.int (nI k)), some (.int (nI (38 + (10 * k)))), none] [.ref 192] (n, I, J, R) 0 0
    refine q_gR (b := 207) rfl rfl (⟨Nat.lt_of_lt_of_le (by decide) hK.1, rfl⟩) (hK.2.1 192 14 207 rfl) ?_
    refine q_k 1 ?_
    show q_W L (d + 5) 122 q_m122 Q 66 [some (.ref 192), some (.int (nI e)), some (.int (nI b)), some (.int ((J 208 (e + 7)).toInt32)), some (.int (nI m)), some (.int (nI p)), some (.int (nI k)), some (.int (nI (38 + (10 * k)))), none] [.int (nI (38 + (10 * k))), .ref 207] (n, I, J, R) 0 0
    refine q_ial (m := 38 + (10 * k)) rfl (⟨by decide, Nat.lt_of_lt_of_le (by decide) hK.1, rfl⟩) (by omega) (rfl) ?_
    refine q_k 1 ?_
    show q_W L (d + 5) 122 q_m122 Q 68 [some (.ref 192), some (.int (nI e)), some (.int (nI b)), some (.int ((J 208 (e + 7)).toInt32)), some (.int (nI m)), some (.int (nI p)), some (.int (nI k)), some (.int (nI (38 + (10 * k)))), none] [.int ((J 208 (e + 7)).toInt32), .int (I 207 (38 + (10 * k)))] (n, I, J, R) 0 0
    refine q_one rfl rfl ?_
    show (¬ (I 207 (38 + (10 * k))) = ((J 208 (e + 7)).toInt32) → q_W L (d + 5) 122 q_m122 Q 138 [some (.ref 192), some (.int (nI e)), some (.int (nI b)), some (.int ((J 208 (e + 7)).toInt32)), some (.int (nI m)), some (.int (nI p)), some (.int (nI k)), some (.int (nI (38 + (10 * k)))), none] [] (n, I, J, R) 0 0) ∧ ((I 207 (38 + (10 * k))) = ((J 208 (e + 7)).toInt32) → q_W L (d + 5) 122 q_m122 Q 71 [some (.ref 192), some (.int (nI e)), some (.int (nI b)), some (.int ((J 208 (e + 7)).toInt32)), some (.int (nI m)), some (.int (nI p)), some (.int (nI k)), some (.int (nI (38 + (10 * k)))), none] [] (n, I, J, R) 0 0)
    refine ⟨fun h68 => ?_, fun h68 => ?_⟩
    · skip
      have hx : s_hit (J 208 (e + 7)).toInt32 m (I 207) k = false := decide_eq_false (fun z => h68 z.1)
      refine q_k 1 ?_
      show q_W L (d + 5) 122 q_m122 Q 141 [some (.ref 192), some (.int (nI e)), some (.int (nI b)), some (.int ((J 208 (e + 7)).toInt32)), some (.int (nI m)), some (.int (nI p)), some (.int ((nI k) + nI 1)), some (.int (nI (38 + (10 * k)))), none] [] (n, I, J, R) 0 0
      rw [show (nI k) + nI 1 = nI (k + 1) from nI_add _ _]
      refine q_k 1 ?_
      show q_W L (d + 5) 122 q_m122 Q 38 [some (.ref 192), some (.int (nI e)), some (.int (nI b)), some (.int ((J 208 (e + 7)).toInt32)), some (.int (nI m)), some (.int (nI p)), some (.int (nI (k + 1))), some (.int (nI (38 + (10 * k)))), none] [] (n, I, J, R) 0 0
      refine q_fg 7 ?_
      refine ih () (fun j hj => ?_)
      by_cases e : j = k
      · subst e; exact hx
      · exact hP j (by omega)
    · skip
      refine q_k 1 ?_
      show q_W L (d + 5) 122 q_m122 Q 72 [some (.ref 192), some (.int (nI e)), some (.int (nI b)), some (.int ((J 208 (e + 7)).toInt32)), some (.int (nI m)), some (.int (nI p)), some (.int (nI k)), some (.int (nI (38 + (10 * k)))), none] [.ref 192] (n, I, J, R) 0 0
      refine q_gR (b := 207) rfl rfl (⟨Nat.lt_of_lt_of_le (by decide) hK.1, rfl⟩) (hK.2.1 192 14 207 rfl) ?_
      refine q_k 3 ?_
      show q_W L (d + 5) 122 q_m122 Q 79 [some (.ref 192), some (.int (nI e)), some (.int (nI b)), some (.int ((J 208 (e + 7)).toInt32)), some (.int (nI m)), some (.int (nI p)), some (.int (nI k)), some (.int (nI (38 + (10 * k)))), none] [.int ((nI (38 + (10 * k))) + (nI 1)), .ref 207] (n, I, J, R) 0 0
      refine q_top (w := nI (38 + (10 * k) + 1)) (nI_add _ _) ?_
      refine q_ial (m := 38 + (10 * k) + 1) rfl (⟨by decide, Nat.lt_of_lt_of_le (by decide) hK.1, rfl⟩) (by omega) (rfl) ?_
      refine q_k 1 ?_
      show q_W L (d + 5) 122 q_m122 Q 82 [some (.ref 192), some (.int (nI e)), some (.int (nI b)), some (.int ((J 208 (e + 7)).toInt32)), some (.int (nI m)), some (.int (nI p)), some (.int (nI k)), some (.int (nI (38 + (10 * k)))), none] [.int (nI m), .int (I 207 (38 + (10 * k) + 1))] (n, I, J, R) 0 0
      refine q_one rfl rfl ?_
      show (¬ (I 207 (38 + (10 * k) + 1)) = (nI m) → q_W L (d + 5) 122 q_m122 Q 138 [some (.ref 192), some (.int (nI e)), some (.int (nI b)), some (.int ((J 208 (e + 7)).toInt32)), some (.int (nI m)), some (.int (nI p)), some (.int (nI k)), some (.int (nI (38 + (10 * k)))), none] [] (n, I, J, R) 0 0) ∧ ((I 207 (38 + (10 * k) + 1)) = (nI m) → q_W L (d + 5) 122 q_m122 Q 85 [some (.ref 192), some (.int (nI e)), some (.int (nI b)), some (.int ((J 208 (e + 7)).toInt32)), some (.int (nI m)), some (.int (nI p)), some (.int (nI k)), some (.int (nI (38 + (10 * k)))), none] [] (n, I, J, R) 0 0)
      refine ⟨fun h82 => ?_, fun h82 => ?_⟩
      · skip
        have hx : s_hit (J 208 (e + 7)).toInt32 m (I 207) k = false := decide_eq_false (fun z => h82 z.2)
        refine q_k 1 ?_
        show q_W L (d + 5) 122 q_m122 Q 141 [some (.ref 192), some (.int (nI e)), some (.int (nI b)), some (.int ((J 208 (e + 7)).toInt32)), some (.int (nI m)), some (.int (nI p)), some (.int ((nI k) + nI 1)), some (.int (nI (38 + (10 * k)))), none] [] (n, I, J, R) 0 0
        rw [show (nI k) + nI 1 = nI (k + 1) from nI_add _ _]
        refine q_k 1 ?_
        show q_W L (d + 5) 122 q_m122 Q 38 [some (.ref 192), some (.int (nI e)), some (.int (nI b)), some (.int ((J 208 (e + 7)).toInt32)), some (.int (nI m)), some (.int (nI p)), some (.int (nI (k + 1))), some (.int (nI (38 + (10 * k)))), none] [] (n, I, J, R) 0 0
        refine q_fg 7 ?_
        refine ih () (fun j hj => ?_)
        by_cases e : j = k
        · subst e; exact hx
        · exact hP j (by omega)
      · skip
        have hx : s_hit (J 208 (e + 7)).toInt32 m (I 207) k = true := decide_eq_true ⟨h68, h82⟩
        have hfst : g_first (s_hit (J 208 (e + 7)).toInt32 m (I 207)) c = k := g_first_u (by omega) hP (fun _ => hx)
        refine q_k 2 ?_
        show q_W L (d + 5) 122 q_m122 Q 88 [some (.ref 192), some (.int (nI e)), some (.int (nI b)), some (.int ((J 208 (e + 7)).toInt32)), some (.int (nI m)), some (.int (nI p)), some (.int (nI k)), some (.int (nI (38 + (10 * k)))), some (.int (nI 0))] [] (n, I, J, R) 0 0
        refine q_loop (σ := q_I) 8 (fun y I2 => (∀ i, i < y → I2 212 i = I 207 (40 + 10 * k + i)) ∧ ∀ x, x ≠ 212 → I2 x = I x) (fun y I2 => q_W L (d + 5) 122 q_m122 Q 88 [some (.ref 192), some (.int (nI e)), some (.int (nI b)), some (.int ((J 208 (e + 7)).toInt32)), some (.int (nI m)), some (.int (nI p)), some (.int (nI k)), some (.int (nI (38 + (10 * k)))), some (.int (nI y))] [] (n, I2, J, R) 0 0) ?_ ?_ 0 I (Nat.zero_le _) ?_
        · intro I2 hI2
          show q_W L (d + 5) 122 q_m122 Q 88 [some (.ref 192), some (.int (nI e)), some (.int (nI b)), some (.int ((J 208 (e + 7)).toInt32)), some (.int (nI m)), some (.int (nI p)), some (.int (nI k)), some (.int (nI (38 + (10 * k)))), some (.int (nI 8))] [] (n, I2, J, R) 0 0
          refine q_k 2 ?_
          show q_W L (d + 5) 122 q_m122 Q 92 [some (.ref 192), some (.int (nI e)), some (.int (nI b)), some (.int ((J 208 (e + 7)).toInt32)), some (.int (nI m)), some (.int (nI p)), some (.int (nI k)), some (.int (nI (38 + (10 * k)))), some (.int (nI 8))] [.int (nI 8), .int (nI 8)] (n, I2, J, R) 0 0
          refine q_one rfl rfl ?_
          show ((nI 8) ≤ (nI 8) → q_W L (d + 5) 122 q_m122 Q 120 [some (.ref 192), some (.int (nI e)), some (.int (nI b)), some (.int ((J 208 (e + 7)).toInt32)), some (.int (nI m)), some (.int (nI p)), some (.int (nI k)), some (.int (nI (38 + (10 * k)))), some (.int (nI 8))] [] (n, I2, J, R) 0 0) ∧ (¬ (nI 8) ≤ (nI 8) → q_W L (d + 5) 122 q_m122 Q 95 [some (.ref 192), some (.int (nI e)), some (.int (nI b)), some (.int ((J 208 (e + 7)).toInt32)), some (.int (nI m)), some (.int (nI p)), some (.int (nI k)), some (.int (nI (38 + (10 * k)))), some (.int (nI 8))] [] (n, I2, J, R) 0 0)
          refine ⟨fun _ => ?_, fun z => absurd (nI_le (Nat.le_refl _) (by decide)) z⟩
          refine q_k 2 ?_
          show q_W L (d + 5) 122 q_m122 Q 122 [some (.ref 192), some (.int (nI e)), some (.int (nI b)), some (.int ((J 208 (e + 7)).toInt32)), some (.int (nI m)), some (.int (nI p)), some (.int (nI k)), some (.int (nI (38 + (10 * k)))), some (.int (nI 8))] [.int (nI e), .ref 192] (n, I2, J, R) 0 0
          refine q_cv (as := [.int (nI e)]) (rs := []) rfl rfl rfl (⟨Nat.lt_of_lt_of_le (by decide) hK.1, rfl⟩) rfl rfl ?_
          refine m_fits (q_K0_to hK (hI2.2 0 (by decide)) (hI2.2 1 (by decide))) (he) (hfa) (hfb) (ha) (hb) (fun I3 f3 => ?_)
          show q_W L (d + 5) 122 q_m122 Q 125 [some (.ref 192), some (.int (nI e)), some (.int (nI b)), some (.int ((J 208 (e + 7)).toInt32)), some (.int (nI m)), some (.int (nI p)), some (.int (nI k)), some (.int (nI (38 + (10 * k)))), some (.int (nI 8))] [.int (if g_tg (J 208) e (I2 197 (2 * a + 1)) (I2 197 (2 * b + 1)) (I2 212) = J 208 (e + 11) then nI 1 else nI 0)] (n, I3, J, R) 0 0
          obtain ⟨ft, eft⟩ : ∃ zz9, zz9 = if g_tg (J 208) e (I2 197 (2 * a + 1)) (I2 197 (2 * b + 1)) (I2 212) = J 208 (e + 11) then nI 1 else nI 0 := ⟨_, rfl⟩
          rw [← eft]
          refine q_one rfl rfl ?_
          show (¬ ft = 0 → q_W L (d + 5) 122 q_m122 Q 130 [some (.ref 192), some (.int (nI e)), some (.int (nI b)), some (.int ((J 208 (e + 7)).toInt32)), some (.int (nI m)), some (.int (nI p)), some (.int (nI k)), some (.int (nI (38 + (10 * k)))), some (.int (nI 8))] [] (n, I3, J, R) 0 0) ∧ (ft = 0 → q_W L (d + 5) 122 q_m122 Q 128 [some (.ref 192), some (.int (nI e)), some (.int (nI b)), some (.int ((J 208 (e + 7)).toInt32)), some (.int (nI m)), some (.int (nI p)), some (.int (nI k)), some (.int (nI (38 + (10 * k)))), some (.int (nI 8))] [] (n, I3, J, R) 0 0)
          refine ⟨fun h125 => ?_, fun h125 => ?_⟩
          · skip
            have htg : g_tg (J 208) e (I2 197 (2 * a + 1)) (I2 197 (2 * b + 1)) (I2 212) = g_tg (J 208) e (I 197 (2 * a + 1)) (I 197 (2 * b + 1)) (fun i => I 207 (40 + 10 * k + i)) := by
              rw [hI2.2 197 (by decide)]
              exact g_tag_c (fun i hi => hI2.1 i hi) _ _ _ _ _ _
            rw [htg] at eft
            have ht : g_tg (J 208) e (I 197 (2 * a + 1)) (I 197 (2 * b + 1)) (fun i => I 207 (40 + 10 * k + i)) = J 208 (e + 11) := Classical.byContradiction fun hn => h125 (by rw [eft, if_neg hn]; rfl)
            have h37 : I3 207 = I 207 := by rw [f3 207 (by decide) (by decide) (by decide) (by decide), hI2.2 207 (by decide)]
            refine q_k 2 ?_
            show q_W L (d + 5) 122 q_m122 Q 133 [some (.ref 192), some (.int (nI e)), some (.int (nI b)), some (.int ((J 208 (e + 7)).toInt32)), some (.int (nI m)), some (.int (nI p)), some (.int (nI k)), some (.int (nI (38 + (10 * k)))), some (.int (nI 8))] [.int (nI k), .ref 192] (n, I3, J, R) 0 0
            refine q_cv (as := [.int (nI k)]) (rs := []) rfl rfl rfl (⟨Nat.lt_of_lt_of_le (by decide) hK.1, rfl⟩) rfl rfl ?_
            refine m_gone (q_K0_to hK (by rw [f3 0 (by decide) (by decide) (by decide) (by decide), hI2.2 0 (by decide)]) (by rw [f3 1 (by decide) (by decide) (by decide) (by decide), hI2.2 1 (by decide)])) (by rw [h37]; exact hc) (hk) (by omega) (fun I4 h4 f4 => ?_)
            show q_W L (d + 5) 122 q_m122 Q 136 [some (.ref 192), some (.int (nI e)), some (.int (nI b)), some (.int ((J 208 (e + 7)).toInt32)), some (.int (nI m)), some (.int (nI p)), some (.int (nI k)), some (.int (nI (38 + (10 * k)))), some (.int (nI 8))] [] (n, I4, J, R) 0 0
            refine q_k 1 ?_
            show q_W L (d + 5) 122 q_m122 Q 137 [some (.ref 192), some (.int (nI e)), some (.int (nI b)), some (.int ((J 208 (e + 7)).toInt32)), some (.int (nI m)), some (.int (nI p)), some (.int (nI k)), some (.int (nI (38 + (10 * k)))), some (.int (nI 8))] [.int (nI 0)] (n, I4, J, R) 0 0
            refine q_one rfl rfl ?_
            show Q (some (.int (nI 0))) (n, I4, J, R)
            have hS : s_trial (J 208 (e + 7)).toInt32 m p c w (g_nx I b) (g_tg (J 208) e (I 197 (2 * a + 1)) (I 197 (2 * b + 1))) (J 208 (e + 11)) (I 207) = (nI 0, s_gone k c (I 207), (fun i => I 207 (40 + 10 * k + i)), false) := by unfold s_trial; rw [hfst, if_pos hk, if_pos ht]
            rw [hS] at hQ
            exact hQ I4 (fun _ => ⟨by rw [h4, h37], fun i hi => by rw [f4 212 (by decide), f3 212 (by decide) (by decide) (by decide) (by decide)]; exact hI2.1 i hi, by rw [f4 196 (by decide), f3 196 (by decide) (by decide) (by decide) (by decide), hI2.2 196 (by decide)]; rfl⟩) (fun j _ => by rw [f4 196 (by decide), f3 196 (by decide) (by decide) (by decide) (by decide), hI2.2 196 (by decide)]) (fun y _ _ h7 h9 h10 h11 h12 h13 => by rw [f4 y h7, f3 y h9 h10 h11 h13, hI2.2 y h12]) (fun k _ _ => by rw [f4 192 (by decide), f3 192 (by decide) (by decide) (by decide) (by decide), hI2.2 192 (by decide)])
          · skip
            have htg : g_tg (J 208) e (I2 197 (2 * a + 1)) (I2 197 (2 * b + 1)) (I2 212) = g_tg (J 208) e (I 197 (2 * a + 1)) (I 197 (2 * b + 1)) (fun i => I 207 (40 + 10 * k + i)) := by
              rw [hI2.2 197 (by decide)]
              exact g_tag_c (fun i hi => hI2.1 i hi) _ _ _ _ _ _
            rw [htg] at eft
            have ht : ¬ g_tg (J 208) e (I 197 (2 * a + 1)) (I 197 (2 * b + 1)) (fun i => I 207 (40 + 10 * k + i)) = J 208 (e + 11) := fun hn => absurd (eft.symm.trans h125) (by rw [if_pos hn]; decide)
            refine q_k 1 ?_
            show q_W L (d + 5) 122 q_m122 Q 129 [some (.ref 192), some (.int (nI e)), some (.int (nI b)), some (.int ((J 208 (e + 7)).toInt32)), some (.int (nI m)), some (.int (nI p)), some (.int (nI k)), some (.int (nI (38 + (10 * k)))), some (.int (nI 8))] [.int (nI 1)] (n, I3, J, R) 0 0
            refine q_one rfl rfl ?_
            show Q (some (.int (nI 1))) (n, I3, J, R)
            have hS : s_trial (J 208 (e + 7)).toInt32 m p c w (g_nx I b) (g_tg (J 208) e (I 197 (2 * a + 1)) (I 197 (2 * b + 1))) (J 208 (e + 11)) (I 207) = (nI 1, I 207, I 207, false) := by unfold s_trial; rw [hfst, if_pos hk, if_neg ht]
            rw [hS] at hQ
            exact hQ I3 (fun z => absurd (show nI 1 = nI 0 from z) (by decide)) (fun j _ => by rw [f3 196 (by decide) (by decide) (by decide) (by decide), hI2.2 196 (by decide)]) (fun y _ _ _ h9 h10 h11 h12 h13 => by rw [f3 y h9 h10 h11 h13, hI2.2 y h12]) (fun k _ _ => by rw [f3 192 (by decide) (by decide) (by decide) (by decide), hI2.2 192 (by decide)])
        · intro y I2 hk8 hI2 ih8
          show q_W L (d + 5) 122 q_m122 Q 88 [some (.ref 192), some (.int (nI e)), some (.int (nI b)), some (.int ((J 208 (e + 7)).toInt32)), some (.int (nI m)), some (.int (nI p)), some (.int (nI k)), some (.int (nI (38 + (10 * k)))), some (.int (nI y))] [] (n, I2, J, R) 0 0
          refine q_k 2 ?_
          show q_W L (d + 5) 122 q_m122 Q 92 [some (.ref 192), some (.int (nI e)), some (.int (nI b)), some (.int ((J 208 (e + 7)).toInt32)), some (.int (nI m)), some (.int (nI p)), some (.int (nI k)), some (.int (nI (38 + (10 * k)))), some (.int (nI y))] [.int (nI 8), .int (nI y)] (n, I2, J, R) 0 0
          refine q_one rfl rfl ?_
          show ((nI 8) ≤ (nI y) → q_W L (d + 5) 122 q_m122 Q 120 [some (.ref 192), some (.int (nI e)), some (.int (nI b)), some (.int ((J 208 (e + 7)).toInt32)), some (.int (nI m)), some (.int (nI p)), some (.int (nI k)), some (.int (nI (38 + (10 * k)))), some (.int (nI y))] [] (n, I2, J, R) 0 0) ∧ (¬ (nI 8) ≤ (nI y) → q_W L (d + 5) 122 q_m122 Q 95 [some (.ref 192), some (.int (nI e)), some (.int (nI b)), some (.int ((J 208 (e + 7)).toInt32)), some (.int (nI m)), some (.int (nI p)), some (.int (nI k)), some (.int (nI (38 + (10 * k)))), some (.int (nI y))] [] (n, I2, J, R) 0 0)
          refine ⟨fun z => absurd z (nI_ge hk8 (by decide)), fun _ => ?_⟩
          refine q_k 1 ?_
          show q_W L (d + 5) 122 q_m122 Q 96 [some (.ref 192), some (.int (nI e)), some (.int (nI b)), some (.int ((J 208 (e + 7)).toInt32)), some (.int (nI m)), some (.int (nI p)), some (.int (nI k)), some (.int (nI (38 + (10 * k)))), some (.int (nI y))] [.ref 192] (n, I2, J, R) 0 0
          refine q_gR (b := 212) rfl rfl (⟨Nat.lt_of_lt_of_le (by decide) hK.1, rfl⟩) (hK.2.1 192 21 212 rfl) ?_
          refine q_k 2 ?_
          show q_W L (d + 5) 122 q_m122 Q 102 [some (.ref 192), some (.int (nI e)), some (.int (nI b)), some (.int ((J 208 (e + 7)).toInt32)), some (.int (nI m)), some (.int (nI p)), some (.int (nI k)), some (.int (nI (38 + (10 * k)))), some (.int (nI y))] [.ref 192, .int (nI y), .ref 212] (n, I2, J, R) 0 0
          refine q_gR (b := 207) rfl rfl (⟨Nat.lt_of_lt_of_le (by decide) hK.1, rfl⟩) (hK.2.1 192 14 207 rfl) ?_
          refine q_k 3 ?_
          show q_W L (d + 5) 122 q_m122 Q 109 [some (.ref 192), some (.int (nI e)), some (.int (nI b)), some (.int ((J 208 (e + 7)).toInt32)), some (.int (nI m)), some (.int (nI p)), some (.int (nI k)), some (.int (nI (38 + (10 * k)))), some (.int (nI y))] [.int ((nI (38 + (10 * k))) + (nI 2)), .ref 207, .int (nI y), .ref 212] (n, I2, J, R) 0 0
          refine q_top (w := nI (38 + (10 * k) + 2)) (nI_add _ _) ?_
          refine q_k 2 ?_
          show q_W L (d + 5) 122 q_m122 Q 112 [some (.ref 192), some (.int (nI e)), some (.int (nI b)), some (.int ((J 208 (e + 7)).toInt32)), some (.int (nI m)), some (.int (nI p)), some (.int (nI k)), some (.int (nI (38 + (10 * k)))), some (.int (nI y))] [.int ((nI (38 + (10 * k) + 2)) + (nI y)), .ref 207, .int (nI y), .ref 212] (n, I2, J, R) 0 0
          refine q_top (w := nI (38 + (10 * k) + 2 + y)) (nI_add _ _) ?_
          refine q_ial (m := 38 + (10 * k) + 2 + y) rfl (⟨by decide, Nat.lt_of_lt_of_le (by decide) hK.1, rfl⟩) (by omega) (rfl) ?_
          refine q_top (w := I 207 (38 + 10 * k + 2 + y)) (by rw [hI2.2 207 (by decide)]) ?_
          refine q_ias (m := y) rfl (⟨by decide, Nat.lt_of_lt_of_le (by decide) hK.1, rfl⟩) (by omega) (rfl) ?_
          refine q_k 1 ?_
          show q_W L (d + 5) 122 q_m122 Q 117 [some (.ref 192), some (.int (nI e)), some (.int (nI b)), some (.int ((J 208 (e + 7)).toInt32)), some (.int (nI m)), some (.int (nI p)), some (.int (nI k)), some (.int (nI (38 + (10 * k)))), some (.int ((nI y) + nI 1))] [] (n, q_up I2 212 y (I 207 (38 + 10 * k + 2 + y)), J, R) 0 0
          rw [show (nI y) + nI 1 = nI (y + 1) from nI_add _ _]
          refine q_k 1 ?_
          show q_W L (d + 5) 122 q_m122 Q 88 [some (.ref 192), some (.int (nI e)), some (.int (nI b)), some (.int ((J 208 (e + 7)).toInt32)), some (.int (nI m)), some (.int (nI p)), some (.int (nI k)), some (.int (nI (38 + (10 * k)))), some (.int (nI (y + 1)))] [] (n, q_up I2 212 y (I 207 (38 + 10 * k + 2 + y)), J, R) 0 0
          refine ih8 _ ⟨fun i hi => ?_, fun x hx => ?_⟩
          · by_cases e : i = y
            · subst e; rw [q_usk]; exact congrArg _ (by omega)
            · rw [q_usn e]; exact hI2.1 i (by omega)
          · rw [q_un hx]; exact hI2.2 x hx
        · exact ⟨fun i hi => absurd hi (Nat.not_lt_zero _), fun _ _ => rfl⟩
  · exact fun j hj => absurd hj (Nat.not_lt_zero _)
theorem m_tried {L d n : Nat} {I : q_I} {J : q_L} {R : q_R} {Q : q_Q} {e a b m p c w : Nat} (hK : q_K0 n I R) (he : e + 12 ≤ 720) (hfa : J 208 e = lN a) (hfb : J 208 (e + 1) = lN b) (ha : a < 4) (hb : b < 4) (hfm : J 208 (e + 8) = lN m) (hm : m ≤ 1000) (hfp : J 208 (e + 9) = lN p) (hp : p ≤ 1000) (hc : I 207 9 = nI c) (hc12 : c ≤ 12) (hw : I 207 7 = nI w) (hw2 : w ≤ 1001) 
    (hok : (f_try I J e a b (I 207)).1 = nI 0 → ∀ I', I' 207 = va_up (f_try I J e a b (I 207)).2.1 11 (nI 1) → I' 196 = (if (f_try I J e a b (I 207)).2.2.2 = true then va_up (I 196) b (I 196 b + nI 1) else I 196) → (∀ x, x ≠ 192 → x ≠ 196 → x ≠ 207 → x ≠ 209 → x ≠ 210 → x ≠ 211 → x ≠ 212 → x ≠ 213 → I' x = I x) → (∀ k, k ≠ 23 → k ≠ 24 → I' 192 k = I 192 k) → Q (some (.int (nI 0))) (n, I', f_tx J e (f_try I J e a b (I 207)), R))
    (hno : ¬ (f_try I J e a b (I 207)).1 = nI 0 → ∀ I', (∀ x, x ≠ 192 → x ≠ 207 → x ≠ 209 → x ≠ 210 → x ≠ 211 → x ≠ 212 → x ≠ 213 → I' x = I x) → (∀ k, k ≠ 23 → k ≠ 24 → I' 192 k = I 192 k) → Q (some (.int (f_try I J e a b (I 207)).1)) (n, I', J, R)) : q_Ex L (d + 7) 120 [.ref 192, .int (nI e), .int (nI b)] (n, I, J, R) Q := by
  refine q_in (x := q_m120) rfl rfl ?_
  show q_W L (d + 6) 120 q_m120 Q 0 [some (.ref 192), some (.int (nI e)), some (.int (nI b)), none, none] [] (n, I, J, R) 0 0
  refine q_k 1 ?_
  show q_W L (d + 6) 120 q_m120 Q 1 [some (.ref 192), some (.int (nI e)), some (.int (nI b)), none, none] [.ref 192] (n, I, J, R) 0 0
  refine q_gR (b := 196) rfl rfl (⟨Nat.lt_of_lt_of_le (by decide) hK.1, rfl⟩) (hK.2.1 192 3 196 rfl) ?_
  refine q_k 1 ?_
  show q_W L (d + 6) 120 q_m120 Q 5 [some (.ref 192), some (.int (nI e)), some (.int (nI b)), none, none] [.int (nI b), .ref 196] (n, I, J, R) 0 0
  refine q_ial (m := b) rfl (⟨by decide, Nat.lt_of_lt_of_le (by decide) hK.1, rfl⟩) (hb) (rfl) ?_
  refine q_k 4 ?_
  show q_W L (d + 6) 120 q_m120 Q 10 [some (.ref 192), some (.int (nI e)), some (.int (nI b)), some (.int (I 196 b)), none] [.int (nI b), .int (nI e), .ref 192] (n, I, J, R) 0 0
  refine q_cv (as := [.int (nI e), .int (nI b)]) (rs := []) rfl rfl rfl (⟨Nat.lt_of_lt_of_le (by decide) hK.1, rfl⟩) rfl rfl ?_
  refine m_trial (hK) (he) (hfa) (hfb) (ha) (hb) (hfm) (hm) (hfp) (hp) (hc) (hc12) (hw) (hw2) (fun I1 s1 j1 f1 e1 => ?_)
  show q_W L (d + 6) 120 q_m120 Q 13 [some (.ref 192), some (.int (nI e)), some (.int (nI b)), some (.int (I 196 b)), none] [.int ((f_try I J e a b (I 207)).1)] (n, I1, J, R) 0 0
  refine q_k 2 ?_
  show q_W L (d + 6) 120 q_m120 Q 17 [some (.ref 192), some (.int (nI e)), some (.int (nI b)), some (.int (I 196 b)), some (.int ((f_try I J e a b (I 207)).1))] [.int ((f_try I J e a b (I 207)).1)] (n, I1, J, R) 0 0
  refine q_one rfl rfl ?_
  show (((f_try I J e a b (I 207)).1) = 0 → q_W L (d + 6) 120 q_m120 Q 30 [some (.ref 192), some (.int (nI e)), some (.int (nI b)), some (.int (I 196 b)), some (.int ((f_try I J e a b (I 207)).1))] [] (n, I1, J, R) 0 0) ∧ (¬ ((f_try I J e a b (I 207)).1) = 0 → q_W L (d + 6) 120 q_m120 Q 20 [some (.ref 192), some (.int (nI e)), some (.int (nI b)), some (.int (I 196 b)), some (.int ((f_try I J e a b (I 207)).1))] [] (n, I1, J, R) 0 0)
  refine ⟨fun h17 => ?_, fun h17 => ?_⟩
  · skip
    refine q_k 2 ?_
    show q_W L (d + 6) 120 q_m120 Q 32 [some (.ref 192), some (.int (nI e)), some (.int (nI b)), some (.int (I 196 b)), some (.int ((f_try I J e a b (I 207)).1))] [.ref 192, .ref 192] (n, I1, J, R) 0 0
    refine q_gR (b := 208) rfl rfl (⟨Nat.lt_of_lt_of_le (by decide) hK.1, rfl⟩) (hK.2.1 192 15 208 rfl) ?_
    refine q_k 3 ?_
    show q_W L (d + 6) 120 q_m120 Q 39 [some (.ref 192), some (.int (nI e)), some (.int (nI b)), some (.int (I 196 b)), some (.int ((f_try I J e a b (I 207)).1))] [.int ((nI e) + (nI 10)), .ref 208, .ref 192] (n, I1, J, R) 0 0
    refine q_top (w := nI (e + 10)) (nI_add _ _) ?_
    refine q_lal (m := e + 10) rfl (⟨by decide, Nat.lt_of_lt_of_le (by decide) hK.1, rfl⟩) (by omega) (rfl) ?_
    refine q_k 1 ?_
    show q_W L (d + 6) 120 q_m120 Q 41 [some (.ref 192), some (.int (nI e)), some (.int (nI b)), some (.int (I 196 b)), some (.int ((f_try I J e a b (I 207)).1))] [.ref 192, .long (J 208 (e + 10)), .ref 192] (n, I1, J, R) 0 0
    refine q_cv (as := []) (rs := [.long (J 208 (e + 10)), .ref 192]) rfl rfl rfl (⟨Nat.lt_of_lt_of_le (by decide) hK.1, rfl⟩) rfl rfl ?_
    refine m_mask (q_K0_to hK (f1 0 (by decide) (by decide) (by decide) (by decide) (by decide) (by decide) (by decide) (by decide)) (f1 1 (by decide) (by decide) (by decide) (by decide) (by decide) (by decide) (by decide) (by decide))) (fun I2 f2 => ?_)
    show q_W L (d + 6) 120 q_m120 Q 44 [some (.ref 192), some (.int (nI e)), some (.int (nI b)), some (.int (I 196 b)), some (.int ((f_try I J e a b (I 207)).1))] [.long (g_wide (I1 212) (nI 9) (nI 0) (nI 0) (nI 0)), .long (J 208 (e + 10)), .ref 192] (n, I2, J, R) 0 0
    refine q_k 1 ?_
    show q_W L (d + 6) 120 q_m120 Q 45 [some (.ref 192), some (.int (nI e)), some (.int (nI b)), some (.int (I 196 b)), some (.int ((f_try I J e a b (I 207)).1))] [.long ((J 208 (e + 10)) ^^^ (g_wide (I1 212) (nI 9) (nI 0) (nI 0) (nI 0))), .ref 192] (n, I2, J, R) 0 0
    refine q_pJ rfl rfl rfl (⟨Nat.lt_of_lt_of_le (by decide) hK.1, rfl⟩) ?_
    refine q_k 1 ?_
    show q_W L (d + 6) 120 q_m120 Q 49 [some (.ref 192), some (.int (nI e)), some (.int (nI b)), some (.int (I 196 b)), some (.int ((f_try I J e a b (I 207)).1))] [.ref 192] (n, I2, q_up J 192 17 ((J 208 (e + 10)) ^^^ (g_wide (I1 212) (nI 9) (nI 0) (nI 0) (nI 0))), R) 0 0
    refine q_gR (b := 207) rfl rfl (⟨Nat.lt_of_lt_of_le (by decide) hK.1, rfl⟩) (hK.2.1 192 14 207 rfl) ?_
    refine q_k 2 ?_
    show q_W L (d + 6) 120 q_m120 Q 55 [some (.ref 192), some (.int (nI e)), some (.int (nI b)), some (.int (I 196 b)), some (.int ((f_try I J e a b (I 207)).1))] [.int (nI 1), .int (nI 11), .ref 207] (n, I2, q_up J 192 17 ((J 208 (e + 10)) ^^^ (g_wide (I1 212) (nI 9) (nI 0) (nI 0) (nI 0))), R) 0 0
    refine q_ias (m := 11) rfl (⟨by decide, Nat.lt_of_lt_of_le (by decide) hK.1, rfl⟩) (by decide) (rfl) ?_
    obtain ⟨I3, eI3⟩ : ∃ zz9, zz9 = q_up I2 207 11 (nI 1) := ⟨_, rfl⟩
    rw [← eI3]
    refine q_k 1 ?_
    show q_W L (d + 6) 120 q_m120 Q 57 [some (.ref 192), some (.int (nI e)), some (.int (nI b)), some (.int (I 196 b)), some (.int ((f_try I J e a b (I 207)).1))] [.int (nI 0)] (n, I3, q_up J 192 17 ((J 208 (e + 10)) ^^^ (g_wide (I1 212) (nI 9) (nI 0) (nI 0) (nI 0))), R) 0 0
    refine q_one rfl rfl ?_
    show Q (some (.int (nI 0))) (n, I3, q_up J 192 17 ((J 208 (e + 10)) ^^^ (g_wide (I1 212) (nI 9) (nI 0) (nI 0) (nI 0))), R)
    obtain ⟨r1, r2, r3⟩ := s1 h17
    have ew : q_up J 192 17 (J 208 (e + 10) ^^^ g_wide (I1 212) (nI 9) (nI 0) (nI 0) (nI 0)) = f_tx J e (f_try I J e a b (I 207)) := by unfold f_tx; rw [g_wide_c r2]
    rw [ew]
    refine hok h17 I3 ?_ ?_ (fun y h2 h6 h7 h9 h10 h11 h12 h13 => ?_) (fun k h23 h24 => ?_)
    · rw [eI3, q_us, f2 207 (by decide) (by decide) (by decide), r1]
    · rw [eI3, q_un (by decide), f2 196 (by decide) (by decide) (by decide), r3]
    · rw [eI3, q_un h7, f2 y h9 h10 h11, f1 y h2 h6 h7 h9 h10 h11 h12 h13]
    · rw [eI3, q_un (by decide), f2 192 (by decide) (by decide) (by decide), e1 k h23 h24]
  · skip
    refine q_k 1 ?_
    show q_W L (d + 6) 120 q_m120 Q 21 [some (.ref 192), some (.int (nI e)), some (.int (nI b)), some (.int (I 196 b)), some (.int ((f_try I J e a b (I 207)).1))] [.ref 192] (n, I1, J, R) 0 0
    refine q_gR (b := 196) rfl rfl (⟨Nat.lt_of_lt_of_le (by decide) hK.1, rfl⟩) (hK.2.1 192 3 196 rfl) ?_
    refine q_k 2 ?_
    show q_W L (d + 6) 120 q_m120 Q 26 [some (.ref 192), some (.int (nI e)), some (.int (nI b)), some (.int (I 196 b)), some (.int ((f_try I J e a b (I 207)).1))] [.int (I 196 b), .int (nI b), .ref 196] (n, I1, J, R) 0 0
    refine q_ias (m := b) rfl (⟨by decide, Nat.lt_of_lt_of_le (by decide) hK.1, rfl⟩) (hb) (rfl) ?_
    obtain ⟨I2, eI2⟩ : ∃ zz9, zz9 = q_up I1 196 b (I 196 b) := ⟨_, rfl⟩
    rw [← eI2]
    refine q_k 1 ?_
    show q_W L (d + 6) 120 q_m120 Q 29 [some (.ref 192), some (.int (nI e)), some (.int (nI b)), some (.int (I 196 b)), some (.int ((f_try I J e a b (I 207)).1))] [.int ((f_try I J e a b (I 207)).1)] (n, I2, J, R) 0 0
    refine q_one rfl rfl ?_
    show Q (some (.int ((f_try I J e a b (I 207)).1))) (n, I2, J, R)
    refine hno h17 I2 (fun y h2 h7 h9 h10 h11 h12 h13 => ?_) (fun k h23 h24 => ?_)
    · by_cases e6 : y = 196
      · subst e6
        rw [eI2, q_us]
        funext j
        by_cases ej : j = b
        · subst ej; rw [va_up_self]
        · rw [va_up_ne _ _ ej, j1 j ej]
      · rw [eI2, q_un e6, f1 y h2 e6 h7 h9 h10 h11 h12 h13]
    · rw [eI2, q_un (by decide), e1 k h23 h24]
