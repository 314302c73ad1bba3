set_option maxHeartbeats 1000000 in
theorem m_further_loop {L d n : Nat} {I : q_I} {J : q_L} {R : q_R} {Q : q_Q} {e a b p m x y : Nat} (hK : q_K0 n I R) (he : e + 12 ≤ 720) (hwf : q_wf I J e a b x y) (hp : p < 16) (hm : I 206 p = nI m) (hm3 : m ≤ 3) (hri : ∀ k, k < m → q_RI (f_blk I p k)) : ∀ (j k : Nat) (ans : Int32) (I2 : q_I), k + j = m → (∀ x, x ≠ 192 → x ≠ 207 → x ≠ 209 → x ≠ 210 → x ≠ 211 → x ≠ 212 → x ≠ 213 → I2 x = I x) → (∀ k, k ≠ 23 → k ≠ 24 → I2 192 k = I 192 k) → (∀ G I', q_ms I' (f_fur G I J e a b p j k ans).2.1 → q_mf I' I → Q (some (.int (f_fur G I J e a b p j k ans).1)) (n, I', (f_fur G I J e a b p j k ans).2.2, R)) → q_W L (d + 7) 118 q_m118 Q 7 [some (.ref 192), some (.int (nI e)), some (.int (nI p)), some (.int (nI b)), some (.int ans), some (.int (nI k)), none] [] (n, I2, J, R) 0 0 := by
  intro j
  induction j with
  | zero =>
    intro k ans I2 hkj hf2 he2 hQ
    refine q_k 2 ?_
    show q_W L (d + 7) 118 q_m118 Q 10 [some (.ref 192), some (.int (nI e)), some (.int (nI p)), some (.int (nI b)), some (.int ans), some (.int (nI k)), none] [.ref 192, .int (nI k)] (n, I2, J, R) 0 0
    refine q_gR (b := 206) rfl rfl (⟨Nat.lt_of_lt_of_le (by decide) hK.1, rfl⟩) (hK.2.1 192 13 206 rfl) ?_
    refine q_k 1 ?_
    show q_W L (d + 7) 118 q_m118 Q 14 [some (.ref 192), some (.int (nI e)), some (.int (nI p)), some (.int (nI b)), some (.int ans), some (.int (nI k)), none] [.int (nI p), .ref 206, .int (nI k)] (n, I2, J, R) 0 0
    refine q_ial (m := p) rfl (⟨by decide, Nat.lt_of_lt_of_le (by decide) hK.1, rfl⟩) (hp) (rfl) ?_
    refine q_top (w := nI m) (by rw [hf2 206 (by decide) (by decide) (by decide) (by decide) (by decide) (by decide) (by decide)]; exact hm) ?_
    refine q_one rfl rfl ?_
    show ((nI m) ≤ (nI k) → q_W L (d + 7) 118 q_m118 Q 67 [some (.ref 192), some (.int (nI e)), some (.int (nI p)), some (.int (nI b)), some (.int ans), some (.int (nI k)), none] [] (n, I2, J, R) 0 0) ∧ (¬ (nI m) ≤ (nI k) → q_W L (d + 7) 118 q_m118 Q 18 [some (.ref 192), some (.int (nI e)), some (.int (nI p)), some (.int (nI b)), some (.int ans), some (.int (nI k)), none] [] (n, I2, J, R) 0 0)
    refine ⟨fun _ => ?_, fun z => absurd (nI_le (by omega) (by omega)) z⟩
    refine q_k 1 ?_
    show q_W L (d + 7) 118 q_m118 Q 69 [some (.ref 192), some (.int (nI e)), some (.int (nI p)), some (.int (nI b)), some (.int ans), some (.int (nI k)), none] [.int ans] (n, I2, J, R) 0 0
    refine q_one rfl rfl ?_
    show Q (some (.int ans)) (n, I2, J, R)
    exact hQ (fun _ _ => nI 0) I2 ⟨fun a ha hb => hf2 a (by omega) (by omega) (by omega) (by omega) (by omega) (by omega) (by omega), he2 16 (by decide) (by decide)⟩ (fun x hx => hf2 x (by omega) (by omega) (by omega) (by omega) (by omega) (by omega) (by omega))
  | succ j ih =>
    intro k ans I2 hkj hf2 he2 hQ
    refine q_k 2 ?_
    show q_W L (d + 7) 118 q_m118 Q 10 [some (.ref 192), some (.int (nI e)), some (.int (nI p)), some (.int (nI b)), some (.int ans), some (.int (nI k)), none] [.ref 192, .int (nI k)] (n, I2, J, R) 0 0
    refine q_gR (b := 206) rfl rfl (⟨Nat.lt_of_lt_of_le (by decide) hK.1, rfl⟩) (hK.2.1 192 13 206 rfl) ?_
    refine q_k 1 ?_
    show q_W L (d + 7) 118 q_m118 Q 14 [some (.ref 192), some (.int (nI e)), some (.int (nI p)), some (.int (nI b)), some (.int ans), some (.int (nI k)), none] [.int (nI p), .ref 206, .int (nI k)] (n, I2, J, R) 0 0
    refine q_ial (m := p) rfl (⟨by decide, Nat.lt_of_lt_of_le (by decide) hK.1, rfl⟩) (hp) (rfl) ?_
    refine q_top (w := nI m) (by rw [hf2 206 (by decide) (by decide) (by decide) (by decide) (by decide) (by decide) (by decide)]; exact hm) ?_
    refine q_one rfl rfl ?_
    show ((nI m) ≤ (nI k) → q_W L (d + 7) 118 q_m118 Q 67 [some (.ref 192), some (.int (nI e)), some (.int (nI p)), some (.int (nI b)), some (.int ans), some (.int (nI k)), none] [] (n, I2, J, R) 0 0) ∧ (¬ (nI m) ≤ (nI k) → q_W L (d + 7) 118 q_m118 Q 18 [some (.ref 192), some (.int (nI e)), some (.int (nI p)), some (.int (nI b)), some (.int ans), some (.int (nI k)), none] [] (n, I2, J, R) 0 0)
    refine ⟨fun z => absurd z (nI_ge (by omega) (by omega)), fun _ => ?_⟩
    refine q_k 3 ?_
    show q_W L (d + 7) 118 q_m118 Q 22 [some (.ref 192), some (.int (nI e)), some (.int (nI p)), some (.int (nI b)), some (.int ans), some (.int (nI k)), none] [.int (nI k), .int (nI p), .ref 192] (n, I2, J, R) 0 0
    refine q_cv (as := [.int (nI p), .int (nI k)]) (rs := []) rfl rfl rfl (⟨Nat.lt_of_lt_of_le (by decide) hK.1, rfl⟩) rfl rfl ?_
    refine m_load (q_K0_to hK (hf2 0 (by decide) (by decide) (by decide) (by decide) (by decide) (by decide) (by decide)) (hf2 1 (by decide) (by decide) (by decide) (by decide) (by decide) (by decide) (by decide))) (hp) (by omega) (fun I3 a3 b3 f3 => ?_)
    have hrow : I3 207 = f_row I p k (I2 207) := by
      funext i
      unfold f_row
      by_cases c1 : i < 158
      · rw [if_pos c1, a3 i c1, hf2 205 (by decide) (by decide) (by decide) (by decide) (by decide) (by decide) (by decide)]
      · rw [if_neg c1, b3 i (by omega)]
    have hmq : q_mq I3 I := fun a ha hb => by rw [f3 a (by omega), hf2 a (by omega) (by omega) (by omega) (by omega) (by omega) (by omega) (by omega)]
    obtain ⟨S, eS⟩ : ∃ z, z = f_try I J e a b (f_row I p k (I2 207)) := ⟨_, rfl⟩
    have hT : f_try I3 J e a b (I3 207) = S := by rw [eS, hrow, f_try_c hmq]
    obtain ⟨⟨c, hc12, hc⟩, w, hw2, hw⟩ := hri k (by omega)
    show q_W L (d + 7) 118 q_m118 Q 25 [some (.ref 192), some (.int (nI e)), some (.int (nI p)), some (.int (nI b)), some (.int ans), some (.int (nI k)), none] [] (n, I3, J, R) 0 0
    refine q_k 3 ?_
    show q_W L (d + 7) 118 q_m118 Q 28 [some (.ref 192), some (.int (nI e)), some (.int (nI p)), some (.int (nI b)), some (.int ans), some (.int (nI k)), none] [.int (nI b), .int (nI e), .ref 192] (n, I3, J, R) 0 0
    refine q_cv (as := [.int (nI e), .int (nI b)]) (rs := []) rfl rfl rfl (⟨Nat.lt_of_lt_of_le (by decide) hK.1, rfl⟩) rfl rfl ?_
    refine m_tried (c := c) (w := w) (q_K0_to hK (by rw [f3 0 (by decide), hf2 0 (by decide) (by decide) (by decide) (by decide) (by decide) (by decide) (by decide)]) (by rw [f3 1 (by decide), hf2 1 (by decide) (by decide) (by decide) (by decide) (by decide) (by decide) (by decide)])) he hwf.fa hwf.fb hwf.ha hwf.hb hwf.fm hwf.hm hwf.fp hwf.hp (by rw [hrow]; unfold f_row; rw [if_pos (by decide)]; exact hc) hc12 (by rw [hrow]; unfold f_row; rw [if_pos (by decide)]; exact hw) hw2 (fun hz I4 r4 c4 f4 e4 => ?_) (fun hz I4 f4 e4 => ?_)
    · skip
      rw [hT] at hz r4 c4 ⊢
      show q_W L (d + 7) 118 q_m118 Q 31 [some (.ref 192), some (.int (nI e)), some (.int (nI p)), some (.int (nI b)), some (.int ans), some (.int (nI k)), none] [.int (nI 0)] (n, I4, f_tx J e S, R) 0 0
      refine q_k 2 ?_
      show q_W L (d + 7) 118 q_m118 Q 35 [some (.ref 192), some (.int (nI e)), some (.int (nI p)), some (.int (nI b)), some (.int ans), some (.int (nI k)), some (.int (nI 0))] [.int (nI 0)] (n, I4, f_tx J e S, R) 0 0
      refine q_one rfl rfl ?_
      show (¬ (nI 0) = 0 → q_W L (d + 7) 118 q_m118 Q 47 [some (.ref 192), some (.int (nI e)), some (.int (nI p)), some (.int (nI b)), some (.int ans), some (.int (nI k)), some (.int (nI 0))] [] (n, I4, f_tx J e S, R) 0 0) ∧ ((nI 0) = 0 → q_W L (d + 7) 118 q_m118 Q 38 [some (.ref 192), some (.int (nI e)), some (.int (nI p)), some (.int (nI b)), some (.int ans), some (.int (nI k)), some (.int (nI 0))] [] (n, I4, f_tx J e S, R) 0 0)
      refine ⟨fun z => absurd (rfl) z, fun _ => ?_⟩
      refine q_k 3 ?_
      show q_W L (d + 7) 118 q_m118 Q 42 [some (.ref 192), some (.int (nI e)), some (.int (nI p)), some (.int (nI b)), some (.int ans), some (.int (nI k)), some (.int (nI 0))] [.int (nI k), .int (nI p), .ref 192] (n, I4, f_tx J e S, R) 0 0
      refine q_cv (as := [.int (nI p), .int (nI k)]) (rs := []) rfl rfl rfl (⟨Nat.lt_of_lt_of_le (by decide) hK.1, rfl⟩) rfl rfl ?_
      refine m_toFront (q_K0_to hK (by rw [f4 0 (by decide) (by decide) (by decide) (by decide) (by decide) (by decide) (by decide) (by decide), f3 0 (by decide), hf2 0 (by decide) (by decide) (by decide) (by decide) (by decide) (by decide) (by decide)]) (by rw [f4 1 (by decide) (by decide) (by decide) (by decide) (by decide) (by decide) (by decide) (by decide), f3 1 (by decide), hf2 1 (by decide) (by decide) (by decide) (by decide) (by decide) (by decide) (by decide)])) (hp) (by omega) (fun I5 h5 f5 => ?_)
      show q_W L (d + 7) 118 q_m118 Q 45 [some (.ref 192), some (.int (nI e)), some (.int (nI p)), some (.int (nI b)), some (.int ans), some (.int (nI k)), some (.int (nI 0))] [] (n, I5, f_tx J e S, R) 0 0
      refine q_k 1 ?_
      show q_W L (d + 7) 118 q_m118 Q 46 [some (.ref 192), some (.int (nI e)), some (.int (nI p)), some (.int (nI b)), some (.int ans), some (.int (nI k)), some (.int (nI 0))] [.int (nI 0)] (n, I5, f_tx J e S, R) 0 0
      refine q_one rfl rfl ?_
      show Q (some (.int (nI 0))) (n, I5, f_tx J e S, R)
      have hF : f_fur (fun _ => I2 207) I J e a b p (j + 1) k ans = (nI 0, f_rows p k (va_up S.2.1 11 (nI 1)) (f_ok S b I), f_tx J e S) := by rw [f_fur_ok (by rw [← eS]; exact hz), ← eS]
      have h := hQ (fun _ => I2 207) I5
      rw [hF] at h
      refine h ⟨fun a ha hb => ?_, ?_⟩ (fun x hx => ?_)
      · by_cases e5 : a = 205
        · subst e5
          rw [h5]
          exact f_rows_c (by rw [f4 205 (by decide) (by decide) (by decide) (by decide) (by decide) (by decide) (by decide) (by decide), f3 205 (by decide), hf2 205 (by decide) (by decide) (by decide) (by decide) (by decide) (by decide) (by decide), f_ok_n (by decide)]) (fun i _ => by rw [r4])
        · show I5 a = f_rows p k (va_up S.2.1 11 (nI 1)) (f_ok S b I) a
          rw [f5 a e5, f_rows_n e5]
          by_cases e6 : a = 196
          · subst e6; rw [c4, f_ok_196, f3 196 (by decide), hf2 196 (by decide) (by decide) (by decide) (by decide) (by decide) (by decide) (by decide)]
          · rw [f4 a (by omega) e6 (by omega) (by omega) (by omega) (by omega) (by omega) (by omega), f3 a (by omega), hf2 a (by omega) (by omega) (by omega) (by omega) (by omega) (by omega) (by omega), f_ok_n e6]
      · show I5 192 16 = f_rows p k (va_up S.2.1 11 (nI 1)) (f_ok S b I) 192 16
        rw [f5 192 (by decide), e4 16 (by decide) (by decide), f3 192 (by decide), he2 16 (by decide) (by decide), f_rows_n (by decide), f_ok_n (by decide)]
      · rw [f5 x (by omega), f4 x (by omega) (by omega) (by omega) (by omega) (by omega) (by omega) (by omega) (by omega), f3 x (by omega), hf2 x (by omega) (by omega) (by omega) (by omega) (by omega) (by omega) (by omega)]
    · skip
      rw [hT] at hz ⊢
      show q_W L (d + 7) 118 q_m118 Q 31 [some (.ref 192), some (.int (nI e)), some (.int (nI p)), some (.int (nI b)), some (.int ans), some (.int (nI k)), none] [.int S.1] (n, I4, J, R) 0 0
      refine q_k 2 ?_
      show q_W L (d + 7) 118 q_m118 Q 35 [some (.ref 192), some (.int (nI e)), some (.int (nI p)), some (.int (nI b)), some (.int ans), some (.int (nI k)), some (.int S.1)] [.int S.1] (n, I4, J, R) 0 0
      refine q_one rfl rfl ?_
      show (¬ S.1 = 0 → q_W L (d + 7) 118 q_m118 Q 47 [some (.ref 192), some (.int (nI e)), some (.int (nI p)), some (.int (nI b)), some (.int ans), some (.int (nI k)), some (.int S.1)] [] (n, I4, J, R) 0 0) ∧ (S.1 = 0 → q_W L (d + 7) 118 q_m118 Q 38 [some (.ref 192), some (.int (nI e)), some (.int (nI p)), some (.int (nI b)), some (.int ans), some (.int (nI k)), some (.int S.1)] [] (n, I4, J, R) 0 0)
      refine ⟨fun _ => ?_, fun z => absurd z (hz)⟩
      refine q_k 1 ?_
      show q_W L (d + 7) 118 q_m118 Q 49 [some (.ref 192), some (.int (nI e)), some (.int (nI p)), some (.int (nI b)), some (.int ans), some (.int (nI k)), some (.int S.1)] [.int (nI k)] (n, I4, J, R) 0 0
      refine q_one rfl rfl ?_
      show (¬ (nI k) = 0 → q_W L (d + 7) 118 q_m118 Q 57 [some (.ref 192), some (.int (nI e)), some (.int (nI p)), some (.int (nI b)), some (.int ans), some (.int (nI k)), some (.int S.1)] [] (n, I4, J, R) 0 0) ∧ ((nI k) = 0 → q_W L (d + 7) 118 q_m118 Q 52 [some (.ref 192), some (.int (nI e)), some (.int (nI p)), some (.int (nI b)), some (.int ans), some (.int (nI k)), some (.int S.1)] [] (n, I4, J, R) 0 0)
      refine ⟨fun h49 => ?_, fun h49 => ?_⟩
      · skip
        have hk0 : ¬ k = 0 := fun z => h49 (by rw [z]; rfl)
        refine q_k 3 ?_
        show q_W L (d + 7) 118 q_m118 Q 64 [some (.ref 192), some (.int (nI e)), some (.int (nI p)), some (.int (nI b)), some (.int ans), some (.int ((nI k) + nI 1)), some (.int S.1)] [] (n, I4, J, R) 0 0
        rw [show (nI k) + nI 1 = nI (k + 1) from nI_add _ _]
        refine q_k 1 ?_
        show q_W L (d + 7) 118 q_m118 Q 7 [some (.ref 192), some (.int (nI e)), some (.int (nI p)), some (.int (nI b)), some (.int ans), some (.int (nI (k + 1))), some (.int S.1)] [] (n, I4, J, R) 0 0
        refine q_fg 6 ?_
        refine ih (k + 1) (ans) I4 (by omega) (fun x h2 h7 h9 h10 h11 h12 h13 => ?_) (fun y h23 h24 => ?_) (fun G I' h1 h2 => ?_)
        · rw [f4 x h2 h7 h9 h10 h11 h12 h13, f3 x h7, hf2 x h2 h7 h9 h10 h11 h12 h13]
        · rw [e4 y h23 h24, f3 192 (by decide), he2 y h23 h24]
        · obtain ⟨G2, hG2, hG3⟩ : ∃ G2 : Nat → Nat → Int32, G2 k = I2 207 ∧ ∀ i, k + 1 ≤ i → G2 i = G i := ⟨fun i => if i = k then I2 207 else G i, if_pos rfl, fun i hi => if_neg (by omega)⟩
          have hF : f_fur G2 I J e a b p (j + 1) k ans = f_fur G I J e a b p j (k + 1) ans := by rw [f_fur_no (by rw [hG2, ← eS]; exact hz), hG2, ← eS, if_neg hk0]; exact f_fur_G j (k + 1) _ hG3
          have h := hQ G2 I'
          rw [hF] at h
          exact h h1 h2
      · skip
        have hk0 : k = 0 := (nI_eq (by omega) (by decide)).mp h49
        refine q_k 4 ?_
        show q_W L (d + 7) 118 q_m118 Q 64 [some (.ref 192), some (.int (nI e)), some (.int (nI p)), some (.int (nI b)), some (.int S.1), some (.int ((nI k) + nI 1)), some (.int S.1)] [] (n, I4, J, R) 0 0
        rw [show (nI k) + nI 1 = nI (k + 1) from nI_add _ _]
        refine q_k 1 ?_
        show q_W L (d + 7) 118 q_m118 Q 7 [some (.ref 192), some (.int (nI e)), some (.int (nI p)), some (.int (nI b)), some (.int S.1), some (.int (nI (k + 1))), some (.int S.1)] [] (n, I4, J, R) 0 0
        refine q_fg 6 ?_
        refine ih (k + 1) (S.1) I4 (by omega) (fun x h2 h7 h9 h10 h11 h12 h13 => ?_) (fun y h23 h24 => ?_) (fun G I' h1 h2 => ?_)
        · rw [f4 x h2 h7 h9 h10 h11 h12 h13, f3 x h7, hf2 x h2 h7 h9 h10 h11 h12 h13]
        · rw [e4 y h23 h24, f3 192 (by decide), he2 y h23 h24]
        · obtain ⟨G2, hG2, hG3⟩ : ∃ G2 : Nat → Nat → Int32, G2 k = I2 207 ∧ ∀ i, k + 1 ≤ i → G2 i = G i := ⟨fun i => if i = k then I2 207 else G i, if_pos rfl, fun i hi => if_neg (by omega)⟩
          have hF : f_fur G2 I J e a b p (j + 1) k ans = f_fur G I J e a b p j (k + 1) S.1 := by rw [f_fur_no (by rw [hG2, ← eS]; exact hz), hG2, ← eS, if_pos hk0]; exact f_fur_G j (k + 1) _ hG3
          have h := hQ G2 I'
          rw [hF] at h
          exact h h1 h2
theorem m_further {L d n : Nat} {I : q_I} {J : q_L} {R : q_R} {Q : q_Q} {e a b p m x y : Nat} (hK : q_K0 n I R) (he : e + 12 ≤ 720) (hwf : q_wf I J e a b x y) (hp : p < 16) (hm : I 206 p = nI m) (hm3 : m ≤ 3) (hri : ∀ k, k < m → q_RI (f_blk I p k)) (hQ : (∀ G I', q_ms I' (f_fur G I J e a b p m 0 (nI 6)).2.1 → q_mf I' I → Q (some (.int (f_fur G I J e a b p m 0 (nI 6)).1)) (n, I', (f_fur G I J e a b p m 0 (nI 6)).2.2, R))) : q_Ex L (d + 8) 118 [.ref 192, .int (nI e), .int (nI p), .int (nI b)] (n, I, J, R) Q := by
  refine q_in (x := q_m118) rfl rfl ?_
  show q_W L (d + 7) 118 q_m118 Q 0 [some (.ref 192), some (.int (nI e)), some (.int (nI p)), some (.int (nI b)), none, none, none] [] (n, I, J, R) 0 0
  refine q_k 4 ?_
  show q_W L (d + 7) 118 q_m118 Q 7 [some (.ref 192), some (.int (nI e)), some (.int (nI p)), some (.int (nI b)), some (.int (nI 6)), some (.int (nI 0)), none] [] (n, I, J, R) 0 0
  exact m_further_loop hK he hwf hp hm hm3 hri m 0 (nI 6) I (by omega) (fun _ _ _ _ _ _ _ _ => rfl) (fun _ _ _ => rfl) hQ
set_option maxHeartbeats 1000000 in
theorem m_malformed {L d n : Nat} {I : q_I} {J : q_L} {R : q_R} {Q : q_Q} {e : Nat} (hK : q_K0 n I R) (he : e + 12 ≤ 720) (hQ : Q (some (.int (g_mal I J e))) (n, I, J, R)) : q_Ex L (d + 3) 116 [.ref 192, .int (nI e)] (n, I, J, R) Q := by
  refine q_in (x := q_m116) rfl rfl ?_
  show q_W L (d + 2) 116 q_m116 Q 0 [some (.ref 192), some (.int (nI e)), none, none, none, none] [] (n, I, J, R) 0 0
  refine q_k 1 ?_
  show q_W L (d + 2) 116 q_m116 Q 1 [some (.ref 192), some (.int (nI e)), none, none, none, none] [.ref 192] (n, I, J, R) 0 0
  refine q_gR (b := 208) rfl rfl (⟨Nat.lt_of_lt_of_le (by decide) hK.1, rfl⟩) (hK.2.1 192 15 208 rfl) ?_
  refine q_k 1 ?_
  show q_W L (d + 2) 116 q_m116 Q 5 [some (.ref 192), some (.int (nI e)), none, none, none, none] [.int (nI e), .ref 208] (n, I, J, R) 0 0
  refine q_lal (m := e) rfl (⟨by decide, Nat.lt_of_lt_of_le (by decide) hK.1, rfl⟩) (by omega) (rfl) ?_
  refine q_k 2 ?_
  show q_W L (d + 2) 116 q_m116 Q 8 [some (.ref 192), some (.int (nI e)), some (.long (J 208 e)), none, none, none] [.ref 192] (n, I, J, R) 0 0
  refine q_gR (b := 208) rfl rfl (⟨Nat.lt_of_lt_of_le (by decide) hK.1, rfl⟩) (hK.2.1 192 15 208 rfl) ?_
  refine q_k 3 ?_
  show q_W L (d + 2) 116 q_m116 Q 14 [some (.ref 192), some (.int (nI e)), some (.long (J 208 e)), none, none, none] [.int ((nI e) + (nI 1)), .ref 208] (n, I, J, R) 0 0
  refine q_top (w := nI (e + 1)) (nI_add _ _) ?_
  refine q_lal (m := e + 1) rfl (⟨by decide, Nat.lt_of_lt_of_le (by decide) hK.1, rfl⟩) (by omega) (rfl) ?_
  refine q_k 4 ?_
  show q_W L (d + 2) 116 q_m116 Q 22 [some (.ref 192), some (.int (nI e)), some (.long (J 208 e)), none, some (.long (J 208 (e + 1))), none] [.long (lN 3), .long (lN 0), .long (J 208 e)] (n, I, J, R) 0 0
  refine q_cs (as := [.long (J 208 e), .long (lN 0), .long (lN 3)]) (rs := []) rfl rfl rfl rfl rfl ?_
  refine m_within  ?_
  show q_W L (d + 2) 116 q_m116 Q 25 [some (.ref 192), some (.int (nI e)), some (.long (J 208 e)), none, some (.long (J 208 (e + 1))), none] [.int (g_wi (J 208 e) (lN 0) (lN 3))] (n, I, J, R) 0 0
  refine q_one rfl rfl ?_
  show ((g_wi (J 208 e) (lN 0) (lN 3)) = 0 → q_W L (d + 2) 116 q_m116 Q 68 [some (.ref 192), some (.int (nI e)), some (.long (J 208 e)), none, some (.long (J 208 (e + 1))), none] [] (n, I, J, R) 0 0) ∧ (¬ (g_wi (J 208 e) (lN 0) (lN 3)) = 0 → q_W L (d + 2) 116 q_m116 Q 28 [some (.ref 192), some (.int (nI e)), some (.long (J 208 e)), none, some (.long (J 208 (e + 1))), none] [] (n, I, J, R) 0 0)
  refine ⟨fun h25 => ?_, fun h25 => ?_⟩
  · skip
    refine q_k 1 ?_
    show q_W L (d + 2) 116 q_m116 Q 69 [some (.ref 192), some (.int (nI e)), some (.long (J 208 e)), none, some (.long (J 208 (e + 1))), none] [.int (nI 1)] (n, I, J, R) 0 0
    refine q_one rfl rfl ?_
    show q_bz (nI 1) ∧ Q (some (.int (nI 1))) (n, I, J, R)
    refine ⟨Or.inr rfl, ?_⟩
    simp only [g_mal, if_pos h25] at hQ
    exact hQ
  · skip
    refine q_k 3 ?_
    show q_W L (d + 2) 116 q_m116 Q 34 [some (.ref 192), some (.int (nI e)), some (.long (J 208 e)), none, some (.long (J 208 (e + 1))), none] [.long (lN 3), .long (lN 0), .long (J 208 (e + 1))] (n, I, J, R) 0 0
    refine q_cs (as := [.long (J 208 (e + 1)), .long (lN 0), .long (lN 3)]) (rs := []) rfl rfl rfl rfl rfl ?_
    refine m_within  ?_
    show q_W L (d + 2) 116 q_m116 Q 37 [some (.ref 192), some (.int (nI e)), some (.long (J 208 e)), none, some (.long (J 208 (e + 1))), none] [.int (g_wi (J 208 (e + 1)) (lN 0) (lN 3))] (n, I, J, R) 0 0
    refine q_one rfl rfl ?_
    show ((g_wi (J 208 (e + 1)) (lN 0) (lN 3)) = 0 → q_W L (d + 2) 116 q_m116 Q 68 [some (.ref 192), some (.int (nI e)), some (.long (J 208 e)), none, some (.long (J 208 (e + 1))), none] [] (n, I, J, R) 0 0) ∧ (¬ (g_wi (J 208 (e + 1)) (lN 0) (lN 3)) = 0 → q_W L (d + 2) 116 q_m116 Q 40 [some (.ref 192), some (.int (nI e)), some (.long (J 208 e)), none, some (.long (J 208 (e + 1))), none] [] (n, I, J, R) 0 0)
    refine ⟨fun h37 => ?_, fun h37 => ?_⟩
    · skip
      refine q_k 1 ?_
      show q_W L (d + 2) 116 q_m116 Q 69 [some (.ref 192), some (.int (nI e)), some (.long (J 208 e)), none, some (.long (J 208 (e + 1))), none] [.int (nI 1)] (n, I, J, R) 0 0
      refine q_one rfl rfl ?_
      show q_bz (nI 1) ∧ Q (some (.int (nI 1))) (n, I, J, R)
      refine ⟨Or.inr rfl, ?_⟩
      simp only [g_mal, if_neg h25, if_pos h37] at hQ
      exact hQ
    · skip
      refine q_k 5 ?_
      show q_W L (d + 2) 116 q_m116 Q 46 [some (.ref 192), some (.int (nI e)), some (.long (J 208 e)), none, some (.long (J 208 (e + 1))), none] [.int ((J 208 (e + 1)).toInt32), .int ((J 208 e).toInt32), .ref 192] (n, I, J, R) 0 0
      refine q_cv (as := [.int ((J 208 e).toInt32), .int ((J 208 (e + 1)).toInt32)]) (rs := []) rfl rfl rfl (⟨Nat.lt_of_lt_of_le (by decide) hK.1, rfl⟩) rfl rfl ?_
      refine m_pair (hK) ?_
      show q_W L (d + 2) 116 q_m116 Q 49 [some (.ref 192), some (.int (nI e)), some (.long (J 208 e)), none, some (.long (J 208 (e + 1))), none] [.int (g_pr (I 193) ((J 208 e).toInt32) ((J 208 (e + 1)).toInt32))] (n, I, J, R) 0 0
      refine q_one rfl rfl ?_
      show ((g_pr (I 193) ((J 208 e).toInt32) ((J 208 (e + 1)).toInt32)) = 0 → q_W L (d + 2) 116 q_m116 Q 68 [some (.ref 192), some (.int (nI e)), some (.long (J 208 e)), none, some (.long (J 208 (e + 1))), none] [] (n, I, J, R) 0 0) ∧ (¬ (g_pr (I 193) ((J 208 e).toInt32) ((J 208 (e + 1)).toInt32)) = 0 → q_W L (d + 2) 116 q_m116 Q 52 [some (.ref 192), some (.int (nI e)), some (.long (J 208 e)), none, some (.long (J 208 (e + 1))), none] [] (n, I, J, R) 0 0)
      refine ⟨fun h49 => ?_, fun h49 => ?_⟩
      · skip
        refine q_k 1 ?_
        show q_W L (d + 2) 116 q_m116 Q 69 [some (.ref 192), some (.int (nI e)), some (.long (J 208 e)), none, some (.long (J 208 (e + 1))), none] [.int (nI 1)] (n, I, J, R) 0 0
        refine q_one rfl rfl ?_
        show q_bz (nI 1) ∧ Q (some (.int (nI 1))) (n, I, J, R)
        refine ⟨Or.inr rfl, ?_⟩
        simp only [g_mal, if_neg h25, if_neg h37, if_pos h49] at hQ
        exact hQ
      · skip
        refine q_k 1 ?_
        show q_W L (d + 2) 116 q_m116 Q 53 [some (.ref 192), some (.int (nI e)), some (.long (J 208 e)), none, some (.long (J 208 (e + 1))), none] [.ref 192] (n, I, J, R) 0 0
        refine q_gR (b := 208) rfl rfl (⟨Nat.lt_of_lt_of_le (by decide) hK.1, rfl⟩) (hK.2.1 192 15 208 rfl) ?_
        refine q_k 3 ?_
        show q_W L (d + 2) 116 q_m116 Q 59 [some (.ref 192), some (.int (nI e)), some (.long (J 208 e)), none, some (.long (J 208 (e + 1))), none] [.int ((nI e) + (nI 2)), .ref 208] (n, I, J, R) 0 0
        refine q_top (w := nI (e + 2)) (nI_add _ _) ?_
        refine q_lal (m := e + 2) rfl (⟨by decide, Nat.lt_of_lt_of_le (by decide) hK.1, rfl⟩) (by omega) (rfl) ?_
        refine q_k 2 ?_
        show q_W L (d + 2) 116 q_m116 Q 62 [some (.ref 192), some (.int (nI e)), some (.long (J 208 e)), none, some (.long (J 208 (e + 1))), none] [.long (lN 1), .long (lN 0), .long (J 208 (e + 2))] (n, I, J, R) 0 0
        refine q_cs (as := [.long (J 208 (e + 2)), .long (lN 0), .long (lN 1)]) (rs := []) rfl rfl rfl rfl rfl ?_
        refine m_within  ?_
        show q_W L (d + 2) 116 q_m116 Q 65 [some (.ref 192), some (.int (nI e)), some (.long (J 208 e)), none, some (.long (J 208 (e + 1))), none] [.int (g_wi (J 208 (e + 2)) (lN 0) (lN 1))] (n, I, J, R) 0 0
        refine q_one rfl rfl ?_
        show (¬ (g_wi (J 208 (e + 2)) (lN 0) (lN 1)) = 0 → q_W L (d + 2) 116 q_m116 Q 70 [some (.ref 192), some (.int (nI e)), some (.long (J 208 e)), none, some (.long (J 208 (e + 1))), none] [] (n, I, J, R) 0 0) ∧ ((g_wi (J 208 (e + 2)) (lN 0) (lN 1)) = 0 → q_W L (d + 2) 116 q_m116 Q 68 [some (.ref 192), some (.int (nI e)), some (.long (J 208 e)), none, some (.long (J 208 (e + 1))), none] [] (n, I, J, R) 0 0)
        refine ⟨fun h65 => ?_, fun h65 => ?_⟩
        · skip
          refine q_k 1 ?_
          show q_W L (d + 2) 116 q_m116 Q 71 [some (.ref 192), some (.int (nI e)), some (.long (J 208 e)), none, some (.long (J 208 (e + 1))), none] [.ref 192] (n, I, J, R) 0 0
          refine q_gR (b := 208) rfl rfl (⟨Nat.lt_of_lt_of_le (by decide) hK.1, rfl⟩) (hK.2.1 192 15 208 rfl) ?_
          refine q_k 3 ?_
          show q_W L (d + 2) 116 q_m116 Q 78 [some (.ref 192), some (.int (nI e)), some (.long (J 208 e)), none, some (.long (J 208 (e + 1))), none] [.int ((nI e) + (nI 7)), .ref 208] (n, I, J, R) 0 0
          refine q_top (w := nI (e + 7)) (nI_add _ _) ?_
          refine q_lal (m := e + 7) rfl (⟨by decide, Nat.lt_of_lt_of_le (by decide) hK.1, rfl⟩) (by omega) (rfl) ?_
          refine q_k 2 ?_
          show q_W L (d + 2) 116 q_m116 Q 85 [some (.ref 192), some (.int (nI e)), some (.long (J 208 e)), none, some (.long (J 208 (e + 1))), none] [.long (lN 2147483645), .long (lN 2), .long (J 208 (e + 7))] (n, I, J, R) 0 0
          refine q_cs (as := [.long (J 208 (e + 7)), .long (lN 2), .long (lN 2147483645)]) (rs := []) rfl rfl rfl rfl rfl ?_
          refine m_within  ?_
          show q_W L (d + 2) 116 q_m116 Q 88 [some (.ref 192), some (.int (nI e)), some (.long (J 208 e)), none, some (.long (J 208 (e + 1))), none] [.int (g_wi (J 208 (e + 7)) (lN 2) (lN 2147483645))] (n, I, J, R) 0 0
          refine q_one rfl rfl ?_
          show ((g_wi (J 208 (e + 7)) (lN 2) (lN 2147483645)) = 0 → q_W L (d + 2) 116 q_m116 Q 129 [some (.ref 192), some (.int (nI e)), some (.long (J 208 e)), none, some (.long (J 208 (e + 1))), none] [] (n, I, J, R) 0 0) ∧ (¬ (g_wi (J 208 (e + 7)) (lN 2) (lN 2147483645)) = 0 → q_W L (d + 2) 116 q_m116 Q 91 [some (.ref 192), some (.int (nI e)), some (.long (J 208 e)), none, some (.long (J 208 (e + 1))), none] [] (n, I, J, R) 0 0)
          refine ⟨fun h88 => ?_, fun h88 => ?_⟩
          · skip
            refine q_k 1 ?_
            show q_W L (d + 2) 116 q_m116 Q 130 [some (.ref 192), some (.int (nI e)), some (.long (J 208 e)), none, some (.long (J 208 (e + 1))), none] [.int (nI 1)] (n, I, J, R) 0 0
            refine q_one rfl rfl ?_
            show q_bz (nI 1) ∧ Q (some (.int (nI 1))) (n, I, J, R)
            refine ⟨Or.inr rfl, ?_⟩
            simp only [g_mal, if_neg h25, if_neg h37, if_neg h49, if_neg h65, if_pos h88] at hQ
            exact hQ
          · skip
            refine q_k 1 ?_
            show q_W L (d + 2) 116 q_m116 Q 92 [some (.ref 192), some (.int (nI e)), some (.long (J 208 e)), none, some (.long (J 208 (e + 1))), none] [.ref 192] (n, I, J, R) 0 0
            refine q_gR (b := 208) rfl rfl (⟨Nat.lt_of_lt_of_le (by decide) hK.1, rfl⟩) (hK.2.1 192 15 208 rfl) ?_
            refine q_k 3 ?_
            show q_W L (d + 2) 116 q_m116 Q 99 [some (.ref 192), some (.int (nI e)), some (.long (J 208 e)), none, some (.long (J 208 (e + 1))), none] [.int ((nI e) + (nI 8)), .ref 208] (n, I, J, R) 0 0
            refine q_top (w := nI (e + 8)) (nI_add _ _) ?_
            refine q_lal (m := e + 8) rfl (⟨by decide, Nat.lt_of_lt_of_le (by decide) hK.1, rfl⟩) (by omega) (rfl) ?_
            refine q_k 2 ?_
            show q_W L (d + 2) 116 q_m116 Q 104 [some (.ref 192), some (.int (nI e)), some (.long (J 208 e)), none, some (.long (J 208 (e + 1))), none] [.long (lN 1000), .long (lN 0), .long (J 208 (e + 8))] (n, I, J, R) 0 0
            refine q_cs (as := [.long (J 208 (e + 8)), .long (lN 0), .long (lN 1000)]) (rs := []) rfl rfl rfl rfl rfl ?_
            refine m_within  ?_
            show q_W L (d + 2) 116 q_m116 Q 107 [some (.ref 192), some (.int (nI e)), some (.long (J 208 e)), none, some (.long (J 208 (e + 1))), none] [.int (g_wi (J 208 (e + 8)) (lN 0) (lN 1000))] (n, I, J, R) 0 0
            refine q_one rfl rfl ?_
            show ((g_wi (J 208 (e + 8)) (lN 0) (lN 1000)) = 0 → q_W L (d + 2) 116 q_m116 Q 129 [some (.ref 192), some (.int (nI e)), some (.long (J 208 e)), none, some (.long (J 208 (e + 1))), none] [] (n, I, J, R) 0 0) ∧ (¬ (g_wi (J 208 (e + 8)) (lN 0) (lN 1000)) = 0 → q_W L (d + 2) 116 q_m116 Q 110 [some (.ref 192), some (.int (nI e)), some (.long (J 208 e)), none, some (.long (J 208 (e + 1))), none] [] (n, I, J, R) 0 0)
            refine ⟨fun h107 => ?_, fun h107 => ?_⟩
            · skip
              refine q_k 1 ?_
              show q_W L (d + 2) 116 q_m116 Q 130 [some (.ref 192), some (.int (nI e)), some (.long (J 208 e)), none, some (.long (J 208 (e + 1))), none] [.int (nI 1)] (n, I, J, R) 0 0
              refine q_one rfl rfl ?_
              show q_bz (nI 1) ∧ Q (some (.int (nI 1))) (n, I, J, R)
              refine ⟨Or.inr rfl, ?_⟩
              simp only [g_mal, if_neg h25, if_neg h37, if_neg h49, if_neg h65, if_neg h88, if_pos h107] at hQ
              exact hQ
            · skip
              refine q_k 1 ?_
              show q_W L (d + 2) 116 q_m116 Q 111 [some (.ref 192), some (.int (nI e)), some (.long (J 208 e)), none, some (.long (J 208 (e + 1))), none] [.ref 192] (n, I, J, R) 0 0
              refine q_gR (b := 208) rfl rfl (⟨Nat.lt_of_lt_of_le (by decide) hK.1, rfl⟩) (hK.2.1 192 15 208 rfl) ?_
              refine q_k 3 ?_
              show q_W L (d + 2) 116 q_m116 Q 118 [some (.ref 192), some (.int (nI e)), some (.long (J 208 e)), none, some (.long (J 208 (e + 1))), none] [.int ((nI e) + (nI 9)), .ref 208] (n, I, J, R) 0 0
              refine q_top (w := nI (e + 9)) (nI_add _ _) ?_
              refine q_lal (m := e + 9) rfl (⟨by decide, Nat.lt_of_lt_of_le (by decide) hK.1, rfl⟩) (by omega) (rfl) ?_
              refine q_k 2 ?_
              show q_W L (d + 2) 116 q_m116 Q 123 [some (.ref 192), some (.int (nI e)), some (.long (J 208 e)), none, some (.long (J 208 (e + 1))), none] [.long (lN 1000), .long (lN 0), .long (J 208 (e + 9))] (n, I, J, R) 0 0
              refine q_cs (as := [.long (J 208 (e + 9)), .long (lN 0), .long (lN 1000)]) (rs := []) rfl rfl rfl rfl rfl ?_
              refine m_within  ?_
              show q_W L (d + 2) 116 q_m116 Q 126 [some (.ref 192), some (.int (nI e)), some (.long (J 208 e)), none, some (.long (J 208 (e + 1))), none] [.int (g_wi (J 208 (e + 9)) (lN 0) (lN 1000))] (n, I, J, R) 0 0
              refine q_one rfl rfl ?_
              show (¬ (g_wi (J 208 (e + 9)) (lN 0) (lN 1000)) = 0 → q_W L (d + 2) 116 q_m116 Q 131 [some (.ref 192), some (.int (nI e)), some (.long (J 208 e)), none, some (.long (J 208 (e + 1))), none] [] (n, I, J, R) 0 0) ∧ ((g_wi (J 208 (e + 9)) (lN 0) (lN 1000)) = 0 → q_W L (d + 2) 116 q_m116 Q 129 [some (.ref 192), some (.int (nI e)), some (.long (J 208 e)), none, some (.long (J 208 (e + 1))), none] [] (n, I, J, R) 0 0)
              refine ⟨fun h126 => ?_, fun h126 => ?_⟩
              · skip
                refine q_k 1 ?_
                show q_W L (d + 2) 116 q_m116 Q 132 [some (.ref 192), some (.int (nI e)), some (.long (J 208 e)), none, some (.long (J 208 (e + 1))), none] [.ref 192] (n, I, J, R) 0 0
                refine q_gR (b := 208) rfl rfl (⟨Nat.lt_of_lt_of_le (by decide) hK.1, rfl⟩) (hK.2.1 192 15 208 rfl) ?_
                refine q_k 3 ?_
                show q_W L (d + 2) 116 q_m116 Q 138 [some (.ref 192), some (.int (nI e)), some (.long (J 208 e)), none, some (.long (J 208 (e + 1))), none] [.int ((nI e) + (nI 2)), .ref 208] (n, I, J, R) 0 0
                refine q_top (w := nI (e + 2)) (nI_add _ _) ?_
                refine q_lal (m := e + 2) rfl (⟨by decide, Nat.lt_of_lt_of_le (by decide) hK.1, rfl⟩) (by omega) (rfl) ?_
                refine q_k 2 ?_
                show q_W L (d + 2) 116 q_m116 Q 141 [some (.ref 192), some (.int (nI e)), some (.long (J 208 e)), none, some (.long (J 208 (e + 1))), none] [.int (lg_cmp (J 208 (e + 2)) (lN 0))] (n, I, J, R) 0 0
                refine q_one rfl rfl ?_
                show (¬ (lg_cmp (J 208 (e + 2)) (lN 0)) = 0 → q_W L (d + 2) 116 q_m116 Q 192 [some (.ref 192), some (.int (nI e)), some (.long (J 208 e)), none, some (.long (J 208 (e + 1))), none] [] (n, I, J, R) 0 0) ∧ ((lg_cmp (J 208 (e + 2)) (lN 0)) = 0 → q_W L (d + 2) 116 q_m116 Q 144 [some (.ref 192), some (.int (nI e)), some (.long (J 208 e)), none, some (.long (J 208 (e + 1))), none] [] (n, I, J, R) 0 0)
                refine ⟨fun h141 => ?_, fun h141 => ?_⟩
                · skip
                  rw [lg_cmp_eq] at h141
                  refine q_k 1 ?_
                  show q_W L (d + 2) 116 q_m116 Q 193 [some (.ref 192), some (.int (nI e)), some (.long (J 208 e)), none, some (.long (J 208 (e + 1))), none] [.int (nI 0)] (n, I, J, R) 0 0
                  refine q_one rfl rfl ?_
                  show q_bz (nI 0) ∧ Q (some (.int (nI 0))) (n, I, J, R)
                  refine ⟨Or.inl rfl, ?_⟩
                  simp only [g_mal, if_neg h25, if_neg h37, if_neg h49, if_neg h65, if_neg h88, if_neg h107, if_neg h126, if_neg h141] at hQ
                  exact hQ
                · skip
                  rw [lg_cmp_eq] at h141
                  obtain ⟨a, -, ha, fa⟩ := g_wi_n (by decide) (by decide) h25
                  refine q_k 1 ?_
                  show q_W L (d + 2) 116 q_m116 Q 145 [some (.ref 192), some (.int (nI e)), some (.long (J 208 e)), none, some (.long (J 208 (e + 1))), none] [.ref 192] (n, I, J, R) 0 0
                  refine q_gR (b := 208) rfl rfl (⟨Nat.lt_of_lt_of_le (by decide) hK.1, rfl⟩) (hK.2.1 192 15 208 rfl) ?_
                  refine q_k 3 ?_
                  show q_W L (d + 2) 116 q_m116 Q 151 [some (.ref 192), some (.int (nI e)), some (.long (J 208 e)), none, some (.long (J 208 (e + 1))), none] [.int ((nI e) + (nI 3)), .ref 208] (n, I, J, R) 0 0
                  refine q_top (w := nI (e + 3)) (nI_add _ _) ?_
                  refine q_lal (m := e + 3) rfl (⟨by decide, Nat.lt_of_lt_of_le (by decide) hK.1, rfl⟩) (by omega) (rfl) ?_
                  refine q_k 1 ?_
                  show q_W L (d + 2) 116 q_m116 Q 153 [some (.ref 192), some (.int (nI e)), some (.long (J 208 e)), none, some (.long (J 208 (e + 1))), none] [.ref 192, .long (J 208 (e + 3))] (n, I, J, R) 0 0
                  refine q_gR (b := 197) rfl rfl (⟨Nat.lt_of_lt_of_le (by decide) hK.1, rfl⟩) (hK.2.1 192 4 197 rfl) ?_
                  refine q_k 3 ?_
                  show q_W L (d + 2) 116 q_m116 Q 159 [some (.ref 192), some (.int (nI e)), some (.long (J 208 e)), none, some (.long (J 208 (e + 1))), none] [.int ((J 208 e).toInt32), .int (nI 2), .ref 197, .long (J 208 (e + 3))] (n, I, J, R) 0 0
                  refine q_top (w := nI a) (by rw [fa]; exact lN_i _) ?_
                  refine q_k 1 ?_
                  show q_W L (d + 2) 116 q_m116 Q 160 [some (.ref 192), some (.int (nI e)), some (.long (J 208 e)), none, some (.long (J 208 (e + 1))), none] [.int ((nI 2) * (nI a)), .ref 197, .long (J 208 (e + 3))] (n, I, J, R) 0 0
                  refine q_top (w := nI (2 * a)) (pk_mul _ _) ?_
                  refine q_k 2 ?_
                  show q_W L (d + 2) 116 q_m116 Q 162 [some (.ref 192), some (.int (nI e)), some (.long (J 208 e)), none, some (.long (J 208 (e + 1))), none] [.int ((nI (2 * a)) + (nI 1)), .ref 197, .long (J 208 (e + 3))] (n, I, J, R) 0 0
                  refine q_top (w := nI (2 * a + 1)) (nI_add _ _) ?_
                  refine q_ial (m := 2 * a + 1) rfl (⟨by decide, Nat.lt_of_lt_of_le (by decide) hK.1, rfl⟩) (by omega) (rfl) ?_
                  refine q_k 2 ?_
                  show q_W L (d + 2) 116 q_m116 Q 165 [some (.ref 192), some (.int (nI e)), some (.long (J 208 e)), none, some (.long (J 208 (e + 1))), none] [.int (lg_cmp (J 208 (e + 3)) ((I 197 (2 * a + 1)).toInt64))] (n, I, J, R) 0 0
                  refine q_one rfl rfl ?_
                  show (¬ (lg_cmp (J 208 (e + 3)) ((I 197 (2 * a + 1)).toInt64)) = 0 → q_W L (d + 2) 116 q_m116 Q 188 [some (.ref 192), some (.int (nI e)), some (.long (J 208 e)), none, some (.long (J 208 (e + 1))), none] [] (n, I, J, R) 0 0) ∧ ((lg_cmp (J 208 (e + 3)) ((I 197 (2 * a + 1)).toInt64)) = 0 → q_W L (d + 2) 116 q_m116 Q 168 [some (.ref 192), some (.int (nI e)), some (.long (J 208 e)), none, some (.long (J 208 (e + 1))), none] [] (n, I, J, R) 0 0)
                  refine ⟨fun h165 => ?_, fun h165 => ?_⟩
                  · skip
                    rw [lg_cmp_eq] at h165
                    refine q_k 2 ?_
                    show q_W L (d + 2) 116 q_m116 Q 193 [some (.ref 192), some (.int (nI e)), some (.long (J 208 e)), none, some (.long (J 208 (e + 1))), none] [.int (nI 1)] (n, I, J, R) 0 0
                    refine q_one rfl rfl ?_
                    show q_bz (nI 1) ∧ Q (some (.int (nI 1))) (n, I, J, R)
                    refine ⟨Or.inr rfl, ?_⟩
                    simp only [g_mal, if_neg h25, if_neg h37, if_neg h49, if_neg h65, if_neg h88, if_neg h107, if_neg h126, if_pos h141] at hQ
                    rw [fa, lN_i, g_cl (by omega)] at hQ
                    simp only [if_neg h165] at hQ
                    exact hQ
                  · skip
                    rw [lg_cmp_eq] at h165
                    refine q_k 1 ?_
                    show q_W L (d + 2) 116 q_m116 Q 169 [some (.ref 192), some (.int (nI e)), some (.long (J 208 e)), none, some (.long (J 208 (e + 1))), none] [.ref 192] (n, I, J, R) 0 0
                    refine q_gR (b := 208) rfl rfl (⟨Nat.lt_of_lt_of_le (by decide) hK.1, rfl⟩) (hK.2.1 192 15 208 rfl) ?_
                    refine q_k 3 ?_
                    show q_W L (d + 2) 116 q_m116 Q 175 [some (.ref 192), some (.int (nI e)), some (.long (J 208 e)), none, some (.long (J 208 (e + 1))), none] [.int ((nI e) + (nI 4)), .ref 208] (n, I, J, R) 0 0
                    refine q_top (w := nI (e + 4)) (nI_add _ _) ?_
                    refine q_lal (m := e + 4) rfl (⟨by decide, Nat.lt_of_lt_of_le (by decide) hK.1, rfl⟩) (by omega) (rfl) ?_
                    refine q_k 2 ?_
                    show q_W L (d + 2) 116 q_m116 Q 182 [some (.ref 192), some (.int (nI e)), some (.long (J 208 e)), none, some (.long (J 208 (e + 1))), none] [.long (lN 2147483645), .long (lN 2), .long (J 208 (e + 4))] (n, I, J, R) 0 0
                    refine q_cs (as := [.long (J 208 (e + 4)), .long (lN 2), .long (lN 2147483645)]) (rs := []) rfl rfl rfl rfl rfl ?_
                    refine m_within  ?_
                    show q_W L (d + 2) 116 q_m116 Q 185 [some (.ref 192), some (.int (nI e)), some (.long (J 208 e)), none, some (.long (J 208 (e + 1))), none] [.int (g_wi (J 208 (e + 4)) (lN 2) (lN 2147483645))] (n, I, J, R) 0 0
                    refine q_one rfl rfl ?_
                    show (¬ (g_wi (J 208 (e + 4)) (lN 2) (lN 2147483645)) = 0 → q_W L (d + 2) 116 q_m116 Q 192 [some (.ref 192), some (.int (nI e)), some (.long (J 208 e)), none, some (.long (J 208 (e + 1))), none] [] (n, I, J, R) 0 0) ∧ ((g_wi (J 208 (e + 4)) (lN 2) (lN 2147483645)) = 0 → q_W L (d + 2) 116 q_m116 Q 188 [some (.ref 192), some (.int (nI e)), some (.long (J 208 e)), none, some (.long (J 208 (e + 1))), none] [] (n, I, J, R) 0 0)
                    refine ⟨fun h185 => ?_, fun h185 => ?_⟩
                    · skip
                      refine q_k 1 ?_
                      show q_W L (d + 2) 116 q_m116 Q 193 [some (.ref 192), some (.int (nI e)), some (.long (J 208 e)), none, some (.long (J 208 (e + 1))), none] [.int (nI 0)] (n, I, J, R) 0 0
                      refine q_one rfl rfl ?_
                      show q_bz (nI 0) ∧ Q (some (.int (nI 0))) (n, I, J, R)
                      refine ⟨Or.inl rfl, ?_⟩
                      simp only [g_mal, if_neg h25, if_neg h37, if_neg h49, if_neg h65, if_neg h88, if_neg h107, if_neg h126, if_pos h141] at hQ
                      rw [fa, lN_i, g_cl (by omega)] at hQ
                      simp only [if_pos h165, if_neg h185] at hQ
                      exact hQ
                    · skip
                      refine q_k 2 ?_
                      show q_W L (d + 2) 116 q_m116 Q 193 [some (.ref 192), some (.int (nI e)), some (.long (J 208 e)), none, some (.long (J 208 (e + 1))), none] [.int (nI 1)] (n, I, J, R) 0 0
                      refine q_one rfl rfl ?_
                      show q_bz (nI 1) ∧ Q (some (.int (nI 1))) (n, I, J, R)
                      refine ⟨Or.inr rfl, ?_⟩
                      simp only [g_mal, if_neg h25, if_neg h37, if_neg h49, if_neg h65, if_neg h88, if_neg h107, if_neg h126, if_pos h141] at hQ
                      rw [fa, lN_i, g_cl (by omega)] at hQ
                      simp only [if_pos h165, if_pos h185] at hQ
                      exact hQ
              · skip
                refine q_k 1 ?_
                show q_W L (d + 2) 116 q_m116 Q 130 [some (.ref 192), some (.int (nI e)), some (.long (J 208 e)), none, some (.long (J 208 (e + 1))), none] [.int (nI 1)] (n, I, J, R) 0 0
                refine q_one rfl rfl ?_
                show q_bz (nI 1) ∧ Q (some (.int (nI 1))) (n, I, J, R)
                refine ⟨Or.inr rfl, ?_⟩
                simp only [g_mal, if_neg h25, if_neg h37, if_neg h49, if_neg h65, if_neg h88, if_neg h107, if_pos h126] at hQ
                exact hQ
        · skip
          refine q_k 1 ?_
          show q_W L (d + 2) 116 q_m116 Q 69 [some (.ref 192), some (.int (nI e)), some (.long (J 208 e)), none, some (.long (J 208 (e + 1))), none] [.int (nI 1)] (n, I, J, R) 0 0
          refine q_one rfl rfl ?_
          show q_bz (nI 1) ∧ Q (some (.int (nI 1))) (n, I, J, R)
          refine ⟨Or.inr rfl, ?_⟩
          simp only [g_mal, if_neg h25, if_neg h37, if_neg h49, if_pos h65] at hQ
          exact hQ
