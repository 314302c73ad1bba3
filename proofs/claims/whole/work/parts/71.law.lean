theorem q_lt5 {L i : Nat} (hL : L ≤ 10000) (h : L < i + 5) (hi : i ≤ 10000 := by omega) : nI L - nI 5 < nI i := by
  rcases Nat.lt_or_ge L 5 with h5 | h5
  · exact Int32.lt_of_lt_of_le (pk_sneg (by decide) h5) (Int32.not_lt.mp (nI_pos (by omega)))
  · rw [pk_sub h5]; exact nI_lt (by omega) (by omega)
theorem q_ge5 {L i : Nat} (hL : L ≤ 10000) (hi : i ≤ 10000) (h : ¬ nI L - nI 5 < nI i) : i + 5 ≤ L := by
  rcases Nat.lt_or_ge L (i + 5) with h5 | h5
  · exact absurd (q_lt5 hL h5 hi) h
  · exact h5
set_option maxHeartbeats 16000000 in
theorem law_loop {L d : Nat} {Q : q_Q} {S0 : Nat → Int32} (hL10 : Nat.ble L 10000 = true) (hLn : L ≤ 2560) (hQ : ∀ μ, Q (some (.int (nI 1))) μ) : ∀ (j k n : Nat) (I : q_I) (J : q_L) (R : q_R) (uc us : Nat), 5 * (k + j) ≤ L + 5 ∧ L < 5 * (k + j) + 5 → uc ≤ 211 + 10 * k → us ≤ 10448 + 334 * k → CR n I J R I J → I 2 = S0 → q_W L (d + 9) 131 q_m131 Q 18 [some (.ref 2), some (.ref 3), some (.ref 192), some (.int (nI (5 * k)))] [] (n, I, J, R) uc us := by
  intro j
  induction j with
  | zero =>
    intro k n I J R uc us hkj huc hus hC hS
    show q_W L (d + 9) 131 q_m131 Q 18 [some (.ref 2), some (.ref 3), some (.ref 192), some (.int (nI (5 * k)))] [] (n, I, J, R) uc us
    refine q_k 2 ?_
    show q_W L (d + 9) 131 q_m131 Q 20 [some (.ref 2), some (.ref 3), some (.ref 192), some (.int (nI (5 * k)))] [.ref 2, .int (nI (5 * k))] (n, I, J, R) uc us
    refine q_one rfl rfl ?_
    show 2 = 2 ∧ q_W L (d + 9) 131 q_m131 Q 21 [some (.ref 2), some (.ref 3), some (.ref 192), some (.int (nI (5 * k)))] [.int (nI L), .int (nI (5 * k))] (n, I, J, R) uc us
    refine ⟨rfl, ?_⟩
    refine q_k 2 ?_
    show q_W L (d + 9) 131 q_m131 Q 23 [some (.ref 2), some (.ref 3), some (.ref 192), some (.int (nI (5 * k)))] [.int ((nI L) - (nI 5)), .int (nI (5 * k))] (n, I, J, R) uc us
    refine q_one rfl rfl ?_
    show (((nI L) - (nI 5)) < (nI (5 * k)) → q_W L (d + 9) 131 q_m131 Q 779 [some (.ref 2), some (.ref 3), some (.ref 192), some (.int (nI (5 * k)))] [] (n, I, J, R) uc us) ∧ (¬ ((nI L) - (nI 5)) < (nI (5 * k)) → q_W L (d + 9) 131 q_m131 Q 26 [some (.ref 2), some (.ref 3), some (.ref 192), some (.int (nI (5 * k)))] [] (n, I, J, R) uc us)
    refine ⟨fun _ => ?_, fun z => absurd (q_lt5 (by omega) (by omega)) z⟩
    refine q_k 1 ?_
    show q_W L (d + 9) 131 q_m131 Q 780 [some (.ref 2), some (.ref 3), some (.ref 192), some (.int (nI (5 * k)))] [.int (nI 1)] (n, I, J, R) uc us
    refine q_one rfl rfl ?_
    show q_bz (nI 1) ∧ Q (some (.int (nI 1))) (n, I, J, R)
    refine ⟨Or.inr rfl, ?_⟩
    exact hQ _
  | succ j ih =>
    intro k n I J R uc us hkj huc hus hC hS
    show q_W L (d + 9) 131 q_m131 Q 18 [some (.ref 2), some (.ref 3), some (.ref 192), some (.int (nI (5 * k)))] [] (n, I, J, R) uc us
    refine q_k 2 ?_
    show q_W L (d + 9) 131 q_m131 Q 20 [some (.ref 2), some (.ref 3), some (.ref 192), some (.int (nI (5 * k)))] [.ref 2, .int (nI (5 * k))] (n, I, J, R) uc us
    refine q_one rfl rfl ?_
    show 2 = 2 ∧ q_W L (d + 9) 131 q_m131 Q 21 [some (.ref 2), some (.ref 3), some (.ref 192), some (.int (nI (5 * k)))] [.int (nI L), .int (nI (5 * k))] (n, I, J, R) uc us
    refine ⟨rfl, ?_⟩
    refine q_k 2 ?_
    show q_W L (d + 9) 131 q_m131 Q 23 [some (.ref 2), some (.ref 3), some (.ref 192), some (.int (nI (5 * k)))] [.int ((nI L) - (nI 5)), .int (nI (5 * k))] (n, I, J, R) uc us
    refine q_one rfl rfl ?_
    show (((nI L) - (nI 5)) < (nI (5 * k)) → q_W L (d + 9) 131 q_m131 Q 779 [some (.ref 2), some (.ref 3), some (.ref 192), some (.int (nI (5 * k)))] [] (n, I, J, R) uc us) ∧ (¬ ((nI L) - (nI 5)) < (nI (5 * k)) → q_W L (d + 9) 131 q_m131 Q 26 [some (.ref 2), some (.ref 3), some (.ref 192), some (.int (nI (5 * k)))] [] (n, I, J, R) uc us)
    refine ⟨fun h23 => ?_, fun h23 => ?_⟩
    · skip
      refine q_k 1 ?_
      show q_W L (d + 9) 131 q_m131 Q 780 [some (.ref 2), some (.ref 3), some (.ref 192), some (.int (nI (5 * k)))] [.int (nI 1)] (n, I, J, R) uc us
      refine q_one rfl rfl ?_
      show q_bz (nI 1) ∧ Q (some (.int (nI 1))) (n, I, J, R)
      refine ⟨Or.inr rfl, ?_⟩
      exact hQ _
    · skip
      have hk5 : 5 * k + 5 ≤ L := q_ge5 (by omega) (by omega) h23
      refine q_k 2 ?_
      show q_W L (d + 9) 131 q_m131 Q 28 [some (.ref 2), some (.ref 3), some (.ref 192), some (.int (nI (5 * k)))] [.int (nI (5 * k)), .ref 2] (n, I, J, R) uc us
      refine q_sal rfl rfl (by omega) (hL10) ?_
      refine q_k 2 ?_
      show q_W L (d + 9) 131 q_m131 Q 32 [some (.ref 2), some (.ref 3), some (.ref 192), some (.int (nI (5 * k)))] [.int ((I 2 (5 * k)) &&& (nI 15))] (n, I, J, R) uc us
      refine q_one rfl rfl ?_
      show (((I 2 (5 * k)) &&& (nI 15)).toInt < 0 ∨ 15 < ((I 2 (5 * k)) &&& (nI 15)).toInt → q_W L (d + 9) 131 q_m131 Q 773 [some (.ref 2), some (.ref 3), some (.ref 192), some (.int (nI (5 * k)))] [] (n, I, J, R) uc us) ∧ (((I 2 (5 * k)) &&& (nI 15)).toInt = 0 → q_W L (d + 9) 131 q_m131 Q 112 [some (.ref 2), some (.ref 3), some (.ref 192), some (.int (nI (5 * k)))] [] (n, I, J, R) uc us) ∧ (((I 2 (5 * k)) &&& (nI 15)).toInt = 0 + 1 → q_W L (d + 9) 131 q_m131 Q 175 [some (.ref 2), some (.ref 3), some (.ref 192), some (.int (nI (5 * k)))] [] (n, I, J, R) uc us) ∧ (((I 2 (5 * k)) &&& (nI 15)).toInt = 0 + 1 + 1 → q_W L (d + 9) 131 q_m131 Q 198 [some (.ref 2), some (.ref 3), some (.ref 192), some (.int (nI (5 * k)))] [] (n, I, J, R) uc us) ∧ (((I 2 (5 * k)) &&& (nI 15)).toInt = 0 + 1 + 1 + 1 → q_W L (d + 9) 131 q_m131 Q 231 [some (.ref 2), some (.ref 3), some (.ref 192), some (.int (nI (5 * k)))] [] (n, I, J, R) uc us) ∧ (((I 2 (5 * k)) &&& (nI 15)).toInt = 0 + 1 + 1 + 1 + 1 → q_W L (d + 9) 131 q_m131 Q 274 [some (.ref 2), some (.ref 3), some (.ref 192), some (.int (nI (5 * k)))] [] (n, I, J, R) uc us) ∧ (((I 2 (5 * k)) &&& (nI 15)).toInt = 0 + 1 + 1 + 1 + 1 + 1 → q_W L (d + 9) 131 q_m131 Q 307 [some (.ref 2), some (.ref 3), some (.ref 192), some (.int (nI (5 * k)))] [] (n, I, J, R) uc us) ∧ (((I 2 (5 * k)) &&& (nI 15)).toInt = 0 + 1 + 1 + 1 + 1 + 1 + 1 → q_W L (d + 9) 131 q_m131 Q 380 [some (.ref 2), some (.ref 3), some (.ref 192), some (.int (nI (5 * k)))] [] (n, I, J, R) uc us) ∧ (((I 2 (5 * k)) &&& (nI 15)).toInt = 0 + 1 + 1 + 1 + 1 + 1 + 1 + 1 → q_W L (d + 9) 131 q_m131 Q 453 [some (.ref 2), some (.ref 3), some (.ref 192), some (.int (nI (5 * k)))] [] (n, I, J, R) uc us) ∧ (((I 2 (5 * k)) &&& (nI 15)).toInt = 0 + 1 + 1 + 1 + 1 + 1 + 1 + 1 + 1 → q_W L (d + 9) 131 q_m131 Q 476 [some (.ref 2), some (.ref 3), some (.ref 192), some (.int (nI (5 * k)))] [] (n, I, J, R) uc us) ∧ (((I 2 (5 * k)) &&& (nI 15)).toInt = 0 + 1 + 1 + 1 + 1 + 1 + 1 + 1 + 1 + 1 → q_W L (d + 9) 131 q_m131 Q 499 [some (.ref 2), some (.ref 3), some (.ref 192), some (.int (nI (5 * k)))] [] (n, I, J, R) uc us) ∧ (((I 2 (5 * k)) &&& (nI 15)).toInt = 0 + 1 + 1 + 1 + 1 + 1 + 1 + 1 + 1 + 1 + 1 → q_W L (d + 9) 131 q_m131 Q 513 [some (.ref 2), some (.ref 3), some (.ref 192), some (.int (nI (5 * k)))] [] (n, I, J, R) uc us) ∧ (((I 2 (5 * k)) &&& (nI 15)).toInt = 0 + 1 + 1 + 1 + 1 + 1 + 1 + 1 + 1 + 1 + 1 + 1 → q_W L (d + 9) 131 q_m131 Q 547 [some (.ref 2), some (.ref 3), some (.ref 192), some (.int (nI (5 * k)))] [] (n, I, J, R) uc us) ∧ (((I 2 (5 * k)) &&& (nI 15)).toInt = 0 + 1 + 1 + 1 + 1 + 1 + 1 + 1 + 1 + 1 + 1 + 1 + 1 → q_W L (d + 9) 131 q_m131 Q 580 [some (.ref 2), some (.ref 3), some (.ref 192), some (.int (nI (5 * k)))] [] (n, I, J, R) uc us) ∧ (((I 2 (5 * k)) &&& (nI 15)).toInt = 0 + 1 + 1 + 1 + 1 + 1 + 1 + 1 + 1 + 1 + 1 + 1 + 1 + 1 → q_W L (d + 9) 131 q_m131 Q 613 [some (.ref 2), some (.ref 3), some (.ref 192), some (.int (nI (5 * k)))] [] (n, I, J, R) uc us) ∧ (((I 2 (5 * k)) &&& (nI 15)).toInt = 0 + 1 + 1 + 1 + 1 + 1 + 1 + 1 + 1 + 1 + 1 + 1 + 1 + 1 + 1 → q_W L (d + 9) 131 q_m131 Q 666 [some (.ref 2), some (.ref 3), some (.ref 192), some (.int (nI (5 * k)))] [] (n, I, J, R) uc us) ∧ (((I 2 (5 * k)) &&& (nI 15)).toInt = 0 + 1 + 1 + 1 + 1 + 1 + 1 + 1 + 1 + 1 + 1 + 1 + 1 + 1 + 1 + 1 → q_W L (d + 9) 131 q_m131 Q 699 [some (.ref 2), some (.ref 3), some (.ref 192), some (.int (nI (5 * k)))] [] (n, I, J, R) uc us) ∧ True
      refine ⟨fun hsw => ?_, fun hsw => ?_, fun hsw => ?_, fun hsw => ?_, fun hsw => ?_, fun hsw => ?_, fun hsw => ?_, fun hsw => ?_, fun hsw => ?_, fun hsw => ?_, fun hsw => ?_, fun hsw => ?_, fun hsw => ?_, fun hsw => ?_, fun hsw => ?_, fun hsw => ?_, fun hsw => ?_, trivial⟩
      · skip
        refine q_k 1 ?_
        show q_W L (d + 9) 131 q_m131 Q 776 [some (.ref 2), some (.ref 3), some (.ref 192), some (.int ((nI (5 * k)) + nI 5))] [] (n, I, J, R) uc us
        rw [show (nI (5 * k)) + nI 5 = nI (5 * k + 5) from nI_add _ _]
        refine q_k 1 ?_
        show q_W L (d + 9) 131 q_m131 Q 18 [some (.ref 2), some (.ref 3), some (.ref 192), some (.int (nI (5 * k + 5)))] [] (n, I, J, R) uc us
        exact ih (k + 1) n I J R uc us (by omega) (by omega) (by omega) hC hS
      · skip
        have hw32 : ((I 2 (5 * k)) &&& (nI 15)) = nI 0 := q_swi hsw (by decide)
        refine q_k 5 ?_
        show q_W L (d + 9) 131 q_m131 Q 117 [some (.ref 2), some (.ref 3), some (.ref 192), some (.int (nI (5 * k)))] [.int ((nI (5 * k)) + (nI 1)), .ref 2, .ref 3] (n, I, J, R) uc us
        refine q_top (w := nI (5 * k + 1)) (nI_add _ _) ?_
        refine q_sal rfl rfl (by omega) (hL10) ?_
        refine q_k 4 ?_
        show q_W L (d + 9) 131 q_m131 Q 122 [some (.ref 2), some (.ref 3), some (.ref 192), some (.int (nI (5 * k)))] [.int ((nI (5 * k)) + (nI 2)), .ref 2, .int (I 2 (5 * k + 1)), .ref 3] (n, I, J, R) uc us
        refine q_top (w := nI (5 * k + 2)) (nI_add _ _) ?_
        refine q_sal rfl rfl (by omega) (hL10) ?_
        refine q_k 7 ?_
        show q_W L (d + 9) 131 q_m131 Q 131 [some (.ref 2), some (.ref 3), some (.ref 192), some (.int (nI (5 * k)))] [.int ((nI (5 * k)) + (nI 3)), .ref 2, .long (((I 2 (5 * k + 2)).toInt64) <<< (((nI 32)).toInt64 &&& 63)), .int (I 2 (5 * k + 1)), .ref 3] (n, I, J, R) uc us
        refine q_top (w := nI (5 * k + 3)) (nI_add _ _) ?_
        refine q_sal rfl rfl (by omega) (hL10) ?_
        refine q_k 4 ?_
        show q_W L (d + 9) 131 q_m131 Q 138 [some (.ref 2), some (.ref 3), some (.ref 192), some (.int (nI (5 * k)))] [.long ((((I 2 (5 * k + 2)).toInt64) <<< (((nI 32)).toInt64 &&& 63)) ||| (((I 2 (5 * k + 3)).toInt64) &&& (lN 4294967295))), .int (I 2 (5 * k + 1)), .ref 3] (n, I, J, R) uc us
        refine q_cv (as := [.int (I 2 (5 * k + 1)), .long ((((I 2 (5 * k + 2)).toInt64) <<< (((nI 32)).toInt64 &&& 63)) ||| (((I 2 (5 * k + 3)).toInt64) &&& (lN 4294967295)))]) (rs := []) rfl rfl rfl (⟨by have := hC.K.1; omega, rfl⟩) rfl rfl ?_
        refine k_register hC (fun n1 I1 J1 R1 c1 c2 c3 => ?_)
        have hC1 := c1.K
        have hq := q_nmf_ms c2
        show q_W L (d + 9) 131 q_m131 Q 141 [some (.ref 2), some (.ref 3), some (.ref 192), some (.int (nI (5 * k)))] [.int ((f_register (I 2 (5 * k + 1)) ((((I 2 (5 * k + 2)).toInt64) <<< (((nI 32)).toInt64 &&& 63)) ||| (((I 2 (5 * k + 3)).toInt64) &&& (lN 4294967295))) I).1)] (n1, I1, J1, R1) uc us
        refine q_k 5 ?_
        show q_W L (d + 9) 131 q_m131 Q 146 [some (.ref 2), some (.ref 3), some (.ref 192), some (.int (nI (5 * k)))] [.int ((nI (5 * k)) + (nI 1)), .ref 2, .ref 192, .int ((f_register (I 2 (5 * k + 1)) ((((I 2 (5 * k + 2)).toInt64) <<< (((nI 32)).toInt64 &&& 63)) ||| (((I 2 (5 * k + 3)).toInt64) &&& (lN 4294967295))) I).1)] (n1, I1, J1, R1) uc us
        refine q_top (w := nI (5 * k + 1)) (nI_add _ _) ?_
        refine q_sal rfl rfl (by omega) (hL10) ?_
        refine q_top (w := I 2 (5 * k + 1)) (congrFun (c2 2 (by omega)) _) ?_
        refine q_k 4 ?_
        show q_W L (d + 9) 131 q_m131 Q 151 [some (.ref 2), some (.ref 3), some (.ref 192), some (.int (nI (5 * k)))] [.int ((nI (5 * k)) + (nI 2)), .ref 2, .int (I 2 (5 * k + 1)), .ref 192, .int ((f_register (I 2 (5 * k + 1)) ((((I 2 (5 * k + 2)).toInt64) <<< (((nI 32)).toInt64 &&& 63)) ||| (((I 2 (5 * k + 3)).toInt64) &&& (lN 4294967295))) I).1)] (n1, I1, J1, R1) uc us
        refine q_top (w := nI (5 * k + 2)) (nI_add _ _) ?_
        refine q_sal rfl rfl (by omega) (hL10) ?_
        refine q_top (w := I 2 (5 * k + 2)) (congrFun (c2 2 (by omega)) _) ?_
        refine q_k 7 ?_
        show q_W L (d + 9) 131 q_m131 Q 160 [some (.ref 2), some (.ref 3), some (.ref 192), some (.int (nI (5 * k)))] [.int ((nI (5 * k)) + (nI 3)), .ref 2, .long (((I 2 (5 * k + 2)).toInt64) <<< (((nI 32)).toInt64 &&& 63)), .int (I 2 (5 * k + 1)), .ref 192, .int ((f_register (I 2 (5 * k + 1)) ((((I 2 (5 * k + 2)).toInt64) <<< (((nI 32)).toInt64 &&& 63)) ||| (((I 2 (5 * k + 3)).toInt64) &&& (lN 4294967295))) I).1)] (n1, I1, J1, R1) uc us
        refine q_top (w := nI (5 * k + 3)) (nI_add _ _) ?_
        refine q_sal rfl rfl (by omega) (hL10) ?_
        refine q_top (w := I 2 (5 * k + 3)) (congrFun (c2 2 (by omega)) _) ?_
        refine q_k 4 ?_
        show q_W L (d + 9) 131 q_m131 Q 167 [some (.ref 2), some (.ref 3), some (.ref 192), some (.int (nI (5 * k)))] [.long ((((I 2 (5 * k + 2)).toInt64) <<< (((nI 32)).toInt64 &&& 63)) ||| (((I 2 (5 * k + 3)).toInt64) &&& (lN 4294967295))), .int (I 2 (5 * k + 1)), .ref 192, .int ((f_register (I 2 (5 * k + 1)) ((((I 2 (5 * k + 2)).toInt64) <<< (((nI 32)).toInt64 &&& 63)) ||| (((I 2 (5 * k + 3)).toInt64) &&& (lN 4294967295))) I).1)] (n1, I1, J1, R1) uc us
        refine q_cv (as := [.int (I 2 (5 * k + 1)), .long ((((I 2 (5 * k + 2)).toInt64) <<< (((nI 32)).toInt64 &&& 63)) ||| (((I 2 (5 * k + 3)).toInt64) &&& (lN 4294967295)))]) (rs := [.int ((f_register (I 2 (5 * k + 1)) ((((I 2 (5 * k + 2)).toInt64) <<< (((nI 32)).toInt64 &&& 63)) ||| (((I 2 (5 * k + 3)).toInt64) &&& (lN 4294967295))) I).1)]) rfl rfl rfl (⟨by have := hC1.1; omega, rfl⟩) rfl rfl ?_
        refine m_register hC1 (fun I3 ms mf => ?_)
        have hc := f_register_c hq (I 2 (5 * k + 1)) ((((I 2 (5 * k + 2)).toInt64) <<< (((nI 32)).toInt64 &&& 63)) ||| (((I 2 (5 * k + 3)).toInt64) &&& (lN 4294967295)))
        show q_W L (d + 9) 131 q_m131 Q 170 [some (.ref 2), some (.ref 3), some (.ref 192), some (.int (nI (5 * k)))] [.int ((f_register (I 2 (5 * k + 1)) ((((I 2 (5 * k + 2)).toInt64) <<< (((nI 32)).toInt64 &&& 63)) ||| (((I 2 (5 * k + 3)).toInt64) &&& (lN 4294967295))) I1).1), .int ((f_register (I 2 (5 * k + 1)) ((((I 2 (5 * k + 2)).toInt64) <<< (((nI 32)).toInt64 &&& 63)) ||| (((I 2 (5 * k + 3)).toInt64) &&& (lN 4294967295))) I).1)] (n1, I3, J1, R1) uc us
        refine q_one rfl rfl ?_
        show (((f_register (I 2 (5 * k + 1)) ((((I 2 (5 * k + 2)).toInt64) <<< (((nI 32)).toInt64 &&& 63)) ||| (((I 2 (5 * k + 3)).toInt64) &&& (lN 4294967295))) I).1) = ((f_register (I 2 (5 * k + 1)) ((((I 2 (5 * k + 2)).toInt64) <<< (((nI 32)).toInt64 &&& 63)) ||| (((I 2 (5 * k + 3)).toInt64) &&& (lN 4294967295))) I1).1) → q_W L (d + 9) 131 q_m131 Q 773 [some (.ref 2), some (.ref 3), some (.ref 192), some (.int (nI (5 * k)))] [] (n1, I3, J1, R1) uc us) ∧ (¬ ((f_register (I 2 (5 * k + 1)) ((((I 2 (5 * k + 2)).toInt64) <<< (((nI 32)).toInt64 &&& 63)) ||| (((I 2 (5 * k + 3)).toInt64) &&& (lN 4294967295))) I).1) = ((f_register (I 2 (5 * k + 1)) ((((I 2 (5 * k + 2)).toInt64) <<< (((nI 32)).toInt64 &&& 63)) ||| (((I 2 (5 * k + 3)).toInt64) &&& (lN 4294967295))) I1).1) → q_W L (d + 9) 131 q_m131 Q 173 [some (.ref 2), some (.ref 3), some (.ref 192), some (.int (nI (5 * k)))] [] (n1, I3, J1, R1) uc us)
        refine ⟨fun _ => ?_, fun z => absurd (hc.1.symm) z⟩
        refine q_k 1 ?_
        show q_W L (d + 9) 131 q_m131 Q 776 [some (.ref 2), some (.ref 3), some (.ref 192), some (.int ((nI (5 * k)) + nI 5))] [] (n1, I3, J1, R1) uc us
        rw [show (nI (5 * k)) + nI 5 = nI (5 * k + 5) from nI_add _ _]
        refine q_k 1 ?_
        show q_W L (d + 9) 131 q_m131 Q 18 [some (.ref 2), some (.ref 3), some (.ref 192), some (.int (nI (5 * k + 5)))] [] (n1, I3, J1, R1) uc us
        exact ih (k + 1) n1 I3 J1 R1 (uc) (us) (by omega) (by omega) (by omega) (L_close c1 (q_ms_tr ms hc.2) (q_J_mN c3) mf (fun _ _ => rfl)) (by rw [mf 2 (by omega), c2 2 (by omega)]; exact hS)
      · skip
        have hw32 : ((I 2 (5 * k)) &&& (nI 15)) = nI 1 := q_swi hsw (by decide)
        refine q_k 5 ?_
        show q_W L (d + 9) 131 q_m131 Q 180 [some (.ref 2), some (.ref 3), some (.ref 192), some (.int (nI (5 * k)))] [.int ((nI (5 * k)) + (nI 1)), .ref 2, .ref 3] (n, I, J, R) uc us
        refine q_top (w := nI (5 * k + 1)) (nI_add _ _) ?_
        refine q_sal rfl rfl (by omega) (hL10) ?_
        refine q_cv (as := [.int (I 2 (5 * k + 1))]) (rs := []) rfl rfl rfl (⟨by have := hC.K.1; omega, rfl⟩) rfl rfl ?_
        refine k_rotate hC (fun n1 I1 J1 R1 c1 c2 c3 => ?_)
        have hC1 := c1.K
        have hq := q_nmf_ms c2
        show q_W L (d + 9) 131 q_m131 Q 184 [some (.ref 2), some (.ref 3), some (.ref 192), some (.int (nI (5 * k)))] [.int ((f_rotate (I 2 (5 * k + 1)) I).1)] (n1, I1, J1, R1) uc us
        refine q_k 5 ?_
        show q_W L (d + 9) 131 q_m131 Q 189 [some (.ref 2), some (.ref 3), some (.ref 192), some (.int (nI (5 * k)))] [.int ((nI (5 * k)) + (nI 1)), .ref 2, .ref 192, .int ((f_rotate (I 2 (5 * k + 1)) I).1)] (n1, I1, J1, R1) uc us
        refine q_top (w := nI (5 * k + 1)) (nI_add _ _) ?_
        refine q_sal rfl rfl (by omega) (hL10) ?_
        refine q_top (w := I 2 (5 * k + 1)) (congrFun (c2 2 (by omega)) _) ?_
        refine q_cv (as := [.int (I 2 (5 * k + 1))]) (rs := [.int ((f_rotate (I 2 (5 * k + 1)) I).1)]) rfl rfl rfl (⟨by have := hC1.1; omega, rfl⟩) rfl rfl ?_
        refine m_rotate hC1 (fun I3 ms mf => ?_)
        have hc := f_rotate_c hq (I 2 (5 * k + 1))
        show q_W L (d + 9) 131 q_m131 Q 193 [some (.ref 2), some (.ref 3), some (.ref 192), some (.int (nI (5 * k)))] [.int ((f_rotate (I 2 (5 * k + 1)) I1).1), .int ((f_rotate (I 2 (5 * k + 1)) I).1)] (n1, I3, J1, R1) uc us
        refine q_one rfl rfl ?_
        show (((f_rotate (I 2 (5 * k + 1)) I).1) = ((f_rotate (I 2 (5 * k + 1)) I1).1) → q_W L (d + 9) 131 q_m131 Q 773 [some (.ref 2), some (.ref 3), some (.ref 192), some (.int (nI (5 * k)))] [] (n1, I3, J1, R1) uc us) ∧ (¬ ((f_rotate (I 2 (5 * k + 1)) I).1) = ((f_rotate (I 2 (5 * k + 1)) I1).1) → q_W L (d + 9) 131 q_m131 Q 196 [some (.ref 2), some (.ref 3), some (.ref 192), some (.int (nI (5 * k)))] [] (n1, I3, J1, R1) uc us)
        refine ⟨fun _ => ?_, fun z => absurd (hc.1.symm) z⟩
        refine q_k 1 ?_
        show q_W L (d + 9) 131 q_m131 Q 776 [some (.ref 2), some (.ref 3), some (.ref 192), some (.int ((nI (5 * k)) + nI 5))] [] (n1, I3, J1, R1) uc us
        rw [show (nI (5 * k)) + nI 5 = nI (5 * k + 5) from nI_add _ _]
        refine q_k 1 ?_
        show q_W L (d + 9) 131 q_m131 Q 18 [some (.ref 2), some (.ref 3), some (.ref 192), some (.int (nI (5 * k + 5)))] [] (n1, I3, J1, R1) uc us
        exact ih (k + 1) n1 I3 J1 R1 (uc) (us) (by omega) (by omega) (by omega) (L_close c1 (q_ms_tr ms hc.2) (q_J_mN c3) mf (fun _ _ => rfl)) (by rw [mf 2 (by omega), c2 2 (by omega)]; exact hS)
      · skip
        have hw32 : ((I 2 (5 * k)) &&& (nI 15)) = nI 2 := q_swi hsw (by decide)
        refine q_k 5 ?_
        show q_W L (d + 9) 131 q_m131 Q 203 [some (.ref 2), some (.ref 3), some (.ref 192), some (.int (nI (5 * k)))] [.int ((nI (5 * k)) + (nI 1)), .ref 2, .ref 3] (n, I, J, R) uc us
        refine q_top (w := nI (5 * k + 1)) (nI_add _ _) ?_
        refine q_sal rfl rfl (by omega) (hL10) ?_
        refine q_k 4 ?_
        show q_W L (d + 9) 131 q_m131 Q 208 [some (.ref 2), some (.ref 3), some (.ref 192), some (.int (nI (5 * k)))] [.int ((nI (5 * k)) + (nI 2)), .ref 2, .int (I 2 (5 * k + 1)), .ref 3] (n, I, J, R) uc us
        refine q_top (w := nI (5 * k + 2)) (nI_add _ _) ?_
        refine q_sal rfl rfl (by omega) (hL10) ?_
        refine q_cv (as := [.int (I 2 (5 * k + 1)), .int (I 2 (5 * k + 2))]) (rs := []) rfl rfl rfl (⟨by have := hC.K.1; omega, rfl⟩) rfl rfl ?_
        refine k_prekeys hC (fun n1 I1 J1 R1 c1 c2 c3 => ?_)
        have hC1 := c1.K
        have hq := q_nmf_ms c2
        show q_W L (d + 9) 131 q_m131 Q 212 [some (.ref 2), some (.ref 3), some (.ref 192), some (.int (nI (5 * k)))] [.int ((f_prekeys (I 2 (5 * k + 1)) (I 2 (5 * k + 2)) I).1)] (n1, I1, J1, R1) uc us
        refine q_k 5 ?_
        show q_W L (d + 9) 131 q_m131 Q 217 [some (.ref 2), some (.ref 3), some (.ref 192), some (.int (nI (5 * k)))] [.int ((nI (5 * k)) + (nI 1)), .ref 2, .ref 192, .int ((f_prekeys (I 2 (5 * k + 1)) (I 2 (5 * k + 2)) I).1)] (n1, I1, J1, R1) uc us
        refine q_top (w := nI (5 * k + 1)) (nI_add _ _) ?_
        refine q_sal rfl rfl (by omega) (hL10) ?_
        refine q_top (w := I 2 (5 * k + 1)) (congrFun (c2 2 (by omega)) _) ?_
        refine q_k 4 ?_
        show q_W L (d + 9) 131 q_m131 Q 222 [some (.ref 2), some (.ref 3), some (.ref 192), some (.int (nI (5 * k)))] [.int ((nI (5 * k)) + (nI 2)), .ref 2, .int (I 2 (5 * k + 1)), .ref 192, .int ((f_prekeys (I 2 (5 * k + 1)) (I 2 (5 * k + 2)) I).1)] (n1, I1, J1, R1) uc us
        refine q_top (w := nI (5 * k + 2)) (nI_add _ _) ?_
        refine q_sal rfl rfl (by omega) (hL10) ?_
        refine q_top (w := I 2 (5 * k + 2)) (congrFun (c2 2 (by omega)) _) ?_
        refine q_cv (as := [.int (I 2 (5 * k + 1)), .int (I 2 (5 * k + 2))]) (rs := [.int ((f_prekeys (I 2 (5 * k + 1)) (I 2 (5 * k + 2)) I).1)]) rfl rfl rfl (⟨by have := hC1.1; omega, rfl⟩) rfl rfl ?_
        refine m_prekeys hC1 (CR_p1 hC c2) (fun I3 ms mf => ?_)
        have hc := f_prekeys_c hq (I 2 (5 * k + 1)) (I 2 (5 * k + 2))
        show q_W L (d + 9) 131 q_m131 Q 226 [some (.ref 2), some (.ref 3), some (.ref 192), some (.int (nI (5 * k)))] [.int ((f_prekeys (I 2 (5 * k + 1)) (I 2 (5 * k + 2)) I1).1), .int ((f_prekeys (I 2 (5 * k + 1)) (I 2 (5 * k + 2)) I).1)] (n1, I3, J1, R1) uc us
        refine q_one rfl rfl ?_
        show (((f_prekeys (I 2 (5 * k + 1)) (I 2 (5 * k + 2)) I).1) = ((f_prekeys (I 2 (5 * k + 1)) (I 2 (5 * k + 2)) I1).1) → q_W L (d + 9) 131 q_m131 Q 773 [some (.ref 2), some (.ref 3), some (.ref 192), some (.int (nI (5 * k)))] [] (n1, I3, J1, R1) uc us) ∧ (¬ ((f_prekeys (I 2 (5 * k + 1)) (I 2 (5 * k + 2)) I).1) = ((f_prekeys (I 2 (5 * k + 1)) (I 2 (5 * k + 2)) I1).1) → q_W L (d + 9) 131 q_m131 Q 229 [some (.ref 2), some (.ref 3), some (.ref 192), some (.int (nI (5 * k)))] [] (n1, I3, J1, R1) uc us)
        refine ⟨fun _ => ?_, fun z => absurd (hc.1.symm) z⟩
        refine q_k 1 ?_
        show q_W L (d + 9) 131 q_m131 Q 776 [some (.ref 2), some (.ref 3), some (.ref 192), some (.int ((nI (5 * k)) + nI 5))] [] (n1, I3, J1, R1) uc us
        rw [show (nI (5 * k)) + nI 5 = nI (5 * k + 5) from nI_add _ _]
        refine q_k 1 ?_
        show q_W L (d + 9) 131 q_m131 Q 18 [some (.ref 2), some (.ref 3), some (.ref 192), some (.int (nI (5 * k + 5)))] [] (n1, I3, J1, R1) uc us
        exact ih (k + 1) n1 I3 J1 R1 (uc) (us) (by omega) (by omega) (by omega) (L_close c1 (q_ms_tr ms hc.2) (q_J_mN c3) mf (fun _ _ => rfl)) (by rw [mf 2 (by omega), c2 2 (by omega)]; exact hS)
      · skip
        have hw32 : ((I 2 (5 * k)) &&& (nI 15)) = nI 3 := q_swi hsw (by decide)
        refine q_k 5 ?_
        show q_W L (d + 9) 131 q_m131 Q 236 [some (.ref 2), some (.ref 3), some (.ref 192), some (.int (nI (5 * k)))] [.int ((nI (5 * k)) + (nI 1)), .ref 2, .ref 3] (n, I, J, R) uc us
        refine q_top (w := nI (5 * k + 1)) (nI_add _ _) ?_
        refine q_sal rfl rfl (by omega) (hL10) ?_
        refine q_k 4 ?_
        show q_W L (d + 9) 131 q_m131 Q 241 [some (.ref 2), some (.ref 3), some (.ref 192), some (.int (nI (5 * k)))] [.int ((nI (5 * k)) + (nI 2)), .ref 2, .int (I 2 (5 * k + 1)), .ref 3] (n, I, J, R) uc us
        refine q_top (w := nI (5 * k + 2)) (nI_add _ _) ?_
        refine q_sal rfl rfl (by omega) (hL10) ?_
        refine q_k 4 ?_
        show q_W L (d + 9) 131 q_m131 Q 246 [some (.ref 2), some (.ref 3), some (.ref 192), some (.int (nI (5 * k)))] [.int ((nI (5 * k)) + (nI 3)), .ref 2, .int (I 2 (5 * k + 2)), .int (I 2 (5 * k + 1)), .ref 3] (n, I, J, R) uc us
        refine q_top (w := nI (5 * k + 3)) (nI_add _ _) ?_
        refine q_sal rfl rfl (by omega) (hL10) ?_
        refine q_cv (as := [.int (I 2 (5 * k + 1)), .int (I 2 (5 * k + 2)), .int (I 2 (5 * k + 3))]) (rs := []) rfl rfl rfl (⟨by have := hC.K.1; omega, rfl⟩) rfl rfl ?_
        refine k_spoil hC (fun n1 I1 J1 R1 c1 c2 c3 => ?_)
        have hC1 := c1.K
        have hq := q_nmf_ms c2
        show q_W L (d + 9) 131 q_m131 Q 250 [some (.ref 2), some (.ref 3), some (.ref 192), some (.int (nI (5 * k)))] [.int ((f_spoil (I 2 (5 * k + 1)) (I 2 (5 * k + 2)) (I 2 (5 * k + 3)) I).1)] (n1, I1, J1, R1) uc us
        refine q_k 5 ?_
        show q_W L (d + 9) 131 q_m131 Q 255 [some (.ref 2), some (.ref 3), some (.ref 192), some (.int (nI (5 * k)))] [.int ((nI (5 * k)) + (nI 1)), .ref 2, .ref 192, .int ((f_spoil (I 2 (5 * k + 1)) (I 2 (5 * k + 2)) (I 2 (5 * k + 3)) I).1)] (n1, I1, J1, R1) uc us
        refine q_top (w := nI (5 * k + 1)) (nI_add _ _) ?_
        refine q_sal rfl rfl (by omega) (hL10) ?_
        refine q_top (w := I 2 (5 * k + 1)) (congrFun (c2 2 (by omega)) _) ?_
        refine q_k 4 ?_
        show q_W L (d + 9) 131 q_m131 Q 260 [some (.ref 2), some (.ref 3), some (.ref 192), some (.int (nI (5 * k)))] [.int ((nI (5 * k)) + (nI 2)), .ref 2, .int (I 2 (5 * k + 1)), .ref 192, .int ((f_spoil (I 2 (5 * k + 1)) (I 2 (5 * k + 2)) (I 2 (5 * k + 3)) I).1)] (n1, I1, J1, R1) uc us
        refine q_top (w := nI (5 * k + 2)) (nI_add _ _) ?_
        refine q_sal rfl rfl (by omega) (hL10) ?_
        refine q_top (w := I 2 (5 * k + 2)) (congrFun (c2 2 (by omega)) _) ?_
        refine q_k 4 ?_
        show q_W L (d + 9) 131 q_m131 Q 265 [some (.ref 2), some (.ref 3), some (.ref 192), some (.int (nI (5 * k)))] [.int ((nI (5 * k)) + (nI 3)), .ref 2, .int (I 2 (5 * k + 2)), .int (I 2 (5 * k + 1)), .ref 192, .int ((f_spoil (I 2 (5 * k + 1)) (I 2 (5 * k + 2)) (I 2 (5 * k + 3)) I).1)] (n1, I1, J1, R1) uc us
        refine q_top (w := nI (5 * k + 3)) (nI_add _ _) ?_
        refine q_sal rfl rfl (by omega) (hL10) ?_
        refine q_top (w := I 2 (5 * k + 3)) (congrFun (c2 2 (by omega)) _) ?_
        refine q_cv (as := [.int (I 2 (5 * k + 1)), .int (I 2 (5 * k + 2)), .int (I 2 (5 * k + 3))]) (rs := [.int ((f_spoil (I 2 (5 * k + 1)) (I 2 (5 * k + 2)) (I 2 (5 * k + 3)) I).1)]) rfl rfl rfl (⟨by have := hC1.1; omega, rfl⟩) rfl rfl ?_
        refine m_spoil hC1 (fun I3 ms mf => ?_)
        have hc := f_spoil_c hq (I 2 (5 * k + 1)) (I 2 (5 * k + 2)) (I 2 (5 * k + 3))
        show q_W L (d + 9) 131 q_m131 Q 269 [some (.ref 2), some (.ref 3), some (.ref 192), some (.int (nI (5 * k)))] [.int ((f_spoil (I 2 (5 * k + 1)) (I 2 (5 * k + 2)) (I 2 (5 * k + 3)) I1).1), .int ((f_spoil (I 2 (5 * k + 1)) (I 2 (5 * k + 2)) (I 2 (5 * k + 3)) I).1)] (n1, I3, J1, R1) uc us
        refine q_one rfl rfl ?_
        show (((f_spoil (I 2 (5 * k + 1)) (I 2 (5 * k + 2)) (I 2 (5 * k + 3)) I).1) = ((f_spoil (I 2 (5 * k + 1)) (I 2 (5 * k + 2)) (I 2 (5 * k + 3)) I1).1) → q_W L (d + 9) 131 q_m131 Q 773 [some (.ref 2), some (.ref 3), some (.ref 192), some (.int (nI (5 * k)))] [] (n1, I3, J1, R1) uc us) ∧ (¬ ((f_spoil (I 2 (5 * k + 1)) (I 2 (5 * k + 2)) (I 2 (5 * k + 3)) I).1) = ((f_spoil (I 2 (5 * k + 1)) (I 2 (5 * k + 2)) (I 2 (5 * k + 3)) I1).1) → q_W L (d + 9) 131 q_m131 Q 272 [some (.ref 2), some (.ref 3), some (.ref 192), some (.int (nI (5 * k)))] [] (n1, I3, J1, R1) uc us)
        refine ⟨fun _ => ?_, fun z => absurd (hc.1.symm) z⟩
        refine q_k 1 ?_
        show q_W L (d + 9) 131 q_m131 Q 776 [some (.ref 2), some (.ref 3), some (.ref 192), some (.int ((nI (5 * k)) + nI 5))] [] (n1, I3, J1, R1) uc us
        rw [show (nI (5 * k)) + nI 5 = nI (5 * k + 5) from nI_add _ _]
        refine q_k 1 ?_
        show q_W L (d + 9) 131 q_m131 Q 18 [some (.ref 2), some (.ref 3), some (.ref 192), some (.int (nI (5 * k + 5)))] [] (n1, I3, J1, R1) uc us
        exact ih (k + 1) n1 I3 J1 R1 (uc) (us) (by omega) (by omega) (by omega) (L_close c1 (q_ms_tr ms hc.2) (q_J_mN c3) mf (fun _ _ => rfl)) (by rw [mf 2 (by omega), c2 2 (by omega)]; exact hS)
      · skip
        have hw32 : ((I 2 (5 * k)) &&& (nI 15)) = nI 4 := q_swi hsw (by decide)
        refine q_k 5 ?_
        show q_W L (d + 9) 131 q_m131 Q 279 [some (.ref 2), some (.ref 3), some (.ref 192), some (.int (nI (5 * k)))] [.int ((nI (5 * k)) + (nI 1)), .ref 2, .ref 3] (n, I, J, R) uc us
        refine q_top (w := nI (5 * k + 1)) (nI_add _ _) ?_
        refine q_sal rfl rfl (by omega) (hL10) ?_
        refine q_k 4 ?_
        show q_W L (d + 9) 131 q_m131 Q 284 [some (.ref 2), some (.ref 3), some (.ref 192), some (.int (nI (5 * k)))] [.int ((nI (5 * k)) + (nI 2)), .ref 2, .int (I 2 (5 * k + 1)), .ref 3] (n, I, J, R) uc us
        refine q_top (w := nI (5 * k + 2)) (nI_add _ _) ?_
        refine q_sal rfl rfl (by omega) (hL10) ?_
        refine q_cvA (as := [.int (I 2 (5 * k + 1)), .int (I 2 (5 * k + 2))]) (rs := []) rfl rfl rfl (⟨by have := hC.K.1; omega, rfl⟩) rfl rfl ⟨(by show uc + 10 ≤ 6000; omega), (by show us + 334 ≤ 200000; omega)⟩ ?_
        refine k_begin hC (fun n1 I1 J1 R1 c1 c2 c3 => ?_)
        have hC1 := c1.K
        have hq := q_nmf_ms c2
        show q_W L (d + 9) 131 q_m131 Q 288 [some (.ref 2), some (.ref 3), some (.ref 192), some (.int (nI (5 * k)))] [.int ((f_begin (I 2 (5 * k + 1)) (I 2 (5 * k + 2)) I).1)] (n1, I1, J1, R1) (uc + 10) (us + 334)
        refine q_k 5 ?_
        show q_W L (d + 9) 131 q_m131 Q 293 [some (.ref 2), some (.ref 3), some (.ref 192), some (.int (nI (5 * k)))] [.int ((nI (5 * k)) + (nI 1)), .ref 2, .ref 192, .int ((f_begin (I 2 (5 * k + 1)) (I 2 (5 * k + 2)) I).1)] (n1, I1, J1, R1) (uc + 10) (us + 334)
        refine q_top (w := nI (5 * k + 1)) (nI_add _ _) ?_
        refine q_sal rfl rfl (by omega) (hL10) ?_
        refine q_top (w := I 2 (5 * k + 1)) (congrFun (c2 2 (by omega)) _) ?_
        refine q_k 4 ?_
        show q_W L (d + 9) 131 q_m131 Q 298 [some (.ref 2), some (.ref 3), some (.ref 192), some (.int (nI (5 * k)))] [.int ((nI (5 * k)) + (nI 2)), .ref 2, .int (I 2 (5 * k + 1)), .ref 192, .int ((f_begin (I 2 (5 * k + 1)) (I 2 (5 * k + 2)) I).1)] (n1, I1, J1, R1) (uc + 10) (us + 334)
        refine q_top (w := nI (5 * k + 2)) (nI_add _ _) ?_
        refine q_sal rfl rfl (by omega) (hL10) ?_
        refine q_top (w := I 2 (5 * k + 2)) (congrFun (c2 2 (by omega)) _) ?_
        refine q_cv (as := [.int (I 2 (5 * k + 1)), .int (I 2 (5 * k + 2))]) (rs := [.int ((f_begin (I 2 (5 * k + 1)) (I 2 (5 * k + 2)) I).1)]) rfl rfl rfl (⟨by have := hC1.1; omega, rfl⟩) rfl rfl ?_
        refine m_begin hC1 (fun b hb => by obtain ⟨f, c, h1, h2, h3, h4⟩ := CR_p1 hC c2 b hb; exact ⟨f, h1, h3⟩) (CR_p2 hC c2) (fun I3 ms mf => ?_)
        have hc := f_begin_c hq (I 2 (5 * k + 1)) (I 2 (5 * k + 2))
        show q_W L (d + 9) 131 q_m131 Q 302 [some (.ref 2), some (.ref 3), some (.ref 192), some (.int (nI (5 * k)))] [.int ((f_begin (I 2 (5 * k + 1)) (I 2 (5 * k + 2)) I1).1), .int ((f_begin (I 2 (5 * k + 1)) (I 2 (5 * k + 2)) I).1)] (n1, I3, J1, R1) (uc + 10) (us + 334)
        refine q_one rfl rfl ?_
        show (((f_begin (I 2 (5 * k + 1)) (I 2 (5 * k + 2)) I).1) = ((f_begin (I 2 (5 * k + 1)) (I 2 (5 * k + 2)) I1).1) → q_W L (d + 9) 131 q_m131 Q 773 [some (.ref 2), some (.ref 3), some (.ref 192), some (.int (nI (5 * k)))] [] (n1, I3, J1, R1) (uc + 10) (us + 334)) ∧ (¬ ((f_begin (I 2 (5 * k + 1)) (I 2 (5 * k + 2)) I).1) = ((f_begin (I 2 (5 * k + 1)) (I 2 (5 * k + 2)) I1).1) → q_W L (d + 9) 131 q_m131 Q 305 [some (.ref 2), some (.ref 3), some (.ref 192), some (.int (nI (5 * k)))] [] (n1, I3, J1, R1) (uc + 10) (us + 334))
        refine ⟨fun _ => ?_, fun z => absurd (hc.1.symm) z⟩
        refine q_k 1 ?_
        show q_W L (d + 9) 131 q_m131 Q 776 [some (.ref 2), some (.ref 3), some (.ref 192), some (.int ((nI (5 * k)) + nI 5))] [] (n1, I3, J1, R1) (uc + 10) (us + 334)
        rw [show (nI (5 * k)) + nI 5 = nI (5 * k + 5) from nI_add _ _]
        refine q_k 1 ?_
        show q_W L (d + 9) 131 q_m131 Q 18 [some (.ref 2), some (.ref 3), some (.ref 192), some (.int (nI (5 * k + 5)))] [] (n1, I3, J1, R1) (uc + 10) (us + 334)
        exact ih (k + 1) n1 I3 J1 R1 (uc + 10) (us + 334) (by omega) (by omega) (by omega) (L_close c1 (q_ms_tr ms hc.2) (q_J_mN c3) mf (fun _ _ => rfl)) (by rw [mf 2 (by omega), c2 2 (by omega)]; exact hS)
      · skip
        have hw32 : ((I 2 (5 * k)) &&& (nI 15)) = nI 5 := q_swi hsw (by decide)
        refine q_k 5 ?_
        show q_W L (d + 9) 131 q_m131 Q 312 [some (.ref 2), some (.ref 3), some (.ref 192), some (.int (nI (5 * k)))] [.int ((nI (5 * k)) + (nI 1)), .ref 2, .ref 3] (n, I, J, R) uc us
        refine q_top (w := nI (5 * k + 1)) (nI_add _ _) ?_
        refine q_sal rfl rfl (by omega) (hL10) ?_
        refine q_k 4 ?_
        show q_W L (d + 9) 131 q_m131 Q 317 [some (.ref 2), some (.ref 3), some (.ref 192), some (.int (nI (5 * k)))] [.int ((nI (5 * k)) + (nI 2)), .ref 2, .int (I 2 (5 * k + 1)), .ref 3] (n, I, J, R) uc us
        refine q_top (w := nI (5 * k + 2)) (nI_add _ _) ?_
        refine q_sal rfl rfl (by omega) (hL10) ?_
        refine q_k 4 ?_
        show q_W L (d + 9) 131 q_m131 Q 322 [some (.ref 2), some (.ref 3), some (.ref 192), some (.int (nI (5 * k)))] [.int ((nI (5 * k)) + (nI 3)), .ref 2, .int (I 2 (5 * k + 2)), .int (I 2 (5 * k + 1)), .ref 3] (n, I, J, R) uc us
        refine q_top (w := nI (5 * k + 3)) (nI_add _ _) ?_
        refine q_sal rfl rfl (by omega) (hL10) ?_
        refine q_k 7 ?_
        show q_W L (d + 9) 131 q_m131 Q 331 [some (.ref 2), some (.ref 3), some (.ref 192), some (.int (nI (5 * k)))] [.int ((nI (5 * k)) + (nI 4)), .ref 2, .long (((I 2 (5 * k + 3)).toInt64) <<< (((nI 32)).toInt64 &&& 63)), .int (I 2 (5 * k + 2)), .int (I 2 (5 * k + 1)), .ref 3] (n, I, J, R) uc us
        refine q_top (w := nI (5 * k + 4)) (nI_add _ _) ?_
        refine q_sal rfl rfl (by omega) (hL10) ?_
        refine q_k 4 ?_
        show q_W L (d + 9) 131 q_m131 Q 338 [some (.ref 2), some (.ref 3), some (.ref 192), some (.int (nI (5 * k)))] [.long ((((I 2 (5 * k + 3)).toInt64) <<< (((nI 32)).toInt64 &&& 63)) ||| (((I 2 (5 * k + 4)).toInt64) &&& (lN 4294967295))), .int (I 2 (5 * k + 2)), .int (I 2 (5 * k + 1)), .ref 3] (n, I, J, R) uc us
        refine q_cv (as := [.int (I 2 (5 * k + 1)), .int (I 2 (5 * k + 2)), .long ((((I 2 (5 * k + 3)).toInt64) <<< (((nI 32)).toInt64 &&& 63)) ||| (((I 2 (5 * k + 4)).toInt64) &&& (lN 4294967295)))]) (rs := []) rfl rfl rfl (⟨by have := hC.K.1; omega, rfl⟩) rfl rfl ?_
        refine k_send hC (fun n1 I1 J1 R1 c1 c2 c3 => ?_)
        have hC1 := c1.K
        have hq := q_nmf_ms c2
        show q_W L (d + 9) 131 q_m131 Q 341 [some (.ref 2), some (.ref 3), some (.ref 192), some (.int (nI (5 * k)))] [.int ((f_send (I 2 (5 * k + 1)) (I 2 (5 * k + 2)) ((((I 2 (5 * k + 3)).toInt64) <<< (((nI 32)).toInt64 &&& 63)) ||| (((I 2 (5 * k + 4)).toInt64) &&& (lN 4294967295))) I J).1)] (n1, I1, J1, R1) uc us
        refine q_k 5 ?_
        show q_W L (d + 9) 131 q_m131 Q 346 [some (.ref 2), some (.ref 3), some (.ref 192), some (.int (nI (5 * k)))] [.int ((nI (5 * k)) + (nI 1)), .ref 2, .ref 192, .int ((f_send (I 2 (5 * k + 1)) (I 2 (5 * k + 2)) ((((I 2 (5 * k + 3)).toInt64) <<< (((nI 32)).toInt64 &&& 63)) ||| (((I 2 (5 * k + 4)).toInt64) &&& (lN 4294967295))) I J).1)] (n1, I1, J1, R1) uc us
        refine q_top (w := nI (5 * k + 1)) (nI_add _ _) ?_
        refine q_sal rfl rfl (by omega) (hL10) ?_
        refine q_top (w := I 2 (5 * k + 1)) (congrFun (c2 2 (by omega)) _) ?_
        refine q_k 4 ?_
        show q_W L (d + 9) 131 q_m131 Q 351 [some (.ref 2), some (.ref 3), some (.ref 192), some (.int (nI (5 * k)))] [.int ((nI (5 * k)) + (nI 2)), .ref 2, .int (I 2 (5 * k + 1)), .ref 192, .int ((f_send (I 2 (5 * k + 1)) (I 2 (5 * k + 2)) ((((I 2 (5 * k + 3)).toInt64) <<< (((nI 32)).toInt64 &&& 63)) ||| (((I 2 (5 * k + 4)).toInt64) &&& (lN 4294967295))) I J).1)] (n1, I1, J1, R1) uc us
        refine q_top (w := nI (5 * k + 2)) (nI_add _ _) ?_
        refine q_sal rfl rfl (by omega) (hL10) ?_
        refine q_top (w := I 2 (5 * k + 2)) (congrFun (c2 2 (by omega)) _) ?_
        refine q_k 4 ?_
        show q_W L (d + 9) 131 q_m131 Q 356 [some (.ref 2), some (.ref 3), some (.ref 192), some (.int (nI (5 * k)))] [.int ((nI (5 * k)) + (nI 3)), .ref 2, .int (I 2 (5 * k + 2)), .int (I 2 (5 * k + 1)), .ref 192, .int ((f_send (I 2 (5 * k + 1)) (I 2 (5 * k + 2)) ((((I 2 (5 * k + 3)).toInt64) <<< (((nI 32)).toInt64 &&& 63)) ||| (((I 2 (5 * k + 4)).toInt64) &&& (lN 4294967295))) I J).1)] (n1, I1, J1, R1) uc us
        refine q_top (w := nI (5 * k + 3)) (nI_add _ _) ?_
        refine q_sal rfl rfl (by omega) (hL10) ?_
        refine q_top (w := I 2 (5 * k + 3)) (congrFun (c2 2 (by omega)) _) ?_
        refine q_k 7 ?_
        show q_W L (d + 9) 131 q_m131 Q 365 [some (.ref 2), some (.ref 3), some (.ref 192), some (.int (nI (5 * k)))] [.int ((nI (5 * k)) + (nI 4)), .ref 2, .long (((I 2 (5 * k + 3)).toInt64) <<< (((nI 32)).toInt64 &&& 63)), .int (I 2 (5 * k + 2)), .int (I 2 (5 * k + 1)), .ref 192, .int ((f_send (I 2 (5 * k + 1)) (I 2 (5 * k + 2)) ((((I 2 (5 * k + 3)).toInt64) <<< (((nI 32)).toInt64 &&& 63)) ||| (((I 2 (5 * k + 4)).toInt64) &&& (lN 4294967295))) I J).1)] (n1, I1, J1, R1) uc us
        refine q_top (w := nI (5 * k + 4)) (nI_add _ _) ?_
        refine q_sal rfl rfl (by omega) (hL10) ?_
        refine q_top (w := I 2 (5 * k + 4)) (congrFun (c2 2 (by omega)) _) ?_
        refine q_k 4 ?_
        show q_W L (d + 9) 131 q_m131 Q 372 [some (.ref 2), some (.ref 3), some (.ref 192), some (.int (nI (5 * k)))] [.long ((((I 2 (5 * k + 3)).toInt64) <<< (((nI 32)).toInt64 &&& 63)) ||| (((I 2 (5 * k + 4)).toInt64) &&& (lN 4294967295))), .int (I 2 (5 * k + 2)), .int (I 2 (5 * k + 1)), .ref 192, .int ((f_send (I 2 (5 * k + 1)) (I 2 (5 * k + 2)) ((((I 2 (5 * k + 3)).toInt64) <<< (((nI 32)).toInt64 &&& 63)) ||| (((I 2 (5 * k + 4)).toInt64) &&& (lN 4294967295))) I J).1)] (n1, I1, J1, R1) uc us
        refine q_cv (as := [.int (I 2 (5 * k + 1)), .int (I 2 (5 * k + 2)), .long ((((I 2 (5 * k + 3)).toInt64) <<< (((nI 32)).toInt64 &&& 63)) ||| (((I 2 (5 * k + 4)).toInt64) &&& (lN 4294967295)))]) (rs := [.int ((f_send (I 2 (5 * k + 1)) (I 2 (5 * k + 2)) ((((I 2 (5 * k + 3)).toInt64) <<< (((nI 32)).toInt64 &&& 63)) ||| (((I 2 (5 * k + 4)).toInt64) &&& (lN 4294967295))) I J).1)]) rfl rfl rfl (⟨by have := hC1.1; omega, rfl⟩) rfl rfl ?_
        obtain ⟨E, hE⟩ := hC.en
        have hEI : I1 192 16 = nI E := by rw [c2 192 (by omega)]; exact hE.eM
        refine m_send hC1 hEI hE.e6 (CR_p2 hC c2) (fun I3 ms mf => ?_)
        have hc := f_send_c hq (I 2 (5 * k + 1)) (I 2 (5 * k + 2)) ((((I 2 (5 * k + 3)).toInt64) <<< (((nI 32)).toInt64 &&& 63)) ||| (((I 2 (5 * k + 4)).toInt64) &&& (lN 4294967295))) J1
        have hd := f_send_N (q_J_mN c3) (I 2 (5 * k + 1)) (I 2 (5 * k + 2)) ((((I 2 (5 * k + 3)).toInt64) <<< (((nI 32)).toInt64 &&& 63)) ||| (((I 2 (5 * k + 4)).toInt64) &&& (lN 4294967295))) I
        show q_W L (d + 9) 131 q_m131 Q 375 [some (.ref 2), some (.ref 3), some (.ref 192), some (.int (nI (5 * k)))] [.int ((f_send (I 2 (5 * k + 1)) (I 2 (5 * k + 2)) ((((I 2 (5 * k + 3)).toInt64) <<< (((nI 32)).toInt64 &&& 63)) ||| (((I 2 (5 * k + 4)).toInt64) &&& (lN 4294967295))) I1 J1).1), .int ((f_send (I 2 (5 * k + 1)) (I 2 (5 * k + 2)) ((((I 2 (5 * k + 3)).toInt64) <<< (((nI 32)).toInt64 &&& 63)) ||| (((I 2 (5 * k + 4)).toInt64) &&& (lN 4294967295))) I J).1)] (n1, I3, (f_send (I 2 (5 * k + 1)) (I 2 (5 * k + 2)) ((((I 2 (5 * k + 3)).toInt64) <<< (((nI 32)).toInt64 &&& 63)) ||| (((I 2 (5 * k + 4)).toInt64) &&& (lN 4294967295))) I1 J1).2.2, R1) uc us
        refine q_one rfl rfl ?_
        show (((f_send (I 2 (5 * k + 1)) (I 2 (5 * k + 2)) ((((I 2 (5 * k + 3)).toInt64) <<< (((nI 32)).toInt64 &&& 63)) ||| (((I 2 (5 * k + 4)).toInt64) &&& (lN 4294967295))) I J).1) = ((f_send (I 2 (5 * k + 1)) (I 2 (5 * k + 2)) ((((I 2 (5 * k + 3)).toInt64) <<< (((nI 32)).toInt64 &&& 63)) ||| (((I 2 (5 * k + 4)).toInt64) &&& (lN 4294967295))) I1 J1).1) → q_W L (d + 9) 131 q_m131 Q 773 [some (.ref 2), some (.ref 3), some (.ref 192), some (.int (nI (5 * k)))] [] (n1, I3, (f_send (I 2 (5 * k + 1)) (I 2 (5 * k + 2)) ((((I 2 (5 * k + 3)).toInt64) <<< (((nI 32)).toInt64 &&& 63)) ||| (((I 2 (5 * k + 4)).toInt64) &&& (lN 4294967295))) I1 J1).2.2, R1) uc us) ∧ (¬ ((f_send (I 2 (5 * k + 1)) (I 2 (5 * k + 2)) ((((I 2 (5 * k + 3)).toInt64) <<< (((nI 32)).toInt64 &&& 63)) ||| (((I 2 (5 * k + 4)).toInt64) &&& (lN 4294967295))) I J).1) = ((f_send (I 2 (5 * k + 1)) (I 2 (5 * k + 2)) ((((I 2 (5 * k + 3)).toInt64) <<< (((nI 32)).toInt64 &&& 63)) ||| (((I 2 (5 * k + 4)).toInt64) &&& (lN 4294967295))) I1 J1).1) → q_W L (d + 9) 131 q_m131 Q 378 [some (.ref 2), some (.ref 3), some (.ref 192), some (.int (nI (5 * k)))] [] (n1, I3, (f_send (I 2 (5 * k + 1)) (I 2 (5 * k + 2)) ((((I 2 (5 * k + 3)).toInt64) <<< (((nI 32)).toInt64 &&& 63)) ||| (((I 2 (5 * k + 4)).toInt64) &&& (lN 4294967295))) I1 J1).2.2, R1) uc us)
        refine ⟨fun _ => ?_, fun z => absurd ((hc.1.trans hd.1).symm) z⟩
        refine q_k 1 ?_
        show q_W L (d + 9) 131 q_m131 Q 776 [some (.ref 2), some (.ref 3), some (.ref 192), some (.int ((nI (5 * k)) + nI 5))] [] (n1, I3, (f_send (I 2 (5 * k + 1)) (I 2 (5 * k + 2)) ((((I 2 (5 * k + 3)).toInt64) <<< (((nI 32)).toInt64 &&& 63)) ||| (((I 2 (5 * k + 4)).toInt64) &&& (lN 4294967295))) I1 J1).2.2, R1) uc us
        rw [show (nI (5 * k)) + nI 5 = nI (5 * k + 5) from nI_add _ _]
        refine q_k 1 ?_
        show q_W L (d + 9) 131 q_m131 Q 18 [some (.ref 2), some (.ref 3), some (.ref 192), some (.int (nI (5 * k + 5)))] [] (n1, I3, (f_send (I 2 (5 * k + 1)) (I 2 (5 * k + 2)) ((((I 2 (5 * k + 3)).toInt64) <<< (((nI 32)).toInt64 &&& 63)) ||| (((I 2 (5 * k + 4)).toInt64) &&& (lN 4294967295))) I1 J1).2.2, R1) uc us
        exact ih (k + 1) n1 I3 _ R1 (uc) (us) (by omega) (by omega) (by omega) (L_close c1 (q_ms_tr ms (by rw [← hd.2.1]; exact hc.2.1)) (by rw [hc.2.2]; exact hd.2.2) mf (fun x hx => f_send_J (by omega))) (by rw [mf 2 (by omega), c2 2 (by omega)]; exact hS)
      · skip
        have hw32 : ((I 2 (5 * k)) &&& (nI 15)) = nI 6 := q_swi hsw (by decide)
        refine q_k 5 ?_
        show q_W L (d + 9) 131 q_m131 Q 385 [some (.ref 2), some (.ref 3), some (.ref 192), some (.int (nI (5 * k)))] [.int ((nI (5 * k)) + (nI 1)), .ref 2, .ref 3] (n, I, J, R) uc us
        refine q_top (w := nI (5 * k + 1)) (nI_add _ _) ?_
        refine q_sal rfl rfl (by omega) (hL10) ?_
        refine q_k 4 ?_
        show q_W L (d + 9) 131 q_m131 Q 390 [some (.ref 2), some (.ref 3), some (.ref 192), some (.int (nI (5 * k)))] [.int ((nI (5 * k)) + (nI 2)), .ref 2, .int (I 2 (5 * k + 1)), .ref 3] (n, I, J, R) uc us
        refine q_top (w := nI (5 * k + 2)) (nI_add _ _) ?_
        refine q_sal rfl rfl (by omega) (hL10) ?_
        refine q_k 4 ?_
        show q_W L (d + 9) 131 q_m131 Q 395 [some (.ref 2), some (.ref 3), some (.ref 192), some (.int (nI (5 * k)))] [.int ((nI (5 * k)) + (nI 3)), .ref 2, .int (I 2 (5 * k + 2)), .int (I 2 (5 * k + 1)), .ref 3] (n, I, J, R) uc us
        refine q_top (w := nI (5 * k + 3)) (nI_add _ _) ?_
        refine q_sal rfl rfl (by omega) (hL10) ?_
        refine q_k 7 ?_
        show q_W L (d + 9) 131 q_m131 Q 404 [some (.ref 2), some (.ref 3), some (.ref 192), some (.int (nI (5 * k)))] [.int ((nI (5 * k)) + (nI 4)), .ref 2, .long (((I 2 (5 * k + 3)).toInt64) <<< (((nI 32)).toInt64 &&& 63)), .int (I 2 (5 * k + 2)), .int (I 2 (5 * k + 1)), .ref 3] (n, I, J, R) uc us
        refine q_top (w := nI (5 * k + 4)) (nI_add _ _) ?_
        refine q_sal rfl rfl (by omega) (hL10) ?_
        refine q_k 4 ?_
        show q_W L (d + 9) 131 q_m131 Q 411 [some (.ref 2), some (.ref 3), some (.ref 192), some (.int (nI (5 * k)))] [.long ((((I 2 (5 * k + 3)).toInt64) <<< (((nI 32)).toInt64 &&& 63)) ||| (((I 2 (5 * k + 4)).toInt64) &&& (lN 4294967295))), .int (I 2 (5 * k + 2)), .int (I 2 (5 * k + 1)), .ref 3] (n, I, J, R) uc us
        refine q_cv (as := [.int (I 2 (5 * k + 1)), .int (I 2 (5 * k + 2)), .long ((((I 2 (5 * k + 3)).toInt64) <<< (((nI 32)).toInt64 &&& 63)) ||| (((I 2 (5 * k + 4)).toInt64) &&& (lN 4294967295)))]) (rs := []) rfl rfl rfl (⟨by have := hC.K.1; omega, rfl⟩) rfl rfl ?_
        refine k_alter hC (fun n1 I1 J1 R1 c1 c2 c3 => ?_)
        have hC1 := c1.K
        have hq := q_nmf_ms c2
        show q_W L (d + 9) 131 q_m131 Q 414 [some (.ref 2), some (.ref 3), some (.ref 192), some (.int (nI (5 * k)))] [.int ((f_alter (I 2 (5 * k + 1)) (I 2 (5 * k + 2)) ((((I 2 (5 * k + 3)).toInt64) <<< (((nI 32)).toInt64 &&& 63)) ||| (((I 2 (5 * k + 4)).toInt64) &&& (lN 4294967295))) I J).1)] (n1, I1, J1, R1) uc us
        refine q_k 5 ?_
        show q_W L (d + 9) 131 q_m131 Q 419 [some (.ref 2), some (.ref 3), some (.ref 192), some (.int (nI (5 * k)))] [.int ((nI (5 * k)) + (nI 1)), .ref 2, .ref 192, .int ((f_alter (I 2 (5 * k + 1)) (I 2 (5 * k + 2)) ((((I 2 (5 * k + 3)).toInt64) <<< (((nI 32)).toInt64 &&& 63)) ||| (((I 2 (5 * k + 4)).toInt64) &&& (lN 4294967295))) I J).1)] (n1, I1, J1, R1) uc us
        refine q_top (w := nI (5 * k + 1)) (nI_add _ _) ?_
        refine q_sal rfl rfl (by omega) (hL10) ?_
        refine q_top (w := I 2 (5 * k + 1)) (congrFun (c2 2 (by omega)) _) ?_
        refine q_k 4 ?_
        show q_W L (d + 9) 131 q_m131 Q 424 [some (.ref 2), some (.ref 3), some (.ref 192), some (.int (nI (5 * k)))] [.int ((nI (5 * k)) + (nI 2)), .ref 2, .int (I 2 (5 * k + 1)), .ref 192, .int ((f_alter (I 2 (5 * k + 1)) (I 2 (5 * k + 2)) ((((I 2 (5 * k + 3)).toInt64) <<< (((nI 32)).toInt64 &&& 63)) ||| (((I 2 (5 * k + 4)).toInt64) &&& (lN 4294967295))) I J).1)] (n1, I1, J1, R1) uc us
        refine q_top (w := nI (5 * k + 2)) (nI_add _ _) ?_
        refine q_sal rfl rfl (by omega) (hL10) ?_
        refine q_top (w := I 2 (5 * k + 2)) (congrFun (c2 2 (by omega)) _) ?_
        refine q_k 4 ?_
        show q_W L (d + 9) 131 q_m131 Q 429 [some (.ref 2), some (.ref 3), some (.ref 192), some (.int (nI (5 * k)))] [.int ((nI (5 * k)) + (nI 3)), .ref 2, .int (I 2 (5 * k + 2)), .int (I 2 (5 * k + 1)), .ref 192, .int ((f_alter (I 2 (5 * k + 1)) (I 2 (5 * k + 2)) ((((I 2 (5 * k + 3)).toInt64) <<< (((nI 32)).toInt64 &&& 63)) ||| (((I 2 (5 * k + 4)).toInt64) &&& (lN 4294967295))) I J).1)] (n1, I1, J1, R1) uc us
        refine q_top (w := nI (5 * k + 3)) (nI_add _ _) ?_
        refine q_sal rfl rfl (by omega) (hL10) ?_
        refine q_top (w := I 2 (5 * k + 3)) (congrFun (c2 2 (by omega)) _) ?_
        refine q_k 7 ?_
        show q_W L (d + 9) 131 q_m131 Q 438 [some (.ref 2), some (.ref 3), some (.ref 192), some (.int (nI (5 * k)))] [.int ((nI (5 * k)) + (nI 4)), .ref 2, .long (((I 2 (5 * k + 3)).toInt64) <<< (((nI 32)).toInt64 &&& 63)), .int (I 2 (5 * k + 2)), .int (I 2 (5 * k + 1)), .ref 192, .int ((f_alter (I 2 (5 * k + 1)) (I 2 (5 * k + 2)) ((((I 2 (5 * k + 3)).toInt64) <<< (((nI 32)).toInt64 &&& 63)) ||| (((I 2 (5 * k + 4)).toInt64) &&& (lN 4294967295))) I J).1)] (n1, I1, J1, R1) uc us
        refine q_top (w := nI (5 * k + 4)) (nI_add _ _) ?_
        refine q_sal rfl rfl (by omega) (hL10) ?_
        refine q_top (w := I 2 (5 * k + 4)) (congrFun (c2 2 (by omega)) _) ?_
        refine q_k 4 ?_
        show q_W L (d + 9) 131 q_m131 Q 445 [some (.ref 2), some (.ref 3), some (.ref 192), some (.int (nI (5 * k)))] [.long ((((I 2 (5 * k + 3)).toInt64) <<< (((nI 32)).toInt64 &&& 63)) ||| (((I 2 (5 * k + 4)).toInt64) &&& (lN 4294967295))), .int (I 2 (5 * k + 2)), .int (I 2 (5 * k + 1)), .ref 192, .int ((f_alter (I 2 (5 * k + 1)) (I 2 (5 * k + 2)) ((((I 2 (5 * k + 3)).toInt64) <<< (((nI 32)).toInt64 &&& 63)) ||| (((I 2 (5 * k + 4)).toInt64) &&& (lN 4294967295))) I J).1)] (n1, I1, J1, R1) uc us
        refine q_cv (as := [.int (I 2 (5 * k + 1)), .int (I 2 (5 * k + 2)), .long ((((I 2 (5 * k + 3)).toInt64) <<< (((nI 32)).toInt64 &&& 63)) ||| (((I 2 (5 * k + 4)).toInt64) &&& (lN 4294967295)))]) (rs := [.int ((f_alter (I 2 (5 * k + 1)) (I 2 (5 * k + 2)) ((((I 2 (5 * k + 3)).toInt64) <<< (((nI 32)).toInt64 &&& 63)) ||| (((I 2 (5 * k + 4)).toInt64) &&& (lN 4294967295))) I J).1)]) rfl rfl rfl (⟨by have := hC1.1; omega, rfl⟩) rfl rfl ?_
        obtain ⟨E, hE⟩ := hC.en
        have hEI : I1 192 16 = nI E := by rw [c2 192 (by omega)]; exact hE.eM
        refine m_alter hC1 hEI hE.e6 ?_
        have hc := f_alter_N (q_J_mN c3) (I 2 (5 * k + 1)) (I 2 (5 * k + 2)) ((((I 2 (5 * k + 3)).toInt64) <<< (((nI 32)).toInt64 &&& 63)) ||| (((I 2 (5 * k + 4)).toInt64) &&& (lN 4294967295))) I
        have hd := f_alter_c hq (I 2 (5 * k + 1)) (I 2 (5 * k + 2)) ((((I 2 (5 * k + 3)).toInt64) <<< (((nI 32)).toInt64 &&& 63)) ||| (((I 2 (5 * k + 4)).toInt64) &&& (lN 4294967295))) J1
        show q_W L (d + 9) 131 q_m131 Q 448 [some (.ref 2), some (.ref 3), some (.ref 192), some (.int (nI (5 * k)))] [.int ((f_alter (I 2 (5 * k + 1)) (I 2 (5 * k + 2)) ((((I 2 (5 * k + 3)).toInt64) <<< (((nI 32)).toInt64 &&& 63)) ||| (((I 2 (5 * k + 4)).toInt64) &&& (lN 4294967295))) I1 J1).1), .int ((f_alter (I 2 (5 * k + 1)) (I 2 (5 * k + 2)) ((((I 2 (5 * k + 3)).toInt64) <<< (((nI 32)).toInt64 &&& 63)) ||| (((I 2 (5 * k + 4)).toInt64) &&& (lN 4294967295))) I J).1)] (n1, I1, (f_alter (I 2 (5 * k + 1)) (I 2 (5 * k + 2)) ((((I 2 (5 * k + 3)).toInt64) <<< (((nI 32)).toInt64 &&& 63)) ||| (((I 2 (5 * k + 4)).toInt64) &&& (lN 4294967295))) I1 J1).2, R1) uc us
        refine q_one rfl rfl ?_
        show (((f_alter (I 2 (5 * k + 1)) (I 2 (5 * k + 2)) ((((I 2 (5 * k + 3)).toInt64) <<< (((nI 32)).toInt64 &&& 63)) ||| (((I 2 (5 * k + 4)).toInt64) &&& (lN 4294967295))) I J).1) = ((f_alter (I 2 (5 * k + 1)) (I 2 (5 * k + 2)) ((((I 2 (5 * k + 3)).toInt64) <<< (((nI 32)).toInt64 &&& 63)) ||| (((I 2 (5 * k + 4)).toInt64) &&& (lN 4294967295))) I1 J1).1) → q_W L (d + 9) 131 q_m131 Q 773 [some (.ref 2), some (.ref 3), some (.ref 192), some (.int (nI (5 * k)))] [] (n1, I1, (f_alter (I 2 (5 * k + 1)) (I 2 (5 * k + 2)) ((((I 2 (5 * k + 3)).toInt64) <<< (((nI 32)).toInt64 &&& 63)) ||| (((I 2 (5 * k + 4)).toInt64) &&& (lN 4294967295))) I1 J1).2, R1) uc us) ∧ (¬ ((f_alter (I 2 (5 * k + 1)) (I 2 (5 * k + 2)) ((((I 2 (5 * k + 3)).toInt64) <<< (((nI 32)).toInt64 &&& 63)) ||| (((I 2 (5 * k + 4)).toInt64) &&& (lN 4294967295))) I J).1) = ((f_alter (I 2 (5 * k + 1)) (I 2 (5 * k + 2)) ((((I 2 (5 * k + 3)).toInt64) <<< (((nI 32)).toInt64 &&& 63)) ||| (((I 2 (5 * k + 4)).toInt64) &&& (lN 4294967295))) I1 J1).1) → q_W L (d + 9) 131 q_m131 Q 451 [some (.ref 2), some (.ref 3), some (.ref 192), some (.int (nI (5 * k)))] [] (n1, I1, (f_alter (I 2 (5 * k + 1)) (I 2 (5 * k + 2)) ((((I 2 (5 * k + 3)).toInt64) <<< (((nI 32)).toInt64 &&& 63)) ||| (((I 2 (5 * k + 4)).toInt64) &&& (lN 4294967295))) I1 J1).2, R1) uc us)
        refine ⟨fun _ => ?_, fun z => absurd ((by rw [hd]; exact hc.1.symm)) z⟩
        refine q_k 1 ?_
        show q_W L (d + 9) 131 q_m131 Q 776 [some (.ref 2), some (.ref 3), some (.ref 192), some (.int ((nI (5 * k)) + nI 5))] [] (n1, I1, (f_alter (I 2 (5 * k + 1)) (I 2 (5 * k + 2)) ((((I 2 (5 * k + 3)).toInt64) <<< (((nI 32)).toInt64 &&& 63)) ||| (((I 2 (5 * k + 4)).toInt64) &&& (lN 4294967295))) I1 J1).2, R1) uc us
        rw [show (nI (5 * k)) + nI 5 = nI (5 * k + 5) from nI_add _ _]
        refine q_k 1 ?_
        show q_W L (d + 9) 131 q_m131 Q 18 [some (.ref 2), some (.ref 3), some (.ref 192), some (.int (nI (5 * k + 5)))] [] (n1, I1, (f_alter (I 2 (5 * k + 1)) (I 2 (5 * k + 2)) ((((I 2 (5 * k + 3)).toInt64) <<< (((nI 32)).toInt64 &&& 63)) ||| (((I 2 (5 * k + 4)).toInt64) &&& (lN 4294967295))) I1 J1).2, R1) uc us
        exact ih (k + 1) n1 I1 _ R1 (uc) (us) (by omega) (by omega) (by omega) (L_close c1 hq (by rw [hd]; exact hc.2) (q_mf_rf _) (fun x hx => f_alter_J (by omega))) (by rw [c2 2 (by omega)]; exact hS)
      · skip
        have hw32 : ((I 2 (5 * k)) &&& (nI 15)) = nI 7 := q_swi hsw (by decide)
        refine q_k 5 ?_
        show q_W L (d + 9) 131 q_m131 Q 458 [some (.ref 2), some (.ref 3), some (.ref 192), some (.int (nI (5 * k)))] [.int ((nI (5 * k)) + (nI 1)), .ref 2, .ref 3] (n, I, J, R) uc us
        refine q_top (w := nI (5 * k + 1)) (nI_add _ _) ?_
        refine q_sal rfl rfl (by omega) (hL10) ?_
        refine q_cv (as := [.int (I 2 (5 * k + 1))]) (rs := []) rfl rfl rfl (⟨by have := hC.K.1; omega, rfl⟩) rfl rfl ?_
        refine k_copy hC (fun n1 I1 J1 R1 c1 c2 c3 => ?_)
        have hC1 := c1.K
        have hq := q_nmf_ms c2
        show q_W L (d + 9) 131 q_m131 Q 462 [some (.ref 2), some (.ref 3), some (.ref 192), some (.int (nI (5 * k)))] [.int ((f_copy (I 2 (5 * k + 1)) I J).1)] (n1, I1, J1, R1) uc us
        refine q_k 5 ?_
        show q_W L (d + 9) 131 q_m131 Q 467 [some (.ref 2), some (.ref 3), some (.ref 192), some (.int (nI (5 * k)))] [.int ((nI (5 * k)) + (nI 1)), .ref 2, .ref 192, .int ((f_copy (I 2 (5 * k + 1)) I J).1)] (n1, I1, J1, R1) uc us
        refine q_top (w := nI (5 * k + 1)) (nI_add _ _) ?_
        refine q_sal rfl rfl (by omega) (hL10) ?_
        refine q_top (w := I 2 (5 * k + 1)) (congrFun (c2 2 (by omega)) _) ?_
        refine q_cv (as := [.int (I 2 (5 * k + 1))]) (rs := [.int ((f_copy (I 2 (5 * k + 1)) I J).1)]) rfl rfl rfl (⟨by have := hC1.1; omega, rfl⟩) rfl rfl ?_
        obtain ⟨E, hE⟩ := hC.en
        have hEI : I1 192 16 = nI E := by rw [c2 192 (by omega)]; exact hE.eM
        refine m_copy hC1 hEI hE.e6 (fun I3 ms mf => ?_)
        have hc := f_copy_c hq (I 2 (5 * k + 1)) J1
        have hd := f_copy_N (q_J_mN c3) (I 2 (5 * k + 1)) I
        show q_W L (d + 9) 131 q_m131 Q 471 [some (.ref 2), some (.ref 3), some (.ref 192), some (.int (nI (5 * k)))] [.int ((f_copy (I 2 (5 * k + 1)) I1 J1).1), .int ((f_copy (I 2 (5 * k + 1)) I J).1)] (n1, I3, (f_copy (I 2 (5 * k + 1)) I1 J1).2.2, R1) uc us
        refine q_one rfl rfl ?_
        show (((f_copy (I 2 (5 * k + 1)) I J).1) = ((f_copy (I 2 (5 * k + 1)) I1 J1).1) → q_W L (d + 9) 131 q_m131 Q 773 [some (.ref 2), some (.ref 3), some (.ref 192), some (.int (nI (5 * k)))] [] (n1, I3, (f_copy (I 2 (5 * k + 1)) I1 J1).2.2, R1) uc us) ∧ (¬ ((f_copy (I 2 (5 * k + 1)) I J).1) = ((f_copy (I 2 (5 * k + 1)) I1 J1).1) → q_W L (d + 9) 131 q_m131 Q 474 [some (.ref 2), some (.ref 3), some (.ref 192), some (.int (nI (5 * k)))] [] (n1, I3, (f_copy (I 2 (5 * k + 1)) I1 J1).2.2, R1) uc us)
        refine ⟨fun _ => ?_, fun z => absurd ((hc.1.trans hd.1).symm) z⟩
        refine q_k 1 ?_
        show q_W L (d + 9) 131 q_m131 Q 776 [some (.ref 2), some (.ref 3), some (.ref 192), some (.int ((nI (5 * k)) + nI 5))] [] (n1, I3, (f_copy (I 2 (5 * k + 1)) I1 J1).2.2, R1) uc us
        rw [show (nI (5 * k)) + nI 5 = nI (5 * k + 5) from nI_add _ _]
        refine q_k 1 ?_
        show q_W L (d + 9) 131 q_m131 Q 18 [some (.ref 2), some (.ref 3), some (.ref 192), some (.int (nI (5 * k + 5)))] [] (n1, I3, (f_copy (I 2 (5 * k + 1)) I1 J1).2.2, R1) uc us
        exact ih (k + 1) n1 I3 _ R1 (uc) (us) (by omega) (by omega) (by omega) (L_close c1 (q_ms_tr ms (by rw [← hd.2.1]; exact hc.2.1)) (by rw [hc.2.2]; exact hd.2.2) mf (fun x hx => f_copy_J (by omega))) (by rw [mf 2 (by omega), c2 2 (by omega)]; exact hS)
      · skip
        have hw32 : ((I 2 (5 * k)) &&& (nI 15)) = nI 8 := q_swi hsw (by decide)
        refine q_k 5 ?_
        show q_W L (d + 9) 131 q_m131 Q 481 [some (.ref 2), some (.ref 3), some (.ref 192), some (.int (nI (5 * k)))] [.int ((nI (5 * k)) + (nI 1)), .ref 2, .ref 3] (n, I, J, R) uc us
        refine q_top (w := nI (5 * k + 1)) (nI_add _ _) ?_
        refine q_sal rfl rfl (by omega) (hL10) ?_
        refine q_cvA (as := [.int (I 2 (5 * k + 1))]) (rs := []) rfl rfl rfl (⟨by have := hC.K.1; omega, rfl⟩) rfl rfl ⟨(by show uc + 10 ≤ 6000; omega), (by show us + 334 ≤ 200000; omega)⟩ ?_
        refine k_open (G := fun _ _ => 0) hC (fun n1 I1 J1 R1 c1 c2 c3 => ?_)
        have hC1 := c1.K
        have hq := q_nmf_ms c2
        show q_W L (d + 9) 131 q_m131 Q 485 [some (.ref 2), some (.ref 3), some (.ref 192), some (.int (nI (5 * k)))] [.int ((f_open (fun _ _ => 0) (I 2 (5 * k + 1)) I J).1)] (n1, I1, J1, R1) (uc + 10) (us + 334)
        refine q_k 5 ?_
        show q_W L (d + 9) 131 q_m131 Q 490 [some (.ref 2), some (.ref 3), some (.ref 192), some (.int (nI (5 * k)))] [.int ((nI (5 * k)) + (nI 1)), .ref 2, .ref 192, .int ((f_open (fun _ _ => 0) (I 2 (5 * k + 1)) I J).1)] (n1, I1, J1, R1) (uc + 10) (us + 334)
        refine q_top (w := nI (5 * k + 1)) (nI_add _ _) ?_
        refine q_sal rfl rfl (by omega) (hL10) ?_
        refine q_top (w := I 2 (5 * k + 1)) (congrFun (c2 2 (by omega)) _) ?_
        refine q_cv (as := [.int (I 2 (5 * k + 1))]) (rs := [.int ((f_open (fun _ _ => 0) (I 2 (5 * k + 1)) I J).1)]) rfl rfl rfl (⟨by have := hC1.1; omega, rfl⟩) rfl rfl ?_
        obtain ⟨E, hE⟩ := hC.en
        have hEI : I1 192 16 = nI E := by rw [c2 192 (by omega)]; exact hE.eM
        refine m_open hC1 hEI hE.e6 (CR_p2 hC c2) (fun b hb => by obtain ⟨f, c, h1, h2, h3, h4⟩ := CR_p1 hC c2 b hb; exact ⟨c, h2, h4⟩) (CR_p3 hC c2) (fun G I3 ms mf => ?_)
        have hg := f_open_g (M := I1) (N := J1) G (fun _ _ => 0) (I 2 (5 * k + 1)) (CR_p2 hC c2) (CR_p3 hC c2)
        rw [hg] at ms ⊢
        have hc := f_open_c hq (fun _ _ => 0) (I 2 (5 * k + 1)) J1
        have hd := f_open_N (q_J_mN c3) (fun _ _ => 0) (I 2 (5 * k + 1)) I
        show q_W L (d + 9) 131 q_m131 Q 494 [some (.ref 2), some (.ref 3), some (.ref 192), some (.int (nI (5 * k)))] [.int ((f_open (fun _ _ => 0) (I 2 (5 * k + 1)) I1 J1).1), .int ((f_open (fun _ _ => 0) (I 2 (5 * k + 1)) I J).1)] (n1, I3, (f_open (fun _ _ => 0) (I 2 (5 * k + 1)) I1 J1).2.2, R1) (uc + 10) (us + 334)
        refine q_one rfl rfl ?_
        show (((f_open (fun _ _ => 0) (I 2 (5 * k + 1)) I J).1) = ((f_open (fun _ _ => 0) (I 2 (5 * k + 1)) I1 J1).1) → q_W L (d + 9) 131 q_m131 Q 773 [some (.ref 2), some (.ref 3), some (.ref 192), some (.int (nI (5 * k)))] [] (n1, I3, (f_open (fun _ _ => 0) (I 2 (5 * k + 1)) I1 J1).2.2, R1) (uc + 10) (us + 334)) ∧ (¬ ((f_open (fun _ _ => 0) (I 2 (5 * k + 1)) I J).1) = ((f_open (fun _ _ => 0) (I 2 (5 * k + 1)) I1 J1).1) → q_W L (d + 9) 131 q_m131 Q 497 [some (.ref 2), some (.ref 3), some (.ref 192), some (.int (nI (5 * k)))] [] (n1, I3, (f_open (fun _ _ => 0) (I 2 (5 * k + 1)) I1 J1).2.2, R1) (uc + 10) (us + 334))
        refine ⟨fun _ => ?_, fun z => absurd ((hc.1.trans hd.1).symm) z⟩
        refine q_k 1 ?_
        show q_W L (d + 9) 131 q_m131 Q 776 [some (.ref 2), some (.ref 3), some (.ref 192), some (.int ((nI (5 * k)) + nI 5))] [] (n1, I3, (f_open (fun _ _ => 0) (I 2 (5 * k + 1)) I1 J1).2.2, R1) (uc + 10) (us + 334)
        rw [show (nI (5 * k)) + nI 5 = nI (5 * k + 5) from nI_add _ _]
        refine q_k 1 ?_
        show q_W L (d + 9) 131 q_m131 Q 18 [some (.ref 2), some (.ref 3), some (.ref 192), some (.int (nI (5 * k + 5)))] [] (n1, I3, (f_open (fun _ _ => 0) (I 2 (5 * k + 1)) I1 J1).2.2, R1) (uc + 10) (us + 334)
        exact ih (k + 1) n1 I3 _ R1 (uc + 10) (us + 334) (by omega) (by omega) (by omega) (L_close c1 (q_ms_tr ms (by rw [← hd.2.1]; exact hc.2.1)) (by rw [hc.2.2]; exact hd.2.2) mf (fun x hx => f_open_J (by omega))) (by rw [mf 2 (by omega), c2 2 (by omega)]; exact hS)
      · skip
        have hw32 : ((I 2 (5 * k)) &&& (nI 15)) = nI 9 := q_swi hsw (by decide)
        refine q_k 1 ?_
        show q_W L (d + 9) 131 q_m131 Q 500 [some (.ref 2), some (.ref 3), some (.ref 192), some (.int (nI (5 * k)))] [.ref 3] (n, I, J, R) uc us
        refine q_cv (as := []) (rs := []) rfl rfl rfl (⟨by have := hC.K.1; omega, rfl⟩) rfl rfl ?_
        refine k_text hC ?_
        have hC1 := hC.K
        show q_W L (d + 9) 131 q_m131 Q 503 [some (.ref 2), some (.ref 3), some (.ref 192), some (.int (nI (5 * k)))] [.long (J 192 17)] (n, I, J, R) uc us
        refine q_k 1 ?_
        show q_W L (d + 9) 131 q_m131 Q 504 [some (.ref 2), some (.ref 3), some (.ref 192), some (.int (nI (5 * k)))] [.ref 192, .long (J 192 17)] (n, I, J, R) uc us
        refine q_cv (as := []) (rs := [.long (J 192 17)]) rfl rfl rfl (⟨by have := hC1.1; omega, rfl⟩) rfl rfl ?_
        refine m_text hC1 ?_
        show q_W L (d + 9) 131 q_m131 Q 507 [some (.ref 2), some (.ref 3), some (.ref 192), some (.int (nI (5 * k)))] [.long (J 192 17), .long (J 192 17)] (n, I, J, R) uc us
        refine q_k 1 ?_
        show q_W L (d + 9) 131 q_m131 Q 508 [some (.ref 2), some (.ref 3), some (.ref 192), some (.int (nI (5 * k)))] [.int (lg_cmp (J 192 17) (J 192 17))] (n, I, J, R) uc us
        refine q_one rfl rfl ?_
        show ((lg_cmp (J 192 17) (J 192 17)) = 0 → q_W L (d + 9) 131 q_m131 Q 773 [some (.ref 2), some (.ref 3), some (.ref 192), some (.int (nI (5 * k)))] [] (n, I, J, R) uc us) ∧ (¬ (lg_cmp (J 192 17) (J 192 17)) = 0 → q_W L (d + 9) 131 q_m131 Q 511 [some (.ref 2), some (.ref 3), some (.ref 192), some (.int (nI (5 * k)))] [] (n, I, J, R) uc us)
        refine ⟨fun _ => ?_, fun z => absurd ((lg_cmp_eq _ _).mpr (rfl)) z⟩
        refine q_k 1 ?_
        show q_W L (d + 9) 131 q_m131 Q 776 [some (.ref 2), some (.ref 3), some (.ref 192), some (.int ((nI (5 * k)) + nI 5))] [] (n, I, J, R) uc us
        rw [show (nI (5 * k)) + nI 5 = nI (5 * k + 5) from nI_add _ _]
        refine q_k 1 ?_
        show q_W L (d + 9) 131 q_m131 Q 18 [some (.ref 2), some (.ref 3), some (.ref 192), some (.int (nI (5 * k + 5)))] [] (n, I, J, R) uc us
        exact ih (k + 1) n I J R (uc) (us) (by omega) (by omega) (by omega) (hC) (hS)
      · skip
        have hw32 : ((I 2 (5 * k)) &&& (nI 15)) = nI 10 := q_swi hsw (by decide)
        refine q_k 5 ?_
        show q_W L (d + 9) 131 q_m131 Q 518 [some (.ref 2), some (.ref 3), some (.ref 192), some (.int (nI (5 * k)))] [.int ((nI (5 * k)) + (nI 1)), .ref 2, .ref 3] (n, I, J, R) uc us
        refine q_top (w := nI (5 * k + 1)) (nI_add _ _) ?_
        refine q_sal rfl rfl (by omega) (hL10) ?_
        refine q_k 4 ?_
        show q_W L (d + 9) 131 q_m131 Q 523 [some (.ref 2), some (.ref 3), some (.ref 192), some (.int (nI (5 * k)))] [.int ((nI (5 * k)) + (nI 2)), .ref 2, .int (I 2 (5 * k + 1)), .ref 3] (n, I, J, R) uc us
        refine q_top (w := nI (5 * k + 2)) (nI_add _ _) ?_
        refine q_sal rfl rfl (by omega) (hL10) ?_
        refine q_cv (as := [.int (I 2 (5 * k + 1)), .int (I 2 (5 * k + 2))]) (rs := []) rfl rfl rfl (⟨by have := hC.K.1; omega, rfl⟩) rfl rfl ?_
        refine k_envelope hC ?_
        have hC1 := hC.K
        show q_W L (d + 9) 131 q_m131 Q 527 [some (.ref 2), some (.ref 3), some (.ref 192), some (.int (nI (5 * k)))] [.long (g_env (I 2 (5 * k + 1)) (I 2 (5 * k + 2)) I J)] (n, I, J, R) uc us
        refine q_k 5 ?_
        show q_W L (d + 9) 131 q_m131 Q 532 [some (.ref 2), some (.ref 3), some (.ref 192), some (.int (nI (5 * k)))] [.int ((nI (5 * k)) + (nI 1)), .ref 2, .ref 192, .long (g_env (I 2 (5 * k + 1)) (I 2 (5 * k + 2)) I J)] (n, I, J, R) uc us
        refine q_top (w := nI (5 * k + 1)) (nI_add _ _) ?_
        refine q_sal rfl rfl (by omega) (hL10) ?_
        refine q_k 4 ?_
        show q_W L (d + 9) 131 q_m131 Q 537 [some (.ref 2), some (.ref 3), some (.ref 192), some (.int (nI (5 * k)))] [.int ((nI (5 * k)) + (nI 2)), .ref 2, .int (I 2 (5 * k + 1)), .ref 192, .long (g_env (I 2 (5 * k + 1)) (I 2 (5 * k + 2)) I J)] (n, I, J, R) uc us
        refine q_top (w := nI (5 * k + 2)) (nI_add _ _) ?_
        refine q_sal rfl rfl (by omega) (hL10) ?_
        refine q_cv (as := [.int (I 2 (5 * k + 1)), .int (I 2 (5 * k + 2))]) (rs := [.long (g_env (I 2 (5 * k + 1)) (I 2 (5 * k + 2)) I J)]) rfl rfl rfl (⟨by have := hC1.1; omega, rfl⟩) rfl rfl ?_
        obtain ⟨E, hE⟩ := hC.en
        refine m_envelope hC1 hE.eM hE.e6 ?_
        show q_W L (d + 9) 131 q_m131 Q 541 [some (.ref 2), some (.ref 3), some (.ref 192), some (.int (nI (5 * k)))] [.long (g_env (I 2 (5 * k + 1)) (I 2 (5 * k + 2)) I J), .long (g_env (I 2 (5 * k + 1)) (I 2 (5 * k + 2)) I J)] (n, I, J, R) uc us
        refine q_k 1 ?_
        show q_W L (d + 9) 131 q_m131 Q 542 [some (.ref 2), some (.ref 3), some (.ref 192), some (.int (nI (5 * k)))] [.int (lg_cmp (g_env (I 2 (5 * k + 1)) (I 2 (5 * k + 2)) I J) (g_env (I 2 (5 * k + 1)) (I 2 (5 * k + 2)) I J))] (n, I, J, R) uc us
        refine q_one rfl rfl ?_
        show ((lg_cmp (g_env (I 2 (5 * k + 1)) (I 2 (5 * k + 2)) I J) (g_env (I 2 (5 * k + 1)) (I 2 (5 * k + 2)) I J)) = 0 → q_W L (d + 9) 131 q_m131 Q 773 [some (.ref 2), some (.ref 3), some (.ref 192), some (.int (nI (5 * k)))] [] (n, I, J, R) uc us) ∧ (¬ (lg_cmp (g_env (I 2 (5 * k + 1)) (I 2 (5 * k + 2)) I J) (g_env (I 2 (5 * k + 1)) (I 2 (5 * k + 2)) I J)) = 0 → q_W L (d + 9) 131 q_m131 Q 545 [some (.ref 2), some (.ref 3), some (.ref 192), some (.int (nI (5 * k)))] [] (n, I, J, R) uc us)
        refine ⟨fun _ => ?_, fun z => absurd ((lg_cmp_eq _ _).mpr (rfl)) z⟩
        refine q_k 1 ?_
        show q_W L (d + 9) 131 q_m131 Q 776 [some (.ref 2), some (.ref 3), some (.ref 192), some (.int ((nI (5 * k)) + nI 5))] [] (n, I, J, R) uc us
        rw [show (nI (5 * k)) + nI 5 = nI (5 * k + 5) from nI_add _ _]
        refine q_k 1 ?_
        show q_W L (d + 9) 131 q_m131 Q 18 [some (.ref 2), some (.ref 3), some (.ref 192), some (.int (nI (5 * k + 5)))] [] (n, I, J, R) uc us
        exact ih (k + 1) n I J R (uc) (us) (by omega) (by omega) (by omega) (hC) (hS)
      · skip
        have hw32 : ((I 2 (5 * k)) &&& (nI 15)) = nI 11 := q_swi hsw (by decide)
        refine q_k 5 ?_
        show q_W L (d + 9) 131 q_m131 Q 552 [some (.ref 2), some (.ref 3), some (.ref 192), some (.int (nI (5 * k)))] [.int ((nI (5 * k)) + (nI 1)), .ref 2, .ref 3] (n, I, J, R) uc us
        refine q_top (w := nI (5 * k + 1)) (nI_add _ _) ?_
        refine q_sal rfl rfl (by omega) (hL10) ?_
        refine q_k 4 ?_
        show q_W L (d + 9) 131 q_m131 Q 557 [some (.ref 2), some (.ref 3), some (.ref 192), some (.int (nI (5 * k)))] [.int ((nI (5 * k)) + (nI 2)), .ref 2, .int (I 2 (5 * k + 1)), .ref 3] (n, I, J, R) uc us
        refine q_top (w := nI (5 * k + 2)) (nI_add _ _) ?_
        refine q_sal rfl rfl (by omega) (hL10) ?_
        refine q_cv (as := [.int (I 2 (5 * k + 1)), .int (I 2 (5 * k + 2))]) (rs := []) rfl rfl rfl (⟨by have := hC.K.1; omega, rfl⟩) rfl rfl ?_
        refine k_user hC ?_
        have hC1 := hC.K
        show q_W L (d + 9) 131 q_m131 Q 561 [some (.ref 2), some (.ref 3), some (.ref 192), some (.int (nI (5 * k)))] [.int (g_user (I 2 (5 * k + 1)) (I 2 (5 * k + 2)) I)] (n, I, J, R) uc us
        refine q_k 5 ?_
        show q_W L (d + 9) 131 q_m131 Q 566 [some (.ref 2), some (.ref 3), some (.ref 192), some (.int (nI (5 * k)))] [.int ((nI (5 * k)) + (nI 1)), .ref 2, .ref 192, .int (g_user (I 2 (5 * k + 1)) (I 2 (5 * k + 2)) I)] (n, I, J, R) uc us
        refine q_top (w := nI (5 * k + 1)) (nI_add _ _) ?_
        refine q_sal rfl rfl (by omega) (hL10) ?_
        refine q_k 4 ?_
        show q_W L (d + 9) 131 q_m131 Q 571 [some (.ref 2), some (.ref 3), some (.ref 192), some (.int (nI (5 * k)))] [.int ((nI (5 * k)) + (nI 2)), .ref 2, .int (I 2 (5 * k + 1)), .ref 192, .int (g_user (I 2 (5 * k + 1)) (I 2 (5 * k + 2)) I)] (n, I, J, R) uc us
        refine q_top (w := nI (5 * k + 2)) (nI_add _ _) ?_
        refine q_sal rfl rfl (by omega) (hL10) ?_
        refine q_cv (as := [.int (I 2 (5 * k + 1)), .int (I 2 (5 * k + 2))]) (rs := [.int (g_user (I 2 (5 * k + 1)) (I 2 (5 * k + 2)) I)]) rfl rfl rfl (⟨by have := hC1.1; omega, rfl⟩) rfl rfl ?_
        refine m_user hC1 ?_
        show q_W L (d + 9) 131 q_m131 Q 575 [some (.ref 2), some (.ref 3), some (.ref 192), some (.int (nI (5 * k)))] [.int (g_user (I 2 (5 * k + 1)) (I 2 (5 * k + 2)) I), .int (g_user (I 2 (5 * k + 1)) (I 2 (5 * k + 2)) I)] (n, I, J, R) uc us
        refine q_one rfl rfl ?_
        show ((g_user (I 2 (5 * k + 1)) (I 2 (5 * k + 2)) I) = (g_user (I 2 (5 * k + 1)) (I 2 (5 * k + 2)) I) → q_W L (d + 9) 131 q_m131 Q 773 [some (.ref 2), some (.ref 3), some (.ref 192), some (.int (nI (5 * k)))] [] (n, I, J, R) uc us) ∧ (¬ (g_user (I 2 (5 * k + 1)) (I 2 (5 * k + 2)) I) = (g_user (I 2 (5 * k + 1)) (I 2 (5 * k + 2)) I) → q_W L (d + 9) 131 q_m131 Q 578 [some (.ref 2), some (.ref 3), some (.ref 192), some (.int (nI (5 * k)))] [] (n, I, J, R) uc us)
        refine ⟨fun _ => ?_, fun z => absurd (rfl) z⟩
        refine q_k 1 ?_
        show q_W L (d + 9) 131 q_m131 Q 776 [some (.ref 2), some (.ref 3), some (.ref 192), some (.int ((nI (5 * k)) + nI 5))] [] (n, I, J, R) uc us
        rw [show (nI (5 * k)) + nI 5 = nI (5 * k + 5) from nI_add _ _]
        refine q_k 1 ?_
        show q_W L (d + 9) 131 q_m131 Q 18 [some (.ref 2), some (.ref 3), some (.ref 192), some (.int (nI (5 * k + 5)))] [] (n, I, J, R) uc us
        exact ih (k + 1) n I J R (uc) (us) (by omega) (by omega) (by omega) (hC) (hS)
      · skip
        have hw32 : ((I 2 (5 * k)) &&& (nI 15)) = nI 12 := q_swi hsw (by decide)
        refine q_k 5 ?_
        show q_W L (d + 9) 131 q_m131 Q 585 [some (.ref 2), some (.ref 3), some (.ref 192), some (.int (nI (5 * k)))] [.int ((nI (5 * k)) + (nI 1)), .ref 2, .ref 3] (n, I, J, R) uc us
        refine q_top (w := nI (5 * k + 1)) (nI_add _ _) ?_
        refine q_sal rfl rfl (by omega) (hL10) ?_
        refine q_k 4 ?_
        show q_W L (d + 9) 131 q_m131 Q 590 [some (.ref 2), some (.ref 3), some (.ref 192), some (.int (nI (5 * k)))] [.int ((nI (5 * k)) + (nI 2)), .ref 2, .int (I 2 (5 * k + 1)), .ref 3] (n, I, J, R) uc us
        refine q_top (w := nI (5 * k + 2)) (nI_add _ _) ?_
        refine q_sal rfl rfl (by omega) (hL10) ?_
        refine q_cv (as := [.int (I 2 (5 * k + 1)), .int (I 2 (5 * k + 2))]) (rs := []) rfl rfl rfl (⟨by have := hC.K.1; omega, rfl⟩) rfl rfl ?_
        refine k_sessions hC ?_
        have hC1 := hC.K
        show q_W L (d + 9) 131 q_m131 Q 594 [some (.ref 2), some (.ref 3), some (.ref 192), some (.int (nI (5 * k)))] [.int (g_sess (I 2 (5 * k + 1)) (I 2 (5 * k + 2)) I)] (n, I, J, R) uc us
        refine q_k 5 ?_
        show q_W L (d + 9) 131 q_m131 Q 599 [some (.ref 2), some (.ref 3), some (.ref 192), some (.int (nI (5 * k)))] [.int ((nI (5 * k)) + (nI 1)), .ref 2, .ref 192, .int (g_sess (I 2 (5 * k + 1)) (I 2 (5 * k + 2)) I)] (n, I, J, R) uc us
        refine q_top (w := nI (5 * k + 1)) (nI_add _ _) ?_
        refine q_sal rfl rfl (by omega) (hL10) ?_
        refine q_k 4 ?_
        show q_W L (d + 9) 131 q_m131 Q 604 [some (.ref 2), some (.ref 3), some (.ref 192), some (.int (nI (5 * k)))] [.int ((nI (5 * k)) + (nI 2)), .ref 2, .int (I 2 (5 * k + 1)), .ref 192, .int (g_sess (I 2 (5 * k + 1)) (I 2 (5 * k + 2)) I)] (n, I, J, R) uc us
        refine q_top (w := nI (5 * k + 2)) (nI_add _ _) ?_
        refine q_sal rfl rfl (by omega) (hL10) ?_
        refine q_cv (as := [.int (I 2 (5 * k + 1)), .int (I 2 (5 * k + 2))]) (rs := [.int (g_sess (I 2 (5 * k + 1)) (I 2 (5 * k + 2)) I)]) rfl rfl rfl (⟨by have := hC1.1; omega, rfl⟩) rfl rfl ?_
        refine m_sessions hC1 ?_
        show q_W L (d + 9) 131 q_m131 Q 608 [some (.ref 2), some (.ref 3), some (.ref 192), some (.int (nI (5 * k)))] [.int (g_sess (I 2 (5 * k + 1)) (I 2 (5 * k + 2)) I), .int (g_sess (I 2 (5 * k + 1)) (I 2 (5 * k + 2)) I)] (n, I, J, R) uc us
        refine q_one rfl rfl ?_
        show ((g_sess (I 2 (5 * k + 1)) (I 2 (5 * k + 2)) I) = (g_sess (I 2 (5 * k + 1)) (I 2 (5 * k + 2)) I) → q_W L (d + 9) 131 q_m131 Q 773 [some (.ref 2), some (.ref 3), some (.ref 192), some (.int (nI (5 * k)))] [] (n, I, J, R) uc us) ∧ (¬ (g_sess (I 2 (5 * k + 1)) (I 2 (5 * k + 2)) I) = (g_sess (I 2 (5 * k + 1)) (I 2 (5 * k + 2)) I) → q_W L (d + 9) 131 q_m131 Q 611 [some (.ref 2), some (.ref 3), some (.ref 192), some (.int (nI (5 * k)))] [] (n, I, J, R) uc us)
        refine ⟨fun _ => ?_, fun z => absurd (rfl) z⟩
        refine q_k 1 ?_
        show q_W L (d + 9) 131 q_m131 Q 776 [some (.ref 2), some (.ref 3), some (.ref 192), some (.int ((nI (5 * k)) + nI 5))] [] (n, I, J, R) uc us
        rw [show (nI (5 * k)) + nI 5 = nI (5 * k + 5) from nI_add _ _]
        refine q_k 1 ?_
        show q_W L (d + 9) 131 q_m131 Q 18 [some (.ref 2), some (.ref 3), some (.ref 192), some (.int (nI (5 * k + 5)))] [] (n, I, J, R) uc us
        exact ih (k + 1) n I J R (uc) (us) (by omega) (by omega) (by omega) (hC) (hS)
      · skip
        have hw32 : ((I 2 (5 * k)) &&& (nI 15)) = nI 13 := q_swi hsw (by decide)
        refine q_k 5 ?_
        show q_W L (d + 9) 131 q_m131 Q 618 [some (.ref 2), some (.ref 3), some (.ref 192), some (.int (nI (5 * k)))] [.int ((nI (5 * k)) + (nI 1)), .ref 2, .ref 3] (n, I, J, R) uc us
        refine q_top (w := nI (5 * k + 1)) (nI_add _ _) ?_
        refine q_sal rfl rfl (by omega) (hL10) ?_
        refine q_k 4 ?_
        show q_W L (d + 9) 131 q_m131 Q 623 [some (.ref 2), some (.ref 3), some (.ref 192), some (.int (nI (5 * k)))] [.int ((nI (5 * k)) + (nI 2)), .ref 2, .int (I 2 (5 * k + 1)), .ref 3] (n, I, J, R) uc us
        refine q_top (w := nI (5 * k + 2)) (nI_add _ _) ?_
        refine q_sal rfl rfl (by omega) (hL10) ?_
        refine q_k 4 ?_
        show q_W L (d + 9) 131 q_m131 Q 628 [some (.ref 2), some (.ref 3), some (.ref 192), some (.int (nI (5 * k)))] [.int ((nI (5 * k)) + (nI 3)), .ref 2, .int (I 2 (5 * k + 2)), .int (I 2 (5 * k + 1)), .ref 3] (n, I, J, R) uc us
        refine q_top (w := nI (5 * k + 3)) (nI_add _ _) ?_
        refine q_sal rfl rfl (by omega) (hL10) ?_
        refine q_k 4 ?_
        show q_W L (d + 9) 131 q_m131 Q 633 [some (.ref 2), some (.ref 3), some (.ref 192), some (.int (nI (5 * k)))] [.int ((nI (5 * k)) + (nI 4)), .ref 2, .int (I 2 (5 * k + 3)), .int (I 2 (5 * k + 2)), .int (I 2 (5 * k + 1)), .ref 3] (n, I, J, R) uc us
        refine q_top (w := nI (5 * k + 4)) (nI_add _ _) ?_
        refine q_sal rfl rfl (by omega) (hL10) ?_
        refine q_cv (as := [.int (I 2 (5 * k + 1)), .int (I 2 (5 * k + 2)), .int (I 2 (5 * k + 3)), .int (I 2 (5 * k + 4))]) (rs := []) rfl rfl rfl (⟨by have := hC.K.1; omega, rfl⟩) rfl rfl ?_
        refine k_session hC ?_
        have hC1 := hC.K
        show q_W L (d + 9) 131 q_m131 Q 637 [some (.ref 2), some (.ref 3), some (.ref 192), some (.int (nI (5 * k)))] [.int (g_session (I 2 (5 * k + 1)) (I 2 (5 * k + 2)) (I 2 (5 * k + 3)) (I 2 (5 * k + 4)) I)] (n, I, J, R) uc us
        refine q_k 5 ?_
        show q_W L (d + 9) 131 q_m131 Q 642 [some (.ref 2), some (.ref 3), some (.ref 192), some (.int (nI (5 * k)))] [.int ((nI (5 * k)) + (nI 1)), .ref 2, .ref 192, .int (g_session (I 2 (5 * k + 1)) (I 2 (5 * k + 2)) (I 2 (5 * k + 3)) (I 2 (5 * k + 4)) I)] (n, I, J, R) uc us
        refine q_top (w := nI (5 * k + 1)) (nI_add _ _) ?_
        refine q_sal rfl rfl (by omega) (hL10) ?_
        refine q_k 4 ?_
        show q_W L (d + 9) 131 q_m131 Q 647 [some (.ref 2), some (.ref 3), some (.ref 192), some (.int (nI (5 * k)))] [.int ((nI (5 * k)) + (nI 2)), .ref 2, .int (I 2 (5 * k + 1)), .ref 192, .int (g_session (I 2 (5 * k + 1)) (I 2 (5 * k + 2)) (I 2 (5 * k + 3)) (I 2 (5 * k + 4)) I)] (n, I, J, R) uc us
        refine q_top (w := nI (5 * k + 2)) (nI_add _ _) ?_
        refine q_sal rfl rfl (by omega) (hL10) ?_
        refine q_k 4 ?_
        show q_W L (d + 9) 131 q_m131 Q 652 [some (.ref 2), some (.ref 3), some (.ref 192), some (.int (nI (5 * k)))] [.int ((nI (5 * k)) + (nI 3)), .ref 2, .int (I 2 (5 * k + 2)), .int (I 2 (5 * k + 1)), .ref 192, .int (g_session (I 2 (5 * k + 1)) (I 2 (5 * k + 2)) (I 2 (5 * k + 3)) (I 2 (5 * k + 4)) I)] (n, I, J, R) uc us
        refine q_top (w := nI (5 * k + 3)) (nI_add _ _) ?_
        refine q_sal rfl rfl (by omega) (hL10) ?_
        refine q_k 4 ?_
        show q_W L (d + 9) 131 q_m131 Q 657 [some (.ref 2), some (.ref 3), some (.ref 192), some (.int (nI (5 * k)))] [.int ((nI (5 * k)) + (nI 4)), .ref 2, .int (I 2 (5 * k + 3)), .int (I 2 (5 * k + 2)), .int (I 2 (5 * k + 1)), .ref 192, .int (g_session (I 2 (5 * k + 1)) (I 2 (5 * k + 2)) (I 2 (5 * k + 3)) (I 2 (5 * k + 4)) I)] (n, I, J, R) uc us
        refine q_top (w := nI (5 * k + 4)) (nI_add _ _) ?_
        refine q_sal rfl rfl (by omega) (hL10) ?_
        refine q_cv (as := [.int (I 2 (5 * k + 1)), .int (I 2 (5 * k + 2)), .int (I 2 (5 * k + 3)), .int (I 2 (5 * k + 4))]) (rs := [.int (g_session (I 2 (5 * k + 1)) (I 2 (5 * k + 2)) (I 2 (5 * k + 3)) (I 2 (5 * k + 4)) I)]) rfl rfl rfl (⟨by have := hC1.1; omega, rfl⟩) rfl rfl ?_
        refine m_session hC1 (CR_p2 hC (q_nmf_rf _)) ?_
        show q_W L (d + 9) 131 q_m131 Q 661 [some (.ref 2), some (.ref 3), some (.ref 192), some (.int (nI (5 * k)))] [.int (g_session (I 2 (5 * k + 1)) (I 2 (5 * k + 2)) (I 2 (5 * k + 3)) (I 2 (5 * k + 4)) I), .int (g_session (I 2 (5 * k + 1)) (I 2 (5 * k + 2)) (I 2 (5 * k + 3)) (I 2 (5 * k + 4)) I)] (n, I, J, R) uc us
        refine q_one rfl rfl ?_
        show ((g_session (I 2 (5 * k + 1)) (I 2 (5 * k + 2)) (I 2 (5 * k + 3)) (I 2 (5 * k + 4)) I) = (g_session (I 2 (5 * k + 1)) (I 2 (5 * k + 2)) (I 2 (5 * k + 3)) (I 2 (5 * k + 4)) I) → q_W L (d + 9) 131 q_m131 Q 773 [some (.ref 2), some (.ref 3), some (.ref 192), some (.int (nI (5 * k)))] [] (n, I, J, R) uc us) ∧ (¬ (g_session (I 2 (5 * k + 1)) (I 2 (5 * k + 2)) (I 2 (5 * k + 3)) (I 2 (5 * k + 4)) I) = (g_session (I 2 (5 * k + 1)) (I 2 (5 * k + 2)) (I 2 (5 * k + 3)) (I 2 (5 * k + 4)) I) → q_W L (d + 9) 131 q_m131 Q 664 [some (.ref 2), some (.ref 3), some (.ref 192), some (.int (nI (5 * k)))] [] (n, I, J, R) uc us)
        refine ⟨fun _ => ?_, fun z => absurd (rfl) z⟩
        refine q_k 1 ?_
        show q_W L (d + 9) 131 q_m131 Q 776 [some (.ref 2), some (.ref 3), some (.ref 192), some (.int ((nI (5 * k)) + nI 5))] [] (n, I, J, R) uc us
        rw [show (nI (5 * k)) + nI 5 = nI (5 * k + 5) from nI_add _ _]
        refine q_k 1 ?_
        show q_W L (d + 9) 131 q_m131 Q 18 [some (.ref 2), some (.ref 3), some (.ref 192), some (.int (nI (5 * k + 5)))] [] (n, I, J, R) uc us
        exact ih (k + 1) n I J R (uc) (us) (by omega) (by omega) (by omega) (hC) (hS)
      · skip
        have hw32 : ((I 2 (5 * k)) &&& (nI 15)) = nI 14 := q_swi hsw (by decide)
        refine q_k 5 ?_
        show q_W L (d + 9) 131 q_m131 Q 671 [some (.ref 2), some (.ref 3), some (.ref 192), some (.int (nI (5 * k)))] [.int ((nI (5 * k)) + (nI 1)), .ref 2, .ref 3] (n, I, J, R) uc us
        refine q_top (w := nI (5 * k + 1)) (nI_add _ _) ?_
        refine q_sal rfl rfl (by omega) (hL10) ?_
        refine q_k 4 ?_
        show q_W L (d + 9) 131 q_m131 Q 676 [some (.ref 2), some (.ref 3), some (.ref 192), some (.int (nI (5 * k)))] [.int ((nI (5 * k)) + (nI 2)), .ref 2, .int (I 2 (5 * k + 1)), .ref 3] (n, I, J, R) uc us
        refine q_top (w := nI (5 * k + 2)) (nI_add _ _) ?_
        refine q_sal rfl rfl (by omega) (hL10) ?_
        refine q_cv (as := [.int (I 2 (5 * k + 1)), .int (I 2 (5 * k + 2))]) (rs := []) rfl rfl rfl (⟨by have := hC.K.1; omega, rfl⟩) rfl rfl ?_
        refine k_power  ?_
        have hC1 := hC.K
        show q_W L (d + 9) 131 q_m131 Q 680 [some (.ref 2), some (.ref 3), some (.ref 192), some (.int (nI (5 * k)))] [.int (g_power (I 2 (5 * k + 1)) (I 2 (5 * k + 2)))] (n, I, J, R) uc us
        refine q_k 5 ?_
        show q_W L (d + 9) 131 q_m131 Q 685 [some (.ref 2), some (.ref 3), some (.ref 192), some (.int (nI (5 * k)))] [.int ((nI (5 * k)) + (nI 1)), .ref 2, .ref 192, .int (g_power (I 2 (5 * k + 1)) (I 2 (5 * k + 2)))] (n, I, J, R) uc us
        refine q_top (w := nI (5 * k + 1)) (nI_add _ _) ?_
        refine q_sal rfl rfl (by omega) (hL10) ?_
        refine q_k 4 ?_
        show q_W L (d + 9) 131 q_m131 Q 690 [some (.ref 2), some (.ref 3), some (.ref 192), some (.int (nI (5 * k)))] [.int ((nI (5 * k)) + (nI 2)), .ref 2, .int (I 2 (5 * k + 1)), .ref 192, .int (g_power (I 2 (5 * k + 1)) (I 2 (5 * k + 2)))] (n, I, J, R) uc us
        refine q_top (w := nI (5 * k + 2)) (nI_add _ _) ?_
        refine q_sal rfl rfl (by omega) (hL10) ?_
        refine q_cv (as := [.int (I 2 (5 * k + 1)), .int (I 2 (5 * k + 2))]) (rs := [.int (g_power (I 2 (5 * k + 1)) (I 2 (5 * k + 2)))]) rfl rfl rfl (⟨by have := hC1.1; omega, rfl⟩) rfl rfl ?_
        refine m_power ?_
        show q_W L (d + 9) 131 q_m131 Q 694 [some (.ref 2), some (.ref 3), some (.ref 192), some (.int (nI (5 * k)))] [.int (g_power (I 2 (5 * k + 1)) (I 2 (5 * k + 2))), .int (g_power (I 2 (5 * k + 1)) (I 2 (5 * k + 2)))] (n, I, J, R) uc us
        refine q_one rfl rfl ?_
        show ((g_power (I 2 (5 * k + 1)) (I 2 (5 * k + 2))) = (g_power (I 2 (5 * k + 1)) (I 2 (5 * k + 2))) → q_W L (d + 9) 131 q_m131 Q 773 [some (.ref 2), some (.ref 3), some (.ref 192), some (.int (nI (5 * k)))] [] (n, I, J, R) uc us) ∧ (¬ (g_power (I 2 (5 * k + 1)) (I 2 (5 * k + 2))) = (g_power (I 2 (5 * k + 1)) (I 2 (5 * k + 2))) → q_W L (d + 9) 131 q_m131 Q 697 [some (.ref 2), some (.ref 3), some (.ref 192), some (.int (nI (5 * k)))] [] (n, I, J, R) uc us)
        refine ⟨fun _ => ?_, fun z => absurd (rfl) z⟩
        refine q_k 1 ?_
        show q_W L (d + 9) 131 q_m131 Q 776 [some (.ref 2), some (.ref 3), some (.ref 192), some (.int ((nI (5 * k)) + nI 5))] [] (n, I, J, R) uc us
        rw [show (nI (5 * k)) + nI 5 = nI (5 * k + 5) from nI_add _ _]
        refine q_k 1 ?_
        show q_W L (d + 9) 131 q_m131 Q 18 [some (.ref 2), some (.ref 3), some (.ref 192), some (.int (nI (5 * k + 5)))] [] (n, I, J, R) uc us
        exact ih (k + 1) n I J R (uc) (us) (by omega) (by omega) (by omega) (hC) (hS)
      · skip
        have hw32 : ((I 2 (5 * k)) &&& (nI 15)) = nI 15 := q_swi hsw (by decide)
        refine q_k 5 ?_
        show q_W L (d + 9) 131 q_m131 Q 704 [some (.ref 2), some (.ref 3), some (.ref 192), some (.int (nI (5 * k)))] [.int ((nI (5 * k)) + (nI 1)), .ref 2, .ref 3] (n, I, J, R) uc us
        refine q_top (w := nI (5 * k + 1)) (nI_add _ _) ?_
        refine q_sal rfl rfl (by omega) (hL10) ?_
        refine q_k 7 ?_
        show q_W L (d + 9) 131 q_m131 Q 713 [some (.ref 2), some (.ref 3), some (.ref 192), some (.int (nI (5 * k)))] [.int ((nI (5 * k)) + (nI 2)), .ref 2, .long (((I 2 (5 * k + 1)).toInt64) <<< (((nI 32)).toInt64 &&& 63)), .ref 3] (n, I, J, R) uc us
        refine q_top (w := nI (5 * k + 2)) (nI_add _ _) ?_
        refine q_sal rfl rfl (by omega) (hL10) ?_
        refine q_k 8 ?_
        show q_W L (d + 9) 131 q_m131 Q 724 [some (.ref 2), some (.ref 3), some (.ref 192), some (.int (nI (5 * k)))] [.int ((nI (5 * k)) + (nI 3)), .ref 2, .long ((((I 2 (5 * k + 1)).toInt64) <<< (((nI 32)).toInt64 &&& 63)) ||| (((I 2 (5 * k + 2)).toInt64) &&& (lN 4294967295))), .ref 3] (n, I, J, R) uc us
        refine q_top (w := nI (5 * k + 3)) (nI_add _ _) ?_
        refine q_sal rfl rfl (by omega) (hL10) ?_
        refine q_k 4 ?_
        show q_W L (d + 9) 131 q_m131 Q 729 [some (.ref 2), some (.ref 3), some (.ref 192), some (.int (nI (5 * k)))] [.int ((nI (5 * k)) + (nI 4)), .ref 2, .int (I 2 (5 * k + 3)), .long ((((I 2 (5 * k + 1)).toInt64) <<< (((nI 32)).toInt64 &&& 63)) ||| (((I 2 (5 * k + 2)).toInt64) &&& (lN 4294967295))), .ref 3] (n, I, J, R) uc us
        refine q_top (w := nI (5 * k + 4)) (nI_add _ _) ?_
        refine q_sal rfl rfl (by omega) (hL10) ?_
        refine q_cv (as := [.long ((((I 2 (5 * k + 1)).toInt64) <<< (((nI 32)).toInt64 &&& 63)) ||| (((I 2 (5 * k + 2)).toInt64) &&& (lN 4294967295))), .int (I 2 (5 * k + 3)), .int (I 2 (5 * k + 4))]) (rs := []) rfl rfl rfl (⟨by have := hC.K.1; omega, rfl⟩) rfl rfl ?_
        refine k_mix hC (fun n1 I1 J1 R1 c1 c2 c3 => ?_)
        have hC1 := c1.K
        have hq := q_nmf_ms c2
        show q_W L (d + 9) 131 q_m131 Q 733 [some (.ref 2), some (.ref 3), some (.ref 192), some (.int (nI (5 * k)))] [.long (g_wide (g_mkey ((((I 2 (5 * k + 1)).toInt64) <<< (((nI 32)).toInt64 &&& 63)) ||| (((I 2 (5 * k + 2)).toInt64) &&& (lN 4294967295)))) (I 2 (5 * k + 3)) (I 2 (5 * k + 4)) (nI 0) (nI 0))] (n1, I1, J1, R1) uc us
        refine q_k 5 ?_
        show q_W L (d + 9) 131 q_m131 Q 738 [some (.ref 2), some (.ref 3), some (.ref 192), some (.int (nI (5 * k)))] [.int ((nI (5 * k)) + (nI 1)), .ref 2, .ref 192, .long (g_wide (g_mkey ((((I 2 (5 * k + 1)).toInt64) <<< (((nI 32)).toInt64 &&& 63)) ||| (((I 2 (5 * k + 2)).toInt64) &&& (lN 4294967295)))) (I 2 (5 * k + 3)) (I 2 (5 * k + 4)) (nI 0) (nI 0))] (n1, I1, J1, R1) uc us
        refine q_top (w := nI (5 * k + 1)) (nI_add _ _) ?_
        refine q_sal rfl rfl (by omega) (hL10) ?_
        refine q_top (w := I 2 (5 * k + 1)) (congrFun (c2 2 (by omega)) _) ?_
        refine q_k 7 ?_
        show q_W L (d + 9) 131 q_m131 Q 747 [some (.ref 2), some (.ref 3), some (.ref 192), some (.int (nI (5 * k)))] [.int ((nI (5 * k)) + (nI 2)), .ref 2, .long (((I 2 (5 * k + 1)).toInt64) <<< (((nI 32)).toInt64 &&& 63)), .ref 192, .long (g_wide (g_mkey ((((I 2 (5 * k + 1)).toInt64) <<< (((nI 32)).toInt64 &&& 63)) ||| (((I 2 (5 * k + 2)).toInt64) &&& (lN 4294967295)))) (I 2 (5 * k + 3)) (I 2 (5 * k + 4)) (nI 0) (nI 0))] (n1, I1, J1, R1) uc us
        refine q_top (w := nI (5 * k + 2)) (nI_add _ _) ?_
        refine q_sal rfl rfl (by omega) (hL10) ?_
        refine q_top (w := I 2 (5 * k + 2)) (congrFun (c2 2 (by omega)) _) ?_
        refine q_k 8 ?_
        show q_W L (d + 9) 131 q_m131 Q 758 [some (.ref 2), some (.ref 3), some (.ref 192), some (.int (nI (5 * k)))] [.int ((nI (5 * k)) + (nI 3)), .ref 2, .long ((((I 2 (5 * k + 1)).toInt64) <<< (((nI 32)).toInt64 &&& 63)) ||| (((I 2 (5 * k + 2)).toInt64) &&& (lN 4294967295))), .ref 192, .long (g_wide (g_mkey ((((I 2 (5 * k + 1)).toInt64) <<< (((nI 32)).toInt64 &&& 63)) ||| (((I 2 (5 * k + 2)).toInt64) &&& (lN 4294967295)))) (I 2 (5 * k + 3)) (I 2 (5 * k + 4)) (nI 0) (nI 0))] (n1, I1, J1, R1) uc us
        refine q_top (w := nI (5 * k + 3)) (nI_add _ _) ?_
        refine q_sal rfl rfl (by omega) (hL10) ?_
        refine q_top (w := I 2 (5 * k + 3)) (congrFun (c2 2 (by omega)) _) ?_
        refine q_k 4 ?_
        show q_W L (d + 9) 131 q_m131 Q 763 [some (.ref 2), some (.ref 3), some (.ref 192), some (.int (nI (5 * k)))] [.int ((nI (5 * k)) + (nI 4)), .ref 2, .int (I 2 (5 * k + 3)), .long ((((I 2 (5 * k + 1)).toInt64) <<< (((nI 32)).toInt64 &&& 63)) ||| (((I 2 (5 * k + 2)).toInt64) &&& (lN 4294967295))), .ref 192, .long (g_wide (g_mkey ((((I 2 (5 * k + 1)).toInt64) <<< (((nI 32)).toInt64 &&& 63)) ||| (((I 2 (5 * k + 2)).toInt64) &&& (lN 4294967295)))) (I 2 (5 * k + 3)) (I 2 (5 * k + 4)) (nI 0) (nI 0))] (n1, I1, J1, R1) uc us
        refine q_top (w := nI (5 * k + 4)) (nI_add _ _) ?_
        refine q_sal rfl rfl (by omega) (hL10) ?_
        refine q_top (w := I 2 (5 * k + 4)) (congrFun (c2 2 (by omega)) _) ?_
        refine q_cv (as := [.long ((((I 2 (5 * k + 1)).toInt64) <<< (((nI 32)).toInt64 &&& 63)) ||| (((I 2 (5 * k + 2)).toInt64) &&& (lN 4294967295))), .int (I 2 (5 * k + 3)), .int (I 2 (5 * k + 4))]) (rs := [.long (g_wide (g_mkey ((((I 2 (5 * k + 1)).toInt64) <<< (((nI 32)).toInt64 &&& 63)) ||| (((I 2 (5 * k + 2)).toInt64) &&& (lN 4294967295)))) (I 2 (5 * k + 3)) (I 2 (5 * k + 4)) (nI 0) (nI 0))]) rfl rfl rfl (⟨by have := hC1.1; omega, rfl⟩) rfl rfl ?_
        refine m_mix hC1 (fun I3 f3 => ?_)
        show q_W L (d + 9) 131 q_m131 Q 767 [some (.ref 2), some (.ref 3), some (.ref 192), some (.int (nI (5 * k)))] [.long (g_wide (g_mkey ((((I 2 (5 * k + 1)).toInt64) <<< (((nI 32)).toInt64 &&& 63)) ||| (((I 2 (5 * k + 2)).toInt64) &&& (lN 4294967295)))) (I 2 (5 * k + 3)) (I 2 (5 * k + 4)) (nI 0) (nI 0)), .long (g_wide (g_mkey ((((I 2 (5 * k + 1)).toInt64) <<< (((nI 32)).toInt64 &&& 63)) ||| (((I 2 (5 * k + 2)).toInt64) &&& (lN 4294967295)))) (I 2 (5 * k + 3)) (I 2 (5 * k + 4)) (nI 0) (nI 0))] (n1, I3, J1, R1) uc us
        refine q_k 1 ?_
        show q_W L (d + 9) 131 q_m131 Q 768 [some (.ref 2), some (.ref 3), some (.ref 192), some (.int (nI (5 * k)))] [.int (lg_cmp (g_wide (g_mkey ((((I 2 (5 * k + 1)).toInt64) <<< (((nI 32)).toInt64 &&& 63)) ||| (((I 2 (5 * k + 2)).toInt64) &&& (lN 4294967295)))) (I 2 (5 * k + 3)) (I 2 (5 * k + 4)) (nI 0) (nI 0)) (g_wide (g_mkey ((((I 2 (5 * k + 1)).toInt64) <<< (((nI 32)).toInt64 &&& 63)) ||| (((I 2 (5 * k + 2)).toInt64) &&& (lN 4294967295)))) (I 2 (5 * k + 3)) (I 2 (5 * k + 4)) (nI 0) (nI 0)))] (n1, I3, J1, R1) uc us
        refine q_one rfl rfl ?_
        show ((lg_cmp (g_wide (g_mkey ((((I 2 (5 * k + 1)).toInt64) <<< (((nI 32)).toInt64 &&& 63)) ||| (((I 2 (5 * k + 2)).toInt64) &&& (lN 4294967295)))) (I 2 (5 * k + 3)) (I 2 (5 * k + 4)) (nI 0) (nI 0)) (g_wide (g_mkey ((((I 2 (5 * k + 1)).toInt64) <<< (((nI 32)).toInt64 &&& 63)) ||| (((I 2 (5 * k + 2)).toInt64) &&& (lN 4294967295)))) (I 2 (5 * k + 3)) (I 2 (5 * k + 4)) (nI 0) (nI 0))) = 0 → q_W L (d + 9) 131 q_m131 Q 773 [some (.ref 2), some (.ref 3), some (.ref 192), some (.int (nI (5 * k)))] [] (n1, I3, J1, R1) uc us) ∧ (¬ (lg_cmp (g_wide (g_mkey ((((I 2 (5 * k + 1)).toInt64) <<< (((nI 32)).toInt64 &&& 63)) ||| (((I 2 (5 * k + 2)).toInt64) &&& (lN 4294967295)))) (I 2 (5 * k + 3)) (I 2 (5 * k + 4)) (nI 0) (nI 0)) (g_wide (g_mkey ((((I 2 (5 * k + 1)).toInt64) <<< (((nI 32)).toInt64 &&& 63)) ||| (((I 2 (5 * k + 2)).toInt64) &&& (lN 4294967295)))) (I 2 (5 * k + 3)) (I 2 (5 * k + 4)) (nI 0) (nI 0))) = 0 → q_W L (d + 9) 131 q_m131 Q 771 [some (.ref 2), some (.ref 3), some (.ref 192), some (.int (nI (5 * k)))] [] (n1, I3, J1, R1) uc us)
        refine ⟨fun _ => ?_, fun z => absurd ((lg_cmp_eq _ _).mpr (rfl)) z⟩
        refine q_k 1 ?_
        show q_W L (d + 9) 131 q_m131 Q 776 [some (.ref 2), some (.ref 3), some (.ref 192), some (.int ((nI (5 * k)) + nI 5))] [] (n1, I3, J1, R1) uc us
        rw [show (nI (5 * k)) + nI 5 = nI (5 * k + 5) from nI_add _ _]
        refine q_k 1 ?_
        show q_W L (d + 9) 131 q_m131 Q 18 [some (.ref 2), some (.ref 3), some (.ref 192), some (.int (nI (5 * k + 5)))] [] (n1, I3, J1, R1) uc us
        exact ih (k + 1) n1 I3 J1 R1 (uc) (us) (by omega) (by omega) (by omega) (L_close c1 (q_ms_tr ⟨fun a h1 h2 => f3 a (by omega) (by omega) (by omega) (by omega), by rw [f3 192 (by decide) (by decide) (by decide) (by decide)]⟩ hq) (q_J_mN c3) (fun x hx => f3 x (by omega) (by omega) (by omega) (by omega)) (fun _ _ => rfl)) (by rw [f3 2 (by decide) (by decide) (by decide) (by decide), c2 2 (by omega)]; exact hS)
theorem law_all {L d : Nat} {I : q_I} {J : q_L} {R : q_R} {Q : q_Q} (hL10 : Nat.ble L 10000 = true) (hLn : L ≤ 2560) (hQ : ∀ μ, Q (some (.int (nI 1))) μ) (hz0 : ∀ j, j < 8 → I 0 j = 0) (hz1 : I 1 0 = nI 1634760805 ∧ I 1 1 = nI 857760878 ∧ I 1 2 = nI 2036477234 ∧ I 1 3 = nI 1797285236) : q_W L (d + 9) 131 q_m131 Q 0 [some (.ref 2), none, none, none] [] (3, I, J, R) 0 0 := by
  refine q_nw (n2 := 4) (uc2 := 1) (us2 := 10) rfl rfl (rfl) rfl rfl rfl ⟨rfl, rfl⟩ ?_
  refine q_k 1 ?_
  show q_W L (d + 9) 131 q_m131 Q 4 [some (.ref 2), none, none, none] [.ref 3, .ref 3] (4, va_up I 3 (fun _ => 0), va_up J 3 (fun _ => 0), va_up R 3 (fun _ => none)) 1 10
  refine q_ci1A (as := []) (rs := [.ref 3]) rfl rfl rfl rfl rfl ⟨by decide, by decide⟩ ?_
  refine c_RPInit (fun I1 J1 R1 b1 f1 => ?_)
  show q_W L (d + 9) 131 q_m131 Q 7 [some (.ref 2), none, none, none] [.ref 3] (192, I1, J1, R1) 189 1561
  refine q_k 1 ?_
  show q_W L (d + 9) 131 q_m131 Q 8 [some (.ref 2), some (.ref 3), none, none] [] (192, I1, J1, R1) 189 1561
  refine q_nw (n2 := 193) (uc2 := 190) (us2 := 1586) rfl rfl (rfl) rfl rfl rfl ⟨rfl, rfl⟩ ?_
  refine q_k 1 ?_
  show q_W L (d + 9) 131 q_m131 Q 12 [some (.ref 2), some (.ref 3), none, none] [.ref 192, .ref 192] (193, va_up I1 192 (fun _ => 0), va_up J1 192 (fun _ => 0), va_up R1 192 (fun _ => none)) 190 1586
  refine q_ci1A (as := []) (rs := [.ref 192]) rfl rfl rfl rfl rfl ⟨by decide, by decide⟩ ?_
  refine c_MoInit (fun I2 J2 R2 f2 r2 m2 m3 z2 j2 => ?_)
  show q_W L (d + 9) 131 q_m131 Q 15 [some (.ref 2), some (.ref 3), none, none] [.ref 192] (214, I2, J2, R2) 211 10448
  refine q_k 3 ?_
  show q_W L (d + 9) 131 q_m131 Q 18 [some (.ref 2), some (.ref 3), some (.ref 192), some (.int (nI 0))] [] (214, I2, J2, R2) 211 10448
  have hI : ∀ x, x < 192 → I2 x = I1 x ∧ J2 x = J1 x := fun x hx => ⟨by rw [(f2 x (by omega)).1, va_up_ne _ _ (by omega)], by rw [(f2 x (by omega)).2, va_up_ne _ _ (by omega)]⟩
  have hlow : ∀ x, x < 3 → I2 x = I x := fun x hx => by rw [(hI x (by omega)).1, f1 x hx, va_up_ne _ _ (by omega)]
  have hC : CR 214 I2 J2 R2 I2 J2 := CR_0 b1 (fun j hj => by rw [hlow 0 (by omega)]; exact hz0 j hj) (by rw [hlow 1 (by omega)]; exact hz1) hI (fun x hx => by rw [r2 x hx, va_up_ne _ _ (by omega)]) m2 m3 z2 (fun j => by rw [(f2 192 (by omega)).1, va_up_self]) j2 (fun j => by rw [(f2 192 (by omega)).2, va_up_self])
  obtain ⟨j, hj⟩ : ∃ j, 5 * (0 + j) ≤ L + 5 ∧ L < 5 * (0 + j) + 5 := ⟨L / 5, by omega, by omega⟩
  exact law_loop hL10 hLn hQ j 0 214 I2 J2 R2 _ _ hj (by decide) (by decide) hC (hlow 2 (by omega))
