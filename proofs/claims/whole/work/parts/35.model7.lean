theorem m_gone {L d n : Nat} {I : q_I} {J : q_L} {R : q_R} {Q : q_Q} {k c : Nat} (hK : q_K0 n I R) (hc : I 207 9 = nI c) (hkc : k < c) (hc28 : c ≤ 28) (hQ : ∀ I', I' 207 = s_gone k c (I 207) → (∀ x, x ≠ 207 → I' x = I x) → Q none (n, I', J, R)) : q_Ex L (d + 1) 125 [.ref 192, .int (nI k)] (n, I, J, R) Q := by
  refine q_in (x := q_m125) rfl rfl ?_
  show q_W L d 125 q_m125 Q 0 [some (.ref 192), some (.int (nI k)), none] [] (n, I, J, R) 0 0
  refine q_k 1 ?_
  show q_W L d 125 q_m125 Q 1 [some (.ref 192), some (.int (nI k)), none] [.ref 192] (n, I, J, R) 0 0
  refine q_gR (b := 207) rfl rfl (⟨Nat.lt_of_lt_of_le (by decide) hK.1, rfl⟩) (hK.2.1 192 14 207 rfl) ?_
  refine q_k 2 ?_
  show q_W L d 125 q_m125 Q 7 [some (.ref 192), some (.int (nI k)), none] [.int (nI 9), .ref 207, .int (nI 9), .ref 207] (n, I, J, R) 0 0
  refine q_ial (m := 9) rfl (⟨by decide, Nat.lt_of_lt_of_le (by decide) hK.1, rfl⟩) (by decide) (rfl) ?_
  refine q_top (w := nI c) (hc) ?_
  refine q_k 2 ?_
  show q_W L d 125 q_m125 Q 10 [some (.ref 192), some (.int (nI k)), none] [.int ((nI c) - (nI 1)), .int (nI 9), .ref 207] (n, I, J, R) 0 0
  refine q_top (w := nI (c - 1)) (pk_sub (by omega)) ?_
  refine q_ias (m := 9) rfl (⟨by decide, Nat.lt_of_lt_of_le (by decide) hK.1, rfl⟩) (by decide) (rfl) ?_
  obtain ⟨I1, eI1⟩ : ∃ zz9, zz9 = q_up I 207 9 (nI (c - 1)) := ⟨_, rfl⟩
  rw [← eI1]
  refine q_k 4 ?_
  show q_W L d 125 q_m125 Q 17 [some (.ref 192), some (.int (nI k)), none] [.int ((nI 10) * (nI k)), .int (nI 38)] (n, I1, J, R) 0 0
  refine q_top (w := nI (10 * k)) (pk_mul _ _) ?_
  refine q_k 1 ?_
  show q_W L d 125 q_m125 Q 18 [some (.ref 192), some (.int (nI k)), none] [.int ((nI 38) + (nI (10 * k)))] (n, I1, J, R) 0 0
  refine q_top (w := nI (38 + (10 * k))) (nI_add _ _) ?_
  refine q_k 1 ?_
  show q_W L d 125 q_m125 Q 19 [some (.ref 192), some (.int (nI k)), some (.int (nI (38 + (10 * k))))] [] (n, I1, J, R) 0 0
  refine q_loop (σ := q_I) (38 + 10 * (c - 1)) (fun y I2 => (∀ j, I2 207 j = if 38 + 10 * k ≤ j ∧ j < y then I1 207 (j + 10) else I1 207 j) ∧ 38 + 10 * k ≤ y ∧ ∀ x, x ≠ 207 → I2 x = I x) (fun y I2 => q_W L d 125 q_m125 Q 19 [some (.ref 192), some (.int (nI k)), some (.int (nI y))] [] (n, I2, J, R) 0 0) ?_ ?_ (38 + 10 * k) I1 (by omega) ?_
  · intro I2 hI2
    show q_W L d 125 q_m125 Q 19 [some (.ref 192), some (.int (nI k)), some (.int (nI (38 + 10 * (c - 1))))] [] (n, I2, J, R) 0 0
    refine q_k 4 ?_
    show q_W L d 125 q_m125 Q 25 [some (.ref 192), some (.int (nI k)), some (.int (nI (38 + 10 * (c - 1))))] [.ref 192, .int (nI 10), .int (nI 38), .int (nI (38 + 10 * (c - 1)))] (n, I2, J, R) 0 0
    refine q_gR (b := 207) rfl rfl (⟨Nat.lt_of_lt_of_le (by decide) hK.1, rfl⟩) (hK.2.1 192 14 207 rfl) ?_
    refine q_k 1 ?_
    show q_W L d 125 q_m125 Q 30 [some (.ref 192), some (.int (nI k)), some (.int (nI (38 + 10 * (c - 1))))] [.int (nI 9), .ref 207, .int (nI 10), .int (nI 38), .int (nI (38 + 10 * (c - 1)))] (n, I2, J, R) 0 0
    refine q_ial (m := 9) rfl (⟨by decide, Nat.lt_of_lt_of_le (by decide) hK.1, rfl⟩) (by decide) (rfl) ?_
    refine q_top (w := nI (c - 1)) (by rw [hI2.1 9, if_neg (by omega), eI1, q_usk]) ?_
    refine q_k 1 ?_
    show q_W L d 125 q_m125 Q 32 [some (.ref 192), some (.int (nI k)), some (.int (nI (38 + 10 * (c - 1))))] [.int ((nI 10) * (nI (c - 1))), .int (nI 38), .int (nI (38 + 10 * (c - 1)))] (n, I2, J, R) 0 0
    refine q_top (w := nI (10 * (c - 1))) (pk_mul _ _) ?_
    refine q_k 1 ?_
    show q_W L d 125 q_m125 Q 33 [some (.ref 192), some (.int (nI k)), some (.int (nI (38 + 10 * (c - 1))))] [.int ((nI 38) + (nI (10 * (c - 1)))), .int (nI (38 + 10 * (c - 1)))] (n, I2, J, R) 0 0
    refine q_top (w := nI (38 + (10 * (c - 1)))) (nI_add _ _) ?_
    refine q_one rfl rfl ?_
    show ((nI (38 + (10 * (c - 1)))) ≤ (nI (38 + 10 * (c - 1))) → q_W L d 125 q_m125 Q 57 [some (.ref 192), some (.int (nI k)), some (.int (nI (38 + 10 * (c - 1))))] [] (n, I2, J, R) 0 0) ∧ (¬ (nI (38 + (10 * (c - 1)))) ≤ (nI (38 + 10 * (c - 1))) → q_W L d 125 q_m125 Q 36 [some (.ref 192), some (.int (nI k)), some (.int (nI (38 + 10 * (c - 1))))] [] (n, I2, J, R) 0 0)
    refine ⟨fun _ => ?_, fun z => absurd (nI_le (Nat.le_refl _) (by omega)) z⟩
    refine q_one rfl rfl ?_
    show Q (none) (n, I2, J, R)
    refine hQ I2 (funext fun i => ?_) hI2.2.2
    unfold s_gone
    rw [hI2.1 i]
    by_cases e9 : i = 9
    · subst e9; rw [if_neg (by omega), eI1, q_usk, if_pos rfl]
    · rw [if_neg e9]
      by_cases c1 : 38 + 10 * k ≤ i ∧ i < 38 + 10 * (c - 1)
      · rw [if_pos c1, if_pos c1, eI1, q_usn (by omega)]
      · rw [if_neg c1, if_neg c1, eI1, q_usn e9]
  · intro y I2 hk hI2 ih
    show q_W L d 125 q_m125 Q 19 [some (.ref 192), some (.int (nI k)), some (.int (nI y))] [] (n, I2, J, R) 0 0
    refine q_k 4 ?_
    show q_W L d 125 q_m125 Q 25 [some (.ref 192), some (.int (nI k)), some (.int (nI y))] [.ref 192, .int (nI 10), .int (nI 38), .int (nI y)] (n, I2, J, R) 0 0
    refine q_gR (b := 207) rfl rfl (⟨Nat.lt_of_lt_of_le (by decide) hK.1, rfl⟩) (hK.2.1 192 14 207 rfl) ?_
    refine q_k 1 ?_
    show q_W L d 125 q_m125 Q 30 [some (.ref 192), some (.int (nI k)), some (.int (nI y))] [.int (nI 9), .ref 207, .int (nI 10), .int (nI 38), .int (nI y)] (n, I2, J, R) 0 0
    refine q_ial (m := 9) rfl (⟨by decide, Nat.lt_of_lt_of_le (by decide) hK.1, rfl⟩) (by decide) (rfl) ?_
    refine q_top (w := nI (c - 1)) (by rw [hI2.1 9, if_neg (by omega), eI1, q_usk]) ?_
    refine q_k 1 ?_
    show q_W L d 125 q_m125 Q 32 [some (.ref 192), some (.int (nI k)), some (.int (nI y))] [.int ((nI 10) * (nI (c - 1))), .int (nI 38), .int (nI y)] (n, I2, J, R) 0 0
    refine q_top (w := nI (10 * (c - 1))) (pk_mul _ _) ?_
    refine q_k 1 ?_
    show q_W L d 125 q_m125 Q 33 [some (.ref 192), some (.int (nI k)), some (.int (nI y))] [.int ((nI 38) + (nI (10 * (c - 1)))), .int (nI y)] (n, I2, J, R) 0 0
    refine q_top (w := nI (38 + (10 * (c - 1)))) (nI_add _ _) ?_
    refine q_one rfl rfl ?_
    show ((nI (38 + (10 * (c - 1)))) ≤ (nI y) → q_W L d 125 q_m125 Q 57 [some (.ref 192), some (.int (nI k)), some (.int (nI y))] [] (n, I2, J, R) 0 0) ∧ (¬ (nI (38 + (10 * (c - 1)))) ≤ (nI y) → q_W L d 125 q_m125 Q 36 [some (.ref 192), some (.int (nI k)), some (.int (nI y))] [] (n, I2, J, R) 0 0)
    refine ⟨fun z => absurd z (nI_ge hk (by omega)), fun _ => ?_⟩
    refine q_k 1 ?_
    show q_W L d 125 q_m125 Q 37 [some (.ref 192), some (.int (nI k)), some (.int (nI y))] [.ref 192] (n, I2, J, R) 0 0
    refine q_gR (b := 207) rfl rfl (⟨Nat.lt_of_lt_of_le (by decide) hK.1, rfl⟩) (hK.2.1 192 14 207 rfl) ?_
    refine q_k 2 ?_
    show q_W L d 125 q_m125 Q 42 [some (.ref 192), some (.int (nI k)), some (.int (nI y))] [.ref 192, .int (nI y), .ref 207] (n, I2, J, R) 0 0
    refine q_gR (b := 207) rfl rfl (⟨Nat.lt_of_lt_of_le (by decide) hK.1, rfl⟩) (hK.2.1 192 14 207 rfl) ?_
    refine q_k 3 ?_
    show q_W L d 125 q_m125 Q 49 [some (.ref 192), some (.int (nI k)), some (.int (nI y))] [.int ((nI y) + (nI 10)), .ref 207, .int (nI y), .ref 207] (n, I2, J, R) 0 0
    refine q_top (w := nI (y + 10)) (nI_add _ _) ?_
    refine q_ial (m := y + 10) rfl (⟨by decide, Nat.lt_of_lt_of_le (by decide) hK.1, rfl⟩) (by omega) (rfl) ?_
    refine q_top (w := I1 207 (y + 10)) (by rw [hI2.1, if_neg (by omega)]) ?_
    refine q_ias (m := y) rfl (⟨by decide, Nat.lt_of_lt_of_le (by decide) hK.1, rfl⟩) (by omega) (rfl) ?_
    refine q_k 1 ?_
    show q_W L d 125 q_m125 Q 54 [some (.ref 192), some (.int (nI k)), some (.int ((nI y) + nI 1))] [] (n, q_up I2 207 y (I1 207 (y + 10)), J, R) 0 0
    rw [show (nI y) + nI 1 = nI (y + 1) from nI_add _ _]
    refine q_k 1 ?_
    show q_W L d 125 q_m125 Q 19 [some (.ref 192), some (.int (nI k)), some (.int (nI (y + 1)))] [] (n, q_up I2 207 y (I1 207 (y + 10)), J, R) 0 0
    refine ih _ ⟨fun j => ?_, by omega, fun x hx => ?_⟩
    · by_cases e : j = y
      · subst e; rw [q_usk, if_pos (by omega)]
      · rw [q_usn e, hI2.1 j]
        by_cases c1 : 38 + 10 * k ≤ j ∧ j < y
        · rw [if_pos c1, if_pos (by omega)]
        · rw [if_neg c1, if_neg (by omega)]
    · rw [q_un hx]; exact hI2.2.2 x hx
  · exact ⟨fun j => by rw [if_neg (by omega)], Nat.le_refl _, fun x hx => by rw [eI1, q_un hx]⟩
set_option maxHeartbeats 1000000 in
theorem m_skip {L d n : Nat} {I : q_I} {J : q_L} {R : q_R} {Q : q_Q} {m c w : Nat} (hK : q_K0 n I R) (hc : I 207 9 = nI c) (hw : I 207 7 = nI w) (hm : m ≤ 2000) (hw2 : w ≤ 2000) (hcm : c + (m - w) ≤ 28) (hQ : ∀ I', I' 207 = s_sk c (m - w) (I 207) → (∀ x, x ≠ 207 → x ≠ 209 → x ≠ 210 → x ≠ 211 → x ≠ 212 → I' x = I x) → Q none (n, I', J, R)) : q_Ex L (d + 5) 124 [.ref 192, .int (nI m)] (n, I, J, R) Q := by
  refine q_in (x := q_m124) rfl rfl ?_
  show q_W L (d + 4) 124 q_m124 Q 0 [some (.ref 192), some (.int (nI m)), none, none] [] (n, I, J, R) 0 0
  refine q_loop (σ := q_I) (m - w) (fun k I2 => I2 207 = s_sk c k (I 207) ∧ ∀ x, x ≠ 207 → x ≠ 209 → x ≠ 210 → x ≠ 211 → x ≠ 212 → I2 x = I x) (fun k I2 => q_W L (d + 4) 124 q_m124 Q 0 [some (.ref 192), some (.int (nI m)), none, none] [] (n, I2, J, R) 0 0) ?_ ?_ 0 I (Nat.zero_le _) ?_
  · intro I2 hI2
    show q_W L (d + 4) 124 q_m124 Q 0 [some (.ref 192), some (.int (nI m)), none, none] [] (n, I2, J, R) 0 0
    refine q_k 1 ?_
    show q_W L (d + 4) 124 q_m124 Q 1 [some (.ref 192), some (.int (nI m)), none, none] [.ref 192] (n, I2, J, R) 0 0
    refine q_gR (b := 207) rfl rfl (⟨Nat.lt_of_lt_of_le (by decide) hK.1, rfl⟩) (hK.2.1 192 14 207 rfl) ?_
    refine q_k 1 ?_
    show q_W L (d + 4) 124 q_m124 Q 6 [some (.ref 192), some (.int (nI m)), none, none] [.int (nI 7), .ref 207] (n, I2, J, R) 0 0
    refine q_ial (m := 7) rfl (⟨by decide, Nat.lt_of_lt_of_le (by decide) hK.1, rfl⟩) (by decide) (rfl) ?_
    refine q_top (w := nI (w + (m - w))) (by rw [hI2.1, s_sk_7 hw]) ?_
    refine q_k 1 ?_
    show q_W L (d + 4) 124 q_m124 Q 8 [some (.ref 192), some (.int (nI m)), none, none] [.int (nI m), .int (nI (w + (m - w)))] (n, I2, J, R) 0 0
    refine q_one rfl rfl ?_
    show ((nI m) ≤ (nI (w + (m - w))) → q_W L (d + 4) 124 q_m124 Q 113 [some (.ref 192), some (.int (nI m)), none, none] [] (n, I2, J, R) 0 0) ∧ (¬ (nI m) ≤ (nI (w + (m - w))) → q_W L (d + 4) 124 q_m124 Q 11 [some (.ref 192), some (.int (nI m)), none, none] [] (n, I2, J, R) 0 0)
    refine ⟨fun _ => ?_, fun z => absurd (nI_le (by omega) (by omega)) z⟩
    refine q_one rfl rfl ?_
    show Q (none) (n, I2, J, R)
    exact hQ I2 hI2.1 hI2.2
  · intro k I2 hk hI2 ih
    show q_W L (d + 4) 124 q_m124 Q 0 [some (.ref 192), some (.int (nI m)), none, none] [] (n, I2, J, R) 0 0
    refine q_k 1 ?_
    show q_W L (d + 4) 124 q_m124 Q 1 [some (.ref 192), some (.int (nI m)), none, none] [.ref 192] (n, I2, J, R) 0 0
    refine q_gR (b := 207) rfl rfl (⟨Nat.lt_of_lt_of_le (by decide) hK.1, rfl⟩) (hK.2.1 192 14 207 rfl) ?_
    refine q_k 1 ?_
    show q_W L (d + 4) 124 q_m124 Q 6 [some (.ref 192), some (.int (nI m)), none, none] [.int (nI 7), .ref 207] (n, I2, J, R) 0 0
    refine q_ial (m := 7) rfl (⟨by decide, Nat.lt_of_lt_of_le (by decide) hK.1, rfl⟩) (by decide) (rfl) ?_
    refine q_top (w := nI (w + k)) (by rw [hI2.1, s_sk_7 hw]) ?_
    refine q_k 1 ?_
    show q_W L (d + 4) 124 q_m124 Q 8 [some (.ref 192), some (.int (nI m)), none, none] [.int (nI m), .int (nI (w + k))] (n, I2, J, R) 0 0
    refine q_one rfl rfl ?_
    show ((nI m) ≤ (nI (w + k)) → q_W L (d + 4) 124 q_m124 Q 113 [some (.ref 192), some (.int (nI m)), none, none] [] (n, I2, J, R) 0 0) ∧ (¬ (nI m) ≤ (nI (w + k)) → q_W L (d + 4) 124 q_m124 Q 11 [some (.ref 192), some (.int (nI m)), none, none] [] (n, I2, J, R) 0 0)
    refine ⟨fun z => absurd z (nI_ge (by omega) (by omega)), fun _ => ?_⟩
    refine q_k 2 ?_
    show q_W L (d + 4) 124 q_m124 Q 14 [some (.ref 192), some (.int (nI m)), none, none] [.int (nI 30), .ref 192] (n, I2, J, R) 0 0
    refine q_cv (as := [.int (nI 30)]) (rs := []) rfl rfl rfl (⟨Nat.lt_of_lt_of_le (by decide) hK.1, rfl⟩) rfl rfl ?_
    refine m_take (q_K0_to hK (hI2.2 0 (by decide) (by decide) (by decide) (by decide) (by decide)) (hI2.2 1 (by decide) (by decide) (by decide) (by decide) (by decide))) (by decide) (fun I3 a3 b3 g3 f3 => ?_)
    show q_W L (d + 4) 124 q_m124 Q 17 [some (.ref 192), some (.int (nI m)), none, none] [] (n, I3, J, R) 0 0
    refine q_k 3 ?_
    show q_W L (d + 4) 124 q_m124 Q 22 [some (.ref 192), some (.int (nI m)), none, none] [.ref 192, .int (nI 10), .int (nI 38)] (n, I3, J, R) 0 0
    refine q_gR (b := 207) rfl rfl (⟨Nat.lt_of_lt_of_le (by decide) hK.1, rfl⟩) (hK.2.1 192 14 207 rfl) ?_
    refine q_k 1 ?_
    show q_W L (d + 4) 124 q_m124 Q 27 [some (.ref 192), some (.int (nI m)), none, none] [.int (nI 9), .ref 207, .int (nI 10), .int (nI 38)] (n, I3, J, R) 0 0
    refine q_ial (m := 9) rfl (⟨by decide, Nat.lt_of_lt_of_le (by decide) hK.1, rfl⟩) (by decide) (rfl) ?_
    refine q_top (w := nI (c + k)) (by rw [g3 9 (by omega), hI2.1, s_sk_9 hc]) ?_
    refine q_k 1 ?_
    show q_W L (d + 4) 124 q_m124 Q 29 [some (.ref 192), some (.int (nI m)), none, none] [.int ((nI 10) * (nI (c + k))), .int (nI 38)] (n, I3, J, R) 0 0
    refine q_top (w := nI (10 * (c + k))) (pk_mul _ _) ?_
    refine q_k 1 ?_
    show q_W L (d + 4) 124 q_m124 Q 30 [some (.ref 192), some (.int (nI m)), none, none] [.int ((nI 38) + (nI (10 * (c + k))))] (n, I3, J, R) 0 0
    refine q_top (w := nI (38 + (10 * (c + k)))) (nI_add _ _) ?_
    refine q_k 2 ?_
    show q_W L (d + 4) 124 q_m124 Q 32 [some (.ref 192), some (.int (nI m)), some (.int (nI (38 + (10 * (c + k))))), none] [.ref 192] (n, I3, J, R) 0 0
    refine q_gR (b := 207) rfl rfl (⟨Nat.lt_of_lt_of_le (by decide) hK.1, rfl⟩) (hK.2.1 192 14 207 rfl) ?_
    refine q_k 2 ?_
    show q_W L (d + 4) 124 q_m124 Q 37 [some (.ref 192), some (.int (nI m)), some (.int (nI (38 + (10 * (c + k))))), none] [.ref 192, .int (nI (38 + (10 * (c + k)))), .ref 207] (n, I3, J, R) 0 0
    refine q_gR (b := 207) rfl rfl (⟨Nat.lt_of_lt_of_le (by decide) hK.1, rfl⟩) (hK.2.1 192 14 207 rfl) ?_
    refine q_k 1 ?_
    show q_W L (d + 4) 124 q_m124 Q 41 [some (.ref 192), some (.int (nI m)), some (.int (nI (38 + (10 * (c + k))))), none] [.int (nI 1), .ref 207, .int (nI (38 + (10 * (c + k)))), .ref 207] (n, I3, J, R) 0 0
    refine q_ial (m := 1) rfl (⟨by decide, Nat.lt_of_lt_of_le (by decide) hK.1, rfl⟩) (by decide) (rfl) ?_
    refine q_top (w := I2 207 1) (g3 1 (by omega)) ?_
    refine q_ias (m := 38 + (10 * (c + k))) rfl (⟨by decide, Nat.lt_of_lt_of_le (by decide) hK.1, rfl⟩) (by omega) (rfl) ?_
    refine q_k 1 ?_
    show q_W L (d + 4) 124 q_m124 Q 44 [some (.ref 192), some (.int (nI m)), some (.int (nI (38 + (10 * (c + k))))), none] [.ref 192] (n, q_up I3 207 (38 + (10 * (c + k))) (I2 207 1), J, R) 0 0
    refine q_gR (b := 207) rfl rfl (⟨Nat.lt_of_lt_of_le (by decide) hK.1, rfl⟩) (hK.2.1 192 14 207 rfl) ?_
    refine q_k 3 ?_
    show q_W L (d + 4) 124 q_m124 Q 50 [some (.ref 192), some (.int (nI m)), some (.int (nI (38 + (10 * (c + k))))), none] [.int ((nI (38 + (10 * (c + k)))) + (nI 1)), .ref 207] (n, q_up I3 207 (38 + (10 * (c + k))) (I2 207 1), J, R) 0 0
    refine q_top (w := nI (38 + (10 * (c + k)) + 1)) (nI_add _ _) ?_
    refine q_k 1 ?_
    show q_W L (d + 4) 124 q_m124 Q 51 [some (.ref 192), some (.int (nI m)), some (.int (nI (38 + (10 * (c + k))))), none] [.ref 192, .int (nI (38 + (10 * (c + k)) + 1)), .ref 207] (n, q_up I3 207 (38 + (10 * (c + k))) (I2 207 1), J, R) 0 0
    refine q_gR (b := 207) rfl rfl (⟨Nat.lt_of_lt_of_le (by decide) hK.1, rfl⟩) (hK.2.1 192 14 207 rfl) ?_
    refine q_k 1 ?_
    show q_W L (d + 4) 124 q_m124 Q 56 [some (.ref 192), some (.int (nI m)), some (.int (nI (38 + (10 * (c + k))))), none] [.int (nI 7), .ref 207, .int (nI (38 + (10 * (c + k)) + 1)), .ref 207] (n, q_up I3 207 (38 + (10 * (c + k))) (I2 207 1), J, R) 0 0
    refine q_ial (m := 7) rfl (⟨by decide, Nat.lt_of_lt_of_le (by decide) hK.1, rfl⟩) (by decide) (rfl) ?_
    refine q_top (w := I2 207 7) (by rw [q_usn (by omega)]; exact g3 7 (by omega)) ?_
    refine q_ias (m := 38 + (10 * (c + k)) + 1) rfl (⟨by decide, Nat.lt_of_lt_of_le (by decide) hK.1, rfl⟩) (by omega) (rfl) ?_
    obtain ⟨I4, eI4⟩ : ∃ zz9, zz9 = q_up (q_up I3 207 (38 + (10 * (c + k))) (I2 207 1)) 207 (38 + (10 * (c + k)) + 1) (I2 207 7) := ⟨_, rfl⟩
    rw [← eI4]
    refine q_k 2 ?_
    show q_W L (d + 4) 124 q_m124 Q 60 [some (.ref 192), some (.int (nI m)), some (.int (nI (38 + (10 * (c + k))))), some (.int (nI 0))] [] (n, I4, J, R) 0 0
    refine q_loop (σ := q_I) 8 (fun i I5 => (∀ j, I5 207 j = if 40 + 10 * (c + k) ≤ j ∧ j < 40 + 10 * (c + k) + i then I3 212 (j - (40 + 10 * (c + k))) else I4 207 j) ∧ ∀ x, x ≠ 207 → I5 x = I4 x) (fun i I5 => q_W L (d + 4) 124 q_m124 Q 60 [some (.ref 192), some (.int (nI m)), some (.int (nI (38 + (10 * (c + k))))), some (.int (nI i))] [] (n, I5, J, R) 0 0) ?_ ?_ 0 I4 (Nat.zero_le _) ?_
    · intro I5 hI5
      show q_W L (d + 4) 124 q_m124 Q 60 [some (.ref 192), some (.int (nI m)), some (.int (nI (38 + (10 * (c + k))))), some (.int (nI 8))] [] (n, I5, J, R) 0 0
      refine q_k 2 ?_
      show q_W L (d + 4) 124 q_m124 Q 63 [some (.ref 192), some (.int (nI m)), some (.int (nI (38 + (10 * (c + k))))), some (.int (nI 8))] [.int (nI 8), .int (nI 8)] (n, I5, J, R) 0 0
      refine q_one rfl rfl ?_
      show ((nI 8) ≤ (nI 8) → q_W L (d + 4) 124 q_m124 Q 88 [some (.ref 192), some (.int (nI m)), some (.int (nI (38 + (10 * (c + k))))), some (.int (nI 8))] [] (n, I5, J, R) 0 0) ∧ (¬ (nI 8) ≤ (nI 8) → q_W L (d + 4) 124 q_m124 Q 66 [some (.ref 192), some (.int (nI m)), some (.int (nI (38 + (10 * (c + k))))), some (.int (nI 8))] [] (n, I5, J, R) 0 0)
      refine ⟨fun _ => ?_, fun z => absurd (nI_le (Nat.le_refl _) (by decide)) z⟩
      refine q_k 1 ?_
      show q_W L (d + 4) 124 q_m124 Q 89 [some (.ref 192), some (.int (nI m)), some (.int (nI (38 + (10 * (c + k))))), some (.int (nI 8))] [.ref 192] (n, I5, J, R) 0 0
      refine q_gR (b := 207) rfl rfl (⟨Nat.lt_of_lt_of_le (by decide) hK.1, rfl⟩) (hK.2.1 192 14 207 rfl) ?_
      refine q_k 2 ?_
      show q_W L (d + 4) 124 q_m124 Q 95 [some (.ref 192), some (.int (nI m)), some (.int (nI (38 + (10 * (c + k))))), some (.int (nI 8))] [.int (nI 9), .ref 207, .int (nI 9), .ref 207] (n, I5, J, R) 0 0
      refine q_ial (m := 9) rfl (⟨by decide, Nat.lt_of_lt_of_le (by decide) hK.1, rfl⟩) (by decide) (rfl) ?_
      refine q_top (w := nI (c + k)) (by rw [hI5.1 9, if_neg (by omega), eI4, q_usn (by omega), q_usn (by omega), g3 9 (by omega), hI2.1, s_sk_9 hc]) ?_
      refine q_k 2 ?_
      show q_W L (d + 4) 124 q_m124 Q 98 [some (.ref 192), some (.int (nI m)), some (.int (nI (38 + (10 * (c + k))))), some (.int (nI 8))] [.int ((nI (c + k)) + (nI 1)), .int (nI 9), .ref 207] (n, I5, J, R) 0 0
      refine q_top (w := nI (c + k + 1)) (nI_add _ _) ?_
      refine q_ias (m := 9) rfl (⟨by decide, Nat.lt_of_lt_of_le (by decide) hK.1, rfl⟩) (by decide) (rfl) ?_
      refine q_k 1 ?_
      show q_W L (d + 4) 124 q_m124 Q 100 [some (.ref 192), some (.int (nI m)), some (.int (nI (38 + (10 * (c + k))))), some (.int (nI 8))] [.ref 192] (n, q_up I5 207 9 (nI (c + k + 1)), J, R) 0 0
      refine q_gR (b := 207) rfl rfl (⟨Nat.lt_of_lt_of_le (by decide) hK.1, rfl⟩) (hK.2.1 192 14 207 rfl) ?_
      refine q_k 2 ?_
      show q_W L (d + 4) 124 q_m124 Q 106 [some (.ref 192), some (.int (nI m)), some (.int (nI (38 + (10 * (c + k))))), some (.int (nI 8))] [.int (nI 7), .ref 207, .int (nI 7), .ref 207] (n, q_up I5 207 9 (nI (c + k + 1)), J, R) 0 0
      refine q_ial (m := 7) rfl (⟨by decide, Nat.lt_of_lt_of_le (by decide) hK.1, rfl⟩) (by decide) (rfl) ?_
      refine q_top (w := I2 207 7) (by rw [q_usn (by decide), hI5.1 7, if_neg (by omega), eI4, q_usn (by omega), q_usn (by omega), g3 7 (by omega)]) ?_
      refine q_k 2 ?_
      show q_W L (d + 4) 124 q_m124 Q 109 [some (.ref 192), some (.int (nI m)), some (.int (nI (38 + (10 * (c + k))))), some (.int (nI 8))] [.int ((I2 207 7) + (nI 1)), .int (nI 7), .ref 207] (n, q_up I5 207 9 (nI (c + k + 1)), J, R) 0 0
      refine q_ias (m := 7) rfl (⟨by decide, Nat.lt_of_lt_of_le (by decide) hK.1, rfl⟩) (by decide) (rfl) ?_
      obtain ⟨I6, eI6⟩ : ∃ zz9, zz9 = q_up (q_up I5 207 9 (nI (c + k + 1))) 207 7 ((I2 207 7) + (nI 1)) := ⟨_, rfl⟩
      rw [← eI6]
      refine q_k 1 ?_
      show q_W L (d + 4) 124 q_m124 Q 0 [some (.ref 192), some (.int (nI m)), some (.int (nI (38 + (10 * (c + k))))), some (.int (nI 8))] [] (n, I6, J, R) 0 0
      refine q_fg 2 ?_
      refine q_fg 3 ?_
      refine ih _ ⟨?_, fun x h7 h9 h10 h11 h12 => ?_⟩
      · show I6 207 = s_sk1 (c + k) (s_sk c k (I 207))
        rw [← hI2.1]
        funext i
        unfold s_sk1
        rw [eI6]
        by_cases e7 : i = 7
        · subst e7; rw [q_usk, if_pos rfl]
        · rw [q_usn e7, if_neg e7]
          by_cases e9 : i = 9
          · subst e9; rw [q_usk, if_pos rfl]
          · rw [q_usn e9, if_neg e9, hI5.1 i]
            by_cases c1 : 40 + 10 * (c + k) ≤ i ∧ i < 40 + 10 * (c + k) + 8
            · rw [if_pos c1, a3 _ (by omega), if_neg (by omega), if_neg (by omega), if_pos (by omega)]
            · rw [if_neg c1, eI4]
              by_cases e1 : i = 38 + 10 * (c + k) + 1
              · subst e1; rw [q_usk, if_neg (by omega), if_pos (by omega)]
              · rw [q_usn e1]
                by_cases e0 : i = 38 + 10 * (c + k)
                · subst e0; rw [q_usk, if_pos rfl]
                · rw [q_usn e0, if_neg e0, if_neg (by omega), if_neg (by omega)]
                  by_cases c3 : 30 ≤ i ∧ i < 38
                  · rw [if_pos c3]
                    have h30 := b3 (i - 30) (by omega)
                    rw [show 30 + (i - 30) = i by omega] at h30
                    exact h30
                  · rw [if_neg c3]; exact g3 i (by omega)
      · rw [eI6, q_un h7, q_un h7, hI5.2 x h7, eI4, q_un h7, q_un h7, f3 x h7 h9 h10 h11 h12]; exact hI2.2 x h7 h9 h10 h11 h12
    · intro i I5 hk5 hI5 ih5
      show q_W L (d + 4) 124 q_m124 Q 60 [some (.ref 192), some (.int (nI m)), some (.int (nI (38 + (10 * (c + k))))), some (.int (nI i))] [] (n, I5, J, R) 0 0
      refine q_k 2 ?_
      show q_W L (d + 4) 124 q_m124 Q 63 [some (.ref 192), some (.int (nI m)), some (.int (nI (38 + (10 * (c + k))))), some (.int (nI i))] [.int (nI 8), .int (nI i)] (n, I5, J, R) 0 0
      refine q_one rfl rfl ?_
      show ((nI 8) ≤ (nI i) → q_W L (d + 4) 124 q_m124 Q 88 [some (.ref 192), some (.int (nI m)), some (.int (nI (38 + (10 * (c + k))))), some (.int (nI i))] [] (n, I5, J, R) 0 0) ∧ (¬ (nI 8) ≤ (nI i) → q_W L (d + 4) 124 q_m124 Q 66 [some (.ref 192), some (.int (nI m)), some (.int (nI (38 + (10 * (c + k))))), some (.int (nI i))] [] (n, I5, J, R) 0 0)
      refine ⟨fun z => absurd z (nI_ge hk5 (by decide)), fun _ => ?_⟩
      refine q_k 1 ?_
      show q_W L (d + 4) 124 q_m124 Q 67 [some (.ref 192), some (.int (nI m)), some (.int (nI (38 + (10 * (c + k))))), some (.int (nI i))] [.ref 192] (n, I5, J, R) 0 0
      refine q_gR (b := 207) rfl rfl (⟨Nat.lt_of_lt_of_le (by decide) hK.1, rfl⟩) (hK.2.1 192 14 207 rfl) ?_
      refine q_k 3 ?_
      show q_W L (d + 4) 124 q_m124 Q 73 [some (.ref 192), some (.int (nI m)), some (.int (nI (38 + (10 * (c + k))))), some (.int (nI i))] [.int ((nI (38 + (10 * (c + k)))) + (nI 2)), .ref 207] (n, I5, J, R) 0 0
      refine q_top (w := nI (38 + (10 * (c + k)) + 2)) (nI_add _ _) ?_
      refine q_k 2 ?_
      show q_W L (d + 4) 124 q_m124 Q 75 [some (.ref 192), some (.int (nI m)), some (.int (nI (38 + (10 * (c + k))))), some (.int (nI i))] [.int ((nI (38 + (10 * (c + k)) + 2)) + (nI i)), .ref 207] (n, I5, J, R) 0 0
      refine q_top (w := nI (38 + (10 * (c + k)) + 2 + i)) (nI_add _ _) ?_
      refine q_k 1 ?_
      show q_W L (d + 4) 124 q_m124 Q 76 [some (.ref 192), some (.int (nI m)), some (.int (nI (38 + (10 * (c + k))))), some (.int (nI i))] [.ref 192, .int (nI (38 + (10 * (c + k)) + 2 + i)), .ref 207] (n, I5, J, R) 0 0
      refine q_gR (b := 212) rfl rfl (⟨Nat.lt_of_lt_of_le (by decide) hK.1, rfl⟩) (hK.2.1 192 21 212 rfl) ?_
      refine q_k 1 ?_
      show q_W L (d + 4) 124 q_m124 Q 80 [some (.ref 192), some (.int (nI m)), some (.int (nI (38 + (10 * (c + k))))), some (.int (nI i))] [.int (nI i), .ref 212, .int (nI (38 + (10 * (c + k)) + 2 + i)), .ref 207] (n, I5, J, R) 0 0
      refine q_ial (m := i) rfl (⟨by decide, Nat.lt_of_lt_of_le (by decide) hK.1, rfl⟩) (by omega) (rfl) ?_
      refine q_top (w := I3 212 i) (by rw [hI5.2 212 (by decide), eI4, q_un (by decide), q_un (by decide)]) ?_
      refine q_ias (m := 38 + (10 * (c + k)) + 2 + i) rfl (⟨by decide, Nat.lt_of_lt_of_le (by decide) hK.1, rfl⟩) (by omega) (rfl) ?_
      refine q_k 1 ?_
      show q_W L (d + 4) 124 q_m124 Q 85 [some (.ref 192), some (.int (nI m)), some (.int (nI (38 + (10 * (c + k))))), some (.int ((nI i) + nI 1))] [] (n, q_up I5 207 (38 + (10 * (c + k)) + 2 + i) (I3 212 i), J, R) 0 0
      rw [show (nI i) + nI 1 = nI (i + 1) from nI_add _ _]
      refine q_k 1 ?_
      show q_W L (d + 4) 124 q_m124 Q 60 [some (.ref 192), some (.int (nI m)), some (.int (nI (38 + (10 * (c + k))))), some (.int (nI (i + 1)))] [] (n, q_up I5 207 (38 + (10 * (c + k)) + 2 + i) (I3 212 i), J, R) 0 0
      refine ih5 _ ⟨fun j => ?_, fun x hx => ?_⟩
      · by_cases e : j = 38 + 10 * (c + k) + 2 + i
        · subst e; rw [q_usk, if_pos (by omega)]; exact congrArg _ (by omega)
        · rw [q_usn e, hI5.1 j]
          by_cases c1 : 40 + 10 * (c + k) ≤ j ∧ j < 40 + 10 * (c + k) + i
          · rw [if_pos c1, if_pos (by omega)]
          · rw [if_neg c1, if_neg (by omega)]
      · rw [q_un hx]; exact hI5.2 x hx
    · exact ⟨fun j => by rw [if_neg (by omega)], fun _ _ => rfl⟩
  · exact ⟨rfl, fun _ _ _ _ _ _ => rfl⟩
set_option maxHeartbeats 1000000 in
theorem m_turned {L d n : Nat} {I : q_I} {J : q_L} {R : q_R} {Q : q_Q} {x : Int32} {b : Nat} (hK : q_K0 n I R) (hb : b < 4) (hQ : ∀ I', I' 207 = s_turn x (g_nx I b) (I 207) → I' 196 = va_up (I 196) b (I 196 b + nI 1) → (∀ x, x ≠ 192 → x ≠ 196 → x ≠ 207 → x ≠ 209 → x ≠ 210 → x ≠ 211 → x ≠ 212 → I' x = I x) → (∀ k, k ≠ 23 → k ≠ 24 → I' 192 k = I 192 k) → Q none (n, I', J, R)) : q_Ex L (d + 5) 123 [.ref 192, .int x, .int (nI b)] (n, I, J, R) Q := by
  refine q_in (x := q_m123) rfl rfl ?_
  show q_W L (d + 4) 123 q_m123 Q 0 [some (.ref 192), some (.int x), some (.int (nI b))] [] (n, I, J, R) 0 0
  refine q_k 1 ?_
  show q_W L (d + 4) 123 q_m123 Q 1 [some (.ref 192), some (.int x), some (.int (nI b))] [.ref 192] (n, I, J, R) 0 0
  refine q_gR (b := 207) rfl rfl (⟨Nat.lt_of_lt_of_le (by decide) hK.1, rfl⟩) (hK.2.1 192 14 207 rfl) ?_
  refine q_k 2 ?_
  show q_W L (d + 4) 123 q_m123 Q 7 [some (.ref 192), some (.int x), some (.int (nI b))] [.ref 192, .int (nI 8), .ref 207] (n, I, J, R) 0 0
  refine q_gR (b := 207) rfl rfl (⟨Nat.lt_of_lt_of_le (by decide) hK.1, rfl⟩) (hK.2.1 192 14 207 rfl) ?_
  refine q_k 1 ?_
  show q_W L (d + 4) 123 q_m123 Q 12 [some (.ref 192), some (.int x), some (.int (nI b))] [.int (nI 6), .ref 207, .int (nI 8), .ref 207] (n, I, J, R) 0 0
  refine q_ial (m := 6) rfl (⟨by decide, Nat.lt_of_lt_of_le (by decide) hK.1, rfl⟩) (by decide) (rfl) ?_
  refine q_ias (m := 8) rfl (⟨by decide, Nat.lt_of_lt_of_le (by decide) hK.1, rfl⟩) (by decide) (rfl) ?_
  refine q_k 1 ?_
  show q_W L (d + 4) 123 q_m123 Q 15 [some (.ref 192), some (.int x), some (.int (nI b))] [.ref 192] (n, q_up I 207 8 (I 207 6), J, R) 0 0
  refine q_gR (b := 207) rfl rfl (⟨Nat.lt_of_lt_of_le (by decide) hK.1, rfl⟩) (hK.2.1 192 14 207 rfl) ?_
  refine q_k 2 ?_
  show q_W L (d + 4) 123 q_m123 Q 21 [some (.ref 192), some (.int x), some (.int (nI b))] [.int (nI 0), .int (nI 6), .ref 207] (n, q_up I 207 8 (I 207 6), J, R) 0 0
  refine q_ias (m := 6) rfl (⟨by decide, Nat.lt_of_lt_of_le (by decide) hK.1, rfl⟩) (by decide) (rfl) ?_
  refine q_k 1 ?_
  show q_W L (d + 4) 123 q_m123 Q 23 [some (.ref 192), some (.int x), some (.int (nI b))] [.ref 192] (n, q_up (q_up I 207 8 (I 207 6)) 207 6 (nI 0), J, R) 0 0
  refine q_gR (b := 207) rfl rfl (⟨Nat.lt_of_lt_of_le (by decide) hK.1, rfl⟩) (hK.2.1 192 14 207 rfl) ?_
  refine q_k 2 ?_
  show q_W L (d + 4) 123 q_m123 Q 29 [some (.ref 192), some (.int x), some (.int (nI b))] [.int (nI 0), .int (nI 7), .ref 207] (n, q_up (q_up I 207 8 (I 207 6)) 207 6 (nI 0), J, R) 0 0
  refine q_ias (m := 7) rfl (⟨by decide, Nat.lt_of_lt_of_le (by decide) hK.1, rfl⟩) (by decide) (rfl) ?_
  refine q_k 1 ?_
  show q_W L (d + 4) 123 q_m123 Q 31 [some (.ref 192), some (.int x), some (.int (nI b))] [.ref 192] (n, q_up (q_up (q_up I 207 8 (I 207 6)) 207 6 (nI 0)) 207 7 (nI 0), J, R) 0 0
  refine q_gR (b := 207) rfl rfl (⟨Nat.lt_of_lt_of_le (by decide) hK.1, rfl⟩) (hK.2.1 192 14 207 rfl) ?_
  refine q_k 2 ?_
  show q_W L (d + 4) 123 q_m123 Q 36 [some (.ref 192), some (.int x), some (.int (nI b))] [.int x, .int (nI 1), .ref 207] (n, q_up (q_up (q_up I 207 8 (I 207 6)) 207 6 (nI 0)) 207 7 (nI 0), J, R) 0 0
  refine q_ias (m := 1) rfl (⟨by decide, Nat.lt_of_lt_of_le (by decide) hK.1, rfl⟩) (by decide) (rfl) ?_
  obtain ⟨I1, eI1⟩ : ∃ zz9, zz9 = q_up (q_up (q_up (q_up I 207 8 (I 207 6)) 207 6 (nI 0)) 207 7 (nI 0)) 207 1 x := ⟨_, rfl⟩
  rw [← eI1]
  refine q_k 3 ?_
  show q_W L (d + 4) 123 q_m123 Q 40 [some (.ref 192), some (.int x), some (.int (nI b))] [.ref 192, .int x, .ref 192] (n, I1, J, R) 0 0
  refine q_gR (b := 207) rfl rfl (⟨Nat.lt_of_lt_of_le (by decide) hK.1, rfl⟩) (hK.2.1 192 14 207 rfl) ?_
  refine q_k 1 ?_
  show q_W L (d + 4) 123 q_m123 Q 44 [some (.ref 192), some (.int x), some (.int (nI b))] [.int (nI 2), .ref 207, .int x, .ref 192] (n, I1, J, R) 0 0
  refine q_ial (m := 2) rfl (⟨by decide, Nat.lt_of_lt_of_le (by decide) hK.1, rfl⟩) (by decide) (rfl) ?_
  refine q_top (w := I 207 2) (by rw [eI1, q_usn (by decide), q_usn (by decide), q_usn (by decide), q_usn (by decide)]) ?_
  refine q_cs (as := [.int x, .int (I 207 2)]) (rs := [.ref 192]) rfl rfl rfl rfl rfl ?_
  refine m_raised  ?_
  show q_W L (d + 4) 123 q_m123 Q 48 [some (.ref 192), some (.int x), some (.int (nI b))] [.int (g_pow x (I 207 2)), .ref 192] (n, I1, J, R) 0 0
  refine q_k 1 ?_
  show q_W L (d + 4) 123 q_m123 Q 50 [some (.ref 192), some (.int x), some (.int (nI b))] [.int (nI 30), .int (g_pow x (I 207 2)), .ref 192] (n, I1, J, R) 0 0
  refine q_cv (as := [.int (g_pow x (I 207 2)), .int (nI 30)]) (rs := []) rfl rfl rfl (⟨Nat.lt_of_lt_of_le (by decide) hK.1, rfl⟩) rfl rfl ?_
  refine m_step (q_K0_to hK (by rw [eI1, q_un (by decide), q_un (by decide), q_un (by decide), q_un (by decide)]) (by rw [eI1, q_un (by decide), q_un (by decide), q_un (by decide), q_un (by decide)])) (by decide) (by decide) (fun I2 a2 b2 g2 f2 => ?_)
  show q_W L (d + 4) 123 q_m123 Q 53 [some (.ref 192), some (.int x), some (.int (nI b))] [] (n, I2, J, R) 0 0
  refine q_k 1 ?_
  show q_W L (d + 4) 123 q_m123 Q 54 [some (.ref 192), some (.int x), some (.int (nI b))] [.ref 192] (n, I2, J, R) 0 0
  refine q_gR (b := 207) rfl rfl (⟨Nat.lt_of_lt_of_le (by decide) hK.1, rfl⟩) (hK.2.1 192 14 207 rfl) ?_
  refine q_k 2 ?_
  show q_W L (d + 4) 123 q_m123 Q 59 [some (.ref 192), some (.int x), some (.int (nI b))] [.int (nI 1), .int (nI 5), .ref 207] (n, I2, J, R) 0 0
  refine q_ias (m := 5) rfl (⟨by decide, Nat.lt_of_lt_of_le (by decide) hK.1, rfl⟩) (by decide) (rfl) ?_
  obtain ⟨I3, eI3⟩ : ∃ zz9, zz9 = q_up I2 207 5 (nI 1) := ⟨_, rfl⟩
  rw [← eI3]
  refine q_k 2 ?_
  show q_W L (d + 4) 123 q_m123 Q 62 [some (.ref 192), some (.int x), some (.int (nI b))] [.int (nI b), .ref 192] (n, I3, J, R) 0 0
  refine q_cv (as := [.int (nI b)]) (rs := []) rfl rfl rfl (⟨Nat.lt_of_lt_of_le (by decide) hK.1, rfl⟩) rfl rfl ?_
  refine m_draw (q_K0_to hK (by rw [eI3, q_un (by decide), f2 0 (by decide) (by decide) (by decide) (by decide), eI1, q_un (by decide), q_un (by decide), q_un (by decide), q_un (by decide)]) (by rw [eI3, q_un (by decide), f2 1 (by decide) (by decide) (by decide) (by decide), eI1, q_un (by decide), q_un (by decide), q_un (by decide), q_un (by decide)])) (hb) (fun I4 a4 b4 c4 f4 e4 => ?_)
  have hq : g_priv (I3 194 b) (I3 195 b) b (I3 196 b + nI 1) = g_nx I b := by
    have e194 : I3 194 = I 194 := by rw [eI3, q_un (by decide), f2 194 (by decide) (by decide) (by decide) (by decide), eI1, q_un (by decide), q_un (by decide), q_un (by decide), q_un (by decide)]
    have e195 : I3 195 = I 195 := by rw [eI3, q_un (by decide), f2 195 (by decide) (by decide) (by decide) (by decide), eI1, q_un (by decide), q_un (by decide), q_un (by decide), q_un (by decide)]
    have e196 : I3 196 = I 196 := by rw [eI3, q_un (by decide), f2 196 (by decide) (by decide) (by decide) (by decide), eI1, q_un (by decide), q_un (by decide), q_un (by decide), q_un (by decide)]
    rw [e194, e195, e196]
    rfl
  rw [hq] at a4 b4
  show q_W L (d + 4) 123 q_m123 Q 65 [some (.ref 192), some (.int x), some (.int (nI b))] [] (n, I4, J, R) 0 0
  refine q_k 1 ?_
  show q_W L (d + 4) 123 q_m123 Q 66 [some (.ref 192), some (.int x), some (.int (nI b))] [.ref 192] (n, I4, J, R) 0 0
  refine q_gR (b := 207) rfl rfl (⟨Nat.lt_of_lt_of_le (by decide) hK.1, rfl⟩) (hK.2.1 192 14 207 rfl) ?_
  refine q_k 2 ?_
  show q_W L (d + 4) 123 q_m123 Q 71 [some (.ref 192), some (.int x), some (.int (nI b))] [.ref 192, .int (nI 2), .ref 207] (n, I4, J, R) 0 0
  refine q_gI rfl rfl (⟨Nat.lt_of_lt_of_le (by decide) hK.1, rfl⟩) ?_
  refine q_top (w := g_nx I b) (a4) ?_
  refine q_ias (m := 2) rfl (⟨by decide, Nat.lt_of_lt_of_le (by decide) hK.1, rfl⟩) (by decide) (rfl) ?_
  refine q_k 1 ?_
  show q_W L (d + 4) 123 q_m123 Q 76 [some (.ref 192), some (.int x), some (.int (nI b))] [.ref 192] (n, q_up I4 207 2 (g_nx I b), J, R) 0 0
  refine q_gR (b := 207) rfl rfl (⟨Nat.lt_of_lt_of_le (by decide) hK.1, rfl⟩) (hK.2.1 192 14 207 rfl) ?_
  refine q_k 2 ?_
  show q_W L (d + 4) 123 q_m123 Q 81 [some (.ref 192), some (.int x), some (.int (nI b))] [.ref 192, .int (nI 3), .ref 207] (n, q_up I4 207 2 (g_nx I b), J, R) 0 0
  refine q_gI rfl rfl (⟨Nat.lt_of_lt_of_le (by decide) hK.1, rfl⟩) ?_
  refine q_top (w := g_pub (g_nx I b)) (by rw [q_un (by decide)]; exact b4) ?_
  refine q_ias (m := 3) rfl (⟨by decide, Nat.lt_of_lt_of_le (by decide) hK.1, rfl⟩) (by decide) (rfl) ?_
  obtain ⟨I5, eI5⟩ : ∃ zz9, zz9 = q_up (q_up I4 207 2 (g_nx I b)) 207 3 (g_pub (g_nx I b)) := ⟨_, rfl⟩
  rw [← eI5]
  refine q_k 3 ?_
  show q_W L (d + 4) 123 q_m123 Q 88 [some (.ref 192), some (.int x), some (.int (nI b))] [.ref 192, .int x, .ref 192] (n, I5, J, R) 0 0
  refine q_gI rfl rfl (⟨Nat.lt_of_lt_of_le (by decide) hK.1, rfl⟩) ?_
  refine q_top (w := g_nx I b) (by rw [eI5, q_un (by decide), q_un (by decide)]; exact a4) ?_
  refine q_cs (as := [.int x, .int (g_nx I b)]) (rs := [.ref 192]) rfl rfl rfl rfl rfl ?_
  refine m_raised  ?_
  show q_W L (d + 4) 123 q_m123 Q 94 [some (.ref 192), some (.int x), some (.int (nI b))] [.int (g_pow x (g_nx I b)), .ref 192] (n, I5, J, R) 0 0
  refine q_k 1 ?_
  show q_W L (d + 4) 123 q_m123 Q 96 [some (.ref 192), some (.int x), some (.int (nI b))] [.int (nI 22), .int (g_pow x (g_nx I b)), .ref 192] (n, I5, J, R) 0 0
  refine q_cv (as := [.int (g_pow x (g_nx I b)), .int (nI 22)]) (rs := []) rfl rfl rfl (⟨Nat.lt_of_lt_of_le (by decide) hK.1, rfl⟩) rfl rfl ?_
  refine m_step (q_K0_to hK (by rw [eI5, q_un (by decide), q_un (by decide), f4 0 (by decide) (by decide) (by decide) (by decide) (by decide) (by decide), eI3, q_un (by decide), f2 0 (by decide) (by decide) (by decide) (by decide), eI1, q_un (by decide), q_un (by decide), q_un (by decide), q_un (by decide)]) (by rw [eI5, q_un (by decide), q_un (by decide), f4 1 (by decide) (by decide) (by decide) (by decide) (by decide) (by decide), eI3, q_un (by decide), f2 1 (by decide) (by decide) (by decide) (by decide), eI1, q_un (by decide), q_un (by decide), q_un (by decide), q_un (by decide)])) (by decide) (by decide) (fun I6 a6 b6 g6 f6 => ?_)
  show q_W L (d + 4) 123 q_m123 Q 99 [some (.ref 192), some (.int x), some (.int (nI b))] [] (n, I6, J, R) 0 0
  refine q_k 1 ?_
  show q_W L (d + 4) 123 q_m123 Q 100 [some (.ref 192), some (.int x), some (.int (nI b))] [.ref 192] (n, I6, J, R) 0 0
  refine q_gR (b := 207) rfl rfl (⟨Nat.lt_of_lt_of_le (by decide) hK.1, rfl⟩) (hK.2.1 192 14 207 rfl) ?_
  refine q_k 2 ?_
  show q_W L (d + 4) 123 q_m123 Q 105 [some (.ref 192), some (.int x), some (.int (nI b))] [.int (nI 1), .int (nI 4), .ref 207] (n, I6, J, R) 0 0
  refine q_ias (m := 4) rfl (⟨by decide, Nat.lt_of_lt_of_le (by decide) hK.1, rfl⟩) (by decide) (rfl) ?_
  obtain ⟨I7, eI7⟩ : ∃ zz9, zz9 = q_up I6 207 4 (nI 1) := ⟨_, rfl⟩
  rw [← eI7]
  refine q_one rfl rfl ?_
  show Q (none) (n, I7, J, R)
  have h1 : ∀ j, j < 8 → I1 207 (14 + j) = s_rt (I 207) j := fun j hj => by rw [eI1, q_usn (by omega), q_usn (by omega), q_usn (by omega), q_usn (by omega)]; rfl
  have h5 : ∀ j, j < 8 → I5 207 (14 + j) = g_mix (s_rt (I 207)) (g_pow x (I 207 2)) (nI 5) (nI 0) (nI 0) j := fun j hj => by
    rw [eI5, q_usn (by omega), q_usn (by omega), f4 207 (by decide) (by decide) (by decide) (by decide) (by decide) (by decide), eI3, q_usn (by omega), b2 j hj]
    exact g_mix_c h1 _ _ _ _ (by omega)
  refine hQ I7 (funext fun (i : Nat) => ?_) ?_ (fun y h2 h6 h7 h9 h10 h11 h12 => ?_) (fun k h23 h24 => ?_)
  · unfold s_turn
    rw [eI7]
    by_cases e4 : i = 4
    · subst e4; rw [q_usk, if_neg (by decide), if_neg (by decide), if_neg (by decide), if_pos rfl]
    · rw [q_usn e4]
      by_cases c1 : 14 ≤ i ∧ i < 22
      · obtain ⟨j, rfl⟩ : ∃ j, i = 14 + j := ⟨i - 14, by omega⟩
        rw [b6 j (by omega), g_mix_c h5 _ _ _ _ (by omega), if_neg (by omega), if_neg (by omega), if_neg (by omega), if_neg (by omega), if_neg (by omega), if_neg (by omega), if_neg (by omega), if_neg (by omega), if_pos (by omega)]
        congr 1
        omega
      · by_cases c2 : 22 ≤ i ∧ i < 30
        · obtain ⟨j, rfl⟩ : ∃ j, i = 22 + j := ⟨i - 22, by omega⟩
          rw [a6 j (by omega), g_mix_c h5 _ _ _ _ (by omega)]
          rw [if_neg (by omega), if_neg (by omega), if_neg (by omega), if_neg (by omega), if_neg (by omega), if_neg (by omega), if_neg (by omega), if_neg (by omega), if_neg (by omega), if_pos (by omega)]
          congr 1
          omega
        · rw [g6 i (by omega) (by omega), eI5]
          by_cases e3 : i = 3
          · subst e3; rw [q_usk, if_neg (by decide), if_neg (by decide), if_pos rfl]
          · rw [q_usn e3]
            by_cases e2 : i = 2
            · subst e2; rw [q_usk, if_neg (by decide), if_pos rfl]
            · rw [q_usn e2, f4 207 (by decide) (by decide) (by decide) (by decide) (by decide) (by decide), eI3]
              by_cases e5 : i = 5
              · subst e5; rw [q_usk, if_neg (by decide), if_neg (by decide), if_neg (by decide), if_neg (by decide), if_pos rfl]
              · rw [q_usn e5]
                by_cases c3 : 30 ≤ i ∧ i < 38
                · obtain ⟨j, rfl⟩ : ∃ j, i = 30 + j := ⟨i - 30, by omega⟩
                  rw [a2 j (by omega), g_mix_c h1 _ _ _ _ (by omega)]
                  rw [if_neg (by omega), if_neg (by omega), if_neg (by omega), if_neg (by omega), if_neg (by omega), if_neg (by omega), if_neg (by omega), if_neg (by omega), if_neg (by omega), if_neg (by omega), if_pos (by omega)]
                  congr 1
                  omega
                · rw [g2 i (by omega) (by omega), eI1]
                  by_cases e1 : i = 1
                  · subst e1; rw [q_usk, if_pos rfl]
                  · rw [q_usn e1]
                    by_cases e7 : i = 7
                    · subst e7; rw [q_usk, if_neg (by decide), if_neg (by decide), if_neg (by decide), if_neg (by decide), if_neg (by decide), if_neg (by decide), if_pos rfl]
                    · rw [q_usn e7]
                      by_cases e6 : i = 6
                      · subst e6; rw [q_usk, if_neg (by decide), if_neg (by decide), if_neg (by decide), if_neg (by decide), if_neg (by decide), if_pos rfl]
                      · rw [q_usn e6]
                        by_cases e8 : i = 8
                        · subst e8; rw [q_usk, if_neg (by decide), if_neg (by decide), if_neg (by decide), if_neg (by decide), if_neg (by decide), if_neg (by decide), if_neg (by decide), if_pos rfl]
                        · rw [q_usn e8, if_neg e1, if_neg e2, if_neg e3, if_neg e4, if_neg e5, if_neg e6, if_neg e7, if_neg e8, if_neg c1, if_neg c2, if_neg c3]
  · rw [eI7, q_un (by decide), f6 196 (by decide) (by decide) (by decide) (by decide), eI5, q_un (by decide), q_un (by decide), c4, eI3, q_un (by decide), f2 196 (by decide) (by decide) (by decide) (by decide), eI1, q_un (by decide), q_un (by decide), q_un (by decide), q_un (by decide)]
  · rw [eI7, q_un h7, f6 y h7 h9 h10 h11, eI5, q_un h7, q_un h7, f4 y h2 h6 h9 h10 h11 h12, eI3, q_un h7, f2 y h7 h9 h10 h11, eI1, q_un h7, q_un h7, q_un h7, q_un h7]
  · rw [eI7, q_un (by decide), f6 192 (by decide) (by decide) (by decide) (by decide), eI5, q_un (by decide), q_un (by decide), e4 k h23 h24, eI3, q_un (by decide), f2 192 (by decide) (by decide) (by decide) (by decide), eI1, q_un (by decide), q_un (by decide), q_un (by decide), q_un (by decide)]
theorem m_fits {L d n : Nat} {I : q_I} {J : q_L} {R : q_R} {Q : q_Q} {e a b : Nat} (hK : q_K0 n I R) (he : e + 12 ≤ 720) (hfa : J 208 e = lN a) (hfb : J 208 (e + 1) = lN b) (ha : a < 4) (hb : b < 4) (hQ : ∀ I', (∀ x, x ≠ 209 → x ≠ 210 → x ≠ 211 → x ≠ 213 → I' x = I x) → Q (some (.int (if g_tg (J 208) e (I 197 (2 * a + 1)) (I 197 (2 * b + 1)) (I 212) = J 208 (e + 11) then nI 1 else nI 0))) (n, I', J, R)) : q_Ex L (d + 5) 121 [.ref 192, .int (nI e)] (n, I, J, R) Q := by
  refine q_in (x := q_m121) rfl rfl ?_
  show q_W L (d + 4) 121 q_m121 Q 0 [some (.ref 192), some (.int (nI e)), none, none] [] (n, I, J, R) 0 0
  refine q_k 1 ?_
  show q_W L (d + 4) 121 q_m121 Q 1 [some (.ref 192), some (.int (nI e)), none, none] [.ref 192] (n, I, J, R) 0 0
  refine q_gR (b := 208) rfl rfl (⟨Nat.lt_of_lt_of_le (by decide) hK.1, rfl⟩) (hK.2.1 192 15 208 rfl) ?_
  refine q_k 1 ?_
  show q_W L (d + 4) 121 q_m121 Q 5 [some (.ref 192), some (.int (nI e)), none, none] [.int (nI e), .ref 208] (n, I, J, R) 0 0
  refine q_lal (m := e) rfl (⟨by decide, Nat.lt_of_lt_of_le (by decide) hK.1, rfl⟩) (by omega) (rfl) ?_
  refine q_k 1 ?_
  show q_W L (d + 4) 121 q_m121 Q 7 [some (.ref 192), some (.int (nI e)), none, none] [.int ((J 208 e).toInt32)] (n, I, J, R) 0 0
  refine q_top (w := nI a) (by rw [hfa]; exact lN_i _) ?_
  refine q_k 2 ?_
  show q_W L (d + 4) 121 q_m121 Q 9 [some (.ref 192), some (.int (nI e)), some (.int (nI a)), none] [.ref 192] (n, I, J, R) 0 0
  refine q_gR (b := 208) rfl rfl (⟨Nat.lt_of_lt_of_le (by decide) hK.1, rfl⟩) (hK.2.1 192 15 208 rfl) ?_
  refine q_k 3 ?_
  show q_W L (d + 4) 121 q_m121 Q 15 [some (.ref 192), some (.int (nI e)), some (.int (nI a)), none] [.int ((nI e) + (nI 1)), .ref 208] (n, I, J, R) 0 0
  refine q_top (w := nI (e + 1)) (nI_add _ _) ?_
  refine q_lal (m := e + 1) rfl (⟨by decide, Nat.lt_of_lt_of_le (by decide) hK.1, rfl⟩) (by omega) (rfl) ?_
  refine q_k 1 ?_
  show q_W L (d + 4) 121 q_m121 Q 17 [some (.ref 192), some (.int (nI e)), some (.int (nI a)), none] [.int ((J 208 (e + 1)).toInt32)] (n, I, J, R) 0 0
  refine q_top (w := nI b) (by rw [hfb]; exact lN_i _) ?_
  refine q_k 3 ?_
  show q_W L (d + 4) 121 q_m121 Q 20 [some (.ref 192), some (.int (nI e)), some (.int (nI a)), some (.int (nI b))] [.ref 192, .ref 192] (n, I, J, R) 0 0
  refine q_gR (b := 208) rfl rfl (⟨Nat.lt_of_lt_of_le (by decide) hK.1, rfl⟩) (hK.2.1 192 15 208 rfl) ?_
  refine q_k 3 ?_
  show q_W L (d + 4) 121 q_m121 Q 27 [some (.ref 192), some (.int (nI e)), some (.int (nI a)), some (.int (nI b))] [.int ((nI e) + (nI 7)), .ref 208, .ref 192] (n, I, J, R) 0 0
  refine q_top (w := nI (e + 7)) (nI_add _ _) ?_
  refine q_lal (m := e + 7) rfl (⟨by decide, Nat.lt_of_lt_of_le (by decide) hK.1, rfl⟩) (by omega) (rfl) ?_
  refine q_k 2 ?_
  show q_W L (d + 4) 121 q_m121 Q 30 [some (.ref 192), some (.int (nI e)), some (.int (nI a)), some (.int (nI b))] [.ref 192, .int ((J 208 (e + 7)).toInt32), .ref 192] (n, I, J, R) 0 0
  refine q_gR (b := 208) rfl rfl (⟨Nat.lt_of_lt_of_le (by decide) hK.1, rfl⟩) (hK.2.1 192 15 208 rfl) ?_
  refine q_k 3 ?_
  show q_W L (d + 4) 121 q_m121 Q 37 [some (.ref 192), some (.int (nI e)), some (.int (nI a)), some (.int (nI b))] [.int ((nI e) + (nI 8)), .ref 208, .int ((J 208 (e + 7)).toInt32), .ref 192] (n, I, J, R) 0 0
  refine q_top (w := nI (e + 8)) (nI_add _ _) ?_
  refine q_lal (m := e + 8) rfl (⟨by decide, Nat.lt_of_lt_of_le (by decide) hK.1, rfl⟩) (by omega) (rfl) ?_
  refine q_k 2 ?_
  show q_W L (d + 4) 121 q_m121 Q 40 [some (.ref 192), some (.int (nI e)), some (.int (nI a)), some (.int (nI b))] [.ref 192, .int ((J 208 (e + 8)).toInt32), .int ((J 208 (e + 7)).toInt32), .ref 192] (n, I, J, R) 0 0
  refine q_gR (b := 208) rfl rfl (⟨Nat.lt_of_lt_of_le (by decide) hK.1, rfl⟩) (hK.2.1 192 15 208 rfl) ?_
  refine q_k 3 ?_
  show q_W L (d + 4) 121 q_m121 Q 47 [some (.ref 192), some (.int (nI e)), some (.int (nI a)), some (.int (nI b))] [.int ((nI e) + (nI 9)), .ref 208, .int ((J 208 (e + 8)).toInt32), .int ((J 208 (e + 7)).toInt32), .ref 192] (n, I, J, R) 0 0
  refine q_top (w := nI (e + 9)) (nI_add _ _) ?_
  refine q_lal (m := e + 9) rfl (⟨by decide, Nat.lt_of_lt_of_le (by decide) hK.1, rfl⟩) (by omega) (rfl) ?_
  refine q_k 2 ?_
  show q_W L (d + 4) 121 q_m121 Q 50 [some (.ref 192), some (.int (nI e)), some (.int (nI a)), some (.int (nI b))] [.ref 192, .int ((J 208 (e + 9)).toInt32), .int ((J 208 (e + 8)).toInt32), .int ((J 208 (e + 7)).toInt32), .ref 192] (n, I, J, R) 0 0
  refine q_gR (b := 208) rfl rfl (⟨Nat.lt_of_lt_of_le (by decide) hK.1, rfl⟩) (hK.2.1 192 15 208 rfl) ?_
  refine q_k 3 ?_
  show q_W L (d + 4) 121 q_m121 Q 57 [some (.ref 192), some (.int (nI e)), some (.int (nI a)), some (.int (nI b))] [.int ((nI e) + (nI 10)), .ref 208, .int ((J 208 (e + 9)).toInt32), .int ((J 208 (e + 8)).toInt32), .int ((J 208 (e + 7)).toInt32), .ref 192] (n, I, J, R) 0 0
  refine q_top (w := nI (e + 10)) (nI_add _ _) ?_
  refine q_lal (m := e + 10) rfl (⟨by decide, Nat.lt_of_lt_of_le (by decide) hK.1, rfl⟩) (by omega) (rfl) ?_
  refine q_k 1 ?_
  show q_W L (d + 4) 121 q_m121 Q 59 [some (.ref 192), some (.int (nI e)), some (.int (nI a)), some (.int (nI b))] [.ref 192, .long (J 208 (e + 10)), .int ((J 208 (e + 9)).toInt32), .int ((J 208 (e + 8)).toInt32), .int ((J 208 (e + 7)).toInt32), .ref 192] (n, I, J, R) 0 0
  refine q_gR (b := 197) rfl rfl (⟨Nat.lt_of_lt_of_le (by decide) hK.1, rfl⟩) (hK.2.1 192 4 197 rfl) ?_
  refine q_k 3 ?_
  show q_W L (d + 4) 121 q_m121 Q 65 [some (.ref 192), some (.int (nI e)), some (.int (nI a)), some (.int (nI b))] [.int ((nI 2) * (nI a)), .ref 197, .long (J 208 (e + 10)), .int ((J 208 (e + 9)).toInt32), .int ((J 208 (e + 8)).toInt32), .int ((J 208 (e + 7)).toInt32), .ref 192] (n, I, J, R) 0 0
  refine q_top (w := nI (2 * a)) (pk_mul _ _) ?_
  refine q_k 2 ?_
  show q_W L (d + 4) 121 q_m121 Q 67 [some (.ref 192), some (.int (nI e)), some (.int (nI a)), some (.int (nI b))] [.int ((nI (2 * a)) + (nI 1)), .ref 197, .long (J 208 (e + 10)), .int ((J 208 (e + 9)).toInt32), .int ((J 208 (e + 8)).toInt32), .int ((J 208 (e + 7)).toInt32), .ref 192] (n, I, J, R) 0 0
  refine q_top (w := nI (2 * a + 1)) (nI_add _ _) ?_
  refine q_ial (m := 2 * a + 1) rfl (⟨by decide, Nat.lt_of_lt_of_le (by decide) hK.1, rfl⟩) (by omega) (rfl) ?_
  refine q_k 1 ?_
  show q_W L (d + 4) 121 q_m121 Q 69 [some (.ref 192), some (.int (nI e)), some (.int (nI a)), some (.int (nI b))] [.ref 192, .int (I 197 (2 * a + 1)), .long (J 208 (e + 10)), .int ((J 208 (e + 9)).toInt32), .int ((J 208 (e + 8)).toInt32), .int ((J 208 (e + 7)).toInt32), .ref 192] (n, I, J, R) 0 0
  refine q_gR (b := 197) rfl rfl (⟨Nat.lt_of_lt_of_le (by decide) hK.1, rfl⟩) (hK.2.1 192 4 197 rfl) ?_
  refine q_k 3 ?_
  show q_W L (d + 4) 121 q_m121 Q 75 [some (.ref 192), some (.int (nI e)), some (.int (nI a)), some (.int (nI b))] [.int ((nI 2) * (nI b)), .ref 197, .int (I 197 (2 * a + 1)), .long (J 208 (e + 10)), .int ((J 208 (e + 9)).toInt32), .int ((J 208 (e + 8)).toInt32), .int ((J 208 (e + 7)).toInt32), .ref 192] (n, I, J, R) 0 0
  refine q_top (w := nI (2 * b)) (pk_mul _ _) ?_
  refine q_k 2 ?_
  show q_W L (d + 4) 121 q_m121 Q 77 [some (.ref 192), some (.int (nI e)), some (.int (nI a)), some (.int (nI b))] [.int ((nI (2 * b)) + (nI 1)), .ref 197, .int (I 197 (2 * a + 1)), .long (J 208 (e + 10)), .int ((J 208 (e + 9)).toInt32), .int ((J 208 (e + 8)).toInt32), .int ((J 208 (e + 7)).toInt32), .ref 192] (n, I, J, R) 0 0
  refine q_top (w := nI (2 * b + 1)) (nI_add _ _) ?_
  refine q_ial (m := 2 * b + 1) rfl (⟨by decide, Nat.lt_of_lt_of_le (by decide) hK.1, rfl⟩) (by omega) (rfl) ?_
  refine q_cv (as := [.int ((J 208 (e + 7)).toInt32), .int ((J 208 (e + 8)).toInt32), .int ((J 208 (e + 9)).toInt32), .long (J 208 (e + 10)), .int (I 197 (2 * a + 1)), .int (I 197 (2 * b + 1))]) (rs := []) rfl rfl rfl (⟨Nat.lt_of_lt_of_le (by decide) hK.1, rfl⟩) rfl rfl ?_
  refine m_tag (hK) (fun I1 f1 => ?_)
  show q_W L (d + 4) 121 q_m121 Q 81 [some (.ref 192), some (.int (nI e)), some (.int (nI a)), some (.int (nI b))] [.long (g_tag (I 212) (J 208 (e + 7)).toInt32 (J 208 (e + 8)).toInt32 (J 208 (e + 9)).toInt32 (J 208 (e + 10)) (I 197 (2 * a + 1)) (I 197 (2 * b + 1)))] (n, I1, J, R) 0 0
  refine q_k 1 ?_
  show q_W L (d + 4) 121 q_m121 Q 82 [some (.ref 192), some (.int (nI e)), some (.int (nI a)), some (.int (nI b))] [.ref 192, .long (g_tag (I 212) (J 208 (e + 7)).toInt32 (J 208 (e + 8)).toInt32 (J 208 (e + 9)).toInt32 (J 208 (e + 10)) (I 197 (2 * a + 1)) (I 197 (2 * b + 1)))] (n, I1, J, R) 0 0
  refine q_gR (b := 208) rfl rfl (⟨Nat.lt_of_lt_of_le (by decide) hK.1, rfl⟩) (hK.2.1 192 15 208 rfl) ?_
  refine q_k 3 ?_
  show q_W L (d + 4) 121 q_m121 Q 89 [some (.ref 192), some (.int (nI e)), some (.int (nI a)), some (.int (nI b))] [.int ((nI e) + (nI 11)), .ref 208, .long (g_tag (I 212) (J 208 (e + 7)).toInt32 (J 208 (e + 8)).toInt32 (J 208 (e + 9)).toInt32 (J 208 (e + 10)) (I 197 (2 * a + 1)) (I 197 (2 * b + 1)))] (n, I1, J, R) 0 0
  refine q_top (w := nI (e + 11)) (nI_add _ _) ?_
  refine q_lal (m := e + 11) rfl (⟨by decide, Nat.lt_of_lt_of_le (by decide) hK.1, rfl⟩) (by omega) (rfl) ?_
  refine q_k 1 ?_
  show q_W L (d + 4) 121 q_m121 Q 91 [some (.ref 192), some (.int (nI e)), some (.int (nI a)), some (.int (nI b))] [.int (lg_cmp (g_tag (I 212) (J 208 (e + 7)).toInt32 (J 208 (e + 8)).toInt32 (J 208 (e + 9)).toInt32 (J 208 (e + 10)) (I 197 (2 * a + 1)) (I 197 (2 * b + 1))) (J 208 (e + 11)))] (n, I1, J, R) 0 0
  refine q_one rfl rfl ?_
  show (¬ (lg_cmp (g_tag (I 212) (J 208 (e + 7)).toInt32 (J 208 (e + 8)).toInt32 (J 208 (e + 9)).toInt32 (J 208 (e + 10)) (I 197 (2 * a + 1)) (I 197 (2 * b + 1))) (J 208 (e + 11))) = 0 → q_W L (d + 4) 121 q_m121 Q 98 [some (.ref 192), some (.int (nI e)), some (.int (nI a)), some (.int (nI b))] [] (n, I1, J, R) 0 0) ∧ ((lg_cmp (g_tag (I 212) (J 208 (e + 7)).toInt32 (J 208 (e + 8)).toInt32 (J 208 (e + 9)).toInt32 (J 208 (e + 10)) (I 197 (2 * a + 1)) (I 197 (2 * b + 1))) (J 208 (e + 11))) = 0 → q_W L (d + 4) 121 q_m121 Q 94 [some (.ref 192), some (.int (nI e)), some (.int (nI a)), some (.int (nI b))] [] (n, I1, J, R) 0 0)
  refine ⟨fun h91 => ?_, fun h91 => ?_⟩
  · skip
    rw [lg_cmp_eq] at h91
    refine q_k 1 ?_
    show q_W L (d + 4) 121 q_m121 Q 99 [some (.ref 192), some (.int (nI e)), some (.int (nI a)), some (.int (nI b))] [.int (nI 0)] (n, I1, J, R) 0 0
    refine q_one rfl rfl ?_
    show q_bz (nI 0) ∧ Q (some (.int (nI 0))) (n, I1, J, R)
    refine ⟨Or.inl rfl, ?_⟩
    simp only [if_neg (show ¬ g_tg (J 208) e (I 197 (2 * a + 1)) (I 197 (2 * b + 1)) (I 212) = J 208 (e + 11) from h91)] at hQ
    exact hQ I1 f1
  · skip
    rw [lg_cmp_eq] at h91
    refine q_k 2 ?_
    show q_W L (d + 4) 121 q_m121 Q 99 [some (.ref 192), some (.int (nI e)), some (.int (nI a)), some (.int (nI b))] [.int (nI 1)] (n, I1, J, R) 0 0
    refine q_one rfl rfl ?_
    show q_bz (nI 1) ∧ Q (some (.int (nI 1))) (n, I1, J, R)
    refine ⟨Or.inr rfl, ?_⟩
    simp only [if_pos (show g_tg (J 208) e (I 197 (2 * a + 1)) (I 197 (2 * b + 1)) (I 212) = J 208 (e + 11) from h91)] at hQ
    exact hQ I1 f1
set_option maxHeartbeats 2000000 in
theorem m_trial_end {L d n : Nat} {I : q_I} {J : q_L} {R : q_R} {Q : q_Q} {e a b m p c w : Nat} {tu : Bool} (hK : q_K0 n I R) (he : e + 12 ≤ 720) (hfa : J 208 e = lN a) (hfb : J 208 (e + 1) = lN b) (ha : a < 4) (hb : b < 4) (hm : m ≤ 1000) (hc : I 207 9 = nI c) (hc20 : c ≤ 20) (hw : I 207 7 = nI w) (hw2 : w ≤ 1001)
    (hQ : ∀ I', ((s_end m c w (g_tg (J 208) e (I 197 (2 * a + 1)) (I 197 (2 * b + 1))) (J 208 (e + 11)) tu (I 207)).1 = nI 0 → I' 207 = (s_end m c w (g_tg (J 208) e (I 197 (2 * a + 1)) (I 197 (2 * b + 1))) (J 208 (e + 11)) tu (I 207)).2.1 ∧ ∀ i, i < 8 → I' 212 i = (s_end m c w (g_tg (J 208) e (I 197 (2 * a + 1)) (I 197 (2 * b + 1))) (J 208 (e + 11)) tu (I 207)).2.2.1 i) → (∀ x, x ≠ 207 → x ≠ 209 → x ≠ 210 → x ≠ 211 → x ≠ 212 → x ≠ 213 → I' x = I x) → Q (some (.int (s_end m c w (g_tg (J 208) e (I 197 (2 * a + 1)) (I 197 (2 * b + 1))) (J 208 (e + 11)) tu (I 207)).1)) (n, I', J, R)) : q_W L (d + 5) 122 q_m122 Q 205 [some (.ref 192), some (.int (nI e)), some (.int (nI b)), some (.int ((J 208 (e + 7)).toInt32)), some (.int (nI m)), some (.int (nI p)), none, none, none] [] (n, I, J, R) 0 0 := by
  refine q_k 1 ?_
  show q_W L (d + 5) 122 q_m122 Q 206 [some (.ref 192), some (.int (nI e)), some (.int (nI b)), some (.int ((J 208 (e + 7)).toInt32)), some (.int (nI m)), some (.int (nI p)), none, none, none] [.ref 192] (n, I, J, R) 0 0
  refine q_gR (b := 207) rfl rfl (⟨Nat.lt_of_lt_of_le (by decide) hK.1, rfl⟩) (hK.2.1 192 14 207 rfl) ?_
  refine q_k 1 ?_
  show q_W L (d + 5) 122 q_m122 Q 210 [some (.ref 192), some (.int (nI e)), some (.int (nI b)), some (.int ((J 208 (e + 7)).toInt32)), some (.int (nI m)), some (.int (nI p)), none, none, none] [.int (nI 5), .ref 207] (n, I, J, R) 0 0
  refine q_ial (m := 5) rfl (⟨by decide, Nat.lt_of_lt_of_le (by decide) hK.1, rfl⟩) (by decide) (rfl) ?_
  refine q_one rfl rfl ?_
  show ((I 207 5) = 0 → q_W L (d + 5) 122 q_m122 Q 241 [some (.ref 192), some (.int (nI e)), some (.int (nI b)), some (.int ((J 208 (e + 7)).toInt32)), some (.int (nI m)), some (.int (nI p)), none, none, none] [] (n, I, J, R) 0 0) ∧ (¬ (I 207 5) = 0 → q_W L (d + 5) 122 q_m122 Q 214 [some (.ref 192), some (.int (nI e)), some (.int (nI b)), some (.int ((J 208 (e + 7)).toInt32)), some (.int (nI m)), some (.int (nI p)), none, none, none] [] (n, I, J, R) 0 0)
  refine ⟨fun h211 => ?_, fun h211 => ?_⟩
  · skip
    refine q_k 1 ?_
    show q_W L (d + 5) 122 q_m122 Q 242 [some (.ref 192), some (.int (nI e)), some (.int (nI b)), some (.int ((J 208 (e + 7)).toInt32)), some (.int (nI m)), some (.int (nI p)), none, none, none] [.ref 192] (n, I, J, R) 0 0
    refine q_gR (b := 207) rfl rfl (⟨Nat.lt_of_lt_of_le (by decide) hK.1, rfl⟩) (hK.2.1 192 14 207 rfl) ?_
    refine q_k 1 ?_
    show q_W L (d + 5) 122 q_m122 Q 246 [some (.ref 192), some (.int (nI e)), some (.int (nI b)), some (.int ((J 208 (e + 7)).toInt32)), some (.int (nI m)), some (.int (nI p)), none, none, none] [.int (nI 5), .ref 207] (n, I, J, R) 0 0
    refine q_ial (m := 5) rfl (⟨by decide, Nat.lt_of_lt_of_le (by decide) hK.1, rfl⟩) (by decide) (rfl) ?_
    refine q_one rfl rfl ?_
    show (¬ (I 207 5) = 0 → q_W L (d + 5) 122 q_m122 Q 254 [some (.ref 192), some (.int (nI e)), some (.int (nI b)), some (.int ((J 208 (e + 7)).toInt32)), some (.int (nI m)), some (.int (nI p)), none, none, none] [] (n, I, J, R) 0 0) ∧ ((I 207 5) = 0 → q_W L (d + 5) 122 q_m122 Q 250 [some (.ref 192), some (.int (nI e)), some (.int (nI b)), some (.int ((J 208 (e + 7)).toInt32)), some (.int (nI m)), some (.int (nI p)), none, none, none] [] (n, I, J, R) 0 0)
    refine ⟨fun z => absurd (h211) z, fun _ => ?_⟩
    refine q_k 2 ?_
    show q_W L (d + 5) 122 q_m122 Q 271 [some (.ref 192), some (.int (nI e)), some (.int (nI b)), some (.int ((J 208 (e + 7)).toInt32)), some (.int (nI m)), some (.int (nI p)), none, none, none] [.int (nI 1)] (n, I, J, R) 0 0
    refine q_one rfl rfl ?_
    show Q (some (.int (nI 1))) (n, I, J, R)
    have hS : s_end m c w (g_tg (J 208) e (I 197 (2 * a + 1)) (I 197 (2 * b + 1))) (J 208 (e + 11)) tu (I 207) = (nI 1, I 207, I 207, tu) := by unfold s_end; rw [if_pos h211]
    rw [hS] at hQ
    exact hQ I (fun z => absurd (show nI 1 = nI 0 from z) (by decide)) (fun _ _ _ _ _ _ _ => rfl)
  · skip
    refine q_k 2 ?_
    show q_W L (d + 5) 122 q_m122 Q 217 [some (.ref 192), some (.int (nI e)), some (.int (nI b)), some (.int ((J 208 (e + 7)).toInt32)), some (.int (nI m)), some (.int (nI p)), none, none, none] [.ref 192, .int (nI m)] (n, I, J, R) 0 0
    refine q_gR (b := 207) rfl rfl (⟨Nat.lt_of_lt_of_le (by decide) hK.1, rfl⟩) (hK.2.1 192 14 207 rfl) ?_
    refine q_k 1 ?_
    show q_W L (d + 5) 122 q_m122 Q 222 [some (.ref 192), some (.int (nI e)), some (.int (nI b)), some (.int ((J 208 (e + 7)).toInt32)), some (.int (nI m)), some (.int (nI p)), none, none, none] [.int (nI 7), .ref 207, .int (nI m)] (n, I, J, R) 0 0
    refine q_ial (m := 7) rfl (⟨by decide, Nat.lt_of_lt_of_le (by decide) hK.1, rfl⟩) (by decide) (rfl) ?_
    refine q_top (w := nI w) (hw) ?_
    refine q_one rfl rfl ?_
    show ((nI m) < (nI w) → q_W L (d + 5) 122 q_m122 Q 241 [some (.ref 192), some (.int (nI e)), some (.int (nI b)), some (.int ((J 208 (e + 7)).toInt32)), some (.int (nI m)), some (.int (nI p)), none, none, none] [] (n, I, J, R) 0 0) ∧ (¬ (nI m) < (nI w) → q_W L (d + 5) 122 q_m122 Q 226 [some (.ref 192), some (.int (nI e)), some (.int (nI b)), some (.int ((J 208 (e + 7)).toInt32)), some (.int (nI m)), some (.int (nI p)), none, none, none] [] (n, I, J, R) 0 0)
    refine ⟨fun h223 => ?_, fun h223 => ?_⟩
    · skip
      have hmw : m < w := (nI_ltI (by omega) (by omega)).mp h223
      refine q_k 1 ?_
      show q_W L (d + 5) 122 q_m122 Q 242 [some (.ref 192), some (.int (nI e)), some (.int (nI b)), some (.int ((J 208 (e + 7)).toInt32)), some (.int (nI m)), some (.int (nI p)), none, none, none] [.ref 192] (n, I, J, R) 0 0
      refine q_gR (b := 207) rfl rfl (⟨Nat.lt_of_lt_of_le (by decide) hK.1, rfl⟩) (hK.2.1 192 14 207 rfl) ?_
      refine q_k 1 ?_
      show q_W L (d + 5) 122 q_m122 Q 246 [some (.ref 192), some (.int (nI e)), some (.int (nI b)), some (.int ((J 208 (e + 7)).toInt32)), some (.int (nI m)), some (.int (nI p)), none, none, none] [.int (nI 5), .ref 207] (n, I, J, R) 0 0
      refine q_ial (m := 5) rfl (⟨by decide, Nat.lt_of_lt_of_le (by decide) hK.1, rfl⟩) (by decide) (rfl) ?_
      refine q_one rfl rfl ?_
      show (¬ (I 207 5) = 0 → q_W L (d + 5) 122 q_m122 Q 254 [some (.ref 192), some (.int (nI e)), some (.int (nI b)), some (.int ((J 208 (e + 7)).toInt32)), some (.int (nI m)), some (.int (nI p)), none, none, none] [] (n, I, J, R) 0 0) ∧ ((I 207 5) = 0 → q_W L (d + 5) 122 q_m122 Q 250 [some (.ref 192), some (.int (nI e)), some (.int (nI b)), some (.int ((J 208 (e + 7)).toInt32)), some (.int (nI m)), some (.int (nI p)), none, none, none] [] (n, I, J, R) 0 0)
      refine ⟨fun _ => ?_, fun z => absurd z (h211)⟩
      refine q_k 2 ?_
      show q_W L (d + 5) 122 q_m122 Q 257 [some (.ref 192), some (.int (nI e)), some (.int (nI b)), some (.int ((J 208 (e + 7)).toInt32)), some (.int (nI m)), some (.int (nI p)), none, none, none] [.ref 192, .int (nI m)] (n, I, J, R) 0 0
      refine q_gR (b := 207) rfl rfl (⟨Nat.lt_of_lt_of_le (by decide) hK.1, rfl⟩) (hK.2.1 192 14 207 rfl) ?_
      refine q_k 1 ?_
      show q_W L (d + 5) 122 q_m122 Q 262 [some (.ref 192), some (.int (nI e)), some (.int (nI b)), some (.int ((J 208 (e + 7)).toInt32)), some (.int (nI m)), some (.int (nI p)), none, none, none] [.int (nI 7), .ref 207, .int (nI m)] (n, I, J, R) 0 0
      refine q_ial (m := 7) rfl (⟨by decide, Nat.lt_of_lt_of_le (by decide) hK.1, rfl⟩) (by decide) (rfl) ?_
      refine q_top (w := nI w) (hw) ?_
      refine q_one rfl rfl ?_
      show ((nI w) ≤ (nI m) → q_W L (d + 5) 122 q_m122 Q 270 [some (.ref 192), some (.int (nI e)), some (.int (nI b)), some (.int ((J 208 (e + 7)).toInt32)), some (.int (nI m)), some (.int (nI p)), none, none, none] [] (n, I, J, R) 0 0) ∧ (¬ (nI w) ≤ (nI m) → q_W L (d + 5) 122 q_m122 Q 266 [some (.ref 192), some (.int (nI e)), some (.int (nI b)), some (.int ((J 208 (e + 7)).toInt32)), some (.int (nI m)), some (.int (nI p)), none, none, none] [] (n, I, J, R) 0 0)
      refine ⟨fun z => absurd z (nI_ge hmw (by omega)), fun _ => ?_⟩
      refine q_k 2 ?_
      show q_W L (d + 5) 122 q_m122 Q 271 [some (.ref 192), some (.int (nI e)), some (.int (nI b)), some (.int ((J 208 (e + 7)).toInt32)), some (.int (nI m)), some (.int (nI p)), none, none, none] [.int (nI 5)] (n, I, J, R) 0 0
      refine q_one rfl rfl ?_
      show Q (some (.int (nI 5))) (n, I, J, R)
      have hS : s_end m c w (g_tg (J 208) e (I 197 (2 * a + 1)) (I 197 (2 * b + 1))) (J 208 (e + 11)) tu (I 207) = (nI 5, I 207, I 207, tu) := by unfold s_end; rw [if_neg h211, if_pos hmw]
      rw [hS] at hQ
      exact hQ I (fun z => absurd (show nI 5 = nI 0 from z) (by decide)) (fun _ _ _ _ _ _ _ => rfl)
    · skip
      have hmw : w ≤ m := by rcases Nat.lt_or_ge m w with h | h; exact absurd (nI_lt h (by omega)) h223; exact h
      refine q_k 2 ?_
      show q_W L (d + 5) 122 q_m122 Q 229 [some (.ref 192), some (.int (nI e)), some (.int (nI b)), some (.int ((J 208 (e + 7)).toInt32)), some (.int (nI m)), some (.int (nI p)), none, none, none] [.ref 192, .int (nI m)] (n, I, J, R) 0 0
      refine q_gR (b := 207) rfl rfl (⟨Nat.lt_of_lt_of_le (by decide) hK.1, rfl⟩) (hK.2.1 192 14 207 rfl) ?_
      refine q_k 1 ?_
      show q_W L (d + 5) 122 q_m122 Q 234 [some (.ref 192), some (.int (nI e)), some (.int (nI b)), some (.int ((J 208 (e + 7)).toInt32)), some (.int (nI m)), some (.int (nI p)), none, none, none] [.int (nI 7), .ref 207, .int (nI m)] (n, I, J, R) 0 0
      refine q_ial (m := 7) rfl (⟨by decide, Nat.lt_of_lt_of_le (by decide) hK.1, rfl⟩) (by decide) (rfl) ?_
      refine q_top (w := nI w) (hw) ?_
      refine q_k 1 ?_
      show q_W L (d + 5) 122 q_m122 Q 236 [some (.ref 192), some (.int (nI e)), some (.int (nI b)), some (.int ((J 208 (e + 7)).toInt32)), some (.int (nI m)), some (.int (nI p)), none, none, none] [.int ((nI m) - (nI w))] (n, I, J, R) 0 0
      refine q_top (w := nI (m - w)) (pk_sub (by omega)) ?_
      refine q_k 1 ?_
      show q_W L (d + 5) 122 q_m122 Q 238 [some (.ref 192), some (.int (nI e)), some (.int (nI b)), some (.int ((J 208 (e + 7)).toInt32)), some (.int (nI m)), some (.int (nI p)), none, none, none] [.int (nI 8), .int (nI (m - w))] (n, I, J, R) 0 0
      refine q_one rfl rfl ?_
      show ((nI (m - w)) ≤ (nI 8) → q_W L (d + 5) 122 q_m122 Q 272 [some (.ref 192), some (.int (nI e)), some (.int (nI b)), some (.int ((J 208 (e + 7)).toInt32)), some (.int (nI m)), some (.int (nI p)), none, none, none] [] (n, I, J, R) 0 0) ∧ (¬ (nI (m - w)) ≤ (nI 8) → q_W L (d + 5) 122 q_m122 Q 241 [some (.ref 192), some (.int (nI e)), some (.int (nI b)), some (.int ((J 208 (e + 7)).toInt32)), some (.int (nI m)), some (.int (nI p)), none, none, none] [] (n, I, J, R) 0 0)
      refine ⟨fun h238 => ?_, fun h238 => ?_⟩
      · skip
        have h8 : m - w ≤ 8 := (nI_leI (by omega) (by decide)).mp h238
        refine q_k 2 ?_
        show q_W L (d + 5) 122 q_m122 Q 275 [some (.ref 192), some (.int (nI e)), some (.int (nI b)), some (.int ((J 208 (e + 7)).toInt32)), some (.int (nI m)), some (.int (nI p)), none, none, none] [.int (nI m), .ref 192] (n, I, J, R) 0 0
        refine q_cv (as := [.int (nI m)]) (rs := []) rfl rfl rfl (⟨Nat.lt_of_lt_of_le (by decide) hK.1, rfl⟩) rfl rfl ?_
        refine m_skip (hK) (hc) (hw) (by omega) (by omega) (by omega) (fun I2 h2 f2 => ?_)
        show q_W L (d + 5) 122 q_m122 Q 278 [some (.ref 192), some (.int (nI e)), some (.int (nI b)), some (.int ((J 208 (e + 7)).toInt32)), some (.int (nI m)), some (.int (nI p)), none, none, none] [] (n, I2, J, R) 0 0
        refine q_k 1 ?_
        show q_W L (d + 5) 122 q_m122 Q 279 [some (.ref 192), some (.int (nI e)), some (.int (nI b)), some (.int ((J 208 (e + 7)).toInt32)), some (.int (nI m)), some (.int (nI p)), none, none, none] [.ref 192] (n, I2, J, R) 0 0
        refine q_gR (b := 207) rfl rfl (⟨Nat.lt_of_lt_of_le (by decide) hK.1, rfl⟩) (hK.2.1 192 14 207 rfl) ?_
        refine q_k 1 ?_
        show q_W L (d + 5) 122 q_m122 Q 284 [some (.ref 192), some (.int (nI e)), some (.int (nI b)), some (.int ((J 208 (e + 7)).toInt32)), some (.int (nI m)), some (.int (nI p)), none, none, none] [.int (nI 9), .ref 207] (n, I2, J, R) 0 0
        refine q_ial (m := 9) rfl (⟨by decide, Nat.lt_of_lt_of_le (by decide) hK.1, rfl⟩) (by decide) (rfl) ?_
        refine q_top (w := nI (c + (m - w))) (by rw [h2, s_sk_9 hc]) ?_
        refine q_k 1 ?_
        show q_W L (d + 5) 122 q_m122 Q 287 [some (.ref 192), some (.int (nI e)), some (.int (nI b)), some (.int ((J 208 (e + 7)).toInt32)), some (.int (nI m)), some (.int (nI p)), none, none, none] [.int (nI 12), .int (nI (c + (m - w)))] (n, I2, J, R) 0 0
        refine q_one rfl rfl ?_
        show ((nI (c + (m - w))) ≤ (nI 12) → q_W L (d + 5) 122 q_m122 Q 292 [some (.ref 192), some (.int (nI e)), some (.int (nI b)), some (.int ((J 208 (e + 7)).toInt32)), some (.int (nI m)), some (.int (nI p)), none, none, none] [] (n, I2, J, R) 0 0) ∧ (¬ (nI (c + (m - w))) ≤ (nI 12) → q_W L (d + 5) 122 q_m122 Q 290 [some (.ref 192), some (.int (nI e)), some (.int (nI b)), some (.int ((J 208 (e + 7)).toInt32)), some (.int (nI m)), some (.int (nI p)), none, none, none] [] (n, I2, J, R) 0 0)
        refine ⟨fun h287 => ?_, fun h287 => ?_⟩
        · skip
          have h12 : c + (m - w) ≤ 12 := (nI_leI (by omega) (by decide)).mp h287
          refine q_k 2 ?_
          show q_W L (d + 5) 122 q_m122 Q 295 [some (.ref 192), some (.int (nI e)), some (.int (nI b)), some (.int ((J 208 (e + 7)).toInt32)), some (.int (nI m)), some (.int (nI p)), none, none, none] [.int (nI 30), .ref 192] (n, I2, J, R) 0 0
          refine q_cv (as := [.int (nI 30)]) (rs := []) rfl rfl rfl (⟨Nat.lt_of_lt_of_le (by decide) hK.1, rfl⟩) rfl rfl ?_
          refine m_take (q_K0_to hK (f2 0 (by decide) (by decide) (by decide) (by decide) (by decide)) (f2 1 (by decide) (by decide) (by decide) (by decide) (by decide))) (by decide) (fun I3 a3 b3 g3 f3 => ?_)
          show q_W L (d + 5) 122 q_m122 Q 298 [some (.ref 192), some (.int (nI e)), some (.int (nI b)), some (.int ((J 208 (e + 7)).toInt32)), some (.int (nI m)), some (.int (nI p)), none, none, none] [] (n, I3, J, R) 0 0
          refine q_k 1 ?_
          show q_W L (d + 5) 122 q_m122 Q 299 [some (.ref 192), some (.int (nI e)), some (.int (nI b)), some (.int ((J 208 (e + 7)).toInt32)), some (.int (nI m)), some (.int (nI p)), none, none, none] [.ref 192] (n, I3, J, R) 0 0
          refine q_gR (b := 207) rfl rfl (⟨Nat.lt_of_lt_of_le (by decide) hK.1, rfl⟩) (hK.2.1 192 14 207 rfl) ?_
          refine q_k 4 ?_
          show q_W L (d + 5) 122 q_m122 Q 308 [some (.ref 192), some (.int (nI e)), some (.int (nI b)), some (.int ((J 208 (e + 7)).toInt32)), some (.int (nI m)), some (.int (nI p)), none, none, none] [.int ((nI m) + (nI 1)), .int (nI 7), .ref 207] (n, I3, J, R) 0 0
          refine q_top (w := nI (m + 1)) (nI_add _ _) ?_
          refine q_ias (m := 7) rfl (⟨by decide, Nat.lt_of_lt_of_le (by decide) hK.1, rfl⟩) (by decide) (rfl) ?_
          obtain ⟨I4, eI4⟩ : ∃ zz9, zz9 = q_up I3 207 7 (nI (m + 1)) := ⟨_, rfl⟩
          rw [← eI4]
          refine q_k 2 ?_
          show q_W L (d + 5) 122 q_m122 Q 311 [some (.ref 192), some (.int (nI e)), some (.int (nI b)), some (.int ((J 208 (e + 7)).toInt32)), some (.int (nI m)), some (.int (nI p)), none, none, none] [.int (nI e), .ref 192] (n, I4, J, R) 0 0
          refine q_cv (as := [.int (nI e)]) (rs := []) rfl rfl rfl (⟨Nat.lt_of_lt_of_le (by decide) hK.1, rfl⟩) rfl rfl ?_
          refine m_fits (q_K0_to hK (by rw [eI4, q_un (by decide), f3 0 (by decide) (by decide) (by decide) (by decide) (by decide), f2 0 (by decide) (by decide) (by decide) (by decide) (by decide)]) (by rw [eI4, q_un (by decide), f3 1 (by decide) (by decide) (by decide) (by decide) (by decide), f2 1 (by decide) (by decide) (by decide) (by decide) (by decide)])) (he) (hfa) (hfb) (ha) (hb) (fun I5 f5 => ?_)
          show q_W L (d + 5) 122 q_m122 Q 314 [some (.ref 192), some (.int (nI e)), some (.int (nI b)), some (.int ((J 208 (e + 7)).toInt32)), some (.int (nI m)), some (.int (nI p)), none, none, none] [.int (if g_tg (J 208) e (I4 197 (2 * a + 1)) (I4 197 (2 * b + 1)) (I4 212) = J 208 (e + 11) then nI 1 else nI 0)] (n, I5, J, R) 0 0
          obtain ⟨ft, eft⟩ : ∃ zz9, zz9 = if g_tg (J 208) e (I4 197 (2 * a + 1)) (I4 197 (2 * b + 1)) (I4 212) = J 208 (e + 11) then nI 1 else nI 0 := ⟨_, rfl⟩
          rw [← eft]
          refine q_one rfl rfl ?_
          show (ft = 0 → q_W L (d + 5) 122 q_m122 Q 321 [some (.ref 192), some (.int (nI e)), some (.int (nI b)), some (.int ((J 208 (e + 7)).toInt32)), some (.int (nI m)), some (.int (nI p)), none, none, none] [] (n, I5, J, R) 0 0) ∧ (¬ ft = 0 → q_W L (d + 5) 122 q_m122 Q 317 [some (.ref 192), some (.int (nI e)), some (.int (nI b)), some (.int ((J 208 (e + 7)).toInt32)), some (.int (nI m)), some (.int (nI p)), none, none, none] [] (n, I5, J, R) 0 0)
          refine ⟨fun h314 => ?_, fun h314 => ?_⟩
          · skip
            refine q_k 1 ?_
            show q_W L (d + 5) 122 q_m122 Q 322 [some (.ref 192), some (.int (nI e)), some (.int (nI b)), some (.int ((J 208 (e + 7)).toInt32)), some (.int (nI m)), some (.int (nI p)), none, none, none] [.int (nI 1)] (n, I5, J, R) 0 0
            refine q_one rfl rfl ?_
            show Q (some (.int (nI 1))) (n, I5, J, R)
            have hkey : ∀ i, i < 8 → I4 212 i = s_mk (s_sk c (m - w) (I 207)) i := fun i hi => by rw [eI4, q_un (by decide), a3 i hi, h2]; rfl
            have hrow : I4 207 = s_mv m (s_sk c (m - w) (I 207)) := by
              funext i
              unfold s_mv
              rw [← h2, eI4]
              by_cases e7 : i = 7
              · subst e7; rw [q_usk, if_pos rfl]
              · rw [q_usn e7, if_neg e7]
                by_cases c3 : 30 ≤ i ∧ i < 38
                · rw [if_pos c3]
                  have h30 := b3 (i - 30) (by omega)
                  rw [show 30 + (i - 30) = i by omega] at h30
                  exact h30
                · rw [if_neg c3]; exact g3 i (by omega)
            have hfr : ∀ x, x ≠ 207 → x ≠ 209 → x ≠ 210 → x ≠ 211 → x ≠ 212 → I4 x = I x := fun y h7 h9 h10 h11 h12 => by rw [eI4, q_un h7, f3 y h7 h9 h10 h11 h12]; exact f2 y h7 h9 h10 h11 h12
            have htg : g_tg (J 208) e (I4 197 (2 * a + 1)) (I4 197 (2 * b + 1)) (I4 212) = g_tg (J 208) e (I 197 (2 * a + 1)) (I 197 (2 * b + 1)) (s_mk (s_sk c (m - w) (I 207))) := by
              rw [hfr 197 (by decide) (by decide) (by decide) (by decide) (by decide)]
              exact g_tag_c hkey _ _ _ _ _ _
            rw [htg] at eft
            have ht : ¬ g_tg (J 208) e (I 197 (2 * a + 1)) (I 197 (2 * b + 1)) (s_mk (s_sk c (m - w) (I 207))) = J 208 (e + 11) := fun hn => absurd (eft.symm.trans h314) (by rw [if_pos hn]; decide)
            have hS : s_end m c w (g_tg (J 208) e (I 197 (2 * a + 1)) (I 197 (2 * b + 1))) (J 208 (e + 11)) tu (I 207) = (nI 1, I 207, I 207, tu) := by unfold s_end; rw [if_neg h211, if_neg (show ¬ m < w by omega), if_neg (show ¬ 8 < m - w by omega), if_neg (show ¬ 12 < c + (m - w) by omega), if_neg ht]
            rw [hS] at hQ
            exact hQ I5 (fun z => absurd (show nI 1 = nI 0 from z) (by decide)) (fun y h7 h9 h10 h11 h12 h13 => (f5 y h9 h10 h11 h13).trans (hfr y h7 h9 h10 h11 h12))
          · skip
            refine q_k 2 ?_
            show q_W L (d + 5) 122 q_m122 Q 322 [some (.ref 192), some (.int (nI e)), some (.int (nI b)), some (.int ((J 208 (e + 7)).toInt32)), some (.int (nI m)), some (.int (nI p)), none, none, none] [.int (nI 0)] (n, I5, J, R) 0 0
            refine q_one rfl rfl ?_
            show Q (some (.int (nI 0))) (n, I5, J, R)
            have hkey : ∀ i, i < 8 → I4 212 i = s_mk (s_sk c (m - w) (I 207)) i := fun i hi => by rw [eI4, q_un (by decide), a3 i hi, h2]; rfl
            have hrow : I4 207 = s_mv m (s_sk c (m - w) (I 207)) := by
              funext i
              unfold s_mv
              rw [← h2, eI4]
              by_cases e7 : i = 7
              · subst e7; rw [q_usk, if_pos rfl]
              · rw [q_usn e7, if_neg e7]
                by_cases c3 : 30 ≤ i ∧ i < 38
                · rw [if_pos c3]
                  have h30 := b3 (i - 30) (by omega)
                  rw [show 30 + (i - 30) = i by omega] at h30
                  exact h30
                · rw [if_neg c3]; exact g3 i (by omega)
            have hfr : ∀ x, x ≠ 207 → x ≠ 209 → x ≠ 210 → x ≠ 211 → x ≠ 212 → I4 x = I x := fun y h7 h9 h10 h11 h12 => by rw [eI4, q_un h7, f3 y h7 h9 h10 h11 h12]; exact f2 y h7 h9 h10 h11 h12
            have htg : g_tg (J 208) e (I4 197 (2 * a + 1)) (I4 197 (2 * b + 1)) (I4 212) = g_tg (J 208) e (I 197 (2 * a + 1)) (I 197 (2 * b + 1)) (s_mk (s_sk c (m - w) (I 207))) := by
              rw [hfr 197 (by decide) (by decide) (by decide) (by decide) (by decide)]
              exact g_tag_c hkey _ _ _ _ _ _
            rw [htg] at eft
            have ht : g_tg (J 208) e (I 197 (2 * a + 1)) (I 197 (2 * b + 1)) (s_mk (s_sk c (m - w) (I 207))) = J 208 (e + 11) := Classical.byContradiction fun hn => h314 (by rw [eft, if_neg hn]; rfl)
            have hS : s_end m c w (g_tg (J 208) e (I 197 (2 * a + 1)) (I 197 (2 * b + 1))) (J 208 (e + 11)) tu (I 207) = (nI 0, s_mv m (s_sk c (m - w) (I 207)), s_mk (s_sk c (m - w) (I 207)), tu) := by unfold s_end; rw [if_neg h211, if_neg (show ¬ m < w by omega), if_neg (show ¬ 8 < m - w by omega), if_neg (show ¬ 12 < c + (m - w) by omega), if_pos ht]
            rw [hS] at hQ
            exact hQ I5 (fun _ => ⟨(f5 207 (by decide) (by decide) (by decide) (by decide)).trans hrow, fun i hi => by rw [f5 212 (by decide) (by decide) (by decide) (by decide)]; exact hkey i hi⟩) (fun y h7 h9 h10 h11 h12 h13 => (f5 y h9 h10 h11 h13).trans (hfr y h7 h9 h10 h11 h12))
        · skip
          have h12 : 12 < c + (m - w) := by rcases Nat.lt_or_ge 12 (c + (m - w)) with h | h; exact h; exact absurd (nI_le h (by decide)) h287
          refine q_k 1 ?_
          show q_W L (d + 5) 122 q_m122 Q 291 [some (.ref 192), some (.int (nI e)), some (.int (nI b)), some (.int ((J 208 (e + 7)).toInt32)), some (.int (nI m)), some (.int (nI p)), none, none, none] [.int (nI 2)] (n, I2, J, R) 0 0
          refine q_one rfl rfl ?_
          show Q (some (.int (nI 2))) (n, I2, J, R)
          have hS : s_end m c w (g_tg (J 208) e (I 197 (2 * a + 1)) (I 197 (2 * b + 1))) (J 208 (e + 11)) tu (I 207) = (nI 2, I 207, I 207, tu) := by unfold s_end; rw [if_neg h211, if_neg (show ¬ m < w by omega), if_neg (show ¬ 8 < m - w by omega), if_pos h12]
          rw [hS] at hQ
          exact hQ I2 (fun z => absurd (show nI 2 = nI 0 from z) (by decide)) (fun y h7 h9 h10 h11 h12 _ => f2 y h7 h9 h10 h11 h12)
      · skip
        have h8 : 8 < m - w := by rcases Nat.lt_or_ge 8 (m - w) with h | h; exact h; exact absurd (nI_le h (by decide)) h238
        refine q_k 1 ?_
        show q_W L (d + 5) 122 q_m122 Q 242 [some (.ref 192), some (.int (nI e)), some (.int (nI b)), some (.int ((J 208 (e + 7)).toInt32)), some (.int (nI m)), some (.int (nI p)), none, none, none] [.ref 192] (n, I, J, R) 0 0
        refine q_gR (b := 207) rfl rfl (⟨Nat.lt_of_lt_of_le (by decide) hK.1, rfl⟩) (hK.2.1 192 14 207 rfl) ?_
        refine q_k 1 ?_
        show q_W L (d + 5) 122 q_m122 Q 246 [some (.ref 192), some (.int (nI e)), some (.int (nI b)), some (.int ((J 208 (e + 7)).toInt32)), some (.int (nI m)), some (.int (nI p)), none, none, none] [.int (nI 5), .ref 207] (n, I, J, R) 0 0
        refine q_ial (m := 5) rfl (⟨by decide, Nat.lt_of_lt_of_le (by decide) hK.1, rfl⟩) (by decide) (rfl) ?_
        refine q_one rfl rfl ?_
        show (¬ (I 207 5) = 0 → q_W L (d + 5) 122 q_m122 Q 254 [some (.ref 192), some (.int (nI e)), some (.int (nI b)), some (.int ((J 208 (e + 7)).toInt32)), some (.int (nI m)), some (.int (nI p)), none, none, none] [] (n, I, J, R) 0 0) ∧ ((I 207 5) = 0 → q_W L (d + 5) 122 q_m122 Q 250 [some (.ref 192), some (.int (nI e)), some (.int (nI b)), some (.int ((J 208 (e + 7)).toInt32)), some (.int (nI m)), some (.int (nI p)), none, none, none] [] (n, I, J, R) 0 0)
        refine ⟨fun _ => ?_, fun z => absurd z (h211)⟩
        refine q_k 2 ?_
        show q_W L (d + 5) 122 q_m122 Q 257 [some (.ref 192), some (.int (nI e)), some (.int (nI b)), some (.int ((J 208 (e + 7)).toInt32)), some (.int (nI m)), some (.int (nI p)), none, none, none] [.ref 192, .int (nI m)] (n, I, J, R) 0 0
        refine q_gR (b := 207) rfl rfl (⟨Nat.lt_of_lt_of_le (by decide) hK.1, rfl⟩) (hK.2.1 192 14 207 rfl) ?_
        refine q_k 1 ?_
        show q_W L (d + 5) 122 q_m122 Q 262 [some (.ref 192), some (.int (nI e)), some (.int (nI b)), some (.int ((J 208 (e + 7)).toInt32)), some (.int (nI m)), some (.int (nI p)), none, none, none] [.int (nI 7), .ref 207, .int (nI m)] (n, I, J, R) 0 0
        refine q_ial (m := 7) rfl (⟨by decide, Nat.lt_of_lt_of_le (by decide) hK.1, rfl⟩) (by decide) (rfl) ?_
        refine q_top (w := nI w) (hw) ?_
        refine q_one rfl rfl ?_
        show ((nI w) ≤ (nI m) → q_W L (d + 5) 122 q_m122 Q 270 [some (.ref 192), some (.int (nI e)), some (.int (nI b)), some (.int ((J 208 (e + 7)).toInt32)), some (.int (nI m)), some (.int (nI p)), none, none, none] [] (n, I, J, R) 0 0) ∧ (¬ (nI w) ≤ (nI m) → q_W L (d + 5) 122 q_m122 Q 266 [some (.ref 192), some (.int (nI e)), some (.int (nI b)), some (.int ((J 208 (e + 7)).toInt32)), some (.int (nI m)), some (.int (nI p)), none, none, none] [] (n, I, J, R) 0 0)
        refine ⟨fun _ => ?_, fun z => absurd (nI_le (by omega) (by omega)) z⟩
        refine q_k 1 ?_
        show q_W L (d + 5) 122 q_m122 Q 271 [some (.ref 192), some (.int (nI e)), some (.int (nI b)), some (.int ((J 208 (e + 7)).toInt32)), some (.int (nI m)), some (.int (nI p)), none, none, none] [.int (nI 2)] (n, I, J, R) 0 0
        refine q_one rfl rfl ?_
        show Q (some (.int (nI 2))) (n, I, J, R)
        have hS : s_end m c w (g_tg (J 208) e (I 197 (2 * a + 1)) (I 197 (2 * b + 1))) (J 208 (e + 11)) tu (I 207) = (nI 2, I 207, I 207, tu) := by unfold s_end; rw [if_neg h211, if_neg (show ¬ m < w by omega), if_pos h8]
        rw [hS] at hQ
        exact hQ I (fun z => absurd (show nI 2 = nI 0 from z) (by decide)) (fun _ _ _ _ _ _ _ => rfl)
