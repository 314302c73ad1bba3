theorem m_toFront {L d n : Nat} {I : q_I} {J : q_L} {R : q_R} {Q : q_Q} {p k0 : Nat} (hK : q_K0 n I R) (hp : p < 16) (hk0 : k0 < 3) (hQ : ∀ I', I' 205 = f_rows p k0 (I 207) I 205 → (∀ x, x ≠ 205 → I' x = I x) → Q none (n, I', J, R)) : q_Ex L (d + 2) 102 [.ref 192, .int (nI p), .int (nI k0)] (n, I, J, R) Q := by
  refine q_in (x := q_m102) rfl rfl ?_
  show q_W L (d + 1) 102 q_m102 Q 0 [some (.ref 192), some (.int (nI p)), some (.int (nI k0)), none, none] [] (n, I, J, R) 0 0
  refine q_k 2 ?_
  show q_W L (d + 1) 102 q_m102 Q 2 [some (.ref 192), some (.int (nI p)), some (.int (nI k0)), some (.int (nI k0)), none] [] (n, I, J, R) 0 0
  refine q_loopD (σ := q_I) (fun q I2 => q ≤ k0 ∧ (∀ j, I2 205 j = if 158 * (3 * p + (q + 1)) ≤ j ∧ j < 158 * (3 * p + (k0 + 1)) then I 205 (j - 158) else I 205 j) ∧ ∀ x, x ≠ 205 → I2 x = I x) (fun q I2 => q_W L (d + 1) 102 q_m102 Q 2 [some (.ref 192), some (.int (nI p)), some (.int (nI k0)), some (.int (nI q)), none] [] (n, I2, J, R) 0 0) ?_ ?_ k0 I ?_
  · intro I2 hI2
    show q_W L (d + 1) 102 q_m102 Q 2 [some (.ref 192), some (.int (nI p)), some (.int (nI k0)), some (.int (nI 0)), none] [] (n, I2, J, R) 0 0
    refine q_k 1 ?_
    show q_W L (d + 1) 102 q_m102 Q 3 [some (.ref 192), some (.int (nI p)), some (.int (nI k0)), some (.int (nI 0)), none] [.int (nI 0)] (n, I2, J, R) 0 0
    refine q_one rfl rfl ?_
    show ((nI 0) ≤ 0 → q_W L (d + 1) 102 q_m102 Q 65 [some (.ref 192), some (.int (nI p)), some (.int (nI k0)), some (.int (nI 0)), none] [] (n, I2, J, R) 0 0) ∧ (¬ (nI 0) ≤ 0 → q_W L (d + 1) 102 q_m102 Q 6 [some (.ref 192), some (.int (nI p)), some (.int (nI k0)), some (.int (nI 0)), none] [] (n, I2, J, R) 0 0)
    refine ⟨fun _ => ?_, fun z => absurd (by decide) z⟩
    refine q_k 3 ?_
    show q_W L (d + 1) 102 q_m102 Q 68 [some (.ref 192), some (.int (nI p)), some (.int (nI k0)), some (.int (nI 0)), none] [.int (nI 0), .int (nI p), .ref 192] (n, I2, J, R) 0 0
    refine q_cv (as := [.int (nI p), .int (nI 0)]) (rs := []) rfl rfl rfl (⟨Nat.lt_of_lt_of_le (by decide) hK.1, rfl⟩) rfl rfl ?_
    refine m_save (q_K0_to hK (hI2.2.2 0 (by decide)) (hI2.2.2 1 (by decide))) (hp) (by decide) (fun I3 h3 g3 f3 => ?_)
    show q_W L (d + 1) 102 q_m102 Q 71 [some (.ref 192), some (.int (nI p)), some (.int (nI k0)), some (.int (nI 0)), none] [] (n, I3, J, R) 0 0
    refine q_one rfl rfl ?_
    show Q (none) (n, I3, J, R)
    refine hQ I3 (funext fun j => ?_) (fun x hx => ?_)
    · unfold f_rows
      rw [va_up_self]
      by_cases c1 : 474 * p ≤ j ∧ j < 474 * p + 158
      · rw [if_pos c1, ← hI2.2.2 207 (by decide), ← h3 (j - 474 * p) (by omega)]
        exact congrArg _ (by omega)
      · rw [if_neg c1, g3 j (by omega), hI2.2.1 j]
        by_cases c2 : 474 * p + 158 ≤ j ∧ j < 474 * p + 158 * (k0 + 1)
        · rw [if_pos c2, if_pos (by omega)]
        · rw [if_neg c2, if_neg (by omega)]
    · rw [f3 x hx]; exact hI2.2.2 x hx
  · intro q I2 hI2 ih
    show q_W L (d + 1) 102 q_m102 Q 2 [some (.ref 192), some (.int (nI p)), some (.int (nI k0)), some (.int (nI (q + 1))), none] [] (n, I2, J, R) 0 0
    refine q_k 1 ?_
    show q_W L (d + 1) 102 q_m102 Q 3 [some (.ref 192), some (.int (nI p)), some (.int (nI k0)), some (.int (nI (q + 1))), none] [.int (nI (q + 1))] (n, I2, J, R) 0 0
    refine q_one rfl rfl ?_
    show ((nI (q + 1)) ≤ 0 → q_W L (d + 1) 102 q_m102 Q 65 [some (.ref 192), some (.int (nI p)), some (.int (nI k0)), some (.int (nI (q + 1))), none] [] (n, I2, J, R) 0 0) ∧ (¬ (nI (q + 1)) ≤ 0 → q_W L (d + 1) 102 q_m102 Q 6 [some (.ref 192), some (.int (nI p)), some (.int (nI k0)), some (.int (nI (q + 1))), none] [] (n, I2, J, R) 0 0)
    refine ⟨fun z => absurd z (nI_nle (by omega) (by omega)), fun _ => ?_⟩
    refine q_k 2 ?_
    show q_W L (d + 1) 102 q_m102 Q 9 [some (.ref 192), some (.int (nI p)), some (.int (nI k0)), some (.int (nI (q + 1))), some (.int (nI 0))] [] (n, I2, J, R) 0 0
    refine q_loop (σ := q_I) 158 (fun k I3 => (∀ j, I3 205 j = if 158 * (3 * p + (q + 1)) ≤ j ∧ j < 158 * (3 * p + (q + 1)) + k then I 205 (j - 158) else I2 205 j) ∧ ∀ x, x ≠ 205 → I3 x = I x) (fun k I3 => q_W L (d + 1) 102 q_m102 Q 9 [some (.ref 192), some (.int (nI p)), some (.int (nI k0)), some (.int (nI (q + 1))), some (.int (nI k))] [] (n, I3, J, R) 0 0) ?_ ?_ 0 I2 (Nat.zero_le _) ?_
    · intro I3 hI3
      show q_W L (d + 1) 102 q_m102 Q 9 [some (.ref 192), some (.int (nI p)), some (.int (nI k0)), some (.int (nI (q + 1))), some (.int (nI 158))] [] (n, I3, J, R) 0 0
      refine q_k 2 ?_
      show q_W L (d + 1) 102 q_m102 Q 14 [some (.ref 192), some (.int (nI p)), some (.int (nI k0)), some (.int (nI (q + 1))), some (.int (nI 158))] [.int (nI 158), .int (nI 158)] (n, I3, J, R) 0 0
      refine q_one rfl rfl ?_
      show ((nI 158) ≤ (nI 158) → q_W L (d + 1) 102 q_m102 Q 59 [some (.ref 192), some (.int (nI p)), some (.int (nI k0)), some (.int (nI (q + 1))), some (.int (nI 158))] [] (n, I3, J, R) 0 0) ∧ (¬ (nI 158) ≤ (nI 158) → q_W L (d + 1) 102 q_m102 Q 17 [some (.ref 192), some (.int (nI p)), some (.int (nI k0)), some (.int (nI (q + 1))), some (.int (nI 158))] [] (n, I3, J, R) 0 0)
      refine ⟨fun _ => ?_, fun z => absurd (nI_le (Nat.le_refl _) (by decide)) z⟩
      refine q_k 1 ?_
      show q_W L (d + 1) 102 q_m102 Q 62 [some (.ref 192), some (.int (nI p)), some (.int (nI k0)), some (.int ((nI (q + 1)) + -1)), some (.int (nI 158))] [] (n, I3, J, R) 0 0
      rw [show (nI (q + 1)) + -1 = nI q from pk_m1 _]
      refine q_k 1 ?_
      show q_W L (d + 1) 102 q_m102 Q 2 [some (.ref 192), some (.int (nI p)), some (.int (nI k0)), some (.int (nI q)), some (.int (nI 158))] [] (n, I3, J, R) 0 0
      refine q_fg 4 ?_
      refine ih _ ⟨by omega, fun j => ?_, hI3.2⟩
      rw [hI3.1 j]
      by_cases c1 : 158 * (3 * p + (q + 1)) ≤ j ∧ j < 158 * (3 * p + (q + 1)) + 158
      · rw [if_pos c1, if_pos (by omega)]
      · rw [if_neg c1, hI2.2.1 j]
        by_cases c2 : 158 * (3 * p + (q + 1 + 1)) ≤ j ∧ j < 158 * (3 * p + (k0 + 1))
        · rw [if_pos c2, if_pos (by omega)]
        · rw [if_neg c2, if_neg (by omega)]
    · intro k I3 hk hI3 ih2
      show q_W L (d + 1) 102 q_m102 Q 9 [some (.ref 192), some (.int (nI p)), some (.int (nI k0)), some (.int (nI (q + 1))), some (.int (nI k))] [] (n, I3, J, R) 0 0
      refine q_k 2 ?_
      show q_W L (d + 1) 102 q_m102 Q 14 [some (.ref 192), some (.int (nI p)), some (.int (nI k0)), some (.int (nI (q + 1))), some (.int (nI k))] [.int (nI 158), .int (nI k)] (n, I3, J, R) 0 0
      refine q_one rfl rfl ?_
      show ((nI 158) ≤ (nI k) → q_W L (d + 1) 102 q_m102 Q 59 [some (.ref 192), some (.int (nI p)), some (.int (nI k0)), some (.int (nI (q + 1))), some (.int (nI k))] [] (n, I3, J, R) 0 0) ∧ (¬ (nI 158) ≤ (nI k) → q_W L (d + 1) 102 q_m102 Q 17 [some (.ref 192), some (.int (nI p)), some (.int (nI k0)), some (.int (nI (q + 1))), some (.int (nI k))] [] (n, I3, J, R) 0 0)
      refine ⟨fun z => absurd z (nI_ge hk (by decide)), fun _ => ?_⟩
      refine q_k 1 ?_
      show q_W L (d + 1) 102 q_m102 Q 18 [some (.ref 192), some (.int (nI p)), some (.int (nI k0)), some (.int (nI (q + 1))), some (.int (nI k))] [.ref 192] (n, I3, J, R) 0 0
      refine q_gR (b := 205) rfl rfl (⟨Nat.lt_of_lt_of_le (by decide) hK.1, rfl⟩) (hK.2.1 192 12 205 rfl) ?_
      refine q_k 4 ?_
      show q_W L (d + 1) 102 q_m102 Q 27 [some (.ref 192), some (.int (nI p)), some (.int (nI k0)), some (.int (nI (q + 1))), some (.int (nI k))] [.int ((nI 3) * (nI p)), .int (nI 158), .ref 205] (n, I3, J, R) 0 0
      refine q_top (w := nI (3 * p)) (pk_mul _ _) ?_
      refine q_k 2 ?_
      show q_W L (d + 1) 102 q_m102 Q 29 [some (.ref 192), some (.int (nI p)), some (.int (nI k0)), some (.int (nI (q + 1))), some (.int (nI k))] [.int ((nI (3 * p)) + (nI (q + 1))), .int (nI 158), .ref 205] (n, I3, J, R) 0 0
      refine q_top (w := nI (3 * p + (q + 1))) (nI_add _ _) ?_
      refine q_k 1 ?_
      show q_W L (d + 1) 102 q_m102 Q 30 [some (.ref 192), some (.int (nI p)), some (.int (nI k0)), some (.int (nI (q + 1))), some (.int (nI k))] [.int ((nI 158) * (nI (3 * p + (q + 1)))), .ref 205] (n, I3, J, R) 0 0
      refine q_top (w := nI (158 * (3 * p + (q + 1)))) (pk_mul _ _) ?_
      refine q_k 2 ?_
      show q_W L (d + 1) 102 q_m102 Q 33 [some (.ref 192), some (.int (nI p)), some (.int (nI k0)), some (.int (nI (q + 1))), some (.int (nI k))] [.int ((nI (158 * (3 * p + (q + 1)))) + (nI k)), .ref 205] (n, I3, J, R) 0 0
      refine q_top (w := nI (158 * (3 * p + (q + 1)) + k)) (nI_add _ _) ?_
      refine q_k 1 ?_
      show q_W L (d + 1) 102 q_m102 Q 34 [some (.ref 192), some (.int (nI p)), some (.int (nI k0)), some (.int (nI (q + 1))), some (.int (nI k))] [.ref 192, .int (nI (158 * (3 * p + (q + 1)) + k)), .ref 205] (n, I3, J, R) 0 0
      refine q_gR (b := 205) rfl rfl (⟨Nat.lt_of_lt_of_le (by decide) hK.1, rfl⟩) (hK.2.1 192 12 205 rfl) ?_
      refine q_k 4 ?_
      show q_W L (d + 1) 102 q_m102 Q 43 [some (.ref 192), some (.int (nI p)), some (.int (nI k0)), some (.int (nI (q + 1))), some (.int (nI k))] [.int ((nI 3) * (nI p)), .int (nI 158), .ref 205, .int (nI (158 * (3 * p + (q + 1)) + k)), .ref 205] (n, I3, J, R) 0 0
      refine q_top (w := nI (3 * p)) (pk_mul _ _) ?_
      refine q_k 2 ?_
      show q_W L (d + 1) 102 q_m102 Q 45 [some (.ref 192), some (.int (nI p)), some (.int (nI k0)), some (.int (nI (q + 1))), some (.int (nI k))] [.int ((nI (3 * p)) + (nI (q + 1))), .int (nI 158), .ref 205, .int (nI (158 * (3 * p + (q + 1)) + k)), .ref 205] (n, I3, J, R) 0 0
      refine q_top (w := nI (3 * p + (q + 1))) (nI_add _ _) ?_
      refine q_k 2 ?_
      show q_W L (d + 1) 102 q_m102 Q 47 [some (.ref 192), some (.int (nI p)), some (.int (nI k0)), some (.int (nI (q + 1))), some (.int (nI k))] [.int ((nI (3 * p + (q + 1))) - (nI 1)), .int (nI 158), .ref 205, .int (nI (158 * (3 * p + (q + 1)) + k)), .ref 205] (n, I3, J, R) 0 0
      refine q_top (w := nI (3 * p + q)) (q_sub (by omega)) ?_
      refine q_k 1 ?_
      show q_W L (d + 1) 102 q_m102 Q 48 [some (.ref 192), some (.int (nI p)), some (.int (nI k0)), some (.int (nI (q + 1))), some (.int (nI k))] [.int ((nI 158) * (nI (3 * p + q))), .ref 205, .int (nI (158 * (3 * p + (q + 1)) + k)), .ref 205] (n, I3, J, R) 0 0
      refine q_top (w := nI (158 * (3 * p + q))) (pk_mul _ _) ?_
      refine q_k 2 ?_
      show q_W L (d + 1) 102 q_m102 Q 51 [some (.ref 192), some (.int (nI p)), some (.int (nI k0)), some (.int (nI (q + 1))), some (.int (nI k))] [.int ((nI (158 * (3 * p + q))) + (nI k)), .ref 205, .int (nI (158 * (3 * p + (q + 1)) + k)), .ref 205] (n, I3, J, R) 0 0
      refine q_top (w := nI (158 * (3 * p + q) + k)) (nI_add _ _) ?_
      refine q_ial (m := 158 * (3 * p + q) + k) rfl (⟨by decide, Nat.lt_of_lt_of_le (by decide) hK.1, rfl⟩) (by omega) (rfl) ?_
      refine q_top (w := I 205 (158 * (3 * p + q) + k)) (by rw [hI3.1, if_neg (by omega), hI2.2.1, if_neg (by omega)]) ?_
      refine q_ias (m := 158 * (3 * p + (q + 1)) + k) rfl (⟨by decide, Nat.lt_of_lt_of_le (by decide) hK.1, rfl⟩) (by omega) (rfl) ?_
      refine q_k 1 ?_
      show q_W L (d + 1) 102 q_m102 Q 56 [some (.ref 192), some (.int (nI p)), some (.int (nI k0)), some (.int (nI (q + 1))), some (.int ((nI k) + nI 1))] [] (n, q_up I3 205 (158 * (3 * p + (q + 1)) + k) (I 205 (158 * (3 * p + q) + k)), J, R) 0 0
      rw [show (nI k) + nI 1 = nI (k + 1) from nI_add _ _]
      refine q_k 1 ?_
      show q_W L (d + 1) 102 q_m102 Q 9 [some (.ref 192), some (.int (nI p)), some (.int (nI k0)), some (.int (nI (q + 1))), some (.int (nI (k + 1)))] [] (n, q_up I3 205 (158 * (3 * p + (q + 1)) + k) (I 205 (158 * (3 * p + q) + k)), J, R) 0 0
      refine ih2 _ ⟨fun j => ?_, fun x hx => ?_⟩
      · by_cases e : j = 158 * (3 * p + (q + 1)) + k
        · subst e; rw [q_usk, if_pos (by omega)]; exact congrArg _ (by omega)
        · rw [q_usn e, hI3.1 j]
          by_cases c1 : 158 * (3 * p + (q + 1)) ≤ j ∧ j < 158 * (3 * p + (q + 1)) + k
          · rw [if_pos c1, if_pos (by omega)]
          · rw [if_neg c1, if_neg (by omega)]
      · rw [q_un hx]; exact hI3.2 x hx
    · exact ⟨fun j => by rw [if_neg (by omega)], fun x hx => hI2.2.2 x hx⟩
  · exact ⟨Nat.le_refl _, fun j => by rw [if_neg (by omega)], fun _ _ => rfl⟩
theorem m_comes {L d n : Nat} {I : q_I} {J : q_L} {R : q_R} {Q : q_Q} {p m : Nat} (hK : q_K0 n I R) (hp : p < 16) (hm : I 206 p = nI m) (hm3 : m ≤ 3) (hQ : ∀ I', I' 206 = va_up (I 206) p (nI (min m 2 + 1)) → I' 205 = f_rows p (min m 2) (I 207) I 205 → (∀ x, x ≠ 205 → x ≠ 206 → I' x = I x) → Q none (n, I', J, R)) : q_Ex L (d + 3) 103 [.ref 192, .int (nI p)] (n, I, J, R) Q := by
  refine q_in (x := q_m103) rfl rfl ?_
  show q_W L (d + 2) 103 q_m103 Q 0 [some (.ref 192), some (.int (nI p)), none] [] (n, I, J, R) 0 0
  refine q_k 1 ?_
  show q_W L (d + 2) 103 q_m103 Q 1 [some (.ref 192), some (.int (nI p)), none] [.ref 192] (n, I, J, R) 0 0
  refine q_gR (b := 206) rfl rfl (⟨Nat.lt_of_lt_of_le (by decide) hK.1, rfl⟩) (hK.2.1 192 13 206 rfl) ?_
  refine q_k 1 ?_
  show q_W L (d + 2) 103 q_m103 Q 5 [some (.ref 192), some (.int (nI p)), none] [.int (nI p), .ref 206] (n, I, J, R) 0 0
  refine q_ial (m := p) rfl (⟨by decide, Nat.lt_of_lt_of_le (by decide) hK.1, rfl⟩) (hp) (rfl) ?_
  refine q_top (w := nI m) (hm) ?_
  refine q_k 1 ?_
  show q_W L (d + 2) 103 q_m103 Q 7 [some (.ref 192), some (.int (nI p)), none] [.int (nI 3), .int (nI m)] (n, I, J, R) 0 0
  refine q_one rfl rfl ?_
  show ((nI 3) ≤ (nI m) → q_W L (d + 2) 103 q_m103 Q 19 [some (.ref 192), some (.int (nI p)), none] [] (n, I, J, R) 0 0) ∧ (¬ (nI 3) ≤ (nI m) → q_W L (d + 2) 103 q_m103 Q 10 [some (.ref 192), some (.int (nI p)), none] [] (n, I, J, R) 0 0)
  refine ⟨fun h7 => ?_, fun h7 => ?_⟩
  · skip
    have hm3 : m = 3 := by have := (nI_leI (by decide) (by omega)).mp h7; omega
    refine q_k 3 ?_
    show q_W L (d + 2) 103 q_m103 Q 22 [some (.ref 192), some (.int (nI p)), some (.int (nI 2))] [.ref 192] (n, I, J, R) 0 0
    refine q_gR (b := 206) rfl rfl (⟨Nat.lt_of_lt_of_le (by decide) hK.1, rfl⟩) (hK.2.1 192 13 206 rfl) ?_
    refine q_k 4 ?_
    show q_W L (d + 2) 103 q_m103 Q 29 [some (.ref 192), some (.int (nI p)), some (.int (nI 2))] [.int ((nI 2) + (nI 1)), .int (nI p), .ref 206] (n, I, J, R) 0 0
    refine q_top (w := nI 3) (nI_add _ _) ?_
    refine q_ias (m := p) rfl (⟨by decide, Nat.lt_of_lt_of_le (by decide) hK.1, rfl⟩) (hp) (rfl) ?_
    obtain ⟨I1, eI1⟩ : ∃ zz9, zz9 = q_up I 206 p (nI 3) := ⟨_, rfl⟩
    rw [← eI1]
    refine q_k 3 ?_
    show q_W L (d + 2) 103 q_m103 Q 33 [some (.ref 192), some (.int (nI p)), some (.int (nI 2))] [.int (nI 2), .int (nI p), .ref 192] (n, I1, J, R) 0 0
    refine q_cv (as := [.int (nI p), .int (nI 2)]) (rs := []) rfl rfl rfl (⟨Nat.lt_of_lt_of_le (by decide) hK.1, rfl⟩) rfl rfl ?_
    refine m_toFront (q_K0_to hK (by rw [eI1, q_un (by decide)]) (by rw [eI1, q_un (by decide)])) (hp) (by omega) (fun I2 h2 f2 => ?_)
    show q_W L (d + 2) 103 q_m103 Q 36 [some (.ref 192), some (.int (nI p)), some (.int (nI 2))] [] (n, I2, J, R) 0 0
    refine q_one rfl rfl ?_
    show Q (none) (n, I2, J, R)
    rw [show min m 2 = 2 by omega] at hQ
    refine hQ I2 ?_ ?_ (fun x h5 h6 => ?_)
    · rw [f2 206 (by decide), eI1, q_us]
    · rw [h2, eI1, q_un (by decide)]; unfold f_rows; rw [va_up_self, va_up_self, q_un (by decide)]
    · rw [f2 x h5, eI1, q_un h6]
  · skip
    have hm3 : m < 3 := by rcases Nat.lt_or_ge m 3 with h | h; exact h; exact absurd (nI_le h (by omega)) h7
    refine q_k 1 ?_
    show q_W L (d + 2) 103 q_m103 Q 11 [some (.ref 192), some (.int (nI p)), none] [.ref 192] (n, I, J, R) 0 0
    refine q_gR (b := 206) rfl rfl (⟨Nat.lt_of_lt_of_le (by decide) hK.1, rfl⟩) (hK.2.1 192 13 206 rfl) ?_
    refine q_k 1 ?_
    show q_W L (d + 2) 103 q_m103 Q 15 [some (.ref 192), some (.int (nI p)), none] [.int (nI p), .ref 206] (n, I, J, R) 0 0
    refine q_ial (m := p) rfl (⟨by decide, Nat.lt_of_lt_of_le (by decide) hK.1, rfl⟩) (hp) (rfl) ?_
    refine q_top (w := nI m) (hm) ?_
    refine q_k 3 ?_
    show q_W L (d + 2) 103 q_m103 Q 22 [some (.ref 192), some (.int (nI p)), some (.int (nI m))] [.ref 192] (n, I, J, R) 0 0
    refine q_gR (b := 206) rfl rfl (⟨Nat.lt_of_lt_of_le (by decide) hK.1, rfl⟩) (hK.2.1 192 13 206 rfl) ?_
    refine q_k 4 ?_
    show q_W L (d + 2) 103 q_m103 Q 29 [some (.ref 192), some (.int (nI p)), some (.int (nI m))] [.int ((nI m) + (nI 1)), .int (nI p), .ref 206] (n, I, J, R) 0 0
    refine q_top (w := nI (m + 1)) (nI_add _ _) ?_
    refine q_ias (m := p) rfl (⟨by decide, Nat.lt_of_lt_of_le (by decide) hK.1, rfl⟩) (hp) (rfl) ?_
    obtain ⟨I1, eI1⟩ : ∃ zz9, zz9 = q_up I 206 p (nI (m + 1)) := ⟨_, rfl⟩
    rw [← eI1]
    refine q_k 3 ?_
    show q_W L (d + 2) 103 q_m103 Q 33 [some (.ref 192), some (.int (nI p)), some (.int (nI m))] [.int (nI m), .int (nI p), .ref 192] (n, I1, J, R) 0 0
    refine q_cv (as := [.int (nI p), .int (nI m)]) (rs := []) rfl rfl rfl (⟨Nat.lt_of_lt_of_le (by decide) hK.1, rfl⟩) rfl rfl ?_
    refine m_toFront (q_K0_to hK (by rw [eI1, q_un (by decide)]) (by rw [eI1, q_un (by decide)])) (hp) (by omega) (fun I2 h2 f2 => ?_)
    show q_W L (d + 2) 103 q_m103 Q 36 [some (.ref 192), some (.int (nI p)), some (.int (nI m))] [] (n, I2, J, R) 0 0
    refine q_one rfl rfl ?_
    show Q (none) (n, I2, J, R)
    rw [show min m 2 = m by omega] at hQ
    refine hQ I2 ?_ ?_ (fun x h5 h6 => ?_)
    · rw [f2 206 (by decide), eI1, q_us]
    · rw [h2, eI1, q_un (by decide)]; unfold f_rows; rw [va_up_self, va_up_self, q_un (by decide)]
    · rw [f2 x h5, eI1, q_un h6]
theorem m_there {L d n : Nat} {I : q_I} {J : q_L} {R : q_R} {Q : q_Q} {e : Int32} (hK : q_K0 n I R) (hQ : Q (some (.int (g_th (I 192 16) e))) (n, I, J, R)) : q_Ex L (d + 1) 112 [.ref 192, .int e] (n, I, J, R) Q := by
  refine q_in (x := q_m112) rfl rfl ?_
  show q_W L d 112 q_m112 Q 0 [some (.ref 192), some (.int e)] [] (n, I, J, R) 0 0
  refine q_k 1 ?_
  show q_W L d 112 q_m112 Q 1 [some (.ref 192), some (.int e)] [.int e] (n, I, J, R) 0 0
  refine q_one rfl rfl ?_
  show (e < 0 → q_W L d 112 q_m112 Q 16 [some (.ref 192), some (.int e)] [] (n, I, J, R) 0 0) ∧ (¬ e < 0 → q_W L d 112 q_m112 Q 4 [some (.ref 192), some (.int e)] [] (n, I, J, R) 0 0)
  refine ⟨fun h1 => ?_, fun h1 => ?_⟩
  · skip
    refine q_k 1 ?_
    show q_W L d 112 q_m112 Q 17 [some (.ref 192), some (.int e)] [.int (nI 0)] (n, I, J, R) 0 0
    refine q_one rfl rfl ?_
    show q_bz (nI 0) ∧ Q (some (.int (nI 0))) (n, I, J, R)
    refine ⟨Or.inl rfl, ?_⟩
    simp only [g_th, if_pos h1] at hQ
    exact hQ
  · skip
    refine q_k 2 ?_
    show q_W L d 112 q_m112 Q 6 [some (.ref 192), some (.int e)] [.ref 192, .int e] (n, I, J, R) 0 0
    refine q_gI rfl rfl (⟨Nat.lt_of_lt_of_le (by decide) hK.1, rfl⟩) ?_
    refine q_one rfl rfl ?_
    show ((I 192 16) ≤ e → q_W L d 112 q_m112 Q 16 [some (.ref 192), some (.int e)] [] (n, I, J, R) 0 0) ∧ (¬ (I 192 16) ≤ e → q_W L d 112 q_m112 Q 12 [some (.ref 192), some (.int e)] [] (n, I, J, R) 0 0)
    refine ⟨fun h9 => ?_, fun h9 => ?_⟩
    · skip
      refine q_k 1 ?_
      show q_W L d 112 q_m112 Q 17 [some (.ref 192), some (.int e)] [.int (nI 0)] (n, I, J, R) 0 0
      refine q_one rfl rfl ?_
      show q_bz (nI 0) ∧ Q (some (.int (nI 0))) (n, I, J, R)
      refine ⟨Or.inl rfl, ?_⟩
      simp only [g_th, if_neg h1, if_pos h9] at hQ
      exact hQ
    · skip
      refine q_k 2 ?_
      show q_W L d 112 q_m112 Q 17 [some (.ref 192), some (.int e)] [.int (nI 1)] (n, I, J, R) 0 0
      refine q_one rfl rfl ?_
      show q_bz (nI 1) ∧ Q (some (.int (nI 1))) (n, I, J, R)
      refine ⟨Or.inr rfl, ?_⟩
      simp only [g_th, if_neg h1, if_neg h9] at hQ
      exact hQ
theorem m_within {L d n : Nat} {I : q_I} {J : q_L} {R : q_R} {Q : q_Q} {v lo hi : Int64} (hQ : Q (some (.int (g_wi v lo hi))) (n, I, J, R)) : q_Ex L (d + 1) 115 [.long v, .long lo, .long hi] (n, I, J, R) Q := by
  refine q_in (x := q_m115) rfl rfl ?_
  show q_W L d 115 q_m115 Q 0 [some (.long v), none, some (.long lo), none, some (.long hi), none] [] (n, I, J, R) 0 0
  refine q_k 3 ?_
  show q_W L d 115 q_m115 Q 3 [some (.long v), none, some (.long lo), none, some (.long hi), none] [.int (lg_cmp v lo)] (n, I, J, R) 0 0
  refine q_one rfl rfl ?_
  show ((lg_cmp v lo) < 0 → q_W L d 115 q_m115 Q 17 [some (.long v), none, some (.long lo), none, some (.long hi), none] [] (n, I, J, R) 0 0) ∧ (¬ (lg_cmp v lo) < 0 → q_W L d 115 q_m115 Q 6 [some (.long v), none, some (.long lo), none, some (.long hi), none] [] (n, I, J, R) 0 0)
  refine ⟨fun h3 => ?_, fun h3 => ?_⟩
  · skip
    rw [lg_cmp_lt] at h3
    refine q_k 1 ?_
    show q_W L d 115 q_m115 Q 18 [some (.long v), none, some (.long lo), none, some (.long hi), none] [.int (nI 0)] (n, I, J, R) 0 0
    refine q_one rfl rfl ?_
    show q_bz (nI 0) ∧ Q (some (.int (nI 0))) (n, I, J, R)
    refine ⟨Or.inl rfl, ?_⟩
    simp only [g_wi, if_pos h3] at hQ
    exact hQ
  · skip
    rw [lg_cmp_lt] at h3
    refine q_k 3 ?_
    show q_W L d 115 q_m115 Q 10 [some (.long v), none, some (.long lo), none, some (.long hi), none] [.int (lg_cmp v hi)] (n, I, J, R) 0 0
    refine q_one rfl rfl ?_
    show (0 < (lg_cmp v hi) → q_W L d 115 q_m115 Q 17 [some (.long v), none, some (.long lo), none, some (.long hi), none] [] (n, I, J, R) 0 0) ∧ (¬ 0 < (lg_cmp v hi) → q_W L d 115 q_m115 Q 13 [some (.long v), none, some (.long lo), none, some (.long hi), none] [] (n, I, J, R) 0 0)
    refine ⟨fun h10 => ?_, fun h10 => ?_⟩
    · skip
      rw [lg_cmp_gt] at h10
      refine q_k 1 ?_
      show q_W L d 115 q_m115 Q 18 [some (.long v), none, some (.long lo), none, some (.long hi), none] [.int (nI 0)] (n, I, J, R) 0 0
      refine q_one rfl rfl ?_
      show q_bz (nI 0) ∧ Q (some (.int (nI 0))) (n, I, J, R)
      refine ⟨Or.inl rfl, ?_⟩
      simp only [g_wi, if_neg h3, if_pos h10] at hQ
      exact hQ
    · skip
      rw [lg_cmp_gt] at h10
      refine q_k 2 ?_
      show q_W L d 115 q_m115 Q 18 [some (.long v), none, some (.long lo), none, some (.long hi), none] [.int (nI 1)] (n, I, J, R) 0 0
      refine q_one rfl rfl ?_
      show q_bz (nI 1) ∧ Q (some (.int (nI 1))) (n, I, J, R)
      refine ⟨Or.inr rfl, ?_⟩
      simp only [g_wi, if_neg h3, if_neg h10] at hQ
      exact hQ
theorem m_alter {L d n : Nat} {I : q_I} {J : q_L} {R : q_R} {Q : q_Q} {e w : Int32} {z : Int64} {E : Nat} (hK : q_K0 n I R) (hE : I 192 16 = nI E) (hE6 : E ≤ 60) (hQ : Q (some (.int (f_alter e w z I J).1)) (n, I, (f_alter e w z I J).2, R)) : q_Ex L (d + 2) 113 [.ref 192, .int e, .int w, .long z] (n, I, J, R) Q := by
  refine q_in (x := q_m113) rfl rfl ?_
  show q_W L (d + 1) 113 q_m113 Q 0 [some (.ref 192), some (.int e), some (.int w), some (.long z), none] [] (n, I, J, R) 0 0
  refine q_k 2 ?_
  show q_W L (d + 1) 113 q_m113 Q 2 [some (.ref 192), some (.int e), some (.int w), some (.long z), none] [.int e, .ref 192] (n, I, J, R) 0 0
  refine q_cv (as := [.int e]) (rs := []) rfl rfl rfl (⟨Nat.lt_of_lt_of_le (by decide) hK.1, rfl⟩) rfl rfl ?_
  refine m_there (hK) ?_
  show q_W L (d + 1) 113 q_m113 Q 5 [some (.ref 192), some (.int e), some (.int w), some (.long z), none] [.int (g_th (I 192 16) e)] (n, I, J, R) 0 0
  refine q_one rfl rfl ?_
  show ((g_th (I 192 16) e) = 0 → q_W L (d + 1) 113 q_m113 Q 18 [some (.ref 192), some (.int e), some (.int w), some (.long z), none] [] (n, I, J, R) 0 0) ∧ (¬ (g_th (I 192 16) e) = 0 → q_W L (d + 1) 113 q_m113 Q 8 [some (.ref 192), some (.int e), some (.int w), some (.long z), none] [] (n, I, J, R) 0 0)
  refine ⟨fun h5 => ?_, fun h5 => ?_⟩
  · skip
    refine q_k 1 ?_
    show q_W L (d + 1) 113 q_m113 Q 19 [some (.ref 192), some (.int e), some (.int w), some (.long z), none] [.int (nI 0)] (n, I, J, R) 0 0
    refine q_one rfl rfl ?_
    show q_bz (nI 0) ∧ Q (some (.int (nI 0))) (n, I, J, R)
    refine ⟨Or.inl rfl, ?_⟩
    simp only [f_alter, if_pos h5] at hQ
    exact hQ
  · skip
    obtain ⟨j, hj, rfl⟩ := g_th_1 hE hE6 h5
    refine q_k 1 ?_
    show q_W L (d + 1) 113 q_m113 Q 9 [some (.ref 192), some (.int (nI j)), some (.int w), some (.long z), none] [.int w] (n, I, J, R) 0 0
    refine q_one rfl rfl ?_
    show (w < 0 → q_W L (d + 1) 113 q_m113 Q 18 [some (.ref 192), some (.int (nI j)), some (.int w), some (.long z), none] [] (n, I, J, R) 0 0) ∧ (¬ w < 0 → q_W L (d + 1) 113 q_m113 Q 12 [some (.ref 192), some (.int (nI j)), some (.int w), some (.long z), none] [] (n, I, J, R) 0 0)
    refine ⟨fun h9 => ?_, fun h9 => ?_⟩
    · skip
      refine q_k 1 ?_
      show q_W L (d + 1) 113 q_m113 Q 19 [some (.ref 192), some (.int (nI j)), some (.int w), some (.long z), none] [.int (nI 0)] (n, I, J, R) 0 0
      refine q_one rfl rfl ?_
      show q_bz (nI 0) ∧ Q (some (.int (nI 0))) (n, I, J, R)
      refine ⟨Or.inl rfl, ?_⟩
      simp only [f_alter, if_neg h5, if_pos h9] at hQ
      exact hQ
    · skip
      refine q_k 2 ?_
      show q_W L (d + 1) 113 q_m113 Q 15 [some (.ref 192), some (.int (nI j)), some (.int w), some (.long z), none] [.int (nI 11), .int w] (n, I, J, R) 0 0
      refine q_one rfl rfl ?_
      show (w ≤ (nI 11) → q_W L (d + 1) 113 q_m113 Q 20 [some (.ref 192), some (.int (nI j)), some (.int w), some (.long z), none] [] (n, I, J, R) 0 0) ∧ (¬ w ≤ (nI 11) → q_W L (d + 1) 113 q_m113 Q 18 [some (.ref 192), some (.int (nI j)), some (.int w), some (.long z), none] [] (n, I, J, R) 0 0)
      refine ⟨fun h15 => ?_, fun h15 => ?_⟩
      · skip
        obtain ⟨i, hi, rfl⟩ := g_pl (by decide) h9 h15
        refine q_k 1 ?_
        show q_W L (d + 1) 113 q_m113 Q 21 [some (.ref 192), some (.int (nI j)), some (.int (nI i)), some (.long z), none] [.ref 192] (n, I, J, R) 0 0
        refine q_gR (b := 208) rfl rfl (⟨Nat.lt_of_lt_of_le (by decide) hK.1, rfl⟩) (hK.2.1 192 15 208 rfl) ?_
        refine q_k 3 ?_
        show q_W L (d + 1) 113 q_m113 Q 28 [some (.ref 192), some (.int (nI j)), some (.int (nI i)), some (.long z), none] [.int ((nI 12) * (nI j)), .ref 208] (n, I, J, R) 0 0
        refine q_top (w := nI (12 * j)) (pk_mul _ _) ?_
        refine q_k 2 ?_
        show q_W L (d + 1) 113 q_m113 Q 30 [some (.ref 192), some (.int (nI j)), some (.int (nI i)), some (.long z), none] [.int ((nI (12 * j)) + (nI i)), .ref 208] (n, I, J, R) 0 0
        refine q_top (w := nI (12 * j + i)) (nI_add _ _) ?_
        refine q_k 1 ?_
        show q_W L (d + 1) 113 q_m113 Q 31 [some (.ref 192), some (.int (nI j)), some (.int (nI i)), some (.long z), none] [.int (nI (12 * j + i)), .ref 208, .int (nI (12 * j + i)), .ref 208] (n, I, J, R) 0 0
        refine q_lal (m := 12 * j + i) rfl (⟨by decide, Nat.lt_of_lt_of_le (by decide) hK.1, rfl⟩) (by omega) (rfl) ?_
        refine q_k 2 ?_
        show q_W L (d + 1) 113 q_m113 Q 34 [some (.ref 192), some (.int (nI j)), some (.int (nI i)), some (.long z), none] [.long ((J 208 (12 * j + i)) ^^^ z), .int (nI (12 * j + i)), .ref 208] (n, I, J, R) 0 0
        refine q_las (m := 12 * j + i) rfl (⟨by decide, Nat.lt_of_lt_of_le (by decide) hK.1, rfl⟩) (by omega) (rfl) ?_
        refine q_k 1 ?_
        show q_W L (d + 1) 113 q_m113 Q 36 [some (.ref 192), some (.int (nI j)), some (.int (nI i)), some (.long z), none] [.int (nI 1)] (n, I, q_up J 208 (12 * j + i) ((J 208 (12 * j + i)) ^^^ z), R) 0 0
        refine q_one rfl rfl ?_
        show q_bz (nI 1) ∧ Q (some (.int (nI 1))) (n, I, q_up J 208 (12 * j + i) ((J 208 (12 * j + i)) ^^^ z), R)
        refine ⟨Or.inr rfl, ?_⟩
        simp only [f_alter, if_neg h5, if_neg h9, if_pos h15, g_cl (show j < 10000 by omega), g_cl (show i < 10000 by omega)] at hQ
        exact hQ
      · skip
        refine q_k 1 ?_
        show q_W L (d + 1) 113 q_m113 Q 19 [some (.ref 192), some (.int (nI j)), some (.int w), some (.long z), none] [.int (nI 0)] (n, I, J, R) 0 0
        refine q_one rfl rfl ?_
        show q_bz (nI 0) ∧ Q (some (.int (nI 0))) (n, I, J, R)
        refine ⟨Or.inl rfl, ?_⟩
        simp only [f_alter, if_neg h5, if_neg h9, if_neg h15] at hQ
        exact hQ
theorem m_copy {L d n : Nat} {I : q_I} {J : q_L} {R : q_R} {Q : q_Q} {e : Int32} {E : Nat} (hK : q_K0 n I R) (hE : I 192 16 = nI E) (hE6 : E ≤ 60) (hQ : ∀ I', q_ms I' (f_copy e I J).2.1 → q_mf I' I → Q (some (.int (f_copy e I J).1)) (n, I', (f_copy e I J).2.2, R)) : q_Ex L (d + 2) 114 [.ref 192, .int e] (n, I, J, R) Q := by
  refine q_in (x := q_m114) rfl rfl ?_
  show q_W L (d + 1) 114 q_m114 Q 0 [some (.ref 192), some (.int e), none] [] (n, I, J, R) 0 0
  refine q_k 2 ?_
  show q_W L (d + 1) 114 q_m114 Q 2 [some (.ref 192), some (.int e), none] [.int e, .ref 192] (n, I, J, R) 0 0
  refine q_cv (as := [.int e]) (rs := []) rfl rfl rfl (⟨Nat.lt_of_lt_of_le (by decide) hK.1, rfl⟩) rfl rfl ?_
  refine m_there (hK) ?_
  show q_W L (d + 1) 114 q_m114 Q 5 [some (.ref 192), some (.int e), none] [.int (g_th (I 192 16) e)] (n, I, J, R) 0 0
  refine q_one rfl rfl ?_
  show ((g_th (I 192 16) e) = 0 → q_W L (d + 1) 114 q_m114 Q 17 [some (.ref 192), some (.int e), none] [] (n, I, J, R) 0 0) ∧ (¬ (g_th (I 192 16) e) = 0 → q_W L (d + 1) 114 q_m114 Q 8 [some (.ref 192), some (.int e), none] [] (n, I, J, R) 0 0)
  refine ⟨fun h5 => ?_, fun h5 => ?_⟩
  · skip
    refine q_k 1 ?_
    show q_W L (d + 1) 114 q_m114 Q 18 [some (.ref 192), some (.int e), none] [.int (-1)] (n, I, J, R) 0 0
    refine q_one rfl rfl ?_
    show Q (some (.int (-1))) (n, I, J, R)
    simp only [f_copy, if_pos h5] at hQ
    exact hQ I (q_ms_rf I) (q_mf_rf I)
  · skip
    obtain ⟨j, hj, rfl⟩ := g_th_1 hE hE6 h5
    refine q_k 1 ?_
    show q_W L (d + 1) 114 q_m114 Q 9 [some (.ref 192), some (.int (nI j)), none] [.ref 192] (n, I, J, R) 0 0
    refine q_gI rfl rfl (⟨Nat.lt_of_lt_of_le (by decide) hK.1, rfl⟩) ?_
    refine q_k 1 ?_
    show q_W L (d + 1) 114 q_m114 Q 14 [some (.ref 192), some (.int (nI j)), none] [.int (nI 60), .int (I 192 16)] (n, I, J, R) 0 0
    refine q_one rfl rfl ?_
    show (¬ (I 192 16) = (nI 60) → q_W L (d + 1) 114 q_m114 Q 19 [some (.ref 192), some (.int (nI j)), none] [] (n, I, J, R) 0 0) ∧ ((I 192 16) = (nI 60) → q_W L (d + 1) 114 q_m114 Q 17 [some (.ref 192), some (.int (nI j)), none] [] (n, I, J, R) 0 0)
    refine ⟨fun h14 => ?_, fun h14 => ?_⟩
    · skip
      have hE60 : E < 60 := by rcases Nat.lt_or_ge E 60 with h | h; exact h; exact absurd (show nI E = nI 60 by congr 1; omega) (hE ▸ h14)
      refine q_k 2 ?_
      show q_W L (d + 1) 114 q_m114 Q 21 [some (.ref 192), some (.int (nI j)), some (.int (nI 0))] [] (n, I, J, R) 0 0
      refine q_loop (σ := q_L) 12 (fun k J2 => (∀ i, J2 208 i = if 12 * E ≤ i ∧ i < 12 * E + k then J 208 (12 * j + (i - 12 * E)) else J 208 i) ∧ ∀ x, x ≠ 208 → J2 x = J x) (fun k J2 => q_W L (d + 1) 114 q_m114 Q 21 [some (.ref 192), some (.int (nI j)), some (.int (nI k))] [] (n, I, J2, R) 0 0) ?_ ?_ 0 J (Nat.zero_le _) ?_
      · intro J2 hJ2
        show q_W L (d + 1) 114 q_m114 Q 21 [some (.ref 192), some (.int (nI j)), some (.int (nI 12))] [] (n, I, J2, R) 0 0
        refine q_k 2 ?_
        show q_W L (d + 1) 114 q_m114 Q 24 [some (.ref 192), some (.int (nI j)), some (.int (nI 12))] [.int (nI 12), .int (nI 12)] (n, I, J2, R) 0 0
        refine q_one rfl rfl ?_
        show ((nI 12) ≤ (nI 12) → q_W L (d + 1) 114 q_m114 Q 58 [some (.ref 192), some (.int (nI j)), some (.int (nI 12))] [] (n, I, J2, R) 0 0) ∧ (¬ (nI 12) ≤ (nI 12) → q_W L (d + 1) 114 q_m114 Q 27 [some (.ref 192), some (.int (nI j)), some (.int (nI 12))] [] (n, I, J2, R) 0 0)
        refine ⟨fun _ => ?_, fun z => absurd (nI_le (Nat.le_refl _) (by decide)) z⟩
        refine q_k 2 ?_
        show q_W L (d + 1) 114 q_m114 Q 60 [some (.ref 192), some (.int (nI j)), some (.int (nI 12))] [.ref 192, .ref 192] (n, I, J2, R) 0 0
        refine q_gI rfl rfl (⟨Nat.lt_of_lt_of_le (by decide) hK.1, rfl⟩) ?_
        refine q_top (w := nI E) (hE) ?_
        refine q_k 2 ?_
        show q_W L (d + 1) 114 q_m114 Q 65 [some (.ref 192), some (.int (nI j)), some (.int (nI 12))] [.int ((nI E) + (nI 1)), .ref 192] (n, I, J2, R) 0 0
        refine q_top (w := nI (E + 1)) (nI_add _ _) ?_
        refine q_pI rfl rfl rfl (⟨Nat.lt_of_lt_of_le (by decide) hK.1, rfl⟩) ?_
        refine q_k 1 ?_
        show q_W L (d + 1) 114 q_m114 Q 69 [some (.ref 192), some (.int (nI j)), some (.int (nI 12))] [.ref 192] (n, q_up I 192 16 (nI (E + 1)), J2, R) 0 0
        refine q_gI rfl rfl (⟨Nat.lt_of_lt_of_le (by decide) hK.1, rfl⟩) ?_
        refine q_top (w := nI (E + 1)) (q_usk) ?_
        refine q_k 2 ?_
        show q_W L (d + 1) 114 q_m114 Q 74 [some (.ref 192), some (.int (nI j)), some (.int (nI 12))] [.int ((nI (E + 1)) - (nI 1))] (n, q_up I 192 16 (nI (E + 1)), J2, R) 0 0
        refine q_top (w := nI E) (q_sub rfl) ?_
        refine q_one rfl rfl ?_
        show Q (some (.int (nI E))) (n, q_up I 192 16 (nI (E + 1)), J2, R)
        simp only [f_copy, if_neg h5, if_neg h14, g_cl (show j < 10000 by omega)] at hQ
        rw [hE, g_cl (show E < 10000 by omega)] at hQ
        have eJ : J2 = va_up J 208 (fun i => if 12 * E ≤ i ∧ i < 12 * E + 12 then J 208 (12 * j + (i - 12 * E)) else J 208 i) := by
          funext x
          by_cases e : x = 208
          · subst e; rw [va_up_self]; funext i; exact hJ2.1 i
          · rw [va_up_ne _ _ e]; exact hJ2.2 x e
        rw [eJ]
        exact hQ _ (q_ms_rf _) (fun x hx => by rw [q_un (by omega)])
      · intro k J2 hk hJ2 ih
        show q_W L (d + 1) 114 q_m114 Q 21 [some (.ref 192), some (.int (nI j)), some (.int (nI k))] [] (n, I, J2, R) 0 0
        refine q_k 2 ?_
        show q_W L (d + 1) 114 q_m114 Q 24 [some (.ref 192), some (.int (nI j)), some (.int (nI k))] [.int (nI 12), .int (nI k)] (n, I, J2, R) 0 0
        refine q_one rfl rfl ?_
        show ((nI 12) ≤ (nI k) → q_W L (d + 1) 114 q_m114 Q 58 [some (.ref 192), some (.int (nI j)), some (.int (nI k))] [] (n, I, J2, R) 0 0) ∧ (¬ (nI 12) ≤ (nI k) → q_W L (d + 1) 114 q_m114 Q 27 [some (.ref 192), some (.int (nI j)), some (.int (nI k))] [] (n, I, J2, R) 0 0)
        refine ⟨fun z => absurd z (nI_ge hk (by decide)), fun _ => ?_⟩
        refine q_k 1 ?_
        show q_W L (d + 1) 114 q_m114 Q 28 [some (.ref 192), some (.int (nI j)), some (.int (nI k))] [.ref 192] (n, I, J2, R) 0 0
        refine q_gR (b := 208) rfl rfl (⟨Nat.lt_of_lt_of_le (by decide) hK.1, rfl⟩) (hK.2.1 192 15 208 rfl) ?_
        refine q_k 2 ?_
        show q_W L (d + 1) 114 q_m114 Q 34 [some (.ref 192), some (.int (nI j)), some (.int (nI k))] [.ref 192, .int (nI 12), .ref 208] (n, I, J2, R) 0 0
        refine q_gI rfl rfl (⟨Nat.lt_of_lt_of_le (by decide) hK.1, rfl⟩) ?_
        refine q_top (w := nI E) (hE) ?_
        refine q_k 1 ?_
        show q_W L (d + 1) 114 q_m114 Q 38 [some (.ref 192), some (.int (nI j)), some (.int (nI k))] [.int ((nI 12) * (nI E)), .ref 208] (n, I, J2, R) 0 0
        refine q_top (w := nI (12 * E)) (pk_mul _ _) ?_
        refine q_k 2 ?_
        show q_W L (d + 1) 114 q_m114 Q 40 [some (.ref 192), some (.int (nI j)), some (.int (nI k))] [.int ((nI (12 * E)) + (nI k)), .ref 208] (n, I, J2, R) 0 0
        refine q_top (w := nI (12 * E + k)) (nI_add _ _) ?_
        refine q_k 1 ?_
        show q_W L (d + 1) 114 q_m114 Q 41 [some (.ref 192), some (.int (nI j)), some (.int (nI k))] [.ref 192, .int (nI (12 * E + k)), .ref 208] (n, I, J2, R) 0 0
        refine q_gR (b := 208) rfl rfl (⟨Nat.lt_of_lt_of_le (by decide) hK.1, rfl⟩) (hK.2.1 192 15 208 rfl) ?_
        refine q_k 3 ?_
        show q_W L (d + 1) 114 q_m114 Q 48 [some (.ref 192), some (.int (nI j)), some (.int (nI k))] [.int ((nI 12) * (nI j)), .ref 208, .int (nI (12 * E + k)), .ref 208] (n, I, J2, R) 0 0
        refine q_top (w := nI (12 * j)) (pk_mul _ _) ?_
        refine q_k 2 ?_
        show q_W L (d + 1) 114 q_m114 Q 50 [some (.ref 192), some (.int (nI j)), some (.int (nI k))] [.int ((nI (12 * j)) + (nI k)), .ref 208, .int (nI (12 * E + k)), .ref 208] (n, I, J2, R) 0 0
        refine q_top (w := nI (12 * j + k)) (nI_add _ _) ?_
        refine q_lal (m := 12 * j + k) rfl (⟨by decide, Nat.lt_of_lt_of_le (by decide) hK.1, rfl⟩) (by omega) (rfl) ?_
        refine q_topL (w := J 208 (12 * j + k)) (by rw [hJ2.1, if_neg (by omega)]) ?_
        refine q_las (m := 12 * E + k) rfl (⟨by decide, Nat.lt_of_lt_of_le (by decide) hK.1, rfl⟩) (by omega) (rfl) ?_
        refine q_k 1 ?_
        show q_W L (d + 1) 114 q_m114 Q 55 [some (.ref 192), some (.int (nI j)), some (.int ((nI k) + nI 1))] [] (n, I, q_up J2 208 (12 * E + k) (J 208 (12 * j + k)), R) 0 0
        rw [show (nI k) + nI 1 = nI (k + 1) from nI_add _ _]
        refine q_k 1 ?_
        show q_W L (d + 1) 114 q_m114 Q 21 [some (.ref 192), some (.int (nI j)), some (.int (nI (k + 1)))] [] (n, I, q_up J2 208 (12 * E + k) (J 208 (12 * j + k)), R) 0 0
        refine ih _ ⟨fun i => ?_, fun x hx => ?_⟩
        · by_cases e : i = 12 * E + k
          · subst e; rw [q_usk, if_pos (by omega)]; exact congrArg _ (by omega)
          · rw [q_usn e, hJ2.1 i]
            by_cases c1 : 12 * E ≤ i ∧ i < 12 * E + k
            · rw [if_pos c1, if_pos (by omega)]
            · rw [if_neg c1, if_neg (by omega)]
        · rw [q_un hx]; exact hJ2.2 x hx
      · exact ⟨fun i => by rw [if_neg (by omega)], fun _ _ => rfl⟩
    · skip
      refine q_k 1 ?_
      show q_W L (d + 1) 114 q_m114 Q 18 [some (.ref 192), some (.int (nI j)), none] [.int (-1)] (n, I, J, R) 0 0
      refine q_one rfl rfl ?_
      show Q (some (.int (-1))) (n, I, J, R)
      simp only [f_copy, if_neg h5, if_pos h14] at hQ
      exact hQ I (q_ms_rf I) (q_mf_rf I)
theorem m_text {L d n : Nat} {I : q_I} {J : q_L} {R : q_R} {Q : q_Q} (hK : q_K0 n I R) (hQ : Q (some (.long (J 192 17))) (n, I, J, R)) : q_Ex L (d + 1) 126 [.ref 192] (n, I, J, R) Q := by
  refine q_in (x := q_m126) rfl rfl ?_
  show q_W L d 126 q_m126 Q 0 [some (.ref 192)] [] (n, I, J, R) 0 0
  refine q_k 1 ?_
  show q_W L d 126 q_m126 Q 1 [some (.ref 192)] [.ref 192] (n, I, J, R) 0 0
  refine q_gJ rfl rfl (⟨Nat.lt_of_lt_of_le (by decide) hK.1, rfl⟩) ?_
  refine q_one rfl rfl ?_
  show Q (some (.long (J 192 17))) (n, I, J, R)
  exact hQ
theorem m_envelope {L d n : Nat} {I : q_I} {J : q_L} {R : q_R} {Q : q_Q} {e w : Int32} {E : Nat} (hK : q_K0 n I R) (hE : I 192 16 = nI E) (hE6 : E ≤ 60) (hQ : Q (some (.long (g_env e w I J))) (n, I, J, R)) : q_Ex L (d + 2) 127 [.ref 192, .int e, .int w] (n, I, J, R) Q := by
  refine q_in (x := q_m127) rfl rfl ?_
  show q_W L (d + 1) 127 q_m127 Q 0 [some (.ref 192), some (.int e), some (.int w)] [] (n, I, J, R) 0 0
  refine q_k 2 ?_
  show q_W L (d + 1) 127 q_m127 Q 2 [some (.ref 192), some (.int e), some (.int w)] [.int e, .ref 192] (n, I, J, R) 0 0
  refine q_cv (as := [.int e]) (rs := []) rfl rfl rfl (⟨Nat.lt_of_lt_of_le (by decide) hK.1, rfl⟩) rfl rfl ?_
  refine m_there (hK) ?_
  show q_W L (d + 1) 127 q_m127 Q 5 [some (.ref 192), some (.int e), some (.int w)] [.int (g_th (I 192 16) e)] (n, I, J, R) 0 0
  refine q_one rfl rfl ?_
  show ((g_th (I 192 16) e) = 0 → q_W L (d + 1) 127 q_m127 Q 32 [some (.ref 192), some (.int e), some (.int w)] [] (n, I, J, R) 0 0) ∧ (¬ (g_th (I 192 16) e) = 0 → q_W L (d + 1) 127 q_m127 Q 8 [some (.ref 192), some (.int e), some (.int w)] [] (n, I, J, R) 0 0)
  refine ⟨fun h5 => ?_, fun h5 => ?_⟩
  · skip
    refine q_k 1 ?_
    show q_W L (d + 1) 127 q_m127 Q 35 [some (.ref 192), some (.int e), some (.int w)] [.long (-1)] (n, I, J, R) 0 0
    refine q_one rfl rfl ?_
    show Q (some (.long (-1))) (n, I, J, R)
    simp only [g_env, if_pos h5] at hQ
    exact hQ
  · skip
    obtain ⟨j, hj, rfl⟩ := g_th_1 hE hE6 h5
    refine q_k 1 ?_
    show q_W L (d + 1) 127 q_m127 Q 9 [some (.ref 192), some (.int (nI j)), some (.int w)] [.int w] (n, I, J, R) 0 0
    refine q_one rfl rfl ?_
    show (w < 0 → q_W L (d + 1) 127 q_m127 Q 32 [some (.ref 192), some (.int (nI j)), some (.int w)] [] (n, I, J, R) 0 0) ∧ (¬ w < 0 → q_W L (d + 1) 127 q_m127 Q 12 [some (.ref 192), some (.int (nI j)), some (.int w)] [] (n, I, J, R) 0 0)
    refine ⟨fun h9 => ?_, fun h9 => ?_⟩
    · skip
      refine q_k 1 ?_
      show q_W L (d + 1) 127 q_m127 Q 35 [some (.ref 192), some (.int (nI j)), some (.int w)] [.long (-1)] (n, I, J, R) 0 0
      refine q_one rfl rfl ?_
      show Q (some (.long (-1))) (n, I, J, R)
      simp only [g_env, if_neg h5, if_pos h9] at hQ
      exact hQ
    · skip
      refine q_k 2 ?_
      show q_W L (d + 1) 127 q_m127 Q 15 [some (.ref 192), some (.int (nI j)), some (.int w)] [.int (nI 11), .int w] (n, I, J, R) 0 0
      refine q_one rfl rfl ?_
      show ((nI 11) < w → q_W L (d + 1) 127 q_m127 Q 32 [some (.ref 192), some (.int (nI j)), some (.int w)] [] (n, I, J, R) 0 0) ∧ (¬ (nI 11) < w → q_W L (d + 1) 127 q_m127 Q 18 [some (.ref 192), some (.int (nI j)), some (.int w)] [] (n, I, J, R) 0 0)
      refine ⟨fun h15 => ?_, fun h15 => ?_⟩
      · skip
        refine q_k 1 ?_
        show q_W L (d + 1) 127 q_m127 Q 35 [some (.ref 192), some (.int (nI j)), some (.int w)] [.long (-1)] (n, I, J, R) 0 0
        refine q_one rfl rfl ?_
        show Q (some (.long (-1))) (n, I, J, R)
        simp only [g_env, if_neg h5, if_neg h9, if_pos h15] at hQ
        exact hQ
      · skip
        obtain ⟨i, hi, rfl⟩ := g_pl (N := 11) (by decide) h9 (k2_le h15)
        refine q_k 1 ?_
        show q_W L (d + 1) 127 q_m127 Q 19 [some (.ref 192), some (.int (nI j)), some (.int (nI i))] [.ref 192] (n, I, J, R) 0 0
        refine q_gR (b := 208) rfl rfl (⟨Nat.lt_of_lt_of_le (by decide) hK.1, rfl⟩) (hK.2.1 192 15 208 rfl) ?_
        refine q_k 3 ?_
        show q_W L (d + 1) 127 q_m127 Q 26 [some (.ref 192), some (.int (nI j)), some (.int (nI i))] [.int ((nI 12) * (nI j)), .ref 208] (n, I, J, R) 0 0
        refine q_top (w := nI (12 * j)) (pk_mul _ _) ?_
        refine q_k 2 ?_
        show q_W L (d + 1) 127 q_m127 Q 28 [some (.ref 192), some (.int (nI j)), some (.int (nI i))] [.int ((nI (12 * j)) + (nI i)), .ref 208] (n, I, J, R) 0 0
        refine q_top (w := nI (12 * j + i)) (nI_add _ _) ?_
        refine q_lal (m := 12 * j + i) rfl (⟨by decide, Nat.lt_of_lt_of_le (by decide) hK.1, rfl⟩) (by omega) (rfl) ?_
        refine q_k 1 ?_
        show q_W L (d + 1) 127 q_m127 Q 35 [some (.ref 192), some (.int (nI j)), some (.int (nI i))] [.long (J 208 (12 * j + i))] (n, I, J, R) 0 0
        refine q_one rfl rfl ?_
        show Q (some (.long (J 208 (12 * j + i)))) (n, I, J, R)
        simp only [g_env, if_neg h5, if_neg h9, if_neg h15, g_cl (show j < 10000 by omega), g_cl (show i < 10000 by omega)] at hQ
        exact hQ
theorem m_user {L d n : Nat} {I : q_I} {J : q_L} {R : q_R} {Q : q_Q} {u w : Int32} (hK : q_K0 n I R) (hQ : Q (some (.int (g_user u w I))) (n, I, J, R)) : q_Ex L (d + 2) 128 [.ref 192, .int u, .int w] (n, I, J, R) Q := by
  refine q_in (x := q_m128) rfl rfl ?_
  show q_W L (d + 1) 128 q_m128 Q 0 [some (.ref 192), some (.int u), some (.int w)] [] (n, I, J, R) 0 0
  refine q_k 2 ?_
  show q_W L (d + 1) 128 q_m128 Q 2 [some (.ref 192), some (.int u), some (.int w)] [.int u, .ref 192] (n, I, J, R) 0 0
  refine q_cv (as := [.int u]) (rs := []) rfl rfl rfl (⟨Nat.lt_of_lt_of_le (by decide) hK.1, rfl⟩) rfl rfl ?_
  refine m_known (hK) ?_
  show q_W L (d + 1) 128 q_m128 Q 5 [some (.ref 192), some (.int u), some (.int w)] [.int (g_kn (I 193) u)] (n, I, J, R) 0 0
  refine q_one rfl rfl ?_
  show ((g_kn (I 193) u) = 0 → q_W L (d + 1) 128 q_m128 Q 18 [some (.ref 192), some (.int u), some (.int w)] [] (n, I, J, R) 0 0) ∧ (¬ (g_kn (I 193) u) = 0 → q_W L (d + 1) 128 q_m128 Q 8 [some (.ref 192), some (.int u), some (.int w)] [] (n, I, J, R) 0 0)
  refine ⟨fun h5 => ?_, fun h5 => ?_⟩
  · skip
    refine q_k 1 ?_
    show q_W L (d + 1) 128 q_m128 Q 19 [some (.ref 192), some (.int u), some (.int w)] [.int (-1)] (n, I, J, R) 0 0
    refine q_one rfl rfl ?_
    show Q (some (.int (-1))) (n, I, J, R)
    simp only [g_user, if_pos h5] at hQ
    exact hQ
  · skip
    obtain ⟨j, hj, rfl, hf, hk1⟩ := g_kn_1 h5
    refine q_k 1 ?_
    show q_W L (d + 1) 128 q_m128 Q 9 [some (.ref 192), some (.int (nI j)), some (.int w)] [.int w] (n, I, J, R) 0 0
    refine q_one rfl rfl ?_
    show (w < 0 → q_W L (d + 1) 128 q_m128 Q 18 [some (.ref 192), some (.int (nI j)), some (.int w)] [] (n, I, J, R) 0 0) ∧ (¬ w < 0 → q_W L (d + 1) 128 q_m128 Q 12 [some (.ref 192), some (.int (nI j)), some (.int w)] [] (n, I, J, R) 0 0)
    refine ⟨fun h9 => ?_, fun h9 => ?_⟩
    · skip
      refine q_k 1 ?_
      show q_W L (d + 1) 128 q_m128 Q 19 [some (.ref 192), some (.int (nI j)), some (.int w)] [.int (-1)] (n, I, J, R) 0 0
      refine q_one rfl rfl ?_
      show Q (some (.int (-1))) (n, I, J, R)
      simp only [g_user, if_neg h5, if_pos h9] at hQ
      exact hQ
    · skip
      refine q_k 2 ?_
      show q_W L (d + 1) 128 q_m128 Q 15 [some (.ref 192), some (.int (nI j)), some (.int w)] [.int (nI 9), .int w] (n, I, J, R) 0 0
      refine q_one rfl rfl ?_
      show (w ≤ (nI 9) → q_W L (d + 1) 128 q_m128 Q 20 [some (.ref 192), some (.int (nI j)), some (.int w)] [] (n, I, J, R) 0 0) ∧ (¬ w ≤ (nI 9) → q_W L (d + 1) 128 q_m128 Q 18 [some (.ref 192), some (.int (nI j)), some (.int w)] [] (n, I, J, R) 0 0)
      refine ⟨fun h15 => ?_, fun h15 => ?_⟩
      · skip
        obtain ⟨i, hi, rfl⟩ := g_pl (by decide) h9 h15
        simp only [g_user, if_neg h5, if_neg h9, if_pos h15, g_cl (show j < 10000 by omega), g_cl (show i < 10000 by omega)] at hQ
        have hc : i = 0 ∨ i = 1 ∨ i = 2 ∨ i = 3 ∨ i = 4 ∨ i = 5 ∨ i = 6 ∨ i = 7 ∨ i = 8 ∨ i = 9 := by omega
        rcases hc with rfl | rfl | rfl | rfl | rfl | rfl | rfl | rfl | rfl | rfl
        · skip
          refine q_k 2 ?_
          show q_W L (d + 1) 128 q_m128 Q 22 [some (.ref 192), some (.int (nI j)), some (.int (nI 0))] [.int (nI 3), .int (nI 0)] (n, I, J, R) 0 0
          refine q_one rfl rfl ?_
          show ((nI 3) ≤ (nI 0) → q_W L (d + 1) 128 q_m128 Q 71 [some (.ref 192), some (.int (nI j)), some (.int (nI 0))] [] (n, I, J, R) 0 0) ∧ (¬ (nI 3) ≤ (nI 0) → q_W L (d + 1) 128 q_m128 Q 25 [some (.ref 192), some (.int (nI j)), some (.int (nI 0))] [] (n, I, J, R) 0 0)
          refine ⟨fun z => absurd z (by decide), fun _ => ?_⟩
          refine q_k 1 ?_
          show q_W L (d + 1) 128 q_m128 Q 26 [some (.ref 192), some (.int (nI j)), some (.int (nI 0))] [.int (nI 0)] (n, I, J, R) 0 0
          refine q_one rfl rfl ?_
          show (¬ (nI 0) = 0 → q_W L (d + 1) 128 q_m128 Q 42 [some (.ref 192), some (.int (nI j)), some (.int (nI 0))] [] (n, I, J, R) 0 0) ∧ ((nI 0) = 0 → q_W L (d + 1) 128 q_m128 Q 29 [some (.ref 192), some (.int (nI j)), some (.int (nI 0))] [] (n, I, J, R) 0 0)
          refine ⟨fun z => absurd (by decide) z, fun _ => ?_⟩
          refine q_k 1 ?_
          show q_W L (d + 1) 128 q_m128 Q 30 [some (.ref 192), some (.int (nI j)), some (.int (nI 0))] [.ref 192] (n, I, J, R) 0 0
          refine q_gR (b := 197) rfl rfl (⟨Nat.lt_of_lt_of_le (by decide) hK.1, rfl⟩) (hK.2.1 192 4 197 rfl) ?_
          refine q_k 3 ?_
          show q_W L (d + 1) 128 q_m128 Q 36 [some (.ref 192), some (.int (nI j)), some (.int (nI 0))] [.int ((nI 2) * (nI j)), .ref 197] (n, I, J, R) 0 0
          refine q_top (w := nI (2 * j)) (pk_mul _ _) ?_
          refine q_k 2 ?_
          show q_W L (d + 1) 128 q_m128 Q 38 [some (.ref 192), some (.int (nI j)), some (.int (nI 0))] [.int ((nI (2 * j)) + (nI 1)), .ref 197] (n, I, J, R) 0 0
          refine q_top (w := nI (2 * j + 1)) (nI_add _ _) ?_
          refine q_ial (m := 2 * j + 1) rfl (⟨by decide, Nat.lt_of_lt_of_le (by decide) hK.1, rfl⟩) (by omega) (rfl) ?_
          refine q_k 1 ?_
          show q_W L (d + 1) 128 q_m128 Q 70 [some (.ref 192), some (.int (nI j)), some (.int (nI 0))] [.int (I 197 (2 * j + 1))] (n, I, J, R) 0 0
          refine q_one rfl rfl ?_
          show Q (some (.int (I 197 (2 * j + 1)))) (n, I, J, R)
          exact hQ
        · skip
          refine q_k 2 ?_
          show q_W L (d + 1) 128 q_m128 Q 22 [some (.ref 192), some (.int (nI j)), some (.int (nI 1))] [.int (nI 3), .int (nI 1)] (n, I, J, R) 0 0
          refine q_one rfl rfl ?_
          show ((nI 3) ≤ (nI 1) → q_W L (d + 1) 128 q_m128 Q 71 [some (.ref 192), some (.int (nI j)), some (.int (nI 1))] [] (n, I, J, R) 0 0) ∧ (¬ (nI 3) ≤ (nI 1) → q_W L (d + 1) 128 q_m128 Q 25 [some (.ref 192), some (.int (nI j)), some (.int (nI 1))] [] (n, I, J, R) 0 0)
          refine ⟨fun z => absurd z (by decide), fun _ => ?_⟩
          refine q_k 1 ?_
          show q_W L (d + 1) 128 q_m128 Q 26 [some (.ref 192), some (.int (nI j)), some (.int (nI 1))] [.int (nI 1)] (n, I, J, R) 0 0
          refine q_one rfl rfl ?_
          show (¬ (nI 1) = 0 → q_W L (d + 1) 128 q_m128 Q 42 [some (.ref 192), some (.int (nI j)), some (.int (nI 1))] [] (n, I, J, R) 0 0) ∧ ((nI 1) = 0 → q_W L (d + 1) 128 q_m128 Q 29 [some (.ref 192), some (.int (nI j)), some (.int (nI 1))] [] (n, I, J, R) 0 0)
          refine ⟨fun _ => ?_, fun z => absurd z (by decide)⟩
          refine q_k 2 ?_
          show q_W L (d + 1) 128 q_m128 Q 44 [some (.ref 192), some (.int (nI j)), some (.int (nI 1))] [.int (nI 1), .int (nI 1)] (n, I, J, R) 0 0
          refine q_one rfl rfl ?_
          show (¬ (nI 1) = (nI 1) → q_W L (d + 1) 128 q_m128 Q 60 [some (.ref 192), some (.int (nI j)), some (.int (nI 1))] [] (n, I, J, R) 0 0) ∧ ((nI 1) = (nI 1) → q_W L (d + 1) 128 q_m128 Q 47 [some (.ref 192), some (.int (nI j)), some (.int (nI 1))] [] (n, I, J, R) 0 0)
          refine ⟨fun z => absurd (by decide) z, fun _ => ?_⟩
          refine q_k 1 ?_
          show q_W L (d + 1) 128 q_m128 Q 48 [some (.ref 192), some (.int (nI j)), some (.int (nI 1))] [.ref 192] (n, I, J, R) 0 0
          refine q_gR (b := 198) rfl rfl (⟨Nat.lt_of_lt_of_le (by decide) hK.1, rfl⟩) (hK.2.1 192 5 198 rfl) ?_
          refine q_k 3 ?_
          show q_W L (d + 1) 128 q_m128 Q 54 [some (.ref 192), some (.int (nI j)), some (.int (nI 1))] [.int ((nI 2) * (nI j)), .ref 198] (n, I, J, R) 0 0
          refine q_top (w := nI (2 * j)) (pk_mul _ _) ?_
          refine q_k 2 ?_
          show q_W L (d + 1) 128 q_m128 Q 56 [some (.ref 192), some (.int (nI j)), some (.int (nI 1))] [.int ((nI (2 * j)) + (nI 1)), .ref 198] (n, I, J, R) 0 0
          refine q_top (w := nI (2 * j + 1)) (nI_add _ _) ?_
          refine q_ial (m := 2 * j + 1) rfl (⟨by decide, Nat.lt_of_lt_of_le (by decide) hK.1, rfl⟩) (by omega) (rfl) ?_
          refine q_k 1 ?_
          show q_W L (d + 1) 128 q_m128 Q 70 [some (.ref 192), some (.int (nI j)), some (.int (nI 1))] [.int (I 198 (2 * j + 1))] (n, I, J, R) 0 0
          refine q_one rfl rfl ?_
          show Q (some (.int (I 198 (2 * j + 1)))) (n, I, J, R)
          exact hQ
        · skip
          refine q_k 2 ?_
          show q_W L (d + 1) 128 q_m128 Q 22 [some (.ref 192), some (.int (nI j)), some (.int (nI 2))] [.int (nI 3), .int (nI 2)] (n, I, J, R) 0 0
          refine q_one rfl rfl ?_
          show ((nI 3) ≤ (nI 2) → q_W L (d + 1) 128 q_m128 Q 71 [some (.ref 192), some (.int (nI j)), some (.int (nI 2))] [] (n, I, J, R) 0 0) ∧ (¬ (nI 3) ≤ (nI 2) → q_W L (d + 1) 128 q_m128 Q 25 [some (.ref 192), some (.int (nI j)), some (.int (nI 2))] [] (n, I, J, R) 0 0)
          refine ⟨fun z => absurd z (by decide), fun _ => ?_⟩
          refine q_k 1 ?_
          show q_W L (d + 1) 128 q_m128 Q 26 [some (.ref 192), some (.int (nI j)), some (.int (nI 2))] [.int (nI 2)] (n, I, J, R) 0 0
          refine q_one rfl rfl ?_
          show (¬ (nI 2) = 0 → q_W L (d + 1) 128 q_m128 Q 42 [some (.ref 192), some (.int (nI j)), some (.int (nI 2))] [] (n, I, J, R) 0 0) ∧ ((nI 2) = 0 → q_W L (d + 1) 128 q_m128 Q 29 [some (.ref 192), some (.int (nI j)), some (.int (nI 2))] [] (n, I, J, R) 0 0)
          refine ⟨fun _ => ?_, fun z => absurd z (by decide)⟩
          refine q_k 2 ?_
          show q_W L (d + 1) 128 q_m128 Q 44 [some (.ref 192), some (.int (nI j)), some (.int (nI 2))] [.int (nI 1), .int (nI 2)] (n, I, J, R) 0 0
          refine q_one rfl rfl ?_
          show (¬ (nI 2) = (nI 1) → q_W L (d + 1) 128 q_m128 Q 60 [some (.ref 192), some (.int (nI j)), some (.int (nI 2))] [] (n, I, J, R) 0 0) ∧ ((nI 2) = (nI 1) → q_W L (d + 1) 128 q_m128 Q 47 [some (.ref 192), some (.int (nI j)), some (.int (nI 2))] [] (n, I, J, R) 0 0)
          refine ⟨fun _ => ?_, fun z => absurd z (by decide)⟩
          refine q_k 1 ?_
          show q_W L (d + 1) 128 q_m128 Q 61 [some (.ref 192), some (.int (nI j)), some (.int (nI 2))] [.ref 192] (n, I, J, R) 0 0
          refine q_gR (b := 199) rfl rfl (⟨Nat.lt_of_lt_of_le (by decide) hK.1, rfl⟩) (hK.2.1 192 6 199 rfl) ?_
          refine q_k 3 ?_
          show q_W L (d + 1) 128 q_m128 Q 67 [some (.ref 192), some (.int (nI j)), some (.int (nI 2))] [.int ((nI 2) * (nI j)), .ref 199] (n, I, J, R) 0 0
          refine q_top (w := nI (2 * j)) (pk_mul _ _) ?_
          refine q_k 2 ?_
          show q_W L (d + 1) 128 q_m128 Q 69 [some (.ref 192), some (.int (nI j)), some (.int (nI 2))] [.int ((nI (2 * j)) + (nI 1)), .ref 199] (n, I, J, R) 0 0
          refine q_top (w := nI (2 * j + 1)) (nI_add _ _) ?_
          refine q_ial (m := 2 * j + 1) rfl (⟨by decide, Nat.lt_of_lt_of_le (by decide) hK.1, rfl⟩) (by omega) (rfl) ?_
          refine q_one rfl rfl ?_
          show Q (some (.int (I 199 (2 * j + 1)))) (n, I, J, R)
          exact hQ
        · skip
          refine q_k 2 ?_
          show q_W L (d + 1) 128 q_m128 Q 22 [some (.ref 192), some (.int (nI j)), some (.int (nI 3))] [.int (nI 3), .int (nI 3)] (n, I, J, R) 0 0
          refine q_one rfl rfl ?_
          show ((nI 3) ≤ (nI 3) → q_W L (d + 1) 128 q_m128 Q 71 [some (.ref 192), some (.int (nI j)), some (.int (nI 3))] [] (n, I, J, R) 0 0) ∧ (¬ (nI 3) ≤ (nI 3) → q_W L (d + 1) 128 q_m128 Q 25 [some (.ref 192), some (.int (nI j)), some (.int (nI 3))] [] (n, I, J, R) 0 0)
          refine ⟨fun _ => ?_, fun z => absurd (by decide) z⟩
          refine q_k 2 ?_
          show q_W L (d + 1) 128 q_m128 Q 74 [some (.ref 192), some (.int (nI j)), some (.int (nI 3))] [.int (nI 6), .int (nI 3)] (n, I, J, R) 0 0
          refine q_one rfl rfl ?_
          show ((nI 6) ≤ (nI 3) → q_W L (d + 1) 128 q_m128 Q 112 [some (.ref 192), some (.int (nI j)), some (.int (nI 3))] [] (n, I, J, R) 0 0) ∧ (¬ (nI 6) ≤ (nI 3) → q_W L (d + 1) 128 q_m128 Q 77 [some (.ref 192), some (.int (nI j)), some (.int (nI 3))] [] (n, I, J, R) 0 0)
          refine ⟨fun z => absurd z (by decide), fun _ => ?_⟩
          refine q_k 2 ?_
          show q_W L (d + 1) 128 q_m128 Q 79 [some (.ref 192), some (.int (nI j)), some (.int (nI 3))] [.int (nI 3), .int (nI 3)] (n, I, J, R) 0 0
          refine q_one rfl rfl ?_
          show (¬ (nI 3) = (nI 3) → q_W L (d + 1) 128 q_m128 Q 91 [some (.ref 192), some (.int (nI j)), some (.int (nI 3))] [] (n, I, J, R) 0 0) ∧ ((nI 3) = (nI 3) → q_W L (d + 1) 128 q_m128 Q 82 [some (.ref 192), some (.int (nI j)), some (.int (nI 3))] [] (n, I, J, R) 0 0)
          refine ⟨fun z => absurd (by decide) z, fun _ => ?_⟩
          refine q_k 1 ?_
          show q_W L (d + 1) 128 q_m128 Q 83 [some (.ref 192), some (.int (nI j)), some (.int (nI 3))] [.ref 192] (n, I, J, R) 0 0
          refine q_gR (b := 196) rfl rfl (⟨Nat.lt_of_lt_of_le (by decide) hK.1, rfl⟩) (hK.2.1 192 3 196 rfl) ?_
          refine q_k 1 ?_
          show q_W L (d + 1) 128 q_m128 Q 87 [some (.ref 192), some (.int (nI j)), some (.int (nI 3))] [.int (nI j), .ref 196] (n, I, J, R) 0 0
          refine q_ial (m := j) rfl (⟨by decide, Nat.lt_of_lt_of_le (by decide) hK.1, rfl⟩) (by omega) (rfl) ?_
          refine q_k 1 ?_
          show q_W L (d + 1) 128 q_m128 Q 111 [some (.ref 192), some (.int (nI j)), some (.int (nI 3))] [.int (I 196 j)] (n, I, J, R) 0 0
          refine q_one rfl rfl ?_
          show Q (some (.int (I 196 j))) (n, I, J, R)
          exact hQ
        · skip
          refine q_k 2 ?_
          show q_W L (d + 1) 128 q_m128 Q 22 [some (.ref 192), some (.int (nI j)), some (.int (nI 4))] [.int (nI 3), .int (nI 4)] (n, I, J, R) 0 0
          refine q_one rfl rfl ?_
          show ((nI 3) ≤ (nI 4) → q_W L (d + 1) 128 q_m128 Q 71 [some (.ref 192), some (.int (nI j)), some (.int (nI 4))] [] (n, I, J, R) 0 0) ∧ (¬ (nI 3) ≤ (nI 4) → q_W L (d + 1) 128 q_m128 Q 25 [some (.ref 192), some (.int (nI j)), some (.int (nI 4))] [] (n, I, J, R) 0 0)
          refine ⟨fun _ => ?_, fun z => absurd (by decide) z⟩
          refine q_k 2 ?_
          show q_W L (d + 1) 128 q_m128 Q 74 [some (.ref 192), some (.int (nI j)), some (.int (nI 4))] [.int (nI 6), .int (nI 4)] (n, I, J, R) 0 0
          refine q_one rfl rfl ?_
          show ((nI 6) ≤ (nI 4) → q_W L (d + 1) 128 q_m128 Q 112 [some (.ref 192), some (.int (nI j)), some (.int (nI 4))] [] (n, I, J, R) 0 0) ∧ (¬ (nI 6) ≤ (nI 4) → q_W L (d + 1) 128 q_m128 Q 77 [some (.ref 192), some (.int (nI j)), some (.int (nI 4))] [] (n, I, J, R) 0 0)
          refine ⟨fun z => absurd z (by decide), fun _ => ?_⟩
          refine q_k 2 ?_
          show q_W L (d + 1) 128 q_m128 Q 79 [some (.ref 192), some (.int (nI j)), some (.int (nI 4))] [.int (nI 3), .int (nI 4)] (n, I, J, R) 0 0
          refine q_one rfl rfl ?_
          show (¬ (nI 4) = (nI 3) → q_W L (d + 1) 128 q_m128 Q 91 [some (.ref 192), some (.int (nI j)), some (.int (nI 4))] [] (n, I, J, R) 0 0) ∧ ((nI 4) = (nI 3) → q_W L (d + 1) 128 q_m128 Q 82 [some (.ref 192), some (.int (nI j)), some (.int (nI 4))] [] (n, I, J, R) 0 0)
          refine ⟨fun _ => ?_, fun z => absurd z (by decide)⟩
          refine q_k 2 ?_
          show q_W L (d + 1) 128 q_m128 Q 93 [some (.ref 192), some (.int (nI j)), some (.int (nI 4))] [.int (nI 4), .int (nI 4)] (n, I, J, R) 0 0
          refine q_one rfl rfl ?_
          show (¬ (nI 4) = (nI 4) → q_W L (d + 1) 128 q_m128 Q 105 [some (.ref 192), some (.int (nI j)), some (.int (nI 4))] [] (n, I, J, R) 0 0) ∧ ((nI 4) = (nI 4) → q_W L (d + 1) 128 q_m128 Q 96 [some (.ref 192), some (.int (nI j)), some (.int (nI 4))] [] (n, I, J, R) 0 0)
          refine ⟨fun z => absurd (by decide) z, fun _ => ?_⟩
          refine q_k 1 ?_
          show q_W L (d + 1) 128 q_m128 Q 97 [some (.ref 192), some (.int (nI j)), some (.int (nI 4))] [.ref 192] (n, I, J, R) 0 0
          refine q_gR (b := 201) rfl rfl (⟨Nat.lt_of_lt_of_le (by decide) hK.1, rfl⟩) (hK.2.1 192 8 201 rfl) ?_
          refine q_k 1 ?_
          show q_W L (d + 1) 128 q_m128 Q 101 [some (.ref 192), some (.int (nI j)), some (.int (nI 4))] [.int (nI j), .ref 201] (n, I, J, R) 0 0
          refine q_ial (m := j) rfl (⟨by decide, Nat.lt_of_lt_of_le (by decide) hK.1, rfl⟩) (by omega) (rfl) ?_
          refine q_k 1 ?_
          show q_W L (d + 1) 128 q_m128 Q 111 [some (.ref 192), some (.int (nI j)), some (.int (nI 4))] [.int (I 201 j)] (n, I, J, R) 0 0
          refine q_one rfl rfl ?_
          show Q (some (.int (I 201 j))) (n, I, J, R)
          exact hQ
        · skip
          refine q_k 2 ?_
          show q_W L (d + 1) 128 q_m128 Q 22 [some (.ref 192), some (.int (nI j)), some (.int (nI 5))] [.int (nI 3), .int (nI 5)] (n, I, J, R) 0 0
          refine q_one rfl rfl ?_
          show ((nI 3) ≤ (nI 5) → q_W L (d + 1) 128 q_m128 Q 71 [some (.ref 192), some (.int (nI j)), some (.int (nI 5))] [] (n, I, J, R) 0 0) ∧ (¬ (nI 3) ≤ (nI 5) → q_W L (d + 1) 128 q_m128 Q 25 [some (.ref 192), some (.int (nI j)), some (.int (nI 5))] [] (n, I, J, R) 0 0)
          refine ⟨fun _ => ?_, fun z => absurd (by decide) z⟩
          refine q_k 2 ?_
          show q_W L (d + 1) 128 q_m128 Q 74 [some (.ref 192), some (.int (nI j)), some (.int (nI 5))] [.int (nI 6), .int (nI 5)] (n, I, J, R) 0 0
          refine q_one rfl rfl ?_
          show ((nI 6) ≤ (nI 5) → q_W L (d + 1) 128 q_m128 Q 112 [some (.ref 192), some (.int (nI j)), some (.int (nI 5))] [] (n, I, J, R) 0 0) ∧ (¬ (nI 6) ≤ (nI 5) → q_W L (d + 1) 128 q_m128 Q 77 [some (.ref 192), some (.int (nI j)), some (.int (nI 5))] [] (n, I, J, R) 0 0)
          refine ⟨fun z => absurd z (by decide), fun _ => ?_⟩
          refine q_k 2 ?_
          show q_W L (d + 1) 128 q_m128 Q 79 [some (.ref 192), some (.int (nI j)), some (.int (nI 5))] [.int (nI 3), .int (nI 5)] (n, I, J, R) 0 0
          refine q_one rfl rfl ?_
          show (¬ (nI 5) = (nI 3) → q_W L (d + 1) 128 q_m128 Q 91 [some (.ref 192), some (.int (nI j)), some (.int (nI 5))] [] (n, I, J, R) 0 0) ∧ ((nI 5) = (nI 3) → q_W L (d + 1) 128 q_m128 Q 82 [some (.ref 192), some (.int (nI j)), some (.int (nI 5))] [] (n, I, J, R) 0 0)
          refine ⟨fun _ => ?_, fun z => absurd z (by decide)⟩
          refine q_k 2 ?_
          show q_W L (d + 1) 128 q_m128 Q 93 [some (.ref 192), some (.int (nI j)), some (.int (nI 5))] [.int (nI 4), .int (nI 5)] (n, I, J, R) 0 0
          refine q_one rfl rfl ?_
          show (¬ (nI 5) = (nI 4) → q_W L (d + 1) 128 q_m128 Q 105 [some (.ref 192), some (.int (nI j)), some (.int (nI 5))] [] (n, I, J, R) 0 0) ∧ ((nI 5) = (nI 4) → q_W L (d + 1) 128 q_m128 Q 96 [some (.ref 192), some (.int (nI j)), some (.int (nI 5))] [] (n, I, J, R) 0 0)
          refine ⟨fun _ => ?_, fun z => absurd z (by decide)⟩
          refine q_k 1 ?_
          show q_W L (d + 1) 128 q_m128 Q 106 [some (.ref 192), some (.int (nI j)), some (.int (nI 5))] [.ref 192] (n, I, J, R) 0 0
          refine q_gR (b := 204) rfl rfl (⟨Nat.lt_of_lt_of_le (by decide) hK.1, rfl⟩) (hK.2.1 192 11 204 rfl) ?_
          refine q_k 1 ?_
          show q_W L (d + 1) 128 q_m128 Q 110 [some (.ref 192), some (.int (nI j)), some (.int (nI 5))] [.int (nI j), .ref 204] (n, I, J, R) 0 0
          refine q_ial (m := j) rfl (⟨by decide, Nat.lt_of_lt_of_le (by decide) hK.1, rfl⟩) (by omega) (rfl) ?_
          refine q_one rfl rfl ?_
          show Q (some (.int (I 204 j))) (n, I, J, R)
          exact hQ
        · skip
          refine q_k 2 ?_
          show q_W L (d + 1) 128 q_m128 Q 22 [some (.ref 192), some (.int (nI j)), some (.int (nI 6))] [.int (nI 3), .int (nI 6)] (n, I, J, R) 0 0
          refine q_one rfl rfl ?_
          show ((nI 3) ≤ (nI 6) → q_W L (d + 1) 128 q_m128 Q 71 [some (.ref 192), some (.int (nI j)), some (.int (nI 6))] [] (n, I, J, R) 0 0) ∧ (¬ (nI 3) ≤ (nI 6) → q_W L (d + 1) 128 q_m128 Q 25 [some (.ref 192), some (.int (nI j)), some (.int (nI 6))] [] (n, I, J, R) 0 0)
          refine ⟨fun _ => ?_, fun z => absurd (by decide) z⟩
          refine q_k 2 ?_
          show q_W L (d + 1) 128 q_m128 Q 74 [some (.ref 192), some (.int (nI j)), some (.int (nI 6))] [.int (nI 6), .int (nI 6)] (n, I, J, R) 0 0
          refine q_one rfl rfl ?_
          show ((nI 6) ≤ (nI 6) → q_W L (d + 1) 128 q_m128 Q 112 [some (.ref 192), some (.int (nI j)), some (.int (nI 6))] [] (n, I, J, R) 0 0) ∧ (¬ (nI 6) ≤ (nI 6) → q_W L (d + 1) 128 q_m128 Q 77 [some (.ref 192), some (.int (nI j)), some (.int (nI 6))] [] (n, I, J, R) 0 0)
          refine ⟨fun _ => ?_, fun z => absurd (by decide) z⟩
          refine q_k 1 ?_
          show q_W L (d + 1) 128 q_m128 Q 113 [some (.ref 192), some (.int (nI j)), some (.int (nI 6))] [.ref 192] (n, I, J, R) 0 0
          refine q_gR (b := 202) rfl rfl (⟨Nat.lt_of_lt_of_le (by decide) hK.1, rfl⟩) (hK.2.1 192 9 202 rfl) ?_
          refine q_k 3 ?_
          show q_W L (d + 1) 128 q_m128 Q 119 [some (.ref 192), some (.int (nI j)), some (.int (nI 6))] [.int ((nI 4) * (nI j)), .ref 202] (n, I, J, R) 0 0
          refine q_top (w := nI (4 * j)) (pk_mul _ _) ?_
          refine q_k 2 ?_
          show q_W L (d + 1) 128 q_m128 Q 121 [some (.ref 192), some (.int (nI j)), some (.int (nI 6))] [.int ((nI (4 * j)) + (nI 6)), .ref 202] (n, I, J, R) 0 0
          refine q_top (w := nI (4 * j + 6)) (nI_add _ _) ?_
          refine q_k 2 ?_
          show q_W L (d + 1) 128 q_m128 Q 124 [some (.ref 192), some (.int (nI j)), some (.int (nI 6))] [.int ((nI (4 * j + 6)) - (nI 6)), .ref 202] (n, I, J, R) 0 0
          refine q_top (w := nI (4 * j + 0)) (q_sub (by omega)) ?_
          refine q_ial (m := 4 * j + 0) rfl (⟨by decide, Nat.lt_of_lt_of_le (by decide) hK.1, rfl⟩) (by omega) (rfl) ?_
          refine q_one rfl rfl ?_
          show Q (some (.int (I 202 (4 * j + 0)))) (n, I, J, R)
          exact hQ
        · skip
          refine q_k 2 ?_
          show q_W L (d + 1) 128 q_m128 Q 22 [some (.ref 192), some (.int (nI j)), some (.int (nI 7))] [.int (nI 3), .int (nI 7)] (n, I, J, R) 0 0
          refine q_one rfl rfl ?_
          show ((nI 3) ≤ (nI 7) → q_W L (d + 1) 128 q_m128 Q 71 [some (.ref 192), some (.int (nI j)), some (.int (nI 7))] [] (n, I, J, R) 0 0) ∧ (¬ (nI 3) ≤ (nI 7) → q_W L (d + 1) 128 q_m128 Q 25 [some (.ref 192), some (.int (nI j)), some (.int (nI 7))] [] (n, I, J, R) 0 0)
          refine ⟨fun _ => ?_, fun z => absurd (by decide) z⟩
          refine q_k 2 ?_
          show q_W L (d + 1) 128 q_m128 Q 74 [some (.ref 192), some (.int (nI j)), some (.int (nI 7))] [.int (nI 6), .int (nI 7)] (n, I, J, R) 0 0
          refine q_one rfl rfl ?_
          show ((nI 6) ≤ (nI 7) → q_W L (d + 1) 128 q_m128 Q 112 [some (.ref 192), some (.int (nI j)), some (.int (nI 7))] [] (n, I, J, R) 0 0) ∧ (¬ (nI 6) ≤ (nI 7) → q_W L (d + 1) 128 q_m128 Q 77 [some (.ref 192), some (.int (nI j)), some (.int (nI 7))] [] (n, I, J, R) 0 0)
          refine ⟨fun _ => ?_, fun z => absurd (by decide) z⟩
          refine q_k 1 ?_
          show q_W L (d + 1) 128 q_m128 Q 113 [some (.ref 192), some (.int (nI j)), some (.int (nI 7))] [.ref 192] (n, I, J, R) 0 0
          refine q_gR (b := 202) rfl rfl (⟨Nat.lt_of_lt_of_le (by decide) hK.1, rfl⟩) (hK.2.1 192 9 202 rfl) ?_
          refine q_k 3 ?_
          show q_W L (d + 1) 128 q_m128 Q 119 [some (.ref 192), some (.int (nI j)), some (.int (nI 7))] [.int ((nI 4) * (nI j)), .ref 202] (n, I, J, R) 0 0
          refine q_top (w := nI (4 * j)) (pk_mul _ _) ?_
          refine q_k 2 ?_
          show q_W L (d + 1) 128 q_m128 Q 121 [some (.ref 192), some (.int (nI j)), some (.int (nI 7))] [.int ((nI (4 * j)) + (nI 7)), .ref 202] (n, I, J, R) 0 0
          refine q_top (w := nI (4 * j + 7)) (nI_add _ _) ?_
          refine q_k 2 ?_
          show q_W L (d + 1) 128 q_m128 Q 124 [some (.ref 192), some (.int (nI j)), some (.int (nI 7))] [.int ((nI (4 * j + 7)) - (nI 6)), .ref 202] (n, I, J, R) 0 0
          refine q_top (w := nI (4 * j + 1)) (q_sub (by omega)) ?_
          refine q_ial (m := 4 * j + 1) rfl (⟨by decide, Nat.lt_of_lt_of_le (by decide) hK.1, rfl⟩) (by omega) (rfl) ?_
          refine q_one rfl rfl ?_
          show Q (some (.int (I 202 (4 * j + 1)))) (n, I, J, R)
          exact hQ
        · skip
          refine q_k 2 ?_
          show q_W L (d + 1) 128 q_m128 Q 22 [some (.ref 192), some (.int (nI j)), some (.int (nI 8))] [.int (nI 3), .int (nI 8)] (n, I, J, R) 0 0
          refine q_one rfl rfl ?_
          show ((nI 3) ≤ (nI 8) → q_W L (d + 1) 128 q_m128 Q 71 [some (.ref 192), some (.int (nI j)), some (.int (nI 8))] [] (n, I, J, R) 0 0) ∧ (¬ (nI 3) ≤ (nI 8) → q_W L (d + 1) 128 q_m128 Q 25 [some (.ref 192), some (.int (nI j)), some (.int (nI 8))] [] (n, I, J, R) 0 0)
          refine ⟨fun _ => ?_, fun z => absurd (by decide) z⟩
          refine q_k 2 ?_
          show q_W L (d + 1) 128 q_m128 Q 74 [some (.ref 192), some (.int (nI j)), some (.int (nI 8))] [.int (nI 6), .int (nI 8)] (n, I, J, R) 0 0
          refine q_one rfl rfl ?_
          show ((nI 6) ≤ (nI 8) → q_W L (d + 1) 128 q_m128 Q 112 [some (.ref 192), some (.int (nI j)), some (.int (nI 8))] [] (n, I, J, R) 0 0) ∧ (¬ (nI 6) ≤ (nI 8) → q_W L (d + 1) 128 q_m128 Q 77 [some (.ref 192), some (.int (nI j)), some (.int (nI 8))] [] (n, I, J, R) 0 0)
          refine ⟨fun _ => ?_, fun z => absurd (by decide) z⟩
          refine q_k 1 ?_
          show q_W L (d + 1) 128 q_m128 Q 113 [some (.ref 192), some (.int (nI j)), some (.int (nI 8))] [.ref 192] (n, I, J, R) 0 0
          refine q_gR (b := 202) rfl rfl (⟨Nat.lt_of_lt_of_le (by decide) hK.1, rfl⟩) (hK.2.1 192 9 202 rfl) ?_
          refine q_k 3 ?_
          show q_W L (d + 1) 128 q_m128 Q 119 [some (.ref 192), some (.int (nI j)), some (.int (nI 8))] [.int ((nI 4) * (nI j)), .ref 202] (n, I, J, R) 0 0
          refine q_top (w := nI (4 * j)) (pk_mul _ _) ?_
          refine q_k 2 ?_
          show q_W L (d + 1) 128 q_m128 Q 121 [some (.ref 192), some (.int (nI j)), some (.int (nI 8))] [.int ((nI (4 * j)) + (nI 8)), .ref 202] (n, I, J, R) 0 0
          refine q_top (w := nI (4 * j + 8)) (nI_add _ _) ?_
          refine q_k 2 ?_
          show q_W L (d + 1) 128 q_m128 Q 124 [some (.ref 192), some (.int (nI j)), some (.int (nI 8))] [.int ((nI (4 * j + 8)) - (nI 6)), .ref 202] (n, I, J, R) 0 0
          refine q_top (w := nI (4 * j + 2)) (q_sub (by omega)) ?_
          refine q_ial (m := 4 * j + 2) rfl (⟨by decide, Nat.lt_of_lt_of_le (by decide) hK.1, rfl⟩) (by omega) (rfl) ?_
          refine q_one rfl rfl ?_
          show Q (some (.int (I 202 (4 * j + 2)))) (n, I, J, R)
          exact hQ
        · skip
          refine q_k 2 ?_
          show q_W L (d + 1) 128 q_m128 Q 22 [some (.ref 192), some (.int (nI j)), some (.int (nI 9))] [.int (nI 3), .int (nI 9)] (n, I, J, R) 0 0
          refine q_one rfl rfl ?_
          show ((nI 3) ≤ (nI 9) → q_W L (d + 1) 128 q_m128 Q 71 [some (.ref 192), some (.int (nI j)), some (.int (nI 9))] [] (n, I, J, R) 0 0) ∧ (¬ (nI 3) ≤ (nI 9) → q_W L (d + 1) 128 q_m128 Q 25 [some (.ref 192), some (.int (nI j)), some (.int (nI 9))] [] (n, I, J, R) 0 0)
          refine ⟨fun _ => ?_, fun z => absurd (by decide) z⟩
          refine q_k 2 ?_
          show q_W L (d + 1) 128 q_m128 Q 74 [some (.ref 192), some (.int (nI j)), some (.int (nI 9))] [.int (nI 6), .int (nI 9)] (n, I, J, R) 0 0
          refine q_one rfl rfl ?_
          show ((nI 6) ≤ (nI 9) → q_W L (d + 1) 128 q_m128 Q 112 [some (.ref 192), some (.int (nI j)), some (.int (nI 9))] [] (n, I, J, R) 0 0) ∧ (¬ (nI 6) ≤ (nI 9) → q_W L (d + 1) 128 q_m128 Q 77 [some (.ref 192), some (.int (nI j)), some (.int (nI 9))] [] (n, I, J, R) 0 0)
          refine ⟨fun _ => ?_, fun z => absurd (by decide) z⟩
          refine q_k 1 ?_
          show q_W L (d + 1) 128 q_m128 Q 113 [some (.ref 192), some (.int (nI j)), some (.int (nI 9))] [.ref 192] (n, I, J, R) 0 0
          refine q_gR (b := 202) rfl rfl (⟨Nat.lt_of_lt_of_le (by decide) hK.1, rfl⟩) (hK.2.1 192 9 202 rfl) ?_
          refine q_k 3 ?_
          show q_W L (d + 1) 128 q_m128 Q 119 [some (.ref 192), some (.int (nI j)), some (.int (nI 9))] [.int ((nI 4) * (nI j)), .ref 202] (n, I, J, R) 0 0
          refine q_top (w := nI (4 * j)) (pk_mul _ _) ?_
          refine q_k 2 ?_
          show q_W L (d + 1) 128 q_m128 Q 121 [some (.ref 192), some (.int (nI j)), some (.int (nI 9))] [.int ((nI (4 * j)) + (nI 9)), .ref 202] (n, I, J, R) 0 0
          refine q_top (w := nI (4 * j + 9)) (nI_add _ _) ?_
          refine q_k 2 ?_
          show q_W L (d + 1) 128 q_m128 Q 124 [some (.ref 192), some (.int (nI j)), some (.int (nI 9))] [.int ((nI (4 * j + 9)) - (nI 6)), .ref 202] (n, I, J, R) 0 0
          refine q_top (w := nI (4 * j + 3)) (q_sub (by omega)) ?_
          refine q_ial (m := 4 * j + 3) rfl (⟨by decide, Nat.lt_of_lt_of_le (by decide) hK.1, rfl⟩) (by omega) (rfl) ?_
          refine q_one rfl rfl ?_
          show Q (some (.int (I 202 (4 * j + 3)))) (n, I, J, R)
          exact hQ
      · skip
        refine q_k 1 ?_
        show q_W L (d + 1) 128 q_m128 Q 19 [some (.ref 192), some (.int (nI j)), some (.int w)] [.int (-1)] (n, I, J, R) 0 0
        refine q_one rfl rfl ?_
        show Q (some (.int (-1))) (n, I, J, R)
        simp only [g_user, if_neg h5, if_neg h9, if_neg h15] at hQ
        exact hQ
theorem m_sessions {L d n : Nat} {I : q_I} {J : q_L} {R : q_R} {Q : q_Q} {u v : Int32} (hK : q_K0 n I R) (hQ : Q (some (.int (g_sess u v I))) (n, I, J, R)) : q_Ex L (d + 3) 129 [.ref 192, .int u, .int v] (n, I, J, R) Q := by
  refine q_in (x := q_m129) rfl rfl ?_
  show q_W L (d + 2) 129 q_m129 Q 0 [some (.ref 192), some (.int u), some (.int v)] [] (n, I, J, R) 0 0
  refine q_k 3 ?_
  show q_W L (d + 2) 129 q_m129 Q 3 [some (.ref 192), some (.int u), some (.int v)] [.int v, .int u, .ref 192] (n, I, J, R) 0 0
  refine q_cv (as := [.int u, .int v]) (rs := []) rfl rfl rfl (⟨Nat.lt_of_lt_of_le (by decide) hK.1, rfl⟩) rfl rfl ?_
  refine m_pair (hK) ?_
  show q_W L (d + 2) 129 q_m129 Q 6 [some (.ref 192), some (.int u), some (.int v)] [.int (g_pr (I 193) u v)] (n, I, J, R) 0 0
  refine q_one rfl rfl ?_
  show ((g_pr (I 193) u v) = 0 → q_W L (d + 2) 129 q_m129 Q 22 [some (.ref 192), some (.int u), some (.int v)] [] (n, I, J, R) 0 0) ∧ (¬ (g_pr (I 193) u v) = 0 → q_W L (d + 2) 129 q_m129 Q 9 [some (.ref 192), some (.int u), some (.int v)] [] (n, I, J, R) 0 0)
  refine ⟨fun h6 => ?_, fun h6 => ?_⟩
  · skip
    refine q_k 1 ?_
    show q_W L (d + 2) 129 q_m129 Q 23 [some (.ref 192), some (.int u), some (.int v)] [.int (-1)] (n, I, J, R) 0 0
    refine q_one rfl rfl ?_
    show Q (some (.int (-1))) (n, I, J, R)
    simp only [g_sess, if_pos h6] at hQ
    exact hQ
  · skip
    obtain ⟨i, j, hi, hj, rfl, rfl, hij, hfi, hfj, hk1⟩ := g_pr_1 h6
    refine q_k 1 ?_
    show q_W L (d + 2) 129 q_m129 Q 10 [some (.ref 192), some (.int (nI i)), some (.int (nI j))] [.ref 192] (n, I, J, R) 0 0
    refine q_gR (b := 206) rfl rfl (⟨Nat.lt_of_lt_of_le (by decide) hK.1, rfl⟩) (hK.2.1 192 13 206 rfl) ?_
    refine q_k 3 ?_
    show q_W L (d + 2) 129 q_m129 Q 16 [some (.ref 192), some (.int (nI i)), some (.int (nI j))] [.int ((nI 4) * (nI i)), .ref 206] (n, I, J, R) 0 0
    refine q_top (w := nI (4 * i)) (pk_mul _ _) ?_
    refine q_k 2 ?_
    show q_W L (d + 2) 129 q_m129 Q 18 [some (.ref 192), some (.int (nI i)), some (.int (nI j))] [.int ((nI (4 * i)) + (nI j)), .ref 206] (n, I, J, R) 0 0
    refine q_top (w := nI (4 * i + j)) (nI_add _ _) ?_
    refine q_ial (m := 4 * i + j) rfl (⟨by decide, Nat.lt_of_lt_of_le (by decide) hK.1, rfl⟩) (by omega) (rfl) ?_
    refine q_k 1 ?_
    show q_W L (d + 2) 129 q_m129 Q 23 [some (.ref 192), some (.int (nI i)), some (.int (nI j))] [.int (I 206 (4 * i + j))] (n, I, J, R) 0 0
    refine q_one rfl rfl ?_
    show Q (some (.int (I 206 (4 * i + j)))) (n, I, J, R)
    simp only [g_sess, if_neg h6, g_cl (show j < 10000 by omega), g_cl (show i < 10000 by omega)] at hQ
    exact hQ
set_option maxHeartbeats 1000000 in
theorem m_session {L d n : Nat} {I : q_I} {J : q_L} {R : q_R} {Q : q_Q} {u v k w : Int32} (hK : q_K0 n I R) (hmn : ∀ p, p < 16 → ∃ m : Nat, m ≤ 3 ∧ I 206 p = nI m) (hQ : Q (some (.int (g_session u v k w I))) (n, I, J, R)) : q_Ex L (d + 3) 130 [.ref 192, .int u, .int v, .int k, .int w] (n, I, J, R) Q := by
  refine q_in (x := q_m130) rfl rfl ?_
  show q_W L (d + 2) 130 q_m130 Q 0 [some (.ref 192), some (.int u), some (.int v), some (.int k), some (.int w), none] [] (n, I, J, R) 0 0
  refine q_k 3 ?_
  show q_W L (d + 2) 130 q_m130 Q 3 [some (.ref 192), some (.int u), some (.int v), some (.int k), some (.int w), none] [.int v, .int u, .ref 192] (n, I, J, R) 0 0
  refine q_cv (as := [.int u, .int v]) (rs := []) rfl rfl rfl (⟨Nat.lt_of_lt_of_le (by decide) hK.1, rfl⟩) rfl rfl ?_
  refine m_pair (hK) ?_
  show q_W L (d + 2) 130 q_m130 Q 6 [some (.ref 192), some (.int u), some (.int v), some (.int k), some (.int w), none] [.int (g_pr (I 193) u v)] (n, I, J, R) 0 0
  refine q_one rfl rfl ?_
  show ((g_pr (I 193) u v) = 0 → q_W L (d + 2) 130 q_m130 Q 39 [some (.ref 192), some (.int u), some (.int v), some (.int k), some (.int w), none] [] (n, I, J, R) 0 0) ∧ (¬ (g_pr (I 193) u v) = 0 → q_W L (d + 2) 130 q_m130 Q 9 [some (.ref 192), some (.int u), some (.int v), some (.int k), some (.int w), none] [] (n, I, J, R) 0 0)
  refine ⟨fun h6 => ?_, fun h6 => ?_⟩
  · skip
    refine q_k 1 ?_
    show q_W L (d + 2) 130 q_m130 Q 40 [some (.ref 192), some (.int u), some (.int v), some (.int k), some (.int w), none] [.int (-1)] (n, I, J, R) 0 0
    refine q_one rfl rfl ?_
    show Q (some (.int (-1))) (n, I, J, R)
    simp only [g_session, if_pos h6] at hQ
    exact hQ
  · skip
    obtain ⟨i, j, hi, hj, rfl, rfl, hij, hfi, hfj, hk1⟩ := g_pr_1 h6
    obtain ⟨m, hm3, hm⟩ := hmn (4 * i + j) (by omega)
    refine q_k 1 ?_
    show q_W L (d + 2) 130 q_m130 Q 10 [some (.ref 192), some (.int (nI i)), some (.int (nI j)), some (.int k), some (.int w), none] [.int k] (n, I, J, R) 0 0
    refine q_one rfl rfl ?_
    show (k < 0 → q_W L (d + 2) 130 q_m130 Q 39 [some (.ref 192), some (.int (nI i)), some (.int (nI j)), some (.int k), some (.int w), none] [] (n, I, J, R) 0 0) ∧ (¬ k < 0 → q_W L (d + 2) 130 q_m130 Q 13 [some (.ref 192), some (.int (nI i)), some (.int (nI j)), some (.int k), some (.int w), none] [] (n, I, J, R) 0 0)
    refine ⟨fun h10 => ?_, fun h10 => ?_⟩
    · skip
      refine q_k 1 ?_
      show q_W L (d + 2) 130 q_m130 Q 40 [some (.ref 192), some (.int (nI i)), some (.int (nI j)), some (.int k), some (.int w), none] [.int (-1)] (n, I, J, R) 0 0
      refine q_one rfl rfl ?_
      show Q (some (.int (-1))) (n, I, J, R)
      simp only [g_session, if_neg h6, if_pos h10] at hQ
      exact hQ
    · skip
      refine q_k 2 ?_
      show q_W L (d + 2) 130 q_m130 Q 15 [some (.ref 192), some (.int (nI i)), some (.int (nI j)), some (.int k), some (.int w), none] [.ref 192, .int k] (n, I, J, R) 0 0
      refine q_gR (b := 206) rfl rfl (⟨Nat.lt_of_lt_of_le (by decide) hK.1, rfl⟩) (hK.2.1 192 13 206 rfl) ?_
      refine q_k 3 ?_
      show q_W L (d + 2) 130 q_m130 Q 21 [some (.ref 192), some (.int (nI i)), some (.int (nI j)), some (.int k), some (.int w), none] [.int ((nI 4) * (nI i)), .ref 206, .int k] (n, I, J, R) 0 0
      refine q_top (w := nI (4 * i)) (pk_mul _ _) ?_
      refine q_k 2 ?_
      show q_W L (d + 2) 130 q_m130 Q 23 [some (.ref 192), some (.int (nI i)), some (.int (nI j)), some (.int k), some (.int w), none] [.int ((nI (4 * i)) + (nI j)), .ref 206, .int k] (n, I, J, R) 0 0
      refine q_top (w := nI (4 * i + j)) (nI_add _ _) ?_
      refine q_ial (m := 4 * i + j) rfl (⟨by decide, Nat.lt_of_lt_of_le (by decide) hK.1, rfl⟩) (by omega) (rfl) ?_
      refine q_one rfl rfl ?_
      show ((I 206 (4 * i + j)) ≤ k → q_W L (d + 2) 130 q_m130 Q 39 [some (.ref 192), some (.int (nI i)), some (.int (nI j)), some (.int k), some (.int w), none] [] (n, I, J, R) 0 0) ∧ (¬ (I 206 (4 * i + j)) ≤ k → q_W L (d + 2) 130 q_m130 Q 27 [some (.ref 192), some (.int (nI i)), some (.int (nI j)), some (.int k), some (.int w), none] [] (n, I, J, R) 0 0)
      refine ⟨fun h24 => ?_, fun h24 => ?_⟩
      · skip
        refine q_k 1 ?_
        show q_W L (d + 2) 130 q_m130 Q 40 [some (.ref 192), some (.int (nI i)), some (.int (nI j)), some (.int k), some (.int w), none] [.int (-1)] (n, I, J, R) 0 0
        refine q_one rfl rfl ?_
        show Q (some (.int (-1))) (n, I, J, R)
        simp only [g_session, if_neg h6, if_neg h10, g_cl (show i < 10000 by omega), g_cl (show j < 10000 by omega), if_pos h24] at hQ
        exact hQ
      · skip
        rcases pk_ix k (show m < 2 ^ 31 by omega) with h2 | h2 | ⟨y, hy, rfl⟩
        · exact absurd h2 h10
        · exact absurd h2 (hm ▸ h24)
        refine q_k 1 ?_
        show q_W L (d + 2) 130 q_m130 Q 29 [some (.ref 192), some (.int (nI i)), some (.int (nI j)), some (.int (nI y)), some (.int w), none] [.int w] (n, I, J, R) 0 0
        refine q_one rfl rfl ?_
        show (w < 0 → q_W L (d + 2) 130 q_m130 Q 39 [some (.ref 192), some (.int (nI i)), some (.int (nI j)), some (.int (nI y)), some (.int w), none] [] (n, I, J, R) 0 0) ∧ (¬ w < 0 → q_W L (d + 2) 130 q_m130 Q 32 [some (.ref 192), some (.int (nI i)), some (.int (nI j)), some (.int (nI y)), some (.int w), none] [] (n, I, J, R) 0 0)
        refine ⟨fun h29 => ?_, fun h29 => ?_⟩
        · skip
          refine q_k 1 ?_
          show q_W L (d + 2) 130 q_m130 Q 40 [some (.ref 192), some (.int (nI i)), some (.int (nI j)), some (.int (nI y)), some (.int w), none] [.int (-1)] (n, I, J, R) 0 0
          refine q_one rfl rfl ?_
          show Q (some (.int (-1))) (n, I, J, R)
          simp only [g_session, if_neg h6, if_neg h10, g_cl (show i < 10000 by omega), g_cl (show j < 10000 by omega), if_neg h24, if_pos h29] at hQ
          exact hQ
        · skip
          refine q_k 2 ?_
          show q_W L (d + 2) 130 q_m130 Q 36 [some (.ref 192), some (.int (nI i)), some (.int (nI j)), some (.int (nI y)), some (.int w), none] [.int (nI 8), .int w] (n, I, J, R) 0 0
          refine q_one rfl rfl ?_
          show (w ≤ (nI 8) → q_W L (d + 2) 130 q_m130 Q 41 [some (.ref 192), some (.int (nI i)), some (.int (nI j)), some (.int (nI y)), some (.int w), none] [] (n, I, J, R) 0 0) ∧ (¬ w ≤ (nI 8) → q_W L (d + 2) 130 q_m130 Q 39 [some (.ref 192), some (.int (nI i)), some (.int (nI j)), some (.int (nI y)), some (.int w), none] [] (n, I, J, R) 0 0)
          refine ⟨fun h36 => ?_, fun h36 => ?_⟩
          · skip
            obtain ⟨a, ha, rfl⟩ := g_pl (by decide) h29 h36
            simp only [g_session, if_neg h6, if_neg h10, if_neg h24, if_neg h29, if_pos h36, g_cl (show i < 10000 by omega), g_cl (show j < 10000 by omega), g_cl (show y < 10000 by omega), g_cl (show a < 10000 by omega)] at hQ
            have hc : a = 0 ∨ a = 1 ∨ a = 2 ∨ a = 3 ∨ a = 4 ∨ a = 5 ∨ a = 6 ∨ a = 7 ∨ a = 8 := by omega
            rcases hc with rfl | rfl | rfl | rfl | rfl | rfl | rfl | rfl | rfl
            · skip
              refine q_k 5 ?_
              show q_W L (d + 2) 130 q_m130 Q 48 [some (.ref 192), some (.int (nI i)), some (.int (nI j)), some (.int (nI y)), some (.int (nI 0)), none] [.int ((nI 4) * (nI i)), .int (nI 3), .int (nI 158)] (n, I, J, R) 0 0
              refine q_top (w := nI (4 * i)) (pk_mul _ _) ?_
              refine q_k 2 ?_
              show q_W L (d + 2) 130 q_m130 Q 50 [some (.ref 192), some (.int (nI i)), some (.int (nI j)), some (.int (nI y)), some (.int (nI 0)), none] [.int ((nI (4 * i)) + (nI j)), .int (nI 3), .int (nI 158)] (n, I, J, R) 0 0
              refine q_top (w := nI (4 * i + j)) (nI_add _ _) ?_
              refine q_k 1 ?_
              show q_W L (d + 2) 130 q_m130 Q 51 [some (.ref 192), some (.int (nI i)), some (.int (nI j)), some (.int (nI y)), some (.int (nI 0)), none] [.int ((nI 3) * (nI (4 * i + j))), .int (nI 158)] (n, I, J, R) 0 0
              refine q_top (w := nI (3 * (4 * i + j))) (pk_mul _ _) ?_
              refine q_k 2 ?_
              show q_W L (d + 2) 130 q_m130 Q 53 [some (.ref 192), some (.int (nI i)), some (.int (nI j)), some (.int (nI y)), some (.int (nI 0)), none] [.int ((nI (3 * (4 * i + j))) + (nI y)), .int (nI 158)] (n, I, J, R) 0 0
              refine q_top (w := nI (3 * (4 * i + j) + y)) (nI_add _ _) ?_
              refine q_k 1 ?_
              show q_W L (d + 2) 130 q_m130 Q 54 [some (.ref 192), some (.int (nI i)), some (.int (nI j)), some (.int (nI y)), some (.int (nI 0)), none] [.int ((nI 158) * (nI (3 * (4 * i + j) + y)))] (n, I, J, R) 0 0
              refine q_top (w := nI (158 * (3 * (4 * i + j) + y))) (pk_mul _ _) ?_
              refine q_k 3 ?_
              show q_W L (d + 2) 130 q_m130 Q 59 [some (.ref 192), some (.int (nI i)), some (.int (nI j)), some (.int (nI y)), some (.int (nI 0)), some (.int (nI (158 * (3 * (4 * i + j) + y))))] [.int (nI 4), .int (nI 0)] (n, I, J, R) 0 0
              refine q_one rfl rfl ?_
              show ((nI 4) ≤ (nI 0) → q_W L (d + 2) 130 q_m130 Q 93 [some (.ref 192), some (.int (nI i)), some (.int (nI j)), some (.int (nI y)), some (.int (nI 0)), some (.int (nI (158 * (3 * (4 * i + j) + y))))] [] (n, I, J, R) 0 0) ∧ (¬ (nI 4) ≤ (nI 0) → q_W L (d + 2) 130 q_m130 Q 62 [some (.ref 192), some (.int (nI i)), some (.int (nI j)), some (.int (nI y)), some (.int (nI 0)), some (.int (nI (158 * (3 * (4 * i + j) + y))))] [] (n, I, J, R) 0 0)
              refine ⟨fun z => absurd z (by decide), fun _ => ?_⟩
              refine q_k 1 ?_
              show q_W L (d + 2) 130 q_m130 Q 64 [some (.ref 192), some (.int (nI i)), some (.int (nI j)), some (.int (nI y)), some (.int (nI 0)), some (.int (nI (158 * (3 * (4 * i + j) + y))))] [.int (nI 0)] (n, I, J, R) 0 0
              refine q_one rfl rfl ?_
              show (¬ (nI 0) = 0 → q_W L (d + 2) 130 q_m130 Q 77 [some (.ref 192), some (.int (nI i)), some (.int (nI j)), some (.int (nI y)), some (.int (nI 0)), some (.int (nI (158 * (3 * (4 * i + j) + y))))] [] (n, I, J, R) 0 0) ∧ ((nI 0) = 0 → q_W L (d + 2) 130 q_m130 Q 67 [some (.ref 192), some (.int (nI i)), some (.int (nI j)), some (.int (nI y)), some (.int (nI 0)), some (.int (nI (158 * (3 * (4 * i + j) + y))))] [] (n, I, J, R) 0 0)
              refine ⟨fun z => absurd (by decide) z, fun _ => ?_⟩
              refine q_k 1 ?_
              show q_W L (d + 2) 130 q_m130 Q 68 [some (.ref 192), some (.int (nI i)), some (.int (nI j)), some (.int (nI y)), some (.int (nI 0)), some (.int (nI (158 * (3 * (4 * i + j) + y))))] [.ref 192] (n, I, J, R) 0 0
              refine q_gR (b := 205) rfl rfl (⟨Nat.lt_of_lt_of_le (by decide) hK.1, rfl⟩) (hK.2.1 192 12 205 rfl) ?_
              refine q_k 1 ?_
              show q_W L (d + 2) 130 q_m130 Q 73 [some (.ref 192), some (.int (nI i)), some (.int (nI j)), some (.int (nI y)), some (.int (nI 0)), some (.int (nI (158 * (3 * (4 * i + j) + y))))] [.int (nI (158 * (3 * (4 * i + j) + y))), .ref 205] (n, I, J, R) 0 0
              refine q_ial (m := 158 * (3 * (4 * i + j) + y)) rfl (⟨by decide, Nat.lt_of_lt_of_le (by decide) hK.1, rfl⟩) (by omega) (rfl) ?_
              refine q_k 1 ?_
              show q_W L (d + 2) 130 q_m130 Q 92 [some (.ref 192), some (.int (nI i)), some (.int (nI j)), some (.int (nI y)), some (.int (nI 0)), some (.int (nI (158 * (3 * (4 * i + j) + y))))] [.int (I 205 (158 * (3 * (4 * i + j) + y)))] (n, I, J, R) 0 0
              refine q_one rfl rfl ?_
              show Q (some (.int (I 205 (158 * (3 * (4 * i + j) + y))))) (n, I, J, R)
              exact hQ
            · skip
              refine q_k 5 ?_
              show q_W L (d + 2) 130 q_m130 Q 48 [some (.ref 192), some (.int (nI i)), some (.int (nI j)), some (.int (nI y)), some (.int (nI 1)), none] [.int ((nI 4) * (nI i)), .int (nI 3), .int (nI 158)] (n, I, J, R) 0 0
              refine q_top (w := nI (4 * i)) (pk_mul _ _) ?_
              refine q_k 2 ?_
              show q_W L (d + 2) 130 q_m130 Q 50 [some (.ref 192), some (.int (nI i)), some (.int (nI j)), some (.int (nI y)), some (.int (nI 1)), none] [.int ((nI (4 * i)) + (nI j)), .int (nI 3), .int (nI 158)] (n, I, J, R) 0 0
              refine q_top (w := nI (4 * i + j)) (nI_add _ _) ?_
              refine q_k 1 ?_
              show q_W L (d + 2) 130 q_m130 Q 51 [some (.ref 192), some (.int (nI i)), some (.int (nI j)), some (.int (nI y)), some (.int (nI 1)), none] [.int ((nI 3) * (nI (4 * i + j))), .int (nI 158)] (n, I, J, R) 0 0
              refine q_top (w := nI (3 * (4 * i + j))) (pk_mul _ _) ?_
              refine q_k 2 ?_
              show q_W L (d + 2) 130 q_m130 Q 53 [some (.ref 192), some (.int (nI i)), some (.int (nI j)), some (.int (nI y)), some (.int (nI 1)), none] [.int ((nI (3 * (4 * i + j))) + (nI y)), .int (nI 158)] (n, I, J, R) 0 0
              refine q_top (w := nI (3 * (4 * i + j) + y)) (nI_add _ _) ?_
              refine q_k 1 ?_
              show q_W L (d + 2) 130 q_m130 Q 54 [some (.ref 192), some (.int (nI i)), some (.int (nI j)), some (.int (nI y)), some (.int (nI 1)), none] [.int ((nI 158) * (nI (3 * (4 * i + j) + y)))] (n, I, J, R) 0 0
              refine q_top (w := nI (158 * (3 * (4 * i + j) + y))) (pk_mul _ _) ?_
              refine q_k 3 ?_
              show q_W L (d + 2) 130 q_m130 Q 59 [some (.ref 192), some (.int (nI i)), some (.int (nI j)), some (.int (nI y)), some (.int (nI 1)), some (.int (nI (158 * (3 * (4 * i + j) + y))))] [.int (nI 4), .int (nI 1)] (n, I, J, R) 0 0
              refine q_one rfl rfl ?_
              show ((nI 4) ≤ (nI 1) → q_W L (d + 2) 130 q_m130 Q 93 [some (.ref 192), some (.int (nI i)), some (.int (nI j)), some (.int (nI y)), some (.int (nI 1)), some (.int (nI (158 * (3 * (4 * i + j) + y))))] [] (n, I, J, R) 0 0) ∧ (¬ (nI 4) ≤ (nI 1) → q_W L (d + 2) 130 q_m130 Q 62 [some (.ref 192), some (.int (nI i)), some (.int (nI j)), some (.int (nI y)), some (.int (nI 1)), some (.int (nI (158 * (3 * (4 * i + j) + y))))] [] (n, I, J, R) 0 0)
              refine ⟨fun z => absurd z (by decide), fun _ => ?_⟩
              refine q_k 1 ?_
              show q_W L (d + 2) 130 q_m130 Q 64 [some (.ref 192), some (.int (nI i)), some (.int (nI j)), some (.int (nI y)), some (.int (nI 1)), some (.int (nI (158 * (3 * (4 * i + j) + y))))] [.int (nI 1)] (n, I, J, R) 0 0
              refine q_one rfl rfl ?_
              show (¬ (nI 1) = 0 → q_W L (d + 2) 130 q_m130 Q 77 [some (.ref 192), some (.int (nI i)), some (.int (nI j)), some (.int (nI y)), some (.int (nI 1)), some (.int (nI (158 * (3 * (4 * i + j) + y))))] [] (n, I, J, R) 0 0) ∧ ((nI 1) = 0 → q_W L (d + 2) 130 q_m130 Q 67 [some (.ref 192), some (.int (nI i)), some (.int (nI j)), some (.int (nI y)), some (.int (nI 1)), some (.int (nI (158 * (3 * (4 * i + j) + y))))] [] (n, I, J, R) 0 0)
              refine ⟨fun _ => ?_, fun z => absurd z (by decide)⟩
              refine q_k 1 ?_
              show q_W L (d + 2) 130 q_m130 Q 78 [some (.ref 192), some (.int (nI i)), some (.int (nI j)), some (.int (nI y)), some (.int (nI 1)), some (.int (nI (158 * (3 * (4 * i + j) + y))))] [.ref 192] (n, I, J, R) 0 0
              refine q_gR (b := 205) rfl rfl (⟨Nat.lt_of_lt_of_le (by decide) hK.1, rfl⟩) (hK.2.1 192 12 205 rfl) ?_
              refine q_k 3 ?_
              show q_W L (d + 2) 130 q_m130 Q 86 [some (.ref 192), some (.int (nI i)), some (.int (nI j)), some (.int (nI y)), some (.int (nI 1)), some (.int (nI (158 * (3 * (4 * i + j) + y))))] [.int ((nI (158 * (3 * (4 * i + j) + y))) + (nI 6)), .ref 205] (n, I, J, R) 0 0
              refine q_top (w := nI (158 * (3 * (4 * i + j) + y) + 6)) (nI_add _ _) ?_
              refine q_k 2 ?_
              show q_W L (d + 2) 130 q_m130 Q 89 [some (.ref 192), some (.int (nI i)), some (.int (nI j)), some (.int (nI y)), some (.int (nI 1)), some (.int (nI (158 * (3 * (4 * i + j) + y))))] [.int ((nI (158 * (3 * (4 * i + j) + y) + 6)) + (nI 1)), .ref 205] (n, I, J, R) 0 0
              refine q_top (w := nI (158 * (3 * (4 * i + j) + y) + 6 + 1)) (nI_add _ _) ?_
              refine q_k 2 ?_
              show q_W L (d + 2) 130 q_m130 Q 91 [some (.ref 192), some (.int (nI i)), some (.int (nI j)), some (.int (nI y)), some (.int (nI 1)), some (.int (nI (158 * (3 * (4 * i + j) + y))))] [.int ((nI (158 * (3 * (4 * i + j) + y) + 6 + 1)) - (nI 1)), .ref 205] (n, I, J, R) 0 0
              refine q_top (w := nI (158 * (3 * (4 * i + j) + y) + 6)) (q_sub (by omega)) ?_
              refine q_ial (m := 158 * (3 * (4 * i + j) + y) + 6) rfl (⟨by decide, Nat.lt_of_lt_of_le (by decide) hK.1, rfl⟩) (by omega) (rfl) ?_
              refine q_one rfl rfl ?_
              show Q (some (.int (I 205 (158 * (3 * (4 * i + j) + y) + 6)))) (n, I, J, R)
              exact hQ
            · skip
              refine q_k 5 ?_
              show q_W L (d + 2) 130 q_m130 Q 48 [some (.ref 192), some (.int (nI i)), some (.int (nI j)), some (.int (nI y)), some (.int (nI 2)), none] [.int ((nI 4) * (nI i)), .int (nI 3), .int (nI 158)] (n, I, J, R) 0 0
              refine q_top (w := nI (4 * i)) (pk_mul _ _) ?_
              refine q_k 2 ?_
              show q_W L (d + 2) 130 q_m130 Q 50 [some (.ref 192), some (.int (nI i)), some (.int (nI j)), some (.int (nI y)), some (.int (nI 2)), none] [.int ((nI (4 * i)) + (nI j)), .int (nI 3), .int (nI 158)] (n, I, J, R) 0 0
              refine q_top (w := nI (4 * i + j)) (nI_add _ _) ?_
              refine q_k 1 ?_
              show q_W L (d + 2) 130 q_m130 Q 51 [some (.ref 192), some (.int (nI i)), some (.int (nI j)), some (.int (nI y)), some (.int (nI 2)), none] [.int ((nI 3) * (nI (4 * i + j))), .int (nI 158)] (n, I, J, R) 0 0
              refine q_top (w := nI (3 * (4 * i + j))) (pk_mul _ _) ?_
              refine q_k 2 ?_
              show q_W L (d + 2) 130 q_m130 Q 53 [some (.ref 192), some (.int (nI i)), some (.int (nI j)), some (.int (nI y)), some (.int (nI 2)), none] [.int ((nI (3 * (4 * i + j))) + (nI y)), .int (nI 158)] (n, I, J, R) 0 0
              refine q_top (w := nI (3 * (4 * i + j) + y)) (nI_add _ _) ?_
              refine q_k 1 ?_
              show q_W L (d + 2) 130 q_m130 Q 54 [some (.ref 192), some (.int (nI i)), some (.int (nI j)), some (.int (nI y)), some (.int (nI 2)), none] [.int ((nI 158) * (nI (3 * (4 * i + j) + y)))] (n, I, J, R) 0 0
              refine q_top (w := nI (158 * (3 * (4 * i + j) + y))) (pk_mul _ _) ?_
              refine q_k 3 ?_
              show q_W L (d + 2) 130 q_m130 Q 59 [some (.ref 192), some (.int (nI i)), some (.int (nI j)), some (.int (nI y)), some (.int (nI 2)), some (.int (nI (158 * (3 * (4 * i + j) + y))))] [.int (nI 4), .int (nI 2)] (n, I, J, R) 0 0
              refine q_one rfl rfl ?_
              show ((nI 4) ≤ (nI 2) → q_W L (d + 2) 130 q_m130 Q 93 [some (.ref 192), some (.int (nI i)), some (.int (nI j)), some (.int (nI y)), some (.int (nI 2)), some (.int (nI (158 * (3 * (4 * i + j) + y))))] [] (n, I, J, R) 0 0) ∧ (¬ (nI 4) ≤ (nI 2) → q_W L (d + 2) 130 q_m130 Q 62 [some (.ref 192), some (.int (nI i)), some (.int (nI j)), some (.int (nI y)), some (.int (nI 2)), some (.int (nI (158 * (3 * (4 * i + j) + y))))] [] (n, I, J, R) 0 0)
              refine ⟨fun z => absurd z (by decide), fun _ => ?_⟩
              refine q_k 1 ?_
              show q_W L (d + 2) 130 q_m130 Q 64 [some (.ref 192), some (.int (nI i)), some (.int (nI j)), some (.int (nI y)), some (.int (nI 2)), some (.int (nI (158 * (3 * (4 * i + j) + y))))] [.int (nI 2)] (n, I, J, R) 0 0
              refine q_one rfl rfl ?_
              show (¬ (nI 2) = 0 → q_W L (d + 2) 130 q_m130 Q 77 [some (.ref 192), some (.int (nI i)), some (.int (nI j)), some (.int (nI y)), some (.int (nI 2)), some (.int (nI (158 * (3 * (4 * i + j) + y))))] [] (n, I, J, R) 0 0) ∧ ((nI 2) = 0 → q_W L (d + 2) 130 q_m130 Q 67 [some (.ref 192), some (.int (nI i)), some (.int (nI j)), some (.int (nI y)), some (.int (nI 2)), some (.int (nI (158 * (3 * (4 * i + j) + y))))] [] (n, I, J, R) 0 0)
              refine ⟨fun _ => ?_, fun z => absurd z (by decide)⟩
              refine q_k 1 ?_
              show q_W L (d + 2) 130 q_m130 Q 78 [some (.ref 192), some (.int (nI i)), some (.int (nI j)), some (.int (nI y)), some (.int (nI 2)), some (.int (nI (158 * (3 * (4 * i + j) + y))))] [.ref 192] (n, I, J, R) 0 0
              refine q_gR (b := 205) rfl rfl (⟨Nat.lt_of_lt_of_le (by decide) hK.1, rfl⟩) (hK.2.1 192 12 205 rfl) ?_
              refine q_k 3 ?_
              show q_W L (d + 2) 130 q_m130 Q 86 [some (.ref 192), some (.int (nI i)), some (.int (nI j)), some (.int (nI y)), some (.int (nI 2)), some (.int (nI (158 * (3 * (4 * i + j) + y))))] [.int ((nI (158 * (3 * (4 * i + j) + y))) + (nI 6)), .ref 205] (n, I, J, R) 0 0
              refine q_top (w := nI (158 * (3 * (4 * i + j) + y) + 6)) (nI_add _ _) ?_
              refine q_k 2 ?_
              show q_W L (d + 2) 130 q_m130 Q 89 [some (.ref 192), some (.int (nI i)), some (.int (nI j)), some (.int (nI y)), some (.int (nI 2)), some (.int (nI (158 * (3 * (4 * i + j) + y))))] [.int ((nI (158 * (3 * (4 * i + j) + y) + 6)) + (nI 2)), .ref 205] (n, I, J, R) 0 0
              refine q_top (w := nI (158 * (3 * (4 * i + j) + y) + 6 + 2)) (nI_add _ _) ?_
              refine q_k 2 ?_
              show q_W L (d + 2) 130 q_m130 Q 91 [some (.ref 192), some (.int (nI i)), some (.int (nI j)), some (.int (nI y)), some (.int (nI 2)), some (.int (nI (158 * (3 * (4 * i + j) + y))))] [.int ((nI (158 * (3 * (4 * i + j) + y) + 6 + 2)) - (nI 1)), .ref 205] (n, I, J, R) 0 0
              refine q_top (w := nI (158 * (3 * (4 * i + j) + y) + 7)) (q_sub (by omega)) ?_
              refine q_ial (m := 158 * (3 * (4 * i + j) + y) + 7) rfl (⟨by decide, Nat.lt_of_lt_of_le (by decide) hK.1, rfl⟩) (by omega) (rfl) ?_
              refine q_one rfl rfl ?_
              show Q (some (.int (I 205 (158 * (3 * (4 * i + j) + y) + 7)))) (n, I, J, R)
              exact hQ
            · skip
              refine q_k 5 ?_
              show q_W L (d + 2) 130 q_m130 Q 48 [some (.ref 192), some (.int (nI i)), some (.int (nI j)), some (.int (nI y)), some (.int (nI 3)), none] [.int ((nI 4) * (nI i)), .int (nI 3), .int (nI 158)] (n, I, J, R) 0 0
              refine q_top (w := nI (4 * i)) (pk_mul _ _) ?_
              refine q_k 2 ?_
              show q_W L (d + 2) 130 q_m130 Q 50 [some (.ref 192), some (.int (nI i)), some (.int (nI j)), some (.int (nI y)), some (.int (nI 3)), none] [.int ((nI (4 * i)) + (nI j)), .int (nI 3), .int (nI 158)] (n, I, J, R) 0 0
              refine q_top (w := nI (4 * i + j)) (nI_add _ _) ?_
              refine q_k 1 ?_
              show q_W L (d + 2) 130 q_m130 Q 51 [some (.ref 192), some (.int (nI i)), some (.int (nI j)), some (.int (nI y)), some (.int (nI 3)), none] [.int ((nI 3) * (nI (4 * i + j))), .int (nI 158)] (n, I, J, R) 0 0
              refine q_top (w := nI (3 * (4 * i + j))) (pk_mul _ _) ?_
              refine q_k 2 ?_
              show q_W L (d + 2) 130 q_m130 Q 53 [some (.ref 192), some (.int (nI i)), some (.int (nI j)), some (.int (nI y)), some (.int (nI 3)), none] [.int ((nI (3 * (4 * i + j))) + (nI y)), .int (nI 158)] (n, I, J, R) 0 0
              refine q_top (w := nI (3 * (4 * i + j) + y)) (nI_add _ _) ?_
              refine q_k 1 ?_
              show q_W L (d + 2) 130 q_m130 Q 54 [some (.ref 192), some (.int (nI i)), some (.int (nI j)), some (.int (nI y)), some (.int (nI 3)), none] [.int ((nI 158) * (nI (3 * (4 * i + j) + y)))] (n, I, J, R) 0 0
              refine q_top (w := nI (158 * (3 * (4 * i + j) + y))) (pk_mul _ _) ?_
              refine q_k 3 ?_
              show q_W L (d + 2) 130 q_m130 Q 59 [some (.ref 192), some (.int (nI i)), some (.int (nI j)), some (.int (nI y)), some (.int (nI 3)), some (.int (nI (158 * (3 * (4 * i + j) + y))))] [.int (nI 4), .int (nI 3)] (n, I, J, R) 0 0
              refine q_one rfl rfl ?_
              show ((nI 4) ≤ (nI 3) → q_W L (d + 2) 130 q_m130 Q 93 [some (.ref 192), some (.int (nI i)), some (.int (nI j)), some (.int (nI y)), some (.int (nI 3)), some (.int (nI (158 * (3 * (4 * i + j) + y))))] [] (n, I, J, R) 0 0) ∧ (¬ (nI 4) ≤ (nI 3) → q_W L (d + 2) 130 q_m130 Q 62 [some (.ref 192), some (.int (nI i)), some (.int (nI j)), some (.int (nI y)), some (.int (nI 3)), some (.int (nI (158 * (3 * (4 * i + j) + y))))] [] (n, I, J, R) 0 0)
              refine ⟨fun z => absurd z (by decide), fun _ => ?_⟩
              refine q_k 1 ?_
              show q_W L (d + 2) 130 q_m130 Q 64 [some (.ref 192), some (.int (nI i)), some (.int (nI j)), some (.int (nI y)), some (.int (nI 3)), some (.int (nI (158 * (3 * (4 * i + j) + y))))] [.int (nI 3)] (n, I, J, R) 0 0
              refine q_one rfl rfl ?_
              show (¬ (nI 3) = 0 → q_W L (d + 2) 130 q_m130 Q 77 [some (.ref 192), some (.int (nI i)), some (.int (nI j)), some (.int (nI y)), some (.int (nI 3)), some (.int (nI (158 * (3 * (4 * i + j) + y))))] [] (n, I, J, R) 0 0) ∧ ((nI 3) = 0 → q_W L (d + 2) 130 q_m130 Q 67 [some (.ref 192), some (.int (nI i)), some (.int (nI j)), some (.int (nI y)), some (.int (nI 3)), some (.int (nI (158 * (3 * (4 * i + j) + y))))] [] (n, I, J, R) 0 0)
              refine ⟨fun _ => ?_, fun z => absurd z (by decide)⟩
              refine q_k 1 ?_
              show q_W L (d + 2) 130 q_m130 Q 78 [some (.ref 192), some (.int (nI i)), some (.int (nI j)), some (.int (nI y)), some (.int (nI 3)), some (.int (nI (158 * (3 * (4 * i + j) + y))))] [.ref 192] (n, I, J, R) 0 0
              refine q_gR (b := 205) rfl rfl (⟨Nat.lt_of_lt_of_le (by decide) hK.1, rfl⟩) (hK.2.1 192 12 205 rfl) ?_
              refine q_k 3 ?_
              show q_W L (d + 2) 130 q_m130 Q 86 [some (.ref 192), some (.int (nI i)), some (.int (nI j)), some (.int (nI y)), some (.int (nI 3)), some (.int (nI (158 * (3 * (4 * i + j) + y))))] [.int ((nI (158 * (3 * (4 * i + j) + y))) + (nI 6)), .ref 205] (n, I, J, R) 0 0
              refine q_top (w := nI (158 * (3 * (4 * i + j) + y) + 6)) (nI_add _ _) ?_
              refine q_k 2 ?_
              show q_W L (d + 2) 130 q_m130 Q 89 [some (.ref 192), some (.int (nI i)), some (.int (nI j)), some (.int (nI y)), some (.int (nI 3)), some (.int (nI (158 * (3 * (4 * i + j) + y))))] [.int ((nI (158 * (3 * (4 * i + j) + y) + 6)) + (nI 3)), .ref 205] (n, I, J, R) 0 0
              refine q_top (w := nI (158 * (3 * (4 * i + j) + y) + 6 + 3)) (nI_add _ _) ?_
              refine q_k 2 ?_
              show q_W L (d + 2) 130 q_m130 Q 91 [some (.ref 192), some (.int (nI i)), some (.int (nI j)), some (.int (nI y)), some (.int (nI 3)), some (.int (nI (158 * (3 * (4 * i + j) + y))))] [.int ((nI (158 * (3 * (4 * i + j) + y) + 6 + 3)) - (nI 1)), .ref 205] (n, I, J, R) 0 0
              refine q_top (w := nI (158 * (3 * (4 * i + j) + y) + 8)) (q_sub (by omega)) ?_
              refine q_ial (m := 158 * (3 * (4 * i + j) + y) + 8) rfl (⟨by decide, Nat.lt_of_lt_of_le (by decide) hK.1, rfl⟩) (by omega) (rfl) ?_
              refine q_one rfl rfl ?_
              show Q (some (.int (I 205 (158 * (3 * (4 * i + j) + y) + 8)))) (n, I, J, R)
              exact hQ
            · skip
              refine q_k 5 ?_
              show q_W L (d + 2) 130 q_m130 Q 48 [some (.ref 192), some (.int (nI i)), some (.int (nI j)), some (.int (nI y)), some (.int (nI 4)), none] [.int ((nI 4) * (nI i)), .int (nI 3), .int (nI 158)] (n, I, J, R) 0 0
              refine q_top (w := nI (4 * i)) (pk_mul _ _) ?_
              refine q_k 2 ?_
              show q_W L (d + 2) 130 q_m130 Q 50 [some (.ref 192), some (.int (nI i)), some (.int (nI j)), some (.int (nI y)), some (.int (nI 4)), none] [.int ((nI (4 * i)) + (nI j)), .int (nI 3), .int (nI 158)] (n, I, J, R) 0 0
              refine q_top (w := nI (4 * i + j)) (nI_add _ _) ?_
              refine q_k 1 ?_
              show q_W L (d + 2) 130 q_m130 Q 51 [some (.ref 192), some (.int (nI i)), some (.int (nI j)), some (.int (nI y)), some (.int (nI 4)), none] [.int ((nI 3) * (nI (4 * i + j))), .int (nI 158)] (n, I, J, R) 0 0
              refine q_top (w := nI (3 * (4 * i + j))) (pk_mul _ _) ?_
              refine q_k 2 ?_
              show q_W L (d + 2) 130 q_m130 Q 53 [some (.ref 192), some (.int (nI i)), some (.int (nI j)), some (.int (nI y)), some (.int (nI 4)), none] [.int ((nI (3 * (4 * i + j))) + (nI y)), .int (nI 158)] (n, I, J, R) 0 0
              refine q_top (w := nI (3 * (4 * i + j) + y)) (nI_add _ _) ?_
              refine q_k 1 ?_
              show q_W L (d + 2) 130 q_m130 Q 54 [some (.ref 192), some (.int (nI i)), some (.int (nI j)), some (.int (nI y)), some (.int (nI 4)), none] [.int ((nI 158) * (nI (3 * (4 * i + j) + y)))] (n, I, J, R) 0 0
              refine q_top (w := nI (158 * (3 * (4 * i + j) + y))) (pk_mul _ _) ?_
              refine q_k 3 ?_
              show q_W L (d + 2) 130 q_m130 Q 59 [some (.ref 192), some (.int (nI i)), some (.int (nI j)), some (.int (nI y)), some (.int (nI 4)), some (.int (nI (158 * (3 * (4 * i + j) + y))))] [.int (nI 4), .int (nI 4)] (n, I, J, R) 0 0
              refine q_one rfl rfl ?_
              show ((nI 4) ≤ (nI 4) → q_W L (d + 2) 130 q_m130 Q 93 [some (.ref 192), some (.int (nI i)), some (.int (nI j)), some (.int (nI y)), some (.int (nI 4)), some (.int (nI (158 * (3 * (4 * i + j) + y))))] [] (n, I, J, R) 0 0) ∧ (¬ (nI 4) ≤ (nI 4) → q_W L (d + 2) 130 q_m130 Q 62 [some (.ref 192), some (.int (nI i)), some (.int (nI j)), some (.int (nI y)), some (.int (nI 4)), some (.int (nI (158 * (3 * (4 * i + j) + y))))] [] (n, I, J, R) 0 0)
              refine ⟨fun _ => ?_, fun z => absurd (by decide) z⟩
              refine q_k 2 ?_
              show q_W L (d + 2) 130 q_m130 Q 97 [some (.ref 192), some (.int (nI i)), some (.int (nI j)), some (.int (nI y)), some (.int (nI 4)), some (.int (nI (158 * (3 * (4 * i + j) + y))))] [.int (nI 7), .int (nI 4)] (n, I, J, R) 0 0
              refine q_one rfl rfl ?_
              show ((nI 7) ≤ (nI 4) → q_W L (d + 2) 130 q_m130 Q 149 [some (.ref 192), some (.int (nI i)), some (.int (nI j)), some (.int (nI y)), some (.int (nI 4)), some (.int (nI (158 * (3 * (4 * i + j) + y))))] [] (n, I, J, R) 0 0) ∧ (¬ (nI 7) ≤ (nI 4) → q_W L (d + 2) 130 q_m130 Q 100 [some (.ref 192), some (.int (nI i)), some (.int (nI j)), some (.int (nI y)), some (.int (nI 4)), some (.int (nI (158 * (3 * (4 * i + j) + y))))] [] (n, I, J, R) 0 0)
              refine ⟨fun z => absurd z (by decide), fun _ => ?_⟩
              refine q_k 2 ?_
              show q_W L (d + 2) 130 q_m130 Q 103 [some (.ref 192), some (.int (nI i)), some (.int (nI j)), some (.int (nI y)), some (.int (nI 4)), some (.int (nI (158 * (3 * (4 * i + j) + y))))] [.int (nI 4), .int (nI 4)] (n, I, J, R) 0 0
              refine q_one rfl rfl ?_
              show (¬ (nI 4) = (nI 4) → q_W L (d + 2) 130 q_m130 Q 119 [some (.ref 192), some (.int (nI i)), some (.int (nI j)), some (.int (nI y)), some (.int (nI 4)), some (.int (nI (158 * (3 * (4 * i + j) + y))))] [] (n, I, J, R) 0 0) ∧ ((nI 4) = (nI 4) → q_W L (d + 2) 130 q_m130 Q 106 [some (.ref 192), some (.int (nI i)), some (.int (nI j)), some (.int (nI y)), some (.int (nI 4)), some (.int (nI (158 * (3 * (4 * i + j) + y))))] [] (n, I, J, R) 0 0)
              refine ⟨fun z => absurd (by decide) z, fun _ => ?_⟩
              refine q_k 1 ?_
              show q_W L (d + 2) 130 q_m130 Q 107 [some (.ref 192), some (.int (nI i)), some (.int (nI j)), some (.int (nI y)), some (.int (nI 4)), some (.int (nI (158 * (3 * (4 * i + j) + y))))] [.ref 192] (n, I, J, R) 0 0
              refine q_gR (b := 205) rfl rfl (⟨Nat.lt_of_lt_of_le (by decide) hK.1, rfl⟩) (hK.2.1 192 12 205 rfl) ?_
              refine q_k 3 ?_
              show q_W L (d + 2) 130 q_m130 Q 115 [some (.ref 192), some (.int (nI i)), some (.int (nI j)), some (.int (nI y)), some (.int (nI 4)), some (.int (nI (158 * (3 * (4 * i + j) + y))))] [.int ((nI (158 * (3 * (4 * i + j) + y))) + (nI 9)), .ref 205] (n, I, J, R) 0 0
              refine q_top (w := nI (158 * (3 * (4 * i + j) + y) + 9)) (nI_add _ _) ?_
              refine q_ial (m := 158 * (3 * (4 * i + j) + y) + 9) rfl (⟨by decide, Nat.lt_of_lt_of_le (by decide) hK.1, rfl⟩) (by omega) (rfl) ?_
              refine q_k 1 ?_
              show q_W L (d + 2) 130 q_m130 Q 148 [some (.ref 192), some (.int (nI i)), some (.int (nI j)), some (.int (nI y)), some (.int (nI 4)), some (.int (nI (158 * (3 * (4 * i + j) + y))))] [.int (I 205 (158 * (3 * (4 * i + j) + y) + 9))] (n, I, J, R) 0 0
              refine q_one rfl rfl ?_
              show Q (some (.int (I 205 (158 * (3 * (4 * i + j) + y) + 9)))) (n, I, J, R)
              exact hQ
            · skip
              refine q_k 5 ?_
              show q_W L (d + 2) 130 q_m130 Q 48 [some (.ref 192), some (.int (nI i)), some (.int (nI j)), some (.int (nI y)), some (.int (nI 5)), none] [.int ((nI 4) * (nI i)), .int (nI 3), .int (nI 158)] (n, I, J, R) 0 0
              refine q_top (w := nI (4 * i)) (pk_mul _ _) ?_
              refine q_k 2 ?_
              show q_W L (d + 2) 130 q_m130 Q 50 [some (.ref 192), some (.int (nI i)), some (.int (nI j)), some (.int (nI y)), some (.int (nI 5)), none] [.int ((nI (4 * i)) + (nI j)), .int (nI 3), .int (nI 158)] (n, I, J, R) 0 0
              refine q_top (w := nI (4 * i + j)) (nI_add _ _) ?_
              refine q_k 1 ?_
              show q_W L (d + 2) 130 q_m130 Q 51 [some (.ref 192), some (.int (nI i)), some (.int (nI j)), some (.int (nI y)), some (.int (nI 5)), none] [.int ((nI 3) * (nI (4 * i + j))), .int (nI 158)] (n, I, J, R) 0 0
              refine q_top (w := nI (3 * (4 * i + j))) (pk_mul _ _) ?_
              refine q_k 2 ?_
              show q_W L (d + 2) 130 q_m130 Q 53 [some (.ref 192), some (.int (nI i)), some (.int (nI j)), some (.int (nI y)), some (.int (nI 5)), none] [.int ((nI (3 * (4 * i + j))) + (nI y)), .int (nI 158)] (n, I, J, R) 0 0
              refine q_top (w := nI (3 * (4 * i + j) + y)) (nI_add _ _) ?_
              refine q_k 1 ?_
              show q_W L (d + 2) 130 q_m130 Q 54 [some (.ref 192), some (.int (nI i)), some (.int (nI j)), some (.int (nI y)), some (.int (nI 5)), none] [.int ((nI 158) * (nI (3 * (4 * i + j) + y)))] (n, I, J, R) 0 0
              refine q_top (w := nI (158 * (3 * (4 * i + j) + y))) (pk_mul _ _) ?_
              refine q_k 3 ?_
              show q_W L (d + 2) 130 q_m130 Q 59 [some (.ref 192), some (.int (nI i)), some (.int (nI j)), some (.int (nI y)), some (.int (nI 5)), some (.int (nI (158 * (3 * (4 * i + j) + y))))] [.int (nI 4), .int (nI 5)] (n, I, J, R) 0 0
              refine q_one rfl rfl ?_
              show ((nI 4) ≤ (nI 5) → q_W L (d + 2) 130 q_m130 Q 93 [some (.ref 192), some (.int (nI i)), some (.int (nI j)), some (.int (nI y)), some (.int (nI 5)), some (.int (nI (158 * (3 * (4 * i + j) + y))))] [] (n, I, J, R) 0 0) ∧ (¬ (nI 4) ≤ (nI 5) → q_W L (d + 2) 130 q_m130 Q 62 [some (.ref 192), some (.int (nI i)), some (.int (nI j)), some (.int (nI y)), some (.int (nI 5)), some (.int (nI (158 * (3 * (4 * i + j) + y))))] [] (n, I, J, R) 0 0)
              refine ⟨fun _ => ?_, fun z => absurd (by decide) z⟩
              refine q_k 2 ?_
              show q_W L (d + 2) 130 q_m130 Q 97 [some (.ref 192), some (.int (nI i)), some (.int (nI j)), some (.int (nI y)), some (.int (nI 5)), some (.int (nI (158 * (3 * (4 * i + j) + y))))] [.int (nI 7), .int (nI 5)] (n, I, J, R) 0 0
              refine q_one rfl rfl ?_
              show ((nI 7) ≤ (nI 5) → q_W L (d + 2) 130 q_m130 Q 149 [some (.ref 192), some (.int (nI i)), some (.int (nI j)), some (.int (nI y)), some (.int (nI 5)), some (.int (nI (158 * (3 * (4 * i + j) + y))))] [] (n, I, J, R) 0 0) ∧ (¬ (nI 7) ≤ (nI 5) → q_W L (d + 2) 130 q_m130 Q 100 [some (.ref 192), some (.int (nI i)), some (.int (nI j)), some (.int (nI y)), some (.int (nI 5)), some (.int (nI (158 * (3 * (4 * i + j) + y))))] [] (n, I, J, R) 0 0)
              refine ⟨fun z => absurd z (by decide), fun _ => ?_⟩
              refine q_k 2 ?_
              show q_W L (d + 2) 130 q_m130 Q 103 [some (.ref 192), some (.int (nI i)), some (.int (nI j)), some (.int (nI y)), some (.int (nI 5)), some (.int (nI (158 * (3 * (4 * i + j) + y))))] [.int (nI 4), .int (nI 5)] (n, I, J, R) 0 0
              refine q_one rfl rfl ?_
              show (¬ (nI 5) = (nI 4) → q_W L (d + 2) 130 q_m130 Q 119 [some (.ref 192), some (.int (nI i)), some (.int (nI j)), some (.int (nI y)), some (.int (nI 5)), some (.int (nI (158 * (3 * (4 * i + j) + y))))] [] (n, I, J, R) 0 0) ∧ ((nI 5) = (nI 4) → q_W L (d + 2) 130 q_m130 Q 106 [some (.ref 192), some (.int (nI i)), some (.int (nI j)), some (.int (nI y)), some (.int (nI 5)), some (.int (nI (158 * (3 * (4 * i + j) + y))))] [] (n, I, J, R) 0 0)
              refine ⟨fun _ => ?_, fun z => absurd z (by decide)⟩
              refine q_k 2 ?_
              show q_W L (d + 2) 130 q_m130 Q 122 [some (.ref 192), some (.int (nI i)), some (.int (nI j)), some (.int (nI y)), some (.int (nI 5)), some (.int (nI (158 * (3 * (4 * i + j) + y))))] [.int (nI 5), .int (nI 5)] (n, I, J, R) 0 0
              refine q_one rfl rfl ?_
              show (¬ (nI 5) = (nI 5) → q_W L (d + 2) 130 q_m130 Q 137 [some (.ref 192), some (.int (nI i)), some (.int (nI j)), some (.int (nI y)), some (.int (nI 5)), some (.int (nI (158 * (3 * (4 * i + j) + y))))] [] (n, I, J, R) 0 0) ∧ ((nI 5) = (nI 5) → q_W L (d + 2) 130 q_m130 Q 125 [some (.ref 192), some (.int (nI i)), some (.int (nI j)), some (.int (nI y)), some (.int (nI 5)), some (.int (nI (158 * (3 * (4 * i + j) + y))))] [] (n, I, J, R) 0 0)
              refine ⟨fun z => absurd (by decide) z, fun _ => ?_⟩
              refine q_k 1 ?_
              show q_W L (d + 2) 130 q_m130 Q 126 [some (.ref 192), some (.int (nI i)), some (.int (nI j)), some (.int (nI y)), some (.int (nI 5)), some (.int (nI (158 * (3 * (4 * i + j) + y))))] [.ref 192] (n, I, J, R) 0 0
              refine q_gR (b := 205) rfl rfl (⟨Nat.lt_of_lt_of_le (by decide) hK.1, rfl⟩) (hK.2.1 192 12 205 rfl) ?_
              refine q_k 3 ?_
              show q_W L (d + 2) 130 q_m130 Q 133 [some (.ref 192), some (.int (nI i)), some (.int (nI j)), some (.int (nI y)), some (.int (nI 5)), some (.int (nI (158 * (3 * (4 * i + j) + y))))] [.int ((nI (158 * (3 * (4 * i + j) + y))) + (nI 1)), .ref 205] (n, I, J, R) 0 0
              refine q_top (w := nI (158 * (3 * (4 * i + j) + y) + 1)) (nI_add _ _) ?_
              refine q_ial (m := 158 * (3 * (4 * i + j) + y) + 1) rfl (⟨by decide, Nat.lt_of_lt_of_le (by decide) hK.1, rfl⟩) (by omega) (rfl) ?_
              refine q_k 1 ?_
              show q_W L (d + 2) 130 q_m130 Q 148 [some (.ref 192), some (.int (nI i)), some (.int (nI j)), some (.int (nI y)), some (.int (nI 5)), some (.int (nI (158 * (3 * (4 * i + j) + y))))] [.int (I 205 (158 * (3 * (4 * i + j) + y) + 1))] (n, I, J, R) 0 0
              refine q_one rfl rfl ?_
              show Q (some (.int (I 205 (158 * (3 * (4 * i + j) + y) + 1)))) (n, I, J, R)
              exact hQ
            · skip
              refine q_k 5 ?_
              show q_W L (d + 2) 130 q_m130 Q 48 [some (.ref 192), some (.int (nI i)), some (.int (nI j)), some (.int (nI y)), some (.int (nI 6)), none] [.int ((nI 4) * (nI i)), .int (nI 3), .int (nI 158)] (n, I, J, R) 0 0
              refine q_top (w := nI (4 * i)) (pk_mul _ _) ?_
              refine q_k 2 ?_
              show q_W L (d + 2) 130 q_m130 Q 50 [some (.ref 192), some (.int (nI i)), some (.int (nI j)), some (.int (nI y)), some (.int (nI 6)), none] [.int ((nI (4 * i)) + (nI j)), .int (nI 3), .int (nI 158)] (n, I, J, R) 0 0
              refine q_top (w := nI (4 * i + j)) (nI_add _ _) ?_
              refine q_k 1 ?_
              show q_W L (d + 2) 130 q_m130 Q 51 [some (.ref 192), some (.int (nI i)), some (.int (nI j)), some (.int (nI y)), some (.int (nI 6)), none] [.int ((nI 3) * (nI (4 * i + j))), .int (nI 158)] (n, I, J, R) 0 0
              refine q_top (w := nI (3 * (4 * i + j))) (pk_mul _ _) ?_
              refine q_k 2 ?_
              show q_W L (d + 2) 130 q_m130 Q 53 [some (.ref 192), some (.int (nI i)), some (.int (nI j)), some (.int (nI y)), some (.int (nI 6)), none] [.int ((nI (3 * (4 * i + j))) + (nI y)), .int (nI 158)] (n, I, J, R) 0 0
              refine q_top (w := nI (3 * (4 * i + j) + y)) (nI_add _ _) ?_
              refine q_k 1 ?_
              show q_W L (d + 2) 130 q_m130 Q 54 [some (.ref 192), some (.int (nI i)), some (.int (nI j)), some (.int (nI y)), some (.int (nI 6)), none] [.int ((nI 158) * (nI (3 * (4 * i + j) + y)))] (n, I, J, R) 0 0
              refine q_top (w := nI (158 * (3 * (4 * i + j) + y))) (pk_mul _ _) ?_
              refine q_k 3 ?_
              show q_W L (d + 2) 130 q_m130 Q 59 [some (.ref 192), some (.int (nI i)), some (.int (nI j)), some (.int (nI y)), some (.int (nI 6)), some (.int (nI (158 * (3 * (4 * i + j) + y))))] [.int (nI 4), .int (nI 6)] (n, I, J, R) 0 0
              refine q_one rfl rfl ?_
              show ((nI 4) ≤ (nI 6) → q_W L (d + 2) 130 q_m130 Q 93 [some (.ref 192), some (.int (nI i)), some (.int (nI j)), some (.int (nI y)), some (.int (nI 6)), some (.int (nI (158 * (3 * (4 * i + j) + y))))] [] (n, I, J, R) 0 0) ∧ (¬ (nI 4) ≤ (nI 6) → q_W L (d + 2) 130 q_m130 Q 62 [some (.ref 192), some (.int (nI i)), some (.int (nI j)), some (.int (nI y)), some (.int (nI 6)), some (.int (nI (158 * (3 * (4 * i + j) + y))))] [] (n, I, J, R) 0 0)
              refine ⟨fun _ => ?_, fun z => absurd (by decide) z⟩
              refine q_k 2 ?_
              show q_W L (d + 2) 130 q_m130 Q 97 [some (.ref 192), some (.int (nI i)), some (.int (nI j)), some (.int (nI y)), some (.int (nI 6)), some (.int (nI (158 * (3 * (4 * i + j) + y))))] [.int (nI 7), .int (nI 6)] (n, I, J, R) 0 0
              refine q_one rfl rfl ?_
              show ((nI 7) ≤ (nI 6) → q_W L (d + 2) 130 q_m130 Q 149 [some (.ref 192), some (.int (nI i)), some (.int (nI j)), some (.int (nI y)), some (.int (nI 6)), some (.int (nI (158 * (3 * (4 * i + j) + y))))] [] (n, I, J, R) 0 0) ∧ (¬ (nI 7) ≤ (nI 6) → q_W L (d + 2) 130 q_m130 Q 100 [some (.ref 192), some (.int (nI i)), some (.int (nI j)), some (.int (nI y)), some (.int (nI 6)), some (.int (nI (158 * (3 * (4 * i + j) + y))))] [] (n, I, J, R) 0 0)
              refine ⟨fun z => absurd z (by decide), fun _ => ?_⟩
              refine q_k 2 ?_
              show q_W L (d + 2) 130 q_m130 Q 103 [some (.ref 192), some (.int (nI i)), some (.int (nI j)), some (.int (nI y)), some (.int (nI 6)), some (.int (nI (158 * (3 * (4 * i + j) + y))))] [.int (nI 4), .int (nI 6)] (n, I, J, R) 0 0
              refine q_one rfl rfl ?_
              show (¬ (nI 6) = (nI 4) → q_W L (d + 2) 130 q_m130 Q 119 [some (.ref 192), some (.int (nI i)), some (.int (nI j)), some (.int (nI y)), some (.int (nI 6)), some (.int (nI (158 * (3 * (4 * i + j) + y))))] [] (n, I, J, R) 0 0) ∧ ((nI 6) = (nI 4) → q_W L (d + 2) 130 q_m130 Q 106 [some (.ref 192), some (.int (nI i)), some (.int (nI j)), some (.int (nI y)), some (.int (nI 6)), some (.int (nI (158 * (3 * (4 * i + j) + y))))] [] (n, I, J, R) 0 0)
              refine ⟨fun _ => ?_, fun z => absurd z (by decide)⟩
              refine q_k 2 ?_
              show q_W L (d + 2) 130 q_m130 Q 122 [some (.ref 192), some (.int (nI i)), some (.int (nI j)), some (.int (nI y)), some (.int (nI 6)), some (.int (nI (158 * (3 * (4 * i + j) + y))))] [.int (nI 5), .int (nI 6)] (n, I, J, R) 0 0
              refine q_one rfl rfl ?_
              show (¬ (nI 6) = (nI 5) → q_W L (d + 2) 130 q_m130 Q 137 [some (.ref 192), some (.int (nI i)), some (.int (nI j)), some (.int (nI y)), some (.int (nI 6)), some (.int (nI (158 * (3 * (4 * i + j) + y))))] [] (n, I, J, R) 0 0) ∧ ((nI 6) = (nI 5) → q_W L (d + 2) 130 q_m130 Q 125 [some (.ref 192), some (.int (nI i)), some (.int (nI j)), some (.int (nI y)), some (.int (nI 6)), some (.int (nI (158 * (3 * (4 * i + j) + y))))] [] (n, I, J, R) 0 0)
              refine ⟨fun _ => ?_, fun z => absurd z (by decide)⟩
              refine q_k 1 ?_
              show q_W L (d + 2) 130 q_m130 Q 138 [some (.ref 192), some (.int (nI i)), some (.int (nI j)), some (.int (nI y)), some (.int (nI 6)), some (.int (nI (158 * (3 * (4 * i + j) + y))))] [.ref 192] (n, I, J, R) 0 0
              refine q_gR (b := 205) rfl rfl (⟨Nat.lt_of_lt_of_le (by decide) hK.1, rfl⟩) (hK.2.1 192 12 205 rfl) ?_
              refine q_k 3 ?_
              show q_W L (d + 2) 130 q_m130 Q 145 [some (.ref 192), some (.int (nI i)), some (.int (nI j)), some (.int (nI y)), some (.int (nI 6)), some (.int (nI (158 * (3 * (4 * i + j) + y))))] [.int ((nI (158 * (3 * (4 * i + j) + y))) + (nI 2)), .ref 205] (n, I, J, R) 0 0
              refine q_top (w := nI (158 * (3 * (4 * i + j) + y) + 2)) (nI_add _ _) ?_
              refine q_k 2 ?_
              show q_W L (d + 2) 130 q_m130 Q 147 [some (.ref 192), some (.int (nI i)), some (.int (nI j)), some (.int (nI y)), some (.int (nI 6)), some (.int (nI (158 * (3 * (4 * i + j) + y))))] [.int ((nI (158 * (3 * (4 * i + j) + y) + 2)) + (nI 1)), .ref 205] (n, I, J, R) 0 0
              refine q_top (w := nI (158 * (3 * (4 * i + j) + y) + 3)) (nI_add _ _) ?_
              refine q_ial (m := 158 * (3 * (4 * i + j) + y) + 3) rfl (⟨by decide, Nat.lt_of_lt_of_le (by decide) hK.1, rfl⟩) (by omega) (rfl) ?_
              refine q_one rfl rfl ?_
              show Q (some (.int (I 205 (158 * (3 * (4 * i + j) + y) + 3)))) (n, I, J, R)
              exact hQ
            · skip
              refine q_k 5 ?_
              show q_W L (d + 2) 130 q_m130 Q 48 [some (.ref 192), some (.int (nI i)), some (.int (nI j)), some (.int (nI y)), some (.int (nI 7)), none] [.int ((nI 4) * (nI i)), .int (nI 3), .int (nI 158)] (n, I, J, R) 0 0
              refine q_top (w := nI (4 * i)) (pk_mul _ _) ?_
              refine q_k 2 ?_
              show q_W L (d + 2) 130 q_m130 Q 50 [some (.ref 192), some (.int (nI i)), some (.int (nI j)), some (.int (nI y)), some (.int (nI 7)), none] [.int ((nI (4 * i)) + (nI j)), .int (nI 3), .int (nI 158)] (n, I, J, R) 0 0
              refine q_top (w := nI (4 * i + j)) (nI_add _ _) ?_
              refine q_k 1 ?_
              show q_W L (d + 2) 130 q_m130 Q 51 [some (.ref 192), some (.int (nI i)), some (.int (nI j)), some (.int (nI y)), some (.int (nI 7)), none] [.int ((nI 3) * (nI (4 * i + j))), .int (nI 158)] (n, I, J, R) 0 0
              refine q_top (w := nI (3 * (4 * i + j))) (pk_mul _ _) ?_
              refine q_k 2 ?_
              show q_W L (d + 2) 130 q_m130 Q 53 [some (.ref 192), some (.int (nI i)), some (.int (nI j)), some (.int (nI y)), some (.int (nI 7)), none] [.int ((nI (3 * (4 * i + j))) + (nI y)), .int (nI 158)] (n, I, J, R) 0 0
              refine q_top (w := nI (3 * (4 * i + j) + y)) (nI_add _ _) ?_
              refine q_k 1 ?_
              show q_W L (d + 2) 130 q_m130 Q 54 [some (.ref 192), some (.int (nI i)), some (.int (nI j)), some (.int (nI y)), some (.int (nI 7)), none] [.int ((nI 158) * (nI (3 * (4 * i + j) + y)))] (n, I, J, R) 0 0
              refine q_top (w := nI (158 * (3 * (4 * i + j) + y))) (pk_mul _ _) ?_
              refine q_k 3 ?_
              show q_W L (d + 2) 130 q_m130 Q 59 [some (.ref 192), some (.int (nI i)), some (.int (nI j)), some (.int (nI y)), some (.int (nI 7)), some (.int (nI (158 * (3 * (4 * i + j) + y))))] [.int (nI 4), .int (nI 7)] (n, I, J, R) 0 0
              refine q_one rfl rfl ?_
              show ((nI 4) ≤ (nI 7) → q_W L (d + 2) 130 q_m130 Q 93 [some (.ref 192), some (.int (nI i)), some (.int (nI j)), some (.int (nI y)), some (.int (nI 7)), some (.int (nI (158 * (3 * (4 * i + j) + y))))] [] (n, I, J, R) 0 0) ∧ (¬ (nI 4) ≤ (nI 7) → q_W L (d + 2) 130 q_m130 Q 62 [some (.ref 192), some (.int (nI i)), some (.int (nI j)), some (.int (nI y)), some (.int (nI 7)), some (.int (nI (158 * (3 * (4 * i + j) + y))))] [] (n, I, J, R) 0 0)
              refine ⟨fun _ => ?_, fun z => absurd (by decide) z⟩
              refine q_k 2 ?_
              show q_W L (d + 2) 130 q_m130 Q 97 [some (.ref 192), some (.int (nI i)), some (.int (nI j)), some (.int (nI y)), some (.int (nI 7)), some (.int (nI (158 * (3 * (4 * i + j) + y))))] [.int (nI 7), .int (nI 7)] (n, I, J, R) 0 0
              refine q_one rfl rfl ?_
              show ((nI 7) ≤ (nI 7) → q_W L (d + 2) 130 q_m130 Q 149 [some (.ref 192), some (.int (nI i)), some (.int (nI j)), some (.int (nI y)), some (.int (nI 7)), some (.int (nI (158 * (3 * (4 * i + j) + y))))] [] (n, I, J, R) 0 0) ∧ (¬ (nI 7) ≤ (nI 7) → q_W L (d + 2) 130 q_m130 Q 100 [some (.ref 192), some (.int (nI i)), some (.int (nI j)), some (.int (nI y)), some (.int (nI 7)), some (.int (nI (158 * (3 * (4 * i + j) + y))))] [] (n, I, J, R) 0 0)
              refine ⟨fun _ => ?_, fun z => absurd (by decide) z⟩
              refine q_k 2 ?_
              show q_W L (d + 2) 130 q_m130 Q 153 [some (.ref 192), some (.int (nI i)), some (.int (nI j)), some (.int (nI y)), some (.int (nI 7)), some (.int (nI (158 * (3 * (4 * i + j) + y))))] [.int (nI 8), .int (nI 7)] (n, I, J, R) 0 0
              refine q_one rfl rfl ?_
              show (¬ (nI 7) = (nI 8) → q_W L (d + 2) 130 q_m130 Q 169 [some (.ref 192), some (.int (nI i)), some (.int (nI j)), some (.int (nI y)), some (.int (nI 7)), some (.int (nI (158 * (3 * (4 * i + j) + y))))] [] (n, I, J, R) 0 0) ∧ ((nI 7) = (nI 8) → q_W L (d + 2) 130 q_m130 Q 156 [some (.ref 192), some (.int (nI i)), some (.int (nI j)), some (.int (nI y)), some (.int (nI 7)), some (.int (nI (158 * (3 * (4 * i + j) + y))))] [] (n, I, J, R) 0 0)
              refine ⟨fun _ => ?_, fun z => absurd z (by decide)⟩
              refine q_k 1 ?_
              show q_W L (d + 2) 130 q_m130 Q 170 [some (.ref 192), some (.int (nI i)), some (.int (nI j)), some (.int (nI y)), some (.int (nI 7)), some (.int (nI (158 * (3 * (4 * i + j) + y))))] [.ref 192] (n, I, J, R) 0 0
              refine q_gR (b := 205) rfl rfl (⟨Nat.lt_of_lt_of_le (by decide) hK.1, rfl⟩) (hK.2.1 192 12 205 rfl) ?_
              refine q_k 3 ?_
              show q_W L (d + 2) 130 q_m130 Q 178 [some (.ref 192), some (.int (nI i)), some (.int (nI j)), some (.int (nI y)), some (.int (nI 7)), some (.int (nI (158 * (3 * (4 * i + j) + y))))] [.int ((nI (158 * (3 * (4 * i + j) + y))) + (nI 10)), .ref 205] (n, I, J, R) 0 0
              refine q_top (w := nI (158 * (3 * (4 * i + j) + y) + 10)) (nI_add _ _) ?_
              refine q_ial (m := 158 * (3 * (4 * i + j) + y) + 10) rfl (⟨by decide, Nat.lt_of_lt_of_le (by decide) hK.1, rfl⟩) (by omega) (rfl) ?_
              refine q_k 1 ?_
              show q_W L (d + 2) 130 q_m130 Q 180 [some (.ref 192), some (.int (nI i)), some (.int (nI j)), some (.int (nI y)), some (.int (nI 7)), some (.int (nI (158 * (3 * (4 * i + j) + y))))] [.int (nI 1), .int (I 205 (158 * (3 * (4 * i + j) + y) + 10))] (n, I, J, R) 0 0
              refine q_one rfl rfl ?_
              show (¬ (I 205 (158 * (3 * (4 * i + j) + y) + 10)) = (nI 1) → q_W L (d + 2) 130 q_m130 Q 200 [some (.ref 192), some (.int (nI i)), some (.int (nI j)), some (.int (nI y)), some (.int (nI 7)), some (.int (nI (158 * (3 * (4 * i + j) + y))))] [] (n, I, J, R) 0 0) ∧ ((I 205 (158 * (3 * (4 * i + j) + y) + 10)) = (nI 1) → q_W L (d + 2) 130 q_m130 Q 183 [some (.ref 192), some (.int (nI i)), some (.int (nI j)), some (.int (nI y)), some (.int (nI 7)), some (.int (nI (158 * (3 * (4 * i + j) + y))))] [] (n, I, J, R) 0 0)
              refine ⟨fun h180 => ?_, fun h180 => ?_⟩
              · skip
                refine q_k 1 ?_
                show q_W L (d + 2) 130 q_m130 Q 201 [some (.ref 192), some (.int (nI i)), some (.int (nI j)), some (.int (nI y)), some (.int (nI 7)), some (.int (nI (158 * (3 * (4 * i + j) + y))))] [.int (nI 0)] (n, I, J, R) 0 0
                refine q_one rfl rfl ?_
                show Q (some (.int (nI 0))) (n, I, J, R)
                have e7 : g_se (f_blk I (4 * i + j) y) 7 = nI 0 := by
                  show (if I 205 (158 * (3 * (4 * i + j) + y) + 10) = nI 1 then (if I 205 (158 * (3 * (4 * i + j) + y) + 11) = 0 then nI 1 else nI 0) else nI 0) = _
                  rw [if_neg h180]
                rw [e7] at hQ
                exact hQ
              · skip
                refine q_k 1 ?_
                show q_W L (d + 2) 130 q_m130 Q 184 [some (.ref 192), some (.int (nI i)), some (.int (nI j)), some (.int (nI y)), some (.int (nI 7)), some (.int (nI (158 * (3 * (4 * i + j) + y))))] [.ref 192] (n, I, J, R) 0 0
                refine q_gR (b := 205) rfl rfl (⟨Nat.lt_of_lt_of_le (by decide) hK.1, rfl⟩) (hK.2.1 192 12 205 rfl) ?_
                refine q_k 3 ?_
                show q_W L (d + 2) 130 q_m130 Q 192 [some (.ref 192), some (.int (nI i)), some (.int (nI j)), some (.int (nI y)), some (.int (nI 7)), some (.int (nI (158 * (3 * (4 * i + j) + y))))] [.int ((nI (158 * (3 * (4 * i + j) + y))) + (nI 11)), .ref 205] (n, I, J, R) 0 0
                refine q_top (w := nI (158 * (3 * (4 * i + j) + y) + 11)) (nI_add _ _) ?_
                refine q_ial (m := 158 * (3 * (4 * i + j) + y) + 11) rfl (⟨by decide, Nat.lt_of_lt_of_le (by decide) hK.1, rfl⟩) (by omega) (rfl) ?_
                refine q_one rfl rfl ?_
                show (¬ (I 205 (158 * (3 * (4 * i + j) + y) + 11)) = 0 → q_W L (d + 2) 130 q_m130 Q 200 [some (.ref 192), some (.int (nI i)), some (.int (nI j)), some (.int (nI y)), some (.int (nI 7)), some (.int (nI (158 * (3 * (4 * i + j) + y))))] [] (n, I, J, R) 0 0) ∧ ((I 205 (158 * (3 * (4 * i + j) + y) + 11)) = 0 → q_W L (d + 2) 130 q_m130 Q 196 [some (.ref 192), some (.int (nI i)), some (.int (nI j)), some (.int (nI y)), some (.int (nI 7)), some (.int (nI (158 * (3 * (4 * i + j) + y))))] [] (n, I, J, R) 0 0)
                refine ⟨fun h193 => ?_, fun h193 => ?_⟩
                · skip
                  refine q_k 1 ?_
                  show q_W L (d + 2) 130 q_m130 Q 201 [some (.ref 192), some (.int (nI i)), some (.int (nI j)), some (.int (nI y)), some (.int (nI 7)), some (.int (nI (158 * (3 * (4 * i + j) + y))))] [.int (nI 0)] (n, I, J, R) 0 0
                  refine q_one rfl rfl ?_
                  show Q (some (.int (nI 0))) (n, I, J, R)
                  have e7 : g_se (f_blk I (4 * i + j) y) 7 = nI 0 := by
                    show (if I 205 (158 * (3 * (4 * i + j) + y) + 10) = nI 1 then (if I 205 (158 * (3 * (4 * i + j) + y) + 11) = 0 then nI 1 else nI 0) else nI 0) = _
                    rw [if_pos h180, if_neg h193]
                  rw [e7] at hQ
                  exact hQ
                · skip
                  refine q_k 2 ?_
                  show q_W L (d + 2) 130 q_m130 Q 201 [some (.ref 192), some (.int (nI i)), some (.int (nI j)), some (.int (nI y)), some (.int (nI 7)), some (.int (nI (158 * (3 * (4 * i + j) + y))))] [.int (nI 1)] (n, I, J, R) 0 0
                  refine q_one rfl rfl ?_
                  show Q (some (.int (nI 1))) (n, I, J, R)
                  have e7 : g_se (f_blk I (4 * i + j) y) 7 = nI 1 := by
                    show (if I 205 (158 * (3 * (4 * i + j) + y) + 10) = nI 1 then (if I 205 (158 * (3 * (4 * i + j) + y) + 11) = 0 then nI 1 else nI 0) else nI 0) = _
                    rw [if_pos h180, if_pos h193]
                  rw [e7] at hQ
                  exact hQ
            · skip
              refine q_k 5 ?_
              show q_W L (d + 2) 130 q_m130 Q 48 [some (.ref 192), some (.int (nI i)), some (.int (nI j)), some (.int (nI y)), some (.int (nI 8)), none] [.int ((nI 4) * (nI i)), .int (nI 3), .int (nI 158)] (n, I, J, R) 0 0
              refine q_top (w := nI (4 * i)) (pk_mul _ _) ?_
              refine q_k 2 ?_
              show q_W L (d + 2) 130 q_m130 Q 50 [some (.ref 192), some (.int (nI i)), some (.int (nI j)), some (.int (nI y)), some (.int (nI 8)), none] [.int ((nI (4 * i)) + (nI j)), .int (nI 3), .int (nI 158)] (n, I, J, R) 0 0
              refine q_top (w := nI (4 * i + j)) (nI_add _ _) ?_
              refine q_k 1 ?_
              show q_W L (d + 2) 130 q_m130 Q 51 [some (.ref 192), some (.int (nI i)), some (.int (nI j)), some (.int (nI y)), some (.int (nI 8)), none] [.int ((nI 3) * (nI (4 * i + j))), .int (nI 158)] (n, I, J, R) 0 0
              refine q_top (w := nI (3 * (4 * i + j))) (pk_mul _ _) ?_
              refine q_k 2 ?_
              show q_W L (d + 2) 130 q_m130 Q 53 [some (.ref 192), some (.int (nI i)), some (.int (nI j)), some (.int (nI y)), some (.int (nI 8)), none] [.int ((nI (3 * (4 * i + j))) + (nI y)), .int (nI 158)] (n, I, J, R) 0 0
              refine q_top (w := nI (3 * (4 * i + j) + y)) (nI_add _ _) ?_
              refine q_k 1 ?_
              show q_W L (d + 2) 130 q_m130 Q 54 [some (.ref 192), some (.int (nI i)), some (.int (nI j)), some (.int (nI y)), some (.int (nI 8)), none] [.int ((nI 158) * (nI (3 * (4 * i + j) + y)))] (n, I, J, R) 0 0
              refine q_top (w := nI (158 * (3 * (4 * i + j) + y))) (pk_mul _ _) ?_
              refine q_k 3 ?_
              show q_W L (d + 2) 130 q_m130 Q 59 [some (.ref 192), some (.int (nI i)), some (.int (nI j)), some (.int (nI y)), some (.int (nI 8)), some (.int (nI (158 * (3 * (4 * i + j) + y))))] [.int (nI 4), .int (nI 8)] (n, I, J, R) 0 0
              refine q_one rfl rfl ?_
              show ((nI 4) ≤ (nI 8) → q_W L (d + 2) 130 q_m130 Q 93 [some (.ref 192), some (.int (nI i)), some (.int (nI j)), some (.int (nI y)), some (.int (nI 8)), some (.int (nI (158 * (3 * (4 * i + j) + y))))] [] (n, I, J, R) 0 0) ∧ (¬ (nI 4) ≤ (nI 8) → q_W L (d + 2) 130 q_m130 Q 62 [some (.ref 192), some (.int (nI i)), some (.int (nI j)), some (.int (nI y)), some (.int (nI 8)), some (.int (nI (158 * (3 * (4 * i + j) + y))))] [] (n, I, J, R) 0 0)
              refine ⟨fun _ => ?_, fun z => absurd (by decide) z⟩
              refine q_k 2 ?_
              show q_W L (d + 2) 130 q_m130 Q 97 [some (.ref 192), some (.int (nI i)), some (.int (nI j)), some (.int (nI y)), some (.int (nI 8)), some (.int (nI (158 * (3 * (4 * i + j) + y))))] [.int (nI 7), .int (nI 8)] (n, I, J, R) 0 0
              refine q_one rfl rfl ?_
              show ((nI 7) ≤ (nI 8) → q_W L (d + 2) 130 q_m130 Q 149 [some (.ref 192), some (.int (nI i)), some (.int (nI j)), some (.int (nI y)), some (.int (nI 8)), some (.int (nI (158 * (3 * (4 * i + j) + y))))] [] (n, I, J, R) 0 0) ∧ (¬ (nI 7) ≤ (nI 8) → q_W L (d + 2) 130 q_m130 Q 100 [some (.ref 192), some (.int (nI i)), some (.int (nI j)), some (.int (nI y)), some (.int (nI 8)), some (.int (nI (158 * (3 * (4 * i + j) + y))))] [] (n, I, J, R) 0 0)
              refine ⟨fun _ => ?_, fun z => absurd (by decide) z⟩
              refine q_k 2 ?_
              show q_W L (d + 2) 130 q_m130 Q 153 [some (.ref 192), some (.int (nI i)), some (.int (nI j)), some (.int (nI y)), some (.int (nI 8)), some (.int (nI (158 * (3 * (4 * i + j) + y))))] [.int (nI 8), .int (nI 8)] (n, I, J, R) 0 0
              refine q_one rfl rfl ?_
              show (¬ (nI 8) = (nI 8) → q_W L (d + 2) 130 q_m130 Q 169 [some (.ref 192), some (.int (nI i)), some (.int (nI j)), some (.int (nI y)), some (.int (nI 8)), some (.int (nI (158 * (3 * (4 * i + j) + y))))] [] (n, I, J, R) 0 0) ∧ ((nI 8) = (nI 8) → q_W L (d + 2) 130 q_m130 Q 156 [some (.ref 192), some (.int (nI i)), some (.int (nI j)), some (.int (nI y)), some (.int (nI 8)), some (.int (nI (158 * (3 * (4 * i + j) + y))))] [] (n, I, J, R) 0 0)
              refine ⟨fun z => absurd (by decide) z, fun _ => ?_⟩
              refine q_k 1 ?_
              show q_W L (d + 2) 130 q_m130 Q 157 [some (.ref 192), some (.int (nI i)), some (.int (nI j)), some (.int (nI y)), some (.int (nI 8)), some (.int (nI (158 * (3 * (4 * i + j) + y))))] [.ref 192] (n, I, J, R) 0 0
              refine q_gR (b := 205) rfl rfl (⟨Nat.lt_of_lt_of_le (by decide) hK.1, rfl⟩) (hK.2.1 192 12 205 rfl) ?_
              refine q_k 3 ?_
              show q_W L (d + 2) 130 q_m130 Q 165 [some (.ref 192), some (.int (nI i)), some (.int (nI j)), some (.int (nI y)), some (.int (nI 8)), some (.int (nI (158 * (3 * (4 * i + j) + y))))] [.int ((nI (158 * (3 * (4 * i + j) + y))) + (nI 14)), .ref 205] (n, I, J, R) 0 0
              refine q_top (w := nI (158 * (3 * (4 * i + j) + y) + 14)) (nI_add _ _) ?_
              refine q_ial (m := 158 * (3 * (4 * i + j) + y) + 14) rfl (⟨by decide, Nat.lt_of_lt_of_le (by decide) hK.1, rfl⟩) (by omega) (rfl) ?_
              refine q_k 1 ?_
              show q_W L (d + 2) 130 q_m130 Q 201 [some (.ref 192), some (.int (nI i)), some (.int (nI j)), some (.int (nI y)), some (.int (nI 8)), some (.int (nI (158 * (3 * (4 * i + j) + y))))] [.int (I 205 (158 * (3 * (4 * i + j) + y) + 14))] (n, I, J, R) 0 0
              refine q_one rfl rfl ?_
              show Q (some (.int (I 205 (158 * (3 * (4 * i + j) + y) + 14)))) (n, I, J, R)
              exact hQ
          · skip
            refine q_k 1 ?_
            show q_W L (d + 2) 130 q_m130 Q 40 [some (.ref 192), some (.int (nI i)), some (.int (nI j)), some (.int (nI y)), some (.int w), none] [.int (-1)] (n, I, J, R) 0 0
            refine q_one rfl rfl ?_
            show Q (some (.int (-1))) (n, I, J, R)
            simp only [g_session, if_neg h6, if_neg h10, g_cl (show i < 10000 by omega), g_cl (show j < 10000 by omega), if_neg h24, if_neg h29, if_neg h36] at hQ
            exact hQ
