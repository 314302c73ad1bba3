theorem m_store {L d n : Nat} {I : q_I} {J : q_L} {R : q_R} {Q : q_Q} {to pl len : Nat} (hK : q_K0 n I R) (hf : q_ar n to 0 len) (hl : Nat.ble len 10000 = true) (hpl : pl + 8 ≤ len) (ht : to ≠ 211) (hQ : ∀ I', (∀ i, i < 8 → I' to (pl + i) = I 211 i) → (∀ j, (j < pl ∨ pl + 8 ≤ j) → I' to j = I to j) → (∀ x, x ≠ to → I' x = I x) → Q none (n, I', J, R)) : q_Ex L (d + 1) 85 [.ref 192, .ref to, .int (nI pl)] (n, I, J, R) Q := by
  refine q_in (x := q_m85) rfl rfl ?_
  show q_W L d 85 q_m85 Q 0 [some (.ref 192), some (.ref to), some (.int (nI pl)), none] [] (n, I, J, R) 0 0
  refine q_k 2 ?_
  show q_W L d 85 q_m85 Q 2 [some (.ref 192), some (.ref to), some (.int (nI pl)), some (.int (nI 0))] [] (n, I, J, R) 0 0
  refine q_loop (σ := q_I) 8 (fun k I2 => (∀ i, i < k → I2 to (pl + i) = I 211 i) ∧ (∀ j, (j < pl ∨ pl + k ≤ j) → I2 to j = I to j) ∧ ∀ x, x ≠ to → I2 x = I x) (fun k I2 => q_W L d 85 q_m85 Q 2 [some (.ref 192), some (.ref to), some (.int (nI pl)), some (.int (nI k))] [] (n, I2, J, R) 0 0) ?_ ?_ 0 I (Nat.zero_le _) ?_
  · intro I2 hI2
    show q_W L d 85 q_m85 Q 2 [some (.ref 192), some (.ref to), some (.int (nI pl)), some (.int (nI 8))] [] (n, I2, J, R) 0 0
    refine q_k 2 ?_
    show q_W L d 85 q_m85 Q 5 [some (.ref 192), some (.ref to), some (.int (nI pl)), some (.int (nI 8))] [.int (nI 8), .int (nI 8)] (n, I2, J, R) 0 0
    refine q_one rfl rfl ?_
    show ((nI 8) ≤ (nI 8) → q_W L d 85 q_m85 Q 25 [some (.ref 192), some (.ref to), some (.int (nI pl)), some (.int (nI 8))] [] (n, I2, J, R) 0 0) ∧ (¬ (nI 8) ≤ (nI 8) → q_W L d 85 q_m85 Q 8 [some (.ref 192), some (.ref to), some (.int (nI pl)), some (.int (nI 8))] [] (n, I2, J, R) 0 0)
    refine ⟨fun _ => ?_, fun z => absurd (nI_le (Nat.le_refl _) (by decide)) z⟩
    refine q_one rfl rfl ?_
    show Q (none) (n, I2, J, R)
    exact hQ I2 hI2.1 hI2.2.1 hI2.2.2
  · intro k I2 hk hI2 ih
    show q_W L d 85 q_m85 Q 2 [some (.ref 192), some (.ref to), some (.int (nI pl)), some (.int (nI k))] [] (n, I2, J, R) 0 0
    refine q_k 2 ?_
    show q_W L d 85 q_m85 Q 5 [some (.ref 192), some (.ref to), some (.int (nI pl)), some (.int (nI k))] [.int (nI 8), .int (nI k)] (n, I2, J, R) 0 0
    refine q_one rfl rfl ?_
    show ((nI 8) ≤ (nI k) → q_W L d 85 q_m85 Q 25 [some (.ref 192), some (.ref to), some (.int (nI pl)), some (.int (nI k))] [] (n, I2, J, R) 0 0) ∧ (¬ (nI 8) ≤ (nI k) → q_W L d 85 q_m85 Q 8 [some (.ref 192), some (.ref to), some (.int (nI pl)), some (.int (nI k))] [] (n, I2, J, R) 0 0)
    refine ⟨fun z => absurd z (nI_ge hk (by decide)), fun _ => ?_⟩
    refine q_k 4 ?_
    show q_W L d 85 q_m85 Q 12 [some (.ref 192), some (.ref to), some (.int (nI pl)), some (.int (nI k))] [.int ((nI pl) + (nI k)), .ref to] (n, I2, J, R) 0 0
    refine q_top (w := nI (pl + k)) (nI_add _ _) ?_
    refine q_k 1 ?_
    show q_W L d 85 q_m85 Q 13 [some (.ref 192), some (.ref to), some (.int (nI pl)), some (.int (nI k))] [.ref 192, .int (nI (pl + k)), .ref to] (n, I2, J, R) 0 0
    refine q_gR (b := 211) rfl rfl (⟨Nat.lt_of_lt_of_le (by decide) hK.1, rfl⟩) (hK.2.1 192 20 211 rfl) ?_
    refine q_k 1 ?_
    show q_W L d 85 q_m85 Q 17 [some (.ref 192), some (.ref to), some (.int (nI pl)), some (.int (nI k))] [.int (nI k), .ref 211, .int (nI (pl + k)), .ref to] (n, I2, J, R) 0 0
    refine q_ial (m := k) rfl (⟨by decide, Nat.lt_of_lt_of_le (by decide) hK.1, rfl⟩) (by omega) (rfl) ?_
    refine q_ias (m := pl + k) rfl (hf) (by omega) (hl) ?_
    refine q_k 1 ?_
    show q_W L d 85 q_m85 Q 22 [some (.ref 192), some (.ref to), some (.int (nI pl)), some (.int ((nI k) + nI 1))] [] (n, q_up I2 to (pl + k) (I2 211 k), J, R) 0 0
    rw [show (nI k) + nI 1 = nI (k + 1) from nI_add _ _]
    refine q_k 1 ?_
    show q_W L d 85 q_m85 Q 2 [some (.ref 192), some (.ref to), some (.int (nI pl)), some (.int (nI (k + 1)))] [] (n, q_up I2 to (pl + k) (I2 211 k), J, R) 0 0
    refine ih _ ⟨fun i hi => ?_, fun j hj => ?_, fun x hx => ?_⟩
    · by_cases e : i = k
      · subst e; rw [q_usk, hI2.2.2 211 (Ne.symm ht)]
      · rw [q_usn (by omega)]; exact hI2.1 i (by omega)
    · rw [q_usn (by omega)]; exact hI2.2.1 j (by omega)
    · rw [q_un hx]; exact hI2.2.2 x hx
  · exact ⟨fun i hi => absurd hi (Nat.not_lt_zero _), fun _ _ => rfl, fun _ _ => rfl⟩
theorem m_fill {L d n : Nat} {I : q_I} {J : q_L} {R : q_R} {Q : q_Q} {a b c e : Int32} (hK : q_K0 n I R) (hQ : ∀ I', (∀ i, i < 8 → I' 212 i = g_fl a b c e i) → (∀ x, x ≠ 212 → I' x = I x) → Q none (n, I', J, R)) : q_Ex L (d + 1) 86 [.ref 192, .int a, .int b, .int c, .int e] (n, I, J, R) Q := by
  refine q_in (x := q_m86) rfl rfl ?_
  show q_W L d 86 q_m86 Q 0 [some (.ref 192), some (.int a), some (.int b), some (.int c), some (.int e), none] [] (n, I, J, R) 0 0
  refine q_k 2 ?_
  show q_W L d 86 q_m86 Q 3 [some (.ref 192), some (.int a), some (.int b), some (.int c), some (.int e), some (.int (nI 0))] [] (n, I, J, R) 0 0
  refine q_loop (σ := q_I) 8 (fun k I2 => (∀ i, i < k → I2 212 i = nI 0) ∧ ∀ x, x ≠ 212 → I2 x = I x) (fun k I2 => q_W L d 86 q_m86 Q 3 [some (.ref 192), some (.int a), some (.int b), some (.int c), some (.int e), some (.int (nI k))] [] (n, I2, J, R) 0 0) ?_ ?_ 0 I (Nat.zero_le _) ?_
  · intro I2 hI2
    show q_W L d 86 q_m86 Q 3 [some (.ref 192), some (.int a), some (.int b), some (.int c), some (.int e), some (.int (nI 8))] [] (n, I2, J, R) 0 0
    refine q_k 2 ?_
    show q_W L d 86 q_m86 Q 7 [some (.ref 192), some (.int a), some (.int b), some (.int c), some (.int e), some (.int (nI 8))] [.int (nI 8), .int (nI 8)] (n, I2, J, R) 0 0
    refine q_one rfl rfl ?_
    show ((nI 8) ≤ (nI 8) → q_W L d 86 q_m86 Q 24 [some (.ref 192), some (.int a), some (.int b), some (.int c), some (.int e), some (.int (nI 8))] [] (n, I2, J, R) 0 0) ∧ (¬ (nI 8) ≤ (nI 8) → q_W L d 86 q_m86 Q 10 [some (.ref 192), some (.int a), some (.int b), some (.int c), some (.int e), some (.int (nI 8))] [] (n, I2, J, R) 0 0)
    refine ⟨fun _ => ?_, fun z => absurd (nI_le (Nat.le_refl _) (by decide)) z⟩
    refine q_k 1 ?_
    show q_W L d 86 q_m86 Q 25 [some (.ref 192), some (.int a), some (.int b), some (.int c), some (.int e), some (.int (nI 8))] [.ref 192] (n, I2, J, R) 0 0
    refine q_gR (b := 212) rfl rfl (⟨Nat.lt_of_lt_of_le (by decide) hK.1, rfl⟩) (hK.2.1 192 21 212 rfl) ?_
    refine q_k 2 ?_
    show q_W L d 86 q_m86 Q 30 [some (.ref 192), some (.int a), some (.int b), some (.int c), some (.int e), some (.int (nI 8))] [.int a, .int (nI 0), .ref 212] (n, I2, J, R) 0 0
    refine q_ias (m := 0) rfl (⟨by decide, Nat.lt_of_lt_of_le (by decide) hK.1, rfl⟩) (by decide) (rfl) ?_
    refine q_k 1 ?_
    show q_W L d 86 q_m86 Q 32 [some (.ref 192), some (.int a), some (.int b), some (.int c), some (.int e), some (.int (nI 8))] [.ref 192] (n, q_up I2 212 0 a, J, R) 0 0
    refine q_gR (b := 212) rfl rfl (⟨Nat.lt_of_lt_of_le (by decide) hK.1, rfl⟩) (hK.2.1 192 21 212 rfl) ?_
    refine q_k 2 ?_
    show q_W L d 86 q_m86 Q 37 [some (.ref 192), some (.int a), some (.int b), some (.int c), some (.int e), some (.int (nI 8))] [.int b, .int (nI 1), .ref 212] (n, q_up I2 212 0 a, J, R) 0 0
    refine q_ias (m := 1) rfl (⟨by decide, Nat.lt_of_lt_of_le (by decide) hK.1, rfl⟩) (by decide) (rfl) ?_
    refine q_k 1 ?_
    show q_W L d 86 q_m86 Q 39 [some (.ref 192), some (.int a), some (.int b), some (.int c), some (.int e), some (.int (nI 8))] [.ref 192] (n, q_up (q_up I2 212 0 a) 212 1 b, J, R) 0 0
    refine q_gR (b := 212) rfl rfl (⟨Nat.lt_of_lt_of_le (by decide) hK.1, rfl⟩) (hK.2.1 192 21 212 rfl) ?_
    refine q_k 2 ?_
    show q_W L d 86 q_m86 Q 44 [some (.ref 192), some (.int a), some (.int b), some (.int c), some (.int e), some (.int (nI 8))] [.int c, .int (nI 2), .ref 212] (n, q_up (q_up I2 212 0 a) 212 1 b, J, R) 0 0
    refine q_ias (m := 2) rfl (⟨by decide, Nat.lt_of_lt_of_le (by decide) hK.1, rfl⟩) (by decide) (rfl) ?_
    refine q_k 1 ?_
    show q_W L d 86 q_m86 Q 46 [some (.ref 192), some (.int a), some (.int b), some (.int c), some (.int e), some (.int (nI 8))] [.ref 192] (n, q_up (q_up (q_up I2 212 0 a) 212 1 b) 212 2 c, J, R) 0 0
    refine q_gR (b := 212) rfl rfl (⟨Nat.lt_of_lt_of_le (by decide) hK.1, rfl⟩) (hK.2.1 192 21 212 rfl) ?_
    refine q_k 2 ?_
    show q_W L d 86 q_m86 Q 52 [some (.ref 192), some (.int a), some (.int b), some (.int c), some (.int e), some (.int (nI 8))] [.int e, .int (nI 3), .ref 212] (n, q_up (q_up (q_up I2 212 0 a) 212 1 b) 212 2 c, J, R) 0 0
    refine q_ias (m := 3) rfl (⟨by decide, Nat.lt_of_lt_of_le (by decide) hK.1, rfl⟩) (by decide) (rfl) ?_
    refine q_one rfl rfl ?_
    show Q (none) (n, q_up (q_up (q_up (q_up I2 212 0 a) 212 1 b) 212 2 c) 212 3 e, J, R)
    refine hQ _ (fun i hi => ?_) (fun x hx => ?_)
    · unfold g_fl
      by_cases e3 : i = 3
      · subst e3; rw [q_usk]; rfl
      · rw [q_usn e3]
        by_cases e2 : i = 2
        · subst e2; rw [q_usk]; rfl
        · rw [q_usn e2]
          by_cases e1 : i = 1
          · subst e1; rw [q_usk]; rfl
          · rw [q_usn e1]
            by_cases e0 : i = 0
            · subst e0; rw [q_usk]; rfl
            · rw [q_usn e0, if_neg e0, if_neg e1, if_neg e2, if_neg e3]; exact hI2.1 i hi
    · rw [q_un hx, q_un hx, q_un hx, q_un hx]; exact hI2.2 x hx
  · intro k I2 hk hI2 ih
    show q_W L d 86 q_m86 Q 3 [some (.ref 192), some (.int a), some (.int b), some (.int c), some (.int e), some (.int (nI k))] [] (n, I2, J, R) 0 0
    refine q_k 2 ?_
    show q_W L d 86 q_m86 Q 7 [some (.ref 192), some (.int a), some (.int b), some (.int c), some (.int e), some (.int (nI k))] [.int (nI 8), .int (nI k)] (n, I2, J, R) 0 0
    refine q_one rfl rfl ?_
    show ((nI 8) ≤ (nI k) → q_W L d 86 q_m86 Q 24 [some (.ref 192), some (.int a), some (.int b), some (.int c), some (.int e), some (.int (nI k))] [] (n, I2, J, R) 0 0) ∧ (¬ (nI 8) ≤ (nI k) → q_W L d 86 q_m86 Q 10 [some (.ref 192), some (.int a), some (.int b), some (.int c), some (.int e), some (.int (nI k))] [] (n, I2, J, R) 0 0)
    refine ⟨fun z => absurd z (nI_ge hk (by decide)), fun _ => ?_⟩
    refine q_k 1 ?_
    show q_W L d 86 q_m86 Q 11 [some (.ref 192), some (.int a), some (.int b), some (.int c), some (.int e), some (.int (nI k))] [.ref 192] (n, I2, J, R) 0 0
    refine q_gR (b := 212) rfl rfl (⟨Nat.lt_of_lt_of_le (by decide) hK.1, rfl⟩) (hK.2.1 192 21 212 rfl) ?_
    refine q_k 2 ?_
    show q_W L d 86 q_m86 Q 17 [some (.ref 192), some (.int a), some (.int b), some (.int c), some (.int e), some (.int (nI k))] [.int (nI 0), .int (nI k), .ref 212] (n, I2, J, R) 0 0
    refine q_ias (m := k) rfl (⟨by decide, Nat.lt_of_lt_of_le (by decide) hK.1, rfl⟩) (by omega) (rfl) ?_
    refine q_k 1 ?_
    show q_W L d 86 q_m86 Q 21 [some (.ref 192), some (.int a), some (.int b), some (.int c), some (.int e), some (.int ((nI k) + nI 1))] [] (n, q_up I2 212 k (nI 0), J, R) 0 0
    rw [show (nI k) + nI 1 = nI (k + 1) from nI_add _ _]
    refine q_k 1 ?_
    show q_W L d 86 q_m86 Q 3 [some (.ref 192), some (.int a), some (.int b), some (.int c), some (.int e), some (.int (nI (k + 1)))] [] (n, q_up I2 212 k (nI 0), J, R) 0 0
    refine ih _ ⟨fun i hi => ?_, fun x hx => ?_⟩
    · by_cases e : i = k
      · subst e; rw [q_usk]
      · rw [q_usn e]; exact hI2.1 i (by omega)
    · rw [q_un hx]; exact hI2.2 x hx
  · exact ⟨fun i hi => absurd hi (Nat.not_lt_zero _), fun _ _ => rfl⟩
theorem m_joined {L d n : Nat} {I : q_I} {J : q_L} {R : q_R} {Q : q_Q} {a b : Int32} (hQ : Q (some (.long (g_join a b))) (n, I, J, R)) : q_Ex L (d + 1) 87 [.int a, .int b] (n, I, J, R) Q := by
  refine q_in (x := q_m87) rfl rfl ?_
  show q_W L d 87 q_m87 Q 0 [some (.int a), some (.int b)] [] (n, I, J, R) 0 0
  refine q_k 9 ?_
  show q_W L d 87 q_m87 Q 12 [some (.int a), some (.int b)] [.long ((((a).toInt64) <<< (((nI 32)).toInt64 &&& 63)) ||| (((b).toInt64) &&& (lN 4294967295)))] (n, I, J, R) 0 0
  refine q_one rfl rfl ?_
  show Q (some (.long ((((a).toInt64) <<< (((nI 32)).toInt64 &&& 63)) ||| (((b).toInt64) &&& (lN 4294967295))))) (n, I, J, R)
  exact hQ
theorem m_longOf {L d n : Nat} {I : q_I} {J : q_L} {R : q_R} {Q : q_Q} (hK : q_K0 n I R) (hQ : Q (some (.long (g_join (I 211 0) (I 211 1)))) (n, I, J, R)) : q_Ex L (d + 2) 88 [.ref 192] (n, I, J, R) Q := by
  refine q_in (x := q_m88) rfl rfl ?_
  show q_W L (d + 1) 88 q_m88 Q 0 [some (.ref 192)] [] (n, I, J, R) 0 0
  refine q_k 1 ?_
  show q_W L (d + 1) 88 q_m88 Q 1 [some (.ref 192)] [.ref 192] (n, I, J, R) 0 0
  refine q_gR (b := 211) rfl rfl (⟨Nat.lt_of_lt_of_le (by decide) hK.1, rfl⟩) (hK.2.1 192 20 211 rfl) ?_
  refine q_k 1 ?_
  show q_W L (d + 1) 88 q_m88 Q 5 [some (.ref 192)] [.int (nI 0), .ref 211] (n, I, J, R) 0 0
  refine q_ial (m := 0) rfl (⟨by decide, Nat.lt_of_lt_of_le (by decide) hK.1, rfl⟩) (by decide) (rfl) ?_
  refine q_k 1 ?_
  show q_W L (d + 1) 88 q_m88 Q 7 [some (.ref 192)] [.ref 192, .int (I 211 0)] (n, I, J, R) 0 0
  refine q_gR (b := 211) rfl rfl (⟨Nat.lt_of_lt_of_le (by decide) hK.1, rfl⟩) (hK.2.1 192 20 211 rfl) ?_
  refine q_k 1 ?_
  show q_W L (d + 1) 88 q_m88 Q 11 [some (.ref 192)] [.int (nI 1), .ref 211, .int (I 211 0)] (n, I, J, R) 0 0
  refine q_ial (m := 1) rfl (⟨by decide, Nat.lt_of_lt_of_le (by decide) hK.1, rfl⟩) (by decide) (rfl) ?_
  refine q_cs (as := [.int (I 211 0), .int (I 211 1)]) (rs := []) rfl rfl rfl rfl rfl ?_
  refine m_joined  ?_
  show q_W L (d + 1) 88 q_m88 Q 15 [some (.ref 192)] [.long (g_join (I 211 0) (I 211 1))] (n, I, J, R) 0 0
  refine q_one rfl rfl ?_
  show Q (some (.long (g_join (I 211 0) (I 211 1)))) (n, I, J, R)
  exact hQ
theorem m_times {L d n : Nat} {I : q_I} {J : q_L} {R : q_R} {Q : q_Q} {a b : Int32} (hQ : Q (some (.int (g_times a b))) (n, I, J, R)) : q_Ex L (d + 1) 79 [.int a, .int b] (n, I, J, R) Q := by
  refine q_in (x := q_m79) rfl rfl ?_
  show q_W L d 79 q_m79 Q 0 [some (.int a), some (.int b)] [] (n, I, J, R) 0 0
  refine q_k 6 ?_
  show q_W L d 79 q_m79 Q 8 [some (.int a), some (.int b)] [.long (lN 2147483647), .long (((a).toInt64) * ((b).toInt64))] (n, I, J, R) 0 0
  refine q_one rfl rfl ?_
  show ¬ (lN 2147483647) = 0 ∧ q_W L d 79 q_m79 Q 9 [some (.int a), some (.int b)] [.long ((((a).toInt64) * ((b).toInt64)) - (((a).toInt64) * ((b).toInt64)) / (lN 2147483647) * (lN 2147483647))] (n, I, J, R) 0 0
  refine ⟨by decide +kernel, ?_⟩
  refine q_k 1 ?_
  show q_W L d 79 q_m79 Q 10 [some (.int a), some (.int b)] [.int (((((a).toInt64) * ((b).toInt64)) - (((a).toInt64) * ((b).toInt64)) / (lN 2147483647) * (lN 2147483647)).toInt32)] (n, I, J, R) 0 0
  refine q_one rfl rfl ?_
  show Q (some (.int (((((a).toInt64) * ((b).toInt64)) - (((a).toInt64) * ((b).toInt64)) / (lN 2147483647) * (lN 2147483647)).toInt32))) (n, I, J, R)
  exact hQ
theorem m_raised_loop {L d n : Nat} {I : q_I} {J : q_L} {R : q_R} {Q : q_Q} {b e : Int32} (hQ : Q (some (.int (g_pow b e))) (n, I, J, R)) : ∀ j k : Nat, k + j = 31 → q_W L (d + 1) 80 q_m80 Q 7 [some (.int b), some (.int e), some (.int ((g_pit b e k).1)), some (.int ((g_pit b e k).2)), some (.int (nI k))] [] (n, I, J, R) 0 0 := by
  intro j
  induction j with
  | zero =>
    intro k hk
    obtain rfl : k = 31 := by omega
    refine q_k 2 ?_
    show q_W L (d + 1) 80 q_m80 Q 11 [some (.int b), some (.int e), some (.int ((g_pit b e 31).1)), some (.int ((g_pit b e 31).2)), some (.int (nI 31))] [.int (nI 31), .int (nI 31)] (n, I, J, R) 0 0
    refine q_one rfl rfl ?_
    show ((nI 31) ≤ (nI 31) → q_W L (d + 1) 80 q_m80 Q 46 [some (.int b), some (.int e), some (.int ((g_pit b e 31).1)), some (.int ((g_pit b e 31).2)), some (.int (nI 31))] [] (n, I, J, R) 0 0) ∧ (¬ (nI 31) ≤ (nI 31) → q_W L (d + 1) 80 q_m80 Q 14 [some (.int b), some (.int e), some (.int ((g_pit b e 31).1)), some (.int ((g_pit b e 31).2)), some (.int (nI 31))] [] (n, I, J, R) 0 0)
    refine ⟨fun _ => ?_, fun z => absurd (nI_le (Nat.le_refl 31) (by decide)) z⟩
    refine q_k 1 ?_
    show q_W L (d + 1) 80 q_m80 Q 47 [some (.int b), some (.int e), some (.int ((g_pit b e 31).1)), some (.int ((g_pit b e 31).2)), some (.int (nI 31))] [.int ((g_pit b e 31).1)] (n, I, J, R) 0 0
    refine q_one rfl rfl ?_
    show Q (some (.int ((g_pit b e 31).1))) (n, I, J, R)
    exact hQ
  | succ j ih =>
    intro k hk
    refine q_k 2 ?_
    show q_W L (d + 1) 80 q_m80 Q 11 [some (.int b), some (.int e), some (.int ((g_pit b e k).1)), some (.int ((g_pit b e k).2)), some (.int (nI k))] [.int (nI 31), .int (nI k)] (n, I, J, R) 0 0
    refine q_one rfl rfl ?_
    show ((nI 31) ≤ (nI k) → q_W L (d + 1) 80 q_m80 Q 46 [some (.int b), some (.int e), some (.int ((g_pit b e k).1)), some (.int ((g_pit b e k).2)), some (.int (nI k))] [] (n, I, J, R) 0 0) ∧ (¬ (nI 31) ≤ (nI k) → q_W L (d + 1) 80 q_m80 Q 14 [some (.int b), some (.int e), some (.int ((g_pit b e k).1)), some (.int ((g_pit b e k).2)), some (.int (nI k))] [] (n, I, J, R) 0 0)
    refine ⟨fun z => absurd z (nI_ge (by omega) (by decide)), fun _ => ?_⟩
    refine q_k 5 ?_
    show q_W L (d + 1) 80 q_m80 Q 20 [some (.int b), some (.int e), some (.int ((g_pit b e k).1)), some (.int ((g_pit b e k).2)), some (.int (nI k))] [.int ((e >>> ((nI k) &&& 31)) &&& (nI 1))] (n, I, J, R) 0 0
    refine q_top (w := g_bk e k) (rfl) ?_
    refine q_k 1 ?_
    show q_W L (d + 1) 80 q_m80 Q 21 [some (.int b), some (.int e), some (.int ((g_pit b e k).1)), some (.int ((g_pit b e k).2)), some (.int (nI k))] [.int (nI 1), .int (g_bk e k)] (n, I, J, R) 0 0
    refine q_one rfl rfl ?_
    show (¬ (g_bk e k) = (nI 1) → q_W L (d + 1) 80 q_m80 Q 32 [some (.int b), some (.int e), some (.int ((g_pit b e k).1)), some (.int ((g_pit b e k).2)), some (.int (nI k))] [] (n, I, J, R) 0 0) ∧ ((g_bk e k) = (nI 1) → q_W L (d + 1) 80 q_m80 Q 24 [some (.int b), some (.int e), some (.int ((g_pit b e k).1)), some (.int ((g_pit b e k).2)), some (.int (nI k))] [] (n, I, J, R) 0 0)
    refine ⟨fun h21 => ?_, fun h21 => ?_⟩
    · skip
      refine q_k 4 ?_
      show q_W L (d + 1) 80 q_m80 Q 36 [some (.int b), some (.int e), some (.int ((g_pit b e k).1)), some (.int ((g_pit b e k).2)), some (.int (nI k))] [.int ((g_pit b e k).2), .int ((g_pit b e k).2)] (n, I, J, R) 0 0
      refine q_cs (as := [.int ((g_pit b e k).2), .int ((g_pit b e k).2)]) (rs := []) rfl rfl rfl rfl rfl ?_
      refine m_times  ?_
      show q_W L (d + 1) 80 q_m80 Q 39 [some (.int b), some (.int e), some (.int ((g_pit b e k).1)), some (.int ((g_pit b e k).2)), some (.int (nI k))] [.int (g_times ((g_pit b e k).2) ((g_pit b e k).2))] (n, I, J, R) 0 0
      refine q_k 2 ?_
      show q_W L (d + 1) 80 q_m80 Q 43 [some (.int b), some (.int e), some (.int ((g_pit b e k).1)), some (.int (g_times ((g_pit b e k).2) ((g_pit b e k).2))), some (.int ((nI k) + nI 1))] [] (n, I, J, R) 0 0
      rw [show (nI k) + nI 1 = nI (k + 1) from nI_add _ _]
      refine q_k 1 ?_
      show q_W L (d + 1) 80 q_m80 Q 7 [some (.int b), some (.int e), some (.int ((g_pit b e k).1)), some (.int (g_times ((g_pit b e k).2) ((g_pit b e k).2))), some (.int (nI (k + 1)))] [] (n, I, J, R) 0 0
      have hk2 := ih (k + 1) (by omega)
      simp only [g_pit, g_pst, if_neg h21] at hk2
      exact hk2
    · skip
      refine q_k 2 ?_
      show q_W L (d + 1) 80 q_m80 Q 26 [some (.int b), some (.int e), some (.int ((g_pit b e k).1)), some (.int ((g_pit b e k).2)), some (.int (nI k))] [.int ((g_pit b e k).2), .int ((g_pit b e k).1)] (n, I, J, R) 0 0
      refine q_cs (as := [.int ((g_pit b e k).1), .int ((g_pit b e k).2)]) (rs := []) rfl rfl rfl rfl rfl ?_
      refine m_times  ?_
      show q_W L (d + 1) 80 q_m80 Q 29 [some (.int b), some (.int e), some (.int ((g_pit b e k).1)), some (.int ((g_pit b e k).2)), some (.int (nI k))] [.int (g_times ((g_pit b e k).1) ((g_pit b e k).2))] (n, I, J, R) 0 0
      refine q_k 4 ?_
      show q_W L (d + 1) 80 q_m80 Q 36 [some (.int b), some (.int e), some (.int (g_times ((g_pit b e k).1) ((g_pit b e k).2))), some (.int ((g_pit b e k).2)), some (.int (nI k))] [.int ((g_pit b e k).2), .int ((g_pit b e k).2)] (n, I, J, R) 0 0
      refine q_cs (as := [.int ((g_pit b e k).2), .int ((g_pit b e k).2)]) (rs := []) rfl rfl rfl rfl rfl ?_
      refine m_times  ?_
      show q_W L (d + 1) 80 q_m80 Q 39 [some (.int b), some (.int e), some (.int (g_times ((g_pit b e k).1) ((g_pit b e k).2))), some (.int ((g_pit b e k).2)), some (.int (nI k))] [.int (g_times ((g_pit b e k).2) ((g_pit b e k).2))] (n, I, J, R) 0 0
      refine q_k 2 ?_
      show q_W L (d + 1) 80 q_m80 Q 43 [some (.int b), some (.int e), some (.int (g_times ((g_pit b e k).1) ((g_pit b e k).2))), some (.int (g_times ((g_pit b e k).2) ((g_pit b e k).2))), some (.int ((nI k) + nI 1))] [] (n, I, J, R) 0 0
      rw [show (nI k) + nI 1 = nI (k + 1) from nI_add _ _]
      refine q_k 1 ?_
      show q_W L (d + 1) 80 q_m80 Q 7 [some (.int b), some (.int e), some (.int (g_times ((g_pit b e k).1) ((g_pit b e k).2))), some (.int (g_times ((g_pit b e k).2) ((g_pit b e k).2))), some (.int (nI (k + 1)))] [] (n, I, J, R) 0 0
      have hk2 := ih (k + 1) (by omega)
      simp only [g_pit, g_pst, if_pos h21] at hk2
      exact hk2
theorem m_raised {L d n : Nat} {I : q_I} {J : q_L} {R : q_R} {Q : q_Q} {b e : Int32} (hQ : Q (some (.int (g_pow b e))) (n, I, J, R)) : q_Ex L (d + 2) 80 [.int b, .int e] (n, I, J, R) Q := by
  refine q_in (x := q_m80) rfl rfl ?_
  show q_W L (d + 1) 80 q_m80 Q 0 [some (.int b), some (.int e), none, none, none] [] (n, I, J, R) 0 0
  refine q_k 6 ?_
  show q_W L (d + 1) 80 q_m80 Q 7 [some (.int b), some (.int e), some (.int (nI 1)), some (.int b), some (.int (nI 0))] [] (n, I, J, R) 0 0
  exact m_raised_loop hQ 31 0 rfl
theorem m_mask {L d n : Nat} {I : q_I} {J : q_L} {R : q_R} {Q : q_Q} (hK : q_K0 n I R) (hQ : ∀ I', (∀ x, x ≠ 209 → x ≠ 210 → x ≠ 211 → I' x = I x) → Q (some (.long (g_wide (I 212) (nI 9) (nI 0) (nI 0) (nI 0)))) (n, I', J, R)) : q_Ex L (d + 4) 110 [.ref 192] (n, I, J, R) Q := by
  refine q_in (x := q_m110) rfl rfl ?_
  show q_W L (d + 3) 110 q_m110 Q 0 [some (.ref 192)] [] (n, I, J, R) 0 0
  refine q_k 2 ?_
  show q_W L (d + 3) 110 q_m110 Q 2 [some (.ref 192)] [.ref 192, .ref 192] (n, I, J, R) 0 0
  refine q_gR (b := 212) rfl rfl (⟨Nat.lt_of_lt_of_le (by decide) hK.1, rfl⟩) (hK.2.1 192 21 212 rfl) ?_
  refine q_k 5 ?_
  show q_W L (d + 3) 110 q_m110 Q 11 [some (.ref 192)] [.int (nI 0), .int (nI 0), .int (nI 0), .int (nI 9), .int (nI 0), .ref 212, .ref 192] (n, I, J, R) 0 0
  refine q_cv (as := [.ref 212, .int (nI 0), .int (nI 9), .int (nI 0), .int (nI 0), .int (nI 0)]) (rs := []) rfl rfl rfl (⟨Nat.lt_of_lt_of_le (by decide) hK.1, rfl⟩) rfl rfl ?_
  refine m_mixed (hK) (⟨by decide, Nat.lt_of_lt_of_le (by decide) hK.1, rfl⟩) (rfl) (by decide) (by decide) (fun I1 h1 f1 => ?_)
  show q_W L (d + 3) 110 q_m110 Q 14 [some (.ref 192)] [] (n, I1, J, R) 0 0
  refine q_k 1 ?_
  show q_W L (d + 3) 110 q_m110 Q 15 [some (.ref 192)] [.ref 192] (n, I1, J, R) 0 0
  refine q_cv (as := []) (rs := []) rfl rfl rfl (⟨Nat.lt_of_lt_of_le (by decide) hK.1, rfl⟩) rfl rfl ?_
  refine m_longOf (q_K0_to hK (f1 0 (by decide) (by decide) (by decide)) (f1 1 (by decide) (by decide) (by decide))) ?_
  show q_W L (d + 3) 110 q_m110 Q 18 [some (.ref 192)] [.long (g_join (I1 211 0) (I1 211 1))] (n, I1, J, R) 0 0
  refine q_one rfl rfl ?_
  show Q (some (.long (g_join (I1 211 0) (I1 211 1)))) (n, I1, J, R)
  rw [h1 0 (by decide), h1 1 (by decide), show (fun j => I 212 (0 + j)) = I 212 from funext fun j => by rw [Nat.zero_add]]
  exact hQ I1 f1
theorem m_tag {L d n : Nat} {I : q_I} {J : q_L} {R : q_R} {Q : q_Q} {x n0 pn a b : Int32} {z : Int64} (hK : q_K0 n I R) (hQ : ∀ I', (∀ x, x ≠ 209 → x ≠ 210 → x ≠ 211 → x ≠ 213 → I' x = I x) → Q (some (.long (g_tag (I 212) x n0 pn z a b))) (n, I', J, R)) : q_Ex L (d + 4) 109 [.ref 192, .int x, .int n0, .int pn, .long z, .int a, .int b] (n, I, J, R) Q := by
  refine q_in (x := q_m109) rfl rfl ?_
  show q_W L (d + 3) 109 q_m109 Q 0 [some (.ref 192), some (.int x), some (.int n0), some (.int pn), some (.long z), none, some (.int a), some (.int b)] [] (n, I, J, R) 0 0
  refine q_k 2 ?_
  show q_W L (d + 3) 109 q_m109 Q 2 [some (.ref 192), some (.int x), some (.int n0), some (.int pn), some (.long z), none, some (.int a), some (.int b)] [.ref 192, .ref 192] (n, I, J, R) 0 0
  refine q_gR (b := 212) rfl rfl (⟨Nat.lt_of_lt_of_le (by decide) hK.1, rfl⟩) (hK.2.1 192 21 212 rfl) ?_
  refine q_k 8 ?_
  show q_W L (d + 3) 109 q_m109 Q 15 [some (.ref 192), some (.int x), some (.int n0), some (.int pn), some (.long z), none, some (.int a), some (.int b)] [.int ((z >>> (((nI 32)).toInt64 &&& 63)).toInt32), .int pn, .int n0, .int x, .int (nI 0), .ref 212, .ref 192] (n, I, J, R) 0 0
  refine q_cv (as := [.ref 212, .int (nI 0), .int x, .int n0, .int pn, .int ((z >>> (((nI 32)).toInt64 &&& 63)).toInt32)]) (rs := []) rfl rfl rfl (⟨Nat.lt_of_lt_of_le (by decide) hK.1, rfl⟩) rfl rfl ?_
  refine m_mixed (hK) (⟨by decide, Nat.lt_of_lt_of_le (by decide) hK.1, rfl⟩) (rfl) (by decide) (by decide) (fun I1 h1 f1 => ?_)
  show q_W L (d + 3) 109 q_m109 Q 18 [some (.ref 192), some (.int x), some (.int n0), some (.int pn), some (.long z), none, some (.int a), some (.int b)] [] (n, I1, J, R) 0 0
  refine q_k 2 ?_
  show q_W L (d + 3) 109 q_m109 Q 20 [some (.ref 192), some (.int x), some (.int n0), some (.int pn), some (.long z), none, some (.int a), some (.int b)] [.ref 192, .ref 192] (n, I1, J, R) 0 0
  refine q_gR (b := 213) rfl rfl (⟨Nat.lt_of_lt_of_le (by decide) hK.1, rfl⟩) (hK.2.1 192 22 213 rfl) ?_
  refine q_k 1 ?_
  show q_W L (d + 3) 109 q_m109 Q 24 [some (.ref 192), some (.int x), some (.int n0), some (.int pn), some (.long z), none, some (.int a), some (.int b)] [.int (nI 0), .ref 213, .ref 192] (n, I1, J, R) 0 0
  refine q_cv (as := [.ref 213, .int (nI 0)]) (rs := []) rfl rfl rfl (⟨Nat.lt_of_lt_of_le (by decide) hK.1, rfl⟩) rfl rfl ?_
  refine m_store (q_K0_to hK (f1 0 (by decide) (by decide) (by decide)) (f1 1 (by decide) (by decide) (by decide))) (⟨by decide, Nat.lt_of_lt_of_le (by decide) hK.1, rfl⟩) (rfl) (by decide) (by decide) (fun I2 h2 g2 f2 => ?_)
  show q_W L (d + 3) 109 q_m109 Q 27 [some (.ref 192), some (.int x), some (.int n0), some (.int pn), some (.long z), none, some (.int a), some (.int b)] [] (n, I2, J, R) 0 0
  refine q_k 2 ?_
  show q_W L (d + 3) 109 q_m109 Q 29 [some (.ref 192), some (.int x), some (.int n0), some (.int pn), some (.long z), none, some (.int a), some (.int b)] [.ref 192, .ref 192] (n, I2, J, R) 0 0
  refine q_gR (b := 213) rfl rfl (⟨Nat.lt_of_lt_of_le (by decide) hK.1, rfl⟩) (hK.2.1 192 22 213 rfl) ?_
  refine q_k 6 ?_
  show q_W L (d + 3) 109 q_m109 Q 42 [some (.ref 192), some (.int x), some (.int n0), some (.int pn), some (.long z), none, some (.int a), some (.int b)] [.int (nI 10), .int b, .int a, .int ((z).toInt32), .int (nI 0), .ref 213, .ref 192] (n, I2, J, R) 0 0
  refine q_cv (as := [.ref 213, .int (nI 0), .int ((z).toInt32), .int a, .int b, .int (nI 10)]) (rs := []) rfl rfl rfl (⟨Nat.lt_of_lt_of_le (by decide) hK.1, rfl⟩) rfl rfl ?_
  refine m_mixed (q_K0_to hK (by rw [f2 0 (by decide)]; exact f1 0 (by decide) (by decide) (by decide)) (by rw [f2 1 (by decide)]; exact f1 1 (by decide) (by decide) (by decide))) (⟨by decide, Nat.lt_of_lt_of_le (by decide) hK.1, rfl⟩) (rfl) (by decide) (by decide) (fun I3 h3 f3 => ?_)
  show q_W L (d + 3) 109 q_m109 Q 45 [some (.ref 192), some (.int x), some (.int n0), some (.int pn), some (.long z), none, some (.int a), some (.int b)] [] (n, I3, J, R) 0 0
  refine q_k 1 ?_
  show q_W L (d + 3) 109 q_m109 Q 46 [some (.ref 192), some (.int x), some (.int n0), some (.int pn), some (.long z), none, some (.int a), some (.int b)] [.ref 192] (n, I3, J, R) 0 0
  refine q_cv (as := []) (rs := []) rfl rfl rfl (⟨Nat.lt_of_lt_of_le (by decide) hK.1, rfl⟩) rfl rfl ?_
  refine m_longOf (q_K0_to hK (by rw [f3 0 (by decide) (by decide) (by decide), f2 0 (by decide)]; exact f1 0 (by decide) (by decide) (by decide)) (by rw [f3 1 (by decide) (by decide) (by decide), f2 1 (by decide)]; exact f1 1 (by decide) (by decide) (by decide))) ?_
  show q_W L (d + 3) 109 q_m109 Q 49 [some (.ref 192), some (.int x), some (.int n0), some (.int pn), some (.long z), none, some (.int a), some (.int b)] [.long (g_join (I3 211 0) (I3 211 1))] (n, I3, J, R) 0 0
  refine q_one rfl rfl ?_
  show Q (some (.long (g_join (I3 211 0) (I3 211 1)))) (n, I3, J, R)
  have hkey : ∀ i, i < 8 → I2 213 (0 + i) = g_mix (I 212) x n0 pn (g_up z) i := fun i hi => by
    rw [h2 i hi, h1 i hi, show (fun j => I 212 (0 + j)) = I 212 from funext fun j => by rw [Nat.zero_add]]
    rfl
  have hw : g_join (I3 211 0) (I3 211 1) = g_tag (I 212) x n0 pn z a b := by
    rw [h3 0 (by decide), h3 1 (by decide), g_mix_c (i := 0) hkey _ _ _ _ (by decide), g_mix_c (i := 1) hkey _ _ _ _ (by decide)]
    rfl
  rw [hw]
  exact hQ I3 (fun y h9 h10 h11 h13 => by rw [f3 y h9 h10 h11, f2 y h13]; exact f1 y h9 h10 h11)
theorem m_hash {L d n : Nat} {I : q_I} {J : q_L} {R : q_R} {Q : q_Q} {x s r : Int32} (hK : q_K0 n I R) (hQ : ∀ I', (∀ x, x ≠ 209 → x ≠ 210 → x ≠ 211 → x ≠ 212 → I' x = I x) → Q (some (.int (g_hash x s r))) (n, I', J, R)) : q_Ex L (d + 4) 93 [.ref 192, .int x, .int s, .int r] (n, I, J, R) Q := by
  refine q_in (x := q_m93) rfl rfl ?_
  show q_W L (d + 3) 93 q_m93 Q 0 [some (.ref 192), some (.int x), some (.int s), some (.int r)] [] (n, I, J, R) 0 0
  refine q_k 5 ?_
  show q_W L (d + 3) 93 q_m93 Q 5 [some (.ref 192), some (.int x), some (.int s), some (.int r)] [.int (nI 0), .int (nI 0), .int (nI 0), .int (nI 0), .ref 192] (n, I, J, R) 0 0
  refine q_cv (as := [.int (nI 0), .int (nI 0), .int (nI 0), .int (nI 0)]) (rs := []) rfl rfl rfl (⟨Nat.lt_of_lt_of_le (by decide) hK.1, rfl⟩) rfl rfl ?_
  refine m_fill (hK) (fun I1 h1 f1 => ?_)
  show q_W L (d + 3) 93 q_m93 Q 8 [some (.ref 192), some (.int x), some (.int s), some (.int r)] [] (n, I1, J, R) 0 0
  refine q_k 2 ?_
  show q_W L (d + 3) 93 q_m93 Q 10 [some (.ref 192), some (.int x), some (.int s), some (.int r)] [.ref 192, .ref 192] (n, I1, J, R) 0 0
  refine q_gR (b := 212) rfl rfl (⟨Nat.lt_of_lt_of_le (by decide) hK.1, rfl⟩) (hK.2.1 192 21 212 rfl) ?_
  refine q_k 5 ?_
  show q_W L (d + 3) 93 q_m93 Q 18 [some (.ref 192), some (.int x), some (.int s), some (.int r)] [.int (nI 3), .int r, .int s, .int x, .int (nI 0), .ref 212, .ref 192] (n, I1, J, R) 0 0
  refine q_cv (as := [.ref 212, .int (nI 0), .int x, .int s, .int r, .int (nI 3)]) (rs := []) rfl rfl rfl (⟨Nat.lt_of_lt_of_le (by decide) hK.1, rfl⟩) rfl rfl ?_
  refine m_mixed (q_K0_to hK (f1 0 (by decide)) (f1 1 (by decide))) (⟨by decide, Nat.lt_of_lt_of_le (by decide) hK.1, rfl⟩) (rfl) (by decide) (by decide) (fun I2 h2 f2 => ?_)
  show q_W L (d + 3) 93 q_m93 Q 21 [some (.ref 192), some (.int x), some (.int s), some (.int r)] [] (n, I2, J, R) 0 0
  refine q_k 1 ?_
  show q_W L (d + 3) 93 q_m93 Q 22 [some (.ref 192), some (.int x), some (.int s), some (.int r)] [.ref 192] (n, I2, J, R) 0 0
  refine q_gR (b := 211) rfl rfl (⟨Nat.lt_of_lt_of_le (by decide) hK.1, rfl⟩) (hK.2.1 192 20 211 rfl) ?_
  refine q_k 1 ?_
  show q_W L (d + 3) 93 q_m93 Q 26 [some (.ref 192), some (.int x), some (.int s), some (.int r)] [.int (nI 0), .ref 211] (n, I2, J, R) 0 0
  refine q_ial (m := 0) rfl (⟨by decide, Nat.lt_of_lt_of_le (by decide) hK.1, rfl⟩) (by decide) (rfl) ?_
  refine q_k 2 ?_
  show q_W L (d + 3) 93 q_m93 Q 29 [some (.ref 192), some (.int x), some (.int s), some (.int r)] [.int ((((I2 211 0)).toUInt32 >>> (((nI 1)).toUInt32 &&& Int32.toUInt32 31)).toInt32)] (n, I2, J, R) 0 0
  refine q_one rfl rfl ?_
  show Q (some (.int ((((I2 211 0)).toUInt32 >>> (((nI 1)).toUInt32 &&& Int32.toUInt32 31)).toInt32))) (n, I2, J, R)
  have hw : I2 211 0 = g_mix (g_fl (nI 0) (nI 0) (nI 0) (nI 0)) x s r (nI 3) 0 := by
    rw [h2 0 (by decide)]
    exact g_mix_c (fun i hi => by rw [Nat.zero_add]; exact h1 i hi) _ _ _ _ (by decide)
  rw [hw]
  exact hQ I2 (fun y h9 h10 h11 h12 => by rw [f2 y h9 h10 h11]; exact f1 y h12)
theorem m_draw {L d n : Nat} {I : q_I} {J : q_L} {R : q_R} {Q : q_Q} {u : Nat} (hK : q_K0 n I R) (hu : u < 4) (hQ : ∀ I', I' 192 23 = g_priv (I 194 u) (I 195 u) u (I 196 u + nI 1) → I' 192 24 = g_pub (g_priv (I 194 u) (I 195 u) u (I 196 u + nI 1)) → I' 196 = va_up (I 196) u (I 196 u + nI 1) → (∀ x, x ≠ 192 → x ≠ 196 → x ≠ 209 → x ≠ 210 → x ≠ 211 → x ≠ 212 → I' x = I x) → (∀ k, k ≠ 23 → k ≠ 24 → I' 192 k = I 192 k) → Q none (n, I', J, R)) : q_Ex L (d + 4) 92 [.ref 192, .int (nI u)] (n, I, J, R) Q := by
  refine q_in (x := q_m92) rfl rfl ?_
  show q_W L (d + 3) 92 q_m92 Q 0 [some (.ref 192), some (.int (nI u))] [] (n, I, J, R) 0 0
  refine q_k 1 ?_
  show q_W L (d + 3) 92 q_m92 Q 1 [some (.ref 192), some (.int (nI u))] [.ref 192] (n, I, J, R) 0 0
  refine q_gR (b := 196) rfl rfl (⟨Nat.lt_of_lt_of_le (by decide) hK.1, rfl⟩) (hK.2.1 192 3 196 rfl) ?_
  refine q_k 2 ?_
  show q_W L (d + 3) 92 q_m92 Q 6 [some (.ref 192), some (.int (nI u))] [.int (nI u), .ref 196, .int (nI u), .ref 196] (n, I, J, R) 0 0
  refine q_ial (m := u) rfl (⟨by decide, Nat.lt_of_lt_of_le (by decide) hK.1, rfl⟩) (hu) (rfl) ?_
  refine q_k 2 ?_
  show q_W L (d + 3) 92 q_m92 Q 9 [some (.ref 192), some (.int (nI u))] [.int ((I 196 u) + (nI 1)), .int (nI u), .ref 196] (n, I, J, R) 0 0
  refine q_ias (m := u) rfl (⟨by decide, Nat.lt_of_lt_of_le (by decide) hK.1, rfl⟩) (hu) (rfl) ?_
  obtain ⟨I0, eI0⟩ : ∃ zz9, zz9 = q_up I 196 u ((I 196 u) + (nI 1)) := ⟨_, rfl⟩
  rw [← eI0]
  refine q_k 2 ?_
  show q_W L (d + 3) 92 q_m92 Q 12 [some (.ref 192), some (.int (nI u))] [.ref 192, .ref 192] (n, I0, J, R) 0 0
  refine q_gR (b := 194) rfl rfl (⟨Nat.lt_of_lt_of_le (by decide) hK.1, rfl⟩) (hK.2.1 192 1 194 rfl) ?_
  refine q_k 1 ?_
  show q_W L (d + 3) 92 q_m92 Q 16 [some (.ref 192), some (.int (nI u))] [.int (nI u), .ref 194, .ref 192] (n, I0, J, R) 0 0
  refine q_ial (m := u) rfl (⟨by decide, Nat.lt_of_lt_of_le (by decide) hK.1, rfl⟩) (hu) (rfl) ?_
  refine q_top (w := I 194 u) (by rw [eI0, q_un (by decide)]) ?_
  refine q_k 1 ?_
  show q_W L (d + 3) 92 q_m92 Q 18 [some (.ref 192), some (.int (nI u))] [.ref 192, .int (I 194 u), .ref 192] (n, I0, J, R) 0 0
  refine q_gR (b := 195) rfl rfl (⟨Nat.lt_of_lt_of_le (by decide) hK.1, rfl⟩) (hK.2.1 192 2 195 rfl) ?_
  refine q_k 1 ?_
  show q_W L (d + 3) 92 q_m92 Q 22 [some (.ref 192), some (.int (nI u))] [.int (nI u), .ref 195, .int (I 194 u), .ref 192] (n, I0, J, R) 0 0
  refine q_ial (m := u) rfl (⟨by decide, Nat.lt_of_lt_of_le (by decide) hK.1, rfl⟩) (hu) (rfl) ?_
  refine q_top (w := I 195 u) (by rw [eI0, q_un (by decide)]) ?_
  refine q_k 2 ?_
  show q_W L (d + 3) 92 q_m92 Q 25 [some (.ref 192), some (.int (nI u))] [.int (nI 0), .int (nI u), .int (I 195 u), .int (I 194 u), .ref 192] (n, I0, J, R) 0 0
  refine q_cv (as := [.int (I 194 u), .int (I 195 u), .int (nI u), .int (nI 0)]) (rs := []) rfl rfl rfl (⟨Nat.lt_of_lt_of_le (by decide) hK.1, rfl⟩) rfl rfl ?_
  refine m_fill (q_K0_to hK (by rw [eI0, q_un (by decide)]) (by rw [eI0, q_un (by decide)])) (fun I1 h1 f1 => ?_)
  show q_W L (d + 3) 92 q_m92 Q 28 [some (.ref 192), some (.int (nI u))] [] (n, I1, J, R) 0 0
  refine q_k 2 ?_
  show q_W L (d + 3) 92 q_m92 Q 30 [some (.ref 192), some (.int (nI u))] [.ref 192, .ref 192] (n, I1, J, R) 0 0
  refine q_gR (b := 212) rfl rfl (⟨Nat.lt_of_lt_of_le (by decide) hK.1, rfl⟩) (hK.2.1 192 21 212 rfl) ?_
  refine q_k 2 ?_
  show q_W L (d + 3) 92 q_m92 Q 35 [some (.ref 192), some (.int (nI u))] [.ref 192, .int (nI 0), .ref 212, .ref 192] (n, I1, J, R) 0 0
  refine q_gR (b := 196) rfl rfl (⟨Nat.lt_of_lt_of_le (by decide) hK.1, rfl⟩) (hK.2.1 192 3 196 rfl) ?_
  refine q_k 1 ?_
  show q_W L (d + 3) 92 q_m92 Q 39 [some (.ref 192), some (.int (nI u))] [.int (nI u), .ref 196, .int (nI 0), .ref 212, .ref 192] (n, I1, J, R) 0 0
  refine q_ial (m := u) rfl (⟨by decide, Nat.lt_of_lt_of_le (by decide) hK.1, rfl⟩) (hu) (rfl) ?_
  refine q_top (w := I 196 u + nI 1) (by rw [f1 196 (by decide), eI0, q_usk]) ?_
  refine q_k 3 ?_
  show q_W L (d + 3) 92 q_m92 Q 43 [some (.ref 192), some (.int (nI u))] [.int (nI 0), .int (nI 0), .int (nI 1), .int (I 196 u + nI 1), .int (nI 0), .ref 212, .ref 192] (n, I1, J, R) 0 0
  refine q_cv (as := [.ref 212, .int (nI 0), .int (I 196 u + nI 1), .int (nI 1), .int (nI 0), .int (nI 0)]) (rs := []) rfl rfl rfl (⟨Nat.lt_of_lt_of_le (by decide) hK.1, rfl⟩) rfl rfl ?_
  refine m_mixed (q_K0_to hK (by rw [f1 0 (by decide), eI0, q_un (by decide)]) (by rw [f1 1 (by decide), eI0, q_un (by decide)])) (⟨by decide, Nat.lt_of_lt_of_le (by decide) hK.1, rfl⟩) (rfl) (by decide) (by decide) (fun I2 h2 f2 => ?_)
  show q_W L (d + 3) 92 q_m92 Q 46 [some (.ref 192), some (.int (nI u))] [] (n, I2, J, R) 0 0
  refine q_k 3 ?_
  show q_W L (d + 3) 92 q_m92 Q 49 [some (.ref 192), some (.int (nI u))] [.ref 192, .int (nI 2), .ref 192] (n, I2, J, R) 0 0
  refine q_gR (b := 211) rfl rfl (⟨Nat.lt_of_lt_of_le (by decide) hK.1, rfl⟩) (hK.2.1 192 20 211 rfl) ?_
  refine q_k 1 ?_
  show q_W L (d + 3) 92 q_m92 Q 53 [some (.ref 192), some (.int (nI u))] [.int (nI 0), .ref 211, .int (nI 2), .ref 192] (n, I2, J, R) 0 0
  refine q_ial (m := 0) rfl (⟨by decide, Nat.lt_of_lt_of_le (by decide) hK.1, rfl⟩) (by decide) (rfl) ?_
  refine q_top (w := (g_mix (g_fl (I 194 u) (I 195 u) (nI u) (nI 0)) (I 196 u + nI 1) (nI 1) (nI 0) (nI 0) 0)) (by rw [h2 0 (by decide)]; exact g_mix_c (fun i hi => by rw [Nat.zero_add]; exact h1 i hi) _ _ _ _ (by decide)) ?_
  refine q_k 3 ?_
  show q_W L (d + 3) 92 q_m92 Q 58 [some (.ref 192), some (.int (nI u))] [.int (nI 2147483644), .int ((((g_mix (g_fl (I 194 u) (I 195 u) (nI u) (nI 0)) (I 196 u + nI 1) (nI 1) (nI 0) (nI 0) 0)).toUInt32 >>> (((nI 1)).toUInt32 &&& Int32.toUInt32 31)).toInt32), .int (nI 2), .ref 192] (n, I2, J, R) 0 0
  refine q_one rfl rfl ?_
  show ¬ (nI 2147483644) = 0 ∧ q_W L (d + 3) 92 q_m92 Q 59 [some (.ref 192), some (.int (nI u))] [.int (((((g_mix (g_fl (I 194 u) (I 195 u) (nI u) (nI 0)) (I 196 u + nI 1) (nI 1) (nI 0) (nI 0) 0)).toUInt32 >>> (((nI 1)).toUInt32 &&& Int32.toUInt32 31)).toInt32) - ((((g_mix (g_fl (I 194 u) (I 195 u) (nI u) (nI 0)) (I 196 u + nI 1) (nI 1) (nI 0) (nI 0) 0)).toUInt32 >>> (((nI 1)).toUInt32 &&& Int32.toUInt32 31)).toInt32) / (nI 2147483644) * (nI 2147483644)), .int (nI 2), .ref 192] (n, I2, J, R) 0 0
  refine ⟨by decide +kernel, ?_⟩
  refine q_top (w := g_half (g_mix (g_fl (I 194 u) (I 195 u) (nI u) (nI 0)) (I 196 u + nI 1) (nI 1) (nI 0) (nI 0) 0) - g_half (g_mix (g_fl (I 194 u) (I 195 u) (nI u) (nI 0)) (I 196 u + nI 1) (nI 1) (nI 0) (nI 0) 0) / nI 2147483644 * nI 2147483644) (rfl) ?_
  refine q_k 1 ?_
  show q_W L (d + 3) 92 q_m92 Q 60 [some (.ref 192), some (.int (nI u))] [.int ((nI 2) + (g_half (g_mix (g_fl (I 194 u) (I 195 u) (nI u) (nI 0)) (I 196 u + nI 1) (nI 1) (nI 0) (nI 0) 0) - g_half (g_mix (g_fl (I 194 u) (I 195 u) (nI u) (nI 0)) (I 196 u + nI 1) (nI 1) (nI 0) (nI 0) 0) / nI 2147483644 * nI 2147483644)), .ref 192] (n, I2, J, R) 0 0
  refine q_top (w := g_priv (I 194 u) (I 195 u) u (I 196 u + nI 1)) (rfl) ?_
  refine q_pI rfl rfl rfl (⟨Nat.lt_of_lt_of_le (by decide) hK.1, rfl⟩) ?_
  obtain ⟨I3, eI3⟩ : ∃ zz9, zz9 = q_up I2 192 23 (g_priv (I 194 u) (I 195 u) u (I 196 u + nI 1)) := ⟨_, rfl⟩
  rw [← eI3]
  refine q_k 3 ?_
  show q_W L (d + 3) 92 q_m92 Q 67 [some (.ref 192), some (.int (nI u))] [.ref 192, .int (nI 7), .ref 192] (n, I3, J, R) 0 0
  refine q_gI rfl rfl (⟨Nat.lt_of_lt_of_le (by decide) hK.1, rfl⟩) ?_
  refine q_top (w := g_priv (I 194 u) (I 195 u) u (I 196 u + nI 1)) (by rw [eI3, q_usk]) ?_
  refine q_cs (as := [.int (nI 7), .int (g_priv (I 194 u) (I 195 u) u (I 196 u + nI 1))]) (rs := [.ref 192]) rfl rfl rfl rfl rfl ?_
  refine m_raised  ?_
  show q_W L (d + 3) 92 q_m92 Q 73 [some (.ref 192), some (.int (nI u))] [.int (g_pow (nI 7) (g_priv (I 194 u) (I 195 u) u (I 196 u + nI 1))), .ref 192] (n, I3, J, R) 0 0
  refine q_pI rfl rfl rfl (⟨Nat.lt_of_lt_of_le (by decide) hK.1, rfl⟩) ?_
  obtain ⟨I4, eI4⟩ : ∃ zz9, zz9 = q_up I3 192 24 (g_pow (nI 7) (g_priv (I 194 u) (I 195 u) u (I 196 u + nI 1))) := ⟨_, rfl⟩
  rw [← eI4]
  refine q_one rfl rfl ?_
  show Q (none) (n, I4, J, R)
  refine hQ I4 ?_ ?_ ?_ (fun y h1' h2' h9 h10 h11 h12 => ?_) (fun k h23 h24 => ?_)
  · rw [eI4, q_usn (by decide), eI3, q_usk]
  · rw [eI4, q_usk]; rfl
  · rw [eI4, q_un (by decide), eI3, q_un (by decide), f2 196 (by decide) (by decide) (by decide), f1 196 (by decide), eI0, q_us]
  · rw [eI4, q_un h1', eI3, q_un h1', f2 y h9 h10 h11, f1 y h12, eI0, q_un h2']
  · rw [eI4, q_usn h24, eI3, q_usn h23, f2 192 (by decide) (by decide) (by decide), f1 192 (by decide), eI0, q_un (by decide)]
