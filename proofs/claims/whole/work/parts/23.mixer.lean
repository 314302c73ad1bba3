theorem c_turn {L d n : Nat} {I : q_I} {J : q_L} {R : q_R} {Q : q_Q} {p q r s : Nat} (hK : q_K0 n I R) (hp : p < 16) (hq : q < 16) (hr : r < 16) (hs : s < 16) (hQ : ∀ I', I' 6 = g_turn p q r s (I 6) → (∀ x, x ≠ 6 → I' x = I x) → Q none (n, I', J, R)) : q_Ex L (d + 1) 5 [.ref 4, .int (nI p), .int (nI q), .int (nI r), .int (nI s)] (n, I, J, R) Q :=
  c_Mixer_turn hK.1 (hK.2.1 4 1 6 rfl) hp hq hr hs (hQ _ (va_up_self _ _ _) (fun _ hx => va_up_ne _ _ hx))
set_option maxHeartbeats 1000000 in
theorem c_blend {L d n : Nat} {I : q_I} {J : q_L} {R : q_R} {Q : q_Q} {res key : Nat} {a b c e : Int32} (hK : q_K0 n I R) (hr : q_ar n res 0 8) (hr5 : res ≠ 5) (hr6 : res ≠ 6) (hk : q_ac0 n key 8) (hk5 : key ≠ 5) (hQ : ∀ I', (∀ i, i < 8 → I' res i = g_mix (I key) a b c e i) → (∀ x, x ≠ 5 → x ≠ 6 → x ≠ res → I' x = I x) → Q none (n, I', J, R)) : q_Ex L (d + 2) 1 [.ref 4, .ref res, .ref key, .int a, .int b, .int c, .int e] (n, I, J, R) Q := by
  refine q_in (x := q_m1) rfl rfl ?_
  show q_W L (d + 1) 1 q_m1 Q 0 [some (.ref 4), some (.ref res), some (.ref key), some (.int a), some (.int b), some (.int c), some (.int e), none] [] (n, I, J, R) 0 0
  refine q_k 3 ?_
  show q_W L (d + 1) 1 q_m1 Q 5 [some (.ref 4), some (.ref res), some (.ref key), some (.int a), some (.int b), some (.int c), some (.int e), none] [.ref 4, .int (nI 0), .ref 1] (n, I, J, R) 0 0
  refine q_gR (b := 5) rfl rfl (⟨Nat.lt_of_lt_of_le (by decide) hK.1, rfl⟩) (hK.2.1 4 0 5 rfl) ?_
  refine q_k 2 ?_
  show q_W L (d + 1) 1 q_m1 Q 10 [some (.ref 4), some (.ref res), some (.ref key), some (.int a), some (.int b), some (.int c), some (.int e), none] [.int (nI 4), .int (nI 0), .ref 5, .int (nI 0), .ref 1] (n, I, J, R) 0 0
  refine q_ac (sp := 0) (dp := 0) (c := 4) rfl rfl rfl (Or.inr (Or.inr ⟨rfl, rfl⟩)) (⟨by decide, Nat.lt_of_lt_of_le (by decide) hK.1, rfl⟩) (by decide) (by decide) ⟨rfl, rfl⟩ ?_
  refine q_k 3 ?_
  show q_W L (d + 1) 1 q_m1 Q 16 [some (.ref 4), some (.ref res), some (.ref key), some (.int a), some (.int b), some (.int c), some (.int e), none] [.ref 4, .int (nI 0), .ref key] (n, va_up I 5 (va_cpy (I 1) (I 5) 0 0 4), J, R) 0 0
  refine q_gR (b := 5) rfl rfl (⟨Nat.lt_of_lt_of_le (by decide) hK.1, rfl⟩) (hK.2.1 4 0 5 rfl) ?_
  refine q_k 2 ?_
  show q_W L (d + 1) 1 q_m1 Q 22 [some (.ref 4), some (.ref res), some (.ref key), some (.int a), some (.int b), some (.int c), some (.int e), none] [.int (nI 8), .int (nI 4), .ref 5, .int (nI 0), .ref key] (n, va_up I 5 (va_cpy (I 1) (I 5) 0 0 4), J, R) 0 0
  refine q_ac (sp := 0) (dp := 4) (c := 8) rfl rfl rfl (hk) (⟨by decide, Nat.lt_of_lt_of_le (by decide) hK.1, rfl⟩) (by decide) (by decide) ⟨rfl, rfl⟩ ?_
  refine q_k 1 ?_
  show q_W L (d + 1) 1 q_m1 Q 26 [some (.ref 4), some (.ref res), some (.ref key), some (.int a), some (.int b), some (.int c), some (.int e), none] [.ref 4] (n, va_up (va_up I 5 (va_cpy (I 1) (I 5) 0 0 4)) 5 (va_cpy ((va_up I 5 (va_cpy (I 1) (I 5) 0 0 4)) key) ((va_up I 5 (va_cpy (I 1) (I 5) 0 0 4)) 5) 0 4 8), J, R) 0 0
  refine q_gR (b := 5) rfl rfl (⟨Nat.lt_of_lt_of_le (by decide) hK.1, rfl⟩) (hK.2.1 4 0 5 rfl) ?_
  refine q_k 2 ?_
  show q_W L (d + 1) 1 q_m1 Q 32 [some (.ref 4), some (.ref res), some (.ref key), some (.int a), some (.int b), some (.int c), some (.int e), none] [.int a, .int (nI 12), .ref 5] (n, va_up (va_up I 5 (va_cpy (I 1) (I 5) 0 0 4)) 5 (va_cpy ((va_up I 5 (va_cpy (I 1) (I 5) 0 0 4)) key) ((va_up I 5 (va_cpy (I 1) (I 5) 0 0 4)) 5) 0 4 8), J, R) 0 0
  refine q_ias (m := 12) rfl (⟨by decide, Nat.lt_of_lt_of_le (by decide) hK.1, rfl⟩) (by decide) (rfl) ?_
  refine q_k 1 ?_
  show q_W L (d + 1) 1 q_m1 Q 34 [some (.ref 4), some (.ref res), some (.ref key), some (.int a), some (.int b), some (.int c), some (.int e), none] [.ref 4] (n, q_up (va_up (va_up I 5 (va_cpy (I 1) (I 5) 0 0 4)) 5 (va_cpy ((va_up I 5 (va_cpy (I 1) (I 5) 0 0 4)) key) ((va_up I 5 (va_cpy (I 1) (I 5) 0 0 4)) 5) 0 4 8)) 5 12 a, J, R) 0 0
  refine q_gR (b := 5) rfl rfl (⟨Nat.lt_of_lt_of_le (by decide) hK.1, rfl⟩) (hK.2.1 4 0 5 rfl) ?_
  refine q_k 2 ?_
  show q_W L (d + 1) 1 q_m1 Q 41 [some (.ref 4), some (.ref res), some (.ref key), some (.int a), some (.int b), some (.int c), some (.int e), none] [.int b, .int (nI 13), .ref 5] (n, q_up (va_up (va_up I 5 (va_cpy (I 1) (I 5) 0 0 4)) 5 (va_cpy ((va_up I 5 (va_cpy (I 1) (I 5) 0 0 4)) key) ((va_up I 5 (va_cpy (I 1) (I 5) 0 0 4)) 5) 0 4 8)) 5 12 a, J, R) 0 0
  refine q_ias (m := 13) rfl (⟨by decide, Nat.lt_of_lt_of_le (by decide) hK.1, rfl⟩) (by decide) (rfl) ?_
  refine q_k 1 ?_
  show q_W L (d + 1) 1 q_m1 Q 43 [some (.ref 4), some (.ref res), some (.ref key), some (.int a), some (.int b), some (.int c), some (.int e), none] [.ref 4] (n, q_up (q_up (va_up (va_up I 5 (va_cpy (I 1) (I 5) 0 0 4)) 5 (va_cpy ((va_up I 5 (va_cpy (I 1) (I 5) 0 0 4)) key) ((va_up I 5 (va_cpy (I 1) (I 5) 0 0 4)) 5) 0 4 8)) 5 12 a) 5 13 b, J, R) 0 0
  refine q_gR (b := 5) rfl rfl (⟨Nat.lt_of_lt_of_le (by decide) hK.1, rfl⟩) (hK.2.1 4 0 5 rfl) ?_
  refine q_k 2 ?_
  show q_W L (d + 1) 1 q_m1 Q 50 [some (.ref 4), some (.ref res), some (.ref key), some (.int a), some (.int b), some (.int c), some (.int e), none] [.int c, .int (nI 14), .ref 5] (n, q_up (q_up (va_up (va_up I 5 (va_cpy (I 1) (I 5) 0 0 4)) 5 (va_cpy ((va_up I 5 (va_cpy (I 1) (I 5) 0 0 4)) key) ((va_up I 5 (va_cpy (I 1) (I 5) 0 0 4)) 5) 0 4 8)) 5 12 a) 5 13 b, J, R) 0 0
  refine q_ias (m := 14) rfl (⟨by decide, Nat.lt_of_lt_of_le (by decide) hK.1, rfl⟩) (by decide) (rfl) ?_
  refine q_k 1 ?_
  show q_W L (d + 1) 1 q_m1 Q 52 [some (.ref 4), some (.ref res), some (.ref key), some (.int a), some (.int b), some (.int c), some (.int e), none] [.ref 4] (n, q_up (q_up (q_up (va_up (va_up I 5 (va_cpy (I 1) (I 5) 0 0 4)) 5 (va_cpy ((va_up I 5 (va_cpy (I 1) (I 5) 0 0 4)) key) ((va_up I 5 (va_cpy (I 1) (I 5) 0 0 4)) 5) 0 4 8)) 5 12 a) 5 13 b) 5 14 c, J, R) 0 0
  refine q_gR (b := 5) rfl rfl (⟨Nat.lt_of_lt_of_le (by decide) hK.1, rfl⟩) (hK.2.1 4 0 5 rfl) ?_
  refine q_k 2 ?_
  show q_W L (d + 1) 1 q_m1 Q 59 [some (.ref 4), some (.ref res), some (.ref key), some (.int a), some (.int b), some (.int c), some (.int e), none] [.int e, .int (nI 15), .ref 5] (n, q_up (q_up (q_up (va_up (va_up I 5 (va_cpy (I 1) (I 5) 0 0 4)) 5 (va_cpy ((va_up I 5 (va_cpy (I 1) (I 5) 0 0 4)) key) ((va_up I 5 (va_cpy (I 1) (I 5) 0 0 4)) 5) 0 4 8)) 5 12 a) 5 13 b) 5 14 c, J, R) 0 0
  refine q_ias (m := 15) rfl (⟨by decide, Nat.lt_of_lt_of_le (by decide) hK.1, rfl⟩) (by decide) (rfl) ?_
  obtain ⟨I1, eI1⟩ : ∃ zz9, zz9 = q_up (q_up (q_up (q_up (va_up (va_up I 5 (va_cpy (I 1) (I 5) 0 0 4)) 5 (va_cpy ((va_up I 5 (va_cpy (I 1) (I 5) 0 0 4)) key) ((va_up I 5 (va_cpy (I 1) (I 5) 0 0 4)) 5) 0 4 8)) 5 12 a) 5 13 b) 5 14 c) 5 15 e := ⟨_, rfl⟩
  rw [← eI1]
  refine q_k 1 ?_
  show q_W L (d + 1) 1 q_m1 Q 61 [some (.ref 4), some (.ref res), some (.ref key), some (.int a), some (.int b), some (.int c), some (.int e), none] [.ref 4] (n, I1, J, R) 0 0
  refine q_gR (b := 5) rfl rfl (⟨Nat.lt_of_lt_of_le (by decide) hK.1, rfl⟩) (hK.2.1 4 0 5 rfl) ?_
  refine q_k 2 ?_
  show q_W L (d + 1) 1 q_m1 Q 66 [some (.ref 4), some (.ref res), some (.ref key), some (.int a), some (.int b), some (.int c), some (.int e), none] [.ref 4, .int (nI 0), .ref 5] (n, I1, J, R) 0 0
  refine q_gR (b := 6) rfl rfl (⟨Nat.lt_of_lt_of_le (by decide) hK.1, rfl⟩) (hK.2.1 4 1 6 rfl) ?_
  refine q_k 2 ?_
  show q_W L (d + 1) 1 q_m1 Q 72 [some (.ref 4), some (.ref res), some (.ref key), some (.int a), some (.int b), some (.int c), some (.int e), none] [.int (nI 16), .int (nI 0), .ref 6, .int (nI 0), .ref 5] (n, I1, J, R) 0 0
  refine q_ac (sp := 0) (dp := 0) (c := 16) rfl rfl rfl (Or.inl (⟨by decide, Nat.lt_of_lt_of_le (by decide) hK.1, rfl⟩)) (⟨by decide, Nat.lt_of_lt_of_le (by decide) hK.1, rfl⟩) (by decide) (by decide) ⟨rfl, rfl⟩ ?_
  obtain ⟨I0, eI0⟩ : ∃ zz9, zz9 = va_up I1 6 (va_cpy (I1 5) (I1 6) 0 0 16) := ⟨_, rfl⟩
  rw [← eI0]
  refine q_k 2 ?_
  show q_W L (d + 1) 1 q_m1 Q 78 [some (.ref 4), some (.ref res), some (.ref key), some (.int a), some (.int b), some (.int c), some (.int e), some (.int (nI 0))] [] (n, I0, J, R) 0 0
  have h5r : g_e16 (I1 5) (g_st (I key) a b c e) := by
    intro i hi
    rw [eI1]
    rcases hK with ⟨-, -, -, k0, k1, k2, k3⟩
    unfold g_st
    by_cases e15 : i = 15
    · subst e15; rw [q_usk]; rfl
    · rw [q_usn e15]
      by_cases e14 : i = 14
      · subst e14; rw [q_usk]; rfl
      · rw [q_usn e14]
        by_cases e13 : i = 13
        · subst e13; rw [q_usk]; rfl
        · rw [q_usn e13]
          by_cases e12 : i = 12
          · subst e12; rw [q_usk]; rfl
          · rw [q_usn e12, va_up_self]
            by_cases hlt : i < 4
            · rw [pk_cpy_out (Or.inl hlt), va_up_self, pk_cpy_in (Nat.zero_le _) (by omega), if_pos hlt]
              have e4 : i = 0 ∨ i = 1 ∨ i = 2 ∨ i = 3 := by omega
              rcases e4 with rfl | rfl | rfl | rfl
              · exact k0
              · exact k1
              · exact k2
              · exact k3
            · rw [pk_cpy_in (by omega) (by omega), if_neg hlt, if_pos (by omega), va_up_ne _ _ hk5, Nat.zero_add]
  have hoth : ∀ x, x ≠ 5 → I1 x = I x := by
    intro x hx
    rw [eI1, q_un hx, q_un hx, q_un hx, q_un hx, va_up_ne _ _ hx, va_up_ne _ _ hx]
  have h01 : g_e16 (I0 6) (g_rds 0 (g_st (I key) a b c e)) := by
    intro i hi
    rw [eI0, va_up_self, pk_cpy_in (Nat.zero_le _) (by omega)]
    simp only [Nat.zero_add, Nat.sub_zero]
    exact h5r i hi
  have h02 : g_e16 (I0 5) (g_st (I key) a b c e) := by
    rw [eI0, va_up_ne _ _ (by decide)]
    exact h5r
  have h03 : ∀ x, x ≠ 5 → x ≠ 6 → I0 x = I x := fun x h5 h6 => by rw [eI0, va_up_ne _ _ h6]; exact hoth x h5
  refine q_loop (σ := q_I) 10 (fun k I2 => g_e16 (I2 6) (g_rds k (g_st (I key) a b c e)) ∧ g_e16 (I2 5) (g_st (I key) a b c e) ∧ ∀ x, x ≠ 5 → x ≠ 6 → I2 x = I x) (fun k I2 => q_W L (d + 1) 1 q_m1 Q 78 [some (.ref 4), some (.ref res), some (.ref key), some (.int a), some (.int b), some (.int c), some (.int e), some (.int (nI k))] [] (n, I2, J, R) 0 0) ?_ ?_ 0 I0 (Nat.zero_le _) ?_
  · intro I2 hI2
    show q_W L (d + 1) 1 q_m1 Q 78 [some (.ref 4), some (.ref res), some (.ref key), some (.int a), some (.int b), some (.int c), some (.int e), some (.int (nI 10))] [] (n, I2, J, R) 0 0
    have h6 := hI2
    refine q_k 2 ?_
    show q_W L (d + 1) 1 q_m1 Q 82 [some (.ref 4), some (.ref res), some (.ref key), some (.int a), some (.int b), some (.int c), some (.int e), some (.int (nI 10))] [.int (nI 10), .int (nI 10)] (n, I2, J, R) 0 0
    refine q_one rfl rfl ?_
    show ((nI 10) ≤ (nI 10) → q_W L (d + 1) 1 q_m1 Q 175 [some (.ref 4), some (.ref res), some (.ref key), some (.int a), some (.int b), some (.int c), some (.int e), some (.int (nI 10))] [] (n, I2, J, R) 0 0) ∧ (¬ (nI 10) ≤ (nI 10) → q_W L (d + 1) 1 q_m1 Q 85 [some (.ref 4), some (.ref res), some (.ref key), some (.int a), some (.int b), some (.int c), some (.int e), some (.int (nI 10))] [] (n, I2, J, R) 0 0)
    refine ⟨fun _ => ?_, fun z => absurd (nI_le (Nat.le_refl _) (by decide)) z⟩
    refine q_k 2 ?_
    show q_W L (d + 1) 1 q_m1 Q 178 [some (.ref 4), some (.ref res), some (.ref key), some (.int a), some (.int b), some (.int c), some (.int e), some (.int (nI 0))] [] (n, I2, J, R) 0 0
    refine q_loop (σ := q_I) 8 (fun k I3 => (∀ i, i < k → I3 res i = g_mix (I key) a b c e i) ∧ g_e16 (I3 6) (g_rds 10 (g_st (I key) a b c e)) ∧ g_e16 (I3 5) (g_st (I key) a b c e) ∧ ∀ x, x ≠ 5 → x ≠ 6 → x ≠ res → I3 x = I x) (fun k I3 => q_W L (d + 1) 1 q_m1 Q 178 [some (.ref 4), some (.ref res), some (.ref key), some (.int a), some (.int b), some (.int c), some (.int e), some (.int (nI k))] [] (n, I3, J, R) 0 0) ?_ ?_ 0 I2 (Nat.zero_le _) ?_
    · intro I3 hI3
      show q_W L (d + 1) 1 q_m1 Q 178 [some (.ref 4), some (.ref res), some (.ref key), some (.int a), some (.int b), some (.int c), some (.int e), some (.int (nI 8))] [] (n, I3, J, R) 0 0
      refine q_k 2 ?_
      show q_W L (d + 1) 1 q_m1 Q 182 [some (.ref 4), some (.ref res), some (.ref key), some (.int a), some (.int b), some (.int c), some (.int e), some (.int (nI 8))] [.int (nI 8), .int (nI 8)] (n, I3, J, R) 0 0
      refine q_one rfl rfl ?_
      show ((nI 8) ≤ (nI 8) → q_W L (d + 1) 1 q_m1 Q 210 [some (.ref 4), some (.ref res), some (.ref key), some (.int a), some (.int b), some (.int c), some (.int e), some (.int (nI 8))] [] (n, I3, J, R) 0 0) ∧ (¬ (nI 8) ≤ (nI 8) → q_W L (d + 1) 1 q_m1 Q 185 [some (.ref 4), some (.ref res), some (.ref key), some (.int a), some (.int b), some (.int c), some (.int e), some (.int (nI 8))] [] (n, I3, J, R) 0 0)
      refine ⟨fun _ => ?_, fun z => absurd (nI_le (Nat.le_refl _) (by decide)) z⟩
      refine q_one rfl rfl ?_
      show Q (none) (n, I3, J, R)
      exact hQ I3 (fun i hi => hI3.1 i hi) hI3.2.2.2
    · intro k I3 hk hI3 ih
      show q_W L (d + 1) 1 q_m1 Q 178 [some (.ref 4), some (.ref res), some (.ref key), some (.int a), some (.int b), some (.int c), some (.int e), some (.int (nI k))] [] (n, I3, J, R) 0 0
      refine q_k 2 ?_
      show q_W L (d + 1) 1 q_m1 Q 182 [some (.ref 4), some (.ref res), some (.ref key), some (.int a), some (.int b), some (.int c), some (.int e), some (.int (nI k))] [.int (nI 8), .int (nI k)] (n, I3, J, R) 0 0
      refine q_one rfl rfl ?_
      show ((nI 8) ≤ (nI k) → q_W L (d + 1) 1 q_m1 Q 210 [some (.ref 4), some (.ref res), some (.ref key), some (.int a), some (.int b), some (.int c), some (.int e), some (.int (nI k))] [] (n, I3, J, R) 0 0) ∧ (¬ (nI 8) ≤ (nI k) → q_W L (d + 1) 1 q_m1 Q 185 [some (.ref 4), some (.ref res), some (.ref key), some (.int a), some (.int b), some (.int c), some (.int e), some (.int (nI k))] [] (n, I3, J, R) 0 0)
      refine ⟨fun z => absurd z (nI_ge hk (by decide)), fun _ => ?_⟩
      refine q_k 3 ?_
      show q_W L (d + 1) 1 q_m1 Q 189 [some (.ref 4), some (.ref res), some (.ref key), some (.int a), some (.int b), some (.int c), some (.int e), some (.int (nI k))] [.ref 4, .int (nI k), .ref res] (n, I3, J, R) 0 0
      refine q_gR (b := 6) rfl rfl (⟨Nat.lt_of_lt_of_le (by decide) hK.1, rfl⟩) (hK.2.1 4 1 6 rfl) ?_
      refine q_k 1 ?_
      show q_W L (d + 1) 1 q_m1 Q 194 [some (.ref 4), some (.ref res), some (.ref key), some (.int a), some (.int b), some (.int c), some (.int e), some (.int (nI k))] [.int (nI k), .ref 6, .int (nI k), .ref res] (n, I3, J, R) 0 0
      refine q_ial (m := k) rfl (⟨by decide, Nat.lt_of_lt_of_le (by decide) hK.1, rfl⟩) (by omega) (rfl) ?_
      refine q_k 1 ?_
      show q_W L (d + 1) 1 q_m1 Q 196 [some (.ref 4), some (.ref res), some (.ref key), some (.int a), some (.int b), some (.int c), some (.int e), some (.int (nI k))] [.ref 4, .int (I3 6 k), .int (nI k), .ref res] (n, I3, J, R) 0 0
      refine q_gR (b := 5) rfl rfl (⟨Nat.lt_of_lt_of_le (by decide) hK.1, rfl⟩) (hK.2.1 4 0 5 rfl) ?_
      refine q_k 1 ?_
      show q_W L (d + 1) 1 q_m1 Q 201 [some (.ref 4), some (.ref res), some (.ref key), some (.int a), some (.int b), some (.int c), some (.int e), some (.int (nI k))] [.int (nI k), .ref 5, .int (I3 6 k), .int (nI k), .ref res] (n, I3, J, R) 0 0
      refine q_ial (m := k) rfl (⟨by decide, Nat.lt_of_lt_of_le (by decide) hK.1, rfl⟩) (by omega) (rfl) ?_
      refine q_k 1 ?_
      show q_W L (d + 1) 1 q_m1 Q 203 [some (.ref 4), some (.ref res), some (.ref key), some (.int a), some (.int b), some (.int c), some (.int e), some (.int (nI k))] [.int ((I3 6 k) + (I3 5 k)), .int (nI k), .ref res] (n, I3, J, R) 0 0
      refine q_ias (m := k) rfl (hr) (by omega) (rfl) ?_
      refine q_k 1 ?_
      show q_W L (d + 1) 1 q_m1 Q 207 [some (.ref 4), some (.ref res), some (.ref key), some (.int a), some (.int b), some (.int c), some (.int e), some (.int ((nI k) + nI 1))] [] (n, q_up I3 res k ((I3 6 k) + (I3 5 k)), J, R) 0 0
      rw [show (nI k) + nI 1 = nI (k + 1) from nI_add _ _]
      refine q_k 1 ?_
      show q_W L (d + 1) 1 q_m1 Q 178 [some (.ref 4), some (.ref res), some (.ref key), some (.int a), some (.int b), some (.int c), some (.int e), some (.int (nI (k + 1)))] [] (n, q_up I3 res k ((I3 6 k) + (I3 5 k)), J, R) 0 0
      refine ih _ ⟨fun i hi => ?_, ?_, ?_, fun x h5 h6 hx => ?_⟩
      · by_cases e : i = k
        · subst e
          rw [q_usk, hI3.2.1 i (by omega), hI3.2.2.1 i (by omega)]
          rfl
        · rw [q_usn e]; exact hI3.1 i (by omega)
      · rw [q_un (Ne.symm hr6)]; exact hI3.2.1
      · rw [q_un (Ne.symm hr5)]; exact hI3.2.2.1
      · rw [q_un hx]; exact hI3.2.2.2 x h5 h6 hx
    · exact ⟨fun i hi => absurd hi (Nat.not_lt_zero _), h6.1, h6.2.1, fun x h5 h6' _ => h6.2.2 x h5 h6'⟩
  · intro k I2 hk h6 ih
    show q_W L (d + 1) 1 q_m1 Q 78 [some (.ref 4), some (.ref res), some (.ref key), some (.int a), some (.int b), some (.int c), some (.int e), some (.int (nI k))] [] (n, I2, J, R) 0 0
    refine q_k 2 ?_
    show q_W L (d + 1) 1 q_m1 Q 82 [some (.ref 4), some (.ref res), some (.ref key), some (.int a), some (.int b), some (.int c), some (.int e), some (.int (nI k))] [.int (nI 10), .int (nI k)] (n, I2, J, R) 0 0
    refine q_one rfl rfl ?_
    show ((nI 10) ≤ (nI k) → q_W L (d + 1) 1 q_m1 Q 175 [some (.ref 4), some (.ref res), some (.ref key), some (.int a), some (.int b), some (.int c), some (.int e), some (.int (nI k))] [] (n, I2, J, R) 0 0) ∧ (¬ (nI 10) ≤ (nI k) → q_W L (d + 1) 1 q_m1 Q 85 [some (.ref 4), some (.ref res), some (.ref key), some (.int a), some (.int b), some (.int c), some (.int e), some (.int (nI k))] [] (n, I2, J, R) 0 0)
    refine ⟨fun z => absurd z (nI_ge hk (by decide)), fun _ => ?_⟩
    refine q_k 5 ?_
    show q_W L (d + 1) 1 q_m1 Q 92 [some (.ref 4), some (.ref res), some (.ref key), some (.int a), some (.int b), some (.int c), some (.int e), some (.int (nI k))] [.int (nI 12), .int (nI 8), .int (nI 4), .int (nI 0), .ref 4] (n, I2, J, R) 0 0
    refine q_cv (as := [.int (nI 0), .int (nI 4), .int (nI 8), .int (nI 12)]) (rs := []) rfl rfl rfl (⟨Nat.lt_of_lt_of_le (by decide) hK.1, rfl⟩) rfl rfl ?_
    refine c_turn (q_K0_to hK (h6.2.2 0 (by decide) (by decide)) (h6.2.2 1 (by decide) (by decide))) (by decide) (by decide) (by decide) (by decide) (fun T1 t1 u1 => ?_)
    show q_W L (d + 1) 1 q_m1 Q 95 [some (.ref 4), some (.ref res), some (.ref key), some (.int a), some (.int b), some (.int c), some (.int e), some (.int (nI k))] [] (n, T1, J, R) 0 0
    refine q_k 5 ?_
    show q_W L (d + 1) 1 q_m1 Q 102 [some (.ref 4), some (.ref res), some (.ref key), some (.int a), some (.int b), some (.int c), some (.int e), some (.int (nI k))] [.int (nI 13), .int (nI 9), .int (nI 5), .int (nI 1), .ref 4] (n, T1, J, R) 0 0
    refine q_cv (as := [.int (nI 1), .int (nI 5), .int (nI 9), .int (nI 13)]) (rs := []) rfl rfl rfl (⟨Nat.lt_of_lt_of_le (by decide) hK.1, rfl⟩) rfl rfl ?_
    refine c_turn (q_K0_to hK (by rw [u1 0 (by decide)]; exact h6.2.2 0 (by decide) (by decide)) (by rw [u1 1 (by decide)]; exact h6.2.2 1 (by decide) (by decide))) (by decide) (by decide) (by decide) (by decide) (fun T2 t2 u2 => ?_)
    show q_W L (d + 1) 1 q_m1 Q 105 [some (.ref 4), some (.ref res), some (.ref key), some (.int a), some (.int b), some (.int c), some (.int e), some (.int (nI k))] [] (n, T2, J, R) 0 0
    refine q_k 5 ?_
    show q_W L (d + 1) 1 q_m1 Q 113 [some (.ref 4), some (.ref res), some (.ref key), some (.int a), some (.int b), some (.int c), some (.int e), some (.int (nI k))] [.int (nI 14), .int (nI 10), .int (nI 6), .int (nI 2), .ref 4] (n, T2, J, R) 0 0
    refine q_cv (as := [.int (nI 2), .int (nI 6), .int (nI 10), .int (nI 14)]) (rs := []) rfl rfl rfl (⟨Nat.lt_of_lt_of_le (by decide) hK.1, rfl⟩) rfl rfl ?_
    refine c_turn (q_K0_to hK (by rw [u2 0 (by decide), u1 0 (by decide)]; exact h6.2.2 0 (by decide) (by decide)) (by rw [u2 1 (by decide), u1 1 (by decide)]; exact h6.2.2 1 (by decide) (by decide))) (by decide) (by decide) (by decide) (by decide) (fun T3 t3 u3 => ?_)
    show q_W L (d + 1) 1 q_m1 Q 116 [some (.ref 4), some (.ref res), some (.ref key), some (.int a), some (.int b), some (.int c), some (.int e), some (.int (nI k))] [] (n, T3, J, R) 0 0
    refine q_k 5 ?_
    show q_W L (d + 1) 1 q_m1 Q 124 [some (.ref 4), some (.ref res), some (.ref key), some (.int a), some (.int b), some (.int c), some (.int e), some (.int (nI k))] [.int (nI 15), .int (nI 11), .int (nI 7), .int (nI 3), .ref 4] (n, T3, J, R) 0 0
    refine q_cv (as := [.int (nI 3), .int (nI 7), .int (nI 11), .int (nI 15)]) (rs := []) rfl rfl rfl (⟨Nat.lt_of_lt_of_le (by decide) hK.1, rfl⟩) rfl rfl ?_
    refine c_turn (q_K0_to hK (by rw [u3 0 (by decide), u2 0 (by decide), u1 0 (by decide)]; exact h6.2.2 0 (by decide) (by decide)) (by rw [u3 1 (by decide), u2 1 (by decide), u1 1 (by decide)]; exact h6.2.2 1 (by decide) (by decide))) (by decide) (by decide) (by decide) (by decide) (fun T4 t4 u4 => ?_)
    show q_W L (d + 1) 1 q_m1 Q 127 [some (.ref 4), some (.ref res), some (.ref key), some (.int a), some (.int b), some (.int c), some (.int e), some (.int (nI k))] [] (n, T4, J, R) 0 0
    refine q_k 5 ?_
    show q_W L (d + 1) 1 q_m1 Q 134 [some (.ref 4), some (.ref res), some (.ref key), some (.int a), some (.int b), some (.int c), some (.int e), some (.int (nI k))] [.int (nI 15), .int (nI 10), .int (nI 5), .int (nI 0), .ref 4] (n, T4, J, R) 0 0
    refine q_cv (as := [.int (nI 0), .int (nI 5), .int (nI 10), .int (nI 15)]) (rs := []) rfl rfl rfl (⟨Nat.lt_of_lt_of_le (by decide) hK.1, rfl⟩) rfl rfl ?_
    refine c_turn (q_K0_to hK (by rw [u4 0 (by decide), u3 0 (by decide), u2 0 (by decide), u1 0 (by decide)]; exact h6.2.2 0 (by decide) (by decide)) (by rw [u4 1 (by decide), u3 1 (by decide), u2 1 (by decide), u1 1 (by decide)]; exact h6.2.2 1 (by decide) (by decide))) (by decide) (by decide) (by decide) (by decide) (fun T5 t5 u5 => ?_)
    show q_W L (d + 1) 1 q_m1 Q 137 [some (.ref 4), some (.ref res), some (.ref key), some (.int a), some (.int b), some (.int c), some (.int e), some (.int (nI k))] [] (n, T5, J, R) 0 0
    refine q_k 5 ?_
    show q_W L (d + 1) 1 q_m1 Q 145 [some (.ref 4), some (.ref res), some (.ref key), some (.int a), some (.int b), some (.int c), some (.int e), some (.int (nI k))] [.int (nI 12), .int (nI 11), .int (nI 6), .int (nI 1), .ref 4] (n, T5, J, R) 0 0
    refine q_cv (as := [.int (nI 1), .int (nI 6), .int (nI 11), .int (nI 12)]) (rs := []) rfl rfl rfl (⟨Nat.lt_of_lt_of_le (by decide) hK.1, rfl⟩) rfl rfl ?_
    refine c_turn (q_K0_to hK (by rw [u5 0 (by decide), u4 0 (by decide), u3 0 (by decide), u2 0 (by decide), u1 0 (by decide)]; exact h6.2.2 0 (by decide) (by decide)) (by rw [u5 1 (by decide), u4 1 (by decide), u3 1 (by decide), u2 1 (by decide), u1 1 (by decide)]; exact h6.2.2 1 (by decide) (by decide))) (by decide) (by decide) (by decide) (by decide) (fun T6 t6 u6 => ?_)
    show q_W L (d + 1) 1 q_m1 Q 148 [some (.ref 4), some (.ref res), some (.ref key), some (.int a), some (.int b), some (.int c), some (.int e), some (.int (nI k))] [] (n, T6, J, R) 0 0
    refine q_k 5 ?_
    show q_W L (d + 1) 1 q_m1 Q 156 [some (.ref 4), some (.ref res), some (.ref key), some (.int a), some (.int b), some (.int c), some (.int e), some (.int (nI k))] [.int (nI 13), .int (nI 8), .int (nI 7), .int (nI 2), .ref 4] (n, T6, J, R) 0 0
    refine q_cv (as := [.int (nI 2), .int (nI 7), .int (nI 8), .int (nI 13)]) (rs := []) rfl rfl rfl (⟨Nat.lt_of_lt_of_le (by decide) hK.1, rfl⟩) rfl rfl ?_
    refine c_turn (q_K0_to hK (by rw [u6 0 (by decide), u5 0 (by decide), u4 0 (by decide), u3 0 (by decide), u2 0 (by decide), u1 0 (by decide)]; exact h6.2.2 0 (by decide) (by decide)) (by rw [u6 1 (by decide), u5 1 (by decide), u4 1 (by decide), u3 1 (by decide), u2 1 (by decide), u1 1 (by decide)]; exact h6.2.2 1 (by decide) (by decide))) (by decide) (by decide) (by decide) (by decide) (fun T7 t7 u7 => ?_)
    show q_W L (d + 1) 1 q_m1 Q 159 [some (.ref 4), some (.ref res), some (.ref key), some (.int a), some (.int b), some (.int c), some (.int e), some (.int (nI k))] [] (n, T7, J, R) 0 0
    refine q_k 5 ?_
    show q_W L (d + 1) 1 q_m1 Q 166 [some (.ref 4), some (.ref res), some (.ref key), some (.int a), some (.int b), some (.int c), some (.int e), some (.int (nI k))] [.int (nI 14), .int (nI 9), .int (nI 4), .int (nI 3), .ref 4] (n, T7, J, R) 0 0
    refine q_cv (as := [.int (nI 3), .int (nI 4), .int (nI 9), .int (nI 14)]) (rs := []) rfl rfl rfl (⟨Nat.lt_of_lt_of_le (by decide) hK.1, rfl⟩) rfl rfl ?_
    refine c_turn (q_K0_to hK (by rw [u7 0 (by decide), u6 0 (by decide), u5 0 (by decide), u4 0 (by decide), u3 0 (by decide), u2 0 (by decide), u1 0 (by decide)]; exact h6.2.2 0 (by decide) (by decide)) (by rw [u7 1 (by decide), u6 1 (by decide), u5 1 (by decide), u4 1 (by decide), u3 1 (by decide), u2 1 (by decide), u1 1 (by decide)]; exact h6.2.2 1 (by decide) (by decide))) (by decide) (by decide) (by decide) (by decide) (fun T8 t8 u8 => ?_)
    show q_W L (d + 1) 1 q_m1 Q 169 [some (.ref 4), some (.ref res), some (.ref key), some (.int a), some (.int b), some (.int c), some (.int e), some (.int (nI k))] [] (n, T8, J, R) 0 0
    refine q_k 1 ?_
    show q_W L (d + 1) 1 q_m1 Q 172 [some (.ref 4), some (.ref res), some (.ref key), some (.int a), some (.int b), some (.int c), some (.int e), some (.int ((nI k) + nI 1))] [] (n, T8, J, R) 0 0
    rw [show (nI k) + nI 1 = nI (k + 1) from nI_add _ _]
    refine q_k 1 ?_
    show q_W L (d + 1) 1 q_m1 Q 78 [some (.ref 4), some (.ref res), some (.ref key), some (.int a), some (.int b), some (.int c), some (.int e), some (.int (nI (k + 1)))] [] (n, T8, J, R) 0 0
    refine ih _ ⟨?_, ?_, fun x h5 h6' => ?_⟩
    · rw [t8, t7, t6, t5, t4, t3, t2, t1]; exact g_rd_c h6.1
    · rw [u8 5 (by decide), u7 5 (by decide), u6 5 (by decide), u5 5 (by decide), u4 5 (by decide), u3 5 (by decide), u2 5 (by decide), u1 5 (by decide)]; exact h6.2.1
    · rw [u8 x h6', u7 x h6', u6 x h6', u5 x h6', u4 x h6', u3 x h6', u2 x h6', u1 x h6']; exact h6.2.2 x h5 h6'
  · exact ⟨fun i hi => h01 i hi, fun i hi => h02 i hi, h03⟩
