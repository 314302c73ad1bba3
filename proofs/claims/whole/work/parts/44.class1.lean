theorem c_isGroupKey {L d n : Nat} {I : q_I} {J : q_L} {R : q_R} {Q : q_Q} {v : Int32} (hQ : Q (some (.int (g_key v))) (n, I, J, R)) : q_Ex L (d + 1) 14 [.int v] (n, I, J, R) Q := by
  refine q_in (x := q_m14) rfl rfl ?_
  show q_W L d 14 q_m14 Q 0 [some (.int v)] [] (n, I, J, R) 0 0
  refine q_k 2 ?_
  show q_W L d 14 q_m14 Q 2 [some (.int v)] [.int (nI 1), .int v] (n, I, J, R) 0 0
  refine q_one rfl rfl ?_
  show (v < (nI 1) → q_W L d 14 q_m14 Q 15 [some (.int v)] [] (n, I, J, R) 0 0) ∧ (¬ v < (nI 1) → q_W L d 14 q_m14 Q 5 [some (.int v)] [] (n, I, J, R) 0 0)
  refine ⟨fun h2 => ?_, fun h2 => ?_⟩
  · skip
    refine q_k 1 ?_
    show q_W L d 14 q_m14 Q 16 [some (.int v)] [.int (nI 0)] (n, I, J, R) 0 0
    refine q_one rfl rfl ?_
    show q_bz (nI 0) ∧ Q (some (.int (nI 0))) (n, I, J, R)
    refine ⟨Or.inl rfl, ?_⟩
    simp only [g_key, if_pos h2] at hQ
    exact hQ
  · skip
    refine q_k 2 ?_
    show q_W L d 14 q_m14 Q 8 [some (.int v)] [.int (nI 2147483646), .int v] (n, I, J, R) 0 0
    refine q_one rfl rfl ?_
    show ((nI 2147483646) < v → q_W L d 14 q_m14 Q 15 [some (.int v)] [] (n, I, J, R) 0 0) ∧ (¬ (nI 2147483646) < v → q_W L d 14 q_m14 Q 11 [some (.int v)] [] (n, I, J, R) 0 0)
    refine ⟨fun h8 => ?_, fun h8 => ?_⟩
    · skip
      refine q_k 1 ?_
      show q_W L d 14 q_m14 Q 16 [some (.int v)] [.int (nI 0)] (n, I, J, R) 0 0
      refine q_one rfl rfl ?_
      show q_bz (nI 0) ∧ Q (some (.int (nI 0))) (n, I, J, R)
      refine ⟨Or.inl rfl, ?_⟩
      simp only [g_key, if_neg h2, if_pos h8] at hQ
      exact hQ
    · skip
      refine q_k 2 ?_
      show q_W L d 14 q_m14 Q 16 [some (.int v)] [.int (nI 1)] (n, I, J, R) 0 0
      refine q_one rfl rfl ?_
      show q_bz (nI 1) ∧ Q (some (.int (nI 1))) (n, I, J, R)
      refine ⟨Or.inr rfl, ?_⟩
      simp only [g_key, if_neg h2, if_neg h8] at hQ
      exact hQ
theorem c_offer {L d n : Nat} {I : q_I} {J : q_L} {R : q_R} {Q : q_Q} {e f : Nat} {v : Int32} (he : q_ob n e 2) (hr : R e 4 = some (e + 1)) (ha : q_ar n (e + 1) 0 6) (hf : I e 5 = nI f) (hf6 : f < 6) (hQ : Q none (n, q_up (q_up I (e + 1) f v) e 5 (nI (f + 1)), J, R)) : q_Ex L (d + 1) 11 [.ref e, .int v] (n, I, J, R) Q := by
  refine q_in (x := q_m11) rfl rfl ?_
  show q_W L d 11 q_m11 Q 0 [some (.ref e), some (.int v)] [] (n, I, J, R) 0 0
  refine q_k 1 ?_
  show q_W L d 11 q_m11 Q 1 [some (.ref e), some (.int v)] [.ref e] (n, I, J, R) 0 0
  refine q_gR (b := (e + 1)) rfl rfl (he) (hr) ?_
  refine q_k 1 ?_
  show q_W L d 11 q_m11 Q 5 [some (.ref e), some (.int v)] [.ref e, .ref (e + 1)] (n, I, J, R) 0 0
  refine q_gI rfl rfl (he) ?_
  refine q_top (w := nI f) (hf) ?_
  refine q_k 1 ?_
  show q_W L d 11 q_m11 Q 9 [some (.ref e), some (.int v)] [.int v, .int (nI f), .ref (e + 1)] (n, I, J, R) 0 0
  refine q_ias (m := f) rfl (ha) (hf6) (rfl) ?_
  refine q_k 2 ?_
  show q_W L d 11 q_m11 Q 12 [some (.ref e), some (.int v)] [.ref e, .ref e] (n, q_up I (e + 1) f v, J, R) 0 0
  refine q_gI rfl rfl (he) ?_
  refine q_top (w := nI f) (by rw [q_un (by omega)]; exact hf) ?_
  refine q_k 2 ?_
  show q_W L d 11 q_m11 Q 17 [some (.ref e), some (.int v)] [.int ((nI f) + (nI 1)), .ref e] (n, q_up I (e + 1) f v, J, R) 0 0
  refine q_top (w := nI (f + 1)) (nI_add _ _) ?_
  refine q_pI rfl rfl rfl (he) ?_
  refine q_one rfl rfl ?_
  show Q (none) (n, q_up (q_up I (e + 1) f v) e 5 (nI (f + 1)), J, R)
  exact hQ
theorem c_handOut {L d n : Nat} {I : q_I} {J : q_L} {R : q_R} {Q : q_Q} {e f : Nat} (he : q_ob n e 2) (hr : R e 4 = some (e + 1)) (ha : q_ar n (e + 1) 0 6) (hf : I e 5 = nI f) (hf6 : f ≤ 6) (hQ : ∀ I', I' e = va_up (I e) 5 (nI (f - 1)) → (∀ k, k < f - 1 → I' (e + 1) k = I (e + 1) (k + 1)) → (∀ x, x ≠ e → x ≠ e + 1 → I' x = I x) → Q (some (.int (if f = 0 then nI 0 else I (e + 1) 0))) (n, I', J, R)) : q_Ex L (d + 1) 10 [.ref e] (n, I, J, R) Q := by
  refine q_in (x := q_m10) rfl rfl ?_
  show q_W L d 10 q_m10 Q 0 [some (.ref e), none] [] (n, I, J, R) 0 0
  refine q_k 1 ?_
  show q_W L d 10 q_m10 Q 1 [some (.ref e), none] [.ref e] (n, I, J, R) 0 0
  refine q_gI rfl rfl (he) ?_
  refine q_top (w := nI f) (hf) ?_
  refine q_one rfl rfl ?_
  show (¬ (nI f) = 0 → q_W L d 10 q_m10 Q 9 [some (.ref e), none] [] (n, I, J, R) 0 0) ∧ ((nI f) = 0 → q_W L d 10 q_m10 Q 7 [some (.ref e), none] [] (n, I, J, R) 0 0)
  refine ⟨fun h4 => ?_, fun h4 => ?_⟩
  · skip
    have hf0 : 0 < f := by rcases Nat.eq_zero_or_pos f with h | h; exact absurd (show nI f = 0 by rw [h]; rfl) h4; exact h
    refine q_k 1 ?_
    show q_W L d 10 q_m10 Q 10 [some (.ref e), none] [.ref e] (n, I, J, R) 0 0
    refine q_gR (b := (e + 1)) rfl rfl (he) (hr) ?_
    refine q_k 1 ?_
    show q_W L d 10 q_m10 Q 14 [some (.ref e), none] [.int (nI 0), .ref (e + 1)] (n, I, J, R) 0 0
    refine q_ial (m := 0) rfl (ha) (by decide) (rfl) ?_
    refine q_k 3 ?_
    show q_W L d 10 q_m10 Q 18 [some (.ref e), some (.int (I (e + 1) 0))] [.ref e, .ref e] (n, I, J, R) 0 0
    refine q_gI rfl rfl (he) ?_
    refine q_top (w := nI f) (hf) ?_
    refine q_k 2 ?_
    show q_W L d 10 q_m10 Q 23 [some (.ref e), some (.int (I (e + 1) 0))] [.int ((nI f) - (nI 1)), .ref e] (n, I, J, R) 0 0
    refine q_top (w := nI (f - 1)) (pk_sub (by omega)) ?_
    refine q_pI rfl rfl rfl (he) ?_
    obtain ⟨I1, eI1⟩ : ∃ zz9, zz9 = q_up I e 5 (nI (f - 1)) := ⟨_, rfl⟩
    rw [← eI1]
    refine q_k 1 ?_
    show q_W L d 10 q_m10 Q 27 [some (.ref e), some (.int (I (e + 1) 0))] [.ref e] (n, I1, J, R) 0 0
    refine q_gR (b := (e + 1)) rfl rfl (he) (hr) ?_
    refine q_k 2 ?_
    show q_W L d 10 q_m10 Q 32 [some (.ref e), some (.int (I (e + 1) 0))] [.ref e, .int (nI 1), .ref (e + 1)] (n, I1, J, R) 0 0
    refine q_gR (b := (e + 1)) rfl rfl (he) (hr) ?_
    refine q_k 2 ?_
    show q_W L d 10 q_m10 Q 37 [some (.ref e), some (.int (I (e + 1) 0))] [.ref e, .int (nI 0), .ref (e + 1), .int (nI 1), .ref (e + 1)] (n, I1, J, R) 0 0
    refine q_gI rfl rfl (he) ?_
    refine q_top (w := nI (f - 1)) (by rw [eI1, q_usk]) ?_
    refine q_ac (sp := 1) (dp := 0) (c := f - 1) rfl rfl rfl (Or.inl (ha)) (ha) (by omega) (by omega) ⟨rfl, rfl⟩ ?_
    refine q_k 1 ?_
    show q_W L d 10 q_m10 Q 44 [some (.ref e), some (.int (I (e + 1) 0))] [.int (I (e + 1) 0)] (n, va_up I1 (e + 1) (va_cpy (I1 (e + 1)) (I1 (e + 1)) 1 0 (f - 1)), J, R) 0 0
    refine q_one rfl rfl ?_
    show Q (some (.int (I (e + 1) 0))) (n, va_up I1 (e + 1) (va_cpy (I1 (e + 1)) (I1 (e + 1)) 1 0 (f - 1)), J, R)
    rw [if_neg (show ¬ f = 0 by omega)] at hQ
    refine hQ _ ?_ (fun k hk => ?_) (fun x h1 h2 => ?_)
    · rw [va_up_ne _ _ (by omega), eI1, q_us]
    · rw [va_up_self, pk_cpy_in (by omega) (by omega), eI1, q_un (by omega)]; exact congrArg _ (by omega)
    · rw [va_up_ne _ _ h2, eI1, q_un h1]
  · skip
    have hf0 : f = 0 := (nI_eq (by omega) (by decide)).mp h4
    refine q_k 1 ?_
    show q_W L d 10 q_m10 Q 8 [some (.ref e), none] [.int (nI 0)] (n, I, J, R) 0 0
    refine q_one rfl rfl ?_
    show Q (some (.int (nI 0))) (n, I, J, R)
    subst hf0
    rw [if_pos rfl] at hQ
    refine hQ I ?_ (fun k hk => absurd hk (by omega)) (fun _ _ _ => rfl)
    funext k
    by_cases e5 : k = 5
    · subst e5; rw [va_up_self, hf]
    · rw [va_up_ne _ _ e5]
theorem c_challenge {L d n : Nat} {I : q_I} {J : q_L} {R : q_R} {Q : q_Q} {e : Nat} (hK : q_K0 n I R) (he : q_ob n e 2) (hQ : ∀ I', (∀ x, x ≠ 5 → x ≠ 6 → x ≠ 7 → I' x = I x) → Q (some (.int (g_hash (I e 0) (I e 1) (I e 2)))) (n, I', J, R)) : q_Ex L (d + 4) 13 [.ref e, .ref 4] (n, I, J, R) Q := by
  refine q_in (x := q_m13) rfl rfl ?_
  show q_W L (d + 3) 13 q_m13 Q 0 [some (.ref e), some (.ref 4)] [] (n, I, J, R) 0 0
  refine q_k 3 ?_
  show q_W L (d + 3) 13 q_m13 Q 5 [some (.ref e), some (.ref 4)] [.ref e, .ref 0, .ref 4] (n, I, J, R) 0 0
  refine q_gI rfl rfl (he) ?_
  refine q_k 1 ?_
  show q_W L (d + 3) 13 q_m13 Q 9 [some (.ref e), some (.ref 4)] [.ref e, .int (I e 0), .ref 0, .ref 4] (n, I, J, R) 0 0
  refine q_gI rfl rfl (he) ?_
  refine q_k 1 ?_
  show q_W L (d + 3) 13 q_m13 Q 13 [some (.ref e), some (.ref 4)] [.ref e, .int (I e 1), .int (I e 0), .ref 0, .ref 4] (n, I, J, R) 0 0
  refine q_gI rfl rfl (he) ?_
  refine q_k 1 ?_
  show q_W L (d + 3) 13 q_m13 Q 17 [some (.ref e), some (.ref 4)] [.int (nI 3), .int (I e 2), .int (I e 1), .int (I e 0), .ref 0, .ref 4] (n, I, J, R) 0 0
  refine q_cv (as := [.ref 0, .int (I e 0), .int (I e 1), .int (I e 2), .int (nI 3)]) (rs := []) rfl rfl rfl (⟨Nat.lt_of_lt_of_le (by decide) hK.1, rfl⟩) rfl rfl ?_
  refine c_firstWord (hK) (Or.inr (Or.inl ⟨rfl, rfl⟩)) (by decide) (fun I1 f1 => ?_)
  show q_W L (d + 3) 13 q_m13 Q 20 [some (.ref e), some (.ref 4)] [.int (g_mix (I 0) (I e 0) (I e 1) (I e 2) (nI 3) 0)] (n, I1, J, R) 0 0
  refine q_k 2 ?_
  show q_W L (d + 3) 13 q_m13 Q 22 [some (.ref e), some (.ref 4)] [.int ((((g_mix (I 0) (I e 0) (I e 1) (I e 2) (nI 3) 0)).toUInt32 >>> (((nI 1)).toUInt32 &&& Int32.toUInt32 31)).toInt32)] (n, I1, J, R) 0 0
  refine q_one rfl rfl ?_
  show Q (some (.int ((((g_mix (I 0) (I e 0) (I e 1) (I e 2) (nI 3) 0)).toUInt32 >>> (((nI 1)).toUInt32 &&& Int32.toUInt32 31)).toInt32))) (n, I1, J, R)
  have hw : g_mix (I 0) (I e 0) (I e 1) (I e 2) (nI 3) 0 = g_mix (g_fl (nI 0) (nI 0) (nI 0) (nI 0)) (I e 0) (I e 1) (I e 2) (nI 3) 0 := g_mix_c (fun i hi => by rw [hK.2.2.1 i hi]; unfold g_fl; split; rfl; split; rfl; split; rfl; split; rfl; rfl) _ _ _ _ (by decide)
  rw [hw]
  exact hQ I1 f1
theorem g_i64 {x y : Int32} (h : x.toInt64 = y.toInt64) : x = y := by
  have h2 := congrArg Int64.toInt32 h
  rwa [Int32.toInt32_toInt64, Int32.toInt32_toInt64] at h2
theorem g_key_1 {v : Int32} (h : ¬ g_key v = 0) : ¬ v < nI 1 ∧ ¬ nI 2147483647 ≤ v := by
  unfold g_key at h
  by_cases h1 : v < nI 1
  · rw [if_pos h1] at h; exact absurd rfl h
  · rw [if_neg h1] at h
    by_cases h2 : nI 2147483646 < v
    · rw [if_pos h2] at h; exact absurd rfl h
    · exact ⟨h1, fun z => h2 (Int32.g_le1.mpr z)⟩
theorem g_key_0 {v : Int32} (h : g_key v = 0) : v < nI 1 ∨ nI 2147483647 ≤ v := by
  unfold g_key at h
  by_cases h1 : v < nI 1
  · exact Or.inl h1
  · rw [if_neg h1] at h
    by_cases h2 : nI 2147483646 < v
    · exact Or.inr (Int32.g_le1.mp h2)
    · rw [if_neg h2] at h; exact absurd h (by decide)
theorem c_holds {L d n : Nat} {I : q_I} {J : q_L} {R : q_R} {Q : q_Q} {e : Nat} (hK : q_K0 n I R) (he : q_ob n e 2) (he5 : e ≠ 5) (he6 : e ≠ 6) (he7 : e ≠ 7) (hQ : ∀ I', (∀ x, x ≠ 5 → x ≠ 6 → x ≠ 7 → I' x = I x) → Q (some (.int (g_holds (I e 0) (I e 1) (I e 2) (I e 3)))) (n, I', J, R)) : q_Ex L (d + 5) 12 [.ref e, .ref 4] (n, I, J, R) Q := by
  refine q_in (x := q_m12) rfl rfl ?_
  show q_W L (d + 4) 12 q_m12 Q 0 [some (.ref e), some (.ref 4), none, none] [] (n, I, J, R) 0 0
  refine q_k 1 ?_
  show q_W L (d + 4) 12 q_m12 Q 1 [some (.ref e), some (.ref 4), none, none] [.ref e] (n, I, J, R) 0 0
  refine q_gI rfl rfl (he) ?_
  refine q_cs (as := [.int (I e 0)]) (rs := []) rfl rfl rfl rfl rfl ?_
  refine c_isGroupKey  ?_
  show q_W L (d + 4) 12 q_m12 Q 7 [some (.ref e), some (.ref 4), none, none] [.int (g_key (I e 0))] (n, I, J, R) 0 0
  refine q_one rfl rfl ?_
  show ((g_key (I e 0)) = 0 → q_W L (d + 4) 12 q_m12 Q 46 [some (.ref e), some (.ref 4), none, none] [] (n, I, J, R) 0 0) ∧ (¬ (g_key (I e 0)) = 0 → q_W L (d + 4) 12 q_m12 Q 10 [some (.ref e), some (.ref 4), none, none] [] (n, I, J, R) 0 0)
  refine ⟨fun h7 => ?_, fun h7 => ?_⟩
  · skip
    refine q_k 1 ?_
    show q_W L (d + 4) 12 q_m12 Q 47 [some (.ref e), some (.ref 4), none, none] [.int (nI 0)] (n, I, J, R) 0 0
    refine q_one rfl rfl ?_
    show q_bz (nI 0) ∧ Q (some (.int (nI 0))) (n, I, J, R)
    refine ⟨Or.inl rfl, ?_⟩
    have hG : g_holds (I e 0) (I e 1) (I e 2) (I e 3) = nI 0 := by
      unfold g_holds
      rcases g_key_0 h7 with h | h
      · rw [if_pos h]
      · by_cases hq : I e 0 < nI 1
        · rw [if_pos hq]
        · rw [if_neg hq, if_pos h]
    rw [hG] at hQ
    exact hQ I (fun _ _ _ _ => rfl)
  · skip
    obtain ⟨p7, r7⟩ := g_key_1 h7
    refine q_k 1 ?_
    show q_W L (d + 4) 12 q_m12 Q 11 [some (.ref e), some (.ref 4), none, none] [.ref e] (n, I, J, R) 0 0
    refine q_gI rfl rfl (he) ?_
    refine q_cs (as := [.int (I e 1)]) (rs := []) rfl rfl rfl rfl rfl ?_
    refine c_isGroupKey  ?_
    show q_W L (d + 4) 12 q_m12 Q 17 [some (.ref e), some (.ref 4), none, none] [.int (g_key (I e 1))] (n, I, J, R) 0 0
    refine q_one rfl rfl ?_
    show ((g_key (I e 1)) = 0 → q_W L (d + 4) 12 q_m12 Q 46 [some (.ref e), some (.ref 4), none, none] [] (n, I, J, R) 0 0) ∧ (¬ (g_key (I e 1)) = 0 → q_W L (d + 4) 12 q_m12 Q 20 [some (.ref e), some (.ref 4), none, none] [] (n, I, J, R) 0 0)
    refine ⟨fun h17 => ?_, fun h17 => ?_⟩
    · skip
      refine q_k 1 ?_
      show q_W L (d + 4) 12 q_m12 Q 47 [some (.ref e), some (.ref 4), none, none] [.int (nI 0)] (n, I, J, R) 0 0
      refine q_one rfl rfl ?_
      show q_bz (nI 0) ∧ Q (some (.int (nI 0))) (n, I, J, R)
      refine ⟨Or.inl rfl, ?_⟩
      have hG : g_holds (I e 0) (I e 1) (I e 2) (I e 3) = nI 0 := by
        unfold g_holds
        rw [if_neg p7, if_neg r7]
        rcases g_key_0 h17 with h | h
        · rw [if_pos h]
        · by_cases hq : I e 1 < nI 1
          · rw [if_pos hq]
          · rw [if_neg hq, if_pos h]
      rw [hG] at hQ
      exact hQ I (fun _ _ _ _ => rfl)
    · skip
      obtain ⟨p17, r17⟩ := g_key_1 h17
      refine q_k 1 ?_
      show q_W L (d + 4) 12 q_m12 Q 21 [some (.ref e), some (.ref 4), none, none] [.ref e] (n, I, J, R) 0 0
      refine q_gI rfl rfl (he) ?_
      refine q_cs (as := [.int (I e 2)]) (rs := []) rfl rfl rfl rfl rfl ?_
      refine c_isGroupKey  ?_
      show q_W L (d + 4) 12 q_m12 Q 27 [some (.ref e), some (.ref 4), none, none] [.int (g_key (I e 2))] (n, I, J, R) 0 0
      refine q_one rfl rfl ?_
      show ((g_key (I e 2)) = 0 → q_W L (d + 4) 12 q_m12 Q 46 [some (.ref e), some (.ref 4), none, none] [] (n, I, J, R) 0 0) ∧ (¬ (g_key (I e 2)) = 0 → q_W L (d + 4) 12 q_m12 Q 30 [some (.ref e), some (.ref 4), none, none] [] (n, I, J, R) 0 0)
      refine ⟨fun h27 => ?_, fun h27 => ?_⟩
      · skip
        refine q_k 1 ?_
        show q_W L (d + 4) 12 q_m12 Q 47 [some (.ref e), some (.ref 4), none, none] [.int (nI 0)] (n, I, J, R) 0 0
        refine q_one rfl rfl ?_
        show q_bz (nI 0) ∧ Q (some (.int (nI 0))) (n, I, J, R)
        refine ⟨Or.inl rfl, ?_⟩
        have hG : g_holds (I e 0) (I e 1) (I e 2) (I e 3) = nI 0 := by
          unfold g_holds
          rw [if_neg p7, if_neg r7, if_neg p17, if_neg r17]
          rcases g_key_0 h27 with h | h
          · rw [if_pos h]
          · by_cases hq : I e 2 < nI 1
            · rw [if_pos hq]
            · rw [if_neg hq, if_pos h]
        rw [hG] at hQ
        exact hQ I (fun _ _ _ _ => rfl)
      · skip
        obtain ⟨p27, r27⟩ := g_key_1 h27
        refine q_k 1 ?_
        show q_W L (d + 4) 12 q_m12 Q 31 [some (.ref e), some (.ref 4), none, none] [.ref e] (n, I, J, R) 0 0
        refine q_gI rfl rfl (he) ?_
        refine q_one rfl rfl ?_
        show ((I e 3) < 0 → q_W L (d + 4) 12 q_m12 Q 46 [some (.ref e), some (.ref 4), none, none] [] (n, I, J, R) 0 0) ∧ (¬ (I e 3) < 0 → q_W L (d + 4) 12 q_m12 Q 37 [some (.ref e), some (.ref 4), none, none] [] (n, I, J, R) 0 0)
        refine ⟨fun h34 => ?_, fun h34 => ?_⟩
        · skip
          refine q_k 1 ?_
          show q_W L (d + 4) 12 q_m12 Q 47 [some (.ref e), some (.ref 4), none, none] [.int (nI 0)] (n, I, J, R) 0 0
          refine q_one rfl rfl ?_
          show q_bz (nI 0) ∧ Q (some (.int (nI 0))) (n, I, J, R)
          refine ⟨Or.inl rfl, ?_⟩
          have hG : g_holds (I e 0) (I e 1) (I e 2) (I e 3) = nI 0 := by
            unfold g_holds
            rw [if_neg p7, if_neg r7, if_neg p17, if_neg r17, if_neg p27, if_neg r27]
            rw [if_pos h34]
          rw [hG] at hQ
          exact hQ I (fun _ _ _ _ => rfl)
        · skip
          refine q_k 1 ?_
          show q_W L (d + 4) 12 q_m12 Q 38 [some (.ref e), some (.ref 4), none, none] [.ref e] (n, I, J, R) 0 0
          refine q_gI rfl rfl (he) ?_
          refine q_k 1 ?_
          show q_W L (d + 4) 12 q_m12 Q 43 [some (.ref e), some (.ref 4), none, none] [.int (nI 2147483645), .int (I e 3)] (n, I, J, R) 0 0
          refine q_one rfl rfl ?_
          show ((I e 3) ≤ (nI 2147483645) → q_W L (d + 4) 12 q_m12 Q 48 [some (.ref e), some (.ref 4), none, none] [] (n, I, J, R) 0 0) ∧ (¬ (I e 3) ≤ (nI 2147483645) → q_W L (d + 4) 12 q_m12 Q 46 [some (.ref e), some (.ref 4), none, none] [] (n, I, J, R) 0 0)
          refine ⟨fun h43 => ?_, fun h43 => ?_⟩
          · skip
            refine q_k 1 ?_
            show q_W L (d + 4) 12 q_m12 Q 49 [some (.ref e), some (.ref 4), none, none] [.ref e] (n, I, J, R) 0 0
            refine q_gI rfl rfl (he) ?_
            refine q_k 2 ?_
            show q_W L (d + 4) 12 q_m12 Q 54 [some (.ref e), some (.ref 4), none, none] [.ref e, .long ((I e 2).toInt64)] (n, I, J, R) 0 0
            refine q_gI rfl rfl (he) ?_
            refine q_k 2 ?_
            show q_W L (d + 4) 12 q_m12 Q 59 [some (.ref e), some (.ref 4), none, none] [.ref 4, .ref e, .int (I e 0), .long ((I e 2).toInt64)] (n, I, J, R) 0 0
            refine q_cv (as := [.ref 4]) (rs := [.int (I e 0), .long ((I e 2).toInt64)]) rfl rfl rfl (he) rfl rfl ?_
            refine c_challenge (hK) (he) (fun I1 f1 => ?_)
            show q_W L (d + 4) 12 q_m12 Q 62 [some (.ref e), some (.ref 4), none, none] [.int (g_hash (I e 0) (I e 1) (I e 2)), .int (I e 0), .long ((I e 2).toInt64)] (n, I1, J, R) 0 0
            refine q_cs (as := [.int (I e 0), .int (g_hash (I e 0) (I e 1) (I e 2))]) (rs := [.long ((I e 2).toInt64)]) rfl rfl rfl rfl rfl ?_
            refine c_raised  ?_
            show q_W L (d + 4) 12 q_m12 Q 65 [some (.ref e), some (.ref 4), none, none] [.int (g_pow (I e 0) (g_hash (I e 0) (I e 1) (I e 2))), .long ((I e 2).toInt64)] (n, I1, J, R) 0 0
            refine q_k 3 ?_
            show q_W L (d + 4) 12 q_m12 Q 70 [some (.ref e), some (.ref 4), none, none] [.long (lN 2147483647), .long (((I e 2).toInt64) * ((g_pow (I e 0) (g_hash (I e 0) (I e 1) (I e 2))).toInt64))] (n, I1, J, R) 0 0
            refine q_one rfl rfl ?_
            show ¬ (lN 2147483647) = 0 ∧ q_W L (d + 4) 12 q_m12 Q 71 [some (.ref e), some (.ref 4), none, none] [.long ((((I e 2).toInt64) * ((g_pow (I e 0) (g_hash (I e 0) (I e 1) (I e 2))).toInt64)) - (((I e 2).toInt64) * ((g_pow (I e 0) (g_hash (I e 0) (I e 1) (I e 2))).toInt64)) / (lN 2147483647) * (lN 2147483647))] (n, I1, J, R) 0 0
            refine ⟨by decide +kernel, ?_⟩
            refine q_topL (w := (g_times (I e 2) (g_pow (I e 0) (g_hash (I e 0) (I e 1) (I e 2)))).toInt64) (g_timesL _ _) ?_
            refine q_k 3 ?_
            show q_W L (d + 4) 12 q_m12 Q 75 [some (.ref e), some (.ref 4), some (.long ((g_times (I e 2) (g_pow (I e 0) (g_hash (I e 0) (I e 1) (I e 2)))).toInt64)), none] [.ref e, .int (nI 7)] (n, I1, J, R) 0 0
            refine q_gI rfl rfl (he) ?_
            refine q_top (w := I e 3) (by rw [f1 e he5 he6 he7]) ?_
            refine q_cs (as := [.int (nI 7), .int (I e 3)]) (rs := []) rfl rfl rfl rfl rfl ?_
            refine c_raised  ?_
            show q_W L (d + 4) 12 q_m12 Q 81 [some (.ref e), some (.ref 4), some (.long ((g_times (I e 2) (g_pow (I e 0) (g_hash (I e 0) (I e 1) (I e 2)))).toInt64)), none] [.int (g_pow (nI 7) (I e 3))] (n, I1, J, R) 0 0
            refine q_k 3 ?_
            show q_W L (d + 4) 12 q_m12 Q 84 [some (.ref e), some (.ref 4), some (.long ((g_times (I e 2) (g_pow (I e 0) (g_hash (I e 0) (I e 1) (I e 2)))).toInt64)), none] [.int (lg_cmp ((g_pow (nI 7) (I e 3)).toInt64) ((g_times (I e 2) (g_pow (I e 0) (g_hash (I e 0) (I e 1) (I e 2)))).toInt64))] (n, I1, J, R) 0 0
            refine q_one rfl rfl ?_
            show (¬ (lg_cmp ((g_pow (nI 7) (I e 3)).toInt64) ((g_times (I e 2) (g_pow (I e 0) (g_hash (I e 0) (I e 1) (I e 2)))).toInt64)) = 0 → q_W L (d + 4) 12 q_m12 Q 91 [some (.ref e), some (.ref 4), some (.long ((g_times (I e 2) (g_pow (I e 0) (g_hash (I e 0) (I e 1) (I e 2)))).toInt64)), none] [] (n, I1, J, R) 0 0) ∧ ((lg_cmp ((g_pow (nI 7) (I e 3)).toInt64) ((g_times (I e 2) (g_pow (I e 0) (g_hash (I e 0) (I e 1) (I e 2)))).toInt64)) = 0 → q_W L (d + 4) 12 q_m12 Q 87 [some (.ref e), some (.ref 4), some (.long ((g_times (I e 2) (g_pow (I e 0) (g_hash (I e 0) (I e 1) (I e 2)))).toInt64)), none] [] (n, I1, J, R) 0 0)
            refine ⟨fun h84 => ?_, fun h84 => ?_⟩
            · skip
              rw [lg_cmp_eq] at h84
              refine q_k 1 ?_
              show q_W L (d + 4) 12 q_m12 Q 92 [some (.ref e), some (.ref 4), some (.long ((g_times (I e 2) (g_pow (I e 0) (g_hash (I e 0) (I e 1) (I e 2)))).toInt64)), none] [.int (nI 0)] (n, I1, J, R) 0 0
              refine q_one rfl rfl ?_
              show q_bz (nI 0) ∧ Q (some (.int (nI 0))) (n, I1, J, R)
              refine ⟨Or.inl rfl, ?_⟩
              have hG : g_holds (I e 0) (I e 1) (I e 2) (I e 3) = nI 0 := by
                unfold g_holds
                rw [if_neg p7, if_neg r7, if_neg p17, if_neg r17, if_neg p27, if_neg r27]
                rw [if_neg h34, if_pos h43]
                rw [if_neg (fun z => h84 (congrArg Int32.toInt64 z))]
              rw [hG] at hQ
              exact hQ I1 f1
            · skip
              rw [lg_cmp_eq] at h84
              refine q_k 2 ?_
              show q_W L (d + 4) 12 q_m12 Q 92 [some (.ref e), some (.ref 4), some (.long ((g_times (I e 2) (g_pow (I e 0) (g_hash (I e 0) (I e 1) (I e 2)))).toInt64)), none] [.int (nI 1)] (n, I1, J, R) 0 0
              refine q_one rfl rfl ?_
              show q_bz (nI 1) ∧ Q (some (.int (nI 1))) (n, I1, J, R)
              refine ⟨Or.inr rfl, ?_⟩
              have hG : g_holds (I e 0) (I e 1) (I e 2) (I e 3) = nI 1 := by
                unfold g_holds
                rw [if_neg p7, if_neg r7, if_neg p17, if_neg r17, if_neg p27, if_neg r27]
                rw [if_neg h34, if_pos h43]
                rw [if_pos (g_i64 h84)]
              rw [hG] at hQ
              exact hQ I1 f1
          · skip
            refine q_k 1 ?_
            show q_W L (d + 4) 12 q_m12 Q 47 [some (.ref e), some (.ref 4), none, none] [.int (nI 0)] (n, I, J, R) 0 0
            refine q_one rfl rfl ?_
            show q_bz (nI 0) ∧ Q (some (.int (nI 0))) (n, I, J, R)
            refine ⟨Or.inl rfl, ?_⟩
            have hG : g_holds (I e 0) (I e 1) (I e 2) (I e 3) = nI 0 := by
              unfold g_holds
              rw [if_neg p7, if_neg r7, if_neg p17, if_neg r17, if_neg p27, if_neg r27]
              rw [if_neg h34, if_neg h43]
            rw [hG] at hQ
            exact hQ I (fun _ _ _ _ => rfl)
theorem c_draw {L d n : Nat} {I : q_I} {J : q_L} {R : q_R} {Q : q_Q} {a pr u : Nat} {lo hi : Int32} (hK : q_K0 n I R) (hA : q_Ac n R a) (hp : q_ob n pr 1) (hpa : pr ≠ a) (hs : ∀ i, i < 8 → I (a + 8) i = g_fl lo hi (nI u) (nI 0) i) (hQ : ∀ I', I' a = va_up (I a) 1 (I a 1 + nI 1) → I' pr 0 = g_priv lo hi u (I a 1 + nI 1) → I' pr 1 = g_pub (g_priv lo hi u (I a 1 + nI 1)) → (∀ x, x ≠ 5 → x ≠ 6 → x ≠ 7 → x ≠ a → x ≠ pr → I' x = I x) → Q none (n, I', J, R)) : q_Ex L (d + 4) 17 [.ref a, .ref 4, .ref pr] (n, I, J, R) Q := by
  refine q_in (x := q_m17) rfl rfl ?_
  show q_W L (d + 3) 17 q_m17 Q 0 [some (.ref a), some (.ref 4), some (.ref pr)] [] (n, I, J, R) 0 0
  refine q_k 2 ?_
  show q_W L (d + 3) 17 q_m17 Q 2 [some (.ref a), some (.ref 4), some (.ref pr)] [.ref a, .ref a] (n, I, J, R) 0 0
  refine q_gI rfl rfl (hA.ob) ?_
  refine q_k 2 ?_
  show q_W L (d + 3) 17 q_m17 Q 7 [some (.ref a), some (.ref 4), some (.ref pr)] [.int ((I a 1) + (nI 1)), .ref a] (n, I, J, R) 0 0
  refine q_pI rfl rfl rfl (hA.ob) ?_
  obtain ⟨I1, eI1⟩ : ∃ zz9, zz9 = q_up I a 1 ((I a 1) + (nI 1)) := ⟨_, rfl⟩
  rw [← eI1]
  refine q_k 4 ?_
  show q_W L (d + 3) 17 q_m17 Q 14 [some (.ref a), some (.ref 4), some (.ref pr)] [.ref a, .ref 4, .int (nI 2), .ref pr] (n, I1, J, R) 0 0
  refine q_gR (b := (a + 8)) rfl rfl (hA.ob) (hA.r10) ?_
  refine q_k 1 ?_
  show q_W L (d + 3) 17 q_m17 Q 18 [some (.ref a), some (.ref 4), some (.ref pr)] [.ref a, .ref (a + 8), .ref 4, .int (nI 2), .ref pr] (n, I1, J, R) 0 0
  refine q_gI rfl rfl (hA.ob) ?_
  refine q_top (w := I a 1 + nI 1) (by rw [eI1, q_usk]) ?_
  refine q_k 3 ?_
  show q_W L (d + 3) 17 q_m17 Q 24 [some (.ref a), some (.ref 4), some (.ref pr)] [.int (nI 0), .int (nI 0), .int (nI 1), .int (I a 1 + nI 1), .ref (a + 8), .ref 4, .int (nI 2), .ref pr] (n, I1, J, R) 0 0
  refine q_cv (as := [.ref (a + 8), .int (I a 1 + nI 1), .int (nI 1), .int (nI 0), .int (nI 0)]) (rs := [.int (nI 2), .ref pr]) rfl rfl rfl (⟨Nat.lt_of_lt_of_le (by decide) hK.1, rfl⟩) rfl rfl ?_
  refine c_firstWord (q_K0_to hK (by rw [eI1, q_un (by have := hA.lo; omega)]) (by rw [eI1, q_un (by have := hA.lo; omega)])) (Or.inl hA.o8) (by have := hA.lo; omega) (fun I2 f2 => ?_)
  refine q_top (w := g_mix (g_fl lo hi (nI u) (nI 0)) (I a 1 + nI 1) (nI 1) (nI 0) (nI 0) 0) (g_mix_c (fun i hi => by rw [eI1, q_un (by have := hA.lo; omega)]; exact hs i hi) _ _ _ _ (by decide)) ?_
  show q_W L (d + 3) 17 q_m17 Q 27 [some (.ref a), some (.ref 4), some (.ref pr)] [.int (g_mix (g_fl lo hi (nI u) (nI 0)) (I a 1 + nI 1) (nI 1) (nI 0) (nI 0) 0), .int (nI 2), .ref pr] (n, I2, J, R) 0 0
  refine q_k 2 ?_
  show q_W L (d + 3) 17 q_m17 Q 29 [some (.ref a), some (.ref 4), some (.ref pr)] [.int ((((g_mix (g_fl lo hi (nI u) (nI 0)) (I a 1 + nI 1) (nI 1) (nI 0) (nI 0) 0)).toUInt32 >>> (((nI 1)).toUInt32 &&& Int32.toUInt32 31)).toInt32), .int (nI 2), .ref pr] (n, I2, J, R) 0 0
  refine q_top (w := g_half (g_mix (g_fl lo hi (nI u) (nI 0)) (I a 1 + nI 1) (nI 1) (nI 0) (nI 0) 0)) (rfl) ?_
  refine q_k 1 ?_
  show q_W L (d + 3) 17 q_m17 Q 31 [some (.ref a), some (.ref 4), some (.ref pr)] [.int (nI 2147483644), .int (g_half (g_mix (g_fl lo hi (nI u) (nI 0)) (I a 1 + nI 1) (nI 1) (nI 0) (nI 0) 0)), .int (nI 2), .ref pr] (n, I2, J, R) 0 0
  refine q_one rfl rfl ?_
  show ¬ (nI 2147483644) = 0 ∧ q_W L (d + 3) 17 q_m17 Q 32 [some (.ref a), some (.ref 4), some (.ref pr)] [.int ((g_half (g_mix (g_fl lo hi (nI u) (nI 0)) (I a 1 + nI 1) (nI 1) (nI 0) (nI 0) 0)) - (g_half (g_mix (g_fl lo hi (nI u) (nI 0)) (I a 1 + nI 1) (nI 1) (nI 0) (nI 0) 0)) / (nI 2147483644) * (nI 2147483644)), .int (nI 2), .ref pr] (n, I2, J, R) 0 0
  refine ⟨by decide +kernel, ?_⟩
  refine q_top (w := g_half (g_mix (g_fl lo hi (nI u) (nI 0)) (I a 1 + nI 1) (nI 1) (nI 0) (nI 0) 0) - g_half (g_mix (g_fl lo hi (nI u) (nI 0)) (I a 1 + nI 1) (nI 1) (nI 0) (nI 0) 0) / nI 2147483644 * nI 2147483644) (rfl) ?_
  refine q_k 1 ?_
  show q_W L (d + 3) 17 q_m17 Q 33 [some (.ref a), some (.ref 4), some (.ref pr)] [.int ((nI 2) + (g_half (g_mix (g_fl lo hi (nI u) (nI 0)) (I a 1 + nI 1) (nI 1) (nI 0) (nI 0) 0) - g_half (g_mix (g_fl lo hi (nI u) (nI 0)) (I a 1 + nI 1) (nI 1) (nI 0) (nI 0) 0) / nI 2147483644 * nI 2147483644)), .ref pr] (n, I2, J, R) 0 0
  refine q_top (w := g_priv lo hi u (I a 1 + nI 1)) (rfl) ?_
  refine q_pI rfl rfl rfl (hp) ?_
  obtain ⟨I3, eI3⟩ : ∃ zz9, zz9 = q_up I2 pr 0 (g_priv lo hi u (I a 1 + nI 1)) := ⟨_, rfl⟩
  rw [← eI3]
  refine q_k 3 ?_
  show q_W L (d + 3) 17 q_m17 Q 40 [some (.ref a), some (.ref 4), some (.ref pr)] [.ref pr, .int (nI 7), .ref pr] (n, I3, J, R) 0 0
  refine q_gI rfl rfl (hp) ?_
  refine q_top (w := g_priv lo hi u (I a 1 + nI 1)) (by rw [eI3, q_usk]) ?_
  refine q_cs (as := [.int (nI 7), .int (g_priv lo hi u (I a 1 + nI 1))]) (rs := [.ref pr]) rfl rfl rfl rfl rfl ?_
  refine c_raised  ?_
  show q_W L (d + 3) 17 q_m17 Q 46 [some (.ref a), some (.ref 4), some (.ref pr)] [.int (g_pow (nI 7) (g_priv lo hi u (I a 1 + nI 1))), .ref pr] (n, I3, J, R) 0 0
  refine q_pI rfl rfl rfl (hp) ?_
  obtain ⟨I4, eI4⟩ : ∃ zz9, zz9 = q_up I3 pr 1 (g_pow (nI 7) (g_priv lo hi u (I a 1 + nI 1))) := ⟨_, rfl⟩
  rw [← eI4]
  refine q_one rfl rfl ?_
  show Q (none) (n, I4, J, R)
  have h84 := hA.lo
  refine hQ I4 ?_ ?_ ?_ (fun x h5 h6 h7 ha hx => ?_)
  · rw [eI4, q_un (Ne.symm hpa), eI3, q_un (Ne.symm hpa), f2 a (by omega) (by omega) (by omega), eI1, q_us]
  · rw [eI4, q_usn (by decide), eI3, q_usk]
  · rw [eI4, q_usk]; rfl
  · rw [eI4, q_un hx, eI3, q_un hx, f2 x h5 h6 h7, eI1, q_un ha]
