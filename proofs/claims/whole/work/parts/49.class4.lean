theorem c_keep {L d n : Nat} {I : q_I} {J : q_L} {R : q_R} {Q : q_Q} {s key c : Nat} {v w : Int32} (hs : q_ob n s 4) (r1 : R s 1 = some (s + 1)) (r2 : R s 2 = some (s + 2)) (r3 : R s 3 = some (s + 3)) (o1 : q_ar n (s + 1) 0 28) (o2 : q_ar n (s + 2) 0 28) (o3 : q_ar n (s + 3) 0 224) (hk : q_ar n key 0 8) (hk1 : key ≠ s + 1) (hk2 : key ≠ s + 2) (hk3 : key ≠ s + 3) (hc : I s 0 = nI c) (hc28 : c < 28) (hQ : ∀ I', I' s = va_up (I s) 0 (nI (c + 1)) → I' (s + 1) = va_up (I (s + 1)) c v → I' (s + 2) = va_up (I (s + 2)) c w → (∀ i, i < 8 → I' (s + 3) (8 * c + i) = I key i) → (∀ j, j < 8 * c → I' (s + 3) j = I (s + 3) j) → (∀ x, x ≠ s → x ≠ s + 1 → x ≠ s + 2 → x ≠ s + 3 → I' x = I x) → Q none (n, I', J, R)) : q_Ex L (d + 1) 27 [.ref s, .int v, .int w, .ref key] (n, I, J, R) Q := by
  refine q_in (x := q_m27) rfl rfl ?_
  show q_W L d 27 q_m27 Q 0 [some (.ref s), some (.int v), some (.int w), some (.ref key)] [] (n, I, J, R) 0 0
  refine q_k 1 ?_
  show q_W L d 27 q_m27 Q 1 [some (.ref s), some (.int v), some (.int w), some (.ref key)] [.ref s] (n, I, J, R) 0 0
  refine q_gR (b := (s + 1)) rfl rfl (hs) (r1) ?_
  refine q_k 1 ?_
  show q_W L d 27 q_m27 Q 5 [some (.ref s), some (.int v), some (.int w), some (.ref key)] [.ref s, .ref (s + 1)] (n, I, J, R) 0 0
  refine q_gI rfl rfl (hs) ?_
  refine q_top (w := nI c) (hc) ?_
  refine q_k 1 ?_
  show q_W L d 27 q_m27 Q 9 [some (.ref s), some (.int v), some (.int w), some (.ref key)] [.int v, .int (nI c), .ref (s + 1)] (n, I, J, R) 0 0
  refine q_ias (m := c) rfl (o1) (by omega) (rfl) ?_
  refine q_k 1 ?_
  show q_W L d 27 q_m27 Q 11 [some (.ref s), some (.int v), some (.int w), some (.ref key)] [.ref s] (n, q_up I (s + 1) c v, J, R) 0 0
  refine q_gR (b := (s + 2)) rfl rfl (hs) (r2) ?_
  refine q_k 1 ?_
  show q_W L d 27 q_m27 Q 15 [some (.ref s), some (.int v), some (.int w), some (.ref key)] [.ref s, .ref (s + 2)] (n, q_up I (s + 1) c v, J, R) 0 0
  refine q_gI rfl rfl (hs) ?_
  refine q_top (w := nI c) (by rw [q_un (by omega)]; exact hc) ?_
  refine q_k 1 ?_
  show q_W L d 27 q_m27 Q 19 [some (.ref s), some (.int v), some (.int w), some (.ref key)] [.int w, .int (nI c), .ref (s + 2)] (n, q_up I (s + 1) c v, J, R) 0 0
  refine q_ias (m := c) rfl (o2) (by omega) (rfl) ?_
  refine q_k 3 ?_
  show q_W L d 27 q_m27 Q 23 [some (.ref s), some (.int v), some (.int w), some (.ref key)] [.ref s, .int (nI 0), .ref key] (n, q_up (q_up I (s + 1) c v) (s + 2) c w, J, R) 0 0
  refine q_gR (b := (s + 3)) rfl rfl (hs) (r3) ?_
  refine q_k 1 ?_
  show q_W L d 27 q_m27 Q 27 [some (.ref s), some (.int v), some (.int w), some (.ref key)] [.ref s, .ref (s + 3), .int (nI 0), .ref key] (n, q_up (q_up I (s + 1) c v) (s + 2) c w, J, R) 0 0
  refine q_gI rfl rfl (hs) ?_
  refine q_top (w := nI c) (by rw [q_un (by omega), q_un (by omega)]; exact hc) ?_
  refine q_k 2 ?_
  show q_W L d 27 q_m27 Q 33 [some (.ref s), some (.int v), some (.int w), some (.ref key)] [.int ((nI c) * (nI 8)), .ref (s + 3), .int (nI 0), .ref key] (n, q_up (q_up I (s + 1) c v) (s + 2) c w, J, R) 0 0
  refine q_top (w := nI (c * 8)) (pk_mul _ _) ?_
  refine q_k 1 ?_
  show q_W L d 27 q_m27 Q 35 [some (.ref s), some (.int v), some (.int w), some (.ref key)] [.int (nI 8), .int (nI (c * 8)), .ref (s + 3), .int (nI 0), .ref key] (n, q_up (q_up I (s + 1) c v) (s + 2) c w, J, R) 0 0
  refine q_ac (sp := 0) (dp := c * 8) (c := 8) rfl rfl rfl (Or.inl hk) (o3) (by omega) (by omega) ⟨rfl, rfl⟩ ?_
  refine q_k 2 ?_
  show q_W L d 27 q_m27 Q 40 [some (.ref s), some (.int v), some (.int w), some (.ref key)] [.ref s, .ref s] (n, va_up (q_up (q_up I (s + 1) c v) (s + 2) c w) (s + 3) (va_cpy ((q_up (q_up I (s + 1) c v) (s + 2) c w) key) ((q_up (q_up I (s + 1) c v) (s + 2) c w) (s + 3)) 0 (c * 8) 8), J, R) 0 0
  refine q_gI rfl rfl (hs) ?_
  refine q_top (w := nI c) (by rw [va_up_ne _ _ (by omega), q_un (by omega), q_un (by omega)]; exact hc) ?_
  refine q_k 2 ?_
  show q_W L d 27 q_m27 Q 45 [some (.ref s), some (.int v), some (.int w), some (.ref key)] [.int ((nI c) + (nI 1)), .ref s] (n, va_up (q_up (q_up I (s + 1) c v) (s + 2) c w) (s + 3) (va_cpy ((q_up (q_up I (s + 1) c v) (s + 2) c w) key) ((q_up (q_up I (s + 1) c v) (s + 2) c w) (s + 3)) 0 (c * 8) 8), J, R) 0 0
  refine q_top (w := nI (c + 1)) (nI_add _ _) ?_
  refine q_pI rfl rfl rfl (hs) ?_
  refine q_one rfl rfl ?_
  show Q (none) (n, q_up (va_up (q_up (q_up I (s + 1) c v) (s + 2) c w) (s + 3) (va_cpy ((q_up (q_up I (s + 1) c v) (s + 2) c w) key) ((q_up (q_up I (s + 1) c v) (s + 2) c w) (s + 3)) 0 (c * 8) 8)) s 0 (nI (c + 1)), J, R)
  refine hQ _ ?_ ?_ ?_ (fun i hi => ?_) (fun j hj => ?_) (fun x h0 h1 h2 h3 => ?_)
  · rw [q_us, va_up_ne _ _ (by omega), q_un (by omega), q_un (by omega)]
  · rw [q_un (by omega), va_up_ne _ _ (by omega), q_un (by omega), q_us]
  · rw [q_un (by omega), va_up_ne _ _ (by omega), q_us, q_un (by omega)]
  · rw [q_un (by omega), va_up_self, pk_cpy_in (by omega) (by omega), q_un (by omega), q_un (by omega)]; exact congrArg _ (by omega)
  · rw [q_un (by omega), va_up_self, pk_cpy_out (by omega), q_un (by omega), q_un (by omega)]
  · rw [q_un h0, va_up_ne _ _ h3, q_un h2, q_un h1]
theorem c_placeOf {L d n : Nat} {I : q_I} {J : q_L} {R : q_R} {Q : q_Q} {s c : Nat} {v w : Int32} (hs : q_ob n s 4) (r1 : R s 1 = some (s + 1)) (r2 : R s 2 = some (s + 2)) (r3 : R s 3 = some (s + 3)) (o1 : q_ar n (s + 1) 0 28) (o2 : q_ar n (s + 2) 0 28) (o3 : q_ar n (s + 3) 0 224) (hc : I s 0 = nI c) (hc28 : c ≤ 28) (hQ1 : ∀ k, k < c → g_first (fun k => decide (I (s + 1) k = v ∧ I (s + 2) k = w)) c = k → Q (some (.int (nI k))) (n, I, J, R)) (hQ2 : g_first (fun k => decide (I (s + 1) k = v ∧ I (s + 2) k = w)) c = c → Q (some (.int (-1))) (n, I, J, R)) : q_Ex L (d + 1) 28 [.ref s, .int v, .int w] (n, I, J, R) Q := by
  refine q_in (x := q_m28) rfl rfl ?_
  show q_W L d 28 q_m28 Q 0 [some (.ref s), some (.int v), some (.int w), none] [] (n, I, J, R) 0 0
  refine q_k 2 ?_
  show q_W L d 28 q_m28 Q 2 [some (.ref s), some (.int v), some (.int w), some (.int (nI 0))] [] (n, I, J, R) 0 0
  refine q_loop (σ := Unit) c (fun k _ => ∀ j, j < k → (fun k => decide (I (s + 1) k = v ∧ I (s + 2) k = w)) j = false) (fun k _ => q_W L d 28 q_m28 Q 2 [some (.ref s), some (.int v), some (.int w), some (.int (nI k))] [] (n, I, J, R) 0 0) ?_ ?_ 0 () (Nat.zero_le _) ?_
  · intro _ hN
    show q_W L d 28 q_m28 Q 2 [some (.ref s), some (.int v), some (.int w), some (.int (nI c))] [] (n, I, J, R) 0 0
    refine q_k 2 ?_
    show q_W L d 28 q_m28 Q 4 [some (.ref s), some (.int v), some (.int w), some (.int (nI c))] [.ref s, .int (nI c)] (n, I, J, R) 0 0
    refine q_gI rfl rfl (hs) ?_
    refine q_top (w := nI c) (hc) ?_
    refine q_one rfl rfl ?_
    show ((nI c) ≤ (nI c) → q_W L d 28 q_m28 Q 38 [some (.ref s), some (.int v), some (.int w), some (.int (nI c))] [] (n, I, J, R) 0 0) ∧ (¬ (nI c) ≤ (nI c) → q_W L d 28 q_m28 Q 10 [some (.ref s), some (.int v), some (.int w), some (.int (nI c))] [] (n, I, J, R) 0 0)
    refine ⟨fun _ => ?_, fun z => absurd (nI_le (Nat.le_refl _) (by omega)) z⟩
    refine q_k 1 ?_
    show q_W L d 28 q_m28 Q 39 [some (.ref s), some (.int v), some (.int w), some (.int (nI c))] [.int (-1)] (n, I, J, R) 0 0
    refine q_one rfl rfl ?_
    show Q (some (.int (-1))) (n, I, J, R)
    exact hQ2 (g_first_u (Nat.le_refl _) hN (fun z => absurd z (Nat.lt_irrefl _)))
  · intro k _ hk hP ih
    show q_W L d 28 q_m28 Q 2 [some (.ref s), some (.int v), some (.int w), some (.int (nI k))] [] (n, I, J, R) 0 0
    refine q_k 2 ?_
    show q_W L d 28 q_m28 Q 4 [some (.ref s), some (.int v), some (.int w), some (.int (nI k))] [.ref s, .int (nI k)] (n, I, J, R) 0 0
    refine q_gI rfl rfl (hs) ?_
    refine q_top (w := nI c) (hc) ?_
    refine q_one rfl rfl ?_
    show ((nI c) ≤ (nI k) → q_W L d 28 q_m28 Q 38 [some (.ref s), some (.int v), some (.int w), some (.int (nI k))] [] (n, I, J, R) 0 0) ∧ (¬ (nI c) ≤ (nI k) → q_W L d 28 q_m28 Q 10 [some (.ref s), some (.int v), some (.int w), some (.int (nI k))] [] (n, I, J, R) 0 0)
    refine ⟨fun z => absurd z (nI_ge hk (by omega)), fun _ => ?_⟩
    refine q_k 1 ?_
    show q_W L d 28 q_m28 Q 11 [some (.ref s), some (.int v), some (.int w), some (.int (nI k))] [.ref s] (n, I, J, R) 0 0
    refine q_gR (b := (s + 1)) rfl rfl (hs) (r1) ?_
    refine q_k 1 ?_
    show q_W L d 28 q_m28 Q 15 [some (.ref s), some (.int v), some (.int w), some (.int (nI k))] [.int (nI k), .ref (s + 1)] (n, I, J, R) 0 0
    refine q_ial (m := k) rfl (o1) (by omega) (rfl) ?_
    refine q_k 1 ?_
    show q_W L d 28 q_m28 Q 17 [some (.ref s), some (.int v), some (.int w), some (.int (nI k))] [.int v, .int (I (s + 1) k)] (n, I, J, R) 0 0
    refine q_one rfl rfl ?_
    show (¬ (I (s + 1) k) = v → q_W L d 28 q_m28 Q 32 [some (.ref s), some (.int v), some (.int w), some (.int (nI k))] [] (n, I, J, R) 0 0) ∧ ((I (s + 1) k) = v → q_W L d 28 q_m28 Q 20 [some (.ref s), some (.int v), some (.int w), some (.int (nI k))] [] (n, I, J, R) 0 0)
    refine ⟨fun h17 => ?_, fun h17 => ?_⟩
    · skip
      refine q_k 1 ?_
      show q_W L d 28 q_m28 Q 35 [some (.ref s), some (.int v), some (.int w), some (.int ((nI k) + nI 1))] [] (n, I, J, R) 0 0
      rw [show (nI k) + nI 1 = nI (k + 1) from nI_add _ _]
      refine q_k 1 ?_
      show q_W L d 28 q_m28 Q 2 [some (.ref s), some (.int v), some (.int w), some (.int (nI (k + 1)))] [] (n, I, J, R) 0 0
      refine ih () (fun j hj => ?_)
      by_cases e : j = k
      · subst e; exact decide_eq_false (fun z => h17 z.1)
      · exact hP j (by omega)
    · skip
      refine q_k 1 ?_
      show q_W L d 28 q_m28 Q 21 [some (.ref s), some (.int v), some (.int w), some (.int (nI k))] [.ref s] (n, I, J, R) 0 0
      refine q_gR (b := (s + 2)) rfl rfl (hs) (r2) ?_
      refine q_k 1 ?_
      show q_W L d 28 q_m28 Q 25 [some (.ref s), some (.int v), some (.int w), some (.int (nI k))] [.int (nI k), .ref (s + 2)] (n, I, J, R) 0 0
      refine q_ial (m := k) rfl (o2) (by omega) (rfl) ?_
      refine q_k 1 ?_
      show q_W L d 28 q_m28 Q 27 [some (.ref s), some (.int v), some (.int w), some (.int (nI k))] [.int w, .int (I (s + 2) k)] (n, I, J, R) 0 0
      refine q_one rfl rfl ?_
      show (¬ (I (s + 2) k) = w → q_W L d 28 q_m28 Q 32 [some (.ref s), some (.int v), some (.int w), some (.int (nI k))] [] (n, I, J, R) 0 0) ∧ ((I (s + 2) k) = w → q_W L d 28 q_m28 Q 30 [some (.ref s), some (.int v), some (.int w), some (.int (nI k))] [] (n, I, J, R) 0 0)
      refine ⟨fun h27 => ?_, fun h27 => ?_⟩
      · skip
        refine q_k 1 ?_
        show q_W L d 28 q_m28 Q 35 [some (.ref s), some (.int v), some (.int w), some (.int ((nI k) + nI 1))] [] (n, I, J, R) 0 0
        rw [show (nI k) + nI 1 = nI (k + 1) from nI_add _ _]
        refine q_k 1 ?_
        show q_W L d 28 q_m28 Q 2 [some (.ref s), some (.int v), some (.int w), some (.int (nI (k + 1)))] [] (n, I, J, R) 0 0
        refine ih () (fun j hj => ?_)
        by_cases e : j = k
        · subst e; exact decide_eq_false (fun z => h27 z.2)
        · exact hP j (by omega)
      · skip
        refine q_k 1 ?_
        show q_W L d 28 q_m28 Q 31 [some (.ref s), some (.int v), some (.int w), some (.int (nI k))] [.int (nI k)] (n, I, J, R) 0 0
        refine q_one rfl rfl ?_
        show Q (some (.int (nI k))) (n, I, J, R)
        exact hQ1 k hk (g_first_u (by omega) hP (fun _ => decide_eq_true ⟨h17, h27⟩))
  · exact fun j hj => absurd hj (Nat.not_lt_zero _)
theorem c_takeOut {L d n : Nat} {I : q_I} {J : q_L} {R : q_R} {Q : q_Q} {s key k c : Nat} (hs : q_ob n s 4) (r1 : R s 1 = some (s + 1)) (r2 : R s 2 = some (s + 2)) (r3 : R s 3 = some (s + 3)) (o1 : q_ar n (s + 1) 0 28) (o2 : q_ar n (s + 2) 0 28) (o3 : q_ar n (s + 3) 0 224) (hk : q_ar n key 0 8) (hk0 : key ≠ s) (hk1 : key ≠ s + 1) (hk2 : key ≠ s + 2) (hk3 : key ≠ s + 3) (hc : I s 0 = nI c) (hc28 : c ≤ 28) (hkc : k < c) (hQ : ∀ I', (∀ i, i < 8 → I' key i = I (s + 3) (8 * k + i)) → I' s = va_up (I s) 0 (nI (c - 1)) → (∀ j, I' (s + 1) j = if k ≤ j ∧ j < c - 1 then I (s + 1) (j + 1) else I (s + 1) j) → (∀ j, I' (s + 2) j = if k ≤ j ∧ j < c - 1 then I (s + 2) (j + 1) else I (s + 2) j) → (∀ j, I' (s + 3) j = if 8 * k ≤ j ∧ j < 8 * (c - 1) then I (s + 3) (j + 8) else I (s + 3) j) → (∀ x, x ≠ s → x ≠ s + 1 → x ≠ s + 2 → x ≠ s + 3 → x ≠ key → I' x = I x) → Q none (n, I', J, R)) : q_Ex L (d + 1) 29 [.ref s, .int (nI k), .ref key] (n, I, J, R) Q := by
  refine q_in (x := q_m29) rfl rfl ?_
  show q_W L d 29 q_m29 Q 0 [some (.ref s), some (.int (nI k)), some (.ref key), none] [] (n, I, J, R) 0 0
  refine q_k 1 ?_
  show q_W L d 29 q_m29 Q 1 [some (.ref s), some (.int (nI k)), some (.ref key), none] [.ref s] (n, I, J, R) 0 0
  refine q_gR (b := (s + 3)) rfl rfl (hs) (r3) ?_
  refine q_k 3 ?_
  show q_W L d 29 q_m29 Q 8 [some (.ref s), some (.int (nI k)), some (.ref key), none] [.int ((nI k) * (nI 8)), .ref (s + 3)] (n, I, J, R) 0 0
  refine q_top (w := nI (k * 8)) (pk_mul _ _) ?_
  refine q_k 3 ?_
  show q_W L d 29 q_m29 Q 12 [some (.ref s), some (.int (nI k)), some (.ref key), none] [.int (nI 8), .int (nI 0), .ref key, .int (nI (k * 8)), .ref (s + 3)] (n, I, J, R) 0 0
  refine q_ac (sp := k * 8) (dp := 0) (c := 8) rfl rfl rfl (Or.inl o3) (hk) (by omega) (by omega) ⟨rfl, rfl⟩ ?_
  refine q_k 2 ?_
  show q_W L d 29 q_m29 Q 17 [some (.ref s), some (.int (nI k)), some (.ref key), none] [.ref s, .ref s] (n, va_up I key (va_cpy (I (s + 3)) (I key) (k * 8) 0 8), J, R) 0 0
  refine q_gI rfl rfl (hs) ?_
  refine q_top (w := nI c) (by rw [va_up_ne _ _ (by omega)]; exact hc) ?_
  refine q_k 2 ?_
  show q_W L d 29 q_m29 Q 22 [some (.ref s), some (.int (nI k)), some (.ref key), none] [.int ((nI c) - (nI 1)), .ref s] (n, va_up I key (va_cpy (I (s + 3)) (I key) (k * 8) 0 8), J, R) 0 0
  refine q_top (w := nI (c - 1)) (pk_sub (by omega)) ?_
  refine q_pI rfl rfl rfl (hs) ?_
  obtain ⟨I1, eI1⟩ : ∃ zz9, zz9 = q_up (va_up I key (va_cpy (I (s + 3)) (I key) (k * 8) 0 8)) s 0 (nI (c - 1)) := ⟨_, rfl⟩
  rw [← eI1]
  refine q_k 1 ?_
  show q_W L d 29 q_m29 Q 26 [some (.ref s), some (.int (nI k)), some (.ref key), none] [.ref s] (n, I1, J, R) 0 0
  refine q_gI rfl rfl (hs) ?_
  refine q_top (w := nI (c - 1)) (by rw [eI1, q_usk]) ?_
  refine q_k 2 ?_
  show q_W L d 29 q_m29 Q 31 [some (.ref s), some (.int (nI k)), some (.ref key), none] [.int ((nI (c - 1)) - (nI k))] (n, I1, J, R) 0 0
  refine q_top (w := nI (c - 1 - k)) (pk_sub (by omega)) ?_
  refine q_k 2 ?_
  show q_W L d 29 q_m29 Q 33 [some (.ref s), some (.int (nI k)), some (.ref key), some (.int (nI (c - 1 - k)))] [.ref s] (n, I1, J, R) 0 0
  refine q_gR (b := (s + 1)) rfl rfl (hs) (r1) ?_
  refine q_k 3 ?_
  show q_W L d 29 q_m29 Q 39 [some (.ref s), some (.int (nI k)), some (.ref key), some (.int (nI (c - 1 - k)))] [.int ((nI k) + (nI 1)), .ref (s + 1)] (n, I1, J, R) 0 0
  refine q_top (w := nI (k + 1)) (nI_add _ _) ?_
  refine q_k 1 ?_
  show q_W L d 29 q_m29 Q 40 [some (.ref s), some (.int (nI k)), some (.ref key), some (.int (nI (c - 1 - k)))] [.ref s, .int (nI (k + 1)), .ref (s + 1)] (n, I1, J, R) 0 0
  refine q_gR (b := (s + 1)) rfl rfl (hs) (r1) ?_
  refine q_k 2 ?_
  show q_W L d 29 q_m29 Q 45 [some (.ref s), some (.int (nI k)), some (.ref key), some (.int (nI (c - 1 - k)))] [.int (nI (c - 1 - k)), .int (nI k), .ref (s + 1), .int (nI (k + 1)), .ref (s + 1)] (n, I1, J, R) 0 0
  refine q_ac (sp := k + 1) (dp := k) (c := c - 1 - k) rfl rfl rfl (Or.inl o1) (o1) (by omega) (by omega) ⟨rfl, rfl⟩ ?_
  refine q_k 1 ?_
  show q_W L d 29 q_m29 Q 49 [some (.ref s), some (.int (nI k)), some (.ref key), some (.int (nI (c - 1 - k)))] [.ref s] (n, va_up I1 (s + 1) (va_cpy (I1 (s + 1)) (I1 (s + 1)) (k + 1) k (c - 1 - k)), J, R) 0 0
  refine q_gR (b := (s + 2)) rfl rfl (hs) (r2) ?_
  refine q_k 3 ?_
  show q_W L d 29 q_m29 Q 55 [some (.ref s), some (.int (nI k)), some (.ref key), some (.int (nI (c - 1 - k)))] [.int ((nI k) + (nI 1)), .ref (s + 2)] (n, va_up I1 (s + 1) (va_cpy (I1 (s + 1)) (I1 (s + 1)) (k + 1) k (c - 1 - k)), J, R) 0 0
  refine q_top (w := nI (k + 1)) (nI_add _ _) ?_
  refine q_k 1 ?_
  show q_W L d 29 q_m29 Q 56 [some (.ref s), some (.int (nI k)), some (.ref key), some (.int (nI (c - 1 - k)))] [.ref s, .int (nI (k + 1)), .ref (s + 2)] (n, va_up I1 (s + 1) (va_cpy (I1 (s + 1)) (I1 (s + 1)) (k + 1) k (c - 1 - k)), J, R) 0 0
  refine q_gR (b := (s + 2)) rfl rfl (hs) (r2) ?_
  refine q_k 2 ?_
  show q_W L d 29 q_m29 Q 61 [some (.ref s), some (.int (nI k)), some (.ref key), some (.int (nI (c - 1 - k)))] [.int (nI (c - 1 - k)), .int (nI k), .ref (s + 2), .int (nI (k + 1)), .ref (s + 2)] (n, va_up I1 (s + 1) (va_cpy (I1 (s + 1)) (I1 (s + 1)) (k + 1) k (c - 1 - k)), J, R) 0 0
  refine q_ac (sp := k + 1) (dp := k) (c := c - 1 - k) rfl rfl rfl (Or.inl o2) (o2) (by omega) (by omega) ⟨rfl, rfl⟩ ?_
  refine q_k 1 ?_
  show q_W L d 29 q_m29 Q 65 [some (.ref s), some (.int (nI k)), some (.ref key), some (.int (nI (c - 1 - k)))] [.ref s] (n, va_up (va_up I1 (s + 1) (va_cpy (I1 (s + 1)) (I1 (s + 1)) (k + 1) k (c - 1 - k))) (s + 2) (va_cpy ((va_up I1 (s + 1) (va_cpy (I1 (s + 1)) (I1 (s + 1)) (k + 1) k (c - 1 - k))) (s + 2)) ((va_up I1 (s + 1) (va_cpy (I1 (s + 1)) (I1 (s + 1)) (k + 1) k (c - 1 - k))) (s + 2)) (k + 1) k (c - 1 - k)), J, R) 0 0
  refine q_gR (b := (s + 3)) rfl rfl (hs) (r3) ?_
  refine q_k 3 ?_
  show q_W L d 29 q_m29 Q 71 [some (.ref s), some (.int (nI k)), some (.ref key), some (.int (nI (c - 1 - k)))] [.int ((nI k) + (nI 1)), .ref (s + 3)] (n, va_up (va_up I1 (s + 1) (va_cpy (I1 (s + 1)) (I1 (s + 1)) (k + 1) k (c - 1 - k))) (s + 2) (va_cpy ((va_up I1 (s + 1) (va_cpy (I1 (s + 1)) (I1 (s + 1)) (k + 1) k (c - 1 - k))) (s + 2)) ((va_up I1 (s + 1) (va_cpy (I1 (s + 1)) (I1 (s + 1)) (k + 1) k (c - 1 - k))) (s + 2)) (k + 1) k (c - 1 - k)), J, R) 0 0
  refine q_top (w := nI (k + 1)) (nI_add _ _) ?_
  refine q_k 2 ?_
  show q_W L d 29 q_m29 Q 74 [some (.ref s), some (.int (nI k)), some (.ref key), some (.int (nI (c - 1 - k)))] [.int ((nI (k + 1)) * (nI 8)), .ref (s + 3)] (n, va_up (va_up I1 (s + 1) (va_cpy (I1 (s + 1)) (I1 (s + 1)) (k + 1) k (c - 1 - k))) (s + 2) (va_cpy ((va_up I1 (s + 1) (va_cpy (I1 (s + 1)) (I1 (s + 1)) (k + 1) k (c - 1 - k))) (s + 2)) ((va_up I1 (s + 1) (va_cpy (I1 (s + 1)) (I1 (s + 1)) (k + 1) k (c - 1 - k))) (s + 2)) (k + 1) k (c - 1 - k)), J, R) 0 0
  refine q_top (w := nI ((k + 1) * 8)) (pk_mul _ _) ?_
  refine q_k 1 ?_
  show q_W L d 29 q_m29 Q 75 [some (.ref s), some (.int (nI k)), some (.ref key), some (.int (nI (c - 1 - k)))] [.ref s, .int (nI ((k + 1) * 8)), .ref (s + 3)] (n, va_up (va_up I1 (s + 1) (va_cpy (I1 (s + 1)) (I1 (s + 1)) (k + 1) k (c - 1 - k))) (s + 2) (va_cpy ((va_up I1 (s + 1) (va_cpy (I1 (s + 1)) (I1 (s + 1)) (k + 1) k (c - 1 - k))) (s + 2)) ((va_up I1 (s + 1) (va_cpy (I1 (s + 1)) (I1 (s + 1)) (k + 1) k (c - 1 - k))) (s + 2)) (k + 1) k (c - 1 - k)), J, R) 0 0
  refine q_gR (b := (s + 3)) rfl rfl (hs) (r3) ?_
  refine q_k 3 ?_
  show q_W L d 29 q_m29 Q 82 [some (.ref s), some (.int (nI k)), some (.ref key), some (.int (nI (c - 1 - k)))] [.int ((nI k) * (nI 8)), .ref (s + 3), .int (nI ((k + 1) * 8)), .ref (s + 3)] (n, va_up (va_up I1 (s + 1) (va_cpy (I1 (s + 1)) (I1 (s + 1)) (k + 1) k (c - 1 - k))) (s + 2) (va_cpy ((va_up I1 (s + 1) (va_cpy (I1 (s + 1)) (I1 (s + 1)) (k + 1) k (c - 1 - k))) (s + 2)) ((va_up I1 (s + 1) (va_cpy (I1 (s + 1)) (I1 (s + 1)) (k + 1) k (c - 1 - k))) (s + 2)) (k + 1) k (c - 1 - k)), J, R) 0 0
  refine q_top (w := nI (k * 8)) (pk_mul _ _) ?_
  refine q_k 3 ?_
  show q_W L d 29 q_m29 Q 86 [some (.ref s), some (.int (nI k)), some (.ref key), some (.int (nI (c - 1 - k)))] [.int ((nI (c - 1 - k)) * (nI 8)), .int (nI (k * 8)), .ref (s + 3), .int (nI ((k + 1) * 8)), .ref (s + 3)] (n, va_up (va_up I1 (s + 1) (va_cpy (I1 (s + 1)) (I1 (s + 1)) (k + 1) k (c - 1 - k))) (s + 2) (va_cpy ((va_up I1 (s + 1) (va_cpy (I1 (s + 1)) (I1 (s + 1)) (k + 1) k (c - 1 - k))) (s + 2)) ((va_up I1 (s + 1) (va_cpy (I1 (s + 1)) (I1 (s + 1)) (k + 1) k (c - 1 - k))) (s + 2)) (k + 1) k (c - 1 - k)), J, R) 0 0
  refine q_top (w := nI ((c - 1 - k) * 8)) (pk_mul _ _) ?_
  refine q_ac (sp := (k + 1) * 8) (dp := k * 8) (c := (c - 1 - k) * 8) rfl rfl rfl (Or.inl o3) (o3) (by omega) (by omega) ⟨rfl, rfl⟩ ?_
  refine q_one rfl rfl ?_
  show Q (none) (n, va_up (va_up (va_up I1 (s + 1) (va_cpy (I1 (s + 1)) (I1 (s + 1)) (k + 1) k (c - 1 - k))) (s + 2) (va_cpy ((va_up I1 (s + 1) (va_cpy (I1 (s + 1)) (I1 (s + 1)) (k + 1) k (c - 1 - k))) (s + 2)) ((va_up I1 (s + 1) (va_cpy (I1 (s + 1)) (I1 (s + 1)) (k + 1) k (c - 1 - k))) (s + 2)) (k + 1) k (c - 1 - k))) (s + 3) (va_cpy ((va_up (va_up I1 (s + 1) (va_cpy (I1 (s + 1)) (I1 (s + 1)) (k + 1) k (c - 1 - k))) (s + 2) (va_cpy ((va_up I1 (s + 1) (va_cpy (I1 (s + 1)) (I1 (s + 1)) (k + 1) k (c - 1 - k))) (s + 2)) ((va_up I1 (s + 1) (va_cpy (I1 (s + 1)) (I1 (s + 1)) (k + 1) k (c - 1 - k))) (s + 2)) (k + 1) k (c - 1 - k))) (s + 3)) ((va_up (va_up I1 (s + 1) (va_cpy (I1 (s + 1)) (I1 (s + 1)) (k + 1) k (c - 1 - k))) (s + 2) (va_cpy ((va_up I1 (s + 1) (va_cpy (I1 (s + 1)) (I1 (s + 1)) (k + 1) k (c - 1 - k))) (s + 2)) ((va_up I1 (s + 1) (va_cpy (I1 (s + 1)) (I1 (s + 1)) (k + 1) k (c - 1 - k))) (s + 2)) (k + 1) k (c - 1 - k))) (s + 3)) ((k + 1) * 8) (k * 8) ((c - 1 - k) * 8)), J, R)
  have h1s : ∀ x, x ≠ s → x ≠ key → I1 x = I x := fun x hx hy => by rw [eI1, q_un hx, va_up_ne _ _ hy]
  refine hQ _ (fun i hi => ?_) ?_ (fun j => ?_) (fun j => ?_) (fun j => ?_) (fun x h0 h1 h2 h3 h4 => ?_)
  · rw [va_up_ne _ _ hk3, va_up_ne _ _ hk2, va_up_ne _ _ hk1, eI1, q_un hk0, va_up_self, pk_cpy_in (by omega) (by omega)]; exact congrArg _ (by omega)
  · rw [va_up_ne _ _ (by omega), va_up_ne _ _ (by omega), va_up_ne _ _ (by omega), eI1, q_us, va_up_ne _ _ (Ne.symm hk0)]
  · rw [va_up_ne _ _ (by omega), va_up_ne _ _ (by omega), va_up_self]
    by_cases c1 : k ≤ j ∧ j < c - 1
    · rw [if_pos c1, pk_cpy_in (by omega) (by omega), h1s (s + 1) (by omega) (Ne.symm hk1)]; exact congrArg _ (by omega)
    · rw [if_neg c1, pk_cpy_out (by omega), h1s (s + 1) (by omega) (Ne.symm hk1)]
  · rw [va_up_ne _ _ (by omega), va_up_self]
    by_cases c1 : k ≤ j ∧ j < c - 1
    · rw [if_pos c1, pk_cpy_in (by omega) (by omega), va_up_ne _ _ (by omega), h1s (s + 2) (by omega) (Ne.symm hk2)]; exact congrArg _ (by omega)
    · rw [if_neg c1, pk_cpy_out (by omega), va_up_ne _ _ (by omega), h1s (s + 2) (by omega) (Ne.symm hk2)]
  · rw [va_up_self]
    by_cases c1 : 8 * k ≤ j ∧ j < 8 * (c - 1)
    · rw [if_pos c1, pk_cpy_in (by omega) (by omega), va_up_ne _ _ (by omega), va_up_ne _ _ (by omega), h1s (s + 3) (by omega) (Ne.symm hk3)]; exact congrArg _ (by omega)
    · rw [if_neg c1, pk_cpy_out (by omega), va_up_ne _ _ (by omega), va_up_ne _ _ (by omega), h1s (s + 3) (by omega) (Ne.symm hk3)]
  · rw [va_up_ne _ _ h3, va_up_ne _ _ h2, va_up_ne _ _ h1, h1s x h0 h4]
theorem c_skBecome {L d n : Nat} {I : q_I} {J : q_L} {R : q_R} {Q : q_Q} {s o c : Nat} (hs : q_ob n s 4) (r1 : R s 1 = some (s + 1)) (r2 : R s 2 = some (s + 2)) (r3 : R s 3 = some (s + 3)) (o1 : q_ar n (s + 1) 0 28) (o2 : q_ar n (s + 2) 0 28) (o3 : q_ar n (s + 3) 0 224) (hs2 : q_ob n o 4) (q1 : R o 1 = some (o + 1)) (q2 : R o 2 = some (o + 2)) (q3 : R o 3 = some (o + 3)) (p1 : q_ar n (o + 1) 0 28) (p2 : q_ar n (o + 2) 0 28) (p3 : q_ar n (o + 3) 0 224) (hd : s + 4 ≤ o ∨ o + 4 ≤ s) (hc : I o 0 = nI c) (hc28 : c ≤ 28) (hQ : ∀ I', I' s 0 = nI c → (∀ j, j < c → I' (s + 1) j = I (o + 1) j) → (∀ j, j < c → I' (s + 2) j = I (o + 2) j) → (∀ j, j < 8 * c → I' (s + 3) j = I (o + 3) j) → (∀ x, x ≠ s → x ≠ s + 1 → x ≠ s + 2 → x ≠ s + 3 → I' x = I x) → Q none (n, I', J, R)) : q_Ex L (d + 1) 26 [.ref s, .ref o] (n, I, J, R) Q := by
  refine q_in (x := q_m26) rfl rfl ?_
  show q_W L d 26 q_m26 Q 0 [some (.ref s), some (.ref o)] [] (n, I, J, R) 0 0
  refine q_k 2 ?_
  show q_W L d 26 q_m26 Q 2 [some (.ref s), some (.ref o)] [.ref o, .ref s] (n, I, J, R) 0 0
  refine q_gI rfl rfl (hs2) ?_
  refine q_top (w := nI c) (hc) ?_
  refine q_pI rfl rfl rfl (hs) ?_
  refine q_k 1 ?_
  show q_W L d 26 q_m26 Q 9 [some (.ref s), some (.ref o)] [.ref o] (n, q_up I s 0 (nI c), J, R) 0 0
  refine q_gR (b := (o + 1)) rfl rfl (hs2) (q1) ?_
  refine q_k 2 ?_
  show q_W L d 26 q_m26 Q 14 [some (.ref s), some (.ref o)] [.ref s, .int (nI 0), .ref (o + 1)] (n, q_up I s 0 (nI c), J, R) 0 0
  refine q_gR (b := (s + 1)) rfl rfl (hs) (r1) ?_
  refine q_k 2 ?_
  show q_W L d 26 q_m26 Q 19 [some (.ref s), some (.ref o)] [.ref s, .int (nI 0), .ref (s + 1), .int (nI 0), .ref (o + 1)] (n, q_up I s 0 (nI c), J, R) 0 0
  refine q_gI rfl rfl (hs) ?_
  refine q_top (w := nI c) (q_usk) ?_
  refine q_ac (sp := 0) (dp := 0) (c := c) rfl rfl rfl (Or.inl p1) (o1) (by omega) (by omega) ⟨rfl, rfl⟩ ?_
  refine q_k 1 ?_
  show q_W L d 26 q_m26 Q 26 [some (.ref s), some (.ref o)] [.ref o] (n, va_up (q_up I s 0 (nI c)) (s + 1) (va_cpy ((q_up I s 0 (nI c)) (o + 1)) ((q_up I s 0 (nI c)) (s + 1)) 0 0 c), J, R) 0 0
  refine q_gR (b := (o + 2)) rfl rfl (hs2) (q2) ?_
  refine q_k 2 ?_
  show q_W L d 26 q_m26 Q 31 [some (.ref s), some (.ref o)] [.ref s, .int (nI 0), .ref (o + 2)] (n, va_up (q_up I s 0 (nI c)) (s + 1) (va_cpy ((q_up I s 0 (nI c)) (o + 1)) ((q_up I s 0 (nI c)) (s + 1)) 0 0 c), J, R) 0 0
  refine q_gR (b := (s + 2)) rfl rfl (hs) (r2) ?_
  refine q_k 2 ?_
  show q_W L d 26 q_m26 Q 36 [some (.ref s), some (.ref o)] [.ref s, .int (nI 0), .ref (s + 2), .int (nI 0), .ref (o + 2)] (n, va_up (q_up I s 0 (nI c)) (s + 1) (va_cpy ((q_up I s 0 (nI c)) (o + 1)) ((q_up I s 0 (nI c)) (s + 1)) 0 0 c), J, R) 0 0
  refine q_gI rfl rfl (hs) ?_
  refine q_top (w := nI c) (by rw [va_up_ne _ _ (by omega), q_usk]) ?_
  refine q_ac (sp := 0) (dp := 0) (c := c) rfl rfl rfl (Or.inl p2) (o2) (by omega) (by omega) ⟨rfl, rfl⟩ ?_
  refine q_k 1 ?_
  show q_W L d 26 q_m26 Q 43 [some (.ref s), some (.ref o)] [.ref o] (n, va_up (va_up (q_up I s 0 (nI c)) (s + 1) (va_cpy ((q_up I s 0 (nI c)) (o + 1)) ((q_up I s 0 (nI c)) (s + 1)) 0 0 c)) (s + 2) (va_cpy ((va_up (q_up I s 0 (nI c)) (s + 1) (va_cpy ((q_up I s 0 (nI c)) (o + 1)) ((q_up I s 0 (nI c)) (s + 1)) 0 0 c)) (o + 2)) ((va_up (q_up I s 0 (nI c)) (s + 1) (va_cpy ((q_up I s 0 (nI c)) (o + 1)) ((q_up I s 0 (nI c)) (s + 1)) 0 0 c)) (s + 2)) 0 0 c), J, R) 0 0
  refine q_gR (b := (o + 3)) rfl rfl (hs2) (q3) ?_
  refine q_k 2 ?_
  show q_W L d 26 q_m26 Q 48 [some (.ref s), some (.ref o)] [.ref s, .int (nI 0), .ref (o + 3)] (n, va_up (va_up (q_up I s 0 (nI c)) (s + 1) (va_cpy ((q_up I s 0 (nI c)) (o + 1)) ((q_up I s 0 (nI c)) (s + 1)) 0 0 c)) (s + 2) (va_cpy ((va_up (q_up I s 0 (nI c)) (s + 1) (va_cpy ((q_up I s 0 (nI c)) (o + 1)) ((q_up I s 0 (nI c)) (s + 1)) 0 0 c)) (o + 2)) ((va_up (q_up I s 0 (nI c)) (s + 1) (va_cpy ((q_up I s 0 (nI c)) (o + 1)) ((q_up I s 0 (nI c)) (s + 1)) 0 0 c)) (s + 2)) 0 0 c), J, R) 0 0
  refine q_gR (b := (s + 3)) rfl rfl (hs) (r3) ?_
  refine q_k 2 ?_
  show q_W L d 26 q_m26 Q 53 [some (.ref s), some (.ref o)] [.ref s, .int (nI 0), .ref (s + 3), .int (nI 0), .ref (o + 3)] (n, va_up (va_up (q_up I s 0 (nI c)) (s + 1) (va_cpy ((q_up I s 0 (nI c)) (o + 1)) ((q_up I s 0 (nI c)) (s + 1)) 0 0 c)) (s + 2) (va_cpy ((va_up (q_up I s 0 (nI c)) (s + 1) (va_cpy ((q_up I s 0 (nI c)) (o + 1)) ((q_up I s 0 (nI c)) (s + 1)) 0 0 c)) (o + 2)) ((va_up (q_up I s 0 (nI c)) (s + 1) (va_cpy ((q_up I s 0 (nI c)) (o + 1)) ((q_up I s 0 (nI c)) (s + 1)) 0 0 c)) (s + 2)) 0 0 c), J, R) 0 0
  refine q_gI rfl rfl (hs) ?_
  refine q_top (w := nI c) (by rw [va_up_ne _ _ (by omega), va_up_ne _ _ (by omega), q_usk]) ?_
  refine q_k 2 ?_
  show q_W L d 26 q_m26 Q 59 [some (.ref s), some (.ref o)] [.int ((nI c) * (nI 8)), .int (nI 0), .ref (s + 3), .int (nI 0), .ref (o + 3)] (n, va_up (va_up (q_up I s 0 (nI c)) (s + 1) (va_cpy ((q_up I s 0 (nI c)) (o + 1)) ((q_up I s 0 (nI c)) (s + 1)) 0 0 c)) (s + 2) (va_cpy ((va_up (q_up I s 0 (nI c)) (s + 1) (va_cpy ((q_up I s 0 (nI c)) (o + 1)) ((q_up I s 0 (nI c)) (s + 1)) 0 0 c)) (o + 2)) ((va_up (q_up I s 0 (nI c)) (s + 1) (va_cpy ((q_up I s 0 (nI c)) (o + 1)) ((q_up I s 0 (nI c)) (s + 1)) 0 0 c)) (s + 2)) 0 0 c), J, R) 0 0
  refine q_top (w := nI (c * 8)) (pk_mul _ _) ?_
  refine q_ac (sp := 0) (dp := 0) (c := c * 8) rfl rfl rfl (Or.inl p3) (o3) (by omega) (by omega) ⟨rfl, rfl⟩ ?_
  refine q_one rfl rfl ?_
  show Q (none) (n, va_up (va_up (va_up (q_up I s 0 (nI c)) (s + 1) (va_cpy ((q_up I s 0 (nI c)) (o + 1)) ((q_up I s 0 (nI c)) (s + 1)) 0 0 c)) (s + 2) (va_cpy ((va_up (q_up I s 0 (nI c)) (s + 1) (va_cpy ((q_up I s 0 (nI c)) (o + 1)) ((q_up I s 0 (nI c)) (s + 1)) 0 0 c)) (o + 2)) ((va_up (q_up I s 0 (nI c)) (s + 1) (va_cpy ((q_up I s 0 (nI c)) (o + 1)) ((q_up I s 0 (nI c)) (s + 1)) 0 0 c)) (s + 2)) 0 0 c)) (s + 3) (va_cpy ((va_up (va_up (q_up I s 0 (nI c)) (s + 1) (va_cpy ((q_up I s 0 (nI c)) (o + 1)) ((q_up I s 0 (nI c)) (s + 1)) 0 0 c)) (s + 2) (va_cpy ((va_up (q_up I s 0 (nI c)) (s + 1) (va_cpy ((q_up I s 0 (nI c)) (o + 1)) ((q_up I s 0 (nI c)) (s + 1)) 0 0 c)) (o + 2)) ((va_up (q_up I s 0 (nI c)) (s + 1) (va_cpy ((q_up I s 0 (nI c)) (o + 1)) ((q_up I s 0 (nI c)) (s + 1)) 0 0 c)) (s + 2)) 0 0 c)) (o + 3)) ((va_up (va_up (q_up I s 0 (nI c)) (s + 1) (va_cpy ((q_up I s 0 (nI c)) (o + 1)) ((q_up I s 0 (nI c)) (s + 1)) 0 0 c)) (s + 2) (va_cpy ((va_up (q_up I s 0 (nI c)) (s + 1) (va_cpy ((q_up I s 0 (nI c)) (o + 1)) ((q_up I s 0 (nI c)) (s + 1)) 0 0 c)) (o + 2)) ((va_up (q_up I s 0 (nI c)) (s + 1) (va_cpy ((q_up I s 0 (nI c)) (o + 1)) ((q_up I s 0 (nI c)) (s + 1)) 0 0 c)) (s + 2)) 0 0 c)) (s + 3)) 0 0 (c * 8)), J, R)
  refine hQ _ ?_ (fun j hj => ?_) (fun j hj => ?_) (fun j hj => ?_) (fun x h0 h1 h2 h3 => ?_)
  · rw [va_up_ne _ _ (by omega), va_up_ne _ _ (by omega), va_up_ne _ _ (by omega), q_usk]
  · rw [va_up_ne _ _ (by omega), va_up_ne _ _ (by omega), va_up_self, pk_cpy_in (by omega) (by omega), q_un (by omega)]; exact congrArg _ (by omega)
  · rw [va_up_ne _ _ (by omega), va_up_self, pk_cpy_in (by omega) (by omega), va_up_ne _ _ (by omega), q_un (by omega)]; exact congrArg _ (by omega)
  · rw [va_up_self, pk_cpy_in (by omega) (by omega), va_up_ne _ _ (by omega), va_up_ne _ _ (by omega), q_un (by omega)]; exact congrArg _ (by omega)
  · rw [va_up_ne _ _ h3, va_up_ne _ _ h2, va_up_ne _ _ h1, q_un h0]
