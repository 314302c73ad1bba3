theorem c_publish {L d n : Nat} {I : q_I} {J : q_L} {R : q_R} {Q : q_Q} {a u : Nat} {lo hi : Int32} (hK : q_K0 n I R) (hA : q_Ac n R a) (hs : ∀ i, i < 8 → I (a + 8) i = g_fl lo hi (nI u) (nI 0) i) (hQ : ∀ I', I' a = va_up (I a) 1 (I a 1 + nI 1) → I' (a + 5) 0 = I (a + 1) 1 → I' (a + 5) 1 = I (a + 2) 1 → I' (a + 5) 2 = g_pub (g_priv lo hi u (I a 1 + nI 1)) → I' (a + 5) 3 = g_prf (g_priv lo hi u (I a 1 + nI 1)) (I (a + 1) 0) (g_hash (I (a + 1) 1) (I (a + 2) 1) (g_pub (g_priv lo hi u (I a 1 + nI 1)))) → (∀ j, 4 ≤ j → I' (a + 5) j = I (a + 5) j) → (∀ x, x ≠ 5 → x ≠ 6 → x ≠ 7 → x ≠ a → x ≠ a + 5 → x ≠ a + 7 → I' x = I x) → Q none (n, I', J, R)) : q_Ex L (d + 5) 19 [.ref a, .ref 4] (n, I, J, R) Q := by
  refine q_in (x := q_m19) rfl rfl ?_
  show q_W L (d + 4) 19 q_m19 Q 0 [some (.ref a), some (.ref 4), none, none] [] (n, I, J, R) 0 0
  have h84 := hA.lo
  refine q_k 3 ?_
  show q_W L (d + 4) 19 q_m19 Q 3 [some (.ref a), some (.ref 4), none, none] [.ref a, .ref 4, .ref a] (n, I, J, R) 0 0
  refine q_gR (b := (a + 7)) rfl rfl (hA.ob) (hA.r9) ?_
  refine q_cv (as := [.ref 4, .ref (a + 7)]) (rs := []) rfl rfl rfl (hA.ob) rfl rfl ?_
  refine c_draw (hK) (hA) (hA.o7) (by omega) (hs) (fun I1 d1 k1 g1 f1 => ?_)
  show q_W L (d + 4) 19 q_m19 Q 9 [some (.ref a), some (.ref 4), none, none] [] (n, I1, J, R) 0 0
  refine q_k 1 ?_
  show q_W L (d + 4) 19 q_m19 Q 10 [some (.ref a), some (.ref 4), none, none] [.ref a] (n, I1, J, R) 0 0
  refine q_gR (b := (a + 5)) rfl rfl (hA.ob) (hA.r8) ?_
  refine q_k 1 ?_
  show q_W L (d + 4) 19 q_m19 Q 14 [some (.ref a), some (.ref 4), none, none] [.ref a, .ref (a + 5)] (n, I1, J, R) 0 0
  refine q_gR (b := (a + 1)) rfl rfl (hA.ob) (hA.r2) ?_
  refine q_gI rfl rfl (hA.o1) ?_
  refine q_top (w := I (a + 1) 1) (by rw [f1 (a + 1) (by omega) (by omega) (by omega) (by omega) (by omega)]) ?_
  refine q_pI rfl rfl rfl (hA.o5) ?_
  refine q_k 1 ?_
  show q_W L (d + 4) 19 q_m19 Q 24 [some (.ref a), some (.ref 4), none, none] [.ref a] (n, q_up I1 (a + 5) 0 (I (a + 1) 1), J, R) 0 0
  refine q_gR (b := (a + 5)) rfl rfl (hA.ob) (hA.r8) ?_
  refine q_k 1 ?_
  show q_W L (d + 4) 19 q_m19 Q 28 [some (.ref a), some (.ref 4), none, none] [.ref a, .ref (a + 5)] (n, q_up I1 (a + 5) 0 (I (a + 1) 1), J, R) 0 0
  refine q_gR (b := (a + 2)) rfl rfl (hA.ob) (hA.r3) ?_
  refine q_gI rfl rfl (hA.o2) ?_
  refine q_top (w := I (a + 2) 1) (by rw [q_un (by omega), f1 (a + 2) (by omega) (by omega) (by omega) (by omega) (by omega)]) ?_
  refine q_pI rfl rfl rfl (hA.o5) ?_
  refine q_k 1 ?_
  show q_W L (d + 4) 19 q_m19 Q 38 [some (.ref a), some (.ref 4), none, none] [.ref a] (n, q_up (q_up I1 (a + 5) 0 (I (a + 1) 1)) (a + 5) 1 (I (a + 2) 1), J, R) 0 0
  refine q_gR (b := (a + 5)) rfl rfl (hA.ob) (hA.r8) ?_
  refine q_k 1 ?_
  show q_W L (d + 4) 19 q_m19 Q 42 [some (.ref a), some (.ref 4), none, none] [.ref a, .ref (a + 5)] (n, q_up (q_up I1 (a + 5) 0 (I (a + 1) 1)) (a + 5) 1 (I (a + 2) 1), J, R) 0 0
  refine q_gR (b := (a + 7)) rfl rfl (hA.ob) (hA.r9) ?_
  refine q_gI rfl rfl (hA.o7) ?_
  refine q_top (w := g_pub (g_priv lo hi u (I a 1 + nI 1))) (by rw [q_un (by omega), q_un (by omega)]; exact g1) ?_
  refine q_pI rfl rfl rfl (hA.o5) ?_
  obtain ⟨I2, eI2⟩ : ∃ zz9, zz9 = q_up (q_up (q_up I1 (a + 5) 0 (I (a + 1) 1)) (a + 5) 1 (I (a + 2) 1)) (a + 5) 2 (g_pub (g_priv lo hi u (I a 1 + nI 1))) := ⟨_, rfl⟩
  rw [← eI2]
  refine q_k 1 ?_
  show q_W L (d + 4) 19 q_m19 Q 52 [some (.ref a), some (.ref 4), none, none] [.ref a] (n, I2, J, R) 0 0
  refine q_gR (b := (a + 5)) rfl rfl (hA.ob) (hA.r8) ?_
  refine q_k 1 ?_
  show q_W L (d + 4) 19 q_m19 Q 56 [some (.ref a), some (.ref 4), none, none] [.ref 4, .ref (a + 5)] (n, I2, J, R) 0 0
  refine q_cv (as := [.ref 4]) (rs := []) rfl rfl rfl (hA.o5) rfl rfl ?_
  refine c_challenge (q_K0_to hK (by rw [eI2, q_un (by omega), q_un (by omega), q_un (by omega), f1 0 (by omega) (by omega) (by omega) (by omega) (by omega)]) (by rw [eI2, q_un (by omega), q_un (by omega), q_un (by omega), f1 1 (by omega) (by omega) (by omega) (by omega) (by omega)])) (hA.o5) (fun I3 f3 => ?_)
  refine q_top (w := g_hash (I (a + 1) 1) (I (a + 2) 1) (g_pub (g_priv lo hi u (I a 1 + nI 1)))) (by rw [eI2, q_usn (by decide), q_usn (by decide), q_usk, q_usn (by decide), q_usk, q_usk]) ?_
  show q_W L (d + 4) 19 q_m19 Q 59 [some (.ref a), some (.ref 4), none, none] [.int (g_hash (I (a + 1) 1) (I (a + 2) 1) (g_pub (g_priv lo hi u (I a 1 + nI 1))))] (n, I3, J, R) 0 0
  refine q_k 3 ?_
  show q_W L (d + 4) 19 q_m19 Q 62 [some (.ref a), some (.ref 4), some (.long ((g_hash (I (a + 1) 1) (I (a + 2) 1) (g_pub (g_priv lo hi u (I a 1 + nI 1)))).toInt64)), none] [.ref a] (n, I3, J, R) 0 0
  refine q_gR (b := (a + 5)) rfl rfl (hA.ob) (hA.r8) ?_
  refine q_k 1 ?_
  show q_W L (d + 4) 19 q_m19 Q 66 [some (.ref a), some (.ref 4), some (.long ((g_hash (I (a + 1) 1) (I (a + 2) 1) (g_pub (g_priv lo hi u (I a 1 + nI 1)))).toInt64)), none] [.ref a, .ref (a + 5)] (n, I3, J, R) 0 0
  refine q_gR (b := (a + 7)) rfl rfl (hA.ob) (hA.r9) ?_
  refine q_gI rfl rfl (hA.o7) ?_
  refine q_top (w := g_priv lo hi u (I a 1 + nI 1)) (by rw [f3 (a + 7) (by omega) (by omega) (by omega), eI2, q_un (by omega), q_un (by omega), q_un (by omega)]; exact k1) ?_
  refine q_k 2 ?_
  show q_W L (d + 4) 19 q_m19 Q 74 [some (.ref a), some (.ref 4), some (.long ((g_hash (I (a + 1) 1) (I (a + 2) 1) (g_pub (g_priv lo hi u (I a 1 + nI 1)))).toInt64)), none] [.ref a, .long ((g_priv lo hi u (I a 1 + nI 1)).toInt64), .ref (a + 5)] (n, I3, J, R) 0 0
  refine q_gR (b := (a + 1)) rfl rfl (hA.ob) (hA.r2) ?_
  refine q_gI rfl rfl (hA.o1) ?_
  refine q_top (w := I (a + 1) 0) (by rw [f3 (a + 1) (by omega) (by omega) (by omega), eI2, q_un (by omega), q_un (by omega), q_un (by omega), f1 (a + 1) (by omega) (by omega) (by omega) (by omega) (by omega)]) ?_
  refine q_k 5 ?_
  show q_W L (d + 4) 19 q_m19 Q 87 [some (.ref a), some (.ref 4), some (.long ((g_hash (I (a + 1) 1) (I (a + 2) 1) (g_pub (g_priv lo hi u (I a 1 + nI 1)))).toInt64)), none] [.long (lN 2147483646), .long (((g_priv lo hi u (I a 1 + nI 1)).toInt64) + (((I (a + 1) 0).toInt64) * ((g_hash (I (a + 1) 1) (I (a + 2) 1) (g_pub (g_priv lo hi u (I a 1 + nI 1)))).toInt64))), .ref (a + 5)] (n, I3, J, R) 0 0
  refine q_one rfl rfl ?_
  show ¬ (lN 2147483646) = 0 ∧ q_W L (d + 4) 19 q_m19 Q 88 [some (.ref a), some (.ref 4), some (.long ((g_hash (I (a + 1) 1) (I (a + 2) 1) (g_pub (g_priv lo hi u (I a 1 + nI 1)))).toInt64)), none] [.long ((((g_priv lo hi u (I a 1 + nI 1)).toInt64) + (((I (a + 1) 0).toInt64) * ((g_hash (I (a + 1) 1) (I (a + 2) 1) (g_pub (g_priv lo hi u (I a 1 + nI 1)))).toInt64))) - (((g_priv lo hi u (I a 1 + nI 1)).toInt64) + (((I (a + 1) 0).toInt64) * ((g_hash (I (a + 1) 1) (I (a + 2) 1) (g_pub (g_priv lo hi u (I a 1 + nI 1)))).toInt64))) / (lN 2147483646) * (lN 2147483646)), .ref (a + 5)] (n, I3, J, R) 0 0
  refine ⟨by decide +kernel, ?_⟩
  refine q_k 1 ?_
  show q_W L (d + 4) 19 q_m19 Q 89 [some (.ref a), some (.ref 4), some (.long ((g_hash (I (a + 1) 1) (I (a + 2) 1) (g_pub (g_priv lo hi u (I a 1 + nI 1)))).toInt64)), none] [.int (((((g_priv lo hi u (I a 1 + nI 1)).toInt64) + (((I (a + 1) 0).toInt64) * ((g_hash (I (a + 1) 1) (I (a + 2) 1) (g_pub (g_priv lo hi u (I a 1 + nI 1)))).toInt64))) - (((g_priv lo hi u (I a 1 + nI 1)).toInt64) + (((I (a + 1) 0).toInt64) * ((g_hash (I (a + 1) 1) (I (a + 2) 1) (g_pub (g_priv lo hi u (I a 1 + nI 1)))).toInt64))) / (lN 2147483646) * (lN 2147483646)).toInt32), .ref (a + 5)] (n, I3, J, R) 0 0
  refine q_top (w := g_prf (g_priv lo hi u (I a 1 + nI 1)) (I (a + 1) 0) (g_hash (I (a + 1) 1) (I (a + 2) 1) (g_pub (g_priv lo hi u (I a 1 + nI 1))))) (rfl) ?_
  refine q_pI rfl rfl rfl (hA.o5) ?_
  obtain ⟨I4, eI4⟩ : ∃ zz9, zz9 = q_up I3 (a + 5) 3 (g_prf (g_priv lo hi u (I a 1 + nI 1)) (I (a + 1) 0) (g_hash (I (a + 1) 1) (I (a + 2) 1) (g_pub (g_priv lo hi u (I a 1 + nI 1))))) := ⟨_, rfl⟩
  rw [← eI4]
  refine q_one rfl rfl ?_
  show Q (none) (n, I4, J, R)
  refine hQ I4 ?_ ?_ ?_ ?_ ?_ (fun j hj => ?_) (fun x h5 h6 h7 ha he hn => ?_)
  · rw [eI4, q_un (by omega), f3 a (by omega) (by omega) (by omega), eI2, q_un (by omega), q_un (by omega), q_un (by omega)]; exact d1
  · rw [eI4, q_usn (by decide), f3 (a + 5) (by omega) (by omega) (by omega), eI2, q_usn (by decide), q_usn (by decide), q_usk]
  · rw [eI4, q_usn (by decide), f3 (a + 5) (by omega) (by omega) (by omega), eI2, q_usn (by decide), q_usk]
  · rw [eI4, q_usn (by decide), f3 (a + 5) (by omega) (by omega) (by omega), eI2, q_usk]
  · rw [eI4, q_usk]
  · rw [eI4, q_usn (by omega), f3 (a + 5) (by omega) (by omega) (by omega), eI2, q_usn (by omega), q_usn (by omega), q_usn (by omega), f1 (a + 5) (by omega) (by omega) (by omega) (by omega) (by omega)]
  · rw [eI4, q_un he, f3 x h5 h6 h7, eI2, q_un he, q_un he, q_un he, f1 x h5 h6 h7 ha hn]
theorem c_enter {L d n : Nat} {I : q_I} {J : q_L} {R : q_R} {Q : q_Q} {a u : Nat} {z : Int64} {M : q_I} (hK : q_K0 n I R) (hA : q_Ac n R a) (hc : c_A I R M a u) (hQ : ∀ I', c_A I' R (f_reg u z M) a u → (∀ x, x ≠ 5 → x ≠ 6 → x ≠ 7 → (x < a ∨ a + 19 ≤ x) → I' x = I x) → Q none (n, I', J, R)) : q_Ex L (d + 6) 16 [.ref a, .ref 4, .long z] (n, I, J, R) Q := by
  refine q_in (x := q_m16) rfl rfl ?_
  show q_W L (d + 5) 16 q_m16 Q 0 [some (.ref a), some (.ref 4), some (.long z), none] [] (n, I, J, R) 0 0
  have h84 := hA.lo
  refine q_k 2 ?_
  show q_W L (d + 5) 16 q_m16 Q 2 [some (.ref a), some (.ref 4), some (.long z), none] [.int (nI 1), .ref a] (n, I, J, R) 0 0
  refine q_pZ rfl rfl rfl (hA.ob) (Or.inr rfl) ?_
  refine q_k 1 ?_
  show q_W L (d + 5) 16 q_m16 Q 6 [some (.ref a), some (.ref 4), some (.long z), none] [.ref a] (n, q_up I a 0 (nI 1), J, R) 0 0
  refine q_gR (b := (a + 8)) rfl rfl (hA.ob) (hA.r10) ?_
  refine q_k 2 ?_
  show q_W L (d + 5) 16 q_m16 Q 11 [some (.ref a), some (.ref 4), some (.long z), none] [.long z, .int (nI 0), .ref (a + 8)] (n, q_up I a 0 (nI 1), J, R) 0 0
  refine q_cs (as := [.long z]) (rs := [.int (nI 0), .ref (a + 8)]) rfl rfl rfl rfl rfl ?_
  refine c_lowerHalf  ?_
  show q_W L (d + 5) 16 q_m16 Q 14 [some (.ref a), some (.ref 4), some (.long z), none] [.int z.toInt32, .int (nI 0), .ref (a + 8)] (n, q_up I a 0 (nI 1), J, R) 0 0
  refine q_ias (m := 0) rfl (hA.o8) (by decide) (rfl) ?_
  refine q_k 1 ?_
  show q_W L (d + 5) 16 q_m16 Q 16 [some (.ref a), some (.ref 4), some (.long z), none] [.ref a] (n, q_up (q_up I a 0 (nI 1)) (a + 8) 0 z.toInt32, J, R) 0 0
  refine q_gR (b := (a + 8)) rfl rfl (hA.ob) (hA.r10) ?_
  refine q_k 2 ?_
  show q_W L (d + 5) 16 q_m16 Q 21 [some (.ref a), some (.ref 4), some (.long z), none] [.long z, .int (nI 1), .ref (a + 8)] (n, q_up (q_up I a 0 (nI 1)) (a + 8) 0 z.toInt32, J, R) 0 0
  refine q_cs (as := [.long z]) (rs := [.int (nI 1), .ref (a + 8)]) rfl rfl rfl rfl rfl ?_
  refine c_upperHalf  ?_
  refine q_top (w := g_up z) (g_up_u z) ?_
  show q_W L (d + 5) 16 q_m16 Q 24 [some (.ref a), some (.ref 4), some (.long z), none] [.int (g_up z), .int (nI 1), .ref (a + 8)] (n, q_up (q_up I a 0 (nI 1)) (a + 8) 0 z.toInt32, J, R) 0 0
  refine q_ias (m := 1) rfl (hA.o8) (by decide) (rfl) ?_
  obtain ⟨I1, eI1⟩ : ∃ zz9, zz9 = q_up (q_up (q_up I a 0 (nI 1)) (a + 8) 0 z.toInt32) (a + 8) 1 (g_up z) := ⟨_, rfl⟩
  rw [← eI1]
  refine q_k 3 ?_
  show q_W L (d + 5) 16 q_m16 Q 28 [some (.ref a), some (.ref 4), some (.long z), none] [.ref a, .ref 4, .ref a] (n, I1, J, R) 0 0
  refine q_gR (b := (a + 1)) rfl rfl (hA.ob) (hA.r2) ?_
  refine q_cv (as := [.ref 4, .ref (a + 1)]) (rs := []) rfl rfl rfl (hA.ob) rfl rfl ?_
  have hs1 : ∀ i, i < 8 → I1 (a + 8) i = g_fl z.toInt32 (g_up z) (nI u) (nI 0) i := fun i hi => by
    rw [eI1]
    by_cases e1 : i = 1
    · subst e1; rw [q_usk]; rfl
    · rw [q_usn e1]
      by_cases e0 : i = 0
      · subst e0; rw [q_usk]; rfl
      · rw [q_usn e0, q_un (by omega), hc.seed i hi]
        unfold g_fl
        rw [if_neg e0, if_neg e1, if_neg e0, if_neg e1]
  have hd1 : I1 a 1 = M 196 u := by rw [eI1, q_un (by omega), q_un (by omega), q_usn (by decide)]; exact hc.dr
  refine c_draw (q_K0_to hK (by rw [eI1, q_un (by omega), q_un (by omega), q_un (by omega)]) (by rw [eI1, q_un (by omega), q_un (by omega), q_un (by omega)])) (hA) (hA.o1) (by omega) (hs1) (fun I2 d2 k2 g2 f2 => ?_)
  rw [hd1] at d2 k2 g2
  show q_W L (d + 5) 16 q_m16 Q 34 [some (.ref a), some (.ref 4), some (.long z), none] [] (n, I2, J, R) 0 0
  refine q_k 3 ?_
  show q_W L (d + 5) 16 q_m16 Q 37 [some (.ref a), some (.ref 4), some (.long z), none] [.ref a, .ref 4, .ref a] (n, I2, J, R) 0 0
  refine q_gR (b := (a + 2)) rfl rfl (hA.ob) (hA.r3) ?_
  refine q_cv (as := [.ref 4, .ref (a + 2)]) (rs := []) rfl rfl rfl (hA.ob) rfl rfl ?_
  have hd2 : I2 a 1 = M 196 u + nI 1 := by rw [d2, va_up_self]
  refine c_draw (q_K0_to hK (by rw [f2 0 (by omega) (by omega) (by omega) (by omega) (by omega), eI1, q_un (by omega), q_un (by omega), q_un (by omega)]) (by rw [f2 1 (by omega) (by omega) (by omega) (by omega) (by omega), eI1, q_un (by omega), q_un (by omega), q_un (by omega)])) (hA) (hA.o2) (by omega) (fun i hi => by rw [f2 (a + 8) (by omega) (by omega) (by omega) (by omega) (by omega)]; exact hs1 i hi) (fun I3 d3 k3 g3 f3 => ?_)
  rw [hd2] at d3 k3 g3
  show q_W L (d + 5) 16 q_m16 Q 43 [some (.ref a), some (.ref 4), some (.long z), none] [] (n, I3, J, R) 0 0
  refine q_k 2 ?_
  show q_W L (d + 5) 16 q_m16 Q 45 [some (.ref a), some (.ref 4), some (.long z), none] [.ref 4, .ref a] (n, I3, J, R) 0 0
  refine q_cv (as := [.ref 4]) (rs := []) rfl rfl rfl (hA.ob) rfl rfl ?_
  have hd3 : I3 a 1 = M 196 u + nI 1 + nI 1 := by rw [d3, va_up_self]
  refine c_publish (q_K0_to hK (by rw [f3 0 (by omega) (by omega) (by omega) (by omega) (by omega), f2 0 (by omega) (by omega) (by omega) (by omega) (by omega), eI1, q_un (by omega), q_un (by omega), q_un (by omega)]) (by rw [f3 1 (by omega) (by omega) (by omega) (by omega) (by omega), f2 1 (by omega) (by omega) (by omega) (by omega) (by omega), eI1, q_un (by omega), q_un (by omega), q_un (by omega)])) (hA) (fun i hi => by rw [f3 (a + 8) (by omega) (by omega) (by omega) (by omega) (by omega), f2 (a + 8) (by omega) (by omega) (by omega) (by omega) (by omega)]; exact hs1 i hi) (fun I4 d4 p4 q4 t4 w4 o4 f4 => ?_)
  rw [hd3] at d4 t4 w4
  show q_W L (d + 5) 16 q_m16 Q 48 [some (.ref a), some (.ref 4), some (.long z), none] [] (n, I4, J, R) 0 0
  refine q_one rfl rfl ?_
  show Q (none) (n, I4, J, R)
  have eM : ∃ B, B = (q_up (q_up (f_draw u (q_up (q_up (q_up M 193 u (nI 1)) 194 u z.toInt32) 195 u (g_up z))) 197 (2 * u) (g_nx (q_up (q_up (q_up M 193 u (nI 1)) 194 u z.toInt32) 195 u (g_up z)) u)) 197 (2 * u + 1) (g_pub (g_nx (q_up (q_up (q_up M 193 u (nI 1)) 194 u z.toInt32) 195 u (g_up z)) u))) := ⟨_, rfl⟩
  obtain ⟨B, eB⟩ := eM
  have hB : f_reg u z M = f_sign u B := by rw [eB]; rfl
  have b3 : B 193 u = nI 1 := by rw [eB]; simp (disch := omega) only [f_draw, g_nx, q_un, q_usk, q_usn]
  have b4 : B 194 u = z.toInt32 := by rw [eB]; simp (disch := omega) only [f_draw, g_nx, q_un, q_usk, q_usn]
  have b5 : B 195 u = g_up z := by rw [eB]; simp (disch := omega) only [f_draw, g_nx, q_un, q_usk, q_usn]
  have b6 : B 196 u = M 196 u + nI 1 := by rw [eB]; simp (disch := omega) only [f_draw, g_nx, q_un, q_usk, q_usn]
  have b70 : B 197 (2 * u) = g_priv z.toInt32 (g_up z) u (M 196 u + nI 1) := by rw [eB]; simp (disch := omega) only [f_draw, g_nx, q_un, q_usk, q_usn]
  have b71 : B 197 (2 * u + 1) = g_pub (g_priv z.toInt32 (g_up z) u (M 196 u + nI 1)) := by rw [eB]; simp (disch := omega) only [f_draw, g_nx, q_un, q_usk, q_usn]
  have bn : ∀ r, r ≠ 193 → r ≠ 194 → r ≠ 195 → r ≠ 196 → r ≠ 197 → B r = M r := fun r h3 h4 h5 h6 h7 => by rw [eB, q_un h7, q_un h7]; unfold f_draw; rw [q_un h6, q_un h5, q_un h4, q_un h3]
  have bnx : g_nx B u = g_priv z.toInt32 (g_up z) u (M 196 u + nI 1 + nI 1) := by unfold g_nx; rw [b4, b5, b6]
  obtain ⟨v1, v2, v3, v4, v5, v6, v7⟩ := f_sign_v (u := u) (M := B)
  rw [b4, b5, b6] at v6 v7
  rw [bnx] at v2 v3 v5 v7
  rw [b6] at v1
  rw [b71] at v4 v7
  rw [b70] at v7
  have h11 : I4 (a + 1) = I2 (a + 1) := by rw [f4 (a + 1) (by omega) (by omega) (by omega) (by omega) (by omega) (by omega), f3 (a + 1) (by omega) (by omega) (by omega) (by omega) (by omega)]
  have h12 : I4 (a + 2) = I3 (a + 2) := by rw [f4 (a + 2) (by omega) (by omega) (by omega) (by omega) (by omega) (by omega)]
  have h31 : I3 (a + 1) 1 = I2 (a + 1) 1 := by rw [f3 (a + 1) (by omega) (by omega) (by omega) (by omega) (by omega)]
  have h30 : I3 (a + 1) 0 = I2 (a + 1) 0 := by rw [f3 (a + 1) (by omega) (by omega) (by omega) (by omega) (by omega)]
  have hfr : ∀ x, x ≠ 5 → x ≠ 6 → x ≠ 7 → x ≠ a → x ≠ a + 1 → x ≠ a + 2 → x ≠ a + 5 → x ≠ a + 7 → x ≠ a + 8 → I4 x = I x := fun x h5 h6 h7 h0 h1 h2 h55 h77 h8 => by rw [f4 x h5 h6 h7 h0 h55 h77, f3 x h5 h6 h7 h0 h2, f2 x h5 h6 h7 h0 h1, eI1, q_un h8, q_un h8, q_un h0]
  rw [hB] at hQ
  refine hQ I4 ⟨?_, ?_, ?_, ?_, ?_, ?_, ?_, ?_, ?_, ?_, ?_, ?_, ?_, ?_, ?_, ?_⟩ (fun x h5 h6 h7 hx => hfr x h5 h6 h7 (by omega) (by omega) (by omega) (by omega) (by omega) (by omega))
  · rw [f_sign_n (by decide) (by decide) (by decide), b3, d4, va_up_ne _ _ (by decide), d3, va_up_ne _ _ (by decide), d2, va_up_ne _ _ (by decide), eI1, q_un (by omega), q_un (by omega), q_usk]
  · rw [f_sign_n (by decide) (by decide) (by decide), b3]; exact Or.inr rfl
  · rw [v1, d4, va_up_self]
  · rw [h11, k2, f_sign_n (by decide) (by decide) (by decide), b70]
  · rw [h11, g2, f_sign_n (by decide) (by decide) (by decide), b71]
  · rw [h12, k3, v2]
  · rw [h12, g3, v3]
  · rw [f_sign_n (by decide) (by decide) (by decide), bn 199 (by decide) (by decide) (by decide) (by decide) (by decide), d4, va_up_ne _ _ (by decide), d3, va_up_ne _ _ (by decide), d2, va_up_ne _ _ (by decide), eI1, q_un (by omega), q_un (by omega), q_usn (by decide), hfr (a + 3) (by omega) (by omega) (by omega) (by omega) (by omega) (by omega) (by omega) (by omega) (by omega)]; exact hc.old
  · rw [v3]; exact Or.inr (g_pub_ne _)
  · obtain ⟨c, pr, h1, h2, h3, h4, h5, h6⟩ := hc.once
    refine ⟨c, pr, h1, ?_, ?_, h4, h5, fun k hk => ?_⟩
    · rw [f_sign_n (by decide) (by decide) (by decide), bn 201 (by decide) (by decide) (by decide) (by decide) (by decide)]; exact h2
    · rw [d4, va_up_ne _ _ (by decide), d3, va_up_ne _ _ (by decide), d2, va_up_ne _ _ (by decide), eI1, q_un (by omega), q_un (by omega), q_usn (by decide)]; exact h3
    · obtain ⟨-, p1, p2⟩ := h4 k (by omega)
      rw [hfr (pr k) (by omega) (by omega) (by omega) (by omega) (by omega) (by omega) (by omega) (by omega) (by omega), f_sign_n (by decide) (by decide) (by decide), bn 200 (by decide) (by decide) (by decide) (by decide) (by decide)]; exact h6 k hk
  · rw [p4, h31, g2, v4]
  · rw [q4, g3, v5]
  · rw [t4, v6]
  · rw [w4, h31, h30, g2, k2, g3, v7]
  · obtain ⟨f, h1, h2, h3, h4⟩ := hc.off
    refine ⟨f, h1, ?_, ?_, fun k hk => ?_⟩
    · rw [f_sign_n (by decide) (by decide) (by decide), bn 204 (by decide) (by decide) (by decide) (by decide) (by decide)]; exact h2
    · rw [o4 5 (by decide), f3 (a + 5) (by omega) (by omega) (by omega) (by omega) (by omega), f2 (a + 5) (by omega) (by omega) (by omega) (by omega) (by omega), eI1, q_un (by omega), q_un (by omega), q_un (by omega)]; exact h3
    · rw [hfr (a + 6) (by omega) (by omega) (by omega) (by omega) (by omega) (by omega) (by omega) (by omega) (by omega), f_sign_n (by decide) (by decide) (by decide), bn 203 (by decide) (by decide) (by decide) (by decide) (by decide)]; exact h4 k hk
  · intro i hi
    rw [f_sign_n (by decide) (by decide) (by decide), f_sign_n (by decide) (by decide) (by decide), b4, b5, f4 (a + 8) (by omega) (by omega) (by omega) (by omega) (by omega) (by omega), f3 (a + 8) (by omega) (by omega) (by omega) (by omega) (by omega), f2 (a + 8) (by omega) (by omega) (by omega) (by omega) (by omega)]; exact hs1 i hi
theorem c_renew {L d n : Nat} {I : q_I} {J : q_L} {R : q_R} {Q : q_Q} {a u : Nat} {M : q_I} (hK : q_K0 n I R) (hA : q_Ac n R a) (hc : c_A I R M a u) (hsn : ¬ M 198 (2 * u + 1) = 0) (hQ : ∀ I', c_A I' R (f_sign u (q_up (q_up M 199 (2 * u) (M 198 (2 * u))) 199 (2 * u + 1) (M 198 (2 * u + 1)))) a u → (∀ x, x ≠ 5 → x ≠ 6 → x ≠ 7 → (x < a ∨ a + 19 ≤ x) → I' x = I x) → Q none (n, I', J, R)) : q_Ex L (d + 6) 18 [.ref a, .ref 4] (n, I, J, R) Q := by
  refine q_in (x := q_m18) rfl rfl ?_
  show q_W L (d + 5) 18 q_m18 Q 0 [some (.ref a), some (.ref 4)] [] (n, I, J, R) 0 0
  have h84 := hA.lo
  refine q_k 1 ?_
  show q_W L (d + 5) 18 q_m18 Q 1 [some (.ref a), some (.ref 4)] [.ref a] (n, I, J, R) 0 0
  refine q_gR (b := (a + 3)) rfl rfl (hA.ob) (hA.r4) ?_
  refine q_k 1 ?_
  show q_W L (d + 5) 18 q_m18 Q 5 [some (.ref a), some (.ref 4)] [.ref a, .ref (a + 3)] (n, I, J, R) 0 0
  refine q_gR (b := (a + 2)) rfl rfl (hA.ob) (hA.r3) ?_
  refine q_cv (as := [.ref (a + 2)]) (rs := []) rfl rfl rfl (hA.o3) rfl rfl ?_
  refine c_Pair_become hA.o3 hA.o2 ?_
  show q_W L (d + 5) 18 q_m18 Q 11 [some (.ref a), some (.ref 4)] [] (n, q_up (q_up I (a + 3) 0 (I (a + 2) 0)) (a + 3) 1 (q_up I (a + 3) 0 (I (a + 2) 0) (a + 2) 1), J, R) 0 0
  refine q_k 2 ?_
  show q_W L (d + 5) 18 q_m18 Q 13 [some (.ref a), some (.ref 4)] [.int (nI 1), .ref a] (n, q_up (q_up I (a + 3) 0 (I (a + 2) 0)) (a + 3) 1 (q_up I (a + 3) 0 (I (a + 2) 0) (a + 2) 1), J, R) 0 0
  refine q_pZ rfl rfl rfl (hA.ob) (Or.inr rfl) ?_
  obtain ⟨I1, eI1⟩ : ∃ zz9, zz9 = q_up (q_up (q_up I (a + 3) 0 (I (a + 2) 0)) (a + 3) 1 (q_up I (a + 3) 0 (I (a + 2) 0) (a + 2) 1)) a 5 (nI 1) := ⟨_, rfl⟩
  rw [← eI1]
  refine q_k 3 ?_
  show q_W L (d + 5) 18 q_m18 Q 19 [some (.ref a), some (.ref 4)] [.ref a, .ref 4, .ref a] (n, I1, J, R) 0 0
  refine q_gR (b := (a + 2)) rfl rfl (hA.ob) (hA.r3) ?_
  refine q_cv (as := [.ref 4, .ref (a + 2)]) (rs := []) rfl rfl rfl (hA.ob) rfl rfl ?_
  have hs1 : ∀ i, i < 8 → I1 (a + 8) i = g_fl (M 194 u) (M 195 u) (nI u) (nI 0) i := fun i hi => by rw [eI1, q_un (by omega), q_un (by omega), q_un (by omega)]; exact hc.seed i hi
  have hd1 : I1 a 1 = M 196 u := by rw [eI1, q_usn (by decide), q_un (by omega), q_un (by omega)]; exact hc.dr
  refine c_draw (q_K0_to hK (by rw [eI1, q_un (by omega), q_un (by omega), q_un (by omega)]) (by rw [eI1, q_un (by omega), q_un (by omega), q_un (by omega)])) (hA) (hA.o2) (by omega) (hs1) (fun I2 d2 k2 g2 f2 => ?_)
  rw [hd1] at d2 k2 g2
  show q_W L (d + 5) 18 q_m18 Q 25 [some (.ref a), some (.ref 4)] [] (n, I2, J, R) 0 0
  refine q_k 2 ?_
  show q_W L (d + 5) 18 q_m18 Q 27 [some (.ref a), some (.ref 4)] [.ref 4, .ref a] (n, I2, J, R) 0 0
  refine q_cv (as := [.ref 4]) (rs := []) rfl rfl rfl (hA.ob) rfl rfl ?_
  have hd2 : I2 a 1 = M 196 u + nI 1 := by rw [d2, va_up_self]
  refine c_publish (q_K0_to hK (by rw [f2 0 (by omega) (by omega) (by omega) (by omega) (by omega), eI1, q_un (by omega), q_un (by omega), q_un (by omega)]) (by rw [f2 1 (by omega) (by omega) (by omega) (by omega) (by omega), eI1, q_un (by omega), q_un (by omega), q_un (by omega)])) (hA) (fun i hi => by rw [f2 (a + 8) (by omega) (by omega) (by omega) (by omega) (by omega)]; exact hs1 i hi) (fun I4 d4 p4 q4 t4 w4 o4 f4 => ?_)
  rw [hd2] at d4 t4 w4
  show q_W L (d + 5) 18 q_m18 Q 30 [some (.ref a), some (.ref 4)] [] (n, I4, J, R) 0 0
  refine q_one rfl rfl ?_
  show Q (none) (n, I4, J, R)
  obtain ⟨B, eB⟩ : ∃ B, B = q_up (q_up M 199 (2 * u) (M 198 (2 * u))) 199 (2 * u + 1) (M 198 (2 * u + 1)) := ⟨_, rfl⟩
  have bn : ∀ r, r ≠ 199 → B r = M r := fun r h => by rw [eB, q_un h, q_un h]
  have b0 : B 199 (2 * u) = M 198 (2 * u) := by rw [eB, q_usn (by omega), q_usk]
  have b1 : B 199 (2 * u + 1) = M 198 (2 * u + 1) := by rw [eB, q_usk]
  have bnx : g_nx B u = g_priv (M 194 u) (M 195 u) u (M 196 u + nI 1) := by unfold g_nx; rw [bn 194 (by decide), bn 195 (by decide), bn 196 (by decide)]
  obtain ⟨v1, v2, v3, v4, v5, v6, v7⟩ := f_sign_v (u := u) (M := B)
  rw [bn 194 (by decide), bn 195 (by decide), bn 196 (by decide)] at v6 v7
  rw [bnx] at v2 v3 v5 v7
  rw [bn 196 (by decide)] at v1
  rw [bn 197 (by decide)] at v4 v7
  have h12 : I4 (a + 2) = I2 (a + 2) := by rw [f4 (a + 2) (by omega) (by omega) (by omega) (by omega) (by omega) (by omega)]
  have h21 : I2 (a + 1) = I (a + 1) := by rw [f2 (a + 1) (by omega) (by omega) (by omega) (by omega) (by omega), eI1, q_un (by omega), q_un (by omega), q_un (by omega)]
  have hfr : ∀ x, x ≠ 5 → x ≠ 6 → x ≠ 7 → x ≠ a → x ≠ a + 2 → x ≠ a + 3 → x ≠ a + 5 → x ≠ a + 7 → I4 x = I x := fun x h5 h6 h7 h0 h2 h3 h55 h77 => by rw [f4 x h5 h6 h7 h0 h55 h77, f2 x h5 h6 h7 h0 h2, eI1, q_un h0, q_un h3, q_un h3]
  have h13 : I4 (a + 3) = I1 (a + 3) := by rw [f4 (a + 3) (by omega) (by omega) (by omega) (by omega) (by omega) (by omega), f2 (a + 3) (by omega) (by omega) (by omega) (by omega) (by omega)]
  rw [← eB] at hQ
  refine hQ I4 ⟨?_, ?_, ?_, ?_, ?_, ?_, ?_, ?_, ?_, ?_, ?_, ?_, ?_, ?_, ?_, ?_⟩ (fun x h5 h6 h7 hx => hfr x h5 h6 h7 (by omega) (by omega) (by omega) (by omega) (by omega))
  · rw [f_sign_n (by decide) (by decide) (by decide), bn 193 (by decide), d4, va_up_ne _ _ (by decide), d2, va_up_ne _ _ (by decide), eI1, q_usn (by decide), q_un (by omega), q_un (by omega)]; exact hc.reg
  · rw [f_sign_n (by decide) (by decide) (by decide), bn 193 (by decide)]; exact hc.rbz
  · rw [v1, d4, va_up_self]
  · rw [f4 (a + 1) (by omega) (by omega) (by omega) (by omega) (by omega) (by omega), h21, f_sign_n (by decide) (by decide) (by decide), bn 197 (by decide)]; exact hc.i0
  · rw [f4 (a + 1) (by omega) (by omega) (by omega) (by omega) (by omega) (by omega), h21, f_sign_n (by decide) (by decide) (by decide), bn 197 (by decide)]; exact hc.i1
  · rw [h12, k2, v2]
  · rw [h12, g2, v3]
  · refine Or.inr ⟨?_, ?_, ?_, ?_⟩
    · rw [d4, va_up_ne _ _ (by decide), d2, va_up_ne _ _ (by decide), eI1, q_usk]
    · rw [f_sign_n (by decide) (by decide) (by decide), b1]; exact hsn
    · rw [h13, f_sign_n (by decide) (by decide) (by decide), b0, eI1, q_un (by omega), q_usn (by decide), q_usk]; exact hc.s0
    · rw [h13, f_sign_n (by decide) (by decide) (by decide), b1, eI1, q_un (by omega), q_usk, q_un (by omega)]; exact hc.s1
  · rw [v3]; exact Or.inr (g_pub_ne _)
  · obtain ⟨c, pr, h1, h2, h3, h4, h5, h6⟩ := hc.once
    refine ⟨c, pr, h1, ?_, ?_, h4, h5, fun k hk => ?_⟩
    · rw [f_sign_n (by decide) (by decide) (by decide), bn 201 (by decide)]; exact h2
    · rw [d4, va_up_ne _ _ (by decide), d2, va_up_ne _ _ (by decide), eI1, q_usn (by decide), q_un (by omega), q_un (by omega)]; exact h3
    · obtain ⟨-, p1, p2⟩ := h4 k (by omega)
      rw [hfr (pr k) (by omega) (by omega) (by omega) (by omega) (by omega) (by omega) (by omega) (by omega), f_sign_n (by decide) (by decide) (by decide), bn 200 (by decide)]; exact h6 k hk
  · rw [p4, h21, v4]; exact hc.i1
  · rw [q4, g2, v5]
  · rw [t4, v6]
  · rw [w4, h21, g2, v7, hc.i0, hc.i1]
  · obtain ⟨f, h1, h2, h3, h4⟩ := hc.off
    refine ⟨f, h1, ?_, ?_, fun k hk => ?_⟩
    · rw [f_sign_n (by decide) (by decide) (by decide), bn 204 (by decide)]; exact h2
    · rw [o4 5 (by decide), f2 (a + 5) (by omega) (by omega) (by omega) (by omega) (by omega), eI1, q_un (by omega), q_un (by omega), q_un (by omega)]; exact h3
    · rw [hfr (a + 6) (by omega) (by omega) (by omega) (by omega) (by omega) (by omega) (by omega) (by omega), f_sign_n (by decide) (by decide) (by decide), bn 203 (by decide)]; exact h4 k hk
  · intro i hi
    rw [f_sign_n (by decide) (by decide) (by decide), f_sign_n (by decide) (by decide) (by decide), bn 194 (by decide), bn 195 (by decide), hfr (a + 8) (by omega) (by omega) (by omega) (by omega) (by omega) (by omega) (by omega) (by omega)]; exact hc.seed i hi
