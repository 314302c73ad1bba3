def g_join (u w : Int32) : Int64 := (u.toInt64 <<< ((nI 32).toInt64 &&& 63)) ||| (w.toInt64 &&& lN 4294967295)
def g_wide (key : Nat → Int32) (a b c e : Int32) : Int64 := g_join (g_mix key a b c e 0) (g_mix key a b c e 1)
theorem c_firstWord {L d n : Nat} {I : q_I} {J : q_L} {R : q_R} {Q : q_Q} {key : Nat} {a b c e : Int32} (hK : q_K0 n I R) (hk : q_ac0 n key 8) (hk5 : key ≠ 5) (hQ : ∀ I', (∀ x, x ≠ 5 → x ≠ 6 → x ≠ 7 → I' x = I x) → Q (some (.int (g_mix (I key) a b c e 0))) (n, I', J, R)) : q_Ex L (d + 3) 2 [.ref 4, .ref key, .int a, .int b, .int c, .int e] (n, I, J, R) Q := by
  refine q_in (x := q_m2) rfl rfl ?_
  show q_W L (d + 2) 2 q_m2 Q 0 [some (.ref 4), some (.ref key), some (.int a), some (.int b), some (.int c), some (.int e)] [] (n, I, J, R) 0 0
  refine q_k 2 ?_
  show q_W L (d + 2) 2 q_m2 Q 2 [some (.ref 4), some (.ref key), some (.int a), some (.int b), some (.int c), some (.int e)] [.ref 4, .ref 4] (n, I, J, R) 0 0
  refine q_gR (b := 7) rfl rfl (⟨Nat.lt_of_lt_of_le (by decide) hK.1, rfl⟩) (hK.2.1 4 2 7 rfl) ?_
  refine q_k 5 ?_
  show q_W L (d + 2) 2 q_m2 Q 12 [some (.ref 4), some (.ref key), some (.int a), some (.int b), some (.int c), some (.int e)] [.int e, .int c, .int b, .int a, .ref key, .ref 7, .ref 4] (n, I, J, R) 0 0
  refine q_cv (as := [.ref 7, .ref key, .int a, .int b, .int c, .int e]) (rs := []) rfl rfl rfl (⟨Nat.lt_of_lt_of_le (by decide) hK.1, rfl⟩) rfl rfl ?_
  refine c_blend (hK) (⟨by decide, Nat.lt_of_lt_of_le (by decide) hK.1, rfl⟩) (by decide) (by decide) (hk) (hk5) (fun I1 h1 f1 => ?_)
  show q_W L (d + 2) 2 q_m2 Q 15 [some (.ref 4), some (.ref key), some (.int a), some (.int b), some (.int c), some (.int e)] [] (n, I1, J, R) 0 0
  refine q_k 1 ?_
  show q_W L (d + 2) 2 q_m2 Q 16 [some (.ref 4), some (.ref key), some (.int a), some (.int b), some (.int c), some (.int e)] [.ref 4] (n, I1, J, R) 0 0
  refine q_gR (b := 7) rfl rfl (⟨Nat.lt_of_lt_of_le (by decide) hK.1, rfl⟩) (hK.2.1 4 2 7 rfl) ?_
  refine q_k 1 ?_
  show q_W L (d + 2) 2 q_m2 Q 20 [some (.ref 4), some (.ref key), some (.int a), some (.int b), some (.int c), some (.int e)] [.int (nI 0), .ref 7] (n, I1, J, R) 0 0
  refine q_ial (m := 0) rfl (⟨by decide, Nat.lt_of_lt_of_le (by decide) hK.1, rfl⟩) (by decide) (rfl) ?_
  refine q_top (w := g_mix (I key) a b c e 0) (h1 0 (by decide)) ?_
  refine q_one rfl rfl ?_
  show Q (some (.int (g_mix (I key) a b c e 0))) (n, I1, J, R)
  exact hQ I1 f1
theorem c_wideWord {L d n : Nat} {I : q_I} {J : q_L} {R : q_R} {Q : q_Q} {key : Nat} {a b c e : Int32} (hK : q_K0 n I R) (hk : q_ac0 n key 8) (hk5 : key ≠ 5) (hQ : ∀ I', (∀ x, x ≠ 5 → x ≠ 6 → x ≠ 7 → I' x = I x) → Q (some (.long (g_wide (I key) a b c e))) (n, I', J, R)) : q_Ex L (d + 3) 3 [.ref 4, .ref key, .int a, .int b, .int c, .int e] (n, I, J, R) Q := by
  refine q_in (x := q_m3) rfl rfl ?_
  show q_W L (d + 2) 3 q_m3 Q 0 [some (.ref 4), some (.ref key), some (.int a), some (.int b), some (.int c), some (.int e)] [] (n, I, J, R) 0 0
  refine q_k 2 ?_
  show q_W L (d + 2) 3 q_m3 Q 2 [some (.ref 4), some (.ref key), some (.int a), some (.int b), some (.int c), some (.int e)] [.ref 4, .ref 4] (n, I, J, R) 0 0
  refine q_gR (b := 7) rfl rfl (⟨Nat.lt_of_lt_of_le (by decide) hK.1, rfl⟩) (hK.2.1 4 2 7 rfl) ?_
  refine q_k 5 ?_
  show q_W L (d + 2) 3 q_m3 Q 12 [some (.ref 4), some (.ref key), some (.int a), some (.int b), some (.int c), some (.int e)] [.int e, .int c, .int b, .int a, .ref key, .ref 7, .ref 4] (n, I, J, R) 0 0
  refine q_cv (as := [.ref 7, .ref key, .int a, .int b, .int c, .int e]) (rs := []) rfl rfl rfl (⟨Nat.lt_of_lt_of_le (by decide) hK.1, rfl⟩) rfl rfl ?_
  refine c_blend (hK) (⟨by decide, Nat.lt_of_lt_of_le (by decide) hK.1, rfl⟩) (by decide) (by decide) (hk) (hk5) (fun I1 h1 f1 => ?_)
  show q_W L (d + 2) 3 q_m3 Q 15 [some (.ref 4), some (.ref key), some (.int a), some (.int b), some (.int c), some (.int e)] [] (n, I1, J, R) 0 0
  refine q_k 1 ?_
  show q_W L (d + 2) 3 q_m3 Q 16 [some (.ref 4), some (.ref key), some (.int a), some (.int b), some (.int c), some (.int e)] [.ref 4] (n, I1, J, R) 0 0
  refine q_gR (b := 7) rfl rfl (⟨Nat.lt_of_lt_of_le (by decide) hK.1, rfl⟩) (hK.2.1 4 2 7 rfl) ?_
  refine q_k 1 ?_
  show q_W L (d + 2) 3 q_m3 Q 20 [some (.ref 4), some (.ref key), some (.int a), some (.int b), some (.int c), some (.int e)] [.int (nI 0), .ref 7] (n, I1, J, R) 0 0
  refine q_ial (m := 0) rfl (⟨by decide, Nat.lt_of_lt_of_le (by decide) hK.1, rfl⟩) (by decide) (rfl) ?_
  refine q_top (w := g_mix (I key) a b c e 0) (h1 0 (by decide)) ?_
  refine q_k 4 ?_
  show q_W L (d + 2) 3 q_m3 Q 26 [some (.ref 4), some (.ref key), some (.int a), some (.int b), some (.int c), some (.int e)] [.ref 4, .long (((g_mix (I key) a b c e 0).toInt64) <<< (((nI 32)).toInt64 &&& 63))] (n, I1, J, R) 0 0
  refine q_gR (b := 7) rfl rfl (⟨Nat.lt_of_lt_of_le (by decide) hK.1, rfl⟩) (hK.2.1 4 2 7 rfl) ?_
  refine q_k 1 ?_
  show q_W L (d + 2) 3 q_m3 Q 30 [some (.ref 4), some (.ref key), some (.int a), some (.int b), some (.int c), some (.int e)] [.int (nI 1), .ref 7, .long (((g_mix (I key) a b c e 0).toInt64) <<< (((nI 32)).toInt64 &&& 63))] (n, I1, J, R) 0 0
  refine q_ial (m := 1) rfl (⟨by decide, Nat.lt_of_lt_of_le (by decide) hK.1, rfl⟩) (by decide) (rfl) ?_
  refine q_top (w := g_mix (I key) a b c e 1) (h1 1 (by decide)) ?_
  refine q_k 4 ?_
  show q_W L (d + 2) 3 q_m3 Q 37 [some (.ref 4), some (.ref key), some (.int a), some (.int b), some (.int c), some (.int e)] [.long ((((g_mix (I key) a b c e 0).toInt64) <<< (((nI 32)).toInt64 &&& 63)) ||| (((g_mix (I key) a b c e 1).toInt64) &&& (lN 4294967295)))] (n, I1, J, R) 0 0
  refine q_one rfl rfl ?_
  show Q (some (.long ((((g_mix (I key) a b c e 0).toInt64) <<< (((nI 32)).toInt64 &&& 63)) ||| (((g_mix (I key) a b c e 1).toInt64) &&& (lN 4294967295))))) (n, I1, J, R)
  exact hQ I1 f1
theorem c_take {L d n : Nat} {I : q_I} {J : q_L} {R : q_R} {Q : q_Q} {res ch : Nat} (hK : q_K0 n I R) (hr : q_ar n res 0 8) (hr5 : res ≠ 5) (hr6 : res ≠ 6) (hc : q_ar n ch 0 8) (hc5 : ch ≠ 5) (hc6 : ch ≠ 6) (hrc : res ≠ ch) (hQ : ∀ I', (∀ i, i < 8 → I' res i = g_mix (I ch) (nI 7) (nI 0) (nI 0) (nI 0) i) → (∀ i, i < 8 → I' ch i = g_mix (I ch) (nI 8) (nI 0) (nI 0) (nI 0) i) → (∀ x, x ≠ 5 → x ≠ 6 → x ≠ res → x ≠ ch → I' x = I x) → Q none (n, I', J, R)) : q_Ex L (d + 3) 4 [.ref 4, .ref res, .ref ch] (n, I, J, R) Q := by
  refine q_in (x := q_m4) rfl rfl ?_
  show q_W L (d + 2) 4 q_m4 Q 0 [some (.ref 4), some (.ref res), some (.ref ch)] [] (n, I, J, R) 0 0
  refine q_k 7 ?_
  show q_W L (d + 2) 4 q_m4 Q 8 [some (.ref 4), some (.ref res), some (.ref ch)] [.int (nI 0), .int (nI 0), .int (nI 0), .int (nI 7), .ref ch, .ref res, .ref 4] (n, I, J, R) 0 0
  refine q_cv (as := [.ref res, .ref ch, .int (nI 7), .int (nI 0), .int (nI 0), .int (nI 0)]) (rs := []) rfl rfl rfl (⟨Nat.lt_of_lt_of_le (by decide) hK.1, rfl⟩) rfl rfl ?_
  refine c_blend (hK) (hr) (hr5) (hr6) (Or.inl hc) (hc5) (fun I1 h1 f1 => ?_)
  show q_W L (d + 2) 4 q_m4 Q 11 [some (.ref 4), some (.ref res), some (.ref ch)] [] (n, I1, J, R) 0 0
  refine q_k 7 ?_
  show q_W L (d + 2) 4 q_m4 Q 19 [some (.ref 4), some (.ref res), some (.ref ch)] [.int (nI 0), .int (nI 0), .int (nI 0), .int (nI 8), .ref ch, .ref ch, .ref 4] (n, I1, J, R) 0 0
  refine q_cv (as := [.ref ch, .ref ch, .int (nI 8), .int (nI 0), .int (nI 0), .int (nI 0)]) (rs := []) rfl rfl rfl (⟨Nat.lt_of_lt_of_le (by decide) hK.1, rfl⟩) rfl rfl ?_
  refine c_blend (q_K0_to hK (f1 0 (by decide) (by decide) (by have := hr.1; omega)) (f1 1 (by decide) (by decide) (by have := hr.1; omega))) (hc) (hc5) (hc6) (Or.inl hc) (hc5) (fun I2 h2 f2 => ?_)
  show q_W L (d + 2) 4 q_m4 Q 22 [some (.ref 4), some (.ref res), some (.ref ch)] [] (n, I2, J, R) 0 0
  refine q_one rfl rfl ?_
  show Q (none) (n, I2, J, R)
  have e1 : I1 ch = I ch := f1 ch hc5 hc6 (Ne.symm hrc)
  refine hQ I2 (fun i hi => ?_) (fun i hi => ?_) (fun x h5 h6 h7 h8 => ?_)
  · rw [f2 res hr5 hr6 hrc]; exact h1 i hi
  · rw [h2 i hi, e1]
  · rw [f2 x h5 h6 h8]; exact f1 x h5 h6 h7
theorem c_upperHalf {L d n : Nat} {I : q_I} {J : q_L} {R : q_R} {Q : q_Q} {z : Int64} (hQ : Q (some (.int ((z.toUInt64 >>> ((nI 32).toInt64.toUInt64 &&& Int64.toUInt64 63)).toInt64.toInt32))) (n, I, J, R)) : q_Ex L (d + 1) 75 [.long z] (n, I, J, R) Q := by
  refine q_in (x := q_m75) rfl rfl ?_
  show q_W L d 75 q_m75 Q 0 [some (.long z), none] [] (n, I, J, R) 0 0
  refine q_k 4 ?_
  show q_W L d 75 q_m75 Q 5 [some (.long z), none] [.int ((((z).toUInt64 >>> (((nI 32)).toInt64.toUInt64 &&& Int64.toUInt64 63)).toInt64).toInt32)] (n, I, J, R) 0 0
  refine q_one rfl rfl ?_
  show Q (some (.int ((((z).toUInt64 >>> (((nI 32)).toInt64.toUInt64 &&& Int64.toUInt64 63)).toInt64).toInt32))) (n, I, J, R)
  exact hQ
theorem c_lowerHalf {L d n : Nat} {I : q_I} {J : q_L} {R : q_R} {Q : q_Q} {z : Int64} (hQ : Q (some (.int (z.toInt32))) (n, I, J, R)) : q_Ex L (d + 1) 76 [.long z] (n, I, J, R) Q := by
  refine q_in (x := q_m76) rfl rfl ?_
  show q_W L d 76 q_m76 Q 0 [some (.long z), none] [] (n, I, J, R) 0 0
  refine q_k 2 ?_
  show q_W L d 76 q_m76 Q 2 [some (.long z), none] [.int ((z).toInt32)] (n, I, J, R) 0 0
  refine q_one rfl rfl ?_
  show Q (some (.int ((z).toInt32))) (n, I, J, R)
  exact hQ
theorem c_shared {L d n : Nat} {I : q_I} {J : q_L} {R : q_R} {Q : q_Q} {a : Nat} {v : Int32} (ha : q_ob n a 1) (hQ : Q (some (.int (g_pow v (I a 0)))) (n, I, J, R)) : q_Ex L (d + 2) 8 [.ref a, .int v] (n, I, J, R) Q := by
  refine q_in (x := q_m8) rfl rfl ?_
  show q_W L (d + 1) 8 q_m8 Q 0 [some (.ref a), some (.int v)] [] (n, I, J, R) 0 0
  refine q_k 2 ?_
  show q_W L (d + 1) 8 q_m8 Q 2 [some (.ref a), some (.int v)] [.ref a, .int v] (n, I, J, R) 0 0
  refine q_gI rfl rfl (ha) ?_
  refine q_cs (as := [.int v, .int (I a 0)]) (rs := []) rfl rfl rfl rfl rfl ?_
  refine c_raised ?_
  show q_W L (d + 1) 8 q_m8 Q 8 [some (.ref a), some (.int v)] [.int (g_pow v (I a 0))] (n, I, J, R) 0 0
  refine q_one rfl rfl ?_
  show Q (some (.int (g_pow v (I a 0)))) (n, I, J, R)
  exact hQ
