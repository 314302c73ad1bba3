theorem c_tagOf {L d n : Nat} {I : q_I} {J : q_L} {R : q_R} {Q : q_Q} {le a b : Nat} {M : q_I} (hK : q_K0 n I R) (ha : ∀ u, u < 4 → c_A I R M (84 + 19 * u) u) (hl : q_ar n le 1 12) (f0 : J le 0 = lN a) (f1 : J le 1 = lN b) (h4a : a < 4) (h4b : b < 4) (hQ : ∀ I', (∀ x, x ≠ 5 → x ≠ 6 → x ≠ 7 → x ≠ 83 → I' x = I x) → Q (some (.long (g_tag (I 82) (J le 7).toInt32 (J le 8).toInt32 (J le 9).toInt32 (J le 10) (M 197 (2 * a + 1)) (M 197 (2 * b + 1))))) (n, I', J, R)) : q_Ex L (d + 4) 72 [.ref 3, .ref le] (n, I, J, R) Q := by
  refine q_in (x := q_m72) rfl rfl ?_
  show q_W L (d + 3) 72 q_m72 Q 0 [some (.ref 3), some (.ref le), none, none, none, none] [] (n, I, J, R) 0 0
  refine q_k 2 ?_
  show q_W L (d + 3) 72 q_m72 Q 3 [some (.ref 3), some (.ref le), none, none, none, none] [.int (nI 10), .ref le] (n, I, J, R) 0 0
  refine q_lal (m := 10) rfl (hl) (by decide) (rfl) ?_
  refine q_k 2 ?_
  show q_W L (d + 3) 72 q_m72 Q 6 [some (.ref 3), some (.ref le), some (.long (J le 10)), none, none, none] [.ref 3] (n, I, J, R) 0 0
  refine q_gR (b := 8) rfl rfl (⟨Nat.lt_of_lt_of_le (by decide) hK.1, rfl⟩) (hK.2.1 3 1 8 rfl) ?_
  refine q_k 2 ?_
  show q_W L (d + 3) 72 q_m72 Q 11 [some (.ref 3), some (.ref le), some (.long (J le 10)), none, none, none] [.int (nI 0), .ref le, .ref 8] (n, I, J, R) 0 0
  refine q_lal (m := 0) rfl (hl) (by decide) (rfl) ?_
  refine q_k 1 ?_
  show q_W L (d + 3) 72 q_m72 Q 13 [some (.ref 3), some (.ref le), some (.long (J le 10)), none, none, none] [.int ((J le 0).toInt32), .ref 8] (n, I, J, R) 0 0
  refine q_top (w := nI a) (by rw [f0]; exact lN_i _) ?_
  refine q_aal (m := a) (b := (84 + 19 * a)) rfl (⟨by decide, Nat.lt_of_lt_of_le (by decide) hK.1, rfl⟩) ⟨rfl, rfl⟩ (h4a) rfl (hK.2.1 8 a _ (q_fx8 a h4a)) ?_
  refine q_gR (b := (84 + 19 * a + 1)) rfl rfl ((q_Ac_of hK h4a).ob) ((q_Ac_of hK h4a).r2) ?_
  refine q_gI rfl rfl ((q_Ac_of hK h4a).o1) ?_
  refine q_top (w := M 197 (2 * a + 1)) ((ha a h4a).i1) ?_
  refine q_k 2 ?_
  show q_W L (d + 3) 72 q_m72 Q 23 [some (.ref 3), some (.ref le), some (.long (J le 10)), none, some (.int (M 197 (2 * a + 1))), none] [.ref 3] (n, I, J, R) 0 0
  refine q_gR (b := 8) rfl rfl (⟨Nat.lt_of_lt_of_le (by decide) hK.1, rfl⟩) (hK.2.1 3 1 8 rfl) ?_
  refine q_k 2 ?_
  show q_W L (d + 3) 72 q_m72 Q 28 [some (.ref 3), some (.ref le), some (.long (J le 10)), none, some (.int (M 197 (2 * a + 1))), none] [.int (nI 1), .ref le, .ref 8] (n, I, J, R) 0 0
  refine q_lal (m := 1) rfl (hl) (by decide) (rfl) ?_
  refine q_k 1 ?_
  show q_W L (d + 3) 72 q_m72 Q 30 [some (.ref 3), some (.ref le), some (.long (J le 10)), none, some (.int (M 197 (2 * a + 1))), none] [.int ((J le 1).toInt32), .ref 8] (n, I, J, R) 0 0
  refine q_top (w := nI b) (by rw [f1]; exact lN_i _) ?_
  refine q_aal (m := b) (b := (84 + 19 * b)) rfl (⟨by decide, Nat.lt_of_lt_of_le (by decide) hK.1, rfl⟩) ⟨rfl, rfl⟩ (h4b) rfl (hK.2.1 8 b _ (q_fx8 b h4b)) ?_
  refine q_gR (b := (84 + 19 * b + 1)) rfl rfl ((q_Ac_of hK h4b).ob) ((q_Ac_of hK h4b).r2) ?_
  refine q_gI rfl rfl ((q_Ac_of hK h4b).o1) ?_
  refine q_top (w := M 197 (2 * b + 1)) ((ha b h4b).i1) ?_
  refine q_k 2 ?_
  show q_W L (d + 3) 72 q_m72 Q 40 [some (.ref 3), some (.ref le), some (.long (J le 10)), none, some (.int (M 197 (2 * a + 1))), some (.int (M 197 (2 * b + 1)))] [.ref 3] (n, I, J, R) 0 0
  refine q_gR (b := 4) rfl rfl (⟨Nat.lt_of_lt_of_le (by decide) hK.1, rfl⟩) (hK.2.1 3 0 4 rfl) ?_
  refine q_k 1 ?_
  show q_W L (d + 3) 72 q_m72 Q 44 [some (.ref 3), some (.ref le), some (.long (J le 10)), none, some (.int (M 197 (2 * a + 1))), some (.int (M 197 (2 * b + 1)))] [.ref 3, .ref 4] (n, I, J, R) 0 0
  refine q_gR (b := 83) rfl rfl (⟨Nat.lt_of_lt_of_le (by decide) hK.1, rfl⟩) (hK.2.1 3 9 83 rfl) ?_
  refine q_k 1 ?_
  show q_W L (d + 3) 72 q_m72 Q 48 [some (.ref 3), some (.ref le), some (.long (J le 10)), none, some (.int (M 197 (2 * a + 1))), some (.int (M 197 (2 * b + 1)))] [.ref 3, .ref 83, .ref 4] (n, I, J, R) 0 0
  refine q_gR (b := 82) rfl rfl (⟨Nat.lt_of_lt_of_le (by decide) hK.1, rfl⟩) (hK.2.1 3 8 82 rfl) ?_
  refine q_k 2 ?_
  show q_W L (d + 3) 72 q_m72 Q 54 [some (.ref 3), some (.ref le), some (.long (J le 10)), none, some (.int (M 197 (2 * a + 1))), some (.int (M 197 (2 * b + 1)))] [.int (nI 7), .ref le, .ref 82, .ref 83, .ref 4] (n, I, J, R) 0 0
  refine q_lal (m := 7) rfl (hl) (by decide) (rfl) ?_
  refine q_k 3 ?_
  show q_W L (d + 3) 72 q_m72 Q 59 [some (.ref 3), some (.ref le), some (.long (J le 10)), none, some (.int (M 197 (2 * a + 1))), some (.int (M 197 (2 * b + 1)))] [.int (nI 8), .ref le, .int ((J le 7).toInt32), .ref 82, .ref 83, .ref 4] (n, I, J, R) 0 0
  refine q_lal (m := 8) rfl (hl) (by decide) (rfl) ?_
  refine q_k 3 ?_
  show q_W L (d + 3) 72 q_m72 Q 64 [some (.ref 3), some (.ref le), some (.long (J le 10)), none, some (.int (M 197 (2 * a + 1))), some (.int (M 197 (2 * b + 1)))] [.int (nI 9), .ref le, .int ((J le 8).toInt32), .int ((J le 7).toInt32), .ref 82, .ref 83, .ref 4] (n, I, J, R) 0 0
  refine q_lal (m := 9) rfl (hl) (by decide) (rfl) ?_
  refine q_k 2 ?_
  show q_W L (d + 3) 72 q_m72 Q 67 [some (.ref 3), some (.ref le), some (.long (J le 10)), none, some (.int (M 197 (2 * a + 1))), some (.int (M 197 (2 * b + 1)))] [.long (J le 10), .int ((J le 9).toInt32), .int ((J le 8).toInt32), .int ((J le 7).toInt32), .ref 82, .ref 83, .ref 4] (n, I, J, R) 0 0
  refine q_cs (as := [.long (J le 10)]) (rs := [.int ((J le 9).toInt32), .int ((J le 8).toInt32), .int ((J le 7).toInt32), .ref 82, .ref 83, .ref 4]) rfl rfl rfl rfl rfl ?_
  refine c_upperHalf  ?_
  refine q_top (w := g_up (J le 10)) (g_up_u _) ?_
  show q_W L (d + 3) 72 q_m72 Q 70 [some (.ref 3), some (.ref le), some (.long (J le 10)), none, some (.int (M 197 (2 * a + 1))), some (.int (M 197 (2 * b + 1)))] [.int (g_up (J le 10)), .int ((J le 9).toInt32), .int ((J le 8).toInt32), .int ((J le 7).toInt32), .ref 82, .ref 83, .ref 4] (n, I, J, R) 0 0
  refine q_cv (as := [.ref 83, .ref 82, .int ((J le 7).toInt32), .int ((J le 8).toInt32), .int ((J le 9).toInt32), .int (g_up (J le 10))]) (rs := []) rfl rfl rfl (⟨Nat.lt_of_lt_of_le (by decide) hK.1, rfl⟩) rfl rfl ?_
  refine c_blend (hK) (⟨by decide, Nat.lt_of_lt_of_le (by decide) hK.1, rfl⟩) (by decide) (by decide) (Or.inl ⟨by decide, Nat.lt_of_lt_of_le (by decide) hK.1, rfl⟩) (by decide) (fun I1 h1 g1 => ?_)
  show q_W L (d + 3) 72 q_m72 Q 73 [some (.ref 3), some (.ref le), some (.long (J le 10)), none, some (.int (M 197 (2 * a + 1))), some (.int (M 197 (2 * b + 1)))] [] (n, I1, J, R) 0 0
  refine q_k 1 ?_
  show q_W L (d + 3) 72 q_m72 Q 74 [some (.ref 3), some (.ref le), some (.long (J le 10)), none, some (.int (M 197 (2 * a + 1))), some (.int (M 197 (2 * b + 1)))] [.ref 3] (n, I1, J, R) 0 0
  refine q_gR (b := 4) rfl rfl (⟨Nat.lt_of_lt_of_le (by decide) hK.1, rfl⟩) (hK.2.1 3 0 4 rfl) ?_
  refine q_k 1 ?_
  show q_W L (d + 3) 72 q_m72 Q 78 [some (.ref 3), some (.ref le), some (.long (J le 10)), none, some (.int (M 197 (2 * a + 1))), some (.int (M 197 (2 * b + 1)))] [.ref 3, .ref 4] (n, I1, J, R) 0 0
  refine q_gR (b := 83) rfl rfl (⟨Nat.lt_of_lt_of_le (by decide) hK.1, rfl⟩) (hK.2.1 3 9 83 rfl) ?_
  refine q_k 1 ?_
  show q_W L (d + 3) 72 q_m72 Q 82 [some (.ref 3), some (.ref le), some (.long (J le 10)), none, some (.int (M 197 (2 * a + 1))), some (.int (M 197 (2 * b + 1)))] [.long (J le 10), .ref 83, .ref 4] (n, I1, J, R) 0 0
  refine q_cs (as := [.long (J le 10)]) (rs := [.ref 83, .ref 4]) rfl rfl rfl rfl rfl ?_
  refine c_lowerHalf  ?_
  show q_W L (d + 3) 72 q_m72 Q 85 [some (.ref 3), some (.ref le), some (.long (J le 10)), none, some (.int (M 197 (2 * a + 1))), some (.int (M 197 (2 * b + 1)))] [.int ((J le 10).toInt32), .ref 83, .ref 4] (n, I1, J, R) 0 0
  refine q_k 3 ?_
  show q_W L (d + 3) 72 q_m72 Q 91 [some (.ref 3), some (.ref le), some (.long (J le 10)), none, some (.int (M 197 (2 * a + 1))), some (.int (M 197 (2 * b + 1)))] [.int (nI 10), .int (M 197 (2 * b + 1)), .int (M 197 (2 * a + 1)), .int ((J le 10).toInt32), .ref 83, .ref 4] (n, I1, J, R) 0 0
  refine q_cv (as := [.ref 83, .int ((J le 10).toInt32), .int (M 197 (2 * a + 1)), .int (M 197 (2 * b + 1)), .int (nI 10)]) (rs := []) rfl rfl rfl (⟨Nat.lt_of_lt_of_le (by decide) hK.1, rfl⟩) rfl rfl ?_
  refine c_wideWord (q_K0_to hK (g1 0 (by decide) (by decide) (by decide)) (g1 1 (by decide) (by decide) (by decide))) (Or.inl ⟨by decide, Nat.lt_of_lt_of_le (by decide) hK.1, rfl⟩) (by decide) (fun I2 g2 => ?_)
  show q_W L (d + 3) 72 q_m72 Q 94 [some (.ref 3), some (.ref le), some (.long (J le 10)), none, some (.int (M 197 (2 * a + 1))), some (.int (M 197 (2 * b + 1)))] [.long (g_wide (I1 83) (J le 10).toInt32 (M 197 (2 * a + 1)) (M 197 (2 * b + 1)) (nI 10))] (n, I2, J, R) 0 0
  refine q_one rfl rfl ?_
  show Q (some (.long (g_wide (I1 83) (J le 10).toInt32 (M 197 (2 * a + 1)) (M 197 (2 * b + 1)) (nI 10)))) (n, I2, J, R)
  have hw : g_wide (I1 83) (J le 10).toInt32 (M 197 (2 * a + 1)) (M 197 (2 * b + 1)) (nI 10) = g_tag (I 82) (J le 7).toInt32 (J le 8).toInt32 (J le 9).toInt32 (J le 10) (M 197 (2 * a + 1)) (M 197 (2 * b + 1)) := by
    unfold g_tag
    exact g_wide_c (fun i hi => h1 i hi) _ _ _ _
  rw [hw]
  exact hQ I2 (fun x h5 h6 h7 h83 => (g2 x h5 h6 h7).trans (g1 x h5 h6 h83))
theorem c_finish {L d n : Nat} {I : q_I} {J : q_L} {R : q_R} {Q : q_Q} {le t : Nat} (hK : q_K0 n I R) (hl : q_ar n le 1 12) (ht : R 3 6 = some t) (hS : q_Se n R t) (hQ : ∀ I', I' t = va_up (I t) 12 (nI 1) → (∀ x, x ≠ 5 → x ≠ 6 → x ≠ 7 → x ≠ t → I' x = I x) → Q (some (.int (nI 0))) (n, I', q_up J 3 5 (J le 10 ^^^ g_wide (I 82) (nI 9) (nI 0) (nI 0) (nI 0)), R)) : q_Ex L (d + 4) 71 [.ref 3, .ref le] (n, I, J, R) Q := by
  refine q_in (x := q_m71) rfl rfl ?_
  show q_W L (d + 3) 71 q_m71 Q 0 [some (.ref 3), some (.ref le)] [] (n, I, J, R) 0 0
  have hge := hS.ge
  refine q_k 3 ?_
  show q_W L (d + 3) 71 q_m71 Q 4 [some (.ref 3), some (.ref le)] [.int (nI 10), .ref le, .ref 3] (n, I, J, R) 0 0
  refine q_lal (m := 10) rfl (hl) (by decide) (rfl) ?_
  refine q_k 1 ?_
  show q_W L (d + 3) 71 q_m71 Q 6 [some (.ref 3), some (.ref le)] [.ref 3, .long (J le 10), .ref 3] (n, I, J, R) 0 0
  refine q_gR (b := 4) rfl rfl (⟨Nat.lt_of_lt_of_le (by decide) hK.1, rfl⟩) (hK.2.1 3 0 4 rfl) ?_
  refine q_k 1 ?_
  show q_W L (d + 3) 71 q_m71 Q 10 [some (.ref 3), some (.ref le)] [.ref 3, .ref 4, .long (J le 10), .ref 3] (n, I, J, R) 0 0
  refine q_gR (b := 82) rfl rfl (⟨Nat.lt_of_lt_of_le (by decide) hK.1, rfl⟩) (hK.2.1 3 8 82 rfl) ?_
  refine q_k 4 ?_
  show q_W L (d + 3) 71 q_m71 Q 18 [some (.ref 3), some (.ref le)] [.int (nI 0), .int (nI 0), .int (nI 0), .int (nI 9), .ref 82, .ref 4, .long (J le 10), .ref 3] (n, I, J, R) 0 0
  refine q_cv (as := [.ref 82, .int (nI 9), .int (nI 0), .int (nI 0), .int (nI 0)]) (rs := [.long (J le 10), .ref 3]) rfl rfl rfl (⟨Nat.lt_of_lt_of_le (by decide) hK.1, rfl⟩) rfl rfl ?_
  refine c_wideWord (hK) (Or.inl ⟨by decide, Nat.lt_of_lt_of_le (by decide) hK.1, rfl⟩) (by decide) (fun I1 g1 => ?_)
  show q_W L (d + 3) 71 q_m71 Q 21 [some (.ref 3), some (.ref le)] [.long (g_wide (I 82) (nI 9) (nI 0) (nI 0) (nI 0)), .long (J le 10), .ref 3] (n, I1, J, R) 0 0
  refine q_k 1 ?_
  show q_W L (d + 3) 71 q_m71 Q 22 [some (.ref 3), some (.ref le)] [.long ((J le 10) ^^^ (g_wide (I 82) (nI 9) (nI 0) (nI 0) (nI 0))), .ref 3] (n, I1, J, R) 0 0
  refine q_pJ rfl rfl rfl (⟨Nat.lt_of_lt_of_le (by decide) hK.1, rfl⟩) ?_
  refine q_k 1 ?_
  show q_W L (d + 3) 71 q_m71 Q 26 [some (.ref 3), some (.ref le)] [.ref 3] (n, I1, q_up J 3 5 ((J le 10) ^^^ (g_wide (I 82) (nI 9) (nI 0) (nI 0) (nI 0))), R) 0 0
  refine q_gR (b := t) rfl rfl (⟨Nat.lt_of_lt_of_le (by decide) hK.1, rfl⟩) (ht) ?_
  refine q_k 1 ?_
  show q_W L (d + 3) 71 q_m71 Q 30 [some (.ref 3), some (.ref le)] [.int (nI 1), .ref t] (n, I1, q_up J 3 5 ((J le 10) ^^^ (g_wide (I 82) (nI 9) (nI 0) (nI 0) (nI 0))), R) 0 0
  refine q_pZ rfl rfl rfl (hS.ob) (Or.inr rfl) ?_
  refine q_k 1 ?_
  show q_W L (d + 3) 71 q_m71 Q 34 [some (.ref 3), some (.ref le)] [.int (nI 0)] (n, q_up I1 t 12 (nI 1), q_up J 3 5 ((J le 10) ^^^ (g_wide (I 82) (nI 9) (nI 0) (nI 0) (nI 0))), R) 0 0
  refine q_one rfl rfl ?_
  show Q (some (.int (nI 0))) (n, q_up I1 t 12 (nI 1), q_up J 3 5 ((J le 10) ^^^ (g_wide (I 82) (nI 9) (nI 0) (nI 0) (nI 0))), R)
  refine hQ _ ?_ (fun x h5 h6 h7 hx => ?_)
  · rw [q_us, g1 t (by omega) (by omega) (by omega)]
  · rw [q_un hx]; exact g1 x h5 h6 h7
set_option maxHeartbeats 4000000 in
theorem c_try_tail0 {L d n : Nat} {I : q_I} {J : q_L} {R : q_R} {Q : q_Q} {t le a b m c w : Nat} {X : Int32} {T : Int64} {tg : (Nat → Int32) → Int64} {r : Nat → Int32} {l4 : Int32} {M : q_I} (hK : q_K0 n I R) (ha : ∀ u, u < 4 → c_A I R M (84 + 19 * u) u) (ht : R 3 6 = some t) (hS : q_Se n R t) (hl : q_ar n le 1 12) (f0 : J le 0 = lN a) (f1 : J le 1 = lN b) (h4a : a < 4) (h4b : b < 4) (htg : ∀ key, g_tag key (J le 7).toInt32 (J le 8).toInt32 (J le 9).toInt32 (J le 10) (M 197 (2 * a + 1)) (M 197 (2 * b + 1)) = tg key) (hT : J le 11 = T) (h : s_R I t r) (hs : s_S I t r) (hc : r 9 = nI c) (hc20 : c ≤ 20) (hw : r 7 = nI w) (hw1 : w ≤ 1001) (hm : m ≤ 1000) (hno : ∀ I', ¬ (s_end m c w tg T false r).1 = nI 0 → (∀ x, x ≠ 5 → x ≠ 6 → x ≠ 7 → x ≠ 82 → x ≠ 83 → (x < t ∨ t + 10 ≤ x) → I' x = I x) → Q (some (.int (s_end m c w tg T false r).1)) (n, I', J, R)) (hok : ∀ I', (s_end m c w tg T false r).1 = nI 0 → s_R I' t (va_up (s_end m c w tg T false r).2.1 11 (nI 1)) → s_S I' t (va_up (s_end m c w tg T false r).2.1 11 (nI 1)) → (∀ u, u < 4 → c_A I' R (f_ok (s_end m c w tg T false r) b M) (84 + 19 * u) u) → (∀ x, x ≠ 5 → x ≠ 6 → x ≠ 7 → x ≠ 82 → x ≠ 83 → x ≠ 84 + 19 * b → (x < t ∨ t + 10 ≤ x) → I' x = I x) → Q (some (.int (nI 0))) (n, I', q_up J 3 5 (J le 10 ^^^ g_wide (s_end m c w tg T false r).2.2.1 (nI 9) (nI 0) (nI 0) (nI 0)), R)) : q_W L (d + 5) 70 q_m70 Q 137 [some (.ref 3), some (.ref le), some (.int X), some (.int (nI m)), some (.int l4), some (.int (nI 0))] [] (n, I, J, R) 0 0 := by
  have hge := hS.ge
  refine q_k 1 ?_
  show q_W L (d + 5) 70 q_m70 Q 138 [some (.ref 3), some (.ref le), some (.int X), some (.int (nI m)), some (.int l4), some (.int (nI 0))] [.ref 3] (n, I, J, R) 0 0
  refine q_gR (b := t) rfl rfl (⟨Nat.lt_of_lt_of_le (by decide) hK.1, rfl⟩) (ht) ?_
  refine q_gZ rfl rfl (hS.ob) ?_
  refine q_top (w := r 5) (h.f6) ?_
  refine q_one rfl rfl ?_
  show (¬ (r 5) = 0 → q_W L (d + 5) 70 q_m70 Q 149 [some (.ref 3), some (.ref le), some (.int X), some (.int (nI m)), some (.int l4), some (.int (nI 0))] [] (n, I, J, R) 0 0) ∧ ((r 5) = 0 → q_W L (d + 5) 70 q_m70 Q 147 [some (.ref 3), some (.ref le), some (.int X), some (.int (nI m)), some (.int l4), some (.int (nI 0))] [] (n, I, J, R) 0 0)
  refine ⟨fun h144 => ?_, fun h144 => ?_⟩
  · skip
    refine q_k 2 ?_
    show q_W L (d + 5) 70 q_m70 Q 151 [some (.ref 3), some (.ref le), some (.int X), some (.int (nI m)), some (.int l4), some (.int (nI 0))] [.ref 3, .int (nI m)] (n, I, J, R) 0 0
    refine q_gR (b := t) rfl rfl (⟨Nat.lt_of_lt_of_le (by decide) hK.1, rfl⟩) (ht) ?_
    refine q_gI rfl rfl (hS.ob) ?_
    refine q_top (w := nI w) (by rw [h.f8, hw]) ?_
    refine q_one rfl rfl ?_
    show ((nI w) ≤ (nI m) → q_W L (d + 5) 70 q_m70 Q 162 [some (.ref 3), some (.ref le), some (.int X), some (.int (nI m)), some (.int l4), some (.int (nI 0))] [] (n, I, J, R) 0 0) ∧ (¬ (nI w) ≤ (nI m) → q_W L (d + 5) 70 q_m70 Q 160 [some (.ref 3), some (.ref le), some (.int X), some (.int (nI m)), some (.int l4), some (.int (nI 0))] [] (n, I, J, R) 0 0)
    refine ⟨fun h157 => ?_, fun h157 => ?_⟩
    · skip
      have hmw : w ≤ m := (nI_leI (by omega) (by omega)).mp h157
      have h5 : r 5 = nI 1 := h.z6.resolve_left h144
      refine q_k 1 ?_
      show q_W L (d + 5) 70 q_m70 Q 163 [some (.ref 3), some (.ref le), some (.int X), some (.int (nI m)), some (.int l4), some (.int (nI 0))] [.ref 3] (n, I, J, R) 0 0
      refine q_gR (b := t) rfl rfl (⟨Nat.lt_of_lt_of_le (by decide) hK.1, rfl⟩) (ht) ?_
      refine q_k 1 ?_
      show q_W L (d + 5) 70 q_m70 Q 167 [some (.ref 3), some (.ref le), some (.int X), some (.int (nI m)), some (.int l4), some (.int (nI 0))] [.ref 3, .ref t] (n, I, J, R) 0 0
      refine q_gR (b := 4) rfl rfl (⟨Nat.lt_of_lt_of_le (by decide) hK.1, rfl⟩) (hK.2.1 3 0 4 rfl) ?_
      refine q_k 1 ?_
      show q_W L (d + 5) 70 q_m70 Q 171 [some (.ref 3), some (.ref le), some (.int X), some (.int (nI m)), some (.int l4), some (.int (nI 0))] [.int (nI m), .ref 4, .ref t] (n, I, J, R) 0 0
      refine q_cv (as := [.ref 4, .int (nI m)]) (rs := []) rfl rfl rfl (hS.ob) rfl rfl ?_
      refine c_skipTo (t := t) (m := m) (c := c) (w := w) (r := r) (hK) (hS) (h) (hc) (hw) (by omega) (by omega) (hc20) (Or.inl h5) (fun h8 => ?_) (fun h8 I3 a3 u3 g3 => ?_)
      · skip
        show q_W L (d + 5) 70 q_m70 Q 174 [some (.ref 3), some (.ref le), some (.int X), some (.int (nI m)), some (.int l4), some (.int (nI 0))] [.int (nI 0)] (n, I, J, R) 0 0
        refine q_one rfl rfl ?_
        show ((nI 0) = 0 → q_W L (d + 5) 70 q_m70 Q 192 [some (.ref 3), some (.ref le), some (.int X), some (.int (nI m)), some (.int l4), some (.int (nI 0))] [] (n, I, J, R) 0 0) ∧ (¬ (nI 0) = 0 → q_W L (d + 5) 70 q_m70 Q 177 [some (.ref 3), some (.ref le), some (.int X), some (.int (nI m)), some (.int l4), some (.int (nI 0))] [] (n, I, J, R) 0 0)
        refine ⟨fun _ => ?_, fun z => absurd (by decide) z⟩
        refine q_k 1 ?_
        show q_W L (d + 5) 70 q_m70 Q 193 [some (.ref 3), some (.ref le), some (.int X), some (.int (nI m)), some (.int l4), some (.int (nI 0))] [.int (nI 2)] (n, I, J, R) 0 0
        refine q_one rfl rfl ?_
        show Q (some (.int (nI 2))) (n, I, J, R)
        have hS0 : (s_end m c w tg T false r) = (nI 2, r, r, false) := by unfold s_end; rw [if_neg h144, if_neg (show ¬ m < w by omega), if_pos h8]
        rw [hS0] at hno
        exact hno I (show ¬ nI 2 = nI 0 by decide) (fun _ _ _ _ _ _ _ => rfl)
      · skip
        show q_W L (d + 5) 70 q_m70 Q 174 [some (.ref 3), some (.ref le), some (.int X), some (.int (nI m)), some (.int l4), some (.int (nI 0))] [.int (nI 1)] (n, I3, J, R) 0 0
        obtain ⟨rk, erk⟩ : ∃ z, z = s_sk c (m - w) r := ⟨_, rfl⟩
        rw [← erk] at a3
        have k5 : rk 5 = nI 1 := by rw [erk, s_sk_5 (by decide) (by decide) (by decide)]; exact h5
        have k9 : rk 9 = nI (c + (m - w)) := by rw [erk]; exact s_sk_9 hc _
        refine q_one rfl rfl ?_
        show ((nI 1) = 0 → q_W L (d + 5) 70 q_m70 Q 192 [some (.ref 3), some (.ref le), some (.int X), some (.int (nI m)), some (.int l4), some (.int (nI 0))] [] (n, I3, J, R) 0 0) ∧ (¬ (nI 1) = 0 → q_W L (d + 5) 70 q_m70 Q 177 [some (.ref 3), some (.ref le), some (.int X), some (.int (nI m)), some (.int l4), some (.int (nI 0))] [] (n, I3, J, R) 0 0)
        refine ⟨fun z => absurd z (by decide), fun _ => ?_⟩
        refine q_k 1 ?_
        show q_W L (d + 5) 70 q_m70 Q 178 [some (.ref 3), some (.ref le), some (.int X), some (.int (nI m)), some (.int l4), some (.int (nI 0))] [.ref 3] (n, I3, J, R) 0 0
        refine q_gR (b := t) rfl rfl (⟨Nat.lt_of_lt_of_le (by decide) hK.1, rfl⟩) (ht) ?_
        refine q_gR (b := (t + 5)) rfl rfl (hS.ob) (hS.r10) ?_
        refine q_gI rfl rfl (hS.o5) ?_
        refine q_top (w := nI (c + (m - w))) (by rw [a3.k0, k9]) ?_
        refine q_k 1 ?_
        show q_W L (d + 5) 70 q_m70 Q 189 [some (.ref 3), some (.ref le), some (.int X), some (.int (nI m)), some (.int l4), some (.int (nI 0))] [.int (nI 12), .int (nI (c + (m - w)))] (n, I3, J, R) 0 0
        refine q_one rfl rfl ?_
        show ((nI (c + (m - w))) ≤ (nI 12) → q_W L (d + 5) 70 q_m70 Q 194 [some (.ref 3), some (.ref le), some (.int X), some (.int (nI m)), some (.int l4), some (.int (nI 0))] [] (n, I3, J, R) 0 0) ∧ (¬ (nI (c + (m - w))) ≤ (nI 12) → q_W L (d + 5) 70 q_m70 Q 192 [some (.ref 3), some (.ref le), some (.int X), some (.int (nI m)), some (.int l4), some (.int (nI 0))] [] (n, I3, J, R) 0 0)
        refine ⟨fun h189 => ?_, fun h189 => ?_⟩
        · skip
          have h12 : c + (m - w) ≤ 12 := (nI_leI (by omega) (by decide)).mp h189
          refine q_k 1 ?_
          show q_W L (d + 5) 70 q_m70 Q 195 [some (.ref 3), some (.ref le), some (.int X), some (.int (nI m)), some (.int l4), some (.int (nI 0))] [.ref 3] (n, I3, J, R) 0 0
          refine q_gR (b := 4) rfl rfl (⟨Nat.lt_of_lt_of_le (by decide) hK.1, rfl⟩) (hK.2.1 3 0 4 rfl) ?_
          refine q_k 1 ?_
          show q_W L (d + 5) 70 q_m70 Q 199 [some (.ref 3), some (.ref le), some (.int X), some (.int (nI m)), some (.int l4), some (.int (nI 0))] [.ref 3, .ref 4] (n, I3, J, R) 0 0
          refine q_gR (b := 82) rfl rfl (⟨Nat.lt_of_lt_of_le (by decide) hK.1, rfl⟩) (hK.2.1 3 8 82 rfl) ?_
          refine q_k 1 ?_
          show q_W L (d + 5) 70 q_m70 Q 203 [some (.ref 3), some (.ref le), some (.int X), some (.int (nI m)), some (.int l4), some (.int (nI 0))] [.ref 3, .ref 82, .ref 4] (n, I3, J, R) 0 0
          refine q_gR (b := t) rfl rfl (⟨Nat.lt_of_lt_of_le (by decide) hK.1, rfl⟩) (ht) ?_
          refine q_gR (b := (t + 4)) rfl rfl (hS.ob) (hS.r5) ?_
          refine q_cv (as := [.ref 82, .ref (t + 4)]) (rs := []) rfl rfl rfl (⟨Nat.lt_of_lt_of_le (by decide) hK.1, rfl⟩) rfl rfl ?_
          refine c_take (q_K0_to hK (g3 0 (by decide) (by decide) (by omega)) (g3 1 (by decide) (by decide) (by omega))) (⟨by decide, Nat.lt_of_lt_of_le (by decide) hK.1, rfl⟩) (by decide) (by decide) (hS.o4) (by omega) (by omega) (by omega) (fun I4 a4 b4 g4 => ?_)
          show q_W L (d + 5) 70 q_m70 Q 212 [some (.ref 3), some (.ref le), some (.int X), some (.int (nI m)), some (.int l4), some (.int (nI 0))] [] (n, I4, J, R) 0 0
          refine q_k 1 ?_
          show q_W L (d + 5) 70 q_m70 Q 213 [some (.ref 3), some (.ref le), some (.int X), some (.int (nI m)), some (.int l4), some (.int (nI 0))] [.ref 3] (n, I4, J, R) 0 0
          refine q_gR (b := t) rfl rfl (⟨Nat.lt_of_lt_of_le (by decide) hK.1, rfl⟩) (ht) ?_
          refine q_k 3 ?_
          show q_W L (d + 5) 70 q_m70 Q 219 [some (.ref 3), some (.ref le), some (.int X), some (.int (nI m)), some (.int l4), some (.int (nI 0))] [.int ((nI m) + (nI 1)), .ref t] (n, I4, J, R) 0 0
          refine q_top (w := nI (m + 1)) (nI_add _ _) ?_
          refine q_pI rfl rfl rfl (hS.ob) ?_
          obtain ⟨I5, eI5⟩ : ∃ zz9, zz9 = q_up I4 t 8 (nI (m + 1)) := ⟨_, rfl⟩
          rw [← eI5]
          refine q_k 2 ?_
          show q_W L (d + 5) 70 q_m70 Q 224 [some (.ref 3), some (.ref le), some (.int X), some (.int (nI m)), some (.int l4), some (.int (nI 0))] [.ref le, .ref 3] (n, I5, J, R) 0 0
          refine q_cv (as := [.ref le]) (rs := []) rfl rfl rfl (⟨Nat.lt_of_lt_of_le (by decide) hK.1, rfl⟩) rfl rfl ?_
          have g5 : ∀ x, x ≠ 5 → x ≠ 6 → x ≠ 82 → (x < t ∨ t + 10 ≤ x) → I5 x = I x := fun x h5 h6 h82 hx => by rw [eI5, q_un (by omega), g4 x h5 h6 h82 (by omega), g3 x h5 h6 hx]
          have m5 : s_R I5 t (s_mv m rk) := s_R_mv a3 k5 (by rw [eI5, q_us, g4 t (by omega) (by omega) (by omega) (by omega)]) (fun i hi => by rw [eI5, q_un (by omega), b4 i hi]) (fun x h1 h2 h4 => by rw [eI5, q_un (by omega), g4 x (by omega) (by omega) (by omega) h4])
          have key5 : ∀ i, i < 8 → I5 82 i = s_mk rk i := fun i hi => by rw [eI5, q_un (by omega), a4 i hi]; exact g_mix_c (fun j hj => a3.rv k5 j hj) _ _ _ _ (by omega)
          have t53 : I5 (t + 3) = I (t + 3) := by rw [eI5, q_un (by omega), g4 (t + 3) (by omega) (by omega) (by omega) (by omega)]; exact u3
          have K5 := q_K0_to hK (g5 0 (by decide) (by decide) (by decide) (by omega)) (g5 1 (by decide) (by decide) (by decide) (by omega))
          have ha5 : ∀ u, u < 4 → c_A I5 R M (84 + 19 * u) u := fun u hu => c_A_to (ha u hu) (fun x h1 h2 => g5 x (by omega) (by omega) (by omega) (by omega)) rfl (q_eu_rf _ _)
          refine c_tagOf (K5) (ha5) (hl) (f0) (f1) (h4a) (h4b) (fun I6 g6 => ?_)
          refine q_topL (w := tg (s_mk rk)) ((htg _).symm.trans (g_tag_c (fun i hi => (key5 i hi).symm) _ _ _ _ _ _) |>.symm) ?_
          show q_W L (d + 5) 70 q_m70 Q 227 [some (.ref 3), some (.ref le), some (.int X), some (.int (nI m)), some (.int l4), some (.int (nI 0))] [.long (tg (s_mk rk))] (n, I6, J, R) 0 0
          refine q_k 2 ?_
          show q_W L (d + 5) 70 q_m70 Q 230 [some (.ref 3), some (.ref le), some (.int X), some (.int (nI m)), some (.int l4), some (.int (nI 0))] [.int (nI 11), .ref le, .long (tg (s_mk rk))] (n, I6, J, R) 0 0
          refine q_lal (m := 11) rfl (hl) (by decide) (rfl) ?_
          refine q_k 1 ?_
          show q_W L (d + 5) 70 q_m70 Q 232 [some (.ref 3), some (.ref le), some (.int X), some (.int (nI m)), some (.int l4), some (.int (nI 0))] [.int (lg_cmp (tg (s_mk rk)) (J le 11))] (n, I6, J, R) 0 0
          refine q_one rfl rfl ?_
          show ((lg_cmp (tg (s_mk rk)) (J le 11)) = 0 → q_W L (d + 5) 70 q_m70 Q 237 [some (.ref 3), some (.ref le), some (.int X), some (.int (nI m)), some (.int l4), some (.int (nI 0))] [] (n, I6, J, R) 0 0) ∧ (¬ (lg_cmp (tg (s_mk rk)) (J le 11)) = 0 → q_W L (d + 5) 70 q_m70 Q 235 [some (.ref 3), some (.ref le), some (.int X), some (.int (nI m)), some (.int l4), some (.int (nI 0))] [] (n, I6, J, R) 0 0)
          refine ⟨fun h232 => ?_, fun h232 => ?_⟩
          · skip
            rw [lg_cmp_eq] at h232
            rw [hT, erk] at h232
            have hS0 : (s_end m c w tg T false r) = (nI 0, s_mv m (s_sk c (m - w) r), s_mk (s_sk c (m - w) r), false) := by unfold s_end; rw [if_neg h144, if_neg (show ¬ m < w by omega), if_neg (show ¬ 8 < m - w by omega), if_neg (show ¬ 12 < c + (m - w) by omega), if_pos h232]
            rw [hS0, ← erk] at hok
            have m6 : s_R I6 t (s_mv m rk) := s_R_to m5 (fun x h1 h2 => g6 x (by omega) (by omega) (by omega) (by omega))
            have g6t : ∀ x, x ≠ 5 → x ≠ 6 → x ≠ 7 → x ≠ 82 → x ≠ 83 → (x < t ∨ t + 10 ≤ x) → I6 x = I x := fun x h5 h6 h7 h82 h83 hx => (g6 x h5 h6 h7 h83).trans (g5 x h5 h6 h82 hx)
            have key6 : ∀ i, i < 8 → I6 82 i = s_mk rk i := fun i hi => by rw [g6 82 (by decide) (by decide) (by decide) (by decide)]; exact key5 i hi
            have K6 := q_K0_to hK (g6t 0 (by decide) (by decide) (by decide) (by decide) (by decide) (by omega)) (g6t 1 (by decide) (by decide) (by decide) (by decide) (by decide) (by omega))
            have ha6 : ∀ u, u < 4 → c_A I6 R M (84 + 19 * u) u := fun u hu => c_A_to (ha u hu) (fun x h1 h2 => g6t x (by omega) (by omega) (by omega) (by omega) (by omega) (by omega)) rfl (q_eu_rf _ _)
            refine q_k 1 ?_
            show q_W L (d + 5) 70 q_m70 Q 239 [some (.ref 3), some (.ref le), some (.int X), some (.int (nI m)), some (.int l4), some (.int (nI 0))] [.int (nI 0)] (n, I6, J, R) 0 0
            refine q_one rfl rfl ?_
            show ((nI 0) = 0 → q_W L (d + 5) 70 q_m70 Q 283 [some (.ref 3), some (.ref le), some (.int X), some (.int (nI m)), some (.int l4), some (.int (nI 0))] [] (n, I6, J, R) 0 0) ∧ (¬ (nI 0) = 0 → q_W L (d + 5) 70 q_m70 Q 242 [some (.ref 3), some (.ref le), some (.int X), some (.int (nI m)), some (.int l4), some (.int (nI 0))] [] (n, I6, J, R) 0 0)
            refine ⟨fun _ => ?_, fun z => absurd (by decide) z⟩
            refine q_k 2 ?_
            show q_W L (d + 5) 70 q_m70 Q 285 [some (.ref 3), some (.ref le), some (.int X), some (.int (nI m)), some (.int l4), some (.int (nI 0))] [.ref le, .ref 3] (n, I6, J, R) 0 0
            refine q_cv (as := [.ref le]) (rs := []) rfl rfl rfl (⟨Nat.lt_of_lt_of_le (by decide) hK.1, rfl⟩) rfl rfl ?_
            refine c_finish (K6) (hl) (ht) (hS) (fun I7 a7 g7 => ?_)
            show q_W L (d + 5) 70 q_m70 Q 288 [some (.ref 3), some (.ref le), some (.int X), some (.int (nI m)), some (.int l4), some (.int (nI 0))] [.int (nI 0)] (n, I7, q_up J 3 5 (J le 10 ^^^ g_wide (I6 82) (nI 9) (nI 0) (nI 0) (nI 0)), R) 0 0
            refine q_one rfl rfl ?_
            show Q (some (.int (nI 0))) (n, I7, q_up J 3 5 (J le 10 ^^^ g_wide (I6 82) (nI 9) (nI 0) (nI 0) (nI 0)), R)
            have hsk : s_S I t rk := fun i hi => by rw [erk, s_sk_5 (by omega) (by omega) (by omega)]; exact hs i hi
            rw [g_wide_c key6]
            refine hok I7 rfl (s_R_an m6 a7 (fun x h1 h2 => g7 x (by omega) (by omega) (by omega) (by omega))) (s_S_an (s_S_mv hsk (by rw [g6 (t + 3) (by omega) (by omega) (by omega) (by omega)]; exact t53)) (g7 (t + 3) (by omega) (by omega) (by omega) (by omega))) (fun u hu => c_A_to (ha6 u hu) (fun x h1 h2 => g7 x (by omega) (by omega) (by omega) (by omega)) rfl (q_eu_rf _ _)) (fun x h5 h6 h7 h82 h83 _ hx => (g7 x h5 h6 h7 (by omega)).trans (g6t x h5 h6 h7 h82 h83 hx))
          · skip
            rw [lg_cmp_eq] at h232
            rw [hT, erk] at h232
            refine q_k 1 ?_
            show q_W L (d + 5) 70 q_m70 Q 236 [some (.ref 3), some (.ref le), some (.int X), some (.int (nI m)), some (.int l4), some (.int (nI 0))] [.int (nI 1)] (n, I6, J, R) 0 0
            refine q_one rfl rfl ?_
            show Q (some (.int (nI 1))) (n, I6, J, R)
            have hS0 : (s_end m c w tg T false r) = (nI 1, r, r, false) := by unfold s_end; rw [if_neg h144, if_neg (show ¬ m < w by omega), if_neg (show ¬ 8 < m - w by omega), if_neg (show ¬ 12 < c + (m - w) by omega), if_neg h232]
            rw [hS0] at hno
            exact hno I6 (show ¬ nI 1 = nI 0 by decide) (fun x h5 h6 h7 h82 h83 hx => (g6 x h5 h6 h7 h83).trans (g5 x h5 h6 h82 hx))
        · skip
          have h12 : 12 < c + (m - w) := by rcases Nat.lt_or_ge 12 (c + (m - w)) with q | q; exact q; exact absurd (nI_le q (by decide)) h189
          refine q_k 1 ?_
          show q_W L (d + 5) 70 q_m70 Q 193 [some (.ref 3), some (.ref le), some (.int X), some (.int (nI m)), some (.int l4), some (.int (nI 0))] [.int (nI 2)] (n, I3, J, R) 0 0
          refine q_one rfl rfl ?_
          show Q (some (.int (nI 2))) (n, I3, J, R)
          have hS0 : (s_end m c w tg T false r) = (nI 2, r, r, false) := by unfold s_end; rw [if_neg h144, if_neg (show ¬ m < w by omega), if_neg (show ¬ 8 < m - w by omega), if_pos h12]
          rw [hS0] at hno
          exact hno I3 (show ¬ nI 2 = nI 0 by decide) (fun x h5 h6 _ _ _ hx => g3 x h5 h6 hx)
    · skip
      have hmw : m < w := by rcases Nat.lt_or_ge m w with q | q; exact q; exact absurd (nI_le q (by omega)) h157
      refine q_k 1 ?_
      show q_W L (d + 5) 70 q_m70 Q 161 [some (.ref 3), some (.ref le), some (.int X), some (.int (nI m)), some (.int l4), some (.int (nI 0))] [.int (nI 5)] (n, I, J, R) 0 0
      refine q_one rfl rfl ?_
      show Q (some (.int (nI 5))) (n, I, J, R)
      have hS0 : (s_end m c w tg T false r) = (nI 5, r, r, false) := by unfold s_end; rw [if_neg h144, if_pos hmw]
      rw [hS0] at hno
      exact hno I (show ¬ nI 5 = nI 0 by decide) (fun _ _ _ _ _ _ _ => rfl)
  · skip
    refine q_k 1 ?_
    show q_W L (d + 5) 70 q_m70 Q 148 [some (.ref 3), some (.ref le), some (.int X), some (.int (nI m)), some (.int l4), some (.int (nI 0))] [.int (nI 1)] (n, I, J, R) 0 0
    refine q_one rfl rfl ?_
    show Q (some (.int (nI 1))) (n, I, J, R)
    have hS0 : (s_end m c w tg T false r) = (nI 1, r, r, false) := by unfold s_end; rw [if_pos h144]
    rw [hS0] at hno
    exact hno I (show ¬ nI 1 = nI 0 by decide) (fun _ _ _ _ _ _ _ => rfl)
set_option maxHeartbeats 4000000 in
theorem c_try_tail1 {L d n : Nat} {I : q_I} {J : q_L} {R : q_R} {Q : q_Q} {t le a b m c w : Nat} {X : Int32} {T : Int64} {tg : (Nat → Int32) → Int64} {r : Nat → Int32} {l4 : Int32} {M : q_I} (hK : q_K0 n I R) (ha : ∀ u, u < 4 → c_A I R M (84 + 19 * u) u) (ht : R 3 6 = some t) (hS : q_Se n R t) (hl : q_ar n le 1 12) (f0 : J le 0 = lN a) (f1 : J le 1 = lN b) (h4a : a < 4) (h4b : b < 4) (htg : ∀ key, g_tag key (J le 7).toInt32 (J le 8).toInt32 (J le 9).toInt32 (J le 10) (M 197 (2 * a + 1)) (M 197 (2 * b + 1)) = tg key) (hT : J le 11 = T) (h : s_R I t r) (hc : r 9 = nI c) (hc20 : c ≤ 20) (hw : r 7 = nI w) (hw1 : w ≤ 1001) (hm : m ≤ 1000) (hno : ∀ I', ¬ (s_end m c w tg T true (s_ss (g_nx M b) r)).1 = nI 0 → (∀ x, x ≠ 5 → x ≠ 6 → x ≠ 7 → x ≠ 82 → x ≠ 83 → (x < t ∨ t + 10 ≤ x) → I' x = I x) → Q (some (.int (s_end m c w tg T true (s_ss (g_nx M b) r)).1)) (n, I', J, R)) (hok : ∀ I', (s_end m c w tg T true (s_ss (g_nx M b) r)).1 = nI 0 → s_R I' t (va_up (s_end m c w tg T true (s_ss (g_nx M b) r)).2.1 11 (nI 1)) → s_S I' t (va_up (s_end m c w tg T true (s_ss (g_nx M b) r)).2.1 11 (nI 1)) → (∀ u, u < 4 → c_A I' R (f_ok (s_end m c w tg T true (s_ss (g_nx M b) r)) b M) (84 + 19 * u) u) → (∀ x, x ≠ 5 → x ≠ 6 → x ≠ 7 → x ≠ 82 → x ≠ 83 → x ≠ 84 + 19 * b → (x < t ∨ t + 10 ≤ x) → I' x = I x) → Q (some (.int (nI 0))) (n, I', q_up J 3 5 (J le 10 ^^^ g_wide (s_end m c w tg T true (s_ss (g_nx M b) r)).2.2.1 (nI 9) (nI 0) (nI 0) (nI 0)), R)) : q_W L (d + 5) 70 q_m70 Q 137 [some (.ref 3), some (.ref le), some (.int X), some (.int (nI m)), some (.int l4), some (.int (nI 1))] [] (n, I, J, R) 0 0 := by
  have hge := hS.ge
  refine q_k 1 ?_
  show q_W L (d + 5) 70 q_m70 Q 138 [some (.ref 3), some (.ref le), some (.int X), some (.int (nI m)), some (.int l4), some (.int (nI 1))] [.ref 3] (n, I, J, R) 0 0
  refine q_gR (b := t) rfl rfl (⟨Nat.lt_of_lt_of_le (by decide) hK.1, rfl⟩) (ht) ?_
  refine q_gZ rfl rfl (hS.ob) ?_
  refine q_top (w := r 5) (h.f6) ?_
  refine q_one rfl rfl ?_
  show (¬ (r 5) = 0 → q_W L (d + 5) 70 q_m70 Q 149 [some (.ref 3), some (.ref le), some (.int X), some (.int (nI m)), some (.int l4), some (.int (nI 1))] [] (n, I, J, R) 0 0) ∧ ((r 5) = 0 → q_W L (d + 5) 70 q_m70 Q 147 [some (.ref 3), some (.ref le), some (.int X), some (.int (nI m)), some (.int l4), some (.int (nI 1))] [] (n, I, J, R) 0 0)
  refine ⟨fun h144 => ?_, fun h144 => ?_⟩
  · skip
    refine q_k 2 ?_
    show q_W L (d + 5) 70 q_m70 Q 151 [some (.ref 3), some (.ref le), some (.int X), some (.int (nI m)), some (.int l4), some (.int (nI 1))] [.ref 3, .int (nI m)] (n, I, J, R) 0 0
    refine q_gR (b := t) rfl rfl (⟨Nat.lt_of_lt_of_le (by decide) hK.1, rfl⟩) (ht) ?_
    refine q_gI rfl rfl (hS.ob) ?_
    refine q_top (w := nI w) (by rw [h.f8, hw]) ?_
    refine q_one rfl rfl ?_
    show ((nI w) ≤ (nI m) → q_W L (d + 5) 70 q_m70 Q 162 [some (.ref 3), some (.ref le), some (.int X), some (.int (nI m)), some (.int l4), some (.int (nI 1))] [] (n, I, J, R) 0 0) ∧ (¬ (nI w) ≤ (nI m) → q_W L (d + 5) 70 q_m70 Q 160 [some (.ref 3), some (.ref le), some (.int X), some (.int (nI m)), some (.int l4), some (.int (nI 1))] [] (n, I, J, R) 0 0)
    refine ⟨fun h157 => ?_, fun h157 => ?_⟩
    · skip
      have hmw : w ≤ m := (nI_leI (by omega) (by omega)).mp h157
      have h5 : r 5 = nI 1 := h.z6.resolve_left h144
      refine q_k 1 ?_
      show q_W L (d + 5) 70 q_m70 Q 163 [some (.ref 3), some (.ref le), some (.int X), some (.int (nI m)), some (.int l4), some (.int (nI 1))] [.ref 3] (n, I, J, R) 0 0
      refine q_gR (b := t) rfl rfl (⟨Nat.lt_of_lt_of_le (by decide) hK.1, rfl⟩) (ht) ?_
      refine q_k 1 ?_
      show q_W L (d + 5) 70 q_m70 Q 167 [some (.ref 3), some (.ref le), some (.int X), some (.int (nI m)), some (.int l4), some (.int (nI 1))] [.ref 3, .ref t] (n, I, J, R) 0 0
      refine q_gR (b := 4) rfl rfl (⟨Nat.lt_of_lt_of_le (by decide) hK.1, rfl⟩) (hK.2.1 3 0 4 rfl) ?_
      refine q_k 1 ?_
      show q_W L (d + 5) 70 q_m70 Q 171 [some (.ref 3), some (.ref le), some (.int X), some (.int (nI m)), some (.int l4), some (.int (nI 1))] [.int (nI m), .ref 4, .ref t] (n, I, J, R) 0 0
      refine q_cv (as := [.ref 4, .int (nI m)]) (rs := []) rfl rfl rfl (hS.ob) rfl rfl ?_
      refine c_skipTo (t := t) (m := m) (c := c) (w := w) (r := r) (hK) (hS) (h) (hc) (hw) (by omega) (by omega) (hc20) (Or.inl h5) (fun h8 => ?_) (fun h8 I3 a3 u3 g3 => ?_)
      · skip
        show q_W L (d + 5) 70 q_m70 Q 174 [some (.ref 3), some (.ref le), some (.int X), some (.int (nI m)), some (.int l4), some (.int (nI 1))] [.int (nI 0)] (n, I, J, R) 0 0
        refine q_one rfl rfl ?_
        show ((nI 0) = 0 → q_W L (d + 5) 70 q_m70 Q 192 [some (.ref 3), some (.ref le), some (.int X), some (.int (nI m)), some (.int l4), some (.int (nI 1))] [] (n, I, J, R) 0 0) ∧ (¬ (nI 0) = 0 → q_W L (d + 5) 70 q_m70 Q 177 [some (.ref 3), some (.ref le), some (.int X), some (.int (nI m)), some (.int l4), some (.int (nI 1))] [] (n, I, J, R) 0 0)
        refine ⟨fun _ => ?_, fun z => absurd (by decide) z⟩
        refine q_k 1 ?_
        show q_W L (d + 5) 70 q_m70 Q 193 [some (.ref 3), some (.ref le), some (.int X), some (.int (nI m)), some (.int l4), some (.int (nI 1))] [.int (nI 2)] (n, I, J, R) 0 0
        refine q_one rfl rfl ?_
        show Q (some (.int (nI 2))) (n, I, J, R)
        have hS0 : (s_end m c w tg T true (s_ss (g_nx M b) r)) = (nI 2, (s_ss (g_nx M b) r), (s_ss (g_nx M b) r), true) := by rw [s_end_ss]; rw [if_neg h144, if_neg (show ¬ m < w by omega), if_pos h8]
        rw [hS0] at hno
        exact hno I (show ¬ nI 2 = nI 0 by decide) (fun _ _ _ _ _ _ _ => rfl)
      · skip
        show q_W L (d + 5) 70 q_m70 Q 174 [some (.ref 3), some (.ref le), some (.int X), some (.int (nI m)), some (.int l4), some (.int (nI 1))] [.int (nI 1)] (n, I3, J, R) 0 0
        obtain ⟨rk, erk⟩ : ∃ z, z = s_sk c (m - w) r := ⟨_, rfl⟩
        rw [← erk] at a3
        have k5 : rk 5 = nI 1 := by rw [erk, s_sk_5 (by decide) (by decide) (by decide)]; exact h5
        have k9 : rk 9 = nI (c + (m - w)) := by rw [erk]; exact s_sk_9 hc _
        refine q_one rfl rfl ?_
        show ((nI 1) = 0 → q_W L (d + 5) 70 q_m70 Q 192 [some (.ref 3), some (.ref le), some (.int X), some (.int (nI m)), some (.int l4), some (.int (nI 1))] [] (n, I3, J, R) 0 0) ∧ (¬ (nI 1) = 0 → q_W L (d + 5) 70 q_m70 Q 177 [some (.ref 3), some (.ref le), some (.int X), some (.int (nI m)), some (.int l4), some (.int (nI 1))] [] (n, I3, J, R) 0 0)
        refine ⟨fun z => absurd z (by decide), fun _ => ?_⟩
        refine q_k 1 ?_
        show q_W L (d + 5) 70 q_m70 Q 178 [some (.ref 3), some (.ref le), some (.int X), some (.int (nI m)), some (.int l4), some (.int (nI 1))] [.ref 3] (n, I3, J, R) 0 0
        refine q_gR (b := t) rfl rfl (⟨Nat.lt_of_lt_of_le (by decide) hK.1, rfl⟩) (ht) ?_
        refine q_gR (b := (t + 5)) rfl rfl (hS.ob) (hS.r10) ?_
        refine q_gI rfl rfl (hS.o5) ?_
        refine q_top (w := nI (c + (m - w))) (by rw [a3.k0, k9]) ?_
        refine q_k 1 ?_
        show q_W L (d + 5) 70 q_m70 Q 189 [some (.ref 3), some (.ref le), some (.int X), some (.int (nI m)), some (.int l4), some (.int (nI 1))] [.int (nI 12), .int (nI (c + (m - w)))] (n, I3, J, R) 0 0
        refine q_one rfl rfl ?_
        show ((nI (c + (m - w))) ≤ (nI 12) → q_W L (d + 5) 70 q_m70 Q 194 [some (.ref 3), some (.ref le), some (.int X), some (.int (nI m)), some (.int l4), some (.int (nI 1))] [] (n, I3, J, R) 0 0) ∧ (¬ (nI (c + (m - w))) ≤ (nI 12) → q_W L (d + 5) 70 q_m70 Q 192 [some (.ref 3), some (.ref le), some (.int X), some (.int (nI m)), some (.int l4), some (.int (nI 1))] [] (n, I3, J, R) 0 0)
        refine ⟨fun h189 => ?_, fun h189 => ?_⟩
        · skip
          have h12 : c + (m - w) ≤ 12 := (nI_leI (by omega) (by decide)).mp h189
          refine q_k 1 ?_
          show q_W L (d + 5) 70 q_m70 Q 195 [some (.ref 3), some (.ref le), some (.int X), some (.int (nI m)), some (.int l4), some (.int (nI 1))] [.ref 3] (n, I3, J, R) 0 0
          refine q_gR (b := 4) rfl rfl (⟨Nat.lt_of_lt_of_le (by decide) hK.1, rfl⟩) (hK.2.1 3 0 4 rfl) ?_
          refine q_k 1 ?_
          show q_W L (d + 5) 70 q_m70 Q 199 [some (.ref 3), some (.ref le), some (.int X), some (.int (nI m)), some (.int l4), some (.int (nI 1))] [.ref 3, .ref 4] (n, I3, J, R) 0 0
          refine q_gR (b := 82) rfl rfl (⟨Nat.lt_of_lt_of_le (by decide) hK.1, rfl⟩) (hK.2.1 3 8 82 rfl) ?_
          refine q_k 1 ?_
          show q_W L (d + 5) 70 q_m70 Q 203 [some (.ref 3), some (.ref le), some (.int X), some (.int (nI m)), some (.int l4), some (.int (nI 1))] [.ref 3, .ref 82, .ref 4] (n, I3, J, R) 0 0
          refine q_gR (b := t) rfl rfl (⟨Nat.lt_of_lt_of_le (by decide) hK.1, rfl⟩) (ht) ?_
          refine q_gR (b := (t + 4)) rfl rfl (hS.ob) (hS.r5) ?_
          refine q_cv (as := [.ref 82, .ref (t + 4)]) (rs := []) rfl rfl rfl (⟨Nat.lt_of_lt_of_le (by decide) hK.1, rfl⟩) rfl rfl ?_
          refine c_take (q_K0_to hK (g3 0 (by decide) (by decide) (by omega)) (g3 1 (by decide) (by decide) (by omega))) (⟨by decide, Nat.lt_of_lt_of_le (by decide) hK.1, rfl⟩) (by decide) (by decide) (hS.o4) (by omega) (by omega) (by omega) (fun I4 a4 b4 g4 => ?_)
          show q_W L (d + 5) 70 q_m70 Q 212 [some (.ref 3), some (.ref le), some (.int X), some (.int (nI m)), some (.int l4), some (.int (nI 1))] [] (n, I4, J, R) 0 0
          refine q_k 1 ?_
          show q_W L (d + 5) 70 q_m70 Q 213 [some (.ref 3), some (.ref le), some (.int X), some (.int (nI m)), some (.int l4), some (.int (nI 1))] [.ref 3] (n, I4, J, R) 0 0
          refine q_gR (b := t) rfl rfl (⟨Nat.lt_of_lt_of_le (by decide) hK.1, rfl⟩) (ht) ?_
          refine q_k 3 ?_
          show q_W L (d + 5) 70 q_m70 Q 219 [some (.ref 3), some (.ref le), some (.int X), some (.int (nI m)), some (.int l4), some (.int (nI 1))] [.int ((nI m) + (nI 1)), .ref t] (n, I4, J, R) 0 0
          refine q_top (w := nI (m + 1)) (nI_add _ _) ?_
          refine q_pI rfl rfl rfl (hS.ob) ?_
          obtain ⟨I5, eI5⟩ : ∃ zz9, zz9 = q_up I4 t 8 (nI (m + 1)) := ⟨_, rfl⟩
          rw [← eI5]
          refine q_k 2 ?_
          show q_W L (d + 5) 70 q_m70 Q 224 [some (.ref 3), some (.ref le), some (.int X), some (.int (nI m)), some (.int l4), some (.int (nI 1))] [.ref le, .ref 3] (n, I5, J, R) 0 0
          refine q_cv (as := [.ref le]) (rs := []) rfl rfl rfl (⟨Nat.lt_of_lt_of_le (by decide) hK.1, rfl⟩) rfl rfl ?_
          have g5 : ∀ x, x ≠ 5 → x ≠ 6 → x ≠ 82 → (x < t ∨ t + 10 ≤ x) → I5 x = I x := fun x h5 h6 h82 hx => by rw [eI5, q_un (by omega), g4 x h5 h6 h82 (by omega), g3 x h5 h6 hx]
          have m5 : s_R I5 t (s_mv m rk) := s_R_mv a3 k5 (by rw [eI5, q_us, g4 t (by omega) (by omega) (by omega) (by omega)]) (fun i hi => by rw [eI5, q_un (by omega), b4 i hi]) (fun x h1 h2 h4 => by rw [eI5, q_un (by omega), g4 x (by omega) (by omega) (by omega) h4])
          have key5 : ∀ i, i < 8 → I5 82 i = s_mk rk i := fun i hi => by rw [eI5, q_un (by omega), a4 i hi]; exact g_mix_c (fun j hj => a3.rv k5 j hj) _ _ _ _ (by omega)
          have t53 : I5 (t + 3) = I (t + 3) := by rw [eI5, q_un (by omega), g4 (t + 3) (by omega) (by omega) (by omega) (by omega)]; exact u3
          have K5 := q_K0_to hK (g5 0 (by decide) (by decide) (by decide) (by omega)) (g5 1 (by decide) (by decide) (by decide) (by omega))
          have ha5 : ∀ u, u < 4 → c_A I5 R M (84 + 19 * u) u := fun u hu => c_A_to (ha u hu) (fun x h1 h2 => g5 x (by omega) (by omega) (by omega) (by omega)) rfl (q_eu_rf _ _)
          refine c_tagOf (K5) (ha5) (hl) (f0) (f1) (h4a) (h4b) (fun I6 g6 => ?_)
          refine q_topL (w := tg (s_mk rk)) ((htg _).symm.trans (g_tag_c (fun i hi => (key5 i hi).symm) _ _ _ _ _ _) |>.symm) ?_
          show q_W L (d + 5) 70 q_m70 Q 227 [some (.ref 3), some (.ref le), some (.int X), some (.int (nI m)), some (.int l4), some (.int (nI 1))] [.long (tg (s_mk rk))] (n, I6, J, R) 0 0
          refine q_k 2 ?_
          show q_W L (d + 5) 70 q_m70 Q 230 [some (.ref 3), some (.ref le), some (.int X), some (.int (nI m)), some (.int l4), some (.int (nI 1))] [.int (nI 11), .ref le, .long (tg (s_mk rk))] (n, I6, J, R) 0 0
          refine q_lal (m := 11) rfl (hl) (by decide) (rfl) ?_
          refine q_k 1 ?_
          show q_W L (d + 5) 70 q_m70 Q 232 [some (.ref 3), some (.ref le), some (.int X), some (.int (nI m)), some (.int l4), some (.int (nI 1))] [.int (lg_cmp (tg (s_mk rk)) (J le 11))] (n, I6, J, R) 0 0
          refine q_one rfl rfl ?_
          show ((lg_cmp (tg (s_mk rk)) (J le 11)) = 0 → q_W L (d + 5) 70 q_m70 Q 237 [some (.ref 3), some (.ref le), some (.int X), some (.int (nI m)), some (.int l4), some (.int (nI 1))] [] (n, I6, J, R) 0 0) ∧ (¬ (lg_cmp (tg (s_mk rk)) (J le 11)) = 0 → q_W L (d + 5) 70 q_m70 Q 235 [some (.ref 3), some (.ref le), some (.int X), some (.int (nI m)), some (.int l4), some (.int (nI 1))] [] (n, I6, J, R) 0 0)
          refine ⟨fun h232 => ?_, fun h232 => ?_⟩
          · skip
            rw [lg_cmp_eq] at h232
            rw [hT, erk] at h232
            have hS0 : (s_end m c w tg T true (s_ss (g_nx M b) r)) = (nI 0, s_ss (g_nx M b) (s_mv m (s_sk c (m - w) r)), s_mk (s_sk c (m - w) r), true) := by rw [s_end_ss]; rw [if_neg h144, if_neg (show ¬ m < w by omega), if_neg (show ¬ 8 < m - w by omega), if_neg (show ¬ 12 < c + (m - w) by omega), if_pos h232]
            rw [hS0, ← erk] at hok
            have m6 : s_R I6 t (s_mv m rk) := s_R_to m5 (fun x h1 h2 => g6 x (by omega) (by omega) (by omega) (by omega))
            have g6t : ∀ x, x ≠ 5 → x ≠ 6 → x ≠ 7 → x ≠ 82 → x ≠ 83 → (x < t ∨ t + 10 ≤ x) → I6 x = I x := fun x h5 h6 h7 h82 h83 hx => (g6 x h5 h6 h7 h83).trans (g5 x h5 h6 h82 hx)
            have key6 : ∀ i, i < 8 → I6 82 i = s_mk rk i := fun i hi => by rw [g6 82 (by decide) (by decide) (by decide) (by decide)]; exact key5 i hi
            have K6 := q_K0_to hK (g6t 0 (by decide) (by decide) (by decide) (by decide) (by decide) (by omega)) (g6t 1 (by decide) (by decide) (by decide) (by decide) (by decide) (by omega))
            have ha6 : ∀ u, u < 4 → c_A I6 R M (84 + 19 * u) u := fun u hu => c_A_to (ha u hu) (fun x h1 h2 => g6t x (by omega) (by omega) (by omega) (by omega) (by omega) (by omega)) rfl (q_eu_rf _ _)
            refine q_k 1 ?_
            show q_W L (d + 5) 70 q_m70 Q 239 [some (.ref 3), some (.ref le), some (.int X), some (.int (nI m)), some (.int l4), some (.int (nI 1))] [.int (nI 1)] (n, I6, J, R) 0 0
            refine q_one rfl rfl ?_
            show ((nI 1) = 0 → q_W L (d + 5) 70 q_m70 Q 283 [some (.ref 3), some (.ref le), some (.int X), some (.int (nI m)), some (.int l4), some (.int (nI 1))] [] (n, I6, J, R) 0 0) ∧ (¬ (nI 1) = 0 → q_W L (d + 5) 70 q_m70 Q 242 [some (.ref 3), some (.ref le), some (.int X), some (.int (nI m)), some (.int l4), some (.int (nI 1))] [] (n, I6, J, R) 0 0)
            refine ⟨fun z => absurd z (by decide), fun _ => ?_⟩
            refine q_k 1 ?_
            show q_W L (d + 5) 70 q_m70 Q 243 [some (.ref 3), some (.ref le), some (.int X), some (.int (nI m)), some (.int l4), some (.int (nI 1))] [.ref 3] (n, I6, J, R) 0 0
            refine q_gR (b := 8) rfl rfl (⟨Nat.lt_of_lt_of_le (by decide) hK.1, rfl⟩) (hK.2.1 3 1 8 rfl) ?_
            refine q_k 2 ?_
            show q_W L (d + 5) 70 q_m70 Q 248 [some (.ref 3), some (.ref le), some (.int X), some (.int (nI m)), some (.int l4), some (.int (nI 1))] [.int (nI 1), .ref le, .ref 8] (n, I6, J, R) 0 0
            refine q_lal (m := 1) rfl (hl) (by decide) (rfl) ?_
            refine q_k 1 ?_
            show q_W L (d + 5) 70 q_m70 Q 250 [some (.ref 3), some (.ref le), some (.int X), some (.int (nI m)), some (.int l4), some (.int (nI 1))] [.int ((J le 1).toInt32), .ref 8] (n, I6, J, R) 0 0
            refine q_top (w := nI b) (by rw [f1]; exact lN_i _) ?_
            refine q_aal (m := b) (b := (84 + 19 * b)) rfl (⟨by decide, Nat.lt_of_lt_of_le (by decide) hK.1, rfl⟩) ⟨rfl, rfl⟩ (h4b) rfl (hK.2.1 8 b _ (q_fx8 b h4b)) ?_
            refine q_k 1 ?_
            show q_W L (d + 5) 70 q_m70 Q 252 [some (.ref 3), some (.ref le), some (.int X), some (.int (nI m)), some (.int l4), some (.int (nI 1))] [.ref 3, .ref (84 + 19 * b)] (n, I6, J, R) 0 0
            refine q_gR (b := 4) rfl rfl (⟨Nat.lt_of_lt_of_le (by decide) hK.1, rfl⟩) (hK.2.1 3 0 4 rfl) ?_
            refine q_k 1 ?_
            show q_W L (d + 5) 70 q_m70 Q 256 [some (.ref 3), some (.ref le), some (.int X), some (.int (nI m)), some (.int l4), some (.int (nI 1))] [.ref 3, .ref 4, .ref (84 + 19 * b)] (n, I6, J, R) 0 0
            refine q_gR (b := t) rfl rfl (⟨Nat.lt_of_lt_of_le (by decide) hK.1, rfl⟩) (ht) ?_
            refine q_gR (b := (t + 2)) rfl rfl (hS.ob) (hS.r2) ?_
            refine q_cv (as := [.ref 4, .ref (t + 2)]) (rs := []) rfl rfl rfl ((q_Ac_of hK h4b).ob) rfl rfl ?_
            refine c_draw (K6) (q_Ac_of hK h4b) (hS.o2) (by omega) ((ha6 b h4b).seed) (fun I7 a7 p7 q7 g7 => ?_)
            have enx : g_priv (M 194 b) (M 195 b) b (I6 (84 + 19 * b) 1 + nI 1) = g_nx M b := by rw [(ha6 b h4b).dr]; rfl
            rw [enx] at p7 q7
            show q_W L (d + 5) 70 q_m70 Q 265 [some (.ref 3), some (.ref le), some (.int X), some (.int (nI m)), some (.int l4), some (.int (nI 1))] [] (n, I7, J, R) 0 0
            refine q_k 1 ?_
            show q_W L (d + 5) 70 q_m70 Q 266 [some (.ref 3), some (.ref le), some (.int X), some (.int (nI m)), some (.int l4), some (.int (nI 1))] [.ref 3] (n, I7, J, R) 0 0
            refine q_gR (b := t) rfl rfl (⟨Nat.lt_of_lt_of_le (by decide) hK.1, rfl⟩) (ht) ?_
            refine q_k 1 ?_
            show q_W L (d + 5) 70 q_m70 Q 270 [some (.ref 3), some (.ref le), some (.int X), some (.int (nI m)), some (.int l4), some (.int (nI 1))] [.ref 3, .ref t] (n, I7, J, R) 0 0
            refine q_gR (b := 4) rfl rfl (⟨Nat.lt_of_lt_of_le (by decide) hK.1, rfl⟩) (hK.2.1 3 0 4 rfl) ?_
            refine q_k 1 ?_
            show q_W L (d + 5) 70 q_m70 Q 274 [some (.ref 3), some (.ref le), some (.int X), some (.int (nI m)), some (.int l4), some (.int (nI 1))] [.ref 3, .ref 4, .ref t] (n, I7, J, R) 0 0
            refine q_gR (b := t) rfl rfl (⟨Nat.lt_of_lt_of_le (by decide) hK.1, rfl⟩) (ht) ?_
            refine q_gR (b := (t + 3)) rfl rfl (hS.ob) (hS.r4) ?_
            refine q_cv (as := [.ref 4, .ref (t + 3)]) (rs := []) rfl rfl rfl (hS.ob) rfl rfl ?_
            refine c_step (q_K0_to K6 (g7 0 (by omega) (by omega) (by omega) (by omega) (by omega)) (g7 1 (by omega) (by omega) (by omega) (by omega) (by omega))) (hS) (hS.o3) (by omega) (by omega) (fun I8 a8 b8 g8 => ?_)
            have ed : g_pow (I7 t 3) (I7 (t + 2) 0) = g_pow (s_mv m rk 1) (g_nx M b) := by rw [p7, g7 t (by omega) (by omega) (by omega) (by omega) (by omega), m6.f3]
            rw [ed] at a8 b8
            have e71 : I7 (t + 1) = I6 (t + 1) := g7 (t + 1) (by omega) (by omega) (by omega) (by omega) (by omega)
            rw [e71] at a8 b8
            obtain ⟨m8, n8⟩ := s_R_ss (I2 := I8) (q := g_nx M b) m6 (by rw [g8 t (by omega) (by omega) (by omega) (by omega), g7 t (by omega) (by omega) (by omega) (by omega) (by omega)]) (by rw [g8 (t + 2) (by omega) (by omega) (by omega) (by omega)]; exact p7) (by rw [g8 (t + 2) (by omega) (by omega) (by omega) (by omega)]; exact q7) b8 a8 (fun x h1 h2 => by rw [g8 x (by omega) (by omega) (by omega) (by omega), g7 x (by omega) (by omega) (by omega) (by omega) (by omega)])
            have K8 := q_K0_to (q_K0_to K6 (g7 0 (by omega) (by omega) (by omega) (by omega) (by omega)) (g7 1 (by omega) (by omega) (by omega) (by omega) (by omega))) (g8 0 (by omega) (by omega) (by omega) (by omega)) (g8 1 (by omega) (by omega) (by omega) (by omega))
            have ha8 : ∀ u, u < 4 → c_A I8 R (f_draw b M) (84 + 19 * u) u := by
              intro u hu
              by_cases eb : b = u
              · subst eb
                exact c_A_dr (ha6 b h4b) (by rw [g8 (84 + 19 * b) (by omega) (by omega) (by omega) (by omega)]; exact a7) (fun x h1 h2 => by rw [g8 x (by omega) (by omega) (by omega) (by omega), g7 x (by omega) (by omega) (by omega) (by omega) (by omega)])
              · exact c_A_to (ha6 u hu) (fun x h1 h2 => by rw [g8 x (by omega) (by omega) (by omega) (by omega), g7 x (by omega) (by omega) (by omega) (by omega) (by omega)]) rfl (f_draw_eu (q_eu_rf _ _) eb)
            have key8 : ∀ i, i < 8 → I8 82 i = s_mk rk i := fun i hi => by rw [g8 82 (by omega) (by omega) (by omega) (by omega), g7 82 (by omega) (by omega) (by omega) (by omega) (by omega)]; exact key6 i hi
            show q_W L (d + 5) 70 q_m70 Q 283 [some (.ref 3), some (.ref le), some (.int X), some (.int (nI m)), some (.int l4), some (.int (nI 1))] [] (n, I8, J, R) 0 0
            refine q_k 2 ?_
            show q_W L (d + 5) 70 q_m70 Q 285 [some (.ref 3), some (.ref le), some (.int X), some (.int (nI m)), some (.int l4), some (.int (nI 1))] [.ref le, .ref 3] (n, I8, J, R) 0 0
            refine q_cv (as := [.ref le]) (rs := []) rfl rfl rfl (⟨Nat.lt_of_lt_of_le (by decide) hK.1, rfl⟩) rfl rfl ?_
            refine c_finish (K8) (hl) (ht) (hS) (fun I9 a9 g9 => ?_)
            show q_W L (d + 5) 70 q_m70 Q 288 [some (.ref 3), some (.ref le), some (.int X), some (.int (nI m)), some (.int l4), some (.int (nI 1))] [.int (nI 0)] (n, I9, q_up J 3 5 (J le 10 ^^^ g_wide (I8 82) (nI 9) (nI 0) (nI 0) (nI 0)), R) 0 0
            refine q_one rfl rfl ?_
            show Q (some (.int (nI 0))) (n, I9, q_up J 3 5 (J le 10 ^^^ g_wide (I8 82) (nI 9) (nI 0) (nI 0) (nI 0)), R)
            rw [g_wide_c key8]
            refine hok I9 rfl (s_R_an m8 a9 (fun x h1 h2 => g9 x (by omega) (by omega) (by omega) (by omega))) (s_S_an n8 (g9 (t + 3) (by omega) (by omega) (by omega) (by omega))) (fun u hu => c_A_to (ha8 u hu) (fun x h1 h2 => g9 x (by omega) (by omega) (by omega) (by omega)) rfl (q_eu_rf _ _)) (fun x h5 h6 h7 h82 h83 hb hx => by rw [g9 x (by omega) (by omega) (by omega) (by omega), g8 x (by omega) (by omega) (by omega) (by omega), g7 x (by omega) (by omega) (by omega) (by omega) (by omega)]; exact g6t x h5 h6 h7 h82 h83 hx)
          · skip
            rw [lg_cmp_eq] at h232
            rw [hT, erk] at h232
            refine q_k 1 ?_
            show q_W L (d + 5) 70 q_m70 Q 236 [some (.ref 3), some (.ref le), some (.int X), some (.int (nI m)), some (.int l4), some (.int (nI 1))] [.int (nI 1)] (n, I6, J, R) 0 0
            refine q_one rfl rfl ?_
            show Q (some (.int (nI 1))) (n, I6, J, R)
            have hS0 : (s_end m c w tg T true (s_ss (g_nx M b) r)) = (nI 1, (s_ss (g_nx M b) r), (s_ss (g_nx M b) r), true) := by rw [s_end_ss]; rw [if_neg h144, if_neg (show ¬ m < w by omega), if_neg (show ¬ 8 < m - w by omega), if_neg (show ¬ 12 < c + (m - w) by omega), if_neg h232]
            rw [hS0] at hno
            exact hno I6 (show ¬ nI 1 = nI 0 by decide) (fun x h5 h6 h7 h82 h83 hx => (g6 x h5 h6 h7 h83).trans (g5 x h5 h6 h82 hx))
        · skip
          have h12 : 12 < c + (m - w) := by rcases Nat.lt_or_ge 12 (c + (m - w)) with q | q; exact q; exact absurd (nI_le q (by decide)) h189
          refine q_k 1 ?_
          show q_W L (d + 5) 70 q_m70 Q 193 [some (.ref 3), some (.ref le), some (.int X), some (.int (nI m)), some (.int l4), some (.int (nI 1))] [.int (nI 2)] (n, I3, J, R) 0 0
          refine q_one rfl rfl ?_
          show Q (some (.int (nI 2))) (n, I3, J, R)
          have hS0 : (s_end m c w tg T true (s_ss (g_nx M b) r)) = (nI 2, (s_ss (g_nx M b) r), (s_ss (g_nx M b) r), true) := by rw [s_end_ss]; rw [if_neg h144, if_neg (show ¬ m < w by omega), if_neg (show ¬ 8 < m - w by omega), if_pos h12]
          rw [hS0] at hno
          exact hno I3 (show ¬ nI 2 = nI 0 by decide) (fun x h5 h6 _ _ _ hx => g3 x h5 h6 hx)
    · skip
      have hmw : m < w := by rcases Nat.lt_or_ge m w with q | q; exact q; exact absurd (nI_le q (by omega)) h157
      refine q_k 1 ?_
      show q_W L (d + 5) 70 q_m70 Q 161 [some (.ref 3), some (.ref le), some (.int X), some (.int (nI m)), some (.int l4), some (.int (nI 1))] [.int (nI 5)] (n, I, J, R) 0 0
      refine q_one rfl rfl ?_
      show Q (some (.int (nI 5))) (n, I, J, R)
      have hS0 : (s_end m c w tg T true (s_ss (g_nx M b) r)) = (nI 5, (s_ss (g_nx M b) r), (s_ss (g_nx M b) r), true) := by rw [s_end_ss]; rw [if_neg h144, if_pos hmw]
      rw [hS0] at hno
      exact hno I (show ¬ nI 5 = nI 0 by decide) (fun _ _ _ _ _ _ _ => rfl)
  · skip
    refine q_k 1 ?_
    show q_W L (d + 5) 70 q_m70 Q 148 [some (.ref 3), some (.ref le), some (.int X), some (.int (nI m)), some (.int l4), some (.int (nI 1))] [.int (nI 1)] (n, I, J, R) 0 0
    refine q_one rfl rfl ?_
    show Q (some (.int (nI 1))) (n, I, J, R)
    have hS0 : (s_end m c w tg T true (s_ss (g_nx M b) r)) = (nI 1, (s_ss (g_nx M b) r), (s_ss (g_nx M b) r), true) := by rw [s_end_ss]; rw [if_pos h144]
    rw [hS0] at hno
    exact hno I (show ¬ nI 1 = nI 0 by decide) (fun _ _ _ _ _ _ _ => rfl)
