theorem s_new_0 {base s pub : Int32} {root g : Nat → Int32} {i : Nat} (h : i = 1 ∨ (4 ≤ i ∧ i < 14) ∨ (22 ≤ i ∧ i < 318)) : s_new base s pub root g i = nI 0 := by
  unfold s_new
  rw [if_neg (by omega), if_neg (by omega), if_neg (by omega), if_neg (by omega), if_pos (by omega)]
theorem s_R_new {I : q_I} {t : Nat} {base s pub : Int32} {root g : Nat → Int32} (z : ∀ k, (k = 3 ∨ (6 ≤ k ∧ k ≤ 9) ∨ (11 ≤ k ∧ k ≤ 14)) → I t k = nI 0) (h0 : I t 0 = base) (p0 : I (t + 2) 0 = s) (p1 : I (t + 2) 1 = pub) (h5 : I (t + 5) 0 = nI 0) (hr : ∀ i, i < 8 → I (t + 1) i = root i) : s_R I t (s_new base s pub root g) := by
  refine ⟨h0, ?_, p0, p1, ?_, ?_, ?_, ?_, ?_, ?_, ?_, ?_, ?_, ?_, ?_, ?_, fun i hi => ?_, fun k hk => ?_, fun h _ _ => ?_⟩
  · rw [z 3 (by omega), s_new_0 (by omega)]
  · rw [z 6 (by omega), s_new_0 (by omega)]
  · rw [s_new_0 (by omega)]; exact Or.inl rfl
  · rw [z 7 (by omega), s_new_0 (by omega)]
  · rw [z 8 (by omega), s_new_0 (by omega)]
  · rw [z 9 (by omega), s_new_0 (by omega)]
  · rw [h5, s_new_0 (by omega)]
  · rw [z 11 (by omega), s_new_0 (by omega)]
  · rw [s_new_0 (by omega)]; exact Or.inl rfl
  · rw [z 12 (by omega), s_new_0 (by omega)]
  · rw [s_new_0 (by omega)]; exact Or.inl rfl
  · rw [z 13 (by omega), s_new_0 (by omega)]
  · rw [z 14 (by omega), s_new_0 (by omega)]
  · rw [hr i hi]
    unfold s_new
    rw [if_neg (by omega), if_neg (by omega), if_neg (by omega), if_pos (by omega)]
    exact congrArg root (by omega)
  · rw [s_new_0 (by omega)] at hk
    exact absurd (show k < 0 from hk) (Nat.not_lt_zero _)
  · rw [s_new_0 (by omega)] at h
    exact absurd h (by decide)
theorem g_agr_z {n : Nat} {I : q_I} {R : q_R} (hK : q_K0 n I R) {f : Nat → Int32} {o1 o2 o3 o4 a b o : Int32} (hf : ∀ i, i < 8 → f i = g_mix (I 0) o1 o2 o3 o4 i) {i : Nat} (hi : i < 8) : g_mix f a b (nI 4) o i = g_agr o1 o2 o3 o4 a b o i := by
  unfold g_agr
  refine g_mix_c (fun j hj => ?_) _ _ _ _ (by omega)
  rw [hf j hj]
  exact g_mix_c (fun l hl => by rw [hK.2.2.1 l hl]; unfold g_fl; split; rfl; split; rfl; split; rfl; split; rfl; rfl) _ _ _ _ (by omega)
theorem c_agree2 {L d n : Nat} {I : q_I} {J : q_L} {R : q_R} {Q : q_Q} {le ac t : Nat} {v : Int32} (hK : q_K0 n I R) (hA : q_Ac n R ac) (ht : R 3 6 = some t) (hS : q_Se n R t) (hl : q_ar n le 1 12) (hQ : ∀ I', (∀ i, i < 8 → I' (t + 1) i = g_agr (g_pow (J le 3).toInt32 (I (t + 2) 0)) (g_pow (J le 4).toInt32 (I (ac + 1) 0)) (g_pow (J le 4).toInt32 (I (t + 2) 0)) v (J le 3).toInt32 (I (ac + 1) 1) (J le 6).toInt32 i) → (∀ x, x ≠ 5 → x ≠ 6 → x ≠ t + 1 → I' x = I x) → Q none (n, I', J, R)) : q_Ex L (d + 3) 69 [.ref 3, .ref le, .ref ac, .int v] (n, I, J, R) Q := by
  refine q_in (x := q_m69) rfl rfl ?_
  show q_W L (d + 2) 69 q_m69 Q 0 [some (.ref 3), some (.ref le), some (.ref ac), some (.int v), none, none] [] (n, I, J, R) 0 0
  have hge := hS.ge
  refine q_k 2 ?_
  show q_W L (d + 2) 69 q_m69 Q 2 [some (.ref 3), some (.ref le), some (.ref ac), some (.int v), none, none] [.int (nI 3), .ref le] (n, I, J, R) 0 0
  refine q_lal (m := 3) rfl (hl) (by decide) (rfl) ?_
  refine q_k 4 ?_
  show q_W L (d + 2) 69 q_m69 Q 8 [some (.ref 3), some (.ref le), some (.ref ac), some (.int v), some (.int ((J le 3).toInt32)), none] [.int (nI 4), .ref le] (n, I, J, R) 0 0
  refine q_lal (m := 4) rfl (hl) (by decide) (rfl) ?_
  refine q_k 3 ?_
  show q_W L (d + 2) 69 q_m69 Q 13 [some (.ref 3), some (.ref le), some (.ref ac), some (.int v), some (.int ((J le 3).toInt32)), some (.int ((J le 4).toInt32))] [.ref 3] (n, I, J, R) 0 0
  refine q_gR (b := 4) rfl rfl (⟨Nat.lt_of_lt_of_le (by decide) hK.1, rfl⟩) (hK.2.1 3 0 4 rfl) ?_
  refine q_k 1 ?_
  show q_W L (d + 2) 69 q_m69 Q 17 [some (.ref 3), some (.ref le), some (.ref ac), some (.int v), some (.int ((J le 3).toInt32)), some (.int ((J le 4).toInt32))] [.ref 3, .ref 4] (n, I, J, R) 0 0
  refine q_gR (b := t) rfl rfl (⟨Nat.lt_of_lt_of_le (by decide) hK.1, rfl⟩) (ht) ?_
  refine q_gR (b := (t + 1)) rfl rfl (hS.ob) (hS.r1) ?_
  refine q_k 2 ?_
  show q_W L (d + 2) 69 q_m69 Q 27 [some (.ref 3), some (.ref le), some (.ref ac), some (.int v), some (.int ((J le 3).toInt32)), some (.int ((J le 4).toInt32))] [.ref 3, .ref 0, .ref (t + 1), .ref 4] (n, I, J, R) 0 0
  refine q_gR (b := t) rfl rfl (⟨Nat.lt_of_lt_of_le (by decide) hK.1, rfl⟩) (ht) ?_
  refine q_gR (b := (t + 2)) rfl rfl (hS.ob) (hS.r2) ?_
  refine q_k 1 ?_
  show q_W L (d + 2) 69 q_m69 Q 35 [some (.ref 3), some (.ref le), some (.ref ac), some (.int v), some (.int ((J le 3).toInt32)), some (.int ((J le 4).toInt32))] [.int ((J le 3).toInt32), .ref (t + 2), .ref 0, .ref (t + 1), .ref 4] (n, I, J, R) 0 0
  refine q_cv (as := [.int ((J le 3).toInt32)]) (rs := [.ref 0, .ref (t + 1), .ref 4]) rfl rfl rfl (hS.o2) rfl rfl ?_
  refine c_shared (hS.o2) ?_
  show q_W L (d + 2) 69 q_m69 Q 38 [some (.ref 3), some (.ref le), some (.ref ac), some (.int v), some (.int ((J le 3).toInt32)), some (.int ((J le 4).toInt32))] [.int (g_pow ((J le 3).toInt32) (I (t + 2) 0)), .ref 0, .ref (t + 1), .ref 4] (n, I, J, R) 0 0
  refine q_k 1 ?_
  show q_W L (d + 2) 69 q_m69 Q 39 [some (.ref 3), some (.ref le), some (.ref ac), some (.int v), some (.int ((J le 3).toInt32)), some (.int ((J le 4).toInt32))] [.ref ac, .int (g_pow ((J le 3).toInt32) (I (t + 2) 0)), .ref 0, .ref (t + 1), .ref 4] (n, I, J, R) 0 0
  refine q_gR (b := (ac + 1)) rfl rfl (hA.ob) (hA.r2) ?_
  refine q_k 1 ?_
  show q_W L (d + 2) 69 q_m69 Q 44 [some (.ref 3), some (.ref le), some (.ref ac), some (.int v), some (.int ((J le 3).toInt32)), some (.int ((J le 4).toInt32))] [.int ((J le 4).toInt32), .ref (ac + 1), .int (g_pow ((J le 3).toInt32) (I (t + 2) 0)), .ref 0, .ref (t + 1), .ref 4] (n, I, J, R) 0 0
  refine q_cv (as := [.int ((J le 4).toInt32)]) (rs := [.int (g_pow ((J le 3).toInt32) (I (t + 2) 0)), .ref 0, .ref (t + 1), .ref 4]) rfl rfl rfl (hA.o1) rfl rfl ?_
  refine c_shared (hA.o1) ?_
  show q_W L (d + 2) 69 q_m69 Q 47 [some (.ref 3), some (.ref le), some (.ref ac), some (.int v), some (.int ((J le 3).toInt32)), some (.int ((J le 4).toInt32))] [.int (g_pow ((J le 4).toInt32) (I (ac + 1) 0)), .int (g_pow ((J le 3).toInt32) (I (t + 2) 0)), .ref 0, .ref (t + 1), .ref 4] (n, I, J, R) 0 0
  refine q_k 1 ?_
  show q_W L (d + 2) 69 q_m69 Q 48 [some (.ref 3), some (.ref le), some (.ref ac), some (.int v), some (.int ((J le 3).toInt32)), some (.int ((J le 4).toInt32))] [.ref 3, .int (g_pow ((J le 4).toInt32) (I (ac + 1) 0)), .int (g_pow ((J le 3).toInt32) (I (t + 2) 0)), .ref 0, .ref (t + 1), .ref 4] (n, I, J, R) 0 0
  refine q_gR (b := t) rfl rfl (⟨Nat.lt_of_lt_of_le (by decide) hK.1, rfl⟩) (ht) ?_
  refine q_gR (b := (t + 2)) rfl rfl (hS.ob) (hS.r2) ?_
  refine q_k 1 ?_
  show q_W L (d + 2) 69 q_m69 Q 56 [some (.ref 3), some (.ref le), some (.ref ac), some (.int v), some (.int ((J le 3).toInt32)), some (.int ((J le 4).toInt32))] [.int ((J le 4).toInt32), .ref (t + 2), .int (g_pow ((J le 4).toInt32) (I (ac + 1) 0)), .int (g_pow ((J le 3).toInt32) (I (t + 2) 0)), .ref 0, .ref (t + 1), .ref 4] (n, I, J, R) 0 0
  refine q_cv (as := [.int ((J le 4).toInt32)]) (rs := [.int (g_pow ((J le 4).toInt32) (I (ac + 1) 0)), .int (g_pow ((J le 3).toInt32) (I (t + 2) 0)), .ref 0, .ref (t + 1), .ref 4]) rfl rfl rfl (hS.o2) rfl rfl ?_
  refine c_shared (hS.o2) ?_
  show q_W L (d + 2) 69 q_m69 Q 59 [some (.ref 3), some (.ref le), some (.ref ac), some (.int v), some (.int ((J le 3).toInt32)), some (.int ((J le 4).toInt32))] [.int (g_pow ((J le 4).toInt32) (I (t + 2) 0)), .int (g_pow ((J le 4).toInt32) (I (ac + 1) 0)), .int (g_pow ((J le 3).toInt32) (I (t + 2) 0)), .ref 0, .ref (t + 1), .ref 4] (n, I, J, R) 0 0
  refine q_k 1 ?_
  show q_W L (d + 2) 69 q_m69 Q 60 [some (.ref 3), some (.ref le), some (.ref ac), some (.int v), some (.int ((J le 3).toInt32)), some (.int ((J le 4).toInt32))] [.int v, .int (g_pow ((J le 4).toInt32) (I (t + 2) 0)), .int (g_pow ((J le 4).toInt32) (I (ac + 1) 0)), .int (g_pow ((J le 3).toInt32) (I (t + 2) 0)), .ref 0, .ref (t + 1), .ref 4] (n, I, J, R) 0 0
  refine q_cv (as := [.ref (t + 1), .ref 0, .int (g_pow ((J le 3).toInt32) (I (t + 2) 0)), .int (g_pow ((J le 4).toInt32) (I (ac + 1) 0)), .int (g_pow ((J le 4).toInt32) (I (t + 2) 0)), .int v]) (rs := []) rfl rfl rfl (⟨Nat.lt_of_lt_of_le (by decide) hK.1, rfl⟩) rfl rfl ?_
  refine c_blend (hK) (hS.o1) (by omega) (by omega) (Or.inr (Or.inl ⟨rfl, rfl⟩)) (by decide) (fun I1 h1 f1 => ?_)
  show q_W L (d + 2) 69 q_m69 Q 63 [some (.ref 3), some (.ref le), some (.ref ac), some (.int v), some (.int ((J le 3).toInt32)), some (.int ((J le 4).toInt32))] [] (n, I1, J, R) 0 0
  refine q_k 1 ?_
  show q_W L (d + 2) 69 q_m69 Q 64 [some (.ref 3), some (.ref le), some (.ref ac), some (.int v), some (.int ((J le 3).toInt32)), some (.int ((J le 4).toInt32))] [.ref 3] (n, I1, J, R) 0 0
  refine q_gR (b := 4) rfl rfl (⟨Nat.lt_of_lt_of_le (by decide) hK.1, rfl⟩) (hK.2.1 3 0 4 rfl) ?_
  refine q_k 1 ?_
  show q_W L (d + 2) 69 q_m69 Q 68 [some (.ref 3), some (.ref le), some (.ref ac), some (.int v), some (.int ((J le 3).toInt32)), some (.int ((J le 4).toInt32))] [.ref 3, .ref 4] (n, I1, J, R) 0 0
  refine q_gR (b := t) rfl rfl (⟨Nat.lt_of_lt_of_le (by decide) hK.1, rfl⟩) (ht) ?_
  refine q_gR (b := (t + 1)) rfl rfl (hS.ob) (hS.r1) ?_
  refine q_k 1 ?_
  show q_W L (d + 2) 69 q_m69 Q 75 [some (.ref 3), some (.ref le), some (.ref ac), some (.int v), some (.int ((J le 3).toInt32)), some (.int ((J le 4).toInt32))] [.ref 3, .ref (t + 1), .ref 4] (n, I1, J, R) 0 0
  refine q_gR (b := t) rfl rfl (⟨Nat.lt_of_lt_of_le (by decide) hK.1, rfl⟩) (ht) ?_
  refine q_gR (b := (t + 1)) rfl rfl (hS.ob) (hS.r1) ?_
  refine q_k 2 ?_
  show q_W L (d + 2) 69 q_m69 Q 84 [some (.ref 3), some (.ref le), some (.ref ac), some (.int v), some (.int ((J le 3).toInt32)), some (.int ((J le 4).toInt32))] [.ref ac, .int ((J le 3).toInt32), .ref (t + 1), .ref (t + 1), .ref 4] (n, I1, J, R) 0 0
  refine q_gR (b := (ac + 1)) rfl rfl (hA.ob) (hA.r2) ?_
  refine q_gI rfl rfl (hA.o1) ?_
  refine q_top (w := I (ac + 1) 1) (by rw [f1 (ac + 1) (by have := hA.lo; omega) (by have := hA.lo; omega) (by have := hA.lo; have := hA.hi; omega)]) ?_
  refine q_k 3 ?_
  show q_W L (d + 2) 69 q_m69 Q 94 [some (.ref 3), some (.ref le), some (.ref ac), some (.int v), some (.int ((J le 3).toInt32)), some (.int ((J le 4).toInt32))] [.int (nI 6), .ref le, .int (nI 4), .int (I (ac + 1) 1), .int ((J le 3).toInt32), .ref (t + 1), .ref (t + 1), .ref 4] (n, I1, J, R) 0 0
  refine q_lal (m := 6) rfl (hl) (by decide) (rfl) ?_
  refine q_k 1 ?_
  show q_W L (d + 2) 69 q_m69 Q 96 [some (.ref 3), some (.ref le), some (.ref ac), some (.int v), some (.int ((J le 3).toInt32)), some (.int ((J le 4).toInt32))] [.int ((J le 6).toInt32), .int (nI 4), .int (I (ac + 1) 1), .int ((J le 3).toInt32), .ref (t + 1), .ref (t + 1), .ref 4] (n, I1, J, R) 0 0
  refine q_cv (as := [.ref (t + 1), .ref (t + 1), .int ((J le 3).toInt32), .int (I (ac + 1) 1), .int (nI 4), .int ((J le 6).toInt32)]) (rs := []) rfl rfl rfl (⟨Nat.lt_of_lt_of_le (by decide) hK.1, rfl⟩) rfl rfl ?_
  refine c_blend (q_K0_to hK (f1 0 (by decide) (by decide) (by omega)) (f1 1 (by decide) (by decide) (by omega))) (hS.o1) (by omega) (by omega) (Or.inl hS.o1) (by omega) (fun I2 h2 f2 => ?_)
  show q_W L (d + 2) 69 q_m69 Q 99 [some (.ref 3), some (.ref le), some (.ref ac), some (.int v), some (.int ((J le 3).toInt32)), some (.int ((J le 4).toInt32))] [] (n, I2, J, R) 0 0
  refine q_one rfl rfl ?_
  show Q (none) (n, I2, J, R)
  refine hQ I2 (fun i hi => ?_) (fun x h5 h6 hx => (f2 x h5 h6 hx).trans (f1 x h5 h6 hx))
  rw [h2 i hi]
  exact g_agr_z hK h1 hi
theorem c_agree1 {L d n : Nat} {I : q_I} {J : q_L} {R : q_R} {Q : q_Q} {id en t : Nat} {ov : Int32} (hK : q_K0 n I R) (ht : R 3 6 = some t) (hS : q_Se n R t) (hid : q_ob n id 1) (hen : q_ob n en 2) (hi1 : 84 ≤ id ∧ id < 160) (he1 : 84 ≤ en ∧ en < 160) (hQ : ∀ I', (∀ i, i < 8 → I' (t + 1) i = g_agr (g_pow (I en 1) (I id 0)) (g_pow (I en 0) (I 81 0)) (g_pow (I en 1) (I 81 0)) (if ov = 0 then nI 0 else g_pow ov (I 81 0)) (I id 1) (I en 0) ov i) → (∀ x, x ≠ 5 → x ≠ 6 → x ≠ t + 1 → I' x = I x) → Q none (n, I', J, R)) : q_Ex L (d + 3) 68 [.ref 3, .ref id, .ref en, .int ov] (n, I, J, R) Q := by
  refine q_in (x := q_m68) rfl rfl ?_
  show q_W L (d + 2) 68 q_m68 Q 0 [some (.ref 3), some (.ref id), some (.ref en), some (.int ov)] [] (n, I, J, R) 0 0
  have hge := hS.ge
  rcases Classical.em (ov = 0) with h45 | h45
  · skip
    show q_W L (d + 2) 68 q_m68 Q 0 [some (.ref 3), some (.ref id), some (.ref en), some (.int ov)] [] (n, I, J, R) 0 0
    refine q_k 1 ?_
    show q_W L (d + 2) 68 q_m68 Q 1 [some (.ref 3), some (.ref id), some (.ref en), some (.int ov)] [.ref 3] (n, I, J, R) 0 0
    refine q_gR (b := 4) rfl rfl (⟨Nat.lt_of_lt_of_le (by decide) hK.1, rfl⟩) (hK.2.1 3 0 4 rfl) ?_
    refine q_k 1 ?_
    show q_W L (d + 2) 68 q_m68 Q 5 [some (.ref 3), some (.ref id), some (.ref en), some (.int ov)] [.ref 3, .ref 4] (n, I, J, R) 0 0
    refine q_gR (b := t) rfl rfl (⟨Nat.lt_of_lt_of_le (by decide) hK.1, rfl⟩) (ht) ?_
    refine q_gR (b := (t + 1)) rfl rfl (hS.ob) (hS.r1) ?_
    refine q_k 3 ?_
    show q_W L (d + 2) 68 q_m68 Q 16 [some (.ref 3), some (.ref id), some (.ref en), some (.int ov)] [.ref en, .ref id, .ref 0, .ref (t + 1), .ref 4] (n, I, J, R) 0 0
    refine q_gI rfl rfl (hen) ?_
    refine q_cv (as := [.int (I en 1)]) (rs := [.ref 0, .ref (t + 1), .ref 4]) rfl rfl rfl (hid) rfl rfl ?_
    refine c_shared (hid) ?_
    show q_W L (d + 2) 68 q_m68 Q 22 [some (.ref 3), some (.ref id), some (.ref en), some (.int ov)] [.int (g_pow (I en 1) (I id 0)), .ref 0, .ref (t + 1), .ref 4] (n, I, J, R) 0 0
    refine q_k 1 ?_
    show q_W L (d + 2) 68 q_m68 Q 23 [some (.ref 3), some (.ref id), some (.ref en), some (.int ov)] [.ref 3, .int (g_pow (I en 1) (I id 0)), .ref 0, .ref (t + 1), .ref 4] (n, I, J, R) 0 0
    refine q_gR (b := 81) rfl rfl (⟨Nat.lt_of_lt_of_le (by decide) hK.1, rfl⟩) (hK.2.1 3 7 81 rfl) ?_
    refine q_k 1 ?_
    show q_W L (d + 2) 68 q_m68 Q 27 [some (.ref 3), some (.ref id), some (.ref en), some (.int ov)] [.ref en, .ref 81, .int (g_pow (I en 1) (I id 0)), .ref 0, .ref (t + 1), .ref 4] (n, I, J, R) 0 0
    refine q_gI rfl rfl (hen) ?_
    refine q_cv (as := [.int (I en 0)]) (rs := [.int (g_pow (I en 1) (I id 0)), .ref 0, .ref (t + 1), .ref 4]) rfl rfl rfl (⟨Nat.lt_of_lt_of_le (by decide) hK.1, rfl⟩) rfl rfl ?_
    refine c_shared (⟨Nat.lt_of_lt_of_le (by decide) hK.1, rfl⟩) ?_
    show q_W L (d + 2) 68 q_m68 Q 33 [some (.ref 3), some (.ref id), some (.ref en), some (.int ov)] [.int (g_pow (I en 0) (I 81 0)), .int (g_pow (I en 1) (I id 0)), .ref 0, .ref (t + 1), .ref 4] (n, I, J, R) 0 0
    refine q_k 1 ?_
    show q_W L (d + 2) 68 q_m68 Q 34 [some (.ref 3), some (.ref id), some (.ref en), some (.int ov)] [.ref 3, .int (g_pow (I en 0) (I 81 0)), .int (g_pow (I en 1) (I id 0)), .ref 0, .ref (t + 1), .ref 4] (n, I, J, R) 0 0
    refine q_gR (b := 81) rfl rfl (⟨Nat.lt_of_lt_of_le (by decide) hK.1, rfl⟩) (hK.2.1 3 7 81 rfl) ?_
    refine q_k 1 ?_
    show q_W L (d + 2) 68 q_m68 Q 38 [some (.ref 3), some (.ref id), some (.ref en), some (.int ov)] [.ref en, .ref 81, .int (g_pow (I en 0) (I 81 0)), .int (g_pow (I en 1) (I id 0)), .ref 0, .ref (t + 1), .ref 4] (n, I, J, R) 0 0
    refine q_gI rfl rfl (hen) ?_
    refine q_cv (as := [.int (I en 1)]) (rs := [.int (g_pow (I en 0) (I 81 0)), .int (g_pow (I en 1) (I id 0)), .ref 0, .ref (t + 1), .ref 4]) rfl rfl rfl (⟨Nat.lt_of_lt_of_le (by decide) hK.1, rfl⟩) rfl rfl ?_
    refine c_shared (⟨Nat.lt_of_lt_of_le (by decide) hK.1, rfl⟩) ?_
    show q_W L (d + 2) 68 q_m68 Q 44 [some (.ref 3), some (.ref id), some (.ref en), some (.int ov)] [.int (g_pow (I en 1) (I 81 0)), .int (g_pow (I en 0) (I 81 0)), .int (g_pow (I en 1) (I id 0)), .ref 0, .ref (t + 1), .ref 4] (n, I, J, R) 0 0
    refine q_k 1 ?_
    show q_W L (d + 2) 68 q_m68 Q 45 [some (.ref 3), some (.ref id), some (.ref en), some (.int ov)] [.int ov, .int (g_pow (I en 1) (I 81 0)), .int (g_pow (I en 0) (I 81 0)), .int (g_pow (I en 1) (I id 0)), .ref 0, .ref (t + 1), .ref 4] (n, I, J, R) 0 0
    refine q_one rfl rfl ?_
    show (¬ ov = 0 → q_W L (d + 2) 68 q_m68 Q 52 [some (.ref 3), some (.ref id), some (.ref en), some (.int ov)] [.int (g_pow (I en 1) (I 81 0)), .int (g_pow (I en 0) (I 81 0)), .int (g_pow (I en 1) (I id 0)), .ref 0, .ref (t + 1), .ref 4] (n, I, J, R) 0 0) ∧ (ov = 0 → q_W L (d + 2) 68 q_m68 Q 48 [some (.ref 3), some (.ref id), some (.ref en), some (.int ov)] [.int (g_pow (I en 1) (I 81 0)), .int (g_pow (I en 0) (I 81 0)), .int (g_pow (I en 1) (I id 0)), .ref 0, .ref (t + 1), .ref 4] (n, I, J, R) 0 0)
    refine ⟨fun z => absurd (h45) z, fun _ => ?_⟩
    refine q_k 2 ?_
    show q_W L (d + 2) 68 q_m68 Q 60 [some (.ref 3), some (.ref id), some (.ref en), some (.int ov)] [.int (nI 0), .int (g_pow (I en 1) (I 81 0)), .int (g_pow (I en 0) (I 81 0)), .int (g_pow (I en 1) (I id 0)), .ref 0, .ref (t + 1), .ref 4] (n, I, J, R) 0 0
    refine q_cv (as := [.ref (t + 1), .ref 0, .int (g_pow (I en 1) (I id 0)), .int (g_pow (I en 0) (I 81 0)), .int (g_pow (I en 1) (I 81 0)), .int (nI 0)]) (rs := []) rfl rfl rfl (⟨Nat.lt_of_lt_of_le (by decide) hK.1, rfl⟩) rfl rfl ?_
    refine c_blend (hK) (hS.o1) (by omega) (by omega) (Or.inr (Or.inl ⟨rfl, rfl⟩)) (by decide) (fun I1 h1 f1 => ?_)
    show q_W L (d + 2) 68 q_m68 Q 63 [some (.ref 3), some (.ref id), some (.ref en), some (.int ov)] [] (n, I1, J, R) 0 0
    refine q_k 1 ?_
    show q_W L (d + 2) 68 q_m68 Q 64 [some (.ref 3), some (.ref id), some (.ref en), some (.int ov)] [.ref 3] (n, I1, J, R) 0 0
    refine q_gR (b := 4) rfl rfl (⟨Nat.lt_of_lt_of_le (by decide) hK.1, rfl⟩) (hK.2.1 3 0 4 rfl) ?_
    refine q_k 1 ?_
    show q_W L (d + 2) 68 q_m68 Q 68 [some (.ref 3), some (.ref id), some (.ref en), some (.int ov)] [.ref 3, .ref 4] (n, I1, J, R) 0 0
    refine q_gR (b := t) rfl rfl (⟨Nat.lt_of_lt_of_le (by decide) hK.1, rfl⟩) (ht) ?_
    refine q_gR (b := (t + 1)) rfl rfl (hS.ob) (hS.r1) ?_
    refine q_k 1 ?_
    show q_W L (d + 2) 68 q_m68 Q 75 [some (.ref 3), some (.ref id), some (.ref en), some (.int ov)] [.ref 3, .ref (t + 1), .ref 4] (n, I1, J, R) 0 0
    refine q_gR (b := t) rfl rfl (⟨Nat.lt_of_lt_of_le (by decide) hK.1, rfl⟩) (ht) ?_
    refine q_gR (b := (t + 1)) rfl rfl (hS.ob) (hS.r1) ?_
    refine q_k 1 ?_
    show q_W L (d + 2) 68 q_m68 Q 82 [some (.ref 3), some (.ref id), some (.ref en), some (.int ov)] [.ref id, .ref (t + 1), .ref (t + 1), .ref 4] (n, I1, J, R) 0 0
    refine q_gI rfl rfl (hid) ?_
    refine q_top (w := I id 1) (by rw [f1 id (by omega) (by omega) (by omega)]) ?_
    refine q_k 1 ?_
    show q_W L (d + 2) 68 q_m68 Q 86 [some (.ref 3), some (.ref id), some (.ref en), some (.int ov)] [.ref en, .int (I id 1), .ref (t + 1), .ref (t + 1), .ref 4] (n, I1, J, R) 0 0
    refine q_gI rfl rfl (hen) ?_
    refine q_top (w := I en 0) (by rw [f1 en (by omega) (by omega) (by omega)]) ?_
    refine q_k 2 ?_
    show q_W L (d + 2) 68 q_m68 Q 91 [some (.ref 3), some (.ref id), some (.ref en), some (.int ov)] [.int ov, .int (nI 4), .int (I en 0), .int (I id 1), .ref (t + 1), .ref (t + 1), .ref 4] (n, I1, J, R) 0 0
    refine q_cv (as := [.ref (t + 1), .ref (t + 1), .int (I id 1), .int (I en 0), .int (nI 4), .int ov]) (rs := []) rfl rfl rfl (⟨Nat.lt_of_lt_of_le (by decide) hK.1, rfl⟩) rfl rfl ?_
    refine c_blend (q_K0_to hK (f1 0 (by decide) (by decide) (by omega)) (f1 1 (by decide) (by decide) (by omega))) (hS.o1) (by omega) (by omega) (Or.inl hS.o1) (by omega) (fun I2 h2 f2 => ?_)
    show q_W L (d + 2) 68 q_m68 Q 94 [some (.ref 3), some (.ref id), some (.ref en), some (.int ov)] [] (n, I2, J, R) 0 0
    refine q_one rfl rfl ?_
    show Q (none) (n, I2, J, R)
    refine hQ I2 (fun i hi => ?_) (fun x h5 h6 hx => (f2 x h5 h6 hx).trans (f1 x h5 h6 hx))
    rw [h2 i hi, if_pos h45]
    exact g_agr_z hK h1 hi
  · skip
    show q_W L (d + 2) 68 q_m68 Q 0 [some (.ref 3), some (.ref id), some (.ref en), some (.int ov)] [] (n, I, J, R) 0 0
    refine q_k 1 ?_
    show q_W L (d + 2) 68 q_m68 Q 1 [some (.ref 3), some (.ref id), some (.ref en), some (.int ov)] [.ref 3] (n, I, J, R) 0 0
    refine q_gR (b := 4) rfl rfl (⟨Nat.lt_of_lt_of_le (by decide) hK.1, rfl⟩) (hK.2.1 3 0 4 rfl) ?_
    refine q_k 1 ?_
    show q_W L (d + 2) 68 q_m68 Q 5 [some (.ref 3), some (.ref id), some (.ref en), some (.int ov)] [.ref 3, .ref 4] (n, I, J, R) 0 0
    refine q_gR (b := t) rfl rfl (⟨Nat.lt_of_lt_of_le (by decide) hK.1, rfl⟩) (ht) ?_
    refine q_gR (b := (t + 1)) rfl rfl (hS.ob) (hS.r1) ?_
    refine q_k 3 ?_
    show q_W L (d + 2) 68 q_m68 Q 16 [some (.ref 3), some (.ref id), some (.ref en), some (.int ov)] [.ref en, .ref id, .ref 0, .ref (t + 1), .ref 4] (n, I, J, R) 0 0
    refine q_gI rfl rfl (hen) ?_
    refine q_cv (as := [.int (I en 1)]) (rs := [.ref 0, .ref (t + 1), .ref 4]) rfl rfl rfl (hid) rfl rfl ?_
    refine c_shared (hid) ?_
    show q_W L (d + 2) 68 q_m68 Q 22 [some (.ref 3), some (.ref id), some (.ref en), some (.int ov)] [.int (g_pow (I en 1) (I id 0)), .ref 0, .ref (t + 1), .ref 4] (n, I, J, R) 0 0
    refine q_k 1 ?_
    show q_W L (d + 2) 68 q_m68 Q 23 [some (.ref 3), some (.ref id), some (.ref en), some (.int ov)] [.ref 3, .int (g_pow (I en 1) (I id 0)), .ref 0, .ref (t + 1), .ref 4] (n, I, J, R) 0 0
    refine q_gR (b := 81) rfl rfl (⟨Nat.lt_of_lt_of_le (by decide) hK.1, rfl⟩) (hK.2.1 3 7 81 rfl) ?_
    refine q_k 1 ?_
    show q_W L (d + 2) 68 q_m68 Q 27 [some (.ref 3), some (.ref id), some (.ref en), some (.int ov)] [.ref en, .ref 81, .int (g_pow (I en 1) (I id 0)), .ref 0, .ref (t + 1), .ref 4] (n, I, J, R) 0 0
    refine q_gI rfl rfl (hen) ?_
    refine q_cv (as := [.int (I en 0)]) (rs := [.int (g_pow (I en 1) (I id 0)), .ref 0, .ref (t + 1), .ref 4]) rfl rfl rfl (⟨Nat.lt_of_lt_of_le (by decide) hK.1, rfl⟩) rfl rfl ?_
    refine c_shared (⟨Nat.lt_of_lt_of_le (by decide) hK.1, rfl⟩) ?_
    show q_W L (d + 2) 68 q_m68 Q 33 [some (.ref 3), some (.ref id), some (.ref en), some (.int ov)] [.int (g_pow (I en 0) (I 81 0)), .int (g_pow (I en 1) (I id 0)), .ref 0, .ref (t + 1), .ref 4] (n, I, J, R) 0 0
    refine q_k 1 ?_
    show q_W L (d + 2) 68 q_m68 Q 34 [some (.ref 3), some (.ref id), some (.ref en), some (.int ov)] [.ref 3, .int (g_pow (I en 0) (I 81 0)), .int (g_pow (I en 1) (I id 0)), .ref 0, .ref (t + 1), .ref 4] (n, I, J, R) 0 0
    refine q_gR (b := 81) rfl rfl (⟨Nat.lt_of_lt_of_le (by decide) hK.1, rfl⟩) (hK.2.1 3 7 81 rfl) ?_
    refine q_k 1 ?_
    show q_W L (d + 2) 68 q_m68 Q 38 [some (.ref 3), some (.ref id), some (.ref en), some (.int ov)] [.ref en, .ref 81, .int (g_pow (I en 0) (I 81 0)), .int (g_pow (I en 1) (I id 0)), .ref 0, .ref (t + 1), .ref 4] (n, I, J, R) 0 0
    refine q_gI rfl rfl (hen) ?_
    refine q_cv (as := [.int (I en 1)]) (rs := [.int (g_pow (I en 0) (I 81 0)), .int (g_pow (I en 1) (I id 0)), .ref 0, .ref (t + 1), .ref 4]) rfl rfl rfl (⟨Nat.lt_of_lt_of_le (by decide) hK.1, rfl⟩) rfl rfl ?_
    refine c_shared (⟨Nat.lt_of_lt_of_le (by decide) hK.1, rfl⟩) ?_
    show q_W L (d + 2) 68 q_m68 Q 44 [some (.ref 3), some (.ref id), some (.ref en), some (.int ov)] [.int (g_pow (I en 1) (I 81 0)), .int (g_pow (I en 0) (I 81 0)), .int (g_pow (I en 1) (I id 0)), .ref 0, .ref (t + 1), .ref 4] (n, I, J, R) 0 0
    refine q_k 1 ?_
    show q_W L (d + 2) 68 q_m68 Q 45 [some (.ref 3), some (.ref id), some (.ref en), some (.int ov)] [.int ov, .int (g_pow (I en 1) (I 81 0)), .int (g_pow (I en 0) (I 81 0)), .int (g_pow (I en 1) (I id 0)), .ref 0, .ref (t + 1), .ref 4] (n, I, J, R) 0 0
    refine q_one rfl rfl ?_
    show (¬ ov = 0 → q_W L (d + 2) 68 q_m68 Q 52 [some (.ref 3), some (.ref id), some (.ref en), some (.int ov)] [.int (g_pow (I en 1) (I 81 0)), .int (g_pow (I en 0) (I 81 0)), .int (g_pow (I en 1) (I id 0)), .ref 0, .ref (t + 1), .ref 4] (n, I, J, R) 0 0) ∧ (ov = 0 → q_W L (d + 2) 68 q_m68 Q 48 [some (.ref 3), some (.ref id), some (.ref en), some (.int ov)] [.int (g_pow (I en 1) (I 81 0)), .int (g_pow (I en 0) (I 81 0)), .int (g_pow (I en 1) (I id 0)), .ref 0, .ref (t + 1), .ref 4] (n, I, J, R) 0 0)
    refine ⟨fun _ => ?_, fun z => absurd z (h45)⟩
    refine q_k 1 ?_
    show q_W L (d + 2) 68 q_m68 Q 53 [some (.ref 3), some (.ref id), some (.ref en), some (.int ov)] [.ref 3, .int (g_pow (I en 1) (I 81 0)), .int (g_pow (I en 0) (I 81 0)), .int (g_pow (I en 1) (I id 0)), .ref 0, .ref (t + 1), .ref 4] (n, I, J, R) 0 0
    refine q_gR (b := 81) rfl rfl (⟨Nat.lt_of_lt_of_le (by decide) hK.1, rfl⟩) (hK.2.1 3 7 81 rfl) ?_
    refine q_k 1 ?_
    show q_W L (d + 2) 68 q_m68 Q 57 [some (.ref 3), some (.ref id), some (.ref en), some (.int ov)] [.int ov, .ref 81, .int (g_pow (I en 1) (I 81 0)), .int (g_pow (I en 0) (I 81 0)), .int (g_pow (I en 1) (I id 0)), .ref 0, .ref (t + 1), .ref 4] (n, I, J, R) 0 0
    refine q_cv (as := [.int ov]) (rs := [.int (g_pow (I en 1) (I 81 0)), .int (g_pow (I en 0) (I 81 0)), .int (g_pow (I en 1) (I id 0)), .ref 0, .ref (t + 1), .ref 4]) rfl rfl rfl (⟨Nat.lt_of_lt_of_le (by decide) hK.1, rfl⟩) rfl rfl ?_
    refine c_shared (⟨Nat.lt_of_lt_of_le (by decide) hK.1, rfl⟩) ?_
    show q_W L (d + 2) 68 q_m68 Q 60 [some (.ref 3), some (.ref id), some (.ref en), some (.int ov)] [.int (g_pow ov (I 81 0)), .int (g_pow (I en 1) (I 81 0)), .int (g_pow (I en 0) (I 81 0)), .int (g_pow (I en 1) (I id 0)), .ref 0, .ref (t + 1), .ref 4] (n, I, J, R) 0 0
    refine q_cv (as := [.ref (t + 1), .ref 0, .int (g_pow (I en 1) (I id 0)), .int (g_pow (I en 0) (I 81 0)), .int (g_pow (I en 1) (I 81 0)), .int (g_pow ov (I 81 0))]) (rs := []) rfl rfl rfl (⟨Nat.lt_of_lt_of_le (by decide) hK.1, rfl⟩) rfl rfl ?_
    refine c_blend (hK) (hS.o1) (by omega) (by omega) (Or.inr (Or.inl ⟨rfl, rfl⟩)) (by decide) (fun I1 h1 f1 => ?_)
    show q_W L (d + 2) 68 q_m68 Q 63 [some (.ref 3), some (.ref id), some (.ref en), some (.int ov)] [] (n, I1, J, R) 0 0
    refine q_k 1 ?_
    show q_W L (d + 2) 68 q_m68 Q 64 [some (.ref 3), some (.ref id), some (.ref en), some (.int ov)] [.ref 3] (n, I1, J, R) 0 0
    refine q_gR (b := 4) rfl rfl (⟨Nat.lt_of_lt_of_le (by decide) hK.1, rfl⟩) (hK.2.1 3 0 4 rfl) ?_
    refine q_k 1 ?_
    show q_W L (d + 2) 68 q_m68 Q 68 [some (.ref 3), some (.ref id), some (.ref en), some (.int ov)] [.ref 3, .ref 4] (n, I1, J, R) 0 0
    refine q_gR (b := t) rfl rfl (⟨Nat.lt_of_lt_of_le (by decide) hK.1, rfl⟩) (ht) ?_
    refine q_gR (b := (t + 1)) rfl rfl (hS.ob) (hS.r1) ?_
    refine q_k 1 ?_
    show q_W L (d + 2) 68 q_m68 Q 75 [some (.ref 3), some (.ref id), some (.ref en), some (.int ov)] [.ref 3, .ref (t + 1), .ref 4] (n, I1, J, R) 0 0
    refine q_gR (b := t) rfl rfl (⟨Nat.lt_of_lt_of_le (by decide) hK.1, rfl⟩) (ht) ?_
    refine q_gR (b := (t + 1)) rfl rfl (hS.ob) (hS.r1) ?_
    refine q_k 1 ?_
    show q_W L (d + 2) 68 q_m68 Q 82 [some (.ref 3), some (.ref id), some (.ref en), some (.int ov)] [.ref id, .ref (t + 1), .ref (t + 1), .ref 4] (n, I1, J, R) 0 0
    refine q_gI rfl rfl (hid) ?_
    refine q_top (w := I id 1) (by rw [f1 id (by omega) (by omega) (by omega)]) ?_
    refine q_k 1 ?_
    show q_W L (d + 2) 68 q_m68 Q 86 [some (.ref 3), some (.ref id), some (.ref en), some (.int ov)] [.ref en, .int (I id 1), .ref (t + 1), .ref (t + 1), .ref 4] (n, I1, J, R) 0 0
    refine q_gI rfl rfl (hen) ?_
    refine q_top (w := I en 0) (by rw [f1 en (by omega) (by omega) (by omega)]) ?_
    refine q_k 2 ?_
    show q_W L (d + 2) 68 q_m68 Q 91 [some (.ref 3), some (.ref id), some (.ref en), some (.int ov)] [.int ov, .int (nI 4), .int (I en 0), .int (I id 1), .ref (t + 1), .ref (t + 1), .ref 4] (n, I1, J, R) 0 0
    refine q_cv (as := [.ref (t + 1), .ref (t + 1), .int (I id 1), .int (I en 0), .int (nI 4), .int ov]) (rs := []) rfl rfl rfl (⟨Nat.lt_of_lt_of_le (by decide) hK.1, rfl⟩) rfl rfl ?_
    refine c_blend (q_K0_to hK (f1 0 (by decide) (by decide) (by omega)) (f1 1 (by decide) (by decide) (by omega))) (hS.o1) (by omega) (by omega) (Or.inl hS.o1) (by omega) (fun I2 h2 f2 => ?_)
    show q_W L (d + 2) 68 q_m68 Q 94 [some (.ref 3), some (.ref id), some (.ref en), some (.int ov)] [] (n, I2, J, R) 0 0
    refine q_one rfl rfl ?_
    show Q (none) (n, I2, J, R)
    refine hQ I2 (fun i hi => ?_) (fun x h5 h6 hx => (f2 x h5 h6 hx).trans (f1 x h5 h6 hx))
    rw [h2 i hi, if_neg h45]
    exact g_agr_z hK h1 hi
