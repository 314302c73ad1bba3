theorem q_Se.far {n : Nat} {R : q_R} {t o : Nat} (h : q_Se n R t) (g : q_Se n R o) (hd : t ≠ o) : t + 10 ≤ o ∨ o + 10 ≤ t := by
  rcases h.lo with e | ⟨j, e⟩ <;> rcases g.lo with e2 | ⟨j2, e2⟩ <;> omega
theorem q_Se.ge {n : Nat} {R : q_R} {t : Nat} (h : q_Se n R t) : 71 ≤ t ∧ (t = 71 ∨ 214 ≤ t) := by
  rcases h.lo with e | ⟨j, e⟩ <;> omega
theorem c_clear {L d n : Nat} {I : q_I} {J : q_L} {R : q_R} {Q : q_Q} {t : Nat} (hS : q_Se n R t) (hQ : ∀ I', (∀ k, (k = 0 ∨ k = 3 ∨ (6 ≤ k ∧ k ≤ 9) ∨ (11 ≤ k ∧ k ≤ 14)) → I' t k = nI 0) → I' (t + 5) 0 = nI 0 → (∀ x, x ≠ t → x ≠ t + 5 → I' x = I x) → Q none (n, I', J, R)) : q_Ex L (d + 1) 31 [.ref t] (n, I, J, R) Q := by
  refine q_in (x := q_m31) rfl rfl ?_
  show q_W L d 31 q_m31 Q 0 [some (.ref t)] [] (n, I, J, R) 0 0
  refine q_k 2 ?_
  show q_W L d 31 q_m31 Q 2 [some (.ref t)] [.int (nI 0), .ref t] (n, I, J, R) 0 0
  refine q_pI rfl rfl rfl (hS.ob) ?_
  refine q_k 2 ?_
  show q_W L d 31 q_m31 Q 7 [some (.ref t)] [.int (nI 0), .ref t] (n, q_up I t 0 (nI 0), J, R) 0 0
  refine q_pI rfl rfl rfl (hS.ob) ?_
  refine q_k 2 ?_
  show q_W L d 31 q_m31 Q 12 [some (.ref t)] [.int (nI 0), .ref t] (n, q_up (q_up I t 0 (nI 0)) t 3 (nI 0), J, R) 0 0
  refine q_pZ rfl rfl rfl (hS.ob) (Or.inl rfl) ?_
  refine q_k 2 ?_
  show q_W L d 31 q_m31 Q 17 [some (.ref t)] [.int (nI 0), .ref t] (n, q_up (q_up (q_up I t 0 (nI 0)) t 3 (nI 0)) t 6 (nI 0), J, R) 0 0
  refine q_pI rfl rfl rfl (hS.ob) ?_
  refine q_k 2 ?_
  show q_W L d 31 q_m31 Q 22 [some (.ref t)] [.int (nI 0), .ref t] (n, q_up (q_up (q_up (q_up I t 0 (nI 0)) t 3 (nI 0)) t 6 (nI 0)) t 7 (nI 0), J, R) 0 0
  refine q_pI rfl rfl rfl (hS.ob) ?_
  refine q_k 2 ?_
  show q_W L d 31 q_m31 Q 27 [some (.ref t)] [.int (nI 0), .ref t] (n, q_up (q_up (q_up (q_up (q_up I t 0 (nI 0)) t 3 (nI 0)) t 6 (nI 0)) t 7 (nI 0)) t 8 (nI 0), J, R) 0 0
  refine q_pI rfl rfl rfl (hS.ob) ?_
  refine q_k 1 ?_
  show q_W L d 31 q_m31 Q 31 [some (.ref t)] [.ref t] (n, q_up (q_up (q_up (q_up (q_up (q_up I t 0 (nI 0)) t 3 (nI 0)) t 6 (nI 0)) t 7 (nI 0)) t 8 (nI 0)) t 9 (nI 0), J, R) 0 0
  refine q_gR (b := (t + 5)) rfl rfl (hS.ob) (hS.r10) ?_
  refine q_k 1 ?_
  show q_W L d 31 q_m31 Q 35 [some (.ref t)] [.int (nI 0), .ref (t + 5)] (n, q_up (q_up (q_up (q_up (q_up (q_up I t 0 (nI 0)) t 3 (nI 0)) t 6 (nI 0)) t 7 (nI 0)) t 8 (nI 0)) t 9 (nI 0), J, R) 0 0
  refine q_pI rfl rfl rfl (hS.o5) ?_
  refine q_k 2 ?_
  show q_W L d 31 q_m31 Q 40 [some (.ref t)] [.int (nI 0), .ref t] (n, q_up (q_up (q_up (q_up (q_up (q_up (q_up I t 0 (nI 0)) t 3 (nI 0)) t 6 (nI 0)) t 7 (nI 0)) t 8 (nI 0)) t 9 (nI 0)) (t + 5) 0 (nI 0), J, R) 0 0
  refine q_pZ rfl rfl rfl (hS.ob) (Or.inl rfl) ?_
  refine q_k 2 ?_
  show q_W L d 31 q_m31 Q 45 [some (.ref t)] [.int (nI 0), .ref t] (n, q_up (q_up (q_up (q_up (q_up (q_up (q_up (q_up I t 0 (nI 0)) t 3 (nI 0)) t 6 (nI 0)) t 7 (nI 0)) t 8 (nI 0)) t 9 (nI 0)) (t + 5) 0 (nI 0)) t 11 (nI 0), J, R) 0 0
  refine q_pZ rfl rfl rfl (hS.ob) (Or.inl rfl) ?_
  refine q_k 2 ?_
  show q_W L d 31 q_m31 Q 50 [some (.ref t)] [.int (nI 0), .ref t] (n, q_up (q_up (q_up (q_up (q_up (q_up (q_up (q_up (q_up I t 0 (nI 0)) t 3 (nI 0)) t 6 (nI 0)) t 7 (nI 0)) t 8 (nI 0)) t 9 (nI 0)) (t + 5) 0 (nI 0)) t 11 (nI 0)) t 12 (nI 0), J, R) 0 0
  refine q_pI rfl rfl rfl (hS.ob) ?_
  refine q_k 2 ?_
  show q_W L d 31 q_m31 Q 55 [some (.ref t)] [.int (nI 0), .ref t] (n, q_up (q_up (q_up (q_up (q_up (q_up (q_up (q_up (q_up (q_up I t 0 (nI 0)) t 3 (nI 0)) t 6 (nI 0)) t 7 (nI 0)) t 8 (nI 0)) t 9 (nI 0)) (t + 5) 0 (nI 0)) t 11 (nI 0)) t 12 (nI 0)) t 13 (nI 0), J, R) 0 0
  refine q_pI rfl rfl rfl (hS.ob) ?_
  obtain ⟨I1, eI1⟩ : ∃ zz9, zz9 = q_up (q_up (q_up (q_up (q_up (q_up (q_up (q_up (q_up (q_up (q_up I t 0 (nI 0)) t 3 (nI 0)) t 6 (nI 0)) t 7 (nI 0)) t 8 (nI 0)) t 9 (nI 0)) (t + 5) 0 (nI 0)) t 11 (nI 0)) t 12 (nI 0)) t 13 (nI 0)) t 14 (nI 0) := ⟨_, rfl⟩
  rw [← eI1]
  refine q_one rfl rfl ?_
  show Q (none) (n, I1, J, R)
  refine hQ I1 (fun k hk => ?_) ?_ (fun x h0 h5 => ?_)
  · have h10 : k = 0 ∨ k = 3 ∨ k = 6 ∨ k = 7 ∨ k = 8 ∨ k = 9 ∨ k = 11 ∨ k = 12 ∨ k = 13 ∨ k = 14 := by omega
    rw [eI1]
    rcases h10 with rfl | rfl | rfl | rfl | rfl | rfl | rfl | rfl | rfl | rfl
    all_goals simp (disch := omega) only [q_un, q_usk, q_usn]
  · rw [eI1]; simp (disch := omega) only [q_un, q_usk, q_usn]
  · rw [eI1]; rw [q_un h0, q_un h0, q_un h0, q_un h0, q_un h5, q_un h0, q_un h0, q_un h0, q_un h0, q_un h0, q_un h0]
set_option maxHeartbeats 2000000 in
theorem c_become {L d n : Nat} {I : q_I} {J : q_L} {R : q_R} {Q : q_Q} {t o c : Nat} {r : Nat → Int32} (hS : q_Se n R t) (hO : q_Se n R o) (hto : t ≠ o) (h : s_R I o r) (hs : s_S I o r) (hc : r 9 = nI c) (hc28 : c ≤ 28) (hQ : ∀ I', s_R I' t r → s_S I' t r → (∀ x, (x < t ∨ t + 10 ≤ x) → I' x = I x) → Q none (n, I', J, R)) : q_Ex L (d + 2) 32 [.ref t, .ref o] (n, I, J, R) Q := by
  refine q_in (x := q_m32) rfl rfl ?_
  show q_W L (d + 1) 32 q_m32 Q 0 [some (.ref t), some (.ref o)] [] (n, I, J, R) 0 0
  have hfar := hS.far hO hto
  refine q_k 2 ?_
  show q_W L (d + 1) 32 q_m32 Q 2 [some (.ref t), some (.ref o)] [.ref o, .ref t] (n, I, J, R) 0 0
  refine q_gI rfl rfl (hO.ob) ?_
  refine q_pI rfl rfl rfl (hS.ob) ?_
  refine q_k 1 ?_
  show q_W L (d + 1) 32 q_m32 Q 9 [some (.ref t), some (.ref o)] [.ref o] (n, q_up I t 0 (I o 0), J, R) 0 0
  refine q_gR (b := (o + 1)) rfl rfl (hO.ob) (hO.r1) ?_
  refine q_k 2 ?_
  show q_W L (d + 1) 32 q_m32 Q 14 [some (.ref t), some (.ref o)] [.ref t, .int (nI 0), .ref (o + 1)] (n, q_up I t 0 (I o 0), J, R) 0 0
  refine q_gR (b := (t + 1)) rfl rfl (hS.ob) (hS.r1) ?_
  refine q_k 2 ?_
  show q_W L (d + 1) 32 q_m32 Q 20 [some (.ref t), some (.ref o)] [.int (nI 8), .int (nI 0), .ref (t + 1), .int (nI 0), .ref (o + 1)] (n, q_up I t 0 (I o 0), J, R) 0 0
  refine q_ac (sp := 0) (dp := 0) (c := 8) rfl rfl rfl (Or.inl hO.o1) (hS.o1) (by decide) (by decide) ⟨rfl, rfl⟩ ?_
  refine q_k 1 ?_
  show q_W L (d + 1) 32 q_m32 Q 24 [some (.ref t), some (.ref o)] [.ref t] (n, va_up (q_up I t 0 (I o 0)) (t + 1) (va_cpy ((q_up I t 0 (I o 0)) (o + 1)) ((q_up I t 0 (I o 0)) (t + 1)) 0 0 8), J, R) 0 0
  refine q_gR (b := (t + 2)) rfl rfl (hS.ob) (hS.r2) ?_
  refine q_k 1 ?_
  show q_W L (d + 1) 32 q_m32 Q 28 [some (.ref t), some (.ref o)] [.ref o, .ref (t + 2)] (n, va_up (q_up I t 0 (I o 0)) (t + 1) (va_cpy ((q_up I t 0 (I o 0)) (o + 1)) ((q_up I t 0 (I o 0)) (t + 1)) 0 0 8), J, R) 0 0
  refine q_gR (b := (o + 2)) rfl rfl (hO.ob) (hO.r2) ?_
  refine q_cv (as := [.ref (o + 2)]) (rs := []) rfl rfl rfl (hS.o2) rfl rfl ?_
  refine c_Pair_become hS.o2 hO.o2 ?_
  obtain ⟨I0, eI0⟩ : ∃ zz9, zz9 = q_up (q_up (va_up (q_up I t 0 (I o 0)) (t + 1) (va_cpy ((q_up I t 0 (I o 0)) (o + 1)) ((q_up I t 0 (I o 0)) (t + 1)) 0 0 8)) (t + 2) 0 ((va_up (q_up I t 0 (I o 0)) (t + 1) (va_cpy ((q_up I t 0 (I o 0)) (o + 1)) ((q_up I t 0 (I o 0)) (t + 1)) 0 0 8)) (o + 2) 0)) (t + 2) 1 (q_up (va_up (q_up I t 0 (I o 0)) (t + 1) (va_cpy ((q_up I t 0 (I o 0)) (o + 1)) ((q_up I t 0 (I o 0)) (t + 1)) 0 0 8)) (t + 2) 0 ((va_up (q_up I t 0 (I o 0)) (t + 1) (va_cpy ((q_up I t 0 (I o 0)) (o + 1)) ((q_up I t 0 (I o 0)) (t + 1)) 0 0 8)) (o + 2) 0) (o + 2) 1) := ⟨_, rfl⟩
  rw [← eI0]
  show q_W L (d + 1) 32 q_m32 Q 34 [some (.ref t), some (.ref o)] [] (n, I0, J, R) 0 0
  refine q_k 2 ?_
  show q_W L (d + 1) 32 q_m32 Q 36 [some (.ref t), some (.ref o)] [.ref o, .ref t] (n, I0, J, R) 0 0
  refine q_gI rfl rfl (hO.ob) ?_
  refine q_pI rfl rfl rfl (hS.ob) ?_
  refine q_k 1 ?_
  show q_W L (d + 1) 32 q_m32 Q 43 [some (.ref t), some (.ref o)] [.ref o] (n, q_up I0 t 3 (I0 o 3), J, R) 0 0
  refine q_gR (b := (o + 3)) rfl rfl (hO.ob) (hO.r4) ?_
  refine q_k 2 ?_
  show q_W L (d + 1) 32 q_m32 Q 48 [some (.ref t), some (.ref o)] [.ref t, .int (nI 0), .ref (o + 3)] (n, q_up I0 t 3 (I0 o 3), J, R) 0 0
  refine q_gR (b := (t + 3)) rfl rfl (hS.ob) (hS.r4) ?_
  refine q_k 2 ?_
  show q_W L (d + 1) 32 q_m32 Q 54 [some (.ref t), some (.ref o)] [.int (nI 8), .int (nI 0), .ref (t + 3), .int (nI 0), .ref (o + 3)] (n, q_up I0 t 3 (I0 o 3), J, R) 0 0
  refine q_ac (sp := 0) (dp := 0) (c := 8) rfl rfl rfl (Or.inl hO.o3) (hS.o3) (by decide) (by decide) ⟨rfl, rfl⟩ ?_
  refine q_k 1 ?_
  show q_W L (d + 1) 32 q_m32 Q 58 [some (.ref t), some (.ref o)] [.ref o] (n, va_up (q_up I0 t 3 (I0 o 3)) (t + 3) (va_cpy ((q_up I0 t 3 (I0 o 3)) (o + 3)) ((q_up I0 t 3 (I0 o 3)) (t + 3)) 0 0 8), J, R) 0 0
  refine q_gR (b := (o + 4)) rfl rfl (hO.ob) (hO.r5) ?_
  refine q_k 2 ?_
  show q_W L (d + 1) 32 q_m32 Q 63 [some (.ref t), some (.ref o)] [.ref t, .int (nI 0), .ref (o + 4)] (n, va_up (q_up I0 t 3 (I0 o 3)) (t + 3) (va_cpy ((q_up I0 t 3 (I0 o 3)) (o + 3)) ((q_up I0 t 3 (I0 o 3)) (t + 3)) 0 0 8), J, R) 0 0
  refine q_gR (b := (t + 4)) rfl rfl (hS.ob) (hS.r5) ?_
  refine q_k 2 ?_
  show q_W L (d + 1) 32 q_m32 Q 69 [some (.ref t), some (.ref o)] [.int (nI 8), .int (nI 0), .ref (t + 4), .int (nI 0), .ref (o + 4)] (n, va_up (q_up I0 t 3 (I0 o 3)) (t + 3) (va_cpy ((q_up I0 t 3 (I0 o 3)) (o + 3)) ((q_up I0 t 3 (I0 o 3)) (t + 3)) 0 0 8), J, R) 0 0
  refine q_ac (sp := 0) (dp := 0) (c := 8) rfl rfl rfl (Or.inl hO.o4) (hS.o4) (by decide) (by decide) ⟨rfl, rfl⟩ ?_
  refine q_k 2 ?_
  show q_W L (d + 1) 32 q_m32 Q 74 [some (.ref t), some (.ref o)] [.ref o, .ref t] (n, va_up (va_up (q_up I0 t 3 (I0 o 3)) (t + 3) (va_cpy ((q_up I0 t 3 (I0 o 3)) (o + 3)) ((q_up I0 t 3 (I0 o 3)) (t + 3)) 0 0 8)) (t + 4) (va_cpy ((va_up (q_up I0 t 3 (I0 o 3)) (t + 3) (va_cpy ((q_up I0 t 3 (I0 o 3)) (o + 3)) ((q_up I0 t 3 (I0 o 3)) (t + 3)) 0 0 8)) (o + 4)) ((va_up (q_up I0 t 3 (I0 o 3)) (t + 3) (va_cpy ((q_up I0 t 3 (I0 o 3)) (o + 3)) ((q_up I0 t 3 (I0 o 3)) (t + 3)) 0 0 8)) (t + 4)) 0 0 8), J, R) 0 0
  refine q_gZ rfl rfl (hO.ob) ?_
  refine q_pZ rfl rfl rfl (hS.ob) (by simp (disch := omega) only [q_un, q_usk, q_usn, va_up_self, va_up_ne]; rw [eI0]; simp (disch := omega) only [q_un, q_usk, q_usn, va_up_self, va_up_ne]; rw [h.f6]; exact h.z6) ?_
  refine q_k 2 ?_
  show q_W L (d + 1) 32 q_m32 Q 82 [some (.ref t), some (.ref o)] [.ref o, .ref t] (n, q_up (va_up (va_up (q_up I0 t 3 (I0 o 3)) (t + 3) (va_cpy ((q_up I0 t 3 (I0 o 3)) (o + 3)) ((q_up I0 t 3 (I0 o 3)) (t + 3)) 0 0 8)) (t + 4) (va_cpy ((va_up (q_up I0 t 3 (I0 o 3)) (t + 3) (va_cpy ((q_up I0 t 3 (I0 o 3)) (o + 3)) ((q_up I0 t 3 (I0 o 3)) (t + 3)) 0 0 8)) (o + 4)) ((va_up (q_up I0 t 3 (I0 o 3)) (t + 3) (va_cpy ((q_up I0 t 3 (I0 o 3)) (o + 3)) ((q_up I0 t 3 (I0 o 3)) (t + 3)) 0 0 8)) (t + 4)) 0 0 8)) t 6 ((va_up (va_up (q_up I0 t 3 (I0 o 3)) (t + 3) (va_cpy ((q_up I0 t 3 (I0 o 3)) (o + 3)) ((q_up I0 t 3 (I0 o 3)) (t + 3)) 0 0 8)) (t + 4) (va_cpy ((va_up (q_up I0 t 3 (I0 o 3)) (t + 3) (va_cpy ((q_up I0 t 3 (I0 o 3)) (o + 3)) ((q_up I0 t 3 (I0 o 3)) (t + 3)) 0 0 8)) (o + 4)) ((va_up (q_up I0 t 3 (I0 o 3)) (t + 3) (va_cpy ((q_up I0 t 3 (I0 o 3)) (o + 3)) ((q_up I0 t 3 (I0 o 3)) (t + 3)) 0 0 8)) (t + 4)) 0 0 8)) o 6), J, R) 0 0
  refine q_gI rfl rfl (hO.ob) ?_
  refine q_pI rfl rfl rfl (hS.ob) ?_
  refine q_k 2 ?_
  show q_W L (d + 1) 32 q_m32 Q 90 [some (.ref t), some (.ref o)] [.ref o, .ref t] (n, q_up (q_up (va_up (va_up (q_up I0 t 3 (I0 o 3)) (t + 3) (va_cpy ((q_up I0 t 3 (I0 o 3)) (o + 3)) ((q_up I0 t 3 (I0 o 3)) (t + 3)) 0 0 8)) (t + 4) (va_cpy ((va_up (q_up I0 t 3 (I0 o 3)) (t + 3) (va_cpy ((q_up I0 t 3 (I0 o 3)) (o + 3)) ((q_up I0 t 3 (I0 o 3)) (t + 3)) 0 0 8)) (o + 4)) ((va_up (q_up I0 t 3 (I0 o 3)) (t + 3) (va_cpy ((q_up I0 t 3 (I0 o 3)) (o + 3)) ((q_up I0 t 3 (I0 o 3)) (t + 3)) 0 0 8)) (t + 4)) 0 0 8)) t 6 ((va_up (va_up (q_up I0 t 3 (I0 o 3)) (t + 3) (va_cpy ((q_up I0 t 3 (I0 o 3)) (o + 3)) ((q_up I0 t 3 (I0 o 3)) (t + 3)) 0 0 8)) (t + 4) (va_cpy ((va_up (q_up I0 t 3 (I0 o 3)) (t + 3) (va_cpy ((q_up I0 t 3 (I0 o 3)) (o + 3)) ((q_up I0 t 3 (I0 o 3)) (t + 3)) 0 0 8)) (o + 4)) ((va_up (q_up I0 t 3 (I0 o 3)) (t + 3) (va_cpy ((q_up I0 t 3 (I0 o 3)) (o + 3)) ((q_up I0 t 3 (I0 o 3)) (t + 3)) 0 0 8)) (t + 4)) 0 0 8)) o 6)) t 7 ((q_up (va_up (va_up (q_up I0 t 3 (I0 o 3)) (t + 3) (va_cpy ((q_up I0 t 3 (I0 o 3)) (o + 3)) ((q_up I0 t 3 (I0 o 3)) (t + 3)) 0 0 8)) (t + 4) (va_cpy ((va_up (q_up I0 t 3 (I0 o 3)) (t + 3) (va_cpy ((q_up I0 t 3 (I0 o 3)) (o + 3)) ((q_up I0 t 3 (I0 o 3)) (t + 3)) 0 0 8)) (o + 4)) ((va_up (q_up I0 t 3 (I0 o 3)) (t + 3) (va_cpy ((q_up I0 t 3 (I0 o 3)) (o + 3)) ((q_up I0 t 3 (I0 o 3)) (t + 3)) 0 0 8)) (t + 4)) 0 0 8)) t 6 ((va_up (va_up (q_up I0 t 3 (I0 o 3)) (t + 3) (va_cpy ((q_up I0 t 3 (I0 o 3)) (o + 3)) ((q_up I0 t 3 (I0 o 3)) (t + 3)) 0 0 8)) (t + 4) (va_cpy ((va_up (q_up I0 t 3 (I0 o 3)) (t + 3) (va_cpy ((q_up I0 t 3 (I0 o 3)) (o + 3)) ((q_up I0 t 3 (I0 o 3)) (t + 3)) 0 0 8)) (o + 4)) ((va_up (q_up I0 t 3 (I0 o 3)) (t + 3) (va_cpy ((q_up I0 t 3 (I0 o 3)) (o + 3)) ((q_up I0 t 3 (I0 o 3)) (t + 3)) 0 0 8)) (t + 4)) 0 0 8)) o 6)) o 7), J, R) 0 0
  refine q_gI rfl rfl (hO.ob) ?_
  refine q_pI rfl rfl rfl (hS.ob) ?_
  refine q_k 2 ?_
  show q_W L (d + 1) 32 q_m32 Q 98 [some (.ref t), some (.ref o)] [.ref o, .ref t] (n, q_up (q_up (q_up (va_up (va_up (q_up I0 t 3 (I0 o 3)) (t + 3) (va_cpy ((q_up I0 t 3 (I0 o 3)) (o + 3)) ((q_up I0 t 3 (I0 o 3)) (t + 3)) 0 0 8)) (t + 4) (va_cpy ((va_up (q_up I0 t 3 (I0 o 3)) (t + 3) (va_cpy ((q_up I0 t 3 (I0 o 3)) (o + 3)) ((q_up I0 t 3 (I0 o 3)) (t + 3)) 0 0 8)) (o + 4)) ((va_up (q_up I0 t 3 (I0 o 3)) (t + 3) (va_cpy ((q_up I0 t 3 (I0 o 3)) (o + 3)) ((q_up I0 t 3 (I0 o 3)) (t + 3)) 0 0 8)) (t + 4)) 0 0 8)) t 6 ((va_up (va_up (q_up I0 t 3 (I0 o 3)) (t + 3) (va_cpy ((q_up I0 t 3 (I0 o 3)) (o + 3)) ((q_up I0 t 3 (I0 o 3)) (t + 3)) 0 0 8)) (t + 4) (va_cpy ((va_up (q_up I0 t 3 (I0 o 3)) (t + 3) (va_cpy ((q_up I0 t 3 (I0 o 3)) (o + 3)) ((q_up I0 t 3 (I0 o 3)) (t + 3)) 0 0 8)) (o + 4)) ((va_up (q_up I0 t 3 (I0 o 3)) (t + 3) (va_cpy ((q_up I0 t 3 (I0 o 3)) (o + 3)) ((q_up I0 t 3 (I0 o 3)) (t + 3)) 0 0 8)) (t + 4)) 0 0 8)) o 6)) t 7 ((q_up (va_up (va_up (q_up I0 t 3 (I0 o 3)) (t + 3) (va_cpy ((q_up I0 t 3 (I0 o 3)) (o + 3)) ((q_up I0 t 3 (I0 o 3)) (t + 3)) 0 0 8)) (t + 4) (va_cpy ((va_up (q_up I0 t 3 (I0 o 3)) (t + 3) (va_cpy ((q_up I0 t 3 (I0 o 3)) (o + 3)) ((q_up I0 t 3 (I0 o 3)) (t + 3)) 0 0 8)) (o + 4)) ((va_up (q_up I0 t 3 (I0 o 3)) (t + 3) (va_cpy ((q_up I0 t 3 (I0 o 3)) (o + 3)) ((q_up I0 t 3 (I0 o 3)) (t + 3)) 0 0 8)) (t + 4)) 0 0 8)) t 6 ((va_up (va_up (q_up I0 t 3 (I0 o 3)) (t + 3) (va_cpy ((q_up I0 t 3 (I0 o 3)) (o + 3)) ((q_up I0 t 3 (I0 o 3)) (t + 3)) 0 0 8)) (t + 4) (va_cpy ((va_up (q_up I0 t 3 (I0 o 3)) (t + 3) (va_cpy ((q_up I0 t 3 (I0 o 3)) (o + 3)) ((q_up I0 t 3 (I0 o 3)) (t + 3)) 0 0 8)) (o + 4)) ((va_up (q_up I0 t 3 (I0 o 3)) (t + 3) (va_cpy ((q_up I0 t 3 (I0 o 3)) (o + 3)) ((q_up I0 t 3 (I0 o 3)) (t + 3)) 0 0 8)) (t + 4)) 0 0 8)) o 6)) o 7)) t 8 ((q_up (q_up (va_up (va_up (q_up I0 t 3 (I0 o 3)) (t + 3) (va_cpy ((q_up I0 t 3 (I0 o 3)) (o + 3)) ((q_up I0 t 3 (I0 o 3)) (t + 3)) 0 0 8)) (t + 4) (va_cpy ((va_up (q_up I0 t 3 (I0 o 3)) (t + 3) (va_cpy ((q_up I0 t 3 (I0 o 3)) (o + 3)) ((q_up I0 t 3 (I0 o 3)) (t + 3)) 0 0 8)) (o + 4)) ((va_up (q_up I0 t 3 (I0 o 3)) (t + 3) (va_cpy ((q_up I0 t 3 (I0 o 3)) (o + 3)) ((q_up I0 t 3 (I0 o 3)) (t + 3)) 0 0 8)) (t + 4)) 0 0 8)) t 6 ((va_up (va_up (q_up I0 t 3 (I0 o 3)) (t + 3) (va_cpy ((q_up I0 t 3 (I0 o 3)) (o + 3)) ((q_up I0 t 3 (I0 o 3)) (t + 3)) 0 0 8)) (t + 4) (va_cpy ((va_up (q_up I0 t 3 (I0 o 3)) (t + 3) (va_cpy ((q_up I0 t 3 (I0 o 3)) (o + 3)) ((q_up I0 t 3 (I0 o 3)) (t + 3)) 0 0 8)) (o + 4)) ((va_up (q_up I0 t 3 (I0 o 3)) (t + 3) (va_cpy ((q_up I0 t 3 (I0 o 3)) (o + 3)) ((q_up I0 t 3 (I0 o 3)) (t + 3)) 0 0 8)) (t + 4)) 0 0 8)) o 6)) t 7 ((q_up (va_up (va_up (q_up I0 t 3 (I0 o 3)) (t + 3) (va_cpy ((q_up I0 t 3 (I0 o 3)) (o + 3)) ((q_up I0 t 3 (I0 o 3)) (t + 3)) 0 0 8)) (t + 4) (va_cpy ((va_up (q_up I0 t 3 (I0 o 3)) (t + 3) (va_cpy ((q_up I0 t 3 (I0 o 3)) (o + 3)) ((q_up I0 t 3 (I0 o 3)) (t + 3)) 0 0 8)) (o + 4)) ((va_up (q_up I0 t 3 (I0 o 3)) (t + 3) (va_cpy ((q_up I0 t 3 (I0 o 3)) (o + 3)) ((q_up I0 t 3 (I0 o 3)) (t + 3)) 0 0 8)) (t + 4)) 0 0 8)) t 6 ((va_up (va_up (q_up I0 t 3 (I0 o 3)) (t + 3) (va_cpy ((q_up I0 t 3 (I0 o 3)) (o + 3)) ((q_up I0 t 3 (I0 o 3)) (t + 3)) 0 0 8)) (t + 4) (va_cpy ((va_up (q_up I0 t 3 (I0 o 3)) (t + 3) (va_cpy ((q_up I0 t 3 (I0 o 3)) (o + 3)) ((q_up I0 t 3 (I0 o 3)) (t + 3)) 0 0 8)) (o + 4)) ((va_up (q_up I0 t 3 (I0 o 3)) (t + 3) (va_cpy ((q_up I0 t 3 (I0 o 3)) (o + 3)) ((q_up I0 t 3 (I0 o 3)) (t + 3)) 0 0 8)) (t + 4)) 0 0 8)) o 6)) o 7)) o 8), J, R) 0 0
  refine q_gI rfl rfl (hO.ob) ?_
  refine q_pI rfl rfl rfl (hS.ob) ?_
  obtain ⟨I1, eI1⟩ : ∃ zz9, zz9 = q_up (q_up (q_up (q_up (va_up (va_up (q_up I0 t 3 (I0 o 3)) (t + 3) (va_cpy ((q_up I0 t 3 (I0 o 3)) (o + 3)) ((q_up I0 t 3 (I0 o 3)) (t + 3)) 0 0 8)) (t + 4) (va_cpy ((va_up (q_up I0 t 3 (I0 o 3)) (t + 3) (va_cpy ((q_up I0 t 3 (I0 o 3)) (o + 3)) ((q_up I0 t 3 (I0 o 3)) (t + 3)) 0 0 8)) (o + 4)) ((va_up (q_up I0 t 3 (I0 o 3)) (t + 3) (va_cpy ((q_up I0 t 3 (I0 o 3)) (o + 3)) ((q_up I0 t 3 (I0 o 3)) (t + 3)) 0 0 8)) (t + 4)) 0 0 8)) t 6 ((va_up (va_up (q_up I0 t 3 (I0 o 3)) (t + 3) (va_cpy ((q_up I0 t 3 (I0 o 3)) (o + 3)) ((q_up I0 t 3 (I0 o 3)) (t + 3)) 0 0 8)) (t + 4) (va_cpy ((va_up (q_up I0 t 3 (I0 o 3)) (t + 3) (va_cpy ((q_up I0 t 3 (I0 o 3)) (o + 3)) ((q_up I0 t 3 (I0 o 3)) (t + 3)) 0 0 8)) (o + 4)) ((va_up (q_up I0 t 3 (I0 o 3)) (t + 3) (va_cpy ((q_up I0 t 3 (I0 o 3)) (o + 3)) ((q_up I0 t 3 (I0 o 3)) (t + 3)) 0 0 8)) (t + 4)) 0 0 8)) o 6)) t 7 ((q_up (va_up (va_up (q_up I0 t 3 (I0 o 3)) (t + 3) (va_cpy ((q_up I0 t 3 (I0 o 3)) (o + 3)) ((q_up I0 t 3 (I0 o 3)) (t + 3)) 0 0 8)) (t + 4) (va_cpy ((va_up (q_up I0 t 3 (I0 o 3)) (t + 3) (va_cpy ((q_up I0 t 3 (I0 o 3)) (o + 3)) ((q_up I0 t 3 (I0 o 3)) (t + 3)) 0 0 8)) (o + 4)) ((va_up (q_up I0 t 3 (I0 o 3)) (t + 3) (va_cpy ((q_up I0 t 3 (I0 o 3)) (o + 3)) ((q_up I0 t 3 (I0 o 3)) (t + 3)) 0 0 8)) (t + 4)) 0 0 8)) t 6 ((va_up (va_up (q_up I0 t 3 (I0 o 3)) (t + 3) (va_cpy ((q_up I0 t 3 (I0 o 3)) (o + 3)) ((q_up I0 t 3 (I0 o 3)) (t + 3)) 0 0 8)) (t + 4) (va_cpy ((va_up (q_up I0 t 3 (I0 o 3)) (t + 3) (va_cpy ((q_up I0 t 3 (I0 o 3)) (o + 3)) ((q_up I0 t 3 (I0 o 3)) (t + 3)) 0 0 8)) (o + 4)) ((va_up (q_up I0 t 3 (I0 o 3)) (t + 3) (va_cpy ((q_up I0 t 3 (I0 o 3)) (o + 3)) ((q_up I0 t 3 (I0 o 3)) (t + 3)) 0 0 8)) (t + 4)) 0 0 8)) o 6)) o 7)) t 8 ((q_up (q_up (va_up (va_up (q_up I0 t 3 (I0 o 3)) (t + 3) (va_cpy ((q_up I0 t 3 (I0 o 3)) (o + 3)) ((q_up I0 t 3 (I0 o 3)) (t + 3)) 0 0 8)) (t + 4) (va_cpy ((va_up (q_up I0 t 3 (I0 o 3)) (t + 3) (va_cpy ((q_up I0 t 3 (I0 o 3)) (o + 3)) ((q_up I0 t 3 (I0 o 3)) (t + 3)) 0 0 8)) (o + 4)) ((va_up (q_up I0 t 3 (I0 o 3)) (t + 3) (va_cpy ((q_up I0 t 3 (I0 o 3)) (o + 3)) ((q_up I0 t 3 (I0 o 3)) (t + 3)) 0 0 8)) (t + 4)) 0 0 8)) t 6 ((va_up (va_up (q_up I0 t 3 (I0 o 3)) (t + 3) (va_cpy ((q_up I0 t 3 (I0 o 3)) (o + 3)) ((q_up I0 t 3 (I0 o 3)) (t + 3)) 0 0 8)) (t + 4) (va_cpy ((va_up (q_up I0 t 3 (I0 o 3)) (t + 3) (va_cpy ((q_up I0 t 3 (I0 o 3)) (o + 3)) ((q_up I0 t 3 (I0 o 3)) (t + 3)) 0 0 8)) (o + 4)) ((va_up (q_up I0 t 3 (I0 o 3)) (t + 3) (va_cpy ((q_up I0 t 3 (I0 o 3)) (o + 3)) ((q_up I0 t 3 (I0 o 3)) (t + 3)) 0 0 8)) (t + 4)) 0 0 8)) o 6)) t 7 ((q_up (va_up (va_up (q_up I0 t 3 (I0 o 3)) (t + 3) (va_cpy ((q_up I0 t 3 (I0 o 3)) (o + 3)) ((q_up I0 t 3 (I0 o 3)) (t + 3)) 0 0 8)) (t + 4) (va_cpy ((va_up (q_up I0 t 3 (I0 o 3)) (t + 3) (va_cpy ((q_up I0 t 3 (I0 o 3)) (o + 3)) ((q_up I0 t 3 (I0 o 3)) (t + 3)) 0 0 8)) (o + 4)) ((va_up (q_up I0 t 3 (I0 o 3)) (t + 3) (va_cpy ((q_up I0 t 3 (I0 o 3)) (o + 3)) ((q_up I0 t 3 (I0 o 3)) (t + 3)) 0 0 8)) (t + 4)) 0 0 8)) t 6 ((va_up (va_up (q_up I0 t 3 (I0 o 3)) (t + 3) (va_cpy ((q_up I0 t 3 (I0 o 3)) (o + 3)) ((q_up I0 t 3 (I0 o 3)) (t + 3)) 0 0 8)) (t + 4) (va_cpy ((va_up (q_up I0 t 3 (I0 o 3)) (t + 3) (va_cpy ((q_up I0 t 3 (I0 o 3)) (o + 3)) ((q_up I0 t 3 (I0 o 3)) (t + 3)) 0 0 8)) (o + 4)) ((va_up (q_up I0 t 3 (I0 o 3)) (t + 3) (va_cpy ((q_up I0 t 3 (I0 o 3)) (o + 3)) ((q_up I0 t 3 (I0 o 3)) (t + 3)) 0 0 8)) (t + 4)) 0 0 8)) o 6)) o 7)) o 8)) t 9 ((q_up (q_up (q_up (va_up (va_up (q_up I0 t 3 (I0 o 3)) (t + 3) (va_cpy ((q_up I0 t 3 (I0 o 3)) (o + 3)) ((q_up I0 t 3 (I0 o 3)) (t + 3)) 0 0 8)) (t + 4) (va_cpy ((va_up (q_up I0 t 3 (I0 o 3)) (t + 3) (va_cpy ((q_up I0 t 3 (I0 o 3)) (o + 3)) ((q_up I0 t 3 (I0 o 3)) (t + 3)) 0 0 8)) (o + 4)) ((va_up (q_up I0 t 3 (I0 o 3)) (t + 3) (va_cpy ((q_up I0 t 3 (I0 o 3)) (o + 3)) ((q_up I0 t 3 (I0 o 3)) (t + 3)) 0 0 8)) (t + 4)) 0 0 8)) t 6 ((va_up (va_up (q_up I0 t 3 (I0 o 3)) (t + 3) (va_cpy ((q_up I0 t 3 (I0 o 3)) (o + 3)) ((q_up I0 t 3 (I0 o 3)) (t + 3)) 0 0 8)) (t + 4) (va_cpy ((va_up (q_up I0 t 3 (I0 o 3)) (t + 3) (va_cpy ((q_up I0 t 3 (I0 o 3)) (o + 3)) ((q_up I0 t 3 (I0 o 3)) (t + 3)) 0 0 8)) (o + 4)) ((va_up (q_up I0 t 3 (I0 o 3)) (t + 3) (va_cpy ((q_up I0 t 3 (I0 o 3)) (o + 3)) ((q_up I0 t 3 (I0 o 3)) (t + 3)) 0 0 8)) (t + 4)) 0 0 8)) o 6)) t 7 ((q_up (va_up (va_up (q_up I0 t 3 (I0 o 3)) (t + 3) (va_cpy ((q_up I0 t 3 (I0 o 3)) (o + 3)) ((q_up I0 t 3 (I0 o 3)) (t + 3)) 0 0 8)) (t + 4) (va_cpy ((va_up (q_up I0 t 3 (I0 o 3)) (t + 3) (va_cpy ((q_up I0 t 3 (I0 o 3)) (o + 3)) ((q_up I0 t 3 (I0 o 3)) (t + 3)) 0 0 8)) (o + 4)) ((va_up (q_up I0 t 3 (I0 o 3)) (t + 3) (va_cpy ((q_up I0 t 3 (I0 o 3)) (o + 3)) ((q_up I0 t 3 (I0 o 3)) (t + 3)) 0 0 8)) (t + 4)) 0 0 8)) t 6 ((va_up (va_up (q_up I0 t 3 (I0 o 3)) (t + 3) (va_cpy ((q_up I0 t 3 (I0 o 3)) (o + 3)) ((q_up I0 t 3 (I0 o 3)) (t + 3)) 0 0 8)) (t + 4) (va_cpy ((va_up (q_up I0 t 3 (I0 o 3)) (t + 3) (va_cpy ((q_up I0 t 3 (I0 o 3)) (o + 3)) ((q_up I0 t 3 (I0 o 3)) (t + 3)) 0 0 8)) (o + 4)) ((va_up (q_up I0 t 3 (I0 o 3)) (t + 3) (va_cpy ((q_up I0 t 3 (I0 o 3)) (o + 3)) ((q_up I0 t 3 (I0 o 3)) (t + 3)) 0 0 8)) (t + 4)) 0 0 8)) o 6)) o 7)) t 8 ((q_up (q_up (va_up (va_up (q_up I0 t 3 (I0 o 3)) (t + 3) (va_cpy ((q_up I0 t 3 (I0 o 3)) (o + 3)) ((q_up I0 t 3 (I0 o 3)) (t + 3)) 0 0 8)) (t + 4) (va_cpy ((va_up (q_up I0 t 3 (I0 o 3)) (t + 3) (va_cpy ((q_up I0 t 3 (I0 o 3)) (o + 3)) ((q_up I0 t 3 (I0 o 3)) (t + 3)) 0 0 8)) (o + 4)) ((va_up (q_up I0 t 3 (I0 o 3)) (t + 3) (va_cpy ((q_up I0 t 3 (I0 o 3)) (o + 3)) ((q_up I0 t 3 (I0 o 3)) (t + 3)) 0 0 8)) (t + 4)) 0 0 8)) t 6 ((va_up (va_up (q_up I0 t 3 (I0 o 3)) (t + 3) (va_cpy ((q_up I0 t 3 (I0 o 3)) (o + 3)) ((q_up I0 t 3 (I0 o 3)) (t + 3)) 0 0 8)) (t + 4) (va_cpy ((va_up (q_up I0 t 3 (I0 o 3)) (t + 3) (va_cpy ((q_up I0 t 3 (I0 o 3)) (o + 3)) ((q_up I0 t 3 (I0 o 3)) (t + 3)) 0 0 8)) (o + 4)) ((va_up (q_up I0 t 3 (I0 o 3)) (t + 3) (va_cpy ((q_up I0 t 3 (I0 o 3)) (o + 3)) ((q_up I0 t 3 (I0 o 3)) (t + 3)) 0 0 8)) (t + 4)) 0 0 8)) o 6)) t 7 ((q_up (va_up (va_up (q_up I0 t 3 (I0 o 3)) (t + 3) (va_cpy ((q_up I0 t 3 (I0 o 3)) (o + 3)) ((q_up I0 t 3 (I0 o 3)) (t + 3)) 0 0 8)) (t + 4) (va_cpy ((va_up (q_up I0 t 3 (I0 o 3)) (t + 3) (va_cpy ((q_up I0 t 3 (I0 o 3)) (o + 3)) ((q_up I0 t 3 (I0 o 3)) (t + 3)) 0 0 8)) (o + 4)) ((va_up (q_up I0 t 3 (I0 o 3)) (t + 3) (va_cpy ((q_up I0 t 3 (I0 o 3)) (o + 3)) ((q_up I0 t 3 (I0 o 3)) (t + 3)) 0 0 8)) (t + 4)) 0 0 8)) t 6 ((va_up (va_up (q_up I0 t 3 (I0 o 3)) (t + 3) (va_cpy ((q_up I0 t 3 (I0 o 3)) (o + 3)) ((q_up I0 t 3 (I0 o 3)) (t + 3)) 0 0 8)) (t + 4) (va_cpy ((va_up (q_up I0 t 3 (I0 o 3)) (t + 3) (va_cpy ((q_up I0 t 3 (I0 o 3)) (o + 3)) ((q_up I0 t 3 (I0 o 3)) (t + 3)) 0 0 8)) (o + 4)) ((va_up (q_up I0 t 3 (I0 o 3)) (t + 3) (va_cpy ((q_up I0 t 3 (I0 o 3)) (o + 3)) ((q_up I0 t 3 (I0 o 3)) (t + 3)) 0 0 8)) (t + 4)) 0 0 8)) o 6)) o 7)) o 8)) o 9) := ⟨_, rfl⟩
  rw [← eI1]
  refine q_k 1 ?_
  show q_W L (d + 1) 32 q_m32 Q 105 [some (.ref t), some (.ref o)] [.ref t] (n, I1, J, R) 0 0
  refine q_gR (b := (t + 5)) rfl rfl (hS.ob) (hS.r10) ?_
  refine q_k 1 ?_
  show q_W L (d + 1) 32 q_m32 Q 109 [some (.ref t), some (.ref o)] [.ref o, .ref (t + 5)] (n, I1, J, R) 0 0
  refine q_gR (b := (o + 5)) rfl rfl (hO.ob) (hO.r10) ?_
  refine q_cv (as := [.ref (o + 5)]) (rs := []) rfl rfl rfl (hS.o5) rfl rfl ?_
  have hc1 : I1 (o + 5) 0 = nI c := by rw [eI1]; simp (disch := omega) only [q_un, q_usk, q_usn, va_up_self, va_up_ne]; rw [eI0]; simp (disch := omega) only [q_un, q_usk, q_usn, va_up_self, va_up_ne]; rw [h.k0, hc]
  refine c_skBecome (s := t + 5) (o := o + 5) (hS.o5) (hS.s1) (hS.s2) (hS.s3) (hS.o6) (hS.o7) (hS.o8) (hO.o5) (hO.s1) (hO.s2) (hO.s3) (hO.o6) (hO.o7) (hO.o8) (by omega) (hc1) (hc28) (fun I2 c2 a2 b2 w2 f2 => ?_)
  show q_W L (d + 1) 32 q_m32 Q 115 [some (.ref t), some (.ref o)] [] (n, I2, J, R) 0 0
  refine q_k 2 ?_
  show q_W L (d + 1) 32 q_m32 Q 117 [some (.ref t), some (.ref o)] [.ref o, .ref t] (n, I2, J, R) 0 0
  refine q_gZ rfl rfl (hO.ob) ?_
  refine q_pZ rfl rfl rfl (hS.ob) (by rw [f2 o (by omega) (by omega) (by omega) (by omega), eI1]; simp (disch := omega) only [q_un, q_usk, q_usn, va_up_self, va_up_ne]; rw [eI0]; simp (disch := omega) only [q_un, q_usk, q_usn, va_up_self, va_up_ne]; rw [h.f11]; exact h.z11) ?_
  refine q_k 2 ?_
  show q_W L (d + 1) 32 q_m32 Q 125 [some (.ref t), some (.ref o)] [.ref o, .ref t] (n, q_up I2 t 11 (I2 o 11), J, R) 0 0
  refine q_gZ rfl rfl (hO.ob) ?_
  refine q_pZ rfl rfl rfl (hS.ob) (by simp (disch := omega) only [q_un, q_usk, q_usn, va_up_self, va_up_ne]; rw [f2 o (by omega) (by omega) (by omega) (by omega), eI1]; simp (disch := omega) only [q_un, q_usk, q_usn, va_up_self, va_up_ne]; rw [eI0]; simp (disch := omega) only [q_un, q_usk, q_usn, va_up_self, va_up_ne]; rw [h.f12]; exact h.z12) ?_
  refine q_k 2 ?_
  show q_W L (d + 1) 32 q_m32 Q 133 [some (.ref t), some (.ref o)] [.ref o, .ref t] (n, q_up (q_up I2 t 11 (I2 o 11)) t 12 ((q_up I2 t 11 (I2 o 11)) o 12), J, R) 0 0
  refine q_gI rfl rfl (hO.ob) ?_
  refine q_pI rfl rfl rfl (hS.ob) ?_
  refine q_k 2 ?_
  show q_W L (d + 1) 32 q_m32 Q 141 [some (.ref t), some (.ref o)] [.ref o, .ref t] (n, q_up (q_up (q_up I2 t 11 (I2 o 11)) t 12 ((q_up I2 t 11 (I2 o 11)) o 12)) t 13 ((q_up (q_up I2 t 11 (I2 o 11)) t 12 ((q_up I2 t 11 (I2 o 11)) o 12)) o 13), J, R) 0 0
  refine q_gI rfl rfl (hO.ob) ?_
  refine q_pI rfl rfl rfl (hS.ob) ?_
  obtain ⟨I3, eI3⟩ : ∃ zz9, zz9 = q_up (q_up (q_up (q_up I2 t 11 (I2 o 11)) t 12 ((q_up I2 t 11 (I2 o 11)) o 12)) t 13 ((q_up (q_up I2 t 11 (I2 o 11)) t 12 ((q_up I2 t 11 (I2 o 11)) o 12)) o 13)) t 14 ((q_up (q_up (q_up I2 t 11 (I2 o 11)) t 12 ((q_up I2 t 11 (I2 o 11)) o 12)) t 13 ((q_up (q_up I2 t 11 (I2 o 11)) t 12 ((q_up I2 t 11 (I2 o 11)) o 12)) o 13)) o 14) := ⟨_, rfl⟩
  rw [← eI3]
  refine q_one rfl rfl ?_
  show Q (none) (n, I3, J, R)
  have v0 : ∀ k, (k = 0 ∨ k = 3 ∨ k = 6 ∨ k = 7 ∨ k = 8 ∨ k = 9 ∨ k = 11 ∨ k = 12 ∨ k = 13 ∨ k = 14) → I3 t k = I o k := by
    intro k hk
    rcases hk with rfl | rfl | rfl | rfl | rfl | rfl | rfl | rfl | rfl | rfl
    all_goals simp (disch := omega) only [eI3, q_un, q_usk, q_usn, va_up_self, va_up_ne, f2, eI1, eI0]
  have v2 : ∀ k, k < 2 → I3 (t + 2) k = I (o + 2) k := by
    intro k hk
    have hk2 : k = 0 ∨ k = 1 := by omega
    rcases hk2 with rfl | rfl
    · rw [eI3]; simp (disch := omega) only [q_un, q_usk, q_usn, va_up_self, va_up_ne]; rw [f2 (t + 2) (by omega) (by omega) (by omega) (by omega), eI1]; simp (disch := omega) only [q_un, q_usk, q_usn, va_up_self, va_up_ne]; rw [eI0]; simp (disch := omega) only [q_un, q_usk, q_usn, va_up_self, va_up_ne]
    · rw [eI3]; simp (disch := omega) only [q_un, q_usk, q_usn, va_up_self, va_up_ne]; rw [f2 (t + 2) (by omega) (by omega) (by omega) (by omega), eI1]; simp (disch := omega) only [q_un, q_usk, q_usn, va_up_self, va_up_ne]; rw [eI0]; simp (disch := omega) only [q_un, q_usk, q_usn, va_up_self, va_up_ne]
  have va : ∀ i, i < 8 → I3 (t + 1) i = I (o + 1) i ∧ I3 (t + 3) i = I (o + 3) i ∧ I3 (t + 4) i = I (o + 4) i := by
    intro i hi
    refine ⟨?_, ?_, ?_⟩
    · rw [eI3, q_un (by omega), q_un (by omega), q_un (by omega), q_un (by omega), f2 (t + 1) (by omega) (by omega) (by omega) (by omega), eI1]; rw [q_un (by omega), q_un (by omega), q_un (by omega), q_un (by omega), va_up_ne _ _ (by omega), va_up_ne _ _ (by omega), q_un (by omega), eI0, q_un (by omega), q_un (by omega), va_up_self, pk_cpy_in (by omega) (by omega), q_un (by omega)]; exact congrArg _ (by omega)
    · rw [eI3, q_un (by omega), q_un (by omega), q_un (by omega), q_un (by omega), f2 (t + 3) (by omega) (by omega) (by omega) (by omega), eI1]; rw [q_un (by omega), q_un (by omega), q_un (by omega), q_un (by omega), va_up_ne _ _ (by omega), va_up_self, pk_cpy_in (by omega) (by omega)]; simp (disch := omega) only [q_un, q_usk, q_usn, va_up_self, va_up_ne]; rw [eI0]; simp (disch := omega) only [q_un, q_usk, q_usn, va_up_self, va_up_ne]; exact congrArg _ (by omega)
    · rw [eI3, q_un (by omega), q_un (by omega), q_un (by omega), q_un (by omega), f2 (t + 4) (by omega) (by omega) (by omega) (by omega), eI1]; rw [q_un (by omega), q_un (by omega), q_un (by omega), q_un (by omega), va_up_self, pk_cpy_in (by omega) (by omega)]; simp (disch := omega) only [q_un, q_usk, q_usn, va_up_self, va_up_ne]; rw [eI0]; simp (disch := omega) only [q_un, q_usk, q_usn, va_up_self, va_up_ne]; exact congrArg _ (by omega)
  have vk : I3 (t + 5) = I2 (t + 5) ∧ I3 (t + 6) = I2 (t + 6) ∧ I3 (t + 7) = I2 (t + 7) ∧ I3 (t + 8) = I2 (t + 8) := by
    rw [eI3]; simp (disch := omega) only [q_un, q_usk, q_usn, va_up_self, va_up_ne]; exact ⟨trivial, trivial, trivial, trivial⟩
  have vo : ∀ k, 6 ≤ k → k < 9 → I1 (o + k) = I (o + k) := by
    intro k h6 h9
    rw [eI1]; simp (disch := omega) only [q_un, q_usk, q_usn, va_up_self, va_up_ne]; rw [eI0]; simp (disch := omega) only [q_un, q_usk, q_usn, va_up_self, va_up_ne]
  refine hQ I3 ⟨?_, ?_, ?_, ?_, ?_, h.z6, ?_, ?_, ?_, ?_, ?_, h.z11, ?_, h.z12, ?_, ?_, fun i hi => ?_, fun k hk => ?_, fun h5 i hi => ?_⟩ (fun i hi => ?_) (fun x hx => ?_)
  · rw [v0 0 (by omega)]; exact h.f0
  · rw [v0 3 (by omega)]; exact h.f3
  · rw [v2 0 (by omega)]; exact h.p0
  · rw [v2 1 (by omega)]; exact h.p1
  · rw [v0 6 (by omega)]; exact h.f6
  · rw [v0 7 (by omega)]; exact h.f7
  · rw [v0 8 (by omega)]; exact h.f8
  · rw [v0 9 (by omega)]; exact h.f9
  · rw [vk.1, c2, hc]
  · rw [v0 11 (by omega)]; exact h.f11
  · rw [v0 12 (by omega)]; exact h.f12
  · rw [v0 13 (by omega)]; exact h.f13
  · rw [v0 14 (by omega)]; exact h.f14
  · rw [(va i hi).1]; exact h.rt i hi
  · have hk2 : k < c := by rw [hc, g_cl (by omega)] at hk; exact hk
    obtain ⟨k1, k2, k3⟩ := h.kp k hk
    rw [vk.2.1, vk.2.2.1, vk.2.2.2]
    refine ⟨?_, ?_, fun i hi => ?_⟩
    · rw [a2 k hk2, show o + 5 + 1 = o + 6 from rfl, vo 6 (by omega) (by omega)]; exact k1
    · rw [b2 k hk2, show o + 5 + 2 = o + 7 from rfl, vo 7 (by omega) (by omega)]; exact k2
    · rw [w2 (8 * k + i) (by omega), show o + 5 + 3 = o + 8 from rfl, vo 8 (by omega) (by omega)]; exact k3 i hi
  · rw [(va i hi).2.2]; exact h.rv h5 i hi
  · rw [(va i hi).2.1]; exact hs i hi
  · rw [eI3, q_un (by omega), q_un (by omega), q_un (by omega), q_un (by omega), f2 x (by omega) (by omega) (by omega) (by omega), eI1]; rw [q_un (by omega), q_un (by omega), q_un (by omega), q_un (by omega), va_up_ne _ _ (by omega), va_up_ne _ _ (by omega), q_un (by omega), eI0, q_un (by omega), q_un (by omega), va_up_ne _ _ (by omega), q_un (by omega)]
theorem c_isUnanswered {L d n : Nat} {I : q_I} {J : q_L} {R : q_R} {Q : q_Q} {t : Nat} {r : Nat → Int32} (hS : q_Se n R t) (h : s_R I t r) (hQ : Q (some (.int (if g_un r = true then nI 1 else nI 0))) (n, I, J, R)) : q_Ex L (d + 1) 33 [.ref t] (n, I, J, R) Q := by
  refine q_in (x := q_m33) rfl rfl ?_
  show q_W L d 33 q_m33 Q 0 [some (.ref t)] [] (n, I, J, R) 0 0
  refine q_k 1 ?_
  show q_W L d 33 q_m33 Q 1 [some (.ref t)] [.ref t] (n, I, J, R) 0 0
  refine q_gZ rfl rfl (hS.ob) ?_
  refine q_top (w := r 10) (h.f11) ?_
  refine q_one rfl rfl ?_
  show ((r 10) = 0 → q_W L d 33 q_m33 Q 18 [some (.ref t)] [] (n, I, J, R) 0 0) ∧ (¬ (r 10) = 0 → q_W L d 33 q_m33 Q 7 [some (.ref t)] [] (n, I, J, R) 0 0)
  refine ⟨fun h4 => ?_, fun h4 => ?_⟩
  · skip
    refine q_k 1 ?_
    show q_W L d 33 q_m33 Q 19 [some (.ref t)] [.int (nI 0)] (n, I, J, R) 0 0
    refine q_one rfl rfl ?_
    show q_bz (nI 0) ∧ Q (some (.int (nI 0))) (n, I, J, R)
    refine ⟨Or.inl rfl, ?_⟩
    rw [if_neg (show ¬ g_un r = true by unfold g_un; rw [decide_eq_true_eq]; exact fun q => absurd (q.1.symm.trans h4) (by decide))] at hQ
    exact hQ
  · skip
    refine q_k 1 ?_
    show q_W L d 33 q_m33 Q 8 [some (.ref t)] [.ref t] (n, I, J, R) 0 0
    refine q_gZ rfl rfl (hS.ob) ?_
    refine q_top (w := r 11) (h.f12) ?_
    refine q_one rfl rfl ?_
    show (¬ (r 11) = 0 → q_W L d 33 q_m33 Q 18 [some (.ref t)] [] (n, I, J, R) 0 0) ∧ ((r 11) = 0 → q_W L d 33 q_m33 Q 14 [some (.ref t)] [] (n, I, J, R) 0 0)
    refine ⟨fun h11 => ?_, fun h11 => ?_⟩
    · skip
      refine q_k 1 ?_
      show q_W L d 33 q_m33 Q 19 [some (.ref t)] [.int (nI 0)] (n, I, J, R) 0 0
      refine q_one rfl rfl ?_
      show q_bz (nI 0) ∧ Q (some (.int (nI 0))) (n, I, J, R)
      refine ⟨Or.inl rfl, ?_⟩
      rw [if_neg (show ¬ g_un r = true by unfold g_un; rw [decide_eq_true_eq]; exact fun q => h11 q.2)] at hQ
      exact hQ
    · skip
      refine q_k 2 ?_
      show q_W L d 33 q_m33 Q 19 [some (.ref t)] [.int (nI 1)] (n, I, J, R) 0 0
      refine q_one rfl rfl ?_
      show q_bz (nI 1) ∧ Q (some (.int (nI 1))) (n, I, J, R)
      refine ⟨Or.inr rfl, ?_⟩
      rw [if_pos (show g_un r = true from decide_eq_true ⟨h.z11.elim (fun q => absurd q h4) (fun q => q), h11⟩)] at hQ
      exact hQ
theorem c_step {L d n : Nat} {I : q_I} {J : q_L} {R : q_R} {Q : q_Q} {t c : Nat} (hK : q_K0 n I R) (hS : q_Se n R t) (hc : q_ar n c 0 8) (hc70 : 70 < c) (hct : c ≠ t + 1) (hQ : ∀ I', (∀ i, i < 8 → I' c i = g_mix (I (t + 1)) (g_pow (I t 3) (I (t + 2) 0)) (nI 6) (nI 0) (nI 0) i) → (∀ i, i < 8 → I' (t + 1) i = g_mix (I (t + 1)) (g_pow (I t 3) (I (t + 2) 0)) (nI 5) (nI 0) (nI 0) i) → (∀ x, x ≠ 5 → x ≠ 6 → x ≠ c → x ≠ t + 1 → I' x = I x) → Q none (n, I', J, R)) : q_Ex L (d + 3) 34 [.ref t, .ref 4, .ref c] (n, I, J, R) Q := by
  refine q_in (x := q_m34) rfl rfl ?_
  show q_W L (d + 2) 34 q_m34 Q 0 [some (.ref t), some (.ref 4), some (.ref c), none] [] (n, I, J, R) 0 0
  have hge := hS.ge
  refine q_k 1 ?_
  show q_W L (d + 2) 34 q_m34 Q 1 [some (.ref t), some (.ref 4), some (.ref c), none] [.ref t] (n, I, J, R) 0 0
  refine q_gR (b := (t + 2)) rfl rfl (hS.ob) (hS.r2) ?_
  refine q_k 1 ?_
  show q_W L (d + 2) 34 q_m34 Q 5 [some (.ref t), some (.ref 4), some (.ref c), none] [.ref t, .ref (t + 2)] (n, I, J, R) 0 0
  refine q_gI rfl rfl (hS.ob) ?_
  refine q_cv (as := [.int (I t 3)]) (rs := []) rfl rfl rfl (hS.o2) rfl rfl ?_
  refine c_shared (hS.o2) ?_
  show q_W L (d + 2) 34 q_m34 Q 11 [some (.ref t), some (.ref 4), some (.ref c), none] [.int (g_pow (I t 3) (I (t + 2) 0))] (n, I, J, R) 0 0
  refine q_k 1 ?_
  show q_W L (d + 2) 34 q_m34 Q 12 [some (.ref t), some (.ref 4), some (.ref c), some (.int (g_pow (I t 3) (I (t + 2) 0)))] [] (n, I, J, R) 0 0
  obtain ⟨dd, edd⟩ : ∃ zz9, zz9 = g_pow (I t 3) (I (t + 2) 0) := ⟨_, rfl⟩
  rw [← edd]
  refine q_k 3 ?_
  show q_W L (d + 2) 34 q_m34 Q 15 [some (.ref t), some (.ref 4), some (.ref c), some (.int dd)] [.ref t, .ref c, .ref 4] (n, I, J, R) 0 0
  refine q_gR (b := (t + 1)) rfl rfl (hS.ob) (hS.r1) ?_
  refine q_k 4 ?_
  show q_W L (d + 2) 34 q_m34 Q 23 [some (.ref t), some (.ref 4), some (.ref c), some (.int dd)] [.int (nI 0), .int (nI 0), .int (nI 6), .int dd, .ref (t + 1), .ref c, .ref 4] (n, I, J, R) 0 0
  refine q_cv (as := [.ref c, .ref (t + 1), .int dd, .int (nI 6), .int (nI 0), .int (nI 0)]) (rs := []) rfl rfl rfl (⟨Nat.lt_of_lt_of_le (by decide) hK.1, rfl⟩) rfl rfl ?_
  refine c_blend (hK) (hc) (by omega) (by omega) (Or.inl hS.o1) (by omega) (fun I1 h1 f1 => ?_)
  show q_W L (d + 2) 34 q_m34 Q 26 [some (.ref t), some (.ref 4), some (.ref c), some (.int dd)] [] (n, I1, J, R) 0 0
  refine q_k 2 ?_
  show q_W L (d + 2) 34 q_m34 Q 28 [some (.ref t), some (.ref 4), some (.ref c), some (.int dd)] [.ref t, .ref 4] (n, I1, J, R) 0 0
  refine q_gR (b := (t + 1)) rfl rfl (hS.ob) (hS.r1) ?_
  refine q_k 1 ?_
  show q_W L (d + 2) 34 q_m34 Q 32 [some (.ref t), some (.ref 4), some (.ref c), some (.int dd)] [.ref t, .ref (t + 1), .ref 4] (n, I1, J, R) 0 0
  refine q_gR (b := (t + 1)) rfl rfl (hS.ob) (hS.r1) ?_
  refine q_k 4 ?_
  show q_W L (d + 2) 34 q_m34 Q 39 [some (.ref t), some (.ref 4), some (.ref c), some (.int dd)] [.int (nI 0), .int (nI 0), .int (nI 5), .int dd, .ref (t + 1), .ref (t + 1), .ref 4] (n, I1, J, R) 0 0
  refine q_cv (as := [.ref (t + 1), .ref (t + 1), .int dd, .int (nI 5), .int (nI 0), .int (nI 0)]) (rs := []) rfl rfl rfl (⟨Nat.lt_of_lt_of_le (by decide) hK.1, rfl⟩) rfl rfl ?_
  refine c_blend (q_K0_to hK (f1 0 (by omega) (by omega) (by omega)) (f1 1 (by omega) (by omega) (by omega))) (hS.o1) (by omega) (by omega) (Or.inl hS.o1) (by omega) (fun I2 h2 f2 => ?_)
  show q_W L (d + 2) 34 q_m34 Q 42 [some (.ref t), some (.ref 4), some (.ref c), some (.int dd)] [] (n, I2, J, R) 0 0
  refine q_one rfl rfl ?_
  show Q (none) (n, I2, J, R)
  have e1 : I1 (t + 1) = I (t + 1) := f1 (t + 1) (by omega) (by omega) (Ne.symm hct)
  rw [← edd] at hQ
  refine hQ I2 (fun i hi => ?_) (fun i hi => ?_) (fun x h5 h6 h7 h8 => ?_)
  · rw [f2 c (by omega) (by omega) hct]; exact h1 i hi
  · rw [h2 i hi, e1]
  · rw [f2 x h5 h6 h8]; exact f1 x h5 h6 h7
theorem c_turnReceiving {L d n : Nat} {I : q_I} {J : q_L} {R : q_R} {Q : q_Q} {t : Nat} {x : Int32} {r : Nat → Int32} (hK : q_K0 n I R) (hS : q_Se n R t) (h : s_R I t r) (hQ : ∀ I', s_R I' t (s_tr x r) → I' (t + 3) = I (t + 3) → (∀ x, x ≠ 5 → x ≠ 6 → (x < t ∨ t + 10 ≤ x) → I' x = I x) → Q none (n, I', J, R)) : q_Ex L (d + 4) 35 [.ref t, .ref 4, .int x] (n, I, J, R) Q := by
  refine q_in (x := q_m35) rfl rfl ?_
  show q_W L (d + 3) 35 q_m35 Q 0 [some (.ref t), some (.ref 4), some (.int x)] [] (n, I, J, R) 0 0
  have hge := hS.ge
  refine q_k 2 ?_
  show q_W L (d + 3) 35 q_m35 Q 2 [some (.ref t), some (.ref 4), some (.int x)] [.ref t, .ref t] (n, I, J, R) 0 0
  refine q_gI rfl rfl (hS.ob) ?_
  refine q_pI rfl rfl rfl (hS.ob) ?_
  refine q_k 2 ?_
  show q_W L (d + 3) 35 q_m35 Q 10 [some (.ref t), some (.ref 4), some (.int x)] [.int (nI 0), .ref t] (n, q_up I t 9 (I t 7), J, R) 0 0
  refine q_pI rfl rfl rfl (hS.ob) ?_
  refine q_k 2 ?_
  show q_W L (d + 3) 35 q_m35 Q 15 [some (.ref t), some (.ref 4), some (.int x)] [.int (nI 0), .ref t] (n, q_up (q_up I t 9 (I t 7)) t 7 (nI 0), J, R) 0 0
  refine q_pI rfl rfl rfl (hS.ob) ?_
  refine q_k 2 ?_
  show q_W L (d + 3) 35 q_m35 Q 20 [some (.ref t), some (.ref 4), some (.int x)] [.int x, .ref t] (n, q_up (q_up (q_up I t 9 (I t 7)) t 7 (nI 0)) t 8 (nI 0), J, R) 0 0
  refine q_pI rfl rfl rfl (hS.ob) ?_
  obtain ⟨I1, eI1⟩ : ∃ zz9, zz9 = q_up (q_up (q_up (q_up I t 9 (I t 7)) t 7 (nI 0)) t 8 (nI 0)) t 3 x := ⟨_, rfl⟩
  rw [← eI1]
  refine q_k 3 ?_
  show q_W L (d + 3) 35 q_m35 Q 26 [some (.ref t), some (.ref 4), some (.int x)] [.ref t, .ref 4, .ref t] (n, I1, J, R) 0 0
  refine q_gR (b := (t + 4)) rfl rfl (hS.ob) (hS.r5) ?_
  refine q_cv (as := [.ref 4, .ref (t + 4)]) (rs := []) rfl rfl rfl (hS.ob) rfl rfl ?_
  refine c_step (q_K0_to hK (by rw [eI1, q_un (by omega), q_un (by omega), q_un (by omega), q_un (by omega)]) (by rw [eI1, q_un (by omega), q_un (by omega), q_un (by omega), q_un (by omega)])) (hS) (hS.o4) (by omega) (by omega) (fun I2 a2 b2 f2 => ?_)
  have ed : g_pow (I1 t 3) (I1 (t + 2) 0) = g_pow x (r 2) := by rw [eI1, q_usk, q_un (by omega), q_un (by omega), q_un (by omega), q_un (by omega), h.p0]
  have er : ∀ j, j < 8 → I1 (t + 1) j = s_rt r j := fun j hj => by rw [eI1, q_un (by omega), q_un (by omega), q_un (by omega), q_un (by omega)]; exact h.rt j hj
  rw [ed] at a2 b2
  show q_W L (d + 3) 35 q_m35 Q 32 [some (.ref t), some (.ref 4), some (.int x)] [] (n, I2, J, R) 0 0
  refine q_k 2 ?_
  show q_W L (d + 3) 35 q_m35 Q 34 [some (.ref t), some (.ref 4), some (.int x)] [.int (nI 1), .ref t] (n, I2, J, R) 0 0
  refine q_pZ rfl rfl rfl (hS.ob) (Or.inr rfl) ?_
  obtain ⟨I3, eI3⟩ : ∃ zz9, zz9 = q_up I2 t 6 (nI 1) := ⟨_, rfl⟩
  rw [← eI3]
  refine q_one rfl rfl ?_
  show Q (none) (n, I3, J, R)
  have it : ∀ k, k ≠ 6 → I3 t k = I1 t k := fun k hk => by rw [eI3, q_usn hk, f2 t (by omega) (by omega) (by omega) (by omega)]
  refine hQ I3 ⟨?_, ?_, ?_, ?_, ?_, ?_, ?_, ?_, ?_, ?_, ?_, ?_, ?_, ?_, ?_, ?_, fun i hi => ?_, fun k hk => ?_, fun _ i hi => ?_⟩ ?_ (fun y h5 h6 hy => ?_)
  · rw [it 0 (by decide), s_tr_n (by omega), eI1]; simp (disch := omega) only [q_un, q_usk, q_usn]; exact h.f0
  · rw [it 3 (by decide), s_tr_1, eI1, q_usk]
  · rw [eI3, q_un (by omega), f2 (t + 2) (by omega) (by omega) (by omega) (by omega), s_tr_n (by omega), eI1, q_un (by omega), q_un (by omega), q_un (by omega), q_un (by omega)]; exact h.p0
  · rw [eI3, q_un (by omega), f2 (t + 2) (by omega) (by omega) (by omega) (by omega), s_tr_n (by omega), eI1, q_un (by omega), q_un (by omega), q_un (by omega), q_un (by omega)]; exact h.p1
  · rw [eI3, q_usk, s_tr_5]
  · rw [s_tr_5]; exact Or.inr rfl
  · rw [it 7 (by decide), s_tr_6, eI1]; simp (disch := omega) only [q_un, q_usk, q_usn]
  · rw [it 8 (by decide), s_tr_7, eI1]; simp (disch := omega) only [q_un, q_usk, q_usn]
  · rw [it 9 (by decide), s_tr_8, eI1]; simp (disch := omega) only [q_un, q_usk, q_usn]; exact h.f7
  · rw [eI3, q_un (by omega), f2 (t + 5) (by omega) (by omega) (by omega) (by omega), s_tr_n (by omega), eI1, q_un (by omega), q_un (by omega), q_un (by omega), q_un (by omega)]; exact h.k0
  · rw [it 11 (by decide), s_tr_n (by omega), eI1]; simp (disch := omega) only [q_un, q_usk, q_usn]; exact h.f11
  · rw [s_tr_n (by omega)]; exact h.z11
  · rw [it 12 (by decide), s_tr_n (by omega), eI1]; simp (disch := omega) only [q_un, q_usk, q_usn]; exact h.f12
  · rw [s_tr_n (by omega)]; exact h.z12
  · rw [it 13 (by decide), s_tr_n (by omega), eI1]; simp (disch := omega) only [q_un, q_usk, q_usn]; exact h.f13
  · rw [it 14 (by decide), s_tr_n (by omega), eI1]; simp (disch := omega) only [q_un, q_usk, q_usn]; exact h.f14
  · rw [eI3, q_un (by omega), b2 i hi, s_tr_14 hi]; exact g_mix_c er _ _ _ _ (by omega)
  · rw [s_tr_n (by omega)] at hk
    rw [eI3, q_un (by omega), q_un (by omega), f2 (t + 6) (by omega) (by omega) (by omega) (by omega), f2 (t + 7) (by omega) (by omega) (by omega) (by omega), eI1, q_un (by omega), q_un (by omega), q_un (by omega), q_un (by omega), q_un (by omega), q_un (by omega), q_un (by omega), q_un (by omega), s_tr_n (by omega), s_tr_n (by omega)]
    obtain ⟨k1, k2, k3⟩ := h.kp k hk
    refine ⟨k1, k2, fun i hi => ?_⟩
    rw [q_un (by omega), f2 (t + 8) (by omega) (by omega) (by omega) (by omega), eI1, q_un (by omega), q_un (by omega), q_un (by omega), q_un (by omega), s_tr_n (by omega)]; exact k3 i hi
  · rw [eI3, q_un (by omega), a2 i hi, s_tr_30 hi]; exact g_mix_c er _ _ _ _ (by omega)
  · rw [eI3, q_un (by omega), f2 (t + 3) (by omega) (by omega) (by omega) (by omega), eI1, q_un (by omega), q_un (by omega), q_un (by omega), q_un (by omega)]
  · rw [eI3, q_un (by omega), f2 y h5 h6 (by omega) (by omega), eI1, q_un (by omega), q_un (by omega), q_un (by omega), q_un (by omega)]
set_option maxHeartbeats 2000000 in
theorem c_skipTo {L d n : Nat} {I : q_I} {J : q_L} {R : q_R} {Q : q_Q} {t m c w : Nat} {r : Nat → Int32} (hK : q_K0 n I R) (hS : q_Se n R t) (h : s_R I t r) (hc : r 9 = nI c) (hw : r 7 = nI w) (hm : m ≤ 2000) (hw2 : w ≤ 2000) (hcm : c ≤ 20) (hrc : r 5 = nI 1 ∨ m ≤ w) (hno : 8 < m - w → Q (some (.int (nI 0))) (n, I, J, R)) (hok : m - w ≤ 8 → ∀ I', s_R I' t (s_sk c (m - w) r) → I' (t + 3) = I (t + 3) → (∀ x, x ≠ 5 → x ≠ 6 → (x < t ∨ t + 10 ≤ x) → I' x = I x) → Q (some (.int (nI 1))) (n, I', J, R)) : q_Ex L (d + 4) 36 [.ref t, .ref 4, .int (nI m)] (n, I, J, R) Q := by
  refine q_in (x := q_m36) rfl rfl ?_
  show q_W L (d + 3) 36 q_m36 Q 0 [some (.ref t), some (.ref 4), some (.int (nI m))] [] (n, I, J, R) 0 0
  have hge := hS.ge
  rcases Nat.lt_or_ge m w with hmw | hmw
  · skip
    refine q_k 2 ?_
    show q_W L (d + 3) 36 q_m36 Q 2 [some (.ref t), some (.ref 4), some (.int (nI m))] [.ref t, .int (nI m)] (n, I, J, R) 0 0
    refine q_gI rfl rfl (hS.ob) ?_
    refine q_top (w := nI w) (by rw [h.f8, hw]) ?_
    refine q_k 2 ?_
    show q_W L (d + 3) 36 q_m36 Q 8 [some (.ref t), some (.ref 4), some (.int (nI m))] [.int (nI 8), .int ((nI m) - (nI w))] (n, I, J, R) 0 0
    refine q_one rfl rfl ?_
    show (((nI m) - (nI w)) ≤ (nI 8) → q_W L (d + 3) 36 q_m36 Q 13 [some (.ref t), some (.ref 4), some (.int (nI m))] [] (n, I, J, R) 0 0) ∧ (¬ ((nI m) - (nI w)) ≤ (nI 8) → q_W L (d + 3) 36 q_m36 Q 11 [some (.ref t), some (.ref 4), some (.int (nI m))] [] (n, I, J, R) 0 0)
    refine ⟨fun _ => ?_, fun z => absurd (Int32.le_of_lt (Int32.lt_of_lt_of_le (pk_sneg (by omega) hmw) (by decide))) z⟩
    refine q_k 1 ?_
    show q_W L (d + 3) 36 q_m36 Q 14 [some (.ref t), some (.ref 4), some (.int (nI m))] [.ref t] (n, I, J, R) 0 0
    refine q_gI rfl rfl (hS.ob) ?_
    refine q_top (w := nI w) (by rw [h.f8, hw]) ?_
    refine q_k 1 ?_
    show q_W L (d + 3) 36 q_m36 Q 18 [some (.ref t), some (.ref 4), some (.int (nI m))] [.int (nI m), .int (nI w)] (n, I, J, R) 0 0
    refine q_one rfl rfl ?_
    show ((nI m) ≤ (nI w) → q_W L (d + 3) 36 q_m36 Q 65 [some (.ref t), some (.ref 4), some (.int (nI m))] [] (n, I, J, R) 0 0) ∧ (¬ (nI m) ≤ (nI w) → q_W L (d + 3) 36 q_m36 Q 21 [some (.ref t), some (.ref 4), some (.int (nI m))] [] (n, I, J, R) 0 0)
    refine ⟨fun _ => ?_, fun z => absurd (nI_le (by omega) (by omega)) z⟩
    refine q_k 1 ?_
    show q_W L (d + 3) 36 q_m36 Q 66 [some (.ref t), some (.ref 4), some (.int (nI m))] [.int (nI 1)] (n, I, J, R) 0 0
    refine q_one rfl rfl ?_
    show q_bz (nI 1) ∧ Q (some (.int (nI 1))) (n, I, J, R)
    refine ⟨Or.inr rfl, ?_⟩
    have e0 : m - w = 0 := by omega
    refine hok (by omega) I ?_ rfl (fun _ _ _ _ => rfl)
    rw [e0]
    exact h
  · skip
    refine q_k 2 ?_
    show q_W L (d + 3) 36 q_m36 Q 2 [some (.ref t), some (.ref 4), some (.int (nI m))] [.ref t, .int (nI m)] (n, I, J, R) 0 0
    refine q_gI rfl rfl (hS.ob) ?_
    refine q_top (w := nI w) (by rw [h.f8, hw]) ?_
    refine q_k 1 ?_
    show q_W L (d + 3) 36 q_m36 Q 6 [some (.ref t), some (.ref 4), some (.int (nI m))] [.int ((nI m) - (nI w))] (n, I, J, R) 0 0
    refine q_top (w := nI (m - w)) (pk_sub hmw) ?_
    refine q_k 1 ?_
    show q_W L (d + 3) 36 q_m36 Q 8 [some (.ref t), some (.ref 4), some (.int (nI m))] [.int (nI 8), .int (nI (m - w))] (n, I, J, R) 0 0
    refine q_one rfl rfl ?_
    show ((nI (m - w)) ≤ (nI 8) → q_W L (d + 3) 36 q_m36 Q 13 [some (.ref t), some (.ref 4), some (.int (nI m))] [] (n, I, J, R) 0 0) ∧ (¬ (nI (m - w)) ≤ (nI 8) → q_W L (d + 3) 36 q_m36 Q 11 [some (.ref t), some (.ref 4), some (.int (nI m))] [] (n, I, J, R) 0 0)
    refine ⟨fun h8 => ?_, fun h8 => ?_⟩
    · skip
      have h8' : m - w ≤ 8 := (nI_leI (by omega) (by decide)).mp h8
      refine q_loop (σ := q_I) (m - w) (fun k I2 => s_R I2 t (s_sk c k r) ∧ I2 (t + 3) = I (t + 3) ∧ ∀ x, x ≠ 5 → x ≠ 6 → (x < t ∨ t + 10 ≤ x) → I2 x = I x) (fun k I2 => q_W L (d + 3) 36 q_m36 Q 13 [some (.ref t), some (.ref 4), some (.int (nI m))] [] (n, I2, J, R) 0 0) ?_ ?_ 0 I (Nat.zero_le _) ?_
      · intro I2 hI2
        show q_W L (d + 3) 36 q_m36 Q 13 [some (.ref t), some (.ref 4), some (.int (nI m))] [] (n, I2, J, R) 0 0
        refine q_k 1 ?_
        show q_W L (d + 3) 36 q_m36 Q 14 [some (.ref t), some (.ref 4), some (.int (nI m))] [.ref t] (n, I2, J, R) 0 0
        refine q_gI rfl rfl (hS.ob) ?_
        refine q_top (w := nI (w + (m - w))) (by rw [hI2.1.f8, s_sk_7 hw]) ?_
        refine q_k 1 ?_
        show q_W L (d + 3) 36 q_m36 Q 18 [some (.ref t), some (.ref 4), some (.int (nI m))] [.int (nI m), .int (nI (w + (m - w)))] (n, I2, J, R) 0 0
        refine q_one rfl rfl ?_
        show ((nI m) ≤ (nI (w + (m - w))) → q_W L (d + 3) 36 q_m36 Q 65 [some (.ref t), some (.ref 4), some (.int (nI m))] [] (n, I2, J, R) 0 0) ∧ (¬ (nI m) ≤ (nI (w + (m - w))) → q_W L (d + 3) 36 q_m36 Q 21 [some (.ref t), some (.ref 4), some (.int (nI m))] [] (n, I2, J, R) 0 0)
        refine ⟨fun _ => ?_, fun z => absurd (nI_le (by omega) (by omega)) z⟩
        refine q_k 1 ?_
        show q_W L (d + 3) 36 q_m36 Q 66 [some (.ref t), some (.ref 4), some (.int (nI m))] [.int (nI 1)] (n, I2, J, R) 0 0
        refine q_one rfl rfl ?_
        show q_bz (nI 1) ∧ Q (some (.int (nI 1))) (n, I2, J, R)
        refine ⟨Or.inr rfl, ?_⟩
        exact hok h8' I2 hI2.1 hI2.2.1 hI2.2.2
      · intro k I2 hk hI2 ih
        show q_W L (d + 3) 36 q_m36 Q 13 [some (.ref t), some (.ref 4), some (.int (nI m))] [] (n, I2, J, R) 0 0
        refine q_k 1 ?_
        show q_W L (d + 3) 36 q_m36 Q 14 [some (.ref t), some (.ref 4), some (.int (nI m))] [.ref t] (n, I2, J, R) 0 0
        refine q_gI rfl rfl (hS.ob) ?_
        refine q_top (w := nI (w + k)) (by rw [hI2.1.f8, s_sk_7 hw]) ?_
        refine q_k 1 ?_
        show q_W L (d + 3) 36 q_m36 Q 18 [some (.ref t), some (.ref 4), some (.int (nI m))] [.int (nI m), .int (nI (w + k))] (n, I2, J, R) 0 0
        refine q_one rfl rfl ?_
        show ((nI m) ≤ (nI (w + k)) → q_W L (d + 3) 36 q_m36 Q 65 [some (.ref t), some (.ref 4), some (.int (nI m))] [] (n, I2, J, R) 0 0) ∧ (¬ (nI m) ≤ (nI (w + k)) → q_W L (d + 3) 36 q_m36 Q 21 [some (.ref t), some (.ref 4), some (.int (nI m))] [] (n, I2, J, R) 0 0)
        refine ⟨fun z => absurd z (nI_ge (by omega) (by omega)), fun _ => ?_⟩
        refine q_k 2 ?_
        show q_W L (d + 3) 36 q_m36 Q 23 [some (.ref t), some (.ref 4), some (.int (nI m))] [.ref t, .ref 4] (n, I2, J, R) 0 0
        refine q_gR (b := (t + 9)) rfl rfl (hS.ob) (hS.r15) ?_
        refine q_k 1 ?_
        show q_W L (d + 3) 36 q_m36 Q 27 [some (.ref t), some (.ref 4), some (.int (nI m))] [.ref t, .ref (t + 9), .ref 4] (n, I2, J, R) 0 0
        refine q_gR (b := (t + 4)) rfl rfl (hS.ob) (hS.r5) ?_
        refine q_cv (as := [.ref (t + 9), .ref (t + 4)]) (rs := []) rfl rfl rfl (⟨Nat.lt_of_lt_of_le (by decide) hK.1, rfl⟩) rfl rfl ?_
        refine c_take (q_K0_to hK (hI2.2.2 0 (by omega) (by omega) (by omega)) (hI2.2.2 1 (by omega) (by omega) (by omega))) (hS.o9) (by omega) (by omega) (hS.o4) (by omega) (by omega) (by omega) (fun I3 a3 b3 f3 => ?_)
        show q_W L (d + 3) 36 q_m36 Q 33 [some (.ref t), some (.ref 4), some (.int (nI m))] [] (n, I3, J, R) 0 0
        refine q_k 1 ?_
        show q_W L (d + 3) 36 q_m36 Q 34 [some (.ref t), some (.ref 4), some (.int (nI m))] [.ref t] (n, I3, J, R) 0 0
        refine q_gR (b := (t + 5)) rfl rfl (hS.ob) (hS.r10) ?_
        refine q_k 1 ?_
        show q_W L (d + 3) 36 q_m36 Q 38 [some (.ref t), some (.ref 4), some (.int (nI m))] [.ref t, .ref (t + 5)] (n, I3, J, R) 0 0
        refine q_gI rfl rfl (hS.ob) ?_
        refine q_top (w := s_sk c k r 1) (by rw [f3 t (by omega) (by omega) (by omega) (by omega)]; exact hI2.1.f3) ?_
        refine q_k 1 ?_
        show q_W L (d + 3) 36 q_m36 Q 42 [some (.ref t), some (.ref 4), some (.int (nI m))] [.ref t, .int (s_sk c k r 1), .ref (t + 5)] (n, I3, J, R) 0 0
        refine q_gI rfl rfl (hS.ob) ?_
        refine q_top (w := s_sk c k r 7) (by rw [f3 t (by omega) (by omega) (by omega) (by omega)]; exact hI2.1.f8) ?_
        refine q_k 1 ?_
        show q_W L (d + 3) 36 q_m36 Q 46 [some (.ref t), some (.ref 4), some (.int (nI m))] [.ref t, .int (s_sk c k r 7), .int (s_sk c k r 1), .ref (t + 5)] (n, I3, J, R) 0 0
        refine q_gR (b := (t + 9)) rfl rfl (hS.ob) (hS.r15) ?_
        refine q_cv (as := [.int (s_sk c k r 1), .int (s_sk c k r 7), .ref (t + 9)]) (rs := []) rfl rfl rfl (hS.o5) rfl rfl ?_
        have hk9 : s_sk c k r 9 = nI (c + k) := s_sk_9 hc k
        refine c_keep (s := t + 5) (c := c + k) (hS.o5) (hS.s1) (hS.s2) (hS.s3) (hS.o6) (hS.o7) (hS.o8) (hS.o9) (by omega) (by omega) (by omega) (by rw [f3 (t + 5) (by omega) (by omega) (by omega) (by omega), hI2.1.k0, hk9]) (by omega) (fun I4 d4 p4 q4 w4 u4 f4 => ?_)
        show q_W L (d + 3) 36 q_m36 Q 52 [some (.ref t), some (.ref 4), some (.int (nI m))] [] (n, I4, J, R) 0 0
        refine q_k 2 ?_
        show q_W L (d + 3) 36 q_m36 Q 54 [some (.ref t), some (.ref 4), some (.int (nI m))] [.ref t, .ref t] (n, I4, J, R) 0 0
        refine q_gI rfl rfl (hS.ob) ?_
        refine q_top (w := s_sk c k r 7) (by rw [f4 t (by omega) (by omega) (by omega) (by omega), f3 t (by omega) (by omega) (by omega) (by omega)]; exact hI2.1.f8) ?_
        refine q_k 2 ?_
        show q_W L (d + 3) 36 q_m36 Q 59 [some (.ref t), some (.ref 4), some (.int (nI m))] [.int ((s_sk c k r 7) + (nI 1)), .ref t] (n, I4, J, R) 0 0
        refine q_pI rfl rfl rfl (hS.ob) ?_
        obtain ⟨I5, eI5⟩ : ∃ zz9, zz9 = q_up I4 t 8 ((s_sk c k r 7) + (nI 1)) := ⟨_, rfl⟩
        rw [← eI5]
        refine q_k 1 ?_
        show q_W L (d + 3) 36 q_m36 Q 13 [some (.ref t), some (.ref 4), some (.int (nI m))] [] (n, I5, J, R) 0 0
        have h5 : r 5 = nI 1 := hrc.elim (fun q => q) (fun q => absurd hk (by omega))
        obtain ⟨rk, erk⟩ : ∃ z, z = s_sk c k r := ⟨_, rfl⟩
        have hg := hI2.1
        rw [← erk] at hg hk9 p4 q4 eI5
        have hk5 : rk 5 = nI 1 := by rw [erk, s_sk_5 (by decide) (by decide) (by decide)]; exact h5
        have ekey : ∀ i, i < 8 → I3 (t + 9) i = g_mix (fun j => rk (30 + j)) (nI 7) (nI 0) (nI 0) (nI 0) i := fun i hi => by rw [a3 i hi]; exact g_mix_c (fun j hj => hg.rv hk5 j hj) _ _ _ _ (by omega)
        have it : ∀ k, k ≠ 8 → I5 t k = I2 t k := fun k hk => by rw [eI5, q_usn hk, f4 t (by omega) (by omega) (by omega) (by omega), f3 t (by omega) (by omega) (by omega) (by omega)]
        refine ih I5 ⟨?_, ?_, fun y y5 y6 hy => ?_⟩
        · show s_R I5 t (s_sk1 (c + k) (s_sk c k r))
          rw [← erk]
          refine ⟨?_, ?_, ?_, ?_, ?_, ?_, ?_, ?_, ?_, ?_, ?_, ?_, ?_, ?_, ?_, ?_, fun i hi => ?_, fun j hj => ?_, fun _ i hi => ?_⟩
          · rw [it 0 (by decide), s_sk1_lo (by decide) (by decide) (by decide)]; exact hg.f0
          · rw [it 3 (by decide), s_sk1_lo (by decide) (by decide) (by decide)]; exact hg.f3
          · rw [eI5, q_un (by omega), f4 (t + 2) (by omega) (by omega) (by omega) (by omega), f3 (t + 2) (by omega) (by omega) (by omega) (by omega), s_sk1_lo (by decide) (by decide) (by decide)]; exact hg.p0
          · rw [eI5, q_un (by omega), f4 (t + 2) (by omega) (by omega) (by omega) (by omega), f3 (t + 2) (by omega) (by omega) (by omega) (by omega), s_sk1_lo (by decide) (by decide) (by decide)]; exact hg.p1
          · rw [it 6 (by decide), s_sk1_lo (by decide) (by decide) (by decide)]; exact hg.f6
          · rw [s_sk1_lo (by decide) (by decide) (by decide)]; exact hg.z6
          · rw [it 7 (by decide), s_sk1_lo (by decide) (by decide) (by decide)]; exact hg.f7
          · rw [eI5, q_usk, s_sk1_7]
          · rw [it 9 (by decide), s_sk1_lo (by decide) (by decide) (by decide)]; exact hg.f9
          · rw [eI5, q_un (by omega), d4, va_up_self, s_sk1_9]
          · rw [it 11 (by decide), s_sk1_lo (by decide) (by decide) (by decide)]; exact hg.f11
          · rw [s_sk1_lo (by decide) (by decide) (by decide)]; exact hg.z11
          · rw [it 12 (by decide), s_sk1_lo (by decide) (by decide) (by decide)]; exact hg.f12
          · rw [s_sk1_lo (by decide) (by decide) (by decide)]; exact hg.z12
          · rw [it 13 (by decide), s_sk1_lo (by decide) (by decide) (by decide)]; exact hg.f13
          · rw [it 14 (by decide), s_sk1_lo (by decide) (by decide) (by decide)]; exact hg.f14
          · rw [eI5, q_un (by omega), f4 (t + 1) (by omega) (by omega) (by omega) (by omega), f3 (t + 1) (by omega) (by omega) (by omega) (by omega), s_sk1_lo (by omega) (by omega) (by omega)]; exact hg.rt i hi
          · rw [s_sk1_9, g_cl (by omega)] at hj
            have r6 : I5 (t + 6) = va_up (I2 (t + 6)) (c + k) (rk 1) := by rw [eI5, q_un (by omega), show t + 6 = t + 5 + 1 from rfl, p4, f3 (t + 5 + 1) (by omega) (by omega) (by omega) (by omega)]
            have r7 : I5 (t + 7) = va_up (I2 (t + 7)) (c + k) (rk 7) := by rw [eI5, q_un (by omega), show t + 7 = t + 5 + 2 from rfl, q4, f3 (t + 5 + 2) (by omega) (by omega) (by omega) (by omega)]
            have r8 : I5 (t + 8) = I4 (t + 5 + 3) := by rw [eI5, q_un (by omega)]
            rw [r6, r7, r8]
            by_cases ej : j = c + k
            · subst ej
              rw [va_up_self, va_up_self, s_sk1_n0, s_sk1_n1]
              exact ⟨rfl, rfl, fun i hi => by rw [w4 i hi, ekey i hi, s_sk1_n2 hi]⟩
            · obtain ⟨k1, k2, k3⟩ := hg.kp j (by rw [hk9, g_cl (by omega)]; omega)
              rw [va_up_ne _ _ ej, va_up_ne _ _ ej, s_sk1_k (by omega) (by omega), s_sk1_k (by omega) (by omega)]
              exact ⟨k1, k2, fun i hi => by rw [u4 (8 * j + i) (by omega), f3 (t + 5 + 3) (by omega) (by omega) (by omega) (by omega), s_sk1_k (by omega) (by omega)]; exact k3 i hi⟩
          · rw [eI5, q_un (by omega), f4 (t + 4) (by omega) (by omega) (by omega) (by omega), b3 i hi, s_sk1_30 hi]; exact g_mix_c (fun j hj => hg.rv hk5 j hj) _ _ _ _ (by omega)
        · rw [eI5, q_un (by omega), f4 (t + 3) (by omega) (by omega) (by omega) (by omega), f3 (t + 3) (by omega) (by omega) (by omega) (by omega)]; exact hI2.2.1
        · rw [eI5, q_un (by omega), f4 y (by omega) (by omega) (by omega) (by omega), f3 y y5 y6 (by omega) (by omega)]; exact hI2.2.2 y y5 y6 hy
      · exact ⟨h, rfl, fun _ _ _ _ => rfl⟩
    · skip
      have h8 : 8 < m - w := by rcases Nat.lt_or_ge 8 (m - w) with q | q; exact q; exact absurd (nI_le q (by decide)) h8
      refine q_k 1 ?_
      show q_W L (d + 3) 36 q_m36 Q 12 [some (.ref t), some (.ref 4), some (.int (nI m))] [.int (nI 0)] (n, I, J, R) 0 0
      refine q_one rfl rfl ?_
      show q_bz (nI 0) ∧ Q (some (.int (nI 0))) (n, I, J, R)
      refine ⟨Or.inl rfl, ?_⟩
      exact hno h8
