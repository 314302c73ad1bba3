theorem c_PairInit {L d n : Nat} {I : q_I} {J : q_L} {R : q_R} {Q : q_Q} {a : Nat} (ha : q_ob n a 1) (hQ : ∀ I', (∀ x, x ≠ a → I' x = I x) → (∀ j, I a j = 0 → I' a j = 0) → Q none (n, I', J, R)) : q_Ex L (d + 1) 6 [.ref a] (n, I, J, R) Q := by
  refine q_in (x := q_m6) rfl rfl ?_
  show q_W L d 6 q_m6 Q 0 [some (.ref a)] [] (n, I, J, R) 0 0
  refine q_k 1 ?_
  show q_W L d 6 q_m6 Q 1 [some (.ref a)] [.ref a] (n, I, J, R) 0 0
  refine q_oi rfl rfl rfl ?_
  refine q_k 2 ?_
  show q_W L d 6 q_m6 Q 6 [some (.ref a)] [.int (nI 0), .ref a] (n, I, J, R) 0 0
  refine q_pI rfl rfl rfl (ha) ?_
  refine q_k 2 ?_
  show q_W L d 6 q_m6 Q 11 [some (.ref a)] [.int (nI 0), .ref a] (n, q_up I a 0 (nI 0), J, R) 0 0
  refine q_pI rfl rfl rfl (ha) ?_
  refine q_one rfl rfl ?_
  show Q (none) (n, q_up (q_up I a 0 (nI 0)) a 1 (nI 0), J, R)
  refine hQ _ (fun x hx => ?_) (fun j hj => ?_)
  · rw [q_un hx, q_un hx]
  · by_cases e1 : j = 1
    · subst e1; rw [q_usk]; rfl
    · rw [q_usn e1]
      by_cases e0 : j = 0
      · subst e0; rw [q_usk]; rfl
      · rw [q_usn e0]; exact hj
theorem c_SkInit {L d : Nat} {I : q_I} {J : q_L} {R : q_R} {Q : q_Q} {s : Nat} (hs : q_kd s = (8, 4)) (k1 : q_kd (s + 1) = (0, 28)) (k2 : q_kd (s + 2) = (0, 28)) (k3 : q_kd (s + 3) = (0, 224)) (hQ : ∀ I' J' R', (∀ x, (x < s ∨ s + 4 ≤ x) → I' x = I x ∧ J' x = J x ∧ R' x = R x) → R' s 1 = some (s + 1) → R' s 2 = some (s + 2) → R' s 3 = some (s + 3) → Q none (s + 4, I', J', R')) : q_Ex L (d + 1) 25 [.ref s] (s + 1, I, J, R) Q := by
  refine q_in (x := q_m25) rfl rfl ?_
  show q_W L d 25 q_m25 Q 0 [some (.ref s)] [] (s + 1, I, J, R) 0 0
  refine q_k 1 ?_
  show q_W L d 25 q_m25 Q 1 [some (.ref s)] [.ref s] (s + 1, I, J, R) 0 0
  refine q_oi rfl rfl rfl ?_
  refine q_k 2 ?_
  show q_W L d 25 q_m25 Q 6 [some (.ref s)] [.int (nI 0), .ref s] (s + 1, I, J, R) 0 0
  refine q_pI rfl rfl rfl (⟨by omega, hs⟩) ?_
  refine q_k 2 ?_
  show q_W L d 25 q_m25 Q 12 [some (.ref s)] [.int (nI 28), .ref s] (s + 1, q_up I s 0 (nI 0), J, R) 0 0
  refine q_na (N := 28) (n2 := s + 2) (uc2 := 1) (us2 := 28) rfl rfl (k1) rfl rfl rfl rfl ⟨rfl, rfl⟩ ?_
  refine q_pR rfl rfl rfl (⟨by omega, hs⟩) ?_
  refine q_k 2 ?_
  show q_W L d 25 q_m25 Q 20 [some (.ref s)] [.int (nI 28), .ref s] (s + 2, va_up (q_up I s 0 (nI 0)) (s + 1) (fun _ => 0), va_up J (s + 1) (fun _ => 0), q_up R s 1 (some (s + 1))) 1 28
  refine q_na (N := 28) (n2 := s + 3) (uc2 := 2) (us2 := 56) rfl rfl (k2) rfl rfl rfl rfl ⟨rfl, rfl⟩ ?_
  refine q_pR rfl rfl rfl (⟨by omega, hs⟩) ?_
  refine q_k 2 ?_
  show q_W L d 25 q_m25 Q 29 [some (.ref s)] [.int (nI 224), .ref s] (s + 3, va_up (va_up (q_up I s 0 (nI 0)) (s + 1) (fun _ => 0)) (s + 2) (fun _ => 0), va_up (va_up J (s + 1) (fun _ => 0)) (s + 2) (fun _ => 0), q_up (q_up R s 1 (some (s + 1))) s 2 (some (s + 2))) 2 56
  refine q_na (N := 224) (n2 := s + 4) (uc2 := 3) (us2 := 280) rfl rfl (k3) rfl rfl rfl rfl ⟨rfl, rfl⟩ ?_
  refine q_pR rfl rfl rfl (⟨by omega, hs⟩) ?_
  refine q_one rfl rfl ?_
  show Q (none) (s + 4, va_up (va_up (va_up (q_up I s 0 (nI 0)) (s + 1) (fun _ => 0)) (s + 2) (fun _ => 0)) (s + 3) (fun _ => 0), va_up (va_up (va_up J (s + 1) (fun _ => 0)) (s + 2) (fun _ => 0)) (s + 3) (fun _ => 0), q_up (q_up (q_up R s 1 (some (s + 1))) s 2 (some (s + 2))) s 3 (some (s + 3)))
  refine hQ _ _ _ (fun x hx => ⟨?_, ?_, ?_⟩) ?_ ?_ ?_
  · simp (disch := omega) only [q_un, va_up_ne]
  · simp (disch := omega) only [q_un, va_up_ne]
  · simp (disch := omega) only [q_un, va_up_ne]
  · simp (disch := omega) only [q_un, q_usk, q_usn, va_up_self, va_up_ne]
  · simp (disch := omega) only [q_un, q_usk, q_usn, va_up_self, va_up_ne]
  · simp (disch := omega) only [q_un, q_usk, q_usn, va_up_self, va_up_ne]
set_option maxHeartbeats 1000000 in
theorem c_SessInit {L d : Nat} {I : q_I} {J : q_L} {R : q_R} {Q : q_Q} {t : Nat} (ht : t = 71 ∨ ∃ j, t = 214 + 10 * j) (hQ : ∀ I' J' R', (∀ x, (x < t ∨ t + 10 ≤ x) → I' x = I x ∧ J' x = J x ∧ R' x = R x) → q_Se (t + 10) R' t → Q none (t + 10, I', J', R')) : q_Ex L (d + 2) 30 [.ref t] (t + 1, I, J, R) Q := by
  refine q_in (x := q_m30) rfl rfl ?_
  show q_W L (d + 1) 30 q_m30 Q 0 [some (.ref t)] [] (t + 1, I, J, R) 0 0
  refine q_k 1 ?_
  show q_W L (d + 1) 30 q_m30 Q 1 [some (.ref t)] [.ref t] (t + 1, I, J, R) 0 0
  refine q_oi rfl rfl rfl ?_
  refine q_k 2 ?_
  show q_W L (d + 1) 30 q_m30 Q 6 [some (.ref t)] [.int (nI 0), .ref t] (t + 1, I, J, R) 0 0
  refine q_pI rfl rfl rfl (⟨by omega, q_kdS ht (i := 0) (by decide)⟩) ?_
  refine q_k 2 ?_
  show q_W L (d + 1) 30 q_m30 Q 12 [some (.ref t)] [.int (nI 8), .ref t] (t + 1, q_up I t 0 (nI 0), J, R) 0 0
  refine q_na (N := 8) (n2 := t + 2) (uc2 := 1) (us2 := 8) rfl rfl (q_kdS ht (i := 1) (by decide)) rfl rfl rfl rfl ⟨rfl, rfl⟩ ?_
  refine q_pR rfl rfl rfl (⟨by omega, q_kdS ht (i := 0) (by decide)⟩) ?_
  refine q_k 1 ?_
  show q_W L (d + 1) 30 q_m30 Q 18 [some (.ref t)] [.ref t] (t + 2, va_up (q_up I t 0 (nI 0)) (t + 1) (fun _ => 0), va_up J (t + 1) (fun _ => 0), q_up R t 1 (some (t + 1))) 1 8
  refine q_nw (n2 := t + 3) (uc2 := 2) (us2 := 10) rfl rfl (q_kdS ht (i := 2) (by decide)) rfl rfl rfl ⟨rfl, rfl⟩ ?_
  refine q_k 1 ?_
  show q_W L (d + 1) 30 q_m30 Q 22 [some (.ref t)] [.ref (t + 2), .ref (t + 2), .ref t] (t + 3, va_up (va_up (q_up I t 0 (nI 0)) (t + 1) (fun _ => 0)) (t + 2) (fun _ => 0), va_up (va_up J (t + 1) (fun _ => 0)) (t + 2) (fun _ => 0), va_up (q_up R t 1 (some (t + 1))) (t + 2) (fun _ => none)) 2 10
  refine q_ci1 (as := []) (rs := [.ref (t + 2), .ref t]) rfl rfl rfl rfl rfl ?_
  refine c_PairInit (⟨by omega, q_kdS ht (i := 2) (by decide)⟩) (fun I1 f1 z1 => ?_)
  show q_W L (d + 1) 30 q_m30 Q 25 [some (.ref t)] [.ref (t + 2), .ref t] (t + 3, I1, va_up (va_up J (t + 1) (fun _ => 0)) (t + 2) (fun _ => 0), va_up (q_up R t 1 (some (t + 1))) (t + 2) (fun _ => none)) 2 10
  refine q_pR rfl rfl rfl (⟨by omega, q_kdS ht (i := 0) (by decide)⟩) ?_
  refine q_k 2 ?_
  show q_W L (d + 1) 30 q_m30 Q 30 [some (.ref t)] [.int (nI 0), .ref t] (t + 3, I1, va_up (va_up J (t + 1) (fun _ => 0)) (t + 2) (fun _ => 0), q_up (va_up (q_up R t 1 (some (t + 1))) (t + 2) (fun _ => none)) t 2 (some (t + 2))) 2 10
  refine q_pI rfl rfl rfl (⟨by omega, q_kdS ht (i := 0) (by decide)⟩) ?_
  refine q_k 2 ?_
  show q_W L (d + 1) 30 q_m30 Q 36 [some (.ref t)] [.int (nI 8), .ref t] (t + 3, q_up I1 t 3 (nI 0), va_up (va_up J (t + 1) (fun _ => 0)) (t + 2) (fun _ => 0), q_up (va_up (q_up R t 1 (some (t + 1))) (t + 2) (fun _ => none)) t 2 (some (t + 2))) 2 10
  refine q_na (N := 8) (n2 := t + 4) (uc2 := 3) (us2 := 18) rfl rfl (q_kdS ht (i := 3) (by decide)) rfl rfl rfl rfl ⟨rfl, rfl⟩ ?_
  refine q_pR rfl rfl rfl (⟨by omega, q_kdS ht (i := 0) (by decide)⟩) ?_
  refine q_k 2 ?_
  show q_W L (d + 1) 30 q_m30 Q 44 [some (.ref t)] [.int (nI 8), .ref t] (t + 4, va_up (q_up I1 t 3 (nI 0)) (t + 3) (fun _ => 0), va_up (va_up (va_up J (t + 1) (fun _ => 0)) (t + 2) (fun _ => 0)) (t + 3) (fun _ => 0), q_up (q_up (va_up (q_up R t 1 (some (t + 1))) (t + 2) (fun _ => none)) t 2 (some (t + 2))) t 4 (some (t + 3))) 3 18
  refine q_na (N := 8) (n2 := t + 5) (uc2 := 4) (us2 := 26) rfl rfl (q_kdS ht (i := 4) (by decide)) rfl rfl rfl rfl ⟨rfl, rfl⟩ ?_
  refine q_pR rfl rfl rfl (⟨by omega, q_kdS ht (i := 0) (by decide)⟩) ?_
  refine q_k 2 ?_
  show q_W L (d + 1) 30 q_m30 Q 51 [some (.ref t)] [.int (nI 0), .ref t] (t + 5, va_up (va_up (q_up I1 t 3 (nI 0)) (t + 3) (fun _ => 0)) (t + 4) (fun _ => 0), va_up (va_up (va_up (va_up J (t + 1) (fun _ => 0)) (t + 2) (fun _ => 0)) (t + 3) (fun _ => 0)) (t + 4) (fun _ => 0), q_up (q_up (q_up (va_up (q_up R t 1 (some (t + 1))) (t + 2) (fun _ => none)) t 2 (some (t + 2))) t 4 (some (t + 3))) t 5 (some (t + 4))) 4 26
  refine q_pZ rfl rfl rfl (⟨by omega, q_kdS ht (i := 0) (by decide)⟩) (Or.inl rfl) ?_
  refine q_k 2 ?_
  show q_W L (d + 1) 30 q_m30 Q 56 [some (.ref t)] [.int (nI 0), .ref t] (t + 5, q_up (va_up (va_up (q_up I1 t 3 (nI 0)) (t + 3) (fun _ => 0)) (t + 4) (fun _ => 0)) t 6 (nI 0), va_up (va_up (va_up (va_up J (t + 1) (fun _ => 0)) (t + 2) (fun _ => 0)) (t + 3) (fun _ => 0)) (t + 4) (fun _ => 0), q_up (q_up (q_up (va_up (q_up R t 1 (some (t + 1))) (t + 2) (fun _ => none)) t 2 (some (t + 2))) t 4 (some (t + 3))) t 5 (some (t + 4))) 4 26
  refine q_pI rfl rfl rfl (⟨by omega, q_kdS ht (i := 0) (by decide)⟩) ?_
  refine q_k 2 ?_
  show q_W L (d + 1) 30 q_m30 Q 61 [some (.ref t)] [.int (nI 0), .ref t] (t + 5, q_up (q_up (va_up (va_up (q_up I1 t 3 (nI 0)) (t + 3) (fun _ => 0)) (t + 4) (fun _ => 0)) t 6 (nI 0)) t 7 (nI 0), va_up (va_up (va_up (va_up J (t + 1) (fun _ => 0)) (t + 2) (fun _ => 0)) (t + 3) (fun _ => 0)) (t + 4) (fun _ => 0), q_up (q_up (q_up (va_up (q_up R t 1 (some (t + 1))) (t + 2) (fun _ => none)) t 2 (some (t + 2))) t 4 (some (t + 3))) t 5 (some (t + 4))) 4 26
  refine q_pI rfl rfl rfl (⟨by omega, q_kdS ht (i := 0) (by decide)⟩) ?_
  refine q_k 2 ?_
  show q_W L (d + 1) 30 q_m30 Q 66 [some (.ref t)] [.int (nI 0), .ref t] (t + 5, q_up (q_up (q_up (va_up (va_up (q_up I1 t 3 (nI 0)) (t + 3) (fun _ => 0)) (t + 4) (fun _ => 0)) t 6 (nI 0)) t 7 (nI 0)) t 8 (nI 0), va_up (va_up (va_up (va_up J (t + 1) (fun _ => 0)) (t + 2) (fun _ => 0)) (t + 3) (fun _ => 0)) (t + 4) (fun _ => 0), q_up (q_up (q_up (va_up (q_up R t 1 (some (t + 1))) (t + 2) (fun _ => none)) t 2 (some (t + 2))) t 4 (some (t + 3))) t 5 (some (t + 4))) 4 26
  refine q_pI rfl rfl rfl (⟨by omega, q_kdS ht (i := 0) (by decide)⟩) ?_
  refine q_k 1 ?_
  show q_W L (d + 1) 30 q_m30 Q 70 [some (.ref t)] [.ref t] (t + 5, q_up (q_up (q_up (q_up (va_up (va_up (q_up I1 t 3 (nI 0)) (t + 3) (fun _ => 0)) (t + 4) (fun _ => 0)) t 6 (nI 0)) t 7 (nI 0)) t 8 (nI 0)) t 9 (nI 0), va_up (va_up (va_up (va_up J (t + 1) (fun _ => 0)) (t + 2) (fun _ => 0)) (t + 3) (fun _ => 0)) (t + 4) (fun _ => 0), q_up (q_up (q_up (va_up (q_up R t 1 (some (t + 1))) (t + 2) (fun _ => none)) t 2 (some (t + 2))) t 4 (some (t + 3))) t 5 (some (t + 4))) 4 26
  refine q_nw (n2 := t + 6) (uc2 := 5) (us2 := 30) rfl rfl (q_kdS ht (i := 5) (by decide)) rfl rfl rfl ⟨rfl, rfl⟩ ?_
  refine q_k 1 ?_
  show q_W L (d + 1) 30 q_m30 Q 74 [some (.ref t)] [.ref (t + 5), .ref (t + 5), .ref t] (t + 6, va_up (q_up (q_up (q_up (q_up (va_up (va_up (q_up I1 t 3 (nI 0)) (t + 3) (fun _ => 0)) (t + 4) (fun _ => 0)) t 6 (nI 0)) t 7 (nI 0)) t 8 (nI 0)) t 9 (nI 0)) (t + 5) (fun _ => 0), va_up (va_up (va_up (va_up (va_up J (t + 1) (fun _ => 0)) (t + 2) (fun _ => 0)) (t + 3) (fun _ => 0)) (t + 4) (fun _ => 0)) (t + 5) (fun _ => 0), va_up (q_up (q_up (q_up (va_up (q_up R t 1 (some (t + 1))) (t + 2) (fun _ => none)) t 2 (some (t + 2))) t 4 (some (t + 3))) t 5 (some (t + 4))) (t + 5) (fun _ => none)) 5 30
  refine q_ci1A (as := []) (rs := [.ref (t + 5), .ref t]) rfl rfl rfl rfl rfl ⟨by decide, by decide⟩ ?_
  refine c_SkInit (s := t + 5) (q_kdS ht (i := 5) (by decide)) (q_kdS ht (i := 6) (by decide)) (q_kdS ht (i := 7) (by decide)) (q_kdS ht (i := 8) (by decide)) (fun I2 J2 R2 f2 a2 b2 c2 => ?_)
  show q_W L (d + 1) 30 q_m30 Q 77 [some (.ref t)] [.ref (t + 5), .ref t] (t + 9, I2, J2, R2) 8 310
  refine q_pR rfl rfl rfl (⟨by omega, q_kdS ht (i := 0) (by decide)⟩) ?_
  refine q_k 2 ?_
  show q_W L (d + 1) 30 q_m30 Q 82 [some (.ref t)] [.int (nI 0), .ref t] (t + 9, I2, J2, q_up R2 t 10 (some (t + 5))) 8 310
  refine q_pZ rfl rfl rfl (⟨by omega, q_kdS ht (i := 0) (by decide)⟩) (Or.inl rfl) ?_
  refine q_k 2 ?_
  show q_W L (d + 1) 30 q_m30 Q 87 [some (.ref t)] [.int (nI 0), .ref t] (t + 9, q_up I2 t 11 (nI 0), J2, q_up R2 t 10 (some (t + 5))) 8 310
  refine q_pZ rfl rfl rfl (⟨by omega, q_kdS ht (i := 0) (by decide)⟩) (Or.inl rfl) ?_
  refine q_k 2 ?_
  show q_W L (d + 1) 30 q_m30 Q 92 [some (.ref t)] [.int (nI 0), .ref t] (t + 9, q_up (q_up I2 t 11 (nI 0)) t 12 (nI 0), J2, q_up R2 t 10 (some (t + 5))) 8 310
  refine q_pI rfl rfl rfl (⟨by omega, q_kdS ht (i := 0) (by decide)⟩) ?_
  refine q_k 2 ?_
  show q_W L (d + 1) 30 q_m30 Q 97 [some (.ref t)] [.int (nI 0), .ref t] (t + 9, q_up (q_up (q_up I2 t 11 (nI 0)) t 12 (nI 0)) t 13 (nI 0), J2, q_up R2 t 10 (some (t + 5))) 8 310
  refine q_pI rfl rfl rfl (⟨by omega, q_kdS ht (i := 0) (by decide)⟩) ?_
  refine q_k 2 ?_
  show q_W L (d + 1) 30 q_m30 Q 103 [some (.ref t)] [.int (nI 8), .ref t] (t + 9, q_up (q_up (q_up (q_up I2 t 11 (nI 0)) t 12 (nI 0)) t 13 (nI 0)) t 14 (nI 0), J2, q_up R2 t 10 (some (t + 5))) 8 310
  refine q_na (N := 8) (n2 := t + 10) (uc2 := 9) (us2 := 318) rfl rfl (q_kdS ht (i := 9) (by decide)) rfl rfl rfl rfl ⟨rfl, rfl⟩ ?_
  refine q_pR rfl rfl rfl (⟨by omega, q_kdS ht (i := 0) (by decide)⟩) ?_
  refine q_one rfl rfl ?_
  show Q (none) (t + 10, va_up (q_up (q_up (q_up (q_up I2 t 11 (nI 0)) t 12 (nI 0)) t 13 (nI 0)) t 14 (nI 0)) (t + 9) (fun _ => 0), va_up J2 (t + 9) (fun _ => 0), q_up (q_up R2 t 10 (some (t + 5))) t 15 (some (t + 9)))
  have g1 : ∀ x, (x < t ∨ t + 10 ≤ x) → I1 x = I x := fun x hx => by rw [f1 x (by omega)]; simp (disch := omega) only [q_un, va_up_ne]
  have gr : ∀ x, (x < t + 5 ∨ t + 5 + 4 ≤ x) → R2 x = _ := fun x hx => (f2 x hx).2.2
  refine hQ _ _ _ (fun x hx => ⟨?_, ?_, ?_⟩) ⟨ht, by omega, ?_, ?_, ?_, ?_, ?_, ?_, ?_, ?_, ?_⟩
  · simp (disch := omega) only [q_un, va_up_ne]; rw [(f2 x (by omega)).1]; simp (disch := omega) only [q_un, va_up_ne]; exact g1 x hx
  · simp (disch := omega) only [q_un, va_up_ne]; rw [(f2 x (by omega)).2.1]; simp (disch := omega) only [q_un, va_up_ne]
  · simp (disch := omega) only [q_un, va_up_ne]; rw [(f2 x (by omega)).2.2]; simp (disch := omega) only [q_un, va_up_ne]
  · simp (disch := omega) only [q_un, q_usk, q_usn, va_up_self, va_up_ne]; rw [(f2 t (by omega)).2.2]; simp (disch := omega) only [q_un, q_usk, q_usn, va_up_self, va_up_ne]
  · simp (disch := omega) only [q_un, q_usk, q_usn, va_up_self, va_up_ne]; rw [(f2 t (by omega)).2.2]; simp (disch := omega) only [q_un, q_usk, q_usn, va_up_self, va_up_ne]
  · simp (disch := omega) only [q_un, q_usk, q_usn, va_up_self, va_up_ne]; rw [(f2 t (by omega)).2.2]; simp (disch := omega) only [q_un, q_usk, q_usn, va_up_self, va_up_ne]
  · simp (disch := omega) only [q_un, q_usk, q_usn, va_up_self, va_up_ne]; rw [(f2 t (by omega)).2.2]; simp (disch := omega) only [q_un, q_usk, q_usn, va_up_self, va_up_ne]
  · simp (disch := omega) only [q_un, q_usk, q_usn, va_up_self, va_up_ne]
  · simp (disch := omega) only [q_un, va_up_ne]; exact a2
  · simp (disch := omega) only [q_un, va_up_ne]; exact b2
  · simp (disch := omega) only [q_un, va_up_ne]; exact c2
  · simp (disch := omega) only [q_un, q_usk, q_usn, va_up_self, va_up_ne]
theorem c_exchange {L d n : Nat} {I : q_I} {J : q_L} {R : q_R} {Q : q_Q} {s k o fresh : Nat} (hs : q_ob n s 6) (hr : R s 0 = some (s + 1)) (ha : q_ar n (s + 1) 4 3) (hk : k < 3) (ho : R (s + 1) k = some o) (hf : q_ob n fresh 5) (hQ : Q (some (.ref o)) (n, I, J, q_up R (s + 1) k (some fresh))) : q_Ex L (d + 1) 39 [.ref s, .int (nI k), .ref fresh] (n, I, J, R) Q := by
  refine q_in (x := q_m39) rfl rfl ?_
  show q_W L d 39 q_m39 Q 0 [some (.ref s), some (.int (nI k)), some (.ref fresh), none] [] (n, I, J, R) 0 0
  refine q_k 1 ?_
  show q_W L d 39 q_m39 Q 1 [some (.ref s), some (.int (nI k)), some (.ref fresh), none] [.ref s] (n, I, J, R) 0 0
  refine q_gR (b := (s + 1)) rfl rfl (hs) (hr) ?_
  refine q_k 1 ?_
  show q_W L d 39 q_m39 Q 5 [some (.ref s), some (.int (nI k)), some (.ref fresh), none] [.int (nI k), .ref (s + 1)] (n, I, J, R) 0 0
  refine q_aal (m := k) (b := o) rfl (ha) ⟨rfl, rfl⟩ (hk) rfl (ho) ?_
  refine q_k 2 ?_
  show q_W L d 39 q_m39 Q 8 [some (.ref s), some (.int (nI k)), some (.ref fresh), some (.ref o)] [.ref s] (n, I, J, R) 0 0
  refine q_gR (b := (s + 1)) rfl rfl (hs) (hr) ?_
  refine q_k 2 ?_
  show q_W L d 39 q_m39 Q 13 [some (.ref s), some (.int (nI k)), some (.ref fresh), some (.ref o)] [.ref fresh, .int (nI k), .ref (s + 1)] (n, I, J, R) 0 0
  refine q_aas (m := k) rfl (ha) ⟨rfl, rfl⟩ (hf) (hk) rfl ?_
  refine q_k 1 ?_
  show q_W L d 39 q_m39 Q 15 [some (.ref s), some (.int (nI k)), some (.ref fresh), some (.ref o)] [.ref o] (n, I, J, q_up R (s + 1) k (some fresh)) 0 0
  refine q_one rfl rfl ?_
  show Q (some (.ref o)) (n, I, J, q_up R (s + 1) k (some fresh))
  exact hQ
theorem c_moveToFront {L d n : Nat} {I : q_I} {J : q_L} {R : q_R} {Q : q_Q} {s k : Nat} {rr : Nat → Nat} (hs : q_ob n s 6) (hr : R s 0 = some (s + 1)) (ha : q_ar n (s + 1) 4 3) (hk : k < 3) (hrr : ∀ i, i ≤ k → R (s + 1) i = some (rr i) ∧ q_ob n (rr i) 5) (hQ : ∀ R', R' (s + 1) 0 = some (rr k) → (∀ i, i < k → R' (s + 1) (i + 1) = some (rr i)) → (∀ i, k < i → R' (s + 1) i = R (s + 1) i) → (∀ x, x ≠ s + 1 → R' x = R x) → Q none (n, I, J, R')) : q_Ex L (d + 1) 40 [.ref s, .int (nI k)] (n, I, J, R) Q := by
  refine q_in (x := q_m40) rfl rfl ?_
  show q_W L d 40 q_m40 Q 0 [some (.ref s), some (.int (nI k)), none, none] [] (n, I, J, R) 0 0
  have hk3 : k = 0 ∨ k = 1 ∨ k = 2 := by omega
  rcases hk3 with rfl | rfl | rfl
  · skip
    show q_W L d 40 q_m40 Q 0 [some (.ref s), some (.int (nI 0)), none, none] [] (n, I, J, R) 0 0
    refine q_k 1 ?_
    show q_W L d 40 q_m40 Q 1 [some (.ref s), some (.int (nI 0)), none, none] [.ref s] (n, I, J, R) 0 0
    refine q_gR (b := (s + 1)) rfl rfl (hs) (by first | exact hr | (simp (disch := omega) only [q_un, q_usk, q_usn, va_up_self, va_up_ne]; exact hr)) ?_
    refine q_k 1 ?_
    show q_W L d 40 q_m40 Q 5 [some (.ref s), some (.int (nI 0)), none, none] [.int (nI 0), .ref (s + 1)] (n, I, J, R) 0 0
    refine q_aal (m := 0) (b := (rr 0)) rfl (ha) ⟨rfl, rfl⟩ (by decide) rfl (by first | exact (hrr 0 (by omega)).1 | (simp (disch := omega) only [q_un, q_usk, q_usn, va_up_self, va_up_ne]; exact (hrr 0 (by omega)).1)) ?_
    refine q_k 4 ?_
    show q_W L d 40 q_m40 Q 10 [some (.ref s), some (.int (nI 0)), some (.ref (rr 0)), some (.int (nI 0))] [.int (nI 0)] (n, I, J, R) 0 0
    refine q_one rfl rfl ?_
    show ((nI 0) ≤ 0 → q_W L d 40 q_m40 Q 33 [some (.ref s), some (.int (nI 0)), some (.ref (rr 0)), some (.int (nI 0))] [] (n, I, J, R) 0 0) ∧ (¬ (nI 0) ≤ 0 → q_W L d 40 q_m40 Q 13 [some (.ref s), some (.int (nI 0)), some (.ref (rr 0)), some (.int (nI 0))] [] (n, I, J, R) 0 0)
    refine ⟨fun _ => ?_, fun z => absurd (by decide) z⟩
    refine q_k 1 ?_
    show q_W L d 40 q_m40 Q 34 [some (.ref s), some (.int (nI 0)), some (.ref (rr 0)), some (.int (nI 0))] [.ref s] (n, I, J, R) 0 0
    refine q_gR (b := (s + 1)) rfl rfl (hs) (by first | exact hr | (simp (disch := omega) only [q_un, q_usk, q_usn, va_up_self, va_up_ne]; exact hr)) ?_
    refine q_k 2 ?_
    show q_W L d 40 q_m40 Q 39 [some (.ref s), some (.int (nI 0)), some (.ref (rr 0)), some (.int (nI 0))] [.ref (rr 0), .int (nI 0), .ref (s + 1)] (n, I, J, R) 0 0
    refine q_aas (m := 0) rfl (ha) ⟨rfl, rfl⟩ ((hrr 0 (by omega)).2) (by decide) rfl ?_
    refine q_one rfl rfl ?_
    show Q (none) (n, I, J, q_up R (s + 1) 0 (some (rr 0)))
    refine hQ _ ?_ (fun i hi => ?_) (fun i hi => ?_) (fun x hx => ?_)
    · simp (disch := omega) only [q_un, q_usk, q_usn, va_up_self, va_up_ne]
    · exact absurd hi (by omega)
    · simp (disch := omega) only [q_un, q_usk, q_usn, va_up_self, va_up_ne]
    · simp (disch := omega) only [q_un, q_usk, q_usn, va_up_self, va_up_ne]
  · skip
    show q_W L d 40 q_m40 Q 0 [some (.ref s), some (.int (nI 1)), none, none] [] (n, I, J, R) 0 0
    refine q_k 1 ?_
    show q_W L d 40 q_m40 Q 1 [some (.ref s), some (.int (nI 1)), none, none] [.ref s] (n, I, J, R) 0 0
    refine q_gR (b := (s + 1)) rfl rfl (hs) (by first | exact hr | (simp (disch := omega) only [q_un, q_usk, q_usn, va_up_self, va_up_ne]; exact hr)) ?_
    refine q_k 1 ?_
    show q_W L d 40 q_m40 Q 5 [some (.ref s), some (.int (nI 1)), none, none] [.int (nI 1), .ref (s + 1)] (n, I, J, R) 0 0
    refine q_aal (m := 1) (b := (rr 1)) rfl (ha) ⟨rfl, rfl⟩ (by decide) rfl (by first | exact (hrr 1 (by omega)).1 | (simp (disch := omega) only [q_un, q_usk, q_usn, va_up_self, va_up_ne]; exact (hrr 1 (by omega)).1)) ?_
    refine q_k 4 ?_
    show q_W L d 40 q_m40 Q 10 [some (.ref s), some (.int (nI 1)), some (.ref (rr 1)), some (.int (nI 1))] [.int (nI 1)] (n, I, J, R) 0 0
    refine q_one rfl rfl ?_
    show ((nI 1) ≤ 0 → q_W L d 40 q_m40 Q 33 [some (.ref s), some (.int (nI 1)), some (.ref (rr 1)), some (.int (nI 1))] [] (n, I, J, R) 0 0) ∧ (¬ (nI 1) ≤ 0 → q_W L d 40 q_m40 Q 13 [some (.ref s), some (.int (nI 1)), some (.ref (rr 1)), some (.int (nI 1))] [] (n, I, J, R) 0 0)
    refine ⟨fun z => absurd z (by decide), fun _ => ?_⟩
    refine q_k 1 ?_
    show q_W L d 40 q_m40 Q 14 [some (.ref s), some (.int (nI 1)), some (.ref (rr 1)), some (.int (nI 1))] [.ref s] (n, I, J, R) 0 0
    refine q_gR (b := (s + 1)) rfl rfl (hs) (by first | exact hr | (simp (disch := omega) only [q_un, q_usk, q_usn, va_up_self, va_up_ne]; exact hr)) ?_
    refine q_k 2 ?_
    show q_W L d 40 q_m40 Q 19 [some (.ref s), some (.int (nI 1)), some (.ref (rr 1)), some (.int (nI 1))] [.ref s, .int (nI 1), .ref (s + 1)] (n, I, J, R) 0 0
    refine q_gR (b := (s + 1)) rfl rfl (hs) (by first | exact hr | (simp (disch := omega) only [q_un, q_usk, q_usn, va_up_self, va_up_ne]; exact hr)) ?_
    refine q_k 3 ?_
    show q_W L d 40 q_m40 Q 25 [some (.ref s), some (.int (nI 1)), some (.ref (rr 1)), some (.int (nI 1))] [.int ((nI 1) - (nI 1)), .ref (s + 1), .int (nI 1), .ref (s + 1)] (n, I, J, R) 0 0
    refine q_top (w := nI 0) (pk_sub (by decide)) ?_
    refine q_aal (m := 0) (b := (rr 0)) rfl (ha) ⟨rfl, rfl⟩ (by decide) rfl (by first | exact (hrr 0 (by omega)).1 | (simp (disch := omega) only [q_un, q_usk, q_usn, va_up_self, va_up_ne]; exact (hrr 0 (by omega)).1)) ?_
    refine q_aas (m := 1) rfl (ha) ⟨rfl, rfl⟩ ((hrr 0 (by omega)).2) (by decide) rfl ?_
    refine q_k 1 ?_
    show q_W L d 40 q_m40 Q 30 [some (.ref s), some (.int (nI 1)), some (.ref (rr 1)), some (.int ((nI 1) + -1))] [] (n, I, J, q_up R (s + 1) 1 (some (rr 0))) 0 0
    rw [show (nI 1) + -1 = nI 0 from pk_m1 0]
    refine q_k 2 ?_
    show q_W L d 40 q_m40 Q 10 [some (.ref s), some (.int (nI 1)), some (.ref (rr 1)), some (.int (nI 0))] [.int (nI 0)] (n, I, J, q_up R (s + 1) 1 (some (rr 0))) 0 0
    refine q_one rfl rfl ?_
    show ((nI 0) ≤ 0 → q_W L d 40 q_m40 Q 33 [some (.ref s), some (.int (nI 1)), some (.ref (rr 1)), some (.int (nI 0))] [] (n, I, J, q_up R (s + 1) 1 (some (rr 0))) 0 0) ∧ (¬ (nI 0) ≤ 0 → q_W L d 40 q_m40 Q 13 [some (.ref s), some (.int (nI 1)), some (.ref (rr 1)), some (.int (nI 0))] [] (n, I, J, q_up R (s + 1) 1 (some (rr 0))) 0 0)
    refine ⟨fun _ => ?_, fun z => absurd (by decide) z⟩
    refine q_k 1 ?_
    show q_W L d 40 q_m40 Q 34 [some (.ref s), some (.int (nI 1)), some (.ref (rr 1)), some (.int (nI 0))] [.ref s] (n, I, J, q_up R (s + 1) 1 (some (rr 0))) 0 0
    refine q_gR (b := (s + 1)) rfl rfl (hs) (by first | exact hr | (simp (disch := omega) only [q_un, q_usk, q_usn, va_up_self, va_up_ne]; exact hr)) ?_
    refine q_k 2 ?_
    show q_W L d 40 q_m40 Q 39 [some (.ref s), some (.int (nI 1)), some (.ref (rr 1)), some (.int (nI 0))] [.ref (rr 1), .int (nI 0), .ref (s + 1)] (n, I, J, q_up R (s + 1) 1 (some (rr 0))) 0 0
    refine q_aas (m := 0) rfl (ha) ⟨rfl, rfl⟩ ((hrr 1 (by omega)).2) (by decide) rfl ?_
    refine q_one rfl rfl ?_
    show Q (none) (n, I, J, q_up (q_up R (s + 1) 1 (some (rr 0))) (s + 1) 0 (some (rr 1)))
    refine hQ _ ?_ (fun i hi => ?_) (fun i hi => ?_) (fun x hx => ?_)
    · simp (disch := omega) only [q_un, q_usk, q_usn, va_up_self, va_up_ne]
    · have h0 : i = 0 := by omega
      subst h0; simp (disch := omega) only [q_un, q_usk, q_usn, va_up_self, va_up_ne]
    · simp (disch := omega) only [q_un, q_usk, q_usn, va_up_self, va_up_ne]
    · simp (disch := omega) only [q_un, q_usk, q_usn, va_up_self, va_up_ne]
  · skip
    show q_W L d 40 q_m40 Q 0 [some (.ref s), some (.int (nI 2)), none, none] [] (n, I, J, R) 0 0
    refine q_k 1 ?_
    show q_W L d 40 q_m40 Q 1 [some (.ref s), some (.int (nI 2)), none, none] [.ref s] (n, I, J, R) 0 0
    refine q_gR (b := (s + 1)) rfl rfl (hs) (by first | exact hr | (simp (disch := omega) only [q_un, q_usk, q_usn, va_up_self, va_up_ne]; exact hr)) ?_
    refine q_k 1 ?_
    show q_W L d 40 q_m40 Q 5 [some (.ref s), some (.int (nI 2)), none, none] [.int (nI 2), .ref (s + 1)] (n, I, J, R) 0 0
    refine q_aal (m := 2) (b := (rr 2)) rfl (ha) ⟨rfl, rfl⟩ (by decide) rfl (by first | exact (hrr 2 (by omega)).1 | (simp (disch := omega) only [q_un, q_usk, q_usn, va_up_self, va_up_ne]; exact (hrr 2 (by omega)).1)) ?_
    refine q_k 4 ?_
    show q_W L d 40 q_m40 Q 10 [some (.ref s), some (.int (nI 2)), some (.ref (rr 2)), some (.int (nI 2))] [.int (nI 2)] (n, I, J, R) 0 0
    refine q_one rfl rfl ?_
    show ((nI 2) ≤ 0 → q_W L d 40 q_m40 Q 33 [some (.ref s), some (.int (nI 2)), some (.ref (rr 2)), some (.int (nI 2))] [] (n, I, J, R) 0 0) ∧ (¬ (nI 2) ≤ 0 → q_W L d 40 q_m40 Q 13 [some (.ref s), some (.int (nI 2)), some (.ref (rr 2)), some (.int (nI 2))] [] (n, I, J, R) 0 0)
    refine ⟨fun z => absurd z (by decide), fun _ => ?_⟩
    refine q_k 1 ?_
    show q_W L d 40 q_m40 Q 14 [some (.ref s), some (.int (nI 2)), some (.ref (rr 2)), some (.int (nI 2))] [.ref s] (n, I, J, R) 0 0
    refine q_gR (b := (s + 1)) rfl rfl (hs) (by first | exact hr | (simp (disch := omega) only [q_un, q_usk, q_usn, va_up_self, va_up_ne]; exact hr)) ?_
    refine q_k 2 ?_
    show q_W L d 40 q_m40 Q 19 [some (.ref s), some (.int (nI 2)), some (.ref (rr 2)), some (.int (nI 2))] [.ref s, .int (nI 2), .ref (s + 1)] (n, I, J, R) 0 0
    refine q_gR (b := (s + 1)) rfl rfl (hs) (by first | exact hr | (simp (disch := omega) only [q_un, q_usk, q_usn, va_up_self, va_up_ne]; exact hr)) ?_
    refine q_k 3 ?_
    show q_W L d 40 q_m40 Q 25 [some (.ref s), some (.int (nI 2)), some (.ref (rr 2)), some (.int (nI 2))] [.int ((nI 2) - (nI 1)), .ref (s + 1), .int (nI 2), .ref (s + 1)] (n, I, J, R) 0 0
    refine q_top (w := nI 1) (pk_sub (by decide)) ?_
    refine q_aal (m := 1) (b := (rr 1)) rfl (ha) ⟨rfl, rfl⟩ (by decide) rfl (by first | exact (hrr 1 (by omega)).1 | (simp (disch := omega) only [q_un, q_usk, q_usn, va_up_self, va_up_ne]; exact (hrr 1 (by omega)).1)) ?_
    refine q_aas (m := 2) rfl (ha) ⟨rfl, rfl⟩ ((hrr 1 (by omega)).2) (by decide) rfl ?_
    refine q_k 1 ?_
    show q_W L d 40 q_m40 Q 30 [some (.ref s), some (.int (nI 2)), some (.ref (rr 2)), some (.int ((nI 2) + -1))] [] (n, I, J, q_up R (s + 1) 2 (some (rr 1))) 0 0
    rw [show (nI 2) + -1 = nI 1 from pk_m1 1]
    refine q_k 2 ?_
    show q_W L d 40 q_m40 Q 10 [some (.ref s), some (.int (nI 2)), some (.ref (rr 2)), some (.int (nI 1))] [.int (nI 1)] (n, I, J, q_up R (s + 1) 2 (some (rr 1))) 0 0
    refine q_one rfl rfl ?_
    show ((nI 1) ≤ 0 → q_W L d 40 q_m40 Q 33 [some (.ref s), some (.int (nI 2)), some (.ref (rr 2)), some (.int (nI 1))] [] (n, I, J, q_up R (s + 1) 2 (some (rr 1))) 0 0) ∧ (¬ (nI 1) ≤ 0 → q_W L d 40 q_m40 Q 13 [some (.ref s), some (.int (nI 2)), some (.ref (rr 2)), some (.int (nI 1))] [] (n, I, J, q_up R (s + 1) 2 (some (rr 1))) 0 0)
    refine ⟨fun z => absurd z (by decide), fun _ => ?_⟩
    refine q_k 1 ?_
    show q_W L d 40 q_m40 Q 14 [some (.ref s), some (.int (nI 2)), some (.ref (rr 2)), some (.int (nI 1))] [.ref s] (n, I, J, q_up R (s + 1) 2 (some (rr 1))) 0 0
    refine q_gR (b := (s + 1)) rfl rfl (hs) (by first | exact hr | (simp (disch := omega) only [q_un, q_usk, q_usn, va_up_self, va_up_ne]; exact hr)) ?_
    refine q_k 2 ?_
    show q_W L d 40 q_m40 Q 19 [some (.ref s), some (.int (nI 2)), some (.ref (rr 2)), some (.int (nI 1))] [.ref s, .int (nI 1), .ref (s + 1)] (n, I, J, q_up R (s + 1) 2 (some (rr 1))) 0 0
    refine q_gR (b := (s + 1)) rfl rfl (hs) (by first | exact hr | (simp (disch := omega) only [q_un, q_usk, q_usn, va_up_self, va_up_ne]; exact hr)) ?_
    refine q_k 3 ?_
    show q_W L d 40 q_m40 Q 25 [some (.ref s), some (.int (nI 2)), some (.ref (rr 2)), some (.int (nI 1))] [.int ((nI 1) - (nI 1)), .ref (s + 1), .int (nI 1), .ref (s + 1)] (n, I, J, q_up R (s + 1) 2 (some (rr 1))) 0 0
    refine q_top (w := nI 0) (pk_sub (by decide)) ?_
    refine q_aal (m := 0) (b := (rr 0)) rfl (ha) ⟨rfl, rfl⟩ (by decide) rfl (by first | exact (hrr 0 (by omega)).1 | (simp (disch := omega) only [q_un, q_usk, q_usn, va_up_self, va_up_ne]; exact (hrr 0 (by omega)).1)) ?_
    refine q_aas (m := 1) rfl (ha) ⟨rfl, rfl⟩ ((hrr 0 (by omega)).2) (by decide) rfl ?_
    refine q_k 1 ?_
    show q_W L d 40 q_m40 Q 30 [some (.ref s), some (.int (nI 2)), some (.ref (rr 2)), some (.int ((nI 1) + -1))] [] (n, I, J, q_up (q_up R (s + 1) 2 (some (rr 1))) (s + 1) 1 (some (rr 0))) 0 0
    rw [show (nI 1) + -1 = nI 0 from pk_m1 0]
    refine q_k 2 ?_
    show q_W L d 40 q_m40 Q 10 [some (.ref s), some (.int (nI 2)), some (.ref (rr 2)), some (.int (nI 0))] [.int (nI 0)] (n, I, J, q_up (q_up R (s + 1) 2 (some (rr 1))) (s + 1) 1 (some (rr 0))) 0 0
    refine q_one rfl rfl ?_
    show ((nI 0) ≤ 0 → q_W L d 40 q_m40 Q 33 [some (.ref s), some (.int (nI 2)), some (.ref (rr 2)), some (.int (nI 0))] [] (n, I, J, q_up (q_up R (s + 1) 2 (some (rr 1))) (s + 1) 1 (some (rr 0))) 0 0) ∧ (¬ (nI 0) ≤ 0 → q_W L d 40 q_m40 Q 13 [some (.ref s), some (.int (nI 2)), some (.ref (rr 2)), some (.int (nI 0))] [] (n, I, J, q_up (q_up R (s + 1) 2 (some (rr 1))) (s + 1) 1 (some (rr 0))) 0 0)
    refine ⟨fun _ => ?_, fun z => absurd (by decide) z⟩
    refine q_k 1 ?_
    show q_W L d 40 q_m40 Q 34 [some (.ref s), some (.int (nI 2)), some (.ref (rr 2)), some (.int (nI 0))] [.ref s] (n, I, J, q_up (q_up R (s + 1) 2 (some (rr 1))) (s + 1) 1 (some (rr 0))) 0 0
    refine q_gR (b := (s + 1)) rfl rfl (hs) (by first | exact hr | (simp (disch := omega) only [q_un, q_usk, q_usn, va_up_self, va_up_ne]; exact hr)) ?_
    refine q_k 2 ?_
    show q_W L d 40 q_m40 Q 39 [some (.ref s), some (.int (nI 2)), some (.ref (rr 2)), some (.int (nI 0))] [.ref (rr 2), .int (nI 0), .ref (s + 1)] (n, I, J, q_up (q_up R (s + 1) 2 (some (rr 1))) (s + 1) 1 (some (rr 0))) 0 0
    refine q_aas (m := 0) rfl (ha) ⟨rfl, rfl⟩ ((hrr 2 (by omega)).2) (by decide) rfl ?_
    refine q_one rfl rfl ?_
    show Q (none) (n, I, J, q_up (q_up (q_up R (s + 1) 2 (some (rr 1))) (s + 1) 1 (some (rr 0))) (s + 1) 0 (some (rr 2)))
    refine hQ _ ?_ (fun i hi => ?_) (fun i hi => ?_) (fun x hx => ?_)
    · simp (disch := omega) only [q_un, q_usk, q_usn, va_up_self, va_up_ne]
    · have h0 : i = 0 ∨ i = 1 := by omega
      rcases h0 with rfl | rfl
      · simp (disch := omega) only [q_un, q_usk, q_usn, va_up_self, va_up_ne]
      · simp (disch := omega) only [q_un, q_usk, q_usn, va_up_self, va_up_ne]
    · simp (disch := omega) only [q_un, q_usk, q_usn, va_up_self, va_up_ne]
    · simp (disch := omega) only [q_un, q_usk, q_usn, va_up_self, va_up_ne]
theorem c_placeOfBase {L d n : Nat} {I : q_I} {J : q_L} {R : q_R} {Q : q_Q} {s m : Nat} {v : Int32} {rr : Nat → Nat} (hs : q_ob n s 6) (hr : R s 0 = some (s + 1)) (ha : q_ar n (s + 1) 4 3) (hm : I s 1 = nI m) (hm3 : m ≤ 3) (hrr : ∀ i, i < m → R (s + 1) i = some (rr i) ∧ q_ob n (rr i) 5) (hQ1 : ∀ k, k < m → g_first (fun k => decide (I (rr k) 0 = v)) m = k → Q (some (.int (nI k))) (n, I, J, R)) (hQ2 : g_first (fun k => decide (I (rr k) 0 = v)) m = m → Q (some (.int (-1))) (n, I, J, R)) : q_Ex L (d + 1) 41 [.ref s, .int v] (n, I, J, R) Q := by
  refine q_in (x := q_m41) rfl rfl ?_
  show q_W L d 41 q_m41 Q 0 [some (.ref s), some (.int v), none] [] (n, I, J, R) 0 0
  refine q_k 2 ?_
  show q_W L d 41 q_m41 Q 2 [some (.ref s), some (.int v), some (.int (nI 0))] [] (n, I, J, R) 0 0
  refine q_loop (σ := Unit) m (fun k _ => ∀ j, j < k → (fun k => decide (I (rr k) 0 = v)) j = false) (fun k _ => q_W L d 41 q_m41 Q 2 [some (.ref s), some (.int v), some (.int (nI k))] [] (n, I, J, R) 0 0) ?_ ?_ 0 () (Nat.zero_le _) ?_
  · intro _ hN
    show q_W L d 41 q_m41 Q 2 [some (.ref s), some (.int v), some (.int (nI m))] [] (n, I, J, R) 0 0
    refine q_k 2 ?_
    show q_W L d 41 q_m41 Q 4 [some (.ref s), some (.int v), some (.int (nI m))] [.ref s, .int (nI m)] (n, I, J, R) 0 0
    refine q_gI rfl rfl (hs) ?_
    refine q_top (w := nI m) (hm) ?_
    refine q_one rfl rfl ?_
    show ((nI m) ≤ (nI m) → q_W L d 41 q_m41 Q 31 [some (.ref s), some (.int v), some (.int (nI m))] [] (n, I, J, R) 0 0) ∧ (¬ (nI m) ≤ (nI m) → q_W L d 41 q_m41 Q 10 [some (.ref s), some (.int v), some (.int (nI m))] [] (n, I, J, R) 0 0)
    refine ⟨fun _ => ?_, fun z => absurd (nI_le (Nat.le_refl _) (by omega)) z⟩
    refine q_k 1 ?_
    show q_W L d 41 q_m41 Q 32 [some (.ref s), some (.int v), some (.int (nI m))] [.int (-1)] (n, I, J, R) 0 0
    refine q_one rfl rfl ?_
    show Q (some (.int (-1))) (n, I, J, R)
    exact hQ2 (g_first_u (Nat.le_refl _) hN (fun z => absurd z (Nat.lt_irrefl _)))
  · intro k _ hk hP ih
    show q_W L d 41 q_m41 Q 2 [some (.ref s), some (.int v), some (.int (nI k))] [] (n, I, J, R) 0 0
    refine q_k 2 ?_
    show q_W L d 41 q_m41 Q 4 [some (.ref s), some (.int v), some (.int (nI k))] [.ref s, .int (nI k)] (n, I, J, R) 0 0
    refine q_gI rfl rfl (hs) ?_
    refine q_top (w := nI m) (hm) ?_
    refine q_one rfl rfl ?_
    show ((nI m) ≤ (nI k) → q_W L d 41 q_m41 Q 31 [some (.ref s), some (.int v), some (.int (nI k))] [] (n, I, J, R) 0 0) ∧ (¬ (nI m) ≤ (nI k) → q_W L d 41 q_m41 Q 10 [some (.ref s), some (.int v), some (.int (nI k))] [] (n, I, J, R) 0 0)
    refine ⟨fun z => absurd z (nI_ge hk (by omega)), fun _ => ?_⟩
    refine q_k 1 ?_
    show q_W L d 41 q_m41 Q 11 [some (.ref s), some (.int v), some (.int (nI k))] [.ref s] (n, I, J, R) 0 0
    refine q_gR (b := (s + 1)) rfl rfl (hs) (hr) ?_
    refine q_k 1 ?_
    show q_W L d 41 q_m41 Q 15 [some (.ref s), some (.int v), some (.int (nI k))] [.int (nI k), .ref (s + 1)] (n, I, J, R) 0 0
    refine q_aal (m := k) (b := (rr k)) rfl (ha) ⟨rfl, rfl⟩ (by omega) rfl ((hrr k hk).1) ?_
    refine q_gI rfl rfl ((hrr k hk).2) ?_
    refine q_k 1 ?_
    show q_W L d 41 q_m41 Q 20 [some (.ref s), some (.int v), some (.int (nI k))] [.int v, .int (I (rr k) 0)] (n, I, J, R) 0 0
    refine q_one rfl rfl ?_
    show (¬ (I (rr k) 0) = v → q_W L d 41 q_m41 Q 25 [some (.ref s), some (.int v), some (.int (nI k))] [] (n, I, J, R) 0 0) ∧ ((I (rr k) 0) = v → q_W L d 41 q_m41 Q 23 [some (.ref s), some (.int v), some (.int (nI k))] [] (n, I, J, R) 0 0)
    refine ⟨fun h20 => ?_, fun h20 => ?_⟩
    · skip
      refine q_k 1 ?_
      show q_W L d 41 q_m41 Q 28 [some (.ref s), some (.int v), some (.int ((nI k) + nI 1))] [] (n, I, J, R) 0 0
      rw [show (nI k) + nI 1 = nI (k + 1) from nI_add _ _]
      refine q_k 1 ?_
      show q_W L d 41 q_m41 Q 2 [some (.ref s), some (.int v), some (.int (nI (k + 1)))] [] (n, I, J, R) 0 0
      refine ih () (fun j hj => ?_)
      by_cases e : j = k
      · subst e; exact decide_eq_false h20
      · exact hP j (by omega)
    · skip
      refine q_k 1 ?_
      show q_W L d 41 q_m41 Q 24 [some (.ref s), some (.int v), some (.int (nI k))] [.int (nI k)] (n, I, J, R) 0 0
      refine q_one rfl rfl ?_
      show Q (some (.int (nI k))) (n, I, J, R)
      exact hQ1 k hk (g_first_u (by omega) hP (fun _ => decide_eq_true h20))
  · exact fun j hj => absurd hj (Nat.not_lt_zero _)
theorem c_putInFront {L d n : Nat} {I : q_I} {J : q_L} {R : q_R} {Q : q_Q} {s m fresh : Nat} {rr : Nat → Nat} (hs : q_ob n s 6) (hr : R s 0 = some (s + 1)) (ha : q_ar n (s + 1) 4 3) (hsn : s + 2 ≤ 192) (hn : ∃ j, n = 214 + 10 * j) (hm : I s 1 = nI m) (hm3 : m ≤ 3) (hf : q_ob n fresh 5) (hrr : ∀ i, i < m → R (s + 1) i = some (rr i) ∧ q_ob n (rr i) 5) (hQ3 : m = 3 → ∀ I' R', I' s = va_up (I s) 1 (nI 3) → (∀ x, x ≠ s → I' x = I x) → R' (s + 1) 0 = some fresh → R' (s + 1) 1 = some (rr 0) → R' (s + 1) 2 = some (rr 1) → (∀ x, x ≠ s + 1 → R' x = R x) → Q (some (.ref (rr 2))) (n, I', J, R')) (hQn : m < 3 → ∀ I' J' R', I' s 1 = nI (m + 1) → R' (s + 1) 0 = some fresh → (∀ k, k < m → R' (s + 1) (k + 1) = some (rr k)) → (∀ x, x ≠ s → (x < n ∨ n + 10 ≤ x) → I' x = I x) → (∀ x, (x < n ∨ n + 10 ≤ x) → J' x = J x) → (∀ x, x ≠ s + 1 → (x < n ∨ n + 10 ≤ x) → R' x = R x) → q_Se (n + 10) R' n → Q (some (.ref n)) (n + 10, I', J', R')) : q_Ex L (d + 3) 38 [.ref s, .ref fresh] (n, I, J, R) Q := by
  refine q_in (x := q_m38) rfl rfl ?_
  show q_W L (d + 2) 38 q_m38 Q 0 [some (.ref s), some (.ref fresh), none, none] [] (n, I, J, R) 0 0
  have hsl : s + 2 ≤ 192 := hsn
  have hnl : 214 ≤ n := by obtain ⟨j, hj⟩ := hn; omega
  have hmm : m = 3 ∨ m = 0 ∨ m = 1 ∨ m = 2 := by omega
  rcases hmm with rfl | rfl | rfl | rfl
  · skip
    show q_W L (d + 2) 38 q_m38 Q 0 [some (.ref s), some (.ref fresh), none, none] [] (n, I, J, R) 0 0
    refine q_k 1 ?_
    show q_W L (d + 2) 38 q_m38 Q 1 [some (.ref s), some (.ref fresh), none, none] [.ref s] (n, I, J, R) 0 0
    refine q_gI rfl rfl (⟨Nat.lt_of_lt_of_le (hs).1 (by omega), (hs).2⟩) ?_
    refine q_top (w := nI 3) (hm) ?_
    refine q_k 1 ?_
    show q_W L (d + 2) 38 q_m38 Q 5 [some (.ref s), some (.ref fresh), none, none] [.int (nI 3), .int (nI 3)] (n, I, J, R) 0 0
    refine q_one rfl rfl ?_
    show (¬ (nI 3) = (nI 3) → q_W L (d + 2) 38 q_m38 Q 17 [some (.ref s), some (.ref fresh), none, none] [] (n, I, J, R) 0 0) ∧ ((nI 3) = (nI 3) → q_W L (d + 2) 38 q_m38 Q 8 [some (.ref s), some (.ref fresh), none, none] [] (n, I, J, R) 0 0)
    refine ⟨fun z => absurd (rfl) z, fun _ => ?_⟩
    refine q_k 1 ?_
    show q_W L (d + 2) 38 q_m38 Q 9 [some (.ref s), some (.ref fresh), none, none] [.ref s] (n, I, J, R) 0 0
    refine q_gR (b := (s + 1)) rfl rfl (⟨Nat.lt_of_lt_of_le (hs).1 (by omega), (hs).2⟩) (by first | exact hr | (simp (disch := omega) only [q_un, q_usk, q_usn, va_up_self, va_up_ne]; exact hr) | (simp (disch := omega) only [q_un, va_up_ne]; rw [(f1 s (by omega)).2.2, va_up_ne _ _ (by omega)]; exact hr) | (rw [(f1 s (by omega)).2.2, va_up_ne _ _ (by omega)]; exact hr)) ?_
    refine q_k 1 ?_
    show q_W L (d + 2) 38 q_m38 Q 13 [some (.ref s), some (.ref fresh), none, none] [.int (nI 2), .ref (s + 1)] (n, I, J, R) 0 0
    refine q_aal (m := 2) (b := (rr 2)) rfl (⟨ha.1, Nat.lt_of_lt_of_le ha.2.1 (by omega), ha.2.2⟩) ⟨rfl, rfl⟩ (by decide) rfl (by first | exact (hrr 2 (by omega)).1 | (simp (disch := omega) only [q_un, q_usk, q_usn, va_up_self, va_up_ne]; exact (hrr 2 (by omega)).1) | (simp (disch := omega) only [q_un, q_usk, q_usn, va_up_self, va_up_ne]; rw [(f1 (s + 1) (by omega)).2.2, va_up_ne _ _ (by omega)]; exact (hrr 2 (by omega)).1) | (rw [(f1 (s + 1) (by omega)).2.2, va_up_ne _ _ (by omega)]; exact (hrr 2 (by omega)).1)) ?_
    refine q_k 4 ?_
    show q_W L (d + 2) 38 q_m38 Q 27 [some (.ref s), some (.ref fresh), some (.ref (rr 2)), none] [.ref s, .ref s] (n, I, J, R) 0 0
    refine q_gI rfl rfl (⟨Nat.lt_of_lt_of_le (hs).1 (by omega), (hs).2⟩) ?_
    refine q_top (w := nI 3) (hm) ?_
    refine q_k 2 ?_
    show q_W L (d + 2) 38 q_m38 Q 32 [some (.ref s), some (.ref fresh), some (.ref (rr 2)), none] [.int ((nI 3) + (nI 1)), .ref s] (n, I, J, R) 0 0
    refine q_top (w := nI 4) (nI_add _ _) ?_
    refine q_k 1 ?_
    show q_W L (d + 2) 38 q_m38 Q 33 [some (.ref s), some (.ref fresh), some (.ref (rr 2)), none] [.int (nI 3), .int (nI 4), .ref s] (n, I, J, R) 0 0
    refine q_mmn rfl rfl rfl ?_
    refine q_top (w := nI 3) (q_mn (by decide) (by decide)) ?_
    refine q_pI rfl rfl rfl (⟨Nat.lt_of_lt_of_le (hs).1 (by omega), (hs).2⟩) ?_
    refine q_k 1 ?_
    show q_W L (d + 2) 38 q_m38 Q 40 [some (.ref s), some (.ref fresh), some (.ref (rr 2)), none] [.ref s] (n, q_up I s 1 (nI 3), J, R) 0 0
    refine q_gI rfl rfl (⟨Nat.lt_of_lt_of_le (hs).1 (by omega), (hs).2⟩) ?_
    refine q_top (w := nI 3) (by rw [q_usk]) ?_
    refine q_k 2 ?_
    show q_W L (d + 2) 38 q_m38 Q 45 [some (.ref s), some (.ref fresh), some (.ref (rr 2)), none] [.int ((nI 3) - (nI 1))] (n, q_up I s 1 (nI 3), J, R) 0 0
    refine q_top (w := nI 2) (pk_sub (by decide)) ?_
    refine q_k 2 ?_
    show q_W L (d + 2) 38 q_m38 Q 47 [some (.ref s), some (.ref fresh), some (.ref (rr 2)), some (.int (nI 2))] [.int (nI 2)] (n, q_up I s 1 (nI 3), J, R) 0 0
    refine q_one rfl rfl ?_
    show ((nI 2) ≤ 0 → q_W L (d + 2) 38 q_m38 Q 70 [some (.ref s), some (.ref fresh), some (.ref (rr 2)), some (.int (nI 2))] [] (n, q_up I s 1 (nI 3), J, R) 0 0) ∧ (¬ (nI 2) ≤ 0 → q_W L (d + 2) 38 q_m38 Q 50 [some (.ref s), some (.ref fresh), some (.ref (rr 2)), some (.int (nI 2))] [] (n, q_up I s 1 (nI 3), J, R) 0 0)
    refine ⟨fun z => absurd z (by decide), fun _ => ?_⟩
    refine q_k 1 ?_
    show q_W L (d + 2) 38 q_m38 Q 51 [some (.ref s), some (.ref fresh), some (.ref (rr 2)), some (.int (nI 2))] [.ref s] (n, q_up I s 1 (nI 3), J, R) 0 0
    refine q_gR (b := (s + 1)) rfl rfl (⟨Nat.lt_of_lt_of_le (hs).1 (by omega), (hs).2⟩) (by first | exact hr | (simp (disch := omega) only [q_un, q_usk, q_usn, va_up_self, va_up_ne]; exact hr) | (simp (disch := omega) only [q_un, va_up_ne]; rw [(f1 s (by omega)).2.2, va_up_ne _ _ (by omega)]; exact hr) | (rw [(f1 s (by omega)).2.2, va_up_ne _ _ (by omega)]; exact hr)) ?_
    refine q_k 2 ?_
    show q_W L (d + 2) 38 q_m38 Q 56 [some (.ref s), some (.ref fresh), some (.ref (rr 2)), some (.int (nI 2))] [.ref s, .int (nI 2), .ref (s + 1)] (n, q_up I s 1 (nI 3), J, R) 0 0
    refine q_gR (b := (s + 1)) rfl rfl (⟨Nat.lt_of_lt_of_le (hs).1 (by omega), (hs).2⟩) (by first | exact hr | (simp (disch := omega) only [q_un, q_usk, q_usn, va_up_self, va_up_ne]; exact hr) | (simp (disch := omega) only [q_un, va_up_ne]; rw [(f1 s (by omega)).2.2, va_up_ne _ _ (by omega)]; exact hr) | (rw [(f1 s (by omega)).2.2, va_up_ne _ _ (by omega)]; exact hr)) ?_
    refine q_k 3 ?_
    show q_W L (d + 2) 38 q_m38 Q 62 [some (.ref s), some (.ref fresh), some (.ref (rr 2)), some (.int (nI 2))] [.int ((nI 2) - (nI 1)), .ref (s + 1), .int (nI 2), .ref (s + 1)] (n, q_up I s 1 (nI 3), J, R) 0 0
    refine q_top (w := nI 1) (pk_sub (by decide)) ?_
    refine q_aal (m := 1) (b := (rr 1)) rfl (⟨ha.1, Nat.lt_of_lt_of_le ha.2.1 (by omega), ha.2.2⟩) ⟨rfl, rfl⟩ (by decide) rfl (by first | exact (hrr 1 (by omega)).1 | (simp (disch := omega) only [q_un, q_usk, q_usn, va_up_self, va_up_ne]; exact (hrr 1 (by omega)).1) | (simp (disch := omega) only [q_un, q_usk, q_usn, va_up_self, va_up_ne]; rw [(f1 (s + 1) (by omega)).2.2, va_up_ne _ _ (by omega)]; exact (hrr 1 (by omega)).1) | (rw [(f1 (s + 1) (by omega)).2.2, va_up_ne _ _ (by omega)]; exact (hrr 1 (by omega)).1)) ?_
    refine q_aas (m := 2) rfl (⟨ha.1, Nat.lt_of_lt_of_le ha.2.1 (by omega), ha.2.2⟩) ⟨rfl, rfl⟩ (⟨Nat.lt_of_lt_of_le ((hrr 1 (by omega)).2).1 (by omega), ((hrr 1 (by omega)).2).2⟩) (by decide) rfl ?_
    refine q_k 1 ?_
    show q_W L (d + 2) 38 q_m38 Q 67 [some (.ref s), some (.ref fresh), some (.ref (rr 2)), some (.int ((nI 2) + -1))] [] (n, q_up I s 1 (nI 3), J, q_up R (s + 1) 2 (some (rr 1))) 0 0
    rw [show (nI 2) + -1 = nI 1 from pk_m1 1]
    refine q_k 2 ?_
    show q_W L (d + 2) 38 q_m38 Q 47 [some (.ref s), some (.ref fresh), some (.ref (rr 2)), some (.int (nI 1))] [.int (nI 1)] (n, q_up I s 1 (nI 3), J, q_up R (s + 1) 2 (some (rr 1))) 0 0
    refine q_one rfl rfl ?_
    show ((nI 1) ≤ 0 → q_W L (d + 2) 38 q_m38 Q 70 [some (.ref s), some (.ref fresh), some (.ref (rr 2)), some (.int (nI 1))] [] (n, q_up I s 1 (nI 3), J, q_up R (s + 1) 2 (some (rr 1))) 0 0) ∧ (¬ (nI 1) ≤ 0 → q_W L (d + 2) 38 q_m38 Q 50 [some (.ref s), some (.ref fresh), some (.ref (rr 2)), some (.int (nI 1))] [] (n, q_up I s 1 (nI 3), J, q_up R (s + 1) 2 (some (rr 1))) 0 0)
    refine ⟨fun z => absurd z (by decide), fun _ => ?_⟩
    refine q_k 1 ?_
    show q_W L (d + 2) 38 q_m38 Q 51 [some (.ref s), some (.ref fresh), some (.ref (rr 2)), some (.int (nI 1))] [.ref s] (n, q_up I s 1 (nI 3), J, q_up R (s + 1) 2 (some (rr 1))) 0 0
    refine q_gR (b := (s + 1)) rfl rfl (⟨Nat.lt_of_lt_of_le (hs).1 (by omega), (hs).2⟩) (by first | exact hr | (simp (disch := omega) only [q_un, q_usk, q_usn, va_up_self, va_up_ne]; exact hr) | (simp (disch := omega) only [q_un, va_up_ne]; rw [(f1 s (by omega)).2.2, va_up_ne _ _ (by omega)]; exact hr) | (rw [(f1 s (by omega)).2.2, va_up_ne _ _ (by omega)]; exact hr)) ?_
    refine q_k 2 ?_
    show q_W L (d + 2) 38 q_m38 Q 56 [some (.ref s), some (.ref fresh), some (.ref (rr 2)), some (.int (nI 1))] [.ref s, .int (nI 1), .ref (s + 1)] (n, q_up I s 1 (nI 3), J, q_up R (s + 1) 2 (some (rr 1))) 0 0
    refine q_gR (b := (s + 1)) rfl rfl (⟨Nat.lt_of_lt_of_le (hs).1 (by omega), (hs).2⟩) (by first | exact hr | (simp (disch := omega) only [q_un, q_usk, q_usn, va_up_self, va_up_ne]; exact hr) | (simp (disch := omega) only [q_un, va_up_ne]; rw [(f1 s (by omega)).2.2, va_up_ne _ _ (by omega)]; exact hr) | (rw [(f1 s (by omega)).2.2, va_up_ne _ _ (by omega)]; exact hr)) ?_
    refine q_k 3 ?_
    show q_W L (d + 2) 38 q_m38 Q 62 [some (.ref s), some (.ref fresh), some (.ref (rr 2)), some (.int (nI 1))] [.int ((nI 1) - (nI 1)), .ref (s + 1), .int (nI 1), .ref (s + 1)] (n, q_up I s 1 (nI 3), J, q_up R (s + 1) 2 (some (rr 1))) 0 0
    refine q_top (w := nI 0) (pk_sub (by decide)) ?_
    refine q_aal (m := 0) (b := (rr 0)) rfl (⟨ha.1, Nat.lt_of_lt_of_le ha.2.1 (by omega), ha.2.2⟩) ⟨rfl, rfl⟩ (by decide) rfl (by first | exact (hrr 0 (by omega)).1 | (simp (disch := omega) only [q_un, q_usk, q_usn, va_up_self, va_up_ne]; exact (hrr 0 (by omega)).1) | (simp (disch := omega) only [q_un, q_usk, q_usn, va_up_self, va_up_ne]; rw [(f1 (s + 1) (by omega)).2.2, va_up_ne _ _ (by omega)]; exact (hrr 0 (by omega)).1) | (rw [(f1 (s + 1) (by omega)).2.2, va_up_ne _ _ (by omega)]; exact (hrr 0 (by omega)).1)) ?_
    refine q_aas (m := 1) rfl (⟨ha.1, Nat.lt_of_lt_of_le ha.2.1 (by omega), ha.2.2⟩) ⟨rfl, rfl⟩ (⟨Nat.lt_of_lt_of_le ((hrr 0 (by omega)).2).1 (by omega), ((hrr 0 (by omega)).2).2⟩) (by decide) rfl ?_
    refine q_k 1 ?_
    show q_W L (d + 2) 38 q_m38 Q 67 [some (.ref s), some (.ref fresh), some (.ref (rr 2)), some (.int ((nI 1) + -1))] [] (n, q_up I s 1 (nI 3), J, q_up (q_up R (s + 1) 2 (some (rr 1))) (s + 1) 1 (some (rr 0))) 0 0
    rw [show (nI 1) + -1 = nI 0 from pk_m1 0]
    refine q_k 2 ?_
    show q_W L (d + 2) 38 q_m38 Q 47 [some (.ref s), some (.ref fresh), some (.ref (rr 2)), some (.int (nI 0))] [.int (nI 0)] (n, q_up I s 1 (nI 3), J, q_up (q_up R (s + 1) 2 (some (rr 1))) (s + 1) 1 (some (rr 0))) 0 0
    refine q_one rfl rfl ?_
    show ((nI 0) ≤ 0 → q_W L (d + 2) 38 q_m38 Q 70 [some (.ref s), some (.ref fresh), some (.ref (rr 2)), some (.int (nI 0))] [] (n, q_up I s 1 (nI 3), J, q_up (q_up R (s + 1) 2 (some (rr 1))) (s + 1) 1 (some (rr 0))) 0 0) ∧ (¬ (nI 0) ≤ 0 → q_W L (d + 2) 38 q_m38 Q 50 [some (.ref s), some (.ref fresh), some (.ref (rr 2)), some (.int (nI 0))] [] (n, q_up I s 1 (nI 3), J, q_up (q_up R (s + 1) 2 (some (rr 1))) (s + 1) 1 (some (rr 0))) 0 0)
    refine ⟨fun _ => ?_, fun z => absurd (by decide) z⟩
    refine q_k 1 ?_
    show q_W L (d + 2) 38 q_m38 Q 71 [some (.ref s), some (.ref fresh), some (.ref (rr 2)), some (.int (nI 0))] [.ref s] (n, q_up I s 1 (nI 3), J, q_up (q_up R (s + 1) 2 (some (rr 1))) (s + 1) 1 (some (rr 0))) 0 0
    refine q_gR (b := (s + 1)) rfl rfl (⟨Nat.lt_of_lt_of_le (hs).1 (by omega), (hs).2⟩) (by first | exact hr | (simp (disch := omega) only [q_un, q_usk, q_usn, va_up_self, va_up_ne]; exact hr) | (simp (disch := omega) only [q_un, va_up_ne]; rw [(f1 s (by omega)).2.2, va_up_ne _ _ (by omega)]; exact hr) | (rw [(f1 s (by omega)).2.2, va_up_ne _ _ (by omega)]; exact hr)) ?_
    refine q_k 2 ?_
    show q_W L (d + 2) 38 q_m38 Q 76 [some (.ref s), some (.ref fresh), some (.ref (rr 2)), some (.int (nI 0))] [.ref fresh, .int (nI 0), .ref (s + 1)] (n, q_up I s 1 (nI 3), J, q_up (q_up R (s + 1) 2 (some (rr 1))) (s + 1) 1 (some (rr 0))) 0 0
    refine q_aas (m := 0) rfl (⟨ha.1, Nat.lt_of_lt_of_le ha.2.1 (by omega), ha.2.2⟩) ⟨rfl, rfl⟩ (⟨Nat.lt_of_lt_of_le (hf).1 (by omega), (hf).2⟩) (by decide) rfl ?_
    refine q_k 1 ?_
    show q_W L (d + 2) 38 q_m38 Q 78 [some (.ref s), some (.ref fresh), some (.ref (rr 2)), some (.int (nI 0))] [.ref (rr 2)] (n, q_up I s 1 (nI 3), J, q_up (q_up (q_up R (s + 1) 2 (some (rr 1))) (s + 1) 1 (some (rr 0))) (s + 1) 0 (some fresh)) 0 0
    refine q_one rfl rfl ?_
    show Q (some (.ref (rr 2))) (n, q_up I s 1 (nI 3), J, q_up (q_up (q_up R (s + 1) 2 (some (rr 1))) (s + 1) 1 (some (rr 0))) (s + 1) 0 (some fresh))
    refine hQ3 rfl _ _ ?_ (fun x hx => ?_) ?_ ?_ ?_ (fun x hx => ?_)
    · rw [q_us]
    · rw [q_un hx]
    · rw [q_usk]
    · simp (disch := omega) only [q_un, q_usk, q_usn, va_up_self, va_up_ne]
    · simp (disch := omega) only [q_un, q_usk, q_usn, va_up_self, va_up_ne]
    · simp (disch := omega) only [q_un]
  · skip
    show q_W L (d + 2) 38 q_m38 Q 0 [some (.ref s), some (.ref fresh), none, none] [] (n, I, J, R) 0 0
    refine q_k 1 ?_
    show q_W L (d + 2) 38 q_m38 Q 1 [some (.ref s), some (.ref fresh), none, none] [.ref s] (n, I, J, R) 0 0
    refine q_gI rfl rfl (⟨Nat.lt_of_lt_of_le (hs).1 (by omega), (hs).2⟩) ?_
    refine q_top (w := nI 0) (hm) ?_
    refine q_k 1 ?_
    show q_W L (d + 2) 38 q_m38 Q 5 [some (.ref s), some (.ref fresh), none, none] [.int (nI 3), .int (nI 0)] (n, I, J, R) 0 0
    refine q_one rfl rfl ?_
    show (¬ (nI 0) = (nI 3) → q_W L (d + 2) 38 q_m38 Q 17 [some (.ref s), some (.ref fresh), none, none] [] (n, I, J, R) 0 0) ∧ ((nI 0) = (nI 3) → q_W L (d + 2) 38 q_m38 Q 8 [some (.ref s), some (.ref fresh), none, none] [] (n, I, J, R) 0 0)
    refine ⟨fun _ => ?_, fun z => absurd z (fun z => absurd ((nI_eq (by decide) (by decide)).mp z) (by decide))⟩
    refine q_nw (n2 := n + 1) (uc2 := 1) (us2 := 16) rfl rfl (q_kdS (Or.inr hn) (i := 0) (by decide)) rfl rfl rfl ⟨rfl, rfl⟩ ?_
    refine q_k 1 ?_
    show q_W L (d + 2) 38 q_m38 Q 21 [some (.ref s), some (.ref fresh), none, none] [.ref n, .ref n] (n + 1, va_up I n (fun _ => 0), va_up J n (fun _ => 0), va_up R n (fun _ => none)) 1 16
    refine q_ci1A (as := []) (rs := [.ref n]) rfl rfl rfl rfl rfl ⟨by decide, by decide⟩ ?_
    refine c_SessInit (t := n) (Or.inr hn) (fun I1 J1 R1 f1 s1 => ?_)
    show q_W L (d + 2) 38 q_m38 Q 24 [some (.ref s), some (.ref fresh), none, none] [.ref n] (n + 10, I1, J1, R1) 10 334
    refine q_k 3 ?_
    show q_W L (d + 2) 38 q_m38 Q 27 [some (.ref s), some (.ref fresh), some (.ref n), none] [.ref s, .ref s] (n + 10, I1, J1, R1) 10 334
    refine q_gI rfl rfl (⟨Nat.lt_of_lt_of_le (hs).1 (by omega), (hs).2⟩) ?_
    refine q_top (w := nI 0) (by rw [(f1 s (by omega)).1, va_up_ne _ _ (by omega)]; exact hm) ?_
    refine q_k 2 ?_
    show q_W L (d + 2) 38 q_m38 Q 32 [some (.ref s), some (.ref fresh), some (.ref n), none] [.int ((nI 0) + (nI 1)), .ref s] (n + 10, I1, J1, R1) 10 334
    refine q_top (w := nI 1) (nI_add _ _) ?_
    refine q_k 1 ?_
    show q_W L (d + 2) 38 q_m38 Q 33 [some (.ref s), some (.ref fresh), some (.ref n), none] [.int (nI 3), .int (nI 1), .ref s] (n + 10, I1, J1, R1) 10 334
    refine q_mmn rfl rfl rfl ?_
    refine q_top (w := nI 1) (q_mn (by decide) (by decide)) ?_
    refine q_pI rfl rfl rfl (⟨Nat.lt_of_lt_of_le (hs).1 (by omega), (hs).2⟩) ?_
    refine q_k 1 ?_
    show q_W L (d + 2) 38 q_m38 Q 40 [some (.ref s), some (.ref fresh), some (.ref n), none] [.ref s] (n + 10, q_up I1 s 1 (nI 1), J1, R1) 10 334
    refine q_gI rfl rfl (⟨Nat.lt_of_lt_of_le (hs).1 (by omega), (hs).2⟩) ?_
    refine q_top (w := nI 1) (by rw [q_usk]) ?_
    refine q_k 2 ?_
    show q_W L (d + 2) 38 q_m38 Q 45 [some (.ref s), some (.ref fresh), some (.ref n), none] [.int ((nI 1) - (nI 1))] (n + 10, q_up I1 s 1 (nI 1), J1, R1) 10 334
    refine q_top (w := nI 0) (pk_sub (by decide)) ?_
    refine q_k 2 ?_
    show q_W L (d + 2) 38 q_m38 Q 47 [some (.ref s), some (.ref fresh), some (.ref n), some (.int (nI 0))] [.int (nI 0)] (n + 10, q_up I1 s 1 (nI 1), J1, R1) 10 334
    refine q_one rfl rfl ?_
    show ((nI 0) ≤ 0 → q_W L (d + 2) 38 q_m38 Q 70 [some (.ref s), some (.ref fresh), some (.ref n), some (.int (nI 0))] [] (n + 10, q_up I1 s 1 (nI 1), J1, R1) 10 334) ∧ (¬ (nI 0) ≤ 0 → q_W L (d + 2) 38 q_m38 Q 50 [some (.ref s), some (.ref fresh), some (.ref n), some (.int (nI 0))] [] (n + 10, q_up I1 s 1 (nI 1), J1, R1) 10 334)
    refine ⟨fun _ => ?_, fun z => absurd (by decide) z⟩
    refine q_k 1 ?_
    show q_W L (d + 2) 38 q_m38 Q 71 [some (.ref s), some (.ref fresh), some (.ref n), some (.int (nI 0))] [.ref s] (n + 10, q_up I1 s 1 (nI 1), J1, R1) 10 334
    refine q_gR (b := (s + 1)) rfl rfl (⟨Nat.lt_of_lt_of_le (hs).1 (by omega), (hs).2⟩) (by first | exact hr | (simp (disch := omega) only [q_un, q_usk, q_usn, va_up_self, va_up_ne]; exact hr) | (simp (disch := omega) only [q_un, va_up_ne]; rw [(f1 s (by omega)).2.2, va_up_ne _ _ (by omega)]; exact hr) | (rw [(f1 s (by omega)).2.2, va_up_ne _ _ (by omega)]; exact hr)) ?_
    refine q_k 2 ?_
    show q_W L (d + 2) 38 q_m38 Q 76 [some (.ref s), some (.ref fresh), some (.ref n), some (.int (nI 0))] [.ref fresh, .int (nI 0), .ref (s + 1)] (n + 10, q_up I1 s 1 (nI 1), J1, R1) 10 334
    refine q_aas (m := 0) rfl (⟨ha.1, Nat.lt_of_lt_of_le ha.2.1 (by omega), ha.2.2⟩) ⟨rfl, rfl⟩ (⟨Nat.lt_of_lt_of_le (hf).1 (by omega), (hf).2⟩) (by decide) rfl ?_
    refine q_k 1 ?_
    show q_W L (d + 2) 38 q_m38 Q 78 [some (.ref s), some (.ref fresh), some (.ref n), some (.int (nI 0))] [.ref n] (n + 10, q_up I1 s 1 (nI 1), J1, q_up R1 (s + 1) 0 (some fresh)) 10 334
    refine q_one rfl rfl ?_
    show Q (some (.ref n)) (n + 10, q_up I1 s 1 (nI 1), J1, q_up R1 (s + 1) 0 (some fresh))
    refine hQn (by decide) _ _ _ ?_ ?_ (fun k hk => ?_) (fun x hx hl => ?_) (fun x hl => ?_) (fun x hx hl => ?_) ?_
    · rw [q_usk]
    · rw [q_usk]
    · exact absurd hk (by omega)
    · rw [q_un hx, (f1 x (by omega)).1, va_up_ne _ _ (by omega)]
    · rw [(f1 x (by omega)).2.1, va_up_ne _ _ (by omega)]
    · simp (disch := omega) only [q_un]; rw [(f1 x (by omega)).2.2, va_up_ne _ _ (by omega)]
    · exact s1.to (Nat.le_refl _) (by simp (disch := omega) only [q_un]) (by simp (disch := omega) only [q_un])
  · skip
    show q_W L (d + 2) 38 q_m38 Q 0 [some (.ref s), some (.ref fresh), none, none] [] (n, I, J, R) 0 0
    refine q_k 1 ?_
    show q_W L (d + 2) 38 q_m38 Q 1 [some (.ref s), some (.ref fresh), none, none] [.ref s] (n, I, J, R) 0 0
    refine q_gI rfl rfl (⟨Nat.lt_of_lt_of_le (hs).1 (by omega), (hs).2⟩) ?_
    refine q_top (w := nI 1) (hm) ?_
    refine q_k 1 ?_
    show q_W L (d + 2) 38 q_m38 Q 5 [some (.ref s), some (.ref fresh), none, none] [.int (nI 3), .int (nI 1)] (n, I, J, R) 0 0
    refine q_one rfl rfl ?_
    show (¬ (nI 1) = (nI 3) → q_W L (d + 2) 38 q_m38 Q 17 [some (.ref s), some (.ref fresh), none, none] [] (n, I, J, R) 0 0) ∧ ((nI 1) = (nI 3) → q_W L (d + 2) 38 q_m38 Q 8 [some (.ref s), some (.ref fresh), none, none] [] (n, I, J, R) 0 0)
    refine ⟨fun _ => ?_, fun z => absurd z (fun z => absurd ((nI_eq (by decide) (by decide)).mp z) (by decide))⟩
    refine q_nw (n2 := n + 1) (uc2 := 1) (us2 := 16) rfl rfl (q_kdS (Or.inr hn) (i := 0) (by decide)) rfl rfl rfl ⟨rfl, rfl⟩ ?_
    refine q_k 1 ?_
    show q_W L (d + 2) 38 q_m38 Q 21 [some (.ref s), some (.ref fresh), none, none] [.ref n, .ref n] (n + 1, va_up I n (fun _ => 0), va_up J n (fun _ => 0), va_up R n (fun _ => none)) 1 16
    refine q_ci1A (as := []) (rs := [.ref n]) rfl rfl rfl rfl rfl ⟨by decide, by decide⟩ ?_
    refine c_SessInit (t := n) (Or.inr hn) (fun I1 J1 R1 f1 s1 => ?_)
    show q_W L (d + 2) 38 q_m38 Q 24 [some (.ref s), some (.ref fresh), none, none] [.ref n] (n + 10, I1, J1, R1) 10 334
    refine q_k 3 ?_
    show q_W L (d + 2) 38 q_m38 Q 27 [some (.ref s), some (.ref fresh), some (.ref n), none] [.ref s, .ref s] (n + 10, I1, J1, R1) 10 334
    refine q_gI rfl rfl (⟨Nat.lt_of_lt_of_le (hs).1 (by omega), (hs).2⟩) ?_
    refine q_top (w := nI 1) (by rw [(f1 s (by omega)).1, va_up_ne _ _ (by omega)]; exact hm) ?_
    refine q_k 2 ?_
    show q_W L (d + 2) 38 q_m38 Q 32 [some (.ref s), some (.ref fresh), some (.ref n), none] [.int ((nI 1) + (nI 1)), .ref s] (n + 10, I1, J1, R1) 10 334
    refine q_top (w := nI 2) (nI_add _ _) ?_
    refine q_k 1 ?_
    show q_W L (d + 2) 38 q_m38 Q 33 [some (.ref s), some (.ref fresh), some (.ref n), none] [.int (nI 3), .int (nI 2), .ref s] (n + 10, I1, J1, R1) 10 334
    refine q_mmn rfl rfl rfl ?_
    refine q_top (w := nI 2) (q_mn (by decide) (by decide)) ?_
    refine q_pI rfl rfl rfl (⟨Nat.lt_of_lt_of_le (hs).1 (by omega), (hs).2⟩) ?_
    refine q_k 1 ?_
    show q_W L (d + 2) 38 q_m38 Q 40 [some (.ref s), some (.ref fresh), some (.ref n), none] [.ref s] (n + 10, q_up I1 s 1 (nI 2), J1, R1) 10 334
    refine q_gI rfl rfl (⟨Nat.lt_of_lt_of_le (hs).1 (by omega), (hs).2⟩) ?_
    refine q_top (w := nI 2) (by rw [q_usk]) ?_
    refine q_k 2 ?_
    show q_W L (d + 2) 38 q_m38 Q 45 [some (.ref s), some (.ref fresh), some (.ref n), none] [.int ((nI 2) - (nI 1))] (n + 10, q_up I1 s 1 (nI 2), J1, R1) 10 334
    refine q_top (w := nI 1) (pk_sub (by decide)) ?_
    refine q_k 2 ?_
    show q_W L (d + 2) 38 q_m38 Q 47 [some (.ref s), some (.ref fresh), some (.ref n), some (.int (nI 1))] [.int (nI 1)] (n + 10, q_up I1 s 1 (nI 2), J1, R1) 10 334
    refine q_one rfl rfl ?_
    show ((nI 1) ≤ 0 → q_W L (d + 2) 38 q_m38 Q 70 [some (.ref s), some (.ref fresh), some (.ref n), some (.int (nI 1))] [] (n + 10, q_up I1 s 1 (nI 2), J1, R1) 10 334) ∧ (¬ (nI 1) ≤ 0 → q_W L (d + 2) 38 q_m38 Q 50 [some (.ref s), some (.ref fresh), some (.ref n), some (.int (nI 1))] [] (n + 10, q_up I1 s 1 (nI 2), J1, R1) 10 334)
    refine ⟨fun z => absurd z (by decide), fun _ => ?_⟩
    refine q_k 1 ?_
    show q_W L (d + 2) 38 q_m38 Q 51 [some (.ref s), some (.ref fresh), some (.ref n), some (.int (nI 1))] [.ref s] (n + 10, q_up I1 s 1 (nI 2), J1, R1) 10 334
    refine q_gR (b := (s + 1)) rfl rfl (⟨Nat.lt_of_lt_of_le (hs).1 (by omega), (hs).2⟩) (by first | exact hr | (simp (disch := omega) only [q_un, q_usk, q_usn, va_up_self, va_up_ne]; exact hr) | (simp (disch := omega) only [q_un, va_up_ne]; rw [(f1 s (by omega)).2.2, va_up_ne _ _ (by omega)]; exact hr) | (rw [(f1 s (by omega)).2.2, va_up_ne _ _ (by omega)]; exact hr)) ?_
    refine q_k 2 ?_
    show q_W L (d + 2) 38 q_m38 Q 56 [some (.ref s), some (.ref fresh), some (.ref n), some (.int (nI 1))] [.ref s, .int (nI 1), .ref (s + 1)] (n + 10, q_up I1 s 1 (nI 2), J1, R1) 10 334
    refine q_gR (b := (s + 1)) rfl rfl (⟨Nat.lt_of_lt_of_le (hs).1 (by omega), (hs).2⟩) (by first | exact hr | (simp (disch := omega) only [q_un, q_usk, q_usn, va_up_self, va_up_ne]; exact hr) | (simp (disch := omega) only [q_un, va_up_ne]; rw [(f1 s (by omega)).2.2, va_up_ne _ _ (by omega)]; exact hr) | (rw [(f1 s (by omega)).2.2, va_up_ne _ _ (by omega)]; exact hr)) ?_
    refine q_k 3 ?_
    show q_W L (d + 2) 38 q_m38 Q 62 [some (.ref s), some (.ref fresh), some (.ref n), some (.int (nI 1))] [.int ((nI 1) - (nI 1)), .ref (s + 1), .int (nI 1), .ref (s + 1)] (n + 10, q_up I1 s 1 (nI 2), J1, R1) 10 334
    refine q_top (w := nI 0) (pk_sub (by decide)) ?_
    refine q_aal (m := 0) (b := (rr 0)) rfl (⟨ha.1, Nat.lt_of_lt_of_le ha.2.1 (by omega), ha.2.2⟩) ⟨rfl, rfl⟩ (by decide) rfl (by first | exact (hrr 0 (by omega)).1 | (simp (disch := omega) only [q_un, q_usk, q_usn, va_up_self, va_up_ne]; exact (hrr 0 (by omega)).1) | (simp (disch := omega) only [q_un, q_usk, q_usn, va_up_self, va_up_ne]; rw [(f1 (s + 1) (by omega)).2.2, va_up_ne _ _ (by omega)]; exact (hrr 0 (by omega)).1) | (rw [(f1 (s + 1) (by omega)).2.2, va_up_ne _ _ (by omega)]; exact (hrr 0 (by omega)).1)) ?_
    refine q_aas (m := 1) rfl (⟨ha.1, Nat.lt_of_lt_of_le ha.2.1 (by omega), ha.2.2⟩) ⟨rfl, rfl⟩ (⟨Nat.lt_of_lt_of_le ((hrr 0 (by omega)).2).1 (by omega), ((hrr 0 (by omega)).2).2⟩) (by decide) rfl ?_
    refine q_k 1 ?_
    show q_W L (d + 2) 38 q_m38 Q 67 [some (.ref s), some (.ref fresh), some (.ref n), some (.int ((nI 1) + -1))] [] (n + 10, q_up I1 s 1 (nI 2), J1, q_up R1 (s + 1) 1 (some (rr 0))) 10 334
    rw [show (nI 1) + -1 = nI 0 from pk_m1 0]
    refine q_k 2 ?_
    show q_W L (d + 2) 38 q_m38 Q 47 [some (.ref s), some (.ref fresh), some (.ref n), some (.int (nI 0))] [.int (nI 0)] (n + 10, q_up I1 s 1 (nI 2), J1, q_up R1 (s + 1) 1 (some (rr 0))) 10 334
    refine q_one rfl rfl ?_
    show ((nI 0) ≤ 0 → q_W L (d + 2) 38 q_m38 Q 70 [some (.ref s), some (.ref fresh), some (.ref n), some (.int (nI 0))] [] (n + 10, q_up I1 s 1 (nI 2), J1, q_up R1 (s + 1) 1 (some (rr 0))) 10 334) ∧ (¬ (nI 0) ≤ 0 → q_W L (d + 2) 38 q_m38 Q 50 [some (.ref s), some (.ref fresh), some (.ref n), some (.int (nI 0))] [] (n + 10, q_up I1 s 1 (nI 2), J1, q_up R1 (s + 1) 1 (some (rr 0))) 10 334)
    refine ⟨fun _ => ?_, fun z => absurd (by decide) z⟩
    refine q_k 1 ?_
    show q_W L (d + 2) 38 q_m38 Q 71 [some (.ref s), some (.ref fresh), some (.ref n), some (.int (nI 0))] [.ref s] (n + 10, q_up I1 s 1 (nI 2), J1, q_up R1 (s + 1) 1 (some (rr 0))) 10 334
    refine q_gR (b := (s + 1)) rfl rfl (⟨Nat.lt_of_lt_of_le (hs).1 (by omega), (hs).2⟩) (by first | exact hr | (simp (disch := omega) only [q_un, q_usk, q_usn, va_up_self, va_up_ne]; exact hr) | (simp (disch := omega) only [q_un, va_up_ne]; rw [(f1 s (by omega)).2.2, va_up_ne _ _ (by omega)]; exact hr) | (rw [(f1 s (by omega)).2.2, va_up_ne _ _ (by omega)]; exact hr)) ?_
    refine q_k 2 ?_
    show q_W L (d + 2) 38 q_m38 Q 76 [some (.ref s), some (.ref fresh), some (.ref n), some (.int (nI 0))] [.ref fresh, .int (nI 0), .ref (s + 1)] (n + 10, q_up I1 s 1 (nI 2), J1, q_up R1 (s + 1) 1 (some (rr 0))) 10 334
    refine q_aas (m := 0) rfl (⟨ha.1, Nat.lt_of_lt_of_le ha.2.1 (by omega), ha.2.2⟩) ⟨rfl, rfl⟩ (⟨Nat.lt_of_lt_of_le (hf).1 (by omega), (hf).2⟩) (by decide) rfl ?_
    refine q_k 1 ?_
    show q_W L (d + 2) 38 q_m38 Q 78 [some (.ref s), some (.ref fresh), some (.ref n), some (.int (nI 0))] [.ref n] (n + 10, q_up I1 s 1 (nI 2), J1, q_up (q_up R1 (s + 1) 1 (some (rr 0))) (s + 1) 0 (some fresh)) 10 334
    refine q_one rfl rfl ?_
    show Q (some (.ref n)) (n + 10, q_up I1 s 1 (nI 2), J1, q_up (q_up R1 (s + 1) 1 (some (rr 0))) (s + 1) 0 (some fresh))
    refine hQn (by decide) _ _ _ ?_ ?_ (fun k hk => ?_) (fun x hx hl => ?_) (fun x hl => ?_) (fun x hx hl => ?_) ?_
    · rw [q_usk]
    · rw [q_usk]
    · have h0 : k = 0 := by omega
      subst h0; simp (disch := omega) only [q_un, q_usk, q_usn, va_up_self, va_up_ne]
    · rw [q_un hx, (f1 x (by omega)).1, va_up_ne _ _ (by omega)]
    · rw [(f1 x (by omega)).2.1, va_up_ne _ _ (by omega)]
    · simp (disch := omega) only [q_un]; rw [(f1 x (by omega)).2.2, va_up_ne _ _ (by omega)]
    · exact s1.to (Nat.le_refl _) (by simp (disch := omega) only [q_un]) (by simp (disch := omega) only [q_un])
  · skip
    show q_W L (d + 2) 38 q_m38 Q 0 [some (.ref s), some (.ref fresh), none, none] [] (n, I, J, R) 0 0
    refine q_k 1 ?_
    show q_W L (d + 2) 38 q_m38 Q 1 [some (.ref s), some (.ref fresh), none, none] [.ref s] (n, I, J, R) 0 0
    refine q_gI rfl rfl (⟨Nat.lt_of_lt_of_le (hs).1 (by omega), (hs).2⟩) ?_
    refine q_top (w := nI 2) (hm) ?_
    refine q_k 1 ?_
    show q_W L (d + 2) 38 q_m38 Q 5 [some (.ref s), some (.ref fresh), none, none] [.int (nI 3), .int (nI 2)] (n, I, J, R) 0 0
    refine q_one rfl rfl ?_
    show (¬ (nI 2) = (nI 3) → q_W L (d + 2) 38 q_m38 Q 17 [some (.ref s), some (.ref fresh), none, none] [] (n, I, J, R) 0 0) ∧ ((nI 2) = (nI 3) → q_W L (d + 2) 38 q_m38 Q 8 [some (.ref s), some (.ref fresh), none, none] [] (n, I, J, R) 0 0)
    refine ⟨fun _ => ?_, fun z => absurd z (fun z => absurd ((nI_eq (by decide) (by decide)).mp z) (by decide))⟩
    refine q_nw (n2 := n + 1) (uc2 := 1) (us2 := 16) rfl rfl (q_kdS (Or.inr hn) (i := 0) (by decide)) rfl rfl rfl ⟨rfl, rfl⟩ ?_
    refine q_k 1 ?_
    show q_W L (d + 2) 38 q_m38 Q 21 [some (.ref s), some (.ref fresh), none, none] [.ref n, .ref n] (n + 1, va_up I n (fun _ => 0), va_up J n (fun _ => 0), va_up R n (fun _ => none)) 1 16
    refine q_ci1A (as := []) (rs := [.ref n]) rfl rfl rfl rfl rfl ⟨by decide, by decide⟩ ?_
    refine c_SessInit (t := n) (Or.inr hn) (fun I1 J1 R1 f1 s1 => ?_)
    show q_W L (d + 2) 38 q_m38 Q 24 [some (.ref s), some (.ref fresh), none, none] [.ref n] (n + 10, I1, J1, R1) 10 334
    refine q_k 3 ?_
    show q_W L (d + 2) 38 q_m38 Q 27 [some (.ref s), some (.ref fresh), some (.ref n), none] [.ref s, .ref s] (n + 10, I1, J1, R1) 10 334
    refine q_gI rfl rfl (⟨Nat.lt_of_lt_of_le (hs).1 (by omega), (hs).2⟩) ?_
    refine q_top (w := nI 2) (by rw [(f1 s (by omega)).1, va_up_ne _ _ (by omega)]; exact hm) ?_
    refine q_k 2 ?_
    show q_W L (d + 2) 38 q_m38 Q 32 [some (.ref s), some (.ref fresh), some (.ref n), none] [.int ((nI 2) + (nI 1)), .ref s] (n + 10, I1, J1, R1) 10 334
    refine q_top (w := nI 3) (nI_add _ _) ?_
    refine q_k 1 ?_
    show q_W L (d + 2) 38 q_m38 Q 33 [some (.ref s), some (.ref fresh), some (.ref n), none] [.int (nI 3), .int (nI 3), .ref s] (n + 10, I1, J1, R1) 10 334
    refine q_mmn rfl rfl rfl ?_
    refine q_top (w := nI 3) (q_mn (by decide) (by decide)) ?_
    refine q_pI rfl rfl rfl (⟨Nat.lt_of_lt_of_le (hs).1 (by omega), (hs).2⟩) ?_
    refine q_k 1 ?_
    show q_W L (d + 2) 38 q_m38 Q 40 [some (.ref s), some (.ref fresh), some (.ref n), none] [.ref s] (n + 10, q_up I1 s 1 (nI 3), J1, R1) 10 334
    refine q_gI rfl rfl (⟨Nat.lt_of_lt_of_le (hs).1 (by omega), (hs).2⟩) ?_
    refine q_top (w := nI 3) (by rw [q_usk]) ?_
    refine q_k 2 ?_
    show q_W L (d + 2) 38 q_m38 Q 45 [some (.ref s), some (.ref fresh), some (.ref n), none] [.int ((nI 3) - (nI 1))] (n + 10, q_up I1 s 1 (nI 3), J1, R1) 10 334
    refine q_top (w := nI 2) (pk_sub (by decide)) ?_
    refine q_k 2 ?_
    show q_W L (d + 2) 38 q_m38 Q 47 [some (.ref s), some (.ref fresh), some (.ref n), some (.int (nI 2))] [.int (nI 2)] (n + 10, q_up I1 s 1 (nI 3), J1, R1) 10 334
    refine q_one rfl rfl ?_
    show ((nI 2) ≤ 0 → q_W L (d + 2) 38 q_m38 Q 70 [some (.ref s), some (.ref fresh), some (.ref n), some (.int (nI 2))] [] (n + 10, q_up I1 s 1 (nI 3), J1, R1) 10 334) ∧ (¬ (nI 2) ≤ 0 → q_W L (d + 2) 38 q_m38 Q 50 [some (.ref s), some (.ref fresh), some (.ref n), some (.int (nI 2))] [] (n + 10, q_up I1 s 1 (nI 3), J1, R1) 10 334)
    refine ⟨fun z => absurd z (by decide), fun _ => ?_⟩
    refine q_k 1 ?_
    show q_W L (d + 2) 38 q_m38 Q 51 [some (.ref s), some (.ref fresh), some (.ref n), some (.int (nI 2))] [.ref s] (n + 10, q_up I1 s 1 (nI 3), J1, R1) 10 334
    refine q_gR (b := (s + 1)) rfl rfl (⟨Nat.lt_of_lt_of_le (hs).1 (by omega), (hs).2⟩) (by first | exact hr | (simp (disch := omega) only [q_un, q_usk, q_usn, va_up_self, va_up_ne]; exact hr) | (simp (disch := omega) only [q_un, va_up_ne]; rw [(f1 s (by omega)).2.2, va_up_ne _ _ (by omega)]; exact hr) | (rw [(f1 s (by omega)).2.2, va_up_ne _ _ (by omega)]; exact hr)) ?_
    refine q_k 2 ?_
    show q_W L (d + 2) 38 q_m38 Q 56 [some (.ref s), some (.ref fresh), some (.ref n), some (.int (nI 2))] [.ref s, .int (nI 2), .ref (s + 1)] (n + 10, q_up I1 s 1 (nI 3), J1, R1) 10 334
    refine q_gR (b := (s + 1)) rfl rfl (⟨Nat.lt_of_lt_of_le (hs).1 (by omega), (hs).2⟩) (by first | exact hr | (simp (disch := omega) only [q_un, q_usk, q_usn, va_up_self, va_up_ne]; exact hr) | (simp (disch := omega) only [q_un, va_up_ne]; rw [(f1 s (by omega)).2.2, va_up_ne _ _ (by omega)]; exact hr) | (rw [(f1 s (by omega)).2.2, va_up_ne _ _ (by omega)]; exact hr)) ?_
    refine q_k 3 ?_
    show q_W L (d + 2) 38 q_m38 Q 62 [some (.ref s), some (.ref fresh), some (.ref n), some (.int (nI 2))] [.int ((nI 2) - (nI 1)), .ref (s + 1), .int (nI 2), .ref (s + 1)] (n + 10, q_up I1 s 1 (nI 3), J1, R1) 10 334
    refine q_top (w := nI 1) (pk_sub (by decide)) ?_
    refine q_aal (m := 1) (b := (rr 1)) rfl (⟨ha.1, Nat.lt_of_lt_of_le ha.2.1 (by omega), ha.2.2⟩) ⟨rfl, rfl⟩ (by decide) rfl (by first | exact (hrr 1 (by omega)).1 | (simp (disch := omega) only [q_un, q_usk, q_usn, va_up_self, va_up_ne]; exact (hrr 1 (by omega)).1) | (simp (disch := omega) only [q_un, q_usk, q_usn, va_up_self, va_up_ne]; rw [(f1 (s + 1) (by omega)).2.2, va_up_ne _ _ (by omega)]; exact (hrr 1 (by omega)).1) | (rw [(f1 (s + 1) (by omega)).2.2, va_up_ne _ _ (by omega)]; exact (hrr 1 (by omega)).1)) ?_
    refine q_aas (m := 2) rfl (⟨ha.1, Nat.lt_of_lt_of_le ha.2.1 (by omega), ha.2.2⟩) ⟨rfl, rfl⟩ (⟨Nat.lt_of_lt_of_le ((hrr 1 (by omega)).2).1 (by omega), ((hrr 1 (by omega)).2).2⟩) (by decide) rfl ?_
    refine q_k 1 ?_
    show q_W L (d + 2) 38 q_m38 Q 67 [some (.ref s), some (.ref fresh), some (.ref n), some (.int ((nI 2) + -1))] [] (n + 10, q_up I1 s 1 (nI 3), J1, q_up R1 (s + 1) 2 (some (rr 1))) 10 334
    rw [show (nI 2) + -1 = nI 1 from pk_m1 1]
    refine q_k 2 ?_
    show q_W L (d + 2) 38 q_m38 Q 47 [some (.ref s), some (.ref fresh), some (.ref n), some (.int (nI 1))] [.int (nI 1)] (n + 10, q_up I1 s 1 (nI 3), J1, q_up R1 (s + 1) 2 (some (rr 1))) 10 334
    refine q_one rfl rfl ?_
    show ((nI 1) ≤ 0 → q_W L (d + 2) 38 q_m38 Q 70 [some (.ref s), some (.ref fresh), some (.ref n), some (.int (nI 1))] [] (n + 10, q_up I1 s 1 (nI 3), J1, q_up R1 (s + 1) 2 (some (rr 1))) 10 334) ∧ (¬ (nI 1) ≤ 0 → q_W L (d + 2) 38 q_m38 Q 50 [some (.ref s), some (.ref fresh), some (.ref n), some (.int (nI 1))] [] (n + 10, q_up I1 s 1 (nI 3), J1, q_up R1 (s + 1) 2 (some (rr 1))) 10 334)
    refine ⟨fun z => absurd z (by decide), fun _ => ?_⟩
    refine q_k 1 ?_
    show q_W L (d + 2) 38 q_m38 Q 51 [some (.ref s), some (.ref fresh), some (.ref n), some (.int (nI 1))] [.ref s] (n + 10, q_up I1 s 1 (nI 3), J1, q_up R1 (s + 1) 2 (some (rr 1))) 10 334
    refine q_gR (b := (s + 1)) rfl rfl (⟨Nat.lt_of_lt_of_le (hs).1 (by omega), (hs).2⟩) (by first | exact hr | (simp (disch := omega) only [q_un, q_usk, q_usn, va_up_self, va_up_ne]; exact hr) | (simp (disch := omega) only [q_un, va_up_ne]; rw [(f1 s (by omega)).2.2, va_up_ne _ _ (by omega)]; exact hr) | (rw [(f1 s (by omega)).2.2, va_up_ne _ _ (by omega)]; exact hr)) ?_
    refine q_k 2 ?_
    show q_W L (d + 2) 38 q_m38 Q 56 [some (.ref s), some (.ref fresh), some (.ref n), some (.int (nI 1))] [.ref s, .int (nI 1), .ref (s + 1)] (n + 10, q_up I1 s 1 (nI 3), J1, q_up R1 (s + 1) 2 (some (rr 1))) 10 334
    refine q_gR (b := (s + 1)) rfl rfl (⟨Nat.lt_of_lt_of_le (hs).1 (by omega), (hs).2⟩) (by first | exact hr | (simp (disch := omega) only [q_un, q_usk, q_usn, va_up_self, va_up_ne]; exact hr) | (simp (disch := omega) only [q_un, va_up_ne]; rw [(f1 s (by omega)).2.2, va_up_ne _ _ (by omega)]; exact hr) | (rw [(f1 s (by omega)).2.2, va_up_ne _ _ (by omega)]; exact hr)) ?_
    refine q_k 3 ?_
    show q_W L (d + 2) 38 q_m38 Q 62 [some (.ref s), some (.ref fresh), some (.ref n), some (.int (nI 1))] [.int ((nI 1) - (nI 1)), .ref (s + 1), .int (nI 1), .ref (s + 1)] (n + 10, q_up I1 s 1 (nI 3), J1, q_up R1 (s + 1) 2 (some (rr 1))) 10 334
    refine q_top (w := nI 0) (pk_sub (by decide)) ?_
    refine q_aal (m := 0) (b := (rr 0)) rfl (⟨ha.1, Nat.lt_of_lt_of_le ha.2.1 (by omega), ha.2.2⟩) ⟨rfl, rfl⟩ (by decide) rfl (by first | exact (hrr 0 (by omega)).1 | (simp (disch := omega) only [q_un, q_usk, q_usn, va_up_self, va_up_ne]; exact (hrr 0 (by omega)).1) | (simp (disch := omega) only [q_un, q_usk, q_usn, va_up_self, va_up_ne]; rw [(f1 (s + 1) (by omega)).2.2, va_up_ne _ _ (by omega)]; exact (hrr 0 (by omega)).1) | (rw [(f1 (s + 1) (by omega)).2.2, va_up_ne _ _ (by omega)]; exact (hrr 0 (by omega)).1)) ?_
    refine q_aas (m := 1) rfl (⟨ha.1, Nat.lt_of_lt_of_le ha.2.1 (by omega), ha.2.2⟩) ⟨rfl, rfl⟩ (⟨Nat.lt_of_lt_of_le ((hrr 0 (by omega)).2).1 (by omega), ((hrr 0 (by omega)).2).2⟩) (by decide) rfl ?_
    refine q_k 1 ?_
    show q_W L (d + 2) 38 q_m38 Q 67 [some (.ref s), some (.ref fresh), some (.ref n), some (.int ((nI 1) + -1))] [] (n + 10, q_up I1 s 1 (nI 3), J1, q_up (q_up R1 (s + 1) 2 (some (rr 1))) (s + 1) 1 (some (rr 0))) 10 334
    rw [show (nI 1) + -1 = nI 0 from pk_m1 0]
    refine q_k 2 ?_
    show q_W L (d + 2) 38 q_m38 Q 47 [some (.ref s), some (.ref fresh), some (.ref n), some (.int (nI 0))] [.int (nI 0)] (n + 10, q_up I1 s 1 (nI 3), J1, q_up (q_up R1 (s + 1) 2 (some (rr 1))) (s + 1) 1 (some (rr 0))) 10 334
    refine q_one rfl rfl ?_
    show ((nI 0) ≤ 0 → q_W L (d + 2) 38 q_m38 Q 70 [some (.ref s), some (.ref fresh), some (.ref n), some (.int (nI 0))] [] (n + 10, q_up I1 s 1 (nI 3), J1, q_up (q_up R1 (s + 1) 2 (some (rr 1))) (s + 1) 1 (some (rr 0))) 10 334) ∧ (¬ (nI 0) ≤ 0 → q_W L (d + 2) 38 q_m38 Q 50 [some (.ref s), some (.ref fresh), some (.ref n), some (.int (nI 0))] [] (n + 10, q_up I1 s 1 (nI 3), J1, q_up (q_up R1 (s + 1) 2 (some (rr 1))) (s + 1) 1 (some (rr 0))) 10 334)
    refine ⟨fun _ => ?_, fun z => absurd (by decide) z⟩
    refine q_k 1 ?_
    show q_W L (d + 2) 38 q_m38 Q 71 [some (.ref s), some (.ref fresh), some (.ref n), some (.int (nI 0))] [.ref s] (n + 10, q_up I1 s 1 (nI 3), J1, q_up (q_up R1 (s + 1) 2 (some (rr 1))) (s + 1) 1 (some (rr 0))) 10 334
    refine q_gR (b := (s + 1)) rfl rfl (⟨Nat.lt_of_lt_of_le (hs).1 (by omega), (hs).2⟩) (by first | exact hr | (simp (disch := omega) only [q_un, q_usk, q_usn, va_up_self, va_up_ne]; exact hr) | (simp (disch := omega) only [q_un, va_up_ne]; rw [(f1 s (by omega)).2.2, va_up_ne _ _ (by omega)]; exact hr) | (rw [(f1 s (by omega)).2.2, va_up_ne _ _ (by omega)]; exact hr)) ?_
    refine q_k 2 ?_
    show q_W L (d + 2) 38 q_m38 Q 76 [some (.ref s), some (.ref fresh), some (.ref n), some (.int (nI 0))] [.ref fresh, .int (nI 0), .ref (s + 1)] (n + 10, q_up I1 s 1 (nI 3), J1, q_up (q_up R1 (s + 1) 2 (some (rr 1))) (s + 1) 1 (some (rr 0))) 10 334
    refine q_aas (m := 0) rfl (⟨ha.1, Nat.lt_of_lt_of_le ha.2.1 (by omega), ha.2.2⟩) ⟨rfl, rfl⟩ (⟨Nat.lt_of_lt_of_le (hf).1 (by omega), (hf).2⟩) (by decide) rfl ?_
    refine q_k 1 ?_
    show q_W L (d + 2) 38 q_m38 Q 78 [some (.ref s), some (.ref fresh), some (.ref n), some (.int (nI 0))] [.ref n] (n + 10, q_up I1 s 1 (nI 3), J1, q_up (q_up (q_up R1 (s + 1) 2 (some (rr 1))) (s + 1) 1 (some (rr 0))) (s + 1) 0 (some fresh)) 10 334
    refine q_one rfl rfl ?_
    show Q (some (.ref n)) (n + 10, q_up I1 s 1 (nI 3), J1, q_up (q_up (q_up R1 (s + 1) 2 (some (rr 1))) (s + 1) 1 (some (rr 0))) (s + 1) 0 (some fresh))
    refine hQn (by decide) _ _ _ ?_ ?_ (fun k hk => ?_) (fun x hx hl => ?_) (fun x hl => ?_) (fun x hx hl => ?_) ?_
    · rw [q_usk]
    · rw [q_usk]
    · have h0 : k = 0 ∨ k = 1 := by omega
      rcases h0 with rfl | rfl
      · simp (disch := omega) only [q_un, q_usk, q_usn, va_up_self, va_up_ne]
      · simp (disch := omega) only [q_un, q_usk, q_usn, va_up_self, va_up_ne]
    · rw [q_un hx, (f1 x (by omega)).1, va_up_ne _ _ (by omega)]
    · rw [(f1 x (by omega)).2.1, va_up_ne _ _ (by omega)]
    · simp (disch := omega) only [q_un]; rw [(f1 x (by omega)).2.2, va_up_ne _ _ (by omega)]
    · exact s1.to (Nat.le_refl _) (by simp (disch := omega) only [q_un]) (by simp (disch := omega) only [q_un])
