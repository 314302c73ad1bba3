theorem c_MixInit {L d : Nat} {I : q_I} {J : q_L} {R : q_R} {Q : q_Q} (hQ : ∀ I' J' R', (∀ x, (x < 4 ∨ 8 ≤ x) → I' x = I x ∧ J' x = J x ∧ R' x = R x) → R' 4 0 = some 5 → R' 4 1 = some 6 → R' 4 2 = some 7 → Q none (8, I', J', R')) : q_Ex L (d + 1) 0 [.ref 4] (5, I, J, R) Q := by
  refine q_in (x := q_m0) rfl rfl ?_
  show q_W L d 0 q_m0 Q 0 [some (.ref 4)] [] (5, I, J, R) 0 0
  refine q_k 1 ?_
  show q_W L d 0 q_m0 Q 1 [some (.ref 4)] [.ref 4] (5, I, J, R) 0 0
  refine q_oi rfl rfl rfl ?_
  refine q_k 2 ?_
  show q_W L d 0 q_m0 Q 7 [some (.ref 4)] [.int (nI 16), .ref 4] (5, I, J, R) 0 0
  refine q_na (N := 16) (n2 := 6) (uc2 := 1) (us2 := 16) rfl rfl (rfl) rfl rfl rfl rfl ⟨rfl, rfl⟩ ?_
  refine q_pR rfl rfl rfl (⟨by decide, rfl⟩) ?_
  refine q_k 2 ?_
  show q_W L d 0 q_m0 Q 15 [some (.ref 4)] [.int (nI 16), .ref 4] (6, va_up I 5 (fun _ => 0), va_up J 5 (fun _ => 0), q_up R 4 0 (some 5)) 1 16
  refine q_na (N := 16) (n2 := 7) (uc2 := 2) (us2 := 32) rfl rfl (rfl) rfl rfl rfl rfl ⟨rfl, rfl⟩ ?_
  refine q_pR rfl rfl rfl (⟨by decide, rfl⟩) ?_
  refine q_k 2 ?_
  show q_W L d 0 q_m0 Q 23 [some (.ref 4)] [.int (nI 8), .ref 4] (7, va_up (va_up I 5 (fun _ => 0)) 6 (fun _ => 0), va_up (va_up J 5 (fun _ => 0)) 6 (fun _ => 0), q_up (q_up R 4 0 (some 5)) 4 1 (some 6)) 2 32
  refine q_na (N := 8) (n2 := 8) (uc2 := 3) (us2 := 40) rfl rfl (rfl) rfl rfl rfl rfl ⟨rfl, rfl⟩ ?_
  refine q_pR rfl rfl rfl (⟨by decide, rfl⟩) ?_
  refine q_one rfl rfl ?_
  show Q (none) (8, va_up (va_up (va_up I 5 (fun _ => 0)) 6 (fun _ => 0)) 7 (fun _ => 0), va_up (va_up (va_up J 5 (fun _ => 0)) 6 (fun _ => 0)) 7 (fun _ => 0), q_up (q_up (q_up R 4 0 (some 5)) 4 1 (some 6)) 4 2 (some 7))
  refine hQ _ _ _ (fun x hx => ⟨?_, ?_, ?_⟩) ?_ ?_ ?_
  · simp (disch := omega) only [q_un, va_up_ne]
  · simp (disch := omega) only [q_un, va_up_ne]
  · simp (disch := omega) only [q_un, va_up_ne]
  · simp (disch := omega) only [q_un, q_usk, q_usn, va_up_self, va_up_ne]
  · simp (disch := omega) only [q_un, q_usk, q_usn, va_up_self, va_up_ne]
  · simp (disch := omega) only [q_un, q_usk, q_usn, va_up_self, va_up_ne]
theorem c_EntryInit {L d : Nat} {I : q_I} {J : q_L} {R : q_R} {Q : q_Q} {e : Nat} (he : q_kd e = (8, 2)) (k1 : q_kd (e + 1) = (0, 6)) (hz : ∀ j, I e j = 0) (hQ : ∀ I' J' R', (∀ x, (x < e ∨ e + 2 ≤ x) → I' x = I x ∧ J' x = J x ∧ R' x = R x) → R' e 4 = some (e + 1) → (∀ j, I' e j = 0) → (∀ j, I' (e + 1) j = 0) → Q none (e + 2, I', J', R')) : q_Ex L (d + 1) 9 [.ref e] (e + 1, I, J, R) Q := by
  refine q_in (x := q_m9) rfl rfl ?_
  show q_W L d 9 q_m9 Q 0 [some (.ref e)] [] (e + 1, I, J, R) 0 0
  refine q_k 1 ?_
  show q_W L d 9 q_m9 Q 1 [some (.ref e)] [.ref e] (e + 1, I, J, R) 0 0
  refine q_oi rfl rfl rfl ?_
  refine q_k 2 ?_
  show q_W L d 9 q_m9 Q 6 [some (.ref e)] [.int (nI 0), .ref e] (e + 1, I, J, R) 0 0
  refine q_pI rfl rfl rfl (⟨by omega, he⟩) ?_
  refine q_k 2 ?_
  show q_W L d 9 q_m9 Q 11 [some (.ref e)] [.int (nI 0), .ref e] (e + 1, q_up I e 0 (nI 0), J, R) 0 0
  refine q_pI rfl rfl rfl (⟨by omega, he⟩) ?_
  refine q_k 2 ?_
  show q_W L d 9 q_m9 Q 16 [some (.ref e)] [.int (nI 0), .ref e] (e + 1, q_up (q_up I e 0 (nI 0)) e 1 (nI 0), J, R) 0 0
  refine q_pI rfl rfl rfl (⟨by omega, he⟩) ?_
  refine q_k 2 ?_
  show q_W L d 9 q_m9 Q 21 [some (.ref e)] [.int (nI 0), .ref e] (e + 1, q_up (q_up (q_up I e 0 (nI 0)) e 1 (nI 0)) e 2 (nI 0), J, R) 0 0
  refine q_pI rfl rfl rfl (⟨by omega, he⟩) ?_
  refine q_k 2 ?_
  show q_W L d 9 q_m9 Q 27 [some (.ref e)] [.int (nI 6), .ref e] (e + 1, q_up (q_up (q_up (q_up I e 0 (nI 0)) e 1 (nI 0)) e 2 (nI 0)) e 3 (nI 0), J, R) 0 0
  refine q_na (N := 6) (n2 := e + 2) (uc2 := 1) (us2 := 6) rfl rfl (k1) rfl rfl rfl rfl ⟨rfl, rfl⟩ ?_
  refine q_pR rfl rfl rfl (⟨by omega, he⟩) ?_
  refine q_k 2 ?_
  show q_W L d 9 q_m9 Q 34 [some (.ref e)] [.int (nI 0), .ref e] (e + 2, va_up (q_up (q_up (q_up (q_up I e 0 (nI 0)) e 1 (nI 0)) e 2 (nI 0)) e 3 (nI 0)) (e + 1) (fun _ => 0), va_up J (e + 1) (fun _ => 0), q_up R e 4 (some (e + 1))) 1 6
  refine q_pI rfl rfl rfl (⟨by omega, he⟩) ?_
  refine q_one rfl rfl ?_
  show Q (none) (e + 2, q_up (va_up (q_up (q_up (q_up (q_up I e 0 (nI 0)) e 1 (nI 0)) e 2 (nI 0)) e 3 (nI 0)) (e + 1) (fun _ => 0)) e 5 (nI 0), va_up J (e + 1) (fun _ => 0), q_up R e 4 (some (e + 1)))
  refine hQ _ _ _ (fun x hx => ⟨?_, ?_, ?_⟩) ?_ (fun j => ?_) (fun j => ?_)
  · simp (disch := omega) only [q_un, va_up_ne]
  · simp (disch := omega) only [q_un, va_up_ne]
  · simp (disch := omega) only [q_un, va_up_ne]
  · simp (disch := omega) only [q_un, q_usk, q_usn, va_up_self, va_up_ne]
  · by_cases j5 : j = 5
    · subst j5; rw [q_usk]; rfl
    · rw [q_usn j5, va_up_ne _ _ (by omega)]
      by_cases j3 : j = 3
      · subst j3; rw [q_usk]; rfl
      · rw [q_usn j3]
        by_cases j2 : j = 2
        · subst j2; rw [q_usk]; rfl
        · rw [q_usn j2]
          by_cases j1 : j = 1
          · subst j1; rw [q_usk]; rfl
          · rw [q_usn j1]
            by_cases j0 : j = 0
            · subst j0; rw [q_usk]; rfl
            · rw [q_usn j0]; exact hz j
  · rw [q_un (by omega), va_up_self]
theorem c_ListInit {L d : Nat} {I : q_I} {J : q_L} {R : q_R} {Q : q_Q} {s : Nat} (hs : q_kd s = (8, 6)) (k1 : q_kd (s + 1) = (4, 3)) (hQ : ∀ I' R', (∀ x, x ≠ s → I' x = I x) → (∀ x, (x < s ∨ s + 2 ≤ x) → R' x = R x) → R' s 0 = some (s + 1) → I' s 1 = nI 0 → Q none (s + 2, I', J, R')) : q_Ex L (d + 1) 37 [.ref s] (s + 1, I, J, R) Q := by
  refine q_in (x := q_m37) rfl rfl ?_
  show q_W L d 37 q_m37 Q 0 [some (.ref s)] [] (s + 1, I, J, R) 0 0
  refine q_k 1 ?_
  show q_W L d 37 q_m37 Q 1 [some (.ref s)] [.ref s] (s + 1, I, J, R) 0 0
  refine q_oi rfl rfl rfl ?_
  refine q_k 2 ?_
  show q_W L d 37 q_m37 Q 6 [some (.ref s)] [.int (nI 3), .ref s] (s + 1, I, J, R) 0 0
  refine q_an (t := 4) (N := 3) (n2 := s + 2) (uc2 := 1) (us2 := 3) rfl rfl (k1) ⟨rfl, rfl, rfl, rfl⟩ rfl rfl rfl ⟨rfl, rfl⟩ ?_
  refine q_pR rfl rfl rfl (⟨by omega, hs⟩) ?_
  refine q_k 2 ?_
  show q_W L d 37 q_m37 Q 14 [some (.ref s)] [.int (nI 0), .ref s] (s + 2, I, J, q_up (va_up R (s + 1) (fun _ => none)) s 0 (some (s + 1))) 1 3
  refine q_pI rfl rfl rfl (⟨by omega, hs⟩) ?_
  refine q_one rfl rfl ?_
  show Q (none) (s + 2, q_up I s 1 (nI 0), J, q_up (va_up R (s + 1) (fun _ => none)) s 0 (some (s + 1)))
  refine hQ _ _ (fun x hx => ?_) (fun x hx => ?_) ?_ ?_
  · simp (disch := omega) only [q_un, va_up_ne]
  · simp (disch := omega) only [q_un, va_up_ne]
  · simp (disch := omega) only [q_un, q_usk, q_usn, va_up_self, va_up_ne]
  · rw [q_usk]
set_option maxHeartbeats 8000000 in
theorem c_AccInit {L d : Nat} {I : q_I} {J : q_L} {R : q_R} {Q : q_Q} {a : Nat} {v : Int32} (ha : 84 ≤ a) (k0 : q_kd a = (8, 3)) (k1 : q_kd (a + 1) = (8, 1)) (k2 : q_kd (a + 2) = (8, 1)) (k3 : q_kd (a + 3) = (8, 1)) (k4 : q_kd (a + 4) = (3, 10)) (k5 : q_kd (a + 5) = (8, 2)) (k6 : q_kd (a + 6) = (0, 6)) (k7 : q_kd (a + 7) = (8, 1)) (k8 : q_kd (a + 8) = (0, 8)) (k9 : q_kd (a + 9) = (8, 1)) (k10 : q_kd (a + 10) = (8, 1)) (k11 : q_kd (a + 11) = (8, 1)) (k12 : q_kd (a + 12) = (8, 1)) (k13 : q_kd (a + 13) = (8, 1)) (k14 : q_kd (a + 14) = (8, 1)) (k15 : q_kd (a + 15) = (8, 1)) (k16 : q_kd (a + 16) = (8, 1)) (k17 : q_kd (a + 17) = (8, 1)) (k18 : q_kd (a + 18) = (8, 1)) (hz : ∀ j, I a j = 0) (hQ : ∀ I' J' R', (∀ x, (x < a ∨ a + 19 ≤ x) → I' x = I x) → (∀ x, (x < a ∨ a + 19 ≤ x) → J' x = J x) → (∀ x, (x < a ∨ a + 19 ≤ x) → R' x = R x) → q_acI I' R' a v → Q none (a + 19, I', J', R')) : q_Ex L (d + 2) 15 [.ref a, .int v] (a + 1, I, J, R) Q := by
  refine q_in (x := q_m15) rfl rfl ?_
  show q_W L (d + 1) 15 q_m15 Q 0 [some (.ref a), some (.int v), none] [] (a + 1, I, J, R) 0 0
  refine q_k 1 ?_
  show q_W L (d + 1) 15 q_m15 Q 1 [some (.ref a), some (.int v), none] [.ref a] (a + 1, I, J, R) 0 0
  refine q_oi rfl rfl rfl ?_
  refine q_k 2 ?_
  show q_W L (d + 1) 15 q_m15 Q 6 [some (.ref a), some (.int v), none] [.int (nI 0), .ref a] (a + 1, I, J, R) 0 0
  refine q_pZ rfl rfl rfl (⟨by omega, k0⟩) (Or.inl rfl) ?_
  refine q_k 2 ?_
  show q_W L (d + 1) 15 q_m15 Q 11 [some (.ref a), some (.int v), none] [.int (nI 0), .ref a] (a + 1, q_up I a 0 (nI 0), J, R) 0 0
  refine q_pI rfl rfl rfl (⟨by omega, k0⟩) ?_
  refine q_k 1 ?_
  show q_W L (d + 1) 15 q_m15 Q 15 [some (.ref a), some (.int v), none] [.ref a] (a + 1, q_up (q_up I a 0 (nI 0)) a 1 (nI 0), J, R) 0 0
  refine q_nw (n2 := a + 2) (uc2 := 1) (us2 := 2) rfl rfl (k1) rfl rfl rfl ⟨rfl, rfl⟩ ?_
  refine q_k 1 ?_
  show q_W L (d + 1) 15 q_m15 Q 19 [some (.ref a), some (.int v), none] [.ref (a + 1), .ref (a + 1), .ref a] (a + 2, va_up (q_up (q_up I a 0 (nI 0)) a 1 (nI 0)) (a + 1) (fun _ => 0), va_up J (a + 1) (fun _ => 0), va_up R (a + 1) (fun _ => none)) 1 2
  refine q_ci1 (as := []) (rs := [.ref (a + 1), .ref a]) rfl rfl rfl rfl rfl ?_
  refine c_PairInit ⟨by omega, k1⟩ (fun I1 f1 z1 => ?_)
  have y1 : ∀ j, I1 (a + 1) j = 0 := fun j => z1 j (by rw [va_up_self])
  show q_W L (d + 1) 15 q_m15 Q 22 [some (.ref a), some (.int v), none] [.ref (a + 1), .ref a] (a + 2, I1, va_up J (a + 1) (fun _ => 0), va_up R (a + 1) (fun _ => none)) 1 2
  refine q_pR rfl rfl rfl (⟨by omega, k0⟩) ?_
  refine q_k 1 ?_
  show q_W L (d + 1) 15 q_m15 Q 26 [some (.ref a), some (.int v), none] [.ref a] (a + 2, I1, va_up J (a + 1) (fun _ => 0), q_up (va_up R (a + 1) (fun _ => none)) a 2 (some (a + 1))) 1 2
  refine q_nw (n2 := a + 3) (uc2 := 2) (us2 := 4) rfl rfl (k2) rfl rfl rfl ⟨rfl, rfl⟩ ?_
  refine q_k 1 ?_
  show q_W L (d + 1) 15 q_m15 Q 30 [some (.ref a), some (.int v), none] [.ref (a + 2), .ref (a + 2), .ref a] (a + 3, va_up I1 (a + 2) (fun _ => 0), va_up (va_up J (a + 1) (fun _ => 0)) (a + 2) (fun _ => 0), va_up (q_up (va_up R (a + 1) (fun _ => none)) a 2 (some (a + 1))) (a + 2) (fun _ => none)) 2 4
  refine q_ci1 (as := []) (rs := [.ref (a + 2), .ref a]) rfl rfl rfl rfl rfl ?_
  refine c_PairInit ⟨by omega, k2⟩ (fun I2 f2 z2 => ?_)
  have y2 : ∀ j, I2 (a + 2) j = 0 := fun j => z2 j (by rw [va_up_self])
  show q_W L (d + 1) 15 q_m15 Q 33 [some (.ref a), some (.int v), none] [.ref (a + 2), .ref a] (a + 3, I2, va_up (va_up J (a + 1) (fun _ => 0)) (a + 2) (fun _ => 0), va_up (q_up (va_up R (a + 1) (fun _ => none)) a 2 (some (a + 1))) (a + 2) (fun _ => none)) 2 4
  refine q_pR rfl rfl rfl (⟨by omega, k0⟩) ?_
  refine q_k 1 ?_
  show q_W L (d + 1) 15 q_m15 Q 37 [some (.ref a), some (.int v), none] [.ref a] (a + 3, I2, va_up (va_up J (a + 1) (fun _ => 0)) (a + 2) (fun _ => 0), q_up (va_up (q_up (va_up R (a + 1) (fun _ => none)) a 2 (some (a + 1))) (a + 2) (fun _ => none)) a 3 (some (a + 2))) 2 4
  refine q_nw (n2 := a + 4) (uc2 := 3) (us2 := 6) rfl rfl (k3) rfl rfl rfl ⟨rfl, rfl⟩ ?_
  refine q_k 1 ?_
  show q_W L (d + 1) 15 q_m15 Q 41 [some (.ref a), some (.int v), none] [.ref (a + 3), .ref (a + 3), .ref a] (a + 4, va_up I2 (a + 3) (fun _ => 0), va_up (va_up (va_up J (a + 1) (fun _ => 0)) (a + 2) (fun _ => 0)) (a + 3) (fun _ => 0), va_up (q_up (va_up (q_up (va_up R (a + 1) (fun _ => none)) a 2 (some (a + 1))) (a + 2) (fun _ => none)) a 3 (some (a + 2))) (a + 3) (fun _ => none)) 3 6
  refine q_ci1 (as := []) (rs := [.ref (a + 3), .ref a]) rfl rfl rfl rfl rfl ?_
  refine c_PairInit ⟨by omega, k3⟩ (fun I3 f3 z3 => ?_)
  have y3 : ∀ j, I3 (a + 3) j = 0 := fun j => z3 j (by rw [va_up_self])
  show q_W L (d + 1) 15 q_m15 Q 44 [some (.ref a), some (.int v), none] [.ref (a + 3), .ref a] (a + 4, I3, va_up (va_up (va_up J (a + 1) (fun _ => 0)) (a + 2) (fun _ => 0)) (a + 3) (fun _ => 0), va_up (q_up (va_up (q_up (va_up R (a + 1) (fun _ => none)) a 2 (some (a + 1))) (a + 2) (fun _ => none)) a 3 (some (a + 2))) (a + 3) (fun _ => none)) 3 6
  refine q_pR rfl rfl rfl (⟨by omega, k0⟩) ?_
  refine q_k 2 ?_
  show q_W L (d + 1) 15 q_m15 Q 49 [some (.ref a), some (.int v), none] [.int (nI 0), .ref a] (a + 4, I3, va_up (va_up (va_up J (a + 1) (fun _ => 0)) (a + 2) (fun _ => 0)) (a + 3) (fun _ => 0), q_up (va_up (q_up (va_up (q_up (va_up R (a + 1) (fun _ => none)) a 2 (some (a + 1))) (a + 2) (fun _ => none)) a 3 (some (a + 2))) (a + 3) (fun _ => none)) a 4 (some (a + 3))) 3 6
  refine q_pZ rfl rfl rfl (⟨by omega, k0⟩) (Or.inl rfl) ?_
  refine q_k 2 ?_
  show q_W L (d + 1) 15 q_m15 Q 55 [some (.ref a), some (.int v), none] [.int (nI 10), .ref a] (a + 4, q_up I3 a 5 (nI 0), va_up (va_up (va_up J (a + 1) (fun _ => 0)) (a + 2) (fun _ => 0)) (a + 3) (fun _ => 0), q_up (va_up (q_up (va_up (q_up (va_up R (a + 1) (fun _ => none)) a 2 (some (a + 1))) (a + 2) (fun _ => none)) a 3 (some (a + 2))) (a + 3) (fun _ => none)) a 4 (some (a + 3))) 3 6
  refine q_an (t := 3) (N := 10) (n2 := a + 5) (uc2 := 4) (us2 := 16) rfl rfl (k4) ⟨rfl, rfl, rfl, rfl⟩ rfl rfl rfl ⟨rfl, rfl⟩ ?_
  refine q_pR rfl rfl rfl (⟨by omega, k0⟩) ?_
  refine q_k 2 ?_
  show q_W L (d + 1) 15 q_m15 Q 63 [some (.ref a), some (.int v), none] [.int (nI 0), .ref a] (a + 5, q_up I3 a 5 (nI 0), va_up (va_up (va_up J (a + 1) (fun _ => 0)) (a + 2) (fun _ => 0)) (a + 3) (fun _ => 0), q_up (va_up (q_up (va_up (q_up (va_up (q_up (va_up R (a + 1) (fun _ => none)) a 2 (some (a + 1))) (a + 2) (fun _ => none)) a 3 (some (a + 2))) (a + 3) (fun _ => none)) a 4 (some (a + 3))) (a + 4) (fun _ => none)) a 6 (some (a + 4))) 4 16
  refine q_pI rfl rfl rfl (⟨by omega, k0⟩) ?_
  refine q_k 1 ?_
  show q_W L (d + 1) 15 q_m15 Q 67 [some (.ref a), some (.int v), none] [.ref a] (a + 5, q_up (q_up I3 a 5 (nI 0)) a 7 (nI 0), va_up (va_up (va_up J (a + 1) (fun _ => 0)) (a + 2) (fun _ => 0)) (a + 3) (fun _ => 0), q_up (va_up (q_up (va_up (q_up (va_up (q_up (va_up R (a + 1) (fun _ => none)) a 2 (some (a + 1))) (a + 2) (fun _ => none)) a 3 (some (a + 2))) (a + 3) (fun _ => none)) a 4 (some (a + 3))) (a + 4) (fun _ => none)) a 6 (some (a + 4))) 4 16
  refine q_nw (n2 := a + 6) (uc2 := 5) (us2 := 22) rfl rfl (k5) rfl rfl rfl ⟨rfl, rfl⟩ ?_
  refine q_k 1 ?_
  show q_W L (d + 1) 15 q_m15 Q 71 [some (.ref a), some (.int v), none] [.ref (a + 5), .ref (a + 5), .ref a] (a + 6, va_up (q_up (q_up I3 a 5 (nI 0)) a 7 (nI 0)) (a + 5) (fun _ => 0), va_up (va_up (va_up (va_up J (a + 1) (fun _ => 0)) (a + 2) (fun _ => 0)) (a + 3) (fun _ => 0)) (a + 5) (fun _ => 0), va_up (q_up (va_up (q_up (va_up (q_up (va_up (q_up (va_up R (a + 1) (fun _ => none)) a 2 (some (a + 1))) (a + 2) (fun _ => none)) a 3 (some (a + 2))) (a + 3) (fun _ => none)) a 4 (some (a + 3))) (a + 4) (fun _ => none)) a 6 (some (a + 4))) (a + 5) (fun _ => none)) 5 22
  refine q_ci1A (as := []) (rs := [.ref (a + 5), .ref a]) rfl rfl rfl rfl rfl ⟨by decide, by decide⟩ ?_
  refine c_EntryInit (e := a + 5) k5 k6 (fun j => by rw [va_up_self]) (fun I4 J4 R4 f4 e4 y4 x4 => ?_)
  have fI4 := fun x hx => (f4 x hx).1
  have fJ4 := fun x hx => (f4 x hx).2.1
  have fR4 := fun x hx => (f4 x hx).2.2
  show q_W L (d + 1) 15 q_m15 Q 74 [some (.ref a), some (.int v), none] [.ref (a + 5), .ref a] (a + 7, I4, J4, R4) 6 28
  refine q_pR rfl rfl rfl (⟨by omega, k0⟩) ?_
  refine q_k 1 ?_
  show q_W L (d + 1) 15 q_m15 Q 78 [some (.ref a), some (.int v), none] [.ref a] (a + 7, I4, J4, q_up R4 a 8 (some (a + 5))) 6 28
  refine q_nw (n2 := a + 8) (uc2 := 7) (us2 := 30) rfl rfl (k7) rfl rfl rfl ⟨rfl, rfl⟩ ?_
  refine q_k 1 ?_
  show q_W L (d + 1) 15 q_m15 Q 82 [some (.ref a), some (.int v), none] [.ref (a + 7), .ref (a + 7), .ref a] (a + 8, va_up I4 (a + 7) (fun _ => 0), va_up J4 (a + 7) (fun _ => 0), va_up (q_up R4 a 8 (some (a + 5))) (a + 7) (fun _ => none)) 7 30
  refine q_ci1 (as := []) (rs := [.ref (a + 7), .ref a]) rfl rfl rfl rfl rfl ?_
  refine c_PairInit ⟨by omega, k7⟩ (fun I5 f5 z5 => ?_)
  have y5 : ∀ j, I5 (a + 7) j = 0 := fun j => z5 j (by rw [va_up_self])
  show q_W L (d + 1) 15 q_m15 Q 85 [some (.ref a), some (.int v), none] [.ref (a + 7), .ref a] (a + 8, I5, va_up J4 (a + 7) (fun _ => 0), va_up (q_up R4 a 8 (some (a + 5))) (a + 7) (fun _ => none)) 7 30
  refine q_pR rfl rfl rfl (⟨by omega, k0⟩) ?_
  refine q_k 2 ?_
  show q_W L (d + 1) 15 q_m15 Q 91 [some (.ref a), some (.int v), none] [.int (nI 8), .ref a] (a + 8, I5, va_up J4 (a + 7) (fun _ => 0), q_up (va_up (q_up R4 a 8 (some (a + 5))) (a + 7) (fun _ => none)) a 9 (some (a + 7))) 7 30
  refine q_na (N := 8) (n2 := a + 9) (uc2 := 8) (us2 := 38) rfl rfl (k8) rfl rfl rfl rfl ⟨rfl, rfl⟩ ?_
  refine q_pR rfl rfl rfl (⟨by omega, k0⟩) ?_
  refine q_k 1 ?_
  show q_W L (d + 1) 15 q_m15 Q 97 [some (.ref a), some (.int v), none] [.ref a] (a + 9, va_up I5 (a + 8) (fun _ => 0), va_up (va_up J4 (a + 7) (fun _ => 0)) (a + 8) (fun _ => 0), q_up (q_up (va_up (q_up R4 a 8 (some (a + 5))) (a + 7) (fun _ => none)) a 9 (some (a + 7))) a 10 (some (a + 8))) 8 38
  refine q_gR (b := (a + 8)) rfl rfl (⟨by omega, k0⟩) (by simp (disch := omega) only [q_un, q_usk, q_usn, va_up_self, va_up_ne]) ?_
  refine q_k 2 ?_
  show q_W L (d + 1) 15 q_m15 Q 102 [some (.ref a), some (.int v), none] [.int v, .int (nI 2), .ref (a + 8)] (a + 9, va_up I5 (a + 8) (fun _ => 0), va_up (va_up J4 (a + 7) (fun _ => 0)) (a + 8) (fun _ => 0), q_up (q_up (va_up (q_up R4 a 8 (some (a + 5))) (a + 7) (fun _ => none)) a 9 (some (a + 7))) a 10 (some (a + 8))) 8 38
  refine q_ias (m := 2) rfl (⟨by omega, by omega, k8⟩) (by decide) (rfl) ?_
  refine q_k 4 ?_
  show q_W L (d + 1) 15 q_m15 Q 108 [some (.ref a), some (.int v), some (.int (nI 0))] [.int (nI 10), .int (nI 0)] (a + 9, q_up (va_up I5 (a + 8) (fun _ => 0)) (a + 8) 2 v, va_up (va_up J4 (a + 7) (fun _ => 0)) (a + 8) (fun _ => 0), q_up (q_up (va_up (q_up R4 a 8 (some (a + 5))) (a + 7) (fun _ => none)) a 9 (some (a + 7))) a 10 (some (a + 8))) 8 38
  refine q_one rfl rfl ?_
  show ((nI 10) ≤ (nI 0) → q_W L (d + 1) 15 q_m15 Q 130 [some (.ref a), some (.int v), some (.int (nI 0))] [] (a + 9, q_up (va_up I5 (a + 8) (fun _ => 0)) (a + 8) 2 v, va_up (va_up J4 (a + 7) (fun _ => 0)) (a + 8) (fun _ => 0), q_up (q_up (va_up (q_up R4 a 8 (some (a + 5))) (a + 7) (fun _ => none)) a 9 (some (a + 7))) a 10 (some (a + 8))) 8 38) ∧ (¬ (nI 10) ≤ (nI 0) → q_W L (d + 1) 15 q_m15 Q 111 [some (.ref a), some (.int v), some (.int (nI 0))] [] (a + 9, q_up (va_up I5 (a + 8) (fun _ => 0)) (a + 8) 2 v, va_up (va_up J4 (a + 7) (fun _ => 0)) (a + 8) (fun _ => 0), q_up (q_up (va_up (q_up R4 a 8 (some (a + 5))) (a + 7) (fun _ => none)) a 9 (some (a + 7))) a 10 (some (a + 8))) 8 38)
  refine ⟨fun z => absurd z (by decide), fun _ => ?_⟩
  refine q_k 1 ?_
  show q_W L (d + 1) 15 q_m15 Q 112 [some (.ref a), some (.int v), some (.int (nI 0))] [.ref a] (a + 9, q_up (va_up I5 (a + 8) (fun _ => 0)) (a + 8) 2 v, va_up (va_up J4 (a + 7) (fun _ => 0)) (a + 8) (fun _ => 0), q_up (q_up (va_up (q_up R4 a 8 (some (a + 5))) (a + 7) (fun _ => none)) a 9 (some (a + 7))) a 10 (some (a + 8))) 8 38
  refine q_gR (b := (a + 4)) rfl rfl (⟨by omega, k0⟩) (by first | (simp (disch := omega) only [q_un, q_usk, q_usn, va_up_self, va_up_ne]; done) | (simp (disch := omega) only [q_un, q_usk, q_usn, va_up_self, va_up_ne, fR4])) ?_
  refine q_k 1 ?_
  show q_W L (d + 1) 15 q_m15 Q 116 [some (.ref a), some (.int v), some (.int (nI 0))] [.int (nI 0), .ref (a + 4)] (a + 9, q_up (va_up I5 (a + 8) (fun _ => 0)) (a + 8) 2 v, va_up (va_up J4 (a + 7) (fun _ => 0)) (a + 8) (fun _ => 0), q_up (q_up (va_up (q_up R4 a 8 (some (a + 5))) (a + 7) (fun _ => none)) a 9 (some (a + 7))) a 10 (some (a + 8))) 8 38
  refine q_nw (n2 := a + 10) (uc2 := 9) (us2 := 40) rfl rfl (k9) rfl rfl rfl ⟨rfl, rfl⟩ ?_
  refine q_k 1 ?_
  show q_W L (d + 1) 15 q_m15 Q 120 [some (.ref a), some (.int v), some (.int (nI 0))] [.ref (a + 9), .ref (a + 9), .int (nI 0), .ref (a + 4)] (a + 10, va_up (q_up (va_up I5 (a + 8) (fun _ => 0)) (a + 8) 2 v) (a + 9) (fun _ => 0), va_up (va_up (va_up J4 (a + 7) (fun _ => 0)) (a + 8) (fun _ => 0)) (a + 9) (fun _ => 0), va_up (q_up (q_up (va_up (q_up R4 a 8 (some (a + 5))) (a + 7) (fun _ => none)) a 9 (some (a + 7))) a 10 (some (a + 8))) (a + 9) (fun _ => none)) 9 40
  refine q_ci1 (as := []) (rs := [.ref (a + 9), .int (nI 0), .ref (a + 4)]) rfl rfl rfl rfl rfl ?_
  refine c_PairInit ⟨by omega, k9⟩ (fun I6 f6 z6 => ?_)
  have y6 : ∀ j, I6 (a + 9) j = 0 := fun j => z6 j (by rw [va_up_self])
  show q_W L (d + 1) 15 q_m15 Q 123 [some (.ref a), some (.int v), some (.int (nI 0))] [.ref (a + 9), .int (nI 0), .ref (a + 4)] (a + 10, I6, va_up (va_up (va_up J4 (a + 7) (fun _ => 0)) (a + 8) (fun _ => 0)) (a + 9) (fun _ => 0), va_up (q_up (q_up (va_up (q_up R4 a 8 (some (a + 5))) (a + 7) (fun _ => none)) a 9 (some (a + 7))) a 10 (some (a + 8))) (a + 9) (fun _ => none)) 9 40
  refine q_aas (m := 0) rfl (⟨by omega, by omega, k4⟩) ⟨rfl, rfl⟩ (⟨by omega, k9⟩) (by decide) rfl ?_
  refine q_k 1 ?_
  show q_W L (d + 1) 15 q_m15 Q 127 [some (.ref a), some (.int v), some (.int ((nI 0) + nI 1))] [] (a + 10, I6, va_up (va_up (va_up J4 (a + 7) (fun _ => 0)) (a + 8) (fun _ => 0)) (a + 9) (fun _ => 0), q_up (va_up (q_up (q_up (va_up (q_up R4 a 8 (some (a + 5))) (a + 7) (fun _ => none)) a 9 (some (a + 7))) a 10 (some (a + 8))) (a + 9) (fun _ => none)) (a + 4) 0 (some (a + 9))) 9 40
  rw [show (nI 0) + nI 1 = nI 1 from nI_add _ _]
  refine q_k 3 ?_
  show q_W L (d + 1) 15 q_m15 Q 108 [some (.ref a), some (.int v), some (.int (nI 1))] [.int (nI 10), .int (nI 1)] (a + 10, I6, va_up (va_up (va_up J4 (a + 7) (fun _ => 0)) (a + 8) (fun _ => 0)) (a + 9) (fun _ => 0), q_up (va_up (q_up (q_up (va_up (q_up R4 a 8 (some (a + 5))) (a + 7) (fun _ => none)) a 9 (some (a + 7))) a 10 (some (a + 8))) (a + 9) (fun _ => none)) (a + 4) 0 (some (a + 9))) 9 40
  refine q_one rfl rfl ?_
  show ((nI 10) ≤ (nI 1) → q_W L (d + 1) 15 q_m15 Q 130 [some (.ref a), some (.int v), some (.int (nI 1))] [] (a + 10, I6, va_up (va_up (va_up J4 (a + 7) (fun _ => 0)) (a + 8) (fun _ => 0)) (a + 9) (fun _ => 0), q_up (va_up (q_up (q_up (va_up (q_up R4 a 8 (some (a + 5))) (a + 7) (fun _ => none)) a 9 (some (a + 7))) a 10 (some (a + 8))) (a + 9) (fun _ => none)) (a + 4) 0 (some (a + 9))) 9 40) ∧ (¬ (nI 10) ≤ (nI 1) → q_W L (d + 1) 15 q_m15 Q 111 [some (.ref a), some (.int v), some (.int (nI 1))] [] (a + 10, I6, va_up (va_up (va_up J4 (a + 7) (fun _ => 0)) (a + 8) (fun _ => 0)) (a + 9) (fun _ => 0), q_up (va_up (q_up (q_up (va_up (q_up R4 a 8 (some (a + 5))) (a + 7) (fun _ => none)) a 9 (some (a + 7))) a 10 (some (a + 8))) (a + 9) (fun _ => none)) (a + 4) 0 (some (a + 9))) 9 40)
  refine ⟨fun z => absurd z (by decide), fun _ => ?_⟩
  refine q_k 1 ?_
  show q_W L (d + 1) 15 q_m15 Q 112 [some (.ref a), some (.int v), some (.int (nI 1))] [.ref a] (a + 10, I6, va_up (va_up (va_up J4 (a + 7) (fun _ => 0)) (a + 8) (fun _ => 0)) (a + 9) (fun _ => 0), q_up (va_up (q_up (q_up (va_up (q_up R4 a 8 (some (a + 5))) (a + 7) (fun _ => none)) a 9 (some (a + 7))) a 10 (some (a + 8))) (a + 9) (fun _ => none)) (a + 4) 0 (some (a + 9))) 9 40
  refine q_gR (b := (a + 4)) rfl rfl (⟨by omega, k0⟩) (by first | (simp (disch := omega) only [q_un, q_usk, q_usn, va_up_self, va_up_ne]; done) | (simp (disch := omega) only [q_un, q_usk, q_usn, va_up_self, va_up_ne, fR4])) ?_
  refine q_k 1 ?_
  show q_W L (d + 1) 15 q_m15 Q 116 [some (.ref a), some (.int v), some (.int (nI 1))] [.int (nI 1), .ref (a + 4)] (a + 10, I6, va_up (va_up (va_up J4 (a + 7) (fun _ => 0)) (a + 8) (fun _ => 0)) (a + 9) (fun _ => 0), q_up (va_up (q_up (q_up (va_up (q_up R4 a 8 (some (a + 5))) (a + 7) (fun _ => none)) a 9 (some (a + 7))) a 10 (some (a + 8))) (a + 9) (fun _ => none)) (a + 4) 0 (some (a + 9))) 9 40
  refine q_nw (n2 := a + 11) (uc2 := 10) (us2 := 42) rfl rfl (k10) rfl rfl rfl ⟨rfl, rfl⟩ ?_
  refine q_k 1 ?_
  show q_W L (d + 1) 15 q_m15 Q 120 [some (.ref a), some (.int v), some (.int (nI 1))] [.ref (a + 10), .ref (a + 10), .int (nI 1), .ref (a + 4)] (a + 11, va_up I6 (a + 10) (fun _ => 0), va_up (va_up (va_up (va_up J4 (a + 7) (fun _ => 0)) (a + 8) (fun _ => 0)) (a + 9) (fun _ => 0)) (a + 10) (fun _ => 0), va_up (q_up (va_up (q_up (q_up (va_up (q_up R4 a 8 (some (a + 5))) (a + 7) (fun _ => none)) a 9 (some (a + 7))) a 10 (some (a + 8))) (a + 9) (fun _ => none)) (a + 4) 0 (some (a + 9))) (a + 10) (fun _ => none)) 10 42
  refine q_ci1 (as := []) (rs := [.ref (a + 10), .int (nI 1), .ref (a + 4)]) rfl rfl rfl rfl rfl ?_
  refine c_PairInit ⟨by omega, k10⟩ (fun I7 f7 z7 => ?_)
  have y7 : ∀ j, I7 (a + 10) j = 0 := fun j => z7 j (by rw [va_up_self])
  show q_W L (d + 1) 15 q_m15 Q 123 [some (.ref a), some (.int v), some (.int (nI 1))] [.ref (a + 10), .int (nI 1), .ref (a + 4)] (a + 11, I7, va_up (va_up (va_up (va_up J4 (a + 7) (fun _ => 0)) (a + 8) (fun _ => 0)) (a + 9) (fun _ => 0)) (a + 10) (fun _ => 0), va_up (q_up (va_up (q_up (q_up (va_up (q_up R4 a 8 (some (a + 5))) (a + 7) (fun _ => none)) a 9 (some (a + 7))) a 10 (some (a + 8))) (a + 9) (fun _ => none)) (a + 4) 0 (some (a + 9))) (a + 10) (fun _ => none)) 10 42
  refine q_aas (m := 1) rfl (⟨by omega, by omega, k4⟩) ⟨rfl, rfl⟩ (⟨by omega, k10⟩) (by decide) rfl ?_
  refine q_k 1 ?_
  show q_W L (d + 1) 15 q_m15 Q 127 [some (.ref a), some (.int v), some (.int ((nI 1) + nI 1))] [] (a + 11, I7, va_up (va_up (va_up (va_up J4 (a + 7) (fun _ => 0)) (a + 8) (fun _ => 0)) (a + 9) (fun _ => 0)) (a + 10) (fun _ => 0), q_up (va_up (q_up (va_up (q_up (q_up (va_up (q_up R4 a 8 (some (a + 5))) (a + 7) (fun _ => none)) a 9 (some (a + 7))) a 10 (some (a + 8))) (a + 9) (fun _ => none)) (a + 4) 0 (some (a + 9))) (a + 10) (fun _ => none)) (a + 4) 1 (some (a + 10))) 10 42
  rw [show (nI 1) + nI 1 = nI 2 from nI_add _ _]
  refine q_k 3 ?_
  show q_W L (d + 1) 15 q_m15 Q 108 [some (.ref a), some (.int v), some (.int (nI 2))] [.int (nI 10), .int (nI 2)] (a + 11, I7, va_up (va_up (va_up (va_up J4 (a + 7) (fun _ => 0)) (a + 8) (fun _ => 0)) (a + 9) (fun _ => 0)) (a + 10) (fun _ => 0), q_up (va_up (q_up (va_up (q_up (q_up (va_up (q_up R4 a 8 (some (a + 5))) (a + 7) (fun _ => none)) a 9 (some (a + 7))) a 10 (some (a + 8))) (a + 9) (fun _ => none)) (a + 4) 0 (some (a + 9))) (a + 10) (fun _ => none)) (a + 4) 1 (some (a + 10))) 10 42
  refine q_one rfl rfl ?_
  show ((nI 10) ≤ (nI 2) → q_W L (d + 1) 15 q_m15 Q 130 [some (.ref a), some (.int v), some (.int (nI 2))] [] (a + 11, I7, va_up (va_up (va_up (va_up J4 (a + 7) (fun _ => 0)) (a + 8) (fun _ => 0)) (a + 9) (fun _ => 0)) (a + 10) (fun _ => 0), q_up (va_up (q_up (va_up (q_up (q_up (va_up (q_up R4 a 8 (some (a + 5))) (a + 7) (fun _ => none)) a 9 (some (a + 7))) a 10 (some (a + 8))) (a + 9) (fun _ => none)) (a + 4) 0 (some (a + 9))) (a + 10) (fun _ => none)) (a + 4) 1 (some (a + 10))) 10 42) ∧ (¬ (nI 10) ≤ (nI 2) → q_W L (d + 1) 15 q_m15 Q 111 [some (.ref a), some (.int v), some (.int (nI 2))] [] (a + 11, I7, va_up (va_up (va_up (va_up J4 (a + 7) (fun _ => 0)) (a + 8) (fun _ => 0)) (a + 9) (fun _ => 0)) (a + 10) (fun _ => 0), q_up (va_up (q_up (va_up (q_up (q_up (va_up (q_up R4 a 8 (some (a + 5))) (a + 7) (fun _ => none)) a 9 (some (a + 7))) a 10 (some (a + 8))) (a + 9) (fun _ => none)) (a + 4) 0 (some (a + 9))) (a + 10) (fun _ => none)) (a + 4) 1 (some (a + 10))) 10 42)
  refine ⟨fun z => absurd z (by decide), fun _ => ?_⟩
  refine q_k 1 ?_
  show q_W L (d + 1) 15 q_m15 Q 112 [some (.ref a), some (.int v), some (.int (nI 2))] [.ref a] (a + 11, I7, va_up (va_up (va_up (va_up J4 (a + 7) (fun _ => 0)) (a + 8) (fun _ => 0)) (a + 9) (fun _ => 0)) (a + 10) (fun _ => 0), q_up (va_up (q_up (va_up (q_up (q_up (va_up (q_up R4 a 8 (some (a + 5))) (a + 7) (fun _ => none)) a 9 (some (a + 7))) a 10 (some (a + 8))) (a + 9) (fun _ => none)) (a + 4) 0 (some (a + 9))) (a + 10) (fun _ => none)) (a + 4) 1 (some (a + 10))) 10 42
  refine q_gR (b := (a + 4)) rfl rfl (⟨by omega, k0⟩) (by first | (simp (disch := omega) only [q_un, q_usk, q_usn, va_up_self, va_up_ne]; done) | (simp (disch := omega) only [q_un, q_usk, q_usn, va_up_self, va_up_ne, fR4])) ?_
  refine q_k 1 ?_
  show q_W L (d + 1) 15 q_m15 Q 116 [some (.ref a), some (.int v), some (.int (nI 2))] [.int (nI 2), .ref (a + 4)] (a + 11, I7, va_up (va_up (va_up (va_up J4 (a + 7) (fun _ => 0)) (a + 8) (fun _ => 0)) (a + 9) (fun _ => 0)) (a + 10) (fun _ => 0), q_up (va_up (q_up (va_up (q_up (q_up (va_up (q_up R4 a 8 (some (a + 5))) (a + 7) (fun _ => none)) a 9 (some (a + 7))) a 10 (some (a + 8))) (a + 9) (fun _ => none)) (a + 4) 0 (some (a + 9))) (a + 10) (fun _ => none)) (a + 4) 1 (some (a + 10))) 10 42
  refine q_nw (n2 := a + 12) (uc2 := 11) (us2 := 44) rfl rfl (k11) rfl rfl rfl ⟨rfl, rfl⟩ ?_
  refine q_k 1 ?_
  show q_W L (d + 1) 15 q_m15 Q 120 [some (.ref a), some (.int v), some (.int (nI 2))] [.ref (a + 11), .ref (a + 11), .int (nI 2), .ref (a + 4)] (a + 12, va_up I7 (a + 11) (fun _ => 0), va_up (va_up (va_up (va_up (va_up J4 (a + 7) (fun _ => 0)) (a + 8) (fun _ => 0)) (a + 9) (fun _ => 0)) (a + 10) (fun _ => 0)) (a + 11) (fun _ => 0), va_up (q_up (va_up (q_up (va_up (q_up (q_up (va_up (q_up R4 a 8 (some (a + 5))) (a + 7) (fun _ => none)) a 9 (some (a + 7))) a 10 (some (a + 8))) (a + 9) (fun _ => none)) (a + 4) 0 (some (a + 9))) (a + 10) (fun _ => none)) (a + 4) 1 (some (a + 10))) (a + 11) (fun _ => none)) 11 44
  refine q_ci1 (as := []) (rs := [.ref (a + 11), .int (nI 2), .ref (a + 4)]) rfl rfl rfl rfl rfl ?_
  refine c_PairInit ⟨by omega, k11⟩ (fun I8 f8 z8 => ?_)
  have y8 : ∀ j, I8 (a + 11) j = 0 := fun j => z8 j (by rw [va_up_self])
  show q_W L (d + 1) 15 q_m15 Q 123 [some (.ref a), some (.int v), some (.int (nI 2))] [.ref (a + 11), .int (nI 2), .ref (a + 4)] (a + 12, I8, va_up (va_up (va_up (va_up (va_up J4 (a + 7) (fun _ => 0)) (a + 8) (fun _ => 0)) (a + 9) (fun _ => 0)) (a + 10) (fun _ => 0)) (a + 11) (fun _ => 0), va_up (q_up (va_up (q_up (va_up (q_up (q_up (va_up (q_up R4 a 8 (some (a + 5))) (a + 7) (fun _ => none)) a 9 (some (a + 7))) a 10 (some (a + 8))) (a + 9) (fun _ => none)) (a + 4) 0 (some (a + 9))) (a + 10) (fun _ => none)) (a + 4) 1 (some (a + 10))) (a + 11) (fun _ => none)) 11 44
  refine q_aas (m := 2) rfl (⟨by omega, by omega, k4⟩) ⟨rfl, rfl⟩ (⟨by omega, k11⟩) (by decide) rfl ?_
  refine q_k 1 ?_
  show q_W L (d + 1) 15 q_m15 Q 127 [some (.ref a), some (.int v), some (.int ((nI 2) + nI 1))] [] (a + 12, I8, va_up (va_up (va_up (va_up (va_up J4 (a + 7) (fun _ => 0)) (a + 8) (fun _ => 0)) (a + 9) (fun _ => 0)) (a + 10) (fun _ => 0)) (a + 11) (fun _ => 0), q_up (va_up (q_up (va_up (q_up (va_up (q_up (q_up (va_up (q_up R4 a 8 (some (a + 5))) (a + 7) (fun _ => none)) a 9 (some (a + 7))) a 10 (some (a + 8))) (a + 9) (fun _ => none)) (a + 4) 0 (some (a + 9))) (a + 10) (fun _ => none)) (a + 4) 1 (some (a + 10))) (a + 11) (fun _ => none)) (a + 4) 2 (some (a + 11))) 11 44
  rw [show (nI 2) + nI 1 = nI 3 from nI_add _ _]
  refine q_k 3 ?_
  show q_W L (d + 1) 15 q_m15 Q 108 [some (.ref a), some (.int v), some (.int (nI 3))] [.int (nI 10), .int (nI 3)] (a + 12, I8, va_up (va_up (va_up (va_up (va_up J4 (a + 7) (fun _ => 0)) (a + 8) (fun _ => 0)) (a + 9) (fun _ => 0)) (a + 10) (fun _ => 0)) (a + 11) (fun _ => 0), q_up (va_up (q_up (va_up (q_up (va_up (q_up (q_up (va_up (q_up R4 a 8 (some (a + 5))) (a + 7) (fun _ => none)) a 9 (some (a + 7))) a 10 (some (a + 8))) (a + 9) (fun _ => none)) (a + 4) 0 (some (a + 9))) (a + 10) (fun _ => none)) (a + 4) 1 (some (a + 10))) (a + 11) (fun _ => none)) (a + 4) 2 (some (a + 11))) 11 44
  refine q_one rfl rfl ?_
  show ((nI 10) ≤ (nI 3) → q_W L (d + 1) 15 q_m15 Q 130 [some (.ref a), some (.int v), some (.int (nI 3))] [] (a + 12, I8, va_up (va_up (va_up (va_up (va_up J4 (a + 7) (fun _ => 0)) (a + 8) (fun _ => 0)) (a + 9) (fun _ => 0)) (a + 10) (fun _ => 0)) (a + 11) (fun _ => 0), q_up (va_up (q_up (va_up (q_up (va_up (q_up (q_up (va_up (q_up R4 a 8 (some (a + 5))) (a + 7) (fun _ => none)) a 9 (some (a + 7))) a 10 (some (a + 8))) (a + 9) (fun _ => none)) (a + 4) 0 (some (a + 9))) (a + 10) (fun _ => none)) (a + 4) 1 (some (a + 10))) (a + 11) (fun _ => none)) (a + 4) 2 (some (a + 11))) 11 44) ∧ (¬ (nI 10) ≤ (nI 3) → q_W L (d + 1) 15 q_m15 Q 111 [some (.ref a), some (.int v), some (.int (nI 3))] [] (a + 12, I8, va_up (va_up (va_up (va_up (va_up J4 (a + 7) (fun _ => 0)) (a + 8) (fun _ => 0)) (a + 9) (fun _ => 0)) (a + 10) (fun _ => 0)) (a + 11) (fun _ => 0), q_up (va_up (q_up (va_up (q_up (va_up (q_up (q_up (va_up (q_up R4 a 8 (some (a + 5))) (a + 7) (fun _ => none)) a 9 (some (a + 7))) a 10 (some (a + 8))) (a + 9) (fun _ => none)) (a + 4) 0 (some (a + 9))) (a + 10) (fun _ => none)) (a + 4) 1 (some (a + 10))) (a + 11) (fun _ => none)) (a + 4) 2 (some (a + 11))) 11 44)
  refine ⟨fun z => absurd z (by decide), fun _ => ?_⟩
  refine q_k 1 ?_
  show q_W L (d + 1) 15 q_m15 Q 112 [some (.ref a), some (.int v), some (.int (nI 3))] [.ref a] (a + 12, I8, va_up (va_up (va_up (va_up (va_up J4 (a + 7) (fun _ => 0)) (a + 8) (fun _ => 0)) (a + 9) (fun _ => 0)) (a + 10) (fun _ => 0)) (a + 11) (fun _ => 0), q_up (va_up (q_up (va_up (q_up (va_up (q_up (q_up (va_up (q_up R4 a 8 (some (a + 5))) (a + 7) (fun _ => none)) a 9 (some (a + 7))) a 10 (some (a + 8))) (a + 9) (fun _ => none)) (a + 4) 0 (some (a + 9))) (a + 10) (fun _ => none)) (a + 4) 1 (some (a + 10))) (a + 11) (fun _ => none)) (a + 4) 2 (some (a + 11))) 11 44
  refine q_gR (b := (a + 4)) rfl rfl (⟨by omega, k0⟩) (by first | (simp (disch := omega) only [q_un, q_usk, q_usn, va_up_self, va_up_ne]; done) | (simp (disch := omega) only [q_un, q_usk, q_usn, va_up_self, va_up_ne, fR4])) ?_
  refine q_k 1 ?_
  show q_W L (d + 1) 15 q_m15 Q 116 [some (.ref a), some (.int v), some (.int (nI 3))] [.int (nI 3), .ref (a + 4)] (a + 12, I8, va_up (va_up (va_up (va_up (va_up J4 (a + 7) (fun _ => 0)) (a + 8) (fun _ => 0)) (a + 9) (fun _ => 0)) (a + 10) (fun _ => 0)) (a + 11) (fun _ => 0), q_up (va_up (q_up (va_up (q_up (va_up (q_up (q_up (va_up (q_up R4 a 8 (some (a + 5))) (a + 7) (fun _ => none)) a 9 (some (a + 7))) a 10 (some (a + 8))) (a + 9) (fun _ => none)) (a + 4) 0 (some (a + 9))) (a + 10) (fun _ => none)) (a + 4) 1 (some (a + 10))) (a + 11) (fun _ => none)) (a + 4) 2 (some (a + 11))) 11 44
  refine q_nw (n2 := a + 13) (uc2 := 12) (us2 := 46) rfl rfl (k12) rfl rfl rfl ⟨rfl, rfl⟩ ?_
  refine q_k 1 ?_
  show q_W L (d + 1) 15 q_m15 Q 120 [some (.ref a), some (.int v), some (.int (nI 3))] [.ref (a + 12), .ref (a + 12), .int (nI 3), .ref (a + 4)] (a + 13, va_up I8 (a + 12) (fun _ => 0), va_up (va_up (va_up (va_up (va_up (va_up J4 (a + 7) (fun _ => 0)) (a + 8) (fun _ => 0)) (a + 9) (fun _ => 0)) (a + 10) (fun _ => 0)) (a + 11) (fun _ => 0)) (a + 12) (fun _ => 0), va_up (q_up (va_up (q_up (va_up (q_up (va_up (q_up (q_up (va_up (q_up R4 a 8 (some (a + 5))) (a + 7) (fun _ => none)) a 9 (some (a + 7))) a 10 (some (a + 8))) (a + 9) (fun _ => none)) (a + 4) 0 (some (a + 9))) (a + 10) (fun _ => none)) (a + 4) 1 (some (a + 10))) (a + 11) (fun _ => none)) (a + 4) 2 (some (a + 11))) (a + 12) (fun _ => none)) 12 46
  refine q_ci1 (as := []) (rs := [.ref (a + 12), .int (nI 3), .ref (a + 4)]) rfl rfl rfl rfl rfl ?_
  refine c_PairInit ⟨by omega, k12⟩ (fun I9 f9 z9 => ?_)
  have y9 : ∀ j, I9 (a + 12) j = 0 := fun j => z9 j (by rw [va_up_self])
  show q_W L (d + 1) 15 q_m15 Q 123 [some (.ref a), some (.int v), some (.int (nI 3))] [.ref (a + 12), .int (nI 3), .ref (a + 4)] (a + 13, I9, va_up (va_up (va_up (va_up (va_up (va_up J4 (a + 7) (fun _ => 0)) (a + 8) (fun _ => 0)) (a + 9) (fun _ => 0)) (a + 10) (fun _ => 0)) (a + 11) (fun _ => 0)) (a + 12) (fun _ => 0), va_up (q_up (va_up (q_up (va_up (q_up (va_up (q_up (q_up (va_up (q_up R4 a 8 (some (a + 5))) (a + 7) (fun _ => none)) a 9 (some (a + 7))) a 10 (some (a + 8))) (a + 9) (fun _ => none)) (a + 4) 0 (some (a + 9))) (a + 10) (fun _ => none)) (a + 4) 1 (some (a + 10))) (a + 11) (fun _ => none)) (a + 4) 2 (some (a + 11))) (a + 12) (fun _ => none)) 12 46
  refine q_aas (m := 3) rfl (⟨by omega, by omega, k4⟩) ⟨rfl, rfl⟩ (⟨by omega, k12⟩) (by decide) rfl ?_
  refine q_k 1 ?_
  show q_W L (d + 1) 15 q_m15 Q 127 [some (.ref a), some (.int v), some (.int ((nI 3) + nI 1))] [] (a + 13, I9, va_up (va_up (va_up (va_up (va_up (va_up J4 (a + 7) (fun _ => 0)) (a + 8) (fun _ => 0)) (a + 9) (fun _ => 0)) (a + 10) (fun _ => 0)) (a + 11) (fun _ => 0)) (a + 12) (fun _ => 0), q_up (va_up (q_up (va_up (q_up (va_up (q_up (va_up (q_up (q_up (va_up (q_up R4 a 8 (some (a + 5))) (a + 7) (fun _ => none)) a 9 (some (a + 7))) a 10 (some (a + 8))) (a + 9) (fun _ => none)) (a + 4) 0 (some (a + 9))) (a + 10) (fun _ => none)) (a + 4) 1 (some (a + 10))) (a + 11) (fun _ => none)) (a + 4) 2 (some (a + 11))) (a + 12) (fun _ => none)) (a + 4) 3 (some (a + 12))) 12 46
  rw [show (nI 3) + nI 1 = nI 4 from nI_add _ _]
  refine q_k 3 ?_
  show q_W L (d + 1) 15 q_m15 Q 108 [some (.ref a), some (.int v), some (.int (nI 4))] [.int (nI 10), .int (nI 4)] (a + 13, I9, va_up (va_up (va_up (va_up (va_up (va_up J4 (a + 7) (fun _ => 0)) (a + 8) (fun _ => 0)) (a + 9) (fun _ => 0)) (a + 10) (fun _ => 0)) (a + 11) (fun _ => 0)) (a + 12) (fun _ => 0), q_up (va_up (q_up (va_up (q_up (va_up (q_up (va_up (q_up (q_up (va_up (q_up R4 a 8 (some (a + 5))) (a + 7) (fun _ => none)) a 9 (some (a + 7))) a 10 (some (a + 8))) (a + 9) (fun _ => none)) (a + 4) 0 (some (a + 9))) (a + 10) (fun _ => none)) (a + 4) 1 (some (a + 10))) (a + 11) (fun _ => none)) (a + 4) 2 (some (a + 11))) (a + 12) (fun _ => none)) (a + 4) 3 (some (a + 12))) 12 46
  refine q_one rfl rfl ?_
  show ((nI 10) ≤ (nI 4) → q_W L (d + 1) 15 q_m15 Q 130 [some (.ref a), some (.int v), some (.int (nI 4))] [] (a + 13, I9, va_up (va_up (va_up (va_up (va_up (va_up J4 (a + 7) (fun _ => 0)) (a + 8) (fun _ => 0)) (a + 9) (fun _ => 0)) (a + 10) (fun _ => 0)) (a + 11) (fun _ => 0)) (a + 12) (fun _ => 0), q_up (va_up (q_up (va_up (q_up (va_up (q_up (va_up (q_up (q_up (va_up (q_up R4 a 8 (some (a + 5))) (a + 7) (fun _ => none)) a 9 (some (a + 7))) a 10 (some (a + 8))) (a + 9) (fun _ => none)) (a + 4) 0 (some (a + 9))) (a + 10) (fun _ => none)) (a + 4) 1 (some (a + 10))) (a + 11) (fun _ => none)) (a + 4) 2 (some (a + 11))) (a + 12) (fun _ => none)) (a + 4) 3 (some (a + 12))) 12 46) ∧ (¬ (nI 10) ≤ (nI 4) → q_W L (d + 1) 15 q_m15 Q 111 [some (.ref a), some (.int v), some (.int (nI 4))] [] (a + 13, I9, va_up (va_up (va_up (va_up (va_up (va_up J4 (a + 7) (fun _ => 0)) (a + 8) (fun _ => 0)) (a + 9) (fun _ => 0)) (a + 10) (fun _ => 0)) (a + 11) (fun _ => 0)) (a + 12) (fun _ => 0), q_up (va_up (q_up (va_up (q_up (va_up (q_up (va_up (q_up (q_up (va_up (q_up R4 a 8 (some (a + 5))) (a + 7) (fun _ => none)) a 9 (some (a + 7))) a 10 (some (a + 8))) (a + 9) (fun _ => none)) (a + 4) 0 (some (a + 9))) (a + 10) (fun _ => none)) (a + 4) 1 (some (a + 10))) (a + 11) (fun _ => none)) (a + 4) 2 (some (a + 11))) (a + 12) (fun _ => none)) (a + 4) 3 (some (a + 12))) 12 46)
  refine ⟨fun z => absurd z (by decide), fun _ => ?_⟩
  refine q_k 1 ?_
  show q_W L (d + 1) 15 q_m15 Q 112 [some (.ref a), some (.int v), some (.int (nI 4))] [.ref a] (a + 13, I9, va_up (va_up (va_up (va_up (va_up (va_up J4 (a + 7) (fun _ => 0)) (a + 8) (fun _ => 0)) (a + 9) (fun _ => 0)) (a + 10) (fun _ => 0)) (a + 11) (fun _ => 0)) (a + 12) (fun _ => 0), q_up (va_up (q_up (va_up (q_up (va_up (q_up (va_up (q_up (q_up (va_up (q_up R4 a 8 (some (a + 5))) (a + 7) (fun _ => none)) a 9 (some (a + 7))) a 10 (some (a + 8))) (a + 9) (fun _ => none)) (a + 4) 0 (some (a + 9))) (a + 10) (fun _ => none)) (a + 4) 1 (some (a + 10))) (a + 11) (fun _ => none)) (a + 4) 2 (some (a + 11))) (a + 12) (fun _ => none)) (a + 4) 3 (some (a + 12))) 12 46
  refine q_gR (b := (a + 4)) rfl rfl (⟨by omega, k0⟩) (by first | (simp (disch := omega) only [q_un, q_usk, q_usn, va_up_self, va_up_ne]; done) | (simp (disch := omega) only [q_un, q_usk, q_usn, va_up_self, va_up_ne, fR4])) ?_
  refine q_k 1 ?_
  show q_W L (d + 1) 15 q_m15 Q 116 [some (.ref a), some (.int v), some (.int (nI 4))] [.int (nI 4), .ref (a + 4)] (a + 13, I9, va_up (va_up (va_up (va_up (va_up (va_up J4 (a + 7) (fun _ => 0)) (a + 8) (fun _ => 0)) (a + 9) (fun _ => 0)) (a + 10) (fun _ => 0)) (a + 11) (fun _ => 0)) (a + 12) (fun _ => 0), q_up (va_up (q_up (va_up (q_up (va_up (q_up (va_up (q_up (q_up (va_up (q_up R4 a 8 (some (a + 5))) (a + 7) (fun _ => none)) a 9 (some (a + 7))) a 10 (some (a + 8))) (a + 9) (fun _ => none)) (a + 4) 0 (some (a + 9))) (a + 10) (fun _ => none)) (a + 4) 1 (some (a + 10))) (a + 11) (fun _ => none)) (a + 4) 2 (some (a + 11))) (a + 12) (fun _ => none)) (a + 4) 3 (some (a + 12))) 12 46
  refine q_nw (n2 := a + 14) (uc2 := 13) (us2 := 48) rfl rfl (k13) rfl rfl rfl ⟨rfl, rfl⟩ ?_
  refine q_k 1 ?_
  show q_W L (d + 1) 15 q_m15 Q 120 [some (.ref a), some (.int v), some (.int (nI 4))] [.ref (a + 13), .ref (a + 13), .int (nI 4), .ref (a + 4)] (a + 14, va_up I9 (a + 13) (fun _ => 0), va_up (va_up (va_up (va_up (va_up (va_up (va_up J4 (a + 7) (fun _ => 0)) (a + 8) (fun _ => 0)) (a + 9) (fun _ => 0)) (a + 10) (fun _ => 0)) (a + 11) (fun _ => 0)) (a + 12) (fun _ => 0)) (a + 13) (fun _ => 0), va_up (q_up (va_up (q_up (va_up (q_up (va_up (q_up (va_up (q_up (q_up (va_up (q_up R4 a 8 (some (a + 5))) (a + 7) (fun _ => none)) a 9 (some (a + 7))) a 10 (some (a + 8))) (a + 9) (fun _ => none)) (a + 4) 0 (some (a + 9))) (a + 10) (fun _ => none)) (a + 4) 1 (some (a + 10))) (a + 11) (fun _ => none)) (a + 4) 2 (some (a + 11))) (a + 12) (fun _ => none)) (a + 4) 3 (some (a + 12))) (a + 13) (fun _ => none)) 13 48
  refine q_ci1 (as := []) (rs := [.ref (a + 13), .int (nI 4), .ref (a + 4)]) rfl rfl rfl rfl rfl ?_
  refine c_PairInit ⟨by omega, k13⟩ (fun I10 f10 z10 => ?_)
  have y10 : ∀ j, I10 (a + 13) j = 0 := fun j => z10 j (by rw [va_up_self])
  show q_W L (d + 1) 15 q_m15 Q 123 [some (.ref a), some (.int v), some (.int (nI 4))] [.ref (a + 13), .int (nI 4), .ref (a + 4)] (a + 14, I10, va_up (va_up (va_up (va_up (va_up (va_up (va_up J4 (a + 7) (fun _ => 0)) (a + 8) (fun _ => 0)) (a + 9) (fun _ => 0)) (a + 10) (fun _ => 0)) (a + 11) (fun _ => 0)) (a + 12) (fun _ => 0)) (a + 13) (fun _ => 0), va_up (q_up (va_up (q_up (va_up (q_up (va_up (q_up (va_up (q_up (q_up (va_up (q_up R4 a 8 (some (a + 5))) (a + 7) (fun _ => none)) a 9 (some (a + 7))) a 10 (some (a + 8))) (a + 9) (fun _ => none)) (a + 4) 0 (some (a + 9))) (a + 10) (fun _ => none)) (a + 4) 1 (some (a + 10))) (a + 11) (fun _ => none)) (a + 4) 2 (some (a + 11))) (a + 12) (fun _ => none)) (a + 4) 3 (some (a + 12))) (a + 13) (fun _ => none)) 13 48
  refine q_aas (m := 4) rfl (⟨by omega, by omega, k4⟩) ⟨rfl, rfl⟩ (⟨by omega, k13⟩) (by decide) rfl ?_
  refine q_k 1 ?_
  show q_W L (d + 1) 15 q_m15 Q 127 [some (.ref a), some (.int v), some (.int ((nI 4) + nI 1))] [] (a + 14, I10, va_up (va_up (va_up (va_up (va_up (va_up (va_up J4 (a + 7) (fun _ => 0)) (a + 8) (fun _ => 0)) (a + 9) (fun _ => 0)) (a + 10) (fun _ => 0)) (a + 11) (fun _ => 0)) (a + 12) (fun _ => 0)) (a + 13) (fun _ => 0), q_up (va_up (q_up (va_up (q_up (va_up (q_up (va_up (q_up (va_up (q_up (q_up (va_up (q_up R4 a 8 (some (a + 5))) (a + 7) (fun _ => none)) a 9 (some (a + 7))) a 10 (some (a + 8))) (a + 9) (fun _ => none)) (a + 4) 0 (some (a + 9))) (a + 10) (fun _ => none)) (a + 4) 1 (some (a + 10))) (a + 11) (fun _ => none)) (a + 4) 2 (some (a + 11))) (a + 12) (fun _ => none)) (a + 4) 3 (some (a + 12))) (a + 13) (fun _ => none)) (a + 4) 4 (some (a + 13))) 13 48
  rw [show (nI 4) + nI 1 = nI 5 from nI_add _ _]
  refine q_k 3 ?_
  show q_W L (d + 1) 15 q_m15 Q 108 [some (.ref a), some (.int v), some (.int (nI 5))] [.int (nI 10), .int (nI 5)] (a + 14, I10, va_up (va_up (va_up (va_up (va_up (va_up (va_up J4 (a + 7) (fun _ => 0)) (a + 8) (fun _ => 0)) (a + 9) (fun _ => 0)) (a + 10) (fun _ => 0)) (a + 11) (fun _ => 0)) (a + 12) (fun _ => 0)) (a + 13) (fun _ => 0), q_up (va_up (q_up (va_up (q_up (va_up (q_up (va_up (q_up (va_up (q_up (q_up (va_up (q_up R4 a 8 (some (a + 5))) (a + 7) (fun _ => none)) a 9 (some (a + 7))) a 10 (some (a + 8))) (a + 9) (fun _ => none)) (a + 4) 0 (some (a + 9))) (a + 10) (fun _ => none)) (a + 4) 1 (some (a + 10))) (a + 11) (fun _ => none)) (a + 4) 2 (some (a + 11))) (a + 12) (fun _ => none)) (a + 4) 3 (some (a + 12))) (a + 13) (fun _ => none)) (a + 4) 4 (some (a + 13))) 13 48
  refine q_one rfl rfl ?_
  show ((nI 10) ≤ (nI 5) → q_W L (d + 1) 15 q_m15 Q 130 [some (.ref a), some (.int v), some (.int (nI 5))] [] (a + 14, I10, va_up (va_up (va_up (va_up (va_up (va_up (va_up J4 (a + 7) (fun _ => 0)) (a + 8) (fun _ => 0)) (a + 9) (fun _ => 0)) (a + 10) (fun _ => 0)) (a + 11) (fun _ => 0)) (a + 12) (fun _ => 0)) (a + 13) (fun _ => 0), q_up (va_up (q_up (va_up (q_up (va_up (q_up (va_up (q_up (va_up (q_up (q_up (va_up (q_up R4 a 8 (some (a + 5))) (a + 7) (fun _ => none)) a 9 (some (a + 7))) a 10 (some (a + 8))) (a + 9) (fun _ => none)) (a + 4) 0 (some (a + 9))) (a + 10) (fun _ => none)) (a + 4) 1 (some (a + 10))) (a + 11) (fun _ => none)) (a + 4) 2 (some (a + 11))) (a + 12) (fun _ => none)) (a + 4) 3 (some (a + 12))) (a + 13) (fun _ => none)) (a + 4) 4 (some (a + 13))) 13 48) ∧ (¬ (nI 10) ≤ (nI 5) → q_W L (d + 1) 15 q_m15 Q 111 [some (.ref a), some (.int v), some (.int (nI 5))] [] (a + 14, I10, va_up (va_up (va_up (va_up (va_up (va_up (va_up J4 (a + 7) (fun _ => 0)) (a + 8) (fun _ => 0)) (a + 9) (fun _ => 0)) (a + 10) (fun _ => 0)) (a + 11) (fun _ => 0)) (a + 12) (fun _ => 0)) (a + 13) (fun _ => 0), q_up (va_up (q_up (va_up (q_up (va_up (q_up (va_up (q_up (va_up (q_up (q_up (va_up (q_up R4 a 8 (some (a + 5))) (a + 7) (fun _ => none)) a 9 (some (a + 7))) a 10 (some (a + 8))) (a + 9) (fun _ => none)) (a + 4) 0 (some (a + 9))) (a + 10) (fun _ => none)) (a + 4) 1 (some (a + 10))) (a + 11) (fun _ => none)) (a + 4) 2 (some (a + 11))) (a + 12) (fun _ => none)) (a + 4) 3 (some (a + 12))) (a + 13) (fun _ => none)) (a + 4) 4 (some (a + 13))) 13 48)
  refine ⟨fun z => absurd z (by decide), fun _ => ?_⟩
  refine q_k 1 ?_
  show q_W L (d + 1) 15 q_m15 Q 112 [some (.ref a), some (.int v), some (.int (nI 5))] [.ref a] (a + 14, I10, va_up (va_up (va_up (va_up (va_up (va_up (va_up J4 (a + 7) (fun _ => 0)) (a + 8) (fun _ => 0)) (a + 9) (fun _ => 0)) (a + 10) (fun _ => 0)) (a + 11) (fun _ => 0)) (a + 12) (fun _ => 0)) (a + 13) (fun _ => 0), q_up (va_up (q_up (va_up (q_up (va_up (q_up (va_up (q_up (va_up (q_up (q_up (va_up (q_up R4 a 8 (some (a + 5))) (a + 7) (fun _ => none)) a 9 (some (a + 7))) a 10 (some (a + 8))) (a + 9) (fun _ => none)) (a + 4) 0 (some (a + 9))) (a + 10) (fun _ => none)) (a + 4) 1 (some (a + 10))) (a + 11) (fun _ => none)) (a + 4) 2 (some (a + 11))) (a + 12) (fun _ => none)) (a + 4) 3 (some (a + 12))) (a + 13) (fun _ => none)) (a + 4) 4 (some (a + 13))) 13 48
  refine q_gR (b := (a + 4)) rfl rfl (⟨by omega, k0⟩) (by first | (simp (disch := omega) only [q_un, q_usk, q_usn, va_up_self, va_up_ne]; done) | (simp (disch := omega) only [q_un, q_usk, q_usn, va_up_self, va_up_ne, fR4])) ?_
  refine q_k 1 ?_
  show q_W L (d + 1) 15 q_m15 Q 116 [some (.ref a), some (.int v), some (.int (nI 5))] [.int (nI 5), .ref (a + 4)] (a + 14, I10, va_up (va_up (va_up (va_up (va_up (va_up (va_up J4 (a + 7) (fun _ => 0)) (a + 8) (fun _ => 0)) (a + 9) (fun _ => 0)) (a + 10) (fun _ => 0)) (a + 11) (fun _ => 0)) (a + 12) (fun _ => 0)) (a + 13) (fun _ => 0), q_up (va_up (q_up (va_up (q_up (va_up (q_up (va_up (q_up (va_up (q_up (q_up (va_up (q_up R4 a 8 (some (a + 5))) (a + 7) (fun _ => none)) a 9 (some (a + 7))) a 10 (some (a + 8))) (a + 9) (fun _ => none)) (a + 4) 0 (some (a + 9))) (a + 10) (fun _ => none)) (a + 4) 1 (some (a + 10))) (a + 11) (fun _ => none)) (a + 4) 2 (some (a + 11))) (a + 12) (fun _ => none)) (a + 4) 3 (some (a + 12))) (a + 13) (fun _ => none)) (a + 4) 4 (some (a + 13))) 13 48
  refine q_nw (n2 := a + 15) (uc2 := 14) (us2 := 50) rfl rfl (k14) rfl rfl rfl ⟨rfl, rfl⟩ ?_
  refine q_k 1 ?_
  show q_W L (d + 1) 15 q_m15 Q 120 [some (.ref a), some (.int v), some (.int (nI 5))] [.ref (a + 14), .ref (a + 14), .int (nI 5), .ref (a + 4)] (a + 15, va_up I10 (a + 14) (fun _ => 0), va_up (va_up (va_up (va_up (va_up (va_up (va_up (va_up J4 (a + 7) (fun _ => 0)) (a + 8) (fun _ => 0)) (a + 9) (fun _ => 0)) (a + 10) (fun _ => 0)) (a + 11) (fun _ => 0)) (a + 12) (fun _ => 0)) (a + 13) (fun _ => 0)) (a + 14) (fun _ => 0), va_up (q_up (va_up (q_up (va_up (q_up (va_up (q_up (va_up (q_up (va_up (q_up (q_up (va_up (q_up R4 a 8 (some (a + 5))) (a + 7) (fun _ => none)) a 9 (some (a + 7))) a 10 (some (a + 8))) (a + 9) (fun _ => none)) (a + 4) 0 (some (a + 9))) (a + 10) (fun _ => none)) (a + 4) 1 (some (a + 10))) (a + 11) (fun _ => none)) (a + 4) 2 (some (a + 11))) (a + 12) (fun _ => none)) (a + 4) 3 (some (a + 12))) (a + 13) (fun _ => none)) (a + 4) 4 (some (a + 13))) (a + 14) (fun _ => none)) 14 50
  refine q_ci1 (as := []) (rs := [.ref (a + 14), .int (nI 5), .ref (a + 4)]) rfl rfl rfl rfl rfl ?_
  refine c_PairInit ⟨by omega, k14⟩ (fun I11 f11 z11 => ?_)
  have y11 : ∀ j, I11 (a + 14) j = 0 := fun j => z11 j (by rw [va_up_self])
  show q_W L (d + 1) 15 q_m15 Q 123 [some (.ref a), some (.int v), some (.int (nI 5))] [.ref (a + 14), .int (nI 5), .ref (a + 4)] (a + 15, I11, va_up (va_up (va_up (va_up (va_up (va_up (va_up (va_up J4 (a + 7) (fun _ => 0)) (a + 8) (fun _ => 0)) (a + 9) (fun _ => 0)) (a + 10) (fun _ => 0)) (a + 11) (fun _ => 0)) (a + 12) (fun _ => 0)) (a + 13) (fun _ => 0)) (a + 14) (fun _ => 0), va_up (q_up (va_up (q_up (va_up (q_up (va_up (q_up (va_up (q_up (va_up (q_up (q_up (va_up (q_up R4 a 8 (some (a + 5))) (a + 7) (fun _ => none)) a 9 (some (a + 7))) a 10 (some (a + 8))) (a + 9) (fun _ => none)) (a + 4) 0 (some (a + 9))) (a + 10) (fun _ => none)) (a + 4) 1 (some (a + 10))) (a + 11) (fun _ => none)) (a + 4) 2 (some (a + 11))) (a + 12) (fun _ => none)) (a + 4) 3 (some (a + 12))) (a + 13) (fun _ => none)) (a + 4) 4 (some (a + 13))) (a + 14) (fun _ => none)) 14 50
  refine q_aas (m := 5) rfl (⟨by omega, by omega, k4⟩) ⟨rfl, rfl⟩ (⟨by omega, k14⟩) (by decide) rfl ?_
  refine q_k 1 ?_
  show q_W L (d + 1) 15 q_m15 Q 127 [some (.ref a), some (.int v), some (.int ((nI 5) + nI 1))] [] (a + 15, I11, va_up (va_up (va_up (va_up (va_up (va_up (va_up (va_up J4 (a + 7) (fun _ => 0)) (a + 8) (fun _ => 0)) (a + 9) (fun _ => 0)) (a + 10) (fun _ => 0)) (a + 11) (fun _ => 0)) (a + 12) (fun _ => 0)) (a + 13) (fun _ => 0)) (a + 14) (fun _ => 0), q_up (va_up (q_up (va_up (q_up (va_up (q_up (va_up (q_up (va_up (q_up (va_up (q_up (q_up (va_up (q_up R4 a 8 (some (a + 5))) (a + 7) (fun _ => none)) a 9 (some (a + 7))) a 10 (some (a + 8))) (a + 9) (fun _ => none)) (a + 4) 0 (some (a + 9))) (a + 10) (fun _ => none)) (a + 4) 1 (some (a + 10))) (a + 11) (fun _ => none)) (a + 4) 2 (some (a + 11))) (a + 12) (fun _ => none)) (a + 4) 3 (some (a + 12))) (a + 13) (fun _ => none)) (a + 4) 4 (some (a + 13))) (a + 14) (fun _ => none)) (a + 4) 5 (some (a + 14))) 14 50
  rw [show (nI 5) + nI 1 = nI 6 from nI_add _ _]
  refine q_k 3 ?_
  show q_W L (d + 1) 15 q_m15 Q 108 [some (.ref a), some (.int v), some (.int (nI 6))] [.int (nI 10), .int (nI 6)] (a + 15, I11, va_up (va_up (va_up (va_up (va_up (va_up (va_up (va_up J4 (a + 7) (fun _ => 0)) (a + 8) (fun _ => 0)) (a + 9) (fun _ => 0)) (a + 10) (fun _ => 0)) (a + 11) (fun _ => 0)) (a + 12) (fun _ => 0)) (a + 13) (fun _ => 0)) (a + 14) (fun _ => 0), q_up (va_up (q_up (va_up (q_up (va_up (q_up (va_up (q_up (va_up (q_up (va_up (q_up (q_up (va_up (q_up R4 a 8 (some (a + 5))) (a + 7) (fun _ => none)) a 9 (some (a + 7))) a 10 (some (a + 8))) (a + 9) (fun _ => none)) (a + 4) 0 (some (a + 9))) (a + 10) (fun _ => none)) (a + 4) 1 (some (a + 10))) (a + 11) (fun _ => none)) (a + 4) 2 (some (a + 11))) (a + 12) (fun _ => none)) (a + 4) 3 (some (a + 12))) (a + 13) (fun _ => none)) (a + 4) 4 (some (a + 13))) (a + 14) (fun _ => none)) (a + 4) 5 (some (a + 14))) 14 50
  refine q_one rfl rfl ?_
  show ((nI 10) ≤ (nI 6) → q_W L (d + 1) 15 q_m15 Q 130 [some (.ref a), some (.int v), some (.int (nI 6))] [] (a + 15, I11, va_up (va_up (va_up (va_up (va_up (va_up (va_up (va_up J4 (a + 7) (fun _ => 0)) (a + 8) (fun _ => 0)) (a + 9) (fun _ => 0)) (a + 10) (fun _ => 0)) (a + 11) (fun _ => 0)) (a + 12) (fun _ => 0)) (a + 13) (fun _ => 0)) (a + 14) (fun _ => 0), q_up (va_up (q_up (va_up (q_up (va_up (q_up (va_up (q_up (va_up (q_up (va_up (q_up (q_up (va_up (q_up R4 a 8 (some (a + 5))) (a + 7) (fun _ => none)) a 9 (some (a + 7))) a 10 (some (a + 8))) (a + 9) (fun _ => none)) (a + 4) 0 (some (a + 9))) (a + 10) (fun _ => none)) (a + 4) 1 (some (a + 10))) (a + 11) (fun _ => none)) (a + 4) 2 (some (a + 11))) (a + 12) (fun _ => none)) (a + 4) 3 (some (a + 12))) (a + 13) (fun _ => none)) (a + 4) 4 (some (a + 13))) (a + 14) (fun _ => none)) (a + 4) 5 (some (a + 14))) 14 50) ∧ (¬ (nI 10) ≤ (nI 6) → q_W L (d + 1) 15 q_m15 Q 111 [some (.ref a), some (.int v), some (.int (nI 6))] [] (a + 15, I11, va_up (va_up (va_up (va_up (va_up (va_up (va_up (va_up J4 (a + 7) (fun _ => 0)) (a + 8) (fun _ => 0)) (a + 9) (fun _ => 0)) (a + 10) (fun _ => 0)) (a + 11) (fun _ => 0)) (a + 12) (fun _ => 0)) (a + 13) (fun _ => 0)) (a + 14) (fun _ => 0), q_up (va_up (q_up (va_up (q_up (va_up (q_up (va_up (q_up (va_up (q_up (va_up (q_up (q_up (va_up (q_up R4 a 8 (some (a + 5))) (a + 7) (fun _ => none)) a 9 (some (a + 7))) a 10 (some (a + 8))) (a + 9) (fun _ => none)) (a + 4) 0 (some (a + 9))) (a + 10) (fun _ => none)) (a + 4) 1 (some (a + 10))) (a + 11) (fun _ => none)) (a + 4) 2 (some (a + 11))) (a + 12) (fun _ => none)) (a + 4) 3 (some (a + 12))) (a + 13) (fun _ => none)) (a + 4) 4 (some (a + 13))) (a + 14) (fun _ => none)) (a + 4) 5 (some (a + 14))) 14 50)
  refine ⟨fun z => absurd z (by decide), fun _ => ?_⟩
  refine q_k 1 ?_
  show q_W L (d + 1) 15 q_m15 Q 112 [some (.ref a), some (.int v), some (.int (nI 6))] [.ref a] (a + 15, I11, va_up (va_up (va_up (va_up (va_up (va_up (va_up (va_up J4 (a + 7) (fun _ => 0)) (a + 8) (fun _ => 0)) (a + 9) (fun _ => 0)) (a + 10) (fun _ => 0)) (a + 11) (fun _ => 0)) (a + 12) (fun _ => 0)) (a + 13) (fun _ => 0)) (a + 14) (fun _ => 0), q_up (va_up (q_up (va_up (q_up (va_up (q_up (va_up (q_up (va_up (q_up (va_up (q_up (q_up (va_up (q_up R4 a 8 (some (a + 5))) (a + 7) (fun _ => none)) a 9 (some (a + 7))) a 10 (some (a + 8))) (a + 9) (fun _ => none)) (a + 4) 0 (some (a + 9))) (a + 10) (fun _ => none)) (a + 4) 1 (some (a + 10))) (a + 11) (fun _ => none)) (a + 4) 2 (some (a + 11))) (a + 12) (fun _ => none)) (a + 4) 3 (some (a + 12))) (a + 13) (fun _ => none)) (a + 4) 4 (some (a + 13))) (a + 14) (fun _ => none)) (a + 4) 5 (some (a + 14))) 14 50
  refine q_gR (b := (a + 4)) rfl rfl (⟨by omega, k0⟩) (by first | (simp (disch := omega) only [q_un, q_usk, q_usn, va_up_self, va_up_ne]; done) | (simp (disch := omega) only [q_un, q_usk, q_usn, va_up_self, va_up_ne, fR4])) ?_
  refine q_k 1 ?_
  show q_W L (d + 1) 15 q_m15 Q 116 [some (.ref a), some (.int v), some (.int (nI 6))] [.int (nI 6), .ref (a + 4)] (a + 15, I11, va_up (va_up (va_up (va_up (va_up (va_up (va_up (va_up J4 (a + 7) (fun _ => 0)) (a + 8) (fun _ => 0)) (a + 9) (fun _ => 0)) (a + 10) (fun _ => 0)) (a + 11) (fun _ => 0)) (a + 12) (fun _ => 0)) (a + 13) (fun _ => 0)) (a + 14) (fun _ => 0), q_up (va_up (q_up (va_up (q_up (va_up (q_up (va_up (q_up (va_up (q_up (va_up (q_up (q_up (va_up (q_up R4 a 8 (some (a + 5))) (a + 7) (fun _ => none)) a 9 (some (a + 7))) a 10 (some (a + 8))) (a + 9) (fun _ => none)) (a + 4) 0 (some (a + 9))) (a + 10) (fun _ => none)) (a + 4) 1 (some (a + 10))) (a + 11) (fun _ => none)) (a + 4) 2 (some (a + 11))) (a + 12) (fun _ => none)) (a + 4) 3 (some (a + 12))) (a + 13) (fun _ => none)) (a + 4) 4 (some (a + 13))) (a + 14) (fun _ => none)) (a + 4) 5 (some (a + 14))) 14 50
  refine q_nw (n2 := a + 16) (uc2 := 15) (us2 := 52) rfl rfl (k15) rfl rfl rfl ⟨rfl, rfl⟩ ?_
  refine q_k 1 ?_
  show q_W L (d + 1) 15 q_m15 Q 120 [some (.ref a), some (.int v), some (.int (nI 6))] [.ref (a + 15), .ref (a + 15), .int (nI 6), .ref (a + 4)] (a + 16, va_up I11 (a + 15) (fun _ => 0), va_up (va_up (va_up (va_up (va_up (va_up (va_up (va_up (va_up J4 (a + 7) (fun _ => 0)) (a + 8) (fun _ => 0)) (a + 9) (fun _ => 0)) (a + 10) (fun _ => 0)) (a + 11) (fun _ => 0)) (a + 12) (fun _ => 0)) (a + 13) (fun _ => 0)) (a + 14) (fun _ => 0)) (a + 15) (fun _ => 0), va_up (q_up (va_up (q_up (va_up (q_up (va_up (q_up (va_up (q_up (va_up (q_up (va_up (q_up (q_up (va_up (q_up R4 a 8 (some (a + 5))) (a + 7) (fun _ => none)) a 9 (some (a + 7))) a 10 (some (a + 8))) (a + 9) (fun _ => none)) (a + 4) 0 (some (a + 9))) (a + 10) (fun _ => none)) (a + 4) 1 (some (a + 10))) (a + 11) (fun _ => none)) (a + 4) 2 (some (a + 11))) (a + 12) (fun _ => none)) (a + 4) 3 (some (a + 12))) (a + 13) (fun _ => none)) (a + 4) 4 (some (a + 13))) (a + 14) (fun _ => none)) (a + 4) 5 (some (a + 14))) (a + 15) (fun _ => none)) 15 52
  refine q_ci1 (as := []) (rs := [.ref (a + 15), .int (nI 6), .ref (a + 4)]) rfl rfl rfl rfl rfl ?_
  refine c_PairInit ⟨by omega, k15⟩ (fun I12 f12 z12 => ?_)
  have y12 : ∀ j, I12 (a + 15) j = 0 := fun j => z12 j (by rw [va_up_self])
  show q_W L (d + 1) 15 q_m15 Q 123 [some (.ref a), some (.int v), some (.int (nI 6))] [.ref (a + 15), .int (nI 6), .ref (a + 4)] (a + 16, I12, va_up (va_up (va_up (va_up (va_up (va_up (va_up (va_up (va_up J4 (a + 7) (fun _ => 0)) (a + 8) (fun _ => 0)) (a + 9) (fun _ => 0)) (a + 10) (fun _ => 0)) (a + 11) (fun _ => 0)) (a + 12) (fun _ => 0)) (a + 13) (fun _ => 0)) (a + 14) (fun _ => 0)) (a + 15) (fun _ => 0), va_up (q_up (va_up (q_up (va_up (q_up (va_up (q_up (va_up (q_up (va_up (q_up (va_up (q_up (q_up (va_up (q_up R4 a 8 (some (a + 5))) (a + 7) (fun _ => none)) a 9 (some (a + 7))) a 10 (some (a + 8))) (a + 9) (fun _ => none)) (a + 4) 0 (some (a + 9))) (a + 10) (fun _ => none)) (a + 4) 1 (some (a + 10))) (a + 11) (fun _ => none)) (a + 4) 2 (some (a + 11))) (a + 12) (fun _ => none)) (a + 4) 3 (some (a + 12))) (a + 13) (fun _ => none)) (a + 4) 4 (some (a + 13))) (a + 14) (fun _ => none)) (a + 4) 5 (some (a + 14))) (a + 15) (fun _ => none)) 15 52
  refine q_aas (m := 6) rfl (⟨by omega, by omega, k4⟩) ⟨rfl, rfl⟩ (⟨by omega, k15⟩) (by decide) rfl ?_
  refine q_k 1 ?_
  show q_W L (d + 1) 15 q_m15 Q 127 [some (.ref a), some (.int v), some (.int ((nI 6) + nI 1))] [] (a + 16, I12, va_up (va_up (va_up (va_up (va_up (va_up (va_up (va_up (va_up J4 (a + 7) (fun _ => 0)) (a + 8) (fun _ => 0)) (a + 9) (fun _ => 0)) (a + 10) (fun _ => 0)) (a + 11) (fun _ => 0)) (a + 12) (fun _ => 0)) (a + 13) (fun _ => 0)) (a + 14) (fun _ => 0)) (a + 15) (fun _ => 0), q_up (va_up (q_up (va_up (q_up (va_up (q_up (va_up (q_up (va_up (q_up (va_up (q_up (va_up (q_up (q_up (va_up (q_up R4 a 8 (some (a + 5))) (a + 7) (fun _ => none)) a 9 (some (a + 7))) a 10 (some (a + 8))) (a + 9) (fun _ => none)) (a + 4) 0 (some (a + 9))) (a + 10) (fun _ => none)) (a + 4) 1 (some (a + 10))) (a + 11) (fun _ => none)) (a + 4) 2 (some (a + 11))) (a + 12) (fun _ => none)) (a + 4) 3 (some (a + 12))) (a + 13) (fun _ => none)) (a + 4) 4 (some (a + 13))) (a + 14) (fun _ => none)) (a + 4) 5 (some (a + 14))) (a + 15) (fun _ => none)) (a + 4) 6 (some (a + 15))) 15 52
  rw [show (nI 6) + nI 1 = nI 7 from nI_add _ _]
  refine q_k 3 ?_
  show q_W L (d + 1) 15 q_m15 Q 108 [some (.ref a), some (.int v), some (.int (nI 7))] [.int (nI 10), .int (nI 7)] (a + 16, I12, va_up (va_up (va_up (va_up (va_up (va_up (va_up (va_up (va_up J4 (a + 7) (fun _ => 0)) (a + 8) (fun _ => 0)) (a + 9) (fun _ => 0)) (a + 10) (fun _ => 0)) (a + 11) (fun _ => 0)) (a + 12) (fun _ => 0)) (a + 13) (fun _ => 0)) (a + 14) (fun _ => 0)) (a + 15) (fun _ => 0), q_up (va_up (q_up (va_up (q_up (va_up (q_up (va_up (q_up (va_up (q_up (va_up (q_up (va_up (q_up (q_up (va_up (q_up R4 a 8 (some (a + 5))) (a + 7) (fun _ => none)) a 9 (some (a + 7))) a 10 (some (a + 8))) (a + 9) (fun _ => none)) (a + 4) 0 (some (a + 9))) (a + 10) (fun _ => none)) (a + 4) 1 (some (a + 10))) (a + 11) (fun _ => none)) (a + 4) 2 (some (a + 11))) (a + 12) (fun _ => none)) (a + 4) 3 (some (a + 12))) (a + 13) (fun _ => none)) (a + 4) 4 (some (a + 13))) (a + 14) (fun _ => none)) (a + 4) 5 (some (a + 14))) (a + 15) (fun _ => none)) (a + 4) 6 (some (a + 15))) 15 52
  refine q_one rfl rfl ?_
  show ((nI 10) ≤ (nI 7) → q_W L (d + 1) 15 q_m15 Q 130 [some (.ref a), some (.int v), some (.int (nI 7))] [] (a + 16, I12, va_up (va_up (va_up (va_up (va_up (va_up (va_up (va_up (va_up J4 (a + 7) (fun _ => 0)) (a + 8) (fun _ => 0)) (a + 9) (fun _ => 0)) (a + 10) (fun _ => 0)) (a + 11) (fun _ => 0)) (a + 12) (fun _ => 0)) (a + 13) (fun _ => 0)) (a + 14) (fun _ => 0)) (a + 15) (fun _ => 0), q_up (va_up (q_up (va_up (q_up (va_up (q_up (va_up (q_up (va_up (q_up (va_up (q_up (va_up (q_up (q_up (va_up (q_up R4 a 8 (some (a + 5))) (a + 7) (fun _ => none)) a 9 (some (a + 7))) a 10 (some (a + 8))) (a + 9) (fun _ => none)) (a + 4) 0 (some (a + 9))) (a + 10) (fun _ => none)) (a + 4) 1 (some (a + 10))) (a + 11) (fun _ => none)) (a + 4) 2 (some (a + 11))) (a + 12) (fun _ => none)) (a + 4) 3 (some (a + 12))) (a + 13) (fun _ => none)) (a + 4) 4 (some (a + 13))) (a + 14) (fun _ => none)) (a + 4) 5 (some (a + 14))) (a + 15) (fun _ => none)) (a + 4) 6 (some (a + 15))) 15 52) ∧ (¬ (nI 10) ≤ (nI 7) → q_W L (d + 1) 15 q_m15 Q 111 [some (.ref a), some (.int v), some (.int (nI 7))] [] (a + 16, I12, va_up (va_up (va_up (va_up (va_up (va_up (va_up (va_up (va_up J4 (a + 7) (fun _ => 0)) (a + 8) (fun _ => 0)) (a + 9) (fun _ => 0)) (a + 10) (fun _ => 0)) (a + 11) (fun _ => 0)) (a + 12) (fun _ => 0)) (a + 13) (fun _ => 0)) (a + 14) (fun _ => 0)) (a + 15) (fun _ => 0), q_up (va_up (q_up (va_up (q_up (va_up (q_up (va_up (q_up (va_up (q_up (va_up (q_up (va_up (q_up (q_up (va_up (q_up R4 a 8 (some (a + 5))) (a + 7) (fun _ => none)) a 9 (some (a + 7))) a 10 (some (a + 8))) (a + 9) (fun _ => none)) (a + 4) 0 (some (a + 9))) (a + 10) (fun _ => none)) (a + 4) 1 (some (a + 10))) (a + 11) (fun _ => none)) (a + 4) 2 (some (a + 11))) (a + 12) (fun _ => none)) (a + 4) 3 (some (a + 12))) (a + 13) (fun _ => none)) (a + 4) 4 (some (a + 13))) (a + 14) (fun _ => none)) (a + 4) 5 (some (a + 14))) (a + 15) (fun _ => none)) (a + 4) 6 (some (a + 15))) 15 52)
  refine ⟨fun z => absurd z (by decide), fun _ => ?_⟩
  refine q_k 1 ?_
  show q_W L (d + 1) 15 q_m15 Q 112 [some (.ref a), some (.int v), some (.int (nI 7))] [.ref a] (a + 16, I12, va_up (va_up (va_up (va_up (va_up (va_up (va_up (va_up (va_up J4 (a + 7) (fun _ => 0)) (a + 8) (fun _ => 0)) (a + 9) (fun _ => 0)) (a + 10) (fun _ => 0)) (a + 11) (fun _ => 0)) (a + 12) (fun _ => 0)) (a + 13) (fun _ => 0)) (a + 14) (fun _ => 0)) (a + 15) (fun _ => 0), q_up (va_up (q_up (va_up (q_up (va_up (q_up (va_up (q_up (va_up (q_up (va_up (q_up (va_up (q_up (q_up (va_up (q_up R4 a 8 (some (a + 5))) (a + 7) (fun _ => none)) a 9 (some (a + 7))) a 10 (some (a + 8))) (a + 9) (fun _ => none)) (a + 4) 0 (some (a + 9))) (a + 10) (fun _ => none)) (a + 4) 1 (some (a + 10))) (a + 11) (fun _ => none)) (a + 4) 2 (some (a + 11))) (a + 12) (fun _ => none)) (a + 4) 3 (some (a + 12))) (a + 13) (fun _ => none)) (a + 4) 4 (some (a + 13))) (a + 14) (fun _ => none)) (a + 4) 5 (some (a + 14))) (a + 15) (fun _ => none)) (a + 4) 6 (some (a + 15))) 15 52
  refine q_gR (b := (a + 4)) rfl rfl (⟨by omega, k0⟩) (by first | (simp (disch := omega) only [q_un, q_usk, q_usn, va_up_self, va_up_ne]; done) | (simp (disch := omega) only [q_un, q_usk, q_usn, va_up_self, va_up_ne, fR4])) ?_
  refine q_k 1 ?_
  show q_W L (d + 1) 15 q_m15 Q 116 [some (.ref a), some (.int v), some (.int (nI 7))] [.int (nI 7), .ref (a + 4)] (a + 16, I12, va_up (va_up (va_up (va_up (va_up (va_up (va_up (va_up (va_up J4 (a + 7) (fun _ => 0)) (a + 8) (fun _ => 0)) (a + 9) (fun _ => 0)) (a + 10) (fun _ => 0)) (a + 11) (fun _ => 0)) (a + 12) (fun _ => 0)) (a + 13) (fun _ => 0)) (a + 14) (fun _ => 0)) (a + 15) (fun _ => 0), q_up (va_up (q_up (va_up (q_up (va_up (q_up (va_up (q_up (va_up (q_up (va_up (q_up (va_up (q_up (q_up (va_up (q_up R4 a 8 (some (a + 5))) (a + 7) (fun _ => none)) a 9 (some (a + 7))) a 10 (some (a + 8))) (a + 9) (fun _ => none)) (a + 4) 0 (some (a + 9))) (a + 10) (fun _ => none)) (a + 4) 1 (some (a + 10))) (a + 11) (fun _ => none)) (a + 4) 2 (some (a + 11))) (a + 12) (fun _ => none)) (a + 4) 3 (some (a + 12))) (a + 13) (fun _ => none)) (a + 4) 4 (some (a + 13))) (a + 14) (fun _ => none)) (a + 4) 5 (some (a + 14))) (a + 15) (fun _ => none)) (a + 4) 6 (some (a + 15))) 15 52
  refine q_nw (n2 := a + 17) (uc2 := 16) (us2 := 54) rfl rfl (k16) rfl rfl rfl ⟨rfl, rfl⟩ ?_
  refine q_k 1 ?_
  show q_W L (d + 1) 15 q_m15 Q 120 [some (.ref a), some (.int v), some (.int (nI 7))] [.ref (a + 16), .ref (a + 16), .int (nI 7), .ref (a + 4)] (a + 17, va_up I12 (a + 16) (fun _ => 0), va_up (va_up (va_up (va_up (va_up (va_up (va_up (va_up (va_up (va_up J4 (a + 7) (fun _ => 0)) (a + 8) (fun _ => 0)) (a + 9) (fun _ => 0)) (a + 10) (fun _ => 0)) (a + 11) (fun _ => 0)) (a + 12) (fun _ => 0)) (a + 13) (fun _ => 0)) (a + 14) (fun _ => 0)) (a + 15) (fun _ => 0)) (a + 16) (fun _ => 0), va_up (q_up (va_up (q_up (va_up (q_up (va_up (q_up (va_up (q_up (va_up (q_up (va_up (q_up (va_up (q_up (q_up (va_up (q_up R4 a 8 (some (a + 5))) (a + 7) (fun _ => none)) a 9 (some (a + 7))) a 10 (some (a + 8))) (a + 9) (fun _ => none)) (a + 4) 0 (some (a + 9))) (a + 10) (fun _ => none)) (a + 4) 1 (some (a + 10))) (a + 11) (fun _ => none)) (a + 4) 2 (some (a + 11))) (a + 12) (fun _ => none)) (a + 4) 3 (some (a + 12))) (a + 13) (fun _ => none)) (a + 4) 4 (some (a + 13))) (a + 14) (fun _ => none)) (a + 4) 5 (some (a + 14))) (a + 15) (fun _ => none)) (a + 4) 6 (some (a + 15))) (a + 16) (fun _ => none)) 16 54
  refine q_ci1 (as := []) (rs := [.ref (a + 16), .int (nI 7), .ref (a + 4)]) rfl rfl rfl rfl rfl ?_
  refine c_PairInit ⟨by omega, k16⟩ (fun I13 f13 z13 => ?_)
  have y13 : ∀ j, I13 (a + 16) j = 0 := fun j => z13 j (by rw [va_up_self])
  show q_W L (d + 1) 15 q_m15 Q 123 [some (.ref a), some (.int v), some (.int (nI 7))] [.ref (a + 16), .int (nI 7), .ref (a + 4)] (a + 17, I13, va_up (va_up (va_up (va_up (va_up (va_up (va_up (va_up (va_up (va_up J4 (a + 7) (fun _ => 0)) (a + 8) (fun _ => 0)) (a + 9) (fun _ => 0)) (a + 10) (fun _ => 0)) (a + 11) (fun _ => 0)) (a + 12) (fun _ => 0)) (a + 13) (fun _ => 0)) (a + 14) (fun _ => 0)) (a + 15) (fun _ => 0)) (a + 16) (fun _ => 0), va_up (q_up (va_up (q_up (va_up (q_up (va_up (q_up (va_up (q_up (va_up (q_up (va_up (q_up (va_up (q_up (q_up (va_up (q_up R4 a 8 (some (a + 5))) (a + 7) (fun _ => none)) a 9 (some (a + 7))) a 10 (some (a + 8))) (a + 9) (fun _ => none)) (a + 4) 0 (some (a + 9))) (a + 10) (fun _ => none)) (a + 4) 1 (some (a + 10))) (a + 11) (fun _ => none)) (a + 4) 2 (some (a + 11))) (a + 12) (fun _ => none)) (a + 4) 3 (some (a + 12))) (a + 13) (fun _ => none)) (a + 4) 4 (some (a + 13))) (a + 14) (fun _ => none)) (a + 4) 5 (some (a + 14))) (a + 15) (fun _ => none)) (a + 4) 6 (some (a + 15))) (a + 16) (fun _ => none)) 16 54
  refine q_aas (m := 7) rfl (⟨by omega, by omega, k4⟩) ⟨rfl, rfl⟩ (⟨by omega, k16⟩) (by decide) rfl ?_
  refine q_k 1 ?_
  show q_W L (d + 1) 15 q_m15 Q 127 [some (.ref a), some (.int v), some (.int ((nI 7) + nI 1))] [] (a + 17, I13, va_up (va_up (va_up (va_up (va_up (va_up (va_up (va_up (va_up (va_up J4 (a + 7) (fun _ => 0)) (a + 8) (fun _ => 0)) (a + 9) (fun _ => 0)) (a + 10) (fun _ => 0)) (a + 11) (fun _ => 0)) (a + 12) (fun _ => 0)) (a + 13) (fun _ => 0)) (a + 14) (fun _ => 0)) (a + 15) (fun _ => 0)) (a + 16) (fun _ => 0), q_up (va_up (q_up (va_up (q_up (va_up (q_up (va_up (q_up (va_up (q_up (va_up (q_up (va_up (q_up (va_up (q_up (q_up (va_up (q_up R4 a 8 (some (a + 5))) (a + 7) (fun _ => none)) a 9 (some (a + 7))) a 10 (some (a + 8))) (a + 9) (fun _ => none)) (a + 4) 0 (some (a + 9))) (a + 10) (fun _ => none)) (a + 4) 1 (some (a + 10))) (a + 11) (fun _ => none)) (a + 4) 2 (some (a + 11))) (a + 12) (fun _ => none)) (a + 4) 3 (some (a + 12))) (a + 13) (fun _ => none)) (a + 4) 4 (some (a + 13))) (a + 14) (fun _ => none)) (a + 4) 5 (some (a + 14))) (a + 15) (fun _ => none)) (a + 4) 6 (some (a + 15))) (a + 16) (fun _ => none)) (a + 4) 7 (some (a + 16))) 16 54
  rw [show (nI 7) + nI 1 = nI 8 from nI_add _ _]
  refine q_k 3 ?_
  show q_W L (d + 1) 15 q_m15 Q 108 [some (.ref a), some (.int v), some (.int (nI 8))] [.int (nI 10), .int (nI 8)] (a + 17, I13, va_up (va_up (va_up (va_up (va_up (va_up (va_up (va_up (va_up (va_up J4 (a + 7) (fun _ => 0)) (a + 8) (fun _ => 0)) (a + 9) (fun _ => 0)) (a + 10) (fun _ => 0)) (a + 11) (fun _ => 0)) (a + 12) (fun _ => 0)) (a + 13) (fun _ => 0)) (a + 14) (fun _ => 0)) (a + 15) (fun _ => 0)) (a + 16) (fun _ => 0), q_up (va_up (q_up (va_up (q_up (va_up (q_up (va_up (q_up (va_up (q_up (va_up (q_up (va_up (q_up (va_up (q_up (q_up (va_up (q_up R4 a 8 (some (a + 5))) (a + 7) (fun _ => none)) a 9 (some (a + 7))) a 10 (some (a + 8))) (a + 9) (fun _ => none)) (a + 4) 0 (some (a + 9))) (a + 10) (fun _ => none)) (a + 4) 1 (some (a + 10))) (a + 11) (fun _ => none)) (a + 4) 2 (some (a + 11))) (a + 12) (fun _ => none)) (a + 4) 3 (some (a + 12))) (a + 13) (fun _ => none)) (a + 4) 4 (some (a + 13))) (a + 14) (fun _ => none)) (a + 4) 5 (some (a + 14))) (a + 15) (fun _ => none)) (a + 4) 6 (some (a + 15))) (a + 16) (fun _ => none)) (a + 4) 7 (some (a + 16))) 16 54
  refine q_one rfl rfl ?_
  show ((nI 10) ≤ (nI 8) → q_W L (d + 1) 15 q_m15 Q 130 [some (.ref a), some (.int v), some (.int (nI 8))] [] (a + 17, I13, va_up (va_up (va_up (va_up (va_up (va_up (va_up (va_up (va_up (va_up J4 (a + 7) (fun _ => 0)) (a + 8) (fun _ => 0)) (a + 9) (fun _ => 0)) (a + 10) (fun _ => 0)) (a + 11) (fun _ => 0)) (a + 12) (fun _ => 0)) (a + 13) (fun _ => 0)) (a + 14) (fun _ => 0)) (a + 15) (fun _ => 0)) (a + 16) (fun _ => 0), q_up (va_up (q_up (va_up (q_up (va_up (q_up (va_up (q_up (va_up (q_up (va_up (q_up (va_up (q_up (va_up (q_up (q_up (va_up (q_up R4 a 8 (some (a + 5))) (a + 7) (fun _ => none)) a 9 (some (a + 7))) a 10 (some (a + 8))) (a + 9) (fun _ => none)) (a + 4) 0 (some (a + 9))) (a + 10) (fun _ => none)) (a + 4) 1 (some (a + 10))) (a + 11) (fun _ => none)) (a + 4) 2 (some (a + 11))) (a + 12) (fun _ => none)) (a + 4) 3 (some (a + 12))) (a + 13) (fun _ => none)) (a + 4) 4 (some (a + 13))) (a + 14) (fun _ => none)) (a + 4) 5 (some (a + 14))) (a + 15) (fun _ => none)) (a + 4) 6 (some (a + 15))) (a + 16) (fun _ => none)) (a + 4) 7 (some (a + 16))) 16 54) ∧ (¬ (nI 10) ≤ (nI 8) → q_W L (d + 1) 15 q_m15 Q 111 [some (.ref a), some (.int v), some (.int (nI 8))] [] (a + 17, I13, va_up (va_up (va_up (va_up (va_up (va_up (va_up (va_up (va_up (va_up J4 (a + 7) (fun _ => 0)) (a + 8) (fun _ => 0)) (a + 9) (fun _ => 0)) (a + 10) (fun _ => 0)) (a + 11) (fun _ => 0)) (a + 12) (fun _ => 0)) (a + 13) (fun _ => 0)) (a + 14) (fun _ => 0)) (a + 15) (fun _ => 0)) (a + 16) (fun _ => 0), q_up (va_up (q_up (va_up (q_up (va_up (q_up (va_up (q_up (va_up (q_up (va_up (q_up (va_up (q_up (va_up (q_up (q_up (va_up (q_up R4 a 8 (some (a + 5))) (a + 7) (fun _ => none)) a 9 (some (a + 7))) a 10 (some (a + 8))) (a + 9) (fun _ => none)) (a + 4) 0 (some (a + 9))) (a + 10) (fun _ => none)) (a + 4) 1 (some (a + 10))) (a + 11) (fun _ => none)) (a + 4) 2 (some (a + 11))) (a + 12) (fun _ => none)) (a + 4) 3 (some (a + 12))) (a + 13) (fun _ => none)) (a + 4) 4 (some (a + 13))) (a + 14) (fun _ => none)) (a + 4) 5 (some (a + 14))) (a + 15) (fun _ => none)) (a + 4) 6 (some (a + 15))) (a + 16) (fun _ => none)) (a + 4) 7 (some (a + 16))) 16 54)
  refine ⟨fun z => absurd z (by decide), fun _ => ?_⟩
  refine q_k 1 ?_
  show q_W L (d + 1) 15 q_m15 Q 112 [some (.ref a), some (.int v), some (.int (nI 8))] [.ref a] (a + 17, I13, va_up (va_up (va_up (va_up (va_up (va_up (va_up (va_up (va_up (va_up J4 (a + 7) (fun _ => 0)) (a + 8) (fun _ => 0)) (a + 9) (fun _ => 0)) (a + 10) (fun _ => 0)) (a + 11) (fun _ => 0)) (a + 12) (fun _ => 0)) (a + 13) (fun _ => 0)) (a + 14) (fun _ => 0)) (a + 15) (fun _ => 0)) (a + 16) (fun _ => 0), q_up (va_up (q_up (va_up (q_up (va_up (q_up (va_up (q_up (va_up (q_up (va_up (q_up (va_up (q_up (va_up (q_up (q_up (va_up (q_up R4 a 8 (some (a + 5))) (a + 7) (fun _ => none)) a 9 (some (a + 7))) a 10 (some (a + 8))) (a + 9) (fun _ => none)) (a + 4) 0 (some (a + 9))) (a + 10) (fun _ => none)) (a + 4) 1 (some (a + 10))) (a + 11) (fun _ => none)) (a + 4) 2 (some (a + 11))) (a + 12) (fun _ => none)) (a + 4) 3 (some (a + 12))) (a + 13) (fun _ => none)) (a + 4) 4 (some (a + 13))) (a + 14) (fun _ => none)) (a + 4) 5 (some (a + 14))) (a + 15) (fun _ => none)) (a + 4) 6 (some (a + 15))) (a + 16) (fun _ => none)) (a + 4) 7 (some (a + 16))) 16 54
  refine q_gR (b := (a + 4)) rfl rfl (⟨by omega, k0⟩) (by first | (simp (disch := omega) only [q_un, q_usk, q_usn, va_up_self, va_up_ne]; done) | (simp (disch := omega) only [q_un, q_usk, q_usn, va_up_self, va_up_ne, fR4])) ?_
  refine q_k 1 ?_
  show q_W L (d + 1) 15 q_m15 Q 116 [some (.ref a), some (.int v), some (.int (nI 8))] [.int (nI 8), .ref (a + 4)] (a + 17, I13, va_up (va_up (va_up (va_up (va_up (va_up (va_up (va_up (va_up (va_up J4 (a + 7) (fun _ => 0)) (a + 8) (fun _ => 0)) (a + 9) (fun _ => 0)) (a + 10) (fun _ => 0)) (a + 11) (fun _ => 0)) (a + 12) (fun _ => 0)) (a + 13) (fun _ => 0)) (a + 14) (fun _ => 0)) (a + 15) (fun _ => 0)) (a + 16) (fun _ => 0), q_up (va_up (q_up (va_up (q_up (va_up (q_up (va_up (q_up (va_up (q_up (va_up (q_up (va_up (q_up (va_up (q_up (q_up (va_up (q_up R4 a 8 (some (a + 5))) (a + 7) (fun _ => none)) a 9 (some (a + 7))) a 10 (some (a + 8))) (a + 9) (fun _ => none)) (a + 4) 0 (some (a + 9))) (a + 10) (fun _ => none)) (a + 4) 1 (some (a + 10))) (a + 11) (fun _ => none)) (a + 4) 2 (some (a + 11))) (a + 12) (fun _ => none)) (a + 4) 3 (some (a + 12))) (a + 13) (fun _ => none)) (a + 4) 4 (some (a + 13))) (a + 14) (fun _ => none)) (a + 4) 5 (some (a + 14))) (a + 15) (fun _ => none)) (a + 4) 6 (some (a + 15))) (a + 16) (fun _ => none)) (a + 4) 7 (some (a + 16))) 16 54
  refine q_nw (n2 := a + 18) (uc2 := 17) (us2 := 56) rfl rfl (k17) rfl rfl rfl ⟨rfl, rfl⟩ ?_
  refine q_k 1 ?_
  show q_W L (d + 1) 15 q_m15 Q 120 [some (.ref a), some (.int v), some (.int (nI 8))] [.ref (a + 17), .ref (a + 17), .int (nI 8), .ref (a + 4)] (a + 18, va_up I13 (a + 17) (fun _ => 0), va_up (va_up (va_up (va_up (va_up (va_up (va_up (va_up (va_up (va_up (va_up J4 (a + 7) (fun _ => 0)) (a + 8) (fun _ => 0)) (a + 9) (fun _ => 0)) (a + 10) (fun _ => 0)) (a + 11) (fun _ => 0)) (a + 12) (fun _ => 0)) (a + 13) (fun _ => 0)) (a + 14) (fun _ => 0)) (a + 15) (fun _ => 0)) (a + 16) (fun _ => 0)) (a + 17) (fun _ => 0), va_up (q_up (va_up (q_up (va_up (q_up (va_up (q_up (va_up (q_up (va_up (q_up (va_up (q_up (va_up (q_up (va_up (q_up (q_up (va_up (q_up R4 a 8 (some (a + 5))) (a + 7) (fun _ => none)) a 9 (some (a + 7))) a 10 (some (a + 8))) (a + 9) (fun _ => none)) (a + 4) 0 (some (a + 9))) (a + 10) (fun _ => none)) (a + 4) 1 (some (a + 10))) (a + 11) (fun _ => none)) (a + 4) 2 (some (a + 11))) (a + 12) (fun _ => none)) (a + 4) 3 (some (a + 12))) (a + 13) (fun _ => none)) (a + 4) 4 (some (a + 13))) (a + 14) (fun _ => none)) (a + 4) 5 (some (a + 14))) (a + 15) (fun _ => none)) (a + 4) 6 (some (a + 15))) (a + 16) (fun _ => none)) (a + 4) 7 (some (a + 16))) (a + 17) (fun _ => none)) 17 56
  refine q_ci1 (as := []) (rs := [.ref (a + 17), .int (nI 8), .ref (a + 4)]) rfl rfl rfl rfl rfl ?_
  refine c_PairInit ⟨by omega, k17⟩ (fun I14 f14 z14 => ?_)
  have y14 : ∀ j, I14 (a + 17) j = 0 := fun j => z14 j (by rw [va_up_self])
  show q_W L (d + 1) 15 q_m15 Q 123 [some (.ref a), some (.int v), some (.int (nI 8))] [.ref (a + 17), .int (nI 8), .ref (a + 4)] (a + 18, I14, va_up (va_up (va_up (va_up (va_up (va_up (va_up (va_up (va_up (va_up (va_up J4 (a + 7) (fun _ => 0)) (a + 8) (fun _ => 0)) (a + 9) (fun _ => 0)) (a + 10) (fun _ => 0)) (a + 11) (fun _ => 0)) (a + 12) (fun _ => 0)) (a + 13) (fun _ => 0)) (a + 14) (fun _ => 0)) (a + 15) (fun _ => 0)) (a + 16) (fun _ => 0)) (a + 17) (fun _ => 0), va_up (q_up (va_up (q_up (va_up (q_up (va_up (q_up (va_up (q_up (va_up (q_up (va_up (q_up (va_up (q_up (va_up (q_up (q_up (va_up (q_up R4 a 8 (some (a + 5))) (a + 7) (fun _ => none)) a 9 (some (a + 7))) a 10 (some (a + 8))) (a + 9) (fun _ => none)) (a + 4) 0 (some (a + 9))) (a + 10) (fun _ => none)) (a + 4) 1 (some (a + 10))) (a + 11) (fun _ => none)) (a + 4) 2 (some (a + 11))) (a + 12) (fun _ => none)) (a + 4) 3 (some (a + 12))) (a + 13) (fun _ => none)) (a + 4) 4 (some (a + 13))) (a + 14) (fun _ => none)) (a + 4) 5 (some (a + 14))) (a + 15) (fun _ => none)) (a + 4) 6 (some (a + 15))) (a + 16) (fun _ => none)) (a + 4) 7 (some (a + 16))) (a + 17) (fun _ => none)) 17 56
  refine q_aas (m := 8) rfl (⟨by omega, by omega, k4⟩) ⟨rfl, rfl⟩ (⟨by omega, k17⟩) (by decide) rfl ?_
  refine q_k 1 ?_
  show q_W L (d + 1) 15 q_m15 Q 127 [some (.ref a), some (.int v), some (.int ((nI 8) + nI 1))] [] (a + 18, I14, va_up (va_up (va_up (va_up (va_up (va_up (va_up (va_up (va_up (va_up (va_up J4 (a + 7) (fun _ => 0)) (a + 8) (fun _ => 0)) (a + 9) (fun _ => 0)) (a + 10) (fun _ => 0)) (a + 11) (fun _ => 0)) (a + 12) (fun _ => 0)) (a + 13) (fun _ => 0)) (a + 14) (fun _ => 0)) (a + 15) (fun _ => 0)) (a + 16) (fun _ => 0)) (a + 17) (fun _ => 0), q_up (va_up (q_up (va_up (q_up (va_up (q_up (va_up (q_up (va_up (q_up (va_up (q_up (va_up (q_up (va_up (q_up (va_up (q_up (q_up (va_up (q_up R4 a 8 (some (a + 5))) (a + 7) (fun _ => none)) a 9 (some (a + 7))) a 10 (some (a + 8))) (a + 9) (fun _ => none)) (a + 4) 0 (some (a + 9))) (a + 10) (fun _ => none)) (a + 4) 1 (some (a + 10))) (a + 11) (fun _ => none)) (a + 4) 2 (some (a + 11))) (a + 12) (fun _ => none)) (a + 4) 3 (some (a + 12))) (a + 13) (fun _ => none)) (a + 4) 4 (some (a + 13))) (a + 14) (fun _ => none)) (a + 4) 5 (some (a + 14))) (a + 15) (fun _ => none)) (a + 4) 6 (some (a + 15))) (a + 16) (fun _ => none)) (a + 4) 7 (some (a + 16))) (a + 17) (fun _ => none)) (a + 4) 8 (some (a + 17))) 17 56
  rw [show (nI 8) + nI 1 = nI 9 from nI_add _ _]
  refine q_k 3 ?_
  show q_W L (d + 1) 15 q_m15 Q 108 [some (.ref a), some (.int v), some (.int (nI 9))] [.int (nI 10), .int (nI 9)] (a + 18, I14, va_up (va_up (va_up (va_up (va_up (va_up (va_up (va_up (va_up (va_up (va_up J4 (a + 7) (fun _ => 0)) (a + 8) (fun _ => 0)) (a + 9) (fun _ => 0)) (a + 10) (fun _ => 0)) (a + 11) (fun _ => 0)) (a + 12) (fun _ => 0)) (a + 13) (fun _ => 0)) (a + 14) (fun _ => 0)) (a + 15) (fun _ => 0)) (a + 16) (fun _ => 0)) (a + 17) (fun _ => 0), q_up (va_up (q_up (va_up (q_up (va_up (q_up (va_up (q_up (va_up (q_up (va_up (q_up (va_up (q_up (va_up (q_up (va_up (q_up (q_up (va_up (q_up R4 a 8 (some (a + 5))) (a + 7) (fun _ => none)) a 9 (some (a + 7))) a 10 (some (a + 8))) (a + 9) (fun _ => none)) (a + 4) 0 (some (a + 9))) (a + 10) (fun _ => none)) (a + 4) 1 (some (a + 10))) (a + 11) (fun _ => none)) (a + 4) 2 (some (a + 11))) (a + 12) (fun _ => none)) (a + 4) 3 (some (a + 12))) (a + 13) (fun _ => none)) (a + 4) 4 (some (a + 13))) (a + 14) (fun _ => none)) (a + 4) 5 (some (a + 14))) (a + 15) (fun _ => none)) (a + 4) 6 (some (a + 15))) (a + 16) (fun _ => none)) (a + 4) 7 (some (a + 16))) (a + 17) (fun _ => none)) (a + 4) 8 (some (a + 17))) 17 56
  refine q_one rfl rfl ?_
  show ((nI 10) ≤ (nI 9) → q_W L (d + 1) 15 q_m15 Q 130 [some (.ref a), some (.int v), some (.int (nI 9))] [] (a + 18, I14, va_up (va_up (va_up (va_up (va_up (va_up (va_up (va_up (va_up (va_up (va_up J4 (a + 7) (fun _ => 0)) (a + 8) (fun _ => 0)) (a + 9) (fun _ => 0)) (a + 10) (fun _ => 0)) (a + 11) (fun _ => 0)) (a + 12) (fun _ => 0)) (a + 13) (fun _ => 0)) (a + 14) (fun _ => 0)) (a + 15) (fun _ => 0)) (a + 16) (fun _ => 0)) (a + 17) (fun _ => 0), q_up (va_up (q_up (va_up (q_up (va_up (q_up (va_up (q_up (va_up (q_up (va_up (q_up (va_up (q_up (va_up (q_up (va_up (q_up (q_up (va_up (q_up R4 a 8 (some (a + 5))) (a + 7) (fun _ => none)) a 9 (some (a + 7))) a 10 (some (a + 8))) (a + 9) (fun _ => none)) (a + 4) 0 (some (a + 9))) (a + 10) (fun _ => none)) (a + 4) 1 (some (a + 10))) (a + 11) (fun _ => none)) (a + 4) 2 (some (a + 11))) (a + 12) (fun _ => none)) (a + 4) 3 (some (a + 12))) (a + 13) (fun _ => none)) (a + 4) 4 (some (a + 13))) (a + 14) (fun _ => none)) (a + 4) 5 (some (a + 14))) (a + 15) (fun _ => none)) (a + 4) 6 (some (a + 15))) (a + 16) (fun _ => none)) (a + 4) 7 (some (a + 16))) (a + 17) (fun _ => none)) (a + 4) 8 (some (a + 17))) 17 56) ∧ (¬ (nI 10) ≤ (nI 9) → q_W L (d + 1) 15 q_m15 Q 111 [some (.ref a), some (.int v), some (.int (nI 9))] [] (a + 18, I14, va_up (va_up (va_up (va_up (va_up (va_up (va_up (va_up (va_up (va_up (va_up J4 (a + 7) (fun _ => 0)) (a + 8) (fun _ => 0)) (a + 9) (fun _ => 0)) (a + 10) (fun _ => 0)) (a + 11) (fun _ => 0)) (a + 12) (fun _ => 0)) (a + 13) (fun _ => 0)) (a + 14) (fun _ => 0)) (a + 15) (fun _ => 0)) (a + 16) (fun _ => 0)) (a + 17) (fun _ => 0), q_up (va_up (q_up (va_up (q_up (va_up (q_up (va_up (q_up (va_up (q_up (va_up (q_up (va_up (q_up (va_up (q_up (va_up (q_up (q_up (va_up (q_up R4 a 8 (some (a + 5))) (a + 7) (fun _ => none)) a 9 (some (a + 7))) a 10 (some (a + 8))) (a + 9) (fun _ => none)) (a + 4) 0 (some (a + 9))) (a + 10) (fun _ => none)) (a + 4) 1 (some (a + 10))) (a + 11) (fun _ => none)) (a + 4) 2 (some (a + 11))) (a + 12) (fun _ => none)) (a + 4) 3 (some (a + 12))) (a + 13) (fun _ => none)) (a + 4) 4 (some (a + 13))) (a + 14) (fun _ => none)) (a + 4) 5 (some (a + 14))) (a + 15) (fun _ => none)) (a + 4) 6 (some (a + 15))) (a + 16) (fun _ => none)) (a + 4) 7 (some (a + 16))) (a + 17) (fun _ => none)) (a + 4) 8 (some (a + 17))) 17 56)
  refine ⟨fun z => absurd z (by decide), fun _ => ?_⟩
  refine q_k 1 ?_
  show q_W L (d + 1) 15 q_m15 Q 112 [some (.ref a), some (.int v), some (.int (nI 9))] [.ref a] (a + 18, I14, va_up (va_up (va_up (va_up (va_up (va_up (va_up (va_up (va_up (va_up (va_up J4 (a + 7) (fun _ => 0)) (a + 8) (fun _ => 0)) (a + 9) (fun _ => 0)) (a + 10) (fun _ => 0)) (a + 11) (fun _ => 0)) (a + 12) (fun _ => 0)) (a + 13) (fun _ => 0)) (a + 14) (fun _ => 0)) (a + 15) (fun _ => 0)) (a + 16) (fun _ => 0)) (a + 17) (fun _ => 0), q_up (va_up (q_up (va_up (q_up (va_up (q_up (va_up (q_up (va_up (q_up (va_up (q_up (va_up (q_up (va_up (q_up (va_up (q_up (q_up (va_up (q_up R4 a 8 (some (a + 5))) (a + 7) (fun _ => none)) a 9 (some (a + 7))) a 10 (some (a + 8))) (a + 9) (fun _ => none)) (a + 4) 0 (some (a + 9))) (a + 10) (fun _ => none)) (a + 4) 1 (some (a + 10))) (a + 11) (fun _ => none)) (a + 4) 2 (some (a + 11))) (a + 12) (fun _ => none)) (a + 4) 3 (some (a + 12))) (a + 13) (fun _ => none)) (a + 4) 4 (some (a + 13))) (a + 14) (fun _ => none)) (a + 4) 5 (some (a + 14))) (a + 15) (fun _ => none)) (a + 4) 6 (some (a + 15))) (a + 16) (fun _ => none)) (a + 4) 7 (some (a + 16))) (a + 17) (fun _ => none)) (a + 4) 8 (some (a + 17))) 17 56
  refine q_gR (b := (a + 4)) rfl rfl (⟨by omega, k0⟩) (by first | (simp (disch := omega) only [q_un, q_usk, q_usn, va_up_self, va_up_ne]; done) | (simp (disch := omega) only [q_un, q_usk, q_usn, va_up_self, va_up_ne, fR4])) ?_
  refine q_k 1 ?_
  show q_W L (d + 1) 15 q_m15 Q 116 [some (.ref a), some (.int v), some (.int (nI 9))] [.int (nI 9), .ref (a + 4)] (a + 18, I14, va_up (va_up (va_up (va_up (va_up (va_up (va_up (va_up (va_up (va_up (va_up J4 (a + 7) (fun _ => 0)) (a + 8) (fun _ => 0)) (a + 9) (fun _ => 0)) (a + 10) (fun _ => 0)) (a + 11) (fun _ => 0)) (a + 12) (fun _ => 0)) (a + 13) (fun _ => 0)) (a + 14) (fun _ => 0)) (a + 15) (fun _ => 0)) (a + 16) (fun _ => 0)) (a + 17) (fun _ => 0), q_up (va_up (q_up (va_up (q_up (va_up (q_up (va_up (q_up (va_up (q_up (va_up (q_up (va_up (q_up (va_up (q_up (va_up (q_up (q_up (va_up (q_up R4 a 8 (some (a + 5))) (a + 7) (fun _ => none)) a 9 (some (a + 7))) a 10 (some (a + 8))) (a + 9) (fun _ => none)) (a + 4) 0 (some (a + 9))) (a + 10) (fun _ => none)) (a + 4) 1 (some (a + 10))) (a + 11) (fun _ => none)) (a + 4) 2 (some (a + 11))) (a + 12) (fun _ => none)) (a + 4) 3 (some (a + 12))) (a + 13) (fun _ => none)) (a + 4) 4 (some (a + 13))) (a + 14) (fun _ => none)) (a + 4) 5 (some (a + 14))) (a + 15) (fun _ => none)) (a + 4) 6 (some (a + 15))) (a + 16) (fun _ => none)) (a + 4) 7 (some (a + 16))) (a + 17) (fun _ => none)) (a + 4) 8 (some (a + 17))) 17 56
  refine q_nw (n2 := a + 19) (uc2 := 18) (us2 := 58) rfl rfl (k18) rfl rfl rfl ⟨rfl, rfl⟩ ?_
  refine q_k 1 ?_
  show q_W L (d + 1) 15 q_m15 Q 120 [some (.ref a), some (.int v), some (.int (nI 9))] [.ref (a + 18), .ref (a + 18), .int (nI 9), .ref (a + 4)] (a + 19, va_up I14 (a + 18) (fun _ => 0), va_up (va_up (va_up (va_up (va_up (va_up (va_up (va_up (va_up (va_up (va_up (va_up J4 (a + 7) (fun _ => 0)) (a + 8) (fun _ => 0)) (a + 9) (fun _ => 0)) (a + 10) (fun _ => 0)) (a + 11) (fun _ => 0)) (a + 12) (fun _ => 0)) (a + 13) (fun _ => 0)) (a + 14) (fun _ => 0)) (a + 15) (fun _ => 0)) (a + 16) (fun _ => 0)) (a + 17) (fun _ => 0)) (a + 18) (fun _ => 0), va_up (q_up (va_up (q_up (va_up (q_up (va_up (q_up (va_up (q_up (va_up (q_up (va_up (q_up (va_up (q_up (va_up (q_up (va_up (q_up (q_up (va_up (q_up R4 a 8 (some (a + 5))) (a + 7) (fun _ => none)) a 9 (some (a + 7))) a 10 (some (a + 8))) (a + 9) (fun _ => none)) (a + 4) 0 (some (a + 9))) (a + 10) (fun _ => none)) (a + 4) 1 (some (a + 10))) (a + 11) (fun _ => none)) (a + 4) 2 (some (a + 11))) (a + 12) (fun _ => none)) (a + 4) 3 (some (a + 12))) (a + 13) (fun _ => none)) (a + 4) 4 (some (a + 13))) (a + 14) (fun _ => none)) (a + 4) 5 (some (a + 14))) (a + 15) (fun _ => none)) (a + 4) 6 (some (a + 15))) (a + 16) (fun _ => none)) (a + 4) 7 (some (a + 16))) (a + 17) (fun _ => none)) (a + 4) 8 (some (a + 17))) (a + 18) (fun _ => none)) 18 58
  refine q_ci1 (as := []) (rs := [.ref (a + 18), .int (nI 9), .ref (a + 4)]) rfl rfl rfl rfl rfl ?_
  refine c_PairInit ⟨by omega, k18⟩ (fun I15 f15 z15 => ?_)
  have y15 : ∀ j, I15 (a + 18) j = 0 := fun j => z15 j (by rw [va_up_self])
  show q_W L (d + 1) 15 q_m15 Q 123 [some (.ref a), some (.int v), some (.int (nI 9))] [.ref (a + 18), .int (nI 9), .ref (a + 4)] (a + 19, I15, va_up (va_up (va_up (va_up (va_up (va_up (va_up (va_up (va_up (va_up (va_up (va_up J4 (a + 7) (fun _ => 0)) (a + 8) (fun _ => 0)) (a + 9) (fun _ => 0)) (a + 10) (fun _ => 0)) (a + 11) (fun _ => 0)) (a + 12) (fun _ => 0)) (a + 13) (fun _ => 0)) (a + 14) (fun _ => 0)) (a + 15) (fun _ => 0)) (a + 16) (fun _ => 0)) (a + 17) (fun _ => 0)) (a + 18) (fun _ => 0), va_up (q_up (va_up (q_up (va_up (q_up (va_up (q_up (va_up (q_up (va_up (q_up (va_up (q_up (va_up (q_up (va_up (q_up (va_up (q_up (q_up (va_up (q_up R4 a 8 (some (a + 5))) (a + 7) (fun _ => none)) a 9 (some (a + 7))) a 10 (some (a + 8))) (a + 9) (fun _ => none)) (a + 4) 0 (some (a + 9))) (a + 10) (fun _ => none)) (a + 4) 1 (some (a + 10))) (a + 11) (fun _ => none)) (a + 4) 2 (some (a + 11))) (a + 12) (fun _ => none)) (a + 4) 3 (some (a + 12))) (a + 13) (fun _ => none)) (a + 4) 4 (some (a + 13))) (a + 14) (fun _ => none)) (a + 4) 5 (some (a + 14))) (a + 15) (fun _ => none)) (a + 4) 6 (some (a + 15))) (a + 16) (fun _ => none)) (a + 4) 7 (some (a + 16))) (a + 17) (fun _ => none)) (a + 4) 8 (some (a + 17))) (a + 18) (fun _ => none)) 18 58
  refine q_aas (m := 9) rfl (⟨by omega, by omega, k4⟩) ⟨rfl, rfl⟩ (⟨by omega, k18⟩) (by decide) rfl ?_
  refine q_k 1 ?_
  show q_W L (d + 1) 15 q_m15 Q 127 [some (.ref a), some (.int v), some (.int ((nI 9) + nI 1))] [] (a + 19, I15, va_up (va_up (va_up (va_up (va_up (va_up (va_up (va_up (va_up (va_up (va_up (va_up J4 (a + 7) (fun _ => 0)) (a + 8) (fun _ => 0)) (a + 9) (fun _ => 0)) (a + 10) (fun _ => 0)) (a + 11) (fun _ => 0)) (a + 12) (fun _ => 0)) (a + 13) (fun _ => 0)) (a + 14) (fun _ => 0)) (a + 15) (fun _ => 0)) (a + 16) (fun _ => 0)) (a + 17) (fun _ => 0)) (a + 18) (fun _ => 0), q_up (va_up (q_up (va_up (q_up (va_up (q_up (va_up (q_up (va_up (q_up (va_up (q_up (va_up (q_up (va_up (q_up (va_up (q_up (va_up (q_up (q_up (va_up (q_up R4 a 8 (some (a + 5))) (a + 7) (fun _ => none)) a 9 (some (a + 7))) a 10 (some (a + 8))) (a + 9) (fun _ => none)) (a + 4) 0 (some (a + 9))) (a + 10) (fun _ => none)) (a + 4) 1 (some (a + 10))) (a + 11) (fun _ => none)) (a + 4) 2 (some (a + 11))) (a + 12) (fun _ => none)) (a + 4) 3 (some (a + 12))) (a + 13) (fun _ => none)) (a + 4) 4 (some (a + 13))) (a + 14) (fun _ => none)) (a + 4) 5 (some (a + 14))) (a + 15) (fun _ => none)) (a + 4) 6 (some (a + 15))) (a + 16) (fun _ => none)) (a + 4) 7 (some (a + 16))) (a + 17) (fun _ => none)) (a + 4) 8 (some (a + 17))) (a + 18) (fun _ => none)) (a + 4) 9 (some (a + 18))) 18 58
  rw [show (nI 9) + nI 1 = nI 10 from nI_add _ _]
  refine q_k 3 ?_
  show q_W L (d + 1) 15 q_m15 Q 108 [some (.ref a), some (.int v), some (.int (nI 10))] [.int (nI 10), .int (nI 10)] (a + 19, I15, va_up (va_up (va_up (va_up (va_up (va_up (va_up (va_up (va_up (va_up (va_up (va_up J4 (a + 7) (fun _ => 0)) (a + 8) (fun _ => 0)) (a + 9) (fun _ => 0)) (a + 10) (fun _ => 0)) (a + 11) (fun _ => 0)) (a + 12) (fun _ => 0)) (a + 13) (fun _ => 0)) (a + 14) (fun _ => 0)) (a + 15) (fun _ => 0)) (a + 16) (fun _ => 0)) (a + 17) (fun _ => 0)) (a + 18) (fun _ => 0), q_up (va_up (q_up (va_up (q_up (va_up (q_up (va_up (q_up (va_up (q_up (va_up (q_up (va_up (q_up (va_up (q_up (va_up (q_up (va_up (q_up (q_up (va_up (q_up R4 a 8 (some (a + 5))) (a + 7) (fun _ => none)) a 9 (some (a + 7))) a 10 (some (a + 8))) (a + 9) (fun _ => none)) (a + 4) 0 (some (a + 9))) (a + 10) (fun _ => none)) (a + 4) 1 (some (a + 10))) (a + 11) (fun _ => none)) (a + 4) 2 (some (a + 11))) (a + 12) (fun _ => none)) (a + 4) 3 (some (a + 12))) (a + 13) (fun _ => none)) (a + 4) 4 (some (a + 13))) (a + 14) (fun _ => none)) (a + 4) 5 (some (a + 14))) (a + 15) (fun _ => none)) (a + 4) 6 (some (a + 15))) (a + 16) (fun _ => none)) (a + 4) 7 (some (a + 16))) (a + 17) (fun _ => none)) (a + 4) 8 (some (a + 17))) (a + 18) (fun _ => none)) (a + 4) 9 (some (a + 18))) 18 58
  refine q_one rfl rfl ?_
  show ((nI 10) ≤ (nI 10) → q_W L (d + 1) 15 q_m15 Q 130 [some (.ref a), some (.int v), some (.int (nI 10))] [] (a + 19, I15, va_up (va_up (va_up (va_up (va_up (va_up (va_up (va_up (va_up (va_up (va_up (va_up J4 (a + 7) (fun _ => 0)) (a + 8) (fun _ => 0)) (a + 9) (fun _ => 0)) (a + 10) (fun _ => 0)) (a + 11) (fun _ => 0)) (a + 12) (fun _ => 0)) (a + 13) (fun _ => 0)) (a + 14) (fun _ => 0)) (a + 15) (fun _ => 0)) (a + 16) (fun _ => 0)) (a + 17) (fun _ => 0)) (a + 18) (fun _ => 0), q_up (va_up (q_up (va_up (q_up (va_up (q_up (va_up (q_up (va_up (q_up (va_up (q_up (va_up (q_up (va_up (q_up (va_up (q_up (va_up (q_up (q_up (va_up (q_up R4 a 8 (some (a + 5))) (a + 7) (fun _ => none)) a 9 (some (a + 7))) a 10 (some (a + 8))) (a + 9) (fun _ => none)) (a + 4) 0 (some (a + 9))) (a + 10) (fun _ => none)) (a + 4) 1 (some (a + 10))) (a + 11) (fun _ => none)) (a + 4) 2 (some (a + 11))) (a + 12) (fun _ => none)) (a + 4) 3 (some (a + 12))) (a + 13) (fun _ => none)) (a + 4) 4 (some (a + 13))) (a + 14) (fun _ => none)) (a + 4) 5 (some (a + 14))) (a + 15) (fun _ => none)) (a + 4) 6 (some (a + 15))) (a + 16) (fun _ => none)) (a + 4) 7 (some (a + 16))) (a + 17) (fun _ => none)) (a + 4) 8 (some (a + 17))) (a + 18) (fun _ => none)) (a + 4) 9 (some (a + 18))) 18 58) ∧ (¬ (nI 10) ≤ (nI 10) → q_W L (d + 1) 15 q_m15 Q 111 [some (.ref a), some (.int v), some (.int (nI 10))] [] (a + 19, I15, va_up (va_up (va_up (va_up (va_up (va_up (va_up (va_up (va_up (va_up (va_up (va_up J4 (a + 7) (fun _ => 0)) (a + 8) (fun _ => 0)) (a + 9) (fun _ => 0)) (a + 10) (fun _ => 0)) (a + 11) (fun _ => 0)) (a + 12) (fun _ => 0)) (a + 13) (fun _ => 0)) (a + 14) (fun _ => 0)) (a + 15) (fun _ => 0)) (a + 16) (fun _ => 0)) (a + 17) (fun _ => 0)) (a + 18) (fun _ => 0), q_up (va_up (q_up (va_up (q_up (va_up (q_up (va_up (q_up (va_up (q_up (va_up (q_up (va_up (q_up (va_up (q_up (va_up (q_up (va_up (q_up (q_up (va_up (q_up R4 a 8 (some (a + 5))) (a + 7) (fun _ => none)) a 9 (some (a + 7))) a 10 (some (a + 8))) (a + 9) (fun _ => none)) (a + 4) 0 (some (a + 9))) (a + 10) (fun _ => none)) (a + 4) 1 (some (a + 10))) (a + 11) (fun _ => none)) (a + 4) 2 (some (a + 11))) (a + 12) (fun _ => none)) (a + 4) 3 (some (a + 12))) (a + 13) (fun _ => none)) (a + 4) 4 (some (a + 13))) (a + 14) (fun _ => none)) (a + 4) 5 (some (a + 14))) (a + 15) (fun _ => none)) (a + 4) 6 (some (a + 15))) (a + 16) (fun _ => none)) (a + 4) 7 (some (a + 16))) (a + 17) (fun _ => none)) (a + 4) 8 (some (a + 17))) (a + 18) (fun _ => none)) (a + 4) 9 (some (a + 18))) 18 58)
  refine ⟨fun _ => ?_, fun z => absurd (by decide) z⟩
  refine q_one rfl rfl ?_
  show Q (none) (a + 19, I15, va_up (va_up (va_up (va_up (va_up (va_up (va_up (va_up (va_up (va_up (va_up (va_up J4 (a + 7) (fun _ => 0)) (a + 8) (fun _ => 0)) (a + 9) (fun _ => 0)) (a + 10) (fun _ => 0)) (a + 11) (fun _ => 0)) (a + 12) (fun _ => 0)) (a + 13) (fun _ => 0)) (a + 14) (fun _ => 0)) (a + 15) (fun _ => 0)) (a + 16) (fun _ => 0)) (a + 17) (fun _ => 0)) (a + 18) (fun _ => 0), q_up (va_up (q_up (va_up (q_up (va_up (q_up (va_up (q_up (va_up (q_up (va_up (q_up (va_up (q_up (va_up (q_up (va_up (q_up (va_up (q_up (q_up (va_up (q_up R4 a 8 (some (a + 5))) (a + 7) (fun _ => none)) a 9 (some (a + 7))) a 10 (some (a + 8))) (a + 9) (fun _ => none)) (a + 4) 0 (some (a + 9))) (a + 10) (fun _ => none)) (a + 4) 1 (some (a + 10))) (a + 11) (fun _ => none)) (a + 4) 2 (some (a + 11))) (a + 12) (fun _ => none)) (a + 4) 3 (some (a + 12))) (a + 13) (fun _ => none)) (a + 4) 4 (some (a + 13))) (a + 14) (fun _ => none)) (a + 4) 5 (some (a + 14))) (a + 15) (fun _ => none)) (a + 4) 6 (some (a + 15))) (a + 16) (fun _ => none)) (a + 4) 7 (some (a + 16))) (a + 17) (fun _ => none)) (a + 4) 8 (some (a + 17))) (a + 18) (fun _ => none)) (a + 4) 9 (some (a + 18)))
  obtain ⟨IF, eIF⟩ : ∃ z, z = I15 := ⟨_, rfl⟩
  obtain ⟨RF, eRF⟩ : ∃ z, z = q_up (va_up (q_up (va_up (q_up (va_up (q_up (va_up (q_up (va_up (q_up (va_up (q_up (va_up (q_up (va_up (q_up (va_up (q_up (va_up (q_up (q_up (va_up (q_up R4 a 8 (some (a + 5))) (a + 7) (fun _ => none)) a 9 (some (a + 7))) a 10 (some (a + 8))) (a + 9) (fun _ => none)) (a + 4) 0 (some (a + 9))) (a + 10) (fun _ => none)) (a + 4) 1 (some (a + 10))) (a + 11) (fun _ => none)) (a + 4) 2 (some (a + 11))) (a + 12) (fun _ => none)) (a + 4) 3 (some (a + 12))) (a + 13) (fun _ => none)) (a + 4) 4 (some (a + 13))) (a + 14) (fun _ => none)) (a + 4) 5 (some (a + 14))) (a + 15) (fun _ => none)) (a + 4) 6 (some (a + 15))) (a + 16) (fun _ => none)) (a + 4) 7 (some (a + 16))) (a + 17) (fun _ => none)) (a + 4) 8 (some (a + 17))) (a + 18) (fun _ => none)) (a + 4) 9 (some (a + 18)) := ⟨_, rfl⟩
  rw [← eIF, ← eRF]
  have HI : ∀ x, (x < a ∨ a + 19 ≤ x) → IF x = I x := fun x hx => by rw [eIF]; simp (disch := omega) only [q_un, va_up_ne, f1, f2, f3, f5, f6, f7, f8, f9, f10, f11, f12, f13, f14, f15, fI4]
  have HR : ∀ x, (x < a ∨ a + 19 ≤ x) → RF x = R x := fun x hx => by rw [eRF]; simp (disch := omega) only [q_un, va_up_ne, fR4]
  refine hQ IF _ RF HI (fun x hx => ?_) HR ⟨?_, ?_, ?_, ?_, ?_, ?_, ?_, ?_, fun k hk => ?_, fun x h1 h2 h3 h4 j => ?_, ?_, fun j hj => ?_⟩
  · simp (disch := omega) only [va_up_ne, fJ4]
  · rw [eRF]; simp (disch := omega) only [q_un, q_usk, q_usn, va_up_self, va_up_ne, fR4]
  · rw [eRF]; simp (disch := omega) only [q_un, q_usk, q_usn, va_up_self, va_up_ne, fR4]
  · rw [eRF]; simp (disch := omega) only [q_un, q_usk, q_usn, va_up_self, va_up_ne, fR4]
  · rw [eRF]; simp (disch := omega) only [q_un, q_usk, q_usn, va_up_self, va_up_ne, fR4]
  · rw [eRF]; simp (disch := omega) only [q_un, q_usk, q_usn, va_up_self, va_up_ne, fR4]
  · rw [eRF]; simp (disch := omega) only [q_un, q_usk, q_usn, va_up_self, va_up_ne, fR4, e4]
  · rw [eRF]; simp (disch := omega) only [q_un, q_usk, q_usn, va_up_self, va_up_ne, fR4]
  · rw [eRF]; simp (disch := omega) only [q_un, q_usk, q_usn, va_up_self, va_up_ne, fR4]
  · have h10 : k = 0 ∨ k = 1 ∨ k = 2 ∨ k = 3 ∨ k = 4 ∨ k = 5 ∨ k = 6 ∨ k = 7 ∨ k = 8 ∨ k = 9 := by omega
    rw [eRF]
    rcases h10 with rfl | rfl | rfl | rfl | rfl | rfl | rfl | rfl | rfl | rfl
    all_goals simp (disch := omega) only [q_un, q_usk, q_usn, va_up_self, va_up_ne, fR4]
  · have h19 : x = a ∨ x = a + 1 ∨ x = a + 2 ∨ x = a + 3 ∨ x = a + 5 ∨ x = a + 6 ∨ x = a + 7 ∨ x = a + 9 ∨ x = a + 10 ∨ x = a + 11 ∨ x = a + 12 ∨ x = a + 13 ∨ x = a + 14 ∨ x = a + 15 ∨ x = a + 16 ∨ x = a + 17 ∨ x = a + 18 := by omega
    rw [eIF]
    rcases h19 with rfl | rfl | rfl | rfl | rfl | rfl | rfl | rfl | rfl | rfl | rfl | rfl | rfl | rfl | rfl | rfl | rfl
    · by_cases j7 : j = 7
      · subst j7; simp (disch := omega) only [q_un, q_usk, q_usn, va_up_ne, f1, f2, f3, f5, f6, f7, f8, f9, f10, f11, f12, f13, f14, f15, fI4]; try rfl
      · by_cases j5 : j = 5
        · subst j5; simp (disch := omega) only [q_un, q_usk, q_usn, va_up_ne, f1, f2, f3, f5, f6, f7, f8, f9, f10, f11, f12, f13, f14, f15, fI4]; try rfl
        · by_cases j1 : j = 1
          · subst j1; simp (disch := omega) only [q_un, q_usk, q_usn, va_up_ne, f1, f2, f3, f5, f6, f7, f8, f9, f10, f11, f12, f13, f14, f15, fI4]; try rfl
          · by_cases j0 : j = 0
            · subst j0; simp (disch := omega) only [q_un, q_usk, q_usn, va_up_ne, f1, f2, f3, f5, f6, f7, f8, f9, f10, f11, f12, f13, f14, f15, fI4]; try rfl
            · simp (disch := omega) only [q_un, q_usn, va_up_ne, f1, f2, f3, f5, f6, f7, f8, f9, f10, f11, f12, f13, f14, f15, fI4]; exact hz j
    all_goals simp (disch := omega) only [q_un, va_up_ne, va_up_self, f1, f2, f3, f5, f6, f7, f8, f9, f10, f11, f12, f13, f14, f15, fI4, y1, y2, y3, y5, y6, y7, y8, y9, y10, y11, y12, y13, y14, y15, y4, x4]
  · rw [eIF]; simp (disch := omega) only [q_un, q_usk, va_up_ne, f1, f2, f3, f5, f6, f7, f8, f9, f10, f11, f12, f13, f14, f15]
  · rw [eIF]; simp (disch := omega) only [q_un, q_usn, va_up_self, va_up_ne, f1, f2, f3, f5, f6, f7, f8, f9, f10, f11, f12, f13, f14, f15]
set_option maxHeartbeats 16000000 in
theorem c_RPInit {L d : Nat} {I : q_I} {J : q_L} {R : q_R} {Q : q_Q} (hQ : ∀ I' J' R', q_b 192 I' J' R' → (∀ x, x < 3 → I' x = I x) → Q none (192, I', J', R')) : q_Ex L (d + 3) 42 [.ref 3] (4, I, J, R) Q := by
  refine q_in (x := q_m42) rfl rfl ?_
  show q_W L (d + 2) 42 q_m42 Q 0 [some (.ref 3), none] [] (4, I, J, R) 0 0
  refine q_k 1 ?_
  show q_W L (d + 2) 42 q_m42 Q 1 [some (.ref 3), none] [.ref 3] (4, I, J, R) 0 0
  refine q_oi rfl rfl rfl ?_
  refine q_k 1 ?_
  show q_W L (d + 2) 42 q_m42 Q 5 [some (.ref 3), none] [.ref 3] (4, I, J, R) 0 0
  refine q_nw (n2 := 5) (uc2 := 1) (us2 := 3) rfl rfl (rfl) rfl rfl rfl ⟨rfl, rfl⟩ ?_
  refine q_k 1 ?_
  show q_W L (d + 2) 42 q_m42 Q 9 [some (.ref 3), none] [.ref 4, .ref 4, .ref 3] (5, va_up I 4 (fun _ => 0), va_up J 4 (fun _ => 0), va_up R 4 (fun _ => none)) 1 3
  refine q_ci1A (as := []) (rs := [.ref 4, .ref 3]) rfl rfl rfl rfl rfl ⟨by decide, by decide⟩ ?_
  refine c_MixInit  (fun I1 J1 R1 f1 p0 p1 p2 => ?_)
  show q_W L (d + 2) 42 q_m42 Q 12 [some (.ref 3), none] [.ref 4, .ref 3] (8, I1, J1, R1) 4 43
  refine q_pR rfl rfl rfl (⟨by decide, rfl⟩) ?_
  refine q_k 2 ?_
  show q_W L (d + 2) 42 q_m42 Q 17 [some (.ref 3), none] [.int (nI 4), .ref 3] (8, I1, J1, q_up R1 3 0 (some 4)) 4 43
  refine q_an (t := 5) (N := 4) (n2 := 9) (uc2 := 5) (us2 := 47) rfl rfl (rfl) ⟨rfl, rfl, rfl, rfl⟩ rfl rfl rfl ⟨rfl, rfl⟩ ?_
  refine q_pR rfl rfl rfl (⟨by decide, rfl⟩) ?_
  refine q_k 2 ?_
  show q_W L (d + 2) 42 q_m42 Q 26 [some (.ref 3), none] [.int (nI 16), .ref 3] (9, I1, J1, q_up (va_up (q_up R1 3 0 (some 4)) 8 (fun _ => none)) 3 1 (some 8)) 5 47
  refine q_an (t := 6) (N := 16) (n2 := 10) (uc2 := 6) (us2 := 63) rfl rfl (rfl) ⟨rfl, rfl, rfl, rfl⟩ rfl rfl rfl ⟨rfl, rfl⟩ ?_
  refine q_pR rfl rfl rfl (⟨by decide, rfl⟩) ?_
  refine q_k 3 ?_
  show q_W L (d + 2) 42 q_m42 Q 37 [some (.ref 3), none] [.int (nI 12), .int (nI 60), .ref 3] (10, I1, J1, q_up (va_up (q_up (va_up (q_up R1 3 0 (some 4)) 8 (fun _ => none)) 3 1 (some 8)) 9 (fun _ => none)) 3 2 (some 9)) 6 63
  refine q_mul (N := 60) (M := 12) (n2 := 71) (uc2 := 67) (us2 := 843) rfl rfl (by decide) (by decide) rfl (fun j hj => by rw [show 10 + 1 + j = 11 + j by omega]; exact q_kdE j hj) rfl rfl rfl ⟨rfl, rfl⟩ ?_
  refine q_pR rfl rfl rfl (⟨by decide, rfl⟩) ?_
  refine q_k 2 ?_
  show q_W L (d + 2) 42 q_m42 Q 46 [some (.ref 3), none] [.int (nI 0), .ref 3] (71, I1, fun a => if 10 < a ∧ a < 10 + (60 + 1) then (fun _ => 0) else J1 a, q_up (va_up (q_up (va_up (q_up (va_up (q_up R1 3 0 (some 4)) 8 (fun _ => none)) 3 1 (some 8)) 9 (fun _ => none)) 3 2 (some 9)) 10 (fun j => some (10 + 1 + j))) 3 3 (some 10)) 67 843
  refine q_pI rfl rfl rfl (⟨by decide, rfl⟩) ?_
  refine q_k 2 ?_
  show q_W L (d + 2) 42 q_m42 Q 51 [some (.ref 3), none] [.long (lN 0), .ref 3] (71, q_up I1 3 4 (nI 0), fun a => if 10 < a ∧ a < 10 + (60 + 1) then (fun _ => 0) else J1 a, q_up (va_up (q_up (va_up (q_up (va_up (q_up R1 3 0 (some 4)) 8 (fun _ => none)) 3 1 (some 8)) 9 (fun _ => none)) 3 2 (some 9)) 10 (fun j => some (10 + 1 + j))) 3 3 (some 10)) 67 843
  refine q_pJ rfl rfl rfl (⟨by decide, rfl⟩) ?_
  refine q_k 1 ?_
  show q_W L (d + 2) 42 q_m42 Q 55 [some (.ref 3), none] [.ref 3] (71, q_up I1 3 4 (nI 0), q_up (fun a => if 10 < a ∧ a < 10 + (60 + 1) then (fun _ => 0) else J1 a) 3 5 (lN 0), q_up (va_up (q_up (va_up (q_up (va_up (q_up R1 3 0 (some 4)) 8 (fun _ => none)) 3 1 (some 8)) 9 (fun _ => none)) 3 2 (some 9)) 10 (fun j => some (10 + 1 + j))) 3 3 (some 10)) 67 843
  refine q_nw (n2 := 72) (uc2 := 68) (us2 := 859) rfl rfl (rfl) rfl rfl rfl ⟨rfl, rfl⟩ ?_
  refine q_k 1 ?_
  show q_W L (d + 2) 42 q_m42 Q 59 [some (.ref 3), none] [.ref 71, .ref 71, .ref 3] (72, va_up (q_up I1 3 4 (nI 0)) 71 (fun _ => 0), va_up (q_up (fun a => if 10 < a ∧ a < 10 + (60 + 1) then (fun _ => 0) else J1 a) 3 5 (lN 0)) 71 (fun _ => 0), va_up (q_up (va_up (q_up (va_up (q_up (va_up (q_up R1 3 0 (some 4)) 8 (fun _ => none)) 3 1 (some 8)) 9 (fun _ => none)) 3 2 (some 9)) 10 (fun j => some (10 + 1 + j))) 3 3 (some 10)) 71 (fun _ => none)) 68 859
  refine q_ci1A (as := []) (rs := [.ref 71, .ref 3]) rfl rfl rfl rfl rfl ⟨by decide, by decide⟩ ?_
  refine c_SessInit (t := 71) (Or.inl rfl) (fun I2 J2 R2 f2 s2 => ?_)
  show q_W L (d + 2) 42 q_m42 Q 62 [some (.ref 3), none] [.ref 71, .ref 3] (81, I2, J2, R2) 77 1177
  refine q_pR rfl rfl rfl (⟨by decide, rfl⟩) ?_
  refine q_k 1 ?_
  show q_W L (d + 2) 42 q_m42 Q 66 [some (.ref 3), none] [.ref 3] (81, I2, J2, q_up R2 3 6 (some 71)) 77 1177
  refine q_nw (n2 := 82) (uc2 := 78) (us2 := 1179) rfl rfl (rfl) rfl rfl rfl ⟨rfl, rfl⟩ ?_
  refine q_k 1 ?_
  show q_W L (d + 2) 42 q_m42 Q 70 [some (.ref 3), none] [.ref 81, .ref 81, .ref 3] (82, va_up I2 81 (fun _ => 0), va_up J2 81 (fun _ => 0), va_up (q_up R2 3 6 (some 71)) 81 (fun _ => none)) 78 1179
  refine q_ci1 (as := []) (rs := [.ref 81, .ref 3]) rfl rfl rfl rfl rfl ?_
  refine c_PairInit (⟨by decide, rfl⟩) (fun I3 f3 z3 => ?_)
  show q_W L (d + 2) 42 q_m42 Q 73 [some (.ref 3), none] [.ref 81, .ref 3] (82, I3, va_up J2 81 (fun _ => 0), va_up (q_up R2 3 6 (some 71)) 81 (fun _ => none)) 78 1179
  refine q_pR rfl rfl rfl (⟨by decide, rfl⟩) ?_
  refine q_k 2 ?_
  show q_W L (d + 2) 42 q_m42 Q 79 [some (.ref 3), none] [.int (nI 8), .ref 3] (82, I3, va_up J2 81 (fun _ => 0), q_up (va_up (q_up R2 3 6 (some 71)) 81 (fun _ => none)) 3 7 (some 81)) 78 1179
  refine q_na (N := 8) (n2 := 83) (uc2 := 79) (us2 := 1187) rfl rfl (rfl) rfl rfl rfl rfl ⟨rfl, rfl⟩ ?_
  refine q_pR rfl rfl rfl (⟨by decide, rfl⟩) ?_
  refine q_k 2 ?_
  show q_W L (d + 2) 42 q_m42 Q 87 [some (.ref 3), none] [.int (nI 8), .ref 3] (83, va_up I3 82 (fun _ => 0), va_up (va_up J2 81 (fun _ => 0)) 82 (fun _ => 0), q_up (q_up (va_up (q_up R2 3 6 (some 71)) 81 (fun _ => none)) 3 7 (some 81)) 3 8 (some 82)) 79 1187
  refine q_na (N := 8) (n2 := 84) (uc2 := 80) (us2 := 1195) rfl rfl (rfl) rfl rfl rfl rfl ⟨rfl, rfl⟩ ?_
  refine q_pR rfl rfl rfl (⟨by decide, rfl⟩) ?_
  refine q_k 2 ?_
  show q_W L (d + 2) 42 q_m42 Q 94 [some (.ref 3), some (.int (nI 0))] [] (84, va_up (va_up I3 82 (fun _ => 0)) 83 (fun _ => 0), va_up (va_up (va_up J2 81 (fun _ => 0)) 82 (fun _ => 0)) 83 (fun _ => 0), q_up (q_up (q_up (va_up (q_up R2 3 6 (some 71)) 81 (fun _ => none)) 3 7 (some 81)) 3 8 (some 82)) 3 9 (some 83)) 80 1195
  obtain ⟨A0, eA0⟩ : ∃ z, z = va_up (va_up I3 82 (fun _ => 0)) 83 (fun _ => 0) := ⟨_, rfl⟩
  obtain ⟨B0, eB0⟩ : ∃ z, z = va_up (va_up (va_up J2 81 (fun _ => 0)) 82 (fun _ => 0)) 83 (fun _ => 0) := ⟨_, rfl⟩
  obtain ⟨C0, eC0⟩ : ∃ z, z = q_up (q_up (q_up (va_up (q_up R2 3 6 (some 71)) 81 (fun _ => none)) 3 7 (some 81)) 3 8 (some 82)) 3 9 (some 83) := ⟨_, rfl⟩
  rw [← eA0, ← eB0, ← eC0]
  have fR1 := fun x hx => (f1 x hx).2.2
  have fR2 := fun x hx => (f2 x hx).2.2
  have fJ2 := fun x hx => (f2 x hx).2.1
  have fI2 := fun x hx => (f2 x hx).1
  have fI1 := fun x hx => (f1 x hx).1
  have HB0 : ∀ x, x < 3 → A0 x = I x := fun x hx => by rw [eA0]; simp (disch := omega) only [q_un, va_up_ne, f3, fI2, fI1]
  have T0 : q_b 84 A0 B0 C0 := by
    refine ⟨?_, ?_, ?_, ?_, ?_, ?_, ?_, ?_, ?_, ?_, ?_, fun k hk => ?_, ?_, ?_, ?_, fun e k he => ?_, fun u hu hu2 => by omega, fun p hp hp2 => by omega⟩
    · rw [eC0]; simp (disch := omega) only [q_un, q_usk, q_usn, va_up_self, va_up_ne, fR2, fR1, p0, p1, p2]
    · rw [eC0]; simp (disch := omega) only [q_un, q_usk, q_usn, va_up_self, va_up_ne, fR2, fR1, p0, p1, p2]
    · rw [eC0]; simp (disch := omega) only [q_un, q_usk, q_usn, va_up_self, va_up_ne, fR2, fR1, p0, p1, p2]
    · rw [eC0]; simp (disch := omega) only [q_un, q_usk, q_usn, va_up_self, va_up_ne, fR2, fR1, p0, p1, p2]
    · rw [eC0]; simp (disch := omega) only [q_un, q_usk, q_usn, va_up_self, va_up_ne, fR2, fR1, p0, p1, p2]
    · rw [eC0]; simp (disch := omega) only [q_un, q_usk, q_usn, va_up_self, va_up_ne, fR2, fR1, p0, p1, p2]
    · rw [eC0]; simp (disch := omega) only [q_un, q_usk, q_usn, va_up_self, va_up_ne, fR2, fR1, p0, p1, p2]
    · rw [eC0]; simp (disch := omega) only [q_un, q_usk, q_usn, va_up_self, va_up_ne, fR2, fR1, p0, p1, p2]
    · rw [eC0]; simp (disch := omega) only [q_un, q_usk, q_usn, va_up_self, va_up_ne, fR2, fR1, p0, p1, p2]
    · rw [eC0]; simp (disch := omega) only [q_un, q_usk, q_usn, va_up_self, va_up_ne, fR2, fR1, p0, p1, p2]
    · rw [eC0]; simp (disch := omega) only [q_un, q_usk, q_usn, va_up_self, va_up_ne, fR2, fR1, p0, p1, p2]
    · rw [eC0]; simp (disch := omega) only [q_un, va_up_ne, va_up_self, fR2]
    · exact s2.to (by decide) (by rw [eC0]; simp (disch := omega) only [q_un, va_up_ne]) (by rw [eC0]; simp (disch := omega) only [q_un, va_up_ne])
    · rw [eA0]; simp (disch := omega) only [q_un, q_usk, va_up_ne, f3, fI2]
    · rw [eB0]; simp (disch := omega) only [q_usk, va_up_ne, fJ2]
    · rw [eB0]; simp (disch := omega) only [q_un, va_up_ne, fJ2]; rw [if_pos (by omega)]; rfl
  clear eA0 eB0 eC0
  show q_W L (d + 2) 42 q_m42 Q 94 [some (.ref 3), some (.int (nI 0))] [] (84, A0, B0, C0) 80 1195
  refine q_k 2 ?_
  show q_W L (d + 2) 42 q_m42 Q 96 [some (.ref 3), some (.int (nI 0))] [.int (nI 4), .int (nI 0)] (84, A0, B0, C0) 80 1195
  refine q_one rfl rfl ?_
  show ((nI 4) ≤ (nI 0) → q_W L (d + 2) 42 q_m42 Q 119 [some (.ref 3), some (.int (nI 0))] [] (84, A0, B0, C0) 80 1195) ∧ (¬ (nI 4) ≤ (nI 0) → q_W L (d + 2) 42 q_m42 Q 99 [some (.ref 3), some (.int (nI 0))] [] (84, A0, B0, C0) 80 1195)
  refine ⟨fun z => absurd z (by decide), fun _ => ?_⟩
  refine q_k 1 ?_
  show q_W L (d + 2) 42 q_m42 Q 100 [some (.ref 3), some (.int (nI 0))] [.ref 3] (84, A0, B0, C0) 80 1195
  refine q_gR (b := 8) rfl rfl (⟨by decide, rfl⟩) (by first | exact T0.r31 | (simp (disch := omega) only [q_un, va_up_ne]; exact T0.r31)) ?_
  refine q_k 1 ?_
  show q_W L (d + 2) 42 q_m42 Q 104 [some (.ref 3), some (.int (nI 0))] [.int (nI 0), .ref 8] (84, A0, B0, C0) 80 1195
  refine q_nw (n2 := 85) (uc2 := 81) (us2 := 1206) rfl rfl (rfl) rfl rfl rfl ⟨rfl, rfl⟩ ?_
  refine q_k 2 ?_
  show q_W L (d + 2) 42 q_m42 Q 109 [some (.ref 3), some (.int (nI 0))] [.int (nI 0), .ref 84, .ref 84, .int (nI 0), .ref 8] (85, va_up A0 84 (fun _ => 0), va_up B0 84 (fun _ => 0), va_up C0 84 (fun _ => none)) 81 1206
  refine q_ci1A (as := [.int (nI 0)]) (rs := [.ref 84, .int (nI 0), .ref 8]) rfl rfl rfl rfl rfl ⟨by decide, by decide⟩ ?_
  refine c_AccInit (a := 84) (v := nI 0) (by decide) rfl rfl rfl rfl rfl rfl rfl rfl rfl rfl rfl rfl rfl rfl rfl rfl rfl rfl rfl (fun j => by rw [va_up_self]) (fun D0 E0 F0 gg0 hh0 ii0 qq0 => ?_)
  show q_W L (d + 2) 42 q_m42 Q 112 [some (.ref 3), some (.int (nI 0))] [.ref 84, .int (nI 0), .ref 8] (103, D0, E0, F0) 99 1264
  refine q_aas (m := 0) rfl (⟨by decide, by decide, rfl⟩) ⟨rfl, rfl⟩ (⟨by decide, rfl⟩) (by decide) rfl ?_
  refine q_k 1 ?_
  show q_W L (d + 2) 42 q_m42 Q 116 [some (.ref 3), some (.int ((nI 0) + nI 1))] [] (103, D0, E0, q_up F0 8 0 (some 84)) 99 1264
  rw [show (nI 0) + nI 1 = nI 1 from nI_add _ _]
  refine q_k 1 ?_
  show q_W L (d + 2) 42 q_m42 Q 94 [some (.ref 3), some (.int (nI 1))] [] (103, D0, E0, q_up F0 8 0 (some 84)) 99 1264
  obtain ⟨A1, eA1⟩ : ∃ z, z = D0 := ⟨_, rfl⟩
  obtain ⟨B1, eB1⟩ : ∃ z, z = E0 := ⟨_, rfl⟩
  obtain ⟨C1, eC1⟩ : ∃ z, z = q_up F0 8 0 (some 84) := ⟨_, rfl⟩
  rw [← eA1, ← eB1, ← eC1]
  have T1 : q_b 103 A1 B1 C1 := q_b_acc (u := 0) T0 (by decide) (fun x h1 h2 => ⟨by rw [eA1, gg0 x (by omega), va_up_ne _ _ (by omega)], by rw [eB1, hh0 x (by omega), va_up_ne _ _ (by omega)]⟩) (fun x h1 h2 => by rw [eC1, q_un h2, ii0 x (by omega), va_up_ne _ _ (by omega)]) (by rw [eC1, q_us, ii0 8 (by omega), va_up_ne _ _ (by omega)]) (q_acI_to qq0 (fun x h1 h2 => by rw [eA1]) (fun x h1 h2 => by rw [eC1, q_un (by omega)]))
  have HB1 : ∀ x, x < 3 → A1 x = I x := fun x hx => by rw [eA1, gg0 x (by omega), va_up_ne _ _ (by omega)]; exact HB0 x hx
  clear eA1 eB1 eC1
  show q_W L (d + 2) 42 q_m42 Q 94 [some (.ref 3), some (.int (nI 1))] [] (103, A1, B1, C1) 99 1264
  refine q_k 2 ?_
  show q_W L (d + 2) 42 q_m42 Q 96 [some (.ref 3), some (.int (nI 1))] [.int (nI 4), .int (nI 1)] (103, A1, B1, C1) 99 1264
  refine q_one rfl rfl ?_
  show ((nI 4) ≤ (nI 1) → q_W L (d + 2) 42 q_m42 Q 119 [some (.ref 3), some (.int (nI 1))] [] (103, A1, B1, C1) 99 1264) ∧ (¬ (nI 4) ≤ (nI 1) → q_W L (d + 2) 42 q_m42 Q 99 [some (.ref 3), some (.int (nI 1))] [] (103, A1, B1, C1) 99 1264)
  refine ⟨fun z => absurd z (by decide), fun _ => ?_⟩
  refine q_k 1 ?_
  show q_W L (d + 2) 42 q_m42 Q 100 [some (.ref 3), some (.int (nI 1))] [.ref 3] (103, A1, B1, C1) 99 1264
  refine q_gR (b := 8) rfl rfl (⟨by decide, rfl⟩) (by first | exact T1.r31 | (simp (disch := omega) only [q_un, va_up_ne]; exact T1.r31)) ?_
  refine q_k 1 ?_
  show q_W L (d + 2) 42 q_m42 Q 104 [some (.ref 3), some (.int (nI 1))] [.int (nI 1), .ref 8] (103, A1, B1, C1) 99 1264
  refine q_nw (n2 := 104) (uc2 := 100) (us2 := 1275) rfl rfl (rfl) rfl rfl rfl ⟨rfl, rfl⟩ ?_
  refine q_k 2 ?_
  show q_W L (d + 2) 42 q_m42 Q 109 [some (.ref 3), some (.int (nI 1))] [.int (nI 1), .ref 103, .ref 103, .int (nI 1), .ref 8] (104, va_up A1 103 (fun _ => 0), va_up B1 103 (fun _ => 0), va_up C1 103 (fun _ => none)) 100 1275
  refine q_ci1A (as := [.int (nI 1)]) (rs := [.ref 103, .int (nI 1), .ref 8]) rfl rfl rfl rfl rfl ⟨by decide, by decide⟩ ?_
  refine c_AccInit (a := 103) (v := nI 1) (by decide) rfl rfl rfl rfl rfl rfl rfl rfl rfl rfl rfl rfl rfl rfl rfl rfl rfl rfl rfl (fun j => by rw [va_up_self]) (fun D1 E1 F1 gg1 hh1 ii1 qq1 => ?_)
  show q_W L (d + 2) 42 q_m42 Q 112 [some (.ref 3), some (.int (nI 1))] [.ref 103, .int (nI 1), .ref 8] (122, D1, E1, F1) 118 1333
  refine q_aas (m := 1) rfl (⟨by decide, by decide, rfl⟩) ⟨rfl, rfl⟩ (⟨by decide, rfl⟩) (by decide) rfl ?_
  refine q_k 1 ?_
  show q_W L (d + 2) 42 q_m42 Q 116 [some (.ref 3), some (.int ((nI 1) + nI 1))] [] (122, D1, E1, q_up F1 8 1 (some 103)) 118 1333
  rw [show (nI 1) + nI 1 = nI 2 from nI_add _ _]
  refine q_k 1 ?_
  show q_W L (d + 2) 42 q_m42 Q 94 [some (.ref 3), some (.int (nI 2))] [] (122, D1, E1, q_up F1 8 1 (some 103)) 118 1333
  obtain ⟨A2, eA2⟩ : ∃ z, z = D1 := ⟨_, rfl⟩
  obtain ⟨B2, eB2⟩ : ∃ z, z = E1 := ⟨_, rfl⟩
  obtain ⟨C2, eC2⟩ : ∃ z, z = q_up F1 8 1 (some 103) := ⟨_, rfl⟩
  rw [← eA2, ← eB2, ← eC2]
  have T2 : q_b 122 A2 B2 C2 := q_b_acc (u := 1) T1 (by decide) (fun x h1 h2 => ⟨by rw [eA2, gg1 x (by omega), va_up_ne _ _ (by omega)], by rw [eB2, hh1 x (by omega), va_up_ne _ _ (by omega)]⟩) (fun x h1 h2 => by rw [eC2, q_un h2, ii1 x (by omega), va_up_ne _ _ (by omega)]) (by rw [eC2, q_us, ii1 8 (by omega), va_up_ne _ _ (by omega)]) (q_acI_to qq1 (fun x h1 h2 => by rw [eA2]) (fun x h1 h2 => by rw [eC2, q_un (by omega)]))
  have HB2 : ∀ x, x < 3 → A2 x = I x := fun x hx => by rw [eA2, gg1 x (by omega), va_up_ne _ _ (by omega)]; exact HB1 x hx
  clear eA2 eB2 eC2
  show q_W L (d + 2) 42 q_m42 Q 94 [some (.ref 3), some (.int (nI 2))] [] (122, A2, B2, C2) 118 1333
  refine q_k 2 ?_
  show q_W L (d + 2) 42 q_m42 Q 96 [some (.ref 3), some (.int (nI 2))] [.int (nI 4), .int (nI 2)] (122, A2, B2, C2) 118 1333
  refine q_one rfl rfl ?_
  show ((nI 4) ≤ (nI 2) → q_W L (d + 2) 42 q_m42 Q 119 [some (.ref 3), some (.int (nI 2))] [] (122, A2, B2, C2) 118 1333) ∧ (¬ (nI 4) ≤ (nI 2) → q_W L (d + 2) 42 q_m42 Q 99 [some (.ref 3), some (.int (nI 2))] [] (122, A2, B2, C2) 118 1333)
  refine ⟨fun z => absurd z (by decide), fun _ => ?_⟩
  refine q_k 1 ?_
  show q_W L (d + 2) 42 q_m42 Q 100 [some (.ref 3), some (.int (nI 2))] [.ref 3] (122, A2, B2, C2) 118 1333
  refine q_gR (b := 8) rfl rfl (⟨by decide, rfl⟩) (by first | exact T2.r31 | (simp (disch := omega) only [q_un, va_up_ne]; exact T2.r31)) ?_
  refine q_k 1 ?_
  show q_W L (d + 2) 42 q_m42 Q 104 [some (.ref 3), some (.int (nI 2))] [.int (nI 2), .ref 8] (122, A2, B2, C2) 118 1333
  refine q_nw (n2 := 123) (uc2 := 119) (us2 := 1344) rfl rfl (rfl) rfl rfl rfl ⟨rfl, rfl⟩ ?_
  refine q_k 2 ?_
  show q_W L (d + 2) 42 q_m42 Q 109 [some (.ref 3), some (.int (nI 2))] [.int (nI 2), .ref 122, .ref 122, .int (nI 2), .ref 8] (123, va_up A2 122 (fun _ => 0), va_up B2 122 (fun _ => 0), va_up C2 122 (fun _ => none)) 119 1344
  refine q_ci1A (as := [.int (nI 2)]) (rs := [.ref 122, .int (nI 2), .ref 8]) rfl rfl rfl rfl rfl ⟨by decide, by decide⟩ ?_
  refine c_AccInit (a := 122) (v := nI 2) (by decide) rfl rfl rfl rfl rfl rfl rfl rfl rfl rfl rfl rfl rfl rfl rfl rfl rfl rfl rfl (fun j => by rw [va_up_self]) (fun D2 E2 F2 gg2 hh2 ii2 qq2 => ?_)
  show q_W L (d + 2) 42 q_m42 Q 112 [some (.ref 3), some (.int (nI 2))] [.ref 122, .int (nI 2), .ref 8] (141, D2, E2, F2) 137 1402
  refine q_aas (m := 2) rfl (⟨by decide, by decide, rfl⟩) ⟨rfl, rfl⟩ (⟨by decide, rfl⟩) (by decide) rfl ?_
  refine q_k 1 ?_
  show q_W L (d + 2) 42 q_m42 Q 116 [some (.ref 3), some (.int ((nI 2) + nI 1))] [] (141, D2, E2, q_up F2 8 2 (some 122)) 137 1402
  rw [show (nI 2) + nI 1 = nI 3 from nI_add _ _]
  refine q_k 1 ?_
  show q_W L (d + 2) 42 q_m42 Q 94 [some (.ref 3), some (.int (nI 3))] [] (141, D2, E2, q_up F2 8 2 (some 122)) 137 1402
  obtain ⟨A3, eA3⟩ : ∃ z, z = D2 := ⟨_, rfl⟩
  obtain ⟨B3, eB3⟩ : ∃ z, z = E2 := ⟨_, rfl⟩
  obtain ⟨C3, eC3⟩ : ∃ z, z = q_up F2 8 2 (some 122) := ⟨_, rfl⟩
  rw [← eA3, ← eB3, ← eC3]
  have T3 : q_b 141 A3 B3 C3 := q_b_acc (u := 2) T2 (by decide) (fun x h1 h2 => ⟨by rw [eA3, gg2 x (by omega), va_up_ne _ _ (by omega)], by rw [eB3, hh2 x (by omega), va_up_ne _ _ (by omega)]⟩) (fun x h1 h2 => by rw [eC3, q_un h2, ii2 x (by omega), va_up_ne _ _ (by omega)]) (by rw [eC3, q_us, ii2 8 (by omega), va_up_ne _ _ (by omega)]) (q_acI_to qq2 (fun x h1 h2 => by rw [eA3]) (fun x h1 h2 => by rw [eC3, q_un (by omega)]))
  have HB3 : ∀ x, x < 3 → A3 x = I x := fun x hx => by rw [eA3, gg2 x (by omega), va_up_ne _ _ (by omega)]; exact HB2 x hx
  clear eA3 eB3 eC3
  show q_W L (d + 2) 42 q_m42 Q 94 [some (.ref 3), some (.int (nI 3))] [] (141, A3, B3, C3) 137 1402
  refine q_k 2 ?_
  show q_W L (d + 2) 42 q_m42 Q 96 [some (.ref 3), some (.int (nI 3))] [.int (nI 4), .int (nI 3)] (141, A3, B3, C3) 137 1402
  refine q_one rfl rfl ?_
  show ((nI 4) ≤ (nI 3) → q_W L (d + 2) 42 q_m42 Q 119 [some (.ref 3), some (.int (nI 3))] [] (141, A3, B3, C3) 137 1402) ∧ (¬ (nI 4) ≤ (nI 3) → q_W L (d + 2) 42 q_m42 Q 99 [some (.ref 3), some (.int (nI 3))] [] (141, A3, B3, C3) 137 1402)
  refine ⟨fun z => absurd z (by decide), fun _ => ?_⟩
  refine q_k 1 ?_
  show q_W L (d + 2) 42 q_m42 Q 100 [some (.ref 3), some (.int (nI 3))] [.ref 3] (141, A3, B3, C3) 137 1402
  refine q_gR (b := 8) rfl rfl (⟨by decide, rfl⟩) (by first | exact T3.r31 | (simp (disch := omega) only [q_un, va_up_ne]; exact T3.r31)) ?_
  refine q_k 1 ?_
  show q_W L (d + 2) 42 q_m42 Q 104 [some (.ref 3), some (.int (nI 3))] [.int (nI 3), .ref 8] (141, A3, B3, C3) 137 1402
  refine q_nw (n2 := 142) (uc2 := 138) (us2 := 1413) rfl rfl (rfl) rfl rfl rfl ⟨rfl, rfl⟩ ?_
  refine q_k 2 ?_
  show q_W L (d + 2) 42 q_m42 Q 109 [some (.ref 3), some (.int (nI 3))] [.int (nI 3), .ref 141, .ref 141, .int (nI 3), .ref 8] (142, va_up A3 141 (fun _ => 0), va_up B3 141 (fun _ => 0), va_up C3 141 (fun _ => none)) 138 1413
  refine q_ci1A (as := [.int (nI 3)]) (rs := [.ref 141, .int (nI 3), .ref 8]) rfl rfl rfl rfl rfl ⟨by decide, by decide⟩ ?_
  refine c_AccInit (a := 141) (v := nI 3) (by decide) rfl rfl rfl rfl rfl rfl rfl rfl rfl rfl rfl rfl rfl rfl rfl rfl rfl rfl rfl (fun j => by rw [va_up_self]) (fun D3 E3 F3 gg3 hh3 ii3 qq3 => ?_)
  show q_W L (d + 2) 42 q_m42 Q 112 [some (.ref 3), some (.int (nI 3))] [.ref 141, .int (nI 3), .ref 8] (160, D3, E3, F3) 156 1471
  refine q_aas (m := 3) rfl (⟨by decide, by decide, rfl⟩) ⟨rfl, rfl⟩ (⟨by decide, rfl⟩) (by decide) rfl ?_
  refine q_k 1 ?_
  show q_W L (d + 2) 42 q_m42 Q 116 [some (.ref 3), some (.int ((nI 3) + nI 1))] [] (160, D3, E3, q_up F3 8 3 (some 141)) 156 1471
  rw [show (nI 3) + nI 1 = nI 4 from nI_add _ _]
  refine q_k 1 ?_
  show q_W L (d + 2) 42 q_m42 Q 94 [some (.ref 3), some (.int (nI 4))] [] (160, D3, E3, q_up F3 8 3 (some 141)) 156 1471
  obtain ⟨A4, eA4⟩ : ∃ z, z = D3 := ⟨_, rfl⟩
  obtain ⟨B4, eB4⟩ : ∃ z, z = E3 := ⟨_, rfl⟩
  obtain ⟨C4, eC4⟩ : ∃ z, z = q_up F3 8 3 (some 141) := ⟨_, rfl⟩
  rw [← eA4, ← eB4, ← eC4]
  have T4 : q_b 160 A4 B4 C4 := q_b_acc (u := 3) T3 (by decide) (fun x h1 h2 => ⟨by rw [eA4, gg3 x (by omega), va_up_ne _ _ (by omega)], by rw [eB4, hh3 x (by omega), va_up_ne _ _ (by omega)]⟩) (fun x h1 h2 => by rw [eC4, q_un h2, ii3 x (by omega), va_up_ne _ _ (by omega)]) (by rw [eC4, q_us, ii3 8 (by omega), va_up_ne _ _ (by omega)]) (q_acI_to qq3 (fun x h1 h2 => by rw [eA4]) (fun x h1 h2 => by rw [eC4, q_un (by omega)]))
  have HB4 : ∀ x, x < 3 → A4 x = I x := fun x hx => by rw [eA4, gg3 x (by omega), va_up_ne _ _ (by omega)]; exact HB3 x hx
  clear eA4 eB4 eC4
  show q_W L (d + 2) 42 q_m42 Q 94 [some (.ref 3), some (.int (nI 4))] [] (160, A4, B4, C4) 156 1471
  refine q_k 2 ?_
  show q_W L (d + 2) 42 q_m42 Q 96 [some (.ref 3), some (.int (nI 4))] [.int (nI 4), .int (nI 4)] (160, A4, B4, C4) 156 1471
  refine q_one rfl rfl ?_
  show ((nI 4) ≤ (nI 4) → q_W L (d + 2) 42 q_m42 Q 119 [some (.ref 3), some (.int (nI 4))] [] (160, A4, B4, C4) 156 1471) ∧ (¬ (nI 4) ≤ (nI 4) → q_W L (d + 2) 42 q_m42 Q 99 [some (.ref 3), some (.int (nI 4))] [] (160, A4, B4, C4) 156 1471)
  refine ⟨fun _ => ?_, fun z => absurd (by decide) z⟩
  refine q_k 2 ?_
  show q_W L (d + 2) 42 q_m42 Q 121 [some (.ref 3), some (.int (nI 0))] [] (160, A4, B4, C4) 156 1471
  show q_W L (d + 2) 42 q_m42 Q 121 [some (.ref 3), some (.int (nI 0))] [] (160, A4, B4, C4) 156 1471
  refine q_k 2 ?_
  show q_W L (d + 2) 42 q_m42 Q 124 [some (.ref 3), some (.int (nI 0))] [.int (nI 16), .int (nI 0)] (160, A4, B4, C4) 156 1471
  refine q_one rfl rfl ?_
  show ((nI 16) ≤ (nI 0) → q_W L (d + 2) 42 q_m42 Q 146 [some (.ref 3), some (.int (nI 0))] [] (160, A4, B4, C4) 156 1471) ∧ (¬ (nI 16) ≤ (nI 0) → q_W L (d + 2) 42 q_m42 Q 127 [some (.ref 3), some (.int (nI 0))] [] (160, A4, B4, C4) 156 1471)
  refine ⟨fun z => absurd z (by decide), fun _ => ?_⟩
  refine q_k 1 ?_
  show q_W L (d + 2) 42 q_m42 Q 128 [some (.ref 3), some (.int (nI 0))] [.ref 3] (160, A4, B4, C4) 156 1471
  refine q_gR (b := 9) rfl rfl (⟨by decide, rfl⟩) (by first | exact T4.r32 | (simp (disch := omega) only [q_un, va_up_ne]; exact T4.r32)) ?_
  refine q_k 1 ?_
  show q_W L (d + 2) 42 q_m42 Q 132 [some (.ref 3), some (.int (nI 0))] [.int (nI 0), .ref 9] (160, A4, B4, C4) 156 1471
  refine q_nw (n2 := 161) (uc2 := 157) (us2 := 1473) rfl rfl (rfl) rfl rfl rfl ⟨rfl, rfl⟩ ?_
  refine q_k 1 ?_
  show q_W L (d + 2) 42 q_m42 Q 136 [some (.ref 3), some (.int (nI 0))] [.ref 160, .ref 160, .int (nI 0), .ref 9] (161, va_up A4 160 (fun _ => 0), va_up B4 160 (fun _ => 0), va_up C4 160 (fun _ => none)) 157 1473
  refine q_ci1A (as := []) (rs := [.ref 160, .int (nI 0), .ref 9]) rfl rfl rfl rfl rfl ⟨by decide, by decide⟩ ?_
  refine c_ListInit (s := 160) rfl rfl (fun M0 N0 gl0 hl0 il0 jl0 => ?_)
  show q_W L (d + 2) 42 q_m42 Q 139 [some (.ref 3), some (.int (nI 0))] [.ref 160, .int (nI 0), .ref 9] (162, M0, va_up B4 160 (fun _ => 0), N0) 158 1476
  refine q_aas (m := 0) rfl (⟨by decide, by decide, rfl⟩) ⟨rfl, rfl⟩ (⟨by decide, rfl⟩) (by decide) rfl ?_
  refine q_k 1 ?_
  show q_W L (d + 2) 42 q_m42 Q 143 [some (.ref 3), some (.int ((nI 0) + nI 1))] [] (162, M0, va_up B4 160 (fun _ => 0), q_up N0 9 0 (some 160)) 158 1476
  rw [show (nI 0) + nI 1 = nI 1 from nI_add _ _]
  refine q_k 1 ?_
  show q_W L (d + 2) 42 q_m42 Q 121 [some (.ref 3), some (.int (nI 1))] [] (162, M0, va_up B4 160 (fun _ => 0), q_up N0 9 0 (some 160)) 158 1476
  obtain ⟨A5, eA5⟩ : ∃ z, z = M0 := ⟨_, rfl⟩
  obtain ⟨B5, eB5⟩ : ∃ z, z = va_up B4 160 (fun _ => 0) := ⟨_, rfl⟩
  obtain ⟨C5, eC5⟩ : ∃ z, z = q_up N0 9 0 (some 160) := ⟨_, rfl⟩
  rw [← eA5, ← eB5, ← eC5]
  have T5 : q_b 162 A5 B5 C5 := q_b_li (p := 0) T4 (by decide) (fun x h1 h2 => ⟨by rw [eA5, gl0 x (by omega), va_up_ne _ _ (by omega)], by rw [eB5, va_up_ne _ _ (by omega)]⟩) (fun x h1 h2 => by rw [eC5, q_un h2, hl0 x (by omega), va_up_ne _ _ (by omega)]) (by rw [eC5, q_us, hl0 9 (by omega), va_up_ne _ _ (by omega)]) (by rw [eC5, q_un (by omega)]; exact il0) (by rw [eA5]; exact jl0)
  have HB5 : ∀ x, x < 3 → A5 x = I x := fun x hx => by rw [eA5, gl0 x (by omega), va_up_ne _ _ (by omega)]; exact HB4 x hx
  clear eA5 eB5 eC5
  show q_W L (d + 2) 42 q_m42 Q 121 [some (.ref 3), some (.int (nI 1))] [] (162, A5, B5, C5) 158 1476
  refine q_k 2 ?_
  show q_W L (d + 2) 42 q_m42 Q 124 [some (.ref 3), some (.int (nI 1))] [.int (nI 16), .int (nI 1)] (162, A5, B5, C5) 158 1476
  refine q_one rfl rfl ?_
  show ((nI 16) ≤ (nI 1) → q_W L (d + 2) 42 q_m42 Q 146 [some (.ref 3), some (.int (nI 1))] [] (162, A5, B5, C5) 158 1476) ∧ (¬ (nI 16) ≤ (nI 1) → q_W L (d + 2) 42 q_m42 Q 127 [some (.ref 3), some (.int (nI 1))] [] (162, A5, B5, C5) 158 1476)
  refine ⟨fun z => absurd z (by decide), fun _ => ?_⟩
  refine q_k 1 ?_
  show q_W L (d + 2) 42 q_m42 Q 128 [some (.ref 3), some (.int (nI 1))] [.ref 3] (162, A5, B5, C5) 158 1476
  refine q_gR (b := 9) rfl rfl (⟨by decide, rfl⟩) (by first | exact T5.r32 | (simp (disch := omega) only [q_un, va_up_ne]; exact T5.r32)) ?_
  refine q_k 1 ?_
  show q_W L (d + 2) 42 q_m42 Q 132 [some (.ref 3), some (.int (nI 1))] [.int (nI 1), .ref 9] (162, A5, B5, C5) 158 1476
  refine q_nw (n2 := 163) (uc2 := 159) (us2 := 1478) rfl rfl (rfl) rfl rfl rfl ⟨rfl, rfl⟩ ?_
  refine q_k 1 ?_
  show q_W L (d + 2) 42 q_m42 Q 136 [some (.ref 3), some (.int (nI 1))] [.ref 162, .ref 162, .int (nI 1), .ref 9] (163, va_up A5 162 (fun _ => 0), va_up B5 162 (fun _ => 0), va_up C5 162 (fun _ => none)) 159 1478
  refine q_ci1A (as := []) (rs := [.ref 162, .int (nI 1), .ref 9]) rfl rfl rfl rfl rfl ⟨by decide, by decide⟩ ?_
  refine c_ListInit (s := 162) rfl rfl (fun M1 N1 gl1 hl1 il1 jl1 => ?_)
  show q_W L (d + 2) 42 q_m42 Q 139 [some (.ref 3), some (.int (nI 1))] [.ref 162, .int (nI 1), .ref 9] (164, M1, va_up B5 162 (fun _ => 0), N1) 160 1481
  refine q_aas (m := 1) rfl (⟨by decide, by decide, rfl⟩) ⟨rfl, rfl⟩ (⟨by decide, rfl⟩) (by decide) rfl ?_
  refine q_k 1 ?_
  show q_W L (d + 2) 42 q_m42 Q 143 [some (.ref 3), some (.int ((nI 1) + nI 1))] [] (164, M1, va_up B5 162 (fun _ => 0), q_up N1 9 1 (some 162)) 160 1481
  rw [show (nI 1) + nI 1 = nI 2 from nI_add _ _]
  refine q_k 1 ?_
  show q_W L (d + 2) 42 q_m42 Q 121 [some (.ref 3), some (.int (nI 2))] [] (164, M1, va_up B5 162 (fun _ => 0), q_up N1 9 1 (some 162)) 160 1481
  obtain ⟨A6, eA6⟩ : ∃ z, z = M1 := ⟨_, rfl⟩
  obtain ⟨B6, eB6⟩ : ∃ z, z = va_up B5 162 (fun _ => 0) := ⟨_, rfl⟩
  obtain ⟨C6, eC6⟩ : ∃ z, z = q_up N1 9 1 (some 162) := ⟨_, rfl⟩
  rw [← eA6, ← eB6, ← eC6]
  have T6 : q_b 164 A6 B6 C6 := q_b_li (p := 1) T5 (by decide) (fun x h1 h2 => ⟨by rw [eA6, gl1 x (by omega), va_up_ne _ _ (by omega)], by rw [eB6, va_up_ne _ _ (by omega)]⟩) (fun x h1 h2 => by rw [eC6, q_un h2, hl1 x (by omega), va_up_ne _ _ (by omega)]) (by rw [eC6, q_us, hl1 9 (by omega), va_up_ne _ _ (by omega)]) (by rw [eC6, q_un (by omega)]; exact il1) (by rw [eA6]; exact jl1)
  have HB6 : ∀ x, x < 3 → A6 x = I x := fun x hx => by rw [eA6, gl1 x (by omega), va_up_ne _ _ (by omega)]; exact HB5 x hx
  clear eA6 eB6 eC6
  show q_W L (d + 2) 42 q_m42 Q 121 [some (.ref 3), some (.int (nI 2))] [] (164, A6, B6, C6) 160 1481
  refine q_k 2 ?_
  show q_W L (d + 2) 42 q_m42 Q 124 [some (.ref 3), some (.int (nI 2))] [.int (nI 16), .int (nI 2)] (164, A6, B6, C6) 160 1481
  refine q_one rfl rfl ?_
  show ((nI 16) ≤ (nI 2) → q_W L (d + 2) 42 q_m42 Q 146 [some (.ref 3), some (.int (nI 2))] [] (164, A6, B6, C6) 160 1481) ∧ (¬ (nI 16) ≤ (nI 2) → q_W L (d + 2) 42 q_m42 Q 127 [some (.ref 3), some (.int (nI 2))] [] (164, A6, B6, C6) 160 1481)
  refine ⟨fun z => absurd z (by decide), fun _ => ?_⟩
  refine q_k 1 ?_
  show q_W L (d + 2) 42 q_m42 Q 128 [some (.ref 3), some (.int (nI 2))] [.ref 3] (164, A6, B6, C6) 160 1481
  refine q_gR (b := 9) rfl rfl (⟨by decide, rfl⟩) (by first | exact T6.r32 | (simp (disch := omega) only [q_un, va_up_ne]; exact T6.r32)) ?_
  refine q_k 1 ?_
  show q_W L (d + 2) 42 q_m42 Q 132 [some (.ref 3), some (.int (nI 2))] [.int (nI 2), .ref 9] (164, A6, B6, C6) 160 1481
  refine q_nw (n2 := 165) (uc2 := 161) (us2 := 1483) rfl rfl (rfl) rfl rfl rfl ⟨rfl, rfl⟩ ?_
  refine q_k 1 ?_
  show q_W L (d + 2) 42 q_m42 Q 136 [some (.ref 3), some (.int (nI 2))] [.ref 164, .ref 164, .int (nI 2), .ref 9] (165, va_up A6 164 (fun _ => 0), va_up B6 164 (fun _ => 0), va_up C6 164 (fun _ => none)) 161 1483
  refine q_ci1A (as := []) (rs := [.ref 164, .int (nI 2), .ref 9]) rfl rfl rfl rfl rfl ⟨by decide, by decide⟩ ?_
  refine c_ListInit (s := 164) rfl rfl (fun M2 N2 gl2 hl2 il2 jl2 => ?_)
  show q_W L (d + 2) 42 q_m42 Q 139 [some (.ref 3), some (.int (nI 2))] [.ref 164, .int (nI 2), .ref 9] (166, M2, va_up B6 164 (fun _ => 0), N2) 162 1486
  refine q_aas (m := 2) rfl (⟨by decide, by decide, rfl⟩) ⟨rfl, rfl⟩ (⟨by decide, rfl⟩) (by decide) rfl ?_
  refine q_k 1 ?_
  show q_W L (d + 2) 42 q_m42 Q 143 [some (.ref 3), some (.int ((nI 2) + nI 1))] [] (166, M2, va_up B6 164 (fun _ => 0), q_up N2 9 2 (some 164)) 162 1486
  rw [show (nI 2) + nI 1 = nI 3 from nI_add _ _]
  refine q_k 1 ?_
  show q_W L (d + 2) 42 q_m42 Q 121 [some (.ref 3), some (.int (nI 3))] [] (166, M2, va_up B6 164 (fun _ => 0), q_up N2 9 2 (some 164)) 162 1486
  obtain ⟨A7, eA7⟩ : ∃ z, z = M2 := ⟨_, rfl⟩
  obtain ⟨B7, eB7⟩ : ∃ z, z = va_up B6 164 (fun _ => 0) := ⟨_, rfl⟩
  obtain ⟨C7, eC7⟩ : ∃ z, z = q_up N2 9 2 (some 164) := ⟨_, rfl⟩
  rw [← eA7, ← eB7, ← eC7]
  have T7 : q_b 166 A7 B7 C7 := q_b_li (p := 2) T6 (by decide) (fun x h1 h2 => ⟨by rw [eA7, gl2 x (by omega), va_up_ne _ _ (by omega)], by rw [eB7, va_up_ne _ _ (by omega)]⟩) (fun x h1 h2 => by rw [eC7, q_un h2, hl2 x (by omega), va_up_ne _ _ (by omega)]) (by rw [eC7, q_us, hl2 9 (by omega), va_up_ne _ _ (by omega)]) (by rw [eC7, q_un (by omega)]; exact il2) (by rw [eA7]; exact jl2)
  have HB7 : ∀ x, x < 3 → A7 x = I x := fun x hx => by rw [eA7, gl2 x (by omega), va_up_ne _ _ (by omega)]; exact HB6 x hx
  clear eA7 eB7 eC7
  show q_W L (d + 2) 42 q_m42 Q 121 [some (.ref 3), some (.int (nI 3))] [] (166, A7, B7, C7) 162 1486
  refine q_k 2 ?_
  show q_W L (d + 2) 42 q_m42 Q 124 [some (.ref 3), some (.int (nI 3))] [.int (nI 16), .int (nI 3)] (166, A7, B7, C7) 162 1486
  refine q_one rfl rfl ?_
  show ((nI 16) ≤ (nI 3) → q_W L (d + 2) 42 q_m42 Q 146 [some (.ref 3), some (.int (nI 3))] [] (166, A7, B7, C7) 162 1486) ∧ (¬ (nI 16) ≤ (nI 3) → q_W L (d + 2) 42 q_m42 Q 127 [some (.ref 3), some (.int (nI 3))] [] (166, A7, B7, C7) 162 1486)
  refine ⟨fun z => absurd z (by decide), fun _ => ?_⟩
  refine q_k 1 ?_
  show q_W L (d + 2) 42 q_m42 Q 128 [some (.ref 3), some (.int (nI 3))] [.ref 3] (166, A7, B7, C7) 162 1486
  refine q_gR (b := 9) rfl rfl (⟨by decide, rfl⟩) (by first | exact T7.r32 | (simp (disch := omega) only [q_un, va_up_ne]; exact T7.r32)) ?_
  refine q_k 1 ?_
  show q_W L (d + 2) 42 q_m42 Q 132 [some (.ref 3), some (.int (nI 3))] [.int (nI 3), .ref 9] (166, A7, B7, C7) 162 1486
  refine q_nw (n2 := 167) (uc2 := 163) (us2 := 1488) rfl rfl (rfl) rfl rfl rfl ⟨rfl, rfl⟩ ?_
  refine q_k 1 ?_
  show q_W L (d + 2) 42 q_m42 Q 136 [some (.ref 3), some (.int (nI 3))] [.ref 166, .ref 166, .int (nI 3), .ref 9] (167, va_up A7 166 (fun _ => 0), va_up B7 166 (fun _ => 0), va_up C7 166 (fun _ => none)) 163 1488
  refine q_ci1A (as := []) (rs := [.ref 166, .int (nI 3), .ref 9]) rfl rfl rfl rfl rfl ⟨by decide, by decide⟩ ?_
  refine c_ListInit (s := 166) rfl rfl (fun M3 N3 gl3 hl3 il3 jl3 => ?_)
  show q_W L (d + 2) 42 q_m42 Q 139 [some (.ref 3), some (.int (nI 3))] [.ref 166, .int (nI 3), .ref 9] (168, M3, va_up B7 166 (fun _ => 0), N3) 164 1491
  refine q_aas (m := 3) rfl (⟨by decide, by decide, rfl⟩) ⟨rfl, rfl⟩ (⟨by decide, rfl⟩) (by decide) rfl ?_
  refine q_k 1 ?_
  show q_W L (d + 2) 42 q_m42 Q 143 [some (.ref 3), some (.int ((nI 3) + nI 1))] [] (168, M3, va_up B7 166 (fun _ => 0), q_up N3 9 3 (some 166)) 164 1491
  rw [show (nI 3) + nI 1 = nI 4 from nI_add _ _]
  refine q_k 1 ?_
  show q_W L (d + 2) 42 q_m42 Q 121 [some (.ref 3), some (.int (nI 4))] [] (168, M3, va_up B7 166 (fun _ => 0), q_up N3 9 3 (some 166)) 164 1491
  obtain ⟨A8, eA8⟩ : ∃ z, z = M3 := ⟨_, rfl⟩
  obtain ⟨B8, eB8⟩ : ∃ z, z = va_up B7 166 (fun _ => 0) := ⟨_, rfl⟩
  obtain ⟨C8, eC8⟩ : ∃ z, z = q_up N3 9 3 (some 166) := ⟨_, rfl⟩
  rw [← eA8, ← eB8, ← eC8]
  have T8 : q_b 168 A8 B8 C8 := q_b_li (p := 3) T7 (by decide) (fun x h1 h2 => ⟨by rw [eA8, gl3 x (by omega), va_up_ne _ _ (by omega)], by rw [eB8, va_up_ne _ _ (by omega)]⟩) (fun x h1 h2 => by rw [eC8, q_un h2, hl3 x (by omega), va_up_ne _ _ (by omega)]) (by rw [eC8, q_us, hl3 9 (by omega), va_up_ne _ _ (by omega)]) (by rw [eC8, q_un (by omega)]; exact il3) (by rw [eA8]; exact jl3)
  have HB8 : ∀ x, x < 3 → A8 x = I x := fun x hx => by rw [eA8, gl3 x (by omega), va_up_ne _ _ (by omega)]; exact HB7 x hx
  clear eA8 eB8 eC8
  show q_W L (d + 2) 42 q_m42 Q 121 [some (.ref 3), some (.int (nI 4))] [] (168, A8, B8, C8) 164 1491
  refine q_k 2 ?_
  show q_W L (d + 2) 42 q_m42 Q 124 [some (.ref 3), some (.int (nI 4))] [.int (nI 16), .int (nI 4)] (168, A8, B8, C8) 164 1491
  refine q_one rfl rfl ?_
  show ((nI 16) ≤ (nI 4) → q_W L (d + 2) 42 q_m42 Q 146 [some (.ref 3), some (.int (nI 4))] [] (168, A8, B8, C8) 164 1491) ∧ (¬ (nI 16) ≤ (nI 4) → q_W L (d + 2) 42 q_m42 Q 127 [some (.ref 3), some (.int (nI 4))] [] (168, A8, B8, C8) 164 1491)
  refine ⟨fun z => absurd z (by decide), fun _ => ?_⟩
  refine q_k 1 ?_
  show q_W L (d + 2) 42 q_m42 Q 128 [some (.ref 3), some (.int (nI 4))] [.ref 3] (168, A8, B8, C8) 164 1491
  refine q_gR (b := 9) rfl rfl (⟨by decide, rfl⟩) (by first | exact T8.r32 | (simp (disch := omega) only [q_un, va_up_ne]; exact T8.r32)) ?_
  refine q_k 1 ?_
  show q_W L (d + 2) 42 q_m42 Q 132 [some (.ref 3), some (.int (nI 4))] [.int (nI 4), .ref 9] (168, A8, B8, C8) 164 1491
  refine q_nw (n2 := 169) (uc2 := 165) (us2 := 1493) rfl rfl (rfl) rfl rfl rfl ⟨rfl, rfl⟩ ?_
  refine q_k 1 ?_
  show q_W L (d + 2) 42 q_m42 Q 136 [some (.ref 3), some (.int (nI 4))] [.ref 168, .ref 168, .int (nI 4), .ref 9] (169, va_up A8 168 (fun _ => 0), va_up B8 168 (fun _ => 0), va_up C8 168 (fun _ => none)) 165 1493
  refine q_ci1A (as := []) (rs := [.ref 168, .int (nI 4), .ref 9]) rfl rfl rfl rfl rfl ⟨by decide, by decide⟩ ?_
  refine c_ListInit (s := 168) rfl rfl (fun M4 N4 gl4 hl4 il4 jl4 => ?_)
  show q_W L (d + 2) 42 q_m42 Q 139 [some (.ref 3), some (.int (nI 4))] [.ref 168, .int (nI 4), .ref 9] (170, M4, va_up B8 168 (fun _ => 0), N4) 166 1496
  refine q_aas (m := 4) rfl (⟨by decide, by decide, rfl⟩) ⟨rfl, rfl⟩ (⟨by decide, rfl⟩) (by decide) rfl ?_
  refine q_k 1 ?_
  show q_W L (d + 2) 42 q_m42 Q 143 [some (.ref 3), some (.int ((nI 4) + nI 1))] [] (170, M4, va_up B8 168 (fun _ => 0), q_up N4 9 4 (some 168)) 166 1496
  rw [show (nI 4) + nI 1 = nI 5 from nI_add _ _]
  refine q_k 1 ?_
  show q_W L (d + 2) 42 q_m42 Q 121 [some (.ref 3), some (.int (nI 5))] [] (170, M4, va_up B8 168 (fun _ => 0), q_up N4 9 4 (some 168)) 166 1496
  obtain ⟨A9, eA9⟩ : ∃ z, z = M4 := ⟨_, rfl⟩
  obtain ⟨B9, eB9⟩ : ∃ z, z = va_up B8 168 (fun _ => 0) := ⟨_, rfl⟩
  obtain ⟨C9, eC9⟩ : ∃ z, z = q_up N4 9 4 (some 168) := ⟨_, rfl⟩
  rw [← eA9, ← eB9, ← eC9]
  have T9 : q_b 170 A9 B9 C9 := q_b_li (p := 4) T8 (by decide) (fun x h1 h2 => ⟨by rw [eA9, gl4 x (by omega), va_up_ne _ _ (by omega)], by rw [eB9, va_up_ne _ _ (by omega)]⟩) (fun x h1 h2 => by rw [eC9, q_un h2, hl4 x (by omega), va_up_ne _ _ (by omega)]) (by rw [eC9, q_us, hl4 9 (by omega), va_up_ne _ _ (by omega)]) (by rw [eC9, q_un (by omega)]; exact il4) (by rw [eA9]; exact jl4)
  have HB9 : ∀ x, x < 3 → A9 x = I x := fun x hx => by rw [eA9, gl4 x (by omega), va_up_ne _ _ (by omega)]; exact HB8 x hx
  clear eA9 eB9 eC9
  show q_W L (d + 2) 42 q_m42 Q 121 [some (.ref 3), some (.int (nI 5))] [] (170, A9, B9, C9) 166 1496
  refine q_k 2 ?_
  show q_W L (d + 2) 42 q_m42 Q 124 [some (.ref 3), some (.int (nI 5))] [.int (nI 16), .int (nI 5)] (170, A9, B9, C9) 166 1496
  refine q_one rfl rfl ?_
  show ((nI 16) ≤ (nI 5) → q_W L (d + 2) 42 q_m42 Q 146 [some (.ref 3), some (.int (nI 5))] [] (170, A9, B9, C9) 166 1496) ∧ (¬ (nI 16) ≤ (nI 5) → q_W L (d + 2) 42 q_m42 Q 127 [some (.ref 3), some (.int (nI 5))] [] (170, A9, B9, C9) 166 1496)
  refine ⟨fun z => absurd z (by decide), fun _ => ?_⟩
  refine q_k 1 ?_
  show q_W L (d + 2) 42 q_m42 Q 128 [some (.ref 3), some (.int (nI 5))] [.ref 3] (170, A9, B9, C9) 166 1496
  refine q_gR (b := 9) rfl rfl (⟨by decide, rfl⟩) (by first | exact T9.r32 | (simp (disch := omega) only [q_un, va_up_ne]; exact T9.r32)) ?_
  refine q_k 1 ?_
  show q_W L (d + 2) 42 q_m42 Q 132 [some (.ref 3), some (.int (nI 5))] [.int (nI 5), .ref 9] (170, A9, B9, C9) 166 1496
  refine q_nw (n2 := 171) (uc2 := 167) (us2 := 1498) rfl rfl (rfl) rfl rfl rfl ⟨rfl, rfl⟩ ?_
  refine q_k 1 ?_
  show q_W L (d + 2) 42 q_m42 Q 136 [some (.ref 3), some (.int (nI 5))] [.ref 170, .ref 170, .int (nI 5), .ref 9] (171, va_up A9 170 (fun _ => 0), va_up B9 170 (fun _ => 0), va_up C9 170 (fun _ => none)) 167 1498
  refine q_ci1A (as := []) (rs := [.ref 170, .int (nI 5), .ref 9]) rfl rfl rfl rfl rfl ⟨by decide, by decide⟩ ?_
  refine c_ListInit (s := 170) rfl rfl (fun M5 N5 gl5 hl5 il5 jl5 => ?_)
  show q_W L (d + 2) 42 q_m42 Q 139 [some (.ref 3), some (.int (nI 5))] [.ref 170, .int (nI 5), .ref 9] (172, M5, va_up B9 170 (fun _ => 0), N5) 168 1501
  refine q_aas (m := 5) rfl (⟨by decide, by decide, rfl⟩) ⟨rfl, rfl⟩ (⟨by decide, rfl⟩) (by decide) rfl ?_
  refine q_k 1 ?_
  show q_W L (d + 2) 42 q_m42 Q 143 [some (.ref 3), some (.int ((nI 5) + nI 1))] [] (172, M5, va_up B9 170 (fun _ => 0), q_up N5 9 5 (some 170)) 168 1501
  rw [show (nI 5) + nI 1 = nI 6 from nI_add _ _]
  refine q_k 1 ?_
  show q_W L (d + 2) 42 q_m42 Q 121 [some (.ref 3), some (.int (nI 6))] [] (172, M5, va_up B9 170 (fun _ => 0), q_up N5 9 5 (some 170)) 168 1501
  obtain ⟨A10, eA10⟩ : ∃ z, z = M5 := ⟨_, rfl⟩
  obtain ⟨B10, eB10⟩ : ∃ z, z = va_up B9 170 (fun _ => 0) := ⟨_, rfl⟩
  obtain ⟨C10, eC10⟩ : ∃ z, z = q_up N5 9 5 (some 170) := ⟨_, rfl⟩
  rw [← eA10, ← eB10, ← eC10]
  have T10 : q_b 172 A10 B10 C10 := q_b_li (p := 5) T9 (by decide) (fun x h1 h2 => ⟨by rw [eA10, gl5 x (by omega), va_up_ne _ _ (by omega)], by rw [eB10, va_up_ne _ _ (by omega)]⟩) (fun x h1 h2 => by rw [eC10, q_un h2, hl5 x (by omega), va_up_ne _ _ (by omega)]) (by rw [eC10, q_us, hl5 9 (by omega), va_up_ne _ _ (by omega)]) (by rw [eC10, q_un (by omega)]; exact il5) (by rw [eA10]; exact jl5)
  have HB10 : ∀ x, x < 3 → A10 x = I x := fun x hx => by rw [eA10, gl5 x (by omega), va_up_ne _ _ (by omega)]; exact HB9 x hx
  clear eA10 eB10 eC10
  show q_W L (d + 2) 42 q_m42 Q 121 [some (.ref 3), some (.int (nI 6))] [] (172, A10, B10, C10) 168 1501
  refine q_k 2 ?_
  show q_W L (d + 2) 42 q_m42 Q 124 [some (.ref 3), some (.int (nI 6))] [.int (nI 16), .int (nI 6)] (172, A10, B10, C10) 168 1501
  refine q_one rfl rfl ?_
  show ((nI 16) ≤ (nI 6) → q_W L (d + 2) 42 q_m42 Q 146 [some (.ref 3), some (.int (nI 6))] [] (172, A10, B10, C10) 168 1501) ∧ (¬ (nI 16) ≤ (nI 6) → q_W L (d + 2) 42 q_m42 Q 127 [some (.ref 3), some (.int (nI 6))] [] (172, A10, B10, C10) 168 1501)
  refine ⟨fun z => absurd z (by decide), fun _ => ?_⟩
  refine q_k 1 ?_
  show q_W L (d + 2) 42 q_m42 Q 128 [some (.ref 3), some (.int (nI 6))] [.ref 3] (172, A10, B10, C10) 168 1501
  refine q_gR (b := 9) rfl rfl (⟨by decide, rfl⟩) (by first | exact T10.r32 | (simp (disch := omega) only [q_un, va_up_ne]; exact T10.r32)) ?_
  refine q_k 1 ?_
  show q_W L (d + 2) 42 q_m42 Q 132 [some (.ref 3), some (.int (nI 6))] [.int (nI 6), .ref 9] (172, A10, B10, C10) 168 1501
  refine q_nw (n2 := 173) (uc2 := 169) (us2 := 1503) rfl rfl (rfl) rfl rfl rfl ⟨rfl, rfl⟩ ?_
  refine q_k 1 ?_
  show q_W L (d + 2) 42 q_m42 Q 136 [some (.ref 3), some (.int (nI 6))] [.ref 172, .ref 172, .int (nI 6), .ref 9] (173, va_up A10 172 (fun _ => 0), va_up B10 172 (fun _ => 0), va_up C10 172 (fun _ => none)) 169 1503
  refine q_ci1A (as := []) (rs := [.ref 172, .int (nI 6), .ref 9]) rfl rfl rfl rfl rfl ⟨by decide, by decide⟩ ?_
  refine c_ListInit (s := 172) rfl rfl (fun M6 N6 gl6 hl6 il6 jl6 => ?_)
  show q_W L (d + 2) 42 q_m42 Q 139 [some (.ref 3), some (.int (nI 6))] [.ref 172, .int (nI 6), .ref 9] (174, M6, va_up B10 172 (fun _ => 0), N6) 170 1506
  refine q_aas (m := 6) rfl (⟨by decide, by decide, rfl⟩) ⟨rfl, rfl⟩ (⟨by decide, rfl⟩) (by decide) rfl ?_
  refine q_k 1 ?_
  show q_W L (d + 2) 42 q_m42 Q 143 [some (.ref 3), some (.int ((nI 6) + nI 1))] [] (174, M6, va_up B10 172 (fun _ => 0), q_up N6 9 6 (some 172)) 170 1506
  rw [show (nI 6) + nI 1 = nI 7 from nI_add _ _]
  refine q_k 1 ?_
  show q_W L (d + 2) 42 q_m42 Q 121 [some (.ref 3), some (.int (nI 7))] [] (174, M6, va_up B10 172 (fun _ => 0), q_up N6 9 6 (some 172)) 170 1506
  obtain ⟨A11, eA11⟩ : ∃ z, z = M6 := ⟨_, rfl⟩
  obtain ⟨B11, eB11⟩ : ∃ z, z = va_up B10 172 (fun _ => 0) := ⟨_, rfl⟩
  obtain ⟨C11, eC11⟩ : ∃ z, z = q_up N6 9 6 (some 172) := ⟨_, rfl⟩
  rw [← eA11, ← eB11, ← eC11]
  have T11 : q_b 174 A11 B11 C11 := q_b_li (p := 6) T10 (by decide) (fun x h1 h2 => ⟨by rw [eA11, gl6 x (by omega), va_up_ne _ _ (by omega)], by rw [eB11, va_up_ne _ _ (by omega)]⟩) (fun x h1 h2 => by rw [eC11, q_un h2, hl6 x (by omega), va_up_ne _ _ (by omega)]) (by rw [eC11, q_us, hl6 9 (by omega), va_up_ne _ _ (by omega)]) (by rw [eC11, q_un (by omega)]; exact il6) (by rw [eA11]; exact jl6)
  have HB11 : ∀ x, x < 3 → A11 x = I x := fun x hx => by rw [eA11, gl6 x (by omega), va_up_ne _ _ (by omega)]; exact HB10 x hx
  clear eA11 eB11 eC11
  show q_W L (d + 2) 42 q_m42 Q 121 [some (.ref 3), some (.int (nI 7))] [] (174, A11, B11, C11) 170 1506
  refine q_k 2 ?_
  show q_W L (d + 2) 42 q_m42 Q 124 [some (.ref 3), some (.int (nI 7))] [.int (nI 16), .int (nI 7)] (174, A11, B11, C11) 170 1506
  refine q_one rfl rfl ?_
  show ((nI 16) ≤ (nI 7) → q_W L (d + 2) 42 q_m42 Q 146 [some (.ref 3), some (.int (nI 7))] [] (174, A11, B11, C11) 170 1506) ∧ (¬ (nI 16) ≤ (nI 7) → q_W L (d + 2) 42 q_m42 Q 127 [some (.ref 3), some (.int (nI 7))] [] (174, A11, B11, C11) 170 1506)
  refine ⟨fun z => absurd z (by decide), fun _ => ?_⟩
  refine q_k 1 ?_
  show q_W L (d + 2) 42 q_m42 Q 128 [some (.ref 3), some (.int (nI 7))] [.ref 3] (174, A11, B11, C11) 170 1506
  refine q_gR (b := 9) rfl rfl (⟨by decide, rfl⟩) (by first | exact T11.r32 | (simp (disch := omega) only [q_un, va_up_ne]; exact T11.r32)) ?_
  refine q_k 1 ?_
  show q_W L (d + 2) 42 q_m42 Q 132 [some (.ref 3), some (.int (nI 7))] [.int (nI 7), .ref 9] (174, A11, B11, C11) 170 1506
  refine q_nw (n2 := 175) (uc2 := 171) (us2 := 1508) rfl rfl (rfl) rfl rfl rfl ⟨rfl, rfl⟩ ?_
  refine q_k 1 ?_
  show q_W L (d + 2) 42 q_m42 Q 136 [some (.ref 3), some (.int (nI 7))] [.ref 174, .ref 174, .int (nI 7), .ref 9] (175, va_up A11 174 (fun _ => 0), va_up B11 174 (fun _ => 0), va_up C11 174 (fun _ => none)) 171 1508
  refine q_ci1A (as := []) (rs := [.ref 174, .int (nI 7), .ref 9]) rfl rfl rfl rfl rfl ⟨by decide, by decide⟩ ?_
  refine c_ListInit (s := 174) rfl rfl (fun M7 N7 gl7 hl7 il7 jl7 => ?_)
  show q_W L (d + 2) 42 q_m42 Q 139 [some (.ref 3), some (.int (nI 7))] [.ref 174, .int (nI 7), .ref 9] (176, M7, va_up B11 174 (fun _ => 0), N7) 172 1511
  refine q_aas (m := 7) rfl (⟨by decide, by decide, rfl⟩) ⟨rfl, rfl⟩ (⟨by decide, rfl⟩) (by decide) rfl ?_
  refine q_k 1 ?_
  show q_W L (d + 2) 42 q_m42 Q 143 [some (.ref 3), some (.int ((nI 7) + nI 1))] [] (176, M7, va_up B11 174 (fun _ => 0), q_up N7 9 7 (some 174)) 172 1511
  rw [show (nI 7) + nI 1 = nI 8 from nI_add _ _]
  refine q_k 1 ?_
  show q_W L (d + 2) 42 q_m42 Q 121 [some (.ref 3), some (.int (nI 8))] [] (176, M7, va_up B11 174 (fun _ => 0), q_up N7 9 7 (some 174)) 172 1511
  obtain ⟨A12, eA12⟩ : ∃ z, z = M7 := ⟨_, rfl⟩
  obtain ⟨B12, eB12⟩ : ∃ z, z = va_up B11 174 (fun _ => 0) := ⟨_, rfl⟩
  obtain ⟨C12, eC12⟩ : ∃ z, z = q_up N7 9 7 (some 174) := ⟨_, rfl⟩
  rw [← eA12, ← eB12, ← eC12]
  have T12 : q_b 176 A12 B12 C12 := q_b_li (p := 7) T11 (by decide) (fun x h1 h2 => ⟨by rw [eA12, gl7 x (by omega), va_up_ne _ _ (by omega)], by rw [eB12, va_up_ne _ _ (by omega)]⟩) (fun x h1 h2 => by rw [eC12, q_un h2, hl7 x (by omega), va_up_ne _ _ (by omega)]) (by rw [eC12, q_us, hl7 9 (by omega), va_up_ne _ _ (by omega)]) (by rw [eC12, q_un (by omega)]; exact il7) (by rw [eA12]; exact jl7)
  have HB12 : ∀ x, x < 3 → A12 x = I x := fun x hx => by rw [eA12, gl7 x (by omega), va_up_ne _ _ (by omega)]; exact HB11 x hx
  clear eA12 eB12 eC12
  show q_W L (d + 2) 42 q_m42 Q 121 [some (.ref 3), some (.int (nI 8))] [] (176, A12, B12, C12) 172 1511
  refine q_k 2 ?_
  show q_W L (d + 2) 42 q_m42 Q 124 [some (.ref 3), some (.int (nI 8))] [.int (nI 16), .int (nI 8)] (176, A12, B12, C12) 172 1511
  refine q_one rfl rfl ?_
  show ((nI 16) ≤ (nI 8) → q_W L (d + 2) 42 q_m42 Q 146 [some (.ref 3), some (.int (nI 8))] [] (176, A12, B12, C12) 172 1511) ∧ (¬ (nI 16) ≤ (nI 8) → q_W L (d + 2) 42 q_m42 Q 127 [some (.ref 3), some (.int (nI 8))] [] (176, A12, B12, C12) 172 1511)
  refine ⟨fun z => absurd z (by decide), fun _ => ?_⟩
  refine q_k 1 ?_
  show q_W L (d + 2) 42 q_m42 Q 128 [some (.ref 3), some (.int (nI 8))] [.ref 3] (176, A12, B12, C12) 172 1511
  refine q_gR (b := 9) rfl rfl (⟨by decide, rfl⟩) (by first | exact T12.r32 | (simp (disch := omega) only [q_un, va_up_ne]; exact T12.r32)) ?_
  refine q_k 1 ?_
  show q_W L (d + 2) 42 q_m42 Q 132 [some (.ref 3), some (.int (nI 8))] [.int (nI 8), .ref 9] (176, A12, B12, C12) 172 1511
  refine q_nw (n2 := 177) (uc2 := 173) (us2 := 1513) rfl rfl (rfl) rfl rfl rfl ⟨rfl, rfl⟩ ?_
  refine q_k 1 ?_
  show q_W L (d + 2) 42 q_m42 Q 136 [some (.ref 3), some (.int (nI 8))] [.ref 176, .ref 176, .int (nI 8), .ref 9] (177, va_up A12 176 (fun _ => 0), va_up B12 176 (fun _ => 0), va_up C12 176 (fun _ => none)) 173 1513
  refine q_ci1A (as := []) (rs := [.ref 176, .int (nI 8), .ref 9]) rfl rfl rfl rfl rfl ⟨by decide, by decide⟩ ?_
  refine c_ListInit (s := 176) rfl rfl (fun M8 N8 gl8 hl8 il8 jl8 => ?_)
  show q_W L (d + 2) 42 q_m42 Q 139 [some (.ref 3), some (.int (nI 8))] [.ref 176, .int (nI 8), .ref 9] (178, M8, va_up B12 176 (fun _ => 0), N8) 174 1516
  refine q_aas (m := 8) rfl (⟨by decide, by decide, rfl⟩) ⟨rfl, rfl⟩ (⟨by decide, rfl⟩) (by decide) rfl ?_
  refine q_k 1 ?_
  show q_W L (d + 2) 42 q_m42 Q 143 [some (.ref 3), some (.int ((nI 8) + nI 1))] [] (178, M8, va_up B12 176 (fun _ => 0), q_up N8 9 8 (some 176)) 174 1516
  rw [show (nI 8) + nI 1 = nI 9 from nI_add _ _]
  refine q_k 1 ?_
  show q_W L (d + 2) 42 q_m42 Q 121 [some (.ref 3), some (.int (nI 9))] [] (178, M8, va_up B12 176 (fun _ => 0), q_up N8 9 8 (some 176)) 174 1516
  obtain ⟨A13, eA13⟩ : ∃ z, z = M8 := ⟨_, rfl⟩
  obtain ⟨B13, eB13⟩ : ∃ z, z = va_up B12 176 (fun _ => 0) := ⟨_, rfl⟩
  obtain ⟨C13, eC13⟩ : ∃ z, z = q_up N8 9 8 (some 176) := ⟨_, rfl⟩
  rw [← eA13, ← eB13, ← eC13]
  have T13 : q_b 178 A13 B13 C13 := q_b_li (p := 8) T12 (by decide) (fun x h1 h2 => ⟨by rw [eA13, gl8 x (by omega), va_up_ne _ _ (by omega)], by rw [eB13, va_up_ne _ _ (by omega)]⟩) (fun x h1 h2 => by rw [eC13, q_un h2, hl8 x (by omega), va_up_ne _ _ (by omega)]) (by rw [eC13, q_us, hl8 9 (by omega), va_up_ne _ _ (by omega)]) (by rw [eC13, q_un (by omega)]; exact il8) (by rw [eA13]; exact jl8)
  have HB13 : ∀ x, x < 3 → A13 x = I x := fun x hx => by rw [eA13, gl8 x (by omega), va_up_ne _ _ (by omega)]; exact HB12 x hx
  clear eA13 eB13 eC13
  show q_W L (d + 2) 42 q_m42 Q 121 [some (.ref 3), some (.int (nI 9))] [] (178, A13, B13, C13) 174 1516
  refine q_k 2 ?_
  show q_W L (d + 2) 42 q_m42 Q 124 [some (.ref 3), some (.int (nI 9))] [.int (nI 16), .int (nI 9)] (178, A13, B13, C13) 174 1516
  refine q_one rfl rfl ?_
  show ((nI 16) ≤ (nI 9) → q_W L (d + 2) 42 q_m42 Q 146 [some (.ref 3), some (.int (nI 9))] [] (178, A13, B13, C13) 174 1516) ∧ (¬ (nI 16) ≤ (nI 9) → q_W L (d + 2) 42 q_m42 Q 127 [some (.ref 3), some (.int (nI 9))] [] (178, A13, B13, C13) 174 1516)
  refine ⟨fun z => absurd z (by decide), fun _ => ?_⟩
  refine q_k 1 ?_
  show q_W L (d + 2) 42 q_m42 Q 128 [some (.ref 3), some (.int (nI 9))] [.ref 3] (178, A13, B13, C13) 174 1516
  refine q_gR (b := 9) rfl rfl (⟨by decide, rfl⟩) (by first | exact T13.r32 | (simp (disch := omega) only [q_un, va_up_ne]; exact T13.r32)) ?_
  refine q_k 1 ?_
  show q_W L (d + 2) 42 q_m42 Q 132 [some (.ref 3), some (.int (nI 9))] [.int (nI 9), .ref 9] (178, A13, B13, C13) 174 1516
  refine q_nw (n2 := 179) (uc2 := 175) (us2 := 1518) rfl rfl (rfl) rfl rfl rfl ⟨rfl, rfl⟩ ?_
  refine q_k 1 ?_
  show q_W L (d + 2) 42 q_m42 Q 136 [some (.ref 3), some (.int (nI 9))] [.ref 178, .ref 178, .int (nI 9), .ref 9] (179, va_up A13 178 (fun _ => 0), va_up B13 178 (fun _ => 0), va_up C13 178 (fun _ => none)) 175 1518
  refine q_ci1A (as := []) (rs := [.ref 178, .int (nI 9), .ref 9]) rfl rfl rfl rfl rfl ⟨by decide, by decide⟩ ?_
  refine c_ListInit (s := 178) rfl rfl (fun M9 N9 gl9 hl9 il9 jl9 => ?_)
  show q_W L (d + 2) 42 q_m42 Q 139 [some (.ref 3), some (.int (nI 9))] [.ref 178, .int (nI 9), .ref 9] (180, M9, va_up B13 178 (fun _ => 0), N9) 176 1521
  refine q_aas (m := 9) rfl (⟨by decide, by decide, rfl⟩) ⟨rfl, rfl⟩ (⟨by decide, rfl⟩) (by decide) rfl ?_
  refine q_k 1 ?_
  show q_W L (d + 2) 42 q_m42 Q 143 [some (.ref 3), some (.int ((nI 9) + nI 1))] [] (180, M9, va_up B13 178 (fun _ => 0), q_up N9 9 9 (some 178)) 176 1521
  rw [show (nI 9) + nI 1 = nI 10 from nI_add _ _]
  refine q_k 1 ?_
  show q_W L (d + 2) 42 q_m42 Q 121 [some (.ref 3), some (.int (nI 10))] [] (180, M9, va_up B13 178 (fun _ => 0), q_up N9 9 9 (some 178)) 176 1521
  obtain ⟨A14, eA14⟩ : ∃ z, z = M9 := ⟨_, rfl⟩
  obtain ⟨B14, eB14⟩ : ∃ z, z = va_up B13 178 (fun _ => 0) := ⟨_, rfl⟩
  obtain ⟨C14, eC14⟩ : ∃ z, z = q_up N9 9 9 (some 178) := ⟨_, rfl⟩
  rw [← eA14, ← eB14, ← eC14]
  have T14 : q_b 180 A14 B14 C14 := q_b_li (p := 9) T13 (by decide) (fun x h1 h2 => ⟨by rw [eA14, gl9 x (by omega), va_up_ne _ _ (by omega)], by rw [eB14, va_up_ne _ _ (by omega)]⟩) (fun x h1 h2 => by rw [eC14, q_un h2, hl9 x (by omega), va_up_ne _ _ (by omega)]) (by rw [eC14, q_us, hl9 9 (by omega), va_up_ne _ _ (by omega)]) (by rw [eC14, q_un (by omega)]; exact il9) (by rw [eA14]; exact jl9)
  have HB14 : ∀ x, x < 3 → A14 x = I x := fun x hx => by rw [eA14, gl9 x (by omega), va_up_ne _ _ (by omega)]; exact HB13 x hx
  clear eA14 eB14 eC14
  show q_W L (d + 2) 42 q_m42 Q 121 [some (.ref 3), some (.int (nI 10))] [] (180, A14, B14, C14) 176 1521
  refine q_k 2 ?_
  show q_W L (d + 2) 42 q_m42 Q 124 [some (.ref 3), some (.int (nI 10))] [.int (nI 16), .int (nI 10)] (180, A14, B14, C14) 176 1521
  refine q_one rfl rfl ?_
  show ((nI 16) ≤ (nI 10) → q_W L (d + 2) 42 q_m42 Q 146 [some (.ref 3), some (.int (nI 10))] [] (180, A14, B14, C14) 176 1521) ∧ (¬ (nI 16) ≤ (nI 10) → q_W L (d + 2) 42 q_m42 Q 127 [some (.ref 3), some (.int (nI 10))] [] (180, A14, B14, C14) 176 1521)
  refine ⟨fun z => absurd z (by decide), fun _ => ?_⟩
  refine q_k 1 ?_
  show q_W L (d + 2) 42 q_m42 Q 128 [some (.ref 3), some (.int (nI 10))] [.ref 3] (180, A14, B14, C14) 176 1521
  refine q_gR (b := 9) rfl rfl (⟨by decide, rfl⟩) (by first | exact T14.r32 | (simp (disch := omega) only [q_un, va_up_ne]; exact T14.r32)) ?_
  refine q_k 1 ?_
  show q_W L (d + 2) 42 q_m42 Q 132 [some (.ref 3), some (.int (nI 10))] [.int (nI 10), .ref 9] (180, A14, B14, C14) 176 1521
  refine q_nw (n2 := 181) (uc2 := 177) (us2 := 1523) rfl rfl (rfl) rfl rfl rfl ⟨rfl, rfl⟩ ?_
  refine q_k 1 ?_
  show q_W L (d + 2) 42 q_m42 Q 136 [some (.ref 3), some (.int (nI 10))] [.ref 180, .ref 180, .int (nI 10), .ref 9] (181, va_up A14 180 (fun _ => 0), va_up B14 180 (fun _ => 0), va_up C14 180 (fun _ => none)) 177 1523
  refine q_ci1A (as := []) (rs := [.ref 180, .int (nI 10), .ref 9]) rfl rfl rfl rfl rfl ⟨by decide, by decide⟩ ?_
  refine c_ListInit (s := 180) rfl rfl (fun M10 N10 gl10 hl10 il10 jl10 => ?_)
  show q_W L (d + 2) 42 q_m42 Q 139 [some (.ref 3), some (.int (nI 10))] [.ref 180, .int (nI 10), .ref 9] (182, M10, va_up B14 180 (fun _ => 0), N10) 178 1526
  refine q_aas (m := 10) rfl (⟨by decide, by decide, rfl⟩) ⟨rfl, rfl⟩ (⟨by decide, rfl⟩) (by decide) rfl ?_
  refine q_k 1 ?_
  show q_W L (d + 2) 42 q_m42 Q 143 [some (.ref 3), some (.int ((nI 10) + nI 1))] [] (182, M10, va_up B14 180 (fun _ => 0), q_up N10 9 10 (some 180)) 178 1526
  rw [show (nI 10) + nI 1 = nI 11 from nI_add _ _]
  refine q_k 1 ?_
  show q_W L (d + 2) 42 q_m42 Q 121 [some (.ref 3), some (.int (nI 11))] [] (182, M10, va_up B14 180 (fun _ => 0), q_up N10 9 10 (some 180)) 178 1526
  obtain ⟨A15, eA15⟩ : ∃ z, z = M10 := ⟨_, rfl⟩
  obtain ⟨B15, eB15⟩ : ∃ z, z = va_up B14 180 (fun _ => 0) := ⟨_, rfl⟩
  obtain ⟨C15, eC15⟩ : ∃ z, z = q_up N10 9 10 (some 180) := ⟨_, rfl⟩
  rw [← eA15, ← eB15, ← eC15]
  have T15 : q_b 182 A15 B15 C15 := q_b_li (p := 10) T14 (by decide) (fun x h1 h2 => ⟨by rw [eA15, gl10 x (by omega), va_up_ne _ _ (by omega)], by rw [eB15, va_up_ne _ _ (by omega)]⟩) (fun x h1 h2 => by rw [eC15, q_un h2, hl10 x (by omega), va_up_ne _ _ (by omega)]) (by rw [eC15, q_us, hl10 9 (by omega), va_up_ne _ _ (by omega)]) (by rw [eC15, q_un (by omega)]; exact il10) (by rw [eA15]; exact jl10)
  have HB15 : ∀ x, x < 3 → A15 x = I x := fun x hx => by rw [eA15, gl10 x (by omega), va_up_ne _ _ (by omega)]; exact HB14 x hx
  clear eA15 eB15 eC15
  show q_W L (d + 2) 42 q_m42 Q 121 [some (.ref 3), some (.int (nI 11))] [] (182, A15, B15, C15) 178 1526
  refine q_k 2 ?_
  show q_W L (d + 2) 42 q_m42 Q 124 [some (.ref 3), some (.int (nI 11))] [.int (nI 16), .int (nI 11)] (182, A15, B15, C15) 178 1526
  refine q_one rfl rfl ?_
  show ((nI 16) ≤ (nI 11) → q_W L (d + 2) 42 q_m42 Q 146 [some (.ref 3), some (.int (nI 11))] [] (182, A15, B15, C15) 178 1526) ∧ (¬ (nI 16) ≤ (nI 11) → q_W L (d + 2) 42 q_m42 Q 127 [some (.ref 3), some (.int (nI 11))] [] (182, A15, B15, C15) 178 1526)
  refine ⟨fun z => absurd z (by decide), fun _ => ?_⟩
  refine q_k 1 ?_
  show q_W L (d + 2) 42 q_m42 Q 128 [some (.ref 3), some (.int (nI 11))] [.ref 3] (182, A15, B15, C15) 178 1526
  refine q_gR (b := 9) rfl rfl (⟨by decide, rfl⟩) (by first | exact T15.r32 | (simp (disch := omega) only [q_un, va_up_ne]; exact T15.r32)) ?_
  refine q_k 1 ?_
  show q_W L (d + 2) 42 q_m42 Q 132 [some (.ref 3), some (.int (nI 11))] [.int (nI 11), .ref 9] (182, A15, B15, C15) 178 1526
  refine q_nw (n2 := 183) (uc2 := 179) (us2 := 1528) rfl rfl (rfl) rfl rfl rfl ⟨rfl, rfl⟩ ?_
  refine q_k 1 ?_
  show q_W L (d + 2) 42 q_m42 Q 136 [some (.ref 3), some (.int (nI 11))] [.ref 182, .ref 182, .int (nI 11), .ref 9] (183, va_up A15 182 (fun _ => 0), va_up B15 182 (fun _ => 0), va_up C15 182 (fun _ => none)) 179 1528
  refine q_ci1A (as := []) (rs := [.ref 182, .int (nI 11), .ref 9]) rfl rfl rfl rfl rfl ⟨by decide, by decide⟩ ?_
  refine c_ListInit (s := 182) rfl rfl (fun M11 N11 gl11 hl11 il11 jl11 => ?_)
  show q_W L (d + 2) 42 q_m42 Q 139 [some (.ref 3), some (.int (nI 11))] [.ref 182, .int (nI 11), .ref 9] (184, M11, va_up B15 182 (fun _ => 0), N11) 180 1531
  refine q_aas (m := 11) rfl (⟨by decide, by decide, rfl⟩) ⟨rfl, rfl⟩ (⟨by decide, rfl⟩) (by decide) rfl ?_
  refine q_k 1 ?_
  show q_W L (d + 2) 42 q_m42 Q 143 [some (.ref 3), some (.int ((nI 11) + nI 1))] [] (184, M11, va_up B15 182 (fun _ => 0), q_up N11 9 11 (some 182)) 180 1531
  rw [show (nI 11) + nI 1 = nI 12 from nI_add _ _]
  refine q_k 1 ?_
  show q_W L (d + 2) 42 q_m42 Q 121 [some (.ref 3), some (.int (nI 12))] [] (184, M11, va_up B15 182 (fun _ => 0), q_up N11 9 11 (some 182)) 180 1531
  obtain ⟨A16, eA16⟩ : ∃ z, z = M11 := ⟨_, rfl⟩
  obtain ⟨B16, eB16⟩ : ∃ z, z = va_up B15 182 (fun _ => 0) := ⟨_, rfl⟩
  obtain ⟨C16, eC16⟩ : ∃ z, z = q_up N11 9 11 (some 182) := ⟨_, rfl⟩
  rw [← eA16, ← eB16, ← eC16]
  have T16 : q_b 184 A16 B16 C16 := q_b_li (p := 11) T15 (by decide) (fun x h1 h2 => ⟨by rw [eA16, gl11 x (by omega), va_up_ne _ _ (by omega)], by rw [eB16, va_up_ne _ _ (by omega)]⟩) (fun x h1 h2 => by rw [eC16, q_un h2, hl11 x (by omega), va_up_ne _ _ (by omega)]) (by rw [eC16, q_us, hl11 9 (by omega), va_up_ne _ _ (by omega)]) (by rw [eC16, q_un (by omega)]; exact il11) (by rw [eA16]; exact jl11)
  have HB16 : ∀ x, x < 3 → A16 x = I x := fun x hx => by rw [eA16, gl11 x (by omega), va_up_ne _ _ (by omega)]; exact HB15 x hx
  clear eA16 eB16 eC16
  show q_W L (d + 2) 42 q_m42 Q 121 [some (.ref 3), some (.int (nI 12))] [] (184, A16, B16, C16) 180 1531
  refine q_k 2 ?_
  show q_W L (d + 2) 42 q_m42 Q 124 [some (.ref 3), some (.int (nI 12))] [.int (nI 16), .int (nI 12)] (184, A16, B16, C16) 180 1531
  refine q_one rfl rfl ?_
  show ((nI 16) ≤ (nI 12) → q_W L (d + 2) 42 q_m42 Q 146 [some (.ref 3), some (.int (nI 12))] [] (184, A16, B16, C16) 180 1531) ∧ (¬ (nI 16) ≤ (nI 12) → q_W L (d + 2) 42 q_m42 Q 127 [some (.ref 3), some (.int (nI 12))] [] (184, A16, B16, C16) 180 1531)
  refine ⟨fun z => absurd z (by decide), fun _ => ?_⟩
  refine q_k 1 ?_
  show q_W L (d + 2) 42 q_m42 Q 128 [some (.ref 3), some (.int (nI 12))] [.ref 3] (184, A16, B16, C16) 180 1531
  refine q_gR (b := 9) rfl rfl (⟨by decide, rfl⟩) (by first | exact T16.r32 | (simp (disch := omega) only [q_un, va_up_ne]; exact T16.r32)) ?_
  refine q_k 1 ?_
  show q_W L (d + 2) 42 q_m42 Q 132 [some (.ref 3), some (.int (nI 12))] [.int (nI 12), .ref 9] (184, A16, B16, C16) 180 1531
  refine q_nw (n2 := 185) (uc2 := 181) (us2 := 1533) rfl rfl (rfl) rfl rfl rfl ⟨rfl, rfl⟩ ?_
  refine q_k 1 ?_
  show q_W L (d + 2) 42 q_m42 Q 136 [some (.ref 3), some (.int (nI 12))] [.ref 184, .ref 184, .int (nI 12), .ref 9] (185, va_up A16 184 (fun _ => 0), va_up B16 184 (fun _ => 0), va_up C16 184 (fun _ => none)) 181 1533
  refine q_ci1A (as := []) (rs := [.ref 184, .int (nI 12), .ref 9]) rfl rfl rfl rfl rfl ⟨by decide, by decide⟩ ?_
  refine c_ListInit (s := 184) rfl rfl (fun M12 N12 gl12 hl12 il12 jl12 => ?_)
  show q_W L (d + 2) 42 q_m42 Q 139 [some (.ref 3), some (.int (nI 12))] [.ref 184, .int (nI 12), .ref 9] (186, M12, va_up B16 184 (fun _ => 0), N12) 182 1536
  refine q_aas (m := 12) rfl (⟨by decide, by decide, rfl⟩) ⟨rfl, rfl⟩ (⟨by decide, rfl⟩) (by decide) rfl ?_
  refine q_k 1 ?_
  show q_W L (d + 2) 42 q_m42 Q 143 [some (.ref 3), some (.int ((nI 12) + nI 1))] [] (186, M12, va_up B16 184 (fun _ => 0), q_up N12 9 12 (some 184)) 182 1536
  rw [show (nI 12) + nI 1 = nI 13 from nI_add _ _]
  refine q_k 1 ?_
  show q_W L (d + 2) 42 q_m42 Q 121 [some (.ref 3), some (.int (nI 13))] [] (186, M12, va_up B16 184 (fun _ => 0), q_up N12 9 12 (some 184)) 182 1536
  obtain ⟨A17, eA17⟩ : ∃ z, z = M12 := ⟨_, rfl⟩
  obtain ⟨B17, eB17⟩ : ∃ z, z = va_up B16 184 (fun _ => 0) := ⟨_, rfl⟩
  obtain ⟨C17, eC17⟩ : ∃ z, z = q_up N12 9 12 (some 184) := ⟨_, rfl⟩
  rw [← eA17, ← eB17, ← eC17]
  have T17 : q_b 186 A17 B17 C17 := q_b_li (p := 12) T16 (by decide) (fun x h1 h2 => ⟨by rw [eA17, gl12 x (by omega), va_up_ne _ _ (by omega)], by rw [eB17, va_up_ne _ _ (by omega)]⟩) (fun x h1 h2 => by rw [eC17, q_un h2, hl12 x (by omega), va_up_ne _ _ (by omega)]) (by rw [eC17, q_us, hl12 9 (by omega), va_up_ne _ _ (by omega)]) (by rw [eC17, q_un (by omega)]; exact il12) (by rw [eA17]; exact jl12)
  have HB17 : ∀ x, x < 3 → A17 x = I x := fun x hx => by rw [eA17, gl12 x (by omega), va_up_ne _ _ (by omega)]; exact HB16 x hx
  clear eA17 eB17 eC17
  show q_W L (d + 2) 42 q_m42 Q 121 [some (.ref 3), some (.int (nI 13))] [] (186, A17, B17, C17) 182 1536
  refine q_k 2 ?_
  show q_W L (d + 2) 42 q_m42 Q 124 [some (.ref 3), some (.int (nI 13))] [.int (nI 16), .int (nI 13)] (186, A17, B17, C17) 182 1536
  refine q_one rfl rfl ?_
  show ((nI 16) ≤ (nI 13) → q_W L (d + 2) 42 q_m42 Q 146 [some (.ref 3), some (.int (nI 13))] [] (186, A17, B17, C17) 182 1536) ∧ (¬ (nI 16) ≤ (nI 13) → q_W L (d + 2) 42 q_m42 Q 127 [some (.ref 3), some (.int (nI 13))] [] (186, A17, B17, C17) 182 1536)
  refine ⟨fun z => absurd z (by decide), fun _ => ?_⟩
  refine q_k 1 ?_
  show q_W L (d + 2) 42 q_m42 Q 128 [some (.ref 3), some (.int (nI 13))] [.ref 3] (186, A17, B17, C17) 182 1536
  refine q_gR (b := 9) rfl rfl (⟨by decide, rfl⟩) (by first | exact T17.r32 | (simp (disch := omega) only [q_un, va_up_ne]; exact T17.r32)) ?_
  refine q_k 1 ?_
  show q_W L (d + 2) 42 q_m42 Q 132 [some (.ref 3), some (.int (nI 13))] [.int (nI 13), .ref 9] (186, A17, B17, C17) 182 1536
  refine q_nw (n2 := 187) (uc2 := 183) (us2 := 1538) rfl rfl (rfl) rfl rfl rfl ⟨rfl, rfl⟩ ?_
  refine q_k 1 ?_
  show q_W L (d + 2) 42 q_m42 Q 136 [some (.ref 3), some (.int (nI 13))] [.ref 186, .ref 186, .int (nI 13), .ref 9] (187, va_up A17 186 (fun _ => 0), va_up B17 186 (fun _ => 0), va_up C17 186 (fun _ => none)) 183 1538
  refine q_ci1A (as := []) (rs := [.ref 186, .int (nI 13), .ref 9]) rfl rfl rfl rfl rfl ⟨by decide, by decide⟩ ?_
  refine c_ListInit (s := 186) rfl rfl (fun M13 N13 gl13 hl13 il13 jl13 => ?_)
  show q_W L (d + 2) 42 q_m42 Q 139 [some (.ref 3), some (.int (nI 13))] [.ref 186, .int (nI 13), .ref 9] (188, M13, va_up B17 186 (fun _ => 0), N13) 184 1541
  refine q_aas (m := 13) rfl (⟨by decide, by decide, rfl⟩) ⟨rfl, rfl⟩ (⟨by decide, rfl⟩) (by decide) rfl ?_
  refine q_k 1 ?_
  show q_W L (d + 2) 42 q_m42 Q 143 [some (.ref 3), some (.int ((nI 13) + nI 1))] [] (188, M13, va_up B17 186 (fun _ => 0), q_up N13 9 13 (some 186)) 184 1541
  rw [show (nI 13) + nI 1 = nI 14 from nI_add _ _]
  refine q_k 1 ?_
  show q_W L (d + 2) 42 q_m42 Q 121 [some (.ref 3), some (.int (nI 14))] [] (188, M13, va_up B17 186 (fun _ => 0), q_up N13 9 13 (some 186)) 184 1541
  obtain ⟨A18, eA18⟩ : ∃ z, z = M13 := ⟨_, rfl⟩
  obtain ⟨B18, eB18⟩ : ∃ z, z = va_up B17 186 (fun _ => 0) := ⟨_, rfl⟩
  obtain ⟨C18, eC18⟩ : ∃ z, z = q_up N13 9 13 (some 186) := ⟨_, rfl⟩
  rw [← eA18, ← eB18, ← eC18]
  have T18 : q_b 188 A18 B18 C18 := q_b_li (p := 13) T17 (by decide) (fun x h1 h2 => ⟨by rw [eA18, gl13 x (by omega), va_up_ne _ _ (by omega)], by rw [eB18, va_up_ne _ _ (by omega)]⟩) (fun x h1 h2 => by rw [eC18, q_un h2, hl13 x (by omega), va_up_ne _ _ (by omega)]) (by rw [eC18, q_us, hl13 9 (by omega), va_up_ne _ _ (by omega)]) (by rw [eC18, q_un (by omega)]; exact il13) (by rw [eA18]; exact jl13)
  have HB18 : ∀ x, x < 3 → A18 x = I x := fun x hx => by rw [eA18, gl13 x (by omega), va_up_ne _ _ (by omega)]; exact HB17 x hx
  clear eA18 eB18 eC18
  show q_W L (d + 2) 42 q_m42 Q 121 [some (.ref 3), some (.int (nI 14))] [] (188, A18, B18, C18) 184 1541
  refine q_k 2 ?_
  show q_W L (d + 2) 42 q_m42 Q 124 [some (.ref 3), some (.int (nI 14))] [.int (nI 16), .int (nI 14)] (188, A18, B18, C18) 184 1541
  refine q_one rfl rfl ?_
  show ((nI 16) ≤ (nI 14) → q_W L (d + 2) 42 q_m42 Q 146 [some (.ref 3), some (.int (nI 14))] [] (188, A18, B18, C18) 184 1541) ∧ (¬ (nI 16) ≤ (nI 14) → q_W L (d + 2) 42 q_m42 Q 127 [some (.ref 3), some (.int (nI 14))] [] (188, A18, B18, C18) 184 1541)
  refine ⟨fun z => absurd z (by decide), fun _ => ?_⟩
  refine q_k 1 ?_
  show q_W L (d + 2) 42 q_m42 Q 128 [some (.ref 3), some (.int (nI 14))] [.ref 3] (188, A18, B18, C18) 184 1541
  refine q_gR (b := 9) rfl rfl (⟨by decide, rfl⟩) (by first | exact T18.r32 | (simp (disch := omega) only [q_un, va_up_ne]; exact T18.r32)) ?_
  refine q_k 1 ?_
  show q_W L (d + 2) 42 q_m42 Q 132 [some (.ref 3), some (.int (nI 14))] [.int (nI 14), .ref 9] (188, A18, B18, C18) 184 1541
  refine q_nw (n2 := 189) (uc2 := 185) (us2 := 1543) rfl rfl (rfl) rfl rfl rfl ⟨rfl, rfl⟩ ?_
  refine q_k 1 ?_
  show q_W L (d + 2) 42 q_m42 Q 136 [some (.ref 3), some (.int (nI 14))] [.ref 188, .ref 188, .int (nI 14), .ref 9] (189, va_up A18 188 (fun _ => 0), va_up B18 188 (fun _ => 0), va_up C18 188 (fun _ => none)) 185 1543
  refine q_ci1A (as := []) (rs := [.ref 188, .int (nI 14), .ref 9]) rfl rfl rfl rfl rfl ⟨by decide, by decide⟩ ?_
  refine c_ListInit (s := 188) rfl rfl (fun M14 N14 gl14 hl14 il14 jl14 => ?_)
  show q_W L (d + 2) 42 q_m42 Q 139 [some (.ref 3), some (.int (nI 14))] [.ref 188, .int (nI 14), .ref 9] (190, M14, va_up B18 188 (fun _ => 0), N14) 186 1546
  refine q_aas (m := 14) rfl (⟨by decide, by decide, rfl⟩) ⟨rfl, rfl⟩ (⟨by decide, rfl⟩) (by decide) rfl ?_
  refine q_k 1 ?_
  show q_W L (d + 2) 42 q_m42 Q 143 [some (.ref 3), some (.int ((nI 14) + nI 1))] [] (190, M14, va_up B18 188 (fun _ => 0), q_up N14 9 14 (some 188)) 186 1546
  rw [show (nI 14) + nI 1 = nI 15 from nI_add _ _]
  refine q_k 1 ?_
  show q_W L (d + 2) 42 q_m42 Q 121 [some (.ref 3), some (.int (nI 15))] [] (190, M14, va_up B18 188 (fun _ => 0), q_up N14 9 14 (some 188)) 186 1546
  obtain ⟨A19, eA19⟩ : ∃ z, z = M14 := ⟨_, rfl⟩
  obtain ⟨B19, eB19⟩ : ∃ z, z = va_up B18 188 (fun _ => 0) := ⟨_, rfl⟩
  obtain ⟨C19, eC19⟩ : ∃ z, z = q_up N14 9 14 (some 188) := ⟨_, rfl⟩
  rw [← eA19, ← eB19, ← eC19]
  have T19 : q_b 190 A19 B19 C19 := q_b_li (p := 14) T18 (by decide) (fun x h1 h2 => ⟨by rw [eA19, gl14 x (by omega), va_up_ne _ _ (by omega)], by rw [eB19, va_up_ne _ _ (by omega)]⟩) (fun x h1 h2 => by rw [eC19, q_un h2, hl14 x (by omega), va_up_ne _ _ (by omega)]) (by rw [eC19, q_us, hl14 9 (by omega), va_up_ne _ _ (by omega)]) (by rw [eC19, q_un (by omega)]; exact il14) (by rw [eA19]; exact jl14)
  have HB19 : ∀ x, x < 3 → A19 x = I x := fun x hx => by rw [eA19, gl14 x (by omega), va_up_ne _ _ (by omega)]; exact HB18 x hx
  clear eA19 eB19 eC19
  show q_W L (d + 2) 42 q_m42 Q 121 [some (.ref 3), some (.int (nI 15))] [] (190, A19, B19, C19) 186 1546
  refine q_k 2 ?_
  show q_W L (d + 2) 42 q_m42 Q 124 [some (.ref 3), some (.int (nI 15))] [.int (nI 16), .int (nI 15)] (190, A19, B19, C19) 186 1546
  refine q_one rfl rfl ?_
  show ((nI 16) ≤ (nI 15) → q_W L (d + 2) 42 q_m42 Q 146 [some (.ref 3), some (.int (nI 15))] [] (190, A19, B19, C19) 186 1546) ∧ (¬ (nI 16) ≤ (nI 15) → q_W L (d + 2) 42 q_m42 Q 127 [some (.ref 3), some (.int (nI 15))] [] (190, A19, B19, C19) 186 1546)
  refine ⟨fun z => absurd z (by decide), fun _ => ?_⟩
  refine q_k 1 ?_
  show q_W L (d + 2) 42 q_m42 Q 128 [some (.ref 3), some (.int (nI 15))] [.ref 3] (190, A19, B19, C19) 186 1546
  refine q_gR (b := 9) rfl rfl (⟨by decide, rfl⟩) (by first | exact T19.r32 | (simp (disch := omega) only [q_un, va_up_ne]; exact T19.r32)) ?_
  refine q_k 1 ?_
  show q_W L (d + 2) 42 q_m42 Q 132 [some (.ref 3), some (.int (nI 15))] [.int (nI 15), .ref 9] (190, A19, B19, C19) 186 1546
  refine q_nw (n2 := 191) (uc2 := 187) (us2 := 1548) rfl rfl (rfl) rfl rfl rfl ⟨rfl, rfl⟩ ?_
  refine q_k 1 ?_
  show q_W L (d + 2) 42 q_m42 Q 136 [some (.ref 3), some (.int (nI 15))] [.ref 190, .ref 190, .int (nI 15), .ref 9] (191, va_up A19 190 (fun _ => 0), va_up B19 190 (fun _ => 0), va_up C19 190 (fun _ => none)) 187 1548
  refine q_ci1A (as := []) (rs := [.ref 190, .int (nI 15), .ref 9]) rfl rfl rfl rfl rfl ⟨by decide, by decide⟩ ?_
  refine c_ListInit (s := 190) rfl rfl (fun M15 N15 gl15 hl15 il15 jl15 => ?_)
  show q_W L (d + 2) 42 q_m42 Q 139 [some (.ref 3), some (.int (nI 15))] [.ref 190, .int (nI 15), .ref 9] (192, M15, va_up B19 190 (fun _ => 0), N15) 188 1551
  refine q_aas (m := 15) rfl (⟨by decide, by decide, rfl⟩) ⟨rfl, rfl⟩ (⟨by decide, rfl⟩) (by decide) rfl ?_
  refine q_k 1 ?_
  show q_W L (d + 2) 42 q_m42 Q 143 [some (.ref 3), some (.int ((nI 15) + nI 1))] [] (192, M15, va_up B19 190 (fun _ => 0), q_up N15 9 15 (some 190)) 188 1551
  rw [show (nI 15) + nI 1 = nI 16 from nI_add _ _]
  refine q_k 1 ?_
  show q_W L (d + 2) 42 q_m42 Q 121 [some (.ref 3), some (.int (nI 16))] [] (192, M15, va_up B19 190 (fun _ => 0), q_up N15 9 15 (some 190)) 188 1551
  obtain ⟨A20, eA20⟩ : ∃ z, z = M15 := ⟨_, rfl⟩
  obtain ⟨B20, eB20⟩ : ∃ z, z = va_up B19 190 (fun _ => 0) := ⟨_, rfl⟩
  obtain ⟨C20, eC20⟩ : ∃ z, z = q_up N15 9 15 (some 190) := ⟨_, rfl⟩
  rw [← eA20, ← eB20, ← eC20]
  have T20 : q_b 192 A20 B20 C20 := q_b_li (p := 15) T19 (by decide) (fun x h1 h2 => ⟨by rw [eA20, gl15 x (by omega), va_up_ne _ _ (by omega)], by rw [eB20, va_up_ne _ _ (by omega)]⟩) (fun x h1 h2 => by rw [eC20, q_un h2, hl15 x (by omega), va_up_ne _ _ (by omega)]) (by rw [eC20, q_us, hl15 9 (by omega), va_up_ne _ _ (by omega)]) (by rw [eC20, q_un (by omega)]; exact il15) (by rw [eA20]; exact jl15)
  have HB20 : ∀ x, x < 3 → A20 x = I x := fun x hx => by rw [eA20, gl15 x (by omega), va_up_ne _ _ (by omega)]; exact HB19 x hx
  clear eA20 eB20 eC20
  show q_W L (d + 2) 42 q_m42 Q 121 [some (.ref 3), some (.int (nI 16))] [] (192, A20, B20, C20) 188 1551
  refine q_k 2 ?_
  show q_W L (d + 2) 42 q_m42 Q 124 [some (.ref 3), some (.int (nI 16))] [.int (nI 16), .int (nI 16)] (192, A20, B20, C20) 188 1551
  refine q_one rfl rfl ?_
  show ((nI 16) ≤ (nI 16) → q_W L (d + 2) 42 q_m42 Q 146 [some (.ref 3), some (.int (nI 16))] [] (192, A20, B20, C20) 188 1551) ∧ (¬ (nI 16) ≤ (nI 16) → q_W L (d + 2) 42 q_m42 Q 127 [some (.ref 3), some (.int (nI 16))] [] (192, A20, B20, C20) 188 1551)
  refine ⟨fun _ => ?_, fun z => absurd (by decide) z⟩
  refine q_one rfl rfl ?_
  show Q (none) (192, A20, B20, C20)
  exact hQ A20 B20 C20 T20 HB20
set_option maxHeartbeats 4000000 in
theorem c_MoInit {L d : Nat} {I : q_I} {J : q_L} {R : q_R} {Q : q_Q} (hQ : ∀ I' J' R', (∀ x, x < 193 → I' x = I x ∧ J' x = J x) → (∀ x, x < 192 → R' x = R x) → (∀ k, k < 16 → R' 192 k = some (193 + k)) → (∀ k, 18 ≤ k → k < 23 → R' 192 k = some (191 + k)) → (∀ x, 193 ≤ x → x < 214 → ∀ j, I' x j = 0) → (∀ j, J' 208 j = 0) → Q none (214, I', J', R')) : q_Ex L (d + 1) 78 [.ref 192] (193, I, J, R) Q := by
  refine q_in (x := q_m78) rfl rfl ?_
  show q_W L d 78 q_m78 Q 0 [some (.ref 192)] [] (193, I, J, R) 0 0
  refine q_k 1 ?_
  show q_W L d 78 q_m78 Q 1 [some (.ref 192)] [.ref 192] (193, I, J, R) 0 0
  refine q_oi rfl rfl rfl ?_
  refine q_k 2 ?_
  show q_W L d 78 q_m78 Q 6 [some (.ref 192)] [.int (nI 4), .ref 192] (193, I, J, R) 0 0
  refine q_na (N := 4) (n2 := 194) (uc2 := 1) (us2 := 4) rfl rfl (rfl) rfl rfl rfl rfl ⟨rfl, rfl⟩ ?_
  refine q_pR rfl rfl rfl (⟨by decide, rfl⟩) ?_
  refine q_k 2 ?_
  show q_W L d 78 q_m78 Q 13 [some (.ref 192)] [.int (nI 4), .ref 192] (194, va_up I 193 (fun _ => 0), va_up J 193 (fun _ => 0), q_up R 192 0 (some 193)) 1 4
  refine q_na (N := 4) (n2 := 195) (uc2 := 2) (us2 := 8) rfl rfl (rfl) rfl rfl rfl rfl ⟨rfl, rfl⟩ ?_
  refine q_pR rfl rfl rfl (⟨by decide, rfl⟩) ?_
  refine q_k 2 ?_
  show q_W L d 78 q_m78 Q 20 [some (.ref 192)] [.int (nI 4), .ref 192] (195, va_up (va_up I 193 (fun _ => 0)) 194 (fun _ => 0), va_up (va_up J 193 (fun _ => 0)) 194 (fun _ => 0), q_up (q_up R 192 0 (some 193)) 192 1 (some 194)) 2 8
  refine q_na (N := 4) (n2 := 196) (uc2 := 3) (us2 := 12) rfl rfl (rfl) rfl rfl rfl rfl ⟨rfl, rfl⟩ ?_
  refine q_pR rfl rfl rfl (⟨by decide, rfl⟩) ?_
  refine q_k 2 ?_
  show q_W L d 78 q_m78 Q 27 [some (.ref 192)] [.int (nI 4), .ref 192] (196, va_up (va_up (va_up I 193 (fun _ => 0)) 194 (fun _ => 0)) 195 (fun _ => 0), va_up (va_up (va_up J 193 (fun _ => 0)) 194 (fun _ => 0)) 195 (fun _ => 0), q_up (q_up (q_up R 192 0 (some 193)) 192 1 (some 194)) 192 2 (some 195)) 3 12
  refine q_na (N := 4) (n2 := 197) (uc2 := 4) (us2 := 16) rfl rfl (rfl) rfl rfl rfl rfl ⟨rfl, rfl⟩ ?_
  refine q_pR rfl rfl rfl (⟨by decide, rfl⟩) ?_
  refine q_k 2 ?_
  show q_W L d 78 q_m78 Q 35 [some (.ref 192)] [.int (nI 8), .ref 192] (197, va_up (va_up (va_up (va_up I 193 (fun _ => 0)) 194 (fun _ => 0)) 195 (fun _ => 0)) 196 (fun _ => 0), va_up (va_up (va_up (va_up J 193 (fun _ => 0)) 194 (fun _ => 0)) 195 (fun _ => 0)) 196 (fun _ => 0), q_up (q_up (q_up (q_up R 192 0 (some 193)) 192 1 (some 194)) 192 2 (some 195)) 192 3 (some 196)) 4 16
  refine q_na (N := 8) (n2 := 198) (uc2 := 5) (us2 := 24) rfl rfl (rfl) rfl rfl rfl rfl ⟨rfl, rfl⟩ ?_
  refine q_pR rfl rfl rfl (⟨by decide, rfl⟩) ?_
  refine q_k 2 ?_
  show q_W L d 78 q_m78 Q 43 [some (.ref 192)] [.int (nI 8), .ref 192] (198, va_up (va_up (va_up (va_up (va_up I 193 (fun _ => 0)) 194 (fun _ => 0)) 195 (fun _ => 0)) 196 (fun _ => 0)) 197 (fun _ => 0), va_up (va_up (va_up (va_up (va_up J 193 (fun _ => 0)) 194 (fun _ => 0)) 195 (fun _ => 0)) 196 (fun _ => 0)) 197 (fun _ => 0), q_up (q_up (q_up (q_up (q_up R 192 0 (some 193)) 192 1 (some 194)) 192 2 (some 195)) 192 3 (some 196)) 192 4 (some 197)) 5 24
  refine q_na (N := 8) (n2 := 199) (uc2 := 6) (us2 := 32) rfl rfl (rfl) rfl rfl rfl rfl ⟨rfl, rfl⟩ ?_
  refine q_pR rfl rfl rfl (⟨by decide, rfl⟩) ?_
  refine q_k 2 ?_
  show q_W L d 78 q_m78 Q 51 [some (.ref 192)] [.int (nI 8), .ref 192] (199, va_up (va_up (va_up (va_up (va_up (va_up I 193 (fun _ => 0)) 194 (fun _ => 0)) 195 (fun _ => 0)) 196 (fun _ => 0)) 197 (fun _ => 0)) 198 (fun _ => 0), va_up (va_up (va_up (va_up (va_up (va_up J 193 (fun _ => 0)) 194 (fun _ => 0)) 195 (fun _ => 0)) 196 (fun _ => 0)) 197 (fun _ => 0)) 198 (fun _ => 0), q_up (q_up (q_up (q_up (q_up (q_up R 192 0 (some 193)) 192 1 (some 194)) 192 2 (some 195)) 192 3 (some 196)) 192 4 (some 197)) 192 5 (some 198)) 6 32
  refine q_na (N := 8) (n2 := 200) (uc2 := 7) (us2 := 40) rfl rfl (rfl) rfl rfl rfl rfl ⟨rfl, rfl⟩ ?_
  refine q_pR rfl rfl rfl (⟨by decide, rfl⟩) ?_
  refine q_k 2 ?_
  show q_W L d 78 q_m78 Q 59 [some (.ref 192)] [.int (nI 80), .ref 192] (200, va_up (va_up (va_up (va_up (va_up (va_up (va_up I 193 (fun _ => 0)) 194 (fun _ => 0)) 195 (fun _ => 0)) 196 (fun _ => 0)) 197 (fun _ => 0)) 198 (fun _ => 0)) 199 (fun _ => 0), va_up (va_up (va_up (va_up (va_up (va_up (va_up J 193 (fun _ => 0)) 194 (fun _ => 0)) 195 (fun _ => 0)) 196 (fun _ => 0)) 197 (fun _ => 0)) 198 (fun _ => 0)) 199 (fun _ => 0), q_up (q_up (q_up (q_up (q_up (q_up (q_up R 192 0 (some 193)) 192 1 (some 194)) 192 2 (some 195)) 192 3 (some 196)) 192 4 (some 197)) 192 5 (some 198)) 192 6 (some 199)) 7 40
  refine q_na (N := 80) (n2 := 201) (uc2 := 8) (us2 := 120) rfl rfl (rfl) rfl rfl rfl rfl ⟨rfl, rfl⟩ ?_
  refine q_pR rfl rfl rfl (⟨by decide, rfl⟩) ?_
  refine q_k 2 ?_
  show q_W L d 78 q_m78 Q 66 [some (.ref 192)] [.int (nI 4), .ref 192] (201, va_up (va_up (va_up (va_up (va_up (va_up (va_up (va_up I 193 (fun _ => 0)) 194 (fun _ => 0)) 195 (fun _ => 0)) 196 (fun _ => 0)) 197 (fun _ => 0)) 198 (fun _ => 0)) 199 (fun _ => 0)) 200 (fun _ => 0), va_up (va_up (va_up (va_up (va_up (va_up (va_up (va_up J 193 (fun _ => 0)) 194 (fun _ => 0)) 195 (fun _ => 0)) 196 (fun _ => 0)) 197 (fun _ => 0)) 198 (fun _ => 0)) 199 (fun _ => 0)) 200 (fun _ => 0), q_up (q_up (q_up (q_up (q_up (q_up (q_up (q_up R 192 0 (some 193)) 192 1 (some 194)) 192 2 (some 195)) 192 3 (some 196)) 192 4 (some 197)) 192 5 (some 198)) 192 6 (some 199)) 192 7 (some 200)) 8 120
  refine q_na (N := 4) (n2 := 202) (uc2 := 9) (us2 := 124) rfl rfl (rfl) rfl rfl rfl rfl ⟨rfl, rfl⟩ ?_
  refine q_pR rfl rfl rfl (⟨by decide, rfl⟩) ?_
  refine q_k 2 ?_
  show q_W L d 78 q_m78 Q 74 [some (.ref 192)] [.int (nI 16), .ref 192] (202, va_up (va_up (va_up (va_up (va_up (va_up (va_up (va_up (va_up I 193 (fun _ => 0)) 194 (fun _ => 0)) 195 (fun _ => 0)) 196 (fun _ => 0)) 197 (fun _ => 0)) 198 (fun _ => 0)) 199 (fun _ => 0)) 200 (fun _ => 0)) 201 (fun _ => 0), va_up (va_up (va_up (va_up (va_up (va_up (va_up (va_up (va_up J 193 (fun _ => 0)) 194 (fun _ => 0)) 195 (fun _ => 0)) 196 (fun _ => 0)) 197 (fun _ => 0)) 198 (fun _ => 0)) 199 (fun _ => 0)) 200 (fun _ => 0)) 201 (fun _ => 0), q_up (q_up (q_up (q_up (q_up (q_up (q_up (q_up (q_up R 192 0 (some 193)) 192 1 (some 194)) 192 2 (some 195)) 192 3 (some 196)) 192 4 (some 197)) 192 5 (some 198)) 192 6 (some 199)) 192 7 (some 200)) 192 8 (some 201)) 9 124
  refine q_na (N := 16) (n2 := 203) (uc2 := 10) (us2 := 140) rfl rfl (rfl) rfl rfl rfl rfl ⟨rfl, rfl⟩ ?_
  refine q_pR rfl rfl rfl (⟨by decide, rfl⟩) ?_
  refine q_k 2 ?_
  show q_W L d 78 q_m78 Q 82 [some (.ref 192)] [.int (nI 24), .ref 192] (203, va_up (va_up (va_up (va_up (va_up (va_up (va_up (va_up (va_up (va_up I 193 (fun _ => 0)) 194 (fun _ => 0)) 195 (fun _ => 0)) 196 (fun _ => 0)) 197 (fun _ => 0)) 198 (fun _ => 0)) 199 (fun _ => 0)) 200 (fun _ => 0)) 201 (fun _ => 0)) 202 (fun _ => 0), va_up (va_up (va_up (va_up (va_up (va_up (va_up (va_up (va_up (va_up J 193 (fun _ => 0)) 194 (fun _ => 0)) 195 (fun _ => 0)) 196 (fun _ => 0)) 197 (fun _ => 0)) 198 (fun _ => 0)) 199 (fun _ => 0)) 200 (fun _ => 0)) 201 (fun _ => 0)) 202 (fun _ => 0), q_up (q_up (q_up (q_up (q_up (q_up (q_up (q_up (q_up (q_up R 192 0 (some 193)) 192 1 (some 194)) 192 2 (some 195)) 192 3 (some 196)) 192 4 (some 197)) 192 5 (some 198)) 192 6 (some 199)) 192 7 (some 200)) 192 8 (some 201)) 192 9 (some 202)) 10 140
  refine q_na (N := 24) (n2 := 204) (uc2 := 11) (us2 := 164) rfl rfl (rfl) rfl rfl rfl rfl ⟨rfl, rfl⟩ ?_
  refine q_pR rfl rfl rfl (⟨by decide, rfl⟩) ?_
  refine q_k 2 ?_
  show q_W L d 78 q_m78 Q 89 [some (.ref 192)] [.int (nI 4), .ref 192] (204, va_up (va_up (va_up (va_up (va_up (va_up (va_up (va_up (va_up (va_up (va_up I 193 (fun _ => 0)) 194 (fun _ => 0)) 195 (fun _ => 0)) 196 (fun _ => 0)) 197 (fun _ => 0)) 198 (fun _ => 0)) 199 (fun _ => 0)) 200 (fun _ => 0)) 201 (fun _ => 0)) 202 (fun _ => 0)) 203 (fun _ => 0), va_up (va_up (va_up (va_up (va_up (va_up (va_up (va_up (va_up (va_up (va_up J 193 (fun _ => 0)) 194 (fun _ => 0)) 195 (fun _ => 0)) 196 (fun _ => 0)) 197 (fun _ => 0)) 198 (fun _ => 0)) 199 (fun _ => 0)) 200 (fun _ => 0)) 201 (fun _ => 0)) 202 (fun _ => 0)) 203 (fun _ => 0), q_up (q_up (q_up (q_up (q_up (q_up (q_up (q_up (q_up (q_up (q_up R 192 0 (some 193)) 192 1 (some 194)) 192 2 (some 195)) 192 3 (some 196)) 192 4 (some 197)) 192 5 (some 198)) 192 6 (some 199)) 192 7 (some 200)) 192 8 (some 201)) 192 9 (some 202)) 192 10 (some 203)) 11 164
  refine q_na (N := 4) (n2 := 205) (uc2 := 12) (us2 := 168) rfl rfl (rfl) rfl rfl rfl rfl ⟨rfl, rfl⟩ ?_
  refine q_pR rfl rfl rfl (⟨by decide, rfl⟩) ?_
  refine q_k 2 ?_
  show q_W L d 78 q_m78 Q 98 [some (.ref 192)] [.int (nI 7584), .ref 192] (205, va_up (va_up (va_up (va_up (va_up (va_up (va_up (va_up (va_up (va_up (va_up (va_up I 193 (fun _ => 0)) 194 (fun _ => 0)) 195 (fun _ => 0)) 196 (fun _ => 0)) 197 (fun _ => 0)) 198 (fun _ => 0)) 199 (fun _ => 0)) 200 (fun _ => 0)) 201 (fun _ => 0)) 202 (fun _ => 0)) 203 (fun _ => 0)) 204 (fun _ => 0), va_up (va_up (va_up (va_up (va_up (va_up (va_up (va_up (va_up (va_up (va_up (va_up J 193 (fun _ => 0)) 194 (fun _ => 0)) 195 (fun _ => 0)) 196 (fun _ => 0)) 197 (fun _ => 0)) 198 (fun _ => 0)) 199 (fun _ => 0)) 200 (fun _ => 0)) 201 (fun _ => 0)) 202 (fun _ => 0)) 203 (fun _ => 0)) 204 (fun _ => 0), q_up (q_up (q_up (q_up (q_up (q_up (q_up (q_up (q_up (q_up (q_up (q_up R 192 0 (some 193)) 192 1 (some 194)) 192 2 (some 195)) 192 3 (some 196)) 192 4 (some 197)) 192 5 (some 198)) 192 6 (some 199)) 192 7 (some 200)) 192 8 (some 201)) 192 9 (some 202)) 192 10 (some 203)) 192 11 (some 204)) 12 168
  refine q_na (N := 7584) (n2 := 206) (uc2 := 13) (us2 := 7752) rfl rfl (rfl) rfl rfl rfl rfl ⟨rfl, rfl⟩ ?_
  refine q_pR rfl rfl rfl (⟨by decide, rfl⟩) ?_
  refine q_k 2 ?_
  show q_W L d 78 q_m78 Q 106 [some (.ref 192)] [.int (nI 16), .ref 192] (206, va_up (va_up (va_up (va_up (va_up (va_up (va_up (va_up (va_up (va_up (va_up (va_up (va_up I 193 (fun _ => 0)) 194 (fun _ => 0)) 195 (fun _ => 0)) 196 (fun _ => 0)) 197 (fun _ => 0)) 198 (fun _ => 0)) 199 (fun _ => 0)) 200 (fun _ => 0)) 201 (fun _ => 0)) 202 (fun _ => 0)) 203 (fun _ => 0)) 204 (fun _ => 0)) 205 (fun _ => 0), va_up (va_up (va_up (va_up (va_up (va_up (va_up (va_up (va_up (va_up (va_up (va_up (va_up J 193 (fun _ => 0)) 194 (fun _ => 0)) 195 (fun _ => 0)) 196 (fun _ => 0)) 197 (fun _ => 0)) 198 (fun _ => 0)) 199 (fun _ => 0)) 200 (fun _ => 0)) 201 (fun _ => 0)) 202 (fun _ => 0)) 203 (fun _ => 0)) 204 (fun _ => 0)) 205 (fun _ => 0), q_up (q_up (q_up (q_up (q_up (q_up (q_up (q_up (q_up (q_up (q_up (q_up (q_up R 192 0 (some 193)) 192 1 (some 194)) 192 2 (some 195)) 192 3 (some 196)) 192 4 (some 197)) 192 5 (some 198)) 192 6 (some 199)) 192 7 (some 200)) 192 8 (some 201)) 192 9 (some 202)) 192 10 (some 203)) 192 11 (some 204)) 192 12 (some 205)) 13 7752
  refine q_na (N := 16) (n2 := 207) (uc2 := 14) (us2 := 7768) rfl rfl (rfl) rfl rfl rfl rfl ⟨rfl, rfl⟩ ?_
  refine q_pR rfl rfl rfl (⟨by decide, rfl⟩) ?_
  refine q_k 2 ?_
  show q_W L d 78 q_m78 Q 115 [some (.ref 192)] [.int (nI 318), .ref 192] (207, va_up (va_up (va_up (va_up (va_up (va_up (va_up (va_up (va_up (va_up (va_up (va_up (va_up (va_up I 193 (fun _ => 0)) 194 (fun _ => 0)) 195 (fun _ => 0)) 196 (fun _ => 0)) 197 (fun _ => 0)) 198 (fun _ => 0)) 199 (fun _ => 0)) 200 (fun _ => 0)) 201 (fun _ => 0)) 202 (fun _ => 0)) 203 (fun _ => 0)) 204 (fun _ => 0)) 205 (fun _ => 0)) 206 (fun _ => 0), va_up (va_up (va_up (va_up (va_up (va_up (va_up (va_up (va_up (va_up (va_up (va_up (va_up (va_up J 193 (fun _ => 0)) 194 (fun _ => 0)) 195 (fun _ => 0)) 196 (fun _ => 0)) 197 (fun _ => 0)) 198 (fun _ => 0)) 199 (fun _ => 0)) 200 (fun _ => 0)) 201 (fun _ => 0)) 202 (fun _ => 0)) 203 (fun _ => 0)) 204 (fun _ => 0)) 205 (fun _ => 0)) 206 (fun _ => 0), q_up (q_up (q_up (q_up (q_up (q_up (q_up (q_up (q_up (q_up (q_up (q_up (q_up (q_up R 192 0 (some 193)) 192 1 (some 194)) 192 2 (some 195)) 192 3 (some 196)) 192 4 (some 197)) 192 5 (some 198)) 192 6 (some 199)) 192 7 (some 200)) 192 8 (some 201)) 192 9 (some 202)) 192 10 (some 203)) 192 11 (some 204)) 192 12 (some 205)) 192 13 (some 206)) 14 7768
  refine q_na (N := 318) (n2 := 208) (uc2 := 15) (us2 := 8086) rfl rfl (rfl) rfl rfl rfl rfl ⟨rfl, rfl⟩ ?_
  refine q_pR rfl rfl rfl (⟨by decide, rfl⟩) ?_
  refine q_k 2 ?_
  show q_W L d 78 q_m78 Q 124 [some (.ref 192)] [.int (nI 720), .ref 192] (208, va_up (va_up (va_up (va_up (va_up (va_up (va_up (va_up (va_up (va_up (va_up (va_up (va_up (va_up (va_up I 193 (fun _ => 0)) 194 (fun _ => 0)) 195 (fun _ => 0)) 196 (fun _ => 0)) 197 (fun _ => 0)) 198 (fun _ => 0)) 199 (fun _ => 0)) 200 (fun _ => 0)) 201 (fun _ => 0)) 202 (fun _ => 0)) 203 (fun _ => 0)) 204 (fun _ => 0)) 205 (fun _ => 0)) 206 (fun _ => 0)) 207 (fun _ => 0), va_up (va_up (va_up (va_up (va_up (va_up (va_up (va_up (va_up (va_up (va_up (va_up (va_up (va_up (va_up J 193 (fun _ => 0)) 194 (fun _ => 0)) 195 (fun _ => 0)) 196 (fun _ => 0)) 197 (fun _ => 0)) 198 (fun _ => 0)) 199 (fun _ => 0)) 200 (fun _ => 0)) 201 (fun _ => 0)) 202 (fun _ => 0)) 203 (fun _ => 0)) 204 (fun _ => 0)) 205 (fun _ => 0)) 206 (fun _ => 0)) 207 (fun _ => 0), q_up (q_up (q_up (q_up (q_up (q_up (q_up (q_up (q_up (q_up (q_up (q_up (q_up (q_up (q_up R 192 0 (some 193)) 192 1 (some 194)) 192 2 (some 195)) 192 3 (some 196)) 192 4 (some 197)) 192 5 (some 198)) 192 6 (some 199)) 192 7 (some 200)) 192 8 (some 201)) 192 9 (some 202)) 192 10 (some 203)) 192 11 (some 204)) 192 12 (some 205)) 192 13 (some 206)) 192 14 (some 207)) 15 8086
  refine q_na (N := 720) (n2 := 209) (uc2 := 16) (us2 := 8806) rfl rfl (rfl) rfl rfl rfl rfl ⟨rfl, rfl⟩ ?_
  refine q_pR rfl rfl rfl (⟨by decide, rfl⟩) ?_
  refine q_k 2 ?_
  show q_W L d 78 q_m78 Q 132 [some (.ref 192)] [.int (nI 16), .ref 192] (209, va_up (va_up (va_up (va_up (va_up (va_up (va_up (va_up (va_up (va_up (va_up (va_up (va_up (va_up (va_up (va_up I 193 (fun _ => 0)) 194 (fun _ => 0)) 195 (fun _ => 0)) 196 (fun _ => 0)) 197 (fun _ => 0)) 198 (fun _ => 0)) 199 (fun _ => 0)) 200 (fun _ => 0)) 201 (fun _ => 0)) 202 (fun _ => 0)) 203 (fun _ => 0)) 204 (fun _ => 0)) 205 (fun _ => 0)) 206 (fun _ => 0)) 207 (fun _ => 0)) 208 (fun _ => 0), va_up (va_up (va_up (va_up (va_up (va_up (va_up (va_up (va_up (va_up (va_up (va_up (va_up (va_up (va_up (va_up J 193 (fun _ => 0)) 194 (fun _ => 0)) 195 (fun _ => 0)) 196 (fun _ => 0)) 197 (fun _ => 0)) 198 (fun _ => 0)) 199 (fun _ => 0)) 200 (fun _ => 0)) 201 (fun _ => 0)) 202 (fun _ => 0)) 203 (fun _ => 0)) 204 (fun _ => 0)) 205 (fun _ => 0)) 206 (fun _ => 0)) 207 (fun _ => 0)) 208 (fun _ => 0), q_up (q_up (q_up (q_up (q_up (q_up (q_up (q_up (q_up (q_up (q_up (q_up (q_up (q_up (q_up (q_up R 192 0 (some 193)) 192 1 (some 194)) 192 2 (some 195)) 192 3 (some 196)) 192 4 (some 197)) 192 5 (some 198)) 192 6 (some 199)) 192 7 (some 200)) 192 8 (some 201)) 192 9 (some 202)) 192 10 (some 203)) 192 11 (some 204)) 192 12 (some 205)) 192 13 (some 206)) 192 14 (some 207)) 192 15 (some 208)) 16 8806
  refine q_na (N := 16) (n2 := 210) (uc2 := 17) (us2 := 8822) rfl rfl (rfl) rfl rfl rfl rfl ⟨rfl, rfl⟩ ?_
  refine q_pR rfl rfl rfl (⟨by decide, rfl⟩) ?_
  refine q_k 2 ?_
  show q_W L d 78 q_m78 Q 140 [some (.ref 192)] [.int (nI 16), .ref 192] (210, va_up (va_up (va_up (va_up (va_up (va_up (va_up (va_up (va_up (va_up (va_up (va_up (va_up (va_up (va_up (va_up (va_up I 193 (fun _ => 0)) 194 (fun _ => 0)) 195 (fun _ => 0)) 196 (fun _ => 0)) 197 (fun _ => 0)) 198 (fun _ => 0)) 199 (fun _ => 0)) 200 (fun _ => 0)) 201 (fun _ => 0)) 202 (fun _ => 0)) 203 (fun _ => 0)) 204 (fun _ => 0)) 205 (fun _ => 0)) 206 (fun _ => 0)) 207 (fun _ => 0)) 208 (fun _ => 0)) 209 (fun _ => 0), va_up (va_up (va_up (va_up (va_up (va_up (va_up (va_up (va_up (va_up (va_up (va_up (va_up (va_up (va_up (va_up (va_up J 193 (fun _ => 0)) 194 (fun _ => 0)) 195 (fun _ => 0)) 196 (fun _ => 0)) 197 (fun _ => 0)) 198 (fun _ => 0)) 199 (fun _ => 0)) 200 (fun _ => 0)) 201 (fun _ => 0)) 202 (fun _ => 0)) 203 (fun _ => 0)) 204 (fun _ => 0)) 205 (fun _ => 0)) 206 (fun _ => 0)) 207 (fun _ => 0)) 208 (fun _ => 0)) 209 (fun _ => 0), q_up (q_up (q_up (q_up (q_up (q_up (q_up (q_up (q_up (q_up (q_up (q_up (q_up (q_up (q_up (q_up (q_up R 192 0 (some 193)) 192 1 (some 194)) 192 2 (some 195)) 192 3 (some 196)) 192 4 (some 197)) 192 5 (some 198)) 192 6 (some 199)) 192 7 (some 200)) 192 8 (some 201)) 192 9 (some 202)) 192 10 (some 203)) 192 11 (some 204)) 192 12 (some 205)) 192 13 (some 206)) 192 14 (some 207)) 192 15 (some 208)) 192 18 (some 209)) 17 8822
  refine q_na (N := 16) (n2 := 211) (uc2 := 18) (us2 := 8838) rfl rfl (rfl) rfl rfl rfl rfl ⟨rfl, rfl⟩ ?_
  refine q_pR rfl rfl rfl (⟨by decide, rfl⟩) ?_
  refine q_k 2 ?_
  show q_W L d 78 q_m78 Q 148 [some (.ref 192)] [.int (nI 8), .ref 192] (211, va_up (va_up (va_up (va_up (va_up (va_up (va_up (va_up (va_up (va_up (va_up (va_up (va_up (va_up (va_up (va_up (va_up (va_up I 193 (fun _ => 0)) 194 (fun _ => 0)) 195 (fun _ => 0)) 196 (fun _ => 0)) 197 (fun _ => 0)) 198 (fun _ => 0)) 199 (fun _ => 0)) 200 (fun _ => 0)) 201 (fun _ => 0)) 202 (fun _ => 0)) 203 (fun _ => 0)) 204 (fun _ => 0)) 205 (fun _ => 0)) 206 (fun _ => 0)) 207 (fun _ => 0)) 208 (fun _ => 0)) 209 (fun _ => 0)) 210 (fun _ => 0), va_up (va_up (va_up (va_up (va_up (va_up (va_up (va_up (va_up (va_up (va_up (va_up (va_up (va_up (va_up (va_up (va_up (va_up J 193 (fun _ => 0)) 194 (fun _ => 0)) 195 (fun _ => 0)) 196 (fun _ => 0)) 197 (fun _ => 0)) 198 (fun _ => 0)) 199 (fun _ => 0)) 200 (fun _ => 0)) 201 (fun _ => 0)) 202 (fun _ => 0)) 203 (fun _ => 0)) 204 (fun _ => 0)) 205 (fun _ => 0)) 206 (fun _ => 0)) 207 (fun _ => 0)) 208 (fun _ => 0)) 209 (fun _ => 0)) 210 (fun _ => 0), q_up (q_up (q_up (q_up (q_up (q_up (q_up (q_up (q_up (q_up (q_up (q_up (q_up (q_up (q_up (q_up (q_up (q_up R 192 0 (some 193)) 192 1 (some 194)) 192 2 (some 195)) 192 3 (some 196)) 192 4 (some 197)) 192 5 (some 198)) 192 6 (some 199)) 192 7 (some 200)) 192 8 (some 201)) 192 9 (some 202)) 192 10 (some 203)) 192 11 (some 204)) 192 12 (some 205)) 192 13 (some 206)) 192 14 (some 207)) 192 15 (some 208)) 192 18 (some 209)) 192 19 (some 210)) 18 8838
  refine q_na (N := 8) (n2 := 212) (uc2 := 19) (us2 := 8846) rfl rfl (rfl) rfl rfl rfl rfl ⟨rfl, rfl⟩ ?_
  refine q_pR rfl rfl rfl (⟨by decide, rfl⟩) ?_
  refine q_k 2 ?_
  show q_W L d 78 q_m78 Q 156 [some (.ref 192)] [.int (nI 8), .ref 192] (212, va_up (va_up (va_up (va_up (va_up (va_up (va_up (va_up (va_up (va_up (va_up (va_up (va_up (va_up (va_up (va_up (va_up (va_up (va_up I 193 (fun _ => 0)) 194 (fun _ => 0)) 195 (fun _ => 0)) 196 (fun _ => 0)) 197 (fun _ => 0)) 198 (fun _ => 0)) 199 (fun _ => 0)) 200 (fun _ => 0)) 201 (fun _ => 0)) 202 (fun _ => 0)) 203 (fun _ => 0)) 204 (fun _ => 0)) 205 (fun _ => 0)) 206 (fun _ => 0)) 207 (fun _ => 0)) 208 (fun _ => 0)) 209 (fun _ => 0)) 210 (fun _ => 0)) 211 (fun _ => 0), va_up (va_up (va_up (va_up (va_up (va_up (va_up (va_up (va_up (va_up (va_up (va_up (va_up (va_up (va_up (va_up (va_up (va_up (va_up J 193 (fun _ => 0)) 194 (fun _ => 0)) 195 (fun _ => 0)) 196 (fun _ => 0)) 197 (fun _ => 0)) 198 (fun _ => 0)) 199 (fun _ => 0)) 200 (fun _ => 0)) 201 (fun _ => 0)) 202 (fun _ => 0)) 203 (fun _ => 0)) 204 (fun _ => 0)) 205 (fun _ => 0)) 206 (fun _ => 0)) 207 (fun _ => 0)) 208 (fun _ => 0)) 209 (fun _ => 0)) 210 (fun _ => 0)) 211 (fun _ => 0), q_up (q_up (q_up (q_up (q_up (q_up (q_up (q_up (q_up (q_up (q_up (q_up (q_up (q_up (q_up (q_up (q_up (q_up (q_up R 192 0 (some 193)) 192 1 (some 194)) 192 2 (some 195)) 192 3 (some 196)) 192 4 (some 197)) 192 5 (some 198)) 192 6 (some 199)) 192 7 (some 200)) 192 8 (some 201)) 192 9 (some 202)) 192 10 (some 203)) 192 11 (some 204)) 192 12 (some 205)) 192 13 (some 206)) 192 14 (some 207)) 192 15 (some 208)) 192 18 (some 209)) 192 19 (some 210)) 192 20 (some 211)) 19 8846
  refine q_na (N := 8) (n2 := 213) (uc2 := 20) (us2 := 8854) rfl rfl (rfl) rfl rfl rfl rfl ⟨rfl, rfl⟩ ?_
  refine q_pR rfl rfl rfl (⟨by decide, rfl⟩) ?_
  refine q_k 2 ?_
  show q_W L d 78 q_m78 Q 164 [some (.ref 192)] [.int (nI 8), .ref 192] (213, va_up (va_up (va_up (va_up (va_up (va_up (va_up (va_up (va_up (va_up (va_up (va_up (va_up (va_up (va_up (va_up (va_up (va_up (va_up (va_up I 193 (fun _ => 0)) 194 (fun _ => 0)) 195 (fun _ => 0)) 196 (fun _ => 0)) 197 (fun _ => 0)) 198 (fun _ => 0)) 199 (fun _ => 0)) 200 (fun _ => 0)) 201 (fun _ => 0)) 202 (fun _ => 0)) 203 (fun _ => 0)) 204 (fun _ => 0)) 205 (fun _ => 0)) 206 (fun _ => 0)) 207 (fun _ => 0)) 208 (fun _ => 0)) 209 (fun _ => 0)) 210 (fun _ => 0)) 211 (fun _ => 0)) 212 (fun _ => 0), va_up (va_up (va_up (va_up (va_up (va_up (va_up (va_up (va_up (va_up (va_up (va_up (va_up (va_up (va_up (va_up (va_up (va_up (va_up (va_up J 193 (fun _ => 0)) 194 (fun _ => 0)) 195 (fun _ => 0)) 196 (fun _ => 0)) 197 (fun _ => 0)) 198 (fun _ => 0)) 199 (fun _ => 0)) 200 (fun _ => 0)) 201 (fun _ => 0)) 202 (fun _ => 0)) 203 (fun _ => 0)) 204 (fun _ => 0)) 205 (fun _ => 0)) 206 (fun _ => 0)) 207 (fun _ => 0)) 208 (fun _ => 0)) 209 (fun _ => 0)) 210 (fun _ => 0)) 211 (fun _ => 0)) 212 (fun _ => 0), q_up (q_up (q_up (q_up (q_up (q_up (q_up (q_up (q_up (q_up (q_up (q_up (q_up (q_up (q_up (q_up (q_up (q_up (q_up (q_up R 192 0 (some 193)) 192 1 (some 194)) 192 2 (some 195)) 192 3 (some 196)) 192 4 (some 197)) 192 5 (some 198)) 192 6 (some 199)) 192 7 (some 200)) 192 8 (some 201)) 192 9 (some 202)) 192 10 (some 203)) 192 11 (some 204)) 192 12 (some 205)) 192 13 (some 206)) 192 14 (some 207)) 192 15 (some 208)) 192 18 (some 209)) 192 19 (some 210)) 192 20 (some 211)) 192 21 (some 212)) 20 8854
  refine q_na (N := 8) (n2 := 214) (uc2 := 21) (us2 := 8862) rfl rfl (rfl) rfl rfl rfl rfl ⟨rfl, rfl⟩ ?_
  refine q_pR rfl rfl rfl (⟨by decide, rfl⟩) ?_
  refine q_one rfl rfl ?_
  show Q (none) (214, va_up (va_up (va_up (va_up (va_up (va_up (va_up (va_up (va_up (va_up (va_up (va_up (va_up (va_up (va_up (va_up (va_up (va_up (va_up (va_up (va_up I 193 (fun _ => 0)) 194 (fun _ => 0)) 195 (fun _ => 0)) 196 (fun _ => 0)) 197 (fun _ => 0)) 198 (fun _ => 0)) 199 (fun _ => 0)) 200 (fun _ => 0)) 201 (fun _ => 0)) 202 (fun _ => 0)) 203 (fun _ => 0)) 204 (fun _ => 0)) 205 (fun _ => 0)) 206 (fun _ => 0)) 207 (fun _ => 0)) 208 (fun _ => 0)) 209 (fun _ => 0)) 210 (fun _ => 0)) 211 (fun _ => 0)) 212 (fun _ => 0)) 213 (fun _ => 0), va_up (va_up (va_up (va_up (va_up (va_up (va_up (va_up (va_up (va_up (va_up (va_up (va_up (va_up (va_up (va_up (va_up (va_up (va_up (va_up (va_up J 193 (fun _ => 0)) 194 (fun _ => 0)) 195 (fun _ => 0)) 196 (fun _ => 0)) 197 (fun _ => 0)) 198 (fun _ => 0)) 199 (fun _ => 0)) 200 (fun _ => 0)) 201 (fun _ => 0)) 202 (fun _ => 0)) 203 (fun _ => 0)) 204 (fun _ => 0)) 205 (fun _ => 0)) 206 (fun _ => 0)) 207 (fun _ => 0)) 208 (fun _ => 0)) 209 (fun _ => 0)) 210 (fun _ => 0)) 211 (fun _ => 0)) 212 (fun _ => 0)) 213 (fun _ => 0), q_up (q_up (q_up (q_up (q_up (q_up (q_up (q_up (q_up (q_up (q_up (q_up (q_up (q_up (q_up (q_up (q_up (q_up (q_up (q_up (q_up R 192 0 (some 193)) 192 1 (some 194)) 192 2 (some 195)) 192 3 (some 196)) 192 4 (some 197)) 192 5 (some 198)) 192 6 (some 199)) 192 7 (some 200)) 192 8 (some 201)) 192 9 (some 202)) 192 10 (some 203)) 192 11 (some 204)) 192 12 (some 205)) 192 13 (some 206)) 192 14 (some 207)) 192 15 (some 208)) 192 18 (some 209)) 192 19 (some 210)) 192 20 (some 211)) 192 21 (some 212)) 192 22 (some 213))
  obtain ⟨IF, eIF⟩ : ∃ z, z = va_up (va_up (va_up (va_up (va_up (va_up (va_up (va_up (va_up (va_up (va_up (va_up (va_up (va_up (va_up (va_up (va_up (va_up (va_up (va_up (va_up I 193 (fun _ => 0)) 194 (fun _ => 0)) 195 (fun _ => 0)) 196 (fun _ => 0)) 197 (fun _ => 0)) 198 (fun _ => 0)) 199 (fun _ => 0)) 200 (fun _ => 0)) 201 (fun _ => 0)) 202 (fun _ => 0)) 203 (fun _ => 0)) 204 (fun _ => 0)) 205 (fun _ => 0)) 206 (fun _ => 0)) 207 (fun _ => 0)) 208 (fun _ => 0)) 209 (fun _ => 0)) 210 (fun _ => 0)) 211 (fun _ => 0)) 212 (fun _ => 0)) 213 (fun _ => 0) := ⟨_, rfl⟩
  obtain ⟨JF, eJF⟩ : ∃ z, z = va_up (va_up (va_up (va_up (va_up (va_up (va_up (va_up (va_up (va_up (va_up (va_up (va_up (va_up (va_up (va_up (va_up (va_up (va_up (va_up (va_up J 193 (fun _ => 0)) 194 (fun _ => 0)) 195 (fun _ => 0)) 196 (fun _ => 0)) 197 (fun _ => 0)) 198 (fun _ => 0)) 199 (fun _ => 0)) 200 (fun _ => 0)) 201 (fun _ => 0)) 202 (fun _ => 0)) 203 (fun _ => 0)) 204 (fun _ => 0)) 205 (fun _ => 0)) 206 (fun _ => 0)) 207 (fun _ => 0)) 208 (fun _ => 0)) 209 (fun _ => 0)) 210 (fun _ => 0)) 211 (fun _ => 0)) 212 (fun _ => 0)) 213 (fun _ => 0) := ⟨_, rfl⟩
  obtain ⟨RF, eRF⟩ : ∃ z, z = q_up (q_up (q_up (q_up (q_up (q_up (q_up (q_up (q_up (q_up (q_up (q_up (q_up (q_up (q_up (q_up (q_up (q_up (q_up (q_up (q_up R 192 0 (some 193)) 192 1 (some 194)) 192 2 (some 195)) 192 3 (some 196)) 192 4 (some 197)) 192 5 (some 198)) 192 6 (some 199)) 192 7 (some 200)) 192 8 (some 201)) 192 9 (some 202)) 192 10 (some 203)) 192 11 (some 204)) 192 12 (some 205)) 192 13 (some 206)) 192 14 (some 207)) 192 15 (some 208)) 192 18 (some 209)) 192 19 (some 210)) 192 20 (some 211)) 192 21 (some 212)) 192 22 (some 213) := ⟨_, rfl⟩
  rw [← eIF, ← eJF, ← eRF]
  refine hQ IF JF RF (fun x hx => ⟨?_, ?_⟩) (fun x hx => ?_) (fun k hk => ?_) (fun k h1 h2 => ?_) (fun x h1 h2 j => ?_) (fun j => ?_)
  · rw [eIF]; simp (disch := omega) only [va_up_ne]
  · rw [eJF]; simp (disch := omega) only [va_up_ne]
  · rw [eRF]; simp (disch := omega) only [q_un]
  · have h16 : k = 0 ∨ k = 1 ∨ k = 2 ∨ k = 3 ∨ k = 4 ∨ k = 5 ∨ k = 6 ∨ k = 7 ∨ k = 8 ∨ k = 9 ∨ k = 10 ∨ k = 11 ∨ k = 12 ∨ k = 13 ∨ k = 14 ∨ k = 15 := by omega
    rw [eRF]
    rcases h16 with rfl | rfl | rfl | rfl | rfl | rfl | rfl | rfl | rfl | rfl | rfl | rfl | rfl | rfl | rfl | rfl
    all_goals simp (disch := omega) only [q_un, q_usk, q_usn, va_up_self, va_up_ne]
  · have h5 : k = 18 ∨ k = 19 ∨ k = 20 ∨ k = 21 ∨ k = 22 := by omega
    rw [eRF]
    rcases h5 with rfl | rfl | rfl | rfl | rfl
    all_goals simp (disch := omega) only [q_un, q_usk, q_usn, va_up_self, va_up_ne]
  · have h21 : x = 193 ∨ x = 194 ∨ x = 195 ∨ x = 196 ∨ x = 197 ∨ x = 198 ∨ x = 199 ∨ x = 200 ∨ x = 201 ∨ x = 202 ∨ x = 203 ∨ x = 204 ∨ x = 205 ∨ x = 206 ∨ x = 207 ∨ x = 208 ∨ x = 209 ∨ x = 210 ∨ x = 211 ∨ x = 212 ∨ x = 213 := by omega
    rw [eIF]
    rcases h21 with rfl | rfl | rfl | rfl | rfl | rfl | rfl | rfl | rfl | rfl | rfl | rfl | rfl | rfl | rfl | rfl | rfl | rfl | rfl | rfl | rfl
    all_goals simp (disch := omega) only [va_up_self, va_up_ne]
  · rw [eJF]; simp (disch := omega) only [va_up_self, va_up_ne]
