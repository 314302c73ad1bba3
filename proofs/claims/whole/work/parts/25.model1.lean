theorem m_rot {L d n : Nat} {I : q_I} {J : q_L} {R : q_R} {Q : q_Q} {v : Int32} {k : Nat} (hk : k ≤ 32) (hQ : Q (some (.int (g_rot v k (32 - k)))) (n, I, J, R)) : q_Ex L (d + 1) 82 [.int v, .int (nI k)] (n, I, J, R) Q := by
  refine q_in (x := q_m82) rfl rfl ?_
  show q_W L d 82 q_m82 Q 0 [some (.int v), some (.int (nI k))] [] (n, I, J, R) 0 0
  refine q_k 7 ?_
  show q_W L d 82 q_m82 Q 8 [some (.int v), some (.int (nI k))] [.int ((nI 32) - (nI k)), .int v, .int (v <<< ((nI k) &&& 31))] (n, I, J, R) 0 0
  refine q_top (w := nI (32 - k)) (pk_sub hk) ?_
  refine q_k 2 ?_
  show q_W L d 82 q_m82 Q 10 [some (.int v), some (.int (nI k))] [.int ((v <<< ((nI k) &&& 31)) ||| (((v).toUInt32 >>> (((nI (32 - k))).toUInt32 &&& Int32.toUInt32 31)).toInt32))] (n, I, J, R) 0 0
  refine q_one rfl rfl ?_
  show Q (some (.int ((v <<< ((nI k) &&& 31)) ||| (((v).toUInt32 >>> (((nI (32 - k))).toUInt32 &&& Int32.toUInt32 31)).toInt32)))) (n, I, J, R)
  exact hQ
set_option maxHeartbeats 1000000 in
theorem m_turn {L d n : Nat} {I : q_I} {J : q_L} {R : q_R} {Q : q_Q} {p q r s : Nat} (hK : q_K0 n I R) (hp : p < 16) (hq : q < 16) (hr : r < 16) (hs : s < 16) (hqp : q ≠ p) (hrp : r ≠ p) (hsp : s ≠ p) (hqr : q ≠ r) (hqs : q ≠ s) (hrs : r ≠ s) (hQ : ∀ I', (∀ i, I' 209 i = g_turn p q r s (I 209) i) → (∀ x, x ≠ 209 → I' x = I x) → Q none (n, I', J, R)) : q_Ex L (d + 2) 83 [.ref 192, .int (nI p), .int (nI q), .int (nI r), .int (nI s)] (n, I, J, R) Q := by
  refine q_in (x := q_m83) rfl rfl ?_
  show q_W L (d + 1) 83 q_m83 Q 0 [some (.ref 192), some (.int (nI p)), some (.int (nI q)), some (.int (nI r)), some (.int (nI s))] [] (n, I, J, R) 0 0
  refine q_k 1 ?_
  show q_W L (d + 1) 83 q_m83 Q 1 [some (.ref 192), some (.int (nI p)), some (.int (nI q)), some (.int (nI r)), some (.int (nI s))] [.ref 192] (n, I, J, R) 0 0
  refine q_gR (b := 209) rfl rfl (⟨Nat.lt_of_lt_of_le (by decide) hK.1, rfl⟩) (hK.2.1 192 18 209 rfl) ?_
  refine q_k 2 ?_
  show q_W L (d + 1) 83 q_m83 Q 6 [some (.ref 192), some (.int (nI p)), some (.int (nI q)), some (.int (nI r)), some (.int (nI s))] [.int (nI p), .ref 209, .int (nI p), .ref 209] (n, I, J, R) 0 0
  refine q_ial (m := p) rfl (⟨by decide, Nat.lt_of_lt_of_le (by decide) hK.1, rfl⟩) (hp) (rfl) ?_
  refine q_k 1 ?_
  show q_W L (d + 1) 83 q_m83 Q 8 [some (.ref 192), some (.int (nI p)), some (.int (nI q)), some (.int (nI r)), some (.int (nI s))] [.ref 192, .int (I 209 p), .int (nI p), .ref 209] (n, I, J, R) 0 0
  refine q_gR (b := 209) rfl rfl (⟨Nat.lt_of_lt_of_le (by decide) hK.1, rfl⟩) (hK.2.1 192 18 209 rfl) ?_
  refine q_k 1 ?_
  show q_W L (d + 1) 83 q_m83 Q 12 [some (.ref 192), some (.int (nI p)), some (.int (nI q)), some (.int (nI r)), some (.int (nI s))] [.int (nI q), .ref 209, .int (I 209 p), .int (nI p), .ref 209] (n, I, J, R) 0 0
  refine q_ial (m := q) rfl (⟨by decide, Nat.lt_of_lt_of_le (by decide) hK.1, rfl⟩) (hq) (rfl) ?_
  refine q_k 1 ?_
  show q_W L (d + 1) 83 q_m83 Q 14 [some (.ref 192), some (.int (nI p)), some (.int (nI q)), some (.int (nI r)), some (.int (nI s))] [.int ((I 209 p) + (I 209 q)), .int (nI p), .ref 209] (n, I, J, R) 0 0
  obtain ⟨a1, ea1⟩ : ∃ zz9, zz9 = (I 209 p) + (I 209 q) := ⟨_, rfl⟩
  rw [← ea1]
  refine q_ias (m := p) rfl (⟨by decide, Nat.lt_of_lt_of_le (by decide) hK.1, rfl⟩) (hp) (rfl) ?_
  obtain ⟨T1, eT1⟩ : ∃ zz9, zz9 = q_up I 209 p a1 := ⟨_, rfl⟩
  rw [← eT1]
  refine q_k 1 ?_
  show q_W L (d + 1) 83 q_m83 Q 16 [some (.ref 192), some (.int (nI p)), some (.int (nI q)), some (.int (nI r)), some (.int (nI s))] [.ref 192] (n, T1, J, R) 0 0
  refine q_gR (b := 209) rfl rfl (⟨Nat.lt_of_lt_of_le (by decide) hK.1, rfl⟩) (hK.2.1 192 18 209 rfl) ?_
  refine q_k 2 ?_
  show q_W L (d + 1) 83 q_m83 Q 22 [some (.ref 192), some (.int (nI p)), some (.int (nI q)), some (.int (nI r)), some (.int (nI s))] [.ref 192, .int (nI s), .ref 209] (n, T1, J, R) 0 0
  refine q_gR (b := 209) rfl rfl (⟨Nat.lt_of_lt_of_le (by decide) hK.1, rfl⟩) (hK.2.1 192 18 209 rfl) ?_
  refine q_k 1 ?_
  show q_W L (d + 1) 83 q_m83 Q 27 [some (.ref 192), some (.int (nI p)), some (.int (nI q)), some (.int (nI r)), some (.int (nI s))] [.int (nI s), .ref 209, .int (nI s), .ref 209] (n, T1, J, R) 0 0
  refine q_ial (m := s) rfl (⟨by decide, Nat.lt_of_lt_of_le (by decide) hK.1, rfl⟩) (hs) (rfl) ?_
  refine q_top (w := I 209 s) (by rw [eT1, q_usn hsp]) ?_
  refine q_k 1 ?_
  show q_W L (d + 1) 83 q_m83 Q 29 [some (.ref 192), some (.int (nI p)), some (.int (nI q)), some (.int (nI r)), some (.int (nI s))] [.ref 192, .int (I 209 s), .int (nI s), .ref 209] (n, T1, J, R) 0 0
  refine q_gR (b := 209) rfl rfl (⟨Nat.lt_of_lt_of_le (by decide) hK.1, rfl⟩) (hK.2.1 192 18 209 rfl) ?_
  refine q_k 1 ?_
  show q_W L (d + 1) 83 q_m83 Q 33 [some (.ref 192), some (.int (nI p)), some (.int (nI q)), some (.int (nI r)), some (.int (nI s))] [.int (nI p), .ref 209, .int (I 209 s), .int (nI s), .ref 209] (n, T1, J, R) 0 0
  refine q_ial (m := p) rfl (⟨by decide, Nat.lt_of_lt_of_le (by decide) hK.1, rfl⟩) (hp) (rfl) ?_
  refine q_top (w := a1) (by rw [eT1, q_usk]) ?_
  refine q_k 2 ?_
  show q_W L (d + 1) 83 q_m83 Q 37 [some (.ref 192), some (.int (nI p)), some (.int (nI q)), some (.int (nI r)), some (.int (nI s))] [.int (nI 16), .int ((I 209 s) ^^^ a1), .int (nI s), .ref 209] (n, T1, J, R) 0 0
  refine q_cs (as := [.int ((I 209 s) ^^^ a1), .int (nI 16)]) (rs := [.int (nI s), .ref 209]) rfl rfl rfl rfl rfl ?_
  refine m_rot (by decide) ?_
  show q_W L (d + 1) 83 q_m83 Q 40 [some (.ref 192), some (.int (nI p)), some (.int (nI q)), some (.int (nI r)), some (.int (nI s))] [.int (g_rot ((I 209 s) ^^^ a1) 16 (32 - 16)), .int (nI s), .ref 209] (n, T1, J, R) 0 0
  obtain ⟨d1, ed1⟩ : ∃ zz9, zz9 = g_rot ((I 209 s) ^^^ a1) 16 (32 - 16) := ⟨_, rfl⟩
  rw [← ed1]
  refine q_ias (m := s) rfl (⟨by decide, Nat.lt_of_lt_of_le (by decide) hK.1, rfl⟩) (hs) (rfl) ?_
  obtain ⟨T2, eT2⟩ : ∃ zz9, zz9 = q_up T1 209 s d1 := ⟨_, rfl⟩
  rw [← eT2]
  refine q_k 1 ?_
  show q_W L (d + 1) 83 q_m83 Q 42 [some (.ref 192), some (.int (nI p)), some (.int (nI q)), some (.int (nI r)), some (.int (nI s))] [.ref 192] (n, T2, J, R) 0 0
  refine q_gR (b := 209) rfl rfl (⟨Nat.lt_of_lt_of_le (by decide) hK.1, rfl⟩) (hK.2.1 192 18 209 rfl) ?_
  refine q_k 2 ?_
  show q_W L (d + 1) 83 q_m83 Q 47 [some (.ref 192), some (.int (nI p)), some (.int (nI q)), some (.int (nI r)), some (.int (nI s))] [.int (nI r), .ref 209, .int (nI r), .ref 209] (n, T2, J, R) 0 0
  refine q_ial (m := r) rfl (⟨by decide, Nat.lt_of_lt_of_le (by decide) hK.1, rfl⟩) (hr) (rfl) ?_
  refine q_top (w := I 209 r) (by rw [eT2, q_usn hrs, eT1, q_usn hrp]) ?_
  refine q_k 1 ?_
  show q_W L (d + 1) 83 q_m83 Q 49 [some (.ref 192), some (.int (nI p)), some (.int (nI q)), some (.int (nI r)), some (.int (nI s))] [.ref 192, .int (I 209 r), .int (nI r), .ref 209] (n, T2, J, R) 0 0
  refine q_gR (b := 209) rfl rfl (⟨Nat.lt_of_lt_of_le (by decide) hK.1, rfl⟩) (hK.2.1 192 18 209 rfl) ?_
  refine q_k 1 ?_
  show q_W L (d + 1) 83 q_m83 Q 54 [some (.ref 192), some (.int (nI p)), some (.int (nI q)), some (.int (nI r)), some (.int (nI s))] [.int (nI s), .ref 209, .int (I 209 r), .int (nI r), .ref 209] (n, T2, J, R) 0 0
  refine q_ial (m := s) rfl (⟨by decide, Nat.lt_of_lt_of_le (by decide) hK.1, rfl⟩) (hs) (rfl) ?_
  refine q_top (w := d1) (by rw [eT2, q_usk]) ?_
  refine q_k 1 ?_
  show q_W L (d + 1) 83 q_m83 Q 56 [some (.ref 192), some (.int (nI p)), some (.int (nI q)), some (.int (nI r)), some (.int (nI s))] [.int ((I 209 r) + d1), .int (nI r), .ref 209] (n, T2, J, R) 0 0
  obtain ⟨c1, ec1⟩ : ∃ zz9, zz9 = (I 209 r) + d1 := ⟨_, rfl⟩
  rw [← ec1]
  refine q_ias (m := r) rfl (⟨by decide, Nat.lt_of_lt_of_le (by decide) hK.1, rfl⟩) (hr) (rfl) ?_
  obtain ⟨T3, eT3⟩ : ∃ zz9, zz9 = q_up T2 209 r c1 := ⟨_, rfl⟩
  rw [← eT3]
  refine q_k 1 ?_
  show q_W L (d + 1) 83 q_m83 Q 58 [some (.ref 192), some (.int (nI p)), some (.int (nI q)), some (.int (nI r)), some (.int (nI s))] [.ref 192] (n, T3, J, R) 0 0
  refine q_gR (b := 209) rfl rfl (⟨Nat.lt_of_lt_of_le (by decide) hK.1, rfl⟩) (hK.2.1 192 18 209 rfl) ?_
  refine q_k 2 ?_
  show q_W L (d + 1) 83 q_m83 Q 63 [some (.ref 192), some (.int (nI p)), some (.int (nI q)), some (.int (nI r)), some (.int (nI s))] [.ref 192, .int (nI q), .ref 209] (n, T3, J, R) 0 0
  refine q_gR (b := 209) rfl rfl (⟨Nat.lt_of_lt_of_le (by decide) hK.1, rfl⟩) (hK.2.1 192 18 209 rfl) ?_
  refine q_k 1 ?_
  show q_W L (d + 1) 83 q_m83 Q 67 [some (.ref 192), some (.int (nI p)), some (.int (nI q)), some (.int (nI r)), some (.int (nI s))] [.int (nI q), .ref 209, .int (nI q), .ref 209] (n, T3, J, R) 0 0
  refine q_ial (m := q) rfl (⟨by decide, Nat.lt_of_lt_of_le (by decide) hK.1, rfl⟩) (hq) (rfl) ?_
  refine q_top (w := I 209 q) (by rw [eT3, q_usn hqr, eT2, q_usn hqs, eT1, q_usn hqp]) ?_
  refine q_k 1 ?_
  show q_W L (d + 1) 83 q_m83 Q 69 [some (.ref 192), some (.int (nI p)), some (.int (nI q)), some (.int (nI r)), some (.int (nI s))] [.ref 192, .int (I 209 q), .int (nI q), .ref 209] (n, T3, J, R) 0 0
  refine q_gR (b := 209) rfl rfl (⟨Nat.lt_of_lt_of_le (by decide) hK.1, rfl⟩) (hK.2.1 192 18 209 rfl) ?_
  refine q_k 1 ?_
  show q_W L (d + 1) 83 q_m83 Q 73 [some (.ref 192), some (.int (nI p)), some (.int (nI q)), some (.int (nI r)), some (.int (nI s))] [.int (nI r), .ref 209, .int (I 209 q), .int (nI q), .ref 209] (n, T3, J, R) 0 0
  refine q_ial (m := r) rfl (⟨by decide, Nat.lt_of_lt_of_le (by decide) hK.1, rfl⟩) (hr) (rfl) ?_
  refine q_top (w := c1) (by rw [eT3, q_usk]) ?_
  refine q_k 2 ?_
  show q_W L (d + 1) 83 q_m83 Q 77 [some (.ref 192), some (.int (nI p)), some (.int (nI q)), some (.int (nI r)), some (.int (nI s))] [.int (nI 12), .int ((I 209 q) ^^^ c1), .int (nI q), .ref 209] (n, T3, J, R) 0 0
  refine q_cs (as := [.int ((I 209 q) ^^^ c1), .int (nI 12)]) (rs := [.int (nI q), .ref 209]) rfl rfl rfl rfl rfl ?_
  refine m_rot (by decide) ?_
  show q_W L (d + 1) 83 q_m83 Q 80 [some (.ref 192), some (.int (nI p)), some (.int (nI q)), some (.int (nI r)), some (.int (nI s))] [.int (g_rot ((I 209 q) ^^^ c1) 12 (32 - 12)), .int (nI q), .ref 209] (n, T3, J, R) 0 0
  obtain ⟨b1, eb1⟩ : ∃ zz9, zz9 = g_rot ((I 209 q) ^^^ c1) 12 (32 - 12) := ⟨_, rfl⟩
  rw [← eb1]
  refine q_ias (m := q) rfl (⟨by decide, Nat.lt_of_lt_of_le (by decide) hK.1, rfl⟩) (hq) (rfl) ?_
  obtain ⟨T4, eT4⟩ : ∃ zz9, zz9 = q_up T3 209 q b1 := ⟨_, rfl⟩
  rw [← eT4]
  refine q_k 1 ?_
  show q_W L (d + 1) 83 q_m83 Q 82 [some (.ref 192), some (.int (nI p)), some (.int (nI q)), some (.int (nI r)), some (.int (nI s))] [.ref 192] (n, T4, J, R) 0 0
  refine q_gR (b := 209) rfl rfl (⟨Nat.lt_of_lt_of_le (by decide) hK.1, rfl⟩) (hK.2.1 192 18 209 rfl) ?_
  refine q_k 2 ?_
  show q_W L (d + 1) 83 q_m83 Q 87 [some (.ref 192), some (.int (nI p)), some (.int (nI q)), some (.int (nI r)), some (.int (nI s))] [.int (nI p), .ref 209, .int (nI p), .ref 209] (n, T4, J, R) 0 0
  refine q_ial (m := p) rfl (⟨by decide, Nat.lt_of_lt_of_le (by decide) hK.1, rfl⟩) (hp) (rfl) ?_
  refine q_top (w := a1) (by rw [eT4, q_usn (Ne.symm hqp), eT3, q_usn (Ne.symm hrp), eT2, q_usn (Ne.symm hsp), eT1, q_usk]) ?_
  refine q_k 1 ?_
  show q_W L (d + 1) 83 q_m83 Q 89 [some (.ref 192), some (.int (nI p)), some (.int (nI q)), some (.int (nI r)), some (.int (nI s))] [.ref 192, .int a1, .int (nI p), .ref 209] (n, T4, J, R) 0 0
  refine q_gR (b := 209) rfl rfl (⟨Nat.lt_of_lt_of_le (by decide) hK.1, rfl⟩) (hK.2.1 192 18 209 rfl) ?_
  refine q_k 1 ?_
  show q_W L (d + 1) 83 q_m83 Q 93 [some (.ref 192), some (.int (nI p)), some (.int (nI q)), some (.int (nI r)), some (.int (nI s))] [.int (nI q), .ref 209, .int a1, .int (nI p), .ref 209] (n, T4, J, R) 0 0
  refine q_ial (m := q) rfl (⟨by decide, Nat.lt_of_lt_of_le (by decide) hK.1, rfl⟩) (hq) (rfl) ?_
  refine q_top (w := b1) (by rw [eT4, q_usk]) ?_
  refine q_k 1 ?_
  show q_W L (d + 1) 83 q_m83 Q 95 [some (.ref 192), some (.int (nI p)), some (.int (nI q)), some (.int (nI r)), some (.int (nI s))] [.int (a1 + b1), .int (nI p), .ref 209] (n, T4, J, R) 0 0
  obtain ⟨a2, ea2⟩ : ∃ zz9, zz9 = a1 + b1 := ⟨_, rfl⟩
  rw [← ea2]
  refine q_ias (m := p) rfl (⟨by decide, Nat.lt_of_lt_of_le (by decide) hK.1, rfl⟩) (hp) (rfl) ?_
  obtain ⟨T5, eT5⟩ : ∃ zz9, zz9 = q_up T4 209 p a2 := ⟨_, rfl⟩
  rw [← eT5]
  refine q_k 1 ?_
  show q_W L (d + 1) 83 q_m83 Q 97 [some (.ref 192), some (.int (nI p)), some (.int (nI q)), some (.int (nI r)), some (.int (nI s))] [.ref 192] (n, T5, J, R) 0 0
  refine q_gR (b := 209) rfl rfl (⟨Nat.lt_of_lt_of_le (by decide) hK.1, rfl⟩) (hK.2.1 192 18 209 rfl) ?_
  refine q_k 2 ?_
  show q_W L (d + 1) 83 q_m83 Q 103 [some (.ref 192), some (.int (nI p)), some (.int (nI q)), some (.int (nI r)), some (.int (nI s))] [.ref 192, .int (nI s), .ref 209] (n, T5, J, R) 0 0
  refine q_gR (b := 209) rfl rfl (⟨Nat.lt_of_lt_of_le (by decide) hK.1, rfl⟩) (hK.2.1 192 18 209 rfl) ?_
  refine q_k 1 ?_
  show q_W L (d + 1) 83 q_m83 Q 108 [some (.ref 192), some (.int (nI p)), some (.int (nI q)), some (.int (nI r)), some (.int (nI s))] [.int (nI s), .ref 209, .int (nI s), .ref 209] (n, T5, J, R) 0 0
  refine q_ial (m := s) rfl (⟨by decide, Nat.lt_of_lt_of_le (by decide) hK.1, rfl⟩) (hs) (rfl) ?_
  refine q_top (w := d1) (by rw [eT5, q_usn hsp, eT4, q_usn (Ne.symm hqs), eT3, q_usn (Ne.symm hrs), eT2, q_usk]) ?_
  refine q_k 1 ?_
  show q_W L (d + 1) 83 q_m83 Q 110 [some (.ref 192), some (.int (nI p)), some (.int (nI q)), some (.int (nI r)), some (.int (nI s))] [.ref 192, .int d1, .int (nI s), .ref 209] (n, T5, J, R) 0 0
  refine q_gR (b := 209) rfl rfl (⟨Nat.lt_of_lt_of_le (by decide) hK.1, rfl⟩) (hK.2.1 192 18 209 rfl) ?_
  refine q_k 1 ?_
  show q_W L (d + 1) 83 q_m83 Q 114 [some (.ref 192), some (.int (nI p)), some (.int (nI q)), some (.int (nI r)), some (.int (nI s))] [.int (nI p), .ref 209, .int d1, .int (nI s), .ref 209] (n, T5, J, R) 0 0
  refine q_ial (m := p) rfl (⟨by decide, Nat.lt_of_lt_of_le (by decide) hK.1, rfl⟩) (hp) (rfl) ?_
  refine q_top (w := a2) (by rw [eT5, q_usk]) ?_
  refine q_k 2 ?_
  show q_W L (d + 1) 83 q_m83 Q 118 [some (.ref 192), some (.int (nI p)), some (.int (nI q)), some (.int (nI r)), some (.int (nI s))] [.int (nI 8), .int (d1 ^^^ a2), .int (nI s), .ref 209] (n, T5, J, R) 0 0
  refine q_cs (as := [.int (d1 ^^^ a2), .int (nI 8)]) (rs := [.int (nI s), .ref 209]) rfl rfl rfl rfl rfl ?_
  refine m_rot (by decide) ?_
  show q_W L (d + 1) 83 q_m83 Q 121 [some (.ref 192), some (.int (nI p)), some (.int (nI q)), some (.int (nI r)), some (.int (nI s))] [.int (g_rot (d1 ^^^ a2) 8 (32 - 8)), .int (nI s), .ref 209] (n, T5, J, R) 0 0
  obtain ⟨d2, ed2⟩ : ∃ zz9, zz9 = g_rot (d1 ^^^ a2) 8 (32 - 8) := ⟨_, rfl⟩
  rw [← ed2]
  refine q_ias (m := s) rfl (⟨by decide, Nat.lt_of_lt_of_le (by decide) hK.1, rfl⟩) (hs) (rfl) ?_
  obtain ⟨T6, eT6⟩ : ∃ zz9, zz9 = q_up T5 209 s d2 := ⟨_, rfl⟩
  rw [← eT6]
  refine q_k 1 ?_
  show q_W L (d + 1) 83 q_m83 Q 123 [some (.ref 192), some (.int (nI p)), some (.int (nI q)), some (.int (nI r)), some (.int (nI s))] [.ref 192] (n, T6, J, R) 0 0
  refine q_gR (b := 209) rfl rfl (⟨Nat.lt_of_lt_of_le (by decide) hK.1, rfl⟩) (hK.2.1 192 18 209 rfl) ?_
  refine q_k 2 ?_
  show q_W L (d + 1) 83 q_m83 Q 128 [some (.ref 192), some (.int (nI p)), some (.int (nI q)), some (.int (nI r)), some (.int (nI s))] [.int (nI r), .ref 209, .int (nI r), .ref 209] (n, T6, J, R) 0 0
  refine q_ial (m := r) rfl (⟨by decide, Nat.lt_of_lt_of_le (by decide) hK.1, rfl⟩) (hr) (rfl) ?_
  refine q_top (w := c1) (by rw [eT6, q_usn hrs, eT5, q_usn hrp, eT4, q_usn (Ne.symm hqr), eT3, q_usk]) ?_
  refine q_k 1 ?_
  show q_W L (d + 1) 83 q_m83 Q 130 [some (.ref 192), some (.int (nI p)), some (.int (nI q)), some (.int (nI r)), some (.int (nI s))] [.ref 192, .int c1, .int (nI r), .ref 209] (n, T6, J, R) 0 0
  refine q_gR (b := 209) rfl rfl (⟨Nat.lt_of_lt_of_le (by decide) hK.1, rfl⟩) (hK.2.1 192 18 209 rfl) ?_
  refine q_k 1 ?_
  show q_W L (d + 1) 83 q_m83 Q 135 [some (.ref 192), some (.int (nI p)), some (.int (nI q)), some (.int (nI r)), some (.int (nI s))] [.int (nI s), .ref 209, .int c1, .int (nI r), .ref 209] (n, T6, J, R) 0 0
  refine q_ial (m := s) rfl (⟨by decide, Nat.lt_of_lt_of_le (by decide) hK.1, rfl⟩) (hs) (rfl) ?_
  refine q_top (w := d2) (by rw [eT6, q_usk]) ?_
  refine q_k 1 ?_
  show q_W L (d + 1) 83 q_m83 Q 137 [some (.ref 192), some (.int (nI p)), some (.int (nI q)), some (.int (nI r)), some (.int (nI s))] [.int (c1 + d2), .int (nI r), .ref 209] (n, T6, J, R) 0 0
  obtain ⟨c2, ec2⟩ : ∃ zz9, zz9 = c1 + d2 := ⟨_, rfl⟩
  rw [← ec2]
  refine q_ias (m := r) rfl (⟨by decide, Nat.lt_of_lt_of_le (by decide) hK.1, rfl⟩) (hr) (rfl) ?_
  obtain ⟨T7, eT7⟩ : ∃ zz9, zz9 = q_up T6 209 r c2 := ⟨_, rfl⟩
  rw [← eT7]
  refine q_k 1 ?_
  show q_W L (d + 1) 83 q_m83 Q 139 [some (.ref 192), some (.int (nI p)), some (.int (nI q)), some (.int (nI r)), some (.int (nI s))] [.ref 192] (n, T7, J, R) 0 0
  refine q_gR (b := 209) rfl rfl (⟨Nat.lt_of_lt_of_le (by decide) hK.1, rfl⟩) (hK.2.1 192 18 209 rfl) ?_
  refine q_k 2 ?_
  show q_W L (d + 1) 83 q_m83 Q 144 [some (.ref 192), some (.int (nI p)), some (.int (nI q)), some (.int (nI r)), some (.int (nI s))] [.ref 192, .int (nI q), .ref 209] (n, T7, J, R) 0 0
  refine q_gR (b := 209) rfl rfl (⟨Nat.lt_of_lt_of_le (by decide) hK.1, rfl⟩) (hK.2.1 192 18 209 rfl) ?_
  refine q_k 1 ?_
  show q_W L (d + 1) 83 q_m83 Q 148 [some (.ref 192), some (.int (nI p)), some (.int (nI q)), some (.int (nI r)), some (.int (nI s))] [.int (nI q), .ref 209, .int (nI q), .ref 209] (n, T7, J, R) 0 0
  refine q_ial (m := q) rfl (⟨by decide, Nat.lt_of_lt_of_le (by decide) hK.1, rfl⟩) (hq) (rfl) ?_
  refine q_top (w := b1) (by rw [eT7, q_usn hqr, eT6, q_usn hqs, eT5, q_usn hqp, eT4, q_usk]) ?_
  refine q_k 1 ?_
  show q_W L (d + 1) 83 q_m83 Q 150 [some (.ref 192), some (.int (nI p)), some (.int (nI q)), some (.int (nI r)), some (.int (nI s))] [.ref 192, .int b1, .int (nI q), .ref 209] (n, T7, J, R) 0 0
  refine q_gR (b := 209) rfl rfl (⟨Nat.lt_of_lt_of_le (by decide) hK.1, rfl⟩) (hK.2.1 192 18 209 rfl) ?_
  refine q_k 1 ?_
  show q_W L (d + 1) 83 q_m83 Q 154 [some (.ref 192), some (.int (nI p)), some (.int (nI q)), some (.int (nI r)), some (.int (nI s))] [.int (nI r), .ref 209, .int b1, .int (nI q), .ref 209] (n, T7, J, R) 0 0
  refine q_ial (m := r) rfl (⟨by decide, Nat.lt_of_lt_of_le (by decide) hK.1, rfl⟩) (hr) (rfl) ?_
  refine q_top (w := c2) (by rw [eT7, q_usk]) ?_
  refine q_k 2 ?_
  show q_W L (d + 1) 83 q_m83 Q 158 [some (.ref 192), some (.int (nI p)), some (.int (nI q)), some (.int (nI r)), some (.int (nI s))] [.int (nI 7), .int (b1 ^^^ c2), .int (nI q), .ref 209] (n, T7, J, R) 0 0
  refine q_cs (as := [.int (b1 ^^^ c2), .int (nI 7)]) (rs := [.int (nI q), .ref 209]) rfl rfl rfl rfl rfl ?_
  refine m_rot (by decide) ?_
  show q_W L (d + 1) 83 q_m83 Q 161 [some (.ref 192), some (.int (nI p)), some (.int (nI q)), some (.int (nI r)), some (.int (nI s))] [.int (g_rot (b1 ^^^ c2) 7 (32 - 7)), .int (nI q), .ref 209] (n, T7, J, R) 0 0
  obtain ⟨b2, eb2⟩ : ∃ zz9, zz9 = g_rot (b1 ^^^ c2) 7 (32 - 7) := ⟨_, rfl⟩
  rw [← eb2]
  refine q_ias (m := q) rfl (⟨by decide, Nat.lt_of_lt_of_le (by decide) hK.1, rfl⟩) (hq) (rfl) ?_
  obtain ⟨T8, eT8⟩ : ∃ zz9, zz9 = q_up T7 209 q b2 := ⟨_, rfl⟩
  rw [← eT8]
  refine q_one rfl rfl ?_
  show Q (none) (n, T8, J, R)
  have e2 : (a2, b2, c2, d2) = g_q (I 209 p) (I 209 q) (I 209 r) (I 209 s) := by subst eb2 ec2 ed2 ea2 eb1 ec1 ed1 ea1; rfl
  refine hQ T8 (fun i => ?_) (fun x hx => ?_)
  · unfold g_turn
    rw [← e2, eT8]
    by_cases hiq : i = q
    · subst hiq; rw [q_usk, va_up_ne _ _ hqs, va_up_ne _ _ hqr, va_up_self]
    · rw [q_usn hiq, eT7]
      by_cases hir : i = r
      · subst hir; rw [q_usk, va_up_ne _ _ hrs, va_up_self]
      · rw [q_usn hir, eT6]
        by_cases his : i = s
        · subst his; rw [q_usk, va_up_self]
        · rw [q_usn his, va_up_ne _ _ his, va_up_ne _ _ hir, va_up_ne _ _ hiq, eT5]
          by_cases hip : i = p
          · subst hip; rw [q_usk, va_up_self]
          · rw [q_usn hip, va_up_ne _ _ hip, eT4, q_usn hiq, eT3, q_usn hir, eT2, q_usn his, eT1, q_usn hip]
  · rw [eT8, q_un hx, eT7, q_un hx, eT6, q_un hx, eT5, q_un hx, eT4, q_un hx, eT3, q_un hx, eT2, q_un hx, eT1, q_un hx]
set_option maxHeartbeats 2000000 in
theorem m_mixed {L d n : Nat} {I : q_I} {J : q_L} {R : q_R} {Q : q_Q} {fr pl len : Nat} {a b c e : Int32} (hK : q_K0 n I R) (hf : q_ar n fr 0 len) (hl : Nat.ble len 10000 = true) (hpl : pl + 8 ≤ len) (hf9 : fr ≠ 209) (hQ : ∀ I', (∀ i, i < 8 → I' 211 i = g_mix (fun j => I fr (pl + j)) a b c e i) → (∀ x, x ≠ 209 → x ≠ 210 → x ≠ 211 → I' x = I x) → Q none (n, I', J, R)) : q_Ex L (d + 3) 84 [.ref 192, .ref fr, .int (nI pl), .int a, .int b, .int c, .int e] (n, I, J, R) Q := by
  refine q_in (x := q_m84) rfl rfl ?_
  show q_W L (d + 2) 84 q_m84 Q 0 [some (.ref 192), some (.ref fr), some (.int (nI pl)), some (.int a), some (.int b), some (.int c), some (.int e), none, none] [] (n, I, J, R) 0 0
  refine q_k 1 ?_
  show q_W L (d + 2) 84 q_m84 Q 1 [some (.ref 192), some (.ref fr), some (.int (nI pl)), some (.int a), some (.int b), some (.int c), some (.int e), none, none] [.ref 192] (n, I, J, R) 0 0
  refine q_gR (b := 209) rfl rfl (⟨Nat.lt_of_lt_of_le (by decide) hK.1, rfl⟩) (hK.2.1 192 18 209 rfl) ?_
  refine q_k 2 ?_
  show q_W L (d + 2) 84 q_m84 Q 7 [some (.ref 192), some (.ref fr), some (.int (nI pl)), some (.int a), some (.int b), some (.int c), some (.int e), none, none] [.int (nI 1634760805), .int (nI 0), .ref 209] (n, I, J, R) 0 0
  refine q_ias (m := 0) rfl (⟨by decide, Nat.lt_of_lt_of_le (by decide) hK.1, rfl⟩) (by decide) (rfl) ?_
  refine q_k 1 ?_
  show q_W L (d + 2) 84 q_m84 Q 9 [some (.ref 192), some (.ref fr), some (.int (nI pl)), some (.int a), some (.int b), some (.int c), some (.int e), none, none] [.ref 192] (n, q_up I 209 0 (nI 1634760805), J, R) 0 0
  refine q_gR (b := 209) rfl rfl (⟨Nat.lt_of_lt_of_le (by decide) hK.1, rfl⟩) (hK.2.1 192 18 209 rfl) ?_
  refine q_k 2 ?_
  show q_W L (d + 2) 84 q_m84 Q 15 [some (.ref 192), some (.ref fr), some (.int (nI pl)), some (.int a), some (.int b), some (.int c), some (.int e), none, none] [.int (nI 857760878), .int (nI 1), .ref 209] (n, q_up I 209 0 (nI 1634760805), J, R) 0 0
  refine q_ias (m := 1) rfl (⟨by decide, Nat.lt_of_lt_of_le (by decide) hK.1, rfl⟩) (by decide) (rfl) ?_
  refine q_k 1 ?_
  show q_W L (d + 2) 84 q_m84 Q 17 [some (.ref 192), some (.ref fr), some (.int (nI pl)), some (.int a), some (.int b), some (.int c), some (.int e), none, none] [.ref 192] (n, q_up (q_up I 209 0 (nI 1634760805)) 209 1 (nI 857760878), J, R) 0 0
  refine q_gR (b := 209) rfl rfl (⟨Nat.lt_of_lt_of_le (by decide) hK.1, rfl⟩) (hK.2.1 192 18 209 rfl) ?_
  refine q_k 2 ?_
  show q_W L (d + 2) 84 q_m84 Q 23 [some (.ref 192), some (.ref fr), some (.int (nI pl)), some (.int a), some (.int b), some (.int c), some (.int e), none, none] [.int (nI 2036477234), .int (nI 2), .ref 209] (n, q_up (q_up I 209 0 (nI 1634760805)) 209 1 (nI 857760878), J, R) 0 0
  refine q_ias (m := 2) rfl (⟨by decide, Nat.lt_of_lt_of_le (by decide) hK.1, rfl⟩) (by decide) (rfl) ?_
  refine q_k 1 ?_
  show q_W L (d + 2) 84 q_m84 Q 25 [some (.ref 192), some (.ref fr), some (.int (nI pl)), some (.int a), some (.int b), some (.int c), some (.int e), none, none] [.ref 192] (n, q_up (q_up (q_up I 209 0 (nI 1634760805)) 209 1 (nI 857760878)) 209 2 (nI 2036477234), J, R) 0 0
  refine q_gR (b := 209) rfl rfl (⟨Nat.lt_of_lt_of_le (by decide) hK.1, rfl⟩) (hK.2.1 192 18 209 rfl) ?_
  refine q_k 2 ?_
  show q_W L (d + 2) 84 q_m84 Q 31 [some (.ref 192), some (.ref fr), some (.int (nI pl)), some (.int a), some (.int b), some (.int c), some (.int e), none, none] [.int (nI 1797285236), .int (nI 3), .ref 209] (n, q_up (q_up (q_up I 209 0 (nI 1634760805)) 209 1 (nI 857760878)) 209 2 (nI 2036477234), J, R) 0 0
  refine q_ias (m := 3) rfl (⟨by decide, Nat.lt_of_lt_of_le (by decide) hK.1, rfl⟩) (by decide) (rfl) ?_
  obtain ⟨A0, eA0⟩ : ∃ zz9, zz9 = q_up (q_up (q_up (q_up I 209 0 (nI 1634760805)) 209 1 (nI 857760878)) 209 2 (nI 2036477234)) 209 3 (nI 1797285236) := ⟨_, rfl⟩
  rw [← eA0]
  refine q_k 2 ?_
  show q_W L (d + 2) 84 q_m84 Q 35 [some (.ref 192), some (.ref fr), some (.int (nI pl)), some (.int a), some (.int b), some (.int c), some (.int e), some (.int (nI 0)), none] [] (n, A0, J, R) 0 0
  refine q_loop (σ := q_I) 8 (fun k I2 => (I2 209 0 = nI 1634760805 ∧ I2 209 1 = nI 857760878 ∧ I2 209 2 = nI 2036477234 ∧ I2 209 3 = nI 1797285236) ∧ (∀ i, i < k → I2 209 (4 + i) = I fr (pl + i)) ∧ ∀ x, x ≠ 209 → I2 x = I x) (fun k I2 => q_W L (d + 2) 84 q_m84 Q 35 [some (.ref 192), some (.ref fr), some (.int (nI pl)), some (.int a), some (.int b), some (.int c), some (.int e), some (.int (nI k)), none] [] (n, I2, J, R) 0 0) ?_ ?_ 0 A0 (Nat.zero_le _) ?_
  · intro I2 hI2
    show q_W L (d + 2) 84 q_m84 Q 35 [some (.ref 192), some (.ref fr), some (.int (nI pl)), some (.int a), some (.int b), some (.int c), some (.int e), some (.int (nI 8)), none] [] (n, I2, J, R) 0 0
    obtain ⟨⟨k0, k1, k2, k3⟩, kk, kf⟩ := hI2
    refine q_k 2 ?_
    show q_W L (d + 2) 84 q_m84 Q 39 [some (.ref 192), some (.ref fr), some (.int (nI pl)), some (.int a), some (.int b), some (.int c), some (.int e), some (.int (nI 8)), none] [.int (nI 8), .int (nI 8)] (n, I2, J, R) 0 0
    refine q_one rfl rfl ?_
    show ((nI 8) ≤ (nI 8) → q_W L (d + 2) 84 q_m84 Q 63 [some (.ref 192), some (.ref fr), some (.int (nI pl)), some (.int a), some (.int b), some (.int c), some (.int e), some (.int (nI 8)), none] [] (n, I2, J, R) 0 0) ∧ (¬ (nI 8) ≤ (nI 8) → q_W L (d + 2) 84 q_m84 Q 42 [some (.ref 192), some (.ref fr), some (.int (nI pl)), some (.int a), some (.int b), some (.int c), some (.int e), some (.int (nI 8)), none] [] (n, I2, J, R) 0 0)
    refine ⟨fun _ => ?_, fun z => absurd (nI_le (Nat.le_refl _) (by decide)) z⟩
    refine q_k 1 ?_
    show q_W L (d + 2) 84 q_m84 Q 64 [some (.ref 192), some (.ref fr), some (.int (nI pl)), some (.int a), some (.int b), some (.int c), some (.int e), some (.int (nI 8)), none] [.ref 192] (n, I2, J, R) 0 0
    refine q_gR (b := 209) rfl rfl (⟨Nat.lt_of_lt_of_le (by decide) hK.1, rfl⟩) (hK.2.1 192 18 209 rfl) ?_
    refine q_k 2 ?_
    show q_W L (d + 2) 84 q_m84 Q 70 [some (.ref 192), some (.ref fr), some (.int (nI pl)), some (.int a), some (.int b), some (.int c), some (.int e), some (.int (nI 8)), none] [.int a, .int (nI 12), .ref 209] (n, I2, J, R) 0 0
    refine q_ias (m := 12) rfl (⟨by decide, Nat.lt_of_lt_of_le (by decide) hK.1, rfl⟩) (by decide) (rfl) ?_
    refine q_k 1 ?_
    show q_W L (d + 2) 84 q_m84 Q 72 [some (.ref 192), some (.ref fr), some (.int (nI pl)), some (.int a), some (.int b), some (.int c), some (.int e), some (.int (nI 8)), none] [.ref 192] (n, q_up I2 209 12 a, J, R) 0 0
    refine q_gR (b := 209) rfl rfl (⟨Nat.lt_of_lt_of_le (by decide) hK.1, rfl⟩) (hK.2.1 192 18 209 rfl) ?_
    refine q_k 2 ?_
    show q_W L (d + 2) 84 q_m84 Q 79 [some (.ref 192), some (.ref fr), some (.int (nI pl)), some (.int a), some (.int b), some (.int c), some (.int e), some (.int (nI 8)), none] [.int b, .int (nI 13), .ref 209] (n, q_up I2 209 12 a, J, R) 0 0
    refine q_ias (m := 13) rfl (⟨by decide, Nat.lt_of_lt_of_le (by decide) hK.1, rfl⟩) (by decide) (rfl) ?_
    refine q_k 1 ?_
    show q_W L (d + 2) 84 q_m84 Q 81 [some (.ref 192), some (.ref fr), some (.int (nI pl)), some (.int a), some (.int b), some (.int c), some (.int e), some (.int (nI 8)), none] [.ref 192] (n, q_up (q_up I2 209 12 a) 209 13 b, J, R) 0 0
    refine q_gR (b := 209) rfl rfl (⟨Nat.lt_of_lt_of_le (by decide) hK.1, rfl⟩) (hK.2.1 192 18 209 rfl) ?_
    refine q_k 2 ?_
    show q_W L (d + 2) 84 q_m84 Q 88 [some (.ref 192), some (.ref fr), some (.int (nI pl)), some (.int a), some (.int b), some (.int c), some (.int e), some (.int (nI 8)), none] [.int c, .int (nI 14), .ref 209] (n, q_up (q_up I2 209 12 a) 209 13 b, J, R) 0 0
    refine q_ias (m := 14) rfl (⟨by decide, Nat.lt_of_lt_of_le (by decide) hK.1, rfl⟩) (by decide) (rfl) ?_
    refine q_k 1 ?_
    show q_W L (d + 2) 84 q_m84 Q 90 [some (.ref 192), some (.ref fr), some (.int (nI pl)), some (.int a), some (.int b), some (.int c), some (.int e), some (.int (nI 8)), none] [.ref 192] (n, q_up (q_up (q_up I2 209 12 a) 209 13 b) 209 14 c, J, R) 0 0
    refine q_gR (b := 209) rfl rfl (⟨Nat.lt_of_lt_of_le (by decide) hK.1, rfl⟩) (hK.2.1 192 18 209 rfl) ?_
    refine q_k 2 ?_
    show q_W L (d + 2) 84 q_m84 Q 97 [some (.ref 192), some (.ref fr), some (.int (nI pl)), some (.int a), some (.int b), some (.int c), some (.int e), some (.int (nI 8)), none] [.int e, .int (nI 15), .ref 209] (n, q_up (q_up (q_up I2 209 12 a) 209 13 b) 209 14 c, J, R) 0 0
    refine q_ias (m := 15) rfl (⟨by decide, Nat.lt_of_lt_of_le (by decide) hK.1, rfl⟩) (by decide) (rfl) ?_
    obtain ⟨B0, eB0⟩ : ∃ zz9, zz9 = q_up (q_up (q_up (q_up I2 209 12 a) 209 13 b) 209 14 c) 209 15 e := ⟨_, rfl⟩
    rw [← eB0]
    refine q_k 2 ?_
    show q_W L (d + 2) 84 q_m84 Q 101 [some (.ref 192), some (.ref fr), some (.int (nI pl)), some (.int a), some (.int b), some (.int c), some (.int e), some (.int (nI 0)), none] [] (n, B0, J, R) 0 0
    have hb : g_e16 (B0 209) (g_st (fun j => I fr (pl + j)) a b c e) := by
      intro i hi
      rw [eB0]
      unfold g_st
      by_cases e15 : i = 15
      · subst e15; rw [q_usk]; rfl
      · rw [q_usn e15]
        by_cases e14 : i = 14
        · subst e14; rw [q_usk]; rfl
        · rw [q_usn e14]
          by_cases e13 : i = 13
          · subst e13; rw [q_usk]; rfl
          · rw [q_usn e13]
            by_cases e12 : i = 12
            · subst e12; rw [q_usk]; rfl
            · rw [q_usn e12]
              by_cases hlt : i < 4
              · rw [if_pos hlt]
                have e4 : i = 0 ∨ i = 1 ∨ i = 2 ∨ i = 3 := by omega
                rcases e4 with rfl | rfl | rfl | rfl
                · exact k0
                · exact k1
                · exact k2
                · exact k3
              · rw [if_neg hlt, if_pos (by omega)]
                show I2 209 i = I fr (pl + (i - 4))
                rw [← kk (i - 4) (by omega), show 4 + (i - 4) = i by omega]
    have hbo : ∀ x, x ≠ 209 → B0 x = I x := fun x hx => by rw [eB0, q_un hx, q_un hx, q_un hx, q_un hx]; exact kf x hx
    refine q_loop (σ := q_I) 16 (fun k I3 => g_e16 (I3 209) (g_st (fun j => I fr (pl + j)) a b c e) ∧ (∀ i, i < k → I3 210 i = (g_st (fun j => I fr (pl + j)) a b c e) i) ∧ ∀ x, x ≠ 209 → x ≠ 210 → I3 x = I x) (fun k I3 => q_W L (d + 2) 84 q_m84 Q 101 [some (.ref 192), some (.ref fr), some (.int (nI pl)), some (.int a), some (.int b), some (.int c), some (.int e), some (.int (nI k)), none] [] (n, I3, J, R) 0 0) ?_ ?_ 0 B0 (Nat.zero_le _) ?_
    · intro I3 hI3
      show q_W L (d + 2) 84 q_m84 Q 101 [some (.ref 192), some (.ref fr), some (.int (nI pl)), some (.int a), some (.int b), some (.int c), some (.int e), some (.int (nI 16)), none] [] (n, I3, J, R) 0 0
      refine q_k 2 ?_
      show q_W L (d + 2) 84 q_m84 Q 105 [some (.ref 192), some (.ref fr), some (.int (nI pl)), some (.int a), some (.int b), some (.int c), some (.int e), some (.int (nI 16)), none] [.int (nI 16), .int (nI 16)] (n, I3, J, R) 0 0
      refine q_one rfl rfl ?_
      show ((nI 16) ≤ (nI 16) → q_W L (d + 2) 84 q_m84 Q 128 [some (.ref 192), some (.ref fr), some (.int (nI pl)), some (.int a), some (.int b), some (.int c), some (.int e), some (.int (nI 16)), none] [] (n, I3, J, R) 0 0) ∧ (¬ (nI 16) ≤ (nI 16) → q_W L (d + 2) 84 q_m84 Q 108 [some (.ref 192), some (.ref fr), some (.int (nI pl)), some (.int a), some (.int b), some (.int c), some (.int e), some (.int (nI 16)), none] [] (n, I3, J, R) 0 0)
      refine ⟨fun _ => ?_, fun z => absurd (nI_le (Nat.le_refl _) (by decide)) z⟩
      refine q_k 2 ?_
      show q_W L (d + 2) 84 q_m84 Q 131 [some (.ref 192), some (.ref fr), some (.int (nI pl)), some (.int a), some (.int b), some (.int c), some (.int e), some (.int (nI 0)), none] [] (n, I3, J, R) 0 0
      refine q_loop (σ := q_I) 10 (fun k I4 => g_e16 (I4 209) (g_rds k (g_st (fun j => I fr (pl + j)) a b c e)) ∧ g_e16 (I4 210) (g_st (fun j => I fr (pl + j)) a b c e) ∧ ∀ x, x ≠ 209 → x ≠ 210 → I4 x = I x) (fun k I4 => q_W L (d + 2) 84 q_m84 Q 131 [some (.ref 192), some (.ref fr), some (.int (nI pl)), some (.int a), some (.int b), some (.int c), some (.int e), some (.int (nI k)), none] [] (n, I4, J, R) 0 0) ?_ ?_ 0 I3 (Nat.zero_le _) ?_
      · intro I4 hI4
        show q_W L (d + 2) 84 q_m84 Q 131 [some (.ref 192), some (.ref fr), some (.int (nI pl)), some (.int a), some (.int b), some (.int c), some (.int e), some (.int (nI 10)), none] [] (n, I4, J, R) 0 0
        refine q_k 2 ?_
        show q_W L (d + 2) 84 q_m84 Q 135 [some (.ref 192), some (.ref fr), some (.int (nI pl)), some (.int a), some (.int b), some (.int c), some (.int e), some (.int (nI 10)), none] [.int (nI 10), .int (nI 10)] (n, I4, J, R) 0 0
        refine q_one rfl rfl ?_
        show ((nI 10) ≤ (nI 10) → q_W L (d + 2) 84 q_m84 Q 226 [some (.ref 192), some (.ref fr), some (.int (nI pl)), some (.int a), some (.int b), some (.int c), some (.int e), some (.int (nI 10)), none] [] (n, I4, J, R) 0 0) ∧ (¬ (nI 10) ≤ (nI 10) → q_W L (d + 2) 84 q_m84 Q 138 [some (.ref 192), some (.ref fr), some (.int (nI pl)), some (.int a), some (.int b), some (.int c), some (.int e), some (.int (nI 10)), none] [] (n, I4, J, R) 0 0)
        refine ⟨fun _ => ?_, fun z => absurd (nI_le (Nat.le_refl _) (by decide)) z⟩
        refine q_k 2 ?_
        show q_W L (d + 2) 84 q_m84 Q 229 [some (.ref 192), some (.ref fr), some (.int (nI pl)), some (.int a), some (.int b), some (.int c), some (.int e), some (.int (nI 0)), none] [] (n, I4, J, R) 0 0
        refine q_loop (σ := q_I) 8 (fun k I5 => (∀ i, i < k → I5 211 i = g_mix (fun j => I fr (pl + j)) a b c e i) ∧ g_e16 (I5 209) (g_rds 10 (g_st (fun j => I fr (pl + j)) a b c e)) ∧ g_e16 (I5 210) (g_st (fun j => I fr (pl + j)) a b c e) ∧ ∀ x, x ≠ 209 → x ≠ 210 → x ≠ 211 → I5 x = I x) (fun k I5 => q_W L (d + 2) 84 q_m84 Q 229 [some (.ref 192), some (.ref fr), some (.int (nI pl)), some (.int a), some (.int b), some (.int c), some (.int e), some (.int (nI k)), none] [] (n, I5, J, R) 0 0) ?_ ?_ 0 I4 (Nat.zero_le _) ?_
        · intro I5 hI5
          show q_W L (d + 2) 84 q_m84 Q 229 [some (.ref 192), some (.ref fr), some (.int (nI pl)), some (.int a), some (.int b), some (.int c), some (.int e), some (.int (nI 8)), none] [] (n, I5, J, R) 0 0
          refine q_k 2 ?_
          show q_W L (d + 2) 84 q_m84 Q 233 [some (.ref 192), some (.ref fr), some (.int (nI pl)), some (.int a), some (.int b), some (.int c), some (.int e), some (.int (nI 8)), none] [.int (nI 8), .int (nI 8)] (n, I5, J, R) 0 0
          refine q_one rfl rfl ?_
          show ((nI 8) ≤ (nI 8) → q_W L (d + 2) 84 q_m84 Q 264 [some (.ref 192), some (.ref fr), some (.int (nI pl)), some (.int a), some (.int b), some (.int c), some (.int e), some (.int (nI 8)), none] [] (n, I5, J, R) 0 0) ∧ (¬ (nI 8) ≤ (nI 8) → q_W L (d + 2) 84 q_m84 Q 236 [some (.ref 192), some (.ref fr), some (.int (nI pl)), some (.int a), some (.int b), some (.int c), some (.int e), some (.int (nI 8)), none] [] (n, I5, J, R) 0 0)
          refine ⟨fun _ => ?_, fun z => absurd (nI_le (Nat.le_refl _) (by decide)) z⟩
          refine q_one rfl rfl ?_
          show Q (none) (n, I5, J, R)
          exact hQ I5 (fun i hi => hI5.1 i hi) hI5.2.2.2
        · intro k I5 hk hI5 ih
          show q_W L (d + 2) 84 q_m84 Q 229 [some (.ref 192), some (.ref fr), some (.int (nI pl)), some (.int a), some (.int b), some (.int c), some (.int e), some (.int (nI k)), none] [] (n, I5, J, R) 0 0
          refine q_k 2 ?_
          show q_W L (d + 2) 84 q_m84 Q 233 [some (.ref 192), some (.ref fr), some (.int (nI pl)), some (.int a), some (.int b), some (.int c), some (.int e), some (.int (nI k)), none] [.int (nI 8), .int (nI k)] (n, I5, J, R) 0 0
          refine q_one rfl rfl ?_
          show ((nI 8) ≤ (nI k) → q_W L (d + 2) 84 q_m84 Q 264 [some (.ref 192), some (.ref fr), some (.int (nI pl)), some (.int a), some (.int b), some (.int c), some (.int e), some (.int (nI k)), none] [] (n, I5, J, R) 0 0) ∧ (¬ (nI 8) ≤ (nI k) → q_W L (d + 2) 84 q_m84 Q 236 [some (.ref 192), some (.ref fr), some (.int (nI pl)), some (.int a), some (.int b), some (.int c), some (.int e), some (.int (nI k)), none] [] (n, I5, J, R) 0 0)
          refine ⟨fun z => absurd z (nI_ge hk (by decide)), fun _ => ?_⟩
          refine q_k 1 ?_
          show q_W L (d + 2) 84 q_m84 Q 237 [some (.ref 192), some (.ref fr), some (.int (nI pl)), some (.int a), some (.int b), some (.int c), some (.int e), some (.int (nI k)), none] [.ref 192] (n, I5, J, R) 0 0
          refine q_gR (b := 211) rfl rfl (⟨Nat.lt_of_lt_of_le (by decide) hK.1, rfl⟩) (hK.2.1 192 20 211 rfl) ?_
          refine q_k 2 ?_
          show q_W L (d + 2) 84 q_m84 Q 243 [some (.ref 192), some (.ref fr), some (.int (nI pl)), some (.int a), some (.int b), some (.int c), some (.int e), some (.int (nI k)), none] [.ref 192, .int (nI k), .ref 211] (n, I5, J, R) 0 0
          refine q_gR (b := 209) rfl rfl (⟨Nat.lt_of_lt_of_le (by decide) hK.1, rfl⟩) (hK.2.1 192 18 209 rfl) ?_
          refine q_k 1 ?_
          show q_W L (d + 2) 84 q_m84 Q 248 [some (.ref 192), some (.ref fr), some (.int (nI pl)), some (.int a), some (.int b), some (.int c), some (.int e), some (.int (nI k)), none] [.int (nI k), .ref 209, .int (nI k), .ref 211] (n, I5, J, R) 0 0
          refine q_ial (m := k) rfl (⟨by decide, Nat.lt_of_lt_of_le (by decide) hK.1, rfl⟩) (by omega) (rfl) ?_
          refine q_k 1 ?_
          show q_W L (d + 2) 84 q_m84 Q 250 [some (.ref 192), some (.ref fr), some (.int (nI pl)), some (.int a), some (.int b), some (.int c), some (.int e), some (.int (nI k)), none] [.ref 192, .int (I5 209 k), .int (nI k), .ref 211] (n, I5, J, R) 0 0
          refine q_gR (b := 210) rfl rfl (⟨Nat.lt_of_lt_of_le (by decide) hK.1, rfl⟩) (hK.2.1 192 19 210 rfl) ?_
          refine q_k 1 ?_
          show q_W L (d + 2) 84 q_m84 Q 255 [some (.ref 192), some (.ref fr), some (.int (nI pl)), some (.int a), some (.int b), some (.int c), some (.int e), some (.int (nI k)), none] [.int (nI k), .ref 210, .int (I5 209 k), .int (nI k), .ref 211] (n, I5, J, R) 0 0
          refine q_ial (m := k) rfl (⟨by decide, Nat.lt_of_lt_of_le (by decide) hK.1, rfl⟩) (by omega) (rfl) ?_
          refine q_k 1 ?_
          show q_W L (d + 2) 84 q_m84 Q 257 [some (.ref 192), some (.ref fr), some (.int (nI pl)), some (.int a), some (.int b), some (.int c), some (.int e), some (.int (nI k)), none] [.int ((I5 209 k) + (I5 210 k)), .int (nI k), .ref 211] (n, I5, J, R) 0 0
          refine q_ias (m := k) rfl (⟨by decide, Nat.lt_of_lt_of_le (by decide) hK.1, rfl⟩) (by omega) (rfl) ?_
          refine q_k 1 ?_
          show q_W L (d + 2) 84 q_m84 Q 261 [some (.ref 192), some (.ref fr), some (.int (nI pl)), some (.int a), some (.int b), some (.int c), some (.int e), some (.int ((nI k) + nI 1)), none] [] (n, q_up I5 211 k ((I5 209 k) + (I5 210 k)), J, R) 0 0
          rw [show (nI k) + nI 1 = nI (k + 1) from nI_add _ _]
          refine q_k 1 ?_
          show q_W L (d + 2) 84 q_m84 Q 229 [some (.ref 192), some (.ref fr), some (.int (nI pl)), some (.int a), some (.int b), some (.int c), some (.int e), some (.int (nI (k + 1))), none] [] (n, q_up I5 211 k ((I5 209 k) + (I5 210 k)), J, R) 0 0
          refine ih _ ⟨fun i hi => ?_, ?_, ?_, fun x h1 h2 h3 => ?_⟩
          · by_cases e : i = k
            · subst e
              rw [q_usk, hI5.2.1 i (by omega), hI5.2.2.1 i (by omega)]
              rfl
            · rw [q_usn e]; exact hI5.1 i (by omega)
          · rw [q_un (by decide)]; exact hI5.2.1
          · rw [q_un (by decide)]; exact hI5.2.2.1
          · rw [q_un h3]; exact hI5.2.2.2 x h1 h2 h3
        · exact ⟨fun i hi => absurd hi (Nat.not_lt_zero _), hI4.1, hI4.2.1, fun x h1 h2 _ => hI4.2.2 x h1 h2⟩
      · intro k I4 hk h6 ih
        show q_W L (d + 2) 84 q_m84 Q 131 [some (.ref 192), some (.ref fr), some (.int (nI pl)), some (.int a), some (.int b), some (.int c), some (.int e), some (.int (nI k)), none] [] (n, I4, J, R) 0 0
        refine q_k 2 ?_
        show q_W L (d + 2) 84 q_m84 Q 135 [some (.ref 192), some (.ref fr), some (.int (nI pl)), some (.int a), some (.int b), some (.int c), some (.int e), some (.int (nI k)), none] [.int (nI 10), .int (nI k)] (n, I4, J, R) 0 0
        refine q_one rfl rfl ?_
        show ((nI 10) ≤ (nI k) → q_W L (d + 2) 84 q_m84 Q 226 [some (.ref 192), some (.ref fr), some (.int (nI pl)), some (.int a), some (.int b), some (.int c), some (.int e), some (.int (nI k)), none] [] (n, I4, J, R) 0 0) ∧ (¬ (nI 10) ≤ (nI k) → q_W L (d + 2) 84 q_m84 Q 138 [some (.ref 192), some (.ref fr), some (.int (nI pl)), some (.int a), some (.int b), some (.int c), some (.int e), some (.int (nI k)), none] [] (n, I4, J, R) 0 0)
        refine ⟨fun z => absurd z (nI_ge hk (by decide)), fun _ => ?_⟩
        refine q_k 4 ?_
        show q_W L (d + 2) 84 q_m84 Q 144 [some (.ref 192), some (.ref fr), some (.int (nI pl)), some (.int a), some (.int b), some (.int c), some (.int e), some (.int (nI k)), some (.int (nI 0))] [.int (nI 4), .int (nI 0)] (n, I4, J, R) 0 0
        refine q_one rfl rfl ?_
        show ((nI 4) ≤ (nI 0) → q_W L (d + 2) 84 q_m84 Q 173 [some (.ref 192), some (.ref fr), some (.int (nI pl)), some (.int a), some (.int b), some (.int c), some (.int e), some (.int (nI k)), some (.int (nI 0))] [] (n, I4, J, R) 0 0) ∧ (¬ (nI 4) ≤ (nI 0) → q_W L (d + 2) 84 q_m84 Q 147 [some (.ref 192), some (.ref fr), some (.int (nI pl)), some (.int a), some (.int b), some (.int c), some (.int e), some (.int (nI k)), some (.int (nI 0))] [] (n, I4, J, R) 0 0)
        refine ⟨fun z => absurd z (by decide), fun _ => ?_⟩
        refine q_k 5 ?_
        show q_W L (d + 2) 84 q_m84 Q 154 [some (.ref 192), some (.ref fr), some (.int (nI pl)), some (.int a), some (.int b), some (.int c), some (.int e), some (.int (nI k)), some (.int (nI 0))] [.int ((nI 4) + (nI 0)), .int (nI 0), .ref 192] (n, I4, J, R) 0 0
        refine q_top (w := nI 4) (nI_add _ _) ?_
        refine q_k 3 ?_
        show q_W L (d + 2) 84 q_m84 Q 159 [some (.ref 192), some (.ref fr), some (.int (nI pl)), some (.int a), some (.int b), some (.int c), some (.int e), some (.int (nI k)), some (.int (nI 0))] [.int ((nI 8) + (nI 0)), .int (nI 4), .int (nI 0), .ref 192] (n, I4, J, R) 0 0
        refine q_top (w := nI 8) (nI_add _ _) ?_
        refine q_k 3 ?_
        show q_W L (d + 2) 84 q_m84 Q 164 [some (.ref 192), some (.ref fr), some (.int (nI pl)), some (.int a), some (.int b), some (.int c), some (.int e), some (.int (nI k)), some (.int (nI 0))] [.int ((nI 12) + (nI 0)), .int (nI 8), .int (nI 4), .int (nI 0), .ref 192] (n, I4, J, R) 0 0
        refine q_top (w := nI 12) (nI_add _ _) ?_
        refine q_cv (as := [.int (nI 0), .int (nI 4), .int (nI 8), .int (nI 12)]) (rs := []) rfl rfl rfl (⟨Nat.lt_of_lt_of_le (by decide) hK.1, rfl⟩) rfl rfl ?_
        refine m_turn (q_K0_to hK (h6.2.2 0 (by decide) (by decide)) (h6.2.2 1 (by decide) (by decide))) (by decide) (by decide) (by decide) (by decide) (by decide) (by decide) (by decide) (by decide) (by decide) (by decide) (fun T1 t1 u1 => ?_)
        show q_W L (d + 2) 84 q_m84 Q 167 [some (.ref 192), some (.ref fr), some (.int (nI pl)), some (.int a), some (.int b), some (.int c), some (.int e), some (.int (nI k)), some (.int (nI 0))] [] (n, T1, J, R) 0 0
        refine q_k 1 ?_
        show q_W L (d + 2) 84 q_m84 Q 170 [some (.ref 192), some (.ref fr), some (.int (nI pl)), some (.int a), some (.int b), some (.int c), some (.int e), some (.int (nI k)), some (.int ((nI 0) + nI 1))] [] (n, T1, J, R) 0 0
        rw [show (nI 0) + nI 1 = nI 1 from nI_add _ _]
        refine q_k 3 ?_
        show q_W L (d + 2) 84 q_m84 Q 144 [some (.ref 192), some (.ref fr), some (.int (nI pl)), some (.int a), some (.int b), some (.int c), some (.int e), some (.int (nI k)), some (.int (nI 1))] [.int (nI 4), .int (nI 1)] (n, T1, J, R) 0 0
        refine q_one rfl rfl ?_
        show ((nI 4) ≤ (nI 1) → q_W L (d + 2) 84 q_m84 Q 173 [some (.ref 192), some (.ref fr), some (.int (nI pl)), some (.int a), some (.int b), some (.int c), some (.int e), some (.int (nI k)), some (.int (nI 1))] [] (n, T1, J, R) 0 0) ∧ (¬ (nI 4) ≤ (nI 1) → q_W L (d + 2) 84 q_m84 Q 147 [some (.ref 192), some (.ref fr), some (.int (nI pl)), some (.int a), some (.int b), some (.int c), some (.int e), some (.int (nI k)), some (.int (nI 1))] [] (n, T1, J, R) 0 0)
        refine ⟨fun z => absurd z (by decide), fun _ => ?_⟩
        refine q_k 5 ?_
        show q_W L (d + 2) 84 q_m84 Q 154 [some (.ref 192), some (.ref fr), some (.int (nI pl)), some (.int a), some (.int b), some (.int c), some (.int e), some (.int (nI k)), some (.int (nI 1))] [.int ((nI 4) + (nI 1)), .int (nI 1), .ref 192] (n, T1, J, R) 0 0
        refine q_top (w := nI 5) (nI_add _ _) ?_
        refine q_k 3 ?_
        show q_W L (d + 2) 84 q_m84 Q 159 [some (.ref 192), some (.ref fr), some (.int (nI pl)), some (.int a), some (.int b), some (.int c), some (.int e), some (.int (nI k)), some (.int (nI 1))] [.int ((nI 8) + (nI 1)), .int (nI 5), .int (nI 1), .ref 192] (n, T1, J, R) 0 0
        refine q_top (w := nI 9) (nI_add _ _) ?_
        refine q_k 3 ?_
        show q_W L (d + 2) 84 q_m84 Q 164 [some (.ref 192), some (.ref fr), some (.int (nI pl)), some (.int a), some (.int b), some (.int c), some (.int e), some (.int (nI k)), some (.int (nI 1))] [.int ((nI 12) + (nI 1)), .int (nI 9), .int (nI 5), .int (nI 1), .ref 192] (n, T1, J, R) 0 0
        refine q_top (w := nI 13) (nI_add _ _) ?_
        refine q_cv (as := [.int (nI 1), .int (nI 5), .int (nI 9), .int (nI 13)]) (rs := []) rfl rfl rfl (⟨Nat.lt_of_lt_of_le (by decide) hK.1, rfl⟩) rfl rfl ?_
        refine m_turn (q_K0_to hK (by rw [u1 0 (by decide)]; exact h6.2.2 0 (by decide) (by decide)) (by rw [u1 1 (by decide)]; exact h6.2.2 1 (by decide) (by decide))) (by decide) (by decide) (by decide) (by decide) (by decide) (by decide) (by decide) (by decide) (by decide) (by decide) (fun T2 t2 u2 => ?_)
        show q_W L (d + 2) 84 q_m84 Q 167 [some (.ref 192), some (.ref fr), some (.int (nI pl)), some (.int a), some (.int b), some (.int c), some (.int e), some (.int (nI k)), some (.int (nI 1))] [] (n, T2, J, R) 0 0
        refine q_k 1 ?_
        show q_W L (d + 2) 84 q_m84 Q 170 [some (.ref 192), some (.ref fr), some (.int (nI pl)), some (.int a), some (.int b), some (.int c), some (.int e), some (.int (nI k)), some (.int ((nI 1) + nI 1))] [] (n, T2, J, R) 0 0
        rw [show (nI 1) + nI 1 = nI 2 from nI_add _ _]
        refine q_k 3 ?_
        show q_W L (d + 2) 84 q_m84 Q 144 [some (.ref 192), some (.ref fr), some (.int (nI pl)), some (.int a), some (.int b), some (.int c), some (.int e), some (.int (nI k)), some (.int (nI 2))] [.int (nI 4), .int (nI 2)] (n, T2, J, R) 0 0
        refine q_one rfl rfl ?_
        show ((nI 4) ≤ (nI 2) → q_W L (d + 2) 84 q_m84 Q 173 [some (.ref 192), some (.ref fr), some (.int (nI pl)), some (.int a), some (.int b), some (.int c), some (.int e), some (.int (nI k)), some (.int (nI 2))] [] (n, T2, J, R) 0 0) ∧ (¬ (nI 4) ≤ (nI 2) → q_W L (d + 2) 84 q_m84 Q 147 [some (.ref 192), some (.ref fr), some (.int (nI pl)), some (.int a), some (.int b), some (.int c), some (.int e), some (.int (nI k)), some (.int (nI 2))] [] (n, T2, J, R) 0 0)
        refine ⟨fun z => absurd z (by decide), fun _ => ?_⟩
        refine q_k 5 ?_
        show q_W L (d + 2) 84 q_m84 Q 154 [some (.ref 192), some (.ref fr), some (.int (nI pl)), some (.int a), some (.int b), some (.int c), some (.int e), some (.int (nI k)), some (.int (nI 2))] [.int ((nI 4) + (nI 2)), .int (nI 2), .ref 192] (n, T2, J, R) 0 0
        refine q_top (w := nI 6) (nI_add _ _) ?_
        refine q_k 3 ?_
        show q_W L (d + 2) 84 q_m84 Q 159 [some (.ref 192), some (.ref fr), some (.int (nI pl)), some (.int a), some (.int b), some (.int c), some (.int e), some (.int (nI k)), some (.int (nI 2))] [.int ((nI 8) + (nI 2)), .int (nI 6), .int (nI 2), .ref 192] (n, T2, J, R) 0 0
        refine q_top (w := nI 10) (nI_add _ _) ?_
        refine q_k 3 ?_
        show q_W L (d + 2) 84 q_m84 Q 164 [some (.ref 192), some (.ref fr), some (.int (nI pl)), some (.int a), some (.int b), some (.int c), some (.int e), some (.int (nI k)), some (.int (nI 2))] [.int ((nI 12) + (nI 2)), .int (nI 10), .int (nI 6), .int (nI 2), .ref 192] (n, T2, J, R) 0 0
        refine q_top (w := nI 14) (nI_add _ _) ?_
        refine q_cv (as := [.int (nI 2), .int (nI 6), .int (nI 10), .int (nI 14)]) (rs := []) rfl rfl rfl (⟨Nat.lt_of_lt_of_le (by decide) hK.1, rfl⟩) rfl rfl ?_
        refine m_turn (q_K0_to hK (by rw [u2 0 (by decide), u1 0 (by decide)]; exact h6.2.2 0 (by decide) (by decide)) (by rw [u2 1 (by decide), u1 1 (by decide)]; exact h6.2.2 1 (by decide) (by decide))) (by decide) (by decide) (by decide) (by decide) (by decide) (by decide) (by decide) (by decide) (by decide) (by decide) (fun T3 t3 u3 => ?_)
        show q_W L (d + 2) 84 q_m84 Q 167 [some (.ref 192), some (.ref fr), some (.int (nI pl)), some (.int a), some (.int b), some (.int c), some (.int e), some (.int (nI k)), some (.int (nI 2))] [] (n, T3, J, R) 0 0
        refine q_k 1 ?_
        show q_W L (d + 2) 84 q_m84 Q 170 [some (.ref 192), some (.ref fr), some (.int (nI pl)), some (.int a), some (.int b), some (.int c), some (.int e), some (.int (nI k)), some (.int ((nI 2) + nI 1))] [] (n, T3, J, R) 0 0
        rw [show (nI 2) + nI 1 = nI 3 from nI_add _ _]
        refine q_k 3 ?_
        show q_W L (d + 2) 84 q_m84 Q 144 [some (.ref 192), some (.ref fr), some (.int (nI pl)), some (.int a), some (.int b), some (.int c), some (.int e), some (.int (nI k)), some (.int (nI 3))] [.int (nI 4), .int (nI 3)] (n, T3, J, R) 0 0
        refine q_one rfl rfl ?_
        show ((nI 4) ≤ (nI 3) → q_W L (d + 2) 84 q_m84 Q 173 [some (.ref 192), some (.ref fr), some (.int (nI pl)), some (.int a), some (.int b), some (.int c), some (.int e), some (.int (nI k)), some (.int (nI 3))] [] (n, T3, J, R) 0 0) ∧ (¬ (nI 4) ≤ (nI 3) → q_W L (d + 2) 84 q_m84 Q 147 [some (.ref 192), some (.ref fr), some (.int (nI pl)), some (.int a), some (.int b), some (.int c), some (.int e), some (.int (nI k)), some (.int (nI 3))] [] (n, T3, J, R) 0 0)
        refine ⟨fun z => absurd z (by decide), fun _ => ?_⟩
        refine q_k 5 ?_
        show q_W L (d + 2) 84 q_m84 Q 154 [some (.ref 192), some (.ref fr), some (.int (nI pl)), some (.int a), some (.int b), some (.int c), some (.int e), some (.int (nI k)), some (.int (nI 3))] [.int ((nI 4) + (nI 3)), .int (nI 3), .ref 192] (n, T3, J, R) 0 0
        refine q_top (w := nI 7) (nI_add _ _) ?_
        refine q_k 3 ?_
        show q_W L (d + 2) 84 q_m84 Q 159 [some (.ref 192), some (.ref fr), some (.int (nI pl)), some (.int a), some (.int b), some (.int c), some (.int e), some (.int (nI k)), some (.int (nI 3))] [.int ((nI 8) + (nI 3)), .int (nI 7), .int (nI 3), .ref 192] (n, T3, J, R) 0 0
        refine q_top (w := nI 11) (nI_add _ _) ?_
        refine q_k 3 ?_
        show q_W L (d + 2) 84 q_m84 Q 164 [some (.ref 192), some (.ref fr), some (.int (nI pl)), some (.int a), some (.int b), some (.int c), some (.int e), some (.int (nI k)), some (.int (nI 3))] [.int ((nI 12) + (nI 3)), .int (nI 11), .int (nI 7), .int (nI 3), .ref 192] (n, T3, J, R) 0 0
        refine q_top (w := nI 15) (nI_add _ _) ?_
        refine q_cv (as := [.int (nI 3), .int (nI 7), .int (nI 11), .int (nI 15)]) (rs := []) rfl rfl rfl (⟨Nat.lt_of_lt_of_le (by decide) hK.1, rfl⟩) rfl rfl ?_
        refine m_turn (q_K0_to hK (by rw [u3 0 (by decide), u2 0 (by decide), u1 0 (by decide)]; exact h6.2.2 0 (by decide) (by decide)) (by rw [u3 1 (by decide), u2 1 (by decide), u1 1 (by decide)]; exact h6.2.2 1 (by decide) (by decide))) (by decide) (by decide) (by decide) (by decide) (by decide) (by decide) (by decide) (by decide) (by decide) (by decide) (fun T4 t4 u4 => ?_)
        show q_W L (d + 2) 84 q_m84 Q 167 [some (.ref 192), some (.ref fr), some (.int (nI pl)), some (.int a), some (.int b), some (.int c), some (.int e), some (.int (nI k)), some (.int (nI 3))] [] (n, T4, J, R) 0 0
        refine q_k 1 ?_
        show q_W L (d + 2) 84 q_m84 Q 170 [some (.ref 192), some (.ref fr), some (.int (nI pl)), some (.int a), some (.int b), some (.int c), some (.int e), some (.int (nI k)), some (.int ((nI 3) + nI 1))] [] (n, T4, J, R) 0 0
        rw [show (nI 3) + nI 1 = nI 4 from nI_add _ _]
        refine q_k 3 ?_
        show q_W L (d + 2) 84 q_m84 Q 144 [some (.ref 192), some (.ref fr), some (.int (nI pl)), some (.int a), some (.int b), some (.int c), some (.int e), some (.int (nI k)), some (.int (nI 4))] [.int (nI 4), .int (nI 4)] (n, T4, J, R) 0 0
        refine q_one rfl rfl ?_
        show ((nI 4) ≤ (nI 4) → q_W L (d + 2) 84 q_m84 Q 173 [some (.ref 192), some (.ref fr), some (.int (nI pl)), some (.int a), some (.int b), some (.int c), some (.int e), some (.int (nI k)), some (.int (nI 4))] [] (n, T4, J, R) 0 0) ∧ (¬ (nI 4) ≤ (nI 4) → q_W L (d + 2) 84 q_m84 Q 147 [some (.ref 192), some (.ref fr), some (.int (nI pl)), some (.int a), some (.int b), some (.int c), some (.int e), some (.int (nI k)), some (.int (nI 4))] [] (n, T4, J, R) 0 0)
        refine ⟨fun _ => ?_, fun z => absurd (by decide) z⟩
        refine q_k 4 ?_
        show q_W L (d + 2) 84 q_m84 Q 179 [some (.ref 192), some (.ref fr), some (.int (nI pl)), some (.int a), some (.int b), some (.int c), some (.int e), some (.int (nI k)), some (.int (nI 0))] [.int (nI 4), .int (nI 0)] (n, T4, J, R) 0 0
        refine q_one rfl rfl ?_
        show ((nI 4) ≤ (nI 0) → q_W L (d + 2) 84 q_m84 Q 220 [some (.ref 192), some (.ref fr), some (.int (nI pl)), some (.int a), some (.int b), some (.int c), some (.int e), some (.int (nI k)), some (.int (nI 0))] [] (n, T4, J, R) 0 0) ∧ (¬ (nI 4) ≤ (nI 0) → q_W L (d + 2) 84 q_m84 Q 182 [some (.ref 192), some (.ref fr), some (.int (nI pl)), some (.int a), some (.int b), some (.int c), some (.int e), some (.int (nI k)), some (.int (nI 0))] [] (n, T4, J, R) 0 0)
        refine ⟨fun z => absurd z (by decide), fun _ => ?_⟩
        refine q_k 6 ?_
        show q_W L (d + 2) 84 q_m84 Q 190 [some (.ref 192), some (.ref fr), some (.int (nI pl)), some (.int a), some (.int b), some (.int c), some (.int e), some (.int (nI k)), some (.int (nI 0))] [.int ((nI 0) + (nI 1)), .int (nI 4), .int (nI 0), .ref 192] (n, T4, J, R) 0 0
        refine q_top (w := nI 1) (nI_add _ _) ?_
        refine q_k 1 ?_
        show q_W L (d + 2) 84 q_m84 Q 191 [some (.ref 192), some (.ref fr), some (.int (nI pl)), some (.int a), some (.int b), some (.int c), some (.int e), some (.int (nI k)), some (.int (nI 0))] [.int (nI 4), .int (nI 1), .int (nI 4), .int (nI 0), .ref 192] (n, T4, J, R) 0 0
        refine q_one rfl rfl ?_
        show ¬ (nI 4) = 0 ∧ q_W L (d + 2) 84 q_m84 Q 192 [some (.ref 192), some (.ref fr), some (.int (nI pl)), some (.int a), some (.int b), some (.int c), some (.int e), some (.int (nI k)), some (.int (nI 0))] [.int ((nI 1) - (nI 1) / (nI 4) * (nI 4)), .int (nI 4), .int (nI 0), .ref 192] (n, T4, J, R) 0 0
        refine ⟨by decide +kernel, ?_⟩
        refine q_top (w := nI 1) (by decide +kernel) ?_
        refine q_k 1 ?_
        show q_W L (d + 2) 84 q_m84 Q 193 [some (.ref 192), some (.ref fr), some (.int (nI pl)), some (.int a), some (.int b), some (.int c), some (.int e), some (.int (nI k)), some (.int (nI 0))] [.int ((nI 4) + (nI 1)), .int (nI 0), .ref 192] (n, T4, J, R) 0 0
        refine q_top (w := nI 5) (nI_add _ _) ?_
        refine q_k 4 ?_
        show q_W L (d + 2) 84 q_m84 Q 199 [some (.ref 192), some (.ref fr), some (.int (nI pl)), some (.int a), some (.int b), some (.int c), some (.int e), some (.int (nI k)), some (.int (nI 0))] [.int ((nI 0) + (nI 2)), .int (nI 8), .int (nI 5), .int (nI 0), .ref 192] (n, T4, J, R) 0 0
        refine q_top (w := nI 2) (nI_add _ _) ?_
        refine q_k 1 ?_
        show q_W L (d + 2) 84 q_m84 Q 200 [some (.ref 192), some (.ref fr), some (.int (nI pl)), some (.int a), some (.int b), some (.int c), some (.int e), some (.int (nI k)), some (.int (nI 0))] [.int (nI 4), .int (nI 2), .int (nI 8), .int (nI 5), .int (nI 0), .ref 192] (n, T4, J, R) 0 0
        refine q_one rfl rfl ?_
        show ¬ (nI 4) = 0 ∧ q_W L (d + 2) 84 q_m84 Q 201 [some (.ref 192), some (.ref fr), some (.int (nI pl)), some (.int a), some (.int b), some (.int c), some (.int e), some (.int (nI k)), some (.int (nI 0))] [.int ((nI 2) - (nI 2) / (nI 4) * (nI 4)), .int (nI 8), .int (nI 5), .int (nI 0), .ref 192] (n, T4, J, R) 0 0
        refine ⟨by decide +kernel, ?_⟩
        refine q_top (w := nI 2) (by decide +kernel) ?_
        refine q_k 1 ?_
        show q_W L (d + 2) 84 q_m84 Q 202 [some (.ref 192), some (.ref fr), some (.int (nI pl)), some (.int a), some (.int b), some (.int c), some (.int e), some (.int (nI k)), some (.int (nI 0))] [.int ((nI 8) + (nI 2)), .int (nI 5), .int (nI 0), .ref 192] (n, T4, J, R) 0 0
        refine q_top (w := nI 10) (nI_add _ _) ?_
        refine q_k 4 ?_
        show q_W L (d + 2) 84 q_m84 Q 208 [some (.ref 192), some (.ref fr), some (.int (nI pl)), some (.int a), some (.int b), some (.int c), some (.int e), some (.int (nI k)), some (.int (nI 0))] [.int ((nI 0) + (nI 3)), .int (nI 12), .int (nI 10), .int (nI 5), .int (nI 0), .ref 192] (n, T4, J, R) 0 0
        refine q_top (w := nI 3) (nI_add _ _) ?_
        refine q_k 1 ?_
        show q_W L (d + 2) 84 q_m84 Q 209 [some (.ref 192), some (.ref fr), some (.int (nI pl)), some (.int a), some (.int b), some (.int c), some (.int e), some (.int (nI k)), some (.int (nI 0))] [.int (nI 4), .int (nI 3), .int (nI 12), .int (nI 10), .int (nI 5), .int (nI 0), .ref 192] (n, T4, J, R) 0 0
        refine q_one rfl rfl ?_
        show ¬ (nI 4) = 0 ∧ q_W L (d + 2) 84 q_m84 Q 210 [some (.ref 192), some (.ref fr), some (.int (nI pl)), some (.int a), some (.int b), some (.int c), some (.int e), some (.int (nI k)), some (.int (nI 0))] [.int ((nI 3) - (nI 3) / (nI 4) * (nI 4)), .int (nI 12), .int (nI 10), .int (nI 5), .int (nI 0), .ref 192] (n, T4, J, R) 0 0
        refine ⟨by decide +kernel, ?_⟩
        refine q_top (w := nI 3) (by decide +kernel) ?_
        refine q_k 1 ?_
        show q_W L (d + 2) 84 q_m84 Q 211 [some (.ref 192), some (.ref fr), some (.int (nI pl)), some (.int a), some (.int b), some (.int c), some (.int e), some (.int (nI k)), some (.int (nI 0))] [.int ((nI 12) + (nI 3)), .int (nI 10), .int (nI 5), .int (nI 0), .ref 192] (n, T4, J, R) 0 0
        refine q_top (w := nI 15) (nI_add _ _) ?_
        refine q_cv (as := [.int (nI 0), .int (nI 5), .int (nI 10), .int (nI 15)]) (rs := []) rfl rfl rfl (⟨Nat.lt_of_lt_of_le (by decide) hK.1, rfl⟩) rfl rfl ?_
        refine m_turn (q_K0_to hK (by rw [u4 0 (by decide), u3 0 (by decide), u2 0 (by decide), u1 0 (by decide)]; exact h6.2.2 0 (by decide) (by decide)) (by rw [u4 1 (by decide), u3 1 (by decide), u2 1 (by decide), u1 1 (by decide)]; exact h6.2.2 1 (by decide) (by decide))) (by decide) (by decide) (by decide) (by decide) (by decide) (by decide) (by decide) (by decide) (by decide) (by decide) (fun T5 t5 u5 => ?_)
        show q_W L (d + 2) 84 q_m84 Q 214 [some (.ref 192), some (.ref fr), some (.int (nI pl)), some (.int a), some (.int b), some (.int c), some (.int e), some (.int (nI k)), some (.int (nI 0))] [] (n, T5, J, R) 0 0
        refine q_k 1 ?_
        show q_W L (d + 2) 84 q_m84 Q 217 [some (.ref 192), some (.ref fr), some (.int (nI pl)), some (.int a), some (.int b), some (.int c), some (.int e), some (.int (nI k)), some (.int ((nI 0) + nI 1))] [] (n, T5, J, R) 0 0
        rw [show (nI 0) + nI 1 = nI 1 from nI_add _ _]
        refine q_k 3 ?_
        show q_W L (d + 2) 84 q_m84 Q 179 [some (.ref 192), some (.ref fr), some (.int (nI pl)), some (.int a), some (.int b), some (.int c), some (.int e), some (.int (nI k)), some (.int (nI 1))] [.int (nI 4), .int (nI 1)] (n, T5, J, R) 0 0
        refine q_one rfl rfl ?_
        show ((nI 4) ≤ (nI 1) → q_W L (d + 2) 84 q_m84 Q 220 [some (.ref 192), some (.ref fr), some (.int (nI pl)), some (.int a), some (.int b), some (.int c), some (.int e), some (.int (nI k)), some (.int (nI 1))] [] (n, T5, J, R) 0 0) ∧ (¬ (nI 4) ≤ (nI 1) → q_W L (d + 2) 84 q_m84 Q 182 [some (.ref 192), some (.ref fr), some (.int (nI pl)), some (.int a), some (.int b), some (.int c), some (.int e), some (.int (nI k)), some (.int (nI 1))] [] (n, T5, J, R) 0 0)
        refine ⟨fun z => absurd z (by decide), fun _ => ?_⟩
        refine q_k 6 ?_
        show q_W L (d + 2) 84 q_m84 Q 190 [some (.ref 192), some (.ref fr), some (.int (nI pl)), some (.int a), some (.int b), some (.int c), some (.int e), some (.int (nI k)), some (.int (nI 1))] [.int ((nI 1) + (nI 1)), .int (nI 4), .int (nI 1), .ref 192] (n, T5, J, R) 0 0
        refine q_top (w := nI 2) (nI_add _ _) ?_
        refine q_k 1 ?_
        show q_W L (d + 2) 84 q_m84 Q 191 [some (.ref 192), some (.ref fr), some (.int (nI pl)), some (.int a), some (.int b), some (.int c), some (.int e), some (.int (nI k)), some (.int (nI 1))] [.int (nI 4), .int (nI 2), .int (nI 4), .int (nI 1), .ref 192] (n, T5, J, R) 0 0
        refine q_one rfl rfl ?_
        show ¬ (nI 4) = 0 ∧ q_W L (d + 2) 84 q_m84 Q 192 [some (.ref 192), some (.ref fr), some (.int (nI pl)), some (.int a), some (.int b), some (.int c), some (.int e), some (.int (nI k)), some (.int (nI 1))] [.int ((nI 2) - (nI 2) / (nI 4) * (nI 4)), .int (nI 4), .int (nI 1), .ref 192] (n, T5, J, R) 0 0
        refine ⟨by decide +kernel, ?_⟩
        refine q_top (w := nI 2) (by decide +kernel) ?_
        refine q_k 1 ?_
        show q_W L (d + 2) 84 q_m84 Q 193 [some (.ref 192), some (.ref fr), some (.int (nI pl)), some (.int a), some (.int b), some (.int c), some (.int e), some (.int (nI k)), some (.int (nI 1))] [.int ((nI 4) + (nI 2)), .int (nI 1), .ref 192] (n, T5, J, R) 0 0
        refine q_top (w := nI 6) (nI_add _ _) ?_
        refine q_k 4 ?_
        show q_W L (d + 2) 84 q_m84 Q 199 [some (.ref 192), some (.ref fr), some (.int (nI pl)), some (.int a), some (.int b), some (.int c), some (.int e), some (.int (nI k)), some (.int (nI 1))] [.int ((nI 1) + (nI 2)), .int (nI 8), .int (nI 6), .int (nI 1), .ref 192] (n, T5, J, R) 0 0
        refine q_top (w := nI 3) (nI_add _ _) ?_
        refine q_k 1 ?_
        show q_W L (d + 2) 84 q_m84 Q 200 [some (.ref 192), some (.ref fr), some (.int (nI pl)), some (.int a), some (.int b), some (.int c), some (.int e), some (.int (nI k)), some (.int (nI 1))] [.int (nI 4), .int (nI 3), .int (nI 8), .int (nI 6), .int (nI 1), .ref 192] (n, T5, J, R) 0 0
        refine q_one rfl rfl ?_
        show ¬ (nI 4) = 0 ∧ q_W L (d + 2) 84 q_m84 Q 201 [some (.ref 192), some (.ref fr), some (.int (nI pl)), some (.int a), some (.int b), some (.int c), some (.int e), some (.int (nI k)), some (.int (nI 1))] [.int ((nI 3) - (nI 3) / (nI 4) * (nI 4)), .int (nI 8), .int (nI 6), .int (nI 1), .ref 192] (n, T5, J, R) 0 0
        refine ⟨by decide +kernel, ?_⟩
        refine q_top (w := nI 3) (by decide +kernel) ?_
        refine q_k 1 ?_
        show q_W L (d + 2) 84 q_m84 Q 202 [some (.ref 192), some (.ref fr), some (.int (nI pl)), some (.int a), some (.int b), some (.int c), some (.int e), some (.int (nI k)), some (.int (nI 1))] [.int ((nI 8) + (nI 3)), .int (nI 6), .int (nI 1), .ref 192] (n, T5, J, R) 0 0
        refine q_top (w := nI 11) (nI_add _ _) ?_
        refine q_k 4 ?_
        show q_W L (d + 2) 84 q_m84 Q 208 [some (.ref 192), some (.ref fr), some (.int (nI pl)), some (.int a), some (.int b), some (.int c), some (.int e), some (.int (nI k)), some (.int (nI 1))] [.int ((nI 1) + (nI 3)), .int (nI 12), .int (nI 11), .int (nI 6), .int (nI 1), .ref 192] (n, T5, J, R) 0 0
        refine q_top (w := nI 4) (nI_add _ _) ?_
        refine q_k 1 ?_
        show q_W L (d + 2) 84 q_m84 Q 209 [some (.ref 192), some (.ref fr), some (.int (nI pl)), some (.int a), some (.int b), some (.int c), some (.int e), some (.int (nI k)), some (.int (nI 1))] [.int (nI 4), .int (nI 4), .int (nI 12), .int (nI 11), .int (nI 6), .int (nI 1), .ref 192] (n, T5, J, R) 0 0
        refine q_one rfl rfl ?_
        show ¬ (nI 4) = 0 ∧ q_W L (d + 2) 84 q_m84 Q 210 [some (.ref 192), some (.ref fr), some (.int (nI pl)), some (.int a), some (.int b), some (.int c), some (.int e), some (.int (nI k)), some (.int (nI 1))] [.int ((nI 4) - (nI 4) / (nI 4) * (nI 4)), .int (nI 12), .int (nI 11), .int (nI 6), .int (nI 1), .ref 192] (n, T5, J, R) 0 0
        refine ⟨by decide +kernel, ?_⟩
        refine q_top (w := nI 0) (by decide +kernel) ?_
        refine q_k 1 ?_
        show q_W L (d + 2) 84 q_m84 Q 211 [some (.ref 192), some (.ref fr), some (.int (nI pl)), some (.int a), some (.int b), some (.int c), some (.int e), some (.int (nI k)), some (.int (nI 1))] [.int ((nI 12) + (nI 0)), .int (nI 11), .int (nI 6), .int (nI 1), .ref 192] (n, T5, J, R) 0 0
        refine q_top (w := nI 12) (nI_add _ _) ?_
        refine q_cv (as := [.int (nI 1), .int (nI 6), .int (nI 11), .int (nI 12)]) (rs := []) rfl rfl rfl (⟨Nat.lt_of_lt_of_le (by decide) hK.1, rfl⟩) rfl rfl ?_
        refine m_turn (q_K0_to hK (by rw [u5 0 (by decide), u4 0 (by decide), u3 0 (by decide), u2 0 (by decide), u1 0 (by decide)]; exact h6.2.2 0 (by decide) (by decide)) (by rw [u5 1 (by decide), u4 1 (by decide), u3 1 (by decide), u2 1 (by decide), u1 1 (by decide)]; exact h6.2.2 1 (by decide) (by decide))) (by decide) (by decide) (by decide) (by decide) (by decide) (by decide) (by decide) (by decide) (by decide) (by decide) (fun T6 t6 u6 => ?_)
        show q_W L (d + 2) 84 q_m84 Q 214 [some (.ref 192), some (.ref fr), some (.int (nI pl)), some (.int a), some (.int b), some (.int c), some (.int e), some (.int (nI k)), some (.int (nI 1))] [] (n, T6, J, R) 0 0
        refine q_k 1 ?_
        show q_W L (d + 2) 84 q_m84 Q 217 [some (.ref 192), some (.ref fr), some (.int (nI pl)), some (.int a), some (.int b), some (.int c), some (.int e), some (.int (nI k)), some (.int ((nI 1) + nI 1))] [] (n, T6, J, R) 0 0
        rw [show (nI 1) + nI 1 = nI 2 from nI_add _ _]
        refine q_k 3 ?_
        show q_W L (d + 2) 84 q_m84 Q 179 [some (.ref 192), some (.ref fr), some (.int (nI pl)), some (.int a), some (.int b), some (.int c), some (.int e), some (.int (nI k)), some (.int (nI 2))] [.int (nI 4), .int (nI 2)] (n, T6, J, R) 0 0
        refine q_one rfl rfl ?_
        show ((nI 4) ≤ (nI 2) → q_W L (d + 2) 84 q_m84 Q 220 [some (.ref 192), some (.ref fr), some (.int (nI pl)), some (.int a), some (.int b), some (.int c), some (.int e), some (.int (nI k)), some (.int (nI 2))] [] (n, T6, J, R) 0 0) ∧ (¬ (nI 4) ≤ (nI 2) → q_W L (d + 2) 84 q_m84 Q 182 [some (.ref 192), some (.ref fr), some (.int (nI pl)), some (.int a), some (.int b), some (.int c), some (.int e), some (.int (nI k)), some (.int (nI 2))] [] (n, T6, J, R) 0 0)
        refine ⟨fun z => absurd z (by decide), fun _ => ?_⟩
        refine q_k 6 ?_
        show q_W L (d + 2) 84 q_m84 Q 190 [some (.ref 192), some (.ref fr), some (.int (nI pl)), some (.int a), some (.int b), some (.int c), some (.int e), some (.int (nI k)), some (.int (nI 2))] [.int ((nI 2) + (nI 1)), .int (nI 4), .int (nI 2), .ref 192] (n, T6, J, R) 0 0
        refine q_top (w := nI 3) (nI_add _ _) ?_
        refine q_k 1 ?_
        show q_W L (d + 2) 84 q_m84 Q 191 [some (.ref 192), some (.ref fr), some (.int (nI pl)), some (.int a), some (.int b), some (.int c), some (.int e), some (.int (nI k)), some (.int (nI 2))] [.int (nI 4), .int (nI 3), .int (nI 4), .int (nI 2), .ref 192] (n, T6, J, R) 0 0
        refine q_one rfl rfl ?_
        show ¬ (nI 4) = 0 ∧ q_W L (d + 2) 84 q_m84 Q 192 [some (.ref 192), some (.ref fr), some (.int (nI pl)), some (.int a), some (.int b), some (.int c), some (.int e), some (.int (nI k)), some (.int (nI 2))] [.int ((nI 3) - (nI 3) / (nI 4) * (nI 4)), .int (nI 4), .int (nI 2), .ref 192] (n, T6, J, R) 0 0
        refine ⟨by decide +kernel, ?_⟩
        refine q_top (w := nI 3) (by decide +kernel) ?_
        refine q_k 1 ?_
        show q_W L (d + 2) 84 q_m84 Q 193 [some (.ref 192), some (.ref fr), some (.int (nI pl)), some (.int a), some (.int b), some (.int c), some (.int e), some (.int (nI k)), some (.int (nI 2))] [.int ((nI 4) + (nI 3)), .int (nI 2), .ref 192] (n, T6, J, R) 0 0
        refine q_top (w := nI 7) (nI_add _ _) ?_
        refine q_k 4 ?_
        show q_W L (d + 2) 84 q_m84 Q 199 [some (.ref 192), some (.ref fr), some (.int (nI pl)), some (.int a), some (.int b), some (.int c), some (.int e), some (.int (nI k)), some (.int (nI 2))] [.int ((nI 2) + (nI 2)), .int (nI 8), .int (nI 7), .int (nI 2), .ref 192] (n, T6, J, R) 0 0
        refine q_top (w := nI 4) (nI_add _ _) ?_
        refine q_k 1 ?_
        show q_W L (d + 2) 84 q_m84 Q 200 [some (.ref 192), some (.ref fr), some (.int (nI pl)), some (.int a), some (.int b), some (.int c), some (.int e), some (.int (nI k)), some (.int (nI 2))] [.int (nI 4), .int (nI 4), .int (nI 8), .int (nI 7), .int (nI 2), .ref 192] (n, T6, J, R) 0 0
        refine q_one rfl rfl ?_
        show ¬ (nI 4) = 0 ∧ q_W L (d + 2) 84 q_m84 Q 201 [some (.ref 192), some (.ref fr), some (.int (nI pl)), some (.int a), some (.int b), some (.int c), some (.int e), some (.int (nI k)), some (.int (nI 2))] [.int ((nI 4) - (nI 4) / (nI 4) * (nI 4)), .int (nI 8), .int (nI 7), .int (nI 2), .ref 192] (n, T6, J, R) 0 0
        refine ⟨by decide +kernel, ?_⟩
        refine q_top (w := nI 0) (by decide +kernel) ?_
        refine q_k 1 ?_
        show q_W L (d + 2) 84 q_m84 Q 202 [some (.ref 192), some (.ref fr), some (.int (nI pl)), some (.int a), some (.int b), some (.int c), some (.int e), some (.int (nI k)), some (.int (nI 2))] [.int ((nI 8) + (nI 0)), .int (nI 7), .int (nI 2), .ref 192] (n, T6, J, R) 0 0
        refine q_top (w := nI 8) (nI_add _ _) ?_
        refine q_k 4 ?_
        show q_W L (d + 2) 84 q_m84 Q 208 [some (.ref 192), some (.ref fr), some (.int (nI pl)), some (.int a), some (.int b), some (.int c), some (.int e), some (.int (nI k)), some (.int (nI 2))] [.int ((nI 2) + (nI 3)), .int (nI 12), .int (nI 8), .int (nI 7), .int (nI 2), .ref 192] (n, T6, J, R) 0 0
        refine q_top (w := nI 5) (nI_add _ _) ?_
        refine q_k 1 ?_
        show q_W L (d + 2) 84 q_m84 Q 209 [some (.ref 192), some (.ref fr), some (.int (nI pl)), some (.int a), some (.int b), some (.int c), some (.int e), some (.int (nI k)), some (.int (nI 2))] [.int (nI 4), .int (nI 5), .int (nI 12), .int (nI 8), .int (nI 7), .int (nI 2), .ref 192] (n, T6, J, R) 0 0
        refine q_one rfl rfl ?_
        show ¬ (nI 4) = 0 ∧ q_W L (d + 2) 84 q_m84 Q 210 [some (.ref 192), some (.ref fr), some (.int (nI pl)), some (.int a), some (.int b), some (.int c), some (.int e), some (.int (nI k)), some (.int (nI 2))] [.int ((nI 5) - (nI 5) / (nI 4) * (nI 4)), .int (nI 12), .int (nI 8), .int (nI 7), .int (nI 2), .ref 192] (n, T6, J, R) 0 0
        refine ⟨by decide +kernel, ?_⟩
        refine q_top (w := nI 1) (by decide +kernel) ?_
        refine q_k 1 ?_
        show q_W L (d + 2) 84 q_m84 Q 211 [some (.ref 192), some (.ref fr), some (.int (nI pl)), some (.int a), some (.int b), some (.int c), some (.int e), some (.int (nI k)), some (.int (nI 2))] [.int ((nI 12) + (nI 1)), .int (nI 8), .int (nI 7), .int (nI 2), .ref 192] (n, T6, J, R) 0 0
        refine q_top (w := nI 13) (nI_add _ _) ?_
        refine q_cv (as := [.int (nI 2), .int (nI 7), .int (nI 8), .int (nI 13)]) (rs := []) rfl rfl rfl (⟨Nat.lt_of_lt_of_le (by decide) hK.1, rfl⟩) rfl rfl ?_
        refine m_turn (q_K0_to hK (by rw [u6 0 (by decide), u5 0 (by decide), u4 0 (by decide), u3 0 (by decide), u2 0 (by decide), u1 0 (by decide)]; exact h6.2.2 0 (by decide) (by decide)) (by rw [u6 1 (by decide), u5 1 (by decide), u4 1 (by decide), u3 1 (by decide), u2 1 (by decide), u1 1 (by decide)]; exact h6.2.2 1 (by decide) (by decide))) (by decide) (by decide) (by decide) (by decide) (by decide) (by decide) (by decide) (by decide) (by decide) (by decide) (fun T7 t7 u7 => ?_)
        show q_W L (d + 2) 84 q_m84 Q 214 [some (.ref 192), some (.ref fr), some (.int (nI pl)), some (.int a), some (.int b), some (.int c), some (.int e), some (.int (nI k)), some (.int (nI 2))] [] (n, T7, J, R) 0 0
        refine q_k 1 ?_
        show q_W L (d + 2) 84 q_m84 Q 217 [some (.ref 192), some (.ref fr), some (.int (nI pl)), some (.int a), some (.int b), some (.int c), some (.int e), some (.int (nI k)), some (.int ((nI 2) + nI 1))] [] (n, T7, J, R) 0 0
        rw [show (nI 2) + nI 1 = nI 3 from nI_add _ _]
        refine q_k 3 ?_
        show q_W L (d + 2) 84 q_m84 Q 179 [some (.ref 192), some (.ref fr), some (.int (nI pl)), some (.int a), some (.int b), some (.int c), some (.int e), some (.int (nI k)), some (.int (nI 3))] [.int (nI 4), .int (nI 3)] (n, T7, J, R) 0 0
        refine q_one rfl rfl ?_
        show ((nI 4) ≤ (nI 3) → q_W L (d + 2) 84 q_m84 Q 220 [some (.ref 192), some (.ref fr), some (.int (nI pl)), some (.int a), some (.int b), some (.int c), some (.int e), some (.int (nI k)), some (.int (nI 3))] [] (n, T7, J, R) 0 0) ∧ (¬ (nI 4) ≤ (nI 3) → q_W L (d + 2) 84 q_m84 Q 182 [some (.ref 192), some (.ref fr), some (.int (nI pl)), some (.int a), some (.int b), some (.int c), some (.int e), some (.int (nI k)), some (.int (nI 3))] [] (n, T7, J, R) 0 0)
        refine ⟨fun z => absurd z (by decide), fun _ => ?_⟩
        refine q_k 6 ?_
        show q_W L (d + 2) 84 q_m84 Q 190 [some (.ref 192), some (.ref fr), some (.int (nI pl)), some (.int a), some (.int b), some (.int c), some (.int e), some (.int (nI k)), some (.int (nI 3))] [.int ((nI 3) + (nI 1)), .int (nI 4), .int (nI 3), .ref 192] (n, T7, J, R) 0 0
        refine q_top (w := nI 4) (nI_add _ _) ?_
        refine q_k 1 ?_
        show q_W L (d + 2) 84 q_m84 Q 191 [some (.ref 192), some (.ref fr), some (.int (nI pl)), some (.int a), some (.int b), some (.int c), some (.int e), some (.int (nI k)), some (.int (nI 3))] [.int (nI 4), .int (nI 4), .int (nI 4), .int (nI 3), .ref 192] (n, T7, J, R) 0 0
        refine q_one rfl rfl ?_
        show ¬ (nI 4) = 0 ∧ q_W L (d + 2) 84 q_m84 Q 192 [some (.ref 192), some (.ref fr), some (.int (nI pl)), some (.int a), some (.int b), some (.int c), some (.int e), some (.int (nI k)), some (.int (nI 3))] [.int ((nI 4) - (nI 4) / (nI 4) * (nI 4)), .int (nI 4), .int (nI 3), .ref 192] (n, T7, J, R) 0 0
        refine ⟨by decide +kernel, ?_⟩
        refine q_top (w := nI 0) (by decide +kernel) ?_
        refine q_k 1 ?_
        show q_W L (d + 2) 84 q_m84 Q 193 [some (.ref 192), some (.ref fr), some (.int (nI pl)), some (.int a), some (.int b), some (.int c), some (.int e), some (.int (nI k)), some (.int (nI 3))] [.int ((nI 4) + (nI 0)), .int (nI 3), .ref 192] (n, T7, J, R) 0 0
        refine q_top (w := nI 4) (nI_add _ _) ?_
        refine q_k 4 ?_
        show q_W L (d + 2) 84 q_m84 Q 199 [some (.ref 192), some (.ref fr), some (.int (nI pl)), some (.int a), some (.int b), some (.int c), some (.int e), some (.int (nI k)), some (.int (nI 3))] [.int ((nI 3) + (nI 2)), .int (nI 8), .int (nI 4), .int (nI 3), .ref 192] (n, T7, J, R) 0 0
        refine q_top (w := nI 5) (nI_add _ _) ?_
        refine q_k 1 ?_
        show q_W L (d + 2) 84 q_m84 Q 200 [some (.ref 192), some (.ref fr), some (.int (nI pl)), some (.int a), some (.int b), some (.int c), some (.int e), some (.int (nI k)), some (.int (nI 3))] [.int (nI 4), .int (nI 5), .int (nI 8), .int (nI 4), .int (nI 3), .ref 192] (n, T7, J, R) 0 0
        refine q_one rfl rfl ?_
        show ¬ (nI 4) = 0 ∧ q_W L (d + 2) 84 q_m84 Q 201 [some (.ref 192), some (.ref fr), some (.int (nI pl)), some (.int a), some (.int b), some (.int c), some (.int e), some (.int (nI k)), some (.int (nI 3))] [.int ((nI 5) - (nI 5) / (nI 4) * (nI 4)), .int (nI 8), .int (nI 4), .int (nI 3), .ref 192] (n, T7, J, R) 0 0
        refine ⟨by decide +kernel, ?_⟩
        refine q_top (w := nI 1) (by decide +kernel) ?_
        refine q_k 1 ?_
        show q_W L (d + 2) 84 q_m84 Q 202 [some (.ref 192), some (.ref fr), some (.int (nI pl)), some (.int a), some (.int b), some (.int c), some (.int e), some (.int (nI k)), some (.int (nI 3))] [.int ((nI 8) + (nI 1)), .int (nI 4), .int (nI 3), .ref 192] (n, T7, J, R) 0 0
        refine q_top (w := nI 9) (nI_add _ _) ?_
        refine q_k 4 ?_
        show q_W L (d + 2) 84 q_m84 Q 208 [some (.ref 192), some (.ref fr), some (.int (nI pl)), some (.int a), some (.int b), some (.int c), some (.int e), some (.int (nI k)), some (.int (nI 3))] [.int ((nI 3) + (nI 3)), .int (nI 12), .int (nI 9), .int (nI 4), .int (nI 3), .ref 192] (n, T7, J, R) 0 0
        refine q_top (w := nI 6) (nI_add _ _) ?_
        refine q_k 1 ?_
        show q_W L (d + 2) 84 q_m84 Q 209 [some (.ref 192), some (.ref fr), some (.int (nI pl)), some (.int a), some (.int b), some (.int c), some (.int e), some (.int (nI k)), some (.int (nI 3))] [.int (nI 4), .int (nI 6), .int (nI 12), .int (nI 9), .int (nI 4), .int (nI 3), .ref 192] (n, T7, J, R) 0 0
        refine q_one rfl rfl ?_
        show ¬ (nI 4) = 0 ∧ q_W L (d + 2) 84 q_m84 Q 210 [some (.ref 192), some (.ref fr), some (.int (nI pl)), some (.int a), some (.int b), some (.int c), some (.int e), some (.int (nI k)), some (.int (nI 3))] [.int ((nI 6) - (nI 6) / (nI 4) * (nI 4)), .int (nI 12), .int (nI 9), .int (nI 4), .int (nI 3), .ref 192] (n, T7, J, R) 0 0
        refine ⟨by decide +kernel, ?_⟩
        refine q_top (w := nI 2) (by decide +kernel) ?_
        refine q_k 1 ?_
        show q_W L (d + 2) 84 q_m84 Q 211 [some (.ref 192), some (.ref fr), some (.int (nI pl)), some (.int a), some (.int b), some (.int c), some (.int e), some (.int (nI k)), some (.int (nI 3))] [.int ((nI 12) + (nI 2)), .int (nI 9), .int (nI 4), .int (nI 3), .ref 192] (n, T7, J, R) 0 0
        refine q_top (w := nI 14) (nI_add _ _) ?_
        refine q_cv (as := [.int (nI 3), .int (nI 4), .int (nI 9), .int (nI 14)]) (rs := []) rfl rfl rfl (⟨Nat.lt_of_lt_of_le (by decide) hK.1, rfl⟩) rfl rfl ?_
        refine m_turn (q_K0_to hK (by rw [u7 0 (by decide), u6 0 (by decide), u5 0 (by decide), u4 0 (by decide), u3 0 (by decide), u2 0 (by decide), u1 0 (by decide)]; exact h6.2.2 0 (by decide) (by decide)) (by rw [u7 1 (by decide), u6 1 (by decide), u5 1 (by decide), u4 1 (by decide), u3 1 (by decide), u2 1 (by decide), u1 1 (by decide)]; exact h6.2.2 1 (by decide) (by decide))) (by decide) (by decide) (by decide) (by decide) (by decide) (by decide) (by decide) (by decide) (by decide) (by decide) (fun T8 t8 u8 => ?_)
        show q_W L (d + 2) 84 q_m84 Q 214 [some (.ref 192), some (.ref fr), some (.int (nI pl)), some (.int a), some (.int b), some (.int c), some (.int e), some (.int (nI k)), some (.int (nI 3))] [] (n, T8, J, R) 0 0
        refine q_k 1 ?_
        show q_W L (d + 2) 84 q_m84 Q 217 [some (.ref 192), some (.ref fr), some (.int (nI pl)), some (.int a), some (.int b), some (.int c), some (.int e), some (.int (nI k)), some (.int ((nI 3) + nI 1))] [] (n, T8, J, R) 0 0
        rw [show (nI 3) + nI 1 = nI 4 from nI_add _ _]
        refine q_k 3 ?_
        show q_W L (d + 2) 84 q_m84 Q 179 [some (.ref 192), some (.ref fr), some (.int (nI pl)), some (.int a), some (.int b), some (.int c), some (.int e), some (.int (nI k)), some (.int (nI 4))] [.int (nI 4), .int (nI 4)] (n, T8, J, R) 0 0
        refine q_one rfl rfl ?_
        show ((nI 4) ≤ (nI 4) → q_W L (d + 2) 84 q_m84 Q 220 [some (.ref 192), some (.ref fr), some (.int (nI pl)), some (.int a), some (.int b), some (.int c), some (.int e), some (.int (nI k)), some (.int (nI 4))] [] (n, T8, J, R) 0 0) ∧ (¬ (nI 4) ≤ (nI 4) → q_W L (d + 2) 84 q_m84 Q 182 [some (.ref 192), some (.ref fr), some (.int (nI pl)), some (.int a), some (.int b), some (.int c), some (.int e), some (.int (nI k)), some (.int (nI 4))] [] (n, T8, J, R) 0 0)
        refine ⟨fun _ => ?_, fun z => absurd (by decide) z⟩
        refine q_k 1 ?_
        show q_W L (d + 2) 84 q_m84 Q 223 [some (.ref 192), some (.ref fr), some (.int (nI pl)), some (.int a), some (.int b), some (.int c), some (.int e), some (.int ((nI k) + nI 1)), some (.int (nI 4))] [] (n, T8, J, R) 0 0
        rw [show (nI k) + nI 1 = nI (k + 1) from nI_add _ _]
        refine q_k 1 ?_
        show q_W L (d + 2) 84 q_m84 Q 131 [some (.ref 192), some (.ref fr), some (.int (nI pl)), some (.int a), some (.int b), some (.int c), some (.int e), some (.int (nI (k + 1))), some (.int (nI 4))] [] (n, T8, J, R) 0 0
        refine q_fg 8 ?_
        refine ih _ ⟨?_, ?_, fun x h1 h2 => ?_⟩
        · rw [funext t8, funext t7, funext t6, funext t5, funext t4, funext t3, funext t2, funext t1]; exact g_rd_c h6.1
        · rw [u8 210 (by decide), u7 210 (by decide), u6 210 (by decide), u5 210 (by decide), u4 210 (by decide), u3 210 (by decide), u2 210 (by decide), u1 210 (by decide)]; exact h6.2.1
        · rw [u8 x h1, u7 x h1, u6 x h1, u5 x h1, u4 x h1, u3 x h1, u2 x h1, u1 x h1]; exact h6.2.2 x h1 h2
      · exact ⟨hI3.1, fun i hi => hI3.2.1 i hi, hI3.2.2⟩
    · intro k I3 hk hI3 ih
      show q_W L (d + 2) 84 q_m84 Q 101 [some (.ref 192), some (.ref fr), some (.int (nI pl)), some (.int a), some (.int b), some (.int c), some (.int e), some (.int (nI k)), none] [] (n, I3, J, R) 0 0
      refine q_k 2 ?_
      show q_W L (d + 2) 84 q_m84 Q 105 [some (.ref 192), some (.ref fr), some (.int (nI pl)), some (.int a), some (.int b), some (.int c), some (.int e), some (.int (nI k)), none] [.int (nI 16), .int (nI k)] (n, I3, J, R) 0 0
      refine q_one rfl rfl ?_
      show ((nI 16) ≤ (nI k) → q_W L (d + 2) 84 q_m84 Q 128 [some (.ref 192), some (.ref fr), some (.int (nI pl)), some (.int a), some (.int b), some (.int c), some (.int e), some (.int (nI k)), none] [] (n, I3, J, R) 0 0) ∧ (¬ (nI 16) ≤ (nI k) → q_W L (d + 2) 84 q_m84 Q 108 [some (.ref 192), some (.ref fr), some (.int (nI pl)), some (.int a), some (.int b), some (.int c), some (.int e), some (.int (nI k)), none] [] (n, I3, J, R) 0 0)
      refine ⟨fun z => absurd z (nI_ge hk (by decide)), fun _ => ?_⟩
      refine q_k 1 ?_
      show q_W L (d + 2) 84 q_m84 Q 109 [some (.ref 192), some (.ref fr), some (.int (nI pl)), some (.int a), some (.int b), some (.int c), some (.int e), some (.int (nI k)), none] [.ref 192] (n, I3, J, R) 0 0
      refine q_gR (b := 210) rfl rfl (⟨Nat.lt_of_lt_of_le (by decide) hK.1, rfl⟩) (hK.2.1 192 19 210 rfl) ?_
      refine q_k 2 ?_
      show q_W L (d + 2) 84 q_m84 Q 115 [some (.ref 192), some (.ref fr), some (.int (nI pl)), some (.int a), some (.int b), some (.int c), some (.int e), some (.int (nI k)), none] [.ref 192, .int (nI k), .ref 210] (n, I3, J, R) 0 0
      refine q_gR (b := 209) rfl rfl (⟨Nat.lt_of_lt_of_le (by decide) hK.1, rfl⟩) (hK.2.1 192 18 209 rfl) ?_
      refine q_k 1 ?_
      show q_W L (d + 2) 84 q_m84 Q 120 [some (.ref 192), some (.ref fr), some (.int (nI pl)), some (.int a), some (.int b), some (.int c), some (.int e), some (.int (nI k)), none] [.int (nI k), .ref 209, .int (nI k), .ref 210] (n, I3, J, R) 0 0
      refine q_ial (m := k) rfl (⟨by decide, Nat.lt_of_lt_of_le (by decide) hK.1, rfl⟩) (by omega) (rfl) ?_
      refine q_ias (m := k) rfl (⟨by decide, Nat.lt_of_lt_of_le (by decide) hK.1, rfl⟩) (by omega) (rfl) ?_
      refine q_k 1 ?_
      show q_W L (d + 2) 84 q_m84 Q 125 [some (.ref 192), some (.ref fr), some (.int (nI pl)), some (.int a), some (.int b), some (.int c), some (.int e), some (.int ((nI k) + nI 1)), none] [] (n, q_up I3 210 k (I3 209 k), J, R) 0 0
      rw [show (nI k) + nI 1 = nI (k + 1) from nI_add _ _]
      refine q_k 1 ?_
      show q_W L (d + 2) 84 q_m84 Q 101 [some (.ref 192), some (.ref fr), some (.int (nI pl)), some (.int a), some (.int b), some (.int c), some (.int e), some (.int (nI (k + 1))), none] [] (n, q_up I3 210 k (I3 209 k), J, R) 0 0
      refine ih _ ⟨?_, fun i hi => ?_, fun x h1 h2 => ?_⟩
      · rw [q_un (by decide)]; exact hI3.1
      · by_cases e : i = k
        · subst e; rw [q_usk]; exact hI3.1 i (by omega)
        · rw [q_usn e]; exact hI3.2.1 i (by omega)
      · rw [q_un h2]; exact hI3.2.2 x h1 h2
    · exact ⟨hb, fun i hi => absurd hi (Nat.not_lt_zero _), fun x h1 _ => hbo x h1⟩
  · intro k I2 hk hI2 ih
    show q_W L (d + 2) 84 q_m84 Q 35 [some (.ref 192), some (.ref fr), some (.int (nI pl)), some (.int a), some (.int b), some (.int c), some (.int e), some (.int (nI k)), none] [] (n, I2, J, R) 0 0
    refine q_k 2 ?_
    show q_W L (d + 2) 84 q_m84 Q 39 [some (.ref 192), some (.ref fr), some (.int (nI pl)), some (.int a), some (.int b), some (.int c), some (.int e), some (.int (nI k)), none] [.int (nI 8), .int (nI k)] (n, I2, J, R) 0 0
    refine q_one rfl rfl ?_
    show ((nI 8) ≤ (nI k) → q_W L (d + 2) 84 q_m84 Q 63 [some (.ref 192), some (.ref fr), some (.int (nI pl)), some (.int a), some (.int b), some (.int c), some (.int e), some (.int (nI k)), none] [] (n, I2, J, R) 0 0) ∧ (¬ (nI 8) ≤ (nI k) → q_W L (d + 2) 84 q_m84 Q 42 [some (.ref 192), some (.ref fr), some (.int (nI pl)), some (.int a), some (.int b), some (.int c), some (.int e), some (.int (nI k)), none] [] (n, I2, J, R) 0 0)
    refine ⟨fun z => absurd z (nI_ge hk (by decide)), fun _ => ?_⟩
    refine q_k 1 ?_
    show q_W L (d + 2) 84 q_m84 Q 43 [some (.ref 192), some (.ref fr), some (.int (nI pl)), some (.int a), some (.int b), some (.int c), some (.int e), some (.int (nI k)), none] [.ref 192] (n, I2, J, R) 0 0
    refine q_gR (b := 209) rfl rfl (⟨Nat.lt_of_lt_of_le (by decide) hK.1, rfl⟩) (hK.2.1 192 18 209 rfl) ?_
    refine q_k 3 ?_
    show q_W L (d + 2) 84 q_m84 Q 50 [some (.ref 192), some (.ref fr), some (.int (nI pl)), some (.int a), some (.int b), some (.int c), some (.int e), some (.int (nI k)), none] [.int ((nI 4) + (nI k)), .ref 209] (n, I2, J, R) 0 0
    refine q_top (w := nI (4 + k)) (nI_add _ _) ?_
    refine q_k 4 ?_
    show q_W L (d + 2) 84 q_m84 Q 55 [some (.ref 192), some (.ref fr), some (.int (nI pl)), some (.int a), some (.int b), some (.int c), some (.int e), some (.int (nI k)), none] [.int ((nI pl) + (nI k)), .ref fr, .int (nI (4 + k)), .ref 209] (n, I2, J, R) 0 0
    refine q_top (w := nI (pl + k)) (nI_add _ _) ?_
    refine q_ial (m := pl + k) rfl (hf) (by omega) (hl) ?_
    refine q_ias (m := 4 + k) rfl (⟨by decide, Nat.lt_of_lt_of_le (by decide) hK.1, rfl⟩) (by omega) (rfl) ?_
    refine q_k 1 ?_
    show q_W L (d + 2) 84 q_m84 Q 60 [some (.ref 192), some (.ref fr), some (.int (nI pl)), some (.int a), some (.int b), some (.int c), some (.int e), some (.int ((nI k) + nI 1)), none] [] (n, q_up I2 209 (4 + k) (I2 fr (pl + k)), J, R) 0 0
    rw [show (nI k) + nI 1 = nI (k + 1) from nI_add _ _]
    refine q_k 1 ?_
    show q_W L (d + 2) 84 q_m84 Q 35 [some (.ref 192), some (.ref fr), some (.int (nI pl)), some (.int a), some (.int b), some (.int c), some (.int e), some (.int (nI (k + 1))), none] [] (n, q_up I2 209 (4 + k) (I2 fr (pl + k)), J, R) 0 0
    refine ih _ ⟨⟨?_, ?_, ?_, ?_⟩, fun i hi => ?_, fun x hx => ?_⟩
    · rw [q_usn (by omega)]; exact hI2.1.1
    · rw [q_usn (by omega)]; exact hI2.1.2.1
    · rw [q_usn (by omega)]; exact hI2.1.2.2.1
    · rw [q_usn (by omega)]; exact hI2.1.2.2.2
    · by_cases e : i = k
      · subst e; rw [q_usk, hI2.2.2 fr hf9]
      · rw [q_usn (by omega)]; exact hI2.2.1 i (by omega)
    · rw [q_un hx]; exact hI2.2.2 x hx
  · refine ⟨⟨?_, ?_, ?_, ?_⟩, fun i hi => absurd hi (Nat.not_lt_zero _), fun x hx => ?_⟩
    · rw [eA0, q_usn (by decide), q_usn (by decide), q_usn (by decide), q_usk]
    · rw [eA0, q_usn (by decide), q_usn (by decide), q_usk]
    · rw [eA0, q_usn (by decide), q_usk]
    · rw [eA0, q_usk]
    · rw [eA0, q_un hx, q_un hx, q_un hx, q_un hx]
