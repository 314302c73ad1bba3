set_option maxHeartbeats 2000000 in
theorem m_begun_3_11 {L d n : Nat} {I : q_I} {J : q_L} {R : q_R} {Q : q_Q} {e a b p m c x y : Nat} (hK : q_K0 n I R) (he : e + 12 ≤ 720) (hwf : q_wf I J e a b x y) (hp : p < 16) (hm : I 206 p = nI m) (hm3 : m ≤ 3) (hc : I 201 b = nI c) (hc10 : c ≤ 10)  {od z8 : Int32} (ha : a < 4) (hb : b < 4) (hnow : f_now I J e b = true) {it : Nat} (hitv : f_it I J e b c = it) (hitc : it < c) (hQ : (∀ g I', q_ms I' (f_beg2 g I J e a b p m c).2.1 → q_mf I' I → Q (some (.int (f_beg2 g I J e a b p m c).1)) (n, I', (f_beg2 g I J e a b p m c).2.2, R))) : q_W L (d + 7) 119 q_m119 Q 172 [some (.ref 192), some (.int (nI e)), some (.int (nI p)), some (.int (nI a)), some (.int (nI b)), some (.int (nI 1)), some (.int od), some (.int (nI it)), some (.int z8), none, none, none, none] [] (n, I, J, R) 0 0 := by
  refine q_k 1 ?_
  show q_W L (d + 7) 119 q_m119 Q 173 [some (.ref 192), some (.int (nI e)), some (.int (nI p)), some (.int (nI a)), some (.int (nI b)), some (.int (nI 1)), some (.int od), some (.int (nI it)), some (.int z8), none, none, none, none] [.ref 192] (n, I, J, R) 0 0
  refine q_gR (b := 208) rfl rfl (⟨Nat.lt_of_lt_of_le (by decide) hK.1, rfl⟩) (hK.2.1 192 15 208 rfl) ?_
  refine q_k 3 ?_
  show q_W L (d + 7) 119 q_m119 Q 179 [some (.ref 192), some (.int (nI e)), some (.int (nI p)), some (.int (nI a)), some (.int (nI b)), some (.int (nI 1)), some (.int od), some (.int (nI it)), some (.int z8), none, none, none, none] [.int ((nI e) + (nI 4)), .ref 208] (n, I, J, R) 0 0
  refine q_top (w := nI (e + 4)) (nI_add _ _) ?_
  refine q_lal (m := e + 4) rfl (⟨by decide, Nat.lt_of_lt_of_le (by decide) hK.1, rfl⟩) (by omega) (rfl) ?_
  refine q_k 2 ?_
  show q_W L (d + 7) 119 q_m119 Q 183 [some (.ref 192), some (.int (nI e)), some (.int (nI p)), some (.int (nI a)), some (.int (nI b)), some (.int (nI 1)), some (.int od), some (.int (nI it)), some (.int ((J 208 (e + 4)).toInt32)), none, none, none, none] [] (n, I, J, R) 0 0
  obtain ⟨bs, ebs⟩ : ∃ zz9, zz9 = (J 208 (e + 4)).toInt32 := ⟨_, rfl⟩
  rw [← ebs]
  refine q_k 1 ?_
  show q_W L (d + 7) 119 q_m119 Q 185 [some (.ref 192), some (.int (nI e)), some (.int (nI p)), some (.int (nI a)), some (.int (nI b)), some (.int (nI 1)), some (.int od), some (.int (nI it)), some (.int bs), none, none, none, none] [.int (nI 1)] (n, I, J, R) 0 0
  refine q_one rfl rfl ?_
  show ((nI 1) = 0 → q_W L (d + 7) 119 q_m119 Q 200 [some (.ref 192), some (.int (nI e)), some (.int (nI p)), some (.int (nI a)), some (.int (nI b)), some (.int (nI 1)), some (.int od), some (.int (nI it)), some (.int bs), none, none, none, none] [] (n, I, J, R) 0 0) ∧ (¬ (nI 1) = 0 → q_W L (d + 7) 119 q_m119 Q 188 [some (.ref 192), some (.int (nI e)), some (.int (nI p)), some (.int (nI a)), some (.int (nI b)), some (.int (nI 1)), some (.int od), some (.int (nI it)), some (.int bs), none, none, none, none] [] (n, I, J, R) 0 0)
  refine ⟨fun z => absurd z (by decide), fun _ => ?_⟩
  refine q_k 1 ?_
  show q_W L (d + 7) 119 q_m119 Q 189 [some (.ref 192), some (.int (nI e)), some (.int (nI p)), some (.int (nI a)), some (.int (nI b)), some (.int (nI 1)), some (.int od), some (.int (nI it)), some (.int bs), none, none, none, none] [.ref 192] (n, I, J, R) 0 0
  refine q_gR (b := 198) rfl rfl (⟨Nat.lt_of_lt_of_le (by decide) hK.1, rfl⟩) (hK.2.1 192 5 198 rfl) ?_
  refine q_k 3 ?_
  show q_W L (d + 7) 119 q_m119 Q 196 [some (.ref 192), some (.int (nI e)), some (.int (nI p)), some (.int (nI a)), some (.int (nI b)), some (.int (nI 1)), some (.int od), some (.int (nI it)), some (.int bs), none, none, none, none] [.int ((nI 2) * (nI b)), .ref 198] (n, I, J, R) 0 0
  refine q_top (w := nI (2 * b)) (pk_mul _ _) ?_
  refine q_ial (m := 2 * b) rfl (⟨by decide, Nat.lt_of_lt_of_le (by decide) hK.1, rfl⟩) (by omega) (rfl) ?_
  refine q_k 2 ?_
  show q_W L (d + 7) 119 q_m119 Q 211 [some (.ref 192), some (.int (nI e)), some (.int (nI p)), some (.int (nI a)), some (.int (nI b)), some (.int (nI 1)), some (.int od), some (.int (nI it)), some (.int bs), some (.int (I 198 (2 * b))), none, none, none] [] (n, I, J, R) 0 0
  obtain ⟨s0, es0⟩ : ∃ zz9, zz9 = I 198 (2 * b) := ⟨_, rfl⟩
  rw [← es0]
  refine q_k 1 ?_
  show q_W L (d + 7) 119 q_m119 Q 213 [some (.ref 192), some (.int (nI e)), some (.int (nI p)), some (.int (nI a)), some (.int (nI b)), some (.int (nI 1)), some (.int od), some (.int (nI it)), some (.int bs), some (.int s0), none, none, none] [.int (nI it)] (n, I, J, R) 0 0
  refine q_one rfl rfl ?_
  show (0 ≤ (nI it) → q_W L (d + 7) 119 q_m119 Q 220 [some (.ref 192), some (.int (nI e)), some (.int (nI p)), some (.int (nI a)), some (.int (nI b)), some (.int (nI 1)), some (.int od), some (.int (nI it)), some (.int bs), some (.int s0), none, none, none] [] (n, I, J, R) 0 0) ∧ (¬ 0 ≤ (nI it) → q_W L (d + 7) 119 q_m119 Q 216 [some (.ref 192), some (.int (nI e)), some (.int (nI p)), some (.int (nI a)), some (.int (nI b)), some (.int (nI 1)), some (.int od), some (.int (nI it)), some (.int bs), some (.int s0), none, none, none] [] (n, I, J, R) 0 0)
  refine ⟨fun _ => ?_, fun z => absurd (nI_pos' (by omega)) z⟩
  refine q_k 1 ?_
  show q_W L (d + 7) 119 q_m119 Q 221 [some (.ref 192), some (.int (nI e)), some (.int (nI p)), some (.int (nI a)), some (.int (nI b)), some (.int (nI 1)), some (.int od), some (.int (nI it)), some (.int bs), some (.int s0), none, none, none] [.ref 192] (n, I, J, R) 0 0
  refine q_gR (b := 200) rfl rfl (⟨Nat.lt_of_lt_of_le (by decide) hK.1, rfl⟩) (hK.2.1 192 7 200 rfl) ?_
  refine q_k 4 ?_
  show q_W L (d + 7) 119 q_m119 Q 230 [some (.ref 192), some (.int (nI e)), some (.int (nI p)), some (.int (nI a)), some (.int (nI b)), some (.int (nI 1)), some (.int od), some (.int (nI it)), some (.int bs), some (.int s0), none, none, none] [.int ((nI 10) * (nI b)), .int (nI 2), .ref 200] (n, I, J, R) 0 0
  refine q_top (w := nI (10 * b)) (pk_mul _ _) ?_
  refine q_k 2 ?_
  show q_W L (d + 7) 119 q_m119 Q 233 [some (.ref 192), some (.int (nI e)), some (.int (nI p)), some (.int (nI a)), some (.int (nI b)), some (.int (nI 1)), some (.int od), some (.int (nI it)), some (.int bs), some (.int s0), none, none, none] [.int ((nI (10 * b)) + (nI it)), .int (nI 2), .ref 200] (n, I, J, R) 0 0
  refine q_top (w := nI (10 * b + it)) (nI_add _ _) ?_
  refine q_k 1 ?_
  show q_W L (d + 7) 119 q_m119 Q 234 [some (.ref 192), some (.int (nI e)), some (.int (nI p)), some (.int (nI a)), some (.int (nI b)), some (.int (nI 1)), some (.int od), some (.int (nI it)), some (.int bs), some (.int s0), none, none, none] [.int ((nI 2) * (nI (10 * b + it))), .ref 200] (n, I, J, R) 0 0
  refine q_top (w := nI (2 * (10 * b + it))) (pk_mul _ _) ?_
  refine q_k 2 ?_
  show q_W L (d + 7) 119 q_m119 Q 236 [some (.ref 192), some (.int (nI e)), some (.int (nI p)), some (.int (nI a)), some (.int (nI b)), some (.int (nI 1)), some (.int od), some (.int (nI it)), some (.int bs), some (.int s0), none, none, none] [.int ((nI (2 * (10 * b + it))) + (nI 1)), .ref 200] (n, I, J, R) 0 0
  refine q_top (w := nI (2 * (10 * b + it) + 1)) (nI_add _ _) ?_
  refine q_ial (m := 2 * (10 * b + it) + 1) rfl (⟨by decide, Nat.lt_of_lt_of_le (by decide) hK.1, rfl⟩) (by omega) (rfl) ?_
  refine q_k 1 ?_
  show q_W L (d + 7) 119 q_m119 Q 239 [some (.ref 192), some (.int (nI e)), some (.int (nI p)), some (.int (nI a)), some (.int (nI b)), some (.int (nI 1)), some (.int od), some (.int (nI it)), some (.int bs), some (.int s0), some (.int (I 200 (2 * (10 * b + it) + 1))), none, none] [] (n, I, J, R) 0 0
  obtain ⟨o0, eo0⟩ : ∃ zz9, zz9 = I 200 (2 * (10 * b + it) + 1) := ⟨_, rfl⟩
  rw [← eo0]
  refine q_k 1 ?_
  show q_W L (d + 7) 119 q_m119 Q 240 [some (.ref 192), some (.int (nI e)), some (.int (nI p)), some (.int (nI a)), some (.int (nI b)), some (.int (nI 1)), some (.int od), some (.int (nI it)), some (.int bs), some (.int s0), some (.int o0), none, none] [.ref 192] (n, I, J, R) 0 0
  refine q_cv (as := []) (rs := []) rfl rfl rfl (⟨Nat.lt_of_lt_of_le (by decide) hK.1, rfl⟩) rfl rfl ?_
  refine m_clear (hK) (fun I1 h1 f1 => ?_)
  show q_W L (d + 7) 119 q_m119 Q 243 [some (.ref 192), some (.int (nI e)), some (.int (nI p)), some (.int (nI a)), some (.int (nI b)), some (.int (nI 1)), some (.int od), some (.int (nI it)), some (.int bs), some (.int s0), some (.int o0), none, none] [] (n, I1, J, R) 0 0
  refine q_k 1 ?_
  show q_W L (d + 7) 119 q_m119 Q 244 [some (.ref 192), some (.int (nI e)), some (.int (nI p)), some (.int (nI a)), some (.int (nI b)), some (.int (nI 1)), some (.int od), some (.int (nI it)), some (.int bs), some (.int s0), some (.int o0), none, none] [.ref 192] (n, I1, J, R) 0 0
  refine q_gR (b := 207) rfl rfl (⟨Nat.lt_of_lt_of_le (by decide) hK.1, rfl⟩) (hK.2.1 192 14 207 rfl) ?_
  refine q_k 2 ?_
  show q_W L (d + 7) 119 q_m119 Q 250 [some (.ref 192), some (.int (nI e)), some (.int (nI p)), some (.int (nI a)), some (.int (nI b)), some (.int (nI 1)), some (.int od), some (.int (nI it)), some (.int bs), some (.int s0), some (.int o0), none, none] [.int bs, .int (nI 0), .ref 207] (n, I1, J, R) 0 0
  refine q_ias (m := 0) rfl (⟨by decide, Nat.lt_of_lt_of_le (by decide) hK.1, rfl⟩) (by decide) (rfl) ?_
  refine q_k 1 ?_
  show q_W L (d + 7) 119 q_m119 Q 252 [some (.ref 192), some (.int (nI e)), some (.int (nI p)), some (.int (nI a)), some (.int (nI b)), some (.int (nI 1)), some (.int od), some (.int (nI it)), some (.int bs), some (.int s0), some (.int o0), none, none] [.ref 192] (n, q_up I1 207 0 bs, J, R) 0 0
  refine q_gR (b := 207) rfl rfl (⟨Nat.lt_of_lt_of_le (by decide) hK.1, rfl⟩) (hK.2.1 192 14 207 rfl) ?_
  refine q_k 2 ?_
  show q_W L (d + 7) 119 q_m119 Q 258 [some (.ref 192), some (.int (nI e)), some (.int (nI p)), some (.int (nI a)), some (.int (nI b)), some (.int (nI 1)), some (.int od), some (.int (nI it)), some (.int bs), some (.int s0), some (.int o0), none, none] [.int s0, .int (nI 2), .ref 207] (n, q_up I1 207 0 bs, J, R) 0 0
  refine q_ias (m := 2) rfl (⟨by decide, Nat.lt_of_lt_of_le (by decide) hK.1, rfl⟩) (by decide) (rfl) ?_
  refine q_k 1 ?_
  show q_W L (d + 7) 119 q_m119 Q 260 [some (.ref 192), some (.int (nI e)), some (.int (nI p)), some (.int (nI a)), some (.int (nI b)), some (.int (nI 1)), some (.int od), some (.int (nI it)), some (.int bs), some (.int s0), some (.int o0), none, none] [.ref 192] (n, q_up (q_up I1 207 0 bs) 207 2 s0, J, R) 0 0
  refine q_gR (b := 207) rfl rfl (⟨Nat.lt_of_lt_of_le (by decide) hK.1, rfl⟩) (hK.2.1 192 14 207 rfl) ?_
  refine q_k 2 ?_
  show q_W L (d + 7) 119 q_m119 Q 265 [some (.ref 192), some (.int (nI e)), some (.int (nI p)), some (.int (nI a)), some (.int (nI b)), some (.int (nI 1)), some (.int od), some (.int (nI it)), some (.int bs), some (.int s0), some (.int o0), none, none] [.ref 192, .int (nI 3), .ref 207] (n, q_up (q_up I1 207 0 bs) 207 2 s0, J, R) 0 0
  refine q_gR (b := 208) rfl rfl (⟨Nat.lt_of_lt_of_le (by decide) hK.1, rfl⟩) (hK.2.1 192 15 208 rfl) ?_
  refine q_k 3 ?_
  show q_W L (d + 7) 119 q_m119 Q 271 [some (.ref 192), some (.int (nI e)), some (.int (nI p)), some (.int (nI a)), some (.int (nI b)), some (.int (nI 1)), some (.int od), some (.int (nI it)), some (.int bs), some (.int s0), some (.int o0), none, none] [.int ((nI e) + (nI 5)), .ref 208, .int (nI 3), .ref 207] (n, q_up (q_up I1 207 0 bs) 207 2 s0, J, R) 0 0
  refine q_top (w := nI (e + 5)) (nI_add _ _) ?_
  refine q_lal (m := e + 5) rfl (⟨by decide, Nat.lt_of_lt_of_le (by decide) hK.1, rfl⟩) (by omega) (rfl) ?_
  refine q_k 1 ?_
  show q_W L (d + 7) 119 q_m119 Q 273 [some (.ref 192), some (.int (nI e)), some (.int (nI p)), some (.int (nI a)), some (.int (nI b)), some (.int (nI 1)), some (.int od), some (.int (nI it)), some (.int bs), some (.int s0), some (.int o0), none, none] [.int ((J 208 (e + 5)).toInt32), .int (nI 3), .ref 207] (n, q_up (q_up I1 207 0 bs) 207 2 s0, J, R) 0 0
  refine q_ias (m := 3) rfl (⟨by decide, Nat.lt_of_lt_of_le (by decide) hK.1, rfl⟩) (by decide) (rfl) ?_
  obtain ⟨I2, eI2⟩ : ∃ zz9, zz9 = q_up (q_up (q_up I1 207 0 bs) 207 2 s0) 207 3 ((J 208 (e + 5)).toInt32) := ⟨_, rfl⟩
  rw [← eI2]
  refine q_k 2 ?_
  show q_W L (d + 7) 119 q_m119 Q 276 [some (.ref 192), some (.int (nI e)), some (.int (nI p)), some (.int (nI a)), some (.int (nI b)), some (.int (nI 1)), some (.int od), some (.int (nI it)), some (.int bs), some (.int s0), some (.int o0), none, none] [.ref 192, .ref 192] (n, I2, J, R) 0 0
  refine q_gR (b := 197) rfl rfl (⟨Nat.lt_of_lt_of_le (by decide) hK.1, rfl⟩) (hK.2.1 192 4 197 rfl) ?_
  refine q_k 3 ?_
  show q_W L (d + 7) 119 q_m119 Q 282 [some (.ref 192), some (.int (nI e)), some (.int (nI p)), some (.int (nI a)), some (.int (nI b)), some (.int (nI 1)), some (.int od), some (.int (nI it)), some (.int bs), some (.int s0), some (.int o0), none, none] [.int ((nI 2) * (nI a)), .ref 197, .ref 192] (n, I2, J, R) 0 0
  refine q_top (w := nI (2 * a)) (pk_mul _ _) ?_
  refine q_k 2 ?_
  show q_W L (d + 7) 119 q_m119 Q 284 [some (.ref 192), some (.int (nI e)), some (.int (nI p)), some (.int (nI a)), some (.int (nI b)), some (.int (nI 1)), some (.int od), some (.int (nI it)), some (.int bs), some (.int s0), some (.int o0), none, none] [.int ((nI (2 * a)) + (nI 1)), .ref 197, .ref 192] (n, I2, J, R) 0 0
  refine q_top (w := nI (2 * a + 1)) (nI_add _ _) ?_
  refine q_ial (m := 2 * a + 1) rfl (⟨by decide, Nat.lt_of_lt_of_le (by decide) hK.1, rfl⟩) (by omega) (rfl) ?_
  refine q_top (w := I 197 (2 * a + 1)) (by rw [eI2, q_un (by decide), q_un (by decide), q_un (by decide), f1 197 (by decide)]) ?_
  refine q_k 1 ?_
  show q_W L (d + 7) 119 q_m119 Q 287 [some (.ref 192), some (.int (nI e)), some (.int (nI p)), some (.int (nI a)), some (.int (nI b)), some (.int (nI 1)), some (.int od), some (.int (nI it)), some (.int bs), some (.int s0), some (.int o0), none, none] [.int s0, .int (I 197 (2 * a + 1)), .ref 192] (n, I2, J, R) 0 0
  refine q_cs (as := [.int (I 197 (2 * a + 1)), .int s0]) (rs := [.ref 192]) rfl rfl rfl rfl rfl ?_
  refine m_raised  ?_
  show q_W L (d + 7) 119 q_m119 Q 290 [some (.ref 192), some (.int (nI e)), some (.int (nI p)), some (.int (nI a)), some (.int (nI b)), some (.int (nI 1)), some (.int od), some (.int (nI it)), some (.int bs), some (.int s0), some (.int o0), none, none] [.int (g_pow (I 197 (2 * a + 1)) s0), .ref 192] (n, I2, J, R) 0 0
  refine q_k 2 ?_
  show q_W L (d + 7) 119 q_m119 Q 293 [some (.ref 192), some (.int (nI e)), some (.int (nI p)), some (.int (nI a)), some (.int (nI b)), some (.int (nI 1)), some (.int od), some (.int (nI it)), some (.int bs), some (.int s0), some (.int o0), none, none] [.ref 192, .int bs, .int (g_pow (I 197 (2 * a + 1)) s0), .ref 192] (n, I2, J, R) 0 0
  refine q_gR (b := 197) rfl rfl (⟨Nat.lt_of_lt_of_le (by decide) hK.1, rfl⟩) (hK.2.1 192 4 197 rfl) ?_
  refine q_k 3 ?_
  show q_W L (d + 7) 119 q_m119 Q 300 [some (.ref 192), some (.int (nI e)), some (.int (nI p)), some (.int (nI a)), some (.int (nI b)), some (.int (nI 1)), some (.int od), some (.int (nI it)), some (.int bs), some (.int s0), some (.int o0), none, none] [.int ((nI 2) * (nI b)), .ref 197, .int bs, .int (g_pow (I 197 (2 * a + 1)) s0), .ref 192] (n, I2, J, R) 0 0
  refine q_top (w := nI (2 * b)) (pk_mul _ _) ?_
  refine q_ial (m := 2 * b) rfl (⟨by decide, Nat.lt_of_lt_of_le (by decide) hK.1, rfl⟩) (by omega) (rfl) ?_
  refine q_top (w := I 197 (2 * b)) (by rw [eI2, q_un (by decide), q_un (by decide), q_un (by decide), f1 197 (by decide)]) ?_
  refine q_cs (as := [.int bs, .int (I 197 (2 * b))]) (rs := [.int (g_pow (I 197 (2 * a + 1)) s0), .ref 192]) rfl rfl rfl rfl rfl ?_
  refine m_raised  ?_
  show q_W L (d + 7) 119 q_m119 Q 304 [some (.ref 192), some (.int (nI e)), some (.int (nI p)), some (.int (nI a)), some (.int (nI b)), some (.int (nI 1)), some (.int od), some (.int (nI it)), some (.int bs), some (.int s0), some (.int o0), none, none] [.int (g_pow bs (I 197 (2 * b))), .int (g_pow (I 197 (2 * a + 1)) s0), .ref 192] (n, I2, J, R) 0 0
  refine q_k 2 ?_
  show q_W L (d + 7) 119 q_m119 Q 308 [some (.ref 192), some (.int (nI e)), some (.int (nI p)), some (.int (nI a)), some (.int (nI b)), some (.int (nI 1)), some (.int od), some (.int (nI it)), some (.int bs), some (.int s0), some (.int o0), none, none] [.int s0, .int bs, .int (g_pow bs (I 197 (2 * b))), .int (g_pow (I 197 (2 * a + 1)) s0), .ref 192] (n, I2, J, R) 0 0
  refine q_cs (as := [.int bs, .int s0]) (rs := [.int (g_pow bs (I 197 (2 * b))), .int (g_pow (I 197 (2 * a + 1)) s0), .ref 192]) rfl rfl rfl rfl rfl ?_
  refine m_raised  ?_
  show q_W L (d + 7) 119 q_m119 Q 311 [some (.ref 192), some (.int (nI e)), some (.int (nI p)), some (.int (nI a)), some (.int (nI b)), some (.int (nI 1)), some (.int od), some (.int (nI it)), some (.int bs), some (.int s0), some (.int o0), none, none] [.int (g_pow bs s0), .int (g_pow bs (I 197 (2 * b))), .int (g_pow (I 197 (2 * a + 1)) s0), .ref 192] (n, I2, J, R) 0 0
  refine q_k 1 ?_
  show q_W L (d + 7) 119 q_m119 Q 313 [some (.ref 192), some (.int (nI e)), some (.int (nI p)), some (.int (nI a)), some (.int (nI b)), some (.int (nI 1)), some (.int od), some (.int (nI it)), some (.int bs), some (.int s0), some (.int o0), none, none] [.int (nI it), .int (g_pow bs s0), .int (g_pow bs (I 197 (2 * b))), .int (g_pow (I 197 (2 * a + 1)) s0), .ref 192] (n, I2, J, R) 0 0
  refine q_one rfl rfl ?_
  show (0 ≤ (nI it) → q_W L (d + 7) 119 q_m119 Q 320 [some (.ref 192), some (.int (nI e)), some (.int (nI p)), some (.int (nI a)), some (.int (nI b)), some (.int (nI 1)), some (.int od), some (.int (nI it)), some (.int bs), some (.int s0), some (.int o0), none, none] [.int (g_pow bs s0), .int (g_pow bs (I 197 (2 * b))), .int (g_pow (I 197 (2 * a + 1)) s0), .ref 192] (n, I2, J, R) 0 0) ∧ (¬ 0 ≤ (nI it) → q_W L (d + 7) 119 q_m119 Q 316 [some (.ref 192), some (.int (nI e)), some (.int (nI p)), some (.int (nI a)), some (.int (nI b)), some (.int (nI 1)), some (.int od), some (.int (nI it)), some (.int bs), some (.int s0), some (.int o0), none, none] [.int (g_pow bs s0), .int (g_pow bs (I 197 (2 * b))), .int (g_pow (I 197 (2 * a + 1)) s0), .ref 192] (n, I2, J, R) 0 0)
  refine ⟨fun _ => ?_, fun z => absurd (nI_pos' (by omega)) z⟩
  refine q_k 2 ?_
  show q_W L (d + 7) 119 q_m119 Q 323 [some (.ref 192), some (.int (nI e)), some (.int (nI p)), some (.int (nI a)), some (.int (nI b)), some (.int (nI 1)), some (.int od), some (.int (nI it)), some (.int bs), some (.int s0), some (.int o0), none, none] [.ref 192, .int bs, .int (g_pow bs s0), .int (g_pow bs (I 197 (2 * b))), .int (g_pow (I 197 (2 * a + 1)) s0), .ref 192] (n, I2, J, R) 0 0
  refine q_gR (b := 200) rfl rfl (⟨Nat.lt_of_lt_of_le (by decide) hK.1, rfl⟩) (hK.2.1 192 7 200 rfl) ?_
  refine q_k 4 ?_
  show q_W L (d + 7) 119 q_m119 Q 332 [some (.ref 192), some (.int (nI e)), some (.int (nI p)), some (.int (nI a)), some (.int (nI b)), some (.int (nI 1)), some (.int od), some (.int (nI it)), some (.int bs), some (.int s0), some (.int o0), none, none] [.int ((nI 10) * (nI b)), .int (nI 2), .ref 200, .int bs, .int (g_pow bs s0), .int (g_pow bs (I 197 (2 * b))), .int (g_pow (I 197 (2 * a + 1)) s0), .ref 192] (n, I2, J, R) 0 0
  refine q_top (w := nI (10 * b)) (pk_mul _ _) ?_
  refine q_k 2 ?_
  show q_W L (d + 7) 119 q_m119 Q 335 [some (.ref 192), some (.int (nI e)), some (.int (nI p)), some (.int (nI a)), some (.int (nI b)), some (.int (nI 1)), some (.int od), some (.int (nI it)), some (.int bs), some (.int s0), some (.int o0), none, none] [.int ((nI (10 * b)) + (nI it)), .int (nI 2), .ref 200, .int bs, .int (g_pow bs s0), .int (g_pow bs (I 197 (2 * b))), .int (g_pow (I 197 (2 * a + 1)) s0), .ref 192] (n, I2, J, R) 0 0
  refine q_top (w := nI (10 * b + it)) (nI_add _ _) ?_
  refine q_k 1 ?_
  show q_W L (d + 7) 119 q_m119 Q 336 [some (.ref 192), some (.int (nI e)), some (.int (nI p)), some (.int (nI a)), some (.int (nI b)), some (.int (nI 1)), some (.int od), some (.int (nI it)), some (.int bs), some (.int s0), some (.int o0), none, none] [.int ((nI 2) * (nI (10 * b + it))), .ref 200, .int bs, .int (g_pow bs s0), .int (g_pow bs (I 197 (2 * b))), .int (g_pow (I 197 (2 * a + 1)) s0), .ref 192] (n, I2, J, R) 0 0
  refine q_top (w := nI (2 * (10 * b + it))) (pk_mul _ _) ?_
  refine q_ial (m := 2 * (10 * b + it)) rfl (⟨by decide, Nat.lt_of_lt_of_le (by decide) hK.1, rfl⟩) (by omega) (rfl) ?_
  refine q_top (w := I 200 (2 * (10 * b + it))) (by rw [eI2, q_un (by decide), q_un (by decide), q_un (by decide), f1 200 (by decide)]) ?_
  refine q_cs (as := [.int bs, .int (I 200 (2 * (10 * b + it)))]) (rs := [.int (g_pow bs s0), .int (g_pow bs (I 197 (2 * b))), .int (g_pow (I 197 (2 * a + 1)) s0), .ref 192]) rfl rfl rfl rfl rfl ?_
  refine m_raised  ?_
  show q_W L (d + 7) 119 q_m119 Q 340 [some (.ref 192), some (.int (nI e)), some (.int (nI p)), some (.int (nI a)), some (.int (nI b)), some (.int (nI 1)), some (.int od), some (.int (nI it)), some (.int bs), some (.int s0), some (.int o0), none, none] [.int (g_pow bs (I 200 (2 * (10 * b + it)))), .int (g_pow bs s0), .int (g_pow bs (I 197 (2 * b))), .int (g_pow (I 197 (2 * a + 1)) s0), .ref 192] (n, I2, J, R) 0 0
  refine q_k 1 ?_
  show q_W L (d + 7) 119 q_m119 Q 341 [some (.ref 192), some (.int (nI e)), some (.int (nI p)), some (.int (nI a)), some (.int (nI b)), some (.int (nI 1)), some (.int od), some (.int (nI it)), some (.int bs), some (.int s0), some (.int o0), none, none] [.ref 192, .int (g_pow bs (I 200 (2 * (10 * b + it)))), .int (g_pow bs s0), .int (g_pow bs (I 197 (2 * b))), .int (g_pow (I 197 (2 * a + 1)) s0), .ref 192] (n, I2, J, R) 0 0
  refine q_gR (b := 197) rfl rfl (⟨Nat.lt_of_lt_of_le (by decide) hK.1, rfl⟩) (hK.2.1 192 4 197 rfl) ?_
  refine q_k 3 ?_
  show q_W L (d + 7) 119 q_m119 Q 347 [some (.ref 192), some (.int (nI e)), some (.int (nI p)), some (.int (nI a)), some (.int (nI b)), some (.int (nI 1)), some (.int od), some (.int (nI it)), some (.int bs), some (.int s0), some (.int o0), none, none] [.int ((nI 2) * (nI a)), .ref 197, .int (g_pow bs (I 200 (2 * (10 * b + it)))), .int (g_pow bs s0), .int (g_pow bs (I 197 (2 * b))), .int (g_pow (I 197 (2 * a + 1)) s0), .ref 192] (n, I2, J, R) 0 0
  refine q_top (w := nI (2 * a)) (pk_mul _ _) ?_
  refine q_k 2 ?_
  show q_W L (d + 7) 119 q_m119 Q 349 [some (.ref 192), some (.int (nI e)), some (.int (nI p)), some (.int (nI a)), some (.int (nI b)), some (.int (nI 1)), some (.int od), some (.int (nI it)), some (.int bs), some (.int s0), some (.int o0), none, none] [.int ((nI (2 * a)) + (nI 1)), .ref 197, .int (g_pow bs (I 200 (2 * (10 * b + it)))), .int (g_pow bs s0), .int (g_pow bs (I 197 (2 * b))), .int (g_pow (I 197 (2 * a + 1)) s0), .ref 192] (n, I2, J, R) 0 0
  refine q_top (w := nI (2 * a + 1)) (nI_add _ _) ?_
  refine q_ial (m := 2 * a + 1) rfl (⟨by decide, Nat.lt_of_lt_of_le (by decide) hK.1, rfl⟩) (by omega) (rfl) ?_
  refine q_top (w := I 197 (2 * a + 1)) (by rw [eI2, q_un (by decide), q_un (by decide), q_un (by decide), f1 197 (by decide)]) ?_
  refine q_k 1 ?_
  show q_W L (d + 7) 119 q_m119 Q 351 [some (.ref 192), some (.int (nI e)), some (.int (nI p)), some (.int (nI a)), some (.int (nI b)), some (.int (nI 1)), some (.int od), some (.int (nI it)), some (.int bs), some (.int s0), some (.int o0), none, none] [.ref 192, .int (I 197 (2 * a + 1)), .int (g_pow bs (I 200 (2 * (10 * b + it)))), .int (g_pow bs s0), .int (g_pow bs (I 197 (2 * b))), .int (g_pow (I 197 (2 * a + 1)) s0), .ref 192] (n, I2, J, R) 0 0
  refine q_gR (b := 197) rfl rfl (⟨Nat.lt_of_lt_of_le (by decide) hK.1, rfl⟩) (hK.2.1 192 4 197 rfl) ?_
  refine q_k 3 ?_
  show q_W L (d + 7) 119 q_m119 Q 358 [some (.ref 192), some (.int (nI e)), some (.int (nI p)), some (.int (nI a)), some (.int (nI b)), some (.int (nI 1)), some (.int od), some (.int (nI it)), some (.int bs), some (.int s0), some (.int o0), none, none] [.int ((nI 2) * (nI b)), .ref 197, .int (I 197 (2 * a + 1)), .int (g_pow bs (I 200 (2 * (10 * b + it)))), .int (g_pow bs s0), .int (g_pow bs (I 197 (2 * b))), .int (g_pow (I 197 (2 * a + 1)) s0), .ref 192] (n, I2, J, R) 0 0
  refine q_top (w := nI (2 * b)) (pk_mul _ _) ?_
  refine q_k 2 ?_
  show q_W L (d + 7) 119 q_m119 Q 360 [some (.ref 192), some (.int (nI e)), some (.int (nI p)), some (.int (nI a)), some (.int (nI b)), some (.int (nI 1)), some (.int od), some (.int (nI it)), some (.int bs), some (.int s0), some (.int o0), none, none] [.int ((nI (2 * b)) + (nI 1)), .ref 197, .int (I 197 (2 * a + 1)), .int (g_pow bs (I 200 (2 * (10 * b + it)))), .int (g_pow bs s0), .int (g_pow bs (I 197 (2 * b))), .int (g_pow (I 197 (2 * a + 1)) s0), .ref 192] (n, I2, J, R) 0 0
  refine q_top (w := nI (2 * b + 1)) (nI_add _ _) ?_
  refine q_ial (m := 2 * b + 1) rfl (⟨by decide, Nat.lt_of_lt_of_le (by decide) hK.1, rfl⟩) (by omega) (rfl) ?_
  refine q_top (w := I 197 (2 * b + 1)) (by rw [eI2, q_un (by decide), q_un (by decide), q_un (by decide), f1 197 (by decide)]) ?_
  refine q_k 1 ?_
  show q_W L (d + 7) 119 q_m119 Q 363 [some (.ref 192), some (.int (nI e)), some (.int (nI p)), some (.int (nI a)), some (.int (nI b)), some (.int (nI 1)), some (.int od), some (.int (nI it)), some (.int bs), some (.int s0), some (.int o0), none, none] [.int o0, .int (I 197 (2 * b + 1)), .int (I 197 (2 * a + 1)), .int (g_pow bs (I 200 (2 * (10 * b + it)))), .int (g_pow bs s0), .int (g_pow bs (I 197 (2 * b))), .int (g_pow (I 197 (2 * a + 1)) s0), .ref 192] (n, I2, J, R) 0 0
  refine q_cv (as := [.int (g_pow (I 197 (2 * a + 1)) s0), .int (g_pow bs (I 197 (2 * b))), .int (g_pow bs s0), .int (g_pow bs (I 200 (2 * (10 * b + it)))), .int (I 197 (2 * a + 1)), .int (I 197 (2 * b + 1)), .int o0]) (rs := []) rfl rfl rfl (⟨Nat.lt_of_lt_of_le (by decide) hK.1, rfl⟩) rfl rfl ?_
  refine m_agree (q_K0_to hK (by rw [eI2, q_un (by decide), q_un (by decide), q_un (by decide), f1 0 (by decide)]) (by rw [eI2, q_un (by decide), q_un (by decide), q_un (by decide), f1 1 (by decide)])) (fun I3 a3 g3 f3 => ?_)
  have hrow : I3 207 = f_brow (I1 207) I J e a b c := by
    unfold f_brow
    rw [hnow, if_pos rfl]; rw [hitv, if_pos hitc, if_pos hitc]
    funext (i : Nat)
    unfold s_new
    by_cases c1 : 14 ≤ i ∧ i < 22
    · obtain ⟨j, rfl⟩ : ∃ j, i = 14 + j := ⟨i - 14, by omega⟩
      rw [a3 j (by omega), if_neg (by omega), if_neg (by omega), if_neg (by omega), if_pos c1, show 14 + j - 14 = j by omega]
      unfold g_agr
      rw [← ebs, ← es0, ← eo0]
    · rw [g3 i (by omega), eI2]
      by_cases e3 : i = 3
      · subst e3; rw [q_usk, if_neg (by decide), if_neg (by decide), if_pos rfl]
      · rw [q_usn e3]
        by_cases e2 : i = 2
        · subst e2; rw [q_usk, if_neg (by decide), if_pos rfl, es0]
        · rw [q_usn e2]
          by_cases e0 : i = 0
          · subst e0; rw [q_usk, if_pos rfl, ebs]
          · rw [q_usn e0, if_neg e0, if_neg e2, if_neg e3, if_neg c1]
            by_cases c3 : i < 318
            · rw [if_pos c3, h1 i c3]
            · rw [if_neg c3]
  have hmq : q_mq I3 I := fun a ha hb => by rw [f3 a (by omega) (by omega) (by omega) (by omega) (by omega), eI2, q_un (by omega), q_un (by omega), q_un (by omega), f1 a (by omega)]
  obtain ⟨S, eS⟩ : ∃ z, z = f_try I J e a b (f_brow (I1 207) I J e a b c) := ⟨_, rfl⟩
  have hT : f_try I3 J e a b (I3 207) = S := by rw [eS, hrow, f_try_c hmq]
  show q_W L (d + 7) 119 q_m119 Q 366 [some (.ref 192), some (.int (nI e)), some (.int (nI p)), some (.int (nI a)), some (.int (nI b)), some (.int (nI 1)), some (.int od), some (.int (nI it)), some (.int bs), some (.int s0), some (.int o0), none, none] [] (n, I3, J, R) 0 0
  refine q_k 3 ?_
  show q_W L (d + 7) 119 q_m119 Q 370 [some (.ref 192), some (.int (nI e)), some (.int (nI p)), some (.int (nI a)), some (.int (nI b)), some (.int (nI 1)), some (.int od), some (.int (nI it)), some (.int bs), some (.int s0), some (.int o0), none, none] [.int (nI b), .int (nI e), .ref 192] (n, I3, J, R) 0 0
  refine q_cv (as := [.int (nI e), .int (nI b)]) (rs := []) rfl rfl rfl (⟨Nat.lt_of_lt_of_le (by decide) hK.1, rfl⟩) rfl rfl ?_
  refine m_tried (c := 0) (w := 0) (q_K0_to hK (by rw [f3 0 (by decide) (by decide) (by decide) (by decide) (by decide), eI2, q_un (by decide), q_un (by decide), q_un (by decide), f1 0 (by decide)]) (by rw [f3 1 (by decide) (by decide) (by decide) (by decide) (by decide), eI2, q_un (by decide), q_un (by decide), q_un (by decide), f1 1 (by decide)])) he hwf.fa hwf.fb hwf.ha hwf.hb hwf.fm hwf.hm hwf.fp hwf.hp (by rw [g3 9 (by decide), eI2, q_usn (by decide), q_usn (by decide), q_usn (by decide)]; exact h1 9 (by decide)) (by omega) (by rw [g3 7 (by decide), eI2, q_usn (by decide), q_usn (by decide), q_usn (by decide)]; exact h1 7 (by decide)) (by omega) (fun hz I4 r4 c4 f4 e4 => ?_) (fun hz I4 f4 e4 => ?_)
  · skip
    rw [hT] at hz r4 c4 ⊢
    show q_W L (d + 7) 119 q_m119 Q 373 [some (.ref 192), some (.int (nI e)), some (.int (nI p)), some (.int (nI a)), some (.int (nI b)), some (.int (nI 1)), some (.int od), some (.int (nI it)), some (.int bs), some (.int s0), some (.int o0), none, none] [.int (nI 0)] (n, I4, f_tx J e S, R) 0 0
    refine q_k 2 ?_
    show q_W L (d + 7) 119 q_m119 Q 377 [some (.ref 192), some (.int (nI e)), some (.int (nI p)), some (.int (nI a)), some (.int (nI b)), some (.int (nI 1)), some (.int od), some (.int (nI it)), some (.int bs), some (.int s0), some (.int o0), some (.int (nI 0)), none] [.int (nI 0)] (n, I4, f_tx J e S, R) 0 0
    refine q_one rfl rfl ?_
    show ((nI 0) = 0 → q_W L (d + 7) 119 q_m119 Q 383 [some (.ref 192), some (.int (nI e)), some (.int (nI p)), some (.int (nI a)), some (.int (nI b)), some (.int (nI 1)), some (.int od), some (.int (nI it)), some (.int bs), some (.int s0), some (.int o0), some (.int (nI 0)), none] [] (n, I4, f_tx J e S, R) 0 0) ∧ (¬ (nI 0) = 0 → q_W L (d + 7) 119 q_m119 Q 380 [some (.ref 192), some (.int (nI e)), some (.int (nI p)), some (.int (nI a)), some (.int (nI b)), some (.int (nI 1)), some (.int od), some (.int (nI it)), some (.int bs), some (.int s0), some (.int o0), some (.int (nI 0)), none] [] (n, I4, f_tx J e S, R) 0 0)
    refine ⟨fun _ => ?_, fun z => absurd (rfl) z⟩
    refine q_k 2 ?_
    show q_W L (d + 7) 119 q_m119 Q 385 [some (.ref 192), some (.int (nI e)), some (.int (nI p)), some (.int (nI a)), some (.int (nI b)), some (.int (nI 1)), some (.int od), some (.int (nI it)), some (.int bs), some (.int s0), some (.int o0), some (.int (nI 0)), none] [.int (nI p), .ref 192] (n, I4, f_tx J e S, R) 0 0
    refine q_cv (as := [.int (nI p)]) (rs := []) rfl rfl rfl (⟨Nat.lt_of_lt_of_le (by decide) hK.1, rfl⟩) rfl rfl ?_
    refine m_comes (q_K0_to hK (by rw [f4 0 (by decide) (by decide) (by decide) (by decide) (by decide) (by decide) (by decide) (by decide), f3 0 (by decide) (by decide) (by decide) (by decide) (by decide), eI2, q_un (by decide), q_un (by decide), q_un (by decide), f1 0 (by decide)]) (by rw [f4 1 (by decide) (by decide) (by decide) (by decide) (by decide) (by decide) (by decide) (by decide), f3 1 (by decide) (by decide) (by decide) (by decide) (by decide), eI2, q_un (by decide), q_un (by decide), q_un (by decide), f1 1 (by decide)])) (hp) (by rw [f4 206 (by decide) (by decide) (by decide) (by decide) (by decide) (by decide) (by decide) (by decide), f3 206 (by decide) (by decide) (by decide) (by decide) (by decide), eI2, q_un (by decide), q_un (by decide), q_un (by decide), f1 206 (by decide)]; exact hm) (hm3) (fun I5 m5 r5 f5 => ?_)
    show q_W L (d + 7) 119 q_m119 Q 388 [some (.ref 192), some (.int (nI e)), some (.int (nI p)), some (.int (nI a)), some (.int (nI b)), some (.int (nI 1)), some (.int od), some (.int (nI it)), some (.int bs), some (.int s0), some (.int o0), some (.int (nI 0)), none] [] (n, I5, f_tx J e S, R) 0 0
    refine q_k 1 ?_
    show q_W L (d + 7) 119 q_m119 Q 390 [some (.ref 192), some (.int (nI e)), some (.int (nI p)), some (.int (nI a)), some (.int (nI b)), some (.int (nI 1)), some (.int od), some (.int (nI it)), some (.int bs), some (.int s0), some (.int o0), some (.int (nI 0)), none] [.int (nI it)] (n, I5, f_tx J e S, R) 0 0
    refine q_one rfl rfl ?_
    show ((nI it) < 0 → q_W L (d + 7) 119 q_m119 Q 458 [some (.ref 192), some (.int (nI e)), some (.int (nI p)), some (.int (nI a)), some (.int (nI b)), some (.int (nI 1)), some (.int od), some (.int (nI it)), some (.int bs), some (.int s0), some (.int o0), some (.int (nI 0)), none] [] (n, I5, f_tx J e S, R) 0 0) ∧ (¬ (nI it) < 0 → q_W L (d + 7) 119 q_m119 Q 393 [some (.ref 192), some (.int (nI e)), some (.int (nI p)), some (.int (nI a)), some (.int (nI b)), some (.int (nI 1)), some (.int od), some (.int (nI it)), some (.int bs), some (.int s0), some (.int o0), some (.int (nI 0)), none] [] (n, I5, f_tx J e S, R) 0 0)
    refine ⟨fun z => absurd z (nI_pos (by omega)), fun _ => ?_⟩
    refine q_k 1 ?_
    show q_W L (d + 7) 119 q_m119 Q 394 [some (.ref 192), some (.int (nI e)), some (.int (nI p)), some (.int (nI a)), some (.int (nI b)), some (.int (nI 1)), some (.int od), some (.int (nI it)), some (.int bs), some (.int s0), some (.int o0), some (.int (nI 0)), none] [.ref 192] (n, I5, f_tx J e S, R) 0 0
    refine q_gR (b := 201) rfl rfl (⟨Nat.lt_of_lt_of_le (by decide) hK.1, rfl⟩) (hK.2.1 192 8 201 rfl) ?_
    refine q_k 2 ?_
    show q_W L (d + 7) 119 q_m119 Q 400 [some (.ref 192), some (.int (nI e)), some (.int (nI p)), some (.int (nI a)), some (.int (nI b)), some (.int (nI 1)), some (.int od), some (.int (nI it)), some (.int bs), some (.int s0), some (.int o0), some (.int (nI 0)), none] [.int (nI b), .ref 201, .int (nI b), .ref 201] (n, I5, f_tx J e S, R) 0 0
    refine q_ial (m := b) rfl (⟨by decide, Nat.lt_of_lt_of_le (by decide) hK.1, rfl⟩) (hb) (rfl) ?_
    refine q_top (w := nI c) (by rw [f5 201 (by decide) (by decide), f4 201 (by decide) (by decide) (by decide) (by decide) (by decide) (by decide) (by decide) (by decide), f3 201 (by decide) (by decide) (by decide) (by decide) (by decide), eI2, q_un (by decide), q_un (by decide), q_un (by decide), f1 201 (by decide)]; exact hc) ?_
    refine q_k 2 ?_
    show q_W L (d + 7) 119 q_m119 Q 403 [some (.ref 192), some (.int (nI e)), some (.int (nI p)), some (.int (nI a)), some (.int (nI b)), some (.int (nI 1)), some (.int od), some (.int (nI it)), some (.int bs), some (.int s0), some (.int o0), some (.int (nI 0)), none] [.int ((nI c) - (nI 1)), .int (nI b), .ref 201] (n, I5, f_tx J e S, R) 0 0
    refine q_top (w := nI (c - 1)) (pk_sub (by omega)) ?_
    refine q_ias (m := b) rfl (⟨by decide, Nat.lt_of_lt_of_le (by decide) hK.1, rfl⟩) (hb) (rfl) ?_
    obtain ⟨I6, eI6⟩ : ∃ zz9, zz9 = q_up I5 201 b (nI (c - 1)) := ⟨_, rfl⟩
    rw [← eI6]
    refine q_k 4 ?_
    show q_W L (d + 7) 119 q_m119 Q 410 [some (.ref 192), some (.int (nI e)), some (.int (nI p)), some (.int (nI a)), some (.int (nI b)), some (.int (nI 1)), some (.int od), some (.int (nI it)), some (.int bs), some (.int s0), some (.int o0), some (.int (nI 0)), none] [.int ((nI 10) * (nI b)), .int (nI 2)] (n, I6, f_tx J e S, R) 0 0
    refine q_top (w := nI (10 * b)) (pk_mul _ _) ?_
    refine q_k 2 ?_
    show q_W L (d + 7) 119 q_m119 Q 413 [some (.ref 192), some (.int (nI e)), some (.int (nI p)), some (.int (nI a)), some (.int (nI b)), some (.int (nI 1)), some (.int od), some (.int (nI it)), some (.int bs), some (.int s0), some (.int o0), some (.int (nI 0)), none] [.int ((nI (10 * b)) + (nI it)), .int (nI 2)] (n, I6, f_tx J e S, R) 0 0
    refine q_top (w := nI (10 * b + it)) (nI_add _ _) ?_
    refine q_k 1 ?_
    show q_W L (d + 7) 119 q_m119 Q 414 [some (.ref 192), some (.int (nI e)), some (.int (nI p)), some (.int (nI a)), some (.int (nI b)), some (.int (nI 1)), some (.int od), some (.int (nI it)), some (.int bs), some (.int s0), some (.int o0), some (.int (nI 0)), none] [.int ((nI 2) * (nI (10 * b + it)))] (n, I6, f_tx J e S, R) 0 0
    refine q_top (w := nI (2 * (10 * b + it))) (pk_mul _ _) ?_
    refine q_k 1 ?_
    show q_W L (d + 7) 119 q_m119 Q 416 [some (.ref 192), some (.int (nI e)), some (.int (nI p)), some (.int (nI a)), some (.int (nI b)), some (.int (nI 1)), some (.int od), some (.int (nI it)), some (.int bs), some (.int s0), some (.int o0), some (.int (nI 0)), some (.int (nI (2 * (10 * b + it))))] [] (n, I6, f_tx J e S, R) 0 0
    refine q_loop (σ := q_I) (2 * (10 * b + (c - 1))) (fun y0 I7 => (∀ j, I7 200 j = if 2 * (10 * b + it) ≤ j ∧ j < y0 then I 200 (j + 2) else I 200 j) ∧ 2 * (10 * b + it) ≤ y0 ∧ ∀ x, x ≠ 200 → I7 x = I6 x) (fun y0 I7 => q_W L (d + 7) 119 q_m119 Q 416 [some (.ref 192), some (.int (nI e)), some (.int (nI p)), some (.int (nI a)), some (.int (nI b)), some (.int (nI 1)), some (.int od), some (.int (nI it)), some (.int bs), some (.int s0), some (.int o0), some (.int (nI 0)), some (.int (nI y0))] [] (n, I7, f_tx J e S, R) 0 0) ?_ ?_ (2 * (10 * b + it)) I6 (by omega) ?_
    · intro I7 hI7
      show q_W L (d + 7) 119 q_m119 Q 416 [some (.ref 192), some (.int (nI e)), some (.int (nI p)), some (.int (nI a)), some (.int (nI b)), some (.int (nI 1)), some (.int od), some (.int (nI it)), some (.int bs), some (.int s0), some (.int o0), some (.int (nI 0)), some (.int (nI (2 * (10 * b + (c - 1)))))] [] (n, I7, f_tx J e S, R) 0 0
      refine q_k 5 ?_
      show q_W L (d + 7) 119 q_m119 Q 424 [some (.ref 192), some (.int (nI e)), some (.int (nI p)), some (.int (nI a)), some (.int (nI b)), some (.int (nI 1)), some (.int od), some (.int (nI it)), some (.int bs), some (.int s0), some (.int o0), some (.int (nI 0)), some (.int (nI (2 * (10 * b + (c - 1)))))] [.int ((nI 10) * (nI b)), .int (nI 2), .int (nI (2 * (10 * b + (c - 1))))] (n, I7, f_tx J e S, R) 0 0
      refine q_top (w := nI (10 * b)) (pk_mul _ _) ?_
      refine q_k 1 ?_
      show q_W L (d + 7) 119 q_m119 Q 425 [some (.ref 192), some (.int (nI e)), some (.int (nI p)), some (.int (nI a)), some (.int (nI b)), some (.int (nI 1)), some (.int od), some (.int (nI it)), some (.int bs), some (.int s0), some (.int o0), some (.int (nI 0)), some (.int (nI (2 * (10 * b + (c - 1)))))] [.ref 192, .int (nI (10 * b)), .int (nI 2), .int (nI (2 * (10 * b + (c - 1))))] (n, I7, f_tx J e S, R) 0 0
      refine q_gR (b := 201) rfl rfl (⟨Nat.lt_of_lt_of_le (by decide) hK.1, rfl⟩) (hK.2.1 192 8 201 rfl) ?_
      refine q_k 1 ?_
      show q_W L (d + 7) 119 q_m119 Q 430 [some (.ref 192), some (.int (nI e)), some (.int (nI p)), some (.int (nI a)), some (.int (nI b)), some (.int (nI 1)), some (.int od), some (.int (nI it)), some (.int bs), some (.int s0), some (.int o0), some (.int (nI 0)), some (.int (nI (2 * (10 * b + (c - 1)))))] [.int (nI b), .ref 201, .int (nI (10 * b)), .int (nI 2), .int (nI (2 * (10 * b + (c - 1))))] (n, I7, f_tx J e S, R) 0 0
      refine q_ial (m := b) rfl (⟨by decide, Nat.lt_of_lt_of_le (by decide) hK.1, rfl⟩) (hb) (rfl) ?_
      refine q_top (w := nI (c - 1)) (by rw [hI7.2.2 201 (by decide), eI6, q_usk]) ?_
      refine q_k 1 ?_
      show q_W L (d + 7) 119 q_m119 Q 432 [some (.ref 192), some (.int (nI e)), some (.int (nI p)), some (.int (nI a)), some (.int (nI b)), some (.int (nI 1)), some (.int od), some (.int (nI it)), some (.int bs), some (.int s0), some (.int o0), some (.int (nI 0)), some (.int (nI (2 * (10 * b + (c - 1)))))] [.int ((nI (10 * b)) + (nI (c - 1))), .int (nI 2), .int (nI (2 * (10 * b + (c - 1))))] (n, I7, f_tx J e S, R) 0 0
      refine q_top (w := nI (10 * b + (c - 1))) (nI_add _ _) ?_
      refine q_k 1 ?_
      show q_W L (d + 7) 119 q_m119 Q 433 [some (.ref 192), some (.int (nI e)), some (.int (nI p)), some (.int (nI a)), some (.int (nI b)), some (.int (nI 1)), some (.int od), some (.int (nI it)), some (.int bs), some (.int s0), some (.int o0), some (.int (nI 0)), some (.int (nI (2 * (10 * b + (c - 1)))))] [.int ((nI 2) * (nI (10 * b + (c - 1)))), .int (nI (2 * (10 * b + (c - 1))))] (n, I7, f_tx J e S, R) 0 0
      refine q_top (w := nI (2 * (10 * b + (c - 1)))) (pk_mul _ _) ?_
      refine q_one rfl rfl ?_
      show ((nI (2 * (10 * b + (c - 1)))) ≤ (nI (2 * (10 * b + (c - 1)))) → q_W L (d + 7) 119 q_m119 Q 458 [some (.ref 192), some (.int (nI e)), some (.int (nI p)), some (.int (nI a)), some (.int (nI b)), some (.int (nI 1)), some (.int od), some (.int (nI it)), some (.int bs), some (.int s0), some (.int o0), some (.int (nI 0)), some (.int (nI (2 * (10 * b + (c - 1)))))] [] (n, I7, f_tx J e S, R) 0 0) ∧ (¬ (nI (2 * (10 * b + (c - 1)))) ≤ (nI (2 * (10 * b + (c - 1)))) → q_W L (d + 7) 119 q_m119 Q 436 [some (.ref 192), some (.int (nI e)), some (.int (nI p)), some (.int (nI a)), some (.int (nI b)), some (.int (nI 1)), some (.int od), some (.int (nI it)), some (.int bs), some (.int s0), some (.int o0), some (.int (nI 0)), some (.int (nI (2 * (10 * b + (c - 1)))))] [] (n, I7, f_tx J e S, R) 0 0)
      refine ⟨fun _ => ?_, fun z => absurd (nI_le (Nat.le_refl _) (by omega)) z⟩
      refine q_k 1 ?_
      show q_W L (d + 7) 119 q_m119 Q 459 [some (.ref 192), some (.int (nI e)), some (.int (nI p)), some (.int (nI a)), some (.int (nI b)), some (.int (nI 1)), some (.int od), some (.int (nI it)), some (.int bs), some (.int s0), some (.int o0), some (.int (nI 0)), some (.int (nI (2 * (10 * b + (c - 1)))))] [.int (nI 0)] (n, I7, f_tx J e S, R) 0 0
      refine q_one rfl rfl ?_
      show Q (some (.int (nI 0))) (n, I7, f_tx J e S, R)
      have hF : f_beg2 (I1 207) I J e a b p m c = (nI 0, f_rem b it c (f_come p m (va_up S.2.1 11 (nI 1)) (f_ok S b I)), f_tx J e S) := by unfold f_beg2; rw [← eS, if_pos hz, hitv, if_pos hitc]
      have h := hQ (I1 207) I7
      rw [hF] at h
      refine h ⟨fun a ha hb => ?_, ?_⟩ (fun x hx => ?_)
      · show I7 a = (f_rem b it c (f_come p m (va_up S.2.1 11 (nI 1)) (f_ok S b I))) a
        by_cases e0 : a = 200
        · subst e0; funext j; rw [hI7.1 j, f_rem_200, f_come_n (by decide) (by decide), f_ok_n (by decide)]
        · rw [hI7.2.2 a e0, eI6]
          by_cases e1 : a = 201
          · subst e1; rw [q_us, f_rem_201, f_come_n (by decide) (by decide), f_ok_n (by decide), f5 201 (by decide) (by decide), f4 201 (by decide) (by decide) (by decide) (by decide) (by decide) (by decide) (by decide) (by decide), f3 201 (by decide) (by decide) (by decide) (by decide) (by decide), eI2, q_un (by decide), q_un (by decide), q_un (by decide), f1 201 (by decide)]
          · rw [q_un e1, f_rem_n e0 e1]
            by_cases e5 : a = 205
            · subst e5
              rw [r5]
              exact f_come_205 (by rw [f4 205 (by decide) (by decide) (by decide) (by decide) (by decide) (by decide) (by decide) (by decide), f3 205 (by decide) (by decide) (by decide) (by decide) (by decide), eI2, q_un (by decide), q_un (by decide), q_un (by decide), f1 205 (by decide), f_ok_n (by decide)]) (fun i _ => by rw [r4])
            · by_cases e6 : a = 206
              · subst e6; rw [m5, f_come_206, f4 206 (by decide) (by decide) (by decide) (by decide) (by decide) (by decide) (by decide) (by decide), f3 206 (by decide) (by decide) (by decide) (by decide) (by decide), eI2, q_un (by decide), q_un (by decide), q_un (by decide), f1 206 (by decide), f_ok_n (by decide)]
              · rw [f5 a e5 e6, f_come_n e5 e6]
                by_cases e9 : a = 196
                · subst e9; rw [c4, f_ok_196, f3 196 (by decide) (by decide) (by decide) (by decide) (by decide), eI2, q_un (by decide), q_un (by decide), q_un (by decide), f1 196 (by decide)]
                · rw [f4 a (by omega) e9 (by omega) (by omega) (by omega) (by omega) (by omega) (by omega), f3 a (by omega) (by omega) (by omega) (by omega) (by omega), eI2, q_un (by omega), q_un (by omega), q_un (by omega), f1 a (by omega), f_ok_n e9]
      · show I7 192 16 = (f_rem b it c (f_come p m (va_up S.2.1 11 (nI 1)) (f_ok S b I))) 192 16
        rw [hI7.2.2 192 (by decide), eI6, q_un (by decide), f5 192 (by decide) (by decide), e4 16 (by decide) (by decide), f3 192 (by decide) (by decide) (by decide) (by decide) (by decide), eI2, q_un (by decide), q_un (by decide), q_un (by decide), f1 192 (by decide), f_rem_n (by decide) (by decide), f_come_n (by decide) (by decide), f_ok_n (by decide)]
      · rw [hI7.2.2 x (by omega), eI6, q_un (by omega), f5 x (by omega) (by omega), f4 x (by omega) (by omega) (by omega) (by omega) (by omega) (by omega) (by omega) (by omega), f3 x (by omega) (by omega) (by omega) (by omega) (by omega), eI2, q_un (by omega), q_un (by omega), q_un (by omega), f1 x (by omega)]
    · intro y0 I7 hk hI7 ih
      show q_W L (d + 7) 119 q_m119 Q 416 [some (.ref 192), some (.int (nI e)), some (.int (nI p)), some (.int (nI a)), some (.int (nI b)), some (.int (nI 1)), some (.int od), some (.int (nI it)), some (.int bs), some (.int s0), some (.int o0), some (.int (nI 0)), some (.int (nI y0))] [] (n, I7, f_tx J e S, R) 0 0
      refine q_k 5 ?_
      show q_W L (d + 7) 119 q_m119 Q 424 [some (.ref 192), some (.int (nI e)), some (.int (nI p)), some (.int (nI a)), some (.int (nI b)), some (.int (nI 1)), some (.int od), some (.int (nI it)), some (.int bs), some (.int s0), some (.int o0), some (.int (nI 0)), some (.int (nI y0))] [.int ((nI 10) * (nI b)), .int (nI 2), .int (nI y0)] (n, I7, f_tx J e S, R) 0 0
      refine q_top (w := nI (10 * b)) (pk_mul _ _) ?_
      refine q_k 1 ?_
      show q_W L (d + 7) 119 q_m119 Q 425 [some (.ref 192), some (.int (nI e)), some (.int (nI p)), some (.int (nI a)), some (.int (nI b)), some (.int (nI 1)), some (.int od), some (.int (nI it)), some (.int bs), some (.int s0), some (.int o0), some (.int (nI 0)), some (.int (nI y0))] [.ref 192, .int (nI (10 * b)), .int (nI 2), .int (nI y0)] (n, I7, f_tx J e S, R) 0 0
      refine q_gR (b := 201) rfl rfl (⟨Nat.lt_of_lt_of_le (by decide) hK.1, rfl⟩) (hK.2.1 192 8 201 rfl) ?_
      refine q_k 1 ?_
      show q_W L (d + 7) 119 q_m119 Q 430 [some (.ref 192), some (.int (nI e)), some (.int (nI p)), some (.int (nI a)), some (.int (nI b)), some (.int (nI 1)), some (.int od), some (.int (nI it)), some (.int bs), some (.int s0), some (.int o0), some (.int (nI 0)), some (.int (nI y0))] [.int (nI b), .ref 201, .int (nI (10 * b)), .int (nI 2), .int (nI y0)] (n, I7, f_tx J e S, R) 0 0
      refine q_ial (m := b) rfl (⟨by decide, Nat.lt_of_lt_of_le (by decide) hK.1, rfl⟩) (hb) (rfl) ?_
      refine q_top (w := nI (c - 1)) (by rw [hI7.2.2 201 (by decide), eI6, q_usk]) ?_
      refine q_k 1 ?_
      show q_W L (d + 7) 119 q_m119 Q 432 [some (.ref 192), some (.int (nI e)), some (.int (nI p)), some (.int (nI a)), some (.int (nI b)), some (.int (nI 1)), some (.int od), some (.int (nI it)), some (.int bs), some (.int s0), some (.int o0), some (.int (nI 0)), some (.int (nI y0))] [.int ((nI (10 * b)) + (nI (c - 1))), .int (nI 2), .int (nI y0)] (n, I7, f_tx J e S, R) 0 0
      refine q_top (w := nI (10 * b + (c - 1))) (nI_add _ _) ?_
      refine q_k 1 ?_
      show q_W L (d + 7) 119 q_m119 Q 433 [some (.ref 192), some (.int (nI e)), some (.int (nI p)), some (.int (nI a)), some (.int (nI b)), some (.int (nI 1)), some (.int od), some (.int (nI it)), some (.int bs), some (.int s0), some (.int o0), some (.int (nI 0)), some (.int (nI y0))] [.int ((nI 2) * (nI (10 * b + (c - 1)))), .int (nI y0)] (n, I7, f_tx J e S, R) 0 0
      refine q_top (w := nI (2 * (10 * b + (c - 1)))) (pk_mul _ _) ?_
      refine q_one rfl rfl ?_
      show ((nI (2 * (10 * b + (c - 1)))) ≤ (nI y0) → q_W L (d + 7) 119 q_m119 Q 458 [some (.ref 192), some (.int (nI e)), some (.int (nI p)), some (.int (nI a)), some (.int (nI b)), some (.int (nI 1)), some (.int od), some (.int (nI it)), some (.int bs), some (.int s0), some (.int o0), some (.int (nI 0)), some (.int (nI y0))] [] (n, I7, f_tx J e S, R) 0 0) ∧ (¬ (nI (2 * (10 * b + (c - 1)))) ≤ (nI y0) → q_W L (d + 7) 119 q_m119 Q 436 [some (.ref 192), some (.int (nI e)), some (.int (nI p)), some (.int (nI a)), some (.int (nI b)), some (.int (nI 1)), some (.int od), some (.int (nI it)), some (.int bs), some (.int s0), some (.int o0), some (.int (nI 0)), some (.int (nI y0))] [] (n, I7, f_tx J e S, R) 0 0)
      refine ⟨fun z => absurd z (nI_ge hk (by omega)), fun _ => ?_⟩
      refine q_k 1 ?_
      show q_W L (d + 7) 119 q_m119 Q 437 [some (.ref 192), some (.int (nI e)), some (.int (nI p)), some (.int (nI a)), some (.int (nI b)), some (.int (nI 1)), some (.int od), some (.int (nI it)), some (.int bs), some (.int s0), some (.int o0), some (.int (nI 0)), some (.int (nI y0))] [.ref 192] (n, I7, f_tx J e S, R) 0 0
      refine q_gR (b := 200) rfl rfl (⟨Nat.lt_of_lt_of_le (by decide) hK.1, rfl⟩) (hK.2.1 192 7 200 rfl) ?_
      refine q_k 2 ?_
      show q_W L (d + 7) 119 q_m119 Q 443 [some (.ref 192), some (.int (nI e)), some (.int (nI p)), some (.int (nI a)), some (.int (nI b)), some (.int (nI 1)), some (.int od), some (.int (nI it)), some (.int bs), some (.int s0), some (.int o0), some (.int (nI 0)), some (.int (nI y0))] [.ref 192, .int (nI y0), .ref 200] (n, I7, f_tx J e S, R) 0 0
      refine q_gR (b := 200) rfl rfl (⟨Nat.lt_of_lt_of_le (by decide) hK.1, rfl⟩) (hK.2.1 192 7 200 rfl) ?_
      refine q_k 3 ?_
      show q_W L (d + 7) 119 q_m119 Q 450 [some (.ref 192), some (.int (nI e)), some (.int (nI p)), some (.int (nI a)), some (.int (nI b)), some (.int (nI 1)), some (.int od), some (.int (nI it)), some (.int bs), some (.int s0), some (.int o0), some (.int (nI 0)), some (.int (nI y0))] [.int ((nI y0) + (nI 2)), .ref 200, .int (nI y0), .ref 200] (n, I7, f_tx J e S, R) 0 0
      refine q_top (w := nI (y0 + 2)) (nI_add _ _) ?_
      refine q_ial (m := y0 + 2) rfl (⟨by decide, Nat.lt_of_lt_of_le (by decide) hK.1, rfl⟩) (by omega) (rfl) ?_
      refine q_top (w := I 200 (y0 + 2)) (by rw [hI7.1, if_neg (by omega)]) ?_
      refine q_ias (m := y0) rfl (⟨by decide, Nat.lt_of_lt_of_le (by decide) hK.1, rfl⟩) (by omega) (rfl) ?_
      refine q_k 1 ?_
      show q_W L (d + 7) 119 q_m119 Q 455 [some (.ref 192), some (.int (nI e)), some (.int (nI p)), some (.int (nI a)), some (.int (nI b)), some (.int (nI 1)), some (.int od), some (.int (nI it)), some (.int bs), some (.int s0), some (.int o0), some (.int (nI 0)), some (.int ((nI y0) + nI 1))] [] (n, q_up I7 200 y0 (I 200 (y0 + 2)), f_tx J e S, R) 0 0
      rw [show (nI y0) + nI 1 = nI (y0 + 1) from nI_add _ _]
      refine q_k 1 ?_
      show q_W L (d + 7) 119 q_m119 Q 416 [some (.ref 192), some (.int (nI e)), some (.int (nI p)), some (.int (nI a)), some (.int (nI b)), some (.int (nI 1)), some (.int od), some (.int (nI it)), some (.int bs), some (.int s0), some (.int o0), some (.int (nI 0)), some (.int (nI (y0 + 1)))] [] (n, q_up I7 200 y0 (I 200 (y0 + 2)), f_tx J e S, R) 0 0
      refine ih _ ⟨fun j => ?_, by omega, fun x hx => ?_⟩
      · by_cases e : j = y0
        · subst e; rw [q_usk, if_pos (by omega)]
        · rw [q_usn e, hI7.1 j]
          by_cases c1 : 2 * (10 * b + it) ≤ j ∧ j < y0
          · rw [if_pos c1, if_pos (by omega)]
          · rw [if_neg c1, if_neg (by omega)]
      · rw [q_un hx]; exact hI7.2.2 x hx
    · exact ⟨fun j => by rw [if_neg (by omega), eI6, q_un (by decide), f5 200 (by decide) (by decide), f4 200 (by decide) (by decide) (by decide) (by decide) (by decide) (by decide) (by decide) (by decide), f3 200 (by decide) (by decide) (by decide) (by decide) (by decide), eI2, q_un (by decide), q_un (by decide), q_un (by decide), f1 200 (by decide)], Nat.le_refl _, fun _ _ => rfl⟩
  · skip
    rw [hT] at hz ⊢
    show q_W L (d + 7) 119 q_m119 Q 373 [some (.ref 192), some (.int (nI e)), some (.int (nI p)), some (.int (nI a)), some (.int (nI b)), some (.int (nI 1)), some (.int od), some (.int (nI it)), some (.int bs), some (.int s0), some (.int o0), none, none] [.int S.1] (n, I4, J, R) 0 0
    refine q_k 2 ?_
    show q_W L (d + 7) 119 q_m119 Q 377 [some (.ref 192), some (.int (nI e)), some (.int (nI p)), some (.int (nI a)), some (.int (nI b)), some (.int (nI 1)), some (.int od), some (.int (nI it)), some (.int bs), some (.int s0), some (.int o0), some (.int S.1), none] [.int S.1] (n, I4, J, R) 0 0
    refine q_one rfl rfl ?_
    show (S.1 = 0 → q_W L (d + 7) 119 q_m119 Q 383 [some (.ref 192), some (.int (nI e)), some (.int (nI p)), some (.int (nI a)), some (.int (nI b)), some (.int (nI 1)), some (.int od), some (.int (nI it)), some (.int bs), some (.int s0), some (.int o0), some (.int S.1), none] [] (n, I4, J, R) 0 0) ∧ (¬ S.1 = 0 → q_W L (d + 7) 119 q_m119 Q 380 [some (.ref 192), some (.int (nI e)), some (.int (nI p)), some (.int (nI a)), some (.int (nI b)), some (.int (nI 1)), some (.int od), some (.int (nI it)), some (.int bs), some (.int s0), some (.int o0), some (.int S.1), none] [] (n, I4, J, R) 0 0)
    refine ⟨fun z => absurd z (hz), fun _ => ?_⟩
    refine q_k 1 ?_
    show q_W L (d + 7) 119 q_m119 Q 382 [some (.ref 192), some (.int (nI e)), some (.int (nI p)), some (.int (nI a)), some (.int (nI b)), some (.int (nI 1)), some (.int od), some (.int (nI it)), some (.int bs), some (.int s0), some (.int o0), some (.int S.1), none] [.int S.1] (n, I4, J, R) 0 0
    refine q_one rfl rfl ?_
    show Q (some (.int S.1)) (n, I4, J, R)
    have hF : f_beg2 (I1 207) I J e a b p m c = (S.1, I, J) := by unfold f_beg2; rw [← eS, if_neg hz]
    have h := hQ (I1 207) I4
    rw [hF] at h
    exact h ⟨fun a ha hb => by rw [f4 a (by omega) (by omega) (by omega) (by omega) (by omega) (by omega) (by omega), f3 a (by omega) (by omega) (by omega) (by omega) (by omega), eI2, q_un (by omega), q_un (by omega), q_un (by omega), f1 a (by omega)], by rw [e4 16 (by decide) (by decide), f3 192 (by decide) (by decide) (by decide) (by decide) (by decide), eI2, q_un (by decide), q_un (by decide), q_un (by decide), f1 192 (by decide)]⟩ (fun x hx => by rw [f4 x (by omega) (by omega) (by omega) (by omega) (by omega) (by omega) (by omega), f3 x (by omega) (by omega) (by omega) (by omega) (by omega), eI2, q_un (by omega), q_un (by omega), q_un (by omega), f1 x (by omega)])
set_option maxHeartbeats 2000000 in
theorem m_begun_3_10 {L d n : Nat} {I : q_I} {J : q_L} {R : q_R} {Q : q_Q} {e a b p m c x y : Nat} (hK : q_K0 n I R) (he : e + 12 ≤ 720) (hwf : q_wf I J e a b x y) (hp : p < 16) (hm : I 206 p = nI m) (hm3 : m ≤ 3) (hc : I 201 b = nI c) (hc10 : c ≤ 10)  {od z8 : Int32} (ha : a < 4) (hb : b < 4) (hnow : f_now I J e b = true) (hitc : ¬ f_it I J e b c < c) (hQ : (∀ g I', q_ms I' (f_beg2 g I J e a b p m c).2.1 → q_mf I' I → Q (some (.int (f_beg2 g I J e a b p m c).1)) (n, I', (f_beg2 g I J e a b p m c).2.2, R))) : q_W L (d + 7) 119 q_m119 Q 172 [some (.ref 192), some (.int (nI e)), some (.int (nI p)), some (.int (nI a)), some (.int (nI b)), some (.int (nI 1)), some (.int od), some (.int (-1)), some (.int z8), none, none, none, none] [] (n, I, J, R) 0 0 := by
  refine q_k 1 ?_
  show q_W L (d + 7) 119 q_m119 Q 173 [some (.ref 192), some (.int (nI e)), some (.int (nI p)), some (.int (nI a)), some (.int (nI b)), some (.int (nI 1)), some (.int od), some (.int (-1)), some (.int z8), none, none, none, none] [.ref 192] (n, I, J, R) 0 0
  refine q_gR (b := 208) rfl rfl (⟨Nat.lt_of_lt_of_le (by decide) hK.1, rfl⟩) (hK.2.1 192 15 208 rfl) ?_
  refine q_k 3 ?_
  show q_W L (d + 7) 119 q_m119 Q 179 [some (.ref 192), some (.int (nI e)), some (.int (nI p)), some (.int (nI a)), some (.int (nI b)), some (.int (nI 1)), some (.int od), some (.int (-1)), some (.int z8), none, none, none, none] [.int ((nI e) + (nI 4)), .ref 208] (n, I, J, R) 0 0
  refine q_top (w := nI (e + 4)) (nI_add _ _) ?_
  refine q_lal (m := e + 4) rfl (⟨by decide, Nat.lt_of_lt_of_le (by decide) hK.1, rfl⟩) (by omega) (rfl) ?_
  refine q_k 2 ?_
  show q_W L (d + 7) 119 q_m119 Q 183 [some (.ref 192), some (.int (nI e)), some (.int (nI p)), some (.int (nI a)), some (.int (nI b)), some (.int (nI 1)), some (.int od), some (.int (-1)), some (.int ((J 208 (e + 4)).toInt32)), none, none, none, none] [] (n, I, J, R) 0 0
  obtain ⟨bs, ebs⟩ : ∃ zz9, zz9 = (J 208 (e + 4)).toInt32 := ⟨_, rfl⟩
  rw [← ebs]
  refine q_k 1 ?_
  show q_W L (d + 7) 119 q_m119 Q 185 [some (.ref 192), some (.int (nI e)), some (.int (nI p)), some (.int (nI a)), some (.int (nI b)), some (.int (nI 1)), some (.int od), some (.int (-1)), some (.int bs), none, none, none, none] [.int (nI 1)] (n, I, J, R) 0 0
  refine q_one rfl rfl ?_
  show ((nI 1) = 0 → q_W L (d + 7) 119 q_m119 Q 200 [some (.ref 192), some (.int (nI e)), some (.int (nI p)), some (.int (nI a)), some (.int (nI b)), some (.int (nI 1)), some (.int od), some (.int (-1)), some (.int bs), none, none, none, none] [] (n, I, J, R) 0 0) ∧ (¬ (nI 1) = 0 → q_W L (d + 7) 119 q_m119 Q 188 [some (.ref 192), some (.int (nI e)), some (.int (nI p)), some (.int (nI a)), some (.int (nI b)), some (.int (nI 1)), some (.int od), some (.int (-1)), some (.int bs), none, none, none, none] [] (n, I, J, R) 0 0)
  refine ⟨fun z => absurd z (by decide), fun _ => ?_⟩
  refine q_k 1 ?_
  show q_W L (d + 7) 119 q_m119 Q 189 [some (.ref 192), some (.int (nI e)), some (.int (nI p)), some (.int (nI a)), some (.int (nI b)), some (.int (nI 1)), some (.int od), some (.int (-1)), some (.int bs), none, none, none, none] [.ref 192] (n, I, J, R) 0 0
  refine q_gR (b := 198) rfl rfl (⟨Nat.lt_of_lt_of_le (by decide) hK.1, rfl⟩) (hK.2.1 192 5 198 rfl) ?_
  refine q_k 3 ?_
  show q_W L (d + 7) 119 q_m119 Q 196 [some (.ref 192), some (.int (nI e)), some (.int (nI p)), some (.int (nI a)), some (.int (nI b)), some (.int (nI 1)), some (.int od), some (.int (-1)), some (.int bs), none, none, none, none] [.int ((nI 2) * (nI b)), .ref 198] (n, I, J, R) 0 0
  refine q_top (w := nI (2 * b)) (pk_mul _ _) ?_
  refine q_ial (m := 2 * b) rfl (⟨by decide, Nat.lt_of_lt_of_le (by decide) hK.1, rfl⟩) (by omega) (rfl) ?_
  refine q_k 2 ?_
  show q_W L (d + 7) 119 q_m119 Q 211 [some (.ref 192), some (.int (nI e)), some (.int (nI p)), some (.int (nI a)), some (.int (nI b)), some (.int (nI 1)), some (.int od), some (.int (-1)), some (.int bs), some (.int (I 198 (2 * b))), none, none, none] [] (n, I, J, R) 0 0
  obtain ⟨s0, es0⟩ : ∃ zz9, zz9 = I 198 (2 * b) := ⟨_, rfl⟩
  rw [← es0]
  refine q_k 1 ?_
  show q_W L (d + 7) 119 q_m119 Q 213 [some (.ref 192), some (.int (nI e)), some (.int (nI p)), some (.int (nI a)), some (.int (nI b)), some (.int (nI 1)), some (.int od), some (.int (-1)), some (.int bs), some (.int s0), none, none, none] [.int (-1)] (n, I, J, R) 0 0
  refine q_one rfl rfl ?_
  show (0 ≤ (-1) → q_W L (d + 7) 119 q_m119 Q 220 [some (.ref 192), some (.int (nI e)), some (.int (nI p)), some (.int (nI a)), some (.int (nI b)), some (.int (nI 1)), some (.int od), some (.int (-1)), some (.int bs), some (.int s0), none, none, none] [] (n, I, J, R) 0 0) ∧ (¬ 0 ≤ (-1) → q_W L (d + 7) 119 q_m119 Q 216 [some (.ref 192), some (.int (nI e)), some (.int (nI p)), some (.int (nI a)), some (.int (nI b)), some (.int (nI 1)), some (.int od), some (.int (-1)), some (.int bs), some (.int s0), none, none, none] [] (n, I, J, R) 0 0)
  refine ⟨fun z => absurd z (by decide), fun _ => ?_⟩
  refine q_k 4 ?_
  show q_W L (d + 7) 119 q_m119 Q 240 [some (.ref 192), some (.int (nI e)), some (.int (nI p)), some (.int (nI a)), some (.int (nI b)), some (.int (nI 1)), some (.int od), some (.int (-1)), some (.int bs), some (.int s0), some (.int (nI 0)), none, none] [.ref 192] (n, I, J, R) 0 0
  refine q_cv (as := []) (rs := []) rfl rfl rfl (⟨Nat.lt_of_lt_of_le (by decide) hK.1, rfl⟩) rfl rfl ?_
  refine m_clear (hK) (fun I1 h1 f1 => ?_)
  show q_W L (d + 7) 119 q_m119 Q 243 [some (.ref 192), some (.int (nI e)), some (.int (nI p)), some (.int (nI a)), some (.int (nI b)), some (.int (nI 1)), some (.int od), some (.int (-1)), some (.int bs), some (.int s0), some (.int (nI 0)), none, none] [] (n, I1, J, R) 0 0
  refine q_k 1 ?_
  show q_W L (d + 7) 119 q_m119 Q 244 [some (.ref 192), some (.int (nI e)), some (.int (nI p)), some (.int (nI a)), some (.int (nI b)), some (.int (nI 1)), some (.int od), some (.int (-1)), some (.int bs), some (.int s0), some (.int (nI 0)), none, none] [.ref 192] (n, I1, J, R) 0 0
  refine q_gR (b := 207) rfl rfl (⟨Nat.lt_of_lt_of_le (by decide) hK.1, rfl⟩) (hK.2.1 192 14 207 rfl) ?_
  refine q_k 2 ?_
  show q_W L (d + 7) 119 q_m119 Q 250 [some (.ref 192), some (.int (nI e)), some (.int (nI p)), some (.int (nI a)), some (.int (nI b)), some (.int (nI 1)), some (.int od), some (.int (-1)), some (.int bs), some (.int s0), some (.int (nI 0)), none, none] [.int bs, .int (nI 0), .ref 207] (n, I1, J, R) 0 0
  refine q_ias (m := 0) rfl (⟨by decide, Nat.lt_of_lt_of_le (by decide) hK.1, rfl⟩) (by decide) (rfl) ?_
  refine q_k 1 ?_
  show q_W L (d + 7) 119 q_m119 Q 252 [some (.ref 192), some (.int (nI e)), some (.int (nI p)), some (.int (nI a)), some (.int (nI b)), some (.int (nI 1)), some (.int od), some (.int (-1)), some (.int bs), some (.int s0), some (.int (nI 0)), none, none] [.ref 192] (n, q_up I1 207 0 bs, J, R) 0 0
  refine q_gR (b := 207) rfl rfl (⟨Nat.lt_of_lt_of_le (by decide) hK.1, rfl⟩) (hK.2.1 192 14 207 rfl) ?_
  refine q_k 2 ?_
  show q_W L (d + 7) 119 q_m119 Q 258 [some (.ref 192), some (.int (nI e)), some (.int (nI p)), some (.int (nI a)), some (.int (nI b)), some (.int (nI 1)), some (.int od), some (.int (-1)), some (.int bs), some (.int s0), some (.int (nI 0)), none, none] [.int s0, .int (nI 2), .ref 207] (n, q_up I1 207 0 bs, J, R) 0 0
  refine q_ias (m := 2) rfl (⟨by decide, Nat.lt_of_lt_of_le (by decide) hK.1, rfl⟩) (by decide) (rfl) ?_
  refine q_k 1 ?_
  show q_W L (d + 7) 119 q_m119 Q 260 [some (.ref 192), some (.int (nI e)), some (.int (nI p)), some (.int (nI a)), some (.int (nI b)), some (.int (nI 1)), some (.int od), some (.int (-1)), some (.int bs), some (.int s0), some (.int (nI 0)), none, none] [.ref 192] (n, q_up (q_up I1 207 0 bs) 207 2 s0, J, R) 0 0
  refine q_gR (b := 207) rfl rfl (⟨Nat.lt_of_lt_of_le (by decide) hK.1, rfl⟩) (hK.2.1 192 14 207 rfl) ?_
  refine q_k 2 ?_
  show q_W L (d + 7) 119 q_m119 Q 265 [some (.ref 192), some (.int (nI e)), some (.int (nI p)), some (.int (nI a)), some (.int (nI b)), some (.int (nI 1)), some (.int od), some (.int (-1)), some (.int bs), some (.int s0), some (.int (nI 0)), none, none] [.ref 192, .int (nI 3), .ref 207] (n, q_up (q_up I1 207 0 bs) 207 2 s0, J, R) 0 0
  refine q_gR (b := 208) rfl rfl (⟨Nat.lt_of_lt_of_le (by decide) hK.1, rfl⟩) (hK.2.1 192 15 208 rfl) ?_
  refine q_k 3 ?_
  show q_W L (d + 7) 119 q_m119 Q 271 [some (.ref 192), some (.int (nI e)), some (.int (nI p)), some (.int (nI a)), some (.int (nI b)), some (.int (nI 1)), some (.int od), some (.int (-1)), some (.int bs), some (.int s0), some (.int (nI 0)), none, none] [.int ((nI e) + (nI 5)), .ref 208, .int (nI 3), .ref 207] (n, q_up (q_up I1 207 0 bs) 207 2 s0, J, R) 0 0
  refine q_top (w := nI (e + 5)) (nI_add _ _) ?_
  refine q_lal (m := e + 5) rfl (⟨by decide, Nat.lt_of_lt_of_le (by decide) hK.1, rfl⟩) (by omega) (rfl) ?_
  refine q_k 1 ?_
  show q_W L (d + 7) 119 q_m119 Q 273 [some (.ref 192), some (.int (nI e)), some (.int (nI p)), some (.int (nI a)), some (.int (nI b)), some (.int (nI 1)), some (.int od), some (.int (-1)), some (.int bs), some (.int s0), some (.int (nI 0)), none, none] [.int ((J 208 (e + 5)).toInt32), .int (nI 3), .ref 207] (n, q_up (q_up I1 207 0 bs) 207 2 s0, J, R) 0 0
  refine q_ias (m := 3) rfl (⟨by decide, Nat.lt_of_lt_of_le (by decide) hK.1, rfl⟩) (by decide) (rfl) ?_
  obtain ⟨I2, eI2⟩ : ∃ zz9, zz9 = q_up (q_up (q_up I1 207 0 bs) 207 2 s0) 207 3 ((J 208 (e + 5)).toInt32) := ⟨_, rfl⟩
  rw [← eI2]
  refine q_k 2 ?_
  show q_W L (d + 7) 119 q_m119 Q 276 [some (.ref 192), some (.int (nI e)), some (.int (nI p)), some (.int (nI a)), some (.int (nI b)), some (.int (nI 1)), some (.int od), some (.int (-1)), some (.int bs), some (.int s0), some (.int (nI 0)), none, none] [.ref 192, .ref 192] (n, I2, J, R) 0 0
  refine q_gR (b := 197) rfl rfl (⟨Nat.lt_of_lt_of_le (by decide) hK.1, rfl⟩) (hK.2.1 192 4 197 rfl) ?_
  refine q_k 3 ?_
  show q_W L (d + 7) 119 q_m119 Q 282 [some (.ref 192), some (.int (nI e)), some (.int (nI p)), some (.int (nI a)), some (.int (nI b)), some (.int (nI 1)), some (.int od), some (.int (-1)), some (.int bs), some (.int s0), some (.int (nI 0)), none, none] [.int ((nI 2) * (nI a)), .ref 197, .ref 192] (n, I2, J, R) 0 0
  refine q_top (w := nI (2 * a)) (pk_mul _ _) ?_
  refine q_k 2 ?_
  show q_W L (d + 7) 119 q_m119 Q 284 [some (.ref 192), some (.int (nI e)), some (.int (nI p)), some (.int (nI a)), some (.int (nI b)), some (.int (nI 1)), some (.int od), some (.int (-1)), some (.int bs), some (.int s0), some (.int (nI 0)), none, none] [.int ((nI (2 * a)) + (nI 1)), .ref 197, .ref 192] (n, I2, J, R) 0 0
  refine q_top (w := nI (2 * a + 1)) (nI_add _ _) ?_
  refine q_ial (m := 2 * a + 1) rfl (⟨by decide, Nat.lt_of_lt_of_le (by decide) hK.1, rfl⟩) (by omega) (rfl) ?_
  refine q_top (w := I 197 (2 * a + 1)) (by rw [eI2, q_un (by decide), q_un (by decide), q_un (by decide), f1 197 (by decide)]) ?_
  refine q_k 1 ?_
  show q_W L (d + 7) 119 q_m119 Q 287 [some (.ref 192), some (.int (nI e)), some (.int (nI p)), some (.int (nI a)), some (.int (nI b)), some (.int (nI 1)), some (.int od), some (.int (-1)), some (.int bs), some (.int s0), some (.int (nI 0)), none, none] [.int s0, .int (I 197 (2 * a + 1)), .ref 192] (n, I2, J, R) 0 0
  refine q_cs (as := [.int (I 197 (2 * a + 1)), .int s0]) (rs := [.ref 192]) rfl rfl rfl rfl rfl ?_
  refine m_raised  ?_
  show q_W L (d + 7) 119 q_m119 Q 290 [some (.ref 192), some (.int (nI e)), some (.int (nI p)), some (.int (nI a)), some (.int (nI b)), some (.int (nI 1)), some (.int od), some (.int (-1)), some (.int bs), some (.int s0), some (.int (nI 0)), none, none] [.int (g_pow (I 197 (2 * a + 1)) s0), .ref 192] (n, I2, J, R) 0 0
  refine q_k 2 ?_
  show q_W L (d + 7) 119 q_m119 Q 293 [some (.ref 192), some (.int (nI e)), some (.int (nI p)), some (.int (nI a)), some (.int (nI b)), some (.int (nI 1)), some (.int od), some (.int (-1)), some (.int bs), some (.int s0), some (.int (nI 0)), none, none] [.ref 192, .int bs, .int (g_pow (I 197 (2 * a + 1)) s0), .ref 192] (n, I2, J, R) 0 0
  refine q_gR (b := 197) rfl rfl (⟨Nat.lt_of_lt_of_le (by decide) hK.1, rfl⟩) (hK.2.1 192 4 197 rfl) ?_
  refine q_k 3 ?_
  show q_W L (d + 7) 119 q_m119 Q 300 [some (.ref 192), some (.int (nI e)), some (.int (nI p)), some (.int (nI a)), some (.int (nI b)), some (.int (nI 1)), some (.int od), some (.int (-1)), some (.int bs), some (.int s0), some (.int (nI 0)), none, none] [.int ((nI 2) * (nI b)), .ref 197, .int bs, .int (g_pow (I 197 (2 * a + 1)) s0), .ref 192] (n, I2, J, R) 0 0
  refine q_top (w := nI (2 * b)) (pk_mul _ _) ?_
  refine q_ial (m := 2 * b) rfl (⟨by decide, Nat.lt_of_lt_of_le (by decide) hK.1, rfl⟩) (by omega) (rfl) ?_
  refine q_top (w := I 197 (2 * b)) (by rw [eI2, q_un (by decide), q_un (by decide), q_un (by decide), f1 197 (by decide)]) ?_
  refine q_cs (as := [.int bs, .int (I 197 (2 * b))]) (rs := [.int (g_pow (I 197 (2 * a + 1)) s0), .ref 192]) rfl rfl rfl rfl rfl ?_
  refine m_raised  ?_
  show q_W L (d + 7) 119 q_m119 Q 304 [some (.ref 192), some (.int (nI e)), some (.int (nI p)), some (.int (nI a)), some (.int (nI b)), some (.int (nI 1)), some (.int od), some (.int (-1)), some (.int bs), some (.int s0), some (.int (nI 0)), none, none] [.int (g_pow bs (I 197 (2 * b))), .int (g_pow (I 197 (2 * a + 1)) s0), .ref 192] (n, I2, J, R) 0 0
  refine q_k 2 ?_
  show q_W L (d + 7) 119 q_m119 Q 308 [some (.ref 192), some (.int (nI e)), some (.int (nI p)), some (.int (nI a)), some (.int (nI b)), some (.int (nI 1)), some (.int od), some (.int (-1)), some (.int bs), some (.int s0), some (.int (nI 0)), none, none] [.int s0, .int bs, .int (g_pow bs (I 197 (2 * b))), .int (g_pow (I 197 (2 * a + 1)) s0), .ref 192] (n, I2, J, R) 0 0
  refine q_cs (as := [.int bs, .int s0]) (rs := [.int (g_pow bs (I 197 (2 * b))), .int (g_pow (I 197 (2 * a + 1)) s0), .ref 192]) rfl rfl rfl rfl rfl ?_
  refine m_raised  ?_
  show q_W L (d + 7) 119 q_m119 Q 311 [some (.ref 192), some (.int (nI e)), some (.int (nI p)), some (.int (nI a)), some (.int (nI b)), some (.int (nI 1)), some (.int od), some (.int (-1)), some (.int bs), some (.int s0), some (.int (nI 0)), none, none] [.int (g_pow bs s0), .int (g_pow bs (I 197 (2 * b))), .int (g_pow (I 197 (2 * a + 1)) s0), .ref 192] (n, I2, J, R) 0 0
  refine q_k 1 ?_
  show q_W L (d + 7) 119 q_m119 Q 313 [some (.ref 192), some (.int (nI e)), some (.int (nI p)), some (.int (nI a)), some (.int (nI b)), some (.int (nI 1)), some (.int od), some (.int (-1)), some (.int bs), some (.int s0), some (.int (nI 0)), none, none] [.int (-1), .int (g_pow bs s0), .int (g_pow bs (I 197 (2 * b))), .int (g_pow (I 197 (2 * a + 1)) s0), .ref 192] (n, I2, J, R) 0 0
  refine q_one rfl rfl ?_
  show (0 ≤ (-1) → q_W L (d + 7) 119 q_m119 Q 320 [some (.ref 192), some (.int (nI e)), some (.int (nI p)), some (.int (nI a)), some (.int (nI b)), some (.int (nI 1)), some (.int od), some (.int (-1)), some (.int bs), some (.int s0), some (.int (nI 0)), none, none] [.int (g_pow bs s0), .int (g_pow bs (I 197 (2 * b))), .int (g_pow (I 197 (2 * a + 1)) s0), .ref 192] (n, I2, J, R) 0 0) ∧ (¬ 0 ≤ (-1) → q_W L (d + 7) 119 q_m119 Q 316 [some (.ref 192), some (.int (nI e)), some (.int (nI p)), some (.int (nI a)), some (.int (nI b)), some (.int (nI 1)), some (.int od), some (.int (-1)), some (.int bs), some (.int s0), some (.int (nI 0)), none, none] [.int (g_pow bs s0), .int (g_pow bs (I 197 (2 * b))), .int (g_pow (I 197 (2 * a + 1)) s0), .ref 192] (n, I2, J, R) 0 0)
  refine ⟨fun z => absurd z (by decide), fun _ => ?_⟩
  refine q_k 3 ?_
  show q_W L (d + 7) 119 q_m119 Q 341 [some (.ref 192), some (.int (nI e)), some (.int (nI p)), some (.int (nI a)), some (.int (nI b)), some (.int (nI 1)), some (.int od), some (.int (-1)), some (.int bs), some (.int s0), some (.int (nI 0)), none, none] [.ref 192, .int (nI 0), .int (g_pow bs s0), .int (g_pow bs (I 197 (2 * b))), .int (g_pow (I 197 (2 * a + 1)) s0), .ref 192] (n, I2, J, R) 0 0
  refine q_gR (b := 197) rfl rfl (⟨Nat.lt_of_lt_of_le (by decide) hK.1, rfl⟩) (hK.2.1 192 4 197 rfl) ?_
  refine q_k 3 ?_
  show q_W L (d + 7) 119 q_m119 Q 347 [some (.ref 192), some (.int (nI e)), some (.int (nI p)), some (.int (nI a)), some (.int (nI b)), some (.int (nI 1)), some (.int od), some (.int (-1)), some (.int bs), some (.int s0), some (.int (nI 0)), none, none] [.int ((nI 2) * (nI a)), .ref 197, .int (nI 0), .int (g_pow bs s0), .int (g_pow bs (I 197 (2 * b))), .int (g_pow (I 197 (2 * a + 1)) s0), .ref 192] (n, I2, J, R) 0 0
  refine q_top (w := nI (2 * a)) (pk_mul _ _) ?_
  refine q_k 2 ?_
  show q_W L (d + 7) 119 q_m119 Q 349 [some (.ref 192), some (.int (nI e)), some (.int (nI p)), some (.int (nI a)), some (.int (nI b)), some (.int (nI 1)), some (.int od), some (.int (-1)), some (.int bs), some (.int s0), some (.int (nI 0)), none, none] [.int ((nI (2 * a)) + (nI 1)), .ref 197, .int (nI 0), .int (g_pow bs s0), .int (g_pow bs (I 197 (2 * b))), .int (g_pow (I 197 (2 * a + 1)) s0), .ref 192] (n, I2, J, R) 0 0
  refine q_top (w := nI (2 * a + 1)) (nI_add _ _) ?_
  refine q_ial (m := 2 * a + 1) rfl (⟨by decide, Nat.lt_of_lt_of_le (by decide) hK.1, rfl⟩) (by omega) (rfl) ?_
  refine q_top (w := I 197 (2 * a + 1)) (by rw [eI2, q_un (by decide), q_un (by decide), q_un (by decide), f1 197 (by decide)]) ?_
  refine q_k 1 ?_
  show q_W L (d + 7) 119 q_m119 Q 351 [some (.ref 192), some (.int (nI e)), some (.int (nI p)), some (.int (nI a)), some (.int (nI b)), some (.int (nI 1)), some (.int od), some (.int (-1)), some (.int bs), some (.int s0), some (.int (nI 0)), none, none] [.ref 192, .int (I 197 (2 * a + 1)), .int (nI 0), .int (g_pow bs s0), .int (g_pow bs (I 197 (2 * b))), .int (g_pow (I 197 (2 * a + 1)) s0), .ref 192] (n, I2, J, R) 0 0
  refine q_gR (b := 197) rfl rfl (⟨Nat.lt_of_lt_of_le (by decide) hK.1, rfl⟩) (hK.2.1 192 4 197 rfl) ?_
  refine q_k 3 ?_
  show q_W L (d + 7) 119 q_m119 Q 358 [some (.ref 192), some (.int (nI e)), some (.int (nI p)), some (.int (nI a)), some (.int (nI b)), some (.int (nI 1)), some (.int od), some (.int (-1)), some (.int bs), some (.int s0), some (.int (nI 0)), none, none] [.int ((nI 2) * (nI b)), .ref 197, .int (I 197 (2 * a + 1)), .int (nI 0), .int (g_pow bs s0), .int (g_pow bs (I 197 (2 * b))), .int (g_pow (I 197 (2 * a + 1)) s0), .ref 192] (n, I2, J, R) 0 0
  refine q_top (w := nI (2 * b)) (pk_mul _ _) ?_
  refine q_k 2 ?_
  show q_W L (d + 7) 119 q_m119 Q 360 [some (.ref 192), some (.int (nI e)), some (.int (nI p)), some (.int (nI a)), some (.int (nI b)), some (.int (nI 1)), some (.int od), some (.int (-1)), some (.int bs), some (.int s0), some (.int (nI 0)), none, none] [.int ((nI (2 * b)) + (nI 1)), .ref 197, .int (I 197 (2 * a + 1)), .int (nI 0), .int (g_pow bs s0), .int (g_pow bs (I 197 (2 * b))), .int (g_pow (I 197 (2 * a + 1)) s0), .ref 192] (n, I2, J, R) 0 0
  refine q_top (w := nI (2 * b + 1)) (nI_add _ _) ?_
  refine q_ial (m := 2 * b + 1) rfl (⟨by decide, Nat.lt_of_lt_of_le (by decide) hK.1, rfl⟩) (by omega) (rfl) ?_
  refine q_top (w := I 197 (2 * b + 1)) (by rw [eI2, q_un (by decide), q_un (by decide), q_un (by decide), f1 197 (by decide)]) ?_
  refine q_k 1 ?_
  show q_W L (d + 7) 119 q_m119 Q 363 [some (.ref 192), some (.int (nI e)), some (.int (nI p)), some (.int (nI a)), some (.int (nI b)), some (.int (nI 1)), some (.int od), some (.int (-1)), some (.int bs), some (.int s0), some (.int (nI 0)), none, none] [.int (nI 0), .int (I 197 (2 * b + 1)), .int (I 197 (2 * a + 1)), .int (nI 0), .int (g_pow bs s0), .int (g_pow bs (I 197 (2 * b))), .int (g_pow (I 197 (2 * a + 1)) s0), .ref 192] (n, I2, J, R) 0 0
  refine q_cv (as := [.int (g_pow (I 197 (2 * a + 1)) s0), .int (g_pow bs (I 197 (2 * b))), .int (g_pow bs s0), .int (nI 0), .int (I 197 (2 * a + 1)), .int (I 197 (2 * b + 1)), .int (nI 0)]) (rs := []) rfl rfl rfl (⟨Nat.lt_of_lt_of_le (by decide) hK.1, rfl⟩) rfl rfl ?_
  refine m_agree (q_K0_to hK (by rw [eI2, q_un (by decide), q_un (by decide), q_un (by decide), f1 0 (by decide)]) (by rw [eI2, q_un (by decide), q_un (by decide), q_un (by decide), f1 1 (by decide)])) (fun I3 a3 g3 f3 => ?_)
  have hrow : I3 207 = f_brow (I1 207) I J e a b c := by
    unfold f_brow
    rw [hnow, if_pos rfl]; rw [if_neg hitc, if_neg hitc]
    funext (i : Nat)
    unfold s_new
    by_cases c1 : 14 ≤ i ∧ i < 22
    · obtain ⟨j, rfl⟩ : ∃ j, i = 14 + j := ⟨i - 14, by omega⟩
      rw [a3 j (by omega), if_neg (by omega), if_neg (by omega), if_neg (by omega), if_pos c1, show 14 + j - 14 = j by omega]
      unfold g_agr
      rw [← ebs, ← es0]
    · rw [g3 i (by omega), eI2]
      by_cases e3 : i = 3
      · subst e3; rw [q_usk, if_neg (by decide), if_neg (by decide), if_pos rfl]
      · rw [q_usn e3]
        by_cases e2 : i = 2
        · subst e2; rw [q_usk, if_neg (by decide), if_pos rfl, es0]
        · rw [q_usn e2]
          by_cases e0 : i = 0
          · subst e0; rw [q_usk, if_pos rfl, ebs]
          · rw [q_usn e0, if_neg e0, if_neg e2, if_neg e3, if_neg c1]
            by_cases c3 : i < 318
            · rw [if_pos c3, h1 i c3]
            · rw [if_neg c3]
  have hmq : q_mq I3 I := fun a ha hb => by rw [f3 a (by omega) (by omega) (by omega) (by omega) (by omega), eI2, q_un (by omega), q_un (by omega), q_un (by omega), f1 a (by omega)]
  obtain ⟨S, eS⟩ : ∃ z, z = f_try I J e a b (f_brow (I1 207) I J e a b c) := ⟨_, rfl⟩
  have hT : f_try I3 J e a b (I3 207) = S := by rw [eS, hrow, f_try_c hmq]
  show q_W L (d + 7) 119 q_m119 Q 366 [some (.ref 192), some (.int (nI e)), some (.int (nI p)), some (.int (nI a)), some (.int (nI b)), some (.int (nI 1)), some (.int od), some (.int (-1)), some (.int bs), some (.int s0), some (.int (nI 0)), none, none] [] (n, I3, J, R) 0 0
  refine q_k 3 ?_
  show q_W L (d + 7) 119 q_m119 Q 370 [some (.ref 192), some (.int (nI e)), some (.int (nI p)), some (.int (nI a)), some (.int (nI b)), some (.int (nI 1)), some (.int od), some (.int (-1)), some (.int bs), some (.int s0), some (.int (nI 0)), none, none] [.int (nI b), .int (nI e), .ref 192] (n, I3, J, R) 0 0
  refine q_cv (as := [.int (nI e), .int (nI b)]) (rs := []) rfl rfl rfl (⟨Nat.lt_of_lt_of_le (by decide) hK.1, rfl⟩) rfl rfl ?_
  refine m_tried (c := 0) (w := 0) (q_K0_to hK (by rw [f3 0 (by decide) (by decide) (by decide) (by decide) (by decide), eI2, q_un (by decide), q_un (by decide), q_un (by decide), f1 0 (by decide)]) (by rw [f3 1 (by decide) (by decide) (by decide) (by decide) (by decide), eI2, q_un (by decide), q_un (by decide), q_un (by decide), f1 1 (by decide)])) he hwf.fa hwf.fb hwf.ha hwf.hb hwf.fm hwf.hm hwf.fp hwf.hp (by rw [g3 9 (by decide), eI2, q_usn (by decide), q_usn (by decide), q_usn (by decide)]; exact h1 9 (by decide)) (by omega) (by rw [g3 7 (by decide), eI2, q_usn (by decide), q_usn (by decide), q_usn (by decide)]; exact h1 7 (by decide)) (by omega) (fun hz I4 r4 c4 f4 e4 => ?_) (fun hz I4 f4 e4 => ?_)
  · skip
    rw [hT] at hz r4 c4 ⊢
    show q_W L (d + 7) 119 q_m119 Q 373 [some (.ref 192), some (.int (nI e)), some (.int (nI p)), some (.int (nI a)), some (.int (nI b)), some (.int (nI 1)), some (.int od), some (.int (-1)), some (.int bs), some (.int s0), some (.int (nI 0)), none, none] [.int (nI 0)] (n, I4, f_tx J e S, R) 0 0
    refine q_k 2 ?_
    show q_W L (d + 7) 119 q_m119 Q 377 [some (.ref 192), some (.int (nI e)), some (.int (nI p)), some (.int (nI a)), some (.int (nI b)), some (.int (nI 1)), some (.int od), some (.int (-1)), some (.int bs), some (.int s0), some (.int (nI 0)), some (.int (nI 0)), none] [.int (nI 0)] (n, I4, f_tx J e S, R) 0 0
    refine q_one rfl rfl ?_
    show ((nI 0) = 0 → q_W L (d + 7) 119 q_m119 Q 383 [some (.ref 192), some (.int (nI e)), some (.int (nI p)), some (.int (nI a)), some (.int (nI b)), some (.int (nI 1)), some (.int od), some (.int (-1)), some (.int bs), some (.int s0), some (.int (nI 0)), some (.int (nI 0)), none] [] (n, I4, f_tx J e S, R) 0 0) ∧ (¬ (nI 0) = 0 → q_W L (d + 7) 119 q_m119 Q 380 [some (.ref 192), some (.int (nI e)), some (.int (nI p)), some (.int (nI a)), some (.int (nI b)), some (.int (nI 1)), some (.int od), some (.int (-1)), some (.int bs), some (.int s0), some (.int (nI 0)), some (.int (nI 0)), none] [] (n, I4, f_tx J e S, R) 0 0)
    refine ⟨fun _ => ?_, fun z => absurd (rfl) z⟩
    refine q_k 2 ?_
    show q_W L (d + 7) 119 q_m119 Q 385 [some (.ref 192), some (.int (nI e)), some (.int (nI p)), some (.int (nI a)), some (.int (nI b)), some (.int (nI 1)), some (.int od), some (.int (-1)), some (.int bs), some (.int s0), some (.int (nI 0)), some (.int (nI 0)), none] [.int (nI p), .ref 192] (n, I4, f_tx J e S, R) 0 0
    refine q_cv (as := [.int (nI p)]) (rs := []) rfl rfl rfl (⟨Nat.lt_of_lt_of_le (by decide) hK.1, rfl⟩) rfl rfl ?_
    refine m_comes (q_K0_to hK (by rw [f4 0 (by decide) (by decide) (by decide) (by decide) (by decide) (by decide) (by decide) (by decide), f3 0 (by decide) (by decide) (by decide) (by decide) (by decide), eI2, q_un (by decide), q_un (by decide), q_un (by decide), f1 0 (by decide)]) (by rw [f4 1 (by decide) (by decide) (by decide) (by decide) (by decide) (by decide) (by decide) (by decide), f3 1 (by decide) (by decide) (by decide) (by decide) (by decide), eI2, q_un (by decide), q_un (by decide), q_un (by decide), f1 1 (by decide)])) (hp) (by rw [f4 206 (by decide) (by decide) (by decide) (by decide) (by decide) (by decide) (by decide) (by decide), f3 206 (by decide) (by decide) (by decide) (by decide) (by decide), eI2, q_un (by decide), q_un (by decide), q_un (by decide), f1 206 (by decide)]; exact hm) (hm3) (fun I5 m5 r5 f5 => ?_)
    show q_W L (d + 7) 119 q_m119 Q 388 [some (.ref 192), some (.int (nI e)), some (.int (nI p)), some (.int (nI a)), some (.int (nI b)), some (.int (nI 1)), some (.int od), some (.int (-1)), some (.int bs), some (.int s0), some (.int (nI 0)), some (.int (nI 0)), none] [] (n, I5, f_tx J e S, R) 0 0
    refine q_k 1 ?_
    show q_W L (d + 7) 119 q_m119 Q 390 [some (.ref 192), some (.int (nI e)), some (.int (nI p)), some (.int (nI a)), some (.int (nI b)), some (.int (nI 1)), some (.int od), some (.int (-1)), some (.int bs), some (.int s0), some (.int (nI 0)), some (.int (nI 0)), none] [.int (-1)] (n, I5, f_tx J e S, R) 0 0
    refine q_one rfl rfl ?_
    show ((-1) < 0 → q_W L (d + 7) 119 q_m119 Q 458 [some (.ref 192), some (.int (nI e)), some (.int (nI p)), some (.int (nI a)), some (.int (nI b)), some (.int (nI 1)), some (.int od), some (.int (-1)), some (.int bs), some (.int s0), some (.int (nI 0)), some (.int (nI 0)), none] [] (n, I5, f_tx J e S, R) 0 0) ∧ (¬ (-1) < 0 → q_W L (d + 7) 119 q_m119 Q 393 [some (.ref 192), some (.int (nI e)), some (.int (nI p)), some (.int (nI a)), some (.int (nI b)), some (.int (nI 1)), some (.int od), some (.int (-1)), some (.int bs), some (.int s0), some (.int (nI 0)), some (.int (nI 0)), none] [] (n, I5, f_tx J e S, R) 0 0)
    refine ⟨fun _ => ?_, fun z => absurd (by decide) z⟩
    refine q_k 1 ?_
    show q_W L (d + 7) 119 q_m119 Q 459 [some (.ref 192), some (.int (nI e)), some (.int (nI p)), some (.int (nI a)), some (.int (nI b)), some (.int (nI 1)), some (.int od), some (.int (-1)), some (.int bs), some (.int s0), some (.int (nI 0)), some (.int (nI 0)), none] [.int (nI 0)] (n, I5, f_tx J e S, R) 0 0
    refine q_one rfl rfl ?_
    show Q (some (.int (nI 0))) (n, I5, f_tx J e S, R)
    have hF : f_beg2 (I1 207) I J e a b p m c = (nI 0, f_come p m (va_up S.2.1 11 (nI 1)) (f_ok S b I), f_tx J e S) := by unfold f_beg2; rw [← eS, if_pos hz, if_neg hitc]
    have h := hQ (I1 207) I5
    rw [hF] at h
    refine h ⟨fun a ha hb => ?_, ?_⟩ (fun x hx => ?_)
    · show I5 a = (f_come p m (va_up S.2.1 11 (nI 1)) (f_ok S b I)) a
      by_cases e5 : a = 205
      · subst e5
        rw [r5]
        exact f_come_205 (by rw [f4 205 (by decide) (by decide) (by decide) (by decide) (by decide) (by decide) (by decide) (by decide), f3 205 (by decide) (by decide) (by decide) (by decide) (by decide), eI2, q_un (by decide), q_un (by decide), q_un (by decide), f1 205 (by decide), f_ok_n (by decide)]) (fun i _ => by rw [r4])
      · by_cases e6 : a = 206
        · subst e6; rw [m5, f_come_206, f4 206 (by decide) (by decide) (by decide) (by decide) (by decide) (by decide) (by decide) (by decide), f3 206 (by decide) (by decide) (by decide) (by decide) (by decide), eI2, q_un (by decide), q_un (by decide), q_un (by decide), f1 206 (by decide), f_ok_n (by decide)]
        · rw [f5 a e5 e6, f_come_n e5 e6]
          by_cases e9 : a = 196
          · subst e9; rw [c4, f_ok_196, f3 196 (by decide) (by decide) (by decide) (by decide) (by decide), eI2, q_un (by decide), q_un (by decide), q_un (by decide), f1 196 (by decide)]
          · rw [f4 a (by omega) e9 (by omega) (by omega) (by omega) (by omega) (by omega) (by omega), f3 a (by omega) (by omega) (by omega) (by omega) (by omega), eI2, q_un (by omega), q_un (by omega), q_un (by omega), f1 a (by omega), f_ok_n e9]
    · show I5 192 16 = (f_come p m (va_up S.2.1 11 (nI 1)) (f_ok S b I)) 192 16
      rw [f5 192 (by decide) (by decide), e4 16 (by decide) (by decide), f3 192 (by decide) (by decide) (by decide) (by decide) (by decide), eI2, q_un (by decide), q_un (by decide), q_un (by decide), f1 192 (by decide), f_come_n (by decide) (by decide), f_ok_n (by decide)]
    · rw [f5 x (by omega) (by omega), f4 x (by omega) (by omega) (by omega) (by omega) (by omega) (by omega) (by omega) (by omega), f3 x (by omega) (by omega) (by omega) (by omega) (by omega), eI2, q_un (by omega), q_un (by omega), q_un (by omega), f1 x (by omega)]
  · skip
    rw [hT] at hz ⊢
    show q_W L (d + 7) 119 q_m119 Q 373 [some (.ref 192), some (.int (nI e)), some (.int (nI p)), some (.int (nI a)), some (.int (nI b)), some (.int (nI 1)), some (.int od), some (.int (-1)), some (.int bs), some (.int s0), some (.int (nI 0)), none, none] [.int S.1] (n, I4, J, R) 0 0
    refine q_k 2 ?_
    show q_W L (d + 7) 119 q_m119 Q 377 [some (.ref 192), some (.int (nI e)), some (.int (nI p)), some (.int (nI a)), some (.int (nI b)), some (.int (nI 1)), some (.int od), some (.int (-1)), some (.int bs), some (.int s0), some (.int (nI 0)), some (.int S.1), none] [.int S.1] (n, I4, J, R) 0 0
    refine q_one rfl rfl ?_
    show (S.1 = 0 → q_W L (d + 7) 119 q_m119 Q 383 [some (.ref 192), some (.int (nI e)), some (.int (nI p)), some (.int (nI a)), some (.int (nI b)), some (.int (nI 1)), some (.int od), some (.int (-1)), some (.int bs), some (.int s0), some (.int (nI 0)), some (.int S.1), none] [] (n, I4, J, R) 0 0) ∧ (¬ S.1 = 0 → q_W L (d + 7) 119 q_m119 Q 380 [some (.ref 192), some (.int (nI e)), some (.int (nI p)), some (.int (nI a)), some (.int (nI b)), some (.int (nI 1)), some (.int od), some (.int (-1)), some (.int bs), some (.int s0), some (.int (nI 0)), some (.int S.1), none] [] (n, I4, J, R) 0 0)
    refine ⟨fun z => absurd z (hz), fun _ => ?_⟩
    refine q_k 1 ?_
    show q_W L (d + 7) 119 q_m119 Q 382 [some (.ref 192), some (.int (nI e)), some (.int (nI p)), some (.int (nI a)), some (.int (nI b)), some (.int (nI 1)), some (.int od), some (.int (-1)), some (.int bs), some (.int s0), some (.int (nI 0)), some (.int S.1), none] [.int S.1] (n, I4, J, R) 0 0
    refine q_one rfl rfl ?_
    show Q (some (.int S.1)) (n, I4, J, R)
    have hF : f_beg2 (I1 207) I J e a b p m c = (S.1, I, J) := by unfold f_beg2; rw [← eS, if_neg hz]
    have h := hQ (I1 207) I4
    rw [hF] at h
    exact h ⟨fun a ha hb => by rw [f4 a (by omega) (by omega) (by omega) (by omega) (by omega) (by omega) (by omega), f3 a (by omega) (by omega) (by omega) (by omega) (by omega), eI2, q_un (by omega), q_un (by omega), q_un (by omega), f1 a (by omega)], by rw [e4 16 (by decide) (by decide), f3 192 (by decide) (by decide) (by decide) (by decide) (by decide), eI2, q_un (by decide), q_un (by decide), q_un (by decide), f1 192 (by decide)]⟩ (fun x hx => by rw [f4 x (by omega) (by omega) (by omega) (by omega) (by omega) (by omega) (by omega), f3 x (by omega) (by omega) (by omega) (by omega) (by omega), eI2, q_un (by omega), q_un (by omega), q_un (by omega), f1 x (by omega)])
set_option maxHeartbeats 2000000 in
theorem m_begun_3_01 {L d n : Nat} {I : q_I} {J : q_L} {R : q_R} {Q : q_Q} {e a b p m c x y : Nat} (hK : q_K0 n I R) (he : e + 12 ≤ 720) (hwf : q_wf I J e a b x y) (hp : p < 16) (hm : I 206 p = nI m) (hm3 : m ≤ 3) (hc : I 201 b = nI c) (hc10 : c ≤ 10)  {od z8 : Int32} (ha : a < 4) (hb : b < 4) (hnow : f_now I J e b = false) {it : Nat} (hitv : f_it I J e b c = it) (hitc : it < c) (hQ : (∀ g I', q_ms I' (f_beg2 g I J e a b p m c).2.1 → q_mf I' I → Q (some (.int (f_beg2 g I J e a b p m c).1)) (n, I', (f_beg2 g I J e a b p m c).2.2, R))) : q_W L (d + 7) 119 q_m119 Q 172 [some (.ref 192), some (.int (nI e)), some (.int (nI p)), some (.int (nI a)), some (.int (nI b)), some (.int (nI 0)), some (.int od), some (.int (nI it)), some (.int z8), none, none, none, none] [] (n, I, J, R) 0 0 := by
  refine q_k 1 ?_
  show q_W L (d + 7) 119 q_m119 Q 173 [some (.ref 192), some (.int (nI e)), some (.int (nI p)), some (.int (nI a)), some (.int (nI b)), some (.int (nI 0)), some (.int od), some (.int (nI it)), some (.int z8), none, none, none, none] [.ref 192] (n, I, J, R) 0 0
  refine q_gR (b := 208) rfl rfl (⟨Nat.lt_of_lt_of_le (by decide) hK.1, rfl⟩) (hK.2.1 192 15 208 rfl) ?_
  refine q_k 3 ?_
  show q_W L (d + 7) 119 q_m119 Q 179 [some (.ref 192), some (.int (nI e)), some (.int (nI p)), some (.int (nI a)), some (.int (nI b)), some (.int (nI 0)), some (.int od), some (.int (nI it)), some (.int z8), none, none, none, none] [.int ((nI e) + (nI 4)), .ref 208] (n, I, J, R) 0 0
  refine q_top (w := nI (e + 4)) (nI_add _ _) ?_
  refine q_lal (m := e + 4) rfl (⟨by decide, Nat.lt_of_lt_of_le (by decide) hK.1, rfl⟩) (by omega) (rfl) ?_
  refine q_k 2 ?_
  show q_W L (d + 7) 119 q_m119 Q 183 [some (.ref 192), some (.int (nI e)), some (.int (nI p)), some (.int (nI a)), some (.int (nI b)), some (.int (nI 0)), some (.int od), some (.int (nI it)), some (.int ((J 208 (e + 4)).toInt32)), none, none, none, none] [] (n, I, J, R) 0 0
  obtain ⟨bs, ebs⟩ : ∃ zz9, zz9 = (J 208 (e + 4)).toInt32 := ⟨_, rfl⟩
  rw [← ebs]
  refine q_k 1 ?_
  show q_W L (d + 7) 119 q_m119 Q 185 [some (.ref 192), some (.int (nI e)), some (.int (nI p)), some (.int (nI a)), some (.int (nI b)), some (.int (nI 0)), some (.int od), some (.int (nI it)), some (.int bs), none, none, none, none] [.int (nI 0)] (n, I, J, R) 0 0
  refine q_one rfl rfl ?_
  show ((nI 0) = 0 → q_W L (d + 7) 119 q_m119 Q 200 [some (.ref 192), some (.int (nI e)), some (.int (nI p)), some (.int (nI a)), some (.int (nI b)), some (.int (nI 0)), some (.int od), some (.int (nI it)), some (.int bs), none, none, none, none] [] (n, I, J, R) 0 0) ∧ (¬ (nI 0) = 0 → q_W L (d + 7) 119 q_m119 Q 188 [some (.ref 192), some (.int (nI e)), some (.int (nI p)), some (.int (nI a)), some (.int (nI b)), some (.int (nI 0)), some (.int od), some (.int (nI it)), some (.int bs), none, none, none, none] [] (n, I, J, R) 0 0)
  refine ⟨fun _ => ?_, fun z => absurd (by decide) z⟩
  refine q_k 1 ?_
  show q_W L (d + 7) 119 q_m119 Q 201 [some (.ref 192), some (.int (nI e)), some (.int (nI p)), some (.int (nI a)), some (.int (nI b)), some (.int (nI 0)), some (.int od), some (.int (nI it)), some (.int bs), none, none, none, none] [.ref 192] (n, I, J, R) 0 0
  refine q_gR (b := 199) rfl rfl (⟨Nat.lt_of_lt_of_le (by decide) hK.1, rfl⟩) (hK.2.1 192 6 199 rfl) ?_
  refine q_k 3 ?_
  show q_W L (d + 7) 119 q_m119 Q 208 [some (.ref 192), some (.int (nI e)), some (.int (nI p)), some (.int (nI a)), some (.int (nI b)), some (.int (nI 0)), some (.int od), some (.int (nI it)), some (.int bs), none, none, none, none] [.int ((nI 2) * (nI b)), .ref 199] (n, I, J, R) 0 0
  refine q_top (w := nI (2 * b)) (pk_mul _ _) ?_
  refine q_ial (m := 2 * b) rfl (⟨by decide, Nat.lt_of_lt_of_le (by decide) hK.1, rfl⟩) (by omega) (rfl) ?_
  refine q_k 1 ?_
  show q_W L (d + 7) 119 q_m119 Q 211 [some (.ref 192), some (.int (nI e)), some (.int (nI p)), some (.int (nI a)), some (.int (nI b)), some (.int (nI 0)), some (.int od), some (.int (nI it)), some (.int bs), some (.int (I 199 (2 * b))), none, none, none] [] (n, I, J, R) 0 0
  obtain ⟨s0, es0⟩ : ∃ zz9, zz9 = I 199 (2 * b) := ⟨_, rfl⟩
  rw [← es0]
  refine q_k 1 ?_
  show q_W L (d + 7) 119 q_m119 Q 213 [some (.ref 192), some (.int (nI e)), some (.int (nI p)), some (.int (nI a)), some (.int (nI b)), some (.int (nI 0)), some (.int od), some (.int (nI it)), some (.int bs), some (.int s0), none, none, none] [.int (nI it)] (n, I, J, R) 0 0
  refine q_one rfl rfl ?_
  show (0 ≤ (nI it) → q_W L (d + 7) 119 q_m119 Q 220 [some (.ref 192), some (.int (nI e)), some (.int (nI p)), some (.int (nI a)), some (.int (nI b)), some (.int (nI 0)), some (.int od), some (.int (nI it)), some (.int bs), some (.int s0), none, none, none] [] (n, I, J, R) 0 0) ∧ (¬ 0 ≤ (nI it) → q_W L (d + 7) 119 q_m119 Q 216 [some (.ref 192), some (.int (nI e)), some (.int (nI p)), some (.int (nI a)), some (.int (nI b)), some (.int (nI 0)), some (.int od), some (.int (nI it)), some (.int bs), some (.int s0), none, none, none] [] (n, I, J, R) 0 0)
  refine ⟨fun _ => ?_, fun z => absurd (nI_pos' (by omega)) z⟩
  refine q_k 1 ?_
  show q_W L (d + 7) 119 q_m119 Q 221 [some (.ref 192), some (.int (nI e)), some (.int (nI p)), some (.int (nI a)), some (.int (nI b)), some (.int (nI 0)), some (.int od), some (.int (nI it)), some (.int bs), some (.int s0), none, none, none] [.ref 192] (n, I, J, R) 0 0
  refine q_gR (b := 200) rfl rfl (⟨Nat.lt_of_lt_of_le (by decide) hK.1, rfl⟩) (hK.2.1 192 7 200 rfl) ?_
  refine q_k 4 ?_
  show q_W L (d + 7) 119 q_m119 Q 230 [some (.ref 192), some (.int (nI e)), some (.int (nI p)), some (.int (nI a)), some (.int (nI b)), some (.int (nI 0)), some (.int od), some (.int (nI it)), some (.int bs), some (.int s0), none, none, none] [.int ((nI 10) * (nI b)), .int (nI 2), .ref 200] (n, I, J, R) 0 0
  refine q_top (w := nI (10 * b)) (pk_mul _ _) ?_
  refine q_k 2 ?_
  show q_W L (d + 7) 119 q_m119 Q 233 [some (.ref 192), some (.int (nI e)), some (.int (nI p)), some (.int (nI a)), some (.int (nI b)), some (.int (nI 0)), some (.int od), some (.int (nI it)), some (.int bs), some (.int s0), none, none, none] [.int ((nI (10 * b)) + (nI it)), .int (nI 2), .ref 200] (n, I, J, R) 0 0
  refine q_top (w := nI (10 * b + it)) (nI_add _ _) ?_
  refine q_k 1 ?_
  show q_W L (d + 7) 119 q_m119 Q 234 [some (.ref 192), some (.int (nI e)), some (.int (nI p)), some (.int (nI a)), some (.int (nI b)), some (.int (nI 0)), some (.int od), some (.int (nI it)), some (.int bs), some (.int s0), none, none, none] [.int ((nI 2) * (nI (10 * b + it))), .ref 200] (n, I, J, R) 0 0
  refine q_top (w := nI (2 * (10 * b + it))) (pk_mul _ _) ?_
  refine q_k 2 ?_
  show q_W L (d + 7) 119 q_m119 Q 236 [some (.ref 192), some (.int (nI e)), some (.int (nI p)), some (.int (nI a)), some (.int (nI b)), some (.int (nI 0)), some (.int od), some (.int (nI it)), some (.int bs), some (.int s0), none, none, none] [.int ((nI (2 * (10 * b + it))) + (nI 1)), .ref 200] (n, I, J, R) 0 0
  refine q_top (w := nI (2 * (10 * b + it) + 1)) (nI_add _ _) ?_
  refine q_ial (m := 2 * (10 * b + it) + 1) rfl (⟨by decide, Nat.lt_of_lt_of_le (by decide) hK.1, rfl⟩) (by omega) (rfl) ?_
  refine q_k 1 ?_
  show q_W L (d + 7) 119 q_m119 Q 239 [some (.ref 192), some (.int (nI e)), some (.int (nI p)), some (.int (nI a)), some (.int (nI b)), some (.int (nI 0)), some (.int od), some (.int (nI it)), some (.int bs), some (.int s0), some (.int (I 200 (2 * (10 * b + it) + 1))), none, none] [] (n, I, J, R) 0 0
  obtain ⟨o0, eo0⟩ : ∃ zz9, zz9 = I 200 (2 * (10 * b + it) + 1) := ⟨_, rfl⟩
  rw [← eo0]
  refine q_k 1 ?_
  show q_W L (d + 7) 119 q_m119 Q 240 [some (.ref 192), some (.int (nI e)), some (.int (nI p)), some (.int (nI a)), some (.int (nI b)), some (.int (nI 0)), some (.int od), some (.int (nI it)), some (.int bs), some (.int s0), some (.int o0), none, none] [.ref 192] (n, I, J, R) 0 0
  refine q_cv (as := []) (rs := []) rfl rfl rfl (⟨Nat.lt_of_lt_of_le (by decide) hK.1, rfl⟩) rfl rfl ?_
  refine m_clear (hK) (fun I1 h1 f1 => ?_)
  show q_W L (d + 7) 119 q_m119 Q 243 [some (.ref 192), some (.int (nI e)), some (.int (nI p)), some (.int (nI a)), some (.int (nI b)), some (.int (nI 0)), some (.int od), some (.int (nI it)), some (.int bs), some (.int s0), some (.int o0), none, none] [] (n, I1, J, R) 0 0
  refine q_k 1 ?_
  show q_W L (d + 7) 119 q_m119 Q 244 [some (.ref 192), some (.int (nI e)), some (.int (nI p)), some (.int (nI a)), some (.int (nI b)), some (.int (nI 0)), some (.int od), some (.int (nI it)), some (.int bs), some (.int s0), some (.int o0), none, none] [.ref 192] (n, I1, J, R) 0 0
  refine q_gR (b := 207) rfl rfl (⟨Nat.lt_of_lt_of_le (by decide) hK.1, rfl⟩) (hK.2.1 192 14 207 rfl) ?_
  refine q_k 2 ?_
  show q_W L (d + 7) 119 q_m119 Q 250 [some (.ref 192), some (.int (nI e)), some (.int (nI p)), some (.int (nI a)), some (.int (nI b)), some (.int (nI 0)), some (.int od), some (.int (nI it)), some (.int bs), some (.int s0), some (.int o0), none, none] [.int bs, .int (nI 0), .ref 207] (n, I1, J, R) 0 0
  refine q_ias (m := 0) rfl (⟨by decide, Nat.lt_of_lt_of_le (by decide) hK.1, rfl⟩) (by decide) (rfl) ?_
  refine q_k 1 ?_
  show q_W L (d + 7) 119 q_m119 Q 252 [some (.ref 192), some (.int (nI e)), some (.int (nI p)), some (.int (nI a)), some (.int (nI b)), some (.int (nI 0)), some (.int od), some (.int (nI it)), some (.int bs), some (.int s0), some (.int o0), none, none] [.ref 192] (n, q_up I1 207 0 bs, J, R) 0 0
  refine q_gR (b := 207) rfl rfl (⟨Nat.lt_of_lt_of_le (by decide) hK.1, rfl⟩) (hK.2.1 192 14 207 rfl) ?_
  refine q_k 2 ?_
  show q_W L (d + 7) 119 q_m119 Q 258 [some (.ref 192), some (.int (nI e)), some (.int (nI p)), some (.int (nI a)), some (.int (nI b)), some (.int (nI 0)), some (.int od), some (.int (nI it)), some (.int bs), some (.int s0), some (.int o0), none, none] [.int s0, .int (nI 2), .ref 207] (n, q_up I1 207 0 bs, J, R) 0 0
  refine q_ias (m := 2) rfl (⟨by decide, Nat.lt_of_lt_of_le (by decide) hK.1, rfl⟩) (by decide) (rfl) ?_
  refine q_k 1 ?_
  show q_W L (d + 7) 119 q_m119 Q 260 [some (.ref 192), some (.int (nI e)), some (.int (nI p)), some (.int (nI a)), some (.int (nI b)), some (.int (nI 0)), some (.int od), some (.int (nI it)), some (.int bs), some (.int s0), some (.int o0), none, none] [.ref 192] (n, q_up (q_up I1 207 0 bs) 207 2 s0, J, R) 0 0
  refine q_gR (b := 207) rfl rfl (⟨Nat.lt_of_lt_of_le (by decide) hK.1, rfl⟩) (hK.2.1 192 14 207 rfl) ?_
  refine q_k 2 ?_
  show q_W L (d + 7) 119 q_m119 Q 265 [some (.ref 192), some (.int (nI e)), some (.int (nI p)), some (.int (nI a)), some (.int (nI b)), some (.int (nI 0)), some (.int od), some (.int (nI it)), some (.int bs), some (.int s0), some (.int o0), none, none] [.ref 192, .int (nI 3), .ref 207] (n, q_up (q_up I1 207 0 bs) 207 2 s0, J, R) 0 0
  refine q_gR (b := 208) rfl rfl (⟨Nat.lt_of_lt_of_le (by decide) hK.1, rfl⟩) (hK.2.1 192 15 208 rfl) ?_
  refine q_k 3 ?_
  show q_W L (d + 7) 119 q_m119 Q 271 [some (.ref 192), some (.int (nI e)), some (.int (nI p)), some (.int (nI a)), some (.int (nI b)), some (.int (nI 0)), some (.int od), some (.int (nI it)), some (.int bs), some (.int s0), some (.int o0), none, none] [.int ((nI e) + (nI 5)), .ref 208, .int (nI 3), .ref 207] (n, q_up (q_up I1 207 0 bs) 207 2 s0, J, R) 0 0
  refine q_top (w := nI (e + 5)) (nI_add _ _) ?_
  refine q_lal (m := e + 5) rfl (⟨by decide, Nat.lt_of_lt_of_le (by decide) hK.1, rfl⟩) (by omega) (rfl) ?_
  refine q_k 1 ?_
  show q_W L (d + 7) 119 q_m119 Q 273 [some (.ref 192), some (.int (nI e)), some (.int (nI p)), some (.int (nI a)), some (.int (nI b)), some (.int (nI 0)), some (.int od), some (.int (nI it)), some (.int bs), some (.int s0), some (.int o0), none, none] [.int ((J 208 (e + 5)).toInt32), .int (nI 3), .ref 207] (n, q_up (q_up I1 207 0 bs) 207 2 s0, J, R) 0 0
  refine q_ias (m := 3) rfl (⟨by decide, Nat.lt_of_lt_of_le (by decide) hK.1, rfl⟩) (by decide) (rfl) ?_
  obtain ⟨I2, eI2⟩ : ∃ zz9, zz9 = q_up (q_up (q_up I1 207 0 bs) 207 2 s0) 207 3 ((J 208 (e + 5)).toInt32) := ⟨_, rfl⟩
  rw [← eI2]
  refine q_k 2 ?_
  show q_W L (d + 7) 119 q_m119 Q 276 [some (.ref 192), some (.int (nI e)), some (.int (nI p)), some (.int (nI a)), some (.int (nI b)), some (.int (nI 0)), some (.int od), some (.int (nI it)), some (.int bs), some (.int s0), some (.int o0), none, none] [.ref 192, .ref 192] (n, I2, J, R) 0 0
  refine q_gR (b := 197) rfl rfl (⟨Nat.lt_of_lt_of_le (by decide) hK.1, rfl⟩) (hK.2.1 192 4 197 rfl) ?_
  refine q_k 3 ?_
  show q_W L (d + 7) 119 q_m119 Q 282 [some (.ref 192), some (.int (nI e)), some (.int (nI p)), some (.int (nI a)), some (.int (nI b)), some (.int (nI 0)), some (.int od), some (.int (nI it)), some (.int bs), some (.int s0), some (.int o0), none, none] [.int ((nI 2) * (nI a)), .ref 197, .ref 192] (n, I2, J, R) 0 0
  refine q_top (w := nI (2 * a)) (pk_mul _ _) ?_
  refine q_k 2 ?_
  show q_W L (d + 7) 119 q_m119 Q 284 [some (.ref 192), some (.int (nI e)), some (.int (nI p)), some (.int (nI a)), some (.int (nI b)), some (.int (nI 0)), some (.int od), some (.int (nI it)), some (.int bs), some (.int s0), some (.int o0), none, none] [.int ((nI (2 * a)) + (nI 1)), .ref 197, .ref 192] (n, I2, J, R) 0 0
  refine q_top (w := nI (2 * a + 1)) (nI_add _ _) ?_
  refine q_ial (m := 2 * a + 1) rfl (⟨by decide, Nat.lt_of_lt_of_le (by decide) hK.1, rfl⟩) (by omega) (rfl) ?_
  refine q_top (w := I 197 (2 * a + 1)) (by rw [eI2, q_un (by decide), q_un (by decide), q_un (by decide), f1 197 (by decide)]) ?_
  refine q_k 1 ?_
  show q_W L (d + 7) 119 q_m119 Q 287 [some (.ref 192), some (.int (nI e)), some (.int (nI p)), some (.int (nI a)), some (.int (nI b)), some (.int (nI 0)), some (.int od), some (.int (nI it)), some (.int bs), some (.int s0), some (.int o0), none, none] [.int s0, .int (I 197 (2 * a + 1)), .ref 192] (n, I2, J, R) 0 0
  refine q_cs (as := [.int (I 197 (2 * a + 1)), .int s0]) (rs := [.ref 192]) rfl rfl rfl rfl rfl ?_
  refine m_raised  ?_
  show q_W L (d + 7) 119 q_m119 Q 290 [some (.ref 192), some (.int (nI e)), some (.int (nI p)), some (.int (nI a)), some (.int (nI b)), some (.int (nI 0)), some (.int od), some (.int (nI it)), some (.int bs), some (.int s0), some (.int o0), none, none] [.int (g_pow (I 197 (2 * a + 1)) s0), .ref 192] (n, I2, J, R) 0 0
  refine q_k 2 ?_
  show q_W L (d + 7) 119 q_m119 Q 293 [some (.ref 192), some (.int (nI e)), some (.int (nI p)), some (.int (nI a)), some (.int (nI b)), some (.int (nI 0)), some (.int od), some (.int (nI it)), some (.int bs), some (.int s0), some (.int o0), none, none] [.ref 192, .int bs, .int (g_pow (I 197 (2 * a + 1)) s0), .ref 192] (n, I2, J, R) 0 0
  refine q_gR (b := 197) rfl rfl (⟨Nat.lt_of_lt_of_le (by decide) hK.1, rfl⟩) (hK.2.1 192 4 197 rfl) ?_
  refine q_k 3 ?_
  show q_W L (d + 7) 119 q_m119 Q 300 [some (.ref 192), some (.int (nI e)), some (.int (nI p)), some (.int (nI a)), some (.int (nI b)), some (.int (nI 0)), some (.int od), some (.int (nI it)), some (.int bs), some (.int s0), some (.int o0), none, none] [.int ((nI 2) * (nI b)), .ref 197, .int bs, .int (g_pow (I 197 (2 * a + 1)) s0), .ref 192] (n, I2, J, R) 0 0
  refine q_top (w := nI (2 * b)) (pk_mul _ _) ?_
  refine q_ial (m := 2 * b) rfl (⟨by decide, Nat.lt_of_lt_of_le (by decide) hK.1, rfl⟩) (by omega) (rfl) ?_
  refine q_top (w := I 197 (2 * b)) (by rw [eI2, q_un (by decide), q_un (by decide), q_un (by decide), f1 197 (by decide)]) ?_
  refine q_cs (as := [.int bs, .int (I 197 (2 * b))]) (rs := [.int (g_pow (I 197 (2 * a + 1)) s0), .ref 192]) rfl rfl rfl rfl rfl ?_
  refine m_raised  ?_
  show q_W L (d + 7) 119 q_m119 Q 304 [some (.ref 192), some (.int (nI e)), some (.int (nI p)), some (.int (nI a)), some (.int (nI b)), some (.int (nI 0)), some (.int od), some (.int (nI it)), some (.int bs), some (.int s0), some (.int o0), none, none] [.int (g_pow bs (I 197 (2 * b))), .int (g_pow (I 197 (2 * a + 1)) s0), .ref 192] (n, I2, J, R) 0 0
  refine q_k 2 ?_
  show q_W L (d + 7) 119 q_m119 Q 308 [some (.ref 192), some (.int (nI e)), some (.int (nI p)), some (.int (nI a)), some (.int (nI b)), some (.int (nI 0)), some (.int od), some (.int (nI it)), some (.int bs), some (.int s0), some (.int o0), none, none] [.int s0, .int bs, .int (g_pow bs (I 197 (2 * b))), .int (g_pow (I 197 (2 * a + 1)) s0), .ref 192] (n, I2, J, R) 0 0
  refine q_cs (as := [.int bs, .int s0]) (rs := [.int (g_pow bs (I 197 (2 * b))), .int (g_pow (I 197 (2 * a + 1)) s0), .ref 192]) rfl rfl rfl rfl rfl ?_
  refine m_raised  ?_
  show q_W L (d + 7) 119 q_m119 Q 311 [some (.ref 192), some (.int (nI e)), some (.int (nI p)), some (.int (nI a)), some (.int (nI b)), some (.int (nI 0)), some (.int od), some (.int (nI it)), some (.int bs), some (.int s0), some (.int o0), none, none] [.int (g_pow bs s0), .int (g_pow bs (I 197 (2 * b))), .int (g_pow (I 197 (2 * a + 1)) s0), .ref 192] (n, I2, J, R) 0 0
  refine q_k 1 ?_
  show q_W L (d + 7) 119 q_m119 Q 313 [some (.ref 192), some (.int (nI e)), some (.int (nI p)), some (.int (nI a)), some (.int (nI b)), some (.int (nI 0)), some (.int od), some (.int (nI it)), some (.int bs), some (.int s0), some (.int o0), none, none] [.int (nI it), .int (g_pow bs s0), .int (g_pow bs (I 197 (2 * b))), .int (g_pow (I 197 (2 * a + 1)) s0), .ref 192] (n, I2, J, R) 0 0
  refine q_one rfl rfl ?_
  show (0 ≤ (nI it) → q_W L (d + 7) 119 q_m119 Q 320 [some (.ref 192), some (.int (nI e)), some (.int (nI p)), some (.int (nI a)), some (.int (nI b)), some (.int (nI 0)), some (.int od), some (.int (nI it)), some (.int bs), some (.int s0), some (.int o0), none, none] [.int (g_pow bs s0), .int (g_pow bs (I 197 (2 * b))), .int (g_pow (I 197 (2 * a + 1)) s0), .ref 192] (n, I2, J, R) 0 0) ∧ (¬ 0 ≤ (nI it) → q_W L (d + 7) 119 q_m119 Q 316 [some (.ref 192), some (.int (nI e)), some (.int (nI p)), some (.int (nI a)), some (.int (nI b)), some (.int (nI 0)), some (.int od), some (.int (nI it)), some (.int bs), some (.int s0), some (.int o0), none, none] [.int (g_pow bs s0), .int (g_pow bs (I 197 (2 * b))), .int (g_pow (I 197 (2 * a + 1)) s0), .ref 192] (n, I2, J, R) 0 0)
  refine ⟨fun _ => ?_, fun z => absurd (nI_pos' (by omega)) z⟩
  refine q_k 2 ?_
  show q_W L (d + 7) 119 q_m119 Q 323 [some (.ref 192), some (.int (nI e)), some (.int (nI p)), some (.int (nI a)), some (.int (nI b)), some (.int (nI 0)), some (.int od), some (.int (nI it)), some (.int bs), some (.int s0), some (.int o0), none, none] [.ref 192, .int bs, .int (g_pow bs s0), .int (g_pow bs (I 197 (2 * b))), .int (g_pow (I 197 (2 * a + 1)) s0), .ref 192] (n, I2, J, R) 0 0
  refine q_gR (b := 200) rfl rfl (⟨Nat.lt_of_lt_of_le (by decide) hK.1, rfl⟩) (hK.2.1 192 7 200 rfl) ?_
  refine q_k 4 ?_
  show q_W L (d + 7) 119 q_m119 Q 332 [some (.ref 192), some (.int (nI e)), some (.int (nI p)), some (.int (nI a)), some (.int (nI b)), some (.int (nI 0)), some (.int od), some (.int (nI it)), some (.int bs), some (.int s0), some (.int o0), none, none] [.int ((nI 10) * (nI b)), .int (nI 2), .ref 200, .int bs, .int (g_pow bs s0), .int (g_pow bs (I 197 (2 * b))), .int (g_pow (I 197 (2 * a + 1)) s0), .ref 192] (n, I2, J, R) 0 0
  refine q_top (w := nI (10 * b)) (pk_mul _ _) ?_
  refine q_k 2 ?_
  show q_W L (d + 7) 119 q_m119 Q 335 [some (.ref 192), some (.int (nI e)), some (.int (nI p)), some (.int (nI a)), some (.int (nI b)), some (.int (nI 0)), some (.int od), some (.int (nI it)), some (.int bs), some (.int s0), some (.int o0), none, none] [.int ((nI (10 * b)) + (nI it)), .int (nI 2), .ref 200, .int bs, .int (g_pow bs s0), .int (g_pow bs (I 197 (2 * b))), .int (g_pow (I 197 (2 * a + 1)) s0), .ref 192] (n, I2, J, R) 0 0
  refine q_top (w := nI (10 * b + it)) (nI_add _ _) ?_
  refine q_k 1 ?_
  show q_W L (d + 7) 119 q_m119 Q 336 [some (.ref 192), some (.int (nI e)), some (.int (nI p)), some (.int (nI a)), some (.int (nI b)), some (.int (nI 0)), some (.int od), some (.int (nI it)), some (.int bs), some (.int s0), some (.int o0), none, none] [.int ((nI 2) * (nI (10 * b + it))), .ref 200, .int bs, .int (g_pow bs s0), .int (g_pow bs (I 197 (2 * b))), .int (g_pow (I 197 (2 * a + 1)) s0), .ref 192] (n, I2, J, R) 0 0
  refine q_top (w := nI (2 * (10 * b + it))) (pk_mul _ _) ?_
  refine q_ial (m := 2 * (10 * b + it)) rfl (⟨by decide, Nat.lt_of_lt_of_le (by decide) hK.1, rfl⟩) (by omega) (rfl) ?_
  refine q_top (w := I 200 (2 * (10 * b + it))) (by rw [eI2, q_un (by decide), q_un (by decide), q_un (by decide), f1 200 (by decide)]) ?_
  refine q_cs (as := [.int bs, .int (I 200 (2 * (10 * b + it)))]) (rs := [.int (g_pow bs s0), .int (g_pow bs (I 197 (2 * b))), .int (g_pow (I 197 (2 * a + 1)) s0), .ref 192]) rfl rfl rfl rfl rfl ?_
  refine m_raised  ?_
  show q_W L (d + 7) 119 q_m119 Q 340 [some (.ref 192), some (.int (nI e)), some (.int (nI p)), some (.int (nI a)), some (.int (nI b)), some (.int (nI 0)), some (.int od), some (.int (nI it)), some (.int bs), some (.int s0), some (.int o0), none, none] [.int (g_pow bs (I 200 (2 * (10 * b + it)))), .int (g_pow bs s0), .int (g_pow bs (I 197 (2 * b))), .int (g_pow (I 197 (2 * a + 1)) s0), .ref 192] (n, I2, J, R) 0 0
  refine q_k 1 ?_
  show q_W L (d + 7) 119 q_m119 Q 341 [some (.ref 192), some (.int (nI e)), some (.int (nI p)), some (.int (nI a)), some (.int (nI b)), some (.int (nI 0)), some (.int od), some (.int (nI it)), some (.int bs), some (.int s0), some (.int o0), none, none] [.ref 192, .int (g_pow bs (I 200 (2 * (10 * b + it)))), .int (g_pow bs s0), .int (g_pow bs (I 197 (2 * b))), .int (g_pow (I 197 (2 * a + 1)) s0), .ref 192] (n, I2, J, R) 0 0
  refine q_gR (b := 197) rfl rfl (⟨Nat.lt_of_lt_of_le (by decide) hK.1, rfl⟩) (hK.2.1 192 4 197 rfl) ?_
  refine q_k 3 ?_
  show q_W L (d + 7) 119 q_m119 Q 347 [some (.ref 192), some (.int (nI e)), some (.int (nI p)), some (.int (nI a)), some (.int (nI b)), some (.int (nI 0)), some (.int od), some (.int (nI it)), some (.int bs), some (.int s0), some (.int o0), none, none] [.int ((nI 2) * (nI a)), .ref 197, .int (g_pow bs (I 200 (2 * (10 * b + it)))), .int (g_pow bs s0), .int (g_pow bs (I 197 (2 * b))), .int (g_pow (I 197 (2 * a + 1)) s0), .ref 192] (n, I2, J, R) 0 0
  refine q_top (w := nI (2 * a)) (pk_mul _ _) ?_
  refine q_k 2 ?_
  show q_W L (d + 7) 119 q_m119 Q 349 [some (.ref 192), some (.int (nI e)), some (.int (nI p)), some (.int (nI a)), some (.int (nI b)), some (.int (nI 0)), some (.int od), some (.int (nI it)), some (.int bs), some (.int s0), some (.int o0), none, none] [.int ((nI (2 * a)) + (nI 1)), .ref 197, .int (g_pow bs (I 200 (2 * (10 * b + it)))), .int (g_pow bs s0), .int (g_pow bs (I 197 (2 * b))), .int (g_pow (I 197 (2 * a + 1)) s0), .ref 192] (n, I2, J, R) 0 0
  refine q_top (w := nI (2 * a + 1)) (nI_add _ _) ?_
  refine q_ial (m := 2 * a + 1) rfl (⟨by decide, Nat.lt_of_lt_of_le (by decide) hK.1, rfl⟩) (by omega) (rfl) ?_
  refine q_top (w := I 197 (2 * a + 1)) (by rw [eI2, q_un (by decide), q_un (by decide), q_un (by decide), f1 197 (by decide)]) ?_
  refine q_k 1 ?_
  show q_W L (d + 7) 119 q_m119 Q 351 [some (.ref 192), some (.int (nI e)), some (.int (nI p)), some (.int (nI a)), some (.int (nI b)), some (.int (nI 0)), some (.int od), some (.int (nI it)), some (.int bs), some (.int s0), some (.int o0), none, none] [.ref 192, .int (I 197 (2 * a + 1)), .int (g_pow bs (I 200 (2 * (10 * b + it)))), .int (g_pow bs s0), .int (g_pow bs (I 197 (2 * b))), .int (g_pow (I 197 (2 * a + 1)) s0), .ref 192] (n, I2, J, R) 0 0
  refine q_gR (b := 197) rfl rfl (⟨Nat.lt_of_lt_of_le (by decide) hK.1, rfl⟩) (hK.2.1 192 4 197 rfl) ?_
  refine q_k 3 ?_
  show q_W L (d + 7) 119 q_m119 Q 358 [some (.ref 192), some (.int (nI e)), some (.int (nI p)), some (.int (nI a)), some (.int (nI b)), some (.int (nI 0)), some (.int od), some (.int (nI it)), some (.int bs), some (.int s0), some (.int o0), none, none] [.int ((nI 2) * (nI b)), .ref 197, .int (I 197 (2 * a + 1)), .int (g_pow bs (I 200 (2 * (10 * b + it)))), .int (g_pow bs s0), .int (g_pow bs (I 197 (2 * b))), .int (g_pow (I 197 (2 * a + 1)) s0), .ref 192] (n, I2, J, R) 0 0
  refine q_top (w := nI (2 * b)) (pk_mul _ _) ?_
  refine q_k 2 ?_
  show q_W L (d + 7) 119 q_m119 Q 360 [some (.ref 192), some (.int (nI e)), some (.int (nI p)), some (.int (nI a)), some (.int (nI b)), some (.int (nI 0)), some (.int od), some (.int (nI it)), some (.int bs), some (.int s0), some (.int o0), none, none] [.int ((nI (2 * b)) + (nI 1)), .ref 197, .int (I 197 (2 * a + 1)), .int (g_pow bs (I 200 (2 * (10 * b + it)))), .int (g_pow bs s0), .int (g_pow bs (I 197 (2 * b))), .int (g_pow (I 197 (2 * a + 1)) s0), .ref 192] (n, I2, J, R) 0 0
  refine q_top (w := nI (2 * b + 1)) (nI_add _ _) ?_
  refine q_ial (m := 2 * b + 1) rfl (⟨by decide, Nat.lt_of_lt_of_le (by decide) hK.1, rfl⟩) (by omega) (rfl) ?_
  refine q_top (w := I 197 (2 * b + 1)) (by rw [eI2, q_un (by decide), q_un (by decide), q_un (by decide), f1 197 (by decide)]) ?_
  refine q_k 1 ?_
  show q_W L (d + 7) 119 q_m119 Q 363 [some (.ref 192), some (.int (nI e)), some (.int (nI p)), some (.int (nI a)), some (.int (nI b)), some (.int (nI 0)), some (.int od), some (.int (nI it)), some (.int bs), some (.int s0), some (.int o0), none, none] [.int o0, .int (I 197 (2 * b + 1)), .int (I 197 (2 * a + 1)), .int (g_pow bs (I 200 (2 * (10 * b + it)))), .int (g_pow bs s0), .int (g_pow bs (I 197 (2 * b))), .int (g_pow (I 197 (2 * a + 1)) s0), .ref 192] (n, I2, J, R) 0 0
  refine q_cv (as := [.int (g_pow (I 197 (2 * a + 1)) s0), .int (g_pow bs (I 197 (2 * b))), .int (g_pow bs s0), .int (g_pow bs (I 200 (2 * (10 * b + it)))), .int (I 197 (2 * a + 1)), .int (I 197 (2 * b + 1)), .int o0]) (rs := []) rfl rfl rfl (⟨Nat.lt_of_lt_of_le (by decide) hK.1, rfl⟩) rfl rfl ?_
  refine m_agree (q_K0_to hK (by rw [eI2, q_un (by decide), q_un (by decide), q_un (by decide), f1 0 (by decide)]) (by rw [eI2, q_un (by decide), q_un (by decide), q_un (by decide), f1 1 (by decide)])) (fun I3 a3 g3 f3 => ?_)
  have hrow : I3 207 = f_brow (I1 207) I J e a b c := by
    unfold f_brow
    rw [hnow, if_neg (by decide)]; rw [hitv, if_pos hitc, if_pos hitc]
    funext (i : Nat)
    unfold s_new
    by_cases c1 : 14 ≤ i ∧ i < 22
    · obtain ⟨j, rfl⟩ : ∃ j, i = 14 + j := ⟨i - 14, by omega⟩
      rw [a3 j (by omega), if_neg (by omega), if_neg (by omega), if_neg (by omega), if_pos c1, show 14 + j - 14 = j by omega]
      unfold g_agr
      rw [← ebs, ← es0, ← eo0]
    · rw [g3 i (by omega), eI2]
      by_cases e3 : i = 3
      · subst e3; rw [q_usk, if_neg (by decide), if_neg (by decide), if_pos rfl]
      · rw [q_usn e3]
        by_cases e2 : i = 2
        · subst e2; rw [q_usk, if_neg (by decide), if_pos rfl, es0]
        · rw [q_usn e2]
          by_cases e0 : i = 0
          · subst e0; rw [q_usk, if_pos rfl, ebs]
          · rw [q_usn e0, if_neg e0, if_neg e2, if_neg e3, if_neg c1]
            by_cases c3 : i < 318
            · rw [if_pos c3, h1 i c3]
            · rw [if_neg c3]
  have hmq : q_mq I3 I := fun a ha hb => by rw [f3 a (by omega) (by omega) (by omega) (by omega) (by omega), eI2, q_un (by omega), q_un (by omega), q_un (by omega), f1 a (by omega)]
  obtain ⟨S, eS⟩ : ∃ z, z = f_try I J e a b (f_brow (I1 207) I J e a b c) := ⟨_, rfl⟩
  have hT : f_try I3 J e a b (I3 207) = S := by rw [eS, hrow, f_try_c hmq]
  show q_W L (d + 7) 119 q_m119 Q 366 [some (.ref 192), some (.int (nI e)), some (.int (nI p)), some (.int (nI a)), some (.int (nI b)), some (.int (nI 0)), some (.int od), some (.int (nI it)), some (.int bs), some (.int s0), some (.int o0), none, none] [] (n, I3, J, R) 0 0
  refine q_k 3 ?_
  show q_W L (d + 7) 119 q_m119 Q 370 [some (.ref 192), some (.int (nI e)), some (.int (nI p)), some (.int (nI a)), some (.int (nI b)), some (.int (nI 0)), some (.int od), some (.int (nI it)), some (.int bs), some (.int s0), some (.int o0), none, none] [.int (nI b), .int (nI e), .ref 192] (n, I3, J, R) 0 0
  refine q_cv (as := [.int (nI e), .int (nI b)]) (rs := []) rfl rfl rfl (⟨Nat.lt_of_lt_of_le (by decide) hK.1, rfl⟩) rfl rfl ?_
  refine m_tried (c := 0) (w := 0) (q_K0_to hK (by rw [f3 0 (by decide) (by decide) (by decide) (by decide) (by decide), eI2, q_un (by decide), q_un (by decide), q_un (by decide), f1 0 (by decide)]) (by rw [f3 1 (by decide) (by decide) (by decide) (by decide) (by decide), eI2, q_un (by decide), q_un (by decide), q_un (by decide), f1 1 (by decide)])) he hwf.fa hwf.fb hwf.ha hwf.hb hwf.fm hwf.hm hwf.fp hwf.hp (by rw [g3 9 (by decide), eI2, q_usn (by decide), q_usn (by decide), q_usn (by decide)]; exact h1 9 (by decide)) (by omega) (by rw [g3 7 (by decide), eI2, q_usn (by decide), q_usn (by decide), q_usn (by decide)]; exact h1 7 (by decide)) (by omega) (fun hz I4 r4 c4 f4 e4 => ?_) (fun hz I4 f4 e4 => ?_)
  · skip
    rw [hT] at hz r4 c4 ⊢
    show q_W L (d + 7) 119 q_m119 Q 373 [some (.ref 192), some (.int (nI e)), some (.int (nI p)), some (.int (nI a)), some (.int (nI b)), some (.int (nI 0)), some (.int od), some (.int (nI it)), some (.int bs), some (.int s0), some (.int o0), none, none] [.int (nI 0)] (n, I4, f_tx J e S, R) 0 0
    refine q_k 2 ?_
    show q_W L (d + 7) 119 q_m119 Q 377 [some (.ref 192), some (.int (nI e)), some (.int (nI p)), some (.int (nI a)), some (.int (nI b)), some (.int (nI 0)), some (.int od), some (.int (nI it)), some (.int bs), some (.int s0), some (.int o0), some (.int (nI 0)), none] [.int (nI 0)] (n, I4, f_tx J e S, R) 0 0
    refine q_one rfl rfl ?_
    show ((nI 0) = 0 → q_W L (d + 7) 119 q_m119 Q 383 [some (.ref 192), some (.int (nI e)), some (.int (nI p)), some (.int (nI a)), some (.int (nI b)), some (.int (nI 0)), some (.int od), some (.int (nI it)), some (.int bs), some (.int s0), some (.int o0), some (.int (nI 0)), none] [] (n, I4, f_tx J e S, R) 0 0) ∧ (¬ (nI 0) = 0 → q_W L (d + 7) 119 q_m119 Q 380 [some (.ref 192), some (.int (nI e)), some (.int (nI p)), some (.int (nI a)), some (.int (nI b)), some (.int (nI 0)), some (.int od), some (.int (nI it)), some (.int bs), some (.int s0), some (.int o0), some (.int (nI 0)), none] [] (n, I4, f_tx J e S, R) 0 0)
    refine ⟨fun _ => ?_, fun z => absurd (rfl) z⟩
    refine q_k 2 ?_
    show q_W L (d + 7) 119 q_m119 Q 385 [some (.ref 192), some (.int (nI e)), some (.int (nI p)), some (.int (nI a)), some (.int (nI b)), some (.int (nI 0)), some (.int od), some (.int (nI it)), some (.int bs), some (.int s0), some (.int o0), some (.int (nI 0)), none] [.int (nI p), .ref 192] (n, I4, f_tx J e S, R) 0 0
    refine q_cv (as := [.int (nI p)]) (rs := []) rfl rfl rfl (⟨Nat.lt_of_lt_of_le (by decide) hK.1, rfl⟩) rfl rfl ?_
    refine m_comes (q_K0_to hK (by rw [f4 0 (by decide) (by decide) (by decide) (by decide) (by decide) (by decide) (by decide) (by decide), f3 0 (by decide) (by decide) (by decide) (by decide) (by decide), eI2, q_un (by decide), q_un (by decide), q_un (by decide), f1 0 (by decide)]) (by rw [f4 1 (by decide) (by decide) (by decide) (by decide) (by decide) (by decide) (by decide) (by decide), f3 1 (by decide) (by decide) (by decide) (by decide) (by decide), eI2, q_un (by decide), q_un (by decide), q_un (by decide), f1 1 (by decide)])) (hp) (by rw [f4 206 (by decide) (by decide) (by decide) (by decide) (by decide) (by decide) (by decide) (by decide), f3 206 (by decide) (by decide) (by decide) (by decide) (by decide), eI2, q_un (by decide), q_un (by decide), q_un (by decide), f1 206 (by decide)]; exact hm) (hm3) (fun I5 m5 r5 f5 => ?_)
    show q_W L (d + 7) 119 q_m119 Q 388 [some (.ref 192), some (.int (nI e)), some (.int (nI p)), some (.int (nI a)), some (.int (nI b)), some (.int (nI 0)), some (.int od), some (.int (nI it)), some (.int bs), some (.int s0), some (.int o0), some (.int (nI 0)), none] [] (n, I5, f_tx J e S, R) 0 0
    refine q_k 1 ?_
    show q_W L (d + 7) 119 q_m119 Q 390 [some (.ref 192), some (.int (nI e)), some (.int (nI p)), some (.int (nI a)), some (.int (nI b)), some (.int (nI 0)), some (.int od), some (.int (nI it)), some (.int bs), some (.int s0), some (.int o0), some (.int (nI 0)), none] [.int (nI it)] (n, I5, f_tx J e S, R) 0 0
    refine q_one rfl rfl ?_
    show ((nI it) < 0 → q_W L (d + 7) 119 q_m119 Q 458 [some (.ref 192), some (.int (nI e)), some (.int (nI p)), some (.int (nI a)), some (.int (nI b)), some (.int (nI 0)), some (.int od), some (.int (nI it)), some (.int bs), some (.int s0), some (.int o0), some (.int (nI 0)), none] [] (n, I5, f_tx J e S, R) 0 0) ∧ (¬ (nI it) < 0 → q_W L (d + 7) 119 q_m119 Q 393 [some (.ref 192), some (.int (nI e)), some (.int (nI p)), some (.int (nI a)), some (.int (nI b)), some (.int (nI 0)), some (.int od), some (.int (nI it)), some (.int bs), some (.int s0), some (.int o0), some (.int (nI 0)), none] [] (n, I5, f_tx J e S, R) 0 0)
    refine ⟨fun z => absurd z (nI_pos (by omega)), fun _ => ?_⟩
    refine q_k 1 ?_
    show q_W L (d + 7) 119 q_m119 Q 394 [some (.ref 192), some (.int (nI e)), some (.int (nI p)), some (.int (nI a)), some (.int (nI b)), some (.int (nI 0)), some (.int od), some (.int (nI it)), some (.int bs), some (.int s0), some (.int o0), some (.int (nI 0)), none] [.ref 192] (n, I5, f_tx J e S, R) 0 0
    refine q_gR (b := 201) rfl rfl (⟨Nat.lt_of_lt_of_le (by decide) hK.1, rfl⟩) (hK.2.1 192 8 201 rfl) ?_
    refine q_k 2 ?_
    show q_W L (d + 7) 119 q_m119 Q 400 [some (.ref 192), some (.int (nI e)), some (.int (nI p)), some (.int (nI a)), some (.int (nI b)), some (.int (nI 0)), some (.int od), some (.int (nI it)), some (.int bs), some (.int s0), some (.int o0), some (.int (nI 0)), none] [.int (nI b), .ref 201, .int (nI b), .ref 201] (n, I5, f_tx J e S, R) 0 0
    refine q_ial (m := b) rfl (⟨by decide, Nat.lt_of_lt_of_le (by decide) hK.1, rfl⟩) (hb) (rfl) ?_
    refine q_top (w := nI c) (by rw [f5 201 (by decide) (by decide), f4 201 (by decide) (by decide) (by decide) (by decide) (by decide) (by decide) (by decide) (by decide), f3 201 (by decide) (by decide) (by decide) (by decide) (by decide), eI2, q_un (by decide), q_un (by decide), q_un (by decide), f1 201 (by decide)]; exact hc) ?_
    refine q_k 2 ?_
    show q_W L (d + 7) 119 q_m119 Q 403 [some (.ref 192), some (.int (nI e)), some (.int (nI p)), some (.int (nI a)), some (.int (nI b)), some (.int (nI 0)), some (.int od), some (.int (nI it)), some (.int bs), some (.int s0), some (.int o0), some (.int (nI 0)), none] [.int ((nI c) - (nI 1)), .int (nI b), .ref 201] (n, I5, f_tx J e S, R) 0 0
    refine q_top (w := nI (c - 1)) (pk_sub (by omega)) ?_
    refine q_ias (m := b) rfl (⟨by decide, Nat.lt_of_lt_of_le (by decide) hK.1, rfl⟩) (hb) (rfl) ?_
    obtain ⟨I6, eI6⟩ : ∃ zz9, zz9 = q_up I5 201 b (nI (c - 1)) := ⟨_, rfl⟩
    rw [← eI6]
    refine q_k 4 ?_
    show q_W L (d + 7) 119 q_m119 Q 410 [some (.ref 192), some (.int (nI e)), some (.int (nI p)), some (.int (nI a)), some (.int (nI b)), some (.int (nI 0)), some (.int od), some (.int (nI it)), some (.int bs), some (.int s0), some (.int o0), some (.int (nI 0)), none] [.int ((nI 10) * (nI b)), .int (nI 2)] (n, I6, f_tx J e S, R) 0 0
    refine q_top (w := nI (10 * b)) (pk_mul _ _) ?_
    refine q_k 2 ?_
    show q_W L (d + 7) 119 q_m119 Q 413 [some (.ref 192), some (.int (nI e)), some (.int (nI p)), some (.int (nI a)), some (.int (nI b)), some (.int (nI 0)), some (.int od), some (.int (nI it)), some (.int bs), some (.int s0), some (.int o0), some (.int (nI 0)), none] [.int ((nI (10 * b)) + (nI it)), .int (nI 2)] (n, I6, f_tx J e S, R) 0 0
    refine q_top (w := nI (10 * b + it)) (nI_add _ _) ?_
    refine q_k 1 ?_
    show q_W L (d + 7) 119 q_m119 Q 414 [some (.ref 192), some (.int (nI e)), some (.int (nI p)), some (.int (nI a)), some (.int (nI b)), some (.int (nI 0)), some (.int od), some (.int (nI it)), some (.int bs), some (.int s0), some (.int o0), some (.int (nI 0)), none] [.int ((nI 2) * (nI (10 * b + it)))] (n, I6, f_tx J e S, R) 0 0
    refine q_top (w := nI (2 * (10 * b + it))) (pk_mul _ _) ?_
    refine q_k 1 ?_
    show q_W L (d + 7) 119 q_m119 Q 416 [some (.ref 192), some (.int (nI e)), some (.int (nI p)), some (.int (nI a)), some (.int (nI b)), some (.int (nI 0)), some (.int od), some (.int (nI it)), some (.int bs), some (.int s0), some (.int o0), some (.int (nI 0)), some (.int (nI (2 * (10 * b + it))))] [] (n, I6, f_tx J e S, R) 0 0
    refine q_loop (σ := q_I) (2 * (10 * b + (c - 1))) (fun y0 I7 => (∀ j, I7 200 j = if 2 * (10 * b + it) ≤ j ∧ j < y0 then I 200 (j + 2) else I 200 j) ∧ 2 * (10 * b + it) ≤ y0 ∧ ∀ x, x ≠ 200 → I7 x = I6 x) (fun y0 I7 => q_W L (d + 7) 119 q_m119 Q 416 [some (.ref 192), some (.int (nI e)), some (.int (nI p)), some (.int (nI a)), some (.int (nI b)), some (.int (nI 0)), some (.int od), some (.int (nI it)), some (.int bs), some (.int s0), some (.int o0), some (.int (nI 0)), some (.int (nI y0))] [] (n, I7, f_tx J e S, R) 0 0) ?_ ?_ (2 * (10 * b + it)) I6 (by omega) ?_
    · intro I7 hI7
      show q_W L (d + 7) 119 q_m119 Q 416 [some (.ref 192), some (.int (nI e)), some (.int (nI p)), some (.int (nI a)), some (.int (nI b)), some (.int (nI 0)), some (.int od), some (.int (nI it)), some (.int bs), some (.int s0), some (.int o0), some (.int (nI 0)), some (.int (nI (2 * (10 * b + (c - 1)))))] [] (n, I7, f_tx J e S, R) 0 0
      refine q_k 5 ?_
      show q_W L (d + 7) 119 q_m119 Q 424 [some (.ref 192), some (.int (nI e)), some (.int (nI p)), some (.int (nI a)), some (.int (nI b)), some (.int (nI 0)), some (.int od), some (.int (nI it)), some (.int bs), some (.int s0), some (.int o0), some (.int (nI 0)), some (.int (nI (2 * (10 * b + (c - 1)))))] [.int ((nI 10) * (nI b)), .int (nI 2), .int (nI (2 * (10 * b + (c - 1))))] (n, I7, f_tx J e S, R) 0 0
      refine q_top (w := nI (10 * b)) (pk_mul _ _) ?_
      refine q_k 1 ?_
      show q_W L (d + 7) 119 q_m119 Q 425 [some (.ref 192), some (.int (nI e)), some (.int (nI p)), some (.int (nI a)), some (.int (nI b)), some (.int (nI 0)), some (.int od), some (.int (nI it)), some (.int bs), some (.int s0), some (.int o0), some (.int (nI 0)), some (.int (nI (2 * (10 * b + (c - 1)))))] [.ref 192, .int (nI (10 * b)), .int (nI 2), .int (nI (2 * (10 * b + (c - 1))))] (n, I7, f_tx J e S, R) 0 0
      refine q_gR (b := 201) rfl rfl (⟨Nat.lt_of_lt_of_le (by decide) hK.1, rfl⟩) (hK.2.1 192 8 201 rfl) ?_
      refine q_k 1 ?_
      show q_W L (d + 7) 119 q_m119 Q 430 [some (.ref 192), some (.int (nI e)), some (.int (nI p)), some (.int (nI a)), some (.int (nI b)), some (.int (nI 0)), some (.int od), some (.int (nI it)), some (.int bs), some (.int s0), some (.int o0), some (.int (nI 0)), some (.int (nI (2 * (10 * b + (c - 1)))))] [.int (nI b), .ref 201, .int (nI (10 * b)), .int (nI 2), .int (nI (2 * (10 * b + (c - 1))))] (n, I7, f_tx J e S, R) 0 0
      refine q_ial (m := b) rfl (⟨by decide, Nat.lt_of_lt_of_le (by decide) hK.1, rfl⟩) (hb) (rfl) ?_
      refine q_top (w := nI (c - 1)) (by rw [hI7.2.2 201 (by decide), eI6, q_usk]) ?_
      refine q_k 1 ?_
      show q_W L (d + 7) 119 q_m119 Q 432 [some (.ref 192), some (.int (nI e)), some (.int (nI p)), some (.int (nI a)), some (.int (nI b)), some (.int (nI 0)), some (.int od), some (.int (nI it)), some (.int bs), some (.int s0), some (.int o0), some (.int (nI 0)), some (.int (nI (2 * (10 * b + (c - 1)))))] [.int ((nI (10 * b)) + (nI (c - 1))), .int (nI 2), .int (nI (2 * (10 * b + (c - 1))))] (n, I7, f_tx J e S, R) 0 0
      refine q_top (w := nI (10 * b + (c - 1))) (nI_add _ _) ?_
      refine q_k 1 ?_
      show q_W L (d + 7) 119 q_m119 Q 433 [some (.ref 192), some (.int (nI e)), some (.int (nI p)), some (.int (nI a)), some (.int (nI b)), some (.int (nI 0)), some (.int od), some (.int (nI it)), some (.int bs), some (.int s0), some (.int o0), some (.int (nI 0)), some (.int (nI (2 * (10 * b + (c - 1)))))] [.int ((nI 2) * (nI (10 * b + (c - 1)))), .int (nI (2 * (10 * b + (c - 1))))] (n, I7, f_tx J e S, R) 0 0
      refine q_top (w := nI (2 * (10 * b + (c - 1)))) (pk_mul _ _) ?_
      refine q_one rfl rfl ?_
      show ((nI (2 * (10 * b + (c - 1)))) ≤ (nI (2 * (10 * b + (c - 1)))) → q_W L (d + 7) 119 q_m119 Q 458 [some (.ref 192), some (.int (nI e)), some (.int (nI p)), some (.int (nI a)), some (.int (nI b)), some (.int (nI 0)), some (.int od), some (.int (nI it)), some (.int bs), some (.int s0), some (.int o0), some (.int (nI 0)), some (.int (nI (2 * (10 * b + (c - 1)))))] [] (n, I7, f_tx J e S, R) 0 0) ∧ (¬ (nI (2 * (10 * b + (c - 1)))) ≤ (nI (2 * (10 * b + (c - 1)))) → q_W L (d + 7) 119 q_m119 Q 436 [some (.ref 192), some (.int (nI e)), some (.int (nI p)), some (.int (nI a)), some (.int (nI b)), some (.int (nI 0)), some (.int od), some (.int (nI it)), some (.int bs), some (.int s0), some (.int o0), some (.int (nI 0)), some (.int (nI (2 * (10 * b + (c - 1)))))] [] (n, I7, f_tx J e S, R) 0 0)
      refine ⟨fun _ => ?_, fun z => absurd (nI_le (Nat.le_refl _) (by omega)) z⟩
      refine q_k 1 ?_
      show q_W L (d + 7) 119 q_m119 Q 459 [some (.ref 192), some (.int (nI e)), some (.int (nI p)), some (.int (nI a)), some (.int (nI b)), some (.int (nI 0)), some (.int od), some (.int (nI it)), some (.int bs), some (.int s0), some (.int o0), some (.int (nI 0)), some (.int (nI (2 * (10 * b + (c - 1)))))] [.int (nI 0)] (n, I7, f_tx J e S, R) 0 0
      refine q_one rfl rfl ?_
      show Q (some (.int (nI 0))) (n, I7, f_tx J e S, R)
      have hF : f_beg2 (I1 207) I J e a b p m c = (nI 0, f_rem b it c (f_come p m (va_up S.2.1 11 (nI 1)) (f_ok S b I)), f_tx J e S) := by unfold f_beg2; rw [← eS, if_pos hz, hitv, if_pos hitc]
      have h := hQ (I1 207) I7
      rw [hF] at h
      refine h ⟨fun a ha hb => ?_, ?_⟩ (fun x hx => ?_)
      · show I7 a = (f_rem b it c (f_come p m (va_up S.2.1 11 (nI 1)) (f_ok S b I))) a
        by_cases e0 : a = 200
        · subst e0; funext j; rw [hI7.1 j, f_rem_200, f_come_n (by decide) (by decide), f_ok_n (by decide)]
        · rw [hI7.2.2 a e0, eI6]
          by_cases e1 : a = 201
          · subst e1; rw [q_us, f_rem_201, f_come_n (by decide) (by decide), f_ok_n (by decide), f5 201 (by decide) (by decide), f4 201 (by decide) (by decide) (by decide) (by decide) (by decide) (by decide) (by decide) (by decide), f3 201 (by decide) (by decide) (by decide) (by decide) (by decide), eI2, q_un (by decide), q_un (by decide), q_un (by decide), f1 201 (by decide)]
          · rw [q_un e1, f_rem_n e0 e1]
            by_cases e5 : a = 205
            · subst e5
              rw [r5]
              exact f_come_205 (by rw [f4 205 (by decide) (by decide) (by decide) (by decide) (by decide) (by decide) (by decide) (by decide), f3 205 (by decide) (by decide) (by decide) (by decide) (by decide), eI2, q_un (by decide), q_un (by decide), q_un (by decide), f1 205 (by decide), f_ok_n (by decide)]) (fun i _ => by rw [r4])
            · by_cases e6 : a = 206
              · subst e6; rw [m5, f_come_206, f4 206 (by decide) (by decide) (by decide) (by decide) (by decide) (by decide) (by decide) (by decide), f3 206 (by decide) (by decide) (by decide) (by decide) (by decide), eI2, q_un (by decide), q_un (by decide), q_un (by decide), f1 206 (by decide), f_ok_n (by decide)]
              · rw [f5 a e5 e6, f_come_n e5 e6]
                by_cases e9 : a = 196
                · subst e9; rw [c4, f_ok_196, f3 196 (by decide) (by decide) (by decide) (by decide) (by decide), eI2, q_un (by decide), q_un (by decide), q_un (by decide), f1 196 (by decide)]
                · rw [f4 a (by omega) e9 (by omega) (by omega) (by omega) (by omega) (by omega) (by omega), f3 a (by omega) (by omega) (by omega) (by omega) (by omega), eI2, q_un (by omega), q_un (by omega), q_un (by omega), f1 a (by omega), f_ok_n e9]
      · show I7 192 16 = (f_rem b it c (f_come p m (va_up S.2.1 11 (nI 1)) (f_ok S b I))) 192 16
        rw [hI7.2.2 192 (by decide), eI6, q_un (by decide), f5 192 (by decide) (by decide), e4 16 (by decide) (by decide), f3 192 (by decide) (by decide) (by decide) (by decide) (by decide), eI2, q_un (by decide), q_un (by decide), q_un (by decide), f1 192 (by decide), f_rem_n (by decide) (by decide), f_come_n (by decide) (by decide), f_ok_n (by decide)]
      · rw [hI7.2.2 x (by omega), eI6, q_un (by omega), f5 x (by omega) (by omega), f4 x (by omega) (by omega) (by omega) (by omega) (by omega) (by omega) (by omega) (by omega), f3 x (by omega) (by omega) (by omega) (by omega) (by omega), eI2, q_un (by omega), q_un (by omega), q_un (by omega), f1 x (by omega)]
    · intro y0 I7 hk hI7 ih
      show q_W L (d + 7) 119 q_m119 Q 416 [some (.ref 192), some (.int (nI e)), some (.int (nI p)), some (.int (nI a)), some (.int (nI b)), some (.int (nI 0)), some (.int od), some (.int (nI it)), some (.int bs), some (.int s0), some (.int o0), some (.int (nI 0)), some (.int (nI y0))] [] (n, I7, f_tx J e S, R) 0 0
      refine q_k 5 ?_
      show q_W L (d + 7) 119 q_m119 Q 424 [some (.ref 192), some (.int (nI e)), some (.int (nI p)), some (.int (nI a)), some (.int (nI b)), some (.int (nI 0)), some (.int od), some (.int (nI it)), some (.int bs), some (.int s0), some (.int o0), some (.int (nI 0)), some (.int (nI y0))] [.int ((nI 10) * (nI b)), .int (nI 2), .int (nI y0)] (n, I7, f_tx J e S, R) 0 0
      refine q_top (w := nI (10 * b)) (pk_mul _ _) ?_
      refine q_k 1 ?_
      show q_W L (d + 7) 119 q_m119 Q 425 [some (.ref 192), some (.int (nI e)), some (.int (nI p)), some (.int (nI a)), some (.int (nI b)), some (.int (nI 0)), some (.int od), some (.int (nI it)), some (.int bs), some (.int s0), some (.int o0), some (.int (nI 0)), some (.int (nI y0))] [.ref 192, .int (nI (10 * b)), .int (nI 2), .int (nI y0)] (n, I7, f_tx J e S, R) 0 0
      refine q_gR (b := 201) rfl rfl (⟨Nat.lt_of_lt_of_le (by decide) hK.1, rfl⟩) (hK.2.1 192 8 201 rfl) ?_
      refine q_k 1 ?_
      show q_W L (d + 7) 119 q_m119 Q 430 [some (.ref 192), some (.int (nI e)), some (.int (nI p)), some (.int (nI a)), some (.int (nI b)), some (.int (nI 0)), some (.int od), some (.int (nI it)), some (.int bs), some (.int s0), some (.int o0), some (.int (nI 0)), some (.int (nI y0))] [.int (nI b), .ref 201, .int (nI (10 * b)), .int (nI 2), .int (nI y0)] (n, I7, f_tx J e S, R) 0 0
      refine q_ial (m := b) rfl (⟨by decide, Nat.lt_of_lt_of_le (by decide) hK.1, rfl⟩) (hb) (rfl) ?_
      refine q_top (w := nI (c - 1)) (by rw [hI7.2.2 201 (by decide), eI6, q_usk]) ?_
      refine q_k 1 ?_
      show q_W L (d + 7) 119 q_m119 Q 432 [some (.ref 192), some (.int (nI e)), some (.int (nI p)), some (.int (nI a)), some (.int (nI b)), some (.int (nI 0)), some (.int od), some (.int (nI it)), some (.int bs), some (.int s0), some (.int o0), some (.int (nI 0)), some (.int (nI y0))] [.int ((nI (10 * b)) + (nI (c - 1))), .int (nI 2), .int (nI y0)] (n, I7, f_tx J e S, R) 0 0
      refine q_top (w := nI (10 * b + (c - 1))) (nI_add _ _) ?_
      refine q_k 1 ?_
      show q_W L (d + 7) 119 q_m119 Q 433 [some (.ref 192), some (.int (nI e)), some (.int (nI p)), some (.int (nI a)), some (.int (nI b)), some (.int (nI 0)), some (.int od), some (.int (nI it)), some (.int bs), some (.int s0), some (.int o0), some (.int (nI 0)), some (.int (nI y0))] [.int ((nI 2) * (nI (10 * b + (c - 1)))), .int (nI y0)] (n, I7, f_tx J e S, R) 0 0
      refine q_top (w := nI (2 * (10 * b + (c - 1)))) (pk_mul _ _) ?_
      refine q_one rfl rfl ?_
      show ((nI (2 * (10 * b + (c - 1)))) ≤ (nI y0) → q_W L (d + 7) 119 q_m119 Q 458 [some (.ref 192), some (.int (nI e)), some (.int (nI p)), some (.int (nI a)), some (.int (nI b)), some (.int (nI 0)), some (.int od), some (.int (nI it)), some (.int bs), some (.int s0), some (.int o0), some (.int (nI 0)), some (.int (nI y0))] [] (n, I7, f_tx J e S, R) 0 0) ∧ (¬ (nI (2 * (10 * b + (c - 1)))) ≤ (nI y0) → q_W L (d + 7) 119 q_m119 Q 436 [some (.ref 192), some (.int (nI e)), some (.int (nI p)), some (.int (nI a)), some (.int (nI b)), some (.int (nI 0)), some (.int od), some (.int (nI it)), some (.int bs), some (.int s0), some (.int o0), some (.int (nI 0)), some (.int (nI y0))] [] (n, I7, f_tx J e S, R) 0 0)
      refine ⟨fun z => absurd z (nI_ge hk (by omega)), fun _ => ?_⟩
      refine q_k 1 ?_
      show q_W L (d + 7) 119 q_m119 Q 437 [some (.ref 192), some (.int (nI e)), some (.int (nI p)), some (.int (nI a)), some (.int (nI b)), some (.int (nI 0)), some (.int od), some (.int (nI it)), some (.int bs), some (.int s0), some (.int o0), some (.int (nI 0)), some (.int (nI y0))] [.ref 192] (n, I7, f_tx J e S, R) 0 0
      refine q_gR (b := 200) rfl rfl (⟨Nat.lt_of_lt_of_le (by decide) hK.1, rfl⟩) (hK.2.1 192 7 200 rfl) ?_
      refine q_k 2 ?_
      show q_W L (d + 7) 119 q_m119 Q 443 [some (.ref 192), some (.int (nI e)), some (.int (nI p)), some (.int (nI a)), some (.int (nI b)), some (.int (nI 0)), some (.int od), some (.int (nI it)), some (.int bs), some (.int s0), some (.int o0), some (.int (nI 0)), some (.int (nI y0))] [.ref 192, .int (nI y0), .ref 200] (n, I7, f_tx J e S, R) 0 0
      refine q_gR (b := 200) rfl rfl (⟨Nat.lt_of_lt_of_le (by decide) hK.1, rfl⟩) (hK.2.1 192 7 200 rfl) ?_
      refine q_k 3 ?_
      show q_W L (d + 7) 119 q_m119 Q 450 [some (.ref 192), some (.int (nI e)), some (.int (nI p)), some (.int (nI a)), some (.int (nI b)), some (.int (nI 0)), some (.int od), some (.int (nI it)), some (.int bs), some (.int s0), some (.int o0), some (.int (nI 0)), some (.int (nI y0))] [.int ((nI y0) + (nI 2)), .ref 200, .int (nI y0), .ref 200] (n, I7, f_tx J e S, R) 0 0
      refine q_top (w := nI (y0 + 2)) (nI_add _ _) ?_
      refine q_ial (m := y0 + 2) rfl (⟨by decide, Nat.lt_of_lt_of_le (by decide) hK.1, rfl⟩) (by omega) (rfl) ?_
      refine q_top (w := I 200 (y0 + 2)) (by rw [hI7.1, if_neg (by omega)]) ?_
      refine q_ias (m := y0) rfl (⟨by decide, Nat.lt_of_lt_of_le (by decide) hK.1, rfl⟩) (by omega) (rfl) ?_
      refine q_k 1 ?_
      show q_W L (d + 7) 119 q_m119 Q 455 [some (.ref 192), some (.int (nI e)), some (.int (nI p)), some (.int (nI a)), some (.int (nI b)), some (.int (nI 0)), some (.int od), some (.int (nI it)), some (.int bs), some (.int s0), some (.int o0), some (.int (nI 0)), some (.int ((nI y0) + nI 1))] [] (n, q_up I7 200 y0 (I 200 (y0 + 2)), f_tx J e S, R) 0 0
      rw [show (nI y0) + nI 1 = nI (y0 + 1) from nI_add _ _]
      refine q_k 1 ?_
      show q_W L (d + 7) 119 q_m119 Q 416 [some (.ref 192), some (.int (nI e)), some (.int (nI p)), some (.int (nI a)), some (.int (nI b)), some (.int (nI 0)), some (.int od), some (.int (nI it)), some (.int bs), some (.int s0), some (.int o0), some (.int (nI 0)), some (.int (nI (y0 + 1)))] [] (n, q_up I7 200 y0 (I 200 (y0 + 2)), f_tx J e S, R) 0 0
      refine ih _ ⟨fun j => ?_, by omega, fun x hx => ?_⟩
      · by_cases e : j = y0
        · subst e; rw [q_usk, if_pos (by omega)]
        · rw [q_usn e, hI7.1 j]
          by_cases c1 : 2 * (10 * b + it) ≤ j ∧ j < y0
          · rw [if_pos c1, if_pos (by omega)]
          · rw [if_neg c1, if_neg (by omega)]
      · rw [q_un hx]; exact hI7.2.2 x hx
    · exact ⟨fun j => by rw [if_neg (by omega), eI6, q_un (by decide), f5 200 (by decide) (by decide), f4 200 (by decide) (by decide) (by decide) (by decide) (by decide) (by decide) (by decide) (by decide), f3 200 (by decide) (by decide) (by decide) (by decide) (by decide), eI2, q_un (by decide), q_un (by decide), q_un (by decide), f1 200 (by decide)], Nat.le_refl _, fun _ _ => rfl⟩
  · skip
    rw [hT] at hz ⊢
    show q_W L (d + 7) 119 q_m119 Q 373 [some (.ref 192), some (.int (nI e)), some (.int (nI p)), some (.int (nI a)), some (.int (nI b)), some (.int (nI 0)), some (.int od), some (.int (nI it)), some (.int bs), some (.int s0), some (.int o0), none, none] [.int S.1] (n, I4, J, R) 0 0
    refine q_k 2 ?_
    show q_W L (d + 7) 119 q_m119 Q 377 [some (.ref 192), some (.int (nI e)), some (.int (nI p)), some (.int (nI a)), some (.int (nI b)), some (.int (nI 0)), some (.int od), some (.int (nI it)), some (.int bs), some (.int s0), some (.int o0), some (.int S.1), none] [.int S.1] (n, I4, J, R) 0 0
    refine q_one rfl rfl ?_
    show (S.1 = 0 → q_W L (d + 7) 119 q_m119 Q 383 [some (.ref 192), some (.int (nI e)), some (.int (nI p)), some (.int (nI a)), some (.int (nI b)), some (.int (nI 0)), some (.int od), some (.int (nI it)), some (.int bs), some (.int s0), some (.int o0), some (.int S.1), none] [] (n, I4, J, R) 0 0) ∧ (¬ S.1 = 0 → q_W L (d + 7) 119 q_m119 Q 380 [some (.ref 192), some (.int (nI e)), some (.int (nI p)), some (.int (nI a)), some (.int (nI b)), some (.int (nI 0)), some (.int od), some (.int (nI it)), some (.int bs), some (.int s0), some (.int o0), some (.int S.1), none] [] (n, I4, J, R) 0 0)
    refine ⟨fun z => absurd z (hz), fun _ => ?_⟩
    refine q_k 1 ?_
    show q_W L (d + 7) 119 q_m119 Q 382 [some (.ref 192), some (.int (nI e)), some (.int (nI p)), some (.int (nI a)), some (.int (nI b)), some (.int (nI 0)), some (.int od), some (.int (nI it)), some (.int bs), some (.int s0), some (.int o0), some (.int S.1), none] [.int S.1] (n, I4, J, R) 0 0
    refine q_one rfl rfl ?_
    show Q (some (.int S.1)) (n, I4, J, R)
    have hF : f_beg2 (I1 207) I J e a b p m c = (S.1, I, J) := by unfold f_beg2; rw [← eS, if_neg hz]
    have h := hQ (I1 207) I4
    rw [hF] at h
    exact h ⟨fun a ha hb => by rw [f4 a (by omega) (by omega) (by omega) (by omega) (by omega) (by omega) (by omega), f3 a (by omega) (by omega) (by omega) (by omega) (by omega), eI2, q_un (by omega), q_un (by omega), q_un (by omega), f1 a (by omega)], by rw [e4 16 (by decide) (by decide), f3 192 (by decide) (by decide) (by decide) (by decide) (by decide), eI2, q_un (by decide), q_un (by decide), q_un (by decide), f1 192 (by decide)]⟩ (fun x hx => by rw [f4 x (by omega) (by omega) (by omega) (by omega) (by omega) (by omega) (by omega), f3 x (by omega) (by omega) (by omega) (by omega) (by omega), eI2, q_un (by omega), q_un (by omega), q_un (by omega), f1 x (by omega)])
set_option maxHeartbeats 2000000 in
theorem m_begun_3_00 {L d n : Nat} {I : q_I} {J : q_L} {R : q_R} {Q : q_Q} {e a b p m c x y : Nat} (hK : q_K0 n I R) (he : e + 12 ≤ 720) (hwf : q_wf I J e a b x y) (hp : p < 16) (hm : I 206 p = nI m) (hm3 : m ≤ 3) (hc : I 201 b = nI c) (hc10 : c ≤ 10)  {od z8 : Int32} (ha : a < 4) (hb : b < 4) (hnow : f_now I J e b = false) (hitc : ¬ f_it I J e b c < c) (hQ : (∀ g I', q_ms I' (f_beg2 g I J e a b p m c).2.1 → q_mf I' I → Q (some (.int (f_beg2 g I J e a b p m c).1)) (n, I', (f_beg2 g I J e a b p m c).2.2, R))) : q_W L (d + 7) 119 q_m119 Q 172 [some (.ref 192), some (.int (nI e)), some (.int (nI p)), some (.int (nI a)), some (.int (nI b)), some (.int (nI 0)), some (.int od), some (.int (-1)), some (.int z8), none, none, none, none] [] (n, I, J, R) 0 0 := by
  refine q_k 1 ?_
  show q_W L (d + 7) 119 q_m119 Q 173 [some (.ref 192), some (.int (nI e)), some (.int (nI p)), some (.int (nI a)), some (.int (nI b)), some (.int (nI 0)), some (.int od), some (.int (-1)), some (.int z8), none, none, none, none] [.ref 192] (n, I, J, R) 0 0
  refine q_gR (b := 208) rfl rfl (⟨Nat.lt_of_lt_of_le (by decide) hK.1, rfl⟩) (hK.2.1 192 15 208 rfl) ?_
  refine q_k 3 ?_
  show q_W L (d + 7) 119 q_m119 Q 179 [some (.ref 192), some (.int (nI e)), some (.int (nI p)), some (.int (nI a)), some (.int (nI b)), some (.int (nI 0)), some (.int od), some (.int (-1)), some (.int z8), none, none, none, none] [.int ((nI e) + (nI 4)), .ref 208] (n, I, J, R) 0 0
  refine q_top (w := nI (e + 4)) (nI_add _ _) ?_
  refine q_lal (m := e + 4) rfl (⟨by decide, Nat.lt_of_lt_of_le (by decide) hK.1, rfl⟩) (by omega) (rfl) ?_
  refine q_k 2 ?_
  show q_W L (d + 7) 119 q_m119 Q 183 [some (.ref 192), some (.int (nI e)), some (.int (nI p)), some (.int (nI a)), some (.int (nI b)), some (.int (nI 0)), some (.int od), some (.int (-1)), some (.int ((J 208 (e + 4)).toInt32)), none, none, none, none] [] (n, I, J, R) 0 0
  obtain ⟨bs, ebs⟩ : ∃ zz9, zz9 = (J 208 (e + 4)).toInt32 := ⟨_, rfl⟩
  rw [← ebs]
  refine q_k 1 ?_
  show q_W L (d + 7) 119 q_m119 Q 185 [some (.ref 192), some (.int (nI e)), some (.int (nI p)), some (.int (nI a)), some (.int (nI b)), some (.int (nI 0)), some (.int od), some (.int (-1)), some (.int bs), none, none, none, none] [.int (nI 0)] (n, I, J, R) 0 0
  refine q_one rfl rfl ?_
  show ((nI 0) = 0 → q_W L (d + 7) 119 q_m119 Q 200 [some (.ref 192), some (.int (nI e)), some (.int (nI p)), some (.int (nI a)), some (.int (nI b)), some (.int (nI 0)), some (.int od), some (.int (-1)), some (.int bs), none, none, none, none] [] (n, I, J, R) 0 0) ∧ (¬ (nI 0) = 0 → q_W L (d + 7) 119 q_m119 Q 188 [some (.ref 192), some (.int (nI e)), some (.int (nI p)), some (.int (nI a)), some (.int (nI b)), some (.int (nI 0)), some (.int od), some (.int (-1)), some (.int bs), none, none, none, none] [] (n, I, J, R) 0 0)
  refine ⟨fun _ => ?_, fun z => absurd (by decide) z⟩
  refine q_k 1 ?_
  show q_W L (d + 7) 119 q_m119 Q 201 [some (.ref 192), some (.int (nI e)), some (.int (nI p)), some (.int (nI a)), some (.int (nI b)), some (.int (nI 0)), some (.int od), some (.int (-1)), some (.int bs), none, none, none, none] [.ref 192] (n, I, J, R) 0 0
  refine q_gR (b := 199) rfl rfl (⟨Nat.lt_of_lt_of_le (by decide) hK.1, rfl⟩) (hK.2.1 192 6 199 rfl) ?_
  refine q_k 3 ?_
  show q_W L (d + 7) 119 q_m119 Q 208 [some (.ref 192), some (.int (nI e)), some (.int (nI p)), some (.int (nI a)), some (.int (nI b)), some (.int (nI 0)), some (.int od), some (.int (-1)), some (.int bs), none, none, none, none] [.int ((nI 2) * (nI b)), .ref 199] (n, I, J, R) 0 0
  refine q_top (w := nI (2 * b)) (pk_mul _ _) ?_
  refine q_ial (m := 2 * b) rfl (⟨by decide, Nat.lt_of_lt_of_le (by decide) hK.1, rfl⟩) (by omega) (rfl) ?_
  refine q_k 1 ?_
  show q_W L (d + 7) 119 q_m119 Q 211 [some (.ref 192), some (.int (nI e)), some (.int (nI p)), some (.int (nI a)), some (.int (nI b)), some (.int (nI 0)), some (.int od), some (.int (-1)), some (.int bs), some (.int (I 199 (2 * b))), none, none, none] [] (n, I, J, R) 0 0
  obtain ⟨s0, es0⟩ : ∃ zz9, zz9 = I 199 (2 * b) := ⟨_, rfl⟩
  rw [← es0]
  refine q_k 1 ?_
  show q_W L (d + 7) 119 q_m119 Q 213 [some (.ref 192), some (.int (nI e)), some (.int (nI p)), some (.int (nI a)), some (.int (nI b)), some (.int (nI 0)), some (.int od), some (.int (-1)), some (.int bs), some (.int s0), none, none, none] [.int (-1)] (n, I, J, R) 0 0
  refine q_one rfl rfl ?_
  show (0 ≤ (-1) → q_W L (d + 7) 119 q_m119 Q 220 [some (.ref 192), some (.int (nI e)), some (.int (nI p)), some (.int (nI a)), some (.int (nI b)), some (.int (nI 0)), some (.int od), some (.int (-1)), some (.int bs), some (.int s0), none, none, none] [] (n, I, J, R) 0 0) ∧ (¬ 0 ≤ (-1) → q_W L (d + 7) 119 q_m119 Q 216 [some (.ref 192), some (.int (nI e)), some (.int (nI p)), some (.int (nI a)), some (.int (nI b)), some (.int (nI 0)), some (.int od), some (.int (-1)), some (.int bs), some (.int s0), none, none, none] [] (n, I, J, R) 0 0)
  refine ⟨fun z => absurd z (by decide), fun _ => ?_⟩
  refine q_k 4 ?_
  show q_W L (d + 7) 119 q_m119 Q 240 [some (.ref 192), some (.int (nI e)), some (.int (nI p)), some (.int (nI a)), some (.int (nI b)), some (.int (nI 0)), some (.int od), some (.int (-1)), some (.int bs), some (.int s0), some (.int (nI 0)), none, none] [.ref 192] (n, I, J, R) 0 0
  refine q_cv (as := []) (rs := []) rfl rfl rfl (⟨Nat.lt_of_lt_of_le (by decide) hK.1, rfl⟩) rfl rfl ?_
  refine m_clear (hK) (fun I1 h1 f1 => ?_)
  show q_W L (d + 7) 119 q_m119 Q 243 [some (.ref 192), some (.int (nI e)), some (.int (nI p)), some (.int (nI a)), some (.int (nI b)), some (.int (nI 0)), some (.int od), some (.int (-1)), some (.int bs), some (.int s0), some (.int (nI 0)), none, none] [] (n, I1, J, R) 0 0
  refine q_k 1 ?_
  show q_W L (d + 7) 119 q_m119 Q 244 [some (.ref 192), some (.int (nI e)), some (.int (nI p)), some (.int (nI a)), some (.int (nI b)), some (.int (nI 0)), some (.int od), some (.int (-1)), some (.int bs), some (.int s0), some (.int (nI 0)), none, none] [.ref 192] (n, I1, J, R) 0 0
  refine q_gR (b := 207) rfl rfl (⟨Nat.lt_of_lt_of_le (by decide) hK.1, rfl⟩) (hK.2.1 192 14 207 rfl) ?_
  refine q_k 2 ?_
  show q_W L (d + 7) 119 q_m119 Q 250 [some (.ref 192), some (.int (nI e)), some (.int (nI p)), some (.int (nI a)), some (.int (nI b)), some (.int (nI 0)), some (.int od), some (.int (-1)), some (.int bs), some (.int s0), some (.int (nI 0)), none, none] [.int bs, .int (nI 0), .ref 207] (n, I1, J, R) 0 0
  refine q_ias (m := 0) rfl (⟨by decide, Nat.lt_of_lt_of_le (by decide) hK.1, rfl⟩) (by decide) (rfl) ?_
  refine q_k 1 ?_
  show q_W L (d + 7) 119 q_m119 Q 252 [some (.ref 192), some (.int (nI e)), some (.int (nI p)), some (.int (nI a)), some (.int (nI b)), some (.int (nI 0)), some (.int od), some (.int (-1)), some (.int bs), some (.int s0), some (.int (nI 0)), none, none] [.ref 192] (n, q_up I1 207 0 bs, J, R) 0 0
  refine q_gR (b := 207) rfl rfl (⟨Nat.lt_of_lt_of_le (by decide) hK.1, rfl⟩) (hK.2.1 192 14 207 rfl) ?_
  refine q_k 2 ?_
  show q_W L (d + 7) 119 q_m119 Q 258 [some (.ref 192), some (.int (nI e)), some (.int (nI p)), some (.int (nI a)), some (.int (nI b)), some (.int (nI 0)), some (.int od), some (.int (-1)), some (.int bs), some (.int s0), some (.int (nI 0)), none, none] [.int s0, .int (nI 2), .ref 207] (n, q_up I1 207 0 bs, J, R) 0 0
  refine q_ias (m := 2) rfl (⟨by decide, Nat.lt_of_lt_of_le (by decide) hK.1, rfl⟩) (by decide) (rfl) ?_
  refine q_k 1 ?_
  show q_W L (d + 7) 119 q_m119 Q 260 [some (.ref 192), some (.int (nI e)), some (.int (nI p)), some (.int (nI a)), some (.int (nI b)), some (.int (nI 0)), some (.int od), some (.int (-1)), some (.int bs), some (.int s0), some (.int (nI 0)), none, none] [.ref 192] (n, q_up (q_up I1 207 0 bs) 207 2 s0, J, R) 0 0
  refine q_gR (b := 207) rfl rfl (⟨Nat.lt_of_lt_of_le (by decide) hK.1, rfl⟩) (hK.2.1 192 14 207 rfl) ?_
  refine q_k 2 ?_
  show q_W L (d + 7) 119 q_m119 Q 265 [some (.ref 192), some (.int (nI e)), some (.int (nI p)), some (.int (nI a)), some (.int (nI b)), some (.int (nI 0)), some (.int od), some (.int (-1)), some (.int bs), some (.int s0), some (.int (nI 0)), none, none] [.ref 192, .int (nI 3), .ref 207] (n, q_up (q_up I1 207 0 bs) 207 2 s0, J, R) 0 0
  refine q_gR (b := 208) rfl rfl (⟨Nat.lt_of_lt_of_le (by decide) hK.1, rfl⟩) (hK.2.1 192 15 208 rfl) ?_
  refine q_k 3 ?_
  show q_W L (d + 7) 119 q_m119 Q 271 [some (.ref 192), some (.int (nI e)), some (.int (nI p)), some (.int (nI a)), some (.int (nI b)), some (.int (nI 0)), some (.int od), some (.int (-1)), some (.int bs), some (.int s0), some (.int (nI 0)), none, none] [.int ((nI e) + (nI 5)), .ref 208, .int (nI 3), .ref 207] (n, q_up (q_up I1 207 0 bs) 207 2 s0, J, R) 0 0
  refine q_top (w := nI (e + 5)) (nI_add _ _) ?_
  refine q_lal (m := e + 5) rfl (⟨by decide, Nat.lt_of_lt_of_le (by decide) hK.1, rfl⟩) (by omega) (rfl) ?_
  refine q_k 1 ?_
  show q_W L (d + 7) 119 q_m119 Q 273 [some (.ref 192), some (.int (nI e)), some (.int (nI p)), some (.int (nI a)), some (.int (nI b)), some (.int (nI 0)), some (.int od), some (.int (-1)), some (.int bs), some (.int s0), some (.int (nI 0)), none, none] [.int ((J 208 (e + 5)).toInt32), .int (nI 3), .ref 207] (n, q_up (q_up I1 207 0 bs) 207 2 s0, J, R) 0 0
  refine q_ias (m := 3) rfl (⟨by decide, Nat.lt_of_lt_of_le (by decide) hK.1, rfl⟩) (by decide) (rfl) ?_
  obtain ⟨I2, eI2⟩ : ∃ zz9, zz9 = q_up (q_up (q_up I1 207 0 bs) 207 2 s0) 207 3 ((J 208 (e + 5)).toInt32) := ⟨_, rfl⟩
  rw [← eI2]
  refine q_k 2 ?_
  show q_W L (d + 7) 119 q_m119 Q 276 [some (.ref 192), some (.int (nI e)), some (.int (nI p)), some (.int (nI a)), some (.int (nI b)), some (.int (nI 0)), some (.int od), some (.int (-1)), some (.int bs), some (.int s0), some (.int (nI 0)), none, none] [.ref 192, .ref 192] (n, I2, J, R) 0 0
  refine q_gR (b := 197) rfl rfl (⟨Nat.lt_of_lt_of_le (by decide) hK.1, rfl⟩) (hK.2.1 192 4 197 rfl) ?_
  refine q_k 3 ?_
  show q_W L (d + 7) 119 q_m119 Q 282 [some (.ref 192), some (.int (nI e)), some (.int (nI p)), some (.int (nI a)), some (.int (nI b)), some (.int (nI 0)), some (.int od), some (.int (-1)), some (.int bs), some (.int s0), some (.int (nI 0)), none, none] [.int ((nI 2) * (nI a)), .ref 197, .ref 192] (n, I2, J, R) 0 0
  refine q_top (w := nI (2 * a)) (pk_mul _ _) ?_
  refine q_k 2 ?_
  show q_W L (d + 7) 119 q_m119 Q 284 [some (.ref 192), some (.int (nI e)), some (.int (nI p)), some (.int (nI a)), some (.int (nI b)), some (.int (nI 0)), some (.int od), some (.int (-1)), some (.int bs), some (.int s0), some (.int (nI 0)), none, none] [.int ((nI (2 * a)) + (nI 1)), .ref 197, .ref 192] (n, I2, J, R) 0 0
  refine q_top (w := nI (2 * a + 1)) (nI_add _ _) ?_
  refine q_ial (m := 2 * a + 1) rfl (⟨by decide, Nat.lt_of_lt_of_le (by decide) hK.1, rfl⟩) (by omega) (rfl) ?_
  refine q_top (w := I 197 (2 * a + 1)) (by rw [eI2, q_un (by decide), q_un (by decide), q_un (by decide), f1 197 (by decide)]) ?_
  refine q_k 1 ?_
  show q_W L (d + 7) 119 q_m119 Q 287 [some (.ref 192), some (.int (nI e)), some (.int (nI p)), some (.int (nI a)), some (.int (nI b)), some (.int (nI 0)), some (.int od), some (.int (-1)), some (.int bs), some (.int s0), some (.int (nI 0)), none, none] [.int s0, .int (I 197 (2 * a + 1)), .ref 192] (n, I2, J, R) 0 0
  refine q_cs (as := [.int (I 197 (2 * a + 1)), .int s0]) (rs := [.ref 192]) rfl rfl rfl rfl rfl ?_
  refine m_raised  ?_
  show q_W L (d + 7) 119 q_m119 Q 290 [some (.ref 192), some (.int (nI e)), some (.int (nI p)), some (.int (nI a)), some (.int (nI b)), some (.int (nI 0)), some (.int od), some (.int (-1)), some (.int bs), some (.int s0), some (.int (nI 0)), none, none] [.int (g_pow (I 197 (2 * a + 1)) s0), .ref 192] (n, I2, J, R) 0 0
  refine q_k 2 ?_
  show q_W L (d + 7) 119 q_m119 Q 293 [some (.ref 192), some (.int (nI e)), some (.int (nI p)), some (.int (nI a)), some (.int (nI b)), some (.int (nI 0)), some (.int od), some (.int (-1)), some (.int bs), some (.int s0), some (.int (nI 0)), none, none] [.ref 192, .int bs, .int (g_pow (I 197 (2 * a + 1)) s0), .ref 192] (n, I2, J, R) 0 0
  refine q_gR (b := 197) rfl rfl (⟨Nat.lt_of_lt_of_le (by decide) hK.1, rfl⟩) (hK.2.1 192 4 197 rfl) ?_
  refine q_k 3 ?_
  show q_W L (d + 7) 119 q_m119 Q 300 [some (.ref 192), some (.int (nI e)), some (.int (nI p)), some (.int (nI a)), some (.int (nI b)), some (.int (nI 0)), some (.int od), some (.int (-1)), some (.int bs), some (.int s0), some (.int (nI 0)), none, none] [.int ((nI 2) * (nI b)), .ref 197, .int bs, .int (g_pow (I 197 (2 * a + 1)) s0), .ref 192] (n, I2, J, R) 0 0
  refine q_top (w := nI (2 * b)) (pk_mul _ _) ?_
  refine q_ial (m := 2 * b) rfl (⟨by decide, Nat.lt_of_lt_of_le (by decide) hK.1, rfl⟩) (by omega) (rfl) ?_
  refine q_top (w := I 197 (2 * b)) (by rw [eI2, q_un (by decide), q_un (by decide), q_un (by decide), f1 197 (by decide)]) ?_
  refine q_cs (as := [.int bs, .int (I 197 (2 * b))]) (rs := [.int (g_pow (I 197 (2 * a + 1)) s0), .ref 192]) rfl rfl rfl rfl rfl ?_
  refine m_raised  ?_
  show q_W L (d + 7) 119 q_m119 Q 304 [some (.ref 192), some (.int (nI e)), some (.int (nI p)), some (.int (nI a)), some (.int (nI b)), some (.int (nI 0)), some (.int od), some (.int (-1)), some (.int bs), some (.int s0), some (.int (nI 0)), none, none] [.int (g_pow bs (I 197 (2 * b))), .int (g_pow (I 197 (2 * a + 1)) s0), .ref 192] (n, I2, J, R) 0 0
  refine q_k 2 ?_
  show q_W L (d + 7) 119 q_m119 Q 308 [some (.ref 192), some (.int (nI e)), some (.int (nI p)), some (.int (nI a)), some (.int (nI b)), some (.int (nI 0)), some (.int od), some (.int (-1)), some (.int bs), some (.int s0), some (.int (nI 0)), none, none] [.int s0, .int bs, .int (g_pow bs (I 197 (2 * b))), .int (g_pow (I 197 (2 * a + 1)) s0), .ref 192] (n, I2, J, R) 0 0
  refine q_cs (as := [.int bs, .int s0]) (rs := [.int (g_pow bs (I 197 (2 * b))), .int (g_pow (I 197 (2 * a + 1)) s0), .ref 192]) rfl rfl rfl rfl rfl ?_
  refine m_raised  ?_
  show q_W L (d + 7) 119 q_m119 Q 311 [some (.ref 192), some (.int (nI e)), some (.int (nI p)), some (.int (nI a)), some (.int (nI b)), some (.int (nI 0)), some (.int od), some (.int (-1)), some (.int bs), some (.int s0), some (.int (nI 0)), none, none] [.int (g_pow bs s0), .int (g_pow bs (I 197 (2 * b))), .int (g_pow (I 197 (2 * a + 1)) s0), .ref 192] (n, I2, J, R) 0 0
  refine q_k 1 ?_
  show q_W L (d + 7) 119 q_m119 Q 313 [some (.ref 192), some (.int (nI e)), some (.int (nI p)), some (.int (nI a)), some (.int (nI b)), some (.int (nI 0)), some (.int od), some (.int (-1)), some (.int bs), some (.int s0), some (.int (nI 0)), none, none] [.int (-1), .int (g_pow bs s0), .int (g_pow bs (I 197 (2 * b))), .int (g_pow (I 197 (2 * a + 1)) s0), .ref 192] (n, I2, J, R) 0 0
  refine q_one rfl rfl ?_
  show (0 ≤ (-1) → q_W L (d + 7) 119 q_m119 Q 320 [some (.ref 192), some (.int (nI e)), some (.int (nI p)), some (.int (nI a)), some (.int (nI b)), some (.int (nI 0)), some (.int od), some (.int (-1)), some (.int bs), some (.int s0), some (.int (nI 0)), none, none] [.int (g_pow bs s0), .int (g_pow bs (I 197 (2 * b))), .int (g_pow (I 197 (2 * a + 1)) s0), .ref 192] (n, I2, J, R) 0 0) ∧ (¬ 0 ≤ (-1) → q_W L (d + 7) 119 q_m119 Q 316 [some (.ref 192), some (.int (nI e)), some (.int (nI p)), some (.int (nI a)), some (.int (nI b)), some (.int (nI 0)), some (.int od), some (.int (-1)), some (.int bs), some (.int s0), some (.int (nI 0)), none, none] [.int (g_pow bs s0), .int (g_pow bs (I 197 (2 * b))), .int (g_pow (I 197 (2 * a + 1)) s0), .ref 192] (n, I2, J, R) 0 0)
  refine ⟨fun z => absurd z (by decide), fun _ => ?_⟩
  refine q_k 3 ?_
  show q_W L (d + 7) 119 q_m119 Q 341 [some (.ref 192), some (.int (nI e)), some (.int (nI p)), some (.int (nI a)), some (.int (nI b)), some (.int (nI 0)), some (.int od), some (.int (-1)), some (.int bs), some (.int s0), some (.int (nI 0)), none, none] [.ref 192, .int (nI 0), .int (g_pow bs s0), .int (g_pow bs (I 197 (2 * b))), .int (g_pow (I 197 (2 * a + 1)) s0), .ref 192] (n, I2, J, R) 0 0
  refine q_gR (b := 197) rfl rfl (⟨Nat.lt_of_lt_of_le (by decide) hK.1, rfl⟩) (hK.2.1 192 4 197 rfl) ?_
  refine q_k 3 ?_
  show q_W L (d + 7) 119 q_m119 Q 347 [some (.ref 192), some (.int (nI e)), some (.int (nI p)), some (.int (nI a)), some (.int (nI b)), some (.int (nI 0)), some (.int od), some (.int (-1)), some (.int bs), some (.int s0), some (.int (nI 0)), none, none] [.int ((nI 2) * (nI a)), .ref 197, .int (nI 0), .int (g_pow bs s0), .int (g_pow bs (I 197 (2 * b))), .int (g_pow (I 197 (2 * a + 1)) s0), .ref 192] (n, I2, J, R) 0 0
  refine q_top (w := nI (2 * a)) (pk_mul _ _) ?_
  refine q_k 2 ?_
  show q_W L (d + 7) 119 q_m119 Q 349 [some (.ref 192), some (.int (nI e)), some (.int (nI p)), some (.int (nI a)), some (.int (nI b)), some (.int (nI 0)), some (.int od), some (.int (-1)), some (.int bs), some (.int s0), some (.int (nI 0)), none, none] [.int ((nI (2 * a)) + (nI 1)), .ref 197, .int (nI 0), .int (g_pow bs s0), .int (g_pow bs (I 197 (2 * b))), .int (g_pow (I 197 (2 * a + 1)) s0), .ref 192] (n, I2, J, R) 0 0
  refine q_top (w := nI (2 * a + 1)) (nI_add _ _) ?_
  refine q_ial (m := 2 * a + 1) rfl (⟨by decide, Nat.lt_of_lt_of_le (by decide) hK.1, rfl⟩) (by omega) (rfl) ?_
  refine q_top (w := I 197 (2 * a + 1)) (by rw [eI2, q_un (by decide), q_un (by decide), q_un (by decide), f1 197 (by decide)]) ?_
  refine q_k 1 ?_
  show q_W L (d + 7) 119 q_m119 Q 351 [some (.ref 192), some (.int (nI e)), some (.int (nI p)), some (.int (nI a)), some (.int (nI b)), some (.int (nI 0)), some (.int od), some (.int (-1)), some (.int bs), some (.int s0), some (.int (nI 0)), none, none] [.ref 192, .int (I 197 (2 * a + 1)), .int (nI 0), .int (g_pow bs s0), .int (g_pow bs (I 197 (2 * b))), .int (g_pow (I 197 (2 * a + 1)) s0), .ref 192] (n, I2, J, R) 0 0
  refine q_gR (b := 197) rfl rfl (⟨Nat.lt_of_lt_of_le (by decide) hK.1, rfl⟩) (hK.2.1 192 4 197 rfl) ?_
  refine q_k 3 ?_
  show q_W L (d + 7) 119 q_m119 Q 358 [some (.ref 192), some (.int (nI e)), some (.int (nI p)), some (.int (nI a)), some (.int (nI b)), some (.int (nI 0)), some (.int od), some (.int (-1)), some (.int bs), some (.int s0), some (.int (nI 0)), none, none] [.int ((nI 2) * (nI b)), .ref 197, .int (I 197 (2 * a + 1)), .int (nI 0), .int (g_pow bs s0), .int (g_pow bs (I 197 (2 * b))), .int (g_pow (I 197 (2 * a + 1)) s0), .ref 192] (n, I2, J, R) 0 0
  refine q_top (w := nI (2 * b)) (pk_mul _ _) ?_
  refine q_k 2 ?_
  show q_W L (d + 7) 119 q_m119 Q 360 [some (.ref 192), some (.int (nI e)), some (.int (nI p)), some (.int (nI a)), some (.int (nI b)), some (.int (nI 0)), some (.int od), some (.int (-1)), some (.int bs), some (.int s0), some (.int (nI 0)), none, none] [.int ((nI (2 * b)) + (nI 1)), .ref 197, .int (I 197 (2 * a + 1)), .int (nI 0), .int (g_pow bs s0), .int (g_pow bs (I 197 (2 * b))), .int (g_pow (I 197 (2 * a + 1)) s0), .ref 192] (n, I2, J, R) 0 0
  refine q_top (w := nI (2 * b + 1)) (nI_add _ _) ?_
  refine q_ial (m := 2 * b + 1) rfl (⟨by decide, Nat.lt_of_lt_of_le (by decide) hK.1, rfl⟩) (by omega) (rfl) ?_
  refine q_top (w := I 197 (2 * b + 1)) (by rw [eI2, q_un (by decide), q_un (by decide), q_un (by decide), f1 197 (by decide)]) ?_
  refine q_k 1 ?_
  show q_W L (d + 7) 119 q_m119 Q 363 [some (.ref 192), some (.int (nI e)), some (.int (nI p)), some (.int (nI a)), some (.int (nI b)), some (.int (nI 0)), some (.int od), some (.int (-1)), some (.int bs), some (.int s0), some (.int (nI 0)), none, none] [.int (nI 0), .int (I 197 (2 * b + 1)), .int (I 197 (2 * a + 1)), .int (nI 0), .int (g_pow bs s0), .int (g_pow bs (I 197 (2 * b))), .int (g_pow (I 197 (2 * a + 1)) s0), .ref 192] (n, I2, J, R) 0 0
  refine q_cv (as := [.int (g_pow (I 197 (2 * a + 1)) s0), .int (g_pow bs (I 197 (2 * b))), .int (g_pow bs s0), .int (nI 0), .int (I 197 (2 * a + 1)), .int (I 197 (2 * b + 1)), .int (nI 0)]) (rs := []) rfl rfl rfl (⟨Nat.lt_of_lt_of_le (by decide) hK.1, rfl⟩) rfl rfl ?_
  refine m_agree (q_K0_to hK (by rw [eI2, q_un (by decide), q_un (by decide), q_un (by decide), f1 0 (by decide)]) (by rw [eI2, q_un (by decide), q_un (by decide), q_un (by decide), f1 1 (by decide)])) (fun I3 a3 g3 f3 => ?_)
  have hrow : I3 207 = f_brow (I1 207) I J e a b c := by
    unfold f_brow
    rw [hnow, if_neg (by decide)]; rw [if_neg hitc, if_neg hitc]
    funext (i : Nat)
    unfold s_new
    by_cases c1 : 14 ≤ i ∧ i < 22
    · obtain ⟨j, rfl⟩ : ∃ j, i = 14 + j := ⟨i - 14, by omega⟩
      rw [a3 j (by omega), if_neg (by omega), if_neg (by omega), if_neg (by omega), if_pos c1, show 14 + j - 14 = j by omega]
      unfold g_agr
      rw [← ebs, ← es0]
    · rw [g3 i (by omega), eI2]
      by_cases e3 : i = 3
      · subst e3; rw [q_usk, if_neg (by decide), if_neg (by decide), if_pos rfl]
      · rw [q_usn e3]
        by_cases e2 : i = 2
        · subst e2; rw [q_usk, if_neg (by decide), if_pos rfl, es0]
        · rw [q_usn e2]
          by_cases e0 : i = 0
          · subst e0; rw [q_usk, if_pos rfl, ebs]
          · rw [q_usn e0, if_neg e0, if_neg e2, if_neg e3, if_neg c1]
            by_cases c3 : i < 318
            · rw [if_pos c3, h1 i c3]
            · rw [if_neg c3]
  have hmq : q_mq I3 I := fun a ha hb => by rw [f3 a (by omega) (by omega) (by omega) (by omega) (by omega), eI2, q_un (by omega), q_un (by omega), q_un (by omega), f1 a (by omega)]
  obtain ⟨S, eS⟩ : ∃ z, z = f_try I J e a b (f_brow (I1 207) I J e a b c) := ⟨_, rfl⟩
  have hT : f_try I3 J e a b (I3 207) = S := by rw [eS, hrow, f_try_c hmq]
  show q_W L (d + 7) 119 q_m119 Q 366 [some (.ref 192), some (.int (nI e)), some (.int (nI p)), some (.int (nI a)), some (.int (nI b)), some (.int (nI 0)), some (.int od), some (.int (-1)), some (.int bs), some (.int s0), some (.int (nI 0)), none, none] [] (n, I3, J, R) 0 0
  refine q_k 3 ?_
  show q_W L (d + 7) 119 q_m119 Q 370 [some (.ref 192), some (.int (nI e)), some (.int (nI p)), some (.int (nI a)), some (.int (nI b)), some (.int (nI 0)), some (.int od), some (.int (-1)), some (.int bs), some (.int s0), some (.int (nI 0)), none, none] [.int (nI b), .int (nI e), .ref 192] (n, I3, J, R) 0 0
  refine q_cv (as := [.int (nI e), .int (nI b)]) (rs := []) rfl rfl rfl (⟨Nat.lt_of_lt_of_le (by decide) hK.1, rfl⟩) rfl rfl ?_
  refine m_tried (c := 0) (w := 0) (q_K0_to hK (by rw [f3 0 (by decide) (by decide) (by decide) (by decide) (by decide), eI2, q_un (by decide), q_un (by decide), q_un (by decide), f1 0 (by decide)]) (by rw [f3 1 (by decide) (by decide) (by decide) (by decide) (by decide), eI2, q_un (by decide), q_un (by decide), q_un (by decide), f1 1 (by decide)])) he hwf.fa hwf.fb hwf.ha hwf.hb hwf.fm hwf.hm hwf.fp hwf.hp (by rw [g3 9 (by decide), eI2, q_usn (by decide), q_usn (by decide), q_usn (by decide)]; exact h1 9 (by decide)) (by omega) (by rw [g3 7 (by decide), eI2, q_usn (by decide), q_usn (by decide), q_usn (by decide)]; exact h1 7 (by decide)) (by omega) (fun hz I4 r4 c4 f4 e4 => ?_) (fun hz I4 f4 e4 => ?_)
  · skip
    rw [hT] at hz r4 c4 ⊢
    show q_W L (d + 7) 119 q_m119 Q 373 [some (.ref 192), some (.int (nI e)), some (.int (nI p)), some (.int (nI a)), some (.int (nI b)), some (.int (nI 0)), some (.int od), some (.int (-1)), some (.int bs), some (.int s0), some (.int (nI 0)), none, none] [.int (nI 0)] (n, I4, f_tx J e S, R) 0 0
    refine q_k 2 ?_
    show q_W L (d + 7) 119 q_m119 Q 377 [some (.ref 192), some (.int (nI e)), some (.int (nI p)), some (.int (nI a)), some (.int (nI b)), some (.int (nI 0)), some (.int od), some (.int (-1)), some (.int bs), some (.int s0), some (.int (nI 0)), some (.int (nI 0)), none] [.int (nI 0)] (n, I4, f_tx J e S, R) 0 0
    refine q_one rfl rfl ?_
    show ((nI 0) = 0 → q_W L (d + 7) 119 q_m119 Q 383 [some (.ref 192), some (.int (nI e)), some (.int (nI p)), some (.int (nI a)), some (.int (nI b)), some (.int (nI 0)), some (.int od), some (.int (-1)), some (.int bs), some (.int s0), some (.int (nI 0)), some (.int (nI 0)), none] [] (n, I4, f_tx J e S, R) 0 0) ∧ (¬ (nI 0) = 0 → q_W L (d + 7) 119 q_m119 Q 380 [some (.ref 192), some (.int (nI e)), some (.int (nI p)), some (.int (nI a)), some (.int (nI b)), some (.int (nI 0)), some (.int od), some (.int (-1)), some (.int bs), some (.int s0), some (.int (nI 0)), some (.int (nI 0)), none] [] (n, I4, f_tx J e S, R) 0 0)
    refine ⟨fun _ => ?_, fun z => absurd (rfl) z⟩
    refine q_k 2 ?_
    show q_W L (d + 7) 119 q_m119 Q 385 [some (.ref 192), some (.int (nI e)), some (.int (nI p)), some (.int (nI a)), some (.int (nI b)), some (.int (nI 0)), some (.int od), some (.int (-1)), some (.int bs), some (.int s0), some (.int (nI 0)), some (.int (nI 0)), none] [.int (nI p), .ref 192] (n, I4, f_tx J e S, R) 0 0
    refine q_cv (as := [.int (nI p)]) (rs := []) rfl rfl rfl (⟨Nat.lt_of_lt_of_le (by decide) hK.1, rfl⟩) rfl rfl ?_
    refine m_comes (q_K0_to hK (by rw [f4 0 (by decide) (by decide) (by decide) (by decide) (by decide) (by decide) (by decide) (by decide), f3 0 (by decide) (by decide) (by decide) (by decide) (by decide), eI2, q_un (by decide), q_un (by decide), q_un (by decide), f1 0 (by decide)]) (by rw [f4 1 (by decide) (by decide) (by decide) (by decide) (by decide) (by decide) (by decide) (by decide), f3 1 (by decide) (by decide) (by decide) (by decide) (by decide), eI2, q_un (by decide), q_un (by decide), q_un (by decide), f1 1 (by decide)])) (hp) (by rw [f4 206 (by decide) (by decide) (by decide) (by decide) (by decide) (by decide) (by decide) (by decide), f3 206 (by decide) (by decide) (by decide) (by decide) (by decide), eI2, q_un (by decide), q_un (by decide), q_un (by decide), f1 206 (by decide)]; exact hm) (hm3) (fun I5 m5 r5 f5 => ?_)
    show q_W L (d + 7) 119 q_m119 Q 388 [some (.ref 192), some (.int (nI e)), some (.int (nI p)), some (.int (nI a)), some (.int (nI b)), some (.int (nI 0)), some (.int od), some (.int (-1)), some (.int bs), some (.int s0), some (.int (nI 0)), some (.int (nI 0)), none] [] (n, I5, f_tx J e S, R) 0 0
    refine q_k 1 ?_
    show q_W L (d + 7) 119 q_m119 Q 390 [some (.ref 192), some (.int (nI e)), some (.int (nI p)), some (.int (nI a)), some (.int (nI b)), some (.int (nI 0)), some (.int od), some (.int (-1)), some (.int bs), some (.int s0), some (.int (nI 0)), some (.int (nI 0)), none] [.int (-1)] (n, I5, f_tx J e S, R) 0 0
    refine q_one rfl rfl ?_
    show ((-1) < 0 → q_W L (d + 7) 119 q_m119 Q 458 [some (.ref 192), some (.int (nI e)), some (.int (nI p)), some (.int (nI a)), some (.int (nI b)), some (.int (nI 0)), some (.int od), some (.int (-1)), some (.int bs), some (.int s0), some (.int (nI 0)), some (.int (nI 0)), none] [] (n, I5, f_tx J e S, R) 0 0) ∧ (¬ (-1) < 0 → q_W L (d + 7) 119 q_m119 Q 393 [some (.ref 192), some (.int (nI e)), some (.int (nI p)), some (.int (nI a)), some (.int (nI b)), some (.int (nI 0)), some (.int od), some (.int (-1)), some (.int bs), some (.int s0), some (.int (nI 0)), some (.int (nI 0)), none] [] (n, I5, f_tx J e S, R) 0 0)
    refine ⟨fun _ => ?_, fun z => absurd (by decide) z⟩
    refine q_k 1 ?_
    show q_W L (d + 7) 119 q_m119 Q 459 [some (.ref 192), some (.int (nI e)), some (.int (nI p)), some (.int (nI a)), some (.int (nI b)), some (.int (nI 0)), some (.int od), some (.int (-1)), some (.int bs), some (.int s0), some (.int (nI 0)), some (.int (nI 0)), none] [.int (nI 0)] (n, I5, f_tx J e S, R) 0 0
    refine q_one rfl rfl ?_
    show Q (some (.int (nI 0))) (n, I5, f_tx J e S, R)
    have hF : f_beg2 (I1 207) I J e a b p m c = (nI 0, f_come p m (va_up S.2.1 11 (nI 1)) (f_ok S b I), f_tx J e S) := by unfold f_beg2; rw [← eS, if_pos hz, if_neg hitc]
    have h := hQ (I1 207) I5
    rw [hF] at h
    refine h ⟨fun a ha hb => ?_, ?_⟩ (fun x hx => ?_)
    · show I5 a = (f_come p m (va_up S.2.1 11 (nI 1)) (f_ok S b I)) a
      by_cases e5 : a = 205
      · subst e5
        rw [r5]
        exact f_come_205 (by rw [f4 205 (by decide) (by decide) (by decide) (by decide) (by decide) (by decide) (by decide) (by decide), f3 205 (by decide) (by decide) (by decide) (by decide) (by decide), eI2, q_un (by decide), q_un (by decide), q_un (by decide), f1 205 (by decide), f_ok_n (by decide)]) (fun i _ => by rw [r4])
      · by_cases e6 : a = 206
        · subst e6; rw [m5, f_come_206, f4 206 (by decide) (by decide) (by decide) (by decide) (by decide) (by decide) (by decide) (by decide), f3 206 (by decide) (by decide) (by decide) (by decide) (by decide), eI2, q_un (by decide), q_un (by decide), q_un (by decide), f1 206 (by decide), f_ok_n (by decide)]
        · rw [f5 a e5 e6, f_come_n e5 e6]
          by_cases e9 : a = 196
          · subst e9; rw [c4, f_ok_196, f3 196 (by decide) (by decide) (by decide) (by decide) (by decide), eI2, q_un (by decide), q_un (by decide), q_un (by decide), f1 196 (by decide)]
          · rw [f4 a (by omega) e9 (by omega) (by omega) (by omega) (by omega) (by omega) (by omega), f3 a (by omega) (by omega) (by omega) (by omega) (by omega), eI2, q_un (by omega), q_un (by omega), q_un (by omega), f1 a (by omega), f_ok_n e9]
    · show I5 192 16 = (f_come p m (va_up S.2.1 11 (nI 1)) (f_ok S b I)) 192 16
      rw [f5 192 (by decide) (by decide), e4 16 (by decide) (by decide), f3 192 (by decide) (by decide) (by decide) (by decide) (by decide), eI2, q_un (by decide), q_un (by decide), q_un (by decide), f1 192 (by decide), f_come_n (by decide) (by decide), f_ok_n (by decide)]
    · rw [f5 x (by omega) (by omega), f4 x (by omega) (by omega) (by omega) (by omega) (by omega) (by omega) (by omega) (by omega), f3 x (by omega) (by omega) (by omega) (by omega) (by omega), eI2, q_un (by omega), q_un (by omega), q_un (by omega), f1 x (by omega)]
  · skip
    rw [hT] at hz ⊢
    show q_W L (d + 7) 119 q_m119 Q 373 [some (.ref 192), some (.int (nI e)), some (.int (nI p)), some (.int (nI a)), some (.int (nI b)), some (.int (nI 0)), some (.int od), some (.int (-1)), some (.int bs), some (.int s0), some (.int (nI 0)), none, none] [.int S.1] (n, I4, J, R) 0 0
    refine q_k 2 ?_
    show q_W L (d + 7) 119 q_m119 Q 377 [some (.ref 192), some (.int (nI e)), some (.int (nI p)), some (.int (nI a)), some (.int (nI b)), some (.int (nI 0)), some (.int od), some (.int (-1)), some (.int bs), some (.int s0), some (.int (nI 0)), some (.int S.1), none] [.int S.1] (n, I4, J, R) 0 0
    refine q_one rfl rfl ?_
    show (S.1 = 0 → q_W L (d + 7) 119 q_m119 Q 383 [some (.ref 192), some (.int (nI e)), some (.int (nI p)), some (.int (nI a)), some (.int (nI b)), some (.int (nI 0)), some (.int od), some (.int (-1)), some (.int bs), some (.int s0), some (.int (nI 0)), some (.int S.1), none] [] (n, I4, J, R) 0 0) ∧ (¬ S.1 = 0 → q_W L (d + 7) 119 q_m119 Q 380 [some (.ref 192), some (.int (nI e)), some (.int (nI p)), some (.int (nI a)), some (.int (nI b)), some (.int (nI 0)), some (.int od), some (.int (-1)), some (.int bs), some (.int s0), some (.int (nI 0)), some (.int S.1), none] [] (n, I4, J, R) 0 0)
    refine ⟨fun z => absurd z (hz), fun _ => ?_⟩
    refine q_k 1 ?_
    show q_W L (d + 7) 119 q_m119 Q 382 [some (.ref 192), some (.int (nI e)), some (.int (nI p)), some (.int (nI a)), some (.int (nI b)), some (.int (nI 0)), some (.int od), some (.int (-1)), some (.int bs), some (.int s0), some (.int (nI 0)), some (.int S.1), none] [.int S.1] (n, I4, J, R) 0 0
    refine q_one rfl rfl ?_
    show Q (some (.int S.1)) (n, I4, J, R)
    have hF : f_beg2 (I1 207) I J e a b p m c = (S.1, I, J) := by unfold f_beg2; rw [← eS, if_neg hz]
    have h := hQ (I1 207) I4
    rw [hF] at h
    exact h ⟨fun a ha hb => by rw [f4 a (by omega) (by omega) (by omega) (by omega) (by omega) (by omega) (by omega), f3 a (by omega) (by omega) (by omega) (by omega) (by omega), eI2, q_un (by omega), q_un (by omega), q_un (by omega), f1 a (by omega)], by rw [e4 16 (by decide) (by decide), f3 192 (by decide) (by decide) (by decide) (by decide) (by decide), eI2, q_un (by decide), q_un (by decide), q_un (by decide), f1 192 (by decide)]⟩ (fun x hx => by rw [f4 x (by omega) (by omega) (by omega) (by omega) (by omega) (by omega) (by omega), f3 x (by omega) (by omega) (by omega) (by omega) (by omega), eI2, q_un (by omega), q_un (by omega), q_un (by omega), f1 x (by omega)])
set_option maxHeartbeats 1000000 in
theorem m_begun_2_11 {L d n : Nat} {I : q_I} {J : q_L} {R : q_R} {Q : q_Q} {e a b p m c x y : Nat} (hK : q_K0 n I R) (he : e + 12 ≤ 720) (hwf : q_wf I J e a b x y) (hp : p < 16) (hm : I 206 p = nI m) (hm3 : m ≤ 3) (hc : I 201 b = nI c) (hc10 : c ≤ 10)  (hnow : f_now I J e b = true) (hold : f_old I J e b = true) (hQ : (∀ g I', q_ms I' (f_begun g I J e a b p m c).2.1 → q_mf I' I → Q (some (.int (f_begun g I J e a b p m c).1)) (n, I', (f_begun g I J e a b p m c).2.2, R))) : q_W L (d + 7) 119 q_m119 Q 76 [some (.ref 192), some (.int (nI e)), some (.int (nI p)), some (.int (nI a)), some (.int (nI b)), some (.int (nI 1)), some (.int (nI 1)), none, none, none, none, none, none] [] (n, I, J, R) 0 0 := by
  have hb := hwf.hb
  have ha := hwf.ha
  refine q_k 3 ?_
  show q_W L (d + 7) 119 q_m119 Q 80 [some (.ref 192), some (.int (nI e)), some (.int (nI p)), some (.int (nI a)), some (.int (nI b)), some (.int (nI 1)), some (.int (nI 1)), some (.int (-1)), none, none, none, none, none] [.ref 192] (n, I, J, R) 0 0
  refine q_gR (b := 201) rfl rfl (⟨Nat.lt_of_lt_of_le (by decide) hK.1, rfl⟩) (hK.2.1 192 8 201 rfl) ?_
  refine q_k 1 ?_
  show q_W L (d + 7) 119 q_m119 Q 85 [some (.ref 192), some (.int (nI e)), some (.int (nI p)), some (.int (nI a)), some (.int (nI b)), some (.int (nI 1)), some (.int (nI 1)), some (.int (-1)), none, none, none, none, none] [.int (nI b), .ref 201] (n, I, J, R) 0 0
  refine q_ial (m := b) rfl (⟨by decide, Nat.lt_of_lt_of_le (by decide) hK.1, rfl⟩) (hwf.hb) (rfl) ?_
  refine q_top (w := nI c) (hc) ?_
  refine q_k 2 ?_
  show q_W L (d + 7) 119 q_m119 Q 88 [some (.ref 192), some (.int (nI e)), some (.int (nI p)), some (.int (nI a)), some (.int (nI b)), some (.int (nI 1)), some (.int (nI 1)), some (.int (-1)), none, none, none, none, none] [.int ((nI c) - (nI 1))] (n, I, J, R) 0 0
  refine q_top (w := nI c - nI 1) (rfl) ?_
  refine q_k 1 ?_
  show q_W L (d + 7) 119 q_m119 Q 90 [some (.ref 192), some (.int (nI e)), some (.int (nI p)), some (.int (nI a)), some (.int (nI b)), some (.int (nI 1)), some (.int (nI 1)), some (.int (-1)), some (.int (nI c - nI 1)), none, none, none, none] [] (n, I, J, R) 0 0
  refine q_loopD (σ := Int32) (fun k it => ((it = -1 ∧ ∀ j, k ≤ j → j < c → f_hit I J e b j = false) ∨ (∃ i, k ≤ i ∧ i < c ∧ it = nI i ∧ f_hit I J e b i = true ∧ ∀ j, k ≤ j → j < i → f_hit I J e b j = false)) ∧ k ≤ c) (fun k it => q_W L (d + 7) 119 q_m119 Q 90 [some (.ref 192), some (.int (nI e)), some (.int (nI p)), some (.int (nI a)), some (.int (nI b)), some (.int (nI 1)), some (.int (nI 1)), some (.int it), some (.int (nI k - nI 1)), none, none, none, none] [] (n, I, J, R) 0 0) ?_ ?_ c (-1) ?_
  · intro it0 hP
    show q_W L (d + 7) 119 q_m119 Q 90 [some (.ref 192), some (.int (nI e)), some (.int (nI p)), some (.int (nI a)), some (.int (nI b)), some (.int (nI 1)), some (.int (nI 1)), some (.int it0), some (.int (nI 0 - nI 1)), none, none, none, none] [] (n, I, J, R) 0 0
    rcases hP.1 with ⟨rfl, hno⟩ | ⟨it, -, hic, rfl, hyes, hbef⟩
    · skip
      have hitv : f_it I J e b c = c := g_first_u (Nat.le_refl _) (fun j hj => hno j (Nat.zero_le _) hj) (fun z => absurd z (Nat.lt_irrefl _))
      have hitc : ¬ f_it I J e b c < c := by rw [hitv]; exact Nat.lt_irrefl _
      show q_W L (d + 7) 119 q_m119 Q 90 [some (.ref 192), some (.int (nI e)), some (.int (nI p)), some (.int (nI a)), some (.int (nI b)), some (.int (nI 1)), some (.int (nI 1)), some (.int (-1)), some (.int (nI 0 - nI 1)), none, none, none, none] [] (n, I, J, R) 0 0
      refine q_k 1 ?_
      show q_W L (d + 7) 119 q_m119 Q 92 [some (.ref 192), some (.int (nI e)), some (.int (nI p)), some (.int (nI a)), some (.int (nI b)), some (.int (nI 1)), some (.int (nI 1)), some (.int (-1)), some (.int (nI 0 - nI 1)), none, none, none, none] [.int (nI 0 - nI 1)] (n, I, J, R) 0 0
      refine q_one rfl rfl ?_
      show ((nI 0 - nI 1) < 0 → q_W L (d + 7) 119 q_m119 Q 141 [some (.ref 192), some (.int (nI e)), some (.int (nI p)), some (.int (nI a)), some (.int (nI b)), some (.int (nI 1)), some (.int (nI 1)), some (.int (-1)), some (.int (nI 0 - nI 1)), none, none, none, none] [] (n, I, J, R) 0 0) ∧ (¬ (nI 0 - nI 1) < 0 → q_W L (d + 7) 119 q_m119 Q 95 [some (.ref 192), some (.int (nI e)), some (.int (nI p)), some (.int (nI a)), some (.int (nI b)), some (.int (nI 1)), some (.int (nI 1)), some (.int (-1)), some (.int (nI 0 - nI 1)), none, none, none, none] [] (n, I, J, R) 0 0)
      refine ⟨fun _ => ?_, fun z => absurd (by decide) z⟩
      refine q_k 1 ?_
      show q_W L (d + 7) 119 q_m119 Q 143 [some (.ref 192), some (.int (nI e)), some (.int (nI p)), some (.int (nI a)), some (.int (nI b)), some (.int (nI 1)), some (.int (nI 1)), some (.int (-1)), some (.int (nI 0 - nI 1)), none, none, none, none] [.int (nI 1)] (n, I, J, R) 0 0
      refine q_one rfl rfl ?_
      show (¬ (nI 1) = 0 → q_W L (d + 7) 119 q_m119 Q 151 [some (.ref 192), some (.int (nI e)), some (.int (nI p)), some (.int (nI a)), some (.int (nI b)), some (.int (nI 1)), some (.int (nI 1)), some (.int (-1)), some (.int (nI 0 - nI 1)), none, none, none, none] [] (n, I, J, R) 0 0) ∧ ((nI 1) = 0 → q_W L (d + 7) 119 q_m119 Q 146 [some (.ref 192), some (.int (nI e)), some (.int (nI p)), some (.int (nI a)), some (.int (nI b)), some (.int (nI 1)), some (.int (nI 1)), some (.int (-1)), some (.int (nI 0 - nI 1)), none, none, none, none] [] (n, I, J, R) 0 0)
      refine ⟨fun _ => ?_, fun z => absurd z (by decide)⟩
      refine q_k 1 ?_
      show q_W L (d + 7) 119 q_m119 Q 153 [some (.ref 192), some (.int (nI e)), some (.int (nI p)), some (.int (nI a)), some (.int (nI b)), some (.int (nI 1)), some (.int (nI 1)), some (.int (-1)), some (.int (nI 0 - nI 1)), none, none, none, none] [.int (-1)] (n, I, J, R) 0 0
      refine q_one rfl rfl ?_
      show (0 ≤ (-1) → q_W L (d + 7) 119 q_m119 Q 172 [some (.ref 192), some (.int (nI e)), some (.int (nI p)), some (.int (nI a)), some (.int (nI b)), some (.int (nI 1)), some (.int (nI 1)), some (.int (-1)), some (.int (nI 0 - nI 1)), none, none, none, none] [] (n, I, J, R) 0 0) ∧ (¬ 0 ≤ (-1) → q_W L (d + 7) 119 q_m119 Q 156 [some (.ref 192), some (.int (nI e)), some (.int (nI p)), some (.int (nI a)), some (.int (nI b)), some (.int (nI 1)), some (.int (nI 1)), some (.int (-1)), some (.int (nI 0 - nI 1)), none, none, none, none] [] (n, I, J, R) 0 0)
      refine ⟨fun z => absurd z (by decide), fun _ => ?_⟩
      refine q_k 1 ?_
      show q_W L (d + 7) 119 q_m119 Q 157 [some (.ref 192), some (.int (nI e)), some (.int (nI p)), some (.int (nI a)), some (.int (nI b)), some (.int (nI 1)), some (.int (nI 1)), some (.int (-1)), some (.int (nI 0 - nI 1)), none, none, none, none] [.ref 192] (n, I, J, R) 0 0
      refine q_gR (b := 208) rfl rfl (⟨Nat.lt_of_lt_of_le (by decide) hK.1, rfl⟩) (hK.2.1 192 15 208 rfl) ?_
      refine q_k 3 ?_
      show q_W L (d + 7) 119 q_m119 Q 164 [some (.ref 192), some (.int (nI e)), some (.int (nI p)), some (.int (nI a)), some (.int (nI b)), some (.int (nI 1)), some (.int (nI 1)), some (.int (-1)), some (.int (nI 0 - nI 1)), none, none, none, none] [.int ((nI e) + (nI 6)), .ref 208] (n, I, J, R) 0 0
      refine q_top (w := nI (e + 6)) (nI_add _ _) ?_
      refine q_lal (m := e + 6) rfl (⟨by decide, Nat.lt_of_lt_of_le (by decide) hK.1, rfl⟩) (by omega) (rfl) ?_
      refine q_k 2 ?_
      show q_W L (d + 7) 119 q_m119 Q 167 [some (.ref 192), some (.int (nI e)), some (.int (nI p)), some (.int (nI a)), some (.int (nI b)), some (.int (nI 1)), some (.int (nI 1)), some (.int (-1)), some (.int (nI 0 - nI 1)), none, none, none, none] [.int (lg_cmp (J 208 (e + 6)) (lN 0))] (n, I, J, R) 0 0
      refine q_one rfl rfl ?_
      show ((lg_cmp (J 208 (e + 6)) (lN 0)) = 0 → q_W L (d + 7) 119 q_m119 Q 172 [some (.ref 192), some (.int (nI e)), some (.int (nI p)), some (.int (nI a)), some (.int (nI b)), some (.int (nI 1)), some (.int (nI 1)), some (.int (-1)), some (.int (nI 0 - nI 1)), none, none, none, none] [] (n, I, J, R) 0 0) ∧ (¬ (lg_cmp (J 208 (e + 6)) (lN 0)) = 0 → q_W L (d + 7) 119 q_m119 Q 170 [some (.ref 192), some (.int (nI e)), some (.int (nI p)), some (.int (nI a)), some (.int (nI b)), some (.int (nI 1)), some (.int (nI 1)), some (.int (-1)), some (.int (nI 0 - nI 1)), none, none, none, none] [] (n, I, J, R) 0 0)
      refine ⟨fun h167 => ?_, fun h167 => ?_⟩
      · skip
        rw [lg_cmp_eq] at h167
        have hF : ∀ g, f_begun g I J e a b p m c = f_beg2 g I J e a b p m c := fun g => by unfold f_begun; rw [if_neg (fun z => z.elim (fun z => absurd (hnow.symm.trans z.1) (by decide)) (fun z => z.2 h167))]
        simp only [hF] at hQ
        exact m_begun_3_10 hK he hwf hp hm hm3 hc hc10 hwf.ha hwf.hb hnow hitc hQ
      · skip
        rw [lg_cmp_eq] at h167
        refine q_k 1 ?_
        show q_W L (d + 7) 119 q_m119 Q 171 [some (.ref 192), some (.int (nI e)), some (.int (nI p)), some (.int (nI a)), some (.int (nI b)), some (.int (nI 1)), some (.int (nI 1)), some (.int (-1)), some (.int (nI 0 - nI 1)), none, none, none, none] [.int (nI 3)] (n, I, J, R) 0 0
        refine q_one rfl rfl ?_
        show Q (some (.int (nI 3))) (n, I, J, R)
        have hF : ∀ g, f_begun g I J e a b p m c = (nI 3, I, J) := fun g => by unfold f_begun; rw [if_pos (Or.inr ⟨hitc, h167⟩)]
        have h := hQ (fun _ => nI 0) I
        rw [hF] at h
        exact h (q_ms_rf I) (q_mf_rf I)
    · skip
      have hitv : f_it I J e b c = it := g_first_u (Nat.le_of_lt hic) (fun j hj => hbef j (Nat.zero_le _) hj) (fun _ => hyes)
      show q_W L (d + 7) 119 q_m119 Q 90 [some (.ref 192), some (.int (nI e)), some (.int (nI p)), some (.int (nI a)), some (.int (nI b)), some (.int (nI 1)), some (.int (nI 1)), some (.int (nI it)), some (.int (nI 0 - nI 1)), none, none, none, none] [] (n, I, J, R) 0 0
      refine q_k 1 ?_
      show q_W L (d + 7) 119 q_m119 Q 92 [some (.ref 192), some (.int (nI e)), some (.int (nI p)), some (.int (nI a)), some (.int (nI b)), some (.int (nI 1)), some (.int (nI 1)), some (.int (nI it)), some (.int (nI 0 - nI 1)), none, none, none, none] [.int (nI 0 - nI 1)] (n, I, J, R) 0 0
      refine q_one rfl rfl ?_
      show ((nI 0 - nI 1) < 0 → q_W L (d + 7) 119 q_m119 Q 141 [some (.ref 192), some (.int (nI e)), some (.int (nI p)), some (.int (nI a)), some (.int (nI b)), some (.int (nI 1)), some (.int (nI 1)), some (.int (nI it)), some (.int (nI 0 - nI 1)), none, none, none, none] [] (n, I, J, R) 0 0) ∧ (¬ (nI 0 - nI 1) < 0 → q_W L (d + 7) 119 q_m119 Q 95 [some (.ref 192), some (.int (nI e)), some (.int (nI p)), some (.int (nI a)), some (.int (nI b)), some (.int (nI 1)), some (.int (nI 1)), some (.int (nI it)), some (.int (nI 0 - nI 1)), none, none, none, none] [] (n, I, J, R) 0 0)
      refine ⟨fun _ => ?_, fun z => absurd (by decide) z⟩
      refine q_k 1 ?_
      show q_W L (d + 7) 119 q_m119 Q 143 [some (.ref 192), some (.int (nI e)), some (.int (nI p)), some (.int (nI a)), some (.int (nI b)), some (.int (nI 1)), some (.int (nI 1)), some (.int (nI it)), some (.int (nI 0 - nI 1)), none, none, none, none] [.int (nI 1)] (n, I, J, R) 0 0
      refine q_one rfl rfl ?_
      show (¬ (nI 1) = 0 → q_W L (d + 7) 119 q_m119 Q 151 [some (.ref 192), some (.int (nI e)), some (.int (nI p)), some (.int (nI a)), some (.int (nI b)), some (.int (nI 1)), some (.int (nI 1)), some (.int (nI it)), some (.int (nI 0 - nI 1)), none, none, none, none] [] (n, I, J, R) 0 0) ∧ ((nI 1) = 0 → q_W L (d + 7) 119 q_m119 Q 146 [some (.ref 192), some (.int (nI e)), some (.int (nI p)), some (.int (nI a)), some (.int (nI b)), some (.int (nI 1)), some (.int (nI 1)), some (.int (nI it)), some (.int (nI 0 - nI 1)), none, none, none, none] [] (n, I, J, R) 0 0)
      refine ⟨fun _ => ?_, fun z => absurd z (by decide)⟩
      refine q_k 1 ?_
      show q_W L (d + 7) 119 q_m119 Q 153 [some (.ref 192), some (.int (nI e)), some (.int (nI p)), some (.int (nI a)), some (.int (nI b)), some (.int (nI 1)), some (.int (nI 1)), some (.int (nI it)), some (.int (nI 0 - nI 1)), none, none, none, none] [.int (nI it)] (n, I, J, R) 0 0
      refine q_one rfl rfl ?_
      show (0 ≤ (nI it) → q_W L (d + 7) 119 q_m119 Q 172 [some (.ref 192), some (.int (nI e)), some (.int (nI p)), some (.int (nI a)), some (.int (nI b)), some (.int (nI 1)), some (.int (nI 1)), some (.int (nI it)), some (.int (nI 0 - nI 1)), none, none, none, none] [] (n, I, J, R) 0 0) ∧ (¬ 0 ≤ (nI it) → q_W L (d + 7) 119 q_m119 Q 156 [some (.ref 192), some (.int (nI e)), some (.int (nI p)), some (.int (nI a)), some (.int (nI b)), some (.int (nI 1)), some (.int (nI 1)), some (.int (nI it)), some (.int (nI 0 - nI 1)), none, none, none, none] [] (n, I, J, R) 0 0)
      refine ⟨fun _ => ?_, fun z => absurd (nI_pos' (by omega)) z⟩
      have hF : ∀ g, f_begun g I J e a b p m c = f_beg2 g I J e a b p m c := fun g => by unfold f_begun; rw [if_neg (fun z => z.elim (fun z => absurd (hnow.symm.trans z.1) (by decide)) (fun z => z.1 (by rw [hitv]; exact hic)))]
      simp only [hF] at hQ
      exact m_begun_3_11 hK he hwf hp hm hm3 hc hc10 hwf.ha hwf.hb hnow hitv hic hQ
  · intro k it hP ih
    have hkc := hP.2
    show q_W L (d + 7) 119 q_m119 Q 90 [some (.ref 192), some (.int (nI e)), some (.int (nI p)), some (.int (nI a)), some (.int (nI b)), some (.int (nI 1)), some (.int (nI 1)), some (.int it), some (.int (nI (k + 1) - nI 1)), none, none, none, none] [] (n, I, J, R) 0 0
    rw [show nI (k + 1) - nI 1 = nI k from q_sub rfl]
    show q_W L (d + 7) 119 q_m119 Q 90 [some (.ref 192), some (.int (nI e)), some (.int (nI p)), some (.int (nI a)), some (.int (nI b)), some (.int (nI 1)), some (.int (nI 1)), some (.int it), some (.int (nI k)), none, none, none, none] [] (n, I, J, R) 0 0
    refine q_k 1 ?_
    show q_W L (d + 7) 119 q_m119 Q 92 [some (.ref 192), some (.int (nI e)), some (.int (nI p)), some (.int (nI a)), some (.int (nI b)), some (.int (nI 1)), some (.int (nI 1)), some (.int it), some (.int (nI k)), none, none, none, none] [.int (nI k)] (n, I, J, R) 0 0
    refine q_one rfl rfl ?_
    show ((nI k) < 0 → q_W L (d + 7) 119 q_m119 Q 141 [some (.ref 192), some (.int (nI e)), some (.int (nI p)), some (.int (nI a)), some (.int (nI b)), some (.int (nI 1)), some (.int (nI 1)), some (.int it), some (.int (nI k)), none, none, none, none] [] (n, I, J, R) 0 0) ∧ (¬ (nI k) < 0 → q_W L (d + 7) 119 q_m119 Q 95 [some (.ref 192), some (.int (nI e)), some (.int (nI p)), some (.int (nI a)), some (.int (nI b)), some (.int (nI 1)), some (.int (nI 1)), some (.int it), some (.int (nI k)), none, none, none, none] [] (n, I, J, R) 0 0)
    refine ⟨fun z => absurd z (nI_pos (by omega)), fun _ => ?_⟩
    refine q_k 1 ?_
    show q_W L (d + 7) 119 q_m119 Q 96 [some (.ref 192), some (.int (nI e)), some (.int (nI p)), some (.int (nI a)), some (.int (nI b)), some (.int (nI 1)), some (.int (nI 1)), some (.int it), some (.int (nI k)), none, none, none, none] [.ref 192] (n, I, J, R) 0 0
    refine q_gR (b := 200) rfl rfl (⟨Nat.lt_of_lt_of_le (by decide) hK.1, rfl⟩) (hK.2.1 192 7 200 rfl) ?_
    refine q_k 4 ?_
    show q_W L (d + 7) 119 q_m119 Q 105 [some (.ref 192), some (.int (nI e)), some (.int (nI p)), some (.int (nI a)), some (.int (nI b)), some (.int (nI 1)), some (.int (nI 1)), some (.int it), some (.int (nI k)), none, none, none, none] [.int ((nI 10) * (nI b)), .int (nI 2), .ref 200] (n, I, J, R) 0 0
    refine q_top (w := nI (10 * b)) (pk_mul _ _) ?_
    refine q_k 2 ?_
    show q_W L (d + 7) 119 q_m119 Q 108 [some (.ref 192), some (.int (nI e)), some (.int (nI p)), some (.int (nI a)), some (.int (nI b)), some (.int (nI 1)), some (.int (nI 1)), some (.int it), some (.int (nI k)), none, none, none, none] [.int ((nI (10 * b)) + (nI k)), .int (nI 2), .ref 200] (n, I, J, R) 0 0
    refine q_top (w := nI (10 * b + k)) (nI_add _ _) ?_
    refine q_k 1 ?_
    show q_W L (d + 7) 119 q_m119 Q 109 [some (.ref 192), some (.int (nI e)), some (.int (nI p)), some (.int (nI a)), some (.int (nI b)), some (.int (nI 1)), some (.int (nI 1)), some (.int it), some (.int (nI k)), none, none, none, none] [.int ((nI 2) * (nI (10 * b + k))), .ref 200] (n, I, J, R) 0 0
    refine q_top (w := nI (2 * (10 * b + k))) (pk_mul _ _) ?_
    refine q_k 2 ?_
    show q_W L (d + 7) 119 q_m119 Q 111 [some (.ref 192), some (.int (nI e)), some (.int (nI p)), some (.int (nI a)), some (.int (nI b)), some (.int (nI 1)), some (.int (nI 1)), some (.int it), some (.int (nI k)), none, none, none, none] [.int ((nI (2 * (10 * b + k))) + (nI 1)), .ref 200] (n, I, J, R) 0 0
    refine q_top (w := nI (2 * (10 * b + k) + 1)) (nI_add _ _) ?_
    refine q_ial (m := 2 * (10 * b + k) + 1) rfl (⟨by decide, Nat.lt_of_lt_of_le (by decide) hK.1, rfl⟩) (by omega) (rfl) ?_
    refine q_k 2 ?_
    show q_W L (d + 7) 119 q_m119 Q 114 [some (.ref 192), some (.int (nI e)), some (.int (nI p)), some (.int (nI a)), some (.int (nI b)), some (.int (nI 1)), some (.int (nI 1)), some (.int it), some (.int (nI k)), none, none, none, none] [.ref 192, .long ((I 200 (2 * (10 * b + k) + 1)).toInt64)] (n, I, J, R) 0 0
    refine q_gR (b := 208) rfl rfl (⟨Nat.lt_of_lt_of_le (by decide) hK.1, rfl⟩) (hK.2.1 192 15 208 rfl) ?_
    refine q_k 3 ?_
    show q_W L (d + 7) 119 q_m119 Q 121 [some (.ref 192), some (.int (nI e)), some (.int (nI p)), some (.int (nI a)), some (.int (nI b)), some (.int (nI 1)), some (.int (nI 1)), some (.int it), some (.int (nI k)), none, none, none, none] [.int ((nI e) + (nI 6)), .ref 208, .long ((I 200 (2 * (10 * b + k) + 1)).toInt64)] (n, I, J, R) 0 0
    refine q_top (w := nI (e + 6)) (nI_add _ _) ?_
    refine q_lal (m := e + 6) rfl (⟨by decide, Nat.lt_of_lt_of_le (by decide) hK.1, rfl⟩) (by omega) (rfl) ?_
    refine q_k 1 ?_
    show q_W L (d + 7) 119 q_m119 Q 123 [some (.ref 192), some (.int (nI e)), some (.int (nI p)), some (.int (nI a)), some (.int (nI b)), some (.int (nI 1)), some (.int (nI 1)), some (.int it), some (.int (nI k)), none, none, none, none] [.int (lg_cmp ((I 200 (2 * (10 * b + k) + 1)).toInt64) (J 208 (e + 6)))] (n, I, J, R) 0 0
    refine q_one rfl rfl ?_
    show (¬ (lg_cmp ((I 200 (2 * (10 * b + k) + 1)).toInt64) (J 208 (e + 6))) = 0 → q_W L (d + 7) 119 q_m119 Q 131 [some (.ref 192), some (.int (nI e)), some (.int (nI p)), some (.int (nI a)), some (.int (nI b)), some (.int (nI 1)), some (.int (nI 1)), some (.int it), some (.int (nI k)), none, none, none, none] [] (n, I, J, R) 0 0) ∧ ((lg_cmp ((I 200 (2 * (10 * b + k) + 1)).toInt64) (J 208 (e + 6))) = 0 → q_W L (d + 7) 119 q_m119 Q 126 [some (.ref 192), some (.int (nI e)), some (.int (nI p)), some (.int (nI a)), some (.int (nI b)), some (.int (nI 1)), some (.int (nI 1)), some (.int it), some (.int (nI k)), none, none, none, none] [] (n, I, J, R) 0 0)
    refine ⟨fun h123 => ?_, fun h123 => ?_⟩
    · skip
      rw [lg_cmp_eq] at h123
      refine q_k 4 ?_
      show q_W L (d + 7) 119 q_m119 Q 90 [some (.ref 192), some (.int (nI e)), some (.int (nI p)), some (.int (nI a)), some (.int (nI b)), some (.int (nI 1)), some (.int (nI 1)), some (.int it), some (.int ((nI k) + -1)), none, none, none, none] [] (n, I, J, R) 0 0
      rw [show nI k + -1 = nI k - nI 1 from q_m1s _]
      have hk0 : f_hit I J e b k = false := decide_eq_false h123
      refine ih _ ⟨?_, by omega⟩
      rcases hP.1 with ⟨h1, h2⟩ | ⟨i, h1, h2, h3, h4, h5⟩
      · refine Or.inl ⟨h1, fun j hj1 hj2 => ?_⟩
        by_cases e : j = k
        · subst e; exact hk0
        · exact h2 j (by omega) hj2
      · refine Or.inr ⟨i, by omega, h2, h3, h4, fun j hj1 hj2 => ?_⟩
        by_cases e : j = k
        · subst e; exact hk0
        · exact h5 j (by omega) hj2
    · skip
      rw [lg_cmp_eq] at h123
      refine q_k 5 ?_
      show q_W L (d + 7) 119 q_m119 Q 90 [some (.ref 192), some (.int (nI e)), some (.int (nI p)), some (.int (nI a)), some (.int (nI b)), some (.int (nI 1)), some (.int (nI 1)), some (.int (nI k)), some (.int ((nI k) + -1)), none, none, none, none] [] (n, I, J, R) 0 0
      rw [show nI k + -1 = nI k - nI 1 from q_m1s _]
      refine ih _ ⟨Or.inr ⟨k, Nat.le_refl _, by omega, rfl, decide_eq_true h123, fun j h1 h2 => absurd h1 (by omega)⟩, by omega⟩
  · exact ⟨Or.inl ⟨rfl, fun j h1 h2 => absurd h1 (by omega)⟩, Nat.le_refl _⟩
set_option maxHeartbeats 1000000 in
theorem m_begun_2_10 {L d n : Nat} {I : q_I} {J : q_L} {R : q_R} {Q : q_Q} {e a b p m c x y : Nat} (hK : q_K0 n I R) (he : e + 12 ≤ 720) (hwf : q_wf I J e a b x y) (hp : p < 16) (hm : I 206 p = nI m) (hm3 : m ≤ 3) (hc : I 201 b = nI c) (hc10 : c ≤ 10)  (hnow : f_now I J e b = true) (hold : f_old I J e b = false) (hQ : (∀ g I', q_ms I' (f_begun g I J e a b p m c).2.1 → q_mf I' I → Q (some (.int (f_begun g I J e a b p m c).1)) (n, I', (f_begun g I J e a b p m c).2.2, R))) : q_W L (d + 7) 119 q_m119 Q 76 [some (.ref 192), some (.int (nI e)), some (.int (nI p)), some (.int (nI a)), some (.int (nI b)), some (.int (nI 1)), some (.int (nI 0)), none, none, none, none, none, none] [] (n, I, J, R) 0 0 := by
  have hb := hwf.hb
  have ha := hwf.ha
  refine q_k 3 ?_
  show q_W L (d + 7) 119 q_m119 Q 80 [some (.ref 192), some (.int (nI e)), some (.int (nI p)), some (.int (nI a)), some (.int (nI b)), some (.int (nI 1)), some (.int (nI 0)), some (.int (-1)), none, none, none, none, none] [.ref 192] (n, I, J, R) 0 0
  refine q_gR (b := 201) rfl rfl (⟨Nat.lt_of_lt_of_le (by decide) hK.1, rfl⟩) (hK.2.1 192 8 201 rfl) ?_
  refine q_k 1 ?_
  show q_W L (d + 7) 119 q_m119 Q 85 [some (.ref 192), some (.int (nI e)), some (.int (nI p)), some (.int (nI a)), some (.int (nI b)), some (.int (nI 1)), some (.int (nI 0)), some (.int (-1)), none, none, none, none, none] [.int (nI b), .ref 201] (n, I, J, R) 0 0
  refine q_ial (m := b) rfl (⟨by decide, Nat.lt_of_lt_of_le (by decide) hK.1, rfl⟩) (hwf.hb) (rfl) ?_
  refine q_top (w := nI c) (hc) ?_
  refine q_k 2 ?_
  show q_W L (d + 7) 119 q_m119 Q 88 [some (.ref 192), some (.int (nI e)), some (.int (nI p)), some (.int (nI a)), some (.int (nI b)), some (.int (nI 1)), some (.int (nI 0)), some (.int (-1)), none, none, none, none, none] [.int ((nI c) - (nI 1))] (n, I, J, R) 0 0
  refine q_top (w := nI c - nI 1) (rfl) ?_
  refine q_k 1 ?_
  show q_W L (d + 7) 119 q_m119 Q 90 [some (.ref 192), some (.int (nI e)), some (.int (nI p)), some (.int (nI a)), some (.int (nI b)), some (.int (nI 1)), some (.int (nI 0)), some (.int (-1)), some (.int (nI c - nI 1)), none, none, none, none] [] (n, I, J, R) 0 0
  refine q_loopD (σ := Int32) (fun k it => ((it = -1 ∧ ∀ j, k ≤ j → j < c → f_hit I J e b j = false) ∨ (∃ i, k ≤ i ∧ i < c ∧ it = nI i ∧ f_hit I J e b i = true ∧ ∀ j, k ≤ j → j < i → f_hit I J e b j = false)) ∧ k ≤ c) (fun k it => q_W L (d + 7) 119 q_m119 Q 90 [some (.ref 192), some (.int (nI e)), some (.int (nI p)), some (.int (nI a)), some (.int (nI b)), some (.int (nI 1)), some (.int (nI 0)), some (.int it), some (.int (nI k - nI 1)), none, none, none, none] [] (n, I, J, R) 0 0) ?_ ?_ c (-1) ?_
  · intro it0 hP
    show q_W L (d + 7) 119 q_m119 Q 90 [some (.ref 192), some (.int (nI e)), some (.int (nI p)), some (.int (nI a)), some (.int (nI b)), some (.int (nI 1)), some (.int (nI 0)), some (.int it0), some (.int (nI 0 - nI 1)), none, none, none, none] [] (n, I, J, R) 0 0
    rcases hP.1 with ⟨rfl, hno⟩ | ⟨it, -, hic, rfl, hyes, hbef⟩
    · skip
      have hitv : f_it I J e b c = c := g_first_u (Nat.le_refl _) (fun j hj => hno j (Nat.zero_le _) hj) (fun z => absurd z (Nat.lt_irrefl _))
      have hitc : ¬ f_it I J e b c < c := by rw [hitv]; exact Nat.lt_irrefl _
      show q_W L (d + 7) 119 q_m119 Q 90 [some (.ref 192), some (.int (nI e)), some (.int (nI p)), some (.int (nI a)), some (.int (nI b)), some (.int (nI 1)), some (.int (nI 0)), some (.int (-1)), some (.int (nI 0 - nI 1)), none, none, none, none] [] (n, I, J, R) 0 0
      refine q_k 1 ?_
      show q_W L (d + 7) 119 q_m119 Q 92 [some (.ref 192), some (.int (nI e)), some (.int (nI p)), some (.int (nI a)), some (.int (nI b)), some (.int (nI 1)), some (.int (nI 0)), some (.int (-1)), some (.int (nI 0 - nI 1)), none, none, none, none] [.int (nI 0 - nI 1)] (n, I, J, R) 0 0
      refine q_one rfl rfl ?_
      show ((nI 0 - nI 1) < 0 → q_W L (d + 7) 119 q_m119 Q 141 [some (.ref 192), some (.int (nI e)), some (.int (nI p)), some (.int (nI a)), some (.int (nI b)), some (.int (nI 1)), some (.int (nI 0)), some (.int (-1)), some (.int (nI 0 - nI 1)), none, none, none, none] [] (n, I, J, R) 0 0) ∧ (¬ (nI 0 - nI 1) < 0 → q_W L (d + 7) 119 q_m119 Q 95 [some (.ref 192), some (.int (nI e)), some (.int (nI p)), some (.int (nI a)), some (.int (nI b)), some (.int (nI 1)), some (.int (nI 0)), some (.int (-1)), some (.int (nI 0 - nI 1)), none, none, none, none] [] (n, I, J, R) 0 0)
      refine ⟨fun _ => ?_, fun z => absurd (by decide) z⟩
      refine q_k 1 ?_
      show q_W L (d + 7) 119 q_m119 Q 143 [some (.ref 192), some (.int (nI e)), some (.int (nI p)), some (.int (nI a)), some (.int (nI b)), some (.int (nI 1)), some (.int (nI 0)), some (.int (-1)), some (.int (nI 0 - nI 1)), none, none, none, none] [.int (nI 1)] (n, I, J, R) 0 0
      refine q_one rfl rfl ?_
      show (¬ (nI 1) = 0 → q_W L (d + 7) 119 q_m119 Q 151 [some (.ref 192), some (.int (nI e)), some (.int (nI p)), some (.int (nI a)), some (.int (nI b)), some (.int (nI 1)), some (.int (nI 0)), some (.int (-1)), some (.int (nI 0 - nI 1)), none, none, none, none] [] (n, I, J, R) 0 0) ∧ ((nI 1) = 0 → q_W L (d + 7) 119 q_m119 Q 146 [some (.ref 192), some (.int (nI e)), some (.int (nI p)), some (.int (nI a)), some (.int (nI b)), some (.int (nI 1)), some (.int (nI 0)), some (.int (-1)), some (.int (nI 0 - nI 1)), none, none, none, none] [] (n, I, J, R) 0 0)
      refine ⟨fun _ => ?_, fun z => absurd z (by decide)⟩
      refine q_k 1 ?_
      show q_W L (d + 7) 119 q_m119 Q 153 [some (.ref 192), some (.int (nI e)), some (.int (nI p)), some (.int (nI a)), some (.int (nI b)), some (.int (nI 1)), some (.int (nI 0)), some (.int (-1)), some (.int (nI 0 - nI 1)), none, none, none, none] [.int (-1)] (n, I, J, R) 0 0
      refine q_one rfl rfl ?_
      show (0 ≤ (-1) → q_W L (d + 7) 119 q_m119 Q 172 [some (.ref 192), some (.int (nI e)), some (.int (nI p)), some (.int (nI a)), some (.int (nI b)), some (.int (nI 1)), some (.int (nI 0)), some (.int (-1)), some (.int (nI 0 - nI 1)), none, none, none, none] [] (n, I, J, R) 0 0) ∧ (¬ 0 ≤ (-1) → q_W L (d + 7) 119 q_m119 Q 156 [some (.ref 192), some (.int (nI e)), some (.int (nI p)), some (.int (nI a)), some (.int (nI b)), some (.int (nI 1)), some (.int (nI 0)), some (.int (-1)), some (.int (nI 0 - nI 1)), none, none, none, none] [] (n, I, J, R) 0 0)
      refine ⟨fun z => absurd z (by decide), fun _ => ?_⟩
      refine q_k 1 ?_
      show q_W L (d + 7) 119 q_m119 Q 157 [some (.ref 192), some (.int (nI e)), some (.int (nI p)), some (.int (nI a)), some (.int (nI b)), some (.int (nI 1)), some (.int (nI 0)), some (.int (-1)), some (.int (nI 0 - nI 1)), none, none, none, none] [.ref 192] (n, I, J, R) 0 0
      refine q_gR (b := 208) rfl rfl (⟨Nat.lt_of_lt_of_le (by decide) hK.1, rfl⟩) (hK.2.1 192 15 208 rfl) ?_
      refine q_k 3 ?_
      show q_W L (d + 7) 119 q_m119 Q 164 [some (.ref 192), some (.int (nI e)), some (.int (nI p)), some (.int (nI a)), some (.int (nI b)), some (.int (nI 1)), some (.int (nI 0)), some (.int (-1)), some (.int (nI 0 - nI 1)), none, none, none, none] [.int ((nI e) + (nI 6)), .ref 208] (n, I, J, R) 0 0
      refine q_top (w := nI (e + 6)) (nI_add _ _) ?_
      refine q_lal (m := e + 6) rfl (⟨by decide, Nat.lt_of_lt_of_le (by decide) hK.1, rfl⟩) (by omega) (rfl) ?_
      refine q_k 2 ?_
      show q_W L (d + 7) 119 q_m119 Q 167 [some (.ref 192), some (.int (nI e)), some (.int (nI p)), some (.int (nI a)), some (.int (nI b)), some (.int (nI 1)), some (.int (nI 0)), some (.int (-1)), some (.int (nI 0 - nI 1)), none, none, none, none] [.int (lg_cmp (J 208 (e + 6)) (lN 0))] (n, I, J, R) 0 0
      refine q_one rfl rfl ?_
      show ((lg_cmp (J 208 (e + 6)) (lN 0)) = 0 → q_W L (d + 7) 119 q_m119 Q 172 [some (.ref 192), some (.int (nI e)), some (.int (nI p)), some (.int (nI a)), some (.int (nI b)), some (.int (nI 1)), some (.int (nI 0)), some (.int (-1)), some (.int (nI 0 - nI 1)), none, none, none, none] [] (n, I, J, R) 0 0) ∧ (¬ (lg_cmp (J 208 (e + 6)) (lN 0)) = 0 → q_W L (d + 7) 119 q_m119 Q 170 [some (.ref 192), some (.int (nI e)), some (.int (nI p)), some (.int (nI a)), some (.int (nI b)), some (.int (nI 1)), some (.int (nI 0)), some (.int (-1)), some (.int (nI 0 - nI 1)), none, none, none, none] [] (n, I, J, R) 0 0)
      refine ⟨fun h167 => ?_, fun h167 => ?_⟩
      · skip
        rw [lg_cmp_eq] at h167
        have hF : ∀ g, f_begun g I J e a b p m c = f_beg2 g I J e a b p m c := fun g => by unfold f_begun; rw [if_neg (fun z => z.elim (fun z => absurd (hnow.symm.trans z.1) (by decide)) (fun z => z.2 h167))]
        simp only [hF] at hQ
        exact m_begun_3_10 hK he hwf hp hm hm3 hc hc10 hwf.ha hwf.hb hnow hitc hQ
      · skip
        rw [lg_cmp_eq] at h167
        refine q_k 1 ?_
        show q_W L (d + 7) 119 q_m119 Q 171 [some (.ref 192), some (.int (nI e)), some (.int (nI p)), some (.int (nI a)), some (.int (nI b)), some (.int (nI 1)), some (.int (nI 0)), some (.int (-1)), some (.int (nI 0 - nI 1)), none, none, none, none] [.int (nI 3)] (n, I, J, R) 0 0
        refine q_one rfl rfl ?_
        show Q (some (.int (nI 3))) (n, I, J, R)
        have hF : ∀ g, f_begun g I J e a b p m c = (nI 3, I, J) := fun g => by unfold f_begun; rw [if_pos (Or.inr ⟨hitc, h167⟩)]
        have h := hQ (fun _ => nI 0) I
        rw [hF] at h
        exact h (q_ms_rf I) (q_mf_rf I)
    · skip
      have hitv : f_it I J e b c = it := g_first_u (Nat.le_of_lt hic) (fun j hj => hbef j (Nat.zero_le _) hj) (fun _ => hyes)
      show q_W L (d + 7) 119 q_m119 Q 90 [some (.ref 192), some (.int (nI e)), some (.int (nI p)), some (.int (nI a)), some (.int (nI b)), some (.int (nI 1)), some (.int (nI 0)), some (.int (nI it)), some (.int (nI 0 - nI 1)), none, none, none, none] [] (n, I, J, R) 0 0
      refine q_k 1 ?_
      show q_W L (d + 7) 119 q_m119 Q 92 [some (.ref 192), some (.int (nI e)), some (.int (nI p)), some (.int (nI a)), some (.int (nI b)), some (.int (nI 1)), some (.int (nI 0)), some (.int (nI it)), some (.int (nI 0 - nI 1)), none, none, none, none] [.int (nI 0 - nI 1)] (n, I, J, R) 0 0
      refine q_one rfl rfl ?_
      show ((nI 0 - nI 1) < 0 → q_W L (d + 7) 119 q_m119 Q 141 [some (.ref 192), some (.int (nI e)), some (.int (nI p)), some (.int (nI a)), some (.int (nI b)), some (.int (nI 1)), some (.int (nI 0)), some (.int (nI it)), some (.int (nI 0 - nI 1)), none, none, none, none] [] (n, I, J, R) 0 0) ∧ (¬ (nI 0 - nI 1) < 0 → q_W L (d + 7) 119 q_m119 Q 95 [some (.ref 192), some (.int (nI e)), some (.int (nI p)), some (.int (nI a)), some (.int (nI b)), some (.int (nI 1)), some (.int (nI 0)), some (.int (nI it)), some (.int (nI 0 - nI 1)), none, none, none, none] [] (n, I, J, R) 0 0)
      refine ⟨fun _ => ?_, fun z => absurd (by decide) z⟩
      refine q_k 1 ?_
      show q_W L (d + 7) 119 q_m119 Q 143 [some (.ref 192), some (.int (nI e)), some (.int (nI p)), some (.int (nI a)), some (.int (nI b)), some (.int (nI 1)), some (.int (nI 0)), some (.int (nI it)), some (.int (nI 0 - nI 1)), none, none, none, none] [.int (nI 1)] (n, I, J, R) 0 0
      refine q_one rfl rfl ?_
      show (¬ (nI 1) = 0 → q_W L (d + 7) 119 q_m119 Q 151 [some (.ref 192), some (.int (nI e)), some (.int (nI p)), some (.int (nI a)), some (.int (nI b)), some (.int (nI 1)), some (.int (nI 0)), some (.int (nI it)), some (.int (nI 0 - nI 1)), none, none, none, none] [] (n, I, J, R) 0 0) ∧ ((nI 1) = 0 → q_W L (d + 7) 119 q_m119 Q 146 [some (.ref 192), some (.int (nI e)), some (.int (nI p)), some (.int (nI a)), some (.int (nI b)), some (.int (nI 1)), some (.int (nI 0)), some (.int (nI it)), some (.int (nI 0 - nI 1)), none, none, none, none] [] (n, I, J, R) 0 0)
      refine ⟨fun _ => ?_, fun z => absurd z (by decide)⟩
      refine q_k 1 ?_
      show q_W L (d + 7) 119 q_m119 Q 153 [some (.ref 192), some (.int (nI e)), some (.int (nI p)), some (.int (nI a)), some (.int (nI b)), some (.int (nI 1)), some (.int (nI 0)), some (.int (nI it)), some (.int (nI 0 - nI 1)), none, none, none, none] [.int (nI it)] (n, I, J, R) 0 0
      refine q_one rfl rfl ?_
      show (0 ≤ (nI it) → q_W L (d + 7) 119 q_m119 Q 172 [some (.ref 192), some (.int (nI e)), some (.int (nI p)), some (.int (nI a)), some (.int (nI b)), some (.int (nI 1)), some (.int (nI 0)), some (.int (nI it)), some (.int (nI 0 - nI 1)), none, none, none, none] [] (n, I, J, R) 0 0) ∧ (¬ 0 ≤ (nI it) → q_W L (d + 7) 119 q_m119 Q 156 [some (.ref 192), some (.int (nI e)), some (.int (nI p)), some (.int (nI a)), some (.int (nI b)), some (.int (nI 1)), some (.int (nI 0)), some (.int (nI it)), some (.int (nI 0 - nI 1)), none, none, none, none] [] (n, I, J, R) 0 0)
      refine ⟨fun _ => ?_, fun z => absurd (nI_pos' (by omega)) z⟩
      have hF : ∀ g, f_begun g I J e a b p m c = f_beg2 g I J e a b p m c := fun g => by unfold f_begun; rw [if_neg (fun z => z.elim (fun z => absurd (hnow.symm.trans z.1) (by decide)) (fun z => z.1 (by rw [hitv]; exact hic)))]
      simp only [hF] at hQ
      exact m_begun_3_11 hK he hwf hp hm hm3 hc hc10 hwf.ha hwf.hb hnow hitv hic hQ
  · intro k it hP ih
    have hkc := hP.2
    show q_W L (d + 7) 119 q_m119 Q 90 [some (.ref 192), some (.int (nI e)), some (.int (nI p)), some (.int (nI a)), some (.int (nI b)), some (.int (nI 1)), some (.int (nI 0)), some (.int it), some (.int (nI (k + 1) - nI 1)), none, none, none, none] [] (n, I, J, R) 0 0
    rw [show nI (k + 1) - nI 1 = nI k from q_sub rfl]
    show q_W L (d + 7) 119 q_m119 Q 90 [some (.ref 192), some (.int (nI e)), some (.int (nI p)), some (.int (nI a)), some (.int (nI b)), some (.int (nI 1)), some (.int (nI 0)), some (.int it), some (.int (nI k)), none, none, none, none] [] (n, I, J, R) 0 0
    refine q_k 1 ?_
    show q_W L (d + 7) 119 q_m119 Q 92 [some (.ref 192), some (.int (nI e)), some (.int (nI p)), some (.int (nI a)), some (.int (nI b)), some (.int (nI 1)), some (.int (nI 0)), some (.int it), some (.int (nI k)), none, none, none, none] [.int (nI k)] (n, I, J, R) 0 0
    refine q_one rfl rfl ?_
    show ((nI k) < 0 → q_W L (d + 7) 119 q_m119 Q 141 [some (.ref 192), some (.int (nI e)), some (.int (nI p)), some (.int (nI a)), some (.int (nI b)), some (.int (nI 1)), some (.int (nI 0)), some (.int it), some (.int (nI k)), none, none, none, none] [] (n, I, J, R) 0 0) ∧ (¬ (nI k) < 0 → q_W L (d + 7) 119 q_m119 Q 95 [some (.ref 192), some (.int (nI e)), some (.int (nI p)), some (.int (nI a)), some (.int (nI b)), some (.int (nI 1)), some (.int (nI 0)), some (.int it), some (.int (nI k)), none, none, none, none] [] (n, I, J, R) 0 0)
    refine ⟨fun z => absurd z (nI_pos (by omega)), fun _ => ?_⟩
    refine q_k 1 ?_
    show q_W L (d + 7) 119 q_m119 Q 96 [some (.ref 192), some (.int (nI e)), some (.int (nI p)), some (.int (nI a)), some (.int (nI b)), some (.int (nI 1)), some (.int (nI 0)), some (.int it), some (.int (nI k)), none, none, none, none] [.ref 192] (n, I, J, R) 0 0
    refine q_gR (b := 200) rfl rfl (⟨Nat.lt_of_lt_of_le (by decide) hK.1, rfl⟩) (hK.2.1 192 7 200 rfl) ?_
    refine q_k 4 ?_
    show q_W L (d + 7) 119 q_m119 Q 105 [some (.ref 192), some (.int (nI e)), some (.int (nI p)), some (.int (nI a)), some (.int (nI b)), some (.int (nI 1)), some (.int (nI 0)), some (.int it), some (.int (nI k)), none, none, none, none] [.int ((nI 10) * (nI b)), .int (nI 2), .ref 200] (n, I, J, R) 0 0
    refine q_top (w := nI (10 * b)) (pk_mul _ _) ?_
    refine q_k 2 ?_
    show q_W L (d + 7) 119 q_m119 Q 108 [some (.ref 192), some (.int (nI e)), some (.int (nI p)), some (.int (nI a)), some (.int (nI b)), some (.int (nI 1)), some (.int (nI 0)), some (.int it), some (.int (nI k)), none, none, none, none] [.int ((nI (10 * b)) + (nI k)), .int (nI 2), .ref 200] (n, I, J, R) 0 0
    refine q_top (w := nI (10 * b + k)) (nI_add _ _) ?_
    refine q_k 1 ?_
    show q_W L (d + 7) 119 q_m119 Q 109 [some (.ref 192), some (.int (nI e)), some (.int (nI p)), some (.int (nI a)), some (.int (nI b)), some (.int (nI 1)), some (.int (nI 0)), some (.int it), some (.int (nI k)), none, none, none, none] [.int ((nI 2) * (nI (10 * b + k))), .ref 200] (n, I, J, R) 0 0
    refine q_top (w := nI (2 * (10 * b + k))) (pk_mul _ _) ?_
    refine q_k 2 ?_
    show q_W L (d + 7) 119 q_m119 Q 111 [some (.ref 192), some (.int (nI e)), some (.int (nI p)), some (.int (nI a)), some (.int (nI b)), some (.int (nI 1)), some (.int (nI 0)), some (.int it), some (.int (nI k)), none, none, none, none] [.int ((nI (2 * (10 * b + k))) + (nI 1)), .ref 200] (n, I, J, R) 0 0
    refine q_top (w := nI (2 * (10 * b + k) + 1)) (nI_add _ _) ?_
    refine q_ial (m := 2 * (10 * b + k) + 1) rfl (⟨by decide, Nat.lt_of_lt_of_le (by decide) hK.1, rfl⟩) (by omega) (rfl) ?_
    refine q_k 2 ?_
    show q_W L (d + 7) 119 q_m119 Q 114 [some (.ref 192), some (.int (nI e)), some (.int (nI p)), some (.int (nI a)), some (.int (nI b)), some (.int (nI 1)), some (.int (nI 0)), some (.int it), some (.int (nI k)), none, none, none, none] [.ref 192, .long ((I 200 (2 * (10 * b + k) + 1)).toInt64)] (n, I, J, R) 0 0
    refine q_gR (b := 208) rfl rfl (⟨Nat.lt_of_lt_of_le (by decide) hK.1, rfl⟩) (hK.2.1 192 15 208 rfl) ?_
    refine q_k 3 ?_
    show q_W L (d + 7) 119 q_m119 Q 121 [some (.ref 192), some (.int (nI e)), some (.int (nI p)), some (.int (nI a)), some (.int (nI b)), some (.int (nI 1)), some (.int (nI 0)), some (.int it), some (.int (nI k)), none, none, none, none] [.int ((nI e) + (nI 6)), .ref 208, .long ((I 200 (2 * (10 * b + k) + 1)).toInt64)] (n, I, J, R) 0 0
    refine q_top (w := nI (e + 6)) (nI_add _ _) ?_
    refine q_lal (m := e + 6) rfl (⟨by decide, Nat.lt_of_lt_of_le (by decide) hK.1, rfl⟩) (by omega) (rfl) ?_
    refine q_k 1 ?_
    show q_W L (d + 7) 119 q_m119 Q 123 [some (.ref 192), some (.int (nI e)), some (.int (nI p)), some (.int (nI a)), some (.int (nI b)), some (.int (nI 1)), some (.int (nI 0)), some (.int it), some (.int (nI k)), none, none, none, none] [.int (lg_cmp ((I 200 (2 * (10 * b + k) + 1)).toInt64) (J 208 (e + 6)))] (n, I, J, R) 0 0
    refine q_one rfl rfl ?_
    show (¬ (lg_cmp ((I 200 (2 * (10 * b + k) + 1)).toInt64) (J 208 (e + 6))) = 0 → q_W L (d + 7) 119 q_m119 Q 131 [some (.ref 192), some (.int (nI e)), some (.int (nI p)), some (.int (nI a)), some (.int (nI b)), some (.int (nI 1)), some (.int (nI 0)), some (.int it), some (.int (nI k)), none, none, none, none] [] (n, I, J, R) 0 0) ∧ ((lg_cmp ((I 200 (2 * (10 * b + k) + 1)).toInt64) (J 208 (e + 6))) = 0 → q_W L (d + 7) 119 q_m119 Q 126 [some (.ref 192), some (.int (nI e)), some (.int (nI p)), some (.int (nI a)), some (.int (nI b)), some (.int (nI 1)), some (.int (nI 0)), some (.int it), some (.int (nI k)), none, none, none, none] [] (n, I, J, R) 0 0)
    refine ⟨fun h123 => ?_, fun h123 => ?_⟩
    · skip
      rw [lg_cmp_eq] at h123
      refine q_k 4 ?_
      show q_W L (d + 7) 119 q_m119 Q 90 [some (.ref 192), some (.int (nI e)), some (.int (nI p)), some (.int (nI a)), some (.int (nI b)), some (.int (nI 1)), some (.int (nI 0)), some (.int it), some (.int ((nI k) + -1)), none, none, none, none] [] (n, I, J, R) 0 0
      rw [show nI k + -1 = nI k - nI 1 from q_m1s _]
      have hk0 : f_hit I J e b k = false := decide_eq_false h123
      refine ih _ ⟨?_, by omega⟩
      rcases hP.1 with ⟨h1, h2⟩ | ⟨i, h1, h2, h3, h4, h5⟩
      · refine Or.inl ⟨h1, fun j hj1 hj2 => ?_⟩
        by_cases e : j = k
        · subst e; exact hk0
        · exact h2 j (by omega) hj2
      · refine Or.inr ⟨i, by omega, h2, h3, h4, fun j hj1 hj2 => ?_⟩
        by_cases e : j = k
        · subst e; exact hk0
        · exact h5 j (by omega) hj2
    · skip
      rw [lg_cmp_eq] at h123
      refine q_k 5 ?_
      show q_W L (d + 7) 119 q_m119 Q 90 [some (.ref 192), some (.int (nI e)), some (.int (nI p)), some (.int (nI a)), some (.int (nI b)), some (.int (nI 1)), some (.int (nI 0)), some (.int (nI k)), some (.int ((nI k) + -1)), none, none, none, none] [] (n, I, J, R) 0 0
      rw [show nI k + -1 = nI k - nI 1 from q_m1s _]
      refine ih _ ⟨Or.inr ⟨k, Nat.le_refl _, by omega, rfl, decide_eq_true h123, fun j h1 h2 => absurd h1 (by omega)⟩, by omega⟩
  · exact ⟨Or.inl ⟨rfl, fun j h1 h2 => absurd h1 (by omega)⟩, Nat.le_refl _⟩
set_option maxHeartbeats 1000000 in
theorem m_begun_2_01 {L d n : Nat} {I : q_I} {J : q_L} {R : q_R} {Q : q_Q} {e a b p m c x y : Nat} (hK : q_K0 n I R) (he : e + 12 ≤ 720) (hwf : q_wf I J e a b x y) (hp : p < 16) (hm : I 206 p = nI m) (hm3 : m ≤ 3) (hc : I 201 b = nI c) (hc10 : c ≤ 10)  (hnow : f_now I J e b = false) (hold : f_old I J e b = true) (hQ : (∀ g I', q_ms I' (f_begun g I J e a b p m c).2.1 → q_mf I' I → Q (some (.int (f_begun g I J e a b p m c).1)) (n, I', (f_begun g I J e a b p m c).2.2, R))) : q_W L (d + 7) 119 q_m119 Q 76 [some (.ref 192), some (.int (nI e)), some (.int (nI p)), some (.int (nI a)), some (.int (nI b)), some (.int (nI 0)), some (.int (nI 1)), none, none, none, none, none, none] [] (n, I, J, R) 0 0 := by
  have hb := hwf.hb
  have ha := hwf.ha
  refine q_k 3 ?_
  show q_W L (d + 7) 119 q_m119 Q 80 [some (.ref 192), some (.int (nI e)), some (.int (nI p)), some (.int (nI a)), some (.int (nI b)), some (.int (nI 0)), some (.int (nI 1)), some (.int (-1)), none, none, none, none, none] [.ref 192] (n, I, J, R) 0 0
  refine q_gR (b := 201) rfl rfl (⟨Nat.lt_of_lt_of_le (by decide) hK.1, rfl⟩) (hK.2.1 192 8 201 rfl) ?_
  refine q_k 1 ?_
  show q_W L (d + 7) 119 q_m119 Q 85 [some (.ref 192), some (.int (nI e)), some (.int (nI p)), some (.int (nI a)), some (.int (nI b)), some (.int (nI 0)), some (.int (nI 1)), some (.int (-1)), none, none, none, none, none] [.int (nI b), .ref 201] (n, I, J, R) 0 0
  refine q_ial (m := b) rfl (⟨by decide, Nat.lt_of_lt_of_le (by decide) hK.1, rfl⟩) (hwf.hb) (rfl) ?_
  refine q_top (w := nI c) (hc) ?_
  refine q_k 2 ?_
  show q_W L (d + 7) 119 q_m119 Q 88 [some (.ref 192), some (.int (nI e)), some (.int (nI p)), some (.int (nI a)), some (.int (nI b)), some (.int (nI 0)), some (.int (nI 1)), some (.int (-1)), none, none, none, none, none] [.int ((nI c) - (nI 1))] (n, I, J, R) 0 0
  refine q_top (w := nI c - nI 1) (rfl) ?_
  refine q_k 1 ?_
  show q_W L (d + 7) 119 q_m119 Q 90 [some (.ref 192), some (.int (nI e)), some (.int (nI p)), some (.int (nI a)), some (.int (nI b)), some (.int (nI 0)), some (.int (nI 1)), some (.int (-1)), some (.int (nI c - nI 1)), none, none, none, none] [] (n, I, J, R) 0 0
  refine q_loopD (σ := Int32) (fun k it => ((it = -1 ∧ ∀ j, k ≤ j → j < c → f_hit I J e b j = false) ∨ (∃ i, k ≤ i ∧ i < c ∧ it = nI i ∧ f_hit I J e b i = true ∧ ∀ j, k ≤ j → j < i → f_hit I J e b j = false)) ∧ k ≤ c) (fun k it => q_W L (d + 7) 119 q_m119 Q 90 [some (.ref 192), some (.int (nI e)), some (.int (nI p)), some (.int (nI a)), some (.int (nI b)), some (.int (nI 0)), some (.int (nI 1)), some (.int it), some (.int (nI k - nI 1)), none, none, none, none] [] (n, I, J, R) 0 0) ?_ ?_ c (-1) ?_
  · intro it0 hP
    show q_W L (d + 7) 119 q_m119 Q 90 [some (.ref 192), some (.int (nI e)), some (.int (nI p)), some (.int (nI a)), some (.int (nI b)), some (.int (nI 0)), some (.int (nI 1)), some (.int it0), some (.int (nI 0 - nI 1)), none, none, none, none] [] (n, I, J, R) 0 0
    rcases hP.1 with ⟨rfl, hno⟩ | ⟨it, -, hic, rfl, hyes, hbef⟩
    · skip
      have hitv : f_it I J e b c = c := g_first_u (Nat.le_refl _) (fun j hj => hno j (Nat.zero_le _) hj) (fun z => absurd z (Nat.lt_irrefl _))
      have hitc : ¬ f_it I J e b c < c := by rw [hitv]; exact Nat.lt_irrefl _
      show q_W L (d + 7) 119 q_m119 Q 90 [some (.ref 192), some (.int (nI e)), some (.int (nI p)), some (.int (nI a)), some (.int (nI b)), some (.int (nI 0)), some (.int (nI 1)), some (.int (-1)), some (.int (nI 0 - nI 1)), none, none, none, none] [] (n, I, J, R) 0 0
      refine q_k 1 ?_
      show q_W L (d + 7) 119 q_m119 Q 92 [some (.ref 192), some (.int (nI e)), some (.int (nI p)), some (.int (nI a)), some (.int (nI b)), some (.int (nI 0)), some (.int (nI 1)), some (.int (-1)), some (.int (nI 0 - nI 1)), none, none, none, none] [.int (nI 0 - nI 1)] (n, I, J, R) 0 0
      refine q_one rfl rfl ?_
      show ((nI 0 - nI 1) < 0 → q_W L (d + 7) 119 q_m119 Q 141 [some (.ref 192), some (.int (nI e)), some (.int (nI p)), some (.int (nI a)), some (.int (nI b)), some (.int (nI 0)), some (.int (nI 1)), some (.int (-1)), some (.int (nI 0 - nI 1)), none, none, none, none] [] (n, I, J, R) 0 0) ∧ (¬ (nI 0 - nI 1) < 0 → q_W L (d + 7) 119 q_m119 Q 95 [some (.ref 192), some (.int (nI e)), some (.int (nI p)), some (.int (nI a)), some (.int (nI b)), some (.int (nI 0)), some (.int (nI 1)), some (.int (-1)), some (.int (nI 0 - nI 1)), none, none, none, none] [] (n, I, J, R) 0 0)
      refine ⟨fun _ => ?_, fun z => absurd (by decide) z⟩
      refine q_k 1 ?_
      show q_W L (d + 7) 119 q_m119 Q 143 [some (.ref 192), some (.int (nI e)), some (.int (nI p)), some (.int (nI a)), some (.int (nI b)), some (.int (nI 0)), some (.int (nI 1)), some (.int (-1)), some (.int (nI 0 - nI 1)), none, none, none, none] [.int (nI 0)] (n, I, J, R) 0 0
      refine q_one rfl rfl ?_
      show (¬ (nI 0) = 0 → q_W L (d + 7) 119 q_m119 Q 151 [some (.ref 192), some (.int (nI e)), some (.int (nI p)), some (.int (nI a)), some (.int (nI b)), some (.int (nI 0)), some (.int (nI 1)), some (.int (-1)), some (.int (nI 0 - nI 1)), none, none, none, none] [] (n, I, J, R) 0 0) ∧ ((nI 0) = 0 → q_W L (d + 7) 119 q_m119 Q 146 [some (.ref 192), some (.int (nI e)), some (.int (nI p)), some (.int (nI a)), some (.int (nI b)), some (.int (nI 0)), some (.int (nI 1)), some (.int (-1)), some (.int (nI 0 - nI 1)), none, none, none, none] [] (n, I, J, R) 0 0)
      refine ⟨fun z => absurd (by decide) z, fun _ => ?_⟩
      refine q_k 1 ?_
      show q_W L (d + 7) 119 q_m119 Q 148 [some (.ref 192), some (.int (nI e)), some (.int (nI p)), some (.int (nI a)), some (.int (nI b)), some (.int (nI 0)), some (.int (nI 1)), some (.int (-1)), some (.int (nI 0 - nI 1)), none, none, none, none] [.int (nI 1)] (n, I, J, R) 0 0
      refine q_one rfl rfl ?_
      show ((nI 1) = 0 → q_W L (d + 7) 119 q_m119 Q 170 [some (.ref 192), some (.int (nI e)), some (.int (nI p)), some (.int (nI a)), some (.int (nI b)), some (.int (nI 0)), some (.int (nI 1)), some (.int (-1)), some (.int (nI 0 - nI 1)), none, none, none, none] [] (n, I, J, R) 0 0) ∧ (¬ (nI 1) = 0 → q_W L (d + 7) 119 q_m119 Q 151 [some (.ref 192), some (.int (nI e)), some (.int (nI p)), some (.int (nI a)), some (.int (nI b)), some (.int (nI 0)), some (.int (nI 1)), some (.int (-1)), some (.int (nI 0 - nI 1)), none, none, none, none] [] (n, I, J, R) 0 0)
      refine ⟨fun z => absurd z (by decide), fun _ => ?_⟩
      refine q_k 1 ?_
      show q_W L (d + 7) 119 q_m119 Q 153 [some (.ref 192), some (.int (nI e)), some (.int (nI p)), some (.int (nI a)), some (.int (nI b)), some (.int (nI 0)), some (.int (nI 1)), some (.int (-1)), some (.int (nI 0 - nI 1)), none, none, none, none] [.int (-1)] (n, I, J, R) 0 0
      refine q_one rfl rfl ?_
      show (0 ≤ (-1) → q_W L (d + 7) 119 q_m119 Q 172 [some (.ref 192), some (.int (nI e)), some (.int (nI p)), some (.int (nI a)), some (.int (nI b)), some (.int (nI 0)), some (.int (nI 1)), some (.int (-1)), some (.int (nI 0 - nI 1)), none, none, none, none] [] (n, I, J, R) 0 0) ∧ (¬ 0 ≤ (-1) → q_W L (d + 7) 119 q_m119 Q 156 [some (.ref 192), some (.int (nI e)), some (.int (nI p)), some (.int (nI a)), some (.int (nI b)), some (.int (nI 0)), some (.int (nI 1)), some (.int (-1)), some (.int (nI 0 - nI 1)), none, none, none, none] [] (n, I, J, R) 0 0)
      refine ⟨fun z => absurd z (by decide), fun _ => ?_⟩
      refine q_k 1 ?_
      show q_W L (d + 7) 119 q_m119 Q 157 [some (.ref 192), some (.int (nI e)), some (.int (nI p)), some (.int (nI a)), some (.int (nI b)), some (.int (nI 0)), some (.int (nI 1)), some (.int (-1)), some (.int (nI 0 - nI 1)), none, none, none, none] [.ref 192] (n, I, J, R) 0 0
      refine q_gR (b := 208) rfl rfl (⟨Nat.lt_of_lt_of_le (by decide) hK.1, rfl⟩) (hK.2.1 192 15 208 rfl) ?_
      refine q_k 3 ?_
      show q_W L (d + 7) 119 q_m119 Q 164 [some (.ref 192), some (.int (nI e)), some (.int (nI p)), some (.int (nI a)), some (.int (nI b)), some (.int (nI 0)), some (.int (nI 1)), some (.int (-1)), some (.int (nI 0 - nI 1)), none, none, none, none] [.int ((nI e) + (nI 6)), .ref 208] (n, I, J, R) 0 0
      refine q_top (w := nI (e + 6)) (nI_add _ _) ?_
      refine q_lal (m := e + 6) rfl (⟨by decide, Nat.lt_of_lt_of_le (by decide) hK.1, rfl⟩) (by omega) (rfl) ?_
      refine q_k 2 ?_
      show q_W L (d + 7) 119 q_m119 Q 167 [some (.ref 192), some (.int (nI e)), some (.int (nI p)), some (.int (nI a)), some (.int (nI b)), some (.int (nI 0)), some (.int (nI 1)), some (.int (-1)), some (.int (nI 0 - nI 1)), none, none, none, none] [.int (lg_cmp (J 208 (e + 6)) (lN 0))] (n, I, J, R) 0 0
      refine q_one rfl rfl ?_
      show ((lg_cmp (J 208 (e + 6)) (lN 0)) = 0 → q_W L (d + 7) 119 q_m119 Q 172 [some (.ref 192), some (.int (nI e)), some (.int (nI p)), some (.int (nI a)), some (.int (nI b)), some (.int (nI 0)), some (.int (nI 1)), some (.int (-1)), some (.int (nI 0 - nI 1)), none, none, none, none] [] (n, I, J, R) 0 0) ∧ (¬ (lg_cmp (J 208 (e + 6)) (lN 0)) = 0 → q_W L (d + 7) 119 q_m119 Q 170 [some (.ref 192), some (.int (nI e)), some (.int (nI p)), some (.int (nI a)), some (.int (nI b)), some (.int (nI 0)), some (.int (nI 1)), some (.int (-1)), some (.int (nI 0 - nI 1)), none, none, none, none] [] (n, I, J, R) 0 0)
      refine ⟨fun h167 => ?_, fun h167 => ?_⟩
      · skip
        rw [lg_cmp_eq] at h167
        have hF : ∀ g, f_begun g I J e a b p m c = f_beg2 g I J e a b p m c := fun g => by unfold f_begun; rw [if_neg (fun z => z.elim (fun z => absurd (hold.symm.trans z.2) (by decide)) (fun z => z.2 h167))]
        simp only [hF] at hQ
        exact m_begun_3_00 hK he hwf hp hm hm3 hc hc10 hwf.ha hwf.hb hnow hitc hQ
      · skip
        rw [lg_cmp_eq] at h167
        refine q_k 1 ?_
        show q_W L (d + 7) 119 q_m119 Q 171 [some (.ref 192), some (.int (nI e)), some (.int (nI p)), some (.int (nI a)), some (.int (nI b)), some (.int (nI 0)), some (.int (nI 1)), some (.int (-1)), some (.int (nI 0 - nI 1)), none, none, none, none] [.int (nI 3)] (n, I, J, R) 0 0
        refine q_one rfl rfl ?_
        show Q (some (.int (nI 3))) (n, I, J, R)
        have hF : ∀ g, f_begun g I J e a b p m c = (nI 3, I, J) := fun g => by unfold f_begun; rw [if_pos (Or.inr ⟨hitc, h167⟩)]
        have h := hQ (fun _ => nI 0) I
        rw [hF] at h
        exact h (q_ms_rf I) (q_mf_rf I)
    · skip
      have hitv : f_it I J e b c = it := g_first_u (Nat.le_of_lt hic) (fun j hj => hbef j (Nat.zero_le _) hj) (fun _ => hyes)
      show q_W L (d + 7) 119 q_m119 Q 90 [some (.ref 192), some (.int (nI e)), some (.int (nI p)), some (.int (nI a)), some (.int (nI b)), some (.int (nI 0)), some (.int (nI 1)), some (.int (nI it)), some (.int (nI 0 - nI 1)), none, none, none, none] [] (n, I, J, R) 0 0
      refine q_k 1 ?_
      show q_W L (d + 7) 119 q_m119 Q 92 [some (.ref 192), some (.int (nI e)), some (.int (nI p)), some (.int (nI a)), some (.int (nI b)), some (.int (nI 0)), some (.int (nI 1)), some (.int (nI it)), some (.int (nI 0 - nI 1)), none, none, none, none] [.int (nI 0 - nI 1)] (n, I, J, R) 0 0
      refine q_one rfl rfl ?_
      show ((nI 0 - nI 1) < 0 → q_W L (d + 7) 119 q_m119 Q 141 [some (.ref 192), some (.int (nI e)), some (.int (nI p)), some (.int (nI a)), some (.int (nI b)), some (.int (nI 0)), some (.int (nI 1)), some (.int (nI it)), some (.int (nI 0 - nI 1)), none, none, none, none] [] (n, I, J, R) 0 0) ∧ (¬ (nI 0 - nI 1) < 0 → q_W L (d + 7) 119 q_m119 Q 95 [some (.ref 192), some (.int (nI e)), some (.int (nI p)), some (.int (nI a)), some (.int (nI b)), some (.int (nI 0)), some (.int (nI 1)), some (.int (nI it)), some (.int (nI 0 - nI 1)), none, none, none, none] [] (n, I, J, R) 0 0)
      refine ⟨fun _ => ?_, fun z => absurd (by decide) z⟩
      refine q_k 1 ?_
      show q_W L (d + 7) 119 q_m119 Q 143 [some (.ref 192), some (.int (nI e)), some (.int (nI p)), some (.int (nI a)), some (.int (nI b)), some (.int (nI 0)), some (.int (nI 1)), some (.int (nI it)), some (.int (nI 0 - nI 1)), none, none, none, none] [.int (nI 0)] (n, I, J, R) 0 0
      refine q_one rfl rfl ?_
      show (¬ (nI 0) = 0 → q_W L (d + 7) 119 q_m119 Q 151 [some (.ref 192), some (.int (nI e)), some (.int (nI p)), some (.int (nI a)), some (.int (nI b)), some (.int (nI 0)), some (.int (nI 1)), some (.int (nI it)), some (.int (nI 0 - nI 1)), none, none, none, none] [] (n, I, J, R) 0 0) ∧ ((nI 0) = 0 → q_W L (d + 7) 119 q_m119 Q 146 [some (.ref 192), some (.int (nI e)), some (.int (nI p)), some (.int (nI a)), some (.int (nI b)), some (.int (nI 0)), some (.int (nI 1)), some (.int (nI it)), some (.int (nI 0 - nI 1)), none, none, none, none] [] (n, I, J, R) 0 0)
      refine ⟨fun z => absurd (by decide) z, fun _ => ?_⟩
      refine q_k 1 ?_
      show q_W L (d + 7) 119 q_m119 Q 148 [some (.ref 192), some (.int (nI e)), some (.int (nI p)), some (.int (nI a)), some (.int (nI b)), some (.int (nI 0)), some (.int (nI 1)), some (.int (nI it)), some (.int (nI 0 - nI 1)), none, none, none, none] [.int (nI 1)] (n, I, J, R) 0 0
      refine q_one rfl rfl ?_
      show ((nI 1) = 0 → q_W L (d + 7) 119 q_m119 Q 170 [some (.ref 192), some (.int (nI e)), some (.int (nI p)), some (.int (nI a)), some (.int (nI b)), some (.int (nI 0)), some (.int (nI 1)), some (.int (nI it)), some (.int (nI 0 - nI 1)), none, none, none, none] [] (n, I, J, R) 0 0) ∧ (¬ (nI 1) = 0 → q_W L (d + 7) 119 q_m119 Q 151 [some (.ref 192), some (.int (nI e)), some (.int (nI p)), some (.int (nI a)), some (.int (nI b)), some (.int (nI 0)), some (.int (nI 1)), some (.int (nI it)), some (.int (nI 0 - nI 1)), none, none, none, none] [] (n, I, J, R) 0 0)
      refine ⟨fun z => absurd z (by decide), fun _ => ?_⟩
      refine q_k 1 ?_
      show q_W L (d + 7) 119 q_m119 Q 153 [some (.ref 192), some (.int (nI e)), some (.int (nI p)), some (.int (nI a)), some (.int (nI b)), some (.int (nI 0)), some (.int (nI 1)), some (.int (nI it)), some (.int (nI 0 - nI 1)), none, none, none, none] [.int (nI it)] (n, I, J, R) 0 0
      refine q_one rfl rfl ?_
      show (0 ≤ (nI it) → q_W L (d + 7) 119 q_m119 Q 172 [some (.ref 192), some (.int (nI e)), some (.int (nI p)), some (.int (nI a)), some (.int (nI b)), some (.int (nI 0)), some (.int (nI 1)), some (.int (nI it)), some (.int (nI 0 - nI 1)), none, none, none, none] [] (n, I, J, R) 0 0) ∧ (¬ 0 ≤ (nI it) → q_W L (d + 7) 119 q_m119 Q 156 [some (.ref 192), some (.int (nI e)), some (.int (nI p)), some (.int (nI a)), some (.int (nI b)), some (.int (nI 0)), some (.int (nI 1)), some (.int (nI it)), some (.int (nI 0 - nI 1)), none, none, none, none] [] (n, I, J, R) 0 0)
      refine ⟨fun _ => ?_, fun z => absurd (nI_pos' (by omega)) z⟩
      have hF : ∀ g, f_begun g I J e a b p m c = f_beg2 g I J e a b p m c := fun g => by unfold f_begun; rw [if_neg (fun z => z.elim (fun z => absurd (hold.symm.trans z.2) (by decide)) (fun z => z.1 (by rw [hitv]; exact hic)))]
      simp only [hF] at hQ
      exact m_begun_3_01 hK he hwf hp hm hm3 hc hc10 hwf.ha hwf.hb hnow hitv hic hQ
  · intro k it hP ih
    have hkc := hP.2
    show q_W L (d + 7) 119 q_m119 Q 90 [some (.ref 192), some (.int (nI e)), some (.int (nI p)), some (.int (nI a)), some (.int (nI b)), some (.int (nI 0)), some (.int (nI 1)), some (.int it), some (.int (nI (k + 1) - nI 1)), none, none, none, none] [] (n, I, J, R) 0 0
    rw [show nI (k + 1) - nI 1 = nI k from q_sub rfl]
    show q_W L (d + 7) 119 q_m119 Q 90 [some (.ref 192), some (.int (nI e)), some (.int (nI p)), some (.int (nI a)), some (.int (nI b)), some (.int (nI 0)), some (.int (nI 1)), some (.int it), some (.int (nI k)), none, none, none, none] [] (n, I, J, R) 0 0
    refine q_k 1 ?_
    show q_W L (d + 7) 119 q_m119 Q 92 [some (.ref 192), some (.int (nI e)), some (.int (nI p)), some (.int (nI a)), some (.int (nI b)), some (.int (nI 0)), some (.int (nI 1)), some (.int it), some (.int (nI k)), none, none, none, none] [.int (nI k)] (n, I, J, R) 0 0
    refine q_one rfl rfl ?_
    show ((nI k) < 0 → q_W L (d + 7) 119 q_m119 Q 141 [some (.ref 192), some (.int (nI e)), some (.int (nI p)), some (.int (nI a)), some (.int (nI b)), some (.int (nI 0)), some (.int (nI 1)), some (.int it), some (.int (nI k)), none, none, none, none] [] (n, I, J, R) 0 0) ∧ (¬ (nI k) < 0 → q_W L (d + 7) 119 q_m119 Q 95 [some (.ref 192), some (.int (nI e)), some (.int (nI p)), some (.int (nI a)), some (.int (nI b)), some (.int (nI 0)), some (.int (nI 1)), some (.int it), some (.int (nI k)), none, none, none, none] [] (n, I, J, R) 0 0)
    refine ⟨fun z => absurd z (nI_pos (by omega)), fun _ => ?_⟩
    refine q_k 1 ?_
    show q_W L (d + 7) 119 q_m119 Q 96 [some (.ref 192), some (.int (nI e)), some (.int (nI p)), some (.int (nI a)), some (.int (nI b)), some (.int (nI 0)), some (.int (nI 1)), some (.int it), some (.int (nI k)), none, none, none, none] [.ref 192] (n, I, J, R) 0 0
    refine q_gR (b := 200) rfl rfl (⟨Nat.lt_of_lt_of_le (by decide) hK.1, rfl⟩) (hK.2.1 192 7 200 rfl) ?_
    refine q_k 4 ?_
    show q_W L (d + 7) 119 q_m119 Q 105 [some (.ref 192), some (.int (nI e)), some (.int (nI p)), some (.int (nI a)), some (.int (nI b)), some (.int (nI 0)), some (.int (nI 1)), some (.int it), some (.int (nI k)), none, none, none, none] [.int ((nI 10) * (nI b)), .int (nI 2), .ref 200] (n, I, J, R) 0 0
    refine q_top (w := nI (10 * b)) (pk_mul _ _) ?_
    refine q_k 2 ?_
    show q_W L (d + 7) 119 q_m119 Q 108 [some (.ref 192), some (.int (nI e)), some (.int (nI p)), some (.int (nI a)), some (.int (nI b)), some (.int (nI 0)), some (.int (nI 1)), some (.int it), some (.int (nI k)), none, none, none, none] [.int ((nI (10 * b)) + (nI k)), .int (nI 2), .ref 200] (n, I, J, R) 0 0
    refine q_top (w := nI (10 * b + k)) (nI_add _ _) ?_
    refine q_k 1 ?_
    show q_W L (d + 7) 119 q_m119 Q 109 [some (.ref 192), some (.int (nI e)), some (.int (nI p)), some (.int (nI a)), some (.int (nI b)), some (.int (nI 0)), some (.int (nI 1)), some (.int it), some (.int (nI k)), none, none, none, none] [.int ((nI 2) * (nI (10 * b + k))), .ref 200] (n, I, J, R) 0 0
    refine q_top (w := nI (2 * (10 * b + k))) (pk_mul _ _) ?_
    refine q_k 2 ?_
    show q_W L (d + 7) 119 q_m119 Q 111 [some (.ref 192), some (.int (nI e)), some (.int (nI p)), some (.int (nI a)), some (.int (nI b)), some (.int (nI 0)), some (.int (nI 1)), some (.int it), some (.int (nI k)), none, none, none, none] [.int ((nI (2 * (10 * b + k))) + (nI 1)), .ref 200] (n, I, J, R) 0 0
    refine q_top (w := nI (2 * (10 * b + k) + 1)) (nI_add _ _) ?_
    refine q_ial (m := 2 * (10 * b + k) + 1) rfl (⟨by decide, Nat.lt_of_lt_of_le (by decide) hK.1, rfl⟩) (by omega) (rfl) ?_
    refine q_k 2 ?_
    show q_W L (d + 7) 119 q_m119 Q 114 [some (.ref 192), some (.int (nI e)), some (.int (nI p)), some (.int (nI a)), some (.int (nI b)), some (.int (nI 0)), some (.int (nI 1)), some (.int it), some (.int (nI k)), none, none, none, none] [.ref 192, .long ((I 200 (2 * (10 * b + k) + 1)).toInt64)] (n, I, J, R) 0 0
    refine q_gR (b := 208) rfl rfl (⟨Nat.lt_of_lt_of_le (by decide) hK.1, rfl⟩) (hK.2.1 192 15 208 rfl) ?_
    refine q_k 3 ?_
    show q_W L (d + 7) 119 q_m119 Q 121 [some (.ref 192), some (.int (nI e)), some (.int (nI p)), some (.int (nI a)), some (.int (nI b)), some (.int (nI 0)), some (.int (nI 1)), some (.int it), some (.int (nI k)), none, none, none, none] [.int ((nI e) + (nI 6)), .ref 208, .long ((I 200 (2 * (10 * b + k) + 1)).toInt64)] (n, I, J, R) 0 0
    refine q_top (w := nI (e + 6)) (nI_add _ _) ?_
    refine q_lal (m := e + 6) rfl (⟨by decide, Nat.lt_of_lt_of_le (by decide) hK.1, rfl⟩) (by omega) (rfl) ?_
    refine q_k 1 ?_
    show q_W L (d + 7) 119 q_m119 Q 123 [some (.ref 192), some (.int (nI e)), some (.int (nI p)), some (.int (nI a)), some (.int (nI b)), some (.int (nI 0)), some (.int (nI 1)), some (.int it), some (.int (nI k)), none, none, none, none] [.int (lg_cmp ((I 200 (2 * (10 * b + k) + 1)).toInt64) (J 208 (e + 6)))] (n, I, J, R) 0 0
    refine q_one rfl rfl ?_
    show (¬ (lg_cmp ((I 200 (2 * (10 * b + k) + 1)).toInt64) (J 208 (e + 6))) = 0 → q_W L (d + 7) 119 q_m119 Q 131 [some (.ref 192), some (.int (nI e)), some (.int (nI p)), some (.int (nI a)), some (.int (nI b)), some (.int (nI 0)), some (.int (nI 1)), some (.int it), some (.int (nI k)), none, none, none, none] [] (n, I, J, R) 0 0) ∧ ((lg_cmp ((I 200 (2 * (10 * b + k) + 1)).toInt64) (J 208 (e + 6))) = 0 → q_W L (d + 7) 119 q_m119 Q 126 [some (.ref 192), some (.int (nI e)), some (.int (nI p)), some (.int (nI a)), some (.int (nI b)), some (.int (nI 0)), some (.int (nI 1)), some (.int it), some (.int (nI k)), none, none, none, none] [] (n, I, J, R) 0 0)
    refine ⟨fun h123 => ?_, fun h123 => ?_⟩
    · skip
      rw [lg_cmp_eq] at h123
      refine q_k 4 ?_
      show q_W L (d + 7) 119 q_m119 Q 90 [some (.ref 192), some (.int (nI e)), some (.int (nI p)), some (.int (nI a)), some (.int (nI b)), some (.int (nI 0)), some (.int (nI 1)), some (.int it), some (.int ((nI k) + -1)), none, none, none, none] [] (n, I, J, R) 0 0
      rw [show nI k + -1 = nI k - nI 1 from q_m1s _]
      have hk0 : f_hit I J e b k = false := decide_eq_false h123
      refine ih _ ⟨?_, by omega⟩
      rcases hP.1 with ⟨h1, h2⟩ | ⟨i, h1, h2, h3, h4, h5⟩
      · refine Or.inl ⟨h1, fun j hj1 hj2 => ?_⟩
        by_cases e : j = k
        · subst e; exact hk0
        · exact h2 j (by omega) hj2
      · refine Or.inr ⟨i, by omega, h2, h3, h4, fun j hj1 hj2 => ?_⟩
        by_cases e : j = k
        · subst e; exact hk0
        · exact h5 j (by omega) hj2
    · skip
      rw [lg_cmp_eq] at h123
      refine q_k 5 ?_
      show q_W L (d + 7) 119 q_m119 Q 90 [some (.ref 192), some (.int (nI e)), some (.int (nI p)), some (.int (nI a)), some (.int (nI b)), some (.int (nI 0)), some (.int (nI 1)), some (.int (nI k)), some (.int ((nI k) + -1)), none, none, none, none] [] (n, I, J, R) 0 0
      rw [show nI k + -1 = nI k - nI 1 from q_m1s _]
      refine ih _ ⟨Or.inr ⟨k, Nat.le_refl _, by omega, rfl, decide_eq_true h123, fun j h1 h2 => absurd h1 (by omega)⟩, by omega⟩
  · exact ⟨Or.inl ⟨rfl, fun j h1 h2 => absurd h1 (by omega)⟩, Nat.le_refl _⟩
set_option maxHeartbeats 1000000 in
theorem m_begun_2_00 {L d n : Nat} {I : q_I} {J : q_L} {R : q_R} {Q : q_Q} {e a b p m c x y : Nat} (hK : q_K0 n I R) (he : e + 12 ≤ 720) (hwf : q_wf I J e a b x y) (hp : p < 16) (hm : I 206 p = nI m) (hm3 : m ≤ 3) (hc : I 201 b = nI c) (hc10 : c ≤ 10)  (hnow : f_now I J e b = false) (hold : f_old I J e b = false) (hQ : (∀ g I', q_ms I' (f_begun g I J e a b p m c).2.1 → q_mf I' I → Q (some (.int (f_begun g I J e a b p m c).1)) (n, I', (f_begun g I J e a b p m c).2.2, R))) : q_W L (d + 7) 119 q_m119 Q 76 [some (.ref 192), some (.int (nI e)), some (.int (nI p)), some (.int (nI a)), some (.int (nI b)), some (.int (nI 0)), some (.int (nI 0)), none, none, none, none, none, none] [] (n, I, J, R) 0 0 := by
  have hb := hwf.hb
  have ha := hwf.ha
  refine q_k 3 ?_
  show q_W L (d + 7) 119 q_m119 Q 80 [some (.ref 192), some (.int (nI e)), some (.int (nI p)), some (.int (nI a)), some (.int (nI b)), some (.int (nI 0)), some (.int (nI 0)), some (.int (-1)), none, none, none, none, none] [.ref 192] (n, I, J, R) 0 0
  refine q_gR (b := 201) rfl rfl (⟨Nat.lt_of_lt_of_le (by decide) hK.1, rfl⟩) (hK.2.1 192 8 201 rfl) ?_
  refine q_k 1 ?_
  show q_W L (d + 7) 119 q_m119 Q 85 [some (.ref 192), some (.int (nI e)), some (.int (nI p)), some (.int (nI a)), some (.int (nI b)), some (.int (nI 0)), some (.int (nI 0)), some (.int (-1)), none, none, none, none, none] [.int (nI b), .ref 201] (n, I, J, R) 0 0
  refine q_ial (m := b) rfl (⟨by decide, Nat.lt_of_lt_of_le (by decide) hK.1, rfl⟩) (hwf.hb) (rfl) ?_
  refine q_top (w := nI c) (hc) ?_
  refine q_k 2 ?_
  show q_W L (d + 7) 119 q_m119 Q 88 [some (.ref 192), some (.int (nI e)), some (.int (nI p)), some (.int (nI a)), some (.int (nI b)), some (.int (nI 0)), some (.int (nI 0)), some (.int (-1)), none, none, none, none, none] [.int ((nI c) - (nI 1))] (n, I, J, R) 0 0
  refine q_top (w := nI c - nI 1) (rfl) ?_
  refine q_k 1 ?_
  show q_W L (d + 7) 119 q_m119 Q 90 [some (.ref 192), some (.int (nI e)), some (.int (nI p)), some (.int (nI a)), some (.int (nI b)), some (.int (nI 0)), some (.int (nI 0)), some (.int (-1)), some (.int (nI c - nI 1)), none, none, none, none] [] (n, I, J, R) 0 0
  refine q_loopD (σ := Int32) (fun k it => ((it = -1 ∧ ∀ j, k ≤ j → j < c → f_hit I J e b j = false) ∨ (∃ i, k ≤ i ∧ i < c ∧ it = nI i ∧ f_hit I J e b i = true ∧ ∀ j, k ≤ j → j < i → f_hit I J e b j = false)) ∧ k ≤ c) (fun k it => q_W L (d + 7) 119 q_m119 Q 90 [some (.ref 192), some (.int (nI e)), some (.int (nI p)), some (.int (nI a)), some (.int (nI b)), some (.int (nI 0)), some (.int (nI 0)), some (.int it), some (.int (nI k - nI 1)), none, none, none, none] [] (n, I, J, R) 0 0) ?_ ?_ c (-1) ?_
  · intro it0 hP
    show q_W L (d + 7) 119 q_m119 Q 90 [some (.ref 192), some (.int (nI e)), some (.int (nI p)), some (.int (nI a)), some (.int (nI b)), some (.int (nI 0)), some (.int (nI 0)), some (.int it0), some (.int (nI 0 - nI 1)), none, none, none, none] [] (n, I, J, R) 0 0
    rcases hP.1 with ⟨rfl, hno⟩ | ⟨it, -, hic, rfl, hyes, hbef⟩
    · skip
      have hitv : f_it I J e b c = c := g_first_u (Nat.le_refl _) (fun j hj => hno j (Nat.zero_le _) hj) (fun z => absurd z (Nat.lt_irrefl _))
      have hitc : ¬ f_it I J e b c < c := by rw [hitv]; exact Nat.lt_irrefl _
      show q_W L (d + 7) 119 q_m119 Q 90 [some (.ref 192), some (.int (nI e)), some (.int (nI p)), some (.int (nI a)), some (.int (nI b)), some (.int (nI 0)), some (.int (nI 0)), some (.int (-1)), some (.int (nI 0 - nI 1)), none, none, none, none] [] (n, I, J, R) 0 0
      refine q_k 1 ?_
      show q_W L (d + 7) 119 q_m119 Q 92 [some (.ref 192), some (.int (nI e)), some (.int (nI p)), some (.int (nI a)), some (.int (nI b)), some (.int (nI 0)), some (.int (nI 0)), some (.int (-1)), some (.int (nI 0 - nI 1)), none, none, none, none] [.int (nI 0 - nI 1)] (n, I, J, R) 0 0
      refine q_one rfl rfl ?_
      show ((nI 0 - nI 1) < 0 → q_W L (d + 7) 119 q_m119 Q 141 [some (.ref 192), some (.int (nI e)), some (.int (nI p)), some (.int (nI a)), some (.int (nI b)), some (.int (nI 0)), some (.int (nI 0)), some (.int (-1)), some (.int (nI 0 - nI 1)), none, none, none, none] [] (n, I, J, R) 0 0) ∧ (¬ (nI 0 - nI 1) < 0 → q_W L (d + 7) 119 q_m119 Q 95 [some (.ref 192), some (.int (nI e)), some (.int (nI p)), some (.int (nI a)), some (.int (nI b)), some (.int (nI 0)), some (.int (nI 0)), some (.int (-1)), some (.int (nI 0 - nI 1)), none, none, none, none] [] (n, I, J, R) 0 0)
      refine ⟨fun _ => ?_, fun z => absurd (by decide) z⟩
      refine q_k 1 ?_
      show q_W L (d + 7) 119 q_m119 Q 143 [some (.ref 192), some (.int (nI e)), some (.int (nI p)), some (.int (nI a)), some (.int (nI b)), some (.int (nI 0)), some (.int (nI 0)), some (.int (-1)), some (.int (nI 0 - nI 1)), none, none, none, none] [.int (nI 0)] (n, I, J, R) 0 0
      refine q_one rfl rfl ?_
      show (¬ (nI 0) = 0 → q_W L (d + 7) 119 q_m119 Q 151 [some (.ref 192), some (.int (nI e)), some (.int (nI p)), some (.int (nI a)), some (.int (nI b)), some (.int (nI 0)), some (.int (nI 0)), some (.int (-1)), some (.int (nI 0 - nI 1)), none, none, none, none] [] (n, I, J, R) 0 0) ∧ ((nI 0) = 0 → q_W L (d + 7) 119 q_m119 Q 146 [some (.ref 192), some (.int (nI e)), some (.int (nI p)), some (.int (nI a)), some (.int (nI b)), some (.int (nI 0)), some (.int (nI 0)), some (.int (-1)), some (.int (nI 0 - nI 1)), none, none, none, none] [] (n, I, J, R) 0 0)
      refine ⟨fun z => absurd (by decide) z, fun _ => ?_⟩
      refine q_k 1 ?_
      show q_W L (d + 7) 119 q_m119 Q 148 [some (.ref 192), some (.int (nI e)), some (.int (nI p)), some (.int (nI a)), some (.int (nI b)), some (.int (nI 0)), some (.int (nI 0)), some (.int (-1)), some (.int (nI 0 - nI 1)), none, none, none, none] [.int (nI 0)] (n, I, J, R) 0 0
      refine q_one rfl rfl ?_
      show ((nI 0) = 0 → q_W L (d + 7) 119 q_m119 Q 170 [some (.ref 192), some (.int (nI e)), some (.int (nI p)), some (.int (nI a)), some (.int (nI b)), some (.int (nI 0)), some (.int (nI 0)), some (.int (-1)), some (.int (nI 0 - nI 1)), none, none, none, none] [] (n, I, J, R) 0 0) ∧ (¬ (nI 0) = 0 → q_W L (d + 7) 119 q_m119 Q 151 [some (.ref 192), some (.int (nI e)), some (.int (nI p)), some (.int (nI a)), some (.int (nI b)), some (.int (nI 0)), some (.int (nI 0)), some (.int (-1)), some (.int (nI 0 - nI 1)), none, none, none, none] [] (n, I, J, R) 0 0)
      refine ⟨fun _ => ?_, fun z => absurd (by decide) z⟩
      refine q_k 1 ?_
      show q_W L (d + 7) 119 q_m119 Q 171 [some (.ref 192), some (.int (nI e)), some (.int (nI p)), some (.int (nI a)), some (.int (nI b)), some (.int (nI 0)), some (.int (nI 0)), some (.int (-1)), some (.int (nI 0 - nI 1)), none, none, none, none] [.int (nI 3)] (n, I, J, R) 0 0
      refine q_one rfl rfl ?_
      show Q (some (.int (nI 3))) (n, I, J, R)
      have hF : ∀ g, f_begun g I J e a b p m c = (nI 3, I, J) := fun g => by unfold f_begun; rw [if_pos (Or.inl ⟨hnow, hold⟩)]
      have h := hQ (fun _ => nI 0) I
      rw [hF] at h
      exact h (q_ms_rf I) (q_mf_rf I)
    · skip
      have hitv : f_it I J e b c = it := g_first_u (Nat.le_of_lt hic) (fun j hj => hbef j (Nat.zero_le _) hj) (fun _ => hyes)
      show q_W L (d + 7) 119 q_m119 Q 90 [some (.ref 192), some (.int (nI e)), some (.int (nI p)), some (.int (nI a)), some (.int (nI b)), some (.int (nI 0)), some (.int (nI 0)), some (.int (nI it)), some (.int (nI 0 - nI 1)), none, none, none, none] [] (n, I, J, R) 0 0
      refine q_k 1 ?_
      show q_W L (d + 7) 119 q_m119 Q 92 [some (.ref 192), some (.int (nI e)), some (.int (nI p)), some (.int (nI a)), some (.int (nI b)), some (.int (nI 0)), some (.int (nI 0)), some (.int (nI it)), some (.int (nI 0 - nI 1)), none, none, none, none] [.int (nI 0 - nI 1)] (n, I, J, R) 0 0
      refine q_one rfl rfl ?_
      show ((nI 0 - nI 1) < 0 → q_W L (d + 7) 119 q_m119 Q 141 [some (.ref 192), some (.int (nI e)), some (.int (nI p)), some (.int (nI a)), some (.int (nI b)), some (.int (nI 0)), some (.int (nI 0)), some (.int (nI it)), some (.int (nI 0 - nI 1)), none, none, none, none] [] (n, I, J, R) 0 0) ∧ (¬ (nI 0 - nI 1) < 0 → q_W L (d + 7) 119 q_m119 Q 95 [some (.ref 192), some (.int (nI e)), some (.int (nI p)), some (.int (nI a)), some (.int (nI b)), some (.int (nI 0)), some (.int (nI 0)), some (.int (nI it)), some (.int (nI 0 - nI 1)), none, none, none, none] [] (n, I, J, R) 0 0)
      refine ⟨fun _ => ?_, fun z => absurd (by decide) z⟩
      refine q_k 1 ?_
      show q_W L (d + 7) 119 q_m119 Q 143 [some (.ref 192), some (.int (nI e)), some (.int (nI p)), some (.int (nI a)), some (.int (nI b)), some (.int (nI 0)), some (.int (nI 0)), some (.int (nI it)), some (.int (nI 0 - nI 1)), none, none, none, none] [.int (nI 0)] (n, I, J, R) 0 0
      refine q_one rfl rfl ?_
      show (¬ (nI 0) = 0 → q_W L (d + 7) 119 q_m119 Q 151 [some (.ref 192), some (.int (nI e)), some (.int (nI p)), some (.int (nI a)), some (.int (nI b)), some (.int (nI 0)), some (.int (nI 0)), some (.int (nI it)), some (.int (nI 0 - nI 1)), none, none, none, none] [] (n, I, J, R) 0 0) ∧ ((nI 0) = 0 → q_W L (d + 7) 119 q_m119 Q 146 [some (.ref 192), some (.int (nI e)), some (.int (nI p)), some (.int (nI a)), some (.int (nI b)), some (.int (nI 0)), some (.int (nI 0)), some (.int (nI it)), some (.int (nI 0 - nI 1)), none, none, none, none] [] (n, I, J, R) 0 0)
      refine ⟨fun z => absurd (by decide) z, fun _ => ?_⟩
      refine q_k 1 ?_
      show q_W L (d + 7) 119 q_m119 Q 148 [some (.ref 192), some (.int (nI e)), some (.int (nI p)), some (.int (nI a)), some (.int (nI b)), some (.int (nI 0)), some (.int (nI 0)), some (.int (nI it)), some (.int (nI 0 - nI 1)), none, none, none, none] [.int (nI 0)] (n, I, J, R) 0 0
      refine q_one rfl rfl ?_
      show ((nI 0) = 0 → q_W L (d + 7) 119 q_m119 Q 170 [some (.ref 192), some (.int (nI e)), some (.int (nI p)), some (.int (nI a)), some (.int (nI b)), some (.int (nI 0)), some (.int (nI 0)), some (.int (nI it)), some (.int (nI 0 - nI 1)), none, none, none, none] [] (n, I, J, R) 0 0) ∧ (¬ (nI 0) = 0 → q_W L (d + 7) 119 q_m119 Q 151 [some (.ref 192), some (.int (nI e)), some (.int (nI p)), some (.int (nI a)), some (.int (nI b)), some (.int (nI 0)), some (.int (nI 0)), some (.int (nI it)), some (.int (nI 0 - nI 1)), none, none, none, none] [] (n, I, J, R) 0 0)
      refine ⟨fun _ => ?_, fun z => absurd (by decide) z⟩
      refine q_k 1 ?_
      show q_W L (d + 7) 119 q_m119 Q 171 [some (.ref 192), some (.int (nI e)), some (.int (nI p)), some (.int (nI a)), some (.int (nI b)), some (.int (nI 0)), some (.int (nI 0)), some (.int (nI it)), some (.int (nI 0 - nI 1)), none, none, none, none] [.int (nI 3)] (n, I, J, R) 0 0
      refine q_one rfl rfl ?_
      show Q (some (.int (nI 3))) (n, I, J, R)
      have hF : ∀ g, f_begun g I J e a b p m c = (nI 3, I, J) := fun g => by unfold f_begun; rw [if_pos (Or.inl ⟨hnow, hold⟩)]
      have h := hQ (fun _ => nI 0) I
      rw [hF] at h
      exact h (q_ms_rf I) (q_mf_rf I)
  · intro k it hP ih
    have hkc := hP.2
    show q_W L (d + 7) 119 q_m119 Q 90 [some (.ref 192), some (.int (nI e)), some (.int (nI p)), some (.int (nI a)), some (.int (nI b)), some (.int (nI 0)), some (.int (nI 0)), some (.int it), some (.int (nI (k + 1) - nI 1)), none, none, none, none] [] (n, I, J, R) 0 0
    rw [show nI (k + 1) - nI 1 = nI k from q_sub rfl]
    show q_W L (d + 7) 119 q_m119 Q 90 [some (.ref 192), some (.int (nI e)), some (.int (nI p)), some (.int (nI a)), some (.int (nI b)), some (.int (nI 0)), some (.int (nI 0)), some (.int it), some (.int (nI k)), none, none, none, none] [] (n, I, J, R) 0 0
    refine q_k 1 ?_
    show q_W L (d + 7) 119 q_m119 Q 92 [some (.ref 192), some (.int (nI e)), some (.int (nI p)), some (.int (nI a)), some (.int (nI b)), some (.int (nI 0)), some (.int (nI 0)), some (.int it), some (.int (nI k)), none, none, none, none] [.int (nI k)] (n, I, J, R) 0 0
    refine q_one rfl rfl ?_
    show ((nI k) < 0 → q_W L (d + 7) 119 q_m119 Q 141 [some (.ref 192), some (.int (nI e)), some (.int (nI p)), some (.int (nI a)), some (.int (nI b)), some (.int (nI 0)), some (.int (nI 0)), some (.int it), some (.int (nI k)), none, none, none, none] [] (n, I, J, R) 0 0) ∧ (¬ (nI k) < 0 → q_W L (d + 7) 119 q_m119 Q 95 [some (.ref 192), some (.int (nI e)), some (.int (nI p)), some (.int (nI a)), some (.int (nI b)), some (.int (nI 0)), some (.int (nI 0)), some (.int it), some (.int (nI k)), none, none, none, none] [] (n, I, J, R) 0 0)
    refine ⟨fun z => absurd z (nI_pos (by omega)), fun _ => ?_⟩
    refine q_k 1 ?_
    show q_W L (d + 7) 119 q_m119 Q 96 [some (.ref 192), some (.int (nI e)), some (.int (nI p)), some (.int (nI a)), some (.int (nI b)), some (.int (nI 0)), some (.int (nI 0)), some (.int it), some (.int (nI k)), none, none, none, none] [.ref 192] (n, I, J, R) 0 0
    refine q_gR (b := 200) rfl rfl (⟨Nat.lt_of_lt_of_le (by decide) hK.1, rfl⟩) (hK.2.1 192 7 200 rfl) ?_
    refine q_k 4 ?_
    show q_W L (d + 7) 119 q_m119 Q 105 [some (.ref 192), some (.int (nI e)), some (.int (nI p)), some (.int (nI a)), some (.int (nI b)), some (.int (nI 0)), some (.int (nI 0)), some (.int it), some (.int (nI k)), none, none, none, none] [.int ((nI 10) * (nI b)), .int (nI 2), .ref 200] (n, I, J, R) 0 0
    refine q_top (w := nI (10 * b)) (pk_mul _ _) ?_
    refine q_k 2 ?_
    show q_W L (d + 7) 119 q_m119 Q 108 [some (.ref 192), some (.int (nI e)), some (.int (nI p)), some (.int (nI a)), some (.int (nI b)), some (.int (nI 0)), some (.int (nI 0)), some (.int it), some (.int (nI k)), none, none, none, none] [.int ((nI (10 * b)) + (nI k)), .int (nI 2), .ref 200] (n, I, J, R) 0 0
    refine q_top (w := nI (10 * b + k)) (nI_add _ _) ?_
    refine q_k 1 ?_
    show q_W L (d + 7) 119 q_m119 Q 109 [some (.ref 192), some (.int (nI e)), some (.int (nI p)), some (.int (nI a)), some (.int (nI b)), some (.int (nI 0)), some (.int (nI 0)), some (.int it), some (.int (nI k)), none, none, none, none] [.int ((nI 2) * (nI (10 * b + k))), .ref 200] (n, I, J, R) 0 0
    refine q_top (w := nI (2 * (10 * b + k))) (pk_mul _ _) ?_
    refine q_k 2 ?_
    show q_W L (d + 7) 119 q_m119 Q 111 [some (.ref 192), some (.int (nI e)), some (.int (nI p)), some (.int (nI a)), some (.int (nI b)), some (.int (nI 0)), some (.int (nI 0)), some (.int it), some (.int (nI k)), none, none, none, none] [.int ((nI (2 * (10 * b + k))) + (nI 1)), .ref 200] (n, I, J, R) 0 0
    refine q_top (w := nI (2 * (10 * b + k) + 1)) (nI_add _ _) ?_
    refine q_ial (m := 2 * (10 * b + k) + 1) rfl (⟨by decide, Nat.lt_of_lt_of_le (by decide) hK.1, rfl⟩) (by omega) (rfl) ?_
    refine q_k 2 ?_
    show q_W L (d + 7) 119 q_m119 Q 114 [some (.ref 192), some (.int (nI e)), some (.int (nI p)), some (.int (nI a)), some (.int (nI b)), some (.int (nI 0)), some (.int (nI 0)), some (.int it), some (.int (nI k)), none, none, none, none] [.ref 192, .long ((I 200 (2 * (10 * b + k) + 1)).toInt64)] (n, I, J, R) 0 0
    refine q_gR (b := 208) rfl rfl (⟨Nat.lt_of_lt_of_le (by decide) hK.1, rfl⟩) (hK.2.1 192 15 208 rfl) ?_
    refine q_k 3 ?_
    show q_W L (d + 7) 119 q_m119 Q 121 [some (.ref 192), some (.int (nI e)), some (.int (nI p)), some (.int (nI a)), some (.int (nI b)), some (.int (nI 0)), some (.int (nI 0)), some (.int it), some (.int (nI k)), none, none, none, none] [.int ((nI e) + (nI 6)), .ref 208, .long ((I 200 (2 * (10 * b + k) + 1)).toInt64)] (n, I, J, R) 0 0
    refine q_top (w := nI (e + 6)) (nI_add _ _) ?_
    refine q_lal (m := e + 6) rfl (⟨by decide, Nat.lt_of_lt_of_le (by decide) hK.1, rfl⟩) (by omega) (rfl) ?_
    refine q_k 1 ?_
    show q_W L (d + 7) 119 q_m119 Q 123 [some (.ref 192), some (.int (nI e)), some (.int (nI p)), some (.int (nI a)), some (.int (nI b)), some (.int (nI 0)), some (.int (nI 0)), some (.int it), some (.int (nI k)), none, none, none, none] [.int (lg_cmp ((I 200 (2 * (10 * b + k) + 1)).toInt64) (J 208 (e + 6)))] (n, I, J, R) 0 0
    refine q_one rfl rfl ?_
    show (¬ (lg_cmp ((I 200 (2 * (10 * b + k) + 1)).toInt64) (J 208 (e + 6))) = 0 → q_W L (d + 7) 119 q_m119 Q 131 [some (.ref 192), some (.int (nI e)), some (.int (nI p)), some (.int (nI a)), some (.int (nI b)), some (.int (nI 0)), some (.int (nI 0)), some (.int it), some (.int (nI k)), none, none, none, none] [] (n, I, J, R) 0 0) ∧ ((lg_cmp ((I 200 (2 * (10 * b + k) + 1)).toInt64) (J 208 (e + 6))) = 0 → q_W L (d + 7) 119 q_m119 Q 126 [some (.ref 192), some (.int (nI e)), some (.int (nI p)), some (.int (nI a)), some (.int (nI b)), some (.int (nI 0)), some (.int (nI 0)), some (.int it), some (.int (nI k)), none, none, none, none] [] (n, I, J, R) 0 0)
    refine ⟨fun h123 => ?_, fun h123 => ?_⟩
    · skip
      rw [lg_cmp_eq] at h123
      refine q_k 4 ?_
      show q_W L (d + 7) 119 q_m119 Q 90 [some (.ref 192), some (.int (nI e)), some (.int (nI p)), some (.int (nI a)), some (.int (nI b)), some (.int (nI 0)), some (.int (nI 0)), some (.int it), some (.int ((nI k) + -1)), none, none, none, none] [] (n, I, J, R) 0 0
      rw [show nI k + -1 = nI k - nI 1 from q_m1s _]
      have hk0 : f_hit I J e b k = false := decide_eq_false h123
      refine ih _ ⟨?_, by omega⟩
      rcases hP.1 with ⟨h1, h2⟩ | ⟨i, h1, h2, h3, h4, h5⟩
      · refine Or.inl ⟨h1, fun j hj1 hj2 => ?_⟩
        by_cases e : j = k
        · subst e; exact hk0
        · exact h2 j (by omega) hj2
      · refine Or.inr ⟨i, by omega, h2, h3, h4, fun j hj1 hj2 => ?_⟩
        by_cases e : j = k
        · subst e; exact hk0
        · exact h5 j (by omega) hj2
    · skip
      rw [lg_cmp_eq] at h123
      refine q_k 5 ?_
      show q_W L (d + 7) 119 q_m119 Q 90 [some (.ref 192), some (.int (nI e)), some (.int (nI p)), some (.int (nI a)), some (.int (nI b)), some (.int (nI 0)), some (.int (nI 0)), some (.int (nI k)), some (.int ((nI k) + -1)), none, none, none, none] [] (n, I, J, R) 0 0
      rw [show nI k + -1 = nI k - nI 1 from q_m1s _]
      refine ih _ ⟨Or.inr ⟨k, Nat.le_refl _, by omega, rfl, decide_eq_true h123, fun j h1 h2 => absurd h1 (by omega)⟩, by omega⟩
  · exact ⟨Or.inl ⟨rfl, fun j h1 h2 => absurd h1 (by omega)⟩, Nat.le_refl _⟩
theorem m_begun {L d n : Nat} {I : q_I} {J : q_L} {R : q_R} {Q : q_Q} {e a b p m c x y : Nat} (hK : q_K0 n I R) (he : e + 12 ≤ 720) (hwf : q_wf I J e a b x y) (hp : p < 16) (hm : I 206 p = nI m) (hm3 : m ≤ 3) (hc : I 201 b = nI c) (hc10 : c ≤ 10)  (hQ : (∀ g I', q_ms I' (f_begun g I J e a b p m c).2.1 → q_mf I' I → Q (some (.int (f_begun g I J e a b p m c).1)) (n, I', (f_begun g I J e a b p m c).2.2, R))) : q_Ex L (d + 8) 119 [.ref 192, .int (nI e), .int (nI p), .int (nI a), .int (nI b)] (n, I, J, R) Q := by
  have hb := hwf.hb
  have ha := hwf.ha
  refine q_in (x := q_m119) rfl rfl ?_
  show q_W L (d + 7) 119 q_m119 Q 0 [some (.ref 192), some (.int (nI e)), some (.int (nI p)), some (.int (nI a)), some (.int (nI b)), none, none, none, none, none, none, none, none] [] (n, I, J, R) 0 0
  refine q_k 1 ?_
  show q_W L (d + 7) 119 q_m119 Q 1 [some (.ref 192), some (.int (nI e)), some (.int (nI p)), some (.int (nI a)), some (.int (nI b)), none, none, none, none, none, none, none, none] [.ref 192] (n, I, J, R) 0 0
  refine q_gR (b := 208) rfl rfl (⟨Nat.lt_of_lt_of_le (by decide) hK.1, rfl⟩) (hK.2.1 192 15 208 rfl) ?_
  refine q_k 3 ?_
  show q_W L (d + 7) 119 q_m119 Q 7 [some (.ref 192), some (.int (nI e)), some (.int (nI p)), some (.int (nI a)), some (.int (nI b)), none, none, none, none, none, none, none, none] [.int ((nI e) + (nI 5)), .ref 208] (n, I, J, R) 0 0
  refine q_top (w := nI (e + 5)) (nI_add _ _) ?_
  refine q_lal (m := e + 5) rfl (⟨by decide, Nat.lt_of_lt_of_le (by decide) hK.1, rfl⟩) (by omega) (rfl) ?_
  refine q_k 1 ?_
  show q_W L (d + 7) 119 q_m119 Q 9 [some (.ref 192), some (.int (nI e)), some (.int (nI p)), some (.int (nI a)), some (.int (nI b)), none, none, none, none, none, none, none, none] [.ref 192, .long (J 208 (e + 5))] (n, I, J, R) 0 0
  refine q_gR (b := 198) rfl rfl (⟨Nat.lt_of_lt_of_le (by decide) hK.1, rfl⟩) (hK.2.1 192 5 198 rfl) ?_
  refine q_k 3 ?_
  show q_W L (d + 7) 119 q_m119 Q 16 [some (.ref 192), some (.int (nI e)), some (.int (nI p)), some (.int (nI a)), some (.int (nI b)), none, none, none, none, none, none, none, none] [.int ((nI 2) * (nI b)), .ref 198, .long (J 208 (e + 5))] (n, I, J, R) 0 0
  refine q_top (w := nI (2 * b)) (pk_mul _ _) ?_
  refine q_k 2 ?_
  show q_W L (d + 7) 119 q_m119 Q 18 [some (.ref 192), some (.int (nI e)), some (.int (nI p)), some (.int (nI a)), some (.int (nI b)), none, none, none, none, none, none, none, none] [.int ((nI (2 * b)) + (nI 1)), .ref 198, .long (J 208 (e + 5))] (n, I, J, R) 0 0
  refine q_top (w := nI (2 * b + 1)) (nI_add _ _) ?_
  refine q_ial (m := 2 * b + 1) rfl (⟨by decide, Nat.lt_of_lt_of_le (by decide) hK.1, rfl⟩) (by omega) (rfl) ?_
  refine q_k 2 ?_
  show q_W L (d + 7) 119 q_m119 Q 21 [some (.ref 192), some (.int (nI e)), some (.int (nI p)), some (.int (nI a)), some (.int (nI b)), none, none, none, none, none, none, none, none] [.int (lg_cmp (J 208 (e + 5)) ((I 198 (2 * b + 1)).toInt64))] (n, I, J, R) 0 0
  refine q_one rfl rfl ?_
  show (¬ (lg_cmp (J 208 (e + 5)) ((I 198 (2 * b + 1)).toInt64)) = 0 → q_W L (d + 7) 119 q_m119 Q 28 [some (.ref 192), some (.int (nI e)), some (.int (nI p)), some (.int (nI a)), some (.int (nI b)), none, none, none, none, none, none, none, none] [] (n, I, J, R) 0 0) ∧ ((lg_cmp (J 208 (e + 5)) ((I 198 (2 * b + 1)).toInt64)) = 0 → q_W L (d + 7) 119 q_m119 Q 24 [some (.ref 192), some (.int (nI e)), some (.int (nI p)), some (.int (nI a)), some (.int (nI b)), none, none, none, none, none, none, none, none] [] (n, I, J, R) 0 0)
  refine ⟨fun h21 => ?_, fun h21 => ?_⟩
  · skip
    rw [lg_cmp_eq] at h21
    refine q_k 3 ?_
    show q_W L (d + 7) 119 q_m119 Q 32 [some (.ref 192), some (.int (nI e)), some (.int (nI p)), some (.int (nI a)), some (.int (nI b)), some (.int (nI 0)), none, none, none, none, none, none, none] [.ref 192] (n, I, J, R) 0 0
    refine q_gR (b := 199) rfl rfl (⟨Nat.lt_of_lt_of_le (by decide) hK.1, rfl⟩) (hK.2.1 192 6 199 rfl) ?_
    refine q_k 3 ?_
    show q_W L (d + 7) 119 q_m119 Q 39 [some (.ref 192), some (.int (nI e)), some (.int (nI p)), some (.int (nI a)), some (.int (nI b)), some (.int (nI 0)), none, none, none, none, none, none, none] [.int ((nI 2) * (nI b)), .ref 199] (n, I, J, R) 0 0
    refine q_top (w := nI (2 * b)) (pk_mul _ _) ?_
    refine q_k 2 ?_
    show q_W L (d + 7) 119 q_m119 Q 41 [some (.ref 192), some (.int (nI e)), some (.int (nI p)), some (.int (nI a)), some (.int (nI b)), some (.int (nI 0)), none, none, none, none, none, none, none] [.int ((nI (2 * b)) + (nI 1)), .ref 199] (n, I, J, R) 0 0
    refine q_top (w := nI (2 * b + 1)) (nI_add _ _) ?_
    refine q_ial (m := 2 * b + 1) rfl (⟨by decide, Nat.lt_of_lt_of_le (by decide) hK.1, rfl⟩) (by omega) (rfl) ?_
    refine q_one rfl rfl ?_
    show ((I 199 (2 * b + 1)) = 0 → q_W L (d + 7) 119 q_m119 Q 73 [some (.ref 192), some (.int (nI e)), some (.int (nI p)), some (.int (nI a)), some (.int (nI b)), some (.int (nI 0)), none, none, none, none, none, none, none] [] (n, I, J, R) 0 0) ∧ (¬ (I 199 (2 * b + 1)) = 0 → q_W L (d + 7) 119 q_m119 Q 45 [some (.ref 192), some (.int (nI e)), some (.int (nI p)), some (.int (nI a)), some (.int (nI b)), some (.int (nI 0)), none, none, none, none, none, none, none] [] (n, I, J, R) 0 0)
    refine ⟨fun h42 => ?_, fun h42 => ?_⟩
    · skip
      refine q_k 2 ?_
      show q_W L (d + 7) 119 q_m119 Q 76 [some (.ref 192), some (.int (nI e)), some (.int (nI p)), some (.int (nI a)), some (.int (nI b)), some (.int (nI 0)), some (.int (nI 0)), none, none, none, none, none, none] [] (n, I, J, R) 0 0
      exact m_begun_2_00 hK he hwf hp hm hm3 hc hc10 (decide_eq_false h21) (decide_eq_false (fun z => z.1 h42)) hQ
    · skip
      refine q_k 1 ?_
      show q_W L (d + 7) 119 q_m119 Q 46 [some (.ref 192), some (.int (nI e)), some (.int (nI p)), some (.int (nI a)), some (.int (nI b)), some (.int (nI 0)), none, none, none, none, none, none, none] [.ref 192] (n, I, J, R) 0 0
      refine q_gR (b := 208) rfl rfl (⟨Nat.lt_of_lt_of_le (by decide) hK.1, rfl⟩) (hK.2.1 192 15 208 rfl) ?_
      refine q_k 3 ?_
      show q_W L (d + 7) 119 q_m119 Q 52 [some (.ref 192), some (.int (nI e)), some (.int (nI p)), some (.int (nI a)), some (.int (nI b)), some (.int (nI 0)), none, none, none, none, none, none, none] [.int ((nI e) + (nI 5)), .ref 208] (n, I, J, R) 0 0
      refine q_top (w := nI (e + 5)) (nI_add _ _) ?_
      refine q_lal (m := e + 5) rfl (⟨by decide, Nat.lt_of_lt_of_le (by decide) hK.1, rfl⟩) (by omega) (rfl) ?_
      refine q_k 1 ?_
      show q_W L (d + 7) 119 q_m119 Q 54 [some (.ref 192), some (.int (nI e)), some (.int (nI p)), some (.int (nI a)), some (.int (nI b)), some (.int (nI 0)), none, none, none, none, none, none, none] [.ref 192, .long (J 208 (e + 5))] (n, I, J, R) 0 0
      refine q_gR (b := 199) rfl rfl (⟨Nat.lt_of_lt_of_le (by decide) hK.1, rfl⟩) (hK.2.1 192 6 199 rfl) ?_
      refine q_k 3 ?_
      show q_W L (d + 7) 119 q_m119 Q 61 [some (.ref 192), some (.int (nI e)), some (.int (nI p)), some (.int (nI a)), some (.int (nI b)), some (.int (nI 0)), none, none, none, none, none, none, none] [.int ((nI 2) * (nI b)), .ref 199, .long (J 208 (e + 5))] (n, I, J, R) 0 0
      refine q_top (w := nI (2 * b)) (pk_mul _ _) ?_
      refine q_k 2 ?_
      show q_W L (d + 7) 119 q_m119 Q 63 [some (.ref 192), some (.int (nI e)), some (.int (nI p)), some (.int (nI a)), some (.int (nI b)), some (.int (nI 0)), none, none, none, none, none, none, none] [.int ((nI (2 * b)) + (nI 1)), .ref 199, .long (J 208 (e + 5))] (n, I, J, R) 0 0
      refine q_top (w := nI (2 * b + 1)) (nI_add _ _) ?_
      refine q_ial (m := 2 * b + 1) rfl (⟨by decide, Nat.lt_of_lt_of_le (by decide) hK.1, rfl⟩) (by omega) (rfl) ?_
      refine q_k 2 ?_
      show q_W L (d + 7) 119 q_m119 Q 66 [some (.ref 192), some (.int (nI e)), some (.int (nI p)), some (.int (nI a)), some (.int (nI b)), some (.int (nI 0)), none, none, none, none, none, none, none] [.int (lg_cmp (J 208 (e + 5)) ((I 199 (2 * b + 1)).toInt64))] (n, I, J, R) 0 0
      refine q_one rfl rfl ?_
      show (¬ (lg_cmp (J 208 (e + 5)) ((I 199 (2 * b + 1)).toInt64)) = 0 → q_W L (d + 7) 119 q_m119 Q 73 [some (.ref 192), some (.int (nI e)), some (.int (nI p)), some (.int (nI a)), some (.int (nI b)), some (.int (nI 0)), none, none, none, none, none, none, none] [] (n, I, J, R) 0 0) ∧ ((lg_cmp (J 208 (e + 5)) ((I 199 (2 * b + 1)).toInt64)) = 0 → q_W L (d + 7) 119 q_m119 Q 69 [some (.ref 192), some (.int (nI e)), some (.int (nI p)), some (.int (nI a)), some (.int (nI b)), some (.int (nI 0)), none, none, none, none, none, none, none] [] (n, I, J, R) 0 0)
      refine ⟨fun h66 => ?_, fun h66 => ?_⟩
      · skip
        rw [lg_cmp_eq] at h66
        refine q_k 2 ?_
        show q_W L (d + 7) 119 q_m119 Q 76 [some (.ref 192), some (.int (nI e)), some (.int (nI p)), some (.int (nI a)), some (.int (nI b)), some (.int (nI 0)), some (.int (nI 0)), none, none, none, none, none, none] [] (n, I, J, R) 0 0
        exact m_begun_2_00 hK he hwf hp hm hm3 hc hc10 (decide_eq_false h21) (decide_eq_false (fun z => h66 z.2)) hQ
      · skip
        rw [lg_cmp_eq] at h66
        refine q_k 3 ?_
        show q_W L (d + 7) 119 q_m119 Q 76 [some (.ref 192), some (.int (nI e)), some (.int (nI p)), some (.int (nI a)), some (.int (nI b)), some (.int (nI 0)), some (.int (nI 1)), none, none, none, none, none, none] [] (n, I, J, R) 0 0
        exact m_begun_2_01 hK he hwf hp hm hm3 hc hc10 (decide_eq_false h21) (decide_eq_true ⟨h42, h66⟩) hQ
  · skip
    rw [lg_cmp_eq] at h21
    refine q_k 4 ?_
    show q_W L (d + 7) 119 q_m119 Q 32 [some (.ref 192), some (.int (nI e)), some (.int (nI p)), some (.int (nI a)), some (.int (nI b)), some (.int (nI 1)), none, none, none, none, none, none, none] [.ref 192] (n, I, J, R) 0 0
    refine q_gR (b := 199) rfl rfl (⟨Nat.lt_of_lt_of_le (by decide) hK.1, rfl⟩) (hK.2.1 192 6 199 rfl) ?_
    refine q_k 3 ?_
    show q_W L (d + 7) 119 q_m119 Q 39 [some (.ref 192), some (.int (nI e)), some (.int (nI p)), some (.int (nI a)), some (.int (nI b)), some (.int (nI 1)), none, none, none, none, none, none, none] [.int ((nI 2) * (nI b)), .ref 199] (n, I, J, R) 0 0
    refine q_top (w := nI (2 * b)) (pk_mul _ _) ?_
    refine q_k 2 ?_
    show q_W L (d + 7) 119 q_m119 Q 41 [some (.ref 192), some (.int (nI e)), some (.int (nI p)), some (.int (nI a)), some (.int (nI b)), some (.int (nI 1)), none, none, none, none, none, none, none] [.int ((nI (2 * b)) + (nI 1)), .ref 199] (n, I, J, R) 0 0
    refine q_top (w := nI (2 * b + 1)) (nI_add _ _) ?_
    refine q_ial (m := 2 * b + 1) rfl (⟨by decide, Nat.lt_of_lt_of_le (by decide) hK.1, rfl⟩) (by omega) (rfl) ?_
    refine q_one rfl rfl ?_
    show ((I 199 (2 * b + 1)) = 0 → q_W L (d + 7) 119 q_m119 Q 73 [some (.ref 192), some (.int (nI e)), some (.int (nI p)), some (.int (nI a)), some (.int (nI b)), some (.int (nI 1)), none, none, none, none, none, none, none] [] (n, I, J, R) 0 0) ∧ (¬ (I 199 (2 * b + 1)) = 0 → q_W L (d + 7) 119 q_m119 Q 45 [some (.ref 192), some (.int (nI e)), some (.int (nI p)), some (.int (nI a)), some (.int (nI b)), some (.int (nI 1)), none, none, none, none, none, none, none] [] (n, I, J, R) 0 0)
    refine ⟨fun h42 => ?_, fun h42 => ?_⟩
    · skip
      refine q_k 2 ?_
      show q_W L (d + 7) 119 q_m119 Q 76 [some (.ref 192), some (.int (nI e)), some (.int (nI p)), some (.int (nI a)), some (.int (nI b)), some (.int (nI 1)), some (.int (nI 0)), none, none, none, none, none, none] [] (n, I, J, R) 0 0
      exact m_begun_2_10 hK he hwf hp hm hm3 hc hc10 (decide_eq_true h21) (decide_eq_false (fun z => z.1 h42)) hQ
    · skip
      refine q_k 1 ?_
      show q_W L (d + 7) 119 q_m119 Q 46 [some (.ref 192), some (.int (nI e)), some (.int (nI p)), some (.int (nI a)), some (.int (nI b)), some (.int (nI 1)), none, none, none, none, none, none, none] [.ref 192] (n, I, J, R) 0 0
      refine q_gR (b := 208) rfl rfl (⟨Nat.lt_of_lt_of_le (by decide) hK.1, rfl⟩) (hK.2.1 192 15 208 rfl) ?_
      refine q_k 3 ?_
      show q_W L (d + 7) 119 q_m119 Q 52 [some (.ref 192), some (.int (nI e)), some (.int (nI p)), some (.int (nI a)), some (.int (nI b)), some (.int (nI 1)), none, none, none, none, none, none, none] [.int ((nI e) + (nI 5)), .ref 208] (n, I, J, R) 0 0
      refine q_top (w := nI (e + 5)) (nI_add _ _) ?_
      refine q_lal (m := e + 5) rfl (⟨by decide, Nat.lt_of_lt_of_le (by decide) hK.1, rfl⟩) (by omega) (rfl) ?_
      refine q_k 1 ?_
      show q_W L (d + 7) 119 q_m119 Q 54 [some (.ref 192), some (.int (nI e)), some (.int (nI p)), some (.int (nI a)), some (.int (nI b)), some (.int (nI 1)), none, none, none, none, none, none, none] [.ref 192, .long (J 208 (e + 5))] (n, I, J, R) 0 0
      refine q_gR (b := 199) rfl rfl (⟨Nat.lt_of_lt_of_le (by decide) hK.1, rfl⟩) (hK.2.1 192 6 199 rfl) ?_
      refine q_k 3 ?_
      show q_W L (d + 7) 119 q_m119 Q 61 [some (.ref 192), some (.int (nI e)), some (.int (nI p)), some (.int (nI a)), some (.int (nI b)), some (.int (nI 1)), none, none, none, none, none, none, none] [.int ((nI 2) * (nI b)), .ref 199, .long (J 208 (e + 5))] (n, I, J, R) 0 0
      refine q_top (w := nI (2 * b)) (pk_mul _ _) ?_
      refine q_k 2 ?_
      show q_W L (d + 7) 119 q_m119 Q 63 [some (.ref 192), some (.int (nI e)), some (.int (nI p)), some (.int (nI a)), some (.int (nI b)), some (.int (nI 1)), none, none, none, none, none, none, none] [.int ((nI (2 * b)) + (nI 1)), .ref 199, .long (J 208 (e + 5))] (n, I, J, R) 0 0
      refine q_top (w := nI (2 * b + 1)) (nI_add _ _) ?_
      refine q_ial (m := 2 * b + 1) rfl (⟨by decide, Nat.lt_of_lt_of_le (by decide) hK.1, rfl⟩) (by omega) (rfl) ?_
      refine q_k 2 ?_
      show q_W L (d + 7) 119 q_m119 Q 66 [some (.ref 192), some (.int (nI e)), some (.int (nI p)), some (.int (nI a)), some (.int (nI b)), some (.int (nI 1)), none, none, none, none, none, none, none] [.int (lg_cmp (J 208 (e + 5)) ((I 199 (2 * b + 1)).toInt64))] (n, I, J, R) 0 0
      refine q_one rfl rfl ?_
      show (¬ (lg_cmp (J 208 (e + 5)) ((I 199 (2 * b + 1)).toInt64)) = 0 → q_W L (d + 7) 119 q_m119 Q 73 [some (.ref 192), some (.int (nI e)), some (.int (nI p)), some (.int (nI a)), some (.int (nI b)), some (.int (nI 1)), none, none, none, none, none, none, none] [] (n, I, J, R) 0 0) ∧ ((lg_cmp (J 208 (e + 5)) ((I 199 (2 * b + 1)).toInt64)) = 0 → q_W L (d + 7) 119 q_m119 Q 69 [some (.ref 192), some (.int (nI e)), some (.int (nI p)), some (.int (nI a)), some (.int (nI b)), some (.int (nI 1)), none, none, none, none, none, none, none] [] (n, I, J, R) 0 0)
      refine ⟨fun h66 => ?_, fun h66 => ?_⟩
      · skip
        rw [lg_cmp_eq] at h66
        refine q_k 2 ?_
        show q_W L (d + 7) 119 q_m119 Q 76 [some (.ref 192), some (.int (nI e)), some (.int (nI p)), some (.int (nI a)), some (.int (nI b)), some (.int (nI 1)), some (.int (nI 0)), none, none, none, none, none, none] [] (n, I, J, R) 0 0
        exact m_begun_2_10 hK he hwf hp hm hm3 hc hc10 (decide_eq_true h21) (decide_eq_false (fun z => h66 z.2)) hQ
      · skip
        rw [lg_cmp_eq] at h66
        refine q_k 3 ?_
        show q_W L (d + 7) 119 q_m119 Q 76 [some (.ref 192), some (.int (nI e)), some (.int (nI p)), some (.int (nI a)), some (.int (nI b)), some (.int (nI 1)), some (.int (nI 1)), none, none, none, none, none, none] [] (n, I, J, R) 0 0
        exact m_begun_2_11 hK he hwf hp hm hm3 hc hc10 (decide_eq_true h21) (decide_eq_true ⟨h42, h66⟩) hQ
set_option maxHeartbeats 2000000 in
theorem m_open {L d n : Nat} {I : q_I} {J : q_L} {R : q_R} {Q : q_Q} {v : Int32} {E : Nat} (hK : q_K0 n I R) (hE : I 192 16 = nI E) (hE6 : E ≤ 60) (hmn : ∀ p, p < 16 → ∃ m : Nat, m ≤ 3 ∧ I 206 p = nI m) (hon : ∀ b, b < 4 → ∃ c : Nat, c ≤ 10 ∧ I 201 b = nI c) (hri : ∀ p, p < 16 → ∀ m, I 206 p = nI m → m ≤ 3 → ∀ k, k < m → q_RI (f_blk I p k)) (hQ : (∀ G I', q_ms I' (f_open G v I J).2.1 → q_mf I' I → Q (some (.int (f_open G v I J).1)) (n, I', (f_open G v I J).2.2, R))) : q_Ex L (d + 9) 117 [.ref 192, .int v] (n, I, J, R) Q := by
  refine q_in (x := q_m117) rfl rfl ?_
  show q_W L (d + 8) 117 q_m117 Q 0 [some (.ref 192), some (.int v), none, none, none, none, none, none] [] (n, I, J, R) 0 0
  refine q_k 2 ?_
  show q_W L (d + 8) 117 q_m117 Q 2 [some (.ref 192), some (.int v), none, none, none, none, none, none] [.int v, .ref 192] (n, I, J, R) 0 0
  refine q_cv (as := [.int v]) (rs := []) rfl rfl rfl (⟨Nat.lt_of_lt_of_le (by decide) hK.1, rfl⟩) rfl rfl ?_
  refine m_there (hK) ?_
  show q_W L (d + 8) 117 q_m117 Q 5 [some (.ref 192), some (.int v), none, none, none, none, none, none] [.int (g_th (I 192 16) v)] (n, I, J, R) 0 0
  refine q_one rfl rfl ?_
  show (¬ (g_th (I 192 16) v) = 0 → q_W L (d + 8) 117 q_m117 Q 10 [some (.ref 192), some (.int v), none, none, none, none, none, none] [] (n, I, J, R) 0 0) ∧ ((g_th (I 192 16) v) = 0 → q_W L (d + 8) 117 q_m117 Q 8 [some (.ref 192), some (.int v), none, none, none, none, none, none] [] (n, I, J, R) 0 0)
  refine ⟨fun h5 => ?_, fun h5 => ?_⟩
  · skip
    obtain ⟨i, hi, rfl⟩ := g_th_1 hE hE6 h5
    refine q_k 3 ?_
    show q_W L (d + 8) 117 q_m117 Q 14 [some (.ref 192), some (.int (nI i)), none, none, none, none, none, none] [.int ((nI 12) * (nI i))] (n, I, J, R) 0 0
    refine q_top (w := nI (12 * i)) (pk_mul _ _) ?_
    refine q_k 3 ?_
    show q_W L (d + 8) 117 q_m117 Q 17 [some (.ref 192), some (.int (nI i)), some (.int (nI (12 * i))), none, none, none, none, none] [.int (nI (12 * i)), .ref 192] (n, I, J, R) 0 0
    refine q_cv (as := [.int (nI (12 * i))]) (rs := []) rfl rfl rfl (⟨Nat.lt_of_lt_of_le (by decide) hK.1, rfl⟩) rfl rfl ?_
    refine m_malformed (hK) (by omega) ?_
    show q_W L (d + 8) 117 q_m117 Q 20 [some (.ref 192), some (.int (nI i)), some (.int (nI (12 * i))), none, none, none, none, none] [.int (g_mal I J (12 * i))] (n, I, J, R) 0 0
    refine q_one rfl rfl ?_
    show ((g_mal I J (12 * i)) = 0 → q_W L (d + 8) 117 q_m117 Q 25 [some (.ref 192), some (.int (nI i)), some (.int (nI (12 * i))), none, none, none, none, none] [] (n, I, J, R) 0 0) ∧ (¬ (g_mal I J (12 * i)) = 0 → q_W L (d + 8) 117 q_m117 Q 23 [some (.ref 192), some (.int (nI i)), some (.int (nI (12 * i))), none, none, none, none, none] [] (n, I, J, R) 0 0)
    refine ⟨fun h20 => ?_, fun h20 => ?_⟩
    · skip
      obtain ⟨a, b, x, y, hwf⟩ := g_mal_0 h20
      have ha := hwf.ha
      have hb := hwf.hb
      obtain ⟨m, hm3, hm⟩ := hmn (4 * b + a) (by omega)
      obtain ⟨c, hc10, hc⟩ := hon b hb
      simp only [f_open, if_neg h5, g_cl (show i < 10000 by omega), if_pos h20, hwf.fa, hwf.fb, lN_i, g_cl (show a < 10000 by omega), g_cl (show b < 10000 by omega), hm, hc, g_cl (show m < 10000 by omega), g_cl (show c < 10000 by omega)] at hQ
      refine q_k 1 ?_
      show q_W L (d + 8) 117 q_m117 Q 26 [some (.ref 192), some (.int (nI i)), some (.int (nI (12 * i))), none, none, none, none, none] [.ref 192] (n, I, J, R) 0 0
      refine q_gR (b := 208) rfl rfl (⟨Nat.lt_of_lt_of_le (by decide) hK.1, rfl⟩) (hK.2.1 192 15 208 rfl) ?_
      refine q_k 1 ?_
      show q_W L (d + 8) 117 q_m117 Q 30 [some (.ref 192), some (.int (nI i)), some (.int (nI (12 * i))), none, none, none, none, none] [.int (nI (12 * i)), .ref 208] (n, I, J, R) 0 0
      refine q_lal (m := 12 * i) rfl (⟨by decide, Nat.lt_of_lt_of_le (by decide) hK.1, rfl⟩) (by omega) (rfl) ?_
      refine q_k 1 ?_
      show q_W L (d + 8) 117 q_m117 Q 32 [some (.ref 192), some (.int (nI i)), some (.int (nI (12 * i))), none, none, none, none, none] [.int ((J 208 (12 * i)).toInt32)] (n, I, J, R) 0 0
      refine q_top (w := nI a) (by rw [hwf.fa]; exact lN_i _) ?_
      refine q_k 2 ?_
      show q_W L (d + 8) 117 q_m117 Q 34 [some (.ref 192), some (.int (nI i)), some (.int (nI (12 * i))), some (.int (nI a)), none, none, none, none] [.ref 192] (n, I, J, R) 0 0
      refine q_gR (b := 208) rfl rfl (⟨Nat.lt_of_lt_of_le (by decide) hK.1, rfl⟩) (hK.2.1 192 15 208 rfl) ?_
      refine q_k 3 ?_
      show q_W L (d + 8) 117 q_m117 Q 40 [some (.ref 192), some (.int (nI i)), some (.int (nI (12 * i))), some (.int (nI a)), none, none, none, none] [.int ((nI (12 * i)) + (nI 1)), .ref 208] (n, I, J, R) 0 0
      refine q_top (w := nI (12 * i + 1)) (nI_add _ _) ?_
      refine q_lal (m := 12 * i + 1) rfl (⟨by decide, Nat.lt_of_lt_of_le (by decide) hK.1, rfl⟩) (by omega) (rfl) ?_
      refine q_k 1 ?_
      show q_W L (d + 8) 117 q_m117 Q 42 [some (.ref 192), some (.int (nI i)), some (.int (nI (12 * i))), some (.int (nI a)), none, none, none, none] [.int ((J 208 (12 * i + 1)).toInt32)] (n, I, J, R) 0 0
      refine q_top (w := nI b) (by rw [hwf.fb]; exact lN_i _) ?_
      refine q_k 4 ?_
      show q_W L (d + 8) 117 q_m117 Q 48 [some (.ref 192), some (.int (nI i)), some (.int (nI (12 * i))), some (.int (nI a)), some (.int (nI b)), none, none, none] [.int ((nI 4) * (nI b))] (n, I, J, R) 0 0
      refine q_top (w := nI (4 * b)) (pk_mul _ _) ?_
      refine q_k 2 ?_
      show q_W L (d + 8) 117 q_m117 Q 50 [some (.ref 192), some (.int (nI i)), some (.int (nI (12 * i))), some (.int (nI a)), some (.int (nI b)), none, none, none] [.int ((nI (4 * b)) + (nI a))] (n, I, J, R) 0 0
      refine q_top (w := nI (4 * b + a)) (nI_add _ _) ?_
      refine q_k 2 ?_
      show q_W L (d + 8) 117 q_m117 Q 53 [some (.ref 192), some (.int (nI i)), some (.int (nI (12 * i))), some (.int (nI a)), some (.int (nI b)), some (.int (nI (4 * b + a))), none, none] [.ref 192] (n, I, J, R) 0 0
      refine q_gR (b := 208) rfl rfl (⟨Nat.lt_of_lt_of_le (by decide) hK.1, rfl⟩) (hK.2.1 192 15 208 rfl) ?_
      refine q_k 3 ?_
      show q_W L (d + 8) 117 q_m117 Q 59 [some (.ref 192), some (.int (nI i)), some (.int (nI (12 * i))), some (.int (nI a)), some (.int (nI b)), some (.int (nI (4 * b + a))), none, none] [.int ((nI (12 * i)) + (nI 2)), .ref 208] (n, I, J, R) 0 0
      refine q_top (w := nI (12 * i + 2)) (nI_add _ _) ?_
      refine q_lal (m := 12 * i + 2) rfl (⟨by decide, Nat.lt_of_lt_of_le (by decide) hK.1, rfl⟩) (by omega) (rfl) ?_
      refine q_k 2 ?_
      show q_W L (d + 8) 117 q_m117 Q 62 [some (.ref 192), some (.int (nI i)), some (.int (nI (12 * i))), some (.int (nI a)), some (.int (nI b)), some (.int (nI (4 * b + a))), none, none] [.int (lg_cmp (J 208 (12 * i + 2)) (lN 1))] (n, I, J, R) 0 0
      refine q_one rfl rfl ?_
      show (¬ (lg_cmp (J 208 (12 * i + 2)) (lN 1)) = 0 → q_W L (d + 8) 117 q_m117 Q 75 [some (.ref 192), some (.int (nI i)), some (.int (nI (12 * i))), some (.int (nI a)), some (.int (nI b)), some (.int (nI (4 * b + a))), none, none] [] (n, I, J, R) 0 0) ∧ ((lg_cmp (J 208 (12 * i + 2)) (lN 1)) = 0 → q_W L (d + 8) 117 q_m117 Q 65 [some (.ref 192), some (.int (nI i)), some (.int (nI (12 * i))), some (.int (nI a)), some (.int (nI b)), some (.int (nI (4 * b + a))), none, none] [] (n, I, J, R) 0 0)
      refine ⟨fun h62 => ?_, fun h62 => ?_⟩
      · skip
        rw [lg_cmp_eq] at h62
        simp only [f_op, if_neg h62] at hQ
        refine q_k 2 ?_
        show q_W L (d + 8) 117 q_m117 Q 78 [some (.ref 192), some (.int (nI i)), some (.int (nI (12 * i))), some (.int (nI a)), some (.int (nI b)), some (.int (nI (4 * b + a))), some (.int (nI 0)), none] [] (n, I, J, R) 0 0
        refine q_loop (σ := Unit) m (fun k _ => ∀ j, j < k → f_bhit I J (12 * i) (4 * b + a) j = false) (fun k _ => q_W L (d + 8) 117 q_m117 Q 78 [some (.ref 192), some (.int (nI i)), some (.int (nI (12 * i))), some (.int (nI a)), some (.int (nI b)), some (.int (nI (4 * b + a))), some (.int (nI k)), none] [] (n, I, J, R) 0 0) ?_ ?_ 0 () (Nat.zero_le _) ?_
        · intro _ hN
          show q_W L (d + 8) 117 q_m117 Q 78 [some (.ref 192), some (.int (nI i)), some (.int (nI (12 * i))), some (.int (nI a)), some (.int (nI b)), some (.int (nI (4 * b + a))), some (.int (nI m)), none] [] (n, I, J, R) 0 0
          have hfst : g_first (f_bhit I J (12 * i) (4 * b + a)) m = m := g_first_u (Nat.le_refl _) hN (fun z => absurd z (Nat.lt_irrefl _))
          simp only [hfst, if_neg (Nat.lt_irrefl _)] at hQ
          refine q_k 2 ?_
          show q_W L (d + 8) 117 q_m117 Q 81 [some (.ref 192), some (.int (nI i)), some (.int (nI (12 * i))), some (.int (nI a)), some (.int (nI b)), some (.int (nI (4 * b + a))), some (.int (nI m)), none] [.ref 192, .int (nI m)] (n, I, J, R) 0 0
          refine q_gR (b := 206) rfl rfl (⟨Nat.lt_of_lt_of_le (by decide) hK.1, rfl⟩) (hK.2.1 192 13 206 rfl) ?_
          refine q_k 1 ?_
          show q_W L (d + 8) 117 q_m117 Q 86 [some (.ref 192), some (.int (nI i)), some (.int (nI (12 * i))), some (.int (nI a)), some (.int (nI b)), some (.int (nI (4 * b + a))), some (.int (nI m)), none] [.int (nI (4 * b + a)), .ref 206, .int (nI m)] (n, I, J, R) 0 0
          refine q_ial (m := 4 * b + a) rfl (⟨by decide, Nat.lt_of_lt_of_le (by decide) hK.1, rfl⟩) (by omega) (rfl) ?_
          refine q_top (w := nI m) (hm) ?_
          refine q_one rfl rfl ?_
          show ((nI m) ≤ (nI m) → q_W L (d + 8) 117 q_m117 Q 158 [some (.ref 192), some (.int (nI i)), some (.int (nI (12 * i))), some (.int (nI a)), some (.int (nI b)), some (.int (nI (4 * b + a))), some (.int (nI m)), none] [] (n, I, J, R) 0 0) ∧ (¬ (nI m) ≤ (nI m) → q_W L (d + 8) 117 q_m117 Q 90 [some (.ref 192), some (.int (nI i)), some (.int (nI (12 * i))), some (.int (nI a)), some (.int (nI b)), some (.int (nI (4 * b + a))), some (.int (nI m)), none] [] (n, I, J, R) 0 0)
          refine ⟨fun _ => ?_, fun z => absurd (nI_le (Nat.le_refl _) (by omega)) z⟩
          refine q_k 5 ?_
          show q_W L (d + 8) 117 q_m117 Q 165 [some (.ref 192), some (.int (nI i)), some (.int (nI (12 * i))), some (.int (nI a)), some (.int (nI b)), some (.int (nI (4 * b + a))), some (.int (nI m)), none] [.int (nI b), .int (nI a), .int (nI (4 * b + a)), .int (nI (12 * i)), .ref 192] (n, I, J, R) 0 0
          refine q_cv (as := [.int (nI (12 * i)), .int (nI (4 * b + a)), .int (nI a), .int (nI b)]) (rs := []) rfl rfl rfl (⟨Nat.lt_of_lt_of_le (by decide) hK.1, rfl⟩) rfl rfl ?_
          refine m_begun hK (by omega) hwf (by omega) hm hm3 hc hc10 (fun g I1 h1 h2 => ?_)
          show q_W L (d + 8) 117 q_m117 Q 168 [some (.ref 192), some (.int (nI i)), some (.int (nI (12 * i))), some (.int (nI a)), some (.int (nI b)), some (.int (nI (4 * b + a))), some (.int (nI m)), none] [.int ((f_begun g I J (12 * i) a b (4 * b + a) m c).1)] (n, I1, (f_begun g I J (12 * i) a b (4 * b + a) m c).2.2, R) 0 0
          refine q_one rfl rfl ?_
          show Q (some (.int ((f_begun g I J (12 * i) a b (4 * b + a) m c).1))) (n, I1, (f_begun g I J (12 * i) a b (4 * b + a) m c).2.2, R)
          exact hQ (fun _ => g) I1 h1 h2
        · intro k _ hk hP ih
          show q_W L (d + 8) 117 q_m117 Q 78 [some (.ref 192), some (.int (nI i)), some (.int (nI (12 * i))), some (.int (nI a)), some (.int (nI b)), some (.int (nI (4 * b + a))), some (.int (nI k)), none] [] (n, I, J, R) 0 0
          refine q_k 2 ?_
          show q_W L (d + 8) 117 q_m117 Q 81 [some (.ref 192), some (.int (nI i)), some (.int (nI (12 * i))), some (.int (nI a)), some (.int (nI b)), some (.int (nI (4 * b + a))), some (.int (nI k)), none] [.ref 192, .int (nI k)] (n, I, J, R) 0 0
          refine q_gR (b := 206) rfl rfl (⟨Nat.lt_of_lt_of_le (by decide) hK.1, rfl⟩) (hK.2.1 192 13 206 rfl) ?_
          refine q_k 1 ?_
          show q_W L (d + 8) 117 q_m117 Q 86 [some (.ref 192), some (.int (nI i)), some (.int (nI (12 * i))), some (.int (nI a)), some (.int (nI b)), some (.int (nI (4 * b + a))), some (.int (nI k)), none] [.int (nI (4 * b + a)), .ref 206, .int (nI k)] (n, I, J, R) 0 0
          refine q_ial (m := 4 * b + a) rfl (⟨by decide, Nat.lt_of_lt_of_le (by decide) hK.1, rfl⟩) (by omega) (rfl) ?_
          refine q_top (w := nI m) (hm) ?_
          refine q_one rfl rfl ?_
          show ((nI m) ≤ (nI k) → q_W L (d + 8) 117 q_m117 Q 158 [some (.ref 192), some (.int (nI i)), some (.int (nI (12 * i))), some (.int (nI a)), some (.int (nI b)), some (.int (nI (4 * b + a))), some (.int (nI k)), none] [] (n, I, J, R) 0 0) ∧ (¬ (nI m) ≤ (nI k) → q_W L (d + 8) 117 q_m117 Q 90 [some (.ref 192), some (.int (nI i)), some (.int (nI (12 * i))), some (.int (nI a)), some (.int (nI b)), some (.int (nI (4 * b + a))), some (.int (nI k)), none] [] (n, I, J, R) 0 0)
          refine ⟨fun z => absurd z (nI_ge hk (by omega)), fun _ => ?_⟩
          refine q_k 1 ?_
          show q_W L (d + 8) 117 q_m117 Q 91 [some (.ref 192), some (.int (nI i)), some (.int (nI (12 * i))), some (.int (nI a)), some (.int (nI b)), some (.int (nI (4 * b + a))), some (.int (nI k)), none] [.ref 192] (n, I, J, R) 0 0
          refine q_gR (b := 205) rfl rfl (⟨Nat.lt_of_lt_of_le (by decide) hK.1, rfl⟩) (hK.2.1 192 12 205 rfl) ?_
          refine q_k 4 ?_
          show q_W L (d + 8) 117 q_m117 Q 101 [some (.ref 192), some (.int (nI i)), some (.int (nI (12 * i))), some (.int (nI a)), some (.int (nI b)), some (.int (nI (4 * b + a))), some (.int (nI k)), none] [.int ((nI 3) * (nI (4 * b + a))), .int (nI 158), .ref 205] (n, I, J, R) 0 0
          refine q_top (w := nI (3 * (4 * b + a))) (pk_mul _ _) ?_
          refine q_k 2 ?_
          show q_W L (d + 8) 117 q_m117 Q 104 [some (.ref 192), some (.int (nI i)), some (.int (nI (12 * i))), some (.int (nI a)), some (.int (nI b)), some (.int (nI (4 * b + a))), some (.int (nI k)), none] [.int ((nI (3 * (4 * b + a))) + (nI k)), .int (nI 158), .ref 205] (n, I, J, R) 0 0
          refine q_top (w := nI (3 * (4 * b + a) + k)) (nI_add _ _) ?_
          refine q_k 1 ?_
          show q_W L (d + 8) 117 q_m117 Q 105 [some (.ref 192), some (.int (nI i)), some (.int (nI (12 * i))), some (.int (nI a)), some (.int (nI b)), some (.int (nI (4 * b + a))), some (.int (nI k)), none] [.int ((nI 158) * (nI (3 * (4 * b + a) + k))), .ref 205] (n, I, J, R) 0 0
          refine q_top (w := nI (158 * (3 * (4 * b + a) + k))) (pk_mul _ _) ?_
          refine q_ial (m := 158 * (3 * (4 * b + a) + k)) rfl (⟨by decide, Nat.lt_of_lt_of_le (by decide) hK.1, rfl⟩) (by omega) (rfl) ?_
          refine q_k 2 ?_
          show q_W L (d + 8) 117 q_m117 Q 108 [some (.ref 192), some (.int (nI i)), some (.int (nI (12 * i))), some (.int (nI a)), some (.int (nI b)), some (.int (nI (4 * b + a))), some (.int (nI k)), none] [.ref 192, .long ((I 205 (158 * (3 * (4 * b + a) + k))).toInt64)] (n, I, J, R) 0 0
          refine q_gR (b := 208) rfl rfl (⟨Nat.lt_of_lt_of_le (by decide) hK.1, rfl⟩) (hK.2.1 192 15 208 rfl) ?_
          refine q_k 3 ?_
          show q_W L (d + 8) 117 q_m117 Q 114 [some (.ref 192), some (.int (nI i)), some (.int (nI (12 * i))), some (.int (nI a)), some (.int (nI b)), some (.int (nI (4 * b + a))), some (.int (nI k)), none] [.int ((nI (12 * i)) + (nI 4)), .ref 208, .long ((I 205 (158 * (3 * (4 * b + a) + k))).toInt64)] (n, I, J, R) 0 0
          refine q_top (w := nI (12 * i + 4)) (nI_add _ _) ?_
          refine q_lal (m := 12 * i + 4) rfl (⟨by decide, Nat.lt_of_lt_of_le (by decide) hK.1, rfl⟩) (by omega) (rfl) ?_
          refine q_k 1 ?_
          show q_W L (d + 8) 117 q_m117 Q 116 [some (.ref 192), some (.int (nI i)), some (.int (nI (12 * i))), some (.int (nI a)), some (.int (nI b)), some (.int (nI (4 * b + a))), some (.int (nI k)), none] [.int (lg_cmp ((I 205 (158 * (3 * (4 * b + a) + k))).toInt64) (J 208 (12 * i + 4)))] (n, I, J, R) 0 0
          refine q_one rfl rfl ?_
          show (¬ (lg_cmp ((I 205 (158 * (3 * (4 * b + a) + k))).toInt64) (J 208 (12 * i + 4))) = 0 → q_W L (d + 8) 117 q_m117 Q 152 [some (.ref 192), some (.int (nI i)), some (.int (nI (12 * i))), some (.int (nI a)), some (.int (nI b)), some (.int (nI (4 * b + a))), some (.int (nI k)), none] [] (n, I, J, R) 0 0) ∧ ((lg_cmp ((I 205 (158 * (3 * (4 * b + a) + k))).toInt64) (J 208 (12 * i + 4))) = 0 → q_W L (d + 8) 117 q_m117 Q 119 [some (.ref 192), some (.int (nI i)), some (.int (nI (12 * i))), some (.int (nI a)), some (.int (nI b)), some (.int (nI (4 * b + a))), some (.int (nI k)), none] [] (n, I, J, R) 0 0)
          refine ⟨fun h116 => ?_, fun h116 => ?_⟩
          · skip
            rw [lg_cmp_eq] at h116
            have hx : f_bhit I J (12 * i) (4 * b + a) k = false := decide_eq_false h116
            refine q_k 1 ?_
            show q_W L (d + 8) 117 q_m117 Q 155 [some (.ref 192), some (.int (nI i)), some (.int (nI (12 * i))), some (.int (nI a)), some (.int (nI b)), some (.int (nI (4 * b + a))), some (.int ((nI k) + nI 1)), none] [] (n, I, J, R) 0 0
            rw [show (nI k) + nI 1 = nI (k + 1) from nI_add _ _]
            refine q_k 1 ?_
            show q_W L (d + 8) 117 q_m117 Q 78 [some (.ref 192), some (.int (nI i)), some (.int (nI (12 * i))), some (.int (nI a)), some (.int (nI b)), some (.int (nI (4 * b + a))), some (.int (nI (k + 1))), none] [] (n, I, J, R) 0 0
            refine ih () (fun j hj => ?_)
            by_cases e : j = k
            · subst e; exact hx
            · exact hP j (by omega)
          · skip
            rw [lg_cmp_eq] at h116
            have hx : f_bhit I J (12 * i) (4 * b + a) k = true := decide_eq_true h116
            have hfst : g_first (f_bhit I J (12 * i) (4 * b + a)) m = k := g_first_u (by omega) hP (fun _ => hx)
            simp only [hfst, if_pos hk] at hQ
            refine q_k 3 ?_
            show q_W L (d + 8) 117 q_m117 Q 124 [some (.ref 192), some (.int (nI i)), some (.int (nI (12 * i))), some (.int (nI a)), some (.int (nI b)), some (.int (nI (4 * b + a))), some (.int (nI k)), none] [.int (nI k), .int (nI (4 * b + a)), .ref 192] (n, I, J, R) 0 0
            refine q_cv (as := [.int (nI (4 * b + a)), .int (nI k)]) (rs := []) rfl rfl rfl (⟨Nat.lt_of_lt_of_le (by decide) hK.1, rfl⟩) rfl rfl ?_
            refine m_load (hK) (by omega) (by omega) (fun I3 a3 b3 f3 => ?_)
            have hrow : I3 207 = f_row I (4 * b + a) k (I 207) := by
              funext i
              unfold f_row
              by_cases c1 : i < 158
              · rw [if_pos c1, a3 i c1]
              · rw [if_neg c1, b3 i (by omega)]
            have hmq : q_mq I3 I := fun a ha hb => by rw [f3 a (by omega)]
            obtain ⟨S, eS⟩ : ∃ z, z = f_try I J (12 * i) a b (f_row I (4 * b + a) k (I 207)) := ⟨_, rfl⟩
            have hT : f_try I3 J (12 * i) a b (I3 207) = S := by rw [eS, hrow, f_try_c hmq]
            obtain ⟨⟨c0, hc12, hc0⟩, w, hw2, hw⟩ := hri (4 * b + a) (by omega) m hm hm3 k hk
            show q_W L (d + 8) 117 q_m117 Q 127 [some (.ref 192), some (.int (nI i)), some (.int (nI (12 * i))), some (.int (nI a)), some (.int (nI b)), some (.int (nI (4 * b + a))), some (.int (nI k)), none] [] (n, I3, J, R) 0 0
            refine q_k 3 ?_
            show q_W L (d + 8) 117 q_m117 Q 131 [some (.ref 192), some (.int (nI i)), some (.int (nI (12 * i))), some (.int (nI a)), some (.int (nI b)), some (.int (nI (4 * b + a))), some (.int (nI k)), none] [.int (nI b), .int (nI (12 * i)), .ref 192] (n, I3, J, R) 0 0
            refine q_cv (as := [.int (nI (12 * i)), .int (nI b)]) (rs := []) rfl rfl rfl (⟨Nat.lt_of_lt_of_le (by decide) hK.1, rfl⟩) rfl rfl ?_
            refine m_tried (c := c0) (w := w) (q_K0_to hK (f3 0 (by decide)) (f3 1 (by decide))) (by omega) hwf.fa hwf.fb hwf.ha hwf.hb hwf.fm hwf.hm hwf.fp hwf.hp (by rw [hrow]; unfold f_row; rw [if_pos (by decide)]; exact hc0) hc12 (by rw [hrow]; unfold f_row; rw [if_pos (by decide)]; exact hw) hw2 (fun hz I4 r4 c4 f4 e4 => ?_) (fun hz I4 f4 e4 => ?_)
            · skip
              rw [hT] at hz r4 c4 ⊢
              show q_W L (d + 8) 117 q_m117 Q 134 [some (.ref 192), some (.int (nI i)), some (.int (nI (12 * i))), some (.int (nI a)), some (.int (nI b)), some (.int (nI (4 * b + a))), some (.int (nI k)), none] [.int (nI 0)] (n, I4, f_tx J (12 * i) S, R) 0 0
              refine q_k 2 ?_
              show q_W L (d + 8) 117 q_m117 Q 138 [some (.ref 192), some (.int (nI i)), some (.int (nI (12 * i))), some (.int (nI a)), some (.int (nI b)), some (.int (nI (4 * b + a))), some (.int (nI k)), some (.int (nI 0))] [.int (nI 0)] (n, I4, f_tx J (12 * i) S, R) 0 0
              refine q_one rfl rfl ?_
              show (¬ (nI 0) = 0 → q_W L (d + 8) 117 q_m117 Q 149 [some (.ref 192), some (.int (nI i)), some (.int (nI (12 * i))), some (.int (nI a)), some (.int (nI b)), some (.int (nI (4 * b + a))), some (.int (nI k)), some (.int (nI 0))] [] (n, I4, f_tx J (12 * i) S, R) 0 0) ∧ ((nI 0) = 0 → q_W L (d + 8) 117 q_m117 Q 141 [some (.ref 192), some (.int (nI i)), some (.int (nI (12 * i))), some (.int (nI a)), some (.int (nI b)), some (.int (nI (4 * b + a))), some (.int (nI k)), some (.int (nI 0))] [] (n, I4, f_tx J (12 * i) S, R) 0 0)
              refine ⟨fun z => absurd (rfl) z, fun _ => ?_⟩
              refine q_k 3 ?_
              show q_W L (d + 8) 117 q_m117 Q 146 [some (.ref 192), some (.int (nI i)), some (.int (nI (12 * i))), some (.int (nI a)), some (.int (nI b)), some (.int (nI (4 * b + a))), some (.int (nI k)), some (.int (nI 0))] [.int (nI k), .int (nI (4 * b + a)), .ref 192] (n, I4, f_tx J (12 * i) S, R) 0 0
              refine q_cv (as := [.int (nI (4 * b + a)), .int (nI k)]) (rs := []) rfl rfl rfl (⟨Nat.lt_of_lt_of_le (by decide) hK.1, rfl⟩) rfl rfl ?_
              refine m_save (q_K0_to hK (by rw [f4 0 (by decide) (by decide) (by decide) (by decide) (by decide) (by decide) (by decide) (by decide), f3 0 (by decide)]) (by rw [f4 1 (by decide) (by decide) (by decide) (by decide) (by decide) (by decide) (by decide) (by decide), f3 1 (by decide)])) (by omega) (by omega) (fun I5 h5 g5 f5 => ?_)
              show q_W L (d + 8) 117 q_m117 Q 149 [some (.ref 192), some (.int (nI i)), some (.int (nI (12 * i))), some (.int (nI a)), some (.int (nI b)), some (.int (nI (4 * b + a))), some (.int (nI k)), some (.int (nI 0))] [] (n, I5, f_tx J (12 * i) S, R) 0 0
              refine q_k 1 ?_
              show q_W L (d + 8) 117 q_m117 Q 151 [some (.ref 192), some (.int (nI i)), some (.int (nI (12 * i))), some (.int (nI a)), some (.int (nI b)), some (.int (nI (4 * b + a))), some (.int (nI k)), some (.int (nI 0))] [.int (nI 0)] (n, I5, f_tx J (12 * i) S, R) 0 0
              refine q_one rfl rfl ?_
              show Q (some (.int (nI 0))) (n, I5, f_tx J (12 * i) S, R)
              have hF : f_at (I 207) I J (12 * i) a b (4 * b + a) k = (nI 0, f_save (4 * b + a) k (va_up S.2.1 11 (nI 1)) (f_ok S b I), f_tx J (12 * i) S) := by unfold f_at; rw [← eS, if_pos hz]
              have h := hQ (fun _ => I 207) I5
              rw [hF] at h
              refine h ⟨fun a0 ha0 hb0 => ?_, ?_⟩ (fun x hx => ?_)
              · show I5 a0 = (f_save (4 * b + a) k (va_up S.2.1 11 (nI 1)) (f_ok S b I)) a0
                by_cases e5 : a0 = 205
                · subst e5
                  funext j
                  rw [f_save_205]
                  by_cases c1 : 158 * (3 * (4 * b + a) + k) ≤ j ∧ j < 158 * (3 * (4 * b + a) + k) + 158
                  · rw [if_pos c1, ← r4, ← h5 (j - 158 * (3 * (4 * b + a) + k)) (by omega)]
                    exact congrArg _ (by omega)
                  · rw [if_neg c1, g5 j (by omega), f4 205 (by decide) (by decide) (by decide) (by decide) (by decide) (by decide) (by decide) (by decide), f3 205 (by decide), f_ok_n (by decide)]
                · rw [f5 a0 e5, f_save_n e5]
                  by_cases e6 : a0 = 196
                  · subst e6; rw [c4, f_ok_196, f3 196 (by decide)]
                  · rw [f4 a0 (by omega) e6 (by omega) (by omega) (by omega) (by omega) (by omega) (by omega), f3 a0 (by omega), f_ok_n e6]
              · show I5 192 16 = (f_save (4 * b + a) k (va_up S.2.1 11 (nI 1)) (f_ok S b I)) 192 16
                rw [f5 192 (by decide), e4 16 (by decide) (by decide), f3 192 (by decide), f_save_n (by decide), f_ok_n (by decide)]
              · rw [f5 x (by omega), f4 x (by omega) (by omega) (by omega) (by omega) (by omega) (by omega) (by omega) (by omega), f3 x (by omega)]
            · skip
              rw [hT] at hz ⊢
              show q_W L (d + 8) 117 q_m117 Q 134 [some (.ref 192), some (.int (nI i)), some (.int (nI (12 * i))), some (.int (nI a)), some (.int (nI b)), some (.int (nI (4 * b + a))), some (.int (nI k)), none] [.int S.1] (n, I4, J, R) 0 0
              refine q_k 2 ?_
              show q_W L (d + 8) 117 q_m117 Q 138 [some (.ref 192), some (.int (nI i)), some (.int (nI (12 * i))), some (.int (nI a)), some (.int (nI b)), some (.int (nI (4 * b + a))), some (.int (nI k)), some (.int S.1)] [.int S.1] (n, I4, J, R) 0 0
              refine q_one rfl rfl ?_
              show (¬ S.1 = 0 → q_W L (d + 8) 117 q_m117 Q 149 [some (.ref 192), some (.int (nI i)), some (.int (nI (12 * i))), some (.int (nI a)), some (.int (nI b)), some (.int (nI (4 * b + a))), some (.int (nI k)), some (.int S.1)] [] (n, I4, J, R) 0 0) ∧ (S.1 = 0 → q_W L (d + 8) 117 q_m117 Q 141 [some (.ref 192), some (.int (nI i)), some (.int (nI (12 * i))), some (.int (nI a)), some (.int (nI b)), some (.int (nI (4 * b + a))), some (.int (nI k)), some (.int S.1)] [] (n, I4, J, R) 0 0)
              refine ⟨fun _ => ?_, fun z => absurd z (hz)⟩
              refine q_k 1 ?_
              show q_W L (d + 8) 117 q_m117 Q 151 [some (.ref 192), some (.int (nI i)), some (.int (nI (12 * i))), some (.int (nI a)), some (.int (nI b)), some (.int (nI (4 * b + a))), some (.int (nI k)), some (.int S.1)] [.int S.1] (n, I4, J, R) 0 0
              refine q_one rfl rfl ?_
              show Q (some (.int S.1)) (n, I4, J, R)
              have hF : f_at (I 207) I J (12 * i) a b (4 * b + a) k = (S.1, I, J) := by unfold f_at; rw [← eS, if_neg hz]
              have h := hQ (fun _ => I 207) I4
              rw [hF] at h
              exact h ⟨fun a ha hb => by rw [f4 a (by omega) (by omega) (by omega) (by omega) (by omega) (by omega) (by omega), f3 a (by omega)], by rw [e4 16 (by decide) (by decide), f3 192 (by decide)]⟩ (fun x hx => by rw [f4 x (by omega) (by omega) (by omega) (by omega) (by omega) (by omega) (by omega), f3 x (by omega)])
        · exact fun j hj => absurd hj (Nat.not_lt_zero _)
      · skip
        rw [lg_cmp_eq] at h62
        simp only [f_op, if_pos h62] at hQ
        refine q_k 4 ?_
        show q_W L (d + 8) 117 q_m117 Q 71 [some (.ref 192), some (.int (nI i)), some (.int (nI (12 * i))), some (.int (nI a)), some (.int (nI b)), some (.int (nI (4 * b + a))), none, none] [.int (nI b), .int (nI (4 * b + a)), .int (nI (12 * i)), .ref 192] (n, I, J, R) 0 0
        refine q_cv (as := [.int (nI (12 * i)), .int (nI (4 * b + a)), .int (nI b)]) (rs := []) rfl rfl rfl (⟨Nat.lt_of_lt_of_le (by decide) hK.1, rfl⟩) rfl rfl ?_
        refine m_further hK (by omega) hwf (by omega) hm hm3 (hri (4 * b + a) (by omega) m hm hm3) (fun G I1 h1 h2 => ?_)
        show q_W L (d + 8) 117 q_m117 Q 74 [some (.ref 192), some (.int (nI i)), some (.int (nI (12 * i))), some (.int (nI a)), some (.int (nI b)), some (.int (nI (4 * b + a))), none, none] [.int ((f_fur G I J (12 * i) a b (4 * b + a) m 0 (nI 6)).1)] (n, I1, (f_fur G I J (12 * i) a b (4 * b + a) m 0 (nI 6)).2.2, R) 0 0
        refine q_one rfl rfl ?_
        show Q (some (.int ((f_fur G I J (12 * i) a b (4 * b + a) m 0 (nI 6)).1))) (n, I1, (f_fur G I J (12 * i) a b (4 * b + a) m 0 (nI 6)).2.2, R)
        exact hQ G I1 h1 h2
    · skip
      refine q_k 1 ?_
      show q_W L (d + 8) 117 q_m117 Q 24 [some (.ref 192), some (.int (nI i)), some (.int (nI (12 * i))), none, none, none, none, none] [.int (nI 4)] (n, I, J, R) 0 0
      refine q_one rfl rfl ?_
      show Q (some (.int (nI 4))) (n, I, J, R)
      simp only [f_open, if_neg h5, g_cl (show i < 10000 by omega), if_neg h20] at hQ
      exact hQ (fun _ _ => nI 0) I (q_ms_rf I) (q_mf_rf I)
  · skip
    refine q_k 1 ?_
    show q_W L (d + 8) 117 q_m117 Q 9 [some (.ref 192), some (.int v), none, none, none, none, none, none] [.int (-1)] (n, I, J, R) 0 0
    refine q_one rfl rfl ?_
    show Q (some (.int (-1))) (n, I, J, R)
    simp only [f_open, if_pos h5] at hQ
    exact hQ (fun _ _ => nI 0) I (q_ms_rf I) (q_mf_rf I)
