/-! pure words -/
def g_rot (x : Int32) (k m : Nat) : Int32 := (x <<< (nI k &&& 31)) ||| (x.toUInt32 >>> ((nI m).toUInt32 &&& Int32.toUInt32 31)).toInt32
def g_q (a b c d : Int32) : Int32 × Int32 × Int32 × Int32 :=
  (a + b + g_rot (b ^^^ (c + g_rot (d ^^^ (a + b)) 16 16)) 12 20,
   g_rot (g_rot (b ^^^ (c + g_rot (d ^^^ (a + b)) 16 16)) 12 20 ^^^ (c + g_rot (d ^^^ (a + b)) 16 16 + g_rot (g_rot (d ^^^ (a + b)) 16 16 ^^^ (a + b + g_rot (b ^^^ (c + g_rot (d ^^^ (a + b)) 16 16)) 12 20)) 8 24)) 7 25,
   c + g_rot (d ^^^ (a + b)) 16 16 + g_rot (g_rot (d ^^^ (a + b)) 16 16 ^^^ (a + b + g_rot (b ^^^ (c + g_rot (d ^^^ (a + b)) 16 16)) 12 20)) 8 24,
   g_rot (g_rot (d ^^^ (a + b)) 16 16 ^^^ (a + b + g_rot (b ^^^ (c + g_rot (d ^^^ (a + b)) 16 16)) 12 20)) 8 24)
def g_turn (p q r s : Nat) (f : Nat → Int32) : Nat → Int32 := va_up (va_up (va_up (va_up f p (g_q (f p) (f q) (f r) (f s)).1) q (g_q (f p) (f q) (f r) (f s)).2.1) r (g_q (f p) (f q) (f r) (f s)).2.2.1) s (g_q (f p) (f q) (f r) (f s)).2.2.2
theorem g_upup {α : Type} (f : Nat → Nat → α) (a k m : Nat) (v w : α) : q_up (q_up f a k v) a m w = va_up f a (va_up (va_up (f a) k v) m w) := by
  funext b
  by_cases e : b = a
  · subst e; simp only [q_up, va_up_self]
  · simp only [q_up, va_up_ne _ _ e]
theorem g_rowup {α : Type} (f : Nat → Nat → α) (a m : Nat) (r : Nat → α) (w : α) : q_up (va_up f a r) a m w = va_up f a (va_up r m w) := by
  funext b
  by_cases e : b = a
  · subst e; simp only [q_up, va_up_self]
  · simp only [q_up, va_up_ne _ _ e]
theorem g_up4 {α : Type} (f : Nat → Nat → α) (a k1 k2 k3 k4 : Nat) (v1 v2 v3 v4 : α) : q_up (q_up (q_up (q_up f a k1 v1) a k2 v2) a k3 v3) a k4 v4 = va_up f a (va_up (va_up (va_up (va_up (f a) k1 v1) k2 v2) k3 v3) k4 v4) := by
  rw [g_upup f, g_rowup, g_rowup]
theorem c_Pair_become {L d n : Nat} {I : q_I} {J : q_L} {R : q_R} {Q : q_Q} {a b : Nat} (ha : q_ob n a 1) (hb : q_ob n b 1) (hQ : Q none (n, q_up (q_up I a 0 (I b 0)) a 1 (q_up I a 0 (I b 0) b 1), J, R)) : q_Ex L (d + 1) 7 [.ref a, .ref b] (n, I, J, R) Q := by
  refine q_in (x := q_m7) rfl rfl ?_
  show q_W L d 7 q_m7 Q 0 [some (.ref a), some (.ref b)] [] (n, I, J, R) 0 0
  refine q_k 2 ?_
  show q_W L d 7 q_m7 Q 2 [some (.ref a), some (.ref b)] [.ref b, .ref a] (n, I, J, R) 0 0
  refine q_gI rfl rfl (hb) ?_
  refine q_pI rfl rfl rfl (ha) ?_
  refine q_k 2 ?_
  show q_W L d 7 q_m7 Q 10 [some (.ref a), some (.ref b)] [.ref b, .ref a] (n, q_up I a 0 (I b 0), J, R) 0 0
  refine q_gI rfl rfl (hb) ?_
  refine q_pI rfl rfl rfl (ha) ?_
  refine q_one rfl rfl ?_
  show Q (none) (n, q_up (q_up I a 0 (I b 0)) a 1 ((q_up I a 0 (I b 0)) b 1), J, R)
  exact hQ
theorem c_Mixer_turn {L d n : Nat} {I : q_I} {J : q_L} {R : q_R} {Q : q_Q} {p q r s : Nat} (hn : 214 ≤ n) (hF : R 4 1 = some 6) (hp : p < 16) (hq : q < 16) (hr : r < 16) (hs : s < 16) (hQ : Q none (n, va_up I 6 (g_turn p q r s (I 6)), J, R)) : q_Ex L (d + 1) 5 [.ref 4, .int (nI p), .int (nI q), .int (nI r), .int (nI s)] (n, I, J, R) Q := by
  refine q_in (x := q_m5) rfl rfl ?_
  show q_W L d 5 q_m5 Q 0 [some (.ref 4), some (.int (nI p)), some (.int (nI q)), some (.int (nI r)), some (.int (nI s)), none, none, none, none] [] (n, I, J, R) 0 0
  refine q_k 1 ?_
  show q_W L d 5 q_m5 Q 1 [some (.ref 4), some (.int (nI p)), some (.int (nI q)), some (.int (nI r)), some (.int (nI s)), none, none, none, none] [.ref 4] (n, I, J, R) 0 0
  refine q_gR (b := 6) rfl rfl (⟨Nat.lt_of_lt_of_le (by decide) hn, rfl⟩) (hF) ?_
  refine q_k 1 ?_
  show q_W L d 5 q_m5 Q 5 [some (.ref 4), some (.int (nI p)), some (.int (nI q)), some (.int (nI r)), some (.int (nI s)), none, none, none, none] [.int (nI p), .ref 6] (n, I, J, R) 0 0
  refine q_ial (m := p) rfl (⟨by decide, Nat.lt_of_lt_of_le (by decide) hn, rfl⟩) (hp) (rfl) ?_
  refine q_k 2 ?_
  show q_W L d 5 q_m5 Q 9 [some (.ref 4), some (.int (nI p)), some (.int (nI q)), some (.int (nI r)), some (.int (nI s)), some (.int (I 6 p)), none, none, none] [.ref 4] (n, I, J, R) 0 0
  refine q_gR (b := 6) rfl rfl (⟨Nat.lt_of_lt_of_le (by decide) hn, rfl⟩) (hF) ?_
  refine q_k 1 ?_
  show q_W L d 5 q_m5 Q 13 [some (.ref 4), some (.int (nI p)), some (.int (nI q)), some (.int (nI r)), some (.int (nI s)), some (.int (I 6 p)), none, none, none] [.int (nI q), .ref 6] (n, I, J, R) 0 0
  refine q_ial (m := q) rfl (⟨by decide, Nat.lt_of_lt_of_le (by decide) hn, rfl⟩) (hq) (rfl) ?_
  refine q_k 2 ?_
  show q_W L d 5 q_m5 Q 17 [some (.ref 4), some (.int (nI p)), some (.int (nI q)), some (.int (nI r)), some (.int (nI s)), some (.int (I 6 p)), some (.int (I 6 q)), none, none] [.ref 4] (n, I, J, R) 0 0
  refine q_gR (b := 6) rfl rfl (⟨Nat.lt_of_lt_of_le (by decide) hn, rfl⟩) (hF) ?_
  refine q_k 1 ?_
  show q_W L d 5 q_m5 Q 21 [some (.ref 4), some (.int (nI p)), some (.int (nI q)), some (.int (nI r)), some (.int (nI s)), some (.int (I 6 p)), some (.int (I 6 q)), none, none] [.int (nI r), .ref 6] (n, I, J, R) 0 0
  refine q_ial (m := r) rfl (⟨by decide, Nat.lt_of_lt_of_le (by decide) hn, rfl⟩) (hr) (rfl) ?_
  refine q_k 2 ?_
  show q_W L d 5 q_m5 Q 25 [some (.ref 4), some (.int (nI p)), some (.int (nI q)), some (.int (nI r)), some (.int (nI s)), some (.int (I 6 p)), some (.int (I 6 q)), some (.int (I 6 r)), none] [.ref 4] (n, I, J, R) 0 0
  refine q_gR (b := 6) rfl rfl (⟨Nat.lt_of_lt_of_le (by decide) hn, rfl⟩) (hF) ?_
  refine q_k 1 ?_
  show q_W L d 5 q_m5 Q 30 [some (.ref 4), some (.int (nI p)), some (.int (nI q)), some (.int (nI r)), some (.int (nI s)), some (.int (I 6 p)), some (.int (I 6 q)), some (.int (I 6 r)), none] [.int (nI s), .ref 6] (n, I, J, R) 0 0
  refine q_ial (m := s) rfl (⟨by decide, Nat.lt_of_lt_of_le (by decide) hn, rfl⟩) (hs) (rfl) ?_
  refine q_k 5 ?_
  show q_W L d 5 q_m5 Q 40 [some (.ref 4), some (.int (nI p)), some (.int (nI q)), some (.int (nI r)), some (.int (nI s)), some (.int ((I 6 p) + (I 6 q))), some (.int (I 6 q)), some (.int (I 6 r)), some (.int (I 6 s))] [] (n, I, J, R) 0 0
  obtain ⟨a1, ea1⟩ : ∃ zz9, zz9 = (I 6 p) + (I 6 q) := ⟨_, rfl⟩
  rw [← ea1]
  refine q_k 12 ?_
  show q_W L d 5 q_m5 Q 60 [some (.ref 4), some (.int (nI p)), some (.int (nI q)), some (.int (nI r)), some (.int (nI s)), some (.int a1), some (.int (I 6 q)), some (.int (I 6 r)), some (.int ((((I 6 s) ^^^ a1) <<< ((nI 16) &&& 31)) ||| (((((I 6 s) ^^^ a1)).toUInt32 >>> (((nI 16)).toUInt32 &&& Int32.toUInt32 31)).toInt32)))] [] (n, I, J, R) 0 0
  obtain ⟨d1, ed1⟩ : ∃ zz9, zz9 = (((I 6 s) ^^^ a1) <<< ((nI 16) &&& 31)) ||| (((((I 6 s) ^^^ a1)).toUInt32 >>> (((nI 16)).toUInt32 &&& Int32.toUInt32 31)).toInt32) := ⟨_, rfl⟩
  rw [← ed1]
  refine q_k 4 ?_
  show q_W L d 5 q_m5 Q 67 [some (.ref 4), some (.int (nI p)), some (.int (nI q)), some (.int (nI r)), some (.int (nI s)), some (.int a1), some (.int (I 6 q)), some (.int ((I 6 r) + d1)), some (.int d1)] [] (n, I, J, R) 0 0
  obtain ⟨c1, ec1⟩ : ∃ zz9, zz9 = (I 6 r) + d1 := ⟨_, rfl⟩
  rw [← ec1]
  refine q_k 12 ?_
  show q_W L d 5 q_m5 Q 87 [some (.ref 4), some (.int (nI p)), some (.int (nI q)), some (.int (nI r)), some (.int (nI s)), some (.int a1), some (.int ((((I 6 q) ^^^ c1) <<< ((nI 12) &&& 31)) ||| (((((I 6 q) ^^^ c1)).toUInt32 >>> (((nI 20)).toUInt32 &&& Int32.toUInt32 31)).toInt32))), some (.int c1), some (.int d1)] [] (n, I, J, R) 0 0
  obtain ⟨b1, eb1⟩ : ∃ zz9, zz9 = (((I 6 q) ^^^ c1) <<< ((nI 12) &&& 31)) ||| (((((I 6 q) ^^^ c1)).toUInt32 >>> (((nI 20)).toUInt32 &&& Int32.toUInt32 31)).toInt32) := ⟨_, rfl⟩
  rw [← eb1]
  refine q_k 4 ?_
  show q_W L d 5 q_m5 Q 94 [some (.ref 4), some (.int (nI p)), some (.int (nI q)), some (.int (nI r)), some (.int (nI s)), some (.int (a1 + b1)), some (.int b1), some (.int c1), some (.int d1)] [] (n, I, J, R) 0 0
  obtain ⟨a2, ea2⟩ : ∃ zz9, zz9 = a1 + b1 := ⟨_, rfl⟩
  rw [← ea2]
  refine q_k 12 ?_
  show q_W L d 5 q_m5 Q 114 [some (.ref 4), some (.int (nI p)), some (.int (nI q)), some (.int (nI r)), some (.int (nI s)), some (.int a2), some (.int b1), some (.int c1), some (.int (((d1 ^^^ a2) <<< ((nI 8) &&& 31)) ||| ((((d1 ^^^ a2)).toUInt32 >>> (((nI 24)).toUInt32 &&& Int32.toUInt32 31)).toInt32)))] [] (n, I, J, R) 0 0
  obtain ⟨d2, ed2⟩ : ∃ zz9, zz9 = ((d1 ^^^ a2) <<< ((nI 8) &&& 31)) ||| ((((d1 ^^^ a2)).toUInt32 >>> (((nI 24)).toUInt32 &&& Int32.toUInt32 31)).toInt32) := ⟨_, rfl⟩
  rw [← ed2]
  refine q_k 4 ?_
  show q_W L d 5 q_m5 Q 121 [some (.ref 4), some (.int (nI p)), some (.int (nI q)), some (.int (nI r)), some (.int (nI s)), some (.int a2), some (.int b1), some (.int (c1 + d2)), some (.int d2)] [] (n, I, J, R) 0 0
  obtain ⟨c2, ec2⟩ : ∃ zz9, zz9 = c1 + d2 := ⟨_, rfl⟩
  rw [← ec2]
  refine q_k 12 ?_
  show q_W L d 5 q_m5 Q 141 [some (.ref 4), some (.int (nI p)), some (.int (nI q)), some (.int (nI r)), some (.int (nI s)), some (.int a2), some (.int (((b1 ^^^ c2) <<< ((nI 7) &&& 31)) ||| ((((b1 ^^^ c2)).toUInt32 >>> (((nI 25)).toUInt32 &&& Int32.toUInt32 31)).toInt32))), some (.int c2), some (.int d2)] [] (n, I, J, R) 0 0
  obtain ⟨b2, eb2⟩ : ∃ zz9, zz9 = ((b1 ^^^ c2) <<< ((nI 7) &&& 31)) ||| ((((b1 ^^^ c2)).toUInt32 >>> (((nI 25)).toUInt32 &&& Int32.toUInt32 31)).toInt32) := ⟨_, rfl⟩
  rw [← eb2]
  refine q_k 1 ?_
  show q_W L d 5 q_m5 Q 142 [some (.ref 4), some (.int (nI p)), some (.int (nI q)), some (.int (nI r)), some (.int (nI s)), some (.int a2), some (.int b2), some (.int c2), some (.int d2)] [.ref 4] (n, I, J, R) 0 0
  refine q_gR (b := 6) rfl rfl (⟨Nat.lt_of_lt_of_le (by decide) hn, rfl⟩) (hF) ?_
  refine q_k 2 ?_
  show q_W L d 5 q_m5 Q 148 [some (.ref 4), some (.int (nI p)), some (.int (nI q)), some (.int (nI r)), some (.int (nI s)), some (.int a2), some (.int b2), some (.int c2), some (.int d2)] [.int a2, .int (nI p), .ref 6] (n, I, J, R) 0 0
  refine q_ias (m := p) rfl (⟨by decide, Nat.lt_of_lt_of_le (by decide) hn, rfl⟩) (hp) (rfl) ?_
  refine q_k 1 ?_
  show q_W L d 5 q_m5 Q 150 [some (.ref 4), some (.int (nI p)), some (.int (nI q)), some (.int (nI r)), some (.int (nI s)), some (.int a2), some (.int b2), some (.int c2), some (.int d2)] [.ref 4] (n, q_up I 6 p a2, J, R) 0 0
  refine q_gR (b := 6) rfl rfl (⟨Nat.lt_of_lt_of_le (by decide) hn, rfl⟩) (hF) ?_
  refine q_k 2 ?_
  show q_W L d 5 q_m5 Q 156 [some (.ref 4), some (.int (nI p)), some (.int (nI q)), some (.int (nI r)), some (.int (nI s)), some (.int a2), some (.int b2), some (.int c2), some (.int d2)] [.int b2, .int (nI q), .ref 6] (n, q_up I 6 p a2, J, R) 0 0
  refine q_ias (m := q) rfl (⟨by decide, Nat.lt_of_lt_of_le (by decide) hn, rfl⟩) (hq) (rfl) ?_
  refine q_k 1 ?_
  show q_W L d 5 q_m5 Q 158 [some (.ref 4), some (.int (nI p)), some (.int (nI q)), some (.int (nI r)), some (.int (nI s)), some (.int a2), some (.int b2), some (.int c2), some (.int d2)] [.ref 4] (n, q_up (q_up I 6 p a2) 6 q b2, J, R) 0 0
  refine q_gR (b := 6) rfl rfl (⟨Nat.lt_of_lt_of_le (by decide) hn, rfl⟩) (hF) ?_
  refine q_k 2 ?_
  show q_W L d 5 q_m5 Q 164 [some (.ref 4), some (.int (nI p)), some (.int (nI q)), some (.int (nI r)), some (.int (nI s)), some (.int a2), some (.int b2), some (.int c2), some (.int d2)] [.int c2, .int (nI r), .ref 6] (n, q_up (q_up I 6 p a2) 6 q b2, J, R) 0 0
  refine q_ias (m := r) rfl (⟨by decide, Nat.lt_of_lt_of_le (by decide) hn, rfl⟩) (hr) (rfl) ?_
  refine q_k 1 ?_
  show q_W L d 5 q_m5 Q 166 [some (.ref 4), some (.int (nI p)), some (.int (nI q)), some (.int (nI r)), some (.int (nI s)), some (.int a2), some (.int b2), some (.int c2), some (.int d2)] [.ref 4] (n, q_up (q_up (q_up I 6 p a2) 6 q b2) 6 r c2, J, R) 0 0
  refine q_gR (b := 6) rfl rfl (⟨Nat.lt_of_lt_of_le (by decide) hn, rfl⟩) (hF) ?_
  refine q_k 2 ?_
  show q_W L d 5 q_m5 Q 173 [some (.ref 4), some (.int (nI p)), some (.int (nI q)), some (.int (nI r)), some (.int (nI s)), some (.int a2), some (.int b2), some (.int c2), some (.int d2)] [.int d2, .int (nI s), .ref 6] (n, q_up (q_up (q_up I 6 p a2) 6 q b2) 6 r c2, J, R) 0 0
  refine q_ias (m := s) rfl (⟨by decide, Nat.lt_of_lt_of_le (by decide) hn, rfl⟩) (hs) (rfl) ?_
  refine q_one rfl rfl ?_
  show Q (none) (n, q_up (q_up (q_up (q_up I 6 p a2) 6 q b2) 6 r c2) 6 s d2, J, R)
  rw [g_up4]
  subst eb2 ec2 ed2 ea2 eb1 ec1 ed1 ea1
  exact hQ
theorem c_raised_loop {L d n : Nat} {I : q_I} {J : q_L} {R : q_R} {Q : q_Q} {b e : Int32} (hQ : Q (some (.int (g_pow b e))) (n, I, J, R)) : ∀ j k : Nat, k + j = 31 → q_W L d 77 q_m77 Q 9 [some (.int b), some (.int e), some (.long ((g_pit b e k).1.toInt64)), none, some (.long ((g_pit b e k).2.toInt64)), none, some (.int (nI k))] [] (n, I, J, R) 0 0 := by
  intro j
  induction j with
  | zero =>
    intro k hk
    obtain rfl : k = 31 := by omega
    refine q_k 2 ?_
    show q_W L d 77 q_m77 Q 13 [some (.int b), some (.int e), some (.long ((g_pit b e 31).1.toInt64)), none, some (.long ((g_pit b e 31).2.toInt64)), none, some (.int (nI 31))] [.int (nI 31), .int (nI 31)] (n, I, J, R) 0 0
    refine q_one rfl rfl ?_
    show ((nI 31) ≤ (nI 31) → q_W L d 77 q_m77 Q 52 [some (.int b), some (.int e), some (.long ((g_pit b e 31).1.toInt64)), none, some (.long ((g_pit b e 31).2.toInt64)), none, some (.int (nI 31))] [] (n, I, J, R) 0 0) ∧ (¬ (nI 31) ≤ (nI 31) → q_W L d 77 q_m77 Q 16 [some (.int b), some (.int e), some (.long ((g_pit b e 31).1.toInt64)), none, some (.long ((g_pit b e 31).2.toInt64)), none, some (.int (nI 31))] [] (n, I, J, R) 0 0)
    refine ⟨fun _ => ?_, fun z => absurd (nI_le (Nat.le_refl 31) (by decide)) z⟩
    refine q_k 2 ?_
    show q_W L d 77 q_m77 Q 54 [some (.int b), some (.int e), some (.long ((g_pit b e 31).1.toInt64)), none, some (.long ((g_pit b e 31).2.toInt64)), none, some (.int (nI 31))] [.int (((g_pit b e 31).1.toInt64).toInt32)] (n, I, J, R) 0 0
    refine q_top (w := (g_pit b e 31).1) (Int32.toInt32_toInt64 _) ?_
    refine q_one rfl rfl ?_
    show Q (some (.int ((g_pit b e 31).1))) (n, I, J, R)
    exact hQ
  | succ j ih =>
    intro k hk
    refine q_k 2 ?_
    show q_W L d 77 q_m77 Q 13 [some (.int b), some (.int e), some (.long ((g_pit b e k).1.toInt64)), none, some (.long ((g_pit b e k).2.toInt64)), none, some (.int (nI k))] [.int (nI 31), .int (nI k)] (n, I, J, R) 0 0
    refine q_one rfl rfl ?_
    show ((nI 31) ≤ (nI k) → q_W L d 77 q_m77 Q 52 [some (.int b), some (.int e), some (.long ((g_pit b e k).1.toInt64)), none, some (.long ((g_pit b e k).2.toInt64)), none, some (.int (nI k))] [] (n, I, J, R) 0 0) ∧ (¬ (nI 31) ≤ (nI k) → q_W L d 77 q_m77 Q 16 [some (.int b), some (.int e), some (.long ((g_pit b e k).1.toInt64)), none, some (.long ((g_pit b e k).2.toInt64)), none, some (.int (nI k))] [] (n, I, J, R) 0 0)
    refine ⟨fun z => absurd z (nI_ge (by omega) (by decide)), fun _ => ?_⟩
    refine q_k 5 ?_
    show q_W L d 77 q_m77 Q 22 [some (.int b), some (.int e), some (.long ((g_pit b e k).1.toInt64)), none, some (.long ((g_pit b e k).2.toInt64)), none, some (.int (nI k))] [.int ((((e).toUInt32 >>> (((nI k)).toUInt32 &&& Int32.toUInt32 31)).toInt32) &&& (nI 1))] (n, I, J, R) 0 0
    refine q_top (w := g_bk e k) (g_bit e (by omega)) ?_
    refine q_k 1 ?_
    show q_W L d 77 q_m77 Q 23 [some (.int b), some (.int e), some (.long ((g_pit b e k).1.toInt64)), none, some (.long ((g_pit b e k).2.toInt64)), none, some (.int (nI k))] [.int (nI 1), .int (g_bk e k)] (n, I, J, R) 0 0
    refine q_one rfl rfl ?_
    show (¬ (g_bk e k) = (nI 1) → q_W L d 77 q_m77 Q 35 [some (.int b), some (.int e), some (.long ((g_pit b e k).1.toInt64)), none, some (.long ((g_pit b e k).2.toInt64)), none, some (.int (nI k))] [] (n, I, J, R) 0 0) ∧ ((g_bk e k) = (nI 1) → q_W L d 77 q_m77 Q 26 [some (.int b), some (.int e), some (.long ((g_pit b e k).1.toInt64)), none, some (.long ((g_pit b e k).2.toInt64)), none, some (.int (nI k))] [] (n, I, J, R) 0 0)
    refine ⟨fun h23 => ?_, fun h23 => ?_⟩
    · skip
      refine q_k 4 ?_
      show q_W L d 77 q_m77 Q 43 [some (.int b), some (.int e), some (.long ((g_pit b e k).1.toInt64)), none, some (.long ((g_pit b e k).2.toInt64)), none, some (.int (nI k))] [.long (lN 2147483647), .long (((g_pit b e k).2.toInt64) * ((g_pit b e k).2.toInt64))] (n, I, J, R) 0 0
      refine q_one rfl rfl ?_
      show ¬ (lN 2147483647) = 0 ∧ q_W L d 77 q_m77 Q 44 [some (.int b), some (.int e), some (.long ((g_pit b e k).1.toInt64)), none, some (.long ((g_pit b e k).2.toInt64)), none, some (.int (nI k))] [.long ((((g_pit b e k).2.toInt64) * ((g_pit b e k).2.toInt64)) - (((g_pit b e k).2.toInt64) * ((g_pit b e k).2.toInt64)) / (lN 2147483647) * (lN 2147483647))] (n, I, J, R) 0 0
      refine ⟨by decide +kernel, ?_⟩
      refine q_topL (w := (g_times (g_pit b e k).2 (g_pit b e k).2).toInt64) (g_timesL _ _) ?_
      refine q_k 2 ?_
      show q_W L d 77 q_m77 Q 49 [some (.int b), some (.int e), some (.long ((g_pit b e k).1.toInt64)), none, some (.long ((g_times (g_pit b e k).2 (g_pit b e k).2).toInt64)), none, some (.int ((nI k) + nI 1))] [] (n, I, J, R) 0 0
      rw [show (nI k) + nI 1 = nI (k + 1) from nI_add _ _]
      refine q_k 1 ?_
      show q_W L d 77 q_m77 Q 9 [some (.int b), some (.int e), some (.long ((g_pit b e k).1.toInt64)), none, some (.long ((g_times (g_pit b e k).2 (g_pit b e k).2).toInt64)), none, some (.int (nI (k + 1)))] [] (n, I, J, R) 0 0
      have hk2 := ih (k + 1) (by omega)
      simp only [g_pit, g_pst, if_neg h23] at hk2
      exact hk2
    · skip
      refine q_k 4 ?_
      show q_W L d 77 q_m77 Q 33 [some (.int b), some (.int e), some (.long ((g_pit b e k).1.toInt64)), none, some (.long ((g_pit b e k).2.toInt64)), none, some (.int (nI k))] [.long (lN 2147483647), .long (((g_pit b e k).1.toInt64) * ((g_pit b e k).2.toInt64))] (n, I, J, R) 0 0
      refine q_one rfl rfl ?_
      show ¬ (lN 2147483647) = 0 ∧ q_W L d 77 q_m77 Q 34 [some (.int b), some (.int e), some (.long ((g_pit b e k).1.toInt64)), none, some (.long ((g_pit b e k).2.toInt64)), none, some (.int (nI k))] [.long ((((g_pit b e k).1.toInt64) * ((g_pit b e k).2.toInt64)) - (((g_pit b e k).1.toInt64) * ((g_pit b e k).2.toInt64)) / (lN 2147483647) * (lN 2147483647))] (n, I, J, R) 0 0
      refine ⟨by decide +kernel, ?_⟩
      refine q_topL (w := (g_times (g_pit b e k).1 (g_pit b e k).2).toInt64) (g_timesL _ _) ?_
      refine q_k 5 ?_
      show q_W L d 77 q_m77 Q 43 [some (.int b), some (.int e), some (.long ((g_times (g_pit b e k).1 (g_pit b e k).2).toInt64)), none, some (.long ((g_pit b e k).2.toInt64)), none, some (.int (nI k))] [.long (lN 2147483647), .long (((g_pit b e k).2.toInt64) * ((g_pit b e k).2.toInt64))] (n, I, J, R) 0 0
      refine q_one rfl rfl ?_
      show ¬ (lN 2147483647) = 0 ∧ q_W L d 77 q_m77 Q 44 [some (.int b), some (.int e), some (.long ((g_times (g_pit b e k).1 (g_pit b e k).2).toInt64)), none, some (.long ((g_pit b e k).2.toInt64)), none, some (.int (nI k))] [.long ((((g_pit b e k).2.toInt64) * ((g_pit b e k).2.toInt64)) - (((g_pit b e k).2.toInt64) * ((g_pit b e k).2.toInt64)) / (lN 2147483647) * (lN 2147483647))] (n, I, J, R) 0 0
      refine ⟨by decide +kernel, ?_⟩
      refine q_topL (w := (g_times (g_pit b e k).2 (g_pit b e k).2).toInt64) (g_timesL _ _) ?_
      refine q_k 2 ?_
      show q_W L d 77 q_m77 Q 49 [some (.int b), some (.int e), some (.long ((g_times (g_pit b e k).1 (g_pit b e k).2).toInt64)), none, some (.long ((g_times (g_pit b e k).2 (g_pit b e k).2).toInt64)), none, some (.int ((nI k) + nI 1))] [] (n, I, J, R) 0 0
      rw [show (nI k) + nI 1 = nI (k + 1) from nI_add _ _]
      refine q_k 1 ?_
      show q_W L d 77 q_m77 Q 9 [some (.int b), some (.int e), some (.long ((g_times (g_pit b e k).1 (g_pit b e k).2).toInt64)), none, some (.long ((g_times (g_pit b e k).2 (g_pit b e k).2).toInt64)), none, some (.int (nI (k + 1)))] [] (n, I, J, R) 0 0
      have hk2 := ih (k + 1) (by omega)
      simp only [g_pit, g_pst, if_pos h23] at hk2
      exact hk2
theorem c_raised {L d n : Nat} {I : q_I} {J : q_L} {R : q_R} {Q : q_Q} {b e : Int32} (hQ : Q (some (.int (g_pow b e))) (n, I, J, R)) : q_Ex L (d + 1) 77 [.int b, .int e] (n, I, J, R) Q := by
  refine q_in (x := q_m77) rfl rfl ?_
  show q_W L d 77 q_m77 Q 0 [some (.int b), some (.int e), none, none, none, none, none] [] (n, I, J, R) 0 0
  refine q_k 7 ?_
  show q_W L d 77 q_m77 Q 9 [some (.int b), some (.int e), some (.long (lN 1)), none, some (.long ((b).toInt64)), none, some (.int (nI 0))] [] (n, I, J, R) 0 0
  exact c_raised_loop hQ 31 0 rfl
