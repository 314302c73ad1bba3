theorem c_E_J {I : q_I} {J J2 : q_L} {M : q_I} {N : q_L} {E : Nat} (h : c_E I J M N E) (hJ : ∀ x, x < 192 → J2 x = J x) : c_E I J2 M N E := ⟨h.e6, h.eM, h.eI, fun e k h1 h2 => by rw [hJ (11 + e) (by have := h.e6; omega)]; exact h.lt e k h1 h2, fun e k h1 h2 h3 => by rw [hJ (11 + e) (by omega)]; exact h.lz e k h1 h2 h3, by rw [hJ 3 (by omega)]; exact h.tx⟩
theorem f_rem_o {b i c r l u : Nat} {M : q_I} (hbu : b ≠ u) (hc : c ≤ 10) (ho : r ≠ 200 ∧ r ≠ 201 ∨ (r = 201 ∧ l = u) ∨ (r = 200 ∧ 20 * u ≤ l ∧ l < 20 * u + 20)) : f_rem b i c M r l = M r l := by
  rcases ho with ⟨h0, h1⟩ | ⟨rfl, rfl⟩ | ⟨rfl, h1, h2⟩
  · rw [f_rem_n h0 h1]
  · rw [f_rem_201, va_up_ne _ _ (Ne.symm hbu)]
  · rw [f_rem_200, if_neg (by omega)]
set_option maxHeartbeats 8000000 in
theorem k_new_now1 {L d n : Nat} {I : q_I} {J : q_L} {R : q_R} {Q : q_Q} {M : q_I} {N : q_L} {ss : Nat → Nat → Nat} {mc : Nat → Nat} {tr p e a b x y le c : Nat} {g : Nat → Int32} (h : CR n I J R M N) (hL : c_L n I R M ss mc tr) (hp : p < 16) (hl : q_ar n le 1 12) (hJ : ∀ k, k < 12 → J le k = N 208 (e + k)) (hwf : q_wf M N e a b x y) (hkd : N 208 (e + 2) = lN 0) (hM1 : M 201 b = nI c) (hc10 : c ≤ 10) (hnow : f_now M N e b = true) {k : Nat} (hk : k < c) (hit : f_it M N e b c = k) (hQ : ∀ n' I' J' R', CR n' I' J' R' ((f_beg2 g M N e a b p (mc p) c).2.1) ((f_beg2 g M N e a b p (mc p) c).2.2) → q_nmf I' I → (J' 208 = J 208 ∧ J' 192 = J 192) → Q (some (.int (f_beg2 g M N e a b p (mc p) c).1)) (n', I', J', R')) : q_W L (d + 6) 67 q_m67 Q 59 [some (.ref 3), some (.ref le), some (.ref (160 + 2 * p)), some (.ref (84 + 19 * b)), some (.int (nI 1)), some (.int (nI k)), none, none] [] (n, I, J, R) 0 0 := by
  have hK := h.K
  have ha := h.ac
  have htg := hL.ts.ge
  have hm3 := (hL.m3 p hp).1
  obtain ⟨E, hE⟩ := h.en
  have h4b := hwf.hb
  have h4a := hwf.ha
  have hA := q_Ac_of hK h4b
  have hcA := ha b h4b
  have hJ4 := hJ 4 (by decide)
  have hp5 : N 208 (e + 5) = (M 198 (2 * b + 1)).toInt64 := of_decide_eq_true hnow
  have hid : (J le 3).toInt32 = M 197 (2 * a + 1) := by rw [hJ 3 (by decide), (hwf.f1 hkd).1, Int32.toInt32_toInt64]
  have hb6 : N 208 (e + 6) = (M 200 (2 * (10 * b + k) + 1)).toInt64 := by
    have hg := (g_first_s (f_hit M N e b) c).2.2
    rw [show g_first (f_hit M N e b) c = k from hit] at hg
    exact (of_decide_eq_true (hg hk)).symm
  obtain ⟨c0, pr, hc0, hM1b, -, hpr, hpi, hpv⟩ := hcA.once
  have ecc : c0 = c := (nI_eq (by omega) (by omega)).mp (hM1b.symm.trans hM1)
  subst ecc
  have hBR : (f_brow g M N e a b c0) = s_new (N 208 (e + 4)).toInt32 (M 198 (2 * b)) (M 198 (2 * b + 1)) (g_agr (g_pow (M 197 (2 * a + 1)) (M 198 (2 * b))) (g_pow (N 208 (e + 4)).toInt32 (M 197 (2 * b))) (g_pow (N 208 (e + 4)).toInt32 (M 198 (2 * b))) (g_pow (N 208 (e + 4)).toInt32 (M 200 (2 * (10 * b + k)))) (M 197 (2 * a + 1)) (M 197 (2 * b + 1)) (M 200 (2 * (10 * b + k) + 1))) g := by unfold f_brow; rw [if_pos hnow, hit, if_pos hk, if_pos hk, hp5, Int32.toInt32_toInt64]
  refine q_k 2 ?_
  show q_W L (d + 6) 67 q_m67 Q 61 [some (.ref 3), some (.ref le), some (.ref (160 + 2 * p)), some (.ref (84 + 19 * b)), some (.int (nI 1)), some (.int (nI k)), none, none] [.int (nI 4), .ref le] (n, I, J, R) 0 0
  refine q_lal (m := 4) rfl (hl) (by decide) (rfl) ?_
  refine q_k 3 ?_
  show q_W L (d + 6) 67 q_m67 Q 66 [some (.ref 3), some (.ref le), some (.ref (160 + 2 * p)), some (.ref (84 + 19 * b)), some (.int (nI 1)), some (.int (nI k)), some (.int ((J le 4).toInt32)), none] [.ref 3] (n, I, J, R) 0 0
  refine q_gR (b := tr) rfl rfl (⟨Nat.lt_of_lt_of_le (by decide) hK.1, rfl⟩) (hL.tr) ?_
  refine q_cv (as := []) (rs := []) rfl rfl rfl (hL.ts.ob) rfl rfl ?_
  refine c_clear (hL.ts) (fun I1 z1 y1 g1 => ?_)
  show q_W L (d + 6) 67 q_m67 Q 72 [some (.ref 3), some (.ref le), some (.ref (160 + 2 * p)), some (.ref (84 + 19 * b)), some (.int (nI 1)), some (.int (nI k)), some (.int ((J le 4).toInt32)), none] [] (n, I1, J, R) 0 0
  refine q_k 1 ?_
  show q_W L (d + 6) 67 q_m67 Q 73 [some (.ref 3), some (.ref le), some (.ref (160 + 2 * p)), some (.ref (84 + 19 * b)), some (.int (nI 1)), some (.int (nI k)), some (.int ((J le 4).toInt32)), none] [.ref 3] (n, I1, J, R) 0 0
  refine q_gR (b := tr) rfl rfl (⟨Nat.lt_of_lt_of_le (by decide) hK.1, rfl⟩) (hL.tr) ?_
  refine q_k 1 ?_
  show q_W L (d + 6) 67 q_m67 Q 78 [some (.ref 3), some (.ref le), some (.ref (160 + 2 * p)), some (.ref (84 + 19 * b)), some (.int (nI 1)), some (.int (nI k)), some (.int ((J le 4).toInt32)), none] [.int ((J le 4).toInt32), .ref tr] (n, I1, J, R) 0 0
  refine q_pI rfl rfl rfl (hL.ts.ob) ?_
  obtain ⟨I2, eI2⟩ : ∃ zz9, zz9 = q_up I1 tr 0 ((J le 4).toInt32) := ⟨_, rfl⟩
  rw [← eI2]
  refine q_k 1 ?_
  show q_W L (d + 6) 67 q_m67 Q 82 [some (.ref 3), some (.ref le), some (.ref (160 + 2 * p)), some (.ref (84 + 19 * b)), some (.int (nI 1)), some (.int (nI k)), some (.int ((J le 4).toInt32)), none] [.ref 3] (n, I2, J, R) 0 0
  refine q_gR (b := tr) rfl rfl (⟨Nat.lt_of_lt_of_le (by decide) hK.1, rfl⟩) (hL.tr) ?_
  refine q_gR (b := (tr + 2)) rfl rfl (hL.ts.ob) (hL.ts.r2) ?_
  refine q_k 3 ?_
  show q_W L (d + 6) 67 q_m67 Q 91 [some (.ref 3), some (.ref le), some (.ref (160 + 2 * p)), some (.ref (84 + 19 * b)), some (.int (nI 1)), some (.int (nI k)), some (.int ((J le 4).toInt32)), none] [.int (nI 5), .ref le, .ref (84 + 19 * b), .ref (tr + 2)] (n, I2, J, R) 0 0
  refine q_lal (m := 5) rfl (hl) (by decide) (rfl) ?_
  refine q_cv (as := [.long (J le 5)]) (rs := [.ref (tr + 2)]) rfl rfl rfl (hA.ob) rfl rfl ?_
  refine c_signedOf (M := M) (u := b) hA (c_A_to hcA (fun x h1 h2 => by rw [eI2, q_un (by omega), g1 x (by omega) (by omega)]) rfl (q_eu_rf _ _)) (fun hz => ?_) (fun hz => ?_)
  · skip
    show q_W L (d + 6) 67 q_m67 Q 95 [some (.ref 3), some (.ref le), some (.ref (160 + 2 * p)), some (.ref (84 + 19 * b)), some (.int (nI 1)), some (.int (nI k)), some (.int ((J le 4).toInt32)), none] [.ref (84 + 19 * b + 2), .ref (tr + 2)] (n, I2, J, R) 0 0
    refine q_cv (as := [.ref (84 + 19 * b + 2)]) (rs := []) rfl rfl rfl (hL.ts.o2) rfl rfl ?_
    refine c_Pair_become hL.ts.o2 hA.o2 ?_
    obtain ⟨I3, eI3⟩ : ∃ zz9, zz9 = q_up (q_up I2 (tr + 2) 0 (I2 (84 + 19 * b + 2) 0)) (tr + 2) 1 (q_up I2 (tr + 2) 0 (I2 (84 + 19 * b + 2) 0) (84 + 19 * b + 2) 1) := ⟨_, rfl⟩
    rw [← eI3]
    have g2 : ∀ x, (x < tr ∨ tr + 10 ≤ x) → I2 x = I x := fun x hx => by rw [eI2, q_un (by omega), g1 x (by omega) (by omega)]
    have g3 : ∀ x, (x < tr ∨ tr + 10 ≤ x) → I3 x = I x := fun x hx => by rw [eI3, q_un (by omega), q_un (by omega)]; exact g2 x hx
    have p30 : I3 (tr + 2) 0 = M 198 (2 * b) := by rw [eI3, q_usn (by decide), q_usk, g2 (84 + 19 * b + 2) (by omega)]; exact hcA.s0
    have p31 : I3 (tr + 2) 1 = M 198 (2 * b + 1) := by rw [eI3, q_usk, q_un (by omega), g2 (84 + 19 * b + 2) (by omega)]; exact hcA.s1
    have t3 : ∀ k, (k = 3 ∨ (6 ≤ k ∧ k ≤ 9) ∨ (11 ≤ k ∧ k ≤ 14)) → I3 tr k = nI 0 := fun k hk => by rw [eI3, q_un (by omega), q_un (by omega), eI2, q_usn (by omega)]; exact z1 k (by omega)
    have b3 : I3 tr 0 = (N 208 (e + 4)).toInt32 := by rw [eI3, q_un (by omega), q_un (by omega), eI2, q_usk, hJ4]
    have k3 : I3 (tr + 5) 0 = nI 0 := by rw [eI3, q_un (by omega), q_un (by omega), eI2, q_un (by omega)]; exact y1
    show q_W L (d + 6) 67 q_m67 Q 98 [some (.ref 3), some (.ref le), some (.ref (160 + 2 * p)), some (.ref (84 + 19 * b)), some (.int (nI 1)), some (.int (nI k)), some (.int ((J le 4).toInt32)), none] [] (n, I3, J, R) 0 0
    refine q_k 4 ?_
    show q_W L (d + 6) 67 q_m67 Q 103 [some (.ref 3), some (.ref le), some (.ref (160 + 2 * p)), some (.ref (84 + 19 * b)), some (.int (nI 1)), some (.int (nI k)), some (.int ((J le 4).toInt32)), none] [.int (nI 1), .ref (84 + 19 * b), .ref le, .ref 3] (n, I3, J, R) 0 0
    refine q_one rfl rfl ?_
    show ((nI 1) = 0 → q_W L (d + 6) 67 q_m67 Q 121 [some (.ref 3), some (.ref le), some (.ref (160 + 2 * p)), some (.ref (84 + 19 * b)), some (.int (nI 1)), some (.int (nI k)), some (.int ((J le 4).toInt32)), none] [.ref (84 + 19 * b), .ref le, .ref 3] (n, I3, J, R) 0 0) ∧ (¬ (nI 1) = 0 → q_W L (d + 6) 67 q_m67 Q 106 [some (.ref 3), some (.ref le), some (.ref (160 + 2 * p)), some (.ref (84 + 19 * b)), some (.int (nI 1)), some (.int (nI k)), some (.int ((J le 4).toInt32)), none] [.ref (84 + 19 * b), .ref le, .ref 3] (n, I3, J, R) 0 0)
    refine ⟨fun z => absurd z (by decide), fun _ => ?_⟩
    refine q_k 1 ?_
    show q_W L (d + 6) 67 q_m67 Q 107 [some (.ref 3), some (.ref le), some (.ref (160 + 2 * p)), some (.ref (84 + 19 * b)), some (.int (nI 1)), some (.int (nI k)), some (.int ((J le 4).toInt32)), none] [.ref (84 + 19 * b), .ref (84 + 19 * b), .ref le, .ref 3] (n, I3, J, R) 0 0
    refine q_gR (b := (84 + 19 * b + 4)) rfl rfl (hA.ob) (hA.r6) ?_
    refine q_k 1 ?_
    show q_W L (d + 6) 67 q_m67 Q 112 [some (.ref 3), some (.ref le), some (.ref (160 + 2 * p)), some (.ref (84 + 19 * b)), some (.int (nI 1)), some (.int (nI k)), some (.int ((J le 4).toInt32)), none] [.int (nI k), .ref (84 + 19 * b + 4), .ref (84 + 19 * b), .ref le, .ref 3] (n, I3, J, R) 0 0
    refine q_aal (m := k) (b := (pr k)) rfl (hA.o4) ⟨rfl, rfl⟩ (by omega) rfl ((hpr k (by omega)).1) ?_
    refine q_k 1 ?_
    show q_W L (d + 6) 67 q_m67 Q 115 [some (.ref 3), some (.ref le), some (.ref (160 + 2 * p)), some (.ref (84 + 19 * b)), some (.int (nI 1)), some (.int (nI k)), some (.int ((J le 4).toInt32)), none] [.int ((J le 4).toInt32), .ref (pr k), .ref (84 + 19 * b), .ref le, .ref 3] (n, I3, J, R) 0 0
    refine q_cv (as := [.int ((J le 4).toInt32)]) (rs := [.ref (84 + 19 * b), .ref le, .ref 3]) rfl rfl rfl (hA.op _ (hpr k (by omega)).2.1 (hpr k (by omega)).2.2) rfl rfl ?_
    refine c_shared (hA.op _ (hpr k (by omega)).2.1 (hpr k (by omega)).2.2) ?_
    show q_W L (d + 6) 67 q_m67 Q 118 [some (.ref 3), some (.ref le), some (.ref (160 + 2 * p)), some (.ref (84 + 19 * b)), some (.int (nI 1)), some (.int (nI k)), some (.int ((J le 4).toInt32)), none] [.int (g_pow (J le 4).toInt32 (I3 (pr k) 0)), .ref (84 + 19 * b), .ref le, .ref 3] (n, I3, J, R) 0 0
    refine q_k 1 ?_
    show q_W L (d + 6) 67 q_m67 Q 122 [some (.ref 3), some (.ref le), some (.ref (160 + 2 * p)), some (.ref (84 + 19 * b)), some (.int (nI 1)), some (.int (nI k)), some (.int ((J le 4).toInt32)), none] [.int (g_pow (J le 4).toInt32 (I3 (pr k) 0)), .ref (84 + 19 * b), .ref le, .ref 3] (n, I3, J, R) 0 0
    refine q_cv (as := [.ref le, .ref (84 + 19 * b), .int (g_pow (J le 4).toInt32 (I3 (pr k) 0))]) (rs := []) rfl rfl rfl (⟨Nat.lt_of_lt_of_le (by decide) hK.1, rfl⟩) rfl rfl ?_
    refine c_agree2 (t := tr) (q_K0_to hK (g3 0 (by omega)) (g3 1 (by omega))) (hA) (hL.tr) (hL.ts) (hl) (fun I4 r4 g4 => ?_)
    have hm : s_R I4 tr (f_brow g M N e a b c0) := by
      rw [hBR]
      refine s_R_new (fun k hk => ?_) ?_ ?_ ?_ ?_ (fun i hi => ?_)
      · rw [g4 tr (by omega) (by omega) (by omega)]; exact t3 k hk
      · rw [g4 tr (by omega) (by omega) (by omega)]; exact b3
      · rw [g4 (tr + 2) (by omega) (by omega) (by omega)]; exact p30
      · rw [g4 (tr + 2) (by omega) (by omega) (by omega)]; exact p31
      · rw [g4 (tr + 5) (by omega) (by omega) (by omega)]; exact k3
      · rw [r4 i hi, p30, hid, hJ4, g3 (84 + 19 * b + 1) (by omega), hcA.i0, hcA.i1, hJ 6 (by decide), hb6, Int32.toInt32_toInt64, g3 (pr k) (by have := hpr k (by omega); omega), (hpv k hk).1]
    have g4t : ∀ x, x ≠ 5 → x ≠ 6 → (x < tr ∨ tr + 10 ≤ x) → I4 x = I x := fun x h5 h6 hx => (g4 x h5 h6 (by omega)).trans (g3 x hx)
    show q_W L (d + 6) 67 q_m67 Q 125 [some (.ref 3), some (.ref le), some (.ref (160 + 2 * p)), some (.ref (84 + 19 * b)), some (.int (nI 1)), some (.int (nI k)), some (.int ((J le 4).toInt32)), none] [] (n, I4, J, R) 0 0
    refine q_k 2 ?_
    show q_W L (d + 6) 67 q_m67 Q 127 [some (.ref 3), some (.ref le), some (.ref (160 + 2 * p)), some (.ref (84 + 19 * b)), some (.int (nI 1)), some (.int (nI k)), some (.int ((J le 4).toInt32)), none] [.ref le, .ref 3] (n, I4, J, R) 0 0
    refine q_cv (as := [.ref le]) (rs := []) rfl rfl rfl (⟨Nat.lt_of_lt_of_le (by decide) hK.1, rfl⟩) rfl rfl ?_
    refine c_tryTrial (t := tr) (e := e) (r := (f_brow g M N e a b c0)) (N := N) (M := M) (q_K0_to hK (g4t 0 (by omega) (by omega) (by omega)) (g4t 1 (by omega) (by omega) (by omega))) (fun u hu => c_A_to (ha u hu) (fun x h1 h2 => g4t x (by omega) (by omega) (by omega)) rfl (q_eu_rf _ _)) (hL.tr) (hL.ts) (hl) (hJ) (hwf) (hm) (Or.inr ⟨by rw [hBR]; exact s_new_0 (by omega), by obtain ⟨xx, hx2, hx3, hxe⟩ := hwf.fx; rw [hBR, s_new_0 (by omega), hxe, lN_i]; exact fun z => absurd ((nI_eq (by omega) (by decide)).mp z) (by omega)⟩) (by rw [hBR]; exact s_new_ri _ _ _ _ _) (fun I5 z g5 => ?_) (fun I5 z a5 b5 c5 g5 => ?_)
    · skip
      show q_W L (d + 6) 67 q_m67 Q 130 [some (.ref 3), some (.ref le), some (.ref (160 + 2 * p)), some (.ref (84 + 19 * b)), some (.int (nI 1)), some (.int (nI k)), some (.int ((J le 4).toInt32)), none] [.int ((f_try M N e a b (f_brow g M N e a b c0)).1)] (n, I5, J, R) 0 0
      obtain ⟨gv, egv⟩ : ∃ z, z = (f_try M N e a b (f_brow g M N e a b c0)).1 := ⟨_, rfl⟩
      rw [← egv]
      have hz' : ¬ gv = 0 := by rw [egv]; exact z
      show q_W L (d + 6) 67 q_m67 Q 130 [some (.ref 3), some (.ref le), some (.ref (160 + 2 * p)), some (.ref (84 + 19 * b)), some (.int (nI 1)), some (.int (nI k)), some (.int ((J le 4).toInt32)), none] [.int gv] (n, I5, J, R) 0 0
      refine q_k 2 ?_
      show q_W L (d + 6) 67 q_m67 Q 134 [some (.ref 3), some (.ref le), some (.ref (160 + 2 * p)), some (.ref (84 + 19 * b)), some (.int (nI 1)), some (.int (nI k)), some (.int ((J le 4).toInt32)), some (.int gv)] [.int gv] (n, I5, J, R) 0 0
      refine q_one rfl rfl ?_
      show (¬ gv = 0 → q_W L (d + 6) 67 q_m67 Q 160 [some (.ref 3), some (.ref le), some (.ref (160 + 2 * p)), some (.ref (84 + 19 * b)), some (.int (nI 1)), some (.int (nI k)), some (.int ((J le 4).toInt32)), some (.int gv)] [] (n, I5, J, R) 0 0) ∧ (gv = 0 → q_W L (d + 6) 67 q_m67 Q 137 [some (.ref 3), some (.ref le), some (.ref (160 + 2 * p)), some (.ref (84 + 19 * b)), some (.int (nI 1)), some (.int (nI k)), some (.int ((J le 4).toInt32)), some (.int gv)] [] (n, I5, J, R) 0 0)
      refine ⟨fun _ => ?_, fun z => absurd z (hz')⟩
      refine q_k 1 ?_
      show q_W L (d + 6) 67 q_m67 Q 162 [some (.ref 3), some (.ref le), some (.ref (160 + 2 * p)), some (.ref (84 + 19 * b)), some (.int (nI 1)), some (.int (nI k)), some (.int ((J le 4).toInt32)), some (.int gv)] [.int gv] (n, I5, J, R) 0 0
      refine q_one rfl rfl ?_
      show Q (some (.int gv)) (n, I5, J, R)
      rw [show f_beg2 g M N e a b p (mc p) c0 = ((f_try M N e a b (f_brow g M N e a b c0)).1, M, N) by unfold f_beg2; rw [if_neg z]] at hQ
      dsimp only at hQ
      obtain ⟨c1, c2⟩ := CR_frt h hL (I2 := I5) (fun x h5 h6 h7 _ h82 h83 hx => (g5 x h5 h6 h7 h82 h83 hx).trans (g4t x h5 h6 hx))
      rw [egv]
      exact hQ n I5 J R c1 c2 ⟨rfl, rfl⟩
    · skip
      show q_W L (d + 6) 67 q_m67 Q 130 [some (.ref 3), some (.ref le), some (.ref (160 + 2 * p)), some (.ref (84 + 19 * b)), some (.int (nI 1)), some (.int (nI k)), some (.int ((J le 4).toInt32)), none] [.int (nI 0)] (n, I5, q_up J 3 5 (J le 10 ^^^ g_wide (f_try M N e a b (f_brow g M N e a b c0)).2.2.1 (nI 9) (nI 0) (nI 0) (nI 0)), R) 0 0
      have fr5 : ∀ x, x ≠ 5 → x ≠ 6 → x ≠ 7 → x ≠ 82 → x ≠ 83 → x ≠ 84 + 19 * b → (x < tr ∨ tr + 10 ≤ x) → I5 x = I x := fun x h5 h6 h7 h82 h83 hb hx => (g5 x h5 h6 h7 h82 h83 hb hx).trans (g4t x h5 h6 hx)
      have hF : f_beg2 g M N e a b p (mc p) c0 = (nI 0, (f_rem b k c0 (f_come p (mc p) (va_up (f_try M N e a b (f_brow g M N e a b c0)).2.1 11 (nI 1)) (f_ok (f_try M N e a b (f_brow g M N e a b c0)) b M))), f_tx N e (f_try M N e a b (f_brow g M N e a b c0))) := by unfold f_beg2; rw [if_pos z, hit, if_pos hk]
      rw [hF] at hQ
      dsimp only at hQ
      rw [hJ 10 (by decide)]
      have hri5 := f_try_ri (r := (f_brow g M N e a b c0)) hwf (by rw [hBR]; exact s_new_ri _ _ _ _ _) z
      have hme : ∀ q, (f_rem b k c0 (f_come p (mc p) (va_up (f_try M N e a b (f_brow g M N e a b c0)).2.1 11 (nI 1)) (f_ok (f_try M N e a b (f_brow g M N e a b c0)) b M))) 206 q = if q = p then nI (min (mc p) 2 + 1) else M 206 q := fun q => by rw [f_rem_n (by decide) (by decide)]; rw [f_come_206, f_ok_n (by decide)]; unfold va_up; rfl
      have hm5 : (f_rem b k c0 (f_come p (mc p) (va_up (f_try M N e a b (f_brow g M N e a b c0)).2.1 11 (nI 1)) (f_ok (f_try M N e a b (f_brow g M N e a b c0)) b M))) 205 = f_rows p (min (mc p) 2) (va_up (f_try M N e a b (f_brow g M N e a b c0)).2.1 11 (nI 1)) M 205 := by rw [f_rem_n (by decide) (by decide)]; exact (f_come_205 (f_ok_n (by decide)).symm (fun _ _ => rfl)).symm
      have hm192 : (f_rem b k c0 (f_come p (mc p) (va_up (f_try M N e a b (f_brow g M N e a b c0)).2.1 11 (nI 1)) (f_ok (f_try M N e a b (f_brow g M N e a b c0)) b M))) 192 16 = M 192 16 := by rw [f_rem_n (by decide) (by decide)]; rw [f_come_n (by decide) (by decide), f_ok_n (by decide)]
      show q_W L (d + 6) 67 q_m67 Q 130 [some (.ref 3), some (.ref le), some (.ref (160 + 2 * p)), some (.ref (84 + 19 * b)), some (.int (nI 1)), some (.int (nI k)), some (.int ((J le 4).toInt32)), none] [.int (nI 0)] (n, I5, q_up J 3 5 (N 208 (e + 10) ^^^ g_wide (f_try M N e a b (f_brow g M N e a b c0)).2.2.1 (nI 9) (nI 0) (nI 0) (nI 0)), R) 0 0
      refine q_k 2 ?_
      show q_W L (d + 6) 67 q_m67 Q 134 [some (.ref 3), some (.ref le), some (.ref (160 + 2 * p)), some (.ref (84 + 19 * b)), some (.int (nI 1)), some (.int (nI k)), some (.int ((J le 4).toInt32)), some (.int (nI 0))] [.int (nI 0)] (n, I5, q_up J 3 5 (N 208 (e + 10) ^^^ g_wide (f_try M N e a b (f_brow g M N e a b c0)).2.2.1 (nI 9) (nI 0) (nI 0) (nI 0)), R) 0 0
      refine q_one rfl rfl ?_
      show (¬ (nI 0) = 0 → q_W L (d + 6) 67 q_m67 Q 160 [some (.ref 3), some (.ref le), some (.ref (160 + 2 * p)), some (.ref (84 + 19 * b)), some (.int (nI 1)), some (.int (nI k)), some (.int ((J le 4).toInt32)), some (.int (nI 0))] [] (n, I5, q_up J 3 5 (N 208 (e + 10) ^^^ g_wide (f_try M N e a b (f_brow g M N e a b c0)).2.2.1 (nI 9) (nI 0) (nI 0) (nI 0)), R) 0 0) ∧ ((nI 0) = 0 → q_W L (d + 6) 67 q_m67 Q 137 [some (.ref 3), some (.ref le), some (.ref (160 + 2 * p)), some (.ref (84 + 19 * b)), some (.int (nI 1)), some (.int (nI k)), some (.int ((J le 4).toInt32)), some (.int (nI 0))] [] (n, I5, q_up J 3 5 (N 208 (e + 10) ^^^ g_wide (f_try M N e a b (f_brow g M N e a b c0)).2.2.1 (nI 9) (nI 0) (nI 0) (nI 0)), R) 0 0)
      refine ⟨fun z => absurd (by decide) z, fun _ => ?_⟩
      refine q_k 3 ?_
      show q_W L (d + 6) 67 q_m67 Q 140 [some (.ref 3), some (.ref le), some (.ref (160 + 2 * p)), some (.ref (84 + 19 * b)), some (.int (nI 1)), some (.int (nI k)), some (.int ((J le 4).toInt32)), some (.int (nI 0))] [.ref 3, .ref (160 + 2 * p), .ref 3] (n, I5, q_up J 3 5 (N 208 (e + 10) ^^^ g_wide (f_try M N e a b (f_brow g M N e a b c0)).2.2.1 (nI 9) (nI 0) (nI 0) (nI 0)), R) 0 0
      refine q_gR (b := tr) rfl rfl (⟨Nat.lt_of_lt_of_le (by decide) hK.1, rfl⟩) (hL.tr) ?_
      refine q_cvA (as := [.ref tr]) (rs := [.ref 3]) rfl rfl rfl (q_obL hK.1 hp) rfl rfl ⟨by decide, by decide⟩ ?_
      refine c_putInFront (s := 160 + 2 * p) (m := mc p) (rr := ss p) (q_obL hK.1 hp) (hK.2.1 _ _ _ (q_fxL p hp)) (q_arL hK.1 hp) (by omega) h.nj (by rw [fr5 (160 + 2 * p) (by omega) (by omega) (by omega) (by omega) (by omega) (by omega) (by omega)]; exact (hL.m3 p hp).2.2) hm3 hL.ts.ob (fun i hi => ⟨(hL.rw p i hp hi).1, (hL.se hp hi).ob⟩) (fun em I6 R6 i6 j6 x0 x1 x2 x6 => ?_) (fun em I6 J6 R6 i6 x0 xk j6 l6 x6 s6 => ?_)
      · skip
        show q_W L (d + 6) 67 q_m67 Q 146 [some (.ref 3), some (.ref le), some (.ref (160 + 2 * p)), some (.ref (84 + 19 * b)), some (.int (nI 1)), some (.int (nI k)), some (.int ((J le 4).toInt32)), some (.int (nI 0))] [.ref (ss p 2), .ref 3] (n, I6, q_up J 3 5 (N 208 (e + 10) ^^^ g_wide (f_try M N e a b (f_brow g M N e a b c0)).2.2.1 (nI 9) (nI 0) (nI 0) (nI 0)), R6) 10 334
        have gI : ∀ x, x ≠ 160 + 2 * p → x < n → I6 x = I5 x := fun x hx _ => j6 x hx
        have gR : ∀ x, x ≠ 160 + 2 * p + 1 → x < n → R6 x = R x := fun x hx _ => x6 x hx
        have h2m : 2 < mc p := by omega
        have hn0 := hK.1
        refine q_pR rfl rfl rfl (⟨by omega, rfl⟩) ?_
        obtain ⟨R7, eR7⟩ : ∃ zz9, zz9 = q_up R6 3 6 (some (ss p 2)) := ⟨_, rfl⟩
        rw [← eR7]
        refine q_k 1 ?_
        show q_W L (d + 6) 67 q_m67 Q 151 [some (.ref 3), some (.ref le), some (.ref (160 + 2 * p)), some (.ref (84 + 19 * b)), some (.int (nI 1)), some (.int (nI k)), some (.int ((J le 4).toInt32)), some (.int (nI 0))] [.int (nI 1)] (n, I6, q_up J 3 5 (N 208 (e + 10) ^^^ g_wide (f_try M N e a b (f_brow g M N e a b c0)).2.2.1 (nI 9) (nI 0) (nI 0) (nI 0)), R7) 10 334
        refine q_one rfl rfl ?_
        show ((nI 1) = 0 → q_W L (d + 6) 67 q_m67 Q 160 [some (.ref 3), some (.ref le), some (.ref (160 + 2 * p)), some (.ref (84 + 19 * b)), some (.int (nI 1)), some (.int (nI k)), some (.int ((J le 4).toInt32)), some (.int (nI 0))] [] (n, I6, q_up J 3 5 (N 208 (e + 10) ^^^ g_wide (f_try M N e a b (f_brow g M N e a b c0)).2.2.1 (nI 9) (nI 0) (nI 0) (nI 0)), R7) 10 334) ∧ (¬ (nI 1) = 0 → q_W L (d + 6) 67 q_m67 Q 154 [some (.ref 3), some (.ref le), some (.ref (160 + 2 * p)), some (.ref (84 + 19 * b)), some (.int (nI 1)), some (.int (nI k)), some (.int ((J le 4).toInt32)), some (.int (nI 0))] [] (n, I6, q_up J 3 5 (N 208 (e + 10) ^^^ g_wide (f_try M N e a b (f_brow g M N e a b c0)).2.2.1 (nI 9) (nI 0) (nI 0) (nI 0)), R7) 10 334)
        refine ⟨fun z => absurd z (by decide), fun _ => ?_⟩
        refine q_k 2 ?_
        show q_W L (d + 6) 67 q_m67 Q 157 [some (.ref 3), some (.ref le), some (.ref (160 + 2 * p)), some (.ref (84 + 19 * b)), some (.int (nI 1)), some (.int (nI k)), some (.int ((J le 4).toInt32)), some (.int (nI 0))] [.int (nI k), .ref (84 + 19 * b)] (n, I6, q_up J 3 5 (N 208 (e + 10) ^^^ g_wide (f_try M N e a b (f_brow g M N e a b c0)).2.2.1 (nI 9) (nI 0) (nI 0) (nI 0)), R7) 10 334
        refine q_cv (as := [.int (nI k)]) (rs := []) rfl rfl rfl (⟨Nat.lt_of_lt_of_le hA.ob.1 (by omega), hA.ob.2⟩) rfl rfl ?_
        have c7 : c_A I6 R7 (f_come p (mc p) (va_up (f_try M N e a b (f_brow g M N e a b c0)).2.1 11 (nI 1)) (f_ok (f_try M N e a b (f_brow g M N e a b c0)) b M)) (84 + 19 * b) b := c_A_to (c5 b h4b) (fun x h1 h2 => gI x (by omega) (by omega)) (by rw [eR7, q_un (by omega)]; exact gR _ (by omega) (by omega)) (fun r l ho => by unfold q_own at ho; rw [f_come_n (by omega) (by omega)])
        have hA7 : q_Ac (n) R7 (84 + 19 * b) := q_Ac_of (q_K0_R hK (show n ≤ n by omega) (fun x l => by by_cases x1 : x = 160 + 2 * p + 1; exact Or.inr (by rw [x1]; exact q_fxn1 hp); by_cases x4 : 214 ≤ x; exact Or.inr (q_fxS x4); by_cases x3 : x = 3; subst x3; by_cases l6 : l = 6; exact Or.inr (by rw [l6]; rfl); exact Or.inl (by rw [eR7, q_usn l6, gR 3 (by omega) (by omega)]); exact Or.inl (by rw [eR7, q_un x3, gR x x1 (by omega)]))) h4b
        refine c_removeOneTime (c := c0) (k0 := k) (hA7) (c7) (by rw [f_come_n (by decide) (by decide), f_ok_n (by decide)]; exact hM1) (hc10) (hk) (fun I7 R8 c8 x8 y8 => ?_)
        show q_W L (d + 6) 67 q_m67 Q 160 [some (.ref 3), some (.ref le), some (.ref (160 + 2 * p)), some (.ref (84 + 19 * b)), some (.int (nI 1)), some (.int (nI k)), some (.int ((J le 4).toInt32)), some (.int (nI 0))] [] (n, I7, q_up J 3 5 (N 208 (e + 10) ^^^ g_wide (f_try M N e a b (f_brow g M N e a b c0)).2.2.1 (nI 9) (nI 0) (nI 0) (nI 0)), R8) 10 334
        refine q_k 1 ?_
        show q_W L (d + 6) 67 q_m67 Q 162 [some (.ref 3), some (.ref le), some (.ref (160 + 2 * p)), some (.ref (84 + 19 * b)), some (.int (nI 1)), some (.int (nI k)), some (.int ((J le 4).toInt32)), some (.int (nI 0))] [.int (nI 0)] (n, I7, q_up J 3 5 (N 208 (e + 10) ^^^ g_wide (f_try M N e a b (f_brow g M N e a b c0)).2.2.1 (nI 9) (nI 0) (nI 0) (nI 0)), R8) 10 334
        refine q_one rfl rfl ?_
        show Q (some (.int (nI 0))) (n, I7, q_up J 3 5 (N 208 (e + 10) ^^^ g_wide (f_try M N e a b (f_brow g M N e a b c0)).2.2.1 (nI 9) (nI 0) (nI 0) (nI 0)), R8)
        have hRR : ∀ x, x ≠ 160 + 2 * p + 1 → x ≠ 3 → x ≠ 84 + 19 * b + 4 → x < n → R8 x = R x := fun x h1 h2 h4 h3 => by rw [y8 x h4, eR7, q_un h2]; exact gR x h1 h3
        have hIf : ∀ x, x ≠ 160 + 2 * p → x ≠ 84 + 19 * b → x < n → I7 x = I5 x := fun x h1 h2 h3 => (x8 x h2).trans (gI x h1 h3)
        have hR3 : R8 3 6 = some (ss p 2) := by rw [y8 3 (by omega), eR7, q_usk]
        have hRs1 : R8 (160 + 2 * p + 1) = R6 (160 + 2 * p + 1) := by rw [y8 _ (by omega), eR7, q_un (by omega)]
        have hR3n : ∀ l, l ≠ 6 → R8 3 l = R 3 l := fun l hl => by rw [y8 3 (by omega), eR7, q_usn hl, gR 3 (by omega) (by omega)]
        have hmin : min (mc p) 2 = 2 := by omega
        rw [hmin] at hme hm5
        obtain ⟨ss2, mc2, hL2⟩ := c_L_mv (n2 := n) (I2 := I7) (R2 := R8) (M2 := (f_rem b k c0 (f_come p (mc p) (va_up (f_try M N e a b (f_brow g M N e a b c0)).2.1 11 (nI 1)) (f_ok (f_try M N e a b (f_brow g M N e a b c0)) b M)))) (tr2 := ss p 2) (k := 2) (m2 := 3) (row := (va_up (f_try M N e a b (f_brow g M N e a b c0)).2.1 11 (nI 1))) hL hK.1 (by omega) hp (by omega) (by omega) (by omega) (fun i h1 h2 => by omega) hR3 ((hL.se hp h2m).to (Nat.le_refl _) (hRR _ (by have := (hL.se hp h2m).ge; omega) (by have := (hL.se hp h2m).ge; omega) (by have := (hL.se hp h2m).ge; omega) (by have := (hL.se hp h2m).hi; omega)) (hRR _ (by have := (hL.se hp h2m).ge; omega) (by have := (hL.se hp h2m).ge; omega) (by have := (hL.se hp h2m).ge; omega) (by have := (hL.se hp h2m).hi; omega))) (hL.rw p 2 hp h2m).2.2 (fun q i hq hi hne he => by obtain ⟨e1, e2⟩ := hL.inj q i p 2 hq hi hp h2m he; rcases hne with z1 | z1; exact z1 e1; exact z1 e2) (by rw [hRs1]; exact x0) (fun i hi => by rw [hRs1]; have h01 : i = 0 ∨ i = 1 := (by omega); rcases h01 with rfl | rfl; exact x1; exact x2) (fun i h1 h2 => by omega) (fun x hx h2 => hRR x (by omega) (by omega) (by omega) hx) (fun x hx h2 h3 => by rw [hIf x (by omega) (by omega) hx]; exact fr5 x (by omega) (by omega) (by omega) (by omega) (by omega) (by omega) (by omega)) (by rw [x8 _ (by omega), i6, va_up_self]) (s_R_to a5 (fun x h1 h2 => hIf x (by omega) (by omega) (by have := hL.ts.hi; omega))) (s_S_to b5 (fun x h1 h2 => hIf x (by omega) (by omega) (by have := hL.ts.hi; omega))) hri5 hm5 (fun q hq => by rw [hme q, if_neg hq]) (by rw [hme p, if_pos rfl])
        exact hQ (n) I7 _ R8 ⟨q_K0_R (q_K0_to hK (by rw [hIf 0 (by omega) (by omega) (by omega)]; exact fr5 0 (by omega) (by omega) (by omega) (by omega) (by omega) (by omega) (by omega)) (by rw [hIf 1 (by omega) (by omega) (by omega)]; exact fr5 1 (by omega) (by omega) (by omega) (by omega) (by omega) (by omega) (by omega))) (show n ≤ n by omega) (fun x l => by by_cases x1 : x = 160 + 2 * p + 1; exact Or.inr (by rw [x1]; exact q_fxn1 hp); by_cases x4 : 214 ≤ x; exact Or.inr (q_fxS x4); by_cases x3 : x = 3; subst x3; by_cases l6 : l = 6; exact Or.inr (by rw [l6]; rfl); exact Or.inl (by rw [hR3n l l6]); by_cases x5 : x = 84 + 19 * b + 4; exact Or.inr (by rw [x5]; exact q_fxn4 h4b); exact Or.inl (by rw [hRR x x1 x3 x5 (by omega)])), h.nj, fun u hu => by by_cases eb : b = u; subst eb; exact c8; exact c_A_to (c5 u hu) (fun x h1 h2 => hIf x (by omega) (by omega) (by omega)) (hRR _ (by omega) (by omega) (by omega) (by omega)) (fun r l ho => by unfold q_own at ho; rw [f_rem_o (u := u) (by omega) (by omega) (by omega), f_come_n (by omega) (by omega)]), ⟨ss2, mc2, _, hL2⟩, ⟨E, c_E_tx hE (by rw [hIf 3 (by omega) (by omega) (by omega)]; exact fr5 3 (by omega) (by omega) (by omega) (by omega) (by omega) (by omega) (by omega)) hm192⟩⟩ (fun x hx => by rw [hIf x (by omega) (by omega) (by omega)]; exact fr5 x (by omega) (by omega) (by omega) (by omega) (by omega) (by omega) (by omega)) ⟨q_un (by decide), q_un (by decide)⟩
      · skip
        show q_W L (d + 6) 67 q_m67 Q 146 [some (.ref 3), some (.ref le), some (.ref (160 + 2 * p)), some (.ref (84 + 19 * b)), some (.int (nI 1)), some (.int (nI k)), some (.int ((J le 4).toInt32)), some (.int (nI 0))] [.ref n, .ref 3] (n + 10, I6, J6, R6) 10 334
        have gI : ∀ x, x ≠ 160 + 2 * p → x < n → I6 x = I5 x := fun x hx hl => j6 x hx (Or.inl hl)
        have gR : ∀ x, x ≠ 160 + 2 * p + 1 → x < n → R6 x = R x := fun x hx hl => x6 x hx (Or.inl hl)
        have hn0 := hK.1
        refine q_pR rfl rfl rfl (⟨by omega, rfl⟩) ?_
        obtain ⟨R7, eR7⟩ : ∃ zz9, zz9 = q_up R6 3 6 (some n) := ⟨_, rfl⟩
        rw [← eR7]
        refine q_k 1 ?_
        show q_W L (d + 6) 67 q_m67 Q 151 [some (.ref 3), some (.ref le), some (.ref (160 + 2 * p)), some (.ref (84 + 19 * b)), some (.int (nI 1)), some (.int (nI k)), some (.int ((J le 4).toInt32)), some (.int (nI 0))] [.int (nI 1)] (n + 10, I6, J6, R7) 10 334
        refine q_one rfl rfl ?_
        show ((nI 1) = 0 → q_W L (d + 6) 67 q_m67 Q 160 [some (.ref 3), some (.ref le), some (.ref (160 + 2 * p)), some (.ref (84 + 19 * b)), some (.int (nI 1)), some (.int (nI k)), some (.int ((J le 4).toInt32)), some (.int (nI 0))] [] (n + 10, I6, J6, R7) 10 334) ∧ (¬ (nI 1) = 0 → q_W L (d + 6) 67 q_m67 Q 154 [some (.ref 3), some (.ref le), some (.ref (160 + 2 * p)), some (.ref (84 + 19 * b)), some (.int (nI 1)), some (.int (nI k)), some (.int ((J le 4).toInt32)), some (.int (nI 0))] [] (n + 10, I6, J6, R7) 10 334)
        refine ⟨fun z => absurd z (by decide), fun _ => ?_⟩
        refine q_k 2 ?_
        show q_W L (d + 6) 67 q_m67 Q 157 [some (.ref 3), some (.ref le), some (.ref (160 + 2 * p)), some (.ref (84 + 19 * b)), some (.int (nI 1)), some (.int (nI k)), some (.int ((J le 4).toInt32)), some (.int (nI 0))] [.int (nI k), .ref (84 + 19 * b)] (n + 10, I6, J6, R7) 10 334
        refine q_cv (as := [.int (nI k)]) (rs := []) rfl rfl rfl (⟨Nat.lt_of_lt_of_le hA.ob.1 (by omega), hA.ob.2⟩) rfl rfl ?_
        have c7 : c_A I6 R7 (f_come p (mc p) (va_up (f_try M N e a b (f_brow g M N e a b c0)).2.1 11 (nI 1)) (f_ok (f_try M N e a b (f_brow g M N e a b c0)) b M)) (84 + 19 * b) b := c_A_to (c5 b h4b) (fun x h1 h2 => gI x (by omega) (by omega)) (by rw [eR7, q_un (by omega)]; exact gR _ (by omega) (by omega)) (fun r l ho => by unfold q_own at ho; rw [f_come_n (by omega) (by omega)])
        have hA7 : q_Ac (n + 10) R7 (84 + 19 * b) := q_Ac_of (q_K0_R hK (show n ≤ n + 10 by omega) (fun x l => by by_cases x1 : x = 160 + 2 * p + 1; exact Or.inr (by rw [x1]; exact q_fxn1 hp); by_cases x4 : 214 ≤ x; exact Or.inr (q_fxS x4); by_cases x3 : x = 3; subst x3; by_cases l6 : l = 6; exact Or.inr (by rw [l6]; rfl); exact Or.inl (by rw [eR7, q_usn l6, gR 3 (by omega) (by omega)]); exact Or.inl (by rw [eR7, q_un x3, gR x x1 (by omega)]))) h4b
        refine c_removeOneTime (c := c0) (k0 := k) (hA7) (c7) (by rw [f_come_n (by decide) (by decide), f_ok_n (by decide)]; exact hM1) (hc10) (hk) (fun I7 R8 c8 x8 y8 => ?_)
        show q_W L (d + 6) 67 q_m67 Q 160 [some (.ref 3), some (.ref le), some (.ref (160 + 2 * p)), some (.ref (84 + 19 * b)), some (.int (nI 1)), some (.int (nI k)), some (.int ((J le 4).toInt32)), some (.int (nI 0))] [] (n + 10, I7, J6, R8) 10 334
        refine q_k 1 ?_
        show q_W L (d + 6) 67 q_m67 Q 162 [some (.ref 3), some (.ref le), some (.ref (160 + 2 * p)), some (.ref (84 + 19 * b)), some (.int (nI 1)), some (.int (nI k)), some (.int ((J le 4).toInt32)), some (.int (nI 0))] [.int (nI 0)] (n + 10, I7, J6, R8) 10 334
        refine q_one rfl rfl ?_
        show Q (some (.int (nI 0))) (n + 10, I7, J6, R8)
        have hRR : ∀ x, x ≠ 160 + 2 * p + 1 → x ≠ 3 → x ≠ 84 + 19 * b + 4 → x < n → R8 x = R x := fun x h1 h2 h4 h3 => by rw [y8 x h4, eR7, q_un h2]; exact gR x h1 h3
        have hIf : ∀ x, x ≠ 160 + 2 * p → x ≠ 84 + 19 * b → x < n → I7 x = I5 x := fun x h1 h2 h3 => (x8 x h2).trans (gI x h1 h3)
        have hR3 : R8 3 6 = some (n) := by rw [y8 3 (by omega), eR7, q_usk]
        have hRs1 : R8 (160 + 2 * p + 1) = R6 (160 + 2 * p + 1) := by rw [y8 _ (by omega), eR7, q_un (by omega)]
        have hR3n : ∀ l, l ≠ 6 → R8 3 l = R 3 l := fun l hl => by rw [y8 3 (by omega), eR7, q_usn hl, gR 3 (by omega) (by omega)]
        have hmin : min (mc p) 2 = mc p := by omega
        rw [hmin] at hme hm5
        obtain ⟨ss2, mc2, hL2⟩ := c_L_mv (n2 := n + 10) (I2 := I7) (R2 := R8) (M2 := (f_rem b k c0 (f_come p (mc p) (va_up (f_try M N e a b (f_brow g M N e a b c0)).2.1 11 (nI 1)) (f_ok (f_try M N e a b (f_brow g M N e a b c0)) b M)))) (tr2 := n) (k := mc p) (m2 := (mc p + 1)) (row := (va_up (f_try M N e a b (f_brow g M N e a b c0)).2.1 11 (nI 1))) hL hK.1 (by omega) hp (by omega) (by omega) (by omega) (fun i h1 h2 => by omega) hR3 (s6.to (Nat.le_refl _) (by rw [y8 _ (by omega), eR7, q_un (by omega)]) (by rw [y8 _ (by omega), eR7, q_un (by omega)])) (by have := hL.ts.hi; omega) (fun q i hq hi _ he => by have := (hL.se hq hi).hi; omega) (by rw [hRs1]; exact x0) (fun i hi => by rw [hRs1]; exact xk i hi) (fun i h1 h2 => by omega) (fun x hx h2 => hRR x (by omega) (by omega) (by omega) hx) (fun x hx h2 h3 => by rw [hIf x (by omega) (by omega) hx]; exact fr5 x (by omega) (by omega) (by omega) (by omega) (by omega) (by omega) (by omega)) (by rw [x8 _ (by omega), i6]) (s_R_to a5 (fun x h1 h2 => hIf x (by omega) (by omega) (by have := hL.ts.hi; omega))) (s_S_to b5 (fun x h1 h2 => hIf x (by omega) (by omega) (by have := hL.ts.hi; omega))) hri5 hm5 (fun q hq => by rw [hme q, if_neg hq]) (by rw [hme p, if_pos rfl])
        exact hQ (n + 10) I7 J6 R8 ⟨q_K0_R (q_K0_to hK (by rw [hIf 0 (by omega) (by omega) (by omega)]; exact fr5 0 (by omega) (by omega) (by omega) (by omega) (by omega) (by omega) (by omega)) (by rw [hIf 1 (by omega) (by omega) (by omega)]; exact fr5 1 (by omega) (by omega) (by omega) (by omega) (by omega) (by omega) (by omega))) (show n ≤ n + 10 by omega) (fun x l => by by_cases x1 : x = 160 + 2 * p + 1; exact Or.inr (by rw [x1]; exact q_fxn1 hp); by_cases x4 : 214 ≤ x; exact Or.inr (q_fxS x4); by_cases x3 : x = 3; subst x3; by_cases l6 : l = 6; exact Or.inr (by rw [l6]; rfl); exact Or.inl (by rw [hR3n l l6]); by_cases x5 : x = 84 + 19 * b + 4; exact Or.inr (by rw [x5]; exact q_fxn4 h4b); exact Or.inl (by rw [hRR x x1 x3 x5 (by omega)])), (by obtain ⟨j, hj⟩ := h.nj; exact ⟨j + 1, by omega⟩), fun u hu => by by_cases eb : b = u; subst eb; exact c8; exact c_A_to (c5 u hu) (fun x h1 h2 => hIf x (by omega) (by omega) (by omega)) (hRR _ (by omega) (by omega) (by omega) (by omega)) (fun r l ho => by unfold q_own at ho; rw [f_rem_o (u := u) (by omega) (by omega) (by omega), f_come_n (by omega) (by omega)]), ⟨ss2, mc2, _, hL2⟩, ⟨E, c_E_J (c_E_tx hE (by rw [hIf 3 (by omega) (by omega) (by omega)]; exact fr5 3 (by omega) (by omega) (by omega) (by omega) (by omega) (by omega) (by omega)) hm192) (fun x hx => l6 x (by omega))⟩⟩ (fun x hx => by rw [hIf x (by omega) (by omega) (by omega)]; exact fr5 x (by omega) (by omega) (by omega) (by omega) (by omega) (by omega) (by omega)) ⟨by rw [l6 208 (by omega)]; exact q_un (by decide), by rw [l6 192 (by omega)]; exact q_un (by decide)⟩
  · skip
    rw [hJ 5 (by decide)] at hz
    exact absurd hp5 hz
set_option maxHeartbeats 8000000 in
theorem k_new_old1 {L d n : Nat} {I : q_I} {J : q_L} {R : q_R} {Q : q_Q} {M : q_I} {N : q_L} {ss : Nat → Nat → Nat} {mc : Nat → Nat} {tr p e a b x y le c : Nat} {g : Nat → Int32} (h : CR n I J R M N) (hL : c_L n I R M ss mc tr) (hp : p < 16) (hl : q_ar n le 1 12) (hJ : ∀ k, k < 12 → J le k = N 208 (e + k)) (hwf : q_wf M N e a b x y) (hkd : N 208 (e + 2) = lN 0) (hM1 : M 201 b = nI c) (hc10 : c ≤ 10) (hnow : f_now M N e b = false) (hold : f_old M N e b = true) {k : Nat} (hk : k < c) (hit : f_it M N e b c = k) (hQ : ∀ n' I' J' R', CR n' I' J' R' ((f_beg2 g M N e a b p (mc p) c).2.1) ((f_beg2 g M N e a b p (mc p) c).2.2) → q_nmf I' I → (J' 208 = J 208 ∧ J' 192 = J 192) → Q (some (.int (f_beg2 g M N e a b p (mc p) c).1)) (n', I', J', R')) : q_W L (d + 6) 67 q_m67 Q 59 [some (.ref 3), some (.ref le), some (.ref (160 + 2 * p)), some (.ref (84 + 19 * b)), some (.int (nI 1)), some (.int (nI k)), none, none] [] (n, I, J, R) 0 0 := by
  have hK := h.K
  have ha := h.ac
  have htg := hL.ts.ge
  have hm3 := (hL.m3 p hp).1
  obtain ⟨E, hE⟩ := h.en
  have h4b := hwf.hb
  have h4a := hwf.ha
  have hA := q_Ac_of hK h4b
  have hcA := ha b h4b
  have hJ4 := hJ 4 (by decide)
  have hp5 : N 208 (e + 5) = (M 199 (2 * b + 1)).toInt64 := (of_decide_eq_true hold).2
  have hid : (J le 3).toInt32 = M 197 (2 * a + 1) := by rw [hJ 3 (by decide), (hwf.f1 hkd).1, Int32.toInt32_toInt64]
  have hb6 : N 208 (e + 6) = (M 200 (2 * (10 * b + k) + 1)).toInt64 := by
    have hg := (g_first_s (f_hit M N e b) c).2.2
    rw [show g_first (f_hit M N e b) c = k from hit] at hg
    exact (of_decide_eq_true (hg hk)).symm
  obtain ⟨c0, pr, hc0, hM1b, -, hpr, hpi, hpv⟩ := hcA.once
  have ecc : c0 = c := (nI_eq (by omega) (by omega)).mp (hM1b.symm.trans hM1)
  subst ecc
  have hBR : (f_brow g M N e a b c0) = s_new (N 208 (e + 4)).toInt32 (M 199 (2 * b)) (M 199 (2 * b + 1)) (g_agr (g_pow (M 197 (2 * a + 1)) (M 199 (2 * b))) (g_pow (N 208 (e + 4)).toInt32 (M 197 (2 * b))) (g_pow (N 208 (e + 4)).toInt32 (M 199 (2 * b))) (g_pow (N 208 (e + 4)).toInt32 (M 200 (2 * (10 * b + k)))) (M 197 (2 * a + 1)) (M 197 (2 * b + 1)) (M 200 (2 * (10 * b + k) + 1))) g := by unfold f_brow; rw [if_neg (by rw [hnow]; decide), hit, if_pos hk, if_pos hk, hp5, Int32.toInt32_toInt64]
  refine q_k 2 ?_
  show q_W L (d + 6) 67 q_m67 Q 61 [some (.ref 3), some (.ref le), some (.ref (160 + 2 * p)), some (.ref (84 + 19 * b)), some (.int (nI 1)), some (.int (nI k)), none, none] [.int (nI 4), .ref le] (n, I, J, R) 0 0
  refine q_lal (m := 4) rfl (hl) (by decide) (rfl) ?_
  refine q_k 3 ?_
  show q_W L (d + 6) 67 q_m67 Q 66 [some (.ref 3), some (.ref le), some (.ref (160 + 2 * p)), some (.ref (84 + 19 * b)), some (.int (nI 1)), some (.int (nI k)), some (.int ((J le 4).toInt32)), none] [.ref 3] (n, I, J, R) 0 0
  refine q_gR (b := tr) rfl rfl (⟨Nat.lt_of_lt_of_le (by decide) hK.1, rfl⟩) (hL.tr) ?_
  refine q_cv (as := []) (rs := []) rfl rfl rfl (hL.ts.ob) rfl rfl ?_
  refine c_clear (hL.ts) (fun I1 z1 y1 g1 => ?_)
  show q_W L (d + 6) 67 q_m67 Q 72 [some (.ref 3), some (.ref le), some (.ref (160 + 2 * p)), some (.ref (84 + 19 * b)), some (.int (nI 1)), some (.int (nI k)), some (.int ((J le 4).toInt32)), none] [] (n, I1, J, R) 0 0
  refine q_k 1 ?_
  show q_W L (d + 6) 67 q_m67 Q 73 [some (.ref 3), some (.ref le), some (.ref (160 + 2 * p)), some (.ref (84 + 19 * b)), some (.int (nI 1)), some (.int (nI k)), some (.int ((J le 4).toInt32)), none] [.ref 3] (n, I1, J, R) 0 0
  refine q_gR (b := tr) rfl rfl (⟨Nat.lt_of_lt_of_le (by decide) hK.1, rfl⟩) (hL.tr) ?_
  refine q_k 1 ?_
  show q_W L (d + 6) 67 q_m67 Q 78 [some (.ref 3), some (.ref le), some (.ref (160 + 2 * p)), some (.ref (84 + 19 * b)), some (.int (nI 1)), some (.int (nI k)), some (.int ((J le 4).toInt32)), none] [.int ((J le 4).toInt32), .ref tr] (n, I1, J, R) 0 0
  refine q_pI rfl rfl rfl (hL.ts.ob) ?_
  obtain ⟨I2, eI2⟩ : ∃ zz9, zz9 = q_up I1 tr 0 ((J le 4).toInt32) := ⟨_, rfl⟩
  rw [← eI2]
  refine q_k 1 ?_
  show q_W L (d + 6) 67 q_m67 Q 82 [some (.ref 3), some (.ref le), some (.ref (160 + 2 * p)), some (.ref (84 + 19 * b)), some (.int (nI 1)), some (.int (nI k)), some (.int ((J le 4).toInt32)), none] [.ref 3] (n, I2, J, R) 0 0
  refine q_gR (b := tr) rfl rfl (⟨Nat.lt_of_lt_of_le (by decide) hK.1, rfl⟩) (hL.tr) ?_
  refine q_gR (b := (tr + 2)) rfl rfl (hL.ts.ob) (hL.ts.r2) ?_
  refine q_k 3 ?_
  show q_W L (d + 6) 67 q_m67 Q 91 [some (.ref 3), some (.ref le), some (.ref (160 + 2 * p)), some (.ref (84 + 19 * b)), some (.int (nI 1)), some (.int (nI k)), some (.int ((J le 4).toInt32)), none] [.int (nI 5), .ref le, .ref (84 + 19 * b), .ref (tr + 2)] (n, I2, J, R) 0 0
  refine q_lal (m := 5) rfl (hl) (by decide) (rfl) ?_
  refine q_cv (as := [.long (J le 5)]) (rs := [.ref (tr + 2)]) rfl rfl rfl (hA.ob) rfl rfl ?_
  refine c_signedOf (M := M) (u := b) hA (c_A_to hcA (fun x h1 h2 => by rw [eI2, q_un (by omega), g1 x (by omega) (by omega)]) rfl (q_eu_rf _ _)) (fun hz => ?_) (fun hz => ?_)
  · skip
    rw [hJ 5 (by decide)] at hz
    exact absurd (decide_eq_true hz) (by unfold f_now at hnow; rw [hnow]; decide)
  · skip
    show q_W L (d + 6) 67 q_m67 Q 95 [some (.ref 3), some (.ref le), some (.ref (160 + 2 * p)), some (.ref (84 + 19 * b)), some (.int (nI 1)), some (.int (nI k)), some (.int ((J le 4).toInt32)), none] [.ref (84 + 19 * b + 3), .ref (tr + 2)] (n, I2, J, R) 0 0
    refine q_cv (as := [.ref (84 + 19 * b + 3)]) (rs := []) rfl rfl rfl (hL.ts.o2) rfl rfl ?_
    refine c_Pair_become hL.ts.o2 hA.o3 ?_
    obtain ⟨I3, eI3⟩ : ∃ zz9, zz9 = q_up (q_up I2 (tr + 2) 0 (I2 (84 + 19 * b + 3) 0)) (tr + 2) 1 (q_up I2 (tr + 2) 0 (I2 (84 + 19 * b + 3) 0) (84 + 19 * b + 3) 1) := ⟨_, rfl⟩
    rw [← eI3]
    have ho : I (84 + 19 * b + 3) 0 = M 199 (2 * b) ∧ I (84 + 19 * b + 3) 1 = M 199 (2 * b + 1) := by
      rcases hcA.old with ⟨-, q⟩ | ⟨-, -, q1, q2⟩
      · exact absurd q (of_decide_eq_true hold).1
      · exact ⟨q1, q2⟩
    have g2 : ∀ x, (x < tr ∨ tr + 10 ≤ x) → I2 x = I x := fun x hx => by rw [eI2, q_un (by omega), g1 x (by omega) (by omega)]
    have g3 : ∀ x, (x < tr ∨ tr + 10 ≤ x) → I3 x = I x := fun x hx => by rw [eI3, q_un (by omega), q_un (by omega)]; exact g2 x hx
    have p30 : I3 (tr + 2) 0 = M 199 (2 * b) := by rw [eI3, q_usn (by decide), q_usk, g2 (84 + 19 * b + 3) (by omega)]; exact ho.1
    have p31 : I3 (tr + 2) 1 = M 199 (2 * b + 1) := by rw [eI3, q_usk, q_un (by omega), g2 (84 + 19 * b + 3) (by omega)]; exact ho.2
    have t3 : ∀ k, (k = 3 ∨ (6 ≤ k ∧ k ≤ 9) ∨ (11 ≤ k ∧ k ≤ 14)) → I3 tr k = nI 0 := fun k hk => by rw [eI3, q_un (by omega), q_un (by omega), eI2, q_usn (by omega)]; exact z1 k (by omega)
    have b3 : I3 tr 0 = (N 208 (e + 4)).toInt32 := by rw [eI3, q_un (by omega), q_un (by omega), eI2, q_usk, hJ4]
    have k3 : I3 (tr + 5) 0 = nI 0 := by rw [eI3, q_un (by omega), q_un (by omega), eI2, q_un (by omega)]; exact y1
    show q_W L (d + 6) 67 q_m67 Q 98 [some (.ref 3), some (.ref le), some (.ref (160 + 2 * p)), some (.ref (84 + 19 * b)), some (.int (nI 1)), some (.int (nI k)), some (.int ((J le 4).toInt32)), none] [] (n, I3, J, R) 0 0
    refine q_k 4 ?_
    show q_W L (d + 6) 67 q_m67 Q 103 [some (.ref 3), some (.ref le), some (.ref (160 + 2 * p)), some (.ref (84 + 19 * b)), some (.int (nI 1)), some (.int (nI k)), some (.int ((J le 4).toInt32)), none] [.int (nI 1), .ref (84 + 19 * b), .ref le, .ref 3] (n, I3, J, R) 0 0
    refine q_one rfl rfl ?_
    show ((nI 1) = 0 → q_W L (d + 6) 67 q_m67 Q 121 [some (.ref 3), some (.ref le), some (.ref (160 + 2 * p)), some (.ref (84 + 19 * b)), some (.int (nI 1)), some (.int (nI k)), some (.int ((J le 4).toInt32)), none] [.ref (84 + 19 * b), .ref le, .ref 3] (n, I3, J, R) 0 0) ∧ (¬ (nI 1) = 0 → q_W L (d + 6) 67 q_m67 Q 106 [some (.ref 3), some (.ref le), some (.ref (160 + 2 * p)), some (.ref (84 + 19 * b)), some (.int (nI 1)), some (.int (nI k)), some (.int ((J le 4).toInt32)), none] [.ref (84 + 19 * b), .ref le, .ref 3] (n, I3, J, R) 0 0)
    refine ⟨fun z => absurd z (by decide), fun _ => ?_⟩
    refine q_k 1 ?_
    show q_W L (d + 6) 67 q_m67 Q 107 [some (.ref 3), some (.ref le), some (.ref (160 + 2 * p)), some (.ref (84 + 19 * b)), some (.int (nI 1)), some (.int (nI k)), some (.int ((J le 4).toInt32)), none] [.ref (84 + 19 * b), .ref (84 + 19 * b), .ref le, .ref 3] (n, I3, J, R) 0 0
    refine q_gR (b := (84 + 19 * b + 4)) rfl rfl (hA.ob) (hA.r6) ?_
    refine q_k 1 ?_
    show q_W L (d + 6) 67 q_m67 Q 112 [some (.ref 3), some (.ref le), some (.ref (160 + 2 * p)), some (.ref (84 + 19 * b)), some (.int (nI 1)), some (.int (nI k)), some (.int ((J le 4).toInt32)), none] [.int (nI k), .ref (84 + 19 * b + 4), .ref (84 + 19 * b), .ref le, .ref 3] (n, I3, J, R) 0 0
    refine q_aal (m := k) (b := (pr k)) rfl (hA.o4) ⟨rfl, rfl⟩ (by omega) rfl ((hpr k (by omega)).1) ?_
    refine q_k 1 ?_
    show q_W L (d + 6) 67 q_m67 Q 115 [some (.ref 3), some (.ref le), some (.ref (160 + 2 * p)), some (.ref (84 + 19 * b)), some (.int (nI 1)), some (.int (nI k)), some (.int ((J le 4).toInt32)), none] [.int ((J le 4).toInt32), .ref (pr k), .ref (84 + 19 * b), .ref le, .ref 3] (n, I3, J, R) 0 0
    refine q_cv (as := [.int ((J le 4).toInt32)]) (rs := [.ref (84 + 19 * b), .ref le, .ref 3]) rfl rfl rfl (hA.op _ (hpr k (by omega)).2.1 (hpr k (by omega)).2.2) rfl rfl ?_
    refine c_shared (hA.op _ (hpr k (by omega)).2.1 (hpr k (by omega)).2.2) ?_
    show q_W L (d + 6) 67 q_m67 Q 118 [some (.ref 3), some (.ref le), some (.ref (160 + 2 * p)), some (.ref (84 + 19 * b)), some (.int (nI 1)), some (.int (nI k)), some (.int ((J le 4).toInt32)), none] [.int (g_pow (J le 4).toInt32 (I3 (pr k) 0)), .ref (84 + 19 * b), .ref le, .ref 3] (n, I3, J, R) 0 0
    refine q_k 1 ?_
    show q_W L (d + 6) 67 q_m67 Q 122 [some (.ref 3), some (.ref le), some (.ref (160 + 2 * p)), some (.ref (84 + 19 * b)), some (.int (nI 1)), some (.int (nI k)), some (.int ((J le 4).toInt32)), none] [.int (g_pow (J le 4).toInt32 (I3 (pr k) 0)), .ref (84 + 19 * b), .ref le, .ref 3] (n, I3, J, R) 0 0
    refine q_cv (as := [.ref le, .ref (84 + 19 * b), .int (g_pow (J le 4).toInt32 (I3 (pr k) 0))]) (rs := []) rfl rfl rfl (⟨Nat.lt_of_lt_of_le (by decide) hK.1, rfl⟩) rfl rfl ?_
    refine c_agree2 (t := tr) (q_K0_to hK (g3 0 (by omega)) (g3 1 (by omega))) (hA) (hL.tr) (hL.ts) (hl) (fun I4 r4 g4 => ?_)
    have hm : s_R I4 tr (f_brow g M N e a b c0) := by
      rw [hBR]
      refine s_R_new (fun k hk => ?_) ?_ ?_ ?_ ?_ (fun i hi => ?_)
      · rw [g4 tr (by omega) (by omega) (by omega)]; exact t3 k hk
      · rw [g4 tr (by omega) (by omega) (by omega)]; exact b3
      · rw [g4 (tr + 2) (by omega) (by omega) (by omega)]; exact p30
      · rw [g4 (tr + 2) (by omega) (by omega) (by omega)]; exact p31
      · rw [g4 (tr + 5) (by omega) (by omega) (by omega)]; exact k3
      · rw [r4 i hi, p30, hid, hJ4, g3 (84 + 19 * b + 1) (by omega), hcA.i0, hcA.i1, hJ 6 (by decide), hb6, Int32.toInt32_toInt64, g3 (pr k) (by have := hpr k (by omega); omega), (hpv k hk).1]
    have g4t : ∀ x, x ≠ 5 → x ≠ 6 → (x < tr ∨ tr + 10 ≤ x) → I4 x = I x := fun x h5 h6 hx => (g4 x h5 h6 (by omega)).trans (g3 x hx)
    show q_W L (d + 6) 67 q_m67 Q 125 [some (.ref 3), some (.ref le), some (.ref (160 + 2 * p)), some (.ref (84 + 19 * b)), some (.int (nI 1)), some (.int (nI k)), some (.int ((J le 4).toInt32)), none] [] (n, I4, J, R) 0 0
    refine q_k 2 ?_
    show q_W L (d + 6) 67 q_m67 Q 127 [some (.ref 3), some (.ref le), some (.ref (160 + 2 * p)), some (.ref (84 + 19 * b)), some (.int (nI 1)), some (.int (nI k)), some (.int ((J le 4).toInt32)), none] [.ref le, .ref 3] (n, I4, J, R) 0 0
    refine q_cv (as := [.ref le]) (rs := []) rfl rfl rfl (⟨Nat.lt_of_lt_of_le (by decide) hK.1, rfl⟩) rfl rfl ?_
    refine c_tryTrial (t := tr) (e := e) (r := (f_brow g M N e a b c0)) (N := N) (M := M) (q_K0_to hK (g4t 0 (by omega) (by omega) (by omega)) (g4t 1 (by omega) (by omega) (by omega))) (fun u hu => c_A_to (ha u hu) (fun x h1 h2 => g4t x (by omega) (by omega) (by omega)) rfl (q_eu_rf _ _)) (hL.tr) (hL.ts) (hl) (hJ) (hwf) (hm) (Or.inr ⟨by rw [hBR]; exact s_new_0 (by omega), by obtain ⟨xx, hx2, hx3, hxe⟩ := hwf.fx; rw [hBR, s_new_0 (by omega), hxe, lN_i]; exact fun z => absurd ((nI_eq (by omega) (by decide)).mp z) (by omega)⟩) (by rw [hBR]; exact s_new_ri _ _ _ _ _) (fun I5 z g5 => ?_) (fun I5 z a5 b5 c5 g5 => ?_)
    · skip
      show q_W L (d + 6) 67 q_m67 Q 130 [some (.ref 3), some (.ref le), some (.ref (160 + 2 * p)), some (.ref (84 + 19 * b)), some (.int (nI 1)), some (.int (nI k)), some (.int ((J le 4).toInt32)), none] [.int ((f_try M N e a b (f_brow g M N e a b c0)).1)] (n, I5, J, R) 0 0
      obtain ⟨gv, egv⟩ : ∃ z, z = (f_try M N e a b (f_brow g M N e a b c0)).1 := ⟨_, rfl⟩
      rw [← egv]
      have hz' : ¬ gv = 0 := by rw [egv]; exact z
      show q_W L (d + 6) 67 q_m67 Q 130 [some (.ref 3), some (.ref le), some (.ref (160 + 2 * p)), some (.ref (84 + 19 * b)), some (.int (nI 1)), some (.int (nI k)), some (.int ((J le 4).toInt32)), none] [.int gv] (n, I5, J, R) 0 0
      refine q_k 2 ?_
      show q_W L (d + 6) 67 q_m67 Q 134 [some (.ref 3), some (.ref le), some (.ref (160 + 2 * p)), some (.ref (84 + 19 * b)), some (.int (nI 1)), some (.int (nI k)), some (.int ((J le 4).toInt32)), some (.int gv)] [.int gv] (n, I5, J, R) 0 0
      refine q_one rfl rfl ?_
      show (¬ gv = 0 → q_W L (d + 6) 67 q_m67 Q 160 [some (.ref 3), some (.ref le), some (.ref (160 + 2 * p)), some (.ref (84 + 19 * b)), some (.int (nI 1)), some (.int (nI k)), some (.int ((J le 4).toInt32)), some (.int gv)] [] (n, I5, J, R) 0 0) ∧ (gv = 0 → q_W L (d + 6) 67 q_m67 Q 137 [some (.ref 3), some (.ref le), some (.ref (160 + 2 * p)), some (.ref (84 + 19 * b)), some (.int (nI 1)), some (.int (nI k)), some (.int ((J le 4).toInt32)), some (.int gv)] [] (n, I5, J, R) 0 0)
      refine ⟨fun _ => ?_, fun z => absurd z (hz')⟩
      refine q_k 1 ?_
      show q_W L (d + 6) 67 q_m67 Q 162 [some (.ref 3), some (.ref le), some (.ref (160 + 2 * p)), some (.ref (84 + 19 * b)), some (.int (nI 1)), some (.int (nI k)), some (.int ((J le 4).toInt32)), some (.int gv)] [.int gv] (n, I5, J, R) 0 0
      refine q_one rfl rfl ?_
      show Q (some (.int gv)) (n, I5, J, R)
      rw [show f_beg2 g M N e a b p (mc p) c0 = ((f_try M N e a b (f_brow g M N e a b c0)).1, M, N) by unfold f_beg2; rw [if_neg z]] at hQ
      dsimp only at hQ
      obtain ⟨c1, c2⟩ := CR_frt h hL (I2 := I5) (fun x h5 h6 h7 _ h82 h83 hx => (g5 x h5 h6 h7 h82 h83 hx).trans (g4t x h5 h6 hx))
      rw [egv]
      exact hQ n I5 J R c1 c2 ⟨rfl, rfl⟩
    · skip
      show q_W L (d + 6) 67 q_m67 Q 130 [some (.ref 3), some (.ref le), some (.ref (160 + 2 * p)), some (.ref (84 + 19 * b)), some (.int (nI 1)), some (.int (nI k)), some (.int ((J le 4).toInt32)), none] [.int (nI 0)] (n, I5, q_up J 3 5 (J le 10 ^^^ g_wide (f_try M N e a b (f_brow g M N e a b c0)).2.2.1 (nI 9) (nI 0) (nI 0) (nI 0)), R) 0 0
      have fr5 : ∀ x, x ≠ 5 → x ≠ 6 → x ≠ 7 → x ≠ 82 → x ≠ 83 → x ≠ 84 + 19 * b → (x < tr ∨ tr + 10 ≤ x) → I5 x = I x := fun x h5 h6 h7 h82 h83 hb hx => (g5 x h5 h6 h7 h82 h83 hb hx).trans (g4t x h5 h6 hx)
      have hF : f_beg2 g M N e a b p (mc p) c0 = (nI 0, (f_rem b k c0 (f_come p (mc p) (va_up (f_try M N e a b (f_brow g M N e a b c0)).2.1 11 (nI 1)) (f_ok (f_try M N e a b (f_brow g M N e a b c0)) b M))), f_tx N e (f_try M N e a b (f_brow g M N e a b c0))) := by unfold f_beg2; rw [if_pos z, hit, if_pos hk]
      rw [hF] at hQ
      dsimp only at hQ
      rw [hJ 10 (by decide)]
      have hri5 := f_try_ri (r := (f_brow g M N e a b c0)) hwf (by rw [hBR]; exact s_new_ri _ _ _ _ _) z
      have hme : ∀ q, (f_rem b k c0 (f_come p (mc p) (va_up (f_try M N e a b (f_brow g M N e a b c0)).2.1 11 (nI 1)) (f_ok (f_try M N e a b (f_brow g M N e a b c0)) b M))) 206 q = if q = p then nI (min (mc p) 2 + 1) else M 206 q := fun q => by rw [f_rem_n (by decide) (by decide)]; rw [f_come_206, f_ok_n (by decide)]; unfold va_up; rfl
      have hm5 : (f_rem b k c0 (f_come p (mc p) (va_up (f_try M N e a b (f_brow g M N e a b c0)).2.1 11 (nI 1)) (f_ok (f_try M N e a b (f_brow g M N e a b c0)) b M))) 205 = f_rows p (min (mc p) 2) (va_up (f_try M N e a b (f_brow g M N e a b c0)).2.1 11 (nI 1)) M 205 := by rw [f_rem_n (by decide) (by decide)]; exact (f_come_205 (f_ok_n (by decide)).symm (fun _ _ => rfl)).symm
      have hm192 : (f_rem b k c0 (f_come p (mc p) (va_up (f_try M N e a b (f_brow g M N e a b c0)).2.1 11 (nI 1)) (f_ok (f_try M N e a b (f_brow g M N e a b c0)) b M))) 192 16 = M 192 16 := by rw [f_rem_n (by decide) (by decide)]; rw [f_come_n (by decide) (by decide), f_ok_n (by decide)]
      show q_W L (d + 6) 67 q_m67 Q 130 [some (.ref 3), some (.ref le), some (.ref (160 + 2 * p)), some (.ref (84 + 19 * b)), some (.int (nI 1)), some (.int (nI k)), some (.int ((J le 4).toInt32)), none] [.int (nI 0)] (n, I5, q_up J 3 5 (N 208 (e + 10) ^^^ g_wide (f_try M N e a b (f_brow g M N e a b c0)).2.2.1 (nI 9) (nI 0) (nI 0) (nI 0)), R) 0 0
      refine q_k 2 ?_
      show q_W L (d + 6) 67 q_m67 Q 134 [some (.ref 3), some (.ref le), some (.ref (160 + 2 * p)), some (.ref (84 + 19 * b)), some (.int (nI 1)), some (.int (nI k)), some (.int ((J le 4).toInt32)), some (.int (nI 0))] [.int (nI 0)] (n, I5, q_up J 3 5 (N 208 (e + 10) ^^^ g_wide (f_try M N e a b (f_brow g M N e a b c0)).2.2.1 (nI 9) (nI 0) (nI 0) (nI 0)), R) 0 0
      refine q_one rfl rfl ?_
      show (¬ (nI 0) = 0 → q_W L (d + 6) 67 q_m67 Q 160 [some (.ref 3), some (.ref le), some (.ref (160 + 2 * p)), some (.ref (84 + 19 * b)), some (.int (nI 1)), some (.int (nI k)), some (.int ((J le 4).toInt32)), some (.int (nI 0))] [] (n, I5, q_up J 3 5 (N 208 (e + 10) ^^^ g_wide (f_try M N e a b (f_brow g M N e a b c0)).2.2.1 (nI 9) (nI 0) (nI 0) (nI 0)), R) 0 0) ∧ ((nI 0) = 0 → q_W L (d + 6) 67 q_m67 Q 137 [some (.ref 3), some (.ref le), some (.ref (160 + 2 * p)), some (.ref (84 + 19 * b)), some (.int (nI 1)), some (.int (nI k)), some (.int ((J le 4).toInt32)), some (.int (nI 0))] [] (n, I5, q_up J 3 5 (N 208 (e + 10) ^^^ g_wide (f_try M N e a b (f_brow g M N e a b c0)).2.2.1 (nI 9) (nI 0) (nI 0) (nI 0)), R) 0 0)
      refine ⟨fun z => absurd (by decide) z, fun _ => ?_⟩
      refine q_k 3 ?_
      show q_W L (d + 6) 67 q_m67 Q 140 [some (.ref 3), some (.ref le), some (.ref (160 + 2 * p)), some (.ref (84 + 19 * b)), some (.int (nI 1)), some (.int (nI k)), some (.int ((J le 4).toInt32)), some (.int (nI 0))] [.ref 3, .ref (160 + 2 * p), .ref 3] (n, I5, q_up J 3 5 (N 208 (e + 10) ^^^ g_wide (f_try M N e a b (f_brow g M N e a b c0)).2.2.1 (nI 9) (nI 0) (nI 0) (nI 0)), R) 0 0
      refine q_gR (b := tr) rfl rfl (⟨Nat.lt_of_lt_of_le (by decide) hK.1, rfl⟩) (hL.tr) ?_
      refine q_cvA (as := [.ref tr]) (rs := [.ref 3]) rfl rfl rfl (q_obL hK.1 hp) rfl rfl ⟨by decide, by decide⟩ ?_
      refine c_putInFront (s := 160 + 2 * p) (m := mc p) (rr := ss p) (q_obL hK.1 hp) (hK.2.1 _ _ _ (q_fxL p hp)) (q_arL hK.1 hp) (by omega) h.nj (by rw [fr5 (160 + 2 * p) (by omega) (by omega) (by omega) (by omega) (by omega) (by omega) (by omega)]; exact (hL.m3 p hp).2.2) hm3 hL.ts.ob (fun i hi => ⟨(hL.rw p i hp hi).1, (hL.se hp hi).ob⟩) (fun em I6 R6 i6 j6 x0 x1 x2 x6 => ?_) (fun em I6 J6 R6 i6 x0 xk j6 l6 x6 s6 => ?_)
      · skip
        show q_W L (d + 6) 67 q_m67 Q 146 [some (.ref 3), some (.ref le), some (.ref (160 + 2 * p)), some (.ref (84 + 19 * b)), some (.int (nI 1)), some (.int (nI k)), some (.int ((J le 4).toInt32)), some (.int (nI 0))] [.ref (ss p 2), .ref 3] (n, I6, q_up J 3 5 (N 208 (e + 10) ^^^ g_wide (f_try M N e a b (f_brow g M N e a b c0)).2.2.1 (nI 9) (nI 0) (nI 0) (nI 0)), R6) 10 334
        have gI : ∀ x, x ≠ 160 + 2 * p → x < n → I6 x = I5 x := fun x hx _ => j6 x hx
        have gR : ∀ x, x ≠ 160 + 2 * p + 1 → x < n → R6 x = R x := fun x hx _ => x6 x hx
        have h2m : 2 < mc p := by omega
        have hn0 := hK.1
        refine q_pR rfl rfl rfl (⟨by omega, rfl⟩) ?_
        obtain ⟨R7, eR7⟩ : ∃ zz9, zz9 = q_up R6 3 6 (some (ss p 2)) := ⟨_, rfl⟩
        rw [← eR7]
        refine q_k 1 ?_
        show q_W L (d + 6) 67 q_m67 Q 151 [some (.ref 3), some (.ref le), some (.ref (160 + 2 * p)), some (.ref (84 + 19 * b)), some (.int (nI 1)), some (.int (nI k)), some (.int ((J le 4).toInt32)), some (.int (nI 0))] [.int (nI 1)] (n, I6, q_up J 3 5 (N 208 (e + 10) ^^^ g_wide (f_try M N e a b (f_brow g M N e a b c0)).2.2.1 (nI 9) (nI 0) (nI 0) (nI 0)), R7) 10 334
        refine q_one rfl rfl ?_
        show ((nI 1) = 0 → q_W L (d + 6) 67 q_m67 Q 160 [some (.ref 3), some (.ref le), some (.ref (160 + 2 * p)), some (.ref (84 + 19 * b)), some (.int (nI 1)), some (.int (nI k)), some (.int ((J le 4).toInt32)), some (.int (nI 0))] [] (n, I6, q_up J 3 5 (N 208 (e + 10) ^^^ g_wide (f_try M N e a b (f_brow g M N e a b c0)).2.2.1 (nI 9) (nI 0) (nI 0) (nI 0)), R7) 10 334) ∧ (¬ (nI 1) = 0 → q_W L (d + 6) 67 q_m67 Q 154 [some (.ref 3), some (.ref le), some (.ref (160 + 2 * p)), some (.ref (84 + 19 * b)), some (.int (nI 1)), some (.int (nI k)), some (.int ((J le 4).toInt32)), some (.int (nI 0))] [] (n, I6, q_up J 3 5 (N 208 (e + 10) ^^^ g_wide (f_try M N e a b (f_brow g M N e a b c0)).2.2.1 (nI 9) (nI 0) (nI 0) (nI 0)), R7) 10 334)
        refine ⟨fun z => absurd z (by decide), fun _ => ?_⟩
        refine q_k 2 ?_
        show q_W L (d + 6) 67 q_m67 Q 157 [some (.ref 3), some (.ref le), some (.ref (160 + 2 * p)), some (.ref (84 + 19 * b)), some (.int (nI 1)), some (.int (nI k)), some (.int ((J le 4).toInt32)), some (.int (nI 0))] [.int (nI k), .ref (84 + 19 * b)] (n, I6, q_up J 3 5 (N 208 (e + 10) ^^^ g_wide (f_try M N e a b (f_brow g M N e a b c0)).2.2.1 (nI 9) (nI 0) (nI 0) (nI 0)), R7) 10 334
        refine q_cv (as := [.int (nI k)]) (rs := []) rfl rfl rfl (⟨Nat.lt_of_lt_of_le hA.ob.1 (by omega), hA.ob.2⟩) rfl rfl ?_
        have c7 : c_A I6 R7 (f_come p (mc p) (va_up (f_try M N e a b (f_brow g M N e a b c0)).2.1 11 (nI 1)) (f_ok (f_try M N e a b (f_brow g M N e a b c0)) b M)) (84 + 19 * b) b := c_A_to (c5 b h4b) (fun x h1 h2 => gI x (by omega) (by omega)) (by rw [eR7, q_un (by omega)]; exact gR _ (by omega) (by omega)) (fun r l ho => by unfold q_own at ho; rw [f_come_n (by omega) (by omega)])
        have hA7 : q_Ac (n) R7 (84 + 19 * b) := q_Ac_of (q_K0_R hK (show n ≤ n by omega) (fun x l => by by_cases x1 : x = 160 + 2 * p + 1; exact Or.inr (by rw [x1]; exact q_fxn1 hp); by_cases x4 : 214 ≤ x; exact Or.inr (q_fxS x4); by_cases x3 : x = 3; subst x3; by_cases l6 : l = 6; exact Or.inr (by rw [l6]; rfl); exact Or.inl (by rw [eR7, q_usn l6, gR 3 (by omega) (by omega)]); exact Or.inl (by rw [eR7, q_un x3, gR x x1 (by omega)]))) h4b
        refine c_removeOneTime (c := c0) (k0 := k) (hA7) (c7) (by rw [f_come_n (by decide) (by decide), f_ok_n (by decide)]; exact hM1) (hc10) (hk) (fun I7 R8 c8 x8 y8 => ?_)
        show q_W L (d + 6) 67 q_m67 Q 160 [some (.ref 3), some (.ref le), some (.ref (160 + 2 * p)), some (.ref (84 + 19 * b)), some (.int (nI 1)), some (.int (nI k)), some (.int ((J le 4).toInt32)), some (.int (nI 0))] [] (n, I7, q_up J 3 5 (N 208 (e + 10) ^^^ g_wide (f_try M N e a b (f_brow g M N e a b c0)).2.2.1 (nI 9) (nI 0) (nI 0) (nI 0)), R8) 10 334
        refine q_k 1 ?_
        show q_W L (d + 6) 67 q_m67 Q 162 [some (.ref 3), some (.ref le), some (.ref (160 + 2 * p)), some (.ref (84 + 19 * b)), some (.int (nI 1)), some (.int (nI k)), some (.int ((J le 4).toInt32)), some (.int (nI 0))] [.int (nI 0)] (n, I7, q_up J 3 5 (N 208 (e + 10) ^^^ g_wide (f_try M N e a b (f_brow g M N e a b c0)).2.2.1 (nI 9) (nI 0) (nI 0) (nI 0)), R8) 10 334
        refine q_one rfl rfl ?_
        show Q (some (.int (nI 0))) (n, I7, q_up J 3 5 (N 208 (e + 10) ^^^ g_wide (f_try M N e a b (f_brow g M N e a b c0)).2.2.1 (nI 9) (nI 0) (nI 0) (nI 0)), R8)
        have hRR : ∀ x, x ≠ 160 + 2 * p + 1 → x ≠ 3 → x ≠ 84 + 19 * b + 4 → x < n → R8 x = R x := fun x h1 h2 h4 h3 => by rw [y8 x h4, eR7, q_un h2]; exact gR x h1 h3
        have hIf : ∀ x, x ≠ 160 + 2 * p → x ≠ 84 + 19 * b → x < n → I7 x = I5 x := fun x h1 h2 h3 => (x8 x h2).trans (gI x h1 h3)
        have hR3 : R8 3 6 = some (ss p 2) := by rw [y8 3 (by omega), eR7, q_usk]
        have hRs1 : R8 (160 + 2 * p + 1) = R6 (160 + 2 * p + 1) := by rw [y8 _ (by omega), eR7, q_un (by omega)]
        have hR3n : ∀ l, l ≠ 6 → R8 3 l = R 3 l := fun l hl => by rw [y8 3 (by omega), eR7, q_usn hl, gR 3 (by omega) (by omega)]
        have hmin : min (mc p) 2 = 2 := by omega
        rw [hmin] at hme hm5
        obtain ⟨ss2, mc2, hL2⟩ := c_L_mv (n2 := n) (I2 := I7) (R2 := R8) (M2 := (f_rem b k c0 (f_come p (mc p) (va_up (f_try M N e a b (f_brow g M N e a b c0)).2.1 11 (nI 1)) (f_ok (f_try M N e a b (f_brow g M N e a b c0)) b M)))) (tr2 := ss p 2) (k := 2) (m2 := 3) (row := (va_up (f_try M N e a b (f_brow g M N e a b c0)).2.1 11 (nI 1))) hL hK.1 (by omega) hp (by omega) (by omega) (by omega) (fun i h1 h2 => by omega) hR3 ((hL.se hp h2m).to (Nat.le_refl _) (hRR _ (by have := (hL.se hp h2m).ge; omega) (by have := (hL.se hp h2m).ge; omega) (by have := (hL.se hp h2m).ge; omega) (by have := (hL.se hp h2m).hi; omega)) (hRR _ (by have := (hL.se hp h2m).ge; omega) (by have := (hL.se hp h2m).ge; omega) (by have := (hL.se hp h2m).ge; omega) (by have := (hL.se hp h2m).hi; omega))) (hL.rw p 2 hp h2m).2.2 (fun q i hq hi hne he => by obtain ⟨e1, e2⟩ := hL.inj q i p 2 hq hi hp h2m he; rcases hne with z1 | z1; exact z1 e1; exact z1 e2) (by rw [hRs1]; exact x0) (fun i hi => by rw [hRs1]; have h01 : i = 0 ∨ i = 1 := (by omega); rcases h01 with rfl | rfl; exact x1; exact x2) (fun i h1 h2 => by omega) (fun x hx h2 => hRR x (by omega) (by omega) (by omega) hx) (fun x hx h2 h3 => by rw [hIf x (by omega) (by omega) hx]; exact fr5 x (by omega) (by omega) (by omega) (by omega) (by omega) (by omega) (by omega)) (by rw [x8 _ (by omega), i6, va_up_self]) (s_R_to a5 (fun x h1 h2 => hIf x (by omega) (by omega) (by have := hL.ts.hi; omega))) (s_S_to b5 (fun x h1 h2 => hIf x (by omega) (by omega) (by have := hL.ts.hi; omega))) hri5 hm5 (fun q hq => by rw [hme q, if_neg hq]) (by rw [hme p, if_pos rfl])
        exact hQ (n) I7 _ R8 ⟨q_K0_R (q_K0_to hK (by rw [hIf 0 (by omega) (by omega) (by omega)]; exact fr5 0 (by omega) (by omega) (by omega) (by omega) (by omega) (by omega) (by omega)) (by rw [hIf 1 (by omega) (by omega) (by omega)]; exact fr5 1 (by omega) (by omega) (by omega) (by omega) (by omega) (by omega) (by omega))) (show n ≤ n by omega) (fun x l => by by_cases x1 : x = 160 + 2 * p + 1; exact Or.inr (by rw [x1]; exact q_fxn1 hp); by_cases x4 : 214 ≤ x; exact Or.inr (q_fxS x4); by_cases x3 : x = 3; subst x3; by_cases l6 : l = 6; exact Or.inr (by rw [l6]; rfl); exact Or.inl (by rw [hR3n l l6]); by_cases x5 : x = 84 + 19 * b + 4; exact Or.inr (by rw [x5]; exact q_fxn4 h4b); exact Or.inl (by rw [hRR x x1 x3 x5 (by omega)])), h.nj, fun u hu => by by_cases eb : b = u; subst eb; exact c8; exact c_A_to (c5 u hu) (fun x h1 h2 => hIf x (by omega) (by omega) (by omega)) (hRR _ (by omega) (by omega) (by omega) (by omega)) (fun r l ho => by unfold q_own at ho; rw [f_rem_o (u := u) (by omega) (by omega) (by omega), f_come_n (by omega) (by omega)]), ⟨ss2, mc2, _, hL2⟩, ⟨E, c_E_tx hE (by rw [hIf 3 (by omega) (by omega) (by omega)]; exact fr5 3 (by omega) (by omega) (by omega) (by omega) (by omega) (by omega) (by omega)) hm192⟩⟩ (fun x hx => by rw [hIf x (by omega) (by omega) (by omega)]; exact fr5 x (by omega) (by omega) (by omega) (by omega) (by omega) (by omega) (by omega)) ⟨q_un (by decide), q_un (by decide)⟩
      · skip
        show q_W L (d + 6) 67 q_m67 Q 146 [some (.ref 3), some (.ref le), some (.ref (160 + 2 * p)), some (.ref (84 + 19 * b)), some (.int (nI 1)), some (.int (nI k)), some (.int ((J le 4).toInt32)), some (.int (nI 0))] [.ref n, .ref 3] (n + 10, I6, J6, R6) 10 334
        have gI : ∀ x, x ≠ 160 + 2 * p → x < n → I6 x = I5 x := fun x hx hl => j6 x hx (Or.inl hl)
        have gR : ∀ x, x ≠ 160 + 2 * p + 1 → x < n → R6 x = R x := fun x hx hl => x6 x hx (Or.inl hl)
        have hn0 := hK.1
        refine q_pR rfl rfl rfl (⟨by omega, rfl⟩) ?_
        obtain ⟨R7, eR7⟩ : ∃ zz9, zz9 = q_up R6 3 6 (some n) := ⟨_, rfl⟩
        rw [← eR7]
        refine q_k 1 ?_
        show q_W L (d + 6) 67 q_m67 Q 151 [some (.ref 3), some (.ref le), some (.ref (160 + 2 * p)), some (.ref (84 + 19 * b)), some (.int (nI 1)), some (.int (nI k)), some (.int ((J le 4).toInt32)), some (.int (nI 0))] [.int (nI 1)] (n + 10, I6, J6, R7) 10 334
        refine q_one rfl rfl ?_
        show ((nI 1) = 0 → q_W L (d + 6) 67 q_m67 Q 160 [some (.ref 3), some (.ref le), some (.ref (160 + 2 * p)), some (.ref (84 + 19 * b)), some (.int (nI 1)), some (.int (nI k)), some (.int ((J le 4).toInt32)), some (.int (nI 0))] [] (n + 10, I6, J6, R7) 10 334) ∧ (¬ (nI 1) = 0 → q_W L (d + 6) 67 q_m67 Q 154 [some (.ref 3), some (.ref le), some (.ref (160 + 2 * p)), some (.ref (84 + 19 * b)), some (.int (nI 1)), some (.int (nI k)), some (.int ((J le 4).toInt32)), some (.int (nI 0))] [] (n + 10, I6, J6, R7) 10 334)
        refine ⟨fun z => absurd z (by decide), fun _ => ?_⟩
        refine q_k 2 ?_
        show q_W L (d + 6) 67 q_m67 Q 157 [some (.ref 3), some (.ref le), some (.ref (160 + 2 * p)), some (.ref (84 + 19 * b)), some (.int (nI 1)), some (.int (nI k)), some (.int ((J le 4).toInt32)), some (.int (nI 0))] [.int (nI k), .ref (84 + 19 * b)] (n + 10, I6, J6, R7) 10 334
        refine q_cv (as := [.int (nI k)]) (rs := []) rfl rfl rfl (⟨Nat.lt_of_lt_of_le hA.ob.1 (by omega), hA.ob.2⟩) rfl rfl ?_
        have c7 : c_A I6 R7 (f_come p (mc p) (va_up (f_try M N e a b (f_brow g M N e a b c0)).2.1 11 (nI 1)) (f_ok (f_try M N e a b (f_brow g M N e a b c0)) b M)) (84 + 19 * b) b := c_A_to (c5 b h4b) (fun x h1 h2 => gI x (by omega) (by omega)) (by rw [eR7, q_un (by omega)]; exact gR _ (by omega) (by omega)) (fun r l ho => by unfold q_own at ho; rw [f_come_n (by omega) (by omega)])
        have hA7 : q_Ac (n + 10) R7 (84 + 19 * b) := q_Ac_of (q_K0_R hK (show n ≤ n + 10 by omega) (fun x l => by by_cases x1 : x = 160 + 2 * p + 1; exact Or.inr (by rw [x1]; exact q_fxn1 hp); by_cases x4 : 214 ≤ x; exact Or.inr (q_fxS x4); by_cases x3 : x = 3; subst x3; by_cases l6 : l = 6; exact Or.inr (by rw [l6]; rfl); exact Or.inl (by rw [eR7, q_usn l6, gR 3 (by omega) (by omega)]); exact Or.inl (by rw [eR7, q_un x3, gR x x1 (by omega)]))) h4b
        refine c_removeOneTime (c := c0) (k0 := k) (hA7) (c7) (by rw [f_come_n (by decide) (by decide), f_ok_n (by decide)]; exact hM1) (hc10) (hk) (fun I7 R8 c8 x8 y8 => ?_)
        show q_W L (d + 6) 67 q_m67 Q 160 [some (.ref 3), some (.ref le), some (.ref (160 + 2 * p)), some (.ref (84 + 19 * b)), some (.int (nI 1)), some (.int (nI k)), some (.int ((J le 4).toInt32)), some (.int (nI 0))] [] (n + 10, I7, J6, R8) 10 334
        refine q_k 1 ?_
        show q_W L (d + 6) 67 q_m67 Q 162 [some (.ref 3), some (.ref le), some (.ref (160 + 2 * p)), some (.ref (84 + 19 * b)), some (.int (nI 1)), some (.int (nI k)), some (.int ((J le 4).toInt32)), some (.int (nI 0))] [.int (nI 0)] (n + 10, I7, J6, R8) 10 334
        refine q_one rfl rfl ?_
        show Q (some (.int (nI 0))) (n + 10, I7, J6, R8)
        have hRR : ∀ x, x ≠ 160 + 2 * p + 1 → x ≠ 3 → x ≠ 84 + 19 * b + 4 → x < n → R8 x = R x := fun x h1 h2 h4 h3 => by rw [y8 x h4, eR7, q_un h2]; exact gR x h1 h3
        have hIf : ∀ x, x ≠ 160 + 2 * p → x ≠ 84 + 19 * b → x < n → I7 x = I5 x := fun x h1 h2 h3 => (x8 x h2).trans (gI x h1 h3)
        have hR3 : R8 3 6 = some (n) := by rw [y8 3 (by omega), eR7, q_usk]
        have hRs1 : R8 (160 + 2 * p + 1) = R6 (160 + 2 * p + 1) := by rw [y8 _ (by omega), eR7, q_un (by omega)]
        have hR3n : ∀ l, l ≠ 6 → R8 3 l = R 3 l := fun l hl => by rw [y8 3 (by omega), eR7, q_usn hl, gR 3 (by omega) (by omega)]
        have hmin : min (mc p) 2 = mc p := by omega
        rw [hmin] at hme hm5
        obtain ⟨ss2, mc2, hL2⟩ := c_L_mv (n2 := n + 10) (I2 := I7) (R2 := R8) (M2 := (f_rem b k c0 (f_come p (mc p) (va_up (f_try M N e a b (f_brow g M N e a b c0)).2.1 11 (nI 1)) (f_ok (f_try M N e a b (f_brow g M N e a b c0)) b M)))) (tr2 := n) (k := mc p) (m2 := (mc p + 1)) (row := (va_up (f_try M N e a b (f_brow g M N e a b c0)).2.1 11 (nI 1))) hL hK.1 (by omega) hp (by omega) (by omega) (by omega) (fun i h1 h2 => by omega) hR3 (s6.to (Nat.le_refl _) (by rw [y8 _ (by omega), eR7, q_un (by omega)]) (by rw [y8 _ (by omega), eR7, q_un (by omega)])) (by have := hL.ts.hi; omega) (fun q i hq hi _ he => by have := (hL.se hq hi).hi; omega) (by rw [hRs1]; exact x0) (fun i hi => by rw [hRs1]; exact xk i hi) (fun i h1 h2 => by omega) (fun x hx h2 => hRR x (by omega) (by omega) (by omega) hx) (fun x hx h2 h3 => by rw [hIf x (by omega) (by omega) hx]; exact fr5 x (by omega) (by omega) (by omega) (by omega) (by omega) (by omega) (by omega)) (by rw [x8 _ (by omega), i6]) (s_R_to a5 (fun x h1 h2 => hIf x (by omega) (by omega) (by have := hL.ts.hi; omega))) (s_S_to b5 (fun x h1 h2 => hIf x (by omega) (by omega) (by have := hL.ts.hi; omega))) hri5 hm5 (fun q hq => by rw [hme q, if_neg hq]) (by rw [hme p, if_pos rfl])
        exact hQ (n + 10) I7 J6 R8 ⟨q_K0_R (q_K0_to hK (by rw [hIf 0 (by omega) (by omega) (by omega)]; exact fr5 0 (by omega) (by omega) (by omega) (by omega) (by omega) (by omega) (by omega)) (by rw [hIf 1 (by omega) (by omega) (by omega)]; exact fr5 1 (by omega) (by omega) (by omega) (by omega) (by omega) (by omega) (by omega))) (show n ≤ n + 10 by omega) (fun x l => by by_cases x1 : x = 160 + 2 * p + 1; exact Or.inr (by rw [x1]; exact q_fxn1 hp); by_cases x4 : 214 ≤ x; exact Or.inr (q_fxS x4); by_cases x3 : x = 3; subst x3; by_cases l6 : l = 6; exact Or.inr (by rw [l6]; rfl); exact Or.inl (by rw [hR3n l l6]); by_cases x5 : x = 84 + 19 * b + 4; exact Or.inr (by rw [x5]; exact q_fxn4 h4b); exact Or.inl (by rw [hRR x x1 x3 x5 (by omega)])), (by obtain ⟨j, hj⟩ := h.nj; exact ⟨j + 1, by omega⟩), fun u hu => by by_cases eb : b = u; subst eb; exact c8; exact c_A_to (c5 u hu) (fun x h1 h2 => hIf x (by omega) (by omega) (by omega)) (hRR _ (by omega) (by omega) (by omega) (by omega)) (fun r l ho => by unfold q_own at ho; rw [f_rem_o (u := u) (by omega) (by omega) (by omega), f_come_n (by omega) (by omega)]), ⟨ss2, mc2, _, hL2⟩, ⟨E, c_E_J (c_E_tx hE (by rw [hIf 3 (by omega) (by omega) (by omega)]; exact fr5 3 (by omega) (by omega) (by omega) (by omega) (by omega) (by omega) (by omega)) hm192) (fun x hx => l6 x (by omega))⟩⟩ (fun x hx => by rw [hIf x (by omega) (by omega) (by omega)]; exact fr5 x (by omega) (by omega) (by omega) (by omega) (by omega) (by omega) (by omega)) ⟨by rw [l6 208 (by omega)]; exact q_un (by decide), by rw [l6 192 (by omega)]; exact q_un (by decide)⟩
set_option maxHeartbeats 8000000 in
theorem k_new_now0 {L d n : Nat} {I : q_I} {J : q_L} {R : q_R} {Q : q_Q} {M : q_I} {N : q_L} {ss : Nat → Nat → Nat} {mc : Nat → Nat} {tr p e a b x y le c : Nat} {g : Nat → Int32} (h : CR n I J R M N) (hL : c_L n I R M ss mc tr) (hp : p < 16) (hl : q_ar n le 1 12) (hJ : ∀ k, k < 12 → J le k = N 208 (e + k)) (hwf : q_wf M N e a b x y) (hkd : N 208 (e + 2) = lN 0) (hM1 : M 201 b = nI c) (hc10 : c ≤ 10) (hnow : f_now M N e b = true) {pl : Int32} (hit : ¬ f_it M N e b c < c) (hN6 : N 208 (e + 6) = lN 0) (hQ : ∀ n' I' J' R', CR n' I' J' R' ((f_beg2 g M N e a b p (mc p) c).2.1) ((f_beg2 g M N e a b p (mc p) c).2.2) → q_nmf I' I → (J' 208 = J 208 ∧ J' 192 = J 192) → Q (some (.int (f_beg2 g M N e a b p (mc p) c).1)) (n', I', J', R')) : q_W L (d + 6) 67 q_m67 Q 59 [some (.ref 3), some (.ref le), some (.ref (160 + 2 * p)), some (.ref (84 + 19 * b)), some (.int (nI 0)), some (.int pl), none, none] [] (n, I, J, R) 0 0 := by
  have hK := h.K
  have ha := h.ac
  have htg := hL.ts.ge
  have hm3 := (hL.m3 p hp).1
  obtain ⟨E, hE⟩ := h.en
  have h4b := hwf.hb
  have h4a := hwf.ha
  have hA := q_Ac_of hK h4b
  have hcA := ha b h4b
  have hJ4 := hJ 4 (by decide)
  have hp5 : N 208 (e + 5) = (M 198 (2 * b + 1)).toInt64 := of_decide_eq_true hnow
  have hid : (J le 3).toInt32 = M 197 (2 * a + 1) := by rw [hJ 3 (by decide), (hwf.f1 hkd).1, Int32.toInt32_toInt64]
  have hBR : (f_brow g M N e a b c) = s_new (N 208 (e + 4)).toInt32 (M 198 (2 * b)) (M 198 (2 * b + 1)) (g_agr (g_pow (M 197 (2 * a + 1)) (M 198 (2 * b))) (g_pow (N 208 (e + 4)).toInt32 (M 197 (2 * b))) (g_pow (N 208 (e + 4)).toInt32 (M 198 (2 * b))) (nI 0) (M 197 (2 * a + 1)) (M 197 (2 * b + 1)) (nI 0)) g := by unfold f_brow; rw [if_pos hnow, if_neg hit, if_neg hit, hp5, Int32.toInt32_toInt64]
  refine q_k 2 ?_
  show q_W L (d + 6) 67 q_m67 Q 61 [some (.ref 3), some (.ref le), some (.ref (160 + 2 * p)), some (.ref (84 + 19 * b)), some (.int (nI 0)), some (.int pl), none, none] [.int (nI 4), .ref le] (n, I, J, R) 0 0
  refine q_lal (m := 4) rfl (hl) (by decide) (rfl) ?_
  refine q_k 3 ?_
  show q_W L (d + 6) 67 q_m67 Q 66 [some (.ref 3), some (.ref le), some (.ref (160 + 2 * p)), some (.ref (84 + 19 * b)), some (.int (nI 0)), some (.int pl), some (.int ((J le 4).toInt32)), none] [.ref 3] (n, I, J, R) 0 0
  refine q_gR (b := tr) rfl rfl (⟨Nat.lt_of_lt_of_le (by decide) hK.1, rfl⟩) (hL.tr) ?_
  refine q_cv (as := []) (rs := []) rfl rfl rfl (hL.ts.ob) rfl rfl ?_
  refine c_clear (hL.ts) (fun I1 z1 y1 g1 => ?_)
  show q_W L (d + 6) 67 q_m67 Q 72 [some (.ref 3), some (.ref le), some (.ref (160 + 2 * p)), some (.ref (84 + 19 * b)), some (.int (nI 0)), some (.int pl), some (.int ((J le 4).toInt32)), none] [] (n, I1, J, R) 0 0
  refine q_k 1 ?_
  show q_W L (d + 6) 67 q_m67 Q 73 [some (.ref 3), some (.ref le), some (.ref (160 + 2 * p)), some (.ref (84 + 19 * b)), some (.int (nI 0)), some (.int pl), some (.int ((J le 4).toInt32)), none] [.ref 3] (n, I1, J, R) 0 0
  refine q_gR (b := tr) rfl rfl (⟨Nat.lt_of_lt_of_le (by decide) hK.1, rfl⟩) (hL.tr) ?_
  refine q_k 1 ?_
  show q_W L (d + 6) 67 q_m67 Q 78 [some (.ref 3), some (.ref le), some (.ref (160 + 2 * p)), some (.ref (84 + 19 * b)), some (.int (nI 0)), some (.int pl), some (.int ((J le 4).toInt32)), none] [.int ((J le 4).toInt32), .ref tr] (n, I1, J, R) 0 0
  refine q_pI rfl rfl rfl (hL.ts.ob) ?_
  obtain ⟨I2, eI2⟩ : ∃ zz9, zz9 = q_up I1 tr 0 ((J le 4).toInt32) := ⟨_, rfl⟩
  rw [← eI2]
  refine q_k 1 ?_
  show q_W L (d + 6) 67 q_m67 Q 82 [some (.ref 3), some (.ref le), some (.ref (160 + 2 * p)), some (.ref (84 + 19 * b)), some (.int (nI 0)), some (.int pl), some (.int ((J le 4).toInt32)), none] [.ref 3] (n, I2, J, R) 0 0
  refine q_gR (b := tr) rfl rfl (⟨Nat.lt_of_lt_of_le (by decide) hK.1, rfl⟩) (hL.tr) ?_
  refine q_gR (b := (tr + 2)) rfl rfl (hL.ts.ob) (hL.ts.r2) ?_
  refine q_k 3 ?_
  show q_W L (d + 6) 67 q_m67 Q 91 [some (.ref 3), some (.ref le), some (.ref (160 + 2 * p)), some (.ref (84 + 19 * b)), some (.int (nI 0)), some (.int pl), some (.int ((J le 4).toInt32)), none] [.int (nI 5), .ref le, .ref (84 + 19 * b), .ref (tr + 2)] (n, I2, J, R) 0 0
  refine q_lal (m := 5) rfl (hl) (by decide) (rfl) ?_
  refine q_cv (as := [.long (J le 5)]) (rs := [.ref (tr + 2)]) rfl rfl rfl (hA.ob) rfl rfl ?_
  refine c_signedOf (M := M) (u := b) hA (c_A_to hcA (fun x h1 h2 => by rw [eI2, q_un (by omega), g1 x (by omega) (by omega)]) rfl (q_eu_rf _ _)) (fun hz => ?_) (fun hz => ?_)
  · skip
    show q_W L (d + 6) 67 q_m67 Q 95 [some (.ref 3), some (.ref le), some (.ref (160 + 2 * p)), some (.ref (84 + 19 * b)), some (.int (nI 0)), some (.int pl), some (.int ((J le 4).toInt32)), none] [.ref (84 + 19 * b + 2), .ref (tr + 2)] (n, I2, J, R) 0 0
    refine q_cv (as := [.ref (84 + 19 * b + 2)]) (rs := []) rfl rfl rfl (hL.ts.o2) rfl rfl ?_
    refine c_Pair_become hL.ts.o2 hA.o2 ?_
    obtain ⟨I3, eI3⟩ : ∃ zz9, zz9 = q_up (q_up I2 (tr + 2) 0 (I2 (84 + 19 * b + 2) 0)) (tr + 2) 1 (q_up I2 (tr + 2) 0 (I2 (84 + 19 * b + 2) 0) (84 + 19 * b + 2) 1) := ⟨_, rfl⟩
    rw [← eI3]
    have g2 : ∀ x, (x < tr ∨ tr + 10 ≤ x) → I2 x = I x := fun x hx => by rw [eI2, q_un (by omega), g1 x (by omega) (by omega)]
    have g3 : ∀ x, (x < tr ∨ tr + 10 ≤ x) → I3 x = I x := fun x hx => by rw [eI3, q_un (by omega), q_un (by omega)]; exact g2 x hx
    have p30 : I3 (tr + 2) 0 = M 198 (2 * b) := by rw [eI3, q_usn (by decide), q_usk, g2 (84 + 19 * b + 2) (by omega)]; exact hcA.s0
    have p31 : I3 (tr + 2) 1 = M 198 (2 * b + 1) := by rw [eI3, q_usk, q_un (by omega), g2 (84 + 19 * b + 2) (by omega)]; exact hcA.s1
    have t3 : ∀ k, (k = 3 ∨ (6 ≤ k ∧ k ≤ 9) ∨ (11 ≤ k ∧ k ≤ 14)) → I3 tr k = nI 0 := fun k hk => by rw [eI3, q_un (by omega), q_un (by omega), eI2, q_usn (by omega)]; exact z1 k (by omega)
    have b3 : I3 tr 0 = (N 208 (e + 4)).toInt32 := by rw [eI3, q_un (by omega), q_un (by omega), eI2, q_usk, hJ4]
    have k3 : I3 (tr + 5) 0 = nI 0 := by rw [eI3, q_un (by omega), q_un (by omega), eI2, q_un (by omega)]; exact y1
    show q_W L (d + 6) 67 q_m67 Q 98 [some (.ref 3), some (.ref le), some (.ref (160 + 2 * p)), some (.ref (84 + 19 * b)), some (.int (nI 0)), some (.int pl), some (.int ((J le 4).toInt32)), none] [] (n, I3, J, R) 0 0
    refine q_k 4 ?_
    show q_W L (d + 6) 67 q_m67 Q 103 [some (.ref 3), some (.ref le), some (.ref (160 + 2 * p)), some (.ref (84 + 19 * b)), some (.int (nI 0)), some (.int pl), some (.int ((J le 4).toInt32)), none] [.int (nI 0), .ref (84 + 19 * b), .ref le, .ref 3] (n, I3, J, R) 0 0
    refine q_one rfl rfl ?_
    show ((nI 0) = 0 → q_W L (d + 6) 67 q_m67 Q 121 [some (.ref 3), some (.ref le), some (.ref (160 + 2 * p)), some (.ref (84 + 19 * b)), some (.int (nI 0)), some (.int pl), some (.int ((J le 4).toInt32)), none] [.ref (84 + 19 * b), .ref le, .ref 3] (n, I3, J, R) 0 0) ∧ (¬ (nI 0) = 0 → q_W L (d + 6) 67 q_m67 Q 106 [some (.ref 3), some (.ref le), some (.ref (160 + 2 * p)), some (.ref (84 + 19 * b)), some (.int (nI 0)), some (.int pl), some (.int ((J le 4).toInt32)), none] [.ref (84 + 19 * b), .ref le, .ref 3] (n, I3, J, R) 0 0)
    refine ⟨fun _ => ?_, fun z => absurd (by decide) z⟩
    refine q_k 1 ?_
    show q_W L (d + 6) 67 q_m67 Q 122 [some (.ref 3), some (.ref le), some (.ref (160 + 2 * p)), some (.ref (84 + 19 * b)), some (.int (nI 0)), some (.int pl), some (.int ((J le 4).toInt32)), none] [.int (nI 0), .ref (84 + 19 * b), .ref le, .ref 3] (n, I3, J, R) 0 0
    refine q_cv (as := [.ref le, .ref (84 + 19 * b), .int (nI 0)]) (rs := []) rfl rfl rfl (⟨Nat.lt_of_lt_of_le (by decide) hK.1, rfl⟩) rfl rfl ?_
    refine c_agree2 (t := tr) (q_K0_to hK (g3 0 (by omega)) (g3 1 (by omega))) (hA) (hL.tr) (hL.ts) (hl) (fun I4 r4 g4 => ?_)
    have hm : s_R I4 tr (f_brow g M N e a b c) := by
      rw [hBR]
      refine s_R_new (fun k hk => ?_) ?_ ?_ ?_ ?_ (fun i hi => ?_)
      · rw [g4 tr (by omega) (by omega) (by omega)]; exact t3 k hk
      · rw [g4 tr (by omega) (by omega) (by omega)]; exact b3
      · rw [g4 (tr + 2) (by omega) (by omega) (by omega)]; exact p30
      · rw [g4 (tr + 2) (by omega) (by omega) (by omega)]; exact p31
      · rw [g4 (tr + 5) (by omega) (by omega) (by omega)]; exact k3
      · rw [r4 i hi, p30, hid, hJ4, g3 (84 + 19 * b + 1) (by omega), hcA.i0, hcA.i1, hJ 6 (by decide), hN6, lN_i]
    have g4t : ∀ x, x ≠ 5 → x ≠ 6 → (x < tr ∨ tr + 10 ≤ x) → I4 x = I x := fun x h5 h6 hx => (g4 x h5 h6 (by omega)).trans (g3 x hx)
    show q_W L (d + 6) 67 q_m67 Q 125 [some (.ref 3), some (.ref le), some (.ref (160 + 2 * p)), some (.ref (84 + 19 * b)), some (.int (nI 0)), some (.int pl), some (.int ((J le 4).toInt32)), none] [] (n, I4, J, R) 0 0
    refine q_k 2 ?_
    show q_W L (d + 6) 67 q_m67 Q 127 [some (.ref 3), some (.ref le), some (.ref (160 + 2 * p)), some (.ref (84 + 19 * b)), some (.int (nI 0)), some (.int pl), some (.int ((J le 4).toInt32)), none] [.ref le, .ref 3] (n, I4, J, R) 0 0
    refine q_cv (as := [.ref le]) (rs := []) rfl rfl rfl (⟨Nat.lt_of_lt_of_le (by decide) hK.1, rfl⟩) rfl rfl ?_
    refine c_tryTrial (t := tr) (e := e) (r := (f_brow g M N e a b c)) (N := N) (M := M) (q_K0_to hK (g4t 0 (by omega) (by omega) (by omega)) (g4t 1 (by omega) (by omega) (by omega))) (fun u hu => c_A_to (ha u hu) (fun x h1 h2 => g4t x (by omega) (by omega) (by omega)) rfl (q_eu_rf _ _)) (hL.tr) (hL.ts) (hl) (hJ) (hwf) (hm) (Or.inr ⟨by rw [hBR]; exact s_new_0 (by omega), by obtain ⟨xx, hx2, hx3, hxe⟩ := hwf.fx; rw [hBR, s_new_0 (by omega), hxe, lN_i]; exact fun z => absurd ((nI_eq (by omega) (by decide)).mp z) (by omega)⟩) (by rw [hBR]; exact s_new_ri _ _ _ _ _) (fun I5 z g5 => ?_) (fun I5 z a5 b5 c5 g5 => ?_)
    · skip
      show q_W L (d + 6) 67 q_m67 Q 130 [some (.ref 3), some (.ref le), some (.ref (160 + 2 * p)), some (.ref (84 + 19 * b)), some (.int (nI 0)), some (.int pl), some (.int ((J le 4).toInt32)), none] [.int ((f_try M N e a b (f_brow g M N e a b c)).1)] (n, I5, J, R) 0 0
      obtain ⟨gv, egv⟩ : ∃ z, z = (f_try M N e a b (f_brow g M N e a b c)).1 := ⟨_, rfl⟩
      rw [← egv]
      have hz' : ¬ gv = 0 := by rw [egv]; exact z
      show q_W L (d + 6) 67 q_m67 Q 130 [some (.ref 3), some (.ref le), some (.ref (160 + 2 * p)), some (.ref (84 + 19 * b)), some (.int (nI 0)), some (.int pl), some (.int ((J le 4).toInt32)), none] [.int gv] (n, I5, J, R) 0 0
      refine q_k 2 ?_
      show q_W L (d + 6) 67 q_m67 Q 134 [some (.ref 3), some (.ref le), some (.ref (160 + 2 * p)), some (.ref (84 + 19 * b)), some (.int (nI 0)), some (.int pl), some (.int ((J le 4).toInt32)), some (.int gv)] [.int gv] (n, I5, J, R) 0 0
      refine q_one rfl rfl ?_
      show (¬ gv = 0 → q_W L (d + 6) 67 q_m67 Q 160 [some (.ref 3), some (.ref le), some (.ref (160 + 2 * p)), some (.ref (84 + 19 * b)), some (.int (nI 0)), some (.int pl), some (.int ((J le 4).toInt32)), some (.int gv)] [] (n, I5, J, R) 0 0) ∧ (gv = 0 → q_W L (d + 6) 67 q_m67 Q 137 [some (.ref 3), some (.ref le), some (.ref (160 + 2 * p)), some (.ref (84 + 19 * b)), some (.int (nI 0)), some (.int pl), some (.int ((J le 4).toInt32)), some (.int gv)] [] (n, I5, J, R) 0 0)
      refine ⟨fun _ => ?_, fun z => absurd z (hz')⟩
      refine q_k 1 ?_
      show q_W L (d + 6) 67 q_m67 Q 162 [some (.ref 3), some (.ref le), some (.ref (160 + 2 * p)), some (.ref (84 + 19 * b)), some (.int (nI 0)), some (.int pl), some (.int ((J le 4).toInt32)), some (.int gv)] [.int gv] (n, I5, J, R) 0 0
      refine q_one rfl rfl ?_
      show Q (some (.int gv)) (n, I5, J, R)
      rw [show f_beg2 g M N e a b p (mc p) c = ((f_try M N e a b (f_brow g M N e a b c)).1, M, N) by unfold f_beg2; rw [if_neg z]] at hQ
      dsimp only at hQ
      obtain ⟨c1, c2⟩ := CR_frt h hL (I2 := I5) (fun x h5 h6 h7 _ h82 h83 hx => (g5 x h5 h6 h7 h82 h83 hx).trans (g4t x h5 h6 hx))
      rw [egv]
      exact hQ n I5 J R c1 c2 ⟨rfl, rfl⟩
    · skip
      show q_W L (d + 6) 67 q_m67 Q 130 [some (.ref 3), some (.ref le), some (.ref (160 + 2 * p)), some (.ref (84 + 19 * b)), some (.int (nI 0)), some (.int pl), some (.int ((J le 4).toInt32)), none] [.int (nI 0)] (n, I5, q_up J 3 5 (J le 10 ^^^ g_wide (f_try M N e a b (f_brow g M N e a b c)).2.2.1 (nI 9) (nI 0) (nI 0) (nI 0)), R) 0 0
      have fr5 : ∀ x, x ≠ 5 → x ≠ 6 → x ≠ 7 → x ≠ 82 → x ≠ 83 → x ≠ 84 + 19 * b → (x < tr ∨ tr + 10 ≤ x) → I5 x = I x := fun x h5 h6 h7 h82 h83 hb hx => (g5 x h5 h6 h7 h82 h83 hb hx).trans (g4t x h5 h6 hx)
      have hF : f_beg2 g M N e a b p (mc p) c = (nI 0, (f_come p (mc p) (va_up (f_try M N e a b (f_brow g M N e a b c)).2.1 11 (nI 1)) (f_ok (f_try M N e a b (f_brow g M N e a b c)) b M)), f_tx N e (f_try M N e a b (f_brow g M N e a b c))) := by unfold f_beg2; rw [if_pos z, if_neg hit]
      rw [hF] at hQ
      dsimp only at hQ
      rw [hJ 10 (by decide)]
      have hri5 := f_try_ri (r := (f_brow g M N e a b c)) hwf (by rw [hBR]; exact s_new_ri _ _ _ _ _) z
      have hme : ∀ q, (f_come p (mc p) (va_up (f_try M N e a b (f_brow g M N e a b c)).2.1 11 (nI 1)) (f_ok (f_try M N e a b (f_brow g M N e a b c)) b M)) 206 q = if q = p then nI (min (mc p) 2 + 1) else M 206 q := fun q => by rw [f_come_206, f_ok_n (by decide)]; unfold va_up; rfl
      have hm5 : (f_come p (mc p) (va_up (f_try M N e a b (f_brow g M N e a b c)).2.1 11 (nI 1)) (f_ok (f_try M N e a b (f_brow g M N e a b c)) b M)) 205 = f_rows p (min (mc p) 2) (va_up (f_try M N e a b (f_brow g M N e a b c)).2.1 11 (nI 1)) M 205 := by exact (f_come_205 (f_ok_n (by decide)).symm (fun _ _ => rfl)).symm
      have hm192 : (f_come p (mc p) (va_up (f_try M N e a b (f_brow g M N e a b c)).2.1 11 (nI 1)) (f_ok (f_try M N e a b (f_brow g M N e a b c)) b M)) 192 16 = M 192 16 := by rw [f_come_n (by decide) (by decide), f_ok_n (by decide)]
      show q_W L (d + 6) 67 q_m67 Q 130 [some (.ref 3), some (.ref le), some (.ref (160 + 2 * p)), some (.ref (84 + 19 * b)), some (.int (nI 0)), some (.int pl), some (.int ((J le 4).toInt32)), none] [.int (nI 0)] (n, I5, q_up J 3 5 (N 208 (e + 10) ^^^ g_wide (f_try M N e a b (f_brow g M N e a b c)).2.2.1 (nI 9) (nI 0) (nI 0) (nI 0)), R) 0 0
      refine q_k 2 ?_
      show q_W L (d + 6) 67 q_m67 Q 134 [some (.ref 3), some (.ref le), some (.ref (160 + 2 * p)), some (.ref (84 + 19 * b)), some (.int (nI 0)), some (.int pl), some (.int ((J le 4).toInt32)), some (.int (nI 0))] [.int (nI 0)] (n, I5, q_up J 3 5 (N 208 (e + 10) ^^^ g_wide (f_try M N e a b (f_brow g M N e a b c)).2.2.1 (nI 9) (nI 0) (nI 0) (nI 0)), R) 0 0
      refine q_one rfl rfl ?_
      show (¬ (nI 0) = 0 → q_W L (d + 6) 67 q_m67 Q 160 [some (.ref 3), some (.ref le), some (.ref (160 + 2 * p)), some (.ref (84 + 19 * b)), some (.int (nI 0)), some (.int pl), some (.int ((J le 4).toInt32)), some (.int (nI 0))] [] (n, I5, q_up J 3 5 (N 208 (e + 10) ^^^ g_wide (f_try M N e a b (f_brow g M N e a b c)).2.2.1 (nI 9) (nI 0) (nI 0) (nI 0)), R) 0 0) ∧ ((nI 0) = 0 → q_W L (d + 6) 67 q_m67 Q 137 [some (.ref 3), some (.ref le), some (.ref (160 + 2 * p)), some (.ref (84 + 19 * b)), some (.int (nI 0)), some (.int pl), some (.int ((J le 4).toInt32)), some (.int (nI 0))] [] (n, I5, q_up J 3 5 (N 208 (e + 10) ^^^ g_wide (f_try M N e a b (f_brow g M N e a b c)).2.2.1 (nI 9) (nI 0) (nI 0) (nI 0)), R) 0 0)
      refine ⟨fun z => absurd (by decide) z, fun _ => ?_⟩
      refine q_k 3 ?_
      show q_W L (d + 6) 67 q_m67 Q 140 [some (.ref 3), some (.ref le), some (.ref (160 + 2 * p)), some (.ref (84 + 19 * b)), some (.int (nI 0)), some (.int pl), some (.int ((J le 4).toInt32)), some (.int (nI 0))] [.ref 3, .ref (160 + 2 * p), .ref 3] (n, I5, q_up J 3 5 (N 208 (e + 10) ^^^ g_wide (f_try M N e a b (f_brow g M N e a b c)).2.2.1 (nI 9) (nI 0) (nI 0) (nI 0)), R) 0 0
      refine q_gR (b := tr) rfl rfl (⟨Nat.lt_of_lt_of_le (by decide) hK.1, rfl⟩) (hL.tr) ?_
      refine q_cvA (as := [.ref tr]) (rs := [.ref 3]) rfl rfl rfl (q_obL hK.1 hp) rfl rfl ⟨by decide, by decide⟩ ?_
      refine c_putInFront (s := 160 + 2 * p) (m := mc p) (rr := ss p) (q_obL hK.1 hp) (hK.2.1 _ _ _ (q_fxL p hp)) (q_arL hK.1 hp) (by omega) h.nj (by rw [fr5 (160 + 2 * p) (by omega) (by omega) (by omega) (by omega) (by omega) (by omega) (by omega)]; exact (hL.m3 p hp).2.2) hm3 hL.ts.ob (fun i hi => ⟨(hL.rw p i hp hi).1, (hL.se hp hi).ob⟩) (fun em I6 R6 i6 j6 x0 x1 x2 x6 => ?_) (fun em I6 J6 R6 i6 x0 xk j6 l6 x6 s6 => ?_)
      · skip
        show q_W L (d + 6) 67 q_m67 Q 146 [some (.ref 3), some (.ref le), some (.ref (160 + 2 * p)), some (.ref (84 + 19 * b)), some (.int (nI 0)), some (.int pl), some (.int ((J le 4).toInt32)), some (.int (nI 0))] [.ref (ss p 2), .ref 3] (n, I6, q_up J 3 5 (N 208 (e + 10) ^^^ g_wide (f_try M N e a b (f_brow g M N e a b c)).2.2.1 (nI 9) (nI 0) (nI 0) (nI 0)), R6) 10 334
        have gI : ∀ x, x ≠ 160 + 2 * p → x < n → I6 x = I5 x := fun x hx _ => j6 x hx
        have gR : ∀ x, x ≠ 160 + 2 * p + 1 → x < n → R6 x = R x := fun x hx _ => x6 x hx
        have h2m : 2 < mc p := by omega
        have hn0 := hK.1
        refine q_pR rfl rfl rfl (⟨by omega, rfl⟩) ?_
        obtain ⟨R7, eR7⟩ : ∃ zz9, zz9 = q_up R6 3 6 (some (ss p 2)) := ⟨_, rfl⟩
        rw [← eR7]
        refine q_k 1 ?_
        show q_W L (d + 6) 67 q_m67 Q 151 [some (.ref 3), some (.ref le), some (.ref (160 + 2 * p)), some (.ref (84 + 19 * b)), some (.int (nI 0)), some (.int pl), some (.int ((J le 4).toInt32)), some (.int (nI 0))] [.int (nI 0)] (n, I6, q_up J 3 5 (N 208 (e + 10) ^^^ g_wide (f_try M N e a b (f_brow g M N e a b c)).2.2.1 (nI 9) (nI 0) (nI 0) (nI 0)), R7) 10 334
        refine q_one rfl rfl ?_
        show ((nI 0) = 0 → q_W L (d + 6) 67 q_m67 Q 160 [some (.ref 3), some (.ref le), some (.ref (160 + 2 * p)), some (.ref (84 + 19 * b)), some (.int (nI 0)), some (.int pl), some (.int ((J le 4).toInt32)), some (.int (nI 0))] [] (n, I6, q_up J 3 5 (N 208 (e + 10) ^^^ g_wide (f_try M N e a b (f_brow g M N e a b c)).2.2.1 (nI 9) (nI 0) (nI 0) (nI 0)), R7) 10 334) ∧ (¬ (nI 0) = 0 → q_W L (d + 6) 67 q_m67 Q 154 [some (.ref 3), some (.ref le), some (.ref (160 + 2 * p)), some (.ref (84 + 19 * b)), some (.int (nI 0)), some (.int pl), some (.int ((J le 4).toInt32)), some (.int (nI 0))] [] (n, I6, q_up J 3 5 (N 208 (e + 10) ^^^ g_wide (f_try M N e a b (f_brow g M N e a b c)).2.2.1 (nI 9) (nI 0) (nI 0) (nI 0)), R7) 10 334)
        refine ⟨fun _ => ?_, fun z => absurd (by decide) z⟩
        refine q_k 1 ?_
        show q_W L (d + 6) 67 q_m67 Q 162 [some (.ref 3), some (.ref le), some (.ref (160 + 2 * p)), some (.ref (84 + 19 * b)), some (.int (nI 0)), some (.int pl), some (.int ((J le 4).toInt32)), some (.int (nI 0))] [.int (nI 0)] (n, I6, q_up J 3 5 (N 208 (e + 10) ^^^ g_wide (f_try M N e a b (f_brow g M N e a b c)).2.2.1 (nI 9) (nI 0) (nI 0) (nI 0)), R7) 10 334
        refine q_one rfl rfl ?_
        show Q (some (.int (nI 0))) (n, I6, q_up J 3 5 (N 208 (e + 10) ^^^ g_wide (f_try M N e a b (f_brow g M N e a b c)).2.2.1 (nI 9) (nI 0) (nI 0) (nI 0)), R7)
        have hRR : ∀ x, x ≠ 160 + 2 * p + 1 → x ≠ 3 → x < n → R7 x = R x := fun x h1 h2 h3 => by rw [eR7, q_un h2]; exact gR x h1 h3
        have hIf : ∀ x, x ≠ 160 + 2 * p → x < n → I6 x = I5 x := gI
        have hR3 : R7 3 6 = some (ss p 2) := by rw [eR7, q_usk]
        have hRs1 : R7 (160 + 2 * p + 1) = R6 (160 + 2 * p + 1) := by rw [eR7, q_un (by omega)]
        have hR3n : ∀ l, l ≠ 6 → R7 3 l = R 3 l := fun l hl => by rw [eR7, q_usn hl, gR 3 (by omega) (by omega)]
        have hmin : min (mc p) 2 = 2 := by omega
        rw [hmin] at hme hm5
        obtain ⟨ss2, mc2, hL2⟩ := c_L_mv (n2 := n) (I2 := I6) (R2 := R7) (M2 := (f_come p (mc p) (va_up (f_try M N e a b (f_brow g M N e a b c)).2.1 11 (nI 1)) (f_ok (f_try M N e a b (f_brow g M N e a b c)) b M))) (tr2 := ss p 2) (k := 2) (m2 := 3) (row := (va_up (f_try M N e a b (f_brow g M N e a b c)).2.1 11 (nI 1))) hL hK.1 (by omega) hp (by omega) (by omega) (by omega) (fun i h1 h2 => by omega) hR3 ((hL.se hp h2m).to (Nat.le_refl _) (hRR _ (by have := (hL.se hp h2m).ge; omega) (by have := (hL.se hp h2m).ge; omega) (by have := (hL.se hp h2m).hi; omega)) (hRR _ (by have := (hL.se hp h2m).ge; omega) (by have := (hL.se hp h2m).ge; omega) (by have := (hL.se hp h2m).hi; omega))) (hL.rw p 2 hp h2m).2.2 (fun q i hq hi hne he => by obtain ⟨e1, e2⟩ := hL.inj q i p 2 hq hi hp h2m he; rcases hne with z1 | z1; exact z1 e1; exact z1 e2) (by rw [hRs1]; exact x0) (fun i hi => by rw [hRs1]; have h01 : i = 0 ∨ i = 1 := (by omega); rcases h01 with rfl | rfl; exact x1; exact x2) (fun i h1 h2 => by omega) (fun x hx h2 => hRR x (by omega) (by omega) hx) (fun x hx h2 h3 => by rw [hIf x (by omega) hx]; exact fr5 x (by omega) (by omega) (by omega) (by omega) (by omega) (by omega) (by omega)) (by rw [i6, va_up_self]) (s_R_to a5 (fun x h1 h2 => hIf x (by omega) (by have := hL.ts.hi; omega))) (s_S_to b5 (fun x h1 h2 => hIf x (by omega) (by have := hL.ts.hi; omega))) hri5 hm5 (fun q hq => by rw [hme q, if_neg hq]) (by rw [hme p, if_pos rfl])
        exact hQ (n) I6 _ R7 ⟨q_K0_R (q_K0_to hK (by rw [hIf 0 (by omega) (by omega)]; exact fr5 0 (by omega) (by omega) (by omega) (by omega) (by omega) (by omega) (by omega)) (by rw [hIf 1 (by omega) (by omega)]; exact fr5 1 (by omega) (by omega) (by omega) (by omega) (by omega) (by omega) (by omega))) (show n ≤ n by omega) (fun x l => by by_cases x1 : x = 160 + 2 * p + 1; exact Or.inr (by rw [x1]; exact q_fxn1 hp); by_cases x4 : 214 ≤ x; exact Or.inr (q_fxS x4); by_cases x3 : x = 3; subst x3; by_cases l6 : l = 6; exact Or.inr (by rw [l6]; rfl); exact Or.inl (by rw [hR3n l l6]); exact Or.inl (by rw [hRR x x1 x3 (by omega)])), h.nj, fun u hu => c_A_to (c5 u hu) (fun x h1 h2 => hIf x (by omega) (by omega)) (hRR _ (by omega) (by omega) (by omega)) (fun r l ho => by unfold q_own at ho; rw [f_come_n (by omega) (by omega)]), ⟨ss2, mc2, _, hL2⟩, ⟨E, c_E_tx hE (by rw [hIf 3 (by omega) (by omega)]; exact fr5 3 (by omega) (by omega) (by omega) (by omega) (by omega) (by omega) (by omega)) hm192⟩⟩ (fun x hx => by rw [hIf x (by omega) (by omega)]; exact fr5 x (by omega) (by omega) (by omega) (by omega) (by omega) (by omega) (by omega)) ⟨q_un (by decide), q_un (by decide)⟩
      · skip
        show q_W L (d + 6) 67 q_m67 Q 146 [some (.ref 3), some (.ref le), some (.ref (160 + 2 * p)), some (.ref (84 + 19 * b)), some (.int (nI 0)), some (.int pl), some (.int ((J le 4).toInt32)), some (.int (nI 0))] [.ref n, .ref 3] (n + 10, I6, J6, R6) 10 334
        have gI : ∀ x, x ≠ 160 + 2 * p → x < n → I6 x = I5 x := fun x hx hl => j6 x hx (Or.inl hl)
        have gR : ∀ x, x ≠ 160 + 2 * p + 1 → x < n → R6 x = R x := fun x hx hl => x6 x hx (Or.inl hl)
        have hn0 := hK.1
        refine q_pR rfl rfl rfl (⟨by omega, rfl⟩) ?_
        obtain ⟨R7, eR7⟩ : ∃ zz9, zz9 = q_up R6 3 6 (some n) := ⟨_, rfl⟩
        rw [← eR7]
        refine q_k 1 ?_
        show q_W L (d + 6) 67 q_m67 Q 151 [some (.ref 3), some (.ref le), some (.ref (160 + 2 * p)), some (.ref (84 + 19 * b)), some (.int (nI 0)), some (.int pl), some (.int ((J le 4).toInt32)), some (.int (nI 0))] [.int (nI 0)] (n + 10, I6, J6, R7) 10 334
        refine q_one rfl rfl ?_
        show ((nI 0) = 0 → q_W L (d + 6) 67 q_m67 Q 160 [some (.ref 3), some (.ref le), some (.ref (160 + 2 * p)), some (.ref (84 + 19 * b)), some (.int (nI 0)), some (.int pl), some (.int ((J le 4).toInt32)), some (.int (nI 0))] [] (n + 10, I6, J6, R7) 10 334) ∧ (¬ (nI 0) = 0 → q_W L (d + 6) 67 q_m67 Q 154 [some (.ref 3), some (.ref le), some (.ref (160 + 2 * p)), some (.ref (84 + 19 * b)), some (.int (nI 0)), some (.int pl), some (.int ((J le 4).toInt32)), some (.int (nI 0))] [] (n + 10, I6, J6, R7) 10 334)
        refine ⟨fun _ => ?_, fun z => absurd (by decide) z⟩
        refine q_k 1 ?_
        show q_W L (d + 6) 67 q_m67 Q 162 [some (.ref 3), some (.ref le), some (.ref (160 + 2 * p)), some (.ref (84 + 19 * b)), some (.int (nI 0)), some (.int pl), some (.int ((J le 4).toInt32)), some (.int (nI 0))] [.int (nI 0)] (n + 10, I6, J6, R7) 10 334
        refine q_one rfl rfl ?_
        show Q (some (.int (nI 0))) (n + 10, I6, J6, R7)
        have hRR : ∀ x, x ≠ 160 + 2 * p + 1 → x ≠ 3 → x < n → R7 x = R x := fun x h1 h2 h3 => by rw [eR7, q_un h2]; exact gR x h1 h3
        have hIf : ∀ x, x ≠ 160 + 2 * p → x < n → I6 x = I5 x := gI
        have hR3 : R7 3 6 = some (n) := by rw [eR7, q_usk]
        have hRs1 : R7 (160 + 2 * p + 1) = R6 (160 + 2 * p + 1) := by rw [eR7, q_un (by omega)]
        have hR3n : ∀ l, l ≠ 6 → R7 3 l = R 3 l := fun l hl => by rw [eR7, q_usn hl, gR 3 (by omega) (by omega)]
        have hmin : min (mc p) 2 = mc p := by omega
        rw [hmin] at hme hm5
        obtain ⟨ss2, mc2, hL2⟩ := c_L_mv (n2 := n + 10) (I2 := I6) (R2 := R7) (M2 := (f_come p (mc p) (va_up (f_try M N e a b (f_brow g M N e a b c)).2.1 11 (nI 1)) (f_ok (f_try M N e a b (f_brow g M N e a b c)) b M))) (tr2 := n) (k := mc p) (m2 := (mc p + 1)) (row := (va_up (f_try M N e a b (f_brow g M N e a b c)).2.1 11 (nI 1))) hL hK.1 (by omega) hp (by omega) (by omega) (by omega) (fun i h1 h2 => by omega) hR3 (s6.to (Nat.le_refl _) (by rw [eR7, q_un (by omega)]) (by rw [eR7, q_un (by omega)])) (by have := hL.ts.hi; omega) (fun q i hq hi _ he => by have := (hL.se hq hi).hi; omega) (by rw [hRs1]; exact x0) (fun i hi => by rw [hRs1]; exact xk i hi) (fun i h1 h2 => by omega) (fun x hx h2 => hRR x (by omega) (by omega) hx) (fun x hx h2 h3 => by rw [hIf x (by omega) hx]; exact fr5 x (by omega) (by omega) (by omega) (by omega) (by omega) (by omega) (by omega)) (by rw [i6]) (s_R_to a5 (fun x h1 h2 => hIf x (by omega) (by have := hL.ts.hi; omega))) (s_S_to b5 (fun x h1 h2 => hIf x (by omega) (by have := hL.ts.hi; omega))) hri5 hm5 (fun q hq => by rw [hme q, if_neg hq]) (by rw [hme p, if_pos rfl])
        exact hQ (n + 10) I6 J6 R7 ⟨q_K0_R (q_K0_to hK (by rw [hIf 0 (by omega) (by omega)]; exact fr5 0 (by omega) (by omega) (by omega) (by omega) (by omega) (by omega) (by omega)) (by rw [hIf 1 (by omega) (by omega)]; exact fr5 1 (by omega) (by omega) (by omega) (by omega) (by omega) (by omega) (by omega))) (show n ≤ n + 10 by omega) (fun x l => by by_cases x1 : x = 160 + 2 * p + 1; exact Or.inr (by rw [x1]; exact q_fxn1 hp); by_cases x4 : 214 ≤ x; exact Or.inr (q_fxS x4); by_cases x3 : x = 3; subst x3; by_cases l6 : l = 6; exact Or.inr (by rw [l6]; rfl); exact Or.inl (by rw [hR3n l l6]); exact Or.inl (by rw [hRR x x1 x3 (by omega)])), (by obtain ⟨j, hj⟩ := h.nj; exact ⟨j + 1, by omega⟩), fun u hu => c_A_to (c5 u hu) (fun x h1 h2 => hIf x (by omega) (by omega)) (hRR _ (by omega) (by omega) (by omega)) (fun r l ho => by unfold q_own at ho; rw [f_come_n (by omega) (by omega)]), ⟨ss2, mc2, _, hL2⟩, ⟨E, c_E_J (c_E_tx hE (by rw [hIf 3 (by omega) (by omega)]; exact fr5 3 (by omega) (by omega) (by omega) (by omega) (by omega) (by omega) (by omega)) hm192) (fun x hx => l6 x (by omega))⟩⟩ (fun x hx => by rw [hIf x (by omega) (by omega)]; exact fr5 x (by omega) (by omega) (by omega) (by omega) (by omega) (by omega) (by omega)) ⟨by rw [l6 208 (by omega)]; exact q_un (by decide), by rw [l6 192 (by omega)]; exact q_un (by decide)⟩
  · skip
    rw [hJ 5 (by decide)] at hz
    exact absurd hp5 hz
set_option maxHeartbeats 8000000 in
theorem k_new_old0 {L d n : Nat} {I : q_I} {J : q_L} {R : q_R} {Q : q_Q} {M : q_I} {N : q_L} {ss : Nat → Nat → Nat} {mc : Nat → Nat} {tr p e a b x y le c : Nat} {g : Nat → Int32} (h : CR n I J R M N) (hL : c_L n I R M ss mc tr) (hp : p < 16) (hl : q_ar n le 1 12) (hJ : ∀ k, k < 12 → J le k = N 208 (e + k)) (hwf : q_wf M N e a b x y) (hkd : N 208 (e + 2) = lN 0) (hM1 : M 201 b = nI c) (hc10 : c ≤ 10) (hnow : f_now M N e b = false) (hold : f_old M N e b = true) {pl : Int32} (hit : ¬ f_it M N e b c < c) (hN6 : N 208 (e + 6) = lN 0) (hQ : ∀ n' I' J' R', CR n' I' J' R' ((f_beg2 g M N e a b p (mc p) c).2.1) ((f_beg2 g M N e a b p (mc p) c).2.2) → q_nmf I' I → (J' 208 = J 208 ∧ J' 192 = J 192) → Q (some (.int (f_beg2 g M N e a b p (mc p) c).1)) (n', I', J', R')) : q_W L (d + 6) 67 q_m67 Q 59 [some (.ref 3), some (.ref le), some (.ref (160 + 2 * p)), some (.ref (84 + 19 * b)), some (.int (nI 0)), some (.int pl), none, none] [] (n, I, J, R) 0 0 := by
  have hK := h.K
  have ha := h.ac
  have htg := hL.ts.ge
  have hm3 := (hL.m3 p hp).1
  obtain ⟨E, hE⟩ := h.en
  have h4b := hwf.hb
  have h4a := hwf.ha
  have hA := q_Ac_of hK h4b
  have hcA := ha b h4b
  have hJ4 := hJ 4 (by decide)
  have hp5 : N 208 (e + 5) = (M 199 (2 * b + 1)).toInt64 := (of_decide_eq_true hold).2
  have hid : (J le 3).toInt32 = M 197 (2 * a + 1) := by rw [hJ 3 (by decide), (hwf.f1 hkd).1, Int32.toInt32_toInt64]
  have hBR : (f_brow g M N e a b c) = s_new (N 208 (e + 4)).toInt32 (M 199 (2 * b)) (M 199 (2 * b + 1)) (g_agr (g_pow (M 197 (2 * a + 1)) (M 199 (2 * b))) (g_pow (N 208 (e + 4)).toInt32 (M 197 (2 * b))) (g_pow (N 208 (e + 4)).toInt32 (M 199 (2 * b))) (nI 0) (M 197 (2 * a + 1)) (M 197 (2 * b + 1)) (nI 0)) g := by unfold f_brow; rw [if_neg (by rw [hnow]; decide), if_neg hit, if_neg hit, hp5, Int32.toInt32_toInt64]
  refine q_k 2 ?_
  show q_W L (d + 6) 67 q_m67 Q 61 [some (.ref 3), some (.ref le), some (.ref (160 + 2 * p)), some (.ref (84 + 19 * b)), some (.int (nI 0)), some (.int pl), none, none] [.int (nI 4), .ref le] (n, I, J, R) 0 0
  refine q_lal (m := 4) rfl (hl) (by decide) (rfl) ?_
  refine q_k 3 ?_
  show q_W L (d + 6) 67 q_m67 Q 66 [some (.ref 3), some (.ref le), some (.ref (160 + 2 * p)), some (.ref (84 + 19 * b)), some (.int (nI 0)), some (.int pl), some (.int ((J le 4).toInt32)), none] [.ref 3] (n, I, J, R) 0 0
  refine q_gR (b := tr) rfl rfl (⟨Nat.lt_of_lt_of_le (by decide) hK.1, rfl⟩) (hL.tr) ?_
  refine q_cv (as := []) (rs := []) rfl rfl rfl (hL.ts.ob) rfl rfl ?_
  refine c_clear (hL.ts) (fun I1 z1 y1 g1 => ?_)
  show q_W L (d + 6) 67 q_m67 Q 72 [some (.ref 3), some (.ref le), some (.ref (160 + 2 * p)), some (.ref (84 + 19 * b)), some (.int (nI 0)), some (.int pl), some (.int ((J le 4).toInt32)), none] [] (n, I1, J, R) 0 0
  refine q_k 1 ?_
  show q_W L (d + 6) 67 q_m67 Q 73 [some (.ref 3), some (.ref le), some (.ref (160 + 2 * p)), some (.ref (84 + 19 * b)), some (.int (nI 0)), some (.int pl), some (.int ((J le 4).toInt32)), none] [.ref 3] (n, I1, J, R) 0 0
  refine q_gR (b := tr) rfl rfl (⟨Nat.lt_of_lt_of_le (by decide) hK.1, rfl⟩) (hL.tr) ?_
  refine q_k 1 ?_
  show q_W L (d + 6) 67 q_m67 Q 78 [some (.ref 3), some (.ref le), some (.ref (160 + 2 * p)), some (.ref (84 + 19 * b)), some (.int (nI 0)), some (.int pl), some (.int ((J le 4).toInt32)), none] [.int ((J le 4).toInt32), .ref tr] (n, I1, J, R) 0 0
  refine q_pI rfl rfl rfl (hL.ts.ob) ?_
  obtain ⟨I2, eI2⟩ : ∃ zz9, zz9 = q_up I1 tr 0 ((J le 4).toInt32) := ⟨_, rfl⟩
  rw [← eI2]
  refine q_k 1 ?_
  show q_W L (d + 6) 67 q_m67 Q 82 [some (.ref 3), some (.ref le), some (.ref (160 + 2 * p)), some (.ref (84 + 19 * b)), some (.int (nI 0)), some (.int pl), some (.int ((J le 4).toInt32)), none] [.ref 3] (n, I2, J, R) 0 0
  refine q_gR (b := tr) rfl rfl (⟨Nat.lt_of_lt_of_le (by decide) hK.1, rfl⟩) (hL.tr) ?_
  refine q_gR (b := (tr + 2)) rfl rfl (hL.ts.ob) (hL.ts.r2) ?_
  refine q_k 3 ?_
  show q_W L (d + 6) 67 q_m67 Q 91 [some (.ref 3), some (.ref le), some (.ref (160 + 2 * p)), some (.ref (84 + 19 * b)), some (.int (nI 0)), some (.int pl), some (.int ((J le 4).toInt32)), none] [.int (nI 5), .ref le, .ref (84 + 19 * b), .ref (tr + 2)] (n, I2, J, R) 0 0
  refine q_lal (m := 5) rfl (hl) (by decide) (rfl) ?_
  refine q_cv (as := [.long (J le 5)]) (rs := [.ref (tr + 2)]) rfl rfl rfl (hA.ob) rfl rfl ?_
  refine c_signedOf (M := M) (u := b) hA (c_A_to hcA (fun x h1 h2 => by rw [eI2, q_un (by omega), g1 x (by omega) (by omega)]) rfl (q_eu_rf _ _)) (fun hz => ?_) (fun hz => ?_)
  · skip
    rw [hJ 5 (by decide)] at hz
    exact absurd (decide_eq_true hz) (by unfold f_now at hnow; rw [hnow]; decide)
  · skip
    show q_W L (d + 6) 67 q_m67 Q 95 [some (.ref 3), some (.ref le), some (.ref (160 + 2 * p)), some (.ref (84 + 19 * b)), some (.int (nI 0)), some (.int pl), some (.int ((J le 4).toInt32)), none] [.ref (84 + 19 * b + 3), .ref (tr + 2)] (n, I2, J, R) 0 0
    refine q_cv (as := [.ref (84 + 19 * b + 3)]) (rs := []) rfl rfl rfl (hL.ts.o2) rfl rfl ?_
    refine c_Pair_become hL.ts.o2 hA.o3 ?_
    obtain ⟨I3, eI3⟩ : ∃ zz9, zz9 = q_up (q_up I2 (tr + 2) 0 (I2 (84 + 19 * b + 3) 0)) (tr + 2) 1 (q_up I2 (tr + 2) 0 (I2 (84 + 19 * b + 3) 0) (84 + 19 * b + 3) 1) := ⟨_, rfl⟩
    rw [← eI3]
    have ho : I (84 + 19 * b + 3) 0 = M 199 (2 * b) ∧ I (84 + 19 * b + 3) 1 = M 199 (2 * b + 1) := by
      rcases hcA.old with ⟨-, q⟩ | ⟨-, -, q1, q2⟩
      · exact absurd q (of_decide_eq_true hold).1
      · exact ⟨q1, q2⟩
    have g2 : ∀ x, (x < tr ∨ tr + 10 ≤ x) → I2 x = I x := fun x hx => by rw [eI2, q_un (by omega), g1 x (by omega) (by omega)]
    have g3 : ∀ x, (x < tr ∨ tr + 10 ≤ x) → I3 x = I x := fun x hx => by rw [eI3, q_un (by omega), q_un (by omega)]; exact g2 x hx
    have p30 : I3 (tr + 2) 0 = M 199 (2 * b) := by rw [eI3, q_usn (by decide), q_usk, g2 (84 + 19 * b + 3) (by omega)]; exact ho.1
    have p31 : I3 (tr + 2) 1 = M 199 (2 * b + 1) := by rw [eI3, q_usk, q_un (by omega), g2 (84 + 19 * b + 3) (by omega)]; exact ho.2
    have t3 : ∀ k, (k = 3 ∨ (6 ≤ k ∧ k ≤ 9) ∨ (11 ≤ k ∧ k ≤ 14)) → I3 tr k = nI 0 := fun k hk => by rw [eI3, q_un (by omega), q_un (by omega), eI2, q_usn (by omega)]; exact z1 k (by omega)
    have b3 : I3 tr 0 = (N 208 (e + 4)).toInt32 := by rw [eI3, q_un (by omega), q_un (by omega), eI2, q_usk, hJ4]
    have k3 : I3 (tr + 5) 0 = nI 0 := by rw [eI3, q_un (by omega), q_un (by omega), eI2, q_un (by omega)]; exact y1
    show q_W L (d + 6) 67 q_m67 Q 98 [some (.ref 3), some (.ref le), some (.ref (160 + 2 * p)), some (.ref (84 + 19 * b)), some (.int (nI 0)), some (.int pl), some (.int ((J le 4).toInt32)), none] [] (n, I3, J, R) 0 0
    refine q_k 4 ?_
    show q_W L (d + 6) 67 q_m67 Q 103 [some (.ref 3), some (.ref le), some (.ref (160 + 2 * p)), some (.ref (84 + 19 * b)), some (.int (nI 0)), some (.int pl), some (.int ((J le 4).toInt32)), none] [.int (nI 0), .ref (84 + 19 * b), .ref le, .ref 3] (n, I3, J, R) 0 0
    refine q_one rfl rfl ?_
    show ((nI 0) = 0 → q_W L (d + 6) 67 q_m67 Q 121 [some (.ref 3), some (.ref le), some (.ref (160 + 2 * p)), some (.ref (84 + 19 * b)), some (.int (nI 0)), some (.int pl), some (.int ((J le 4).toInt32)), none] [.ref (84 + 19 * b), .ref le, .ref 3] (n, I3, J, R) 0 0) ∧ (¬ (nI 0) = 0 → q_W L (d + 6) 67 q_m67 Q 106 [some (.ref 3), some (.ref le), some (.ref (160 + 2 * p)), some (.ref (84 + 19 * b)), some (.int (nI 0)), some (.int pl), some (.int ((J le 4).toInt32)), none] [.ref (84 + 19 * b), .ref le, .ref 3] (n, I3, J, R) 0 0)
    refine ⟨fun _ => ?_, fun z => absurd (by decide) z⟩
    refine q_k 1 ?_
    show q_W L (d + 6) 67 q_m67 Q 122 [some (.ref 3), some (.ref le), some (.ref (160 + 2 * p)), some (.ref (84 + 19 * b)), some (.int (nI 0)), some (.int pl), some (.int ((J le 4).toInt32)), none] [.int (nI 0), .ref (84 + 19 * b), .ref le, .ref 3] (n, I3, J, R) 0 0
    refine q_cv (as := [.ref le, .ref (84 + 19 * b), .int (nI 0)]) (rs := []) rfl rfl rfl (⟨Nat.lt_of_lt_of_le (by decide) hK.1, rfl⟩) rfl rfl ?_
    refine c_agree2 (t := tr) (q_K0_to hK (g3 0 (by omega)) (g3 1 (by omega))) (hA) (hL.tr) (hL.ts) (hl) (fun I4 r4 g4 => ?_)
    have hm : s_R I4 tr (f_brow g M N e a b c) := by
      rw [hBR]
      refine s_R_new (fun k hk => ?_) ?_ ?_ ?_ ?_ (fun i hi => ?_)
      · rw [g4 tr (by omega) (by omega) (by omega)]; exact t3 k hk
      · rw [g4 tr (by omega) (by omega) (by omega)]; exact b3
      · rw [g4 (tr + 2) (by omega) (by omega) (by omega)]; exact p30
      · rw [g4 (tr + 2) (by omega) (by omega) (by omega)]; exact p31
      · rw [g4 (tr + 5) (by omega) (by omega) (by omega)]; exact k3
      · rw [r4 i hi, p30, hid, hJ4, g3 (84 + 19 * b + 1) (by omega), hcA.i0, hcA.i1, hJ 6 (by decide), hN6, lN_i]
    have g4t : ∀ x, x ≠ 5 → x ≠ 6 → (x < tr ∨ tr + 10 ≤ x) → I4 x = I x := fun x h5 h6 hx => (g4 x h5 h6 (by omega)).trans (g3 x hx)
    show q_W L (d + 6) 67 q_m67 Q 125 [some (.ref 3), some (.ref le), some (.ref (160 + 2 * p)), some (.ref (84 + 19 * b)), some (.int (nI 0)), some (.int pl), some (.int ((J le 4).toInt32)), none] [] (n, I4, J, R) 0 0
    refine q_k 2 ?_
    show q_W L (d + 6) 67 q_m67 Q 127 [some (.ref 3), some (.ref le), some (.ref (160 + 2 * p)), some (.ref (84 + 19 * b)), some (.int (nI 0)), some (.int pl), some (.int ((J le 4).toInt32)), none] [.ref le, .ref 3] (n, I4, J, R) 0 0
    refine q_cv (as := [.ref le]) (rs := []) rfl rfl rfl (⟨Nat.lt_of_lt_of_le (by decide) hK.1, rfl⟩) rfl rfl ?_
    refine c_tryTrial (t := tr) (e := e) (r := (f_brow g M N e a b c)) (N := N) (M := M) (q_K0_to hK (g4t 0 (by omega) (by omega) (by omega)) (g4t 1 (by omega) (by omega) (by omega))) (fun u hu => c_A_to (ha u hu) (fun x h1 h2 => g4t x (by omega) (by omega) (by omega)) rfl (q_eu_rf _ _)) (hL.tr) (hL.ts) (hl) (hJ) (hwf) (hm) (Or.inr ⟨by rw [hBR]; exact s_new_0 (by omega), by obtain ⟨xx, hx2, hx3, hxe⟩ := hwf.fx; rw [hBR, s_new_0 (by omega), hxe, lN_i]; exact fun z => absurd ((nI_eq (by omega) (by decide)).mp z) (by omega)⟩) (by rw [hBR]; exact s_new_ri _ _ _ _ _) (fun I5 z g5 => ?_) (fun I5 z a5 b5 c5 g5 => ?_)
    · skip
      show q_W L (d + 6) 67 q_m67 Q 130 [some (.ref 3), some (.ref le), some (.ref (160 + 2 * p)), some (.ref (84 + 19 * b)), some (.int (nI 0)), some (.int pl), some (.int ((J le 4).toInt32)), none] [.int ((f_try M N e a b (f_brow g M N e a b c)).1)] (n, I5, J, R) 0 0
      obtain ⟨gv, egv⟩ : ∃ z, z = (f_try M N e a b (f_brow g M N e a b c)).1 := ⟨_, rfl⟩
      rw [← egv]
      have hz' : ¬ gv = 0 := by rw [egv]; exact z
      show q_W L (d + 6) 67 q_m67 Q 130 [some (.ref 3), some (.ref le), some (.ref (160 + 2 * p)), some (.ref (84 + 19 * b)), some (.int (nI 0)), some (.int pl), some (.int ((J le 4).toInt32)), none] [.int gv] (n, I5, J, R) 0 0
      refine q_k 2 ?_
      show q_W L (d + 6) 67 q_m67 Q 134 [some (.ref 3), some (.ref le), some (.ref (160 + 2 * p)), some (.ref (84 + 19 * b)), some (.int (nI 0)), some (.int pl), some (.int ((J le 4).toInt32)), some (.int gv)] [.int gv] (n, I5, J, R) 0 0
      refine q_one rfl rfl ?_
      show (¬ gv = 0 → q_W L (d + 6) 67 q_m67 Q 160 [some (.ref 3), some (.ref le), some (.ref (160 + 2 * p)), some (.ref (84 + 19 * b)), some (.int (nI 0)), some (.int pl), some (.int ((J le 4).toInt32)), some (.int gv)] [] (n, I5, J, R) 0 0) ∧ (gv = 0 → q_W L (d + 6) 67 q_m67 Q 137 [some (.ref 3), some (.ref le), some (.ref (160 + 2 * p)), some (.ref (84 + 19 * b)), some (.int (nI 0)), some (.int pl), some (.int ((J le 4).toInt32)), some (.int gv)] [] (n, I5, J, R) 0 0)
      refine ⟨fun _ => ?_, fun z => absurd z (hz')⟩
      refine q_k 1 ?_
      show q_W L (d + 6) 67 q_m67 Q 162 [some (.ref 3), some (.ref le), some (.ref (160 + 2 * p)), some (.ref (84 + 19 * b)), some (.int (nI 0)), some (.int pl), some (.int ((J le 4).toInt32)), some (.int gv)] [.int gv] (n, I5, J, R) 0 0
      refine q_one rfl rfl ?_
      show Q (some (.int gv)) (n, I5, J, R)
      rw [show f_beg2 g M N e a b p (mc p) c = ((f_try M N e a b (f_brow g M N e a b c)).1, M, N) by unfold f_beg2; rw [if_neg z]] at hQ
      dsimp only at hQ
      obtain ⟨c1, c2⟩ := CR_frt h hL (I2 := I5) (fun x h5 h6 h7 _ h82 h83 hx => (g5 x h5 h6 h7 h82 h83 hx).trans (g4t x h5 h6 hx))
      rw [egv]
      exact hQ n I5 J R c1 c2 ⟨rfl, rfl⟩
    · skip
      show q_W L (d + 6) 67 q_m67 Q 130 [some (.ref 3), some (.ref le), some (.ref (160 + 2 * p)), some (.ref (84 + 19 * b)), some (.int (nI 0)), some (.int pl), some (.int ((J le 4).toInt32)), none] [.int (nI 0)] (n, I5, q_up J 3 5 (J le 10 ^^^ g_wide (f_try M N e a b (f_brow g M N e a b c)).2.2.1 (nI 9) (nI 0) (nI 0) (nI 0)), R) 0 0
      have fr5 : ∀ x, x ≠ 5 → x ≠ 6 → x ≠ 7 → x ≠ 82 → x ≠ 83 → x ≠ 84 + 19 * b → (x < tr ∨ tr + 10 ≤ x) → I5 x = I x := fun x h5 h6 h7 h82 h83 hb hx => (g5 x h5 h6 h7 h82 h83 hb hx).trans (g4t x h5 h6 hx)
      have hF : f_beg2 g M N e a b p (mc p) c = (nI 0, (f_come p (mc p) (va_up (f_try M N e a b (f_brow g M N e a b c)).2.1 11 (nI 1)) (f_ok (f_try M N e a b (f_brow g M N e a b c)) b M)), f_tx N e (f_try M N e a b (f_brow g M N e a b c))) := by unfold f_beg2; rw [if_pos z, if_neg hit]
      rw [hF] at hQ
      dsimp only at hQ
      rw [hJ 10 (by decide)]
      have hri5 := f_try_ri (r := (f_brow g M N e a b c)) hwf (by rw [hBR]; exact s_new_ri _ _ _ _ _) z
      have hme : ∀ q, (f_come p (mc p) (va_up (f_try M N e a b (f_brow g M N e a b c)).2.1 11 (nI 1)) (f_ok (f_try M N e a b (f_brow g M N e a b c)) b M)) 206 q = if q = p then nI (min (mc p) 2 + 1) else M 206 q := fun q => by rw [f_come_206, f_ok_n (by decide)]; unfold va_up; rfl
      have hm5 : (f_come p (mc p) (va_up (f_try M N e a b (f_brow g M N e a b c)).2.1 11 (nI 1)) (f_ok (f_try M N e a b (f_brow g M N e a b c)) b M)) 205 = f_rows p (min (mc p) 2) (va_up (f_try M N e a b (f_brow g M N e a b c)).2.1 11 (nI 1)) M 205 := by exact (f_come_205 (f_ok_n (by decide)).symm (fun _ _ => rfl)).symm
      have hm192 : (f_come p (mc p) (va_up (f_try M N e a b (f_brow g M N e a b c)).2.1 11 (nI 1)) (f_ok (f_try M N e a b (f_brow g M N e a b c)) b M)) 192 16 = M 192 16 := by rw [f_come_n (by decide) (by decide), f_ok_n (by decide)]
      show q_W L (d + 6) 67 q_m67 Q 130 [some (.ref 3), some (.ref le), some (.ref (160 + 2 * p)), some (.ref (84 + 19 * b)), some (.int (nI 0)), some (.int pl), some (.int ((J le 4).toInt32)), none] [.int (nI 0)] (n, I5, q_up J 3 5 (N 208 (e + 10) ^^^ g_wide (f_try M N e a b (f_brow g M N e a b c)).2.2.1 (nI 9) (nI 0) (nI 0) (nI 0)), R) 0 0
      refine q_k 2 ?_
      show q_W L (d + 6) 67 q_m67 Q 134 [some (.ref 3), some (.ref le), some (.ref (160 + 2 * p)), some (.ref (84 + 19 * b)), some (.int (nI 0)), some (.int pl), some (.int ((J le 4).toInt32)), some (.int (nI 0))] [.int (nI 0)] (n, I5, q_up J 3 5 (N 208 (e + 10) ^^^ g_wide (f_try M N e a b (f_brow g M N e a b c)).2.2.1 (nI 9) (nI 0) (nI 0) (nI 0)), R) 0 0
      refine q_one rfl rfl ?_
      show (¬ (nI 0) = 0 → q_W L (d + 6) 67 q_m67 Q 160 [some (.ref 3), some (.ref le), some (.ref (160 + 2 * p)), some (.ref (84 + 19 * b)), some (.int (nI 0)), some (.int pl), some (.int ((J le 4).toInt32)), some (.int (nI 0))] [] (n, I5, q_up J 3 5 (N 208 (e + 10) ^^^ g_wide (f_try M N e a b (f_brow g M N e a b c)).2.2.1 (nI 9) (nI 0) (nI 0) (nI 0)), R) 0 0) ∧ ((nI 0) = 0 → q_W L (d + 6) 67 q_m67 Q 137 [some (.ref 3), some (.ref le), some (.ref (160 + 2 * p)), some (.ref (84 + 19 * b)), some (.int (nI 0)), some (.int pl), some (.int ((J le 4).toInt32)), some (.int (nI 0))] [] (n, I5, q_up J 3 5 (N 208 (e + 10) ^^^ g_wide (f_try M N e a b (f_brow g M N e a b c)).2.2.1 (nI 9) (nI 0) (nI 0) (nI 0)), R) 0 0)
      refine ⟨fun z => absurd (by decide) z, fun _ => ?_⟩
      refine q_k 3 ?_
      show q_W L (d + 6) 67 q_m67 Q 140 [some (.ref 3), some (.ref le), some (.ref (160 + 2 * p)), some (.ref (84 + 19 * b)), some (.int (nI 0)), some (.int pl), some (.int ((J le 4).toInt32)), some (.int (nI 0))] [.ref 3, .ref (160 + 2 * p), .ref 3] (n, I5, q_up J 3 5 (N 208 (e + 10) ^^^ g_wide (f_try M N e a b (f_brow g M N e a b c)).2.2.1 (nI 9) (nI 0) (nI 0) (nI 0)), R) 0 0
      refine q_gR (b := tr) rfl rfl (⟨Nat.lt_of_lt_of_le (by decide) hK.1, rfl⟩) (hL.tr) ?_
      refine q_cvA (as := [.ref tr]) (rs := [.ref 3]) rfl rfl rfl (q_obL hK.1 hp) rfl rfl ⟨by decide, by decide⟩ ?_
      refine c_putInFront (s := 160 + 2 * p) (m := mc p) (rr := ss p) (q_obL hK.1 hp) (hK.2.1 _ _ _ (q_fxL p hp)) (q_arL hK.1 hp) (by omega) h.nj (by rw [fr5 (160 + 2 * p) (by omega) (by omega) (by omega) (by omega) (by omega) (by omega) (by omega)]; exact (hL.m3 p hp).2.2) hm3 hL.ts.ob (fun i hi => ⟨(hL.rw p i hp hi).1, (hL.se hp hi).ob⟩) (fun em I6 R6 i6 j6 x0 x1 x2 x6 => ?_) (fun em I6 J6 R6 i6 x0 xk j6 l6 x6 s6 => ?_)
      · skip
        show q_W L (d + 6) 67 q_m67 Q 146 [some (.ref 3), some (.ref le), some (.ref (160 + 2 * p)), some (.ref (84 + 19 * b)), some (.int (nI 0)), some (.int pl), some (.int ((J le 4).toInt32)), some (.int (nI 0))] [.ref (ss p 2), .ref 3] (n, I6, q_up J 3 5 (N 208 (e + 10) ^^^ g_wide (f_try M N e a b (f_brow g M N e a b c)).2.2.1 (nI 9) (nI 0) (nI 0) (nI 0)), R6) 10 334
        have gI : ∀ x, x ≠ 160 + 2 * p → x < n → I6 x = I5 x := fun x hx _ => j6 x hx
        have gR : ∀ x, x ≠ 160 + 2 * p + 1 → x < n → R6 x = R x := fun x hx _ => x6 x hx
        have h2m : 2 < mc p := by omega
        have hn0 := hK.1
        refine q_pR rfl rfl rfl (⟨by omega, rfl⟩) ?_
        obtain ⟨R7, eR7⟩ : ∃ zz9, zz9 = q_up R6 3 6 (some (ss p 2)) := ⟨_, rfl⟩
        rw [← eR7]
        refine q_k 1 ?_
        show q_W L (d + 6) 67 q_m67 Q 151 [some (.ref 3), some (.ref le), some (.ref (160 + 2 * p)), some (.ref (84 + 19 * b)), some (.int (nI 0)), some (.int pl), some (.int ((J le 4).toInt32)), some (.int (nI 0))] [.int (nI 0)] (n, I6, q_up J 3 5 (N 208 (e + 10) ^^^ g_wide (f_try M N e a b (f_brow g M N e a b c)).2.2.1 (nI 9) (nI 0) (nI 0) (nI 0)), R7) 10 334
        refine q_one rfl rfl ?_
        show ((nI 0) = 0 → q_W L (d + 6) 67 q_m67 Q 160 [some (.ref 3), some (.ref le), some (.ref (160 + 2 * p)), some (.ref (84 + 19 * b)), some (.int (nI 0)), some (.int pl), some (.int ((J le 4).toInt32)), some (.int (nI 0))] [] (n, I6, q_up J 3 5 (N 208 (e + 10) ^^^ g_wide (f_try M N e a b (f_brow g M N e a b c)).2.2.1 (nI 9) (nI 0) (nI 0) (nI 0)), R7) 10 334) ∧ (¬ (nI 0) = 0 → q_W L (d + 6) 67 q_m67 Q 154 [some (.ref 3), some (.ref le), some (.ref (160 + 2 * p)), some (.ref (84 + 19 * b)), some (.int (nI 0)), some (.int pl), some (.int ((J le 4).toInt32)), some (.int (nI 0))] [] (n, I6, q_up J 3 5 (N 208 (e + 10) ^^^ g_wide (f_try M N e a b (f_brow g M N e a b c)).2.2.1 (nI 9) (nI 0) (nI 0) (nI 0)), R7) 10 334)
        refine ⟨fun _ => ?_, fun z => absurd (by decide) z⟩
        refine q_k 1 ?_
        show q_W L (d + 6) 67 q_m67 Q 162 [some (.ref 3), some (.ref le), some (.ref (160 + 2 * p)), some (.ref (84 + 19 * b)), some (.int (nI 0)), some (.int pl), some (.int ((J le 4).toInt32)), some (.int (nI 0))] [.int (nI 0)] (n, I6, q_up J 3 5 (N 208 (e + 10) ^^^ g_wide (f_try M N e a b (f_brow g M N e a b c)).2.2.1 (nI 9) (nI 0) (nI 0) (nI 0)), R7) 10 334
        refine q_one rfl rfl ?_
        show Q (some (.int (nI 0))) (n, I6, q_up J 3 5 (N 208 (e + 10) ^^^ g_wide (f_try M N e a b (f_brow g M N e a b c)).2.2.1 (nI 9) (nI 0) (nI 0) (nI 0)), R7)
        have hRR : ∀ x, x ≠ 160 + 2 * p + 1 → x ≠ 3 → x < n → R7 x = R x := fun x h1 h2 h3 => by rw [eR7, q_un h2]; exact gR x h1 h3
        have hIf : ∀ x, x ≠ 160 + 2 * p → x < n → I6 x = I5 x := gI
        have hR3 : R7 3 6 = some (ss p 2) := by rw [eR7, q_usk]
        have hRs1 : R7 (160 + 2 * p + 1) = R6 (160 + 2 * p + 1) := by rw [eR7, q_un (by omega)]
        have hR3n : ∀ l, l ≠ 6 → R7 3 l = R 3 l := fun l hl => by rw [eR7, q_usn hl, gR 3 (by omega) (by omega)]
        have hmin : min (mc p) 2 = 2 := by omega
        rw [hmin] at hme hm5
        obtain ⟨ss2, mc2, hL2⟩ := c_L_mv (n2 := n) (I2 := I6) (R2 := R7) (M2 := (f_come p (mc p) (va_up (f_try M N e a b (f_brow g M N e a b c)).2.1 11 (nI 1)) (f_ok (f_try M N e a b (f_brow g M N e a b c)) b M))) (tr2 := ss p 2) (k := 2) (m2 := 3) (row := (va_up (f_try M N e a b (f_brow g M N e a b c)).2.1 11 (nI 1))) hL hK.1 (by omega) hp (by omega) (by omega) (by omega) (fun i h1 h2 => by omega) hR3 ((hL.se hp h2m).to (Nat.le_refl _) (hRR _ (by have := (hL.se hp h2m).ge; omega) (by have := (hL.se hp h2m).ge; omega) (by have := (hL.se hp h2m).hi; omega)) (hRR _ (by have := (hL.se hp h2m).ge; omega) (by have := (hL.se hp h2m).ge; omega) (by have := (hL.se hp h2m).hi; omega))) (hL.rw p 2 hp h2m).2.2 (fun q i hq hi hne he => by obtain ⟨e1, e2⟩ := hL.inj q i p 2 hq hi hp h2m he; rcases hne with z1 | z1; exact z1 e1; exact z1 e2) (by rw [hRs1]; exact x0) (fun i hi => by rw [hRs1]; have h01 : i = 0 ∨ i = 1 := (by omega); rcases h01 with rfl | rfl; exact x1; exact x2) (fun i h1 h2 => by omega) (fun x hx h2 => hRR x (by omega) (by omega) hx) (fun x hx h2 h3 => by rw [hIf x (by omega) hx]; exact fr5 x (by omega) (by omega) (by omega) (by omega) (by omega) (by omega) (by omega)) (by rw [i6, va_up_self]) (s_R_to a5 (fun x h1 h2 => hIf x (by omega) (by have := hL.ts.hi; omega))) (s_S_to b5 (fun x h1 h2 => hIf x (by omega) (by have := hL.ts.hi; omega))) hri5 hm5 (fun q hq => by rw [hme q, if_neg hq]) (by rw [hme p, if_pos rfl])
        exact hQ (n) I6 _ R7 ⟨q_K0_R (q_K0_to hK (by rw [hIf 0 (by omega) (by omega)]; exact fr5 0 (by omega) (by omega) (by omega) (by omega) (by omega) (by omega) (by omega)) (by rw [hIf 1 (by omega) (by omega)]; exact fr5 1 (by omega) (by omega) (by omega) (by omega) (by omega) (by omega) (by omega))) (show n ≤ n by omega) (fun x l => by by_cases x1 : x = 160 + 2 * p + 1; exact Or.inr (by rw [x1]; exact q_fxn1 hp); by_cases x4 : 214 ≤ x; exact Or.inr (q_fxS x4); by_cases x3 : x = 3; subst x3; by_cases l6 : l = 6; exact Or.inr (by rw [l6]; rfl); exact Or.inl (by rw [hR3n l l6]); exact Or.inl (by rw [hRR x x1 x3 (by omega)])), h.nj, fun u hu => c_A_to (c5 u hu) (fun x h1 h2 => hIf x (by omega) (by omega)) (hRR _ (by omega) (by omega) (by omega)) (fun r l ho => by unfold q_own at ho; rw [f_come_n (by omega) (by omega)]), ⟨ss2, mc2, _, hL2⟩, ⟨E, c_E_tx hE (by rw [hIf 3 (by omega) (by omega)]; exact fr5 3 (by omega) (by omega) (by omega) (by omega) (by omega) (by omega) (by omega)) hm192⟩⟩ (fun x hx => by rw [hIf x (by omega) (by omega)]; exact fr5 x (by omega) (by omega) (by omega) (by omega) (by omega) (by omega) (by omega)) ⟨q_un (by decide), q_un (by decide)⟩
      · skip
        show q_W L (d + 6) 67 q_m67 Q 146 [some (.ref 3), some (.ref le), some (.ref (160 + 2 * p)), some (.ref (84 + 19 * b)), some (.int (nI 0)), some (.int pl), some (.int ((J le 4).toInt32)), some (.int (nI 0))] [.ref n, .ref 3] (n + 10, I6, J6, R6) 10 334
        have gI : ∀ x, x ≠ 160 + 2 * p → x < n → I6 x = I5 x := fun x hx hl => j6 x hx (Or.inl hl)
        have gR : ∀ x, x ≠ 160 + 2 * p + 1 → x < n → R6 x = R x := fun x hx hl => x6 x hx (Or.inl hl)
        have hn0 := hK.1
        refine q_pR rfl rfl rfl (⟨by omega, rfl⟩) ?_
        obtain ⟨R7, eR7⟩ : ∃ zz9, zz9 = q_up R6 3 6 (some n) := ⟨_, rfl⟩
        rw [← eR7]
        refine q_k 1 ?_
        show q_W L (d + 6) 67 q_m67 Q 151 [some (.ref 3), some (.ref le), some (.ref (160 + 2 * p)), some (.ref (84 + 19 * b)), some (.int (nI 0)), some (.int pl), some (.int ((J le 4).toInt32)), some (.int (nI 0))] [.int (nI 0)] (n + 10, I6, J6, R7) 10 334
        refine q_one rfl rfl ?_
        show ((nI 0) = 0 → q_W L (d + 6) 67 q_m67 Q 160 [some (.ref 3), some (.ref le), some (.ref (160 + 2 * p)), some (.ref (84 + 19 * b)), some (.int (nI 0)), some (.int pl), some (.int ((J le 4).toInt32)), some (.int (nI 0))] [] (n + 10, I6, J6, R7) 10 334) ∧ (¬ (nI 0) = 0 → q_W L (d + 6) 67 q_m67 Q 154 [some (.ref 3), some (.ref le), some (.ref (160 + 2 * p)), some (.ref (84 + 19 * b)), some (.int (nI 0)), some (.int pl), some (.int ((J le 4).toInt32)), some (.int (nI 0))] [] (n + 10, I6, J6, R7) 10 334)
        refine ⟨fun _ => ?_, fun z => absurd (by decide) z⟩
        refine q_k 1 ?_
        show q_W L (d + 6) 67 q_m67 Q 162 [some (.ref 3), some (.ref le), some (.ref (160 + 2 * p)), some (.ref (84 + 19 * b)), some (.int (nI 0)), some (.int pl), some (.int ((J le 4).toInt32)), some (.int (nI 0))] [.int (nI 0)] (n + 10, I6, J6, R7) 10 334
        refine q_one rfl rfl ?_
        show Q (some (.int (nI 0))) (n + 10, I6, J6, R7)
        have hRR : ∀ x, x ≠ 160 + 2 * p + 1 → x ≠ 3 → x < n → R7 x = R x := fun x h1 h2 h3 => by rw [eR7, q_un h2]; exact gR x h1 h3
        have hIf : ∀ x, x ≠ 160 + 2 * p → x < n → I6 x = I5 x := gI
        have hR3 : R7 3 6 = some (n) := by rw [eR7, q_usk]
        have hRs1 : R7 (160 + 2 * p + 1) = R6 (160 + 2 * p + 1) := by rw [eR7, q_un (by omega)]
        have hR3n : ∀ l, l ≠ 6 → R7 3 l = R 3 l := fun l hl => by rw [eR7, q_usn hl, gR 3 (by omega) (by omega)]
        have hmin : min (mc p) 2 = mc p := by omega
        rw [hmin] at hme hm5
        obtain ⟨ss2, mc2, hL2⟩ := c_L_mv (n2 := n + 10) (I2 := I6) (R2 := R7) (M2 := (f_come p (mc p) (va_up (f_try M N e a b (f_brow g M N e a b c)).2.1 11 (nI 1)) (f_ok (f_try M N e a b (f_brow g M N e a b c)) b M))) (tr2 := n) (k := mc p) (m2 := (mc p + 1)) (row := (va_up (f_try M N e a b (f_brow g M N e a b c)).2.1 11 (nI 1))) hL hK.1 (by omega) hp (by omega) (by omega) (by omega) (fun i h1 h2 => by omega) hR3 (s6.to (Nat.le_refl _) (by rw [eR7, q_un (by omega)]) (by rw [eR7, q_un (by omega)])) (by have := hL.ts.hi; omega) (fun q i hq hi _ he => by have := (hL.se hq hi).hi; omega) (by rw [hRs1]; exact x0) (fun i hi => by rw [hRs1]; exact xk i hi) (fun i h1 h2 => by omega) (fun x hx h2 => hRR x (by omega) (by omega) hx) (fun x hx h2 h3 => by rw [hIf x (by omega) hx]; exact fr5 x (by omega) (by omega) (by omega) (by omega) (by omega) (by omega) (by omega)) (by rw [i6]) (s_R_to a5 (fun x h1 h2 => hIf x (by omega) (by have := hL.ts.hi; omega))) (s_S_to b5 (fun x h1 h2 => hIf x (by omega) (by have := hL.ts.hi; omega))) hri5 hm5 (fun q hq => by rw [hme q, if_neg hq]) (by rw [hme p, if_pos rfl])
        exact hQ (n + 10) I6 J6 R7 ⟨q_K0_R (q_K0_to hK (by rw [hIf 0 (by omega) (by omega)]; exact fr5 0 (by omega) (by omega) (by omega) (by omega) (by omega) (by omega) (by omega)) (by rw [hIf 1 (by omega) (by omega)]; exact fr5 1 (by omega) (by omega) (by omega) (by omega) (by omega) (by omega) (by omega))) (show n ≤ n + 10 by omega) (fun x l => by by_cases x1 : x = 160 + 2 * p + 1; exact Or.inr (by rw [x1]; exact q_fxn1 hp); by_cases x4 : 214 ≤ x; exact Or.inr (q_fxS x4); by_cases x3 : x = 3; subst x3; by_cases l6 : l = 6; exact Or.inr (by rw [l6]; rfl); exact Or.inl (by rw [hR3n l l6]); exact Or.inl (by rw [hRR x x1 x3 (by omega)])), (by obtain ⟨j, hj⟩ := h.nj; exact ⟨j + 1, by omega⟩), fun u hu => c_A_to (c5 u hu) (fun x h1 h2 => hIf x (by omega) (by omega)) (hRR _ (by omega) (by omega) (by omega)) (fun r l ho => by unfold q_own at ho; rw [f_come_n (by omega) (by omega)]), ⟨ss2, mc2, _, hL2⟩, ⟨E, c_E_J (c_E_tx hE (by rw [hIf 3 (by omega) (by omega)]; exact fr5 3 (by omega) (by omega) (by omega) (by omega) (by omega) (by omega) (by omega)) hm192) (fun x hx => l6 x (by omega))⟩⟩ (fun x hx => by rw [hIf x (by omega) (by omega)]; exact fr5 x (by omega) (by omega) (by omega) (by omega) (by omega) (by omega) (by omega)) ⟨by rw [l6 208 (by omega)]; exact q_un (by decide), by rw [l6 192 (by omega)]; exact q_un (by decide)⟩
