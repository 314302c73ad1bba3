/-! a session of the class and a row of the reference -/
def s_R (I : q_I) (t : Nat) (r : Nat → Int32) : Prop :=
  (I t 0 = r 0) ∧
  (I t 3 = r 1) ∧
  (I (t + 2) 0 = r 2) ∧
  (I (t + 2) 1 = r 3) ∧
  (I t 6 = r 5) ∧
  (q_bz (r 5)) ∧
  (I t 7 = r 6) ∧
  (I t 8 = r 7) ∧
  (I t 9 = r 8) ∧
  (I (t + 5) 0 = r 9) ∧
  (I t 11 = r 10) ∧
  (q_bz (r 10)) ∧
  (I t 12 = r 11) ∧
  (q_bz (r 11)) ∧
  (I t 13 = r 12) ∧
  (I t 14 = r 13) ∧
  (∀ i, i < 8 → I (t + 1) i = r (14 + i)) ∧
  (∀ k, k < (r 9).toNatClampNeg → I (t + 6) k = r (38 + 10 * k) ∧ I (t + 7) k = r (38 + 10 * k + 1) ∧ ∀ i, i < 8 → I (t + 8) (8 * k + i) = r (40 + 10 * k + i)) ∧
  (r 5 = nI 1 → ∀ i, i < 8 → I (t + 4) i = r (30 + i))
theorem s_R.f0 {I : q_I} {t : Nat} {r : Nat → Int32} (h : s_R I t r) : I t 0 = r 0 := h.1
theorem s_R.f3 {I : q_I} {t : Nat} {r : Nat → Int32} (h : s_R I t r) : I t 3 = r 1 := h.2.1
theorem s_R.p0 {I : q_I} {t : Nat} {r : Nat → Int32} (h : s_R I t r) : I (t + 2) 0 = r 2 := h.2.2.1
theorem s_R.p1 {I : q_I} {t : Nat} {r : Nat → Int32} (h : s_R I t r) : I (t + 2) 1 = r 3 := h.2.2.2.1
theorem s_R.f6 {I : q_I} {t : Nat} {r : Nat → Int32} (h : s_R I t r) : I t 6 = r 5 := h.2.2.2.2.1
theorem s_R.z6 {I : q_I} {t : Nat} {r : Nat → Int32} (h : s_R I t r) : q_bz (r 5) := h.2.2.2.2.2.1
theorem s_R.f7 {I : q_I} {t : Nat} {r : Nat → Int32} (h : s_R I t r) : I t 7 = r 6 := h.2.2.2.2.2.2.1
theorem s_R.f8 {I : q_I} {t : Nat} {r : Nat → Int32} (h : s_R I t r) : I t 8 = r 7 := h.2.2.2.2.2.2.2.1
theorem s_R.f9 {I : q_I} {t : Nat} {r : Nat → Int32} (h : s_R I t r) : I t 9 = r 8 := h.2.2.2.2.2.2.2.2.1
theorem s_R.k0 {I : q_I} {t : Nat} {r : Nat → Int32} (h : s_R I t r) : I (t + 5) 0 = r 9 := h.2.2.2.2.2.2.2.2.2.1
theorem s_R.f11 {I : q_I} {t : Nat} {r : Nat → Int32} (h : s_R I t r) : I t 11 = r 10 := h.2.2.2.2.2.2.2.2.2.2.1
theorem s_R.z11 {I : q_I} {t : Nat} {r : Nat → Int32} (h : s_R I t r) : q_bz (r 10) := h.2.2.2.2.2.2.2.2.2.2.2.1
theorem s_R.f12 {I : q_I} {t : Nat} {r : Nat → Int32} (h : s_R I t r) : I t 12 = r 11 := h.2.2.2.2.2.2.2.2.2.2.2.2.1
theorem s_R.z12 {I : q_I} {t : Nat} {r : Nat → Int32} (h : s_R I t r) : q_bz (r 11) := h.2.2.2.2.2.2.2.2.2.2.2.2.2.1
theorem s_R.f13 {I : q_I} {t : Nat} {r : Nat → Int32} (h : s_R I t r) : I t 13 = r 12 := h.2.2.2.2.2.2.2.2.2.2.2.2.2.2.1
theorem s_R.f14 {I : q_I} {t : Nat} {r : Nat → Int32} (h : s_R I t r) : I t 14 = r 13 := h.2.2.2.2.2.2.2.2.2.2.2.2.2.2.2.1
theorem s_R.rt {I : q_I} {t : Nat} {r : Nat → Int32} (h : s_R I t r) : ∀ i, i < 8 → I (t + 1) i = r (14 + i) := h.2.2.2.2.2.2.2.2.2.2.2.2.2.2.2.2.1
theorem s_R.kp {I : q_I} {t : Nat} {r : Nat → Int32} (h : s_R I t r) : ∀ k, k < (r 9).toNatClampNeg → I (t + 6) k = r (38 + 10 * k) ∧ I (t + 7) k = r (38 + 10 * k + 1) ∧ ∀ i, i < 8 → I (t + 8) (8 * k + i) = r (40 + 10 * k + i) := h.2.2.2.2.2.2.2.2.2.2.2.2.2.2.2.2.2.1
theorem s_R.rv {I : q_I} {t : Nat} {r : Nat → Int32} (h : s_R I t r) : r 5 = nI 1 → ∀ i, i < 8 → I (t + 4) i = r (30 + i) := h.2.2.2.2.2.2.2.2.2.2.2.2.2.2.2.2.2.2
def s_S (I : q_I) (t : Nat) (r : Nat → Int32) : Prop := ∀ i, i < 8 → I (t + 3) i = r (22 + i)
theorem s_sk1_lo {c i : Nat} {r : Nat → Int32} (h30 : i < 30) (h7 : i ≠ 7) (h9 : i ≠ 9) : s_sk1 c r i = r i := by
  unfold s_sk1
  rw [if_neg h7, if_neg h9, if_neg (by omega), if_neg (by omega), if_neg (by omega), if_neg (by omega)]
theorem s_sk1_7 {c : Nat} {r : Nat → Int32} : s_sk1 c r 7 = r 7 + nI 1 := by unfold s_sk1; rw [if_pos rfl]
theorem s_sk1_9 {c : Nat} {r : Nat → Int32} : s_sk1 c r 9 = nI (c + 1) := by unfold s_sk1; rw [if_neg (by decide), if_pos rfl]
theorem s_sk1_30 {c i : Nat} {r : Nat → Int32} (hi : i < 8) : s_sk1 c r (30 + i) = g_mix (fun j => r (30 + j)) (nI 8) (nI 0) (nI 0) (nI 0) i := by
  unfold s_sk1
  rw [if_neg (by omega), if_neg (by omega), if_neg (by omega), if_neg (by omega), if_neg (by omega), if_pos (by omega), show 30 + i - 30 = i by omega]
theorem s_sk1_n0 {c : Nat} {r : Nat → Int32} : s_sk1 c r (38 + 10 * c) = r 1 := by unfold s_sk1; rw [if_neg (by omega), if_neg (by omega), if_pos rfl]
theorem s_sk1_n1 {c : Nat} {r : Nat → Int32} : s_sk1 c r (38 + 10 * c + 1) = r 7 := by unfold s_sk1; rw [if_neg (by omega), if_neg (by omega), if_neg (by omega), if_pos (by omega)]
theorem s_sk1_n2 {c i : Nat} {r : Nat → Int32} (hi : i < 8) : s_sk1 c r (40 + 10 * c + i) = g_mix (fun j => r (30 + j)) (nI 7) (nI 0) (nI 0) (nI 0) i := by
  unfold s_sk1
  rw [if_neg (by omega), if_neg (by omega), if_neg (by omega), if_neg (by omega), if_pos (by omega), show 40 + 10 * c + i - (40 + 10 * c) = i by omega]
theorem s_sk1_k {c i : Nat} {r : Nat → Int32} (h1 : 38 ≤ i) (h2 : i < 38 + 10 * c) : s_sk1 c r i = r i := by
  unfold s_sk1
  rw [if_neg (by omega), if_neg (by omega), if_neg (by omega), if_neg (by omega), if_neg (by omega), if_neg (by omega)]
def s_tr (x : Int32) (r : Nat → Int32) : Nat → Int32 := fun i => if i = 1 then x else if i = 5 then nI 1 else if i = 6 then nI 0 else if i = 7 then nI 0 else if i = 8 then r 6 else if 14 ≤ i ∧ i < 22 then g_mix (s_rt r) (g_pow x (r 2)) (nI 5) (nI 0) (nI 0) (i - 14) else if 30 ≤ i ∧ i < 38 then g_mix (s_rt r) (g_pow x (r 2)) (nI 6) (nI 0) (nI 0) (i - 30) else r i
def s_ss (q : Int32) (r : Nat → Int32) : Nat → Int32 := fun i => if i = 2 then q else if i = 3 then g_pub q else if i = 4 then nI 1 else if 14 ≤ i ∧ i < 22 then g_mix (s_rt r) (g_pow (r 1) q) (nI 5) (nI 0) (nI 0) (i - 14) else if 22 ≤ i ∧ i < 30 then g_mix (s_rt r) (g_pow (r 1) q) (nI 6) (nI 0) (nI 0) (i - 22) else r i
theorem s_tr_1 {x : Int32} {r : Nat → Int32} : s_tr x r 1 = x := by unfold s_tr; rw [if_pos rfl]
theorem s_tr_5 {x : Int32} {r : Nat → Int32} : s_tr x r 5 = nI 1 := by unfold s_tr; rw [if_neg (by decide), if_pos rfl]
theorem s_tr_6 {x : Int32} {r : Nat → Int32} : s_tr x r 6 = nI 0 := by unfold s_tr; rw [if_neg (by decide), if_neg (by decide), if_pos rfl]
theorem s_tr_7 {x : Int32} {r : Nat → Int32} : s_tr x r 7 = nI 0 := by unfold s_tr; rw [if_neg (by decide), if_neg (by decide), if_neg (by decide), if_pos rfl]
theorem s_tr_8 {x : Int32} {r : Nat → Int32} : s_tr x r 8 = r 6 := by unfold s_tr; rw [if_neg (by decide), if_neg (by decide), if_neg (by decide), if_neg (by decide), if_pos rfl]
theorem s_tr_14 {x : Int32} {r : Nat → Int32} {i : Nat} (hi : i < 8) : s_tr x r (14 + i) = g_mix (s_rt r) (g_pow x (r 2)) (nI 5) (nI 0) (nI 0) i := by unfold s_tr; rw [if_neg (by omega), if_neg (by omega), if_neg (by omega), if_neg (by omega), if_neg (by omega), if_pos (by omega), show 14 + i - 14 = i by omega]
theorem s_tr_30 {x : Int32} {r : Nat → Int32} {i : Nat} (hi : i < 8) : s_tr x r (30 + i) = g_mix (s_rt r) (g_pow x (r 2)) (nI 6) (nI 0) (nI 0) i := by unfold s_tr; rw [if_neg (by omega), if_neg (by omega), if_neg (by omega), if_neg (by omega), if_neg (by omega), if_neg (by omega), if_pos (by omega), show 30 + i - 30 = i by omega]
theorem s_tr_n {x : Int32} {r : Nat → Int32} {i : Nat} (h : i = 0 ∨ i = 2 ∨ i = 3 ∨ i = 4 ∨ (9 ≤ i ∧ i < 14) ∨ (22 ≤ i ∧ i < 30) ∨ 38 ≤ i) : s_tr x r i = r i := by unfold s_tr; rw [if_neg (by omega), if_neg (by omega), if_neg (by omega), if_neg (by omega), if_neg (by omega), if_neg (by omega), if_neg (by omega)]
theorem s_ss_2 {q : Int32} {r : Nat → Int32} : s_ss q r 2 = q := by unfold s_ss; rw [if_pos rfl]
theorem s_ss_3 {q : Int32} {r : Nat → Int32} : s_ss q r 3 = g_pub q := by unfold s_ss; rw [if_neg (by decide), if_pos rfl]
theorem s_ss_14 {q : Int32} {r : Nat → Int32} {i : Nat} (hi : i < 8) : s_ss q r (14 + i) = g_mix (s_rt r) (g_pow (r 1) q) (nI 5) (nI 0) (nI 0) i := by unfold s_ss; rw [if_neg (by omega), if_neg (by omega), if_neg (by omega), if_pos (by omega), show 14 + i - 14 = i by omega]
theorem s_ss_22 {q : Int32} {r : Nat → Int32} {i : Nat} (hi : i < 8) : s_ss q r (22 + i) = g_mix (s_rt r) (g_pow (r 1) q) (nI 6) (nI 0) (nI 0) i := by unfold s_ss; rw [if_neg (by omega), if_neg (by omega), if_neg (by omega), if_neg (by omega), if_pos (by omega), show 22 + i - 22 = i by omega]
theorem s_ss_n {q : Int32} {r : Nat → Int32} {i : Nat} (h : i = 0 ∨ i = 1 ∨ (5 ≤ i ∧ i < 14) ∨ 30 ≤ i) : s_ss q r i = r i := by unfold s_ss; rw [if_neg (by omega), if_neg (by omega), if_neg (by omega), if_neg (by omega), if_neg (by omega)]
theorem s_turn_e (x q : Int32) (r : Nat → Int32) : s_turn x q r = s_ss q (s_tr x r) := by
  funext (i : Nat)
  unfold s_turn
  have hrt : ∀ j, j < 8 → s_rt (s_tr x r) j = g_mix (s_rt r) (g_pow x (r 2)) (nI 5) (nI 0) (nI 0) j := fun j hj => s_tr_14 hj
  by_cases e1 : i = 1
  · subst e1; rw [if_pos rfl, s_ss_n (by omega), s_tr_1]
  by_cases e2 : i = 2
  · subst e2; rw [if_neg e1, if_pos rfl, s_ss_2]
  by_cases e3 : i = 3
  · subst e3; rw [if_neg e1, if_neg e2, if_pos rfl, s_ss_3]
  by_cases e4 : i = 4
  · subst e4; rw [if_neg e1, if_neg e2, if_neg e3, if_pos rfl]; unfold s_ss; rw [if_neg e2, if_neg e3, if_pos rfl]
  by_cases e5 : i = 5
  · subst e5; rw [if_neg e1, if_neg e2, if_neg e3, if_neg e4, if_pos rfl, s_ss_n (by omega), s_tr_5]
  by_cases e6 : i = 6
  · subst e6; rw [if_neg e1, if_neg e2, if_neg e3, if_neg e4, if_neg e5, if_pos rfl, s_ss_n (by omega), s_tr_6]
  by_cases e7 : i = 7
  · subst e7; rw [if_neg e1, if_neg e2, if_neg e3, if_neg e4, if_neg e5, if_neg e6, if_pos rfl, s_ss_n (by omega), s_tr_7]
  by_cases e8 : i = 8
  · subst e8; rw [if_neg e1, if_neg e2, if_neg e3, if_neg e4, if_neg e5, if_neg e6, if_neg e7, if_pos rfl, s_ss_n (by omega), s_tr_8]
  rw [if_neg e1, if_neg e2, if_neg e3, if_neg e4, if_neg e5, if_neg e6, if_neg e7, if_neg e8]
  by_cases c1 : 14 ≤ i ∧ i < 22
  · obtain ⟨j, rfl⟩ : ∃ j, i = 14 + j := ⟨i - 14, by omega⟩
    rw [if_pos c1, s_ss_14 (by omega), s_tr_1, show 14 + j - 14 = j by omega]
    exact (g_mix_c hrt _ _ _ _ (by omega)).symm
  rw [if_neg c1]
  by_cases c2 : 22 ≤ i ∧ i < 30
  · obtain ⟨j, rfl⟩ : ∃ j, i = 22 + j := ⟨i - 22, by omega⟩
    rw [if_pos c2, s_ss_22 (by omega), s_tr_1, show 22 + j - 22 = j by omega]
    exact (g_mix_c hrt _ _ _ _ (by omega)).symm
  rw [if_neg c2]
  by_cases c3 : 30 ≤ i ∧ i < 38
  · obtain ⟨j, rfl⟩ : ∃ j, i = 30 + j := ⟨i - 30, by omega⟩
    rw [if_pos c3, s_ss_n (by omega), s_tr_30 (by omega), show 30 + j - 30 = j by omega]
  rw [if_neg c3, s_ss_n (by omega), s_tr_n (by omega)]
theorem s_ss_rc {q : Int32} {r s : Nat → Int32} (h : ∀ i, i < 30 → i = 1 ∨ 14 ≤ i ∧ i < 22 → r i = s i) (ho : ∀ i, s_ss q r i = s_ss q s i ∨ (i = 0 ∨ i = 1 ∨ (5 ≤ i ∧ i < 14) ∨ 30 ≤ i)) (hn : ∀ i, (i = 0 ∨ i = 1 ∨ (5 ≤ i ∧ i < 14) ∨ 30 ≤ i) → r i = s i) : s_ss q r = s_ss q s := by
  funext i
  rcases ho i with h1 | h1
  · exact h1
  · rw [s_ss_n h1, s_ss_n h1, hn i h1]
/-- what lies beside the sending half commutes with it -/
theorem s_ss_com {q : Int32} {r : Nat → Int32} (F : (Nat → Int32) → Nat → Int32) (h1 : ∀ i, i < 30 → i ≠ 7 → i ≠ 9 → ∀ s, F s i = s i) (h2 : ∀ i, (i = 7 ∨ i = 9 ∨ 30 ≤ i) → F (s_ss q r) i = F r i) : F (s_ss q r) = s_ss q (F r) := by
  have hrt : s_rt (F r) = s_rt r ∨ ∀ j, j < 8 → s_rt (F r) j = s_rt r j := Or.inr (fun j hj => h1 (14 + j) (by omega) (by omega) (by omega) r)
  have hr8 : ∀ j, j < 8 → s_rt (F r) j = s_rt r j := fun j hj => h1 (14 + j) (by omega) (by omega) (by omega) r
  funext (i : Nat)
  by_cases c : i = 7 ∨ i = 9 ∨ 30 ≤ i
  · rw [h2 i c, s_ss_n (by omega)]
  · rw [h1 i (by omega) (by omega) (by omega)]
    by_cases c0 : i = 0 ∨ i = 1 ∨ (5 ≤ i ∧ i < 14)
    · rw [s_ss_n (by omega), s_ss_n (by omega), h1 i (by omega) (by omega) (by omega)]
    · unfold s_ss
      rw [h1 1 (by omega) (by omega) (by omega), h1 i (by omega) (by omega) (by omega)]
      by_cases e2 : i = 2
      · rw [if_pos e2, if_pos e2]
      rw [if_neg e2, if_neg e2]
      by_cases e3 : i = 3
      · rw [if_pos e3, if_pos e3]
      rw [if_neg e3, if_neg e3]
      by_cases e4 : i = 4
      · rw [if_pos e4, if_pos e4]
      rw [if_neg e4, if_neg e4]
      by_cases c1 : 14 ≤ i ∧ i < 22
      · rw [if_pos c1, if_pos c1]; exact (g_mix_c hr8 _ _ _ _ (by omega)).symm
      rw [if_neg c1, if_neg c1]
      by_cases c2 : 22 ≤ i ∧ i < 30
      · rw [if_pos c2, if_pos c2]; exact (g_mix_c hr8 _ _ _ _ (by omega)).symm
      rw [if_neg c2, if_neg c2]
theorem s_ss_30 {q : Int32} {r : Nat → Int32} : (fun j => s_ss q r (30 + j)) = fun j => r (30 + j) := funext fun j => s_ss_n (by omega)
theorem s_sk1_ss {q : Int32} {r : Nat → Int32} (c : Nat) : s_sk1 c (s_ss q r) = s_ss q (s_sk1 c r) := by
  refine s_ss_com (s_sk1 c) (fun i h30 h7 h9 s => s_sk1_lo h30 h7 h9) (fun i hi => ?_)
  unfold s_sk1
  rw [s_ss_30, s_ss_n (i := 7) (by omega), s_ss_n (i := 1) (by omega)]
  by_cases e7 : i = 7
  · rw [if_pos e7, if_pos e7]
  rw [if_neg e7, if_neg e7]
  by_cases e9 : i = 9
  · rw [if_pos e9, if_pos e9]
  rw [if_neg e9, if_neg e9, s_ss_n (by omega)]
theorem s_sk_ss {q : Int32} {r : Nat → Int32} (c : Nat) : ∀ k, s_sk c k (s_ss q r) = s_ss q (s_sk c k r)
  | 0 => rfl
  | k + 1 => by
    show s_sk1 (c + k) (s_sk c k (s_ss q r)) = s_ss q (s_sk1 (c + k) (s_sk c k r))
    rw [s_sk_ss c k, s_sk1_ss]
theorem s_mv_ss {q : Int32} {r : Nat → Int32} (m : Nat) : s_mv m (s_ss q r) = s_ss q (s_mv m r) := by
  refine s_ss_com (s_mv m) (fun i h30 h7 h9 s => ?_) (fun i hi => ?_)
  · unfold s_mv; rw [if_neg h7, if_neg (by omega)]
  · unfold s_mv
    rw [s_ss_30]
    by_cases e7 : i = 7
    · rw [if_pos e7, if_pos e7]
    rw [if_neg e7, if_neg e7, s_ss_n (by omega)]
theorem s_mk_ss {q : Int32} {r : Nat → Int32} : s_mk (s_ss q r) = s_mk r := by
  unfold s_mk
  rw [s_ss_30]
theorem s_R_to {I I2 : q_I} {t : Nat} {r : Nat → Int32} (h : s_R I t r) (hI : ∀ x, t ≤ x → x < t + 10 → I2 x = I x) : s_R I2 t r := by
  obtain ⟨a0, a1, a2, a3, a4, a5, a6, a7, a8, a9, a10, a11, a12, a13, a14, a15, a16, a17, a18⟩ := h
  rw [← hI t (by omega) (by omega)] at a0 a1 a4 a6 a7 a8 a10 a12 a14 a15
  rw [← hI (t + 2) (by omega) (by omega)] at a2 a3
  rw [← hI (t + 5) (by omega) (by omega)] at a9
  rw [← hI (t + 1) (by omega) (by omega)] at a16
  rw [← hI (t + 6) (by omega) (by omega), ← hI (t + 7) (by omega) (by omega), ← hI (t + 8) (by omega) (by omega)] at a17
  rw [← hI (t + 4) (by omega) (by omega)] at a18
  exact ⟨a0, a1, a2, a3, a4, a5, a6, a7, a8, a9, a10, a11, a12, a13, a14, a15, a16, a17, a18⟩
theorem s_S_to {I I2 : q_I} {t : Nat} {r : Nat → Int32} (h : s_S I t r) (hI : ∀ x, t ≤ x → x < t + 10 → I2 x = I x) : s_S I2 t r := fun i hi => by rw [hI (t + 3) (by omega) (by omega)]; exact h i hi
theorem s_R_c {I : q_I} {t c : Nat} {r s : Nat → Int32} (h : s_R I t r) (hc : r 9 = nI c) (hc28 : c ≤ 28) (hr : ∀ i, i < 38 + 10 * c → s i = r i) : s_R I t s := by
  obtain ⟨a0, a1, a2, a3, a4, a5, a6, a7, a8, a9, a10, a11, a12, a13, a14, a15, a16, a17, a18⟩ := h
  refine ⟨by rw [hr 0 (by omega)]; exact a0, by rw [hr 1 (by omega)]; exact a1, by rw [hr 2 (by omega)]; exact a2, by rw [hr 3 (by omega)]; exact a3, by rw [hr 5 (by omega)]; exact a4, by rw [hr 5 (by omega)]; exact a5, by rw [hr 6 (by omega)]; exact a6, by rw [hr 7 (by omega)]; exact a7, by rw [hr 8 (by omega)]; exact a8, by rw [hr 9 (by omega)]; exact a9, by rw [hr 10 (by omega)]; exact a10, by rw [hr 10 (by omega)]; exact a11, by rw [hr 11 (by omega)]; exact a12, by rw [hr 11 (by omega)]; exact a13, by rw [hr 12 (by omega)]; exact a14, by rw [hr 13 (by omega)]; exact a15, fun i hi => ?_, fun k hk => ?_, fun h5 i hi => ?_⟩
  · rw [hr (14 + i) (by omega)]; exact a16 i hi
  · rw [hr 9 (by omega), hc, g_cl (by omega)] at hk
    rw [hr (38 + 10 * k) (by omega), hr (38 + 10 * k + 1) (by omega)]
    obtain ⟨k1, k2, k3⟩ := a17 k (by rw [hc, g_cl (by omega)]; exact hk)
    exact ⟨k1, k2, fun i hi => by rw [hr (40 + 10 * k + i) (by omega)]; exact k3 i hi⟩
  · rw [hr (30 + i) (by omega)]; exact a18 (by rw [← hr 5 (by omega)]; exact h5) i hi
