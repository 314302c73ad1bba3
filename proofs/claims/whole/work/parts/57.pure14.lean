/-! what a session does in a try, on its row -/
theorem s_mv_7 {m : Nat} {r : Nat → Int32} : s_mv m r 7 = nI (m + 1) := by unfold s_mv; rw [if_pos rfl]
theorem s_mv_30 {m i : Nat} {r : Nat → Int32} (hi : i < 8) : s_mv m r (30 + i) = g_mix (fun j => r (30 + j)) (nI 8) (nI 0) (nI 0) (nI 0) i := by unfold s_mv; rw [if_neg (by omega), if_pos (by omega), show 30 + i - 30 = i by omega]
theorem s_mv_n {m i : Nat} {r : Nat → Int32} (h : i ≠ 7 ∧ (i < 30 ∨ 38 ≤ i)) : s_mv m r i = r i := by unfold s_mv; rw [if_neg h.1, if_neg (by omega)]
theorem s_gone_9 {k c : Nat} {r : Nat → Int32} : s_gone k c r 9 = nI (c - 1) := by unfold s_gone; rw [if_pos rfl]
theorem s_gone_n {k c i : Nat} {r : Nat → Int32} (h : i ≠ 9 ∧ i < 38 + 10 * k) : s_gone k c r i = r i := by unfold s_gone; rw [if_neg h.1, if_neg (by omega)]
theorem s_gone_s {k c i : Nat} {r : Nat → Int32} (h : 38 + 10 * k ≤ i ∧ i < 38 + 10 * (c - 1)) : s_gone k c r i = r (i + 10) := by unfold s_gone; rw [if_neg (by omega), if_pos h]
theorem s_R_mv {I I2 : q_I} {t m : Nat} {r : Nat → Int32} (h : s_R I t r) (h5 : r 5 = nI 1) (h0 : I2 t = va_up (I t) 8 (nI (m + 1))) (h4 : ∀ i, i < 8 → I2 (t + 4) i = g_mix (I (t + 4)) (nI 8) (nI 0) (nI 0) (nI 0) i) (hx : ∀ x, t < x → x < t + 10 → x ≠ t + 4 → I2 x = I x) : s_R I2 t (s_mv m r) := by
  refine ⟨?_, ?_, ?_, ?_, ?_, ?_, ?_, ?_, ?_, ?_, ?_, ?_, ?_, ?_, ?_, ?_, fun i hi => ?_, fun k hk => ?_, fun _ i hi => ?_⟩
  · rw [h0, va_up_ne _ _ (by decide), s_mv_n (by omega)]; exact h.f0
  · rw [h0, va_up_ne _ _ (by decide), s_mv_n (by omega)]; exact h.f3
  · rw [hx (t + 2) (by omega) (by omega) (by omega), s_mv_n (by omega)]; exact h.p0
  · rw [hx (t + 2) (by omega) (by omega) (by omega), s_mv_n (by omega)]; exact h.p1
  · rw [h0, va_up_ne _ _ (by decide), s_mv_n (by omega)]; exact h.f6
  · rw [s_mv_n (by omega)]; exact h.z6
  · rw [h0, va_up_ne _ _ (by decide), s_mv_n (by omega)]; exact h.f7
  · rw [h0, va_up_self, s_mv_7]
  · rw [h0, va_up_ne _ _ (by decide), s_mv_n (by omega)]; exact h.f9
  · rw [hx (t + 5) (by omega) (by omega) (by omega), s_mv_n (by omega)]; exact h.k0
  · rw [h0, va_up_ne _ _ (by decide), s_mv_n (by omega)]; exact h.f11
  · rw [s_mv_n (by omega)]; exact h.z11
  · rw [h0, va_up_ne _ _ (by decide), s_mv_n (by omega)]; exact h.f12
  · rw [s_mv_n (by omega)]; exact h.z12
  · rw [h0, va_up_ne _ _ (by decide), s_mv_n (by omega)]; exact h.f13
  · rw [h0, va_up_ne _ _ (by decide), s_mv_n (by omega)]; exact h.f14
  · rw [hx (t + 1) (by omega) (by omega) (by omega), s_mv_n (by omega)]; exact h.rt i hi
  · rw [s_mv_n (by omega)] at hk
    rw [hx (t + 6) (by omega) (by omega) (by omega), hx (t + 7) (by omega) (by omega) (by omega), s_mv_n (by omega), s_mv_n (by omega)]
    obtain ⟨k1, k2, k3⟩ := h.kp k hk
    exact ⟨k1, k2, fun i hi => by rw [hx (t + 8) (by omega) (by omega) (by omega), s_mv_n (by omega)]; exact k3 i hi⟩
  · rw [h4 i hi, s_mv_30 hi]; exact g_mix_c (fun j hj => h.rv h5 j hj) _ _ _ _ (by omega)
theorem s_S_mv {I I2 : q_I} {t m : Nat} {r : Nat → Int32} (h : s_S I t r) (h3 : I2 (t + 3) = I (t + 3)) : s_S I2 t (s_mv m r) := fun i hi => by rw [h3, s_mv_n (by omega)]; exact h i hi
theorem s_R_ss {I I2 : q_I} {t : Nat} {q : Int32} {r : Nat → Int32} (h : s_R I t r) (h0 : I2 t = I t) (p0 : I2 (t + 2) 0 = q) (p1 : I2 (t + 2) 1 = g_pub q) (h1 : ∀ i, i < 8 → I2 (t + 1) i = g_mix (I (t + 1)) (g_pow (r 1) q) (nI 5) (nI 0) (nI 0) i) (h3 : ∀ i, i < 8 → I2 (t + 3) i = g_mix (I (t + 1)) (g_pow (r 1) q) (nI 6) (nI 0) (nI 0) i) (hx : ∀ x, t + 3 < x → x < t + 10 → I2 x = I x) : s_R I2 t (s_ss q r) ∧ s_S I2 t (s_ss q r) := by
  refine ⟨⟨?_, ?_, ?_, ?_, ?_, ?_, ?_, ?_, ?_, ?_, ?_, ?_, ?_, ?_, ?_, ?_, fun i hi => ?_, fun k hk => ?_, fun h5 i hi => ?_⟩, fun i hi => ?_⟩
  · rw [h0, s_ss_n (by omega)]; exact h.f0
  · rw [h0, s_ss_n (by omega)]; exact h.f3
  · rw [p0, s_ss_2]
  · rw [p1, s_ss_3]
  · rw [h0, s_ss_n (by omega)]; exact h.f6
  · rw [s_ss_n (by omega)]; exact h.z6
  · rw [h0, s_ss_n (by omega)]; exact h.f7
  · rw [h0, s_ss_n (by omega)]; exact h.f8
  · rw [h0, s_ss_n (by omega)]; exact h.f9
  · rw [hx (t + 5) (by omega) (by omega), s_ss_n (by omega)]; exact h.k0
  · rw [h0, s_ss_n (by omega)]; exact h.f11
  · rw [s_ss_n (by omega)]; exact h.z11
  · rw [h0, s_ss_n (by omega)]; exact h.f12
  · rw [s_ss_n (by omega)]; exact h.z12
  · rw [h0, s_ss_n (by omega)]; exact h.f13
  · rw [h0, s_ss_n (by omega)]; exact h.f14
  · rw [h1 i hi, s_ss_14 hi]; exact g_mix_c (fun j hj => h.rt j hj) _ _ _ _ (by omega)
  · rw [s_ss_n (by omega)] at hk
    rw [hx (t + 6) (by omega) (by omega), hx (t + 7) (by omega) (by omega), s_ss_n (by omega), s_ss_n (by omega)]
    obtain ⟨k1, k2, k3⟩ := h.kp k hk
    exact ⟨k1, k2, fun i hi => by rw [hx (t + 8) (by omega) (by omega), s_ss_n (by omega)]; exact k3 i hi⟩
  · rw [s_ss_n (by omega)] at h5
    rw [hx (t + 4) (by omega) (by omega), s_ss_n (by omega)]; exact h.rv h5 i hi
  · rw [h3 i hi, s_ss_22 hi]; exact g_mix_c (fun j hj => h.rt j hj) _ _ _ _ (by omega)
theorem s_R_an {I I2 : q_I} {t : Nat} {r : Nat → Int32} (h : s_R I t r) (h0 : I2 t = va_up (I t) 12 (nI 1)) (hx : ∀ x, t < x → x < t + 10 → I2 x = I x) : s_R I2 t (va_up r 11 (nI 1)) := by
  refine ⟨?_, ?_, ?_, ?_, ?_, ?_, ?_, ?_, ?_, ?_, ?_, ?_, ?_, ?_, ?_, ?_, fun i hi => ?_, fun k hk => ?_, fun h5 i hi => ?_⟩
  · rw [h0, va_up_ne _ _ (by decide), va_up_ne _ _ (by omega)]; exact h.f0
  · rw [h0, va_up_ne _ _ (by decide), va_up_ne _ _ (by omega)]; exact h.f3
  · rw [hx (t + 2) (by omega) (by omega), va_up_ne _ _ (by omega)]; exact h.p0
  · rw [hx (t + 2) (by omega) (by omega), va_up_ne _ _ (by omega)]; exact h.p1
  · rw [h0, va_up_ne _ _ (by decide), va_up_ne _ _ (by omega)]; exact h.f6
  · rw [va_up_ne _ _ (by omega)]; exact h.z6
  · rw [h0, va_up_ne _ _ (by decide), va_up_ne _ _ (by omega)]; exact h.f7
  · rw [h0, va_up_ne _ _ (by decide), va_up_ne _ _ (by omega)]; exact h.f8
  · rw [h0, va_up_ne _ _ (by decide), va_up_ne _ _ (by omega)]; exact h.f9
  · rw [hx (t + 5) (by omega) (by omega), va_up_ne _ _ (by omega)]; exact h.k0
  · rw [h0, va_up_ne _ _ (by decide), va_up_ne _ _ (by omega)]; exact h.f11
  · rw [va_up_ne _ _ (by omega)]; exact h.z11
  · rw [h0, va_up_self, va_up_self]
  · rw [va_up_self]; exact Or.inr rfl
  · rw [h0, va_up_ne _ _ (by decide), va_up_ne _ _ (by omega)]; exact h.f13
  · rw [h0, va_up_ne _ _ (by decide), va_up_ne _ _ (by omega)]; exact h.f14
  · rw [hx (t + 1) (by omega) (by omega), va_up_ne _ _ (by omega)]; exact h.rt i hi
  · rw [va_up_ne _ _ (by omega)] at hk
    rw [hx (t + 6) (by omega) (by omega), hx (t + 7) (by omega) (by omega), va_up_ne _ _ (by omega), va_up_ne _ _ (by omega)]
    obtain ⟨k1, k2, k3⟩ := h.kp k hk
    exact ⟨k1, k2, fun i hi => by rw [hx (t + 8) (by omega) (by omega), va_up_ne _ _ (by omega)]; exact k3 i hi⟩
  · rw [va_up_ne _ _ (by omega)] at h5
    rw [hx (t + 4) (by omega) (by omega), va_up_ne _ _ (by omega)]; exact h.rv h5 i hi
theorem s_S_an {I I2 : q_I} {t : Nat} {r : Nat → Int32} (h : s_S I t r) (h3 : I2 (t + 3) = I (t + 3)) : s_S I2 t (va_up r 11 (nI 1)) := fun i hi => by rw [h3, va_up_ne _ _ (by omega)]; exact h i hi
theorem s_R_gone {I I2 : q_I} {t k c : Nat} {r : Nat → Int32} (h : s_R I t r) (hc : r 9 = nI c) (hc28 : c ≤ 28) (hkc : k < c) (h5 : I2 (t + 5) = va_up (I (t + 5)) 0 (nI (c - 1))) (h6 : ∀ j, I2 (t + 6) j = if k ≤ j ∧ j < c - 1 then I (t + 6) (j + 1) else I (t + 6) j) (h7 : ∀ j, I2 (t + 7) j = if k ≤ j ∧ j < c - 1 then I (t + 7) (j + 1) else I (t + 7) j) (h8 : ∀ j, I2 (t + 8) j = if 8 * k ≤ j ∧ j < 8 * (c - 1) then I (t + 8) (j + 8) else I (t + 8) j) (hx : ∀ x, ((t ≤ x ∧ x < t + 5) ∨ x = t + 9) → I2 x = I x) : s_R I2 t (s_gone k c r) := by
  refine ⟨?_, ?_, ?_, ?_, ?_, ?_, ?_, ?_, ?_, ?_, ?_, ?_, ?_, ?_, ?_, ?_, fun i hi => ?_, fun j hj => ?_, fun hr i hi => ?_⟩
  · rw [hx t (by omega), s_gone_n (by omega)]; exact h.f0
  · rw [hx t (by omega), s_gone_n (by omega)]; exact h.f3
  · rw [hx (t + 2) (by omega), s_gone_n (by omega)]; exact h.p0
  · rw [hx (t + 2) (by omega), s_gone_n (by omega)]; exact h.p1
  · rw [hx t (by omega), s_gone_n (by omega)]; exact h.f6
  · rw [s_gone_n (by omega)]; exact h.z6
  · rw [hx t (by omega), s_gone_n (by omega)]; exact h.f7
  · rw [hx t (by omega), s_gone_n (by omega)]; exact h.f8
  · rw [hx t (by omega), s_gone_n (by omega)]; exact h.f9
  · rw [h5, va_up_self, s_gone_9]
  · rw [hx t (by omega), s_gone_n (by omega)]; exact h.f11
  · rw [s_gone_n (by omega)]; exact h.z11
  · rw [hx t (by omega), s_gone_n (by omega)]; exact h.f12
  · rw [s_gone_n (by omega)]; exact h.z12
  · rw [hx t (by omega), s_gone_n (by omega)]; exact h.f13
  · rw [hx t (by omega), s_gone_n (by omega)]; exact h.f14
  · rw [hx (t + 1) (by omega), s_gone_n (by omega)]; exact h.rt i hi
  · rw [s_gone_9, g_cl (by omega)] at hj
    by_cases hkj : k ≤ j
    · obtain ⟨k1, k2, k3⟩ := h.kp (j + 1) (by rw [hc, g_cl (by omega)]; omega)
      rw [h6 j, h7 j, if_pos ⟨hkj, hj⟩, if_pos ⟨hkj, hj⟩, s_gone_s (by omega), s_gone_s (by omega)]
      refine ⟨k1, k2.trans (congrArg r (by omega)), fun i hi => ?_⟩
      rw [h8, if_pos (by omega), s_gone_s (by omega), show 8 * j + i + 8 = 8 * (j + 1) + i by omega, k3 i hi]
      exact congrArg r (by omega)
    · obtain ⟨k1, k2, k3⟩ := h.kp j (by rw [hc, g_cl (by omega)]; omega)
      rw [h6 j, h7 j, if_neg (by omega), if_neg (by omega), s_gone_n (by omega), s_gone_n (by omega)]
      refine ⟨k1, k2, fun i hi => ?_⟩
      rw [h8, if_neg (by omega), s_gone_n (by omega)]
      exact k3 i hi
  · rw [s_gone_n (by omega)] at hr
    rw [hx (t + 4) (by omega), s_gone_n (by omega)]; exact h.rv hr i hi
theorem s_S_gone {I I2 : q_I} {t k c : Nat} {r : Nat → Int32} (h : s_S I t r) (h3 : I2 (t + 3) = I (t + 3)) : s_S I2 t (s_gone k c r) := fun i hi => by rw [h3, s_gone_n (by omega)]; exact h i hi
theorem s_end_ri {m c w : Nat} {tg : (Nat → Int32) → Int64} {T : Int64} {tu : Bool} {r : Nat → Int32} (h9 : r 9 = nI c) (hm : m ≤ 1000) (hz : (s_end m c w tg T tu r).1 = nI 0) : q_RI (s_end m c w tg T tu r).2.1 := by
  unfold s_end at hz ⊢
  by_cases c1 : r 5 = 0
  · rw [if_pos c1] at hz; exact absurd (show nI 1 = nI 0 from hz) (by decide)
  rw [if_neg c1] at hz ⊢
  by_cases c2 : m < w
  · rw [if_pos c2] at hz; exact absurd (show nI 5 = nI 0 from hz) (by decide)
  rw [if_neg c2] at hz ⊢
  by_cases c3 : 8 < m - w
  · rw [if_pos c3] at hz; exact absurd (show nI 2 = nI 0 from hz) (by decide)
  rw [if_neg c3] at hz ⊢
  by_cases c4 : 12 < c + (m - w)
  · rw [if_pos c4] at hz; exact absurd (show nI 2 = nI 0 from hz) (by decide)
  rw [if_neg c4] at hz ⊢
  by_cases c5 : tg (s_mk (s_sk c (m - w) r)) = T
  · rw [if_pos c5]
    show q_RI (s_mv m (s_sk c (m - w) r))
    exact ⟨⟨c + (m - w), by omega, by rw [s_mv_n (by omega)]; exact s_sk_9 h9 _⟩, ⟨m + 1, by omega, s_mv_7⟩⟩
  · rw [if_neg c5] at hz; exact absurd (show nI 1 = nI 0 from hz) (by decide)
theorem s_trial_ri {X : Int32} {m p c w : Nat} {q : Int32} {tg : (Nat → Int32) → Int64} {T : Int64} {r : Nat → Int32} (hc : r 9 = nI c) (hc12 : c ≤ 12) (hw : r 7 = nI w) (hw1 : w ≤ 1001) (hm : m ≤ 1000) (hz : (s_trial X m p c w q tg T r).1 = nI 0) : q_RI (s_trial X m p c w q tg T r).2.1 := by
  unfold s_trial at hz ⊢
  by_cases c1 : g_first (s_hit X m r) c < c
  · rw [if_pos c1] at hz ⊢
    split at hz
    · rename_i h2
      rw [if_pos h2]
      show q_RI (s_gone (g_first (s_hit X m r) c) c r)
      exact ⟨⟨c - 1, by omega, s_gone_9⟩, ⟨w, hw1, by rw [s_gone_n (by omega)]; exact hw⟩⟩
    · exact absurd (show nI 1 = nI 0 from hz) (by decide)
  rw [if_neg c1] at hz ⊢
  unfold s_mid at hz ⊢
  by_cases c2 : X = r 1
  · rw [if_pos c2] at hz ⊢; exact s_end_ri hc hm hz
  rw [if_neg c2] at hz ⊢
  by_cases c3 : r 5 = nI 1 ∧ w < p
  · rw [if_pos c3] at hz ⊢
    by_cases c4 : 8 < p - w
    · rw [if_pos c4] at hz; exact absurd (show nI 2 = nI 0 from hz) (by decide)
    rw [if_neg c4] at hz ⊢
    exact s_end_ri (by rw [s_turn_9]; exact s_sk_9 hc _) hm hz
  · rw [if_neg c3] at hz ⊢
    exact s_end_ri (by rw [s_turn_9]; exact hc) hm hz
theorem f_try_ri {M : q_I} {N : q_L} {e a b m p : Nat} {r : Nat → Int32} (hwf : q_wf M N e a b m p) (hr : q_RI r) (hz : (f_try M N e a b r).1 = nI 0) : q_RI (va_up (f_try M N e a b r).2.1 11 (nI 1)) := by
  obtain ⟨⟨c, hc12, hc⟩, w, hw1, hw⟩ := hr
  rw [f_try_e hwf.fm hwf.fp hc hw hwf.hm hwf.hp hc12 hw1] at hz ⊢
  have h := s_trial_ri hc hc12 hw hw1 hwf.hm hz
  unfold q_RI at h ⊢
  rw [va_up_ne _ _ (by decide), va_up_ne _ _ (by decide)]
  exact h
/-- the end of a try that turns: the sending half comes last -/
theorem s_end_ss {m c w : Nat} {tg : (Nat → Int32) → Int64} {T : Int64} {q : Int32} {r : Nat → Int32} : s_end m c w tg T true (s_ss q r) =
  if r 5 = 0 then (nI 1, s_ss q r, s_ss q r, true) else if m < w then (nI 5, s_ss q r, s_ss q r, true) else if 8 < m - w then (nI 2, s_ss q r, s_ss q r, true) else if 12 < c + (m - w) then (nI 2, s_ss q r, s_ss q r, true) else
  if tg (s_mk (s_sk c (m - w) r)) = T then (nI 0, s_ss q (s_mv m (s_sk c (m - w) r)), s_mk (s_sk c (m - w) r), true) else (nI 1, s_ss q r, s_ss q r, true) := by
  unfold s_end
  rw [s_ss_n (by omega), s_sk_ss, s_mk_ss, s_mv_ss]
