theorem c_L_up {n : Nat} {I I2 : q_I} {R : q_R} {M M2 : q_I} {ss : Nat → Nat → Nat} {mc : Nat → Nat} {tr p k : Nat} {row : Nat → Int32} (h : c_L n I R M ss mc tr) (hn0 : 214 ≤ n) (hp : p < 16) (hk : k < mc p)
    (hI : ∀ x, x < n → ((71 ≤ x ∧ x < 81) ∨ (160 ≤ x ∧ x < 192) ∨ 214 ≤ x) → (x < ss p k ∨ ss p k + 10 ≤ x) → I2 x = I x)
    (hsr : s_R I2 (ss p k) row) (hss : s_S I2 (ss p k) row) (hri : q_RI row) (h5 : M2 205 = f_save p k row M 205) (h6 : M2 206 = M 206) : c_L n I2 R M2 ss mc tr := by
  have eb : ∀ q l, f_blk M2 q l = f_blk (f_save p k row M) q l := fun q l => by unfold f_blk; rw [h5]
  have hkg := (h.se hp hk).ge
  have hk3 := (h.m3 p hp).1
  refine ⟨h.tr, h.ts, fun q hq => ?_, h.rw, fun q i hq hi => ?_, h.inj⟩
  · obtain ⟨a, b, c⟩ := h.m3 q hq
    exact ⟨a, by rw [h6]; exact b, by rw [hI (160 + 2 * q) (by omega) (by omega) (by omega)]; exact c⟩
  · have hi3 := (h.m3 q hq).1
    rw [eb]
    by_cases e : q = p ∧ i = k
    · obtain ⟨rfl, rfl⟩ := e
      exact ⟨s_R_e hsr hri f_blk_s0, s_S_e hss f_blk_s0, q_RI_e f_blk_s0 hri⟩
    · obtain ⟨a, b, c⟩ := h.re q i hq hi
      have hb := h.se hq hi
      have hb1 := hb.ge
      have hb2 := hb.hi
      have hb3 := hb.far (h.se hp hk) (fun z => e (h.inj q i p k hq hi hp hk z))
      have he : s_e (f_blk (f_save p k row M) q i) (f_blk M q i) := f_blk_sr (by omega) (by omega) (by omega)
      exact ⟨s_R_e (s_R_to a (fun x h1 h2 => hI x (by omega) (by omega) (by omega))) c he, s_S_e (s_S_to b (fun x h1 h2 => hI x (by omega) (by omega) (by omega))) he, q_RI_e he c⟩
theorem s_snd_6 {r : Nat → Int32} : s_snd r 6 = r 6 + nI 1 := by unfold s_snd; rw [if_pos rfl]
theorem s_snd_22 {r : Nat → Int32} {i : Nat} (hi : i < 8) : s_snd r (22 + i) = g_mix (fun j => r (22 + j)) (nI 8) (nI 0) (nI 0) (nI 0) i := by unfold s_snd; rw [if_neg (by omega), if_pos (by omega), show 22 + i - 22 = i by omega]
theorem s_snd_n {r : Nat → Int32} {i : Nat} (h : i ≠ 6 ∧ (i < 22 ∨ 30 ≤ i)) : s_snd r i = r i := by unfold s_snd; rw [if_neg h.1, if_neg (by omega)]
theorem s_R_snd {I I2 : q_I} {t : Nat} {r : Nat → Int32} (h : s_R I t r) (hs : s_S I t r) (h0 : I2 t = va_up (I t) 7 (I t 7 + nI 1)) (h3 : ∀ i, i < 8 → I2 (t + 3) i = g_mix (I (t + 3)) (nI 8) (nI 0) (nI 0) (nI 0) i) (hx : ∀ x, t < x → x < t + 10 → x ≠ t + 3 → I2 x = I x) : s_R I2 t (s_snd r) ∧ s_S I2 t (s_snd r) := by
  refine ⟨⟨?_, ?_, ?_, ?_, ?_, ?_, ?_, ?_, ?_, ?_, ?_, ?_, ?_, ?_, ?_, ?_, fun i hi => ?_, fun k hk => ?_, fun h5 i hi => ?_⟩, fun i hi => ?_⟩
  · rw [h0, va_up_ne _ _ (by decide), s_snd_n (by omega)]; exact h.f0
  · rw [h0, va_up_ne _ _ (by decide), s_snd_n (by omega)]; exact h.f3
  · rw [hx (t + 2) (by omega) (by omega) (by omega), s_snd_n (by omega)]; exact h.p0
  · rw [hx (t + 2) (by omega) (by omega) (by omega), s_snd_n (by omega)]; exact h.p1
  · rw [h0, va_up_ne _ _ (by decide), s_snd_n (by omega)]; exact h.f6
  · rw [s_snd_n (by omega)]; exact h.z6
  · rw [h0, va_up_self, s_snd_6, h.f7]
  · rw [h0, va_up_ne _ _ (by decide), s_snd_n (by omega)]; exact h.f8
  · rw [h0, va_up_ne _ _ (by decide), s_snd_n (by omega)]; exact h.f9
  · rw [hx (t + 5) (by omega) (by omega) (by omega), s_snd_n (by omega)]; exact h.k0
  · rw [h0, va_up_ne _ _ (by decide), s_snd_n (by omega)]; exact h.f11
  · rw [s_snd_n (by omega)]; exact h.z11
  · rw [h0, va_up_ne _ _ (by decide), s_snd_n (by omega)]; exact h.f12
  · rw [s_snd_n (by omega)]; exact h.z12
  · rw [h0, va_up_ne _ _ (by decide), s_snd_n (by omega)]; exact h.f13
  · rw [h0, va_up_ne _ _ (by decide), s_snd_n (by omega)]; exact h.f14
  · rw [hx (t + 1) (by omega) (by omega) (by omega), s_snd_n (by omega)]; exact h.rt i hi
  · rw [s_snd_n (by omega)] at hk
    rw [hx (t + 6) (by omega) (by omega) (by omega), hx (t + 7) (by omega) (by omega) (by omega), s_snd_n (by omega), s_snd_n (by omega)]
    obtain ⟨k1, k2, k3⟩ := h.kp k hk
    exact ⟨k1, k2, fun i hi => by rw [hx (t + 8) (by omega) (by omega) (by omega), s_snd_n (by omega)]; exact k3 i hi⟩
  · rw [s_snd_n (by omega)] at h5
    rw [hx (t + 4) (by omega) (by omega) (by omega), s_snd_n (by omega)]; exact h.rv h5 i hi
  · rw [h3 i hi, s_snd_22 hi]; exact g_mix_c (fun j hj => hs j hj) _ _ _ _ (by omega)
theorem s_beg_0 {e w s v : Int32} {root : Nat → Int32} {i : Nat} (h : (5 ≤ i ∧ i < 10) ∨ i = 11 ∨ 30 ≤ i) : s_beg e w s v root i = nI 0 := by
  unfold s_beg
  rw [if_neg (by omega), if_neg (by omega), if_neg (by omega), if_neg (by omega), if_neg (by omega), if_neg (by omega), if_neg (by omega), if_neg (by omega), if_neg (by omega), if_neg (by omega)]
theorem s_beg_ri (e w s v : Int32) (root : Nat → Int32) : q_RI (s_beg e w s v root) := ⟨⟨0, by decide, s_beg_0 (by omega)⟩, ⟨0, by decide, s_beg_0 (by omega)⟩⟩
theorem s_R_beg {I : q_I} {t : Nat} {e w s v : Int32} {root : Nat → Int32} (z : ∀ k, ((6 ≤ k ∧ k ≤ 9) ∨ k = 12) → I t k = nI 0) (h0 : I t 0 = g_pub e) (h3 : I t 3 = s) (p0 : I (t + 2) 0 = w) (p1 : I (t + 2) 1 = g_pub w) (h5 : I (t + 5) 0 = nI 0) (h11 : I t 11 = nI 1) (h13 : I t 13 = s) (h14 : I t 14 = v) (hr : ∀ i, i < 8 → I (t + 1) i = g_mix root (g_pow s w) (nI 5) (nI 0) (nI 0) i) (hs : ∀ i, i < 8 → I (t + 3) i = g_mix root (g_pow s w) (nI 6) (nI 0) (nI 0) i) : s_R I t (s_beg e w s v root) ∧ s_S I t (s_beg e w s v root) := by
  refine ⟨⟨?_, ?_, ?_, ?_, ?_, ?_, ?_, ?_, ?_, ?_, ?_, ?_, ?_, ?_, ?_, ?_, fun i hi => ?_, fun k hk => ?_, fun h _ _ => ?_⟩, fun i hi => ?_⟩
  · rw [h0]; rfl
  · rw [h3]; rfl
  · rw [p0]; rfl
  · rw [p1]; rfl
  · rw [z 6 (by omega), s_beg_0 (by omega)]
  · rw [s_beg_0 (by omega)]; exact Or.inl rfl
  · rw [z 7 (by omega), s_beg_0 (by omega)]
  · rw [z 8 (by omega), s_beg_0 (by omega)]
  · rw [z 9 (by omega), s_beg_0 (by omega)]
  · rw [h5, s_beg_0 (by omega)]
  · rw [h11]; rfl
  · exact Or.inr rfl
  · rw [z 12 (by omega), s_beg_0 (by omega)]
  · rw [s_beg_0 (by omega)]; exact Or.inl rfl
  · rw [h13]; rfl
  · rw [h14]; rfl
  · rw [hr i hi]
    unfold s_beg
    rw [if_neg (by omega), if_neg (by omega), if_neg (by omega), if_neg (by omega), if_neg (by omega), if_neg (by omega), if_neg (by omega), if_neg (by omega), if_pos (by omega), show 14 + i - 14 = i by omega]
  · rw [s_beg_0 (by omega)] at hk
    exact absurd (show k < 0 from hk) (Nat.not_lt_zero _)
  · rw [s_beg_0 (by omega)] at h
    exact absurd h (by decide)
  · rw [hs i hi]
    unfold s_beg
    rw [if_neg (by omega), if_neg (by omega), if_neg (by omega), if_neg (by omega), if_neg (by omega), if_neg (by omega), if_neg (by omega), if_neg (by omega), if_neg (by omega), if_pos (by omega), show 22 + i - 22 = i by omega]
theorem cA_draw {I I2 : q_I} {R : q_R} {M : q_I} {i : Nat} (h : ∀ u, u < 4 → c_A I R M (84 + 19 * u) u) (hi : i < 4) (h0 : I2 (84 + 19 * i) = va_up (I (84 + 19 * i)) 1 (I (84 + 19 * i) 1 + nI 1)) (hx : ∀ x, 84 ≤ x → x < 160 → x ≠ 84 + 19 * i → I2 x = I x) : ∀ u, u < 4 → c_A I2 R (f_draw i M) (84 + 19 * u) u := by
  intro u hu
  by_cases e : i = u
  · subst e; exact c_A_dr (h i hi) h0 (fun x h1 h2 => hx x (by omega) (by omega) (by omega))
  · exact c_A_to (h u hu) (fun x h1 h2 => hx x (by omega) (by omega) (by omega)) rfl (f_draw_eu (q_eu_rf _ _) e)
theorem f_off_eu {M : q_I} {b f v : Nat} (hf : f ≤ 6) (hv : b ≠ v) : q_eu (f_off b f M) M v := by
  intro r j ho
  by_cases e3 : r = 203
  · subst e3; rw [f_off_203, if_neg (by unfold q_own at ho; omega)]
  by_cases e4 : r = 204
  · subst e4; rw [f_off_204, va_up_ne _ _ (by unfold q_own at ho; omega)]
  rw [f_off_n e3 e4]
theorem g_nx_off {M : q_I} {b f i : Nat} : g_nx (f_off b f M) i = g_nx M i := by
  unfold g_nx
  rw [f_off_n (by decide) (by decide), f_off_n (by decide) (by decide), f_off_n (by decide) (by decide)]
theorem g_nx_dof {M : q_I} {b f i : Nat} : g_nx (f_draw i (f_off b f M)) i = g_nx (f_draw i M) i := by
  have e4 : f_draw i (f_off b f M) 194 = M 194 := (q_un (by decide)).trans (f_off_n (by decide) (by decide))
  have e5 : f_draw i (f_off b f M) 195 = M 195 := (q_un (by decide)).trans (f_off_n (by decide) (by decide))
  have d4 : f_draw i M 194 = M 194 := q_un (by decide)
  have d5 : f_draw i M 195 = M 195 := q_un (by decide)
  have e6 : f_draw i (f_off b f M) 196 i = M 196 i + nI 1 := by unfold f_draw; rw [q_usk, f_off_n (by decide) (by decide)]
  have d6 : f_draw i M 196 i = M 196 i + nI 1 := q_usk
  unfold g_nx
  rw [e4, e5, e6, d4, d5, d6]
theorem c_A_off {I I2 : q_I} {R : q_R} {M : q_I} {a u f : Nat} (h : c_A I R M a u) (hf : M 204 u = nI f) (hf6 : f ≤ 6) (h5 : I2 (a + 5) = va_up (I (a + 5)) 5 (nI (f - 1))) (h6 : ∀ k, k < f - 1 → I2 (a + 6) k = I (a + 6) (k + 1)) (hI : ∀ x, x ≠ a + 5 → x ≠ a + 6 → I2 x = I x) : c_A I2 R (f_off u f M) a u := by
  have hM : ∀ x, x ≠ 203 → x ≠ 204 → f_off u f M x = M x := fun x h1 h2 => f_off_n h1 h2
  obtain ⟨a0, a1, a2, a3, a4, a5, a6, a7, a8, a9, a10, a11, a12, a13, a14, a15⟩ := h
  refine ⟨by rw [hI a (by omega) (by omega), hM 193 (by decide) (by decide)]; exact a0, by rw [hM 193 (by decide) (by decide)]; exact a1, by rw [hI a (by omega) (by omega), hM 196 (by decide) (by decide)]; exact a2, by rw [hI (a + 1) (by omega) (by omega), hM 197 (by decide) (by decide)]; exact a3, by rw [hI (a + 1) (by omega) (by omega), hM 197 (by decide) (by decide)]; exact a4, by rw [hI (a + 2) (by omega) (by omega), hM 198 (by decide) (by decide)]; exact a5, by rw [hI (a + 2) (by omega) (by omega), hM 198 (by decide) (by decide)]; exact a6, by rw [hI (a + 3) (by omega) (by omega), hI a (by omega) (by omega), hM 199 (by decide) (by decide)]; exact a7, by rw [hM 193 (by decide) (by decide), hM 198 (by decide) (by decide)]; exact a8, ?_, ?_, ?_, ?_, ?_, ?_, by rw [hI (a + 8) (by omega) (by omega), hM 194 (by decide) (by decide), hM 195 (by decide) (by decide)]; exact a15⟩
  · obtain ⟨c, pr, h1, h2, h3, h4, h5, h6⟩ := a9
    rw [hM 201 (by decide) (by decide), hM 200 (by decide) (by decide), hI a (by omega) (by omega)]
    exact ⟨c, pr, h1, h2, h3, h4, h5, fun j hj => by rw [hI (pr j) (by have := h4 j (by omega); omega) (by have := h4 j (by omega); omega)]; exact h6 j hj⟩
  · rw [h5, va_up_ne _ _ (by decide), hM 202 (by decide) (by decide)]; exact a10
  · rw [h5, va_up_ne _ _ (by decide), hM 202 (by decide) (by decide)]; exact a11
  · rw [h5, va_up_ne _ _ (by decide), hM 202 (by decide) (by decide)]; exact a12
  · rw [h5, va_up_ne _ _ (by decide), hM 202 (by decide) (by decide)]; exact a13
  · obtain ⟨f2, h1, h2, h3, h4⟩ := a14
    have ef : f2 = f := (nI_eq (by omega) (by omega)).mp (h2.symm.trans hf)
    subst ef
    refine ⟨f2 - 1, by omega, by rw [f_off_204, va_up_self], by rw [h5, va_up_self], fun k hk => ?_⟩
    rw [h6 k hk, f_off_203, if_pos (by omega), h4 (k + 1) (by omega)]
    exact congrArg _ (by omega)
