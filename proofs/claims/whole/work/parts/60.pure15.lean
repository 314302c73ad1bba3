/-! lists of sessions change -/
theorem s_R_e {I : q_I} {t : Nat} {r s : Nat → Int32} (h : s_R I t r) (hr : q_RI r) (he : s_e s r) : s_R I t s := by
  obtain ⟨⟨c, hc12, hc⟩, -⟩ := hr
  exact s_R_c h hc (by omega) (fun i hi => he i (by omega))
theorem s_S_e {I : q_I} {t : Nat} {r s : Nat → Int32} (h : s_S I t r) (he : s_e s r) : s_S I t s := fun i hi => by rw [he (22 + i) (by omega)]; exact h i hi
theorem f_blk_r0 {p k : Nat} {row : Nat → Int32} {M : q_I} : s_e (f_blk (f_rows p k row M) p 0) row := by
  intro i hi
  unfold f_blk f_rows
  rw [va_up_self, if_pos (by omega)]
  exact congrArg row (by omega)
theorem f_blk_rs {p k l : Nat} {row : Nat → Int32} {M : q_I} (hl : l < k) : s_e (f_blk (f_rows p k row M) p (l + 1)) (f_blk M p l) := by
  intro i hi
  unfold f_blk f_rows
  rw [va_up_self, if_neg (by omega), if_pos (by omega)]
  exact congrArg (M 205) (by omega)
theorem f_blk_rr {p k q l : Nat} {row : Nat → Int32} {M : q_I} (hk : k < 3) (hl : l < 3) (h : q ≠ p ∨ k < l) : s_e (f_blk (f_rows p k row M) q l) (f_blk M q l) := by
  intro i hi
  unfold f_blk f_rows
  rw [va_up_self, if_neg (by omega), if_neg (by omega)]
theorem f_blk_s0 {p k : Nat} {row : Nat → Int32} {M : q_I} : s_e (f_blk (f_save p k row M) p k) row := by
  intro i hi
  unfold f_blk
  rw [f_save_205, if_pos (by omega)]
  exact congrArg row (by omega)
theorem f_blk_sr {p k q l : Nat} {row : Nat → Int32} {M : q_I} (hk : k < 3) (hl : l < 3) (h : q ≠ p ∨ l ≠ k) : s_e (f_blk (f_save p k row M) q l) (f_blk M q l) := by
  intro i hi
  unfold f_blk
  rw [f_save_205, if_neg (by omega)]
theorem c_L_mv {n n2 : Nat} {I I2 : q_I} {R R2 : q_R} {M M2 : q_I} {ss : Nat → Nat → Nat} {mc : Nat → Nat} {tr tr2 p k m2 : Nat} {row : Nat → Int32} (h : c_L n I R M ss mc tr) (hn0 : 214 ≤ n) (hn : n ≤ n2) (hp : p < 16) (hkm : k < m2) (hm2 : m2 ≤ 3) (hk : k ≤ mc p) (hkr : ∀ i, k < i → i < m2 → i < mc p)
    (hR3 : R2 3 6 = some tr2) (hts : q_Se n2 R2 tr2) (htr : tr2 ≠ tr) (hfr : ∀ q i, q < 16 → i < mc q → (q ≠ p ∨ i ≠ k) → ss q i ≠ tr2)
    (hR0 : R2 (160 + 2 * p + 1) 0 = some tr) (hRs : ∀ i, i < k → R2 (160 + 2 * p + 1) (i + 1) = some (ss p i)) (hRr : ∀ i, k < i → i < m2 → R2 (160 + 2 * p + 1) i = R (160 + 2 * p + 1) i)
    (hR : ∀ x, x < n → ((71 ≤ x ∧ x < 81) ∨ (160 ≤ x ∧ x < 192 ∧ x ≠ 160 + 2 * p + 1) ∨ 214 ≤ x) → R2 x = R x)
    (hI : ∀ x, x < n → ((71 ≤ x ∧ x < 81) ∨ (160 ≤ x ∧ x < 192 ∧ x ≠ 160 + 2 * p) ∨ 214 ≤ x) → (x < tr ∨ tr + 10 ≤ x) → I2 x = I x) (hIm : I2 (160 + 2 * p) 1 = nI m2)
    (hsr : s_R I2 tr row) (hss : s_S I2 tr row) (hri : q_RI row) (h5 : M2 205 = f_rows p k row M 205) (h6 : ∀ q, q ≠ p → M2 206 q = M 206 q) (h6p : M2 206 p = nI m2) : ∃ ss2 mc2, c_L n2 I2 R2 M2 ss2 mc2 tr2 := by
  have eb : ∀ q l, f_blk M2 q l = f_blk (f_rows p k row M) q l := fun q l => by unfold f_blk; rw [h5]
  obtain ⟨SS, eSS⟩ : ∃ z : Nat → Nat → Nat, z = fun q i => if q = p then (if i = 0 then tr else if i ≤ k then ss p (i - 1) else ss p i) else ss q i := ⟨_, rfl⟩
  obtain ⟨MC, eMC⟩ : ∃ z : Nat → Nat, z = fun q => if q = p then m2 else mc q := ⟨_, rfl⟩
  have hMp : MC p = m2 := by rw [eMC]; exact if_pos rfl
  have hMn : ∀ q, q ≠ p → MC q = mc q := fun q hq => by rw [eMC]; exact if_neg hq
  have hS0 : SS p 0 = tr := by rw [eSS]; simp only [if_true]
  have htg := h.ts.ge
  have hth := h.ts.hi
  have hold : ∀ q l, q < 16 → l < mc q → q_Se n2 R2 (ss q l) ∧ ss q l ≠ tr := fun q l hq hl => by
    have hb := h.se hq hl
    have hb1 := hb.ge
    have hb2 := hb.hi
    exact ⟨hb.to hn (hR _ (by omega) (by omega)) (hR _ (by omega) (by omega)), (h.rw q l hq hl).2.2⟩
  have holdI : ∀ q l, q < 16 → l < mc q → s_R I2 (ss q l) (f_blk M q l) ∧ s_S I2 (ss q l) (f_blk M q l) ∧ q_RI (f_blk M q l) := fun q l hq hl => by
    obtain ⟨a, b, c⟩ := h.re q l hq hl
    have hb := h.se hq hl
    have hb1 := hb.ge
    have hb2 := hb.hi
    have hb3 := hb.far h.ts (h.rw q l hq hl).2.2
    exact ⟨s_R_to a (fun x h1 h2 => hI x (by omega) (by omega) (by omega)), s_S_to b (fun x h1 h2 => hI x (by omega) (by omega) (by omega)), c⟩
  have hts2 : q_Se n2 R2 tr := h.ts.to hn (hR _ (by omega) (by omega)) (hR _ (by omega) (by omega))
  have cls : ∀ q i, q < 16 → i < MC q → (q = p ∧ i = 0) ∨ ∃ l, l < mc q ∧ (q ≠ p ∨ l ≠ k) ∧ SS q i = ss q l ∧ R2 (160 + 2 * q + 1) i = some (ss q l) ∧ s_e (f_blk M2 q i) (f_blk M q l) ∧ ((q ≠ p ∧ l = i) ∨ (q = p ∧ 0 < i ∧ i ≤ k ∧ l + 1 = i) ∨ (q = p ∧ k < i ∧ l = i)) := by
    intro q i hq hi
    by_cases e : q = p
    · subst e
      rw [hMp] at hi
      rcases Nat.eq_zero_or_pos i with e0 | e0
      · exact Or.inl ⟨rfl, e0⟩
      · rcases Nat.lt_or_ge k i with e1 | e1
        · refine Or.inr ⟨i, hkr i e1 hi, Or.inr (by omega), ?_, ?_, ?_, Or.inr (Or.inr ⟨rfl, e1, rfl⟩)⟩
          · rw [eSS]; simp only [if_true]; rw [if_neg (by omega), if_neg (by omega)]
          · rw [hRr i e1 hi]; exact (h.rw q i hq (hkr i e1 hi)).1
          · rw [eb]; exact f_blk_rr (by omega) (by omega) (Or.inr e1)
        · obtain ⟨l, rfl⟩ : ∃ l, i = l + 1 := ⟨i - 1, by omega⟩
          refine Or.inr ⟨l, by omega, Or.inr (by omega), ?_, hRs l (by omega), ?_, Or.inr (Or.inl ⟨rfl, e0, e1, rfl⟩)⟩
          · rw [eSS]; simp only [if_true]; rw [if_neg (by omega), if_pos e1, show l + 1 - 1 = l by omega]
          · rw [eb]; exact f_blk_rs (by omega)
    · rw [hMn q e] at hi
      have hm3 := (h.m3 q hq).1
      refine Or.inr ⟨i, hi, Or.inl e, ?_, ?_, ?_, Or.inl ⟨e, rfl⟩⟩
      · rw [eSS]; simp only; rw [if_neg e]
      · rw [hR (160 + 2 * q + 1) (by omega) (by omega)]; exact (h.rw q i hq hi).1
      · rw [eb]; exact f_blk_rr (by omega) (by omega) (Or.inl e)
  refine ⟨SS, MC, hR3, hts, fun q hq => ?_, fun q i hq hi => ?_, fun q i hq hi => ?_, fun q i q2 i2 hq hi hq2 hi2 he => ?_⟩
  · by_cases e : q = p
    · subst e; rw [hMp]; exact ⟨hm2, h6p, hIm⟩
    · obtain ⟨a, b, c⟩ := h.m3 q hq
      rw [hMn q e]
      exact ⟨a, by rw [h6 q e]; exact b, by rw [hI (160 + 2 * q) (by omega) (by omega) (by omega)]; exact c⟩
  · rcases cls q i hq hi with ⟨rfl, rfl⟩ | ⟨l, hl, hne, e1, e2, -, -⟩
    · rw [hS0]; exact ⟨hR0, hts2, Ne.symm htr⟩
    · rw [e1]; exact ⟨e2, (hold q l hq hl).1, hfr q l hq hl hne⟩
  · rcases cls q i hq hi with ⟨rfl, rfl⟩ | ⟨l, hl, hne, e1, e2, e3, -⟩
    · rw [hS0, eb]
      exact ⟨s_R_e hsr hri f_blk_r0, s_S_e hss f_blk_r0, q_RI_e f_blk_r0 hri⟩
    · obtain ⟨a, b, c⟩ := holdI q l hq hl
      rw [e1]
      exact ⟨s_R_e a c e3, s_S_e b e3, q_RI_e e3 c⟩
  · rcases cls q i hq hi with ⟨rfl, rfl⟩ | ⟨l, hl, hne, e1, -, -, e4⟩
    · rcases cls q2 i2 hq2 hi2 with ⟨rfl, rfl⟩ | ⟨l2, hl2, hne2, f1, -, -, f4⟩
      · exact ⟨rfl, rfl⟩
      · rw [hS0, f1] at he; exact absurd he.symm (hold q2 l2 hq2 hl2).2
    · rcases cls q2 i2 hq2 hi2 with ⟨rfl, rfl⟩ | ⟨l2, hl2, hne2, f1, -, -, f4⟩
      · rw [hS0, e1] at he; exact absurd he (hold q l hq hl).2
      · rw [e1, f1] at he
        obtain ⟨g1, g2⟩ := h.inj q l q2 l2 hq hl hq2 hl2 he
        subst g1 g2
        refine ⟨rfl, ?_⟩
        omega
theorem c_L_ex {n : Nat} {I I2 : q_I} {R R2 : q_R} {M M2 : q_I} {ss : Nat → Nat → Nat} {mc : Nat → Nat} {tr p k : Nat} {row : Nat → Int32} (h : c_L n I R M ss mc tr) (hn0 : 214 ≤ n) (hp : p < 16) (hk : k < mc p)
    (hR3 : R2 3 6 = some (ss p k)) (hR0 : R2 (160 + 2 * p + 1) k = some tr) (hRr : ∀ i, i ≠ k → R2 (160 + 2 * p + 1) i = R (160 + 2 * p + 1) i)
    (hR : ∀ x, x < n → ((71 ≤ x ∧ x < 81) ∨ (160 ≤ x ∧ x < 192 ∧ x ≠ 160 + 2 * p + 1) ∨ 214 ≤ x) → R2 x = R x)
    (hI : ∀ x, x < n → ((71 ≤ x ∧ x < 81) ∨ (160 ≤ x ∧ x < 192) ∨ 214 ≤ x) → (x < tr ∨ tr + 10 ≤ x) → I2 x = I x)
    (hsr : s_R I2 tr row) (hss : s_S I2 tr row) (hri : q_RI row) (h5 : M2 205 = f_save p k row M 205) (h6 : M2 206 = M 206) : ∃ ss2 mc2, c_L n I2 R2 M2 ss2 mc2 (ss p k) := by
  have eb : ∀ q l, f_blk M2 q l = f_blk (f_save p k row M) q l := fun q l => by unfold f_blk; rw [h5]
  obtain ⟨SS, eSS⟩ : ∃ z : Nat → Nat → Nat, z = fun q i => if q = p ∧ i = k then tr else ss q i := ⟨_, rfl⟩
  have hS0 : SS p k = tr := by rw [eSS]; exact if_pos ⟨rfl, rfl⟩
  have hSn : ∀ q i, ¬ (q = p ∧ i = k) → SS q i = ss q i := fun q i hq => by rw [eSS]; exact if_neg hq
  have htg := h.ts.ge
  have hth := h.ts.hi
  have hk3 := (h.m3 p hp).1
  have hold : ∀ q l, q < 16 → l < mc q → q_Se n R2 (ss q l) ∧ ss q l ≠ tr := fun q l hq hl => by
    have hb := h.se hq hl
    have hb1 := hb.ge
    have hb2 := hb.hi
    exact ⟨hb.to (Nat.le_refl _) (hR _ (by omega) (by omega)) (hR _ (by omega) (by omega)), (h.rw q l hq hl).2.2⟩
  have hts2 : q_Se n R2 tr := h.ts.to (Nat.le_refl _) (hR _ (by omega) (by omega)) (hR _ (by omega) (by omega))
  refine ⟨SS, mc, hR3, (hold p k hp hk).1, fun q hq => ?_, fun q i hq hi => ?_, fun q i hq hi => ?_, fun q i q2 i2 hq hi hq2 hi2 he => ?_⟩
  · obtain ⟨a, b, c⟩ := h.m3 q hq
    exact ⟨a, by rw [h6]; exact b, by rw [hI (160 + 2 * q) (by omega) (by omega) (by omega)]; exact c⟩
  · by_cases e : q = p ∧ i = k
    · obtain ⟨rfl, rfl⟩ := e
      rw [hS0]; exact ⟨hR0, hts2, Ne.symm (hold q i hq hi).2⟩
    · rw [hSn q i e]
      refine ⟨?_, (hold q i hq hi).1, fun z => ?_⟩
      · by_cases eq : q = p
        · subst eq; rw [hRr i (fun z => e ⟨rfl, z⟩)]; exact (h.rw q i hq hi).1
        · rw [hR (160 + 2 * q + 1) (by omega) (by omega)]; exact (h.rw q i hq hi).1
      · exact e (h.inj q i p k hq hi hp hk z)
  · have hi3 := (h.m3 q hq).1
    by_cases e : q = p ∧ i = k
    · obtain ⟨rfl, rfl⟩ := e
      rw [hS0, eb]
      exact ⟨s_R_e hsr hri f_blk_s0, s_S_e hss f_blk_s0, q_RI_e f_blk_s0 hri⟩
    · rw [hSn q i e, eb]
      obtain ⟨a, b, c⟩ := h.re q i hq hi
      have hb := h.se hq hi
      have hb1 := hb.ge
      have hb2 := hb.hi
      have hb3 := hb.far h.ts (h.rw q i hq hi).2.2
      have he : s_e (f_blk (f_save p k row M) q i) (f_blk M q i) := f_blk_sr (by omega) (by omega) (by omega)
      exact ⟨s_R_e (s_R_to a (fun x h1 h2 => hI x (by omega) (by omega) (by omega))) c he, s_S_e (s_S_to b (fun x h1 h2 => hI x (by omega) (by omega) (by omega))) he, q_RI_e he c⟩
  · by_cases e : q = p ∧ i = k
    · by_cases e2 : q2 = p ∧ i2 = k
      · exact ⟨e.1.trans e2.1.symm, e.2.trans e2.2.symm⟩
      · rw [hSn q2 i2 e2, e.1, e.2, hS0] at he
        exact absurd he.symm (hold q2 i2 hq2 hi2).2
    · by_cases e2 : q2 = p ∧ i2 = k
      · rw [hSn q i e, e2.1, e2.2, hS0] at he
        exact absurd he (hold q i hq hi).2
      · rw [hSn q i e, hSn q2 i2 e2] at he
        exact h.inj q i q2 i2 hq hi hq2 hi2 he
theorem q_fxS {a k : Nat} (h : 214 ≤ a) : q_fx a k = none := by
  have b3 : ∀ z, z < 214 → Nat.beq a z = false := fun z hz => Bool.eq_false_iff.mpr (fun q => by rw [Nat.beq_eq] at q; omega)
  have b4 : ∀ z, z < 215 → Nat.blt a z = false := fun z hz => Bool.eq_false_iff.mpr (fun q => by rw [Nat.blt_eq] at q; omega)
  unfold q_fx
  rw [b3 3 (by decide), b3 4 (by decide), b3 8 (by decide), b3 9 (by decide), b3 10 (by decide), b4 84 (by decide), b4 160 (by decide), b4 192 (by decide), b3 192 (by decide)]
  rfl
theorem q_fxn1 {p k : Nat} (h : p < 16) : q_fx (160 + 2 * p + 1) k = none := by
  have hh : p = 0 ∨ p = 1 ∨ p = 2 ∨ p = 3 ∨ p = 4 ∨ p = 5 ∨ p = 6 ∨ p = 7 ∨ p = 8 ∨ p = 9 ∨ p = 10 ∨ p = 11 ∨ p = 12 ∨ p = 13 ∨ p = 14 ∨ p = 15 := by omega
  rcases hh with rfl | rfl | rfl | rfl | rfl | rfl | rfl | rfl | rfl | rfl | rfl | rfl | rfl | rfl | rfl | rfl
  all_goals rfl
theorem q_fxn4 {u k : Nat} (h : u < 4) : q_fx (84 + 19 * u + 4) k = none := by
  have hh : u = 0 ∨ u = 1 ∨ u = 2 ∨ u = 3 := by omega
  rcases hh with rfl | rfl | rfl | rfl
  all_goals rfl
theorem q_K0_R {n n2 : Nat} {I : q_I} {R R2 : q_R} (hK : q_K0 n I R) (hn : n ≤ n2) (hR : ∀ a k, R2 a k = R a k ∨ q_fx a k = none) : q_K0 n2 I R2 := by
  obtain ⟨a, b, c⟩ := hK
  refine ⟨by omega, fun x k y hxy => ?_, c⟩
  rcases hR x k with e | e
  · rw [e]; exact b x k y hxy
  · rw [e] at hxy; exact absurd hxy (by simp)
theorem c_E_tx {I I2 : q_I} {J : q_L} {M M2 : q_I} {N : q_L} {E : Nat} {v : Int64} (h : c_E I J M N E) (hI : I2 3 = I 3) (hM : M2 192 16 = M 192 16) : c_E I2 (q_up J 3 5 v) M2 (q_up N 192 17 v) E := by
  refine ⟨h.e6, by rw [hM]; exact h.eM, by rw [hI]; exact h.eI, fun e k h1 h2 => ?_, fun e k h1 h2 h3 => ?_, ?_⟩
  · rw [q_un (by omega), q_un (by decide)]; exact h.lt e k h1 h2
  · rw [q_un (by omega)]; exact h.lz e k h1 h2 h3
  · rw [q_usk, q_usk]
/-- a try that failed: the trial and what the mixing uses have changed -/
theorem CR_frt {n : Nat} {I I2 : q_I} {J : q_L} {R : q_R} {M : q_I} {N : q_L} {ss : Nat → Nat → Nat} {mc : Nat → Nat} {tr : Nat} (h : CR n I J R M N) (hL : c_L n I R M ss mc tr) (hI : ∀ x, x ≠ 5 → x ≠ 6 → x ≠ 7 → x ≠ 81 → x ≠ 82 → x ≠ 83 → (x < tr ∨ tr + 10 ≤ x) → I2 x = I x) : CR n I2 J R M N ∧ q_nmf I2 I := by
  have htg := hL.ts.ge
  obtain ⟨hK, hn, ha, -, ⟨E, hE⟩⟩ := h
  exact ⟨⟨q_K0_to hK (hI 0 (by decide) (by decide) (by decide) (by decide) (by decide) (by decide) (by omega)) (hI 1 (by decide) (by decide) (by decide) (by decide) (by decide) (by decide) (by omega)), hn, fun v hv => c_A_to (ha v hv) (fun x h1 h2 => hI x (by omega) (by omega) (by omega) (by omega) (by omega) (by omega) (by omega)) rfl (q_eu_rf _ _), ⟨ss, mc, tr, c_L_to hL (Nat.le_refl _) hK.1 (fun x _ h1 h2 => hI x (by omega) (by omega) (by omega) (by omega) (by omega) (by omega) h2) (fun x _ _ => rfl) rfl rfl⟩, ⟨E, c_E_to hE (hI 3 (by decide) (by decide) (by decide) (by decide) (by decide) (by decide) (by omega)) rfl⟩⟩, fun x hx => hI x (by omega) (by omega) (by omega) (by omega) (by omega) (by omega) (by omega)⟩
