/-! class and reference: one relation -/
theorem q_fx8 : ∀ k, k < 4 → q_fx 8 k = some (84 + 19 * k) := by decide +kernel
theorem q_fx9 : ∀ k, k < 16 → q_fx 9 k = some (160 + 2 * k) := by decide +kernel
theorem q_fxA : ∀ k, k < 60 → q_fx 10 k = some (11 + k) := by decide +kernel
theorem q_fxL : ∀ p, p < 16 → q_fx (160 + 2 * p) 0 = some (160 + 2 * p + 1) := by decide +kernel
theorem q_kdL : ∀ p, p < 16 → q_kd (160 + 2 * p) = (8, 6) ∧ q_kd (160 + 2 * p + 1) = (4, 3) := by decide +kernel
theorem q_kdE : ∀ e, e < 60 → q_kd (11 + e) = (1, 12) := by decide +kernel
theorem q_obL {n p : Nat} (hn : 214 ≤ n) (hp : p < 16) : q_ob n (160 + 2 * p) 6 := ⟨by omega, (q_kdL p hp).1⟩
theorem q_arL {n p : Nat} (hn : 214 ≤ n) (hp : p < 16) : q_ar n (160 + 2 * p + 1) 4 3 := ⟨by omega, by omega, (q_kdL p hp).2⟩
theorem q_arE {n e : Nat} (hn : 214 ≤ n) (he : e < 60) : q_ar n (11 + e) 1 12 := ⟨by omega, by omega, q_kdE e he⟩
theorem q_il {u : Int32} {j : Nat} (h : u.toInt64 = lN j) : u = nI j := by
  have h2 := congrArg Int64.toInt32 h
  rwa [Int32.toInt32_toInt64, lN_i] at h2
theorem q_li {j : Nat} (h : j < 2 ^ 31) : (nI j).toInt64 = lN j := by
  apply Int64.toInt_inj.mp
  rw [Int32.toInt_toInt64, nI_toInt h, lN_toInt h]
theorem q_l4 {z : Int64} {N : Nat} (hN : N < 2 ^ 31) (h0 : ¬ z < lN 0) (h4 : ¬ lN N ≤ z) : ∃ j : Nat, j < N ∧ z = lN j := by
  have e4 : (lN N).toInt = N := lN_toInt hN
  have e0 : (lN 0).toInt = 0 := lN_toInt (by decide)
  rw [Int64.le_iff_toInt_le, e4] at h4
  rw [Int64.lt_iff_toInt_lt, e0] at h0
  have g0 : ¬ z < 0 := by rw [Int64.lt_iff_toInt_lt, show (0 : Int64).toInt = 0 from rfl]; omega
  obtain ⟨k, hk, rfl⟩ := pk_lOf g0
  have e3 : (lN k).toInt = k := lg_ofNat_toInt (by omega)
  exact ⟨k, by omega, rfl⟩
theorem q_lNn {j : Nat} (hj : j < 2 ^ 31) : ¬ lN j < lN 0 := by
  rw [Int64.lt_iff_toInt_lt, lN_toInt hj, lN_toInt (by decide)]
  omega
theorem q_lNl {j k : Nat} (hj : j < 2 ^ 31) (hk : k < 2 ^ 31) (h : j < k) : ¬ lN k ≤ lN j := by
  rw [Int64.le_iff_toInt_le, lN_toInt hj, lN_toInt hk]
  omega
theorem q_lNi {i j : Nat} (hi : i < 2 ^ 31) (hj : j < 2 ^ 31) (h : lN i = lN j) : i = j := by
  have h2 := congrArg Int64.toInt32 h
  rw [lN_i, lN_i] at h2
  exact (nI_eq hi hj).mp h2
theorem g_34 {u : Int32} : nI 4 ≤ u ↔ nI 3 < u := by
  rw [Int32.lt_iff_toInt_lt, Int32.le_iff_toInt_le, nI_toInt (by decide), nI_toInt (by decide)]
  omega
theorem g_1112 {u : Int32} : nI 12 ≤ u ↔ nI 11 < u := by
  rw [Int32.lt_iff_toInt_lt, Int32.le_iff_toInt_le, nI_toInt (by decide), nI_toInt (by decide)]
  omega
theorem g_kn_j {f : Nat → Int32} {j : Nat} (hj : j < 4) (h : ¬ f j = 0) : ¬ g_kn f (nI j) = 0 := by
  unfold g_kn
  rw [if_neg (nI_pos (by omega)), if_neg (fun z => absurd ((nI_ltI (by decide) (by omega)).mp z) (by omega)), g_cl (by omega), if_neg h]
  decide
theorem g_kn_0 {f : Nat → Int32} {u : Int32} (h : ∀ j, j < 4 → u.toInt64 = lN j → f j = 0) : g_kn f u = 0 := by
  refine Classical.byContradiction fun hn => ?_
  obtain ⟨j, hj, rfl, hf, -⟩ := g_kn_1 hn
  exact hf (h j hj (q_li (by omega)))
theorem g_pr_j {f : Nat → Int32} {i j : Nat} (hi : i < 4) (hj : j < 4) (hij : i ≠ j) (h : ¬ f i = 0) (h2 : ¬ f j = 0) : ¬ g_pr f (nI i) (nI j) = 0 := by
  unfold g_pr
  rw [if_neg (g_kn_j hi h), if_neg (g_kn_j hj h2), if_neg (fun z => hij ((nI_eq (by omega) (by omega)).mp z))]
  decide
theorem g_pr_0 {f : Nat → Int32} {a b : Int32} (h : ∀ i j, i < 4 → j < 4 → i ≠ j → a.toInt64 = lN i → b.toInt64 = lN j → ¬ f i = 0 → ¬ f j = 0 → False) : g_pr f a b = 0 := by
  refine Classical.byContradiction fun hn => ?_
  obtain ⟨i, j, hi, hj, rfl, rfl, hij, hfi, hfj, -⟩ := g_pr_1 hn
  exact h i j hi hj hij (q_li (by omega)) (q_li (by omega)) hfi hfj
theorem g_first_cg {P P2 : Nat → Bool} {c : Nat} (h : ∀ j, j < c → P j = P2 j) : g_first P c = g_first P2 c := by
  obtain ⟨g1, g2, g3⟩ := g_first_s P2 c
  refine g_first_u g1 (fun j hj => ?_) (fun hl => ?_)
  · rw [h j (by omega)]; exact g2 j hj
  · rw [h _ hl]; exact g3 hl
def c_L (n : Nat) (I : q_I) (R : q_R) (M : q_I) (ss : Nat → Nat → Nat) (mc : Nat → Nat) (tr : Nat) : Prop :=
  (R 3 6 = some tr) ∧
  (q_Se n R tr) ∧
  (∀ p, p < 16 → mc p ≤ 3 ∧ M 206 p = nI (mc p) ∧ I (160 + 2 * p) 1 = nI (mc p)) ∧
  (∀ p k, p < 16 → k < mc p → R (160 + 2 * p + 1) k = some (ss p k) ∧ q_Se n R (ss p k) ∧ ss p k ≠ tr) ∧
  (∀ p k, p < 16 → k < mc p → s_R I (ss p k) (f_blk M p k) ∧ s_S I (ss p k) (f_blk M p k) ∧ q_RI (f_blk M p k)) ∧
  (∀ p k q l, p < 16 → k < mc p → q < 16 → l < mc q → ss p k = ss q l → p = q ∧ k = l)
theorem c_L.tr {n : Nat} {I : q_I} {R : q_R} {M : q_I} {ss : Nat → Nat → Nat} {mc : Nat → Nat} {tr : Nat} (h : c_L n I R M ss mc tr) : R 3 6 = some tr := h.1
theorem c_L.ts {n : Nat} {I : q_I} {R : q_R} {M : q_I} {ss : Nat → Nat → Nat} {mc : Nat → Nat} {tr : Nat} (h : c_L n I R M ss mc tr) : q_Se n R tr := h.2.1
theorem c_L.m3 {n : Nat} {I : q_I} {R : q_R} {M : q_I} {ss : Nat → Nat → Nat} {mc : Nat → Nat} {tr : Nat} (h : c_L n I R M ss mc tr) : ∀ p, p < 16 → mc p ≤ 3 ∧ M 206 p = nI (mc p) ∧ I (160 + 2 * p) 1 = nI (mc p) := h.2.2.1
theorem c_L.rw {n : Nat} {I : q_I} {R : q_R} {M : q_I} {ss : Nat → Nat → Nat} {mc : Nat → Nat} {tr : Nat} (h : c_L n I R M ss mc tr) : ∀ p k, p < 16 → k < mc p → R (160 + 2 * p + 1) k = some (ss p k) ∧ q_Se n R (ss p k) ∧ ss p k ≠ tr := h.2.2.2.1
theorem c_L.re {n : Nat} {I : q_I} {R : q_R} {M : q_I} {ss : Nat → Nat → Nat} {mc : Nat → Nat} {tr : Nat} (h : c_L n I R M ss mc tr) : ∀ p k, p < 16 → k < mc p → s_R I (ss p k) (f_blk M p k) ∧ s_S I (ss p k) (f_blk M p k) ∧ q_RI (f_blk M p k) := h.2.2.2.2.1
theorem c_L.inj {n : Nat} {I : q_I} {R : q_R} {M : q_I} {ss : Nat → Nat → Nat} {mc : Nat → Nat} {tr : Nat} (h : c_L n I R M ss mc tr) : ∀ p k q l, p < 16 → k < mc p → q < 16 → l < mc q → ss p k = ss q l → p = q ∧ k = l := h.2.2.2.2.2
def c_E (I : q_I) (J : q_L) (M : q_I) (N : q_L) (E : Nat) : Prop :=
  (E ≤ 60) ∧
  (M 192 16 = nI E) ∧
  (I 3 4 = nI E) ∧
  (∀ e k, e < E → k < 12 → J (11 + e) k = N 208 (12 * e + k)) ∧
  (∀ e k, E ≤ e → e < 60 → k < 12 → J (11 + e) k = lN 0) ∧
  (J 3 5 = N 192 17)
theorem c_E.e6 {I : q_I} {J : q_L} {M : q_I} {N : q_L} {E : Nat} (h : c_E I J M N E) : E ≤ 60 := h.1
theorem c_E.eM {I : q_I} {J : q_L} {M : q_I} {N : q_L} {E : Nat} (h : c_E I J M N E) : M 192 16 = nI E := h.2.1
theorem c_E.eI {I : q_I} {J : q_L} {M : q_I} {N : q_L} {E : Nat} (h : c_E I J M N E) : I 3 4 = nI E := h.2.2.1
theorem c_E.lt {I : q_I} {J : q_L} {M : q_I} {N : q_L} {E : Nat} (h : c_E I J M N E) : ∀ e k, e < E → k < 12 → J (11 + e) k = N 208 (12 * e + k) := h.2.2.2.1
theorem c_E.lz {I : q_I} {J : q_L} {M : q_I} {N : q_L} {E : Nat} (h : c_E I J M N E) : ∀ e k, E ≤ e → e < 60 → k < 12 → J (11 + e) k = lN 0 := h.2.2.2.2.1
theorem c_E.tx {I : q_I} {J : q_L} {M : q_I} {N : q_L} {E : Nat} (h : c_E I J M N E) : J 3 5 = N 192 17 := h.2.2.2.2.2
def CR (n : Nat) (I : q_I) (J : q_L) (R : q_R) (M : q_I) (N : q_L) : Prop :=
  (q_K0 n I R) ∧
  (∃ j, n = 214 + 10 * j) ∧
  (∀ u, u < 4 → c_A I R M (84 + 19 * u) u) ∧
  (∃ ss mc tr, c_L n I R M ss mc tr) ∧
  (∃ E, c_E I J M N E)
theorem CR.K {n : Nat} {I : q_I} {J : q_L} {R : q_R} {M : q_I} {N : q_L} (h : CR n I J R M N) : q_K0 n I R := h.1
theorem CR.nj {n : Nat} {I : q_I} {J : q_L} {R : q_R} {M : q_I} {N : q_L} (h : CR n I J R M N) : ∃ j, n = 214 + 10 * j := h.2.1
theorem CR.ac {n : Nat} {I : q_I} {J : q_L} {R : q_R} {M : q_I} {N : q_L} (h : CR n I J R M N) : ∀ u, u < 4 → c_A I R M (84 + 19 * u) u := h.2.2.1
theorem CR.li {n : Nat} {I : q_I} {J : q_L} {R : q_R} {M : q_I} {N : q_L} (h : CR n I J R M N) : ∃ ss mc tr, c_L n I R M ss mc tr := h.2.2.2.1
theorem CR.en {n : Nat} {I : q_I} {J : q_L} {R : q_R} {M : q_I} {N : q_L} (h : CR n I J R M N) : ∃ E, c_E I J M N E := h.2.2.2.2
theorem c_L.se {n : Nat} {I : q_I} {R : q_R} {M : q_I} {ss : Nat → Nat → Nat} {mc : Nat → Nat} {tr : Nat} (h : c_L n I R M ss mc tr) {p k : Nat} (hp : p < 16) (hk : k < mc p) : q_Se n R (ss p k) := (h.rw p k hp hk).2.1
theorem c_L_to {n n2 : Nat} {I I2 : q_I} {R R2 : q_R} {M M2 : q_I} {ss : Nat → Nat → Nat} {mc : Nat → Nat} {tr : Nat} (h : c_L n I R M ss mc tr) (hn : n ≤ n2) (hn0 : 214 ≤ n) (hI : ∀ x, x < n → ((71 ≤ x ∧ x < 81) ∨ (160 ≤ x ∧ x < 192) ∨ 214 ≤ x) → (x < tr ∨ tr + 10 ≤ x) → I2 x = I x) (hR : ∀ x, x < n → (x = 3 ∨ (71 ≤ x ∧ x < 81) ∨ (160 ≤ x ∧ x < 192) ∨ 214 ≤ x) → R2 x = R x) (h5 : M2 205 = M 205) (h6 : M2 206 = M 206) : c_L n2 I2 R2 M2 ss mc tr := by
  have ht := h.ts.ge
  have hh := h.ts.hi
  have eb : ∀ p k, f_blk M2 p k = f_blk M p k := fun p k => by unfold f_blk; rw [h5]
  refine ⟨?_, h.ts.to hn (hR tr (by omega) (by omega)) (hR (tr + 5) (by omega) (by omega)), fun p hp => ?_, fun p k hp hk => ?_, fun p k hp hk => ?_, h.inj⟩
  · rw [hR 3 (by omega) (by omega)]; exact h.tr
  · obtain ⟨a, b, c⟩ := h.m3 p hp
    exact ⟨a, by rw [h6]; exact b, by rw [hI (160 + 2 * p) (by omega) (by omega) (by omega)]; exact c⟩
  · obtain ⟨a, b, c⟩ := h.rw p k hp hk
    have hb := b.ge
    have hb2 := b.hi
    exact ⟨by rw [hR (160 + 2 * p + 1) (by omega) (by omega)]; exact a, b.to hn (hR _ (by omega) (by omega)) (hR _ (by omega) (by omega)), c⟩
  · obtain ⟨a, b, c⟩ := h.re p k hp hk
    have hb := h.se hp hk
    have hb1 := hb.ge
    have hb2 := hb.hi
    have hb3 := hb.far h.ts (h.rw p k hp hk).2.2
    rw [eb]
    exact ⟨s_R_to a (fun x h1 h2 => hI x (by omega) (by omega) (by omega)), s_S_to b (fun x h1 h2 => hI x (by omega) (by omega) (by omega)), c⟩
theorem c_E_to {I I2 : q_I} {J : q_L} {M M2 : q_I} {N : q_L} {E : Nat} (h : c_E I J M N E) (hI : I2 3 = I 3) (hM : M2 192 16 = M 192 16) : c_E I2 J M2 N E := ⟨h.e6, by rw [hM]; exact h.eM, by rw [hI]; exact h.eI, h.lt, h.lz, h.tx⟩
def q_nmf (I2 I : q_I) : Prop := ∀ x, (x ≤ 2 ∨ (192 ≤ x ∧ x < 214)) → I2 x = I x
theorem q_nmf_rf (I : q_I) : q_nmf I I := fun _ _ => rfl
theorem CR_acct {n u : Nat} {I I2 : q_I} {J : q_L} {R : q_R} {M M2 : q_I} {N : q_L} (h : CR n I J R M N) (hu : u < 4) (hA : c_A I2 R M2 (84 + 19 * u) u) (hI : ∀ x, x ≠ 5 → x ≠ 6 → x ≠ 7 → (x < 84 + 19 * u ∨ 84 + 19 * u + 19 ≤ x) → I2 x = I x) (hM : ∀ v, v < 4 → u ≠ v → q_eu M2 M v) (h5 : M2 205 = M 205) (h6 : M2 206 = M 206) (h2 : M2 192 16 = M 192 16) : CR n I2 J R M2 N ∧ q_nmf I2 I := by
  obtain ⟨hK, hn, ha, ⟨ss, mc, tr, hL⟩, ⟨E, hE⟩⟩ := h
  refine ⟨⟨q_K0_to hK (hI 0 (by decide) (by decide) (by decide) (by omega)) (hI 1 (by decide) (by decide) (by decide) (by omega)), hn, fun v hv => ?_, ⟨ss, mc, tr, c_L_to hL (Nat.le_refl _) hK.1 (fun x _ h1 _ => hI x (by omega) (by omega) (by omega) (by omega)) (fun x _ _ => rfl) h5 h6⟩, ⟨E, c_E_to hE (hI 3 (by decide) (by decide) (by decide) (by omega)) h2⟩⟩, fun x hx => hI x (by omega) (by omega) (by omega) (by omega)⟩
  by_cases e : u = v
  · subst e; exact hA
  · exact c_A_to (ha v hv) (fun x h1 h2 => hI x (by omega) (by omega) (by omega) (by omega)) rfl (hM v hv e)
theorem CR_c {n : Nat} {I : q_I} {J : q_L} {R : q_R} {M M2 : q_I} {N N2 : q_L} (h : CR n I J R M N) (hM : q_ms M2 M) (hN : q_mN N2 N) : CR n I J R M2 N2 := by
  obtain ⟨hK, hn, ha, ⟨ss, mc, tr, hL⟩, ⟨E, hE⟩⟩ := h
  refine ⟨hK, hn, fun v hv => c_A_to (ha v hv) (fun _ _ _ => rfl) rfl (fun r j ho => ?_), ⟨ss, mc, tr, c_L_to hL (Nat.le_refl _) hK.1 (fun _ _ _ _ => rfl) (fun _ _ _ => rfl) (hM.1 205 (by decide) (by decide)) (hM.1 206 (by decide) (by decide))⟩, ⟨E, hE.e6, by rw [hM.2]; exact hE.eM, hE.eI, fun e k h1 h2 => by rw [hN.1]; exact hE.lt e k h1 h2, hE.lz, by rw [hN.2]; exact hE.tx⟩⟩
  unfold q_own at ho
  rw [hM.1 r (by omega) (by omega)]
/-- the reference's cells change, the class's do not -/
theorem CR_mf {n : Nat} {I I2 : q_I} {J : q_L} {J2 : q_L} {R : q_R} {M : q_I} {N : q_L} (h : CR n I J R M N) (hI : ∀ x, (x < 192 ∨ 214 ≤ x) → I2 x = I x) (hJ : ∀ x, x < 192 → J2 x = J x) : CR n I2 J2 R M N := by
  obtain ⟨hK, hn, ha, ⟨ss, mc, tr, hL⟩, ⟨E, hE⟩⟩ := h
  refine ⟨q_K0_to hK (hI 0 (by omega)) (hI 1 (by omega)), hn, fun v hv => c_A_to (ha v hv) (fun x h1 h2 => hI x (by omega)) rfl (q_eu_rf _ _), ⟨ss, mc, tr, c_L_to hL (Nat.le_refl _) hK.1 (fun x _ h1 _ => hI x (by omega)) (fun _ _ _ => rfl) rfl rfl⟩, ⟨E, hE.e6, hE.eM, by rw [hI 3 (by omega)]; exact hE.eI, fun e k h1 h2 => ?_, fun e k h1 h2 h3 => ?_, by rw [hJ 3 (by omega)]; exact hE.tx⟩⟩
  · rw [hJ (11 + e) (by have := hE.e6; omega)]; exact hE.lt e k h1 h2
  · rw [hJ (11 + e) (by omega)]; exact hE.lz e k h1 h2 h3
theorem c_A_sp {I : q_I} {R : q_R} {M : q_I} {a u k : Nat} {v : Int32} (h : c_A I R M a u) (hk : k < 4) : c_A (q_up I (a + 5) k v) R (q_up M 202 (4 * u + k) v) a u := by
  have hI : ∀ x, x ≠ a + 5 → q_up I (a + 5) k v x = I x := fun x hx => q_un hx
  have hM : ∀ x, x ≠ 202 → q_up M 202 (4 * u + k) v x = M x := fun x hx => q_un hx
  obtain ⟨a0, a1, a2, a3, a4, a5, a6, a7, a8, a9, a10, a11, a12, a13, a14, a15⟩ := h
  refine ⟨by rw [hI a (by omega), hM 193 (by decide)]; exact a0, by rw [hM 193 (by decide)]; exact a1, by rw [hI a (by omega), hM 196 (by decide)]; exact a2, by rw [hI (a + 1) (by omega), hM 197 (by decide)]; exact a3, by rw [hI (a + 1) (by omega), hM 197 (by decide)]; exact a4, by rw [hI (a + 2) (by omega), hM 198 (by decide)]; exact a5, by rw [hI (a + 2) (by omega), hM 198 (by decide)]; exact a6, by rw [hI (a + 3) (by omega), hI a (by omega), hM 199 (by decide)]; exact a7, by rw [hM 193 (by decide), hM 198 (by decide)]; exact a8, ?_, ?_, ?_, ?_, ?_, ?_, by rw [hI (a + 8) (by omega), hM 194 (by decide), hM 195 (by decide)]; exact a15⟩
  · obtain ⟨c, pr, h1, h2, h3, h4, h5, h6⟩ := a9
    rw [hM 201 (by decide), hM 200 (by decide), hI a (by omega)]
    exact ⟨c, pr, h1, h2, h3, h4, h5, fun j hj => by rw [hI (pr j) (by have := h4 j (by omega); omega)]; exact h6 j hj⟩
  · by_cases e : k = 0
    · subst e; rw [q_usk]; exact (q_usk (k := 4 * u + 0)).symm
    · rw [q_usn (Ne.symm e), q_usn (by omega)]; exact a10
  · by_cases e : k = 1
    · subst e; rw [q_usk]; exact (q_usk (k := 4 * u + 1)).symm
    · rw [q_usn (Ne.symm e), q_usn (by omega)]; exact a11
  · by_cases e : k = 2
    · subst e; rw [q_usk]; exact (q_usk (k := 4 * u + 2)).symm
    · rw [q_usn (Ne.symm e), q_usn (by omega)]; exact a12
  · by_cases e : k = 3
    · subst e; rw [q_usk]; exact (q_usk (k := 4 * u + 3)).symm
    · rw [q_usn (Ne.symm e), q_usn (by omega)]; exact a13
  · obtain ⟨f, h1, h2, h3, h4⟩ := a14
    rw [hM 204 (by decide), hM 203 (by decide), hI (a + 6) (by omega), q_usn (by omega)]
    exact ⟨f, h1, h2, h3, h4⟩
theorem c_A_dr {I I2 : q_I} {R : q_R} {M : q_I} {a u : Nat} (h : c_A I R M a u) (h0 : I2 a = va_up (I a) 1 (I a 1 + nI 1)) (hI : ∀ x, a < x → x < a + 19 → I2 x = I x) : c_A I2 R (f_draw u M) a u := by
  have hM : ∀ x, x ≠ 196 → f_draw u M x = M x := fun x hx => q_un hx
  obtain ⟨a0, a1, a2, a3, a4, a5, a6, a7, a8, a9, a10, a11, a12, a13, a14, a15⟩ := h
  refine ⟨?_, by rw [hM 193 (by decide)]; exact a1, ?_, by rw [hI (a + 1) (by omega) (by omega), hM 197 (by decide)]; exact a3, by rw [hI (a + 1) (by omega) (by omega), hM 197 (by decide)]; exact a4, by rw [hI (a + 2) (by omega) (by omega), hM 198 (by decide)]; exact a5, by rw [hI (a + 2) (by omega) (by omega), hM 198 (by decide)]; exact a6, ?_, by rw [hM 193 (by decide), hM 198 (by decide)]; exact a8, ?_, by rw [hI (a + 5) (by omega) (by omega), hM 202 (by decide)]; exact a10, by rw [hI (a + 5) (by omega) (by omega), hM 202 (by decide)]; exact a11, by rw [hI (a + 5) (by omega) (by omega), hM 202 (by decide)]; exact a12, by rw [hI (a + 5) (by omega) (by omega), hM 202 (by decide)]; exact a13, by rw [hI (a + 5) (by omega) (by omega), hI (a + 6) (by omega) (by omega), hM 204 (by decide), hM 203 (by decide)]; exact a14, by rw [hI (a + 8) (by omega) (by omega), hM 194 (by decide), hM 195 (by decide)]; exact a15⟩
  · rw [h0, va_up_ne _ _ (by decide), hM 193 (by decide)]; exact a0
  · rw [h0, va_up_self, a2]; exact q_usk.symm
  · rw [h0, va_up_ne _ _ (by decide), hI (a + 3) (by omega) (by omega), hM 199 (by decide)]; exact a7
  · obtain ⟨c, pr, h1, h2, h3, h4, h5, h6⟩ := a9
    rw [hM 201 (by decide), hM 200 (by decide), h0, va_up_ne _ _ (by decide)]
    exact ⟨c, pr, h1, h2, h3, h4, h5, fun j hj => by rw [hI (pr j) (by have := h4 j (by omega); omega) (by have := h4 j (by omega); omega)]; exact h6 j hj⟩
