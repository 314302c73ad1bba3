set_option maxHeartbeats 4000000 in
theorem k_further_loop {L d n : Nat} {I : q_I} {J : q_L} {R : q_R} {Q : q_Q} {M : q_I} {N : q_L} {ss : Nat → Nat → Nat} {mc : Nat → Nat} {tr p e a b x y le : Nat} {G : Nat → Nat → Int32} (h : CR n I J R M N) (hL : c_L n I R M ss mc tr) (hp : p < 16) (hl : q_ar n le 1 12) (hJ : ∀ k, k < 12 → J le k = N 208 (e + k)) (hwf : q_wf M N e a b x y) (hQ : ∀ n' I' J' R', CR n' I' J' R' ((f_fur G M N e a b p (mc p) 0 (nI 6)).2.1) ((f_fur G M N e a b p (mc p) 0 (nI 6)).2.2) → q_nmf I' I → (J' 208 = J 208 ∧ J' 192 = J 192) → Q (some (.int (f_fur G M N e a b p (mc p) 0 (nI 6)).1)) (n', I', J', R')) : ∀ (j k : Nat) (ans : Int32) (I2 : q_I), k + j = mc p → (∀ x, x ≠ 5 → x ≠ 6 → x ≠ 7 → x ≠ 82 → x ≠ 83 → (x < tr ∨ tr + 10 ≤ x) → I2 x = I x) → f_fur G M N e a b p j k ans = (f_fur G M N e a b p (mc p) 0 (nI 6)) → q_W L (d + 6) 65 q_m65 Q 6 [some (.ref 3), some (.ref le), some (.ref (160 + 2 * p)), some (.int ans), some (.int (nI k)), none] [] (n, I2, J, R) 0 0 := by
  have hK := h.K
  have ha := h.ac
  have htg := hL.ts.ge
  have hm3 := (hL.m3 p hp).1
  obtain ⟨E, hE⟩ := h.en
  have h4b := hwf.hb
  intro j
  induction j with
  | zero =>
    intro k ans I2 hkj fr hF
    show q_W L (d + 6) 65 q_m65 Q 6 [some (.ref 3), some (.ref le), some (.ref (160 + 2 * p)), some (.int ans), some (.int (nI k)), none] [] (n, I2, J, R) 0 0
    refine q_k 2 ?_
    show q_W L (d + 6) 65 q_m65 Q 9 [some (.ref 3), some (.ref le), some (.ref (160 + 2 * p)), some (.int ans), some (.int (nI k)), none] [.ref (160 + 2 * p), .int (nI k)] (n, I2, J, R) 0 0
    refine q_gI rfl rfl (q_obL hK.1 hp) ?_
    refine q_top (w := nI (mc p)) (by rw [fr (160 + 2 * p) (by omega) (by omega) (by omega) (by omega) (by omega) (by omega)]; exact (hL.m3 p hp).2.2) ?_
    refine q_one rfl rfl ?_
    show ((nI (mc p)) ≤ (nI k) → q_W L (d + 6) 65 q_m65 Q 77 [some (.ref 3), some (.ref le), some (.ref (160 + 2 * p)), some (.int ans), some (.int (nI k)), none] [] (n, I2, J, R) 0 0) ∧ (¬ (nI (mc p)) ≤ (nI k) → q_W L (d + 6) 65 q_m65 Q 15 [some (.ref 3), some (.ref le), some (.ref (160 + 2 * p)), some (.int ans), some (.int (nI k)), none] [] (n, I2, J, R) 0 0)
    refine ⟨fun _ => ?_, fun z => absurd (nI_le (by omega) (by omega)) z⟩
    refine q_k 1 ?_
    show q_W L (d + 6) 65 q_m65 Q 78 [some (.ref 3), some (.ref le), some (.ref (160 + 2 * p)), some (.int ans), some (.int (nI k)), none] [.int ans] (n, I2, J, R) 0 0
    refine q_one rfl rfl ?_
    show Q (some (.int ans)) (n, I2, J, R)
    rw [← hF] at hQ
    obtain ⟨c1, c2⟩ := CR_frt h hL (fun x h5 h6 h7 _ h82 h83 hx => fr x h5 h6 h7 h82 h83 hx)
    exact hQ n I2 J R c1 c2 ⟨rfl, rfl⟩
  | succ j ih =>
    intro k ans I2 hkj fr hF
    have hk : k < mc p := by omega
    show q_W L (d + 6) 65 q_m65 Q 6 [some (.ref 3), some (.ref le), some (.ref (160 + 2 * p)), some (.int ans), some (.int (nI k)), none] [] (n, I2, J, R) 0 0
    obtain ⟨hsr, hss, hri⟩ := hL.re p k hp hk
    obtain ⟨⟨c, hc12, hc⟩, -⟩ := id hri
    have hfar := (hL.se hp hk).far hL.ts (hL.rw p k hp hk).2.2
    have hb1 := (hL.se hp hk).ge
    refine q_k 2 ?_
    show q_W L (d + 6) 65 q_m65 Q 9 [some (.ref 3), some (.ref le), some (.ref (160 + 2 * p)), some (.int ans), some (.int (nI k)), none] [.ref (160 + 2 * p), .int (nI k)] (n, I2, J, R) 0 0
    refine q_gI rfl rfl (q_obL hK.1 hp) ?_
    refine q_top (w := nI (mc p)) (by rw [fr (160 + 2 * p) (by omega) (by omega) (by omega) (by omega) (by omega) (by omega)]; exact (hL.m3 p hp).2.2) ?_
    refine q_one rfl rfl ?_
    show ((nI (mc p)) ≤ (nI k) → q_W L (d + 6) 65 q_m65 Q 77 [some (.ref 3), some (.ref le), some (.ref (160 + 2 * p)), some (.int ans), some (.int (nI k)), none] [] (n, I2, J, R) 0 0) ∧ (¬ (nI (mc p)) ≤ (nI k) → q_W L (d + 6) 65 q_m65 Q 15 [some (.ref 3), some (.ref le), some (.ref (160 + 2 * p)), some (.int ans), some (.int (nI k)), none] [] (n, I2, J, R) 0 0)
    refine ⟨fun z => absurd z (nI_ge hk (by omega)), fun _ => ?_⟩
    refine q_k 1 ?_
    show q_W L (d + 6) 65 q_m65 Q 16 [some (.ref 3), some (.ref le), some (.ref (160 + 2 * p)), some (.int ans), some (.int (nI k)), none] [.ref 3] (n, I2, J, R) 0 0
    refine q_gR (b := tr) rfl rfl (⟨Nat.lt_of_lt_of_le (by decide) hK.1, rfl⟩) (hL.tr) ?_
    refine q_k 1 ?_
    show q_W L (d + 6) 65 q_m65 Q 20 [some (.ref 3), some (.ref le), some (.ref (160 + 2 * p)), some (.int ans), some (.int (nI k)), none] [.ref (160 + 2 * p), .ref tr] (n, I2, J, R) 0 0
    refine q_gR (b := (160 + 2 * p + 1)) rfl rfl (q_obL hK.1 hp) (hK.2.1 _ _ _ (q_fxL p hp)) ?_
    refine q_k 1 ?_
    show q_W L (d + 6) 65 q_m65 Q 25 [some (.ref 3), some (.ref le), some (.ref (160 + 2 * p)), some (.int ans), some (.int (nI k)), none] [.int (nI k), .ref (160 + 2 * p + 1), .ref tr] (n, I2, J, R) 0 0
    refine q_aal (m := k) (b := (ss p k)) rfl (q_arL hK.1 hp) ⟨rfl, rfl⟩ (by omega) rfl ((hL.rw p k hp hk).1) ?_
    refine q_cv (as := [.ref (ss p k)]) (rs := []) rfl rfl rfl (hL.ts.ob) rfl rfl ?_
    refine c_become (t := tr) (o := ss p k) (c := c) (hL.ts) (hL.se hp hk) (Ne.symm (hL.rw p k hp hk).2.2) (s_R_to hsr (fun x h1 h2 => fr x (by omega) (by omega) (by omega) (by omega) (by omega) (by omega))) (s_S_to hss (fun x h1 h2 => fr x (by omega) (by omega) (by omega) (by omega) (by omega) (by omega))) (hc) (by omega) (fun I3 a3 b3 g3 => ?_)
    show q_W L (d + 6) 65 q_m65 Q 29 [some (.ref 3), some (.ref le), some (.ref (160 + 2 * p)), some (.int ans), some (.int (nI k)), none] [] (n, I3, J, R) 0 0
    refine q_k 2 ?_
    show q_W L (d + 6) 65 q_m65 Q 31 [some (.ref 3), some (.ref le), some (.ref (160 + 2 * p)), some (.int ans), some (.int (nI k)), none] [.ref le, .ref 3] (n, I3, J, R) 0 0
    refine q_cv (as := [.ref le]) (rs := []) rfl rfl rfl (⟨Nat.lt_of_lt_of_le (by decide) hK.1, rfl⟩) rfl rfl ?_
    have g3t : ∀ x, x ≠ 5 → x ≠ 6 → x ≠ 7 → x ≠ 82 → x ≠ 83 → (x < tr ∨ tr + 10 ≤ x) → I3 x = I x := fun x h5 h6 h7 h82 h83 hx => (g3 x hx).trans (fr x h5 h6 h7 h82 h83 hx)
    refine c_tryTrial (t := tr) (e := e) (r := f_row M p k (G k)) (N := N) (M := M) (q_K0_to hK (g3t 0 (by omega) (by omega) (by omega) (by omega) (by omega) (by omega)) (g3t 1 (by omega) (by omega) (by omega) (by omega) (by omega) (by omega))) (fun u hu => c_A_to (ha u hu) (fun x h1 h2 => g3t x (by omega) (by omega) (by omega) (by omega) (by omega) (by omega)) rfl (q_eu_rf _ _)) (hL.tr) (hL.ts) (hl) (hJ) (hwf) (s_R_e a3 hri (f_row_e M p k (G k))) (Or.inl (s_S_e b3 (f_row_e M p k (G k)))) (q_RI_e (f_row_e M p k (G k)) hri) (fun I4 z g4 => ?_) (fun I4 z a4 b4 c4 g4 => ?_)
    · skip
      show q_W L (d + 6) 65 q_m65 Q 34 [some (.ref 3), some (.ref le), some (.ref (160 + 2 * p)), some (.int ans), some (.int (nI k)), none] [.int ((f_try M N e a b (f_row M p k (G k))).1)] (n, I4, J, R) 0 0
      obtain ⟨gv, egv⟩ : ∃ z, z = (f_try M N e a b (f_row M p k (G k))).1 := ⟨_, rfl⟩
      rw [← egv]
      have hz' : ¬ gv = 0 := by rw [egv]; exact z
      have fr4 : ∀ x, x ≠ 5 → x ≠ 6 → x ≠ 7 → x ≠ 82 → x ≠ 83 → (x < tr ∨ tr + 10 ≤ x) → I4 x = I x := fun x h5 h6 h7 h82 h83 hx => (g4 x h5 h6 h7 h82 h83 hx).trans (g3t x h5 h6 h7 h82 h83 hx)
      show q_W L (d + 6) 65 q_m65 Q 34 [some (.ref 3), some (.ref le), some (.ref (160 + 2 * p)), some (.int ans), some (.int (nI k)), none] [.int gv] (n, I4, J, R) 0 0
      refine q_k 2 ?_
      show q_W L (d + 6) 65 q_m65 Q 38 [some (.ref 3), some (.ref le), some (.ref (160 + 2 * p)), some (.int ans), some (.int (nI k)), some (.int gv)] [.int gv] (n, I4, J, R) 0 0
      refine q_one rfl rfl ?_
      show (¬ gv = 0 → q_W L (d + 6) 65 q_m65 Q 63 [some (.ref 3), some (.ref le), some (.ref (160 + 2 * p)), some (.int ans), some (.int (nI k)), some (.int gv)] [] (n, I4, J, R) 0 0) ∧ (gv = 0 → q_W L (d + 6) 65 q_m65 Q 41 [some (.ref 3), some (.ref le), some (.ref (160 + 2 * p)), some (.int ans), some (.int (nI k)), some (.int gv)] [] (n, I4, J, R) 0 0)
      refine ⟨fun _ => ?_, fun z => absurd z (hz')⟩
      refine q_k 1 ?_
      show q_W L (d + 6) 65 q_m65 Q 65 [some (.ref 3), some (.ref le), some (.ref (160 + 2 * p)), some (.int ans), some (.int (nI k)), some (.int gv)] [.int (nI k)] (n, I4, J, R) 0 0
      refine q_one rfl rfl ?_
      show (¬ (nI k) = 0 → q_W L (d + 6) 65 q_m65 Q 71 [some (.ref 3), some (.ref le), some (.ref (160 + 2 * p)), some (.int ans), some (.int (nI k)), some (.int gv)] [] (n, I4, J, R) 0 0) ∧ ((nI k) = 0 → q_W L (d + 6) 65 q_m65 Q 68 [some (.ref 3), some (.ref le), some (.ref (160 + 2 * p)), some (.int ans), some (.int (nI k)), some (.int gv)] [] (n, I4, J, R) 0 0)
      refine ⟨fun h65 => ?_, fun h65 => ?_⟩
      · skip
        refine q_k 1 ?_
        show q_W L (d + 6) 65 q_m65 Q 74 [some (.ref 3), some (.ref le), some (.ref (160 + 2 * p)), some (.int ans), some (.int ((nI k) + nI 1)), some (.int gv)] [] (n, I4, J, R) 0 0
        rw [show (nI k) + nI 1 = nI (k + 1) from nI_add _ _]
        refine q_k 1 ?_
        show q_W L (d + 6) 65 q_m65 Q 6 [some (.ref 3), some (.ref le), some (.ref (160 + 2 * p)), some (.int ans), some (.int (nI (k + 1))), some (.int gv)] [] (n, I4, J, R) 0 0
        refine q_fg 5 ?_
        show q_W L (d + 6) 65 q_m65 Q 6 [some (.ref 3), some (.ref le), some (.ref (160 + 2 * p)), some (.int ans), some (.int (nI (k + 1))), none] [] (n, I4, J, R) 0 0
        exact ih (k + 1) ans I4 (by omega) fr4 (by rw [← hF, f_fur_no z, if_neg (fun q => h65 (by rw [q]; rfl))])
      · skip
        refine q_k 3 ?_
        show q_W L (d + 6) 65 q_m65 Q 74 [some (.ref 3), some (.ref le), some (.ref (160 + 2 * p)), some (.int gv), some (.int ((nI k) + nI 1)), some (.int gv)] [] (n, I4, J, R) 0 0
        rw [show (nI k) + nI 1 = nI (k + 1) from nI_add _ _]
        refine q_k 1 ?_
        show q_W L (d + 6) 65 q_m65 Q 6 [some (.ref 3), some (.ref le), some (.ref (160 + 2 * p)), some (.int gv), some (.int (nI (k + 1))), some (.int gv)] [] (n, I4, J, R) 0 0
        refine q_fg 5 ?_
        show q_W L (d + 6) 65 q_m65 Q 6 [some (.ref 3), some (.ref le), some (.ref (160 + 2 * p)), some (.int gv), some (.int (nI (k + 1))), none] [] (n, I4, J, R) 0 0
        exact ih (k + 1) gv I4 (by omega) fr4 (by rw [← hF, f_fur_no z, if_pos ((nI_eq (by omega) (by decide)).mp h65), egv])
    · skip
      show q_W L (d + 6) 65 q_m65 Q 34 [some (.ref 3), some (.ref le), some (.ref (160 + 2 * p)), some (.int ans), some (.int (nI k)), none] [.int (nI 0)] (n, I4, q_up J 3 5 (J le 10 ^^^ g_wide (f_try M N e a b (f_row M p k (G k))).2.2.1 (nI 9) (nI 0) (nI 0) (nI 0)), R) 0 0
      have fr4 : ∀ x, x ≠ 5 → x ≠ 6 → x ≠ 7 → x ≠ 82 → x ≠ 83 → x ≠ 84 + 19 * b → (x < tr ∨ tr + 10 ≤ x) → I4 x = I x := fun x h5 h6 h7 h82 h83 hb hx => (g4 x h5 h6 h7 h82 h83 hb hx).trans (g3t x h5 h6 h7 h82 h83 hx)
      obtain ⟨rr, hrk, hrn⟩ : ∃ rr : Nat → Nat, rr k = tr ∧ ∀ i, i ≠ k → rr i = ss p i := ⟨fun i => if i = k then tr else ss p i, if_pos rfl, fun i hi => if_neg hi⟩
      refine q_k 2 ?_
      show q_W L (d + 6) 65 q_m65 Q 38 [some (.ref 3), some (.ref le), some (.ref (160 + 2 * p)), some (.int ans), some (.int (nI k)), some (.int (nI 0))] [.int (nI 0)] (n, I4, q_up J 3 5 (J le 10 ^^^ g_wide (f_try M N e a b (f_row M p k (G k))).2.2.1 (nI 9) (nI 0) (nI 0) (nI 0)), R) 0 0
      refine q_one rfl rfl ?_
      show (¬ (nI 0) = 0 → q_W L (d + 6) 65 q_m65 Q 63 [some (.ref 3), some (.ref le), some (.ref (160 + 2 * p)), some (.int ans), some (.int (nI k)), some (.int (nI 0))] [] (n, I4, q_up J 3 5 (J le 10 ^^^ g_wide (f_try M N e a b (f_row M p k (G k))).2.2.1 (nI 9) (nI 0) (nI 0) (nI 0)), R) 0 0) ∧ ((nI 0) = 0 → q_W L (d + 6) 65 q_m65 Q 41 [some (.ref 3), some (.ref le), some (.ref (160 + 2 * p)), some (.int ans), some (.int (nI k)), some (.int (nI 0))] [] (n, I4, q_up J 3 5 (J le 10 ^^^ g_wide (f_try M N e a b (f_row M p k (G k))).2.2.1 (nI 9) (nI 0) (nI 0) (nI 0)), R) 0 0)
      refine ⟨fun z => absurd (by decide) z, fun _ => ?_⟩
      refine q_k 4 ?_
      show q_W L (d + 6) 65 q_m65 Q 46 [some (.ref 3), some (.ref le), some (.ref (160 + 2 * p)), some (.int ans), some (.int (nI k)), some (.int (nI 0))] [.ref 3, .int (nI k), .ref (160 + 2 * p), .ref 3] (n, I4, q_up J 3 5 (J le 10 ^^^ g_wide (f_try M N e a b (f_row M p k (G k))).2.2.1 (nI 9) (nI 0) (nI 0) (nI 0)), R) 0 0
      refine q_gR (b := tr) rfl rfl (⟨Nat.lt_of_lt_of_le (by decide) hK.1, rfl⟩) (hL.tr) ?_
      refine q_cv (as := [.int (nI k), .ref tr]) (rs := [.ref 3]) rfl rfl rfl (q_obL hK.1 hp) rfl rfl ?_
      refine c_exchange (s := 160 + 2 * p) (o := ss p k) (q_obL hK.1 hp) (hK.2.1 _ _ _ (q_fxL p hp)) (q_arL hK.1 hp) (by omega) (hL.rw p k hp hk).1 hL.ts.ob ?_
      show q_W L (d + 6) 65 q_m65 Q 52 [some (.ref 3), some (.ref le), some (.ref (160 + 2 * p)), some (.int ans), some (.int (nI k)), some (.int (nI 0))] [.ref (ss p k), .ref 3] (n, I4, q_up J 3 5 (J le 10 ^^^ g_wide (f_try M N e a b (f_row M p k (G k))).2.2.1 (nI 9) (nI 0) (nI 0) (nI 0)), q_up R (160 + 2 * p + 1) k (some tr)) 0 0
      refine q_pR rfl rfl rfl (⟨Nat.lt_of_lt_of_le (by decide) hK.1, rfl⟩) ?_
      obtain ⟨R2, eR2⟩ : ∃ zz9, zz9 = q_up (q_up R (160 + 2 * p + 1) k (some tr)) 3 6 (some (ss p k)) := ⟨_, rfl⟩
      rw [← eR2]
      refine q_k 2 ?_
      show q_W L (d + 6) 65 q_m65 Q 58 [some (.ref 3), some (.ref le), some (.ref (160 + 2 * p)), some (.int ans), some (.int (nI k)), some (.int (nI 0))] [.int (nI k), .ref (160 + 2 * p)] (n, I4, q_up J 3 5 (J le 10 ^^^ g_wide (f_try M N e a b (f_row M p k (G k))).2.2.1 (nI 9) (nI 0) (nI 0) (nI 0)), R2) 0 0
      refine q_cv (as := [.int (nI k)]) (rs := []) rfl rfl rfl (q_obL hK.1 hp) rfl rfl ?_
      have hrr : ∀ i, i ≤ k → R2 (160 + 2 * p + 1) i = some (rr i) ∧ q_ob n (rr i) 5 := by
        intro i hi
        by_cases e1 : i = k
        · rw [e1, hrk]; exact ⟨by rw [eR2, q_un (by omega), q_usk], hL.ts.ob⟩
        · rw [hrn i e1]; exact ⟨by rw [eR2, q_un (by omega), q_usn e1]; exact (hL.rw p i hp (by omega)).1, (hL.se hp (show i < mc p by omega)).ob⟩
      refine c_moveToFront (s := 160 + 2 * p) (k := k) (rr := rr) (q_obL hK.1 hp) (by rw [eR2, q_un (by omega), q_un (by omega)]; exact hK.2.1 _ _ _ (q_fxL p hp)) (q_arL hK.1 hp) (by omega) (hrr) (fun R3 x3 y3 z3 w3 => ?_)
      show q_W L (d + 6) 65 q_m65 Q 61 [some (.ref 3), some (.ref le), some (.ref (160 + 2 * p)), some (.int ans), some (.int (nI k)), some (.int (nI 0))] [] (n, I4, q_up J 3 5 (J le 10 ^^^ g_wide (f_try M N e a b (f_row M p k (G k))).2.2.1 (nI 9) (nI 0) (nI 0) (nI 0)), R3) 0 0
      refine q_k 1 ?_
      show q_W L (d + 6) 65 q_m65 Q 62 [some (.ref 3), some (.ref le), some (.ref (160 + 2 * p)), some (.int ans), some (.int (nI k)), some (.int (nI 0))] [.int (nI 0)] (n, I4, q_up J 3 5 (J le 10 ^^^ g_wide (f_try M N e a b (f_row M p k (G k))).2.2.1 (nI 9) (nI 0) (nI 0) (nI 0)), R3) 0 0
      refine q_one rfl rfl ?_
      show Q (some (.int (nI 0))) (n, I4, q_up J 3 5 (J le 10 ^^^ g_wide (f_try M N e a b (f_row M p k (G k))).2.2.1 (nI 9) (nI 0) (nI 0) (nI 0)), R3)
      have hRR : ∀ x, x ≠ 160 + 2 * p + 1 → x ≠ 3 → R3 x = R x := fun x h1 h2 => by rw [w3 x h1, eR2, q_un h2, q_un h1]
      rw [← hF, f_fur_ok z] at hQ
      dsimp only at hQ
      rw [hJ 10 (by decide)]
      obtain ⟨ss2, mc2, hL2⟩ := c_L_mv (I2 := I4) (R2 := R3) (M2 := (f_rows p k (va_up (f_try M N e a b (f_row M p k (G k))).2.1 11 (nI 1)) (f_ok (f_try M N e a b (f_row M p k (G k))) b M))) (tr2 := ss p k) (m2 := mc p) (row := (va_up (f_try M N e a b (f_row M p k (G k))).2.1 11 (nI 1))) hL hK.1 (Nat.le_refl _) hp hk hm3 (Nat.le_of_lt hk) (fun i _ hi => hi) (by rw [w3 3 (by omega), eR2, q_usk]) ((hL.se hp hk).to (Nat.le_refl _) (hRR _ (by omega) (by omega)) (hRR _ (by omega) (by omega))) (hL.rw p k hp hk).2.2 (fun q i hq hi hne he => by obtain ⟨e1, e2⟩ := hL.inj q i p k hq hi hp hk he; rcases hne with z1 | z1; exact z1 e1; exact z1 e2) (by rw [x3, hrk]) (fun i hi => by rw [y3 i hi, hrn i (by omega)]) (fun i hi _ => by rw [z3 i hi, eR2, q_un (by omega), q_usn (by omega)]) (fun x _ hx => hRR x (by omega) (by omega)) (fun x _ hx h2 => fr4 x (by omega) (by omega) (by omega) (by omega) (by omega) (by omega) (by omega)) (by rw [fr4 (160 + 2 * p) (by omega) (by omega) (by omega) (by omega) (by omega) (by omega) (by omega)]; exact (hL.m3 p hp).2.2) a4 b4 (f_try_ri hwf (q_RI_e (f_row_e M p k (G k)) hri) z) (f_rows_c (f_ok_n (by decide)) (fun _ _ => rfl)) (fun q _ => by rw [f_rows_n (by decide), f_ok_n (by decide)]) (by rw [f_rows_n (by decide), f_ok_n (by decide)]; exact (hL.m3 p hp).2.1)
      exact hQ n I4 _ R3 ⟨(q_K0_R (q_K0_to hK (fr4 0 (by omega) (by omega) (by omega) (by omega) (by omega) (by omega) (by omega)) (fr4 1 (by omega) (by omega) (by omega) (by omega) (by omega) (by omega) (by omega))) (Nat.le_refl _) (fun x l => by by_cases x1 : x = 160 + 2 * p + 1; exact Or.inr (by rw [x1]; exact q_fxn1 hp); by_cases x3 : x = 3; subst x3; by_cases l6 : l = 6; exact Or.inr (by rw [l6]; rfl); exact Or.inl (by rw [w3 3 x1, eR2, q_usn l6, q_un x1]); exact Or.inl (by rw [hRR x x1 x3]))), h.nj, fun u hu => c_A_to (c4 u hu) (fun _ _ _ => rfl) (hRR _ (by omega) (by omega)) (fun r l ho => by unfold q_own at ho; rw [f_rows_n (by omega)]), ⟨ss2, mc2, _, hL2⟩, ⟨E, c_E_tx hE (fr4 3 (by omega) (by omega) (by omega) (by omega) (by omega) (by omega) (by omega)) (by rw [f_rows_n (by decide), f_ok_n (by decide)])⟩⟩ (fun x hx => fr4 x (by omega) (by omega) (by omega) (by omega) (by omega) (by omega) (by omega)) ⟨q_un (by decide), q_un (by decide)⟩
theorem k_further {L d n : Nat} {I : q_I} {J : q_L} {R : q_R} {Q : q_Q} {M : q_I} {N : q_L} {ss : Nat → Nat → Nat} {mc : Nat → Nat} {tr p e a b x y le : Nat} {G : Nat → Nat → Int32} (h : CR n I J R M N) (hL : c_L n I R M ss mc tr) (hp : p < 16) (hl : q_ar n le 1 12) (hJ : ∀ k, k < 12 → J le k = N 208 (e + k)) (hwf : q_wf M N e a b x y) (hQ : ∀ n' I' J' R', CR n' I' J' R' ((f_fur G M N e a b p (mc p) 0 (nI 6)).2.1) ((f_fur G M N e a b p (mc p) 0 (nI 6)).2.2) → q_nmf I' I → (J' 208 = J 208 ∧ J' 192 = J 192) → Q (some (.int (f_fur G M N e a b p (mc p) 0 (nI 6)).1)) (n', I', J', R')) : q_Ex L (d + 7) 65 [.ref 3, .ref le, .ref (160 + 2 * p)] (n, I, J, R) Q := by
  refine q_in (x := q_m65) rfl rfl ?_
  show q_W L (d + 6) 65 q_m65 Q 0 [some (.ref 3), some (.ref le), some (.ref (160 + 2 * p)), none, none, none] [] (n, I, J, R) 0 0
  refine q_k 4 ?_
  show q_W L (d + 6) 65 q_m65 Q 6 [some (.ref 3), some (.ref le), some (.ref (160 + 2 * p)), some (.int (nI 6)), some (.int (nI 0)), none] [] (n, I, J, R) 0 0
  exact k_further_loop h hL hp hl hJ hwf hQ (mc p) 0 (nI 6) I (by omega) (fun _ _ _ _ _ _ _ => rfl) rfl
set_option maxHeartbeats 4000000 in
theorem k_at {L d n : Nat} {I : q_I} {J : q_L} {R : q_R} {Q : q_Q} {M : q_I} {N : q_L} {ss : Nat → Nat → Nat} {mc : Nat → Nat} {tr p e a b x y le : Nat} {k : Nat} {g : Nat → Int32} (h : CR n I J R M N) (hL : c_L n I R M ss mc tr) (hp : p < 16) (hl : q_ar n le 1 12) (hJ : ∀ k, k < 12 → J le k = N 208 (e + k)) (hwf : q_wf M N e a b x y) (hk : k < mc p) (hQ : ∀ n' I' J' R', CR n' I' J' R' ((f_at g M N e a b p k).2.1) ((f_at g M N e a b p k).2.2) → q_nmf I' I → (J' 208 = J 208 ∧ J' 192 = J 192) → Q (some (.int (f_at g M N e a b p k).1)) (n', I', J', R')) : q_Ex L (d + 7) 66 [.ref 3, .ref le, .ref (160 + 2 * p), .int (nI k)] (n, I, J, R) Q := by
  refine q_in (x := q_m66) rfl rfl ?_
  show q_W L (d + 6) 66 q_m66 Q 0 [some (.ref 3), some (.ref le), some (.ref (160 + 2 * p)), some (.int (nI k)), none] [] (n, I, J, R) 0 0
  have hK := h.K
  have ha := h.ac
  have htg := hL.ts.ge
  have hm3 := (hL.m3 p hp).1
  obtain ⟨E, hE⟩ := h.en
  have h4b := hwf.hb
  have fr : (∀ x, x ≠ 5 → x ≠ 6 → x ≠ 7 → x ≠ 82 → x ≠ 83 → (x < tr ∨ tr + 10 ≤ x) → I x = I x) := fun _ _ _ _ _ _ _ => rfl
  obtain ⟨hsr, hss, hri⟩ := hL.re p k hp hk
  obtain ⟨⟨c, hc12, hc⟩, -⟩ := id hri
  have hfar := (hL.se hp hk).far hL.ts (hL.rw p k hp hk).2.2
  have hb1 := (hL.se hp hk).ge
  refine q_k 1 ?_
  show q_W L (d + 6) 66 q_m66 Q 1 [some (.ref 3), some (.ref le), some (.ref (160 + 2 * p)), some (.int (nI k)), none] [.ref 3] (n, I, J, R) 0 0
  refine q_gR (b := tr) rfl rfl (⟨Nat.lt_of_lt_of_le (by decide) hK.1, rfl⟩) (hL.tr) ?_
  refine q_k 1 ?_
  show q_W L (d + 6) 66 q_m66 Q 5 [some (.ref 3), some (.ref le), some (.ref (160 + 2 * p)), some (.int (nI k)), none] [.ref (160 + 2 * p), .ref tr] (n, I, J, R) 0 0
  refine q_gR (b := (160 + 2 * p + 1)) rfl rfl (q_obL hK.1 hp) (hK.2.1 _ _ _ (q_fxL p hp)) ?_
  refine q_k 1 ?_
  show q_W L (d + 6) 66 q_m66 Q 9 [some (.ref 3), some (.ref le), some (.ref (160 + 2 * p)), some (.int (nI k)), none] [.int (nI k), .ref (160 + 2 * p + 1), .ref tr] (n, I, J, R) 0 0
  refine q_aal (m := k) (b := (ss p k)) rfl (q_arL hK.1 hp) ⟨rfl, rfl⟩ (by omega) rfl ((hL.rw p k hp hk).1) ?_
  refine q_cv (as := [.ref (ss p k)]) (rs := []) rfl rfl rfl (hL.ts.ob) rfl rfl ?_
  refine c_become (t := tr) (o := ss p k) (c := c) (hL.ts) (hL.se hp hk) (Ne.symm (hL.rw p k hp hk).2.2) (s_R_to hsr (fun x h1 h2 => fr x (by omega) (by omega) (by omega) (by omega) (by omega) (by omega))) (s_S_to hss (fun x h1 h2 => fr x (by omega) (by omega) (by omega) (by omega) (by omega) (by omega))) (hc) (by omega) (fun I3 a3 b3 g3 => ?_)
  show q_W L (d + 6) 66 q_m66 Q 13 [some (.ref 3), some (.ref le), some (.ref (160 + 2 * p)), some (.int (nI k)), none] [] (n, I3, J, R) 0 0
  refine q_k 2 ?_
  show q_W L (d + 6) 66 q_m66 Q 15 [some (.ref 3), some (.ref le), some (.ref (160 + 2 * p)), some (.int (nI k)), none] [.ref le, .ref 3] (n, I3, J, R) 0 0
  refine q_cv (as := [.ref le]) (rs := []) rfl rfl rfl (⟨Nat.lt_of_lt_of_le (by decide) hK.1, rfl⟩) rfl rfl ?_
  have g3t : ∀ x, x ≠ 5 → x ≠ 6 → x ≠ 7 → x ≠ 82 → x ≠ 83 → (x < tr ∨ tr + 10 ≤ x) → I3 x = I x := fun x h5 h6 h7 h82 h83 hx => (g3 x hx).trans (fr x h5 h6 h7 h82 h83 hx)
  refine c_tryTrial (t := tr) (e := e) (r := f_row M p k g) (N := N) (M := M) (q_K0_to hK (g3t 0 (by omega) (by omega) (by omega) (by omega) (by omega) (by omega)) (g3t 1 (by omega) (by omega) (by omega) (by omega) (by omega) (by omega))) (fun u hu => c_A_to (ha u hu) (fun x h1 h2 => g3t x (by omega) (by omega) (by omega) (by omega) (by omega) (by omega)) rfl (q_eu_rf _ _)) (hL.tr) (hL.ts) (hl) (hJ) (hwf) (s_R_e a3 hri (f_row_e M p k g)) (Or.inl (s_S_e b3 (f_row_e M p k g))) (q_RI_e (f_row_e M p k g) hri) (fun I4 z g4 => ?_) (fun I4 z a4 b4 c4 g4 => ?_)
  · skip
    show q_W L (d + 6) 66 q_m66 Q 18 [some (.ref 3), some (.ref le), some (.ref (160 + 2 * p)), some (.int (nI k)), none] [.int ((f_try M N e a b (f_row M p k g)).1)] (n, I4, J, R) 0 0
    obtain ⟨gv, egv⟩ : ∃ z, z = (f_try M N e a b (f_row M p k g)).1 := ⟨_, rfl⟩
    rw [← egv]
    have hz' : ¬ gv = 0 := by rw [egv]; exact z
    have fr4 : ∀ x, x ≠ 5 → x ≠ 6 → x ≠ 7 → x ≠ 82 → x ≠ 83 → (x < tr ∨ tr + 10 ≤ x) → I4 x = I x := fun x h5 h6 h7 h82 h83 hx => (g4 x h5 h6 h7 h82 h83 hx).trans (g3t x h5 h6 h7 h82 h83 hx)
    show q_W L (d + 6) 66 q_m66 Q 18 [some (.ref 3), some (.ref le), some (.ref (160 + 2 * p)), some (.int (nI k)), none] [.int gv] (n, I4, J, R) 0 0
    refine q_k 2 ?_
    show q_W L (d + 6) 66 q_m66 Q 22 [some (.ref 3), some (.ref le), some (.ref (160 + 2 * p)), some (.int (nI k)), some (.int gv)] [.int gv] (n, I4, J, R) 0 0
    refine q_one rfl rfl ?_
    show (¬ gv = 0 → q_W L (d + 6) 66 q_m66 Q 38 [some (.ref 3), some (.ref le), some (.ref (160 + 2 * p)), some (.int (nI k)), some (.int gv)] [] (n, I4, J, R) 0 0) ∧ (gv = 0 → q_W L (d + 6) 66 q_m66 Q 25 [some (.ref 3), some (.ref le), some (.ref (160 + 2 * p)), some (.int (nI k)), some (.int gv)] [] (n, I4, J, R) 0 0)
    refine ⟨fun _ => ?_, fun z => absurd z (hz')⟩
    refine q_k 1 ?_
    show q_W L (d + 6) 66 q_m66 Q 40 [some (.ref 3), some (.ref le), some (.ref (160 + 2 * p)), some (.int (nI k)), some (.int gv)] [.int gv] (n, I4, J, R) 0 0
    refine q_one rfl rfl ?_
    show Q (some (.int gv)) (n, I4, J, R)
    rw [show f_at g M N e a b p k = ((f_try M N e a b (f_row M p k g)).1, M, N) by unfold f_at; rw [if_neg z]] at hQ
    dsimp only at hQ
    obtain ⟨c1, c2⟩ := CR_frt h hL (fun x h5 h6 h7 _ h82 h83 hx => fr4 x h5 h6 h7 h82 h83 hx)
    rw [egv]
    exact hQ n I4 J R c1 c2 ⟨rfl, rfl⟩
  · skip
    show q_W L (d + 6) 66 q_m66 Q 18 [some (.ref 3), some (.ref le), some (.ref (160 + 2 * p)), some (.int (nI k)), none] [.int (nI 0)] (n, I4, q_up J 3 5 (J le 10 ^^^ g_wide (f_try M N e a b (f_row M p k g)).2.2.1 (nI 9) (nI 0) (nI 0) (nI 0)), R) 0 0
    have fr4 : ∀ x, x ≠ 5 → x ≠ 6 → x ≠ 7 → x ≠ 82 → x ≠ 83 → x ≠ 84 + 19 * b → (x < tr ∨ tr + 10 ≤ x) → I4 x = I x := fun x h5 h6 h7 h82 h83 hb hx => (g4 x h5 h6 h7 h82 h83 hb hx).trans (g3t x h5 h6 h7 h82 h83 hx)
    refine q_k 2 ?_
    show q_W L (d + 6) 66 q_m66 Q 22 [some (.ref 3), some (.ref le), some (.ref (160 + 2 * p)), some (.int (nI k)), some (.int (nI 0))] [.int (nI 0)] (n, I4, q_up J 3 5 (J le 10 ^^^ g_wide (f_try M N e a b (f_row M p k g)).2.2.1 (nI 9) (nI 0) (nI 0) (nI 0)), R) 0 0
    refine q_one rfl rfl ?_
    show (¬ (nI 0) = 0 → q_W L (d + 6) 66 q_m66 Q 38 [some (.ref 3), some (.ref le), some (.ref (160 + 2 * p)), some (.int (nI k)), some (.int (nI 0))] [] (n, I4, q_up J 3 5 (J le 10 ^^^ g_wide (f_try M N e a b (f_row M p k g)).2.2.1 (nI 9) (nI 0) (nI 0) (nI 0)), R) 0 0) ∧ ((nI 0) = 0 → q_W L (d + 6) 66 q_m66 Q 25 [some (.ref 3), some (.ref le), some (.ref (160 + 2 * p)), some (.int (nI k)), some (.int (nI 0))] [] (n, I4, q_up J 3 5 (J le 10 ^^^ g_wide (f_try M N e a b (f_row M p k g)).2.2.1 (nI 9) (nI 0) (nI 0) (nI 0)), R) 0 0)
    refine ⟨fun z => absurd (by decide) z, fun _ => ?_⟩
    refine q_k 4 ?_
    show q_W L (d + 6) 66 q_m66 Q 29 [some (.ref 3), some (.ref le), some (.ref (160 + 2 * p)), some (.int (nI k)), some (.int (nI 0))] [.ref 3, .int (nI k), .ref (160 + 2 * p), .ref 3] (n, I4, q_up J 3 5 (J le 10 ^^^ g_wide (f_try M N e a b (f_row M p k g)).2.2.1 (nI 9) (nI 0) (nI 0) (nI 0)), R) 0 0
    refine q_gR (b := tr) rfl rfl (⟨Nat.lt_of_lt_of_le (by decide) hK.1, rfl⟩) (hL.tr) ?_
    refine q_cv (as := [.int (nI k), .ref tr]) (rs := [.ref 3]) rfl rfl rfl (q_obL hK.1 hp) rfl rfl ?_
    refine c_exchange (s := 160 + 2 * p) (o := ss p k) (q_obL hK.1 hp) (hK.2.1 _ _ _ (q_fxL p hp)) (q_arL hK.1 hp) (by omega) (hL.rw p k hp hk).1 hL.ts.ob ?_
    show q_W L (d + 6) 66 q_m66 Q 35 [some (.ref 3), some (.ref le), some (.ref (160 + 2 * p)), some (.int (nI k)), some (.int (nI 0))] [.ref (ss p k), .ref 3] (n, I4, q_up J 3 5 (J le 10 ^^^ g_wide (f_try M N e a b (f_row M p k g)).2.2.1 (nI 9) (nI 0) (nI 0) (nI 0)), q_up R (160 + 2 * p + 1) k (some tr)) 0 0
    refine q_pR rfl rfl rfl (⟨Nat.lt_of_lt_of_le (by decide) hK.1, rfl⟩) ?_
    obtain ⟨R2, eR2⟩ : ∃ zz9, zz9 = q_up (q_up R (160 + 2 * p + 1) k (some tr)) 3 6 (some (ss p k)) := ⟨_, rfl⟩
    rw [← eR2]
    refine q_k 1 ?_
    show q_W L (d + 6) 66 q_m66 Q 40 [some (.ref 3), some (.ref le), some (.ref (160 + 2 * p)), some (.int (nI k)), some (.int (nI 0))] [.int (nI 0)] (n, I4, q_up J 3 5 (J le 10 ^^^ g_wide (f_try M N e a b (f_row M p k g)).2.2.1 (nI 9) (nI 0) (nI 0) (nI 0)), R2) 0 0
    refine q_one rfl rfl ?_
    show Q (some (.int (nI 0))) (n, I4, q_up J 3 5 (J le 10 ^^^ g_wide (f_try M N e a b (f_row M p k g)).2.2.1 (nI 9) (nI 0) (nI 0) (nI 0)), R2)
    have hRR : ∀ x, x ≠ 160 + 2 * p + 1 → x ≠ 3 → R2 x = R x := fun x h1 h2 => by rw [eR2, q_un h2, q_un h1]
    rw [show f_at g M N e a b p k = (nI 0, (f_save p k (va_up (f_try M N e a b (f_row M p k g)).2.1 11 (nI 1)) (f_ok (f_try M N e a b (f_row M p k g)) b M)), f_tx N e (f_try M N e a b (f_row M p k g))) by unfold f_at; rw [if_pos z]] at hQ
    dsimp only at hQ
    rw [hJ 10 (by decide)]
    obtain ⟨ss2, mc2, hL2⟩ := c_L_ex (I2 := I4) (R2 := R2) (M2 := (f_save p k (va_up (f_try M N e a b (f_row M p k g)).2.1 11 (nI 1)) (f_ok (f_try M N e a b (f_row M p k g)) b M))) (row := (va_up (f_try M N e a b (f_row M p k g)).2.1 11 (nI 1))) hL hK.1 hp hk (by rw [eR2, q_usk]) (by rw [eR2, q_un (by omega), q_usk]) (fun i hi => by rw [eR2, q_un (by omega), q_usn hi]) (fun x _ hx => hRR x (by omega) (by omega)) (fun x _ hx h2 => fr4 x (by omega) (by omega) (by omega) (by omega) (by omega) (by omega) (by omega)) a4 b4 (f_try_ri hwf (q_RI_e (f_row_e M p k g) hri) z) (by funext l; rw [f_save_205, f_save_205, f_ok_n (by decide)]) (by rw [f_save_n (by decide), f_ok_n (by decide)])
    exact hQ n I4 _ R2 ⟨(q_K0_R (q_K0_to hK (fr4 0 (by omega) (by omega) (by omega) (by omega) (by omega) (by omega) (by omega)) (fr4 1 (by omega) (by omega) (by omega) (by omega) (by omega) (by omega) (by omega))) (Nat.le_refl _) (fun x l => by by_cases x1 : x = 160 + 2 * p + 1; exact Or.inr (by rw [x1]; exact q_fxn1 hp); by_cases x3 : x = 3; subst x3; by_cases l6 : l = 6; exact Or.inr (by rw [l6]; rfl); exact Or.inl (by rw [eR2, q_usn l6, q_un x1]); exact Or.inl (by rw [hRR x x1 x3]))), h.nj, fun u hu => c_A_to (c4 u hu) (fun _ _ _ => rfl) (hRR _ (by omega) (by omega)) (fun r l ho => by unfold q_own at ho; rw [f_save_n (by omega)]), ⟨ss2, mc2, _, hL2⟩, ⟨E, c_E_tx hE (fr4 3 (by omega) (by omega) (by omega) (by omega) (by omega) (by omega) (by omega)) (by rw [f_save_n (by decide), f_ok_n (by decide)])⟩⟩ (fun x hx => fr4 x (by omega) (by omega) (by omega) (by omega) (by omega) (by omega) (by omega)) ⟨q_un (by decide), q_un (by decide)⟩
