set_option maxHeartbeats 4000000 in
theorem k_new {L d n : Nat} {I : q_I} {J : q_L} {R : q_R} {Q : q_Q} {M : q_I} {N : q_L} {ss : Nat → Nat → Nat} {mc : Nat → Nat} {tr p e a b x y le c : Nat} {g : Nat → Int32} (h : CR n I J R M N) (hL : c_L n I R M ss mc tr) (hp : p < 16) (hl : q_ar n le 1 12) (hJ : ∀ k, k < 12 → J le k = N 208 (e + k)) (hwf : q_wf M N e a b x y) (hkd : N 208 (e + 2) = lN 0) (hM1 : M 201 b = nI c) (hc10 : c ≤ 10) (hQ : ∀ n' I' J' R', CR n' I' J' R' ((f_begun g M N e a b p (mc p) c).2.1) ((f_begun g M N e a b p (mc p) c).2.2) → q_nmf I' I → (J' 208 = J 208 ∧ J' 192 = J 192) → Q (some (.int (f_begun g M N e a b p (mc p) c).1)) (n', I', J', R')) : q_Ex L (d + 7) 67 [.ref 3, .ref le, .ref (160 + 2 * p)] (n, I, J, R) Q := by
  refine q_in (x := q_m67) rfl rfl ?_
  show q_W L (d + 6) 67 q_m67 Q 0 [some (.ref 3), some (.ref le), some (.ref (160 + 2 * p)), none, none, none, none, none] [] (n, I, J, R) 0 0
  have hK := h.K
  have ha := h.ac
  have h4b := hwf.hb
  have hA := q_Ac_of hK h4b
  have hcA := ha b h4b
  refine q_k 1 ?_
  show q_W L (d + 6) 67 q_m67 Q 1 [some (.ref 3), some (.ref le), some (.ref (160 + 2 * p)), none, none, none, none, none] [.ref 3] (n, I, J, R) 0 0
  refine q_gR (b := 8) rfl rfl (⟨Nat.lt_of_lt_of_le (by decide) hK.1, rfl⟩) (hK.2.1 3 1 8 rfl) ?_
  refine q_k 2 ?_
  show q_W L (d + 6) 67 q_m67 Q 6 [some (.ref 3), some (.ref le), some (.ref (160 + 2 * p)), none, none, none, none, none] [.int (nI 1), .ref le, .ref 8] (n, I, J, R) 0 0
  refine q_lal (m := 1) rfl (hl) (by decide) (rfl) ?_
  refine q_k 1 ?_
  show q_W L (d + 6) 67 q_m67 Q 8 [some (.ref 3), some (.ref le), some (.ref (160 + 2 * p)), none, none, none, none, none] [.int ((J le 1).toInt32), .ref 8] (n, I, J, R) 0 0
  refine q_top (w := nI b) (by rw [hJ 1 (by decide), hwf.fb]; exact lN_i _) ?_
  refine q_aal (m := b) (b := (84 + 19 * b)) rfl (⟨by decide, Nat.lt_of_lt_of_le (by decide) hK.1, rfl⟩) ⟨rfl, rfl⟩ (h4b) rfl (hK.2.1 8 b _ (q_fx8 b h4b)) ?_
  refine q_k 3 ?_
  show q_W L (d + 6) 67 q_m67 Q 13 [some (.ref 3), some (.ref le), some (.ref (160 + 2 * p)), some (.ref (84 + 19 * b)), none, none, none, none] [.int (nI 6), .ref le] (n, I, J, R) 0 0
  refine q_lal (m := 6) rfl (hl) (by decide) (rfl) ?_
  refine q_k 2 ?_
  show q_W L (d + 6) 67 q_m67 Q 16 [some (.ref 3), some (.ref le), some (.ref (160 + 2 * p)), some (.ref (84 + 19 * b)), none, none, none, none] [.int (lg_cmp (J le 6) (lN 0))] (n, I, J, R) 0 0
  refine q_one rfl rfl ?_
  show ((lg_cmp (J le 6) (lN 0)) = 0 → q_W L (d + 6) 67 q_m67 Q 23 [some (.ref 3), some (.ref le), some (.ref (160 + 2 * p)), some (.ref (84 + 19 * b)), none, none, none, none] [] (n, I, J, R) 0 0) ∧ (¬ (lg_cmp (J le 6) (lN 0)) = 0 → q_W L (d + 6) 67 q_m67 Q 19 [some (.ref 3), some (.ref le), some (.ref (160 + 2 * p)), some (.ref (84 + 19 * b)), none, none, none, none] [] (n, I, J, R) 0 0)
  refine ⟨fun h16 => ?_, fun h16 => ?_⟩
  · skip
    rw [lg_cmp_eq] at h16
    refine q_k 5 ?_
    show q_W L (d + 6) 67 q_m67 Q 30 [some (.ref 3), some (.ref le), some (.ref (160 + 2 * p)), some (.ref (84 + 19 * b)), some (.int (nI 0)), none, none, none] [.int (nI 6), .ref le, .ref (84 + 19 * b)] (n, I, J, R) 0 0
    refine q_lal (m := 6) rfl (hl) (by decide) (rfl) ?_
    refine q_cv (as := [.long (J le 6)]) (rs := []) rfl rfl rfl ((q_Ac_of hK h4b).ob) rfl rfl ?_
    refine c_placeOfOneTime (M := M) (u := b) (c := c) (hA) (hcA) (hM1) (hc10) (fun k hk hg => ?_) (fun hg => ?_)
    · skip
      show q_W L (d + 6) 67 q_m67 Q 34 [some (.ref 3), some (.ref le), some (.ref (160 + 2 * p)), some (.ref (84 + 19 * b)), some (.int (nI 0)), none, none, none] [.int (nI k)] (n, I, J, R) 0 0
      rw [hJ 6 (by decide)] at hg
      have hit : f_it M N e b c = k := hg
      have hg2 := (g_first_s (f_hit M N e b) c).2.2
      rw [show g_first (f_hit M N e b) c = k from hit] at hg2
      have hb6 := of_decide_eq_true (hg2 hk)
      rw [← hJ 6 (by decide), h16] at hb6
      obtain ⟨c0, pr, hc0, hM1b, -, hpr, hpi, hpv⟩ := hcA.once
      have ecc : c0 = c := (nI_eq (by omega) (by omega)).mp (hM1b.symm.trans hM1)
      exact absurd (q_il hb6) (hpv k (by omega)).2.2
    · skip
      show q_W L (d + 6) 67 q_m67 Q 34 [some (.ref 3), some (.ref le), some (.ref (160 + 2 * p)), some (.ref (84 + 19 * b)), some (.int (nI 0)), none, none, none] [.int (-1)] (n, I, J, R) 0 0
      rw [hJ 6 (by decide)] at hg
      have hit : ¬ f_it M N e b c < c := by rw [show f_it M N e b c = c from hg]; exact Nat.lt_irrefl _
      have hN6 : N 208 (e + 6) = lN 0 := (hJ 6 (by decide)).symm.trans h16
      refine q_k 4 ?_
      show q_W L (d + 6) 67 q_m67 Q 39 [some (.ref 3), some (.ref le), some (.ref (160 + 2 * p)), some (.ref (84 + 19 * b)), some (.int (nI 0)), some (.int (-1)), none, none] [.int (nI 5), .ref le, .ref (84 + 19 * b)] (n, I, J, R) 0 0
      refine q_lal (m := 5) rfl (hl) (by decide) (rfl) ?_
      refine q_cv (as := [.long (J le 5)]) (rs := []) rfl rfl rfl ((q_Ac_of hK h4b).ob) rfl rfl ?_
      refine c_hasSigned (M := M) (u := b) (hA) (hcA) (fun hz => ?_) (fun hz hy => ?_) (fun hz hy => ?_)
      · skip
        show q_W L (d + 6) 67 q_m67 Q 43 [some (.ref 3), some (.ref le), some (.ref (160 + 2 * p)), some (.ref (84 + 19 * b)), some (.int (nI 0)), some (.int (-1)), none, none] [.int (nI 1)] (n, I, J, R) 0 0
        have hnow : f_now M N e b = true := decide_eq_true ((hJ 5 (by decide)).symm.trans hz)
        refine q_one rfl rfl ?_
        show ((nI 1) = 0 → q_W L (d + 6) 67 q_m67 Q 57 [some (.ref 3), some (.ref le), some (.ref (160 + 2 * p)), some (.ref (84 + 19 * b)), some (.int (nI 0)), some (.int (-1)), none, none] [] (n, I, J, R) 0 0) ∧ (¬ (nI 1) = 0 → q_W L (d + 6) 67 q_m67 Q 46 [some (.ref 3), some (.ref le), some (.ref (160 + 2 * p)), some (.ref (84 + 19 * b)), some (.int (nI 0)), some (.int (-1)), none, none] [] (n, I, J, R) 0 0)
        refine ⟨fun z => absurd z (by decide), fun _ => ?_⟩
        refine q_k 1 ?_
        show q_W L (d + 6) 67 q_m67 Q 48 [some (.ref 3), some (.ref le), some (.ref (160 + 2 * p)), some (.ref (84 + 19 * b)), some (.int (nI 0)), some (.int (-1)), none, none] [.int (nI 0)] (n, I, J, R) 0 0
        refine q_one rfl rfl ?_
        show ((nI 0) = 0 → q_W L (d + 6) 67 q_m67 Q 59 [some (.ref 3), some (.ref le), some (.ref (160 + 2 * p)), some (.ref (84 + 19 * b)), some (.int (nI 0)), some (.int (-1)), none, none] [] (n, I, J, R) 0 0) ∧ (¬ (nI 0) = 0 → q_W L (d + 6) 67 q_m67 Q 51 [some (.ref 3), some (.ref le), some (.ref (160 + 2 * p)), some (.ref (84 + 19 * b)), some (.int (nI 0)), some (.int (-1)), none, none] [] (n, I, J, R) 0 0)
        refine ⟨fun _ => ?_, fun z => absurd (by decide) z⟩
        rw [show f_begun g M N e a b p (mc p) c = f_beg2 g M N e a b p (mc p) c by unfold f_begun; rw [if_neg (fun w => by rcases w with ⟨w1, w2⟩ | ⟨w1, w2⟩; exact absurd (w1.symm.trans hnow) (by decide); exact w2 hN6)]] at hQ
        exact k_new_now0 h hL hp hl hJ hwf hkd hM1 hc10 hnow hit hN6 hQ
      · skip
        show q_W L (d + 6) 67 q_m67 Q 43 [some (.ref 3), some (.ref le), some (.ref (160 + 2 * p)), some (.ref (84 + 19 * b)), some (.int (nI 0)), some (.int (-1)), none, none] [.int (nI 1)] (n, I, J, R) 0 0
        rw [hJ 5 (by decide)] at hz hy
        have hnow : f_now M N e b = false := decide_eq_false hz
        have hold : f_old M N e b = true := decide_eq_true hy
        refine q_one rfl rfl ?_
        show ((nI 1) = 0 → q_W L (d + 6) 67 q_m67 Q 57 [some (.ref 3), some (.ref le), some (.ref (160 + 2 * p)), some (.ref (84 + 19 * b)), some (.int (nI 0)), some (.int (-1)), none, none] [] (n, I, J, R) 0 0) ∧ (¬ (nI 1) = 0 → q_W L (d + 6) 67 q_m67 Q 46 [some (.ref 3), some (.ref le), some (.ref (160 + 2 * p)), some (.ref (84 + 19 * b)), some (.int (nI 0)), some (.int (-1)), none, none] [] (n, I, J, R) 0 0)
        refine ⟨fun z => absurd z (by decide), fun _ => ?_⟩
        refine q_k 1 ?_
        show q_W L (d + 6) 67 q_m67 Q 48 [some (.ref 3), some (.ref le), some (.ref (160 + 2 * p)), some (.ref (84 + 19 * b)), some (.int (nI 0)), some (.int (-1)), none, none] [.int (nI 0)] (n, I, J, R) 0 0
        refine q_one rfl rfl ?_
        show ((nI 0) = 0 → q_W L (d + 6) 67 q_m67 Q 59 [some (.ref 3), some (.ref le), some (.ref (160 + 2 * p)), some (.ref (84 + 19 * b)), some (.int (nI 0)), some (.int (-1)), none, none] [] (n, I, J, R) 0 0) ∧ (¬ (nI 0) = 0 → q_W L (d + 6) 67 q_m67 Q 51 [some (.ref 3), some (.ref le), some (.ref (160 + 2 * p)), some (.ref (84 + 19 * b)), some (.int (nI 0)), some (.int (-1)), none, none] [] (n, I, J, R) 0 0)
        refine ⟨fun _ => ?_, fun z => absurd (by decide) z⟩
        rw [show f_begun g M N e a b p (mc p) c = f_beg2 g M N e a b p (mc p) c by unfold f_begun; rw [if_neg (fun w => by rcases w with ⟨w1, w2⟩ | ⟨w1, w2⟩; exact absurd (w2.symm.trans hold) (by decide); exact w2 hN6)]] at hQ
        exact k_new_old0 h hL hp hl hJ hwf hkd hM1 hc10 hnow hold hit hN6 hQ
      · skip
        show q_W L (d + 6) 67 q_m67 Q 43 [some (.ref 3), some (.ref le), some (.ref (160 + 2 * p)), some (.ref (84 + 19 * b)), some (.int (nI 0)), some (.int (-1)), none, none] [.int (nI 0)] (n, I, J, R) 0 0
        rw [hJ 5 (by decide)] at hz hy
        have hnow : f_now M N e b = false := decide_eq_false hz
        have hold : f_old M N e b = false := decide_eq_false hy
        refine q_one rfl rfl ?_
        show ((nI 0) = 0 → q_W L (d + 6) 67 q_m67 Q 57 [some (.ref 3), some (.ref le), some (.ref (160 + 2 * p)), some (.ref (84 + 19 * b)), some (.int (nI 0)), some (.int (-1)), none, none] [] (n, I, J, R) 0 0) ∧ (¬ (nI 0) = 0 → q_W L (d + 6) 67 q_m67 Q 46 [some (.ref 3), some (.ref le), some (.ref (160 + 2 * p)), some (.ref (84 + 19 * b)), some (.int (nI 0)), some (.int (-1)), none, none] [] (n, I, J, R) 0 0)
        refine ⟨fun _ => ?_, fun z => absurd (by decide) z⟩
        refine q_k 1 ?_
        show q_W L (d + 6) 67 q_m67 Q 58 [some (.ref 3), some (.ref le), some (.ref (160 + 2 * p)), some (.ref (84 + 19 * b)), some (.int (nI 0)), some (.int (-1)), none, none] [.int (nI 3)] (n, I, J, R) 0 0
        refine q_one rfl rfl ?_
        show Q (some (.int (nI 3))) (n, I, J, R)
        rw [show f_begun g M N e a b p (mc p) c = (nI 3, M, N) by unfold f_begun; rw [if_pos (Or.inl ⟨hnow, hold⟩)]] at hQ
        dsimp only at hQ
        exact hQ n I J R h (q_nmf_rf _) ⟨rfl, rfl⟩
  · skip
    rw [lg_cmp_eq] at h16
    refine q_k 6 ?_
    show q_W L (d + 6) 67 q_m67 Q 30 [some (.ref 3), some (.ref le), some (.ref (160 + 2 * p)), some (.ref (84 + 19 * b)), some (.int (nI 1)), none, none, none] [.int (nI 6), .ref le, .ref (84 + 19 * b)] (n, I, J, R) 0 0
    refine q_lal (m := 6) rfl (hl) (by decide) (rfl) ?_
    refine q_cv (as := [.long (J le 6)]) (rs := []) rfl rfl rfl ((q_Ac_of hK h4b).ob) rfl rfl ?_
    refine c_placeOfOneTime (M := M) (u := b) (c := c) (hA) (hcA) (hM1) (hc10) (fun k hk hg => ?_) (fun hg => ?_)
    · skip
      show q_W L (d + 6) 67 q_m67 Q 34 [some (.ref 3), some (.ref le), some (.ref (160 + 2 * p)), some (.ref (84 + 19 * b)), some (.int (nI 1)), none, none, none] [.int (nI k)] (n, I, J, R) 0 0
      rw [hJ 6 (by decide)] at hg
      have hit : f_it M N e b c = k := hg
      refine q_k 4 ?_
      show q_W L (d + 6) 67 q_m67 Q 39 [some (.ref 3), some (.ref le), some (.ref (160 + 2 * p)), some (.ref (84 + 19 * b)), some (.int (nI 1)), some (.int (nI k)), none, none] [.int (nI 5), .ref le, .ref (84 + 19 * b)] (n, I, J, R) 0 0
      refine q_lal (m := 5) rfl (hl) (by decide) (rfl) ?_
      refine q_cv (as := [.long (J le 5)]) (rs := []) rfl rfl rfl ((q_Ac_of hK h4b).ob) rfl rfl ?_
      refine c_hasSigned (M := M) (u := b) (hA) (hcA) (fun hz => ?_) (fun hz hy => ?_) (fun hz hy => ?_)
      · skip
        show q_W L (d + 6) 67 q_m67 Q 43 [some (.ref 3), some (.ref le), some (.ref (160 + 2 * p)), some (.ref (84 + 19 * b)), some (.int (nI 1)), some (.int (nI k)), none, none] [.int (nI 1)] (n, I, J, R) 0 0
        have hnow : f_now M N e b = true := decide_eq_true ((hJ 5 (by decide)).symm.trans hz)
        refine q_one rfl rfl ?_
        show ((nI 1) = 0 → q_W L (d + 6) 67 q_m67 Q 57 [some (.ref 3), some (.ref le), some (.ref (160 + 2 * p)), some (.ref (84 + 19 * b)), some (.int (nI 1)), some (.int (nI k)), none, none] [] (n, I, J, R) 0 0) ∧ (¬ (nI 1) = 0 → q_W L (d + 6) 67 q_m67 Q 46 [some (.ref 3), some (.ref le), some (.ref (160 + 2 * p)), some (.ref (84 + 19 * b)), some (.int (nI 1)), some (.int (nI k)), none, none] [] (n, I, J, R) 0 0)
        refine ⟨fun z => absurd z (by decide), fun _ => ?_⟩
        refine q_k 1 ?_
        show q_W L (d + 6) 67 q_m67 Q 48 [some (.ref 3), some (.ref le), some (.ref (160 + 2 * p)), some (.ref (84 + 19 * b)), some (.int (nI 1)), some (.int (nI k)), none, none] [.int (nI 1)] (n, I, J, R) 0 0
        refine q_one rfl rfl ?_
        show ((nI 1) = 0 → q_W L (d + 6) 67 q_m67 Q 59 [some (.ref 3), some (.ref le), some (.ref (160 + 2 * p)), some (.ref (84 + 19 * b)), some (.int (nI 1)), some (.int (nI k)), none, none] [] (n, I, J, R) 0 0) ∧ (¬ (nI 1) = 0 → q_W L (d + 6) 67 q_m67 Q 51 [some (.ref 3), some (.ref le), some (.ref (160 + 2 * p)), some (.ref (84 + 19 * b)), some (.int (nI 1)), some (.int (nI k)), none, none] [] (n, I, J, R) 0 0)
        refine ⟨fun z => absurd z (by decide), fun _ => ?_⟩
        refine q_k 2 ?_
        show q_W L (d + 6) 67 q_m67 Q 54 [some (.ref 3), some (.ref le), some (.ref (160 + 2 * p)), some (.ref (84 + 19 * b)), some (.int (nI 1)), some (.int (nI k)), none, none] [.int (-1), .int (nI k)] (n, I, J, R) 0 0
        refine q_one rfl rfl ?_
        show (¬ (nI k) = (-1) → q_W L (d + 6) 67 q_m67 Q 59 [some (.ref 3), some (.ref le), some (.ref (160 + 2 * p)), some (.ref (84 + 19 * b)), some (.int (nI 1)), some (.int (nI k)), none, none] [] (n, I, J, R) 0 0) ∧ ((nI k) = (-1) → q_W L (d + 6) 67 q_m67 Q 57 [some (.ref 3), some (.ref le), some (.ref (160 + 2 * p)), some (.ref (84 + 19 * b)), some (.int (nI 1)), some (.int (nI k)), none, none] [] (n, I, J, R) 0 0)
        refine ⟨fun _ => ?_, fun z => absurd z (q_nm1 (by omega))⟩
        rw [show f_begun g M N e a b p (mc p) c = f_beg2 g M N e a b p (mc p) c by unfold f_begun; rw [if_neg (fun w => by rcases w with ⟨w1, w2⟩ | ⟨w1, w2⟩; exact absurd (w1.symm.trans hnow) (by decide); exact w1 (by rw [hit]; exact hk))]] at hQ
        exact k_new_now1 h hL hp hl hJ hwf hkd hM1 hc10 hnow hk hit hQ
      · skip
        show q_W L (d + 6) 67 q_m67 Q 43 [some (.ref 3), some (.ref le), some (.ref (160 + 2 * p)), some (.ref (84 + 19 * b)), some (.int (nI 1)), some (.int (nI k)), none, none] [.int (nI 1)] (n, I, J, R) 0 0
        rw [hJ 5 (by decide)] at hz hy
        have hnow : f_now M N e b = false := decide_eq_false hz
        have hold : f_old M N e b = true := decide_eq_true hy
        refine q_one rfl rfl ?_
        show ((nI 1) = 0 → q_W L (d + 6) 67 q_m67 Q 57 [some (.ref 3), some (.ref le), some (.ref (160 + 2 * p)), some (.ref (84 + 19 * b)), some (.int (nI 1)), some (.int (nI k)), none, none] [] (n, I, J, R) 0 0) ∧ (¬ (nI 1) = 0 → q_W L (d + 6) 67 q_m67 Q 46 [some (.ref 3), some (.ref le), some (.ref (160 + 2 * p)), some (.ref (84 + 19 * b)), some (.int (nI 1)), some (.int (nI k)), none, none] [] (n, I, J, R) 0 0)
        refine ⟨fun z => absurd z (by decide), fun _ => ?_⟩
        refine q_k 1 ?_
        show q_W L (d + 6) 67 q_m67 Q 48 [some (.ref 3), some (.ref le), some (.ref (160 + 2 * p)), some (.ref (84 + 19 * b)), some (.int (nI 1)), some (.int (nI k)), none, none] [.int (nI 1)] (n, I, J, R) 0 0
        refine q_one rfl rfl ?_
        show ((nI 1) = 0 → q_W L (d + 6) 67 q_m67 Q 59 [some (.ref 3), some (.ref le), some (.ref (160 + 2 * p)), some (.ref (84 + 19 * b)), some (.int (nI 1)), some (.int (nI k)), none, none] [] (n, I, J, R) 0 0) ∧ (¬ (nI 1) = 0 → q_W L (d + 6) 67 q_m67 Q 51 [some (.ref 3), some (.ref le), some (.ref (160 + 2 * p)), some (.ref (84 + 19 * b)), some (.int (nI 1)), some (.int (nI k)), none, none] [] (n, I, J, R) 0 0)
        refine ⟨fun z => absurd z (by decide), fun _ => ?_⟩
        refine q_k 2 ?_
        show q_W L (d + 6) 67 q_m67 Q 54 [some (.ref 3), some (.ref le), some (.ref (160 + 2 * p)), some (.ref (84 + 19 * b)), some (.int (nI 1)), some (.int (nI k)), none, none] [.int (-1), .int (nI k)] (n, I, J, R) 0 0
        refine q_one rfl rfl ?_
        show (¬ (nI k) = (-1) → q_W L (d + 6) 67 q_m67 Q 59 [some (.ref 3), some (.ref le), some (.ref (160 + 2 * p)), some (.ref (84 + 19 * b)), some (.int (nI 1)), some (.int (nI k)), none, none] [] (n, I, J, R) 0 0) ∧ ((nI k) = (-1) → q_W L (d + 6) 67 q_m67 Q 57 [some (.ref 3), some (.ref le), some (.ref (160 + 2 * p)), some (.ref (84 + 19 * b)), some (.int (nI 1)), some (.int (nI k)), none, none] [] (n, I, J, R) 0 0)
        refine ⟨fun _ => ?_, fun z => absurd z (q_nm1 (by omega))⟩
        rw [show f_begun g M N e a b p (mc p) c = f_beg2 g M N e a b p (mc p) c by unfold f_begun; rw [if_neg (fun w => by rcases w with ⟨w1, w2⟩ | ⟨w1, w2⟩; exact absurd (w2.symm.trans hold) (by decide); exact w1 (by rw [hit]; exact hk))]] at hQ
        exact k_new_old1 h hL hp hl hJ hwf hkd hM1 hc10 hnow hold hk hit hQ
      · skip
        show q_W L (d + 6) 67 q_m67 Q 43 [some (.ref 3), some (.ref le), some (.ref (160 + 2 * p)), some (.ref (84 + 19 * b)), some (.int (nI 1)), some (.int (nI k)), none, none] [.int (nI 0)] (n, I, J, R) 0 0
        rw [hJ 5 (by decide)] at hz hy
        have hnow : f_now M N e b = false := decide_eq_false hz
        have hold : f_old M N e b = false := decide_eq_false hy
        refine q_one rfl rfl ?_
        show ((nI 0) = 0 → q_W L (d + 6) 67 q_m67 Q 57 [some (.ref 3), some (.ref le), some (.ref (160 + 2 * p)), some (.ref (84 + 19 * b)), some (.int (nI 1)), some (.int (nI k)), none, none] [] (n, I, J, R) 0 0) ∧ (¬ (nI 0) = 0 → q_W L (d + 6) 67 q_m67 Q 46 [some (.ref 3), some (.ref le), some (.ref (160 + 2 * p)), some (.ref (84 + 19 * b)), some (.int (nI 1)), some (.int (nI k)), none, none] [] (n, I, J, R) 0 0)
        refine ⟨fun _ => ?_, fun z => absurd (by decide) z⟩
        refine q_k 1 ?_
        show q_W L (d + 6) 67 q_m67 Q 58 [some (.ref 3), some (.ref le), some (.ref (160 + 2 * p)), some (.ref (84 + 19 * b)), some (.int (nI 1)), some (.int (nI k)), none, none] [.int (nI 3)] (n, I, J, R) 0 0
        refine q_one rfl rfl ?_
        show Q (some (.int (nI 3))) (n, I, J, R)
        rw [show f_begun g M N e a b p (mc p) c = (nI 3, M, N) by unfold f_begun; rw [if_pos (Or.inl ⟨hnow, hold⟩)]] at hQ
        dsimp only at hQ
        exact hQ n I J R h (q_nmf_rf _) ⟨rfl, rfl⟩
    · skip
      show q_W L (d + 6) 67 q_m67 Q 34 [some (.ref 3), some (.ref le), some (.ref (160 + 2 * p)), some (.ref (84 + 19 * b)), some (.int (nI 1)), none, none, none] [.int (-1)] (n, I, J, R) 0 0
      rw [hJ 6 (by decide)] at hg
      have hit : ¬ f_it M N e b c < c := by rw [show f_it M N e b c = c from hg]; exact Nat.lt_irrefl _
      have hN6 : ¬ N 208 (e + 6) = lN 0 := fun z => h16 ((hJ 6 (by decide)).trans z)
      refine q_k 4 ?_
      show q_W L (d + 6) 67 q_m67 Q 39 [some (.ref 3), some (.ref le), some (.ref (160 + 2 * p)), some (.ref (84 + 19 * b)), some (.int (nI 1)), some (.int (-1)), none, none] [.int (nI 5), .ref le, .ref (84 + 19 * b)] (n, I, J, R) 0 0
      refine q_lal (m := 5) rfl (hl) (by decide) (rfl) ?_
      refine q_cv (as := [.long (J le 5)]) (rs := []) rfl rfl rfl ((q_Ac_of hK h4b).ob) rfl rfl ?_
      refine c_hasSigned (M := M) (u := b) (hA) (hcA) (fun hz => ?_) (fun hz hy => ?_) (fun hz hy => ?_)
      · skip
        show q_W L (d + 6) 67 q_m67 Q 43 [some (.ref 3), some (.ref le), some (.ref (160 + 2 * p)), some (.ref (84 + 19 * b)), some (.int (nI 1)), some (.int (-1)), none, none] [.int (nI 1)] (n, I, J, R) 0 0
        refine q_one rfl rfl ?_
        show ((nI 1) = 0 → q_W L (d + 6) 67 q_m67 Q 57 [some (.ref 3), some (.ref le), some (.ref (160 + 2 * p)), some (.ref (84 + 19 * b)), some (.int (nI 1)), some (.int (-1)), none, none] [] (n, I, J, R) 0 0) ∧ (¬ (nI 1) = 0 → q_W L (d + 6) 67 q_m67 Q 46 [some (.ref 3), some (.ref le), some (.ref (160 + 2 * p)), some (.ref (84 + 19 * b)), some (.int (nI 1)), some (.int (-1)), none, none] [] (n, I, J, R) 0 0)
        refine ⟨fun z => absurd z (by decide), fun _ => ?_⟩
        refine q_k 1 ?_
        show q_W L (d + 6) 67 q_m67 Q 48 [some (.ref 3), some (.ref le), some (.ref (160 + 2 * p)), some (.ref (84 + 19 * b)), some (.int (nI 1)), some (.int (-1)), none, none] [.int (nI 1)] (n, I, J, R) 0 0
        refine q_one rfl rfl ?_
        show ((nI 1) = 0 → q_W L (d + 6) 67 q_m67 Q 59 [some (.ref 3), some (.ref le), some (.ref (160 + 2 * p)), some (.ref (84 + 19 * b)), some (.int (nI 1)), some (.int (-1)), none, none] [] (n, I, J, R) 0 0) ∧ (¬ (nI 1) = 0 → q_W L (d + 6) 67 q_m67 Q 51 [some (.ref 3), some (.ref le), some (.ref (160 + 2 * p)), some (.ref (84 + 19 * b)), some (.int (nI 1)), some (.int (-1)), none, none] [] (n, I, J, R) 0 0)
        refine ⟨fun z => absurd z (by decide), fun _ => ?_⟩
        refine q_k 2 ?_
        show q_W L (d + 6) 67 q_m67 Q 54 [some (.ref 3), some (.ref le), some (.ref (160 + 2 * p)), some (.ref (84 + 19 * b)), some (.int (nI 1)), some (.int (-1)), none, none] [.int (-1), .int (-1)] (n, I, J, R) 0 0
        refine q_one rfl rfl ?_
        show (¬ (-1) = (-1) → q_W L (d + 6) 67 q_m67 Q 59 [some (.ref 3), some (.ref le), some (.ref (160 + 2 * p)), some (.ref (84 + 19 * b)), some (.int (nI 1)), some (.int (-1)), none, none] [] (n, I, J, R) 0 0) ∧ ((-1) = (-1) → q_W L (d + 6) 67 q_m67 Q 57 [some (.ref 3), some (.ref le), some (.ref (160 + 2 * p)), some (.ref (84 + 19 * b)), some (.int (nI 1)), some (.int (-1)), none, none] [] (n, I, J, R) 0 0)
        refine ⟨fun z => absurd (rfl) z, fun _ => ?_⟩
        refine q_k 1 ?_
        show q_W L (d + 6) 67 q_m67 Q 58 [some (.ref 3), some (.ref le), some (.ref (160 + 2 * p)), some (.ref (84 + 19 * b)), some (.int (nI 1)), some (.int (-1)), none, none] [.int (nI 3)] (n, I, J, R) 0 0
        refine q_one rfl rfl ?_
        show Q (some (.int (nI 3))) (n, I, J, R)
        rw [show f_begun g M N e a b p (mc p) c = (nI 3, M, N) by unfold f_begun; rw [if_pos (Or.inr ⟨hit, hN6⟩)]] at hQ
        dsimp only at hQ
        exact hQ n I J R h (q_nmf_rf _) ⟨rfl, rfl⟩
      · skip
        show q_W L (d + 6) 67 q_m67 Q 43 [some (.ref 3), some (.ref le), some (.ref (160 + 2 * p)), some (.ref (84 + 19 * b)), some (.int (nI 1)), some (.int (-1)), none, none] [.int (nI 1)] (n, I, J, R) 0 0
        refine q_one rfl rfl ?_
        show ((nI 1) = 0 → q_W L (d + 6) 67 q_m67 Q 57 [some (.ref 3), some (.ref le), some (.ref (160 + 2 * p)), some (.ref (84 + 19 * b)), some (.int (nI 1)), some (.int (-1)), none, none] [] (n, I, J, R) 0 0) ∧ (¬ (nI 1) = 0 → q_W L (d + 6) 67 q_m67 Q 46 [some (.ref 3), some (.ref le), some (.ref (160 + 2 * p)), some (.ref (84 + 19 * b)), some (.int (nI 1)), some (.int (-1)), none, none] [] (n, I, J, R) 0 0)
        refine ⟨fun z => absurd z (by decide), fun _ => ?_⟩
        refine q_k 1 ?_
        show q_W L (d + 6) 67 q_m67 Q 48 [some (.ref 3), some (.ref le), some (.ref (160 + 2 * p)), some (.ref (84 + 19 * b)), some (.int (nI 1)), some (.int (-1)), none, none] [.int (nI 1)] (n, I, J, R) 0 0
        refine q_one rfl rfl ?_
        show ((nI 1) = 0 → q_W L (d + 6) 67 q_m67 Q 59 [some (.ref 3), some (.ref le), some (.ref (160 + 2 * p)), some (.ref (84 + 19 * b)), some (.int (nI 1)), some (.int (-1)), none, none] [] (n, I, J, R) 0 0) ∧ (¬ (nI 1) = 0 → q_W L (d + 6) 67 q_m67 Q 51 [some (.ref 3), some (.ref le), some (.ref (160 + 2 * p)), some (.ref (84 + 19 * b)), some (.int (nI 1)), some (.int (-1)), none, none] [] (n, I, J, R) 0 0)
        refine ⟨fun z => absurd z (by decide), fun _ => ?_⟩
        refine q_k 2 ?_
        show q_W L (d + 6) 67 q_m67 Q 54 [some (.ref 3), some (.ref le), some (.ref (160 + 2 * p)), some (.ref (84 + 19 * b)), some (.int (nI 1)), some (.int (-1)), none, none] [.int (-1), .int (-1)] (n, I, J, R) 0 0
        refine q_one rfl rfl ?_
        show (¬ (-1) = (-1) → q_W L (d + 6) 67 q_m67 Q 59 [some (.ref 3), some (.ref le), some (.ref (160 + 2 * p)), some (.ref (84 + 19 * b)), some (.int (nI 1)), some (.int (-1)), none, none] [] (n, I, J, R) 0 0) ∧ ((-1) = (-1) → q_W L (d + 6) 67 q_m67 Q 57 [some (.ref 3), some (.ref le), some (.ref (160 + 2 * p)), some (.ref (84 + 19 * b)), some (.int (nI 1)), some (.int (-1)), none, none] [] (n, I, J, R) 0 0)
        refine ⟨fun z => absurd (rfl) z, fun _ => ?_⟩
        refine q_k 1 ?_
        show q_W L (d + 6) 67 q_m67 Q 58 [some (.ref 3), some (.ref le), some (.ref (160 + 2 * p)), some (.ref (84 + 19 * b)), some (.int (nI 1)), some (.int (-1)), none, none] [.int (nI 3)] (n, I, J, R) 0 0
        refine q_one rfl rfl ?_
        show Q (some (.int (nI 3))) (n, I, J, R)
        rw [show f_begun g M N e a b p (mc p) c = (nI 3, M, N) by unfold f_begun; rw [if_pos (Or.inr ⟨hit, hN6⟩)]] at hQ
        dsimp only at hQ
        exact hQ n I J R h (q_nmf_rf _) ⟨rfl, rfl⟩
      · skip
        show q_W L (d + 6) 67 q_m67 Q 43 [some (.ref 3), some (.ref le), some (.ref (160 + 2 * p)), some (.ref (84 + 19 * b)), some (.int (nI 1)), some (.int (-1)), none, none] [.int (nI 0)] (n, I, J, R) 0 0
        refine q_one rfl rfl ?_
        show ((nI 0) = 0 → q_W L (d + 6) 67 q_m67 Q 57 [some (.ref 3), some (.ref le), some (.ref (160 + 2 * p)), some (.ref (84 + 19 * b)), some (.int (nI 1)), some (.int (-1)), none, none] [] (n, I, J, R) 0 0) ∧ (¬ (nI 0) = 0 → q_W L (d + 6) 67 q_m67 Q 46 [some (.ref 3), some (.ref le), some (.ref (160 + 2 * p)), some (.ref (84 + 19 * b)), some (.int (nI 1)), some (.int (-1)), none, none] [] (n, I, J, R) 0 0)
        refine ⟨fun _ => ?_, fun z => absurd (by decide) z⟩
        refine q_k 1 ?_
        show q_W L (d + 6) 67 q_m67 Q 58 [some (.ref 3), some (.ref le), some (.ref (160 + 2 * p)), some (.ref (84 + 19 * b)), some (.int (nI 1)), some (.int (-1)), none, none] [.int (nI 3)] (n, I, J, R) 0 0
        refine q_one rfl rfl ?_
        show Q (some (.int (nI 3))) (n, I, J, R)
        rw [show f_begun g M N e a b p (mc p) c = (nI 3, M, N) by unfold f_begun; rw [if_pos (Or.inr ⟨hit, hN6⟩)]] at hQ
        dsimp only at hQ
        exact hQ n I J R h (q_nmf_rf _) ⟨rfl, rfl⟩
set_option maxHeartbeats 4000000 in
theorem k_open {L d n : Nat} {I : q_I} {J : q_L} {R : q_R} {Q : q_Q} {M : q_I} {N : q_L} {v : Int32} {G : Nat → Nat → Int32} (h : CR n I J R M N) (hQ : ∀ n' I' J' R', CR n' I' J' R' ((f_open G v M N).2.1) ((f_open G v M N).2.2) → q_nmf I' I → (J' 208 = J 208 ∧ J' 192 = J 192) → Q (some (.int (f_open G v M N).1)) (n', I', J', R')) : q_Ex L (d + 8) 51 [.ref 3, .int v] (n, I, J, R) Q := by
  refine q_in (x := q_m51) rfl rfl ?_
  show q_W L (d + 7) 51 q_m51 Q 0 [some (.ref 3), some (.int v), none, none, none] [] (n, I, J, R) 0 0
  have hK := h.K
  have ha := h.ac
  obtain ⟨E, hE⟩ := h.en
  have hE6 := hE.e6
  obtain ⟨ss, mc, tr, hL⟩ := h.li
  refine q_k 2 ?_
  show q_W L (d + 7) 51 q_m51 Q 2 [some (.ref 3), some (.int v), none, none, none] [.int v, .ref 3] (n, I, J, R) 0 0
  refine q_cv (as := [.int v]) (rs := []) rfl rfl rfl (⟨Nat.lt_of_lt_of_le (by decide) hK.1, rfl⟩) rfl rfl ?_
  refine c_isEnvelope (hK) (hE.eI) (hE6) (fun j hj ej => ?_) (fun hno => ?_)
  · skip
    show q_W L (d + 7) 51 q_m51 Q 5 [some (.ref 3), some (.int v), none, none, none] [.int (nI 1)] (n, I, J, R) 0 0
    subst ej
    show q_W L (d + 7) 51 q_m51 Q 5 [some (.ref 3), some (.int (nI j)), none, none, none] [.int (nI 1)] (n, I, J, R) 0 0
    have hl : q_ar n (11 + j) 1 12 := q_arE hK.1 (by omega)
    have hJ : ∀ k, k < 12 → J (11 + j) k = N 208 (12 * j + k) := fun k hk => hE.lt j k hj hk
    refine q_one rfl rfl ?_
    show (¬ (nI 1) = 0 → q_W L (d + 7) 51 q_m51 Q 10 [some (.ref 3), some (.int (nI j)), none, none, none] [] (n, I, J, R) 0 0) ∧ ((nI 1) = 0 → q_W L (d + 7) 51 q_m51 Q 8 [some (.ref 3), some (.int (nI j)), none, none, none] [] (n, I, J, R) 0 0)
    refine ⟨fun _ => ?_, fun z => absurd z (by decide)⟩
    refine q_k 1 ?_
    show q_W L (d + 7) 51 q_m51 Q 11 [some (.ref 3), some (.int (nI j)), none, none, none] [.ref 3] (n, I, J, R) 0 0
    refine q_gR (b := 10) rfl rfl (⟨Nat.lt_of_lt_of_le (by decide) hK.1, rfl⟩) (hK.2.1 3 3 10 rfl) ?_
    refine q_k 1 ?_
    show q_W L (d + 7) 51 q_m51 Q 15 [some (.ref 3), some (.int (nI j)), none, none, none] [.int (nI j), .ref 10] (n, I, J, R) 0 0
    refine q_aal (m := j) (b := (11 + j)) rfl (⟨by decide, Nat.lt_of_lt_of_le (by decide) hK.1, rfl⟩) ⟨rfl, rfl⟩ (by omega) rfl (hK.2.1 10 j _ (q_fxA j (by omega))) ?_
    refine q_k 3 ?_
    show q_W L (d + 7) 51 q_m51 Q 19 [some (.ref 3), some (.int (nI j)), some (.ref (11 + j)), none, none] [.ref (11 + j), .ref 3] (n, I, J, R) 0 0
    refine q_cv (as := [.ref (11 + j)]) (rs := []) rfl rfl rfl (⟨Nat.lt_of_lt_of_le (by decide) hK.1, rfl⟩) rfl rfl ?_
    refine c_isMalformed (hK) (ha) (hl) (hJ) ?_
    show q_W L (d + 7) 51 q_m51 Q 22 [some (.ref 3), some (.int (nI j)), some (.ref (11 + j)), none, none] [.int (g_mal M N (12 * j))] (n, I, J, R) 0 0
    refine q_one rfl rfl ?_
    show ((g_mal M N (12 * j)) = 0 → q_W L (d + 7) 51 q_m51 Q 27 [some (.ref 3), some (.int (nI j)), some (.ref (11 + j)), none, none] [] (n, I, J, R) 0 0) ∧ (¬ (g_mal M N (12 * j)) = 0 → q_W L (d + 7) 51 q_m51 Q 25 [some (.ref 3), some (.int (nI j)), some (.ref (11 + j)), none, none] [] (n, I, J, R) 0 0)
    refine ⟨fun h22 => ?_, fun h22 => ?_⟩
    · skip
      obtain ⟨a, b, x, y, hwf⟩ := g_mal_0 h22
      have h4a := hwf.ha
      have h4b := hwf.hb
      obtain ⟨hm3, hM6, hI6⟩ := hL.m3 (4 * b + a) (by omega)
      obtain ⟨c, pr, hc10, hM1, -⟩ := (ha b h4b).once
      have hFO : f_open G (nI j) M N = f_op G M N (12 * j) a b (mc (4 * b + a)) c := by
        unfold f_open
        rw [hE.eM, if_neg (g_th_j hj hE6), g_cl (show j < 10000 by omega), if_pos h22, hwf.fa, hwf.fb, lN_i, lN_i, g_cl (show a < 10000 by omega), g_cl (show b < 10000 by omega), hM6, hM1, g_cl (by omega), g_cl (by omega)]
      rw [hFO] at hQ
      refine q_k 3 ?_
      show q_W L (d + 7) 51 q_m51 Q 30 [some (.ref 3), some (.int (nI j)), some (.ref (11 + j)), none, none] [.int (nI 1), .ref (11 + j), .ref 3] (n, I, J, R) 0 0
      refine q_lal (m := 1) rfl (hl) (by decide) (rfl) ?_
      refine q_k 1 ?_
      show q_W L (d + 7) 51 q_m51 Q 32 [some (.ref 3), some (.int (nI j)), some (.ref (11 + j)), none, none] [.int ((J (11 + j) 1).toInt32), .ref 3] (n, I, J, R) 0 0
      refine q_top (w := nI b) (by rw [hJ 1 (by decide), hwf.fb]; exact lN_i _) ?_
      refine q_k 2 ?_
      show q_W L (d + 7) 51 q_m51 Q 34 [some (.ref 3), some (.int (nI j)), some (.ref (11 + j)), none, none] [.int (nI 0), .ref (11 + j), .int (nI b), .ref 3] (n, I, J, R) 0 0
      refine q_lal (m := 0) rfl (hl) (by decide) (rfl) ?_
      refine q_k 1 ?_
      show q_W L (d + 7) 51 q_m51 Q 36 [some (.ref 3), some (.int (nI j)), some (.ref (11 + j)), none, none] [.int ((J (11 + j) 0).toInt32), .int (nI b), .ref 3] (n, I, J, R) 0 0
      refine q_top (w := nI a) (by rw [hJ 0 (by decide)]; show (N 208 (12 * j)).toInt32 = nI a; rw [hwf.fa]; exact lN_i _) ?_
      refine q_cv (as := [.int (nI b), .int (nI a)]) (rs := []) rfl rfl rfl (⟨Nat.lt_of_lt_of_le (by decide) hK.1, rfl⟩) rfl rfl ?_
      refine c_listOf (hK) (h4b) (h4a) ?_
      show q_W L (d + 7) 51 q_m51 Q 39 [some (.ref 3), some (.int (nI j)), some (.ref (11 + j)), none, none] [.ref (160 + 2 * (4 * b + a))] (n, I, J, R) 0 0
      refine q_k 3 ?_
      show q_W L (d + 7) 51 q_m51 Q 42 [some (.ref 3), some (.int (nI j)), some (.ref (11 + j)), some (.ref (160 + 2 * (4 * b + a))), none] [.int (nI 2), .ref (11 + j)] (n, I, J, R) 0 0
      refine q_lal (m := 2) rfl (hl) (by decide) (rfl) ?_
      refine q_k 2 ?_
      show q_W L (d + 7) 51 q_m51 Q 45 [some (.ref 3), some (.int (nI j)), some (.ref (11 + j)), some (.ref (160 + 2 * (4 * b + a))), none] [.int (lg_cmp (J (11 + j) 2) (lN 1))] (n, I, J, R) 0 0
      refine q_one rfl rfl ?_
      show (¬ (lg_cmp (J (11 + j) 2) (lN 1)) = 0 → q_W L (d + 7) 51 q_m51 Q 55 [some (.ref 3), some (.int (nI j)), some (.ref (11 + j)), some (.ref (160 + 2 * (4 * b + a))), none] [] (n, I, J, R) 0 0) ∧ ((lg_cmp (J (11 + j) 2) (lN 1)) = 0 → q_W L (d + 7) 51 q_m51 Q 48 [some (.ref 3), some (.int (nI j)), some (.ref (11 + j)), some (.ref (160 + 2 * (4 * b + a))), none] [] (n, I, J, R) 0 0)
      refine ⟨fun h45 => ?_, fun h45 => ?_⟩
      · skip
        rw [lg_cmp_eq] at h45
        have hkd : N 208 (12 * j + 2) = lN 0 := hwf.fk.resolve_right (fun z => h45 ((hJ 2 (by decide)).trans z))
        have hk1 : ¬ N 208 (12 * j + 2) = lN 1 := fun z => absurd (hkd.symm.trans z) (by decide +kernel)
        obtain ⟨-, yy, hy2, hy3, hye⟩ := hwf.f1 hkd
        refine q_k 3 ?_
        show q_W L (d + 7) 51 q_m51 Q 58 [some (.ref 3), some (.int (nI j)), some (.ref (11 + j)), some (.ref (160 + 2 * (4 * b + a))), none] [.int (nI 4), .ref (11 + j), .ref (160 + 2 * (4 * b + a))] (n, I, J, R) 0 0
        refine q_lal (m := 4) rfl (hl) (by decide) (rfl) ?_
        refine q_k 1 ?_
        show q_W L (d + 7) 51 q_m51 Q 60 [some (.ref 3), some (.int (nI j)), some (.ref (11 + j)), some (.ref (160 + 2 * (4 * b + a))), none] [.int ((J (11 + j) 4).toInt32), .ref (160 + 2 * (4 * b + a))] (n, I, J, R) 0 0
        refine q_cv (as := [.int ((J (11 + j) 4).toInt32)]) (rs := []) rfl rfl rfl (q_obL hK.1 (by omega)) rfl rfl ?_
        refine c_placeOfBase (s := 160 + 2 * (4 * b + a)) (m := mc (4 * b + a)) (rr := ss (4 * b + a)) (q_obL hK.1 (by omega)) (hK.2.1 _ _ _ (q_fxL (4 * b + a) (by omega))) (q_arL hK.1 (by omega)) (hI6) (hm3) (fun i hi => ⟨(hL.rw (4 * b + a) i (by omega) hi).1, (hL.se (p := 4 * b + a) (by omega) hi).ob⟩) (fun k hk hg => ?_) (fun hg => ?_)
        · skip
          show q_W L (d + 7) 51 q_m51 Q 63 [some (.ref 3), some (.int (nI j)), some (.ref (11 + j)), some (.ref (160 + 2 * (4 * b + a))), none] [.int (nI k)] (n, I, J, R) 0 0
          have hgc : g_first (fun k => decide (I (ss (4 * b + a) k) 0 = (J (11 + j) 4).toInt32)) (mc (4 * b + a)) = g_first (f_bhit M N (12 * j) (4 * b + a)) (mc (4 * b + a)) := g_first_cg (fun l hl2 => by
            have e0 : I (ss (4 * b + a) l) 0 = M 205 (158 * (3 * (4 * b + a) + l)) := (hL.re (4 * b + a) l (by omega) hl2).1.f0
            unfold f_bhit
            rw [e0, hJ 4 (by decide), hye, lN_i, decide_eq_decide]
            exact ⟨fun z => by rw [z]; exact q_li (by omega), fun z => q_il z⟩)
          rw [hgc] at hg
          have hlt : g_first (f_bhit M N (12 * j) (4 * b + a)) (mc (4 * b + a)) < mc (4 * b + a) := by rw [hg]; exact hk
          refine q_k 3 ?_
          show q_W L (d + 7) 51 q_m51 Q 68 [some (.ref 3), some (.int (nI j)), some (.ref (11 + j)), some (.ref (160 + 2 * (4 * b + a))), some (.int (nI k))] [.int (-1), .int (nI k)] (n, I, J, R) 0 0
          refine q_one rfl rfl ?_
          show (¬ (nI k) = (-1) → q_W L (d + 7) 51 q_m51 Q 80 [some (.ref 3), some (.int (nI j)), some (.ref (11 + j)), some (.ref (160 + 2 * (4 * b + a))), some (.int (nI k))] [] (n, I, J, R) 0 0) ∧ ((nI k) = (-1) → q_W L (d + 7) 51 q_m51 Q 71 [some (.ref 3), some (.int (nI j)), some (.ref (11 + j)), some (.ref (160 + 2 * (4 * b + a))), some (.int (nI k))] [] (n, I, J, R) 0 0)
          refine ⟨fun _ => ?_, fun z => absurd z (q_nm1 (by omega))⟩
          refine q_k 4 ?_
          show q_W L (d + 7) 51 q_m51 Q 85 [some (.ref 3), some (.int (nI j)), some (.ref (11 + j)), some (.ref (160 + 2 * (4 * b + a))), some (.int (nI k))] [.int (nI k), .ref (160 + 2 * (4 * b + a)), .ref (11 + j), .ref 3] (n, I, J, R) 0 0
          refine q_cv (as := [.ref (11 + j), .ref (160 + 2 * (4 * b + a)), .int (nI k)]) (rs := []) rfl rfl rfl (⟨Nat.lt_of_lt_of_le (by decide) hK.1, rfl⟩) rfl rfl ?_
          have hF : f_op G M N (12 * j) a b (mc (4 * b + a)) c = f_at (G 0) M N (12 * j) a b (4 * b + a) k := by unfold f_op; rw [if_neg hk1, if_pos hlt, hg]
          rw [hF] at hQ
          refine k_at (g := G 0) (p := 4 * b + a) h hL (by omega) hl hJ hwf hk (fun n2 I2 J2 R2 c1 c2 c3 => ?_)
          show q_W L (d + 7) 51 q_m51 Q 88 [some (.ref 3), some (.int (nI j)), some (.ref (11 + j)), some (.ref (160 + 2 * (4 * b + a))), some (.int (nI k))] [.int ((f_at (G 0) M N (12 * j) a b (4 * b + a) k).1)] (n2, I2, J2, R2) 0 0
          refine q_one rfl rfl ?_
          show Q (some (.int ((f_at (G 0) M N (12 * j) a b (4 * b + a) k).1))) (n2, I2, J2, R2)
          exact hQ n2 I2 J2 R2 c1 c2 c3
        · skip
          show q_W L (d + 7) 51 q_m51 Q 63 [some (.ref 3), some (.int (nI j)), some (.ref (11 + j)), some (.ref (160 + 2 * (4 * b + a))), none] [.int (-1)] (n, I, J, R) 0 0
          have hgc : g_first (fun k => decide (I (ss (4 * b + a) k) 0 = (J (11 + j) 4).toInt32)) (mc (4 * b + a)) = g_first (f_bhit M N (12 * j) (4 * b + a)) (mc (4 * b + a)) := g_first_cg (fun l hl2 => by
            have e0 : I (ss (4 * b + a) l) 0 = M 205 (158 * (3 * (4 * b + a) + l)) := (hL.re (4 * b + a) l (by omega) hl2).1.f0
            unfold f_bhit
            rw [e0, hJ 4 (by decide), hye, lN_i, decide_eq_decide]
            exact ⟨fun z => by rw [z]; exact q_li (by omega), fun z => q_il z⟩)
          rw [hgc] at hg
          have hlt : ¬ g_first (f_bhit M N (12 * j) (4 * b + a)) (mc (4 * b + a)) < mc (4 * b + a) := by rw [hg]; exact Nat.lt_irrefl _
          refine q_k 3 ?_
          show q_W L (d + 7) 51 q_m51 Q 68 [some (.ref 3), some (.int (nI j)), some (.ref (11 + j)), some (.ref (160 + 2 * (4 * b + a))), some (.int (-1))] [.int (-1), .int (-1)] (n, I, J, R) 0 0
          refine q_one rfl rfl ?_
          show (¬ (-1) = (-1) → q_W L (d + 7) 51 q_m51 Q 80 [some (.ref 3), some (.int (nI j)), some (.ref (11 + j)), some (.ref (160 + 2 * (4 * b + a))), some (.int (-1))] [] (n, I, J, R) 0 0) ∧ ((-1) = (-1) → q_W L (d + 7) 51 q_m51 Q 71 [some (.ref 3), some (.int (nI j)), some (.ref (11 + j)), some (.ref (160 + 2 * (4 * b + a))), some (.int (-1))] [] (n, I, J, R) 0 0)
          refine ⟨fun z => absurd (rfl) z, fun _ => ?_⟩
          refine q_k 3 ?_
          show q_W L (d + 7) 51 q_m51 Q 74 [some (.ref 3), some (.int (nI j)), some (.ref (11 + j)), some (.ref (160 + 2 * (4 * b + a))), some (.int (-1))] [.ref (160 + 2 * (4 * b + a)), .ref (11 + j), .ref 3] (n, I, J, R) 0 0
          refine q_cvA (as := [.ref (11 + j), .ref (160 + 2 * (4 * b + a))]) (rs := []) rfl rfl rfl (⟨Nat.lt_of_lt_of_le (by decide) hK.1, rfl⟩) rfl rfl ⟨by decide, by decide⟩ ?_
          have hF : f_op G M N (12 * j) a b (mc (4 * b + a)) c = f_begun (G 0) M N (12 * j) a b (4 * b + a) (mc (4 * b + a)) c := by unfold f_op; rw [if_neg hk1, if_neg hlt]
          rw [hF] at hQ
          refine k_new (g := G 0) (p := 4 * b + a) h hL (by omega) hl hJ hwf hkd hM1 hc10 (fun n2 I2 J2 R2 c1 c2 c3 => ?_)
          show q_W L (d + 7) 51 q_m51 Q 77 [some (.ref 3), some (.int (nI j)), some (.ref (11 + j)), some (.ref (160 + 2 * (4 * b + a))), some (.int (-1))] [.int ((f_begun (G 0) M N (12 * j) a b (4 * b + a) (mc (4 * b + a)) c).1)] (n2, I2, J2, R2) 10 334
          refine q_k 1 ?_
          show q_W L (d + 7) 51 q_m51 Q 88 [some (.ref 3), some (.int (nI j)), some (.ref (11 + j)), some (.ref (160 + 2 * (4 * b + a))), some (.int (-1))] [.int ((f_begun (G 0) M N (12 * j) a b (4 * b + a) (mc (4 * b + a)) c).1)] (n2, I2, J2, R2) 10 334
          refine q_one rfl rfl ?_
          show Q (some (.int ((f_begun (G 0) M N (12 * j) a b (4 * b + a) (mc (4 * b + a)) c).1))) (n2, I2, J2, R2)
          exact hQ n2 I2 J2 R2 c1 c2 c3
      · skip
        rw [lg_cmp_eq] at h45
        refine q_k 3 ?_
        show q_W L (d + 7) 51 q_m51 Q 51 [some (.ref 3), some (.int (nI j)), some (.ref (11 + j)), some (.ref (160 + 2 * (4 * b + a))), none] [.ref (160 + 2 * (4 * b + a)), .ref (11 + j), .ref 3] (n, I, J, R) 0 0
        refine q_cv (as := [.ref (11 + j), .ref (160 + 2 * (4 * b + a))]) (rs := []) rfl rfl rfl (⟨Nat.lt_of_lt_of_le (by decide) hK.1, rfl⟩) rfl rfl ?_
        have hF : f_op G M N (12 * j) a b (mc (4 * b + a)) c = f_fur G M N (12 * j) a b (4 * b + a) (mc (4 * b + a)) 0 (nI 6) := by unfold f_op; rw [if_pos ((hJ 2 (by decide)).symm.trans h45)]
        rw [hF] at hQ
        refine k_further (G := G) (p := 4 * b + a) h hL (by omega) hl hJ hwf (fun n2 I2 J2 R2 c1 c2 c3 => ?_)
        show q_W L (d + 7) 51 q_m51 Q 54 [some (.ref 3), some (.int (nI j)), some (.ref (11 + j)), some (.ref (160 + 2 * (4 * b + a))), none] [.int ((f_fur G M N (12 * j) a b (4 * b + a) (mc (4 * b + a)) 0 (nI 6)).1)] (n2, I2, J2, R2) 0 0
        refine q_one rfl rfl ?_
        show Q (some (.int ((f_fur G M N (12 * j) a b (4 * b + a) (mc (4 * b + a)) 0 (nI 6)).1))) (n2, I2, J2, R2)
        exact hQ n2 I2 J2 R2 c1 c2 c3
    · skip
      refine q_k 1 ?_
      show q_W L (d + 7) 51 q_m51 Q 26 [some (.ref 3), some (.int (nI j)), some (.ref (11 + j)), none, none] [.int (nI 4)] (n, I, J, R) 0 0
      refine q_one rfl rfl ?_
      show Q (some (.int (nI 4))) (n, I, J, R)
      rw [show f_open G (nI j) M N = (nI 4, M, N) by unfold f_open; rw [hE.eM, if_neg (g_th_j hj hE6), g_cl (show j < 10000 by omega), if_neg h22]] at hQ
      dsimp only at hQ
      exact hQ n I J R h (q_nmf_rf _) ⟨rfl, rfl⟩
  · skip
    show q_W L (d + 7) 51 q_m51 Q 5 [some (.ref 3), some (.int v), none, none, none] [.int (nI 0)] (n, I, J, R) 0 0
    refine q_one rfl rfl ?_
    show (¬ (nI 0) = 0 → q_W L (d + 7) 51 q_m51 Q 10 [some (.ref 3), some (.int v), none, none, none] [] (n, I, J, R) 0 0) ∧ ((nI 0) = 0 → q_W L (d + 7) 51 q_m51 Q 8 [some (.ref 3), some (.int v), none, none, none] [] (n, I, J, R) 0 0)
    refine ⟨fun z => absurd (by decide) z, fun _ => ?_⟩
    refine q_k 1 ?_
    show q_W L (d + 7) 51 q_m51 Q 9 [some (.ref 3), some (.int v), none, none, none] [.int (-1)] (n, I, J, R) 0 0
    refine q_one rfl rfl ?_
    show Q (some (.int (-1))) (n, I, J, R)
    rw [show f_open G v M N = (-1, M, N) by unfold f_open; rw [hE.eM, if_pos hno]] at hQ
    dsimp only at hQ
    exact hQ n I J R h (q_nmf_rf _) ⟨rfl, rfl⟩
