abbrev q_xO (x : q_MI) : Nat := x.2.2.2.2.1
abbrev q_xC (x : q_MI) : Nat → Option Instr := x.2.2.2.2.2.2.2
/-- the method x (its number mi) at a place of its body -/
def q_W (L d mi : Nat) (x : q_MI) (Q : q_Q) : q_K := q_WP L x.2.2.2.2.1 x.2.2.2.2.2.1 x.2.2.2.2.2.2.1 ((q_al mi).getD (0, 0)) x.2.2.2.2.2.2.2 (q_Ex L d) Q
def q_T (L d mi : Nat) (x : q_MI) (Q : q_Q) (K : q_K) : Nat → q_K := q_it L x.2.2.2.2.1 x.2.2.2.2.2.1 x.2.2.2.2.2.2.1 ((q_al mi).getD (0, 0)) x.2.2.2.2.2.2.2 (q_Ex L d) Q K
section QStep
variable {L d mi : Nat} {x : q_MI} {Q : q_Q} {pc : Nat} {ls : List (Option Value)} {st : List Value} {n : Nat} {I : q_I} {J : q_L} {R : q_R} {uc us : Nat}
/-- into a method -/
theorem q_in {as : List Value} {μ : q_M} (hx : q_tab[mi]? = some x) (hl : Nat.ble (q_lay as).length x.2.2.1 = true) (h : q_W L d mi x Q 0 (q_ent as x.2.2.1) [] μ 0 0) : q_Ex L (d + 1) mi as μ Q :=
  ⟨x, hx, Nat.le_of_ble_eq_true hl, h⟩
/-- k steps at once -/
theorem q_k (k : Nat) {μ : q_M} (h : q_T L d mi x Q (q_W L d mi x Q) k pc ls st μ uc us) : q_W L d mi x Q pc ls st μ uc us := q_blk (q_Ex_mono L d) k h
theorem q_one {i : Instr} {μ : q_M} (hc : q_xC x pc = some i) (hp : q_pure (q_xO x) pc i ls st = none) (h : q_eff L x.2.2.2.2.1 x.2.2.2.2.2.1 x.2.2.2.2.2.2.1 ((q_al mi).getD (0, 0)) (q_Ex L d) Q (q_W L d mi x Q) pc i ls st μ uc us) : q_W L d mi x Q pc ls st μ uc us := by
  refine q_WP_step (q_Ex_mono L d) ?_
  unfold q_stp
  rw [show x.2.2.2.2.2.2.2 pc = some i from hc]
  simp only
  rw [show q_pure x.2.2.2.2.1 pc i ls st = none from hp]
  exact h
theorem q_top {v w : Int32} {μ : q_M} (e : v = w) (h : q_W L d mi x Q pc ls (.int w :: st) μ uc us) : q_W L d mi x Q pc ls (.int v :: st) μ uc us := e ▸ h
theorem q_topL {v w : Int64} {μ : q_M} (e : v = w) (h : q_W L d mi x Q pc ls (.long w :: st) μ uc us) : q_W L d mi x Q pc ls (.long v :: st) μ uc us := e ▸ h
variable {a b k j ci idx len m : Nat} {fin : Bool} {v w : Int32} {z : Int64}
theorem q_gI (hc : q_xC x pc = some (.getfield idx)) (hf : q_fr (q_xO x) idx = some (ci, k, 0, fin)) (ho : q_ob n a ci) (h : q_W L d mi x Q (pc + 3) ls (.int (I a k) :: st) (n, I, J, R) uc us) : q_W L d mi x Q pc ls (.ref a :: st) (n, I, J, R) uc us :=
  q_one hc rfl (by dsimp only [q_eff]; rw [show q_fr x.2.2.2.2.1 idx = _ from hf]; exact ⟨ho, h⟩)
theorem q_gZ (hc : q_xC x pc = some (.getfield idx)) (hf : q_fr (q_xO x) idx = some (ci, k, 1, fin)) (ho : q_ob n a ci) (h : q_W L d mi x Q (pc + 3) ls (.int (I a k) :: st) (n, I, J, R) uc us) : q_W L d mi x Q pc ls (.ref a :: st) (n, I, J, R) uc us :=
  q_one hc rfl (by dsimp only [q_eff]; rw [show q_fr x.2.2.2.2.1 idx = _ from hf]; exact ⟨ho, h⟩)
theorem q_gJ (hc : q_xC x pc = some (.getfield idx)) (hf : q_fr (q_xO x) idx = some (ci, k, 2, fin)) (ho : q_ob n a ci) (h : q_W L d mi x Q (pc + 3) ls (.long (J a k) :: st) (n, I, J, R) uc us) : q_W L d mi x Q pc ls (.ref a :: st) (n, I, J, R) uc us :=
  q_one hc rfl (by dsimp only [q_eff]; rw [show q_fr x.2.2.2.2.1 idx = _ from hf]; exact ⟨ho, h⟩)
theorem q_gR (hc : q_xC x pc = some (.getfield idx)) (hf : q_fr (q_xO x) idx = some (ci, k, 3, fin)) (ho : q_ob n a ci) (hR : R a k = some b) (h : q_W L d mi x Q (pc + 3) ls (.ref b :: st) (n, I, J, R) uc us) : q_W L d mi x Q pc ls (.ref a :: st) (n, I, J, R) uc us :=
  q_one hc rfl (by dsimp only [q_eff]; rw [show q_fr x.2.2.2.2.1 idx = _ from hf]; exact ⟨ho, b, hR, h⟩)
theorem q_pI (hc : q_xC x pc = some (.putfield idx)) (hf : q_fr (q_xO x) idx = some (ci, k, 0, fin)) (hfin : (!fin || (x.2.2.2.2.2.2.1 && Nat.beq x.2.2.2.2.1 ci)) = true) (ho : q_ob n a ci) (h : q_W L d mi x Q (pc + 3) ls (st) (n, q_up I a k v, J, R) uc us) : q_W L d mi x Q pc ls (.int v :: .ref a :: st) (n, I, J, R) uc us :=
  q_one hc rfl (by dsimp only [q_eff]; rw [show q_fr x.2.2.2.2.1 idx = _ from hf]; simp only; rw [hfin]; exact ⟨ho, h⟩)
theorem q_pZ (hc : q_xC x pc = some (.putfield idx)) (hf : q_fr (q_xO x) idx = some (ci, k, 1, fin)) (hfin : (!fin || (x.2.2.2.2.2.2.1 && Nat.beq x.2.2.2.2.1 ci)) = true) (ho : q_ob n a ci) (hz : q_bz v) (h : q_W L d mi x Q (pc + 3) ls (st) (n, q_up I a k v, J, R) uc us) : q_W L d mi x Q pc ls (.int v :: .ref a :: st) (n, I, J, R) uc us :=
  q_one hc rfl (by dsimp only [q_eff]; rw [show q_fr x.2.2.2.2.1 idx = _ from hf]; simp only; rw [hfin]; exact ⟨ho, hz, h⟩)
theorem q_pJ (hc : q_xC x pc = some (.putfield idx)) (hf : q_fr (q_xO x) idx = some (ci, k, 2, fin)) (hfin : (!fin || (x.2.2.2.2.2.2.1 && Nat.beq x.2.2.2.2.1 ci)) = true) (ho : q_ob n a ci) (h : q_W L d mi x Q (pc + 3) ls (st) (n, I, q_up J a k z, R) uc us) : q_W L d mi x Q pc ls (.long z :: .ref a :: st) (n, I, J, R) uc us :=
  q_one hc rfl (by dsimp only [q_eff]; rw [show q_fr x.2.2.2.2.1 idx = _ from hf]; simp only; rw [hfin]; exact ⟨ho, h⟩)
theorem q_pR (hc : q_xC x pc = some (.putfield idx)) (hf : q_fr (q_xO x) idx = some (ci, k, 3, fin)) (hfin : (!fin || (x.2.2.2.2.2.2.1 && Nat.beq x.2.2.2.2.1 ci)) = true) (ho : q_ob n a ci) (h : q_W L d mi x Q (pc + 3) ls (st) (n, I, J, q_up R a k (some b)) uc us) : q_W L d mi x Q pc ls (.ref b :: .ref a :: st) (n, I, J, R) uc us :=
  q_one hc rfl (by dsimp only [q_eff]; rw [show q_fr x.2.2.2.2.1 idx = _ from hf]; simp only; rw [hfin]; exact ⟨ho, h⟩)
theorem q_ix (h : m < len) (hl : len ≤ 10000) : vp_in (nI m) len ∧ (nI m).toNatClampNeg = m := ⟨vp_in_nI h (by omega), nI_clamp (by omega)⟩
theorem q_ial (hc : q_xC x pc = some (.iaload)) (ha : q_ar n a 0 len) (hm : m < len) (hl : Nat.ble len 10000 = true) (h : q_W L d mi x Q (pc + 1) ls (.int (I a m) :: st) (n, I, J, R) uc us) : q_W L d mi x Q pc ls (.int (nI m) :: .ref a :: st) (n, I, J, R) uc us := by
  obtain ⟨h1, h2⟩ := q_ix hm (Nat.le_of_ble_eq_true hl)
  refine q_one hc rfl ?_
  refine ⟨len, Or.inl ha, h1, ?_⟩
  rw [h2]
  exact h
theorem q_sal (hc : q_xC x pc = some (.iaload)) (ha : len = L) (hm : m < len) (hl : Nat.ble len 10000 = true) (h : q_W L d mi x Q (pc + 1) ls (.int (I 2 m) :: st) (n, I, J, R) uc us) : q_W L d mi x Q pc ls (.int (nI m) :: .ref 2 :: st) (n, I, J, R) uc us := by
  obtain ⟨h1, h2⟩ := q_ix hm (Nat.le_of_ble_eq_true hl)
  refine q_one hc rfl ?_
  refine ⟨len, Or.inr ⟨rfl, ha⟩, h1, ?_⟩
  rw [h2]
  exact h
theorem q_lal (hc : q_xC x pc = some (.laload)) (ha : q_ar n a 1 len) (hm : m < len) (hl : Nat.ble len 10000 = true) (h : q_W L d mi x Q (pc + 1) ls (.long (J a m) :: st) (n, I, J, R) uc us) : q_W L d mi x Q pc ls (.int (nI m) :: .ref a :: st) (n, I, J, R) uc us := by
  obtain ⟨h1, h2⟩ := q_ix hm (Nat.le_of_ble_eq_true hl)
  refine q_one hc rfl ?_
  refine ⟨len, ha, h1, ?_⟩
  rw [h2]
  exact h
theorem q_zal (hc : q_xC x pc = some (.baload)) (ha : q_ar n a 2 len) (hm : m < len) (hl : Nat.ble len 10000 = true) (h : q_W L d mi x Q (pc + 1) ls (.int (I a m) :: st) (n, I, J, R) uc us) : q_W L d mi x Q pc ls (.int (nI m) :: .ref a :: st) (n, I, J, R) uc us := by
  obtain ⟨h1, h2⟩ := q_ix hm (Nat.le_of_ble_eq_true hl)
  refine q_one hc rfl ?_
  refine ⟨len, ha, h1, ?_⟩
  rw [h2]
  exact h
theorem q_aal {t : Nat} (hc : q_xC x pc = some .aaload) (ha : q_ar n a t len) (ht : Nat.ble 3 t = true ∧ Nat.ble t 7 = true) (hm : m < len) (hl : Nat.ble len 10000 = true) (hR : R a m = some b) (h : q_W L d mi x Q (pc + 1) ls (.ref b :: st) (n, I, J, R) uc us) : q_W L d mi x Q pc ls (.int (nI m) :: .ref a :: st) (n, I, J, R) uc us := by
  obtain ⟨h1, h2⟩ := q_ix hm (Nat.le_of_ble_eq_true hl)
  refine q_one hc rfl ?_
  exact ⟨t, len, b, ⟨ha, Nat.le_of_ble_eq_true ht.1, Nat.le_of_ble_eq_true ht.2⟩, h1, by rw [h2]; exact hR, h⟩
theorem q_ias (hc : q_xC x pc = some (.iastore)) (ha : q_ar n a 0 len) (hm : m < len) (hl : Nat.ble len 10000 = true) (h : q_W L d mi x Q (pc + 1) ls (st) (n, q_up I a m v, J, R) uc us) : q_W L d mi x Q pc ls (.int v :: .int (nI m) :: .ref a :: st) (n, I, J, R) uc us := by
  obtain ⟨h1, h2⟩ := q_ix hm (Nat.le_of_ble_eq_true hl)
  refine q_one hc rfl ?_
  refine ⟨len, ha, h1, ?_⟩
  rw [h2]
  exact h
theorem q_las (hc : q_xC x pc = some (.lastore)) (ha : q_ar n a 1 len) (hm : m < len) (hl : Nat.ble len 10000 = true) (h : q_W L d mi x Q (pc + 1) ls (st) (n, I, q_up J a m z, R) uc us) : q_W L d mi x Q pc ls (.long z :: .int (nI m) :: .ref a :: st) (n, I, J, R) uc us := by
  obtain ⟨h1, h2⟩ := q_ix hm (Nat.le_of_ble_eq_true hl)
  refine q_one hc rfl ?_
  refine ⟨len, ha, h1, ?_⟩
  rw [h2]
  exact h
theorem q_zas (hc : q_xC x pc = some (.bastore)) (ha : q_ar n a 2 len) (hm : m < len) (hl : Nat.ble len 10000 = true) (hz : q_bz v) (h : q_W L d mi x Q (pc + 1) ls (st) (n, q_up I a m v, J, R) uc us) : q_W L d mi x Q pc ls (.int v :: .int (nI m) :: .ref a :: st) (n, I, J, R) uc us := by
  obtain ⟨h1, h2⟩ := q_ix hm (Nat.le_of_ble_eq_true hl)
  refine q_one hc rfl ?_
  refine ⟨len, ha, h1, hz, ?_⟩
  rw [h2]
  exact h
theorem q_aas {t : Nat} (hc : q_xC x pc = some .aastore) (ha : q_ar n a t len) (ht : Nat.ble 3 t = true ∧ Nat.ble t 6 = true) (ho : q_ob n b (q_el t)) (hm : m < len) (hl : Nat.ble len 10000 = true) (h : q_W L d mi x Q (pc + 1) ls (st) (n, I, J, q_up R a m (some b)) uc us) : q_W L d mi x Q pc ls (.ref b :: .int (nI m) :: .ref a :: st) (n, I, J, R) uc us := by
  obtain ⟨h1, h2⟩ := q_ix hm (Nat.le_of_ble_eq_true hl)
  refine q_one hc rfl ?_
  refine ⟨t, len, ⟨ha, Nat.le_of_ble_eq_true ht.1, Nat.le_of_ble_eq_true ht.2⟩, ho, h1, ?_⟩
  rw [h2]
  exact h
theorem q_ac {sp dp c n0 n1 : Nat} (hc : q_xC x pc = some (.invokestatic idx)) (hf : q_mr (q_xO x) idx = some (0, 5, 4)) (hct : Nat.ble (q_cat st) 8 = true) (h0 : q_ac0 n a n0) (ha : q_ar n b 0 n1) (h1 : sp + c ≤ n0) (h2 : dp + c ≤ n1) (hl : Nat.ble n0 10000 = true ∧ Nat.ble n1 10000 = true)
    (h : q_W L d mi x Q (pc + 3) ls (st) (n, va_up I b (va_cpy (I a) (I b) sp dp c), J, R) uc us) : q_W L d mi x Q pc ls (.int (nI c) :: .int (nI dp) :: .ref b :: .int (nI sp) :: .ref a :: st) (n, I, J, R) uc us := by
  have g0 := Nat.le_of_ble_eq_true hl.1
  have g1 := Nat.le_of_ble_eq_true hl.2
  refine q_one hc rfl ?_
  dsimp only [q_eff]
  rw [show q_mr x.2.2.2.2.1 idx = _ from hf]
  simp only
  rw [hct]
  refine Or.inl ⟨n0, n1, h0, ha, ⟨nI_pos (by omega), nI_pos (by omega), nI_pos (by omega), ?_, ?_⟩, ?_⟩
  · rw [nI_clamp (by omega), nI_clamp (by omega)]; exact h1
  · rw [nI_clamp (by omega), nI_clamp (by omega)]; exact h2
  · rw [nI_clamp (by omega), nI_clamp (by omega), nI_clamp (by omega)]; exact h
theorem q_acL {sp dp c n0 n1 : Nat} (hc : q_xC x pc = some (.invokestatic idx)) (hf : q_mr (q_xO x) idx = some (0, 5, 4)) (hct : Nat.ble (q_cat st) 8 = true) (h0 : q_ar n a 1 n0) (ha : q_ar n b 1 n1) (h1 : sp + c ≤ n0) (h2 : dp + c ≤ n1) (hl : Nat.ble n0 10000 = true ∧ Nat.ble n1 10000 = true)
    (h : q_W L d mi x Q (pc + 3) ls (st) (n, I, va_up J b (va_cpy (J a) (J b) sp dp c), R) uc us) : q_W L d mi x Q pc ls (.int (nI c) :: .int (nI dp) :: .ref b :: .int (nI sp) :: .ref a :: st) (n, I, J, R) uc us := by
  have g0 := Nat.le_of_ble_eq_true hl.1
  have g1 := Nat.le_of_ble_eq_true hl.2
  refine q_one hc rfl ?_
  dsimp only [q_eff]
  rw [show q_mr x.2.2.2.2.1 idx = _ from hf]
  simp only
  rw [hct]
  refine Or.inr ⟨n0, n1, h0, ha, ⟨nI_pos (by omega), nI_pos (by omega), nI_pos (by omega), ?_, ?_⟩, ?_⟩
  · rw [nI_clamp (by omega), nI_clamp (by omega)]; exact h1
  · rw [nI_clamp (by omega), nI_clamp (by omega)]; exact h2
  · rw [nI_clamp (by omega), nI_clamp (by omega), nI_clamp (by omega)]; exact h
theorem q_mmn (hc : q_xC x pc = some (.invokestatic idx)) (hf : q_mr (q_xO x) idx = some (0, 2, 5)) (hct : Nat.ble (q_cat st) 8 = true) {μ : q_M} (h : q_W L d mi x Q (pc + 3) ls (.int (if w < v then w else v) :: st) μ uc us) : q_W L d mi x Q pc ls (.int w :: .int v :: st) μ uc us := by
  refine q_one hc rfl ?_
  dsimp only [q_eff]
  rw [show q_mr x.2.2.2.2.1 idx = _ from hf]
  simp only
  rw [hct]
  exact h
theorem q_oi (hc : q_xC x pc = some (.invokespecial idx)) (hf : q_mr (q_xO x) idx = some (0, 1, 3)) (hct : Nat.ble (q_cat st) 8 = true) {μ : q_M} (h : q_W L d mi x Q (pc + 3) ls st μ uc us) : q_W L d mi x Q pc ls (.ref a :: st) μ uc us := by
  refine q_one hc rfl ?_
  dsimp only [q_eff]
  rw [show q_mr x.2.2.2.2.1 idx = _ from hf]
  simp only
  rw [hct]
  exact h
theorem q_cv {mj na : Nat} {as rs st0 : List Value} {μ : q_M} (hc : q_xC x pc = some (.invokevirtual idx)) (hf : q_mr (q_xO x) idx = some (mj, na, 0)) (hs : q_spl na [] st0 = some (.ref b :: as, rs)) (ho : q_ob μ.1 b (q_mc mj)) (hct : Nat.ble (q_cat rs) 8 = true) (hal : q_al mj = none)
    (h : q_Ex L d mj (.ref b :: as) μ (fun r μ' => q_W L d mi x Q (pc + 3) ls (r.toList ++ rs) μ' uc us)) : q_W L d mi x Q pc ls st0 μ uc us := by
  refine q_one hc rfl ?_
  dsimp only [q_eff]
  rw [show q_mr x.2.2.2.2.1 idx = _ from hf]
  simp only
  rw [hs]
  refine ⟨ho, ?_⟩
  show q_do x.2.2.2.2.1 ((q_al mi).getD (0, 0)) (q_Ex L d) (q_W L d mi x Q) pc mj (.ref b :: as) rs ls μ uc us
  unfold q_do
  rw [hct]
  simp only
  rw [hal]
  exact h
theorem q_cvA {mj na ac ax : Nat} {as rs st0 : List Value} {μ : q_M} (hc : q_xC x pc = some (.invokevirtual idx)) (hf : q_mr (q_xO x) idx = some (mj, na, 0)) (hs : q_spl na [] st0 = some (.ref b :: as, rs)) (ho : q_ob μ.1 b (q_mc mj)) (hct : Nat.ble (q_cat rs) 8 = true) (hal : q_al mj = some (ac, ax)) (hcap : uc + ac ≤ ((q_al mi).getD (0, 0)).1 ∧ us + ax ≤ ((q_al mi).getD (0, 0)).2)
    (h : q_Ex L d mj (.ref b :: as) μ (fun r μ' => q_W L d mi x Q (pc + 3) ls (r.toList ++ rs) μ' (uc + ac) (us + ax))) : q_W L d mi x Q pc ls st0 μ uc us := by
  refine q_one hc rfl ?_
  dsimp only [q_eff]
  rw [show q_mr x.2.2.2.2.1 idx = _ from hf]
  simp only
  rw [hs]
  refine ⟨ho, ?_⟩
  show q_do x.2.2.2.2.1 ((q_al mi).getD (0, 0)) (q_Ex L d) (q_W L d mi x Q) pc mj (.ref b :: as) rs ls μ uc us
  unfold q_do
  rw [hct]
  simp only
  rw [hal]
  exact ⟨hcap, h⟩
theorem q_ci1 {mj na : Nat} {as rs st0 : List Value} {μ : q_M} (hc : q_xC x pc = some (.invokespecial idx)) (hf : q_mr (q_xO x) idx = some (mj, na, 1)) (hs : q_spl na [] st0 = some (.ref b :: as, rs)) (hct : Nat.ble (q_cat rs) 8 = true) (hal : q_al mj = none)
    (h : q_Ex L d mj (.ref b :: as) μ (fun r μ' => q_W L d mi x Q (pc + 3) ls (r.toList ++ rs) μ' uc us)) : q_W L d mi x Q pc ls st0 μ uc us := by
  refine q_one hc rfl ?_
  dsimp only [q_eff]
  rw [show q_mr x.2.2.2.2.1 idx = _ from hf]
  simp only
  rw [hs]
  refine ?_
  show q_do x.2.2.2.2.1 ((q_al mi).getD (0, 0)) (q_Ex L d) (q_W L d mi x Q) pc mj (.ref b :: as) rs ls μ uc us
  unfold q_do
  rw [hct]
  simp only
  rw [hal]
  exact h
theorem q_ci1A {mj na ac ax : Nat} {as rs st0 : List Value} {μ : q_M} (hc : q_xC x pc = some (.invokespecial idx)) (hf : q_mr (q_xO x) idx = some (mj, na, 1)) (hs : q_spl na [] st0 = some (.ref b :: as, rs)) (hct : Nat.ble (q_cat rs) 8 = true) (hal : q_al mj = some (ac, ax)) (hcap : uc + ac ≤ ((q_al mi).getD (0, 0)).1 ∧ us + ax ≤ ((q_al mi).getD (0, 0)).2)
    (h : q_Ex L d mj (.ref b :: as) μ (fun r μ' => q_W L d mi x Q (pc + 3) ls (r.toList ++ rs) μ' (uc + ac) (us + ax))) : q_W L d mi x Q pc ls st0 μ uc us := by
  refine q_one hc rfl ?_
  dsimp only [q_eff]
  rw [show q_mr x.2.2.2.2.1 idx = _ from hf]
  simp only
  rw [hs]
  refine ?_
  show q_do x.2.2.2.2.1 ((q_al mi).getD (0, 0)) (q_Ex L d) (q_W L d mi x Q) pc mj (.ref b :: as) rs ls μ uc us
  unfold q_do
  rw [hct]
  simp only
  rw [hal]
  exact ⟨hcap, h⟩
theorem q_cs {mj na : Nat} {as rs st0 : List Value} {μ : q_M} (hc : q_xC x pc = some (.invokestatic idx)) (hf : q_mr (q_xO x) idx = some (mj, na, 2)) (hs : q_spl na [] st0 = some (as, rs)) (hct : Nat.ble (q_cat rs) 8 = true) (hal : q_al mj = none)
    (h : q_Ex L d mj (as) μ (fun r μ' => q_W L d mi x Q (pc + 3) ls (r.toList ++ rs) μ' uc us)) : q_W L d mi x Q pc ls st0 μ uc us := by
  refine q_one hc rfl ?_
  dsimp only [q_eff]
  rw [show q_mr x.2.2.2.2.1 idx = _ from hf]
  simp only
  rw [hs]
  refine ?_
  show q_do x.2.2.2.2.1 ((q_al mi).getD (0, 0)) (q_Ex L d) (q_W L d mi x Q) pc mj (as) rs ls μ uc us
  unfold q_do
  rw [hct]
  simp only
  rw [hal]
  exact h
theorem q_csA {mj na ac ax : Nat} {as rs st0 : List Value} {μ : q_M} (hc : q_xC x pc = some (.invokestatic idx)) (hf : q_mr (q_xO x) idx = some (mj, na, 2)) (hs : q_spl na [] st0 = some (as, rs)) (hct : Nat.ble (q_cat rs) 8 = true) (hal : q_al mj = some (ac, ax)) (hcap : uc + ac ≤ ((q_al mi).getD (0, 0)).1 ∧ us + ax ≤ ((q_al mi).getD (0, 0)).2)
    (h : q_Ex L d mj (as) μ (fun r μ' => q_W L d mi x Q (pc + 3) ls (r.toList ++ rs) μ' (uc + ac) (us + ax))) : q_W L d mi x Q pc ls st0 μ uc us := by
  refine q_one hc rfl ?_
  dsimp only [q_eff]
  rw [show q_mr x.2.2.2.2.1 idx = _ from hf]
  simp only
  rw [hs]
  refine ?_
  show q_do x.2.2.2.2.1 ((q_al mi).getD (0, 0)) (q_Ex L d) (q_W L d mi x Q) pc mj (as) rs ls μ uc us
  unfold q_do
  rw [hct]
  simp only
  rw [hal]
  exact ⟨hcap, h⟩
end QStep
