section QE
variable {p : Program} {l : Launch} {e : Env} {R : Room} {s : State} {m : MethodId} {args : Array Value} {below : List Frame} {meth : Method} {c : Code} {H : Heap} {locs : List Loc} {cells slots : Nat} {Q : State → Prop}
variable {G : q_G} {cc : ByteArray} {own pc : Nat} {ls : Array Slot} {rest : List Value} {μ μ' : q_M} {a ci k ty x : Nat} {fin : Bool}
theorem q_getf (hexec : p.tables.exec = Jvm.exec) (hb : c.code = cc) (hown : s.vm.findClass (q_cn own) = some m.cls) (hts : ∀ w ∈ q_good, w.before args s = true) (E : q_E G s) (hd : decode cc pc = .ok (.getfield x, 3))
    (hfr : q_fr own x = some (ci, k, ty, fin)) (hob : q_ob μ.1 a ci) (hH : q_H G μ H) (kk : W p l e R s m args below meth c H locs cells slots Q (F0 m (pc + 3) ls (q_fv G μ ci a k :: rest))) : W p l e R s m args below meth c H locs cells slots Q (F0 m pc ls (.ref (q_rho G a) :: rest)) := by
  obtain ⟨h1, h2, h3, h4, hlink⟩ := q_fr_ok hfr
  obtain ⟨cell, c1, c2, c3, c4⟩ := q_H_obj hH hob
  obtain ⟨hSl, hfc, kC, hkC, hkind⟩ := E.1 ci h1
  obtain ⟨cf, kf, fi, f, hi, hsl⟩ := hSl k h2
  have hst := (u_facts hfc hkC (u_lays hts (q_F_in h1) h2) hi).1
  rcases hlink with h | ⟨host, h, hnf⟩
  · exact W.getf hexec hb hown (hts _ h) hi hst c1 (by rw [c3]; exact fun h => by cases h) (by rw [hsl, c4 k h2]) rfl rfl hd kk
  · exact va_Wgetf hexec hb hown (va_Nw.use rfl (E.2.2.1 _ h)) hi hst c1 (by rw [c3]; exact fun h => by cases h) (by rw [hsl, c4 k h2]) rfl rfl hd kk
theorem q_putf (hexec : p.tables.exec = Jvm.exec) (hb : c.code = cc) (hown : s.vm.findClass (q_cn own) = some m.cls) (hts : ∀ w ∈ q_good, w.before args s = true) (E : q_E G s) (hS : va_S (q_A G) s.heap H locs) (hd : decode cc pc = .ok (.putfield x, 3))
    (hfr : q_fr own x = some (ci, k, ty, fin)) {ini : Bool} (hfin : (!fin || (ini && Nat.beq own ci)) = true) (hini : ini = true → meth.name = "<init>") (hob : q_ob μ.1 a ci) (hH : q_H G μ H) {v : Value} (hn : narrow (q_fty ci k) v = v) (hf : fits (q_fty ci k) v = true)
    (hn1 : μ'.1 = μ.1) (hI : ∀ b, b ≠ a → μ'.2.1 b = μ.2.1 b) (hL : ∀ b, b ≠ a → μ'.2.2.1 b = μ.2.2.1 b) (hR : ∀ b, b ≠ a → μ'.2.2.2 b = μ.2.2.2 b) (hv : ∀ j, updV (q_fv G μ ci a) k v j = q_fv G μ' ci a j)
    (kk : ∀ H' locs', q_H G μ' H' → va_S (q_A G) s.heap H' locs' → W p l e R s m args below meth c H' locs' cells slots Q (F0 m (pc + 3) ls rest)) : W p l e R s m args below meth c H locs cells slots Q (F0 m pc ls (v :: .ref (q_rho G a) :: rest)) := by
  obtain ⟨h1, h2, h3, h4, hlink⟩ := q_fr_ok hfr
  have ha := q_ob_ge hob
  obtain ⟨cell, c1, c2, c3, c4⟩ := q_H_obj hH hob
  have hap := q_apart (G := G) hts E h1
  obtain ⟨hSl, hfc, kC, hkC, hkind⟩ := E.1 ci h1
  obtain ⟨cf, kf, fi, f, hi, hsl⟩ := hSl k h2
  have hst := (u_facts hfc hkC (u_lays hts (q_F_in h1) h2) hi).1
  have fin2 : ∀ (H' : Heap) (locs' : List Loc), H'[q_rho G a]? = some (cell.setSlot f.slot v) → H'.size = H.size → (∀ q, q ≠ q_rho G a → H'[q]? = H[q]?) → locs' = locs ++ [⟨q_rho G a, f.slot⟩] → W p l e R s m args below meth c H' locs' cells slots Q (F0 m (pc + 3) ls rest) := by
    intro H' locs' e1 e2 e3 e4
    subst e4
    rw [hsl] at e1 ⊢
    refine kk H' _ (q_H_put hH ha hn1 e2 e3 ?_ hI hL hR) (hS.put e2 e3 (q_rho_A ha))
    rw [hob.2]
    exact t_OB.to (V := updV (q_fv G μ ci a) k v) ⟨_, e1, c2, c3, t_set c4 hap h2 v⟩ (fun j _ => hv j)
  have hd2 := q_fty_ok h1 h2
  have hlt : f.slot < cell.slots.size := by rw [hsl]; exact k2_hasslot (c4 k h2)
  cases hfb : fin with
  | false =>
    have hlay := hts _ (q_F_in h1 _ (u_in_lay h2))
    unfold u_lay at hlay
    rw [if_neg (by rw [h4, hfb]; decide)] at hlay
    have h6 := u_store hfc hkC hkind hlay hi hd2 hn hf
    rcases hlink with h | ⟨host, h, hnf⟩
    · exact W.putK hexec hb (f := f) ⟨hown, hts _ h, ⟨_, _, _, hi⟩, hst⟩ (by rw [c2]; exact h6) c1 c3 hlt rfl rfl hd (fun H' e1 e2 e3 => fin2 H' _ e1 e2 e3 rfl)
    · exact va_WputK hexec hb (f := f) hown (va_Nw.use rfl (E.2.2.1 _ h)) hi hst (by rw [c2]; exact h6) c1 c3 hlt rfl rfl hd (fun H' e1 e2 e3 => fin2 H' _ e1 e2 e3 rfl)
  | true =>
    rw [hfb] at hfin
    have hfin : (ini && Nat.beq own ci) = true := hfin
    rw [Bool.and_eq_true] at hfin
    have hoc := Nat.eq_of_beq_eq_true hfin.2
    have hlay := hts _ (q_F_in h1 _ (u_in_lay h2))
    unfold u_lay at hlay
    rw [if_pos (by rw [h4, hfb])] at hlay
    have hcf : m.cls = cf := by
      obtain ⟨_, _, c', _, _, _, -, -, hf', -, -, -, hown2, -⟩ := Cond.laysFinal_spec hlay
      have e1 : c' = cf := by have := hi.symm.trans hf'; simp at this; exact this.1.symm
      rw [q_F_own h1 h2, ← hoc] at hown2
      rw [← e1]; exact Option.some.inj (hown.symm.trans hown2)
    have h6 := u_fits hfc hkC hkind (Or.inr hlay) hi hd2 hn hf
    rcases hlink with h | ⟨host, h, hnf⟩
    · exact W.putFinK hexec hb hown (hts _ h) hi hst hcf (hini hfin.1) (by rw [c2]; exact h6) c1 c3 hlt rfl rfl hd (fun H' e1 e2 e3 => fin2 H' _ e1 e2 e3 rfl)
    · rw [hfb] at hnf; cases hnf
theorem q_noU {cA : ClassId} {N : Nat} {f : Nat → Value} : (arrV cA N f).vm ≠ .unknown := fun h => by cases h
theorem q_inV {cA : ClassId} {N : Nat} {f : Nat → Value} {j : Int32} (h : vp_in j N) : ¬ (j < 0 ∨ (arrV cA N f).slots.size ≤ j.toNatClampNeg) := by rw [arrV_size]; exact h
theorem q_inL {j : Int32} {N : Nat} (h : vp_in j N) : j.toNatClampNeg < N := Nat.not_le.mp fun q => h (Or.inr q)
theorem q_iald (hexec : p.tables.exec = Jvm.exec) (hb : c.code = cc) (E : q_E G s) (hS : va_S (q_A G) s.heap H locs) (hd : decode cc pc = .ok (.iaload, 1)) {len : Nat} {j : Int32} (ha : q_ai (q_ln G) μ.1 a len) (hj : vp_in j len) (hH : q_H G μ H)
    (kk : W p l e R s m args below meth c H locs cells slots Q (F0 m (pc + 1) ls (.int (μ.2.1 a j.toNatClampNeg) :: rest))) : W p l e R s m args below meth c H locs cells slots Q (F0 m pc ls (.int j :: .ref (q_rho G a) :: rest)) := by
  rcases ha with ha | ⟨rfl, rfl⟩
  · exact W.iald hexec hb (q_H_arr hH ha (by decide)) ((E.2.1 0 (by decide)).1 _ _) q_noU (q_inV hj) (by rw [arrV_read _ _ (q_inL hj)]; rfl) rfl rfl hd kk
  · obtain ⟨cell, h1, h2, h3, h4, h5, h6, h7⟩ := E.2.2.2.2.1 2 (by decide)
    have hlt := q_inL hj
    have hr : q_rho G 2 = q_ad G 2 := rfl
    rw [hr]
    refine W.iald hexec hb (cell := cell) (v := .int (μ.2.1 2 j.toNatClampNeg)) ?_ h2 h3 (fun q => ?_) ?_ rfl rfl hd kk
    · rw [hS.2.1 _ (Array.getElem?_eq_some_iff.mp h1).1 h7]; exact h1
    · rcases q with q | q
      · exact hj (Or.inl q)
      · exact hj (Or.inr (Nat.le_trans h4 q))
    · rw [h6 _ hlt, hH.2.2.2 2 (by decide) _ hlt]
theorem q_lald (hexec : p.tables.exec = Jvm.exec) (hb : c.code = cc) (E : q_E G s) (hd : decode cc pc = .ok (.laload, 1)) {len : Nat} {j : Int32} (ha : q_ar μ.1 a 1 len) (hj : vp_in j len) (hH : q_H G μ H)
    (kk : W p l e R s m args below meth c H locs cells slots Q (F0 m (pc + 1) ls (.long (μ.2.2.1 a j.toNatClampNeg) :: rest))) : W p l e R s m args below meth c H locs cells slots Q (F0 m pc ls (.int j :: .ref (q_rho G a) :: rest)) :=
  W.lald hexec hb (q_H_arr hH ha (by decide)) ((E.2.1 1 (by decide)).1 _ _) q_noU (q_inV hj) (by rw [arrV_read _ _ (q_inL hj)]; rfl) rfl rfl hd kk
theorem q_zald (hexec : p.tables.exec = Jvm.exec) (hb : c.code = cc) (E : q_E G s) (hd : decode cc pc = .ok (.baload, 1)) {len : Nat} {j : Int32} (ha : q_ar μ.1 a 2 len) (hj : vp_in j len) (hH : q_H G μ H)
    (kk : W p l e R s m args below meth c H locs cells slots Q (F0 m (pc + 1) ls (.int (μ.2.1 a j.toNatClampNeg) :: rest))) : W p l e R s m args below meth c H locs cells slots Q (F0 m pc ls (.int j :: .ref (q_rho G a) :: rest)) :=
  W.zald hexec hb (q_H_arr hH ha (by decide)) ((E.2.1 2 (by decide)).1 _ _) q_noU (q_inV hj) (by rw [arrV_read _ _ (q_inL hj)]; rfl) rfl rfl hd kk
theorem q_ref_ty {t : Nat} (h3 : 3 ≤ t) (h7 : t ≤ 7) : (q_ety t).isReference = true := by
  have e : t = 3 ∨ t = 4 ∨ t = 5 ∨ t = 6 ∨ t = 7 := by omega
  rcases e with rfl | rfl | rfl | rfl | rfl <;> rfl
theorem q_ev_ref {t : Nat} (h3 : 3 ≤ t) (j : Nat) : q_ev G μ t a j = va_rf ((μ.2.2.2 a j).map (q_rho G)) := by
  unfold q_ev
  split
  · omega
  · omega
  · omega
  · rfl
theorem q_aald (hexec : p.tables.exec = Jvm.exec) (hb : c.code = cc) (E : q_E G s) (hd : decode cc pc = .ok (.aaload, 1)) {t len b : Nat} {j : Int32} (ha : q_ar μ.1 a t len) (h3 : 3 ≤ t) (h7 : t ≤ 7) (hj : vp_in j len) (hR : μ.2.2.2 a j.toNatClampNeg = some b) (hH : q_H G μ H)
    (kk : W p l e R s m args below meth c H locs cells slots Q (F0 m (pc + 1) ls (.ref (q_rho G b) :: rest))) : W p l e R s m args below meth c H locs cells slots Q (F0 m pc ls (.int j :: .ref (q_rho G a) :: rest)) :=
  W.aald hexec hb (q_H_arr hH ha (by omega)) ((E.2.1 t (by omega)).1 _ _) (q_ref_ty h3 h7) q_noU (q_inV hj) (by rw [arrV_read _ _ (q_inL hj), q_ev_ref h3, hR]; rfl) rfl rfl hd kk
/-- behind a store into a row -/
theorem q_stored {t len : Nat} {j : Int32} {v : Value} {H' : Heap} {locs : List Loc} (hS : va_S (q_A G) s.heap H locs) (ha : q_ar μ.1 a t len) (ht : t < 8) (hH : q_H G μ H) (hn1 : μ'.1 = μ.1) (hI : ∀ b, b ≠ a → μ'.2.1 b = μ.2.1 b) (hL : ∀ b, b ≠ a → μ'.2.2.1 b = μ.2.2.1 b) (hR : ∀ b, b ≠ a → μ'.2.2.2 b = μ.2.2.2 b)
    (hv : ∀ i, updV (q_ev G μ t a) j.toNatClampNeg v i = q_ev G μ' t a i)
    (e1 : H'[q_rho G a]? = some ((arrV (q_dA G t) len (q_ev G μ t a)).setSlot j.toNatClampNeg v)) (e2 : H'.size = H.size) (e3 : ∀ q, q ≠ q_rho G a → H'[q]? = H[q]?) : q_H G μ' H' ∧ va_S (q_A G) s.heap H' (locs ++ [⟨q_rho G a, j.toNatClampNeg⟩]) := by
  have h3 : 3 ≤ a := by have := ha.1; omega
  refine ⟨q_H_put hH h3 hn1 e2 e3 ?_ hI hL hR, hS.put e2 e3 (q_rho_A h3)⟩
  rw [ha.2.2]
  unfold q_cell
  have e : Nat.beq t 8 = false := by
    cases hb : Nat.beq t 8 with
    | false => rfl
    | true => have := Nat.eq_of_beq_eq_true hb; omega
  rw [e]
  show H'[q_rho G a]? = some (arrV _ _ _)
  rw [e1, arrV_store, funext hv]
theorem q_iast (hexec : p.tables.exec = Jvm.exec) (hb : c.code = cc) (E : q_E G s) (hS : va_S (q_A G) s.heap H locs) (hd : decode cc pc = .ok (.iastore, 1)) {len : Nat} {j v : Int32} (ha : q_ar μ.1 a 0 len) (hj : vp_in j len) (hH : q_H G μ H)
    (kk : ∀ H' locs', q_H G (μ.1, q_up μ.2.1 a j.toNatClampNeg v, μ.2.2.1, μ.2.2.2) H' → va_S (q_A G) s.heap H' locs' → W p l e R s m args below meth c H' locs' cells slots Q (F0 m (pc + 1) ls rest)) : W p l e R s m args below meth c H locs cells slots Q (F0 m pc ls (.int v :: .int j :: .ref (q_rho G a) :: rest)) := by
  refine W.iast hexec hb (q_H_arr hH ha (by decide)) ((E.2.1 0 (by decide)).1 _ _) q_noU (q_inV hj) rfl rfl hd fun H' e1 e2 e3 => ?_
  obtain ⟨g1, g2⟩ := q_stored (μ' := (μ.1, q_up μ.2.1 a j.toNatClampNeg v, μ.2.2.1, μ.2.2.2)) hS ha (by decide) hH rfl (fun b hb => va_up_ne _ _ hb) (fun _ _ => rfl) (fun _ _ => rfl) (fun i => by
    simp only [updV, q_ev, q_up, va_up_self]; unfold va_up; split <;> rfl) e1 e2 e3
  exact kk H' _ g1 g2
theorem q_zast (hexec : p.tables.exec = Jvm.exec) (hb : c.code = cc) (E : q_E G s) (hS : va_S (q_A G) s.heap H locs) (hd : decode cc pc = .ok (.bastore, 1)) {len : Nat} {j v : Int32} (ha : q_ar μ.1 a 2 len) (hj : vp_in j len) (hz : q_bz v) (hH : q_H G μ H)
    (kk : ∀ H' locs', q_H G (μ.1, q_up μ.2.1 a j.toNatClampNeg v, μ.2.2.1, μ.2.2.2) H' → va_S (q_A G) s.heap H' locs' → W p l e R s m args below meth c H' locs' cells slots Q (F0 m (pc + 1) ls rest)) : W p l e R s m args below meth c H locs cells slots Q (F0 m pc ls (.int v :: .int j :: .ref (q_rho G a) :: rest)) := by
  refine W.zast hexec hb (q_H_arr hH ha (by decide)) ((E.2.1 2 (by decide)).1 _ _) q_noU (q_inV hj) rfl rfl hd fun H' e1 e2 e3 => ?_
  have hnz : narrow .boolean (.int v) = .int v := by rcases hz with rfl | rfl <;> rfl
  rw [hnz] at e1
  obtain ⟨g1, g2⟩ := q_stored (μ' := (μ.1, q_up μ.2.1 a j.toNatClampNeg v, μ.2.2.1, μ.2.2.2)) hS ha (by decide) hH rfl (fun b hb => va_up_ne _ _ hb) (fun _ _ => rfl) (fun _ _ => rfl) (fun i => by
    simp only [updV, q_ev, q_up, va_up_self]; unfold va_up; split <;> rfl) e1 e2 e3
  exact kk H' _ g1 g2
theorem q_last (hexec : p.tables.exec = Jvm.exec) (hb : c.code = cc) (E : q_E G s) (hS : va_S (q_A G) s.heap H locs) (hd : decode cc pc = .ok (.lastore, 1)) {len : Nat} {j : Int32} {v : Int64} (ha : q_ar μ.1 a 1 len) (hj : vp_in j len) (hH : q_H G μ H)
    (kk : ∀ H' locs', q_H G (μ.1, μ.2.1, q_up μ.2.2.1 a j.toNatClampNeg v, μ.2.2.2) H' → va_S (q_A G) s.heap H' locs' → W p l e R s m args below meth c H' locs' cells slots Q (F0 m (pc + 1) ls rest)) : W p l e R s m args below meth c H locs cells slots Q (F0 m pc ls (.long v :: .int j :: .ref (q_rho G a) :: rest)) := by
  refine W.last hexec hb (q_H_arr hH ha (by decide)) ((E.2.1 1 (by decide)).1 _ _) q_noU (q_inV hj) rfl rfl hd fun H' e1 e2 e3 => ?_
  obtain ⟨g1, g2⟩ := q_stored (μ' := (μ.1, μ.2.1, q_up μ.2.2.1 a j.toNatClampNeg v, μ.2.2.2)) hS ha (by decide) hH rfl (fun _ _ => rfl) (fun b hb => va_up_ne _ _ hb) (fun _ _ => rfl) (fun i => by
    simp only [updV, q_ev, q_up, va_up_self]; unfold va_up; split <;> rfl) e1 e2 e3
  exact kk H' _ g1 g2
theorem q_ety_el {t : Nat} (h3 : 3 ≤ t) (h6 : t ≤ 6) : q_ety t = .object (q_cn (q_el t)) ∧ q_el t < 9 := by
  have e : t = 3 ∨ t = 4 ∨ t = 5 ∨ t = 6 := by omega
  rcases e with rfl | rfl | rfl | rfl <;> exact ⟨rfl, by decide⟩
theorem q_aast (hexec : p.tables.exec = Jvm.exec) (hb : c.code = cc) (E : q_E G s) (hS : va_S (q_A G) s.heap H locs) (hd : decode cc pc = .ok (.aastore, 1)) {t len b : Nat} {j : Int32} (ha : q_ar μ.1 a t len) (h3 : 3 ≤ t) (h6 : t ≤ 6) (hob : q_ob μ.1 b (q_el t)) (hj : vp_in j len) (hH : q_H G μ H)
    (kk : ∀ H' locs', q_H G (μ.1, μ.2.1, μ.2.2.1, q_up μ.2.2.2 a j.toNatClampNeg (some b)) H' → va_S (q_A G) s.heap H' locs' → W p l e R s m args below meth c H' locs' cells slots Q (F0 m (pc + 1) ls rest)) : W p l e R s m args below meth c H locs cells slots Q (F0 m pc ls (.ref (q_rho G b) :: .int j :: .ref (q_rho G a) :: rest)) := by
  obtain ⟨hety, hel⟩ := q_ety_el h3 h6
  obtain ⟨-, hRA⟩ := E.2.1 t (by omega)
  rw [hety] at hRA
  obtain ⟨kA, comp, g1, g2, g3, g4⟩ := hRA
  obtain ⟨cell, c1, c2, c3, c4⟩ := q_H_obj hH hob
  obtain ⟨-, hfc, kC, hkC, hkind⟩ := E.1 _ hel
  cases hfc.symm.trans g3
  refine W.aast hexec hb (q_H_arr hH ha (by omega)) (fun q h => by cases h) q_noU g1 g2 rfl hkC ⟨fun q => hj (Or.inl q), by rw [arrV_size]; exact q_inL hj⟩ c1 (fun q h => by rw [c3] at h; cases h) (by rw [c2]; exact hkC) (by rw [c2]; exact va_asg _ _) rfl rfl hd fun H' e1 e2 e3 => ?_
  obtain ⟨k1, k2⟩ := q_stored (μ' := (μ.1, μ.2.1, μ.2.2.1, q_up μ.2.2.2 a j.toNatClampNeg (some b))) hS ha (by omega) hH rfl (fun _ _ => rfl) (fun _ _ => rfl) (fun b hb => va_up_ne _ _ hb) (fun i => by
    rw [q_ev_ref h3]; simp only [updV, q_up, va_up_self]; rw [q_ev_ref h3]; unfold va_up; split <;> rfl) e1 e2 e3
  exact kk H' _ k1 k2
theorem q_slen (hexec : p.tables.exec = Jvm.exec) (hb : c.code = cc) (E : q_E G s) (hS : va_S (q_A G) s.heap H locs) (hd : decode cc pc = .ok (.arraylength, 1))
    (kk : W p l e R s m args below meth c H locs cells slots Q (F0 m (pc + 1) ls (.int (nI (q_ln G)) :: rest))) : W p l e R s m args below meth c H locs cells slots Q (F0 m pc ls (.ref (q_rho G 2) :: rest)) := by
  obtain ⟨cell, h1, h2, h3, h4, h5, h6, h7⟩ := E.2.2.2.2.1 2 (by decide)
  have hr : q_rho G 2 = q_ad G 2 := rfl
  rw [hr]
  exact W.alen hexec hb (cell := cell) (by rw [hS.2.1 _ (Array.getElem?_eq_some_iff.mp h1).1 h7]; exact h1) h2 h5 rfl rfl hd kk
theorem q_S_new {H' : Heap} (hS : va_S (q_A G) s.heap H locs) (hz : H.size ≤ H'.size) (ho : ∀ q, q < H.size → H'[q]? = H[q]?) : va_S (q_A G) s.heap H' locs :=
  ⟨Nat.le_trans hS.1 hz, fun q h1 h2 => (ho q (Nat.lt_of_lt_of_le h1 hS.1)).trans (hS.2.1 q h1 h2), hS.2.2⟩
theorem q_newc (hexec : p.tables.exec = Jvm.exec) (hb : c.code = cc) (hown : s.vm.findClass (q_cn own) = some m.cls) (hts : ∀ w ∈ q_good, w.before args s = true) (E : q_E G s) (hS : va_S (q_A G) s.heap H locs) (hd : decode cc pc = .ok (.new x, 3))
    (hcr : q_cr own x = some ci) (hkd : q_kd μ.1 = (8, ci)) (hc : cells + 1 ≤ R.cells) (hsl : slots + q_nf ci ≤ R.slots) (hH : q_H G μ H)
    (kk : ∀ H', q_H G (μ.1 + 1, va_up μ.2.1 μ.1 (fun _ => 0), va_up μ.2.2.1 μ.1 (fun _ => 0), va_up μ.2.2.2 μ.1 (fun _ => none)) H' → va_S (q_A G) s.heap H' locs → W p l e R s m args below meth c H' locs (cells + 1) (slots + q_nf ci) Q (F0 m (pc + 3) ls (.ref (q_rho G μ.1) :: rest))) : W p l e R s m args below meth c H locs cells slots Q (F0 m pc ls rest) := by
  obtain ⟨h1, h2⟩ := q_cr_ok hcr
  obtain ⟨h3, h4⟩ := q_cls_ok h1
  have hKn := E.1 ci h1
  refine W.newcK hexec hb hown (hts _ h2) (hts _ h3) (hts _ h4) rfl hd hc hsl hKn.2.1 (q_H_at hH) fun H' kC hkC e1 z1 o1 => ?_
  have o1 : ∀ q, q < H.size → H'[q]? = H[q]? := fun q hq => o1 q (by rw [← q_H_at hH]; exact hq)
  have z1 : H'.size = H.size + 1 := by rw [z1, q_H_at hH]
  refine kk H' (q_H_new hH rfl z1 o1 ?_ (fun b hb => va_up_ne _ _ hb) (fun b hb => va_up_ne _ _ hb) (fun b hb => va_up_ne _ _ hb)) (q_S_new hS (by omega) o1)
  rw [hkd]
  exact (u_born (q_fty ci) hts (q_F_in h1) hKn hkC e1 (fun k hk => q_fty_ok h1 hk)).to (fun k hk => by
    rw [q_fty_def h1 hk]
    simp only [q_fv, va_up_self, Option.map_none]
    rfl)
theorem q_newa (hexec : p.tables.exec = Jvm.exec) (hb : c.code = cc) (hts : ∀ w ∈ q_good, w.before args s = true) (E : q_E G s) (hS : va_S (q_A G) s.heap H locs) {t : ArrayType} {tg N : Nat} {v : Int32} (hd : decode cc pc = .ok (.newarray t, 2))
    (htg : q_tagOf t = some tg) (hkd : q_kd μ.1 = (tg, N)) (hv : ¬ v < 0) (hN : v.toNatClampNeg = N) (hN1 : N ≤ 10000) (hc : cells + 1 ≤ R.cells) (hsl : slots + N ≤ R.slots) (hH : q_H G μ H)
    (kk : ∀ H', q_H G (μ.1 + 1, va_up μ.2.1 μ.1 (fun _ => 0), va_up μ.2.2.1 μ.1 (fun _ => 0), μ.2.2.2) H' → va_S (q_A G) s.heap H' locs → W p l e R s m args below meth c H' locs (cells + 1) (slots + N) Q (F0 m (pc + 2) ls (.ref (q_rho G μ.1) :: rest))) : W p l e R s m args below meth c H locs cells slots Q (F0 m pc ls (.int v :: rest)) := by
  have ht : tg < 3 ∧ newarray.typeOf t = q_ety tg ∧ Cond.arrayClass (newarray.typeOf t) ∈ q_good ∧ N * componentBytes (newarray.typeOf t) ≤ 536870912 := by
    cases t
    case int => obtain rfl := Option.some.inj htg; exact ⟨by decide, rfl, q_arrcls _ (Or.inl rfl), by show N * 4 ≤ _; omega⟩
    case long => obtain rfl := Option.some.inj htg; exact ⟨by decide, rfl, q_arrcls _ (Or.inr (Or.inl rfl)), by show N * 8 ≤ _; omega⟩
    case boolean => obtain rfl := Option.some.inj htg; exact ⟨by decide, rfl, q_arrcls _ (Or.inr (Or.inr rfl)), by show N * 1 ≤ _; omega⟩
    all_goals exact absurd htg (fun z => by cases z)
  obtain ⟨ht1, ht2, ht3, ht4⟩ := ht
  refine va_newaK hexec hb (hts _ ht3) rfl hd rfl hv hN ht4 hc hsl (q_H_at hH) fun H' cA e1 z1 o1 hAr hNm => ?_
  have o1 : ∀ q, q < H.size → H'[q]? = H[q]? := fun q hq => o1 q (by rw [← q_H_at hH]; exact hq)
  have z1 : H'.size = H.size + 1 := by rw [z1, q_H_at hH]
  have hcA : cA = q_dA G tg := by
    have h := (E.2.1 tg (by omega)).2
    rw [ht2] at hNm
    have e : tg = 0 ∨ tg = 1 ∨ tg = 2 := by omega
    rcases e with rfl | rfl | rfl <;> exact Option.some.inj (hNm.symm.trans h)
  refine kk H' (q_H_new hH rfl z1 o1 ?_ (fun b hb => va_up_ne _ _ hb) (fun b hb => va_up_ne _ _ hb) (fun _ _ => rfl)) (q_S_new hS (by omega) o1)
  rw [hkd]
  unfold q_cell
  have e : Nat.beq tg 8 = false := by
    have e : tg = 0 ∨ tg = 1 ∨ tg = 2 := by omega
    rcases e with rfl | rfl | rfl <;> rfl
  rw [e]
  show H'[q_rho G μ.1]? = some (arrV _ _ _)
  rw [e1, hcA, ht2]
  have e : tg = 0 ∨ tg = 1 ∨ tg = 2 := by omega
  rcases e with rfl | rfl | rfl <;> (congr 2; funext j; simp only [q_ev, va_up_self]; rfl)
theorem q_anew (hexec : p.tables.exec = Jvm.exec) (hb : c.code = cc) (hown : s.vm.findClass (q_cn own) = some m.cls) (hts : ∀ w ∈ q_good, w.before args s = true) (E : q_E G s) (hS : va_S (q_A G) s.heap H locs) {t N : Nat} {v : Int32} (hd : decode cc pc = .ok (.anewarray x, 3))
    (hcr : q_cr own x = some ci) (hkd : q_kd μ.1 = (t, N)) (h3 : 3 ≤ t) (h6 : t ≤ 6) (hel : q_el t = ci) (hv : ¬ v < 0) (hN : v.toNatClampNeg = N) (hN1 : N ≤ 10000) (hc : cells + 1 ≤ R.cells) (hsl : slots + N ≤ R.slots) (hH : q_H G μ H)
    (kk : ∀ H', q_H G (μ.1 + 1, μ.2.1, μ.2.2.1, va_up μ.2.2.2 μ.1 (fun _ => none)) H' → va_S (q_A G) s.heap H' locs → W p l e R s m args below meth c H' locs (cells + 1) (slots + N) Q (F0 m (pc + 3) ls (.ref (q_rho G μ.1) :: rest))) : W p l e R s m args below meth c H locs cells slots Q (F0 m pc ls (.int v :: rest)) := by
  subst hN
  subst hel
  obtain ⟨h1, h2⟩ := q_cr_ok hcr
  obtain ⟨hety, -⟩ := q_ety_el h3 h6
  refine W.anew hexec hb hown (hts _ h2) (va_AO.use (E.2.2.2.2.2.2.1 t h3 (by omega))) rfl hd rfl hv (by omega) hc hsl fun cA kA comp g1 g2 g3 g4 => ?_
  have hcA : cA = q_dA G t := by
    have h := (E.2.1 t (by omega)).2
    rw [hety] at h
    obtain ⟨kA', comp', k1, k2, k3, k4⟩ := h
    exact Option.some.inj (g1.symm.trans k4)
  have hz : (H.push { cls := cA, slots := Array.replicate v.toNatClampNeg .null, vm := .none }).size = H.size + 1 := by simp
  have ho : ∀ q, q < H.size → (H.push { cls := cA, slots := Array.replicate v.toNatClampNeg .null, vm := .none })[q]? = H[q]? := fun q hq => by rw [Array.getElem?_push, if_neg (Nat.ne_of_lt hq)]
  rw [q_H_at hH]
  refine kk _ (q_H_new hH rfl hz ho ?_ (fun _ _ => rfl) (fun _ _ => rfl) (fun b hb => va_up_ne _ _ hb)) (q_S_new hS (by omega) ho)
  rw [hkd]
  unfold q_cell
  have e : Nat.beq t 8 = false := by
    cases hb : Nat.beq t 8 with
    | false => rfl
    | true => have := Nat.eq_of_beq_eq_true hb; omega
  rw [e]
  show (H.push _)[q_rho G μ.1]? = some (arrV _ _ _)
  rw [← q_H_at hH, Array.getElem?_push, if_pos rfl, arrV_new, hcA]
  congr 2
  funext j
  rw [q_ev_ref h3]
  simp only [va_up_self, Option.map_none]
  rfl
end QE
