theorem q_nn (z : Int32) (hz : ¬ z < 0) : z.toInt = (z.toNatClampNeg : Int) := by
  have hz0 : (0 : Int) ≤ z.toInt := by
    have := Int32.not_lt.mp hz
    simpa using Int32.le_iff_toInt_le.mp this
  show z.toInt = ((z.toInt.toNat : Nat) : Int)
  omega
theorem q_cat_eq : ∀ (r : List Value) (G : q_G), ((r.map (q_v G)).map fun v => v.category).sum = q_cat r
  | [], _ => rfl
  | v :: r, G => by
    show (q_v G v).category + ((r.map (q_v G)).map fun v => v.category).sum = v.category + q_cat r
    rw [q_v_cat, q_cat_eq r G]
section QCp
variable {p : Program} {l : Launch} {e : Env} {R : Room} {s : State} {m : MethodId} {args : Array Value} {below : List Frame} {meth : Method} {c : Code} {H : Heap} {locs : List Loc} {cells slots : Nat} {Q : State → Prop}
variable {G : q_G} {cc : ByteArray} {own pc : Nat} {ls : Array Slot} {rest : List Value} {μ μ' : q_M} {a x : Nat}
theorem q_copyi (hexec : p.tables.exec = Jvm.exec) (hb : c.code = cc) (hown : s.vm.findClass (q_cn own) = some m.cls) (hts : ∀ w ∈ q_good, w.before args s = true) (E : q_E G s) (hS : va_S (q_A G) s.heap H locs) (hml : ls.size = c.maxLocals) (hd : decode cc pc = .ok (.invokestatic x, 3))
    (hlink : Cond.methodLink (q_cn own) x arraycopyName ∈ q_good) {src n0 n1 : Nat} {scr : Cell} {f : Nat → Int32} {sp dp n : Int32} (hc0 : H[src]? = some scr) (hs6 : s.isArrayOf scr (q_ety 0)) (hs3 : scr.vm ≠ .unknown) (hs4 : n0 ≤ scr.slots.size) (hs5 : ∀ j, j < n0 → scr.slots[j]? = some (Value.int (f j)))
    (ha : q_ar μ.1 a 0 n1) (hcp : q_cp sp dp n n0 n1) (hframes : 1 ≤ R.frames) (hlocals : (rest.map fun v => v.category).sum + 30 ≤ R.locals) (hH : q_H G μ H)
    (kk : ∀ H' locs', q_H G (μ.1, va_up μ.2.1 a (va_cpy f (μ.2.1 a) sp.toNatClampNeg dp.toNatClampNeg n.toNatClampNeg), μ.2.2.1, μ.2.2.2) H' → va_S (q_A G) s.heap H' locs' → W p l e R s m args below meth c H' locs' cells slots Q (F0 m (pc + 3) ls rest)) :
    W p l e R s m args below meth c H locs cells slots Q (F0 m pc ls (.int n :: .int dp :: .ref (q_rho G a) :: .int sp :: .ref src :: rest)) := by
  obtain ⟨h1, h2, h3, h4, h5⟩ := hcp
  have h3a : 3 ≤ a := by have := ha.1; omega
  have hc1 : H[q_rho G a]? = some (arrV (q_dA G 0) n1 (fun j => Value.int (μ.2.1 a j))) := q_H_arr hH ha (by decide)
  have hroom : 2 * 0 + (rest.map fun v => v.category).sum + (nativeFrameWords "java/lang/System" "arraycopy" 5 + 11) ≤ R.locals := by
    have h7 : nativeFrameWords "java/lang/System" "arraycopy" 5 = 7 := by decide +kernel
    omega
  intro T hT X
  obtain ⟨hs6, k0, hk0, cm0, hkk0⟩ := hs6
  obtain ⟨-, k1, hk1, cm1, hkk1⟩ := (E.2.1 0 (by decide)).1 n1 (fun j => Value.int (μ.2.1 a j))
  obtain ⟨vm', X', step⟩ := X.arraycopy hexec hown (hts _ hlink) (hts _ q_cpnat) (hts _ q_cpstat) (hts _ q_cpini) (src := src) (dst := q_rho G a) (cs := scr) (cd := arrV (q_dA G 0) n1 (fun j => Value.int (μ.2.1 a j))) (srcPos := sp) (destPos := dp) (n := n) (by rw [hT]; exact hc0) (by rw [hT]; exact hc1)
    hs6 (fun _ h => by cases h) hs3 (fun h => by cases h) hk0 hk1 hkk0 hkk1 (by decide) h1 h2 h3
    (by rw [q_nn sp h1, q_nn n h3]; omega)
    (by rw [q_nn dp h2, q_nn n h3, arrV_size]; omega)
    (fun vm₁ _ i hi => by
      have e : scr.slots.getD (sp.toNatClampNeg + i) .null = Value.int (f (sp.toNatClampNeg + i)) := by
        rw [Array.getD_eq_getD_getElem?, hs5 _ (by omega)]
        rfl
      refine ⟨?_, ?_⟩
      · rw [e]
        rfl
      · rw [e]
        exact trivial)
    (g := F0 m pc ls (.int n :: .int dp :: .ref (q_rho G a) :: .int sp :: .ref src :: rest)) rfl hml (rest := rest) rfl (by rw [hb]; exact hd) hframes hroom
  have e1 : copied scr (arrV (q_dA G 0) n1 (fun j => Value.int (μ.2.1 a j))) sp dp n = arrV (q_dA G 0) n1 (fun j => Value.int (va_cpy f (μ.2.1 a) sp.toNatClampNeg dp.toNatClampNeg n.toNatClampNeg j)) := va_copiedX (fun z => Value.int z) scr _ f _ hs5 h4
  rw [e1] at X' step
  generalize hnw : arrV (q_dA G 0) n1 (fun j => Value.int (va_cpy f (μ.2.1 a) sp.toNatClampNeg dp.toNatClampNeg n.toNatClampNeg j)) = nw at X' step
  have hl : q_rho G a < H.size := (Array.getElem?_eq_some_iff.mp hc1).1
  have hheap : ((T.setVm vm').setCell (q_rho G a) nw).heap = H.setIfInBounds (q_rho G a) nw := by rw [← hT]; rfl
  have oq : ∀ q : Nat, q ≠ q_rho G a → (H.setIfInBounds (q_rho G a) nw)[q]? = H[q]? := fun q hq => by simp [Array.getElem?_setIfInBounds, Ne.symm hq]
  have zq : (H.setIfInBounds (q_rho G a) nw).size = H.size := by simp
  have eq1 : (H.setIfInBounds (q_rho G a) nw)[q_rho G a]? = some nw := by simp [Array.getElem?_setIfInBounds, hl]
  obtain ⟨t, a1, b1⟩ := kk _ _ (q_H_put hH h3a rfl zq oq (by
      rw [ha.2.2]
      show (H.setIfInBounds (q_rho G a) nw)[q_rho G a]? = some (arrV _ _ _)
      rw [eq1, ← hnw]
      congr 2
      funext j
      simp only [q_ev, va_up_self]) (fun b hb => va_up_ne _ _ hb) (fun _ _ => rfl) (fun _ _ => rfl)) ⟨by rw [zq]; exact hS.1, fun q g1 g2 => by
      rw [oq q (fun e => g2 (by rw [e]; exact q_rho_A h3a))]
      exact hS.2.1 q g1 g2, fun q hq => by
      rcases List.mem_append.mp hq with h | h
      · exact hS.2.2 q h
      · obtain ⟨z, -, hz⟩ := List.mem_map.mp h
        rw [← hz]
        exact q_rho_A h3a⟩ _ hheap X'
  exact ⟨t, step t a1, b1⟩
theorem q_copyl (hexec : p.tables.exec = Jvm.exec) (hb : c.code = cc) (hown : s.vm.findClass (q_cn own) = some m.cls) (hts : ∀ w ∈ q_good, w.before args s = true) (E : q_E G s) (hS : va_S (q_A G) s.heap H locs) (hml : ls.size = c.maxLocals) (hd : decode cc pc = .ok (.invokestatic x, 3))
    (hlink : Cond.methodLink (q_cn own) x arraycopyName ∈ q_good) {src n0 n1 : Nat} {scr : Cell} {f : Nat → Int64} {sp dp n : Int32} (hc0 : H[src]? = some scr) (hs6 : s.isArrayOf scr (q_ety 1)) (hs3 : scr.vm ≠ .unknown) (hs4 : n0 ≤ scr.slots.size) (hs5 : ∀ j, j < n0 → scr.slots[j]? = some (Value.long (f j)))
    (ha : q_ar μ.1 a 1 n1) (hcp : q_cp sp dp n n0 n1) (hframes : 1 ≤ R.frames) (hlocals : (rest.map fun v => v.category).sum + 30 ≤ R.locals) (hH : q_H G μ H)
    (kk : ∀ H' locs', q_H G (μ.1, μ.2.1, va_up μ.2.2.1 a (va_cpy f (μ.2.2.1 a) sp.toNatClampNeg dp.toNatClampNeg n.toNatClampNeg), μ.2.2.2) H' → va_S (q_A G) s.heap H' locs' → W p l e R s m args below meth c H' locs' cells slots Q (F0 m (pc + 3) ls rest)) :
    W p l e R s m args below meth c H locs cells slots Q (F0 m pc ls (.int n :: .int dp :: .ref (q_rho G a) :: .int sp :: .ref src :: rest)) := by
  obtain ⟨h1, h2, h3, h4, h5⟩ := hcp
  have h3a : 3 ≤ a := by have := ha.1; omega
  have hc1 : H[q_rho G a]? = some (arrV (q_dA G 1) n1 (fun j => Value.long (μ.2.2.1 a j))) := q_H_arr hH ha (by decide)
  have hroom : 2 * 0 + (rest.map fun v => v.category).sum + (nativeFrameWords "java/lang/System" "arraycopy" 5 + 11) ≤ R.locals := by
    have h7 : nativeFrameWords "java/lang/System" "arraycopy" 5 = 7 := by decide +kernel
    omega
  intro T hT X
  obtain ⟨hs6, k0, hk0, cm0, hkk0⟩ := hs6
  obtain ⟨-, k1, hk1, cm1, hkk1⟩ := (E.2.1 1 (by decide)).1 n1 (fun j => Value.long (μ.2.2.1 a j))
  obtain ⟨vm', X', step⟩ := X.arraycopy hexec hown (hts _ hlink) (hts _ q_cpnat) (hts _ q_cpstat) (hts _ q_cpini) (src := src) (dst := q_rho G a) (cs := scr) (cd := arrV (q_dA G 1) n1 (fun j => Value.long (μ.2.2.1 a j))) (srcPos := sp) (destPos := dp) (n := n) (by rw [hT]; exact hc0) (by rw [hT]; exact hc1)
    hs6 (fun _ h => by cases h) hs3 (fun h => by cases h) hk0 hk1 hkk0 hkk1 (by decide) h1 h2 h3
    (by rw [q_nn sp h1, q_nn n h3]; omega)
    (by rw [q_nn dp h2, q_nn n h3, arrV_size]; omega)
    (fun vm₁ _ i hi => by
      have e : scr.slots.getD (sp.toNatClampNeg + i) .null = Value.long (f (sp.toNatClampNeg + i)) := by
        rw [Array.getD_eq_getD_getElem?, hs5 _ (by omega)]
        rfl
      refine ⟨?_, ?_⟩
      · rw [e]
        rfl
      · rw [e]
        exact trivial)
    (g := F0 m pc ls (.int n :: .int dp :: .ref (q_rho G a) :: .int sp :: .ref src :: rest)) rfl hml (rest := rest) rfl (by rw [hb]; exact hd) hframes hroom
  have e1 : copied scr (arrV (q_dA G 1) n1 (fun j => Value.long (μ.2.2.1 a j))) sp dp n = arrV (q_dA G 1) n1 (fun j => Value.long (va_cpy f (μ.2.2.1 a) sp.toNatClampNeg dp.toNatClampNeg n.toNatClampNeg j)) := va_copiedX (fun z => Value.long z) scr _ f _ hs5 h4
  rw [e1] at X' step
  generalize hnw : arrV (q_dA G 1) n1 (fun j => Value.long (va_cpy f (μ.2.2.1 a) sp.toNatClampNeg dp.toNatClampNeg n.toNatClampNeg j)) = nw at X' step
  have hl : q_rho G a < H.size := (Array.getElem?_eq_some_iff.mp hc1).1
  have hheap : ((T.setVm vm').setCell (q_rho G a) nw).heap = H.setIfInBounds (q_rho G a) nw := by rw [← hT]; rfl
  have oq : ∀ q : Nat, q ≠ q_rho G a → (H.setIfInBounds (q_rho G a) nw)[q]? = H[q]? := fun q hq => by simp [Array.getElem?_setIfInBounds, Ne.symm hq]
  have zq : (H.setIfInBounds (q_rho G a) nw).size = H.size := by simp
  have eq1 : (H.setIfInBounds (q_rho G a) nw)[q_rho G a]? = some nw := by simp [Array.getElem?_setIfInBounds, hl]
  obtain ⟨t, a1, b1⟩ := kk _ _ (q_H_put hH h3a rfl zq oq (by
      rw [ha.2.2]
      show (H.setIfInBounds (q_rho G a) nw)[q_rho G a]? = some (arrV _ _ _)
      rw [eq1, ← hnw]
      congr 2
      funext j
      simp only [q_ev, va_up_self]) (fun _ _ => rfl) (fun b hb => va_up_ne _ _ hb) (fun _ _ => rfl)) ⟨by rw [zq]; exact hS.1, fun q g1 g2 => by
      rw [oq q (fun e => g2 (by rw [e]; exact q_rho_A h3a))]
      exact hS.2.1 q g1 g2, fun q hq => by
      rcases List.mem_append.mp hq with h | h
      · exact hS.2.2 q h
      · obtain ⟨z, -, hz⟩ := List.mem_map.mp h
        rw [← hz]
        exact q_rho_A h3a⟩ _ hheap X'
  exact ⟨t, step t a1, b1⟩
/-- calls -/
def q_Pc (G : q_G) (as : List Value) (μ : q_M) : Array Value → State → Prop := fun v U => v = (as.map (q_v G)).toArray ∧ q_E G U ∧ q_H G μ U.heap
def q_Qc (G : q_G) (Q : q_Q) : Array Value → State → Outcome → State → Prop := fun _ st oc t => (∃ r μ', oc = .returned (r.map (q_v G)) ∧ Q r μ' ∧ q_H G μ' t.heap) ∧ va_F (q_A G) st t
def q_rm (d mi : Nat) : Room := { frames := d, cells := ((q_al mi).getD (0, 0)).1, slots := ((q_al mi).getD (0, 0)).2, locals := 45 * d }
abbrev q_wsm (x : q_MI) : List Cond := .code x.1 x.2.1 x.2.2.1 x.2.2.2.1 :: q_good
theorem q_after {st0 : List Value} {mc ms : Nat} {av : Array Value} {Q' : q_Q} (hr : va_Run p l e R s m args below meth c H locs cells slots mc ms (F0 m pc ls st0) rest (q_Qc G Q' av) (q_A G)) (hS : va_S (q_A G) s.heap H locs)
    (kk : ∀ r μ' H1 locs1, Q' r μ' → q_H G μ' H1 → va_S (q_A G) s.heap H1 locs1 → W p l e R s m args below meth c H1 locs1 (cells + mc) (slots + ms) Q (F0 m (pc + 3) ls ((r.map (q_v G)).toList ++ rest))) : W p l e R s m args below meth c H locs cells slots Q (F0 m pc ls st0) := by
  intro T hT X
  obtain ⟨v, st₀, t, T', L, h0, X', hL, e1, e2, ⟨⟨r, μ', hv, hq, hh⟩, hz, hk⟩, st⟩ := hr T hT X
  cases hv
  rw [h0] at hz hk
  obtain ⟨t2, a1, b1⟩ := kk r μ' T'.heap (locs ++ L) hq (by rw [e1]; exact hh)
    ⟨Nat.le_trans hS.1 (by rw [e1]; exact hz), fun q h1 h2 => by rw [e1, hk q (Nat.lt_of_lt_of_le h1 hS.1) h2]; exact hS.2.1 q h1 h2, fun q hq => by
      rcases List.mem_append.mp hq with h | h
      · exact hS.2.2 q h
      · exact hL q h⟩ T' rfl X'
  exact ⟨t2, st t2 a1, b1⟩
theorem q_blind {as : List Value} : FrameBlind (q_Pc G as μ) := fun _ _ _ _ h => ⟨h.1, q_E_same h.2.1, h.2.2⟩
theorem q_pre {as : List Value} (E : q_E G s) (hS : va_S (q_A G) s.heap H locs) (hH : q_H G μ H) : ∀ U : State, U.heap = H → s.WarmedH U.vm → q_Pc G as μ (as.map (q_v G)).toArray U := fun U hU hW =>
  ⟨rfl, q_E_moved hW.alike hW (fun q h1 h2 => by rw [hU]; exact hS.2.1 q h1 h2) (by rw [hU]; exact hS.1) E, by rw [hU]; exact hH⟩
theorem q_spl_spec : ∀ (k : Nat) (acc st as rest : List Value), q_spl k acc st = some (as, rest) → as.reverse ++ rest = acc.reverse ++ st ∧ as.length = acc.length + k
  | 0, acc, st, as, rest, h => by cases h; exact ⟨rfl, rfl⟩
  | k + 1, acc, v :: st, as, rest, h => by
    obtain ⟨h1, h2⟩ := q_spl_spec k (v :: acc) st as rest h
    exact ⟨by rw [h1]; simp, by rw [h2]; simp; omega⟩
  | _ + 1, _, [], _, _, h => by cases h
variable {d mi na : Nat} {as rs st : List Value} {xx : q_MI} {Q' : q_Q}
theorem q_cnN (E : q_E G s) (hts : ∀ w ∈ q_good, w.before args s = true) (hx : q_tab[mi]? = some xx) (hfr : d + 1 ≤ R.frames) (hlo : 45 * d + 45 ≤ R.locals) {np : Nat} (hnp : (parseMethodDescriptor xx.1.desc).map (fun q => q.parameters.length) = some np) {host : String} (hl : (q_cn own, x, xx.1, host) ∈ q_nestM) :
    va_CN R s args (q_cn own) x xx.1 host xx.2.1 xx.2.2.1 xx.2.2.2.1 (q_wsm xx) (q_rm d mi) ((q_al mi).getD (0, 0)).1 ((q_al mi).getD (0, 0)).2 np := by
  have F := q_tab_ok (List.mem_of_getElem? hx)
  exact va_cnB np hts F.1 rfl rfl rfl (E.2.2.2.1 _ hl) (hts _ F.2.1) ⟨F.2.2.1.1, F.2.2.1.2, hnp⟩ ⟨by show d + 1 ≤ _; omega, by show 8 + (xx.2.2.1 + 11) + 45 * d ≤ _; have := F.2.2.2.1; omega⟩
theorem q_cnB (hts : ∀ w ∈ q_good, w.before args s = true) (hx : q_tab[mi]? = some xx) (hfr : d + 1 ≤ R.frames) (hlo : 45 * d + 45 ≤ R.locals) {np : Nat} (hnp : (parseMethodDescriptor xx.1.desc).map (fun q => q.parameters.length) = some np) (hl : Cond.methodLink (q_cn own) x xx.1 ∈ q_good) :
    CallB R s args (q_cn own) x xx.1 xx.2.1 xx.2.2.1 xx.2.2.2.1 (q_wsm xx) (q_rm d mi) ((q_al mi).getD (0, 0)).1 ((q_al mi).getD (0, 0)).2 np := by
  have F := q_tab_ok (List.mem_of_getElem? hx)
  exact callB_of np hts F.1 rfl rfl rfl (hts _ F.2.1) (hts _ hl) ⟨F.2.2.1.1, F.2.2.1.2, hnp⟩ ⟨by show d + 1 ≤ _; omega, by show 8 + (xx.2.2.1 + 11) + 45 * d ≤ _; have := F.2.2.2.1; omega⟩
/-- a call of any kind: what the method answers, and the world behind it -/
theorem q_callV (hexec : p.tables.exec = Jvm.exec) (hb : c.code = cc) (hown : s.vm.findClass (q_cn own) = some m.cls) (hts : ∀ w ∈ q_good, w.before args s = true) (E : q_E G s) (hS : va_S (q_A G) s.heap H locs) (hml : ls.size = c.maxLocals) (hd : decode cc pc = .ok (.invokevirtual x, 3))
    (hmr : q_mr own x = some (mi, na, 0)) {b : Nat} (hsp : q_spl na [] st = some (.ref b :: as, rs)) (hob : q_ob μ.1 b (q_mc mi)) (hcat : q_cat rs ≤ 8) (hfr : d + 1 ≤ R.frames) (hlo : 45 * d + 45 ≤ R.locals) (hH : q_H G μ H)
    (hx : q_tab[mi]? = some xx) (hM : Met l xx.1 (q_wsm xx) (q_rm d mi) (q_Pc G (.ref b :: as) μ) (q_Qc G Q') ((q_al mi).getD (0, 0)).1 ((q_al mi).getD (0, 0)).2 (q_A G))
    (hc : cells + ((q_al mi).getD (0, 0)).1 ≤ R.cells) (hs : slots + ((q_al mi).getD (0, 0)).2 ≤ R.slots)
    (kk : ∀ r μ' H1 locs1, Q' r μ' → q_H G μ' H1 → va_S (q_A G) s.heap H1 locs1 → W p l e R s m args below meth c H1 locs1 (cells + ((q_al mi).getD (0, 0)).1) (slots + ((q_al mi).getD (0, 0)).2) Q (F0 m (pc + 3) ls ((r.map (q_v G)).toList ++ rs.map (q_v G)))) :
    W p l e R s m args below meth c H locs cells slots Q (F0 m pc ls (st.map (q_v G))) := by
  obtain ⟨h1, h2⟩ := q_spl_spec na [] st _ rs hsp
  obtain ⟨y, hy, np, hnp, hnn, hin, hsel, hci, hcn, hlink⟩ := q_mrV_ok hmr
  cases hx.symm.trans hy
  have hst : st.map (q_v G) = (as.map (q_v G)).reverse ++ .ref (q_rho G b) :: rs.map (q_v G) := by
    have e : st = (Value.ref b :: as).reverse ++ rs := by simpa using h1.symm
    rw [e]; simp [q_v]
  obtain ⟨cell, c1, c2, c3, c4⟩ := q_H_obj hH hob
  have hcell : ∃ cellB : Cell, H[q_rho G b]? = some cellB ∧ cellB.vm.isStatics = false ∧ s.vm.findClass (q_cn (q_mc mi)) = some cellB.cls := ⟨cell, c1, by rw [c3]; rfl, by rw [c2]; exact (E.1 _ hci).2.1⟩
  have hlen : (as.map (q_v G)).length = np := by rw [List.length_map]; simp at h2; omega
  have hroom : 2 * (F0 m pc ls (st.map (q_v G))).monitorRoom + ((rs.map (q_v G)).map fun v => v.category).sum ≤ 8 := lv_room (by rw [q_cat_eq]; exact hcat)
  rcases hlink with hl | ⟨host, hl⟩
  · exact q_after (va_runV (As := as.map (q_v G)) (rest := rs.map (q_v G)) (C := q_cn (q_mc mi)) (Ts := q_good) (own := q_cn own) ⟨hexec, hb, rfl, hown, hts⟩ hM ⟨q_cnB hts hx hfr hlo hnp hl, hts _ hin, hts _ hsel⟩ ⟨q_blind, hcell, q_pre (as := .ref b :: as) E hS hH⟩ rfl hlen hml hst hroom hd ⟨hc, hs⟩) hS kk
  · exact q_after (va_runVN (As := as.map (q_v G)) (rest := rs.map (q_v G)) (C := q_cn (q_mc mi)) (Ts := q_good) (own := q_cn own) ⟨hexec, hb, rfl, hown, hts⟩ hM ⟨q_cnN E hts hx hfr hlo hnp hl, hts _ hin, hts _ hsel⟩ ⟨q_blind, hcell, q_pre (as := .ref b :: as) E hS hH⟩ rfl hlen hml hst hroom hd ⟨hc, hs⟩) hS kk
theorem q_callS (hexec : p.tables.exec = Jvm.exec) (hb : c.code = cc) (hown : s.vm.findClass (q_cn own) = some m.cls) (hts : ∀ w ∈ q_good, w.before args s = true) (E : q_E G s) (hS : va_S (q_A G) s.heap H locs) (hml : ls.size = c.maxLocals) (hd : decode cc pc = .ok (.invokestatic x, 3))
    (hmr : q_mr own x = some (mi, na, 2)) (hsp : q_spl na [] st = some (as, rs)) (hcat : q_cat rs ≤ 8) (hfr : d + 1 ≤ R.frames) (hlo : 45 * d + 45 ≤ R.locals) (hH : q_H G μ H)
    (hx : q_tab[mi]? = some xx) (hM : Met l xx.1 (q_wsm xx) (q_rm d mi) (q_Pc G as μ) (q_Qc G Q') ((q_al mi).getD (0, 0)).1 ((q_al mi).getD (0, 0)).2 (q_A G))
    (hc : cells + ((q_al mi).getD (0, 0)).1 ≤ R.cells) (hs : slots + ((q_al mi).getD (0, 0)).2 ≤ R.slots)
    (kk : ∀ r μ' H1 locs1, Q' r μ' → q_H G μ' H1 → va_S (q_A G) s.heap H1 locs1 → W p l e R s m args below meth c H1 locs1 (cells + ((q_al mi).getD (0, 0)).1) (slots + ((q_al mi).getD (0, 0)).2) Q (F0 m (pc + 3) ls ((r.map (q_v G)).toList ++ rs.map (q_v G)))) :
    W p l e R s m args below meth c H locs cells slots Q (F0 m pc ls (st.map (q_v G))) := by
  obtain ⟨h1, h2⟩ := q_spl_spec na [] st _ rs hsp
  obtain ⟨y, hy, np, hnp, hnn, hstt, hlink⟩ := q_mrS_ok hmr
  cases hx.symm.trans hy
  have hst : st.map (q_v G) = (as.map (q_v G)).reverse ++ rs.map (q_v G) := by
    have e : st = as.reverse ++ rs := by simpa using h1.symm
    rw [e]; simp
  have hlen : (as.map (q_v G)).length = np := by rw [List.length_map]; simp at h2; omega
  have hroom : 2 * (F0 m pc ls (st.map (q_v G))).monitorRoom + ((rs.map (q_v G)).map fun v => v.category).sum ≤ 8 := lv_room (by rw [q_cat_eq]; exact hcat)
  rcases hlink with hl | ⟨host, hl⟩
  · exact q_after (va_runS (As := as.map (q_v G)) (rest := rs.map (q_v G)) (Ts := q_good) (own := q_cn own) ⟨hexec, hb, rfl, hown, hts⟩ hM ⟨q_cnB hts hx hfr hlo hnp hl, hts _ hstt⟩ ⟨q_blind, q_pre E hS hH⟩ rfl hlen hml hst hroom hd ⟨hc, hs⟩) hS kk
  · exact q_after (va_runSN (As := as.map (q_v G)) (rest := rs.map (q_v G)) (Ts := q_good) (own := q_cn own) ⟨hexec, hb, rfl, hown, hts⟩ hM ⟨q_cnN E hts hx hfr hlo hnp hl, hts _ hstt, trivial⟩ ⟨q_blind, q_pre E hS hH⟩ rfl hlen hml hst hroom hd ⟨hc, hs⟩) hS kk
theorem q_callI (hexec : p.tables.exec = Jvm.exec) (hb : c.code = cc) (hown : s.vm.findClass (q_cn own) = some m.cls) (hts : ∀ w ∈ q_good, w.before args s = true) (E : q_E G s) (hS : va_S (q_A G) s.heap H locs) (hml : ls.size = c.maxLocals) (hd : decode cc pc = .ok (.invokespecial x, 3))
    (hmr : q_mr own x = some (mi, na, 1)) {b : Nat} (hsp : q_spl na [] st = some (.ref b :: as, rs)) (hcat : q_cat rs ≤ 8) (hfr : d + 1 ≤ R.frames) (hlo : 45 * d + 45 ≤ R.locals) (hH : q_H G μ H)
    (hx : q_tab[mi]? = some xx) (hM : Met l xx.1 (q_wsm xx) (q_rm d mi) (q_Pc G (.ref b :: as) μ) (q_Qc G Q') ((q_al mi).getD (0, 0)).1 ((q_al mi).getD (0, 0)).2 (q_A G))
    (hc : cells + ((q_al mi).getD (0, 0)).1 ≤ R.cells) (hs : slots + ((q_al mi).getD (0, 0)).2 ≤ R.slots)
    (kk : ∀ r μ' H1 locs1, Q' r μ' → q_H G μ' H1 → va_S (q_A G) s.heap H1 locs1 → W p l e R s m args below meth c H1 locs1 (cells + ((q_al mi).getD (0, 0)).1) (slots + ((q_al mi).getD (0, 0)).2) Q (F0 m (pc + 3) ls ((r.map (q_v G)).toList ++ rs.map (q_v G)))) :
    W p l e R s m args below meth c H locs cells slots Q (F0 m pc ls (st.map (q_v G))) := by
  obtain ⟨h1, h2⟩ := q_spl_spec na [] st _ rs hsp
  obtain ⟨y, hy, np, hnp, hnn, hin, hnm, hrt, hlink⟩ := q_mrI_ok hmr
  cases hx.symm.trans hy
  have hst : st.map (q_v G) = (as.map (q_v G)).reverse ++ .ref (q_rho G b) :: rs.map (q_v G) := by
    have e : st = (Value.ref b :: as).reverse ++ rs := by simpa using h1.symm
    rw [e]; simp [q_v]
  have hlen : (as.map (q_v G)).length = np := by rw [List.length_map]; simp at h2; omega
  have hroom : 2 * (F0 m pc ls (st.map (q_v G))).monitorRoom + ((rs.map (q_v G)).map fun v => v.category).sum ≤ 8 := lv_room (by rw [q_cat_eq]; exact hcat)
  obtain ⟨yn, yb, ym, yr, yrest⟩ := xx
  have hrt : yr = none := hrt
  subst hrt
  rcases hlink with hl | ⟨host, hl⟩
  · exact q_after (va_runI (As := as.map (q_v G)) (rest := rs.map (q_v G)) (b := q_rho G b) (Ts := q_good) (own := q_cn own) ⟨hexec, hb, rfl, hown, hts⟩ hM ⟨q_cnB hts hx hfr hlo hnp hl, hnm, hts _ hin⟩ ⟨q_blind, q_pre (as := .ref b :: as) E hS hH⟩ rfl hlen hml hst hroom hd ⟨hc, hs⟩) hS kk
  · exact q_after (va_runIN (As := as.map (q_v G)) (rest := rs.map (q_v G)) (b := q_rho G b) (Ts := q_good) (own := q_cn own) ⟨hexec, hb, rfl, hown, hts⟩ hM ⟨q_cnN E hts hx hfr hlo hnp hl, hnm, hts _ hin⟩ ⟨q_blind, q_pre (as := .ref b :: as) E hS hH⟩ rfl hlen hml hst hroom hd ⟨hc, hs⟩) hS kk
end QCp
