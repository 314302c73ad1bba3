/-! THE CLAIM OUT OF ONE WALK OF THE LAW'S BODY. Your part is whole_start (and what it stands on); all else here is the same for every law, but numbers. -/
def R_law : String := "RatchetPostLaw"
def lw_P (b : Addr) (xs : List Int32) (args : Array Value) (s : State) : Prop := args = #[.ref b] ∧ s.IntsAt b xs ∧ xs.length ≤ 2560 ∧ (Jvm.Cond.and given_1 narrow_1).before args s = true
def lw_Q (_ : Array Value) (s : State) (o : Outcome) (t : State) : Prop := o = .returned (some (.int 1)) ∧ Framed s o t [] 600000 7302249
def lw_Z (below : List Frame) (a : Array Value) (s : State) : State → Prop := fun t => ∃ o, t.status = .running ∧ Ended t below o ∧ lw_Q a s o t
/-- the law's own end, with 1 on the stack, nothing written that was there before, its room as the claim has it -/
theorem lw_ret {p : Program} {l : Launch} {e : Env} {s : State} {m : MethodId} {below : List Frame} {meth : Method} {c : Code} {b : Nat} (hx : p.tables.exec = Jvm.exec) (hb : c.code = code) (hr : meth.sig.returnType = ret) (hlocks : meth.locks = false) {pc : Nat} {H : Heap} {ls : Array Slot} (hdg : decode code pc = .ok (.ireturn, 1)) : W p l e room_1 s m #[Value.ref b] below meth c H [] 600000 7302249 (lw_Z below #[Value.ref b] s) (F0 m pc ls [.int 1]) := by
  intro T hT X
  obtain ⟨fs, hret, hrun, hended, hW, hframe⟩ := X.leave (v := some (.int 1)) (hlocks := hlocks) (fun h => by rw [hr] at h; cases h)
  have hmeth' : T.vm.method? m = some meth := X.method'
  refine ⟨T.setFrames fs, ?_, .returned (some (.int 1)), hrun, hended, rfl, ⟨_, rfl⟩, hW, hframe⟩
  jvm_step X.here [X.here.top, hx, hb, hdg, hmeth', hr, ret, narrow_b1]
  (try refine ⟨rfl, ?_⟩); (try refine ⟨rfl, ?_⟩)
  first | (intro acts; rw [hret _ acts rfl rfl rfl]) | rw [hret _ _ rfl rfl rfl]
  exact Steps.refl _
/-- what holds at the law's entry: the machine, the code, the tables' words (any of lw_tbl by 'hts w (by decide +kernel)'), the script of L ints xs at the cell b, what the Statement gives of the start (any of its parts by flat_of_before) -/
def lw_At (p : Program) (s : State) (m : MethodId) (meth : Method) (c : Code) (b L : Nat) (xs : Nat → Int32) : Prop :=
  p.tables.exec = Jvm.exec ∧ c.code = code ∧ meth.sig.returnType = ret ∧ c.maxLocals = 4 ∧ s.vm.findClass R_law = some m.cls ∧ (∀ w ∈ lw_tbl, w.before #[Value.ref b] s = true) ∧ va_X b L xs s s.heap ∧ b < s.heap.size ∧ meth.locks = false ∧ (Jvm.Cond.and given_1 narrow_1).before #[Value.ref b] s = true
/-! from the entry to the walk over the mind's machine -/
def q_wZ : List Cond := [.arrayOver (.object "RatchetPost$Pair"), .arrayOver (.object "RatchetPost$Session"), .arrayOver (.object "RatchetPost$Account"), .arrayOver (.object "RatchetPost$SessionList"), .arrayOver (.array .long), .laysStatic "RatchetPost" "ZERO" "[I", .laysStatic "RatchetPost" "HEAD" "[I"]
set_option maxRecDepth 100000 in
set_option maxHeartbeats 4000000 in
theorem q_wZ_in : ∀ w ∈ q_wZ, w ∈ lw_tbl := q_at_in [208, 293, 85, 87, 89, 383, 361] rfl
theorem q_wZ_at {i : Nat} {w : Cond} (h : q_wZ[i]? = some w) : w ∈ lw_tbl := q_wZ_in _ (List.mem_of_getElem? h)
/-- what the read-only rows hold -/
def q_rdo (xs : Nat → Int32) : Nat → Nat → Int32 := fun a j => if a = 0 then nI 0 else if a = 1 then g_hd j else xs j
theorem q_pA {s : State} {args : Array Value} {ty : FieldType} (h : (Cond.arrayClass ty).before args s = true) : ∃ cA, ArrOfT s cA ty ∧ s.vm.findClass ("[" ++ ty.toString) = some cA := by
  obtain ⟨c, k, comp, h1, h2, h3⟩ := Cond.arrayClass_spec h
  exact ⟨c, fun n z => ⟨(fun k h => by cases h), k, h2, comp, h3⟩, h1⟩
theorem q_oA {s : State} {args : Array Value} {C : String} (h : (Cond.arrayOver (.object C)).before args s = true) : ∃ cA, ArrOfT s cA (.object C) ∧ va_RA s cA (.object C) := by
  obtain ⟨comp, c, k, h1, -, h2, h3, h4⟩ := Cond.arrayOver_spec h
  exact ⟨c, fun n z => ⟨(fun k h => by cases h), k, h2, comp, h3⟩, k, comp, h2, h3, h1, h4⟩
theorem q_lA {s : State} {args : Array Value} (h : (Cond.arrayOver (.array .long)).before args s = true) : ∃ cA, ArrOfT s cA (.array .long) ∧ va_RA s cA (.array .long) := by
  simp only [Cond.before, Cond.holds, Cond.value, beq_iff_eq] at h
  cases hc : s.vm.findClass (FieldType.array .long).toString with
  | none => simp [hc] at h
  | some comp =>
    simp only [hc, Option.bind_some, Option.bind_eq_some_iff, Option.map_eq_some_iff] at h
    obtain ⟨c, -, k, hk, hb⟩ := h
    cases hkind : k.kind with
    | array cp ty =>
      rw [hkind] at hb
      simp only [Bool.and_eq_true, decide_eq_true_eq] at hb
      obtain ⟨hty, hf⟩ := hb
      subst hty
      exact ⟨c, fun n z => ⟨(fun k h => by cases h), k, hk, cp, hkind⟩, hf⟩
    | _ => rw [hkind] at hb; simp at hb
theorem q_arrs {s : State} {b : Nat} (hts : ∀ w ∈ lw_tbl, w.before #[Value.ref b] s = true) : ∀ t, t < 8 → ∃ cA, ArrOfT s cA (q_ety t) ∧ va_RA s cA (q_ety t) := by
  intro t ht
  have hp : ∀ ty, (ty = FieldType.int ∨ ty = .long ∨ ty = .boolean) → ∃ cA, ArrOfT s cA ty ∧ s.vm.findClass ("[" ++ ty.toString) = some cA := fun ty h => q_pA (hts _ (q_good_in _ (q_arrcls ty h)))
  have h8 : t = 0 ∨ t = 1 ∨ t = 2 ∨ t = 3 ∨ t = 4 ∨ t = 5 ∨ t = 6 ∨ t = 7 := by omega
  rcases h8 with rfl | rfl | rfl | rfl | rfl | rfl | rfl | rfl
  · obtain ⟨c, h1, h2⟩ := hp .int (Or.inl rfl); exact ⟨c, h1, h2⟩
  · obtain ⟨c, h1, h2⟩ := hp .long (Or.inr (Or.inl rfl)); exact ⟨c, h1, h2⟩
  · obtain ⟨c, h1, h2⟩ := hp .boolean (Or.inr (Or.inr rfl)); exact ⟨c, h1, h2⟩
  · exact q_oA (hts _ (q_wZ_at (i := 0) rfl))
  · exact q_oA (hts _ (q_wZ_at (i := 1) rfl))
  · exact q_oA (hts _ (q_wZ_at (i := 2) rfl))
  · exact q_oA (hts _ (q_wZ_at (i := 3) rfl))
  · exact q_lA (hts _ (q_wZ_at (i := 4) rfl))
theorem q_stat {s : State} {args : Array Value} {nm : String} {N : Nat} {f : Nat → Int32} (hN : N < 2 ^ 31) (hl : (Cond.laysStatic "RatchetPost" nm "[I").before args s = true) (hi : (Cond.initialized "RatchetPost").before args s = true) (harr : (Cond.arrayOf (.static "RatchetPost" nm "[I") .int).before args s = true) (hlen : (Cond.eq (.length (.static "RatchetPost" nm "[I")) (.int (Int32.ofNat N))).before args s = true) (hel : ∀ j, j < N → (Cond.eq (.elem (.static "RatchetPost" nm "[I") (.int (Int32.ofNat j))) (.int (f j))).before args s = true) : ∃ t, va_T .int t N (fun j => .int (f j)) (fun q => s.heap.size ≤ q) s s.heap ∧ va_Z "RatchetPost" nm "[I" (.ref t) (fun q => s.heap.size ≤ q) s s.heap := by
  obtain ⟨t, ht, hT⟩ := va_Tof (f := fun j => .int (f j)) (A := fun q => s.heap.size ≤ q) hN harr (va_eqt hlen) (fun j hj => va_eqt (hel j hj)) (fun a ha => Nat.not_le.mpr ha)
  exact ⟨t, hT, va_Zof hl hi ht (fun a ha => Nat.not_le.mpr ha)⟩
set_option maxRecDepth 100000 in
set_option maxHeartbeats 4000000 in
theorem whole_start {p : Program} {e : Env} {s : State} {m : MethodId} {below : List Frame} {meth : Method} {c : Code} (l : Launch) {b L : Nat} {xs : Nat → Int32} (hL : L ≤ 2560) (C0 : lw_At p s m meth c b L xs) : W p l e room_1 s m #[Value.ref b] below meth c s.heap [] 0 0 (lw_Z below #[Value.ref b] s) (entryFrame m ([Value.ref b] : List Value).toArray 4) := by
  obtain ⟨hexec, hb, hr, hml, hown, hts, hX, hbl, hlk, hgv⟩ := C0
  have hgood : ∀ w ∈ q_good, w.before #[Value.ref b] s = true := fun w hw => hts w (q_good_in w hw)
  have hs := flat_of_before _ hgv
  obtain ⟨dC, hdC⟩ := Classical.axiomOfChoice (r := fun (ci : Nat) (cC : ClassId) => ci < 9 → ClassAt s (q_cn ci) cC) (fun ci => by
    by_cases h : ci < 9
    · obtain ⟨cC, h1⟩ := classAt_of (hgood _ (q_cls_ok h).1); exact ⟨cC, fun _ => h1⟩
    · exact ⟨0, fun z => absurd z h⟩)
  obtain ⟨dS, hdS⟩ := Classical.axiomOfChoice (r := fun (q : Nat × Nat) (i : Nat) => q.1 < 9 → q.2 < q_nf q.1 → SlotIs s (q_F q.1 q.2).1 (q_F q.1 q.2).2.1 (q_F q.1 q.2).2.2.1 i) (fun q => by
    by_cases h : q.1 < 9 ∧ q.2 < q_nf q.1
    · obtain ⟨i, h1⟩ := u_found (u_lays hgood (q_F_in h.1) h.2); exact ⟨i, fun _ _ => h1⟩
    · exact ⟨0, fun z1 z2 => absurd ⟨z1, z2⟩ h⟩)
  obtain ⟨dA, hdA⟩ := Classical.axiomOfChoice (r := fun (t : Nat) (cA : ClassId) => t < 8 → ArrOfT s cA (q_ety t) ∧ va_RA s cA (q_ety t)) (fun t => by
    by_cases h : t < 8
    · obtain ⟨cA, h1⟩ := q_arrs hts t h; exact ⟨cA, fun _ => h1⟩
    · exact ⟨0, fun z => absurd z h⟩)
  have hini := hgood _ (q_cls_ok (ci := 7) (by decide)).2
  obtain ⟨tZ, hTZ, hZZ⟩ := q_stat (N := 8) (f := fun _ => nI 0) (by decide) (hts _ (q_wZ_at (i := 5) rfl)) hini (hs _ (by decide +kernel)) (hs _ (by decide +kernel)) (fun j hj => by
    have h8 : j = 0 ∨ j = 1 ∨ j = 2 ∨ j = 3 ∨ j = 4 ∨ j = 5 ∨ j = 6 ∨ j = 7 := by omega
    rcases h8 with rfl | rfl | rfl | rfl | rfl | rfl | rfl | rfl
    all_goals exact hs _ (by decide +kernel))
  obtain ⟨tH, hTH, hZH⟩ := q_stat (N := 4) (f := g_hd) (by decide) (hts _ (q_wZ_at (i := 6) rfl)) hini (hs _ (by decide +kernel)) (hs _ (by decide +kernel)) (fun j hj => by
    have h4 : j = 0 ∨ j = 1 ∨ j = 2 ∨ j = 3 := by omega
    rcases h4 with rfl | rfl | rfl | rfl
    all_goals exact hs _ (by decide +kernel))
  obtain ⟨G, eG⟩ : ∃ G : q_G, G = ((fun a => if a = 0 then tZ else if a = 1 then tH else b), s.heap.size, dC, (fun ci k => dS (ci, k)), dA, L, q_rdo xs) := ⟨_, rfl⟩
  have zG : q_z G = s.heap.size := by rw [eG]; rfl
  have lG : q_ln G = L := by rw [eG]; rfl
  have bG : q_rho G 2 = b := by rw [eG]; rfl
  have E : q_E G s := by
    rw [eG]
    refine ⟨fun ci hc => ⟨fun k hk => hdS (ci, k) hc hk, hdC ci hc⟩, fun t ht => hdA t ht, fun w hw => va_Nw.of rfl (hts _ (q_nestF_in w hw)), fun w hw => va_Nw.of rfl (hts _ (q_nestM_in w hw)), fun a ha => ?_, fun a ha => ?_, fun t h3 h7 => ?_, ?_, Nat.le_refl _⟩
    · have h3 : a = 0 ∨ a = 1 ∨ a = 2 := by omega
      rcases h3 with rfl | rfl | rfl
      · exact hTZ
      · exact hTH
      · obtain ⟨scr, x1, x2, x3, x4, x5⟩ := hX
        exact ⟨scr, x1, x2, x3, Nat.le_of_eq x4.symm, by rw [x4]; rfl, x5, Nat.not_le.mpr hbl⟩
    · have h2 : a = 0 ∨ a = 1 := by omega
      rcases h2 with rfl | rfl
      · exact hZZ
      · exact hZH
    · have h4 : t = 3 ∨ t = 4 ∨ t = 5 ∨ t = 6 := by omega
      rcases h4 with rfl | rfl | rfl | rfl
      · exact va_AO.of (hts _ (q_wZ_at (i := 0) rfl))
      · exact va_AO.of (hts _ (q_wZ_at (i := 1) rfl))
      · exact va_AO.of (hts _ (q_wZ_at (i := 2) rfl))
      · exact va_AO.of (hts _ (q_wZ_at (i := 3) rfl))
    · exact hts _ (q_wZ_at (i := 4) rfl)
  have hH : q_H G (3, q_rdo xs, (fun _ _ => 0), (fun _ _ => none)) s.heap := ⟨Nat.le_refl _, by rw [zG]; rfl, fun a h1 h2 => absurd h1 (Nat.not_le.mpr h2), fun a _ j _ => by rw [eG]; rfl⟩
  have hw := law_all (L := q_ln G) (d := 0) (I := q_rdo xs) (J := fun _ _ => 0) (R := fun _ _ => none) (Q := fun r _ => r = some (.int (nI 1))) (by rw [lG]; exact Nat.ble_eq_true_of_le (by omega)) (by rw [lG]; exact hL) (fun _ => rfl) (fun _ _ => rfl) ⟨rfl, rfl, rfl, rfl⟩
  have hret : q_Rt G (6000, 200000) 2 (fun r _ => r = some (.int (nI 1))) code p l e room_1 s m #[Value.ref b] below meth c (lw_Z below #[Value.ref b] s) := by
    intro H locs uc us ls pc μ huc hus _ hS
    refine ⟨fun v hd _ hq => ?_, fun _ _ h => absurd h (by decide), fun _ _ h => absurd h (by decide), fun _ h => absurd h (by decide)⟩
    have hv : v = nI 1 := by injection hq with h; injection h
    subst hv
    refine W.forget (locs := []) (L := locs) (fun q hq => by have := hS.2.2 q hq; rw [show q_A G q.base = (q_z G ≤ q.base) from rfl, zG] at this; exact this) ?_
    exact W.widen (Nat.le_trans huc (by decide)) (Nat.le_trans hus (by decide)) (lw_ret hexec hb hr hlk hd)
  have key := q_body (G := G) (l := l) (d := 9) (Q := fun r _ => r = some (.int (nI 1))) (cap := (6000, 200000)) hexec hb (show s.vm.findClass (q_cn 9) = some m.cls from hown) hgood E (fun h => by cases h) ⟨by decide, by decide⟩ (by decide) (by decide) (q_met l G 9) hret q_elaw hw (Nat.zero_le _) (Nat.zero_le _) s.heap []
  have hq := q_entry G [.ref 2] (n := 4) (by decide)
  have hm : ([Value.ref 2] : List Value).map (q_v G) = [Value.ref b] := by
    show [Value.ref (q_rho G 2)] = [Value.ref b]
    rw [bG]
  rw [hm] at hq
  rw [lg_entry_eq]
  exact key _ (by rw [hml, hq.1]; rfl) hq hH va_S.rf
set_option maxHeartbeats 4000000 in
theorem lw_walk (l : Launch) (b : Addr) (xs : List Int32) : MetFree l x (headSpec (Jvm.Cond.code x code maxLocals ret :: tables_1) room_1) (lw_P b xs) (fun _ _ _ _ _ => True) lw_Q := by
  refine MetFree.of_bodyS (code := code) (maxLocals := maxLocals) (ret := ret) (by decide) ?_ ?_
  · intro args s m h hn
    obtain ⟨meth, c, h1, h2, h3, h4, h5, h6, -, -⟩ := Cond.code_spec hn (atoms_spec (ws := Jvm.Cond.code x code maxLocals ret :: tables_1) h _ List.mem_cons_self)
    exact ⟨meth, c, h1, h2, h3, h4, h5, h6⟩
  · intro p e s m args below meth c s₁ B hml0 hP _
    obtain ⟨rfl, hx, hbd, hgv⟩ := hP
    obtain ⟨scr, harrAt, hlist, hof, hsmall⟩ := hx
    obtain ⟨hcb, hkn, -, -⟩ := State.arrayAt?_spec harrAt
    have hown : s.vm.findClass R_law = some m.cls := findClass_of_methodNamed B.named
    have hts0 : ∀ c ∈ (Jvm.Cond.code x code maxLocals ret :: tables_1), c.before #[Value.ref b] s = true := atoms_spec (ws := Jvm.Cond.code x code maxLocals ret :: tables_1) B.pre
    have hts : ∀ w ∈ lw_tbl, w.before #[Value.ref b] s = true := k2_hts_sels lw_privs (fun w hw => hts0 w (List.mem_cons_of_mem _ hw)) lw_privs_ok
    have hml : c.maxLocals = 4 := B.maxLocals_eq (hts0 _ List.mem_cons_self)
    have X₀ : Stand p l e room_1 s m #[Value.ref b] below meth c s₁ [] 0 0 := Stand.of_body B
    have hh0 : s₁.heap = s.heap := by rw [B.state]; rfl
    have hsz : scr.slots.size = xs.length := by rw [← Array.length_toList, hlist, List.length_map]
    have hval : ∀ j : Nat, j < xs.length → scr.slots[j]? = some (.int (xs.getD j 0)) := fun j hj => by
      rw [← Array.getElem?_toList, hlist]
      simp [hj]
    have hbl : b < s.heap.size := (Array.getElem?_eq_some_iff.mp hcb).1
    have hX : va_X b xs.length (fun j => xs.getD j 0) s s.heap := ⟨scr, hcb, hof, hkn, hsz, hval⟩
    have K : W p l e room_1 s m #[Value.ref b] below meth c s₁.heap [] 0 0 (lw_Z below #[Value.ref b] s) (entryFrame m ([Value.ref b] : List Value).toArray 4) := by
      rw [hh0]
      exact whole_start l hbd ⟨B.exec, B.bytes, B.returns, hml, hown, hts, hX, hbl, B.notSynchronized, hgv⟩
    obtain ⟨t, a1, o, b1, b2, b3⟩ := K s₁ rfl X₀
    exact ⟨t, o, a1, b1, b2, b3⟩
theorem lw_pre_spec {args : Array Value} {s : State} (h : (Jvm.Cond.and given_1 narrow_1).before args s = true) (hr : rest_1_c.before args s = true) : ∃ (b : Addr) (xs : List Int32), lw_P b xs args s := by
  have hs := flat_of_before _ h
  have hq := flat_of_before _ hr
  have hc : (Cond.count 1).before args s = true := hs _ (by decide +kernel)
  have harr : (Cond.arrayOf (.arg 0) .int).before args s = true := hs _ (by decide +kernel)
  have hle : (Cond.le (.length (.arg 0)) (.int 2560)).before args s = true := hs _ (by decide +kernel)
  have hlen : (Cond.isInt (.length (.arg 0))).before args s = true := hq _ (by decide +kernel)
  have hall : (Cond.all (.arg 0) (.isInt (.elem (.arg 0) (.index 0)))).before args s = true := hq _ (by decide +kernel)
  obtain ⟨b, xs, hb, hx⟩ := State.ints_of_pre rfl harr hlen hall
  have hsm : xs.length < 2 ^ 31 := hx.choose_spec.2.2.2
  have hev : (Term.length (.arg 0)).eval args s none [] s = some (.int xs.length.toInt32) := hx.length_eval hb
  have hv := Cond.le_ints hev (show (Term.int 2560).eval args s none [] s = some (.int 2560) from rfl)
  have hd : xs.length.toInt32 ≤ 2560 := by
    simpa [Cond.before, Cond.holds, hv] using hle
  have hN : xs.length ≤ 2560 := (Int32.ofNat_le_ofNat hsm (by decide)).mp (show Int32.ofNat xs.length ≤ Int32.ofNat 2560 from hd)
  exact ⟨b, xs, Cond.one_arg hc (show args[0]? = some (.ref b) from hb), hx, hN, h⟩
theorem lw_comes (l : Launch) : Comes l x (Jvm.Cond.code x code maxLocals ret :: tables_1) room_1 (fun tb e args s => Calls_1 tb e args s ∧ rest_1 tb e args s ∧ Pre_1 tb e args s)
    (fun _ _ args s o t => lw_Q args s o t) := by
  intro p e ha hc hk s m args below hf hfit hheap happ hpre
  obtain ⟨b, xs, hP⟩ := lw_pre_spec hpre.2.2 hpre.2.1
  obtain ⟨k, o, h1, h2, h3, hQ⟩ := lw_walk l b xs p e ha hc hk s m args below hf ((Spec.applies_iff_loose hf).mp happ).1 hP trivial
  exact ⟨k, o, h1, h2, h3, hQ⟩
theorem lw_frame {s t : State} {o : Outcome} {args : Array Value} (h : Framed s o t [] 600000 7302249) :
    Framed s o t (fieldLocs frame_1_writes args s ++ arrayLocs frame_1_arrays args s ++ staticLocs frame_1_statics s) 600000 7302249 := h
theorem lw_limb (L : Cond) (hL : ∀ (args : Array Value) (s t : State), L.after args s (.returned (some (.int 1))) t = true) :
    ArmFor flags0 classFile x code maxLocals ret World_1 tables_1 room_1 Calls_1 rest_1 Pre_1
      (fun tb e a s o t => postC L tb e a s o t ∧ Framed s o t (fieldLocs frame_1_writes a s ++ arrayLocs frame_1_arrays a s ++ staticLocs frame_1_statics s) 600000 7302249) := by
  intro l _ _ _ p e ha hc hk s m args below hf hfit hheap happ hpre
  obtain ⟨k, o, h1, h2, h3, rfl, hF⟩ := lw_comes l p e ha hc hk s m args below hf hfit hheap happ hpre
  exact ⟨k, _, h1, h2, h3, hL args s _, lw_frame hF⟩
theorem i_vc : Claimed_1_1 ∧ Claimed_1_2 := ⟨lw_limb limb_1_1 (fun args s t => by simp [limb_1_1, Cond.after, Cond.holds, Cond.value]), lw_limb limb_1_2 (fun args s t => Cond.after_iff.mpr (by
  first | (rw [show limb_1_2 = Cond.eq .result (.int 1) from rfl, Cond.eq_ints (x := 1) (y := 1) rfl rfl]; simp; done) | (simp [limb_1_2, Cond.value, Term.eval]; done)))⟩
