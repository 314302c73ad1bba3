theorem q_arr_c {c : ClassId} {N : Nat} {f g : Nat → Value} (h : ∀ j, j < N → f j = g j) : arrV c N f = arrV c N g := by
  have e : (Array.ofFn (n := N) fun j => f j.val) = Array.ofFn (n := N) fun j => g j.val := by
    congr 1
    funext j
    exact h j.val j.isLt
  unfold arrV
  rw [e]
theorem q_outer (c : ClassId) (N h0 : Nat) : ∀ i : Nat, Jvm.Free.Multi.outerC c N h0 i = arrV c N (fun j => va_rf (if j < i then some (h0 + 1 + j) else none))
  | 0 => by
    show ({ cls := c, slots := Array.replicate N .null, vm := .none } : Cell) = _
    rw [arrV_new]
    refine congrArg (arrV c N) (funext fun j => ?_)
    simp [va_rf]
  | i + 1 => by
    show (Jvm.Free.Multi.outerC c N h0 i).setSlot i (.ref (h0 + 1 + i)) = _
    rw [q_outer c N h0 i, arrV_store]
    refine congrArg (arrV c N) (funext fun j => ?_)
    by_cases e : j = i
    · subst e
      simp [updV, va_rf]
    · by_cases h : j < i
      · simp [updV, e, h, Nat.lt_succ_of_lt h]
      · simp [updV, e, h, show ¬ j < i + 1 by omega]
section QMu
variable {p : Program} {l : Launch} {e : Env} {R : Room} {s : State} {m : MethodId} {args : Array Value} {below : List Frame} {meth : Method} {c : Code} {H : Heap} {locs : List Loc} {cells slots : Nat} {Q : State → Prop}
variable {G : q_G} {cc : ByteArray} {pc : Nat} {ls : Array Slot} {rest : List Value} {μ : q_M}
set_option maxHeartbeats 1000000 in
theorem q_multi (hexec : p.tables.exec = Jvm.exec) (hb : c.code = cc) (hown : s.vm.findClass (q_cn 7) = some m.cls) (hts : ∀ w ∈ q_good, w.before args s = true) (E : q_E G s) (hS : va_S (q_A G) s.heap H locs) (hd : decode cc pc = .ok (.multianewarray 28 2, 4)) {N M : Nat} {n k : Int32}
    (g1 : n = nI N ∧ k = nI M ∧ N ≤ 1000 ∧ M ≤ 1000) (g2 : q_kd μ.1 = (7, N) ∧ ∀ j, j < N → q_kd (μ.1 + 1 + j) = (1, M)) (hc : cells + (N + 1) ≤ R.cells) (hs : slots + (N + N * M) ≤ R.slots) (hH : q_H G μ H)
    (kk : ∀ H', q_H G (μ.1 + (N + 1), μ.2.1, (fun a => if μ.1 < a ∧ a < μ.1 + (N + 1) then (fun _ => 0) else μ.2.2.1 a), va_up μ.2.2.2 μ.1 (fun j => some (μ.1 + 1 + j))) H' → va_S (q_A G) s.heap H' locs → W p l e R s m args below meth c H' locs (cells + (N + 1)) (slots + (N + N * M)) Q (F0 m (pc + 4) ls (.ref (q_rho G μ.1) :: rest))) :
    W p l e R s m args below meth c H locs cells slots Q (F0 m pc ls (.int k :: .int n :: rest)) := by
  obtain ⟨rfl, rfl, hN, hM⟩ := g1
  have eN : (nI N).toNatClampNeg = N := nI_clamp (by omega)
  have eM : (nI M).toNatClampNeg = M := nI_clamp (by omega)
  have hcl : (Cond.classLink "RatchetPost" 28 ("[" ++ (FieldType.array .long).toString)).before args s = true := by
    rw [show "[" ++ (FieldType.array .long).toString = "[[J" by decide +kernel]
    exact hts _ q_mncl
  intro T hT X
  obtain ⟨vm₁, cA, comp, -, fA, fC, hO, -, X', step⟩ := X.multianewarray2F (ty := .long) hexec hown hcl (over_moved (Vm.Alike.refl s.vm) E.2.2.2.2.2.2.2.1) (hts _ (q_arrcls _ (Or.inr (Or.inl rfl)))) (g := F0 m pc ls (.int (nI M) :: .int (nI N) :: rest)) rfl (by rw [hb]; exact hd) rfl (nI_pos (by omega)) (nI_pos (by omega))
    (by rw [eN]; omega) (by rw [eM]; show M * 8 ≤ _; omega) (by rw [eM]; omega) rfl rfl (by rw [eN]; omega) (by rw [eN, eM]; exact hs)
  rw [eN, eM] at X' step
  have hcA : cA = q_dA G 7 := Option.some.inj (fA.symm.trans (E.2.1 7 (by decide)).2)
  have hcm : comp = q_dA G 1 := Option.some.inj (fC.symm.trans (E.2.1 1 (by decide)).2)
  generalize hF : Jvm.Free.Multi.fill (T.setVm vm₁) cA comp N M (defaultValue .long) N = F at X' step
  have hTh : (T.setVm vm₁).heap = H := hT
  obtain ⟨f1, f2, -, -⟩ := Jvm.Free.Multi.fill_facts (T.setVm vm₁) cA comp N M (defaultValue .long) N
  rw [hF, hTh] at f1 f2
  have hold : ∀ x : Nat, x < H.size → F.heap[x]? = H[x]? := fun x hx => by
    have := Jvm.Free.Multi.fill_old (T.setVm vm₁) cA comp N M (defaultValue .long) (a := x) (by rw [hTh]; exact hx) N
    rw [hF, hTh] at this
    exact this
  have hrow : ∀ j : Nat, j < N → F.heap[H.size + 1 + j]? = some (Jvm.Free.Multi.innerC comp M (defaultValue .long)) := fun j hj => by
    have := Jvm.Free.Multi.fill_inner (T.setVm vm₁) cA comp N M (defaultValue .long) N j hj
    rw [hF, hTh] at this
    exact this
  rw [q_outer] at f2
  have hsz := q_H_at hH
  have h3 := hH.1
  have hq : q_H G (μ.1 + (N + 1), μ.2.1, (fun a => if μ.1 < a ∧ a < μ.1 + (N + 1) then (fun _ => 0) else μ.2.2.1 a), va_up μ.2.2.2 μ.1 (fun j => some (μ.1 + 1 + j))) F.heap := by
    refine ⟨by show 3 ≤ μ.1 + (N + 1); omega, by show F.heap.size = q_z G + (μ.1 + (N + 1) - 3); rw [f1, hH.2.1]; omega, fun b hb3 hbn => ?_, fun b hb3 j hj => hH.2.2.2 b hb3 j hj⟩
    have hbn : b < μ.1 + (N + 1) := hbn
    rcases Nat.lt_trichotomy b μ.1 with hlt | heq | hgt
    · exact q_cell_kept (hH.2.2.1 b hb3 hlt) (hold _ (by rw [hsz, q_rho_lt hb3, q_rho_lt h3]; omega)) rfl (if_neg (by omega)) (va_up_ne _ _ (by omega))
    · subst heq
      rw [g2.1]
      show F.heap[q_rho G μ.1]? = some (arrV (q_dA G 7) N _)
      rw [← hsz, f2, hcA]
      refine congrArg some (q_arr_c fun j hj => ?_)
      rw [if_pos hj]
      show va_rf (some (H.size + 1 + j)) = va_rf ((va_up μ.2.2.2 μ.1 (fun j => some (μ.1 + 1 + j)) μ.1 j).map (q_rho G))
      rw [va_up_self]
      show va_rf (some (H.size + 1 + j)) = va_rf (some (q_rho G (μ.1 + 1 + j)))
      rw [hsz, q_rho_lt h3, q_rho_lt (by omega)]
      congr 2
      omega
    · obtain ⟨j, rfl⟩ : ∃ j, b = μ.1 + 1 + j := ⟨b - μ.1 - 1, by omega⟩
      rw [g2.2 j (by omega)]
      show F.heap[q_rho G (μ.1 + 1 + j)]? = some (arrV (q_dA G 1) M _)
      have er : q_rho G (μ.1 + 1 + j) = H.size + 1 + j := by rw [hsz, q_rho_lt h3, q_rho_lt (by omega)]; omega
      rw [er, hrow j (by omega), hcm]
      show some ({ cls := q_dA G 1, slots := Array.replicate M (.long 0), vm := .none } : Cell) = _
      rw [arrV_new]
      refine congrArg some (q_arr_c fun i _ => ?_)
      show Value.long 0 = .long ((if μ.1 < μ.1 + 1 + j ∧ μ.1 + 1 + j < μ.1 + (N + 1) then (fun _ => 0) else μ.2.2.1 (μ.1 + 1 + j)) i)
      rw [if_pos (by omega)]
  have hS2 : va_S (q_A G) s.heap F.heap locs := q_S_new hS (by rw [f1]; omega) hold
  obtain ⟨t, a1, b1⟩ := kk F.heap hq hS2 F rfl (by rw [show cells + (N + 1) = cells + 1 + N by omega, show slots + (N + N * M) = slots + N + N * M by omega]; exact X')
  refine ⟨t, step t ?_, b1⟩
  rw [hT, hsz]
  exact a1
end QMu
section QMain
variable {p : Program} {l : Launch} {e : Env} {R : Room} {s : State} {m : MethodId} {args : Array Value} {below : List Frame} {meth : Method} {c : Code} {Qm : State → Prop}
variable {G : q_G} {cc : ByteArray} {own rt d : Nat} {ini : Bool} {cap : Nat × Nat} {call : q_C} {Q : q_Q}
def q_Y (G : q_G) (cap : Nat × Nat) (p : Program) (l : Launch) (e : Env) (R : Room) (s : State) (m : MethodId) (args : Array Value) (below : List Frame) (meth : Method) (c : Code) (Qm : State → Prop) : q_K := fun pc ll st μ uc us =>
  uc ≤ cap.1 → us ≤ cap.2 → ∀ (H : Heap) (locs : List Loc) (ls : Array Slot), ls.size = c.maxLocals → q_lr G ls ll → q_H G μ H → va_S (q_A G) s.heap H locs → W p l e R s m args below meth c H locs uc us Qm (F0 m pc ls (st.map (q_v G)))
/-- how the method's returns end -/
def q_Rt (G : q_G) (cap : Nat × Nat) (rt : Nat) (Q : q_Q) (cc : ByteArray) (p : Program) (l : Launch) (e : Env) (R : Room) (s : State) (m : MethodId) (args : Array Value) (below : List Frame) (meth : Method) (c : Code) (Qm : State → Prop) : Prop :=
  ∀ (H : Heap) (locs : List Loc) (uc us : Nat) (ls : Array Slot) (pc : Nat) (μ : q_M), uc ≤ cap.1 → us ≤ cap.2 → q_H G μ H → va_S (q_A G) s.heap H locs →
    (∀ v : Int32, decode cc pc = .ok (.ireturn, 1) → (rt = 1 ∨ (rt = 2 ∧ q_bz v)) → Q (some (.int v)) μ → W p l e R s m args below meth c H locs uc us Qm (F0 m pc ls [.int v])) ∧
    (∀ v : Int64, decode cc pc = .ok (.lreturn, 1) → rt = 3 → Q (some (.long v)) μ → W p l e R s m args below meth c H locs uc us Qm (F0 m pc ls [.long v])) ∧
    (∀ v : Nat, decode cc pc = .ok (.areturn, 1) → rt = 4 → Q (some (.ref v)) μ → W p l e R s m args below meth c H locs uc us Qm (F0 m pc ls [.ref (q_rho G v)])) ∧
    (decode cc pc = .ok (.return_, 1) → rt = 0 → Q none μ → W p l e R s m args below meth c H locs uc us Qm (F0 m pc ls []))
def q_CM (G : q_G) (l : Launch) (d : Nat) (call : q_C) : Prop := ∀ mi as μ Q', call mi as μ Q' → ∃ xx, q_tab[mi]? = some xx ∧ Met l xx.1 (q_wsm xx) (q_rm d mi) (q_Pc G as μ) (q_Qc G Q') ((q_al mi).getD (0, 0)).1 ((q_al mi).getD (0, 0)).2 (q_A G)
theorem q_sw_at {K : Nat → Prop} {pc : Nat} {x : Int32} : ∀ (os : List Int) (lo : Int) (j : Nat) (o : Int), q_sw K pc x lo os → os[j]? = some o → x.toInt = lo + j → K (q_tg pc o)
  | [], _, _, _, _, h, _ => by cases h
  | o :: os, lo, 0, o', hs, h, hx => by
    have e : o = o' := Option.some.inj h
    subst e
    exact hs.1 (by simpa using hx)
  | o :: os, lo, j + 1, o', hs, h, hx => q_sw_at os (lo + 1) j o' hs.2 h (by rw [hx]; omega)
theorem q_rmap (r : Option Value) (rs : List Value) : ((r.toList ++ rs).map (q_v G)) = (r.map (q_v G)).toList ++ rs.map (q_v G) := by cases r <;> rfl
theorem q_al_some {mi ac ax : Nat} (h : q_al mi = some (ac, ax)) : (q_al mi).getD (0, 0) = (ac, ax) := by rw [h]; rfl
theorem q_al_none {mi : Nat} (h : q_al mi = none) : (q_al mi).getD (0, 0) = (0, 0) := by rw [h]; rfl
set_option maxHeartbeats 4000000 in
theorem q_eff_sound (hexec : p.tables.exec = Jvm.exec) (hb : c.code = cc) (hown : s.vm.findClass (q_cn own) = some m.cls) (hts : ∀ w ∈ q_good, w.before args s = true) (E : q_E G s) (hini : ini = true → meth.name = "<init>")
    (hcap : cap.1 ≤ R.cells ∧ cap.2 ≤ R.slots) (hfr : d + 1 ≤ R.frames) (hlo : 45 * d + 45 ≤ R.locals) (hcall : q_CM G l d call) (hret : q_Rt G cap rt Q cc p l e R s m args below meth c Qm)
    {pc : Nat} {i : Instr} {ll : List (Option Value)} {st : List Value} {μ : q_M} {uc us len : Nat} (hd : decode cc pc = .ok (i, len)) (hlen : q_lk i len = true) (hok : q_ok pc i = true)
    (h : q_eff (q_ln G) own rt ini cap call Q (q_Y G cap p l e R s m args below meth c Qm) pc i ll st μ uc us) : q_Y G cap p l e R s m args below meth c Qm pc ll st μ uc us := by
  intro huc hus H locs ls hml hl hH hS
  cases i
  case irem =>
    have hlen : Nat.beq len _ = true := hlen
    obtain rfl := Nat.eq_of_beq_eq_true hlen
    dsimp only [q_eff] at h
    split at h
    · exact lv_irem hexec hb hd h.1 (h.2 huc hus H locs ls hml hl hH hS)
    · exact h.elim
  case lrem =>
    have hlen : Nat.beq len _ = true := hlen
    obtain rfl := Nat.eq_of_beq_eq_true hlen
    dsimp only [q_eff] at h
    split at h
    · exact lv_lrem hexec hb hd h.1 (h.2 huc hus H locs ls hml hl hH hS)
    · exact h.elim
  case ifCond c off =>
    have hlen : Nat.beq len _ = true := hlen
    obtain rfl := Nat.eq_of_beq_eq_true hlen
    dsimp only [q_eff] at h
    split at h
    · cases c
      case eq => exact lv_if_eq hexec hb hd (q_tg_ok hok) (fun z => h.1 z huc hus H locs ls hml hl hH hS) (fun z => h.2 z huc hus H locs ls hml hl hH hS)
      case ne => exact lv_if_ne hexec hb hd (q_tg_ok hok) (fun z => h.1 z huc hus H locs ls hml hl hH hS) (fun z => h.2 z huc hus H locs ls hml hl hH hS)
      case lt => exact lv_if_lt hexec hb hd (q_tg_ok hok) (fun z => h.1 z huc hus H locs ls hml hl hH hS) (fun z => h.2 z huc hus H locs ls hml hl hH hS)
      case ge => exact lv_if_ge hexec hb hd (q_tg_ok hok) (fun z => h.1 z huc hus H locs ls hml hl hH hS) (fun z => h.2 z huc hus H locs ls hml hl hH hS)
      case gt => exact lv_if_gt hexec hb hd (q_tg_ok hok) (fun z => h.1 z huc hus H locs ls hml hl hH hS) (fun z => h.2 z huc hus H locs ls hml hl hH hS)
      case le => exact lv_if_le hexec hb hd (q_tg_ok hok) (fun z => h.1 z huc hus H locs ls hml hl hH hS) (fun z => h.2 z huc hus H locs ls hml hl hH hS)
    · exact h.elim
  case if_icmp c off =>
    have hlen : Nat.beq len _ = true := hlen
    obtain rfl := Nat.eq_of_beq_eq_true hlen
    dsimp only [q_eff] at h
    split at h
    · cases c
      case eq => exact lv_icmp_eq hexec hb hd (q_tg_ok hok) (fun z => h.1 z huc hus H locs ls hml hl hH hS) (fun z => h.2 z huc hus H locs ls hml hl hH hS)
      case ne => exact lv_icmp_ne hexec hb hd (q_tg_ok hok) (fun z => h.1 z huc hus H locs ls hml hl hH hS) (fun z => h.2 z huc hus H locs ls hml hl hH hS)
      case lt => exact lv_icmp_lt hexec hb hd (q_tg_ok hok) (fun z => h.1 z huc hus H locs ls hml hl hH hS) (fun z => h.2 z huc hus H locs ls hml hl hH hS)
      case ge => exact lv_icmp_ge hexec hb hd (q_tg_ok hok) (fun z => h.1 z huc hus H locs ls hml hl hH hS) (fun z => h.2 z huc hus H locs ls hml hl hH hS)
      case gt => exact lv_icmp_gt hexec hb hd (q_tg_ok hok) (fun z => h.1 z huc hus H locs ls hml hl hH hS) (fun z => h.2 z huc hus H locs ls hml hl hH hS)
      case le => exact lv_icmp_le hexec hb hd (q_tg_ok hok) (fun z => h.1 z huc hus H locs ls hml hl hH hS) (fun z => h.2 z huc hus H locs ls hml hl hH hS)
    · exact h.elim
  case tableswitch dflt lo hi offs =>
    dsimp only [q_eff] at h
    split at h
    · rename_i x r
      have hok : (q_jmp pc dflt && offs.toList.all (q_jmp pc) && decide (hi - lo + 1 = (offs.size : Int))) = true := hok
      simp only [Bool.and_eq_true] at hok
      obtain ⟨⟨k1, k2⟩, k3⟩ := hok
      have k3 : hi - lo + 1 = (offs.size : Int) := of_decide_eq_true k3
      by_cases hz : x.toInt < lo ∨ hi < x.toInt
      · exact lv_tableOut hexec hb hd hz (q_tg_ok k1) (h.1 hz huc hus H locs ls hml hl hH hS)
      · have z1 : ¬ x.toInt < lo := fun q => hz (Or.inl q)
        have z2 : ¬ hi < x.toInt := fun q => hz (Or.inr q)
        have hlt : (x.toInt - lo).toNat < offs.size := by omega
        have ho : offs[(x.toInt - lo).toNat]? = some offs[(x.toInt - lo).toNat] := Array.getElem?_eq_getElem hlt
        have ho2 : offs.toList[(x.toInt - lo).toNat]? = some offs[(x.toInt - lo).toNat] := by rw [Array.getElem?_toList]; exact ho
        have k4 := List.all_eq_true.mp k2 _ (List.mem_of_getElem? ho2)
        exact lv_tableIn hexec hb hd z1 z2 ho (q_tg_ok k4) (q_sw_at offs.toList lo _ _ h.2 ho2 (by omega) huc hus H locs ls hml hl hH hS)
    · exact h.elim
  case getfield x =>
    have hlen : Nat.beq len _ = true := hlen
    obtain rfl := Nat.eq_of_beq_eq_true hlen
    dsimp only [q_eff] at h
    cases hq : q_fr own x with
    | none => simp only [hq] at h
    | some f =>
      obtain ⟨ci, k, ty, fin⟩ := f
      simp only [hq] at h
      have hft := (q_fr_ok hq).2.2.1
      split at h
      · rename_i a r
        refine q_getf (μ := μ) (a := a) hexec hb hown hts E hd hq h.1 hH ?_
        have h2 := h.2
        unfold q_fv
        rw [hft]
        split at h2
        · exact h2 huc hus H locs ls hml hl hH hS
        · exact h2 huc hus H locs ls hml hl hH hS
        · exact h2 huc hus H locs ls hml hl hH hS
        · rename_i n0 n1 n2
          obtain ⟨b, e1, h3⟩ := h2
          rw [e1]
          split
          · exact absurd rfl n0
          · exact absurd rfl n1
          · exact absurd rfl n2
          · exact h3 huc hus H locs ls hml hl hH hS
      · exact h.elim
  case putfield x =>
    have hlen : Nat.beq len _ = true := hlen
    obtain rfl := Nat.eq_of_beq_eq_true hlen
    dsimp only [q_eff] at h
    cases hq : q_fr own x with
    | none => simp only [hq] at h
    | some f =>
      obtain ⟨ci, k, ty, fin⟩ := f
      simp only [hq] at h
      have hft := (q_fr_ok hq).2.2.1
      cases hf : (!fin || (ini && Nat.beq own ci)) with
      | false => rw [hf] at h; exact h.elim
      | true =>
        rw [hf] at h
        simp only at h
        split at h
        · split at h
          · rename_i v a r
            refine q_putf (μ := μ) (μ' := (μ.1, q_up μ.2.1 a k v, μ.2.2.1, μ.2.2.2)) (a := a) (v := .int v) hexec hb hown hts E hS hd hq hf hini h.1 hH (q_ty0 hq).1  (q_ty0 hq).2 rfl (fun b hb => va_up_ne _ _ hb) (fun _ _ => rfl) (fun _ _ => rfl) ?_ (fun H' locs' hH' hS' => h.2 huc hus H' locs' ls hml hl hH' hS')
            intro j
            simp only [updV, q_fv, q_up, va_up_self]
            by_cases e : j = k
            · subst e
              simp only [hft, va_up_self, if_pos]
            · simp only [va_up_ne _ _ e, if_neg e]
          · exact h.elim
        · split at h
          · rename_i v a r
            refine q_putf (μ := μ) (μ' := (μ.1, q_up μ.2.1 a k v, μ.2.2.1, μ.2.2.2)) (a := a) (v := .int v) hexec hb hown hts E hS hd hq hf hini h.1 hH (q_ty1 hq h.2.1).1  (q_ty1 hq h.2.1).2 rfl (fun b hb => va_up_ne _ _ hb) (fun _ _ => rfl) (fun _ _ => rfl) ?_ (fun H' locs' hH' hS' => h.2.2 huc hus H' locs' ls hml hl hH' hS')
            intro j
            simp only [updV, q_fv, q_up, va_up_self]
            by_cases e : j = k
            · subst e
              simp only [hft, va_up_self, if_pos]
            · simp only [va_up_ne _ _ e, if_neg e]
          · exact h.elim
        · split at h
          · rename_i v a r
            refine q_putf (μ := μ) (μ' := (μ.1, μ.2.1, q_up μ.2.2.1 a k v, μ.2.2.2)) (a := a) (v := .long v) hexec hb hown hts E hS hd hq hf hini h.1 hH (q_ty2 hq).1  (q_ty2 hq).2 rfl (fun _ _ => rfl) (fun b hb => va_up_ne _ _ hb) (fun _ _ => rfl) ?_ (fun H' locs' hH' hS' => h.2 huc hus H' locs' ls hml hl hH' hS')
            intro j
            simp only [updV, q_fv, q_up, va_up_self]
            by_cases e : j = k
            · subst e
              simp only [hft, va_up_self, if_pos]
            · simp only [va_up_ne _ _ e, if_neg e]
          · exact h.elim
        · rename_i n0 n1 n2
          split at h
          · rename_i v a r
            refine q_putf (μ := μ) (μ' := (μ.1, μ.2.1, μ.2.2.1, q_up μ.2.2.2 a k (some v))) (a := a) (v := .ref (q_rho G v)) hexec hb hown hts E hS hd hq hf hini h.1 hH (q_ty3 hq n0 n1 n2 _).1  (q_ty3 hq n0 n1 n2 _).2 rfl (fun _ _ => rfl) (fun _ _ => rfl) (fun b hb => va_up_ne _ _ hb) ?_ (fun H' locs' hH' hS' => h.2 huc hus H' locs' ls hml hl hH' hS')
            intro j
            simp only [updV, q_fv, q_up, va_up_self]
            by_cases e : j = k
            · subst e
              rw [if_pos rfl, hft, va_up_self]
              split
              · exact absurd rfl n0
              · exact absurd rfl n1
              · exact absurd rfl n2
              · rfl
            · simp only [va_up_ne _ _ e, if_neg e]
          · exact h.elim
  case iaload =>
    have hlen : Nat.beq len _ = true := hlen
    obtain rfl := Nat.eq_of_beq_eq_true hlen
    dsimp only [q_eff] at h
    split at h
    · obtain ⟨len, h1, h2, h3⟩ := h
      exact q_iald hexec hb E hS hd h1 h2 hH (h3 huc hus H locs ls hml hl hH hS)
    · exact h.elim
  case laload =>
    have hlen : Nat.beq len _ = true := hlen
    obtain rfl := Nat.eq_of_beq_eq_true hlen
    dsimp only [q_eff] at h
    split at h
    · obtain ⟨len, h1, h2, h3⟩ := h
      exact q_lald hexec hb E hd h1 h2 hH (h3 huc hus H locs ls hml hl hH hS)
    · exact h.elim
  case baload =>
    have hlen : Nat.beq len _ = true := hlen
    obtain rfl := Nat.eq_of_beq_eq_true hlen
    dsimp only [q_eff] at h
    split at h
    · obtain ⟨len, h1, h2, h3⟩ := h
      exact q_zald hexec hb E hd h1 h2 hH (h3 huc hus H locs ls hml hl hH hS)
    · exact h.elim
  case aaload =>
    have hlen : Nat.beq len _ = true := hlen
    obtain rfl := Nat.eq_of_beq_eq_true hlen
    dsimp only [q_eff] at h
    split at h
    · obtain ⟨t, len, b, h1, h2, h3, h4⟩ := h
      exact q_aald hexec hb E hd h1.1 h1.2.1 h1.2.2 h2 h3 hH (h4 huc hus H locs ls hml hl hH hS)
    · exact h.elim
  case iastore =>
    have hlen : Nat.beq len _ = true := hlen
    obtain rfl := Nat.eq_of_beq_eq_true hlen
    dsimp only [q_eff] at h
    split at h
    · obtain ⟨len, h1, h2, h3⟩ := h
      exact q_iast hexec hb E hS hd h1 h2 hH (fun H' locs' hH' hS' => h3 huc hus H' locs' ls hml hl hH' hS')
    · exact h.elim
  case lastore =>
    have hlen : Nat.beq len _ = true := hlen
    obtain rfl := Nat.eq_of_beq_eq_true hlen
    dsimp only [q_eff] at h
    split at h
    · obtain ⟨len, h1, h2, h3⟩ := h
      exact q_last hexec hb E hS hd h1 h2 hH (fun H' locs' hH' hS' => h3 huc hus H' locs' ls hml hl hH' hS')
    · exact h.elim
  case bastore =>
    have hlen : Nat.beq len _ = true := hlen
    obtain rfl := Nat.eq_of_beq_eq_true hlen
    dsimp only [q_eff] at h
    split at h
    · obtain ⟨len, h1, h2, hz, h3⟩ := h
      exact q_zast hexec hb E hS hd h1 h2 hz hH (fun H' locs' hH' hS' => h3 huc hus H' locs' ls hml hl hH' hS')
    · exact h.elim
  case aastore =>
    have hlen : Nat.beq len _ = true := hlen
    obtain rfl := Nat.eq_of_beq_eq_true hlen
    dsimp only [q_eff] at h
    split at h
    · obtain ⟨t, len, h1, h2, h3, h4⟩ := h
      exact q_aast hexec hb E hS hd h1.1 h1.2.1 h1.2.2 h2 h3 hH (fun H' locs' hH' hS' => h4 huc hus H' locs' ls hml hl hH' hS')
    · exact h.elim
  case arraylength =>
    have hlen : Nat.beq len _ = true := hlen
    obtain rfl := Nat.eq_of_beq_eq_true hlen
    dsimp only [q_eff] at h
    split at h
    · obtain ⟨rfl, h2⟩ := h
      exact q_slen hexec hb E hS hd (h2 huc hus H locs ls hml hl hH hS)
    · exact h.elim
  case new x =>
    have hlen : Nat.beq len _ = true := hlen
    obtain rfl := Nat.eq_of_beq_eq_true hlen
    dsimp only [q_eff] at h
    cases hq : q_cr own x with
    | none => simp only [hq] at h
    | some ci =>
      simp only [hq] at h
      obtain ⟨h1, ⟨h2, h3⟩, h4⟩ := h
      exact q_newc hexec hb hown hts E hS hd hq h1 (Nat.le_trans h2 hcap.1) (Nat.le_trans h3 hcap.2) hH (fun H' hH' hS' => h4 h2 h3 H' locs ls hml hl hH' hS')
  case newarray t =>
    have hlen : Nat.beq len _ = true := hlen
    obtain rfl := Nat.eq_of_beq_eq_true hlen
    dsimp only [q_eff] at h
    cases hq : q_tagOf t with
    | none => simp only [hq] at h
    | some tg =>
      simp only [hq] at h
      split at h
      · obtain ⟨N, ⟨g1, g2, g3, g4⟩, ⟨h2, h3⟩, h4⟩ := h
        exact q_newa hexec hb hts E hS hd hq g1 g2 g3 g4 (Nat.le_trans h2 hcap.1) (Nat.le_trans h3 hcap.2) hH (fun H' hH' hS' => h4 h2 h3 H' locs ls hml hl hH' hS')
      · exact h.elim
  case anewarray x =>
    have hlen : Nat.beq len _ = true := hlen
    obtain rfl := Nat.eq_of_beq_eq_true hlen
    dsimp only [q_eff] at h
    cases hq : q_cr own x with
    | none => simp only [hq] at h
    | some ci =>
      simp only [hq] at h
      split at h
      · obtain ⟨t, N, ⟨g1, g2, g3, g4, g5, g6, g7⟩, ⟨h2, h3⟩, h4⟩ := h
        exact q_anew hexec hb hown hts E hS hd hq g1 g2 g3 g4 g5 g6 g7 (Nat.le_trans h2 hcap.1) (Nat.le_trans h3 hcap.2) hH (fun H' hH' hS' => h4 h2 h3 H' locs ls hml hl hH' hS')
      · exact h.elim
  case multianewarray x y =>
    have hlen : Nat.beq len _ = true := hlen
    obtain rfl := Nat.eq_of_beq_eq_true hlen
    dsimp only [q_eff] at h
    cases hbb : (Nat.beq own 7 && Nat.beq x 28 && Nat.beq y 2) with
    | false => rw [hbb] at h; exact h.elim
    | true =>
      rw [hbb] at h
      simp only [Bool.and_eq_true] at hbb
      obtain ⟨⟨b1, b2⟩, b3⟩ := hbb
      obtain rfl := Nat.eq_of_beq_eq_true b1
      obtain rfl := Nat.eq_of_beq_eq_true b2
      obtain rfl := Nat.eq_of_beq_eq_true b3
      simp only at h
      split at h
      · obtain ⟨N, M, g1, g2, ⟨h2, h3⟩, h4⟩ := h
        exact q_multi hexec hb hown hts E hS hd g1 g2 (Nat.le_trans h2 hcap.1) (Nat.le_trans h3 hcap.2) hH (fun H' hH' hS' => h4 h2 h3 H' locs ls hml hl hH' hS')
      · exact h.elim
  case invokevirtual x =>
    have hlen : Nat.beq len _ = true := hlen
    obtain rfl := Nat.eq_of_beq_eq_true hlen
    dsimp only [q_eff] at h
    split at h
    · rename_i mi na hq
      split at h
      · rename_i as0 rest hs
        split at h
        · rename_i b as
          have h7 := h.2
          unfold q_do at h7
          cases hcb : Nat.ble (q_cat rest) 8 with
          | false => rw [hcb] at h7; exact (h7).elim
          | true =>
            rw [hcb] at h7
            simp only at h7
            have hcat : q_cat rest ≤ 8 := Nat.le_of_ble_eq_true hcb
            cases hal : q_al mi with
            | none =>
              simp only [hal] at h7
              obtain ⟨xx, hx, hM⟩ := hcall _ _ _ _ h7
              have ha0 := q_al_none hal
              refine q_callV (d := d) hexec hb hown hts E hS hml hd hq hs h.1 hcat hfr hlo hH hx hM (by rw [ha0]; exact Nat.le_trans huc hcap.1) (by rw [ha0]; exact Nat.le_trans hus hcap.2) (fun r μ' H1 locs1 hk hH1 hS1 => ?_)
              rw [ha0, ← q_rmap]
              exact hk huc hus H1 locs1 ls hml hl hH1 hS1
            | some y =>
              obtain ⟨ac, ax⟩ := y
              simp only [hal] at h7
              obtain ⟨⟨h2, h3⟩, h4⟩ := h7
              obtain ⟨xx, hx, hM⟩ := hcall _ _ _ _ h4
              have ha0 := q_al_some hal
              refine q_callV (d := d) hexec hb hown hts E hS hml hd hq hs h.1 hcat hfr hlo hH hx hM (by rw [ha0]; exact Nat.le_trans h2 hcap.1) (by rw [ha0]; exact Nat.le_trans h3 hcap.2) (fun r μ' H1 locs1 hk hH1 hS1 => ?_)
              rw [ha0, ← q_rmap]
              exact hk h2 h3 H1 locs1 ls hml hl hH1 hS1
        · exact h.elim
      · exact h.elim
    · exact h.elim
  case invokespecial x =>
    have hlen : Nat.beq len _ = true := hlen
    obtain rfl := Nat.eq_of_beq_eq_true hlen
    dsimp only [q_eff] at h
    split at h
    · rename_i mi na hq
      split at h
      · rename_i as0 rest hs
        split at h
        · rename_i b as
          have h7 := h
          unfold q_do at h7
          cases hcb : Nat.ble (q_cat rest) 8 with
          | false => rw [hcb] at h7; exact (h7).elim
          | true =>
            rw [hcb] at h7
            simp only at h7
            have hcat : q_cat rest ≤ 8 := Nat.le_of_ble_eq_true hcb
            cases hal : q_al mi with
            | none =>
              simp only [hal] at h7
              obtain ⟨xx, hx, hM⟩ := hcall _ _ _ _ h7
              have ha0 := q_al_none hal
              refine q_callI (d := d) hexec hb hown hts E hS hml hd hq hs hcat hfr hlo hH hx hM (by rw [ha0]; exact Nat.le_trans huc hcap.1) (by rw [ha0]; exact Nat.le_trans hus hcap.2) (fun r μ' H1 locs1 hk hH1 hS1 => ?_)
              rw [ha0, ← q_rmap]
              exact hk huc hus H1 locs1 ls hml hl hH1 hS1
            | some y =>
              obtain ⟨ac, ax⟩ := y
              simp only [hal] at h7
              obtain ⟨⟨h2, h3⟩, h4⟩ := h7
              obtain ⟨xx, hx, hM⟩ := hcall _ _ _ _ h4
              have ha0 := q_al_some hal
              refine q_callI (d := d) hexec hb hown hts E hS hml hd hq hs hcat hfr hlo hH hx hM (by rw [ha0]; exact Nat.le_trans h2 hcap.1) (by rw [ha0]; exact Nat.le_trans h3 hcap.2) (fun r μ' H1 locs1 hk hH1 hS1 => ?_)
              rw [ha0, ← q_rmap]
              exact hk h2 h3 H1 locs1 ls hml hl hH1 hS1
        · exact h.elim
      · exact h.elim
    · rename_i u1 u2 hq
      split at h
      · split at h
        · rename_i a r b0 hcb
          have hcat : q_cat r ≤ 8 := Nat.le_of_ble_eq_true hcb
          refine W.objInit hexec hb hown (hts _ (q_mrO_ok hq)) (hts _ q_oi1) (hts _ q_oi2) rfl hml rfl hd (by omega) ?_ (h huc hus H locs ls hml hl hH hS)
          show 2 * 0 + ((r.map (q_v G)).map fun v => v.category).sum + 12 ≤ _
          rw [q_cat_eq]
          omega
        · exact h.elim
      · exact h.elim
    · exact h.elim
  case invokestatic x =>
    have hlen : Nat.beq len _ = true := hlen
    obtain rfl := Nat.eq_of_beq_eq_true hlen
    dsimp only [q_eff] at h
    split at h
    · rename_i mi na hq
      split at h
      · rename_i as rest hs
        have h7 := h
        unfold q_do at h7
        cases hcb : Nat.ble (q_cat rest) 8 with
        | false => rw [hcb] at h7; exact (h7).elim
        | true =>
          rw [hcb] at h7
          simp only at h7
          have hcat : q_cat rest ≤ 8 := Nat.le_of_ble_eq_true hcb
          cases hal : q_al mi with
          | none =>
            simp only [hal] at h7
            obtain ⟨xx, hx, hM⟩ := hcall _ _ _ _ h7
            have ha0 := q_al_none hal
            refine q_callS (d := d) hexec hb hown hts E hS hml hd hq hs hcat hfr hlo hH hx hM (by rw [ha0]; exact Nat.le_trans huc hcap.1) (by rw [ha0]; exact Nat.le_trans hus hcap.2) (fun r μ' H1 locs1 hk hH1 hS1 => ?_)
            rw [ha0, ← q_rmap]
            exact hk huc hus H1 locs1 ls hml hl hH1 hS1
          | some y =>
            obtain ⟨ac, ax⟩ := y
            simp only [hal] at h7
            obtain ⟨⟨h2, h3⟩, h4⟩ := h7
            obtain ⟨xx, hx, hM⟩ := hcall _ _ _ _ h4
            have ha0 := q_al_some hal
            refine q_callS (d := d) hexec hb hown hts E hS hml hd hq hs hcat hfr hlo hH hx hM (by rw [ha0]; exact Nat.le_trans h2 hcap.1) (by rw [ha0]; exact Nat.le_trans h3 hcap.2) (fun r μ' H1 locs1 hk hH1 hS1 => ?_)
            rw [ha0, ← q_rmap]
            exact hk h2 h3 H1 locs1 ls hml hl hH1 hS1
      · exact h.elim
    · rename_i u1 u2 hq
      split at h
      · rename_i n dp a sp a0 r
        split at h
        · rename_i hcb
          have hcat : q_cat r ≤ 8 := Nat.le_of_ble_eq_true hcb
          have hrm : ((r.map (q_v G)).map fun v => v.category).sum + 30 ≤ R.locals := by rw [q_cat_eq]; omega
          rcases h with ⟨n0, n1, h1, h2, h3, h4⟩ | ⟨n0, n1, h1, h2, h3, h4⟩
          · rcases h1 with h1 | h1
            · exact q_copyi (f := μ.2.1 a0) hexec hb hown hts E hS hml hd (q_mrC_ok hq) (q_H_arr hH h1 (by decide)) ((E.2.1 0 (by decide)).1 _ _) q_noU (by rw [arrV_size]; exact Nat.le_refl _) (fun j hj => arrV_read _ _ hj) h2 h3 (by omega) hrm hH (fun H' locs' hH' hS' => h4 huc hus H' locs' ls hml hl hH' hS')
            · have hz : a0 < 2 ∧ n0 = q_rl G a0 := by rcases h1 with ⟨rfl, rfl⟩ | ⟨rfl, rfl⟩ <;> exact ⟨by decide, rfl⟩
              obtain ⟨hz, rfl⟩ := hz
              obtain ⟨cell, k1, k2, k3, k4, k5, k6, k7⟩ := E.2.2.2.2.1 a0 (by omega)
              have hr : q_rho G a0 = q_ad G a0 := if_pos (by omega)
              have hw := q_copyi (x := x) (Q := Qm) (l := l) (e := e) (below := below) (meth := meth) (cells := uc) (slots := us) (pc := pc) (rest := r.map (q_v G)) (f := μ.2.1 a0) hexec hb hown hts E hS hml hd (q_mrC_ok hq) (src := q_ad G a0) (scr := cell) (by rw [hS.2.1 _ (Array.getElem?_eq_some_iff.mp k1).1 k7]; exact k1) k2 k3 k4 (fun j hj => by rw [k6 j hj, hH.2.2.2 a0 (by omega) j hj]) h2 h3 (by omega) hrm hH (fun H' locs' hH' hS' => h4 huc hus H' locs' ls hml hl hH' hS')
              rw [← hr] at hw
              exact hw
          · exact q_copyl (f := μ.2.2.1 a0) hexec hb hown hts E hS hml hd (q_mrC_ok hq) (q_H_arr hH h1 (by decide)) ((E.2.1 1 (by decide)).1 _ _) q_noU (by rw [arrV_size]; exact Nat.le_refl _) (fun j hj => arrV_read _ _ hj) h2 h3 (by omega) hrm hH (fun H' locs' hH' hS' => h4 huc hus H' locs' ls hml hl hH' hS')
        · exact h.elim
      · exact h.elim
    · rename_i u1 u2 hq
      split at h
      · split at h
        · rename_i y x2 r b0 hcb
          have hcat : q_cat r ≤ 8 := Nat.le_of_ble_eq_true hcb
          refine va_mmin hexec hb hml.symm hown (hts _ (q_mrM_ok hq)) (hts _ q_mm1) (hts _ q_mm2) (hts _ q_mm3) (by omega) ?_ (Nat.le_trans huc hcap.1) (Nat.le_trans hus hcap.2) hd (h huc hus H locs ls hml hl hH hS)
          rw [q_cat_eq]
          omega
        · exact h.elim
      · exact h.elim
    · exact h.elim
  case ireturn =>
    have hlen : Nat.beq len _ = true := hlen
    obtain rfl := Nat.eq_of_beq_eq_true hlen
    dsimp only [q_eff] at h
    split at h
    · split at h
      · exact (hret H locs uc us ls pc μ huc hus hH hS).1 _ hd (Or.inl rfl) h
      · exact (hret H locs uc us ls pc μ huc hus hH hS).1 _ hd (Or.inr ⟨rfl, h.1⟩) h.2
      · exact h.elim
    · exact h.elim
  case lreturn =>
    have hlen : Nat.beq len _ = true := hlen
    obtain rfl := Nat.eq_of_beq_eq_true hlen
    dsimp only [q_eff] at h
    split at h
    · split at h
      · exact (hret H locs uc us ls pc μ huc hus hH hS).2.1 _ hd rfl h
      · exact h.elim
    · exact h.elim
  case areturn =>
    have hlen : Nat.beq len _ = true := hlen
    obtain rfl := Nat.eq_of_beq_eq_true hlen
    dsimp only [q_eff] at h
    split at h
    · split at h
      · exact (hret H locs uc us ls pc μ huc hus hH hS).2.2.1 _ hd rfl h
      · exact h.elim
    · exact h.elim
  case return_ =>
    have hlen : Nat.beq len _ = true := hlen
    obtain rfl := Nat.eq_of_beq_eq_true hlen
    dsimp only [q_eff] at h
    split at h
    · split at h
      · exact (hret H locs uc us ls pc μ huc hus hH hS).2.2.2 hd rfl h
      · exact h.elim
    · exact h.elim
  all_goals exact h.elim
/-- the walk of a method's body -/
theorem q_body (hexec : p.tables.exec = Jvm.exec) (hb : c.code = cc) (hown : s.vm.findClass (q_cn own) = some m.cls) (hts : ∀ w ∈ q_good, w.before args s = true) (E : q_E G s) (hini : ini = true → meth.name = "<init>")
    (hcap : cap.1 ≤ R.cells ∧ cap.2 ≤ R.slots) (hfr : d + 1 ≤ R.frames) (hlo : 45 * d + 45 ≤ R.locals) (hcall : q_CM G l d call) (hret : q_Rt G cap rt Q cc p l e R s m args below meth c Qm)
    {code : Nat → Option Instr} (hcode : ∀ pc i, code pc = some i → q_dec cc pc i = true) {pc : Nat} {ll : List (Option Value)} {st : List Value} {μ : q_M} {uc us : Nat}
    (h : q_WP (q_ln G) own rt ini cap code call Q pc ll st μ uc us) : q_Y G cap p l e R s m args below meth c Qm pc ll st μ uc us := by
  refine h _ (fun pc ll st μ uc us hs => ?_)
  unfold q_stp at hs
  cases hi : code pc with
  | none => rw [hi] at hs; exact hs.elim
  | some i =>
    rw [hi] at hs
    simp only at hs
    have hdc := hcode pc i hi
    unfold q_dec at hdc
    split at hdc
    · rename_i j len hd
      simp only [Bool.and_eq_true] at hdc
      obtain ⟨⟨k1, k2⟩, k3⟩ := hdc
      have k1 : j = i := of_decide_eq_true k1
      subst k1
      cases hp : q_pure own pc j ll st with
      | none => rw [hp] at hs; exact q_eff_sound hexec hb hown hts E hini hcap hfr hlo hcall hret hd k2 k3 hs
      | some y =>
        obtain ⟨pc', ll', st'⟩ := y
        rw [hp] at hs
        intro huc hus H locs ls hml hl hH hS
        exact q_pure_sound hexec hb hown hts E hS hd k2 k3 hp hl (fun ls' hl' hz => hs huc hus H locs ls' (hz.trans hml) hl' hH hS)
    · cases hdc
end QMain
theorem q_lay_get (G : q_G) : ∀ (as : List Value) (i j : Nat) (v : Value) (n : Nat), q_get (q_lay as ++ List.replicate n none) j = some v → (i + j, q_v G v) ∈ lv_args i (as.map (q_v G))
  | [], i, j, v, n, h => by
    exfalso
    have : ∀ (n j : Nat), q_get (List.replicate n none) j = none := by
      intro n
      induction n with
      | zero => intro j; rfl
      | succ n ih => intro j; cases j with
        | zero => rfl
        | succ j => exact ih j
    rw [show q_lay [] ++ List.replicate n none = List.replicate n none from rfl, this] at h
    cases h
  | w :: as, i, j, v, n, h => by
    show (i + j, q_v G v) ∈ (i, q_v G w) :: lv_args (if (q_v G w).category = 2 then i + 2 else i + 1) (as.map (q_v G))
    unfold q_lay at h
    by_cases hc : w.category = 2
    · rw [hc] at h
      simp only [List.cons_append] at h
      rw [q_v_cat, if_pos hc]
      match j, h with
      | 0, h => obtain rfl := Option.some.inj h; exact List.mem_cons_self
      | 1, h => cases h
      | j + 2, h =>
        have := q_lay_get G as (i + 2) j v n h
        rw [show i + (j + 2) = i + 2 + j by omega]
        exact List.mem_cons_of_mem _ this
    · rw [q_v_cat, if_neg hc]
      have h : q_get (some w :: (q_lay as ++ List.replicate n none)) j = some v := by
        rcases lv_cat w with h1 | h1
        · rw [h1] at h; exact h
        · exact absurd h1 hc
      match j, h with
      | 0, h => obtain rfl := Option.some.inj h; exact List.mem_cons_self
      | j + 1, h =>
        have := q_lay_get G as (i + 1) j v n h
        rw [show i + (j + 1) = i + 1 + j by omega]
        exact List.mem_cons_of_mem _ this
theorem q_lay_len (G : q_G) : ∀ as : List Value, (lg_sl (as.map (q_v G))).length = (q_lay as).length
  | [] => rfl
  | w :: as => by
    have ih := q_lay_len G as
    show (List.flatMap _ (q_v G w :: as.map (q_v G))).length = _
    rw [List.flatMap_cons, List.length_append]
    have ih2 : (List.flatMap (fun v : Value => if v.category = 2 then [Slot.val v, .second] else [.val v]) (as.map (q_v G))).length = (q_lay as).length := ih
    rw [ih2, q_v_cat, show q_lay (w :: as) = (match w.category with | 2 => some w :: none :: q_lay as | _ => some w :: q_lay as) from rfl]
    rcases lv_cat w with h1 | h1 <;> rw [h1] <;> simp <;> omega
theorem q_entry (G : q_G) (as : List Value) {n : Nat} (h : (q_lay as).length ≤ n) : q_lr G ((lg_sl (as.map (q_v G)) ++ List.replicate (n - (lg_sl (as.map (q_v G))).length) Slot.unset).toArray) (q_ent as n) := by
  have hh := lv_entry (as.map (q_v G)) (n := n) (by rw [q_lay_len]; exact h)
  refine ⟨?_, hh.2.1, fun i v hi => ?_⟩
  · rw [hh.1]
    unfold q_ent
    simp
    omega
  · have := q_lay_get G as 0 i v _ hi
    rw [Nat.zero_add] at this
    exact hh.2.2 _ this
/-- what the mind's machine does the machine does -/
theorem q_met (l : Launch) (G : q_G) : ∀ d, q_CM G l d (q_Ex (q_ln G) d)
  | 0 => fun _ _ _ _ h => h.elim
  | d + 1 => fun mi as μ Q' ⟨x, hx, hlen, hw⟩ => by
    refine ⟨x, hx, ?_⟩
    have F := q_tab_ok (List.mem_of_getElem? hx)
    obtain ⟨F1, F2, F3, F4, F5, F6, F7, F8, F9⟩ := F
    refine Met.ofW (cc := x.2.1) (maxL := x.2.2.1) (ret := x.2.2.2.1) F5 rfl ?_
    intro p e s m args below meth c s₁ B hml hv
    obtain ⟨rfl, E, hH⟩ := hv
    have hts0 := atoms_spec (ws := q_wsm x) B.pre
    have hts : ∀ w ∈ q_good, w.before _ s = true := fun w hw => hts0 w (List.mem_cons_of_mem _ hw)
    have hown : s.vm.findClass (q_cn x.2.2.2.2.1) = some m.cls := by rw [← F6]; exact findClass_of_methodNamed B.named
    have hlocks := B.notSynchronized
    rw [lg_entry_eq]
    have hl := q_entry G as hlen
    have hr := B.returns
    have hret : q_Rt G ((q_al mi).getD (0, 0)) x.2.2.2.2.2.1 Q' x.2.1 p l e (headSpec (q_wsm x) (q_rm (d + 1) mi)).room s m ((as.map (q_v G)).toArray) below meth c (MQ below (q_Qc G Q') ((as.map (q_v G)).toArray) s ((q_al mi).getD (0, 0)).1 ((q_al mi).getD (0, 0)).2 (q_A G)) := by
      intro H locs uc us ls pc μ huc hus hH hS
      refine ⟨fun v hd hrt hq => ?_, fun v hd hrt hq => ?_, fun v hd hrt hq => ?_, fun hd hrt hq => ?_⟩
      · refine W.widen huc hus ?_
        rcases hrt with hrt | ⟨hrt, hz⟩
        · refine W.iret B.exec B.bytes (hr.trans (F7.1 hrt)) (fun t ht hW => ⟨⟨some (.int v), μ, rfl, hq, by rw [ht]; exact hH⟩, hS.F ht⟩) hS.2.2 hd
        · refine W.zret B.exec B.bytes (hr.trans (F7.2.1 hrt)) (by rcases hz with rfl | rfl <;> rfl) (fun t ht hW => ⟨⟨some (.int v), μ, rfl, hq, by rw [ht]; exact hH⟩, hS.F ht⟩) hS.2.2 hd
      · refine W.widen huc hus ?_
        exact W.lret B.exec B.bytes (hr.trans (F7.2.2.1 hrt)) (fun t ht hW => ⟨⟨some (.long v), μ, rfl, hq, by rw [ht]; exact hH⟩, hS.F ht⟩) hS.2.2 hd
      · refine W.widen huc hus ?_
        obtain ⟨nm, hnm⟩ := F7.2.2.2.1 hrt
        exact W.aret B.exec B.bytes (hr.trans hnm) (Or.inl ⟨nm, rfl⟩) (Or.inr ⟨_, rfl⟩) (fun t ht hW => ⟨⟨some (.ref v), μ, rfl, hq, by rw [ht]; exact hH⟩, hS.F ht⟩) hS.2.2 hd
      · refine W.widen huc hus ?_
        exact W.vret B.exec B.bytes (hr.trans (F7.2.2.2.2 hrt)) (fun t ht hW => ⟨⟨none, μ, rfl, hq, by rw [ht]; exact hH⟩, hS.F ht⟩) hS.2.2 hd
    refine q_body (d := d) B.exec B.bytes hown hts E (fun hi => ?_) ⟨Nat.le_refl _, Nat.le_refl _⟩ (by show d + 1 ≤ d + 1; omega) (by show 45 * d + 45 ≤ 45 * (d + 1); omega) (q_met l G d) hret F9 hw (Nat.zero_le _) (Nat.zero_le _) s.heap [] _ ?_ hl hH va_S.rf
    · rw [(name_of_methodNamed B.named B.method).1]; exact F8 hi
    · rw [hml, hl.1]; unfold q_ent; simp; omega
