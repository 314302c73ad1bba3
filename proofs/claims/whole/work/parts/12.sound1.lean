theorem q_tg_ok {pc : Nat} {off : Int} (h : q_jmp pc off = true) : (pc : Int) + off = (q_tg pc off : Int) := by
  have h1 : 0 ≤ (pc : Int) + off := of_decide_eq_true h
  unfold q_tg
  omega
section QP
variable {p : Program} {l : Launch} {e : Env} {R : Room} {s : State} {m : MethodId} {args : Array Value} {below : List Frame} {meth : Method} {c : Code} {H : Heap} {locs : List Loc} {cells slots : Nat} {Q : State → Prop}
set_option maxHeartbeats 4000000 in
theorem q_pure_sound {G : q_G} {cc : ByteArray} {own pc : Nat} {i : Instr} {ll ll' : List (Option Value)} {st st' : List Value} {pc' : Nat} {ls : Array Slot} (hexec : p.tables.exec = Jvm.exec) (hb : c.code = cc) (hown : s.vm.findClass (q_cn own) = some m.cls) (hts : ∀ w ∈ q_good, w.before args s = true)
    (E : q_E G s) (hS : va_S (q_A G) s.heap H locs) {len : Nat} (hd : decode cc pc = .ok (i, len)) (hlen : q_lk i len = true) (hok : q_ok pc i = true)
    (hp : q_pure own pc i ll st = some (pc', ll', st')) (hl : q_lr G ls ll) (kk : ∀ ls', q_lr G ls' ll' → ls'.size = ls.size → W p l e R s m args below meth c H locs cells slots Q (F0 m pc' ls' (st'.map (q_v G)))) :
    W p l e R s m args below meth c H locs cells slots Q (F0 m pc ls (st.map (q_v G))) := by
  cases i
  case iconst n =>
    have hlen : Nat.beq len _ = true := hlen
    obtain rfl := Nat.eq_of_beq_eq_true hlen
    cases hp
    exact lv_iconst (v := q_c n) hexec hb hd (of_decide_eq_true hok) (kk ls hl rfl)
  case bipush n =>
    have hlen : Nat.beq len _ = true := hlen
    obtain rfl := Nat.eq_of_beq_eq_true hlen
    cases hp
    exact lv_bipush (v := q_c n) hexec hb hd (of_decide_eq_true hok) (kk ls hl rfl)
  case sipush n =>
    have hlen : Nat.beq len _ = true := hlen
    obtain rfl := Nat.eq_of_beq_eq_true hlen
    cases hp
    exact lv_sipush (v := q_c n) hexec hb hd (of_decide_eq_true hok) (kk ls hl rfl)
  case lconst n =>
    have hlen : Nat.beq len _ = true := hlen
    obtain rfl := Nat.eq_of_beq_eq_true hlen
    cases hp
    exact lv_lconst (v := lN n.val) hexec hb hd rfl (kk ls hl rfl)
  case ldc x =>
    have hlen : Nat.beq len _ = true := hlen
    obtain rfl := Nat.eq_of_beq_eq_true hlen
    dsimp only [q_pure] at hp
    cases hq : q_ci own x with
    | none => simp only [hq] at hp; cases hp
    | some v =>
      simp only [hq] at hp
      cases hp
      exact lv_ldc hexec hb hown (hts _ (q_ci_ok hq)) hd (kk ls hl rfl)
  case ldc_w x =>
    have hlen : Nat.beq len _ = true := hlen
    obtain rfl := Nat.eq_of_beq_eq_true hlen
    dsimp only [q_pure] at hp
    cases hq : q_ci own x with
    | none => simp only [hq] at hp; cases hp
    | some v =>
      simp only [hq] at hp
      cases hp
      exact lv_ldcw hexec hb hown (hts _ (q_ci_ok hq)) hd (kk ls hl rfl)
  case ldc2_w x =>
    have hlen : Nat.beq len _ = true := hlen
    obtain rfl := Nat.eq_of_beq_eq_true hlen
    dsimp only [q_pure] at hp
    cases hq : q_cl own x with
    | none => simp only [hq] at hp; cases hp
    | some v =>
      simp only [hq] at hp
      cases hp
      exact lv_ldc2 hexec hb hown (hts _ (q_cl_ok hq)) hd (kk ls hl rfl)
  case iload_n k =>
    have hlen : Nat.beq len _ = true := hlen
    obtain rfl := Nat.eq_of_beq_eq_true hlen
    dsimp only [q_pure] at hp
    split at hp
    · rename_i x hq
      cases hp
      exact lv_iload_n hexec hb hd rfl (hl.2.2 _ _ hq) (kk ls hl rfl)
    · cases hp
  case iload k =>
    have hlen : Nat.beq len _ = true := hlen
    obtain rfl := Nat.eq_of_beq_eq_true hlen
    dsimp only [q_pure] at hp
    split at hp
    · rename_i x hq
      cases hp
      exact lv_iload hexec hb hd (hl.2.2 _ _ hq) (kk ls hl rfl)
    · cases hp
  case lload_n k =>
    have hlen : Nat.beq len _ = true := hlen
    obtain rfl := Nat.eq_of_beq_eq_true hlen
    dsimp only [q_pure] at hp
    split at hp
    · rename_i x hq
      cases hp
      exact lv_lload_n hexec hb hd rfl (hl.2.2 _ _ hq) (kk ls hl rfl)
    · cases hp
  case lload k =>
    have hlen : Nat.beq len _ = true := hlen
    obtain rfl := Nat.eq_of_beq_eq_true hlen
    dsimp only [q_pure] at hp
    split at hp
    · rename_i x hq
      cases hp
      exact lv_lload hexec hb hd (hl.2.2 _ _ hq) (kk ls hl rfl)
    · cases hp
  case aload_n k =>
    have hlen : Nat.beq len _ = true := hlen
    obtain rfl := Nat.eq_of_beq_eq_true hlen
    dsimp only [q_pure] at hp
    split at hp
    · rename_i x hq
      cases hp
      exact lv_aload_n hexec hb hd rfl (hl.2.2 _ _ hq) (kk ls hl rfl)
    · cases hp
  case aload k =>
    have hlen : Nat.beq len _ = true := hlen
    obtain rfl := Nat.eq_of_beq_eq_true hlen
    dsimp only [q_pure] at hp
    split at hp
    · rename_i x hq
      cases hp
      exact lv_aload hexec hb hd (hl.2.2 _ _ hq) (kk ls hl rfl)
    · cases hp
  case istore_n k =>
    have hlen : Nat.beq len _ = true := hlen
    obtain rfl := Nat.eq_of_beq_eq_true hlen
    dsimp only [q_pure] at hp
    split at hp
    · rename_i x r
      cases hq : q_s1 ll k.val (.int x) with
      | none => simp only [hq] at hp; cases hp
      | some l1 =>
        simp only [hq] at hp
        cases hp
        exact lv_istore_n hexec hb hd rfl (q_lr_has hl) (q_s1_spec _ _ _ _ hq).2.1 rfl (fun ls1 h1 => kk ls1 (q_lr_s1 hq h1) (h1.1.trans hl.1.symm))
    · cases hp
  case istore k =>
    have hlen : Nat.beq len _ = true := hlen
    obtain rfl := Nat.eq_of_beq_eq_true hlen
    dsimp only [q_pure] at hp
    split at hp
    · rename_i x r
      cases hq : q_s1 ll k (.int x) with
      | none => simp only [hq] at hp; cases hp
      | some l1 =>
        simp only [hq] at hp
        cases hp
        exact lv_istore hexec hb hd (q_lr_has hl) (q_s1_spec _ _ _ _ hq).2.1 rfl (fun ls1 h1 => kk ls1 (q_lr_s1 hq h1) (h1.1.trans hl.1.symm))
    · cases hp
  case lstore_n k =>
    have hlen : Nat.beq len _ = true := hlen
    obtain rfl := Nat.eq_of_beq_eq_true hlen
    dsimp only [q_pure] at hp
    split at hp
    · rename_i x r
      cases hq : q_s2 ll k.val (.long x) with
      | none => simp only [hq] at hp; cases hp
      | some l1 =>
        simp only [hq] at hp
        cases hp
        exact lv_lstore_n hexec hb hd rfl (q_lr_has hl) (q_s2_spec hq).2.1 rfl (fun ls1 h1 => kk ls1 (q_lr_s2 hq h1) (h1.1.trans hl.1.symm))
    · cases hp
  case lstore k =>
    have hlen : Nat.beq len _ = true := hlen
    obtain rfl := Nat.eq_of_beq_eq_true hlen
    dsimp only [q_pure] at hp
    split at hp
    · rename_i x r
      cases hq : q_s2 ll k (.long x) with
      | none => simp only [hq] at hp; cases hp
      | some l1 =>
        simp only [hq] at hp
        cases hp
        exact lv_lstore hexec hb hd (q_lr_has hl) (q_s2_spec hq).2.1 rfl (fun ls1 h1 => kk ls1 (q_lr_s2 hq h1) (h1.1.trans hl.1.symm))
    · cases hp
  case astore_n k =>
    have hlen : Nat.beq len _ = true := hlen
    obtain rfl := Nat.eq_of_beq_eq_true hlen
    dsimp only [q_pure] at hp
    split at hp
    · rename_i x r
      cases hq : q_s1 ll k.val (.ref x) with
      | none => simp only [hq] at hp; cases hp
      | some l1 =>
        simp only [hq] at hp
        cases hp
        exact lv_astore_n hexec hb hd rfl (q_lr_has hl) (q_s1_spec _ _ _ _ hq).2.1 rfl (fun ls1 h1 => kk ls1 (q_lr_s1 hq h1) (h1.1.trans hl.1.symm))
    · cases hp
  case astore k =>
    have hlen : Nat.beq len _ = true := hlen
    obtain rfl := Nat.eq_of_beq_eq_true hlen
    dsimp only [q_pure] at hp
    split at hp
    · rename_i x r
      cases hq : q_s1 ll k (.ref x) with
      | none => simp only [hq] at hp; cases hp
      | some l1 =>
        simp only [hq] at hp
        cases hp
        exact lv_astore hexec hb hd (q_lr_has hl) (q_s1_spec _ _ _ _ hq).2.1 rfl (fun ls1 h1 => kk ls1 (q_lr_s1 hq h1) (h1.1.trans hl.1.symm))
    · cases hp
  case iinc k n =>
    have hlen : Nat.beq len _ = true := hlen
    obtain rfl := Nat.eq_of_beq_eq_true hlen
    dsimp only [q_pure] at hp
    split at hp
    · rename_i x hg
      cases hq : q_s1 ll k (.int (x + q_c n)) with
      | none => simp only [hq] at hp; cases hp
      | some l1 =>
        simp only [hq] at hp
        cases hp
        obtain ⟨j, hj⟩ := List.getElem?_of_mem (q_mem_as (G := G) hg)
        exact lv_iinc hexec hb hd (q_lr_has hl) hj (by rw [of_decide_eq_true hok]) (q_s1_spec _ _ _ _ hq).2.1 rfl (fun ls1 h1 => kk ls1 (q_lr_s1 hq h1) (h1.1.trans hl.1.symm))
    · cases hp
  case iadd =>
    have hlen : Nat.beq len _ = true := hlen
    obtain rfl := Nat.eq_of_beq_eq_true hlen
    dsimp only [q_pure] at hp
    split at hp
    · cases hp
      exact lv_iadd hexec hb hd (kk ls hl rfl)
    · cases hp
  case isub =>
    have hlen : Nat.beq len _ = true := hlen
    obtain rfl := Nat.eq_of_beq_eq_true hlen
    dsimp only [q_pure] at hp
    split at hp
    · cases hp
      exact lv_isub hexec hb hd (kk ls hl rfl)
    · cases hp
  case imul =>
    have hlen : Nat.beq len _ = true := hlen
    obtain rfl := Nat.eq_of_beq_eq_true hlen
    dsimp only [q_pure] at hp
    split at hp
    · cases hp
      exact lv_imul hexec hb hd (kk ls hl rfl)
    · cases hp
  case iand =>
    have hlen : Nat.beq len _ = true := hlen
    obtain rfl := Nat.eq_of_beq_eq_true hlen
    dsimp only [q_pure] at hp
    split at hp
    · cases hp
      exact lv_iand hexec hb hd (kk ls hl rfl)
    · cases hp
  case ior =>
    have hlen : Nat.beq len _ = true := hlen
    obtain rfl := Nat.eq_of_beq_eq_true hlen
    dsimp only [q_pure] at hp
    split at hp
    · cases hp
      exact lv_ior hexec hb hd (kk ls hl rfl)
    · cases hp
  case ixor =>
    have hlen : Nat.beq len _ = true := hlen
    obtain rfl := Nat.eq_of_beq_eq_true hlen
    dsimp only [q_pure] at hp
    split at hp
    · cases hp
      exact lv_ixor hexec hb hd (kk ls hl rfl)
    · cases hp
  case ishl =>
    have hlen : Nat.beq len _ = true := hlen
    obtain rfl := Nat.eq_of_beq_eq_true hlen
    dsimp only [q_pure] at hp
    split at hp
    · cases hp
      exact lv_ishl hexec hb hd (kk ls hl rfl)
    · cases hp
  case ishr =>
    have hlen : Nat.beq len _ = true := hlen
    obtain rfl := Nat.eq_of_beq_eq_true hlen
    dsimp only [q_pure] at hp
    split at hp
    · cases hp
      exact lv_ishr hexec hb hd (kk ls hl rfl)
    · cases hp
  case ladd =>
    have hlen : Nat.beq len _ = true := hlen
    obtain rfl := Nat.eq_of_beq_eq_true hlen
    dsimp only [q_pure] at hp
    split at hp
    · cases hp
      exact lv_ladd hexec hb hd (kk ls hl rfl)
    · cases hp
  case lmul =>
    have hlen : Nat.beq len _ = true := hlen
    obtain rfl := Nat.eq_of_beq_eq_true hlen
    dsimp only [q_pure] at hp
    split at hp
    · cases hp
      exact lv_lmul hexec hb hd (kk ls hl rfl)
    · cases hp
  case land =>
    have hlen : Nat.beq len _ = true := hlen
    obtain rfl := Nat.eq_of_beq_eq_true hlen
    dsimp only [q_pure] at hp
    split at hp
    · cases hp
      exact lv_land hexec hb hd (kk ls hl rfl)
    · cases hp
  case lor =>
    have hlen : Nat.beq len _ = true := hlen
    obtain rfl := Nat.eq_of_beq_eq_true hlen
    dsimp only [q_pure] at hp
    split at hp
    · cases hp
      exact lv_lor hexec hb hd (kk ls hl rfl)
    · cases hp
  case lxor =>
    have hlen : Nat.beq len _ = true := hlen
    obtain rfl := Nat.eq_of_beq_eq_true hlen
    dsimp only [q_pure] at hp
    split at hp
    · cases hp
      exact lv_lxor hexec hb hd (kk ls hl rfl)
    · cases hp
  case iushr =>
    have hlen : Nat.beq len _ = true := hlen
    obtain rfl := Nat.eq_of_beq_eq_true hlen
    dsimp only [q_pure] at hp
    split at hp
    · cases hp
      exact lv_iushr hexec hb hd rfl (kk ls hl rfl)
    · cases hp
  case lshl =>
    have hlen : Nat.beq len _ = true := hlen
    obtain rfl := Nat.eq_of_beq_eq_true hlen
    dsimp only [q_pure] at hp
    split at hp
    · cases hp
      exact lv_lshl hexec hb hd rfl (kk ls hl rfl)
    · cases hp
  case lshr =>
    have hlen : Nat.beq len _ = true := hlen
    obtain rfl := Nat.eq_of_beq_eq_true hlen
    dsimp only [q_pure] at hp
    split at hp
    · cases hp
      exact lv_lshr hexec hb hd rfl (kk ls hl rfl)
    · cases hp
  case lushr =>
    have hlen : Nat.beq len _ = true := hlen
    obtain rfl := Nat.eq_of_beq_eq_true hlen
    dsimp only [q_pure] at hp
    split at hp
    · cases hp
      exact lv_lushr hexec hb hd rfl (kk ls hl rfl)
    · cases hp
  case i2l =>
    have hlen : Nat.beq len _ = true := hlen
    obtain rfl := Nat.eq_of_beq_eq_true hlen
    dsimp only [q_pure] at hp
    split at hp
    · cases hp
      exact lv_i2l hexec hb hd rfl (kk ls hl rfl)
    · cases hp
  case l2i =>
    have hlen : Nat.beq len _ = true := hlen
    obtain rfl := Nat.eq_of_beq_eq_true hlen
    dsimp only [q_pure] at hp
    split at hp
    · cases hp
      exact lv_l2i hexec hb hd rfl (kk ls hl rfl)
    · cases hp
  case lcmp =>
    have hlen : Nat.beq len _ = true := hlen
    obtain rfl := Nat.eq_of_beq_eq_true hlen
    dsimp only [q_pure] at hp
    split at hp
    · cases hp
      exact W.lcmp hexec hb hd (kk ls hl rfl)
    · cases hp
  case dup =>
    have hlen : Nat.beq len _ = true := hlen
    obtain rfl := Nat.eq_of_beq_eq_true hlen
    dsimp only [q_pure] at hp
    split at hp
    · rename_i v r
      split at hp
      · rename_i hc
        cases hp
        exact lv_dup hexec hb hd ((q_v_cat v).trans hc) (kk ls hl rfl)
      · cases hp
    · cases hp
  case dup2 =>
    have hlen : Nat.beq len _ = true := hlen
    obtain rfl := Nat.eq_of_beq_eq_true hlen
    dsimp only [q_pure] at hp
    split at hp
    · rename_i v w r
      split at hp
      · rename_i hc
        split at hp
        · rename_i hw
          cases hp
          exact lv_dup2_11 hexec hb hd ((q_v_cat v).trans hc) ((q_v_cat w).trans hw) (kk ls hl rfl)
        · cases hp
      · cases hp
    · cases hp
  case goto off =>
    have hlen : Nat.beq len _ = true := hlen
    obtain rfl := Nat.eq_of_beq_eq_true hlen
    cases hp
    exact lv_goto hexec hb hd (q_tg_ok hok) (kk ls hl rfl)
  case getstatic x =>
    have hlen : Nat.beq len _ = true := hlen
    obtain rfl := Nat.eq_of_beq_eq_true hlen
    dsimp only [q_pure] at hp
    cases hq : q_sr own x with
    | none => simp only [hq] at hp; cases hp
    | some a =>
      simp only [hq] at hp
      cases hp
      have ha : a < 2 := (q_sr_ok hq).1
      have hv : q_v G (.ref a) = .ref (q_ad G a) := by show Value.ref (q_rho G a) = _; unfold q_rho; rw [if_pos (by omega)]
      have hk := kk ls hl rfl
      rw [List.map_cons, hv] at hk
      rcases (q_sr_ok hq).2 with h1 | ⟨host, h1⟩
      · exact va_gets hexec hb (E.2.2.2.2.2.1 a ha) hS hown (hts _ h1) (fun _ z => z) hd hk
      · exact va_getsN hexec hb (E.2.2.2.2.2.1 a ha) hS hown (va_Nw.use rfl (E.2.2.1 _ h1)) (fun _ z => z) hd hk
  all_goals (cases hp)
end QP
