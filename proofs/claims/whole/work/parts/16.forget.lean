/-! what a method knows of its locals may be forgotten -/
section QForget
variable {L own rt : Nat} {ini : Bool} {cap : Nat × Nat} {code : Nat → Option Instr} {call call' : q_C} {Q Q' : q_Q} {K K' : q_K}
theorem q_do_ls {ls ls' : List (Option Value)} (hc : ∀ mi as μ (Q Q' : q_Q), (∀ r μ, Q r μ → Q' r μ) → call mi as μ Q → call' mi as μ Q') (hK : ∀ pc st μ uc us, K pc ls st μ uc us → K' pc ls' st μ uc us) {pc mi : Nat} {as rest : List Value} {μ : q_M} {uc us : Nat}
    (h : q_do own cap call K pc mi as rest ls μ uc us) : q_do own cap call' K' pc mi as rest ls' μ uc us := by
  unfold q_do at h ⊢
  cases hb : Nat.ble (q_cat rest) 8 with
  | false => rw [hb] at h; exact h.elim
  | true =>
    rw [hb] at h
    cases ha : q_al mi with
    | none => rw [ha] at h; exact hc _ _ _ _ _ (fun r μ' hk => hK _ _ _ _ _ hk) h
    | some x => rw [ha] at h; exact ⟨h.1, hc _ _ _ _ _ (fun r μ' hk => hK _ _ _ _ _ hk) h.2⟩
set_option maxHeartbeats 2000000 in
theorem q_eff_ls {ls ls' : List (Option Value)} (hc : ∀ mi as μ (Q Q' : q_Q), (∀ r μ, Q r μ → Q' r μ) → call mi as μ Q → call' mi as μ Q') (hQ : ∀ r μ, Q r μ → Q' r μ) (hK : ∀ pc st μ uc us, K pc ls st μ uc us → K' pc ls' st μ uc us) {pc : Nat} {i : Instr} {st : List Value} {μ : q_M} {uc us : Nat}
    (h : q_eff L own rt ini cap call Q K pc i ls st μ uc us) : q_eff L own rt ini cap call' Q' K' pc i ls' st μ uc us := by
  cases i
  case irem => dsimp only [q_eff] at h ⊢; split at h; exact ⟨h.1, hK _ _ _ _ _ h.2⟩; exact h.elim
  case lrem => dsimp only [q_eff] at h ⊢; split at h; exact ⟨h.1, hK _ _ _ _ _ h.2⟩; exact h.elim
  case ifCond c off =>
    dsimp only [q_eff] at h ⊢
    split at h
    · cases c <;> exact ⟨fun z => hK _ _ _ _ _ (h.1 z), fun z => hK _ _ _ _ _ (h.2 z)⟩
    · exact h.elim
  case if_icmp c off =>
    dsimp only [q_eff] at h ⊢
    split at h
    · cases c <;> exact ⟨fun z => hK _ _ _ _ _ (h.1 z), fun z => hK _ _ _ _ _ (h.2 z)⟩
    · exact h.elim
  case tableswitch d lo hi offs =>
    dsimp only [q_eff] at h ⊢
    split at h
    · exact ⟨fun z => hK _ _ _ _ _ (h.1 z), q_sw_mono (fun t => hK _ _ _ _ _) _ _ h.2⟩
    · exact h.elim
  case getfield x =>
    dsimp only [q_eff] at h ⊢
    cases hq : q_fr own x with
    | none => simp only [hq] at h
    | some f =>
      obtain ⟨ci, k, ty, fin⟩ := f
      simp only [hq] at h ⊢
      split at h
      · refine ⟨h.1, ?_⟩
        have h2 := h.2
        split at h2
        · exact hK _ _ _ _ _ h2
        · exact hK _ _ _ _ _ h2
        · exact hK _ _ _ _ _ h2
        · obtain ⟨b, e, h3⟩ := h2
          exact ⟨b, e, hK _ _ _ _ _ h3⟩
      · exact h.elim
  case putfield x =>
    dsimp only [q_eff] at h ⊢
    cases hq : q_fr own x with
    | none => simp only [hq] at h
    | some f =>
      obtain ⟨ci, k, ty, fin⟩ := f
      simp only [hq] at h ⊢
      cases hf : (!fin || (ini && Nat.beq own ci)) with
      | false => rw [hf] at h; exact h.elim
      | true =>
        rw [hf] at h
        simp only at h ⊢
        split at h
        · split at h
          · exact ⟨h.1, hK _ _ _ _ _ h.2⟩
          · exact h.elim
        · split at h
          · exact ⟨h.1, h.2.1, hK _ _ _ _ _ h.2.2⟩
          · exact h.elim
        · split at h
          · exact ⟨h.1, hK _ _ _ _ _ h.2⟩
          · exact h.elim
        · split at h
          · exact ⟨h.1, hK _ _ _ _ _ h.2⟩
          · exact h.elim
  case iaload =>
    dsimp only [q_eff] at h ⊢; split at h
    · obtain ⟨n, h1, h2, h3⟩ := h; exact ⟨n, h1, h2, hK _ _ _ _ _ h3⟩
    · exact h.elim
  case laload =>
    dsimp only [q_eff] at h ⊢; split at h
    · obtain ⟨n, h1, h2, h3⟩ := h; exact ⟨n, h1, h2, hK _ _ _ _ _ h3⟩
    · exact h.elim
  case baload =>
    dsimp only [q_eff] at h ⊢; split at h
    · obtain ⟨n, h1, h2, h3⟩ := h; exact ⟨n, h1, h2, hK _ _ _ _ _ h3⟩
    · exact h.elim
  case aaload =>
    dsimp only [q_eff] at h ⊢; split at h
    · obtain ⟨t, n, b, h1, h2, h3, h4⟩ := h; exact ⟨t, n, b, h1, h2, h3, hK _ _ _ _ _ h4⟩
    · exact h.elim
  case iastore =>
    dsimp only [q_eff] at h ⊢; split at h
    · obtain ⟨n, h1, h2, h3⟩ := h; exact ⟨n, h1, h2, hK _ _ _ _ _ h3⟩
    · exact h.elim
  case lastore =>
    dsimp only [q_eff] at h ⊢; split at h
    · obtain ⟨n, h1, h2, h3⟩ := h; exact ⟨n, h1, h2, hK _ _ _ _ _ h3⟩
    · exact h.elim
  case bastore =>
    dsimp only [q_eff] at h ⊢; split at h
    · obtain ⟨n, h1, h2, hz, h3⟩ := h; exact ⟨n, h1, h2, hz, hK _ _ _ _ _ h3⟩
    · exact h.elim
  case aastore =>
    dsimp only [q_eff] at h ⊢; split at h
    · obtain ⟨t, n, h1, h2, h3, h4⟩ := h; exact ⟨t, n, h1, h2, h3, hK _ _ _ _ _ h4⟩
    · exact h.elim
  case arraylength =>
    dsimp only [q_eff] at h ⊢; split at h
    · exact ⟨h.1, hK _ _ _ _ _ h.2⟩
    · exact h.elim
  case new x =>
    dsimp only [q_eff] at h ⊢
    cases hq : q_cr own x with
    | none => simp only [hq] at h
    | some ci => simp only [hq] at h ⊢; exact ⟨h.1, h.2.1, hK _ _ _ _ _ h.2.2⟩
  case newarray t =>
    dsimp only [q_eff] at h ⊢
    cases hq : q_tagOf t with
    | none => simp only [hq] at h
    | some tg =>
      simp only [hq] at h ⊢
      split at h
      · obtain ⟨N, h1, h2, h3⟩ := h; exact ⟨N, h1, h2, hK _ _ _ _ _ h3⟩
      · exact h.elim
  case anewarray x =>
    dsimp only [q_eff] at h ⊢
    cases hq : q_cr own x with
    | none => simp only [hq] at h
    | some ci =>
      simp only [hq] at h ⊢
      split at h
      · obtain ⟨t, N, h1, h2, h3⟩ := h; exact ⟨t, N, h1, h2, hK _ _ _ _ _ h3⟩
      · exact h.elim
  case multianewarray x y =>
    dsimp only [q_eff] at h ⊢
    cases hb : (Nat.beq own 7 && Nat.beq x 28 && Nat.beq y 2) with
    | false => rw [hb] at h; exact h.elim
    | true =>
      rw [hb] at h
      simp only at h ⊢
      split at h
      · obtain ⟨N, M, h1, h2, h3, h4⟩ := h; exact ⟨N, M, h1, h2, h3, hK _ _ _ _ _ h4⟩
      · exact h.elim
  case invokevirtual x =>
    dsimp only [q_eff] at h ⊢
    split at h
    · rename_i mi na hq
      try rw [hq]
      try simp only at h ⊢
      split at h
      · rename_i as rest hs
        try rw [hs]
        try simp only at h ⊢
        split at h
        · exact ⟨h.1, q_do_ls hc hK h.2⟩
        · exact h.elim
      · exact h.elim
    · exact h.elim
  case invokespecial x =>
    dsimp only [q_eff] at h ⊢
    split at h
    · rename_i mi na hq
      try rw [hq]
      try simp only at h ⊢
      split at h
      · rename_i as rest hs
        try rw [hs]
        try simp only at h ⊢
        split at h
        · exact q_do_ls hc hK h
        · exact h.elim
      · exact h.elim
    · rename_i mi na hq
      try rw [hq]
      try simp only at h ⊢
      split at h
      · split at h
        · rename_i hb
          try rw [hb]
          exact hK _ _ _ _ _ h
        · exact h.elim
      · exact h.elim
    · exact h.elim
  case invokestatic x =>
    dsimp only [q_eff] at h ⊢
    split at h
    · rename_i mi na hq
      try rw [hq]
      try simp only at h ⊢
      split at h
      · rename_i as rest hs
        try rw [hs]
        try simp only at h ⊢
        exact q_do_ls hc hK h
      · exact h.elim
    · rename_i mi na hq
      try rw [hq]
      try simp only at h ⊢
      split at h
      · split at h
        · rename_i hb
          try rw [hb]
          try simp only
          rcases h with ⟨n0, n1, h1, h2, h3, h4⟩ | ⟨n0, n1, h1, h2, h3, h4⟩
          · exact Or.inl ⟨n0, n1, h1, h2, h3, hK _ _ _ _ _ h4⟩
          · exact Or.inr ⟨n0, n1, h1, h2, h3, hK _ _ _ _ _ h4⟩
        · exact h.elim
      · exact h.elim
    · rename_i mi na hq
      try rw [hq]
      try simp only at h ⊢
      split at h
      · split at h
        · rename_i hb
          try rw [hb]
          exact hK _ _ _ _ _ h
        · exact h.elim
      · exact h.elim
    · exact h.elim
  case ireturn =>
    dsimp only [q_eff] at h ⊢; split at h
    · split at h
      · exact hQ _ _ h
      · exact ⟨h.1, hQ _ _ h.2⟩
      · exact h.elim
    · exact h.elim
  case lreturn =>
    dsimp only [q_eff] at h ⊢; split at h
    · split at h
      · exact hQ _ _ h
      · exact h.elim
    · exact h.elim
  case areturn =>
    dsimp only [q_eff] at h ⊢; split at h
    · split at h
      · exact hQ _ _ h
      · exact h.elim
    · exact h.elim
  case return_ =>
    dsimp only [q_eff] at h ⊢; split at h
    · split at h
      · exact hQ _ _ h
      · exact h.elim
    · exact h.elim
  all_goals exact h
end QForget
def q_le (l l' : List (Option Value)) : Prop := l.length = l'.length ∧ ∀ i v, q_get l i = some v → q_get l' i = some v
theorem q_le_cons {x y : Option Value} {t t' : List (Option Value)} (h : ∀ v, x = some v → y = some v) (ht : q_le t t') : q_le (x :: t) (y :: t') :=
  ⟨by simp [ht.1], fun i v hv => by
    cases i with
    | zero => exact h v hv
    | succ i => exact ht.2 i v hv⟩
theorem q_le_rf (l : List (Option Value)) : q_le l l := ⟨rfl, fun _ _ h => h⟩
theorem q_le_inv {x y : Option Value} {t t' : List (Option Value)} (h : q_le (x :: t) (y :: t')) : (∀ v, x = some v → y = some v) ∧ q_le t t' :=
  ⟨fun v hv => h.2 0 v hv, by have := h.1; simpa using this, fun i v hv => h.2 (i + 1) v hv⟩
theorem q_clr_le {x y : Option Value} (h : ∀ v, x = some v → y = some v) : ∀ v, q_clr x = some v → q_clr y = some v := by
  intro v hv
  obtain ⟨h1, h2⟩ := q_clr_some hv
  rw [h v h1]
  cases v <;> first | rfl | exact absurd rfl h2
theorem q_s1_le : ∀ (l l' : List (Option Value)) (i : Nat) (v : Value) (m : List (Option Value)), q_le l l' → q_s1 l i v = some m → ∃ m', q_s1 l' i v = some m' ∧ q_le m m'
  | [], _, i, v, m, _, h => by cases i <;> cases h
  | x :: t, [], _, _, _, hl, _ => absurd hl.1 (by simp)
  | x :: t, y :: t', 0, v, m, hl, h => by
    have e : some v :: t = m := Option.some.inj h
    subst e
    exact ⟨_, rfl, q_le_cons (fun _ h => h) (q_le_inv hl).2⟩
  | x :: [], y :: t', 1, v, m, hl, h => by cases h
  | x :: a :: t, y :: [], 1, v, m, hl, h => absurd hl.1 (by simp)
  | x :: a :: t, y :: b :: t', 1, v, m, hl, h => by
    have e : q_clr x :: some v :: t = m := Option.some.inj h
    subst e
    exact ⟨_, rfl, q_le_cons (q_clr_le (q_le_inv hl).1) (q_le_cons (fun _ h => h) (q_le_inv (q_le_inv hl).2).2)⟩
  | x :: t, y :: t', n + 2, v, m, hl, h => by
    have h : (match q_s1 t (n + 1) v with | some t' => some (x :: t') | none => none) = some m := h
    cases hq : q_s1 t (n + 1) v with
    | none => rw [hq] at h; cases h
    | some u =>
      rw [hq] at h
      have e : x :: u = m := Option.some.inj h
      subst e
      obtain ⟨u', h1, h2⟩ := q_s1_le t t' (n + 1) v u (q_le_inv hl).2 hq
      refine ⟨y :: u', ?_, q_le_cons (q_le_inv hl).1 h2⟩
      show (match q_s1 t' (n + 1) v with | some t' => some (y :: t') | none => none) = _
      rw [h1]
theorem q_set_le : ∀ (l l' : List (Option Value)) (k : Nat), q_le l l' → q_le (l.set k none) (l'.set k none)
  | [], [], _, h => h
  | [], _ :: _, _, h => absurd h.1 (by simp)
  | _ :: _, [], _, h => absurd h.1 (by simp)
  | x :: t, y :: t', 0, h => q_le_cons (fun _ h => h) (q_le_inv h).2
  | x :: t, y :: t', k + 1, h => q_le_cons (q_le_inv h).1 (q_set_le t t' k (q_le_inv h).2)
theorem q_s2_le {l l' : List (Option Value)} {i : Nat} {v : Value} {m : List (Option Value)} (hl : q_le l l') (h : q_s2 l i v = some m) : ∃ m', q_s2 l' i v = some m' ∧ q_le m m' := by
  unfold q_s2 at h
  cases h1 : q_s1 l i v with
  | none => rw [h1] at h; cases h
  | some l1 =>
    rw [h1] at h
    simp only at h
    obtain ⟨l2, k1, k2⟩ := q_s1_le l l' i v l1 hl h1
    cases hb : Nat.blt (i + 1) l1.length with
    | false => rw [hb] at h; cases h
    | true =>
      rw [hb] at h
      have e : l1.set (i + 1) none = m := Option.some.inj h
      subst e
      refine ⟨l2.set (i + 1) none, ?_, q_set_le _ _ _ k2⟩
      unfold q_s2
      rw [k1]
      simp only
      rw [← k2.1, hb]
set_option maxHeartbeats 2000000 in
theorem q_pure_le {own pc : Nat} {i : Instr} {l l' : List (Option Value)} {st : List Value} {r : Nat × List (Option Value) × List Value} (hl : q_le l l') (h : q_pure own pc i l st = some r) : ∃ m', q_pure own pc i l' st = some (r.1, m', r.2.2) ∧ q_le r.2.1 m' := by
  cases i
  case iload_n k => dsimp only [q_pure] at h ⊢; split at h; (rename_i x hq; cases h; rw [hl.2 _ _ hq]; exact ⟨_, rfl, hl⟩); cases h
  case iload k => dsimp only [q_pure] at h ⊢; split at h; (rename_i x hq; cases h; rw [hl.2 _ _ hq]; exact ⟨_, rfl, hl⟩); cases h
  case lload_n k => dsimp only [q_pure] at h ⊢; split at h; (rename_i x hq; cases h; rw [hl.2 _ _ hq]; exact ⟨_, rfl, hl⟩); cases h
  case lload k => dsimp only [q_pure] at h ⊢; split at h; (rename_i x hq; cases h; rw [hl.2 _ _ hq]; exact ⟨_, rfl, hl⟩); cases h
  case aload_n k => dsimp only [q_pure] at h ⊢; split at h; (rename_i x hq; cases h; rw [hl.2 _ _ hq]; exact ⟨_, rfl, hl⟩); cases h
  case aload k => dsimp only [q_pure] at h ⊢; split at h; (rename_i x hq; cases h; rw [hl.2 _ _ hq]; exact ⟨_, rfl, hl⟩); cases h
  case istore_n k =>
    dsimp only [q_pure] at h ⊢
    split at h
    · rename_i x r0
      cases hq : q_s1 l k.val (.int x) with
      | none => simp only [hq] at h; cases h
      | some u =>
        simp only [hq] at h
        cases h
        obtain ⟨u', k1, k2⟩ := q_s1_le _ _ _ _ _ hl hq
        simp only [k1]
        exact ⟨u', rfl, k2⟩
    · cases h
  case istore k =>
    dsimp only [q_pure] at h ⊢
    split at h
    · rename_i x r0
      cases hq : q_s1 l k (.int x) with
      | none => simp only [hq] at h; cases h
      | some u =>
        simp only [hq] at h
        cases h
        obtain ⟨u', k1, k2⟩ := q_s1_le _ _ _ _ _ hl hq
        simp only [k1]
        exact ⟨u', rfl, k2⟩
    · cases h
  case astore_n k =>
    dsimp only [q_pure] at h ⊢
    split at h
    · rename_i x r0
      cases hq : q_s1 l k.val (.ref x) with
      | none => simp only [hq] at h; cases h
      | some u =>
        simp only [hq] at h
        cases h
        obtain ⟨u', k1, k2⟩ := q_s1_le _ _ _ _ _ hl hq
        simp only [k1]
        exact ⟨u', rfl, k2⟩
    · cases h
  case astore k =>
    dsimp only [q_pure] at h ⊢
    split at h
    · rename_i x r0
      cases hq : q_s1 l k (.ref x) with
      | none => simp only [hq] at h; cases h
      | some u =>
        simp only [hq] at h
        cases h
        obtain ⟨u', k1, k2⟩ := q_s1_le _ _ _ _ _ hl hq
        simp only [k1]
        exact ⟨u', rfl, k2⟩
    · cases h
  case lstore_n k =>
    dsimp only [q_pure] at h ⊢
    split at h
    · rename_i x r0
      cases hq : q_s2 l k.val (.long x) with
      | none => simp only [hq] at h; cases h
      | some u =>
        simp only [hq] at h
        cases h
        obtain ⟨u', k1, k2⟩ := q_s2_le hl hq
        simp only [k1]
        exact ⟨u', rfl, k2⟩
    · cases h
  case lstore k =>
    dsimp only [q_pure] at h ⊢
    split at h
    · rename_i x r0
      cases hq : q_s2 l k (.long x) with
      | none => simp only [hq] at h; cases h
      | some u =>
        simp only [hq] at h
        cases h
        obtain ⟨u', k1, k2⟩ := q_s2_le hl hq
        simp only [k1]
        exact ⟨u', rfl, k2⟩
    · cases h
  case iinc k n =>
    dsimp only [q_pure] at h ⊢
    split at h
    · rename_i x hg
      rw [hl.2 _ _ hg]
      simp only
      cases hq : q_s1 l k (.int (x + q_c n)) with
      | none => simp only [hq] at h; cases h
      | some u =>
        simp only [hq] at h
        cases h
        obtain ⟨u', k1, k2⟩ := q_s1_le _ _ _ _ _ hl hq
        simp only [k1]
        exact ⟨u', rfl, k2⟩
    · cases h
  case ldc x => dsimp only [q_pure] at h ⊢; split at h; (cases h; exact ⟨_, rfl, hl⟩); cases h
  case ldc_w x => dsimp only [q_pure] at h ⊢; split at h; (cases h; exact ⟨_, rfl, hl⟩); cases h
  case ldc2_w x => dsimp only [q_pure] at h ⊢; split at h; (cases h; exact ⟨_, rfl, hl⟩); cases h
  case getstatic x => dsimp only [q_pure] at h ⊢; split at h; (cases h; exact ⟨_, rfl, hl⟩); cases h
  case dup => dsimp only [q_pure] at h ⊢; split at h; (split at h; (cases h; exact ⟨_, rfl, hl⟩); cases h); cases h
  case dup2 => dsimp only [q_pure] at h ⊢; split at h; (split at h; (split at h; (cases h; exact ⟨_, rfl, hl⟩); cases h); cases h); cases h
  case iconst n => cases h; exact ⟨_, rfl, hl⟩
  case bipush n => cases h; exact ⟨_, rfl, hl⟩
  case sipush n => cases h; exact ⟨_, rfl, hl⟩
  case lconst n => cases h; exact ⟨_, rfl, hl⟩
  case goto n => cases h; exact ⟨_, rfl, hl⟩
  all_goals first | (cases h; done) | (dsimp only [q_pure] at h ⊢; split at h; (cases h; exact ⟨_, rfl, hl⟩); cases h)
/-- no instruction is of both kinds -/
theorem q_pure_eff {L own rt pc : Nat} {ini : Bool} {cap : Nat × Nat} {call : q_C} {Q : q_Q} {K : q_K} {i : Instr} {l l' : List (Option Value)} {st : List Value} {μ : q_M} {uc us : Nat} {r : Nat × List (Option Value) × List Value} (h : q_pure own pc i l' st = some r) (he : q_eff L own rt ini cap call Q K pc i l st μ uc us) : False := by
  cases i
  all_goals first | exact he | (cases h; done) | exact he.elim
theorem q_WP_le {L own rt : Nat} {ini : Bool} {cap : Nat × Nat} {code : Nat → Option Instr} {call : q_C} {Q : q_Q} (hc : q_mono call) {pc : Nat} {l l' : List (Option Value)} {st : List Value} {μ : q_M} {uc us : Nat} (hl : q_le l l') (h : q_WP L own rt ini cap code call Q pc l st μ uc us) : q_WP L own rt ini cap code call Q pc l' st μ uc us := by
  refine h (fun pc l st μ uc us => ∀ l', q_le l l' → q_WP L own rt ini cap code call Q pc l' st μ uc us) (fun pc l st μ uc us hs l' hl => ?_) l' hl
  refine q_WP_step hc ?_
  unfold q_stp at hs ⊢
  cases hi : code pc with
  | none => rw [hi] at hs; exact hs.elim
  | some i =>
    rw [hi] at hs
    simp only at hs ⊢
    cases hp : q_pure own pc i l st with
    | some r =>
      rw [hp] at hs
      obtain ⟨m', k1, k2⟩ := q_pure_le hl hp
      rw [k1]
      exact hs m' k2
    | none =>
      rw [hp] at hs
      simp only at hs
      cases hp2 : q_pure own pc i l' st with
      | some r => exact (q_pure_eff hp2 hs).elim
      | none => exact q_eff_ls hc (fun _ _ z => z) (fun pc st μ uc us hk => hk l' hl) hs
/-- the local at place k is forgotten -/
theorem q_fg {L d mi : Nat} {x : q_MI} {Q : q_Q} {pc : Nat} {ls : List (Option Value)} {st : List Value} {μ : q_M} {uc us : Nat} (k : Nat) (h : q_W L d mi x Q pc (ls.set k none) st μ uc us) : q_W L d mi x Q pc ls st μ uc us :=
  q_WP_le (q_Ex_mono L d) ⟨by simp, fun i v hv => (q_get_set ls k i v hv).2⟩ h
