section QMono
variable {L own rt : Nat} {ini : Bool} {cap : Nat × Nat} {code : Nat → Option Instr} {call call' : q_C} {Q Q' : q_Q} {K K' : q_K}
theorem q_sw_mono {P P' : Nat → Prop} (h : ∀ t, P t → P' t) {pc : Nat} {x : Int32} : ∀ (os : List Int) (lo : Int), q_sw P pc x lo os → q_sw P' pc x lo os
  | [], _, _ => trivial
  | _ :: os, lo, hs => ⟨fun e => h _ (hs.1 e), q_sw_mono h os (lo + 1) hs.2⟩
theorem q_do_mono (hc : ∀ mi as μ (Q Q' : q_Q), (∀ r μ, Q r μ → Q' r μ) → call mi as μ Q → call' mi as μ Q') (hK : ∀ pc ls st μ uc us, K pc ls st μ uc us → K' pc ls st μ uc us) {pc mi : Nat} {as rest : List Value} {ls : List (Option Value)} {μ : q_M} {uc us : Nat}
    (h : q_do own cap call K pc mi as rest ls μ uc us) : q_do own cap call' K' pc mi as rest ls μ uc us := by
  unfold q_do at h ⊢
  cases hb : Nat.ble (q_cat rest) 8 with
  | false => rw [hb] at h; exact h.elim
  | true =>
    rw [hb] at h
    cases ha : q_al mi with
    | none => rw [ha] at h; exact hc _ _ _ _ _ (fun r μ' hk => hK _ _ _ _ _ _ hk) h
    | some x => rw [ha] at h; exact ⟨h.1, hc _ _ _ _ _ (fun r μ' hk => hK _ _ _ _ _ _ hk) h.2⟩
set_option maxHeartbeats 2000000 in
theorem q_eff_mono (hc : ∀ mi as μ (Q Q' : q_Q), (∀ r μ, Q r μ → Q' r μ) → call mi as μ Q → call' mi as μ Q') (hQ : ∀ r μ, Q r μ → Q' r μ) (hK : ∀ pc ls st μ uc us, K pc ls st μ uc us → K' pc ls st μ uc us) {pc : Nat} {i : Instr} {ls : List (Option Value)} {st : List Value} {μ : q_M} {uc us : Nat}
    (h : q_eff L own rt ini cap call Q K pc i ls st μ uc us) : q_eff L own rt ini cap call' Q' K' pc i ls st μ uc us := by
  cases i
  case irem => dsimp only [q_eff] at h ⊢; split at h; exact ⟨h.1, hK _ _ _ _ _ _ h.2⟩; exact h.elim
  case lrem => dsimp only [q_eff] at h ⊢; split at h; exact ⟨h.1, hK _ _ _ _ _ _ h.2⟩; exact h.elim
  case ifCond c off =>
    dsimp only [q_eff] at h ⊢
    split at h
    · cases c <;> exact ⟨fun z => hK _ _ _ _ _ _ (h.1 z), fun z => hK _ _ _ _ _ _ (h.2 z)⟩
    · exact h.elim
  case if_icmp c off =>
    dsimp only [q_eff] at h ⊢
    split at h
    · cases c <;> exact ⟨fun z => hK _ _ _ _ _ _ (h.1 z), fun z => hK _ _ _ _ _ _ (h.2 z)⟩
    · exact h.elim
  case tableswitch d lo hi offs =>
    dsimp only [q_eff] at h ⊢
    split at h
    · exact ⟨fun z => hK _ _ _ _ _ _ (h.1 z), q_sw_mono (fun t => hK _ _ _ _ _ _) _ _ h.2⟩
    · exact h.elim
  case getfield x =>
    dsimp only [q_eff] at h ⊢
    cases hq : q_fr own x with
    | none => simp only [hq] at h
    | some f =>
      obtain ⟨ci, k, ty, fin⟩ := f
      simp only [hq] at h ⊢
      split at h
      · refine ⟨h.1, ?_⟩
        have h2 := h.2
        split at h2
        · exact hK _ _ _ _ _ _ h2
        · exact hK _ _ _ _ _ _ h2
        · exact hK _ _ _ _ _ _ h2
        · obtain ⟨b, e, h3⟩ := h2
          exact ⟨b, e, hK _ _ _ _ _ _ h3⟩
      · exact h.elim
  case putfield x =>
    dsimp only [q_eff] at h ⊢
    cases hq : q_fr own x with
    | none => simp only [hq] at h
    | some f =>
      obtain ⟨ci, k, ty, fin⟩ := f
      simp only [hq] at h ⊢
      cases hf : (!fin || (ini && Nat.beq own ci)) with
      | false => rw [hf] at h; exact h.elim
      | true =>
        rw [hf] at h
        simp only at h ⊢
        split at h
        · split at h
          · exact ⟨h.1, hK _ _ _ _ _ _ h.2⟩
          · exact h.elim
        · split at h
          · exact ⟨h.1, h.2.1, hK _ _ _ _ _ _ h.2.2⟩
          · exact h.elim
        · split at h
          · exact ⟨h.1, hK _ _ _ _ _ _ h.2⟩
          · exact h.elim
        · split at h
          · exact ⟨h.1, hK _ _ _ _ _ _ h.2⟩
          · exact h.elim
  case iaload =>
    dsimp only [q_eff] at h ⊢; split at h
    · obtain ⟨n, h1, h2, h3⟩ := h; exact ⟨n, h1, h2, hK _ _ _ _ _ _ h3⟩
    · exact h.elim
  case laload =>
    dsimp only [q_eff] at h ⊢; split at h
    · obtain ⟨n, h1, h2, h3⟩ := h; exact ⟨n, h1, h2, hK _ _ _ _ _ _ h3⟩
    · exact h.elim
  case baload =>
    dsimp only [q_eff] at h ⊢; split at h
    · obtain ⟨n, h1, h2, h3⟩ := h; exact ⟨n, h1, h2, hK _ _ _ _ _ _ h3⟩
    · exact h.elim
  case aaload =>
    dsimp only [q_eff] at h ⊢; split at h
    · obtain ⟨t, n, b, h1, h2, h3, h4⟩ := h; exact ⟨t, n, b, h1, h2, h3, hK _ _ _ _ _ _ h4⟩
    · exact h.elim
  case iastore =>
    dsimp only [q_eff] at h ⊢; split at h
    · obtain ⟨n, h1, h2, h3⟩ := h; exact ⟨n, h1, h2, hK _ _ _ _ _ _ h3⟩
    · exact h.elim
  case lastore =>
    dsimp only [q_eff] at h ⊢; split at h
    · obtain ⟨n, h1, h2, h3⟩ := h; exact ⟨n, h1, h2, hK _ _ _ _ _ _ h3⟩
    · exact h.elim
  case bastore =>
    dsimp only [q_eff] at h ⊢; split at h
    · obtain ⟨n, h1, h2, hz, h3⟩ := h; exact ⟨n, h1, h2, hz, hK _ _ _ _ _ _ h3⟩
    · exact h.elim
  case aastore =>
    dsimp only [q_eff] at h ⊢; split at h
    · obtain ⟨t, n, h1, h2, h3, h4⟩ := h; exact ⟨t, n, h1, h2, h3, hK _ _ _ _ _ _ h4⟩
    · exact h.elim
  case arraylength =>
    dsimp only [q_eff] at h ⊢; split at h
    · exact ⟨h.1, hK _ _ _ _ _ _ h.2⟩
    · exact h.elim
  case new x =>
    dsimp only [q_eff] at h ⊢
    cases hq : q_cr own x with
    | none => simp only [hq] at h
    | some ci => simp only [hq] at h ⊢; exact ⟨h.1, h.2.1, hK _ _ _ _ _ _ h.2.2⟩
  case newarray t =>
    dsimp only [q_eff] at h ⊢
    cases hq : q_tagOf t with
    | none => simp only [hq] at h
    | some tg =>
      simp only [hq] at h ⊢
      split at h
      · obtain ⟨N, h1, h2, h3⟩ := h; exact ⟨N, h1, h2, hK _ _ _ _ _ _ h3⟩
      · exact h.elim
  case anewarray x =>
    dsimp only [q_eff] at h ⊢
    cases hq : q_cr own x with
    | none => simp only [hq] at h
    | some ci =>
      simp only [hq] at h ⊢
      split at h
      · obtain ⟨t, N, h1, h2, h3⟩ := h; exact ⟨t, N, h1, h2, hK _ _ _ _ _ _ h3⟩
      · exact h.elim
  case multianewarray x y =>
    dsimp only [q_eff] at h ⊢
    cases hb : (Nat.beq own 7 && Nat.beq x 28 && Nat.beq y 2) with
    | false => rw [hb] at h; exact h.elim
    | true =>
      rw [hb] at h
      simp only at h ⊢
      split at h
      · obtain ⟨N, M, h1, h2, h3, h4⟩ := h; exact ⟨N, M, h1, h2, h3, hK _ _ _ _ _ _ h4⟩
      · exact h.elim
  case invokevirtual x =>
    dsimp only [q_eff] at h ⊢
    split at h
    · rename_i mi na hq
      try rw [hq]
      try simp only at h ⊢
      split at h
      · rename_i as rest hs
        try rw [hs]
        try simp only at h ⊢
        split at h
        · exact ⟨h.1, q_do_mono hc hK h.2⟩
        · exact h.elim
      · exact h.elim
    · exact h.elim
  case invokespecial x =>
    dsimp only [q_eff] at h ⊢
    split at h
    · rename_i mi na hq
      try rw [hq]
      try simp only at h ⊢
      split at h
      · rename_i as rest hs
        try rw [hs]
        try simp only at h ⊢
        split at h
        · exact q_do_mono hc hK h
        · exact h.elim
      · exact h.elim
    · rename_i mi na hq
      try rw [hq]
      try simp only at h ⊢
      split at h
      · split at h
        · rename_i hb
          try rw [hb]
          exact hK _ _ _ _ _ _ h
        · exact h.elim
      · exact h.elim
    · exact h.elim
  case invokestatic x =>
    dsimp only [q_eff] at h ⊢
    split at h
    · rename_i mi na hq
      try rw [hq]
      try simp only at h ⊢
      split at h
      · rename_i as rest hs
        try rw [hs]
        try simp only at h ⊢
        exact q_do_mono hc hK h
      · exact h.elim
    · rename_i mi na hq
      try rw [hq]
      try simp only at h ⊢
      split at h
      · split at h
        · rename_i hb
          try rw [hb]
          try simp only
          rcases h with ⟨n0, n1, h1, h2, h3, h4⟩ | ⟨n0, n1, h1, h2, h3, h4⟩
          · exact Or.inl ⟨n0, n1, h1, h2, h3, hK _ _ _ _ _ _ h4⟩
          · exact Or.inr ⟨n0, n1, h1, h2, h3, hK _ _ _ _ _ _ h4⟩
        · exact h.elim
      · exact h.elim
    · rename_i mi na hq
      try rw [hq]
      try simp only at h ⊢
      split at h
      · split at h
        · rename_i hb
          try rw [hb]
          exact hK _ _ _ _ _ _ h
        · exact h.elim
      · exact h.elim
    · exact h.elim
  case ireturn =>
    dsimp only [q_eff] at h ⊢; split at h
    · split at h
      · exact hQ _ _ h
      · exact ⟨h.1, hQ _ _ h.2⟩
      · exact h.elim
    · exact h.elim
  case lreturn =>
    dsimp only [q_eff] at h ⊢; split at h
    · split at h
      · exact hQ _ _ h
      · exact h.elim
    · exact h.elim
  case areturn =>
    dsimp only [q_eff] at h ⊢; split at h
    · split at h
      · exact hQ _ _ h
      · exact h.elim
    · exact h.elim
  case return_ =>
    dsimp only [q_eff] at h ⊢; split at h
    · split at h
      · exact hQ _ _ h
      · exact h.elim
    · exact h.elim
  all_goals exact h
theorem q_stp_mono (hc : ∀ mi as μ (Q Q' : q_Q), (∀ r μ, Q r μ → Q' r μ) → call mi as μ Q → call' mi as μ Q') (hQ : ∀ r μ, Q r μ → Q' r μ) (hK : ∀ pc ls st μ uc us, K pc ls st μ uc us → K' pc ls st μ uc us) {pc : Nat} {ls : List (Option Value)} {st : List Value} {μ : q_M} {uc us : Nat}
    (h : q_stp L own rt ini cap code call Q K pc ls st μ uc us) : q_stp L own rt ini cap code call' Q' K' pc ls st μ uc us := by
  unfold q_stp at h ⊢
  cases hi : code pc with
  | none => rw [hi] at h; exact h.elim
  | some i =>
    rw [hi] at h
    simp only at h ⊢
    cases hp : q_pure own pc i ls st with
    | none => rw [hp] at h; exact q_eff_mono hc hQ hK h
    | some x => rw [hp] at h; exact hK _ _ _ _ _ _ h
theorem q_WP_step (hc : q_mono call) {pc : Nat} {ls : List (Option Value)} {st : List Value} {μ : q_M} {uc us : Nat}
    (h : q_stp L own rt ini cap code call Q (q_WP L own rt ini cap code call Q) pc ls st μ uc us) : q_WP L own rt ini cap code call Q pc ls st μ uc us :=
  fun X hX => hX _ _ _ _ _ _ (q_stp_mono hc (fun _ _ z => z) (fun _ _ _ _ _ _ hw => hw X hX) h)
theorem q_WP_mono (hc : ∀ mi as μ (Q Q' : q_Q), (∀ r μ, Q r μ → Q' r μ) → call mi as μ Q → call' mi as μ Q') (hQ : ∀ r μ, Q r μ → Q' r μ) {pc : Nat} {ls : List (Option Value)} {st : List Value} {μ : q_M} {uc us : Nat}
    (h : q_WP L own rt ini cap code call Q pc ls st μ uc us) : q_WP L own rt ini cap code call' Q' pc ls st μ uc us :=
  fun X hX => h X (fun _ _ _ _ _ _ hs => hX _ _ _ _ _ _ (q_stp_mono hc hQ (fun _ _ _ _ _ _ z => z) hs))
/-- k steps at once -/
theorem q_blk (hc : q_mono call) (k : Nat) {pc : Nat} {ls : List (Option Value)} {st : List Value} {μ : q_M} {uc us : Nat}
    (h : q_it L own rt ini cap code call Q (q_WP L own rt ini cap code call Q) k pc ls st μ uc us) : q_WP L own rt ini cap code call Q pc ls st μ uc us := by
  induction k generalizing pc ls st μ uc us with
  | zero => exact h
  | succ n ih => exact q_WP_step hc (q_stp_mono hc (fun _ _ z => z) (fun _ _ _ _ _ _ hw => ih hw) h)
end QMono
def q_lay : List Value → List (Option Value)
  | [] => []
  | v :: t => (match v.category with | 2 => some v :: none :: q_lay t | _ => some v :: q_lay t)
def q_ent (as : List Value) (n : Nat) : List (Option Value) := q_lay as ++ List.replicate (n - (q_lay as).length) none
/-- the method mi, begun with the arguments as, comes to its end with Q; calls at most d deep -/
def q_Ex (L : Nat) : Nat → q_C
  | 0 => fun _ _ _ _ => False
  | d + 1 => fun mi as μ Q => ∃ x : q_MI, q_tab[mi]? = some x ∧ (q_lay as).length ≤ x.2.2.1 ∧ q_WP L x.2.2.2.2.1 x.2.2.2.2.2.1 x.2.2.2.2.2.2.1 ((q_al mi).getD (0, 0)) x.2.2.2.2.2.2.2 (q_Ex L d) Q 0 (q_ent as x.2.2.1) [] μ 0 0
theorem q_Ex_mono (L : Nat) : ∀ d, q_mono (q_Ex L d)
  | 0 => fun _ _ _ _ _ _ h => h
  | d + 1 => fun _ _ _ _ _ hQ ⟨x, h1, h2, h3⟩ => ⟨x, h1, h2, q_WP_mono (q_Ex_mono L d) hQ h3⟩
theorem q_Ex_up (L : Nat) : ∀ d mi as μ Q, q_Ex L d mi as μ Q → q_Ex L (d + 1) mi as μ Q
  | 0, _, _, _, _, h => h.elim
  | d + 1, _, _, _, _, ⟨x, h1, h2, h3⟩ => ⟨x, h1, h2, q_WP_mono (fun mi as μ _ _ hQ hz => q_Ex_up L d mi as μ _ (q_Ex_mono L d mi as μ _ _ hQ hz)) (fun _ _ z => z) h3⟩
