/-! loops, rows -/
theorem q_loop {σ : Type} (N : Nat) (P : Nat → σ → Prop) (Wk : Nat → σ → Prop) (hx : ∀ s, P N s → Wk N s) (hs : ∀ k s, k < N → P k s → (∀ s', P (k + 1) s' → Wk (k + 1) s') → Wk k s) (k0 : Nat) (s0 : σ) (h0 : k0 ≤ N) (hp : P k0 s0) : Wk k0 s0 := by
  obtain ⟨j, hj⟩ : ∃ j, k0 + j = N := ⟨N - k0, by omega⟩
  clear h0
  induction j generalizing k0 s0 with
  | zero => obtain rfl : k0 = N := by omega
            exact hx s0 hp
  | succ j ih => exact hs k0 s0 (by omega) hp (fun s' hp' => ih (k0 + 1) s' hp' (by omega))
/-- downwards -/
theorem q_loopD {σ : Type} (P : Nat → σ → Prop) (Wk : Nat → σ → Prop) (hx : ∀ s, P 0 s → Wk 0 s) (hs : ∀ k s, P (k + 1) s → (∀ s', P k s' → Wk k s') → Wk (k + 1) s) (k0 : Nat) (s0 : σ) (hp : P k0 s0) : Wk k0 s0 := by
  induction k0 generalizing s0 with
  | zero => exact hx s0 hp
  | succ k ih => exact hs k s0 hp (fun s' hp' => ih s' hp')
theorem q_un {α : Type} {f : Nat → Nat → α} {a k b : Nat} {v : α} (h : b ≠ a) : q_up f a k v b = f b := va_up_ne _ _ h
theorem q_us {α : Type} {f : Nat → Nat → α} {a k : Nat} {v : α} : q_up f a k v a = va_up (f a) k v := va_up_self _ _ _
theorem q_usk {α : Type} {f : Nat → Nat → α} {a k : Nat} {v : α} : q_up f a k v a k = v := by rw [q_us, va_up_self]
theorem q_usn {α : Type} {f : Nat → Nat → α} {a k j : Nat} {v : α} (h : j ≠ k) : q_up f a k v a j = f a j := by rw [q_us, va_up_ne _ _ h]
/-- the references that stand once all is made -/
def q_fx (a k : Nat) : Option Nat :=
  bif Nat.beq a 3 then (bif Nat.beq k 0 then some 4 else bif Nat.beq k 1 then some 8 else bif Nat.beq k 2 then some 9 else bif Nat.beq k 3 then some 10 else bif Nat.beq k 7 then some 81 else bif Nat.beq k 8 then some 82 else bif Nat.beq k 9 then some 83 else none) else
  bif Nat.beq a 4 then (bif Nat.beq k 0 then some 5 else bif Nat.beq k 1 then some 6 else bif Nat.beq k 2 then some 7 else none) else
  bif Nat.beq a 8 then (bif Nat.blt k 4 then some (84 + 19 * k) else none) else
  bif Nat.beq a 9 then (bif Nat.blt k 16 then some (160 + 2 * k) else none) else
  bif Nat.beq a 10 then (bif Nat.blt k 60 then some (11 + k) else none) else
  bif Nat.blt a 84 then none else
  bif Nat.blt a 160 then (bif Nat.beq ((a - 84) % 19) 0 then (bif Nat.beq k 2 then some (a + 1) else bif Nat.beq k 3 then some (a + 2) else bif Nat.beq k 4 then some (a + 3) else bif Nat.beq k 6 then some (a + 4) else bif Nat.beq k 8 then some (a + 5) else bif Nat.beq k 9 then some (a + 7) else bif Nat.beq k 10 then some (a + 8) else none) else
    bif Nat.beq ((a - 84) % 19) 5 then (bif Nat.beq k 4 then some (a + 1) else none) else none) else
  bif Nat.blt a 192 then (bif Nat.beq (a % 2) 0 then (bif Nat.beq k 0 then some (a + 1) else none) else none) else
  bif Nat.beq a 192 then (bif Nat.blt k 16 then some (193 + k) else bif Nat.blt k 18 then none else bif Nat.blt k 23 then some (191 + k) else none) else none
def q_K0 (n : Nat) (I : q_I) (R : q_R) : Prop := 214 ≤ n ∧ (∀ a k b, q_fx a k = some b → R a k = some b) ∧ (∀ j, j < 8 → I 0 j = 0) ∧ (I 1 0 = nI 1634760805 ∧ I 1 1 = nI 857760878 ∧ I 1 2 = nI 2036477234 ∧ I 1 3 = nI 1797285236)
theorem q_K0_to {n : Nat} {I I' : q_I} {R : q_R} (h : q_K0 n I R) (h0 : I' 0 = I 0) (h1 : I' 1 = I 1) : q_K0 n I' R := by
  obtain ⟨a, b, c, d⟩ := h
  exact ⟨a, b, by rw [h0]; exact c, by rw [h1]; exact d⟩
/-! the mixing -/
def g_hd (i : Nat) : Int32 := match i with
  | 0 => nI 1634760805
  | 1 => nI 857760878
  | 2 => nI 2036477234
  | _ => nI 1797285236
def g_st (key : Nat → Int32) (a b c d : Int32) (i : Nat) : Int32 := if i < 4 then g_hd i else if i < 12 then key (i - 4) else if i = 12 then a else if i = 13 then b else if i = 14 then c else d
def g_rd (f : Nat → Int32) : Nat → Int32 := g_turn 3 4 9 14 (g_turn 2 7 8 13 (g_turn 1 6 11 12 (g_turn 0 5 10 15 (g_turn 3 7 11 15 (g_turn 2 6 10 14 (g_turn 1 5 9 13 (g_turn 0 4 8 12 f)))))))
def g_rds : Nat → (Nat → Int32) → Nat → Int32
  | 0, f => f
  | k + 1, f => g_rd (g_rds k f)
/-- word i of the mix -/
def g_mix (key : Nat → Int32) (a b c d : Int32) (i : Nat) : Int32 := g_rds 10 (g_st key a b c d) i + g_st key a b c d i
def g_e16 (f g : Nat → Int32) : Prop := ∀ i, i < 16 → f i = g i
theorem g_turn_c {f g : Nat → Int32} {p q r s : Nat} (h : g_e16 f g) (hp : p < 16) (hq : q < 16) (hr : r < 16) (hs : s < 16) : g_e16 (g_turn p q r s f) (g_turn p q r s g) := by
  intro i hi
  unfold g_turn
  rw [h p hp, h q hq, h r hr, h s hs]
  unfold va_up
  split
  · rfl
  · split
    · rfl
    · split
      · rfl
      · split
        · rfl
        · exact h i hi
theorem g_rd_c {f g : Nat → Int32} (h : g_e16 f g) : g_e16 (g_rd f) (g_rd g) := by
  unfold g_rd
  exact g_turn_c (g_turn_c (g_turn_c (g_turn_c (g_turn_c (g_turn_c (g_turn_c (g_turn_c h (by decide) (by decide) (by decide) (by decide)) (by decide) (by decide) (by decide) (by decide)) (by decide) (by decide) (by decide) (by decide)) (by decide) (by decide) (by decide) (by decide)) (by decide) (by decide) (by decide) (by decide)) (by decide) (by decide) (by decide) (by decide)) (by decide) (by decide) (by decide) (by decide)) (by decide) (by decide) (by decide) (by decide)
theorem g_rds_c {f g : Nat → Int32} (h : g_e16 f g) : ∀ k, g_e16 (g_rds k f) (g_rds k g)
  | 0 => h
  | k + 1 => g_rd_c (g_rds_c h k)
theorem g_st_c {f g : Nat → Int32} (h : ∀ i, i < 8 → f i = g i) (a b c d : Int32) : g_e16 (g_st f a b c d) (g_st g a b c d) := by
  intro i hi
  unfold g_st
  split
  · rfl
  · split
    · exact h _ (by omega)
    · rfl
/-- the mix reads eight words of its key -/
theorem g_mix_c {f g : Nat → Int32} (h : ∀ i, i < 8 → f i = g i) (a b c d : Int32) {i : Nat} (hi : i < 16) : g_mix f a b c d i = g_mix g a b c d i := by
  unfold g_mix
  rw [g_rds_c (g_st_c h a b c d) 10 i hi, g_st_c h a b c d i hi]
