/-! the law's loop: what it needs of the relation -/
def q_m131 : q_MI := (⟨"RatchetPostLaw", "law", "([I)Z"⟩, code, 4, none, 9, 2, false, q_x131)
theorem q_ms_tr {A B C : q_I} (h : q_ms A B) (g : q_ms B C) : q_ms A C := ⟨fun a h1 h2 => (h.1 a h1 h2).trans (g.1 a h1 h2), h.2.trans g.2⟩
theorem q_mN_tr {A B C : q_L} (h : q_mN A B) (g : q_mN B C) : q_mN A C := ⟨h.1.trans g.1, h.2.trans g.2⟩
theorem q_mN_rf (A : q_L) : q_mN A A := ⟨rfl, rfl⟩
theorem q_nmf_ms {A B : q_I} (h : q_nmf A B) : q_ms A B := ⟨fun a h1 h2 => h a (by omega), by rw [h 192 (by omega)]⟩
theorem q_J_mN {A B : q_L} (h : A 208 = B 208 ∧ A 192 = B 192) : q_mN A B := ⟨h.1, by rw [h.2]⟩
theorem L_close {n : Nat} {I1 I3 : q_I} {J1 J3 : q_L} {R : q_R} {M : q_I} {N : q_L} (c : CR n I1 J1 R M N) (hM : q_ms I3 M) (hN : q_mN J3 N) (mf : q_mf I3 I1) (hJ : ∀ x, x < 192 → J3 x = J1 x) : CR n I3 J3 R I3 J3 := CR_mf (CR_c c hM hN) mf hJ
theorem f_alter_J {e w : Int32} {z : Int64} {M : q_I} {N : q_L} {x : Nat} (h : x ≠ 208) : (f_alter e w z M N).2 x = N x := by
  unfold f_alter
  split
  · rfl
  split
  · rfl
  split
  · exact q_un h
  · rfl
theorem f_copy_J {e : Int32} {M : q_I} {N : q_L} {x : Nat} (h : x ≠ 208) : (f_copy e M N).2.2 x = N x := by
  unfold f_copy
  split
  · rfl
  split
  · rfl
  · exact va_up_ne _ _ h
theorem f_send_J {u v : Int32} {z : Int64} {M : q_I} {N : q_L} {x : Nat} (h : x ≠ 208) : (f_send u v z M N).2.2 x = N x := by
  unfold f_send
  split
  · rfl
  split
  · rfl
  split
  · rfl
  · exact va_up_ne _ _ h
theorem f_fur_J {G : Nat → Nat → Int32} {M : q_I} {N : q_L} {e a b p x : Nat} (h : x ≠ 192) : ∀ (j k : Nat) (ans : Int32), (f_fur G M N e a b p j k ans).2.2 x = N x
  | 0, _, _ => rfl
  | j + 1, k, ans => by
    by_cases hz : (f_try M N e a b (f_row M p k (G k))).1 = nI 0
    · rw [f_fur_ok hz]; exact q_un h
    · rw [f_fur_no hz]; exact f_fur_J h j (k + 1) _
theorem f_open_J {G : Nat → Nat → Int32} {v : Int32} {M : q_I} {N : q_L} {x : Nat} (h : x ≠ 192) : (f_open G v M N).2.2 x = N x := by
  unfold f_open
  split
  · rfl
  split
  · unfold f_op
    split
    · exact f_fur_J h _ _ _
    split
    · unfold f_at
      split
      · exact q_un h
      · rfl
    · unfold f_begun
      split
      · rfl
      · unfold f_beg2
        split
        · exact q_un h
        · rfl
  · rfl
theorem CR_p1 {n : Nat} {I I1 : q_I} {J : q_L} {R : q_R} (h : CR n I J R I J) (hq : q_nmf I1 I) : ∀ j, j < 4 → ∃ f c : Nat, f ≤ 6 ∧ c ≤ 10 ∧ I1 204 j = nI f ∧ I1 201 j = nI c := by
  intro j hj
  obtain ⟨c, -, hc, hM, -⟩ := (h.ac j hj).once
  obtain ⟨f, hf, hM4, -⟩ := (h.ac j hj).off
  exact ⟨f, c, hf, hc, by rw [hq 204 (by omega)]; exact hM4, by rw [hq 201 (by omega)]; exact hM⟩
theorem CR_p2 {n : Nat} {I I1 : q_I} {J : q_L} {R : q_R} (h : CR n I J R I J) (hq : q_nmf I1 I) : ∀ p, p < 16 → ∃ m : Nat, m ≤ 3 ∧ I1 206 p = nI m := by
  intro p hp
  obtain ⟨ss, mc, tr, hL⟩ := h.li
  exact ⟨mc p, (hL.m3 p hp).1, by rw [hq 206 (by omega)]; exact (hL.m3 p hp).2.1⟩
theorem CR_p3 {n : Nat} {I I1 : q_I} {J : q_L} {R : q_R} (h : CR n I J R I J) (hq : q_nmf I1 I) : ∀ p, p < 16 → ∀ m, I1 206 p = nI m → m ≤ 3 → ∀ k, k < m → q_RI (f_blk I1 p k) := by
  intro p hp m hm hm3 k hk
  obtain ⟨ss, mc, tr, hL⟩ := h.li
  rw [hq 206 (by omega), (hL.m3 p hp).2.1] at hm
  have e : mc p = m := (nI_eq (by have := (hL.m3 p hp).1; omega) (by omega)).mp hm
  have eb : f_blk I1 p k = f_blk I p k := by unfold f_blk; rw [hq 205 (by omega)]
  rw [eb]
  exact (hL.re p k hp (by omega)).2.2
/-- the start: all rows are zero on both sides -/
theorem CR_0 {I : q_I} {J : q_L} {R : q_R} {I0 : q_I} {J0 : q_L} {R0 : q_R} (b : q_b 192 I0 J0 R0) (hz0 : ∀ j, j < 8 → I 0 j = 0) (hz1 : I 1 0 = nI 1634760805 ∧ I 1 1 = nI 857760878 ∧ I 1 2 = nI 2036477234 ∧ I 1 3 = nI 1797285236) (hI : ∀ x, x < 192 → I x = I0 x ∧ J x = J0 x) (hR : ∀ x, x < 192 → R x = R0 x) (hm : ∀ k, k < 16 → R 192 k = some (193 + k)) (hm2 : ∀ k, 18 ≤ k → k < 23 → R 192 k = some (191 + k)) (hz : ∀ x, 193 ≤ x → x < 214 → ∀ j, I x j = 0) (hz2 : ∀ j, I 192 j = 0) (hJ : ∀ j, J 208 j = 0) (hJ2 : ∀ j, J 192 j = 0) : CR 214 I J R I J := by
  have rr : ∀ x k b, x < 192 → R0 x k = some b → R x k = some b := fun x k b hx h => by rw [hR x hx]; exact h
  refine ⟨⟨Nat.le_refl _, ?_, hz0, hz1⟩, ⟨0, rfl⟩, fun u hu => ?_, ⟨fun _ _ => 0, fun _ => 0, 71, ?_, ?_, fun p hp => ?_, fun p k _ hk => absurd hk (Nat.not_lt_zero _), fun p k _ hk => absurd hk (Nat.not_lt_zero _), fun p k _ _ _ hk => absurd hk (Nat.not_lt_zero _)⟩, ⟨0, by decide, ?_, ?_, fun e k he => absurd he (Nat.not_lt_zero _), fun e k _ he hk => ?_, ?_⟩⟩
  · refine q_fx_of ⟨rr _ _ _ (by decide) b.r30, rr _ _ _ (by decide) b.r31, rr _ _ _ (by decide) b.r32, rr _ _ _ (by decide) b.r33, rr _ _ _ (by decide) b.r37, rr _ _ _ (by decide) b.r38, rr _ _ _ (by decide) b.r39⟩ ⟨rr _ _ _ (by decide) b.r40, rr _ _ _ (by decide) b.r41, rr _ _ _ (by decide) b.r42⟩ (fun k hk => rr _ _ _ (by decide) (b.ac k hk (by omega)).1) (fun k hk => rr _ _ _ (by decide) (b.li k hk (by omega)).1) (fun k hk => rr _ _ _ (by decide) (b.r10 k hk)) (fun u hu => ?_) (fun p hp => rr _ _ _ (by omega) (b.li p hp (by omega)).2.1) hm hm2
    have q := (b.ac u hu (by omega)).2
    exact ⟨rr _ _ _ (by omega) q.r2, rr _ _ _ (by omega) q.r3, rr _ _ _ (by omega) q.r4, rr _ _ _ (by omega) q.r6, rr _ _ _ (by omega) q.r8, rr _ _ _ (by omega) q.r9, rr _ _ _ (by omega) q.r10, rr _ _ _ (by omega) q.re⟩
  · have q := (b.ac u hu (by omega)).2
    have z : ∀ x, 84 + 19 * u ≤ x → x < 84 + 19 * u + 19 → x ≠ 84 + 19 * u + 8 → x ≠ 84 + 19 * u + 4 → ∀ j, I x j = 0 := fun x h1 h2 h3 h4 j => by rw [(hI x (by omega)).1]; exact q.z x h1 h2 h3 h4 j
    have w : ∀ x, 193 ≤ x → x < 214 → ∀ j, I x j = 0 := hz
    refine ⟨?_, ?_, ?_, ?_, ?_, ?_, ?_, Or.inl ⟨?_, ?_⟩, Or.inl ?_, ⟨0, fun k => 84 + 19 * u + 9 + k, by decide, ?_, ?_, fun k hk => ⟨?_, by dsimp only; omega, by dsimp only; omega⟩, fun k l _ _ h => by dsimp only at h; omega, fun k hk => absurd hk (Nat.not_lt_zero _)⟩, ?_, ?_, ?_, ?_, ⟨0, by decide, ?_, ?_, fun k hk => absurd hk (Nat.not_lt_zero _)⟩, fun i hi => ?_⟩
    · rw [z _ (by omega) (by omega) (by omega) (by omega), w 193 (by decide) (by decide)]
    · rw [w 193 (by decide) (by decide)]; exact Or.inl rfl
    · rw [z _ (by omega) (by omega) (by omega) (by omega), w 196 (by decide) (by decide)]
    · rw [z _ (by omega) (by omega) (by omega) (by omega), w 197 (by decide) (by decide)]
    · rw [z _ (by omega) (by omega) (by omega) (by omega), w 197 (by decide) (by decide)]
    · rw [z _ (by omega) (by omega) (by omega) (by omega), w 198 (by decide) (by decide)]
    · rw [z _ (by omega) (by omega) (by omega) (by omega), w 198 (by decide) (by decide)]
    · rw [z _ (by omega) (by omega) (by omega) (by omega)]; rfl
    · exact w 199 (by decide) (by decide) _
    · exact w 193 (by decide) (by decide) _
    · exact w 201 (by decide) (by decide) _
    · rw [z _ (by omega) (by omega) (by omega) (by omega)]; rfl
    · exact rr _ _ _ (by omega) (q.rp k hk)
    · rw [z _ (by omega) (by omega) (by omega) (by omega), w 202 (by decide) (by decide)]
    · rw [z _ (by omega) (by omega) (by omega) (by omega), w 202 (by decide) (by decide)]
    · rw [z _ (by omega) (by omega) (by omega) (by omega), w 202 (by decide) (by decide)]
    · rw [z _ (by omega) (by omega) (by omega) (by omega), w 202 (by decide) (by decide)]
    · exact w 204 (by decide) (by decide) _
    · rw [z _ (by omega) (by omega) (by omega) (by omega)]; rfl
    · rw [(hI (84 + 19 * u + 8) (by omega)).1]
      unfold g_fl
      by_cases i2 : i = 2
      · subst i2; rw [if_neg (by decide), if_neg (by decide), if_pos rfl]; exact q.s2
      · rw [q.sz i i2, if_neg i2]
        by_cases i0 : i = 0
        · rw [if_pos i0, w 194 (by decide) (by decide)]
        · rw [if_neg i0]
          by_cases i1 : i = 1
          · rw [if_pos i1, w 195 (by decide) (by decide)]
          · rw [if_neg i1]
            by_cases i3 : i = 3
            · rw [if_pos i3]; rfl
            · rw [if_neg i3]; rfl
  · exact rr _ _ _ (by decide) b.r36
  · exact b.se.to (by decide) (hR 71 (by decide)) (hR 76 (by decide))
  · refine ⟨Nat.zero_le _, hz 206 (by decide) (by decide) _, ?_⟩
    rw [(hI (160 + 2 * p) (by omega)).1]; exact (b.li p hp (by omega)).2.2
  · exact hz2 _
  · rw [(hI 3 (by decide)).1]; exact b.i34
  · rw [(hI (11 + e) (by omega)).2]; exact b.jl e k he
  · rw [(hI 3 (by decide)).2, b.j35, hJ2]; rfl
