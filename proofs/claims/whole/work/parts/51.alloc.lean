/-! steps that make things; switches -/
section QAlloc
variable {L d mi : Nat} {x : q_MI} {Q : q_Q} {pc : Nat} {ls : List (Option Value)} {st : List Value} {n : Nat} {I : q_I} {J : q_L} {R : q_R} {uc us : Nat} {idx ci n2 uc2 us2 N M t : Nat}
theorem q_nw (hc : q_xC x pc = some (.new idx)) (hf : q_cr (q_xO x) idx = some ci) (hk : q_kd n = (8, ci)) (hn : n + 1 = n2) (hu : uc + 1 = uc2) (hs : us + q_nf ci = us2) (hcap : Nat.ble uc2 ((q_al mi).getD (0, 0)).1 = true ∧ Nat.ble us2 ((q_al mi).getD (0, 0)).2 = true)
    (h : q_W L d mi x Q (pc + 3) ls (.ref n :: st) (n2, va_up I n (fun _ => 0), va_up J n (fun _ => 0), va_up R n (fun _ => none)) uc2 us2) : q_W L d mi x Q pc ls st (n, I, J, R) uc us := by
  subst hn hu hs
  refine q_one hc rfl ?_
  dsimp only [q_eff]
  rw [show q_cr x.2.2.2.2.1 idx = _ from hf]
  exact ⟨hk, ⟨Nat.le_of_ble_eq_true hcap.1, Nat.le_of_ble_eq_true hcap.2⟩, h⟩
theorem q_na {ty : ArrayType} {tg : Nat} (hc : q_xC x pc = some (.newarray ty)) (ht : q_tagOf ty = some tg) (hk : q_kd n = (tg, N)) (hN : Nat.ble N 10000 = true) (hn : n + 1 = n2) (hu : uc + 1 = uc2) (hs : us + N = us2) (hcap : Nat.ble uc2 ((q_al mi).getD (0, 0)).1 = true ∧ Nat.ble us2 ((q_al mi).getD (0, 0)).2 = true)
    (h : q_W L d mi x Q (pc + 2) ls (.ref n :: st) (n2, va_up I n (fun _ => 0), va_up J n (fun _ => 0), R) uc2 us2) : q_W L d mi x Q pc ls (.int (nI N) :: st) (n, I, J, R) uc us := by
  subst hn hu hs
  have g := Nat.le_of_ble_eq_true hN
  refine q_one hc rfl ?_
  dsimp only [q_eff]
  rw [ht]
  exact ⟨N, ⟨hk, nI_pos (by omega), nI_clamp (by omega), g⟩, ⟨Nat.le_of_ble_eq_true hcap.1, Nat.le_of_ble_eq_true hcap.2⟩, h⟩
theorem q_an (hc : q_xC x pc = some (.anewarray idx)) (hf : q_cr (q_xO x) idx = some ci) (hk : q_kd n = (t, N)) (ht : Nat.ble 3 t = true ∧ Nat.ble t 6 = true ∧ q_el t = ci ∧ Nat.ble N 10000 = true) (hn : n + 1 = n2) (hu : uc + 1 = uc2) (hs : us + N = us2) (hcap : Nat.ble uc2 ((q_al mi).getD (0, 0)).1 = true ∧ Nat.ble us2 ((q_al mi).getD (0, 0)).2 = true)
    (h : q_W L d mi x Q (pc + 3) ls (.ref n :: st) (n2, I, J, va_up R n (fun _ => none)) uc2 us2) : q_W L d mi x Q pc ls (.int (nI N) :: st) (n, I, J, R) uc us := by
  subst hn hu hs
  obtain ⟨h3, h6, he, hN⟩ := ht
  have g := Nat.le_of_ble_eq_true hN
  refine q_one hc rfl ?_
  dsimp only [q_eff]
  rw [show q_cr x.2.2.2.2.1 idx = _ from hf]
  exact ⟨t, N, ⟨hk, Nat.le_of_ble_eq_true h3, Nat.le_of_ble_eq_true h6, he, nI_pos (by omega), nI_clamp (by omega), g⟩, ⟨Nat.le_of_ble_eq_true hcap.1, Nat.le_of_ble_eq_true hcap.2⟩, h⟩
theorem q_mul (hc : q_xC x pc = some (.multianewarray 28 2)) (ho : q_xO x = 7) (hN : N ≤ 1000) (hM : M ≤ 1000) (hk : q_kd n = (7, N)) (hk2 : ∀ j, j < N → q_kd (n + 1 + j) = (1, M)) (hn : n + (N + 1) = n2) (hu : uc + (N + 1) = uc2) (hs : us + (N + N * M) = us2) (hcap : Nat.ble uc2 ((q_al mi).getD (0, 0)).1 = true ∧ Nat.ble us2 ((q_al mi).getD (0, 0)).2 = true)
    (h : q_W L d mi x Q (pc + 4) ls (.ref n :: st) (n2, I, (fun a => if n < a ∧ a < n + (N + 1) then (fun _ => 0) else J a), va_up R n (fun j => some (n + 1 + j))) uc2 us2) : q_W L d mi x Q pc ls (.int (nI M) :: .int (nI N) :: st) (n, I, J, R) uc us := by
  subst hn hu hs
  refine q_one hc rfl ?_
  dsimp only [q_eff]
  rw [show x.2.2.2.2.1 = 7 from ho, show (Nat.beq 7 7 && Nat.beq 28 28 && Nat.beq 2 2) = true from rfl]
  exact ⟨N, M, ⟨rfl, rfl, hN, hM⟩, ⟨hk, hk2⟩, ⟨Nat.le_of_ble_eq_true hcap.1, Nat.le_of_ble_eq_true hcap.2⟩, h⟩
end QAlloc
theorem q_swi {w : Int32} {k : Nat} {z : Int} (h : w.toInt = z) (hk : k < 2 ^ 31 ∧ z = (k : Int)) : w = nI k := Int32.toInt_inj.mp (by rw [h, hk.2, nI_toInt hk.1])
