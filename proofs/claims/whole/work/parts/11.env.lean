/-! what the cells of the mind are on the machine: G = (addresses of the three read-only rows, where ours begin, classes, slots, array classes, length of the script, contents of the read-only rows) -/
abbrev q_G : Type := (Nat → Nat) × Nat × (Nat → ClassId) × (Nat → Nat → Nat) × (Nat → ClassId) × Nat × (Nat → Nat → Int32)
def q_ad (G : q_G) : Nat → Nat := G.1
def q_z (G : q_G) : Nat := G.2.1
def q_dC (G : q_G) : Nat → ClassId := G.2.2.1
def q_dI (G : q_G) : Nat → Nat → Nat := G.2.2.2.1
def q_dA (G : q_G) : Nat → ClassId := G.2.2.2.2.1
def q_ln (G : q_G) : Nat := G.2.2.2.2.2.1
def q_ro (G : q_G) : Nat → Nat → Int32 := G.2.2.2.2.2.2
def q_rho (G : q_G) (a : Nat) : Nat := if a < 3 then q_ad G a else q_z G + (a - 3)
def q_v (G : q_G) (v : Value) : Value := match v with
  | .ref a => .ref (q_rho G a)
  | v => v
def q_rl (G : q_G) (a : Nat) : Nat := match a with
  | 0 => 8
  | 1 => 4
  | _ => q_ln G
abbrev q_A (G : q_G) : Nat → Prop := fun q => q_z G ≤ q
def q_ety (t : Nat) : FieldType := match t with
  | 0 => .int
  | 1 => .long
  | 2 => .boolean
  | 7 => .array .long
  | t => .object (q_cn (q_el t))
def q_fv (G : q_G) (μ : q_M) (ci a k : Nat) : Value := match q_ft ci k with
  | 0 => .int (μ.2.1 a k)
  | 1 => .int (μ.2.1 a k)
  | 2 => .long (μ.2.2.1 a k)
  | _ => va_rf ((μ.2.2.2 a k).map (q_rho G))
def q_ev (G : q_G) (μ : q_M) (t a : Nat) (j : Nat) : Value := match t with
  | 0 => .int (μ.2.1 a j)
  | 1 => .long (μ.2.2.1 a j)
  | 2 => .int (μ.2.1 a j)
  | _ => va_rf ((μ.2.2.2 a j).map (q_rho G))
/-- the cell a, of the kind k, on the heap -/
def q_cell (G : q_G) (μ : q_M) (a : Nat) (k : Nat × Nat) (H : Heap) : Prop := match Nat.beq k.1 8 with
  | true => t_OB (q_rho G a) (q_dC G k.2) (q_nf k.2) (q_dI G k.2) H (q_fv G μ k.2 a)
  | false => H[q_rho G a]? = some (arrV (q_dA G k.1) k.2 (q_ev G μ k.1 a))
def q_H (G : q_G) (μ : q_M) (H : Heap) : Prop := 3 ≤ μ.1 ∧ H.size = q_z G + (μ.1 - 3) ∧ (∀ a, 3 ≤ a → a < μ.1 → q_cell G μ a (q_kd a) H) ∧ ∀ a, a < 3 → ∀ j, j < q_rl G a → μ.2.1 a j = q_ro G a j
def q_E (G : q_G) (s : State) : Prop :=
  (∀ ci, ci < 9 → u_Kn s (q_cn ci) (q_F ci) (q_nf ci) (q_dC G ci) (q_dI G ci)) ∧
  (∀ t, t < 8 → ArrOfT s (q_dA G t) (q_ety t) ∧ va_RA s (q_dA G t) (q_ety t)) ∧
  (∀ w ∈ q_nestF, va_Nw (.fieldLinkNest w.1 w.2.1 w.2.2.1 w.2.2.2.1 w.2.2.2.2.1 w.2.2.2.2.2) s) ∧
  (∀ w ∈ q_nestM, va_Nw (.methodLinkNest w.1 w.2.1 w.2.2.1 w.2.2.2) s) ∧
  (∀ a, a < 3 → va_T .int (q_ad G a) (q_rl G a) (fun j => .int (q_ro G a j)) (q_A G) s s.heap) ∧
  (∀ a, a < 2 → va_Z "RatchetPost" (q_sn a) "[I" (.ref (q_ad G a)) (q_A G) s s.heap) ∧
  (∀ t, 3 ≤ t → t < 7 → va_AO (q_cn (q_el t)) s) ∧
  (Cond.arrayOver (.array .long)).before #[] s = true ∧ q_z G ≤ s.heap.size
theorem q_E_moved {G : q_G} {u U : State} (hvm : u.vm.Alike U.vm) (hW : u.WarmedH U.vm) (hh : ∀ q, q < u.heap.size → ¬ q_A G q → U.heap[q]? = u.heap[q]?) (hz : u.heap.size ≤ U.heap.size) (h : q_E G u) : q_E G U := by
  obtain ⟨h1, h2, h3, h4, h5, h6, h7, h9, h8⟩ := h
  exact ⟨fun ci hc => u_Kn_moved hvm (h1 ci hc), fun t ht => ⟨arrOfT_moved hvm (h2 t ht).1, (h2 t ht).2.moved hvm⟩, fun w hw => va_Nw.warmF hW (h3 w hw), fun w hw => va_Nw.warmM hW (h4 w hw),
    fun a ha => ((h5 a ha).moved hvm).kept hh, fun a ha => ((h6 a ha).moved hvm).kept hh, fun t h3 h7' => (h7 t h3 h7').moved hvm, over_moved hvm h9, Nat.le_trans h8 hz⟩
/-- a state with the same tables and heap -/
theorem q_E_same {G : q_G} {U : State} {g : JFrame} {mk : MethodId} {a : Array Value} (h : q_E G U) : q_E G (U.calling g mk a) := by
  obtain ⟨h1, h2, h3, h4, h5, h6, h7, h9, h8⟩ := h
  have hvm : U.vm.Alike (U.calling g mk a).vm := Vm.Alike.refl U.vm
  exact ⟨fun ci hc => u_Kn_moved hvm (h1 ci hc), fun t ht => ⟨arrOfT_moved hvm (h2 t ht).1, (h2 t ht).2.moved hvm⟩, fun w hw => va_Nw.same rfl rfl (h3 w hw), fun w hw => va_Nw.same rfl rfl (h4 w hw),
    fun a ha => (h5 a ha).moved hvm, fun a ha => (h6 a ha).moved hvm, fun t h3 h7' => (h7 t h3 h7').moved hvm, over_moved hvm h9, h8⟩
theorem q_rho_lt {G : q_G} {a : Nat} (h : 3 ≤ a) : q_rho G a = q_z G + (a - 3) := if_neg (by omega)
theorem q_rho_A {G : q_G} {a : Nat} (h : 3 ≤ a) : q_A G (q_rho G a) := by rw [q_rho_lt h]; exact Nat.le_add_right _ _
theorem q_rho_ne {G : q_G} {a b : Nat} (ha : 3 ≤ a) (hb : 3 ≤ b) (h : a ≠ b) : q_rho G a ≠ q_rho G b := by rw [q_rho_lt ha, q_rho_lt hb]; omega
theorem q_cell_kept {G : q_G} {μ μ' : q_M} {a : Nat} {k : Nat × Nat} {H H' : Heap} (h : q_cell G μ a k H) (hh : H'[q_rho G a]? = H[q_rho G a]?) (hI : μ'.2.1 a = μ.2.1 a) (hL : μ'.2.2.1 a = μ.2.2.1 a) (hR : μ'.2.2.2 a = μ.2.2.2 a) : q_cell G μ' a k H' := by
  unfold q_cell at h ⊢
  cases hk : Nat.beq k.1 8 with
  | true =>
    rw [hk] at h
    refine (t_OB.kept h hh).to (fun j _ => ?_)
    simp only [q_fv, hI, hL, hR]
  | false =>
    rw [hk] at h
    show H'[q_rho G a]? = _
    rw [hh]
    have e : q_ev G μ' k.1 a = q_ev G μ k.1 a := by funext j; simp only [q_ev, hI, hL, hR]
    rw [e]
    exact h
/-- one cell is written -/
theorem q_H_put {G : q_G} {μ μ' : q_M} {a : Nat} {H H' : Heap} (h : q_H G μ H) (ha : 3 ≤ a) (hn : μ'.1 = μ.1) (hz : H'.size = H.size) (ho : ∀ q, q ≠ q_rho G a → H'[q]? = H[q]?) (hc : q_cell G μ' a (q_kd a) H')
    (hI : ∀ b, b ≠ a → μ'.2.1 b = μ.2.1 b) (hL : ∀ b, b ≠ a → μ'.2.2.1 b = μ.2.2.1 b) (hR : ∀ b, b ≠ a → μ'.2.2.2 b = μ.2.2.2 b) : q_H G μ' H' := by
  obtain ⟨h0, h1, h2, h3⟩ := h
  refine ⟨by rw [hn]; exact h0, by rw [hz, hn]; exact h1, fun b hb hbn => ?_, fun b hb j hj => ?_⟩
  · by_cases e : b = a
    · subst e; exact hc
    · exact q_cell_kept (h2 b hb (by rw [← hn]; exact hbn)) (ho _ (q_rho_ne hb ha e)) (hI b e) (hL b e) (hR b e)
  · rw [hI b (by omega)]; exact h3 b hb j hj
/-- one cell is made -/
theorem q_H_new {G : q_G} {μ μ' : q_M} {H H' : Heap} (h : q_H G μ H) (hn : μ'.1 = μ.1 + 1) (hz : H'.size = H.size + 1) (ho : ∀ q, q < H.size → H'[q]? = H[q]?) (hc : q_cell G μ' μ.1 (q_kd μ.1) H')
    (hI : ∀ b, b ≠ μ.1 → μ'.2.1 b = μ.2.1 b) (hL : ∀ b, b ≠ μ.1 → μ'.2.2.1 b = μ.2.2.1 b) (hR : ∀ b, b ≠ μ.1 → μ'.2.2.2 b = μ.2.2.2 b) : q_H G μ' H' := by
  obtain ⟨h0, h1, h2, h3⟩ := h
  refine ⟨by omega, by rw [hz, hn, h1]; omega, fun b hb hbn => ?_, fun b hb j hj => ?_⟩
  · by_cases e : b = μ.1
    · subst e; exact hc
    · exact q_cell_kept (h2 b hb (by omega)) (ho _ (by rw [q_rho_lt hb, h1]; omega)) (hI b e) (hL b e) (hR b e)
  · rw [hI b (by omega)]; exact h3 b hb j hj
theorem q_H_at {G : q_G} {μ : q_M} {H : Heap} (h : q_H G μ H) : H.size = q_rho G μ.1 := by rw [q_rho_lt h.1]; exact h.2.1
theorem q_H_arr {G : q_G} {μ : q_M} {H : Heap} {a t len : Nat} (h : q_H G μ H) (ha : q_ar μ.1 a t len) (ht : t < 8) : H[q_rho G a]? = some (arrV (q_dA G t) len (q_ev G μ t a)) := by
  have h2 := h.2.2.1 a (by have := ha.1; omega) ha.2.1
  rw [ha.2.2] at h2
  unfold q_cell at h2
  have e : Nat.beq t 8 = false := by
    cases hb : Nat.beq t 8 with
    | false => rfl
    | true => have := Nat.eq_of_beq_eq_true hb; omega
  rw [e] at h2
  exact h2
theorem q_ob_ge {n a ci : Nat} (h : q_ob n a ci) : 3 ≤ a := by
  rcases Nat.lt_or_ge a 3 with h1 | h1
  · have h2 := h.2
    have e : a = 0 ∨ a = 1 ∨ a = 2 := by omega
    rcases e with rfl | rfl | rfl <;> exact absurd (show (8 : Nat) = 9 from (congrArg Prod.fst h2).symm) (by decide)
  · exact h1
theorem q_H_obj {G : q_G} {μ : q_M} {H : Heap} {a ci : Nat} (h : q_H G μ H) (ha : q_ob μ.1 a ci) : t_OB (q_rho G a) (q_dC G ci) (q_nf ci) (q_dI G ci) H (q_fv G μ ci a) := by
  have h2 := h.2.2.1 a (q_ob_ge ha) ha.1
  rw [ha.2] at h2
  exact h2
/-! locals -/
def q_lr (G : q_G) (ls : Array Slot) (l : List (Option Value)) : Prop := ls.size = l.length ∧ lv_wf ls ∧ ∀ i v, q_get l i = some v → ls[i]? = some (.val (q_v G v))
def q_as0 (G : q_G) (l : List (Option Value)) : List (Nat × Value) := (List.range l.length).filterMap (fun i => (q_get l i).map (fun v => (i, q_v G v)))
theorem q_as_mem {G : q_G} {l : List (Option Value)} {q : Nat × Value} (h : q ∈ q_as0 G l) : ∃ v, q_get l q.1 = some v ∧ q.2 = q_v G v := by
  obtain ⟨i, -, hi⟩ := List.mem_filterMap.mp h
  cases hg : q_get l i with
  | none => rw [hg] at hi; cases hi
  | some v =>
    rw [hg] at hi
    have e : (i, q_v G v) = q := Option.some.inj hi
    subst e
    exact ⟨v, hg, rfl⟩
theorem q_get_lt : ∀ (l : List (Option Value)) (i : Nat) (v : Value), q_get l i = some v → i < l.length
  | [], _, _, h => by cases h
  | _ :: _, 0, _, _ => Nat.succ_pos _
  | _ :: t, i + 1, v, h => Nat.succ_lt_succ (q_get_lt t i v h)
theorem q_mem_as {G : q_G} {l : List (Option Value)} {i : Nat} {v : Value} (h : q_get l i = some v) : (i, q_v G v) ∈ q_as0 G l :=
  List.mem_filterMap.mpr ⟨i, List.mem_range.mpr (q_get_lt l i v h), by rw [h]; rfl⟩
theorem q_lr_has {G : q_G} {ls : Array Slot} {l : List (Option Value)} (h : q_lr G ls l) : lv_has ls l.length (q_as0 G l) :=
  ⟨h.1, h.2.1, fun q hq => by obtain ⟨v, h1, h2⟩ := q_as_mem hq; rw [h2]; exact h.2.2 _ _ h1⟩
theorem q_v_cat {G : q_G} (v : Value) : (q_v G v).category = v.category := by cases v <;> rfl
theorem q_clr_some {x : Option Value} {w : Value} (h : q_clr x = some w) : x = some w ∧ ¬ w.category = 2 := by
  cases x with
  | none => cases h
  | some z => cases z <;> first | (cases h; done) | (cases h; exact ⟨rfl, by decide⟩) | (cases h; exact ⟨rfl, fun z => by cases z⟩)
theorem q_s1_spec : ∀ (l : List (Option Value)) (i : Nat) (v : Value) (l' : List (Option Value)), q_s1 l i v = some l' → l'.length = l.length ∧ i < l.length ∧ ∀ j w, q_get l' j = some w → (j = i ∧ w = v) ∨ (j ≠ i ∧ q_get l j = some w ∧ ¬ (j + 1 = i ∧ w.category = 2))
  | [], i, v, l', h => by cases i <;> cases h
  | x :: t, 0, v, l', h => by
    have e : some v :: t = l' := Option.some.inj h
    subst e
    refine ⟨rfl, Nat.succ_pos _, fun j w hj => ?_⟩
    cases j with
    | zero => exact Or.inl ⟨rfl, (Option.some.inj hj).symm⟩
    | succ j => exact Or.inr ⟨by omega, hj, by omega⟩
  | x :: [], 1, v, l', h => by cases h
  | x :: y :: t, 1, v, l', h => by
    have e : q_clr x :: some v :: t = l' := Option.some.inj h
    subst e
    refine ⟨rfl, by simp, fun j w hj => ?_⟩
    match j, hj with
    | 0, hj =>
      obtain ⟨h1, h2⟩ := q_clr_some hj
      exact Or.inr ⟨by omega, h1, fun q => h2 q.2⟩
    | 1, hj => exact Or.inl ⟨rfl, (Option.some.inj hj).symm⟩
    | j + 2, hj => exact Or.inr ⟨by omega, hj, by omega⟩
  | x :: t, n + 2, v, l', h => by
    have h : (match q_s1 t (n + 1) v with | some t' => some (x :: t') | none => none) = some l' := h
    cases hq : q_s1 t (n + 1) v with
    | none => rw [hq] at h; cases h
    | some t' =>
      rw [hq] at h
      have e : x :: t' = l' := Option.some.inj h
      subst e
      obtain ⟨h1, h2, h3⟩ := q_s1_spec t (n + 1) v t' hq
      refine ⟨by simp [h1], by simp; omega, fun j w hj => ?_⟩
      cases j with
      | zero => exact Or.inr ⟨by omega, hj, by omega⟩
      | succ j =>
        rcases h3 j w hj with ⟨e1, e2⟩ | ⟨e1, e2, e3⟩
        · exact Or.inl ⟨by omega, e2⟩
        · exact Or.inr ⟨by omega, e2, fun q => e3 ⟨by omega, q.2⟩⟩
theorem q_get_set : ∀ (l : List (Option Value)) (k j : Nat) (w : Value), q_get (l.set k none) j = some w → j ≠ k ∧ q_get l j = some w
  | [], k, j, w, h => by cases h
  | x :: t, 0, j, w, h => by
    cases j with
    | zero => cases h
    | succ j => exact ⟨by omega, h⟩
  | x :: t, k + 1, j, w, h => by
    cases j with
    | zero => exact ⟨by omega, h⟩
    | succ j =>
      obtain ⟨h1, h2⟩ := q_get_set t k j w h
      exact ⟨by omega, h2⟩
theorem q_s2_spec {l : List (Option Value)} {i : Nat} {v : Value} {l' : List (Option Value)} (h : q_s2 l i v = some l') : l'.length = l.length ∧ i + 1 < l.length ∧ ∀ j w, q_get l' j = some w → (j = i ∧ w = v) ∨ (j ≠ i ∧ j ≠ i + 1 ∧ q_get l j = some w ∧ ¬ (j + 1 = i ∧ w.category = 2)) := by
  unfold q_s2 at h
  cases h1 : q_s1 l i v with
  | none => rw [h1] at h; cases h
  | some l1 =>
    rw [h1] at h
    simp only at h
    obtain ⟨g1, g2, g3⟩ := q_s1_spec l i v l1 h1
    cases hb : Nat.blt (i + 1) l1.length with
    | false => rw [hb] at h; cases h
    | true =>
      rw [hb] at h
      have e : l1.set (i + 1) none = l' := Option.some.inj h
      subst e
      have hlt : i + 1 < l1.length := Nat.le_of_ble_eq_true hb
      refine ⟨by simp [g1], by omega, fun j w hj => ?_⟩
      obtain ⟨k1, k2⟩ := q_get_set l1 (i + 1) j w hj
      rcases g3 j w k2 with ⟨e1, e2⟩ | ⟨e1, e2, e3⟩
      · exact Or.inl ⟨e1, e2⟩
      · exact Or.inr ⟨e1, k1, e2, e3⟩
theorem q_lr_s1 {G : q_G} {ls' : Array Slot} {l l' : List (Option Value)} {i : Nat} {v : Value} (h : q_s1 l i v = some l') (hh : lv_has ls' l.length ((i, q_v G v) :: (q_as0 G l).filter (fun q => !(q.1 == i) && !(q.1 + 1 == i && q.2.category == 2)))) : q_lr G ls' l' := by
  obtain ⟨h1, h2, h3⟩ := q_s1_spec l i v l' h
  refine ⟨by rw [h1]; exact hh.1, hh.2.1, fun j w hj => ?_⟩
  rcases h3 j w hj with ⟨rfl, rfl⟩ | ⟨e1, e2, e3⟩
  · exact hh.2.2 (j, q_v G w) List.mem_cons_self
  · refine hh.2.2 (j, q_v G w) (List.mem_cons_of_mem _ (List.mem_filter.mpr ⟨q_mem_as e2, ?_⟩))
    simp only [q_v_cat, Bool.and_eq_true, Bool.not_eq_true', beq_eq_false_iff_ne, ne_eq, Bool.and_eq_false_iff]
    refine ⟨e1, ?_⟩
    by_cases z : j + 1 = i
    · exact Or.inr (fun q => e3 ⟨z, q⟩)
    · exact Or.inl z
theorem q_lr_s2 {G : q_G} {ls' : Array Slot} {l l' : List (Option Value)} {i : Nat} {v : Value} (h : q_s2 l i v = some l') (hh : lv_has ls' l.length ((i, q_v G v) :: (q_as0 G l).filter (fun q => !(q.1 == i) && (!(q.1 == i + 1) && !(q.1 + 1 == i && q.2.category == 2))))) : q_lr G ls' l' := by
  obtain ⟨h1, h2, h3⟩ := q_s2_spec h
  refine ⟨by rw [h1]; exact hh.1, hh.2.1, fun j w hj => ?_⟩
  rcases h3 j w hj with ⟨rfl, rfl⟩ | ⟨e1, e0, e2, e3⟩
  · exact hh.2.2 (j, q_v G w) List.mem_cons_self
  · refine hh.2.2 (j, q_v G w) (List.mem_cons_of_mem _ (List.mem_filter.mpr ⟨q_mem_as e2, ?_⟩))
    simp only [q_v_cat, Bool.and_eq_true, Bool.not_eq_true', beq_eq_false_iff_ne, ne_eq, Bool.and_eq_false_iff]
    refine ⟨e1, e0, ?_⟩
    by_cases z : j + 1 = i
    · exact Or.inr (fun q => e3 ⟨z, q⟩)
    · exact Or.inl z
theorem q_apart {args : Array Value} {s : State} {G : q_G} {ci : Nat} (hts : ∀ w ∈ q_good, w.before args s = true) (E : q_E G s) (h : ci < 9) : ∀ a b, a < q_nf ci → b < q_nf ci → a ≠ b → q_dI G ci a ≠ q_dI G ci b := by
  intro x y hx hy hne
  obtain ⟨hS, -⟩ := E.1 ci h
  obtain ⟨_, _, _, fa, hia, ea⟩ := hS x hx
  obtain ⟨_, _, _, fb, hib, eb⟩ := hS y hy
  rw [← ea, ← eb]
  refine u_apart (u_lays hts (q_F_in h) hx) (u_lays hts (q_F_in h) hy) hia hib ?_
  rw [(State.fieldFound?_type hia (q_fty_ok h hx)).1, (State.fieldFound?_type hib (q_fty_ok h hy)).1]
  exact q_nm h hx hy hne
