/-! the reference's functions: they read its rows alone; opening does not read what stood in the scratch row -/
theorem q_ms.mq {A B : q_I} (h : q_ms A B) : q_mq A B := h.1
theorem f_sign_192 {u : Nat} {M : q_I} : f_sign u M 192 = M 192 := f_sign_n (by decide) (by decide) (by decide)
theorem f_reg_n {u a : Nat} {z : Int64} {M : q_I} (h3 : a ≠ 193) (h4 : a ≠ 194) (h5 : a ≠ 195) (h6 : a ≠ 196) (h7 : a ≠ 197) (h8 : a ≠ 198) (h2 : a ≠ 202) : f_reg u z M a = M a := by
  unfold f_reg
  rw [f_sign_n h6 h8 h2, q_un h7, q_un h7]
  unfold f_draw
  rw [q_un h6, q_un h5, q_un h4, q_un h3]
theorem f_reg_c {A B : q_I} (h : q_mq A B) (u : Nat) (z : Int64) : q_mq (f_reg u z A) (f_reg u z B) := by
  unfold f_reg
  have h1 : q_mq (q_up (q_up (q_up A 193 u (nI 1)) 194 u z.toInt32) 195 u (g_up z)) (q_up (q_up (q_up B 193 u (nI 1)) 194 u z.toInt32) 195 u (g_up z)) := q_mq_up (q_mq_up (q_mq_up h rfl (by decide) (by decide)) rfl (by decide) (by decide)) rfl (by decide) (by decide)
  exact f_sign_c (q_mq_up (q_mq_up (f_draw_c h1 u) (g_nx_c h1 u) (by decide) (by decide)) (by rw [g_nx_c h1 u]) (by decide) (by decide)) u
theorem f_register_c {A B : q_I} (h : q_ms A B) (u : Int32) (z : Int64) : (f_register u z A).1 = (f_register u z B).1 ∧ q_ms (f_register u z A).2 (f_register u z B).2 := by
  unfold f_register
  rw [h.1 193 (by decide) (by decide)]
  by_cases h0 : u < 0
  · rw [if_pos h0, if_pos h0]; exact ⟨rfl, h⟩
  rw [if_neg h0, if_neg h0]
  by_cases h3 : nI 3 < u
  · rw [if_pos h3, if_pos h3]; exact ⟨rfl, h⟩
  rw [if_neg h3, if_neg h3]
  by_cases h9 : B 193 u.toNatClampNeg = 0
  · rw [if_pos h9, if_pos h9]
    refine ⟨rfl, f_reg_c h.1 _ _, ?_⟩
    dsimp only
    rw [f_reg_n (by decide) (by decide) (by decide) (by decide) (by decide) (by decide) (by decide), f_reg_n (by decide) (by decide) (by decide) (by decide) (by decide) (by decide) (by decide)]
    exact h.2
  · rw [if_neg h9, if_neg h9]; exact ⟨rfl, h⟩
theorem f_rotate_c {A B : q_I} (h : q_ms A B) (u : Int32) : (f_rotate u A).1 = (f_rotate u B).1 ∧ q_ms (f_rotate u A).2 (f_rotate u B).2 := by
  unfold f_rotate
  rw [h.1 193 (by decide) (by decide)]
  by_cases h0 : g_kn (B 193) u = 0
  · rw [if_pos h0, if_pos h0]; exact ⟨rfl, h⟩
  rw [if_neg h0, if_neg h0]
  have h8 := h.1 198 (by decide) (by decide)
  refine ⟨rfl, f_sign_c (q_mq_up (q_mq_up h.1 (by rw [h8]) (by decide) (by decide)) (by rw [h8]) (by decide) (by decide)) _, ?_⟩
  dsimp only
  rw [f_sign_192, f_sign_192, q_un (by decide), q_un (by decide), q_un (by decide), q_un (by decide)]
  exact h.2
theorem f_spoil_c {A B : q_I} (h : q_ms A B) (u w m : Int32) : (f_spoil u w m A).1 = (f_spoil u w m B).1 ∧ q_ms (f_spoil u w m A).2 (f_spoil u w m B).2 := by
  unfold f_spoil
  rw [h.1 193 (by decide) (by decide)]
  by_cases h0 : g_kn (B 193) u = 0
  · rw [if_pos h0, if_pos h0]; exact ⟨rfl, h⟩
  rw [if_neg h0, if_neg h0]
  by_cases h1 : w < 0
  · rw [if_pos h1, if_pos h1]; exact ⟨rfl, h⟩
  rw [if_neg h1, if_neg h1]
  by_cases h2 : w ≤ nI 3
  · rw [if_pos h2, if_pos h2]
    refine ⟨rfl, q_mq_up h.1 (by rw [h.1 202 (by decide) (by decide)]) (by decide) (by decide), ?_⟩
    dsimp only
    rw [q_un (by decide), q_un (by decide)]
    exact h.2
  · rw [if_neg h2, if_neg h2]; exact ⟨rfl, h⟩
theorem f_pk1_n {u f c a : Nat} {M : q_I} (h6 : a ≠ 196) (h0 : a ≠ 200) (h1 : a ≠ 201) (h3 : a ≠ 203) (h4 : a ≠ 204) : f_pk1 u f c M a = M a := by
  unfold f_pk1
  rw [q_un h4, q_un h1, q_un h3, q_un h0, q_un h0]
  unfold f_draw
  rw [q_un h6]
theorem f_pk_n {u f c a : Nat} {M : q_I} (h6 : a ≠ 196) (h0 : a ≠ 200) (h1 : a ≠ 201) (h3 : a ≠ 203) (h4 : a ≠ 204) : ∀ k, f_pk u f c k M a = M a
  | 0 => rfl
  | k + 1 => by
    show f_pk1 u (f + k) (c + k) (f_pk u f c k M) a = M a
    rw [f_pk1_n h6 h0 h1 h3 h4, f_pk_n h6 h0 h1 h3 h4 k]
theorem f_pk_c {A B : q_I} (h : q_mq A B) (u f c : Nat) : ∀ k, q_mq (f_pk u f c k A) (f_pk u f c k B)
  | 0 => h
  | k + 1 => f_pk1_c (f_pk_c h u f c k) u (f + k) (c + k)
theorem f_pk_eu {A B : q_I} {u v f c : Nat} (h : q_eu A B v) (huv : u ≠ v) : ∀ k, f + k ≤ 6 → c + k ≤ 10 → q_eu (f_pk u f c k A) B v
  | 0, _, _ => h
  | k + 1, hf, hc => f_pk1_eu (f_pk_eu h huv k (by omega) (by omega)) huv (by omega) (by omega)
theorem f_prekeys_c {A B : q_I} (h : q_ms A B) (u w : Int32) : (f_prekeys u w A).1 = (f_prekeys u w B).1 ∧ q_ms (f_prekeys u w A).2 (f_prekeys u w B).2 := by
  unfold f_prekeys
  rw [h.1 193 (by decide) (by decide), h.1 204 (by decide) (by decide), h.1 201 (by decide) (by decide)]
  by_cases h0 : g_kn (B 193) u = 0
  · rw [if_pos h0, if_pos h0]; exact ⟨rfl, h⟩
  rw [if_neg h0, if_neg h0]
  by_cases h1 : w < nI 1
  · rw [if_pos h1, if_pos h1]; exact ⟨rfl, h⟩
  rw [if_neg h1, if_neg h1]
  by_cases h2 : w ≤ nI 6
  · rw [if_pos h2, if_pos h2]
    refine ⟨rfl, f_pk_c h.1 _ _ _ _, ?_⟩
    dsimp only
    rw [f_pk_n (by decide) (by decide) (by decide) (by decide) (by decide), f_pk_n (by decide) (by decide) (by decide) (by decide) (by decide)]
    exact h.2
  · rw [if_neg h2, if_neg h2]; exact ⟨rfl, h⟩
theorem f_alter_c {A B : q_I} (h : q_ms A B) (e w : Int32) (z : Int64) (N : q_L) : f_alter e w z A N = f_alter e w z B N := by
  unfold f_alter
  rw [h.2]
theorem g_env_c {A B : q_I} (h : q_ms A B) (e w : Int32) (N : q_L) : g_env e w A N = g_env e w B N := by
  unfold g_env
  rw [h.2]
/-- answer, rows and longs the same -/
def q_tri (X Y : Int32 × q_I × q_L) : Prop := X.1 = Y.1 ∧ q_ms X.2.1 Y.2.1 ∧ X.2.2 = Y.2.2
theorem f_copy_c {A B : q_I} (h : q_ms A B) (e : Int32) (N : q_L) : q_tri (f_copy e A N) (f_copy e B N) := by
  unfold f_copy
  rw [h.2]
  by_cases h0 : g_th (B 192 16) e = 0
  · rw [if_pos h0, if_pos h0]; exact ⟨rfl, h, rfl⟩
  rw [if_neg h0, if_neg h0]
  by_cases h1 : B 192 16 = nI 60
  · rw [if_pos h1, if_pos h1]; exact ⟨rfl, h, rfl⟩
  rw [if_neg h1, if_neg h1]
  refine ⟨rfl, ⟨fun a h1 h2 => ?_, ?_⟩, rfl⟩
  · show q_up A 192 16 _ a = q_up B 192 16 _ a
    rw [q_un (by omega), q_un (by omega)]; exact h.1 a h1 h2
  · show q_up A 192 16 (nI ((B 192 16).toNatClampNeg + 1)) 192 16 = q_up B 192 16 (nI ((B 192 16).toNatClampNeg + 1)) 192 16
    rw [q_usk, q_usk]
theorem g_user_c {A B : q_I} (h : q_ms A B) (u w : Int32) : g_user u w A = g_user u w B := by
  unfold g_user g_us
  rw [h.1 193 (by decide) (by decide), h.1 197 (by decide) (by decide), h.1 198 (by decide) (by decide), h.1 199 (by decide) (by decide), h.1 196 (by decide) (by decide), h.1 201 (by decide) (by decide), h.1 204 (by decide) (by decide), h.1 202 (by decide) (by decide)]
theorem g_sess_c {A B : q_I} (h : q_ms A B) (u v : Int32) : g_sess u v A = g_sess u v B := by
  unfold g_sess
  rw [h.1 193 (by decide) (by decide), h.1 206 (by decide) (by decide)]
theorem f_blk_c {A B : q_I} (h : q_mq A B) (p k : Nat) : f_blk A p k = f_blk B p k := by
  unfold f_blk
  rw [h 205 (by decide) (by decide)]
theorem g_session_c {A B : q_I} (h : q_ms A B) (u v k w : Int32) : g_session u v k w A = g_session u v k w B := by
  unfold g_session
  rw [h.1 193 (by decide) (by decide), h.1 206 (by decide) (by decide), f_blk_c h.1]
theorem f_off_c {A B : q_I} (h : q_mq A B) (b f : Nat) : q_mq (f_off b f A) (f_off b f B) := by
  intro a h1 h2
  by_cases e3 : a = 203
  · subst e3; funext j; rw [f_off_203, f_off_203, h 203 (by decide) (by decide)]
  by_cases e4 : a = 204
  · subst e4; rw [f_off_204, f_off_204, h 204 (by decide) (by decide)]
  rw [f_off_n e3 e4, f_off_n e3 e4, h a h1 h2]
theorem f_rows_q {A B : q_I} (h : q_mq A B) (p k : Nat) (r : Nat → Int32) : q_mq (f_rows p k r A) (f_rows p k r B) := by
  intro a h1 h2
  by_cases e5 : a = 205
  · subst e5; exact f_rows_c (h 205 (by decide) (by decide)) (fun _ _ => rfl)
  rw [f_rows_n e5, f_rows_n e5, h a h1 h2]
theorem f_save_q {A B : q_I} (h : q_mq A B) (p k : Nat) (r : Nat → Int32) : q_mq (f_save p k r A) (f_save p k r B) := by
  intro a h1 h2
  by_cases e5 : a = 205
  · subst e5; funext j; rw [f_save_205, f_save_205, h 205 (by decide) (by decide)]
  rw [f_save_n e5, f_save_n e5, h a h1 h2]
theorem f_come_q {A B : q_I} (h : q_mq A B) (p m : Nat) (r : Nat → Int32) : q_mq (f_come p m r A) (f_come p m r B) := by
  unfold f_come
  exact f_rows_q (q_mq_up h rfl (by decide) (by decide)) _ _ _
theorem f_rem_q {A B : q_I} (h : q_mq A B) (b i c : Nat) : q_mq (f_rem b i c A) (f_rem b i c B) := by
  intro a h1 h2
  by_cases e0 : a = 200
  · subst e0; funext j; rw [f_rem_200, f_rem_200, h 200 (by decide) (by decide)]
  by_cases e1 : a = 201
  · subst e1; rw [f_rem_201, f_rem_201, h 201 (by decide) (by decide)]
  rw [f_rem_n e0 e1, f_rem_n e0 e1, h a h1 h2]
theorem f_bg1_c {A B : q_I} (h : q_mq A B) (a b f m : Nat) : q_mq (f_bg1 a b f m A) (f_bg1 a b f m B) := by
  have e1 : g_nx A a = g_nx B a := g_nx_c h a
  have e2 : g_nx (f_draw a A) a = g_nx (f_draw a B) a := g_nx_c (f_draw_c h a) a
  have e3 : g_off b f A = g_off b f B := by unfold g_off; rw [h 203 (by decide) (by decide)]
  have e4 : ∀ e o, g_brt A a b e o = g_brt B a b e o := fun e o => by unfold g_brt; rw [h 202 (by decide) (by decide), h 197 (by decide) (by decide)]
  unfold f_bg1
  rw [e1, e2, e3, e4, h 202 (by decide) (by decide)]
  exact f_come_q (f_draw_c (f_draw_c (f_off_c h b f) a) a) _ _ _
theorem f_bg1_192 {a b f m : Nat} {M : q_I} : f_bg1 a b f m M 192 = M 192 := by
  unfold f_bg1
  rw [f_come_n (by decide) (by decide)]
  unfold f_draw
  rw [q_un (by decide), q_un (by decide), f_off_n (by decide) (by decide)]
theorem f_begin_c {A B : q_I} (h : q_ms A B) (u v : Int32) : (f_begin u v A).1 = (f_begin u v B).1 ∧ q_ms (f_begin u v A).2 (f_begin u v B).2 := by
  unfold f_begin
  rw [h.1 193 (by decide) (by decide), h.1 204 (by decide) (by decide), h.1 206 (by decide) (by decide)]
  by_cases h0 : g_pr (B 193) u v = 0
  · rw [if_pos h0, if_pos h0]; exact ⟨rfl, h⟩
  rw [if_neg h0, if_neg h0]
  unfold f_bg
  rw [h.1 202 (by decide) (by decide)]
  split
  · refine ⟨rfl, f_off_c h.1 _ _, ?_⟩
    dsimp only
    rw [f_off_n (by decide) (by decide), f_off_n (by decide) (by decide)]; exact h.2
  · refine ⟨rfl, f_bg1_c h.1 _ _ _ _, ?_⟩
    dsimp only
    rw [f_bg1_192, f_bg1_192]; exact h.2
theorem f_send_c {A B : q_I} (h : q_ms A B) (u v : Int32) (z : Int64) (N : q_L) : q_tri (f_send u v z A N) (f_send u v z B N) := by
  unfold f_send
  rw [h.1 193 (by decide) (by decide), h.1 206 (by decide) (by decide), h.2]
  by_cases h0 : g_pr (B 193) u v = 0
  · rw [if_pos h0, if_pos h0]; exact ⟨rfl, h, rfl⟩
  rw [if_neg h0, if_neg h0]
  by_cases h1 : B 206 (4 * u.toNatClampNeg + v.toNatClampNeg) = 0
  · rw [if_pos h1, if_pos h1]; exact ⟨rfl, h, rfl⟩
  rw [if_neg h1, if_neg h1]
  by_cases h2 : B 192 16 = nI 60
  · rw [if_pos h2, if_pos h2]; exact ⟨rfl, h, rfl⟩
  rw [if_neg h2, if_neg h2]
  have eg : ∀ a b r, g_let z a b A r = g_let z a b B r := fun a b r => by unfold g_let; rw [h.1 197 (by decide) (by decide)]
  unfold f_snd
  refine ⟨rfl, ⟨fun a h1 h2 => ?_, ?_⟩, ?_⟩
  · dsimp only
    rw [q_un (by omega), q_un (by omega), f_blk_c h.1]; exact f_save_q h.1 _ _ _ a h1 h2
  · dsimp only
    rw [q_usk, q_usk]
  · show va_up N 208 _ = va_up N 208 _
    simp only [eg, f_blk_c h.1]
theorem f_row_c {A B : q_I} (h : q_mq A B) (p k : Nat) (g : Nat → Int32) : f_row A p k g = f_row B p k g := by
  unfold f_row
  rw [h 205 (by decide) (by decide)]
theorem f_ok_c {A B : q_I} (h : q_ms A B) (S : s_T) (b : Nat) : q_ms (f_ok S b A) (f_ok S b B) := by
  unfold f_ok
  split
  · refine ⟨f_draw_c h.1 b, ?_⟩
    unfold f_draw
    rw [q_un (by decide), q_un (by decide)]; exact h.2
  · exact h
theorem f_rows_m {A B : q_I} (h : q_ms A B) (p k : Nat) (r : Nat → Int32) : q_ms (f_rows p k r A) (f_rows p k r B) := ⟨f_rows_q h.1 p k r, by rw [f_rows_n (by decide), f_rows_n (by decide)]; exact h.2⟩
theorem f_save_m {A B : q_I} (h : q_ms A B) (p k : Nat) (r : Nat → Int32) : q_ms (f_save p k r A) (f_save p k r B) := ⟨f_save_q h.1 p k r, by rw [f_save_n (by decide), f_save_n (by decide)]; exact h.2⟩
theorem f_come_m {A B : q_I} (h : q_ms A B) (p m : Nat) (r : Nat → Int32) : q_ms (f_come p m r A) (f_come p m r B) := ⟨f_come_q h.1 p m r, by rw [f_come_n (by decide) (by decide), f_come_n (by decide) (by decide)]; exact h.2⟩
theorem f_rem_m {A B : q_I} (h : q_ms A B) (b i c : Nat) : q_ms (f_rem b i c A) (f_rem b i c B) := ⟨f_rem_q h.1 b i c, by rw [f_rem_n (by decide) (by decide), f_rem_n (by decide) (by decide)]; exact h.2⟩
theorem f_fur_c {A B : q_I} (h : q_ms A B) (G : Nat → Nat → Int32) (N : q_L) (e a b p : Nat) : ∀ (j k : Nat) (ans : Int32), q_tri (f_fur G A N e a b p j k ans) (f_fur G B N e a b p j k ans)
  | 0, _, _ => ⟨rfl, h, rfl⟩
  | j + 1, k, ans => by
    have et : f_try A N e a b (f_row A p k (G k)) = f_try B N e a b (f_row B p k (G k)) := by rw [f_row_c h.1, f_try_c h.1]
    by_cases hz : (f_try B N e a b (f_row B p k (G k))).1 = nI 0
    · rw [f_fur_ok hz, f_fur_ok (by rw [et]; exact hz), et]
      exact ⟨rfl, f_rows_m (f_ok_c h _ _) _ _ _, rfl⟩
    · rw [f_fur_no hz, f_fur_no (by rw [et]; exact hz), et]
      exact f_fur_c h G N e a b p j (k + 1) _
theorem f_at_c {A B : q_I} (h : q_ms A B) (g : Nat → Int32) (N : q_L) (e a b p k : Nat) : q_tri (f_at g A N e a b p k) (f_at g B N e a b p k) := by
  have et : f_try A N e a b (f_row A p k g) = f_try B N e a b (f_row B p k g) := by rw [f_row_c h.1, f_try_c h.1]
  unfold f_at
  rw [et]
  split
  · exact ⟨rfl, f_save_m (f_ok_c h _ _) _ _ _, rfl⟩
  · exact ⟨rfl, h, rfl⟩
theorem f_begun_c {A B : q_I} (h : q_ms A B) (g : Nat → Int32) (N : q_L) (e a b p m c : Nat) : q_tri (f_begun g A N e a b p m c) (f_begun g B N e a b p m c) := by
  have e1 : f_now A N e b = f_now B N e b := by unfold f_now; rw [h.1 198 (by decide) (by decide)]
  have e2 : f_old A N e b = f_old B N e b := by unfold f_old; rw [h.1 199 (by decide) (by decide)]
  have e3 : f_it A N e b c = f_it B N e b c := by unfold f_it f_hit; rw [h.1 200 (by decide) (by decide)]
  have e4 : f_brow g A N e a b c = f_brow g B N e a b c := by unfold f_brow; rw [e1, e3, h.1 197 (by decide) (by decide), h.1 198 (by decide) (by decide), h.1 199 (by decide) (by decide), h.1 200 (by decide) (by decide)]
  have et : f_try A N e a b (f_brow g A N e a b c) = f_try B N e a b (f_brow g B N e a b c) := by rw [e4, f_try_c h.1]
  unfold f_begun
  rw [e1, e2, e3]
  split
  · exact ⟨rfl, h, rfl⟩
  · unfold f_beg2
    rw [et, e3]
    split
    · refine ⟨rfl, ?_, rfl⟩
      simp only
      split
      · exact f_rem_m (f_come_m (f_ok_c h _ _) _ _ _) _ _ _
      · exact f_come_m (f_ok_c h _ _) _ _ _
    · exact ⟨rfl, h, rfl⟩
theorem f_open_c {A B : q_I} (h : q_ms A B) (G : Nat → Nat → Int32) (v : Int32) (N : q_L) : q_tri (f_open G v A N) (f_open G v B N) := by
  have e1 : ∀ e, g_mal A N e = g_mal B N e := fun e => by unfold g_mal; rw [h.1 193 (by decide) (by decide), h.1 197 (by decide) (by decide)]
  have e2 : ∀ e p, f_bhit A N e p = f_bhit B N e p := fun e p => by unfold f_bhit; rw [h.1 205 (by decide) (by decide)]
  unfold f_open
  rw [h.2, e1, h.1 206 (by decide) (by decide), h.1 201 (by decide) (by decide)]
  split
  · exact ⟨rfl, h, rfl⟩
  split
  · unfold f_op
    rw [e2]
    split
    · exact f_fur_c h _ _ _ _ _ _ _ _ _
    split
    · exact f_at_c h _ _ _ _ _ _ _
    · exact f_begun_c h _ _ _ _ _ _ _ _
  · exact ⟨rfl, h, rfl⟩
/-! rows that agree below 158 -/
def s_e (r s : Nat → Int32) : Prop := ∀ i, i < 158 → r i = s i
theorem s_e_m {r s : Nat → Int32} (h : s_e r s) (v : Int32) {i : Nat} (hi : i < 16) : g_mix (fun j => r (30 + j)) v (nI 0) (nI 0) (nI 0) i = g_mix (fun j => s (30 + j)) v (nI 0) (nI 0) (nI 0) i := g_mix_c (fun j hj => h (30 + j) (by omega)) _ _ _ _ hi
theorem s_sk1_e {r s : Nat → Int32} (h : s_e r s) (c : Nat) : s_e (s_sk1 c r) (s_sk1 c s) := by
  intro i hi
  unfold s_sk1
  rw [h 7 (by omega), h 1 (by omega)]
  by_cases c1 : i = 7
  · rw [if_pos c1, if_pos c1]
  rw [if_neg c1, if_neg c1]
  by_cases c2 : i = 9
  · rw [if_pos c2, if_pos c2]
  rw [if_neg c2, if_neg c2]
  by_cases c3 : i = 38 + 10 * c
  · rw [if_pos c3, if_pos c3]
  rw [if_neg c3, if_neg c3]
  by_cases c4 : i = 39 + 10 * c
  · rw [if_pos c4, if_pos c4]
  rw [if_neg c4, if_neg c4]
  by_cases c5 : 40 + 10 * c ≤ i ∧ i < 48 + 10 * c
  · rw [if_pos c5, if_pos c5]; exact s_e_m h _ (by omega)
  rw [if_neg c5, if_neg c5]
  by_cases c6 : 30 ≤ i ∧ i < 38
  · rw [if_pos c6, if_pos c6]; exact s_e_m h _ (by omega)
  rw [if_neg c6, if_neg c6]
  exact h i hi
theorem s_sk_e {r s : Nat → Int32} (h : s_e r s) (c : Nat) : ∀ k, s_e (s_sk c k r) (s_sk c k s)
  | 0 => h
  | k + 1 => s_sk1_e (s_sk_e h c k) (c + k)
theorem s_gone_e {r s : Nat → Int32} (h : s_e r s) {k c : Nat} (hc : c ≤ 12) (hk : k < c) : s_e (s_gone k c r) (s_gone k c s) := by
  intro i hi
  unfold s_gone
  by_cases c1 : i = 9
  · rw [if_pos c1, if_pos c1]
  rw [if_neg c1, if_neg c1]
  by_cases c2 : 38 + 10 * k ≤ i ∧ i < 38 + 10 * (c - 1)
  · rw [if_pos c2, if_pos c2]; exact h _ (by omega)
  rw [if_neg c2, if_neg c2]
  exact h i hi
theorem s_mv_e {r s : Nat → Int32} (h : s_e r s) (m : Nat) : s_e (s_mv m r) (s_mv m s) := by
  intro i hi
  unfold s_mv
  by_cases c1 : i = 7
  · rw [if_pos c1, if_pos c1]
  rw [if_neg c1, if_neg c1]
  by_cases c6 : 30 ≤ i ∧ i < 38
  · rw [if_pos c6, if_pos c6]; exact s_e_m h _ (by omega)
  rw [if_neg c6, if_neg c6]
  exact h i hi
theorem s_turn_c {r s : Nat → Int32} (h : s_e r s) (x q : Int32) : s_e (s_turn x q r) (s_turn x q s) := by
  intro i hi
  have hr : ∀ j, j < 8 → s_rt r j = s_rt s j := fun j hj => h (14 + j) (by omega)
  unfold s_turn
  rw [h 6 (by omega), h 2 (by omega)]
  by_cases c1 : i = 1
  · rw [if_pos c1, if_pos c1]
  rw [if_neg c1, if_neg c1]
  by_cases c2 : i = 2
  · rw [if_pos c2, if_pos c2]
  rw [if_neg c2, if_neg c2]
  by_cases c3 : i = 3
  · rw [if_pos c3, if_pos c3]
  rw [if_neg c3, if_neg c3]
  by_cases c4 : i = 4
  · rw [if_pos c4, if_pos c4]
  rw [if_neg c4, if_neg c4]
  by_cases c5 : i = 5
  · rw [if_pos c5, if_pos c5]
  rw [if_neg c5, if_neg c5]
  by_cases c6 : i = 6
  · rw [if_pos c6, if_pos c6]
  rw [if_neg c6, if_neg c6]
  by_cases c7 : i = 7
  · rw [if_pos c7, if_pos c7]
  rw [if_neg c7, if_neg c7]
  by_cases c8 : i = 8
  · rw [if_pos c8, if_pos c8]
  rw [if_neg c8, if_neg c8]
  by_cases d1 : 14 ≤ i ∧ i < 22
  · rw [if_pos d1, if_pos d1]; exact g_mix_c (fun j hj => g_mix_c hr _ _ _ _ (by omega)) _ _ _ _ (by omega)
  rw [if_neg d1, if_neg d1]
  by_cases d2 : 22 ≤ i ∧ i < 30
  · rw [if_pos d2, if_pos d2]; exact g_mix_c (fun j hj => g_mix_c hr _ _ _ _ (by omega)) _ _ _ _ (by omega)
  rw [if_neg d2, if_neg d2]
  by_cases d3 : 30 ≤ i ∧ i < 38
  · rw [if_pos d3, if_pos d3]; exact g_mix_c hr _ _ _ _ (by omega)
  rw [if_neg d3, if_neg d3]
  exact h i hi
/-- two tries with the same outcome -/
def s_Te (X Y : s_T) : Prop := X.1 = Y.1 ∧ (X.1 = nI 0 → s_e X.2.1 Y.2.1 ∧ ∀ i, i < 8 → X.2.2.1 i = Y.2.2.1 i) ∧ X.2.2.2 = Y.2.2.2
theorem s_Te_no {v : Int32} {r s r2 s2 : Nat → Int32} {b : Bool} (h : ¬ v = nI 0) : s_Te (v, r, r2, b) (v, s, s2, b) := ⟨rfl, fun z => absurd z h, rfl⟩
theorem s_end_e {r s : Nat → Int32} (h : s_e r s) {m c w : Nat} {tg : (Nat → Int32) → Int64} {T : Int64} {tu : Bool} (ht : ∀ f g : Nat → Int32, (∀ i, i < 8 → f i = g i) → tg f = tg g) : s_Te (s_end m c w tg T tu r) (s_end m c w tg T tu s) := by
  have hk : ∀ i, i < 16 → s_mk (s_sk c (m - w) r) i = s_mk (s_sk c (m - w) s) i := fun i hi => s_e_m (s_sk_e h c (m - w)) _ hi
  unfold s_end
  rw [h 5 (by omega), ht _ _ (fun i hi => hk i (by omega))]
  by_cases c1 : s 5 = 0
  · rw [if_pos c1, if_pos c1]; exact s_Te_no (by decide)
  rw [if_neg c1, if_neg c1]
  by_cases c2 : m < w
  · rw [if_pos c2, if_pos c2]; exact s_Te_no (by decide)
  rw [if_neg c2, if_neg c2]
  by_cases c3 : 8 < m - w
  · rw [if_pos c3, if_pos c3]; exact s_Te_no (by decide)
  rw [if_neg c3, if_neg c3]
  by_cases c4 : 12 < c + (m - w)
  · rw [if_pos c4, if_pos c4]; exact s_Te_no (by decide)
  rw [if_neg c4, if_neg c4]
  split
  · exact ⟨rfl, fun _ => ⟨s_mv_e (s_sk_e h c (m - w)) m, fun i hi => hk i (by omega)⟩, rfl⟩
  · exact s_Te_no (by decide)
theorem s_trial_e {r s : Nat → Int32} (h : s_e r s) {X : Int32} {m p c w : Nat} {q : Int32} {tg : (Nat → Int32) → Int64} {T : Int64} (ht : ∀ f g : Nat → Int32, (∀ i, i < 8 → f i = g i) → tg f = tg g) (hc : c ≤ 12) : s_Te (s_trial X m p c w q tg T r) (s_trial X m p c w q tg T s) := by
  have hf : g_first (s_hit X m r) c = g_first (s_hit X m s) c := by
    obtain ⟨g1, g2, g3⟩ := g_first_s (s_hit X m s) c
    have hh : ∀ j, j < c → s_hit X m r j = s_hit X m s j := fun j hj => by unfold s_hit; rw [h (38 + 10 * j) (by omega), h (38 + 10 * j + 1) (by omega)]
    refine g_first_u g1 (fun j hj => ?_) (fun hl => ?_)
    · rw [hh j (by omega)]; exact g2 j hj
    · rw [hh _ hl]; exact g3 hl
  unfold s_trial
  rw [hf]
  by_cases c1 : g_first (s_hit X m s) c < c
  · rw [if_pos c1, if_pos c1]
    have hk : ∀ i, i < 8 → r (40 + 10 * g_first (s_hit X m s) c + i) = s (40 + 10 * g_first (s_hit X m s) c + i) := fun i hi => h _ (by omega)
    rw [ht (fun i => r (40 + 10 * g_first (s_hit X m s) c + i)) (fun i => s (40 + 10 * g_first (s_hit X m s) c + i)) hk]
    split
    · exact ⟨rfl, fun _ => ⟨s_gone_e h hc c1, hk⟩, rfl⟩
    · exact s_Te_no (by decide)
  rw [if_neg c1, if_neg c1]
  unfold s_mid
  rw [h 1 (by omega), h 5 (by omega)]
  by_cases c2 : X = s 1
  · rw [if_pos c2, if_pos c2]; exact s_end_e h ht
  rw [if_neg c2, if_neg c2]
  by_cases c3 : s 5 = nI 1 ∧ w < p
  · rw [if_pos c3, if_pos c3]
    by_cases c4 : 8 < p - w
    · rw [if_pos c4, if_pos c4]; exact s_Te_no (by decide)
    rw [if_neg c4, if_neg c4]
    exact s_end_e (s_turn_c (s_sk_e h c (p - w)) X q) ht
  · rw [if_neg c3, if_neg c3]
    exact s_end_e (s_turn_c h X q) ht
theorem f_try_r {r s : Nat → Int32} (h : s_e r s) (hr : q_RI r) (M : q_I) (N : q_L) (e a b : Nat) : s_Te (f_try M N e a b r) (f_try M N e a b s) := by
  obtain ⟨⟨c, hc, ec⟩, -⟩ := hr
  unfold f_try
  rw [← h 9 (by omega), ← h 7 (by omega), ec, g_cl (by omega)]
  exact s_trial_e h (fun f g hfg => g_tag_c hfg _ _ _ _ _ _) hc
theorem s_e_up {r s : Nat → Int32} (h : s_e r s) (k : Nat) (v : Int32) : s_e (va_up r k v) (va_up s k v) := by
  intro i hi
  by_cases e : i = k
  · subst e; rw [va_up_self, va_up_self]
  · rw [va_up_ne _ _ e, va_up_ne _ _ e]; exact h i hi
theorem f_rows_e {r s : Nat → Int32} (h : s_e r s) (p k : Nat) (M : q_I) : f_rows p k r M = f_rows p k s M := by
  funext a
  by_cases e5 : a = 205
  · subst e5; exact f_rows_c rfl h
  · rw [f_rows_n e5, f_rows_n e5]
theorem f_save_e {r s : Nat → Int32} (h : s_e r s) (p k : Nat) (M : q_I) : f_save p k r M = f_save p k s M := by
  funext a
  by_cases e5 : a = 205
  · subst e5
    funext j
    rw [f_save_205, f_save_205]
    by_cases c : 158 * (3 * p + k) ≤ j ∧ j < 158 * (3 * p + k) + 158
    · rw [if_pos c, if_pos c]; exact h _ (by omega)
    · rw [if_neg c, if_neg c]
  · rw [f_save_n e5, f_save_n e5]
theorem f_come_e {r s : Nat → Int32} (h : s_e r s) (p m : Nat) (M : q_I) : f_come p m r M = f_come p m s M := by
  unfold f_come
  exact f_rows_e h _ _ _
theorem f_ok_e {X Y : s_T} (h : s_Te X Y) (b : Nat) (M : q_I) : f_ok X b M = f_ok Y b M := by
  unfold f_ok
  rw [h.2.2]
theorem f_tx_e {X Y : s_T} (h : ∀ i, i < 8 → X.2.2.1 i = Y.2.2.1 i) (N : q_L) (e : Nat) : f_tx N e X = f_tx N e Y := by
  unfold f_tx
  rw [g_wide_c h]
theorem f_row_e (M : q_I) (p k : Nat) (g : Nat → Int32) : s_e (f_row M p k g) (f_blk M p k) := by
  intro i hi
  unfold f_row f_blk
  rw [if_pos hi]
theorem s_e_sy {r s : Nat → Int32} (h : s_e r s) : s_e s r := fun i hi => (h i hi).symm
theorem s_e_tr {r s t : Nat → Int32} (h : s_e r s) (h2 : s_e s t) : s_e r t := fun i hi => (h i hi).trans (h2 i hi)
theorem q_RI_e {r s : Nat → Int32} (h : s_e s r) (hr : q_RI r) : q_RI s := by
  unfold q_RI
  rw [h 9 (by omega), h 7 (by omega)]
  exact hr
theorem f_fur_g {G H : Nat → Nat → Int32} {M : q_I} {N : q_L} {e a b p m : Nat} (hri : ∀ k, k < m → q_RI (f_blk M p k)) : ∀ (j k : Nat) (ans : Int32), k + j ≤ m → f_fur G M N e a b p j k ans = f_fur H M N e a b p j k ans
  | 0, _, _, _ => rfl
  | j + 1, k, ans, hj => by
    have h1 : s_e (f_row M p k (G k)) (f_row M p k (H k)) := s_e_tr (f_row_e M p k _) (s_e_sy (f_row_e M p k _))
    have et := f_try_r h1 (q_RI_e (f_row_e M p k _) (hri k (by omega))) M N e a b
    by_cases hz : (f_try M N e a b (f_row M p k (G k))).1 = nI 0
    · rw [f_fur_ok hz, f_fur_ok (by rw [← et.1]; exact hz), f_ok_e et, f_tx_e (et.2.1 hz).2, f_rows_e (s_e_up (et.2.1 hz).1 11 (nI 1))]
    · rw [f_fur_no hz, f_fur_no (by rw [← et.1]; exact hz), et.1]
      exact f_fur_g hri j (k + 1) _ (by omega)
theorem f_at_g {g g2 : Nat → Int32} {M : q_I} {N : q_L} {e a b p k : Nat} (hri : q_RI (f_blk M p k)) : f_at g M N e a b p k = f_at g2 M N e a b p k := by
  have h1 : s_e (f_row M p k g) (f_row M p k g2) := s_e_tr (f_row_e M p k _) (s_e_sy (f_row_e M p k _))
  have et := f_try_r h1 (q_RI_e (f_row_e M p k _) hri) M N e a b
  unfold f_at
  by_cases hz : (f_try M N e a b (f_row M p k g)).1 = nI 0
  · rw [if_pos hz, if_pos (by rw [← et.1]; exact hz), f_ok_e et, f_tx_e (et.2.1 hz).2, f_save_e (s_e_up (et.2.1 hz).1 11 (nI 1))]
  · rw [if_neg hz, if_neg (by rw [← et.1]; exact hz), et.1]
theorem s_new_e (base s pub : Int32) (root g g2 : Nat → Int32) : s_e (s_new base s pub root g) (s_new base s pub root g2) := by
  intro i hi
  unfold s_new
  rw [if_pos (show i < 318 by omega), if_pos (show i < 318 by omega)]
theorem s_new_ri (base s pub : Int32) (root g : Nat → Int32) : q_RI (s_new base s pub root g) := by
  unfold q_RI s_new
  exact ⟨⟨0, by decide, by rw [if_neg (by decide), if_neg (by decide), if_neg (by decide), if_neg (by decide), if_pos (by decide)]⟩, ⟨0, by decide, by rw [if_neg (by decide), if_neg (by decide), if_neg (by decide), if_neg (by decide), if_pos (by decide)]⟩⟩
theorem f_begun_g {g g2 : Nat → Int32} {M : q_I} {N : q_L} {e a b p m c : Nat} : f_begun g M N e a b p m c = f_begun g2 M N e a b p m c := by
  have h1 : s_e (f_brow g M N e a b c) (f_brow g2 M N e a b c) := s_new_e _ _ _ _ _ _
  have et := f_try_r h1 (s_new_ri _ _ _ _ _) M N e a b
  unfold f_begun f_beg2
  by_cases hz : (f_try M N e a b (f_brow g M N e a b c)).1 = nI 0
  · rw [if_pos hz, if_pos (show (f_try M N e a b (f_brow g2 M N e a b c)).1 = nI 0 by rw [← et.1]; exact hz), f_ok_e et, f_tx_e (et.2.1 hz).2, f_come_e (s_e_up (et.2.1 hz).1 11 (nI 1))]
  · rw [if_neg hz, if_neg (show ¬ (f_try M N e a b (f_brow g2 M N e a b c)).1 = nI 0 by rw [← et.1]; exact hz), et.1]
theorem f_open_g (G H : Nat → Nat → Int32) (v : Int32) {M : q_I} {N : q_L} (hmn : ∀ p, p < 16 → ∃ m : Nat, m ≤ 3 ∧ M 206 p = nI m) (hri : ∀ p, p < 16 → ∀ m, M 206 p = nI m → m ≤ 3 → ∀ k, k < m → q_RI (f_blk M p k)) : f_open G v M N = f_open H v M N := by
  unfold f_open
  split
  · rfl
  split
  · rename_i hmal
    obtain ⟨a, b, m, p, hw⟩ := g_mal_0 hmal
    rw [hw.fa, hw.fb, lN_i, lN_i, g_cl (by have := hw.ha; omega), g_cl (by have := hw.hb; omega)]
    obtain ⟨mm, hm3, hmm⟩ := hmn (4 * b + a) (by have := hw.ha; have := hw.hb; omega)
    have hr := hri (4 * b + a) (by have := hw.ha; have := hw.hb; omega) mm hmm hm3
    rw [hmm, g_cl (by omega)]
    unfold f_op
    split
    · exact f_fur_g hr mm 0 _ (by omega)
    split
    · rename_i hl
      exact f_at_g (hr _ hl)
    · exact f_begun_g
  · rfl
/-! the reference's longs: they too are read at the envelopes and the latest text alone -/
def q_mN (A B : q_L) : Prop := A 208 = B 208 ∧ A 192 17 = B 192 17
def q_n3 (X Y : Int32 × q_I × q_L) : Prop := X.1 = Y.1 ∧ X.2.1 = Y.2.1 ∧ q_mN X.2.2 Y.2.2
theorem q_mN_8 {A B : q_L} (h : q_mN A B) (f : Nat → Int64) : q_mN (va_up A 208 f) (va_up B 208 f) := ⟨by rw [va_up_self, va_up_self], by rw [va_up_ne _ _ (by decide), va_up_ne _ _ (by decide)]; exact h.2⟩
theorem f_alter_N {A B : q_L} (h : q_mN A B) (e w : Int32) (z : Int64) (M : q_I) : (f_alter e w z M A).1 = (f_alter e w z M B).1 ∧ q_mN (f_alter e w z M A).2 (f_alter e w z M B).2 := by
  unfold f_alter
  split
  · exact ⟨rfl, h⟩
  split
  · exact ⟨rfl, h⟩
  split
  · refine ⟨rfl, ?_⟩
    unfold q_up
    simp only
    rw [h.1]
    exact q_mN_8 h _
  · exact ⟨rfl, h⟩
theorem g_env_N {A B : q_L} (h : q_mN A B) (e w : Int32) (M : q_I) : g_env e w M A = g_env e w M B := by
  unfold g_env
  rw [h.1]
theorem f_copy_N {A B : q_L} (h : q_mN A B) (e : Int32) (M : q_I) : q_n3 (f_copy e M A) (f_copy e M B) := by
  unfold f_copy
  split
  · exact ⟨rfl, rfl, h⟩
  split
  · exact ⟨rfl, rfl, h⟩
  · refine ⟨rfl, rfl, ?_⟩
    simp only
    rw [h.1]
    exact q_mN_8 h _
theorem f_send_N {A B : q_L} (h : q_mN A B) (u v : Int32) (z : Int64) (M : q_I) : q_n3 (f_send u v z M A) (f_send u v z M B) := by
  unfold f_send
  split
  · exact ⟨rfl, rfl, h⟩
  split
  · exact ⟨rfl, rfl, h⟩
  split
  · exact ⟨rfl, rfl, h⟩
  · refine ⟨rfl, rfl, ?_⟩
    unfold f_snd
    simp only
    rw [h.1]
    exact q_mN_8 h _
theorem f_try_N {A B : q_L} (h : A 208 = B 208) (M : q_I) (e a b : Nat) (r : Nat → Int32) : f_try M A e a b r = f_try M B e a b r := by
  unfold f_try
  rw [h]
theorem f_tx_N {A B : q_L} (h : q_mN A B) (e : Nat) (S : s_T) : q_mN (f_tx A e S) (f_tx B e S) := by
  unfold f_tx
  rw [h.1]
  exact ⟨by rw [q_un (by decide), q_un (by decide)]; exact h.1, by rw [q_usk, q_usk]⟩
theorem f_fur_N {A B : q_L} (h : q_mN A B) (G : Nat → Nat → Int32) (M : q_I) (e a b p : Nat) : ∀ (j k : Nat) (ans : Int32), q_n3 (f_fur G M A e a b p j k ans) (f_fur G M B e a b p j k ans)
  | 0, _, _ => ⟨rfl, rfl, h⟩
  | j + 1, k, ans => by
    have et := f_try_N h.1 M e a b (f_row M p k (G k))
    by_cases hz : (f_try M B e a b (f_row M p k (G k))).1 = nI 0
    · rw [f_fur_ok hz, f_fur_ok (by rw [et]; exact hz), et]
      exact ⟨rfl, rfl, f_tx_N h _ _⟩
    · rw [f_fur_no hz, f_fur_no (by rw [et]; exact hz), et]
      exact f_fur_N h G M e a b p j (k + 1) _
theorem f_open_N {A B : q_L} (h : q_mN A B) (G : Nat → Nat → Int32) (v : Int32) (M : q_I) : q_n3 (f_open G v M A) (f_open G v M B) := by
  have e1 : ∀ e, g_mal M A e = g_mal M B e := fun e => by unfold g_mal; rw [h.1]
  have e2 : ∀ e p, f_bhit M A e p = f_bhit M B e p := fun e p => by unfold f_bhit; rw [h.1]
  have e3 : ∀ e b, f_now M A e b = f_now M B e b := fun e b => by unfold f_now; rw [h.1]
  have e4 : ∀ e b, f_old M A e b = f_old M B e b := fun e b => by unfold f_old; rw [h.1]
  have e5 : ∀ e b c, f_it M A e b c = f_it M B e b c := fun e b c => by unfold f_it f_hit; rw [h.1]
  have e6 : ∀ g e a b c, f_brow g M A e a b c = f_brow g M B e a b c := fun g e a b c => by unfold f_brow; rw [e3, e5, h.1]
  have et : ∀ e a b r, f_try M A e a b r = f_try M B e a b r := fun e a b r => f_try_N h.1 M e a b r
  unfold f_open
  rw [e1, h.1]
  split
  · exact ⟨rfl, rfl, h⟩
  split
  · unfold f_op
    rw [e2, h.1]
    split
    · exact f_fur_N h _ _ _ _ _ _ _ _ _
    split
    · unfold f_at
      rw [et]
      split
      · exact ⟨rfl, rfl, f_tx_N h _ _⟩
      · exact ⟨rfl, rfl, h⟩
    · unfold f_begun
      rw [e3, e4, e5, h.1]
      split
      · exact ⟨rfl, rfl, h⟩
      · unfold f_beg2
        rw [e5, e6, et]
        split
        · exact ⟨rfl, rfl, f_tx_N h _ _⟩
        · exact ⟨rfl, rfl, h⟩
  · exact ⟨rfl, rfl, h⟩
