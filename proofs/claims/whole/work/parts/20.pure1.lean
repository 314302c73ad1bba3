/-! ===== Int32 by its bits: bt x i ===== -/
def bt (x : Int32) (i : Nat) : Bool := x.toBitVec.getLsbD i
theorem b_ext {x y : Int32} (h : ∀ i, i < 32 → bt x i = bt y i) : x = y := Int32.toBitVec_inj.mp (BitVec.eq_of_getLsbD_eq (fun i hi => h i hi))
theorem b_or (x y : Int32) (i : Nat) : bt (x ||| y) i = (bt x i || bt y i) := by unfold bt; rw [Int32.toBitVec_or, BitVec.getLsbD_or]
theorem b_and (x y : Int32) (i : Nat) : bt (x &&& y) i = (bt x i && bt y i) := by unfold bt; rw [Int32.toBitVec_and, BitVec.getLsbD_and]
theorem b_xor (x y : Int32) (i : Nat) : bt (x ^^^ y) i = (bt x i ^^ bt y i) := by unfold bt; rw [Int32.toBitVec_xor, BitVec.getLsbD_xor]
theorem b_big {x : Int32} {i : Nat} (h : 32 ≤ i) : bt x i = false := BitVec.getLsbD_of_ge _ _ h
theorem b_255 (i : Nat) : bt 255 i = decide (i < 8) := by
  rcases Nat.lt_or_ge i 32 with h | h
  · exact (by decide +kernel : ∀ i, i < 32 → bt 255 i = decide (i < 8)) i h
  · rw [b_big h, decide_eq_false (by omega)]
theorem b_65535 (i : Nat) : bt 65535 i = decide (i < 16) := by
  rcases Nat.lt_or_ge i 32 with h | h
  · exact (by decide +kernel : ∀ i, i < 32 → bt 65535 i = decide (i < 16)) i h
  · rw [b_big h, decide_eq_false (by omega)]
theorem b_m1 : ∀ i, i < 32 → bt (-1) i = true := by decide +kernel
theorem b_0 (i : Nat) : bt 0 i = false := BitVec.getLsbD_zero
theorem s_l : ∀ n, n < 32 → ((nI n &&& 31).toBitVec.smod 32).toNat = n := by decide +kernel
theorem s_u : ∀ n, n < 32 → (((nI n).toUInt32 &&& Int32.toUInt32 31).toBitVec % 32).toNat = n := by decide +kernel
theorem b_shl (n : Nat) (hn : n < 32) (x : Int32) {i : Nat} (hi : i < 32) : bt (x <<< (nI n &&& 31)) i = (decide (n ≤ i) && bt x (i - n)) := by
  unfold bt
  rw [Int32.toBitVec_shiftLeft]
  show (x.toBitVec <<< ((nI n &&& 31).toBitVec.smod 32).toNat).getLsbD i = _
  rw [s_l n hn, BitVec.getLsbD_shiftLeft]
  rcases Nat.lt_or_ge i n with h | h
  · simp [h, Nat.not_le.mpr h]
  · simp [hi, h, Nat.not_lt.mpr h]
theorem b_ushr (n : Nat) (hn : n < 32) (x : Int32) (i : Nat) : bt ((x.toUInt32 >>> ((nI n).toUInt32 &&& Int32.toUInt32 31)).toInt32) i = bt x (n + i) := by
  show (x.toUInt32 >>> ((nI n).toUInt32 &&& Int32.toUInt32 31)).toBitVec.getLsbD i = x.toUInt32.toBitVec.getLsbD (n + i)
  rw [UInt32.toBitVec_shiftRight]
  show (x.toUInt32.toBitVec >>> (((nI n).toUInt32 &&& Int32.toUInt32 31).toBitVec % 32).toNat).getLsbD i = _
  rw [s_u n hn, BitVec.getLsbD_ushiftRight]
theorem b_sshr (n : Nat) (hn : n < 32) (x : Int32) {i : Nat} (hi : i < 32) : bt (x >>> (nI n &&& 31)) i = if n + i < 32 then bt x (n + i) else bt x 31 := by
  unfold bt
  rw [Int32.toBitVec_shiftRight]
  show (x.toBitVec.sshiftRight ((nI n &&& 31).toBitVec.smod 32).toNat).getLsbD i = _
  rw [s_l n hn, BitVec.getLsbD_sshiftRight, BitVec.msb_eq_getLsbD_last]
  simp [hi]
theorem b_shl8 (x : Int32) {i : Nat} (hi : i < 32) : bt (x <<< ((8 : Int32) &&& 31)) i = (decide (8 ≤ i) && bt x (i - 8)) := b_shl 8 (by omega) x hi
theorem b_shl16 (x : Int32) {i : Nat} (hi : i < 32) : bt (x <<< ((16 : Int32) &&& 31)) i = (decide (16 ≤ i) && bt x (i - 16)) := b_shl 16 (by omega) x hi
theorem b_shl24 (x : Int32) {i : Nat} (hi : i < 32) : bt (x <<< ((24 : Int32) &&& 31)) i = (decide (24 ≤ i) && bt x (i - 24)) := b_shl 24 (by omega) x hi
theorem b_sshr8 (x : Int32) {i : Nat} (hi : i < 32) : bt (x >>> ((8 : Int32) &&& 31)) i = if 8 + i < 32 then bt x (8 + i) else bt x 31 := b_sshr 8 (by omega) x hi
/-! powers: the class reckons in longs, the other in ints -/
def g_P : Int64 := lN 2147483647
def g_times (a b : Int32) : Int32 := (a.toInt64 * b.toInt64 - a.toInt64 * b.toInt64 / lN 2147483647 * lN 2147483647).toInt32
theorem g_remI (x : Int64) : (x - x / lN 2147483647 * lN 2147483647).toInt = x.toInt.tmod 2147483647 := by
  have hy : (lN 2147483647).toInt = 2147483647 := by decide +kernel
  have hd : (x / lN 2147483647).toInt = x.toInt.tdiv 2147483647 := by rw [Int64.toInt_div_of_ne_right _ _ (by decide +kernel), hy]
  have h1 := Int64.le_toInt x
  have h2 := Int64.toInt_lt x
  have h3 := Int.tmod_add_mul_tdiv x.toInt 2147483647
  have h4 := Int.tmod_lt_of_pos x.toInt (show (0 : Int) < 2147483647 by decide)
  have h5 := Int.lt_tmod_of_pos x.toInt (show (0 : Int) < 2147483647 by decide)
  rw [Int64.toInt_sub, Int64.toInt_mul, hd, hy]
  generalize x.toInt.tmod 2147483647 = r at h3 h4 h5 ⊢
  generalize x.toInt.tdiv 2147483647 = q at h3 ⊢
  generalize x.toInt = X at h1 h2 h3 ⊢
  subst h3
  rw [Int.sub_bmod_bmod, show r + 2147483647 * q - q * 2147483647 = r by omega]
  exact Int.bmod_eq_of_le (by omega) (by omega)
theorem g_rem (x : Int64) : (x - x / lN 2147483647 * lN 2147483647).toInt32.toInt64 = x - x / lN 2147483647 * lN 2147483647 := by
  apply Int64.toInt_inj.mp
  rw [Int32.toInt_toInt64, Int64.toInt_toInt32, g_remI]
  have h4 := Int.tmod_lt_of_pos x.toInt (show (0 : Int) < 2147483647 by decide)
  have h5 := Int.lt_tmod_of_pos x.toInt (show (0 : Int) < 2147483647 by decide)
  exact Int.bmod_eq_of_le (by omega) (by omega)
theorem g_timesL (a b : Int32) : a.toInt64 * b.toInt64 - a.toInt64 * b.toInt64 / lN 2147483647 * lN 2147483647 = (g_times a b).toInt64 := (g_rem _).symm
def g_bk (e : Int32) (k : Nat) : Int32 := (e >>> (nI k &&& 31)) &&& nI 1
theorem g_b1 : ∀ i, i < 32 → bt (nI 1) i = decide (i = 0) := by decide +kernel
theorem g_bit (e : Int32) {k : Nat} (hk : k < 31) : ((e.toUInt32 >>> ((nI k).toUInt32 &&& Int32.toUInt32 31)).toInt32 &&& nI 1) = g_bk e k := by
  apply b_ext
  intro i hi
  unfold g_bk
  rw [b_and, b_and, b_ushr k (by omega), b_sshr k (by omega) e hi, g_b1 i hi]
  by_cases h : i = 0
  · subst h; rw [if_pos (by omega)]
  · simp [h]
def g_pst (e : Int32) (k : Nat) (s : Int32 × Int32) : Int32 × Int32 := (if g_bk e k = nI 1 then g_times s.1 s.2 else s.1, g_times s.2 s.2)
def g_pit (b e : Int32) : Nat → Int32 × Int32
  | 0 => (nI 1, b)
  | k + 1 => g_pst e k (g_pit b e k)
/-- the power, as both reckon it -/
def g_pow (b e : Int32) : Int32 := (g_pit b e 31).1
