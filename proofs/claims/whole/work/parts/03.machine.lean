/-! A machine of the mind over numbered cells: what the bytecode of this claim's classes does, as a transformer of predicates.
    Cells 0, 1, 2 are read only (ZERO, HEAD, the script); cells from 3 on stand in the order of their making. -/
abbrev q_I : Type := Nat → Nat → Int32
abbrev q_L : Type := Nat → Nat → Int64
abbrev q_R : Type := Nat → Nat → Option Nat
abbrev q_M : Type := Nat × q_I × q_L × q_R
abbrev q_K : Type := Nat → List (Option Value) → List Value → q_M → Nat → Nat → Prop
abbrev q_Q : Type := Option Value → q_M → Prop
abbrev q_C : Type := Nat → List Value → q_M → q_Q → Prop
def q_up {α : Type} (f : Nat → Nat → α) (a k : Nat) (v : α) : Nat → Nat → α := va_up f a (va_up (f a) k v)
def q_get : List (Option Value) → Nat → Option Value
  | [], _ => none
  | x :: _, 0 => x
  | _ :: t, n + 1 => q_get t n
def q_clr (x : Option Value) : Option Value := match x with
  | some (.long _) => none
  | some (.double _) => none
  | x => x
def q_s1 : List (Option Value) → Nat → Value → Option (List (Option Value))
  | [], _, _ => none
  | _ :: t, 0, v => some (some v :: t)
  | x :: t, n + 1, v => match n with
    | 0 => (match t with | [] => none | _ :: t' => some (q_clr x :: some v :: t'))
    | _ + 1 => (match q_s1 t n v with | some t' => some (x :: t') | none => none)
def q_s2 (l : List (Option Value)) (i : Nat) (v : Value) : Option (List (Option Value)) := match q_s1 l i v with
  | some l1 => (match Nat.blt (i + 1) l1.length with | true => some (l1.set (i + 1) none) | false => none)
  | none => none
def q_tg (pc : Nat) (off : Int) : Nat := ((pc : Int) + off).toNat
/-- the instructions that neither branch nor touch the cells -/
def q_pure (own pc : Nat) (i : Instr) (ls : List (Option Value)) (st : List Value) : Option (Nat × List (Option Value) × List Value) := match i with
  | .iconst n => some (pc + 1, ls, .int (q_c n) :: st)
  | .bipush n => some (pc + 2, ls, .int (q_c n) :: st)
  | .sipush n => some (pc + 3, ls, .int (q_c n) :: st)
  | .lconst n => some (pc + 1, ls, .long (lN n.val) :: st)
  | .ldc x => (match q_ci own x with | some v => some (pc + 2, ls, .int v :: st) | none => none)
  | .ldc_w x => (match q_ci own x with | some v => some (pc + 3, ls, .int v :: st) | none => none)
  | .ldc2_w x => (match q_cl own x with | some v => some (pc + 3, ls, .long v :: st) | none => none)
  | .iload_n k => (match q_get ls k.val with | some (.int x) => some (pc + 1, ls, .int x :: st) | _ => none)
  | .iload k => (match q_get ls k with | some (.int x) => some (pc + 2, ls, .int x :: st) | _ => none)
  | .lload_n k => (match q_get ls k.val with | some (.long x) => some (pc + 1, ls, .long x :: st) | _ => none)
  | .lload k => (match q_get ls k with | some (.long x) => some (pc + 2, ls, .long x :: st) | _ => none)
  | .aload_n k => (match q_get ls k.val with | some (.ref x) => some (pc + 1, ls, .ref x :: st) | _ => none)
  | .aload k => (match q_get ls k with | some (.ref x) => some (pc + 2, ls, .ref x :: st) | _ => none)
  | .istore_n k => (match st with | .int x :: r => (match q_s1 ls k.val (.int x) with | some l => some (pc + 1, l, r) | none => none) | _ => none)
  | .istore k => (match st with | .int x :: r => (match q_s1 ls k (.int x) with | some l => some (pc + 2, l, r) | none => none) | _ => none)
  | .lstore_n k => (match st with | .long x :: r => (match q_s2 ls k.val (.long x) with | some l => some (pc + 1, l, r) | none => none) | _ => none)
  | .lstore k => (match st with | .long x :: r => (match q_s2 ls k (.long x) with | some l => some (pc + 2, l, r) | none => none) | _ => none)
  | .astore_n k => (match st with | .ref x :: r => (match q_s1 ls k.val (.ref x) with | some l => some (pc + 1, l, r) | none => none) | _ => none)
  | .astore k => (match st with | .ref x :: r => (match q_s1 ls k (.ref x) with | some l => some (pc + 2, l, r) | none => none) | _ => none)
  | .iinc k n => (match q_get ls k with | some (.int x) => (match q_s1 ls k (.int (x + q_c n)) with | some l => some (pc + 3, l, st) | none => none) | _ => none)
  | .iadd => (match st with | .int y :: .int x :: r => some (pc + 1, ls, .int (x + y) :: r) | _ => none)
  | .isub => (match st with | .int y :: .int x :: r => some (pc + 1, ls, .int (x - y) :: r) | _ => none)
  | .imul => (match st with | .int y :: .int x :: r => some (pc + 1, ls, .int (x * y) :: r) | _ => none)
  | .iand => (match st with | .int y :: .int x :: r => some (pc + 1, ls, .int (x &&& y) :: r) | _ => none)
  | .ior => (match st with | .int y :: .int x :: r => some (pc + 1, ls, .int (x ||| y) :: r) | _ => none)
  | .ixor => (match st with | .int y :: .int x :: r => some (pc + 1, ls, .int (x ^^^ y) :: r) | _ => none)
  | .ishl => (match st with | .int y :: .int x :: r => some (pc + 1, ls, .int (x <<< (y &&& 31)) :: r) | _ => none)
  | .ishr => (match st with | .int y :: .int x :: r => some (pc + 1, ls, .int (x >>> (y &&& 31)) :: r) | _ => none)
  | .iushr => (match st with | .int y :: .int x :: r => some (pc + 1, ls, .int (x.toUInt32 >>> (y.toUInt32 &&& Int32.toUInt32 31)).toInt32 :: r) | _ => none)
  | .ladd => (match st with | .long y :: .long x :: r => some (pc + 1, ls, .long (x + y) :: r) | _ => none)
  | .lmul => (match st with | .long y :: .long x :: r => some (pc + 1, ls, .long (x * y) :: r) | _ => none)
  | .land => (match st with | .long y :: .long x :: r => some (pc + 1, ls, .long (x &&& y) :: r) | _ => none)
  | .lor => (match st with | .long y :: .long x :: r => some (pc + 1, ls, .long (x ||| y) :: r) | _ => none)
  | .lxor => (match st with | .long y :: .long x :: r => some (pc + 1, ls, .long (x ^^^ y) :: r) | _ => none)
  | .lshl => (match st with | .int y :: .long x :: r => some (pc + 1, ls, .long (x <<< (y.toInt64 &&& 63)) :: r) | _ => none)
  | .lshr => (match st with | .int y :: .long x :: r => some (pc + 1, ls, .long (x >>> (y.toInt64 &&& 63)) :: r) | _ => none)
  | .lushr => (match st with | .int y :: .long x :: r => some (pc + 1, ls, .long (x.toUInt64 >>> (y.toInt64.toUInt64 &&& Int64.toUInt64 63)).toInt64 :: r) | _ => none)
  | .lcmp => (match st with | .long y :: .long x :: r => some (pc + 1, ls, .int (lg_cmp x y) :: r) | _ => none)
  | .i2l => (match st with | .int x :: r => some (pc + 1, ls, .long x.toInt64 :: r) | _ => none)
  | .l2i => (match st with | .long x :: r => some (pc + 1, ls, .int x.toInt32 :: r) | _ => none)
  | .dup => (match st with | v :: r => (match v.category with | 1 => some (pc + 1, ls, v :: v :: r) | _ => none) | _ => none)
  | .dup2 => (match st with
    | v :: w :: r => (match v.category with
      | 1 => (match w.category with | 1 => some (pc + 1, ls, v :: w :: v :: w :: r) | _ => none)
      | _ => none)
    | _ => none)
  | .goto off => some (q_tg pc off, ls, st)
  | .getstatic x => (match q_sr own x with | some a => some (pc + 3, ls, .ref a :: st) | none => none)
  | _ => none
def q_sw (K : Nat → Prop) (pc : Nat) (x : Int32) : Int → List Int → Prop
  | _, [] => True
  | lo, o :: t => (x.toInt = lo → K (q_tg pc o)) ∧ q_sw K pc x (lo + 1) t
/-- an object of the class ci; an array of the kind t -/
def q_ob (n a ci : Nat) : Prop := a < n ∧ q_kd a = (8, ci)
def q_ar (n a t len : Nat) : Prop := 2 < a ∧ a < n ∧ q_kd a = (t, len)
def q_ai (L n a len : Nat) : Prop := q_ar n a 0 len ∨ (a = 2 ∧ len = L)
def q_ac0 (n a len : Nat) : Prop := q_ar n a 0 len ∨ (a = 0 ∧ len = 8) ∨ (a = 1 ∧ len = 4)
def q_cp (sp dp n : Int32) (n0 n1 : Nat) : Prop := ¬ sp < 0 ∧ ¬ dp < 0 ∧ ¬ n < 0 ∧ sp.toNatClampNeg + n.toNatClampNeg ≤ n0 ∧ dp.toNatClampNeg + n.toNatClampNeg ≤ n1
def q_cat (st : List Value) : Nat := match st with
  | [] => 0
  | v :: r => v.category + q_cat r
/-- the topmost k of the stack, lowest first, and the rest -/
def q_spl : Nat → List Value → List Value → Option (List Value × List Value)
  | 0, acc, st => some (acc, st)
  | k + 1, acc, v :: st => q_spl k (v :: acc) st
  | _ + 1, _, [] => none
def q_bz (x : Int32) : Prop := x = 0 ∨ x = 1
def q_tagOf (t : ArrayType) : Option Nat := match t with
  | .int => some 0
  | .long => some 1
  | .boolean => some 2
  | _ => none
def q_do (own : Nat) (cap : Nat × Nat) (call : q_C) (K : q_K) (pc mi : Nat) (as rest : List Value) (ls : List (Option Value)) (μ : q_M) (uc us : Nat) : Prop :=
  match Nat.ble (q_cat rest) 8 with
  | true => (match q_al mi with
    | none => call mi as μ (fun r μ' => K (pc + 3) ls (r.toList ++ rest) μ' uc us)
    | some (ac, ax) => (uc + ac ≤ cap.1 ∧ us + ax ≤ cap.2) ∧ call mi as μ (fun r μ' => K (pc + 3) ls (r.toList ++ rest) μ' (uc + ac) (us + ax)))
  | false => False
def q_eff (L own rt : Nat) (ini : Bool) (cap : Nat × Nat) (call : q_C) (Q : q_Q) (K : q_K) (pc : Nat) (i : Instr) (ls : List (Option Value)) (st : List Value) (μ : q_M) (uc us : Nat) : Prop := match i with
  | .irem => (match st with | .int y :: .int x :: r => ¬ y = 0 ∧ K (pc + 1) ls (.int (x - x / y * y) :: r) μ uc us | _ => False)
  | .lrem => (match st with | .long y :: .long x :: r => ¬ y = 0 ∧ K (pc + 1) ls (.long (x - x / y * y) :: r) μ uc us | _ => False)
  | .ifCond c off => (match st with
    | .int x :: r => (match c with
      | .eq => (x = 0 → K (q_tg pc off) ls r μ uc us) ∧ (¬ x = 0 → K (pc + 3) ls r μ uc us)
      | .ne => (¬ x = 0 → K (q_tg pc off) ls r μ uc us) ∧ (x = 0 → K (pc + 3) ls r μ uc us)
      | .lt => (x < 0 → K (q_tg pc off) ls r μ uc us) ∧ (¬ x < 0 → K (pc + 3) ls r μ uc us)
      | .ge => (0 ≤ x → K (q_tg pc off) ls r μ uc us) ∧ (¬ 0 ≤ x → K (pc + 3) ls r μ uc us)
      | .gt => (0 < x → K (q_tg pc off) ls r μ uc us) ∧ (¬ 0 < x → K (pc + 3) ls r μ uc us)
      | .le => (x ≤ 0 → K (q_tg pc off) ls r μ uc us) ∧ (¬ x ≤ 0 → K (pc + 3) ls r μ uc us))
    | _ => False)
  | .if_icmp c off => (match st with
    | .int y :: .int x :: r => (match c with
      | .eq => (x = y → K (q_tg pc off) ls r μ uc us) ∧ (¬ x = y → K (pc + 3) ls r μ uc us)
      | .ne => (¬ x = y → K (q_tg pc off) ls r μ uc us) ∧ (x = y → K (pc + 3) ls r μ uc us)
      | .lt => (x < y → K (q_tg pc off) ls r μ uc us) ∧ (¬ x < y → K (pc + 3) ls r μ uc us)
      | .ge => (y ≤ x → K (q_tg pc off) ls r μ uc us) ∧ (¬ y ≤ x → K (pc + 3) ls r μ uc us)
      | .gt => (y < x → K (q_tg pc off) ls r μ uc us) ∧ (¬ y < x → K (pc + 3) ls r μ uc us)
      | .le => (x ≤ y → K (q_tg pc off) ls r μ uc us) ∧ (¬ x ≤ y → K (pc + 3) ls r μ uc us))
    | _ => False)
  | .tableswitch dflt lo hi offs => (match st with
    | .int x :: r => (x.toInt < lo ∨ hi < x.toInt → K (q_tg pc dflt) ls r μ uc us) ∧ q_sw (fun t => K t ls r μ uc us) pc x lo offs.toList
    | _ => False)
  | .getfield x => (match q_fr own x with
    | some (ci, k, ty, _) => (match st with
      | .ref a :: r => q_ob μ.1 a ci ∧ (match ty with
        | 0 => K (pc + 3) ls (.int (μ.2.1 a k) :: r) μ uc us
        | 1 => K (pc + 3) ls (.int (μ.2.1 a k) :: r) μ uc us
        | 2 => K (pc + 3) ls (.long (μ.2.2.1 a k) :: r) μ uc us
        | _ => ∃ b, μ.2.2.2 a k = some b ∧ K (pc + 3) ls (.ref b :: r) μ uc us)
      | _ => False)
    | none => False)
  | .putfield x => (match q_fr own x with
    | some (ci, k, ty, fin) => (match !fin || (ini && Nat.beq own ci) with
      | true => (match ty with
        | 0 => (match st with | .int v :: .ref a :: r => q_ob μ.1 a ci ∧ K (pc + 3) ls r (μ.1, q_up μ.2.1 a k v, μ.2.2.1, μ.2.2.2) uc us | _ => False)
        | 1 => (match st with | .int v :: .ref a :: r => q_ob μ.1 a ci ∧ q_bz v ∧ K (pc + 3) ls r (μ.1, q_up μ.2.1 a k v, μ.2.2.1, μ.2.2.2) uc us | _ => False)
        | 2 => (match st with | .long v :: .ref a :: r => q_ob μ.1 a ci ∧ K (pc + 3) ls r (μ.1, μ.2.1, q_up μ.2.2.1 a k v, μ.2.2.2) uc us | _ => False)
        | _ => (match st with | .ref b :: .ref a :: r => q_ob μ.1 a ci ∧ K (pc + 3) ls r (μ.1, μ.2.1, μ.2.2.1, q_up μ.2.2.2 a k (some b)) uc us | _ => False))
      | false => False)
    | none => False)
  | .iaload => (match st with | .int j :: .ref a :: r => ∃ len, q_ai L μ.1 a len ∧ vp_in j len ∧ K (pc + 1) ls (.int (μ.2.1 a j.toNatClampNeg) :: r) μ uc us | _ => False)
  | .laload => (match st with | .int j :: .ref a :: r => ∃ len, q_ar μ.1 a 1 len ∧ vp_in j len ∧ K (pc + 1) ls (.long (μ.2.2.1 a j.toNatClampNeg) :: r) μ uc us | _ => False)
  | .baload => (match st with | .int j :: .ref a :: r => ∃ len, q_ar μ.1 a 2 len ∧ vp_in j len ∧ K (pc + 1) ls (.int (μ.2.1 a j.toNatClampNeg) :: r) μ uc us | _ => False)
  | .aaload => (match st with | .int j :: .ref a :: r => ∃ t len b, (q_ar μ.1 a t len ∧ 3 ≤ t ∧ t ≤ 7) ∧ vp_in j len ∧ μ.2.2.2 a j.toNatClampNeg = some b ∧ K (pc + 1) ls (.ref b :: r) μ uc us | _ => False)
  | .iastore => (match st with | .int v :: .int j :: .ref a :: r => ∃ len, q_ar μ.1 a 0 len ∧ vp_in j len ∧ K (pc + 1) ls r (μ.1, q_up μ.2.1 a j.toNatClampNeg v, μ.2.2.1, μ.2.2.2) uc us | _ => False)
  | .lastore => (match st with | .long v :: .int j :: .ref a :: r => ∃ len, q_ar μ.1 a 1 len ∧ vp_in j len ∧ K (pc + 1) ls r (μ.1, μ.2.1, q_up μ.2.2.1 a j.toNatClampNeg v, μ.2.2.2) uc us | _ => False)
  | .bastore => (match st with | .int v :: .int j :: .ref a :: r => ∃ len, q_ar μ.1 a 2 len ∧ vp_in j len ∧ q_bz v ∧ K (pc + 1) ls r (μ.1, q_up μ.2.1 a j.toNatClampNeg v, μ.2.2.1, μ.2.2.2) uc us | _ => False)
  | .aastore => (match st with | .ref b :: .int j :: .ref a :: r => ∃ t len, (q_ar μ.1 a t len ∧ 3 ≤ t ∧ t ≤ 6) ∧ q_ob μ.1 b (q_el t) ∧ vp_in j len ∧ K (pc + 1) ls r (μ.1, μ.2.1, μ.2.2.1, q_up μ.2.2.2 a j.toNatClampNeg (some b)) uc us | _ => False)
  | .arraylength => (match st with | .ref a :: r => a = 2 ∧ K (pc + 1) ls (.int (nI L) :: r) μ uc us | _ => False)
  | .new x => (match q_cr own x with
    | some ci => q_kd μ.1 = (8, ci) ∧ (uc + 1 ≤ cap.1 ∧ us + q_nf ci ≤ cap.2) ∧
        K (pc + 3) ls (.ref μ.1 :: st) (μ.1 + 1, va_up μ.2.1 μ.1 (fun _ => 0), va_up μ.2.2.1 μ.1 (fun _ => 0), va_up μ.2.2.2 μ.1 (fun _ => none)) (uc + 1) (us + q_nf ci)
    | none => False)
  | .newarray t => (match q_tagOf t with
    | some tg => (match st with
      | .int v :: r => ∃ N, (q_kd μ.1 = (tg, N) ∧ ¬ v < 0 ∧ v.toNatClampNeg = N ∧ N ≤ 10000) ∧ (uc + 1 ≤ cap.1 ∧ us + N ≤ cap.2) ∧
          K (pc + 2) ls (.ref μ.1 :: r) (μ.1 + 1, va_up μ.2.1 μ.1 (fun _ => 0), va_up μ.2.2.1 μ.1 (fun _ => 0), μ.2.2.2) (uc + 1) (us + N)
      | _ => False)
    | none => False)
  | .anewarray x => (match q_cr own x with
    | some ci => (match st with
      | .int v :: r => ∃ t N, (q_kd μ.1 = (t, N) ∧ 3 ≤ t ∧ t ≤ 6 ∧ q_el t = ci ∧ ¬ v < 0 ∧ v.toNatClampNeg = N ∧ N ≤ 10000) ∧ (uc + 1 ≤ cap.1 ∧ us + N ≤ cap.2) ∧
          K (pc + 3) ls (.ref μ.1 :: r) (μ.1 + 1, μ.2.1, μ.2.2.1, va_up μ.2.2.2 μ.1 (fun _ => none)) (uc + 1) (us + N)
      | _ => False)
    | none => False)
  | .multianewarray x y => (match Nat.beq own 7 && Nat.beq x 28 && Nat.beq y 2 with
    | true => (match st with
      | .int m :: .int n :: r => ∃ N M, (n = nI N ∧ m = nI M ∧ N ≤ 1000 ∧ M ≤ 1000) ∧ (q_kd μ.1 = (7, N) ∧ ∀ j, j < N → q_kd (μ.1 + 1 + j) = (1, M)) ∧ (uc + (N + 1) ≤ cap.1 ∧ us + (N + N * M) ≤ cap.2) ∧
          K (pc + 4) ls (.ref μ.1 :: r) (μ.1 + (N + 1), μ.2.1, (fun a => if μ.1 < a ∧ a < μ.1 + (N + 1) then (fun _ => 0) else μ.2.2.1 a), va_up μ.2.2.2 μ.1 (fun j => some (μ.1 + 1 + j))) (uc + (N + 1)) (us + (N + N * M))
      | _ => False)
    | false => False)
  | .invokevirtual x => (match q_mr own x with
    | some (mi, na, 0) => (match q_spl na [] st with
      | some (as, rest) => (match as with
        | .ref b :: _ => q_ob μ.1 b (q_mc mi) ∧ q_do own cap call K pc mi as rest ls μ uc us
        | _ => False)
      | none => False)
    | _ => False)
  | .invokespecial x => (match q_mr own x with
    | some (mi, na, 1) => (match q_spl na [] st with
      | some (as, rest) => (match as with
        | .ref _ :: _ => q_do own cap call K pc mi as rest ls μ uc us
        | _ => False)
      | none => False)
    | some (_, _, 3) => (match st with | .ref _ :: r => (match Nat.ble (q_cat r) 8 with | true => K (pc + 3) ls r μ uc us | false => False) | _ => False)
    | _ => False)
  | .invokestatic x => (match q_mr own x with
    | some (mi, na, 2) => (match q_spl na [] st with
      | some (as, rest) => q_do own cap call K pc mi as rest ls μ uc us
      | none => False)
    | some (_, _, 4) => (match st with
      | .int n :: .int dp :: .ref a :: .int sp :: .ref a0 :: r => (match Nat.ble (q_cat r) 8 with
        | true => (∃ n0 n1, q_ac0 μ.1 a0 n0 ∧ q_ar μ.1 a 0 n1 ∧ q_cp sp dp n n0 n1 ∧ K (pc + 3) ls r (μ.1, va_up μ.2.1 a (va_cpy (μ.2.1 a0) (μ.2.1 a) sp.toNatClampNeg dp.toNatClampNeg n.toNatClampNeg), μ.2.2.1, μ.2.2.2) uc us) ∨
            (∃ n0 n1, q_ar μ.1 a0 1 n0 ∧ q_ar μ.1 a 1 n1 ∧ q_cp sp dp n n0 n1 ∧ K (pc + 3) ls r (μ.1, μ.2.1, va_up μ.2.2.1 a (va_cpy (μ.2.2.1 a0) (μ.2.2.1 a) sp.toNatClampNeg dp.toNatClampNeg n.toNatClampNeg), μ.2.2.2) uc us)
        | false => False)
      | _ => False)
    | some (_, _, 5) => (match st with | .int y :: .int x :: r => (match Nat.ble (q_cat r) 8 with | true => K (pc + 3) ls (.int (if y < x then y else x) :: r) μ uc us | false => False) | _ => False)
    | _ => False)
  | .ireturn => (match st with
    | [.int v] => (match rt with | 1 => Q (some (.int v)) μ | 2 => q_bz v ∧ Q (some (.int v)) μ | _ => False)
    | _ => False)
  | .lreturn => (match st with | [.long v] => (match rt with | 3 => Q (some (.long v)) μ | _ => False) | _ => False)
  | .areturn => (match st with | [.ref v] => (match rt with | 4 => Q (some (.ref v)) μ | _ => False) | _ => False)
  | .return_ => (match st with | [] => (match rt with | 0 => Q none μ | _ => False) | _ => False)
  | _ => False
/-- a step at the place pc of the method's code -/
def q_stp (L own rt : Nat) (ini : Bool) (cap : Nat × Nat) (code : Nat → Option Instr) (call : q_C) (Q : q_Q) (K : q_K) : q_K := fun pc ls st μ uc us => match code pc with
  | none => False
  | some i => (match q_pure own pc i ls st with
    | some (pc', ls', st') => K pc' ls' st' μ uc us
    | none => q_eff L own rt ini cap call Q K pc i ls st μ uc us)
/-- the least predicate that the steps keep -/
def q_WP (L own rt : Nat) (ini : Bool) (cap : Nat × Nat) (code : Nat → Option Instr) (call : q_C) (Q : q_Q) : q_K := fun pc ls st μ uc us =>
  ∀ X : q_K, (∀ pc ls st μ uc us, q_stp L own rt ini cap code call Q X pc ls st μ uc us → X pc ls st μ uc us) → X pc ls st μ uc us
def q_it (L own rt : Nat) (ini : Bool) (cap : Nat × Nat) (code : Nat → Option Instr) (call : q_C) (Q : q_Q) (K : q_K) : Nat → q_K
  | 0 => K
  | n + 1 => q_stp L own rt ini cap code call Q (q_it L own rt ini cap code call Q K n)
def q_mono (call : q_C) : Prop := ∀ mi as μ (Q Q' : q_Q), (∀ r μ, Q r μ → Q' r μ) → call mi as μ Q → call mi as μ Q'
abbrev q_MI : Type := MethodName × ByteArray × Nat × Option FieldType × Nat × Nat × Bool × (Nat → Option Instr)
