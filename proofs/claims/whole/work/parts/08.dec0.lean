/-- the length of an instruction -/
def q_len (i : Instr) : Nat := match i with
  | .bipush _ => 2
  | .sipush _ => 3
  | .ldc _ => 2
  | .ldc_w _ => 3
  | .ldc2_w _ => 3
  | .iload _ => 2
  | .lload _ => 2
  | .aload _ => 2
  | .istore _ => 2
  | .lstore _ => 2
  | .astore _ => 2
  | .iinc _ _ => 3
  | .goto _ => 3
  | .getstatic _ => 3
  | .getfield _ => 3
  | .putfield _ => 3
  | .ifCond _ _ => 3
  | .if_icmp _ _ => 3
  | .new _ => 3
  | .newarray _ => 2
  | .anewarray _ => 3
  | .multianewarray _ _ => 4
  | .invokevirtual _ => 3
  | .invokespecial _ => 3
  | .invokestatic _ => 3
  | _ => 1
def q_jmp (pc : Nat) (off : Int) : Bool := decide (0 ≤ (pc : Int) + off)
/-- what a program decides of an instruction at its place -/
def q_ok (pc : Nat) (i : Instr) : Bool := match i with
  | .iconst n => decide (Int32.ofInt n = q_c n)
  | .bipush n => decide ((Int8.ofInt n).toInt32 = q_c n)
  | .sipush n => decide ((Int16.ofInt n).toInt32 = q_c n)
  | .iinc _ n => decide (Int32.ofInt n = q_c n)
  | .goto off => q_jmp pc off
  | .ifCond _ off => q_jmp pc off
  | .if_icmp _ off => q_jmp pc off
  | .tableswitch d lo hi offs => q_jmp pc d && offs.toList.all (q_jmp pc) && decide (hi - lo + 1 = (offs.size : Int))
  | _ => true
def q_lk (i : Instr) (len : Nat) : Bool := match i with
  | .tableswitch _ _ _ _ => true
  | _ => Nat.beq len (q_len i)
def q_dec (bytes : ByteArray) (pc : Nat) (i : Instr) : Bool := match decode bytes pc with
  | .ok (j, len) => decide (j = i) && q_lk i len && q_ok pc i
  | .error _ => false
