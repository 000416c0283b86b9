/-! THE SMALL MACHINE: what a frame of the claim's own classes does over a heap of one shape. A cell is named by its place (0 .. 82), a reference is a place, the heap is σ: σ q k the number in cell q at k. -/
abbrev mm_Sg : Type := Nat → Nat → Int32
abbrev mm_St : Type := Nat × List Value × List Value × mm_Sg
abbrev mm_En : Type := Nat × Instr × List Nat × Value
abbrev mm_Me : Type := MethodName × ByteArray × Nat × Option FieldType × Nat × List mm_En × List Nat
def mm_u (σ : mm_Sg) (q k : Nat) (x : Int32) : mm_Sg := fun a j => if a = q then (if j = k then x else σ a j) else σ a j
/-- the class of a place (12: no object) -/
def mm_cl (q : Nat) : Nat := ([10, 12, 4, 3, 0, 6, 2, 5, 9, 7, 1, 12, 12, 12, 12, 12, 12, 1, 12, 12, 12, 12, 12, 12, 1, 12, 12, 12, 12, 12, 12, 12, 8, 12, 8, 12, 8, 12, 8, 12, 8, 12, 8, 12, 8, 12, 8, 12, 12, 12, 12, 11, 12, 12, 12, 12, 12, 12, 12, 12, 12, 12, 12, 12, 12, 12, 4, 3, 0, 6, 2, 5, 9, 7, 12, 4, 3, 0, 6, 2, 5, 9, 7] : List Nat).getD q 12
/-- how long the row of numbers at a place is -/
def mm_len (q : Nat) : Nat := ([0, 0, 0, 0, 0, 0, 0, 0, 0, 0, 0, 7, 7, 7, 7, 5, 7, 0, 7, 7, 7, 7, 5, 7, 0, 7, 7, 7, 7, 5, 7, 0, 0, 100, 0, 100, 0, 100, 0, 100, 0, 100, 0, 100, 0, 100, 0, 100, 256, 100, 8, 0, 40, 40, 40, 40, 7, 3, 256, 8, 8, 8, 8, 8, 800, 0, 0, 0, 0, 0, 0, 0, 0, 0, 0, 0, 0, 0, 0, 0, 0, 0, 0] : List Nat).getD q 0
/-- the row of kinds of a Camp -/
def mm_kr (q : Nat) : Nat := bif Nat.beq q 17 then 65 else bif Nat.beq q 24 then 74 else 1
def mm_el (q i : Nat) : Nat := bif Nat.beq q 31 then 32 + 2 * i else q + 1 + i
def mm_rf (ci k q : Nat) : Option Nat := match ci, k with
  | 10, 0 => some 10 | 10, 1 => some 17 | 10, 2 => some 24 | 10, 3 => some 31 | 10, 4 => some 48 | 10, 5 => some 49 | 10, 6 => some 50
  | 1, 0 => some (mm_kr q) | 1, 1 => some (q + 1) | 1, 2 => some (q + 2) | 1, 3 => some (q + 3) | 1, 4 => some (q + 4) | 1, 5 => some (q + 5) | 1, 10 => some (q + 6)
  | 8, 5 => some (q + 1)
  | 11, 0 => some 52 | 11, 1 => some 53 | 11, 2 => some 54 | 11, 3 => some 55 | 11, 4 => some 56 | 11, 9 => some 57 | 11, 10 => some 58 | 11, 12 => some 59 | 11, 13 => some 60 | 11, 14 => some 61 | 11, 15 => some 62 | 11, 16 => some 63 | 11, 17 => some 64
  | _, _ => none
def mm_fv (ci k q : Nat) (σ : mm_Sg) : Value := match mm_rf ci k q with
  | some r => .ref r
  | none => .int (σ q k)
def mm_fz (ci k : Nat) : Bool := (ci == 10 && k == 7) || (ci == 11 && k == 5)
def mm_pl (lv : List Value) (i : Nat) : Bool := match i with
  | 0 => false
  | j + 1 => match lv[j]? with
    | some (.long _) => true
    | some (.double _) => true
    | _ => false
def mm_ss (st : List Value) : Nat := (st.map fun v => v.category).sum
def mm_tsw (y : Int32) (d : Nat) : Nat → List Nat → Nat
  | _, [] => d
  | lo, t :: r => if y = nI lo then t else mm_tsw y d (lo + 1) r
def mm_lsw (y : Int32) (d : Nat) : List Nat → Nat
  | k :: t :: r => if y = nI k then t else mm_lsw y d r
  | _ => d
def mm_cp (σ : mm_Sg) (a0 sp a dp n : Nat) : mm_Sg := fun q => if q = a then va_cpy (σ a0) (σ a) sp dp n else σ q
def mm_ex (i : Instr) (x : List Nat) (v : Value) (pc : Nat) (lv st : List Value) (σ : mm_Sg) : Option (mm_St × List Prop) :=
  match i with
  | .iconst _ => some ((pc + 1, lv, v :: st, σ), [])
  | .lconst _ => some ((pc + 1, lv, v :: st, σ), [])
  | .bipush _ => some ((pc + 2, lv, v :: st, σ), [])
  | .sipush _ => some ((pc + 3, lv, v :: st, σ), [])
  | .ldc _ => some ((pc + 2, lv, v :: st, σ), [])
  | .ldc_w _ => some ((pc + 3, lv, v :: st, σ), [])
  | .ldc2_w _ => some ((pc + 3, lv, v :: st, σ), [])
  | .iload_n _ => match x with
    | [i] => match lv[i]? with
      | some (.int y) => some ((pc + 1, lv, .int y :: st, σ), [])
      | _ => none
    | _ => none
  | .iload _ => match x with
    | [i] => match lv[i]? with
      | some (.int y) => some ((pc + 2, lv, .int y :: st, σ), [])
      | _ => none
    | _ => none
  | .lload_n _ => match x with
    | [i] => match lv[i]? with
      | some (.long y) => some ((pc + 1, lv, .long y :: st, σ), [])
      | _ => none
    | _ => none
  | .lload _ => match x with
    | [i] => match lv[i]? with
      | some (.long y) => some ((pc + 2, lv, .long y :: st, σ), [])
      | _ => none
    | _ => none
  | .aload_n _ => match x with
    | [i] => match lv[i]? with
      | some (.ref y) => some ((pc + 1, lv, .ref y :: st, σ), [])
      | _ => none
    | _ => none
  | .aload _ => match x with
    | [i] => match lv[i]? with
      | some (.ref y) => some ((pc + 2, lv, .ref y :: st, σ), [])
      | _ => none
    | _ => none
  | .istore_n _ => match x, st with
    | [i], .int y :: r => bif Nat.blt i lv.length && !(mm_pl lv i) then some ((pc + 1, lv.set i (.int y), r, σ), []) else none
    | _, _ => none
  | .istore _ => match x, st with
    | [i], .int y :: r => bif Nat.blt i lv.length && !(mm_pl lv i) then some ((pc + 2, lv.set i (.int y), r, σ), []) else none
    | _, _ => none
  | .astore_n _ => match x, st with
    | [i], .ref y :: r => bif Nat.blt i lv.length && !(mm_pl lv i) then some ((pc + 1, lv.set i (.ref y), r, σ), []) else none
    | _, _ => none
  | .astore _ => match x, st with
    | [i], .ref y :: r => bif Nat.blt i lv.length && !(mm_pl lv i) then some ((pc + 2, lv.set i (.ref y), r, σ), []) else none
    | _, _ => none
  | .lstore_n _ => match x, st with
    | [i], .long y :: r => bif Nat.blt (i + 1) lv.length && !(mm_pl lv i) then some ((pc + 1, (lv.set i (.long y)).set (i + 1) .null, r, σ), []) else none
    | _, _ => none
  | .lstore _ => match x, st with
    | [i], .long y :: r => bif Nat.blt (i + 1) lv.length && !(mm_pl lv i) then some ((pc + 2, (lv.set i (.long y)).set (i + 1) .null, r, σ), []) else none
    | _, _ => none
  | .iinc _ _ => match x, v with
    | [i], .int c => match lv[i]? with
      | some (.int y) => bif !(mm_pl lv i) then some ((pc + 3, lv.set i (.int (y + c)), st, σ), []) else none
      | _ => none
    | _, _ => none
  | .iadd => match st with
    | .int b :: .int a :: r => some ((pc + 1, lv, .int (a + b) :: r, σ), [])
    | _ => none
  | .isub => match st with
    | .int b :: .int a :: r => some ((pc + 1, lv, .int (a - b) :: r, σ), [])
    | _ => none
  | .imul => match st with
    | .int b :: .int a :: r => some ((pc + 1, lv, .int (a * b) :: r, σ), [])
    | _ => none
  | .iand => match st with
    | .int b :: .int a :: r => some ((pc + 1, lv, .int (a &&& b) :: r, σ), [])
    | _ => none
  | .ior => match st with
    | .int b :: .int a :: r => some ((pc + 1, lv, .int (a ||| b) :: r, σ), [])
    | _ => none
  | .ixor => match st with
    | .int b :: .int a :: r => some ((pc + 1, lv, .int (a ^^^ b) :: r, σ), [])
    | _ => none
  | .ishl => match st with
    | .int b :: .int a :: r => some ((pc + 1, lv, .int (a <<< (b &&& 31)) :: r, σ), [])
    | _ => none
  | .ishr => match st with
    | .int b :: .int a :: r => some ((pc + 1, lv, .int (a >>> (b &&& 31)) :: r, σ), [])
    | _ => none
  | .iushr => match st with
    | .int b :: .int a :: r => some ((pc + 1, lv, .int ((a.toUInt32 >>> (b.toUInt32 &&& Int32.toUInt32 31)).toInt32) :: r, σ), [])
    | _ => none
  | .idiv => match st with
    | .int b :: .int a :: r => some ((pc + 1, lv, .int (a / b) :: r, σ), [¬ b = 0])
    | _ => none
  | .irem => match st with
    | .int b :: .int a :: r => some ((pc + 1, lv, .int (a - a / b * b) :: r, σ), [¬ b = 0])
    | _ => none
  | .ladd => match st with
    | .long b :: .long a :: r => some ((pc + 1, lv, .long (a + b) :: r, σ), [])
    | _ => none
  | .lsub => match st with
    | .long b :: .long a :: r => some ((pc + 1, lv, .long (a - b) :: r, σ), [])
    | _ => none
  | .lmul => match st with
    | .long b :: .long a :: r => some ((pc + 1, lv, .long (a * b) :: r, σ), [])
    | _ => none
  | .ldiv => match st with
    | .long b :: .long a :: r => some ((pc + 1, lv, .long (a / b) :: r, σ), [¬ b = 0])
    | _ => none
  | .lrem => match st with
    | .long b :: .long a :: r => some ((pc + 1, lv, .long (a - a / b * b) :: r, σ), [¬ b = 0])
    | _ => none
  | .lcmp => match st with
    | .long b :: .long a :: r => some ((pc + 1, lv, .int (lg_cmp a b) :: r, σ), [])
    | _ => none
  | .i2l => match st with
    | .int a :: r => some ((pc + 1, lv, .long a.toInt64 :: r, σ), [])
    | _ => none
  | .i2b => match st with
    | .int a :: r => some ((pc + 1, lv, .int a.toInt8.toInt32 :: r, σ), [])
    | _ => none
  | .i2s => match st with
    | .int a :: r => some ((pc + 1, lv, .int a.toInt16.toInt32 :: r, σ), [])
    | _ => none
  | .dup => match st with
    | .int a :: r => some ((pc + 1, lv, .int a :: .int a :: r, σ), [])
    | .ref a :: r => some ((pc + 1, lv, .ref a :: .ref a :: r, σ), [])
    | _ => none
  | .dup2 => match st with
    | .int a :: .int b :: r => some ((pc + 1, lv, .int a :: .int b :: .int a :: .int b :: r, σ), [])
    | .int a :: .ref b :: r => some ((pc + 1, lv, .int a :: .ref b :: .int a :: .ref b :: r, σ), [])
    | _ => none
  | .goto _ => match x with
    | [t] => some ((t, lv, st, σ), [])
    | _ => none
  | .ifCond .eq _ => match x, st with
    | [t], .int a :: r => some ((if a = 0 then t else pc + 3, lv, r, σ), [])
    | _, _ => none
  | .ifCond .ne _ => match x, st with
    | [t], .int a :: r => some ((if ¬ a = 0 then t else pc + 3, lv, r, σ), [])
    | _, _ => none
  | .ifCond .lt _ => match x, st with
    | [t], .int a :: r => some ((if a < 0 then t else pc + 3, lv, r, σ), [])
    | _, _ => none
  | .ifCond .ge _ => match x, st with
    | [t], .int a :: r => some ((if 0 ≤ a then t else pc + 3, lv, r, σ), [])
    | _, _ => none
  | .ifCond .gt _ => match x, st with
    | [t], .int a :: r => some ((if 0 < a then t else pc + 3, lv, r, σ), [])
    | _, _ => none
  | .ifCond .le _ => match x, st with
    | [t], .int a :: r => some ((if a ≤ 0 then t else pc + 3, lv, r, σ), [])
    | _, _ => none
  | .if_icmp .eq _ => match x, st with
    | [t], .int b :: .int a :: r => some ((if a = b then t else pc + 3, lv, r, σ), [])
    | _, _ => none
  | .if_icmp .ne _ => match x, st with
    | [t], .int b :: .int a :: r => some ((if ¬ a = b then t else pc + 3, lv, r, σ), [])
    | _, _ => none
  | .if_icmp .lt _ => match x, st with
    | [t], .int b :: .int a :: r => some ((if a < b then t else pc + 3, lv, r, σ), [])
    | _, _ => none
  | .if_icmp .ge _ => match x, st with
    | [t], .int b :: .int a :: r => some ((if b ≤ a then t else pc + 3, lv, r, σ), [])
    | _, _ => none
  | .if_icmp .gt _ => match x, st with
    | [t], .int b :: .int a :: r => some ((if b < a then t else pc + 3, lv, r, σ), [])
    | _, _ => none
  | .if_icmp .le _ => match x, st with
    | [t], .int b :: .int a :: r => some ((if a ≤ b then t else pc + 3, lv, r, σ), [])
    | _, _ => none
  | .tableswitch _ _ _ _ => match x, st with
    | _ :: lo :: d :: ts, .int a :: r => some ((mm_tsw a d lo ts, lv, r, σ), [])
    | _, _ => none
  | .lookupswitch _ _ => match x, st with
    | _ :: d :: ts, .int a :: r => some ((mm_lsw a d ts, lv, r, σ), [])
    | _, _ => none
  | .getfield _ => match x, st with
    | [_, ci, k, _], .ref q :: r => some ((pc + 3, lv, mm_fv ci k q σ :: r, σ), [mm_cl q = ci])
    | _, _ => none
  | .putfield _ => match x, st with
    | [_, ci, k, _], .int y :: .ref q :: r => match mm_rf ci k 0 with
      | none => some ((pc + 3, lv, r, mm_u σ q k y), bif mm_fz ci k then [mm_cl q = ci, y = 0 ∨ y = 1] else [mm_cl q = ci])
      | some _ => none
    | _, _ => none
  | .iaload => match st with
    | .int j :: .ref q :: r => some ((pc + 1, lv, .int (σ q j.toNatClampNeg) :: r, σ), [vp_in j (mm_len q)])
    | _ => none
  | .iastore => match st with
    | .int y :: .int j :: .ref q :: r => some ((pc + 1, lv, r, mm_u σ q j.toNatClampNeg y), [vp_in j (mm_len q)])
    | _ => none
  | .aaload => match st with
    | .int j :: .ref q :: r => some ((pc + 1, lv, .ref (mm_el q j.toNatClampNeg) :: r, σ), [vp_in j 8, q = 1 ∨ q = 31 ∨ q = 65 ∨ q = 74])
    | _ => none
  | .arraylength => match st with
    | .ref q :: r => some ((pc + 1, lv, .int (nI (mm_len q)) :: r, σ), [0 < mm_len q])
    | _ => none
  | .invokestatic _ => match x, st with
    | [90, _], .int b :: .int a :: r => bif Nat.ble (mm_ss r) 8 then some ((pc + 3, lv, .int (if b < a then b else a) :: r, σ), []) else none
    | [91, _], .int b :: .int a :: r => bif Nat.ble (mm_ss r) 8 then some ((pc + 3, lv, .int (if a < b then b else a) :: r, σ), []) else none
    | [92, _], .int n :: .int dp :: .ref a :: .int sp :: .ref a0 :: r => bif Nat.ble (mm_ss r) 8 then some ((pc + 3, lv, r, mm_cp σ a0 sp.toNatClampNeg a dp.toNatClampNeg n.toNatClampNeg), [¬ sp < 0, ¬ dp < 0, ¬ n < 0, sp.toNatClampNeg + n.toNatClampNeg ≤ mm_len a0, dp.toNatClampNeg + n.toNatClampNeg ≤ mm_len a, 0 < mm_len a0, 0 < mm_len a]) else none
    | _, _ => none
  | _ => none
def mm_fnd : List mm_En → Nat → Option (Instr × List Nat × Value)
  | [], _ => none
  | e :: r, pc => bif Nat.beq e.1 pc then some e.2 else mm_fnd r pc
def mm_stp (cl : List mm_En) (S : mm_St) : Option (mm_St × List Prop) := match mm_fnd cl S.1 with
  | none => none
  | some (i, x, v) => mm_ex i x v S.1 S.2.1 S.2.2.1 S.2.2.2
def mm_all : List Prop → Prop
  | [] => True
  | p :: r => p ∧ mm_all r
def mm_stps (cl : List mm_En) : Nat → mm_St → Option (mm_St × List Prop)
  | 0, S => some (S, [])
  | n + 1, S => match mm_stp cl S with
    | none => none
    | some (S', c) => match mm_stps cl n S' with
      | none => none
      | some (S2, d) => some (S2, c ++ d)
def mm_slots : List Value → List Value
  | [] => []
  | .long y :: r => .long y :: .null :: mm_slots r
  | .double y :: r => .double y :: .null :: mm_slots r
  | v :: r => v :: mm_slots r
def mm_ini (nL : Nat) (as : List Value) : List Value := mm_slots as ++ List.replicate (nL - (mm_slots as).length) .null
