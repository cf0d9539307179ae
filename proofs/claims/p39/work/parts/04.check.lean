/-! THE TABLES AND THE PRINTED CODE: each entry is what decode and the words of the Statement say. -/
def zw (p : Nat) : Option Cond := match zget zW (p / 16) with
  | some g => zget g (p % 16)
  | _ => none
def zis (p : Nat) (w : Cond) : Bool := decide (zw p = some w)
def zp (sw : List (Int32 × Nat)) (k : Nat) : Nat := match zget sw k with
  | some q => q.2
  | _ => 0
/-- the classes of rows of objects, and the static rows -/
def zcn : Nat → String
  | 2 => RX3
  | 3 => RX7
  | _ => RX8
def zsC : Nat → String
  | 1 => RX11
  | 2 => RX11
  | 3 => RX11
  | _ => RX0
def zsN : Nat → String
  | 1 => "MOST"
  | 2 => "LEAST"
  | 3 => "SMITH_DEEDS"
  | 4 => "ABOVE"
  | _ => "BODIES"
def zcnd : ClassFile.Cond → Nat
  | .eq => 0
  | .ne => 1
  | .lt => 2
  | .ge => 3
  | .gt => 4
  | .le => 5
def zc0 (own : String) (len : Nat) (v : Value) (sw : List (Int32 × Nat)) : Instr → Bool
  | .iconst n => decide (len = 1) && decide (v = .int (Int32.ofInt n))
  | .bipush n => decide (len = 2) && decide (v = .int (Int8.ofInt n).toInt32)
  | .sipush n => decide (len = 3) && decide (v = .int (Int16.ofInt n).toInt32)
  | .ldc k => decide (len = 2) && (match v with
    | .int x => zis (zp sw 0) (.constant own k x)
    | _ => false)
  | .ldc_w k => decide (len = 3) && (match v with
    | .int x => zis (zp sw 0) (.constant own k x)
    | _ => false)
  | .lconst n => decide (len = 1) && decide (v = .long (Int64.ofNat n))
  | .ldc2_w k => decide (len = 3) && (match v with
    | .long x => zis (zp sw 0) (.constantLong own k x)
    | _ => false)
  | _ => false
def zc1 (len a : Nat) : Instr → Bool
  | .iload n => decide (len = 2) && decide (a = n)
  | .iload_n k => decide (len = 1) && decide ((k : Nat) = a)
  | _ => false
def zc2 (len a : Nat) : Instr → Bool
  | .lload n => decide (len = 2) && decide (a = n)
  | .lload_n k => decide (len = 1) && decide ((k : Nat) = a)
  | _ => false
def zc3 (len a : Nat) : Instr → Bool
  | .aload n => decide (len = 2) && decide (a = n)
  | .aload_n k => decide (len = 1) && decide ((k : Nat) = a)
  | _ => false
def zc4 (L len a : Nat) : Instr → Bool
  | .istore n => decide (len = 2) && decide (a = n) && decide (a < L)
  | .istore_n k => decide (len = 1) && decide ((k : Nat) = a) && decide (a < L)
  | _ => false
def zc5 (L len a : Nat) : Instr → Bool
  | .lstore n => decide (len = 2) && decide (a = n) && decide (a + 1 < L)
  | .lstore_n k => decide (len = 1) && decide ((k : Nat) = a) && decide (a + 1 < L)
  | _ => false
def zc6 (L len a : Nat) : Instr → Bool
  | .astore n => decide (len = 2) && decide (a = n) && decide (a < L)
  | .astore_n k => decide (len = 1) && decide ((k : Nat) = a) && decide (a < L)
  | _ => false
def zc7 (len b : Nat) : Instr → Bool
  | .iadd => decide (len = 1) && decide (b = 0)
  | .isub => decide (len = 1) && decide (b = 1)
  | .imul => decide (len = 1) && decide (b = 2)
  | .iand => decide (len = 1) && decide (b = 3)
  | .ior => decide (len = 1) && decide (b = 4)
  | .ixor => decide (len = 1) && decide (b = 5)
  | .ishl => decide (len = 1) && decide (b = 6)
  | .ishr => decide (len = 1) && decide (b = 7)
  | .iushr => decide (len = 1) && decide (b = 8)
  | _ => false
def zc8 (len b : Nat) : Instr → Bool
  | .idiv => decide (len = 1) && decide (b = 0)
  | .irem => decide (len = 1) && decide (b = 1)
  | _ => false
def zc9 (len b : Nat) : Instr → Bool
  | .ineg => decide (len = 1) && decide (b = 0)
  | .i2b => decide (len = 1) && decide (b = 1)
  | .i2s => decide (len = 1) && decide (b = 2)
  | _ => false
def zc10 (len : Nat) : Instr → Bool
  | .i2l => decide (len = 1)
  | _ => false
def zc11 (len : Nat) : Instr → Bool
  | .l2i => decide (len = 1)
  | _ => false
def zc12 (len b : Nat) : Instr → Bool
  | .land => decide (len = 1) && decide (b = 0)
  | .lor => decide (len = 1) && decide (b = 1)
  | _ => false
def zc13 (len : Nat) : Instr → Bool
  | .lshl => decide (len = 1)
  | _ => false
def zc14 (len : Nat) : Instr → Bool
  | .lcmp => decide (len = 1)
  | _ => false
def zc15 (pc len a b : Nat) : Instr → Bool
  | .ifCond k off => decide (len = 3) && decide (zcnd k = b) && decide ((pc : Int) + off = (a : Int))
  | _ => false
def zc16 (pc len a b : Nat) : Instr → Bool
  | .if_icmp k off => decide (len = 3) && decide (zcnd k = b) && decide ((pc : Int) + off = (a : Int))
  | _ => false
def zc17 (pc len a : Nat) : Instr → Bool
  | .goto off => decide (len = 3) && decide ((pc : Int) + off = (a : Int))
  | _ => false
/-- a table's rows, from the number lo on -/
def zrows (pc : Nat) : Int → List Int → List (Int32 × Nat) → Bool
  | _, [], [] => true
  | lo, o :: os, (k, t) :: r => decide (k.toInt = lo) && decide ((pc : Int) + o = (t : Int)) && zrows pc (lo + 1) os r
  | _, _, _ => false
def zrowl (pc : Nat) : List (Int × Int) → List (Int32 × Nat) → Bool
  | [], [] => true
  | (n, o) :: os, (k, t) :: r => decide (k.toInt = n) && decide ((pc : Int) + o = (t : Int)) && zrowl pc os r
  | _, _ => false
def zc18 (pc a : Nat) (sw : List (Int32 × Nat)) : Instr → Bool
  | .tableswitch d lo hi offs => decide ((pc : Int) + d = (a : Int)) && decide (hi = lo + (offs.toList.length : Int) - 1) && zrows pc lo offs.toList sw
  | .lookupswitch d ps => decide ((pc : Int) + d = (a : Int)) && (ps.toList.zip (ps.toList.drop 1)).all (fun (a, next) => a.1 < next.1) && zrowl pc ps.toList sw
  | _ => false
def zc19 (L len a : Nat) (v : Value) : Instr → Bool
  | .iinc n k => decide (len = 3) && decide (a = n) && decide (v = .int (Int32.ofInt k)) && decide (a < L)
  | _ => false
def zc20 (own : String) (len a b c : Nat) (sw : List (Int32 × Nat)) : Instr → Bool
  | .getfield k => decide (len = 3) && (match zget vwCl a with
    | some q => decide (b < q.2.2) && zis (zp sw 0) (.fieldLink own k q.1 (q.2.1 b).2.1 (q.2.1 b).2.2.1) && (match c with
      | 1 => zft a b
      | _ => !zft a b)
    | _ => false)
  | _ => false
def zfty (c : Nat) (t : Option FieldType) : Bool := match c, t with
  | 0, some .int => true
  | 2, some .boolean => true
  | 1, some (.object _) => true
  | 1, some (.array _) => true
  | _, _ => false
def zc21 (y : MethodName) (len a b c : Nat) (sw : List (Int32 × Nat)) : Instr → Bool
  | .putfield k => decide (len = 3) && (match zget vwCl a with
    | some q => decide (b < q.2.2) && zis (zp sw 0) (.fieldLink y.cls k q.1 (q.2.1 b).2.1 (q.2.1 b).2.2.1) && zfty c (parseFieldDescriptor (q.2.1 b).2.2.1) && (match c with
      | 1 => zft a b
      | _ => !zft a b) && (!(q.2.1 b).2.2.2 || (decide (y.name = "<init>") && decide ((q.2.1 b).1 = y.cls)))
    | _ => false)
  | _ => false
def zc22 (len : Nat) : Instr → Bool
  | .iaload => decide (len = 1)
  | _ => false
def zc23 (len : Nat) : Instr → Bool
  | .laload => decide (len = 1)
  | _ => false
def zc24 (len : Nat) : Instr → Bool
  | .aaload => decide (len = 1)
  | _ => false
def zc25 (len : Nat) : Instr → Bool
  | .iastore => decide (len = 1)
  | _ => false
def zc26 (len : Nat) : Instr → Bool
  | .lastore => decide (len = 1)
  | _ => false
def zc27 (len : Nat) : Instr → Bool
  | .aastore => decide (len = 1)
  | _ => false
def zc28 (len : Nat) : Instr → Bool
  | .arraylength => decide (len = 1)
  | _ => false
def zc29 (own : String) (len a b : Nat) (sw : List (Int32 × Nat)) : Instr → Bool
  | .new k => decide (len = 3) && (match zget vwCl a with
    | some q => decide (b = q.2.2) && zis (zp sw 0) (.classLink own k q.1) && zis (zp sw 1) (.instantiable q.1 q.2.2) && zis (zp sw 2) (.initialized q.1)
    | _ => false)
  | _ => false
def zc30 (own : String) (len a : Nat) (sw : List (Int32 × Nat)) : Instr → Bool
  | .newarray t => decide (len = 2) && (match t with
    | .int => decide (a = 0) && zis (zp sw 0) (.arrayClass .int)
    | .long => decide (a = 1) && zis (zp sw 0) (.arrayClass .long)
    | _ => false)
  | .anewarray k => decide (len = 3) && decide (2 ≤ a) && decide (a ≤ 4) && zis (zp sw 0) (.classLink own k (zcn a))
  | _ => false
def zc31 (own : String) (len b : Nat) (sw : List (Int32 × Nat)) : Instr → Bool
  | .invokestatic k => decide (len = 3) && zis (zp sw 3) (.initialized "java/lang/Math") && (match b with
    | 0 => zis (zp sw 0) (.methodLink own k Lib.Math.max.name) && zis (zp sw 1) (.code Lib.Math.max.name Lib.Math.max.code 2 (some .int)) && zis (zp sw 2) (.static Lib.Math.max.name)
    | 1 => zis (zp sw 0) (.methodLink own k Lib.Math.min.name) && zis (zp sw 1) (.code Lib.Math.min.name Lib.Math.min.code 2 (some .int)) && zis (zp sw 2) (.static Lib.Math.min.name)
    | 2 => zis (zp sw 0) (.methodLink own k Lib.Math.abs.name) && zis (zp sw 1) (.code Lib.Math.abs.name Lib.Math.abs.code 1 (some .int)) && zis (zp sw 2) (.static Lib.Math.abs.name)
    | _ => false)
  | _ => false
/-- the class of an object by its number -/
def zkn (c : Nat) : Option String := match zget vwCl c with
  | some q => some q.1
  | _ => none
def zc32 (own : String) (len a b c ci : Nat) (sw : List (Int32 × Nat)) (M : zM) : Instr → Bool
  | .invokevirtual k => decide (len = 3) && decide (c = 0) && decide (a ≠ zlaw) && decide (M.2.2.2.2.2.1 = false) && decide (b = M.2.2.2.2.1 + 1) && decide (zkn ci = some M.1.cls) && decide (M.1.name ≠ "<init>") && zis (zp sw 0) (.methodLink own k M.1)
  | .invokestatic k => decide (len = 3) && decide (c = 1) && decide (a ≠ zlaw) && decide (M.2.2.2.2.2.1 = true) && decide (b = M.2.2.2.2.1) && zis (zp sw 0) (.methodLink own k M.1)
  | .invokespecial k => decide (len = 3) && decide (a ≠ zlaw) && decide (M.2.2.2.2.2.1 = false) && decide (M.1.name = "<init>") && decide (M.2.2.2.1 = none) && decide (b = M.2.2.2.2.1 + 1) && decide (zkn ci = some M.1.cls) && (match c with
    | 2 => zis (zp sw 0) (.methodLink own k M.1)
    | 3 => decide (zget zN (zp sw 0) = some (.methodLinkNest own k M.1 RX11))
    | _ => false)
  | _ => false
def zc33 (own : String) (len : Nat) (sw : List (Int32 × Nat)) : Instr → Bool
  | .invokespecial k => decide (len = 3) && zis (zp sw 0) (.methodLink own k objectInit)
  | _ => false
def zc34 (own : String) (len : Nat) (sw : List (Int32 × Nat)) : Instr → Bool
  | .invokestatic k => decide (len = 3) && zis (zp sw 0) (.methodLink own k arraycopyName)
  | _ => false
def zc35 (len c : Nat) (r : Option FieldType) : Instr → Bool
  | .ireturn => decide (len = 1) && (match c, r with
    | 0, some .int => true
    | 1, some .boolean => true
    | _, _ => false)
  | _ => false
def zc36 (len : Nat) (r : Option FieldType) : Instr → Bool
  | .lreturn => decide (len = 1) && (match r with
    | some .long => true
    | _ => false)
  | _ => false
def zc37 (len : Nat) (r : Option FieldType) : Instr → Bool
  | .areturn => decide (len = 1) && (match r with
    | some (.object _) => true
    | _ => false)
  | _ => false
def zc38 (len : Nat) (r : Option FieldType) : Instr → Bool
  | .return_ => decide (len = 1) && (match r with
    | none => true
    | _ => false)
  | _ => false
def zc39 (len : Nat) : Instr → Bool
  | .dup => decide (len = 1)
  | _ => false
def zc40 (len : Nat) : Instr → Bool
  | .dup_x1 => decide (len = 1)
  | _ => false
def zc41 (len : Nat) : Instr → Bool
  | .dup2 => decide (len = 1)
  | _ => false
def zc42 (len : Nat) : Instr → Bool
  | .pop => decide (len = 1)
  | _ => false
def zc43 (own : String) (len a c : Nat) (sw : List (Int32 × Nat)) : Instr → Bool
  | .getstatic k => decide (len = 3) && decide (1 ≤ a) && decide (a ≤ 5) && (match c with
    | 0 => zis (zp sw 0) (.fieldLink own k (zsC a) (zsN a) "[I")
    | 1 => decide (zget zN (zp sw 0) = some (.fieldLinkNest own k (zsC a) (zsN a) "[I" RX11))
    | _ => false)
  | _ => false
def zc44 (len : Nat) : Instr → Bool
  | .pop2 => decide (len = 1)
  | _ => false
def zcI (M : zM) (pc : Nat) : zI → Instr → Bool := fun (op, len, a, b, c, v, sw) i => match op with
  | 0 => zc0 M.1.cls len v sw i
  | 1 => zc1 len a i
  | 2 => zc2 len a i
  | 3 => zc3 len a i
  | 4 => zc4 M.2.2.1 len a i
  | 5 => zc5 M.2.2.1 len a i
  | 6 => zc6 M.2.2.1 len a i
  | 7 => zc7 len b i
  | 8 => zc8 len b i
  | 9 => zc9 len b i
  | 10 => zc10 len i
  | 11 => zc11 len i
  | 12 => zc12 len b i
  | 13 => zc13 len i
  | 14 => zc14 len i
  | 15 => zc15 pc len a b i
  | 16 => zc16 pc len a b i
  | 17 => zc17 pc len a i
  | 18 => zc18 pc a sw i
  | 19 => zc19 M.2.2.1 len a v i
  | 20 => zc20 M.1.cls len a b c sw i
  | 21 => zc21 M.1 len a b c sw i
  | 22 => zc22 len i
  | 23 => zc23 len i
  | 24 => zc24 len i
  | 25 => zc25 len i
  | 26 => zc26 len i
  | 27 => zc27 len i
  | 28 => zc28 len i
  | 29 => zc29 M.1.cls len a b sw i
  | 30 => zc30 M.1.cls len a sw i
  | 31 => zc31 M.1.cls len b sw i
  | 32 => match zm a with
    | some M2 => zc32 M.1.cls len a b (c % 4) (c / 4) sw M2 i
    | _ => false
  | 33 => zc33 M.1.cls len sw i
  | 34 => zc34 M.1.cls len sw i
  | 35 => zc35 len c M.2.2.2.1 i
  | 36 => zc36 len M.2.2.2.1 i
  | 37 => zc37 len M.2.2.2.1 i
  | 38 => zc38 len M.2.2.2.1 i
  | 39 => zc39 len i
  | 40 => zc40 len i
  | 41 => zc41 len i
  | 42 => zc42 len i
  | 43 => zc43 M.1.cls len a c sw i
  | 44 => zc44 len i
  | _ => false
def zchk (M : zM) (pc : Nat) (e : zI) : Bool := match decode M.2.1 pc with
  | .ok (i, n) => decide (n = e.2.1) && zcI M pc e i
  | _ => false
def zckR (M : zM) : Nat → List (Option zI) → Bool
  | _, [] => true
  | pc, none :: r => zckR M (pc + 1) r
  | pc, some e :: r => zchk M pc e && zckR M (pc + 1) r
def zckT (M : zM) : Nat → List (List (Option zI)) → Bool
  | _, [] => true
  | pc, r :: t => zckR M pc r && zckT M (pc + 16) t
def zckM (mi : Nat) (t : List (List (Option zI))) : Bool := match zm mi with
  | some M => zckT M 0 t
  | _ => false
theorem zckR_at {M : zM} : ∀ {r : List (Option zI)} {pc j : Nat} {e : zI}, zckR M pc r = true → zget r j = some (some e) → zchk M (pc + j) e = true
  | [], _, _, _, _, h => by simp [zget] at h
  | none :: r, pc, 0, e, _, h => by simp [zget] at h
  | some x :: r, pc, 0, e, hc, h => by
    simp only [zget, Option.some.injEq] at h
    subst h
    simp only [zckR, Bool.and_eq_true] at hc
    exact hc.1
  | none :: r, pc, j + 1, e, hc, h => by
    have := zckR_at (r := r) (pc := pc + 1) (j := j) (e := e) hc h
    rw [show pc + (j + 1) = pc + 1 + j by omega]
    exact this
  | some x :: r, pc, j + 1, e, hc, h => by
    simp only [zckR, Bool.and_eq_true] at hc
    have := zckR_at (r := r) (pc := pc + 1) (j := j) (e := e) hc.2 h
    rw [show pc + (j + 1) = pc + 1 + j by omega]
    exact this
theorem zckT_at {M : zM} : ∀ {t : List (List (Option zI))} {pc q : Nat} {r : List (Option zI)}, zckT M pc t = true → zget t q = some r → zckR M (pc + 16 * q) r = true
  | [], _, _, _, _, h => by simp [zget] at h
  | x :: t, pc, 0, r, hc, h => by
    simp only [zget, Option.some.injEq] at h
    subst h
    simp only [zckT, Bool.and_eq_true] at hc
    exact hc.1
  | x :: t, pc, q + 1, r, hc, h => by
    simp only [zckT, Bool.and_eq_true] at hc
    have := zckT_at (t := t) (pc := pc + 16) (q := q) (r := r) hc.2 h
    rw [show pc + 16 * (q + 1) = pc + 16 + 16 * q by omega]
    exact this
