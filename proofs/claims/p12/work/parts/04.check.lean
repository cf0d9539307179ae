/-! THE TABLES AND THE PRINTED CODE: each entry is what decode and the words of the Statement say. -/
noncomputable def zw (p : Nat) : Option Cond := match zget zW (p / 16) with
  | some g => zget g (p % 16)
  | _ => none
noncomputable def zis (p : Nat) (w : Cond) : Bool := decide (zw p = some w)
noncomputable def zp (sw : List (Int32 × Nat)) (k : Nat) : Nat := match zget sw k with
  | some q => q.2
  | _ => 0
/-- the classes of rows of objects, and the static rows -/
noncomputable def zcn : Nat → String
  | 2 => RX3
  | 3 => RX7
  | _ => RX8
noncomputable def zsC : Nat → String
  | 1 => RX11
  | 2 => RX11
  | 3 => RX11
  | _ => RX0
noncomputable def zsN : Nat → String
  | 1 => "MOST"
  | 2 => "LEAST"
  | 3 => "SMITH_DEEDS"
  | 4 => "ABOVE"
  | _ => "BODIES"
noncomputable def zcnd : ClassFile.Cond → Nat
  | .eq => 0
  | .ne => 1
  | .lt => 2
  | .ge => 3
  | .gt => 4
  | .le => 5
noncomputable def zc0 (own : String) (len : Nat) (v : Value) (sw : List (Int32 × Nat)) : Instr → Bool
  | .iconst n => decide (len = 1) && decide (v = .int (Int32.ofInt n))
  | .bipush n => decide (len = 2) && decide (v = .int (Int8.ofInt n).toInt32)
  | .sipush n => decide (len = 3) && decide (v = .int (Int16.ofInt n).toInt32)
  | .ldc k => decide (len = 2) && (match v with
    | .int x => zis (zp sw 0) (.constant own k x)
    | _ => false)
  | .ldc_w k => decide (len = 3) && (match v with
    | .int x => zis (zp sw 0) (.constant own k x)
    | _ => false)
  | .lconst n => decide (len = 1) && decide (v = .long (Int64.ofNat n))
  | .ldc2_w k => decide (len = 3) && (match v with
    | .long x => zis (zp sw 0) (.constantLong own k x)
    | _ => false)
  | _ => false
noncomputable def zc1 (len a : Nat) : Instr → Bool
  | .iload n => decide (len = 2) && decide (a = n)
  | .iload_n k => decide (len = 1) && decide ((k : Nat) = a)
  | _ => false
noncomputable def zc2 (len a : Nat) : Instr → Bool
  | .lload n => decide (len = 2) && decide (a = n)
  | .lload_n k => decide (len = 1) && decide ((k : Nat) = a)
  | _ => false
noncomputable def zc3 (len a : Nat) : Instr → Bool
  | .aload n => decide (len = 2) && decide (a = n)
  | .aload_n k => decide (len = 1) && decide ((k : Nat) = a)
  | _ => false
noncomputable def zc4 (L len a : Nat) : Instr → Bool
  | .istore n => decide (len = 2) && decide (a = n) && decide (a < L)
  | .istore_n k => decide (len = 1) && decide ((k : Nat) = a) && decide (a < L)
  | _ => false
noncomputable def zc5 (L len a : Nat) : Instr → Bool
  | .lstore n => decide (len = 2) && decide (a = n) && decide (a + 1 < L)
  | .lstore_n k => decide (len = 1) && decide ((k : Nat) = a) && decide (a + 1 < L)
  | _ => false
noncomputable def zc6 (L len a : Nat) : Instr → Bool
  | .astore n => decide (len = 2) && decide (a = n) && decide (a < L)
  | .astore_n k => decide (len = 1) && decide ((k : Nat) = a) && decide (a < L)
  | _ => false
noncomputable def zc7 (len b : Nat) : Instr → Bool
  | .iadd => decide (len = 1) && decide (b = 0)
  | .isub => decide (len = 1) && decide (b = 1)
  | .imul => decide (len = 1) && decide (b = 2)
  | .iand => decide (len = 1) && decide (b = 3)
  | .ior => decide (len = 1) && decide (b = 4)
  | .ixor => decide (len = 1) && decide (b = 5)
  | .ishl => decide (len = 1) && decide (b = 6)
  | .ishr => decide (len = 1) && decide (b = 7)
  | .iushr => decide (len = 1) && decide (b = 8)
  | _ => false
noncomputable def zc8 (len b : Nat) : Instr → Bool
  | .idiv => decide (len = 1) && decide (b = 0)
  | .irem => decide (len = 1) && decide (b = 1)
  | _ => false
noncomputable def zc9 (len b : Nat) : Instr → Bool
  | .ineg => decide (len = 1) && decide (b = 0)
  | .i2b => decide (len = 1) && decide (b = 1)
  | .i2s => decide (len = 1) && decide (b = 2)
  | _ => false
noncomputable def zc10 (len : Nat) : Instr → Bool
  | .i2l => decide (len = 1)
  | _ => false
noncomputable def zc11 (len : Nat) : Instr → Bool
  | .l2i => decide (len = 1)
  | _ => false
noncomputable def zc12 (len b : Nat) : Instr → Bool
  | .land => decide (len = 1) && decide (b = 0)
  | .lor => decide (len = 1) && decide (b = 1)
  | _ => false
noncomputable def zc13 (len : Nat) : Instr → Bool
  | .lshl => decide (len = 1)
  | _ => false
noncomputable def zc14 (len : Nat) : Instr → Bool
  | .lcmp => decide (len = 1)
  | _ => false
noncomputable def zc15 (pc len a b : Nat) : Instr → Bool
  | .ifCond k off => decide (len = 3) && decide (zcnd k = b) && decide ((pc : Int) + off = (a : Int))
  | _ => false
noncomputable def zc16 (pc len a b : Nat) : Instr → Bool
  | .if_icmp k off => decide (len = 3) && decide (zcnd k = b) && decide ((pc : Int) + off = (a : Int))
  | _ => false
noncomputable def zc17 (pc len a : Nat) : Instr → Bool
  | .goto off => decide (len = 3) && decide ((pc : Int) + off = (a : Int))
  | _ => false
/-- a table's rows, from the number lo on -/
noncomputable def zrows (pc : Nat) : Int → List Int → List (Int32 × Nat) → Bool
  | _, [], [] => true
  | lo, o :: os, (k, t) :: r => decide (k.toInt = lo) && decide ((pc : Int) + o = (t : Int)) && zrows pc (lo + 1) os r
  | _, _, _ => false
noncomputable def zrowl (pc : Nat) : List (Int × Int) → List (Int32 × Nat) → Bool
  | [], [] => true
  | (n, o) :: os, (k, t) :: r => decide (k.toInt = n) && decide ((pc : Int) + o = (t : Int)) && zrowl pc os r
  | _, _ => false
noncomputable def zc18 (pc a : Nat) (sw : List (Int32 × Nat)) : Instr → Bool
  | .tableswitch d lo hi offs => decide ((pc : Int) + d = (a : Int)) && decide (hi = lo + (offs.toList.length : Int) - 1) && zrows pc lo offs.toList sw
  | .lookupswitch d ps => decide ((pc : Int) + d = (a : Int)) && (ps.toList.zip (ps.toList.drop 1)).all (fun (a, next) => a.1 < next.1) && zrowl pc ps.toList sw
  | _ => false
noncomputable def zc19 (L len a : Nat) (v : Value) : Instr → Bool
  | .iinc n k => decide (len = 3) && decide (a = n) && decide (v = .int (Int32.ofInt k)) && decide (a < L)
  | _ => false
noncomputable def zc20 (own : String) (len a b c : Nat) (sw : List (Int32 × Nat)) : Instr → Bool
  | .getfield k => decide (len = 3) && (match zget vwCl a with
    | some q => decide (b < q.2.2) && zis (zp sw 0) (.fieldLink own k q.1 (q.2.1 b).2.1 (q.2.1 b).2.2.1) && (match c with
      | 1 => zft a b
      | _ => !zft a b)
    | _ => false)
  | _ => false
noncomputable def zfty (c : Nat) (t : Option FieldType) : Bool := match c, t with
  | 0, some .int => true
  | 2, some .boolean => true
  | 1, some (.object _) => true
  | 1, some (.array _) => true
  | _, _ => false
noncomputable def zc21 (y : MethodName) (len a b c : Nat) (sw : List (Int32 × Nat)) : Instr → Bool
  | .putfield k => decide (len = 3) && (match zget vwCl a with
    | some q => decide (b < q.2.2) && zis (zp sw 0) (.fieldLink y.cls k q.1 (q.2.1 b).2.1 (q.2.1 b).2.2.1) && zfty c (parseFieldDescriptor (q.2.1 b).2.2.1) && (match c with
      | 1 => zft a b
      | _ => !zft a b) && (!(q.2.1 b).2.2.2 || (decide (y.name = "<init>") && decide ((q.2.1 b).1 = y.cls)))
    | _ => false)
  | _ => false
noncomputable def zc22 (len : Nat) : Instr → Bool
  | .iaload => decide (len = 1)
  | _ => false
noncomputable def zc23 (len : Nat) : Instr → Bool
  | .laload => decide (len = 1)
  | _ => false
noncomputable def zc24 (len : Nat) : Instr → Bool
  | .aaload => decide (len = 1)
  | _ => false
noncomputable def zc25 (len : Nat) : Instr → Bool
  | .iastore => decide (len = 1)
  | _ => false
noncomputable def zc26 (len : Nat) : Instr → Bool
  | .lastore => decide (len = 1)
  | _ => false
noncomputable def zc27 (len : Nat) : Instr → Bool
  | .aastore => decide (len = 1)
  | _ => false
noncomputable def zc28 (len : Nat) : Instr → Bool
  | .arraylength => decide (len = 1)
  | _ => false
noncomputable def zc29 (own : String) (len a b : Nat) (sw : List (Int32 × Nat)) : Instr → Bool
  | .new k => decide (len = 3) && (match zget vwCl a with
    | some q => decide (b = q.2.2) && zis (zp sw 0) (.classLink own k q.1) && zis (zp sw 1) (.instantiable q.1 q.2.2) && zis (zp sw 2) (.initialized q.1)
    | _ => false)
  | _ => false
noncomputable def zc30 (own : String) (len a : Nat) (sw : List (Int32 × Nat)) : Instr → Bool
  | .newarray t => decide (len = 2) && (match t with
    | .int => decide (a = 0) && zis (zp sw 0) (.arrayClass .int)
    | .long => decide (a = 1) && zis (zp sw 0) (.arrayClass .long)
    | _ => false)
  | .anewarray k => decide (len = 3) && decide (2 ≤ a) && decide (a ≤ 4) && zis (zp sw 0) (.classLink own k (zcn a))
  | _ => false
noncomputable def zc31 (own : String) (len b : Nat) (sw : List (Int32 × Nat)) : Instr → Bool
  | .invokestatic k => decide (len = 3) && zis (zp sw 3) (.initialized "java/lang/Math") && (match b with
    | 0 => zis (zp sw 0) (.methodLink own k Lib.Math.max.name) && zis (zp sw 1) (.code Lib.Math.max.name Lib.Math.max.code 2 (some .int)) && zis (zp sw 2) (.static Lib.Math.max.name)
    | 1 => zis (zp sw 0) (.methodLink own k Lib.Math.min.name) && zis (zp sw 1) (.code Lib.Math.min.name Lib.Math.min.code 2 (some .int)) && zis (zp sw 2) (.static Lib.Math.min.name)
    | 2 => zis (zp sw 0) (.methodLink own k Lib.Math.abs.name) && zis (zp sw 1) (.code Lib.Math.abs.name Lib.Math.abs.code 1 (some .int)) && zis (zp sw 2) (.static Lib.Math.abs.name)
    | _ => false)
  | _ => false
/-- the class of an object by its number -/
noncomputable def zkn (c : Nat) : Option String := match zget vwCl c with
  | some q => some q.1
  | _ => none
noncomputable def zc32 (own : String) (len a b c ci : Nat) (sw : List (Int32 × Nat)) (M : zM) : Instr → Bool
  | .invokevirtual k => decide (len = 3) && decide (c = 0) && decide (a ≠ zlaw) && decide (M.2.2.2.2.2.1 = false) && decide (b = M.2.2.2.2.1 + 1) && decide (zkn ci = some M.1.cls) && decide (M.1.name ≠ "<init>") && zis (zp sw 0) (.methodLink own k M.1)
  | .invokestatic k => decide (len = 3) && decide (c = 1) && decide (a ≠ zlaw) && decide (M.2.2.2.2.2.1 = true) && decide (b = M.2.2.2.2.1) && zis (zp sw 0) (.methodLink own k M.1)
  | .invokespecial k => decide (len = 3) && decide (a ≠ zlaw) && decide (M.2.2.2.2.2.1 = false) && decide (M.1.name = "<init>") && decide (M.2.2.2.1 = none) && decide (b = M.2.2.2.2.1 + 1) && decide (zkn ci = some M.1.cls) && (match c with
    | 2 => zis (zp sw 0) (.methodLink own k M.1)
    | 3 => decide (zget zN (zp sw 0) = some (.methodLinkNest own k M.1 RX11))
    | _ => false)
  | _ => false
noncomputable def zc33 (own : String) (len : Nat) (sw : List (Int32 × Nat)) : Instr → Bool
  | .invokespecial k => decide (len = 3) && zis (zp sw 0) (.methodLink own k objectInit)
  | _ => false
noncomputable def zc34 (own : String) (len : Nat) (sw : List (Int32 × Nat)) : Instr → Bool
  | .invokestatic k => decide (len = 3) && zis (zp sw 0) (.methodLink own k arraycopyName)
  | _ => false
noncomputable def zc35 (len c : Nat) (r : Option FieldType) : Instr → Bool
  | .ireturn => decide (len = 1) && (match c, r with
    | 0, some .int => true
    | 1, some .boolean => true
    | _, _ => false)
  | _ => false
noncomputable def zc36 (len : Nat) (r : Option FieldType) : Instr → Bool
  | .lreturn => decide (len = 1) && (match r with
    | some .long => true
    | _ => false)
  | _ => false
noncomputable def zc37 (len : Nat) (r : Option FieldType) : Instr → Bool
  | .areturn => decide (len = 1) && (match r with
    | some (.object _) => true
    | _ => false)
  | _ => false
noncomputable def zc38 (len : Nat) (r : Option FieldType) : Instr → Bool
  | .return_ => decide (len = 1) && (match r with
    | none => true
    | _ => false)
  | _ => false
noncomputable def zc39 (len : Nat) : Instr → Bool
  | .dup => decide (len = 1)
  | _ => false
noncomputable def zc40 (len : Nat) : Instr → Bool
  | .dup_x1 => decide (len = 1)
  | _ => false
noncomputable def zc41 (len : Nat) : Instr → Bool
  | .dup2 => decide (len = 1)
  | _ => false
noncomputable def zc42 (len : Nat) : Instr → Bool
  | .pop => decide (len = 1)
  | _ => false
noncomputable def zc43 (own : String) (len a c : Nat) (sw : List (Int32 × Nat)) : Instr → Bool
  | .getstatic k => decide (len = 3) && decide (1 ≤ a) && decide (a ≤ 5) && (match c with
    | 0 => zis (zp sw 0) (.fieldLink own k (zsC a) (zsN a) "[I")
    | 1 => decide (zget zN (zp sw 0) = some (.fieldLinkNest own k (zsC a) (zsN a) "[I" RX11))
    | _ => false)
  | _ => false
noncomputable def zc44 (len : Nat) : Instr → Bool
  | .pop2 => decide (len = 1)
  | _ => false
noncomputable def zcI (M : zM) (pc : Nat) : zI → Instr → Bool := fun (op, len, a, b, c, v, sw) i => match op with
  | 0 => zc0 M.1.cls len v sw i
  | 1 => zc1 len a i
  | 2 => zc2 len a i
  | 3 => zc3 len a i
  | 4 => zc4 M.2.2.1 len a i
  | 5 => zc5 M.2.2.1 len a i
  | 6 => zc6 M.2.2.1 len a i
  | 7 => zc7 len b i
  | 8 => zc8 len b i
  | 9 => zc9 len b i
  | 10 => zc10 len i
  | 11 => zc11 len i
  | 12 => zc12 len b i
  | 13 => zc13 len i
  | 14 => zc14 len i
  | 15 => zc15 pc len a b i
  | 16 => zc16 pc len a b i
  | 17 => zc17 pc len a i
  | 18 => zc18 pc a sw i
  | 19 => zc19 M.2.2.1 len a v i
  | 20 => zc20 M.1.cls len a b c sw i
  | 21 => zc21 M.1 len a b c sw i
  | 22 => zc22 len i
  | 23 => zc23 len i
  | 24 => zc24 len i
  | 25 => zc25 len i
  | 26 => zc26 len i
  | 27 => zc27 len i
  | 28 => zc28 len i
  | 29 => zc29 M.1.cls len a b sw i
  | 30 => zc30 M.1.cls len a sw i
  | 31 => zc31 M.1.cls len b sw i
  | 32 => match zm a with
    | some M2 => zc32 M.1.cls len a b (c % 4) (c / 4) sw M2 i
    | _ => false
  | 33 => zc33 M.1.cls len sw i
  | 34 => zc34 M.1.cls len sw i
  | 35 => zc35 len c M.2.2.2.1 i
  | 36 => zc36 len M.2.2.2.1 i
  | 37 => zc37 len M.2.2.2.1 i
  | 38 => zc38 len M.2.2.2.1 i
  | 39 => zc39 len i
  | 40 => zc40 len i
  | 41 => zc41 len i
  | 42 => zc42 len i
  | 43 => zc43 M.1.cls len a c sw i
  | 44 => zc44 len i
  | _ => false
noncomputable def zchk (M : zM) (pc : Nat) (e : zI) : Bool := match decode M.2.1 pc with
  | .ok (i, n) => decide (n = e.2.1) && zcI M pc e i
  | _ => false
noncomputable def zckR (M : zM) : Nat → List (Option zI) → Bool
  | _, [] => true
  | pc, none :: r => zckR M (pc + 1) r
  | pc, some e :: r => zchk M pc e && zckR M (pc + 1) r
noncomputable def zckT (M : zM) : Nat → List (List (Option zI)) → Bool
  | _, [] => true
  | pc, r :: t => zckR M pc r && zckT M (pc + 16) t
noncomputable def zckM (mi : Nat) (t : List (List (Option zI))) : Bool := match zm mi with
  | some M => zckT M 0 t
  | _ => false
theorem zckR_at {M : zM} : ∀ {r : List (Option zI)} {pc j : Nat} {e : zI}, zckR M pc r = true → zget r j = some (some e) → zchk M (pc + j) e = true
  | [], _, _, _, _, h => by simp [zget] at h
  | none :: r, pc, 0, e, _, h => by simp [zget] at h
  | some x :: r, pc, 0, e, hc, h => by
    simp only [zget, Option.some.injEq] at h
    subst h
    simp only [zckR, Bool.and_eq_true] at hc
    exact hc.1
  | none :: r, pc, j + 1, e, hc, h => by
    have := zckR_at (r := r) (pc := pc + 1) (j := j) (e := e) hc h
    rw [show pc + (j + 1) = pc + 1 + j by omega]
    exact this
  | some x :: r, pc, j + 1, e, hc, h => by
    simp only [zckR, Bool.and_eq_true] at hc
    have := zckR_at (r := r) (pc := pc + 1) (j := j) (e := e) hc.2 h
    rw [show pc + (j + 1) = pc + 1 + j by omega]
    exact this
theorem zckT_at {M : zM} : ∀ {t : List (List (Option zI))} {pc q : Nat} {r : List (Option zI)}, zckT M pc t = true → zget t q = some r → zckR M (pc + 16 * q) r = true
  | [], _, _, _, _, h => by simp [zget] at h
  | x :: t, pc, 0, r, hc, h => by
    simp only [zget, Option.some.injEq] at h
    subst h
    simp only [zckT, Bool.and_eq_true] at hc
    exact hc.1
  | x :: t, pc, q + 1, r, hc, h => by
    simp only [zckT, Bool.and_eq_true] at hc
    have := zckT_at (t := t) (pc := pc + 16) (q := q) (r := r) hc.2 h
    rw [show pc + 16 * (q + 1) = pc + 16 + 16 * q by omega]
    exact this
/-! A FAST DECODER of straight instructions: out of the list of bytes, by a table; what it says, decode says. -/
abbrev fz_K : Type := Nat × Instr × (Nat → Instr) × (Int → Instr)
noncomputable def fz_fs (bits n : Nat) : Int := bif Nat.blt n (2 ^ (bits - 1)) then (n : Int) else (n : Int) - (2 ^ bits : Nat)
theorem fz_fs_eq (bits n : Nat) : fz_fs bits n = Reader.signed bits n := by
  unfold fz_fs Reader.signed
  by_cases h : n < 2 ^ (bits - 1)
  · rw [if_pos h, show Nat.blt n (2 ^ (bits - 1)) = true by rw [Nat.blt_eq]; exact h]
    rfl
  · rw [if_neg h]
    cases c : Nat.blt n (2 ^ (bits - 1))
    · rfl
    · rw [Nat.blt_eq] at c
      exact absurd c h
noncomputable abbrev fz_fb (k : ByteArray) (p : Nat) (l : List UInt8) : Prop := k.data.toList.drop p = l
theorem fz_fb_next {k : ByteArray} {p : Nat} {b : UInt8} {l : List UInt8} (h : fz_fb k p (b :: l)) : fz_fb k (p + 1) l := by
  have h1 : (k.data.toList.drop p).drop 1 = l := by rw [h]; rfl
  rw [List.drop_drop] at h1
  exact h1
theorem fz_fb_u1 {k : ByteArray} {p : Nat} {b : UInt8} {l : List UInt8} (h : fz_fb k p (b :: l)) : (Reader.u1 : Decoder Nat).runAt k p = .ok (b.toNat, p + 1) := by
  have hl : p < k.data.toList.length := by
    rcases Nat.lt_or_ge p k.data.toList.length with g | g
    · exact g
    · have h2 : k.data.toList.drop p = b :: l := h
      rw [List.drop_eq_nil_of_le g] at h2
      cases h2
  have hs : p < k.size := hl
  have hb : k[p] = b := by
    have h0 := List.getElem_cons_drop (as := k.data.toList) (i := p) hl
    rw [h] at h0
    injection h0 with h1 h2
  show ((if h : p < k.size then (do set (p + 1); Pure.pure k[p].toNat) else throw (HasTruncated.truncated p) : Decoder Nat)).runAt k p = _
  rw [dif_pos hs, hb]
  rfl
theorem fz_ub {α : Type} {k : ByteArray} {p q n : Nat} {F : Nat → Decoder α} (h : (Reader.u1 : Decoder Nat).runAt k p = .ok (n, q)) : (Reader.u1 >>= F).runAt k p = (F n).runAt k q := by
  show (Except.bind ((Reader.u1 : Decoder Nat).runAt k p) _) = _
  rw [h]
  rfl
theorem fz_gb {α β : Type} {k : ByteArray} {p q : Nat} {n : β} {r : Decoder β} {F : β → Decoder α} (h : r.runAt k p = .ok (n, q)) : (r >>= F).runAt k p = (F n).runAt k q := by
  show (Except.bind (r.runAt k p) _) = _
  rw [h]
  rfl
theorem fz_fb_u2 {k : ByteArray} {p : Nat} {b c : UInt8} {l : List UInt8} (h : fz_fb k p (b :: c :: l)) : (Reader.u2 : Decoder Nat).runAt k p = .ok (b.toNat * 256 + c.toNat, p + 2) :=
  (fz_gb (fz_fb_u1 h)).trans ((fz_gb (fz_fb_u1 (fz_fb_next h))).trans rfl)
theorem fz_fb_s1 {k : ByteArray} {p : Nat} {b : UInt8} {l : List UInt8} (h : fz_fb k p (b :: l)) : (Reader.s1 : Decoder Int).runAt k p = .ok (fz_fs 8 b.toNat, p + 1) := by
  rw [fz_fs_eq]
  show (Except.map _ ((Reader.u1 : Decoder Nat).runAt k p)) = _
  rw [fz_fb_u1 h]
  rfl
theorem fz_fb_s2 {k : ByteArray} {p : Nat} {b c : UInt8} {l : List UInt8} (h : fz_fb k p (b :: c :: l)) : (Reader.s2 : Decoder Int).runAt k p = .ok (fz_fs 16 (b.toNat * 256 + c.toNat), p + 2) := by
  rw [fz_fs_eq]
  show (Except.map _ ((Reader.u2 : Decoder Nat).runAt k p)) = _
  rw [fz_fb_u2 h]
  rfl
theorem fz_fl_lt {α : Type} : ∀ {l : List α} {k : Nat} {x : α}, zget l k = some x → k < l.length
  | [], _, _, h => by cases h
  | _ :: l, 0, _, _ => by
    rw [List.length_cons]
    omega
  | _ :: l, k + 1, _, h => by
    have := fz_fl_lt (l := l) (k := k) h
    rw [List.length_cons]
    omega
noncomputable def fz_op0 : List (Option fz_K) := [none, some (0, .aconst_null, (fun _ => .nop), (fun _ => .nop)), some (0, .iconst (-1), (fun _ => .nop), (fun _ => .nop)), some (0, .iconst 0, (fun _ => .nop), (fun _ => .nop)), some (0, .iconst 1, (fun _ => .nop), (fun _ => .nop)), some (0, .iconst 2, (fun _ => .nop), (fun _ => .nop)), some (0, .iconst 3, (fun _ => .nop), (fun _ => .nop)), some (0, .iconst 4, (fun _ => .nop), (fun _ => .nop)), some (0, .iconst 5, (fun _ => .nop), (fun _ => .nop)), some (0, .lconst 0, (fun _ => .nop), (fun _ => .nop)), some (0, .lconst 1, (fun _ => .nop), (fun _ => .nop)), none, none, none, none, none]
noncomputable def fz_op1 : List (Option fz_K) := [some (3, .nop, (fun _ => .nop), (fun n => .bipush n)), some (4, .nop, (fun _ => .nop), (fun n => .sipush n)), some (1, .nop, (fun n => .ldc n), (fun _ => .nop)), some (2, .nop, (fun n => .ldc_w n), (fun _ => .nop)), some (2, .nop, (fun n => .ldc2_w n), (fun _ => .nop)), some (1, .nop, (fun n => .iload n), (fun _ => .nop)), some (1, .nop, (fun n => .lload n), (fun _ => .nop)), none, none, some (1, .nop, (fun n => .aload n), (fun _ => .nop)), some (0, .iload_n 0, (fun _ => .nop), (fun _ => .nop)), some (0, .iload_n 1, (fun _ => .nop), (fun _ => .nop)), some (0, .iload_n 2, (fun _ => .nop), (fun _ => .nop)), some (0, .iload_n 3, (fun _ => .nop), (fun _ => .nop)), some (0, .lload_n 0, (fun _ => .nop), (fun _ => .nop)), some (0, .lload_n 1, (fun _ => .nop), (fun _ => .nop))]
noncomputable def fz_op2 : List (Option fz_K) := [some (0, .lload_n 2, (fun _ => .nop), (fun _ => .nop)), some (0, .lload_n 3, (fun _ => .nop), (fun _ => .nop)), none, none, none, none, none, none, none, none, some (0, .aload_n 0, (fun _ => .nop), (fun _ => .nop)), some (0, .aload_n 1, (fun _ => .nop), (fun _ => .nop)), some (0, .aload_n 2, (fun _ => .nop), (fun _ => .nop)), some (0, .aload_n 3, (fun _ => .nop), (fun _ => .nop)), some (0, .iaload, (fun _ => .nop), (fun _ => .nop)), some (0, .laload, (fun _ => .nop), (fun _ => .nop))]
noncomputable def fz_op3 : List (Option fz_K) := [none, none, some (0, .aaload, (fun _ => .nop), (fun _ => .nop)), some (0, .baload, (fun _ => .nop), (fun _ => .nop)), none, some (0, .saload, (fun _ => .nop), (fun _ => .nop)), some (1, .nop, (fun n => .istore n), (fun _ => .nop)), some (1, .nop, (fun n => .lstore n), (fun _ => .nop)), none, none, some (1, .nop, (fun n => .astore n), (fun _ => .nop)), some (0, .istore_n 0, (fun _ => .nop), (fun _ => .nop)), some (0, .istore_n 1, (fun _ => .nop), (fun _ => .nop)), some (0, .istore_n 2, (fun _ => .nop), (fun _ => .nop)), some (0, .istore_n 3, (fun _ => .nop), (fun _ => .nop)), some (0, .lstore_n 0, (fun _ => .nop), (fun _ => .nop))]
noncomputable def fz_op4 : List (Option fz_K) := [some (0, .lstore_n 1, (fun _ => .nop), (fun _ => .nop)), some (0, .lstore_n 2, (fun _ => .nop), (fun _ => .nop)), some (0, .lstore_n 3, (fun _ => .nop), (fun _ => .nop)), none, none, none, none, none, none, none, none, some (0, .astore_n 0, (fun _ => .nop), (fun _ => .nop)), some (0, .astore_n 1, (fun _ => .nop), (fun _ => .nop)), some (0, .astore_n 2, (fun _ => .nop), (fun _ => .nop)), some (0, .astore_n 3, (fun _ => .nop), (fun _ => .nop)), some (0, .iastore, (fun _ => .nop), (fun _ => .nop))]
noncomputable def fz_op5 : List (Option fz_K) := [some (0, .lastore, (fun _ => .nop), (fun _ => .nop)), none, none, some (0, .aastore, (fun _ => .nop), (fun _ => .nop)), some (0, .bastore, (fun _ => .nop), (fun _ => .nop)), none, none, some (0, .pop, (fun _ => .nop), (fun _ => .nop)), none, some (0, .dup, (fun _ => .nop), (fun _ => .nop)), none, none, some (0, .dup2, (fun _ => .nop), (fun _ => .nop)), none, none, none]
noncomputable def fz_op6 : List (Option fz_K) := [some (0, .iadd, (fun _ => .nop), (fun _ => .nop)), some (0, .ladd, (fun _ => .nop), (fun _ => .nop)), none, none, some (0, .isub, (fun _ => .nop), (fun _ => .nop)), none, none, none, some (0, .imul, (fun _ => .nop), (fun _ => .nop)), none, none, none, some (0, .idiv, (fun _ => .nop), (fun _ => .nop)), none, none, none]
noncomputable def fz_op7 : List (Option fz_K) := [some (0, .irem, (fun _ => .nop), (fun _ => .nop)), none, none, none, some (0, .ineg, (fun _ => .nop), (fun _ => .nop)), none, none, none, some (0, .ishl, (fun _ => .nop), (fun _ => .nop)), some (0, .lshl, (fun _ => .nop), (fun _ => .nop)), some (0, .ishr, (fun _ => .nop), (fun _ => .nop)), some (0, .lshr, (fun _ => .nop), (fun _ => .nop)), some (0, .iushr, (fun _ => .nop), (fun _ => .nop)), some (0, .lushr, (fun _ => .nop), (fun _ => .nop)), some (0, .iand, (fun _ => .nop), (fun _ => .nop)), some (0, .land, (fun _ => .nop), (fun _ => .nop))]
noncomputable def fz_op8 : List (Option fz_K) := [some (0, .ior, (fun _ => .nop), (fun _ => .nop)), some (0, .lor, (fun _ => .nop), (fun _ => .nop)), some (0, .ixor, (fun _ => .nop), (fun _ => .nop)), some (0, .lxor, (fun _ => .nop), (fun _ => .nop)), some (5, .nop, (fun _ => .nop), (fun _ => .nop)), some (0, .i2l, (fun _ => .nop), (fun _ => .nop)), none, none, some (0, .l2i, (fun _ => .nop), (fun _ => .nop)), none, none, none, none, none, none, none]
noncomputable def fz_op9 : List (Option fz_K) := [none, some (0, .i2b, (fun _ => .nop), (fun _ => .nop)), none, some (0, .i2s, (fun _ => .nop), (fun _ => .nop)), some (0, .lcmp, (fun _ => .nop), (fun _ => .nop)), none, none, none, none, some (4, .nop, (fun _ => .nop), (fun n => .ifCond .eq n)), some (4, .nop, (fun _ => .nop), (fun n => .ifCond .ne n)), some (4, .nop, (fun _ => .nop), (fun n => .ifCond .lt n)), some (4, .nop, (fun _ => .nop), (fun n => .ifCond .ge n)), some (4, .nop, (fun _ => .nop), (fun n => .ifCond .gt n)), some (4, .nop, (fun _ => .nop), (fun n => .ifCond .le n)), some (4, .nop, (fun _ => .nop), (fun n => .if_icmp .eq n))]
noncomputable def fz_op10 : List (Option fz_K) := [some (4, .nop, (fun _ => .nop), (fun n => .if_icmp .ne n)), some (4, .nop, (fun _ => .nop), (fun n => .if_icmp .lt n)), some (4, .nop, (fun _ => .nop), (fun n => .if_icmp .ge n)), some (4, .nop, (fun _ => .nop), (fun n => .if_icmp .gt n)), some (4, .nop, (fun _ => .nop), (fun n => .if_icmp .le n)), some (4, .nop, (fun _ => .nop), (fun n => .if_acmp .eq n)), some (4, .nop, (fun _ => .nop), (fun n => .if_acmp .ne n)), some (4, .nop, (fun _ => .nop), (fun n => .goto n)), none, none, none, none, some (0, .ireturn, (fun _ => .nop), (fun _ => .nop)), some (0, .lreturn, (fun _ => .nop), (fun _ => .nop)), none, none]
noncomputable def fz_op11 : List (Option fz_K) := [some (0, .areturn, (fun _ => .nop), (fun _ => .nop)), some (0, .return_, (fun _ => .nop), (fun _ => .nop)), some (2, .nop, (fun n => .getstatic n), (fun _ => .nop)), some (2, .nop, (fun n => .putstatic n), (fun _ => .nop)), some (2, .nop, (fun n => .getfield n), (fun _ => .nop)), some (2, .nop, (fun n => .putfield n), (fun _ => .nop)), some (2, .nop, (fun n => .invokevirtual n), (fun _ => .nop)), some (2, .nop, (fun n => .invokespecial n), (fun _ => .nop)), some (2, .nop, (fun n => .invokestatic n), (fun _ => .nop)), none, none, some (2, .nop, (fun n => .new n), (fun _ => .nop)), none, some (2, .nop, (fun n => .anewarray n), (fun _ => .nop)), some (0, .arraylength, (fun _ => .nop), (fun _ => .nop)), none]
noncomputable def fz_op12 : List (Option fz_K) := [none, none, none, none, none, none, some (4, .nop, (fun _ => .nop), (fun n => .ifnull n)), some (4, .nop, (fun _ => .nop), (fun n => .ifnonnull n))]
noncomputable def fz_op : List (List (Option fz_K)) := [fz_op0, fz_op1, fz_op2, fz_op3, fz_op4, fz_op5, fz_op6, fz_op7, fz_op8, fz_op9, fz_op10, fz_op11, fz_op12]
noncomputable def fz_kt (n : Nat) : Option fz_K := match zget fz_op (n / 16) with
  | some g => (match zget g (n % 16) with
    | some e => e
    | _ => none)
  | _ => none
noncomputable def fz_fd : List UInt8 → Option (Instr × Nat)
  | b :: r => (match fz_kt b.toNat with
    | some (0, i, _, _) => some (i, 1)
    | some (1, _, f, _) => (match r with
      | c :: _ => some (f c.toNat, 2)
      | _ => none)
    | some (2, _, f, _) => (match r with
      | c :: d :: _ => some (f (c.toNat * 256 + d.toNat), 3)
      | _ => none)
    | some (3, _, _, f) => (match r with
      | c :: _ => some (f (fz_fs 8 c.toNat), 2)
      | _ => none)
    | some (4, _, _, f) => (match r with
      | c :: d :: _ => some (f (fz_fs 16 (c.toNat * 256 + d.toNat)), 3)
      | _ => none)
    | some (5, _, _, _) => (match r with
      | c :: d :: _ => some (.iinc c.toNat (fz_fs 8 d.toNat), 3)
      | _ => none)
    | _ => none)
  | _ => none
/-- what an entry of the table says of the instruction that begins with its byte -/
noncomputable def fz_kS (k : fz_K) (r : Decoder Instr) : Prop := match k with
  | (0, i, _, _) => r = Pure.pure i
  | (1, _, f, _) => r = (do Pure.pure (f (← Reader.u1)))
  | (2, _, f, _) => r = (do Pure.pure (f (← Reader.u2)))
  | (3, _, _, f) => r = (do Pure.pure (f (← Reader.s1)))
  | (4, _, _, f) => r = (do Pure.pure (f (← Reader.s2)))
  | (5, _, _, _) => r = (do Pure.pure (.iinc (← Reader.u1) (← Reader.s1)))
  | _ => False
noncomputable def fz_ib (pc : Nat) (F : Nat → Decoder Instr) : Prop := Decoder.instr pc = Reader.u1 >>= F
theorem fz_ib_ex (pc : Nat) : ∃ F, fz_ib pc F ∧ fz_kS (0, .aconst_null, (fun _ => .nop), (fun _ => .nop)) (F 1) ∧ fz_kS (0, .iconst (-1), (fun _ => .nop), (fun _ => .nop)) (F 2) ∧ fz_kS (0, .iconst 0, (fun _ => .nop), (fun _ => .nop)) (F 3) ∧ fz_kS (0, .iconst 1, (fun _ => .nop), (fun _ => .nop)) (F 4) ∧ fz_kS (0, .iconst 2, (fun _ => .nop), (fun _ => .nop)) (F 5) ∧ fz_kS (0, .iconst 3, (fun _ => .nop), (fun _ => .nop)) (F 6) ∧ fz_kS (0, .iconst 4, (fun _ => .nop), (fun _ => .nop)) (F 7) ∧ fz_kS (0, .iconst 5, (fun _ => .nop), (fun _ => .nop)) (F 8) ∧ fz_kS (0, .lconst 0, (fun _ => .nop), (fun _ => .nop)) (F 9) ∧ fz_kS (0, .lconst 1, (fun _ => .nop), (fun _ => .nop)) (F 10) ∧ fz_kS (3, .nop, (fun _ => .nop), (fun n => .bipush n)) (F 16) ∧ fz_kS (4, .nop, (fun _ => .nop), (fun n => .sipush n)) (F 17) ∧ fz_kS (1, .nop, (fun n => .ldc n), (fun _ => .nop)) (F 18) ∧ fz_kS (2, .nop, (fun n => .ldc_w n), (fun _ => .nop)) (F 19) ∧ fz_kS (2, .nop, (fun n => .ldc2_w n), (fun _ => .nop)) (F 20) ∧ fz_kS (1, .nop, (fun n => .iload n), (fun _ => .nop)) (F 21) ∧ fz_kS (1, .nop, (fun n => .lload n), (fun _ => .nop)) (F 22) ∧ fz_kS (1, .nop, (fun n => .aload n), (fun _ => .nop)) (F 25) ∧ fz_kS (0, .iload_n 0, (fun _ => .nop), (fun _ => .nop)) (F 26) ∧ fz_kS (0, .iload_n 1, (fun _ => .nop), (fun _ => .nop)) (F 27) ∧ fz_kS (0, .iload_n 2, (fun _ => .nop), (fun _ => .nop)) (F 28) ∧ fz_kS (0, .iload_n 3, (fun _ => .nop), (fun _ => .nop)) (F 29) ∧ fz_kS (0, .lload_n 0, (fun _ => .nop), (fun _ => .nop)) (F 30) ∧ fz_kS (0, .lload_n 1, (fun _ => .nop), (fun _ => .nop)) (F 31) ∧ fz_kS (0, .lload_n 2, (fun _ => .nop), (fun _ => .nop)) (F 32) ∧ fz_kS (0, .lload_n 3, (fun _ => .nop), (fun _ => .nop)) (F 33) ∧ fz_kS (0, .aload_n 0, (fun _ => .nop), (fun _ => .nop)) (F 42) ∧ fz_kS (0, .aload_n 1, (fun _ => .nop), (fun _ => .nop)) (F 43) ∧ fz_kS (0, .aload_n 2, (fun _ => .nop), (fun _ => .nop)) (F 44) ∧ fz_kS (0, .aload_n 3, (fun _ => .nop), (fun _ => .nop)) (F 45) ∧ fz_kS (0, .iaload, (fun _ => .nop), (fun _ => .nop)) (F 46) ∧ fz_kS (0, .laload, (fun _ => .nop), (fun _ => .nop)) (F 47) ∧ fz_kS (0, .aaload, (fun _ => .nop), (fun _ => .nop)) (F 50) ∧ fz_kS (0, .baload, (fun _ => .nop), (fun _ => .nop)) (F 51) ∧ fz_kS (0, .saload, (fun _ => .nop), (fun _ => .nop)) (F 53) ∧ fz_kS (1, .nop, (fun n => .istore n), (fun _ => .nop)) (F 54) ∧ fz_kS (1, .nop, (fun n => .lstore n), (fun _ => .nop)) (F 55) ∧ fz_kS (1, .nop, (fun n => .astore n), (fun _ => .nop)) (F 58) ∧ fz_kS (0, .istore_n 0, (fun _ => .nop), (fun _ => .nop)) (F 59) ∧ fz_kS (0, .istore_n 1, (fun _ => .nop), (fun _ => .nop)) (F 60) ∧ fz_kS (0, .istore_n 2, (fun _ => .nop), (fun _ => .nop)) (F 61) ∧ fz_kS (0, .istore_n 3, (fun _ => .nop), (fun _ => .nop)) (F 62) ∧ fz_kS (0, .lstore_n 0, (fun _ => .nop), (fun _ => .nop)) (F 63) ∧ fz_kS (0, .lstore_n 1, (fun _ => .nop), (fun _ => .nop)) (F 64) ∧ fz_kS (0, .lstore_n 2, (fun _ => .nop), (fun _ => .nop)) (F 65) ∧ fz_kS (0, .lstore_n 3, (fun _ => .nop), (fun _ => .nop)) (F 66) ∧ fz_kS (0, .astore_n 0, (fun _ => .nop), (fun _ => .nop)) (F 75) ∧ fz_kS (0, .astore_n 1, (fun _ => .nop), (fun _ => .nop)) (F 76) ∧ fz_kS (0, .astore_n 2, (fun _ => .nop), (fun _ => .nop)) (F 77) ∧ fz_kS (0, .astore_n 3, (fun _ => .nop), (fun _ => .nop)) (F 78) ∧ fz_kS (0, .iastore, (fun _ => .nop), (fun _ => .nop)) (F 79) ∧ fz_kS (0, .lastore, (fun _ => .nop), (fun _ => .nop)) (F 80) ∧ fz_kS (0, .aastore, (fun _ => .nop), (fun _ => .nop)) (F 83) ∧ fz_kS (0, .bastore, (fun _ => .nop), (fun _ => .nop)) (F 84) ∧ fz_kS (0, .pop, (fun _ => .nop), (fun _ => .nop)) (F 87) ∧ fz_kS (0, .dup, (fun _ => .nop), (fun _ => .nop)) (F 89) ∧ fz_kS (0, .dup2, (fun _ => .nop), (fun _ => .nop)) (F 92) ∧ fz_kS (0, .iadd, (fun _ => .nop), (fun _ => .nop)) (F 96) ∧ fz_kS (0, .ladd, (fun _ => .nop), (fun _ => .nop)) (F 97) ∧ fz_kS (0, .isub, (fun _ => .nop), (fun _ => .nop)) (F 100) ∧ fz_kS (0, .imul, (fun _ => .nop), (fun _ => .nop)) (F 104) ∧ fz_kS (0, .idiv, (fun _ => .nop), (fun _ => .nop)) (F 108) ∧ fz_kS (0, .irem, (fun _ => .nop), (fun _ => .nop)) (F 112) ∧ fz_kS (0, .ineg, (fun _ => .nop), (fun _ => .nop)) (F 116) ∧ fz_kS (0, .ishl, (fun _ => .nop), (fun _ => .nop)) (F 120) ∧ fz_kS (0, .lshl, (fun _ => .nop), (fun _ => .nop)) (F 121) ∧ fz_kS (0, .ishr, (fun _ => .nop), (fun _ => .nop)) (F 122) ∧ fz_kS (0, .lshr, (fun _ => .nop), (fun _ => .nop)) (F 123) ∧ fz_kS (0, .iushr, (fun _ => .nop), (fun _ => .nop)) (F 124) ∧ fz_kS (0, .lushr, (fun _ => .nop), (fun _ => .nop)) (F 125) ∧ fz_kS (0, .iand, (fun _ => .nop), (fun _ => .nop)) (F 126) ∧ fz_kS (0, .land, (fun _ => .nop), (fun _ => .nop)) (F 127) ∧ fz_kS (0, .ior, (fun _ => .nop), (fun _ => .nop)) (F 128) ∧ fz_kS (0, .lor, (fun _ => .nop), (fun _ => .nop)) (F 129) ∧ fz_kS (0, .ixor, (fun _ => .nop), (fun _ => .nop)) (F 130) ∧ fz_kS (0, .lxor, (fun _ => .nop), (fun _ => .nop)) (F 131) ∧ fz_kS (5, .nop, (fun _ => .nop), (fun _ => .nop)) (F 132) ∧ fz_kS (0, .i2l, (fun _ => .nop), (fun _ => .nop)) (F 133) ∧ fz_kS (0, .l2i, (fun _ => .nop), (fun _ => .nop)) (F 136) ∧ fz_kS (0, .i2b, (fun _ => .nop), (fun _ => .nop)) (F 145) ∧ fz_kS (0, .i2s, (fun _ => .nop), (fun _ => .nop)) (F 147) ∧ fz_kS (0, .lcmp, (fun _ => .nop), (fun _ => .nop)) (F 148) ∧ fz_kS (4, .nop, (fun _ => .nop), (fun n => .ifCond .eq n)) (F 153) ∧ fz_kS (4, .nop, (fun _ => .nop), (fun n => .ifCond .ne n)) (F 154) ∧ fz_kS (4, .nop, (fun _ => .nop), (fun n => .ifCond .lt n)) (F 155) ∧ fz_kS (4, .nop, (fun _ => .nop), (fun n => .ifCond .ge n)) (F 156) ∧ fz_kS (4, .nop, (fun _ => .nop), (fun n => .ifCond .gt n)) (F 157) ∧ fz_kS (4, .nop, (fun _ => .nop), (fun n => .ifCond .le n)) (F 158) ∧ fz_kS (4, .nop, (fun _ => .nop), (fun n => .if_icmp .eq n)) (F 159) ∧ fz_kS (4, .nop, (fun _ => .nop), (fun n => .if_icmp .ne n)) (F 160) ∧ fz_kS (4, .nop, (fun _ => .nop), (fun n => .if_icmp .lt n)) (F 161) ∧ fz_kS (4, .nop, (fun _ => .nop), (fun n => .if_icmp .ge n)) (F 162) ∧ fz_kS (4, .nop, (fun _ => .nop), (fun n => .if_icmp .gt n)) (F 163) ∧ fz_kS (4, .nop, (fun _ => .nop), (fun n => .if_icmp .le n)) (F 164) ∧ fz_kS (4, .nop, (fun _ => .nop), (fun n => .if_acmp .eq n)) (F 165) ∧ fz_kS (4, .nop, (fun _ => .nop), (fun n => .if_acmp .ne n)) (F 166) ∧ fz_kS (4, .nop, (fun _ => .nop), (fun n => .goto n)) (F 167) ∧ fz_kS (0, .ireturn, (fun _ => .nop), (fun _ => .nop)) (F 172) ∧ fz_kS (0, .lreturn, (fun _ => .nop), (fun _ => .nop)) (F 173) ∧ fz_kS (0, .areturn, (fun _ => .nop), (fun _ => .nop)) (F 176) ∧ fz_kS (0, .return_, (fun _ => .nop), (fun _ => .nop)) (F 177) ∧ fz_kS (2, .nop, (fun n => .getstatic n), (fun _ => .nop)) (F 178) ∧ fz_kS (2, .nop, (fun n => .putstatic n), (fun _ => .nop)) (F 179) ∧ fz_kS (2, .nop, (fun n => .getfield n), (fun _ => .nop)) (F 180) ∧ fz_kS (2, .nop, (fun n => .putfield n), (fun _ => .nop)) (F 181) ∧ fz_kS (2, .nop, (fun n => .invokevirtual n), (fun _ => .nop)) (F 182) ∧ fz_kS (2, .nop, (fun n => .invokespecial n), (fun _ => .nop)) (F 183) ∧ fz_kS (2, .nop, (fun n => .invokestatic n), (fun _ => .nop)) (F 184) ∧ fz_kS (2, .nop, (fun n => .new n), (fun _ => .nop)) (F 187) ∧ fz_kS (2, .nop, (fun n => .anewarray n), (fun _ => .nop)) (F 189) ∧ fz_kS (0, .arraylength, (fun _ => .nop), (fun _ => .nop)) (F 190) ∧ fz_kS (4, .nop, (fun _ => .nop), (fun n => .ifnull n)) (F 198) ∧ fz_kS (4, .nop, (fun _ => .nop), (fun n => .ifnonnull n)) (F 199) :=
  ⟨_, rfl, rfl, rfl, rfl, rfl, rfl, rfl, rfl, rfl, rfl, rfl, rfl, rfl, rfl, rfl, rfl, rfl, rfl, rfl, rfl, rfl, rfl, rfl, rfl, rfl, rfl, rfl, rfl, rfl, rfl, rfl, rfl, rfl, rfl, rfl, rfl, rfl, rfl, rfl, rfl, rfl, rfl, rfl, rfl, rfl, rfl, rfl, rfl, rfl, rfl, rfl, rfl, rfl, rfl, rfl, rfl, rfl, rfl, rfl, rfl, rfl, rfl, rfl, rfl, rfl, rfl, rfl, rfl, rfl, rfl, rfl, rfl, rfl, rfl, rfl, rfl, rfl, rfl, rfl, rfl, rfl, rfl, rfl, rfl, rfl, rfl, rfl, rfl, rfl, rfl, rfl, rfl, rfl, rfl, rfl, rfl, rfl, rfl, rfl, rfl, rfl, rfl, rfl, rfl, rfl, rfl, rfl, rfl, rfl, rfl, rfl, rfl, rfl, rfl⟩
theorem fz_kt_ok (pc : Nat) : ∃ F, fz_ib pc F ∧ ∀ n k, fz_kt n = some k → fz_kS k (F n) := by
  obtain ⟨F, h, hs⟩ := fz_ib_ex pc
  refine ⟨F, h, ?_⟩
  obtain ⟨h1_s, h2_s, h3_s, h4_s, h5_s, h6_s, h7_s, h8_s, h9_s, h10_s, h16_s, h17_s, h18_s, h19_s, h20_s, h21_s, h22_s, h25_s, h26_s, h27_s, h28_s, h29_s, h30_s, h31_s, h32_s, h33_s, h42_s, h43_s, h44_s, h45_s, h46_s, h47_s, h50_s, h51_s, h53_s, h54_s, h55_s, h58_s, h59_s, h60_s, h61_s, h62_s, h63_s, h64_s, h65_s, h66_s, h75_s, h76_s, h77_s, h78_s, h79_s, h80_s, h83_s, h84_s, h87_s, h89_s, h92_s, h96_s, h97_s, h100_s, h104_s, h108_s, h112_s, h116_s, h120_s, h121_s, h122_s, h123_s, h124_s, h125_s, h126_s, h127_s, h128_s, h129_s, h130_s, h131_s, h132_s, h133_s, h136_s, h145_s, h147_s, h148_s, h153_s, h154_s, h155_s, h156_s, h157_s, h158_s, h159_s, h160_s, h161_s, h162_s, h163_s, h164_s, h165_s, h166_s, h167_s, h172_s, h173_s, h176_s, h177_s, h178_s, h179_s, h180_s, h181_s, h182_s, h183_s, h184_s, h187_s, h189_s, h190_s, h198_s, h199_s⟩ := hs
  intro n k e
  match n, e with
  | 0, e => cases e
  | 1, e =>
    cases e
    exact h1_s
  | 2, e =>
    cases e
    exact h2_s
  | 3, e =>
    cases e
    exact h3_s
  | 4, e =>
    cases e
    exact h4_s
  | 5, e =>
    cases e
    exact h5_s
  | 6, e =>
    cases e
    exact h6_s
  | 7, e =>
    cases e
    exact h7_s
  | 8, e =>
    cases e
    exact h8_s
  | 9, e =>
    cases e
    exact h9_s
  | 10, e =>
    cases e
    exact h10_s
  | 11, e => cases e
  | 12, e => cases e
  | 13, e => cases e
  | 14, e => cases e
  | 15, e => cases e
  | 16, e =>
    cases e
    exact h16_s
  | 17, e =>
    cases e
    exact h17_s
  | 18, e =>
    cases e
    exact h18_s
  | 19, e =>
    cases e
    exact h19_s
  | 20, e =>
    cases e
    exact h20_s
  | 21, e =>
    cases e
    exact h21_s
  | 22, e =>
    cases e
    exact h22_s
  | 23, e => cases e
  | 24, e => cases e
  | 25, e =>
    cases e
    exact h25_s
  | 26, e =>
    cases e
    exact h26_s
  | 27, e =>
    cases e
    exact h27_s
  | 28, e =>
    cases e
    exact h28_s
  | 29, e =>
    cases e
    exact h29_s
  | 30, e =>
    cases e
    exact h30_s
  | 31, e =>
    cases e
    exact h31_s
  | 32, e =>
    cases e
    exact h32_s
  | 33, e =>
    cases e
    exact h33_s
  | 34, e => cases e
  | 35, e => cases e
  | 36, e => cases e
  | 37, e => cases e
  | 38, e => cases e
  | 39, e => cases e
  | 40, e => cases e
  | 41, e => cases e
  | 42, e =>
    cases e
    exact h42_s
  | 43, e =>
    cases e
    exact h43_s
  | 44, e =>
    cases e
    exact h44_s
  | 45, e =>
    cases e
    exact h45_s
  | 46, e =>
    cases e
    exact h46_s
  | 47, e =>
    cases e
    exact h47_s
  | 48, e => cases e
  | 49, e => cases e
  | 50, e =>
    cases e
    exact h50_s
  | 51, e =>
    cases e
    exact h51_s
  | 52, e => cases e
  | 53, e =>
    cases e
    exact h53_s
  | 54, e =>
    cases e
    exact h54_s
  | 55, e =>
    cases e
    exact h55_s
  | 56, e => cases e
  | 57, e => cases e
  | 58, e =>
    cases e
    exact h58_s
  | 59, e =>
    cases e
    exact h59_s
  | 60, e =>
    cases e
    exact h60_s
  | 61, e =>
    cases e
    exact h61_s
  | 62, e =>
    cases e
    exact h62_s
  | 63, e =>
    cases e
    exact h63_s
  | 64, e =>
    cases e
    exact h64_s
  | 65, e =>
    cases e
    exact h65_s
  | 66, e =>
    cases e
    exact h66_s
  | 67, e => cases e
  | 68, e => cases e
  | 69, e => cases e
  | 70, e => cases e
  | 71, e => cases e
  | 72, e => cases e
  | 73, e => cases e
  | 74, e => cases e
  | 75, e =>
    cases e
    exact h75_s
  | 76, e =>
    cases e
    exact h76_s
  | 77, e =>
    cases e
    exact h77_s
  | 78, e =>
    cases e
    exact h78_s
  | 79, e =>
    cases e
    exact h79_s
  | 80, e =>
    cases e
    exact h80_s
  | 81, e => cases e
  | 82, e => cases e
  | 83, e =>
    cases e
    exact h83_s
  | 84, e =>
    cases e
    exact h84_s
  | 85, e => cases e
  | 86, e => cases e
  | 87, e =>
    cases e
    exact h87_s
  | 88, e => cases e
  | 89, e =>
    cases e
    exact h89_s
  | 90, e => cases e
  | 91, e => cases e
  | 92, e =>
    cases e
    exact h92_s
  | 93, e => cases e
  | 94, e => cases e
  | 95, e => cases e
  | 96, e =>
    cases e
    exact h96_s
  | 97, e =>
    cases e
    exact h97_s
  | 98, e => cases e
  | 99, e => cases e
  | 100, e =>
    cases e
    exact h100_s
  | 101, e => cases e
  | 102, e => cases e
  | 103, e => cases e
  | 104, e =>
    cases e
    exact h104_s
  | 105, e => cases e
  | 106, e => cases e
  | 107, e => cases e
  | 108, e =>
    cases e
    exact h108_s
  | 109, e => cases e
  | 110, e => cases e
  | 111, e => cases e
  | 112, e =>
    cases e
    exact h112_s
  | 113, e => cases e
  | 114, e => cases e
  | 115, e => cases e
  | 116, e =>
    cases e
    exact h116_s
  | 117, e => cases e
  | 118, e => cases e
  | 119, e => cases e
  | 120, e =>
    cases e
    exact h120_s
  | 121, e =>
    cases e
    exact h121_s
  | 122, e =>
    cases e
    exact h122_s
  | 123, e =>
    cases e
    exact h123_s
  | 124, e =>
    cases e
    exact h124_s
  | 125, e =>
    cases e
    exact h125_s
  | 126, e =>
    cases e
    exact h126_s
  | 127, e =>
    cases e
    exact h127_s
  | 128, e =>
    cases e
    exact h128_s
  | 129, e =>
    cases e
    exact h129_s
  | 130, e =>
    cases e
    exact h130_s
  | 131, e =>
    cases e
    exact h131_s
  | 132, e =>
    cases e
    exact h132_s
  | 133, e =>
    cases e
    exact h133_s
  | 134, e => cases e
  | 135, e => cases e
  | 136, e =>
    cases e
    exact h136_s
  | 137, e => cases e
  | 138, e => cases e
  | 139, e => cases e
  | 140, e => cases e
  | 141, e => cases e
  | 142, e => cases e
  | 143, e => cases e
  | 144, e => cases e
  | 145, e =>
    cases e
    exact h145_s
  | 146, e => cases e
  | 147, e =>
    cases e
    exact h147_s
  | 148, e =>
    cases e
    exact h148_s
  | 149, e => cases e
  | 150, e => cases e
  | 151, e => cases e
  | 152, e => cases e
  | 153, e =>
    cases e
    exact h153_s
  | 154, e =>
    cases e
    exact h154_s
  | 155, e =>
    cases e
    exact h155_s
  | 156, e =>
    cases e
    exact h156_s
  | 157, e =>
    cases e
    exact h157_s
  | 158, e =>
    cases e
    exact h158_s
  | 159, e =>
    cases e
    exact h159_s
  | 160, e =>
    cases e
    exact h160_s
  | 161, e =>
    cases e
    exact h161_s
  | 162, e =>
    cases e
    exact h162_s
  | 163, e =>
    cases e
    exact h163_s
  | 164, e =>
    cases e
    exact h164_s
  | 165, e =>
    cases e
    exact h165_s
  | 166, e =>
    cases e
    exact h166_s
  | 167, e =>
    cases e
    exact h167_s
  | 168, e => cases e
  | 169, e => cases e
  | 170, e => cases e
  | 171, e => cases e
  | 172, e =>
    cases e
    exact h172_s
  | 173, e =>
    cases e
    exact h173_s
  | 174, e => cases e
  | 175, e => cases e
  | 176, e =>
    cases e
    exact h176_s
  | 177, e =>
    cases e
    exact h177_s
  | 178, e =>
    cases e
    exact h178_s
  | 179, e =>
    cases e
    exact h179_s
  | 180, e =>
    cases e
    exact h180_s
  | 181, e =>
    cases e
    exact h181_s
  | 182, e =>
    cases e
    exact h182_s
  | 183, e =>
    cases e
    exact h183_s
  | 184, e =>
    cases e
    exact h184_s
  | 185, e => cases e
  | 186, e => cases e
  | 187, e =>
    cases e
    exact h187_s
  | 188, e => cases e
  | 189, e =>
    cases e
    exact h189_s
  | 190, e =>
    cases e
    exact h190_s
  | 191, e => cases e
  | 192, e => cases e
  | 193, e => cases e
  | 194, e => cases e
  | 195, e => cases e
  | 196, e => cases e
  | 197, e => cases e
  | 198, e =>
    cases e
    exact h198_s
  | 199, e =>
    cases e
    exact h199_s
  | n + 200, e =>
    exfalso
    unfold fz_kt at e
    cases h1_s : zget fz_op ((n + 200) / 16) with
    | none =>
      rw [h1_s] at e
      cases e
    | some g_s =>
      rw [h1_s] at e
      have l1_s : (n + 200) / 16 < 13 := fz_fl_lt h1_s
      have l2_s : (n + 200) / 16 = 12 := by omega
      rw [l2_s] at h1_s
      cases h1_s
      dsimp only at e
      cases h3_s : zget fz_op12 ((n + 200) % 16) with
      | none =>
        rw [h3_s] at e
        cases e
      | some q_s =>
        have l3_s : (n + 200) % 16 < 8 := fz_fl_lt h3_s
        omega
theorem fz_fd_ok {k : ByteArray} {p n : Nat} {i : Instr} {l : List UInt8} (hl : fz_fb k p l) (h : fz_fd l = some (i, n)) : decode k p = .ok (i, n) := by
  obtain ⟨F, hF, hs⟩ := fz_kt_ok p
  have key : (Decoder.instr p).runAt k p = .ok (i, p + n) → decode k p = .ok (i, n) := fun c_s => by
    unfold decode
    rw [c_s]
    show Except.ok (i, p + n - p) = _
    rw [Nat.add_sub_cancel_left]
  apply key
  rw [show Decoder.instr p = Reader.u1 >>= F from hF]
  match l, hl, h with
  | [], _, h => cases h
  | b :: r, hl, h =>
    unfold fz_fd at h
    dsimp only at h
    refine (fz_ub (fz_fb_u1 hl)).trans ?_
    have hr := fz_fb_next hl
    cases e_s : fz_kt b.toNat with
    | none =>
      rw [e_s] at h
      cases h
    | some t_s =>
      have z_s := hs _ _ e_s
      rw [e_s] at h
      match t_s, z_s, h with
      | (0, i_s, _, _), z_s, h =>
        rw [show F b.toNat = Pure.pure i_s from z_s]
        cases h
        rfl
      | (1, _, f_s, _), z_s, h =>
        rw [show F b.toNat = (do Pure.pure (f_s (← Reader.u1))) from z_s]
        match r, hr, h with
        | c_s :: r_s, hr, h =>
          cases h
          exact (fz_gb (fz_fb_u1 hr)).trans rfl
      | (2, _, f_s, _), z_s, h =>
        rw [show F b.toNat = (do Pure.pure (f_s (← Reader.u2))) from z_s]
        match r, hr, h with
        | c_s :: d_s :: r_s, hr, h =>
          cases h
          exact (fz_gb (fz_fb_u2 hr)).trans rfl
      | (3, _, _, f_s), z_s, h =>
        rw [show F b.toNat = (do Pure.pure (f_s (← Reader.s1))) from z_s]
        match r, hr, h with
        | c_s :: r_s, hr, h =>
          cases h
          exact (fz_gb (fz_fb_s1 hr)).trans rfl
      | (4, _, _, f_s), z_s, h =>
        rw [show F b.toNat = (do Pure.pure (f_s (← Reader.s2))) from z_s]
        match r, hr, h with
        | c_s :: d_s :: r_s, hr, h =>
          cases h
          exact (fz_gb (fz_fb_s2 hr)).trans rfl
      | (5, _, _, _), z_s, h =>
        rw [show F b.toNat = (do Pure.pure (.iinc (← Reader.u1) (← Reader.s1))) from z_s]
        match r, hr, h with
        | c_s :: d_s :: r_s, hr, h =>
          cases h
          exact (fz_gb (fz_fb_u1 hr)).trans ((fz_gb (fz_fb_s1 (fz_fb_next hr))).trans rfl)
      | (k_s + 6, _, _, _), z_s, h => cases h
/-- the checks of a method's instructions, with its bytes at hand -/
noncomputable def fz_ckF (M : zM) : Nat → List UInt8 → List (Option zI) → Bool
  | _, _, [] => true
  | pc, l, none :: r => fz_ckF M (pc + 1) (l.drop 1) r
  | pc, l, some e :: r => (match fz_fd l with
    | some (i, n) => decide (n = e.2.1) && zcI M pc e i
    | none => zchk M pc e) && fz_ckF M (pc + 1) (l.drop 1) r
noncomputable def fz_ckH (M : zM) : Nat → List UInt8 → List (List (Option zI)) → Bool
  | _, _, [] => true
  | pc, l, r :: t => fz_ckF M pc l r && fz_ckH M (pc + 16) (l.drop 16) t
theorem fz_ckF_ok {M : zM} : ∀ {r : List (Option zI)} {pc : Nat} {l : List UInt8}, fz_fb M.2.1 pc l → fz_ckF M pc l r = true → zckR M pc r = true
  | [], _, _, _, _ => rfl
  | none :: r, pc, l, hl, h => by
    unfold fz_ckF at h
    unfold zckR
    exact fz_ckF_ok (l := l.drop 1) (by rw [← hl, List.drop_drop]) h
  | some e :: r, pc, l, hl, h => by
    unfold fz_ckF at h
    unfold zckR
    rw [Bool.and_eq_true] at h
    rw [Bool.and_eq_true]
    refine ⟨?_, fz_ckF_ok (l := l.drop 1) (by rw [← hl, List.drop_drop]) h.2⟩
    have h1 := h.1
    cases c_s : fz_fd l with
    | none =>
      rw [c_s] at h1
      exact h1
    | some q_s =>
      obtain ⟨i, n⟩ := q_s
      rw [c_s] at h1
      unfold zchk
      rw [fz_fd_ok hl c_s]
      exact h1
theorem fz_ckH_ok {M : zM} : ∀ {t : List (List (Option zI))} {pc : Nat} {l : List UInt8}, fz_fb M.2.1 pc l → fz_ckH M pc l t = true → zckT M pc t = true
  | [], _, _, _, _ => rfl
  | r :: t, pc, l, hl, h => by
    unfold fz_ckH at h
    unfold zckT
    rw [Bool.and_eq_true] at h
    rw [Bool.and_eq_true]
    exact ⟨fz_ckF_ok hl h.1, fz_ckH_ok (l := l.drop 16) (by rw [← hl, List.drop_drop]) h.2⟩
noncomputable def fz_ckN (mi : Nat) (t : List (List (Option zI))) : Bool := match zm mi with
  | some M => fz_ckH M 0 M.2.1.data.toList t
  | _ => false
theorem fz_ckN_ok {mi : Nat} {t : List (List (Option zI))} (h : fz_ckN mi t = true) : zckM mi t = true := by
  unfold fz_ckN at h
  unfold zckM
  cases c_s : zm mi with
  | none =>
    rw [c_s] at h
    cases h
  | some M =>
    rw [c_s] at h
    exact fz_ckH_ok (List.drop_zero) h
/-! the checks of instructions by recursors and small functions: printed by wip/gen/mkckw.py -/
noncomputable def zbq {α : Type} (c_s : Bool) (a_s b_s : α) : α := Bool.rec (motive := fun _ => α) b_s a_s c_s
noncomputable def zcIw32 (M_s : zM) (len_s a_s b_s c_s : Nat) (sw_s : List (Int32 × Nat)) (i_s : Instr) : Bool := Option.rec (motive := fun _ => Bool) false (fun M2_s => zc32 M_s.1.cls len_s a_s b_s (c_s % 4) (c_s / 4) sw_s M2_s i_s) (zm a_s)
noncomputable def zcIw_0 (M_s : zM) (pc : Nat) (e_s : zI) (i_s : Instr) : Bool := zbq (Nat.blt e_s.1 1) (zc0 M_s.1.cls e_s.2.1 e_s.2.2.2.2.2.1 e_s.2.2.2.2.2.2 i_s) (zc1 e_s.2.1 e_s.2.2.1 i_s)
noncomputable def zcIw_1 (M_s : zM) (pc : Nat) (e_s : zI) (i_s : Instr) : Bool := zbq (Nat.blt e_s.1 4) (zc3 e_s.2.1 e_s.2.2.1 i_s) (zc4 M_s.2.2.1 e_s.2.1 e_s.2.2.1 i_s)
noncomputable def zcIw_2 (M_s : zM) (pc : Nat) (e_s : zI) (i_s : Instr) : Bool := zbq (Nat.blt e_s.1 3) (zc2 e_s.2.1 e_s.2.2.1 i_s) (zcIw_1 M_s pc e_s i_s)
noncomputable def zcIw_3 (M_s : zM) (pc : Nat) (e_s : zI) (i_s : Instr) : Bool := zbq (Nat.blt e_s.1 2) (zcIw_0 M_s pc e_s i_s) (zcIw_2 M_s pc e_s i_s)
noncomputable def zcIw_4 (M_s : zM) (pc : Nat) (e_s : zI) (i_s : Instr) : Bool := zbq (Nat.blt e_s.1 7) (zc6 M_s.2.2.1 e_s.2.1 e_s.2.2.1 i_s) (zc7 e_s.2.1 e_s.2.2.2.1 i_s)
noncomputable def zcIw_5 (M_s : zM) (pc : Nat) (e_s : zI) (i_s : Instr) : Bool := zbq (Nat.blt e_s.1 6) (zc5 M_s.2.2.1 e_s.2.1 e_s.2.2.1 i_s) (zcIw_4 M_s pc e_s i_s)
noncomputable def zcIw_6 (M_s : zM) (pc : Nat) (e_s : zI) (i_s : Instr) : Bool := zbq (Nat.blt e_s.1 10) (zc9 e_s.2.1 e_s.2.2.2.1 i_s) (zc10 e_s.2.1 i_s)
noncomputable def zcIw_7 (M_s : zM) (pc : Nat) (e_s : zI) (i_s : Instr) : Bool := zbq (Nat.blt e_s.1 9) (zc8 e_s.2.1 e_s.2.2.2.1 i_s) (zcIw_6 M_s pc e_s i_s)
noncomputable def zcIw_8 (M_s : zM) (pc : Nat) (e_s : zI) (i_s : Instr) : Bool := zbq (Nat.blt e_s.1 8) (zcIw_5 M_s pc e_s i_s) (zcIw_7 M_s pc e_s i_s)
noncomputable def zcIw_9 (M_s : zM) (pc : Nat) (e_s : zI) (i_s : Instr) : Bool := zbq (Nat.blt e_s.1 5) (zcIw_3 M_s pc e_s i_s) (zcIw_8 M_s pc e_s i_s)
noncomputable def zcIw_10 (M_s : zM) (pc : Nat) (e_s : zI) (i_s : Instr) : Bool := zbq (Nat.blt e_s.1 12) (zc11 e_s.2.1 i_s) (zc12 e_s.2.1 e_s.2.2.2.1 i_s)
noncomputable def zcIw_11 (M_s : zM) (pc : Nat) (e_s : zI) (i_s : Instr) : Bool := zbq (Nat.blt e_s.1 15) (zc14 e_s.2.1 i_s) (zc15 pc e_s.2.1 e_s.2.2.1 e_s.2.2.2.1 i_s)
noncomputable def zcIw_12 (M_s : zM) (pc : Nat) (e_s : zI) (i_s : Instr) : Bool := zbq (Nat.blt e_s.1 14) (zc13 e_s.2.1 i_s) (zcIw_11 M_s pc e_s i_s)
noncomputable def zcIw_13 (M_s : zM) (pc : Nat) (e_s : zI) (i_s : Instr) : Bool := zbq (Nat.blt e_s.1 13) (zcIw_10 M_s pc e_s i_s) (zcIw_12 M_s pc e_s i_s)
noncomputable def zcIw_14 (M_s : zM) (pc : Nat) (e_s : zI) (i_s : Instr) : Bool := zbq (Nat.blt e_s.1 18) (zc17 pc e_s.2.1 e_s.2.2.1 i_s) (zc18 pc e_s.2.2.1 e_s.2.2.2.2.2.2 i_s)
noncomputable def zcIw_15 (M_s : zM) (pc : Nat) (e_s : zI) (i_s : Instr) : Bool := zbq (Nat.blt e_s.1 17) (zc16 pc e_s.2.1 e_s.2.2.1 e_s.2.2.2.1 i_s) (zcIw_14 M_s pc e_s i_s)
noncomputable def zcIw_16 (M_s : zM) (pc : Nat) (e_s : zI) (i_s : Instr) : Bool := zbq (Nat.blt e_s.1 21) (zc20 M_s.1.cls e_s.2.1 e_s.2.2.1 e_s.2.2.2.1 e_s.2.2.2.2.1 e_s.2.2.2.2.2.2 i_s) (zc21 M_s.1 e_s.2.1 e_s.2.2.1 e_s.2.2.2.1 e_s.2.2.2.2.1 e_s.2.2.2.2.2.2 i_s)
noncomputable def zcIw_17 (M_s : zM) (pc : Nat) (e_s : zI) (i_s : Instr) : Bool := zbq (Nat.blt e_s.1 20) (zc19 M_s.2.2.1 e_s.2.1 e_s.2.2.1 e_s.2.2.2.2.2.1 i_s) (zcIw_16 M_s pc e_s i_s)
noncomputable def zcIw_18 (M_s : zM) (pc : Nat) (e_s : zI) (i_s : Instr) : Bool := zbq (Nat.blt e_s.1 19) (zcIw_15 M_s pc e_s i_s) (zcIw_17 M_s pc e_s i_s)
noncomputable def zcIw_19 (M_s : zM) (pc : Nat) (e_s : zI) (i_s : Instr) : Bool := zbq (Nat.blt e_s.1 16) (zcIw_13 M_s pc e_s i_s) (zcIw_18 M_s pc e_s i_s)
noncomputable def zcIw_20 (M_s : zM) (pc : Nat) (e_s : zI) (i_s : Instr) : Bool := zbq (Nat.blt e_s.1 11) (zcIw_9 M_s pc e_s i_s) (zcIw_19 M_s pc e_s i_s)
noncomputable def zcIw_21 (M_s : zM) (pc : Nat) (e_s : zI) (i_s : Instr) : Bool := zbq (Nat.blt e_s.1 23) (zc22 e_s.2.1 i_s) (zc23 e_s.2.1 i_s)
noncomputable def zcIw_22 (M_s : zM) (pc : Nat) (e_s : zI) (i_s : Instr) : Bool := zbq (Nat.blt e_s.1 26) (zc25 e_s.2.1 i_s) (zc26 e_s.2.1 i_s)
noncomputable def zcIw_23 (M_s : zM) (pc : Nat) (e_s : zI) (i_s : Instr) : Bool := zbq (Nat.blt e_s.1 25) (zc24 e_s.2.1 i_s) (zcIw_22 M_s pc e_s i_s)
noncomputable def zcIw_24 (M_s : zM) (pc : Nat) (e_s : zI) (i_s : Instr) : Bool := zbq (Nat.blt e_s.1 24) (zcIw_21 M_s pc e_s i_s) (zcIw_23 M_s pc e_s i_s)
noncomputable def zcIw_25 (M_s : zM) (pc : Nat) (e_s : zI) (i_s : Instr) : Bool := zbq (Nat.blt e_s.1 29) (zc28 e_s.2.1 i_s) (zc29 M_s.1.cls e_s.2.1 e_s.2.2.1 e_s.2.2.2.1 e_s.2.2.2.2.2.2 i_s)
noncomputable def zcIw_26 (M_s : zM) (pc : Nat) (e_s : zI) (i_s : Instr) : Bool := zbq (Nat.blt e_s.1 28) (zc27 e_s.2.1 i_s) (zcIw_25 M_s pc e_s i_s)
noncomputable def zcIw_27 (M_s : zM) (pc : Nat) (e_s : zI) (i_s : Instr) : Bool := zbq (Nat.blt e_s.1 32) (zc31 M_s.1.cls e_s.2.1 e_s.2.2.2.1 e_s.2.2.2.2.2.2 i_s) (zcIw32 M_s e_s.2.1 e_s.2.2.1 e_s.2.2.2.1 e_s.2.2.2.2.1 e_s.2.2.2.2.2.2 i_s)
noncomputable def zcIw_28 (M_s : zM) (pc : Nat) (e_s : zI) (i_s : Instr) : Bool := zbq (Nat.blt e_s.1 31) (zc30 M_s.1.cls e_s.2.1 e_s.2.2.1 e_s.2.2.2.2.2.2 i_s) (zcIw_27 M_s pc e_s i_s)
noncomputable def zcIw_29 (M_s : zM) (pc : Nat) (e_s : zI) (i_s : Instr) : Bool := zbq (Nat.blt e_s.1 30) (zcIw_26 M_s pc e_s i_s) (zcIw_28 M_s pc e_s i_s)
noncomputable def zcIw_30 (M_s : zM) (pc : Nat) (e_s : zI) (i_s : Instr) : Bool := zbq (Nat.blt e_s.1 27) (zcIw_24 M_s pc e_s i_s) (zcIw_29 M_s pc e_s i_s)
noncomputable def zcIw_31 (M_s : zM) (pc : Nat) (e_s : zI) (i_s : Instr) : Bool := zbq (Nat.blt e_s.1 35) (zc34 M_s.1.cls e_s.2.1 e_s.2.2.2.2.2.2 i_s) (zc35 e_s.2.1 e_s.2.2.2.2.1 M_s.2.2.2.1 i_s)
noncomputable def zcIw_32 (M_s : zM) (pc : Nat) (e_s : zI) (i_s : Instr) : Bool := zbq (Nat.blt e_s.1 34) (zc33 M_s.1.cls e_s.2.1 e_s.2.2.2.2.2.2 i_s) (zcIw_31 M_s pc e_s i_s)
noncomputable def zcIw_33 (M_s : zM) (pc : Nat) (e_s : zI) (i_s : Instr) : Bool := zbq (Nat.blt e_s.1 38) (zc37 e_s.2.1 M_s.2.2.2.1 i_s) (zc38 e_s.2.1 M_s.2.2.2.1 i_s)
noncomputable def zcIw_34 (M_s : zM) (pc : Nat) (e_s : zI) (i_s : Instr) : Bool := zbq (Nat.blt e_s.1 37) (zc36 e_s.2.1 M_s.2.2.2.1 i_s) (zcIw_33 M_s pc e_s i_s)
noncomputable def zcIw_35 (M_s : zM) (pc : Nat) (e_s : zI) (i_s : Instr) : Bool := zbq (Nat.blt e_s.1 36) (zcIw_32 M_s pc e_s i_s) (zcIw_34 M_s pc e_s i_s)
noncomputable def zcIw_36 (M_s : zM) (pc : Nat) (e_s : zI) (i_s : Instr) : Bool := zbq (Nat.blt e_s.1 41) (zc40 e_s.2.1 i_s) (zc41 e_s.2.1 i_s)
noncomputable def zcIw_37 (M_s : zM) (pc : Nat) (e_s : zI) (i_s : Instr) : Bool := zbq (Nat.blt e_s.1 40) (zc39 e_s.2.1 i_s) (zcIw_36 M_s pc e_s i_s)
noncomputable def zcIw_38 (M_s : zM) (pc : Nat) (e_s : zI) (i_s : Instr) : Bool := zbq (Nat.blt e_s.1 44) (zc43 M_s.1.cls e_s.2.1 e_s.2.2.1 e_s.2.2.2.2.1 e_s.2.2.2.2.2.2 i_s) (zc44 e_s.2.1 i_s)
noncomputable def zcIw_39 (M_s : zM) (pc : Nat) (e_s : zI) (i_s : Instr) : Bool := zbq (Nat.blt e_s.1 43) (zc42 e_s.2.1 i_s) (zcIw_38 M_s pc e_s i_s)
noncomputable def zcIw_40 (M_s : zM) (pc : Nat) (e_s : zI) (i_s : Instr) : Bool := zbq (Nat.blt e_s.1 42) (zcIw_37 M_s pc e_s i_s) (zcIw_39 M_s pc e_s i_s)
noncomputable def zcIw_41 (M_s : zM) (pc : Nat) (e_s : zI) (i_s : Instr) : Bool := zbq (Nat.blt e_s.1 39) (zcIw_35 M_s pc e_s i_s) (zcIw_40 M_s pc e_s i_s)
noncomputable def zcIw_42 (M_s : zM) (pc : Nat) (e_s : zI) (i_s : Instr) : Bool := zbq (Nat.blt e_s.1 33) (zcIw_30 M_s pc e_s i_s) (zcIw_41 M_s pc e_s i_s)
noncomputable def zcIw_43 (M_s : zM) (pc : Nat) (e_s : zI) (i_s : Instr) : Bool := zbq (Nat.blt e_s.1 22) (zcIw_20 M_s pc e_s i_s) (zcIw_42 M_s pc e_s i_s)
noncomputable def zcIw (M_s : zM) (pc : Nat) (e_s : zI) (i_s : Instr) : Bool := zbq (Nat.blt e_s.1 45) (zcIw_43 M_s pc e_s i_s) false
theorem zcIw_ok {M_s : zM} {pc : Nat} : ∀ {e_s : zI} {i_s : Instr}, zcIw M_s pc e_s i_s = true → zcI M_s pc e_s i_s = true
  | (0, _, _, _, _, _, _), _, h_s => h_s
  | (1, _, _, _, _, _, _), _, h_s => h_s
  | (2, _, _, _, _, _, _), _, h_s => h_s
  | (3, _, _, _, _, _, _), _, h_s => h_s
  | (4, _, _, _, _, _, _), _, h_s => h_s
  | (5, _, _, _, _, _, _), _, h_s => h_s
  | (6, _, _, _, _, _, _), _, h_s => h_s
  | (7, _, _, _, _, _, _), _, h_s => h_s
  | (8, _, _, _, _, _, _), _, h_s => h_s
  | (9, _, _, _, _, _, _), _, h_s => h_s
  | (10, _, _, _, _, _, _), _, h_s => h_s
  | (11, _, _, _, _, _, _), _, h_s => h_s
  | (12, _, _, _, _, _, _), _, h_s => h_s
  | (13, _, _, _, _, _, _), _, h_s => h_s
  | (14, _, _, _, _, _, _), _, h_s => h_s
  | (15, _, _, _, _, _, _), _, h_s => h_s
  | (16, _, _, _, _, _, _), _, h_s => h_s
  | (17, _, _, _, _, _, _), _, h_s => h_s
  | (18, _, _, _, _, _, _), _, h_s => h_s
  | (19, _, _, _, _, _, _), _, h_s => h_s
  | (20, _, _, _, _, _, _), _, h_s => h_s
  | (21, _, _, _, _, _, _), _, h_s => h_s
  | (22, _, _, _, _, _, _), _, h_s => h_s
  | (23, _, _, _, _, _, _), _, h_s => h_s
  | (24, _, _, _, _, _, _), _, h_s => h_s
  | (25, _, _, _, _, _, _), _, h_s => h_s
  | (26, _, _, _, _, _, _), _, h_s => h_s
  | (27, _, _, _, _, _, _), _, h_s => h_s
  | (28, _, _, _, _, _, _), _, h_s => h_s
  | (29, _, _, _, _, _, _), _, h_s => h_s
  | (30, _, _, _, _, _, _), _, h_s => h_s
  | (31, _, _, _, _, _, _), _, h_s => h_s
  | (32, len_s, a_s, b_s, c_s, v_s, sw_s), i_s, h_s => by
    have h1_s : zcIw32 M_s len_s a_s b_s c_s sw_s i_s = true := h_s
    unfold zcIw32 at h1_s
    show (match zm a_s with
      | some M2_s => zc32 M_s.1.cls len_s a_s b_s (c_s % 4) (c_s / 4) sw_s M2_s i_s
      | _ => false) = true
    cases hz_s : zm a_s with
    | none => rw [hz_s] at h1_s; exact h1_s
    | some M2_s => rw [hz_s] at h1_s; exact h1_s
  | (33, _, _, _, _, _, _), _, h_s => h_s
  | (34, _, _, _, _, _, _), _, h_s => h_s
  | (35, _, _, _, _, _, _), _, h_s => h_s
  | (36, _, _, _, _, _, _), _, h_s => h_s
  | (37, _, _, _, _, _, _), _, h_s => h_s
  | (38, _, _, _, _, _, _), _, h_s => h_s
  | (39, _, _, _, _, _, _), _, h_s => h_s
  | (40, _, _, _, _, _, _), _, h_s => h_s
  | (41, _, _, _, _, _, _), _, h_s => h_s
  | (42, _, _, _, _, _, _), _, h_s => h_s
  | (43, _, _, _, _, _, _), _, h_s => h_s
  | (44, _, _, _, _, _, _), _, h_s => h_s
  | (n_s + 45, len_s, a_s, b_s, c_s, v_s, sw_s), i_s, h_s => by
    have hb_s : Nat.blt (n_s + 45) 45 = false := by
      cases hc_s : Nat.blt (n_s + 45) 45 with
      | false => rfl
      | true =>
        have := Nat.le_of_ble_eq_true hc_s
        omega
    have h1_s : zbq (Nat.blt (n_s + 45) 45) (zcIw_43 M_s pc (n_s + 45, len_s, a_s, b_s, c_s, v_s, sw_s) i_s) false = true := h_s
    rw [hb_s] at h1_s
    cases h1_s
theorem zbq_and {a_s b_s : Bool} (h_s : zbq a_s b_s false = true) : a_s = true ∧ b_s = true := by
  cases a_s with
  | false => cases h_s
  | true => exact ⟨rfl, h_s⟩
noncomputable def fzw_t (l : List UInt8) : List UInt8 := List.rec (motive := fun _ => List UInt8) [] (fun _ r_s _ => r_s) l
theorem fzw_t_e {l : List UInt8} : fzw_t l = l.drop 1 := by cases l <;> rfl
noncomputable def fzw_d (l : List UInt8) : List UInt8 := fzw_t (fzw_t (fzw_t (fzw_t (fzw_t (fzw_t (fzw_t (fzw_t (fzw_t (fzw_t (fzw_t (fzw_t (fzw_t (fzw_t (fzw_t (fzw_t l)))))))))))))))
theorem fzw_d_e {l : List UInt8} : fzw_d l = l.drop 16 := by
  unfold fzw_d
  simp only [fzw_t_e, List.drop_drop]
noncomputable def fzw_F (M_s : zM) (r_s : List (Option zI)) : Nat → List UInt8 → Bool := List.rec (motive := fun _ => Nat → List UInt8 → Bool) (fun _ _ => true) (fun o _ ih_s pc l => Option.rec (motive := fun _ => Bool) (ih_s (pc + 1) (fzw_t l)) (fun e_s => zbq (Option.rec (motive := fun _ => Bool) (zchk M_s pc e_s) (fun q_s => zbq (Nat.beq q_s.2 e_s.2.1) (zcIw M_s pc e_s q_s.1) false) (fz_fd l)) (ih_s (pc + 1) (fzw_t l)) false) o) r_s
theorem fzw_F_ok {M_s : zM} : ∀ {r_s : List (Option zI)} {pc : Nat} {l : List UInt8}, fzw_F M_s r_s pc l = true → fz_ckF M_s pc l r_s = true
  | [], _, _, _ => rfl
  | none :: r_s, pc_s, l_s, h_s => by
    have h1_s : fzw_F M_s r_s (pc_s + 1) (fzw_t l_s) = true := h_s
    rw [fzw_t_e] at h1_s
    unfold fz_ckF
    exact fzw_F_ok h1_s
  | some e_s :: r_s, pc_s, l_s, h_s => by
    have h1_s : zbq (Option.rec (motive := fun _ => Bool) (zchk M_s pc_s e_s) (fun q_s => zbq (Nat.beq q_s.2 e_s.2.1) (zcIw M_s pc_s e_s q_s.1) false) (fz_fd l_s)) (fzw_F M_s r_s (pc_s + 1) (fzw_t l_s)) false = true := h_s
    obtain ⟨h2_s, h3_s⟩ := zbq_and h1_s
    rw [fzw_t_e] at h3_s
    unfold fz_ckF
    rw [Bool.and_eq_true]
    refine ⟨?_, fzw_F_ok h3_s⟩
    cases hd_s : fz_fd l_s with
    | none =>
      rw [hd_s] at h2_s
      exact h2_s
    | some q_s =>
      rw [hd_s] at h2_s
      obtain ⟨i_s, n_s⟩ := q_s
      obtain ⟨h4_s, h5_s⟩ := zbq_and h2_s
      have h6_s : n_s = e_s.2.1 := Nat.eq_of_beq_eq_true h4_s
      show (decide (n_s = e_s.2.1) && zcI M_s pc_s e_s i_s) = true
      rw [zcIw_ok h5_s, decide_eq_true h6_s]
      rfl
noncomputable def fzw_H (M_s : zM) (t_s : List (List (Option zI))) : Nat → List UInt8 → Bool := List.rec (motive := fun _ => Nat → List UInt8 → Bool) (fun _ _ => true) (fun r_s _ ih_s pc l => zbq (fzw_F M_s r_s pc l) (ih_s (pc + 16) (fzw_d l)) false) t_s
theorem fzw_H_ok {M_s : zM} : ∀ {t_s : List (List (Option zI))} {pc : Nat} {l : List UInt8}, fzw_H M_s t_s pc l = true → fz_ckH M_s pc l t_s = true
  | [], _, _, _ => rfl
  | r_s :: t_s, pc_s, l_s, h_s => by
    have h1_s : zbq (fzw_F M_s r_s pc_s l_s) (fzw_H M_s t_s (pc_s + 16) (fzw_d l_s)) false = true := h_s
    obtain ⟨h2_s, h3_s⟩ := zbq_and h1_s
    rw [fzw_d_e] at h3_s
    unfold fz_ckH
    rw [fzw_F_ok h2_s, fzw_H_ok h3_s]
    rfl
noncomputable def fzw_N (mi : Nat) (t_s : List (List (Option zI))) : Bool := Option.rec (motive := fun _ => Bool) false (fun M_s => fzw_H M_s t_s 0 M_s.2.1.data.toList) (zm mi)
theorem fzw_N_ok {mi : Nat} {t_s : List (List (Option zI))} (h_s : fzw_N mi t_s = true) : zckM mi t_s = true := by
  refine fz_ckN_ok ?_
  unfold fzw_N at h_s
  unfold fz_ckN
  cases hz_s : zm mi with
  | none =>
    rw [hz_s] at h_s
    cases h_s
  | some M_s =>
    rw [hz_s] at h_s
    exact fzw_H_ok h_s
theorem zck_0 : zckM 0 zi_0 = true := fzw_N_ok (by decide +kernel)
theorem zck_1 : zckM 1 zi_1 = true := fzw_N_ok (by decide +kernel)
theorem zck_2 : zckM 2 zi_2 = true := fzw_N_ok (by decide +kernel)
theorem zck_3 : zckM 3 zi_3 = true := fzw_N_ok (by decide +kernel)
theorem zck_4 : zckM 4 zi_4 = true := fzw_N_ok (by decide +kernel)
theorem zck_5 : zckM 5 zi_5 = true := fzw_N_ok (by decide +kernel)
theorem zck_6 : zckM 6 zi_6 = true := fzw_N_ok (by decide +kernel)
theorem zck_7 : zckM 7 zi_7 = true := fzw_N_ok (by decide +kernel)
theorem zck_8 : zckM 8 zi_8 = true := fzw_N_ok (by decide +kernel)
theorem zck_9 : zckM 9 zi_9 = true := fzw_N_ok (by decide +kernel)
theorem zck_10 : zckM 10 zi_10 = true := fzw_N_ok (by decide +kernel)
theorem zck_11 : zckM 11 zi_11 = true := fzw_N_ok (by decide +kernel)
theorem zck_12 : zckM 12 zi_12 = true := fzw_N_ok (by decide +kernel)
theorem zck_13 : zckM 13 zi_13 = true := fzw_N_ok (by decide +kernel)
theorem zck_14 : zckM 14 zi_14 = true := fzw_N_ok (by decide +kernel)
theorem zck_15 : zckM 15 zi_15 = true := fzw_N_ok (by decide +kernel)
theorem zck_16 : zckM 16 zi_16 = true := fzw_N_ok (by decide +kernel)
theorem zck_17 : zckM 17 zi_17 = true := fzw_N_ok (by decide +kernel)
theorem zck_18 : zckM 18 zi_18 = true := fzw_N_ok (by decide +kernel)
theorem zck_19 : zckM 19 zi_19 = true := fzw_N_ok (by decide +kernel)
theorem zck_20 : zckM 20 zi_20 = true := fzw_N_ok (by decide +kernel)
theorem zck_21 : zckM 21 zi_21 = true := fzw_N_ok (by decide +kernel)
theorem zck_22 : zckM 22 zi_22 = true := fzw_N_ok (by decide +kernel)
theorem zck_23 : zckM 23 zi_23 = true := fzw_N_ok (by decide +kernel)
theorem zck_24 : zckM 24 zi_24 = true := fzw_N_ok (by decide +kernel)
theorem zck_25 : zckM 25 zi_25 = true := fzw_N_ok (by decide +kernel)
theorem zck_26 : zckM 26 zi_26 = true := fzw_N_ok (by decide +kernel)
theorem zck_27 : zckM 27 zi_27 = true := fzw_N_ok (by decide +kernel)
theorem zck_28 : zckM 28 zi_28 = true := fzw_N_ok (by decide +kernel)
theorem zck_29 : zckM 29 zi_29 = true := fzw_N_ok (by decide +kernel)
theorem zck_30 : zckM 30 zi_30 = true := fzw_N_ok (by decide +kernel)
theorem zck_31 : zckM 31 zi_31 = true := fzw_N_ok (by decide +kernel)
theorem zck_32 : zckM 32 zi_32 = true := fzw_N_ok (by decide +kernel)
theorem zck_33 : zckM 33 zi_33 = true := fzw_N_ok (by decide +kernel)
theorem zck_34 : zckM 34 zi_34 = true := fzw_N_ok (by decide +kernel)
theorem zck_35 : zckM 35 zi_35 = true := fzw_N_ok (by decide +kernel)
theorem zck_36 : zckM 36 zi_36 = true := fzw_N_ok (by decide +kernel)
theorem zck_37 : zckM 37 zi_37 = true := fzw_N_ok (by decide +kernel)
theorem zck_38 : zckM 38 zi_38 = true := fzw_N_ok (by decide +kernel)
theorem zck_39 : zckM 39 zi_39 = true := fzw_N_ok (by decide +kernel)
theorem zck_40 : zckM 40 zi_40 = true := fzw_N_ok (by decide +kernel)
theorem zck_41 : zckM 41 zi_41 = true := fzw_N_ok (by decide +kernel)
theorem zck_42 : zckM 42 zi_42 = true := fzw_N_ok (by decide +kernel)
theorem zck_43 : zckM 43 zi_43 = true := fzw_N_ok (by decide +kernel)
theorem zck_44 : zckM 44 zi_44 = true := fzw_N_ok (by decide +kernel)
theorem zck_45 : zckM 45 zi_45 = true := fzw_N_ok (by decide +kernel)
theorem zck_46 : zckM 46 zi_46 = true := fzw_N_ok (by decide +kernel)
theorem zck_47 : zckM 47 zi_47 = true := fzw_N_ok (by decide +kernel)
theorem zck_48 : zckM 48 zi_48 = true := fzw_N_ok (by decide +kernel)
theorem zck_49 : zckM 49 zi_49 = true := fzw_N_ok (by decide +kernel)
theorem zck_50 : zckM 50 zi_50 = true := fzw_N_ok (by decide +kernel)
theorem zck_51 : zckM 51 zi_51 = true := fzw_N_ok (by decide +kernel)
theorem zck_52 : zckM 52 zi_52 = true := fzw_N_ok (by decide +kernel)
theorem zck_53 : zckM 53 zi_53 = true := fzw_N_ok (by decide +kernel)
theorem zck_54 : zckM 54 zi_54 = true := fzw_N_ok (by decide +kernel)
theorem zck_55 : zckM 55 zi_55 = true := fzw_N_ok (by decide +kernel)
theorem zck_56 : zckM 56 zi_56 = true := fzw_N_ok (by decide +kernel)
theorem zck_57 : zckM 57 zi_57 = true := fzw_N_ok (by decide +kernel)
theorem zck_58 : zckM 58 zi_58 = true := fzw_N_ok (by decide +kernel)
theorem zck_59 : zckM 59 zi_59 = true := fzw_N_ok (by decide +kernel)
theorem zck_60 : zckM 60 zi_60 = true := fzw_N_ok (by decide +kernel)
theorem zck_61 : zckM 61 zi_61 = true := fzw_N_ok (by decide +kernel)
theorem zck_62 : zckM 62 zi_62 = true := fzw_N_ok (by decide +kernel)
theorem zck_63 : zckM 63 zi_63 = true := fzw_N_ok (by decide +kernel)
theorem zck_64 : zckM 64 zi_64 = true := fzw_N_ok (by decide +kernel)
theorem zck_65 : zckM 65 zi_65 = true := fzw_N_ok (by decide +kernel)
theorem zck_66 : zckM 66 zi_66 = true := fzw_N_ok (by decide +kernel)
theorem zck_67 : zckM 67 zi_67 = true := fzw_N_ok (by decide +kernel)
theorem zck_68 : zckM 68 zi_68 = true := fzw_N_ok (by decide +kernel)
theorem zck_69 : zckM 69 zi_69 = true := fzw_N_ok (by decide +kernel)
theorem zck_70 : zckM 70 zi_70 = true := fzw_N_ok (by decide +kernel)
theorem zck_71 : zckM 71 zi_71 = true := fzw_N_ok (by decide +kernel)
theorem zck_72 : zckM 72 zi_72 = true := fzw_N_ok (by decide +kernel)
theorem zck_73 : zckM 73 zi_73 = true := fzw_N_ok (by decide +kernel)
theorem zck_74 : zckM 74 zi_74 = true := fzw_N_ok (by decide +kernel)
theorem zck_75 : zckM 75 zi_75 = true := fzw_N_ok (by decide +kernel)
theorem zck_76 : zckM 76 zi_76 = true := fzw_N_ok (by decide +kernel)
theorem zck_77 : zckM 77 zi_77 = true := fzw_N_ok (by decide +kernel)
theorem zck_78 : zckM 78 zi_78 = true := fzw_N_ok (by decide +kernel)
theorem zck_79 : zckM 79 zi_79 = true := fzw_N_ok (by decide +kernel)
theorem zck_80 : zckM 80 zi_80 = true := fzw_N_ok (by decide +kernel)
theorem zck_81 : zckM 81 zi_81 = true := fzw_N_ok (by decide +kernel)
theorem zck_82 : zckM 82 zi_82 = true := fzw_N_ok (by decide +kernel)
theorem zck_83 : zckM 83 zi_83 = true := fzw_N_ok (by decide +kernel)
theorem zck_84 : zckM 84 zi_84 = true := fzw_N_ok (by decide +kernel)
theorem zck_85 : zckM 85 zi_85 = true := fzw_N_ok (by decide +kernel)
theorem zck_86 : zckM 86 zi_86 = true := fzw_N_ok (by decide +kernel)
theorem zck_87 : zckM 87 zi_87 = true := fzw_N_ok (by decide +kernel)
theorem zck_88 : zckM 88 zi_88 = true := fzw_N_ok (by decide +kernel)
theorem zck_89 : zckM 89 zi_89 = true := fzw_N_ok (by decide +kernel)
theorem zck_90 : zckM 90 zi_90 = true := fzw_N_ok (by decide +kernel)
theorem zck_91 : zckM 91 zi_91 = true := fzw_N_ok (by decide +kernel)
theorem zck_92 : zckM 92 zi_92 = true := fzw_N_ok (by decide +kernel)
theorem zck_93 : zckM 93 zi_93 = true := fzw_N_ok (by decide +kernel)
theorem zck_94 : zckM 94 zi_94 = true := fzw_N_ok (by decide +kernel)
theorem zck_95 : zckM 95 zi_95 = true := fzw_N_ok (by decide +kernel)
theorem zck_96 : zckM 96 zi_96 = true := fzw_N_ok (by decide +kernel)
theorem zck_97 : zckM 97 zi_97 = true := fzw_N_ok (by decide +kernel)
theorem zck_98 : zckM 98 zi_98 = true := fzw_N_ok (by decide +kernel)
theorem zck_99 : zckM 99 zi_99 = true := fzw_N_ok (by decide +kernel)
theorem zck_100 : zckM 100 zi_100 = true := fzw_N_ok (by decide +kernel)
theorem zck_101 : zckM 101 zi_101 = true := fzw_N_ok (by decide +kernel)
theorem zck_102 : zckM 102 zi_102 = true := fzw_N_ok (by decide +kernel)
theorem zck_103 : zckM 103 zi_103 = true := fzw_N_ok (by decide +kernel)
theorem zck_104 : zckM 104 zi_104 = true := fzw_N_ok (by decide +kernel)
theorem zck_105 : zckM 105 zi_105 = true := fzw_N_ok (by decide +kernel)
theorem zck_106 : zckM 106 zi_106 = true := fzw_N_ok (by decide +kernel)
theorem zck_107 : zckM 107 zi_107 = true := fzw_N_ok (by decide +kernel)
theorem zck_108 : zckM 108 zi_108 = true := fzw_N_ok (by decide +kernel)
theorem zck_109 : zckM 109 zi_109 = true := fzw_N_ok (by decide +kernel)
theorem zck_110 : zckM 110 zi_110 = true := fzw_N_ok (by decide +kernel)
theorem zck_111 : zckM 111 zi_111 = true := fzw_N_ok (by decide +kernel)
theorem zck_112 : zckM 112 zi_112 = true := fzw_N_ok (by decide +kernel)
theorem zck_113 : zckM 113 zi_113 = true := fzw_N_ok (by decide +kernel)
theorem zck_114 : zckM 114 zi_114 = true := fzw_N_ok (by decide +kernel)
theorem zck_115 : zckM 115 zi_115 = true := fzw_N_ok (by decide +kernel)
theorem zck_116 : zckM 116 zi_116 = true := fzw_N_ok (by decide +kernel)
theorem zck_117 : zckM 117 zi_117 = true := fzw_N_ok (by decide +kernel)
theorem zck_118 : zckM 118 zi_118 = true := fzw_N_ok (by decide +kernel)
theorem zck_119 : zckM 119 zi_119 = true := fzw_N_ok (by decide +kernel)
theorem zck_120 : zckM 120 zi_120 = true := fzw_N_ok (by decide +kernel)
theorem zck_121 : zckM 121 zi_121 = true := fzw_N_ok (by decide +kernel)
theorem zck_122 : zckM 122 zi_122 = true := fzw_N_ok (by decide +kernel)
theorem zck_123 : zckM 123 zi_123 = true := fzw_N_ok (by decide +kernel)
theorem zck_124 : zckM 124 zi_124 = true := fzw_N_ok (by decide +kernel)
theorem zck_125 : zckM 125 zi_125 = true := fzw_N_ok (by decide +kernel)
theorem zck_126 : zckM 126 zi_126 = true := fzw_N_ok (by decide +kernel)
theorem zck_127 : zckM 127 zi_127 = true := fzw_N_ok (by decide +kernel)
theorem zck_128 : zckM 128 zi_128 = true := fzw_N_ok (by decide +kernel)
theorem zck_129 : zckM 129 zi_129 = true := fzw_N_ok (by decide +kernel)
theorem zck_130 : zckM 130 zi_130 = true := fzw_N_ok (by decide +kernel)
theorem zck_131 : zckM 131 zi_131 = true := fzw_N_ok (by decide +kernel)
theorem zck_132 : zckM 132 zi_132 = true := fzw_N_ok (by decide +kernel)
theorem zck_133 : zckM 133 zi_133 = true := fzw_N_ok (by decide +kernel)
theorem zck_134 : zckM 134 zi_134 = true := fzw_N_ok (by decide +kernel)
theorem zck_135 : zckM 135 zi_135 = true := fzw_N_ok (by decide +kernel)
theorem zck_136 : zckM 136 zi_136 = true := fzw_N_ok (by decide +kernel)
theorem zck_137 : zckM 137 zi_137 = true := fzw_N_ok (by decide +kernel)
theorem zck_138 : zckM 138 zi_138 = true := fzw_N_ok (by decide +kernel)
theorem zck_139 : zckM 139 zi_139 = true := fzw_N_ok (by decide +kernel)
theorem zck_140 : zckM 140 zi_140 = true := fzw_N_ok (by decide +kernel)
theorem zck_141 : zckM 141 zi_141 = true := fzw_N_ok (by decide +kernel)
theorem zck_142 : zckM 142 zi_142 = true := fzw_N_ok (by decide +kernel)
theorem zck_143 : zckM 143 zi_143 = true := fzw_N_ok (by decide +kernel)
theorem zck_144 : zckM 144 zi_144 = true := fzw_N_ok (by decide +kernel)
theorem zck_145 : zckM 145 zi_145 = true := fzw_N_ok (by decide +kernel)
theorem zck_146 : zckM 146 zi_146 = true := fzw_N_ok (by decide +kernel)
theorem zck_147 : zckM 147 zi_147 = true := fzw_N_ok (by decide +kernel)
theorem zck_148 : zckM 148 zi_148 = true := fzw_N_ok (by decide +kernel)
theorem zck_149 : zckM 149 zi_149 = true := fzw_N_ok (by decide +kernel)
theorem zck_150 : zckM 150 zi_150 = true := fzw_N_ok (by decide +kernel)
theorem zck_151 : zckM 151 zi_151 = true := fzw_N_ok (by decide +kernel)
theorem zck_152 : zckM 152 zi_152 = true := fzw_N_ok (by decide +kernel)
theorem zck_153 : zckM 153 zi_153 = true := fzw_N_ok (by decide +kernel)
theorem zck_154 : zckM 154 zi_154 = true := fzw_N_ok (by decide +kernel)
theorem zck_155 : zckM 155 zi_155 = true := fzw_N_ok (by decide +kernel)
theorem zck_156 : zckM 156 zi_156 = true := fzw_N_ok (by decide +kernel)
theorem zck_157 : zckM 157 zi_157 = true := fzw_N_ok (by decide +kernel)
theorem zck_158 : zckM 158 zi_158 = true := fzw_N_ok (by decide +kernel)
theorem zck_159 : zckM 159 zi_159 = true := fzw_N_ok (by decide +kernel)
theorem zck_160 : zckM 160 zi_160 = true := fzw_N_ok (by decide +kernel)
theorem zck_161 : zckM 161 zi_161 = true := fzw_N_ok (by decide +kernel)
theorem zck_162 : zckM 162 zi_162 = true := fzw_N_ok (by decide +kernel)
theorem zck_163 : zckM 163 zi_163 = true := fzw_N_ok (by decide +kernel)
theorem zck_164 : zckM 164 zi_164 = true := fzw_N_ok (by decide +kernel)
theorem zck_165 : zckM 165 zi_165 = true := fzw_N_ok (by decide +kernel)
theorem zck_166 : zckM 166 zi_166 = true := fzw_N_ok (by decide +kernel)
theorem zck_167 : zckM 167 zi_167 = true := fzw_N_ok (by decide +kernel)
theorem zck_168 : zckM 168 zi_168 = true := fzw_N_ok (by decide +kernel)
theorem zck_169 : zckM 169 zi_169 = true := fzw_N_ok (by decide +kernel)
theorem zck_170 : zckM 170 zi_170 = true := fzw_N_ok (by decide +kernel)
theorem zck_171 : zckM 171 zi_171 = true := fzw_N_ok (by decide +kernel)
theorem zck_172 : zckM 172 zi_172 = true := fzw_N_ok (by decide +kernel)
theorem zck_173 : zckM 173 zi_173 = true := fzw_N_ok (by decide +kernel)
theorem zck_174 : zckM 174 zi_174 = true := fzw_N_ok (by decide +kernel)
theorem zck_175 : zckM 175 zi_175 = true := fzw_N_ok (by decide +kernel)
theorem zck_176 : zckM 176 zi_176 = true := fzw_N_ok (by decide +kernel)
theorem zck_177 : zckM 177 zi_177 = true := fzw_N_ok (by decide +kernel)
theorem zck_178 : zckM 178 zi_178 = true := fzw_N_ok (by decide +kernel)
theorem zck_179 : zckM 179 zi_179 = true := fzw_N_ok (by decide +kernel)
theorem zck_180 : zckM 180 zi_180 = true := fzw_N_ok (by decide +kernel)
theorem zck_181 : zckM 181 zi_181 = true := fzw_N_ok (by decide +kernel)
theorem zck_182 : zckM 182 zi_182 = true := fzw_N_ok (by decide +kernel)
theorem zck_183 : zckM 183 zi_183 = true := fzw_N_ok (by decide +kernel)
theorem zck_184 : zckM 184 zi_184 = true := fzw_N_ok (by decide +kernel)
theorem zck_185 : zckM 185 zi_185 = true := fzw_N_ok (by decide +kernel)
theorem zck_186 : zckM 186 zi_186 = true := fzw_N_ok (by decide +kernel)
theorem zck_187 : zckM 187 zi_187 = true := fzw_N_ok (by decide +kernel)
theorem zck_188 : zckM 188 zi_188 = true := fzw_N_ok (by decide +kernel)
theorem zck_189 : zckM 189 zi_189 = true := fzw_N_ok (by decide +kernel)
theorem zck_190 : zckM 190 zi_190 = true := fzw_N_ok (by decide +kernel)
theorem zck_191 : zckM 191 zi_191 = true := fzw_N_ok (by decide +kernel)
theorem zck_192 : zckM 192 zi_192 = true := fzw_N_ok (by decide +kernel)
theorem zck_193 : zckM 193 zi_193 = true := fzw_N_ok (by decide +kernel)
theorem zck_194 : zckM 194 zi_194 = true := fzw_N_ok (by decide +kernel)
theorem zck_195 : zckM 195 zi_195 = true := fzw_N_ok (by decide +kernel)
theorem zck_196 : zckM 196 zi_196 = true := fzw_N_ok (by decide +kernel)
theorem zck_197 : zckM 197 zi_197 = true := fzw_N_ok (by decide +kernel)
theorem zck_198 : zckM 198 zi_198 = true := fzw_N_ok (by decide +kernel)
theorem zck_199 : zckM 199 zi_199 = true := fzw_N_ok (by decide +kernel)
theorem zck_200 : zckM 200 zi_200 = true := fzw_N_ok (by decide +kernel)
theorem zck_201 : zckM 201 zi_201 = true := fzw_N_ok (by decide +kernel)
theorem zck_202 : zckM 202 zi_202 = true := fzw_N_ok (by decide +kernel)
theorem zck_203 : zckM 203 zi_203 = true := fzw_N_ok (by decide +kernel)
theorem zck_204 : zckM 204 zi_204 = true := fzw_N_ok (by decide +kernel)
theorem zck_205 : zckM 205 zi_205 = true := fzw_N_ok (by decide +kernel)
theorem zck_206 : zckM 206 zi_206 = true := fzw_N_ok (by decide +kernel)
theorem zck_207 : zckM 207 zi_207 = true := fzw_N_ok (by decide +kernel)
theorem zck_208 : zckM 208 zi_208 = true := fzw_N_ok (by decide +kernel)
theorem zck_209 : zckM 209 zi_209 = true := fzw_N_ok (by decide +kernel)
theorem zck_210 : zckM 210 zi_210 = true := fzw_N_ok (by decide +kernel)
theorem zck_211 : zckM 211 zi_211 = true := fzw_N_ok (by decide +kernel)
theorem zck_212 : zckM 212 zi_212 = true := fzw_N_ok (by decide +kernel)
theorem zck_213 : zckM 213 zi_213 = true := fzw_N_ok (by decide +kernel)
theorem zck_214 : zckM 214 zi_214 = true := fzw_N_ok (by decide +kernel)
theorem zck_215 : zckM 215 zi_215 = true := fzw_N_ok (by decide +kernel)
theorem zck_216 : zckM 216 zi_216 = true := fzw_N_ok (by decide +kernel)
theorem zck_217 : zckM 217 zi_217 = true := fzw_N_ok (by decide +kernel)
theorem zck_218 : zckM 218 zi_218 = true := fzw_N_ok (by decide +kernel)
theorem zck_219 : zckM 219 zi_219 = true := fzw_N_ok (by decide +kernel)
theorem zck_220 : zckM 220 zi_220 = true := fzw_N_ok (by decide +kernel)
theorem zck_221 : zckM 221 zi_221 = true := fzw_N_ok (by decide +kernel)
theorem zck_222 : zckM 222 zi_222 = true := fzw_N_ok (by decide +kernel)
theorem zck_223 : zckM 223 zi_223 = true := fzw_N_ok (by decide +kernel)
theorem zck_224 : zckM 224 zi_224 = true := fzw_N_ok (by decide +kernel)
theorem zck_225 : zckM 225 zi_225 = true := fzw_N_ok (by decide +kernel)
theorem zck_226 : zckM 226 zi_226 = true := fzw_N_ok (by decide +kernel)
theorem zck_227 : zckM 227 zi_227 = true := fzw_N_ok (by decide +kernel)
theorem zck_228 : zckM 228 zi_228 = true := fzw_N_ok (by decide +kernel)
theorem zck_229 : zckM 229 zi_229 = true := fzw_N_ok (by decide +kernel)
theorem zck_230 : zckM 230 zi_230 = true := fzw_N_ok (by decide +kernel)
theorem zck_231 : zckM 231 zi_231 = true := fzw_N_ok (by decide +kernel)
theorem zck_232 : zckM 232 zi_232 = true := fzw_N_ok (by decide +kernel)
theorem zck_233 : zckM 233 zi_233 = true := fzw_N_ok (by decide +kernel)
theorem zck_234 : zckM 234 zi_234 = true := fzw_N_ok (by decide +kernel)
theorem zck_235 : zckM 235 zi_235 = true := fzw_N_ok (by decide +kernel)
theorem zck_236 : zckM 236 zi_236 = true := fzw_N_ok (by decide +kernel)
theorem zck_237 : zckM 237 zi_237 = true := fzw_N_ok (by decide +kernel)
theorem zck_238 : zckM 238 zi_238 = true := fzw_N_ok (by decide +kernel)
theorem zck_239 : zckM 239 zi_239 = true := fzw_N_ok (by decide +kernel)
theorem zck_240 : zckM 240 zi_240 = true := fzw_N_ok (by decide +kernel)
set_option maxRecDepth 20000 in
theorem zck_241 : zckM 241 zi_241 = true := fzw_N_ok (by decide +kernel)
theorem z_and {a b : Bool} (ha : a = true) (hb : b = true) : (a && b) = true := by rw [ha, hb]; rfl
noncomputable def zckG : Nat → List (List (List (Option zI))) → Bool
  | _, [] => true
  | mi, t :: r => zckM mi t && zckG (mi + 1) r
noncomputable def zckA : Nat → List (List (List (List (Option zI)))) → Bool
  | _, [] => true
  | mi, g :: r => zckG mi g && zckA (mi + 16) r
theorem zckG_0 : zckG 0 [zi_0, zi_1, zi_2, zi_3, zi_4, zi_5, zi_6, zi_7, zi_8, zi_9, zi_10, zi_11, zi_12, zi_13, zi_14, zi_15] = true := z_and zck_0 (z_and zck_1 (z_and zck_2 (z_and zck_3 (z_and zck_4 (z_and zck_5 (z_and zck_6 (z_and zck_7 (z_and zck_8 (z_and zck_9 (z_and zck_10 (z_and zck_11 (z_and zck_12 (z_and zck_13 (z_and zck_14 (z_and zck_15 (rfl))))))))))))))))
theorem zckG_1 : zckG 16 [zi_16, zi_17, zi_18, zi_19, zi_20, zi_21, zi_22, zi_23, zi_24, zi_25, zi_26, zi_27, zi_28, zi_29, zi_30, zi_31] = true := z_and zck_16 (z_and zck_17 (z_and zck_18 (z_and zck_19 (z_and zck_20 (z_and zck_21 (z_and zck_22 (z_and zck_23 (z_and zck_24 (z_and zck_25 (z_and zck_26 (z_and zck_27 (z_and zck_28 (z_and zck_29 (z_and zck_30 (z_and zck_31 (rfl))))))))))))))))
theorem zckG_2 : zckG 32 [zi_32, zi_33, zi_34, zi_35, zi_36, zi_37, zi_38, zi_39, zi_40, zi_41, zi_42, zi_43, zi_44, zi_45, zi_46, zi_47] = true := z_and zck_32 (z_and zck_33 (z_and zck_34 (z_and zck_35 (z_and zck_36 (z_and zck_37 (z_and zck_38 (z_and zck_39 (z_and zck_40 (z_and zck_41 (z_and zck_42 (z_and zck_43 (z_and zck_44 (z_and zck_45 (z_and zck_46 (z_and zck_47 (rfl))))))))))))))))
theorem zckG_3 : zckG 48 [zi_48, zi_49, zi_50, zi_51, zi_52, zi_53, zi_54, zi_55, zi_56, zi_57, zi_58, zi_59, zi_60, zi_61, zi_62, zi_63] = true := z_and zck_48 (z_and zck_49 (z_and zck_50 (z_and zck_51 (z_and zck_52 (z_and zck_53 (z_and zck_54 (z_and zck_55 (z_and zck_56 (z_and zck_57 (z_and zck_58 (z_and zck_59 (z_and zck_60 (z_and zck_61 (z_and zck_62 (z_and zck_63 (rfl))))))))))))))))
theorem zckG_4 : zckG 64 [zi_64, zi_65, zi_66, zi_67, zi_68, zi_69, zi_70, zi_71, zi_72, zi_73, zi_74, zi_75, zi_76, zi_77, zi_78, zi_79] = true := z_and zck_64 (z_and zck_65 (z_and zck_66 (z_and zck_67 (z_and zck_68 (z_and zck_69 (z_and zck_70 (z_and zck_71 (z_and zck_72 (z_and zck_73 (z_and zck_74 (z_and zck_75 (z_and zck_76 (z_and zck_77 (z_and zck_78 (z_and zck_79 (rfl))))))))))))))))
theorem zckG_5 : zckG 80 [zi_80, zi_81, zi_82, zi_83, zi_84, zi_85, zi_86, zi_87, zi_88, zi_89, zi_90, zi_91, zi_92, zi_93, zi_94, zi_95] = true := z_and zck_80 (z_and zck_81 (z_and zck_82 (z_and zck_83 (z_and zck_84 (z_and zck_85 (z_and zck_86 (z_and zck_87 (z_and zck_88 (z_and zck_89 (z_and zck_90 (z_and zck_91 (z_and zck_92 (z_and zck_93 (z_and zck_94 (z_and zck_95 (rfl))))))))))))))))
theorem zckG_6 : zckG 96 [zi_96, zi_97, zi_98, zi_99, zi_100, zi_101, zi_102, zi_103, zi_104, zi_105, zi_106, zi_107, zi_108, zi_109, zi_110, zi_111] = true := z_and zck_96 (z_and zck_97 (z_and zck_98 (z_and zck_99 (z_and zck_100 (z_and zck_101 (z_and zck_102 (z_and zck_103 (z_and zck_104 (z_and zck_105 (z_and zck_106 (z_and zck_107 (z_and zck_108 (z_and zck_109 (z_and zck_110 (z_and zck_111 (rfl))))))))))))))))
theorem zckG_7 : zckG 112 [zi_112, zi_113, zi_114, zi_115, zi_116, zi_117, zi_118, zi_119, zi_120, zi_121, zi_122, zi_123, zi_124, zi_125, zi_126, zi_127] = true := z_and zck_112 (z_and zck_113 (z_and zck_114 (z_and zck_115 (z_and zck_116 (z_and zck_117 (z_and zck_118 (z_and zck_119 (z_and zck_120 (z_and zck_121 (z_and zck_122 (z_and zck_123 (z_and zck_124 (z_and zck_125 (z_and zck_126 (z_and zck_127 (rfl))))))))))))))))
theorem zckG_8 : zckG 128 [zi_128, zi_129, zi_130, zi_131, zi_132, zi_133, zi_134, zi_135, zi_136, zi_137, zi_138, zi_139, zi_140, zi_141, zi_142, zi_143] = true := z_and zck_128 (z_and zck_129 (z_and zck_130 (z_and zck_131 (z_and zck_132 (z_and zck_133 (z_and zck_134 (z_and zck_135 (z_and zck_136 (z_and zck_137 (z_and zck_138 (z_and zck_139 (z_and zck_140 (z_and zck_141 (z_and zck_142 (z_and zck_143 (rfl))))))))))))))))
theorem zckG_9 : zckG 144 [zi_144, zi_145, zi_146, zi_147, zi_148, zi_149, zi_150, zi_151, zi_152, zi_153, zi_154, zi_155, zi_156, zi_157, zi_158, zi_159] = true := z_and zck_144 (z_and zck_145 (z_and zck_146 (z_and zck_147 (z_and zck_148 (z_and zck_149 (z_and zck_150 (z_and zck_151 (z_and zck_152 (z_and zck_153 (z_and zck_154 (z_and zck_155 (z_and zck_156 (z_and zck_157 (z_and zck_158 (z_and zck_159 (rfl))))))))))))))))
theorem zckG_10 : zckG 160 [zi_160, zi_161, zi_162, zi_163, zi_164, zi_165, zi_166, zi_167, zi_168, zi_169, zi_170, zi_171, zi_172, zi_173, zi_174, zi_175] = true := z_and zck_160 (z_and zck_161 (z_and zck_162 (z_and zck_163 (z_and zck_164 (z_and zck_165 (z_and zck_166 (z_and zck_167 (z_and zck_168 (z_and zck_169 (z_and zck_170 (z_and zck_171 (z_and zck_172 (z_and zck_173 (z_and zck_174 (z_and zck_175 (rfl))))))))))))))))
theorem zckG_11 : zckG 176 [zi_176, zi_177, zi_178, zi_179, zi_180, zi_181, zi_182, zi_183, zi_184, zi_185, zi_186, zi_187, zi_188, zi_189, zi_190, zi_191] = true := z_and zck_176 (z_and zck_177 (z_and zck_178 (z_and zck_179 (z_and zck_180 (z_and zck_181 (z_and zck_182 (z_and zck_183 (z_and zck_184 (z_and zck_185 (z_and zck_186 (z_and zck_187 (z_and zck_188 (z_and zck_189 (z_and zck_190 (z_and zck_191 (rfl))))))))))))))))
theorem zckG_12 : zckG 192 [zi_192, zi_193, zi_194, zi_195, zi_196, zi_197, zi_198, zi_199, zi_200, zi_201, zi_202, zi_203, zi_204, zi_205, zi_206, zi_207] = true := z_and zck_192 (z_and zck_193 (z_and zck_194 (z_and zck_195 (z_and zck_196 (z_and zck_197 (z_and zck_198 (z_and zck_199 (z_and zck_200 (z_and zck_201 (z_and zck_202 (z_and zck_203 (z_and zck_204 (z_and zck_205 (z_and zck_206 (z_and zck_207 (rfl))))))))))))))))
theorem zckG_13 : zckG 208 [zi_208, zi_209, zi_210, zi_211, zi_212, zi_213, zi_214, zi_215, zi_216, zi_217, zi_218, zi_219, zi_220, zi_221, zi_222, zi_223] = true := z_and zck_208 (z_and zck_209 (z_and zck_210 (z_and zck_211 (z_and zck_212 (z_and zck_213 (z_and zck_214 (z_and zck_215 (z_and zck_216 (z_and zck_217 (z_and zck_218 (z_and zck_219 (z_and zck_220 (z_and zck_221 (z_and zck_222 (z_and zck_223 (rfl))))))))))))))))
theorem zckG_14 : zckG 224 [zi_224, zi_225, zi_226, zi_227, zi_228, zi_229, zi_230, zi_231, zi_232, zi_233, zi_234, zi_235, zi_236, zi_237, zi_238, zi_239] = true := z_and zck_224 (z_and zck_225 (z_and zck_226 (z_and zck_227 (z_and zck_228 (z_and zck_229 (z_and zck_230 (z_and zck_231 (z_and zck_232 (z_and zck_233 (z_and zck_234 (z_and zck_235 (z_and zck_236 (z_and zck_237 (z_and zck_238 (z_and zck_239 (rfl))))))))))))))))
theorem zckG_15 : zckG 240 [zi_240, zi_241] = true := z_and zck_240 (z_and zck_241 (rfl))
theorem zck_all : zckA 0 zia = true := z_and zckG_0 (z_and zckG_1 (z_and zckG_2 (z_and zckG_3 (z_and zckG_4 (z_and zckG_5 (z_and zckG_6 (z_and zckG_7 (z_and zckG_8 (z_and zckG_9 (z_and zckG_10 (z_and zckG_11 (z_and zckG_12 (z_and zckG_13 (z_and zckG_14 (z_and zckG_15 (rfl))))))))))))))))
theorem zckG_at : ∀ {g : List (List (List (Option zI)))} {mi j : Nat} {t : List (List (Option zI))}, zckG mi g = true → zget g j = some t → zckM (mi + j) t = true
  | [], _, _, _, _, h => by simp [zget] at h
  | x :: g, mi, 0, t, hc, h => by
    simp only [zget, Option.some.injEq] at h
    subst h
    simp only [zckG, Bool.and_eq_true] at hc
    exact hc.1
  | x :: g, mi, j + 1, t, hc, h => by
    simp only [zckG, Bool.and_eq_true] at hc
    have := zckG_at (g := g) (mi := mi + 1) (j := j) (t := t) hc.2 h
    rw [show mi + (j + 1) = mi + 1 + j by omega]
    exact this
theorem zckA_at : ∀ {a : List (List (List (List (Option zI))))} {mi q : Nat} {g : List (List (List (Option zI)))}, zckA mi a = true → zget a q = some g → zckG (mi + 16 * q) g = true
  | [], _, _, _, _, h => by simp [zget] at h
  | x :: a, mi, 0, g, hc, h => by
    simp only [zget, Option.some.injEq] at h
    subst h
    simp only [zckA, Bool.and_eq_true] at hc
    exact hc.1
  | x :: a, mi, q + 1, g, hc, h => by
    simp only [zckA, Bool.and_eq_true] at hc
    have := zckA_at (a := a) (mi := mi + 16) (q := q) (g := g) hc.2 h
    rw [show mi + 16 * (q + 1) = mi + 16 + 16 * q by omega]
    exact this
/-- an entry of the tables is what the code says at its place -/
theorem zi_ok {mi pc : Nat} {e : zI} (h : zi mi pc = some e) : ∃ M, zm mi = some M ∧ zchk M pc e = true := by
  unfold zi at h
  cases h1 : zget zia (mi / 16) with
  | none => simp [h1] at h
  | some g =>
    rw [h1] at h
    cases h2 : zget g (mi % 16) with
    | none => simp [h2] at h
    | some t =>
      simp only [h2] at h
      cases h3 : zget t (pc / 16) with
      | none => simp [h3] at h
      | some r =>
        simp only [h3] at h
        cases h4 : zget r (pc % 16) with
        | none => simp [h4] at h
        | some x =>
          simp only [h4] at h
          subst h
          have a1 := zckG_at (zckA_at zck_all h1) h2
          rw [show 0 + 16 * (mi / 16) + mi % 16 = mi by omega] at a1
          unfold zckM at a1
          cases h5 : zm mi with
          | none => simp [h5] at a1
          | some M =>
            simp only [h5] at a1
            have a2 := zckR_at (zckT_at a1 h3) h4
            rw [show 0 + 16 * (pc / 16) + pc % 16 = pc by omega] at a2
            exact ⟨M, rfl, a2⟩

