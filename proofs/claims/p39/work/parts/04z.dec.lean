/-! A FAST DECODER of straight instructions: out of the list of bytes, by a table; what it says, decode says. -/
abbrev fz_K : Type := Nat × Instr × (Nat → Instr) × (Int → Instr)
def fz_fs (bits n : Nat) : Int := bif Nat.blt n (2 ^ (bits - 1)) then (n : Int) else (n : Int) - (2 ^ bits : Nat)
theorem fz_fs_eq (bits n : Nat) : fz_fs bits n = Reader.signed bits n := by
  unfold fz_fs Reader.signed
  by_cases h : n < 2 ^ (bits - 1)
  · rw [if_pos h, show Nat.blt n (2 ^ (bits - 1)) = true by rw [Nat.blt_eq]; exact h]
    rfl
  · rw [if_neg h]
    cases c : Nat.blt n (2 ^ (bits - 1))
    · rfl
    · rw [Nat.blt_eq] at c
      exact absurd c h
abbrev fz_fb (k : ByteArray) (p : Nat) (l : List UInt8) : Prop := k.data.toList.drop p = l
theorem fz_fb_next {k : ByteArray} {p : Nat} {b : UInt8} {l : List UInt8} (h : fz_fb k p (b :: l)) : fz_fb k (p + 1) l := by
  have h1 : (k.data.toList.drop p).drop 1 = l := by rw [h]; rfl
  rw [List.drop_drop] at h1
  exact h1
theorem fz_fb_u1 {k : ByteArray} {p : Nat} {b : UInt8} {l : List UInt8} (h : fz_fb k p (b :: l)) : (Reader.u1 : Decoder Nat).runAt k p = .ok (b.toNat, p + 1) := by
  have hl : p < k.data.toList.length := by
    rcases Nat.lt_or_ge p k.data.toList.length with g | g
    · exact g
    · have h2 : k.data.toList.drop p = b :: l := h
      rw [List.drop_eq_nil_of_le g] at h2
      cases h2
  have hs : p < k.size := hl
  have hb : k[p] = b := by
    have h0 := List.getElem_cons_drop (as := k.data.toList) (i := p) hl
    rw [h] at h0
    injection h0 with h1 h2
  show ((if h : p < k.size then (do set (p + 1); Pure.pure k[p].toNat) else throw (HasTruncated.truncated p) : Decoder Nat)).runAt k p = _
  rw [dif_pos hs, hb]
  rfl
theorem fz_ub {α : Type} {k : ByteArray} {p q n : Nat} {F : Nat → Decoder α} (h : (Reader.u1 : Decoder Nat).runAt k p = .ok (n, q)) : (Reader.u1 >>= F).runAt k p = (F n).runAt k q := by
  show (Except.bind ((Reader.u1 : Decoder Nat).runAt k p) _) = _
  rw [h]
  rfl
theorem fz_gb {α β : Type} {k : ByteArray} {p q : Nat} {n : β} {r : Decoder β} {F : β → Decoder α} (h : r.runAt k p = .ok (n, q)) : (r >>= F).runAt k p = (F n).runAt k q := by
  show (Except.bind (r.runAt k p) _) = _
  rw [h]
  rfl
theorem fz_fb_u2 {k : ByteArray} {p : Nat} {b c : UInt8} {l : List UInt8} (h : fz_fb k p (b :: c :: l)) : (Reader.u2 : Decoder Nat).runAt k p = .ok (b.toNat * 256 + c.toNat, p + 2) :=
  (fz_gb (fz_fb_u1 h)).trans ((fz_gb (fz_fb_u1 (fz_fb_next h))).trans rfl)
theorem fz_fb_s1 {k : ByteArray} {p : Nat} {b : UInt8} {l : List UInt8} (h : fz_fb k p (b :: l)) : (Reader.s1 : Decoder Int).runAt k p = .ok (fz_fs 8 b.toNat, p + 1) := by
  rw [fz_fs_eq]
  show (Except.map _ ((Reader.u1 : Decoder Nat).runAt k p)) = _
  rw [fz_fb_u1 h]
  rfl
theorem fz_fb_s2 {k : ByteArray} {p : Nat} {b c : UInt8} {l : List UInt8} (h : fz_fb k p (b :: c :: l)) : (Reader.s2 : Decoder Int).runAt k p = .ok (fz_fs 16 (b.toNat * 256 + c.toNat), p + 2) := by
  rw [fz_fs_eq]
  show (Except.map _ ((Reader.u2 : Decoder Nat).runAt k p)) = _
  rw [fz_fb_u2 h]
  rfl
theorem fz_fl_lt {α : Type} : ∀ {l : List α} {k : Nat} {x : α}, zget l k = some x → k < l.length
  | [], _, _, h => by cases h
  | _ :: l, 0, _, _ => by
    rw [List.length_cons]
    omega
  | _ :: l, k + 1, _, h => by
    have := fz_fl_lt (l := l) (k := k) h
    rw [List.length_cons]
    omega
def fz_op0 : List (Option fz_K) := [none, some (0, .aconst_null, (fun _ => .nop), (fun _ => .nop)), some (0, .iconst (-1), (fun _ => .nop), (fun _ => .nop)), some (0, .iconst 0, (fun _ => .nop), (fun _ => .nop)), some (0, .iconst 1, (fun _ => .nop), (fun _ => .nop)), some (0, .iconst 2, (fun _ => .nop), (fun _ => .nop)), some (0, .iconst 3, (fun _ => .nop), (fun _ => .nop)), some (0, .iconst 4, (fun _ => .nop), (fun _ => .nop)), some (0, .iconst 5, (fun _ => .nop), (fun _ => .nop)), some (0, .lconst 0, (fun _ => .nop), (fun _ => .nop)), some (0, .lconst 1, (fun _ => .nop), (fun _ => .nop)), none, none, none, none, none]
def fz_op1 : List (Option fz_K) := [some (3, .nop, (fun _ => .nop), (fun n => .bipush n)), some (4, .nop, (fun _ => .nop), (fun n => .sipush n)), some (1, .nop, (fun n => .ldc n), (fun _ => .nop)), some (2, .nop, (fun n => .ldc_w n), (fun _ => .nop)), some (2, .nop, (fun n => .ldc2_w n), (fun _ => .nop)), some (1, .nop, (fun n => .iload n), (fun _ => .nop)), some (1, .nop, (fun n => .lload n), (fun _ => .nop)), none, none, some (1, .nop, (fun n => .aload n), (fun _ => .nop)), some (0, .iload_n 0, (fun _ => .nop), (fun _ => .nop)), some (0, .iload_n 1, (fun _ => .nop), (fun _ => .nop)), some (0, .iload_n 2, (fun _ => .nop), (fun _ => .nop)), some (0, .iload_n 3, (fun _ => .nop), (fun _ => .nop)), some (0, .lload_n 0, (fun _ => .nop), (fun _ => .nop)), some (0, .lload_n 1, (fun _ => .nop), (fun _ => .nop))]
def fz_op2 : List (Option fz_K) := [some (0, .lload_n 2, (fun _ => .nop), (fun _ => .nop)), some (0, .lload_n 3, (fun _ => .nop), (fun _ => .nop)), none, none, none, none, none, none, none, none, some (0, .aload_n 0, (fun _ => .nop), (fun _ => .nop)), some (0, .aload_n 1, (fun _ => .nop), (fun _ => .nop)), some (0, .aload_n 2, (fun _ => .nop), (fun _ => .nop)), some (0, .aload_n 3, (fun _ => .nop), (fun _ => .nop)), some (0, .iaload, (fun _ => .nop), (fun _ => .nop)), some (0, .laload, (fun _ => .nop), (fun _ => .nop))]
def fz_op3 : List (Option fz_K) := [none, none, some (0, .aaload, (fun _ => .nop), (fun _ => .nop)), some (0, .baload, (fun _ => .nop), (fun _ => .nop)), none, some (0, .saload, (fun _ => .nop), (fun _ => .nop)), some (1, .nop, (fun n => .istore n), (fun _ => .nop)), some (1, .nop, (fun n => .lstore n), (fun _ => .nop)), none, none, some (1, .nop, (fun n => .astore n), (fun _ => .nop)), some (0, .istore_n 0, (fun _ => .nop), (fun _ => .nop)), some (0, .istore_n 1, (fun _ => .nop), (fun _ => .nop)), some (0, .istore_n 2, (fun _ => .nop), (fun _ => .nop)), some (0, .istore_n 3, (fun _ => .nop), (fun _ => .nop)), some (0, .lstore_n 0, (fun _ => .nop), (fun _ => .nop))]
def fz_op4 : List (Option fz_K) := [some (0, .lstore_n 1, (fun _ => .nop), (fun _ => .nop)), some (0, .lstore_n 2, (fun _ => .nop), (fun _ => .nop)), some (0, .lstore_n 3, (fun _ => .nop), (fun _ => .nop)), none, none, none, none, none, none, none, none, some (0, .astore_n 0, (fun _ => .nop), (fun _ => .nop)), some (0, .astore_n 1, (fun _ => .nop), (fun _ => .nop)), some (0, .astore_n 2, (fun _ => .nop), (fun _ => .nop)), some (0, .astore_n 3, (fun _ => .nop), (fun _ => .nop)), some (0, .iastore, (fun _ => .nop), (fun _ => .nop))]
def fz_op5 : List (Option fz_K) := [some (0, .lastore, (fun _ => .nop), (fun _ => .nop)), none, none, some (0, .aastore, (fun _ => .nop), (fun _ => .nop)), some (0, .bastore, (fun _ => .nop), (fun _ => .nop)), none, none, some (0, .pop, (fun _ => .nop), (fun _ => .nop)), none, some (0, .dup, (fun _ => .nop), (fun _ => .nop)), none, none, some (0, .dup2, (fun _ => .nop), (fun _ => .nop)), none, none, none]
def fz_op6 : List (Option fz_K) := [some (0, .iadd, (fun _ => .nop), (fun _ => .nop)), some (0, .ladd, (fun _ => .nop), (fun _ => .nop)), none, none, some (0, .isub, (fun _ => .nop), (fun _ => .nop)), none, none, none, some (0, .imul, (fun _ => .nop), (fun _ => .nop)), none, none, none, some (0, .idiv, (fun _ => .nop), (fun _ => .nop)), none, none, none]
def fz_op7 : List (Option fz_K) := [some (0, .irem, (fun _ => .nop), (fun _ => .nop)), none, none, none, some (0, .ineg, (fun _ => .nop), (fun _ => .nop)), none, none, none, some (0, .ishl, (fun _ => .nop), (fun _ => .nop)), some (0, .lshl, (fun _ => .nop), (fun _ => .nop)), some (0, .ishr, (fun _ => .nop), (fun _ => .nop)), some (0, .lshr, (fun _ => .nop), (fun _ => .nop)), some (0, .iushr, (fun _ => .nop), (fun _ => .nop)), some (0, .lushr, (fun _ => .nop), (fun _ => .nop)), some (0, .iand, (fun _ => .nop), (fun _ => .nop)), some (0, .land, (fun _ => .nop), (fun _ => .nop))]
def fz_op8 : List (Option fz_K) := [some (0, .ior, (fun _ => .nop), (fun _ => .nop)), some (0, .lor, (fun _ => .nop), (fun _ => .nop)), some (0, .ixor, (fun _ => .nop), (fun _ => .nop)), some (0, .lxor, (fun _ => .nop), (fun _ => .nop)), some (5, .nop, (fun _ => .nop), (fun _ => .nop)), some (0, .i2l, (fun _ => .nop), (fun _ => .nop)), none, none, some (0, .l2i, (fun _ => .nop), (fun _ => .nop)), none, none, none, none, none, none, none]
def fz_op9 : List (Option fz_K) := [none, some (0, .i2b, (fun _ => .nop), (fun _ => .nop)), none, some (0, .i2s, (fun _ => .nop), (fun _ => .nop)), some (0, .lcmp, (fun _ => .nop), (fun _ => .nop)), none, none, none, none, some (4, .nop, (fun _ => .nop), (fun n => .ifCond .eq n)), some (4, .nop, (fun _ => .nop), (fun n => .ifCond .ne n)), some (4, .nop, (fun _ => .nop), (fun n => .ifCond .lt n)), some (4, .nop, (fun _ => .nop), (fun n => .ifCond .ge n)), some (4, .nop, (fun _ => .nop), (fun n => .ifCond .gt n)), some (4, .nop, (fun _ => .nop), (fun n => .ifCond .le n)), some (4, .nop, (fun _ => .nop), (fun n => .if_icmp .eq n))]
def fz_op10 : List (Option fz_K) := [some (4, .nop, (fun _ => .nop), (fun n => .if_icmp .ne n)), some (4, .nop, (fun _ => .nop), (fun n => .if_icmp .lt n)), some (4, .nop, (fun _ => .nop), (fun n => .if_icmp .ge n)), some (4, .nop, (fun _ => .nop), (fun n => .if_icmp .gt n)), some (4, .nop, (fun _ => .nop), (fun n => .if_icmp .le n)), some (4, .nop, (fun _ => .nop), (fun n => .if_acmp .eq n)), some (4, .nop, (fun _ => .nop), (fun n => .if_acmp .ne n)), some (4, .nop, (fun _ => .nop), (fun n => .goto n)), none, none, none, none, some (0, .ireturn, (fun _ => .nop), (fun _ => .nop)), some (0, .lreturn, (fun _ => .nop), (fun _ => .nop)), none, none]
def fz_op11 : List (Option fz_K) := [some (0, .areturn, (fun _ => .nop), (fun _ => .nop)), some (0, .return_, (fun _ => .nop), (fun _ => .nop)), some (2, .nop, (fun n => .getstatic n), (fun _ => .nop)), some (2, .nop, (fun n => .putstatic n), (fun _ => .nop)), some (2, .nop, (fun n => .getfield n), (fun _ => .nop)), some (2, .nop, (fun n => .putfield n), (fun _ => .nop)), some (2, .nop, (fun n => .invokevirtual n), (fun _ => .nop)), some (2, .nop, (fun n => .invokespecial n), (fun _ => .nop)), some (2, .nop, (fun n => .invokestatic n), (fun _ => .nop)), none, none, some (2, .nop, (fun n => .new n), (fun _ => .nop)), none, some (2, .nop, (fun n => .anewarray n), (fun _ => .nop)), some (0, .arraylength, (fun _ => .nop), (fun _ => .nop)), none]
def fz_op12 : List (Option fz_K) := [none, none, none, none, none, none, some (4, .nop, (fun _ => .nop), (fun n => .ifnull n)), some (4, .nop, (fun _ => .nop), (fun n => .ifnonnull n))]
def fz_op : List (List (Option fz_K)) := [fz_op0, fz_op1, fz_op2, fz_op3, fz_op4, fz_op5, fz_op6, fz_op7, fz_op8, fz_op9, fz_op10, fz_op11, fz_op12]
def fz_kt (n : Nat) : Option fz_K := match zget fz_op (n / 16) with
  | some g => (match zget g (n % 16) with
    | some e => e
    | _ => none)
  | _ => none
def fz_fd : List UInt8 → Option (Instr × Nat)
  | b :: r => (match fz_kt b.toNat with
    | some (0, i, _, _) => some (i, 1)
    | some (1, _, f, _) => (match r with
      | c :: _ => some (f c.toNat, 2)
      | _ => none)
    | some (2, _, f, _) => (match r with
      | c :: d :: _ => some (f (c.toNat * 256 + d.toNat), 3)
      | _ => none)
    | some (3, _, _, f) => (match r with
      | c :: _ => some (f (fz_fs 8 c.toNat), 2)
      | _ => none)
    | some (4, _, _, f) => (match r with
      | c :: d :: _ => some (f (fz_fs 16 (c.toNat * 256 + d.toNat)), 3)
      | _ => none)
    | some (5, _, _, _) => (match r with
      | c :: d :: _ => some (.iinc c.toNat (fz_fs 8 d.toNat), 3)
      | _ => none)
    | _ => none)
  | _ => none
/-- what an entry of the table says of the instruction that begins with its byte -/
def fz_kS (k : fz_K) (r : Decoder Instr) : Prop := match k with
  | (0, i, _, _) => r = Pure.pure i
  | (1, _, f, _) => r = (do Pure.pure (f (← Reader.u1)))
  | (2, _, f, _) => r = (do Pure.pure (f (← Reader.u2)))
  | (3, _, _, f) => r = (do Pure.pure (f (← Reader.s1)))
  | (4, _, _, f) => r = (do Pure.pure (f (← Reader.s2)))
  | (5, _, _, _) => r = (do Pure.pure (.iinc (← Reader.u1) (← Reader.s1)))
  | _ => False
def fz_ib (pc : Nat) (F : Nat → Decoder Instr) : Prop := Decoder.instr pc = Reader.u1 >>= F
theorem fz_ib_ex (pc : Nat) : ∃ F, fz_ib pc F ∧ fz_kS (0, .aconst_null, (fun _ => .nop), (fun _ => .nop)) (F 1) ∧ fz_kS (0, .iconst (-1), (fun _ => .nop), (fun _ => .nop)) (F 2) ∧ fz_kS (0, .iconst 0, (fun _ => .nop), (fun _ => .nop)) (F 3) ∧ fz_kS (0, .iconst 1, (fun _ => .nop), (fun _ => .nop)) (F 4) ∧ fz_kS (0, .iconst 2, (fun _ => .nop), (fun _ => .nop)) (F 5) ∧ fz_kS (0, .iconst 3, (fun _ => .nop), (fun _ => .nop)) (F 6) ∧ fz_kS (0, .iconst 4, (fun _ => .nop), (fun _ => .nop)) (F 7) ∧ fz_kS (0, .iconst 5, (fun _ => .nop), (fun _ => .nop)) (F 8) ∧ fz_kS (0, .lconst 0, (fun _ => .nop), (fun _ => .nop)) (F 9) ∧ fz_kS (0, .lconst 1, (fun _ => .nop), (fun _ => .nop)) (F 10) ∧ fz_kS (3, .nop, (fun _ => .nop), (fun n => .bipush n)) (F 16) ∧ fz_kS (4, .nop, (fun _ => .nop), (fun n => .sipush n)) (F 17) ∧ fz_kS (1, .nop, (fun n => .ldc n), (fun _ => .nop)) (F 18) ∧ fz_kS (2, .nop, (fun n => .ldc_w n), (fun _ => .nop)) (F 19) ∧ fz_kS (2, .nop, (fun n => .ldc2_w n), (fun _ => .nop)) (F 20) ∧ fz_kS (1, .nop, (fun n => .iload n), (fun _ => .nop)) (F 21) ∧ fz_kS (1, .nop, (fun n => .lload n), (fun _ => .nop)) (F 22) ∧ fz_kS (1, .nop, (fun n => .aload n), (fun _ => .nop)) (F 25) ∧ fz_kS (0, .iload_n 0, (fun _ => .nop), (fun _ => .nop)) (F 26) ∧ fz_kS (0, .iload_n 1, (fun _ => .nop), (fun _ => .nop)) (F 27) ∧ fz_kS (0, .iload_n 2, (fun _ => .nop), (fun _ => .nop)) (F 28) ∧ fz_kS (0, .iload_n 3, (fun _ => .nop), (fun _ => .nop)) (F 29) ∧ fz_kS (0, .lload_n 0, (fun _ => .nop), (fun _ => .nop)) (F 30) ∧ fz_kS (0, .lload_n 1, (fun _ => .nop), (fun _ => .nop)) (F 31) ∧ fz_kS (0, .lload_n 2, (fun _ => .nop), (fun _ => .nop)) (F 32) ∧ fz_kS (0, .lload_n 3, (fun _ => .nop), (fun _ => .nop)) (F 33) ∧ fz_kS (0, .aload_n 0, (fun _ => .nop), (fun _ => .nop)) (F 42) ∧ fz_kS (0, .aload_n 1, (fun _ => .nop), (fun _ => .nop)) (F 43) ∧ fz_kS (0, .aload_n 2, (fun _ => .nop), (fun _ => .nop)) (F 44) ∧ fz_kS (0, .aload_n 3, (fun _ => .nop), (fun _ => .nop)) (F 45) ∧ fz_kS (0, .iaload, (fun _ => .nop), (fun _ => .nop)) (F 46) ∧ fz_kS (0, .laload, (fun _ => .nop), (fun _ => .nop)) (F 47) ∧ fz_kS (0, .aaload, (fun _ => .nop), (fun _ => .nop)) (F 50) ∧ fz_kS (0, .baload, (fun _ => .nop), (fun _ => .nop)) (F 51) ∧ fz_kS (0, .saload, (fun _ => .nop), (fun _ => .nop)) (F 53) ∧ fz_kS (1, .nop, (fun n => .istore n), (fun _ => .nop)) (F 54) ∧ fz_kS (1, .nop, (fun n => .lstore n), (fun _ => .nop)) (F 55) ∧ fz_kS (1, .nop, (fun n => .astore n), (fun _ => .nop)) (F 58) ∧ fz_kS (0, .istore_n 0, (fun _ => .nop), (fun _ => .nop)) (F 59) ∧ fz_kS (0, .istore_n 1, (fun _ => .nop), (fun _ => .nop)) (F 60) ∧ fz_kS (0, .istore_n 2, (fun _ => .nop), (fun _ => .nop)) (F 61) ∧ fz_kS (0, .istore_n 3, (fun _ => .nop), (fun _ => .nop)) (F 62) ∧ fz_kS (0, .lstore_n 0, (fun _ => .nop), (fun _ => .nop)) (F 63) ∧ fz_kS (0, .lstore_n 1, (fun _ => .nop), (fun _ => .nop)) (F 64) ∧ fz_kS (0, .lstore_n 2, (fun _ => .nop), (fun _ => .nop)) (F 65) ∧ fz_kS (0, .lstore_n 3, (fun _ => .nop), (fun _ => .nop)) (F 66) ∧ fz_kS (0, .astore_n 0, (fun _ => .nop), (fun _ => .nop)) (F 75) ∧ fz_kS (0, .astore_n 1, (fun _ => .nop), (fun _ => .nop)) (F 76) ∧ fz_kS (0, .astore_n 2, (fun _ => .nop), (fun _ => .nop)) (F 77) ∧ fz_kS (0, .astore_n 3, (fun _ => .nop), (fun _ => .nop)) (F 78) ∧ fz_kS (0, .iastore, (fun _ => .nop), (fun _ => .nop)) (F 79) ∧ fz_kS (0, .lastore, (fun _ => .nop), (fun _ => .nop)) (F 80) ∧ fz_kS (0, .aastore, (fun _ => .nop), (fun _ => .nop)) (F 83) ∧ fz_kS (0, .bastore, (fun _ => .nop), (fun _ => .nop)) (F 84) ∧ fz_kS (0, .pop, (fun _ => .nop), (fun _ => .nop)) (F 87) ∧ fz_kS (0, .dup, (fun _ => .nop), (fun _ => .nop)) (F 89) ∧ fz_kS (0, .dup2, (fun _ => .nop), (fun _ => .nop)) (F 92) ∧ fz_kS (0, .iadd, (fun _ => .nop), (fun _ => .nop)) (F 96) ∧ fz_kS (0, .ladd, (fun _ => .nop), (fun _ => .nop)) (F 97) ∧ fz_kS (0, .isub, (fun _ => .nop), (fun _ => .nop)) (F 100) ∧ fz_kS (0, .imul, (fun _ => .nop), (fun _ => .nop)) (F 104) ∧ fz_kS (0, .idiv, (fun _ => .nop), (fun _ => .nop)) (F 108) ∧ fz_kS (0, .irem, (fun _ => .nop), (fun _ => .nop)) (F 112) ∧ fz_kS (0, .ineg, (fun _ => .nop), (fun _ => .nop)) (F 116) ∧ fz_kS (0, .ishl, (fun _ => .nop), (fun _ => .nop)) (F 120) ∧ fz_kS (0, .lshl, (fun _ => .nop), (fun _ => .nop)) (F 121) ∧ fz_kS (0, .ishr, (fun _ => .nop), (fun _ => .nop)) (F 122) ∧ fz_kS (0, .lshr, (fun _ => .nop), (fun _ => .nop)) (F 123) ∧ fz_kS (0, .iushr, (fun _ => .nop), (fun _ => .nop)) (F 124) ∧ fz_kS (0, .lushr, (fun _ => .nop), (fun _ => .nop)) (F 125) ∧ fz_kS (0, .iand, (fun _ => .nop), (fun _ => .nop)) (F 126) ∧ fz_kS (0, .land, (fun _ => .nop), (fun _ => .nop)) (F 127) ∧ fz_kS (0, .ior, (fun _ => .nop), (fun _ => .nop)) (F 128) ∧ fz_kS (0, .lor, (fun _ => .nop), (fun _ => .nop)) (F 129) ∧ fz_kS (0, .ixor, (fun _ => .nop), (fun _ => .nop)) (F 130) ∧ fz_kS (0, .lxor, (fun _ => .nop), (fun _ => .nop)) (F 131) ∧ fz_kS (5, .nop, (fun _ => .nop), (fun _ => .nop)) (F 132) ∧ fz_kS (0, .i2l, (fun _ => .nop), (fun _ => .nop)) (F 133) ∧ fz_kS (0, .l2i, (fun _ => .nop), (fun _ => .nop)) (F 136) ∧ fz_kS (0, .i2b, (fun _ => .nop), (fun _ => .nop)) (F 145) ∧ fz_kS (0, .i2s, (fun _ => .nop), (fun _ => .nop)) (F 147) ∧ fz_kS (0, .lcmp, (fun _ => .nop), (fun _ => .nop)) (F 148) ∧ fz_kS (4, .nop, (fun _ => .nop), (fun n => .ifCond .eq n)) (F 153) ∧ fz_kS (4, .nop, (fun _ => .nop), (fun n => .ifCond .ne n)) (F 154) ∧ fz_kS (4, .nop, (fun _ => .nop), (fun n => .ifCond .lt n)) (F 155) ∧ fz_kS (4, .nop, (fun _ => .nop), (fun n => .ifCond .ge n)) (F 156) ∧ fz_kS (4, .nop, (fun _ => .nop), (fun n => .ifCond .gt n)) (F 157) ∧ fz_kS (4, .nop, (fun _ => .nop), (fun n => .ifCond .le n)) (F 158) ∧ fz_kS (4, .nop, (fun _ => .nop), (fun n => .if_icmp .eq n)) (F 159) ∧ fz_kS (4, .nop, (fun _ => .nop), (fun n => .if_icmp .ne n)) (F 160) ∧ fz_kS (4, .nop, (fun _ => .nop), (fun n => .if_icmp .lt n)) (F 161) ∧ fz_kS (4, .nop, (fun _ => .nop), (fun n => .if_icmp .ge n)) (F 162) ∧ fz_kS (4, .nop, (fun _ => .nop), (fun n => .if_icmp .gt n)) (F 163) ∧ fz_kS (4, .nop, (fun _ => .nop), (fun n => .if_icmp .le n)) (F 164) ∧ fz_kS (4, .nop, (fun _ => .nop), (fun n => .if_acmp .eq n)) (F 165) ∧ fz_kS (4, .nop, (fun _ => .nop), (fun n => .if_acmp .ne n)) (F 166) ∧ fz_kS (4, .nop, (fun _ => .nop), (fun n => .goto n)) (F 167) ∧ fz_kS (0, .ireturn, (fun _ => .nop), (fun _ => .nop)) (F 172) ∧ fz_kS (0, .lreturn, (fun _ => .nop), (fun _ => .nop)) (F 173) ∧ fz_kS (0, .areturn, (fun _ => .nop), (fun _ => .nop)) (F 176) ∧ fz_kS (0, .return_, (fun _ => .nop), (fun _ => .nop)) (F 177) ∧ fz_kS (2, .nop, (fun n => .getstatic n), (fun _ => .nop)) (F 178) ∧ fz_kS (2, .nop, (fun n => .putstatic n), (fun _ => .nop)) (F 179) ∧ fz_kS (2, .nop, (fun n => .getfield n), (fun _ => .nop)) (F 180) ∧ fz_kS (2, .nop, (fun n => .putfield n), (fun _ => .nop)) (F 181) ∧ fz_kS (2, .nop, (fun n => .invokevirtual n), (fun _ => .nop)) (F 182) ∧ fz_kS (2, .nop, (fun n => .invokespecial n), (fun _ => .nop)) (F 183) ∧ fz_kS (2, .nop, (fun n => .invokestatic n), (fun _ => .nop)) (F 184) ∧ fz_kS (2, .nop, (fun n => .new n), (fun _ => .nop)) (F 187) ∧ fz_kS (2, .nop, (fun n => .anewarray n), (fun _ => .nop)) (F 189) ∧ fz_kS (0, .arraylength, (fun _ => .nop), (fun _ => .nop)) (F 190) ∧ fz_kS (4, .nop, (fun _ => .nop), (fun n => .ifnull n)) (F 198) ∧ fz_kS (4, .nop, (fun _ => .nop), (fun n => .ifnonnull n)) (F 199) :=
  ⟨_, rfl, rfl, rfl, rfl, rfl, rfl, rfl, rfl, rfl, rfl, rfl, rfl, rfl, rfl, rfl, rfl, rfl, rfl, rfl, rfl, rfl, rfl, rfl, rfl, rfl, rfl, rfl, rfl, rfl, rfl, rfl, rfl, rfl, rfl, rfl, rfl, rfl, rfl, rfl, rfl, rfl, rfl, rfl, rfl, rfl, rfl, rfl, rfl, rfl, rfl, rfl, rfl, rfl, rfl, rfl, rfl, rfl, rfl, rfl, rfl, rfl, rfl, rfl, rfl, rfl, rfl, rfl, rfl, rfl, rfl, rfl, rfl, rfl, rfl, rfl, rfl, rfl, rfl, rfl, rfl, rfl, rfl, rfl, rfl, rfl, rfl, rfl, rfl, rfl, rfl, rfl, rfl, rfl, rfl, rfl, rfl, rfl, rfl, rfl, rfl, rfl, rfl, rfl, rfl, rfl, rfl, rfl, rfl, rfl, rfl, rfl, rfl, rfl, rfl⟩
theorem fz_kt_ok (pc : Nat) : ∃ F, fz_ib pc F ∧ ∀ n k, fz_kt n = some k → fz_kS k (F n) := by
  obtain ⟨F, h, hs⟩ := fz_ib_ex pc
  refine ⟨F, h, ?_⟩
  obtain ⟨h1_s, h2_s, h3_s, h4_s, h5_s, h6_s, h7_s, h8_s, h9_s, h10_s, h16_s, h17_s, h18_s, h19_s, h20_s, h21_s, h22_s, h25_s, h26_s, h27_s, h28_s, h29_s, h30_s, h31_s, h32_s, h33_s, h42_s, h43_s, h44_s, h45_s, h46_s, h47_s, h50_s, h51_s, h53_s, h54_s, h55_s, h58_s, h59_s, h60_s, h61_s, h62_s, h63_s, h64_s, h65_s, h66_s, h75_s, h76_s, h77_s, h78_s, h79_s, h80_s, h83_s, h84_s, h87_s, h89_s, h92_s, h96_s, h97_s, h100_s, h104_s, h108_s, h112_s, h116_s, h120_s, h121_s, h122_s, h123_s, h124_s, h125_s, h126_s, h127_s, h128_s, h129_s, h130_s, h131_s, h132_s, h133_s, h136_s, h145_s, h147_s, h148_s, h153_s, h154_s, h155_s, h156_s, h157_s, h158_s, h159_s, h160_s, h161_s, h162_s, h163_s, h164_s, h165_s, h166_s, h167_s, h172_s, h173_s, h176_s, h177_s, h178_s, h179_s, h180_s, h181_s, h182_s, h183_s, h184_s, h187_s, h189_s, h190_s, h198_s, h199_s⟩ := hs
  intro n k e
  match n, e with
  | 0, e => cases e
  | 1, e =>
    cases e
    exact h1_s
  | 2, e =>
    cases e
    exact h2_s
  | 3, e =>
    cases e
    exact h3_s
  | 4, e =>
    cases e
    exact h4_s
  | 5, e =>
    cases e
    exact h5_s
  | 6, e =>
    cases e
    exact h6_s
  | 7, e =>
    cases e
    exact h7_s
  | 8, e =>
    cases e
    exact h8_s
  | 9, e =>
    cases e
    exact h9_s
  | 10, e =>
    cases e
    exact h10_s
  | 11, e => cases e
  | 12, e => cases e
  | 13, e => cases e
  | 14, e => cases e
  | 15, e => cases e
  | 16, e =>
    cases e
    exact h16_s
  | 17, e =>
    cases e
    exact h17_s
  | 18, e =>
    cases e
    exact h18_s
  | 19, e =>
    cases e
    exact h19_s
  | 20, e =>
    cases e
    exact h20_s
  | 21, e =>
    cases e
    exact h21_s
  | 22, e =>
    cases e
    exact h22_s
  | 23, e => cases e
  | 24, e => cases e
  | 25, e =>
    cases e
    exact h25_s
  | 26, e =>
    cases e
    exact h26_s
  | 27, e =>
    cases e
    exact h27_s
  | 28, e =>
    cases e
    exact h28_s
  | 29, e =>
    cases e
    exact h29_s
  | 30, e =>
    cases e
    exact h30_s
  | 31, e =>
    cases e
    exact h31_s
  | 32, e =>
    cases e
    exact h32_s
  | 33, e =>
    cases e
    exact h33_s
  | 34, e => cases e
  | 35, e => cases e
  | 36, e => cases e
  | 37, e => cases e
  | 38, e => cases e
  | 39, e => cases e
  | 40, e => cases e
  | 41, e => cases e
  | 42, e =>
    cases e
    exact h42_s
  | 43, e =>
    cases e
    exact h43_s
  | 44, e =>
    cases e
    exact h44_s
  | 45, e =>
    cases e
    exact h45_s
  | 46, e =>
    cases e
    exact h46_s
  | 47, e =>
    cases e
    exact h47_s
  | 48, e => cases e
  | 49, e => cases e
  | 50, e =>
    cases e
    exact h50_s
  | 51, e =>
    cases e
    exact h51_s
  | 52, e => cases e
  | 53, e =>
    cases e
    exact h53_s
  | 54, e =>
    cases e
    exact h54_s
  | 55, e =>
    cases e
    exact h55_s
  | 56, e => cases e
  | 57, e => cases e
  | 58, e =>
    cases e
    exact h58_s
  | 59, e =>
    cases e
    exact h59_s
  | 60, e =>
    cases e
    exact h60_s
  | 61, e =>
    cases e
    exact h61_s
  | 62, e =>
    cases e
    exact h62_s
  | 63, e =>
    cases e
    exact h63_s
  | 64, e =>
    cases e
    exact h64_s
  | 65, e =>
    cases e
    exact h65_s
  | 66, e =>
    cases e
    exact h66_s
  | 67, e => cases e
  | 68, e => cases e
  | 69, e => cases e
  | 70, e => cases e
  | 71, e => cases e
  | 72, e => cases e
  | 73, e => cases e
  | 74, e => cases e
  | 75, e =>
    cases e
    exact h75_s
  | 76, e =>
    cases e
    exact h76_s
  | 77, e =>
    cases e
    exact h77_s
  | 78, e =>
    cases e
    exact h78_s
  | 79, e =>
    cases e
    exact h79_s
  | 80, e =>
    cases e
    exact h80_s
  | 81, e => cases e
  | 82, e => cases e
  | 83, e =>
    cases e
    exact h83_s
  | 84, e =>
    cases e
    exact h84_s
  | 85, e => cases e
  | 86, e => cases e
  | 87, e =>
    cases e
    exact h87_s
  | 88, e => cases e
  | 89, e =>
    cases e
    exact h89_s
  | 90, e => cases e
  | 91, e => cases e
  | 92, e =>
    cases e
    exact h92_s
  | 93, e => cases e
  | 94, e => cases e
  | 95, e => cases e
  | 96, e =>
    cases e
    exact h96_s
  | 97, e =>
    cases e
    exact h97_s
  | 98, e => cases e
  | 99, e => cases e
  | 100, e =>
    cases e
    exact h100_s
  | 101, e => cases e
  | 102, e => cases e
  | 103, e => cases e
  | 104, e =>
    cases e
    exact h104_s
  | 105, e => cases e
  | 106, e => cases e
  | 107, e => cases e
  | 108, e =>
    cases e
    exact h108_s
  | 109, e => cases e
  | 110, e => cases e
  | 111, e => cases e
  | 112, e =>
    cases e
    exact h112_s
  | 113, e => cases e
  | 114, e => cases e
  | 115, e => cases e
  | 116, e =>
    cases e
    exact h116_s
  | 117, e => cases e
  | 118, e => cases e
  | 119, e => cases e
  | 120, e =>
    cases e
    exact h120_s
  | 121, e =>
    cases e
    exact h121_s
  | 122, e =>
    cases e
    exact h122_s
  | 123, e =>
    cases e
    exact h123_s
  | 124, e =>
    cases e
    exact h124_s
  | 125, e =>
    cases e
    exact h125_s
  | 126, e =>
    cases e
    exact h126_s
  | 127, e =>
    cases e
    exact h127_s
  | 128, e =>
    cases e
    exact h128_s
  | 129, e =>
    cases e
    exact h129_s
  | 130, e =>
    cases e
    exact h130_s
  | 131, e =>
    cases e
    exact h131_s
  | 132, e =>
    cases e
    exact h132_s
  | 133, e =>
    cases e
    exact h133_s
  | 134, e => cases e
  | 135, e => cases e
  | 136, e =>
    cases e
    exact h136_s
  | 137, e => cases e
  | 138, e => cases e
  | 139, e => cases e
  | 140, e => cases e
  | 141, e => cases e
  | 142, e => cases e
  | 143, e => cases e
  | 144, e => cases e
  | 145, e =>
    cases e
    exact h145_s
  | 146, e => cases e
  | 147, e =>
    cases e
    exact h147_s
  | 148, e =>
    cases e
    exact h148_s
  | 149, e => cases e
  | 150, e => cases e
  | 151, e => cases e
  | 152, e => cases e
  | 153, e =>
    cases e
    exact h153_s
  | 154, e =>
    cases e
    exact h154_s
  | 155, e =>
    cases e
    exact h155_s
  | 156, e =>
    cases e
    exact h156_s
  | 157, e =>
    cases e
    exact h157_s
  | 158, e =>
    cases e
    exact h158_s
  | 159, e =>
    cases e
    exact h159_s
  | 160, e =>
    cases e
    exact h160_s
  | 161, e =>
    cases e
    exact h161_s
  | 162, e =>
    cases e
    exact h162_s
  | 163, e =>
    cases e
    exact h163_s
  | 164, e =>
    cases e
    exact h164_s
  | 165, e =>
    cases e
    exact h165_s
  | 166, e =>
    cases e
    exact h166_s
  | 167, e =>
    cases e
    exact h167_s
  | 168, e => cases e
  | 169, e => cases e
  | 170, e => cases e
  | 171, e => cases e
  | 172, e =>
    cases e
    exact h172_s
  | 173, e =>
    cases e
    exact h173_s
  | 174, e => cases e
  | 175, e => cases e
  | 176, e =>
    cases e
    exact h176_s
  | 177, e =>
    cases e
    exact h177_s
  | 178, e =>
    cases e
    exact h178_s
  | 179, e =>
    cases e
    exact h179_s
  | 180, e =>
    cases e
    exact h180_s
  | 181, e =>
    cases e
    exact h181_s
  | 182, e =>
    cases e
    exact h182_s
  | 183, e =>
    cases e
    exact h183_s
  | 184, e =>
    cases e
    exact h184_s
  | 185, e => cases e
  | 186, e => cases e
  | 187, e =>
    cases e
    exact h187_s
  | 188, e => cases e
  | 189, e =>
    cases e
    exact h189_s
  | 190, e =>
    cases e
    exact h190_s
  | 191, e => cases e
  | 192, e => cases e
  | 193, e => cases e
  | 194, e => cases e
  | 195, e => cases e
  | 196, e => cases e
  | 197, e => cases e
  | 198, e =>
    cases e
    exact h198_s
  | 199, e =>
    cases e
    exact h199_s
  | n + 200, e =>
    exfalso
    unfold fz_kt at e
    cases h1_s : zget fz_op ((n + 200) / 16) with
    | none =>
      rw [h1_s] at e
      cases e
    | some g_s =>
      rw [h1_s] at e
      have l1_s : (n + 200) / 16 < 13 := fz_fl_lt h1_s
      have l2_s : (n + 200) / 16 = 12 := by omega
      rw [l2_s] at h1_s
      cases h1_s
      dsimp only at e
      cases h3_s : zget fz_op12 ((n + 200) % 16) with
      | none =>
        rw [h3_s] at e
        cases e
      | some q_s =>
        have l3_s : (n + 200) % 16 < 8 := fz_fl_lt h3_s
        omega
theorem fz_fd_ok {k : ByteArray} {p n : Nat} {i : Instr} {l : List UInt8} (hl : fz_fb k p l) (h : fz_fd l = some (i, n)) : decode k p = .ok (i, n) := by
  obtain ⟨F, hF, hs⟩ := fz_kt_ok p
  have key : (Decoder.instr p).runAt k p = .ok (i, p + n) → decode k p = .ok (i, n) := fun c_s => by
    unfold decode
    rw [c_s]
    show Except.ok (i, p + n - p) = _
    rw [Nat.add_sub_cancel_left]
  apply key
  rw [show Decoder.instr p = Reader.u1 >>= F from hF]
  match l, hl, h with
  | [], _, h => cases h
  | b :: r, hl, h =>
    unfold fz_fd at h
    dsimp only at h
    refine (fz_ub (fz_fb_u1 hl)).trans ?_
    have hr := fz_fb_next hl
    cases e_s : fz_kt b.toNat with
    | none =>
      rw [e_s] at h
      cases h
    | some t_s =>
      have z_s := hs _ _ e_s
      rw [e_s] at h
      match t_s, z_s, h with
      | (0, i_s, _, _), z_s, h =>
        rw [show F b.toNat = Pure.pure i_s from z_s]
        cases h
        rfl
      | (1, _, f_s, _), z_s, h =>
        rw [show F b.toNat = (do Pure.pure (f_s (← Reader.u1))) from z_s]
        match r, hr, h with
        | c_s :: r_s, hr, h =>
          cases h
          exact (fz_gb (fz_fb_u1 hr)).trans rfl
      | (2, _, f_s, _), z_s, h =>
        rw [show F b.toNat = (do Pure.pure (f_s (← Reader.u2))) from z_s]
        match r, hr, h with
        | c_s :: d_s :: r_s, hr, h =>
          cases h
          exact (fz_gb (fz_fb_u2 hr)).trans rfl
      | (3, _, _, f_s), z_s, h =>
        rw [show F b.toNat = (do Pure.pure (f_s (← Reader.s1))) from z_s]
        match r, hr, h with
        | c_s :: r_s, hr, h =>
          cases h
          exact (fz_gb (fz_fb_s1 hr)).trans rfl
      | (4, _, _, f_s), z_s, h =>
        rw [show F b.toNat = (do Pure.pure (f_s (← Reader.s2))) from z_s]
        match r, hr, h with
        | c_s :: d_s :: r_s, hr, h =>
          cases h
          exact (fz_gb (fz_fb_s2 hr)).trans rfl
      | (5, _, _, _), z_s, h =>
        rw [show F b.toNat = (do Pure.pure (.iinc (← Reader.u1) (← Reader.s1))) from z_s]
        match r, hr, h with
        | c_s :: d_s :: r_s, hr, h =>
          cases h
          exact (fz_gb (fz_fb_u1 hr)).trans ((fz_gb (fz_fb_s1 (fz_fb_next hr))).trans rfl)
      | (k_s + 6, _, _, _), z_s, h => cases h
/-- the checks of a method's instructions, with its bytes at hand -/
def fz_ckF (M : zM) : Nat → List UInt8 → List (Option zI) → Bool
  | _, _, [] => true
  | pc, l, none :: r => fz_ckF M (pc + 1) (l.drop 1) r
  | pc, l, some e :: r => (match fz_fd l with
    | some (i, n) => decide (n = e.2.1) && zcI M pc e i
    | none => zchk M pc e) && fz_ckF M (pc + 1) (l.drop 1) r
def fz_ckH (M : zM) : Nat → List UInt8 → List (List (Option zI)) → Bool
  | _, _, [] => true
  | pc, l, r :: t => fz_ckF M pc l r && fz_ckH M (pc + 16) (l.drop 16) t
theorem fz_ckF_ok {M : zM} : ∀ {r : List (Option zI)} {pc : Nat} {l : List UInt8}, fz_fb M.2.1 pc l → fz_ckF M pc l r = true → zckR M pc r = true
  | [], _, _, _, _ => rfl
  | none :: r, pc, l, hl, h => by
    unfold fz_ckF at h
    unfold zckR
    exact fz_ckF_ok (l := l.drop 1) (by rw [← hl, List.drop_drop]) h
  | some e :: r, pc, l, hl, h => by
    unfold fz_ckF at h
    unfold zckR
    rw [Bool.and_eq_true] at h
    rw [Bool.and_eq_true]
    refine ⟨?_, fz_ckF_ok (l := l.drop 1) (by rw [← hl, List.drop_drop]) h.2⟩
    have h1 := h.1
    cases c_s : fz_fd l with
    | none =>
      rw [c_s] at h1
      exact h1
    | some q_s =>
      obtain ⟨i, n⟩ := q_s
      rw [c_s] at h1
      unfold zchk
      rw [fz_fd_ok hl c_s]
      exact h1
theorem fz_ckH_ok {M : zM} : ∀ {t : List (List (Option zI))} {pc : Nat} {l : List UInt8}, fz_fb M.2.1 pc l → fz_ckH M pc l t = true → zckT M pc t = true
  | [], _, _, _, _ => rfl
  | r :: t, pc, l, hl, h => by
    unfold fz_ckH at h
    unfold zckT
    rw [Bool.and_eq_true] at h
    rw [Bool.and_eq_true]
    exact ⟨fz_ckF_ok hl h.1, fz_ckH_ok (l := l.drop 16) (by rw [← hl, List.drop_drop]) h.2⟩
def fz_ckN (mi : Nat) (t : List (List (Option zI))) : Bool := match zm mi with
  | some M => fz_ckH M 0 M.2.1.data.toList t
  | _ => false
theorem fz_ckN_ok {mi : Nat} {t : List (List (Option zI))} (h : fz_ckN mi t = true) : zckM mi t = true := by
  unfold fz_ckN at h
  unfold zckM
  cases c_s : zm mi with
  | none =>
    rw [c_s] at h
    cases h
  | some M =>
    rw [c_s] at h
    exact fz_ckH_ok (List.drop_zero) h
/-! the checks of instructions by recursors and small functions: printed by wip/gen/mkckw.py -/
noncomputable def zbq {α : Type} (c_s : Bool) (a_s b_s : α) : α := Bool.rec (motive := fun _ => α) b_s a_s c_s
noncomputable def zcIw32 (M_s : zM) (len_s a_s b_s c_s : Nat) (sw_s : List (Int32 × Nat)) (i_s : Instr) : Bool := Option.rec (motive := fun _ => Bool) false (fun M2_s => zc32 M_s.1.cls len_s a_s b_s (c_s % 4) (c_s / 4) sw_s M2_s i_s) (zm a_s)
noncomputable def zcIw_0 (M_s : zM) (pc : Nat) (e_s : zI) (i_s : Instr) : Bool := zbq (Nat.blt e_s.1 1) (zc0 M_s.1.cls e_s.2.1 e_s.2.2.2.2.2.1 e_s.2.2.2.2.2.2 i_s) (zc1 e_s.2.1 e_s.2.2.1 i_s)
noncomputable def zcIw_1 (M_s : zM) (pc : Nat) (e_s : zI) (i_s : Instr) : Bool := zbq (Nat.blt e_s.1 4) (zc3 e_s.2.1 e_s.2.2.1 i_s) (zc4 M_s.2.2.1 e_s.2.1 e_s.2.2.1 i_s)
noncomputable def zcIw_2 (M_s : zM) (pc : Nat) (e_s : zI) (i_s : Instr) : Bool := zbq (Nat.blt e_s.1 3) (zc2 e_s.2.1 e_s.2.2.1 i_s) (zcIw_1 M_s pc e_s i_s)
noncomputable def zcIw_3 (M_s : zM) (pc : Nat) (e_s : zI) (i_s : Instr) : Bool := zbq (Nat.blt e_s.1 2) (zcIw_0 M_s pc e_s i_s) (zcIw_2 M_s pc e_s i_s)
noncomputable def zcIw_4 (M_s : zM) (pc : Nat) (e_s : zI) (i_s : Instr) : Bool := zbq (Nat.blt e_s.1 7) (zc6 M_s.2.2.1 e_s.2.1 e_s.2.2.1 i_s) (zc7 e_s.2.1 e_s.2.2.2.1 i_s)
noncomputable def zcIw_5 (M_s : zM) (pc : Nat) (e_s : zI) (i_s : Instr) : Bool := zbq (Nat.blt e_s.1 6) (zc5 M_s.2.2.1 e_s.2.1 e_s.2.2.1 i_s) (zcIw_4 M_s pc e_s i_s)
noncomputable def zcIw_6 (M_s : zM) (pc : Nat) (e_s : zI) (i_s : Instr) : Bool := zbq (Nat.blt e_s.1 10) (zc9 e_s.2.1 e_s.2.2.2.1 i_s) (zc10 e_s.2.1 i_s)
noncomputable def zcIw_7 (M_s : zM) (pc : Nat) (e_s : zI) (i_s : Instr) : Bool := zbq (Nat.blt e_s.1 9) (zc8 e_s.2.1 e_s.2.2.2.1 i_s) (zcIw_6 M_s pc e_s i_s)
noncomputable def zcIw_8 (M_s : zM) (pc : Nat) (e_s : zI) (i_s : Instr) : Bool := zbq (Nat.blt e_s.1 8) (zcIw_5 M_s pc e_s i_s) (zcIw_7 M_s pc e_s i_s)
noncomputable def zcIw_9 (M_s : zM) (pc : Nat) (e_s : zI) (i_s : Instr) : Bool := zbq (Nat.blt e_s.1 5) (zcIw_3 M_s pc e_s i_s) (zcIw_8 M_s pc e_s i_s)
noncomputable def zcIw_10 (M_s : zM) (pc : Nat) (e_s : zI) (i_s : Instr) : Bool := zbq (Nat.blt e_s.1 12) (zc11 e_s.2.1 i_s) (zc12 e_s.2.1 e_s.2.2.2.1 i_s)
noncomputable def zcIw_11 (M_s : zM) (pc : Nat) (e_s : zI) (i_s : Instr) : Bool := zbq (Nat.blt e_s.1 15) (zc14 e_s.2.1 i_s) (zc15 pc e_s.2.1 e_s.2.2.1 e_s.2.2.2.1 i_s)
noncomputable def zcIw_12 (M_s : zM) (pc : Nat) (e_s : zI) (i_s : Instr) : Bool := zbq (Nat.blt e_s.1 14) (zc13 e_s.2.1 i_s) (zcIw_11 M_s pc e_s i_s)
noncomputable def zcIw_13 (M_s : zM) (pc : Nat) (e_s : zI) (i_s : Instr) : Bool := zbq (Nat.blt e_s.1 13) (zcIw_10 M_s pc e_s i_s) (zcIw_12 M_s pc e_s i_s)
noncomputable def zcIw_14 (M_s : zM) (pc : Nat) (e_s : zI) (i_s : Instr) : Bool := zbq (Nat.blt e_s.1 18) (zc17 pc e_s.2.1 e_s.2.2.1 i_s) (zc18 pc e_s.2.2.1 e_s.2.2.2.2.2.2 i_s)
noncomputable def zcIw_15 (M_s : zM) (pc : Nat) (e_s : zI) (i_s : Instr) : Bool := zbq (Nat.blt e_s.1 17) (zc16 pc e_s.2.1 e_s.2.2.1 e_s.2.2.2.1 i_s) (zcIw_14 M_s pc e_s i_s)
noncomputable def zcIw_16 (M_s : zM) (pc : Nat) (e_s : zI) (i_s : Instr) : Bool := zbq (Nat.blt e_s.1 21) (zc20 M_s.1.cls e_s.2.1 e_s.2.2.1 e_s.2.2.2.1 e_s.2.2.2.2.1 e_s.2.2.2.2.2.2 i_s) (zc21 M_s.1 e_s.2.1 e_s.2.2.1 e_s.2.2.2.1 e_s.2.2.2.2.1 e_s.2.2.2.2.2.2 i_s)
noncomputable def zcIw_17 (M_s : zM) (pc : Nat) (e_s : zI) (i_s : Instr) : Bool := zbq (Nat.blt e_s.1 20) (zc19 M_s.2.2.1 e_s.2.1 e_s.2.2.1 e_s.2.2.2.2.2.1 i_s) (zcIw_16 M_s pc e_s i_s)
noncomputable def zcIw_18 (M_s : zM) (pc : Nat) (e_s : zI) (i_s : Instr) : Bool := zbq (Nat.blt e_s.1 19) (zcIw_15 M_s pc e_s i_s) (zcIw_17 M_s pc e_s i_s)
noncomputable def zcIw_19 (M_s : zM) (pc : Nat) (e_s : zI) (i_s : Instr) : Bool := zbq (Nat.blt e_s.1 16) (zcIw_13 M_s pc e_s i_s) (zcIw_18 M_s pc e_s i_s)
noncomputable def zcIw_20 (M_s : zM) (pc : Nat) (e_s : zI) (i_s : Instr) : Bool := zbq (Nat.blt e_s.1 11) (zcIw_9 M_s pc e_s i_s) (zcIw_19 M_s pc e_s i_s)
noncomputable def zcIw_21 (M_s : zM) (pc : Nat) (e_s : zI) (i_s : Instr) : Bool := zbq (Nat.blt e_s.1 23) (zc22 e_s.2.1 i_s) (zc23 e_s.2.1 i_s)
noncomputable def zcIw_22 (M_s : zM) (pc : Nat) (e_s : zI) (i_s : Instr) : Bool := zbq (Nat.blt e_s.1 26) (zc25 e_s.2.1 i_s) (zc26 e_s.2.1 i_s)
noncomputable def zcIw_23 (M_s : zM) (pc : Nat) (e_s : zI) (i_s : Instr) : Bool := zbq (Nat.blt e_s.1 25) (zc24 e_s.2.1 i_s) (zcIw_22 M_s pc e_s i_s)
noncomputable def zcIw_24 (M_s : zM) (pc : Nat) (e_s : zI) (i_s : Instr) : Bool := zbq (Nat.blt e_s.1 24) (zcIw_21 M_s pc e_s i_s) (zcIw_23 M_s pc e_s i_s)
noncomputable def zcIw_25 (M_s : zM) (pc : Nat) (e_s : zI) (i_s : Instr) : Bool := zbq (Nat.blt e_s.1 29) (zc28 e_s.2.1 i_s) (zc29 M_s.1.cls e_s.2.1 e_s.2.2.1 e_s.2.2.2.1 e_s.2.2.2.2.2.2 i_s)
noncomputable def zcIw_26 (M_s : zM) (pc : Nat) (e_s : zI) (i_s : Instr) : Bool := zbq (Nat.blt e_s.1 28) (zc27 e_s.2.1 i_s) (zcIw_25 M_s pc e_s i_s)
noncomputable def zcIw_27 (M_s : zM) (pc : Nat) (e_s : zI) (i_s : Instr) : Bool := zbq (Nat.blt e_s.1 32) (zc31 M_s.1.cls e_s.2.1 e_s.2.2.2.1 e_s.2.2.2.2.2.2 i_s) (zcIw32 M_s e_s.2.1 e_s.2.2.1 e_s.2.2.2.1 e_s.2.2.2.2.1 e_s.2.2.2.2.2.2 i_s)
noncomputable def zcIw_28 (M_s : zM) (pc : Nat) (e_s : zI) (i_s : Instr) : Bool := zbq (Nat.blt e_s.1 31) (zc30 M_s.1.cls e_s.2.1 e_s.2.2.1 e_s.2.2.2.2.2.2 i_s) (zcIw_27 M_s pc e_s i_s)
noncomputable def zcIw_29 (M_s : zM) (pc : Nat) (e_s : zI) (i_s : Instr) : Bool := zbq (Nat.blt e_s.1 30) (zcIw_26 M_s pc e_s i_s) (zcIw_28 M_s pc e_s i_s)
noncomputable def zcIw_30 (M_s : zM) (pc : Nat) (e_s : zI) (i_s : Instr) : Bool := zbq (Nat.blt e_s.1 27) (zcIw_24 M_s pc e_s i_s) (zcIw_29 M_s pc e_s i_s)
noncomputable def zcIw_31 (M_s : zM) (pc : Nat) (e_s : zI) (i_s : Instr) : Bool := zbq (Nat.blt e_s.1 35) (zc34 M_s.1.cls e_s.2.1 e_s.2.2.2.2.2.2 i_s) (zc35 e_s.2.1 e_s.2.2.2.2.1 M_s.2.2.2.1 i_s)
noncomputable def zcIw_32 (M_s : zM) (pc : Nat) (e_s : zI) (i_s : Instr) : Bool := zbq (Nat.blt e_s.1 34) (zc33 M_s.1.cls e_s.2.1 e_s.2.2.2.2.2.2 i_s) (zcIw_31 M_s pc e_s i_s)
noncomputable def zcIw_33 (M_s : zM) (pc : Nat) (e_s : zI) (i_s : Instr) : Bool := zbq (Nat.blt e_s.1 38) (zc37 e_s.2.1 M_s.2.2.2.1 i_s) (zc38 e_s.2.1 M_s.2.2.2.1 i_s)
noncomputable def zcIw_34 (M_s : zM) (pc : Nat) (e_s : zI) (i_s : Instr) : Bool := zbq (Nat.blt e_s.1 37) (zc36 e_s.2.1 M_s.2.2.2.1 i_s) (zcIw_33 M_s pc e_s i_s)
noncomputable def zcIw_35 (M_s : zM) (pc : Nat) (e_s : zI) (i_s : Instr) : Bool := zbq (Nat.blt e_s.1 36) (zcIw_32 M_s pc e_s i_s) (zcIw_34 M_s pc e_s i_s)
noncomputable def zcIw_36 (M_s : zM) (pc : Nat) (e_s : zI) (i_s : Instr) : Bool := zbq (Nat.blt e_s.1 41) (zc40 e_s.2.1 i_s) (zc41 e_s.2.1 i_s)
noncomputable def zcIw_37 (M_s : zM) (pc : Nat) (e_s : zI) (i_s : Instr) : Bool := zbq (Nat.blt e_s.1 40) (zc39 e_s.2.1 i_s) (zcIw_36 M_s pc e_s i_s)
noncomputable def zcIw_38 (M_s : zM) (pc : Nat) (e_s : zI) (i_s : Instr) : Bool := zbq (Nat.blt e_s.1 44) (zc43 M_s.1.cls e_s.2.1 e_s.2.2.1 e_s.2.2.2.2.1 e_s.2.2.2.2.2.2 i_s) (zc44 e_s.2.1 i_s)
noncomputable def zcIw_39 (M_s : zM) (pc : Nat) (e_s : zI) (i_s : Instr) : Bool := zbq (Nat.blt e_s.1 43) (zc42 e_s.2.1 i_s) (zcIw_38 M_s pc e_s i_s)
noncomputable def zcIw_40 (M_s : zM) (pc : Nat) (e_s : zI) (i_s : Instr) : Bool := zbq (Nat.blt e_s.1 42) (zcIw_37 M_s pc e_s i_s) (zcIw_39 M_s pc e_s i_s)
noncomputable def zcIw_41 (M_s : zM) (pc : Nat) (e_s : zI) (i_s : Instr) : Bool := zbq (Nat.blt e_s.1 39) (zcIw_35 M_s pc e_s i_s) (zcIw_40 M_s pc e_s i_s)
noncomputable def zcIw_42 (M_s : zM) (pc : Nat) (e_s : zI) (i_s : Instr) : Bool := zbq (Nat.blt e_s.1 33) (zcIw_30 M_s pc e_s i_s) (zcIw_41 M_s pc e_s i_s)
noncomputable def zcIw_43 (M_s : zM) (pc : Nat) (e_s : zI) (i_s : Instr) : Bool := zbq (Nat.blt e_s.1 22) (zcIw_20 M_s pc e_s i_s) (zcIw_42 M_s pc e_s i_s)
noncomputable def zcIw (M_s : zM) (pc : Nat) (e_s : zI) (i_s : Instr) : Bool := zbq (Nat.blt e_s.1 45) (zcIw_43 M_s pc e_s i_s) false
theorem zcIw_ok {M_s : zM} {pc : Nat} : ∀ {e_s : zI} {i_s : Instr}, zcIw M_s pc e_s i_s = true → zcI M_s pc e_s i_s = true
  | (0, _, _, _, _, _, _), _, h_s => h_s
  | (1, _, _, _, _, _, _), _, h_s => h_s
  | (2, _, _, _, _, _, _), _, h_s => h_s
  | (3, _, _, _, _, _, _), _, h_s => h_s
  | (4, _, _, _, _, _, _), _, h_s => h_s
  | (5, _, _, _, _, _, _), _, h_s => h_s
  | (6, _, _, _, _, _, _), _, h_s => h_s
  | (7, _, _, _, _, _, _), _, h_s => h_s
  | (8, _, _, _, _, _, _), _, h_s => h_s
  | (9, _, _, _, _, _, _), _, h_s => h_s
  | (10, _, _, _, _, _, _), _, h_s => h_s
  | (11, _, _, _, _, _, _), _, h_s => h_s
  | (12, _, _, _, _, _, _), _, h_s => h_s
  | (13, _, _, _, _, _, _), _, h_s => h_s
  | (14, _, _, _, _, _, _), _, h_s => h_s
  | (15, _, _, _, _, _, _), _, h_s => h_s
  | (16, _, _, _, _, _, _), _, h_s => h_s
  | (17, _, _, _, _, _, _), _, h_s => h_s
  | (18, _, _, _, _, _, _), _, h_s => h_s
  | (19, _, _, _, _, _, _), _, h_s => h_s
  | (20, _, _, _, _, _, _), _, h_s => h_s
  | (21, _, _, _, _, _, _), _, h_s => h_s
  | (22, _, _, _, _, _, _), _, h_s => h_s
  | (23, _, _, _, _, _, _), _, h_s => h_s
  | (24, _, _, _, _, _, _), _, h_s => h_s
  | (25, _, _, _, _, _, _), _, h_s => h_s
  | (26, _, _, _, _, _, _), _, h_s => h_s
  | (27, _, _, _, _, _, _), _, h_s => h_s
  | (28, _, _, _, _, _, _), _, h_s => h_s
  | (29, _, _, _, _, _, _), _, h_s => h_s
  | (30, _, _, _, _, _, _), _, h_s => h_s
  | (31, _, _, _, _, _, _), _, h_s => h_s
  | (32, len_s, a_s, b_s, c_s, v_s, sw_s), i_s, h_s => by
    have h1_s : zcIw32 M_s len_s a_s b_s c_s sw_s i_s = true := h_s
    unfold zcIw32 at h1_s
    show (match zm a_s with
      | some M2_s => zc32 M_s.1.cls len_s a_s b_s (c_s % 4) (c_s / 4) sw_s M2_s i_s
      | _ => false) = true
    cases hz_s : zm a_s with
    | none => rw [hz_s] at h1_s; exact h1_s
    | some M2_s => rw [hz_s] at h1_s; exact h1_s
  | (33, _, _, _, _, _, _), _, h_s => h_s
  | (34, _, _, _, _, _, _), _, h_s => h_s
  | (35, _, _, _, _, _, _), _, h_s => h_s
  | (36, _, _, _, _, _, _), _, h_s => h_s
  | (37, _, _, _, _, _, _), _, h_s => h_s
  | (38, _, _, _, _, _, _), _, h_s => h_s
  | (39, _, _, _, _, _, _), _, h_s => h_s
  | (40, _, _, _, _, _, _), _, h_s => h_s
  | (41, _, _, _, _, _, _), _, h_s => h_s
  | (42, _, _, _, _, _, _), _, h_s => h_s
  | (43, _, _, _, _, _, _), _, h_s => h_s
  | (44, _, _, _, _, _, _), _, h_s => h_s
  | (n_s + 45, len_s, a_s, b_s, c_s, v_s, sw_s), i_s, h_s => by
    have hb_s : Nat.blt (n_s + 45) 45 = false := by
      cases hc_s : Nat.blt (n_s + 45) 45 with
      | false => rfl
      | true =>
        have := Nat.le_of_ble_eq_true hc_s
        omega
    have h1_s : zbq (Nat.blt (n_s + 45) 45) (zcIw_43 M_s pc (n_s + 45, len_s, a_s, b_s, c_s, v_s, sw_s) i_s) false = true := h_s
    rw [hb_s] at h1_s
    cases h1_s
theorem zbq_and {a_s b_s : Bool} (h_s : zbq a_s b_s false = true) : a_s = true ∧ b_s = true := by
  cases a_s with
  | false => cases h_s
  | true => exact ⟨rfl, h_s⟩
noncomputable def fzw_t (l : List UInt8) : List UInt8 := List.rec (motive := fun _ => List UInt8) [] (fun _ r_s _ => r_s) l
theorem fzw_t_e {l : List UInt8} : fzw_t l = l.drop 1 := by cases l <;> rfl
noncomputable def fzw_d (l : List UInt8) : List UInt8 := fzw_t (fzw_t (fzw_t (fzw_t (fzw_t (fzw_t (fzw_t (fzw_t (fzw_t (fzw_t (fzw_t (fzw_t (fzw_t (fzw_t (fzw_t (fzw_t l)))))))))))))))
theorem fzw_d_e {l : List UInt8} : fzw_d l = l.drop 16 := by
  unfold fzw_d
  simp only [fzw_t_e, List.drop_drop]
noncomputable def fzw_F (M_s : zM) (r_s : List (Option zI)) : Nat → List UInt8 → Bool := List.rec (motive := fun _ => Nat → List UInt8 → Bool) (fun _ _ => true) (fun o _ ih_s pc l => Option.rec (motive := fun _ => Bool) (ih_s (pc + 1) (fzw_t l)) (fun e_s => zbq (Option.rec (motive := fun _ => Bool) (zchk M_s pc e_s) (fun q_s => zbq (Nat.beq q_s.2 e_s.2.1) (zcIw M_s pc e_s q_s.1) false) (fz_fd l)) (ih_s (pc + 1) (fzw_t l)) false) o) r_s
theorem fzw_F_ok {M_s : zM} : ∀ {r_s : List (Option zI)} {pc : Nat} {l : List UInt8}, fzw_F M_s r_s pc l = true → fz_ckF M_s pc l r_s = true
  | [], _, _, _ => rfl
  | none :: r_s, pc_s, l_s, h_s => by
    have h1_s : fzw_F M_s r_s (pc_s + 1) (fzw_t l_s) = true := h_s
    rw [fzw_t_e] at h1_s
    unfold fz_ckF
    exact fzw_F_ok h1_s
  | some e_s :: r_s, pc_s, l_s, h_s => by
    have h1_s : zbq (Option.rec (motive := fun _ => Bool) (zchk M_s pc_s e_s) (fun q_s => zbq (Nat.beq q_s.2 e_s.2.1) (zcIw M_s pc_s e_s q_s.1) false) (fz_fd l_s)) (fzw_F M_s r_s (pc_s + 1) (fzw_t l_s)) false = true := h_s
    obtain ⟨h2_s, h3_s⟩ := zbq_and h1_s
    rw [fzw_t_e] at h3_s
    unfold fz_ckF
    rw [Bool.and_eq_true]
    refine ⟨?_, fzw_F_ok h3_s⟩
    cases hd_s : fz_fd l_s with
    | none =>
      rw [hd_s] at h2_s
      exact h2_s
    | some q_s =>
      rw [hd_s] at h2_s
      obtain ⟨i_s, n_s⟩ := q_s
      obtain ⟨h4_s, h5_s⟩ := zbq_and h2_s
      have h6_s : n_s = e_s.2.1 := Nat.eq_of_beq_eq_true h4_s
      show (decide (n_s = e_s.2.1) && zcI M_s pc_s e_s i_s) = true
      rw [zcIw_ok h5_s, decide_eq_true h6_s]
      rfl
noncomputable def fzw_H (M_s : zM) (t_s : List (List (Option zI))) : Nat → List UInt8 → Bool := List.rec (motive := fun _ => Nat → List UInt8 → Bool) (fun _ _ => true) (fun r_s _ ih_s pc l => zbq (fzw_F M_s r_s pc l) (ih_s (pc + 16) (fzw_d l)) false) t_s
theorem fzw_H_ok {M_s : zM} : ∀ {t_s : List (List (Option zI))} {pc : Nat} {l : List UInt8}, fzw_H M_s t_s pc l = true → fz_ckH M_s pc l t_s = true
  | [], _, _, _ => rfl
  | r_s :: t_s, pc_s, l_s, h_s => by
    have h1_s : zbq (fzw_F M_s r_s pc_s l_s) (fzw_H M_s t_s (pc_s + 16) (fzw_d l_s)) false = true := h_s
    obtain ⟨h2_s, h3_s⟩ := zbq_and h1_s
    rw [fzw_d_e] at h3_s
    unfold fz_ckH
    rw [fzw_F_ok h2_s, fzw_H_ok h3_s]
    rfl
noncomputable def fzw_N (mi : Nat) (t_s : List (List (Option zI))) : Bool := Option.rec (motive := fun _ => Bool) false (fun M_s => fzw_H M_s t_s 0 M_s.2.1.data.toList) (zm mi)
theorem fzw_N_ok {mi : Nat} {t_s : List (List (Option zI))} (h_s : fzw_N mi t_s = true) : zckM mi t_s = true := by
  refine fz_ckN_ok ?_
  unfold fzw_N at h_s
  unfold fz_ckN
  cases hz_s : zm mi with
  | none =>
    rw [hz_s] at h_s
    cases h_s
  | some M_s =>
    rw [hz_s] at h_s
    exact fzw_H_ok h_s
