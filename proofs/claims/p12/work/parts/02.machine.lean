/-! A SMALL MACHINE over numbered cells: what a method does to cells, as a function. Cells 0 .. 5 are read-only int rows (the script, five static rows); the others are those that the program makes, in the order of making. A value '.ref k' here names cell k. -/
/-- shapes (tag, length): 0 int row, 1 long row, 2 3 4 rows of Idea, Road, Shelf, 5 a read-only int row, 10 + c an object of class c; ints, longs, references by cell and place -/
abbrev zH : Type := List (Nat × Nat) × (Nat → Nat → Int32) × (Nat → Nat → Int64) × (Nat → Nat → Option Nat)
/-- an instruction: what it does, its length, three numbers, a value, a list -/
abbrev zI : Type := Nat × Nat × Nat × Nat × Nat × Value × List (Int32 × Nat)
/-- a place in a method: pc, locals, stack, cells -/
abbrev zC : Type := Nat × List (Option Value) × List Value × zH
/-- go on; call (callee, arguments, where it goes on); return -/
abbrev zO : Type := zC ⊕ ((Nat × List Value × zC) ⊕ Option Value)
noncomputable def zget {α : Type} : List α → Nat → Option α
  | [], _ => none
  | a :: _, 0 => some a
  | _ :: l, n + 1 => zget l n
noncomputable def zput {α : Type} : List α → Nat → α → List α
  | [], _, _ => []
  | _ :: l, 0, x => x :: l
  | a :: l, n + 1, x => a :: zput l n x
noncomputable def zup {α : Type} (f : Nat → Nat → α) (o k : Nat) (v : α) : Nat → Nat → α := fun o' k' => bif Nat.beq o' o && Nat.beq k' k then v else f o' k'
noncomputable def zrow {α : Type} (f : Nat → Nat → α) (o : Nat) (r : Nat → α) : Nat → Nat → α := fun o' k' => bif Nat.beq o' o then r k' else f o' k'
noncomputable def zcpy {α : Type} (f g : Nat → α) (sp dp n : Nat) : Nat → α := fun k => bif Nat.ble dp k && Nat.blt k (dp + n) then f (sp + (k - dp)) else g k
noncomputable def zix (i : Int32) : Nat := i.toBitVec.toNat
noncomputable def zlong : Value → Bool
  | .long _ => true
  | .double _ => true
  | _ => false
/-- a long ahead of place i is cut off -/
noncomputable def zclr (lo : List (Option Value)) (i : Nat) : List (Option Value) := match i with
  | 0 => lo
  | j + 1 => match zget lo j with
    | some (some w) => bif zlong w then zput lo j none else lo
    | _ => lo
noncomputable def zst1 (lo : List (Option Value)) (i : Nat) (v : Value) : List (Option Value) := zput (zclr lo i) i (some v)
noncomputable def zst2 (lo : List (Option Value)) (i : Nat) (v : Value) : List (Option Value) := zput (zput (zclr lo i) i (some v)) (i + 1) none
noncomputable def zargs : List Value → List (Option Value)
  | [] => []
  | v :: r => bif zlong v then some v :: none :: zargs r else some v :: zargs r
noncomputable def zpad : Nat → List (Option Value) → List (Option Value)
  | 0, l => l
  | n + 1, [] => none :: zpad n []
  | n + 1, a :: l => a :: zpad n l
noncomputable def zbin : Nat → Int32 → Int32 → Int32
  | 0, x, y => x + y
  | 1, x, y => x - y
  | 2, x, y => x * y
  | 3, x, y => x &&& y
  | 4, x, y => x ||| y
  | 5, x, y => x ^^^ y
  | 6, x, y => x <<< (y &&& 31)
  | 7, x, y => x >>> (y &&& 31)
  | _, x, y => (x.toUInt32 >>> (y.toUInt32 &&& Int32.toUInt32 31)).toInt32
noncomputable def zun : Nat → Int32 → Int32
  | 0, x => -x
  | 1, x => x.toInt8.toInt32
  | _, x => x.toInt16.toInt32
noncomputable def zif : Nat → Int32 → Nat → Nat → Nat
  | 0, x, t, n => if x = 0 then t else n
  | 1, x, t, n => if x = 0 then n else t
  | 2, x, t, n => if x < 0 then t else n
  | 3, x, t, n => if x < 0 then n else t
  | 4, x, t, n => if 0 < x then t else n
  | _, x, t, n => if 0 < x then n else t
noncomputable def zicmp : Nat → Int32 → Int32 → Nat → Nat → Nat
  | 0, x, y, t, n => if x = y then t else n
  | 1, x, y, t, n => if x = y then n else t
  | 2, x, y, t, n => if x < y then t else n
  | 3, x, y, t, n => if x < y then n else t
  | 4, x, y, t, n => if y < x then t else n
  | _, x, y, t, n => if y < x then n else t
noncomputable def zsw (x : Int32) : List (Int32 × Nat) → Nat → Nat
  | [], d => d
  | (k, t) :: r, d => if x = k then t else zsw x r d
/-- the class of what a row of objects holds -/
noncomputable def zcomp : Nat → Nat
  | 2 => 3
  | 3 => 7
  | _ => 8
noncomputable def zcat : List Value → Nat
  | [] => 0
  | v :: r => (bif zlong v then 2 else 1) + zcat r
noncomputable def ztake : Nat → List Value → List Value → Option (List Value × List Value)
  | 0, acc, st => some (acc, st)
  | n + 1, acc, v :: st => ztake n (v :: acc) st
  | _ + 1, _, [] => none
noncomputable def zgo (x : zC) : Option zO := some (.inl x)
noncomputable def zs0 (len : Nat) (v : Value) : zC → Option zO := fun (pc, lo, st, h) => zgo (pc + len, lo, v :: st, h)
noncomputable def zs1 (len a : Nat) : zC → Option zO := fun (pc, lo, st, h) => match zget lo a with
  | some (some (.int x)) => zgo (pc + len, lo, .int x :: st, h)
  | _ => none
noncomputable def zs2 (len a : Nat) : zC → Option zO := fun (pc, lo, st, h) => match zget lo a with
  | some (some (.long x)) => zgo (pc + len, lo, .long x :: st, h)
  | _ => none
noncomputable def zs3 (len a : Nat) : zC → Option zO := fun (pc, lo, st, h) => match zget lo a with
  | some (some (.ref x)) => zgo (pc + len, lo, .ref x :: st, h)
  | _ => none
noncomputable def zs4 (len a : Nat) : zC → Option zO := fun (pc, lo, st, h) => match st with
  | .int x :: r => zgo (pc + len, zst1 lo a (.int x), r, h)
  | _ => none
noncomputable def zs5 (len a : Nat) : zC → Option zO := fun (pc, lo, st, h) => match st with
  | .long x :: r => zgo (pc + len, zst2 lo a (.long x), r, h)
  | _ => none
noncomputable def zs6 (len a : Nat) : zC → Option zO := fun (pc, lo, st, h) => match st with
  | .ref x :: r => zgo (pc + len, zst1 lo a (.ref x), r, h)
  | _ => none
noncomputable def zs7 (len b : Nat) : zC → Option zO := fun (pc, lo, st, h) => match st with
  | .int y :: .int x :: r => zgo (pc + len, lo, .int (zbin b x y) :: r, h)
  | _ => none
noncomputable def zs8 (len b : Nat) : zC → Option zO := fun (pc, lo, st, h) => match st with
  | .int y :: .int x :: r => if y = 0 then none else zgo (pc + len, lo, .int (match b with
    | 0 => x / y
    | _ => x - x / y * y) :: r, h)
  | _ => none
noncomputable def zs9 (len b : Nat) : zC → Option zO := fun (pc, lo, st, h) => match st with
  | .int x :: r => zgo (pc + len, lo, .int (zun b x) :: r, h)
  | _ => none
noncomputable def zs10 (len : Nat) : zC → Option zO := fun (pc, lo, st, h) => match st with
  | .int x :: r => zgo (pc + len, lo, .long x.toInt64 :: r, h)
  | _ => none
noncomputable def zs11 (len : Nat) : zC → Option zO := fun (pc, lo, st, h) => match st with
  | .long x :: r => zgo (pc + len, lo, .int x.toInt32 :: r, h)
  | _ => none
noncomputable def zs12 (len b : Nat) : zC → Option zO := fun (pc, lo, st, h) => match st with
  | .long y :: .long x :: r => zgo (pc + len, lo, .long (match b with
    | 0 => x &&& y
    | _ => x ||| y) :: r, h)
  | _ => none
noncomputable def zs13 (len : Nat) : zC → Option zO := fun (pc, lo, st, h) => match st with
  | .int y :: .long x :: r => zgo (pc + len, lo, .long (x <<< (y.toInt64 &&& 63)) :: r, h)
  | _ => none
noncomputable def zs14 (len : Nat) : zC → Option zO := fun (pc, lo, st, h) => match st with
  | .long y :: .long x :: r => zgo (pc + len, lo, .int (lg_cmp x y) :: r, h)
  | _ => none
noncomputable def zs15 (len a b : Nat) : zC → Option zO := fun (pc, lo, st, h) => match st with
  | .int x :: r => zgo (zif b x a (pc + len), lo, r, h)
  | _ => none
noncomputable def zs16 (len a b : Nat) : zC → Option zO := fun (pc, lo, st, h) => match st with
  | .int y :: .int x :: r => zgo (zicmp b x y a (pc + len), lo, r, h)
  | _ => none
noncomputable def zs17 (a : Nat) : zC → Option zO := fun (_, lo, st, h) => zgo (a, lo, st, h)
noncomputable def zs18 (a : Nat) (sw : List (Int32 × Nat)) : zC → Option zO := fun (_, lo, st, h) => match st with
  | .int x :: r => zgo (zsw x sw a, lo, r, h)
  | _ => none
noncomputable def zs19 (len a : Nat) (v : Value) : zC → Option zO := fun (pc, lo, st, h) => match zget lo a, v with
  | some (some (.int x)), .int k => zgo (pc + len, zst1 lo a (.int (x + k)), st, h)
  | _, _ => none
noncomputable def zs20 (len a b c : Nat) : zC → Option zO := fun (pc, lo, st, h) => match st with
  | .ref o :: r => match zget h.1 o with
    | some (t, n) => bif Nat.beq t (10 + a) && Nat.blt b n then zgo (pc + len, lo, (match c with
      | 1 => va_rf (h.2.2.2 o b)
      | _ => .int (h.2.1 o b)) :: r, h) else none
    | _ => none
  | _ => none
noncomputable def zs21 (len a b c : Nat) : zC → Option zO := fun (pc, lo, st, h) => match st with
  | .int x :: .ref o :: r => match zget h.1 o with
    | some (t, n) => bif Nat.beq t (10 + a) && Nat.blt b n then (match c with
      | 0 => zgo (pc + len, lo, r, (h.1, zup h.2.1 o b x, h.2.2.1, h.2.2.2))
      | 2 => if x = 0 ∨ x = 1 then zgo (pc + len, lo, r, (h.1, zup h.2.1 o b x, h.2.2.1, h.2.2.2)) else none
      | _ => none) else none
    | _ => none
  | .ref q :: .ref o :: r => match zget h.1 o with
    | some (t, n) => bif Nat.beq t (10 + a) && Nat.blt b n then (match c with
      | 1 => zgo (pc + len, lo, r, (h.1, h.2.1, h.2.2.1, zup h.2.2.2 o b (some q)))
      | _ => none) else none
    | _ => none
  | _ => none
noncomputable def zs22 (len : Nat) : zC → Option zO := fun (pc, lo, st, h) => match st with
  | .int i :: .ref o :: r => match zget h.1 o with
    | some (t, n) => bif (Nat.beq t 0 || Nat.beq t 5) && Nat.blt (zix i) n then zgo (pc + len, lo, .int (h.2.1 o (zix i)) :: r, h) else none
    | _ => none
  | _ => none
noncomputable def zs23 (len : Nat) : zC → Option zO := fun (pc, lo, st, h) => match st with
  | .int i :: .ref o :: r => match zget h.1 o with
    | some (t, n) => bif Nat.beq t 1 && Nat.blt (zix i) n then zgo (pc + len, lo, .long (h.2.2.1 o (zix i)) :: r, h) else none
    | _ => none
  | _ => none
noncomputable def zs24 (len : Nat) : zC → Option zO := fun (pc, lo, st, h) => match st with
  | .int i :: .ref o :: r => match zget h.1 o with
    | some (t, n) => bif (Nat.ble 2 t && Nat.ble t 4) && Nat.blt (zix i) n then zgo (pc + len, lo, va_rf (h.2.2.2 o (zix i)) :: r, h) else none
    | _ => none
  | _ => none
noncomputable def zs25 (len : Nat) : zC → Option zO := fun (pc, lo, st, h) => match st with
  | .int x :: .int i :: .ref o :: r => match zget h.1 o with
    | some (t, n) => bif Nat.beq t 0 && Nat.blt (zix i) n then zgo (pc + len, lo, r, (h.1, zup h.2.1 o (zix i) x, h.2.2.1, h.2.2.2)) else none
    | _ => none
  | _ => none
noncomputable def zs26 (len : Nat) : zC → Option zO := fun (pc, lo, st, h) => match st with
  | .long x :: .int i :: .ref o :: r => match zget h.1 o with
    | some (t, n) => bif Nat.beq t 1 && Nat.blt (zix i) n then zgo (pc + len, lo, r, (h.1, h.2.1, zup h.2.2.1 o (zix i) x, h.2.2.2)) else none
    | _ => none
  | _ => none
noncomputable def zs27 (len : Nat) : zC → Option zO := fun (pc, lo, st, h) => match st with
  | .ref q :: .int i :: .ref o :: r => match zget h.1 o, zget h.1 q with
    | some (t, n), some (t2, _) => bif ((Nat.ble 2 t && Nat.ble t 4) && Nat.beq t2 (10 + zcomp t)) && Nat.blt (zix i) n then zgo (pc + len, lo, r, (h.1, h.2.1, h.2.2.1, zup h.2.2.2 o (zix i) (some q))) else none
    | _, _ => none
  | _ => none
noncomputable def zs28 (len : Nat) : zC → Option zO := fun (pc, lo, st, h) => match st with
  | .ref o :: r => match zget h.1 o with
    | some (t, n) => bif Nat.ble t 5 then zgo (pc + len, lo, .int (Int32.ofNat n) :: r, h) else none
    | _ => none
  | _ => none
/-- a new cell: the shape behind all others, its places empty -/
noncomputable def znew (h : zH) (t n : Nat) : zH := (h.1 ++ [(t, n)], zrow h.2.1 h.1.length (fun _ => 0), zrow h.2.2.1 h.1.length (fun _ => 0), zrow h.2.2.2 h.1.length (fun _ => none))
noncomputable def zs29 (len a b : Nat) : zC → Option zO := fun (pc, lo, st, h) => zgo (pc + len, lo, .ref h.1.length :: st, znew h (10 + a) b)
noncomputable def zs30 (len a : Nat) : zC → Option zO := fun (pc, lo, st, h) => match st with
  | .int n :: r => bif Nat.blt (zix n) 100000 && Nat.ble a 4 then zgo (pc + len, lo, .ref h.1.length :: r, znew h a (zix n)) else none
  | _ => none
noncomputable def zs31 (len b : Nat) : zC → Option zO := fun (pc, lo, st, h) => match b with
  | 0 => (match st with
    | .int y :: .int x :: r => bif Nat.ble (zcat r) 8 then zgo (pc + len, lo, .int (if x < y then y else x) :: r, h) else none
    | _ => none)
  | 1 => (match st with
    | .int y :: .int x :: r => bif Nat.ble (zcat r) 8 then zgo (pc + len, lo, .int (if y < x then y else x) :: r, h) else none
    | _ => none)
  | _ => (match st with
    | .int x :: r => bif Nat.ble (zcat r) 8 then zgo (pc + len, lo, .int (if x < 0 then -x else x) :: r, h) else none
    | _ => none)
noncomputable def zs32 (len a b c ci : Nat) : zC → Option zO := fun (pc, lo, st, h) => match ztake b [] st with
  | some (as, r) => bif Nat.ble (zcat r) 8 then (match c with
    | 1 => some (.inr (.inl (a, as, (pc + len, lo, r, h))))
    | _ => match as with
      | .ref o :: _ => match zget h.1 o with
        | some (t, _) => bif Nat.beq t (10 + ci) then some (.inr (.inl (a, as, (pc + len, lo, r, h)))) else none
        | _ => none
      | _ => none) else none
  | _ => none
noncomputable def zs33 (len : Nat) : zC → Option zO := fun (pc, lo, st, h) => match st with
  | .ref _ :: r => bif Nat.ble (zcat r) 8 then zgo (pc + len, lo, r, h) else none
  | _ => none
noncomputable def zs34 (len : Nat) : zC → Option zO := fun (pc, lo, st, h) => match st with
  | .int n :: .int dp :: .ref o1 :: .int sp :: .ref o0 :: r => match zget h.1 o0, zget h.1 o1 with
    | some (t0, n0), some (t1, n1) => bif (((Nat.beq t0 t1 && Nat.blt (zix n) 100000) && (Nat.blt (zix sp) 100000 && Nat.blt (zix dp) 100000)) && (Nat.ble (zix sp + zix n) n0 && Nat.ble (zix dp + zix n) n1)) && Nat.ble (zcat r) 8 then (match t0 with
      | 0 => zgo (pc + len, lo, r, (h.1, zrow h.2.1 o1 (zcpy (h.2.1 o0) (h.2.1 o1) (zix sp) (zix dp) (zix n)), h.2.2.1, h.2.2.2))
      | 1 => zgo (pc + len, lo, r, (h.1, h.2.1, zrow h.2.2.1 o1 (zcpy (h.2.2.1 o0) (h.2.2.1 o1) (zix sp) (zix dp) (zix n)), h.2.2.2))
      | _ => none) else none
    | _, _ => none
  | _ => none
noncomputable def zs35 (c : Nat) : zC → Option zO := fun (_, _, st, _) => match st with
  | [.int x] => (match c with
    | 1 => if x = 0 ∨ x = 1 then some (.inr (.inr (some (.int x)))) else none
    | _ => some (.inr (.inr (some (.int x)))))
  | _ => none
noncomputable def zs36 : zC → Option zO := fun (_, _, st, _) => match st with
  | [.long x] => some (.inr (.inr (some (.long x))))
  | _ => none
noncomputable def zs37 : zC → Option zO := fun (_, _, st, _) => match st with
  | [.ref x] => some (.inr (.inr (some (.ref x))))
  | _ => none
noncomputable def zs38 : zC → Option zO := fun (_, _, st, _) => match st with
  | [] => some (.inr (.inr none))
  | _ => none
noncomputable def zs39 (len : Nat) : zC → Option zO := fun (pc, lo, st, h) => match st with
  | v :: r => bif zlong v then none else zgo (pc + len, lo, v :: v :: r, h)
  | _ => none
noncomputable def zs40 (len : Nat) : zC → Option zO := fun (pc, lo, st, h) => match st with
  | v :: w :: r => bif zlong v || zlong w then none else zgo (pc + len, lo, v :: w :: v :: r, h)
  | _ => none
noncomputable def zs41 (len : Nat) : zC → Option zO := fun (pc, lo, st, h) => match st with
  | v :: w :: r => bif zlong v || zlong w then none else zgo (pc + len, lo, v :: w :: v :: w :: r, h)
  | _ => none
noncomputable def zs42 (len : Nat) : zC → Option zO := fun (pc, lo, st, h) => match st with
  | v :: r => bif zlong v then none else zgo (pc + len, lo, r, h)
  | _ => none
noncomputable def zs43 (len a : Nat) : zC → Option zO := fun (pc, lo, st, h) => zgo (pc + len, lo, .ref a :: st, h)
noncomputable def zs44 (len : Nat) : zC → Option zO := fun (pc, lo, st, h) => match st with
  | v :: r => bif zlong v then zgo (pc + len, lo, r, h) else none
  | _ => none
/-- one step -/
noncomputable def zstep : zI → zC → Option zO := fun (op, len, a, b, c, v, sw) x => match op with
  | 0 => zs0 len v x
  | 1 => zs1 len a x
  | 2 => zs2 len a x
  | 3 => zs3 len a x
  | 4 => zs4 len a x
  | 5 => zs5 len a x
  | 6 => zs6 len a x
  | 7 => zs7 len b x
  | 8 => zs8 len b x
  | 9 => zs9 len b x
  | 10 => zs10 len x
  | 11 => zs11 len x
  | 12 => zs12 len b x
  | 13 => zs13 len x
  | 14 => zs14 len x
  | 15 => zs15 len a b x
  | 16 => zs16 len a b x
  | 17 => zs17 a x
  | 18 => zs18 a sw x
  | 19 => zs19 len a v x
  | 20 => zs20 len a b c x
  | 21 => zs21 len a b c x
  | 22 => zs22 len x
  | 23 => zs23 len x
  | 24 => zs24 len x
  | 25 => zs25 len x
  | 26 => zs26 len x
  | 27 => zs27 len x
  | 28 => zs28 len x
  | 29 => zs29 len a b x
  | 30 => zs30 len a x
  | 31 => zs31 len b x
  | 32 => zs32 len a b (c % 4) (c / 4) x
  | 33 => zs33 len x
  | 34 => zs34 len x
  | 35 => zs35 c x
  | 36 => zs36 x
  | 37 => zs37 x
  | 38 => zs38 x
  | 39 => zs39 len x
  | 40 => zs40 len x
  | 41 => zs41 len x
  | 42 => zs42 len x
  | 43 => zs43 len a x
  | 44 => zs44 len x
  | _ => none
