/-! THE EXECUTOR OVER UNKNOWN NUMBERS, and that it speaks the truth. -/
abbrev sR : Type := (Nat × Nat) ⊕ (sT × zO)
def sgo (T : sT) (y : zC) : Option sR := some (.inr (T, .inl y))
def sq1 (len a : Nat) (T : sT) : zC → Option sR := fun (pc, lo, st, h) => match zget lo a with
  | some (some (.retAddr k)) => sgo T (pc + len, lo, .retAddr k :: st, h)
  | _ => none
def sq2 (len a : Nat) (T : sT) : zC → Option sR := fun (pc, lo, st, h) => match zget lo a with
  | some (some (.double w)) => sgo T (pc + len, lo, .double w :: st, h)
  | _ => none
def sq4 (len a : Nat) (T : sT) : zC → Option sR := fun (pc, lo, st, h) => match st with
  | .retAddr k :: r => sgo T (pc + len, zst1 lo a (.retAddr k), r, h)
  | _ => none
def sq5 (len a : Nat) (T : sT) : zC → Option sR := fun (pc, lo, st, h) => match st with
  | .double w :: r => sgo T (pc + len, zst2 lo a (.double w), r, h)
  | _ => none
def sq7 (len b : Nat) (T : sT) : zC → Option sR := fun (pc, lo, st, h) => match st with
  | .int y :: .retAddr k :: r => if y = 63 ∧ k = 0 ∧ b = 3 then sgo T (pc + len, lo, .retAddr 6 :: r, h) else none
  | _ => none
def sq8 (len b : Nat) (T : sT) : zC → Option sR := fun (pc, lo, st, h) => match st with
  | .int y :: .retAddr k :: r => if k < 6 ∧ y = 10 ∧ b = 0 then sgo T (pc + len, lo, .retAddr (8 + k) :: r, h) else
    if k < 6 ∧ y = 10 ∧ b = 1 then sgo T (pc + len, lo, .retAddr (16 + k) :: r, h) else
    if k < 6 ∧ y = 100 ∧ b = 0 then sgo T (pc + len, lo, .retAddr (24 + k) :: r, h) else
    if k < 6 ∧ y = 100 ∧ b = 1 then sgo T (pc + len, lo, .retAddr (32 + k) :: r, h) else none
  | _ => none
def sq10 (len : Nat) (T : sT) : zC → Option sR := fun (pc, lo, st, h) => match st with
  | .retAddr k :: r => if k < 64 then sgo T (pc + len, lo, .double (UInt64.ofNat k) :: r, h) else none
  | _ => none
def sq11 (len : Nat) (T : sT) : zC → Option sR := fun (pc, lo, st, h) => match st with
  | .double w :: r => if w.toNat < 64 then sgo T (pc + len, lo, .retAddr w.toNat :: r, h) else none
  | _ => none
def sq12 (len b : Nat) (T : sT) : zC → Option sR := fun (pc, lo, st, h) => match st with
  | .long y :: .double w :: r => if y = 4294967295 ∧ w = 4 ∧ b = 0 then sgo T (pc + len, lo, .double 65 :: r, h) else none
  | .double y :: .double x :: r => if x = 64 ∧ y = 65 ∧ b = 1 then sgo T (pc + len, lo, .double 66 :: r, h) else none
  | _ => none
def sq13 (len : Nat) (T : sT) : zC → Option sR := fun (pc, lo, st, h) => match st with
  | .int y :: .double w :: r => if y = 32 ∧ w = 3 then sgo T (pc + len, lo, .double 64 :: r, h) else none
  | _ => none
def sq14 (len : Nat) (cs : sI) (T : sT) : zC → Option sR := fun (pc, lo, st, h) => match st with
  | vy :: vx :: r => (match slv vx, slv vy with
    | some x, some y => (match scmp cs x y with
      | some (.inl s) => sgo T (pc + len, lo, .int (slgc s) :: r, h)
      | some (.inr q) => some (.inl q)
      | none => none)
    | _, _ => none)
  | _ => none
def sq15 (len a b : Nat) (cs : sI) (T : sT) : zC → Option sR := fun (pc, lo, st, h) => match st with
  | vx :: r => (match scmp cs vx (.int 0) with
    | some (.inl s) => sgo T (szif b s a (pc + len), lo, r, h)
    | some (.inr q) => some (.inl q)
    | none => none)
  | _ => none
def sq16 (len a b : Nat) (cs : sI) (T : sT) : zC → Option sR := fun (pc, lo, st, h) => match st with
  | vy :: vx :: r => (match scmp cs vx vy with
    | some (.inl s) => sgo T (szif b s a (pc + len), lo, r, h)
    | some (.inr q) => some (.inl q)
    | none => none)
  | _ => none
def sq18 (a : Nat) (sw : List (Int32 × Nat)) (cs : sI) (T : sT) : zC → Option sR := fun (_, lo, st, h) => match st with
  | .retAddr k :: r => (match sswk (siv cs k) sw with
    | none => sgo T (a, lo, r, h)
    | some z => some (.inl (k, bif Nat.blt (siv cs k).1 z then z else z + 1)))
  | _ => none
def sq21 (len a b c : Nat) (T : sT) : zC → Option sR := fun (pc, lo, st, h) => match st with
  | .retAddr k :: .ref o :: r => (match zget h.1 o with
    | some (t, n) => bif (Nat.beq t (10 + a) && Nat.blt b n) && Nat.beq c 0 then sgo ((o, b, k) :: T) (pc + len, lo, r, h) else none
    | _ => none)
  | _ => none
def sq22 (L len : Nat) (T : sT) : zC → Option sR := fun (pc, lo, st, h) => match st with
  | .int i :: .ref o :: r => bif Nat.beq o 0 && (Nat.blt (zix i) L && (sfind T 0 (zix i)).isNone) then sgo T (pc + len, lo, .retAddr (zix i) :: r, h) else none
  | _ => none
def sq25 (len : Nat) (T : sT) : zC → Option sR := fun (pc, lo, st, h) => match st with
  | .retAddr k :: .int i :: .ref o :: r => (match zget h.1 o with
    | some (t, n) => bif Nat.beq t 0 && Nat.blt (zix i) n then sgo ((o, zix i, k) :: T) (pc + len, lo, r, h) else none
    | _ => none)
  | _ => none
def sq28 (L len : Nat) (T : sT) : zC → Option sR := fun (pc, lo, st, h) => match st with
  | .ref o :: r => bif Nat.beq o 0 then sgo T (pc + len, lo, .int (Int32.ofNat L) :: r, h) else none
  | _ => none
def sq35 (c : Nat) (T : sT) : zC → Option sR := fun (_, _, st, _) => match st with
  | [.retAddr k] => bif Nat.beq c 0 then some (.inr (T, .inr (.inr (some (.retAddr k))))) else none
  | _ => none
def sq36 (T : sT) : zC → Option sR := fun (_, _, st, _) => match st with
  | [.double w] => some (.inr (T, .inr (.inr (some (.double w)))))
  | _ => none
def spec (L : Nat) (cs : sI) (T : sT) : zI → zC → Option sR := fun (op, len, a, b, c, _, sw) x => match op with
  | 1 => sq1 len a T x
  | 2 => sq2 len a T x
  | 4 => sq4 len a T x
  | 5 => sq5 len a T x
  | 7 => sq7 len b T x
  | 8 => sq8 len b T x
  | 10 => sq10 len T x
  | 11 => sq11 len T x
  | 12 => sq12 len b T x
  | 13 => sq13 len T x
  | 14 => sq14 len cs T x
  | 15 => sq15 len a b cs T x
  | 16 => sq16 len a b cs T x
  | 18 => sq18 a sw cs T x
  | 21 => sq21 len a b c T x
  | 22 => sq22 L len T x
  | 25 => sq25 len T x
  | 28 => sq28 L len T x
  | 35 => sq35 c T x
  | 36 => sq36 T x
  | _ => none
def ssp (cs : sI) : List Value → Option (Nat × Nat)
  | [] => none
  | [a] => smk cs a
  | [a, b] => (match smk cs a with
    | some q => some q
    | none => smk cs b)
  | a :: b :: c :: _ => (match smk cs a with
    | some q => some q
    | none => (match smk cs b with
      | some q => some q
      | none => smk cs c))
def sokv : Value → Bool
  | .retAddr _ => false
  | .double _ => false
  | _ => true
def sstep (L : Nat) (cs : sI) (T : sT) (e : zI) (x : zC) : Option sR := match spec L cs T e x with
  | some r => some r
  | none => bif okT T e x.2.2.1 && sokv e.2.2.2.2.2.1 then (match zstep e x with
    | some o => some (.inr (T, o))
    | none => (match ssp cs x.2.2.1 with
      | some q => some (.inl q)
      | none => none)) else none
def sfin (r : Option Value) (h : zH) : Bool := decide (r = some (.int 1)) && (Nat.ble h.1.length 500000 && Nat.ble (zslots h.1) 6000000)
def scut1 (cs : sI) (k c : Nat) : sI := zput cs k ((siv cs k).1, bif Nat.ble c (siv cs k).2 then c - 1 else (siv cs k).2)
def scut2 (cs : sI) (k c : Nat) : sI := zput cs k (bif Nat.ble (siv cs k).1 c then c else (siv cs k).1, (siv cs k).2)
def sx (L : Nat) : Nat → sI → sT → List zFr → zH → Bool
  | 0, _, _, _, _ => false
  | _ + 1, _, _, [], _ => false
  | n + 1, cs, T, (mi, pc, lo, st) :: fs, h => match zi mi pc with
    | none => false
    | some e => match sstep L cs T e (pc, lo, snst cs st, h) with
      | none => false
      | some (.inl (k, c)) => sx L n (scut1 cs k c) T ((mi, pc, lo, st) :: fs) h && sx L n (scut2 cs k c) T ((mi, pc, lo, st) :: fs) h
      | some (.inr (T', .inl y)) => sx L n cs T' ((mi, y.1, y.2.1, y.2.2.1) :: fs) y.2.2.2
      | some (.inr (T', .inr (.inr r))) => (match fs with
        | [] => sfin r h
        | (mi2, pc2, lo2, st2) :: fs2 => sx L n cs T' ((mi2, pc2, lo2, r.toList ++ st2) :: fs2) h)
      | some (.inr (T', .inr (.inl (a, as, y)))) => (Nat.blt fs.length 60 && Nat.beq (zpad (zL a) (zargs as)).length (zL a)) && sx L n cs T' ((a, 0, zpad (zL a) (zargs as), []) :: (mi, y.1, y.2.1, y.2.2.1) :: fs) h
section SX
variable {E : Nat → Int32} {L : Nat} {cs : sI} {T T' : sT} {pc len a b k3 : Nat} {v : Value} {sw : List (Int32 × Nat)} {lo : List (Option Value)} {st : List Value} {h : zH} {o : zO}
theorem sr_1 (h0 : sq1 len a T (pc, lo, st, h) = some (.inr (T', o))) : zs1 len a (sC E L T (pc, lo, st, h)) = some (sO E L T' o) := by
  simp only [sq1] at h0
  split at h0
  · rename_i k hg
    cases h0
    simp only [zs1, sC]
    rw [slo_get hg]
    rfl
  · cases h0
theorem sr_2 (h0 : sq2 len a T (pc, lo, st, h) = some (.inr (T', o))) : zs2 len a (sC E L T (pc, lo, st, h)) = some (sO E L T' o) := by
  simp only [sq2] at h0
  split at h0
  · rename_i k hg
    cases h0
    simp only [zs2, sC]
    rw [slo_get hg]
    rfl
  · cases h0
theorem sr_4 (h0 : sq4 len a T (pc, lo, st, h) = some (.inr (T', o))) : zs4 len a (sC E L T (pc, lo, st, h)) = some (sO E L T' o) := by
  simp only [sq4] at h0
  split at h0
  · rename_i k r
    cases h0
    show some (Sum.inl (pc + len, zst1 (slo E lo) a (sval E (.retAddr k)), r.map (sval E), sH E L T h)) = _
    rw [zst1_s]
    rfl
  · cases h0
theorem sr_5 (h0 : sq5 len a T (pc, lo, st, h) = some (.inr (T', o))) : zs5 len a (sC E L T (pc, lo, st, h)) = some (sO E L T' o) := by
  simp only [sq5] at h0
  split at h0
  · rename_i w r
    cases h0
    show some (Sum.inl (pc + len, zst2 (slo E lo) a (sval E (.double w)), r.map (sval E), sH E L T h)) = _
    rw [zst2_s]
    rfl
  · cases h0
theorem sr_7 (hE : sEnv E) (h0 : sq7 len b T (pc, lo, st, h) = some (.inr (T', o))) : zs7 len b (sC E L T (pc, lo, st, h)) = some (sO E L T' o) := by
  simp only [sq7] at h0
  split at h0
  · rename_i y k r
    split at h0
    · rename_i hq
      obtain ⟨rfl, rfl, rfl⟩ := hq
      cases h0
      show some (Sum.inl (pc + len, slo E lo, Value.int (E 0 &&& 63) :: r.map (sval E), sH E L T h)) = some (Sum.inl (pc + len, slo E lo, Value.int (E 6) :: r.map (sval E), sH E L T h))
      rw [hE.1]
    · cases h0
  · cases h0
theorem sr_8 (hE : sEnv E) (h0 : sq8 len b T (pc, lo, st, h) = some (.inr (T', o))) : zs8 len b (sC E L T (pc, lo, st, h)) = some (sO E L T' o) := by
  simp only [sq8] at h0
  split at h0
  · rename_i y k r
    have key0 : ∀ (z : Int32) (k' : Nat), ¬ z = 0 → E k' = E k / z → zs8 len 0 (sC E L T (pc, lo, .int z :: .retAddr k :: r, h)) = some (sO E L T (.inl (pc + len, lo, .retAddr k' :: r, h))) := by
      intro z k' hz he
      show (if z = 0 then none else some (Sum.inl (pc + len, slo E lo, Value.int (E k / z) :: r.map (sval E), sH E L T h))) = some (Sum.inl (pc + len, slo E lo, Value.int (E k') :: r.map (sval E), sH E L T h))
      rw [if_neg hz, he]
    have key1 : ∀ (z : Int32) (k' : Nat), ¬ z = 0 → E k' = E k - E k / z * z → zs8 len 1 (sC E L T (pc, lo, .int z :: .retAddr k :: r, h)) = some (sO E L T (.inl (pc + len, lo, .retAddr k' :: r, h))) := by
      intro z k' hz he
      show (if z = 0 then none else some (Sum.inl (pc + len, slo E lo, Value.int (E k - E k / z * z) :: r.map (sval E), sH E L T h))) = some (Sum.inl (pc + len, slo E lo, Value.int (E k') :: r.map (sval E), sH E L T h))
      rw [if_neg hz, he]
    split at h0
    · rename_i hq
      obtain ⟨hk, rfl, rfl⟩ := hq
      cases h0
      exact key0 10 _ (by decide) (hE.2 k hk).1
    · split at h0
      · rename_i hq
        obtain ⟨hk, rfl, rfl⟩ := hq
        cases h0
        exact key1 10 _ (by decide) (hE.2 k hk).2.1
      · split at h0
        · rename_i hq
          obtain ⟨hk, rfl, rfl⟩ := hq
          cases h0
          exact key0 100 _ (by decide) (hE.2 k hk).2.2.1
        · split at h0
          · rename_i hq
            obtain ⟨hk, rfl, rfl⟩ := hq
            cases h0
            exact key1 100 _ (by decide) (hE.2 k hk).2.2.2
          · cases h0
  · cases h0
theorem sr_10 (h0 : sq10 len T (pc, lo, st, h) = some (.inr (T', o))) : zs10 len (sC E L T (pc, lo, st, h)) = some (sO E L T' o) := by
  simp only [sq10] at h0
  split at h0
  · rename_i k r
    split at h0
    · rename_i hk
      cases h0
      have e : (UInt64.ofNat k).toNat = k := by
        rw [UInt64.toNat_ofNat']
        exact Nat.mod_eq_of_lt (by omega)
      show some (Sum.inl (pc + len, slo E lo, Value.long (E k).toInt64 :: r.map (sval E), sH E L T h)) = some (Sum.inl (pc + len, slo E lo, Value.long (sL E (UInt64.ofNat k).toNat) :: r.map (sval E), sH E L T h))
      rw [e, sL_lo hk]
    · cases h0
  · cases h0
theorem sr_11 (h0 : sq11 len T (pc, lo, st, h) = some (.inr (T', o))) : zs11 len (sC E L T (pc, lo, st, h)) = some (sO E L T' o) := by
  simp only [sq11] at h0
  split at h0
  · rename_i w r
    split at h0
    · rename_i hk
      cases h0
      show some (Sum.inl (pc + len, slo E lo, Value.int (sL E w.toNat).toInt32 :: r.map (sval E), sH E L T h)) = some (Sum.inl (pc + len, slo E lo, Value.int (E w.toNat) :: r.map (sval E), sH E L T h))
      rw [sL_lo hk, Int32.toInt32_toInt64]
    · cases h0
  · cases h0
theorem sr_12 (h0 : sq12 len b T (pc, lo, st, h) = some (.inr (T', o))) : zs12 len b (sC E L T (pc, lo, st, h)) = some (sO E L T' o) := by
  simp only [sq12] at h0
  split at h0
  · split at h0
    · rename_i hq
      obtain ⟨rfl, rfl, rfl⟩ := hq
      cases h0
      rfl
    · cases h0
  · split at h0
    · rename_i hq
      obtain ⟨rfl, rfl, rfl⟩ := hq
      cases h0
      rfl
    · cases h0
  · cases h0
theorem sr_13 (h0 : sq13 len T (pc, lo, st, h) = some (.inr (T', o))) : zs13 len (sC E L T (pc, lo, st, h)) = some (sO E L T' o) := by
  simp only [sq13] at h0
  split at h0
  · split at h0
    · rename_i hq
      obtain ⟨rfl, rfl⟩ := hq
      cases h0
      rfl
    · cases h0
  · cases h0
theorem sr_14 (hs : sSat E cs) (h0 : sq14 len cs T (pc, lo, st, h) = some (.inr (T', o))) : zs14 len (sC E L T (pc, lo, st, h)) = some (sO E L T' o) := by
  simp only [sq14] at h0
  split at h0
  · rename_i vy vx r
    split at h0
    · rename_i x y hx hy
      split at h0
      · rename_i s hc
        cases h0
        obtain ⟨x', y', g1, g2, g3⟩ := scmp_ok hs hc
        simp only [zs14, sC, List.map_cons]
        rw [slv_ok hx g1, slv_ok hy g2]
        show some (Sum.inl (pc + len, slo E lo, Value.int (lg_cmp x'.toInt64 y'.toInt64) :: r.map (sval E), sH E L T h)) = _
        rw [slgc_ok g3]
        rfl
      · cases h0
      · cases h0
    · cases h0
  · cases h0
theorem sr_15 (hs : sSat E cs) (h0 : sq15 len a b cs T (pc, lo, st, h) = some (.inr (T', o))) : zs15 len a b (sC E L T (pc, lo, st, h)) = some (sO E L T' o) := by
  simp only [sq15] at h0
  split at h0
  · rename_i vx r
    split at h0
    · rename_i s hc
      cases h0
      obtain ⟨x', y', g1, g2, g3⟩ := scmp_ok hs hc
      cases g2
      simp only [zs15, sC, List.map_cons]
      rw [g1]
      show some (Sum.inl (zif b x' a (pc + len), slo E lo, r.map (sval E), sH E L T h)) = _
      rw [zif_icmp, szif_ok g3]
      rfl
    · cases h0
    · cases h0
  · cases h0
theorem sr_16 (hs : sSat E cs) (h0 : sq16 len a b cs T (pc, lo, st, h) = some (.inr (T', o))) : zs16 len a b (sC E L T (pc, lo, st, h)) = some (sO E L T' o) := by
  simp only [sq16] at h0
  split at h0
  · rename_i vy vx r
    split at h0
    · rename_i s hc
      cases h0
      obtain ⟨x', y', g1, g2, g3⟩ := scmp_ok hs hc
      simp only [zs16, sC, List.map_cons]
      rw [g1, g2]
      show some (Sum.inl (zicmp b x' y' a (pc + len), slo E lo, r.map (sval E), sH E L T h)) = _
      rw [szif_ok g3]
      rfl
    · cases h0
    · cases h0
  · cases h0
theorem sr_18 (hs : sSat E cs) (h0 : sq18 a sw cs T (pc, lo, st, h) = some (.inr (T', o))) : zs18 a sw (sC E L T (pc, lo, st, h)) = some (sO E L T' o) := by
  simp only [sq18] at h0
  split at h0
  · rename_i k r
    split at h0
    · rename_i hc
      cases h0
      show some (Sum.inl (zsw (E k) sw a, slo E lo, r.map (sval E), sH E L T h)) = _
      rw [sswk_ok (hs k) hc]
      rfl
    · cases h0
  · cases h0
theorem sr_21 (hh : sHd h) (h0 : sq21 len a b k3 T (pc, lo, st, h) = some (.inr (T', o))) : zs21 len a b k3 (sC E L T (pc, lo, st, h)) = some (sO E L T' o) := by
  simp only [sq21] at h0
  split at h0
  · rename_i k o r
    split at h0
    · rename_i t n hg
      cases hq : ((Nat.beq t (10 + a) && Nat.blt b n) && Nat.beq k3 0)
      · simp [hq] at h0
      · simp only [hq, cond_true] at h0
        cases h0
        rw [Bool.and_eq_true] at hq
        obtain ⟨hq, hk⟩ := hq
        have ek := Nat.eq_of_beq_eq_true hk
        subst ek
        have ht : t ≠ 9 := by
          rw [Bool.and_eq_true] at hq
          have := Nat.eq_of_beq_eq_true hq.1
          omega
        obtain ⟨g1, g2⟩ := ssh_get (L := L) hh hg ht
        simp only [zs21, sC, List.map_cons, sval]
        have g1 : zget (sH E L T h).1 o = some (t, n) := g1
        rw [g1]
        dsimp only
        rw [hq]
        dsimp only [cond_true]
        show some (Sum.inl (pc + len, slo E lo, r.map (sval E), ((sH E L T h).1, zup (sov E T h.2.1) o b (E k), h.2.2.1, h.2.2.2))) = _
        rw [← sov_add]
        rfl
    · cases h0
  · cases h0
theorem sr_22 (hL : L < 2 ^ 31) (h0 : sq22 L len T (pc, lo, st, h) = some (.inr (T', o))) : zs22 len (sC E L T (pc, lo, st, h)) = some (sO E L T' o) := by
  simp only [sq22] at h0
  split at h0
  · rename_i i o r
    cases hq : (Nat.beq o 0 && (Nat.blt (zix i) L && (sfind T 0 (zix i)).isNone))
    · simp [hq] at h0
    · simp only [hq, cond_true] at h0
      cases h0
      rw [Bool.and_eq_true, Bool.and_eq_true] at hq
      obtain ⟨q1, q2, q3⟩ := hq
      have e1 := Nat.eq_of_beq_eq_true q1
      subst e1
      simp only [zs22, sC, List.map_cons, sval]
      have g1 : zget (sH E L T h).1 0 = some (5, L) := rfl
      rw [g1]
      dsimp only
      rw [show ((Nat.beq 5 0 || Nat.beq 5 5) && Nat.blt (zix i) L) = true by rw [q2]; rfl]
      dsimp only [cond_true]
      have e2 : (sH E L T h).2.1 0 (zix i) = E (zix i) := by
        show sov E T h.2.1 0 (zix i) = _
        unfold sov
        rw [Option.isNone_iff_eq_none.mp q3]
        rfl
      rw [e2]
      rfl
  · cases h0
theorem sr_25 (hh : sHd h) (h0 : sq25 len T (pc, lo, st, h) = some (.inr (T', o))) : zs25 len (sC E L T (pc, lo, st, h)) = some (sO E L T' o) := by
  simp only [sq25] at h0
  split at h0
  · rename_i k i o r
    split at h0
    · rename_i t n hg
      cases hq : (Nat.beq t 0 && Nat.blt (zix i) n)
      · simp [hq] at h0
      · simp only [hq, cond_true] at h0
        cases h0
        have ht : t ≠ 9 := by
          intro q
          subst q
          cases hq
        obtain ⟨g1, g2⟩ := ssh_get (L := L) hh hg ht
        simp only [zs25, sC, List.map_cons, sval]
        have g1 : zget (sH E L T h).1 o = some (t, n) := g1
        rw [g1]
        dsimp only
        rw [hq]
        dsimp only [cond_true]
        show some (Sum.inl (pc + len, slo E lo, r.map (sval E), ((sH E L T h).1, zup (sov E T h.2.1) o (zix i) (E k), h.2.2.1, h.2.2.2))) = _
        rw [← sov_add]
        rfl
    · cases h0
  · cases h0
theorem sr_28 (h0 : sq28 L len T (pc, lo, st, h) = some (.inr (T', o))) : zs28 len (sC E L T (pc, lo, st, h)) = some (sO E L T' o) := by
  simp only [sq28] at h0
  split at h0
  · rename_i o r
    cases hq : Nat.beq o 0
    · simp [hq] at h0
    · simp only [hq, cond_true] at h0
      cases h0
      have e1 := Nat.eq_of_beq_eq_true hq
      subst e1
      rfl
  · cases h0
theorem sr_35 (h0 : sq35 k3 T (pc, lo, st, h) = some (.inr (T', o))) : zs35 k3 (sC E L T (pc, lo, st, h)) = some (sO E L T' o) := by
  simp only [sq35] at h0
  split at h0
  · cases hq : Nat.beq k3 0
    · simp [hq] at h0
    · simp only [hq, cond_true] at h0
      cases h0
      have e1 := Nat.eq_of_beq_eq_true hq
      subst e1
      rfl
  · cases h0
theorem sr_36 (h0 : sq36 T (pc, lo, st, h) = some (.inr (T', o))) : zs36 (sC E L T (pc, lo, st, h)) = some (sO E L T' o) := by
  simp only [sq36] at h0
  split at h0
  · cases h0
    rfl
  · cases h0
end SX
