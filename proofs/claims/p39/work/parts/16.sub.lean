/-! NUMBERS THAT ARE NOT KNOWN: '.retAddr k' stands for the k-th int of an environment, '.double w' for a long out of it; cells of ints that hold such numbers are listed. What the small machine does without looking at them, it does for all of them. -/
abbrev sT : Type := List (Nat × Nat × Nat)
def sfind : sT → Nat → Nat → Option Nat
  | [], _, _ => none
  | (o', k', v) :: r, o, k => bif Nat.beq o' o && Nat.beq k' k then some v else sfind r o k
def sL (E : Nat → Int32) (n : Nat) : Int64 :=
  bif Nat.beq n 64 then (E 3).toInt64 <<< ((32 : Int32).toInt64 &&& 63) else
  bif Nat.beq n 65 then (E 4).toInt64 &&& 4294967295 else
  bif Nat.beq n 66 then ((E 3).toInt64 <<< ((32 : Int32).toInt64 &&& 63)) ||| ((E 4).toInt64 &&& 4294967295) else (E n).toInt64
def sval (E : Nat → Int32) : Value → Value
  | .retAddr k => .int (E k)
  | .double w => .long (sL E w.toNat)
  | v => v
def sov (E : Nat → Int32) (T : sT) (f : Nat → Nat → Int32) : Nat → Nat → Int32 := fun o k => match sfind T o k with
  | some v => E v
  | none => bif Nat.beq o 0 then E k else f o k
def ssh (L : Nat) (l : List (Nat × Nat)) : List (Nat × Nat) := (5, L) :: l.drop 1
def sH (E : Nat → Int32) (L : Nat) (T : sT) (h : zH) : zH := (ssh L h.1, sov E T h.2.1, h.2.2.1, h.2.2.2)
def slo (E : Nat → Int32) (lo : List (Option Value)) : List (Option Value) := lo.map (Option.map (sval E))
def sC (E : Nat → Int32) (L : Nat) (T : sT) (x : zC) : zC := (x.1, slo E x.2.1, x.2.2.1.map (sval E), sH E L T x.2.2.2)
def sO (E : Nat → Int32) (L : Nat) (T : sT) : zO → zO
  | .inl y => .inl (sC E L T y)
  | .inr (.inl (a, as, y)) => .inr (.inl (a, as.map (sval E), sC E L T y))
  | .inr (.inr r) => .inr (.inr (r.map (sval E)))
def sHd (h : zH) : Prop := ∃ tl, h.1 = (9, 0) :: tl
theorem sval_long (E : Nat → Int32) (v : Value) : zlong (sval E v) = zlong v := by cases v <;> rfl
theorem sval_rf (E : Nat → Int32) (r : Option Nat) : sval E (va_rf r) = va_rf r := by cases r <;> rfl
theorem zget_map {α β : Type} (f : α → β) : ∀ (l : List α) (i : Nat), zget (l.map f) i = (zget l i).map f
  | [], _ => rfl
  | _ :: _, 0 => rfl
  | _ :: l, i + 1 => zget_map f l i
theorem zput_map {α β : Type} (f : α → β) : ∀ (l : List α) (i : Nat) (x : α), zput (l.map f) i (f x) = (zput l i x).map f
  | [], _, _ => rfl
  | _ :: _, 0, _ => rfl
  | a :: l, i + 1, x => by
    show f a :: zput (l.map f) i (f x) = _
    rw [zput_map f l i x]
    rfl
theorem slo_get {E : Nat → Int32} {lo : List (Option Value)} {i : Nat} {v : Value} (h : zget lo i = some (some v)) : zget (slo E lo) i = some (some (sval E v)) := by
  unfold slo
  rw [zget_map, h]
  rfl
theorem zclr_s (E : Nat → Int32) (lo : List (Option Value)) (i : Nat) : zclr (slo E lo) i = slo E (zclr lo i) := by
  cases i with
  | zero => rfl
  | succ j =>
    unfold zclr
    dsimp only
    have e : zget (slo E lo) j = (zget lo j).map (Option.map (sval E)) := zget_map _ _ _
    rw [e]
    cases hg : zget lo j with
    | none => rfl
    | some w =>
      cases w with
      | none => rfl
      | some w =>
        simp only [Option.map_some, sval_long]
        cases zlong w
        · rfl
        · exact zput_map (Option.map (sval E)) lo j none
theorem zst1_s (E : Nat → Int32) (lo : List (Option Value)) (i : Nat) (v : Value) : zst1 (slo E lo) i (sval E v) = slo E (zst1 lo i v) := by
  unfold zst1
  rw [zclr_s]
  exact zput_map (Option.map (sval E)) _ i (some v)
theorem zst2_s (E : Nat → Int32) (lo : List (Option Value)) (i : Nat) (v : Value) : zst2 (slo E lo) i (sval E v) = slo E (zst2 lo i v) := by
  unfold zst2
  rw [zclr_s]
  have e := zput_map (Option.map (sval E)) (zclr lo i) i (some v)
  have e : zput (slo E (zclr lo i)) i (some (sval E v)) = slo E (zput (zclr lo i) i (some v)) := e
  rw [e]
  exact zput_map (Option.map (sval E)) _ (i + 1) none
theorem zcat_s (E : Nat → Int32) : ∀ st : List Value, zcat (st.map (sval E)) = zcat st
  | [] => rfl
  | v :: r => by
    simp only [List.map_cons, zcat, sval_long, zcat_s E r]
theorem ztake_s (E : Nat → Int32) : ∀ (n : Nat) (acc st : List Value), ztake n (acc.map (sval E)) (st.map (sval E)) = (ztake n acc st).map (fun q => (q.1.map (sval E), q.2.map (sval E)))
  | 0, _, _ => rfl
  | _ + 1, _, [] => rfl
  | n + 1, acc, v :: st => ztake_s E n (v :: acc) st
theorem zargs_s (E : Nat → Int32) : ∀ as : List Value, zargs (as.map (sval E)) = slo E (zargs as)
  | [] => rfl
  | v :: r => by
    simp only [List.map_cons, zargs, sval_long, zargs_s E r]
    cases zlong v <;> rfl
theorem zpad_s (E : Nat → Int32) : ∀ (n : Nat) (l : List (Option Value)), zpad n (slo E l) = slo E (zpad n l)
  | 0, _ => rfl
  | n + 1, [] => by
    show none :: zpad n (slo E []) = _
    rw [zpad_s E n []]
    rfl
  | n + 1, a :: l => by
    show _ :: zpad n (slo E l) = _
    rw [zpad_s E n l]
    rfl
theorem slo_len (E : Nat → Int32) (l : List (Option Value)) : (slo E l).length = l.length := List.length_map _
section SH
variable {E : Nat → Int32} {L : Nat} {T : sT} {h : zH} {o k t n : Nat}
theorem ssh_get (hh : sHd h) (hg : zget h.1 o = some (t, n)) (ht : t ≠ 9) : zget (ssh L h.1) o = some (t, n) ∧ o ≠ 0 := by
  obtain ⟨tl, e⟩ := hh
  rw [e] at hg
  unfold ssh
  rw [e]
  cases o with
  | zero =>
    cases hg
    exact absurd rfl ht
  | succ o => exact ⟨hg, by omega⟩
theorem ssh_len (hh : sHd h) : (ssh L h.1).length = h.1.length := by
  obtain ⟨tl, e⟩ := hh
  rw [e]
  rfl
theorem ssh_app (hh : sHd h) (q : List (Nat × Nat)) : ssh L (h.1 ++ q) = ssh L h.1 ++ q := by
  obtain ⟨tl, e⟩ := hh
  rw [e]
  rfl
theorem sov_get {f : Nat → Nat → Int32} (hf : sfind T o k = none) (ho : o ≠ 0) : sov E T f o k = f o k := by
  unfold sov
  rw [hf]
  cases hb : Nat.beq o 0
  · rfl
  · exact absurd (Nat.eq_of_beq_eq_true hb) ho
theorem sov_up {f : Nat → Nat → Int32} {x : Int32} (hf : sfind T o k = none) (ho : o ≠ 0) : sov E T (zup f o k x) = zup (sov E T f) o k x := by
  funext o' k'
  by_cases hq : o' = o ∧ k' = k
  · obtain ⟨rfl, rfl⟩ := hq
    rw [sov_get hf ho, zsame_up, zsame_up]
  · rw [zne_up hq]
    unfold sov
    cases sfind T o' k' with
    | some v => rfl
    | none =>
      dsimp only
      rw [zne_up hq]
theorem sov_row {f : Nat → Nat → Int32} {r : Nat → Int32} (ho : o ≠ 0) : sov E [] (zrow f o r) = zrow (sov E [] f) o r := by
  funext o' k'
  by_cases hq : o' = o
  · subst hq
    rw [sov_get rfl ho, zrow_eq, zrow_eq]
  · rw [zrow_ne hq]
    unfold sov
    dsimp only [sfind]
    rw [zrow_ne hq]
theorem sov_nil {f : Nat → Nat → Int32} (ho : o ≠ 0) : sov E [] f o = f o := by
  funext k'
  exact sov_get rfl ho
theorem sov_add {f : Nat → Nat → Int32} {v : Nat} : sov E ((o, k, v) :: T) f = zup (sov E T f) o k (E v) := by
  funext o' k'
  by_cases hq : o' = o ∧ k' = k
  · obtain ⟨rfl, rfl⟩ := hq
    rw [zsame_up]
    unfold sov sfind
    rw [Nat.beq_refl, Nat.beq_refl]
    rfl
  · rw [zne_up hq]
    unfold sov
    have e : sfind ((o, k, v) :: T) o' k' = sfind T o' k' := by
      rw [sfind]
      cases hb : (Nat.beq o o' && Nat.beq k k')
      · rfl
      · rw [Bool.and_eq_true] at hb
        exact absurd ⟨(Nat.eq_of_beq_eq_true hb.1).symm, (Nat.eq_of_beq_eq_true hb.2).symm⟩ hq
    rw [e]
theorem znew_s (hh : sHd h) : znew (sH E L [] h) t n = sH E L [] (znew h t n) := by
  have hl : h.1.length ≠ 0 := by
    obtain ⟨tl, e⟩ := hh
    rw [e]
    simp
  unfold znew sH
  dsimp only
  rw [ssh_len hh, ssh_app hh, sov_row hl]
end SH
/-- what the cells of unknown numbers ask of an instruction -/
def okT (T : sT) (e : zI) (st : List Value) : Bool := match e.1 with
  | 20 => (match st with
    | .ref o :: _ => (sfind T o e.2.2.2.1).isNone
    | _ => true)
  | 21 => (match st with
    | _ :: .ref o :: _ => (sfind T o e.2.2.2.1).isNone
    | _ => true)
  | 22 => (match st with
    | .int i :: .ref o :: _ => (sfind T o (zix i)).isNone
    | _ => true)
  | 25 => (match st with
    | _ :: .int i :: .ref o :: _ => (sfind T o (zix i)).isNone
    | _ => true)
  | 29 => T.isEmpty
  | 30 => T.isEmpty
  | 34 => T.isEmpty
  | _ => true
