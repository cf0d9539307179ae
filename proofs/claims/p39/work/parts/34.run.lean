/-! nothing but what W names is written -/
def aFr (W : Nat → Nat → Bool) (h h' : zH) : Prop := (∀ o k, W o k = false → h'.2.1 o k = h.2.1 o k) ∧ (W 1000 0 = false → h'.2.2.1 = h.2.2.1) ∧ h'.1 = h.1
/-- the program's tables, read with fewer steps of the kernel -/
noncomputable def zgf {α : Type} (l : List α) : Nat → Option α := List.rec (motive := fun _ => Nat → Option α) (fun _ => none) (fun a _ ih n => Nat.rec (motive := fun _ => Option α) (some a) (fun m _ => ih m) n) l
theorem zgf_eq {α : Type} : ∀ (l : List α) (n : Nat), zgf l n = zget l n
  | [], _ => rfl
  | _ :: _, 0 => rfl
  | _ :: l, n + 1 => zgf_eq l n
noncomputable def zif2 (mi pc : Nat) : Option zI := match zgf zia (mi / 16) with
  | some g => (match zgf g (mi % 16) with
    | some t => (match zgf t (pc / 16) with
      | some r => (match zgf r (pc % 16) with
        | some e => e
        | _ => none)
      | _ => none)
    | _ => none)
  | _ => none
theorem zif2_eq {mi pc : Nat} : zif2 mi pc = zi mi pc := by
  unfold zif2 zi
  simp only [zgf_eq]
  rfl
