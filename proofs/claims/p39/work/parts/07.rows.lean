/-! THE SMALL MACHINE AND THE REAL ONE: what a heap holds, and a step at a time. -/
def zad (sa : Nat → Nat) (base k : Nat) : Nat := if k < 6 then sa k else base + (k - 6)
def zA (base : Nat) : Nat → Prop := fun q => base ≤ q
def zv (ad : Nat → Nat) : Value → Value
  | .ref k => .ref (ad k)
  | v => v
theorem zv_cat (ad : Nat → Nat) (v : Value) : (zv ad v).category = v.category := by cases v <;> rfl
theorem zlong_cat (v : Value) : zlong v = true ↔ v.category = 2 := by cases v <;> simp [zlong, Value.category]
theorem zcat_sum (ad : Nat → Nat) : ∀ st : List Value, ((st.map (zv ad)).map fun v => v.category).sum = zcat st
  | [] => rfl
  | v :: r => by
    have ih := zcat_sum ad r
    simp only [List.map_cons, List.sum_cons, zcat, zv_cat, ih]
    cases v <;> rfl
def zfv (ad : Nat → Nat) (h : zH) (k c j : Nat) : Value := bif zft c j then va_rf ((h.2.2.2 k j).map ad) else .int (h.2.1 k j)
def zrq (ad : Nat → Nat) (U : State) (H : Heap) (h : zH) (k n t : Nat) : Prop := ∃ cA : ClassId, H[ad k]? = some (arrV cA n (fun j => va_rf ((h.2.2.2 k j).map ad))) ∧ ArrOfT U cA (.object (zcn t)) ∧ va_RA U cA (.object (zcn t))
/-- what a cell of the small machine is on the heap -/
def zcell (D : va_G) (ad : Nat → Nat) (A : Nat → Prop) (U : State) (H : Heap) (h : zH) (k n : Nat) : Nat → Prop
  | 0 => ∃ cA : ClassId, H[ad k]? = some (arrV cA n (fun j => .int (h.2.1 k j))) ∧ ArrOfT U cA .int
  | 1 => ∃ cA : ClassId, H[ad k]? = some (arrV cA n (fun j => .long (h.2.2.1 k j))) ∧ ArrOfT U cA .long
  | 2 => zrq ad U H h k n 2
  | 3 => zrq ad U H h k n 3
  | 4 => zrq ad U H h k n 4
  | 5 => va_T .int (ad k) n (fun j => .int (h.2.1 k j)) A U H
  | t => ∃ q : vw_C, 10 ≤ t ∧ zget vwCl (t - 10) = some q ∧ q.2.2 = n ∧ t_OB (ad k) (D.1 (t - 10)) n (D.2 (t - 10)) H (zfv ad h k (t - 10))
def zlen (h : zH) : Nat := h.1.length
def zslots : List (Nat × Nat) → Nat
  | [] => 0
  | q :: r => q.2 + zslots r
def zRep (D : va_G) (sa : Nat → Nat) (base : Nat) (U : State) (H : Heap) (h : zH) : Prop :=
  H.size + 6 = base + h.1.length ∧ 6 ≤ h.1.length ∧ (∀ k t n, zget h.1 k = some (t, n) → zcell D (zad sa base) (zA base) U H h k n t) ∧ (∀ k t n, zget h.1 k = some (t, n) → (k < 6 ↔ t = 5)) ∧ ∀ k t n, zget h.1 k = some (t, n) → n < 2 ^ 31
/-- what stays true of the tables all along -/
def zG (D : va_G) (sa : Nat → Nat) (base : Nat) (U : State) (H : Heap) : Prop :=
  va_K D vwCl [] U ∧ (∀ w ∈ zN, va_Nw w U) ∧ (∀ t, 2 ≤ t → t ≤ 4 → va_AO (zcn t) U) ∧ ∀ a, 1 ≤ a → a ≤ 5 → va_Z (zsC a) (zsN a) "[I" (.ref (sa a)) (zA base) U H
def zlvl (ad : Nat → Nat) : Nat → List (Option Value) → List (Nat × Value)
  | _, [] => []
  | i, none :: r => zlvl ad (i + 1) r
  | i, some v :: r => (i, zv ad v) :: zlvl ad (i + 1) r
theorem zlvl_mem (ad : Nat → Nat) : ∀ (lo : List (Option Value)) (i : Nat) (q : Nat × Value), q ∈ zlvl ad i lo ↔ ∃ k v, zget lo k = some (some v) ∧ q = (i + k, zv ad v)
  | [], i, q => by simp [zlvl, zget]
  | none :: r, i, q => by
    simp only [zlvl]
    rw [zlvl_mem ad r (i + 1) q]
    constructor
    · rintro ⟨k, v, h1, h2⟩
      exact ⟨k + 1, v, h1, by rw [h2, Nat.add_assoc, Nat.add_comm 1 k]⟩
    · rintro ⟨k, v, h1, h2⟩
      cases k with
      | zero => simp [zget] at h1
      | succ k => exact ⟨k, v, h1, by rw [h2, Nat.add_assoc, Nat.add_comm 1 k]⟩
  | some w :: r, i, q => by
    simp only [zlvl, List.mem_cons]
    rw [zlvl_mem ad r (i + 1) q]
    constructor
    · rintro (h | ⟨k, v, h1, h2⟩)
      · exact ⟨0, w, rfl, h⟩
      · exact ⟨k + 1, v, h1, by rw [h2, Nat.add_assoc, Nat.add_comm 1 k]⟩
    · rintro ⟨k, v, h1, h2⟩
      cases k with
      | zero =>
        simp only [zget, Option.some.injEq] at h1
        subst h1
        exact Or.inl h2
      | succ k => exact Or.inr ⟨k, v, h1, by rw [h2, Nat.add_assoc, Nat.add_comm 1 k]⟩
theorem zget_put_eq {α : Type} : ∀ (l : List α) (i : Nat) (x : α), i < l.length → zget (zput l i x) i = some x
  | [], i, x, h => by simp at h
  | _ :: l, 0, x, _ => rfl
  | _ :: l, i + 1, x, h => zget_put_eq l i x (by simp at h; omega)
theorem zget_put_ne {α : Type} : ∀ (l : List α) (i j : Nat) (x : α), j ≠ i → zget (zput l i x) j = zget l j
  | [], i, j, x, _ => rfl
  | _ :: l, 0, 0, x, h => absurd rfl h
  | _ :: l, 0, j + 1, x, _ => rfl
  | _ :: l, i + 1, 0, x, _ => rfl
  | _ :: l, i + 1, j + 1, x, h => zget_put_ne l i j x (fun e => h (by rw [e]))
theorem zput_length {α : Type} : ∀ (l : List α) (i : Nat) (x : α), (zput l i x).length = l.length
  | [], i, x => rfl
  | _ :: l, 0, x => rfl
  | _ :: l, i + 1, x => by simp [zput, zput_length l i x]
theorem zget_lt {α : Type} : ∀ {l : List α} {i : Nat} {x : α}, zget l i = some x → i < l.length
  | [], i, x, h => by simp [zget] at h
  | _ :: l, 0, x, _ => by simp
  | _ :: l, i + 1, x, h => by have := zget_lt (l := l) (i := i) (x := x) h; simp; omega
theorem zget_of_lt {α : Type} : ∀ {l : List α} {i : Nat}, i < l.length → ∃ x, zget l i = some x
  | [], i, h => by simp at h
  | a :: l, 0, _ => ⟨a, rfl⟩
  | _ :: l, i + 1, h => zget_of_lt (l := l) (i := i) (by simp at h; omega)
theorem zget_mem {α : Type} : ∀ {l : List α} {i : Nat} {x : α}, zget l i = some x → x ∈ l
  | [], i, x, h => by simp [zget] at h
  | a :: l, 0, x, h => by simp only [zget, Option.some.injEq] at h; subst h; exact List.mem_cons_self
  | _ :: l, i + 1, x, h => List.mem_cons_of_mem _ (zget_mem (l := l) (i := i) h)
theorem zget_app {α : Type} : ∀ {l r : List α} {i : Nat} {x : α}, zget l i = some x → zget (l ++ r) i = some x
  | [], _, i, x, h => by simp [zget] at h
  | a :: l, _, 0, x, h => h
  | _ :: l, r, i + 1, x, h => zget_app (l := l) (r := r) (i := i) h
theorem zget_new {α : Type} : ∀ (l : List α) (a : α) (i : Nat) (x : α), zget (l ++ [a]) i = some x → zget l i = some x ∨ (i = l.length ∧ x = a)
  | [], a, 0, x, h => by simp only [List.nil_append, zget, Option.some.injEq] at h; exact Or.inr ⟨rfl, h.symm⟩
  | [], a, i + 1, x, h => by simp [zget] at h
  | _ :: l, a, 0, x, h => Or.inl h
  | _ :: l, a, i + 1, x, h => by
    rcases zget_new l a i x h with q | ⟨q, e⟩
    · exact Or.inl q
    · exact Or.inr ⟨by simp [q], e⟩
theorem zclr_length (lo : List (Option Value)) (i : Nat) : (zclr lo i).length = lo.length := by
  cases i with
  | zero => rfl
  | succ j =>
    simp only [zclr]
    split
    · rename_i w h
      cases hw : zlong w
      · rfl
      · simp [zput_length]
    · rfl
theorem zst1_length (lo : List (Option Value)) (i : Nat) (v : Value) : (zst1 lo i v).length = lo.length := by simp [zst1, zput_length, zclr_length]
theorem zst2_length (lo : List (Option Value)) (i : Nat) (v : Value) : (zst2 lo i v).length = lo.length := by simp [zst2, zput_length, zclr_length]
theorem zclr_get (lo : List (Option Value)) (i k : Nat) (w : Value) (h : zget (zclr lo i) k = some (some w)) : zget lo k = some (some w) ∧ ¬ (k + 1 = i ∧ zlong w = true) := by
  cases i with
  | zero => exact ⟨h, fun q => by omega⟩
  | succ j =>
    simp only [zclr] at h
    split at h
    · rename_i w' hw'
      cases hl : zlong w'
      · rw [hl] at h
        refine ⟨h, fun q => ?_⟩
        have : k = j := by omega
        subst this
        have hh : zget lo k = some (some w) := h
        rw [hw'] at hh
        cases hh
        rw [hl] at q
        exact absurd q.2 (by decide)
      · rw [hl] at h
        have h : zget (zput lo j none) k = some (some w) := h
        by_cases hk : k = j
        · subst hk
          rw [zget_put_eq _ _ _ (zget_lt hw')] at h
          cases h
        · rw [zget_put_ne _ _ _ _ hk] at h
          exact ⟨h, fun q => hk (by omega)⟩
    · rename_i hn
      refine ⟨h, fun q => ?_⟩
      have : k = j := by omega
      subst this
      exact hn w h
theorem zst1_lv {ad : Nat → Nat} {ls : Array Slot} {L : Nat} {lo : List (Option Value)} {i : Nat} {v : Value} (hlo : lo.length = L) (hi : i < L)
    (h : lv_has ls L ((i, zv ad v) :: (zlvl ad 0 lo).filter (fun q => !(q.1 == i) && !(q.1 + 1 == i && q.2.category == 2)))) : lv_has ls L (zlvl ad 0 (zst1 lo i v)) := by
  refine ⟨h.1, h.2.1, fun q hq => h.2.2 q ?_⟩
  obtain ⟨k, w, h1, h2⟩ := (zlvl_mem ad _ 0 q).mp hq
  rw [Nat.zero_add] at h2
  subst h2
  by_cases hk : k = i
  · subst hk
    rw [zst1, zget_put_eq _ _ _ (by rw [zclr_length, hlo]; exact hi)] at h1
    simp only [Option.some.injEq] at h1
    subst h1
    exact List.mem_cons_self
  · rw [zst1, zget_put_ne _ _ _ _ hk] at h1
    obtain ⟨h3, h4⟩ := zclr_get _ _ _ _ h1
    refine List.mem_cons_of_mem _ (List.mem_filter.mpr ⟨(zlvl_mem ad lo 0 _).mpr ⟨k, w, h3, by rw [Nat.zero_add]⟩, ?_⟩)
    have e1 : ¬ (k = i) := hk
    have e2 : ¬ (k + 1 = i ∧ w.category = 2) := fun q => h4 ⟨q.1, (zlong_cat w).mpr q.2⟩
    simp only [zv_cat, Bool.and_eq_true, Bool.not_eq_true', beq_eq_false_iff_ne, ne_eq, e1, not_false_eq_true, true_and]
    rw [Bool.and_eq_false_iff]
    by_cases hz : k + 1 = i
    · right
      simp only [beq_eq_false_iff_ne, ne_eq]
      exact fun q => e2 ⟨hz, q⟩
    · left
      simp only [beq_eq_false_iff_ne, ne_eq]
      exact hz
theorem zst2_lv {ad : Nat → Nat} {ls : Array Slot} {L : Nat} {lo : List (Option Value)} {i : Nat} {v : Value} (hlo : lo.length = L) (hi : i + 1 < L)
    (h : lv_has ls L ((i, zv ad v) :: (zlvl ad 0 lo).filter (fun q => !(q.1 == i) && (!(q.1 == i + 1) && !(q.1 + 1 == i && q.2.category == 2))))) : lv_has ls L (zlvl ad 0 (zst2 lo i v)) := by
  refine ⟨h.1, h.2.1, fun q hq => h.2.2 q ?_⟩
  obtain ⟨k, w, h1, h2⟩ := (zlvl_mem ad _ 0 q).mp hq
  rw [Nat.zero_add] at h2
  subst h2
  by_cases hk2 : k = i + 1
  · subst hk2
    rw [zst2, zget_put_eq _ _ _ (by rw [zput_length, zclr_length, hlo]; exact hi)] at h1
    cases h1
  rw [zst2, zget_put_ne _ _ _ _ hk2] at h1
  by_cases hk : k = i
  · subst hk
    rw [zget_put_eq _ _ _ (by rw [zclr_length, hlo]; omega)] at h1
    simp only [Option.some.injEq] at h1
    subst h1
    exact List.mem_cons_self
  · rw [zget_put_ne _ _ _ _ hk] at h1
    obtain ⟨h3, h4⟩ := zclr_get _ _ _ _ h1
    refine List.mem_cons_of_mem _ (List.mem_filter.mpr ⟨(zlvl_mem ad lo 0 _).mpr ⟨k, w, h3, by rw [Nat.zero_add]⟩, ?_⟩)
    have e1 : ¬ (k = i) := hk
    have e2 : ¬ (k + 1 = i ∧ w.category = 2) := fun q => h4 ⟨q.1, (zlong_cat w).mpr q.2⟩
    simp only [zv_cat, Bool.and_eq_true, Bool.not_eq_true', beq_eq_false_iff_ne, ne_eq, e1, hk2, not_false_eq_true, true_and]
    rw [Bool.and_eq_false_iff]
    by_cases hz : k + 1 = i
    · right
      simp only [beq_eq_false_iff_ne, ne_eq]
      exact fun q => e2 ⟨hz, q⟩
    · left
      simp only [beq_eq_false_iff_ne, ne_eq]
      exact hz
theorem zlv_get {ad : Nat → Nat} {ls : Array Slot} {L : Nat} {lo : List (Option Value)} {i : Nat} {v : Value} (h : lv_has ls L (zlvl ad 0 lo)) (hg : zget lo i = some (some v)) : ls[i]? = some (.val (zv ad v)) :=
  h.2.2 (i, zv ad v) ((zlvl_mem ad lo 0 _).mpr ⟨i, v, hg, by rw [Nat.zero_add]⟩)
theorem zlv_idx {ad : Nat → Nat} {lo : List (Option Value)} {i : Nat} {v : Value} (hg : zget lo i = some (some v)) : ∃ k : Nat, (zlvl ad 0 lo)[k]? = some (i, zv ad v) :=
  List.getElem?_of_mem ((zlvl_mem ad lo 0 _).mpr ⟨i, v, hg, by rw [Nat.zero_add]⟩)
/-! numbers as places -/
theorem zix_lt {i : Int32} {n : Nat} (h : zix i < n) (hn : n < 2 ^ 31 + 1) : ¬ i < 0 ∧ i.toNatClampNeg = zix i := by
  have h1 : i.toBitVec.toNat < 2147483648 := by unfold zix at h; omega
  have h2 : i.toInt = (i.toBitVec.toNat : Int) := by
    show i.toBitVec.toInt = _
    rw [BitVec.toInt_eq_toNat_of_lt (by omega)]
  constructor
  · rw [Int32.lt_iff_toInt_lt, h2]
    simp
  · show i.toInt.toNat = _
    rw [h2]
    rfl
theorem zix_in {i : Int32} {n : Nat} (h : zix i < n) (hn : n < 2 ^ 31) : vp_in i n := by
  obtain ⟨h1, h2⟩ := zix_lt h (by omega)
  intro q
  rcases q with q | q
  · exact h1 q
  · omega
theorem zsame_up {α : Type} {f : Nat → Nat → α} {o k : Nat} {v : α} : zup f o k v o k = v := by simp [zup]
theorem zne_up {α : Type} {f : Nat → Nat → α} {o k o' k' : Nat} {v : α} (h : ¬ (o' = o ∧ k' = k)) : zup f o k v o' k' = f o' k' := by
  unfold zup
  cases e : (Nat.beq o' o && Nat.beq k' k)
  · rfl
  · simp only [Bool.and_eq_true, Nat.beq_eq] at e
    exact absurd e h
theorem zup_row {α : Type} {f : Nat → Nat → α} {o k o' : Nat} {v : α} (h : o' ≠ o) : zup f o k v o' = f o' := by
  funext k'
  exact zne_up (fun q => h q.1)
theorem zrow_ne {α : Type} {f : Nat → Nat → α} {o o' : Nat} {r : Nat → α} (h : o' ≠ o) : zrow f o r o' = f o' := by
  funext k'
  unfold zrow
  cases e : Nat.beq o' o
  · rfl
  · exact absurd (Nat.beq_eq.mp e) h
theorem zrow_eq {α : Type} {f : Nat → Nat → α} {o : Nat} {r : Nat → α} : zrow f o r o = r := by
  funext k'
  simp [zrow]
