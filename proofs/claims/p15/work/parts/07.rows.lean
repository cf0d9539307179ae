/-! THE SMALL MACHINE AND THE REAL ONE: what a heap holds, and a step at a time. -/
def zad (sa : Nat → Nat) (base k : Nat) : Nat := if k < 6 then sa k else base + (k - 6)
def zA (base : Nat) : Nat → Prop := fun q => base ≤ q
def zv (ad : Nat → Nat) : Value → Value
  | .ref k => .ref (ad k)
  | v => v
theorem zv_cat (ad : Nat → Nat) (v : Value) : (zv ad v).category = v.category := by cases v <;> rfl
theorem zlong_cat (v : Value) : zlong v = true ↔ v.category = 2 := by cases v <;> simp [zlong, Value.category]
theorem zcat_sum (ad : Nat → Nat) : ∀ st : List Value, ((st.map (zv ad)).map fun v => v.category).sum = zcat st
  | [] => rfl
  | v :: r => by
    have ih := zcat_sum ad r
    simp only [List.map_cons, List.sum_cons, zcat, zv_cat, ih]
    cases v <;> rfl
def zfv (ad : Nat → Nat) (h : zH) (k c j : Nat) : Value := bif zft c j then va_rf ((h.2.2.2 k j).map ad) else .int (h.2.1 k j)
def zrq (ad : Nat → Nat) (U : State) (H : Heap) (h : zH) (k n t : Nat) : Prop := ∃ cA : ClassId, H[ad k]? = some (arrV cA n (fun j => va_rf ((h.2.2.2 k j).map ad))) ∧ ArrOfT U cA (.object (zcn t)) ∧ va_RA U cA (.object (zcn t))
/-- what a cell of the small machine is on the heap -/
def zcell (D : va_G) (ad : Nat → Nat) (A : Nat → Prop) (U : State) (H : Heap) (h : zH) (k n : Nat) : Nat → Prop
  | 0 => ∃ cA : ClassId, H[ad k]? = some (arrV cA n (fun j => .int (h.2.1 k j))) ∧ ArrOfT U cA .int
  | 1 => ∃ cA : ClassId, H[ad k]? = some (arrV cA n (fun j => .long (h.2.2.1 k j))) ∧ ArrOfT U cA .long
  | 2 => zrq ad U H h k n 2
  | 3 => zrq ad U H h k n 3
  | 4 => zrq ad U H h k n 4
  | 5 => va_T .int (ad k) n (fun j => .int (h.2.1 k j)) A U H
  | t => ∃ q : vw_C, 10 ≤ t ∧ zget vwCl (t - 10) = some q ∧ q.2.2 = n ∧ t_OB (ad k) (D.1 (t - 10)) n (D.2 (t - 10)) H (zfv ad h k (t - 10))
def zlen (h : zH) : Nat := h.1.length
def zslots : List (Nat × Nat) → Nat
  | [] => 0
  | q :: r => q.2 + zslots r
def zRep (D : va_G) (sa : Nat → Nat) (base : Nat) (U : State) (H : Heap) (h : zH) : Prop :=
  H.size + 6 = base + h.1.length ∧ 6 ≤ h.1.length ∧ (∀ k t n, zget h.1 k = some (t, n) → zcell D (zad sa base) (zA base) U H h k n t) ∧ (∀ k t n, zget h.1 k = some (t, n) → (k < 6 ↔ t = 5)) ∧ ∀ k t n, zget h.1 k = some (t, n) → n < 2 ^ 31
/-- what stays true of the tables all along -/
def zG (D : va_G) (sa : Nat → Nat) (base : Nat) (U : State) (H : Heap) : Prop :=
  va_K D vwCl [] U ∧ (∀ w ∈ zN, va_Nw w U) ∧ (∀ t, 2 ≤ t → t ≤ 4 → va_AO (zcn t) U) ∧ ∀ a, 1 ≤ a → a ≤ 5 → va_Z (zsC a) (zsN a) "[I" (.ref (sa a)) (zA base) U H
def zlvl (ad : Nat → Nat) : Nat → List (Option Value) → List (Nat × Value)
  | _, [] => []
  | i, none :: r => zlvl ad (i + 1) r
  | i, some v :: r => (i, zv ad v) :: zlvl ad (i + 1) r
theorem zlvl_mem (ad : Nat → Nat) : ∀ (lo : List (Option Value)) (i : Nat) (q : Nat × Value), q ∈ zlvl ad i lo ↔ ∃ k v, zget lo k = some (some v) ∧ q = (i + k, zv ad v)
  | [], i, q => by simp [zlvl, zget]
  | none :: r, i, q => by
    simp only [zlvl]
    rw [zlvl_mem ad r (i + 1) q]
    constructor
    · rintro ⟨k, v, h1, h2⟩
      exact ⟨k + 1, v, h1, by rw [h2, Nat.add_assoc, Nat.add_comm 1 k]⟩
    · rintro ⟨k, v, h1, h2⟩
      cases k with
      | zero => simp [zget] at h1
      | succ k => exact ⟨k, v, h1, by rw [h2, Nat.add_assoc, Nat.add_comm 1 k]⟩
  | some w :: r, i, q => by
    simp only [zlvl, List.mem_cons]
    rw [zlvl_mem ad r (i + 1) q]
    constructor
    · rintro (h | ⟨k, v, h1, h2⟩)
      · exact ⟨0, w, rfl, h⟩
      · exact ⟨k + 1, v, h1, by rw [h2, Nat.add_assoc, Nat.add_comm 1 k]⟩
    · rintro ⟨k, v, h1, h2⟩
      cases k with
      | zero =>
        simp only [zget, Option.some.injEq] at h1
        subst h1
        exact Or.inl h2
      | succ k => exact Or.inr ⟨k, v, h1, by rw [h2, Nat.add_assoc, Nat.add_comm 1 k]⟩
theorem zget_put_eq {α : Type} : ∀ (l : List α) (i : Nat) (x : α), i < l.length → zget (zput l i x) i = some x
  | [], i, x, h => by simp at h
  | _ :: l, 0, x, _ => rfl
  | _ :: l, i + 1, x, h => zget_put_eq l i x (by simp at h; omega)
theorem zget_put_ne {α : Type} : ∀ (l : List α) (i j : Nat) (x : α), j ≠ i → zget (zput l i x) j = zget l j
  | [], i, j, x, _ => rfl
  | _ :: l, 0, 0, x, h => absurd rfl h
  | _ :: l, 0, j + 1, x, _ => rfl
  | _ :: l, i + 1, 0, x, _ => rfl
  | _ :: l, i + 1, j + 1, x, h => zget_put_ne l i j x (fun e => h (by rw [e]))
theorem zput_length {α : Type} : ∀ (l : List α) (i : Nat) (x : α), (zput l i x).length = l.length
  | [], i, x => rfl
  | _ :: l, 0, x => rfl
  | _ :: l, i + 1, x => by simp [zput, zput_length l i x]
theorem zget_lt {α : Type} : ∀ {l : List α} {i : Nat} {x : α}, zget l i = some x → i < l.length
  | [], i, x, h => by simp [zget] at h
  | _ :: l, 0, x, _ => by simp
  | _ :: l, i + 1, x, h => by have := zget_lt (l := l) (i := i) (x := x) h; simp; omega
theorem zget_of_lt {α : Type} : ∀ {l : List α} {i : Nat}, i < l.length → ∃ x, zget l i = some x
  | [], i, h => by simp at h
  | a :: l, 0, _ => ⟨a, rfl⟩
  | _ :: l, i + 1, h => zget_of_lt (l := l) (i := i) (by simp at h; omega)
theorem zget_mem {α : Type} : ∀ {l : List α} {i : Nat} {x : α}, zget l i = some x → x ∈ l
  | [], i, x, h => by simp [zget] at h
  | a :: l, 0, x, h => by simp only [zget, Option.some.injEq] at h; subst h; exact List.mem_cons_self
  | _ :: l, i + 1, x, h => List.mem_cons_of_mem _ (zget_mem (l := l) (i := i) h)
theorem zget_app {α : Type} : ∀ {l r : List α} {i : Nat} {x : α}, zget l i = some x → zget (l ++ r) i = some x
  | [], _, i, x, h => by simp [zget] at h
  | a :: l, _, 0, x, h => h
  | _ :: l, r, i + 1, x, h => zget_app (l := l) (r := r) (i := i) h
theorem zget_new {α : Type} : ∀ (l : List α) (a : α) (i : Nat) (x : α), zget (l ++ [a]) i = some x → zget l i = some x ∨ (i = l.length ∧ x = a)
  | [], a, 0, x, h => by simp only [List.nil_append, zget, Option.some.injEq] at h; exact Or.inr ⟨rfl, h.symm⟩
  | [], a, i + 1, x, h => by simp [zget] at h
  | _ :: l, a, 0, x, h => Or.inl h
  | _ :: l, a, i + 1, x, h => by
    rcases zget_new l a i x h with q | ⟨q, e⟩
    · exact Or.inl q
    · exact Or.inr ⟨by simp [q], e⟩
theorem zclr_length (lo : List (Option Value)) (i : Nat) : (zclr lo i).length = lo.length := by
  cases i with
  | zero => rfl
  | succ j =>
    simp only [zclr]
    split
    · rename_i w h
      cases hw : zlong w
      · rfl
      · simp [zput_length]
    · rfl
theorem zst1_length (lo : List (Option Value)) (i : Nat) (v : Value) : (zst1 lo i v).length = lo.length := by simp [zst1, zput_length, zclr_length]
theorem zst2_length (lo : List (Option Value)) (i : Nat) (v : Value) : (zst2 lo i v).length = lo.length := by simp [zst2, zput_length, zclr_length]
theorem zclr_get (lo : List (Option Value)) (i k : Nat) (w : Value) (h : zget (zclr lo i) k = some (some w)) : zget lo k = some (some w) ∧ ¬ (k + 1 = i ∧ zlong w = true) := by
  cases i with
  | zero => exact ⟨h, fun q => by omega⟩
  | succ j =>
    simp only [zclr] at h
    split at h
    · rename_i w' hw'
      cases hl : zlong w'
      · rw [hl] at h
        refine ⟨h, fun q => ?_⟩
        have : k = j := by omega
        subst this
        have hh : zget lo k = some (some w) := h
        rw [hw'] at hh
        cases hh
        rw [hl] at q
        exact absurd q.2 (by decide)
      · rw [hl] at h
        have h : zget (zput lo j none) k = some (some w) := h
        by_cases hk : k = j
        · subst hk
          rw [zget_put_eq _ _ _ (zget_lt hw')] at h
          cases h
        · rw [zget_put_ne _ _ _ _ hk] at h
          exact ⟨h, fun q => hk (by omega)⟩
    · rename_i hn
      refine ⟨h, fun q => ?_⟩
      have : k = j := by omega
      subst this
      exact hn w h
theorem zst1_lv {ad : Nat → Nat} {ls : Array Slot} {L : Nat} {lo : List (Option Value)} {i : Nat} {v : Value} (hlo : lo.length = L) (hi : i < L)
    (h : lv_has ls L ((i, zv ad v) :: (zlvl ad 0 lo).filter (fun q => !(q.1 == i) && !(q.1 + 1 == i && q.2.category == 2)))) : lv_has ls L (zlvl ad 0 (zst1 lo i v)) := by
  refine ⟨h.1, h.2.1, fun q hq => h.2.2 q ?_⟩
  obtain ⟨k, w, h1, h2⟩ := (zlvl_mem ad _ 0 q).mp hq
  rw [Nat.zero_add] at h2
  subst h2
  by_cases hk : k = i
  · subst hk
    rw [zst1, zget_put_eq _ _ _ (by rw [zclr_length, hlo]; exact hi)] at h1
    simp only [Option.some.injEq] at h1
    subst h1
    exact List.mem_cons_self
  · rw [zst1, zget_put_ne _ _ _ _ hk] at h1
    obtain ⟨h3, h4⟩ := zclr_get _ _ _ _ h1
    refine List.mem_cons_of_mem _ (List.mem_filter.mpr ⟨(zlvl_mem ad lo 0 _).mpr ⟨k, w, h3, by rw [Nat.zero_add]⟩, ?_⟩)
    have e1 : ¬ (k = i) := hk
    have e2 : ¬ (k + 1 = i ∧ w.category = 2) := fun q => h4 ⟨q.1, (zlong_cat w).mpr q.2⟩
    simp only [zv_cat, Bool.and_eq_true, Bool.not_eq_true', beq_eq_false_iff_ne, ne_eq, e1, not_false_eq_true, true_and]
    rw [Bool.and_eq_false_iff]
    by_cases hz : k + 1 = i
    · right
      simp only [beq_eq_false_iff_ne, ne_eq]
      exact fun q => e2 ⟨hz, q⟩
    · left
      simp only [beq_eq_false_iff_ne, ne_eq]
      exact hz
theorem zst2_lv {ad : Nat → Nat} {ls : Array Slot} {L : Nat} {lo : List (Option Value)} {i : Nat} {v : Value} (hlo : lo.length = L) (hi : i + 1 < L)
    (h : lv_has ls L ((i, zv ad v) :: (zlvl ad 0 lo).filter (fun q => !(q.1 == i) && (!(q.1 == i + 1) && !(q.1 + 1 == i && q.2.category == 2))))) : lv_has ls L (zlvl ad 0 (zst2 lo i v)) := by
  refine ⟨h.1, h.2.1, fun q hq => h.2.2 q ?_⟩
  obtain ⟨k, w, h1, h2⟩ := (zlvl_mem ad _ 0 q).mp hq
  rw [Nat.zero_add] at h2
  subst h2
  by_cases hk2 : k = i + 1
  · subst hk2
    rw [zst2, zget_put_eq _ _ _ (by rw [zput_length, zclr_length, hlo]; exact hi)] at h1
    cases h1
  rw [zst2, zget_put_ne _ _ _ _ hk2] at h1
  by_cases hk : k = i
  · subst hk
    rw [zget_put_eq _ _ _ (by rw [zclr_length, hlo]; omega)] at h1
    simp only [Option.some.injEq] at h1
    subst h1
    exact List.mem_cons_self
  · rw [zget_put_ne _ _ _ _ hk] at h1
    obtain ⟨h3, h4⟩ := zclr_get _ _ _ _ h1
    refine List.mem_cons_of_mem _ (List.mem_filter.mpr ⟨(zlvl_mem ad lo 0 _).mpr ⟨k, w, h3, by rw [Nat.zero_add]⟩, ?_⟩)
    have e1 : ¬ (k = i) := hk
    have e2 : ¬ (k + 1 = i ∧ w.category = 2) := fun q => h4 ⟨q.1, (zlong_cat w).mpr q.2⟩
    simp only [zv_cat, Bool.and_eq_true, Bool.not_eq_true', beq_eq_false_iff_ne, ne_eq, e1, hk2, not_false_eq_true, true_and]
    rw [Bool.and_eq_false_iff]
    by_cases hz : k + 1 = i
    · right
      simp only [beq_eq_false_iff_ne, ne_eq]
      exact fun q => e2 ⟨hz, q⟩
    · left
      simp only [beq_eq_false_iff_ne, ne_eq]
      exact hz
theorem zlv_get {ad : Nat → Nat} {ls : Array Slot} {L : Nat} {lo : List (Option Value)} {i : Nat} {v : Value} (h : lv_has ls L (zlvl ad 0 lo)) (hg : zget lo i = some (some v)) : ls[i]? = some (.val (zv ad v)) :=
  h.2.2 (i, zv ad v) ((zlvl_mem ad lo 0 _).mpr ⟨i, v, hg, by rw [Nat.zero_add]⟩)
theorem zlv_idx {ad : Nat → Nat} {lo : List (Option Value)} {i : Nat} {v : Value} (hg : zget lo i = some (some v)) : ∃ k : Nat, (zlvl ad 0 lo)[k]? = some (i, zv ad v) :=
  List.getElem?_of_mem ((zlvl_mem ad lo 0 _).mpr ⟨i, v, hg, by rw [Nat.zero_add]⟩)
/-! numbers as places -/
theorem zix_lt {i : Int32} {n : Nat} (h : zix i < n) (hn : n < 2 ^ 31 + 1) : ¬ i < 0 ∧ i.toNatClampNeg = zix i := by
  have h1 : i.toBitVec.toNat < 2147483648 := by unfold zix at h; omega
  have h2 : i.toInt = (i.toBitVec.toNat : Int) := by
    show i.toBitVec.toInt = _
    rw [BitVec.toInt_eq_toNat_of_lt (by omega)]
  constructor
  · rw [Int32.lt_iff_toInt_lt, h2]
    simp
  · show i.toInt.toNat = _
    rw [h2]
    rfl
theorem zix_in {i : Int32} {n : Nat} (h : zix i < n) (hn : n < 2 ^ 31) : vp_in i n := by
  obtain ⟨h1, h2⟩ := zix_lt h (by omega)
  intro q
  rcases q with q | q
  · exact h1 q
  · omega
theorem zsame_up {α : Type} {f : Nat → Nat → α} {o k : Nat} {v : α} : zup f o k v o k = v := by simp [zup]
theorem zne_up {α : Type} {f : Nat → Nat → α} {o k o' k' : Nat} {v : α} (h : ¬ (o' = o ∧ k' = k)) : zup f o k v o' k' = f o' k' := by
  unfold zup
  cases e : (Nat.beq o' o && Nat.beq k' k)
  · rfl
  · simp only [Bool.and_eq_true, Nat.beq_eq] at e
    exact absurd e h
theorem zup_row {α : Type} {f : Nat → Nat → α} {o k o' : Nat} {v : α} (h : o' ≠ o) : zup f o k v o' = f o' := by
  funext k'
  exact zne_up (fun q => h q.1)
theorem zrow_ne {α : Type} {f : Nat → Nat → α} {o o' : Nat} {r : Nat → α} (h : o' ≠ o) : zrow f o r o' = f o' := by
  funext k'
  unfold zrow
  cases e : Nat.beq o' o
  · rfl
  · exact absurd (Nat.beq_eq.mp e) h
theorem zrow_eq {α : Type} {f : Nat → Nat → α} {o : Nat} {r : Nat → α} : zrow f o r o = r := by
  funext k'
  simp [zrow]
/-! A STEP AT A TIME: what the small machine does, the real one does: instructions that leave the cells alone. -/
def zX (p : Program) (s : State) (m : MethodId) (args : Array Value) (meth : Method) (c : Code) (M : zM) (D : va_G) (sa : Nat → Nat) (base : Nat) : Prop :=
  p.tables.exec = Jvm.exec ∧ c.code = M.2.1 ∧ c.maxLocals = M.2.2.1 ∧ s.vm.findClass M.1.cls = some m.cls ∧ (M.1.name = "<init>" → meth.name = "<init>") ∧ (∀ w ∈ zWall, w.before args s = true) ∧ zG D sa base s s.heap ∧ base ≤ s.heap.size
def zIn (D : va_G) (sa : Nat → Nat) (base L : Nat) (s : State) (H : Heap) (locs : List Loc) (lo : List (Option Value)) (h : zH) (ls : Array Slot) : Prop :=
  lv_has ls L (zlvl (zad sa base) 0 lo) ∧ lo.length = L ∧ zRep D sa base s H h ∧ va_S (zA base) s.heap H locs
def zK (p : Program) (l : Launch) (e : Env) (R : Room) (s : State) (m : MethodId) (args : Array Value) (below : List Frame) (meth : Method) (c : Code) (cells slots : Nat) (Q : State → Prop) (D : va_G) (sa : Nat → Nat) (base L : Nat) (h : zH) (y : zC) : Prop :=
  ∀ (ls' : Array Slot) (H' : Heap) (locs' : List Loc) (cells' slots' : Nat), zIn D sa base L s H' locs' y.2.1 y.2.2.2 ls' → cells' + h.1.length = cells + y.2.2.2.1.length → slots' + zslots h.1 = slots + zslots y.2.2.2.1 → W p l e R s m args below meth c H' locs' cells' slots' Q (F0 m y.1 ls' (y.2.2.1.map (zv (zad sa base))))
theorem zcat1 {ad : Nat → Nat} {v : Value} (h : zlong v = false) : (zv ad v).category = 1 := by
  rw [zv_cat]
  rcases lv_cat v with q | q
  · exact q
  · rw [(zlong_cat v).mpr q] at h
    exact absurd h (by decide)
/-- a table's row -/
theorem zrows_in {pc : Nat} {x : Int32} {d : Nat} : ∀ {lo : Int} {os : List Int} {r : List (Int32 × Nat)}, zrows pc lo os r = true → ¬ x.toInt < lo → ¬ lo + (os.length : Int) - 1 < x.toInt → ∃ off, os[(x.toInt - lo).toNat]? = some off ∧ (pc : Int) + off = (zsw x r d : Int)
  | lo, [], [], _, h1, h2 => by simp at h2; omega
  | lo, [], _ :: _, h, _, _ => by simp [zrows] at h
  | lo, _ :: _, [], h, _, _ => by simp [zrows] at h
  | lo, o :: os, (k, t) :: r, h, h1, h2 => by
    simp only [zrows, Bool.and_eq_true, decide_eq_true_eq] at h
    obtain ⟨⟨e1, e2⟩, e3⟩ := h
    by_cases hx : x = k
    · subst hx
      refine ⟨o, ?_, ?_⟩
      · rw [e1]
        simp
      · simp only [zsw, if_pos rfl]
        exact e2
    · have hne : x.toInt ≠ lo := fun q => hx (Int32.toInt_inj.mp (q.trans e1.symm))
      obtain ⟨off, f1, f2⟩ := zrows_in (x := x) (d := d) e3 (by omega) (by simp only [List.length_cons] at h2; omega)
      refine ⟨off, ?_, ?_⟩
      · rw [show (x.toInt - lo).toNat = (x.toInt - (lo + 1)).toNat + 1 by omega]
        simpa using f1
      · simp only [zsw, if_neg hx]
        exact f2
theorem zrows_out {pc : Nat} {x : Int32} {d : Nat} : ∀ {lo : Int} {os : List Int} {r : List (Int32 × Nat)}, zrows pc lo os r = true → (x.toInt < lo ∨ lo + (os.length : Int) - 1 < x.toInt) → zsw x r d = d
  | lo, [], [], _, _ => rfl
  | lo, [], _ :: _, h, _ => by simp [zrows] at h
  | lo, _ :: _, [], h, _ => by simp [zrows] at h
  | lo, o :: os, (k, t) :: r, h, h1 => by
    simp only [zrows, Bool.and_eq_true, decide_eq_true_eq] at h
    obtain ⟨⟨e1, e2⟩, e3⟩ := h
    simp only [List.length_cons] at h1
    have hx : ¬ x = k := fun q => by subst q; omega
    simp only [zsw, if_neg hx]
    exact zrows_out (x := x) (d := d) e3 (by omega)
theorem zrowl_at {pc : Nat} {x : Int32} {d : Nat} {df : Int} (hd : (pc : Int) + df = (d : Int)) : ∀ {ps : List (Int × Int)} {r : List (Int32 × Nat)}, zrowl pc ps r = true → (pc : Int) + Op.lookupswitch.offset ps df x.toInt = (zsw x r d : Int)
  | [], [], _ => hd
  | [], _ :: _, h => by simp [zrowl] at h
  | _ :: _, [], h => by simp [zrowl] at h
  | (n, o) :: ps, (k, t) :: r, h => by
    simp only [zrowl, Bool.and_eq_true, decide_eq_true_eq] at h
    obtain ⟨⟨e1, e2⟩, e3⟩ := h
    rw [Op.lookupswitch.offset_cons]
    by_cases hx : x = k
    · subst hx
      rw [if_pos e1.symm]
      simp only [zsw, if_pos rfl]
      exact e2
    · have hne : ¬ n = x.toInt := fun q => hx (Int32.toInt_inj.mp (q.symm.trans e1.symm))
      rw [if_neg hne]
      simp only [zsw, if_neg hx]
      exact zrowl_at hd e3
section ZW
variable {p : Program} {l : Launch} {e : Env} {R : Room} {s : State} {m : MethodId} {args : Array Value} {below : List Frame} {meth : Method} {c : Code} {H : Heap} {locs : List Loc} {cells slots : Nat} {Q : State → Prop}
variable {M : zM} {D : va_G} {sa : Nat → Nat} {base : Nat} {pc len a b k3 : Nat} {v : Value} {sw : List (Int32 × Nat)} {i : Instr} {lo : List (Option Value)} {st : List Value} {h : zH} {ls : Array Slot} {y : zC}
theorem zw_0 (C : zX p s m args meth c M D sa base) (hd : decode M.2.1 pc = .ok (i, len)) (hc : zc0 M.1.cls len v sw i = true) (I : zIn D sa base M.2.2.1 s H locs lo h ls) (hs : zs0 len v (pc, lo, st, h) = some (.inl y)) (kk : zK p l e R s m args below meth c cells slots Q D sa base M.2.2.1 h y) : W p l e R s m args below meth c H locs cells slots Q (F0 m pc ls (st.map (zv (zad sa base)))) := by
  obtain ⟨hx, hb, hml, hown, hnm, hts, hG, hbs⟩ := C
  simp only [zs0] at hs
  simp only [zgo, Option.some.injEq, Sum.inl.injEq] at hs
  subst hs
  unfold zc0 at hc
  split at hc
  · simp only [Bool.and_eq_true, decide_eq_true_eq] at hc
    obtain ⟨h1, h2⟩ := hc
    subst h1; subst h2
    exact lv_iconst hx hb hd rfl (kk _ _ _ _ _ I rfl rfl)
  · simp only [Bool.and_eq_true, decide_eq_true_eq] at hc
    obtain ⟨h1, h2⟩ := hc
    subst h1; subst h2
    exact lv_bipush hx hb hd rfl (kk _ _ _ _ _ I rfl rfl)
  · simp only [Bool.and_eq_true, decide_eq_true_eq] at hc
    obtain ⟨h1, h2⟩ := hc
    subst h1; subst h2
    exact lv_sipush hx hb hd rfl (kk _ _ _ _ _ I rfl rfl)
  · rw [Bool.and_eq_true, decide_eq_true_eq] at hc
    obtain ⟨h1, h2⟩ := hc
    subst h1
    split at h2
    · exact lv_ldc hx hb hown (hts _ (zw_in h2)) hd (kk _ _ _ _ _ I rfl rfl)
    · cases h2
  · rw [Bool.and_eq_true, decide_eq_true_eq] at hc
    obtain ⟨h1, h2⟩ := hc
    subst h1
    split at h2
    · exact lv_ldcw hx hb hown (hts _ (zw_in h2)) hd (kk _ _ _ _ _ I rfl rfl)
    · cases h2
  · simp only [Bool.and_eq_true, decide_eq_true_eq] at hc
    obtain ⟨h1, h2⟩ := hc
    subst h1; subst h2
    exact lv_lconst hx hb hd rfl (kk _ _ _ _ _ I rfl rfl)
  · rw [Bool.and_eq_true, decide_eq_true_eq] at hc
    obtain ⟨h1, h2⟩ := hc
    subst h1
    split at h2
    · exact lv_ldc2 hx hb hown (hts _ (zw_in h2)) hd (kk _ _ _ _ _ I rfl rfl)
    · cases h2
  · cases hc
theorem zw_1 (C : zX p s m args meth c M D sa base) (hd : decode M.2.1 pc = .ok (i, len)) (hc : zc1 len a i = true) (I : zIn D sa base M.2.2.1 s H locs lo h ls) (hs : zs1 len a (pc, lo, st, h) = some (.inl y)) (kk : zK p l e R s m args below meth c cells slots Q D sa base M.2.2.1 h y) : W p l e R s m args below meth c H locs cells slots Q (F0 m pc ls (st.map (zv (zad sa base)))) := by
  obtain ⟨hx, hb, hml, hown, hnm, hts, hG, hbs⟩ := C
  simp only [zs1] at hs
  split at hs
  · rename_i x hg
    simp only [zgo, Option.some.injEq, Sum.inl.injEq] at hs
    subst hs
    unfold zc1 at hc
    split at hc
    · simp only [Bool.and_eq_true, decide_eq_true_eq] at hc
      obtain ⟨h1, h2⟩ := hc
      subst h1; subst h2
      exact lv_iload hx hb hd (zlv_get I.1 hg) (kk _ _ _ _ _ I rfl rfl)
    · simp only [Bool.and_eq_true, decide_eq_true_eq] at hc
      obtain ⟨h1, h2⟩ := hc
      subst h1
      exact lv_iload_n hx hb hd h2 (zlv_get I.1 hg) (kk _ _ _ _ _ I rfl rfl)
    · cases hc
  · cases hs
theorem zw_2 (C : zX p s m args meth c M D sa base) (hd : decode M.2.1 pc = .ok (i, len)) (hc : zc2 len a i = true) (I : zIn D sa base M.2.2.1 s H locs lo h ls) (hs : zs2 len a (pc, lo, st, h) = some (.inl y)) (kk : zK p l e R s m args below meth c cells slots Q D sa base M.2.2.1 h y) : W p l e R s m args below meth c H locs cells slots Q (F0 m pc ls (st.map (zv (zad sa base)))) := by
  obtain ⟨hx, hb, hml, hown, hnm, hts, hG, hbs⟩ := C
  simp only [zs2] at hs
  split at hs
  · rename_i x hg
    simp only [zgo, Option.some.injEq, Sum.inl.injEq] at hs
    subst hs
    unfold zc2 at hc
    split at hc
    · simp only [Bool.and_eq_true, decide_eq_true_eq] at hc
      obtain ⟨h1, h2⟩ := hc
      subst h1; subst h2
      exact lv_lload hx hb hd (zlv_get I.1 hg) (kk _ _ _ _ _ I rfl rfl)
    · simp only [Bool.and_eq_true, decide_eq_true_eq] at hc
      obtain ⟨h1, h2⟩ := hc
      subst h1
      exact lv_lload_n hx hb hd h2 (zlv_get I.1 hg) (kk _ _ _ _ _ I rfl rfl)
    · cases hc
  · cases hs
theorem zw_3 (C : zX p s m args meth c M D sa base) (hd : decode M.2.1 pc = .ok (i, len)) (hc : zc3 len a i = true) (I : zIn D sa base M.2.2.1 s H locs lo h ls) (hs : zs3 len a (pc, lo, st, h) = some (.inl y)) (kk : zK p l e R s m args below meth c cells slots Q D sa base M.2.2.1 h y) : W p l e R s m args below meth c H locs cells slots Q (F0 m pc ls (st.map (zv (zad sa base)))) := by
  obtain ⟨hx, hb, hml, hown, hnm, hts, hG, hbs⟩ := C
  simp only [zs3] at hs
  split at hs
  · rename_i x hg
    simp only [zgo, Option.some.injEq, Sum.inl.injEq] at hs
    subst hs
    unfold zc3 at hc
    split at hc
    · simp only [Bool.and_eq_true, decide_eq_true_eq] at hc
      obtain ⟨h1, h2⟩ := hc
      subst h1; subst h2
      exact lv_aload hx hb hd (zlv_get I.1 hg) (kk _ _ _ _ _ I rfl rfl)
    · simp only [Bool.and_eq_true, decide_eq_true_eq] at hc
      obtain ⟨h1, h2⟩ := hc
      subst h1
      exact lv_aload_n hx hb hd h2 (zlv_get I.1 hg) (kk _ _ _ _ _ I rfl rfl)
    · cases hc
  · cases hs
theorem zw_4 (C : zX p s m args meth c M D sa base) (hd : decode M.2.1 pc = .ok (i, len)) (hc : zc4 M.2.2.1 len a i = true) (I : zIn D sa base M.2.2.1 s H locs lo h ls) (hs : zs4 len a (pc, lo, st, h) = some (.inl y)) (kk : zK p l e R s m args below meth c cells slots Q D sa base M.2.2.1 h y) : W p l e R s m args below meth c H locs cells slots Q (F0 m pc ls (st.map (zv (zad sa base)))) := by
  obtain ⟨hx, hb, hml, hown, hnm, hts, hG, hbs⟩ := C
  simp only [zs4] at hs
  split at hs
  · simp only [zgo, Option.some.injEq, Sum.inl.injEq] at hs
    subst hs
    unfold zc4 at hc
    split at hc
    · simp only [Bool.and_eq_true, decide_eq_true_eq] at hc
      obtain ⟨⟨h1, h2⟩, h3⟩ := hc
      subst h1; subst h2
      exact lv_istore hx hb hd I.1 h3 rfl (fun ls' hl => kk _ _ _ _ _ ⟨zst1_lv I.2.1 h3 hl, by rw [zst1_length]; exact I.2.1, I.2.2⟩ rfl rfl)
    · simp only [Bool.and_eq_true, decide_eq_true_eq] at hc
      obtain ⟨⟨h1, h2⟩, h3⟩ := hc
      subst h1
      exact lv_istore_n hx hb hd h2 I.1 h3 rfl (fun ls' hl => kk _ _ _ _ _ ⟨zst1_lv I.2.1 h3 hl, by rw [zst1_length]; exact I.2.1, I.2.2⟩ rfl rfl)
    · cases hc
  · cases hs
theorem zw_5 (C : zX p s m args meth c M D sa base) (hd : decode M.2.1 pc = .ok (i, len)) (hc : zc5 M.2.2.1 len a i = true) (I : zIn D sa base M.2.2.1 s H locs lo h ls) (hs : zs5 len a (pc, lo, st, h) = some (.inl y)) (kk : zK p l e R s m args below meth c cells slots Q D sa base M.2.2.1 h y) : W p l e R s m args below meth c H locs cells slots Q (F0 m pc ls (st.map (zv (zad sa base)))) := by
  obtain ⟨hx, hb, hml, hown, hnm, hts, hG, hbs⟩ := C
  simp only [zs5] at hs
  split at hs
  · simp only [zgo, Option.some.injEq, Sum.inl.injEq] at hs
    subst hs
    unfold zc5 at hc
    split at hc
    · simp only [Bool.and_eq_true, decide_eq_true_eq] at hc
      obtain ⟨⟨h1, h2⟩, h3⟩ := hc
      subst h1; subst h2
      exact lv_lstore hx hb hd I.1 h3 rfl (fun ls' hl => kk _ _ _ _ _ ⟨zst2_lv I.2.1 h3 hl, by rw [zst2_length]; exact I.2.1, I.2.2⟩ rfl rfl)
    · simp only [Bool.and_eq_true, decide_eq_true_eq] at hc
      obtain ⟨⟨h1, h2⟩, h3⟩ := hc
      subst h1
      exact lv_lstore_n hx hb hd h2 I.1 h3 rfl (fun ls' hl => kk _ _ _ _ _ ⟨zst2_lv I.2.1 h3 hl, by rw [zst2_length]; exact I.2.1, I.2.2⟩ rfl rfl)
    · cases hc
  · cases hs
theorem zw_6 (C : zX p s m args meth c M D sa base) (hd : decode M.2.1 pc = .ok (i, len)) (hc : zc6 M.2.2.1 len a i = true) (I : zIn D sa base M.2.2.1 s H locs lo h ls) (hs : zs6 len a (pc, lo, st, h) = some (.inl y)) (kk : zK p l e R s m args below meth c cells slots Q D sa base M.2.2.1 h y) : W p l e R s m args below meth c H locs cells slots Q (F0 m pc ls (st.map (zv (zad sa base)))) := by
  obtain ⟨hx, hb, hml, hown, hnm, hts, hG, hbs⟩ := C
  simp only [zs6] at hs
  split at hs
  · simp only [zgo, Option.some.injEq, Sum.inl.injEq] at hs
    subst hs
    unfold zc6 at hc
    split at hc
    · simp only [Bool.and_eq_true, decide_eq_true_eq] at hc
      obtain ⟨⟨h1, h2⟩, h3⟩ := hc
      subst h1; subst h2
      exact lv_astore hx hb hd I.1 h3 rfl (fun ls' hl => kk _ _ _ _ _ ⟨zst1_lv I.2.1 h3 hl, by rw [zst1_length]; exact I.2.1, I.2.2⟩ rfl rfl)
    · simp only [Bool.and_eq_true, decide_eq_true_eq] at hc
      obtain ⟨⟨h1, h2⟩, h3⟩ := hc
      subst h1
      exact lv_astore_n hx hb hd h2 I.1 h3 rfl (fun ls' hl => kk _ _ _ _ _ ⟨zst1_lv I.2.1 h3 hl, by rw [zst1_length]; exact I.2.1, I.2.2⟩ rfl rfl)
    · cases hc
  · cases hs
theorem zw_7 (C : zX p s m args meth c M D sa base) (hd : decode M.2.1 pc = .ok (i, len)) (hc : zc7 len b i = true) (I : zIn D sa base M.2.2.1 s H locs lo h ls) (hs : zs7 len b (pc, lo, st, h) = some (.inl y)) (kk : zK p l e R s m args below meth c cells slots Q D sa base M.2.2.1 h y) : W p l e R s m args below meth c H locs cells slots Q (F0 m pc ls (st.map (zv (zad sa base)))) := by
  obtain ⟨hx, hb, hml, hown, hnm, hts, hG, hbs⟩ := C
  simp only [zs7] at hs
  split at hs
  · simp only [zgo, Option.some.injEq, Sum.inl.injEq] at hs
    subst hs
    unfold zc7 at hc
    split at hc
    · simp only [Bool.and_eq_true, decide_eq_true_eq] at hc
      obtain ⟨h1, h2⟩ := hc
      subst h1; subst h2
      exact lv_iadd hx hb hd (kk _ _ _ _ _ I rfl rfl)
    · simp only [Bool.and_eq_true, decide_eq_true_eq] at hc
      obtain ⟨h1, h2⟩ := hc
      subst h1; subst h2
      exact lv_isub hx hb hd (kk _ _ _ _ _ I rfl rfl)
    · simp only [Bool.and_eq_true, decide_eq_true_eq] at hc
      obtain ⟨h1, h2⟩ := hc
      subst h1; subst h2
      exact lv_imul hx hb hd (kk _ _ _ _ _ I rfl rfl)
    · simp only [Bool.and_eq_true, decide_eq_true_eq] at hc
      obtain ⟨h1, h2⟩ := hc
      subst h1; subst h2
      exact lv_iand hx hb hd (kk _ _ _ _ _ I rfl rfl)
    · simp only [Bool.and_eq_true, decide_eq_true_eq] at hc
      obtain ⟨h1, h2⟩ := hc
      subst h1; subst h2
      exact lv_ior hx hb hd (kk _ _ _ _ _ I rfl rfl)
    · simp only [Bool.and_eq_true, decide_eq_true_eq] at hc
      obtain ⟨h1, h2⟩ := hc
      subst h1; subst h2
      exact lv_ixor hx hb hd (kk _ _ _ _ _ I rfl rfl)
    · simp only [Bool.and_eq_true, decide_eq_true_eq] at hc
      obtain ⟨h1, h2⟩ := hc
      subst h1; subst h2
      exact lv_ishl hx hb hd (kk _ _ _ _ _ I rfl rfl)
    · simp only [Bool.and_eq_true, decide_eq_true_eq] at hc
      obtain ⟨h1, h2⟩ := hc
      subst h1; subst h2
      exact lv_ishr hx hb hd (kk _ _ _ _ _ I rfl rfl)
    · simp only [Bool.and_eq_true, decide_eq_true_eq] at hc
      obtain ⟨h1, h2⟩ := hc
      subst h1; subst h2
      exact lv_iushr hx hb hd rfl (kk _ _ _ _ _ I rfl rfl)
    · cases hc
  · cases hs
theorem zw_8 (C : zX p s m args meth c M D sa base) (hd : decode M.2.1 pc = .ok (i, len)) (hc : zc8 len b i = true) (I : zIn D sa base M.2.2.1 s H locs lo h ls) (hs : zs8 len b (pc, lo, st, h) = some (.inl y)) (kk : zK p l e R s m args below meth c cells slots Q D sa base M.2.2.1 h y) : W p l e R s m args below meth c H locs cells slots Q (F0 m pc ls (st.map (zv (zad sa base)))) := by
  obtain ⟨hx, hb, hml, hown, hnm, hts, hG, hbs⟩ := C
  simp only [zs8] at hs
  split at hs
  · split at hs
    · cases hs
    · rename_i hy
      simp only [zgo, Option.some.injEq, Sum.inl.injEq] at hs
      subst hs
      unfold zc8 at hc
      split at hc
      · simp only [Bool.and_eq_true, decide_eq_true_eq] at hc
        obtain ⟨h1, h2⟩ := hc
        subst h1; subst h2
        exact lv_idiv hx hb hd hy (kk _ _ _ _ _ I rfl rfl)
      · simp only [Bool.and_eq_true, decide_eq_true_eq] at hc
        obtain ⟨h1, h2⟩ := hc
        subst h1; subst h2
        exact lv_irem hx hb hd hy (kk _ _ _ _ _ I rfl rfl)
      · cases hc
  · cases hs
theorem zw_9 (C : zX p s m args meth c M D sa base) (hd : decode M.2.1 pc = .ok (i, len)) (hc : zc9 len b i = true) (I : zIn D sa base M.2.2.1 s H locs lo h ls) (hs : zs9 len b (pc, lo, st, h) = some (.inl y)) (kk : zK p l e R s m args below meth c cells slots Q D sa base M.2.2.1 h y) : W p l e R s m args below meth c H locs cells slots Q (F0 m pc ls (st.map (zv (zad sa base)))) := by
  obtain ⟨hx, hb, hml, hown, hnm, hts, hG, hbs⟩ := C
  simp only [zs9] at hs
  split at hs
  · simp only [zgo, Option.some.injEq, Sum.inl.injEq] at hs
    subst hs
    unfold zc9 at hc
    split at hc
    · simp only [Bool.and_eq_true, decide_eq_true_eq] at hc
      obtain ⟨h1, h2⟩ := hc
      subst h1; subst h2
      exact lv_ineg hx hb hd (kk _ _ _ _ _ I rfl rfl)
    · simp only [Bool.and_eq_true, decide_eq_true_eq] at hc
      obtain ⟨h1, h2⟩ := hc
      subst h1; subst h2
      exact lv_i2b hx hb hd rfl (kk _ _ _ _ _ I rfl rfl)
    · simp only [Bool.and_eq_true, decide_eq_true_eq] at hc
      obtain ⟨h1, h2⟩ := hc
      subst h1; subst h2
      exact lv_i2s hx hb hd rfl (kk _ _ _ _ _ I rfl rfl)
    · cases hc
  · cases hs
theorem zw_10 (C : zX p s m args meth c M D sa base) (hd : decode M.2.1 pc = .ok (i, len)) (hc : zc10 len i = true) (I : zIn D sa base M.2.2.1 s H locs lo h ls) (hs : zs10 len (pc, lo, st, h) = some (.inl y)) (kk : zK p l e R s m args below meth c cells slots Q D sa base M.2.2.1 h y) : W p l e R s m args below meth c H locs cells slots Q (F0 m pc ls (st.map (zv (zad sa base)))) := by
  obtain ⟨hx, hb, hml, hown, hnm, hts, hG, hbs⟩ := C
  simp only [zs10] at hs
  split at hs
  · simp only [zgo, Option.some.injEq, Sum.inl.injEq] at hs
    subst hs
    unfold zc10 at hc
    split at hc
    · simp only [Bool.and_eq_true, decide_eq_true_eq] at hc
      subst hc
      exact lv_i2l hx hb hd rfl (kk _ _ _ _ _ I rfl rfl)
    · cases hc
  · cases hs
theorem zw_11 (C : zX p s m args meth c M D sa base) (hd : decode M.2.1 pc = .ok (i, len)) (hc : zc11 len i = true) (I : zIn D sa base M.2.2.1 s H locs lo h ls) (hs : zs11 len (pc, lo, st, h) = some (.inl y)) (kk : zK p l e R s m args below meth c cells slots Q D sa base M.2.2.1 h y) : W p l e R s m args below meth c H locs cells slots Q (F0 m pc ls (st.map (zv (zad sa base)))) := by
  obtain ⟨hx, hb, hml, hown, hnm, hts, hG, hbs⟩ := C
  simp only [zs11] at hs
  split at hs
  · simp only [zgo, Option.some.injEq, Sum.inl.injEq] at hs
    subst hs
    unfold zc11 at hc
    split at hc
    · simp only [Bool.and_eq_true, decide_eq_true_eq] at hc
      subst hc
      exact lv_l2i hx hb hd rfl (kk _ _ _ _ _ I rfl rfl)
    · cases hc
  · cases hs
theorem zw_12 (C : zX p s m args meth c M D sa base) (hd : decode M.2.1 pc = .ok (i, len)) (hc : zc12 len b i = true) (I : zIn D sa base M.2.2.1 s H locs lo h ls) (hs : zs12 len b (pc, lo, st, h) = some (.inl y)) (kk : zK p l e R s m args below meth c cells slots Q D sa base M.2.2.1 h y) : W p l e R s m args below meth c H locs cells slots Q (F0 m pc ls (st.map (zv (zad sa base)))) := by
  obtain ⟨hx, hb, hml, hown, hnm, hts, hG, hbs⟩ := C
  simp only [zs12] at hs
  split at hs
  · simp only [zgo, Option.some.injEq, Sum.inl.injEq] at hs
    subst hs
    unfold zc12 at hc
    split at hc
    · simp only [Bool.and_eq_true, decide_eq_true_eq] at hc
      obtain ⟨h1, h2⟩ := hc
      subst h1; subst h2
      exact lv_land hx hb hd (kk _ _ _ _ _ I rfl rfl)
    · simp only [Bool.and_eq_true, decide_eq_true_eq] at hc
      obtain ⟨h1, h2⟩ := hc
      subst h1; subst h2
      exact lv_lor hx hb hd (kk _ _ _ _ _ I rfl rfl)
    · cases hc
  · cases hs
theorem zw_13 (C : zX p s m args meth c M D sa base) (hd : decode M.2.1 pc = .ok (i, len)) (hc : zc13 len i = true) (I : zIn D sa base M.2.2.1 s H locs lo h ls) (hs : zs13 len (pc, lo, st, h) = some (.inl y)) (kk : zK p l e R s m args below meth c cells slots Q D sa base M.2.2.1 h y) : W p l e R s m args below meth c H locs cells slots Q (F0 m pc ls (st.map (zv (zad sa base)))) := by
  obtain ⟨hx, hb, hml, hown, hnm, hts, hG, hbs⟩ := C
  simp only [zs13] at hs
  split at hs
  · simp only [zgo, Option.some.injEq, Sum.inl.injEq] at hs
    subst hs
    unfold zc13 at hc
    split at hc
    · simp only [Bool.and_eq_true, decide_eq_true_eq] at hc
      subst hc
      exact lv_lshl hx hb hd rfl (kk _ _ _ _ _ I rfl rfl)
    · cases hc
  · cases hs
theorem zw_14 (C : zX p s m args meth c M D sa base) (hd : decode M.2.1 pc = .ok (i, len)) (hc : zc14 len i = true) (I : zIn D sa base M.2.2.1 s H locs lo h ls) (hs : zs14 len (pc, lo, st, h) = some (.inl y)) (kk : zK p l e R s m args below meth c cells slots Q D sa base M.2.2.1 h y) : W p l e R s m args below meth c H locs cells slots Q (F0 m pc ls (st.map (zv (zad sa base)))) := by
  obtain ⟨hx, hb, hml, hown, hnm, hts, hG, hbs⟩ := C
  simp only [zs14] at hs
  split at hs
  · simp only [zgo, Option.some.injEq, Sum.inl.injEq] at hs
    subst hs
    unfold zc14 at hc
    split at hc
    · simp only [Bool.and_eq_true, decide_eq_true_eq] at hc
      subst hc
      exact W.lcmp hx hb hd (kk _ _ _ _ _ I rfl rfl)
    · cases hc
  · cases hs
theorem zw_15 (C : zX p s m args meth c M D sa base) (hd : decode M.2.1 pc = .ok (i, len)) (hc : zc15 pc len a b i = true) (I : zIn D sa base M.2.2.1 s H locs lo h ls) (hs : zs15 len a b (pc, lo, st, h) = some (.inl y)) (kk : zK p l e R s m args below meth c cells slots Q D sa base M.2.2.1 h y) : W p l e R s m args below meth c H locs cells slots Q (F0 m pc ls (st.map (zv (zad sa base)))) := by
  obtain ⟨hx, hb, hml, hown, hnm, hts, hG, hbs⟩ := C
  simp only [zs15] at hs
  split at hs
  · simp only [zgo, Option.some.injEq, Sum.inl.injEq] at hs
    subst hs
    unfold zc15 at hc
    split at hc
    · rename_i kd off
      simp only [Bool.and_eq_true, decide_eq_true_eq] at hc
      obtain ⟨⟨h1, h2⟩, h3⟩ := hc
      subst h1; subst h2
      have K : ∀ n' : Nat, zif (zcnd kd) _ a (pc + 3) = n' → W p l e R s m args below meth c H locs cells slots Q (F0 m n' ls (List.map (zv (zad sa base)) _)) := fun n' q => q ▸ kk _ _ _ _ _ I rfl rfl
      cases kd with
      | eq => exact lv_if_eq hx hb hd h3 (fun q => K _ (if_pos q)) (fun q => K _ (if_neg q))
      | ne => exact lv_if_ne hx hb hd h3 (fun q => K _ (if_neg q)) (fun q => K _ (if_pos q))
      | lt => exact lv_if_lt hx hb hd h3 (fun q => K _ (if_pos q)) (fun q => K _ (if_neg q))
      | ge => exact lv_if_ge hx hb hd h3 (fun q => K _ (if_neg (Int32.not_lt.mpr q))) (fun q => K _ (if_pos (Int32.not_le.mp q)))
      | gt => exact lv_if_gt hx hb hd h3 (fun q => K _ (if_pos q)) (fun q => K _ (if_neg q))
      | le => exact lv_if_le hx hb hd h3 (fun q => K _ (if_neg (Int32.not_lt.mpr q))) (fun q => K _ (if_pos (Int32.not_le.mp q)))
    · cases hc
  · cases hs
theorem zw_16 (C : zX p s m args meth c M D sa base) (hd : decode M.2.1 pc = .ok (i, len)) (hc : zc16 pc len a b i = true) (I : zIn D sa base M.2.2.1 s H locs lo h ls) (hs : zs16 len a b (pc, lo, st, h) = some (.inl y)) (kk : zK p l e R s m args below meth c cells slots Q D sa base M.2.2.1 h y) : W p l e R s m args below meth c H locs cells slots Q (F0 m pc ls (st.map (zv (zad sa base)))) := by
  obtain ⟨hx, hb, hml, hown, hnm, hts, hG, hbs⟩ := C
  simp only [zs16] at hs
  split at hs
  · simp only [zgo, Option.some.injEq, Sum.inl.injEq] at hs
    subst hs
    unfold zc16 at hc
    split at hc
    · rename_i kd off
      simp only [Bool.and_eq_true, decide_eq_true_eq] at hc
      obtain ⟨⟨h1, h2⟩, h3⟩ := hc
      subst h1; subst h2
      have K : ∀ n' : Nat, zicmp (zcnd kd) _ _ a (pc + 3) = n' → W p l e R s m args below meth c H locs cells slots Q (F0 m n' ls (List.map (zv (zad sa base)) _)) := fun n' q => q ▸ kk _ _ _ _ _ I rfl rfl
      cases kd with
      | eq => exact lv_icmp_eq hx hb hd h3 (fun q => K _ (if_pos q)) (fun q => K _ (if_neg q))
      | ne => exact lv_icmp_ne hx hb hd h3 (fun q => K _ (if_neg q)) (fun q => K _ (if_pos q))
      | lt => exact lv_icmp_lt hx hb hd h3 (fun q => K _ (if_pos q)) (fun q => K _ (if_neg q))
      | ge => exact lv_icmp_ge hx hb hd h3 (fun q => K _ (if_neg (Int32.not_lt.mpr q))) (fun q => K _ (if_pos (Int32.not_le.mp q)))
      | gt => exact lv_icmp_gt hx hb hd h3 (fun q => K _ (if_pos q)) (fun q => K _ (if_neg q))
      | le => exact lv_icmp_le hx hb hd h3 (fun q => K _ (if_neg (Int32.not_lt.mpr q))) (fun q => K _ (if_pos (Int32.not_le.mp q)))
    · cases hc
  · cases hs
theorem zw_17 (C : zX p s m args meth c M D sa base) (hd : decode M.2.1 pc = .ok (i, len)) (hc : zc17 pc len a i = true) (I : zIn D sa base M.2.2.1 s H locs lo h ls) (hs : zs17 a (pc, lo, st, h) = some (.inl y)) (kk : zK p l e R s m args below meth c cells slots Q D sa base M.2.2.1 h y) : W p l e R s m args below meth c H locs cells slots Q (F0 m pc ls (st.map (zv (zad sa base)))) := by
  obtain ⟨hx, hb, hml, hown, hnm, hts, hG, hbs⟩ := C
  simp only [zs17] at hs
  simp only [zgo, Option.some.injEq, Sum.inl.injEq] at hs
  subst hs
  unfold zc17 at hc
  split at hc
  · simp only [Bool.and_eq_true, decide_eq_true_eq] at hc
    obtain ⟨h1, h2⟩ := hc
    subst h1
    exact lv_goto hx hb hd h2 (kk _ _ _ _ _ I rfl rfl)
  · cases hc
theorem zw_18 (C : zX p s m args meth c M D sa base) (hd : decode M.2.1 pc = .ok (i, len)) (hc : zc18 pc a sw i = true) (I : zIn D sa base M.2.2.1 s H locs lo h ls) (hs : zs18 a sw (pc, lo, st, h) = some (.inl y)) (kk : zK p l e R s m args below meth c cells slots Q D sa base M.2.2.1 h y) : W p l e R s m args below meth c H locs cells slots Q (F0 m pc ls (st.map (zv (zad sa base)))) := by
  obtain ⟨hx, hb, hml, hown, hnm, hts, hG, hbs⟩ := C
  simp only [zs18] at hs
  split at hs
  · rename_i x r
    simp only [zgo, Option.some.injEq, Sum.inl.injEq] at hs
    subst hs
    unfold zc18 at hc
    split at hc
    · rename_i d lw hi offs
      simp only [Bool.and_eq_true, decide_eq_true_eq] at hc
      obtain ⟨⟨h1, h2⟩, h3⟩ := hc
      by_cases hin : x.toInt < lw ∨ hi < x.toInt
      · have q := zrows_out (x := x) (d := a) h3 (by rw [← h2]; exact hin)
        refine lv_tableOut (tgt := a) hx hb hd hin h1 ?_
        have K := kk _ _ _ _ _ I rfl rfl
        simp only [q] at K
        exact K
      · obtain ⟨off, f1, f2⟩ := zrows_in (x := x) (d := a) h3 (fun q => hin (Or.inl q)) (by rw [← h2]; exact fun q => hin (Or.inr q))
        exact lv_tableIn hx hb hd (fun q => hin (Or.inl q)) (fun q => hin (Or.inr q)) (by rw [← Array.getElem?_toList]; exact f1) f2 (kk _ _ _ _ _ I rfl rfl)
    · simp only [Bool.and_eq_true, decide_eq_true_eq] at hc
      obtain ⟨⟨h1, h2⟩, h3⟩ := hc
      exact lv_lookup hx hb hd h2 rfl (zrowl_at h1 h3) (kk _ _ _ _ _ I rfl rfl)
    · cases hc
  · cases hs
theorem zw_19 (C : zX p s m args meth c M D sa base) (hd : decode M.2.1 pc = .ok (i, len)) (hc : zc19 M.2.2.1 len a v i = true) (I : zIn D sa base M.2.2.1 s H locs lo h ls) (hs : zs19 len a v (pc, lo, st, h) = some (.inl y)) (kk : zK p l e R s m args below meth c cells slots Q D sa base M.2.2.1 h y) : W p l e R s m args below meth c H locs cells slots Q (F0 m pc ls (st.map (zv (zad sa base)))) := by
  obtain ⟨hx, hb, hml, hown, hnm, hts, hG, hbs⟩ := C
  simp only [zs19] at hs
  split at hs
  · rename_i x k hg
    simp only [zgo, Option.some.injEq, Sum.inl.injEq] at hs
    subst hs
    unfold zc19 at hc
    split at hc
    · simp only [Bool.and_eq_true, decide_eq_true_eq] at hc
      obtain ⟨⟨⟨h1, h2⟩, h3⟩, h4⟩ := hc
      subst h1; subst h2
      simp only [Value.int.injEq] at h3
      subst h3
      obtain ⟨j, hj⟩ := zlv_idx (ad := zad sa base) hg
      exact lv_iinc hx hb hd I.1 hj rfl h4 rfl (fun ls' hl => kk _ _ _ _ _ ⟨zst1_lv I.2.1 h4 hl, by rw [zst1_length]; exact I.2.1, I.2.2⟩ rfl rfl)
    · cases hc
  · cases hs
theorem zw_39 (C : zX p s m args meth c M D sa base) (hd : decode M.2.1 pc = .ok (i, len)) (hc : zc39 len i = true) (I : zIn D sa base M.2.2.1 s H locs lo h ls) (hs : zs39 len (pc, lo, st, h) = some (.inl y)) (kk : zK p l e R s m args below meth c cells slots Q D sa base M.2.2.1 h y) : W p l e R s m args below meth c H locs cells slots Q (F0 m pc ls (st.map (zv (zad sa base)))) := by
  obtain ⟨hx, hb, hml, hown, hnm, hts, hG, hbs⟩ := C
  simp only [zs39] at hs
  split at hs
  · rename_i v r
    cases hz : zlong v
    · simp only [hz, cond_false, zgo, Option.some.injEq, Sum.inl.injEq] at hs
      subst hs
      unfold zc39 at hc
      split at hc
      · simp only [Bool.and_eq_true, decide_eq_true_eq] at hc
        subst hc
        exact lv_dup hx hb hd (zcat1 hz) (kk _ _ _ _ _ I rfl rfl)
      · cases hc
    · simp [hz] at hs
  · cases hs
theorem zw_40 (C : zX p s m args meth c M D sa base) (hd : decode M.2.1 pc = .ok (i, len)) (hc : zc40 len i = true) (I : zIn D sa base M.2.2.1 s H locs lo h ls) (hs : zs40 len (pc, lo, st, h) = some (.inl y)) (kk : zK p l e R s m args below meth c cells slots Q D sa base M.2.2.1 h y) : W p l e R s m args below meth c H locs cells slots Q (F0 m pc ls (st.map (zv (zad sa base)))) := by
  obtain ⟨hx, hb, hml, hown, hnm, hts, hG, hbs⟩ := C
  simp only [zs40] at hs
  split at hs
  · rename_i v w r
    cases hz : zlong v
    · cases hz2 : zlong w
      · simp only [hz, hz2, Bool.or_self, cond_false, zgo, Option.some.injEq, Sum.inl.injEq] at hs
        subst hs
        unfold zc40 at hc
        split at hc
        · simp only [Bool.and_eq_true, decide_eq_true_eq] at hc
          subst hc
          exact lv_dup_x1 hx hb hd (zcat1 hz) (zcat1 hz2) (kk _ _ _ _ _ I rfl rfl)
        · cases hc
      · simp [hz, hz2] at hs
    · simp [hz] at hs
  · cases hs
theorem zw_41 (C : zX p s m args meth c M D sa base) (hd : decode M.2.1 pc = .ok (i, len)) (hc : zc41 len i = true) (I : zIn D sa base M.2.2.1 s H locs lo h ls) (hs : zs41 len (pc, lo, st, h) = some (.inl y)) (kk : zK p l e R s m args below meth c cells slots Q D sa base M.2.2.1 h y) : W p l e R s m args below meth c H locs cells slots Q (F0 m pc ls (st.map (zv (zad sa base)))) := by
  obtain ⟨hx, hb, hml, hown, hnm, hts, hG, hbs⟩ := C
  simp only [zs41] at hs
  split at hs
  · rename_i v w r
    cases hz : zlong v
    · cases hz2 : zlong w
      · simp only [hz, hz2, Bool.or_self, cond_false, zgo, Option.some.injEq, Sum.inl.injEq] at hs
        subst hs
        unfold zc41 at hc
        split at hc
        · simp only [Bool.and_eq_true, decide_eq_true_eq] at hc
          subst hc
          exact lv_dup2_11 hx hb hd (zcat1 hz) (zcat1 hz2) (kk _ _ _ _ _ I rfl rfl)
        · cases hc
      · simp [hz, hz2] at hs
    · simp [hz] at hs
  · cases hs
theorem zw_42 (C : zX p s m args meth c M D sa base) (hd : decode M.2.1 pc = .ok (i, len)) (hc : zc42 len i = true) (I : zIn D sa base M.2.2.1 s H locs lo h ls) (hs : zs42 len (pc, lo, st, h) = some (.inl y)) (kk : zK p l e R s m args below meth c cells slots Q D sa base M.2.2.1 h y) : W p l e R s m args below meth c H locs cells slots Q (F0 m pc ls (st.map (zv (zad sa base)))) := by
  obtain ⟨hx, hb, hml, hown, hnm, hts, hG, hbs⟩ := C
  simp only [zs42] at hs
  split at hs
  · rename_i v r
    cases hz : zlong v
    · simp only [hz, cond_false, zgo, Option.some.injEq, Sum.inl.injEq] at hs
      subst hs
      unfold zc42 at hc
      split at hc
      · simp only [Bool.and_eq_true, decide_eq_true_eq] at hc
        subst hc
        exact lv_pop hx hb hd (zcat1 hz) (kk _ _ _ _ _ I rfl rfl)
      · cases hc
    · simp [hz] at hs
  · cases hs
theorem zw_43 (C : zX p s m args meth c M D sa base) (hd : decode M.2.1 pc = .ok (i, len)) (hc : zc43 M.1.cls len a k3 sw i = true) (I : zIn D sa base M.2.2.1 s H locs lo h ls) (hs : zs43 len a (pc, lo, st, h) = some (.inl y)) (kk : zK p l e R s m args below meth c cells slots Q D sa base M.2.2.1 h y) : W p l e R s m args below meth c H locs cells slots Q (F0 m pc ls (st.map (zv (zad sa base)))) := by
  obtain ⟨hx, hb, hml, hown, hnm, hts, hG, hbs⟩ := C
  simp only [zs43] at hs
  simp only [zgo, Option.some.injEq, Sum.inl.injEq] at hs
  subst hs
  unfold zc43 at hc
  split at hc
  · rw [Bool.and_eq_true, Bool.and_eq_true, Bool.and_eq_true, decide_eq_true_eq, decide_eq_true_eq, decide_eq_true_eq] at hc
    obtain ⟨⟨⟨h1, h2⟩, h3⟩, h4⟩ := hc
    subst h1
    have ea : zad sa base a = sa a := if_pos (by omega)
    have K := kk _ _ _ _ _ I rfl rfl
    have K : W p l e R s m args below meth c H locs cells slots Q (F0 m (pc + 3) ls (.ref (sa a) :: st.map (zv (zad sa base)))) := by rw [← ea]; exact K
    split at h4
    · exact va_gets hx hb (hG.2.2.2 a h2 h3) I.2.2.2 hown (hts _ (zw_in h4)) (fun x q => q) hd K
    · rw [decide_eq_true_eq] at h4
      exact va_getsN hx hb (hG.2.2.2 a h2 h3) I.2.2.2 hown (va_Nw.use rfl (hG.2.1 _ (zget_mem h4))) (fun x q => q) hd K
    · cases h4
  · cases hc
theorem zw_44 (C : zX p s m args meth c M D sa base) (hd : decode M.2.1 pc = .ok (i, len)) (hc : zc44 len i = true) (I : zIn D sa base M.2.2.1 s H locs lo h ls) (hs : zs44 len (pc, lo, st, h) = some (.inl y)) (kk : zK p l e R s m args below meth c cells slots Q D sa base M.2.2.1 h y) : W p l e R s m args below meth c H locs cells slots Q (F0 m pc ls (st.map (zv (zad sa base)))) := by
  obtain ⟨hx, hb, hml, hown, hnm, hts, hG, hbs⟩ := C
  simp only [zs44] at hs
  split at hs
  · rename_i v r
    cases hz : zlong v
    · simp [hz] at hs
    · simp only [hz, cond_true, zgo, Option.some.injEq, Sum.inl.injEq] at hs
      subst hs
      unfold zc44 at hc
      split at hc
      · simp only [Bool.and_eq_true, decide_eq_true_eq] at hc
        subst hc
        exact lv_pop2_2 hx hb hd (by rw [zv_cat]; exact (zlong_cat _).mp hz) (kk _ _ _ _ _ I rfl rfl)
      · cases hc
  · cases hs
end ZW
/-! WHAT THE HEAP HOLDS: kept, changed at one cell, grown by one, seen from another state; the classes' own facts. -/
theorem zget_el {α : Type} : ∀ (l : List α) (i : Nat), zget l i = l[i]?
  | [], _ => rfl
  | _ :: _, 0 => rfl
  | _ :: l, i + 1 => (zget_el l i).trans (by simp)
theorem zcl_el {c : Nat} {q : vw_C} (h : zget vwCl c = some q) : vwCl[c]? = some q := (zget_el _ _).symm.trans h
/-- a class of the table by its number -/
theorem zcl_by {P : Nat → vw_C → Prop} (h0 : P 0 (RX0, TX0, 6)) (h1 : P 1 (RX1, TX1, 6)) (h2 : P 2 (RX2, TX2, 11)) (h3 : P 3 (RX3, TX3, 7)) (h4 : P 4 (RX4, TX4, 4)) (h5 : P 5 (RX5, TX5, 4)) (h6 : P 6 (RX6, TX6, 3)) (h7 : P 7 (RX7, TX7, 5)) (h8 : P 8 (RX8, TX8, 5)) (h9 : P 9 (RX9, TX9, 7)) (h10 : P 10 (RX10, TX10, 5)) (h11 : P 11 (RX11, TX11, 14)) (h12 : P 12 (RX12, TX12, 49)) {c : Nat} {q : vw_C} (h : zget vwCl c = some q) : P c q := by
  match c, h with
  | 0, h => cases h; exact h0
  | 1, h => cases h; exact h1
  | 2, h => cases h; exact h2
  | 3, h => cases h; exact h3
  | 4, h => cases h; exact h4
  | 5, h => cases h; exact h5
  | 6, h => cases h; exact h6
  | 7, h => cases h; exact h7
  | 8, h => cases h; exact h8
  | 9, h => cases h; exact h9
  | 10, h => cases h; exact h10
  | 11, h => cases h; exact h11
  | 12, h => cases h; exact h12
  | _ + 13, h => cases h
theorem zcl_in {c : Nat} {q : vw_C} (h : zget vwCl c = some q) : ∀ w ∈ u_ws q.1 q.2.1 q.2.2, w ∈ zWall :=
  zcl_by (P := fun _ q => ∀ w ∈ u_ws q.1 q.2.1 q.2.2, w ∈ zWall) zin_0 zin_1 zin_2 zin_3 zin_4 zin_5 zin_6 zin_7 zin_8 zin_9 zin_10 zin_11 zin_12 h
theorem zcl_nm {c : Nat} {q : vw_C} (h : zget vwCl c = some q) : ∀ a, a < q.2.2 → ∀ b, b < q.2.2 → a ≠ b → (q.2.1 a).2.1 ≠ (q.2.1 b).2.1 :=
  zcl_by (P := fun _ q => ∀ a, a < q.2.2 → ∀ b, b < q.2.2 → a ≠ b → (q.2.1 a).2.1 ≠ (q.2.1 b).2.1) nmX0 nmX1 nmX2 nmX3 nmX4 nmX5 nmX6 nmX7 nmX8 nmX9 nmX10 nmX11 nmX12 h
theorem zcl_ty {c : Nat} {q : vw_C} (h : zget vwCl c = some q) : ∃ ty : Nat → FieldType, (∀ k, k < q.2.2 → parseFieldDescriptor (q.2.1 k).2.2.1 = some (ty k)) ∧ ∀ k, k < q.2.2 → defaultValue (ty k) = bif zft c k then .null else .int 0 :=
  zcl_by (P := fun c q => ∃ ty : Nat → FieldType, (∀ k, k < q.2.2 → parseFieldDescriptor (q.2.1 k).2.2.1 = some (ty k)) ∧ ∀ k, k < q.2.2 → defaultValue (ty k) = bif zft c k then .null else .int 0)
    ⟨tyX0, tyX0_ok, by decide +kernel⟩ ⟨tyX1, tyX1_ok, by decide +kernel⟩ ⟨tyX2, tyX2_ok, by decide +kernel⟩ ⟨tyX3, tyX3_ok, by decide +kernel⟩ ⟨tyX4, tyX4_ok, by decide +kernel⟩ ⟨tyX5, tyX5_ok, by decide +kernel⟩ ⟨tyX6, tyX6_ok, by decide +kernel⟩ ⟨tyX7, tyX7_ok, by decide +kernel⟩ ⟨tyX8, tyX8_ok, by decide +kernel⟩ ⟨tyX9, tyX9_ok, by decide +kernel⟩ ⟨tyX10, tyX10_ok, by decide +kernel⟩ ⟨tyX11, tyX11_ok, by decide +kernel⟩ ⟨tyX12, tyX12_ok, by decide +kernel⟩ h
theorem zcl_own {c : Nat} {q : vw_C} (h : zget vwCl c = some q) : ∀ k, k < q.2.2 → (q.2.1 k).1 = q.1 :=
  zcl_by (P := fun _ q => ∀ k, k < q.2.2 → (q.2.1 k).1 = q.1) (by decide +kernel) (by decide +kernel) (by decide +kernel) (by decide +kernel) (by decide +kernel) (by decide +kernel) (by decide +kernel) (by decide +kernel) (by decide +kernel) (by decide +kernel) (by decide +kernel) (by decide +kernel) (by decide +kernel) h
theorem zv_rf (ad : Nat → Nat) (r : Option Nat) : zv ad (va_rf r) = va_rf (r.map ad) := by cases r <;> rfl
theorem zad_lo {sa : Nat → Nat} {base k : Nat} (h : k < 6) : zad sa base k = sa k := if_pos h
theorem zad_hi {sa : Nat → Nat} {base k : Nat} (h : 6 ≤ k) : zad sa base k = base + (k - 6) := if_neg (by omega)
section ZR
variable {D : va_G} {ad : Nat → Nat} {A : Nat → Prop} {U U1 : State} {H H1 : Heap} {h h1 : zH} {k n t : Nat} {sa : Nat → Nat} {base : Nat}
theorem zcell_ob (ht : 10 ≤ t) : zcell D ad A U H h k n t = ∃ q : vw_C, 10 ≤ t ∧ zget vwCl (t - 10) = some q ∧ q.2.2 = n ∧ t_OB (ad k) (D.1 (t - 10)) n (D.2 (t - 10)) H (zfv ad h k (t - 10)) := by
  obtain ⟨u, rfl⟩ : ∃ u, t = u + 6 := ⟨t - 6, by omega⟩
  rfl
theorem zfv_eq {c : Nat} (e1 : h1.2.1 k = h.2.1 k) (e3 : h1.2.2.2 k = h.2.2.2 k) : zfv ad h1 k c = zfv ad h k c := by
  funext j
  unfold zfv
  rw [e1, e3]
theorem zcell_kept (q : zcell D ad A U H h k n t) (hq : H1[ad k]? = H[ad k]?) (e1 : h1.2.1 k = h.2.1 k) (e2 : h1.2.2.1 k = h.2.2.1 k) (e3 : h1.2.2.2 k = h.2.2.2 k) : zcell D ad A U H1 h1 k n t := by
  match t, q with
  | 0, q =>
    obtain ⟨cA, a1, a2⟩ := q
    exact ⟨cA, by rw [hq, e1]; exact a1, a2⟩
  | 1, q =>
    obtain ⟨cA, a1, a2⟩ := q
    exact ⟨cA, by rw [hq, e2]; exact a1, a2⟩
  | 2, q =>
    obtain ⟨cA, a1, a2⟩ := q
    exact ⟨cA, by rw [hq, e3]; exact a1, a2⟩
  | 3, q =>
    obtain ⟨cA, a1, a2⟩ := q
    exact ⟨cA, by rw [hq, e3]; exact a1, a2⟩
  | 4, q =>
    obtain ⟨cA, a1, a2⟩ := q
    exact ⟨cA, by rw [hq, e3]; exact a1, a2⟩
  | 5, q =>
    obtain ⟨cell, a1, a2⟩ := q
    exact ⟨cell, by rw [hq]; exact a1, by rw [e1]; exact a2⟩
  | t + 6, q =>
    obtain ⟨x, a1, a2, a3, a4⟩ := q
    exact ⟨x, a1, a2, a3, by rw [zfv_eq e1 e3]; exact a4.kept hq⟩
theorem zcell_lt (q : zcell D ad A U H h k n t) : ad k < H.size := by
  match t, q with
  | 0, q =>
    obtain ⟨cA, a1, a2⟩ := q
    exact (Array.getElem?_eq_some_iff.mp a1).1
  | 1, q =>
    obtain ⟨cA, a1, a2⟩ := q
    exact (Array.getElem?_eq_some_iff.mp a1).1
  | 2, q =>
    obtain ⟨cA, a1, a2⟩ := q
    exact (Array.getElem?_eq_some_iff.mp a1).1
  | 3, q =>
    obtain ⟨cA, a1, a2⟩ := q
    exact (Array.getElem?_eq_some_iff.mp a1).1
  | 4, q =>
    obtain ⟨cA, a1, a2⟩ := q
    exact (Array.getElem?_eq_some_iff.mp a1).1
  | 5, q =>
    obtain ⟨cell, a1, a2⟩ := q
    exact (Array.getElem?_eq_some_iff.mp a1).1
  | t + 6, q =>
    obtain ⟨x, a1, a2, a3, cell, a4, a5⟩ := q
    exact (Array.getElem?_eq_some_iff.mp a4).1
theorem zcell_moved (hvm : U.vm.Alike U1.vm) (q : zcell D ad A U H h k n t) : zcell D ad A U1 H h k n t := by
  match t, q with
  | 0, q =>
    obtain ⟨cA, a1, a2⟩ := q
    exact ⟨cA, a1, arrOfT_moved hvm a2⟩
  | 1, q =>
    obtain ⟨cA, a1, a2⟩ := q
    exact ⟨cA, a1, arrOfT_moved hvm a2⟩
  | 2, q =>
    obtain ⟨cA, a1, a2, a3⟩ := q
    exact ⟨cA, a1, arrOfT_moved hvm a2, a3.moved hvm⟩
  | 3, q =>
    obtain ⟨cA, a1, a2, a3⟩ := q
    exact ⟨cA, a1, arrOfT_moved hvm a2, a3.moved hvm⟩
  | 4, q =>
    obtain ⟨cA, a1, a2, a3⟩ := q
    exact ⟨cA, a1, arrOfT_moved hvm a2, a3.moved hvm⟩
  | 5, q => exact va_T.moved hvm q
  | t + 6, q => exact q
theorem zRep_moved (hvm : U.vm.Alike U1.vm) (r : zRep D sa base U H h) : zRep D sa base U1 H h :=
  ⟨r.1, r.2.1, fun k t n hk => zcell_moved hvm (r.2.2.1 k t n hk), r.2.2.2⟩
theorem zRep_hi (r : zRep D sa base U H h) {o : Nat} (ho : zget h.1 o = some (t, n)) (ht : t ≠ 5) : 6 ≤ o := by
  rcases Nat.lt_or_ge o 6 with q | q
  · exact absurd ((r.2.2.2.1 _ _ _ ho).mp q) ht
  · exact q
theorem zRep_A (r : zRep D sa base U H h) {o : Nat} (ho : zget h.1 o = some (t, n)) (ht : t ≠ 5) : zA base (zad sa base o) := by
  rw [zad_hi (zRep_hi r ho ht)]
  exact Nat.le_add_right _ _
theorem zRep_set (r : zRep D sa base U H h) {o : Nat} (ho : zget h.1 o = some (t, n)) (ht : t ≠ 5) (z : H1.size = H.size) (oq : ∀ q : Nat, q ≠ zad sa base o → H1[q]? = H[q]?) (e0 : h1.1 = h.1) (e1 : ∀ k, k ≠ o → h1.2.1 k = h.2.1 k) (e2 : ∀ k, k ≠ o → h1.2.2.1 k = h.2.2.1 k) (e3 : ∀ k, k ≠ o → h1.2.2.2 k = h.2.2.2 k)
    (hc : zcell D (zad sa base) (zA base) U H1 h1 o n t) : zRep D sa base U H1 h1 := by
  have o6 := zRep_hi r ho ht
  obtain ⟨r1, r2, r3, r4, r5⟩ := r
  refine ⟨by rw [z, e0]; exact r1, by rw [e0]; exact r2, fun k t' n' hk => ?_, by rw [e0]; exact r4, by rw [e0]; exact r5⟩
  rw [e0] at hk
  by_cases hko : k = o
  · subst hko
    rw [ho] at hk
    cases hk
    exact hc
  · refine zcell_kept (r3 k t' n' hk) (oq _ ?_) (e1 k hko) (e2 k hko) (e3 k hko)
    rw [zad_hi o6]
    rcases Nat.lt_or_ge k 6 with q | q
    · have e5 : t' = 5 := (r4 _ _ _ hk).mp q
      subst e5
      have hout : ¬ base ≤ zad sa base k := va_T.out (r3 k 5 n' hk)
      omega
    · rw [zad_hi q]
      omega
theorem zRep_new (r : zRep D sa base U H h) (ht : t ≠ 5) (hn : n < 2 ^ 31) (z : H1.size = H.size + 1) (oq : ∀ q : Nat, q < H.size → H1[q]? = H[q]?) (hc : zcell D (zad sa base) (zA base) U H1 (znew h t n) h.1.length n t) : zRep D sa base U H1 (znew h t n) := by
  obtain ⟨r1, r2, r3, r4, r5⟩ := r
  have hl : (znew h t n).1.length = h.1.length + 1 := by simp [znew]
  refine ⟨by rw [z, hl]; omega, by rw [hl]; omega, fun k t' n' hk => ?_, fun k t' n' hk => ?_, fun k t' n' hk => ?_⟩
  · rcases zget_new _ _ _ _ hk with q | ⟨q, e⟩
    · have hne : k ≠ h.1.length := Nat.ne_of_lt (zget_lt q)
      refine zcell_kept (r3 k t' n' q) (oq _ (zcell_lt (r3 k t' n' q))) (zrow_ne hne) (zrow_ne hne) (zrow_ne hne)
    · subst q
      cases e
      exact hc
  · rcases zget_new _ _ _ _ hk with q | ⟨q, e⟩
    · exact r4 k t' n' q
    · subst q
      cases e
      exact ⟨fun x => by omega, fun x => absurd x ht⟩
  · rcases zget_new _ _ _ _ hk with q | ⟨q, e⟩
    · exact r5 k t' n' q
    · subst q
      cases e
      exact hn
theorem zad_new (r : zRep D sa base U H h) : zad sa base h.1.length = H.size := by
  obtain ⟨r1, r2, -⟩ := r
  rw [zad_hi r2]
  omega
theorem zob (r : zRep D sa base U H h) {o a : Nat} (ho : zget h.1 o = some (10 + a, n)) : ∃ q : vw_C, zget vwCl a = some q ∧ q.2.2 = n ∧ t_OB (zad sa base o) (D.1 a) n (D.2 a) H (zfv (zad sa base) h o a) := by
  have q := r.2.2.1 _ _ _ ho
  rw [zcell_ob (by omega)] at q
  obtain ⟨x, -, a2, a3, a4⟩ := q
  rw [show 10 + a - 10 = a by omega] at a2 a4
  exact ⟨x, a2, a3, a4⟩
theorem zcell_of {o a : Nat} {q : vw_C} (h1 : zget vwCl a = some q) (h2 : q.2.2 = n) (h3 : t_OB (ad o) (D.1 a) n (D.2 a) H (zfv ad h o a)) : zcell D ad A U H h o n (10 + a) := by
  rw [zcell_ob (by omega)]
  rw [show 10 + a - 10 = a by omega]
  exact ⟨q, by omega, h1, h2, h3⟩
end ZR
theorem zN_nest : ∀ w ∈ zN, (∃ a i b n d h, w = .fieldLinkNest a i b n d h) ∨ ∃ a i x h, w = .methodLinkNest a i x h := by
  have h : zN.all (fun w => match w with | .fieldLinkNest .. => true | .methodLinkNest .. => true | _ => false) = true := by decide +kernel
  intro w hw
  have q := List.all_eq_true.mp h w hw
  split at q
  · exact Or.inl ⟨_, _, _, _, _, _, rfl⟩
  · exact Or.inr ⟨_, _, _, _, rfl⟩
  · cases q
theorem zG_warm {D : va_G} {sa : Nat → Nat} {base : Nat} {s U : State} {H : Heap} (hW : s.WarmedH U.vm) (hS : ∀ q : Nat, q < s.heap.size → ¬ base ≤ q → H[q]? = s.heap[q]?) (g : zG D sa base s s.heap) : zG D sa base U H := by
  refine ⟨va_K.moved hW.alike g.1, fun w hw => ?_, fun t h1 h2 => (g.2.2.1 t h1 h2).moved hW.alike, fun a h1 h2 => ((g.2.2.2 a h1 h2).moved hW.alike).kept hS⟩
  rcases zN_nest w hw with ⟨_, _, _, _, _, _, rfl⟩ | ⟨_, _, _, _, rfl⟩
  · exact va_Nw.warmF hW (g.2.1 _ hw)
  · exact va_Nw.warmM hW (g.2.1 _ hw)
theorem zG_same {D : va_G} {sa : Nat → Nat} {base : Nat} {s U : State} {H : Heap} (hvm : s.vm = U.vm) (g : zG D sa base s H) : zG D sa base U H := by
  have ha : s.vm.Alike U.vm := hvm ▸ Vm.Alike.refl s.vm
  refine ⟨va_K.moved ha g.1, fun w hw => ?_, fun t h1 h2 => (g.2.2.1 t h1 h2).moved ha, fun a h1 h2 => (g.2.2.2 a h1 h2).moved ha⟩
  exact va_Nw.same (List.all_eq_true.mp zN_tabs w hw) hvm (g.2.1 w hw)
/-! INSTRUCTIONS THAT READ AND WRITE CELLS. -/
section ZC
variable {p : Program} {l : Launch} {e : Env} {R : Room} {s : State} {m : MethodId} {args : Array Value} {below : List Frame} {meth : Method} {c : Code} {H : Heap} {locs : List Loc} {cells slots : Nat} {Q : State → Prop}
variable {M : zM} {D : va_G} {sa : Nat → Nat} {base : Nat} {pc len a b k3 : Nat} {v : Value} {sw : List (Int32 × Nat)} {i : Instr} {lo : List (Option Value)} {st : List Value} {h : zH} {ls : Array Slot} {y : zC}
theorem zw_20 (C : zX p s m args meth c M D sa base) (hd : decode M.2.1 pc = .ok (i, len)) (hc : zc20 M.1.cls len a b k3 sw i = true) (I : zIn D sa base M.2.2.1 s H locs lo h ls) (hs : zs20 len a b k3 (pc, lo, st, h) = some (.inl y)) (kk : zK p l e R s m args below meth c cells slots Q D sa base M.2.2.1 h y) : W p l e R s m args below meth c H locs cells slots Q (F0 m pc ls (st.map (zv (zad sa base)))) := by
  obtain ⟨hx, hb, hml, hown, hnm, hts, hG, hbs⟩ := C
  simp only [zs20] at hs
  split at hs
  · rename_i o r
    split at hs
    · rename_i t n ho
      cases hq : (Nat.beq t (10 + a) && Nat.blt b n)
      · simp [hq] at hs
      · simp only [hq, cond_true, zgo, Option.some.injEq, Sum.inl.injEq] at hs
        subst hs
        simp only [Bool.and_eq_true, Nat.beq_eq] at hq
        obtain ⟨ht, hbn⟩ := hq
        subst ht
        obtain ⟨q, q1, q2, cell, g1, g2, g3, g4⟩ := zob I.2.2.1 ho
        unfold zc20 at hc
        split at hc
        · rename_i k
          rw [Bool.and_eq_true, decide_eq_true_eq] at hc
          obtain ⟨h1, h2⟩ := hc
          subst h1
          rw [q1] at h2
          simp only [Bool.and_eq_true, decide_eq_true_eq] at h2
          obtain ⟨⟨h3, h4⟩, h5⟩ := h2
          obtain ⟨hS, hfc, kC, hkC, hkind⟩ := hG.1.1 a q (zcl_el q1)
          obtain ⟨cf, kf, fi, f, hi, hsl⟩ := hS b h3
          have hi2 := hi
          rw [zcl_own q1 b h3] at hi2
          refine W.getf hx hb hown (hts _ (zw_in h4)) hi2 (u_facts hfc hkC (u_lays hts (zcl_in q1) h3) hi).1 g1 (by rw [g3]; exact fun h => by cases h) (by rw [hsl]; exact g4 b (by omega)) rfl rfl hd ?_
          cases k3 with
          | zero =>
            have h5 : (!zft a b) = true := h5
            rw [Bool.not_eq_true'] at h5
            have e5 : zfv (zad sa base) h o a b = zv (zad sa base) (.int (h.2.1 o b)) := by unfold zfv; rw [h5]; rfl
            rw [e5]
            exact kk _ _ _ _ _ I rfl rfl
          | succ k4 =>
            cases k4 with
            | zero =>
              have h5 : zft a b = true := h5
              have e5 : zfv (zad sa base) h o a b = zv (zad sa base) (va_rf (h.2.2.2 o b)) := by unfold zfv; rw [h5, zv_rf]; rfl
              rw [e5]
              exact kk _ _ _ _ _ I rfl rfl
            | succ k5 =>
              have h5 : (!zft a b) = true := h5
              rw [Bool.not_eq_true'] at h5
              have e5 : zfv (zad sa base) h o a b = zv (zad sa base) (.int (h.2.1 o b)) := by unfold zfv; rw [h5]; rfl
              rw [e5]
              exact kk _ _ _ _ _ I rfl rfl
        · cases hc
    · cases hs
  · cases hs
/-- a field is written -/
theorem zput_W (C : zX p s m args meth c M D sa base) {k o' : Nat} (hd : decode M.2.1 pc = .ok (.putfield k, 3)) {q : vw_C} (q1 : zget vwCl a = some q) (h3 : b < q.2.2) (h4 : zis (zp sw 0) (.fieldLink M.1.cls k q.1 (q.2.1 b).2.1 (q.2.1 b).2.2.1) = true) (hfin : (!(q.2.1 b).2.2.2 || (decide (M.1.name = "<init>") && decide ((q.2.1 b).1 = M.1.cls))) = true)
    {ty : FieldType} (hty : parseFieldDescriptor (q.2.1 b).2.2.1 = some ty) (hn : narrow ty v = v) (hfit : fits ty v = true) {V : Nat → Value} (hob : t_OB o' (D.1 a) q.2.2 (D.2 a) H V) {rest : List Value}
    (kk : ∀ (H' : Heap) (j : Nat), t_OB o' (D.1 a) q.2.2 (D.2 a) H' (updV V b v) → H'.size = H.size → (∀ x : Nat, x ≠ o' → H'[x]? = H[x]?) → W p l e R s m args below meth c H' (locs ++ [⟨o', j⟩]) cells slots Q (F0 m (pc + 3) ls rest)) : W p l e R s m args below meth c H locs cells slots Q (F0 m pc ls (v :: .ref o' :: rest)) := by
  obtain ⟨hx, hb, hml, hown, hnm, hts, hG, hbs⟩ := C
  obtain ⟨ty0, hty0, -⟩ := zcl_ty q1
  have hap := va_apart (own := M.1.cls) hts (zcl_in q1) ty0 hty0 (zcl_nm q1) hG.1 (zcl_el q1)
  obtain ⟨cell, g1, g2, g3, g4⟩ := hob
  obtain ⟨hS, hfc, kC, hkC, hkind⟩ := hG.1.1 a q (zcl_el q1)
  obtain ⟨cf, kf, fi, f, hi, hsl⟩ := hS b h3
  have hi2 := hi
  rw [zcl_own q1 b h3] at hi2
  have hst := (u_facts hfc hkC (u_lays hts (zcl_in q1) h3) hi).1
  have hlay := hts _ (zcl_in q1 _ (u_in_lay h3))
  unfold u_lay at hlay
  by_cases hf : (q.2.1 b).2.2.2 = true
  · rw [if_pos hf] at hlay
    rw [hf] at hfin
    simp only [Bool.not_true, Bool.false_or, Bool.and_eq_true, decide_eq_true_eq] at hfin
    have hcf : m.cls = cf := by
      obtain ⟨_, _, c', _, _, _, -, -, hf', -, -, -, hown2, -⟩ := Cond.laysFinal_spec hlay
      have e1 : c' = cf := by have := hi.symm.trans hf'; simp at this; exact this.1.symm
      rw [hfin.2] at hown2
      rw [← e1]; exact Option.some.inj (hown.symm.trans hown2)
    have h6 := u_fits hfc hkC hkind (Or.inr hlay) hi hty hn hfit
    refine W.putFinK hx hb hown (hts _ (zw_in h4)) hi2 hst hcf (hnm hfin.1) (by rw [g2]; exact h6) g1 g3 (by rw [hsl]; exact k2_hasslot (g4 b h3)) rfl rfl hd fun H' e1 e2 e3 => ?_
    rw [hsl] at e1 ⊢
    exact kk H' _ ⟨_, e1, g2, g3, t_set g4 hap h3 v⟩ e2 e3
  · rw [if_neg hf] at hlay
    have h6 := u_store hfc hkC hkind hlay hi hty hn hfit
    refine W.putK hx hb (f := f) ⟨hown, hts _ (zw_in h4), ⟨_, _, _, hi2⟩, hst⟩ (by rw [g2]; exact h6) g1 g3 (by rw [hsl]; exact k2_hasslot (g4 b h3)) rfl rfl hd fun H' e1 e2 e3 => ?_
    rw [hsl] at e1 ⊢
    exact kk H' _ ⟨_, e1, g2, g3, t_set g4 hap h3 v⟩ e2 e3
theorem zS_put {H1 : Heap} {o' j : Nat} (hS : va_S (zA base) s.heap H locs) (z : H1.size = H.size) (oq : ∀ q : Nat, q ≠ o' → H1[q]? = H[q]?) (ho : zA base o') : va_S (zA base) s.heap H1 (locs ++ [⟨o', j⟩]) := hS.put z oq ho
theorem zw_21 (C : zX p s m args meth c M D sa base) (hd : decode M.2.1 pc = .ok (i, len)) (hc : zc21 M.1 len a b k3 sw i = true) (I : zIn D sa base M.2.2.1 s H locs lo h ls) (hs : zs21 len a b k3 (pc, lo, st, h) = some (.inl y)) (kk : zK p l e R s m args below meth c cells slots Q D sa base M.2.2.1 h y) : W p l e R s m args below meth c H locs cells slots Q (F0 m pc ls (st.map (zv (zad sa base)))) := by
  unfold zc21 at hc
  split at hc
  · rename_i k
    rw [Bool.and_eq_true, decide_eq_true_eq] at hc
    obtain ⟨h1, h2⟩ := hc
    subst h1
    simp only [zs21] at hs
    split at hs
    · rename_i x o r
      split at hs
      · rename_i t n ho
        cases hq : (Nat.beq t (10 + a) && Nat.blt b n)
        · simp [hq] at hs
        · simp only [hq, cond_true] at hs
          simp only [Bool.and_eq_true, Nat.beq_eq] at hq
          obtain ⟨ht, hbn⟩ := hq
          subst ht
          obtain ⟨q, q1, q2, hob⟩ := zob I.2.2.1 ho
          subst q2
          rw [q1] at h2
          simp only [Bool.and_eq_true, decide_eq_true_eq] at h2
          obtain ⟨⟨⟨⟨h3, h4⟩, h5⟩, h6⟩, h7⟩ := h2
          have ne : ¬ (10 + a = 5) := by omega
          have goal : ∀ ty, parseFieldDescriptor (q.2.1 b).2.2.1 = some ty → narrow ty (.int x) = .int x → fits ty (.int x) = true → zft a b = false → y = (pc + 3, lo, r, (h.1, zup h.2.1 o b x, h.2.2.1, h.2.2.2)) → W p l e R s m args below meth c H locs cells slots Q (F0 m pc ls (.int x :: .ref (zad sa base o) :: r.map (zv (zad sa base)))) := by
            intro ty p1 p2 p3 p4 p5
            subst p5
            refine zput_W C hd q1 h3 h4 h7 p1 p2 p3 hob (fun H' j f1 f2 f3 => ?_)
            refine kk _ _ _ _ _ ⟨I.1, I.2.1, zRep_set I.2.2.1 ho ne f2 f3 rfl (fun z hz => zup_row hz) (fun _ _ => rfl) (fun _ _ => rfl) (zcell_of q1 rfl (f1.to fun z hz => ?_)), I.2.2.2.put f2 f3 (zRep_A I.2.2.1 ho ne)⟩ rfl rfl
            unfold updV zfv
            by_cases hz2 : z = b
            · subst hz2
              rw [if_pos rfl, p4]
              dsimp only [cond_false]
              rw [zsame_up]
            · rw [if_neg hz2]
              cases zft a z
              · dsimp only [cond_false]
                rw [zne_up (fun w => hz2 w.2)]
              · rfl
          split at hs
          · simp only [zgo, Option.some.injEq, Sum.inl.injEq] at hs
            unfold zfty at h5
            split at h5
            · rename_i _ _ p1
              exact goal _ p1 rfl rfl (by simpa using h6) hs.symm
            · rename_i hk _; cases hk
            · rename_i hk _; cases hk
            · rename_i hk _; cases hk
            · cases h5
          · split at hs
            · rename_i hx2
              simp only [zgo, Option.some.injEq, Sum.inl.injEq] at hs
              unfold zfty at h5
              split at h5
              · rename_i hk _; cases hk
              · rename_i _ _ p1
                exact goal _ p1 (by rcases hx2 with rfl | rfl <;> rfl) (by rcases hx2 with rfl | rfl <;> rfl) (by simpa using h6) hs.symm
              · rename_i hk _; cases hk
              · rename_i hk _; cases hk
              · cases h5
            · cases hs
          · cases hs
      · cases hs
    · rename_i w o r
      split at hs
      · rename_i t n ho
        cases hq : (Nat.beq t (10 + a) && Nat.blt b n)
        · simp [hq] at hs
        · simp only [hq, cond_true] at hs
          simp only [Bool.and_eq_true, Nat.beq_eq] at hq
          obtain ⟨ht, hbn⟩ := hq
          subst ht
          obtain ⟨q, q1, q2, hob⟩ := zob I.2.2.1 ho
          subst q2
          rw [q1] at h2
          simp only [Bool.and_eq_true, decide_eq_true_eq] at h2
          obtain ⟨⟨⟨⟨h3, h4⟩, h5⟩, h6⟩, h7⟩ := h2
          have ne : ¬ (10 + a = 5) := by omega
          have goal : ∀ ty, parseFieldDescriptor (q.2.1 b).2.2.1 = some ty → narrow ty (.ref (zad sa base w)) = .ref (zad sa base w) → fits ty (.ref (zad sa base w)) = true → zft a b = true → y = (pc + 3, lo, r, (h.1, h.2.1, h.2.2.1, zup h.2.2.2 o b (some w))) → W p l e R s m args below meth c H locs cells slots Q (F0 m pc ls (.ref (zad sa base w) :: .ref (zad sa base o) :: r.map (zv (zad sa base)))) := by
            intro ty p1 p2 p3 p4 p5
            subst p5
            refine zput_W C hd q1 h3 h4 h7 p1 p2 p3 hob (fun H' j f1 f2 f3 => ?_)
            refine kk _ _ _ _ _ ⟨I.1, I.2.1, zRep_set I.2.2.1 ho ne f2 f3 rfl (fun _ _ => rfl) (fun _ _ => rfl) (fun z hz => zup_row hz) (zcell_of q1 rfl (f1.to fun z hz => ?_)), I.2.2.2.put f2 f3 (zRep_A I.2.2.1 ho ne)⟩ rfl rfl
            unfold updV zfv
            by_cases hz2 : z = b
            · subst hz2
              rw [if_pos rfl, p4]
              dsimp only [cond_true]
              rw [zsame_up]
              rfl
            · rw [if_neg hz2]
              cases zft a z
              · rfl
              · dsimp only [cond_true]
                rw [zne_up (fun w => hz2 w.2)]
          split at hs
          · simp only [zgo, Option.some.injEq, Sum.inl.injEq] at hs
            unfold zfty at h5
            split at h5
            · rename_i hk _; cases hk
            · rename_i hk _; cases hk
            · rename_i _ _ p1
              exact goal _ p1 rfl rfl h6 hs.symm
            · rename_i _ _ p1
              exact goal _ p1 rfl rfl h6 hs.symm
            · cases h5
          · cases hs
      · cases hs
    · cases hs
  · cases hc
/-- an array of the small machine that is no row of references -/
theorem zw_22 (C : zX p s m args meth c M D sa base) (hd : decode M.2.1 pc = .ok (i, len)) (hc : zc22 len i = true) (I : zIn D sa base M.2.2.1 s H locs lo h ls) (hs : zs22 len (pc, lo, st, h) = some (.inl y)) (kk : zK p l e R s m args below meth c cells slots Q D sa base M.2.2.1 h y) : W p l e R s m args below meth c H locs cells slots Q (F0 m pc ls (st.map (zv (zad sa base)))) := by
  obtain ⟨hx, hb, hml, hown, hnm, hts, hG, hbs⟩ := C
  unfold zc22 at hc
  split at hc
  · rw [decide_eq_true_eq] at hc
    subst hc
    simp only [zs22] at hs
    split at hs
    · rename_i j o r
      split at hs
      · rename_i t n ho
        cases hq : ((Nat.beq t 0 || Nat.beq t 5) && Nat.blt (zix j) n)
        · simp [hq] at hs
        · simp only [hq, cond_true, zgo, Option.some.injEq, Sum.inl.injEq] at hs
          subst hs
          simp only [Bool.and_eq_true, Bool.or_eq_true, Nat.beq_eq] at hq
          obtain ⟨ht, hlt⟩ := hq
          have hlt : zix j < n := Nat.ble_eq.mp hlt
          have hn := I.2.2.1.2.2.2.2 _ _ _ ho
          have hz := zix_lt hlt (by omega)
          rcases ht with rfl | rfl
          · obtain ⟨cA, g1, g2⟩ := I.2.2.1.2.2.1 _ _ _ ho
            refine W.iald hx hb g1 (g2 n _) (fun q => by cases q) (by show ¬ (_ ∨ (arrV _ _ _).slots.size ≤ _); rw [arrV_size]; exact zix_in hlt hn) (by show (arrV _ _ _).slots[_]? = _; rw [hz.2, arrV_read _ _ hlt]; rfl) rfl rfl hd (kk _ _ _ _ _ I rfl rfl)
          · obtain ⟨cell, g1, g2, g3, g4, g5, g6, g7⟩ := I.2.2.1.2.2.1 _ _ _ ho
            refine W.iald hx hb g1 g2 g3 (fun q => ?_) (by rw [hz.2]; exact g6 _ hlt) rfl rfl hd (kk _ _ _ _ _ I rfl rfl)
            rcases q with q | q
            · exact hz.1 q
            · rw [hz.2] at q
              omega
      · cases hs
    · cases hs
  · cases hc
theorem zw_23 (C : zX p s m args meth c M D sa base) (hd : decode M.2.1 pc = .ok (i, len)) (hc : zc23 len i = true) (I : zIn D sa base M.2.2.1 s H locs lo h ls) (hs : zs23 len (pc, lo, st, h) = some (.inl y)) (kk : zK p l e R s m args below meth c cells slots Q D sa base M.2.2.1 h y) : W p l e R s m args below meth c H locs cells slots Q (F0 m pc ls (st.map (zv (zad sa base)))) := by
  obtain ⟨hx, hb, hml, hown, hnm, hts, hG, hbs⟩ := C
  unfold zc23 at hc
  split at hc
  · rw [decide_eq_true_eq] at hc
    subst hc
    simp only [zs23] at hs
    split at hs
    · rename_i j o r
      split at hs
      · rename_i t n ho
        cases hq : (Nat.beq t 1 && Nat.blt (zix j) n)
        · simp [hq] at hs
        · simp only [hq, cond_true, zgo, Option.some.injEq, Sum.inl.injEq] at hs
          subst hs
          simp only [Bool.and_eq_true, Nat.beq_eq] at hq
          obtain ⟨rfl, hlt⟩ := hq
          have hlt : zix j < n := Nat.ble_eq.mp hlt
          have hn := I.2.2.1.2.2.2.2 _ _ _ ho
          have hz := zix_lt hlt (by omega)
          obtain ⟨cA, g1, g2⟩ := I.2.2.1.2.2.1 _ _ _ ho
          refine W.lald hx hb g1 (g2 n _) (fun q => by cases q) (by show ¬ (_ ∨ (arrV _ _ _).slots.size ≤ _); rw [arrV_size]; exact zix_in hlt hn) (by show (arrV _ _ _).slots[_]? = _; rw [hz.2, arrV_read _ _ hlt]; rfl) rfl rfl hd (kk _ _ _ _ _ I rfl rfl)
      · cases hs
    · cases hs
  · cases hc
theorem zrq_of {t n o : Nat} (r : zRep D sa base s H h) (ho : zget h.1 o = some (t, n)) (h2 : 2 ≤ t) (h4 : t ≤ 4) : zrq (zad sa base) s H h o n t := by
  have q := r.2.2.1 _ _ _ ho
  rcases (show t = 2 ∨ t = 3 ∨ t = 4 by omega) with rfl | rfl | rfl <;> exact q
theorem zof_rq {t n o : Nat} {U : State} {H1 : Heap} {h1 : zH} {A : Nat → Prop} (h2 : 2 ≤ t) (h4 : t ≤ 4) (q : zrq (zad sa base) U H1 h1 o n t) : zcell D (zad sa base) A U H1 h1 o n t := by
  rcases (show t = 2 ∨ t = 3 ∨ t = 4 by omega) with rfl | rfl | rfl <;> exact q
theorem zw_24 (C : zX p s m args meth c M D sa base) (hd : decode M.2.1 pc = .ok (i, len)) (hc : zc24 len i = true) (I : zIn D sa base M.2.2.1 s H locs lo h ls) (hs : zs24 len (pc, lo, st, h) = some (.inl y)) (kk : zK p l e R s m args below meth c cells slots Q D sa base M.2.2.1 h y) : W p l e R s m args below meth c H locs cells slots Q (F0 m pc ls (st.map (zv (zad sa base)))) := by
  obtain ⟨hx, hb, hml, hown, hnm, hts, hG, hbs⟩ := C
  unfold zc24 at hc
  split at hc
  · rw [decide_eq_true_eq] at hc
    subst hc
    simp only [zs24] at hs
    split at hs
    · rename_i j o r
      split at hs
      · rename_i t n ho
        cases hq : ((Nat.ble 2 t && Nat.ble t 4) && Nat.blt (zix j) n)
        · simp [hq] at hs
        · simp only [hq, cond_true, zgo, Option.some.injEq, Sum.inl.injEq] at hs
          subst hs
          simp only [Bool.and_eq_true, Nat.ble_eq] at hq
          obtain ⟨⟨h2, h4⟩, hlt⟩ := hq
          have hlt : zix j < n := Nat.ble_eq.mp hlt
          have hn := I.2.2.1.2.2.2.2 _ _ _ ho
          have hz := zix_lt hlt (by omega)
          obtain ⟨cA, g1, g2, g3⟩ := zrq_of I.2.2.1 ho h2 h4
          have K := kk _ _ _ _ _ I rfl rfl
          have K : W p l e R s m args below meth c H locs cells slots Q (F0 m (pc + 1) ls (va_rf ((h.2.2.2 o (zix j)).map (zad sa base)) :: r.map (zv (zad sa base)))) := by rw [← zv_rf]; exact K
          exact W.aald hx hb g1 (g2 n _) rfl (fun q => by cases q) (by show ¬ (_ ∨ (arrV _ _ _).slots.size ≤ _); rw [arrV_size]; exact zix_in hlt hn) (by show (arrV _ _ _).slots[_]? = _; rw [hz.2, arrV_read _ _ hlt]) rfl rfl hd K
      · cases hs
    · cases hs
  · cases hc
theorem zw_25 (C : zX p s m args meth c M D sa base) (hd : decode M.2.1 pc = .ok (i, len)) (hc : zc25 len i = true) (I : zIn D sa base M.2.2.1 s H locs lo h ls) (hs : zs25 len (pc, lo, st, h) = some (.inl y)) (kk : zK p l e R s m args below meth c cells slots Q D sa base M.2.2.1 h y) : W p l e R s m args below meth c H locs cells slots Q (F0 m pc ls (st.map (zv (zad sa base)))) := by
  obtain ⟨hx, hb, hml, hown, hnm, hts, hG, hbs⟩ := C
  unfold zc25 at hc
  split at hc
  · rw [decide_eq_true_eq] at hc
    subst hc
    simp only [zs25] at hs
    split at hs
    · rename_i x j o r
      split at hs
      · rename_i t n ho
        cases hq : (Nat.beq t 0 && Nat.blt (zix j) n)
        · simp [hq] at hs
        · simp only [hq, cond_true, zgo, Option.some.injEq, Sum.inl.injEq] at hs
          subst hs
          simp only [Bool.and_eq_true, Nat.beq_eq] at hq
          obtain ⟨rfl, hlt⟩ := hq
          have hlt : zix j < n := Nat.ble_eq.mp hlt
          have hn := I.2.2.1.2.2.2.2 _ _ _ ho
          have hz := zix_lt hlt (by omega)
          obtain ⟨cA, g1, g2⟩ := I.2.2.1.2.2.1 _ _ _ ho
          refine W.iast hx hb g1 (g2 n _) (fun q => by cases q) (by show ¬ (_ ∨ (arrV _ _ _).slots.size ≤ _); rw [arrV_size]; exact zix_in hlt hn) rfl rfl hd (fun H1 e1 z1 o1 => ?_)
          refine kk _ _ _ _ _ ⟨I.1, I.2.1, zRep_set I.2.2.1 ho (by decide) z1 o1 rfl (fun z hz => zup_row hz) (fun _ _ => rfl) (fun _ _ => rfl) ⟨cA, ?_, g2⟩, I.2.2.2.put z1 o1 (zRep_A I.2.2.1 ho (by decide))⟩ rfl rfl
          rw [e1, arrV_store, hz.2]
          congr 2
          funext q
          unfold updV
          dsimp only
          by_cases hq : q = zix j
          · subst hq
            rw [if_pos rfl, zsame_up]
          · rw [if_neg hq, zne_up (fun w => hq w.2)]
      · cases hs
    · cases hs
  · cases hc
theorem zw_26 (C : zX p s m args meth c M D sa base) (hd : decode M.2.1 pc = .ok (i, len)) (hc : zc26 len i = true) (I : zIn D sa base M.2.2.1 s H locs lo h ls) (hs : zs26 len (pc, lo, st, h) = some (.inl y)) (kk : zK p l e R s m args below meth c cells slots Q D sa base M.2.2.1 h y) : W p l e R s m args below meth c H locs cells slots Q (F0 m pc ls (st.map (zv (zad sa base)))) := by
  obtain ⟨hx, hb, hml, hown, hnm, hts, hG, hbs⟩ := C
  unfold zc26 at hc
  split at hc
  · rw [decide_eq_true_eq] at hc
    subst hc
    simp only [zs26] at hs
    split at hs
    · rename_i x j o r
      split at hs
      · rename_i t n ho
        cases hq : (Nat.beq t 1 && Nat.blt (zix j) n)
        · simp [hq] at hs
        · simp only [hq, cond_true, zgo, Option.some.injEq, Sum.inl.injEq] at hs
          subst hs
          simp only [Bool.and_eq_true, Nat.beq_eq] at hq
          obtain ⟨rfl, hlt⟩ := hq
          have hlt : zix j < n := Nat.ble_eq.mp hlt
          have hn := I.2.2.1.2.2.2.2 _ _ _ ho
          have hz := zix_lt hlt (by omega)
          obtain ⟨cA, g1, g2⟩ := I.2.2.1.2.2.1 _ _ _ ho
          refine W.last hx hb g1 (g2 n _) (fun q => by cases q) (by show ¬ (_ ∨ (arrV _ _ _).slots.size ≤ _); rw [arrV_size]; exact zix_in hlt hn) rfl rfl hd (fun H1 e1 z1 o1 => ?_)
          refine kk _ _ _ _ _ ⟨I.1, I.2.1, zRep_set I.2.2.1 ho (by decide) z1 o1 rfl (fun _ _ => rfl) (fun z hz => zup_row hz) (fun _ _ => rfl) ⟨cA, ?_, g2⟩, I.2.2.2.put z1 o1 (zRep_A I.2.2.1 ho (by decide))⟩ rfl rfl
          rw [e1, arrV_store, hz.2]
          congr 2
          funext q
          unfold updV
          dsimp only
          by_cases hq : q = zix j
          · subst hq
            rw [if_pos rfl, zsame_up]
          · rw [if_neg hq, zne_up (fun w => hq w.2)]
      · cases hs
    · cases hs
  · cases hc
theorem zcomp_cl {t : Nat} (h2 : 2 ≤ t) (h4 : t ≤ 4) : ∃ q : vw_C, zget vwCl (zcomp t) = some q ∧ q.1 = zcn t := by
  rcases (show t = 2 ∨ t = 3 ∨ t = 4 by omega) with rfl | rfl | rfl
  · exact ⟨_, rfl, rfl⟩
  · exact ⟨_, rfl, rfl⟩
  · exact ⟨_, rfl, rfl⟩
theorem zw_27 (C : zX p s m args meth c M D sa base) (hd : decode M.2.1 pc = .ok (i, len)) (hc : zc27 len i = true) (I : zIn D sa base M.2.2.1 s H locs lo h ls) (hs : zs27 len (pc, lo, st, h) = some (.inl y)) (kk : zK p l e R s m args below meth c cells slots Q D sa base M.2.2.1 h y) : W p l e R s m args below meth c H locs cells slots Q (F0 m pc ls (st.map (zv (zad sa base)))) := by
  obtain ⟨hx, hb, hml, hown, hnm, hts, hG, hbs⟩ := C
  unfold zc27 at hc
  split at hc
  · rw [decide_eq_true_eq] at hc
    subst hc
    simp only [zs27] at hs
    split at hs
    · rename_i v j o r
      split at hs
      · rename_i t n t2 n2 ho hv
        cases hq : (((Nat.ble 2 t && Nat.ble t 4) && Nat.beq t2 (10 + zcomp t)) && Nat.blt (zix j) n)
        · simp [hq] at hs
        · simp only [hq, cond_true, zgo, Option.some.injEq, Sum.inl.injEq] at hs
          subst hs
          simp only [Bool.and_eq_true, Nat.ble_eq, Nat.beq_eq] at hq
          obtain ⟨⟨⟨h2, h4⟩, rfl⟩, hlt⟩ := hq
          have hlt : zix j < n := Nat.ble_eq.mp hlt
          have hn := I.2.2.1.2.2.2.2 _ _ _ ho
          have hz := zix_lt hlt (by omega)
          have n5 : ¬ (t = 5) := by omega
          obtain ⟨cA, g1, g2, kA, comp, k1, k2, k3, k4⟩ := zrq_of I.2.2.1 ho h2 h4
          obtain ⟨q', e1, e2⟩ := zcomp_cl h2 h4
          obtain ⟨q, q1, q2, cellV, v1, v2, v3, -⟩ := zob I.2.2.1 hv
          rw [e1] at q1
          cases q1
          have hcls := (hG.1.1 _ _ (zcl_el e1)).2
          rw [e2] at hcls
          have hcomp : comp = D.1 (zcomp t) := Option.some.inj (k3.symm.trans hcls.1)
          subst hcomp
          obtain ⟨kC, hkC, hkk⟩ := hcls.2
          refine W.aast hx hb g1 (fun q h => by cases h) (fun h => by cases h) k1 k2 rfl hkC ⟨hz.1, by show _ < (arrV _ _ _).slots.size; rw [arrV_size, hz.2]; exact hlt⟩ v1 (fun q h => by rw [v3] at h; cases h) (by rw [v2]; exact hkC) (by rw [v2]; exact va_assign hcls) rfl rfl hd fun H1 e1 z1 o1 => ?_
          refine kk _ _ _ _ _ ⟨I.1, I.2.1, zRep_set I.2.2.1 ho n5 z1 o1 rfl (fun _ _ => rfl) (fun _ _ => rfl) (fun z hz => zup_row hz) (zof_rq h2 h4 ⟨cA, ?_, g2, kA, _, k1, k2, k3, k4⟩), I.2.2.2.put z1 o1 (zRep_A I.2.2.1 ho n5)⟩ rfl rfl
          rw [e1, arrV_store, hz.2]
          congr 2
          funext q
          unfold updV
          dsimp only
          by_cases hq : q = zix j
          · subst hq
            rw [if_pos rfl, zsame_up]
            rfl
          · rw [if_neg hq, zne_up (fun w => hq w.2)]
      · cases hs
    · cases hs
  · cases hc
theorem zw_28 (C : zX p s m args meth c M D sa base) (hd : decode M.2.1 pc = .ok (i, len)) (hc : zc28 len i = true) (I : zIn D sa base M.2.2.1 s H locs lo h ls) (hs : zs28 len (pc, lo, st, h) = some (.inl y)) (kk : zK p l e R s m args below meth c cells slots Q D sa base M.2.2.1 h y) : W p l e R s m args below meth c H locs cells slots Q (F0 m pc ls (st.map (zv (zad sa base)))) := by
  obtain ⟨hx, hb, hml, hown, hnm, hts, hG, hbs⟩ := C
  unfold zc28 at hc
  split at hc
  · rw [decide_eq_true_eq] at hc
    subst hc
    simp only [zs28] at hs
    split at hs
    · rename_i o r
      split at hs
      · rename_i t n ho
        cases hq : Nat.ble t 5
        · simp [hq] at hs
        · simp only [hq, cond_true, zgo, Option.some.injEq, Sum.inl.injEq] at hs
          subst hs
          rw [Nat.ble_eq] at hq
          have K := kk _ _ _ _ _ I rfl rfl
          have q := I.2.2.1.2.2.1 _ _ _ ho
          rcases (show t = 0 ∨ t = 1 ∨ (2 ≤ t ∧ t ≤ 4) ∨ t = 5 by omega) with rfl | rfl | ⟨h2, h4⟩ | rfl
          · obtain ⟨cA, g1, g2⟩ := q
            exact W.alen hx hb g1 (g2 n _) (by rw [arrV_size] <;> rfl) rfl rfl hd K
          · obtain ⟨cA, g1, g2⟩ := q
            exact W.alen hx hb g1 (g2 n _) (by rw [arrV_size] <;> rfl) rfl rfl hd K
          · obtain ⟨cA, g1, g2, g3⟩ := zrq_of I.2.2.1 ho h2 h4
            exact W.alen hx hb g1 (g2 n _) (by rw [arrV_size] <;> rfl) rfl rfl hd K
          · obtain ⟨cell, g1, g2, g3, g4, g5, g6, g7⟩ := q
            exact W.alen hx hb g1 g2 g5 rfl rfl hd K
      · cases hs
    · cases hs
  · cases hc
end ZC
/-! INSTRUCTIONS THAT MAKE CELLS; Math; Object's constructor; arraycopy. -/
theorem zslots_app : ∀ (l : List (Nat × Nat)) (t n : Nat), zslots (l ++ [(t, n)]) = zslots l + n
  | [], t, n => by simp [zslots]
  | q :: l, t, n => by simp [zslots, zslots_app l t n]; omega
theorem zcl_small {c : Nat} {q : vw_C} (h : zget vwCl c = some q) : q.2.2 < 2 ^ 31 :=
  zcl_by (P := fun _ q => q.2.2 < 2 ^ 31) (by decide) (by decide) (by decide) (by decide) (by decide) (by decide) (by decide) (by decide) (by decide) (by decide) (by decide) (by decide) (by decide) h
theorem zob_words : zis 699 (.instanceMethod objectInit) = true ∧ zis 700 (.code objectInit ⟨#[0xb1]⟩ 1 none) = true ∧ zis 701 (.native arraycopyName) = true ∧ zis 702 (.static arraycopyName) = true ∧ zis 703 (.initialized "java/lang/System") = true := by decide +kernel
theorem zcpy_eq {α : Type} (f g : Nat → α) (sp dp n : Nat) : va_cpy f g sp dp n = zcpy f g sp dp n := by
  funext k
  unfold va_cpy zcpy
  by_cases h1 : dp ≤ k
  · by_cases h2 : k < dp + n
    · rw [if_pos ⟨h1, h2⟩, Nat.ble_eq.mpr h1, show Nat.blt k (dp + n) = true from Nat.ble_eq.mpr h2]
      rfl
    · rw [if_neg (fun q => h2 q.2)]
      have e : Nat.blt k (dp + n) = false := by
        cases q : Nat.blt k (dp + n)
        · rfl
        · exact absurd (Nat.ble_eq.mp q) h2
      rw [e, Bool.and_false]
      rfl
  · rw [if_neg (fun q => h1 q.1)]
    have e : Nat.ble dp k = false := by
      cases q : Nat.ble dp k
      · rfl
      · exact absurd (Nat.ble_eq.mp q) h1
    rw [e, Bool.false_and]
    rfl
section ZD
variable {p : Program} {l : Launch} {e : Env} {R : Room} {s : State} {m : MethodId} {args : Array Value} {below : List Frame} {meth : Method} {c : Code} {H : Heap} {locs : List Loc} {cells slots : Nat} {Q : State → Prop}
variable {M : zM} {D : va_G} {sa : Nat → Nat} {base : Nat} {pc len a b k3 : Nat} {v : Value} {sw : List (Int32 × Nat)} {i : Instr} {lo : List (Option Value)} {st : List Value} {h : zH} {ls : Array Slot} {y : zC}
theorem zS_new {H1 : Heap} (hS : va_S (zA base) s.heap H locs) (z1 : H1.size = H.size + 1) (o1 : ∀ q : Nat, q < H.size → H1[q]? = H[q]?) : va_S (zA base) s.heap H1 locs :=
  ⟨Nat.le_trans hS.1 (by omega), fun x h1 h2 => (o1 x (Nat.lt_of_lt_of_le h1 hS.1)).trans (hS.2.1 x h1 h2), hS.2.2⟩
/-- behind a making: the new cell's name on top -/
theorem zmade {t n : Nat} (kk : zK p l e R s m args below meth c cells slots Q D sa base M.2.2.1 h (pc, lo, .ref h.1.length :: st, znew h t n)) (I : zIn D sa base M.2.2.1 s H locs lo h ls) {H1 : Heap} (ht : t ≠ 5) (hn : n < 2 ^ 31) (z1 : H1.size = H.size + 1) (o1 : ∀ q : Nat, q < H.size → H1[q]? = H[q]?) (hc : zcell D (zad sa base) (zA base) s H1 (znew h t n) h.1.length n t) :
    W p l e R s m args below meth c H1 locs (cells + 1) (slots + n) Q (F0 m pc ls (.ref H.size :: st.map (zv (zad sa base)))) := by
  have K := kk ls H1 locs (cells + 1) (slots + n) ⟨I.1, I.2.1, zRep_new I.2.2.1 ht hn z1 o1 hc, zS_new I.2.2.2 z1 o1⟩ (by show _ = cells + (h.1 ++ [(t, n)]).length; simp; omega) (by show _ = slots + zslots (h.1 ++ [(t, n)]); rw [zslots_app]; omega)
  have K : W p l e R s m args below meth c H1 locs (cells + 1) (slots + n) Q (F0 m pc ls (.ref (zad sa base h.1.length) :: st.map (zv (zad sa base)))) := K
  rw [zad_new I.2.2.1] at K
  exact K
theorem zw_29 (C : zX p s m args meth c M D sa base) (hd : decode M.2.1 pc = .ok (i, len)) (hc : zc29 M.1.cls len a b sw i = true) (I : zIn D sa base M.2.2.1 s H locs lo h ls) (hs : zs29 len a b (pc, lo, st, h) = some (.inl y)) (hR : cells + y.2.2.2.1.length ≤ R.cells + h.1.length ∧ slots + zslots y.2.2.2.1 ≤ R.slots + zslots h.1) (kk : zK p l e R s m args below meth c cells slots Q D sa base M.2.2.1 h y) : W p l e R s m args below meth c H locs cells slots Q (F0 m pc ls (st.map (zv (zad sa base)))) := by
  obtain ⟨hx, hb, hml, hown, hnm, hts, hG, hbs⟩ := C
  simp only [zs29, zgo, Option.some.injEq, Sum.inl.injEq] at hs
  subst hs
  have hR1 : cells + (h.1.length + 1) ≤ R.cells + h.1.length := by have := hR.1; simpa [znew] using this
  have hR2 : slots + (zslots h.1 + b) ≤ R.slots + zslots h.1 := by have := hR.2; simpa [znew, zslots_app] using this
  unfold zc29 at hc
  split at hc
  · rw [Bool.and_eq_true, decide_eq_true_eq] at hc
    obtain ⟨h1, h2⟩ := hc
    subst h1
    split at h2
    · rename_i q q1
      simp only [Bool.and_eq_true, decide_eq_true_eq] at h2
      obtain ⟨⟨⟨h2, h3⟩, h4⟩, h5⟩ := h2
      subst h2
      obtain ⟨ty, hty, hdf⟩ := zcl_ty q1
      have hKn := hG.1.1 a q (zcl_el q1)
      refine W.newcK hx hb hown (hts _ (zw_in h3)) (hts _ (zw_in h4)) (hts _ (zw_in h5)) rfl hd (by omega) (by omega) hKn.2.1 rfl fun H1 kC hkC e1 z1 o1 => ?_
      refine zmade kk I (by omega) (zcl_small q1) z1 o1 (zcell_of q1 rfl ?_)
      rw [zad_new I.2.2.1]
      refine (u_born ty hts (zcl_in q1) hKn hkC e1 hty).to fun k hk => ?_
      rw [hdf k hk]
      unfold zfv znew
      dsimp only
      rw [zrow_eq, zrow_eq]
      rfl
    · cases h2
  · cases hc
theorem zw_30 (C : zX p s m args meth c M D sa base) (hd : decode M.2.1 pc = .ok (i, len)) (hc : zc30 M.1.cls len a sw i = true) (I : zIn D sa base M.2.2.1 s H locs lo h ls) (hs : zs30 len a (pc, lo, st, h) = some (.inl y)) (hR : cells + y.2.2.2.1.length ≤ R.cells + h.1.length ∧ slots + zslots y.2.2.2.1 ≤ R.slots + zslots h.1) (kk : zK p l e R s m args below meth c cells slots Q D sa base M.2.2.1 h y) : W p l e R s m args below meth c H locs cells slots Q (F0 m pc ls (st.map (zv (zad sa base)))) := by
  obtain ⟨hx, hb, hml, hown, hnm, hts, hG, hbs⟩ := C
  simp only [zs30] at hs
  split at hs
  · rename_i n r
    cases hq : (Nat.blt (zix n) 100000 && Nat.ble a 4)
    · simp [hq] at hs
    · simp only [hq, cond_true, zgo, Option.some.injEq, Sum.inl.injEq] at hs
      subst hs
      simp only [Bool.and_eq_true, Nat.ble_eq] at hq
      obtain ⟨hlt, ha4⟩ := hq
      have hlt : zix n < 100000 := Nat.ble_eq.mp hlt
      have hz := zix_lt hlt (by omega)
      have hR1 : cells + (h.1.length + 1) ≤ R.cells + h.1.length := by have := hR.1; simpa [znew] using this
      have hR2 : slots + (zslots h.1 + zix n) ≤ R.slots + zslots h.1 := by have := hR.2; simpa [znew, zslots_app] using this
      unfold zc30 at hc
      split at hc
      · rw [Bool.and_eq_true, decide_eq_true_eq] at hc
        obtain ⟨h1, h2⟩ := hc
        subst h1
        split at h2
        · rw [Bool.and_eq_true, decide_eq_true_eq] at h2
          obtain ⟨h2, h3⟩ := h2
          subst h2
          refine va_newaK (atype := .int) hx hb (hts _ (zw_in h3)) rfl hd rfl hz.1 hz.2 (Nat.le_trans (Nat.mul_le_mul_right _ (Nat.le_of_lt hlt)) (by decide)) (by omega) (by omega) rfl fun H1 cA e1 z1 o1 hAr hNm => ?_
          refine zmade kk I (by omega) (by omega) z1 o1 ⟨cA, ?_, hAr⟩
          rw [zad_new I.2.2.1, e1]
          unfold znew
          dsimp only
          rw [zrow_eq]
          rfl
        · rw [Bool.and_eq_true, decide_eq_true_eq] at h2
          obtain ⟨h2, h3⟩ := h2
          subst h2
          refine va_newaK (atype := .long) hx hb (hts _ (zw_in h3)) rfl hd rfl hz.1 hz.2 (Nat.le_trans (Nat.mul_le_mul_right _ (Nat.le_of_lt hlt)) (by decide)) (by omega) (by omega) rfl fun H1 cA e1 z1 o1 hAr hNm => ?_
          refine zmade kk I (by omega) (by omega) z1 o1 ⟨cA, ?_, hAr⟩
          rw [zad_new I.2.2.1, e1]
          unfold znew
          dsimp only
          rw [zrow_eq]
          rfl
        · cases h2
      · rename_i k
        simp only [Bool.and_eq_true, decide_eq_true_eq] at hc
        obtain ⟨⟨⟨h1, h2⟩, h3⟩, h4⟩ := hc
        subst h1
        refine W.anew hx hb hown (hts _ (zw_in h4)) (va_AO.use (hG.2.2.1 a h2 h3)) rfl hd rfl hz.1 (by rw [hz.2]; omega) (by omega) (by rw [hz.2]; omega) fun cA kA comp f1 f2 f3 f4 => ?_
        rw [hz.2]
        refine zmade kk I (by omega) (by omega) (by rw [Array.size_push]) (fun q hq => by rw [Array.getElem?_push, if_neg (Nat.ne_of_lt hq)]) (zof_rq h2 h3 ⟨cA, ?_, fun N z => ⟨(fun k h => by cases h), kA, f2, comp, f3⟩, kA, comp, f2, f3, f4, f1⟩)
        rw [zad_new I.2.2.1, Array.getElem?_push_size]
        unfold znew
        dsimp only
        rw [zrow_eq]
        exact congrArg some (arrV_new cA (zix n) .null)
      · cases hc
  · cases hs
theorem zw_31 (C : zX p s m args meth c M D sa base) (hd : decode M.2.1 pc = .ok (i, len)) (hc : zc31 M.1.cls len b sw i = true) (I : zIn D sa base M.2.2.1 s H locs lo h ls) (hs : zs31 len b (pc, lo, st, h) = some (.inl y)) (hF : 1 ≤ R.frames ∧ 64 ≤ R.locals) (hR : cells ≤ R.cells ∧ slots ≤ R.slots) (kk : zK p l e R s m args below meth c cells slots Q D sa base M.2.2.1 h y) : W p l e R s m args below meth c H locs cells slots Q (F0 m pc ls (st.map (zv (zad sa base)))) := by
  obtain ⟨hx, hb, hml, hown, hnm, hts, hG, hbs⟩ := C
  have hsz : c.maxLocals = ls.size := hml.trans I.1.1.symm
  unfold zc31 at hc
  split at hc
  · simp only [Bool.and_eq_true, decide_eq_true_eq] at hc
    obtain ⟨⟨h1, h2⟩, h3⟩ := hc
    subst h1
    split at h3
    · simp only [Bool.and_eq_true] at h3
      obtain ⟨⟨h3, h4⟩, h5⟩ := h3
      simp only [zs31] at hs
      split at hs
      · rename_i x2 x1 r
        cases hq : Nat.ble (zcat r) 8
        · simp [hq] at hs
        · simp only [hq, cond_true, zgo, Option.some.injEq, Sum.inl.injEq] at hs
          subst hs
          have h8 : zcat r ≤ 8 := Nat.ble_eq.mp hq
          exact va_mmax hx hb hsz hown (hts _ (zw_in h3)) (hts _ (zw_in h5)) (hts _ (zw_in h2)) (hts _ (zw_in h4)) hF.1 (by rw [zcat_sum]; omega) hR.1 hR.2 hd (kk _ _ _ _ _ I rfl rfl)
      · cases hs
    · simp only [Bool.and_eq_true] at h3
      obtain ⟨⟨h3, h4⟩, h5⟩ := h3
      simp only [zs31] at hs
      split at hs
      · rename_i x2 x1 r
        cases hq : Nat.ble (zcat r) 8
        · simp [hq] at hs
        · simp only [hq, cond_true, zgo, Option.some.injEq, Sum.inl.injEq] at hs
          subst hs
          have h8 : zcat r ≤ 8 := Nat.ble_eq.mp hq
          exact va_mmin hx hb hsz hown (hts _ (zw_in h3)) (hts _ (zw_in h5)) (hts _ (zw_in h2)) (hts _ (zw_in h4)) hF.1 (by rw [zcat_sum]; omega) hR.1 hR.2 hd (kk _ _ _ _ _ I rfl rfl)
      · cases hs
    · simp only [Bool.and_eq_true] at h3
      obtain ⟨⟨h3, h4⟩, h5⟩ := h3
      simp only [zs31] at hs
      split at hs
      · rename_i x1 r
        cases hq : Nat.ble (zcat r) 8
        · simp [hq] at hs
        · simp only [hq, cond_true, zgo, Option.some.injEq, Sum.inl.injEq] at hs
          subst hs
          have h8 : zcat r ≤ 8 := Nat.ble_eq.mp hq
          refine va_mabs hx hb hsz hown (hts _ (zw_in h3)) (hts _ (zw_in h5)) (hts _ (zw_in h2)) (hts _ (zw_in h4)) hF.1 (by rw [zcat_sum]; omega) hR.1 hR.2 hd ?_
          have ea : (if 0 ≤ x1 then x1 else 0 - x1) = (if x1 < 0 then -x1 else x1) := by
            by_cases q : x1 < 0
            · rw [if_pos q, if_neg (Int32.not_le.mpr q), Int32.zero_sub]
            · rw [if_neg q, if_pos (Int32.not_lt.mp q)]
          rw [ea]
          exact kk _ _ _ _ _ I rfl rfl
      · cases hs
    · cases h3
  · cases hc
theorem zw_33 (C : zX p s m args meth c M D sa base) (hd : decode M.2.1 pc = .ok (i, len)) (hc : zc33 M.1.cls len sw i = true) (I : zIn D sa base M.2.2.1 s H locs lo h ls) (hs : zs33 len (pc, lo, st, h) = some (.inl y)) (hF : 1 ≤ R.frames ∧ 64 ≤ R.locals) (kk : zK p l e R s m args below meth c cells slots Q D sa base M.2.2.1 h y) : W p l e R s m args below meth c H locs cells slots Q (F0 m pc ls (st.map (zv (zad sa base)))) := by
  obtain ⟨hx, hb, hml, hown, hnm, hts, hG, hbs⟩ := C
  have hsz : ls.size = c.maxLocals := I.1.1.trans hml.symm
  unfold zc33 at hc
  split at hc
  · simp only [Bool.and_eq_true, decide_eq_true_eq] at hc
    obtain ⟨h1, h2⟩ := hc
    subst h1
    simp only [zs33] at hs
    split at hs
    · rename_i o r
      cases hq : Nat.ble (zcat r) 8
      · simp [hq] at hs
      · simp only [hq, cond_true, zgo, Option.some.injEq, Sum.inl.injEq] at hs
        subst hs
        have h8 : ((r.map (zv (zad sa base))).map fun v => v.category).sum ≤ 8 := by rw [zcat_sum]; exact Nat.ble_eq.mp hq
        have h9 := lv_room (m := m) (pc := pc) (ls := ls) (rest := .ref (zad sa base o) :: r.map (zv (zad sa base))) h8
        exact W.objInit hx hb hown (hts _ (zw_in h2)) (hts _ (zw_in zob_words.1)) (hts _ (zw_in zob_words.2.1)) rfl hsz rfl hd hF.1 (by show 2 * 0 + _ + 12 ≤ _; omega) (kk _ _ _ _ _ I rfl rfl)
    · cases hs
  · cases hc
/-- arraycopy between rows of numbers -/
theorem zcopy_W {α : Type} (mk : α → Value) (C : zX p s m args meth c M D sa base) {k : Nat} (hd : decode M.2.1 pc = .ok (.invokestatic k, 3)) (h2 : zis (zp sw 0) (.methodLink M.1.cls k arraycopyName) = true) (hsz : ls.size = c.maxLocals) (hF : 1 ≤ R.frames ∧ 64 ≤ R.locals) {a0 a1 n0 n1 : Nat} {c0 c1 : ClassId} {f g : Nat → α} {ty : FieldType} (hprim : refKind ty = false) (hfit : ∀ z, fits ty (mk z) = true) (hc0 : H[a0]? = some (arrV c0 n0 (fun j => mk (f j)))) (hc1 : H[a1]? = some (arrV c1 n1 (fun j => mk (g j)))) (ht0 : ArrOfT s c0 ty) (ht1 : ArrOfT s c1 ty)
    {sp dp n : Int32} (h1 : ¬ sp < 0) (h3 : ¬ dp < 0) (h4 : ¬ n < 0) (h5 : sp.toNatClampNeg + n.toNatClampNeg ≤ n0) (h6 : dp.toNatClampNeg + n.toNatClampNeg ≤ n1) {rest : List Value} (h8 : (rest.map fun v => v.category).sum ≤ 8)
    (kk : ∀ (H1 : Heap) (L : List Loc), H1[a1]? = some (arrV c1 n1 (fun j => mk (va_cpy f g sp.toNatClampNeg dp.toNatClampNeg n.toNatClampNeg j))) → H1.size = H.size → (∀ q : Nat, q ≠ a1 → H1[q]? = H[q]?) → (∀ q ∈ L, q.base = a1) → W p l e R s m args below meth c H1 (locs ++ L) cells slots Q (F0 m (pc + 3) ls rest)) :
    W p l e R s m args below meth c H locs cells slots Q (F0 m pc ls (.int n :: .int dp :: .ref a1 :: .int sp :: .ref a0 :: rest)) := by
  obtain ⟨hx, hb, hml, hown, hnm, hts, hG, hbs⟩ := C
  have nn : ∀ z : Int32, ¬ z < 0 → z.toInt = (z.toNatClampNeg : Int) := by
    intro z hz
    have hz0 : (0 : Int) ≤ z.toInt := by
      have := Int32.not_lt.mp hz
      simpa using Int32.le_iff_toInt_le.mp this
    show z.toInt = ((z.toInt.toNat : Nat) : Int)
    omega
  intro T hT X
  obtain ⟨-, k0, hk0, cm0, hkk0⟩ := ht0 n0 (fun j => mk (f j))
  obtain ⟨-, k1, hk1, cm1, hkk1⟩ := ht1 n1 (fun j => mk (g j))
  obtain ⟨vm', X', step⟩ := X.arraycopy hx hown (hts _ (zw_in h2)) (hts _ (zw_in zob_words.2.2.1)) (hts _ (zw_in zob_words.2.2.2.1)) (hts _ (zw_in zob_words.2.2.2.2)) (src := a0) (dst := a1) (cs := arrV c0 n0 (fun j => mk (f j))) (cd := arrV c1 n1 (fun j => mk (g j))) (srcPos := sp) (destPos := dp) (n := n) (by rw [hT]; exact hc0) (by rw [hT]; exact hc1)
    (fun _ h => by cases h) (fun _ h => by cases h) (fun h => by cases h) (fun h => by cases h) hk0 hk1 hkk0 hkk1 (by simp [hprim]) h1 h3 h4
    (by rw [nn sp h1, nn n h4, arrV_size]; omega)
    (by rw [nn dp h3, nn n h4, arrV_size]; omega)
    (fun vm₁ _ i hi => by
      have e : (arrV c0 n0 (fun j => mk (f j))).slots.getD (sp.toNatClampNeg + i) .null = mk (f (sp.toNatClampNeg + i)) := by
        rw [Array.getD_eq_getD_getElem?, arrV_read _ _ (by omega)]
        rfl
      refine ⟨?_, ?_⟩
      · rw [e]
        exact hfit _
      · rw [e]
        have q := hfit (f (sp.toNatClampNeg + i))
        revert q
        generalize mk (f (sp.toNatClampNeg + i)) = w
        intro q
        cases w with
        | ref z => cases ty <;> simp [fits, refKind] at q hprim
        | _ => exact trivial)
    (g := F0 m pc ls (.int n :: .int dp :: .ref a1 :: .int sp :: .ref a0 :: rest)) rfl hsz (rest := rest) rfl (by rw [hb]; exact hd) hF.1 (by show 2 * 0 + _ + (5 + 2 + 11) ≤ _; omega)
  have e1 : copied (arrV c0 n0 (fun j => mk (f j))) (arrV c1 n1 (fun j => mk (g j))) sp dp n = arrV c1 n1 (fun j => mk (va_cpy f g sp.toNatClampNeg dp.toNatClampNeg n.toNatClampNeg j)) := va_copied mk c0 c1 f g h5
  rw [e1] at X' step
  have hl : a1 < H.size := (Array.getElem?_eq_some_iff.mp hc1).1
  have hheap : ((T.setVm vm').setCell a1 (arrV c1 n1 (fun j => mk (va_cpy f g sp.toNatClampNeg dp.toNatClampNeg n.toNatClampNeg j)))).heap = H.setIfInBounds a1 (arrV c1 n1 (fun j => mk (va_cpy f g sp.toNatClampNeg dp.toNatClampNeg n.toNatClampNeg j))) := by rw [← hT]; rfl
  obtain ⟨t, q1, q2⟩ := kk _ _ (by simp [Array.getElem?_setIfInBounds, hl]) (by simp) (fun q hq => by simp [Array.getElem?_setIfInBounds, Ne.symm hq]) (fun q hq => by
    obtain ⟨z, -, hz⟩ := List.mem_map.mp hq
    rw [← hz]) _ hheap X'
  exact ⟨t, step t q1, q2⟩
theorem zS_run {H1 : Heap} {L : List Loc} {o' : Nat} (hS : va_S (zA base) s.heap H locs) (z : H1.size = H.size) (oq : ∀ q : Nat, q ≠ o' → H1[q]? = H[q]?) (hL : ∀ q ∈ L, q.base = o') (ho : zA base o') : va_S (zA base) s.heap H1 (locs ++ L) := by
  refine ⟨by rw [z]; exact hS.1, fun q h1 h2 => ?_, fun q hq => ?_⟩
  · rw [oq q (fun e => h2 (by rw [e]; exact ho))]
    exact hS.2.1 q h1 h2
  · rcases List.mem_append.mp hq with h1 | h1
    · exact hS.2.2 q h1
    · rw [hL q h1]
      exact ho
theorem zw_34 (C : zX p s m args meth c M D sa base) (hd : decode M.2.1 pc = .ok (i, len)) (hc : zc34 M.1.cls len sw i = true) (I : zIn D sa base M.2.2.1 s H locs lo h ls) (hs : zs34 len (pc, lo, st, h) = some (.inl y)) (hF : 1 ≤ R.frames ∧ 64 ≤ R.locals) (kk : zK p l e R s m args below meth c cells slots Q D sa base M.2.2.1 h y) : W p l e R s m args below meth c H locs cells slots Q (F0 m pc ls (st.map (zv (zad sa base)))) := by
  have hsz : ls.size = c.maxLocals := I.1.1.trans C.2.2.1.symm
  unfold zc34 at hc
  split at hc
  · simp only [Bool.and_eq_true, decide_eq_true_eq] at hc
    obtain ⟨h1, h2⟩ := hc
    subst h1
    simp only [zs34] at hs
    split at hs
    · rename_i n dp o1 sp o0 r
      split at hs
      · rename_i t0 n0 t1 n1 g0 g1
        cases hq : ((((Nat.beq t0 t1 && Nat.blt (zix n) 100000) && (Nat.blt (zix sp) 100000 && Nat.blt (zix dp) 100000)) && (Nat.ble (zix sp + zix n) n0 && Nat.ble (zix dp + zix n) n1)) && Nat.ble (zcat r) 8)
        · simp [hq] at hs
        · simp only [hq, cond_true] at hs
          simp only [Bool.and_eq_true, Nat.ble_eq, Nat.beq_eq] at hq
          obtain ⟨⟨⟨⟨rfl, b1⟩, ⟨b2, b3⟩⟩, ⟨b4, b5⟩⟩, b6⟩ := hq
          have b1 : zix n < 100000 := Nat.ble_eq.mp b1
          have b2 : zix sp < 100000 := Nat.ble_eq.mp b2
          have b3 : zix dp < 100000 := Nat.ble_eq.mp b3
          have z1 := zix_lt b1 (by omega)
          have z2 := zix_lt b2 (by omega)
          have z3 := zix_lt b3 (by omega)
          have h8 : ((r.map (zv (zad sa base))).map fun v => v.category).sum ≤ 8 := by rw [zcat_sum]; exact b6
          split at hs
          · simp only [zgo, Option.some.injEq, Sum.inl.injEq] at hs
            subst hs
            obtain ⟨cA, f1, f2⟩ := I.2.2.1.2.2.1 _ _ _ g0
            obtain ⟨cB, f3, f4⟩ := I.2.2.1.2.2.1 _ _ _ g1
            refine zcopy_W (fun z => .int z) C hd h2 hsz hF (ty := .int) rfl (fun _ => rfl) f1 f3 f2 f4 z2.1 z3.1 z1.1 (by rw [z1.2, z2.2]; exact b4) (by rw [z1.2, z3.2]; exact b5) h8 (fun H1 L q1 q2 q3 q4 => ?_)
            refine kk _ _ _ _ _ ⟨I.1, I.2.1, zRep_set I.2.2.1 g1 (by decide) q2 q3 rfl (fun z hz => zrow_ne hz) (fun _ _ => rfl) (fun _ _ => rfl) ⟨cB, ?_, f4⟩, zS_run I.2.2.2 q2 q3 q4 (zRep_A I.2.2.1 g1 (by decide))⟩ rfl rfl
            rw [q1, z1.2, z2.2, z3.2, zcpy_eq]
            dsimp only
            rw [zrow_eq]
          · simp only [zgo, Option.some.injEq, Sum.inl.injEq] at hs
            subst hs
            obtain ⟨cA, f1, f2⟩ := I.2.2.1.2.2.1 _ _ _ g0
            obtain ⟨cB, f3, f4⟩ := I.2.2.1.2.2.1 _ _ _ g1
            refine zcopy_W (fun z => .long z) C hd h2 hsz hF (ty := .long) rfl (fun _ => rfl) f1 f3 f2 f4 z2.1 z3.1 z1.1 (by rw [z1.2, z2.2]; exact b4) (by rw [z1.2, z3.2]; exact b5) h8 (fun H1 L q1 q2 q3 q4 => ?_)
            refine kk _ _ _ _ _ ⟨I.1, I.2.1, zRep_set I.2.2.1 g1 (by decide) q2 q3 rfl (fun _ _ => rfl) (fun z hz => zrow_ne hz) (fun _ _ => rfl) ⟨cB, ?_, f4⟩, zS_run I.2.2.2 q2 q3 q4 (zRep_A I.2.2.1 g1 (by decide))⟩ rfl rfl
            rw [q1, z1.2, z2.2, z3.2, zcpy_eq]
            dsimp only
            rw [zrow_eq]
          · cases hs
      · cases hs
    · cases hs
  · cases hc
end ZD
/-! RUNS: what a step can give, how cells grow. -/
section ZE
variable {len a b k3 ci : Nat} {v : Value} {sw : List (Int32 × Nat)} {x : zC} {o : zO}
theorem zg_0 (h0 : zs0 len v x = some o) : ∃ y q, o = .inl y ∧ y.2.2.2.1 = x.2.2.2.1 ++ q := by
  obtain ⟨pc, lo, st, h⟩ := x
  simp only [zs0, zgo, Bool.cond_eq_ite] at h0
  repeat' split at h0
  all_goals first
    | (cases h0; done)
    | (cases h0; exact ⟨_, [], rfl, (List.append_nil _).symm⟩)
    | (cases h0; exact ⟨_, [_], rfl, rfl⟩)
theorem zg_1 (h0 : zs1 len a x = some o) : ∃ y q, o = .inl y ∧ y.2.2.2.1 = x.2.2.2.1 ++ q := by
  obtain ⟨pc, lo, st, h⟩ := x
  simp only [zs1, zgo, Bool.cond_eq_ite] at h0
  repeat' split at h0
  all_goals first
    | (cases h0; done)
    | (cases h0; exact ⟨_, [], rfl, (List.append_nil _).symm⟩)
    | (cases h0; exact ⟨_, [_], rfl, rfl⟩)
theorem zg_2 (h0 : zs2 len a x = some o) : ∃ y q, o = .inl y ∧ y.2.2.2.1 = x.2.2.2.1 ++ q := by
  obtain ⟨pc, lo, st, h⟩ := x
  simp only [zs2, zgo, Bool.cond_eq_ite] at h0
  repeat' split at h0
  all_goals first
    | (cases h0; done)
    | (cases h0; exact ⟨_, [], rfl, (List.append_nil _).symm⟩)
    | (cases h0; exact ⟨_, [_], rfl, rfl⟩)
theorem zg_3 (h0 : zs3 len a x = some o) : ∃ y q, o = .inl y ∧ y.2.2.2.1 = x.2.2.2.1 ++ q := by
  obtain ⟨pc, lo, st, h⟩ := x
  simp only [zs3, zgo, Bool.cond_eq_ite] at h0
  repeat' split at h0
  all_goals first
    | (cases h0; done)
    | (cases h0; exact ⟨_, [], rfl, (List.append_nil _).symm⟩)
    | (cases h0; exact ⟨_, [_], rfl, rfl⟩)
theorem zg_4 (h0 : zs4 len a x = some o) : ∃ y q, o = .inl y ∧ y.2.2.2.1 = x.2.2.2.1 ++ q := by
  obtain ⟨pc, lo, st, h⟩ := x
  simp only [zs4, zgo, Bool.cond_eq_ite] at h0
  repeat' split at h0
  all_goals first
    | (cases h0; done)
    | (cases h0; exact ⟨_, [], rfl, (List.append_nil _).symm⟩)
    | (cases h0; exact ⟨_, [_], rfl, rfl⟩)
theorem zg_5 (h0 : zs5 len a x = some o) : ∃ y q, o = .inl y ∧ y.2.2.2.1 = x.2.2.2.1 ++ q := by
  obtain ⟨pc, lo, st, h⟩ := x
  simp only [zs5, zgo, Bool.cond_eq_ite] at h0
  repeat' split at h0
  all_goals first
    | (cases h0; done)
    | (cases h0; exact ⟨_, [], rfl, (List.append_nil _).symm⟩)
    | (cases h0; exact ⟨_, [_], rfl, rfl⟩)
theorem zg_6 (h0 : zs6 len a x = some o) : ∃ y q, o = .inl y ∧ y.2.2.2.1 = x.2.2.2.1 ++ q := by
  obtain ⟨pc, lo, st, h⟩ := x
  simp only [zs6, zgo, Bool.cond_eq_ite] at h0
  repeat' split at h0
  all_goals first
    | (cases h0; done)
    | (cases h0; exact ⟨_, [], rfl, (List.append_nil _).symm⟩)
    | (cases h0; exact ⟨_, [_], rfl, rfl⟩)
theorem zg_7 (h0 : zs7 len b x = some o) : ∃ y q, o = .inl y ∧ y.2.2.2.1 = x.2.2.2.1 ++ q := by
  obtain ⟨pc, lo, st, h⟩ := x
  simp only [zs7, zgo, Bool.cond_eq_ite] at h0
  repeat' split at h0
  all_goals first
    | (cases h0; done)
    | (cases h0; exact ⟨_, [], rfl, (List.append_nil _).symm⟩)
    | (cases h0; exact ⟨_, [_], rfl, rfl⟩)
theorem zg_8 (h0 : zs8 len b x = some o) : ∃ y q, o = .inl y ∧ y.2.2.2.1 = x.2.2.2.1 ++ q := by
  obtain ⟨pc, lo, st, h⟩ := x
  simp only [zs8, zgo, Bool.cond_eq_ite] at h0
  repeat' split at h0
  all_goals first
    | (cases h0; done)
    | (cases h0; exact ⟨_, [], rfl, (List.append_nil _).symm⟩)
    | (cases h0; exact ⟨_, [_], rfl, rfl⟩)
theorem zg_9 (h0 : zs9 len b x = some o) : ∃ y q, o = .inl y ∧ y.2.2.2.1 = x.2.2.2.1 ++ q := by
  obtain ⟨pc, lo, st, h⟩ := x
  simp only [zs9, zgo, Bool.cond_eq_ite] at h0
  repeat' split at h0
  all_goals first
    | (cases h0; done)
    | (cases h0; exact ⟨_, [], rfl, (List.append_nil _).symm⟩)
    | (cases h0; exact ⟨_, [_], rfl, rfl⟩)
theorem zg_10 (h0 : zs10 len x = some o) : ∃ y q, o = .inl y ∧ y.2.2.2.1 = x.2.2.2.1 ++ q := by
  obtain ⟨pc, lo, st, h⟩ := x
  simp only [zs10, zgo, Bool.cond_eq_ite] at h0
  repeat' split at h0
  all_goals first
    | (cases h0; done)
    | (cases h0; exact ⟨_, [], rfl, (List.append_nil _).symm⟩)
    | (cases h0; exact ⟨_, [_], rfl, rfl⟩)
theorem zg_11 (h0 : zs11 len x = some o) : ∃ y q, o = .inl y ∧ y.2.2.2.1 = x.2.2.2.1 ++ q := by
  obtain ⟨pc, lo, st, h⟩ := x
  simp only [zs11, zgo, Bool.cond_eq_ite] at h0
  repeat' split at h0
  all_goals first
    | (cases h0; done)
    | (cases h0; exact ⟨_, [], rfl, (List.append_nil _).symm⟩)
    | (cases h0; exact ⟨_, [_], rfl, rfl⟩)
theorem zg_12 (h0 : zs12 len b x = some o) : ∃ y q, o = .inl y ∧ y.2.2.2.1 = x.2.2.2.1 ++ q := by
  obtain ⟨pc, lo, st, h⟩ := x
  simp only [zs12, zgo, Bool.cond_eq_ite] at h0
  repeat' split at h0
  all_goals first
    | (cases h0; done)
    | (cases h0; exact ⟨_, [], rfl, (List.append_nil _).symm⟩)
    | (cases h0; exact ⟨_, [_], rfl, rfl⟩)
theorem zg_13 (h0 : zs13 len x = some o) : ∃ y q, o = .inl y ∧ y.2.2.2.1 = x.2.2.2.1 ++ q := by
  obtain ⟨pc, lo, st, h⟩ := x
  simp only [zs13, zgo, Bool.cond_eq_ite] at h0
  repeat' split at h0
  all_goals first
    | (cases h0; done)
    | (cases h0; exact ⟨_, [], rfl, (List.append_nil _).symm⟩)
    | (cases h0; exact ⟨_, [_], rfl, rfl⟩)
theorem zg_14 (h0 : zs14 len x = some o) : ∃ y q, o = .inl y ∧ y.2.2.2.1 = x.2.2.2.1 ++ q := by
  obtain ⟨pc, lo, st, h⟩ := x
  simp only [zs14, zgo, Bool.cond_eq_ite] at h0
  repeat' split at h0
  all_goals first
    | (cases h0; done)
    | (cases h0; exact ⟨_, [], rfl, (List.append_nil _).symm⟩)
    | (cases h0; exact ⟨_, [_], rfl, rfl⟩)
theorem zg_15 (h0 : zs15 len a b x = some o) : ∃ y q, o = .inl y ∧ y.2.2.2.1 = x.2.2.2.1 ++ q := by
  obtain ⟨pc, lo, st, h⟩ := x
  simp only [zs15, zgo, Bool.cond_eq_ite] at h0
  repeat' split at h0
  all_goals first
    | (cases h0; done)
    | (cases h0; exact ⟨_, [], rfl, (List.append_nil _).symm⟩)
    | (cases h0; exact ⟨_, [_], rfl, rfl⟩)
theorem zg_16 (h0 : zs16 len a b x = some o) : ∃ y q, o = .inl y ∧ y.2.2.2.1 = x.2.2.2.1 ++ q := by
  obtain ⟨pc, lo, st, h⟩ := x
  simp only [zs16, zgo, Bool.cond_eq_ite] at h0
  repeat' split at h0
  all_goals first
    | (cases h0; done)
    | (cases h0; exact ⟨_, [], rfl, (List.append_nil _).symm⟩)
    | (cases h0; exact ⟨_, [_], rfl, rfl⟩)
theorem zg_17 (h0 : zs17 a x = some o) : ∃ y q, o = .inl y ∧ y.2.2.2.1 = x.2.2.2.1 ++ q := by
  obtain ⟨pc, lo, st, h⟩ := x
  simp only [zs17, zgo, Bool.cond_eq_ite] at h0
  repeat' split at h0
  all_goals first
    | (cases h0; done)
    | (cases h0; exact ⟨_, [], rfl, (List.append_nil _).symm⟩)
    | (cases h0; exact ⟨_, [_], rfl, rfl⟩)
theorem zg_18 (h0 : zs18 a sw x = some o) : ∃ y q, o = .inl y ∧ y.2.2.2.1 = x.2.2.2.1 ++ q := by
  obtain ⟨pc, lo, st, h⟩ := x
  simp only [zs18, zgo, Bool.cond_eq_ite] at h0
  repeat' split at h0
  all_goals first
    | (cases h0; done)
    | (cases h0; exact ⟨_, [], rfl, (List.append_nil _).symm⟩)
    | (cases h0; exact ⟨_, [_], rfl, rfl⟩)
theorem zg_19 (h0 : zs19 len a v x = some o) : ∃ y q, o = .inl y ∧ y.2.2.2.1 = x.2.2.2.1 ++ q := by
  obtain ⟨pc, lo, st, h⟩ := x
  simp only [zs19, zgo, Bool.cond_eq_ite] at h0
  repeat' split at h0
  all_goals first
    | (cases h0; done)
    | (cases h0; exact ⟨_, [], rfl, (List.append_nil _).symm⟩)
    | (cases h0; exact ⟨_, [_], rfl, rfl⟩)
theorem zg_20 (h0 : zs20 len a b k3 x = some o) : ∃ y q, o = .inl y ∧ y.2.2.2.1 = x.2.2.2.1 ++ q := by
  obtain ⟨pc, lo, st, h⟩ := x
  simp only [zs20, zgo, Bool.cond_eq_ite] at h0
  repeat' split at h0
  all_goals first
    | (cases h0; done)
    | (cases h0; exact ⟨_, [], rfl, (List.append_nil _).symm⟩)
    | (cases h0; exact ⟨_, [_], rfl, rfl⟩)
theorem zg_21 (h0 : zs21 len a b k3 x = some o) : ∃ y q, o = .inl y ∧ y.2.2.2.1 = x.2.2.2.1 ++ q := by
  obtain ⟨pc, lo, st, h⟩ := x
  simp only [zs21, zgo, Bool.cond_eq_ite] at h0
  repeat' split at h0
  all_goals first
    | (cases h0; done)
    | (cases h0; exact ⟨_, [], rfl, (List.append_nil _).symm⟩)
    | (cases h0; exact ⟨_, [_], rfl, rfl⟩)
theorem zg_22 (h0 : zs22 len x = some o) : ∃ y q, o = .inl y ∧ y.2.2.2.1 = x.2.2.2.1 ++ q := by
  obtain ⟨pc, lo, st, h⟩ := x
  simp only [zs22, zgo, Bool.cond_eq_ite] at h0
  repeat' split at h0
  all_goals first
    | (cases h0; done)
    | (cases h0; exact ⟨_, [], rfl, (List.append_nil _).symm⟩)
    | (cases h0; exact ⟨_, [_], rfl, rfl⟩)
theorem zg_23 (h0 : zs23 len x = some o) : ∃ y q, o = .inl y ∧ y.2.2.2.1 = x.2.2.2.1 ++ q := by
  obtain ⟨pc, lo, st, h⟩ := x
  simp only [zs23, zgo, Bool.cond_eq_ite] at h0
  repeat' split at h0
  all_goals first
    | (cases h0; done)
    | (cases h0; exact ⟨_, [], rfl, (List.append_nil _).symm⟩)
    | (cases h0; exact ⟨_, [_], rfl, rfl⟩)
theorem zg_24 (h0 : zs24 len x = some o) : ∃ y q, o = .inl y ∧ y.2.2.2.1 = x.2.2.2.1 ++ q := by
  obtain ⟨pc, lo, st, h⟩ := x
  simp only [zs24, zgo, Bool.cond_eq_ite] at h0
  repeat' split at h0
  all_goals first
    | (cases h0; done)
    | (cases h0; exact ⟨_, [], rfl, (List.append_nil _).symm⟩)
    | (cases h0; exact ⟨_, [_], rfl, rfl⟩)
theorem zg_25 (h0 : zs25 len x = some o) : ∃ y q, o = .inl y ∧ y.2.2.2.1 = x.2.2.2.1 ++ q := by
  obtain ⟨pc, lo, st, h⟩ := x
  simp only [zs25, zgo, Bool.cond_eq_ite] at h0
  repeat' split at h0
  all_goals first
    | (cases h0; done)
    | (cases h0; exact ⟨_, [], rfl, (List.append_nil _).symm⟩)
    | (cases h0; exact ⟨_, [_], rfl, rfl⟩)
theorem zg_26 (h0 : zs26 len x = some o) : ∃ y q, o = .inl y ∧ y.2.2.2.1 = x.2.2.2.1 ++ q := by
  obtain ⟨pc, lo, st, h⟩ := x
  simp only [zs26, zgo, Bool.cond_eq_ite] at h0
  repeat' split at h0
  all_goals first
    | (cases h0; done)
    | (cases h0; exact ⟨_, [], rfl, (List.append_nil _).symm⟩)
    | (cases h0; exact ⟨_, [_], rfl, rfl⟩)
theorem zg_27 (h0 : zs27 len x = some o) : ∃ y q, o = .inl y ∧ y.2.2.2.1 = x.2.2.2.1 ++ q := by
  obtain ⟨pc, lo, st, h⟩ := x
  simp only [zs27, zgo, Bool.cond_eq_ite] at h0
  repeat' split at h0
  all_goals first
    | (cases h0; done)
    | (cases h0; exact ⟨_, [], rfl, (List.append_nil _).symm⟩)
    | (cases h0; exact ⟨_, [_], rfl, rfl⟩)
theorem zg_28 (h0 : zs28 len x = some o) : ∃ y q, o = .inl y ∧ y.2.2.2.1 = x.2.2.2.1 ++ q := by
  obtain ⟨pc, lo, st, h⟩ := x
  simp only [zs28, zgo, Bool.cond_eq_ite] at h0
  repeat' split at h0
  all_goals first
    | (cases h0; done)
    | (cases h0; exact ⟨_, [], rfl, (List.append_nil _).symm⟩)
    | (cases h0; exact ⟨_, [_], rfl, rfl⟩)
theorem zg_29 (h0 : zs29 len a b x = some o) : ∃ y q, o = .inl y ∧ y.2.2.2.1 = x.2.2.2.1 ++ q := by
  obtain ⟨pc, lo, st, h⟩ := x
  simp only [zs29, zgo, Bool.cond_eq_ite] at h0
  repeat' split at h0
  all_goals first
    | (cases h0; done)
    | (cases h0; exact ⟨_, [], rfl, (List.append_nil _).symm⟩)
    | (cases h0; exact ⟨_, [_], rfl, rfl⟩)
theorem zg_30 (h0 : zs30 len a x = some o) : ∃ y q, o = .inl y ∧ y.2.2.2.1 = x.2.2.2.1 ++ q := by
  obtain ⟨pc, lo, st, h⟩ := x
  simp only [zs30, zgo, Bool.cond_eq_ite] at h0
  repeat' split at h0
  all_goals first
    | (cases h0; done)
    | (cases h0; exact ⟨_, [], rfl, (List.append_nil _).symm⟩)
    | (cases h0; exact ⟨_, [_], rfl, rfl⟩)
theorem zg_31 (h0 : zs31 len b x = some o) : ∃ y q, o = .inl y ∧ y.2.2.2.1 = x.2.2.2.1 ++ q := by
  obtain ⟨pc, lo, st, h⟩ := x
  simp only [zs31, zgo, Bool.cond_eq_ite] at h0
  repeat' split at h0
  all_goals first
    | (cases h0; done)
    | (cases h0; exact ⟨_, [], rfl, (List.append_nil _).symm⟩)
    | (cases h0; exact ⟨_, [_], rfl, rfl⟩)
theorem zg_33 (h0 : zs33 len x = some o) : ∃ y q, o = .inl y ∧ y.2.2.2.1 = x.2.2.2.1 ++ q := by
  obtain ⟨pc, lo, st, h⟩ := x
  simp only [zs33, zgo, Bool.cond_eq_ite] at h0
  repeat' split at h0
  all_goals first
    | (cases h0; done)
    | (cases h0; exact ⟨_, [], rfl, (List.append_nil _).symm⟩)
    | (cases h0; exact ⟨_, [_], rfl, rfl⟩)
theorem zg_34 (h0 : zs34 len x = some o) : ∃ y q, o = .inl y ∧ y.2.2.2.1 = x.2.2.2.1 ++ q := by
  obtain ⟨pc, lo, st, h⟩ := x
  simp only [zs34, zgo, Bool.cond_eq_ite] at h0
  repeat' split at h0
  all_goals first
    | (cases h0; done)
    | (cases h0; exact ⟨_, [], rfl, (List.append_nil _).symm⟩)
    | (cases h0; exact ⟨_, [_], rfl, rfl⟩)
theorem zg_39 (h0 : zs39 len x = some o) : ∃ y q, o = .inl y ∧ y.2.2.2.1 = x.2.2.2.1 ++ q := by
  obtain ⟨pc, lo, st, h⟩ := x
  simp only [zs39, zgo, Bool.cond_eq_ite] at h0
  repeat' split at h0
  all_goals first
    | (cases h0; done)
    | (cases h0; exact ⟨_, [], rfl, (List.append_nil _).symm⟩)
    | (cases h0; exact ⟨_, [_], rfl, rfl⟩)
theorem zg_40 (h0 : zs40 len x = some o) : ∃ y q, o = .inl y ∧ y.2.2.2.1 = x.2.2.2.1 ++ q := by
  obtain ⟨pc, lo, st, h⟩ := x
  simp only [zs40, zgo, Bool.cond_eq_ite] at h0
  repeat' split at h0
  all_goals first
    | (cases h0; done)
    | (cases h0; exact ⟨_, [], rfl, (List.append_nil _).symm⟩)
    | (cases h0; exact ⟨_, [_], rfl, rfl⟩)
theorem zg_41 (h0 : zs41 len x = some o) : ∃ y q, o = .inl y ∧ y.2.2.2.1 = x.2.2.2.1 ++ q := by
  obtain ⟨pc, lo, st, h⟩ := x
  simp only [zs41, zgo, Bool.cond_eq_ite] at h0
  repeat' split at h0
  all_goals first
    | (cases h0; done)
    | (cases h0; exact ⟨_, [], rfl, (List.append_nil _).symm⟩)
    | (cases h0; exact ⟨_, [_], rfl, rfl⟩)
theorem zg_42 (h0 : zs42 len x = some o) : ∃ y q, o = .inl y ∧ y.2.2.2.1 = x.2.2.2.1 ++ q := by
  obtain ⟨pc, lo, st, h⟩ := x
  simp only [zs42, zgo, Bool.cond_eq_ite] at h0
  repeat' split at h0
  all_goals first
    | (cases h0; done)
    | (cases h0; exact ⟨_, [], rfl, (List.append_nil _).symm⟩)
    | (cases h0; exact ⟨_, [_], rfl, rfl⟩)
theorem zg_43 (h0 : zs43 len a x = some o) : ∃ y q, o = .inl y ∧ y.2.2.2.1 = x.2.2.2.1 ++ q := by
  obtain ⟨pc, lo, st, h⟩ := x
  simp only [zs43, zgo, Bool.cond_eq_ite] at h0
  repeat' split at h0
  all_goals first
    | (cases h0; done)
    | (cases h0; exact ⟨_, [], rfl, (List.append_nil _).symm⟩)
    | (cases h0; exact ⟨_, [_], rfl, rfl⟩)
theorem zg_44 (h0 : zs44 len x = some o) : ∃ y q, o = .inl y ∧ y.2.2.2.1 = x.2.2.2.1 ++ q := by
  obtain ⟨pc, lo, st, h⟩ := x
  simp only [zs44, zgo, Bool.cond_eq_ite] at h0
  repeat' split at h0
  all_goals first
    | (cases h0; done)
    | (cases h0; exact ⟨_, [], rfl, (List.append_nil _).symm⟩)
    | (cases h0; exact ⟨_, [_], rfl, rfl⟩)
theorem zg_32 (h0 : zs32 len a b k3 ci x = some o) : ∃ as y, o = .inr (.inl (a, as, y)) := by
  obtain ⟨pc, lo, st, h⟩ := x
  simp only [zs32, zgo, Bool.cond_eq_ite] at h0
  repeat' split at h0
  all_goals first
    | (cases h0; done)
    | (cases h0; exact ⟨_, _, rfl⟩)
theorem zg_35 (h0 : zs35 k3 x = some o) : ∃ r, o = .inr (.inr r) := by
  obtain ⟨pc, lo, st, h⟩ := x
  simp only [zs35, zgo, Bool.cond_eq_ite] at h0
  repeat' split at h0
  all_goals first
    | (cases h0; done)
    | (cases h0; exact ⟨_, rfl⟩)
theorem zg_36 (h0 : zs36  x = some o) : ∃ r, o = .inr (.inr r) := by
  obtain ⟨pc, lo, st, h⟩ := x
  simp only [zs36, zgo, Bool.cond_eq_ite] at h0
  repeat' split at h0
  all_goals first
    | (cases h0; done)
    | (cases h0; exact ⟨_, rfl⟩)
theorem zg_37 (h0 : zs37  x = some o) : ∃ r, o = .inr (.inr r) := by
  obtain ⟨pc, lo, st, h⟩ := x
  simp only [zs37, zgo, Bool.cond_eq_ite] at h0
  repeat' split at h0
  all_goals first
    | (cases h0; done)
    | (cases h0; exact ⟨_, rfl⟩)
theorem zg_38 (h0 : zs38  x = some o) : ∃ r, o = .inr (.inr r) := by
  obtain ⟨pc, lo, st, h⟩ := x
  simp only [zs38, zgo, Bool.cond_eq_ite] at h0
  repeat' split at h0
  all_goals first
    | (cases h0; done)
    | (cases h0; exact ⟨_, rfl⟩)
/-- what a step gives: on; a call, by instruction 32 alone; an end -/
theorem zg_all {op : Nat} (h0 : zstep (op, len, a, b, k3, v, sw) x = some o) : (∃ y q, o = .inl y ∧ y.2.2.2.1 = x.2.2.2.1 ++ q) ∨ (op = 32 ∧ ∃ as y, o = .inr (.inl (a, as, y))) ∨ ∃ r, o = .inr (.inr r) := by
  match op, h0 with
  | 0, h0 => exact Or.inl (zg_0 h0)
  | 1, h0 => exact Or.inl (zg_1 h0)
  | 2, h0 => exact Or.inl (zg_2 h0)
  | 3, h0 => exact Or.inl (zg_3 h0)
  | 4, h0 => exact Or.inl (zg_4 h0)
  | 5, h0 => exact Or.inl (zg_5 h0)
  | 6, h0 => exact Or.inl (zg_6 h0)
  | 7, h0 => exact Or.inl (zg_7 h0)
  | 8, h0 => exact Or.inl (zg_8 h0)
  | 9, h0 => exact Or.inl (zg_9 h0)
  | 10, h0 => exact Or.inl (zg_10 h0)
  | 11, h0 => exact Or.inl (zg_11 h0)
  | 12, h0 => exact Or.inl (zg_12 h0)
  | 13, h0 => exact Or.inl (zg_13 h0)
  | 14, h0 => exact Or.inl (zg_14 h0)
  | 15, h0 => exact Or.inl (zg_15 h0)
  | 16, h0 => exact Or.inl (zg_16 h0)
  | 17, h0 => exact Or.inl (zg_17 h0)
  | 18, h0 => exact Or.inl (zg_18 h0)
  | 19, h0 => exact Or.inl (zg_19 h0)
  | 20, h0 => exact Or.inl (zg_20 h0)
  | 21, h0 => exact Or.inl (zg_21 h0)
  | 22, h0 => exact Or.inl (zg_22 h0)
  | 23, h0 => exact Or.inl (zg_23 h0)
  | 24, h0 => exact Or.inl (zg_24 h0)
  | 25, h0 => exact Or.inl (zg_25 h0)
  | 26, h0 => exact Or.inl (zg_26 h0)
  | 27, h0 => exact Or.inl (zg_27 h0)
  | 28, h0 => exact Or.inl (zg_28 h0)
  | 29, h0 => exact Or.inl (zg_29 h0)
  | 30, h0 => exact Or.inl (zg_30 h0)
  | 31, h0 => exact Or.inl (zg_31 h0)
  | 32, h0 => exact Or.inr (Or.inl ⟨rfl, zg_32 h0⟩)
  | 33, h0 => exact Or.inl (zg_33 h0)
  | 34, h0 => exact Or.inl (zg_34 h0)
  | 35, h0 => exact Or.inr (Or.inr (zg_35 h0))
  | 36, h0 => exact Or.inr (Or.inr (zg_36 h0))
  | 37, h0 => exact Or.inr (Or.inr (zg_37 h0))
  | 38, h0 => exact Or.inr (Or.inr (zg_38 h0))
  | 39, h0 => exact Or.inl (zg_39 h0)
  | 40, h0 => exact Or.inl (zg_40 h0)
  | 41, h0 => exact Or.inl (zg_41 h0)
  | 42, h0 => exact Or.inl (zg_42 h0)
  | 43, h0 => exact Or.inl (zg_43 h0)
  | 44, h0 => exact Or.inl (zg_44 h0)
  | _ + 45, h0 => cases h0
end ZE
def zr : Nat → Nat → Nat → Nat → zC → Option (zC ⊕ (Option Value × zH))
  | 0, _, _, _, _ => none
  | f + 1, d, mi, stop, x => bif Nat.beq x.1 stop then some (.inl x) else match zi mi x.1 with
    | none => none
    | some e => match zstep e x with
      | none => none
      | some (.inl y) => zr f d mi stop y
      | some (.inr (.inr r)) => some (.inr (r, x.2.2.2))
      | some (.inr (.inl (a, as, y))) => match d with
        | 0 => none
        | d1 + 1 => bif Nat.beq (zpad (zL a) (zargs as)).length (zL a) then (match zr f d1 a 100000 (0, zpad (zL a) (zargs as), [], x.2.2.2) with
          | some (.inr (r, h1)) => zr f (d1 + 1) mi stop (y.1, y.2.1, r.toList ++ y.2.2.1, h1)
          | _ => none) else none
def zoh : zC ⊕ (Option Value × zH) → zH
  | .inl y => y.2.2.2
  | .inr q => q.2
theorem zslots_add : ∀ (l q : List (Nat × Nat)), zslots (l ++ q) = zslots l + zslots q
  | [], q => by simp [zslots]
  | x :: l, q => by simp [zslots, zslots_add l q]; omega
/-- one turn of a run -/
theorem zr_step {f d mi stop : Nat} {x : zC} {o : zC ⊕ (Option Value × zH)} (h : zr (f + 1) d mi stop x = some o) : (x.1 = stop ∧ o = .inl x) ∨ ∃ e, zi mi x.1 = some e ∧ ((∃ y, zstep e x = some (.inl y) ∧ zr f d mi stop y = some o) ∨ (∃ r, zstep e x = some (.inr (.inr r)) ∧ o = .inr (r, x.2.2.2)) ∨ ∃ a as y d1 r h1, zstep e x = some (.inr (.inl (a, as, y))) ∧ d = d1 + 1 ∧ (zpad (zL a) (zargs as)).length = zL a ∧ zr f d1 a 100000 (0, zpad (zL a) (zargs as), [], x.2.2.2) = some (.inr (r, h1)) ∧ zr f (d1 + 1) mi stop (y.1, y.2.1, r.toList ++ y.2.2.1, h1) = some o) := by
  simp only [zr] at h
  cases hb : Nat.beq x.1 stop
  · rw [hb] at h
    right
    dsimp only [cond_false] at h
    cases hz : zi mi x.1 with
    | none => rw [hz] at h; cases h
    | some e =>
      rw [hz] at h
      refine ⟨e, rfl, ?_⟩
      dsimp only at h
      cases hs : zstep e x with
      | none => rw [hs] at h; cases h
      | some w =>
        rw [hs] at h
        match w, h with
        | .inl y, h => exact Or.inl ⟨y, rfl, h⟩
        | .inr (.inr r), h =>
          cases h
          exact Or.inr (Or.inl ⟨r, rfl, rfl⟩)
        | .inr (.inl (a, as, y)), h =>
          right; right
          cases d with
          | zero => cases h
          | succ d1 =>
            dsimp only at h
            cases hl : Nat.beq (zpad (zL a) (zargs as)).length (zL a)
            · rw [hl] at h; cases h
            · rw [hl] at h
              dsimp only [cond_true] at h
              cases hq : zr f d1 a 100000 (0, zpad (zL a) (zargs as), [], x.2.2.2) with
              | none => rw [hq] at h; cases h
              | some u =>
                rw [hq] at h
                match u, h, hq with
                | .inl _, h, _ => cases h
                | .inr (r, h1), h, hq => exact ⟨a, as, y, d1, r, h1, rfl, rfl, Nat.eq_of_beq_eq_true hl, hq, h⟩
  · rw [hb] at h
    dsimp only [cond_true] at h
    cases h
    exact Or.inl ⟨Nat.eq_of_beq_eq_true hb, rfl⟩
theorem zr_ext : ∀ (f d mi stop : Nat) (x : zC) (o : zC ⊕ (Option Value × zH)), zr f d mi stop x = some o → ∃ q, (zoh o).1 = x.2.2.2.1 ++ q
  | 0, _, _, _, _, _, h => by cases h
  | f + 1, d, mi, stop, x, o, h => by
    rcases zr_step h with ⟨-, rfl⟩ | ⟨e, he, ⟨y, hy, hr⟩ | ⟨r, -, rfl⟩ | ⟨a, as, y, d1, r, h1, -, -, -, h2, h3⟩⟩
    · exact ⟨[], (List.append_nil _).symm⟩
    · obtain ⟨op, len, a, b, k3, v, sw⟩ := e
      rcases zg_all hy with ⟨y', q, e1, e2⟩ | ⟨-, as, y', e1⟩ | ⟨r, e1⟩
      · cases e1
        obtain ⟨q2, e3⟩ := zr_ext f d mi stop y o hr
        exact ⟨q ++ q2, by rw [e3, e2, List.append_assoc]⟩
      · cases e1
      · cases e1
    · exact ⟨[], (List.append_nil _).symm⟩
    · obtain ⟨q1, e1⟩ := zr_ext f d1 a 100000 _ _ h2
      obtain ⟨q2, e2⟩ := zr_ext f (d1 + 1) mi stop _ _ h3
      refine ⟨q1 ++ q2, ?_⟩
      rw [e2]
      show h1.1 ++ q2 = _
      have e1 : h1.1 = x.2.2.2.1 ++ q1 := e1
      rw [e1, List.append_assoc]
/-! CALLS: a method of the tables by its run in the small machine. -/
theorem ztake_spec : ∀ (n : Nat) (acc st as r : List Value), ztake n acc st = some (as, r) → ∃ fr, st = fr ++ r ∧ as = fr.reverse ++ acc ∧ fr.length = n
  | 0, acc, st, as, r, h => by
    cases h
    exact ⟨[], rfl, rfl, rfl⟩
  | n + 1, acc, [], as, r, h => by cases h
  | n + 1, acc, v :: st, as, r, h => by
    obtain ⟨fr, h1, h2, h3⟩ := ztake_spec n (v :: acc) st as r h
    exact ⟨v :: fr, by rw [h1]; rfl, by rw [h2]; simp, by simp [h3]⟩
theorem ztake_stack {n : Nat} {st as r : List Value} (h : ztake n [] st = some (as, r)) : st = as.reverse ++ r ∧ as.length = n := by
  obtain ⟨fr, h1, h2, h3⟩ := ztake_spec n [] st as r h
  rw [List.append_nil] at h2
  subst h2
  exact ⟨by rw [List.reverse_reverse]; exact h1, by simp [h3]⟩
theorem zm_facts {mi : Nat} {M : zM} (h : zm mi = some M) (hl : mi ≠ zlaw) : Cond.code M.1 M.2.1 M.2.2.1 M.2.2.2.1 ∈ zWall ∧ Cond.initialized M.1.cls ∈ zWall ∧ (M.2.2.2.2.2.1 = true → Cond.static M.1 ∈ zWall) ∧ (M.2.2.2.2.2.1 = false → Cond.instanceMethod M.1 ∈ zWall ∧ (M.1.name = "<init>" ∨ Cond.selects M.1.cls M.1 M.1 ∈ zWall)) ∧ plainName M.1.cls = true ∧ (M.1.cls ≠ "java/lang/invoke/MethodHandle" ∧ M.1.cls ≠ "java/lang/invoke/VarHandle") ∧ (parseMethodDescriptor M.1.desc).map (fun d => d.parameters.length) = some M.2.2.2.2.1 ∧ M.2.2.1 ≤ 20 ∧ zL mi = M.2.2.1 := by
  have q := zm_ok h hl
  obtain ⟨y, cc, L, r, n, st, p0, p1, p2, p3⟩ := M
  unfold zmchk at q
  dsimp only at q
  rw [Bool.and_eq_true, Bool.and_eq_true, Bool.and_eq_true, Bool.and_eq_true, Bool.and_eq_true, Bool.and_eq_true, Bool.and_eq_true] at q
  obtain ⟨⟨⟨⟨⟨⟨⟨q0, q1⟩, q2⟩, q3⟩, q4⟩, q5⟩, q6⟩, q7⟩ := q
  refine ⟨zw_in q0, zw_in q1, fun hs => ?_, fun hs => ?_, of_decide_eq_true q3, of_decide_eq_true q4, of_decide_eq_true q5, of_decide_eq_true q6, of_decide_eq_true q7⟩
  · have hs : st = true := hs
    subst hs
    exact zw_in q2
  · have hs : st = false := hs
    subst hs
    have q2 : (zis p2 (.instanceMethod y) && (decide (y.name = "<init>") || zis p3 (.selects y.cls y y))) = true := q2
    rw [Bool.and_eq_true, Bool.or_eq_true] at q2
    exact ⟨zw_in q2.1, q2.2.imp of_decide_eq_true (fun z => zw_in z)⟩
def zws (M : zM) : List Cond := .code M.1 M.2.1 M.2.2.1 M.2.2.2.1 :: zWall
theorem zws_good {mi : Nat} {M : zM} (h : zm mi = some M) (hl : mi ≠ zlaw) : GoodIn zWall (zws M) := by
  intro w hw
  have hin : w ∈ zWall := by
    rcases List.mem_cons.mp hw with rfl | hw
    · exact (zm_facts h hl).1
    · exact hw
  exact ⟨hin, good_of_word (List.all_eq_true.mp zWall_good w hin)⟩
def zRoom (d mc ms : Nat) : Room := { frames := d + 1, cells := mc, slots := ms, locals := 64 * (d + 1) }
def zPc (D : va_G) (sa : Nat → Nat) (base : Nat) (as : List Value) (h : zH) : Array Value → State → Prop := fun v U => v = (as.map (zv (zad sa base))).toArray ∧ zRep D sa base U U.heap h ∧ zG D sa base U U.heap
def zQc (D : va_G) (sa : Nat → Nat) (base : Nat) (r : Option Value) (h1 : zH) : Array Value → State → Outcome → State → Prop := fun _ st o t => o = .returned (r.map (zv (zad sa base))) ∧ zRep D sa base t t.heap h1 ∧ st.heap.size ≤ t.heap.size ∧ ∀ q : Nat, q < st.heap.size → ¬ base ≤ q → t.heap[q]? = st.heap[q]?
theorem zblind {D : va_G} {sa : Nat → Nat} {base : Nat} {as : List Value} {h : zH} : FrameBlind (zPc D sa base as h) := fun a U g mk q => ⟨q.1, zRep_moved (U := U) (U1 := U.calling g mk a) (Vm.Alike.refl U.vm) q.2.1, zG_same (s := U) (U := U.calling g mk a) rfl q.2.2⟩
/-- what instruction 32 hands over -/
theorem zs32_st {len a b ci pc : Nat} {lo : List (Option Value)} {st : List Value} {h : zH} {a' : Nat} {as : List Value} {y : zC} (hs : zs32 len a b 1 ci (pc, lo, st, h) = some (.inr (.inl (a', as, y)))) : ∃ r', ztake b [] st = some (as, r') ∧ zcat r' ≤ 8 ∧ y = (pc + len, lo, r', h) ∧ a' = a := by
  simp only [zs32] at hs
  cases ht : ztake b [] st with
  | none => rw [ht] at hs; cases hs
  | some q =>
    obtain ⟨as', r'⟩ := q
    rw [ht] at hs
    cases hz : Nat.ble (zcat r') 8
    · simp only [hz, cond_false] at hs
      cases hs
    · simp only [hz, cond_true] at hs
      cases hs
      exact ⟨r', rfl, Nat.ble_eq.mp hz, rfl, rfl⟩
theorem zs32_rf {len a b k3 ci pc : Nat} {lo : List (Option Value)} {st : List Value} {h : zH} {a' : Nat} {as : List Value} {y : zC} (hk : k3 ≠ 1) (hs : zs32 len a b k3 ci (pc, lo, st, h) = some (.inr (.inl (a', as, y)))) : ∃ o as1 n r', as = .ref o :: as1 ∧ zget h.1 o = some (10 + ci, n) ∧ ztake b [] st = some (as, r') ∧ zcat r' ≤ 8 ∧ y = (pc + len, lo, r', h) ∧ a' = a := by
  simp only [zs32] at hs
  cases ht : ztake b [] st with
  | none => rw [ht] at hs; cases hs
  | some q =>
    obtain ⟨as', r'⟩ := q
    rw [ht] at hs
    cases hz : Nat.ble (zcat r') 8
    · simp only [hz, cond_false] at hs
      cases hs
    · simp only [hz, cond_true] at hs
      split at hs
      · rename_i o as1
        cases ho : zget h.1 o with
        | none => rw [ho] at hs; cases hs
        | some tn =>
          obtain ⟨t, n⟩ := tn
          rw [ho] at hs
          dsimp only at hs
          cases hb : Nat.beq t (10 + ci)
          · rw [hb] at hs; cases hs
          · rw [hb] at hs
            have et := Nat.eq_of_beq_eq_true hb
            subst et
            cases hs
            exact ⟨o, as1, n, r', rfl, ho, rfl, Nat.ble_eq.mp hz, rfl, rfl⟩
      · cases hs
section ZF
variable {p : Program} {l : Launch} {e : Env} {R : Room} {s : State} {m : MethodId} {args : Array Value} {below : List Frame} {meth : Method} {c : Code} {H : Heap} {locs : List Loc} {cells slots : Nat} {Q : State → Prop}
variable {M M2 : zM} {D : va_G} {sa : Nat → Nat} {base : Nat} {pc len a b k3 ci : Nat} {v : Value} {sw : List (Int32 × Nat)} {i : Instr} {lo : List (Option Value)} {st : List Value} {h h1 : zH} {ls : Array Slot} {y : zC}
theorem zcallB {index : Nat} {own : String} (hts : ∀ w ∈ zWall, w.before args s = true) (h : zm a = some M2) (hl : a ≠ zlaw) (d mc ms : Nat) (hl2 : (Cond.methodLink own index M2.1).before args s = true) (hF : d + 2 ≤ R.frames ∧ 64 * (d + 2) ≤ R.locals) : CallB R s args own index M2.1 M2.2.1 M2.2.2.1 M2.2.2.2.1 (zws M2) (zRoom d mc ms) mc ms M2.2.2.2.2.1 := by
  obtain ⟨f1, f2, f3, f4, f5, f6, f7, f8, f9⟩ := zm_facts h hl
  exact callB_of _ hts (zws_good h hl) rfl rfl rfl (hts _ f2) hl2 ⟨f6.1, f6.2, f7⟩ ⟨by show d + 1 + 1 ≤ _; omega, by show 8 + (_ + 11) + 64 * (d + 1) ≤ _; omega⟩
theorem zcallN {index : Nat} {own host : String} (hts : ∀ w ∈ zWall, w.before args s = true) (h : zm a = some M2) (hl : a ≠ zlaw) (d mc ms : Nat) (hl2 : va_Nw (.methodLinkNest own index M2.1 host) s) (hF : d + 2 ≤ R.frames ∧ 64 * (d + 2) ≤ R.locals) : va_CN R s args own index M2.1 host M2.2.1 M2.2.2.1 M2.2.2.2.1 (zws M2) (zRoom d mc ms) mc ms M2.2.2.2.2.1 := by
  obtain ⟨f1, f2, f3, f4, f5, f6, f7, f8, f9⟩ := zm_facts h hl
  exact va_cnB _ hts (zws_good h hl) rfl rfl rfl hl2 (hts _ f2) ⟨f6.1, f6.2, f7⟩ ⟨by show d + 1 + 1 ≤ _; omega, by show 8 + (_ + 11) + 64 * (d + 1) ≤ _; omega⟩
theorem zback {mc ms : Nat} {st0 rest : List Value} {r : Option Value} {a' : Array Value} (hr : va_Run p l e R s m args below meth c H locs cells slots mc ms (F0 m pc ls st0) rest (zQc D sa base r h1 a') (zA base)) (hS : va_S (zA base) s.heap H locs) (kk : ∀ (H1 : Heap) (locs1 : List Loc), zRep D sa base s H1 h1 → va_S (zA base) s.heap H1 locs1 → W p l e R s m args below meth c H1 locs1 (cells + mc) (slots + ms) Q (F0 m (pc + 3) ls ((r.map (zv (zad sa base))).toList ++ rest))) : W p l e R s m args below meth c H locs cells slots Q (F0 m pc ls st0) := by
  intro T hT X
  obtain ⟨v, st₀, t, T', L, h0, X', hL, e1, e2, ⟨hv, hrep, hz, hk⟩, stp⟩ := hr T hT X
  cases hv
  rw [h0] at hz hk
  have ha : s.vm.Alike t.vm := by rw [← e2]; exact X'.warmed.alike
  obtain ⟨t2, a1, b1⟩ := kk T'.heap (locs ++ L) (by rw [e1]; exact zRep_moved ha.symm hrep) ⟨Nat.le_trans hS.1 (by rw [e1]; exact hz), fun q h1 h2 => by rw [e1, hk q (Nat.lt_of_lt_of_le h1 hS.1) h2]; exact hS.2.1 q h1 h2, fun q hq => by
    rcases List.mem_append.mp hq with h | h
    · exact hS.2.2 q h
    · exact hL q h⟩ T' rfl X'
  exact ⟨t2, stp t2 a1, b1⟩
theorem zpre_at (C : zX p s m args meth c M D sa base) (I : zIn D sa base M.2.2.1 s H locs lo h ls) (as : List Value) : ∀ U : State, U.heap = H → s.WarmedH U.vm → zPc D sa base as h (as.map (zv (zad sa base))).toArray U := by
  intro U hU hW
  subst hU
  exact ⟨rfl, zRep_moved hW.alike I.2.2.1, zG_warm hW (fun q h1 h2 => I.2.2.2.2.1 q h1 h2) C.2.2.2.2.2.2.1⟩
theorem zw_32 (C : zX p s m args meth c M D sa base) (hd : decode M.2.1 pc = .ok (i, len)) (hM2 : zm a = some M2) (hc : zc32 M.1.cls len a b k3 ci sw M2 i = true) (I : zIn D sa base M.2.2.1 s H locs lo h ls) {a' : Nat} {as : List Value} (hs : zs32 len a b k3 ci (pc, lo, st, h) = some (.inr (.inl (a', as, y)))) {d mc ms : Nat} {r : Option Value}
    (hMet : Met l M2.1 (zws M2) (zRoom d mc ms) (zPc D sa base as h) (zQc D sa base r h1) mc ms (zA base)) (hF : d + 2 ≤ R.frames ∧ 64 * (d + 2) ≤ R.locals) (hR : cells + mc ≤ R.cells ∧ slots + ms ≤ R.slots) (hmc : mc + h.1.length = h1.1.length) (hms : ms + zslots h.1 = zslots h1.1)
    (kk : zK p l e R s m args below meth c cells slots Q D sa base M.2.2.1 h (y.1, y.2.1, r.toList ++ y.2.2.1, h1)) : W p l e R s m args below meth c H locs cells slots Q (F0 m pc ls (st.map (zv (zad sa base)))) := by
  have hpre := zpre_at C I as
  obtain ⟨hx, hb, hml, hown, hnm, hts, hG, hbs⟩ := C
  have K : ∀ r' : List Value, y = (pc + 3, lo, r', h) → ∀ (H1 : Heap) (locs1 : List Loc), zRep D sa base s H1 h1 → va_S (zA base) s.heap H1 locs1 → W p l e R s m args below meth c H1 locs1 (cells + mc) (slots + ms) Q (F0 m (pc + 3) ls ((r.map (zv (zad sa base))).toList ++ r'.map (zv (zad sa base)))) := by
    intro r' ey H1 locs1 g1 g2
    subst ey
    have K0 := kk ls H1 locs1 (cells + mc) (slots + ms) ⟨I.1, I.2.1, g1, g2⟩ (by dsimp only; omega) (by dsimp only; omega)
    have es : List.map (zv (zad sa base)) (r.toList ++ r') = (r.map (zv (zad sa base))).toList ++ r'.map (zv (zad sa base)) := by cases r <;> simp
    rw [← es]
    exact K0
  have hfx : CallFix p m c M.2.1 M.2.2.1 s args zWall M.1.cls := ⟨hx, hb, hml, hown, hts⟩
  unfold zc32 at hc
  split at hc
  · rename_i k
    rw [Bool.and_eq_true, Bool.and_eq_true, Bool.and_eq_true, Bool.and_eq_true, Bool.and_eq_true, Bool.and_eq_true, Bool.and_eq_true, decide_eq_true_eq, decide_eq_true_eq, decide_eq_true_eq, decide_eq_true_eq, decide_eq_true_eq, decide_eq_true_eq, decide_eq_true_eq] at hc
    obtain ⟨⟨⟨⟨⟨⟨⟨c1, c2⟩, c3⟩, c4⟩, c5⟩, c6⟩, c7⟩, c8⟩ := hc
    subst c1; subst c2
    obtain ⟨o, as1, n, r', rfl, ho, ht, h8, ey, -⟩ := zs32_rf (by decide) hs
    obtain ⟨est, el⟩ := ztake_stack ht
    obtain ⟨q, q1, q2, cellB, g1, g2, g3, g4⟩ := zob I.2.2.1 ho
    have hq1 : q.1 = M2.1.cls := by
      unfold zkn at c6
      rw [q1] at c6
      exact Option.some.inj c6
    obtain ⟨f1, f2, f3, f4, f5, f6, f7, f8, f9⟩ := zm_facts hM2 c3
    have hcl := (hG.1.1 ci q (zcl_el q1)).2.1
    rw [hq1] at hcl
    have hsel := (f4 c4).2.resolve_left c7
    refine zback (va_runV (As := as1.map (zv (zad sa base))) (rest := r'.map (zv (zad sa base))) hfx hMet ⟨zcallB hts hM2 c3 d mc ms (hts _ (zw_in c8)) hF, hts _ (f4 c4).1, hts _ hsel⟩ ⟨zblind, ⟨cellB, g1, by rw [g3]; rfl, by rw [g2]; exact hcl⟩, hpre⟩ rfl (by rw [List.length_map]; have e1 : as1.length + 1 = b := el; omega) I.1.1 ?_ (lv_room (by rw [zcat_sum]; exact h8)) hd hR) I.2.2.2 (K r' ey)
    show st.map (zv (zad sa base)) = _
    rw [est]
    simp [zv]
  · rename_i k
    rw [Bool.and_eq_true, Bool.and_eq_true, Bool.and_eq_true, Bool.and_eq_true, Bool.and_eq_true, decide_eq_true_eq, decide_eq_true_eq, decide_eq_true_eq, decide_eq_true_eq, decide_eq_true_eq] at hc
    obtain ⟨⟨⟨⟨⟨c1, c2⟩, c3⟩, c4⟩, c5⟩, c8⟩ := hc
    subst c1; subst c2
    obtain ⟨r', ht, h8, ey, -⟩ := zs32_st hs
    obtain ⟨est, el⟩ := ztake_stack ht
    obtain ⟨f1, f2, f3, f4, f5, f6, f7, f8, f9⟩ := zm_facts hM2 c3
    refine zback (va_runS (As := as.map (zv (zad sa base))) (rest := r'.map (zv (zad sa base))) hfx hMet ⟨zcallB hts hM2 c3 d mc ms (hts _ (zw_in c8)) hF, hts _ (f3 c4)⟩ ⟨zblind, hpre⟩ rfl (by rw [List.length_map, el, c5]) I.1.1 ?_ (lv_room (by rw [zcat_sum]; exact h8)) hd hR) I.2.2.2 (K r' ey)
    show st.map (zv (zad sa base)) = _
    rw [est]
    simp
  · rename_i k
    rw [Bool.and_eq_true, Bool.and_eq_true, Bool.and_eq_true, Bool.and_eq_true, Bool.and_eq_true, Bool.and_eq_true, Bool.and_eq_true, decide_eq_true_eq, decide_eq_true_eq, decide_eq_true_eq, decide_eq_true_eq, decide_eq_true_eq, decide_eq_true_eq, decide_eq_true_eq] at hc
    obtain ⟨⟨⟨⟨⟨⟨⟨c1, c3⟩, c4⟩, c7⟩, cv⟩, c5⟩, c6⟩, c8⟩ := hc
    subst c1
    obtain ⟨f1, f2, f3, f4, f5, f6, f7, f8, f9⟩ := zm_facts hM2 c3
    have hk : k3 ≠ 1 := by
      intro q
      subst q
      cases c8
    obtain ⟨o, as1, n, r', rfl, ho, ht, h8, ey, -⟩ := zs32_rf hk hs
    obtain ⟨est, el⟩ := ztake_stack ht
    have hst : st.map (zv (zad sa base)) = (as1.map (zv (zad sa base))).reverse ++ .ref (zad sa base o) :: r'.map (zv (zad sa base)) := by
      rw [est]
      simp [zv]
    have hal : (as1.map (zv (zad sa base))).length = M2.2.2.2.2.1 := by rw [List.length_map]; have e1 : as1.length + 1 = b := el; omega
    split at c8
    · have cb := zcallB hts hM2 c3 d mc ms (hts _ (zw_in c8)) hF
      rw [cv] at cb
      exact zback (va_runI (As := as1.map (zv (zad sa base))) (rest := r'.map (zv (zad sa base))) hfx hMet ⟨cb, c7, hts _ (f4 c4).1⟩ ⟨zblind, hpre⟩ rfl hal I.1.1 hst (lv_room (by rw [zcat_sum]; exact h8)) hd hR) I.2.2.2 (K r' ey)
    · rw [decide_eq_true_eq] at c8
      have cb := zcallN hts hM2 c3 d mc ms (hG.2.1 _ (zget_mem c8)) hF
      rw [cv] at cb
      exact zback (va_runIN (As := as1.map (zv (zad sa base))) (rest := r'.map (zv (zad sa base))) hfx hMet ⟨cb, c7, hts _ (f4 c4).1⟩ ⟨zblind, hpre⟩ rfl hal I.1.1 hst (lv_room (by rw [zcat_sum]; exact h8)) hd hR) I.2.2.2 (K r' ey)
    · cases c8
  · cases hc
end ZF
