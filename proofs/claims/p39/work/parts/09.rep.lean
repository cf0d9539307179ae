/-! WHAT THE HEAP HOLDS: kept, changed at one cell, grown by one, seen from another state; the classes' own facts. -/
theorem zget_el {α : Type} : ∀ (l : List α) (i : Nat), zget l i = l[i]?
  | [], _ => rfl
  | _ :: _, 0 => rfl
  | _ :: l, i + 1 => (zget_el l i).trans (by simp)
theorem zcl_el {c : Nat} {q : vw_C} (h : zget vwCl c = some q) : vwCl[c]? = some q := (zget_el _ _).symm.trans h
/-- a class of the table by its number -/
theorem zcl_by {P : Nat → vw_C → Prop} (h0 : P 0 (RX0, TX0, 6)) (h1 : P 1 (RX1, TX1, 6)) (h2 : P 2 (RX2, TX2, 11)) (h3 : P 3 (RX3, TX3, 7)) (h4 : P 4 (RX4, TX4, 4)) (h5 : P 5 (RX5, TX5, 4)) (h6 : P 6 (RX6, TX6, 3)) (h7 : P 7 (RX7, TX7, 5)) (h8 : P 8 (RX8, TX8, 5)) (h9 : P 9 (RX9, TX9, 7)) (h10 : P 10 (RX10, TX10, 5)) (h11 : P 11 (RX11, TX11, 14)) (h12 : P 12 (RX12, TX12, 49)) {c : Nat} {q : vw_C} (h : zget vwCl c = some q) : P c q := by
  match c, h with
  | 0, h => cases h; exact h0
  | 1, h => cases h; exact h1
  | 2, h => cases h; exact h2
  | 3, h => cases h; exact h3
  | 4, h => cases h; exact h4
  | 5, h => cases h; exact h5
  | 6, h => cases h; exact h6
  | 7, h => cases h; exact h7
  | 8, h => cases h; exact h8
  | 9, h => cases h; exact h9
  | 10, h => cases h; exact h10
  | 11, h => cases h; exact h11
  | 12, h => cases h; exact h12
  | _ + 13, h => cases h
theorem zcl_in {c : Nat} {q : vw_C} (h : zget vwCl c = some q) : ∀ w ∈ u_ws q.1 q.2.1 q.2.2, w ∈ zWall :=
  zcl_by (P := fun _ q => ∀ w ∈ u_ws q.1 q.2.1 q.2.2, w ∈ zWall) zin_0 zin_1 zin_2 zin_3 zin_4 zin_5 zin_6 zin_7 zin_8 zin_9 zin_10 zin_11 zin_12 h
theorem zcl_nm {c : Nat} {q : vw_C} (h : zget vwCl c = some q) : ∀ a, a < q.2.2 → ∀ b, b < q.2.2 → a ≠ b → (q.2.1 a).2.1 ≠ (q.2.1 b).2.1 :=
  zcl_by (P := fun _ q => ∀ a, a < q.2.2 → ∀ b, b < q.2.2 → a ≠ b → (q.2.1 a).2.1 ≠ (q.2.1 b).2.1) nmX0 nmX1 nmX2 nmX3 nmX4 nmX5 nmX6 nmX7 nmX8 nmX9 nmX10 nmX11 nmX12 h
theorem zcl_ty {c : Nat} {q : vw_C} (h : zget vwCl c = some q) : ∃ ty : Nat → FieldType, (∀ k, k < q.2.2 → parseFieldDescriptor (q.2.1 k).2.2.1 = some (ty k)) ∧ ∀ k, k < q.2.2 → defaultValue (ty k) = bif zft c k then .null else .int 0 :=
  zcl_by (P := fun c q => ∃ ty : Nat → FieldType, (∀ k, k < q.2.2 → parseFieldDescriptor (q.2.1 k).2.2.1 = some (ty k)) ∧ ∀ k, k < q.2.2 → defaultValue (ty k) = bif zft c k then .null else .int 0)
    ⟨tyX0, tyX0_ok, by decide +kernel⟩ ⟨tyX1, tyX1_ok, by decide +kernel⟩ ⟨tyX2, tyX2_ok, by decide +kernel⟩ ⟨tyX3, tyX3_ok, by decide +kernel⟩ ⟨tyX4, tyX4_ok, by decide +kernel⟩ ⟨tyX5, tyX5_ok, by decide +kernel⟩ ⟨tyX6, tyX6_ok, by decide +kernel⟩ ⟨tyX7, tyX7_ok, by decide +kernel⟩ ⟨tyX8, tyX8_ok, by decide +kernel⟩ ⟨tyX9, tyX9_ok, by decide +kernel⟩ ⟨tyX10, tyX10_ok, by decide +kernel⟩ ⟨tyX11, tyX11_ok, by decide +kernel⟩ ⟨tyX12, tyX12_ok, by decide +kernel⟩ h
theorem zcl_own {c : Nat} {q : vw_C} (h : zget vwCl c = some q) : ∀ k, k < q.2.2 → (q.2.1 k).1 = q.1 :=
  zcl_by (P := fun _ q => ∀ k, k < q.2.2 → (q.2.1 k).1 = q.1) (by decide +kernel) (by decide +kernel) (by decide +kernel) (by decide +kernel) (by decide +kernel) (by decide +kernel) (by decide +kernel) (by decide +kernel) (by decide +kernel) (by decide +kernel) (by decide +kernel) (by decide +kernel) (by decide +kernel) h
theorem zv_rf (ad : Nat → Nat) (r : Option Nat) : zv ad (va_rf r) = va_rf (r.map ad) := by cases r <;> rfl
theorem zad_lo {sa : Nat → Nat} {base k : Nat} (h : k < 6) : zad sa base k = sa k := if_pos h
theorem zad_hi {sa : Nat → Nat} {base k : Nat} (h : 6 ≤ k) : zad sa base k = base + (k - 6) := if_neg (by omega)
section ZR
variable {D : va_G} {ad : Nat → Nat} {A : Nat → Prop} {U U1 : State} {H H1 : Heap} {h h1 : zH} {k n t : Nat} {sa : Nat → Nat} {base : Nat}
theorem zcell_ob (ht : 10 ≤ t) : zcell D ad A U H h k n t = ∃ q : vw_C, 10 ≤ t ∧ zget vwCl (t - 10) = some q ∧ q.2.2 = n ∧ t_OB (ad k) (D.1 (t - 10)) n (D.2 (t - 10)) H (zfv ad h k (t - 10)) := by
  obtain ⟨u, rfl⟩ : ∃ u, t = u + 6 := ⟨t - 6, by omega⟩
  rfl
theorem zfv_eq {c : Nat} (e1 : h1.2.1 k = h.2.1 k) (e3 : h1.2.2.2 k = h.2.2.2 k) : zfv ad h1 k c = zfv ad h k c := by
  funext j
  unfold zfv
  rw [e1, e3]
theorem zcell_kept (q : zcell D ad A U H h k n t) (hq : H1[ad k]? = H[ad k]?) (e1 : h1.2.1 k = h.2.1 k) (e2 : h1.2.2.1 k = h.2.2.1 k) (e3 : h1.2.2.2 k = h.2.2.2 k) : zcell D ad A U H1 h1 k n t := by
  match t, q with
  | 0, q =>
    obtain ⟨cA, a1, a2⟩ := q
    exact ⟨cA, by rw [hq, e1]; exact a1, a2⟩
  | 1, q =>
    obtain ⟨cA, a1, a2⟩ := q
    exact ⟨cA, by rw [hq, e2]; exact a1, a2⟩
  | 2, q =>
    obtain ⟨cA, a1, a2⟩ := q
    exact ⟨cA, by rw [hq, e3]; exact a1, a2⟩
  | 3, q =>
    obtain ⟨cA, a1, a2⟩ := q
    exact ⟨cA, by rw [hq, e3]; exact a1, a2⟩
  | 4, q =>
    obtain ⟨cA, a1, a2⟩ := q
    exact ⟨cA, by rw [hq, e3]; exact a1, a2⟩
  | 5, q =>
    obtain ⟨cell, a1, a2⟩ := q
    exact ⟨cell, by rw [hq]; exact a1, by rw [e1]; exact a2⟩
  | t + 6, q =>
    obtain ⟨x, a1, a2, a3, a4⟩ := q
    exact ⟨x, a1, a2, a3, by rw [zfv_eq e1 e3]; exact a4.kept hq⟩
theorem zcell_lt (q : zcell D ad A U H h k n t) : ad k < H.size := by
  match t, q with
  | 0, q =>
    obtain ⟨cA, a1, a2⟩ := q
    exact (Array.getElem?_eq_some_iff.mp a1).1
  | 1, q =>
    obtain ⟨cA, a1, a2⟩ := q
    exact (Array.getElem?_eq_some_iff.mp a1).1
  | 2, q =>
    obtain ⟨cA, a1, a2⟩ := q
    exact (Array.getElem?_eq_some_iff.mp a1).1
  | 3, q =>
    obtain ⟨cA, a1, a2⟩ := q
    exact (Array.getElem?_eq_some_iff.mp a1).1
  | 4, q =>
    obtain ⟨cA, a1, a2⟩ := q
    exact (Array.getElem?_eq_some_iff.mp a1).1
  | 5, q =>
    obtain ⟨cell, a1, a2⟩ := q
    exact (Array.getElem?_eq_some_iff.mp a1).1
  | t + 6, q =>
    obtain ⟨x, a1, a2, a3, cell, a4, a5⟩ := q
    exact (Array.getElem?_eq_some_iff.mp a4).1
theorem zcell_moved (hvm : U.vm.Alike U1.vm) (q : zcell D ad A U H h k n t) : zcell D ad A U1 H h k n t := by
  match t, q with
  | 0, q =>
    obtain ⟨cA, a1, a2⟩ := q
    exact ⟨cA, a1, arrOfT_moved hvm a2⟩
  | 1, q =>
    obtain ⟨cA, a1, a2⟩ := q
    exact ⟨cA, a1, arrOfT_moved hvm a2⟩
  | 2, q =>
    obtain ⟨cA, a1, a2, a3⟩ := q
    exact ⟨cA, a1, arrOfT_moved hvm a2, a3.moved hvm⟩
  | 3, q =>
    obtain ⟨cA, a1, a2, a3⟩ := q
    exact ⟨cA, a1, arrOfT_moved hvm a2, a3.moved hvm⟩
  | 4, q =>
    obtain ⟨cA, a1, a2, a3⟩ := q
    exact ⟨cA, a1, arrOfT_moved hvm a2, a3.moved hvm⟩
  | 5, q => exact va_T.moved hvm q
  | t + 6, q => exact q
theorem zRep_moved (hvm : U.vm.Alike U1.vm) (r : zRep D sa base U H h) : zRep D sa base U1 H h :=
  ⟨r.1, r.2.1, fun k t n hk => zcell_moved hvm (r.2.2.1 k t n hk), r.2.2.2⟩
theorem zRep_hi (r : zRep D sa base U H h) {o : Nat} (ho : zget h.1 o = some (t, n)) (ht : t ≠ 5) : 6 ≤ o := by
  rcases Nat.lt_or_ge o 6 with q | q
  · exact absurd ((r.2.2.2.1 _ _ _ ho).mp q) ht
  · exact q
theorem zRep_A (r : zRep D sa base U H h) {o : Nat} (ho : zget h.1 o = some (t, n)) (ht : t ≠ 5) : zA base (zad sa base o) := by
  rw [zad_hi (zRep_hi r ho ht)]
  exact Nat.le_add_right _ _
theorem zRep_set (r : zRep D sa base U H h) {o : Nat} (ho : zget h.1 o = some (t, n)) (ht : t ≠ 5) (z : H1.size = H.size) (oq : ∀ q : Nat, q ≠ zad sa base o → H1[q]? = H[q]?) (e0 : h1.1 = h.1) (e1 : ∀ k, k ≠ o → h1.2.1 k = h.2.1 k) (e2 : ∀ k, k ≠ o → h1.2.2.1 k = h.2.2.1 k) (e3 : ∀ k, k ≠ o → h1.2.2.2 k = h.2.2.2 k)
    (hc : zcell D (zad sa base) (zA base) U H1 h1 o n t) : zRep D sa base U H1 h1 := by
  have o6 := zRep_hi r ho ht
  obtain ⟨r1, r2, r3, r4, r5⟩ := r
  refine ⟨by rw [z, e0]; exact r1, by rw [e0]; exact r2, fun k t' n' hk => ?_, by rw [e0]; exact r4, by rw [e0]; exact r5⟩
  rw [e0] at hk
  by_cases hko : k = o
  · subst hko
    rw [ho] at hk
    cases hk
    exact hc
  · refine zcell_kept (r3 k t' n' hk) (oq _ ?_) (e1 k hko) (e2 k hko) (e3 k hko)
    rw [zad_hi o6]
    rcases Nat.lt_or_ge k 6 with q | q
    · have e5 : t' = 5 := (r4 _ _ _ hk).mp q
      subst e5
      have hout : ¬ base ≤ zad sa base k := va_T.out (r3 k 5 n' hk)
      omega
    · rw [zad_hi q]
      omega
theorem zRep_new (r : zRep D sa base U H h) (ht : t ≠ 5) (hn : n < 2 ^ 31) (z : H1.size = H.size + 1) (oq : ∀ q : Nat, q < H.size → H1[q]? = H[q]?) (hc : zcell D (zad sa base) (zA base) U H1 (znew h t n) h.1.length n t) : zRep D sa base U H1 (znew h t n) := by
  obtain ⟨r1, r2, r3, r4, r5⟩ := r
  have hl : (znew h t n).1.length = h.1.length + 1 := by simp [znew]
  refine ⟨by rw [z, hl]; omega, by rw [hl]; omega, fun k t' n' hk => ?_, fun k t' n' hk => ?_, fun k t' n' hk => ?_⟩
  · rcases zget_new _ _ _ _ hk with q | ⟨q, e⟩
    · have hne : k ≠ h.1.length := Nat.ne_of_lt (zget_lt q)
      refine zcell_kept (r3 k t' n' q) (oq _ (zcell_lt (r3 k t' n' q))) (zrow_ne hne) (zrow_ne hne) (zrow_ne hne)
    · subst q
      cases e
      exact hc
  · rcases zget_new _ _ _ _ hk with q | ⟨q, e⟩
    · exact r4 k t' n' q
    · subst q
      cases e
      exact ⟨fun x => by omega, fun x => absurd x ht⟩
  · rcases zget_new _ _ _ _ hk with q | ⟨q, e⟩
    · exact r5 k t' n' q
    · subst q
      cases e
      exact hn
theorem zad_new (r : zRep D sa base U H h) : zad sa base h.1.length = H.size := by
  obtain ⟨r1, r2, -⟩ := r
  rw [zad_hi r2]
  omega
theorem zob (r : zRep D sa base U H h) {o a : Nat} (ho : zget h.1 o = some (10 + a, n)) : ∃ q : vw_C, zget vwCl a = some q ∧ q.2.2 = n ∧ t_OB (zad sa base o) (D.1 a) n (D.2 a) H (zfv (zad sa base) h o a) := by
  have q := r.2.2.1 _ _ _ ho
  rw [zcell_ob (by omega)] at q
  obtain ⟨x, -, a2, a3, a4⟩ := q
  rw [show 10 + a - 10 = a by omega] at a2 a4
  exact ⟨x, a2, a3, a4⟩
theorem zcell_of {o a : Nat} {q : vw_C} (h1 : zget vwCl a = some q) (h2 : q.2.2 = n) (h3 : t_OB (ad o) (D.1 a) n (D.2 a) H (zfv ad h o a)) : zcell D ad A U H h o n (10 + a) := by
  rw [zcell_ob (by omega)]
  rw [show 10 + a - 10 = a by omega]
  exact ⟨q, by omega, h1, h2, h3⟩
end ZR
theorem zN_nest : ∀ w ∈ zN, (∃ a i b n d h, w = .fieldLinkNest a i b n d h) ∨ ∃ a i x h, w = .methodLinkNest a i x h := by
  have h : zN.all (fun w => match w with | .fieldLinkNest .. => true | .methodLinkNest .. => true | _ => false) = true := by decide +kernel
  intro w hw
  have q := List.all_eq_true.mp h w hw
  split at q
  · exact Or.inl ⟨_, _, _, _, _, _, rfl⟩
  · exact Or.inr ⟨_, _, _, _, rfl⟩
  · cases q
theorem zG_warm {D : va_G} {sa : Nat → Nat} {base : Nat} {s U : State} {H : Heap} (hW : s.WarmedH U.vm) (hS : ∀ q : Nat, q < s.heap.size → ¬ base ≤ q → H[q]? = s.heap[q]?) (g : zG D sa base s s.heap) : zG D sa base U H := by
  refine ⟨va_K.moved hW.alike g.1, fun w hw => ?_, fun t h1 h2 => (g.2.2.1 t h1 h2).moved hW.alike, fun a h1 h2 => ((g.2.2.2 a h1 h2).moved hW.alike).kept hS⟩
  rcases zN_nest w hw with ⟨_, _, _, _, _, _, rfl⟩ | ⟨_, _, _, _, rfl⟩
  · exact va_Nw.warmF hW (g.2.1 _ hw)
  · exact va_Nw.warmM hW (g.2.1 _ hw)
theorem zG_same {D : va_G} {sa : Nat → Nat} {base : Nat} {s U : State} {H : Heap} (hvm : s.vm = U.vm) (g : zG D sa base s H) : zG D sa base U H := by
  have ha : s.vm.Alike U.vm := hvm ▸ Vm.Alike.refl s.vm
  refine ⟨va_K.moved ha g.1, fun w hw => ?_, fun t h1 h2 => (g.2.2.1 t h1 h2).moved ha, fun a h1 h2 => (g.2.2.2 a h1 h2).moved ha⟩
  exact va_Nw.same (List.all_eq_true.mp zN_tabs w hw) hvm (g.2.1 w hw)
