/-! THE START: what the Statement gives of the static rows, the classes, the script. -/
noncomputable def zsl : Nat → Nat
  | 1 => 12
  | 2 => 12
  | 3 => 3
  | 4 => 8
  | _ => 32
theorem zfl_1 : ∀ j, j < 12 → Cond.eq (.elem (.static "ColdShod" "MOST" "[I") (.int (Int32.ofNat j))) (.int (zst0 1 j)) ∈ flatC (Jvm.Cond.and given_1 narrow_1) := by decide +kernel
theorem zfa_1 : Cond.arrayOf (.static "ColdShod" "MOST" "[I") .int ∈ flatC (Jvm.Cond.and given_1 narrow_1) ∧ Cond.eq (.length (.static "ColdShod" "MOST" "[I")) (.int (Int32.ofNat 12)) ∈ flatC (Jvm.Cond.and given_1 narrow_1) := by decide +kernel
theorem zft_1 : Cond.laysStatic "ColdShod" "MOST" "[I" ∈ lw_tbl ∧ Cond.initialized "ColdShod" ∈ lw_tbl := by decide +kernel
theorem zfl_2 : ∀ j, j < 12 → Cond.eq (.elem (.static "ColdShod" "LEAST" "[I") (.int (Int32.ofNat j))) (.int (zst0 2 j)) ∈ flatC (Jvm.Cond.and given_1 narrow_1) := by decide +kernel
theorem zfa_2 : Cond.arrayOf (.static "ColdShod" "LEAST" "[I") .int ∈ flatC (Jvm.Cond.and given_1 narrow_1) ∧ Cond.eq (.length (.static "ColdShod" "LEAST" "[I")) (.int (Int32.ofNat 12)) ∈ flatC (Jvm.Cond.and given_1 narrow_1) := by decide +kernel
theorem zft_2 : Cond.laysStatic "ColdShod" "LEAST" "[I" ∈ lw_tbl ∧ Cond.initialized "ColdShod" ∈ lw_tbl := by decide +kernel
theorem zfl_3 : ∀ j, j < 3 → Cond.eq (.elem (.static "ColdShod" "SMITH_DEEDS" "[I") (.int (Int32.ofNat j))) (.int (zst0 3 j)) ∈ flatC (Jvm.Cond.and given_1 narrow_1) := by decide +kernel
theorem zfa_3 : Cond.arrayOf (.static "ColdShod" "SMITH_DEEDS" "[I") .int ∈ flatC (Jvm.Cond.and given_1 narrow_1) ∧ Cond.eq (.length (.static "ColdShod" "SMITH_DEEDS" "[I")) (.int (Int32.ofNat 3)) ∈ flatC (Jvm.Cond.and given_1 narrow_1) := by decide +kernel
theorem zft_3 : Cond.laysStatic "ColdShod" "SMITH_DEEDS" "[I" ∈ lw_tbl ∧ Cond.initialized "ColdShod" ∈ lw_tbl := by decide +kernel
theorem zfl_4 : ∀ j, j < 8 → Cond.eq (.elem (.static "ColdShod$Acts" "ABOVE" "[I") (.int (Int32.ofNat j))) (.int (zst0 4 j)) ∈ flatC (Jvm.Cond.and given_1 narrow_1) := by decide +kernel
theorem zfa_4 : Cond.arrayOf (.static "ColdShod$Acts" "ABOVE" "[I") .int ∈ flatC (Jvm.Cond.and given_1 narrow_1) ∧ Cond.eq (.length (.static "ColdShod$Acts" "ABOVE" "[I")) (.int (Int32.ofNat 8)) ∈ flatC (Jvm.Cond.and given_1 narrow_1) := by decide +kernel
theorem zft_4 : Cond.laysStatic "ColdShod$Acts" "ABOVE" "[I" ∈ lw_tbl ∧ Cond.initialized "ColdShod$Acts" ∈ lw_tbl := by decide +kernel
theorem zfl_5 : ∀ j, j < 32 → Cond.eq (.elem (.static "ColdShod$Acts" "BODIES" "[I") (.int (Int32.ofNat j))) (.int (zst0 5 j)) ∈ flatC (Jvm.Cond.and given_1 narrow_1) := by decide +kernel
theorem zfa_5 : Cond.arrayOf (.static "ColdShod$Acts" "BODIES" "[I") .int ∈ flatC (Jvm.Cond.and given_1 narrow_1) ∧ Cond.eq (.length (.static "ColdShod$Acts" "BODIES" "[I")) (.int (Int32.ofNat 32)) ∈ flatC (Jvm.Cond.and given_1 narrow_1) := by decide +kernel
theorem zft_5 : Cond.laysStatic "ColdShod$Acts" "BODIES" "[I" ∈ lw_tbl ∧ Cond.initialized "ColdShod$Acts" ∈ lw_tbl := by decide +kernel
theorem zao_t : Cond.arrayOver (.object RX3) ∈ lw_tbl ∧ Cond.arrayOver (.object RX7) ∈ lw_tbl ∧ Cond.arrayOver (.object RX8) ∈ lw_tbl := by decide +kernel
theorem zstat {args : Array Value} {s : State} {A : Nat → Prop} (hgv : (Jvm.Cond.and given_1 narrow_1).before args s = true) (hts : ∀ w ∈ lw_tbl, w.before args s = true) (hA : ∀ a : Nat, a < s.heap.size → ¬ A a) : ∀ a, 1 ≤ a → a ≤ 5 → ∃ t : Nat, va_Z (zsC a) (zsN a) "[I" (.ref t) A s s.heap ∧ va_T .int t (zsl a) (fun j => .int (zst0 a j)) A s s.heap := by
  have hs := flat_of_before _ hgv
  have key : ∀ (C n : String) (N a : Nat), N < 2 ^ 31 → (Cond.arrayOf (.static C n "[I") .int ∈ flatC (Jvm.Cond.and given_1 narrow_1) ∧ Cond.eq (.length (.static C n "[I")) (.int (Int32.ofNat N)) ∈ flatC (Jvm.Cond.and given_1 narrow_1)) → (∀ j, j < N → Cond.eq (.elem (.static C n "[I") (.int (Int32.ofNat j))) (.int (zst0 a j)) ∈ flatC (Jvm.Cond.and given_1 narrow_1)) → (Cond.laysStatic C n "[I" ∈ lw_tbl ∧ Cond.initialized C ∈ lw_tbl) → ∃ t : Nat, va_Z C n "[I" (.ref t) A s s.heap ∧ va_T .int t N (fun j => .int (zst0 a j)) A s s.heap := by
    intro C n N a hN m1 m3 m4
    obtain ⟨t, ht, hT⟩ := va_Tof (f := fun j => .int (zst0 a j)) (A := A) hN (hs _ m1.1) (va_eqt (hs _ m1.2)) (fun j hj => va_eqt (hs _ (m3 j hj))) hA
    exact ⟨t, va_Zof (hts _ m4.1) (hts _ m4.2) ht hA, hT⟩
  intro a h1 h5
  rcases (show a = 1 ∨ a = 2 ∨ a = 3 ∨ a = 4 ∨ a = 5 by omega) with rfl | rfl | rfl | rfl | rfl
  · exact key "ColdShod" "MOST" 12 1 (by decide) zfa_1 zfl_1 zft_1
  · exact key "ColdShod" "LEAST" 12 2 (by decide) zfa_2 zfl_2 zft_2
  · exact key "ColdShod" "SMITH_DEEDS" 3 3 (by decide) zfa_3 zfl_3 zft_3
  · exact key "ColdShod$Acts" "ABOVE" 8 4 (by decide) zfa_4 zfl_4 zft_4
  · exact key "ColdShod$Acts" "BODIES" 32 5 (by decide) zfa_5 zfl_5 zft_5
theorem zcl_inst {c : Nat} {q : vw_C} (h : zget vwCl c = some q) : Cond.instantiable q.1 q.2.2 ∈ zWall :=
  zcl_by (P := fun _ q => Cond.instantiable q.1 q.2.2 ∈ zWall) (zw_in (p := 706) (by decide +kernel)) (zw_in (p := 707) (by decide +kernel)) (zw_in (p := 708) (by decide +kernel)) (zw_in (p := 709) (by decide +kernel)) (zw_in (p := 710) (by decide +kernel)) (zw_in (p := 711) (by decide +kernel)) (zw_in (p := 712) (by decide +kernel)) (zw_in (p := 713) (by decide +kernel)) (zw_in (p := 714) (by decide +kernel)) (zw_in (p := 715) (by decide +kernel)) (zw_in (p := 716) (by decide +kernel)) (zw_in (p := 717) (by decide +kernel)) (zw_in (p := 718) (by decide +kernel)) h
theorem zknown {args : Array Value} {s : State} (hts : ∀ w ∈ zWall, w.before args s = true) : ∃ D : va_G, va_K D vwCl [] s := by
  have h : ∀ k, ∃ (cC : ClassId) (iS : Nat → Nat), ∀ q, zget vwCl k = some q → u_Kn s q.1 q.2.1 q.2.2 cC iS := by
    intro k
    cases hq : zget vwCl k with
    | none => exact ⟨0, fun _ => 0, fun q h => by cases h⟩
    | some q =>
      obtain ⟨cC, iS, hK⟩ := u_known (C := q.1) (T := q.2.1) (N := q.2.2) (n := q.2.2) hts (zcl_in hq) (hts _ (zcl_inst hq))
      exact ⟨cC, iS, fun q' h => by cases h; exact hK⟩
  refine ⟨(fun k => Classical.choose (h k), fun k => Classical.choose (Classical.choose_spec (h k))), fun c q hq => ?_, fun k q hk => by simp at hk⟩
  exact Classical.choose_spec (Classical.choose_spec (h c)) q (by rw [zget_el]; exact hq)
theorem zrep0 {D : va_G} {s : State} {b L : Nat} {xs E : Nat → Int32} {sa : Nat → Nat} (hX : va_X b L xs s s.heap) (hb : b < s.heap.size) (hL : L ≤ 3072) (hE : ∀ j, j < L → E j = xs j) (hsa : sa 0 = b) (hst : ∀ a, 1 ≤ a → a ≤ 5 → va_T .int (sa a) (zsl a) (fun j => .int (zst0 a j)) (zA s.heap.size) s s.heap) : zRep D sa s.heap.size s s.heap (sH E L [] sh0) := by
  have sh : ∀ k t n, zget (sH E L [] sh0).1 k = some (t, n) → k < 6 ∧ t = 5 ∧ ((k = 0 ∧ n = L) ∨ (1 ≤ k ∧ n = zsl k)) := by
    intro k t n hk
    match k, hk with
    | 0, hk => cases hk; exact ⟨by decide, rfl, Or.inl ⟨rfl, rfl⟩⟩
    | 1, hk => cases hk; exact ⟨by decide, rfl, Or.inr ⟨by decide, rfl⟩⟩
    | 2, hk => cases hk; exact ⟨by decide, rfl, Or.inr ⟨by decide, rfl⟩⟩
    | 3, hk => cases hk; exact ⟨by decide, rfl, Or.inr ⟨by decide, rfl⟩⟩
    | 4, hk => cases hk; exact ⟨by decide, rfl, Or.inr ⟨by decide, rfl⟩⟩
    | 5, hk => cases hk; exact ⟨by decide, rfl, Or.inr ⟨by decide, rfl⟩⟩
    | _ + 6, hk => cases hk
  have zs : ∀ k, k < 6 → zsl k ≤ 32 := by decide
  refine ⟨rfl, Nat.le_refl 6, fun k t n hk => ?_, fun k t n hk => ?_, fun k t n hk => ?_⟩
  · obtain ⟨k6, rfl, ⟨rfl, rfl⟩ | ⟨k1, rfl⟩⟩ := sh k t n hk
    · obtain ⟨scr, h1, h2, h3, h4, h5⟩ := hX
      refine ⟨scr, by rw [zad_lo (by decide), hsa]; exact h1, h2, h3, Nat.le_of_eq h4.symm, congrArg Nat.toInt32 h4, fun j hj => ?_, ?_⟩
      · rw [h5 j hj]
        show some (Value.int (xs j)) = some (Value.int (E j))
        rw [hE j hj]
      · show ¬ s.heap.size ≤ zad sa s.heap.size 0
        rw [zad_lo (by decide), hsa]
        omega
    · show va_T .int (zad sa s.heap.size k) (zsl k) (fun j => .int (sov E [] zst0 k j)) (zA s.heap.size) s s.heap
      rw [zad_lo k6, sov_nil (by omega)]
      exact hst k k1 (by omega)
  · obtain ⟨k6, rfl, -⟩ := sh k t n hk
    exact ⟨fun _ => rfl, fun _ => k6⟩
  · obtain ⟨k6, -, ⟨-, rfl⟩ | ⟨k1, rfl⟩⟩ := sh k t n hk
    · omega
    · have := zs k k6
      omega
