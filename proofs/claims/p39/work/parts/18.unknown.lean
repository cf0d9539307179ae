/-! STEPS THAT LOOK AT UNKNOWN NUMBERS: by bounds; where the bounds don't tell, they are cut. -/
def zo (x : Int32) : Nat := (x.toInt + 2147483648).toNat
def zof (n : Nat) : Int32 := Int32.ofInt ((n : Int) - 2147483648)
theorem zo_int (x : Int32) : (zo x : Int) = x.toInt + 2147483648 := by
  have h1 := Int32.le_toInt x
  unfold zo
  omega
theorem zo_max (x : Int32) : zo x ≤ 4294967295 := by
  have h1 := Int32.toInt_lt x
  have h2 := zo_int x
  omega
theorem zof_zo (x : Int32) : zof (zo x) = x := by
  unfold zof
  rw [zo_int, Int.add_sub_cancel, Int32.ofInt_toInt]
theorem zo_lt {x y : Int32} : zo x < zo y ↔ x < y := by
  rw [Int32.lt_iff_toInt_lt]
  have h1 := zo_int x
  have h2 := zo_int y
  omega
theorem zo_eq {x y : Int32} (h : zo x = zo y) : x = y := by rw [← zof_zo x, h, zof_zo]
abbrev sI : Type := List (Nat × Nat)
def siv (cs : sI) (k : Nat) : Nat × Nat := match zget cs k with
  | some q => q
  | none => (0, 4294967295)
def sSat (E : Nat → Int32) (cs : sI) : Prop := ∀ k, (siv cs k).1 ≤ zo (E k) ∧ zo (E k) ≤ (siv cs k).2
def sEnv (E : Nat → Int32) : Prop := E 6 = E 0 &&& 63 ∧ ∀ k, k < 6 → E (8 + k) = E k / 10 ∧ E (16 + k) = E k - E k / 10 * 10 ∧ E (24 + k) = E k / 100 ∧ E (32 + k) = E k - E k / 100 * 100
def snv (cs : sI) : Value → Value
  | .retAddr k => bif Nat.beq (siv cs k).1 (siv cs k).2 then .int (zof (siv cs k).1) else .retAddr k
  | .double w => bif Nat.blt w.toNat 64 && Nat.beq (siv cs w.toNat).1 (siv cs w.toNat).2 then .long (zof (siv cs w.toNat).1).toInt64 else .double w
  | v => v
theorem sone {E : Nat → Int32} {cs : sI} (hs : sSat E cs) {k : Nat} (h : Nat.beq (siv cs k).1 (siv cs k).2 = true) : zof (siv cs k).1 = E k := by
  have e := Nat.eq_of_beq_eq_true h
  have q := hs k
  rw [← zof_zo (E k)]
  congr 1
  omega
theorem sL_lo {E : Nat → Int32} {n : Nat} (h : n < 64) : sL E n = (E n).toInt64 := by
  unfold sL
  have e1 : Nat.beq n 64 = false := by
    cases q : Nat.beq n 64
    · rfl
    · have := Nat.eq_of_beq_eq_true q
      omega
  have e2 : Nat.beq n 65 = false := by
    cases q : Nat.beq n 65
    · rfl
    · have := Nat.eq_of_beq_eq_true q
      omega
  have e3 : Nat.beq n 66 = false := by
    cases q : Nat.beq n 66
    · rfl
    · have := Nat.eq_of_beq_eq_true q
      omega
  rw [e1, e2, e3]
  rfl
theorem snv_ok {E : Nat → Int32} {cs : sI} (hs : sSat E cs) (v : Value) : sval E (snv cs v) = sval E v := by
  cases v with
  | retAddr k =>
    simp only [snv]
    cases hb : Nat.beq (siv cs k).1 (siv cs k).2
    · rfl
    · show Value.int _ = .int _
      rw [sone hs hb]
  | double w =>
    simp only [snv]
    cases hb : (Nat.blt w.toNat 64 && Nat.beq (siv cs w.toNat).1 (siv cs w.toNat).2)
    · rfl
    · rw [Bool.and_eq_true] at hb
      show Value.long _ = .long _
      rw [sone hs hb.2, sL_lo (Nat.ble_eq.mp hb.1)]
  | _ => rfl
def snst (cs : sI) : List Value → List Value
  | [] => []
  | [a] => [snv cs a]
  | [a, b] => [snv cs a, snv cs b]
  | a :: b :: c :: r => snv cs a :: snv cs b :: snv cs c :: r
theorem snst_ok {E : Nat → Int32} {cs : sI} (hs : sSat E cs) (st : List Value) : (snst cs st).map (sval E) = st.map (sval E) := by
  match st with
  | [] => rfl
  | [a] => simp only [snst, List.map_cons, List.map_nil, snv_ok hs]
  | [a, b] => simp only [snst, List.map_cons, List.map_nil, snv_ok hs]
  | a :: b :: c :: r => simp only [snst, List.map_cons, snv_ok hs]
/-- how an unknown number stands to a known one: 0 below, 1 like, 2 above; or where to cut -/
def sc1 (iv : Nat × Nat) (k c : Nat) : Nat ⊕ (Nat × Nat) :=
  bif Nat.blt iv.2 c then .inl 0 else bif Nat.blt c iv.1 then .inl 2 else bif Nat.beq iv.1 iv.2 then .inl 1 else bif Nat.blt iv.1 c then .inr (k, c) else .inr (k, c + 1)
def ssw : Nat ⊕ (Nat × Nat) → Nat ⊕ (Nat × Nat)
  | .inl n => .inl (2 - n)
  | q => q
def smk (cs : sI) : Value → Option (Nat × Nat)
  | .retAddr k => bif Nat.blt (siv cs k).1 (siv cs k).2 && Nat.ble ((siv cs k).2 - (siv cs k).1) 300 then some (k, ((siv cs k).1 + (siv cs k).2) / 2 + 1) else none
  | _ => none
def scmp (cs : sI) : Value → Value → Option (Nat ⊕ (Nat × Nat))
  | .retAddr k, .int c => some (sc1 (siv cs k) k (zo c))
  | .int c, .retAddr k => some (ssw (sc1 (siv cs k) k (zo c)))
  | .retAddr k, .retAddr j => bif Nat.blt (siv cs k).2 (siv cs j).1 then some (.inl 0) else bif Nat.blt (siv cs j).2 (siv cs k).1 then some (.inl 2) else (match smk cs (.retAddr k) with
    | some q => some (.inr q)
    | none => (match smk cs (.retAddr j) with
      | some q => some (.inr q)
      | none => none))
  | _, _ => none
def sgn (x y : Int32) (n : Nat) : Prop := (n = 0 ∧ x < y) ∨ (n = 1 ∧ x = y) ∨ (n = 2 ∧ y < x)
theorem sc1_ok {iv : Nat × Nat} {k n : Nat} {x y : Int32} (h1 : iv.1 ≤ zo x ∧ zo x ≤ iv.2) (h : sc1 iv k (zo y) = .inl n) : sgn x y n := by
  unfold sc1 at h
  cases b1 : Nat.blt iv.2 (zo y)
  · rw [b1] at h
    dsimp only [cond_false] at h
    have b1' : ¬ iv.2 < zo y := fun q => by rw [show Nat.blt iv.2 (zo y) = true from Nat.ble_eq.mpr q] at b1; cases b1
    cases b2 : Nat.blt (zo y) iv.1
    · rw [b2] at h
      dsimp only [cond_false] at h
      have b2' : ¬ zo y < iv.1 := fun q => by rw [show Nat.blt (zo y) iv.1 = true from Nat.ble_eq.mpr q] at b2; cases b2
      cases b3 : Nat.beq iv.1 iv.2
      · rw [b3] at h
        dsimp only [cond_false] at h
        cases b4 : Nat.blt iv.1 (zo y)
        · rw [b4] at h; cases h
        · rw [b4] at h; cases h
      · rw [b3] at h
        cases h
        have e := Nat.eq_of_beq_eq_true b3
        exact Or.inr (Or.inl ⟨rfl, zo_eq (by omega)⟩)
    · rw [b2] at h
      cases h
      have b2' : zo y < iv.1 := Nat.ble_eq.mp b2
      exact Or.inr (Or.inr ⟨rfl, zo_lt.mp (by omega)⟩)
  · rw [b1] at h
    cases h
    have b1' : iv.2 < zo y := Nat.ble_eq.mp b1
    exact Or.inl ⟨rfl, zo_lt.mp (by omega)⟩
theorem scmp_ok {E : Nat → Int32} {cs : sI} (hs : sSat E cs) {v w : Value} {n : Nat} (h : scmp cs v w = some (.inl n)) : ∃ x y, sval E v = .int x ∧ sval E w = .int y ∧ sgn x y n := by
  unfold scmp at h
  split at h
  · rename_i k c
    exact ⟨E k, c, rfl, rfl, sc1_ok (hs k) (Option.some.inj h)⟩
  · rename_i c k
    refine ⟨c, E k, rfl, rfl, ?_⟩
    have h := Option.some.inj h
    cases hq : sc1 (siv cs k) k (zo c) with
    | inr q => rw [hq] at h; cases h
    | inl z =>
      rw [hq] at h
      cases h
      rcases sc1_ok (hs k) hq with ⟨rfl, g⟩ | ⟨rfl, g⟩ | ⟨rfl, g⟩
      · exact Or.inr (Or.inr ⟨rfl, g⟩)
      · exact Or.inr (Or.inl ⟨rfl, g.symm⟩)
      · exact Or.inl ⟨rfl, g⟩
  · rename_i k j
    refine ⟨E k, E j, rfl, rfl, ?_⟩
    have q1 := hs k
    have q2 := hs j
    cases b1 : Nat.blt (siv cs k).2 (siv cs j).1
    · rw [b1] at h
      dsimp only [cond_false] at h
      cases b2 : Nat.blt (siv cs j).2 (siv cs k).1
      · rw [b2] at h
        dsimp only [cond_false] at h
        split at h
        · cases h
        · split at h
          · cases h
          · cases h
      · rw [b2] at h
        cases h
        have b2' : (siv cs j).2 < (siv cs k).1 := Nat.ble_eq.mp b2
        exact Or.inr (Or.inr ⟨rfl, zo_lt.mp (by omega)⟩)
    · rw [b1] at h
      cases h
      have b1' : (siv cs k).2 < (siv cs j).1 := Nat.ble_eq.mp b1
      exact Or.inl ⟨rfl, zo_lt.mp (by omega)⟩
  · cases h
def szif : Nat → Nat → Nat → Nat → Nat
  | 0, s, t, n => bif Nat.beq s 1 then t else n
  | 1, s, t, n => bif Nat.beq s 1 then n else t
  | 2, s, t, n => bif Nat.beq s 0 then t else n
  | 3, s, t, n => bif Nat.beq s 0 then n else t
  | 4, s, t, n => bif Nat.beq s 2 then t else n
  | _, s, t, n => bif Nat.beq s 2 then n else t
theorem sgn_facts {x y : Int32} {s : Nat} (h : sgn x y s) : (x = y ↔ s = 1) ∧ (x < y ↔ s = 0) ∧ (y < x ↔ s = 2) := by
  rw [← zo_lt, ← zo_lt]
  have e : x = y ↔ zo x = zo y := ⟨fun q => by rw [q], zo_eq⟩
  rw [e]
  rcases h with ⟨rfl, g⟩ | ⟨rfl, g⟩ | ⟨rfl, g⟩
  · have := zo_lt.mpr g
    omega
  · subst g
    omega
  · have := zo_lt.mpr g
    omega
theorem sbif {c : Prop} {inst : Decidable c} {s k t n : Nat} (h : c ↔ s = k) : (if c then t else n) = bif Nat.beq s k then t else n := by
  by_cases q : c
  · rw [if_pos q, h.mp q, Nat.beq_refl]
    rfl
  · rw [if_neg q]
    cases hb : Nat.beq s k
    · rfl
    · exact absurd (h.mpr (Nat.eq_of_beq_eq_true hb)) q
theorem szif_ok {x y : Int32} {s b t n : Nat} (h : sgn x y s) : zicmp b x y t n = szif b s t n := by
  obtain ⟨g1, g2, g3⟩ := sgn_facts h
  match b with
  | 0 => exact sbif g1
  | 1 => exact sbif g1
  | 2 => exact sbif g2
  | 3 => exact sbif g2
  | 4 => exact sbif g3
  | _ + 5 => exact sbif g3
theorem zif_icmp (b : Nat) (x : Int32) (t n : Nat) : zif b x t n = zicmp b x 0 t n := by
  match b with
  | 0 => rfl
  | 1 => rfl
  | 2 => rfl
  | 3 => rfl
  | 4 => rfl
  | _ + 5 => rfl
def slgc (s : Nat) : Int32 := bif Nat.beq s 0 then -1 else bif Nat.beq s 1 then 0 else 1
theorem slgc_ok {x y : Int32} {s : Nat} (h : sgn x y s) : lg_cmp x.toInt64 y.toInt64 = slgc s := by
  have l1 : ∀ a b : Int32, a.toInt64 < b.toInt64 ↔ a < b := fun a b => by
    rw [Int64.lt_iff_toInt_lt, Int32.lt_iff_toInt_lt, Int32.toInt_toInt64, Int32.toInt_toInt64]
  unfold lg_cmp slgc
  rcases h with ⟨rfl, g⟩ | ⟨rfl, rfl⟩ | ⟨rfl, g⟩
  · have n1 : ¬ x.toInt64 > y.toInt64 := fun q => by
      have q1 := zo_lt.mpr ((l1 _ _).mp q)
      have q2 := zo_lt.mpr g
      omega
    have n2 : ¬ x.toInt64 = y.toInt64 := fun q => by
      have q1 := (l1 x y).mpr g
      rw [q] at q1
      exact Int64.lt_irrefl q1
    rw [if_neg n1, if_neg n2]
    rfl
  · have n1 : ¬ x.toInt64 > x.toInt64 := fun q => Int64.lt_irrefl q
    rw [if_neg n1, if_pos rfl]
    rfl
  · rw [if_pos ((l1 y x).mpr g)]
    rfl
def slv : Value → Option Value
  | .double w => bif Nat.blt w.toNat 64 then some (.retAddr w.toNat) else none
  | .long c => if c.toInt32.toInt64 = c then some (.int c.toInt32) else none
  | _ => none
theorem slv_ok {E : Nat → Int32} {v u : Value} {x : Int32} (h : slv v = some u) (hx : sval E u = .int x) : sval E v = .long x.toInt64 := by
  unfold slv at h
  split at h
  · rename_i w
    cases hb : Nat.blt w.toNat 64
    · rw [hb] at h; cases h
    · rw [hb] at h
      cases h
      show Value.long (sL E w.toNat) = _
      rw [sL_lo (Nat.ble_eq.mp hb)]
      cases hx
      rfl
  · split at h
    · rename_i c hc
      cases h
      cases hx
      rw [hc]
      rfl
    · cases h
  · cases h
/-- the first key of a switch within bounds -/
def sswk (iv : Nat × Nat) : List (Int32 × Nat) → Option Nat
  | [] => none
  | (k, _) :: r => bif Nat.ble iv.1 (zo k) && Nat.ble (zo k) iv.2 then some (zo k) else sswk iv r
theorem sswk_ok {iv : Nat × Nat} {x : Int32} (hx : iv.1 ≤ zo x ∧ zo x ≤ iv.2) {d : Nat} : ∀ {sw : List (Int32 × Nat)}, sswk iv sw = none → zsw x sw d = d
  | [], _ => rfl
  | (k, t) :: r, h => by
    unfold sswk at h
    cases hb : (Nat.ble iv.1 (zo k) && Nat.ble (zo k) iv.2)
    · rw [hb] at h
      have ne : ¬ x = k := fun q => by
        subst q
        rw [Nat.ble_eq.mpr hx.1, Nat.ble_eq.mpr hx.2] at hb
        cases hb
      unfold zsw
      rw [if_neg ne]
      exact sswk_ok hx h
    · rw [hb] at h; cases h
