/-! STEPS BY BOUNDS: instructions that read and write rows. -/
theorem azix {i : Int32} (h : 0 ≤ i.toInt) : (zix i : Int) = i.toInt := by
  have e : i.toInt = i.toBitVec.toInt := rfl
  have q := BitVec.toInt_eq_toNat_cond i.toBitVec
  have b := i.toBitVec.isLt
  unfold zix
  rw [e] at h ⊢
  rw [q] at h ⊢
  split
  · rfl
  · rename_i hn
    rw [if_neg hn] at h
    omega
def afulL : Int × Int := (-9223372036854775808, 9223372036854775807)
theorem afulL_ok (x : Int64) : afulL.1 ≤ x.toInt ∧ x.toInt ≤ afulL.2 := by
  have h1 := Int64.le_toInt x
  have h2 := Int64.toInt_lt x
  unfold afulL
  dsimp only
  omega
/-- the cells at some places of some rows -/
def arows (rf : Nat → Nat → Option Nat) (l : List Nat) : List Nat → Option (List Nat)
  | [] => some []
  | k :: ks => (match arefs rf k l, arows rf l ks with
    | some m, some m' => some (m.filter (fun z => !m'.elem z) ++ m')
    | _, _ => none)
theorem arows_ok {rf : Nat → Nat → Option Nat} {l : List Nat} {o : Nat} (ho : o ∈ l) : ∀ {ks m : List Nat} {k : Nat}, arows rf l ks = some m → k ∈ ks → ∃ q, rf o k = some q ∧ q ∈ m
  | [], _, _, _, hk => by cases hk
  | k1 :: ks, m, k, h, hk => by
    unfold arows at h
    split at h
    · rename_i m1 m2 e1 e2
      cases h
      rcases List.mem_cons.mp hk with rfl | hk
      · obtain ⟨q, g1, g2⟩ := arefs_ok e1 ho
        refine ⟨q, g1, List.mem_append.mpr ?_⟩
        cases he : m2.elem q
        · exact Or.inl (List.mem_filter.mpr ⟨g2, by rw [he]; rfl⟩)
        · exact Or.inr (List.elem_iff.mp he)
      · obtain ⟨q, g1, g2⟩ := arows_ok ho e2 hk
        exact ⟨q, g1, List.mem_append.mpr (Or.inr g2)⟩
    · cases h
def aixs (q : Int × Int) : List Nat := List.range' q.1.toNat (q.2 - q.1 + 1).toNat
theorem aixs_ok {q : Int × Int} {k : Nat} (h1 : q.1 ≤ (k : Int)) (h2 : (k : Int) ≤ q.2) (h0 : 0 ≤ q.1) : k ∈ aixs q := by
  unfold aixs
  rw [List.mem_range'_1]
  omega
/-- an index is inside of some rows -/
def ain (S : List (Nat × Nat)) (cs : aCs) (i : aI) (l : List Nat) (f : Nat → Nat → Bool) : Bool := decide (0 ≤ (abd cs i).1) && aall S l (fun o t n => f o t && decide ((abd cs i).2 < n))
theorem ain_ok {S : List (Nat × Nat)} {cs : aCs} {E : List Int} {i : aI} {l : List Nat} {f : Nat → Nat → Bool} {o : Nat} {x : Int32} (h : ain S cs i l f = true) (hs : aSat E cs) (hx : aIs E x.toInt i) (ho : o ∈ l) : ∃ t n, zget S o = some (t, n) ∧ f o t = true ∧ Nat.blt (zix x) n = true ∧ (zix x : Int) = x.toInt ∧ 0 ≤ (abd cs i).1 ∧ (abd cs i).1 ≤ (zix x : Int) ∧ (zix x : Int) ≤ (abd cs i).2 := by
  unfold ain at h
  rw [Bool.and_eq_true, decide_eq_true_eq] at h
  obtain ⟨t, n, h1, h2⟩ := aall_ok h.2 ho
  rw [Bool.and_eq_true, decide_eq_true_eq] at h2
  have b := abd_ok hs hx
  have z := azix (i := x) (Int.le_trans h.1 b.1)
  refine ⟨t, n, h1, h2.1, ?_, z, h.1, by omega, by omega⟩
  rw [Nat.blt_eq]
  omega
def aq22 (S : List (Nat × Nat)) (B : aB) (len : Nat) : aX → Option aR := fun (cs, T, pc, al, st) => match st with
  | .inl (.inl i) :: .inr l :: r => bif ain S cs i l (fun o t => (Nat.beq t 0 || Nat.beq t 5) && aisA B o) then (match i with
    | .inr n => aqn B cs T (pc + len) al r n.toNat l
    | .inl _ => ago ((anew cs (ajoin B 0 l)).1, T, pc + len, al, .inl (.inl (anew cs (ajoin B 0 l)).2) :: r)) else none
  | _ => none
def aq23 (S : List (Nat × Nat)) (len : Nat) : aX → Option aR := fun (cs, T, pc, al, st) => match st with
  | .inl (.inl i) :: .inr l :: r => bif ain S cs i l (fun _ t => Nat.beq t 1) then ago ((anew cs afulL).1, T, pc + len, al, .inl (.inr (anew cs afulL).2) :: r) else none
  | _ => none
def aq24 (S : List (Nat × Nat)) (rf : Nat → Nat → Option Nat) (len : Nat) : aX → Option aR := fun (cs, T, pc, al, st) => match st with
  | .inl (.inl i) :: .inr l :: r => bif ain S cs i l (fun _ t => Nat.ble 2 t && Nat.ble t 4) then (match arows rf l (aixs (abd cs i)) with
    | some m => ago (cs, T, pc + len, al, .inr m :: r)
    | none => none) else none
  | _ => none
section AR2
variable {S : List (Nat × Nat)} {rf : Nat → Nat → Option Nat} {B : aB} {W : Nat → Nat → Bool} {E : List Int} {cs : aCs} {T : aT} {al : List (Option aV)} {as : List aV} {pc len a b k3 : Nat} {v : Value} {lo : List (Option Value)} {st : List Value} {h : zH} {Ys : List aX}
theorem at_22 (R : aRel S rf (aiv B) E (cs, T, pc, al, as) (pc, lo, st, h)) (h0 : aq22 S B len (cs, T, pc, al, as) = some (.inl Ys)) : ∃ y, zs22 len (pc, lo, st, h) = some (.inl y) ∧ aGo S rf (aiv B) W E Ys (pc, lo, st, h) y := by
  obtain ⟨hs, -, hl, hst, hh⟩ := R
  unfold aq22 at h0
  dsimp only at h0
  split at h0
  · rename_i i l r
    obtain ⟨u, sr, rfl, ⟨x, rfl, h2⟩, h3⟩ := aSt_cons hst
    obtain ⟨u, sr, rfl, ⟨o, rfl, ho⟩, h5⟩ := aSt_cons h3
    cases hb : ain S cs i l (fun o t => (Nat.beq t 0 || Nat.beq t 5) && aisA B o)
    · rw [hb] at h0; cases h0
    · rw [hb] at h0
      dsimp only [cond_true] at h0
      obtain ⟨t, n, hg, hf, hz, hx, -, -, -⟩ := ain_ok hb hs h2 ho
      have hg : zget h.1 o = some (t, n) := by rw [hh.1.1]; exact hg
      rw [Bool.and_eq_true] at hf
      have key : zs22 len (pc, lo, .int x :: .ref o :: sr, h) = some (.inl (pc + len, lo, .int (h.2.1 o (zix x)) :: sr, h)) := by
        simp only [zs22]
        rw [hg]
        dsimp only
        rw [hf.1, hz]
        rfl
      refine ⟨_, key, ?_⟩
      match i, h2, h0 with
      | .inr n, h2, h0 =>
        have e : zix x = n.toNat := by
          have h2 : x.toInt = n := h2
          omega
        rw [e]
        exact aqn_ok hs hl h5 hh ho h0
      | .inl p, h2, h0 =>
        cases h0
        have q := ajoin_ok (B := B) (b := 0) ho
        have q2 := hh.1.2.2 o (zix x)
        rw [aisA_ok hf.2 (zix x) 0] at q2
        exact aGo_int (aGot_new hs (Int.le_trans q.1 q2.1) (Int.le_trans q2.2 q.2)) hl h5 hh
  · cases h0
theorem at_23 (R : aRel S rf (aiv B) E (cs, T, pc, al, as) (pc, lo, st, h)) (h0 : aq23 S len (cs, T, pc, al, as) = some (.inl Ys)) : ∃ y, zs23 len (pc, lo, st, h) = some (.inl y) ∧ aGo S rf (aiv B) W E Ys (pc, lo, st, h) y := by
  obtain ⟨hs, -, hl, hst, hh⟩ := R
  unfold aq23 ago at h0
  dsimp only at h0
  split at h0
  · rename_i i l r
    obtain ⟨u, sr, rfl, ⟨x, rfl, h2⟩, h3⟩ := aSt_cons hst
    obtain ⟨u, sr, rfl, ⟨o, rfl, ho⟩, h5⟩ := aSt_cons h3
    cases hb : ain S cs i l (fun _ t => Nat.beq t 1)
    · rw [hb] at h0; cases h0
    · rw [hb] at h0
      cases h0
      obtain ⟨t, n, hg, hf, hz, hx, -, -, -⟩ := ain_ok hb hs h2 ho
      have hg : zget h.1 o = some (t, n) := by rw [hh.1.1]; exact hg
      have key : zs23 len (pc, lo, .int x :: .ref o :: sr, h) = some (.inl (pc + len, lo, .long (h.2.2.1 o (zix x)) :: sr, h)) := by
        simp only [zs23]
        rw [hg]
        dsimp only
        rw [hf, hz]
        rfl
      refine ⟨_, key, ?_⟩
      have w := afulL_ok (h.2.2.1 o (zix x))
      obtain ⟨q, g1, g2⟩ := aGot_new (z := (h.2.2.1 o (zix x)).toInt) hs w.1 w.2
      exact ⟨⟨q, _, List.mem_singleton.mpr rfl, g1, rfl, aLo_ext hl, ⟨⟨_, rfl, g2⟩, aSt_ext h5⟩, aHp_ext hh⟩, fun _ _ _ => rfl⟩
  · cases h0
theorem at_24 (R : aRel S rf (aiv B) E (cs, T, pc, al, as) (pc, lo, st, h)) (h0 : aq24 S rf len (cs, T, pc, al, as) = some (.inl Ys)) : ∃ y, zs24 len (pc, lo, st, h) = some (.inl y) ∧ aGo S rf (aiv B) W E Ys (pc, lo, st, h) y := by
  obtain ⟨hs, -, hl, hst, hh⟩ := R
  unfold aq24 ago at h0
  dsimp only at h0
  split at h0
  · rename_i i l r
    obtain ⟨u, sr, rfl, ⟨x, rfl, h2⟩, h3⟩ := aSt_cons hst
    obtain ⟨u, sr, rfl, ⟨o, rfl, ho⟩, h5⟩ := aSt_cons h3
    cases hb : ain S cs i l (fun _ t => Nat.ble 2 t && Nat.ble t 4)
    · rw [hb] at h0; cases h0
    · rw [hb] at h0
      dsimp only [cond_true] at h0
      obtain ⟨t, n, hg, hf, hz, hx, p1, p2, p3⟩ := ain_ok hb hs h2 ho
      have hg : zget h.1 o = some (t, n) := by rw [hh.1.1]; exact hg
      cases hr : arows rf l (aixs (abd cs i)) with
      | none => rw [hr] at h0; cases h0
      | some m =>
        rw [hr] at h0
        cases h0
        obtain ⟨q, g1, g2⟩ := arows_ok ho hr (aixs_ok p2 p3 p1)
        have key : zs24 len (pc, lo, .int x :: .ref o :: sr, h) = some (.inl (pc + len, lo, .ref q :: sr, h)) := by
          simp only [zs24]
          rw [hg]
          dsimp only
          rw [hf, hz, hh.1.2.1, g1]
          rfl
        exact ⟨_, key, aGo_one ⟨hs, rfl, hl, ⟨⟨q, rfl, g2⟩, h5⟩, hh⟩⟩
  · cases h0
end AR2
