/-! STEPS BY BOUNDS: instructions that read and write rows. -/
theorem azix {i : Int32} (h : 0 ≤ i.toInt) : (zix i : Int) = i.toInt := by
  have e : i.toInt = i.toBitVec.toInt := rfl
  have q := BitVec.toInt_eq_toNat_cond i.toBitVec
  have b := i.toBitVec.isLt
  unfold zix
  rw [e] at h ⊢
  rw [q] at h ⊢
  split
  · rfl
  · rename_i hn
    rw [if_neg hn] at h
    omega
def afulL : Int × Int := (-9223372036854775808, 9223372036854775807)
theorem afulL_ok (x : Int64) : afulL.1 ≤ x.toInt ∧ x.toInt ≤ afulL.2 := by
  have h1 := Int64.le_toInt x
  have h2 := Int64.toInt_lt x
  unfold afulL
  dsimp only
  omega
/-- the cells at some places of some rows -/
def arows (rf : Nat → Nat → List Nat) (l : List Nat) : List Nat → Option (List Nat)
  | [] => some []
  | k :: ks => (match arefs rf k l, arows rf l ks with
    | some m, some m' => some (auni m m')
    | _, _ => none)
theorem arows_ok {rf : Nat → Nat → List Nat} {l : List Nat} {o : Nat} (ho : o ∈ l) : ∀ {ks m : List Nat} {k : Nat}, arows rf l ks = some m → k ∈ ks → rf o k ≠ [] ∧ ∀ q, q ∈ rf o k → q ∈ m
  | [], _, _, _, hk => by cases hk
  | k1 :: ks, m, k, h, hk => by
    unfold arows at h
    split at h
    · rename_i m1 m2 e1 e2
      cases h
      rcases List.mem_cons.mp hk with rfl | hk
      · obtain ⟨g1, g2⟩ := arefs_ok e1 ho
        exact ⟨g1, fun q hq => auni_l (g2 q hq)⟩
      · obtain ⟨g1, g2⟩ := arows_ok ho e2 hk
        exact ⟨g1, fun q hq => auni_r (g2 q hq)⟩
    · cases h
def aixs (q : Int × Int) : List Nat := List.range' q.1.toNat (q.2 - q.1 + 1).toNat
theorem aixs_ok {q : Int × Int} {k : Nat} (h1 : q.1 ≤ (k : Int)) (h2 : (k : Int) ≤ q.2) (h0 : 0 ≤ q.1) : k ∈ aixs q := by
  unfold aixs
  rw [List.mem_range'_1]
  omega
/-- an index is inside of some rows -/
def ain (S : Nat → Option (Nat × Nat)) (cs : aCs) (i : aI) (l : List Nat) (f : Nat → Nat → Bool) : Bool := decide (0 ≤ (abd cs i).1) && aall S l (fun o t n => f o t && decide ((abd cs i).2 < n))
theorem ain_ok {S : Nat → Option (Nat × Nat)} {g : List (Nat × Nat)} {cs : aCs} {E : List Int} {i : aI} {l : List Nat} {f : Nat → Nat → Bool} {o : Nat} {x : Int32} (hS : aShp S g) (h : ain S cs i l f = true) (hs : aSat E cs) (hx : aIs E x.toInt i) (ho : o ∈ l) : ∃ t n, zget g o = some (t, n) ∧ f o t = true ∧ Nat.blt (zix x) n = true ∧ (zix x : Int) = x.toInt ∧ 0 ≤ (abd cs i).1 ∧ (abd cs i).1 ≤ (zix x : Int) ∧ (zix x : Int) ≤ (abd cs i).2 := by
  unfold ain at h
  rw [Bool.and_eq_true, decide_eq_true_eq] at h
  obtain ⟨t, n, h1, h2⟩ := aall_ok hS h.2 ho
  rw [Bool.and_eq_true, decide_eq_true_eq] at h2
  have b := abd_ok hs hx
  have z := azix (i := x) (Int.le_trans h.1 b.1)
  refine ⟨t, n, h1, h2.1, ?_, z, h.1, by omega, by omega⟩
  rw [Nat.blt_eq]
  omega
/-- bounds over some places of some cells -/
def ajoinK (B : aB) (l : List Nat) : List Nat → Int × Int
  | [] => (1, 0)
  | [k] => ajoin B k l
  | k :: k2 :: ks => (min (ajoin B k l).1 (ajoinK B l (k2 :: ks)).1, max (ajoin B k l).2 (ajoinK B l (k2 :: ks)).2)
theorem ajoinK_ok {B : aB} {l : List Nat} {o : Nat} (ho : o ∈ l) : ∀ {ks : List Nat} {k : Nat}, k ∈ ks → (ajoinK B l ks).1 ≤ (aiv B o k).1 ∧ (aiv B o k).2 ≤ (ajoinK B l ks).2
  | [], _, hk => by cases hk
  | [k1], k, hk => by
    rw [List.mem_singleton.mp hk]
    exact ajoin_ok ho
  | k1 :: k2 :: ks, k, hk => by
    unfold ajoinK
    dsimp only
    rcases List.mem_cons.mp hk with rfl | hk
    · have q := ajoin_ok (B := B) (b := k) ho
      exact ⟨Int.le_trans (Int.min_le_left _ _) q.1, Int.le_trans q.2 (Int.le_max_left _ _)⟩
    · have q := ajoinK_ok (B := B) ho hk
      exact ⟨Int.le_trans (Int.min_le_right _ _) q.1, Int.le_trans q.2 (Int.le_max_right _ _)⟩
def aq22 (S : Nat → Option (Nat × Nat)) (B : aB) (len : Nat) : aX → Option aR := fun (cs, T, pc, al, st) => match st with
  | .inl (.inl i) :: .inr l :: r => bif ain S cs i l (fun _ t => Nat.beq t 0 || Nat.beq t 5) then (match i with
    | .inr n => aqn B cs T (pc + len) al r n.toNat l
    | .inl _ => bif l.all (aisA B) then ago ((anew cs (ajoin B 0 l)).1, T, pc + len, al, .inl (.inl (anew cs (ajoin B 0 l)).2) :: r) else ago ((anew cs (ajoinK B l (aixs (abd cs i)))).1, T, pc + len, al, .inl (.inl (anew cs (ajoinK B l (aixs (abd cs i)))).2) :: r)) else none
  | _ => none
def aq23 (S : Nat → Option (Nat × Nat)) (len : Nat) : aX → Option aR := fun (cs, T, pc, al, st) => match st with
  | .inl (.inl i) :: .inr l :: r => bif ain S cs i l (fun _ t => Nat.beq t 1) then ago ((anew cs afulL).1, T, pc + len, al, .inl (.inr (anew cs afulL).2) :: r) else none
  | _ => none
def aq24 (S : Nat → Option (Nat × Nat)) (rf : Nat → Nat → List Nat) (len : Nat) : aX → Option aR := fun (cs, T, pc, al, st) => match st with
  | .inl (.inl i) :: .inr l :: r => bif ain S cs i l (fun _ t => Nat.ble 2 t && Nat.ble t 4) then (match arows rf l (aixs (abd cs i)) with
    | some m => ago (cs, T, pc + len, al, .inr m :: r)
    | none => none) else none
  | _ => none
section AR2
variable {S : Nat → Option (Nat × Nat)} {rf : Nat → Nat → List Nat} {B : aB} {W : Nat → Nat → Bool} {E : List Int} {cs : aCs} {T : aT} {al : List (Option aV)} {as : List aV} {pc len a b k3 : Nat} {v : Value} {lo : List (Option Value)} {st : List Value} {h : zH} {Ys : List aX}
theorem at_22 (R : aRel S rf (aiv B) E (cs, T, pc, al, as) (pc, lo, st, h)) (h0 : aq22 S B len (cs, T, pc, al, as) = some (.inl Ys)) : ∃ y, zs22 len (pc, lo, st, h) = some (.inl y) ∧ aGo S rf (aiv B) W E Ys (pc, lo, st, h) y := by
  obtain ⟨hs, -, hl, hst, hh⟩ := R
  unfold aq22 at h0
  dsimp only at h0
  split at h0
  · rename_i i l r
    obtain ⟨u, sr, rfl, ⟨x, rfl, h2⟩, h3⟩ := aSt_cons hst
    obtain ⟨u, sr, rfl, ⟨o, rfl, ho⟩, h5⟩ := aSt_cons h3
    cases hb : ain S cs i l (fun _ t => Nat.beq t 0 || Nat.beq t 5)
    · rw [hb] at h0; cases h0
    · rw [hb] at h0
      dsimp only [cond_true] at h0
      obtain ⟨t, n, hg, hf, hz, hx, p1, p2, p3⟩ := ain_ok hh.1.1 hb hs h2 ho
      have key : zs22 len (pc, lo, .int x :: .ref o :: sr, h) = some (.inl (pc + len, lo, .int (h.2.1 o (zix x)) :: sr, h)) := by
        simp only [zs22]
        rw [hg]
        dsimp only
        rw [hf, hz]
        rfl
      refine ⟨_, key, ?_⟩
      have q2 := hh.1.2.2 o (zix x)
      match i, h2, p1, p2, p3, h0 with
      | .inr n, h2, p1, p2, p3, h0 =>
        have e : zix x = n.toNat := by
          have h2 : x.toInt = n := h2
          omega
        rw [e]
        exact aqn_ok hs hl h5 hh ho h0
      | .inl p, h2, p1, p2, p3, h0 =>
        dsimp only at h0
        cases hu : l.all (aisA B)
        · rw [hu] at h0
          cases h0
          have q := ajoinK_ok (B := B) ho (aixs_ok p2 p3 p1)
          exact aGo_int (aGot_new hs (Int.le_trans q.1 q2.1) (Int.le_trans q2.2 q.2)) hl h5 hh
        · rw [hu] at h0
          cases h0
          have q := ajoin_ok (B := B) (b := 0) ho
          rw [aisA_ok (List.all_eq_true.mp hu o ho) (zix x) 0] at q2
          exact aGo_int (aGot_new hs (Int.le_trans q.1 q2.1) (Int.le_trans q2.2 q.2)) hl h5 hh
  · cases h0
theorem at_23 (R : aRel S rf (aiv B) E (cs, T, pc, al, as) (pc, lo, st, h)) (h0 : aq23 S len (cs, T, pc, al, as) = some (.inl Ys)) : ∃ y, zs23 len (pc, lo, st, h) = some (.inl y) ∧ aGo S rf (aiv B) W E Ys (pc, lo, st, h) y := by
  obtain ⟨hs, -, hl, hst, hh⟩ := R
  unfold aq23 ago at h0
  dsimp only at h0
  split at h0
  · rename_i i l r
    obtain ⟨u, sr, rfl, ⟨x, rfl, h2⟩, h3⟩ := aSt_cons hst
    obtain ⟨u, sr, rfl, ⟨o, rfl, ho⟩, h5⟩ := aSt_cons h3
    cases hb : ain S cs i l (fun _ t => Nat.beq t 1)
    · rw [hb] at h0; cases h0
    · rw [hb] at h0
      cases h0
      obtain ⟨t, n, hg, hf, hz, hx, -, -, -⟩ := ain_ok hh.1.1 hb hs h2 ho
      have key : zs23 len (pc, lo, .int x :: .ref o :: sr, h) = some (.inl (pc + len, lo, .long (h.2.2.1 o (zix x)) :: sr, h)) := by
        simp only [zs23]
        rw [hg]
        dsimp only
        rw [hf, hz]
        rfl
      refine ⟨_, key, ?_⟩
      have w := afulL_ok (h.2.2.1 o (zix x))
      obtain ⟨q, g1, g2⟩ := aGot_new (z := (h.2.2.1 o (zix x)).toInt) hs w.1 w.2
      exact ⟨⟨q, _, List.mem_singleton.mpr rfl, g1, rfl, aLo_ext hl, ⟨⟨_, rfl, g2⟩, aSt_ext h5⟩, aHp_ext hh⟩, fun _ _ _ => rfl⟩
  · cases h0
theorem at_24 (R : aRel S rf (aiv B) E (cs, T, pc, al, as) (pc, lo, st, h)) (h0 : aq24 S rf len (cs, T, pc, al, as) = some (.inl Ys)) : ∃ y, zs24 len (pc, lo, st, h) = some (.inl y) ∧ aGo S rf (aiv B) W E Ys (pc, lo, st, h) y := by
  obtain ⟨hs, -, hl, hst, hh⟩ := R
  unfold aq24 ago at h0
  dsimp only at h0
  split at h0
  · rename_i i l r
    obtain ⟨u, sr, rfl, ⟨x, rfl, h2⟩, h3⟩ := aSt_cons hst
    obtain ⟨u, sr, rfl, ⟨o, rfl, ho⟩, h5⟩ := aSt_cons h3
    cases hb : ain S cs i l (fun _ t => Nat.ble 2 t && Nat.ble t 4)
    · rw [hb] at h0; cases h0
    · rw [hb] at h0
      dsimp only [cond_true] at h0
      obtain ⟨t, n, hg, hf, hz, hx, p1, p2, p3⟩ := ain_ok hh.1.1 hb hs h2 ho
      cases hr : arows rf l (aixs (abd cs i)) with
      | none => rw [hr] at h0; cases h0
      | some m =>
        rw [hr] at h0
        cases h0
        obtain ⟨g0, g3⟩ := arows_ok ho hr (aixs_ok p2 p3 p1)
        obtain ⟨q, g1, g2⟩ := hh.1.2.1 o (zix x) g0
        have g2 := g3 q g2
        have key : zs24 len (pc, lo, .int x :: .ref o :: sr, h) = some (.inl (pc + len, lo, .ref q :: sr, h)) := by
          simp only [zs24]
          rw [hg]
          dsimp only
          rw [hf, hz, g1]
          rfl
        exact ⟨_, key, aGo_one ⟨hs, rfl, hl, ⟨⟨q, rfl, g2⟩, h5⟩, hh⟩⟩
  · cases h0
end AR2
