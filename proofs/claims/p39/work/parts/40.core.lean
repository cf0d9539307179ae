/-! ONE STEP with frames, contracts and facts. -/
abbrev aG : Type := aD × aDf × aDq × aHf
abbrev aY : Type := aX × aG × Nat × List aFm
def adf2 (X : aX) : aDf := match X.2.2.2.2 with
  | .inl (.inl (.inl y)) :: .inl (.inl (.inl x)) :: _ => bif aok32 ((abd X.1 (.inl x)).1 - (abd X.1 (.inl y)).2, (abd X.1 (.inl x)).2 - (abd X.1 (.inl y)).1) then [(X.1.length, .inl x, .inl y)] else []
  | _ => []
def adf1 : zI → aX → aDf := fun (op, _, _, b, _, _, _) X => bif Nat.beq op 7 && Nat.beq b 1 then adf2 X else []
def adq2 (b : Nat) (X : aX) : aDq := match X.2.2.2.2 with
  | .inl (.inl (.inr d)) :: .inl (.inl (.inl x)) :: _ => bif decide (0 < d) then [(X.1.length, b, .inl x, d)] else []
  | _ => []
def adq1 : zI → aX → aDq := fun (op, _, _, b, _, _, _) X => bif Nat.beq op 8 then adq2 b X else []
/-- a quotient or rest that is there already -/
def acs3 (b : Nat) (x : aI) (d : Int) : aDq → Option Nat
  | [] => none
  | (k, b', x', d') :: r => bif (Nat.beq b' b && aeqI x' x) && decide (d' = d) then some k else acs3 b x d r
def acs2 (len b : Nat) (dq : aDq) (X : aX) : Option aX := match X.2.2.2.2 with
  | .inl (.inl (.inr d)) :: .inl (.inl (.inl x)) :: r => bif decide (0 < d) then (match acs3 b (.inl x) d dq with
    | some k => some (X.1, X.2.1, X.2.2.1 + len, X.2.2.2.1, .inl (.inl (.inl (k, 0))) :: r)
    | none => none) else none
  | _ => none
def acse : zI → aDq → aX → Option aX := fun (op, len, _, b, _, _, _) dq X => bif Nat.beq op 8 then acs2 len b dq X else none
def aprs (df : aDf) (dq : aDq) : List aX → List aX
  | [] => []
  | Z :: r => (match apr df Z.1 with
    | some c => (match aprq dq c with
      | some c2 => (c2, Z.2) :: aprs df dq r
      | none => aprs df dq r)
    | none => aprs df dq r)
theorem aprs_ok {S : Nat → Option (Nat × Nat)} {rf : Nat → Nat → List Nat} {iv : Nat → Nat → Int × Int} {E : List Int} {df : aDf} {dq : aDq} {x : zC} (hd : aDfs E df) (hq : aDqs E dq) : ∀ {Ys : List aX} {Y : aX}, Y ∈ Ys → aRel S rf iv E Y x → ∃ Z, Z ∈ aprs df dq Ys ∧ aRel S rf iv E Z x
  | [], _, h, _ => by cases h
  | Y1 :: r, Y, h, R => by
    unfold aprs
    rcases List.mem_cons.mp h with rfl | h
    · obtain ⟨c, e1, e2⟩ := apr_ok R.1 hd
      obtain ⟨c2, e3, e4⟩ := aprq_ok e2 hq
      rw [e1]
      dsimp only
      rw [e3]
      exact ⟨(c2, Y.2), List.mem_cons_self, e4, R.2⟩
    · obtain ⟨Z, g1, g2⟩ := aprs_ok hd hq h R
      split
      · split
        · exact ⟨Z, List.mem_cons_of_mem _ g1, g2⟩
        · exact ⟨Z, g1, g2⟩
      · exact ⟨Z, g1, g2⟩
theorem acs3_ok {b : Nat} {x : aI} {d : Int} : ∀ {dq : aDq} {k : Nat}, acs3 b x d dq = some k → (k, b, x, d) ∈ dq
  | [], _, h => by cases h
  | (k', b', x', d') :: r, k, h => by
    unfold acs3 at h
    generalize hc : ((Nat.beq b' b && aeqI x' x) && decide (d' = d)) = c at h
    cases c with
    | false => exact List.mem_cons_of_mem _ (acs3_ok h)
    | true =>
      cases h
      rw [Bool.and_eq_true, Bool.and_eq_true, decide_eq_true_eq] at hc
      rw [← Nat.eq_of_beq_eq_true hc.1.1, ← aeqI_ok hc.1.2, ← hc.2]
      exact List.mem_cons_self
theorem acse_ok {S : Nat → Option (Nat × Nat)} {rf : Nat → Nat → List Nat} {iv : Nat → Nat → Int × Int} {E : List Int} {X Z : aX} {x : zC} {e : zI} {dq : aDq} (R : aRel S rf iv E X x) (hq : aDqs E dq) (h0 : acse e dq X = some Z) : ∃ y, zstep e x = some (.inl y) ∧ aRel S rf iv E Z y ∧ y.2.2.2 = x.2.2.2 := by
  obtain ⟨op, len, a, b, c, v, sw⟩ := e
  unfold acse at h0
  dsimp only at h0
  cases hb : Nat.beq op 8
  · rw [hb] at h0; cases h0
  · rw [hb] at h0
    have e1 := Nat.eq_of_beq_eq_true hb
    subst e1
    dsimp only [cond_true] at h0
    obtain ⟨cs, T, pc, al, as⟩ := X
    obtain ⟨pc', lo, st, h⟩ := x
    obtain ⟨hs, hpc, hl, hst, hh⟩ := R
    have hpc : pc = pc' := hpc
    subst hpc
    unfold acs2 at h0
    dsimp only at h0
    split at h0
    · rename_i d ax r
      obtain ⟨u, sr, e3, ⟨yv, rfl, hy⟩, h3⟩ := aSt_cons hst
      obtain ⟨u, sr2, rfl, ⟨xv, rfl, hx⟩, h5⟩ := aSt_cons h3
      have e3 : st = .int yv :: .int xv :: sr2 := e3
      subst e3
      cases hc : decide (0 < d)
      · rw [hc] at h0; cases h0
      · rw [hc] at h0
        rw [decide_eq_true_eq] at hc
        dsimp only [cond_true] at h0
        split at h0
        · rename_i k hk
          cases h0
          obtain ⟨w, xv2, g1, g2, g3⟩ := hq _ (acs3_ok hk)
          dsimp only at g1 g2 g3
          have hy : yv.toInt = d := hy
          have ey : Int32.ofInt d = yv := aof hy
          have ex : xv2 = xv := by
            rw [← Int32.toInt_inj, ← aval_eq g2, ← aval_eq hx]
          subst ex
          rw [ey] at g3
          have y0 : ¬ yv = 0 := fun q => by
            rw [q] at hy
            have z0 : (0 : Int32).toInt = 0 := rfl
            omega
          refine ⟨(pc + len, lo, .int (zdv b xv2 yv) :: sr2, h), ?_, ⟨hs, rfl, hl, ⟨⟨_, rfl, w, g1, by omega⟩, h5⟩, hh⟩, rfl⟩
          show (if yv = 0 then none else _) = _
          rw [if_neg y0]
          cases b <;> rfl
        · cases h0
    · cases h0
theorem adq1_ok {S : Nat → Option (Nat × Nat)} {rf : Nat → Nat → List Nat} {B : aB} {W : Nat → Nat → Bool} {WA : Nat → Bool} {E q : List Int} {X Y : aX} {x y : zC} {e : zI} {Ys : List aX} (R : aRel S rf (aiv B) E X x) (h0 : astepG S rf B W WA e X = some (.inl Ys)) (hz : zstep e x = some (.inl y)) (hY : Y ∈ Ys) (RY : aRel S rf (aiv B) (E ++ q) Y y) : aDqs (E ++ q) (adq1 e X) := by
  obtain ⟨op, len, a, b, c, v, sw⟩ := e
  unfold adq1
  dsimp only
  cases hb : Nat.beq op 8
  · exact fun f hf => by cases hf
  · have e1 := Nat.eq_of_beq_eq_true hb
    subst e1
    dsimp only [cond_true]
    obtain ⟨cs, T, pc, al, as⟩ := X
    obtain ⟨pc', lo, st, h⟩ := x
    obtain ⟨hs, -, hl, hst, hh⟩ := R
    unfold adq2
    dsimp only
    split
    · rename_i d ax r
      obtain ⟨u, sr, e3, ⟨yv, rfl, hy⟩, h3⟩ := aSt_cons hst
      obtain ⟨u, sr2, rfl, ⟨xv, rfl, hx⟩, h5⟩ := aSt_cons h3
      have e3 : st = .int yv :: .int xv :: sr2 := e3
      subst e3
      cases hc : decide (0 < d)
      · exact fun f hf => by cases hf
      · rw [decide_eq_true_eq] at hc
        have hy : yv.toInt = d := hy
        have ey : Int32.ofInt d = yv := aof hy
        have y0 : ¬ yv = 0 := fun q => by
          rw [q] at hy
          have z0 : (0 : Int32).toInt = 0 := rfl
          omega
        have hz : some (.inl (pc' + len, lo, .int (zdv b xv yv) :: sr2, h)) = (some (.inl y) : Option zO) := by
          rw [← hz]
          show _ = (if yv = 0 then none else _)
          rw [if_neg y0]
          cases b <;> rfl
        cases hz
        have h0 : (match adiv cs b (.inl ax) (.inr d) with
          | some q => ago (q.1, T, pc + len, al, .inl (.inl q.2) :: r)
          | none => none) = (some (.inl Ys) : Option aR) := h0
        have hnew : ∀ q, adiv cs b (.inl ax) (.inr d) = some q → q.2 = .inl (cs.length, 0) := by
          intro q hq
          have hq : adiv0 cs b (.inl ax) (.inr d) = some q := hq
          unfold adiv0 at hq
          cases c1 : decide (0 < (abd cs (.inr d)).1)
          · rw [c1] at hq
            dsimp only [cond_false] at hq
            cases c2 : decide ((abd cs (.inr d)).2 < 0)
            · rw [c2] at hq; cases hq
            · rw [c2] at hq; cases hq; rfl
          · rw [c1] at hq
            dsimp only [cond_true] at hq
            cases b with
            | zero => cases hq; rfl
            | succ b =>
              cases c3 : decide (0 ≤ (abd cs (.inl ax)).1)
              · rw [c3] at hq; cases hq; rfl
              · rw [c3] at hq; cases hq; rfl
        split at h0
        · rename_i q' hq'
          cases h0
          have e4 := List.mem_singleton.mp hY
          subst e4
          obtain ⟨-, -, -, hst2, -⟩ := RY
          obtain ⟨u, sr, e5, ⟨z, e6, g0⟩, -⟩ := aSt_cons hst2
          cases e5
          cases e6
          rw [hnew _ hq'] at g0
          obtain ⟨w, g1, g2⟩ := g0
          intro f hf
          have hf := List.mem_singleton.mp hf
          subst hf
          exact ⟨w, xv, g1, aIs_ext hx, by dsimp only; rw [ey]; omega⟩
        · cases h0
    · exact fun f hf => by cases hf
theorem adf1_ok {S : Nat → Option (Nat × Nat)} {rf : Nat → Nat → List Nat} {B : aB} {W : Nat → Nat → Bool} {WA : Nat → Bool} {E q : List Int} {X Y : aX} {x y : zC} {e : zI} {Ys : List aX} (R : aRel S rf (aiv B) E X x) (h0 : astepG S rf B W WA e X = some (.inl Ys)) (hz : zstep e x = some (.inl y)) (hY : Y ∈ Ys) (RY : aRel S rf (aiv B) (E ++ q) Y y) : aDfs (E ++ q) (adf1 e X) := by
  obtain ⟨op, len, a, b, c, v, sw⟩ := e
  unfold adf1
  dsimp only
  cases hb : (Nat.beq op 7 && Nat.beq b 1)
  · exact fun f hf => by cases hf
  · rw [Bool.and_eq_true] at hb
    have e1 := Nat.eq_of_beq_eq_true hb.1
    have e2 := Nat.eq_of_beq_eq_true hb.2
    subst e1
    subst e2
    dsimp only [cond_true]
    obtain ⟨cs, T, pc, al, as⟩ := X
    obtain ⟨pc', lo, st, h⟩ := x
    obtain ⟨hs, -, hl, hst, hh⟩ := R
    unfold adf2
    dsimp only
    split
    · rename_i ay ax r
      obtain ⟨u, sr, e3, ⟨yv, rfl, hy⟩, h3⟩ := aSt_cons hst
      obtain ⟨u, sr2, rfl, ⟨xv, rfl, hx⟩, h5⟩ := aSt_cons h3
      have e3 : st = .int yv :: .int xv :: sr2 := e3
      subst e3
      cases hz
      have h0 : some (.inl [((cs ++ [aclip ((abd cs (.inl ax)).1 - (abd cs (.inl ay)).2, (abd cs (.inl ax)).2 - (abd cs (.inl ay)).1)]), T, pc + len, al, .inl (.inl (.inl (cs.length, 0))) :: r)]) = (some (.inl Ys) : Option aR) := h0
      cases h0
      have e4 := List.mem_singleton.mp hY
      subst e4
      obtain ⟨-, -, -, hst2, -⟩ := RY
      obtain ⟨u, sr, e5, ⟨z, e6, w, g1, g2⟩, -⟩ := aSt_cons hst2
      cases e5
      cases e6
      cases hc : aok32 ((abd cs (.inl ax)).1 - (abd cs (.inl ay)).2, (abd cs (.inl ax)).2 - (abd cs (.inl ay)).1)
      · exact fun f hf => by cases hf
      · intro f hf
        have hf := List.mem_singleton.mp hf
        subst hf
        have q1 := aok32_ok hc
        have bx := abd_ok (cs := cs) hs hx
        have by' := abd_ok (cs := cs) hs hy
        dsimp only at q1
        have e7 : (xv - yv).toInt = xv.toInt - yv.toInt := na_sub (by omega) (by omega)
        have g2 : (xv - yv).toInt = w + 0 := g2
        exact ⟨w, xv.toInt, yv.toInt, g1, aIs_ext hx, aIs_ext hy, by omega⟩
    · exact fun f hf => by cases hf
/-- differences that a comparison tells -/
def adb2 (b : Nat) (t : Bool) (kx ky : Nat) (ox oy : Int) : aD := match b, t with
  | 2, true => [(ky, kx, ox + 1 - oy)]
  | 2, false => [(kx, ky, oy - ox)]
  | 3, true => [(kx, ky, oy - ox)]
  | 3, false => [(ky, kx, ox + 1 - oy)]
  | 4, true => [(kx, ky, oy + 1 - ox)]
  | 4, false => [(ky, kx, ox - oy)]
  | 5, true => [(ky, kx, ox - oy)]
  | 5, false => [(kx, ky, oy + 1 - ox)]
  | _, _ => []
def adb3 (len a b pc : Nat) (X : aX) : aD := match X.2.2.2.2 with
  | .inl (.inl (.inl (ky, oy))) :: .inl (.inl (.inl (kx, ox))) :: _ => bif Nat.beq a (X.2.2.1 + len) then [] else adb2 b (Nat.beq pc a) kx ky ox oy
  | _ => []
def adb1 (pc : Nat) : zI → aX → aD := fun (op, len, a, b, _, _, _) X => bif Nat.beq op 16 then adb3 len a b pc X else []
theorem adb2_ok {E : List Int} {b kx ky t n : Nat} {ox oy : Int} {x y : Int32} (hx : aIs E x.toInt (.inl (kx, ox))) (hy : aIs E y.toInt (.inl (ky, oy))) (ht : t ≠ n) : aDs E (adb2 b (Nat.beq (zicmp b x y t n) t) kx ky ox oy) := by
  obtain ⟨wx, gx, ex⟩ := hx
  obtain ⟨wy, gy, ey⟩ := hy
  have bt : Nat.beq t t = true := Nat.beq_refl t
  have bn : Nat.beq n t = false := by
    cases h : Nat.beq n t
    · rfl
    · exact absurd (Nat.eq_of_beq_eq_true h).symm ht
  have one : ∀ k j c w v, zget E k = some w → zget E j = some v → v + c ≤ w → aDs E [(k, j, c)] := by
    intro k j c w v h1 h2 h3 f hf
    have hf := List.mem_singleton.mp hf
    subst hf
    exact ⟨w, v, h1, h2, h3⟩
  have nil : aDs E [] := fun f hf => (by cases hf)
  match b with
  | 0 =>
    unfold adb2
    exact nil
  | 1 =>
    unfold adb2
    exact nil
  | 2 =>
    by_cases q : x < y
    · rw [show zicmp 2 x y t n = t from if_pos q, bt]
      have q := Int32.lt_iff_toInt_lt.mp q
      exact one _ _ _ _ _ gy gx (by omega)
    · rw [show zicmp 2 x y t n = n from if_neg q, bn]
      have q : ¬ x.toInt < y.toInt := fun w => q (Int32.lt_iff_toInt_lt.mpr w)
      exact one _ _ _ _ _ gx gy (by omega)
  | 3 =>
    by_cases q : x < y
    · rw [show zicmp 3 x y t n = n from if_pos q, bn]
      have q := Int32.lt_iff_toInt_lt.mp q
      exact one _ _ _ _ _ gy gx (by omega)
    · rw [show zicmp 3 x y t n = t from if_neg q, bt]
      have q : ¬ x.toInt < y.toInt := fun w => q (Int32.lt_iff_toInt_lt.mpr w)
      exact one _ _ _ _ _ gx gy (by omega)
  | 4 =>
    by_cases q : y < x
    · rw [show zicmp 4 x y t n = t from if_pos q, bt]
      have q := Int32.lt_iff_toInt_lt.mp q
      exact one _ _ _ _ _ gx gy (by omega)
    · rw [show zicmp 4 x y t n = n from if_neg q, bn]
      have q : ¬ y.toInt < x.toInt := fun w => q (Int32.lt_iff_toInt_lt.mpr w)
      exact one _ _ _ _ _ gy gx (by omega)
  | 5 =>
    by_cases q : y < x
    · rw [show zicmp 5 x y t n = n from if_pos q, bn]
      have q := Int32.lt_iff_toInt_lt.mp q
      exact one _ _ _ _ _ gx gy (by omega)
    · rw [show zicmp 5 x y t n = t from if_neg q, bt]
      have q : ¬ y.toInt < x.toInt := fun w => q (Int32.lt_iff_toInt_lt.mpr w)
      exact one _ _ _ _ _ gy gx (by omega)
  | b + 6 =>
    unfold adb2
    exact nil
theorem adb1_ok {S : Nat → Option (Nat × Nat)} {rf : Nat → Nat → List Nat} {iv : Nat → Nat → Int × Int} {E : List Int} {X : aX} {x y : zC} {e : zI} (R : aRel S rf iv E X x) (hz : zstep e x = some (.inl y)) : aDs E (adb1 y.1 e X) := by
  obtain ⟨op, len, a, b, c, v, sw⟩ := e
  have nil : aDs E [] := fun f hf => (by cases hf)
  unfold adb1
  dsimp only
  cases hb : Nat.beq op 16
  · exact nil
  · have e1 := Nat.eq_of_beq_eq_true hb
    subst e1
    dsimp only [cond_true]
    obtain ⟨cs, T, pc, al, as⟩ := X
    obtain ⟨pc', lo, st, h⟩ := x
    obtain ⟨hs, hpc, hl, hst, hh⟩ := R
    have hpc : pc = pc' := hpc
    subst hpc
    unfold adb3
    dsimp only
    split
    · rename_i ky oy kx ox r
      obtain ⟨u, sr, e3, ⟨yv, rfl, hy⟩, h3⟩ := aSt_cons hst
      obtain ⟨u, sr2, rfl, ⟨xv, rfl, hx⟩, h5⟩ := aSt_cons h3
      have e3 : st = .int yv :: .int xv :: sr2 := e3
      subst e3
      cases hz
      cases hq : Nat.beq a (pc + len)
      · exact adb2_ok hx hy (fun q => by rw [q, Nat.beq_refl] at hq; cases hq)
      · exact nil
    · exact nil
/-- what is known of an element -/
def aldf (i : aI) : aDl → Option Nat
  | [] => none
  | (j, k) :: r => bif aeqI j i then some k else aldf i r
/-- the script: its length, its elements -/
def ascr (ds : aD) (sl : aSc) : zI → aX → Option (aX × aSc) := fun (op, len, _, _, _, _, _) X => match sl.1 with
  | none => none
  | some k => bif Nat.beq op 28 then (match X.2.2.2.2 with
    | .inr [0] :: r => bif Nat.blt k X.1.length then some ((X.1, X.2.1, X.2.2.1 + len, X.2.2.2.1, .inl (.inl (.inl (k, 0))) :: r), sl) else none
    | _ => none) else bif Nat.beq op 22 then (match X.2.2.2.2 with
    | .inl (.inl i) :: .inr [0] :: r => bif ile 0 (abd X.1 i).1 && ale0 X.1 ds (alI 1 i (alI (-1) (.inl (k, 0)) (1, []))) then (match aldf i sl.2 with
      | some j => some ((X.1, X.2.1, X.2.2.1 + len, X.2.2.2.1, .inl (.inl (.inl (j, 0))) :: r), sl)
      | none => some ((X.1 ++ [afull], X.2.1, X.2.2.1 + len, X.2.2.2.1, .inl (.inl (.inl (X.1.length, 0))) :: r), (sl.1, (i, X.1.length) :: sl.2))) else none
    | _ => none) else none
/-- an element of the row of longs: known, in a stretch of numbers of roads, or any -/
def adrn (cs : aCs) (ds : aD) (i : aI) : aDr → Bool
  | [] => false
  | (lo, v) :: r => (ale0 cs ds (alI (-1) i (lo, [])) && ale0 cs ds (alI (-1) v (alI 1 i (1 - lo, [])))) || adrn cs ds i r
def along2 (S : Nat → Option (Nat × Nat)) (ds : aD) (hf : aHf) (len : Nat) (X : aX) : Option (aX × aHf) := match X.2.2.2.2 with
  | .inl (.inl i) :: .inr [o] :: r => bif Nat.beq o 126 && ain S X.1 i [126] (fun _ t => Nat.beq t 1) then (match aldf i hf.1 with
    | some k => bif Nat.blt k X.1.length then some ((X.1, X.2.1, X.2.2.1 + len, X.2.2.2.1, .inl (.inr (.inl (k, 0))) :: r), hf) else none
    | none => some ((X.1 ++ [bif adrn X.1 ds i hf.2.1 then (0, 11) else afulL], X.2.1, X.2.2.1 + len, X.2.2.2.1, .inl (.inr (.inl (X.1.length, 0))) :: r), ((i, X.1.length) :: hf.1, hf.2))) else none
  | _ => none
def along (S : Nat → Option (Nat × Nat)) (ds : aD) (hf : aHf) : zI → aX → Option (aX × aHf) := fun (op, len, _, _, _, _, _) X => bif Nat.beq op 23 then along2 S ds hf len X else none
def aspec (S : Nat → Option (Nat × Nat)) (e : zI) (G : aG) (X : aX) : Option (aX × aHf) := match acse e G.2.2.1 X with
  | some Z => some (Z, G.2.2.2)
  | none => (match ascr G.1 G.2.2.2.2.2 e X with
    | some p => some (p.1, (G.2.2.2.1, G.2.2.2.2.1, p.2))
    | none => along S G.1 G.2.2.2 e X)
