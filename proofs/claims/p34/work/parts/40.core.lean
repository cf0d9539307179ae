/-! ONE STEP with frames, contracts and facts. -/
abbrev aG : Type := aD × aDf × aDq
abbrev aY : Type := aX × aG × Nat × List aFm
def adf2 (X : aX) : aDf := match X.2.2.2.2 with
  | .inl (.inl (.inl y)) :: .inl (.inl (.inl x)) :: _ => bif aok32 ((abd X.1 (.inl x)).1 - (abd X.1 (.inl y)).2, (abd X.1 (.inl x)).2 - (abd X.1 (.inl y)).1) then [(X.1.length, .inl x, .inl y)] else []
  | _ => []
def adf1 : zI → aX → aDf := fun (op, _, _, b, _, _, _) X => bif Nat.beq op 7 && Nat.beq b 1 then adf2 X else []
def adq2 (b : Nat) (X : aX) : aDq := match X.2.2.2.2 with
  | .inl (.inl (.inr d)) :: .inl (.inl (.inl x)) :: _ => bif decide (0 < d) then [(X.1.length, b, .inl x, d)] else []
  | _ => []
def adq1 : zI → aX → aDq := fun (op, _, _, b, _, _, _) X => bif Nat.beq op 8 then adq2 b X else []
/-- a quotient or rest that is there already -/
def acs3 (b : Nat) (x : aI) (d : Int) : aDq → Option Nat
  | [] => none
  | (k, b', x', d') :: r => bif (Nat.beq b' b && aeqI x' x) && decide (d' = d) then some k else acs3 b x d r
def acs2 (len b : Nat) (dq : aDq) (X : aX) : Option aX := match X.2.2.2.2 with
  | .inl (.inl (.inr d)) :: .inl (.inl (.inl x)) :: r => bif decide (0 < d) then (match acs3 b (.inl x) d dq with
    | some k => some (X.1, X.2.1, X.2.2.1 + len, X.2.2.2.1, .inl (.inl (.inl (k, 0))) :: r)
    | none => none) else none
  | _ => none
def acse : zI → aDq → aX → Option aX := fun (op, len, _, b, _, _, _) dq X => bif Nat.beq op 8 then acs2 len b dq X else none
def aprs (df : aDf) (dq : aDq) : List aX → List aX
  | [] => []
  | Z :: r => (match apr df Z.1 with
    | some c => (match aprq dq c with
      | some c2 => (c2, Z.2) :: aprs df dq r
      | none => aprs df dq r)
    | none => aprs df dq r)
theorem aprs_ok {S : Nat → Option (Nat × Nat)} {rf : Nat → Nat → List Nat} {iv : Nat → Nat → Int × Int} {E : List Int} {df : aDf} {dq : aDq} {x : zC} (hd : aDfs E df) (hq : aDqs E dq) : ∀ {Ys : List aX} {Y : aX}, Y ∈ Ys → aRel S rf iv E Y x → ∃ Z, Z ∈ aprs df dq Ys ∧ aRel S rf iv E Z x
  | [], _, h, _ => by cases h
  | Y1 :: r, Y, h, R => by
    unfold aprs
    rcases List.mem_cons.mp h with rfl | h
    · obtain ⟨c, e1, e2⟩ := apr_ok R.1 hd
      obtain ⟨c2, e3, e4⟩ := aprq_ok e2 hq
      rw [e1]
      dsimp only
      rw [e3]
      exact ⟨(c2, Y.2), List.mem_cons_self, e4, R.2⟩
    · obtain ⟨Z, g1, g2⟩ := aprs_ok hd hq h R
      split
      · split
        · exact ⟨Z, List.mem_cons_of_mem _ g1, g2⟩
        · exact ⟨Z, g1, g2⟩
      · exact ⟨Z, g1, g2⟩
theorem acs3_ok {b : Nat} {x : aI} {d : Int} : ∀ {dq : aDq} {k : Nat}, acs3 b x d dq = some k → (k, b, x, d) ∈ dq
  | [], _, h => by cases h
  | (k', b', x', d') :: r, k, h => by
    unfold acs3 at h
    generalize hc : ((Nat.beq b' b && aeqI x' x) && decide (d' = d)) = c at h
    cases c with
    | false => exact List.mem_cons_of_mem _ (acs3_ok h)
    | true =>
      cases h
      rw [Bool.and_eq_true, Bool.and_eq_true, decide_eq_true_eq] at hc
      rw [← Nat.eq_of_beq_eq_true hc.1.1, ← aeqI_ok hc.1.2, ← hc.2]
      exact List.mem_cons_self
theorem acse_ok {S : Nat → Option (Nat × Nat)} {rf : Nat → Nat → List Nat} {iv : Nat → Nat → Int × Int} {E : List Int} {X Z : aX} {x : zC} {e : zI} {dq : aDq} (R : aRel S rf iv E X x) (hq : aDqs E dq) (h0 : acse e dq X = some Z) : ∃ y, zstep e x = some (.inl y) ∧ aRel S rf iv E Z y ∧ y.2.2.2 = x.2.2.2 := by
  obtain ⟨op, len, a, b, c, v, sw⟩ := e
  unfold acse at h0
  dsimp only at h0
  cases hb : Nat.beq op 8
  · rw [hb] at h0; cases h0
  · rw [hb] at h0
    have e1 := Nat.eq_of_beq_eq_true hb
    subst e1
    dsimp only [cond_true] at h0
    obtain ⟨cs, T, pc, al, as⟩ := X
    obtain ⟨pc', lo, st, h⟩ := x
    obtain ⟨hs, hpc, hl, hst, hh⟩ := R
    have hpc : pc = pc' := hpc
    subst hpc
    unfold acs2 at h0
    dsimp only at h0
    split at h0
    · rename_i d ax r
      obtain ⟨u, sr, e3, ⟨yv, rfl, hy⟩, h3⟩ := aSt_cons hst
      obtain ⟨u, sr2, rfl, ⟨xv, rfl, hx⟩, h5⟩ := aSt_cons h3
      have e3 : st = .int yv :: .int xv :: sr2 := e3
      subst e3
      cases hc : decide (0 < d)
      · rw [hc] at h0; cases h0
      · rw [hc] at h0
        rw [decide_eq_true_eq] at hc
        dsimp only [cond_true] at h0
        split at h0
        · rename_i k hk
          cases h0
          obtain ⟨w, xv2, g1, g2, g3⟩ := hq _ (acs3_ok hk)
          dsimp only at g1 g2 g3
          have hy : yv.toInt = d := hy
          have ey : Int32.ofInt d = yv := aof hy
          have ex : xv2 = xv := by
            rw [← Int32.toInt_inj, ← aval_eq g2, ← aval_eq hx]
          subst ex
          rw [ey] at g3
          have y0 : ¬ yv = 0 := fun q => by
            rw [q] at hy
            have z0 : (0 : Int32).toInt = 0 := rfl
            omega
          refine ⟨(pc + len, lo, .int (zdv b xv2 yv) :: sr2, h), ?_, ⟨hs, rfl, hl, ⟨⟨_, rfl, w, g1, by omega⟩, h5⟩, hh⟩, rfl⟩
          show (if yv = 0 then none else _) = _
          rw [if_neg y0]
          cases b <;> rfl
        · cases h0
    · cases h0
theorem adq1_ok {S : Nat → Option (Nat × Nat)} {rf : Nat → Nat → List Nat} {B : aB} {W : Nat → Nat → Bool} {WA : Nat → Bool} {E q : List Int} {X Y : aX} {x y : zC} {e : zI} {Ys : List aX} (R : aRel S rf (aiv B) E X x) (h0 : astepG S rf B W WA e X = some (.inl Ys)) (hz : zstep e x = some (.inl y)) (hY : Y ∈ Ys) (RY : aRel S rf (aiv B) (E ++ q) Y y) : aDqs (E ++ q) (adq1 e X) := by
  obtain ⟨op, len, a, b, c, v, sw⟩ := e
  unfold adq1
  dsimp only
  cases hb : Nat.beq op 8
  · exact fun f hf => by cases hf
  · have e1 := Nat.eq_of_beq_eq_true hb
    subst e1
    dsimp only [cond_true]
    obtain ⟨cs, T, pc, al, as⟩ := X
    obtain ⟨pc', lo, st, h⟩ := x
    obtain ⟨hs, -, hl, hst, hh⟩ := R
    unfold adq2
    dsimp only
    split
    · rename_i d ax r
      obtain ⟨u, sr, e3, ⟨yv, rfl, hy⟩, h3⟩ := aSt_cons hst
      obtain ⟨u, sr2, rfl, ⟨xv, rfl, hx⟩, h5⟩ := aSt_cons h3
      have e3 : st = .int yv :: .int xv :: sr2 := e3
      subst e3
      cases hc : decide (0 < d)
      · exact fun f hf => by cases hf
      · rw [decide_eq_true_eq] at hc
        have hy : yv.toInt = d := hy
        have ey : Int32.ofInt d = yv := aof hy
        have y0 : ¬ yv = 0 := fun q => by
          rw [q] at hy
          have z0 : (0 : Int32).toInt = 0 := rfl
          omega
        have hz : some (.inl (pc' + len, lo, .int (zdv b xv yv) :: sr2, h)) = (some (.inl y) : Option zO) := by
          rw [← hz]
          show _ = (if yv = 0 then none else _)
          rw [if_neg y0]
          cases b <;> rfl
        cases hz
        have h0 : (match adiv cs b (.inl ax) (.inr d) with
          | some q => ago (q.1, T, pc + len, al, .inl (.inl q.2) :: r)
          | none => none) = (some (.inl Ys) : Option aR) := h0
        have hnew : ∀ q, adiv cs b (.inl ax) (.inr d) = some q → q.2 = .inl (cs.length, 0) := by
          intro q hq
          have hq : adiv0 cs b (.inl ax) (.inr d) = some q := hq
          unfold adiv0 at hq
          cases c1 : decide (0 < (abd cs (.inr d)).1)
          · rw [c1] at hq
            dsimp only [cond_false] at hq
            cases c2 : decide ((abd cs (.inr d)).2 < 0)
            · rw [c2] at hq; cases hq
            · rw [c2] at hq; cases hq; rfl
          · rw [c1] at hq
            dsimp only [cond_true] at hq
            cases b with
            | zero => cases hq; rfl
            | succ b =>
              cases c3 : decide (0 ≤ (abd cs (.inl ax)).1)
              · rw [c3] at hq; cases hq; rfl
              · rw [c3] at hq; cases hq; rfl
        split at h0
        · rename_i q' hq'
          cases h0
          have e4 := List.mem_singleton.mp hY
          subst e4
          obtain ⟨-, -, -, hst2, -⟩ := RY
          obtain ⟨u, sr, e5, ⟨z, e6, g0⟩, -⟩ := aSt_cons hst2
          cases e5
          cases e6
          rw [hnew _ hq'] at g0
          obtain ⟨w, g1, g2⟩ := g0
          intro f hf
          have hf := List.mem_singleton.mp hf
          subst hf
          exact ⟨w, xv, g1, aIs_ext hx, by dsimp only; rw [ey]; omega⟩
        · cases h0
    · exact fun f hf => by cases hf
theorem adf1_ok {S : Nat → Option (Nat × Nat)} {rf : Nat → Nat → List Nat} {B : aB} {W : Nat → Nat → Bool} {WA : Nat → Bool} {E q : List Int} {X Y : aX} {x y : zC} {e : zI} {Ys : List aX} (R : aRel S rf (aiv B) E X x) (h0 : astepG S rf B W WA e X = some (.inl Ys)) (hz : zstep e x = some (.inl y)) (hY : Y ∈ Ys) (RY : aRel S rf (aiv B) (E ++ q) Y y) : aDfs (E ++ q) (adf1 e X) := by
  obtain ⟨op, len, a, b, c, v, sw⟩ := e
  unfold adf1
  dsimp only
  cases hb : (Nat.beq op 7 && Nat.beq b 1)
  · exact fun f hf => by cases hf
  · rw [Bool.and_eq_true] at hb
    have e1 := Nat.eq_of_beq_eq_true hb.1
    have e2 := Nat.eq_of_beq_eq_true hb.2
    subst e1
    subst e2
    dsimp only [cond_true]
    obtain ⟨cs, T, pc, al, as⟩ := X
    obtain ⟨pc', lo, st, h⟩ := x
    obtain ⟨hs, -, hl, hst, hh⟩ := R
    unfold adf2
    dsimp only
    split
    · rename_i ay ax r
      obtain ⟨u, sr, e3, ⟨yv, rfl, hy⟩, h3⟩ := aSt_cons hst
      obtain ⟨u, sr2, rfl, ⟨xv, rfl, hx⟩, h5⟩ := aSt_cons h3
      have e3 : st = .int yv :: .int xv :: sr2 := e3
      subst e3
      cases hz
      have h0 : some (.inl [((cs ++ [aclip ((abd cs (.inl ax)).1 - (abd cs (.inl ay)).2, (abd cs (.inl ax)).2 - (abd cs (.inl ay)).1)]), T, pc + len, al, .inl (.inl (.inl (cs.length, 0))) :: r)]) = (some (.inl Ys) : Option aR) := h0
      cases h0
      have e4 := List.mem_singleton.mp hY
      subst e4
      obtain ⟨-, -, -, hst2, -⟩ := RY
      obtain ⟨u, sr, e5, ⟨z, e6, w, g1, g2⟩, -⟩ := aSt_cons hst2
      cases e5
      cases e6
      cases hc : aok32 ((abd cs (.inl ax)).1 - (abd cs (.inl ay)).2, (abd cs (.inl ax)).2 - (abd cs (.inl ay)).1)
      · exact fun f hf => by cases hf
      · intro f hf
        have hf := List.mem_singleton.mp hf
        subst hf
        have q1 := aok32_ok hc
        have bx := abd_ok (cs := cs) hs hx
        have by' := abd_ok (cs := cs) hs hy
        dsimp only at q1
        have e7 : (xv - yv).toInt = xv.toInt - yv.toInt := na_sub (by omega) (by omega)
        have g2 : (xv - yv).toInt = w + 0 := g2
        exact ⟨w, xv.toInt, yv.toInt, g1, aIs_ext hx, aIs_ext hy, by omega⟩
    · exact fun f hf => by cases hf
noncomputable def acore (S : Nat → Option (Nat × Nat)) (rf : Nat → Nat → List Nat) (B : aB) (es : List aE) (Wl : aW) (d : Nat) (X : aX) (G : aG) (mi : Nat) (gs : List aFm) : Option (List (Nat × aY) ⊕ (aX × Option aV)) := match zif2 mi X.2.2.1 with
  | none => none
  | some e => (match astepR e X with
    | some (.inr (.inr w)) => (match gs with
      | [] => some (.inr (X, w))
      | g :: gs' => some (.inl [(d + 1, ((X.1, X.2.1, g.2.1, g.2.2.1, w.toList ++ g.2.2.2), G, g.1, gs'))]))
    | _ => (match astepC S e X with
      | some (.inr (.inl (m, xs, Z))) => (match d with
        | 0 => none
        | d' + 1 => bif aany m es then (match acall m Wl d' Z (aent Z m xs) G.1 es with
          | some p => some (.inl [(d' + 1, (p.1, (p.2, G.2), mi, gs))])
          | none => none) else bif Nat.beq (apad (zL m) (aargs xs)).length (zL m) then some (.inl [(d', (aent Z m xs, G, m, (mi, Z.2.2.1, Z.2.2.2.1, Z.2.2.2.2) :: gs))]) else none)
      | _ => (match acse e G.2.2 X with
        | some Z => some (.inl [(d, (Z, G, mi, gs))])
        | none => (match astepF S rf B (aWf (awn Wl)) (aWA (awn Wl)) e X with
          | some (.inl Ys) => some (.inl ((aprs (adf1 e X ++ G.2.1) (adq1 e X ++ G.2.2) Ys).map (fun Z => (d, (Z, (G.1, adf1 e X ++ G.2.1, adq1 e X ++ G.2.2), mi, gs)))))
          | _ => none))))
section AC4
variable {S : Nat → Option (Nat × Nat)} {rf : Nat → Nat → List Nat} {B : aB} {E : List Int} {es : List aE} {Wl : aW} {d mi : Nat} {P : Option Value → zH → Prop} {fs : List zFm} {gs : List aFm} {x : zC} {X : aX} {G : aG}
theorem acore_ok {Ys : List (Nat × aY)} (hes : ∀ e, e ∈ es → aOK S rf B e) (R : aRel S rf (aiv B) E X x) (hD : aDs E G.1) (hF : aDfs E G.2.1) (hQ : aDqs E G.2.2) (hG : aFs E fs gs) (hj : aJ x.2.2.2) (h0 : acore S rf B es Wl d X G mi gs = some (.inl Ys)) (hk : ∀ p, p ∈ Ys → ∀ q x' fs', aRel S rf (aiv B) (E ++ q) p.2.1 x' → aDs (E ++ q) p.2.2.1.1 → aDfs (E ++ q) p.2.2.1.2.1 → aDqs (E ++ q) p.2.2.1.2.2 → aFs (E ++ q) fs' p.2.2.2.2 → aFr (aWf Wl) x.2.2.2 x'.2.2.2 → aJ x'.2.2.2 → zTS p.1 fs' p.2.2.2.1 x' P) : zTS d fs mi x P := by
  obtain ⟨cs, T, pc, al, as⟩ := X
  obtain ⟨pc', lo, st, h⟩ := x
  have epc : pc = pc' := R.2.1
  subst epc
  have nil : E ++ [] = E := List.append_nil E
  unfold acore at h0
  rw [zif2_eq] at h0
  dsimp only at h0
  split at h0
  · cases h0
  · rename_i e he
    obtain ⟨op, len, a, b, c, v, sw⟩ := e
    split at h0
    · rename_i w hw
      obtain ⟨u, g1, g2⟩ := astepR_ok R hw
      match gs, fs, hG, h0 with
      | [], _, _, h0 => cases h0
      | g :: gs', [], hG, h0 => exact hG.elim
      | g :: gs', f :: fs', hG, h0 =>
        cases h0
        obtain ⟨f1, f2, f3, f4⟩ := f
        obtain ⟨⟨k1, k2, k3, k4⟩, k5⟩ := hG
        dsimp only at k1 k2 k3 k4
        subst k1
        subst k2
        refine zTS_ret he g1 (hk _ (List.mem_singleton.mpr rfl) [] _ fs' ?_ (by rw [nil]; exact hD) (by rw [nil]; exact hF) (by rw [nil]; exact hQ) (by rw [nil]; exact k5) aFr_refl hj)
        rw [nil]
        refine ⟨R.1, rfl, k3, ?_, R.2.2.2.2⟩
        dsimp only
        match w, u, g2 with
        | none, none, _ => exact k4
        | some w, some u, g2 => exact ⟨g2, k4⟩
    · split at h0
      · rename_i m xs Z hc
        obtain ⟨us, y, g1, g2, g3, g4⟩ := astepC_ok R hc
        match d, h0 with
        | 0, h0 => cases h0
        | d' + 1, h0 =>
          dsimp only at h0
          cases ha : aany m es
          · rw [ha] at h0
            dsimp only [cond_false] at h0
            cases hl : Nat.beq (apad (zL m) (aargs xs)).length (zL m)
            · rw [hl] at h0; cases h0
            · rw [hl] at h0
              cases h0
              have hlo : aLo E (zpad (zL m) (zargs us)) (apad (zL m) (aargs xs)) := aLr_lo (apad_ok (aargs_ok g2))
              have hlen : (zpad (zL m) (zargs us)).length = zL m := hlo.1.trans (Nat.eq_of_beq_eq_true hl)
              refine zTS_push he g1 hlen (hk _ (List.mem_singleton.mpr rfl) [] _ _ ?_ (by rw [nil]; exact hD) (by rw [nil]; exact hF) (by rw [nil]; exact hQ) ?_ aFr_refl hj)
              · rw [nil]
                exact ⟨g3.1, rfl, hlo, trivial, by rw [← g4]; exact g3.2.2.2.2⟩
              · rw [nil]
                exact ⟨⟨rfl, g3.2.1.symm, g3.2.2.1, g3.2.2.2.1⟩, hG⟩
          · rw [ha] at h0
            dsimp only [cond_true] at h0
            split at h0
            · rename_i p hp
              cases h0
              obtain ⟨p1, p2⟩ := p
              exact acall_ok he g1 g2 g3 g4 hD hj (fun q x' r1 r2 r3 r4 => hk _ (List.mem_singleton.mpr rfl) q x' fs r1 r2 (aDfs_ext hF) (aDqs_ext hQ) (aFs_ext hG) r3 r4) hes hp
            · cases h0
      · split at h0
        · rename_i Z hz
          cases h0
          obtain ⟨y, g1, g2, g3⟩ := acse_ok R hQ hz
          exact zTS_step he g1 (hk _ (List.mem_singleton.mpr rfl) [] y fs (by rw [nil]; exact g2) (by rw [nil]; exact hD) (by rw [nil]; exact hF) (by rw [nil]; exact hQ) (by rw [nil]; exact hG) (fun o k _ => by rw [g3]) (by rw [g3]; exact hj))
        · split at h0
          · rename_i Ys' hg
            cases h0
            rw [astepF_eq] at hg
            obtain ⟨y, g1, ⟨q, Y, hY, R2⟩, g3⟩ := astepG_ok aW_all R hg
            have hF2 : aDfs (E ++ q) (adf1 (op, len, a, b, c, v, sw) (cs, T, pc, al, as) ++ G.2.1) := by
              intro f hf
              rcases List.mem_append.mp hf with hf | hf
              · exact adf1_ok R hg g1 hY R2 f hf
              · exact aDfs_ext hF f hf
            have hQ2 : aDqs (E ++ q) (adq1 (op, len, a, b, c, v, sw) (cs, T, pc, al, as) ++ G.2.2) := by
              intro f hf
              rcases List.mem_append.mp hf with hf | hf
              · exact adq1_ok R hg g1 hY R2 f hf
              · exact aDqs_ext hQ f hf
            obtain ⟨Z, z1, z2⟩ := aprs_ok hF2 hQ2 hY R2
            exact zTS_step he g1 (hk _ (List.mem_map.mpr ⟨Z, z1, rfl⟩) q y fs z2 (aDs_ext hD) hF2 hQ2 (aFs_ext hG) (aFr_n g3) (aJ_fr hj g3))
          · cases h0
theorem acoreR_ok {X' : aX} {w : Option aV} (R : aRel S rf (aiv B) E X x) (hG : aFs E fs gs) (h0 : acore S rf B es Wl d X G mi gs = some (.inr (X', w))) (hk : X' = X → ∀ u, aRet E u w → P u x.2.2.2) : zTS d fs mi x P := by
  obtain ⟨cs, T, pc, al, as⟩ := X
  obtain ⟨pc', lo, st, h⟩ := x
  have epc : pc = pc' := R.2.1
  subst epc
  unfold acore at h0
  rw [zif2_eq] at h0
  dsimp only at h0
  split at h0
  · cases h0
  · rename_i e he
    obtain ⟨op, len, a, b, c, v, sw⟩ := e
    split at h0
    · rename_i w' hw
      obtain ⟨u, g1, g2⟩ := astepR_ok R hw
      match gs, fs, hG, h0 with
      | [], [], _, h0 =>
        cases h0
        exact zT_ret he g1 (hk rfl u g2)
      | [], _ :: _, hG, h0 => exact hG.elim
      | g :: gs', _, hG, h0 => cases h0
    · split at h0
      · rename_i m xs Z hc
        match d, h0 with
        | 0, h0 => cases h0
        | d' + 1, h0 =>
          dsimp only at h0
          cases ha : aany m es
          · rw [ha] at h0
            dsimp only [cond_false] at h0
            cases hl : Nat.beq (apad (zL m) (aargs xs)).length (zL m)
            · rw [hl] at h0; cases h0
            · rw [hl] at h0; cases h0
          · rw [ha] at h0
            dsimp only [cond_true] at h0
            split at h0
            · cases h0
            · cases h0
      · split at h0
        · cases h0
        · split at h0
          · cases h0
          · cases h0
end AC4
