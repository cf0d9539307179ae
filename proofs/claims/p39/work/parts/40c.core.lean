/-! ONE STEP with frames, contracts and facts. -/
def alw (Wl : aW) : zI → Bool := fun (op, _, _, _, _, _, _) => !(Nat.beq op 26 || Nat.beq op 34) || aWf (awn Wl) 1000 0
/-- what is known of cells behind a plain step -/
def ahk (hf : aHf) : zI → aHf := fun (op, _, _, _, _, _, _) => bif Nat.beq op 26 || Nat.beq op 34 then ([], [], hf.2.2) else hf
def acore2 (S : Nat → Option (Nat × Nat)) (rf : Nat → Nat → List Nat) (B : aB) (es : List aE) (Wl : aW) (d : Nat) (X : aX) (G : aG) (mi : Nat) (gs : List aFm) (e : zI) : Option (List (Nat × aY) ⊕ (aX × Option aV)) := (match astepR e X with
    | some (.inr (.inr w)) => (match gs with
      | [] => some (.inr (X, w))
      | g :: gs' => some (.inl [(d + 1, ((X.1, X.2.1, g.2.1, g.2.2.1, w.toList ++ g.2.2.2), G, g.1, gs'))]))
    | _ => (match astepC S e X with
      | some (.inr (.inl (m, xs, Z))) => (match d with
        | 0 => none
        | d' + 1 => bif aany m es then (match acall m Wl d' Z (aent Z m xs) G.1 G.2.2.2 es with
          | some p => some (.inl [(d' + 1, (p.1, (p.2.1, G.2.1, G.2.2.1, p.2.2), mi, gs))])
          | none => none) else bif Nat.beq (apad (zL m) (aargs xs)).length (zL m) then some (.inl [(d', (aent Z m xs, G, m, (mi, Z.2.2.1, Z.2.2.2.1, Z.2.2.2.2) :: gs))]) else none)
      | _ => (match aspec S e G X with
        | some p => some (.inl [(d, (p.1, (G.1, G.2.1, G.2.2.1, p.2), mi, gs))])
        | none => bif alw Wl e then (match astepF S rf B (aWf (awn Wl)) (aWA (awn Wl)) e X with
          | some (.inl Ys) => some (.inl ((aprs (adf1 e X ++ G.2.1) (adq1 e X ++ G.2.2.1) Ys).map (fun Z => (d, (Z, (bif gs.isEmpty then adb1 Z.2.2.1 e X ++ G.1 else G.1, adf1 e X ++ G.2.1, adq1 e X ++ G.2.2.1, ahk G.2.2.2 e), mi, gs)))))
          | _ => none) else none)))
/-- plain steps -/
def apl : zI → Bool := fun (op, _, _, b, _, _, _) => Nat.beq (Nat.land (Nat.shiftRight 34636817907327 op) 1) 1 || (Nat.beq op 7 && !(Nat.beq b 1))
def acoreP (S : Nat → Option (Nat × Nat)) (rf : Nat → Nat → List Nat) (B : aB) (Wl : aW) (d : Nat) (X : aX) (G : aG) (mi : Nat) (gs : List aFm) (e : zI) : Option (List (Nat × aY) ⊕ (aX × Option aV)) := match astepF S rf B (aWf (awn Wl)) (aWA (awn Wl)) e X with
  | some (.inl Ys) => some (.inl (Ys.map (fun Z => (d, (Z, G, mi, gs)))))
  | _ => none
/-- a comparison of longs and the branch behind it -/
def alcb (X : aX) (len : Nat) : zI → Option (List aX) := fun (op, len2, a2, b2, _, _, _) => bif Nat.beq op 15 then (match X.2.2.2.2 with
  | .inl (.inr y) :: .inl (.inr x) :: r => some (aopt (fun c => (c, X.2.1, a2, X.2.2.2.1, r)) (acmp X.1 b2 x y).1 ++ aopt (fun c => (c, X.2.1, X.2.2.1 + len + len2, X.2.2.2.1, r)) (acmp X.1 b2 x y).2)
  | _ => none) else none
noncomputable def alcx (X : aX) (mi : Nat) : zI → Option (List aX) := fun (op, len, _, _, _, _, _) => bif Nat.beq op 14 then (match zif3 mi (X.2.2.1 + len) with
  | some e2 => alcb X len e2
  | none => none) else none
noncomputable def acore1 (S : Nat → Option (Nat × Nat)) (rf : Nat → Nat → List Nat) (B : aB) (es : List aE) (Wl : aW) (d : Nat) (X : aX) (G : aG) (mi : Nat) (gs : List aFm) (e : zI) : Option (List (Nat × aY) ⊕ (aX × Option aV)) := bif apl e then acoreP S rf B Wl d X G mi gs e else (match alcx X mi e with
  | some Ys => some (.inl ((aprs G.2.1 G.2.2.1 Ys).map (fun Z => (d, (Z, G, mi, gs)))))
  | none => acore2 S rf B es Wl d X G mi gs e)
/-- known numbers are taken as such where it matters -/
def anr : zI → aX → aX := fun (op, _, _, _, _, _, _) X => bif Nat.beq op 7 || (Nat.beq op 8 || (Nat.beq op 22 || Nat.beq op 25)) then anrm X else X
theorem anr_ok {S : Nat → Option (Nat × Nat)} {rf : Nat → Nat → List Nat} {iv : Nat → Nat → Int × Int} {E : List Int} {X : aX} {x : zC} {e : zI} (R : aRel S rf iv E X x) : aRel S rf iv E (anr e X) x := by
  obtain ⟨op, len, a, b, c, v, sw⟩ := e
  unfold anr
  dsimp only
  cases (Nat.beq op 7 || (Nat.beq op 8 || (Nat.beq op 22 || Nat.beq op 25)))
  · exact R
  · exact anrm_ok R
noncomputable def acore (S : Nat → Option (Nat × Nat)) (rf : Nat → Nat → List Nat) (B : aB) (es : List aE) (Wl : aW) (d : Nat) (X : aX) (G : aG) (mi : Nat) (gs : List aFm) : Option (List (Nat × aY) ⊕ (aX × Option aV)) := match zif3 mi X.2.2.1 with
  | none => none
  | some e => acore1 S rf B es Wl d (anr e X) G mi gs e
section AC4
variable {S : Nat → Option (Nat × Nat)} {rf : Nat → Nat → List Nat} {B : aB} {E : List Int} {es : List aE} {Wl : aW} {d mi : Nat} {P : Option Value → zH → Prop} {fs : List zFm} {gs : List aFm} {x : zC} {X : aX} {G : aG}
theorem acore2_ok {Ys : List (Nat × aY)} {e : zI} (he : zi mi x.1 = some e) (hes : ∀ e, e ∈ es → aOK S rf B e) (R : aRel S rf (aiv B) E X x) (hD : aDs E G.1) (hF : aDfs E G.2.1) (hQ : aDqs E G.2.2.1) (hH : aHfs E x.2.2.2 G.2.2.2) (hG : aFs E fs gs) (hj : aJ x.2.2.2) (h0 : acore2 S rf B es Wl d X G mi gs e = some (.inl Ys)) (hk : ∀ p, p ∈ Ys → ∀ q x' fs', aRel S rf (aiv B) (E ++ q) p.2.1 x' → aDs (E ++ q) p.2.2.1.1 → aDfs (E ++ q) p.2.2.1.2.1 → aDqs (E ++ q) p.2.2.1.2.2.1 → aHfs (E ++ q) x'.2.2.2 p.2.2.1.2.2.2 → aFs (E ++ q) fs' p.2.2.2.2 → aFr (aWf Wl) x.2.2.2 x'.2.2.2 → aJ x'.2.2.2 → zTS p.1 fs' p.2.2.2.1 x' P) : zTS d fs mi x P := by
  obtain ⟨cs, T, pc, al, as⟩ := X
  obtain ⟨pc', lo, st, h⟩ := x
  have epc : pc = pc' := R.2.1
  subst epc
  have nil : E ++ [] = E := List.append_nil E
  obtain ⟨op, len, a, b, c, v, sw⟩ := e
  unfold acore2 at h0
  dsimp only at h0
  · skip
    split at h0
    · rename_i w hw
      obtain ⟨u, g1, g2⟩ := astepR_ok R hw
      match gs, fs, hG, h0 with
      | [], _, _, h0 => cases h0
      | g :: gs', [], hG, h0 => exact hG.elim
      | g :: gs', f :: fs', hG, h0 =>
        cases h0
        obtain ⟨f1, f2, f3, f4⟩ := f
        obtain ⟨⟨k1, k2, k3, k4⟩, k5⟩ := hG
        dsimp only at k1 k2 k3 k4
        subst k1
        subst k2
        refine zTS_ret he g1 (hk _ (List.mem_singleton.mpr rfl) [] _ fs' ?_ (by rw [nil]; exact hD) (by rw [nil]; exact hF) (by rw [nil]; exact hQ) (by rw [nil]; exact hH) (by rw [nil]; exact k5) aFr_refl hj)
        rw [nil]
        refine ⟨R.1, rfl, k3, ?_, R.2.2.2.2⟩
        dsimp only
        match w, u, g2 with
        | none, none, _ => exact k4
        | some w, some u, g2 => exact ⟨g2, k4⟩
    · split at h0
      · rename_i m xs Z hc
        obtain ⟨us, y, g1, g2, g3, g4⟩ := astepC_ok R hc
        match d, h0 with
        | 0, h0 => cases h0
        | d' + 1, h0 =>
          dsimp only at h0
          cases ha : aany m es
          · rw [ha] at h0
            dsimp only [cond_false] at h0
            cases hl : Nat.beq (apad (zL m) (aargs xs)).length (zL m)
            · rw [hl] at h0; cases h0
            · rw [hl] at h0
              cases h0
              have hlo : aLo E (zpad (zL m) (zargs us)) (apad (zL m) (aargs xs)) := aLr_lo (apad_ok (aargs_ok g2))
              have hlen : (zpad (zL m) (zargs us)).length = zL m := hlo.1.trans (Nat.eq_of_beq_eq_true hl)
              refine zTS_push he g1 hlen (hk _ (List.mem_singleton.mpr rfl) [] _ _ ?_ (by rw [nil]; exact hD) (by rw [nil]; exact hF) (by rw [nil]; exact hQ) (by rw [nil]; exact hH) ?_ aFr_refl hj)
              · rw [nil]
                exact ⟨g3.1, rfl, hlo, trivial, by rw [← g4]; exact g3.2.2.2.2⟩
              · rw [nil]
                exact ⟨⟨rfl, g3.2.1.symm, g3.2.2.1, g3.2.2.2.1⟩, hG⟩
          · rw [ha] at h0
            dsimp only [cond_true] at h0
            split at h0
            · rename_i p hp
              cases h0
              obtain ⟨p1, p2, p3⟩ := p
              exact acall_ok he g1 g2 g3 g4 hD hH hj (fun q x' r1 r2 r5 r3 r4 => hk _ (List.mem_singleton.mpr rfl) q x' fs r1 r2 (aDfs_ext hF) (aDqs_ext hQ) r5 (aFs_ext hG) r3 r4) hes hp
            · cases h0
      · split at h0
        · rename_i p hp
          cases h0
          obtain ⟨Z, hf'⟩ := p
          obtain ⟨y, q, g1, g2, g3, g4⟩ := aspec_ok R hD hQ hH hp
          exact zTS_step he g1 (hk _ (List.mem_singleton.mpr rfl) q y fs g2 (aDs_ext hD) (aDfs_ext hF) (aDqs_ext hQ) (by rw [g4]; exact g3) (aFs_ext hG) (by rw [g4]; exact aFr_refl) (by rw [g4]; exact hj))
        · cases hlw : alw Wl (op, len, a, b, c, v, sw)
          · rw [hlw] at h0; cases h0
          · rw [hlw] at h0
            dsimp only [cond_true] at h0
            split at h0
            · rename_i Ys' hg
              cases h0
              rw [astepF_eq] at hg
              obtain ⟨y, g1, ⟨q, Y, hY, R2⟩, g3⟩ := astepG_ok aW_all R hg
              obtain ⟨s1, s2⟩ := zkeep hg g1
              have hF2 : aDfs (E ++ q) (adf1 (op, len, a, b, c, v, sw) (cs, T, pc, al, as) ++ G.2.1) := by
                intro f hf
                rcases List.mem_append.mp hf with hf | hf
                · exact adf1_ok R hg g1 hY R2 f hf
                · exact aDfs_ext hF f hf
              have hQ2 : aDqs (E ++ q) (adq1 (op, len, a, b, c, v, sw) (cs, T, pc, al, as) ++ G.2.2.1) := by
                intro f hf
                rcases List.mem_append.mp hf with hf | hf
                · exact adq1_ok R hg g1 hY R2 f hf
                · exact aDqs_ext hQ f hf
              obtain ⟨Z, z1, z2⟩ := aprs_ok hF2 hQ2 hY R2
              have hD2 : aDs (E ++ q) (bif gs.isEmpty then adb1 Z.2.2.1 (op, len, a, b, c, v, sw) (cs, T, pc, al, as) ++ G.1 else G.1) := by
                cases gs.isEmpty
                · exact aDs_ext hD
                intro f hf
                have hf : f ∈ adb1 Z.2.2.1 (op, len, a, b, c, v, sw) (cs, T, pc, al, as) ++ G.1 := hf
                rcases List.mem_append.mp hf with hf | hf
                · rw [z2.2.1] at hf
                  exact aDs_ext (adb1_ok R g1) f hf
                · exact aDs_ext hD f hf
              have hfr : aFr (aWf (awn Wl)) h y.2.2.2 := by
                refine ⟨g3, fun hw => s2 ?_, s1⟩
                unfold alw at hlw
                dsimp only at hlw
                rw [hw, Bool.or_false] at hlw
                cases hb : (Nat.beq op 26 || Nat.beq op 34)
                · rfl
                · rw [hb] at hlw
                  cases hlw
              have hH2 : aHfs (E ++ q) y.2.2.2 (ahk G.2.2.2 (op, len, a, b, c, v, sw)) := by
                unfold ahk
                dsimp only
                cases hb : (Nat.beq op 26 || Nat.beq op 34)
                · exact aHfs_same (aHfs_ext hH) s1 (s2 hb) (fun k => g3 0 k aWf_0)
                · exact aHfs_drop (aHfs_ext hH) s1 (fun k => g3 0 k aWf_0)
              exact zTS_step he g1 (hk _ (List.mem_map.mpr ⟨Z, z1, rfl⟩) q y fs z2 hD2 hF2 hQ2 hH2 (aFs_ext hG) (aFr_n hfr) (aJ_fr hj hfr))
            · cases h0
theorem acoreR2_ok {X' : aX} {w : Option aV} {e : zI} (he : zi mi x.1 = some e) (R : aRel S rf (aiv B) E X x) (hG : aFs E fs gs) (h0 : acore2 S rf B es Wl d X G mi gs e = some (.inr (X', w))) (hk : X' = X → ∀ u, aRet E u w → P u x.2.2.2) : zTS d fs mi x P := by
  obtain ⟨cs, T, pc, al, as⟩ := X
  obtain ⟨pc', lo, st, h⟩ := x
  have epc : pc = pc' := R.2.1
  subst epc
  obtain ⟨op, len, a, b, c, v, sw⟩ := e
  unfold acore2 at h0
  dsimp only at h0
  · skip
    split at h0
    · rename_i w' hw
      obtain ⟨u, g1, g2⟩ := astepR_ok R hw
      match gs, fs, hG, h0 with
      | [], [], _, h0 =>
        cases h0
        exact zT_ret he g1 (hk rfl u g2)
      | [], _ :: _, hG, h0 => exact hG.elim
      | g :: gs', _, hG, h0 => cases h0
    · split at h0
      · rename_i m xs Z hc
        match d, h0 with
        | 0, h0 => cases h0
        | d' + 1, h0 =>
          dsimp only at h0
          cases ha : aany m es
          · rw [ha] at h0
            dsimp only [cond_false] at h0
            cases hl : Nat.beq (apad (zL m) (aargs xs)).length (zL m)
            · rw [hl] at h0; cases h0
            · rw [hl] at h0; cases h0
          · rw [ha] at h0
            dsimp only [cond_true] at h0
            split at h0
            · cases h0
            · cases h0
      · split at h0
        · cases h0
        · cases hlw : alw Wl (op, len, a, b, c, v, sw)
          · rw [hlw] at h0; cases h0
          · rw [hlw] at h0
            dsimp only [cond_true] at h0
            split at h0
            · cases h0
            · cases h0
theorem zif_m {b t n : Nat} : zif b (-1) t n = (match b with | 0 => n | 1 => t | 2 => t | 3 => n | 4 => n | _ => t ) := by
  match b with
  | 0 => exact if_neg (t := t) (e := n) (show ¬ (-1 : Int32) = 0 by decide)
  | 1 => exact if_neg (t := n) (e := t) (show ¬ (-1 : Int32) = 0 by decide)
  | 2 => exact if_pos (t := t) (e := n) (show (-1 : Int32) < 0 by decide)
  | 3 => exact if_pos (t := n) (e := t) (show (-1 : Int32) < 0 by decide)
  | 4 => exact if_neg (t := t) (e := n) (show ¬ 0 < (-1 : Int32) by decide)
  | _ + 5 => exact if_neg (t := n) (e := t) (show ¬ 0 < (-1 : Int32) by decide)
theorem zif_z {b t n : Nat} : zif b 0 t n = (match b with | 0 => t | 1 => n | 2 => n | 3 => t | 4 => n | _ => t ) := by
  match b with
  | 0 => exact if_pos (t := t) (e := n) (show (0 : Int32) = 0 by decide)
  | 1 => exact if_pos (t := n) (e := t) (show (0 : Int32) = 0 by decide)
  | 2 => exact if_neg (t := t) (e := n) (show ¬ (0 : Int32) < 0 by decide)
  | 3 => exact if_neg (t := n) (e := t) (show ¬ (0 : Int32) < 0 by decide)
  | 4 => exact if_neg (t := t) (e := n) (show ¬ 0 < (0 : Int32) by decide)
  | _ + 5 => exact if_neg (t := n) (e := t) (show ¬ 0 < (0 : Int32) by decide)
theorem zif_p {b t n : Nat} : zif b 1 t n = (match b with | 0 => n | 1 => t | 2 => n | 3 => t | 4 => t | _ => n ) := by
  match b with
  | 0 => exact if_neg (t := t) (e := n) (show ¬ (1 : Int32) = 0 by decide)
  | 1 => exact if_neg (t := n) (e := t) (show ¬ (1 : Int32) = 0 by decide)
  | 2 => exact if_neg (t := t) (e := n) (show ¬ (1 : Int32) < 0 by decide)
  | 3 => exact if_neg (t := n) (e := t) (show ¬ (1 : Int32) < 0 by decide)
  | 4 => exact if_pos (t := t) (e := n) (show 0 < (1 : Int32) by decide)
  | _ + 5 => exact if_pos (t := n) (e := t) (show 0 < (1 : Int32) by decide)
theorem acmpL_ok {cs : aCs} {b t n : Nat} {ax ay : aI} {x y : Int64} (hs : aSat E cs) (hx : aIs E x.toInt ax) (hy : aIs E y.toInt ay) : (∃ c, (acmp cs b ax ay).1 = some c ∧ aSat E c ∧ zif b (lg_cmp x y) t n = t) ∨ ∃ c, (acmp cs b ax ay).2 = some c ∧ aSat E c ∧ zif b (lg_cmp x y) t n = n := by
  have bx := abig_in x
  have by' := abig_in y
  rcases Int.lt_trichotomy x.toInt y.toInt with q | q | q
  · have n1 : ¬ x > y := fun w => by have := Int64.lt_iff_toInt_lt.mp w; omega
    have n2 : ¬ x = y := fun w => by rw [w] at q; omega
    have e3 : lg_cmp x y = -1 := by unfold lg_cmp; rw [if_neg n1, if_neg n2]
    rw [e3, zif_m]
    have l1 := alt_ok hs hx hy ⟨bx.1, by'.2⟩ q
    have l2 := ale_ok hs hx hy ⟨bx.1, by'.2⟩ (by omega)
    have l3 := ane_ok hs hx hy bx (by omega)
    match b with
    | 0 => obtain ⟨c, e1, e2⟩ := l3; exact Or.inr ⟨c, e1, e2, rfl⟩
    | 1 => obtain ⟨c, e1, e2⟩ := l3; exact Or.inl ⟨c, e1, e2, rfl⟩
    | 2 => obtain ⟨c, e1, e2⟩ := l1; exact Or.inl ⟨c, e1, e2, rfl⟩
    | 3 => obtain ⟨c, e1, e2⟩ := l1; exact Or.inr ⟨c, e1, e2, rfl⟩
    | 4 => obtain ⟨c, e1, e2⟩ := l2; exact Or.inr ⟨c, e1, e2, rfl⟩
    | _ + 5 => obtain ⟨c, e1, e2⟩ := l2; exact Or.inl ⟨c, e1, e2, rfl⟩
  · have n2 : x = y := Int64.toInt_inj.mp q
    have n1 : ¬ x > y := fun w => by have := Int64.lt_iff_toInt_lt.mp w; omega
    have e3 : lg_cmp x y = 0 := by unfold lg_cmp; rw [if_neg n1, if_pos n2]
    rw [e3, zif_z]
    have l1 := aeq_ok hs hx hy q
    have l2 := ale_ok hs hx hy ⟨bx.1, by'.2⟩ (by omega)
    have l3 := ale_ok hs hy hx ⟨by'.1, bx.2⟩ (by omega)
    match b with
    | 0 => obtain ⟨c, e1, e2⟩ := l1; exact Or.inl ⟨c, e1, e2, rfl⟩
    | 1 => obtain ⟨c, e1, e2⟩ := l1; exact Or.inr ⟨c, e1, e2, rfl⟩
    | 2 => obtain ⟨c, e1, e2⟩ := l3; exact Or.inr ⟨c, e1, e2, rfl⟩
    | 3 => obtain ⟨c, e1, e2⟩ := l3; exact Or.inl ⟨c, e1, e2, rfl⟩
    | 4 => obtain ⟨c, e1, e2⟩ := l2; exact Or.inr ⟨c, e1, e2, rfl⟩
    | _ + 5 => obtain ⟨c, e1, e2⟩ := l2; exact Or.inl ⟨c, e1, e2, rfl⟩
  · have e3 : lg_cmp x y = 1 := by unfold lg_cmp; rw [if_pos (Int64.lt_iff_toInt_lt.mpr q)]
    rw [e3, zif_p]
    have l1 := alt_ok hs hy hx ⟨by'.1, bx.2⟩ q
    have l2 := ale_ok hs hy hx ⟨by'.1, bx.2⟩ (by omega)
    have l3 := ane_ok hs hx hy bx (by omega)
    match b with
    | 0 => obtain ⟨c, e1, e2⟩ := l3; exact Or.inr ⟨c, e1, e2, rfl⟩
    | 1 => obtain ⟨c, e1, e2⟩ := l3; exact Or.inl ⟨c, e1, e2, rfl⟩
    | 2 => obtain ⟨c, e1, e2⟩ := l2; exact Or.inr ⟨c, e1, e2, rfl⟩
    | 3 => obtain ⟨c, e1, e2⟩ := l2; exact Or.inl ⟨c, e1, e2, rfl⟩
    | 4 => obtain ⟨c, e1, e2⟩ := l1; exact Or.inl ⟨c, e1, e2, rfl⟩
    | _ + 5 => obtain ⟨c, e1, e2⟩ := l1; exact Or.inr ⟨c, e1, e2, rfl⟩
/-- two steps of the machine at once -/
theorem alcx_ok {Ys : List aX} {e : zI} (he : zi mi x.1 = some e) (R : aRel S rf (aiv B) E X x) (h0 : alcx X mi e = some Ys) : ∃ y1 e2 y, zstep e x = some (.inl y1) ∧ zi mi y1.1 = some e2 ∧ zstep e2 y1 = some (.inl y) ∧ y.2.2.2 = x.2.2.2 ∧ ∃ Y, Y ∈ Ys ∧ aRel S rf (aiv B) E Y y := by
  obtain ⟨op, len, a, b, c, v, sw⟩ := e
  unfold alcx at h0
  dsimp only at h0
  cases hb : Nat.beq op 14
  · rw [hb] at h0; cases h0
  · rw [hb] at h0
    dsimp only [cond_true] at h0
    have e1 := Nat.eq_of_beq_eq_true hb
    subst e1
    split at h0
    · rename_i e2 he2
      have he2 := zif3_eq he2
      obtain ⟨op2, len2, a2, b2, c2, v2, sw2⟩ := e2
      unfold alcb at h0
      dsimp only at h0
      cases hb2 : Nat.beq op2 15
      · rw [hb2] at h0; cases h0
      · rw [hb2] at h0
        dsimp only [cond_true] at h0
        have e3 := Nat.eq_of_beq_eq_true hb2
        subst e3
        obtain ⟨cs, T, pc, al, as⟩ := X
        obtain ⟨pc', lo, st, h⟩ := x
        obtain ⟨hs, hpc, hl, hst, hh⟩ := R
        have hpc : pc = pc' := hpc
        subst hpc
        dsimp only at h0
        split at h0
        · rename_i ay ax r
          cases h0
          obtain ⟨u, sr, e4, ⟨yv, rfl, hy⟩, h3⟩ := aSt_cons hst
          obtain ⟨u, sr2, rfl, ⟨xv, rfl, hx⟩, h5⟩ := aSt_cons h3
          have e4 : st = .long yv :: .long xv :: sr2 := e4
          subst e4
          refine ⟨(pc + len, lo, .int (lg_cmp xv yv) :: sr2, h), _, (zif b2 (lg_cmp xv yv) a2 (pc + len + len2), lo, sr2, h), rfl, he2, rfl, rfl, ?_⟩
          rcases acmpL_ok (cs := cs) (b := b2) (t := a2) (n := pc + len + len2) hs hx hy with ⟨c1, g1, g2, g3⟩ | ⟨c1, g1, g2, g3⟩
          · exact ⟨_, List.mem_append_left _ (aopt_in g1), g2, g3.symm, hl, h5, hh⟩
          · exact ⟨_, List.mem_append_right _ (aopt_in g1), g2, g3.symm, hl, h5, hh⟩
        · cases h0
    · cases h0
theorem acore1_ok {Ys : List (Nat × aY)} {e : zI} (he : zi mi x.1 = some e) (hes : ∀ e, e ∈ es → aOK S rf B e) (R : aRel S rf (aiv B) E X x) (hD : aDs E G.1) (hF : aDfs E G.2.1) (hQ : aDqs E G.2.2.1) (hH : aHfs E x.2.2.2 G.2.2.2) (hG : aFs E fs gs) (hj : aJ x.2.2.2) (h0 : acore1 S rf B es Wl d X G mi gs e = some (.inl Ys)) (hk : ∀ p, p ∈ Ys → ∀ q x' fs', aRel S rf (aiv B) (E ++ q) p.2.1 x' → aDs (E ++ q) p.2.2.1.1 → aDfs (E ++ q) p.2.2.1.2.1 → aDqs (E ++ q) p.2.2.1.2.2.1 → aHfs (E ++ q) x'.2.2.2 p.2.2.1.2.2.2 → aFs (E ++ q) fs' p.2.2.2.2 → aFr (aWf Wl) x.2.2.2 x'.2.2.2 → aJ x'.2.2.2 → zTS p.1 fs' p.2.2.2.1 x' P) : zTS d fs mi x P := by
  unfold acore1 at h0
  cases hp : apl e
  · rw [hp] at h0
    dsimp only [cond_false] at h0
    split at h0
    · rename_i Ls hl
      cases h0
      obtain ⟨y1, e2, y, g1, g2, g3, g4, Y, hY, R2⟩ := alcx_ok he R hl
      obtain ⟨Z, z1, z2⟩ := aprs_ok hF hQ hY R2
      have nil : E ++ [] = E := List.append_nil E
      exact zTS_step he g1 (zTS_step g2 g3 (hk _ (List.mem_map.mpr ⟨Z, z1, rfl⟩) [] y fs (by rw [nil]; exact z2) (by rw [nil]; exact hD) (by rw [nil]; exact hF) (by rw [nil]; exact hQ) (by rw [nil, g4]; exact hH) (by rw [nil]; exact hG) (by rw [g4]; exact aFr_refl) (by rw [g4]; exact hj)))
    · exact acore2_ok he hes R hD hF hQ hH hG hj h0 hk
  · rw [hp] at h0
    dsimp only [cond_true] at h0
    unfold acoreP at h0
    split at h0
    · rename_i Ys' hg
      cases h0
      rw [astepF_eq] at hg
      obtain ⟨op, len, a, b, c, v, sw⟩ := e
      obtain ⟨cs, T, pc, al, as⟩ := X
      obtain ⟨pc', lo, st, h⟩ := x
      have epc : pc = pc' := R.2.1
      subst epc
      obtain ⟨y, g1, ⟨q, Y, hY, R2⟩, g3⟩ := astepG_ok aW_all R hg
      obtain ⟨s1, s2⟩ := zkeep hg g1
      have hop : (Nat.beq op 26 || Nat.beq op 34) = false := by
        cases h26 : Nat.beq op 26
        · cases h34 : Nat.beq op 34
          · rfl
          · have q := Nat.eq_of_beq_eq_true h34
            subst q
            have z : apl (34, len, a, b, c, v, sw) = false := rfl
            rw [z] at hp
            cases hp
        · have q := Nat.eq_of_beq_eq_true h26
          subst q
          have z : apl (26, len, a, b, c, v, sw) = false := rfl
          rw [z] at hp
          cases hp
      have hfr : aFr (aWf (awn Wl)) h y.2.2.2 := ⟨g3, fun _ => s2 hop, s1⟩
      exact zTS_step he g1 (hk _ (List.mem_map.mpr ⟨Y, hY, rfl⟩) q y fs R2 (aDs_ext hD) (aDfs_ext hF) (aDqs_ext hQ) (aHfs_same (aHfs_ext hH) s1 (s2 hop) (fun k => g3 0 k aWf_0)) (aFs_ext hG) (aFr_n hfr) (aJ_fr hj hfr))
    · cases h0
theorem acoreR1_ok {X' : aX} {w : Option aV} {e : zI} (he : zi mi x.1 = some e) (R : aRel S rf (aiv B) E X x) (hG : aFs E fs gs) (h0 : acore1 S rf B es Wl d X G mi gs e = some (.inr (X', w))) (hk : X' = X → ∀ u, aRet E u w → P u x.2.2.2) : zTS d fs mi x P := by
  unfold acore1 at h0
  cases hp : apl e
  · rw [hp] at h0
    dsimp only [cond_false] at h0
    split at h0
    · cases h0
    · exact acoreR2_ok he R hG h0 hk
  · rw [hp] at h0
    dsimp only [cond_true] at h0
    unfold acoreP at h0
    split at h0
    · cases h0
    · cases h0
theorem acore_ok {Ys : List (Nat × aY)} (hes : ∀ e, e ∈ es → aOK S rf B e) (R : aRel S rf (aiv B) E X x) (hD : aDs E G.1) (hF : aDfs E G.2.1) (hQ : aDqs E G.2.2.1) (hH : aHfs E x.2.2.2 G.2.2.2) (hG : aFs E fs gs) (hj : aJ x.2.2.2) (h0 : acore S rf B es Wl d X G mi gs = some (.inl Ys)) (hk : ∀ p, p ∈ Ys → ∀ q x' fs', aRel S rf (aiv B) (E ++ q) p.2.1 x' → aDs (E ++ q) p.2.2.1.1 → aDfs (E ++ q) p.2.2.1.2.1 → aDqs (E ++ q) p.2.2.1.2.2.1 → aHfs (E ++ q) x'.2.2.2 p.2.2.1.2.2.2 → aFs (E ++ q) fs' p.2.2.2.2 → aFr (aWf Wl) x.2.2.2 x'.2.2.2 → aJ x'.2.2.2 → zTS p.1 fs' p.2.2.2.1 x' P) : zTS d fs mi x P := by
  unfold acore at h0
  rw [R.2.1] at h0
  split at h0
  · cases h0
  · rename_i e he
    have he := zif3_eq he
    exact acore1_ok he hes (anr_ok R) hD hF hQ hH hG hj h0 hk
theorem acoreR_ok {X' : aX} {w : Option aV} (R : aRel S rf (aiv B) E X x) (hG : aFs E fs gs) (h0 : acore S rf B es Wl d X G mi gs = some (.inr (X', w))) (hk : (∃ e, X' = anr e X) → ∀ u, aRet E u w → P u x.2.2.2) : zTS d fs mi x P := by
  unfold acore at h0
  rw [R.2.1] at h0
  split at h0
  · cases h0
  · rename_i e he
    have he := zif3_eq he
    exact acoreR1_ok he (anr_ok R) hG h0 (fun e1 => hk ⟨e, e1⟩)
end AC4
