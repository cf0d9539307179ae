/-! RUNS by bounds, cuts and measures: a method keeps its contract. -/
noncomputable def arunY (S : Nat → Option (Nat × Nat)) (rf : Nat → Nat → List Nat) (B : aB) (es : List aE) (Wl : aW) (sp : Nat → Nat → Option (Nat × Int × Int × Nat)) (mi0 : Nat) (cutp : Nat → Bool) (leafC : Nat → aX → aG → Bool) (leafR : aX → Option aV → aG → Bool) : Nat → Nat → Bool → aY → Bool
  | 0, _, _, _ => false
  | f + 1, d, b, Y => bif !b && (Y.2.2.2.isEmpty && (Nat.beq Y.2.2.1 mi0 && cutp Y.1.2.2.1)) then leafC d Y.1 Y.2.1 else (match sp Y.2.2.1 Y.1.2.2.1 with
    | some i => aspl Y.1 i
    | none => [Y.1]).all (fun Z => match acore S rf B es Wl d Z Y.2.1 Y.2.2.1 Y.2.2.2 with
      | some (.inl Ys) => Ys.all (fun p => arunY S rf B es Wl sp mi0 cutp leafC leafR f p.1 false p.2)
      | some (.inr p) => leafR p.1 p.2 Y.2.1
      | none => false)
section AR5
variable {S : Nat → Option (Nat × Nat)} {rf : Nat → Nat → List Nat} {B : aB} {es : List aE} {Wl : aW} {sp : Nat → Nat → Option (Nat × Int × Int × Nat)} {mi0 : Nat} {cutp : Nat → Bool} {leafC : Nat → aX → aG → Bool} {leafR : aX → Option aV → aG → Bool} {Es : List Int} {h0 : zH} {P : Option Value → zH → Prop}
theorem arunY_ok (hes : ∀ e, e ∈ es → aOK S rf B e)
    (hC : ∀ d X G E x, leafC d X G = true → aRel S rf (aiv B) E X x → aDs E G.1 → aHfs E x.2.2.2 G.2.2.2 → (∃ q, E = Es ++ q) → aFr (aWf Wl) h0 x.2.2.2 → aJ x.2.2.2 → zTS d [] mi0 x P)
    (hR : ∀ X w G E (x : zC) u, leafR X w G = true → aRel S rf (aiv B) E X x → aDs E G.1 → aHfs E x.2.2.2 G.2.2.2 → aRet E u w → (∃ q, E = Es ++ q) → aFr (aWf Wl) h0 x.2.2.2 → aJ x.2.2.2 → P u x.2.2.2) :
    ∀ f d b (Y : aY) E x fs, arunY S rf B es Wl sp mi0 cutp leafC leafR f d b Y = true → aRel S rf (aiv B) E Y.1 x → aDs E Y.2.1.1 → aDfs E Y.2.1.2.1 → aDqs E Y.2.1.2.2.1 → aHfs E x.2.2.2 Y.2.1.2.2.2 → aFs E fs Y.2.2.2 → (∃ q, E = Es ++ q) → aFr (aWf Wl) h0 x.2.2.2 → aJ x.2.2.2 → zTS d fs Y.2.2.1 x P
  | 0, _, _, _, _, _, _, h, _, _, _, _, _, _, _, _, _ => by cases h
  | f + 1, d, b, (X, G, mi, gs), E, x, fs, h, R, hD, hF, hQ, hH, hG, hE, hw, hj => by
    unfold arunY at h
    dsimp only at h ⊢
    generalize hcnd : (!b && (gs.isEmpty && (Nat.beq mi mi0 && cutp X.2.2.1))) = cnd at h
    cases cnd with
    | true =>
      dsimp only [cond_true] at h
      rw [Bool.and_eq_true, Bool.and_eq_true, Bool.and_eq_true] at hcnd
      have e1 := Nat.eq_of_beq_eq_true hcnd.2.2.1
      subst e1
      match gs, fs, hG, hcnd with
      | [], [], _, _ => exact hC d X G E x h R hD hH hE hw hj
      | [], _ :: _, hG, _ => exact hG.elim
      | _ :: _, _, _, hcnd => cases hcnd.2.1
    | false =>
      dsimp only [cond_false] at h
      have hZ : ∃ Z, Z ∈ (match sp mi X.2.2.1 with
        | some i => aspl X i
        | none => [X]) ∧ aRel S rf (aiv B) E Z x := by
        cases sp mi X.2.2.1 with
        | none => exact ⟨X, List.mem_singleton.mpr rfl, R⟩
        | some i => exact aspl_ok R
      obtain ⟨Z, z1, z2⟩ := hZ
      have h1 := List.all_eq_true.mp h Z z1
      have R2 := z2
      split at h1
      · rename_i Ys hc
        refine acore_ok hes R2 hD hF hQ hH hG hj hc (fun p hp q x' fs' r1 r2 r3 r6 r8 r4 r5 r7 => ?_)
        have h2 := List.all_eq_true.mp h1 p hp
        obtain ⟨q0, hq0⟩ := hE
        exact arunY_ok hes hC hR f p.1 false p.2 (E ++ q) x' fs' h2 r1 r2 r3 r6 r8 r4 ⟨q0 ++ q, by rw [hq0, List.append_assoc]⟩ (aFr_trans hw r5) r7
      · rename_i p hc
        obtain ⟨X', w⟩ := p
        refine acoreR_ok R2 hG hc (fun e1 u hu => ?_)
        obtain ⟨e, e1⟩ := e1
        rw [e1] at h1
        exact hR _ w G E x u h1 (anr_ok R2) hD hH hu hE hw hj
      · cases h1
end AR5
/-- the first entries as they are -/
def aidf : Nat → Nat → List aI
  | _, 0 => []
  | s, n + 1 => .inl (s, 0) :: aidf (s + 1) n
theorem aidf_ok : ∀ {E0 pre q : List Int}, (aidf pre.length E0.length).map (aval (pre ++ (E0 ++ q))) = E0
  | [], _, _ => rfl
  | w :: E0, pre, q => by
    show aval (pre ++ (w :: E0 ++ q)) (.inl (pre.length, 0)) :: (aidf (pre.length + 1) E0.length).map (aval (pre ++ (w :: E0 ++ q))) = w :: E0
    have e1 : pre ++ (w :: E0 ++ q) = (pre ++ [w]) ++ (E0 ++ q) := by simp
    have e2 : aval (pre ++ (w :: E0 ++ q)) (.inl (pre.length, 0)) = w := by
      rw [e1]
      exact aval_eq ⟨w, zget_app (zget_end pre w), by omega⟩
    rw [e2, e1, show pre.length + 1 = (pre ++ [w]).length by simp, aidf_ok]
theorem aid0 {E0 q : List Int} : (aidf 0 E0.length).map (aval (E0 ++ q)) = E0 := aidf_ok (pre := [])
/-- stretches that an annotation lists, by the numbers given for its entries: empty, known, or known and one element more -/
def adr1 (cs : aCs) (hf : aHf) (lo : Int) (v : aI) : Bool := ile (abd cs v).2 0 || (hf.2.1.any (fun p => ieq p.1 lo && (aeqI p.2 v || ile (abd cs v).2 (abd cs p.2).1)) || (hf.2.1.any (fun p => ieq p.1 lo && aeqI p.2 (aoff (-1) v)) && (match aldf (aoff (lo - 1) v) hf.1 with
  | some k => ile 0 (abd cs (.inl (k, 0))).1 && (ile (abd cs (.inl (k, 0))).2 11 && Nat.blt k cs.length)
  | none => false)))
theorem adr1_ok {E : List Int} {cs : aCs} {hf : aHf} {lo : Int} {v : aI} {h : zH} {z : Int} (hs : aSat E cs) (hh : aHfs E h hf) (hv : aIs E z v) (h0 : adr1 cs hf lo v = true) : ∀ k : Nat, lo ≤ (k : Int) → (k : Int) < lo + z → 0 ≤ (h.2.2.1 126 k).toInt ∧ (h.2.2.1 126 k).toInt ≤ 11 := by
  intro k k1 k2
  unfold adr1 at h0
  rw [Bool.or_eq_true, Bool.or_eq_true] at h0
  rcases h0 with h0 | h0 | h0
  · rw [ile_eq] at h0
    have b := abd_ok hs hv
    omega
  · obtain ⟨p, p1, p2⟩ := List.any_eq_true.mp h0
    rw [Bool.and_eq_true, ieq_eq, Bool.or_eq_true] at p2
    obtain ⟨w, g1, g2⟩ := hh.2.1 p p1
    rcases p2.2 with e | e
    · have e := aeqI_ok e
      rw [e] at g1
      have ez : w = z := (aval_eq g1).symm.trans (aval_eq hv)
      exact g2 k (by omega) (by omega)
    · rw [ile_eq] at e
      have b1 := abd_ok hs hv
      have b2 := abd_ok hs g1
      exact g2 k (by omega) (by omega)
  · rw [Bool.and_eq_true] at h0
    obtain ⟨p, p1, p2⟩ := List.any_eq_true.mp h0.1
    rw [Bool.and_eq_true, ieq_eq] at p2
    obtain ⟨w, g1, g2⟩ := hh.2.1 p p1
    have e := aeqI_ok p2.2
    rw [e] at g1
    have g3 : aIs E (z + -1) (aoff (-1) v) := aoff_ok hv
    have ez : w = z + -1 := (aval_eq g1).symm.trans (aval_eq g3)
    by_cases hlast : (k : Int) < lo + w
    · exact g2 k (by omega) (by omega)
    · have h1 := h0.2
      split at h1
      · rename_i j hj
        rw [Bool.and_eq_true, Bool.and_eq_true, ile_eq, ile_eq] at h1
        obtain ⟨k', w', q1, q2, q3⟩ := hh.1 _ (aldf_ok hj)
        dsimp only at q1 q2 q3
        have q4 : aIs E (z + (lo - 1)) (aoff (lo - 1) v) := aoff_ok hv
        have ek : (k' : Int) = z + (lo - 1) := (aval_eq q1).symm.trans (aval_eq q4)
        have ekk : k' = k := by omega
        subst ekk
        have b := abd_ok hs (show aIs E w' (.inl (j, 0)) from ⟨w', q2, by omega⟩)
        omega
      · cases h1
def adrM (sg : List aI) (cs : aCs) (hf : aHf) : aDr → Bool
  | [] => true
  | (lo, a) :: r => (match a with
    | .inl (k, o) => (match zget sg k with
      | some s => aok cs s && adr1 cs hf lo (aoff o s)
      | none => false)
    | .inr n => ile n 0) && adrM sg cs hf r
theorem adrM_ok {E : List Int} {sg : List aI} {cs : aCs} {hf : aHf} {h : zH} (hs : aSat E cs) (hh : aHfs E h hf) : ∀ {dA : aDr}, adrM sg cs hf dA = true → aDrs (sg.map (aval E)) h.2.2.1 dA
  | [], _ => fun f hf => (by cases hf)
  | (lo, a) :: r, h0 => by
    unfold adrM at h0
    rw [Bool.and_eq_true] at h0
    intro f hf
    rcases List.mem_cons.mp hf with rfl | hf
    · have h1 := h0.1
      match a, h1 with
      | .inr n, h1 =>
        have h1 : ile n 0 = true := h1
        rw [ile_eq] at h1
        exact ⟨n, rfl, fun k k1 k2 => (by dsimp only at k1 k2; omega)⟩
      | .inl (k, o), h1 =>
        dsimp only at h1
        split at h1
        · rename_i s hsg
          rw [Bool.and_eq_true] at h1
          have i1 := aok_ok hs h1.1
          have i2 : aIs E (aval E s + o) (aoff o s) := aoff_ok i1
          exact ⟨aval E s + o, ⟨aval E s, by rw [zget_map, hsg]; rfl, rfl⟩, adr1_ok hs hh i2 h1.2⟩
        · cases h1
    · exact adrM_ok hs hh h0.2 f hf
/-- a cut: annotation, differences and stretches, measure -/
abbrev aC : Type := aX × (aD × aDr) × (Int × aLn)
def asgp (n0 : Nat) (A X : aX) : List aI :=
  let l := asL A.2.2.2.1 X.2.2.2.1 (asS A.2.2.2.2 X.2.2.2.2 (asT X.2.1 A.2.1 []))
  aidf 0 n0 ++ (List.range' n0 (A.1.length - n0)).map (asF l)
def alc1 (c : aC) (ms : Option (Int × aLn)) (X : aX) (G : aG) (sg : List aI) : Bool := ((ameet sg c.1 X && adsM sg X.1 G.1 c.2.1.1) && adrM sg X.1 G.2.2.2 c.2.1.2) && (match ms with
  | none => true
  | some m => ale0 X.1 G.1 (alng m.2 (alsg sg c.2.2.2 (c.2.2.1 + 1 - m.1, []))))
def alfC (cuts : List aC) (n0 d0 : Nat) (ms : Option (Int × aLn)) (d : Nat) (X : aX) (G : aG) : Bool := Nat.beq d d0 && cuts.any (fun c => Nat.beq c.1.2.2.1 X.2.2.1 && alc1 c ms X G (asgp n0 c.1 X))
def amW (sg : List aI) (cs : aCs) : Option aV → Option aV → Bool
  | some a, some b => amV sg cs a b
  | none, none => true
  | _, _ => false
def alr1 (e : aE) (n0 : Nat) (X : aX) (w : Option aV) (G : aG) (sr : List aI) : Bool := (amB X.1 e.2.2.2.2.1.1 sr && amW (aidf 0 n0 ++ sr) X.1 e.2.2.2.2.1.2.2.1 w) && (amT (aidf 0 n0 ++ sr) X.1 X.2.1 e.2.2.2.2.1.2.1 && (adsM (aidf 0 n0 ++ sr) X.1 G.1 e.2.2.2.2.1.2.2.2.1 && adrM (aidf 0 n0 ++ sr) X.1 G.2.2.2 e.2.2.2.2.1.2.2.2.2))
def asgr (e : aE) (n0 : Nat) (X : aX) (w : Option aV) : List aI :=
  let l := asT X.2.1 e.2.2.2.2.1.2.1 (match e.2.2.2.2.1.2.2.1, w with
    | some a, some b => asV a b []
    | _, _ => [])
  (List.range' n0 e.2.2.2.2.1.1.length).map (asF l)
def alfR (e : aE) (n0 : Nat) (X : aX) (w : Option aV) (G : aG) : Bool := alr1 e n0 X w G (asgr e n0 X w)
def acutp (cuts : List aC) (pc : Nat) : Bool := cuts.any (fun c => Nat.beq c.1.2.2.1 pc)
/-- the run from a cut (or, without one, from the method's start) -/
noncomputable def aseg (S : Nat → Option (Nat × Nat)) (rf : Nat → Nat → List Nat) (B : aB) (es : List aE) (sp : Nat → Nat → Option (Nat × Int × Int × Nat)) (e : aE) (cuts : List aC) (f : Nat) (c : Option aC) : Bool := match c with
  | none => arunY S rf B es e.2.2.2.2.2 sp e.1 (acutp cuts) (alfC cuts e.2.2.1.1.length e.2.1 none) (alfR e e.2.2.1.1.length) f e.2.1 true (e.2.2.1, (e.2.2.2.1.1, [], [], ([], [], (e.2.2.2.1.2, []))), e.1, [])
  | some c => arunY S rf B es e.2.2.2.2.2 sp e.1 (acutp cuts) (alfC cuts e.2.2.1.1.length e.2.1 (some c.2.2)) (alfR e e.2.2.1.1.length) f e.2.1 true (c.1, (c.2.1.1, [], [], ([], c.2.1.2, (e.2.2.2.1.2, []))), e.1, []) && (ale0 c.1.1 c.2.1.1 (alng c.2.2.2 (-c.2.2.1, [])) && c.2.2.2.all (fun p => Nat.blt p.2 c.1.1.length))
section AO
variable {S : Nat → Option (Nat × Nat)} {rf : Nat → Nat → List Nat} {B : aB} {es : List aE} {sp : Nat → Nat → Option (Nat × Int × Int × Nat)} {e : aE} {cuts : List aC} {f : Nat}
theorem alr_ok {X : aX} {w : Option aV} {G : aG} {sr : List aI} {E E0 q : List Int} {x : zC} {u : Option Value} {h0 : zH} (h : alr1 e E0.length X w G sr = true) (R : aRel S rf (aiv B) E X x) (hD : aDs E G.1) (hH : aHfs E x.2.2.2 G.2.2.2) (hu : aRet E u w) (hE : E = E0 ++ q) (hw : aFr (aWf e.2.2.2.2.2) h0 x.2.2.2) (hj : aJ x.2.2.2) : aPost S rf B e E0 h0 u x.2.2.2 := by
  unfold alr1 at h
  rw [Bool.and_eq_true, Bool.and_eq_true, Bool.and_eq_true, Bool.and_eq_true] at h
  obtain ⟨⟨c1, c2⟩, c3, c4, c5⟩ := h
  have em : (aidf 0 E0.length ++ sr).map (aval E) = E0 ++ sr.map (aval E) := by rw [List.map_append, hE, aid0]
  refine ⟨sr.map (aval E), amB_ok R.1 c1, ?_, ⟨R.2.2.2.2.1, fun o k a ha => ?_⟩, ?_, ?_, hw, hj⟩
  · rw [← em]
    match e.2.2.2.2.1.2.2.1, w, u, c2, hu with
    | some a, some b, some v, c2, hu =>
      exact amV_ok R.1 hu c2
    | none, none, none, _, _ => trivial
    | some a, none, _, c2, _ =>
      cases c2
    | none, some b, _, c2, _ =>
      cases c2
  · rw [← em]
    obtain ⟨b, b1, b2⟩ := amT_ok c3 ha
    exact amI_ok R.1 (R.2.2.2.2.2 o k b b1) b2
  · rw [← em]
    exact adsM_ok R.1 hD c4
  · rw [← em]
    exact adrM_ok R.1 hH c5
theorem acuts_ok (hes : ∀ e', e' ∈ es → aOK S rf B e') (hc : ∀ c, c ∈ cuts → aseg S rf B es sp e cuts f (some c) = true) {E0 : List Int} {h0 : zH} (hn : E0.length = e.2.2.1.1.length) (hsl : ∀ k, e.2.2.2.1.2 = some k → ∃ n : Nat, zget h0.1 0 = some (5, n) ∧ zget E0 k = some (n : Int) ∧ n ≤ 3072) : ∀ (n : Nat) (c : aC), c ∈ cuts → ∀ (E : List Int) (x : zC), (∃ q, E = E0 ++ q) → aRel S rf (aiv B) E c.1 x → aDs E c.2.1.1 → aDrs E x.2.2.2.2.2.1 c.2.1.2 → aFr (aWf e.2.2.2.2.2) h0 x.2.2.2 → aJ x.2.2.2 → (c.2.2.1 + alv E c.2.2.2).toNat < n → zTS e.2.1 [] e.1 x (aPost S rf B e E0 h0)
  | 0, _, _, _, _, _, _, _, _, _, _, h => by omega
  | n + 1, c, hcm, E, x, hE, R, hD, hr, hw, hj, hm => by
    have h := hc c hcm
    unfold aseg at h
    dsimp only at h
    rw [Bool.and_eq_true, Bool.and_eq_true] at h
    obtain ⟨h1, h2, h3⟩ := h
    rw [← hn] at h1
    refine arunY_ok (Es := E) (h0 := h0) hes (fun d X G E' x' l1 r1 r2 r8 r3 r4 r7 => ?_) (fun X w G E' x' u l1 r1 r2 r8 r3 r4 r5 r7 => ?_) f e.2.1 true _ E x [] h1 R hD (fun f hf => by cases hf) (fun f hf => by cases hf) ⟨fun f hf => (by cases hf), hr, fun k hk => by
        obtain ⟨n, s1, s2, s3⟩ := hsl k hk
        obtain ⟨q, hq⟩ := hE
        exact ⟨n, by rw [hw.2.2]; exact s1, by rw [hq]; exact zget_app s2, s3⟩, fun p hp => (by cases hp)⟩ trivial ⟨[], by rw [List.append_nil]⟩ hw hj
    · unfold alfC at l1
      rw [Bool.and_eq_true] at l1
      have ed := Nat.eq_of_beq_eq_true l1.1
      subst ed
      obtain ⟨c', m1, m2⟩ := List.any_eq_true.mp l1.2
      rw [Bool.and_eq_true] at m2
      have m2 := m2.2
      unfold alc1 at m2
      rw [Bool.and_eq_true, Bool.and_eq_true, Bool.and_eq_true] at m2
      obtain ⟨⟨⟨m3, m4⟩, m6⟩, m5⟩ := m2
      dsimp only at m5
      obtain ⟨q', hq'⟩ := r3
      obtain ⟨q, hq⟩ := hE
      have em : ∃ q2, (asgp E0.length c'.1 X).map (aval E') = E0 ++ q2 := by
        unfold asgp
        dsimp only
        rw [List.map_append, hq', hq, List.append_assoc, aid0]
        exact ⟨_, rfl⟩
      have k := ale0_ok r1.1 r2 m5
      rw [alng_ok, alsg_ok] at k
      have z : alv E' ([] : aLn) = 0 := rfl
      rw [z] at k
      have hx : alv E' c.2.2.2 = alv E c.2.2.2 := by
        rw [hq']
        exact alv_ext (by rw [R.1.1]; exact h3)
      rw [hx] at k
      have h' := hc c' m1
      unfold aseg at h'
      dsimp only at h'
      rw [Bool.and_eq_true, Bool.and_eq_true] at h'
      have R' := ameet_ok r1 m3
      have D' := adsM_ok r1.1 r2 m4
      have k2 := ale0_ok R'.1 D' h'.2.1
      rw [alng_ok] at k2
      have z2 : alv ((asgp E0.length c'.1 X).map (aval E')) ([] : aLn) = 0 := rfl
      rw [z2] at k2
      exact acuts_ok hes hc hn hsl n c' m1 _ x' em R' D' (adrM_ok r1.1 r8 m6) r4 r7 (by dsimp only at k k2; omega)
    · obtain ⟨q', hq'⟩ := r4
      obtain ⟨q, hq⟩ := hE
      exact alr_ok (q := q ++ q') l1 r1 r2 r8 r3 (by rw [hq', hq, List.append_assoc]) r5 r7
theorem aOK_of (hes : ∀ e', e' ∈ es → aOK S rf B e') (hc : ∀ c, c ∈ cuts → aseg S rf B es sp e cuts f (some c) = true) (h : aseg S rf B es sp e cuts f none = true) : aOK S rf B e := by
  intro E x R hD hsl hj
  unfold aseg at h
  dsimp only at h
  have hn : E.length = e.2.2.1.1.length := R.1.1
  rw [← hn] at h
  refine arunY_ok (Es := E) (h0 := x.2.2.2) hes (fun d X G E' x' l1 r1 r2 r8 r3 r4 r7 => ?_) (fun X w G E' x' u l1 r1 r2 r8 r3 r4 r5 r7 => ?_) f e.2.1 true _ E x [] h R hD (fun f hf => by cases hf) (fun f hf => by cases hf) ⟨fun f hf => (by cases hf), fun f hf => (by cases hf), hsl, fun p hp => (by cases hp)⟩ trivial ⟨[], by rw [List.append_nil]⟩ aFr_refl hj
  · unfold alfC at l1
    rw [Bool.and_eq_true] at l1
    have ed := Nat.eq_of_beq_eq_true l1.1
    subst ed
    obtain ⟨c', m1, m2⟩ := List.any_eq_true.mp l1.2
    rw [Bool.and_eq_true] at m2
    have m2 := m2.2
    unfold alc1 at m2
    rw [Bool.and_eq_true, Bool.and_eq_true, Bool.and_eq_true] at m2
    obtain ⟨⟨⟨m3, m4⟩, m6⟩, m5⟩ := m2
    obtain ⟨q', hq'⟩ := r3
    have em : ∃ q2, (asgp E.length c'.1 X).map (aval E') = E ++ q2 := by
      unfold asgp
      dsimp only
      rw [List.map_append, hq', aid0]
      exact ⟨_, rfl⟩
    exact acuts_ok hes hc hn hsl _ c' m1 _ x' em (ameet_ok r1 m3) (adsM_ok r1.1 r2 m4) (adrM_ok r1.1 r8 m6) r4 r7 (Nat.lt_succ_self _)
  · obtain ⟨q', hq'⟩ := r4
    exact alr_ok (q := q') l1 r1 r2 r8 r3 hq' r5 r7
end AO
