/-! CONTRACTS: what a method is called with, what it gives back, what it may write. -/
abbrev aW : Type := List (Nat × Nat) × List Nat
def awp : List (Nat × Nat) → Nat → Nat → Bool
  | [], _, _ => false
  | (o, k) :: r, o', k' => (Nat.beq o o' && Nat.beq k k') || awp r o' k'
def awe : List Nat → Nat → Bool
  | [], _ => false
  | o :: r, o' => Nat.beq o o' || awe r o'
def aWA (W : aW) (o : Nat) : Bool := !Nat.beq o 0 && awe W.2 o
/-- what may be written; the script never -/
def aWf (W : aW) (o k : Nat) : Bool := !Nat.beq o 0 && (awe W.2 o || awp W.1 o k)
theorem aWf_0 {W : aW} {k : Nat} : aWf W 0 k = false := rfl
theorem aW_all {W : aW} : ∀ o k, aWA W o = true → aWf W o k = true := by
  intro o k h
  unfold aWA at h
  rw [Bool.and_eq_true] at h
  unfold aWf
  rw [h.1, h.2]
  rfl
theorem awe_mem : ∀ {l : List Nat} {o : Nat}, awe l o = true → o ∈ l
  | [], _, h => by cases h
  | o1 :: r, o, h => by
    unfold awe at h
    rw [Bool.or_eq_true] at h
    rcases h with h | h
    · rw [Nat.eq_of_beq_eq_true h]
      exact List.mem_cons_self
    · exact List.mem_cons_of_mem _ (awe_mem h)
theorem awp_mem : ∀ {l : List (Nat × Nat)} {o k : Nat}, awp l o k = true → (o, k) ∈ l
  | [], _, _, h => by cases h
  | (o1, k1) :: r, o, k, h => by
    unfold awp at h
    rw [Bool.or_eq_true, Bool.and_eq_true] at h
    rcases h with h | h
    · rw [Nat.eq_of_beq_eq_true h.1, Nat.eq_of_beq_eq_true h.2]
      exact List.mem_cons_self
    · exact List.mem_cons_of_mem _ (awp_mem h)
theorem awe_in : ∀ {l : List Nat} {o : Nat}, o ∈ l → awe l o = true
  | [], _, h => by cases h
  | o1 :: r, o, h => by
    unfold awe
    rcases List.mem_cons.mp h with rfl | h
    · rw [Nat.beq_refl]
      rfl
    · rw [awe_in h, Bool.or_true]
theorem awp_in : ∀ {l : List (Nat × Nat)} {o k : Nat}, (o, k) ∈ l → awp l o k = true
  | [], _, _, h => by cases h
  | (o1, k1) :: r, o, k, h => by
    unfold awp
    rcases List.mem_cons.mp h with h | h
    · cases h
      rw [Nat.beq_refl, Nat.beq_refl]
      rfl
    · rw [awp_in h, Bool.or_true]
def awsub (V W : aW) : Bool := V.2.all (aWA W) && V.1.all (fun p => aWf W p.1 p.2)
theorem awsub_ok {V W : aW} {o k : Nat} (h : awsub V W = true) (hv : aWf V o k = true) : aWf W o k = true := by
  unfold awsub at h
  rw [Bool.and_eq_true] at h
  unfold aWf at hv
  rw [Bool.and_eq_true, Bool.or_eq_true] at hv
  rcases hv.2 with hv | hv
  · exact aW_all o k (List.all_eq_true.mp h.1 o (awe_mem hv))
  · exact List.all_eq_true.mp h.2 (o, k) (awp_mem hv)
theorem aFr_sub {V W : aW} {h h' : zH} (hs : awsub V W = true) (hf : aFr (aWf V) h h') : aFr (aWf W) h h' := by
  have key : ∀ o k, aWf W o k = false → aWf V o k = false := by
    intro o k hw
    cases hv : aWf V o k
    · rfl
    · rw [awsub_ok hs hv] at hw
      cases hw
  exact ⟨fun o k hw => hf.1 o k (key o k hw), fun hw => hf.2.1 (key _ _ hw), hf.2.2⟩
theorem aFr_trans {W : Nat → Nat → Bool} {h h1 h2 : zH} (a : aFr W h h1) (b : aFr W h1 h2) : aFr W h h2 := ⟨fun o k hw => (b.1 o k hw).trans (a.1 o k hw), fun hw => (b.2.1 hw).trans (a.2.1 hw), b.2.2.trans a.2.2⟩
theorem aFr_refl {W : Nat → Nat → Bool} {h : zH} : aFr W h h := ⟨fun _ _ _ => rfl, fun _ => rfl, rfl⟩
/-- what holds of the cells besides bounds: it hangs on some places alone, which only methods with a proof of their own write -/
def aJJ : aW := ([(102, 4), (102, 5)], [104, 105, 106])
def aJ (h : zH) : Prop := (h.2.1 102 5).toInt ≤ (h.2.1 102 4).toInt ∧ ∀ k, k < 40 → 60 ≤ (h.2.1 104 k).toInt → (h.2.1 104 k).toInt ≤ 67 → (h.2.1 105 k).toInt ≤ 5 ∧ (h.2.1 106 k).toInt ≤ 5
theorem aJ_same {h h' : zH} (hj : aJ h) (e : ∀ o k, aWf aJJ o k = true → h'.2.1 o k = h.2.1 o k) : aJ h' := by
  unfold aJ at hj ⊢
  rw [e 102 5 rfl, e 102 4 rfl]
  refine ⟨hj.1, fun k hk => ?_⟩
  rw [e 104 k rfl, e 105 k rfl, e 106 k rfl]
  exact hj.2 k hk
/-- the plain writes of a method -/
def awn (W : aW) : aW := (W.1.filter (fun p => !aWf aJJ p.1 p.2), W.2.filter (fun o => !(awe [102, 104, 105, 106] o)))
theorem awn_sub {W : aW} {o k : Nat} (h : aWf (awn W) o k = true) : aWf W o k = true := by
  unfold aWf awn at h
  dsimp only at h
  rw [Bool.and_eq_true, Bool.or_eq_true] at h
  unfold aWf
  rw [h.1]
  rcases h.2 with h | h
  · rw [awe_in (List.mem_filter.mp (awe_mem h)).1]
    rfl
  · rw [awp_in (List.mem_filter.mp (awp_mem h)).1, Bool.or_true]
    rfl
theorem awn_J {W : aW} {o k : Nat} (h : aWf aJJ o k = true) : aWf (awn W) o k = false := by
  cases hb : aWf (awn W) o k
  · rfl
  · exfalso
    have hJ := h
    unfold aWf awn at hb
    dsimp only at hb
    rw [Bool.and_eq_true, Bool.or_eq_true] at hb
    rcases hb.2 with hb | hb
    · have q := (List.mem_filter.mp (awe_mem hb)).2
      have hc : awe [102, 104, 105, 106] o = true := by
        unfold aWf aJJ at h
        dsimp only at h
        rw [Bool.and_eq_true, Bool.or_eq_true] at h
        rcases h.2 with h | h
        · exact awe_in (List.mem_cons_of_mem _ (awe_mem h))
        · rcases List.mem_cons.mp (awp_mem h) with e | e
          · cases e; rfl
          · cases List.mem_singleton.mp e; rfl
      rw [hc] at q
      cases q
    · have q := (List.mem_filter.mp (awp_mem hb)).2
      dsimp only at q
      rw [hJ] at q
      cases q
theorem aJ_fr {W : aW} {h h' : zH} (hj : aJ h) (hf : aFr (aWf (awn W)) h h') : aJ h' := aJ_same hj (fun o k hk => hf.1 o k (awn_J hk))
theorem aFr_n {W : aW} {h h' : zH} (hf : aFr (aWf (awn W)) h h') : aFr (aWf W) h h' := by
  have key : ∀ o k, aWf W o k = false → aWf (awn W) o k = false := by
    intro o k hw
    cases hv : aWf (awn W) o k
    · rfl
    · rw [awn_sub hv] at hw
      cases hw
  exact ⟨fun o k hw => hf.1 o k (key o k hw), fun hw => hf.2.1 (key _ _ hw), hf.2.2⟩
/-- method, depth, annotation and differences at its start, what holds behind it (bounds of new entries, contents, result, differences), what is written -/
abbrev aE : Type := Nat × Nat × aX × (aD × Option Nat) × (aCs × aT × Option aV × (aD × aDr)) × aW
def aPost (S : Nat → Option (Nat × Nat)) (rf : Nat → Nat → List Nat) (B : aB) (e : aE) (E0 : List Int) (h0 : zH) (r : Option Value) (h1 : zH) : Prop := ∃ q, aSat q e.2.2.2.2.1.1 ∧ aRet (E0 ++ q) r e.2.2.2.2.1.2.2.1 ∧ aHp S rf (aiv B) (E0 ++ q) e.2.2.2.2.1.2.1 h1 ∧ aDs (E0 ++ q) e.2.2.2.2.1.2.2.2.1 ∧ aDrs (E0 ++ q) h1.2.2.1 e.2.2.2.2.1.2.2.2.2 ∧ aFr (aWf e.2.2.2.2.2) h0 h1 ∧ aJ h1
def aOK (S : Nat → Option (Nat × Nat)) (rf : Nat → Nat → List Nat) (B : aB) (e : aE) : Prop := ∀ E x, aRel S rf (aiv B) E e.2.2.1 x → aDs E e.2.2.2.1.1 → aSl0 E x.2.2.2.1 e.2.2.2.1.2 → aJ x.2.2.2 → zT e.2.1 e.1 x (aPost S rf B e E x.2.2.2)
/-- a number behind a call, in the caller's entries -/
def atr (sg : List aI) (n : Nat) (a : aI) : aI := match a with
  | .inl (k, o) => (match zget sg k with
    | some s => aoff o s
    | none => .inl (n + (k - sg.length), o))
  | .inr c => .inr c
theorem aoff_ok {E : List Int} {w o : Int} {s : aI} (h : aIs E w s) : aIs E (w + o) (aoff o s) := by
  match s, h with
  | .inl (k, o1), h =>
    obtain ⟨u, h1, h2⟩ := h
    exact ⟨u, h1, by omega⟩
  | .inr n, h =>
    have h : w = n := h
    show w + o = n + o
    omega
theorem zget_right {α : Type} : ∀ {l q : List α} {k : Nat}, zget l k = none → zget (l ++ q) k = zget q (k - l.length)
  | [], _, k, _ => rfl
  | a :: l, q, 0, h => by cases h
  | a :: l, q, k + 1, h => by
    show zget (l ++ q) k = zget q (k + 1 - (l.length + 1))
    rw [zget_right (l := l) h, Nat.add_sub_add_right]
theorem zget_plus {α : Type} : ∀ {l q : List α} {k : Nat}, zget (l ++ q) (l.length + k) = zget q k
  | [], q, k => by
    rw [show ([] : List α).length + k = k from Nat.zero_add k]
    rfl
  | a :: l, q, k => by
    rw [show (a :: l).length + k = (l.length + k) + 1 by simp; omega]
    exact zget_plus (l := l)
theorem atr_ok {E q : List Int} {cs : aCs} {sg : List aI} {z : Int} {a : aI} (hs : aSat E cs) (hk : sg.all (aok cs) = true) (h : aIs (sg.map (aval E) ++ q) z a) : aIs (E ++ q) z (atr sg cs.length a) := by
  match a, h with
  | .inr c, h => exact h
  | .inl (k, o), h =>
    obtain ⟨w, h1, h2⟩ := h
    unfold atr
    dsimp only
    cases hg : zget sg k with
    | some s =>
      dsimp only
      have e : zget (sg.map (aval E)) k = some (aval E s) := by rw [zget_map, hg]; rfl
      rw [zget_app e] at h1
      cases h1
      rw [h2]
      refine aIs_ext (aoff_ok (aok_ok hs (List.all_eq_true.mp hk s ?_)))
      exact zget_mem hg
    | none =>
      dsimp only
      have e : zget (sg.map (aval E)) k = none := by rw [zget_map, hg]; rfl
      rw [zget_right e, List.length_map] at h1
      exact ⟨w, by rw [← hs.1, zget_plus]; exact h1, h2⟩
def atrV (sg : List aI) (n : Nat) : aV → aV
  | .inl (.inl a) => .inl (.inl (atr sg n a))
  | .inl (.inr a) => .inl (.inr (atr sg n a))
  | .inr l => .inr l
theorem atrV_ok {E q : List Int} {cs : aCs} {sg : List aI} {v : Value} {a : aV} (hs : aSat E cs) (hk : sg.all (aok cs) = true) (h : aVs (sg.map (aval E) ++ q) v a) : aVs (E ++ q) v (atrV sg cs.length a) := by
  match a, h with
  | .inl (.inl a), ⟨x, e, h⟩ => exact ⟨x, e, atr_ok hs hk h⟩
  | .inl (.inr a), ⟨x, e, h⟩ => exact ⟨x, e, atr_ok hs hk h⟩
  | .inr l, h => exact h
def atrT (sg : List aI) (n : Nat) : aT → aT → aT
  | [], T => T
  | (o, k, a) :: r, T => (o, k, atr sg n a) :: atrT sg n r T
theorem atrT_ok {sg : List aI} {n : Nat} {T : aT} : ∀ {A : aT} {o k : Nat} {b : aI}, afind (atrT sg n A T) o k = some b → (∃ a, afind A o k = some a ∧ b = atr sg n a) ∨ afind T o k = some b
  | [], o, k, b, h => Or.inr h
  | (o1, k1, a1) :: r, o, k, b, h => by
    have h : (bif Nat.beq o1 o && Nat.beq k1 k then some (atr sg n a1) else afind (atrT sg n r T) o k) = some b := h
    rw [show afind ((o1, k1, a1) :: r) o k = (bif Nat.beq o1 o && Nat.beq k1 k then some a1 else afind r o k) from rfl]
    cases hb : (Nat.beq o1 o && Nat.beq k1 k)
    · rw [hb] at h
      exact atrT_ok h
    · rw [hb] at h
      cases h
      exact Or.inl ⟨a1, rfl, rfl⟩
/-- what is listed of places that are not written -/
def atf (W : aW) : aT → aT
  | [] => []
  | (o, k, v) :: r => bif aWf W o k then atf W r else (o, k, v) :: atf W r
theorem atf_ok {W : aW} : ∀ {T : aT} {o k : Nat} {a : aI}, afind (atf W T) o k = some a → afind T o k = some a ∧ aWf W o k = false
  | [], _, _, _, h => by cases h
  | (o1, k1, v1) :: r, o, k, a, h => by
    unfold atf at h
    cases hb : aWf W o1 k1
    · rw [hb] at h
      dsimp only [cond_false] at h
      unfold afind at h ⊢
      cases hq : (Nat.beq o1 o && Nat.beq k1 k)
      · rw [hq] at h
        exact atf_ok h
      · rw [hq] at h
        rw [Bool.and_eq_true] at hq
        have e1 := Nat.eq_of_beq_eq_true hq.1
        have e2 := Nat.eq_of_beq_eq_true hq.2
        subst e1
        subst e2
        exact ⟨h, hb⟩
    · rw [hb] at h
      dsimp only [cond_true] at h
      obtain ⟨g1, g2⟩ := atf_ok h
      refine ⟨?_, g2⟩
      unfold afind
      cases hq : (Nat.beq o1 o && Nat.beq k1 k)
      · exact g1
      · rw [Bool.and_eq_true] at hq
        have e1 := Nat.eq_of_beq_eq_true hq.1
        have e2 := Nat.eq_of_beq_eq_true hq.2
        subst e1
        subst e2
        rw [hb] at g2
        cases g2
def atrD (sg : List aI) (n : Nat) : aD → aD → aD
  | [], ds => ds
  | (k, j, c) :: r, ds => (match atr sg n (.inl (k, 0)), atr sg n (.inl (j, 0)) with
    | .inl (k', o1), .inl (j', o2) => (k', j', c + o2 - o1) :: atrD sg n r ds
    | _, _ => atrD sg n r ds)
theorem atrD_ok {E q : List Int} {cs : aCs} {sg : List aI} {ds : aD} (hs : aSat E cs) (hk : sg.all (aok cs) = true) (hd : aDs E ds) : ∀ {dP : aD}, aDs (sg.map (aval E) ++ q) dP → aDs (E ++ q) (atrD sg cs.length dP ds)
  | [], _ => aDs_ext hd
  | (k, j, c) :: r, h => by
    have hr : aDs (sg.map (aval E) ++ q) r := fun f hf => h f (List.mem_cons_of_mem _ hf)
    obtain ⟨w, v, h1, h2, h3⟩ := h (k, j, c) List.mem_cons_self
    have a1 := atr_ok (q := q) (z := w) (a := .inl (k, 0)) hs hk ⟨w, h1, by omega⟩
    have a2 := atr_ok (q := q) (z := v) (a := .inl (j, 0)) hs hk ⟨v, h2, by omega⟩
    have i := atrD_ok hs hk hd hr
    unfold atrD
    split
    · rename_i k' o1 j' o2 e1 e2
      rw [e1] at a1
      rw [e2] at a2
      obtain ⟨w1, g1, g2⟩ := a1
      obtain ⟨w2, g3, g4⟩ := a2
      intro f hf
      rcases List.mem_cons.mp hf with rfl | hf
      · exact ⟨w1, w2, g1, g3, by dsimp only at h3 ⊢; omega⟩
      · exact i f hf
    · exact i
theorem aSat_app {E q : List Int} {cs cq : aCs} (h : aSat E cs) (g : aSat q cq) : aSat (E ++ q) (cs ++ cq) := by
  refine ⟨by rw [List.length_append, List.length_append, h.1, g.1], fun k w p h1 h2 => ?_⟩
  cases he : zget E k with
  | some w' =>
    rw [zget_app he] at h1
    cases h1
    have hl := zget_lt he
    rw [h.1] at hl
    obtain ⟨p', hp⟩ := zget_of_lt hl
    rw [zget_app hp] at h2
    cases h2
    exact h.2 k w p he hp
  | none =>
    rw [zget_right he] at h1
    have hc : zget cs k = none := by
      cases hc : zget cs k with
      | none => rfl
      | some p' =>
        have hl := zget_lt hc
        rw [← h.1] at hl
        obtain ⟨w', hw⟩ := zget_of_lt hl
        rw [he] at hw
        cases hw
    rw [zget_right hc, ← h.1] at h2
    exact g.2 _ w p h1 h2
theorem amB_all {cs : aCs} : ∀ {A : aCs} {sg : List aI}, amB cs A sg = true → sg.all (aok cs) = true
  | [], [], _ => rfl
  | [], _ :: _, h => by cases h
  | _ :: _, [], h => by cases h
  | q1 :: r, s :: sg, h => by
    unfold amB at h
    rw [Bool.and_eq_true, Bool.and_eq_true] at h
    rw [List.all_cons, h.1.1, amB_all h.2]
    rfl
theorem ameet_all {sg : List aI} {A X : aX} (h : ameet sg A X = true) : sg.all (aok X.1) = true := by
  unfold ameet at h
  rw [Bool.and_eq_true, Bool.and_eq_true] at h
  exact amB_all h.1.1
def atrR (sg : List aI) (n : Nat) : aDr → aDr → aDr
  | [], dr => dr
  | (lo, a) :: r, dr => (lo, atr sg n a) :: atrR sg n r dr
theorem atrR_ok {E q : List Int} {cs : aCs} {sg : List aI} {dr : aDr} {g : Nat → Nat → Int64} (hs : aSat E cs) (hk : sg.all (aok cs) = true) (hd : aDrs (E ++ q) g dr) : ∀ {dP : aDr}, aDrs (sg.map (aval E) ++ q) g dP → aDrs (E ++ q) g (atrR sg cs.length dP dr)
  | [], _ => hd
  | (lo, a) :: r, h => by
    have hr : aDrs (sg.map (aval E) ++ q) g r := fun f hf => h f (List.mem_cons_of_mem _ hf)
    intro f hf
    rcases List.mem_cons.mp hf with rfl | hf
    · obtain ⟨z, h1, h2⟩ := h (lo, a) List.mem_cons_self
      exact ⟨z, atr_ok hs hk h1, h2⟩
    · exact atrR_ok hs hk hd hr f hf
/-- a call by a contract: the caller's state behind it -/
def acall2 (e : aE) (Wl : aW) (d : Nat) (Z X1 : aX) (ds : aD) (hf : aHf) (sg : List aI) : Option (aX × aD × aHf) := bif ((ameet sg e.2.2.1 X1 && adsM sg Z.1 ds e.2.2.2.1.1) && e.2.2.2.1.2.isNone) && (Nat.ble e.2.1 d && (awsub e.2.2.2.2.2 Wl && Nat.beq X1.2.2.2.1.length (zL e.1))) then some ((Z.1 ++ e.2.2.2.2.1.1, atrT sg Z.1.length e.2.2.2.2.1.2.1 (atf e.2.2.2.2.2 Z.2.1), Z.2.2.1, Z.2.2.2.1, (e.2.2.2.2.1.2.2.1.map (atrV sg Z.1.length)).toList ++ Z.2.2.2.2), atrD sg Z.1.length e.2.2.2.2.1.2.2.2.1 ds, bif aWf e.2.2.2.2.2 1000 0 then ([], atrR sg Z.1.length e.2.2.2.2.1.2.2.2.2 [], hf.2.2) else (hf.1, atrR sg Z.1.length e.2.2.2.2.1.2.2.2.2 hf.2.1, hf.2.2)) else none
def aent (Z : aX) (m : Nat) (xs : List aV) : aX := (Z.1, Z.2.1, 0, apad (zL m) (aargs xs), [])
def acall (m : Nat) (Wl : aW) (d : Nat) (Z X1 : aX) (ds : aD) (hf : aHf) : List aE → Option (aX × aD × aHf)
  | [] => none
  | e :: r => bif Nat.beq e.1 m then (match acall2 e Wl d Z X1 ds hf (asg e.2.2.1 X1) with
    | some p => some p
    | none => acall m Wl d Z X1 ds hf r) else acall m Wl d Z X1 ds hf r
def aany (m : Nat) : List aE → Bool
  | [] => false
  | e :: r => Nat.beq e.1 m || aany m r
section AK3
variable {S : Nat → Option (Nat × Nat)} {rf : Nat → Nat → List Nat} {B : aB} {E : List Int} {Wl : aW} {d m mi : Nat} {P : Option Value → zH → Prop} {fs : List zFm} {x y : zC} {i : zI} {us : List Value} {xs : List aV} {Z Z' : aX} {ds ds' : aD} {hf hf' : aHf}
theorem acall2_ok {e : aE} {sg : List aI} (he : aOK S rf B e) (hi : zi mi x.1 = some i) (hz : zstep i x = some (.inr (.inl (e.1, us, y)))) (hu : aSt E us xs) (R : aRel S rf (aiv B) E Z y) (hy : y.2.2.2 = x.2.2.2) (hd : aDs E ds) (hh : aHfs E x.2.2.2 hf) (hj : aJ x.2.2.2) (h0 : acall2 e Wl d Z (aent Z e.1 xs) ds hf sg = some (Z', ds', hf')) (hk : ∀ q x', aRel S rf (aiv B) (E ++ q) Z' x' → aDs (E ++ q) ds' → aHfs (E ++ q) x'.2.2.2 hf' → aFr (aWf Wl) x.2.2.2 x'.2.2.2 → aJ x'.2.2.2 → zTS (d + 1) fs mi x' P) : zTS (d + 1) fs mi x P := by
  unfold acall2 at h0
  generalize hcnd : (((ameet sg e.2.2.1 (aent Z e.1 xs) && adsM sg Z.1 ds e.2.2.2.1.1) && e.2.2.2.1.2.isNone) && (Nat.ble e.2.1 d && (awsub e.2.2.2.2.2 Wl && Nat.beq (aent Z e.1 xs).2.2.2.1.length (zL e.1)))) = cnd at h0
  cases cnd with
  | false => cases h0
  | true =>
    cases h0
    rw [Bool.and_eq_true, Bool.and_eq_true, Bool.and_eq_true, Bool.and_eq_true, Bool.and_eq_true] at hcnd
    obtain ⟨⟨⟨c1, c2⟩, c6⟩, c3, c4, c5⟩ := hcnd
    have c3 : e.2.1 ≤ d := by
      rw [Nat.ble_eq] at c3
      exact c3
    have hlo : aLo E (zpad (zL e.1) (zargs us)) (apad (zL e.1) (aargs xs)) := aLr_lo (apad_ok (aargs_ok hu))
    have hlen : (zpad (zL e.1) (zargs us)).length = zL e.1 := hlo.1.trans (Nat.eq_of_beq_eq_true c5)
    have R1 : aRel S rf (aiv B) E (aent Z e.1 xs) (0, zpad (zL e.1) (zargs us), [], x.2.2.2) := ⟨R.1, rfl, hlo, trivial, by rw [← hy]; exact R.2.2.2.2⟩
    have hall := ameet_all c1
    have R2 := ameet_ok R1 c1
    have hc := he _ _ R2 (adsM_ok R.1 hd c2) (fun k hk => by rw [hk] at c6; cases c6) hj
    refine zTS_call hi hz hlen (zT_deep hc c3) (fun r h1 hp => ?_)
    obtain ⟨q, p1, p2, p3, p4, p7, p5, p6⟩ := hp
    dsimp only at p5
    refine hk q _ ⟨aSat_app R.1 p1, R.2.1, aLo_ext R.2.2.1, ?_, p3.1, fun o k a ha => ?_⟩ (atrD_ok R.1 hall hd p4) ?_ (aFr_sub c4 p5) p6
    · dsimp only
      match hw : e.2.2.2.2.1.2.2.1, r, p2 with
      | none, none, _ => exact aSt_ext R.2.2.2.1
      | some w, some v, p2 => exact ⟨atrV_ok R.1 hall p2, aSt_ext R.2.2.2.1⟩
    · dsimp only
      rcases atrT_ok ha with ⟨a', g1, rfl⟩ | g
      · exact atr_ok R.1 hall (p3.2 o k a' g1)
      · obtain ⟨g1, g2⟩ := atf_ok g
        rw [p5.1 o k g2, ← hy]
        exact aIs_ext (R.2.2.2.2.2 o k a g1)
    · dsimp only
      cases hl : aWf e.2.2.2.2.2 1000 0
      · have hs := aHfs_same (aHfs_ext (q := q) hh) p5.2.2 (p5.2.1 hl) (fun k => p5.1 0 k aWf_0)
        exact ⟨hs.1, atrR_ok R.1 hall hs.2.1 p7, hs.2.2⟩
      · have hs := aHfs_drop (aHfs_ext (q := q) hh) p5.2.2 (fun k => p5.1 0 k aWf_0)
        exact ⟨hs.1, atrR_ok R.1 hall (fun f hf => by cases hf) p7, hs.2.2⟩
theorem acall_ok (hi : zi mi x.1 = some i) (hz : zstep i x = some (.inr (.inl (m, us, y)))) (hu : aSt E us xs) (R : aRel S rf (aiv B) E Z y) (hy : y.2.2.2 = x.2.2.2) (hd : aDs E ds) (hh : aHfs E x.2.2.2 hf) (hj : aJ x.2.2.2) (hk : ∀ q x', aRel S rf (aiv B) (E ++ q) Z' x' → aDs (E ++ q) ds' → aHfs (E ++ q) x'.2.2.2 hf' → aFr (aWf Wl) x.2.2.2 x'.2.2.2 → aJ x'.2.2.2 → zTS (d + 1) fs mi x' P) : ∀ {es : List aE}, (∀ e, e ∈ es → aOK S rf B e) → acall m Wl d Z (aent Z m xs) ds hf es = some (Z', ds', hf') → zTS (d + 1) fs mi x P
  | [], _, h => by cases h
  | e :: r, he, h => by
    unfold acall at h
    cases hb : Nat.beq e.1 m
    · rw [hb] at h
      exact acall_ok hi hz hu R hy hd hh hj hk (fun e' h' => he e' (List.mem_cons_of_mem _ h')) h
    · rw [hb] at h
      dsimp only [cond_true] at h
      have e1 := Nat.eq_of_beq_eq_true hb
      split at h
      · rename_i p hp
        cases h
        rw [← e1] at hz hp
        exact acall2_ok (he e List.mem_cons_self) hi hz hu R hy hd hh hj hp hk
      · exact acall_ok hi hz hu R hy hd hh hj hk (fun e' h' => he e' (List.mem_cons_of_mem _ h')) h
end AK3
