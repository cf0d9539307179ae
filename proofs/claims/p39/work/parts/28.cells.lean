/-! STEPS BY BOUNDS: instructions that read and write cells; a reference may be one of several cells. -/
/-- bounds of ints by cell: of a row one pair for all its places, of an object a pair a field -/
abbrev aB : Type := Nat → Option ((Int × Int) ⊕ List (Int × Int))
def aiv (B : aB) (o k : Nat) : Int × Int := match B o with
  | some (.inl q) => q
  | some (.inr l) => (match zget l k with
    | some q => q
    | none => afull)
  | none => afull
def aisA (B : aB) (o : Nat) : Bool := match B o with
  | some (.inl _) => true
  | _ => false
theorem aisA_ok {B : aB} {o : Nat} (h : aisA B o = true) (k k' : Nat) : aiv B o k = aiv B o k' := by
  unfold aisA at h
  unfold aiv
  split at h
  · rename_i q hq
    rw [hq]
  · cases h
def aall (S : Nat → Option (Nat × Nat)) (l : List Nat) (f : Nat → Nat → Nat → Bool) : Bool := l.all (fun o => match S o with
  | some (t, n) => !Nat.beq t 9 && f o t n
  | none => false)
theorem aall_ok {S : Nat → Option (Nat × Nat)} {g : List (Nat × Nat)} {l : List Nat} {f : Nat → Nat → Nat → Bool} {o : Nat} (hS : aShp S g) (h : aall S l f = true) (ho : o ∈ l) : ∃ t n, zget g o = some (t, n) ∧ f o t n = true := by
  have q := List.all_eq_true.mp h o ho
  split at q
  · rename_i t n hg
    rw [Bool.and_eq_true] at q
    have q1 := q.1
    cases hb : Nat.beq t 9
    · exact ⟨t, n, hS o t n hg hb, q.2⟩
    · rw [hb] at q1
      cases q1
  · cases q
def auni (l m : List Nat) : List Nat := l.filter (fun z => !m.elem z) ++ m
theorem auni_l {l m : List Nat} {q : Nat} (h : q ∈ l) : q ∈ auni l m := by
  unfold auni
  rw [List.mem_append]
  cases he : m.elem q
  · exact Or.inl (List.mem_filter.mpr ⟨h, by rw [he]; rfl⟩)
  · exact Or.inr (List.elem_iff.mp he)
theorem auni_r {l m : List Nat} {q : Nat} (h : q ∈ m) : q ∈ auni l m := List.mem_append.mpr (Or.inr h)
def arefs (rf : Nat → Nat → List Nat) (b : Nat) : List Nat → Option (List Nat)
  | [] => some []
  | o :: s => (match rf o b, arefs rf b s with
    | q :: qs, some m => some (auni (q :: qs) m)
    | _, _ => none)
theorem arefs_ok {rf : Nat → Nat → List Nat} {b : Nat} : ∀ {l m : List Nat} {o : Nat}, arefs rf b l = some m → o ∈ l → rf o b ≠ [] ∧ ∀ q, q ∈ rf o b → q ∈ m
  | [], _, _, _, ho => by cases ho
  | o1 :: s, m, o, h, ho => by
    unfold arefs at h
    split at h
    · rename_i q qs m1 hq hm
      cases h
      rcases List.mem_cons.mp ho with rfl | ho
      · refine ⟨by rw [hq]; exact List.cons_ne_nil _ _, fun z hz => ?_⟩
        rw [hq] at hz
        exact auni_l hz
      · obtain ⟨h1, h2⟩ := arefs_ok hm ho
        exact ⟨h1, fun z hz => auni_r (h2 z hz)⟩
    · cases h
def ajoin (B : aB) (b : Nat) : List Nat → Int × Int
  | [] => (1, 0)
  | [o] => aiv B o b
  | o :: s => (min (aiv B o b).1 (ajoin B b s).1, max (aiv B o b).2 (ajoin B b s).2)
theorem ajoin_ok {B : aB} {b : Nat} : ∀ {l : List Nat} {o : Nat}, o ∈ l → (ajoin B b l).1 ≤ (aiv B o b).1 ∧ (aiv B o b).2 ≤ (ajoin B b l).2
  | [], _, ho => by cases ho
  | [o1], o, ho => by
    rw [List.mem_singleton.mp ho]
    exact ⟨Int.le_refl _, Int.le_refl _⟩
  | o1 :: o2 :: s, o, ho => by
    unfold ajoin
    dsimp only
    rcases List.mem_cons.mp ho with rfl | ho
    · exact ⟨Int.min_le_left _ _, Int.le_max_left _ _⟩
    · have q := ajoin_ok (B := B) (b := b) ho
      exact ⟨Int.le_trans (Int.min_le_right _ _) q.1, Int.le_trans q.2 (Int.le_max_right _ _)⟩
/-- what is listed of a place of some cells falls away -/
def adrop (l : List Nat) (k : Nat) : aT → aT
  | [] => []
  | (o, k', v) :: r => bif l.elem o && Nat.beq k' k then adrop l k r else (o, k', v) :: adrop l k r
theorem adrop_ok {l : List Nat} {k : Nat} : ∀ {T : aT} {o k' : Nat} {a : aI}, afind (adrop l k T) o k' = some a → afind T o k' = some a ∧ ¬ (o ∈ l ∧ k' = k)
  | [], _, _, _, h => by cases h
  | (o1, k1, v1) :: r, o, k', a, h => by
    unfold adrop at h
    cases hb : (l.elem o1 && Nat.beq k1 k)
    · rw [hb] at h
      dsimp only [cond_false] at h
      unfold afind at h ⊢
      cases hq : (Nat.beq o1 o && Nat.beq k1 k')
      · rw [hq] at h
        exact adrop_ok h
      · rw [hq] at h
        refine ⟨h, fun w => ?_⟩
        rw [Bool.and_eq_true] at hq
        have e1 := Nat.eq_of_beq_eq_true hq.1
        have e2 := Nat.eq_of_beq_eq_true hq.2
        subst e1
        subst e2
        rw [List.elem_iff.mpr w.1, w.2, Nat.beq_refl] at hb
        cases hb
    · rw [hb] at h
      dsimp only [cond_true] at h
      obtain ⟨g1, g2⟩ := adrop_ok h
      refine ⟨?_, g2⟩
      unfold afind
      cases hq : (Nat.beq o1 o && Nat.beq k1 k')
      · exact g1
      · rw [Bool.and_eq_true] at hq hb
        have e1 := Nat.eq_of_beq_eq_true hq.1
        have e2 := Nat.eq_of_beq_eq_true hq.2
        subst e1
        subst e2
        exact absurd ⟨List.elem_iff.mp hb.1, Nat.eq_of_beq_eq_true hb.2⟩ g2
/-- what is listed of some cells falls away -/
def adropA (l : List Nat) : aT → aT
  | [] => []
  | (o, k', v) :: r => bif l.elem o then adropA l r else (o, k', v) :: adropA l r
theorem adropA_ok {l : List Nat} : ∀ {T : aT} {o k' : Nat} {a : aI}, afind (adropA l T) o k' = some a → afind T o k' = some a ∧ ¬ o ∈ l
  | [], _, _, _, h => by cases h
  | (o1, k1, v1) :: r, o, k', a, h => by
    unfold adropA at h
    cases hb : l.elem o1
    · rw [hb] at h
      dsimp only [cond_false] at h
      unfold afind at h ⊢
      cases hq : (Nat.beq o1 o && Nat.beq k1 k')
      · rw [hq] at h
        exact adropA_ok h
      · rw [hq] at h
        refine ⟨h, fun w => ?_⟩
        rw [Bool.and_eq_true] at hq
        have e1 := Nat.eq_of_beq_eq_true hq.1
        subst e1
        rw [List.elem_iff.mpr w] at hb
        cases hb
    · rw [hb] at h
      dsimp only [cond_true] at h
      obtain ⟨g1, g2⟩ := adropA_ok h
      refine ⟨?_, g2⟩
      unfold afind
      cases hq : (Nat.beq o1 o && Nat.beq k1 k')
      · exact g1
      · rw [Bool.and_eq_true] at hq
        have e1 := Nat.eq_of_beq_eq_true hq.1
        subst e1
        exact absurd (List.elem_iff.mp hb) g2
/-- a place of one of several cells is written -/
theorem aHp_wk {S : Nat → Option (Nat × Nat)} {rf : Nat → Nat → List Nat} {B : aB} {E : List Int} {T T' : aT} {h : zH} {o k : Nat} {x : Int32} (hh : aHp S rf (aiv B) E T h) (hT : ∀ o' k' a, afind T' o' k' = some a → afind T o' k' = some a ∧ ¬ (o' = o ∧ k' = k)) (h1 : (aiv B o k).1 ≤ x.toInt) (h2 : x.toInt ≤ (aiv B o k).2) : aHp S rf (aiv B) E T' (h.1, zup h.2.1 o k x, h.2.2.1, h.2.2.2) := by
  refine ⟨⟨hh.1.1, hh.1.2.1, fun o' k' => ?_⟩, fun o' k' a' h' => ?_⟩
  · by_cases hq : o' = o ∧ k' = k
    · obtain ⟨rfl, rfl⟩ := hq
      dsimp only
      rw [zsame_up]
      exact ⟨h1, h2⟩
    · dsimp only
      rw [zne_up hq]
      exact hh.1.2.2 o' k'
  · obtain ⟨g1, g2⟩ := hT o' k' a' h'
    dsimp only
    rw [zne_up g2]
    exact hh.2 o' k' a' g1
/-- a read of a place of a known cell: listed, or a new entry that is listed -/
def ard (B : aB) (cs : aCs) (T : aT) (o k : Nat) : aCs × aT × aI := match afind T o k with
  | some i => (cs, T, i)
  | none => (cs ++ [aiv B o k], (o, k, .inl (cs.length, 0)) :: T, .inl (cs.length, 0))
theorem ard_ok {S : Nat → Option (Nat × Nat)} {rf : Nat → Nat → List Nat} {B : aB} {E : List Int} {cs : aCs} {T : aT} {h : zH} {o k : Nat} (hs : aSat E cs) (hh : aHp S rf (aiv B) E T h) : ∃ q, aSat (E ++ q) (ard B cs T o k).1 ∧ aHp S rf (aiv B) (E ++ q) (ard B cs T o k).2.1 h ∧ aIs (E ++ q) (h.2.1 o k).toInt (ard B cs T o k).2.2 := by
  unfold ard
  cases hf : afind T o k with
  | some i => exact ⟨[], by rw [List.append_nil]; exact hs, by rw [List.append_nil]; exact hh, by rw [List.append_nil]; exact hh.2 o k i hf⟩
  | none =>
    have b := hh.1.2.2 o k
    have hn : aIs (E ++ [(h.2.1 o k).toInt]) (h.2.1 o k).toInt (.inl (cs.length, 0)) := by rw [← hs.1]; exact aIs_new
    exact ⟨[(h.2.1 o k).toInt], aSat_ext hs b.1 b.2, aHp_note (aHp_ext hh) hn, hn⟩
def aqn (B : aB) (cs : aCs) (T : aT) (pc : Nat) (al : List (Option aV)) (r : List aV) (b : Nat) : List Nat → Option aR
  | [] => none
  | [o] => ago ((ard B cs T o b).1, (ard B cs T o b).2.1, pc, al, .inl (.inl (ard B cs T o b).2.2) :: r)
  | o1 :: o2 :: s => ago ((anew cs (ajoin B b (o1 :: o2 :: s))).1, T, pc, al, .inl (.inl (anew cs (ajoin B b (o1 :: o2 :: s))).2) :: r)
def aqr (rf : Nat → Nat → List Nat) (cs : aCs) (T : aT) (pc : Nat) (al : List (Option aV)) (r : List aV) (b : Nat) (l : List Nat) : Option aR := match arefs rf b l with
  | some m => ago (cs, T, pc, al, .inr m :: r)
  | none => none
def aq20 (S : Nat → Option (Nat × Nat)) (rf : Nat → Nat → List Nat) (B : aB) (len a b c : Nat) : aX → Option aR := fun (cs, T, pc, al, st) => match st with
  | .inr l :: r => bif aall S l (fun _ t n => Nat.beq t (10 + a) && Nat.blt b n) then (match c with
    | 1 => aqr rf cs T (pc + len) al r b l
    | _ => aqn B cs T (pc + len) al r b l) else none
  | _ => none
def aq21 (S : Nat → Option (Nat × Nat)) (B : aB) (W : Nat → Nat → Bool) (len a b c : Nat) : aX → Option aR := fun (cs, T, pc, al, st) => match st with
  | .inl (.inl x) :: .inr l :: r => bif aall S l (fun o t n => (Nat.beq t (10 + a) && Nat.blt b n) && (W o b && (decide ((aiv B o b).1 ≤ (abd cs x).1) && decide ((abd cs x).2 ≤ (aiv B o b).2)))) && (Nat.beq c 0 || (Nat.beq c 2 && (decide (0 ≤ (abd cs x).1) && decide ((abd cs x).2 ≤ 1)))) then (match l with
    | [o] => ago (cs, (o, b, x) :: T, pc + len, al, r)
    | l => ago (cs, adrop l b T, pc + len, al, r)) else none
  | _ => none
section AC2
variable {S : Nat → Option (Nat × Nat)} {rf : Nat → Nat → List Nat} {B : aB} {W : Nat → Nat → Bool} {E : List Int} {cs : aCs} {T : aT} {al : List (Option aV)} {as : List aV} {pc len a b k3 : Nat} {v : Value} {lo : List (Option Value)} {st : List Value} {h : zH} {Ys : List aX}
theorem aqn_ok {o pc' : Nat} {r : List aV} {l : List Nat} {sr st' : List Value} (hs : aSat E cs) (hl : aLo E lo al) (h3 : aSt E sr r) (hh : aHp S rf (aiv B) E T h) (ho : o ∈ l) (h0 : aqn B cs T pc' al r b l = some (.inl Ys)) : aGo S rf (aiv B) W E Ys (pc, lo, st', h) (pc', lo, .int (h.2.1 o b) :: sr, h) := by
  match l, ho, h0 with
  | [], ho, _ => cases ho
  | [o1], ho, h0 =>
    have e := List.mem_singleton.mp ho
    subst e
    cases h0
    obtain ⟨q, g1, g2, g3⟩ := ard_ok (o := o) (k := b) hs hh
    exact ⟨⟨q, _, List.mem_singleton.mpr rfl, g1, rfl, aLo_ext hl, ⟨⟨_, rfl, g3⟩, aSt_ext h3⟩, g2⟩, fun _ _ _ => rfl⟩
  | o1 :: o2 :: s, ho, h0 =>
    cases h0
    have q := ajoin_ok (B := B) (b := b) ho
    have q2 := hh.1.2.2 o b
    exact aGo_int (aGot_new hs (Int.le_trans q.1 q2.1) (Int.le_trans q2.2 q.2)) hl h3 hh
theorem aqr_ok {o pc' : Nat} {r : List aV} {l : List Nat} {sr st' : List Value} (hs : aSat E cs) (hl : aLo E lo al) (h3 : aSt E sr r) (hh : aHp S rf (aiv B) E T h) (ho : o ∈ l) (h0 : aqr rf cs T pc' al r b l = some (.inl Ys)) : aGo S rf (aiv B) W E Ys (pc, lo, st', h) (pc', lo, va_rf (h.2.2.2 o b) :: sr, h) := by
  unfold aqr at h0
  cases hr : arefs rf b l with
  | none => rw [hr] at h0; cases h0
  | some m =>
    rw [hr] at h0
    cases h0
    obtain ⟨e0, e3⟩ := arefs_ok hr ho
    obtain ⟨q, e1, e2⟩ := hh.1.2.1 o b e0
    have e2 := e3 q e2
    rw [e1]
    exact aGo_one ⟨hs, rfl, hl, ⟨⟨q, rfl, e2⟩, h3⟩, hh⟩
theorem at_20 (R : aRel S rf (aiv B) E (cs, T, pc, al, as) (pc, lo, st, h)) (h0 : aq20 S rf B len a b k3 (cs, T, pc, al, as) = some (.inl Ys)) : ∃ y, zs20 len a b k3 (pc, lo, st, h) = some (.inl y) ∧ aGo S rf (aiv B) W E Ys (pc, lo, st, h) y := by
  obtain ⟨hs, -, hl, hst, hh⟩ := R
  unfold aq20 at h0
  dsimp only at h0
  split at h0
  · rename_i l r
    obtain ⟨u, sr, rfl, ⟨o, rfl, ho⟩, h3⟩ := aSt_cons hst
    cases hb : aall S l (fun _ t n => Nat.beq t (10 + a) && Nat.blt b n)
    · rw [hb] at h0; cases h0
    · rw [hb] at h0
      dsimp only [cond_true] at h0
      obtain ⟨t, n, hg, hc⟩ := aall_ok hh.1.1 hb ho
      match k3, h0 with
      | 0, h0 =>
        refine ⟨_, ?_, aqn_ok hs hl h3 hh ho h0⟩
        simp only [zs20]
        rw [hg]
        dsimp only
        rw [hc]
        rfl
      | 1, h0 =>
        refine ⟨_, ?_, aqr_ok hs hl h3 hh ho h0⟩
        simp only [zs20]
        rw [hg]
        dsimp only
        rw [hc]
        rfl
      | k4 + 2, h0 =>
        refine ⟨_, ?_, aqn_ok hs hl h3 hh ho h0⟩
        simp only [zs20]
        rw [hg]
        dsimp only
        rw [hc]
        rfl
  · cases h0
theorem at_21 (R : aRel S rf (aiv B) E (cs, T, pc, al, as) (pc, lo, st, h)) (h0 : aq21 S B W len a b k3 (cs, T, pc, al, as) = some (.inl Ys)) : ∃ y, zs21 len a b k3 (pc, lo, st, h) = some (.inl y) ∧ aGo S rf (aiv B) W E Ys (pc, lo, st, h) y := by
  obtain ⟨hs, -, hl, hst, hh⟩ := R
  simp only [aq21, ago] at h0
  split at h0
  · rename_i ax l r
    obtain ⟨u, sr, rfl, ⟨x, rfl, h2⟩, h3⟩ := aSt_cons hst
    obtain ⟨u, sr, rfl, ⟨o, rfl, ho⟩, h5⟩ := aSt_cons h3
    have bx := abd_ok (cs := cs) hs h2
    generalize hcnd : (aall S l (fun o t n => (Nat.beq t (10 + a) && Nat.blt b n) && (W o b && (decide ((aiv B o b).1 ≤ (abd cs ax).1) && decide ((abd cs ax).2 ≤ (aiv B o b).2)))) && (Nat.beq k3 0 || (Nat.beq k3 2 && (decide (0 ≤ (abd cs ax).1) && decide ((abd cs ax).2 ≤ 1))))) = cnd at h0
    cases cnd with
    | false => cases h0
    | true =>
      dsimp only [cond_true] at h0
      rw [Bool.and_eq_true] at hcnd
      obtain ⟨c1, c2⟩ := hcnd
      obtain ⟨t, n, hg, hc⟩ := aall_ok hh.1.1 c1 ho
      rw [Bool.and_eq_true] at hc
      obtain ⟨d1, hc⟩ := hc
      rw [Bool.and_eq_true, Bool.and_eq_true, decide_eq_true_eq, decide_eq_true_eq] at hc
      obtain ⟨d2, d3, d4⟩ := hc
      have key : zs21 len a b k3 (pc, lo, .int x :: .ref o :: sr, h) = some (.inl (pc + len, lo, sr, (h.1, zup h.2.1 o b x, h.2.2.1, h.2.2.2))) := by
        simp only [zs21]
        rw [hg]
        dsimp only
        rw [d1]
        dsimp only [cond_true]
        rw [Bool.or_eq_true] at c2
        rcases c2 with c2 | c2
        · have e := Nat.eq_of_beq_eq_true c2
          subst e
          rfl
        · rw [Bool.and_eq_true, Bool.and_eq_true, decide_eq_true_eq, decide_eq_true_eq] at c2
          have e := Nat.eq_of_beq_eq_true c2.1
          subst e
          have hx : x = 0 ∨ x = 1 := by
            rcases (show x.toInt = 0 ∨ x.toInt = 1 by omega) with q | q
            · exact Or.inl (Int32.toInt_inj.mp q)
            · exact Or.inr (Int32.toInt_inj.mp q)
          show (if x = 0 ∨ x = 1 then _ else none) = _
          rw [if_pos hx]
          rfl
      have frame : ∀ o' k', W o' k' = false → zup h.2.1 o b x o' k' = h.2.1 o' k' := by
        intro o' k' hw
        refine zne_up (fun q => ?_)
        rw [q.1, q.2, d2] at hw
        cases hw
      refine ⟨_, key, ?_⟩
      have many : Ys = [(cs, adrop l b T, pc + len, al, r)] → aGo S rf (aiv B) W E Ys (pc, lo, .int x :: .ref o :: sr, h) (pc + len, lo, sr, (h.1, zup h.2.1 o b x, h.2.2.1, h.2.2.2)) := by
        intro e
        subst e
        have hw : ∀ o' k' a', afind (adrop l b T) o' k' = some a' → afind T o' k' = some a' ∧ ¬ (o' = o ∧ k' = b) := by
          intro o' k' a' g
          obtain ⟨g1, g2⟩ := adrop_ok g
          exact ⟨g1, fun q => g2 ⟨by rw [q.1]; exact ho, q.2⟩⟩
        have hv : aHp S rf (aiv B) E (adrop l b T) (h.1, zup h.2.1 o b x, h.2.2.1, h.2.2.2) := aHp_wk hh hw (by omega) (by omega)
        exact ⟨⟨[], _, List.mem_singleton.mpr rfl, by rw [List.append_nil]; exact ⟨hs, rfl, hl, h5, hv⟩⟩, frame⟩
      match l, ho, h0, many with
      | [], ho, _, _ => cases ho
      | [o1], ho, h0, _ =>
        have e := List.mem_singleton.mp ho
        subst e
        cases h0
        exact ⟨⟨[], _, List.mem_singleton.mpr rfl, by rw [List.append_nil]; exact ⟨hs, rfl, hl, h5, aHp_put hh h2 (by omega) (by omega)⟩⟩, frame⟩
      | o1 :: o2 :: s, ho, h0, many =>
        cases h0
        exact many rfl
  · cases h0
end AC2
