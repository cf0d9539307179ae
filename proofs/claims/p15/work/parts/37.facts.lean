/-! FACTS BETWEEN ENTRIES: sums of entries, and what differences are known. -/
abbrev aLn : Type := List (Int × Nat)
abbrev aD : Type := List (Nat × Nat × Int)
def agv (E : List Int) (k : Nat) : Int := (zget E k).getD 0
def alv (E : List Int) : aLn → Int
  | [] => 0
  | (c, k) :: r => c * agv E k + alv E r
def alad (c : Int) (k : Nat) : aLn → aLn
  | [] => [(c, k)]
  | (c', k') :: r => bif Nat.beq k' k then (c' + c, k') :: r else (c', k') :: alad c k r
def alco (k : Nat) : aLn → Int
  | [] => 0
  | (c, k') :: r => bif Nat.beq k' k then c else alco k r
/-- the first is so much above the second at least -/
def aDs (E : List Int) (ds : aD) : Prop := ∀ f, f ∈ ds → ∃ w v, zget E f.1 = some w ∧ zget E f.2.1 = some v ∧ v + f.2.2 ≤ w
theorem aDs_ext {E q : List Int} {ds : aD} (h : aDs E ds) : aDs (E ++ q) ds := by
  intro f hf
  obtain ⟨w, v, h1, h2, h3⟩ := h f hf
  exact ⟨w, v, zget_app h1, zget_app h2, h3⟩
theorem alad_ok {E : List Int} {c : Int} {k : Nat} : ∀ {l : aLn}, alv E (alad c k l) = c * agv E k + alv E l
  | [] => rfl
  | (c', k') :: r => by
    unfold alad
    cases hb : Nat.beq k' k
    · show c' * agv E k' + alv E (alad c k r) = c * agv E k + (c' * agv E k' + alv E r)
      rw [alad_ok]
      omega
    · have e := Nat.eq_of_beq_eq_true hb
      subst e
      show (c' + c) * agv E k' + alv E r = c * agv E k' + (c' * agv E k' + alv E r)
      rw [Int.add_mul]
      omega
/-- a sum is no greater when a known difference is added: as often as both its ends are there, or as often as the first is -/
def almu (b : Bool) (x y : Int) : Int := bif b then imax 0 (-x) else imax 0 (imin (-x) y)
theorem almu_ok {b : Bool} {x y : Int} : 0 ≤ almu b x y := by
  unfold almu
  cases b
  · dsimp only [cond_false]
    rw [imax_eq]
    exact Int.le_max_left _ _
  · dsimp only [cond_true]
    rw [imax_eq]
    exact Int.le_max_left _ _
def alfs (b : Bool) : aD → Int × aLn → Int × aLn
  | [], p => p
  | (k, j, c) :: r, p => alfs b r (p.1 - almu b (alco k p.2) (alco j p.2) * c, alad (almu b (alco k p.2) (alco j p.2)) k (alad (-(almu b (alco k p.2) (alco j p.2))) j p.2))
theorem agv_eq {E : List Int} {k : Nat} {w : Int} (h : zget E k = some w) : agv E k = w := by
  unfold agv
  rw [h]
  rfl
theorem alfs_ok {E : List Int} {b : Bool} : ∀ {ds : aD} {p : Int × aLn}, aDs E ds → p.1 + alv E p.2 ≤ (alfs b ds p).1 + alv E (alfs b ds p).2
  | [], p, _ => Int.le_refl _
  | (k, j, c) :: r, p, h => by
    unfold alfs
    have hr : aDs E r := fun f hf => h f (List.mem_cons_of_mem _ hf)
    obtain ⟨w, v, h1, h2, h3⟩ := h (k, j, c) List.mem_cons_self
    generalize hm : almu b (alco k p.2) (alco j p.2) = m
    have m0 : 0 ≤ m := by rw [← hm]; exact almu_ok
    refine Int.le_trans ?_ (alfs_ok hr)
    dsimp only at h1 h2 h3 ⊢
    rw [alad_ok, alad_ok, agv_eq h1, agv_eq h2, Int.neg_mul]
    have q : m * (v + c) ≤ m * w := Int.mul_le_mul_of_nonneg_left h3 m0
    rw [Int.mul_add] at q
    omega
def alup (cs : aCs) : aLn → Option Int
  | [] => some 0
  | (c, k) :: r => (match zget cs k, alup cs r with
    | some q, some u => some ((bif ile 0 c then c * q.2 else c * q.1) + u)
    | _, _ => none)
theorem alup_ok {E : List Int} {cs : aCs} (hs : aSat E cs) : ∀ {l : aLn} {u : Int}, alup cs l = some u → alv E l ≤ u
  | [], u, h => by
    cases h
    exact Int.le_refl _
  | (c, k) :: r, u, h => by
    unfold alup at h
    split at h
    · rename_i q u1 hq hu
      cases h
      have i := alup_ok hs hu
      have hl := zget_lt hq
      rw [← hs.1] at hl
      obtain ⟨w, hw⟩ := zget_of_lt hl
      have b := hs.2 k w q hw hq
      show c * agv E k + alv E r ≤ _
      rw [agv_eq hw]
      cases hc : ile 0 c
      · have hc : ¬ 0 ≤ c := fun q => by rw [← ile_eq, hc] at q; cases q
        dsimp only [cond_false]
        have := Int.mul_le_mul_of_nonpos_left (show c ≤ 0 by omega) b.1
        omega
      · rw [ile_eq] at hc
        dsimp only [cond_true]
        have := Int.mul_le_mul_of_nonneg_left b.2 hc
        omega
    · cases h
/-- a sum is 0 or less -/
def ale1 (b : Bool) (cs : aCs) (ds : aD) (p : Int × aLn) : Bool := match alup cs (alfs b ds p).2 with
  | some u => ile ((alfs b ds p).1 + u) 0
  | none => false
def ale0 (cs : aCs) (ds : aD) (p : Int × aLn) : Bool := ale1 false cs ds p || ale1 true cs ds p
theorem ale1_ok {E : List Int} {b : Bool} {cs : aCs} {ds : aD} {p : Int × aLn} (hs : aSat E cs) (hd : aDs E ds) (h : ale1 b cs ds p = true) : p.1 + alv E p.2 ≤ 0 := by
  unfold ale1 at h
  split at h
  · rename_i u hu
    rw [ile_eq] at h
    have a := alup_ok hs hu
    have b := alfs_ok (b := b) (p := p) hd
    omega
  · cases h
theorem ale0_ok {E : List Int} {cs : aCs} {ds : aD} {p : Int × aLn} (hs : aSat E cs) (hd : aDs E ds) (h : ale0 cs ds p = true) : p.1 + alv E p.2 ≤ 0 := by
  unfold ale0 at h
  rw [Bool.or_eq_true] at h
  rcases h with h | h
  · exact ale1_ok hs hd h
  · exact ale1_ok hs hd h
/-- so many times a number is added -/
def alI (m : Int) (a : aI) (p : Int × aLn) : Int × aLn := match a with
  | .inl (k, o) => (p.1 + m * o, alad m k p.2)
  | .inr n => (p.1 + m * n, p.2)
theorem aval_gv {E : List Int} {k : Nat} {o : Int} : aval E (.inl (k, o)) = agv E k + o := by
  unfold aval agv
  dsimp only
  cases zget E k with
  | none => simp
  | some w => rfl
theorem alI_ok {E : List Int} {m : Int} {a : aI} {p : Int × aLn} : (alI m a p).1 + alv E (alI m a p).2 = p.1 + alv E p.2 + m * aval E a := by
  match a with
  | .inl (k, o) =>
    unfold alI
    dsimp only
    rw [alad_ok, aval_gv, Int.mul_add]
    omega
  | .inr n =>
    show p.1 + m * n + alv E p.2 = p.1 + alv E p.2 + m * n
    omega
/-- a sum over an annotation's entries, by the numbers given for them -/
def alsg (sg : List aI) : aLn → Int × aLn → Int × aLn
  | [], p => p
  | (c, k) :: r, p => alsg sg r (match zget sg k with
    | some a => alI c a p
    | none => p)
theorem alsg_ok {E : List Int} {sg : List aI} : ∀ {l : aLn} {p : Int × aLn}, (alsg sg l p).1 + alv E (alsg sg l p).2 = p.1 + alv E p.2 + alv (sg.map (aval E)) l
  | [], p => by
    show p.1 + alv E p.2 = p.1 + alv E p.2 + 0
    omega
  | (c, k) :: r, p => by
    unfold alsg
    rw [alsg_ok]
    have e : (match zget sg k with
      | some a => alI c a p
      | none => p).1 + alv E (match zget sg k with
      | some a => alI c a p
      | none => p).2 = p.1 + alv E p.2 + c * agv (sg.map (aval E)) k := by
      cases hk : zget sg k with
      | none =>
        dsimp only
        have : agv (sg.map (aval E)) k = 0 := by
          unfold agv
          rw [zget_map, hk]
          rfl
        rw [this]
        omega
      | some a =>
        dsimp only
        rw [alI_ok, agv_eq (show zget (sg.map (aval E)) k = some (aval E a) by rw [zget_map, hk]; rfl)]
    rw [e]
    show _ = p.1 + alv E p.2 + (c * agv (sg.map (aval E)) k + alv (sg.map (aval E)) r)
    omega
def alng : aLn → Int × aLn → Int × aLn
  | [], p => p
  | (c, k) :: r, p => alng r (p.1, alad (-c) k p.2)
theorem alng_ok {E : List Int} : ∀ {l : aLn} {p : Int × aLn}, (alng l p).1 + alv E (alng l p).2 = p.1 + alv E p.2 - alv E l
  | [], p => by
    show p.1 + alv E p.2 = p.1 + alv E p.2 - 0
    omega
  | (c, k) :: r, p => by
    unfold alng
    rw [alng_ok]
    dsimp only
    rw [alad_ok, Int.neg_mul]
    show _ = p.1 + alv E p.2 - (c * agv E k + alv E r)
    omega
/-- an annotation's differences, by the numbers given for its entries -/
def adsM (sg : List aI) (cs : aCs) (ds : aD) : aD → Bool
  | [] => true
  | (k, j, c) :: r => (match zget sg k, zget sg j with
    | some a, some b => ale0 cs ds (alI 1 b (alI (-1) a (c, [])))
    | _, _ => false) && adsM sg cs ds r
theorem adsM_ok {E : List Int} {sg : List aI} {cs : aCs} {ds : aD} (hs : aSat E cs) (hd : aDs E ds) : ∀ {dA : aD}, adsM sg cs ds dA = true → aDs (sg.map (aval E)) dA
  | [], _ => fun f hf => by cases hf
  | (k, j, c) :: r, h => by
    unfold adsM at h
    rw [Bool.and_eq_true] at h
    intro f hf
    rcases List.mem_cons.mp hf with rfl | hf
    · have h1 := h.1
      split at h1
      · rename_i a b ha hb
        have q := ale0_ok hs hd h1
        rw [alI_ok, alI_ok] at q
        refine ⟨aval E a, aval E b, by dsimp only; rw [zget_map, ha]; rfl, by dsimp only; rw [zget_map, hb]; rfl, ?_⟩
        have z : alv E ([] : aLn) = 0 := rfl
        rw [z] at q
        dsimp only at q ⊢
        omega
      · cases h1
    · exact adsM_ok hs hd h.2 f hf
/-- entries that are there keep their numbers -/
theorem agv_ext {E q : List Int} {k : Nat} (h : k < E.length) : agv (E ++ q) k = agv E k := by
  obtain ⟨w, hw⟩ := zget_of_lt h
  rw [agv_eq hw, agv_eq (zget_app hw)]
theorem alv_ext {E q : List Int} : ∀ {l : aLn}, l.all (fun p => Nat.blt p.2 E.length) = true → alv (E ++ q) l = alv E l
  | [], _ => rfl
  | (c, k) :: r, h => by
    rw [List.all_cons, Bool.and_eq_true] at h
    have h1 : k < E.length := by
      have := h.1
      rw [Nat.blt_eq] at this
      exact this
    show c * agv (E ++ q) k + alv (E ++ q) r = c * agv E k + alv E r
    rw [agv_ext h1, alv_ext h.2]
/-- entries that are the difference of two numbers -/
abbrev aDf : Type := List (Nat × aI × aI)
def aDfs (E : List Int) (df : aDf) : Prop := ∀ f, f ∈ df → ∃ w a b, zget E f.1 = some w ∧ aIs E a f.2.1 ∧ aIs E b f.2.2 ∧ w = a - b
theorem aDfs_ext {E q : List Int} {df : aDf} (h : aDfs E df) : aDfs (E ++ q) df := by
  intro f hf
  obtain ⟨w, a, b, h1, h2, h3, h4⟩ := h f hf
  exact ⟨w, a, b, zget_app h1, aIs_ext h2, aIs_ext h3, h4⟩
def apr : aDf → aCs → Option aCs
  | [], cs => some cs
  | (k, a, b) :: r, cs => (match zget cs k with
    | some q => (match arf cs b ((abd cs a).1 - q.2, (abd cs a).2 - q.1) with
      | some c => apr r c
      | none => none)
    | none => apr r cs)
theorem apr_ok {E : List Int} : ∀ {df : aDf} {cs : aCs}, aSat E cs → aDfs E df → ∃ c, apr df cs = some c ∧ aSat E c
  | [], cs, hs, _ => ⟨cs, rfl, hs⟩
  | (k, a, b) :: r, cs, hs, hd => by
    have hr : aDfs E r := fun f hf => hd f (List.mem_cons_of_mem _ hf)
    obtain ⟨w, x, y, h1, h2, h3, h4⟩ := hd (k, a, b) List.mem_cons_self
    dsimp only at h1 h2 h3
    unfold apr
    cases hk : zget cs k with
    | none => exact apr_ok hs hr
    | some q =>
      dsimp only
      have bw := hs.2 k w q h1 hk
      have bx := abd_ok hs h2
      obtain ⟨c, e1, e2⟩ := arf_ok (q := ((abd cs a).1 - q.2, (abd cs a).2 - q.1)) hs h3 (by dsimp only; omega) (by dsimp only; omega)
      rw [e1]
      exact apr_ok e2 hr
/-- entries that are the quotient or the rest of a number by a known one -/
abbrev aDq : Type := List (Nat × Nat × aI × Int)
def aDqs (E : List Int) (dq : aDq) : Prop := ∀ f, f ∈ dq → ∃ w, ∃ x : Int32, zget E f.1 = some w ∧ aIs E x.toInt f.2.2.1 ∧ w = (zdv f.2.1 x (Int32.ofInt f.2.2.2)).toInt
theorem aDqs_ext {E q : List Int} {dq : aDq} (h : aDqs E dq) : aDqs (E ++ q) dq := by
  intro f hf
  obtain ⟨w, x, h1, h2, h3⟩ := h f hf
  exact ⟨w, x, zget_app h1, aIs_ext h2, h3⟩
theorem na_divb {z c u : Int} (hc : 0 < c) (hu : 0 ≤ u) (h : z.tdiv c ≤ u) : z ≤ u * c + c - 1 := by
  rcases Int.le_total 0 z with q | q
  · rw [Int.tdiv_eq_ediv_of_nonneg q] at h
    have h1 := Int.emod_add_mul_ediv z c
    have h2 := Int.emod_lt_of_pos z hc
    have h3 : c * (z / c) ≤ c * u := Int.mul_le_mul_of_nonneg_left h (Int.le_of_lt hc)
    rw [Int.mul_comm u c]
    omega
  · have h3 : 0 ≤ u * c := Int.mul_nonneg hu (Int.le_of_lt hc)
    omega
/-- the bounds of a quotient cut those of its number; a known number tells quotient and rest -/
def aprq : aDq → aCs → Option aCs
  | [], cs => some cs
  | (k, b, x, d) :: r, cs => bif decide ((abd cs x).1 = (abd cs x).2) then (match arf cs (.inl (k, 0)) ((zdv b (Int32.ofInt (abd cs x).1) (Int32.ofInt d)).toInt, (zdv b (Int32.ofInt (abd cs x).1) (Int32.ofInt d)).toInt) with
    | some c => aprq r c
    | none => none) else bif (Nat.beq b 0 && decide (0 < (Int32.ofInt d).toInt)) && decide (0 ≤ (abd cs (.inl (k, 0))).2) then (match arf cs x (-abig, (abd cs (.inl (k, 0))).2 * (Int32.ofInt d).toInt + (Int32.ofInt d).toInt - 1) with
    | some c => aprq r c
    | none => none) else aprq r cs
theorem aprq_ok {E : List Int} : ∀ {dq : aDq} {cs : aCs}, aSat E cs → aDqs E dq → ∃ c, aprq dq cs = some c ∧ aSat E c
  | [], cs, hs, _ => ⟨cs, rfl, hs⟩
  | (k, b, a, d) :: r, cs, hs, hd => by
    have hr : aDqs E r := fun f hf => hd f (List.mem_cons_of_mem _ hf)
    obtain ⟨w, x, h1, h2, h3⟩ := hd (k, b, a, d) List.mem_cons_self
    dsimp only at h1 h2 h3
    have hk : aIs E w (.inl (k, 0)) := ⟨w, h1, by omega⟩
    have bx := abd_ok hs h2
    unfold aprq
    cases hc : decide ((abd cs a).1 = (abd cs a).2)
    · dsimp only [cond_false]
      generalize hc2 : ((Nat.beq b 0 && decide (0 < (Int32.ofInt d).toInt)) && decide (0 ≤ (abd cs (.inl (k, 0))).2)) = c2
      cases c2 with
      | false => exact aprq_ok hs hr
      | true =>
        dsimp only [cond_true]
        rw [Bool.and_eq_true, Bool.and_eq_true, decide_eq_true_eq, decide_eq_true_eq] at hc2
        obtain ⟨⟨e1, e2⟩, e3⟩ := hc2
        have e1 := Nat.eq_of_beq_eq_true e1
        subst e1
        have bw := abd_ok hs hk
        have h3 : w = (x / Int32.ofInt d).toInt := h3
        rw [na_div e2] at h3
        have u := na_divb e2 e3 (z := x.toInt) (by omega)
        obtain ⟨c, g1, g2⟩ := arf_ok (q := (-abig, (abd cs (.inl (k, 0))).2 * (Int32.ofInt d).toInt + (Int32.ofInt d).toInt - 1)) hs h2 (abig_in32 x).1 u
        rw [g1]
        exact aprq_ok g2 hr
    · rw [decide_eq_true_eq] at hc
      dsimp only [cond_true]
      have ex : Int32.ofInt (abd cs a).1 = x := aof (by omega)
      rw [ex]
      obtain ⟨c, g1, g2⟩ := arf_ok (q := ((zdv b x (Int32.ofInt d)).toInt, (zdv b x (Int32.ofInt d)).toInt)) hs hk (by dsimp only; omega) (by dsimp only; omega)
      rw [g1]
      exact aprq_ok g2 hr
/-- facts that hang on the cells: elements of the row of longs (126), a stretch of it that holds numbers of roads; the entry that is the script's length -/
abbrev aDl : Type := List (aI × Nat)
abbrev aDr : Type := List (Int × aI)
/-- the entry that is the script's length; known elements of the script -/
abbrev aSc : Type := Option Nat × aDl
abbrev aHf : Type := aDl × aDr × aSc
def aDls (E : List Int) (g : Nat → Nat → Int64) (dl : aDl) : Prop := ∀ f, f ∈ dl → ∃ k : Nat, ∃ w, aIs E (k : Int) f.1 ∧ zget E f.2 = some w ∧ w = (g 126 k).toInt
def aDrs (E : List Int) (g : Nat → Nat → Int64) (dr : aDr) : Prop := ∀ f, f ∈ dr → ∃ z, aIs E z f.2 ∧ ∀ k : Nat, f.1 ≤ (k : Int) → (k : Int) < f.1 + z → 0 ≤ (g 126 k).toInt ∧ (g 126 k).toInt ≤ 11
def aSl0 (E : List Int) (g : List (Nat × Nat)) (sl : Option Nat) : Prop := ∀ k, sl = some k → ∃ n : Nat, zget g 0 = some (5, n) ∧ zget E k = some (n : Int) ∧ n ≤ 3072
def aSe (E : List Int) (f : Nat → Nat → Int32) (dl : aDl) : Prop := ∀ p, p ∈ dl → ∃ k : Nat, ∃ w, aIs E (k : Int) p.1 ∧ zget E p.2 = some w ∧ w = (f 0 k).toInt
def aSl (E : List Int) (h : zH) (sl : aSc) : Prop := aSl0 E h.1 sl.1 ∧ aSe E h.2.1 sl.2
def aHfs (E : List Int) (h : zH) (f : aHf) : Prop := aDls E h.2.2.1 f.1 ∧ aDrs E h.2.2.1 f.2.1 ∧ aSl E h f.2.2
theorem aDls_ext {E q : List Int} {g : Nat → Nat → Int64} {dl : aDl} (h : aDls E g dl) : aDls (E ++ q) g dl := by
  intro f hf
  obtain ⟨k, w, h1, h2, h3⟩ := h f hf
  exact ⟨k, w, aIs_ext h1, zget_app h2, h3⟩
theorem aDrs_ext {E q : List Int} {g : Nat → Nat → Int64} {dr : aDr} (h : aDrs E g dr) : aDrs (E ++ q) g dr := by
  intro f hf
  obtain ⟨z, h1, h2⟩ := h f hf
  exact ⟨z, aIs_ext h1, h2⟩
theorem aSl_ext {E q : List Int} {h : zH} {sl : aSc} (hs : aSl E h sl) : aSl (E ++ q) h sl := by
  refine ⟨fun k hk => ?_, fun p hp => ?_⟩
  · obtain ⟨n, h1, h2, h3⟩ := hs.1 k hk
    exact ⟨n, h1, zget_app h2, h3⟩
  · obtain ⟨k, w, h1, h2, h3⟩ := hs.2 p hp
    exact ⟨k, w, aIs_ext h1, zget_app h2, h3⟩
theorem aHfs_ext {E q : List Int} {h : zH} {f : aHf} (hf : aHfs E h f) : aHfs (E ++ q) h f := ⟨aDls_ext hf.1, aDrs_ext hf.2.1, aSl_ext hf.2.2⟩
theorem aSl_same {E : List Int} {h h' : zH} {sl : aSc} (hs : aSl E h sl) (e1 : h'.1 = h.1) (e3 : ∀ k, h'.2.1 0 k = h.2.1 0 k) : aSl E h' sl := by
  refine ⟨by rw [e1]; exact hs.1, fun p hp => ?_⟩
  obtain ⟨k, w, h1, h2, h3⟩ := hs.2 p hp
  exact ⟨k, w, h1, h2, by rw [e3]; exact h3⟩
theorem aHfs_same {E : List Int} {h h' : zH} {f : aHf} (hf : aHfs E h f) (e1 : h'.1 = h.1) (e2 : h'.2.2.1 = h.2.2.1) (e3 : ∀ k, h'.2.1 0 k = h.2.1 0 k) : aHfs E h' f := by
  refine ⟨?_, ?_, aSl_same hf.2.2 e1 e3⟩
  · rw [e2]
    exact hf.1
  · rw [e2]
    exact hf.2.1
theorem aHfs_drop {E : List Int} {h h' : zH} {f : aHf} (hf : aHfs E h f) (e1 : h'.1 = h.1) (e3 : ∀ k, h'.2.1 0 k = h.2.1 0 k) : aHfs E h' ([], [], f.2.2) := ⟨fun f hf => (by cases hf), fun f hf => (by cases hf), aSl_same hf.2.2 e1 e3⟩
/-! FRAMES: a run with callers that wait; their numbers by bounds. -/
abbrev zFm : Type := Nat × Nat × List (Option Value) × List Value
def zTS : Nat → List zFm → Nat → zC → (Option Value → zH → Prop) → Prop
  | d, [], mi, x, P => zT d mi x P
  | d, (mi', pc', lo', st') :: fs, mi, x, P => zT d mi x (fun r h1 => zTS (d + 1) fs mi' (pc', lo', r.toList ++ st', h1) P)
section TS
variable {d mi a : Nat} {x y : zC} {e : zI} {P Q : Option Value → zH → Prop} {fs : List zFm}
theorem zTS_step (hi : zi mi x.1 = some e) (hs : zstep e x = some (.inl y)) (h : zTS d fs mi y P) : zTS d fs mi x P := by
  match fs, h with
  | [], h => exact zT_step hi hs h
  | (mi', pc', lo', st') :: fs, h => exact zT_step (P := fun r h1 => zTS (d + 1) fs mi' (pc', lo', r.toList ++ st', h1) P) hi hs h
theorem zTS_ret {r : Option Value} {mi' pc' : Nat} {lo' : List (Option Value)} {st' : List Value} (hi : zi mi x.1 = some e) (hs : zstep e x = some (.inr (.inr r))) (h : zTS (d + 1) fs mi' (pc', lo', r.toList ++ st', x.2.2.2) P) : zTS d ((mi', pc', lo', st') :: fs) mi x P := zT_ret (P := fun r h1 => zTS (d + 1) fs mi' (pc', lo', r.toList ++ st', h1) P) hi hs h
theorem zTS_push {as : List Value} (hi : zi mi x.1 = some e) (hs : zstep e x = some (.inr (.inl (a, as, y)))) (hl : (zpad (zL a) (zargs as)).length = zL a) (h : zTS d ((mi, y.1, y.2.1, y.2.2.1) :: fs) a (0, zpad (zL a) (zargs as), [], x.2.2.2) P) : zTS (d + 1) fs mi x P := by
  match fs, h with
  | [], h => exact zT_call hi hs hl h (fun r h1 hq => hq)
  | (mi', pc', lo', st') :: fs, h => exact zT_call (P := fun r h1 => zTS (d + 1 + 1) fs mi' (pc', lo', r.toList ++ st', h1) P) hi hs hl h (fun r h1 hq => hq)
theorem zTS_call {as : List Value} (hi : zi mi x.1 = some e) (hs : zstep e x = some (.inr (.inl (a, as, y)))) (hl : (zpad (zL a) (zargs as)).length = zL a) (hc : zT d a (0, zpad (zL a) (zargs as), [], x.2.2.2) Q) (hk : ∀ r h1, Q r h1 → zTS (d + 1) fs mi (y.1, y.2.1, r.toList ++ y.2.2.1, h1) P) : zTS (d + 1) fs mi x P := by
  match fs, hk with
  | [], hk => exact zT_call hi hs hl hc hk
  | (mi', pc', lo', st') :: fs, hk => exact zT_call (P := fun r h1 => zTS (d + 1 + 1) fs mi' (pc', lo', r.toList ++ st', h1) P) hi hs hl hc hk
end TS
/-- locals one by one -/
def aLr (E : List Int) : List (Option Value) → List (Option aV) → Prop
  | [], [] => True
  | _ :: r, none :: s => aLr E r s
  | some v :: r, some a :: s => aVs E v a ∧ aLr E r s
  | _, _ => False
theorem aLr_lo {E : List Int} : ∀ {lo : List (Option Value)} {al : List (Option aV)}, aLr E lo al → aLo E lo al
  | [], [], _ => ⟨rfl, fun _ _ h => by cases h⟩
  | [], none :: _, h => h.elim
  | [], some _ :: _, h => h.elim
  | _ :: _, [], h => by
    unfold aLr at h
    exact h.elim
  | v :: r, none :: s, h => by
    have h : aLr E r s := by
      unfold aLr at h
      exact h
    obtain ⟨g1, g2⟩ := aLr_lo h
    refine ⟨congrArg Nat.succ g1, fun i a ha => ?_⟩
    match i, ha with
    | 0, ha => cases ha
    | i + 1, ha => exact g2 i a ha
  | none :: r, some a :: s, h => by
    unfold aLr at h
    exact h.elim
  | some v :: r, some a :: s, h => by
    have h : aVs E v a ∧ aLr E r s := h
    obtain ⟨g1, g2⟩ := aLr_lo h.2
    refine ⟨congrArg Nat.succ g1, fun i b hb => ?_⟩
    match i, hb with
    | 0, hb =>
      cases hb
      exact ⟨v, rfl, h.1⟩
    | i + 1, hb => exact g2 i b hb
def aargs : List aV → List (Option aV)
  | [] => []
  | v :: r => bif aisL v then some v :: none :: aargs r else some v :: aargs r
def apad : Nat → List (Option aV) → List (Option aV)
  | 0, l => l
  | n + 1, [] => none :: apad n []
  | n + 1, a :: l => a :: apad n l
theorem aargs_ok {E : List Int} : ∀ {us : List Value} {xs : List aV}, aSt E us xs → aLr E (zargs us) (aargs xs)
  | [], [], _ => trivial
  | [], _ :: _, h => h.elim
  | _ :: _, [], h => h.elim
  | v :: r, a :: s, h => by
    unfold zargs aargs
    rw [aisL_ok h.1]
    cases aisL a
    · exact ⟨h.1, aargs_ok h.2⟩
    · exact ⟨h.1, aargs_ok h.2⟩
theorem apad_ok {E : List Int} : ∀ {n : Nat} {lo : List (Option Value)} {al : List (Option aV)}, aLr E lo al → aLr E (zpad n lo) (apad n al)
  | 0, _, _, h => h
  | n + 1, [], [], h => apad_ok (n := n) (lo := []) (al := []) h
  | n + 1, [], none :: _, h => h.elim
  | n + 1, [], some _ :: _, h => h.elim
  | n + 1, none :: _, [], h => by
    unfold aLr at h
    exact h.elim
  | n + 1, some _ :: _, [], h => by
    unfold aLr at h
    exact h.elim
  | n + 1, none :: r, none :: s, h => apad_ok (n := n) (lo := r) (al := s) h
  | n + 1, some v :: r, none :: s, h => apad_ok (n := n) (lo := r) (al := s) h
  | n + 1, none :: r, some a :: s, h => by
    unfold aLr at h
    exact h.elim
  | n + 1, some v :: r, some a :: s, h => ⟨h.1, apad_ok h.2⟩
abbrev aFm : Type := Nat × Nat × List (Option aV) × List aV
def aFs (E : List Int) : List zFm → List aFm → Prop
  | [], [] => True
  | f :: fs, g :: gs => (f.1 = g.1 ∧ f.2.1 = g.2.1 ∧ aLo E f.2.2.1 g.2.2.1 ∧ aSt E f.2.2.2 g.2.2.2) ∧ aFs E fs gs
  | _, _ => False
theorem aFs_ext {E q : List Int} : ∀ {fs : List zFm} {gs : List aFm}, aFs E fs gs → aFs (E ++ q) fs gs
  | [], [], _ => trivial
  | [], _ :: _, h => h.elim
  | _ :: _, [], h => h.elim
  | _ :: _, _ :: _, h => ⟨⟨h.1.1, h.1.2.1, aLo_ext h.1.2.2.1, aSt_ext h.1.2.2.2⟩, aFs_ext h.2⟩
/-- a number whose bounds are one is that -/
def an1 (cs : aCs) : aV → aV
  | .inl (.inl (.inl (k, o))) => (match zget cs k with
    | some q => bif ieq q.1 q.2 then .inl (.inl (.inr (q.1 + o))) else .inl (.inl (.inl (k, o)))
    | none => .inl (.inl (.inl (k, o))))
  | v => v
theorem an1_ok {E : List Int} {cs : aCs} {v : Value} {a : aV} (hs : aSat E cs) (h : aVs E v a) : aVs E v (an1 cs a) := by
  match a, h with
  | .inl (.inl (.inl (k, o))), h =>
    unfold an1
    dsimp only
    cases hk : zget cs k with
    | none => exact h
    | some q =>
      dsimp only
      cases hc : ieq q.1 q.2
      · exact h
      · rw [ieq_eq] at hc
        obtain ⟨x, e, w, h1, h2⟩ := h
        have b := hs.2 k w q h1 hk
        exact ⟨x, e, show x.toInt = q.1 + o by omega⟩
  | .inl (.inl (.inr n)), h => exact h
  | .inl (.inr l), h => exact h
  | .inr l, h => exact h
theorem anS_ok {E : List Int} {cs : aCs} (hs : aSat E cs) : ∀ {st : List Value} {as : List aV}, aSt E st as → aSt E st (as.map (an1 cs))
  | [], [], _ => trivial
  | [], _ :: _, h => h.elim
  | _ :: _, [], h => h.elim
  | _ :: _, _ :: _, h => ⟨an1_ok hs h.1, anS_ok hs h.2⟩
def anrm (X : aX) : aX := (X.1, X.2.1, X.2.2.1, X.2.2.2.1, X.2.2.2.2.map (an1 X.1))
theorem anrm_ok {S : Nat → Option (Nat × Nat)} {rf : Nat → Nat → List Nat} {iv : Nat → Nat → Int × Int} {E : List Int} {X : aX} {x : zC} (R : aRel S rf iv E X x) : aRel S rf iv E (anrm X) x := ⟨R.1, R.2.1, R.2.2.1, anS_ok R.1 R.2.2.2.1, R.2.2.2.2⟩
/-- a local is split: an int by its numbers within two ends, a reference by its cells -/
def asp2 (X : aX) (a : aI) (l h : Int) (w : Nat) : List aX := aopt (fun c => (c, X.2)) (arf X.1 a (-abig, l - 1)) ++ (aopt (fun c => (c, X.2)) (arf X.1 a (h + 1, abig)) ++ (List.range ((h - l).toNat / (w + 1) + 1)).flatMap (fun (n : Nat) => aopt (fun c => (c, X.2)) (arf X.1 a (l + ((n * (w + 1) : Nat) : Int), l + ((n * (w + 1) + w : Nat) : Int)))))
def aspl (X : aX) (p : Nat × Int × Int × Nat) : List aX := match zget X.2.2.2.1 p.1 with
  | some (some (.inl (.inl a))) => asp2 X a (imax p.2.1 (abd X.1 a).1) (imin p.2.2.1 (abd X.1 a).2) p.2.2.2
  | some (some (.inr l)) => l.map (fun o => (X.1, X.2.1, X.2.2.1, zput X.2.2.2.1 p.1 (some (.inr [o])), X.2.2.2.2))
  | _ => [X]
theorem asp2_ok {S : Nat → Option (Nat × Nat)} {rf : Nat → Nat → List Nat} {iv : Nat → Nat → Int × Int} {E : List Int} {X : aX} {x : zC} {a : aI} {y : Int32} {l h : Int} {w : Nat} (R : aRel S rf iv E X x) (h2 : aIs E y.toInt a) : ∃ Z, Z ∈ asp2 X a l h w ∧ aRel S rf iv E Z x := by
  have bg := abig_in32 y
  unfold asp2
  by_cases c1 : y.toInt ≤ l - 1
  · obtain ⟨c, e1, e2⟩ := arf_ok (q := (-abig, l - 1)) R.1 h2 bg.1 c1
    exact ⟨(c, X.2), List.mem_append_left _ (aopt_in e1), e2, R.2⟩
  · by_cases c2 : h + 1 ≤ y.toInt
    · obtain ⟨c, e1, e2⟩ := arf_ok (q := (h + 1, abig)) R.1 h2 c2 bg.2
      exact ⟨(c, X.2), List.mem_append_right _ (List.mem_append_left _ (aopt_in e1)), e2, R.2⟩
    · have e : l + ((y.toInt - l).toNat : Int) = y.toInt := by omega
      have d1 := Nat.div_mul_le_self (y.toInt - l).toNat (w + 1)
      have d2 := Nat.lt_div_mul_add (a := (y.toInt - l).toNat) (b := w + 1) (Nat.succ_pos w)
      have d3 : (y.toInt - l).toNat / (w + 1) ≤ (h - l).toNat / (w + 1) := Nat.div_le_div_right (by omega)
      generalize hn : (y.toInt - l).toNat / (w + 1) = n at d1 d2 d3
      obtain ⟨c, e1, e2⟩ := arf_ok (q := (l + ((n * (w + 1) : Nat) : Int), l + ((n * (w + 1) + w : Nat) : Int))) R.1 h2 (by dsimp only; omega) (by dsimp only; omega)
      exact ⟨(c, X.2), List.mem_append_right _ (List.mem_append_right _ (List.mem_flatMap.mpr ⟨n, List.mem_range.mpr (by omega), aopt_in e1⟩)), e2, R.2⟩
theorem aspl_ok {S : Nat → Option (Nat × Nat)} {rf : Nat → Nat → List Nat} {iv : Nat → Nat → Int × Int} {E : List Int} {X : aX} {x : zC} {p : Nat × Int × Int × Nat} (R : aRel S rf iv E X x) : ∃ Z, Z ∈ aspl X p ∧ aRel S rf iv E Z x := by
  unfold aspl
  split
  · rename_i a ha
    obtain ⟨v, h1, y, rfl, h2⟩ := R.2.2.1.2 p.1 _ ha
    exact asp2_ok R h2
  · rename_i l hl
    obtain ⟨v, h1, o, rfl, ho⟩ := R.2.2.1.2 p.1 _ hl
    refine ⟨_, List.mem_map.mpr ⟨o, ho, rfl⟩, R.1, R.2.1, ⟨by dsimp only; rw [zput_length]; exact R.2.2.1.1, fun j b hb => ?_⟩, R.2.2.2⟩
    dsimp only at hb
    by_cases hj : j = p.1
    · subst hj
      have hlt := zget_lt hl
      rw [zget_put_eq _ _ _ hlt] at hb
      cases hb
      exact ⟨.ref o, h1, o, rfl, List.mem_singleton.mpr rfl⟩
    · rw [zget_put_ne _ _ _ _ hj] at hb
      exact R.2.2.1.2 j b hb
  · exact ⟨X, List.mem_singleton.mpr rfl, R⟩
/-! CONTRACTS: what a method is called with, what it gives back, what it may write. -/
abbrev aW : Type := List (Nat × Nat) × List Nat
def awp : List (Nat × Nat) → Nat → Nat → Bool
  | [], _, _ => false
  | (o, k) :: r, o', k' => (Nat.beq o o' && Nat.beq k k') || awp r o' k'
def awe : List Nat → Nat → Bool
  | [], _ => false
  | o :: r, o' => Nat.beq o o' || awe r o'
def aWA (W : aW) (o : Nat) : Bool := !Nat.beq o 0 && awe W.2 o
/-- what may be written; the script never -/
def aWf (W : aW) (o k : Nat) : Bool := !Nat.beq o 0 && (awe W.2 o || awp W.1 o k)
theorem aWf_0 {W : aW} {k : Nat} : aWf W 0 k = false := rfl
theorem aW_all {W : aW} : ∀ o k, aWA W o = true → aWf W o k = true := by
  intro o k h
  unfold aWA at h
  rw [Bool.and_eq_true] at h
  unfold aWf
  rw [h.1, h.2]
  rfl
theorem awe_mem : ∀ {l : List Nat} {o : Nat}, awe l o = true → o ∈ l
  | [], _, h => by cases h
  | o1 :: r, o, h => by
    unfold awe at h
    rw [Bool.or_eq_true] at h
    rcases h with h | h
    · rw [Nat.eq_of_beq_eq_true h]
      exact List.mem_cons_self
    · exact List.mem_cons_of_mem _ (awe_mem h)
theorem awp_mem : ∀ {l : List (Nat × Nat)} {o k : Nat}, awp l o k = true → (o, k) ∈ l
  | [], _, _, h => by cases h
  | (o1, k1) :: r, o, k, h => by
    unfold awp at h
    rw [Bool.or_eq_true, Bool.and_eq_true] at h
    rcases h with h | h
    · rw [Nat.eq_of_beq_eq_true h.1, Nat.eq_of_beq_eq_true h.2]
      exact List.mem_cons_self
    · exact List.mem_cons_of_mem _ (awp_mem h)
theorem awe_in : ∀ {l : List Nat} {o : Nat}, o ∈ l → awe l o = true
  | [], _, h => by cases h
  | o1 :: r, o, h => by
    unfold awe
    rcases List.mem_cons.mp h with rfl | h
    · rw [Nat.beq_refl]
      rfl
    · rw [awe_in h, Bool.or_true]
theorem awp_in : ∀ {l : List (Nat × Nat)} {o k : Nat}, (o, k) ∈ l → awp l o k = true
  | [], _, _, h => by cases h
  | (o1, k1) :: r, o, k, h => by
    unfold awp
    rcases List.mem_cons.mp h with h | h
    · cases h
      rw [Nat.beq_refl, Nat.beq_refl]
      rfl
    · rw [awp_in h, Bool.or_true]
def awsub (V W : aW) : Bool := V.2.all (aWA W) && V.1.all (fun p => aWf W p.1 p.2)
theorem awsub_ok {V W : aW} {o k : Nat} (h : awsub V W = true) (hv : aWf V o k = true) : aWf W o k = true := by
  unfold awsub at h
  rw [Bool.and_eq_true] at h
  unfold aWf at hv
  rw [Bool.and_eq_true, Bool.or_eq_true] at hv
  rcases hv.2 with hv | hv
  · exact aW_all o k (List.all_eq_true.mp h.1 o (awe_mem hv))
  · exact List.all_eq_true.mp h.2 (o, k) (awp_mem hv)
theorem aFr_sub {V W : aW} {h h' : zH} (hs : awsub V W = true) (hf : aFr (aWf V) h h') : aFr (aWf W) h h' := by
  have key : ∀ o k, aWf W o k = false → aWf V o k = false := by
    intro o k hw
    cases hv : aWf V o k
    · rfl
    · rw [awsub_ok hs hv] at hw
      cases hw
  exact ⟨fun o k hw => hf.1 o k (key o k hw), fun hw => hf.2.1 (key _ _ hw), hf.2.2⟩
theorem aFr_trans {W : Nat → Nat → Bool} {h h1 h2 : zH} (a : aFr W h h1) (b : aFr W h1 h2) : aFr W h h2 := ⟨fun o k hw => (b.1 o k hw).trans (a.1 o k hw), fun hw => (b.2.1 hw).trans (a.2.1 hw), b.2.2.trans a.2.2⟩
theorem aFr_refl {W : Nat → Nat → Bool} {h : zH} : aFr W h h := ⟨fun _ _ _ => rfl, fun _ => rfl, rfl⟩
/-- what holds of the cells besides bounds: it hangs on some places alone, which only methods with a proof of their own write -/
def aJJ : aW := ([(102, 4), (102, 5)], [104, 105, 106])
def aJ (h : zH) : Prop := (h.2.1 102 5).toInt ≤ (h.2.1 102 4).toInt ∧ ∀ k, k < 40 → 60 ≤ (h.2.1 104 k).toInt → (h.2.1 104 k).toInt ≤ 67 → (h.2.1 105 k).toInt ≤ 5 ∧ (h.2.1 106 k).toInt ≤ 5
theorem aJ_same {h h' : zH} (hj : aJ h) (e : ∀ o k, aWf aJJ o k = true → h'.2.1 o k = h.2.1 o k) : aJ h' := by
  unfold aJ at hj ⊢
  rw [e 102 5 rfl, e 102 4 rfl]
  refine ⟨hj.1, fun k hk => ?_⟩
  rw [e 104 k rfl, e 105 k rfl, e 106 k rfl]
  exact hj.2 k hk
/-- the plain writes of a method -/
def awn (W : aW) : aW := (W.1.filter (fun p => !aWf aJJ p.1 p.2), W.2.filter (fun o => !(awe [102, 104, 105, 106] o)))
theorem awn_sub {W : aW} {o k : Nat} (h : aWf (awn W) o k = true) : aWf W o k = true := by
  unfold aWf awn at h
  dsimp only at h
  rw [Bool.and_eq_true, Bool.or_eq_true] at h
  unfold aWf
  rw [h.1]
  rcases h.2 with h | h
  · rw [awe_in (List.mem_filter.mp (awe_mem h)).1]
    rfl
  · rw [awp_in (List.mem_filter.mp (awp_mem h)).1, Bool.or_true]
    rfl
theorem awn_J {W : aW} {o k : Nat} (h : aWf aJJ o k = true) : aWf (awn W) o k = false := by
  cases hb : aWf (awn W) o k
  · rfl
  · exfalso
    have hJ := h
    unfold aWf awn at hb
    dsimp only at hb
    rw [Bool.and_eq_true, Bool.or_eq_true] at hb
    rcases hb.2 with hb | hb
    · have q := (List.mem_filter.mp (awe_mem hb)).2
      have hc : awe [102, 104, 105, 106] o = true := by
        unfold aWf aJJ at h
        dsimp only at h
        rw [Bool.and_eq_true, Bool.or_eq_true] at h
        rcases h.2 with h | h
        · exact awe_in (List.mem_cons_of_mem _ (awe_mem h))
        · rcases List.mem_cons.mp (awp_mem h) with e | e
          · cases e; rfl
          · cases List.mem_singleton.mp e; rfl
      rw [hc] at q
      cases q
    · have q := (List.mem_filter.mp (awp_mem hb)).2
      dsimp only at q
      rw [hJ] at q
      cases q
theorem aJ_fr {W : aW} {h h' : zH} (hj : aJ h) (hf : aFr (aWf (awn W)) h h') : aJ h' := aJ_same hj (fun o k hk => hf.1 o k (awn_J hk))
theorem aFr_n {W : aW} {h h' : zH} (hf : aFr (aWf (awn W)) h h') : aFr (aWf W) h h' := by
  have key : ∀ o k, aWf W o k = false → aWf (awn W) o k = false := by
    intro o k hw
    cases hv : aWf (awn W) o k
    · rfl
    · rw [awn_sub hv] at hw
      cases hw
  exact ⟨fun o k hw => hf.1 o k (key o k hw), fun hw => hf.2.1 (key _ _ hw), hf.2.2⟩
/-- method, depth, annotation and differences at its start, what holds behind it (bounds of new entries, contents, result, differences), what is written -/
abbrev aE : Type := Nat × Nat × aX × (aD × Option Nat) × (aCs × aT × Option aV × (aD × aDr)) × aW
def aPost (S : Nat → Option (Nat × Nat)) (rf : Nat → Nat → List Nat) (B : aB) (e : aE) (E0 : List Int) (h0 : zH) (r : Option Value) (h1 : zH) : Prop := ∃ q, aSat q e.2.2.2.2.1.1 ∧ aRet (E0 ++ q) r e.2.2.2.2.1.2.2.1 ∧ aHp S rf (aiv B) (E0 ++ q) e.2.2.2.2.1.2.1 h1 ∧ aDs (E0 ++ q) e.2.2.2.2.1.2.2.2.1 ∧ aDrs (E0 ++ q) h1.2.2.1 e.2.2.2.2.1.2.2.2.2 ∧ aFr (aWf e.2.2.2.2.2) h0 h1 ∧ aJ h1
def aOK (S : Nat → Option (Nat × Nat)) (rf : Nat → Nat → List Nat) (B : aB) (e : aE) : Prop := ∀ E x, aRel S rf (aiv B) E e.2.2.1 x → aDs E e.2.2.2.1.1 → aSl0 E x.2.2.2.1 e.2.2.2.1.2 → aJ x.2.2.2 → zT e.2.1 e.1 x (aPost S rf B e E x.2.2.2)
/-- a number behind a call, in the caller's entries -/
def atr (sg : List aI) (n : Nat) (a : aI) : aI := match a with
  | .inl (k, o) => (match zget sg k with
    | some s => aoff o s
    | none => .inl (n + (k - sg.length), o))
  | .inr c => .inr c
theorem aoff_ok {E : List Int} {w o : Int} {s : aI} (h : aIs E w s) : aIs E (w + o) (aoff o s) := by
  match s, h with
  | .inl (k, o1), h =>
    obtain ⟨u, h1, h2⟩ := h
    exact ⟨u, h1, by omega⟩
  | .inr n, h =>
    have h : w = n := h
    show w + o = n + o
    omega
theorem zget_right {α : Type} : ∀ {l q : List α} {k : Nat}, zget l k = none → zget (l ++ q) k = zget q (k - l.length)
  | [], _, k, _ => rfl
  | a :: l, q, 0, h => by cases h
  | a :: l, q, k + 1, h => by
    show zget (l ++ q) k = zget q (k + 1 - (l.length + 1))
    rw [zget_right (l := l) h, Nat.add_sub_add_right]
theorem zget_plus {α : Type} : ∀ {l q : List α} {k : Nat}, zget (l ++ q) (l.length + k) = zget q k
  | [], q, k => by
    rw [show ([] : List α).length + k = k from Nat.zero_add k]
    rfl
  | a :: l, q, k => by
    rw [show (a :: l).length + k = (l.length + k) + 1 by simp; omega]
    exact zget_plus (l := l)
theorem atr_ok {E q : List Int} {cs : aCs} {sg : List aI} {z : Int} {a : aI} (hs : aSat E cs) (hk : sg.all (aok cs) = true) (h : aIs (sg.map (aval E) ++ q) z a) : aIs (E ++ q) z (atr sg cs.length a) := by
  match a, h with
  | .inr c, h => exact h
  | .inl (k, o), h =>
    obtain ⟨w, h1, h2⟩ := h
    unfold atr
    dsimp only
    cases hg : zget sg k with
    | some s =>
      dsimp only
      have e : zget (sg.map (aval E)) k = some (aval E s) := by rw [zget_map, hg]; rfl
      rw [zget_app e] at h1
      cases h1
      rw [h2]
      refine aIs_ext (aoff_ok (aok_ok hs (List.all_eq_true.mp hk s ?_)))
      exact zget_mem hg
    | none =>
      dsimp only
      have e : zget (sg.map (aval E)) k = none := by rw [zget_map, hg]; rfl
      rw [zget_right e, List.length_map] at h1
      exact ⟨w, by rw [← hs.1, zget_plus]; exact h1, h2⟩
def atrV (sg : List aI) (n : Nat) : aV → aV
  | .inl (.inl a) => .inl (.inl (atr sg n a))
  | .inl (.inr a) => .inl (.inr (atr sg n a))
  | .inr l => .inr l
theorem atrV_ok {E q : List Int} {cs : aCs} {sg : List aI} {v : Value} {a : aV} (hs : aSat E cs) (hk : sg.all (aok cs) = true) (h : aVs (sg.map (aval E) ++ q) v a) : aVs (E ++ q) v (atrV sg cs.length a) := by
  match a, h with
  | .inl (.inl a), ⟨x, e, h⟩ => exact ⟨x, e, atr_ok hs hk h⟩
  | .inl (.inr a), ⟨x, e, h⟩ => exact ⟨x, e, atr_ok hs hk h⟩
  | .inr l, h => exact h
def atrT (sg : List aI) (n : Nat) : aT → aT → aT
  | [], T => T
  | (o, k, a) :: r, T => (o, k, atr sg n a) :: atrT sg n r T
theorem atrT_ok {sg : List aI} {n : Nat} {T : aT} : ∀ {A : aT} {o k : Nat} {b : aI}, afind (atrT sg n A T) o k = some b → (∃ a, afind A o k = some a ∧ b = atr sg n a) ∨ afind T o k = some b
  | [], o, k, b, h => Or.inr h
  | (o1, k1, a1) :: r, o, k, b, h => by
    have h : (bif Nat.beq o1 o && Nat.beq k1 k then some (atr sg n a1) else afind (atrT sg n r T) o k) = some b := h
    rw [show afind ((o1, k1, a1) :: r) o k = (bif Nat.beq o1 o && Nat.beq k1 k then some a1 else afind r o k) from rfl]
    cases hb : (Nat.beq o1 o && Nat.beq k1 k)
    · rw [hb] at h
      exact atrT_ok h
    · rw [hb] at h
      cases h
      exact Or.inl ⟨a1, rfl, rfl⟩
/-- what is listed of places that are not written -/
def atf (W : aW) : aT → aT
  | [] => []
  | (o, k, v) :: r => bif aWf W o k then atf W r else (o, k, v) :: atf W r
theorem atf_ok {W : aW} : ∀ {T : aT} {o k : Nat} {a : aI}, afind (atf W T) o k = some a → afind T o k = some a ∧ aWf W o k = false
  | [], _, _, _, h => by cases h
  | (o1, k1, v1) :: r, o, k, a, h => by
    unfold atf at h
    cases hb : aWf W o1 k1
    · rw [hb] at h
      dsimp only [cond_false] at h
      unfold afind at h ⊢
      cases hq : (Nat.beq o1 o && Nat.beq k1 k)
      · rw [hq] at h
        exact atf_ok h
      · rw [hq] at h
        rw [Bool.and_eq_true] at hq
        have e1 := Nat.eq_of_beq_eq_true hq.1
        have e2 := Nat.eq_of_beq_eq_true hq.2
        subst e1
        subst e2
        exact ⟨h, hb⟩
    · rw [hb] at h
      dsimp only [cond_true] at h
      obtain ⟨g1, g2⟩ := atf_ok h
      refine ⟨?_, g2⟩
      unfold afind
      cases hq : (Nat.beq o1 o && Nat.beq k1 k)
      · exact g1
      · rw [Bool.and_eq_true] at hq
        have e1 := Nat.eq_of_beq_eq_true hq.1
        have e2 := Nat.eq_of_beq_eq_true hq.2
        subst e1
        subst e2
        rw [hb] at g2
        cases g2
def atrD (sg : List aI) (n : Nat) : aD → aD → aD
  | [], ds => ds
  | (k, j, c) :: r, ds => (match atr sg n (.inl (k, 0)), atr sg n (.inl (j, 0)) with
    | .inl (k', o1), .inl (j', o2) => (k', j', c + o2 - o1) :: atrD sg n r ds
    | _, _ => atrD sg n r ds)
theorem atrD_ok {E q : List Int} {cs : aCs} {sg : List aI} {ds : aD} (hs : aSat E cs) (hk : sg.all (aok cs) = true) (hd : aDs E ds) : ∀ {dP : aD}, aDs (sg.map (aval E) ++ q) dP → aDs (E ++ q) (atrD sg cs.length dP ds)
  | [], _ => aDs_ext hd
  | (k, j, c) :: r, h => by
    have hr : aDs (sg.map (aval E) ++ q) r := fun f hf => h f (List.mem_cons_of_mem _ hf)
    obtain ⟨w, v, h1, h2, h3⟩ := h (k, j, c) List.mem_cons_self
    have a1 := atr_ok (q := q) (z := w) (a := .inl (k, 0)) hs hk ⟨w, h1, by omega⟩
    have a2 := atr_ok (q := q) (z := v) (a := .inl (j, 0)) hs hk ⟨v, h2, by omega⟩
    have i := atrD_ok hs hk hd hr
    unfold atrD
    split
    · rename_i k' o1 j' o2 e1 e2
      rw [e1] at a1
      rw [e2] at a2
      obtain ⟨w1, g1, g2⟩ := a1
      obtain ⟨w2, g3, g4⟩ := a2
      intro f hf
      rcases List.mem_cons.mp hf with rfl | hf
      · exact ⟨w1, w2, g1, g3, by dsimp only at h3 ⊢; omega⟩
      · exact i f hf
    · exact i
theorem aSat_app {E q : List Int} {cs cq : aCs} (h : aSat E cs) (g : aSat q cq) : aSat (E ++ q) (cs ++ cq) := by
  refine ⟨by rw [List.length_append, List.length_append, h.1, g.1], fun k w p h1 h2 => ?_⟩
  cases he : zget E k with
  | some w' =>
    rw [zget_app he] at h1
    cases h1
    have hl := zget_lt he
    rw [h.1] at hl
    obtain ⟨p', hp⟩ := zget_of_lt hl
    rw [zget_app hp] at h2
    cases h2
    exact h.2 k w p he hp
  | none =>
    rw [zget_right he] at h1
    have hc : zget cs k = none := by
      cases hc : zget cs k with
      | none => rfl
      | some p' =>
        have hl := zget_lt hc
        rw [← h.1] at hl
        obtain ⟨w', hw⟩ := zget_of_lt hl
        rw [he] at hw
        cases hw
    rw [zget_right hc, ← h.1] at h2
    exact g.2 _ w p h1 h2
theorem amB_all {cs : aCs} : ∀ {A : aCs} {sg : List aI}, amB cs A sg = true → sg.all (aok cs) = true
  | [], [], _ => rfl
  | [], _ :: _, h => by cases h
  | _ :: _, [], h => by cases h
  | q1 :: r, s :: sg, h => by
    unfold amB at h
    rw [Bool.and_eq_true, Bool.and_eq_true] at h
    rw [List.all_cons, h.1.1, amB_all h.2]
    rfl
theorem ameet_all {sg : List aI} {A X : aX} (h : ameet sg A X = true) : sg.all (aok X.1) = true := by
  unfold ameet at h
  rw [Bool.and_eq_true, Bool.and_eq_true] at h
  exact amB_all h.1.1
def atrR (sg : List aI) (n : Nat) : aDr → aDr → aDr
  | [], dr => dr
  | (lo, a) :: r, dr => (lo, atr sg n a) :: atrR sg n r dr
theorem atrR_ok {E q : List Int} {cs : aCs} {sg : List aI} {dr : aDr} {g : Nat → Nat → Int64} (hs : aSat E cs) (hk : sg.all (aok cs) = true) (hd : aDrs (E ++ q) g dr) : ∀ {dP : aDr}, aDrs (sg.map (aval E) ++ q) g dP → aDrs (E ++ q) g (atrR sg cs.length dP dr)
  | [], _ => hd
  | (lo, a) :: r, h => by
    have hr : aDrs (sg.map (aval E) ++ q) g r := fun f hf => h f (List.mem_cons_of_mem _ hf)
    intro f hf
    rcases List.mem_cons.mp hf with rfl | hf
    · obtain ⟨z, h1, h2⟩ := h (lo, a) List.mem_cons_self
      exact ⟨z, atr_ok hs hk h1, h2⟩
    · exact atrR_ok hs hk hd hr f hf
/-- a call by a contract: the caller's state behind it -/
def acall2 (e : aE) (Wl : aW) (d : Nat) (Z X1 : aX) (ds : aD) (hf : aHf) (sg : List aI) : Option (aX × aD × aHf) := bif ((ameet sg e.2.2.1 X1 && adsM sg Z.1 ds e.2.2.2.1.1) && e.2.2.2.1.2.isNone) && (Nat.ble e.2.1 d && (awsub e.2.2.2.2.2 Wl && Nat.beq X1.2.2.2.1.length (zL e.1))) then some ((Z.1 ++ e.2.2.2.2.1.1, atrT sg Z.1.length e.2.2.2.2.1.2.1 (atf e.2.2.2.2.2 Z.2.1), Z.2.2.1, Z.2.2.2.1, (e.2.2.2.2.1.2.2.1.map (atrV sg Z.1.length)).toList ++ Z.2.2.2.2), atrD sg Z.1.length e.2.2.2.2.1.2.2.2.1 ds, bif aWf e.2.2.2.2.2 1000 0 then ([], atrR sg Z.1.length e.2.2.2.2.1.2.2.2.2 [], hf.2.2) else (hf.1, atrR sg Z.1.length e.2.2.2.2.1.2.2.2.2 hf.2.1, hf.2.2)) else none
def aent (Z : aX) (m : Nat) (xs : List aV) : aX := (Z.1, Z.2.1, 0, apad (zL m) (aargs xs), [])
def acall (m : Nat) (Wl : aW) (d : Nat) (Z X1 : aX) (ds : aD) (hf : aHf) : List aE → Option (aX × aD × aHf)
  | [] => none
  | e :: r => bif Nat.beq e.1 m then (match acall2 e Wl d Z X1 ds hf (asg e.2.2.1 X1) with
    | some p => some p
    | none => acall m Wl d Z X1 ds hf r) else acall m Wl d Z X1 ds hf r
def aany (m : Nat) : List aE → Bool
  | [] => false
  | e :: r => Nat.beq e.1 m || aany m r
section AK3
variable {S : Nat → Option (Nat × Nat)} {rf : Nat → Nat → List Nat} {B : aB} {E : List Int} {Wl : aW} {d m mi : Nat} {P : Option Value → zH → Prop} {fs : List zFm} {x y : zC} {i : zI} {us : List Value} {xs : List aV} {Z Z' : aX} {ds ds' : aD} {hf hf' : aHf}
theorem acall2_ok {e : aE} {sg : List aI} (he : aOK S rf B e) (hi : zi mi x.1 = some i) (hz : zstep i x = some (.inr (.inl (e.1, us, y)))) (hu : aSt E us xs) (R : aRel S rf (aiv B) E Z y) (hy : y.2.2.2 = x.2.2.2) (hd : aDs E ds) (hh : aHfs E x.2.2.2 hf) (hj : aJ x.2.2.2) (h0 : acall2 e Wl d Z (aent Z e.1 xs) ds hf sg = some (Z', ds', hf')) (hk : ∀ q x', aRel S rf (aiv B) (E ++ q) Z' x' → aDs (E ++ q) ds' → aHfs (E ++ q) x'.2.2.2 hf' → aFr (aWf Wl) x.2.2.2 x'.2.2.2 → aJ x'.2.2.2 → zTS (d + 1) fs mi x' P) : zTS (d + 1) fs mi x P := by
  unfold acall2 at h0
  generalize hcnd : (((ameet sg e.2.2.1 (aent Z e.1 xs) && adsM sg Z.1 ds e.2.2.2.1.1) && e.2.2.2.1.2.isNone) && (Nat.ble e.2.1 d && (awsub e.2.2.2.2.2 Wl && Nat.beq (aent Z e.1 xs).2.2.2.1.length (zL e.1)))) = cnd at h0
  cases cnd with
  | false => cases h0
  | true =>
    cases h0
    rw [Bool.and_eq_true, Bool.and_eq_true, Bool.and_eq_true, Bool.and_eq_true, Bool.and_eq_true] at hcnd
    obtain ⟨⟨⟨c1, c2⟩, c6⟩, c3, c4, c5⟩ := hcnd
    have c3 : e.2.1 ≤ d := by
      rw [Nat.ble_eq] at c3
      exact c3
    have hlo : aLo E (zpad (zL e.1) (zargs us)) (apad (zL e.1) (aargs xs)) := aLr_lo (apad_ok (aargs_ok hu))
    have hlen : (zpad (zL e.1) (zargs us)).length = zL e.1 := hlo.1.trans (Nat.eq_of_beq_eq_true c5)
    have R1 : aRel S rf (aiv B) E (aent Z e.1 xs) (0, zpad (zL e.1) (zargs us), [], x.2.2.2) := ⟨R.1, rfl, hlo, trivial, by rw [← hy]; exact R.2.2.2.2⟩
    have hall := ameet_all c1
    have R2 := ameet_ok R1 c1
    have hc := he _ _ R2 (adsM_ok R.1 hd c2) (fun k hk => by rw [hk] at c6; cases c6) hj
    refine zTS_call hi hz hlen (zT_deep hc c3) (fun r h1 hp => ?_)
    obtain ⟨q, p1, p2, p3, p4, p7, p5, p6⟩ := hp
    dsimp only at p5
    refine hk q _ ⟨aSat_app R.1 p1, R.2.1, aLo_ext R.2.2.1, ?_, p3.1, fun o k a ha => ?_⟩ (atrD_ok R.1 hall hd p4) ?_ (aFr_sub c4 p5) p6
    · dsimp only
      match hw : e.2.2.2.2.1.2.2.1, r, p2 with
      | none, none, _ => exact aSt_ext R.2.2.2.1
      | some w, some v, p2 => exact ⟨atrV_ok R.1 hall p2, aSt_ext R.2.2.2.1⟩
    · dsimp only
      rcases atrT_ok ha with ⟨a', g1, rfl⟩ | g
      · exact atr_ok R.1 hall (p3.2 o k a' g1)
      · obtain ⟨g1, g2⟩ := atf_ok g
        rw [p5.1 o k g2, ← hy]
        exact aIs_ext (R.2.2.2.2.2 o k a g1)
    · dsimp only
      cases hl : aWf e.2.2.2.2.2 1000 0
      · have hs := aHfs_same (aHfs_ext (q := q) hh) p5.2.2 (p5.2.1 hl) (fun k => p5.1 0 k aWf_0)
        exact ⟨hs.1, atrR_ok R.1 hall hs.2.1 p7, hs.2.2⟩
      · have hs := aHfs_drop (aHfs_ext (q := q) hh) p5.2.2 (fun k => p5.1 0 k aWf_0)
        exact ⟨hs.1, atrR_ok R.1 hall (fun f hf => by cases hf) p7, hs.2.2⟩
theorem acall_ok (hi : zi mi x.1 = some i) (hz : zstep i x = some (.inr (.inl (m, us, y)))) (hu : aSt E us xs) (R : aRel S rf (aiv B) E Z y) (hy : y.2.2.2 = x.2.2.2) (hd : aDs E ds) (hh : aHfs E x.2.2.2 hf) (hj : aJ x.2.2.2) (hk : ∀ q x', aRel S rf (aiv B) (E ++ q) Z' x' → aDs (E ++ q) ds' → aHfs (E ++ q) x'.2.2.2 hf' → aFr (aWf Wl) x.2.2.2 x'.2.2.2 → aJ x'.2.2.2 → zTS (d + 1) fs mi x' P) : ∀ {es : List aE}, (∀ e, e ∈ es → aOK S rf B e) → acall m Wl d Z (aent Z m xs) ds hf es = some (Z', ds', hf') → zTS (d + 1) fs mi x P
  | [], _, h => by cases h
  | e :: r, he, h => by
    unfold acall at h
    cases hb : Nat.beq e.1 m
    · rw [hb] at h
      exact acall_ok hi hz hu R hy hd hh hj hk (fun e' h' => he e' (List.mem_cons_of_mem _ h')) h
    · rw [hb] at h
      dsimp only [cond_true] at h
      have e1 := Nat.eq_of_beq_eq_true hb
      split at h
      · rename_i p hp
        cases h
        rw [← e1] at hz hp
        exact acall2_ok (he e List.mem_cons_self) hi hz hu R hy hd hh hj hp hk
      · exact acall_ok hi hz hu R hy hd hh hj hk (fun e' h' => he e' (List.mem_cons_of_mem _ h')) h
end AK3
/-! ONE STEP with frames, contracts and facts. -/
abbrev aG : Type := aD × aDf × aDq × aHf
abbrev aY : Type := aX × aG × Nat × List aFm
def adf2 (X : aX) : aDf := match X.2.2.2.2 with
  | .inl (.inl (.inl y)) :: .inl (.inl (.inl x)) :: _ => bif aok32 ((abd X.1 (.inl x)).1 - (abd X.1 (.inl y)).2, (abd X.1 (.inl x)).2 - (abd X.1 (.inl y)).1) then [(X.1.length, .inl x, .inl y)] else []
  | _ => []
def adf1 : zI → aX → aDf := fun (op, _, _, b, _, _, _) X => bif Nat.beq op 7 && Nat.beq b 1 then adf2 X else []
def adq2 (b : Nat) (X : aX) : aDq := match X.2.2.2.2 with
  | .inl (.inl (.inr d)) :: .inl (.inl (.inl x)) :: _ => bif decide (0 < d) then [(X.1.length, b, .inl x, d)] else []
  | _ => []
def adq1 : zI → aX → aDq := fun (op, _, _, b, _, _, _) X => bif Nat.beq op 8 then adq2 b X else []
/-- a quotient or rest that is there already -/
def acs3 (b : Nat) (x : aI) (d : Int) : aDq → Option Nat
  | [] => none
  | (k, b', x', d') :: r => bif (Nat.beq b' b && aeqI x' x) && decide (d' = d) then some k else acs3 b x d r
def acs2 (len b : Nat) (dq : aDq) (X : aX) : Option aX := match X.2.2.2.2 with
  | .inl (.inl (.inr d)) :: .inl (.inl (.inl x)) :: r => bif decide (0 < d) then (match acs3 b (.inl x) d dq with
    | some k => some (X.1, X.2.1, X.2.2.1 + len, X.2.2.2.1, .inl (.inl (.inl (k, 0))) :: r)
    | none => none) else none
  | _ => none
def acse : zI → aDq → aX → Option aX := fun (op, len, _, b, _, _, _) dq X => bif Nat.beq op 8 then acs2 len b dq X else none
def aprs (df : aDf) (dq : aDq) : List aX → List aX
  | [] => []
  | Z :: r => (match apr df Z.1 with
    | some c => (match aprq dq c with
      | some c2 => (c2, Z.2) :: aprs df dq r
      | none => aprs df dq r)
    | none => aprs df dq r)
theorem aprs_ok {S : Nat → Option (Nat × Nat)} {rf : Nat → Nat → List Nat} {iv : Nat → Nat → Int × Int} {E : List Int} {df : aDf} {dq : aDq} {x : zC} (hd : aDfs E df) (hq : aDqs E dq) : ∀ {Ys : List aX} {Y : aX}, Y ∈ Ys → aRel S rf iv E Y x → ∃ Z, Z ∈ aprs df dq Ys ∧ aRel S rf iv E Z x
  | [], _, h, _ => by cases h
  | Y1 :: r, Y, h, R => by
    unfold aprs
    rcases List.mem_cons.mp h with rfl | h
    · obtain ⟨c, e1, e2⟩ := apr_ok R.1 hd
      obtain ⟨c2, e3, e4⟩ := aprq_ok e2 hq
      rw [e1]
      dsimp only
      rw [e3]
      exact ⟨(c2, Y.2), List.mem_cons_self, e4, R.2⟩
    · obtain ⟨Z, g1, g2⟩ := aprs_ok hd hq h R
      split
      · split
        · exact ⟨Z, List.mem_cons_of_mem _ g1, g2⟩
        · exact ⟨Z, g1, g2⟩
      · exact ⟨Z, g1, g2⟩
theorem acs3_ok {b : Nat} {x : aI} {d : Int} : ∀ {dq : aDq} {k : Nat}, acs3 b x d dq = some k → (k, b, x, d) ∈ dq
  | [], _, h => by cases h
  | (k', b', x', d') :: r, k, h => by
    unfold acs3 at h
    generalize hc : ((Nat.beq b' b && aeqI x' x) && decide (d' = d)) = c at h
    cases c with
    | false => exact List.mem_cons_of_mem _ (acs3_ok h)
    | true =>
      cases h
      rw [Bool.and_eq_true, Bool.and_eq_true, decide_eq_true_eq] at hc
      rw [← Nat.eq_of_beq_eq_true hc.1.1, ← aeqI_ok hc.1.2, ← hc.2]
      exact List.mem_cons_self
theorem acse_ok {S : Nat → Option (Nat × Nat)} {rf : Nat → Nat → List Nat} {iv : Nat → Nat → Int × Int} {E : List Int} {X Z : aX} {x : zC} {e : zI} {dq : aDq} (R : aRel S rf iv E X x) (hq : aDqs E dq) (h0 : acse e dq X = some Z) : ∃ y, zstep e x = some (.inl y) ∧ aRel S rf iv E Z y ∧ y.2.2.2 = x.2.2.2 := by
  obtain ⟨op, len, a, b, c, v, sw⟩ := e
  unfold acse at h0
  dsimp only at h0
  cases hb : Nat.beq op 8
  · rw [hb] at h0; cases h0
  · rw [hb] at h0
    have e1 := Nat.eq_of_beq_eq_true hb
    subst e1
    dsimp only [cond_true] at h0
    obtain ⟨cs, T, pc, al, as⟩ := X
    obtain ⟨pc', lo, st, h⟩ := x
    obtain ⟨hs, hpc, hl, hst, hh⟩ := R
    have hpc : pc = pc' := hpc
    subst hpc
    unfold acs2 at h0
    dsimp only at h0
    split at h0
    · rename_i d ax r
      obtain ⟨u, sr, e3, ⟨yv, rfl, hy⟩, h3⟩ := aSt_cons hst
      obtain ⟨u, sr2, rfl, ⟨xv, rfl, hx⟩, h5⟩ := aSt_cons h3
      have e3 : st = .int yv :: .int xv :: sr2 := e3
      subst e3
      cases hc : decide (0 < d)
      · rw [hc] at h0; cases h0
      · rw [hc] at h0
        rw [decide_eq_true_eq] at hc
        dsimp only [cond_true] at h0
        split at h0
        · rename_i k hk
          cases h0
          obtain ⟨w, xv2, g1, g2, g3⟩ := hq _ (acs3_ok hk)
          dsimp only at g1 g2 g3
          have hy : yv.toInt = d := hy
          have ey : Int32.ofInt d = yv := aof hy
          have ex : xv2 = xv := by
            rw [← Int32.toInt_inj, ← aval_eq g2, ← aval_eq hx]
          subst ex
          rw [ey] at g3
          have y0 : ¬ yv = 0 := fun q => by
            rw [q] at hy
            have z0 : (0 : Int32).toInt = 0 := rfl
            omega
          refine ⟨(pc + len, lo, .int (zdv b xv2 yv) :: sr2, h), ?_, ⟨hs, rfl, hl, ⟨⟨_, rfl, w, g1, by omega⟩, h5⟩, hh⟩, rfl⟩
          show (if yv = 0 then none else _) = _
          rw [if_neg y0]
          cases b <;> rfl
        · cases h0
    · cases h0
theorem adq1_ok {S : Nat → Option (Nat × Nat)} {rf : Nat → Nat → List Nat} {B : aB} {W : Nat → Nat → Bool} {WA : Nat → Bool} {E q : List Int} {X Y : aX} {x y : zC} {e : zI} {Ys : List aX} (R : aRel S rf (aiv B) E X x) (h0 : astepG S rf B W WA e X = some (.inl Ys)) (hz : zstep e x = some (.inl y)) (hY : Y ∈ Ys) (RY : aRel S rf (aiv B) (E ++ q) Y y) : aDqs (E ++ q) (adq1 e X) := by
  obtain ⟨op, len, a, b, c, v, sw⟩ := e
  unfold adq1
  dsimp only
  cases hb : Nat.beq op 8
  · exact fun f hf => by cases hf
  · have e1 := Nat.eq_of_beq_eq_true hb
    subst e1
    dsimp only [cond_true]
    obtain ⟨cs, T, pc, al, as⟩ := X
    obtain ⟨pc', lo, st, h⟩ := x
    obtain ⟨hs, -, hl, hst, hh⟩ := R
    unfold adq2
    dsimp only
    split
    · rename_i d ax r
      obtain ⟨u, sr, e3, ⟨yv, rfl, hy⟩, h3⟩ := aSt_cons hst
      obtain ⟨u, sr2, rfl, ⟨xv, rfl, hx⟩, h5⟩ := aSt_cons h3
      have e3 : st = .int yv :: .int xv :: sr2 := e3
      subst e3
      cases hc : decide (0 < d)
      · exact fun f hf => by cases hf
      · rw [decide_eq_true_eq] at hc
        have hy : yv.toInt = d := hy
        have ey : Int32.ofInt d = yv := aof hy
        have y0 : ¬ yv = 0 := fun q => by
          rw [q] at hy
          have z0 : (0 : Int32).toInt = 0 := rfl
          omega
        have hz : some (.inl (pc' + len, lo, .int (zdv b xv yv) :: sr2, h)) = (some (.inl y) : Option zO) := by
          rw [← hz]
          show _ = (if yv = 0 then none else _)
          rw [if_neg y0]
          cases b <;> rfl
        cases hz
        have h0 : (match adiv cs b (.inl ax) (.inr d) with
          | some q => ago (q.1, T, pc + len, al, .inl (.inl q.2) :: r)
          | none => none) = (some (.inl Ys) : Option aR) := h0
        have hnew : ∀ q, adiv cs b (.inl ax) (.inr d) = some q → q.2 = .inl (cs.length, 0) := by
          intro q hq
          have hq : adiv0 cs b (.inl ax) (.inr d) = some q := hq
          unfold adiv0 at hq
          cases c1 : decide (0 < (abd cs (.inr d)).1)
          · rw [c1] at hq
            dsimp only [cond_false] at hq
            cases c2 : decide ((abd cs (.inr d)).2 < 0)
            · rw [c2] at hq; cases hq
            · rw [c2] at hq; cases hq; rfl
          · rw [c1] at hq
            dsimp only [cond_true] at hq
            cases b with
            | zero => cases hq; rfl
            | succ b =>
              cases c3 : decide (0 ≤ (abd cs (.inl ax)).1)
              · rw [c3] at hq; cases hq; rfl
              · rw [c3] at hq; cases hq; rfl
        split at h0
        · rename_i q' hq'
          cases h0
          have e4 := List.mem_singleton.mp hY
          subst e4
          obtain ⟨-, -, -, hst2, -⟩ := RY
          obtain ⟨u, sr, e5, ⟨z, e6, g0⟩, -⟩ := aSt_cons hst2
          cases e5
          cases e6
          rw [hnew _ hq'] at g0
          obtain ⟨w, g1, g2⟩ := g0
          intro f hf
          have hf := List.mem_singleton.mp hf
          subst hf
          exact ⟨w, xv, g1, aIs_ext hx, by dsimp only; rw [ey]; omega⟩
        · cases h0
    · exact fun f hf => by cases hf
theorem adf1_ok {S : Nat → Option (Nat × Nat)} {rf : Nat → Nat → List Nat} {B : aB} {W : Nat → Nat → Bool} {WA : Nat → Bool} {E q : List Int} {X Y : aX} {x y : zC} {e : zI} {Ys : List aX} (R : aRel S rf (aiv B) E X x) (h0 : astepG S rf B W WA e X = some (.inl Ys)) (hz : zstep e x = some (.inl y)) (hY : Y ∈ Ys) (RY : aRel S rf (aiv B) (E ++ q) Y y) : aDfs (E ++ q) (adf1 e X) := by
  obtain ⟨op, len, a, b, c, v, sw⟩ := e
  unfold adf1
  dsimp only
  cases hb : (Nat.beq op 7 && Nat.beq b 1)
  · exact fun f hf => by cases hf
  · rw [Bool.and_eq_true] at hb
    have e1 := Nat.eq_of_beq_eq_true hb.1
    have e2 := Nat.eq_of_beq_eq_true hb.2
    subst e1
    subst e2
    dsimp only [cond_true]
    obtain ⟨cs, T, pc, al, as⟩ := X
    obtain ⟨pc', lo, st, h⟩ := x
    obtain ⟨hs, -, hl, hst, hh⟩ := R
    unfold adf2
    dsimp only
    split
    · rename_i ay ax r
      obtain ⟨u, sr, e3, ⟨yv, rfl, hy⟩, h3⟩ := aSt_cons hst
      obtain ⟨u, sr2, rfl, ⟨xv, rfl, hx⟩, h5⟩ := aSt_cons h3
      have e3 : st = .int yv :: .int xv :: sr2 := e3
      subst e3
      cases hz
      have h0 : some (.inl [((cs ++ [aclip ((abd cs (.inl ax)).1 - (abd cs (.inl ay)).2, (abd cs (.inl ax)).2 - (abd cs (.inl ay)).1)]), T, pc + len, al, .inl (.inl (.inl (cs.length, 0))) :: r)]) = (some (.inl Ys) : Option aR) := h0
      cases h0
      have e4 := List.mem_singleton.mp hY
      subst e4
      obtain ⟨-, -, -, hst2, -⟩ := RY
      obtain ⟨u, sr, e5, ⟨z, e6, w, g1, g2⟩, -⟩ := aSt_cons hst2
      cases e5
      cases e6
      cases hc : aok32 ((abd cs (.inl ax)).1 - (abd cs (.inl ay)).2, (abd cs (.inl ax)).2 - (abd cs (.inl ay)).1)
      · exact fun f hf => by cases hf
      · intro f hf
        have hf := List.mem_singleton.mp hf
        subst hf
        have q1 := aok32_ok hc
        have bx := abd_ok (cs := cs) hs hx
        have by' := abd_ok (cs := cs) hs hy
        dsimp only at q1
        have e7 : (xv - yv).toInt = xv.toInt - yv.toInt := na_sub (by omega) (by omega)
        have g2 : (xv - yv).toInt = w + 0 := g2
        exact ⟨w, xv.toInt, yv.toInt, g1, aIs_ext hx, aIs_ext hy, by omega⟩
    · exact fun f hf => by cases hf
/-- differences that a comparison tells -/
def adb2 (b : Nat) (t : Bool) (kx ky : Nat) (ox oy : Int) : aD := match b, t with
  | 2, true => [(ky, kx, ox + 1 - oy)]
  | 2, false => [(kx, ky, oy - ox)]
  | 3, true => [(kx, ky, oy - ox)]
  | 3, false => [(ky, kx, ox + 1 - oy)]
  | 4, true => [(kx, ky, oy + 1 - ox)]
  | 4, false => [(ky, kx, ox - oy)]
  | 5, true => [(ky, kx, ox - oy)]
  | 5, false => [(kx, ky, oy + 1 - ox)]
  | _, _ => []
def adb3 (len a b pc : Nat) (X : aX) : aD := match X.2.2.2.2 with
  | .inl (.inl (.inl (ky, oy))) :: .inl (.inl (.inl (kx, ox))) :: _ => bif Nat.beq a (X.2.2.1 + len) then [] else adb2 b (Nat.beq pc a) kx ky ox oy
  | _ => []
def adb1 (pc : Nat) : zI → aX → aD := fun (op, len, a, b, _, _, _) X => bif Nat.beq op 16 then adb3 len a b pc X else []
theorem adb2_ok {E : List Int} {b kx ky t n : Nat} {ox oy : Int} {x y : Int32} (hx : aIs E x.toInt (.inl (kx, ox))) (hy : aIs E y.toInt (.inl (ky, oy))) (ht : t ≠ n) : aDs E (adb2 b (Nat.beq (zicmp b x y t n) t) kx ky ox oy) := by
  obtain ⟨wx, gx, ex⟩ := hx
  obtain ⟨wy, gy, ey⟩ := hy
  have bt : Nat.beq t t = true := Nat.beq_refl t
  have bn : Nat.beq n t = false := by
    cases h : Nat.beq n t
    · rfl
    · exact absurd (Nat.eq_of_beq_eq_true h).symm ht
  have one : ∀ k j c w v, zget E k = some w → zget E j = some v → v + c ≤ w → aDs E [(k, j, c)] := by
    intro k j c w v h1 h2 h3 f hf
    have hf := List.mem_singleton.mp hf
    subst hf
    exact ⟨w, v, h1, h2, h3⟩
  have nil : aDs E [] := fun f hf => (by cases hf)
  match b with
  | 0 =>
    unfold adb2
    exact nil
  | 1 =>
    unfold adb2
    exact nil
  | 2 =>
    by_cases q : x < y
    · rw [show zicmp 2 x y t n = t from if_pos q, bt]
      have q := Int32.lt_iff_toInt_lt.mp q
      exact one _ _ _ _ _ gy gx (by omega)
    · rw [show zicmp 2 x y t n = n from if_neg q, bn]
      have q : ¬ x.toInt < y.toInt := fun w => q (Int32.lt_iff_toInt_lt.mpr w)
      exact one _ _ _ _ _ gx gy (by omega)
  | 3 =>
    by_cases q : x < y
    · rw [show zicmp 3 x y t n = n from if_pos q, bn]
      have q := Int32.lt_iff_toInt_lt.mp q
      exact one _ _ _ _ _ gy gx (by omega)
    · rw [show zicmp 3 x y t n = t from if_neg q, bt]
      have q : ¬ x.toInt < y.toInt := fun w => q (Int32.lt_iff_toInt_lt.mpr w)
      exact one _ _ _ _ _ gx gy (by omega)
  | 4 =>
    by_cases q : y < x
    · rw [show zicmp 4 x y t n = t from if_pos q, bt]
      have q := Int32.lt_iff_toInt_lt.mp q
      exact one _ _ _ _ _ gx gy (by omega)
    · rw [show zicmp 4 x y t n = n from if_neg q, bn]
      have q : ¬ y.toInt < x.toInt := fun w => q (Int32.lt_iff_toInt_lt.mpr w)
      exact one _ _ _ _ _ gy gx (by omega)
  | 5 =>
    by_cases q : y < x
    · rw [show zicmp 5 x y t n = n from if_pos q, bn]
      have q := Int32.lt_iff_toInt_lt.mp q
      exact one _ _ _ _ _ gx gy (by omega)
    · rw [show zicmp 5 x y t n = t from if_neg q, bt]
      have q : ¬ y.toInt < x.toInt := fun w => q (Int32.lt_iff_toInt_lt.mpr w)
      exact one _ _ _ _ _ gy gx (by omega)
  | b + 6 =>
    unfold adb2
    exact nil
theorem adb1_ok {S : Nat → Option (Nat × Nat)} {rf : Nat → Nat → List Nat} {iv : Nat → Nat → Int × Int} {E : List Int} {X : aX} {x y : zC} {e : zI} (R : aRel S rf iv E X x) (hz : zstep e x = some (.inl y)) : aDs E (adb1 y.1 e X) := by
  obtain ⟨op, len, a, b, c, v, sw⟩ := e
  have nil : aDs E [] := fun f hf => (by cases hf)
  unfold adb1
  dsimp only
  cases hb : Nat.beq op 16
  · exact nil
  · have e1 := Nat.eq_of_beq_eq_true hb
    subst e1
    dsimp only [cond_true]
    obtain ⟨cs, T, pc, al, as⟩ := X
    obtain ⟨pc', lo, st, h⟩ := x
    obtain ⟨hs, hpc, hl, hst, hh⟩ := R
    have hpc : pc = pc' := hpc
    subst hpc
    unfold adb3
    dsimp only
    split
    · rename_i ky oy kx ox r
      obtain ⟨u, sr, e3, ⟨yv, rfl, hy⟩, h3⟩ := aSt_cons hst
      obtain ⟨u, sr2, rfl, ⟨xv, rfl, hx⟩, h5⟩ := aSt_cons h3
      have e3 : st = .int yv :: .int xv :: sr2 := e3
      subst e3
      cases hz
      cases hq : Nat.beq a (pc + len)
      · exact adb2_ok hx hy (fun q => by rw [q, Nat.beq_refl] at hq; cases hq)
      · exact nil
    · exact nil
/-- what is known of an element -/
def aldf (i : aI) : aDl → Option Nat
  | [] => none
  | (j, k) :: r => bif aeqI j i then some k else aldf i r
/-- the script: its length, its elements -/
def ascr (ds : aD) (sl : aSc) : zI → aX → Option (aX × aSc) := fun (op, len, _, _, _, _, _) X => match sl.1 with
  | none => none
  | some k => bif Nat.beq op 28 then (match X.2.2.2.2 with
    | .inr [0] :: r => bif Nat.blt k X.1.length then some ((X.1, X.2.1, X.2.2.1 + len, X.2.2.2.1, .inl (.inl (.inl (k, 0))) :: r), sl) else none
    | _ => none) else bif Nat.beq op 22 then (match X.2.2.2.2 with
    | .inl (.inl i) :: .inr [0] :: r => bif ile 0 (abd X.1 i).1 && ale0 X.1 ds (alI 1 i (alI (-1) (.inl (k, 0)) (1, []))) then (match aldf i sl.2 with
      | some j => some ((X.1, X.2.1, X.2.2.1 + len, X.2.2.2.1, .inl (.inl (.inl (j, 0))) :: r), sl)
      | none => some ((X.1 ++ [afull], X.2.1, X.2.2.1 + len, X.2.2.2.1, .inl (.inl (.inl (X.1.length, 0))) :: r), (sl.1, (i, X.1.length) :: sl.2))) else none
    | _ => none) else none
/-- an element of the row of longs: known, in a stretch of numbers of roads, or any -/
def adrn (cs : aCs) (ds : aD) (i : aI) : aDr → Bool
  | [] => false
  | (lo, v) :: r => (ale0 cs ds (alI (-1) i (lo, [])) && ale0 cs ds (alI (-1) v (alI 1 i (1 - lo, [])))) || adrn cs ds i r
def along2 (S : Nat → Option (Nat × Nat)) (ds : aD) (hf : aHf) (len : Nat) (X : aX) : Option (aX × aHf) := match X.2.2.2.2 with
  | .inl (.inl i) :: .inr [o] :: r => bif Nat.beq o 126 && ain S X.1 i [126] (fun _ t => Nat.beq t 1) then (match aldf i hf.1 with
    | some k => bif Nat.blt k X.1.length then some ((X.1, X.2.1, X.2.2.1 + len, X.2.2.2.1, .inl (.inr (.inl (k, 0))) :: r), hf) else none
    | none => some ((X.1 ++ [bif adrn X.1 ds i hf.2.1 then (0, 11) else afulL], X.2.1, X.2.2.1 + len, X.2.2.2.1, .inl (.inr (.inl (X.1.length, 0))) :: r), ((i, X.1.length) :: hf.1, hf.2))) else none
  | _ => none
def along (S : Nat → Option (Nat × Nat)) (ds : aD) (hf : aHf) : zI → aX → Option (aX × aHf) := fun (op, len, _, _, _, _, _) X => bif Nat.beq op 23 then along2 S ds hf len X else none
def aspec (S : Nat → Option (Nat × Nat)) (e : zI) (G : aG) (X : aX) : Option (aX × aHf) := match acse e G.2.2.1 X with
  | some Z => some (Z, G.2.2.2)
  | none => (match ascr G.1 G.2.2.2.2.2 e X with
    | some p => some (p.1, (G.2.2.2.1, G.2.2.2.2.1, p.2))
    | none => along S G.1 G.2.2.2 e X)
/-! ONE STEP: what is special; with frames, contracts and facts. -/
theorem na_ofn {n : Nat} (h : n ≤ 3072) : (Int32.ofNat n).toInt = (n : Int) := by
  have e : (Int32.ofNat n).toBitVec.toNat = n := by
    show (BitVec.ofNat 32 n).toNat = n
    rw [BitVec.toNat_ofNat]
    omega
  rw [na_tn (by omega), e]
theorem aIs_lt {E : List Int} {k : Nat} (h : k < E.length) : aIs E (agv E k) (.inl (k, 0)) := by
  obtain ⟨w, hw⟩ := zget_of_lt h
  exact ⟨w, hw, by rw [agv_eq hw]; omega⟩
theorem aldf_ok {i : aI} : ∀ {dl : aDl} {k : Nat}, aldf i dl = some k → (i, k) ∈ dl
  | [], _, h => by cases h
  | (j, k') :: r, k, h => by
    unfold aldf at h
    cases hb : aeqI j i
    · rw [hb] at h
      exact List.mem_cons_of_mem _ (aldf_ok h)
    · rw [hb] at h
      cases h
      rw [← aeqI_ok hb]
      exact List.mem_cons_self
theorem ascr_ok {S : Nat → Option (Nat × Nat)} {rf : Nat → Nat → List Nat} {iv : Nat → Nat → Int × Int} {E : List Int} {X Z : aX} {x : zC} {e : zI} {ds : aD} {sl sl' : aSc} (R : aRel S rf iv E X x) (hd : aDs E ds) (hsl : aSl E x.2.2.2 sl) (h0 : ascr ds sl e X = some (Z, sl')) : ∃ y q, zstep e x = some (.inl y) ∧ aRel S rf iv (E ++ q) Z y ∧ aSl (E ++ q) x.2.2.2 sl' ∧ y.2.2.2 = x.2.2.2 := by
  obtain ⟨op, len, a, b, c, v, sw⟩ := e
  obtain ⟨cs, T, pc, al, as⟩ := X
  obtain ⟨pc', lo, st, h⟩ := x
  obtain ⟨hs, hpc, hl, hst, hh⟩ := R
  have hpc : pc = pc' := hpc
  subst hpc
  unfold ascr at h0
  dsimp only at h0
  split at h0
  · cases h0
  · rename_i k hk1
    obtain ⟨n, g1, g2, g3⟩ := hsl.1 k hk1
    dsimp only at g1
    cases hb : Nat.beq op 28
    · rw [hb] at h0
      dsimp only [cond_false] at h0
      cases hb2 : Nat.beq op 22
      · rw [hb2] at h0; cases h0
      · rw [hb2] at h0
        dsimp only [cond_true] at h0
        have e1 := Nat.eq_of_beq_eq_true hb2
        subst e1
        split at h0
        · rename_i i r
          obtain ⟨u, sr, e3, ⟨iv', rfl, hi⟩, h3⟩ := aSt_cons hst
          obtain ⟨u, sr2, rfl, ⟨o, rfl, ho⟩, h5⟩ := aSt_cons h3
          have e3 : st = .int iv' :: .ref o :: sr2 := e3
          subst e3
          have ho := List.mem_singleton.mp ho
          subst ho
          generalize hc : (ile 0 (abd cs i).1 && ale0 cs ds (alI 1 i (alI (-1) (.inl (k, 0)) (1, [])))) = c1 at h0
          cases c1 with
          | false => cases h0
          | true =>
            dsimp only [cond_true] at h0
            rw [Bool.and_eq_true, ile_eq] at hc
            have b1 := abd_ok (cs := cs) hs hi
            have b2 := ale0_ok hs hd hc.2
            rw [alI_ok, alI_ok] at b2
            have z : alv E ([] : aLn) = 0 := rfl
            rw [z, aval_eq hi, aval_gv, agv_eq g2] at b2
            dsimp only at b2
            have zi' := azix (i := iv') (by omega)
            have k1 : Nat.blt (zix iv') n = true := by rw [Nat.blt_eq]; omega
            have hi2 : aIs E ((zix iv' : Nat) : Int) i := by rw [zi']; exact hi
            have key : zstep (22, len, a, b, c, v, sw) (pc, lo, .int iv' :: .ref 0 :: sr2, h) = some (.inl (pc + len, lo, .int (h.2.1 0 (zix iv')) :: sr2, h)) := by
              show zs22 len (pc, lo, .int iv' :: .ref 0 :: sr2, h) = _
              simp only [zs22]
              rw [g1]
              dsimp only
              rw [k1]
              rfl
            split at h0
            · rename_i j hj
              cases h0
              obtain ⟨k2, w, p1, p2, p3⟩ := hsl.2 _ (aldf_ok hj)
              dsimp only at p1 p2 p3
              have ek : k2 = zix iv' := by
                have := (aval_eq p1).symm.trans (aval_eq hi2)
                omega
              subst ek
              refine ⟨_, [], key, ?_, by rw [List.append_nil]; exact hsl, rfl⟩
              rw [List.append_nil]
              exact ⟨hs, rfl, hl, ⟨⟨_, rfl, w, p2, by omega⟩, h5⟩, hh⟩
            · cases h0
              have r := na_rng (h.2.1 0 (zix iv'))
              have hn : aIs (E ++ [(h.2.1 0 (zix iv')).toInt]) (h.2.1 0 (zix iv')).toInt (.inl (cs.length, 0)) := by
                rw [← hs.1]
                exact aIs_new
              have he := aSl_ext (q := [(h.2.1 0 (zix iv')).toInt]) hsl
              refine ⟨_, [(h.2.1 0 (zix iv')).toInt], key, ⟨aSat_ext hs r.1 r.2, rfl, aLo_ext hl, ⟨⟨_, rfl, hn⟩, aSt_ext h5⟩, aHp_ext hh⟩, ⟨he.1, fun p hp => ?_⟩, rfl⟩
              rcases List.mem_cons.mp hp with rfl | hp
              · exact ⟨zix iv', _, aIs_ext hi2, by dsimp only; rw [← hs.1]; exact zget_end E _, rfl⟩
              · exact he.2 p hp
        · cases h0
    · rw [hb] at h0
      dsimp only [cond_true] at h0
      have e1 := Nat.eq_of_beq_eq_true hb
      subst e1
      split at h0
      · rename_i r
        obtain ⟨u, sr, e3, ⟨o, rfl, ho⟩, h3⟩ := aSt_cons hst
        have e3 : st = .ref o :: sr := e3
        subst e3
        have ho := List.mem_singleton.mp ho
        subst ho
        cases hc : Nat.blt k cs.length
        · rw [hc] at h0; cases h0
        · rw [hc] at h0
          cases h0
          refine ⟨(pc + len, lo, .int (Int32.ofNat n) :: sr, h), [], ?_, ?_, by rw [List.append_nil]; exact hsl, rfl⟩
          · show zs28 len (pc, lo, .ref 0 :: sr, h) = _
            simp only [zs28]
            rw [g1]
            rfl
          · rw [List.append_nil]
            exact ⟨hs, rfl, hl, ⟨⟨_, rfl, (n : Int), g2, by rw [na_ofn g3]; omega⟩, h3⟩, hh⟩
      · cases h0
theorem adrn_ok {E : List Int} {cs : aCs} {ds : aD} {i : aI} {g : Nat → Nat → Int64} {k : Nat} (hs : aSat E cs) (hd : aDs E ds) (hi : aIs E (k : Int) i) : ∀ {dr : aDr}, aDrs E g dr → adrn cs ds i dr = true → 0 ≤ (g 126 k).toInt ∧ (g 126 k).toInt ≤ 11
  | [], _, h => by cases h
  | (lo, v) :: r, hr, h => by
    unfold adrn at h
    rw [Bool.or_eq_true, Bool.and_eq_true] at h
    rcases h with ⟨h1, h2⟩ | h
    · obtain ⟨z, g1, g2⟩ := hr (lo, v) List.mem_cons_self
      have b1 := ale0_ok hs hd h1
      have b2 := ale0_ok hs hd h2
      have e0 : alv E ([] : aLn) = 0 := rfl
      rw [alI_ok, e0, aval_eq hi] at b1
      rw [alI_ok, alI_ok, e0, aval_eq hi, aval_eq g1] at b2
      dsimp only at b1 b2 g2
      exact g2 k (by omega) (by omega)
    · exact adrn_ok hs hd hi (fun f hf => hr f (List.mem_cons_of_mem _ hf)) h
theorem along_ok {S : Nat → Option (Nat × Nat)} {rf : Nat → Nat → List Nat} {iv : Nat → Nat → Int × Int} {E : List Int} {X Z : aX} {x : zC} {e : zI} {ds : aD} {hf hf' : aHf} (R : aRel S rf iv E X x) (hd : aDs E ds) (hh : aHfs E x.2.2.2 hf) (h0 : along S ds hf e X = some (Z, hf')) : ∃ y q, zstep e x = some (.inl y) ∧ aRel S rf iv (E ++ q) Z y ∧ aHfs (E ++ q) x.2.2.2 hf' ∧ y.2.2.2 = x.2.2.2 := by
  obtain ⟨op, len, a, b, c, v, sw⟩ := e
  unfold along at h0
  dsimp only at h0
  cases hb : Nat.beq op 23
  · rw [hb] at h0; cases h0
  · rw [hb] at h0
    dsimp only [cond_true] at h0
    have e1 := Nat.eq_of_beq_eq_true hb
    subst e1
    obtain ⟨cs, T, pc, al, as⟩ := X
    obtain ⟨pc', lo, st, h⟩ := x
    obtain ⟨hs, hpc, hl, hst, hp⟩ := R
    have hpc : pc = pc' := hpc
    subst hpc
    unfold along2 at h0
    dsimp only at h0
    split at h0
    · rename_i i o r
      obtain ⟨u, sr, e3, ⟨iv', rfl, hi⟩, h3⟩ := aSt_cons hst
      obtain ⟨u, sr2, rfl, ⟨o', rfl, ho⟩, h5⟩ := aSt_cons h3
      have e3 : st = .int iv' :: .ref o' :: sr2 := e3
      subst e3
      have ho := List.mem_singleton.mp ho
      subst ho
      generalize hc : (Nat.beq o' 126 && ain S cs i [126] (fun _ t => Nat.beq t 1)) = c1 at h0
      cases c1 with
      | false => cases h0
      | true =>
        dsimp only [cond_true] at h0
        rw [Bool.and_eq_true] at hc
        have eo := Nat.eq_of_beq_eq_true hc.1
        subst eo
        obtain ⟨t, n, hg, hf1, hz, hx, p1, p2, p3⟩ := ain_ok hp.1.1 hc.2 hs hi (List.mem_singleton.mpr rfl)
        have key : zs23 len (pc, lo, .int iv' :: .ref 126 :: sr2, h) = some (.inl (pc + len, lo, .long (h.2.2.1 126 (zix iv')) :: sr2, h)) := by
          simp only [zs23]
          rw [hg]
          dsimp only
          rw [hf1, hz]
          rfl
        have hi2 : aIs E ((zix iv' : Nat) : Int) i := by rw [hx]; exact hi
        split at h0
        · rename_i k hk
          cases hq : Nat.blt k cs.length
          · rw [hq] at h0; cases h0
          · rw [hq] at h0
            cases h0
            obtain ⟨j, w, g1, g2, g3⟩ := hh.1 _ (aldf_ok hk)
            dsimp only at g1 g2 g3
            have ej : j = zix iv' := by
              have := (aval_eq g1).symm.trans (aval_eq hi2)
              omega
            subst ej
            refine ⟨_, [], key, ?_, by rw [List.append_nil]; exact hh, rfl⟩
            rw [List.append_nil]
            exact ⟨hs, rfl, hl, ⟨⟨_, rfl, w, g2, by omega⟩, h5⟩, hp⟩
        · cases h0
          have w := afulL_ok (h.2.2.1 126 (zix iv'))
          have bd : (bif adrn cs ds i hf.2.1 then ((0, 11) : Int × Int) else afulL).1 ≤ (h.2.2.1 126 (zix iv')).toInt ∧ (h.2.2.1 126 (zix iv')).toInt ≤ (bif adrn cs ds i hf.2.1 then ((0, 11) : Int × Int) else afulL).2 := by
            cases hr : adrn cs ds i hf.2.1
            · exact w
            · exact adrn_ok hs hd hi2 hh.2.1 hr
          have hn : aIs (E ++ [(h.2.2.1 126 (zix iv')).toInt]) (h.2.2.1 126 (zix iv')).toInt (.inl (cs.length, 0)) := by
            rw [← hs.1]
            exact aIs_new
          refine ⟨_, [(h.2.2.1 126 (zix iv')).toInt], key, ⟨aSat_ext hs bd.1 bd.2, rfl, aLo_ext hl, ⟨⟨_, rfl, hn⟩, aSt_ext h5⟩, aHp_ext hp⟩, ?_, rfl⟩
          have he := aHfs_ext (q := [(h.2.2.1 126 (zix iv')).toInt]) hh
          refine ⟨fun f hf => ?_, he.2⟩
          rcases List.mem_cons.mp hf with rfl | hf
          · exact ⟨zix iv', _, aIs_ext hi2, by dsimp only; rw [← hs.1]; exact zget_end E _, rfl⟩
          · exact he.1 f hf
    · cases h0
theorem aspec_ok {S : Nat → Option (Nat × Nat)} {rf : Nat → Nat → List Nat} {iv : Nat → Nat → Int × Int} {E : List Int} {X Z : aX} {x : zC} {e : zI} {G : aG} {hf' : aHf} (R : aRel S rf iv E X x) (hd : aDs E G.1) (hq : aDqs E G.2.2.1) (hh : aHfs E x.2.2.2 G.2.2.2) (h0 : aspec S e G X = some (Z, hf')) : ∃ y q, zstep e x = some (.inl y) ∧ aRel S rf iv (E ++ q) Z y ∧ aHfs (E ++ q) x.2.2.2 hf' ∧ y.2.2.2 = x.2.2.2 := by
  unfold aspec at h0
  split at h0
  · rename_i Z' hz
    cases h0
    obtain ⟨y, g1, g2, g3⟩ := acse_ok R hq hz
    exact ⟨y, [], g1, by rw [List.append_nil]; exact g2, by rw [List.append_nil]; exact hh, g3⟩
  · split at h0
    · rename_i p hz
      obtain ⟨Z', sc⟩ := p
      cases h0
      obtain ⟨y, q, g1, g2, g4, g3⟩ := ascr_ok R hd hh.2.2 hz
      exact ⟨y, q, g1, g2, ⟨aDls_ext hh.1, aDrs_ext hh.2.1, g4⟩, g3⟩
    · exact along_ok R hd hh h0
/-! ONE STEP with frames, contracts and facts. -/
def alw (Wl : aW) : zI → Bool := fun (op, _, _, _, _, _, _) => !(Nat.beq op 26 || Nat.beq op 34) || aWf (awn Wl) 1000 0
/-- what is known of cells behind a plain step -/
def ahk (hf : aHf) : zI → aHf := fun (op, _, _, _, _, _, _) => bif Nat.beq op 26 || Nat.beq op 34 then ([], [], hf.2.2) else hf
def acore2 (S : Nat → Option (Nat × Nat)) (rf : Nat → Nat → List Nat) (B : aB) (es : List aE) (Wl : aW) (d : Nat) (X : aX) (G : aG) (mi : Nat) (gs : List aFm) (e : zI) : Option (List (Nat × aY) ⊕ (aX × Option aV)) := (match astepR e X with
    | some (.inr (.inr w)) => (match gs with
      | [] => some (.inr (X, w))
      | g :: gs' => some (.inl [(d + 1, ((X.1, X.2.1, g.2.1, g.2.2.1, w.toList ++ g.2.2.2), G, g.1, gs'))]))
    | _ => (match astepC S e X with
      | some (.inr (.inl (m, xs, Z))) => (match d with
        | 0 => none
        | d' + 1 => bif aany m es then (match acall m Wl d' Z (aent Z m xs) G.1 G.2.2.2 es with
          | some p => some (.inl [(d' + 1, (p.1, (p.2.1, G.2.1, G.2.2.1, p.2.2), mi, gs))])
          | none => none) else bif Nat.beq (apad (zL m) (aargs xs)).length (zL m) then some (.inl [(d', (aent Z m xs, G, m, (mi, Z.2.2.1, Z.2.2.2.1, Z.2.2.2.2) :: gs))]) else none)
      | _ => (match aspec S e G X with
        | some p => some (.inl [(d, (p.1, (G.1, G.2.1, G.2.2.1, p.2), mi, gs))])
        | none => bif alw Wl e then (match astepF S rf B (aWf (awn Wl)) (aWA (awn Wl)) e X with
          | some (.inl Ys) => some (.inl ((aprs (adf1 e X ++ G.2.1) (adq1 e X ++ G.2.2.1) Ys).map (fun Z => (d, (Z, (bif gs.isEmpty then adb1 Z.2.2.1 e X ++ G.1 else G.1, adf1 e X ++ G.2.1, adq1 e X ++ G.2.2.1, ahk G.2.2.2 e), mi, gs)))))
          | _ => none) else none)))
/-- plain steps -/
def apl : zI → Bool := fun (op, _, _, b, _, _, _) => Nat.beq (Nat.land (Nat.shiftRight 34636817907327 op) 1) 1 || (Nat.beq op 7 && !(Nat.beq b 1))
def acoreP (S : Nat → Option (Nat × Nat)) (rf : Nat → Nat → List Nat) (B : aB) (Wl : aW) (d : Nat) (X : aX) (G : aG) (mi : Nat) (gs : List aFm) (e : zI) : Option (List (Nat × aY) ⊕ (aX × Option aV)) := match astepF S rf B (aWf (awn Wl)) (aWA (awn Wl)) e X with
  | some (.inl Ys) => some (.inl (Ys.map (fun Z => (d, (Z, G, mi, gs)))))
  | _ => none
/-- a comparison of longs and the branch behind it -/
def alcb (X : aX) (len : Nat) : zI → Option (List aX) := fun (op, len2, a2, b2, _, _, _) => bif Nat.beq op 15 then (match X.2.2.2.2 with
  | .inl (.inr y) :: .inl (.inr x) :: r => some (aopt (fun c => (c, X.2.1, a2, X.2.2.2.1, r)) (acmp X.1 b2 x y).1 ++ aopt (fun c => (c, X.2.1, X.2.2.1 + len + len2, X.2.2.2.1, r)) (acmp X.1 b2 x y).2)
  | _ => none) else none
noncomputable def alcx (X : aX) (mi : Nat) : zI → Option (List aX) := fun (op, len, _, _, _, _, _) => bif Nat.beq op 14 then (match zif3 mi (X.2.2.1 + len) with
  | some e2 => alcb X len e2
  | none => none) else none
noncomputable def acore1 (S : Nat → Option (Nat × Nat)) (rf : Nat → Nat → List Nat) (B : aB) (es : List aE) (Wl : aW) (d : Nat) (X : aX) (G : aG) (mi : Nat) (gs : List aFm) (e : zI) : Option (List (Nat × aY) ⊕ (aX × Option aV)) := bif apl e then acoreP S rf B Wl d X G mi gs e else (match alcx X mi e with
  | some Ys => some (.inl ((aprs G.2.1 G.2.2.1 Ys).map (fun Z => (d, (Z, G, mi, gs)))))
  | none => acore2 S rf B es Wl d X G mi gs e)
/-- known numbers are taken as such where it matters -/
def anr : zI → aX → aX := fun (op, _, _, _, _, _, _) X => bif Nat.beq op 7 || (Nat.beq op 8 || (Nat.beq op 22 || Nat.beq op 25)) then anrm X else X
theorem anr_ok {S : Nat → Option (Nat × Nat)} {rf : Nat → Nat → List Nat} {iv : Nat → Nat → Int × Int} {E : List Int} {X : aX} {x : zC} {e : zI} (R : aRel S rf iv E X x) : aRel S rf iv E (anr e X) x := by
  obtain ⟨op, len, a, b, c, v, sw⟩ := e
  unfold anr
  dsimp only
  cases (Nat.beq op 7 || (Nat.beq op 8 || (Nat.beq op 22 || Nat.beq op 25)))
  · exact R
  · exact anrm_ok R
noncomputable def acore (S : Nat → Option (Nat × Nat)) (rf : Nat → Nat → List Nat) (B : aB) (es : List aE) (Wl : aW) (d : Nat) (X : aX) (G : aG) (mi : Nat) (gs : List aFm) : Option (List (Nat × aY) ⊕ (aX × Option aV)) := match zif3 mi X.2.2.1 with
  | none => none
  | some e => acore1 S rf B es Wl d (anr e X) G mi gs e
section AC4
variable {S : Nat → Option (Nat × Nat)} {rf : Nat → Nat → List Nat} {B : aB} {E : List Int} {es : List aE} {Wl : aW} {d mi : Nat} {P : Option Value → zH → Prop} {fs : List zFm} {gs : List aFm} {x : zC} {X : aX} {G : aG}
theorem acore2_ok {Ys : List (Nat × aY)} {e : zI} (he : zi mi x.1 = some e) (hes : ∀ e, e ∈ es → aOK S rf B e) (R : aRel S rf (aiv B) E X x) (hD : aDs E G.1) (hF : aDfs E G.2.1) (hQ : aDqs E G.2.2.1) (hH : aHfs E x.2.2.2 G.2.2.2) (hG : aFs E fs gs) (hj : aJ x.2.2.2) (h0 : acore2 S rf B es Wl d X G mi gs e = some (.inl Ys)) (hk : ∀ p, p ∈ Ys → ∀ q x' fs', aRel S rf (aiv B) (E ++ q) p.2.1 x' → aDs (E ++ q) p.2.2.1.1 → aDfs (E ++ q) p.2.2.1.2.1 → aDqs (E ++ q) p.2.2.1.2.2.1 → aHfs (E ++ q) x'.2.2.2 p.2.2.1.2.2.2 → aFs (E ++ q) fs' p.2.2.2.2 → aFr (aWf Wl) x.2.2.2 x'.2.2.2 → aJ x'.2.2.2 → zTS p.1 fs' p.2.2.2.1 x' P) : zTS d fs mi x P := by
  obtain ⟨cs, T, pc, al, as⟩ := X
  obtain ⟨pc', lo, st, h⟩ := x
  have epc : pc = pc' := R.2.1
  subst epc
  have nil : E ++ [] = E := List.append_nil E
  obtain ⟨op, len, a, b, c, v, sw⟩ := e
  unfold acore2 at h0
  dsimp only at h0
  · skip
    split at h0
    · rename_i w hw
      obtain ⟨u, g1, g2⟩ := astepR_ok R hw
      match gs, fs, hG, h0 with
      | [], _, _, h0 => cases h0
      | g :: gs', [], hG, h0 => exact hG.elim
      | g :: gs', f :: fs', hG, h0 =>
        cases h0
        obtain ⟨f1, f2, f3, f4⟩ := f
        obtain ⟨⟨k1, k2, k3, k4⟩, k5⟩ := hG
        dsimp only at k1 k2 k3 k4
        subst k1
        subst k2
        refine zTS_ret he g1 (hk _ (List.mem_singleton.mpr rfl) [] _ fs' ?_ (by rw [nil]; exact hD) (by rw [nil]; exact hF) (by rw [nil]; exact hQ) (by rw [nil]; exact hH) (by rw [nil]; exact k5) aFr_refl hj)
        rw [nil]
        refine ⟨R.1, rfl, k3, ?_, R.2.2.2.2⟩
        dsimp only
        match w, u, g2 with
        | none, none, _ => exact k4
        | some w, some u, g2 => exact ⟨g2, k4⟩
    · split at h0
      · rename_i m xs Z hc
        obtain ⟨us, y, g1, g2, g3, g4⟩ := astepC_ok R hc
        match d, h0 with
        | 0, h0 => cases h0
        | d' + 1, h0 =>
          dsimp only at h0
          cases ha : aany m es
          · rw [ha] at h0
            dsimp only [cond_false] at h0
            cases hl : Nat.beq (apad (zL m) (aargs xs)).length (zL m)
            · rw [hl] at h0; cases h0
            · rw [hl] at h0
              cases h0
              have hlo : aLo E (zpad (zL m) (zargs us)) (apad (zL m) (aargs xs)) := aLr_lo (apad_ok (aargs_ok g2))
              have hlen : (zpad (zL m) (zargs us)).length = zL m := hlo.1.trans (Nat.eq_of_beq_eq_true hl)
              refine zTS_push he g1 hlen (hk _ (List.mem_singleton.mpr rfl) [] _ _ ?_ (by rw [nil]; exact hD) (by rw [nil]; exact hF) (by rw [nil]; exact hQ) (by rw [nil]; exact hH) ?_ aFr_refl hj)
              · rw [nil]
                exact ⟨g3.1, rfl, hlo, trivial, by rw [← g4]; exact g3.2.2.2.2⟩
              · rw [nil]
                exact ⟨⟨rfl, g3.2.1.symm, g3.2.2.1, g3.2.2.2.1⟩, hG⟩
          · rw [ha] at h0
            dsimp only [cond_true] at h0
            split at h0
            · rename_i p hp
              cases h0
              obtain ⟨p1, p2, p3⟩ := p
              exact acall_ok he g1 g2 g3 g4 hD hH hj (fun q x' r1 r2 r5 r3 r4 => hk _ (List.mem_singleton.mpr rfl) q x' fs r1 r2 (aDfs_ext hF) (aDqs_ext hQ) r5 (aFs_ext hG) r3 r4) hes hp
            · cases h0
      · split at h0
        · rename_i p hp
          cases h0
          obtain ⟨Z, hf'⟩ := p
          obtain ⟨y, q, g1, g2, g3, g4⟩ := aspec_ok R hD hQ hH hp
          exact zTS_step he g1 (hk _ (List.mem_singleton.mpr rfl) q y fs g2 (aDs_ext hD) (aDfs_ext hF) (aDqs_ext hQ) (by rw [g4]; exact g3) (aFs_ext hG) (by rw [g4]; exact aFr_refl) (by rw [g4]; exact hj))
        · cases hlw : alw Wl (op, len, a, b, c, v, sw)
          · rw [hlw] at h0; cases h0
          · rw [hlw] at h0
            dsimp only [cond_true] at h0
            split at h0
            · rename_i Ys' hg
              cases h0
              rw [astepF_eq] at hg
              obtain ⟨y, g1, ⟨q, Y, hY, R2⟩, g3⟩ := astepG_ok aW_all R hg
              obtain ⟨s1, s2⟩ := zkeep hg g1
              have hF2 : aDfs (E ++ q) (adf1 (op, len, a, b, c, v, sw) (cs, T, pc, al, as) ++ G.2.1) := by
                intro f hf
                rcases List.mem_append.mp hf with hf | hf
                · exact adf1_ok R hg g1 hY R2 f hf
                · exact aDfs_ext hF f hf
              have hQ2 : aDqs (E ++ q) (adq1 (op, len, a, b, c, v, sw) (cs, T, pc, al, as) ++ G.2.2.1) := by
                intro f hf
                rcases List.mem_append.mp hf with hf | hf
                · exact adq1_ok R hg g1 hY R2 f hf
                · exact aDqs_ext hQ f hf
              obtain ⟨Z, z1, z2⟩ := aprs_ok hF2 hQ2 hY R2
              have hD2 : aDs (E ++ q) (bif gs.isEmpty then adb1 Z.2.2.1 (op, len, a, b, c, v, sw) (cs, T, pc, al, as) ++ G.1 else G.1) := by
                cases gs.isEmpty
                · exact aDs_ext hD
                intro f hf
                have hf : f ∈ adb1 Z.2.2.1 (op, len, a, b, c, v, sw) (cs, T, pc, al, as) ++ G.1 := hf
                rcases List.mem_append.mp hf with hf | hf
                · rw [z2.2.1] at hf
                  exact aDs_ext (adb1_ok R g1) f hf
                · exact aDs_ext hD f hf
              have hfr : aFr (aWf (awn Wl)) h y.2.2.2 := by
                refine ⟨g3, fun hw => s2 ?_, s1⟩
                unfold alw at hlw
                dsimp only at hlw
                rw [hw, Bool.or_false] at hlw
                cases hb : (Nat.beq op 26 || Nat.beq op 34)
                · rfl
                · rw [hb] at hlw
                  cases hlw
              have hH2 : aHfs (E ++ q) y.2.2.2 (ahk G.2.2.2 (op, len, a, b, c, v, sw)) := by
                unfold ahk
                dsimp only
                cases hb : (Nat.beq op 26 || Nat.beq op 34)
                · exact aHfs_same (aHfs_ext hH) s1 (s2 hb) (fun k => g3 0 k aWf_0)
                · exact aHfs_drop (aHfs_ext hH) s1 (fun k => g3 0 k aWf_0)
              exact zTS_step he g1 (hk _ (List.mem_map.mpr ⟨Z, z1, rfl⟩) q y fs z2 hD2 hF2 hQ2 hH2 (aFs_ext hG) (aFr_n hfr) (aJ_fr hj hfr))
            · cases h0
theorem acoreR2_ok {X' : aX} {w : Option aV} {e : zI} (he : zi mi x.1 = some e) (R : aRel S rf (aiv B) E X x) (hG : aFs E fs gs) (h0 : acore2 S rf B es Wl d X G mi gs e = some (.inr (X', w))) (hk : X' = X → ∀ u, aRet E u w → P u x.2.2.2) : zTS d fs mi x P := by
  obtain ⟨cs, T, pc, al, as⟩ := X
  obtain ⟨pc', lo, st, h⟩ := x
  have epc : pc = pc' := R.2.1
  subst epc
  obtain ⟨op, len, a, b, c, v, sw⟩ := e
  unfold acore2 at h0
  dsimp only at h0
  · skip
    split at h0
    · rename_i w' hw
      obtain ⟨u, g1, g2⟩ := astepR_ok R hw
      match gs, fs, hG, h0 with
      | [], [], _, h0 =>
        cases h0
        exact zT_ret he g1 (hk rfl u g2)
      | [], _ :: _, hG, h0 => exact hG.elim
      | g :: gs', _, hG, h0 => cases h0
    · split at h0
      · rename_i m xs Z hc
        match d, h0 with
        | 0, h0 => cases h0
        | d' + 1, h0 =>
          dsimp only at h0
          cases ha : aany m es
          · rw [ha] at h0
            dsimp only [cond_false] at h0
            cases hl : Nat.beq (apad (zL m) (aargs xs)).length (zL m)
            · rw [hl] at h0; cases h0
            · rw [hl] at h0; cases h0
          · rw [ha] at h0
            dsimp only [cond_true] at h0
            split at h0
            · cases h0
            · cases h0
      · split at h0
        · cases h0
        · cases hlw : alw Wl (op, len, a, b, c, v, sw)
          · rw [hlw] at h0; cases h0
          · rw [hlw] at h0
            dsimp only [cond_true] at h0
            split at h0
            · cases h0
            · cases h0
theorem zif_m {b t n : Nat} : zif b (-1) t n = (match b with | 0 => n | 1 => t | 2 => t | 3 => n | 4 => n | _ => t ) := by
  match b with
  | 0 => exact if_neg (t := t) (e := n) (show ¬ (-1 : Int32) = 0 by decide)
  | 1 => exact if_neg (t := n) (e := t) (show ¬ (-1 : Int32) = 0 by decide)
  | 2 => exact if_pos (t := t) (e := n) (show (-1 : Int32) < 0 by decide)
  | 3 => exact if_pos (t := n) (e := t) (show (-1 : Int32) < 0 by decide)
  | 4 => exact if_neg (t := t) (e := n) (show ¬ 0 < (-1 : Int32) by decide)
  | _ + 5 => exact if_neg (t := n) (e := t) (show ¬ 0 < (-1 : Int32) by decide)
theorem zif_z {b t n : Nat} : zif b 0 t n = (match b with | 0 => t | 1 => n | 2 => n | 3 => t | 4 => n | _ => t ) := by
  match b with
  | 0 => exact if_pos (t := t) (e := n) (show (0 : Int32) = 0 by decide)
  | 1 => exact if_pos (t := n) (e := t) (show (0 : Int32) = 0 by decide)
  | 2 => exact if_neg (t := t) (e := n) (show ¬ (0 : Int32) < 0 by decide)
  | 3 => exact if_neg (t := n) (e := t) (show ¬ (0 : Int32) < 0 by decide)
  | 4 => exact if_neg (t := t) (e := n) (show ¬ 0 < (0 : Int32) by decide)
  | _ + 5 => exact if_neg (t := n) (e := t) (show ¬ 0 < (0 : Int32) by decide)
theorem zif_p {b t n : Nat} : zif b 1 t n = (match b with | 0 => n | 1 => t | 2 => n | 3 => t | 4 => t | _ => n ) := by
  match b with
  | 0 => exact if_neg (t := t) (e := n) (show ¬ (1 : Int32) = 0 by decide)
  | 1 => exact if_neg (t := n) (e := t) (show ¬ (1 : Int32) = 0 by decide)
  | 2 => exact if_neg (t := t) (e := n) (show ¬ (1 : Int32) < 0 by decide)
  | 3 => exact if_neg (t := n) (e := t) (show ¬ (1 : Int32) < 0 by decide)
  | 4 => exact if_pos (t := t) (e := n) (show 0 < (1 : Int32) by decide)
  | _ + 5 => exact if_pos (t := n) (e := t) (show 0 < (1 : Int32) by decide)
theorem acmpL_ok {cs : aCs} {b t n : Nat} {ax ay : aI} {x y : Int64} (hs : aSat E cs) (hx : aIs E x.toInt ax) (hy : aIs E y.toInt ay) : (∃ c, (acmp cs b ax ay).1 = some c ∧ aSat E c ∧ zif b (lg_cmp x y) t n = t) ∨ ∃ c, (acmp cs b ax ay).2 = some c ∧ aSat E c ∧ zif b (lg_cmp x y) t n = n := by
  have bx := abig_in x
  have by' := abig_in y
  rcases Int.lt_trichotomy x.toInt y.toInt with q | q | q
  · have n1 : ¬ x > y := fun w => by have := Int64.lt_iff_toInt_lt.mp w; omega
    have n2 : ¬ x = y := fun w => by rw [w] at q; omega
    have e3 : lg_cmp x y = -1 := by unfold lg_cmp; rw [if_neg n1, if_neg n2]
    rw [e3, zif_m]
    have l1 := alt_ok hs hx hy ⟨bx.1, by'.2⟩ q
    have l2 := ale_ok hs hx hy ⟨bx.1, by'.2⟩ (by omega)
    have l3 := ane_ok hs hx hy bx (by omega)
    match b with
    | 0 => obtain ⟨c, e1, e2⟩ := l3; exact Or.inr ⟨c, e1, e2, rfl⟩
    | 1 => obtain ⟨c, e1, e2⟩ := l3; exact Or.inl ⟨c, e1, e2, rfl⟩
    | 2 => obtain ⟨c, e1, e2⟩ := l1; exact Or.inl ⟨c, e1, e2, rfl⟩
    | 3 => obtain ⟨c, e1, e2⟩ := l1; exact Or.inr ⟨c, e1, e2, rfl⟩
    | 4 => obtain ⟨c, e1, e2⟩ := l2; exact Or.inr ⟨c, e1, e2, rfl⟩
    | _ + 5 => obtain ⟨c, e1, e2⟩ := l2; exact Or.inl ⟨c, e1, e2, rfl⟩
  · have n2 : x = y := Int64.toInt_inj.mp q
    have n1 : ¬ x > y := fun w => by have := Int64.lt_iff_toInt_lt.mp w; omega
    have e3 : lg_cmp x y = 0 := by unfold lg_cmp; rw [if_neg n1, if_pos n2]
    rw [e3, zif_z]
    have l1 := aeq_ok hs hx hy q
    have l2 := ale_ok hs hx hy ⟨bx.1, by'.2⟩ (by omega)
    have l3 := ale_ok hs hy hx ⟨by'.1, bx.2⟩ (by omega)
    match b with
    | 0 => obtain ⟨c, e1, e2⟩ := l1; exact Or.inl ⟨c, e1, e2, rfl⟩
    | 1 => obtain ⟨c, e1, e2⟩ := l1; exact Or.inr ⟨c, e1, e2, rfl⟩
    | 2 => obtain ⟨c, e1, e2⟩ := l3; exact Or.inr ⟨c, e1, e2, rfl⟩
    | 3 => obtain ⟨c, e1, e2⟩ := l3; exact Or.inl ⟨c, e1, e2, rfl⟩
    | 4 => obtain ⟨c, e1, e2⟩ := l2; exact Or.inr ⟨c, e1, e2, rfl⟩
    | _ + 5 => obtain ⟨c, e1, e2⟩ := l2; exact Or.inl ⟨c, e1, e2, rfl⟩
  · have e3 : lg_cmp x y = 1 := by unfold lg_cmp; rw [if_pos (Int64.lt_iff_toInt_lt.mpr q)]
    rw [e3, zif_p]
    have l1 := alt_ok hs hy hx ⟨by'.1, bx.2⟩ q
    have l2 := ale_ok hs hy hx ⟨by'.1, bx.2⟩ (by omega)
    have l3 := ane_ok hs hx hy bx (by omega)
    match b with
    | 0 => obtain ⟨c, e1, e2⟩ := l3; exact Or.inr ⟨c, e1, e2, rfl⟩
    | 1 => obtain ⟨c, e1, e2⟩ := l3; exact Or.inl ⟨c, e1, e2, rfl⟩
    | 2 => obtain ⟨c, e1, e2⟩ := l2; exact Or.inr ⟨c, e1, e2, rfl⟩
    | 3 => obtain ⟨c, e1, e2⟩ := l2; exact Or.inl ⟨c, e1, e2, rfl⟩
    | 4 => obtain ⟨c, e1, e2⟩ := l1; exact Or.inl ⟨c, e1, e2, rfl⟩
    | _ + 5 => obtain ⟨c, e1, e2⟩ := l1; exact Or.inr ⟨c, e1, e2, rfl⟩
/-- two steps of the machine at once -/
theorem alcx_ok {Ys : List aX} {e : zI} (he : zi mi x.1 = some e) (R : aRel S rf (aiv B) E X x) (h0 : alcx X mi e = some Ys) : ∃ y1 e2 y, zstep e x = some (.inl y1) ∧ zi mi y1.1 = some e2 ∧ zstep e2 y1 = some (.inl y) ∧ y.2.2.2 = x.2.2.2 ∧ ∃ Y, Y ∈ Ys ∧ aRel S rf (aiv B) E Y y := by
  obtain ⟨op, len, a, b, c, v, sw⟩ := e
  unfold alcx at h0
  dsimp only at h0
  cases hb : Nat.beq op 14
  · rw [hb] at h0; cases h0
  · rw [hb] at h0
    dsimp only [cond_true] at h0
    have e1 := Nat.eq_of_beq_eq_true hb
    subst e1
    split at h0
    · rename_i e2 he2
      have he2 := zif3_eq he2
      obtain ⟨op2, len2, a2, b2, c2, v2, sw2⟩ := e2
      unfold alcb at h0
      dsimp only at h0
      cases hb2 : Nat.beq op2 15
      · rw [hb2] at h0; cases h0
      · rw [hb2] at h0
        dsimp only [cond_true] at h0
        have e3 := Nat.eq_of_beq_eq_true hb2
        subst e3
        obtain ⟨cs, T, pc, al, as⟩ := X
        obtain ⟨pc', lo, st, h⟩ := x
        obtain ⟨hs, hpc, hl, hst, hh⟩ := R
        have hpc : pc = pc' := hpc
        subst hpc
        dsimp only at h0
        split at h0
        · rename_i ay ax r
          cases h0
          obtain ⟨u, sr, e4, ⟨yv, rfl, hy⟩, h3⟩ := aSt_cons hst
          obtain ⟨u, sr2, rfl, ⟨xv, rfl, hx⟩, h5⟩ := aSt_cons h3
          have e4 : st = .long yv :: .long xv :: sr2 := e4
          subst e4
          refine ⟨(pc + len, lo, .int (lg_cmp xv yv) :: sr2, h), _, (zif b2 (lg_cmp xv yv) a2 (pc + len + len2), lo, sr2, h), rfl, he2, rfl, rfl, ?_⟩
          rcases acmpL_ok (cs := cs) (b := b2) (t := a2) (n := pc + len + len2) hs hx hy with ⟨c1, g1, g2, g3⟩ | ⟨c1, g1, g2, g3⟩
          · exact ⟨_, List.mem_append_left _ (aopt_in g1), g2, g3.symm, hl, h5, hh⟩
          · exact ⟨_, List.mem_append_right _ (aopt_in g1), g2, g3.symm, hl, h5, hh⟩
        · cases h0
    · cases h0
theorem acore1_ok {Ys : List (Nat × aY)} {e : zI} (he : zi mi x.1 = some e) (hes : ∀ e, e ∈ es → aOK S rf B e) (R : aRel S rf (aiv B) E X x) (hD : aDs E G.1) (hF : aDfs E G.2.1) (hQ : aDqs E G.2.2.1) (hH : aHfs E x.2.2.2 G.2.2.2) (hG : aFs E fs gs) (hj : aJ x.2.2.2) (h0 : acore1 S rf B es Wl d X G mi gs e = some (.inl Ys)) (hk : ∀ p, p ∈ Ys → ∀ q x' fs', aRel S rf (aiv B) (E ++ q) p.2.1 x' → aDs (E ++ q) p.2.2.1.1 → aDfs (E ++ q) p.2.2.1.2.1 → aDqs (E ++ q) p.2.2.1.2.2.1 → aHfs (E ++ q) x'.2.2.2 p.2.2.1.2.2.2 → aFs (E ++ q) fs' p.2.2.2.2 → aFr (aWf Wl) x.2.2.2 x'.2.2.2 → aJ x'.2.2.2 → zTS p.1 fs' p.2.2.2.1 x' P) : zTS d fs mi x P := by
  unfold acore1 at h0
  cases hp : apl e
  · rw [hp] at h0
    dsimp only [cond_false] at h0
    split at h0
    · rename_i Ls hl
      cases h0
      obtain ⟨y1, e2, y, g1, g2, g3, g4, Y, hY, R2⟩ := alcx_ok he R hl
      obtain ⟨Z, z1, z2⟩ := aprs_ok hF hQ hY R2
      have nil : E ++ [] = E := List.append_nil E
      exact zTS_step he g1 (zTS_step g2 g3 (hk _ (List.mem_map.mpr ⟨Z, z1, rfl⟩) [] y fs (by rw [nil]; exact z2) (by rw [nil]; exact hD) (by rw [nil]; exact hF) (by rw [nil]; exact hQ) (by rw [nil, g4]; exact hH) (by rw [nil]; exact hG) (by rw [g4]; exact aFr_refl) (by rw [g4]; exact hj)))
    · exact acore2_ok he hes R hD hF hQ hH hG hj h0 hk
  · rw [hp] at h0
    dsimp only [cond_true] at h0
    unfold acoreP at h0
    split at h0
    · rename_i Ys' hg
      cases h0
      rw [astepF_eq] at hg
      obtain ⟨op, len, a, b, c, v, sw⟩ := e
      obtain ⟨cs, T, pc, al, as⟩ := X
      obtain ⟨pc', lo, st, h⟩ := x
      have epc : pc = pc' := R.2.1
      subst epc
      obtain ⟨y, g1, ⟨q, Y, hY, R2⟩, g3⟩ := astepG_ok aW_all R hg
      obtain ⟨s1, s2⟩ := zkeep hg g1
      have hop : (Nat.beq op 26 || Nat.beq op 34) = false := by
        cases h26 : Nat.beq op 26
        · cases h34 : Nat.beq op 34
          · rfl
          · have q := Nat.eq_of_beq_eq_true h34
            subst q
            have z : apl (34, len, a, b, c, v, sw) = false := rfl
            rw [z] at hp
            cases hp
        · have q := Nat.eq_of_beq_eq_true h26
          subst q
          have z : apl (26, len, a, b, c, v, sw) = false := rfl
          rw [z] at hp
          cases hp
      have hfr : aFr (aWf (awn Wl)) h y.2.2.2 := ⟨g3, fun _ => s2 hop, s1⟩
      exact zTS_step he g1 (hk _ (List.mem_map.mpr ⟨Y, hY, rfl⟩) q y fs R2 (aDs_ext hD) (aDfs_ext hF) (aDqs_ext hQ) (aHfs_same (aHfs_ext hH) s1 (s2 hop) (fun k => g3 0 k aWf_0)) (aFs_ext hG) (aFr_n hfr) (aJ_fr hj hfr))
    · cases h0
theorem acoreR1_ok {X' : aX} {w : Option aV} {e : zI} (he : zi mi x.1 = some e) (R : aRel S rf (aiv B) E X x) (hG : aFs E fs gs) (h0 : acore1 S rf B es Wl d X G mi gs e = some (.inr (X', w))) (hk : X' = X → ∀ u, aRet E u w → P u x.2.2.2) : zTS d fs mi x P := by
  unfold acore1 at h0
  cases hp : apl e
  · rw [hp] at h0
    dsimp only [cond_false] at h0
    split at h0
    · cases h0
    · exact acoreR2_ok he R hG h0 hk
  · rw [hp] at h0
    dsimp only [cond_true] at h0
    unfold acoreP at h0
    split at h0
    · cases h0
    · cases h0
theorem acore_ok {Ys : List (Nat × aY)} (hes : ∀ e, e ∈ es → aOK S rf B e) (R : aRel S rf (aiv B) E X x) (hD : aDs E G.1) (hF : aDfs E G.2.1) (hQ : aDqs E G.2.2.1) (hH : aHfs E x.2.2.2 G.2.2.2) (hG : aFs E fs gs) (hj : aJ x.2.2.2) (h0 : acore S rf B es Wl d X G mi gs = some (.inl Ys)) (hk : ∀ p, p ∈ Ys → ∀ q x' fs', aRel S rf (aiv B) (E ++ q) p.2.1 x' → aDs (E ++ q) p.2.2.1.1 → aDfs (E ++ q) p.2.2.1.2.1 → aDqs (E ++ q) p.2.2.1.2.2.1 → aHfs (E ++ q) x'.2.2.2 p.2.2.1.2.2.2 → aFs (E ++ q) fs' p.2.2.2.2 → aFr (aWf Wl) x.2.2.2 x'.2.2.2 → aJ x'.2.2.2 → zTS p.1 fs' p.2.2.2.1 x' P) : zTS d fs mi x P := by
  unfold acore at h0
  rw [R.2.1] at h0
  split at h0
  · cases h0
  · rename_i e he
    have he := zif3_eq he
    exact acore1_ok he hes (anr_ok R) hD hF hQ hH hG hj h0 hk
theorem acoreR_ok {X' : aX} {w : Option aV} (R : aRel S rf (aiv B) E X x) (hG : aFs E fs gs) (h0 : acore S rf B es Wl d X G mi gs = some (.inr (X', w))) (hk : (∃ e, X' = anr e X) → ∀ u, aRet E u w → P u x.2.2.2) : zTS d fs mi x P := by
  unfold acore at h0
  rw [R.2.1] at h0
  split at h0
  · cases h0
  · rename_i e he
    have he := zif3_eq he
    exact acoreR1_ok he (anr_ok R) hG h0 (fun e1 => hk ⟨e, e1⟩)
end AC4
/-! RUNS by bounds, cuts and measures: a method keeps its contract. -/
noncomputable def arunY (S : Nat → Option (Nat × Nat)) (rf : Nat → Nat → List Nat) (B : aB) (es : List aE) (Wl : aW) (sp : Nat → Nat → Option (Nat × Int × Int × Nat)) (mi0 : Nat) (cutp : Nat → Bool) (leafC : Nat → aX → aG → Bool) (leafR : aX → Option aV → aG → Bool) : Nat → Nat → Bool → aY → Bool
  | 0, _, _, _ => false
  | f + 1, d, b, Y => bif !b && (Y.2.2.2.isEmpty && (Nat.beq Y.2.2.1 mi0 && cutp Y.1.2.2.1)) then leafC d Y.1 Y.2.1 else (match sp Y.2.2.1 Y.1.2.2.1 with
    | some i => aspl Y.1 i
    | none => [Y.1]).all (fun Z => match acore S rf B es Wl d Z Y.2.1 Y.2.2.1 Y.2.2.2 with
      | some (.inl Ys) => Ys.all (fun p => arunY S rf B es Wl sp mi0 cutp leafC leafR f p.1 false p.2)
      | some (.inr p) => leafR p.1 p.2 Y.2.1
      | none => false)
section AR5
variable {S : Nat → Option (Nat × Nat)} {rf : Nat → Nat → List Nat} {B : aB} {es : List aE} {Wl : aW} {sp : Nat → Nat → Option (Nat × Int × Int × Nat)} {mi0 : Nat} {cutp : Nat → Bool} {leafC : Nat → aX → aG → Bool} {leafR : aX → Option aV → aG → Bool} {Es : List Int} {h0 : zH} {P : Option Value → zH → Prop}
theorem arunY_ok (hes : ∀ e, e ∈ es → aOK S rf B e)
    (hC : ∀ d X G E x, leafC d X G = true → aRel S rf (aiv B) E X x → aDs E G.1 → aHfs E x.2.2.2 G.2.2.2 → (∃ q, E = Es ++ q) → aFr (aWf Wl) h0 x.2.2.2 → aJ x.2.2.2 → zTS d [] mi0 x P)
    (hR : ∀ X w G E (x : zC) u, leafR X w G = true → aRel S rf (aiv B) E X x → aDs E G.1 → aHfs E x.2.2.2 G.2.2.2 → aRet E u w → (∃ q, E = Es ++ q) → aFr (aWf Wl) h0 x.2.2.2 → aJ x.2.2.2 → P u x.2.2.2) :
    ∀ f d b (Y : aY) E x fs, arunY S rf B es Wl sp mi0 cutp leafC leafR f d b Y = true → aRel S rf (aiv B) E Y.1 x → aDs E Y.2.1.1 → aDfs E Y.2.1.2.1 → aDqs E Y.2.1.2.2.1 → aHfs E x.2.2.2 Y.2.1.2.2.2 → aFs E fs Y.2.2.2 → (∃ q, E = Es ++ q) → aFr (aWf Wl) h0 x.2.2.2 → aJ x.2.2.2 → zTS d fs Y.2.2.1 x P
  | 0, _, _, _, _, _, _, h, _, _, _, _, _, _, _, _, _ => by cases h
  | f + 1, d, b, (X, G, mi, gs), E, x, fs, h, R, hD, hF, hQ, hH, hG, hE, hw, hj => by
    unfold arunY at h
    dsimp only at h ⊢
    generalize hcnd : (!b && (gs.isEmpty && (Nat.beq mi mi0 && cutp X.2.2.1))) = cnd at h
    cases cnd with
    | true =>
      dsimp only [cond_true] at h
      rw [Bool.and_eq_true, Bool.and_eq_true, Bool.and_eq_true] at hcnd
      have e1 := Nat.eq_of_beq_eq_true hcnd.2.2.1
      subst e1
      match gs, fs, hG, hcnd with
      | [], [], _, _ => exact hC d X G E x h R hD hH hE hw hj
      | [], _ :: _, hG, _ => exact hG.elim
      | _ :: _, _, _, hcnd => cases hcnd.2.1
    | false =>
      dsimp only [cond_false] at h
      have hZ : ∃ Z, Z ∈ (match sp mi X.2.2.1 with
        | some i => aspl X i
        | none => [X]) ∧ aRel S rf (aiv B) E Z x := by
        cases sp mi X.2.2.1 with
        | none => exact ⟨X, List.mem_singleton.mpr rfl, R⟩
        | some i => exact aspl_ok R
      obtain ⟨Z, z1, z2⟩ := hZ
      have h1 := List.all_eq_true.mp h Z z1
      have R2 := z2
      split at h1
      · rename_i Ys hc
        refine acore_ok hes R2 hD hF hQ hH hG hj hc (fun p hp q x' fs' r1 r2 r3 r6 r8 r4 r5 r7 => ?_)
        have h2 := List.all_eq_true.mp h1 p hp
        obtain ⟨q0, hq0⟩ := hE
        exact arunY_ok hes hC hR f p.1 false p.2 (E ++ q) x' fs' h2 r1 r2 r3 r6 r8 r4 ⟨q0 ++ q, by rw [hq0, List.append_assoc]⟩ (aFr_trans hw r5) r7
      · rename_i p hc
        obtain ⟨X', w⟩ := p
        refine acoreR_ok R2 hG hc (fun e1 u hu => ?_)
        obtain ⟨e, e1⟩ := e1
        rw [e1] at h1
        exact hR _ w G E x u h1 (anr_ok R2) hD hH hu hE hw hj
      · cases h1
end AR5
/-- the first entries as they are -/
def aidf : Nat → Nat → List aI
  | _, 0 => []
  | s, n + 1 => .inl (s, 0) :: aidf (s + 1) n
theorem aidf_ok : ∀ {E0 pre q : List Int}, (aidf pre.length E0.length).map (aval (pre ++ (E0 ++ q))) = E0
  | [], _, _ => rfl
  | w :: E0, pre, q => by
    show aval (pre ++ (w :: E0 ++ q)) (.inl (pre.length, 0)) :: (aidf (pre.length + 1) E0.length).map (aval (pre ++ (w :: E0 ++ q))) = w :: E0
    have e1 : pre ++ (w :: E0 ++ q) = (pre ++ [w]) ++ (E0 ++ q) := by simp
    have e2 : aval (pre ++ (w :: E0 ++ q)) (.inl (pre.length, 0)) = w := by
      rw [e1]
      exact aval_eq ⟨w, zget_app (zget_end pre w), by omega⟩
    rw [e2, e1, show pre.length + 1 = (pre ++ [w]).length by simp, aidf_ok]
theorem aid0 {E0 q : List Int} : (aidf 0 E0.length).map (aval (E0 ++ q)) = E0 := aidf_ok (pre := [])
/-- stretches that an annotation lists, by the numbers given for its entries: empty, known, or known and one element more -/
def adr1 (cs : aCs) (hf : aHf) (lo : Int) (v : aI) : Bool := ile (abd cs v).2 0 || (hf.2.1.any (fun p => ieq p.1 lo && (aeqI p.2 v || ile (abd cs v).2 (abd cs p.2).1)) || (hf.2.1.any (fun p => ieq p.1 lo && aeqI p.2 (aoff (-1) v)) && (match aldf (aoff (lo - 1) v) hf.1 with
  | some k => ile 0 (abd cs (.inl (k, 0))).1 && (ile (abd cs (.inl (k, 0))).2 11 && Nat.blt k cs.length)
  | none => false)))
theorem adr1_ok {E : List Int} {cs : aCs} {hf : aHf} {lo : Int} {v : aI} {h : zH} {z : Int} (hs : aSat E cs) (hh : aHfs E h hf) (hv : aIs E z v) (h0 : adr1 cs hf lo v = true) : ∀ k : Nat, lo ≤ (k : Int) → (k : Int) < lo + z → 0 ≤ (h.2.2.1 126 k).toInt ∧ (h.2.2.1 126 k).toInt ≤ 11 := by
  intro k k1 k2
  unfold adr1 at h0
  rw [Bool.or_eq_true, Bool.or_eq_true] at h0
  rcases h0 with h0 | h0 | h0
  · rw [ile_eq] at h0
    have b := abd_ok hs hv
    omega
  · obtain ⟨p, p1, p2⟩ := List.any_eq_true.mp h0
    rw [Bool.and_eq_true, ieq_eq, Bool.or_eq_true] at p2
    obtain ⟨w, g1, g2⟩ := hh.2.1 p p1
    rcases p2.2 with e | e
    · have e := aeqI_ok e
      rw [e] at g1
      have ez : w = z := (aval_eq g1).symm.trans (aval_eq hv)
      exact g2 k (by omega) (by omega)
    · rw [ile_eq] at e
      have b1 := abd_ok hs hv
      have b2 := abd_ok hs g1
      exact g2 k (by omega) (by omega)
  · rw [Bool.and_eq_true] at h0
    obtain ⟨p, p1, p2⟩ := List.any_eq_true.mp h0.1
    rw [Bool.and_eq_true, ieq_eq] at p2
    obtain ⟨w, g1, g2⟩ := hh.2.1 p p1
    have e := aeqI_ok p2.2
    rw [e] at g1
    have g3 : aIs E (z + -1) (aoff (-1) v) := aoff_ok hv
    have ez : w = z + -1 := (aval_eq g1).symm.trans (aval_eq g3)
    by_cases hlast : (k : Int) < lo + w
    · exact g2 k (by omega) (by omega)
    · have h1 := h0.2
      split at h1
      · rename_i j hj
        rw [Bool.and_eq_true, Bool.and_eq_true, ile_eq, ile_eq] at h1
        obtain ⟨k', w', q1, q2, q3⟩ := hh.1 _ (aldf_ok hj)
        dsimp only at q1 q2 q3
        have q4 : aIs E (z + (lo - 1)) (aoff (lo - 1) v) := aoff_ok hv
        have ek : (k' : Int) = z + (lo - 1) := (aval_eq q1).symm.trans (aval_eq q4)
        have ekk : k' = k := by omega
        subst ekk
        have b := abd_ok hs (show aIs E w' (.inl (j, 0)) from ⟨w', q2, by omega⟩)
        omega
      · cases h1
def adrM (sg : List aI) (cs : aCs) (hf : aHf) : aDr → Bool
  | [] => true
  | (lo, a) :: r => (match a with
    | .inl (k, o) => (match zget sg k with
      | some s => aok cs s && adr1 cs hf lo (aoff o s)
      | none => false)
    | .inr n => ile n 0) && adrM sg cs hf r
theorem adrM_ok {E : List Int} {sg : List aI} {cs : aCs} {hf : aHf} {h : zH} (hs : aSat E cs) (hh : aHfs E h hf) : ∀ {dA : aDr}, adrM sg cs hf dA = true → aDrs (sg.map (aval E)) h.2.2.1 dA
  | [], _ => fun f hf => (by cases hf)
  | (lo, a) :: r, h0 => by
    unfold adrM at h0
    rw [Bool.and_eq_true] at h0
    intro f hf
    rcases List.mem_cons.mp hf with rfl | hf
    · have h1 := h0.1
      match a, h1 with
      | .inr n, h1 =>
        have h1 : ile n 0 = true := h1
        rw [ile_eq] at h1
        exact ⟨n, rfl, fun k k1 k2 => (by dsimp only at k1 k2; omega)⟩
      | .inl (k, o), h1 =>
        dsimp only at h1
        split at h1
        · rename_i s hsg
          rw [Bool.and_eq_true] at h1
          have i1 := aok_ok hs h1.1
          have i2 : aIs E (aval E s + o) (aoff o s) := aoff_ok i1
          exact ⟨aval E s + o, ⟨aval E s, by rw [zget_map, hsg]; rfl, rfl⟩, adr1_ok hs hh i2 h1.2⟩
        · cases h1
    · exact adrM_ok hs hh h0.2 f hf
/-- a cut: annotation, differences and stretches, measure -/
abbrev aC : Type := aX × (aD × aDr) × (Int × aLn)
def asgp (n0 : Nat) (A X : aX) : List aI :=
  let l := asL A.2.2.2.1 X.2.2.2.1 (asS A.2.2.2.2 X.2.2.2.2 (asT X.2.1 A.2.1 []))
  aidf 0 n0 ++ (List.range' n0 (A.1.length - n0)).map (asF l)
def alc1 (c : aC) (ms : Option (Int × aLn)) (X : aX) (G : aG) (sg : List aI) : Bool := ((ameet sg c.1 X && adsM sg X.1 G.1 c.2.1.1) && adrM sg X.1 G.2.2.2 c.2.1.2) && (match ms with
  | none => true
  | some m => ale0 X.1 G.1 (alng m.2 (alsg sg c.2.2.2 (c.2.2.1 + 1 - m.1, []))))
def alfC (cuts : List aC) (n0 d0 : Nat) (ms : Option (Int × aLn)) (d : Nat) (X : aX) (G : aG) : Bool := Nat.beq d d0 && cuts.any (fun c => Nat.beq c.1.2.2.1 X.2.2.1 && alc1 c ms X G (asgp n0 c.1 X))
def amW (sg : List aI) (cs : aCs) : Option aV → Option aV → Bool
  | some a, some b => amV sg cs a b
  | none, none => true
  | _, _ => false
def alr1 (e : aE) (n0 : Nat) (X : aX) (w : Option aV) (G : aG) (sr : List aI) : Bool := (amB X.1 e.2.2.2.2.1.1 sr && amW (aidf 0 n0 ++ sr) X.1 e.2.2.2.2.1.2.2.1 w) && (amT (aidf 0 n0 ++ sr) X.1 X.2.1 e.2.2.2.2.1.2.1 && (adsM (aidf 0 n0 ++ sr) X.1 G.1 e.2.2.2.2.1.2.2.2.1 && adrM (aidf 0 n0 ++ sr) X.1 G.2.2.2 e.2.2.2.2.1.2.2.2.2))
def asgr (e : aE) (n0 : Nat) (X : aX) (w : Option aV) : List aI :=
  let l := asT X.2.1 e.2.2.2.2.1.2.1 (match e.2.2.2.2.1.2.2.1, w with
    | some a, some b => asV a b []
    | _, _ => [])
  (List.range' n0 e.2.2.2.2.1.1.length).map (asF l)
def alfR (e : aE) (n0 : Nat) (X : aX) (w : Option aV) (G : aG) : Bool := alr1 e n0 X w G (asgr e n0 X w)
def acutp (cuts : List aC) (pc : Nat) : Bool := cuts.any (fun c => Nat.beq c.1.2.2.1 pc)
/-- the run from a cut (or, without one, from the method's start) -/
noncomputable def aseg (S : Nat → Option (Nat × Nat)) (rf : Nat → Nat → List Nat) (B : aB) (es : List aE) (sp : Nat → Nat → Option (Nat × Int × Int × Nat)) (e : aE) (cuts : List aC) (f : Nat) (c : Option aC) : Bool := match c with
  | none => arunY S rf B es e.2.2.2.2.2 sp e.1 (acutp cuts) (alfC cuts e.2.2.1.1.length e.2.1 none) (alfR e e.2.2.1.1.length) f e.2.1 true (e.2.2.1, (e.2.2.2.1.1, [], [], ([], [], (e.2.2.2.1.2, []))), e.1, [])
  | some c => arunY S rf B es e.2.2.2.2.2 sp e.1 (acutp cuts) (alfC cuts e.2.2.1.1.length e.2.1 (some c.2.2)) (alfR e e.2.2.1.1.length) f e.2.1 true (c.1, (c.2.1.1, [], [], ([], c.2.1.2, (e.2.2.2.1.2, []))), e.1, []) && (ale0 c.1.1 c.2.1.1 (alng c.2.2.2 (-c.2.2.1, [])) && c.2.2.2.all (fun p => Nat.blt p.2 c.1.1.length))
section AO
variable {S : Nat → Option (Nat × Nat)} {rf : Nat → Nat → List Nat} {B : aB} {es : List aE} {sp : Nat → Nat → Option (Nat × Int × Int × Nat)} {e : aE} {cuts : List aC} {f : Nat}
theorem alr_ok {X : aX} {w : Option aV} {G : aG} {sr : List aI} {E E0 q : List Int} {x : zC} {u : Option Value} {h0 : zH} (h : alr1 e E0.length X w G sr = true) (R : aRel S rf (aiv B) E X x) (hD : aDs E G.1) (hH : aHfs E x.2.2.2 G.2.2.2) (hu : aRet E u w) (hE : E = E0 ++ q) (hw : aFr (aWf e.2.2.2.2.2) h0 x.2.2.2) (hj : aJ x.2.2.2) : aPost S rf B e E0 h0 u x.2.2.2 := by
  unfold alr1 at h
  rw [Bool.and_eq_true, Bool.and_eq_true, Bool.and_eq_true, Bool.and_eq_true] at h
  obtain ⟨⟨c1, c2⟩, c3, c4, c5⟩ := h
  have em : (aidf 0 E0.length ++ sr).map (aval E) = E0 ++ sr.map (aval E) := by rw [List.map_append, hE, aid0]
  refine ⟨sr.map (aval E), amB_ok R.1 c1, ?_, ⟨R.2.2.2.2.1, fun o k a ha => ?_⟩, ?_, ?_, hw, hj⟩
  · rw [← em]
    match e.2.2.2.2.1.2.2.1, w, u, c2, hu with
    | some a, some b, some v, c2, hu =>
      exact amV_ok R.1 hu c2
    | none, none, none, _, _ => trivial
    | some a, none, _, c2, _ =>
      cases c2
    | none, some b, _, c2, _ =>
      cases c2
  · rw [← em]
    obtain ⟨b, b1, b2⟩ := amT_ok c3 ha
    exact amI_ok R.1 (R.2.2.2.2.2 o k b b1) b2
  · rw [← em]
    exact adsM_ok R.1 hD c4
  · rw [← em]
    exact adrM_ok R.1 hH c5
theorem acuts_ok (hes : ∀ e', e' ∈ es → aOK S rf B e') (hc : ∀ c, c ∈ cuts → aseg S rf B es sp e cuts f (some c) = true) {E0 : List Int} {h0 : zH} (hn : E0.length = e.2.2.1.1.length) (hsl : ∀ k, e.2.2.2.1.2 = some k → ∃ n : Nat, zget h0.1 0 = some (5, n) ∧ zget E0 k = some (n : Int) ∧ n ≤ 3072) : ∀ (n : Nat) (c : aC), c ∈ cuts → ∀ (E : List Int) (x : zC), (∃ q, E = E0 ++ q) → aRel S rf (aiv B) E c.1 x → aDs E c.2.1.1 → aDrs E x.2.2.2.2.2.1 c.2.1.2 → aFr (aWf e.2.2.2.2.2) h0 x.2.2.2 → aJ x.2.2.2 → (c.2.2.1 + alv E c.2.2.2).toNat < n → zTS e.2.1 [] e.1 x (aPost S rf B e E0 h0)
  | 0, _, _, _, _, _, _, _, _, _, _, h => by omega
  | n + 1, c, hcm, E, x, hE, R, hD, hr, hw, hj, hm => by
    have h := hc c hcm
    unfold aseg at h
    dsimp only at h
    rw [Bool.and_eq_true, Bool.and_eq_true] at h
    obtain ⟨h1, h2, h3⟩ := h
    rw [← hn] at h1
    refine arunY_ok (Es := E) (h0 := h0) hes (fun d X G E' x' l1 r1 r2 r8 r3 r4 r7 => ?_) (fun X w G E' x' u l1 r1 r2 r8 r3 r4 r5 r7 => ?_) f e.2.1 true _ E x [] h1 R hD (fun f hf => by cases hf) (fun f hf => by cases hf) ⟨fun f hf => (by cases hf), hr, fun k hk => by
        obtain ⟨n, s1, s2, s3⟩ := hsl k hk
        obtain ⟨q, hq⟩ := hE
        exact ⟨n, by rw [hw.2.2]; exact s1, by rw [hq]; exact zget_app s2, s3⟩, fun p hp => (by cases hp)⟩ trivial ⟨[], by rw [List.append_nil]⟩ hw hj
    · unfold alfC at l1
      rw [Bool.and_eq_true] at l1
      have ed := Nat.eq_of_beq_eq_true l1.1
      subst ed
      obtain ⟨c', m1, m2⟩ := List.any_eq_true.mp l1.2
      rw [Bool.and_eq_true] at m2
      have m2 := m2.2
      unfold alc1 at m2
      rw [Bool.and_eq_true, Bool.and_eq_true, Bool.and_eq_true] at m2
      obtain ⟨⟨⟨m3, m4⟩, m6⟩, m5⟩ := m2
      dsimp only at m5
      obtain ⟨q', hq'⟩ := r3
      obtain ⟨q, hq⟩ := hE
      have em : ∃ q2, (asgp E0.length c'.1 X).map (aval E') = E0 ++ q2 := by
        unfold asgp
        dsimp only
        rw [List.map_append, hq', hq, List.append_assoc, aid0]
        exact ⟨_, rfl⟩
      have k := ale0_ok r1.1 r2 m5
      rw [alng_ok, alsg_ok] at k
      have z : alv E' ([] : aLn) = 0 := rfl
      rw [z] at k
      have hx : alv E' c.2.2.2 = alv E c.2.2.2 := by
        rw [hq']
        exact alv_ext (by rw [R.1.1]; exact h3)
      rw [hx] at k
      have h' := hc c' m1
      unfold aseg at h'
      dsimp only at h'
      rw [Bool.and_eq_true, Bool.and_eq_true] at h'
      have R' := ameet_ok r1 m3
      have D' := adsM_ok r1.1 r2 m4
      have k2 := ale0_ok R'.1 D' h'.2.1
      rw [alng_ok] at k2
      have z2 : alv ((asgp E0.length c'.1 X).map (aval E')) ([] : aLn) = 0 := rfl
      rw [z2] at k2
      exact acuts_ok hes hc hn hsl n c' m1 _ x' em R' D' (adrM_ok r1.1 r8 m6) r4 r7 (by dsimp only at k k2; omega)
    · obtain ⟨q', hq'⟩ := r4
      obtain ⟨q, hq⟩ := hE
      exact alr_ok (q := q ++ q') l1 r1 r2 r8 r3 (by rw [hq', hq, List.append_assoc]) r5 r7
theorem aOK_of (hes : ∀ e', e' ∈ es → aOK S rf B e') (hc : ∀ c, c ∈ cuts → aseg S rf B es sp e cuts f (some c) = true) (h : aseg S rf B es sp e cuts f none = true) : aOK S rf B e := by
  intro E x R hD hsl hj
  unfold aseg at h
  dsimp only at h
  have hn : E.length = e.2.2.1.1.length := R.1.1
  rw [← hn] at h
  refine arunY_ok (Es := E) (h0 := x.2.2.2) hes (fun d X G E' x' l1 r1 r2 r8 r3 r4 r7 => ?_) (fun X w G E' x' u l1 r1 r2 r8 r3 r4 r5 r7 => ?_) f e.2.1 true _ E x [] h R hD (fun f hf => by cases hf) (fun f hf => by cases hf) ⟨fun f hf => (by cases hf), fun f hf => (by cases hf), hsl, fun p hp => (by cases hp)⟩ trivial ⟨[], by rw [List.append_nil]⟩ aFr_refl hj
  · unfold alfC at l1
    rw [Bool.and_eq_true] at l1
    have ed := Nat.eq_of_beq_eq_true l1.1
    subst ed
    obtain ⟨c', m1, m2⟩ := List.any_eq_true.mp l1.2
    rw [Bool.and_eq_true] at m2
    have m2 := m2.2
    unfold alc1 at m2
    rw [Bool.and_eq_true, Bool.and_eq_true, Bool.and_eq_true] at m2
    obtain ⟨⟨⟨m3, m4⟩, m6⟩, m5⟩ := m2
    obtain ⟨q', hq'⟩ := r3
    have em : ∃ q2, (asgp E.length c'.1 X).map (aval E') = E ++ q2 := by
      unfold asgp
      dsimp only
      rw [List.map_append, hq', aid0]
      exact ⟨_, rfl⟩
    exact acuts_ok hes hc hn hsl _ c' m1 _ x' em (ameet_ok r1 m3) (adsM_ok r1.1 r2 m4) (adrM_ok r1.1 r8 m6) r4 r7 (Nat.lt_succ_self _)
  · obtain ⟨q', hq'⟩ := r4
    exact alr_ok (q := q') l1 r1 r2 r8 r3 hq' r5 r7
end AO
/-! WHAT LIES BEHIND THE ENDS of cells is 0, and stays so. Printed by a program (wip/ai/start.py). -/
theorem zh_0 {x y : zC} {len a b c : Nat} {v : Value} {sw : List (Int32 × Nat)} (h : zs0 len v x = some (.inl y)) : y.2.2.2 = x.2.2.2 := by
  obtain ⟨pc, lo, st, h1⟩ := x
  simp only [zs0, zgo, Bool.cond_eq_ite] at h
  first
  | (cases h; rfl)
  | (repeat' split at h
     all_goals first
       | (cases h; done)
       | (cases h; rfl))
theorem zh_1 {x y : zC} {len a b c : Nat} {v : Value} {sw : List (Int32 × Nat)} (h : zs1 len a x = some (.inl y)) : y.2.2.2 = x.2.2.2 := by
  obtain ⟨pc, lo, st, h1⟩ := x
  simp only [zs1, zgo, Bool.cond_eq_ite] at h
  first
  | (cases h; rfl)
  | (repeat' split at h
     all_goals first
       | (cases h; done)
       | (cases h; rfl))
theorem zh_2 {x y : zC} {len a b c : Nat} {v : Value} {sw : List (Int32 × Nat)} (h : zs2 len a x = some (.inl y)) : y.2.2.2 = x.2.2.2 := by
  obtain ⟨pc, lo, st, h1⟩ := x
  simp only [zs2, zgo, Bool.cond_eq_ite] at h
  first
  | (cases h; rfl)
  | (repeat' split at h
     all_goals first
       | (cases h; done)
       | (cases h; rfl))
theorem zh_3 {x y : zC} {len a b c : Nat} {v : Value} {sw : List (Int32 × Nat)} (h : zs3 len a x = some (.inl y)) : y.2.2.2 = x.2.2.2 := by
  obtain ⟨pc, lo, st, h1⟩ := x
  simp only [zs3, zgo, Bool.cond_eq_ite] at h
  first
  | (cases h; rfl)
  | (repeat' split at h
     all_goals first
       | (cases h; done)
       | (cases h; rfl))
theorem zh_4 {x y : zC} {len a b c : Nat} {v : Value} {sw : List (Int32 × Nat)} (h : zs4 len a x = some (.inl y)) : y.2.2.2 = x.2.2.2 := by
  obtain ⟨pc, lo, st, h1⟩ := x
  simp only [zs4, zgo, Bool.cond_eq_ite] at h
  first
  | (cases h; rfl)
  | (repeat' split at h
     all_goals first
       | (cases h; done)
       | (cases h; rfl))
theorem zh_5 {x y : zC} {len a b c : Nat} {v : Value} {sw : List (Int32 × Nat)} (h : zs5 len a x = some (.inl y)) : y.2.2.2 = x.2.2.2 := by
  obtain ⟨pc, lo, st, h1⟩ := x
  simp only [zs5, zgo, Bool.cond_eq_ite] at h
  first
  | (cases h; rfl)
  | (repeat' split at h
     all_goals first
       | (cases h; done)
       | (cases h; rfl))
theorem zh_6 {x y : zC} {len a b c : Nat} {v : Value} {sw : List (Int32 × Nat)} (h : zs6 len a x = some (.inl y)) : y.2.2.2 = x.2.2.2 := by
  obtain ⟨pc, lo, st, h1⟩ := x
  simp only [zs6, zgo, Bool.cond_eq_ite] at h
  first
  | (cases h; rfl)
  | (repeat' split at h
     all_goals first
       | (cases h; done)
       | (cases h; rfl))
theorem zh_7 {x y : zC} {len a b c : Nat} {v : Value} {sw : List (Int32 × Nat)} (h : zs7 len b x = some (.inl y)) : y.2.2.2 = x.2.2.2 := by
  obtain ⟨pc, lo, st, h1⟩ := x
  simp only [zs7, zgo, Bool.cond_eq_ite] at h
  first
  | (cases h; rfl)
  | (repeat' split at h
     all_goals first
       | (cases h; done)
       | (cases h; rfl))
theorem zh_8 {x y : zC} {len a b c : Nat} {v : Value} {sw : List (Int32 × Nat)} (h : zs8 len b x = some (.inl y)) : y.2.2.2 = x.2.2.2 := by
  obtain ⟨pc, lo, st, h1⟩ := x
  simp only [zs8, zgo, Bool.cond_eq_ite] at h
  first
  | (cases h; rfl)
  | (repeat' split at h
     all_goals first
       | (cases h; done)
       | (cases h; rfl))
theorem zh_9 {x y : zC} {len a b c : Nat} {v : Value} {sw : List (Int32 × Nat)} (h : zs9 len b x = some (.inl y)) : y.2.2.2 = x.2.2.2 := by
  obtain ⟨pc, lo, st, h1⟩ := x
  simp only [zs9, zgo, Bool.cond_eq_ite] at h
  first
  | (cases h; rfl)
  | (repeat' split at h
     all_goals first
       | (cases h; done)
       | (cases h; rfl))
theorem zh_10 {x y : zC} {len a b c : Nat} {v : Value} {sw : List (Int32 × Nat)} (h : zs10 len x = some (.inl y)) : y.2.2.2 = x.2.2.2 := by
  obtain ⟨pc, lo, st, h1⟩ := x
  simp only [zs10, zgo, Bool.cond_eq_ite] at h
  first
  | (cases h; rfl)
  | (repeat' split at h
     all_goals first
       | (cases h; done)
       | (cases h; rfl))
theorem zh_11 {x y : zC} {len a b c : Nat} {v : Value} {sw : List (Int32 × Nat)} (h : zs11 len x = some (.inl y)) : y.2.2.2 = x.2.2.2 := by
  obtain ⟨pc, lo, st, h1⟩ := x
  simp only [zs11, zgo, Bool.cond_eq_ite] at h
  first
  | (cases h; rfl)
  | (repeat' split at h
     all_goals first
       | (cases h; done)
       | (cases h; rfl))
theorem zh_12 {x y : zC} {len a b c : Nat} {v : Value} {sw : List (Int32 × Nat)} (h : zs12 len b x = some (.inl y)) : y.2.2.2 = x.2.2.2 := by
  obtain ⟨pc, lo, st, h1⟩ := x
  simp only [zs12, zgo, Bool.cond_eq_ite] at h
  first
  | (cases h; rfl)
  | (repeat' split at h
     all_goals first
       | (cases h; done)
       | (cases h; rfl))
theorem zh_13 {x y : zC} {len a b c : Nat} {v : Value} {sw : List (Int32 × Nat)} (h : zs13 len x = some (.inl y)) : y.2.2.2 = x.2.2.2 := by
  obtain ⟨pc, lo, st, h1⟩ := x
  simp only [zs13, zgo, Bool.cond_eq_ite] at h
  first
  | (cases h; rfl)
  | (repeat' split at h
     all_goals first
       | (cases h; done)
       | (cases h; rfl))
theorem zh_14 {x y : zC} {len a b c : Nat} {v : Value} {sw : List (Int32 × Nat)} (h : zs14 len x = some (.inl y)) : y.2.2.2 = x.2.2.2 := by
  obtain ⟨pc, lo, st, h1⟩ := x
  simp only [zs14, zgo, Bool.cond_eq_ite] at h
  first
  | (cases h; rfl)
  | (repeat' split at h
     all_goals first
       | (cases h; done)
       | (cases h; rfl))
theorem zh_15 {x y : zC} {len a b c : Nat} {v : Value} {sw : List (Int32 × Nat)} (h : zs15 len a b x = some (.inl y)) : y.2.2.2 = x.2.2.2 := by
  obtain ⟨pc, lo, st, h1⟩ := x
  simp only [zs15, zgo, Bool.cond_eq_ite] at h
  first
  | (cases h; rfl)
  | (repeat' split at h
     all_goals first
       | (cases h; done)
       | (cases h; rfl))
theorem zh_16 {x y : zC} {len a b c : Nat} {v : Value} {sw : List (Int32 × Nat)} (h : zs16 len a b x = some (.inl y)) : y.2.2.2 = x.2.2.2 := by
  obtain ⟨pc, lo, st, h1⟩ := x
  simp only [zs16, zgo, Bool.cond_eq_ite] at h
  first
  | (cases h; rfl)
  | (repeat' split at h
     all_goals first
       | (cases h; done)
       | (cases h; rfl))
theorem zh_17 {x y : zC} {len a b c : Nat} {v : Value} {sw : List (Int32 × Nat)} (h : zs17 a x = some (.inl y)) : y.2.2.2 = x.2.2.2 := by
  obtain ⟨pc, lo, st, h1⟩ := x
  simp only [zs17, zgo, Bool.cond_eq_ite] at h
  first
  | (cases h; rfl)
  | (repeat' split at h
     all_goals first
       | (cases h; done)
       | (cases h; rfl))
theorem zh_18 {x y : zC} {len a b c : Nat} {v : Value} {sw : List (Int32 × Nat)} (h : zs18 a sw x = some (.inl y)) : y.2.2.2 = x.2.2.2 := by
  obtain ⟨pc, lo, st, h1⟩ := x
  simp only [zs18, zgo, Bool.cond_eq_ite] at h
  first
  | (cases h; rfl)
  | (repeat' split at h
     all_goals first
       | (cases h; done)
       | (cases h; rfl))
theorem zh_19 {x y : zC} {len a b c : Nat} {v : Value} {sw : List (Int32 × Nat)} (h : zs19 len a v x = some (.inl y)) : y.2.2.2 = x.2.2.2 := by
  obtain ⟨pc, lo, st, h1⟩ := x
  simp only [zs19, zgo, Bool.cond_eq_ite] at h
  first
  | (cases h; rfl)
  | (repeat' split at h
     all_goals first
       | (cases h; done)
       | (cases h; rfl))
theorem zh_20 {x y : zC} {len a b c : Nat} {v : Value} {sw : List (Int32 × Nat)} (h : zs20 len a b c x = some (.inl y)) : y.2.2.2 = x.2.2.2 := by
  obtain ⟨pc, lo, st, h1⟩ := x
  simp only [zs20, zgo, Bool.cond_eq_ite] at h
  first
  | (cases h; rfl)
  | (repeat' split at h
     all_goals first
       | (cases h; done)
       | (cases h; rfl))
theorem zh_22 {x y : zC} {len a b c : Nat} {v : Value} {sw : List (Int32 × Nat)} (h : zs22 len x = some (.inl y)) : y.2.2.2 = x.2.2.2 := by
  obtain ⟨pc, lo, st, h1⟩ := x
  simp only [zs22, zgo, Bool.cond_eq_ite] at h
  first
  | (cases h; rfl)
  | (repeat' split at h
     all_goals first
       | (cases h; done)
       | (cases h; rfl))
theorem zh_23 {x y : zC} {len a b c : Nat} {v : Value} {sw : List (Int32 × Nat)} (h : zs23 len x = some (.inl y)) : y.2.2.2 = x.2.2.2 := by
  obtain ⟨pc, lo, st, h1⟩ := x
  simp only [zs23, zgo, Bool.cond_eq_ite] at h
  first
  | (cases h; rfl)
  | (repeat' split at h
     all_goals first
       | (cases h; done)
       | (cases h; rfl))
theorem zh_24 {x y : zC} {len a b c : Nat} {v : Value} {sw : List (Int32 × Nat)} (h : zs24 len x = some (.inl y)) : y.2.2.2 = x.2.2.2 := by
  obtain ⟨pc, lo, st, h1⟩ := x
  simp only [zs24, zgo, Bool.cond_eq_ite] at h
  first
  | (cases h; rfl)
  | (repeat' split at h
     all_goals first
       | (cases h; done)
       | (cases h; rfl))
theorem zh_28 {x y : zC} {len a b c : Nat} {v : Value} {sw : List (Int32 × Nat)} (h : zs28 len x = some (.inl y)) : y.2.2.2 = x.2.2.2 := by
  obtain ⟨pc, lo, st, h1⟩ := x
  simp only [zs28, zgo, Bool.cond_eq_ite] at h
  first
  | (cases h; rfl)
  | (repeat' split at h
     all_goals first
       | (cases h; done)
       | (cases h; rfl))
theorem zh_31 {x y : zC} {len a b c : Nat} {v : Value} {sw : List (Int32 × Nat)} (h : zs31 len b x = some (.inl y)) : y.2.2.2 = x.2.2.2 := by
  obtain ⟨pc, lo, st, h1⟩ := x
  simp only [zs31, zgo, Bool.cond_eq_ite] at h
  first
  | (cases h; rfl)
  | (repeat' split at h
     all_goals first
       | (cases h; done)
       | (cases h; rfl))
theorem zh_33 {x y : zC} {len a b c : Nat} {v : Value} {sw : List (Int32 × Nat)} (h : zs33 len x = some (.inl y)) : y.2.2.2 = x.2.2.2 := by
  obtain ⟨pc, lo, st, h1⟩ := x
  simp only [zs33, zgo, Bool.cond_eq_ite] at h
  first
  | (cases h; rfl)
  | (repeat' split at h
     all_goals first
       | (cases h; done)
       | (cases h; rfl))
theorem zh_39 {x y : zC} {len a b c : Nat} {v : Value} {sw : List (Int32 × Nat)} (h : zs39 len x = some (.inl y)) : y.2.2.2 = x.2.2.2 := by
  obtain ⟨pc, lo, st, h1⟩ := x
  simp only [zs39, zgo, Bool.cond_eq_ite] at h
  first
  | (cases h; rfl)
  | (repeat' split at h
     all_goals first
       | (cases h; done)
       | (cases h; rfl))
theorem zh_40 {x y : zC} {len a b c : Nat} {v : Value} {sw : List (Int32 × Nat)} (h : zs40 len x = some (.inl y)) : y.2.2.2 = x.2.2.2 := by
  obtain ⟨pc, lo, st, h1⟩ := x
  simp only [zs40, zgo, Bool.cond_eq_ite] at h
  first
  | (cases h; rfl)
  | (repeat' split at h
     all_goals first
       | (cases h; done)
       | (cases h; rfl))
theorem zh_41 {x y : zC} {len a b c : Nat} {v : Value} {sw : List (Int32 × Nat)} (h : zs41 len x = some (.inl y)) : y.2.2.2 = x.2.2.2 := by
  obtain ⟨pc, lo, st, h1⟩ := x
  simp only [zs41, zgo, Bool.cond_eq_ite] at h
  first
  | (cases h; rfl)
  | (repeat' split at h
     all_goals first
       | (cases h; done)
       | (cases h; rfl))
theorem zh_42 {x y : zC} {len a b c : Nat} {v : Value} {sw : List (Int32 × Nat)} (h : zs42 len x = some (.inl y)) : y.2.2.2 = x.2.2.2 := by
  obtain ⟨pc, lo, st, h1⟩ := x
  simp only [zs42, zgo, Bool.cond_eq_ite] at h
  first
  | (cases h; rfl)
  | (repeat' split at h
     all_goals first
       | (cases h; done)
       | (cases h; rfl))
theorem zh_43 {x y : zC} {len a b c : Nat} {v : Value} {sw : List (Int32 × Nat)} (h : zs43 len a x = some (.inl y)) : y.2.2.2 = x.2.2.2 := by
  obtain ⟨pc, lo, st, h1⟩ := x
  simp only [zs43, zgo, Bool.cond_eq_ite] at h
  first
  | (cases h; rfl)
  | (repeat' split at h
     all_goals first
       | (cases h; done)
       | (cases h; rfl))
theorem zh_44 {x y : zC} {len a b c : Nat} {v : Value} {sw : List (Int32 × Nat)} (h : zs44 len x = some (.inl y)) : y.2.2.2 = x.2.2.2 := by
  obtain ⟨pc, lo, st, h1⟩ := x
  simp only [zs44, zgo, Bool.cond_eq_ite] at h
  first
  | (cases h; rfl)
  | (repeat' split at h
     all_goals first
       | (cases h; done)
       | (cases h; rfl))
/-- behind a cell's end, and where no cell is, all is 0 -/
def hZ (h : zH) : Prop := ∀ o k, (∀ t n, zget h.1 o = some (t, n) → n ≤ k) → h.2.1 o k = 0
theorem hZ_up {h : zH} {o k t n : Nat} {x : Int32} (hz : hZ h) (hg : zget h.1 o = some (t, n)) (hk : k < n) : hZ (h.1, zup h.2.1 o k x, h.2.2.1, h.2.2.2) := by
  intro o' k' hq
  dsimp only at hq ⊢
  rw [zne_up (fun q => by
    have := hq t n (by rw [q.1]; exact hg)
    omega)]
  exact hz o' k' hq
theorem hZ_21 {x y : zC} {len a b c : Nat} (hz : hZ x.2.2.2) (h : zs21 len a b c x = some (.inl y)) : hZ y.2.2.2 := by
  obtain ⟨pc, lo, st, h1⟩ := x
  unfold zs21 zgo at h
  dsimp only at h hz
  split at h
  · split at h
    · rename_i t n hg
      generalize hc : (Nat.beq t (10 + a) && Nat.blt b n) = cc at h
      cases cc with
      | false => cases h
      | true =>
        rw [Bool.and_eq_true, Nat.blt_eq] at hc
        dsimp only [cond_true] at h
        split at h
        · cases h
          exact hZ_up hz hg hc.2
        · split at h
          · cases h
            exact hZ_up hz hg hc.2
          · cases h
        · cases h
    · cases h
  · split at h
    · rename_i t n hg
      generalize hc : (Nat.beq t (10 + a) && Nat.blt b n) = cc at h
      cases cc with
      | false => cases h
      | true =>
        dsimp only [cond_true] at h
        split at h
        · cases h
          exact hz
        · cases h
    · cases h
  · cases h
theorem hZ_25 {x y : zC} {len : Nat} (hz : hZ x.2.2.2) (h : zs25 len x = some (.inl y)) : hZ y.2.2.2 := by
  obtain ⟨pc, lo, st, h1⟩ := x
  unfold zs25 zgo at h
  dsimp only at h hz
  split at h
  · rename_i xv i o r
    split at h
    · rename_i t n hg
      generalize hc : (Nat.beq t 0 && Nat.blt (zix i) n) = cc at h
      cases cc with
      | false => cases h
      | true =>
        rw [Bool.and_eq_true, Nat.blt_eq] at hc
        cases h
        exact hZ_up hz hg hc.2
    · cases h
  · cases h
theorem hZ_26 {x y : zC} {len : Nat} (hz : hZ x.2.2.2) (h : zs26 len x = some (.inl y)) : hZ y.2.2.2 := by
  obtain ⟨pc, lo, st, h1⟩ := x
  simp only [zs26, zgo, Bool.cond_eq_ite] at h
  repeat' split at h
  all_goals first
    | (cases h; done)
    | (cases h; exact hz)
theorem hZ_27 {x y : zC} {len : Nat} (hz : hZ x.2.2.2) (h : zs27 len x = some (.inl y)) : hZ y.2.2.2 := by
  obtain ⟨pc, lo, st, h1⟩ := x
  simp only [zs27, zgo, Bool.cond_eq_ite] at h
  repeat' split at h
  all_goals first
    | (cases h; done)
    | (cases h; exact hz)
theorem hZ_new {h : zH} {t n : Nat} (hz : hZ h) : hZ (znew h t n) := by
  intro o k hq
  show zrow h.2.1 h.1.length (fun _ => 0) o k = 0
  have hq : ∀ t' n', zget (h.1 ++ [(t, n)]) o = some (t', n') → n' ≤ k := hq
  by_cases ho : o = h.1.length
  · subst ho
    rw [zrk_eq]
  · rw [zrk_ne ho]
    exact hz o k (fun t' n' hg => hq t' n' (zget_app hg))
theorem hZ_29 {x y : zC} {len a b : Nat} (hz : hZ x.2.2.2) (h : zs29 len a b x = some (.inl y)) : hZ y.2.2.2 := by
  obtain ⟨pc, lo, st, h1⟩ := x
  cases h
  exact hZ_new hz
theorem hZ_30 {x y : zC} {len a : Nat} (hz : hZ x.2.2.2) (h : zs30 len a x = some (.inl y)) : hZ y.2.2.2 := by
  obtain ⟨pc, lo, st, h1⟩ := x
  simp only [zs30, zgo, Bool.cond_eq_ite] at h
  repeat' split at h
  all_goals first
    | (cases h; done)
    | (cases h; exact hZ_new hz)
theorem hZ_34 {x y : zC} {len : Nat} (hz : hZ x.2.2.2) (h : zs34 len x = some (.inl y)) : hZ y.2.2.2 := by
  obtain ⟨pc, lo, st, h1⟩ := x
  unfold zs34 zgo at h
  dsimp only at h hz
  split at h
  · rename_i nn dp o1 sp o0 r
    split at h
    · rename_i t0 n0 t1 n1 g0 g1
      generalize hc : ((((Nat.beq t0 t1 && Nat.blt (zix nn) 100000) && (Nat.blt (zix sp) 100000 && Nat.blt (zix dp) 100000)) && (Nat.ble (zix sp + zix nn) n0 && Nat.ble (zix dp + zix nn) n1)) && Nat.ble (zcat r) 8) = cc at h
      cases cc with
      | false => cases h
      | true =>
        rw [Bool.and_eq_true, Bool.and_eq_true, Bool.and_eq_true (Nat.ble (zix sp + zix nn) n0), Nat.ble_eq, Nat.ble_eq] at hc
        dsimp only [cond_true] at h
        split at h
        · cases h
          intro o' k' hq
          dsimp only at hq ⊢
          by_cases ho : o' = o1
          · subst ho
            rw [zrk_eq]
            have hk := hq _ _ g1
            unfold zcpy
            rw [show (Nat.ble (zix dp) k' && Nat.blt k' (zix dp + zix nn)) = false by
              cases hb : Nat.blt k' (zix dp + zix nn)
              · rw [Bool.and_false]
              · rw [Nat.blt_eq] at hb
                omega]
            exact hz o' k' hq
          · rw [zrk_ne ho]
            exact hz o' k' hq
        · cases h
          exact hz
        · cases h
    · cases h
  · cases h
theorem zg_32n {x y : zC} {len a b c ci : Nat} (h : zs32 len a b c ci x = some (.inl y)) : False := by
  obtain ⟨pc, lo, st, h1⟩ := x
  simp only [zs32, Bool.cond_eq_ite] at h
  repeat' split at h
  all_goals cases h
theorem hZ_step {op len a b c : Nat} {v : Value} {sw : List (Int32 × Nat)} {x y : zC} (hz : hZ x.2.2.2) (h : zstep (op, len, a, b, c, v, sw) x = some (.inl y)) : hZ y.2.2.2 := by
  match op, h with
  | 0, h => rw [zh_0 (len := len) (a := a) (b := b) (c := c) (v := v) (sw := sw) h]; exact hz
  | 1, h => rw [zh_1 (len := len) (a := a) (b := b) (c := c) (v := v) (sw := sw) h]; exact hz
  | 2, h => rw [zh_2 (len := len) (a := a) (b := b) (c := c) (v := v) (sw := sw) h]; exact hz
  | 3, h => rw [zh_3 (len := len) (a := a) (b := b) (c := c) (v := v) (sw := sw) h]; exact hz
  | 4, h => rw [zh_4 (len := len) (a := a) (b := b) (c := c) (v := v) (sw := sw) h]; exact hz
  | 5, h => rw [zh_5 (len := len) (a := a) (b := b) (c := c) (v := v) (sw := sw) h]; exact hz
  | 6, h => rw [zh_6 (len := len) (a := a) (b := b) (c := c) (v := v) (sw := sw) h]; exact hz
  | 7, h => rw [zh_7 (len := len) (a := a) (b := b) (c := c) (v := v) (sw := sw) h]; exact hz
  | 8, h => rw [zh_8 (len := len) (a := a) (b := b) (c := c) (v := v) (sw := sw) h]; exact hz
  | 9, h => rw [zh_9 (len := len) (a := a) (b := b) (c := c) (v := v) (sw := sw) h]; exact hz
  | 10, h => rw [zh_10 (len := len) (a := a) (b := b) (c := c) (v := v) (sw := sw) h]; exact hz
  | 11, h => rw [zh_11 (len := len) (a := a) (b := b) (c := c) (v := v) (sw := sw) h]; exact hz
  | 12, h => rw [zh_12 (len := len) (a := a) (b := b) (c := c) (v := v) (sw := sw) h]; exact hz
  | 13, h => rw [zh_13 (len := len) (a := a) (b := b) (c := c) (v := v) (sw := sw) h]; exact hz
  | 14, h => rw [zh_14 (len := len) (a := a) (b := b) (c := c) (v := v) (sw := sw) h]; exact hz
  | 15, h => rw [zh_15 (len := len) (a := a) (b := b) (c := c) (v := v) (sw := sw) h]; exact hz
  | 16, h => rw [zh_16 (len := len) (a := a) (b := b) (c := c) (v := v) (sw := sw) h]; exact hz
  | 17, h => rw [zh_17 (len := len) (a := a) (b := b) (c := c) (v := v) (sw := sw) h]; exact hz
  | 18, h => rw [zh_18 (len := len) (a := a) (b := b) (c := c) (v := v) (sw := sw) h]; exact hz
  | 19, h => rw [zh_19 (len := len) (a := a) (b := b) (c := c) (v := v) (sw := sw) h]; exact hz
  | 20, h => rw [zh_20 (len := len) (a := a) (b := b) (c := c) (v := v) (sw := sw) h]; exact hz
  | 21, h => exact hZ_21 hz h
  | 22, h => rw [zh_22 (len := len) (a := a) (b := b) (c := c) (v := v) (sw := sw) h]; exact hz
  | 23, h => rw [zh_23 (len := len) (a := a) (b := b) (c := c) (v := v) (sw := sw) h]; exact hz
  | 24, h => rw [zh_24 (len := len) (a := a) (b := b) (c := c) (v := v) (sw := sw) h]; exact hz
  | 25, h => exact hZ_25 hz h
  | 26, h => exact hZ_26 hz h
  | 27, h => exact hZ_27 hz h
  | 28, h => rw [zh_28 (len := len) (a := a) (b := b) (c := c) (v := v) (sw := sw) h]; exact hz
  | 29, h => exact hZ_29 hz h
  | 30, h => exact hZ_30 hz h
  | 31, h => rw [zh_31 (len := len) (a := a) (b := b) (c := c) (v := v) (sw := sw) h]; exact hz
  | 32, h =>
    exfalso
    rcases zg_all h with ⟨_, _, e, _⟩ | ⟨_, _, _, e⟩ | ⟨_, e⟩
    · have := zg_32n h
      exact this
    · cases e
    · cases e
  | 33, h => rw [zh_33 (len := len) (a := a) (b := b) (c := c) (v := v) (sw := sw) h]; exact hz
  | 34, h => exact hZ_34 hz h
  | 35, h =>
    exfalso
    obtain ⟨_, e⟩ := zg_35 h
    cases e
  | 36, h =>
    exfalso
    obtain ⟨_, e⟩ := zg_36 h
    cases e
  | 37, h =>
    exfalso
    obtain ⟨_, e⟩ := zg_37 h
    cases e
  | 38, h =>
    exfalso
    obtain ⟨_, e⟩ := zg_38 h
    cases e
  | 39, h => rw [zh_39 (len := len) (a := a) (b := b) (c := c) (v := v) (sw := sw) h]; exact hz
  | 40, h => rw [zh_40 (len := len) (a := a) (b := b) (c := c) (v := v) (sw := sw) h]; exact hz
  | 41, h => rw [zh_41 (len := len) (a := a) (b := b) (c := c) (v := v) (sw := sw) h]; exact hz
  | 42, h => rw [zh_42 (len := len) (a := a) (b := b) (c := c) (v := v) (sw := sw) h]; exact hz
  | 43, h => rw [zh_43 (len := len) (a := a) (b := b) (c := c) (v := v) (sw := sw) h]; exact hz
  | 44, h => rw [zh_44 (len := len) (a := a) (b := b) (c := c) (v := v) (sw := sw) h]; exact hz
  | n + 45, h => cases h
theorem hZ_run : ∀ (f d mi stop : Nat) (x : zC) (o : zC ⊕ (Option Value × zH)), zr f d mi stop x = some o → hZ x.2.2.2 → hZ (zoh o)
  | 0, _, _, _, _, _, h, _ => by cases h
  | f + 1, d, mi, stop, x, o, h, hz => by
    rcases zr_step h with ⟨-, rfl⟩ | ⟨e, he, hq⟩
    · exact hz
    · obtain ⟨op, len, a, b, c, v, sw⟩ := e
      rcases hq with ⟨y, hy, hr⟩ | ⟨r, hy, rfl⟩ | ⟨a', as, y, d1, r, h1, hy, rfl, hl, h2, h3⟩
      · exact hZ_run f d mi stop y o hr (hZ_step hz hy)
      · exact hz
      · exact hZ_run f (d1 + 1) mi stop _ o h3 (hZ_run f d1 a' 100000 _ _ h2 hz)
/-! RUNS WITH THE SCRIPT PUT IN: a run that never looks at cell 0 goes the same way over any script. -/
theorem okT_nil {e : zI} {st : List Value} : okT [] e st = true := by
  unfold okT
  repeat' split
  all_goals rfl
theorem zi_sokv1 : zia.all (fun g => g.all (fun t => t.all (fun r => r.all (fun e => match e with
  | some e => sokv e.2.2.2.2.2.1
  | none => true)))) = true := by decide +kernel
theorem zi_sokv {mi pc : Nat} {e : zI} (h : zi mi pc = some e) : sokv e.2.2.2.2.2.1 = true := by
  unfold zi at h
  cases h1 : zget zia (mi / 16) with
  | none => rw [h1] at h; cases h
  | some g =>
    rw [h1] at h
    dsimp only at h
    cases h2 : zget g (mi % 16) with
    | none => rw [h2] at h; cases h
    | some t =>
      rw [h2] at h
      dsimp only at h
      cases h3 : zget t (pc / 16) with
      | none => rw [h3] at h; cases h
      | some r =>
        rw [h3] at h
        dsimp only at h
        cases h4 : zget r (pc % 16) with
        | none => rw [h4] at h; cases h
        | some e' =>
          rw [h4] at h
          dsimp only at h
          subst h
          exact List.all_eq_true.mp (List.all_eq_true.mp (List.all_eq_true.mp (List.all_eq_true.mp zi_sokv1 g (zget_mem h1)) t (zget_mem h2)) r (zget_mem h3)) _ (zget_mem h4)
theorem sokv_val {E : Nat → Int32} {v : Value} (h : sokv v = true) : sval E v = v := by
  cases v <;> first
    | rfl
    | cases h
def sOO (E : Nat → Int32) (L : Nat) : zC ⊕ (Option Value × zH) → zC ⊕ (Option Value × zH)
  | .inl y => .inl (sC E L [] y)
  | .inr q => .inr (q.1.map (sval E), sH E L [] q.2)
theorem sHd_app {h h1 : zH} {q : List (Nat × Nat)} (hh : sHd h) (e : h1.1 = h.1 ++ q) : sHd h1 := by
  obtain ⟨tl, ht⟩ := hh
  exact ⟨tl ++ q, by rw [e, ht]; rfl⟩
theorem zr_sub {E : Nat → Int32} {L : Nat} : ∀ (f d mi stop : Nat) (x : zC) (o : zC ⊕ (Option Value × zH)), zr f d mi stop x = some o → sHd x.2.2.2 → zr f d mi stop (sC E L [] x) = some (sOO E L o)
  | 0, _, _, _, _, _, h, _ => by cases h
  | f + 1, d, mi, stop, x, o, h, hh => by
    have h' := h
    rw [zr]
    rw [show (sC E L [] x).1 = x.1 from rfl]
    cases hb : Nat.beq x.1 stop
    · rcases zr_step h with ⟨e1, -⟩ | ⟨e, he, hq⟩
      · rw [e1, Nat.beq_refl] at hb
        cases hb
      · rw [he]
        dsimp only [cond_false]
        have hv := zi_sokv he
        obtain ⟨op, len, a, b, c, v, sw⟩ := e
        obtain ⟨pc, lo, st, hp⟩ := x
        rcases hq with ⟨y, hy, hr⟩ | ⟨r, hy, rfl⟩ | ⟨a', as, y, d1, r, h1, hy, rfl, hl, h2, h3⟩
        · rw [zsub hh (sokv_val hv) okT_nil hy]
          have hy' : sHd y.2.2.2 := by
            rcases zg_all hy with ⟨y', q, e1, e2⟩ | ⟨-, as, y', e1⟩ | ⟨r, e1⟩
            · cases e1
              exact sHd_app hh e2
            · cases e1
            · cases e1
          exact zr_sub f d mi stop y o hr hy'
        · rw [zsub hh (sokv_val hv) okT_nil hy]
          rfl
        · rw [zsub hh (sokv_val hv) okT_nil hy]
          have ea : zpad (zL a') (zargs (as.map (sval E))) = slo E (zpad (zL a') (zargs as)) := by rw [zargs_s, zpad_s]
          dsimp only [sO]
          rw [ea, slo_len, hl, Nat.beq_refl]
          dsimp only [cond_true]
          have hc := zr_sub (E := E) (L := L) f d1 a' 100000 _ _ h2 hh
          have hc : zr f d1 a' 100000 (0, slo E (zpad (zL a') (zargs as)), [], sH E L [] hp) = some (.inr (r.map (sval E), sH E L [] h1)) := hc
          rw [show (sC E L [] (pc, lo, st, hp)).2.2.2 = sH E L [] hp from rfl, hc]
          dsimp only
          obtain ⟨q, hq⟩ := zr_ext _ _ _ _ _ _ h2
          have h4 := zr_sub (E := E) (L := L) f (d1 + 1) mi stop _ o h3 (sHd_app hh hq)
          rw [← h4]
          congr 1
          unfold sC
          dsimp only
          rw [List.map_append]
          cases r <;> rfl
    · rcases zr_step h with ⟨e1, rfl⟩ | ⟨e, he, hq⟩
      · rfl
      · rw [zr, hb] at h'
        cases h'
        rfl
