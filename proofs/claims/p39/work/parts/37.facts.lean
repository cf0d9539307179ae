/-! FACTS BETWEEN ENTRIES: sums of entries, and what differences are known. -/
abbrev aLn : Type := List (Int × Nat)
abbrev aD : Type := List (Nat × Nat × Int)
def agv (E : List Int) (k : Nat) : Int := (zget E k).getD 0
def alv (E : List Int) : aLn → Int
  | [] => 0
  | (c, k) :: r => c * agv E k + alv E r
def alad (c : Int) (k : Nat) : aLn → aLn
  | [] => [(c, k)]
  | (c', k') :: r => bif Nat.beq k' k then (c' + c, k') :: r else (c', k') :: alad c k r
def alco (k : Nat) : aLn → Int
  | [] => 0
  | (c, k') :: r => bif Nat.beq k' k then c else alco k r
/-- the first is so much above the second at least -/
def aDs (E : List Int) (ds : aD) : Prop := ∀ f, f ∈ ds → ∃ w v, zget E f.1 = some w ∧ zget E f.2.1 = some v ∧ v + f.2.2 ≤ w
theorem aDs_ext {E q : List Int} {ds : aD} (h : aDs E ds) : aDs (E ++ q) ds := by
  intro f hf
  obtain ⟨w, v, h1, h2, h3⟩ := h f hf
  exact ⟨w, v, zget_app h1, zget_app h2, h3⟩
theorem alad_ok {E : List Int} {c : Int} {k : Nat} : ∀ {l : aLn}, alv E (alad c k l) = c * agv E k + alv E l
  | [] => rfl
  | (c', k') :: r => by
    unfold alad
    cases hb : Nat.beq k' k
    · show c' * agv E k' + alv E (alad c k r) = c * agv E k + (c' * agv E k' + alv E r)
      rw [alad_ok]
      omega
    · have e := Nat.eq_of_beq_eq_true hb
      subst e
      show (c' + c) * agv E k' + alv E r = c * agv E k' + (c' * agv E k' + alv E r)
      rw [Int.add_mul]
      omega
/-- a sum is no greater when a known difference is added: as often as both its ends are there, or as often as the first is -/
def almu (b : Bool) (x y : Int) : Int := bif b then imax 0 (-x) else imax 0 (imin (-x) y)
theorem almu_ok {b : Bool} {x y : Int} : 0 ≤ almu b x y := by
  unfold almu
  cases b
  · dsimp only [cond_false]
    rw [imax_eq]
    exact Int.le_max_left _ _
  · dsimp only [cond_true]
    rw [imax_eq]
    exact Int.le_max_left _ _
def alfs (b : Bool) : aD → Int × aLn → Int × aLn
  | [], p => p
  | (k, j, c) :: r, p => alfs b r (p.1 - almu b (alco k p.2) (alco j p.2) * c, alad (almu b (alco k p.2) (alco j p.2)) k (alad (-(almu b (alco k p.2) (alco j p.2))) j p.2))
theorem agv_eq {E : List Int} {k : Nat} {w : Int} (h : zget E k = some w) : agv E k = w := by
  unfold agv
  rw [h]
  rfl
theorem alfs_ok {E : List Int} {b : Bool} : ∀ {ds : aD} {p : Int × aLn}, aDs E ds → p.1 + alv E p.2 ≤ (alfs b ds p).1 + alv E (alfs b ds p).2
  | [], p, _ => Int.le_refl _
  | (k, j, c) :: r, p, h => by
    unfold alfs
    have hr : aDs E r := fun f hf => h f (List.mem_cons_of_mem _ hf)
    obtain ⟨w, v, h1, h2, h3⟩ := h (k, j, c) List.mem_cons_self
    generalize hm : almu b (alco k p.2) (alco j p.2) = m
    have m0 : 0 ≤ m := by rw [← hm]; exact almu_ok
    refine Int.le_trans ?_ (alfs_ok hr)
    dsimp only at h1 h2 h3 ⊢
    rw [alad_ok, alad_ok, agv_eq h1, agv_eq h2, Int.neg_mul]
    have q : m * (v + c) ≤ m * w := Int.mul_le_mul_of_nonneg_left h3 m0
    rw [Int.mul_add] at q
    omega
def alup (cs : aCs) : aLn → Option Int
  | [] => some 0
  | (c, k) :: r => (match zget cs k, alup cs r with
    | some q, some u => some ((bif ile 0 c then c * q.2 else c * q.1) + u)
    | _, _ => none)
theorem alup_ok {E : List Int} {cs : aCs} (hs : aSat E cs) : ∀ {l : aLn} {u : Int}, alup cs l = some u → alv E l ≤ u
  | [], u, h => by
    cases h
    exact Int.le_refl _
  | (c, k) :: r, u, h => by
    unfold alup at h
    split at h
    · rename_i q u1 hq hu
      cases h
      have i := alup_ok hs hu
      have hl := zget_lt hq
      rw [← hs.1] at hl
      obtain ⟨w, hw⟩ := zget_of_lt hl
      have b := hs.2 k w q hw hq
      show c * agv E k + alv E r ≤ _
      rw [agv_eq hw]
      cases hc : ile 0 c
      · have hc : ¬ 0 ≤ c := fun q => by rw [← ile_eq, hc] at q; cases q
        dsimp only [cond_false]
        have := Int.mul_le_mul_of_nonpos_left (show c ≤ 0 by omega) b.1
        omega
      · rw [ile_eq] at hc
        dsimp only [cond_true]
        have := Int.mul_le_mul_of_nonneg_left b.2 hc
        omega
    · cases h
/-- a sum is 0 or less -/
def ale1 (b : Bool) (cs : aCs) (ds : aD) (p : Int × aLn) : Bool := match alup cs (alfs b ds p).2 with
  | some u => ile ((alfs b ds p).1 + u) 0
  | none => false
def ale0 (cs : aCs) (ds : aD) (p : Int × aLn) : Bool := ale1 false cs ds p || ale1 true cs ds p
theorem ale1_ok {E : List Int} {b : Bool} {cs : aCs} {ds : aD} {p : Int × aLn} (hs : aSat E cs) (hd : aDs E ds) (h : ale1 b cs ds p = true) : p.1 + alv E p.2 ≤ 0 := by
  unfold ale1 at h
  split at h
  · rename_i u hu
    rw [ile_eq] at h
    have a := alup_ok hs hu
    have b := alfs_ok (b := b) (p := p) hd
    omega
  · cases h
theorem ale0_ok {E : List Int} {cs : aCs} {ds : aD} {p : Int × aLn} (hs : aSat E cs) (hd : aDs E ds) (h : ale0 cs ds p = true) : p.1 + alv E p.2 ≤ 0 := by
  unfold ale0 at h
  rw [Bool.or_eq_true] at h
  rcases h with h | h
  · exact ale1_ok hs hd h
  · exact ale1_ok hs hd h
/-- so many times a number is added -/
def alI (m : Int) (a : aI) (p : Int × aLn) : Int × aLn := match a with
  | .inl (k, o) => (p.1 + m * o, alad m k p.2)
  | .inr n => (p.1 + m * n, p.2)
theorem aval_gv {E : List Int} {k : Nat} {o : Int} : aval E (.inl (k, o)) = agv E k + o := by
  unfold aval agv
  dsimp only
  cases zget E k with
  | none => simp
  | some w => rfl
theorem alI_ok {E : List Int} {m : Int} {a : aI} {p : Int × aLn} : (alI m a p).1 + alv E (alI m a p).2 = p.1 + alv E p.2 + m * aval E a := by
  match a with
  | .inl (k, o) =>
    unfold alI
    dsimp only
    rw [alad_ok, aval_gv, Int.mul_add]
    omega
  | .inr n =>
    show p.1 + m * n + alv E p.2 = p.1 + alv E p.2 + m * n
    omega
/-- a sum over an annotation's entries, by the numbers given for them -/
def alsg (sg : List aI) : aLn → Int × aLn → Int × aLn
  | [], p => p
  | (c, k) :: r, p => alsg sg r (match zget sg k with
    | some a => alI c a p
    | none => p)
theorem alsg_ok {E : List Int} {sg : List aI} : ∀ {l : aLn} {p : Int × aLn}, (alsg sg l p).1 + alv E (alsg sg l p).2 = p.1 + alv E p.2 + alv (sg.map (aval E)) l
  | [], p => by
    show p.1 + alv E p.2 = p.1 + alv E p.2 + 0
    omega
  | (c, k) :: r, p => by
    unfold alsg
    rw [alsg_ok]
    have e : (match zget sg k with
      | some a => alI c a p
      | none => p).1 + alv E (match zget sg k with
      | some a => alI c a p
      | none => p).2 = p.1 + alv E p.2 + c * agv (sg.map (aval E)) k := by
      cases hk : zget sg k with
      | none =>
        dsimp only
        have : agv (sg.map (aval E)) k = 0 := by
          unfold agv
          rw [zget_map, hk]
          rfl
        rw [this]
        omega
      | some a =>
        dsimp only
        rw [alI_ok, agv_eq (show zget (sg.map (aval E)) k = some (aval E a) by rw [zget_map, hk]; rfl)]
    rw [e]
    show _ = p.1 + alv E p.2 + (c * agv (sg.map (aval E)) k + alv (sg.map (aval E)) r)
    omega
def alng : aLn → Int × aLn → Int × aLn
  | [], p => p
  | (c, k) :: r, p => alng r (p.1, alad (-c) k p.2)
theorem alng_ok {E : List Int} : ∀ {l : aLn} {p : Int × aLn}, (alng l p).1 + alv E (alng l p).2 = p.1 + alv E p.2 - alv E l
  | [], p => by
    show p.1 + alv E p.2 = p.1 + alv E p.2 - 0
    omega
  | (c, k) :: r, p => by
    unfold alng
    rw [alng_ok]
    dsimp only
    rw [alad_ok, Int.neg_mul]
    show _ = p.1 + alv E p.2 - (c * agv E k + alv E r)
    omega
/-- an annotation's differences, by the numbers given for its entries -/
def adsM (sg : List aI) (cs : aCs) (ds : aD) : aD → Bool
  | [] => true
  | (k, j, c) :: r => (match zget sg k, zget sg j with
    | some a, some b => ale0 cs ds (alI 1 b (alI (-1) a (c, [])))
    | _, _ => false) && adsM sg cs ds r
theorem adsM_ok {E : List Int} {sg : List aI} {cs : aCs} {ds : aD} (hs : aSat E cs) (hd : aDs E ds) : ∀ {dA : aD}, adsM sg cs ds dA = true → aDs (sg.map (aval E)) dA
  | [], _ => fun f hf => by cases hf
  | (k, j, c) :: r, h => by
    unfold adsM at h
    rw [Bool.and_eq_true] at h
    intro f hf
    rcases List.mem_cons.mp hf with rfl | hf
    · have h1 := h.1
      split at h1
      · rename_i a b ha hb
        have q := ale0_ok hs hd h1
        rw [alI_ok, alI_ok] at q
        refine ⟨aval E a, aval E b, by dsimp only; rw [zget_map, ha]; rfl, by dsimp only; rw [zget_map, hb]; rfl, ?_⟩
        have z : alv E ([] : aLn) = 0 := rfl
        rw [z] at q
        dsimp only at q ⊢
        omega
      · cases h1
    · exact adsM_ok hs hd h.2 f hf
/-- entries that are there keep their numbers -/
theorem agv_ext {E q : List Int} {k : Nat} (h : k < E.length) : agv (E ++ q) k = agv E k := by
  obtain ⟨w, hw⟩ := zget_of_lt h
  rw [agv_eq hw, agv_eq (zget_app hw)]
theorem alv_ext {E q : List Int} : ∀ {l : aLn}, l.all (fun p => Nat.blt p.2 E.length) = true → alv (E ++ q) l = alv E l
  | [], _ => rfl
  | (c, k) :: r, h => by
    rw [List.all_cons, Bool.and_eq_true] at h
    have h1 : k < E.length := by
      have := h.1
      rw [Nat.blt_eq] at this
      exact this
    show c * agv (E ++ q) k + alv (E ++ q) r = c * agv E k + alv E r
    rw [agv_ext h1, alv_ext h.2]
/-- entries that are the difference of two numbers -/
abbrev aDf : Type := List (Nat × aI × aI)
def aDfs (E : List Int) (df : aDf) : Prop := ∀ f, f ∈ df → ∃ w a b, zget E f.1 = some w ∧ aIs E a f.2.1 ∧ aIs E b f.2.2 ∧ w = a - b
theorem aDfs_ext {E q : List Int} {df : aDf} (h : aDfs E df) : aDfs (E ++ q) df := by
  intro f hf
  obtain ⟨w, a, b, h1, h2, h3, h4⟩ := h f hf
  exact ⟨w, a, b, zget_app h1, aIs_ext h2, aIs_ext h3, h4⟩
def apr : aDf → aCs → Option aCs
  | [], cs => some cs
  | (k, a, b) :: r, cs => (match zget cs k with
    | some q => (match arf cs b ((abd cs a).1 - q.2, (abd cs a).2 - q.1) with
      | some c => apr r c
      | none => none)
    | none => apr r cs)
theorem apr_ok {E : List Int} : ∀ {df : aDf} {cs : aCs}, aSat E cs → aDfs E df → ∃ c, apr df cs = some c ∧ aSat E c
  | [], cs, hs, _ => ⟨cs, rfl, hs⟩
  | (k, a, b) :: r, cs, hs, hd => by
    have hr : aDfs E r := fun f hf => hd f (List.mem_cons_of_mem _ hf)
    obtain ⟨w, x, y, h1, h2, h3, h4⟩ := hd (k, a, b) List.mem_cons_self
    dsimp only at h1 h2 h3
    unfold apr
    cases hk : zget cs k with
    | none => exact apr_ok hs hr
    | some q =>
      dsimp only
      have bw := hs.2 k w q h1 hk
      have bx := abd_ok hs h2
      obtain ⟨c, e1, e2⟩ := arf_ok (q := ((abd cs a).1 - q.2, (abd cs a).2 - q.1)) hs h3 (by dsimp only; omega) (by dsimp only; omega)
      rw [e1]
      exact apr_ok e2 hr
/-- entries that are the quotient or the rest of a number by a known one -/
abbrev aDq : Type := List (Nat × Nat × aI × Int)
def aDqs (E : List Int) (dq : aDq) : Prop := ∀ f, f ∈ dq → ∃ w, ∃ x : Int32, zget E f.1 = some w ∧ aIs E x.toInt f.2.2.1 ∧ w = (zdv f.2.1 x (Int32.ofInt f.2.2.2)).toInt
theorem aDqs_ext {E q : List Int} {dq : aDq} (h : aDqs E dq) : aDqs (E ++ q) dq := by
  intro f hf
  obtain ⟨w, x, h1, h2, h3⟩ := h f hf
  exact ⟨w, x, zget_app h1, aIs_ext h2, h3⟩
theorem na_divb {z c u : Int} (hc : 0 < c) (hu : 0 ≤ u) (h : z.tdiv c ≤ u) : z ≤ u * c + c - 1 := by
  rcases Int.le_total 0 z with q | q
  · rw [Int.tdiv_eq_ediv_of_nonneg q] at h
    have h1 := Int.emod_add_mul_ediv z c
    have h2 := Int.emod_lt_of_pos z hc
    have h3 : c * (z / c) ≤ c * u := Int.mul_le_mul_of_nonneg_left h (Int.le_of_lt hc)
    rw [Int.mul_comm u c]
    omega
  · have h3 : 0 ≤ u * c := Int.mul_nonneg hu (Int.le_of_lt hc)
    omega
/-- the bounds of a quotient cut those of its number; a known number tells quotient and rest -/
def aprq : aDq → aCs → Option aCs
  | [], cs => some cs
  | (k, b, x, d) :: r, cs => bif decide ((abd cs x).1 = (abd cs x).2) then (match arf cs (.inl (k, 0)) ((zdv b (Int32.ofInt (abd cs x).1) (Int32.ofInt d)).toInt, (zdv b (Int32.ofInt (abd cs x).1) (Int32.ofInt d)).toInt) with
    | some c => aprq r c
    | none => none) else bif (Nat.beq b 0 && decide (0 < (Int32.ofInt d).toInt)) && decide (0 ≤ (abd cs (.inl (k, 0))).2) then (match arf cs x (-abig, (abd cs (.inl (k, 0))).2 * (Int32.ofInt d).toInt + (Int32.ofInt d).toInt - 1) with
    | some c => aprq r c
    | none => none) else aprq r cs
theorem aprq_ok {E : List Int} : ∀ {dq : aDq} {cs : aCs}, aSat E cs → aDqs E dq → ∃ c, aprq dq cs = some c ∧ aSat E c
  | [], cs, hs, _ => ⟨cs, rfl, hs⟩
  | (k, b, a, d) :: r, cs, hs, hd => by
    have hr : aDqs E r := fun f hf => hd f (List.mem_cons_of_mem _ hf)
    obtain ⟨w, x, h1, h2, h3⟩ := hd (k, b, a, d) List.mem_cons_self
    dsimp only at h1 h2 h3
    have hk : aIs E w (.inl (k, 0)) := ⟨w, h1, by omega⟩
    have bx := abd_ok hs h2
    unfold aprq
    cases hc : decide ((abd cs a).1 = (abd cs a).2)
    · dsimp only [cond_false]
      generalize hc2 : ((Nat.beq b 0 && decide (0 < (Int32.ofInt d).toInt)) && decide (0 ≤ (abd cs (.inl (k, 0))).2)) = c2
      cases c2 with
      | false => exact aprq_ok hs hr
      | true =>
        dsimp only [cond_true]
        rw [Bool.and_eq_true, Bool.and_eq_true, decide_eq_true_eq, decide_eq_true_eq] at hc2
        obtain ⟨⟨e1, e2⟩, e3⟩ := hc2
        have e1 := Nat.eq_of_beq_eq_true e1
        subst e1
        have bw := abd_ok hs hk
        have h3 : w = (x / Int32.ofInt d).toInt := h3
        rw [na_div e2] at h3
        have u := na_divb e2 e3 (z := x.toInt) (by omega)
        obtain ⟨c, g1, g2⟩ := arf_ok (q := (-abig, (abd cs (.inl (k, 0))).2 * (Int32.ofInt d).toInt + (Int32.ofInt d).toInt - 1)) hs h2 (abig_in32 x).1 u
        rw [g1]
        exact aprq_ok g2 hr
    · rw [decide_eq_true_eq] at hc
      dsimp only [cond_true]
      have ex : Int32.ofInt (abd cs a).1 = x := aof (by omega)
      rw [ex]
      obtain ⟨c, g1, g2⟩ := arf_ok (q := ((zdv b x (Int32.ofInt d)).toInt, (zdv b x (Int32.ofInt d)).toInt)) hs hk (by dsimp only; omega) (by dsimp only; omega)
      rw [g1]
      exact aprq_ok g2 hr
/-- facts that hang on the cells: elements of the row of longs (126), a stretch of it that holds numbers of roads; the entry that is the script's length -/
abbrev aDl : Type := List (aI × Nat)
abbrev aDr : Type := List (Int × aI)
/-- the entry that is the script's length; known elements of the script -/
abbrev aSc : Type := Option Nat × aDl
abbrev aHf : Type := aDl × aDr × aSc
def aDls (E : List Int) (g : Nat → Nat → Int64) (dl : aDl) : Prop := ∀ f, f ∈ dl → ∃ k : Nat, ∃ w, aIs E (k : Int) f.1 ∧ zget E f.2 = some w ∧ w = (g 126 k).toInt
def aDrs (E : List Int) (g : Nat → Nat → Int64) (dr : aDr) : Prop := ∀ f, f ∈ dr → ∃ z, aIs E z f.2 ∧ ∀ k : Nat, f.1 ≤ (k : Int) → (k : Int) < f.1 + z → 0 ≤ (g 126 k).toInt ∧ (g 126 k).toInt ≤ 11
def aSl0 (E : List Int) (g : List (Nat × Nat)) (sl : Option Nat) : Prop := ∀ k, sl = some k → ∃ n : Nat, zget g 0 = some (5, n) ∧ zget E k = some (n : Int) ∧ n ≤ 3072
def aSe (E : List Int) (f : Nat → Nat → Int32) (dl : aDl) : Prop := ∀ p, p ∈ dl → ∃ k : Nat, ∃ w, aIs E (k : Int) p.1 ∧ zget E p.2 = some w ∧ w = (f 0 k).toInt
def aSl (E : List Int) (h : zH) (sl : aSc) : Prop := aSl0 E h.1 sl.1 ∧ aSe E h.2.1 sl.2
def aHfs (E : List Int) (h : zH) (f : aHf) : Prop := aDls E h.2.2.1 f.1 ∧ aDrs E h.2.2.1 f.2.1 ∧ aSl E h f.2.2
theorem aDls_ext {E q : List Int} {g : Nat → Nat → Int64} {dl : aDl} (h : aDls E g dl) : aDls (E ++ q) g dl := by
  intro f hf
  obtain ⟨k, w, h1, h2, h3⟩ := h f hf
  exact ⟨k, w, aIs_ext h1, zget_app h2, h3⟩
theorem aDrs_ext {E q : List Int} {g : Nat → Nat → Int64} {dr : aDr} (h : aDrs E g dr) : aDrs (E ++ q) g dr := by
  intro f hf
  obtain ⟨z, h1, h2⟩ := h f hf
  exact ⟨z, aIs_ext h1, h2⟩
theorem aSl_ext {E q : List Int} {h : zH} {sl : aSc} (hs : aSl E h sl) : aSl (E ++ q) h sl := by
  refine ⟨fun k hk => ?_, fun p hp => ?_⟩
  · obtain ⟨n, h1, h2, h3⟩ := hs.1 k hk
    exact ⟨n, h1, zget_app h2, h3⟩
  · obtain ⟨k, w, h1, h2, h3⟩ := hs.2 p hp
    exact ⟨k, w, aIs_ext h1, zget_app h2, h3⟩
theorem aHfs_ext {E q : List Int} {h : zH} {f : aHf} (hf : aHfs E h f) : aHfs (E ++ q) h f := ⟨aDls_ext hf.1, aDrs_ext hf.2.1, aSl_ext hf.2.2⟩
theorem aSl_same {E : List Int} {h h' : zH} {sl : aSc} (hs : aSl E h sl) (e1 : h'.1 = h.1) (e3 : ∀ k, h'.2.1 0 k = h.2.1 0 k) : aSl E h' sl := by
  refine ⟨by rw [e1]; exact hs.1, fun p hp => ?_⟩
  obtain ⟨k, w, h1, h2, h3⟩ := hs.2 p hp
  exact ⟨k, w, h1, h2, by rw [e3]; exact h3⟩
theorem aHfs_same {E : List Int} {h h' : zH} {f : aHf} (hf : aHfs E h f) (e1 : h'.1 = h.1) (e2 : h'.2.2.1 = h.2.2.1) (e3 : ∀ k, h'.2.1 0 k = h.2.1 0 k) : aHfs E h' f := by
  refine ⟨?_, ?_, aSl_same hf.2.2 e1 e3⟩
  · rw [e2]
    exact hf.1
  · rw [e2]
    exact hf.2.1
theorem aHfs_drop {E : List Int} {h h' : zH} {f : aHf} (hf : aHfs E h f) (e1 : h'.1 = h.1) (e3 : ∀ k, h'.2.1 0 k = h.2.1 0 k) : aHfs E h' ([], [], f.2.2) := ⟨fun f hf => (by cases hf), fun f hf => (by cases hf), aSl_same hf.2.2 e1 e3⟩
