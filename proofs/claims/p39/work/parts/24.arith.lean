/-! ARITHMETIC BY BOUNDS. -/
/-- comparisons that the kernel works out fast -/
def ile : Int → Int → Bool
  | .ofNat m, .ofNat n => Nat.ble m n
  | .ofNat _, .negSucc _ => false
  | .negSucc _, .ofNat _ => true
  | .negSucc m, .negSucc n => Nat.ble n m
def ieq : Int → Int → Bool
  | .ofNat m, .ofNat n => Nat.beq m n
  | .negSucc m, .negSucc n => Nat.beq m n
  | _, _ => false
theorem ile_eq {a b : Int} : (ile a b = true) = (a ≤ b) := by
  apply propext
  match a, b with
  | .ofNat m, .ofNat n =>
    show Nat.ble m n = true ↔ _
    rw [Nat.ble_eq]
    simp only [Int.ofNat_eq_natCast]
    omega
  | .ofNat m, .negSucc n =>
    simp only [ile, Int.ofNat_eq_natCast, Int.negSucc_eq]
    constructor
    · intro h
      cases h
    · intro h
      omega
  | .negSucc m, .ofNat n =>
    simp only [ile, Int.ofNat_eq_natCast, Int.negSucc_eq]
    constructor
    · intro _
      omega
    · intro _
      trivial
  | .negSucc m, .negSucc n =>
    show Nat.ble n m = true ↔ _
    rw [Nat.ble_eq]
    simp only [Int.negSucc_eq]
    omega
theorem ieq_eq {a b : Int} : (ieq a b = true) = (a = b) := by
  apply propext
  match a, b with
  | .ofNat m, .ofNat n =>
    show Nat.beq m n = true ↔ _
    rw [Nat.beq_eq]
    simp only [Int.ofNat_eq_natCast]
    omega
  | .ofNat m, .negSucc n =>
    simp only [ieq, Int.ofNat_eq_natCast, Int.negSucc_eq]
    constructor
    · intro h
      cases h
    · intro h
      omega
  | .negSucc m, .ofNat n =>
    simp only [ieq, Int.ofNat_eq_natCast, Int.negSucc_eq]
    constructor
    · intro h
      cases h
    · intro h
      omega
  | .negSucc m, .negSucc n =>
    show Nat.beq m n = true ↔ _
    rw [Nat.beq_eq]
    simp only [Int.negSucc_eq]
    omega
def imax (a b : Int) : Int := bif ile a b then b else a
def imin (a b : Int) : Int := bif ile a b then a else b
theorem imax_eq {a b : Int} : imax a b = max a b := by
  unfold imax
  cases h : ile a b
  · have : ¬ a ≤ b := fun q => by rw [← ile_eq, h] at q; cases q
    dsimp only [cond_false]
    omega
  · have := ile_eq (a := a) (b := b) ▸ h
    dsimp only [cond_true]
    omega
theorem imin_eq {a b : Int} : imin a b = min a b := by
  unfold imin
  cases h : ile a b
  · have : ¬ a ≤ b := fun q => by rw [← ile_eq, h] at q; cases q
    dsimp only [cond_false]
    omega
  · have := ile_eq (a := a) (b := b) ▸ h
    dsimp only [cond_true]
    omega
def aok32 (q : Int × Int) : Bool := ile (.negSucc 2147483647) q.1 && ile q.2 (.ofNat 2147483647)
def afull : Int × Int := (-2147483648, 2147483647)
def aclip (q : Int × Int) : Int × Int := bif aok32 q then q else afull
def anew (cs : aCs) (q : Int × Int) : aCs × aI := (cs ++ [q], .inl (cs.length, 0))
/-- what a computed number is told to be -/
def aGot (E : List Int) (cs : aCs) (z : Int) (r : aCs × aI) : Prop := ∃ q, aSat (E ++ q) r.1 ∧ aIs (E ++ q) z r.2
theorem aGot_new {E : List Int} {cs : aCs} {z : Int} {q : Int × Int} (hs : aSat E cs) (h1 : q.1 ≤ z) (h2 : z ≤ q.2) : aGot E cs z (anew cs q) := by
  refine ⟨[z], aSat_ext hs h1 h2, ?_⟩
  unfold anew
  dsimp only
  rw [← hs.1]
  exact aIs_new
theorem aGot_full {E : List Int} {cs : aCs} {x : Int32} (hs : aSat E cs) : aGot E cs x.toInt (anew cs afull) := aGot_new hs (na_rng x).1 (na_rng x).2
theorem aGot_old {E : List Int} {cs : aCs} {z : Int} {a : aI} (hs : aSat E cs) (h : aIs E z a) : aGot E cs z (cs, a) := ⟨[], by rw [List.append_nil]; exact hs, by rw [List.append_nil]; exact h⟩
theorem aok32_ok {q : Int × Int} (h : aok32 q = true) : -2147483648 ≤ q.1 ∧ q.2 ≤ 2147483647 := by
  unfold aok32 at h
  rw [Bool.and_eq_true, ile_eq, ile_eq] at h
  exact h
/-- a number that is what it is without wrapping, where its bounds say so -/
theorem aGot_clip {E : List Int} {cs : aCs} {x : Int32} {w : Int} {q : Int × Int} (hs : aSat E cs) (h1 : q.1 ≤ w) (h2 : w ≤ q.2) (h3 : -2147483648 ≤ w → w ≤ 2147483647 → x.toInt = w) : aGot E cs x.toInt (anew cs (aclip q)) := by
  unfold aclip
  cases hb : aok32 q
  · exact aGot_full hs
  · have := aok32_ok hb
    have e := h3 (by omega) (by omega)
    rw [e]
    exact aGot_new hs h1 h2
theorem aof {x : Int32} {c : Int} (h : x.toInt = c) : Int32.ofInt c = x := by rw [← h, Int32.ofInt_toInt]
def ashift (cs : aCs) (k : Nat) (o d : Int) : aCs × aI := bif aok32 ((abd cs (.inl (k, o))).1 + d, (abd cs (.inl (k, o))).2 + d) then (cs, .inl (k, o + d)) else anew cs afull
theorem ashift_ok {E : List Int} {cs : aCs} {k : Nat} {o d : Int} {x r : Int32} (hs : aSat E cs) (hx : aIs E x.toInt (.inl (k, o))) (hr : -2147483648 ≤ x.toInt + d → x.toInt + d ≤ 2147483647 → r.toInt = x.toInt + d) : aGot E cs r.toInt (ashift cs k o d) := by
  unfold ashift
  have hb := abd_ok hs hx
  cases hc : aok32 ((abd cs (.inl (k, o))).1 + d, (abd cs (.inl (k, o))).2 + d)
  · exact aGot_full hs
  · have hq := aok32_ok hc
    dsimp only at hq
    have e := hr (by omega) (by omega)
    rw [e]
    obtain ⟨w, h1, h2⟩ := hx
    exact aGot_old hs ⟨w, h1, by omega⟩
def abin (cs : aCs) (b : Nat) (x y : aI) : aCs × aI := match x, y with
  | .inr c, .inr d => (cs, .inr (zbin b (Int32.ofInt c) (Int32.ofInt d)).toInt)
  | x, y => (match b with
    | 0 => (match x, y with
      | .inl (k, o), .inr d => ashift cs k o d
      | .inr c, .inl (k, o) => ashift cs k o c
      | x, y => anew cs (aclip ((abd cs x).1 + (abd cs y).1, (abd cs x).2 + (abd cs y).2)))
    | 1 => (match x, y with
      | .inl (k, o), .inr d => ashift cs k o (-d)
      | x, y => anew cs (aclip ((abd cs x).1 - (abd cs y).2, (abd cs x).2 - (abd cs y).1)))
    | 2 => bif decide (0 ≤ (abd cs x).1) && decide (0 ≤ (abd cs y).1) then anew cs (aclip ((abd cs x).1 * (abd cs y).1, (abd cs x).2 * (abd cs y).2)) else anew cs afull
    | 3 => bif decide (0 ≤ (abd cs y).1) then anew cs (0, (abd cs y).2) else bif decide (0 ≤ (abd cs x).1) then anew cs (0, (abd cs x).2) else anew cs afull
    | 8 => (match y with
      | .inr d => bif decide (d = 8) then anew cs (0, 16777215) else bif decide (d = 16) then anew cs (0, 65535) else anew cs afull
      | _ => anew cs afull)
    | _ => anew cs afull)
theorem abin_ok {E : List Int} {cs : aCs} {b : Nat} {ax ay : aI} {x y : Int32} (hs : aSat E cs) (hx : aIs E x.toInt ax) (hy : aIs E y.toInt ay) : aGot E cs (zbin b x y).toInt (abin cs b ax ay) := by
  have bx := abd_ok hs hx
  have by' := abd_ok hs hy
  have gen : ∀ (ax ay : aI), aIs E x.toInt ax → aIs E y.toInt ay → (abd cs ax).1 ≤ x.toInt ∧ x.toInt ≤ (abd cs ax).2 := fun ax ay h1 _ => abd_ok hs h1
  match b with
  | 0 =>
    match ax, ay, hx, hy, bx, by' with
    | .inr c, .inr d, hx, hy, _, _ =>
      unfold abin
      dsimp only
      rw [aof hx, aof hy]
      exact aGot_old hs rfl
    | .inl (k, o), .inr d, hx, hy, _, _ =>
      have hy : y.toInt = d := hy
      exact ashift_ok hs hx (fun h1 h2 => by rw [← hy] at h1 h2 ⊢; exact na_add h1 h2)
    | .inr c, .inl (k, o), hx, hy, _, _ =>
      have hx : x.toInt = c := hx
      exact ashift_ok hs hy (fun h1 h2 => by
        rw [← hx] at h1 h2 ⊢
        rw [Int.add_comm]
        exact na_add (by omega) (by omega))
    | .inl (k, o), .inl (k2, o2), hx, hy, bx, by' => exact aGot_clip hs (by omega) (by omega) (fun h1 h2 => na_add h1 h2)
  | 1 =>
    match ax, ay, hx, hy, bx, by' with
    | .inr c, .inr d, hx, hy, _, _ =>
      unfold abin
      dsimp only
      rw [aof hx, aof hy]
      exact aGot_old hs rfl
    | .inl (k, o), .inr d, hx, hy, _, _ =>
      have hy : y.toInt = d := hy
      exact ashift_ok hs hx (fun h1 h2 => by
        rw [← hy] at h1 h2 ⊢
        exact na_sub (by omega) (by omega))
    | .inr c, .inl (k, o), hx, hy, bx, by' => exact aGot_clip hs (by omega) (by omega) (fun h1 h2 => na_sub h1 h2)
    | .inl (k, o), .inl (k2, o2), hx, hy, bx, by' => exact aGot_clip hs (by omega) (by omega) (fun h1 h2 => na_sub h1 h2)
  | 2 =>
    have key : ∀ (u v : aI), (abd cs u).1 ≤ x.toInt ∧ x.toInt ≤ (abd cs u).2 → (abd cs v).1 ≤ y.toInt ∧ y.toInt ≤ (abd cs v).2 → aGot E cs (zbin 2 x y).toInt (bif decide (0 ≤ (abd cs u).1) && decide (0 ≤ (abd cs v).1) then anew cs (aclip ((abd cs u).1 * (abd cs v).1, (abd cs u).2 * (abd cs v).2)) else anew cs afull) := by
      intro u v h1 h2
      cases hc : (decide (0 ≤ (abd cs u).1) && decide (0 ≤ (abd cs v).1))
      · exact aGot_full hs
      · rw [Bool.and_eq_true, decide_eq_true_eq, decide_eq_true_eq] at hc
        exact aGot_clip hs (Int.mul_le_mul h1.1 h2.1 hc.2 (by omega)) (Int.mul_le_mul h1.2 h2.2 (by omega) (by omega)) (fun q1 q2 => na_mul q1 q2)
    match ax, ay, hx, hy, bx, by' with
    | .inr c, .inr d, hx, hy, _, _ =>
      unfold abin
      dsimp only
      rw [aof hx, aof hy]
      exact aGot_old hs rfl
    | .inl (k, o), .inr d, hx, hy, bx, by' => exact key _ _ bx by'
    | .inr c, .inl (k, o), hx, hy, bx, by' => exact key _ _ bx by'
    | .inl (k, o), .inl (k2, o2), hx, hy, bx, by' => exact key _ _ bx by'
  | 3 =>
    have key : ∀ (u v : aI), (abd cs u).1 ≤ x.toInt ∧ x.toInt ≤ (abd cs u).2 → (abd cs v).1 ≤ y.toInt ∧ y.toInt ≤ (abd cs v).2 → aGot E cs (zbin 3 x y).toInt (bif decide (0 ≤ (abd cs v).1) then anew cs (0, (abd cs v).2) else bif decide (0 ≤ (abd cs u).1) then anew cs (0, (abd cs u).2) else anew cs afull) := by
      intro u v h1 h2
      cases hc : decide (0 ≤ (abd cs v).1)
      · cases hc2 : decide (0 ≤ (abd cs u).1)
        · exact aGot_full hs
        · rw [decide_eq_true_eq] at hc2
          have q := na_and' (x := x) (y := y) (by omega)
          exact aGot_new hs q.1 (Int.le_trans q.2 h1.2)
      · rw [decide_eq_true_eq] at hc
        have q := na_and (x := x) (y := y) (by omega)
        exact aGot_new hs q.1 (Int.le_trans q.2 h2.2)
    match ax, ay, hx, hy, bx, by' with
    | .inr c, .inr d, hx, hy, _, _ =>
      unfold abin
      dsimp only
      rw [aof hx, aof hy]
      exact aGot_old hs rfl
    | .inl (k, o), .inr d, hx, hy, bx, by' => exact key _ _ bx by'
    | .inr c, .inl (k, o), hx, hy, bx, by' => exact key _ _ bx by'
    | .inl (k, o), .inl (k2, o2), hx, hy, bx, by' => exact key _ _ bx by'
  | 8 =>
    match ax, ay, hx, hy, bx, by' with
    | .inr c, .inr d, hx, hy, _, _ =>
      unfold abin
      dsimp only
      rw [aof hx, aof hy]
      exact aGot_old hs rfl
    | .inl (k, o), .inr d, hx, hy, bx, by' =>
      have hy : y.toInt = d := hy
      show aGot E cs (zbin 8 x y).toInt (bif decide (d = 8) then anew cs (0, 16777215) else bif decide (d = 16) then anew cs (0, 65535) else anew cs afull)
      cases hc : decide (d = 8)
      · cases hc2 : decide (d = 16)
        · exact aGot_full hs
        · rw [decide_eq_true_eq] at hc2
          have ey : y = 16 := by
            rw [← Int32.toInt_inj, hy, hc2]
            rfl
          subst ey
          exact aGot_new hs (na_ushr16 x).1 (na_ushr16 x).2
      · rw [decide_eq_true_eq] at hc
        have ey : y = 8 := by
          rw [← Int32.toInt_inj, hy, hc]
          rfl
        subst ey
        exact aGot_new hs (na_ushr8 x).1 (na_ushr8 x).2
    | .inr c, .inl (k, o), hx, hy, bx, by' => exact aGot_full hs
    | .inl (k, o), .inl (k2, o2), hx, hy, bx, by' => exact aGot_full hs
  | 4 =>
    match ax, ay, hx, hy with
    | .inr c, .inr d, hx, hy =>
      unfold abin
      dsimp only
      rw [aof hx, aof hy]
      exact aGot_old hs rfl
    | .inl (k, o), .inr d, hx, hy => exact aGot_full hs
    | .inr c, .inl (k, o), hx, hy => exact aGot_full hs
    | .inl (k, o), .inl (k2, o2), hx, hy => exact aGot_full hs
  | 5 =>
    match ax, ay, hx, hy with
    | .inr c, .inr d, hx, hy =>
      unfold abin
      dsimp only
      rw [aof hx, aof hy]
      exact aGot_old hs rfl
    | .inl (k, o), .inr d, hx, hy => exact aGot_full hs
    | .inr c, .inl (k, o), hx, hy => exact aGot_full hs
    | .inl (k, o), .inl (k2, o2), hx, hy => exact aGot_full hs
  | 6 =>
    match ax, ay, hx, hy with
    | .inr c, .inr d, hx, hy =>
      unfold abin
      dsimp only
      rw [aof hx, aof hy]
      exact aGot_old hs rfl
    | .inl (k, o), .inr d, hx, hy => exact aGot_full hs
    | .inr c, .inl (k, o), hx, hy => exact aGot_full hs
    | .inl (k, o), .inl (k2, o2), hx, hy => exact aGot_full hs
  | 7 =>
    match ax, ay, hx, hy with
    | .inr c, .inr d, hx, hy =>
      unfold abin
      dsimp only
      rw [aof hx, aof hy]
      exact aGot_old hs rfl
    | .inl (k, o), .inr d, hx, hy => exact aGot_full hs
    | .inr c, .inl (k, o), hx, hy => exact aGot_full hs
    | .inl (k, o), .inl (k2, o2), hx, hy => exact aGot_full hs
  | b + 9 =>
    match ax, ay, hx, hy with
    | .inr c, .inr d, hx, hy =>
      unfold abin
      dsimp only
      rw [aof hx, aof hy]
      exact aGot_old hs rfl
    | .inl (k, o), .inr d, hx, hy => exact aGot_full hs
    | .inr c, .inl (k, o), hx, hy => exact aGot_full hs
    | .inl (k, o), .inl (k2, o2), hx, hy => exact aGot_full hs
