/-! THE START: the constructors' run, and the law's contract from its loop on. -/
def zTb : List (List Int32) := [[5, 12, 3, 5, 99, 9, 1, 9, 5, 9, 9, 2], [0, 0, 0, 0, 0, 0, 0, 0, -1, 1, 0, 0], [4, 0, 3], [-1, 0, 0, 2, 1, 3, 0, 4], [1, 10, 11, 2, 20, 0, 0, 0, 0, 30, 0, 0, 0, 41, 40, 0, 0, 0, 50, 0, 0, 0, 0, 60, 70, 0, 0, 0, 0, 80, 0, 81]]
def zst0 (o k : Nat) : Int32 := match o with
  | 0 => 0
  | o + 1 => (match zget zTb o with
    | some r => (zget r k).getD 0
    | none => 0)
def sh0 : zH := ([(9, 0), (5, 12), (5, 12), (5, 3), (5, 8), (5, 32)], zst0, fun _ _ => 0, fun _ _ => none)
def hx0 : zC := (0, [some (.ref 0), none, none, none], [], sh0)
def kA : aX := ([(.ofNat 0, .ofNat 3072)], [(7, 6, .inr (.ofNat 0)), (102, 6, .inr (.ofNat 0)), (7, 7, .inr (.ofNat 0)), (102, 7, .inr (.ofNat 0)), (40, 1, .inr (.ofNat 0)), (102, 12, .inr (.ofNat 0)), (47, 1, .inr (.ofNat 0)), (102, 39, .inr (.ofNat 0))], 18, [some (.inr [0]), some (.inr [6]), some (.inr [102]), some (.inl (.inl (.inr (.ofNat 0))))], [])
def kFs : List aFa := []
def kF0 : List (Nat × List Int) := []
def kzd : Nat := 55
/-- a part of a run -/
theorem zT_part {P : Option Value → zH → Prop} : ∀ (f d mi stop : Nat) (x y : zC), zr f d mi stop x = some (.inl y) → zT d mi y P → zT d mi x P
  | 0, _, _, _, _, _, h, _ => by cases h
  | f + 1, d, mi, stop, x, y, h, hk => by
    rcases zr_step h with ⟨-, e1⟩ | ⟨e, he, hq⟩
    · cases e1
      exact hk
    · rcases hq with ⟨z, hy, hr⟩ | ⟨r, hy, e1⟩ | ⟨a', as, z, d1, r, h1, hy, e1, hl, h2, h3⟩
      · exact zT_step he hy (zT_part f d mi stop z y hr hk)
      · cases e1
      · subst e1
        refine zT_call (Q := fun r' h' => r' = r ∧ h' = h1) he hy hl ⟨f, r, h1, h2, rfl, rfl⟩ (fun r' h' hq => ?_)
        obtain ⟨rfl, rfl⟩ := hq
        exact zT_part f (d1 + 1) mi stop _ y h3 hk
def hck1 (y : zC) : Bool := Nat.beq y.1 18 && (match y.2.1, y.2.2.1 with
  | [some (.ref a), some (.ref b), some (.ref c), some (.int i)], [] => (Nat.beq a 0 && Nat.beq b 6) && (Nat.beq c 102 && decide (i = 0))
  | _, _ => false)
def hck2 (h : zH) : Bool := (Nat.beq h.1.length 128 && Nat.ble (zslots h.1) 100000) && (List.range 128).all (fun o => match zget h.1 o, kS o with
  | some p, some q => Nat.beq p.1 q.1 && Nat.beq p.2 q.2
  | _, _ => false)
def hck3 (h : zH) : Bool := (List.range 128).all (fun o => (krT o).all (fun p => match h.2.2.2 o p.1 with
  | some q => p.2.elem q
  | none => false))
def hck4 (h : zH) : Bool := (List.range 128).all (fun o => match kS o with
  | some (_, n) => (List.range n).all (fun k => ile (aiv kB o k).1 (h.2.1 o k).toInt && ile (h.2.1 o k).toInt (aiv kB o k).2) && (match kB o with
    | some (.inl q) => ile q.1 0 && ile 0 q.2
    | some (.inr l) => Nat.ble l.length n
    | none => true)
  | none => false)
def hck5 (h : zH) : Bool := ile (h.2.1 102 5).toInt (h.2.1 102 4).toInt && (List.range 40).all (fun k => ile (h.2.1 104 k).toInt 59)
def hck6 (T : aT) (h : zH) : Bool := T.all (fun t => Nat.blt 0 t.1 && (match t.2.2 with
  | .inr c => decide ((h.2.1 t.1 t.2.1).toInt = c)
  | .inl _ => false))
def hsat : List Int → aCs → Bool
  | [], [] => true
  | w :: q, b :: cs => (ile b.1 w && ile w b.2) && hsat q cs
  | _, _ => false
def hval (q : List Int) (z : Int) : aI → Bool
  | .inl (k, o) => (match zget q k with
    | some w => decide (z = w + o)
    | none => false)
  | .inr n => decide (z = n)
def hck7 (h : zH) : List aFa → List (Nat × List Int) → Bool
  | [], [] => true
  | F :: r, w :: ws => (match zget F w.1 with
    | some p => hsat w.2 p.1 && p.2.all (fun t => Nat.blt 0 t.1 && hval w.2 (h.2.1 t.1 t.2.1).toInt t.2.2)
    | none => false) && hck7 h r ws
  | _, _ => false
def hck8 (h : zH) : Bool := (List.range 50).all (fun k => decide (h.2.1 48 k = h.2.1 122 k)) && ((match zget h.1 48 with
  | some p => Nat.ble p.2 50
  | none => true) && (match zget h.1 122 with
  | some p => Nat.ble p.2 50
  | none => true))
def hck (y : zC) : Bool := (hck1 y && hck2 y.2.2.2) && (hck3 y.2.2.2 && (hck4 y.2.2.2 && (hck5 y.2.2.2 && (hck6 kA.2.1 y.2.2.2 && (hck7 y.2.2.2 kFs kF0 && hck8 y.2.2.2)))))
def hckO (o : Option (zC ⊕ (Option Value × zH))) : Bool := match o with
  | some (.inl y) => hck y
  | _ => false
theorem hckO_ok : ∀ {o : Option (zC ⊕ (Option Value × zH))}, hckO o = true → ∃ y, o = some (.inl y) ∧ hck y = true
  | some (.inl y), h => ⟨y, rfl, h⟩
  | some (.inr _), h => by cases h
  | none, h => by cases h
theorem hinit : hckO (zr 3000 60 241 18 hx0) = true := by decide +kernel
theorem hinit2 : ∃ y, zr 3000 60 241 18 hx0 = some (.inl y) ∧ hck y = true := hckO_ok hinit
