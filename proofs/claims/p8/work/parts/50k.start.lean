theorem kas_mem : ∀ {l : List (Nat × List Nat)} {k : Nat}, kas l k ≠ [] → (k, kas l k) ∈ l
  | [], _, h => absurd rfl h
  | (k', m) :: r, k, h => by
    unfold kas at h ⊢
    cases hb : Nat.beq k' k
    · rw [hb] at h
      exact List.mem_cons_of_mem _ (kas_mem h)
    · rw [Nat.eq_of_beq_eq_true hb]
      exact List.mem_cons_self
theorem kS_out {o : Nat} (h : 128 ≤ o) : kS o = none := by
  unfold kS
  rw [show Nat.blt o 128 = false by
    cases hb : Nat.blt o 128
    · rfl
    · rw [Nat.blt_eq] at hb
      omega]
  rfl
theorem krT_out {o : Nat} (h : 128 ≤ o) : krT o = [] := by
  unfold krT
  rw [show Nat.blt o 128 = false by
    cases hb : Nat.blt o 128
    · rfl
    · rw [Nat.blt_eq] at hb
      omega]
  rfl
theorem kB_out {o : Nat} (h : 128 ≤ o) : kB o = none := by
  unfold kB
  rw [show Nat.blt o 128 = false by
    cases hb : Nat.blt o 128
    · rfl
    · rw [Nat.blt_eq] at hb
      omega]
  rfl
theorem afind_mem : ∀ {T : aT} {o k : Nat} {a : aI}, afind T o k = some a → (o, k, a) ∈ T
  | [], _, _, _, h => by cases h
  | (o', k', v) :: r, o, k, a, h => by
    unfold afind at h
    cases hb : (Nat.beq o' o && Nat.beq k' k)
    · rw [hb] at h
      exact List.mem_cons_of_mem _ (afind_mem h)
    · rw [hb] at h
      rw [Bool.and_eq_true] at hb
      have e1 := Nat.eq_of_beq_eq_true hb.1
      have e2 := Nat.eq_of_beq_eq_true hb.2
      subst e1
      subst e2
      have h : some v = some a := h
      cases h
      exact List.mem_cons_self
theorem hbd_of {h : zH} (hz : hZ h) (h2 : hck2 h = true) (h4 : hck4 h = true) : hBd h.2.1 := by
  intro o k
  by_cases ho : o < 128
  · have c4 := List.all_eq_true.mp h4 o (List.mem_range.mpr ho)
    unfold hck2 at h2
    rw [Bool.and_eq_true] at h2
    have c2 := List.all_eq_true.mp h2.2 o (List.mem_range.mpr ho)
    split at c4
    · rename_i t n hs
      rw [Bool.and_eq_true] at c4
      by_cases hk : k < n
      · have c := List.all_eq_true.mp c4.1 k (List.mem_range.mpr hk)
        rw [Bool.and_eq_true, ile_eq, ile_eq] at c
        exact c
      · have e0 : h.2.1 o k = 0 := by
          refine hz o k (fun t' n' hg => ?_)
          rw [hg, hs] at c2
          dsimp only at c2
          rw [Bool.and_eq_true] at c2
          have := Nat.eq_of_beq_eq_true c2.2
          omega
        rw [e0]
        have z0 : (0 : Int32).toInt = 0 := rfl
        rw [z0]
        have c := c4.2
        unfold aiv
        split at c
        · rename_i q hq
          rw [hq]
          dsimp only
          rw [Bool.and_eq_true, ile_eq, ile_eq] at c
          exact c
        · rename_i l hq
          rw [hq]
          dsimp only
          rw [Nat.ble_eq] at c
          rw [zget_nn (by omega)]
          decide
        · rename_i hq
          rw [hq]
          exact (by decide : afull.1 ≤ 0 ∧ 0 ≤ afull.2)
    · cases c4
  · unfold aiv
    rw [kB_out (by omega)]
    exact na_rng _
theorem hsat_ok : ∀ {q : List Int} {cs : aCs}, hsat q cs = true → aSat q cs
  | [], [], _ => ⟨rfl, fun k w b h1 h2 => by cases h1⟩
  | [], _ :: _, h => by cases h
  | _ :: _, [], h => by cases h
  | w :: q, b :: cs, h => by
    unfold hsat at h
    rw [Bool.and_eq_true, Bool.and_eq_true, ile_eq, ile_eq] at h
    have r := hsat_ok h.2
    refine ⟨congrArg Nat.succ r.1, fun k u c h1 h2 => ?_⟩
    match k, h1, h2 with
    | 0, h1, h2 =>
      cases h1
      cases h2
      exact h.1
    | k + 1, h1, h2 => exact r.2 k u c h1 h2
theorem hval_ok {q : List Int} {z : Int} {a : aI} (h : hval q z a = true) : aIs q z a := by
  match a, h with
  | .inl (k, o), h =>
    unfold hval at h
    dsimp only at h
    split at h
    · rename_i w hw
      exact ⟨w, hw, of_decide_eq_true h⟩
    · cases h
  | .inr n, h =>
    have h : decide (z = n) = true := h
    exact (show z = n from of_decide_eq_true h)
theorem hck7_ok {h h' : zH} (e : ∀ o k, o ≠ 0 → h'.2.1 o k = h.2.1 o k) : ∀ {Fs : List aFa} {ws : List (Nat × List Int)}, hck7 h Fs ws = true → ∀ j F, zget Fs j = some F → aFas h' F
  | [], _, _, j, F, hF => by cases hF
  | _ :: _, [], hc, _, _, _ => by cases hc
  | F0 :: r, w :: ws, hc, j, F, hF => by
    unfold hck7 at hc
    rw [Bool.and_eq_true] at hc
    match j, hF with
    | 0, hF =>
      have hF : some F0 = some F := hF
      cases hF
      have c := hc.1
      split at c
      · rename_i p hp
        rw [Bool.and_eq_true] at c
        refine ⟨p, zget_in hp, w.2, hsat_ok c.1, fun o k a ha => ?_⟩
        have c2 := List.all_eq_true.mp c.2 _ (afind_mem ha)
        rw [Bool.and_eq_true] at c2
        have ho : o ≠ 0 := fun q => by
          have c3 := c2.1
          rw [q] at c3
          cases c3
        rw [e o k ho]
        exact hval_ok c2.2
      · cases c
    | j + 1, hF => exact hck7_ok e hc.2 j F hF
theorem hck8_ok {h : zH} (hz : hZ h) (c : hck8 h = true) : ∀ k, h.2.1 48 k = h.2.1 122 k := by
  intro k
  unfold hck8 at c
  rw [Bool.and_eq_true, Bool.and_eq_true] at c
  by_cases hk : k < 50
  · exact of_decide_eq_true (List.all_eq_true.mp c.1 k (List.mem_range.mpr hk))
  · have e1 : h.2.1 48 k = 0 := hz 48 k (fun t n hg => by
      have c2 := c.2.1
      rw [hg] at c2
      have c2 : Nat.ble n 50 = true := c2
      rw [Nat.ble_eq] at c2
      omega)
    have e2 : h.2.1 122 k = 0 := hz 122 k (fun t n hg => by
      have c2 := c.2.2
      rw [hg] at c2
      have c2 : Nat.ble n 50 = true := c2
      rw [Nat.ble_eq] at c2
      omega)
    rw [e1, e2]
