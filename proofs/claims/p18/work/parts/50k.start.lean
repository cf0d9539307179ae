theorem kas_mem : ∀ {l : List (Nat × List Nat)} {k : Nat}, kas l k ≠ [] → (k, kas l k) ∈ l
  | [], _, h => absurd rfl h
  | (k', m) :: r, k, h => by
    unfold kas at h ⊢
    cases hb : Nat.beq k' k
    · rw [hb] at h
      exact List.mem_cons_of_mem _ (kas_mem h)
    · rw [Nat.eq_of_beq_eq_true hb]
      exact List.mem_cons_self
theorem kS_out {o : Nat} (h : 128 ≤ o) : kS o = none := by
  unfold kS
  rw [show Nat.blt o 128 = false by
    cases hb : Nat.blt o 128
    · rfl
    · rw [Nat.blt_eq] at hb
      omega]
  rfl
theorem krT_out {o : Nat} (h : 128 ≤ o) : krT o = [] := by
  unfold krT
  rw [show Nat.blt o 128 = false by
    cases hb : Nat.blt o 128
    · rfl
    · rw [Nat.blt_eq] at hb
      omega]
  rfl
theorem kB_out {o : Nat} (h : 128 ≤ o) : kB o = none := by
  unfold kB
  rw [show Nat.blt o 128 = false by
    cases hb : Nat.blt o 128
    · rfl
    · rw [Nat.blt_eq] at hb
      omega]
  rfl
theorem afind_mem : ∀ {T : aT} {o k : Nat} {a : aI}, afind T o k = some a → (o, k, a) ∈ T
  | [], _, _, _, h => by cases h
  | (o', k', v) :: r, o, k, a, h => by
    unfold afind at h
    cases hb : (Nat.beq o' o && Nat.beq k' k)
    · rw [hb] at h
      exact List.mem_cons_of_mem _ (afind_mem h)
    · rw [hb] at h
      rw [Bool.and_eq_true] at hb
      have e1 := Nat.eq_of_beq_eq_true hb.1
      have e2 := Nat.eq_of_beq_eq_true hb.2
      subst e1
      subst e2
      have h : some v = some a := h
      cases h
      exact List.mem_cons_self
theorem hbd_of {h : zH} (hz : hZ h) (h2 : hck2 h = true) (h4 : hck4 h = true) : hBd h.2.1 := by
  intro o k
  by_cases ho : o < 128
  · have c4 := List.all_eq_true.mp h4 o (List.mem_range.mpr ho)
    unfold hck2 at h2
    rw [Bool.and_eq_true] at h2
    have c2 := List.all_eq_true.mp h2.2 o (List.mem_range.mpr ho)
    split at c4
    · rename_i t n hs
      rw [Bool.and_eq_true] at c4
      by_cases hk : k < n
      · have c := List.all_eq_true.mp c4.1 k (List.mem_range.mpr hk)
        rw [Bool.and_eq_true, ile_eq, ile_eq] at c
        exact c
      · have e0 : h.2.1 o k = 0 := by
          refine hz o k (fun t' n' hg => ?_)
          rw [hg, hs] at c2
          dsimp only at c2
          rw [Bool.and_eq_true] at c2
          have := Nat.eq_of_beq_eq_true c2.2
          omega
        rw [e0]
        have z0 : (0 : Int32).toInt = 0 := rfl
        rw [z0]
        have c := c4.2
        unfold aiv
        split at c
        · rename_i q hq
          rw [hq]
          dsimp only
          rw [Bool.and_eq_true, ile_eq, ile_eq] at c
          exact c
        · rename_i l hq
          rw [hq]
          dsimp only
          rw [Nat.ble_eq] at c
          rw [zget_nn (by omega)]
          decide
        · rename_i hq
          rw [hq]
          exact (by decide : afull.1 ≤ 0 ∧ 0 ≤ afull.2)
    · cases c4
  · unfold aiv
    rw [kB_out (by omega)]
    exact na_rng _
