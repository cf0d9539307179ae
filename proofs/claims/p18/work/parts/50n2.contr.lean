/-! FROM CONTRACTS to ended runs: what is kept, and which cells. -/
theorem zr_det {f_s f1_s d_s d1_s mi : Nat} {x_s : zC} {r_s r1_s : Option Value} {h_s h1 : zH} (a_s : zr f_s d_s mi 100000 x_s = some (.inr (r_s, h_s))) (b_s : zr f1_s d1_s mi 100000 x_s = some (.inr (r1_s, h1))) : r_s = r1_s ∧ h_s = h1 := by
  have a1_s := zr_deeper (Nat.le_max_left d_s d1_s) (zr_le (Nat.le_max_left f_s f1_s) a_s)
  have b1 := zr_deeper (Nat.le_max_right d_s d1_s) (zr_le (Nat.le_max_right f_s f1_s) b_s)
  rw [a1_s] at b1
  cases b1
  exact ⟨rfl, rfl⟩
def hIw (h_s : zH) : Prop := aInv kS krf (aiv kB) h_s ∧ aJ h_s
theorem hIw_k {h_s : zH} (hI : hIw h_s) : hKn h_s := ⟨hI.1.1, hI.1.2.1⟩
theorem cx0 {e_s : aE} {F_s : Nat} {E_s : List Int} {x_s : zC} (hok : aOK kS krf kB e_s) (R_s : aRel kS krf (aiv kB) E_s e_s.2.2.1 x_s) (hD : aDs E_s e_s.2.2.2.1.1) (hsl : aSl0 E_s x_s.2.2.2.1 e_s.2.2.2.1.2) (hj : aJ x_s.2.2.2) : wF F_s e_s.1 x_s (aPost kS krf kB e_s E_s x_s.2.2.2) := by
  intro f_s d_s r_s h1 _ hr
  obtain ⟨f1_s, r1_s, h2, hr1, hp⟩ := hok E_s x_s R_s hD hsl hj
  obtain ⟨rfl, rfl⟩ := zr_det hr hr1
  exact hp
theorem cxI {e_s : aE} {F_s : Nat} {E_s : List Int} {x_s : zC} {a_s : aI} (hok : aOK kS krf kB e_s) (R_s : aRel kS krf (aiv kB) E_s e_s.2.2.1 x_s) (hj : aJ x_s.2.2.2) (he : e_s.2.2.2.2.1.2.2.1 = some (.inl (.inl a_s))) (hD : e_s.2.2.2.1 = ([], none)) : wF F_s e_s.1 x_s (gI (fun _ h1 => hIw h1 ∧ aFr (aWf e_s.2.2.2.2.2) x_s.2.2.2 h1)) := by
  refine wF_mono (cx0 hok R_s (fun f_s hf => ?_) (fun k_s hk => ?_) hj) (fun r_s h1 q_s => ?_)
  · rw [hD] at hf
    cases hf
  · rw [hD] at hk
    cases hk
  · obtain ⟨q1_s, _, r1_s, hh, _, _, fr_s, hj1⟩ := q_s
    rw [he] at r1_s
    match r_s, r1_s with
    | some v_s, r1_s =>
      obtain ⟨z_s, rfl, _⟩ := r1_s
      exact ⟨z_s, rfl, ⟨hh.1.1, hh.1.2.1⟩, ⟨hh.1, hj1⟩, fr_s⟩
    | none, r1_s => exact r1_s.elim
theorem cxJ {e_s : aE} {F_s : Nat} {E_s : List Int} {x_s : zC} {a_s : aI} (hok : aOK kS krf kB e_s) (R_s : aRel kS krf (aiv kB) E_s e_s.2.2.1 x_s) (hj : aJ x_s.2.2.2) (he : e_s.2.2.2.2.1.2.2.1 = some (.inl (.inr a_s))) (hD : e_s.2.2.2.1 = ([], none)) : wF F_s e_s.1 x_s (gJ (fun _ h1 => hIw h1 ∧ aFr (aWf e_s.2.2.2.2.2) x_s.2.2.2 h1)) := by
  refine wF_mono (cx0 hok R_s (fun f_s hf => ?_) (fun k_s hk => ?_) hj) (fun r_s h1 q_s => ?_)
  · rw [hD] at hf
    cases hf
  · rw [hD] at hk
    cases hk
  · obtain ⟨q1_s, _, r1_s, hh, _, _, fr_s, hj1⟩ := q_s
    rw [he] at r1_s
    match r_s, r1_s with
    | some v_s, r1_s =>
      obtain ⟨z_s, rfl, _⟩ := r1_s
      exact ⟨z_s, rfl, ⟨hh.1.1, hh.1.2.1⟩, ⟨hh.1, hj1⟩, fr_s⟩
    | none, r1_s => exact r1_s.elim
def bI : Int × Int := (.negSucc 2147483647, .ofNat 2147483647)
def bJ : Int × Int := (.negSucc 9223372036854775807, .ofNat 9223372036854775807)
theorem bI_ok (x_s : Int32) : bI.1 ≤ x_s.toInt ∧ x_s.toInt ≤ bI.2 := na_rng x_s
theorem bJ_ok (x_s : Int64) : bJ.1 ≤ x_s.toInt ∧ x_s.toInt ≤ bJ.2 := na_rngL x_s
theorem zget_rep {α : Type} {a_s : α} : ∀ {n_s k_s : Nat} {b_s : α}, zget (List.replicate n_s a_s) k_s = some b_s → b_s = a_s
  | 0, _, _, hq => by cases hq
  | n_s + 1, 0, b_s, hq => by
    cases hq
    rfl
  | n_s + 1, k_s + 1, b_s, hq => zget_rep (n_s := n_s) (k_s := k_s) hq
theorem rel0 {o n_s : Nat}  {h_s : zH} (hI : hIw h_s) : aRel kS krf (aiv kB) [] ([], [], 0, [some (.inr [o])] ++ List.replicate n_s none, []) (0, [some (.ref o)] ++ List.replicate n_s none, [], h_s) := by
  refine ⟨⟨rfl, fun k_s w_s q_s h1 h2 => ?_⟩, rfl, ⟨?_, fun i_s a_s ha_s => ?_⟩, trivial, hI.1, fun o k_s a_s ha_s => by cases ha_s⟩
  · cases h1
  · simp only [List.length_append, List.length_replicate, List.length_cons, List.length_nil]
  · match i_s, ha_s with
    | 0, ha_s =>
      cases ha_s
      exact ⟨_, rfl, o, rfl, List.mem_singleton.mpr rfl⟩
    | k_s + 1, ha_s =>
      have q_s := zget_rep (n_s := n_s) (k_s := k_s) ha_s
      cases q_s
theorem rel1 {o n_s : Nat} {x1_s : Int32} {h_s : zH} (hI : hIw h_s) : aRel kS krf (aiv kB) [x1_s.toInt] ([bI], [], 0, [some (.inr [o]), some (.inl (.inl (.inl (0, .ofNat 0))))] ++ List.replicate n_s none, []) (0, [some (.ref o), some (.int x1_s)] ++ List.replicate n_s none, [], h_s) := by
  refine ⟨⟨rfl, fun k_s w_s q_s h1 h2 => ?_⟩, rfl, ⟨?_, fun i_s a_s ha_s => ?_⟩, trivial, hI.1, fun o k_s a_s ha_s => by cases ha_s⟩
  · match k_s, h1, h2 with
    | 0, h1, h2 =>
      cases h1
      cases h2
      exact bI_ok x1_s
    | _ + 1, h1, _ => cases h1
  · simp only [List.length_append, List.length_replicate, List.length_cons, List.length_nil]
  · match i_s, ha_s with
    | 0, ha_s =>
      cases ha_s
      exact ⟨_, rfl, o, rfl, List.mem_singleton.mpr rfl⟩
    | 1, ha_s =>
      cases ha_s
      exact ⟨_, rfl, x1_s, rfl, x1_s.toInt, rfl, (Int.add_zero _).symm⟩
    | k_s + 2, ha_s =>
      have q_s := zget_rep (n_s := n_s) (k_s := k_s) ha_s
      cases q_s
theorem rel2 {o n_s : Nat} {x1_s : Int32} {x2_s : Int32} {h_s : zH} (hI : hIw h_s) : aRel kS krf (aiv kB) [x1_s.toInt, x2_s.toInt] ([bI, bI], [], 0, [some (.inr [o]), some (.inl (.inl (.inl (0, .ofNat 0)))), some (.inl (.inl (.inl (1, .ofNat 0))))] ++ List.replicate n_s none, []) (0, [some (.ref o), some (.int x1_s), some (.int x2_s)] ++ List.replicate n_s none, [], h_s) := by
  refine ⟨⟨rfl, fun k_s w_s q_s h1 h2 => ?_⟩, rfl, ⟨?_, fun i_s a_s ha_s => ?_⟩, trivial, hI.1, fun o k_s a_s ha_s => by cases ha_s⟩
  · match k_s, h1, h2 with
    | 0, h1, h2 =>
      cases h1
      cases h2
      exact bI_ok x1_s
    | 1, h1, h2 =>
      cases h1
      cases h2
      exact bI_ok x2_s
    | _ + 2, h1, _ => cases h1
  · simp only [List.length_append, List.length_replicate, List.length_cons, List.length_nil]
  · match i_s, ha_s with
    | 0, ha_s =>
      cases ha_s
      exact ⟨_, rfl, o, rfl, List.mem_singleton.mpr rfl⟩
    | 1, ha_s =>
      cases ha_s
      exact ⟨_, rfl, x1_s, rfl, x1_s.toInt, rfl, (Int.add_zero _).symm⟩
    | 2, ha_s =>
      cases ha_s
      exact ⟨_, rfl, x2_s, rfl, x2_s.toInt, rfl, (Int.add_zero _).symm⟩
    | k_s + 3, ha_s =>
      have q_s := zget_rep (n_s := n_s) (k_s := k_s) ha_s
      cases q_s
theorem rel3 {o n_s : Nat} {x1_s : Int32} {x2_s : Int32} {x3 : Int32} {h_s : zH} (hI : hIw h_s) : aRel kS krf (aiv kB) [x1_s.toInt, x2_s.toInt, x3.toInt] ([bI, bI, bI], [], 0, [some (.inr [o]), some (.inl (.inl (.inl (0, .ofNat 0)))), some (.inl (.inl (.inl (1, .ofNat 0)))), some (.inl (.inl (.inl (2, .ofNat 0))))] ++ List.replicate n_s none, []) (0, [some (.ref o), some (.int x1_s), some (.int x2_s), some (.int x3)] ++ List.replicate n_s none, [], h_s) := by
  refine ⟨⟨rfl, fun k_s w_s q_s h1 h2 => ?_⟩, rfl, ⟨?_, fun i_s a_s ha_s => ?_⟩, trivial, hI.1, fun o k_s a_s ha_s => by cases ha_s⟩
  · match k_s, h1, h2 with
    | 0, h1, h2 =>
      cases h1
      cases h2
      exact bI_ok x1_s
    | 1, h1, h2 =>
      cases h1
      cases h2
      exact bI_ok x2_s
    | 2, h1, h2 =>
      cases h1
      cases h2
      exact bI_ok x3
    | _ + 3, h1, _ => cases h1
  · simp only [List.length_append, List.length_replicate, List.length_cons, List.length_nil]
  · match i_s, ha_s with
    | 0, ha_s =>
      cases ha_s
      exact ⟨_, rfl, o, rfl, List.mem_singleton.mpr rfl⟩
    | 1, ha_s =>
      cases ha_s
      exact ⟨_, rfl, x1_s, rfl, x1_s.toInt, rfl, (Int.add_zero _).symm⟩
    | 2, ha_s =>
      cases ha_s
      exact ⟨_, rfl, x2_s, rfl, x2_s.toInt, rfl, (Int.add_zero _).symm⟩
    | 3, ha_s =>
      cases ha_s
      exact ⟨_, rfl, x3, rfl, x3.toInt, rfl, (Int.add_zero _).symm⟩
    | k_s + 4, ha_s =>
      have q_s := zget_rep (n_s := n_s) (k_s := k_s) ha_s
      cases q_s
theorem rel4 {o n_s : Nat} {x1_s : Int32} {x2_s : Int32} {x3 : Int32} {x4_s : Int32} {h_s : zH} (hI : hIw h_s) : aRel kS krf (aiv kB) [x1_s.toInt, x2_s.toInt, x3.toInt, x4_s.toInt] ([bI, bI, bI, bI], [], 0, [some (.inr [o]), some (.inl (.inl (.inl (0, .ofNat 0)))), some (.inl (.inl (.inl (1, .ofNat 0)))), some (.inl (.inl (.inl (2, .ofNat 0)))), some (.inl (.inl (.inl (3, .ofNat 0))))] ++ List.replicate n_s none, []) (0, [some (.ref o), some (.int x1_s), some (.int x2_s), some (.int x3), some (.int x4_s)] ++ List.replicate n_s none, [], h_s) := by
  refine ⟨⟨rfl, fun k_s w_s q_s h1 h2 => ?_⟩, rfl, ⟨?_, fun i_s a_s ha_s => ?_⟩, trivial, hI.1, fun o k_s a_s ha_s => by cases ha_s⟩
  · match k_s, h1, h2 with
    | 0, h1, h2 =>
      cases h1
      cases h2
      exact bI_ok x1_s
    | 1, h1, h2 =>
      cases h1
      cases h2
      exact bI_ok x2_s
    | 2, h1, h2 =>
      cases h1
      cases h2
      exact bI_ok x3
    | 3, h1, h2 =>
      cases h1
      cases h2
      exact bI_ok x4_s
    | _ + 4, h1, _ => cases h1
  · simp only [List.length_append, List.length_replicate, List.length_cons, List.length_nil]
  · match i_s, ha_s with
    | 0, ha_s =>
      cases ha_s
      exact ⟨_, rfl, o, rfl, List.mem_singleton.mpr rfl⟩
    | 1, ha_s =>
      cases ha_s
      exact ⟨_, rfl, x1_s, rfl, x1_s.toInt, rfl, (Int.add_zero _).symm⟩
    | 2, ha_s =>
      cases ha_s
      exact ⟨_, rfl, x2_s, rfl, x2_s.toInt, rfl, (Int.add_zero _).symm⟩
    | 3, ha_s =>
      cases ha_s
      exact ⟨_, rfl, x3, rfl, x3.toInt, rfl, (Int.add_zero _).symm⟩
    | 4, ha_s =>
      cases ha_s
      exact ⟨_, rfl, x4_s, rfl, x4_s.toInt, rfl, (Int.add_zero _).symm⟩
    | k_s + 5, ha_s =>
      have q_s := zget_rep (n_s := n_s) (k_s := k_s) ha_s
      cases q_s
theorem rel5 {o n_s : Nat} {x1_s : Int32} {x2_s : Int32} {x3 : Int32} {x4_s : Int32} {x5_s : Int32} {h_s : zH} (hI : hIw h_s) : aRel kS krf (aiv kB) [x1_s.toInt, x2_s.toInt, x3.toInt, x4_s.toInt, x5_s.toInt] ([bI, bI, bI, bI, bI], [], 0, [some (.inr [o]), some (.inl (.inl (.inl (0, .ofNat 0)))), some (.inl (.inl (.inl (1, .ofNat 0)))), some (.inl (.inl (.inl (2, .ofNat 0)))), some (.inl (.inl (.inl (3, .ofNat 0)))), some (.inl (.inl (.inl (4, .ofNat 0))))] ++ List.replicate n_s none, []) (0, [some (.ref o), some (.int x1_s), some (.int x2_s), some (.int x3), some (.int x4_s), some (.int x5_s)] ++ List.replicate n_s none, [], h_s) := by
  refine ⟨⟨rfl, fun k_s w_s q_s h1 h2 => ?_⟩, rfl, ⟨?_, fun i_s a_s ha_s => ?_⟩, trivial, hI.1, fun o k_s a_s ha_s => by cases ha_s⟩
  · match k_s, h1, h2 with
    | 0, h1, h2 =>
      cases h1
      cases h2
      exact bI_ok x1_s
    | 1, h1, h2 =>
      cases h1
      cases h2
      exact bI_ok x2_s
    | 2, h1, h2 =>
      cases h1
      cases h2
      exact bI_ok x3
    | 3, h1, h2 =>
      cases h1
      cases h2
      exact bI_ok x4_s
    | 4, h1, h2 =>
      cases h1
      cases h2
      exact bI_ok x5_s
    | _ + 5, h1, _ => cases h1
  · simp only [List.length_append, List.length_replicate, List.length_cons, List.length_nil]
  · match i_s, ha_s with
    | 0, ha_s =>
      cases ha_s
      exact ⟨_, rfl, o, rfl, List.mem_singleton.mpr rfl⟩
    | 1, ha_s =>
      cases ha_s
      exact ⟨_, rfl, x1_s, rfl, x1_s.toInt, rfl, (Int.add_zero _).symm⟩
    | 2, ha_s =>
      cases ha_s
      exact ⟨_, rfl, x2_s, rfl, x2_s.toInt, rfl, (Int.add_zero _).symm⟩
    | 3, ha_s =>
      cases ha_s
      exact ⟨_, rfl, x3, rfl, x3.toInt, rfl, (Int.add_zero _).symm⟩
    | 4, ha_s =>
      cases ha_s
      exact ⟨_, rfl, x4_s, rfl, x4_s.toInt, rfl, (Int.add_zero _).symm⟩
    | 5, ha_s =>
      cases ha_s
      exact ⟨_, rfl, x5_s, rfl, x5_s.toInt, rfl, (Int.add_zero _).symm⟩
    | k_s + 6, ha_s =>
      have q_s := zget_rep (n_s := n_s) (k_s := k_s) ha_s
      cases q_s
theorem relp {o n_s : Nat} {x1_s : Int32} {x2_s : Int32} {x3 : Int64} {h_s : zH} (hI : hIw h_s) : aRel kS krf (aiv kB) [x1_s.toInt, x2_s.toInt, x3.toInt] ([bI, bI, bJ], [], 0, [some (.inr [o]), some (.inl (.inl (.inl (0, .ofNat 0)))), some (.inl (.inl (.inl (1, .ofNat 0)))), some (.inl (.inr (.inl (2, .ofNat 0)))), none] ++ List.replicate n_s none, []) (0, [some (.ref o), some (.int x1_s), some (.int x2_s), some (.long x3), none] ++ List.replicate n_s none, [], h_s) := by
  refine ⟨⟨rfl, fun k_s w_s q_s h1 h2 => ?_⟩, rfl, ⟨?_, fun i_s a_s ha_s => ?_⟩, trivial, hI.1, fun o k_s a_s ha_s => by cases ha_s⟩
  · match k_s, h1, h2 with
    | 0, h1, h2 =>
      cases h1
      cases h2
      exact bI_ok x1_s
    | 1, h1, h2 =>
      cases h1
      cases h2
      exact bI_ok x2_s
    | 2, h1, h2 =>
      cases h1
      cases h2
      exact bJ_ok x3
    | _ + 3, h1, _ => cases h1
  · simp only [List.length_append, List.length_replicate, List.length_cons, List.length_nil]
  · match i_s, ha_s with
    | 0, ha_s =>
      cases ha_s
      exact ⟨_, rfl, o, rfl, List.mem_singleton.mpr rfl⟩
    | 1, ha_s =>
      cases ha_s
      exact ⟨_, rfl, x1_s, rfl, x1_s.toInt, rfl, (Int.add_zero _).symm⟩
    | 2, ha_s =>
      cases ha_s
      exact ⟨_, rfl, x2_s, rfl, x2_s.toInt, rfl, (Int.add_zero _).symm⟩
    | 3, ha_s =>
      cases ha_s
      exact ⟨_, rfl, x3, rfl, x3.toInt, rfl, (Int.add_zero _).symm⟩
    | 4, ha_s => cases ha_s
    | k_s + 5, ha_s =>
      have q_s := zget_rep (n_s := n_s) (k_s := k_s) ha_s
      cases q_s
