/-! THE WHOLE STATE: what class and reference have in common; what leaves it as it is. -/
def okN (nh ni nr n_s w_s : Nat) : Prop := n_s < (if w_s < 2 then nh else if w_s < 9 then ni else nr)
/-- a change that is kept: number n of what w -/
def chT (nh ni nr : Nat) (f_s : Nat → Nat → Int32) (k_s : Nat) : Prop := ∃ n_s w_s : Nat, w_s < 12 ∧ okN nh ni nr n_s w_s ∧ (f_s 43 k_s).toInt = (n_s : Int) ∧ (f_s 44 k_s).toInt = (w_s : Int) ∧ (f_s 104 k_s).toInt = (plc n_s w_s : Int) ∧ f_s 105 k_s = f_s 45 k_s ∧ f_s 106 k_s = f_s 46 k_s ∧ vB nh nr n_s w_s (f_s 45 k_s).toInt ∧ vB nh nr n_s w_s (f_s 46 k_s).toInt
def tH (nh ni nr : Nat) (f_s : Nat → Nat → Int32) : Prop := ∃ u_s r_s : Nat, u_s + r_s ≤ 40 ∧ (f_s 42 0).toInt = (u_s : Int) ∧ (f_s 42 1).toInt = (r_s : Int) ∧ (f_s 102 5).toInt = (u_s : Int) ∧ (f_s 102 4).toInt = ((u_s + r_s : Nat) : Int) ∧ ∀ k_s, k_s < u_s + r_s → chT nh ni nr f_s k_s
def tI (nh ni nr : Nat) (f_s : Nat → Nat → Int32) : Prop := ((f_s 6 12).toInt = -1 ∧ (f_s 102 35).toInt = 0) ∨ (∃ ic : Nat, ic ≤ ni ∧ (f_s 6 12).toInt = (ic : Int) ∧ (f_s 102 36).toInt = (ic : Int) ∧ ¬ (f_s 102 35).toInt = 0 ∧ (∀ i_s k_s, i_s < ic → k_s < 7 → ¬ k_s = 0 → ¬ k_s = 4 → f_s (94 + i_s) k_s = f_s 120 (12 + 8 * k_s + i_s) ∧ vB nh nr i_s (k_s + 2) (f_s 120 (12 + 8 * k_s + i_s)).toInt) ∧ (∀ k_s, 2 ≤ k_s → k_s ≤ 4 → f_s 75 k_s = f_s 121 k_s))
def tD (f_s : Nat → Nat → Int32) : Prop := ∀ k_s, 2 ≤ k_s → k_s ≤ 4 → f_s 73 k_s = f_s 119 k_s
def lsW (w_s : Nat) : Int := if w_s = 8 then -1 else if w_s = 9 then 1 else 0
def msW (w_s : Nat) : Int := if w_s = 8 then 5 else mxw w_s
def tZ (f_s : Nat → Nat → Int32) : Prop := (∀ k_s, k_s < 12 → (f_s 1 k_s).toInt = msW k_s ∧ (f_s 2 k_s).toInt = lsW k_s) ∧ ((f_s 3 0).toInt = 4 ∧ (f_s 3 1).toInt = 0 ∧ (f_s 3 2).toInt = 3)
def tX (h_s : zH) : Prop := ∃ nh ni nr : Nat, tC nh ni nr h_s.2.1 ∧ tH nh ni nr h_s.2.1 ∧ tI nh ni nr h_s.2.1 ∧ tD h_s.2.1 ∧ tZ h_s.2.1 ∧ tLw h_s
def inH (o k_s : Nat) : Prop := (o = 42 ∧ k_s < 2) ∨ (43 ≤ o ∧ o ≤ 46 ∧ k_s < 40) ∨ (o = 102 ∧ (k_s = 4 ∨ k_s = 5)) ∨ (104 ≤ o ∧ o ≤ 106 ∧ k_s < 40)
def inI (o k_s : Nat) : Prop := (o = 6 ∧ k_s = 12) ∨ (94 ≤ o ∧ o < 102 ∧ k_s < 7) ∨ (o = 75 ∧ k_s < 5) ∨ (o = 102 ∧ (k_s = 35 ∨ k_s = 36)) ∨ (o = 120 ∧ k_s < 104) ∨ (o = 121 ∧ k_s < 5)
def inD (o k_s : Nat) : Prop := (o = 73 ∨ o = 119) ∧ 2 ≤ k_s ∧ k_s ≤ 4
def inZ (o k_s : Nat) : Prop := (o = 1 ∧ k_s < 12) ∨ (o = 2 ∧ k_s < 12) ∨ (o = 3 ∧ k_s < 3)
def inW (o k_s : Nat) : Prop := ((o = 14 ∨ o = 17) ∧ k_s < 3) ∨ ((o = 15 ∨ o = 18) ∧ k_s < 242) ∨ (o = 102 ∧ k_s = 14) ∨ (o = 110 ∧ k_s < 120)
section TXF
variable {nh ni nr : Nat} {f_s f1_s : Nat → Nat → Int32}
theorem chT_fr {k_s : Nat} (hf : ∀ o, (43 ≤ o ∧ o ≤ 46) ∨ (104 ≤ o ∧ o ≤ 106) → f1_s o k_s = f_s o k_s) (h_s : chT nh ni nr f_s k_s) : chT nh ni nr f1_s k_s := by
  obtain ⟨n_s, w_s, a1_s, a2, a3, a4, a5, a6, a7, a8, a9⟩ := h_s
  refine ⟨n_s, w_s, a1_s, a2, ?_, ?_, ?_, ?_, ?_, ?_, ?_⟩
  · rw [hf 43 (by omega)]
    exact a3
  · rw [hf 44 (by omega)]
    exact a4
  · rw [hf 104 (by omega)]
    exact a5
  · rw [hf 105 (by omega), hf 45 (by omega)]
    exact a6
  · rw [hf 106 (by omega), hf 46 (by omega)]
    exact a7
  · rw [hf 45 (by omega)]
    exact a8
  · rw [hf 46 (by omega)]
    exact a9
theorem tH_fr (hf : ∀ o k_s, inH o k_s → f1_s o k_s = f_s o k_s) (h_s : tH nh ni nr f_s) : tH nh ni nr f1_s := by
  obtain ⟨u_s, r_s, a1_s, a2, a3, a4, a5, a6⟩ := h_s
  refine ⟨u_s, r_s, a1_s, ?_, ?_, ?_, ?_, fun k_s hk => chT_fr (fun o ho => hf o k_s (by unfold inH; omega)) (a6 k_s hk)⟩
  · rw [hf 42 0 (by unfold inH; omega)]
    exact a2
  · rw [hf 42 1 (by unfold inH; omega)]
    exact a3
  · rw [hf 102 5 (by unfold inH; omega)]
    exact a4
  · rw [hf 102 4 (by unfold inH; omega)]
    exact a5
theorem tI_fr (hf : ∀ o k_s, inI o k_s → f1_s o k_s = f_s o k_s) (h_s : tI nh ni nr f_s) (h8 : ni ≤ 8) : tI nh ni nr f1_s := by
  rcases h_s with ⟨a1_s, a2⟩ | ⟨ic, a1_s, a2, a3, a4, a5, a6⟩
  · refine Or.inl ⟨?_, ?_⟩
    · rw [hf 6 12 (by unfold inI; omega)]
      exact a1_s
    · rw [hf 102 35 (by unfold inI; omega)]
      exact a2
  · refine Or.inr ⟨ic, a1_s, ?_, ?_, ?_, fun i_s k_s hi_s hk h0 h4 => ?_, fun k_s h0 h4 => ?_⟩
    · rw [hf 6 12 (by unfold inI; omega)]
      exact a2
    · rw [hf 102 36 (by unfold inI; omega)]
      exact a3
    · rw [hf 102 35 (by unfold inI; omega)]
      exact a4
    · rw [hf (94 + i_s) k_s (by unfold inI; omega), hf 120 (12 + 8 * k_s + i_s) (by unfold inI; omega)]
      exact a5 i_s k_s hi_s hk h0 h4
    · rw [hf 75 k_s (by unfold inI; omega), hf 121 k_s (by unfold inI; omega)]
      exact a6 k_s h0 h4
theorem tD_fr (hf : ∀ o k_s, inD o k_s → f1_s o k_s = f_s o k_s) (h_s : tD f_s) : tD f1_s := fun k_s h0 h4 => by
  rw [hf 73 k_s (by unfold inD; omega), hf 119 k_s (by unfold inD; omega)]
  exact h_s k_s h0 h4
theorem tZ_fr (hf : ∀ o k_s, inZ o k_s → f1_s o k_s = f_s o k_s) (h_s : tZ f_s) : tZ f1_s := by
  obtain ⟨a1_s, a2, a3, a4⟩ := h_s
  refine ⟨fun k_s hk => ?_, ?_, ?_, ?_⟩
  · rw [hf 1 k_s (by unfold inZ; omega), hf 2 k_s (by unfold inZ; omega)]
    exact a1_s k_s hk
  · rw [hf 3 0 (by unfold inZ; omega)]
    exact a2
  · rw [hf 3 1 (by unfold inZ; omega)]
    exact a3
  · rw [hf 3 2 (by unfold inZ; omega)]
    exact a4
theorem lawC_w {q_s : Nat} {lw : Option (List pB)} (hm_s : q_s = 14 ∨ q_s = 17) (hf : ∀ o k_s, inW o k_s → f1_s o k_s = f_s o k_s) (hl : lawC q_s f_s lw) : lawC q_s f1_s lw := by
  match lw, hl with
  | none, hl => exact ⟨by rw [hf q_s 2 (by unfold inW; omega)]; exact hl.1, by rw [hf q_s 0 (by unfold inW; omega)]; exact hl.2⟩
  | some ls, hl =>
    obtain ⟨a1_s, a2, a3, a4, a5, a6⟩ := hl
    refine ⟨by rw [hf q_s 2 (by unfold inW; omega)]; exact a1_s, a2, fun j_s c_s hj => ?_, by rw [hf q_s 0 (by unfold inW; omega)]; exact a4, a5, a6⟩
    have hl := zget_lt hj
    rw [hf (q_s + 1) j_s (by unfold inW; omega)]
    exact a3 j_s c_s hj
theorem tLw_fr {h_s h1 : zH} (hr : ∀ k_s, h1.2.2.2 7 k_s = h_s.2.2.2 7 k_s) (hf : ∀ o k_s, inW o k_s → h1.2.1 o k_s = h_s.2.1 o k_s) (hl : tLw h_s) : tLw h1 := by
  obtain ⟨q_s, q2_s, lw, a1_s, a2, a3, a4, a5⟩ := hl
  exact ⟨q_s, q2_s, lw, by rw [hr]; exact a1_s, by rw [hr]; exact a2, a3, lawC_w (by omega) hf a4, lawR_fr (hf _ _ (by unfold inW; omega)) (fun k_s hk => hf _ _ (by unfold inW; omega)) a5⟩
theorem vB_mono {nh1 nr1 n_s w_s : Nat} {v_s : Int} (h1 : nh ≤ nh1) (h2 : nr ≤ nr1) (h3 : w_s = 9 → n_s < nr) (h_s : vB nh nr n_s w_s v_s) : vB nh1 nr1 n_s w_s v_s := by
  by_cases e_s : w_s = 8
  · subst e_s
    rw [vB_8] at h_s ⊢
    omega
  · rw [vB_n e_s] at h_s ⊢
    exact ⟨h_s.1, h_s.2.1, fun e9_s _ => h_s.2.2 e9_s (h3 e9_s)⟩
theorem okN_mono {nh1 ni1 nr1 n_s w_s : Nat} (h1 : nh ≤ nh1) (h2 : nr ≤ nr1) (h3 : ni ≤ ni1) (h_s : okN nh ni nr n_s w_s) : okN nh1 ni1 nr1 n_s w_s := by
  unfold okN at h_s ⊢
  by_cases a_s : w_s < 2
  · rw [if_pos a_s] at h_s ⊢
    omega
  · rw [if_neg a_s] at h_s ⊢
    by_cases b_s : w_s < 9
    · rw [if_pos b_s] at h_s ⊢
      omega
    · rw [if_neg b_s] at h_s ⊢
      omega
theorem tH_mono {nh1 ni1 nr1 : Nat} (h1 : nh ≤ nh1) (h2 : nr ≤ nr1) (h3 : ni ≤ ni1) (h_s : tH nh ni nr f_s) : tH nh1 ni1 nr1 f_s := by
  obtain ⟨u_s, r_s, a1_s, a2, a3, a4, a5, a6⟩ := h_s
  refine ⟨u_s, r_s, a1_s, a2, a3, a4, a5, fun k_s hk => ?_⟩
  obtain ⟨n_s, w_s, b1, b2, b3, b4, b5, b6, b7, b8, b9⟩ := a6 k_s hk
  have h9 : w_s = 9 → n_s < nr := fun e_s => by
    rw [e_s] at b2
    exact b2
  exact ⟨n_s, w_s, b1, okN_mono h1 h2 h3 b2, b3, b4, b5, b6, b7, vB_mono h1 h2 h9 b8, vB_mono h1 h2 h9 b9⟩
theorem tI_mono {nh1 ni1 nr1 : Nat} (h1 : nh ≤ nh1) (h2 : nr ≤ nr1) (h3 : ni ≤ ni1) (h_s : tI nh ni nr f_s) : tI nh1 ni1 nr1 f_s := by
  rcases h_s with h_s | ⟨ic, a1_s, a2, a3, a4, a5, a6⟩
  · exact Or.inl h_s
  · exact Or.inr ⟨ic, by omega, a2, a3, a4, fun i_s k_s hi_s hk h0 h4 => ⟨(a5 i_s k_s hi_s hk h0 h4).1, vB_mono h1 h2 (fun e_s => absurd e_s (by omega)) (a5 i_s k_s hi_s hk h0 h4).2⟩, a6⟩
end TXF
/-- all of the cells -/
def inX (o k_s : Nat) : Prop := inC o k_s ∨ inH o k_s ∨ inI o k_s ∨ inD o k_s ∨ inZ o k_s ∨ inW o k_s
theorem inX_no {o k_s : Nat} (h_s : inX o k_s) : (¬ o = 12 ∧ ¬ o = 13 ∧ ¬ o = 16 ∧ ¬ o = 19) ∧ ¬ (47 ≤ o ∧ o ≤ 72) ∧ ¬ (76 ≤ o ∧ o ≤ 93) ∧ ¬ o = 109 ∧ ¬ (111 ≤ o ∧ o ≤ 118) ∧ ¬ 122 ≤ o := by
  unfold inX inC inH inI inD inZ inW at h_s
  omega
theorem tX_fr {h_s h1 : zH} (hr : ∀ k_s, h1.2.2.2 7 k_s = h_s.2.2.2 7 k_s) (hf : ∀ o k_s, inX o k_s → h1.2.1 o k_s = h_s.2.1 o k_s) (hx : tX h_s) : tX h1 := by
  obtain ⟨nh, ni, nr, a1_s, a2, a3, a4, a5, a6⟩ := hx
  exact ⟨nh, ni, nr, tC_fr (fun o k_s q_s => hf o k_s (Or.inl q_s)) a1_s, tH_fr (fun o k_s q_s => hf o k_s (Or.inr (Or.inl q_s))) a2, tI_fr (fun o k_s q_s => hf o k_s (Or.inr (Or.inr (Or.inl q_s)))) a3 a1_s.1.2.1, tD_fr (fun o k_s q_s => hf o k_s (Or.inr (Or.inr (Or.inr (Or.inl q_s))))) a4, tZ_fr (fun o k_s q_s => hf o k_s (Or.inr (Or.inr (Or.inr (Or.inr (Or.inl q_s)))))) a5, tLw_fr hr (fun o k_s q_s => hf o k_s (Or.inr (Or.inr (Or.inr (Or.inr (Or.inr q_s)))))) a6⟩
/-- the cells as rows: (from, to, how many places from which on) -/
def xRows : List (Nat × Nat × Nat × Nat) := [(7, 7, 6, 9), (8, 9, 0, 6), (20, 27, 0, 7), (28, 39, 0, 5), (102, 102, 4, 9), (103, 103, 0, 104), (107, 108, 0, 12), (42, 42, 0, 2), (43, 46, 0, 40), (104, 106, 0, 40), (6, 6, 12, 13), (94, 101, 0, 7), (75, 75, 0, 5), (102, 102, 35, 37), (120, 120, 0, 104), (121, 121, 0, 5), (73, 73, 2, 5), (119, 119, 2, 5), (1, 2, 0, 12), (3, 3, 0, 3), (14, 14, 0, 3), (17, 17, 0, 3), (15, 15, 0, 242), (18, 18, 0, 242), (102, 102, 14, 15), (110, 110, 0, 120)]
/-- a write set that leaves them alone -/
def tXok (W_s : aW) : Bool := W_s.2.all (fun o => xRows.all (fun r_s => Nat.blt o r_s.1 || Nat.blt r_s.2.1 o)) && W_s.1.all (fun p_s => xRows.all (fun r_s => (Nat.blt p_s.1 r_s.1 || Nat.blt r_s.2.1 p_s.1) || (Nat.blt p_s.2 r_s.2.2.1 || Nat.ble r_s.2.2.2 p_s.2)))
theorem tXok_row {W_s : aW} (hw : tXok W_s = true) {r_s : Nat × Nat × Nat × Nat} (hr : r_s ∈ xRows) {o k_s : Nat} (h1 : r_s.1 ≤ o) (h2 : o ≤ r_s.2.1) (h3 : r_s.2.2.1 ≤ k_s) (h4 : k_s < r_s.2.2.2) : aWf W_s o k_s = false := by
  unfold tXok at hw
  rw [Bool.and_eq_true] at hw
  cases e_s : aWf W_s o k_s with
  | false => rfl
  | true =>
    exfalso
    unfold aWf at e_s
    rw [Bool.and_eq_true, Bool.or_eq_true] at e_s
    rcases e_s.2 with e_s | e_s
    · have u_s := List.all_eq_true.mp (List.all_eq_true.mp hw.1 o (awe_mem e_s)) r_s hr
      rw [Bool.or_eq_true, Nat.blt_eq, Nat.blt_eq] at u_s
      omega
    · have u_s := List.all_eq_true.mp (List.all_eq_true.mp hw.2 (o, k_s) (awp_mem e_s)) r_s hr
      rw [Bool.or_eq_true, Bool.or_eq_true, Bool.or_eq_true, Nat.blt_eq, Nat.blt_eq, Nat.blt_eq, Nat.ble_eq] at u_s
      dsimp only at u_s
      omega
theorem tXok_in {W_s : aW} (hw : tXok W_s = true) {o k_s : Nat} (h_s : inX o k_s) : aWf W_s o k_s = false := by
  have go_s : ∀ (a_s b_s c_s d_s : Nat), (a_s, b_s, c_s, d_s) ∈ xRows → a_s ≤ o → o ≤ b_s → c_s ≤ k_s → k_s < d_s → aWf W_s o k_s = false := fun _ _ _ _ hr h1 h2 h3 h4 => tXok_row hw hr h1 h2 h3 h4
  rcases h_s with h_s | h_s | h_s | h_s | h_s | h_s
  · rcases h_s with h_s | h_s | h_s | h_s | h_s | h_s | h_s
    · exact go_s 7 7 6 9 (by decide) (by omega) (by omega) (by omega) (by omega)
    · exact go_s 8 9 0 6 (by decide) (by omega) (by omega) (by omega) (by omega)
    · exact go_s 20 27 0 7 (by decide) (by omega) (by omega) (by omega) (by omega)
    · exact go_s 28 39 0 5 (by decide) (by omega) (by omega) (by omega) (by omega)
    · exact go_s 102 102 4 9 (by decide) (by omega) (by omega) (by omega) (by omega)
    · exact go_s 103 103 0 104 (by decide) (by omega) (by omega) (by omega) (by omega)
    · exact go_s 107 108 0 12 (by decide) (by omega) (by omega) (by omega) (by omega)
  · rcases h_s with h_s | h_s | h_s | h_s
    · exact go_s 42 42 0 2 (by decide) (by omega) (by omega) (by omega) (by omega)
    · exact go_s 43 46 0 40 (by decide) (by omega) (by omega) (by omega) (by omega)
    · exact go_s 102 102 4 9 (by decide) (by omega) (by omega) (by omega) (by omega)
    · exact go_s 104 106 0 40 (by decide) (by omega) (by omega) (by omega) (by omega)
  · rcases h_s with h_s | h_s | h_s | h_s | h_s | h_s
    · exact go_s 6 6 12 13 (by decide) (by omega) (by omega) (by omega) (by omega)
    · exact go_s 94 101 0 7 (by decide) (by omega) (by omega) (by omega) (by omega)
    · exact go_s 75 75 0 5 (by decide) (by omega) (by omega) (by omega) (by omega)
    · exact go_s 102 102 35 37 (by decide) (by omega) (by omega) (by omega) (by omega)
    · exact go_s 120 120 0 104 (by decide) (by omega) (by omega) (by omega) (by omega)
    · exact go_s 121 121 0 5 (by decide) (by omega) (by omega) (by omega) (by omega)
  · obtain ⟨h_s | h_s, h2, h4⟩ := h_s
    · exact go_s 73 73 2 5 (by decide) (by omega) (by omega) (by omega) (by omega)
    · exact go_s 119 119 2 5 (by decide) (by omega) (by omega) (by omega) (by omega)
  · rcases h_s with h_s | h_s | h_s
    · exact go_s 1 2 0 12 (by decide) (by omega) (by omega) (by omega) (by omega)
    · exact go_s 1 2 0 12 (by decide) (by omega) (by omega) (by omega) (by omega)
    · exact go_s 3 3 0 3 (by decide) (by omega) (by omega) (by omega) (by omega)
  · rcases h_s with ⟨h_s | h_s, h3⟩ | ⟨h_s | h_s, h3⟩ | h_s | h_s
    · exact go_s 14 14 0 3 (by decide) (by omega) (by omega) (by omega) (by omega)
    · exact go_s 17 17 0 3 (by decide) (by omega) (by omega) (by omega) (by omega)
    · exact go_s 15 15 0 242 (by decide) (by omega) (by omega) (by omega) (by omega)
    · exact go_s 18 18 0 242 (by decide) (by omega) (by omega) (by omega) (by omega)
    · exact go_s 102 102 14 15 (by decide) (by omega) (by omega) (by omega) (by omega)
    · exact go_s 110 110 0 120 (by decide) (by omega) (by omega) (by omega) (by omega)
/-- calls that leave all that alone -/
theorem tX_call {W_s : aW} (hw : tXok W_s = true) {h_s h1 : zH} (fr_s : aFr (aWf W_s) h_s h1) (hr : h1.2.2.2 = h_s.2.2.2) (hx : tX h_s) : tX h1 := tX_fr (fun k_s => by rw [hr]) (fun o k_s q_s => fr_s.1 o k_s (tXok_in hw q_s)) hx
theorem wRf {F_s mi : Nat} {x_s : zC} (hm_s : rfX mi = false) : wF F_s mi x_s (fun _ h1 => h1.2.2.2 = x_s.2.2.2.2.2.2) := fun f_s d_s r_s h1 _ hr => (rf_run f_s d_s mi x_s r_s h1 hm_s hr).1.2
theorem wrI_ {F_s mi : Nat} {x_s : zC} {K_s : Int32 → zH → Prop} (hm_s : rfX mi = false) (a_s : wF F_s mi x_s (gI K_s)) : wF F_s mi x_s (gI (fun v_s h_s => K_s v_s h_s ∧ h_s.2.2.2 = x_s.2.2.2.2.2.2)) := by
  intro f_s d_s r_s h1 hf hr
  obtain ⟨v_s, e1_s, k1_s, p1_s⟩ := a_s f_s d_s r_s h1 hf hr
  exact ⟨v_s, e1_s, k1_s, p1_s, (rf_run f_s d_s mi x_s r_s h1 hm_s hr).1.2⟩
theorem wrJ_ {F_s mi : Nat} {x_s : zC} {K_s : Int64 → zH → Prop} (hm_s : rfX mi = false) (a_s : wF F_s mi x_s (gJ K_s)) : wF F_s mi x_s (gJ (fun v_s h_s => K_s v_s h_s ∧ h_s.2.2.2 = x_s.2.2.2.2.2.2)) := by
  intro f_s d_s r_s h1 hf hr
  obtain ⟨v_s, e1_s, k1_s, p1_s⟩ := a_s f_s d_s r_s h1 hf hr
  exact ⟨v_s, e1_s, k1_s, p1_s, (rf_run f_s d_s mi x_s r_s h1 hm_s hr).1.2⟩
