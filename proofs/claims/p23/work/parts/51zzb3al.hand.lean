/-! THE STATE as class and reference have it: number n of what w (as of mend). -/
def cO (n_s w_s : Nat) : Nat := if w_s = 0 then 8 else if w_s = 1 then 9 else if w_s < 9 then 20 + n_s else 28 + n_s
def cF (n_s w_s : Nat) : Nat := if w_s < 2 then n_s else if w_s < 9 then w_s - 2 else w_s - 7
def plc (n_s w_s : Nat) : Nat := if w_s < 2 then 6 * w_s + n_s else if w_s < 9 then 12 + 8 * (w_s - 2) + n_s else 68 + 12 * (w_s - 9) + n_s
def cap (w_s : Nat) : Nat := if w_s < 2 then 6 else if w_s < 9 then 8 else 12
def mxw (w_s : Nat) : Int := if w_s = 0 then 5 else if w_s = 1 then 12 else if w_s = 2 then 3 else if w_s = 3 then 5 else if w_s = 4 then 99 else if w_s = 5 then 9 else if w_s = 6 then 1 else if w_s = 7 then 9 else if w_s = 9 then 9 else if w_s = 10 then 9 else 2
def vB (nh nr n_s w_s : Nat) (v_s : Int) : Prop := if w_s = 8 then -1 ≤ v_s ∧ v_s < (nh : Int) else 0 ≤ v_s ∧ v_s ≤ mxw w_s ∧ (w_s = 9 → n_s < nr → 1 ≤ v_s)
theorem cO_i {n_s w_s : Nat} (h1 : 2 ≤ w_s) (h2 : w_s < 9) : cO n_s w_s = 20 + n_s := by
  unfold cO
  rw [if_neg (by omega), if_neg (by omega), if_pos h2]
theorem cF_i {n_s w_s : Nat} (h1 : 2 ≤ w_s) (h2 : w_s < 9) : cF n_s w_s = w_s - 2 := by
  unfold cF
  rw [if_neg (by omega), if_pos h2]
theorem plc_i {n_s w_s : Nat} (h1 : 2 ≤ w_s) (h2 : w_s < 9) : plc n_s w_s = 12 + 8 * (w_s - 2) + n_s := by
  unfold plc
  rw [if_neg (by omega), if_pos h2]
theorem cap_i {w_s : Nat} (h1 : 2 ≤ w_s) (h2 : w_s < 9) : cap w_s = 8 := by
  unfold cap
  rw [if_neg (by omega), if_pos h2]
theorem cO_r {n_s w_s : Nat} (h1 : 9 ≤ w_s) : cO n_s w_s = 28 + n_s := by
  unfold cO
  rw [if_neg (by omega), if_neg (by omega), if_neg (by omega)]
theorem cF_r {n_s w_s : Nat} (h1 : 9 ≤ w_s) : cF n_s w_s = w_s - 7 := by
  unfold cF
  rw [if_neg (by omega), if_neg (by omega)]
theorem plc_r {n_s w_s : Nat} (h1 : 9 ≤ w_s) : plc n_s w_s = 68 + 12 * (w_s - 9) + n_s := by
  unfold plc
  rw [if_neg (by omega), if_neg (by omega)]
theorem cap_r {w_s : Nat} (h1 : 9 ≤ w_s) : cap w_s = 12 := by
  unfold cap
  rw [if_neg (by omega), if_neg (by omega)]
theorem plc_h {n_s w_s : Nat} (h1 : w_s < 2) : plc n_s w_s = 6 * w_s + n_s := by
  unfold plc
  rw [if_pos h1]
theorem cap_h {w_s : Nat} (h1 : w_s < 2) : cap w_s = 6 := by
  unfold cap
  rw [if_pos h1]
theorem cO_h {n_s w_s : Nat} (h1 : w_s < 2) : cO n_s w_s = 8 + w_s := by
  unfold cO
  by_cases e_s : w_s = 0
  · rw [if_pos e_s, e_s]
  · rw [if_neg e_s, if_pos (by omega)]
    omega
theorem cF_h {n_s w_s : Nat} (h1 : w_s < 2) : cF n_s w_s = n_s := by
  unfold cF
  rw [if_pos h1]
theorem vB_8 {nh nr n_s : Nat} {v_s : Int} : vB nh nr n_s 8 v_s = (-1 ≤ v_s ∧ v_s < (nh : Int)) := rfl
theorem vB_n {nh nr n_s w_s : Nat} {v_s : Int} (h_s : w_s ≠ 8) : vB nh nr n_s w_s v_s = (0 ≤ v_s ∧ v_s ≤ mxw w_s ∧ (w_s = 9 → n_s < nr → 1 ≤ v_s)) := by
  unfold vB
  rw [if_neg h_s]
def tC (nh ni nr : Nat) (f_s : Nat → Nat → Int32) : Prop := (nh ≤ 6 ∧ ni ≤ 8 ∧ nr ≤ 12) ∧ ((f_s 7 6).toInt = (nh : Int) ∧ (f_s 7 7).toInt = (ni : Int) ∧ (f_s 7 8).toInt = (nr : Int)) ∧ ((f_s 102 6).toInt = (nh : Int) ∧ (f_s 102 7).toInt = (ni : Int) ∧ (f_s 102 8).toInt = (nr : Int)) ∧ (∀ n_s w_s, w_s < 12 → n_s < cap w_s → (w_s = 8 → n_s < ni) → f_s (cO n_s w_s) (cF n_s w_s) = f_s 103 (plc n_s w_s) ∧ vB nh nr n_s w_s (f_s 103 (plc n_s w_s)).toInt) ∧ (∀ i_s, ni ≤ i_s → i_s < 8 → f_s (20 + i_s) 6 = -1) ∧ (∀ r_s, r_s < 12 → (f_s (28 + r_s) 0 = f_s 107 r_s ∧ f_s (28 + r_s) 1 = f_s 108 r_s) ∧ (0 ≤ (f_s 107 r_s).toInt ∧ (f_s 107 r_s).toInt ≤ 7) ∧ (0 ≤ (f_s 108 r_s).toInt ∧ (f_s 108 r_s).toInt ≤ 7) ∧ (r_s < nr → ¬ (f_s 107 r_s).toInt = (f_s 108 r_s).toInt))
def inC (o k_s : Nat) : Prop := (o = 7 ∧ 6 ≤ k_s ∧ k_s ≤ 8) ∨ ((o = 8 ∨ o = 9) ∧ k_s < 6) ∨ (20 ≤ o ∧ o < 28 ∧ k_s < 7) ∨ (28 ≤ o ∧ o < 40 ∧ k_s < 5) ∨ (o = 102 ∧ 6 ≤ k_s ∧ k_s ≤ 8) ∨ (o = 103 ∧ k_s < 104) ∨ ((o = 107 ∨ o = 108) ∧ k_s < 12)
theorem plc_lt {n_s w_s : Nat} (hw : w_s < 12) (hn : n_s < cap w_s) : plc n_s w_s < 104 := by
  by_cases a_s : w_s < 2
  · rw [cap_h a_s] at hn
    rw [plc_h a_s]
    omega
  · by_cases b_s : w_s < 9
    · rw [cap_i (by omega) b_s] at hn
      rw [plc_i (by omega) b_s]
      omega
    · rw [cap_r (by omega)] at hn
      rw [plc_r (by omega)]
      omega
theorem cell_in {n_s w_s : Nat} (hw : w_s < 12) (hn : n_s < cap w_s) : inC (cO n_s w_s) (cF n_s w_s) := by
  by_cases a_s : w_s < 2
  · rw [cap_h a_s] at hn
    rw [cO_h a_s, cF_h a_s]
    unfold inC
    omega
  · by_cases b_s : w_s < 9
    · rw [cap_i (by omega) b_s] at hn
      rw [cO_i (by omega) b_s, cF_i (by omega) b_s]
      unfold inC
      omega
    · rw [cap_r (by omega)] at hn
      rw [cO_r (by omega), cF_r (by omega)]
      unfold inC
      omega
theorem tC_fr {nh ni nr : Nat} {f_s f1_s : Nat → Nat → Int32} (hf : ∀ o k_s, inC o k_s → f1_s o k_s = f_s o k_s) (h_s : tC nh ni nr f_s) : tC nh ni nr f1_s := by
  obtain ⟨a0_s, ⟨a1_s, a2, a3⟩, ⟨a4, a5, a6⟩, a7, a8, a9⟩ := h_s
  have r7 : ∀ k_s, 6 ≤ k_s → k_s ≤ 8 → f1_s 7 k_s = f_s 7 k_s := fun k_s h1 h2 => hf 7 k_s (by unfold inC; omega)
  have r2 : ∀ k_s, 6 ≤ k_s → k_s ≤ 8 → f1_s 102 k_s = f_s 102 k_s := fun k_s h1 h2 => hf 102 k_s (by unfold inC; omega)
  have r3 : ∀ k_s, k_s < 104 → f1_s 103 k_s = f_s 103 k_s := fun k_s h1 => hf 103 k_s (by unfold inC; omega)
  refine ⟨a0_s, ⟨?_, ?_, ?_⟩, ⟨?_, ?_, ?_⟩, fun n_s w_s hw hn hi_s => ?_, fun i_s h1 h2 => ?_, fun r_s hr => ?_⟩
  · rw [r7 6 (by omega) (by omega)]
    exact a1_s
  · rw [r7 7 (by omega) (by omega)]
    exact a2
  · rw [r7 8 (by omega) (by omega)]
    exact a3
  · rw [r2 6 (by omega) (by omega)]
    exact a4
  · rw [r2 7 (by omega) (by omega)]
    exact a5
  · rw [r2 8 (by omega) (by omega)]
    exact a6
  · rw [hf _ _ (cell_in hw hn), r3 _ (plc_lt hw hn)]
    exact a7 n_s w_s hw hn hi_s
  · rw [hf _ _ (by unfold inC; omega)]
    exact a8 i_s h1 h2
  · rw [hf (28 + r_s) 0 (by unfold inC; omega), hf (28 + r_s) 1 (by unfold inC; omega), hf 107 r_s (by unfold inC; omega), hf 108 r_s (by unfold inC; omega)]
    exact a9 r_s hr
section TC
variable {nh ni nr : Nat} {f_s : Nat → Nat → Int32}
theorem tC_own {i_s k_s : Nat} (h_s : tC nh ni nr f_s) (hi_s : i_s < 8) (hk : k_s < 6) : f_s (20 + i_s) k_s = f_s 103 (12 + 8 * k_s + i_s) ∧ 0 ≤ (f_s 103 (12 + 8 * k_s + i_s)).toInt ∧ (f_s 103 (12 + 8 * k_s + i_s)).toInt ≤ mxw (k_s + 2) := by
  have u_s := h_s.2.2.2.1 i_s (k_s + 2) (by omega) (by rw [cap_i (by omega) (by omega)]; exact hi_s) (fun w_s => absurd w_s (by omega))
  rw [cO_i (by omega) (by omega), cF_i (by omega) (by omega), plc_i (by omega) (by omega), vB_n (by omega), Nat.add_sub_cancel] at u_s
  exact ⟨u_s.1, u_s.2.1, u_s.2.2.1⟩
theorem tC_hd {i_s : Nat} (h_s : tC nh ni nr f_s) (hi_s : i_s < ni) : f_s (20 + i_s) 6 = f_s 103 (60 + i_s) ∧ -1 ≤ (f_s 103 (60 + i_s)).toInt ∧ (f_s 103 (60 + i_s)).toInt < (nh : Int) := h_s.2.2.2.1 i_s 8 (by omega) (Nat.lt_of_lt_of_le hi_s h_s.1.2.1) (fun _ => hi_s)
theorem tC_form {p_s : Nat} (h_s : tC nh ni nr f_s) (hp : p_s < 6) : f_s 8 p_s = f_s 103 p_s ∧ 0 ≤ (f_s 103 p_s).toInt ∧ (f_s 103 p_s).toInt ≤ 5 := by
  have u_s := h_s.2.2.2.1 p_s 0 (by omega) hp (fun w_s => absurd w_s (by omega))
  rw [cO_h (by omega), cF_h (by omega), plc_h (by omega), vB_n (by omega), Nat.mul_zero, Nat.zero_add] at u_s
  exact ⟨u_s.1, u_s.2.1, u_s.2.2.1⟩
theorem tC_will {p_s : Nat} (h_s : tC nh ni nr f_s) (hp : p_s < 6) : f_s 9 p_s = f_s 103 (6 + p_s) ∧ 0 ≤ (f_s 103 (6 + p_s)).toInt ∧ (f_s 103 (6 + p_s)).toInt ≤ 12 := by
  have u_s := h_s.2.2.2.1 p_s 1 (by omega) hp (fun w_s => absurd w_s (by omega))
  rw [cO_h (by omega), cF_h (by omega), plc_h (by omega), vB_n (by omega), Nat.mul_one] at u_s
  exact ⟨u_s.1, u_s.2.1, u_s.2.2.1⟩
theorem tC_road {r_s j_s : Nat} (h_s : tC nh ni nr f_s) (hr : r_s < 12) (hj : j_s < 3) : f_s (28 + r_s) (2 + j_s) = f_s 103 (68 + 12 * j_s + r_s) ∧ 0 ≤ (f_s 103 (68 + 12 * j_s + r_s)).toInt ∧ (f_s 103 (68 + 12 * j_s + r_s)).toInt ≤ 9 ∧ (j_s = 0 → r_s < nr → 1 ≤ (f_s 103 (68 + 12 * j_s + r_s)).toInt) := by
  have u_s := h_s.2.2.2.1 r_s (9 + j_s) (by omega) (by rw [cap_r (by omega)]; exact hr) (fun w_s => absurd w_s (by omega))
  rw [cO_r (by omega), cF_r (by omega), plc_r (by omega), vB_n (by omega), Nat.add_sub_cancel_left, show 9 + j_s - 7 = 2 + j_s by omega] at u_s
  refine ⟨u_s.1, u_s.2.1, ?_, fun e_s => u_s.2.2.2 (by omega)⟩
  have m_s : mxw (9 + j_s) ≤ 9 := by
    have e_s : j_s = 0 ∨ j_s = 1 ∨ j_s = 2 := by omega
    rcases e_s with e_s | e_s | e_s <;> (subst e_s; decide)
  have u3 := u_s.2.2.1
  omega
/-- the reference's part of it -/
def tM (nh ni nr : Nat) (f_s : Nat → Nat → Int32) : Prop := (nh ≤ 6 ∧ ni ≤ 8 ∧ nr ≤ 12) ∧ ((f_s 102 6).toInt = (nh : Int) ∧ (f_s 102 7).toInt = (ni : Int) ∧ (f_s 102 8).toInt = (nr : Int)) ∧ (∀ n_s w_s, w_s < 12 → n_s < cap w_s → (w_s = 8 → n_s < ni) → vB nh nr n_s w_s (f_s 103 (plc n_s w_s)).toInt)
theorem tC_M (h_s : tC nh ni nr f_s) : tM nh ni nr f_s := ⟨h_s.1, h_s.2.2.1, fun n_s w_s h1 h2 h3 => (h_s.2.2.2.1 n_s w_s h1 h2 h3).2⟩
theorem tM_fr {f1_s : Nat → Nat → Int32} (h2 : ∀ k_s, 6 ≤ k_s → k_s ≤ 8 → f1_s 102 k_s = f_s 102 k_s) (h3 : ∀ k_s, k_s < 104 → f1_s 103 k_s = f_s 103 k_s) (h_s : tM nh ni nr f_s) : tM nh ni nr f1_s := by
  obtain ⟨a0_s, ⟨a1_s, a2, a3⟩, a4⟩ := h_s
  refine ⟨a0_s, ⟨?_, ?_, ?_⟩, fun n_s w_s hw hn h8 => ?_⟩
  · rw [h2 6 (by omega) (by omega)]
    exact a1_s
  · rw [h2 7 (by omega) (by omega)]
    exact a2
  · rw [h2 8 (by omega) (by omega)]
    exact a3
  · rw [h3 _ (plc_lt hw hn)]
    exact a4 n_s w_s hw hn h8
theorem tM_own {i_s k_s : Nat} (h_s : tM nh ni nr f_s) (hi_s : i_s < 8) (hk : k_s < 6) : 0 ≤ (f_s 103 (12 + 8 * k_s + i_s)).toInt ∧ (f_s 103 (12 + 8 * k_s + i_s)).toInt ≤ mxw (k_s + 2) := by
  have u_s := h_s.2.2 i_s (k_s + 2) (by omega) (by rw [cap_i (by omega) (by omega)]; exact hi_s) (fun w_s => absurd w_s (by omega))
  rw [plc_i (by omega) (by omega), vB_n (by omega), Nat.add_sub_cancel] at u_s
  exact ⟨u_s.1, u_s.2.1⟩
theorem tM_hd {i_s : Nat} (h_s : tM nh ni nr f_s) (hi_s : i_s < ni) : -1 ≤ (f_s 103 (60 + i_s)).toInt ∧ (f_s 103 (60 + i_s)).toInt < (nh : Int) := h_s.2.2 i_s 8 (by omega) (Nat.lt_of_lt_of_le hi_s h_s.1.2.1) (fun _ => hi_s)
theorem tM_form {p_s : Nat} (h_s : tM nh ni nr f_s) (hp : p_s < 6) : 0 ≤ (f_s 103 p_s).toInt ∧ (f_s 103 p_s).toInt ≤ 5 := by
  have u_s := h_s.2.2 p_s 0 (by omega) hp (fun w_s => absurd w_s (by omega))
  rw [plc_h (by omega), vB_n (by omega), Nat.mul_zero, Nat.zero_add] at u_s
  exact ⟨u_s.1, u_s.2.1⟩
theorem tM_road {r_s j_s : Nat} (h_s : tM nh ni nr f_s) (hr : r_s < 12) (hj : j_s < 3) : 0 ≤ (f_s 103 (68 + 12 * j_s + r_s)).toInt ∧ (f_s 103 (68 + 12 * j_s + r_s)).toInt ≤ 9 ∧ (j_s = 0 → r_s < nr → 1 ≤ (f_s 103 (68 + 12 * j_s + r_s)).toInt) := by
  have u_s := h_s.2.2 r_s (9 + j_s) (by omega) (by rw [cap_r (by omega)]; exact hr) (fun w_s => absurd w_s (by omega))
  rw [plc_r (by omega), vB_n (by omega), Nat.add_sub_cancel_left] at u_s
  refine ⟨u_s.1, ?_, fun e_s => u_s.2.2 (by omega)⟩
  have m_s : mxw (9 + j_s) ≤ 9 := by
    have e_s : j_s = 0 ∨ j_s = 1 ∨ j_s = 2 := by omega
    rcases e_s with e_s | e_s | e_s <;> (subst e_s; decide)
  have u3 := u_s.2.1
  omega
/-- bounds of an idea in thought -/
def oB (o : oI) : Prop := (0 ≤ (o 0).toInt ∧ (o 0).toInt ≤ 3) ∧ (0 ≤ (o 1).toInt ∧ (o 1).toInt ≤ 5) ∧ (0 ≤ (o 2).toInt ∧ (o 2).toInt ≤ 99) ∧ (0 ≤ (o 3).toInt ∧ (o 3).toInt ≤ 9) ∧ (0 ≤ (o 4).toInt ∧ (o 4).toInt ≤ 1) ∧ (0 ≤ (o 5).toInt ∧ (o 5).toInt ≤ 9) ∧ (o 6 = -1 ∨ 0 ≤ (o 6).toInt)
theorem owI_lo {i_s k_s : Nat} (hk : k_s < 6) : owI f_s i_s k_s = f_s 103 (12 + 8 * k_s + i_s) := by
  unfold owI
  rw [if_pos hk]
theorem tM_oB {i_s : Nat} (h_s : tM nh ni nr f_s) (hi_s : i_s < ni) : oB (owI f_s i_s) := by
  have h8 : i_s < 8 := Nat.lt_of_lt_of_le hi_s h_s.1.2.1
  refine ⟨?_, ?_, ?_, ?_, ?_, ?_, ?_⟩
  · rw [owI_lo (by omega)]
    exact tM_own (k_s := 0) h_s h8 (by omega)
  · rw [owI_lo (by omega)]
    exact tM_own (k_s := 1) h_s h8 (by omega)
  · rw [owI_lo (by omega)]
    exact tM_own (k_s := 2) h_s h8 (by omega)
  · rw [owI_lo (by omega)]
    exact tM_own (k_s := 3) h_s h8 (by omega)
  · rw [owI_lo (by omega)]
    exact tM_own (k_s := 4) h_s h8 (by omega)
  · rw [owI_lo (by omega)]
    exact tM_own (k_s := 5) h_s h8 (by omega)
  · obtain ⟨h1, h2⟩ := tM_hd h_s hi_s
    unfold owI
    rw [if_neg (by omega)]
    by_cases c_s : (f_s 103 (60 + i_s)).toInt < 0
    · rw [if_pos c_s]
      exact Or.inl rfl
    · rw [if_neg c_s]
      have z_s := azix (i := f_s 103 (60 + i_s)) (by omega)
      have h6 := h_s.1.1
      exact Or.inr (tM_form h_s (p_s := zix (f_s 103 (60 + i_s))) (by omega)).1
theorem tC_oB {i_s : Nat} (h_s : tC nh ni nr f_s) (hi_s : i_s < ni) : oB (owI f_s i_s) := tM_oB (tC_M h_s) hi_s
theorem tC_cw {i_s : Nat} (h_s : tC nh ni nr f_s) (hi_s : i_s < ni) : cwO f_s (20 + i_s) (owI f_s i_s) := by
  have h8 : i_s < 8 := Nat.lt_of_lt_of_le hi_s h_s.1.2.1
  refine ⟨fun k_s hk => ?_, ?_⟩
  · rw [owI_lo hk]
    exact (tC_own h_s h8 hk).1
  · obtain ⟨h0, h1, h2⟩ := tC_hd h_s hi_s
    rw [h0, h_s.2.1.1]
    have e_s : owI f_s i_s 6 = (if (f_s 103 (60 + i_s)).toInt < 0 then -1 else f_s 103 (zix (f_s 103 (60 + i_s)))) := by
      unfold owI
      rw [if_neg (by omega)]
    by_cases c_s : (f_s 103 (60 + i_s)).toInt < 0
    · rw [if_pos c_s] at e_s
      exact Or.inl ⟨c_s, e_s⟩
    · rw [if_neg c_s] at e_s
      have z_s := azix (i := f_s 103 (60 + i_s)) (by omega)
      have h6 := h_s.1.1
      have u_s := tC_form h_s (p_s := zix (f_s 103 (60 + i_s))) (by omega)
      exact Or.inr ⟨by omega, h2, by rw [e_s]; exact u_s.2.1, by rw [e_s]; exact u_s.1.symm⟩
end TC
/-- THE LAW, as class and reference have it -/
def tLw (h_s : zH) : Prop := ∃ (q_s q2_s : Nat) (lw : Option (List pB)), h_s.2.2.2 7 9 = some q_s ∧ h_s.2.2.2 7 10 = some q2_s ∧ ((q_s = 14 ∧ q2_s = 17) ∨ (q_s = 17 ∧ q2_s = 14)) ∧ lawC q_s h_s.2.1 lw ∧ lawR h_s.2.1 lw
def inL (o k_s : Nat) : Prop := ((o = 14 ∨ o = 17) ∧ k_s ≤ 2) ∨ o = 15 ∨ o = 18 ∨ (o = 102 ∧ k_s = 14) ∨ (o = 110 ∧ k_s < 120)
theorem lawR_fr {f_s f1_s : Nat → Nat → Int32} {lw : Option (List pB)} (h14 : f1_s 102 14 = f_s 102 14) (h110 : ∀ k_s, k_s < 120 → f1_s 110 k_s = f_s 110 k_s) (hl : lawR f_s lw) : lawR f1_s lw := by
  match lw, hl with
  | none, hl =>
    show (f1_s 102 14).toInt = -1
    rw [h14]
    exact hl
  | some ls, hl =>
    obtain ⟨m_s, k_s, a1_s, a2, a3, a4⟩ := hl
    refine ⟨m_s, k_s, by rw [h14]; exact a1_s, a2, fun a_s ha_s => by rw [h110 a_s (by omega)]; exact a3 a_s ha_s, ?_⟩
    have e_s : (fun a_s : Nat => if (a_s : Int) < (m_s : Int) then (f1_s 110 a_s).toInt else -1) = fun a_s : Nat => if (a_s : Int) < (m_s : Int) then (f_s 110 a_s).toInt else -1 := by
      funext a_s
      by_cases c_s : (a_s : Int) < (m_s : Int)
      · rw [if_pos c_s, if_pos c_s, h110 a_s (by omega)]
      · rw [if_neg c_s, if_neg c_s]
    rw [e_s]
    exact a4
theorem sb1 {c_s : Int32} {n_s : Nat} (hc_s : c_s.toInt = (n_s : Int)) : (c_s - 1).toInt = (n_s : Int) - 1 := by
  have r_s := na_rng c_s
  rw [na_sub (by rw [n1_]; omega) (by rw [n1_]; omega), n1_, hc_s]
section PW_s
variable {F_s : Nat} {h_s : zH} {K_s : Int32 → zH → Prop} {nh ni nr : Nat} {lw : Option (List pB)} {x1_s x2_s : Int32} {f_s : Nat → Nat → Int32}
/-- what the reference's going may write: its own row, names, scratch -/
def frG (f_s f1_s : Nat → Nat → Int32) : Prop := ∀ a_s k_s, ¬ a_s = 111 → ¬ a_s = 112 → ¬ (a_s = 102 ∧ (15 ≤ k_s ∧ k_s ≤ 19 ∨ k_s = 22 ∨ k_s = 23)) → f1_s a_s k_s = f_s a_s k_s
theorem sp_181 (hk : hKn h_s) (hl : lawR f_s lw) (hp : lwP lw) (hc_s : tM nh ni nr f_s) (t1_s : ¬ (0 ≤ x1_s.toInt ∧ x1_s.toInt < (ni : Int) ∧ 0 ≤ x2_s.toInt ∧ x2_s.toInt < (nr : Int)) → K_s (-1) (h_s.1, f_s, h_s.2.2.1, h_s.2.2.2)) (t2_s : ∀ i_s r_s : Nat, x1_s.toInt = (i_s : Int) → x2_s.toInt = (r_s : Int) → i_s < ni → r_s < nr → ∀ f1_s, frG f_s f1_s → K_s (weV lw (owI f_s i_s) (f_s 103 (80 + r_s)) (f_s 103 (92 + r_s))) (h_s.1, f1_s, h_s.2.2.1, h_s.2.2.2)) : wF F_s 181 (0, [some (.ref 102), some (.int x1_s), some (.int x2_s)], [], (h_s.1, f_s, h_s.2.2.1, h_s.2.2.2)) (gI K_s) := by
  have e7_s := sb1 hc_s.2.1.2.1
  have e8 := sb1 hc_s.2.1.2.2
  have b_s := hc_s.1
  refine wF_le (Nat.le_succ F_s) (sg_181_0 (h_s := (h_s.1, f_s, h_s.2.2.1, h_s.2.2.2)) hk ?_)
  dsimp only
  rw [e7_s, e8]
  refine ⟨fun c_s => t1_s (by omega), fun c1_s => ⟨fun c_s => t1_s (by omega), fun c2_s => ⟨fun c_s => t1_s (by omega), fun c3_s => ⟨fun c_s => t1_s (by omega), fun c4_s => ?_⟩⟩⟩⟩
  have hi_s : x1_s.toInt.toNat < ni := by omega
  have hr : x2_s.toInt.toNat < nr := by omega
  have h1 : x1_s.toInt = (x1_s.toInt.toNat : Int) := by omega
  have h2 : x2_s.toInt = (x2_s.toInt.toNat : Int) := by omega
  generalize x1_s.toInt.toNat = i_s at hi_s h1
  generalize x2_s.toInt.toNat = r_s at hr h2
  refine sp_178 hk h1 (by omega) (tM_hd hc_s hi_s).1 (fun f1_s g1 g2 hk1 => ?_)
  have hB_s := tM_oB hc_s hi_s
  have l1 : lawR f1_s lw := lawR_fr (g2 _ _ (by omega)) (fun k_s _ => g2 _ _ (by omega)) hl
  refine sp_180 (h_s := (h_s.1, f1_s, h_s.2.2.1, h_s.2.2.2)) (o := owI f_s i_s) hk1 l1 hp h2 (by omega) g1 hB_s.2.2.2.2.2.2 (fun f2_s hf2 _ => ?_)
  rw [g2 _ _ (by omega), g2 _ _ (by omega)]
  exact t2_s i_s r_s h1 h2 hi_s hr f2_s (fun a_s k_s q1_s q2_s q3_s => by rw [hf2 a_s k_s q1_s (by omega)]; exact g2 a_s k_s q2_s)
theorem sp_102 {q_s : Nat} (hk : hKn h_s) (hr9 : h_s.2.2.2 7 9 = some q_s) (hm_s : q_s = 14 ∨ q_s = 17) (hl : lawC q_s f_s lw) (hp : lwP lw) (hc_s : tC nh ni nr f_s) (t1_s : ¬ (0 ≤ x1_s.toInt ∧ x1_s.toInt < (ni : Int) ∧ 0 ≤ x2_s.toInt ∧ x2_s.toInt < (nr : Int)) → K_s (-1) (h_s.1, f_s, h_s.2.2.1, h_s.2.2.2)) (t2_s : ∀ i_s r_s : Nat, x1_s.toInt = (i_s : Int) → x2_s.toInt = (r_s : Int) → i_s < ni → r_s < nr → ∀ f1_s, frW f_s f1_s → K_s (weV lw (owI f_s i_s) (f_s 103 (80 + r_s)) (f_s 103 (92 + r_s))) (h_s.1, f1_s, h_s.2.2.1, h_s.2.2.2)) : wF F_s 102 (0, [some (.ref 6), some (.int x1_s), some (.int x2_s)], [], (h_s.1, f_s, h_s.2.2.1, h_s.2.2.2)) (gI K_s) := by
  have e7_s := hc_s.2.1.2.1
  have e8 := hc_s.2.1.2.2
  have b_s := hc_s.1
  refine wF_le (Nat.le_succ F_s) (sg_102_0 (h_s := (h_s.1, f_s, h_s.2.2.1, h_s.2.2.2)) hk ?_)
  dsimp only
  rw [e7_s, e8]
  refine ⟨fun c_s => t1_s (by omega), fun c1_s => ⟨fun c2_s => ⟨fun c_s => t1_s (by omega), fun c3_s => ⟨fun c4_s => fun _ _ => ?_, fun c_s => t1_s (by omega)⟩⟩, fun c_s => t1_s (by omega)⟩⟩
  have z1 := azix (i := x1_s) (by omega)
  have z2 := azix (i := x2_s) (by omega)
  have hi_s : zix x1_s < ni := by omega
  have hr : zix x2_s < nr := by omega
  refine sp_23 (o := owI f_s (zix x1_s)) hk hr9 hm_s hl hp (by omega) (by omega) (tC_cw hc_s hi_s) (fun f1_s hf1 _ => ?_)
  have u1_s := (tC_road (r_s := zix x2_s) (j_s := 1) hc_s (by omega) (by omega)).1
  have u2_s := (tC_road (r_s := zix x2_s) (j_s := 2) hc_s (by omega) (by omega)).1
  have u1_s : f_s (28 + zix x2_s) 3 = f_s 103 (80 + zix x2_s) := u1_s
  have u2_s : f_s (28 + zix x2_s) 4 = f_s 103 (92 + zix x2_s) := u2_s
  rw [u1_s, u2_s]
  exact t2_s (zix x1_s) (zix x2_s) z1.symm z2.symm hi_s hr f1_s hf1
end PW_s
