/-! ALL ASK: class and reference. -/
def iab (z_s : Int) : Int := if z_s < 0 then -z_s else z_s
def kyI (f_s : Nat → Nat → Int32) (p_s i_s : Nat) : Int := (iab ((f_s 103 (20 + i_s)).toInt - (f_s 103 p_s).toInt) * 100 + (f_s 103 (28 + i_s)).toInt) * 8 + (i_s : Int)
def hkI (f_s : Nat → Nat → Int32) (p_s : Nat) : Int := (12 - (f_s 103 (6 + p_s)).toInt) * 6 + (p_s : Int)
theorem tM_will {nh ni nr p_s : Nat} {f_s : Nat → Nat → Int32} (h_s : tM nh ni nr f_s) (hp : p_s < 6) : 0 ≤ (f_s 103 (6 + p_s)).toInt ∧ (f_s 103 (6 + p_s)).toInt ≤ 12 := by
  have u_s := h_s.2.2 p_s 1 (by omega) hp (fun w_s => absurd w_s (by omega))
  rw [plc_h (by omega), vB_n (by omega), Nat.mul_one] at u_s
  exact ⟨u_s.1, u_s.2.1⟩
theorem hk_inj {nh ni nr : Nat} {f_s : Nat → Nat → Int32} (h_s : tM nh ni nr f_s) : ∀ p_s q_s, p_s < nh → q_s < nh → hkI f_s p_s = hkI f_s q_s → p_s = q_s := by
  intro p_s q_s hp hq e_s
  have b_s := h_s.1.1
  unfold hkI at e_s
  omega
theorem hk_0 {nh ni nr : Nat} {f_s : Nat → Nat → Int32} (h_s : tM nh ni nr f_s) : ∀ p_s, p_s < nh → 0 ≤ hkI f_s p_s := by
  intro p_s hp
  have b_s := h_s.1.1
  have w_s := tM_will h_s (p_s := p_s) (by omega)
  unfold hkI
  omega
section AA
variable {F_s : Nat} {h_s : zH} {K_s : Int32 → zH → Prop} {V : zH → Prop} {nh ni nr p_s i_s o : Nat} {x1_s x2_s x3 : Int32} {f_s : Nat → Nat → Int32}
theorem iab_c {x_s y_s : Int32} (h0 : 0 ≤ x_s.toInt ∧ x_s.toInt ≤ 5) (h1 : 0 ≤ y_s.toInt ∧ y_s.toInt ≤ 5) : (x_s - y_s).toInt = x_s.toInt - y_s.toInt ∧ (-(x_s - y_s)).toInt = -(x_s.toInt - y_s.toInt) ∧ (if x_s - y_s < 0 then -(x_s - y_s) else x_s - y_s).toInt = iab (x_s.toInt - y_s.toInt) := by
  have e_s := sub_i h0.1 h1.1
  have e2_s : (-(x_s - y_s)).toInt = -(x_s.toInt - y_s.toInt) := by rw [na_neg (by omega), e_s]
  refine ⟨e_s, e2_s, ?_⟩
  unfold iab
  by_cases c_s : x_s - y_s < 0
  · have c1_s := (iq2 _).mp c_s
    rw [if_pos c_s, if_pos (by omega), e2_s]
  · have c1_s : ¬ (x_s - y_s).toInt < 0 := fun w_s => c_s ((iq2 _).mpr w_s)
    rw [if_neg c_s, if_neg (by omega), e_s]
/-- headRather -/
theorem sp_195 (hk : hKn h_s) (hc_s : tM nh ni nr f_s) (e1_s : x1_s.toInt = (p_s : Int)) (e2_s : x2_s.toInt = (i_s : Int)) (e3_s : x3.toInt = (o : Int)) (hp : p_s < nh) (hi_s : i_s < ni) (ho : o < ni) (t1_s : kyI f_s p_s i_s < kyI f_s p_s o → K_s 1 (h_s.1, f_s, h_s.2.2.1, h_s.2.2.2)) (t0_s : ¬ kyI f_s p_s i_s < kyI f_s p_s o → K_s 0 (h_s.1, f_s, h_s.2.2.1, h_s.2.2.2)) : wF F_s 195 (0, [some (.ref 102), some (.int x1_s), some (.int x2_s), some (.int x3), none, none], [], (h_s.1, f_s, h_s.2.2.1, h_s.2.2.2)) (gI K_s) := by
  have b_s := hc_s.1
  have z1 : zix x1_s = p_s := by
    have := azix (i := x1_s) (by omega)
    omega
  have z2 : zix (20 + x2_s) = 20 + i_s := zxa (c_s := 20) (a_s := 20) rfl e2_s (by omega)
  have z3 : zix (20 + x3) = 20 + o := zxa (c_s := 20) (a_s := 20) rfl e3_s (by omega)
  have y2 : zix (28 + x2_s) = 28 + i_s := zxa (c_s := 28) (a_s := 28) rfl e2_s (by omega)
  have y3 : zix (28 + x3) = 28 + o := zxa (c_s := 28) (a_s := 28) rfl e3_s (by omega)
  have bp := tM_form hc_s (p_s := p_s) (by omega)
  have bi := tM_own (i_s := i_s) (k_s := 1) hc_s (by omega) (by omega)
  have bo := tM_own (i_s := o) (k_s := 1) hc_s (by omega) (by omega)
  have bi : 0 ≤ (f_s 103 (20 + i_s)).toInt ∧ (f_s 103 (20 + i_s)).toInt ≤ 5 := bi
  have bo : 0 ≤ (f_s 103 (20 + o)).toInt ∧ (f_s 103 (20 + o)).toInt ≤ 5 := bo
  have wi : 0 ≤ (f_s 103 (28 + i_s)).toInt ∧ (f_s 103 (28 + i_s)).toInt ≤ 99 := tM_own (i_s := i_s) (k_s := 2) hc_s (by omega) (by omega)
  have wo : 0 ≤ (f_s 103 (28 + o)).toInt ∧ (f_s 103 (28 + o)).toInt ≤ 99 := tM_own (i_s := o) (k_s := 2) hc_s (by omega) (by omega)
  obtain ⟨q1_s, q2_s, _⟩ := iab_c bi bp
  obtain ⟨r1_s, r2, _⟩ := iab_c bo bp
  have d1_s : ((f_s 103 (20 + i_s)).toInt - (f_s 103 p_s).toInt < 0 → iab ((f_s 103 (20 + i_s)).toInt - (f_s 103 p_s).toInt) = -((f_s 103 (20 + i_s)).toInt - (f_s 103 p_s).toInt)) ∧ (¬ (f_s 103 (20 + i_s)).toInt - (f_s 103 p_s).toInt < 0 → iab ((f_s 103 (20 + i_s)).toInt - (f_s 103 p_s).toInt) = (f_s 103 (20 + i_s)).toInt - (f_s 103 p_s).toInt) := ⟨fun c_s => if_pos c_s, fun c_s => if_neg c_s⟩
  have d2_s : ((f_s 103 (20 + o)).toInt - (f_s 103 p_s).toInt < 0 → iab ((f_s 103 (20 + o)).toInt - (f_s 103 p_s).toInt) = -((f_s 103 (20 + o)).toInt - (f_s 103 p_s).toInt)) ∧ (¬ (f_s 103 (20 + o)).toInt - (f_s 103 p_s).toInt < 0 → iab ((f_s 103 (20 + o)).toInt - (f_s 103 p_s).toInt) = (f_s 103 (20 + o)).toInt - (f_s 103 p_s).toInt) := ⟨fun c_s => if_pos c_s, fun c_s => if_neg c_s⟩
  unfold kyI at t0_s t1_s
  refine wF_le (Nat.le_succ F_s) (sg_195_0 (h_s := (h_s.1, f_s, h_s.2.2.1, h_s.2.2.2)) hk ?_)
  dsimp only
  simp only [z1, z2, z3, y2, y3, q1_s, q2_s, r1_s, r2]
  generalize iab ((f_s 103 (20 + i_s)).toInt - (f_s 103 p_s).toInt) = D1 at d1_s t0_s t1_s
  generalize iab ((f_s 103 (20 + o)).toInt - (f_s 103 p_s).toInt) = D2 at d2_s t0_s t1_s
  refine fun c1_s => fun c2_s => ⟨fun c3_s => fun c4_s => ⟨fun c6_s => ⟨fun c7_s => fun c8_s => fun c9_s => ⟨fun c10_s => ⟨fun c11_s => ?_, fun c11_s => ?_⟩, fun c10_s => ⟨fun c14_s => ?_, fun c14_s => ?_⟩⟩, fun c7_s => ⟨fun c15_s => ?_, fun c15_s => ?_⟩⟩, fun c6_s => ⟨fun c16 => fun c17 => fun c18_s => ⟨fun c19_s => ⟨fun c20_s => ?_, fun c20_s => ?_⟩, fun c19_s => ⟨fun c23_s => ?_, fun c23_s => ?_⟩⟩, fun c16 => ⟨fun c24_s => ?_, fun c24_s => ?_⟩⟩⟩, fun c3_s => fun c25_s => ⟨fun c27_s => ⟨fun c28_s => fun c29_s => fun c30_s => ⟨fun c31_s => ⟨fun c32_s => ?_, fun c32_s => ?_⟩, fun c31_s => ⟨fun c35_s => ?_, fun c35_s => ?_⟩⟩, fun c28_s => ⟨fun c36_s => ?_, fun c36_s => ?_⟩⟩, fun c27_s => ⟨fun c37 => fun c38 => fun c39_s => ⟨fun c40_s => ⟨fun c41 => ?_, fun c41 => ?_⟩, fun c40_s => ⟨fun c44_s => ?_, fun c44_s => ?_⟩⟩, fun c37 => ⟨fun c45 => ?_, fun c45 => ?_⟩⟩⟩⟩
  all_goals first | exact t1_s (by omega) | exact t0_s (by omega)
/-- isRatherIdea -/
theorem sp_29 (hk : hKn h_s) (hc_s : tC nh ni nr f_s) (e1_s : x1_s.toInt = (p_s : Int)) (e2_s : x2_s.toInt = (i_s : Int)) (hp : p_s < nh) (hi_s : i_s < ni) (e3_s : x3.toInt < 0 ∨ ∃ o, x3.toInt = ((o : Nat) : Int) ∧ o < ni) (t1_s : (∀ o : Nat, x3.toInt = (o : Int) → o < ni → kyI f_s p_s i_s < kyI f_s p_s o) → K_s 1 (h_s.1, f_s, h_s.2.2.1, h_s.2.2.2)) (t0_s : ∀ o : Nat, x3.toInt = (o : Int) → o < ni → ¬ kyI f_s p_s i_s < kyI f_s p_s o → K_s 0 (h_s.1, f_s, h_s.2.2.1, h_s.2.2.2)) : wF F_s 29 (0, [some (.ref 7), some (.int x1_s), some (.int x2_s), some (.int x3), none, none], [], (h_s.1, f_s, h_s.2.2.1, h_s.2.2.2)) (gI K_s) := by
  have b_s := hc_s.1
  have c7_s := hc_s.2.1.2.1
  refine wF_le (Nat.le_succ F_s) (sg_29_0 (h_s := (h_s.1, f_s, h_s.2.2.1, h_s.2.2.2)) hk ?_)
  dsimp only
  rcases e3_s with e3_s | ⟨o, e3_s, ho⟩
  · exact ⟨fun _ => t1_s (fun o w_s _ => by omega), fun c_s => absurd e3_s c_s⟩
  · have z1 : zix x1_s = p_s := by
      have := azix (i := x1_s) (by omega)
      omega
    have z2 : zix x2_s = i_s := by
      have := azix (i := x2_s) (by omega)
      omega
    have z3 : zix x3 = o := by
      have := azix (i := x3) (by omega)
      omega
    have t1_s : kyI f_s p_s i_s < kyI f_s p_s o → K_s 1 (h_s.1, f_s, h_s.2.2.1, h_s.2.2.2) := fun w_s => t1_s (fun o1 w1_s w2_s => by
      have eo : o1 = o := by omega
      rw [eo]
      exact w_s)
    have t0_s := t0_s o e3_s ho
    have s1_s : f_s 8 p_s = f_s 103 p_s := (tC_form hc_s (by omega)).1
    have s2_s : f_s (20 + i_s) 1 = f_s 103 (20 + i_s) := (tC_own (i_s := i_s) (k_s := 1) hc_s (by omega) (by omega)).1
    have s3_s : f_s (20 + o) 1 = f_s 103 (20 + o) := (tC_own (i_s := o) (k_s := 1) hc_s (by omega) (by omega)).1
    have s4_s : f_s (20 + i_s) 2 = f_s 103 (28 + i_s) := (tC_own (i_s := i_s) (k_s := 2) hc_s (by omega) (by omega)).1
    have s5 : f_s (20 + o) 2 = f_s 103 (28 + o) := (tC_own (i_s := o) (k_s := 2) hc_s (by omega) (by omega)).1
    have bp := tM_form (tC_M hc_s) (p_s := p_s) (by omega)
    have bi : 0 ≤ (f_s 103 (20 + i_s)).toInt ∧ (f_s 103 (20 + i_s)).toInt ≤ 5 := tM_own (i_s := i_s) (k_s := 1) (tC_M hc_s) (by omega) (by omega)
    have bo : 0 ≤ (f_s 103 (20 + o)).toInt ∧ (f_s 103 (20 + o)).toInt ≤ 5 := tM_own (i_s := o) (k_s := 1) (tC_M hc_s) (by omega) (by omega)
    have wi : 0 ≤ (f_s 103 (28 + i_s)).toInt ∧ (f_s 103 (28 + i_s)).toInt ≤ 99 := tM_own (i_s := i_s) (k_s := 2) (tC_M hc_s) (by omega) (by omega)
    have wo : 0 ≤ (f_s 103 (28 + o)).toInt ∧ (f_s 103 (28 + o)).toInt ≤ 99 := tM_own (i_s := o) (k_s := 2) (tC_M hc_s) (by omega) (by omega)
    obtain ⟨_, _, q3_s⟩ := iab_c bi bp
    obtain ⟨_, _, r3⟩ := iab_c bo bp
    unfold kyI at t0_s t1_s
    simp only [z1, z2, z3, s1_s, s2_s, s3_s, s4_s, s5, q3_s, r3, c7_s]
    generalize iab ((f_s 103 (20 + i_s)).toInt - (f_s 103 p_s).toInt) = D1 at t0_s t1_s
    generalize iab ((f_s 103 (20 + o)).toInt - (f_s 103 p_s).toInt) = D2 at t0_s t1_s
    refine ⟨fun c1_s => ?_, fun c1_s => ⟨fun c2_s => fun c3_s => fun c4_s => fun c5_s => ⟨fun c7_s => ⟨fun c10_s => ⟨fun c11_s => ?_, fun c11_s => ?_⟩, fun c10_s => ⟨fun c14_s => ?_, fun c14_s => ?_⟩⟩, fun c7_s => ⟨fun c15_s => ?_, fun c15_s => ?_⟩⟩, fun c2_s => ?_⟩⟩
    all_goals first | exact t1_s (by omega) | exact t0_s (by omega) | (exfalso; omega)
/-- isRatherHead -/
theorem sp_28 {q_s : Nat} (hk : hKn h_s) (hc_s : tC nh ni nr f_s) (e1_s : x1_s.toInt = (p_s : Int)) (hp : p_s < nh) (e2_s : x2_s.toInt < 0 ∨ ∃ q_s, x2_s.toInt = ((q_s : Nat) : Int) ∧ q_s < nh) (t1_s : (∀ q_s : Nat, x2_s.toInt = (q_s : Int) → q_s < nh → hkI f_s p_s < hkI f_s q_s) → K_s 1 (h_s.1, f_s, h_s.2.2.1, h_s.2.2.2)) (t0_s : ∀ q_s : Nat, x2_s.toInt = (q_s : Int) → q_s < nh → ¬ hkI f_s p_s < hkI f_s q_s → K_s 0 (h_s.1, f_s, h_s.2.2.1, h_s.2.2.2)) : wF F_s 28 (0, [some (.ref 7), some (.int x1_s), some (.int x2_s)], [], (h_s.1, f_s, h_s.2.2.1, h_s.2.2.2)) (gI K_s) := by
  have b_s := hc_s.1
  have c6_s := hc_s.2.1.1
  refine wF_le (Nat.le_succ F_s) (sg_28_0 (h_s := (h_s.1, f_s, h_s.2.2.1, h_s.2.2.2)) hk ?_)
  dsimp only
  rcases e2_s with e2_s | ⟨q_s, e2_s, hq⟩
  · exact ⟨fun _ => t1_s (fun q_s w_s _ => by omega), fun c_s => absurd e2_s c_s⟩
  · have z1 : zix x1_s = p_s := by
      have := azix (i := x1_s) (by omega)
      omega
    have z2 : zix x2_s = q_s := by
      have := azix (i := x2_s) (by omega)
      omega
    have t1_s : hkI f_s p_s < hkI f_s q_s → K_s 1 (h_s.1, f_s, h_s.2.2.1, h_s.2.2.2) := fun w_s => t1_s (fun o1 w1_s w2_s => by
      have eo : o1 = q_s := by omega
      rw [eo]
      exact w_s)
    have t0_s := t0_s q_s e2_s hq
    have s1_s : f_s 9 p_s = f_s 103 (6 + p_s) := (tC_will hc_s (by omega)).1
    have s2_s : f_s 9 q_s = f_s 103 (6 + q_s) := (tC_will hc_s (by omega)).1
    have bp := tM_will (tC_M hc_s) (p_s := p_s) (by omega)
    have bq := tM_will (tC_M hc_s) (p_s := q_s) (by omega)
    unfold hkI at t0_s t1_s
    simp only [z1, z2, s1_s, s2_s, c6_s]
    refine ⟨fun c1_s => ?_, fun c1_s => ⟨fun c2_s => fun c3_s => fun c4_s => ⟨fun c5_s => ⟨fun c6_s => ?_, fun c6_s => ?_⟩, fun c5_s => ⟨fun c9_s => ?_, fun c9_s => ?_⟩⟩, fun c2_s => ?_⟩⟩
    all_goals first | exact t1_s (by omega) | exact t0_s (by omega) | (exfalso; omega)
/-- ideaRather -/
theorem sp_196 {q_s : Nat} (hk : hKn h_s) (hc_s : tM nh ni nr f_s) (e1_s : x1_s.toInt = (p_s : Int)) (e2_s : x2_s.toInt = (q_s : Int)) (hp : p_s < nh) (hq : q_s < nh) (t1_s : hkI f_s p_s < hkI f_s q_s → K_s 1 (h_s.1, f_s, h_s.2.2.1, h_s.2.2.2)) (t0_s : ¬ hkI f_s p_s < hkI f_s q_s → K_s 0 (h_s.1, f_s, h_s.2.2.1, h_s.2.2.2)) : wF F_s 196 (0, [some (.ref 102), some (.int x1_s), some (.int x2_s)], [], (h_s.1, f_s, h_s.2.2.1, h_s.2.2.2)) (gI K_s) := by
  have b_s := hc_s.1
  have z1 : zix (6 + x1_s) = 6 + p_s := zxa (c_s := 6) (a_s := 6) rfl e1_s (by omega)
  have z2 : zix (6 + x2_s) = 6 + q_s := zxa (c_s := 6) (a_s := 6) rfl e2_s (by omega)
  have bp := tM_will hc_s (p_s := p_s) (by omega)
  have bq := tM_will hc_s (p_s := q_s) (by omega)
  unfold hkI at t0_s t1_s
  refine wF_le (Nat.le_succ F_s) (sg_196_0 (h_s := (h_s.1, f_s, h_s.2.2.1, h_s.2.2.2)) hk ?_)
  dsimp only
  simp only [z1, z2]
  refine fun c1_s => fun c2_s => ⟨fun c3_s => ⟨fun c4_s => ?_, fun c4_s => ?_⟩, fun c3_s => ⟨fun c7_s => ?_, fun c7_s => ?_⟩⟩
  all_goals first | exact t1_s (by omega) | exact t0_s (by omega)
/-- the best of those not passed over, as far as n -/
def bsN (kf : Nat → Int) (no_s : Nat → Bool) (m_s : Int) (n_s : Nat) (v_s : Int) : Prop := (v_s = m_s ∧ ∀ o, o < n_s → no_s o = true) ∨ ∃ b_s : Nat, b_s < n_s ∧ v_s = (b_s : Int) ∧ no_s b_s = false ∧ ∀ o, o < n_s → no_s o = false → o = b_s ∨ kf b_s < kf o
theorem bs_skip {kf : Nat → Int} {no_s : Nat → Bool} {m_s v_s : Int} {n_s : Nat} (h_s : bsN kf no_s m_s n_s v_s) (hn : no_s n_s = true) : bsN kf no_s m_s (n_s + 1) v_s := by
  rcases h_s with ⟨a1_s, a2⟩ | ⟨b_s, a1_s, a2, a3, a4⟩
  · refine Or.inl ⟨a1_s, fun o ho => ?_⟩
    by_cases e_s : o = n_s
    · rw [e_s]
      exact hn
    · exact a2 o (by omega)
  · refine Or.inr ⟨b_s, by omega, a2, a3, fun o ho w_s => ?_⟩
    by_cases e_s : o = n_s
    · rw [e_s, hn] at w_s
      cases w_s
    · exact a4 o (by omega) w_s
theorem bs_take {kf : Nat → Int} {no_s : Nat → Bool} {m_s v_s : Int} {n_s : Nat} (hm_s : m_s < 0) (h_s : bsN kf no_s m_s n_s v_s) (hn : no_s n_s = false) (hl : ∀ o : Nat, v_s = (o : Int) → o < n_s → kf n_s < kf o) : bsN kf no_s m_s (n_s + 1) (n_s : Int) := by
  refine Or.inr ⟨n_s, by omega, rfl, hn, fun o ho w_s => ?_⟩
  by_cases e_s : o = n_s
  · exact Or.inl e_s
  · rcases h_s with ⟨a1_s, a2⟩ | ⟨b_s, a1_s, a2, a3, a4⟩
    · rw [a2 o (by omega)] at w_s
      cases w_s
    · have l := hl b_s a2 a1_s
      rcases a4 o (by omega) w_s with u_s | u_s
      · rw [u_s]
        exact Or.inr l
      · exact Or.inr (by omega)
theorem bs_keep {kf : Nat → Int} {no_s : Nat → Bool} {m_s v_s : Int} {n_s b_s : Nat} (hinj : kf b_s = kf n_s → b_s = n_s) (h_s : bsN kf no_s m_s n_s v_s) (hv : v_s = (b_s : Int)) (hm_s : m_s < 0) (hl : ¬ kf n_s < kf b_s) : bsN kf no_s m_s (n_s + 1) v_s := by
  rcases h_s with ⟨a1_s, a2⟩ | ⟨b1, a1_s, a2, a3, a4⟩
  · omega
  · have eb : b1 = b_s := by omega
    subst eb
    refine Or.inr ⟨b1, by omega, a2, a3, fun o ho w_s => ?_⟩
    by_cases e_s : o = n_s
    · rw [e_s]
      by_cases f_s : kf b1 = kf n_s
      · exact Or.inl (hinj f_s).symm
      · exact Or.inr (by omega)
    · exact a4 o (by omega) w_s
theorem ky_inj {n_s : Nat} (hn : n_s < 8) (o : Nat) (ho : o < 8) (e_s : kyI f_s p_s o = kyI f_s p_s n_s) : o = n_s := by
  unfold kyI at e_s
  omega
end AA
/-! ALL ASK, the class: heads by rank choose one after the other. -/
section CA_s
variable {h_s : zH} {K_s : Int32 → zH → Prop} {V : zH → Prop} {nh ni nr p_s : Nat} {x1_s x2_s : Int32} {f_s : Nat → Nat → Int32}
theorem nr27 (hk : hKn h_s) (hc_s : tC nh ni nr f_s) (e1_s : x1_s.toInt = (p_s : Int)) (hp : p_s < nh) (t_s : ∀ v_s, bsN (kyI f_s p_s) (btv x2_s) (-2) ni v_s.toInt → K_s v_s (h_s.1, f_s, h_s.2.2.1, h_s.2.2.2)) : ∀ (F_s n_s : Nat) (x3 x4_s : Int32), x4_s.toInt = (n_s : Int) → n_s ≤ ni → bsN (kyI f_s p_s) (btv x2_s) (-2) n_s x3.toInt → wF F_s 27 (6, [some (.ref 7), some (.int x1_s), some (.int x2_s), some (.int x3), some (.int x4_s)], [], (h_s.1, f_s, h_s.2.2.1, h_s.2.2.2)) (gI K_s)
  | 0, _, _, _, _, _, _ => wF_zero
  | F_s + 1, n_s, x3, x4_s, e4_s, hn, hb_s => by
    have b_s := hc_s.1
    have c7_s := hc_s.2.1.2.1
    have e5_s : (x4_s + 1).toInt = ((n_s + 1 : Nat) : Int) := by
      rw [in1_ (by omega), e4_s]
      omega
    refine sg_27_6 (h_s := (h_s.1, f_s, h_s.2.2.1, h_s.2.2.2)) hk ?_
    dsimp only
    rw [c7_s, e4_s]
    refine ⟨fun c1_s => ⟨fun c2_s => ?_, fun c2_s => ?_⟩, fun c1_s => ?_⟩
    · have hno := (bt_tst (x_s := x2_s) e4_s (by omega)).1.mp c2_s
      have e3_s : x3.toInt < 0 ∨ ∃ o, x3.toInt = ((o : Nat) : Int) ∧ o < ni := by
        rcases hb_s with ⟨a1_s, _⟩ | ⟨o, a1_s, a2, _⟩
        · exact Or.inl (by omega)
        · exact Or.inr ⟨o, a2, by omega⟩
      refine sp_29 hk hc_s e1_s e4_s hp (by omega) e3_s (fun w_s _ => ⟨fun c_s => absurd c_s (by decide), fun _ => ?_⟩) (fun o w1_s w2_s w3_s _ => ⟨fun _ => ?_, fun c_s => absurd rfl c_s⟩)
      · refine nr27 hk hc_s e1_s hp t_s F_s (n_s + 1) x4_s (x4_s + 1) e5_s (by omega) ?_
        rw [e4_s]
        exact bs_take (by omega) hb_s hno (fun o w1_s w2_s => w_s o w1_s (by omega))
      · exact nr27 hk hc_s e1_s hp t_s F_s (n_s + 1) x3 (x4_s + 1) e5_s (by omega) (bs_keep (fun w_s => ky_inj (p_s := p_s) (f_s := f_s) (by omega) o (by omega) w_s) hb_s w1_s (by omega) w3_s)
    · have hno : btv x2_s n_s = true := by
        cases e_s : btv x2_s n_s with
        | true => rfl
        | false => exact absurd ((bt_tst (x_s := x2_s) e4_s (by omega)).1.mpr e_s) c2_s
      exact nr27 hk hc_s e1_s hp t_s F_s (n_s + 1) x3 (x4_s + 1) e5_s (by omega) (bs_skip hb_s hno)
    · have en : n_s = ni := by omega
      subst en
      exact t_s x3 hb_s
theorem sp_27 {F_s : Nat} (hk : hKn h_s) (hc_s : tC nh ni nr f_s) (e1_s : x1_s.toInt = (p_s : Int)) (hp : p_s < nh) (t_s : ∀ v_s, bsN (kyI f_s p_s) (btv x2_s) (-2) ni v_s.toInt → K_s v_s (h_s.1, f_s, h_s.2.2.1, h_s.2.2.2)) : wF F_s 27 (0, [some (.ref 7), some (.int x1_s), some (.int x2_s), none, none], [], (h_s.1, f_s, h_s.2.2.1, h_s.2.2.2)) (gI K_s) := wF_le (Nat.le_succ F_s) (sg_27_0 (h_s := (h_s.1, f_s, h_s.2.2.1, h_s.2.2.2)) hk (nr27 hk hc_s e1_s hp t_s F_s 0 (-2) 0 rfl (Nat.zero_le _) (Or.inl ⟨rfl, fun o ho => absurd ho (Nat.not_lt_zero o)⟩)))
theorem fo26 (hk : hKn h_s) (hc_s : tC nh ni nr f_s) (t_s : ∀ v_s, bsN (hkI f_s) (btv x1_s) (-1) nh v_s.toInt → K_s v_s (h_s.1, f_s, h_s.2.2.1, h_s.2.2.2)) : ∀ (F_s n_s : Nat) (x2_s x3 : Int32), x3.toInt = (n_s : Int) → n_s ≤ nh → bsN (hkI f_s) (btv x1_s) (-1) n_s x2_s.toInt → wF F_s 26 (4, [some (.ref 7), some (.int x1_s), some (.int x2_s), some (.int x3)], [], (h_s.1, f_s, h_s.2.2.1, h_s.2.2.2)) (gI K_s)
  | 0, _, _, _, _, _, _ => wF_zero
  | F_s + 1, n_s, x2_s, x3, e4_s, hn, hb_s => by
    have b_s := hc_s.1
    have c6_s := hc_s.2.1.1
    have e5_s : (x3 + 1).toInt = ((n_s + 1 : Nat) : Int) := by
      rw [in1_ (by omega), e4_s]
      omega
    refine sg_26_4 (h_s := (h_s.1, f_s, h_s.2.2.1, h_s.2.2.2)) hk ?_
    dsimp only
    rw [c6_s, e4_s]
    refine ⟨fun c1_s => ⟨fun c2_s => ?_, fun c2_s => ?_⟩, fun c1_s => ?_⟩
    · have hno := (bt_tst (x_s := x1_s) e4_s (by omega)).1.mp c2_s
      have e3_s : x2_s.toInt < 0 ∨ ∃ o, x2_s.toInt = ((o : Nat) : Int) ∧ o < nh := by
        rcases hb_s with ⟨a1_s, _⟩ | ⟨o, a1_s, a2, _⟩
        · exact Or.inl (by omega)
        · exact Or.inr ⟨o, a2, by omega⟩
      refine sp_28 (p_s := n_s) (q_s := 0) hk hc_s e4_s (by omega) e3_s (fun w_s _ => ⟨fun c_s => absurd c_s (by decide), fun _ => ?_⟩) (fun o w1_s w2_s w3_s _ => ⟨fun _ => ?_, fun c_s => absurd rfl c_s⟩)
      · refine fo26 hk hc_s t_s F_s (n_s + 1) x3 (x3 + 1) e5_s (by omega) ?_
        rw [e4_s]
        exact bs_take (by omega) hb_s hno (fun o w1_s w2_s => w_s o w1_s (by omega))
      · exact fo26 hk hc_s t_s F_s (n_s + 1) x2_s (x3 + 1) e5_s (by omega) (bs_keep (fun w_s => hk_inj (tC_M hc_s) o n_s (by omega) (by omega) w_s) hb_s w1_s (by omega) w3_s)
    · have hno : btv x1_s n_s = true := by
        cases e_s : btv x1_s n_s with
        | true => rfl
        | false => exact absurd ((bt_tst (x_s := x1_s) e4_s (by omega)).1.mpr e_s) c2_s
      exact fo26 hk hc_s t_s F_s (n_s + 1) x2_s (x3 + 1) e5_s (by omega) (bs_skip hb_s hno)
    · have en : n_s = nh := by omega
      subst en
      exact t_s x2_s hb_s
theorem sp_26 {F_s : Nat} (hk : hKn h_s) (hc_s : tC nh ni nr f_s) (t_s : ∀ v_s, bsN (hkI f_s) (btv x1_s) (-1) nh v_s.toInt → K_s v_s (h_s.1, f_s, h_s.2.2.1, h_s.2.2.2)) : wF F_s 26 (0, [some (.ref 7), some (.int x1_s), none, none], [], (h_s.1, f_s, h_s.2.2.1, h_s.2.2.2)) (gI K_s) := wF_le (Nat.le_succ F_s) (sg_26_0 (h_s := (h_s.1, f_s, h_s.2.2.1, h_s.2.2.2)) hk (fo26 hk hc_s t_s F_s 0 (-1) 0 rfl (Nat.zero_le _) (Or.inl ⟨rfl, fun o ho => absurd ho (Nat.not_lt_zero o)⟩)))
theorem fl240 {y1 x3 : Int32} {f0_s : Nat → Nat → Int32} (hk : hKn h_s) (e3_s : x3.toInt = 6) (t_s : ∀ f1_s, (∀ k_s, k_s < 6 → f1_s 12 k_s = y1) → (∀ a_s k_s, ¬ (a_s = 12 ∧ k_s < 6) → f1_s a_s k_s = f0_s a_s k_s) → V (h_s.1, f1_s, h_s.2.2.1, h_s.2.2.2)) : ∀ (F_s n_s : Nat) (x2_s : Int32) (f_s : Nat → Nat → Int32), x2_s.toInt = (n_s : Int) → n_s ≤ 6 → (∀ k_s, k_s < n_s → f_s 12 k_s = y1) → (∀ a_s k_s, ¬ (a_s = 12 ∧ k_s < 6) → f_s a_s k_s = f0_s a_s k_s) → wF F_s 240 (5, [some (.ref 12), some (.int y1), some (.int x2_s), some (.int x3)], [], (h_s.1, f_s, h_s.2.2.1, h_s.2.2.2)) (gV V)
  | 0, _, _, _, _, _, _, _ => wF_zero
  | F_s + 1, n_s, x2_s, f_s, e2_s, hn, hf, hg => by
    have z_s := azix (i := x2_s) (by omega)
    have ez : zix x2_s = n_s := by omega
    refine sg_240_5 (h_s := (h_s.1, f_s, h_s.2.2.1, h_s.2.2.2)) hk ?_
    dsimp only
    rw [ez]
    refine ⟨fun c1_s _ => ?_, fun c1_s => ?_⟩
    · refine fl240 (f0_s := f0_s) hk e3_s t_s F_s (n_s + 1) (x2_s + 1) _ (by rw [in1_ (by omega)]; omega) (by omega) (fun k_s hk1 => ?_) (fun a_s k_s q_s => ?_)
      · by_cases e_s : k_s = n_s
        · rw [e_s, zsame_up]
        · rw [zne_up (by omega)]
          exact hf k_s (by omega)
      · rw [zne_up (by omega)]
        exact hg a_s k_s q_s
    · have en : n_s = 6 := by omega
      subst en
      exact t_s f_s hf hg
theorem SDp_congr {ky : Nat → Nat → Int} {hq : Nat → Int} {hd_s hd1 : Nat → Int} (he : ∀ q_s, q_s < nh → (hq q_s < hq p_s ∨ q_s = p_s) → hd1 q_s = hd_s q_s) (hp : p_s < nh) (S_s : SDp nh ni ky hq hd_s p_s) : SDp nh ni ky hq hd1 p_s := by
  rcases S_s with ⟨s1_s, s2_s⟩ | ⟨i_s, s1_s, s2_s, s3_s, s4_s⟩
  · refine Or.inl ⟨by rw [he p_s hp (Or.inr rfl)]; exact s1_s, fun i_s hi_s => ?_⟩
    obtain ⟨q_s, q1_s, q2_s, q3_s⟩ := s2_s i_s hi_s
    exact ⟨q_s, q1_s, q2_s, by rw [he q_s q1_s (Or.inl q2_s)]; exact q3_s⟩
  · refine Or.inr ⟨i_s, s1_s, by rw [he p_s hp (Or.inr rfl)]; exact s2_s, fun q_s q1_s q2_s => ?_, fun o o1 o2 => ?_⟩
    · rw [he q_s q1_s (Or.inl q2_s)]
      exact s3_s q_s q1_s q2_s
    · rcases s4_s o o1 o2 with ⟨q_s, q1_s, q2_s, q3_s⟩ | u_s
      · exact Or.inl ⟨q_s, q1_s, q2_s, by rw [he q_s q1_s (Or.inl q2_s)]; exact q3_s⟩
      · exact Or.inr u_s
/-- what stands when some are served -/
def srv (nh ni : Nat) (f0_s f_s : Nat → Nat → Int32) (s_s g_s : Int32) (n_s : Nat) : Prop := (∀ q_s, q_s < nh → btv s_s q_s = true → SDp nh ni (kyI f0_s) (hkI f0_s) (fun q_s => (f_s 12 q_s).toInt) q_s) ∧ (∀ q_s, q_s < nh → btv s_s q_s = false → (f_s 12 q_s).toInt = -2) ∧ (∀ a_s q_s, a_s < nh → q_s < nh → btv s_s q_s = true → btv s_s a_s = false → hkI f0_s q_s < hkI f0_s a_s) ∧ (∀ i_s, i_s < ni → (btv g_s i_s = true ↔ ∃ q_s, q_s < nh ∧ btv s_s q_s = true ∧ (f_s 12 q_s).toInt = ((i_s : Nat) : Int))) ∧ cnB s_s nh = n_s
theorem ky_fr {f0_s : Nat → Nat → Int32} (h3 : ∀ k_s, f_s 103 k_s = f0_s 103 k_s) : kyI f_s = kyI f0_s ∧ hkI f_s = hkI f0_s := by
  refine ⟨?_, ?_⟩
  · funext p_s i_s
    unfold kyI
    rw [h3, h3, h3]
  · funext p_s
    unfold hkI
    rw [h3]
theorem srv_step {f0_s f1_s : Nat → Nat → Int32} {s_s g_s s1_s g1 : Int32} {n_s b_s : Nat} {v_s : Int} (b6 : nh ≤ 6 ∧ ni ≤ 8) (S_s : srv nh ni f0_s f_s s_s g_s n_s) (hb_s : b_s < nh) (hs : btv s_s b_s = false) (hbest : ∀ o, o < nh → btv s_s o = false → o = b_s ∨ hkI f0_s b_s < hkI f0_s o) (hn : bsN (kyI f0_s b_s) (btv g_s) (-2) ni v_s) (e1_s : (f1_s 12 b_s).toInt = v_s) (e2_s : ∀ q_s, ¬ q_s = b_s → f1_s 12 q_s = f_s 12 q_s) (e3_s : ∀ k_s, k_s < 32 → btv s1_s k_s = (btv s_s k_s || decide (k_s = b_s))) (e4_s : (v_s = -2 ∧ g1 = g_s) ∨ (∃ i_s : Nat, i_s < ni ∧ v_s = (i_s : Int) ∧ ∀ k_s, k_s < 32 → btv g1 k_s = (btv g_s k_s || decide (k_s = i_s)))) : srv nh ni f0_s f1_s s1_s g1 (n_s + 1) := by
  obtain ⟨i1_s, i2_s, i3_s, i4_s, i5_s⟩ := S_s
  have s1b : btv s1_s b_s = true := by
    rw [e3_s b_s (by omega), decide_eq_true rfl, Bool.or_true]
  have s1n : ∀ k_s, k_s < 32 → ¬ k_s = b_s → btv s1_s k_s = btv s_s k_s := fun k_s hk32 hne => by rw [e3_s k_s hk32, decide_eq_false hne, Bool.or_false]
  have up_s : ∀ q_s, q_s < nh → hkI f0_s q_s < hkI f0_s b_s → btv s_s q_s = true := fun q_s hq l => by
    cases e_s : btv s_s q_s with
    | true => rfl
    | false =>
      rcases hbest q_s hq e_s with u_s | u_s
      · rw [u_s] at l
        omega
      · omega
  have nq : ∀ q_s, hkI f0_s q_s < hkI f0_s b_s → ¬ q_s = b_s := fun q_s l e_s => by
    rw [e_s] at l
    omega
  refine ⟨fun q_s hq w_s => ?_, fun q_s hq w_s => ?_, fun a_s q_s ha_s hq w1_s w2_s => ?_, fun i_s hi_s => ?_, ?_⟩
  · by_cases e_s : q_s = b_s
    · subst e_s
      rcases hn with ⟨a1_s, a2⟩ | ⟨i_s, a1_s, a2, a3, a4⟩
      · refine Or.inl ⟨by rw [← a1_s]; exact e1_s, fun i_s hi_s => ?_⟩
        obtain ⟨r_s, r1_s, r2, r3⟩ := (i4_s i_s hi_s).mp (a2 i_s hi_s)
        have l := i3_s q_s r_s hq r1_s r2 hs
        refine ⟨r_s, r1_s, l, ?_⟩
        show (f1_s 12 r_s).toInt = (i_s : Int)
        rw [e2_s r_s (nq r_s l)]
        exact r3
      · refine Or.inr ⟨i_s, a1_s, by rw [← a2]; exact e1_s, fun r_s r1_s l w_s => ?_, fun o ho hne => ?_⟩
        · have w_s : (f1_s 12 r_s).toInt = (i_s : Int) := w_s
          rw [e2_s r_s (nq r_s l)] at w_s
          have := (i4_s i_s a1_s).mpr ⟨r_s, r1_s, up_s r_s r1_s l, w_s⟩
          rw [a3] at this
          cases this
        · cases eo : btv g_s o with
          | true =>
            obtain ⟨r_s, r1_s, r2, r3⟩ := (i4_s o ho).mp eo
            have l := i3_s q_s r_s hq r1_s r2 hs
            refine Or.inl ⟨r_s, r1_s, l, ?_⟩
            show (f1_s 12 r_s).toInt = (o : Int)
            rw [e2_s r_s (nq r_s l)]
            exact r3
          | false =>
            rcases a4 o ho eo with u_s | u_s
            · exact absurd u_s hne
            · exact Or.inr u_s
    · rw [s1n q_s (by omega) e_s] at w_s
      refine SDp_congr (hd_s := fun q_s => (f_s 12 q_s).toInt) (fun r_s r1_s r2 => ?_) hq (i1_s q_s hq w_s)
      show (f1_s 12 r_s).toInt = (f_s 12 r_s).toInt
      rw [e2_s r_s (fun u_s => ?_)]
      have l := i3_s b_s q_s hb_s hq w_s hs
      rcases r2 with r2 | r2
      · rw [u_s] at r2
        omega
      · exact e_s (by rw [← r2, u_s])
  · by_cases e_s : q_s = b_s
    · rw [e_s, s1b] at w_s
      cases w_s
    · rw [s1n q_s (by omega) e_s] at w_s
      rw [e2_s q_s e_s]
      exact i2_s q_s hq w_s
  · have ea : ¬ a_s = b_s := fun u_s => by
      rw [u_s, s1b] at w2_s
      cases w2_s
    rw [s1n a_s (by omega) ea] at w2_s
    by_cases e_s : q_s = b_s
    · rw [e_s]
      rcases hbest a_s ha_s w2_s with u_s | u_s
      · exact absurd u_s ea
      · exact u_s
    · rw [s1n q_s (by omega) e_s] at w1_s
      exact i3_s a_s q_s ha_s hq w1_s w2_s
  · have old_s : (∃ q_s, q_s < nh ∧ btv s1_s q_s = true ∧ (f1_s 12 q_s).toInt = ((i_s : Nat) : Int)) ↔ ((∃ q_s, q_s < nh ∧ btv s_s q_s = true ∧ (f_s 12 q_s).toInt = ((i_s : Nat) : Int)) ∨ v_s = (i_s : Int)) := by
      constructor
      · rintro ⟨q_s, q1_s, q2_s, q3_s⟩
        by_cases e_s : q_s = b_s
        · rw [e_s, e1_s] at q3_s
          exact Or.inr q3_s
        · rw [s1n q_s (by omega) e_s] at q2_s
          rw [e2_s q_s e_s] at q3_s
          exact Or.inl ⟨q_s, q1_s, q2_s, q3_s⟩
      · rintro (⟨q_s, q1_s, q2_s, q3_s⟩ | w_s)
        · have e_s : ¬ q_s = b_s := fun u_s => by
            rw [u_s, hs] at q2_s
            cases q2_s
          exact ⟨q_s, q1_s, by rw [s1n q_s (by omega) e_s]; exact q2_s, by rw [e2_s q_s e_s]; exact q3_s⟩
        · exact ⟨b_s, hb_s, s1b, by rw [e1_s]; exact w_s⟩
    rw [old_s, ← i4_s i_s hi_s]
    rcases e4_s with ⟨v2, eg⟩ | ⟨j_s, j1, j2_s, j3_s⟩
    · rw [eg]
      exact ⟨fun w_s => Or.inl w_s, fun w_s => w_s.elim (fun u_s => u_s) (fun u_s => by omega)⟩
    · rw [j3_s i_s (by omega)]
      by_cases e_s : i_s = j_s
      · rw [e_s, decide_eq_true rfl, Bool.or_true]
        exact ⟨fun _ => Or.inr j2_s, fun _ => rfl⟩
      · rw [decide_eq_false e_s, Bool.or_false]
        exact ⟨fun w_s => Or.inl w_s, fun w_s => w_s.elim (fun u_s => u_s) (fun u_s => by omega)⟩
  · rw [cnB_set hs s1b s1n nh (by omega), i5_s, if_pos hb_s]
theorem all25 {f0_s : Nat → Nat → Int32} (hk : hKn h_s) (hc_s : tC nh ni nr f0_s) (t_s : ∀ f1_s, (∀ q_s, q_s < nh → SDp nh ni (kyI f0_s) (hkI f0_s) (fun q_s => (f1_s 12 q_s).toInt) q_s) → (∀ a_s k_s, ¬ (a_s = 12 ∧ k_s < 6) → f1_s a_s k_s = f0_s a_s k_s) → V (h_s.1, f1_s, h_s.2.2.1, h_s.2.2.2)) : ∀ (F_s n_s : Nat) (x1_s x2_s x3 : Int32) (l4 : Option Value) (f_s : Nat → Nat → Int32), x3.toInt = (n_s : Int) → n_s ≤ nh → srv nh ni f0_s f_s x1_s x2_s n_s → (∀ a_s k_s, ¬ (a_s = 12 ∧ k_s < 6) → f_s a_s k_s = f0_s a_s k_s) → wF F_s 25 (15, [some (.ref 7), some (.int x1_s), some (.int x2_s), some (.int x3), l4], [], (h_s.1, f_s, h_s.2.2.1, h_s.2.2.2)) (gV V)
  | 0, _, _, _, _, _, _, _, _, _, _ => wF_zero
  | F_s + 1, n_s, x1_s, x2_s, x3, l4, f_s, e3_s, hn, S_s, hg => by
    have b_s := hc_s.1
    have e76 : f_s 7 6 = f0_s 7 6 := hg 7 6 (by omega)
    have c6_s := hc_s.2.1.1
    have e103_s : ∀ k_s, f_s 103 k_s = f0_s 103 k_s := fun k_s => hg 103 k_s (by omega)
    obtain ⟨ek, eh⟩ := ky_fr e103_s
    have hcf : tC nh ni nr f_s := tC_fr (fun a_s k_s q_s => hg a_s k_s (by unfold inC at q_s; omega)) hc_s
    refine sg_25_15 (h_s := (h_s.1, f_s, h_s.2.2.1, h_s.2.2.2)) hk ?_
    dsimp only
    rw [e76, c6_s, e3_s]
    refine ⟨fun c1_s => ?_, fun c1_s => ?_⟩
    · refine sp_26 hk hcf (fun v2 hv2 _ => ?_)
      rw [eh] at hv2
      rcases hv2 with ⟨a1_s, a2⟩ | ⟨bb, a1_s, a2, a3, a4⟩
      · exact ⟨fun _ => t_s f_s (fun q_s hq => S_s.1 q_s hq (a2 q_s hq)) hg, fun c_s => absurd (show v2.toInt < 0 by omega) c_s⟩
      · refine ⟨fun c_s => absurd c_s (by omega), fun _ => ⟨fun _ => ?_, fun c_s => absurd (show v2.toInt < (f_s 7 6).toInt by rw [e76, c6_s]; omega) c_s⟩⟩
        have z2 := azix (i := v2) (by omega)
        have ez2 : zix v2 = bb := by omega
        refine sp_27 (p_s := bb) hk hcf a2 a1_s (fun v5 hv5 _ _ => ?_)
        rw [ek] at hv5
        dsimp only
        rw [ez2, zsame_up]
        have st_s := fun (g1 : Int32) (e4_s : (v5.toInt = -2 ∧ g1 = x2_s) ∨ (∃ i_s : Nat, i_s < ni ∧ v5.toInt = (i_s : Int) ∧ ∀ k_s, k_s < 32 → btv g1 k_s = (btv x2_s k_s || decide (k_s = i_s)))) => srv_step (f1_s := zup f_s 12 bb v5) (s1_s := x1_s ||| (1 <<< (v2 &&& 31))) (g1 := g1) (v_s := v5.toInt) ⟨b_s.1, b_s.2.1⟩ S_s a1_s a3 a4 hv5 (by rw [zsame_up]) (fun q_s hq => zne_up (by omega)) (fun k_s hk32 => by rw [bt_or, bt_shl a2 (by omega) hk32]) e4_s
        have nx := fun (g1 : Int32) (S1 : srv nh ni f0_s (zup f_s 12 bb v5) (x1_s ||| (1 <<< (v2 &&& 31))) g1 (n_s + 1)) => all25 (f0_s := f0_s) hk hc_s t_s F_s (n_s + 1) (x1_s ||| (1 <<< (v2 &&& 31))) g1 (x3 + 1) (some (.int v2)) (zup f_s 12 bb v5) (by rw [in1_ (by omega)]; omega) (by omega) S1 (fun a_s k_s q_s => by rw [zne_up (by omega)]; exact hg a_s k_s q_s)
        refine ⟨fun c_s => nx x2_s (st_s x2_s (Or.inl ⟨c_s, rfl⟩)), fun c_s => ?_⟩
        rcases hv5 with ⟨b1, _⟩ | ⟨i_s, b1, b2, _, _⟩
        · exact absurd b1 c_s
        · exact nx _ (st_s _ (Or.inr ⟨i_s, b1, b2, fun k_s hk32 => by rw [bt_or, bt_shl b2 (by omega) hk32]⟩))
    · have en : n_s = nh := by omega
      subst en
      exact t_s f_s (fun q_s hq => S_s.1 q_s hq (cnB_all x1_s n_s S_s.2.2.2.2 q_s hq)) hg
theorem cnB_0 : ∀ n_s, cnB 0 n_s = 0
  | 0 => rfl
  | n_s + 1 => by
    show cnB 0 n_s + (if btv 0 n_s = true then 1 else 0) = 0
    rw [cnB_0 n_s, bt_0]
    rfl
theorem sp_25 {F_s : Nat} {f0_s : Nat → Nat → Int32} (hk : hKn h_s) (hc_s : tC nh ni nr f0_s) (t_s : ∀ f1_s, (∀ q_s, q_s < nh → SDp nh ni (kyI f0_s) (hkI f0_s) (fun q_s => (f1_s 12 q_s).toInt) q_s) → (∀ a_s k_s, ¬ (a_s = 12 ∧ k_s < 6) → f1_s a_s k_s = f0_s a_s k_s) → V (h_s.1, f1_s, h_s.2.2.1, h_s.2.2.2)) : wF F_s 25 (0, [some (.ref 7), none, none, none, none], [], (h_s.1, f0_s, h_s.2.2.1, h_s.2.2.2)) (gV V) := by
  refine wF_le (Nat.le_succ F_s) (sg_25_0 (h_s := (h_s.1, f0_s, h_s.2.2.1, h_s.2.2.2)) hk ?_)
  refine wF_le (Nat.le_succ F_s) (sg_240_0 (h_s := (h_s.1, f0_s, h_s.2.2.1, h_s.2.2.2)) hk ?_)
  refine fl240 (f0_s := f0_s) hk rfl (fun f1_s g1 g2 hk1 => ?_) F_s 0 0 f0_s rfl (by omega) (fun k_s hq => absurd hq (Nat.not_lt_zero k_s)) (fun _ _ _ => rfl)
  have b_s := hc_s.1
  refine all25 (h_s := (h_s.1, f1_s, h_s.2.2.1, h_s.2.2.2)) (f0_s := f0_s) hk1 hc_s t_s F_s 0 0 0 0 none f1_s rfl (Nat.zero_le _) ⟨fun q_s hq w_s => ?_, fun q_s hq w_s => ?_, fun a_s q_s ha_s hq w1_s w2_s => ?_, fun i_s hi_s => ⟨fun w_s => ?_, fun w_s => ?_⟩, cnB_0 nh⟩ g2
  · rw [bt_0] at w_s
    cases w_s
  · rw [g1 q_s (by omega)]
    rfl
  · rw [bt_0] at w1_s
    cases w1_s
  · rw [bt_0] at w_s
    cases w_s
  · obtain ⟨q_s, _, w_s, _⟩ := w_s
    rw [bt_0] at w_s
    cases w_s
end CA_s
/-! ALL ASK, the reference: by turns; all heads are dealt. -/
section RA_s
variable {h_s : zH} {K_s : Int32 → zH → Prop} {V : zH → Prop} {nh ni nr p_s : Nat} {x1_s x2_s : Int32} {f_s : Nat → Nat → Int32}
def hbF (f_s : Nat → Nat → Int32) (i_s : Nat) : Int := (f_s 116 i_s).toInt
def akF (f_s : Nat → Nat → Int32) (p_s i_s : Nat) : Bool := btv (f_s 117 p_s) i_s
def dnF (ni : Nat) (f_s : Nat → Nat → Int32) (p_s : Nat) : Prop := (∃ i_s, i_s < ni ∧ hbF f_s i_s = ((p_s : Nat) : Int)) ∨ ∀ i_s, i_s < ni → akF f_s p_s i_s = true
/-- ideaOf -/
theorem io197 (hk : hKn h_s) (hc_s : tM nh ni nr f_s) (e1_s : x1_s.toInt = (p_s : Int)) (t_s : ∀ v_s, (v_s.toInt = -1 ∧ ∀ i_s, i_s < ni → ¬ hbF f_s i_s = (p_s : Int)) ∨ (∃ i_s : Nat, i_s < ni ∧ v_s.toInt = (i_s : Int) ∧ hbF f_s i_s = (p_s : Int)) → K_s v_s (h_s.1, f_s, h_s.2.2.1, h_s.2.2.2)) : ∀ (F_s n_s : Nat) (x2_s : Int32), x2_s.toInt = (n_s : Int) → n_s ≤ ni → (∀ i_s, i_s < n_s → ¬ hbF f_s i_s = (p_s : Int)) → wF F_s 197 (2, [some (.ref 102), some (.int x1_s), some (.int x2_s)], [], (h_s.1, f_s, h_s.2.2.1, h_s.2.2.2)) (gI K_s)
  | 0, _, _, _, _, _ => wF_zero
  | F_s + 1, n_s, x2_s, e2_s, hn, hb_s => by
    have b_s := hc_s.1
    have c7_s := hc_s.2.1.2.1
    have z_s := azix (i := x2_s) (by omega)
    have ez : zix x2_s = n_s := by omega
    refine sg_197_2 (h_s := (h_s.1, f_s, h_s.2.2.1, h_s.2.2.2)) hk ?_
    dsimp only
    rw [c7_s, ez, e1_s, e2_s]
    refine ⟨fun c1_s _ => ⟨fun c2_s => t_s x2_s (Or.inr ⟨n_s, by omega, e2_s, c2_s⟩), fun c2_s => ?_⟩, fun c1_s => t_s (-1) (Or.inl ⟨rfl, fun i_s hi_s => hb_s i_s (by omega)⟩)⟩
    refine io197 hk hc_s e1_s t_s F_s (n_s + 1) (x2_s + 1) (by rw [in1_ (by omega)]; omega) (by omega) (fun i_s hi_s => ?_)
    by_cases e_s : i_s = n_s
    · rw [e_s]
      exact c2_s
    · exact hb_s i_s (by omega)
theorem sp_197 {F_s : Nat} (hk : hKn h_s) (hc_s : tM nh ni nr f_s) (e1_s : x1_s.toInt = (p_s : Int)) (t_s : ∀ v_s, (v_s.toInt = -1 ∧ ∀ i_s, i_s < ni → ¬ hbF f_s i_s = (p_s : Int)) ∨ (∃ i_s : Nat, i_s < ni ∧ v_s.toInt = (i_s : Int) ∧ hbF f_s i_s = (p_s : Int)) → K_s v_s (h_s.1, f_s, h_s.2.2.1, h_s.2.2.2)) : wF F_s 197 (0, [some (.ref 102), some (.int x1_s), none], [], (h_s.1, f_s, h_s.2.2.1, h_s.2.2.2)) (gI K_s) := wF_le (Nat.le_succ F_s) (sg_197_0 (h_s := (h_s.1, f_s, h_s.2.2.1, h_s.2.2.2)) hk (io197 hk hc_s e1_s t_s F_s 0 0 rfl (Nat.zero_le _) (fun i_s hi_s => absurd hi_s (Nat.not_lt_zero i_s))))
def frA (f_s f1_s : Nat → Nat → Int32) : Prop := ∀ a_s k_s, ¬ a_s = 116 → ¬ a_s = 117 → f1_s a_s k_s = f_s a_s k_s
def A48 (nh ni nr : Nat) (h_s : zH) (V : zH → Prop) (f0_s : Nat → Nat → Int32) (F_s : Nat) : Prop := ∀ (x1_s : Int32) (l2 l3 l4 : Option Value) (f_s : Nat → Nat → Int32), frA f0_s f_s → GSI nh ni (kyI f0_s) (hkI f0_s) (hbF f_s) (akF f_s) → (x1_s.toInt = 0 → ∀ p_s, p_s < nh → dnF ni f_s p_s) → wF F_s 198 (48, [some (.ref 102), some (.int x1_s), l2, l3, l4], [], (h_s.1, f_s, h_s.2.2.1, h_s.2.2.2)) (gV V)
def A56 (nh ni nr : Nat) (h_s : zH) (V : zH → Prop) (f0_s : Nat → Nat → Int32) (F_s : Nat) : Prop := ∀ (x1_s x2_s : Int32) (l3 l4 : Option Value) (p_s : Nat) (f_s : Nat → Nat → Int32), frA f0_s f_s → GSI nh ni (kyI f0_s) (hkI f0_s) (hbF f_s) (akF f_s) → x2_s.toInt = (p_s : Int) → p_s ≤ nh → (x1_s.toInt = 0 → ∀ q_s, q_s < p_s → dnF ni f_s q_s) → wF F_s 198 (56, [some (.ref 102), some (.int x1_s), some (.int x2_s), l3, l4], [], (h_s.1, f_s, h_s.2.2.1, h_s.2.2.2)) (gV V)
def A69 (nh ni nr : Nat) (h_s : zH) (V : zH → Prop) (f0_s : Nat → Nat → Int32) (F_s : Nat) : Prop := ∀ (x1_s x2_s x3 x4_s : Int32) (p_s n_s : Nat) (f_s : Nat → Nat → Int32), frA f0_s f_s → GSI nh ni (kyI f0_s) (hkI f0_s) (hbF f_s) (akF f_s) → x2_s.toInt = (p_s : Int) → p_s < nh → (x1_s.toInt = 0 → ∀ q_s, q_s < p_s → dnF ni f_s q_s) → x4_s.toInt = (n_s : Int) → n_s ≤ ni → bsN (kyI f0_s p_s) (akF f_s p_s) (-1) n_s x3.toInt → wF F_s 198 (69, [some (.ref 102), some (.int x1_s), some (.int x2_s), some (.int x3), some (.int x4_s)], [], (h_s.1, f_s, h_s.2.2.1, h_s.2.2.2)) (gV V)
def A12 (nh ni nr : Nat) (h_s : zH) (V : zH → Prop) (f0_s : Nat → Nat → Int32) (F_s : Nat) : Prop := ∀ (x1_s x2_s x3 x4_s : Int32) (p_s : Nat) (f_s : Nat → Nat → Int32), frA f0_s f_s → GSI nh ni (kyI f0_s) (hkI f0_s) (hbF f_s) (akF f_s) → x2_s.toInt = (p_s : Int) → p_s < nh → (x1_s.toInt = 0 → ∀ q_s, q_s < p_s → dnF ni f_s q_s) → bsN (kyI f0_s p_s) (akF f_s p_s) (-1) ni x3.toInt → wF F_s 198 (120, [some (.ref 102), some (.int x1_s), some (.int x2_s), some (.int x3), some (.int x4_s)], [], (h_s.1, f_s, h_s.2.2.1, h_s.2.2.2)) (gV V)
section AS_s
variable {f0_s : Nat → Nat → Int32} {F_s : Nat}
theorem a48_s (hk : hKn h_s) (t_s : ∀ f1_s, frA f0_s f1_s → GSI nh ni (kyI f0_s) (hkI f0_s) (hbF f1_s) (akF f1_s) → (∀ p_s, p_s < nh → dnF ni f1_s p_s) → V (h_s.1, f1_s, h_s.2.2.1, h_s.2.2.2)) (ih_s : A56 nh ni nr h_s V f0_s F_s) : A48 nh ni nr h_s V f0_s (F_s + 1) := by
  intro x1_s l2 l3 l4 f_s hg G_s hd_s
  exact sg_198_48 (h_s := (h_s.1, f_s, h_s.2.2.1, h_s.2.2.2)) hk ⟨fun c_s => t_s f_s hg G_s (hd_s c_s), fun _ => ih_s 0 0 l3 l4 0 f_s hg G_s rfl (Nat.zero_le _) (fun _ q_s hq => absurd hq (Nat.not_lt_zero q_s))⟩
theorem a56_s (hk : hKn h_s) (hc_s : tM nh ni nr f0_s) (ih1 : A69 nh ni nr h_s V f0_s F_s) (ih2 : A48 nh ni nr h_s V f0_s F_s) : A56 nh ni nr h_s V f0_s (F_s + 1) := by
  intro x1_s x2_s l3 l4 p_s f_s hg G_s e2_s hp hd_s
  have c6_s := hc_s.2.1.1
  have e6_s : f_s 102 6 = f0_s 102 6 := hg 102 6 (by omega) (by omega)
  refine sg_198_56 (h_s := (h_s.1, f_s, h_s.2.2.1, h_s.2.2.2)) hk ?_
  dsimp only
  rw [e6_s, c6_s, e2_s]
  refine ⟨fun c_s => ih1 x1_s x2_s (-1) 0 p_s 0 f_s hg G_s e2_s (by omega) hd_s rfl (Nat.zero_le _) (Or.inl ⟨rfl, fun o ho => absurd ho (Nat.not_lt_zero o)⟩), fun c_s => ih2 x1_s (some (.int x2_s)) l3 l4 f_s hg G_s (fun w_s q_s hq => hd_s w_s q_s (by omega))⟩
theorem a69_s (hk : hKn h_s) (hc_s : tM nh ni nr f0_s) (ih1 : A69 nh ni nr h_s V f0_s F_s) (ih2 : A12 nh ni nr h_s V f0_s F_s) : A69 nh ni nr h_s V f0_s (F_s + 1) := by
  intro x1_s x2_s x3 x4_s p_s n_s f_s hg G_s e2_s hp hd_s e4_s hn hb_s
  have b_s := hc_s.1
  have c7_s := hc_s.2.1.2.1
  have e7_s : f_s 102 7 = f0_s 102 7 := hg 102 7 (by omega) (by omega)
  have z2 := azix (i := x2_s) (by omega)
  have ez2 : zix x2_s = p_s := by omega
  have hcf : tM nh ni nr f_s := tM_fr (fun k_s _ _ => hg _ _ (by omega) (by omega)) (fun k_s _ => hg _ _ (by omega) (by omega)) hc_s
  obtain ⟨ek, eh⟩ := ky_fr (f_s := f_s) (f0_s := f0_s) (fun k_s => hg 103 k_s (by omega) (by omega))
  have e5_s : (x4_s + 1).toInt = ((n_s + 1 : Nat) : Int) := by
    rw [in1_ (by omega), e4_s]
    omega
  refine sg_198_69 (h_s := (h_s.1, f_s, h_s.2.2.1, h_s.2.2.2)) hk ?_
  dsimp only
  rw [e7_s, c7_s, e4_s, ez2]
  refine ⟨fun c1_s _ => ⟨fun c3_s => ?_, fun c3_s => ?_⟩, fun c1_s => ?_⟩
  · have hno : akF f_s p_s n_s = true := (bt_tst (x_s := f_s 117 p_s) e4_s (by omega)).2.mp c3_s
    exact ih1 x1_s x2_s x3 (x4_s + 1) p_s (n_s + 1) f_s hg G_s e2_s hp hd_s e5_s (by omega) (bs_skip hb_s hno)
  · have hno : akF f_s p_s n_s = false := by
      cases e_s : akF f_s p_s n_s with
      | false => rfl
      | true => exact absurd ((bt_tst (x_s := f_s 117 p_s) e4_s (by omega)).2.mpr e_s) c3_s
    have tk : (∀ o : Nat, x3.toInt = (o : Int) → o < n_s → kyI f0_s p_s n_s < kyI f0_s p_s o) → wF F_s 198 (69, [some (.ref 102), some (.int x1_s), some (.int x2_s), some (.int x4_s), some (.int (x4_s + 1))], [], (h_s.1, f_s, h_s.2.2.1, h_s.2.2.2)) (gV V) := fun w_s => by
      refine ih1 x1_s x2_s x4_s (x4_s + 1) p_s (n_s + 1) f_s hg G_s e2_s hp hd_s e5_s (by omega) ?_
      rw [e4_s]
      exact bs_take (by omega) hb_s hno w_s
    refine ⟨fun c4_s => tk (fun o w_s _ => by omega), fun c4_s => ?_⟩
    obtain ⟨o, o1, o2⟩ : ∃ o : Nat, o < n_s ∧ x3.toInt = (o : Int) := by
      rcases hb_s with ⟨a1_s, _⟩ | ⟨o, a1_s, a2, _⟩
      · omega
      · exact ⟨o, a1_s, a2⟩
    refine sp_195 (p_s := p_s) (i_s := n_s) (o := o) hk hcf e2_s e4_s o2 hp (by omega) (by omega) (fun w_s _ => ⟨fun c_s => absurd c_s (by decide), fun _ => tk (fun o1 w1_s w2_s => ?_)⟩) (fun w_s _ => ⟨fun _ => ?_, fun c_s => absurd rfl c_s⟩)
    · have eo : o1 = o := by omega
      rw [ek] at w_s
      rw [eo]
      exact w_s
    · rw [ek] at w_s
      exact ih1 x1_s x2_s x3 (x4_s + 1) p_s (n_s + 1) f_s hg G_s e2_s hp hd_s e5_s (by omega) (bs_keep (fun w1_s => ky_inj (p_s := p_s) (f_s := f0_s) (by omega) o (by omega) w1_s) hb_s o2 (by omega) w_s)
  · have en : n_s = ni := by omega
    subst en
    exact ih2 x1_s x2_s x3 x4_s p_s f_s hg G_s e2_s hp hd_s hb_s
theorem a12_s (hk : hKn h_s) (hc_s : tM nh ni nr f0_s) (ih_s : A56 nh ni nr h_s V f0_s F_s) : A12 nh ni nr h_s V f0_s (F_s + 1) := by
  intro x1_s x2_s x3 x4_s p_s f_s hg G_s e2_s hp hd_s hb_s
  have b_s := hc_s.1
  have hcf : tM nh ni nr f_s := tM_fr (fun k_s _ _ => hg _ _ (by omega) (by omega)) (fun k_s _ => hg _ _ (by omega) (by omega)) hc_s
  obtain ⟨ek, eh⟩ := ky_fr (f_s := f_s) (f0_s := f0_s) (fun k_s => hg 103 k_s (by omega) (by omega))
  have z2 := azix (i := x2_s) (by omega)
  have ez2 : zix x2_s = p_s := by omega
  have e5_s : (x2_s + 1).toInt = ((p_s + 1 : Nat) : Int) := by
    rw [in1_ (by omega), e2_s]
    omega
  have nx : dnF ni f_s p_s → wF F_s 198 (56, [some (.ref 102), some (.int x1_s), some (.int (x2_s + 1)), some (.int x3), some (.int x4_s)], [], (h_s.1, f_s, h_s.2.2.1, h_s.2.2.2)) (gV V) := fun w_s => by
    refine ih_s x1_s (x2_s + 1) _ _ (p_s + 1) f_s hg G_s e5_s (by omega) (fun c_s q_s hq => ?_)
    by_cases e_s : q_s = p_s
    · rw [e_s]
      exact w_s
    · exact hd_s c_s q_s (by omega)
  refine sg_198_120 (h_s := (h_s.1, f_s, h_s.2.2.1, h_s.2.2.2)) hk ?_
  refine sp_197 hk hcf e2_s (fun v_s hv _ => ?_)
  rcases hv with ⟨v1_s, v2⟩ | ⟨i_s, i1_s, i2_s, i3_s⟩
  · refine ⟨fun _ => ⟨fun c3_s => ?_, fun c3_s => fun _ _ => ?_⟩, fun c_s => absurd (show v_s.toInt < 0 by omega) c_s⟩
    · rcases hb_s with ⟨_, a2⟩ | ⟨o, _, a2, _⟩
      · exact nx (Or.inr a2)
      · omega
    · rcases hb_s with ⟨a1_s, _⟩ | ⟨bb, a1_s, a2, a3, a4⟩
      · omega
      · have z3 := azix (i := x3) (by omega)
        have ez3 : zix x3 = bb := by omega
        dsimp only
        rw [ez2, ez3]
        have g1 := G_s.1 bb a1_s
        have am : ∀ (f1_s : Nat → Nat → Int32), f1_s 117 p_s = (f_s 117 p_s ||| (1 <<< (x3 &&& 31))) → (∀ q_s, ¬ q_s = p_s → f1_s 117 q_s = f_s 117 q_s) → akF f1_s p_s bb = true ∧ ∀ q_s i_s, i_s < 32 → ¬ (q_s = p_s ∧ i_s = bb) → akF f1_s q_s i_s = akF f_s q_s i_s := fun f1_s w1_s w2_s => by
          refine ⟨?_, fun q_s i_s hi_s hne => ?_⟩
          · unfold akF
            rw [w1_s, bt_or, bt_shl a2 (by omega) (by omega), decide_eq_true rfl, Bool.or_true]
          · unfold akF
            by_cases e_s : q_s = p_s
            · subst e_s
              rw [w1_s, bt_or, bt_shl a2 (by omega) hi_s, decide_eq_false (fun u_s => hne ⟨rfl, u_s⟩), Bool.or_false]
            · rw [w2_s q_s e_s]
        have cut_s : ∀ f1_s, akF f1_s p_s bb = true ∧ (∀ q_s i_s, i_s < 32 → ¬ (q_s = p_s ∧ i_s = bb) → akF f1_s q_s i_s = akF f_s q_s i_s) → ∃ ak1 : Nat → Nat → Bool, ak1 p_s bb = true ∧ (∀ q_s i_s, ¬ (q_s = p_s ∧ i_s = bb) → ak1 q_s i_s = akF f_s q_s i_s) ∧ ∀ q_s i_s, i_s < 32 → ak1 q_s i_s = akF f1_s q_s i_s := fun f1_s w_s => by
          refine ⟨fun q_s i_s => if q_s = p_s ∧ i_s = bb then true else akF f_s q_s i_s, if_pos ⟨rfl, rfl⟩, fun q_s i_s hne => if_neg hne, fun q_s i_s hi_s => ?_⟩
          by_cases e_s : q_s = p_s ∧ i_s = bb
          · show (if q_s = p_s ∧ i_s = bb then true else akF f_s q_s i_s) = akF f1_s q_s i_s
            rw [if_pos e_s, e_s.1, e_s.2, w_s.1]
          · show (if q_s = p_s ∧ i_s = bb then true else akF f_s q_s i_s) = akF f1_s q_s i_s
            rw [if_neg e_s, w_s.2 q_s i_s hi_s e_s]
        have swap_s : ∀ (f1_s : Nat → Nat → Int32) (ak1 : Nat → Nat → Bool), (∀ q_s i_s, i_s < 32 → ak1 q_s i_s = akF f1_s q_s i_s) → GSI nh ni (kyI f0_s) (hkI f0_s) (hbF f1_s) ak1 → GSI nh ni (kyI f0_s) (hkI f0_s) (hbF f1_s) (akF f1_s) := fun f1_s ak1 w_s G1_s => by
          obtain ⟨q1_s, q2_s, q3_s, q4_s, q5_s⟩ := G1_s
          refine ⟨q1_s, fun i_s q_s hi_s hq w1_s => ?_, fun i_s q_s hi_s hq w1_s => ?_, fun i_s o q_s hi_s ho hq w1_s w2_s => ?_, q5_s⟩
          · rw [← w_s q_s i_s (by omega)]
            exact q2_s i_s q_s hi_s hq w1_s
          · rw [← w_s q_s i_s (by omega)] at w1_s
            exact q3_s i_s q_s hi_s hq w1_s
          · rw [← w_s q_s i_s (by omega)] at w1_s
            rw [← w_s q_s o (by omega)] at w2_s
            exact q4_s i_s o q_s hi_s ho hq w1_s w2_s
        have go_s : ∀ (f1_s : Nat → Nat → Int32), frA f0_s f1_s → GSI nh ni (kyI f0_s) (hkI f0_s) (hbF f1_s) (akF f1_s) → wF F_s 198 (56, [some (.ref 102), some (.int 1), some (.int (x2_s + 1)), some (.int x3), some (.int x4_s)], [], (h_s.1, f1_s, h_s.2.2.1, h_s.2.2.2)) (gV V) := fun f1_s w1_s w2_s => ih_s 1 (x2_s + 1) _ _ (p_s + 1) f1_s w1_s w2_s e5_s (by omega) (fun c_s => absurd c_s (by decide))
        have hm_s : ∀ o, o < ni → akF f_s p_s o = false → o = bb ∨ kyI f0_s p_s bb < kyI f0_s p_s o := fun o ho w_s => a4 o ho w_s
        have take_s : (hbF f_s bb = -1 ∨ ∃ q_s : Nat, q_s < nh ∧ hbF f_s bb = (q_s : Int) ∧ hkI f0_s p_s < hkI f0_s q_s) → wF F_s 198 (56, [some (.ref 102), some (.int 1), some (.int (x2_s + 1)), some (.int x3), some (.int x4_s)], [], (h_s.1, zup (zup f_s 117 p_s (f_s 117 p_s ||| (1 <<< (x3 &&& 31)))) 116 bb x2_s, h_s.2.2.1, h_s.2.2.2)) (gV V) := fun w_s => by
          obtain ⟨ak1, u1_s, u2_s, u3⟩ := cut_s (zup (zup f_s 117 p_s (f_s 117 p_s ||| (1 <<< (x3 &&& 31)))) 116 bb x2_s) (am _ (by rw [zne_up (by omega), zsame_up]) (fun q_s hq => by rw [zne_up (by omega), zne_up (by omega)]))
          refine go_s _ (fun a_s k_s q1_s q2_s => by rw [zne_up (by omega), zne_up (by omega)]; exact hg a_s k_s q1_s q2_s) (swap_s _ ak1 u3 (GS_take G_s hp v2 a1_s hm_s w_s ?_ (fun i_s hi_s => ?_) u1_s u2_s))
          · show (zup (zup f_s 117 p_s _) 116 bb x2_s 116 bb).toInt = (p_s : Int)
            rw [zsame_up]
            exact e2_s
          · show (zup (zup f_s 117 p_s _) 116 bb x2_s 116 i_s).toInt = (f_s 116 i_s).toInt
            rw [zne_up (by omega), zne_up (by omega)]
        refine ⟨fun c5_s => take_s (Or.inl ?_), fun c5_s => ?_⟩
        · rcases g1 with g1 | ⟨q_s, q1_s, q2_s⟩
          · exact g1
          · have q2_s : (f_s 116 bb).toInt = (q_s : Int) := q2_s
            omega
        · rcases g1 with g1 | ⟨q_s, q1_s, q2_s⟩
          · have g1 : (f_s 116 bb).toInt = -1 := g1
            omega
          · have q2' : (f_s 116 bb).toInt = (q_s : Int) := q2_s
            have hc2 : tM nh ni nr (zup f_s 117 p_s (f_s 117 p_s ||| (1 <<< (x3 &&& 31)))) := tM_fr (fun k_s _ _ => zne_up (by omega)) (fun k_s _ => zne_up (by omega)) hcf
            have eh2 : hkI (zup f_s 117 p_s (f_s 117 p_s ||| (1 <<< (x3 &&& 31)))) = hkI f_s := (ky_fr (fun k_s => zne_up (by omega))).2
            refine sp_196 (h_s := (h_s.1, zup f_s 117 p_s (f_s 117 p_s ||| (1 <<< (x3 &&& 31))), h_s.2.2.1, h_s.2.2.2)) (p_s := p_s) (q_s := q_s) hk hc2 e2_s q2' hp q1_s (fun w_s _ => ⟨fun c_s => absurd c_s (by decide), fun _ => take_s (Or.inr ⟨q_s, q1_s, q2_s, ?_⟩)⟩) (fun w_s _ => ⟨fun _ => ?_, fun c_s => absurd rfl c_s⟩)
            · rw [eh2, eh] at w_s
              exact w_s
            · rw [eh2, eh] at w_s
              obtain ⟨ak1, u1_s, u2_s, u3⟩ := cut_s (zup (zup f_s 117 p_s (f_s 117 p_s ||| (1 <<< (x3 &&& 31)))) 116 bb (f_s 116 bb)) (am _ (by rw [zne_up (by omega), zsame_up]) (fun q_s hq => by rw [zne_up (by omega), zne_up (by omega)]))
              have eb : ∀ i_s, hbF (zup (zup f_s 117 p_s (f_s 117 p_s ||| (1 <<< (x3 &&& 31)))) 116 bb (f_s 116 bb)) i_s = hbF f_s i_s := fun i_s => by
                unfold hbF
                by_cases e_s : i_s = bb
                · rw [e_s, zsame_up]
                · rw [zne_up (by omega), zne_up (by omega)]
              have eb2 : hbF (zup (zup f_s 117 p_s (f_s 117 p_s ||| (1 <<< (x3 &&& 31)))) 116 bb (f_s 116 bb)) = hbF f_s := funext eb
              have ez : zup f_s 117 p_s (f_s 117 p_s ||| (1 <<< (x3 &&& 31))) 116 bb = f_s 116 bb := zne_up (by omega)
              dsimp only
              rw [ez]
              refine go_s _ (fun a_s k_s q1_s q2_s => by rw [zne_up (by omega), zne_up (by omega)]; exact hg a_s k_s q1_s q2_s) (swap_s _ ak1 u3 ?_)
              rw [eb2]
              exact GS_leave G_s hp a1_s hm_s ⟨q_s, q1_s, q2_s, by omega⟩ u1_s u2_s
  · exact ⟨fun c_s => absurd c_s (by omega), fun _ => nx (Or.inl ⟨i_s, i1_s, i3_s⟩)⟩
theorem a_all (hk : hKn h_s) (hc_s : tM nh ni nr f0_s) (t_s : ∀ f1_s, frA f0_s f1_s → GSI nh ni (kyI f0_s) (hkI f0_s) (hbF f1_s) (akF f1_s) → (∀ p_s, p_s < nh → dnF ni f1_s p_s) → V (h_s.1, f1_s, h_s.2.2.1, h_s.2.2.2)) : ∀ F_s, A48 nh ni nr h_s V f0_s F_s ∧ A56 nh ni nr h_s V f0_s F_s ∧ A69 nh ni nr h_s V f0_s F_s ∧ A12 nh ni nr h_s V f0_s F_s
  | 0 => by
    refine ⟨?_, ?_, ?_, ?_⟩
    · intro _ _ _ _ _ _ _ _
      exact wF_zero
    · intro _ _ _ _ _ _ _ _ _ _ _
      exact wF_zero
    · intro _ _ _ _ _ _ _ _ _ _ _ _ _ _ _
      exact wF_zero
    · intro _ _ _ _ _ _ _ _ _ _ _ _
      exact wF_zero
  | F_s + 1 => by
    obtain ⟨i1_s, i2_s, i3_s, i4_s⟩ := a_all hk hc_s t_s F_s
    exact ⟨a48_s hk t_s i2_s, a56_s hk hc_s i3_s i1_s, a69_s hk hc_s i3_s i4_s, a12_s hk hc_s i2_s⟩
end AS_s
theorem st198b {l2 l3 l4 : Option Value} {f0_s : Nat → Nat → Int32} (hk : hKn h_s) (c6_s : (f0_s 102 6).toInt = (nh : Int)) (b6 : nh ≤ 6) (t_s : ∀ (F_s : Nat) (f1_s : Nat → Nat → Int32), (∀ p_s, p_s < nh → f1_s 117 p_s = 0) → (∀ a_s k_s, ¬ (a_s = 117 ∧ k_s < nh) → f1_s a_s k_s = f0_s a_s k_s) → wF F_s 198 (48, [some (.ref 102), some (.int 1), l2, l3, l4], [], (h_s.1, f1_s, h_s.2.2.1, h_s.2.2.2)) (gV V)) : ∀ (F_s n_s : Nat) (x1_s : Int32) (f_s : Nat → Nat → Int32), x1_s.toInt = (n_s : Int) → n_s ≤ nh → (∀ p_s, p_s < n_s → f_s 117 p_s = 0) → (∀ a_s k_s, ¬ (a_s = 117 ∧ k_s < nh) → f_s a_s k_s = f0_s a_s k_s) → wF F_s 198 (25, [some (.ref 102), some (.int x1_s), l2, l3, l4], [], (h_s.1, f_s, h_s.2.2.1, h_s.2.2.2)) (gV V)
  | 0, _, _, _, _, _, _, _ => wF_zero
  | F_s + 1, n_s, x1_s, f_s, e1_s, hn, hf, hg => by
    have z_s := azix (i := x1_s) (by omega)
    have ez : zix x1_s = n_s := by omega
    have e6_s : f_s 102 6 = f0_s 102 6 := hg 102 6 (by omega)
    refine sg_198_25 (h_s := (h_s.1, f_s, h_s.2.2.1, h_s.2.2.2)) hk ?_
    dsimp only
    rw [ez, e6_s, c6_s, e1_s]
    refine ⟨fun c1_s _ => ?_, fun c1_s => ?_⟩
    · refine st198b (f0_s := f0_s) hk c6_s b6 t_s F_s (n_s + 1) (x1_s + 1) _ (by rw [in1_ (by omega)]; omega) (by omega) (fun k_s hk1 => ?_) (fun a_s k_s q_s => ?_)
      · by_cases e_s : k_s = n_s
        · rw [e_s, zsame_up]
        · rw [zne_up (by omega)]
          exact hf k_s (by omega)
      · rw [zne_up (by omega)]
        exact hg a_s k_s q_s
    · have en : n_s = nh := by omega
      subst en
      exact t_s F_s f_s hf hg
theorem st198a {l2 l3 l4 : Option Value} {f0_s : Nat → Nat → Int32} (hk : hKn h_s) (c7_s : (f0_s 102 7).toInt = (ni : Int)) (b8 : ni ≤ 8) (t_s : ∀ (F_s : Nat) (f1_s : Nat → Nat → Int32), (∀ i_s, i_s < ni → f1_s 116 i_s = -1) → (∀ a_s k_s, ¬ (a_s = 116 ∧ k_s < ni) → f1_s a_s k_s = f0_s a_s k_s) → wF F_s 198 (25, [some (.ref 102), some (.int 0), l2, l3, l4], [], (h_s.1, f1_s, h_s.2.2.1, h_s.2.2.2)) (gV V)) : ∀ (F_s n_s : Nat) (x1_s : Int32) (f_s : Nat → Nat → Int32), x1_s.toInt = (n_s : Int) → n_s ≤ ni → (∀ i_s, i_s < n_s → f_s 116 i_s = -1) → (∀ a_s k_s, ¬ (a_s = 116 ∧ k_s < ni) → f_s a_s k_s = f0_s a_s k_s) → wF F_s 198 (2, [some (.ref 102), some (.int x1_s), l2, l3, l4], [], (h_s.1, f_s, h_s.2.2.1, h_s.2.2.2)) (gV V)
  | 0, _, _, _, _, _, _, _ => wF_zero
  | F_s + 1, n_s, x1_s, f_s, e1_s, hn, hf, hg => by
    have z_s := azix (i := x1_s) (by omega)
    have ez : zix x1_s = n_s := by omega
    have e7_s : f_s 102 7 = f0_s 102 7 := hg 102 7 (by omega)
    refine sg_198_2 (h_s := (h_s.1, f_s, h_s.2.2.1, h_s.2.2.2)) hk ?_
    dsimp only
    rw [ez, e7_s, c7_s, e1_s]
    refine ⟨fun c1_s _ => ?_, fun c1_s => ?_⟩
    · refine st198a (f0_s := f0_s) hk c7_s b8 t_s F_s (n_s + 1) (x1_s + 1) _ (by rw [in1_ (by omega)]; omega) (by omega) (fun k_s hk1 => ?_) (fun a_s k_s q_s => ?_)
      · by_cases e_s : k_s = n_s
        · rw [e_s, zsame_up]
        · rw [zne_up (by omega)]
          exact hf k_s (by omega)
      · rw [zne_up (by omega)]
        exact hg a_s k_s q_s
    · have en : n_s = ni := by omega
      subst en
      exact t_s F_s f_s hf hg
theorem sp_198 {F_s : Nat} {f0_s : Nat → Nat → Int32} (hk : hKn h_s) (hc_s : tM nh ni nr f0_s) (t_s : ∀ f1_s, frA f0_s f1_s → GSI nh ni (kyI f0_s) (hkI f0_s) (hbF f1_s) (akF f1_s) → (∀ p_s, p_s < nh → dnF ni f1_s p_s) → V (h_s.1, f1_s, h_s.2.2.1, h_s.2.2.2)) : wF F_s 198 (0, [some (.ref 102), none, none, none, none], [], (h_s.1, f0_s, h_s.2.2.1, h_s.2.2.2)) (gV V) := by
  have b_s := hc_s.1
  refine wF_le (Nat.le_succ F_s) (sg_198_0 (h_s := (h_s.1, f0_s, h_s.2.2.1, h_s.2.2.2)) hk ?_)
  refine st198a (f0_s := f0_s) hk hc_s.2.1.2.1 b_s.2.1 (fun F1_s f1_s g1 g2 => ?_) F_s 0 0 f0_s rfl (Nat.zero_le _) (fun i_s hi_s => absurd hi_s (Nat.not_lt_zero i_s)) (fun _ _ _ => rfl)
  refine st198b (f0_s := f1_s) hk (by rw [g2 102 6 (by omega)]; exact hc_s.2.1.1) b_s.1 (fun F2 f2_s g3_s g4 => ?_) F1_s 0 0 f1_s rfl (Nat.zero_le _) (fun i_s hi_s => absurd hi_s (Nat.not_lt_zero i_s)) (fun _ _ _ => rfl)
  refine (a_all (f0_s := f0_s) hk hc_s t_s F2).1 1 none none none f2_s (fun a_s k_s q1_s q2_s => ?_) (GS_start (fun i_s hi_s => ?_) (fun p_s i_s hp hi_s => ?_)) (fun c_s => absurd c_s (by decide))
  · rw [g4 a_s k_s (by omega), g2 a_s k_s (by omega)]
  · show (f2_s 116 i_s).toInt = -1
    rw [g4 116 i_s (by omega), g1 i_s hi_s]
    rfl
  · show btv (f2_s 117 p_s) i_s = false
    rw [g3_s p_s hp, bt_0]
end RA_s
/-! DEAL: class and reference deal the same heads to the same ideas, and count the same. -/
def cnI (hb_s : Nat → Int) (n_s : Int) : Nat → Int
  | 0 => 0
  | m_s + 1 => cnI hb_s n_s m_s + (if 0 ≤ hb_s m_s ∧ hb_s m_s < n_s then 1 else 0)
theorem cnI_le (hb_s : Nat → Int) (n_s : Int) : ∀ m_s : Nat, 0 ≤ cnI hb_s n_s m_s ∧ cnI hb_s n_s m_s ≤ (m_s : Int)
  | 0 => by
    show 0 ≤ (0 : Int) ∧ (0 : Int) ≤ ((0 : Nat) : Int)
    omega
  | m_s + 1 => by
    have ih_s := cnI_le hb_s n_s m_s
    show 0 ≤ cnI hb_s n_s m_s + (if 0 ≤ hb_s m_s ∧ hb_s m_s < n_s then 1 else 0) ∧ cnI hb_s n_s m_s + (if 0 ≤ hb_s m_s ∧ hb_s m_s < n_s then 1 else 0) ≤ ((m_s + 1 : Nat) : Int)
    split <;> omega
theorem cnI_0 (hb_s : Nat → Int) : ∀ m_s : Nat, cnI hb_s 0 m_s = 0
  | 0 => rfl
  | m_s + 1 => by
    show cnI hb_s 0 m_s + (if 0 ≤ hb_s m_s ∧ hb_s m_s < 0 then 1 else 0) = 0
    rw [cnI_0 hb_s m_s, if_neg (by omega)]
    rfl
theorem cnI_no {hb_s : Nat → Int} {n_s : Nat} : ∀ m_s : Nat, (∀ i_s, i_s < m_s → ¬ hb_s i_s = (n_s : Int)) → cnI hb_s ((n_s + 1 : Nat) : Int) m_s = cnI hb_s (n_s : Int) m_s
  | 0, _ => rfl
  | m_s + 1, h_s => by
    have ih_s := cnI_no (hb_s := hb_s) (n_s := n_s) m_s (fun i_s hi_s => h_s i_s (by omega))
    have hm_s := h_s m_s (by omega)
    show cnI hb_s ((n_s + 1 : Nat) : Int) m_s + (if 0 ≤ hb_s m_s ∧ hb_s m_s < ((n_s + 1 : Nat) : Int) then 1 else 0) = cnI hb_s (n_s : Int) m_s + (if 0 ≤ hb_s m_s ∧ hb_s m_s < (n_s : Int) then 1 else 0)
    rw [ih_s]
    by_cases e_s : 0 ≤ hb_s m_s ∧ hb_s m_s < (n_s : Int)
    · rw [if_pos e_s, if_pos (by omega)]
    · rw [if_neg e_s, if_neg (by omega)]
theorem cnI_one {hb_s : Nat → Int} {n_s i0_s : Nat} (e0_s : hb_s i0_s = (n_s : Int)) : ∀ m_s : Nat, i0_s < m_s → (∀ i_s, i_s < m_s → hb_s i_s = (n_s : Int) → i_s = i0_s) → cnI hb_s ((n_s + 1 : Nat) : Int) m_s = cnI hb_s (n_s : Int) m_s + 1
  | 0, h_s, _ => absurd h_s (Nat.not_lt_zero _)
  | m_s + 1, h_s, hu => by
    show cnI hb_s ((n_s + 1 : Nat) : Int) m_s + (if 0 ≤ hb_s m_s ∧ hb_s m_s < ((n_s + 1 : Nat) : Int) then 1 else 0) = cnI hb_s (n_s : Int) m_s + (if 0 ≤ hb_s m_s ∧ hb_s m_s < (n_s : Int) then 1 else 0) + 1
    by_cases e_s : i0_s = m_s
    · rw [cnI_no m_s (fun i_s hi_s w_s => absurd (hu i_s (by omega) w_s) (by omega)), ← e_s, e0_s, if_pos (by omega), if_neg (by omega)]
      omega
    · have hm_s : ¬ hb_s m_s = (n_s : Int) := fun w_s => e_s (hu m_s (by omega) w_s).symm
      rw [cnI_one e0_s m_s (by omega) (fun i_s hi_s w_s => hu i_s (by omega) w_s)]
      by_cases e_s : 0 ≤ hb_s m_s ∧ hb_s m_s < (n_s : Int)
      · rw [if_pos e_s, if_pos (show 0 ≤ hb_s m_s ∧ hb_s m_s < ((n_s + 1 : Nat) : Int) by omega)]
        first | done | omega
      · rw [if_neg e_s, if_neg (show ¬ (0 ≤ hb_s m_s ∧ hb_s m_s < ((n_s + 1 : Nat) : Int)) by omega)]
        first | done | omega
theorem cnI_all {hb_s : Nat → Int} {nh : Nat} {hc_s : Nat → Int} : ∀ m_s : Nat, (∀ i_s, i_s < m_s → hb_s i_s = -1 ∨ ∃ p_s : Nat, p_s < nh ∧ hb_s i_s = (p_s : Int)) → (∀ i_s, i_s < m_s → hc_s i_s = hb_s i_s) → cnI hc_s (nh : Int) m_s = cnI hb_s (nh : Int) m_s
  | 0, _, _ => rfl
  | m_s + 1, h_s, e_s => by
    show cnI hc_s (nh : Int) m_s + (if 0 ≤ hc_s m_s ∧ hc_s m_s < (nh : Int) then 1 else 0) = cnI hb_s (nh : Int) m_s + (if 0 ≤ hb_s m_s ∧ hb_s m_s < (nh : Int) then 1 else 0)
    rw [e_s m_s (by omega), cnI_all m_s (fun i_s hi_s => h_s i_s (by omega)) (fun i_s hi_s => e_s i_s (by omega))]
def tieD (nh ni : Nat) (hb_s hd_s : Nat → Int) : Prop := (∀ i_s, i_s < ni → hb_s i_s = -1 ∨ ∃ p_s : Nat, p_s < nh ∧ hb_s i_s = (p_s : Int)) ∧ ∀ p_s, p_s < nh → ∀ i_s, i_s < ni → (hd_s p_s = (i_s : Int) ↔ hb_s i_s = (p_s : Int))
def hdF (f_s : Nat → Nat → Int32) (p_s : Nat) : Int := (f_s 12 p_s).toInt
/-- the class's second loop: heads given so far -/
def dlN (nh ni : Nat) (f1_s f_s : Nat → Nat → Int32) (x1_s : Int32) (n_s : Nat) : Prop := ∀ hb_s : Nat → Int, tieD nh ni hb_s (hdF f1_s) → (∀ i_s, i_s < ni → (f_s (20 + i_s) 6).toInt = (if hb_s i_s < (n_s : Int) then hb_s i_s else -1)) ∧ x1_s.toInt = cnI hb_s (n_s : Int) ni
section DE
variable {h_s : zH} {K_s : Int32 → zH → Prop} {nh ni nr : Nat}
theorem dl43 {f1_s : Nat → Nat → Int32} (hk : hKn h_s) (b_s : nh ≤ 6 ∧ ni ≤ 8) (c6_s : (f1_s 7 6).toInt = (nh : Int)) (c7_s : (f1_s 7 7).toInt = (ni : Int)) (S_s : ∀ p_s, p_s < nh → hdF f1_s p_s = -2 ∨ ∃ i_s : Nat, i_s < ni ∧ hdF f1_s p_s = (i_s : Int)) (t_s : ∀ v_s f2_s, dlN nh ni f1_s f2_s v_s nh → (∀ a_s k_s, ¬ (20 ≤ a_s ∧ a_s < 20 + ni ∧ k_s = 6) → f2_s a_s k_s = f1_s a_s k_s) → K_s v_s (h_s.1, f2_s, h_s.2.2.1, h_s.2.2.2)) : ∀ (F_s n_s : Nat) (x1_s x2_s : Int32) (f_s : Nat → Nat → Int32), x2_s.toInt = (n_s : Int) → n_s ≤ nh → dlN nh ni f1_s f_s x1_s n_s → (∀ a_s k_s, ¬ (20 ≤ a_s ∧ a_s < 20 + ni ∧ k_s = 6) → f_s a_s k_s = f1_s a_s k_s) → wF F_s 119 (43, [some (.ref 6), some (.int x1_s), some (.int x2_s)], [], (h_s.1, f_s, h_s.2.2.1, h_s.2.2.2)) (gI K_s)
  | 0, _, _, _, _, _, _, _, _ => wF_zero
  | F_s + 1, n_s, x1_s, x2_s, f_s, e2_s, hn, D_s, hg => by
    have z_s := azix (i := x2_s) (by omega)
    have ez : zix x2_s = n_s := by omega
    have e76 : f_s 7 6 = f1_s 7 6 := hg 7 6 (by omega)
    have e77 : f_s 7 7 = f1_s 7 7 := hg 7 7 (by omega)
    have e12_s : f_s 12 n_s = f1_s 12 n_s := hg 12 n_s (by omega)
    refine sg_119_43 (h_s := (h_s.1, f_s, h_s.2.2.1, h_s.2.2.2)) hk ?_
    dsimp only
    rw [ez, e76, e77, c6_s, c7_s, e2_s, e12_s]
    refine ⟨fun c1_s => fun _ => ?_, fun c1_s => ?_⟩
    · have hn1 : n_s < nh := by omega
      have e5_s : (x2_s + 1).toInt = ((n_s + 1 : Nat) : Int) := by
        rw [in1_ (by omega), e2_s]
        omega
      rcases S_s n_s hn1 with s_s | ⟨i0_s, s1_s, s2_s⟩
      · have s_s : (f1_s 12 n_s).toInt = -2 := s_s
        refine ⟨fun _ => ?_, fun c3_s => absurd (show (f1_s 12 n_s).toInt < 0 by omega) c3_s⟩
        refine dl43 hk b_s c6_s c7_s S_s t_s F_s (n_s + 1) x1_s (x2_s + 1) f_s e5_s (by omega) (fun hb_s T => ?_) hg
        obtain ⟨d1_s, d2_s⟩ := D_s hb_s T
        have no_s : ∀ i_s, i_s < ni → ¬ hb_s i_s = (n_s : Int) := fun i_s hi_s w_s => by
          have u_s : (f1_s 12 n_s).toInt = (i_s : Int) := (T.2 n_s hn1 i_s hi_s).mpr w_s
          omega
        refine ⟨fun i_s hi_s => ?_, ?_⟩
        · rw [d1_s i_s hi_s]
          have u_s := no_s i_s hi_s
          by_cases e_s : hb_s i_s < (n_s : Int)
          · rw [if_pos e_s, if_pos (by omega)]
          · rw [if_neg e_s, if_neg (by omega)]
        · rw [d2_s, cnI_no ni no_s]
      · have s2_s : (f1_s 12 n_s).toInt = (i0_s : Int) := s2_s
        have z2 := azix (i := f1_s 12 n_s) (by omega)
        have ez2 : zix (f1_s 12 n_s) = i0_s := by omega
        refine ⟨fun c3_s => absurd c3_s (by omega), fun _ => ⟨fun _ _ => ?_, fun c4_s => absurd (show (f1_s 12 n_s).toInt < (ni : Int) by omega) c4_s⟩⟩
        rw [ez2]
        have cx : ∀ hb_s, tieD nh ni hb_s (hdF f1_s) → (x1_s + 1).toInt = cnI hb_s (n_s : Int) ni + 1 := fun hb_s T => by
          have d2_s := (D_s hb_s T).2
          have u_s := cnI_le hb_s (n_s : Int) ni
          rw [in1_ (by omega), d2_s]
        refine dl43 hk b_s c6_s c7_s S_s t_s F_s (n_s + 1) (x1_s + 1) (x2_s + 1) _ e5_s (by omega) (fun hb_s T => ?_) (fun a_s k_s q_s => ?_)
        · obtain ⟨d1_s, d2_s⟩ := D_s hb_s T
          have u0 : hb_s i0_s = (n_s : Int) := (T.2 n_s hn1 i0_s s1_s).mp s2_s
          have un : ∀ i_s, i_s < ni → hb_s i_s = (n_s : Int) → i_s = i0_s := fun i_s hi_s w_s => by
            have u_s : (f1_s 12 n_s).toInt = (i_s : Int) := (T.2 n_s hn1 i_s hi_s).mpr w_s
            omega
          refine ⟨fun i_s hi_s => ?_, ?_⟩
          · by_cases e_s : i_s = i0_s
            · rw [e_s, zsame_up, e2_s, u0, if_pos (by omega)]
            · rw [zne_up (by omega), d1_s i_s hi_s]
              have u_s := un i_s hi_s
              by_cases e3_s : hb_s i_s < (n_s : Int)
              · rw [if_pos e3_s, if_pos (by omega)]
              · rw [if_neg e3_s, if_neg (fun w_s => e_s (u_s (by omega)))]
          · rw [cx hb_s T, cnI_one u0 ni s1_s un]
        · rw [zne_up (by omega)]
          exact hg a_s k_s q_s
    · have en : n_s = nh := by omega
      subst en
      exact t_s x1_s f_s D_s hg
theorem dl9 {f1_s : Nat → Nat → Int32} {l2 : Option Value} (hk : hKn h_s) (b_s : nh ≤ 6 ∧ ni ≤ 8) (c6_s : (f1_s 7 6).toInt = (nh : Int)) (c7_s : (f1_s 7 7).toInt = (ni : Int)) (S_s : ∀ p_s, p_s < nh → hdF f1_s p_s = -2 ∨ ∃ i_s : Nat, i_s < ni ∧ hdF f1_s p_s = (i_s : Int)) (t_s : ∀ v_s f2_s, dlN nh ni f1_s f2_s v_s nh → (∀ a_s k_s, ¬ (20 ≤ a_s ∧ a_s < 20 + ni ∧ k_s = 6) → f2_s a_s k_s = f1_s a_s k_s) → K_s v_s (h_s.1, f2_s, h_s.2.2.1, h_s.2.2.2)) : ∀ (F_s n_s : Nat) (x1_s : Int32) (f_s : Nat → Nat → Int32), x1_s.toInt = (n_s : Int) → n_s ≤ ni → (∀ i_s, i_s < n_s → f_s (20 + i_s) 6 = -1) → (∀ a_s k_s, ¬ (20 ≤ a_s ∧ a_s < 20 + ni ∧ k_s = 6) → f_s a_s k_s = f1_s a_s k_s) → wF F_s 119 (9, [some (.ref 6), some (.int x1_s), l2], [], (h_s.1, f_s, h_s.2.2.1, h_s.2.2.2)) (gI K_s)
  | 0, _, _, _, _, _, _, _ => wF_zero
  | F_s + 1, n_s, x1_s, f_s, e1_s, hn, hf, hg => by
    have z_s := azix (i := x1_s) (by omega)
    have ez : zix x1_s = n_s := by omega
    have e77 : f_s 7 7 = f1_s 7 7 := hg 7 7 (by omega)
    refine sg_119_9 (h_s := (h_s.1, f_s, h_s.2.2.1, h_s.2.2.2)) hk ?_
    dsimp only
    rw [ez, e77, c7_s, e1_s]
    refine ⟨fun c1_s => fun _ => ?_, fun c1_s => ?_⟩
    · refine dl9 hk b_s c6_s c7_s S_s t_s F_s (n_s + 1) (x1_s + 1) _ (by rw [in1_ (by omega)]; omega) (by omega) (fun i_s hi_s => ?_) (fun a_s k_s q_s => ?_)
      · by_cases e_s : i_s = n_s
        · rw [e_s, zsame_up]
        · rw [zne_up (by omega)]
          exact hf i_s (by omega)
      · rw [zne_up (by omega)]
        exact hg a_s k_s q_s
    · have en : n_s = ni := by omega
      subst en
      refine dl43 hk b_s c6_s c7_s S_s t_s F_s 0 0 0 f_s rfl (Nat.zero_le _) (fun hb_s T => ⟨fun i_s hi_s => ?_, ?_⟩) hg
      · rw [hf i_s hi_s]
        rcases T.1 i_s hi_s with u_s | ⟨p_s, _, u_s⟩
        · rw [u_s]
          rfl
        · rw [u_s, if_neg (by omega)]
          rfl
      · show (0 : Int) = cnI hb_s 0 n_s
        rw [cnI_0]
theorem sp_119 {F_s : Nat} {f0_s : Nat → Nat → Int32} (hk : hKn h_s) (hc_s : tC nh ni nr f0_s) (t_s : ∀ v_s f2_s, (∀ q_s, q_s < nh → SDp nh ni (kyI f0_s) (hkI f0_s) (hdF f2_s) q_s) → (∀ hb_s, tieD nh ni hb_s (hdF f2_s) → (∀ i_s, i_s < ni → (f2_s (20 + i_s) 6).toInt = hb_s i_s) ∧ v_s.toInt = cnI hb_s (nh : Int) ni) → (∀ a_s k_s, ¬ (20 ≤ a_s ∧ a_s < 20 + ni ∧ k_s = 6) → ¬ (a_s = 12 ∧ k_s < 6) → f2_s a_s k_s = f0_s a_s k_s) → K_s v_s (h_s.1, f2_s, h_s.2.2.1, h_s.2.2.2)) : wF F_s 119 (0, [some (.ref 6), none, none], [], (h_s.1, f0_s, h_s.2.2.1, h_s.2.2.2)) (gI K_s) := by
  have b_s := hc_s.1
  refine wF_le (Nat.le_succ F_s) (sg_119_0 (h_s := (h_s.1, f0_s, h_s.2.2.1, h_s.2.2.2)) hk ?_)
  refine sp_25 hk hc_s (fun f1_s S_s g1 hk1 => ?_)
  refine dl9 (h_s := (h_s.1, f1_s, h_s.2.2.1, h_s.2.2.2)) (f1_s := f1_s) hk1 ⟨b_s.1, b_s.2.1⟩ (by rw [g1 7 6 (by omega)]; exact hc_s.2.1.1) (by rw [g1 7 7 (by omega)]; exact hc_s.2.1.2.1) (fun p_s hp => ?_) (fun v_s f2_s D_s g2 => ?_) F_s 0 0 f1_s rfl (Nat.zero_le _) (fun i_s hi_s => absurd hi_s (Nat.not_lt_zero i_s)) (fun _ _ _ => rfl)
  · rcases S_s p_s hp with u_s | ⟨i_s, u1_s, u2_s, _⟩
    · exact Or.inl u_s.1
    · exact Or.inr ⟨i_s, u1_s, u2_s⟩
  · have e12_s : hdF f2_s = hdF f1_s := by
      funext q_s
      unfold hdF
      rw [g2 12 q_s (by omega)]
    refine t_s v_s f2_s (fun q_s hq => ?_) (fun hb_s T => ?_) (fun a_s k_s q1_s q2_s => ?_)
    · rw [e12_s]
      exact S_s q_s hq
    · rw [e12_s] at T
      obtain ⟨d1_s, d2_s⟩ := D_s hb_s T
      refine ⟨fun i_s hi_s => ?_, d2_s⟩
      rw [d1_s i_s hi_s]
      rcases T.1 i_s hi_s with u_s | ⟨p_s, u0, u_s⟩
      · rw [u_s, if_pos (by omega)]
      · rw [u_s, if_pos (by omega)]
    · rw [g2 a_s k_s q1_s]
      exact g1 a_s k_s q2_s
/-- the reference's loop -/
theorem dl8 {f1_s : Nat → Nat → Int32} (hk : hKn h_s) (b_s : nh ≤ 6 ∧ ni ≤ 8) (c7_s : (f1_s 102 7).toInt = (ni : Int)) (S_s : ∀ i_s, i_s < ni → hbF f1_s i_s = -1 ∨ ∃ p_s : Nat, p_s < nh ∧ hbF f1_s i_s = (p_s : Int)) (t_s : ∀ v_s f2_s, (∀ i_s, i_s < ni → f2_s 103 (60 + i_s) = f1_s 116 i_s) → v_s.toInt = cnI (hbF f1_s) (nh : Int) ni → (∀ a_s k_s, ¬ (a_s = 103 ∧ 60 ≤ k_s ∧ k_s < 60 + ni) → f2_s a_s k_s = f1_s a_s k_s) → K_s v_s (h_s.1, f2_s, h_s.2.2.1, h_s.2.2.2)) : ∀ (F_s n_s : Nat) (x1_s x2_s : Int32) (f_s : Nat → Nat → Int32), x2_s.toInt = (n_s : Int) → n_s ≤ ni → x1_s.toInt = cnI (hbF f1_s) (nh : Int) n_s → (∀ i_s, i_s < n_s → f_s 103 (60 + i_s) = f1_s 116 i_s) → (∀ a_s k_s, ¬ (a_s = 103 ∧ 60 ≤ k_s ∧ k_s < 60 + ni) → f_s a_s k_s = f1_s a_s k_s) → wF F_s 213 (8, [some (.ref 102), some (.int x1_s), some (.int x2_s)], [], (h_s.1, f_s, h_s.2.2.1, h_s.2.2.2)) (gI K_s)
  | 0, _, _, _, _, _, _, _, _, _ => wF_zero
  | F_s + 1, n_s, x1_s, x2_s, f_s, e2_s, hn, e1_s, hf, hg => by
    have z_s := azix (i := x2_s) (by omega)
    have ez : zix x2_s = n_s := by omega
    have a60 : (60 + x2_s).toInt = 60 + (n_s : Int) := by
      rw [na_add (by rw [i60_]; omega) (by rw [i60_]; omega), i60_, e2_s]
    have z3 := azix (i := 60 + x2_s) (by omega)
    have ez3 : zix (60 + x2_s) = 60 + n_s := by omega
    have e7_s : f_s 102 7 = f1_s 102 7 := hg 102 7 (by omega)
    have e16_s : f_s 116 n_s = f1_s 116 n_s := hg 116 n_s (by omega)
    refine sg_213_8 (h_s := (h_s.1, f_s, h_s.2.2.1, h_s.2.2.2)) hk ?_
    dsimp only
    rw [ez, ez3, e7_s, c7_s, e2_s, e16_s]
    have u_s := cnI_le (hbF f1_s) (nh : Int) n_s
    refine ⟨fun c1_s => fun _ _ => ?_, fun c1_s => ?_⟩
    · have go_s : ∀ (w_s : Int32), w_s.toInt = cnI (hbF f1_s) (nh : Int) (n_s + 1) → wF F_s 213 (8, [some (.ref 102), some (.int w_s), some (.int (x2_s + 1))], [], (h_s.1, zup f_s 103 (60 + n_s) (f1_s 116 n_s), h_s.2.2.1, h_s.2.2.2)) (gI K_s) := fun w_s e_s => by
        refine dl8 hk b_s c7_s S_s t_s F_s (n_s + 1) w_s (x2_s + 1) _ (by rw [in1_ (by omega)]; omega) (by omega) e_s (fun i_s hi_s => ?_) (fun a_s k_s q_s => ?_)
        · by_cases ei : i_s = n_s
          · rw [ei, zsame_up]
          · rw [zne_up (by omega)]
            exact hf i_s (by omega)
        · rw [zne_up (by omega)]
          exact hg a_s k_s q_s
      have st_s : cnI (hbF f1_s) (nh : Int) (n_s + 1) = cnI (hbF f1_s) (nh : Int) n_s + (if 0 ≤ (f1_s 116 n_s).toInt ∧ (f1_s 116 n_s).toInt < (nh : Int) then 1 else 0) := rfl
      have sn : (f1_s 116 n_s).toInt = -1 ∨ ∃ p_s : Nat, p_s < nh ∧ (f1_s 116 n_s).toInt = (p_s : Int) := S_s n_s (by omega)
      refine ⟨fun c5_s => go_s _ ?_, fun c5_s => go_s _ ?_⟩
      · rw [st_s, if_neg (by omega), Int32.add_zero, e1_s]
        omega
      · rw [st_s, if_pos (by rcases sn with w_s | ⟨p_s, w1_s, w2_s⟩ <;> omega), in1_ (by omega), e1_s]
    · have en : n_s = ni := by omega
      subst en
      exact t_s x1_s f_s hf e1_s hg
theorem sp_213 {F_s : Nat} {f0_s : Nat → Nat → Int32} (hk : hKn h_s) (hc_s : tM nh ni nr f0_s) (t_s : ∀ v_s f2_s, GSI nh ni (kyI f0_s) (hkI f0_s) (hbF f2_s) (akF f2_s) → (∀ p_s, p_s < nh → dnF ni f2_s p_s) → (∀ i_s, i_s < ni → f2_s 103 (60 + i_s) = f2_s 116 i_s) → v_s.toInt = cnI (hbF f2_s) (nh : Int) ni → (∀ a_s k_s, ¬ (a_s = 103 ∧ 60 ≤ k_s ∧ k_s < 60 + ni) → ¬ a_s = 116 → ¬ a_s = 117 → f2_s a_s k_s = f0_s a_s k_s) → K_s v_s (h_s.1, f2_s, h_s.2.2.1, h_s.2.2.2)) : wF F_s 213 (0, [some (.ref 102), none, none], [], (h_s.1, f0_s, h_s.2.2.1, h_s.2.2.2)) (gI K_s) := by
  have b_s := hc_s.1
  refine wF_le (Nat.le_succ F_s) (sg_213_0 (h_s := (h_s.1, f0_s, h_s.2.2.1, h_s.2.2.2)) hk ?_)
  refine sp_198 hk hc_s (fun f1_s g1 G_s D_s hk1 => ?_)
  refine dl8 (h_s := (h_s.1, f1_s, h_s.2.2.1, h_s.2.2.2)) (f1_s := f1_s) hk1 ⟨b_s.1, b_s.2.1⟩ (by rw [g1 102 7 (by omega) (by omega)]; exact hc_s.2.1.2.1) G_s.1 (fun v_s f2_s q1_s q2_s g2 => ?_) F_s 0 0 0 f1_s rfl (Nat.zero_le _) rfl (fun i_s hi_s => absurd hi_s (Nat.not_lt_zero i_s)) (fun _ _ _ => rfl)
  have e1_s : hbF f2_s = hbF f1_s := by
    funext i_s
    unfold hbF
    rw [g2 116 i_s (by omega)]
  have e2_s : akF f2_s = akF f1_s := by
    funext p_s i_s
    unfold akF
    rw [g2 117 p_s (by omega)]
  refine t_s v_s f2_s (by rw [e1_s, e2_s]; exact G_s) (fun p_s hp => ?_) (fun i_s hi_s => by rw [q1_s i_s hi_s, g2 116 i_s (by omega)]) (by rw [e1_s]; exact q2_s) (fun a_s k_s w1_s w2_s w3_s => by rw [g2 a_s k_s w1_s]; exact g1 a_s k_s w2_s w3_s)
  have u_s := D_s p_s hp
  unfold dnF at u_s ⊢
  rw [e1_s, e2_s]
  exact u_s
theorem tC_deal {f_s f2_s : Nat → Nat → Int32} (hc_s : tC nh ni nr f_s) (h1 : ∀ i_s, i_s < ni → f2_s (20 + i_s) 6 = f2_s 103 (60 + i_s) ∧ -1 ≤ (f2_s 103 (60 + i_s)).toInt ∧ (f2_s 103 (60 + i_s)).toInt < (nh : Int)) (hf : ∀ a_s k_s, inC a_s k_s → ¬ (20 ≤ a_s ∧ a_s < 20 + ni ∧ k_s = 6) → ¬ (a_s = 103 ∧ 60 ≤ k_s ∧ k_s < 60 + ni) → f2_s a_s k_s = f_s a_s k_s) : tC nh ni nr f2_s := by
  obtain ⟨a0_s, ⟨a1_s, a2, a3⟩, ⟨a4, a5, a6⟩, a7, a8, a9⟩ := hc_s
  have f7_s : ∀ a_s k_s, (a_s = 7 ∨ a_s = 102) ∧ 6 ≤ k_s ∧ k_s ≤ 8 → f2_s a_s k_s = f_s a_s k_s := fun a_s k_s q_s => hf a_s k_s (by unfold inC; omega) (by omega) (by omega)
  refine ⟨a0_s, ⟨?_, ?_, ?_⟩, ⟨?_, ?_, ?_⟩, fun n_s w_s hw hn hi_s => ?_, fun i_s q1_s q2_s => ?_, fun r_s hr => ?_⟩
  · rw [f7_s 7 6 (by omega)]
    exact a1_s
  · rw [f7_s 7 7 (by omega)]
    exact a2
  · rw [f7_s 7 8 (by omega)]
    exact a3
  · rw [f7_s 102 6 (by omega)]
    exact a4
  · rw [f7_s 102 7 (by omega)]
    exact a5
  · rw [f7_s 102 8 (by omega)]
    exact a6
  · have u_s := a7 n_s w_s hw hn hi_s
    have ci : inC (cO n_s w_s) (cF n_s w_s) := cell_in hw hn
    have pl := plc_lt hw hn
    by_cases e_s : w_s = 8
    · have hni := hi_s e_s
      subst e_s
      obtain ⟨p1_s, p2_s, p3_s⟩ := h1 n_s hni
      exact ⟨p1_s, p2_s, p3_s⟩
    · have ne_s : ¬ (20 ≤ cO n_s w_s ∧ cO n_s w_s < 20 + ni ∧ cF n_s w_s = 6) ∧ ¬ (60 ≤ plc n_s w_s ∧ plc n_s w_s < 60 + ni) ∧ ¬ cO n_s w_s = 103 := by
        by_cases v2 : w_s < 2
        · rw [cap_h v2] at hn
          rw [cO_h v2, cF_h v2, plc_h v2]
          omega
        · by_cases v9 : w_s < 9
          · rw [cap_i (by omega) v9] at hn
            rw [cO_i (by omega) v9, cF_i (by omega) v9, plc_i (by omega) v9]
            omega
          · rw [cap_r (by omega)] at hn
            rw [cO_r (by omega), cF_r (by omega), plc_r (by omega)]
            omega
      rw [hf _ _ ci ne_s.1 (fun w1_s => ne_s.2.2 w1_s.1), hf 103 _ (by unfold inC; omega) (by omega) (fun w1_s => ne_s.2.1 w1_s.2)]
      exact u_s
  · rw [hf _ _ (by unfold inC; omega) (by omega) (by omega)]
    exact a8 i_s q1_s q2_s
  · rw [hf (28 + r_s) 0 (by unfold inC; omega) (by omega) (by omega), hf (28 + r_s) 1 (by unfold inC; omega) (by omega) (by omega), hf 107 r_s (by unfold inC; omega) (by omega) (by omega), hf 108 r_s (by unfold inC; omega) (by omega) (by omega)]
    exact a9 r_s hr
theorem pr_deal {F_s : Nat} (hk : hKn h_s) (hx : tX h_s) : wF F_s 119 (0, [some (.ref 6), none, none], [], h_s) (gI (fun v_s h1 => wF F_s 213 (0, [some (.ref 102), none, none], [], h1) (gI (fun v2 h2 => v_s = v2 ∧ tX h2)))) := by
  obtain ⟨nh, ni, nr, hc_s, hh, hi_, hd_s, hz, hl⟩ := hx
  have b_s := hc_s.1
  have m0_s := tC_M hc_s
  refine sp_119 (f0_s := h_s.2.1) hk hc_s (fun v_s f1_s S_s D_s g1 => ?_)
  have g3_s : ∀ a_s k_s, 100 ≤ a_s → f1_s a_s k_s = h_s.2.1 a_s k_s := fun a_s k_s ha_s => g1 a_s k_s (by omega) (by omega)
  have m1_s : tM nh ni nr f1_s := tM_fr (fun k_s _ _ => g3_s _ _ (by omega)) (fun k_s _ => g3_s _ _ (by omega)) m0_s
  obtain ⟨ek, eh⟩ := ky_fr (f_s := f1_s) (f0_s := h_s.2.1) (fun k_s => g3_s 103 k_s (by omega))
  refine sp_213 (h_s := (h_s.1, f1_s, h_s.2.2.1, h_s.2.2.2)) (f0_s := f1_s) hk m1_s (fun v2 f2_s G_s dn q1_s q2_s g2 => ?_)
  rw [ek, eh] at G_s
  have T : tieD nh ni (hbF f2_s) (hdF f1_s) := ⟨G_s.1, fun p_s hp i_s hi_s => GS_SD (hk_inj m0_s) (hk_0 m0_s) G_s dn S_s ((hkI h_s.2.1 p_s).toNat + 1) p_s hp (by have := hk_0 m0_s p_s hp; omega) i_s hi_s⟩
  obtain ⟨d1_s, d2_s⟩ := D_s (hbF f2_s) T
  have e2_s : ∀ i_s, i_s < ni → f2_s (20 + i_s) 6 = f2_s 103 (60 + i_s) ∧ -1 ≤ (f2_s 103 (60 + i_s)).toInt ∧ (f2_s 103 (60 + i_s)).toInt < (nh : Int) := fun i_s hi_s => by
    have r1_s : (f2_s 116 i_s).toInt = -1 ∨ ∃ p_s : Nat, p_s < nh ∧ (f2_s 116 i_s).toInt = (p_s : Int) := G_s.1 i_s hi_s
    have r2 : (f1_s (20 + i_s) 6).toInt = (f2_s 116 i_s).toInt := d1_s i_s hi_s
    rw [q1_s i_s hi_s, g2 (20 + i_s) 6 (by omega) (by omega) (by omega)]
    refine ⟨Int32.toInt_inj.mp r2, ?_⟩
    rcases r1_s with w_s | ⟨p_s, w1_s, w2_s⟩ <;> omega
  refine ⟨Int32.toInt_inj.mp (d2_s.trans q2_s.symm), ?_⟩
  have hf : ∀ a_s k_s, ¬ (20 ≤ a_s ∧ a_s < 20 + ni ∧ k_s = 6) → ¬ (a_s = 103 ∧ 60 ≤ k_s ∧ k_s < 60 + ni) → ¬ (a_s = 12 ∧ k_s < 6) → ¬ a_s = 116 → ¬ a_s = 117 → f2_s a_s k_s = h_s.2.1 a_s k_s := fun a_s k_s w1_s w2_s w3_s w4_s w5 => by
    rw [g2 a_s k_s w2_s w4_s w5]
    exact g1 a_s k_s w1_s w3_s
  refine tX_rest (h_s := h_s) (h2 := (h_s.1, f2_s, h_s.2.2.1, h_s.2.2.2)) (Nat.le_refl nh) (Nat.le_refl ni) (Nat.le_refl nr) (tC_deal hc_s e2_s (fun a_s k_s w_s w1_s w2_s => hf a_s k_s w1_s w2_s (by unfold inC at w_s; omega) (by unfold inC at w_s; omega) (by unfold inC at w_s; omega))) hh hi_ hd_s hz hl (fun _ => rfl) (fun a_s k_s w_s => ?_)
  have n_s : ¬ (20 ≤ a_s ∧ a_s < 20 + ni ∧ k_s = 6) ∧ ¬ (a_s = 103 ∧ 60 ≤ k_s ∧ k_s < 60 + ni) ∧ ¬ (a_s = 12 ∧ k_s < 6) ∧ ¬ a_s = 116 ∧ ¬ a_s = 117 := by
    unfold inH inI inD inZ inW at w_s
    omega
  exact hf a_s k_s n_s.1 n_s.2.1 n_s.2.2.1 n_s.2.2.2.1 n_s.2.2.2.2
end DE
