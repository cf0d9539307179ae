/-! ALL ASK: class and reference. -/
def iab (z_s : Int) : Int := if z_s < 0 then -z_s else z_s
def kyI (f_s : Nat → Nat → Int32) (p_s i_s : Nat) : Int := (iab ((f_s 103 (20 + i_s)).toInt - (f_s 103 p_s).toInt) * 100 + (f_s 103 (28 + i_s)).toInt) * 8 + (i_s : Int)
def hkI (f_s : Nat → Nat → Int32) (p_s : Nat) : Int := (12 - (f_s 103 (6 + p_s)).toInt) * 6 + (p_s : Int)
theorem tM_will {nh ni nr p_s : Nat} {f_s : Nat → Nat → Int32} (h_s : tM nh ni nr f_s) (hp : p_s < 6) : 0 ≤ (f_s 103 (6 + p_s)).toInt ∧ (f_s 103 (6 + p_s)).toInt ≤ 12 := by
  have u_s := h_s.2.2 p_s 1 (by omega) hp (fun w_s => absurd w_s (by omega))
  rw [plc_h (by omega), vB_n (by omega), Nat.mul_one] at u_s
  exact ⟨u_s.1, u_s.2.1⟩
theorem hk_inj {nh ni nr : Nat} {f_s : Nat → Nat → Int32} (h_s : tM nh ni nr f_s) : ∀ p_s q_s, p_s < nh → q_s < nh → hkI f_s p_s = hkI f_s q_s → p_s = q_s := by
  intro p_s q_s hp hq e_s
  have b_s := h_s.1.1
  unfold hkI at e_s
  omega
theorem hk_0 {nh ni nr : Nat} {f_s : Nat → Nat → Int32} (h_s : tM nh ni nr f_s) : ∀ p_s, p_s < nh → 0 ≤ hkI f_s p_s := by
  intro p_s hp
  have b_s := h_s.1.1
  have w_s := tM_will h_s (p_s := p_s) (by omega)
  unfold hkI
  omega
section AA
variable {F_s : Nat} {h_s : zH} {K_s : Int32 → zH → Prop} {V : zH → Prop} {nh ni nr p_s i_s o : Nat} {x1_s x2_s x3 : Int32} {f_s : Nat → Nat → Int32}
theorem iab_c {x_s y_s : Int32} (h0 : 0 ≤ x_s.toInt ∧ x_s.toInt ≤ 5) (h1 : 0 ≤ y_s.toInt ∧ y_s.toInt ≤ 5) : (x_s - y_s).toInt = x_s.toInt - y_s.toInt ∧ (-(x_s - y_s)).toInt = -(x_s.toInt - y_s.toInt) ∧ (if x_s - y_s < 0 then -(x_s - y_s) else x_s - y_s).toInt = iab (x_s.toInt - y_s.toInt) := by
  have e_s := sub_i h0.1 h1.1
  have e2_s : (-(x_s - y_s)).toInt = -(x_s.toInt - y_s.toInt) := by rw [na_neg (by omega), e_s]
  refine ⟨e_s, e2_s, ?_⟩
  unfold iab
  by_cases c_s : x_s - y_s < 0
  · have c1_s := (iq2 _).mp c_s
    rw [if_pos c_s, if_pos (by omega), e2_s]
  · have c1_s : ¬ (x_s - y_s).toInt < 0 := fun w_s => c_s ((iq2 _).mpr w_s)
    rw [if_neg c_s, if_neg (by omega), e_s]
/-- headRather -/
theorem sp_195 (hk : hKn h_s) (hc_s : tM nh ni nr f_s) (e1_s : x1_s.toInt = (p_s : Int)) (e2_s : x2_s.toInt = (i_s : Int)) (e3_s : x3.toInt = (o : Int)) (hp : p_s < nh) (hi_s : i_s < ni) (ho : o < ni) (t1_s : kyI f_s p_s i_s < kyI f_s p_s o → K_s 1 (h_s.1, f_s, h_s.2.2.1, h_s.2.2.2)) (t0_s : ¬ kyI f_s p_s i_s < kyI f_s p_s o → K_s 0 (h_s.1, f_s, h_s.2.2.1, h_s.2.2.2)) : wF F_s 195 (0, [some (.ref 102), some (.int x1_s), some (.int x2_s), some (.int x3), none, none], [], (h_s.1, f_s, h_s.2.2.1, h_s.2.2.2)) (gI K_s) := by
  have b_s := hc_s.1
  have z1 : zix x1_s = p_s := by
    have := azix (i := x1_s) (by omega)
    omega
  have z2 : zix (20 + x2_s) = 20 + i_s := zxa (c_s := 20) (a_s := 20) rfl e2_s (by omega)
  have z3 : zix (20 + x3) = 20 + o := zxa (c_s := 20) (a_s := 20) rfl e3_s (by omega)
  have y2 : zix (28 + x2_s) = 28 + i_s := zxa (c_s := 28) (a_s := 28) rfl e2_s (by omega)
  have y3 : zix (28 + x3) = 28 + o := zxa (c_s := 28) (a_s := 28) rfl e3_s (by omega)
  have bp := tM_form hc_s (p_s := p_s) (by omega)
  have bi := tM_own (i_s := i_s) (k_s := 1) hc_s (by omega) (by omega)
  have bo := tM_own (i_s := o) (k_s := 1) hc_s (by omega) (by omega)
  have bi : 0 ≤ (f_s 103 (20 + i_s)).toInt ∧ (f_s 103 (20 + i_s)).toInt ≤ 5 := bi
  have bo : 0 ≤ (f_s 103 (20 + o)).toInt ∧ (f_s 103 (20 + o)).toInt ≤ 5 := bo
  have wi : 0 ≤ (f_s 103 (28 + i_s)).toInt ∧ (f_s 103 (28 + i_s)).toInt ≤ 99 := tM_own (i_s := i_s) (k_s := 2) hc_s (by omega) (by omega)
  have wo : 0 ≤ (f_s 103 (28 + o)).toInt ∧ (f_s 103 (28 + o)).toInt ≤ 99 := tM_own (i_s := o) (k_s := 2) hc_s (by omega) (by omega)
  obtain ⟨q1_s, q2_s, _⟩ := iab_c bi bp
  obtain ⟨r1_s, r2, _⟩ := iab_c bo bp
  have d1_s : ((f_s 103 (20 + i_s)).toInt - (f_s 103 p_s).toInt < 0 → iab ((f_s 103 (20 + i_s)).toInt - (f_s 103 p_s).toInt) = -((f_s 103 (20 + i_s)).toInt - (f_s 103 p_s).toInt)) ∧ (¬ (f_s 103 (20 + i_s)).toInt - (f_s 103 p_s).toInt < 0 → iab ((f_s 103 (20 + i_s)).toInt - (f_s 103 p_s).toInt) = (f_s 103 (20 + i_s)).toInt - (f_s 103 p_s).toInt) := ⟨fun c_s => if_pos c_s, fun c_s => if_neg c_s⟩
  have d2_s : ((f_s 103 (20 + o)).toInt - (f_s 103 p_s).toInt < 0 → iab ((f_s 103 (20 + o)).toInt - (f_s 103 p_s).toInt) = -((f_s 103 (20 + o)).toInt - (f_s 103 p_s).toInt)) ∧ (¬ (f_s 103 (20 + o)).toInt - (f_s 103 p_s).toInt < 0 → iab ((f_s 103 (20 + o)).toInt - (f_s 103 p_s).toInt) = (f_s 103 (20 + o)).toInt - (f_s 103 p_s).toInt) := ⟨fun c_s => if_pos c_s, fun c_s => if_neg c_s⟩
  unfold kyI at t0_s t1_s
  refine wF_le (Nat.le_succ F_s) (sg_195_0 (h_s := (h_s.1, f_s, h_s.2.2.1, h_s.2.2.2)) hk ?_)
  dsimp only
  simp only [z1, z2, z3, y2, y3, q1_s, q2_s, r1_s, r2]
  generalize iab ((f_s 103 (20 + i_s)).toInt - (f_s 103 p_s).toInt) = D1 at d1_s t0_s t1_s
  generalize iab ((f_s 103 (20 + o)).toInt - (f_s 103 p_s).toInt) = D2 at d2_s t0_s t1_s
  refine fun c1_s => fun c2_s => ⟨fun c3_s => fun c4_s => ⟨fun c6_s => ⟨fun c7_s => fun c8_s => fun c9_s => ⟨fun c10_s => ⟨fun c11_s => ?_, fun c11_s => ?_⟩, fun c10_s => ⟨fun c14_s => ?_, fun c14_s => ?_⟩⟩, fun c7_s => ⟨fun c15_s => ?_, fun c15_s => ?_⟩⟩, fun c6_s => ⟨fun c16 => fun c17 => fun c18_s => ⟨fun c19_s => ⟨fun c20_s => ?_, fun c20_s => ?_⟩, fun c19_s => ⟨fun c23_s => ?_, fun c23_s => ?_⟩⟩, fun c16 => ⟨fun c24_s => ?_, fun c24_s => ?_⟩⟩⟩, fun c3_s => fun c25_s => ⟨fun c27_s => ⟨fun c28_s => fun c29_s => fun c30_s => ⟨fun c31_s => ⟨fun c32_s => ?_, fun c32_s => ?_⟩, fun c31_s => ⟨fun c35_s => ?_, fun c35_s => ?_⟩⟩, fun c28_s => ⟨fun c36_s => ?_, fun c36_s => ?_⟩⟩, fun c27_s => ⟨fun c37 => fun c38 => fun c39_s => ⟨fun c40_s => ⟨fun c41 => ?_, fun c41 => ?_⟩, fun c40_s => ⟨fun c44_s => ?_, fun c44_s => ?_⟩⟩, fun c37 => ⟨fun c45 => ?_, fun c45 => ?_⟩⟩⟩⟩
  all_goals first | exact t1_s (by omega) | exact t0_s (by omega)
/-- isRatherIdea -/
theorem sp_29 (hk : hKn h_s) (hc_s : tC nh ni nr f_s) (e1_s : x1_s.toInt = (p_s : Int)) (e2_s : x2_s.toInt = (i_s : Int)) (hp : p_s < nh) (hi_s : i_s < ni) (e3_s : x3.toInt < 0 ∨ ∃ o, x3.toInt = ((o : Nat) : Int) ∧ o < ni) (t1_s : (∀ o : Nat, x3.toInt = (o : Int) → o < ni → kyI f_s p_s i_s < kyI f_s p_s o) → K_s 1 (h_s.1, f_s, h_s.2.2.1, h_s.2.2.2)) (t0_s : ∀ o : Nat, x3.toInt = (o : Int) → o < ni → ¬ kyI f_s p_s i_s < kyI f_s p_s o → K_s 0 (h_s.1, f_s, h_s.2.2.1, h_s.2.2.2)) : wF F_s 29 (0, [some (.ref 7), some (.int x1_s), some (.int x2_s), some (.int x3), none, none], [], (h_s.1, f_s, h_s.2.2.1, h_s.2.2.2)) (gI K_s) := by
  have b_s := hc_s.1
  have c7_s := hc_s.2.1.2.1
  refine wF_le (Nat.le_succ F_s) (sg_29_0 (h_s := (h_s.1, f_s, h_s.2.2.1, h_s.2.2.2)) hk ?_)
  dsimp only
  rcases e3_s with e3_s | ⟨o, e3_s, ho⟩
  · exact ⟨fun _ => t1_s (fun o w_s _ => by omega), fun c_s => absurd e3_s c_s⟩
  · have z1 : zix x1_s = p_s := by
      have := azix (i := x1_s) (by omega)
      omega
    have z2 : zix x2_s = i_s := by
      have := azix (i := x2_s) (by omega)
      omega
    have z3 : zix x3 = o := by
      have := azix (i := x3) (by omega)
      omega
    have t1_s : kyI f_s p_s i_s < kyI f_s p_s o → K_s 1 (h_s.1, f_s, h_s.2.2.1, h_s.2.2.2) := fun w_s => t1_s (fun o1 w1_s w2_s => by
      have eo : o1 = o := by omega
      rw [eo]
      exact w_s)
    have t0_s := t0_s o e3_s ho
    have s1_s : f_s 8 p_s = f_s 103 p_s := (tC_form hc_s (by omega)).1
    have s2_s : f_s (20 + i_s) 1 = f_s 103 (20 + i_s) := (tC_own (i_s := i_s) (k_s := 1) hc_s (by omega) (by omega)).1
    have s3_s : f_s (20 + o) 1 = f_s 103 (20 + o) := (tC_own (i_s := o) (k_s := 1) hc_s (by omega) (by omega)).1
    have s4_s : f_s (20 + i_s) 2 = f_s 103 (28 + i_s) := (tC_own (i_s := i_s) (k_s := 2) hc_s (by omega) (by omega)).1
    have s5 : f_s (20 + o) 2 = f_s 103 (28 + o) := (tC_own (i_s := o) (k_s := 2) hc_s (by omega) (by omega)).1
    have bp := tM_form (tC_M hc_s) (p_s := p_s) (by omega)
    have bi : 0 ≤ (f_s 103 (20 + i_s)).toInt ∧ (f_s 103 (20 + i_s)).toInt ≤ 5 := tM_own (i_s := i_s) (k_s := 1) (tC_M hc_s) (by omega) (by omega)
    have bo : 0 ≤ (f_s 103 (20 + o)).toInt ∧ (f_s 103 (20 + o)).toInt ≤ 5 := tM_own (i_s := o) (k_s := 1) (tC_M hc_s) (by omega) (by omega)
    have wi : 0 ≤ (f_s 103 (28 + i_s)).toInt ∧ (f_s 103 (28 + i_s)).toInt ≤ 99 := tM_own (i_s := i_s) (k_s := 2) (tC_M hc_s) (by omega) (by omega)
    have wo : 0 ≤ (f_s 103 (28 + o)).toInt ∧ (f_s 103 (28 + o)).toInt ≤ 99 := tM_own (i_s := o) (k_s := 2) (tC_M hc_s) (by omega) (by omega)
    obtain ⟨_, _, q3_s⟩ := iab_c bi bp
    obtain ⟨_, _, r3⟩ := iab_c bo bp
    unfold kyI at t0_s t1_s
    simp only [z1, z2, z3, s1_s, s2_s, s3_s, s4_s, s5, q3_s, r3, c7_s]
    generalize iab ((f_s 103 (20 + i_s)).toInt - (f_s 103 p_s).toInt) = D1 at t0_s t1_s
    generalize iab ((f_s 103 (20 + o)).toInt - (f_s 103 p_s).toInt) = D2 at t0_s t1_s
    refine ⟨fun c1_s => ?_, fun c1_s => ⟨fun c2_s => fun c3_s => fun c4_s => fun c5_s => ⟨fun c7_s => ⟨fun c10_s => ⟨fun c11_s => ?_, fun c11_s => ?_⟩, fun c10_s => ⟨fun c14_s => ?_, fun c14_s => ?_⟩⟩, fun c7_s => ⟨fun c15_s => ?_, fun c15_s => ?_⟩⟩, fun c2_s => ?_⟩⟩
    all_goals first | exact t1_s (by omega) | exact t0_s (by omega) | (exfalso; omega)
/-- isRatherHead -/
theorem sp_28 {q_s : Nat} (hk : hKn h_s) (hc_s : tC nh ni nr f_s) (e1_s : x1_s.toInt = (p_s : Int)) (hp : p_s < nh) (e2_s : x2_s.toInt < 0 ∨ ∃ q_s, x2_s.toInt = ((q_s : Nat) : Int) ∧ q_s < nh) (t1_s : (∀ q_s : Nat, x2_s.toInt = (q_s : Int) → q_s < nh → hkI f_s p_s < hkI f_s q_s) → K_s 1 (h_s.1, f_s, h_s.2.2.1, h_s.2.2.2)) (t0_s : ∀ q_s : Nat, x2_s.toInt = (q_s : Int) → q_s < nh → ¬ hkI f_s p_s < hkI f_s q_s → K_s 0 (h_s.1, f_s, h_s.2.2.1, h_s.2.2.2)) : wF F_s 28 (0, [some (.ref 7), some (.int x1_s), some (.int x2_s)], [], (h_s.1, f_s, h_s.2.2.1, h_s.2.2.2)) (gI K_s) := by
  have b_s := hc_s.1
  have c6_s := hc_s.2.1.1
  refine wF_le (Nat.le_succ F_s) (sg_28_0 (h_s := (h_s.1, f_s, h_s.2.2.1, h_s.2.2.2)) hk ?_)
  dsimp only
  rcases e2_s with e2_s | ⟨q_s, e2_s, hq⟩
  · exact ⟨fun _ => t1_s (fun q_s w_s _ => by omega), fun c_s => absurd e2_s c_s⟩
  · have z1 : zix x1_s = p_s := by
      have := azix (i := x1_s) (by omega)
      omega
    have z2 : zix x2_s = q_s := by
      have := azix (i := x2_s) (by omega)
      omega
    have t1_s : hkI f_s p_s < hkI f_s q_s → K_s 1 (h_s.1, f_s, h_s.2.2.1, h_s.2.2.2) := fun w_s => t1_s (fun o1 w1_s w2_s => by
      have eo : o1 = q_s := by omega
      rw [eo]
      exact w_s)
    have t0_s := t0_s q_s e2_s hq
    have s1_s : f_s 9 p_s = f_s 103 (6 + p_s) := (tC_will hc_s (by omega)).1
    have s2_s : f_s 9 q_s = f_s 103 (6 + q_s) := (tC_will hc_s (by omega)).1
    have bp := tM_will (tC_M hc_s) (p_s := p_s) (by omega)
    have bq := tM_will (tC_M hc_s) (p_s := q_s) (by omega)
    unfold hkI at t0_s t1_s
    simp only [z1, z2, s1_s, s2_s, c6_s]
    refine ⟨fun c1_s => ?_, fun c1_s => ⟨fun c2_s => fun c3_s => fun c4_s => ⟨fun c5_s => ⟨fun c6_s => ?_, fun c6_s => ?_⟩, fun c5_s => ⟨fun c9_s => ?_, fun c9_s => ?_⟩⟩, fun c2_s => ?_⟩⟩
    all_goals first | exact t1_s (by omega) | exact t0_s (by omega) | (exfalso; omega)
/-- ideaRather -/
theorem sp_196 {q_s : Nat} (hk : hKn h_s) (hc_s : tM nh ni nr f_s) (e1_s : x1_s.toInt = (p_s : Int)) (e2_s : x2_s.toInt = (q_s : Int)) (hp : p_s < nh) (hq : q_s < nh) (t1_s : hkI f_s p_s < hkI f_s q_s → K_s 1 (h_s.1, f_s, h_s.2.2.1, h_s.2.2.2)) (t0_s : ¬ hkI f_s p_s < hkI f_s q_s → K_s 0 (h_s.1, f_s, h_s.2.2.1, h_s.2.2.2)) : wF F_s 196 (0, [some (.ref 102), some (.int x1_s), some (.int x2_s)], [], (h_s.1, f_s, h_s.2.2.1, h_s.2.2.2)) (gI K_s) := by
  have b_s := hc_s.1
  have z1 : zix (6 + x1_s) = 6 + p_s := zxa (c_s := 6) (a_s := 6) rfl e1_s (by omega)
  have z2 : zix (6 + x2_s) = 6 + q_s := zxa (c_s := 6) (a_s := 6) rfl e2_s (by omega)
  have bp := tM_will hc_s (p_s := p_s) (by omega)
  have bq := tM_will hc_s (p_s := q_s) (by omega)
  unfold hkI at t0_s t1_s
  refine wF_le (Nat.le_succ F_s) (sg_196_0 (h_s := (h_s.1, f_s, h_s.2.2.1, h_s.2.2.2)) hk ?_)
  dsimp only
  simp only [z1, z2]
  refine fun c1_s => fun c2_s => ⟨fun c3_s => ⟨fun c4_s => ?_, fun c4_s => ?_⟩, fun c3_s => ⟨fun c7_s => ?_, fun c7_s => ?_⟩⟩
  all_goals first | exact t1_s (by omega) | exact t0_s (by omega)
/-- the best of those not passed over, as far as n -/
def bsN (kf : Nat → Int) (no_s : Nat → Bool) (m_s : Int) (n_s : Nat) (v_s : Int) : Prop := (v_s = m_s ∧ ∀ o, o < n_s → no_s o = true) ∨ ∃ b_s : Nat, b_s < n_s ∧ v_s = (b_s : Int) ∧ no_s b_s = false ∧ ∀ o, o < n_s → no_s o = false → o = b_s ∨ kf b_s < kf o
theorem bs_skip {kf : Nat → Int} {no_s : Nat → Bool} {m_s v_s : Int} {n_s : Nat} (h_s : bsN kf no_s m_s n_s v_s) (hn : no_s n_s = true) : bsN kf no_s m_s (n_s + 1) v_s := by
  rcases h_s with ⟨a1_s, a2⟩ | ⟨b_s, a1_s, a2, a3, a4⟩
  · refine Or.inl ⟨a1_s, fun o ho => ?_⟩
    by_cases e_s : o = n_s
    · rw [e_s]
      exact hn
    · exact a2 o (by omega)
  · refine Or.inr ⟨b_s, by omega, a2, a3, fun o ho w_s => ?_⟩
    by_cases e_s : o = n_s
    · rw [e_s, hn] at w_s
      cases w_s
    · exact a4 o (by omega) w_s
theorem bs_take {kf : Nat → Int} {no_s : Nat → Bool} {m_s v_s : Int} {n_s : Nat} (hm_s : m_s < 0) (h_s : bsN kf no_s m_s n_s v_s) (hn : no_s n_s = false) (hl : ∀ o : Nat, v_s = (o : Int) → o < n_s → kf n_s < kf o) : bsN kf no_s m_s (n_s + 1) (n_s : Int) := by
  refine Or.inr ⟨n_s, by omega, rfl, hn, fun o ho w_s => ?_⟩
  by_cases e_s : o = n_s
  · exact Or.inl e_s
  · rcases h_s with ⟨a1_s, a2⟩ | ⟨b_s, a1_s, a2, a3, a4⟩
    · rw [a2 o (by omega)] at w_s
      cases w_s
    · have l := hl b_s a2 a1_s
      rcases a4 o (by omega) w_s with u_s | u_s
      · rw [u_s]
        exact Or.inr l
      · exact Or.inr (by omega)
theorem bs_keep {kf : Nat → Int} {no_s : Nat → Bool} {m_s v_s : Int} {n_s b_s : Nat} (hinj : kf b_s = kf n_s → b_s = n_s) (h_s : bsN kf no_s m_s n_s v_s) (hv : v_s = (b_s : Int)) (hm_s : m_s < 0) (hl : ¬ kf n_s < kf b_s) : bsN kf no_s m_s (n_s + 1) v_s := by
  rcases h_s with ⟨a1_s, a2⟩ | ⟨b1, a1_s, a2, a3, a4⟩
  · omega
  · have eb : b1 = b_s := by omega
    subst eb
    refine Or.inr ⟨b1, by omega, a2, a3, fun o ho w_s => ?_⟩
    by_cases e_s : o = n_s
    · rw [e_s]
      by_cases f_s : kf b1 = kf n_s
      · exact Or.inl (hinj f_s).symm
      · exact Or.inr (by omega)
    · exact a4 o (by omega) w_s
theorem ky_inj {n_s : Nat} (hn : n_s < 8) (o : Nat) (ho : o < 8) (e_s : kyI f_s p_s o = kyI f_s p_s n_s) : o = n_s := by
  unfold kyI at e_s
  omega
end AA
