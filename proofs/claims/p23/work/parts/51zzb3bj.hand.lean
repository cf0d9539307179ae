/-! THE START keeps the state's tie; the edge keeps it. -/
theorem hcX1_fr {f_s g_s : Nat → Nat → Int32} (e_s : ∀ o k_s, o ≠ 0 → g_s o k_s = f_s o k_s) (hc_s : hcX1 f_s = true) : hcX1 g_s = true := by
  have e20 : ∀ i_s k_s, g_s (20 + i_s) k_s = f_s (20 + i_s) k_s := fun i_s k_s => e_s _ _ (by omega)
  have e28_s : ∀ i_s k_s, g_s (28 + i_s) k_s = f_s (28 + i_s) k_s := fun i_s k_s => e_s _ _ (by omega)
  have e8 : ∀ i_s k_s, g_s (8 + i_s) k_s = f_s (8 + i_s) k_s := fun i_s k_s => e_s _ _ (by omega)
  unfold hcX1 at hc_s ⊢
  simp only [e20, e28_s, e8, e_s 7 _ (by omega), e_s 102 _ (by omega), e_s 103 _ (by omega), e_s 107 _ (by omega), e_s 108 _ (by omega)]
  exact hc_s
theorem hcX2_fr {f_s g_s : Nat → Nat → Int32} (e_s : ∀ o k_s, o ≠ 0 → g_s o k_s = f_s o k_s) (hc_s : hcX2 f_s = true) : hcX2 g_s = true := by
  unfold hcX2 at hc_s ⊢
  simp only [e_s 42 _ (by omega), e_s 102 _ (by omega), e_s 6 _ (by omega), e_s 73 _ (by omega), e_s 119 _ (by omega), e_s 1 _ (by omega), e_s 2 _ (by omega), e_s 3 _ (by omega), e_s 14 _ (by omega)]
  exact hc_s
theorem mxw_0 (w_s : Nat) : 0 ≤ mxw w_s := by
  unfold mxw
  repeat' split
  all_goals decide
theorem mx0_ : ∀ k_s, k_s < 12 → mx0.getD k_s 0 = msW k_s ∧ ls0.getD k_s 0 = lsW k_s := by decide
theorem tC_0 {f_s : Nat → Nat → Int32} (hc_s : hcX1 f_s = true) : tC 0 0 0 f_s := by
  unfold hcX1 at hc_s
  simp only [Bool.and_eq_true, List.all_eq_true, List.mem_range, decide_eq_true_eq] at hc_s
  obtain ⟨⟨a_s, b_s⟩, c_s, d_s, e_s, g_s⟩ := hc_s
  have z0 : (0 : Int32).toInt = 0 := rfl
  refine ⟨⟨by omega, by omega, by omega⟩, ⟨?_, ?_, ?_⟩, ⟨?_, ?_, ?_⟩, fun n_s w_s hw hn hi_s => ?_, fun i_s h1 h2 => e_s i_s h2, fun r_s hr => ?_⟩
  · rw [(a_s 0 (by omega)).1]
    rfl
  · rw [(a_s 1 (by omega)).1]
    rfl
  · rw [(a_s 2 (by omega)).1]
    rfl
  · rw [(a_s 0 (by omega)).2]
    rfl
  · rw [(a_s 1 (by omega)).2]
    rfl
  · rw [(a_s 2 (by omega)).2]
    rfl
  · have w8 : ¬ w_s = 8 := fun e_s => Nat.not_lt_zero _ (hi_s e_s)
    have v0_s : vB 0 0 n_s w_s (0 : Int32).toInt := by
      unfold vB
      rw [if_neg w8, z0]
      exact ⟨Int.le_refl _, mxw_0 w_s, fun _ q_s => absurd q_s (Nat.not_lt_zero _)⟩
    by_cases w2_s : w_s < 2
    · rw [cap_h w2_s] at hn
      rw [cO_h w2_s, cF_h w2_s, plc_h w2_s]
      obtain ⟨q1_s, q2_s⟩ := b_s w_s w2_s n_s hn
      rw [q1_s, q2_s]
      exact ⟨rfl, v0_s⟩
    · by_cases w9 : w_s < 9
      · rw [cap_i (by omega) w9] at hn
        rw [cO_i (by omega) w9, cF_i (by omega) w9, plc_i (by omega) w9]
        obtain ⟨q1_s, q2_s⟩ := c_s (w_s - 2) (by omega) n_s hn
        rw [q1_s, q2_s]
        exact ⟨rfl, v0_s⟩
      · rw [cap_r (by omega)] at hn
        rw [cO_r (by omega), cF_r (by omega), plc_r (by omega)]
        obtain ⟨q1_s, q2_s⟩ := d_s (w_s - 9) (by omega) n_s hn
        rw [show 2 + (w_s - 9) = w_s - 7 by omega] at q1_s
        rw [q1_s, q2_s]
        exact ⟨rfl, v0_s⟩
  · obtain ⟨⟨q1_s, q2_s⟩, q3_s, q4_s⟩ := g_s r_s hr
    rw [q1_s, q2_s, q3_s, q4_s]
    exact ⟨⟨rfl, rfl⟩, by decide, by decide, fun w_s => absurd w_s (Nat.not_lt_zero _)⟩
theorem tX_0 {h_s : zH} (r9 : h_s.2.2.2 7 9 = some 14) (r10 : h_s.2.2.2 7 10 = some 17) (h1 : hcX1 h_s.2.1 = true) (h2 : hcX2 h_s.2.1 = true) : tX h_s := by
  have c0_s := tC_0 h1
  unfold hcX2 at h2
  simp only [Bool.and_eq_true, List.all_eq_true, List.mem_range, decide_eq_true_eq] at h2
  obtain ⟨⟨⟨b1, b2⟩, b3, b4⟩, ⟨⟨d1_s, d2_s⟩, d3_s⟩, g_s, ⟨k0_s, k1_s, k2_s⟩, ⟨l1, l2⟩, l3⟩ := h2
  refine ⟨0, 0, 0, c0_s, ⟨0, 0, by omega, ?_, ?_, ?_, ?_, fun k_s q_s => absurd q_s (Nat.not_lt_zero _)⟩, Or.inl ⟨?_, ?_⟩, fun k_s q1_s q2_s => ?_, ⟨fun k_s q_s => ?_, ?_, ?_, ?_⟩, 14, 17, none, r9, r10, Or.inl ⟨rfl, rfl⟩, ⟨?_, l2⟩, ?_⟩
  · rw [b1]
    rfl
  · rw [b2]
    rfl
  · rw [b3]
    rfl
  · rw [b4]
    rfl
  · rw [d1_s]
    rfl
  · rw [d2_s]
    rfl
  · have u_s := d3_s (k_s - 2) (by omega)
    rw [show 2 + (k_s - 2) = k_s by omega] at u_s
    exact u_s
  · obtain ⟨m1_s, m2_s⟩ := mx0_ k_s q_s
    rw [← m1_s, ← m2_s]
    exact g_s k_s q_s
  · rw [k0_s]
    rfl
  · rw [k1_s]
    rfl
  · rw [k2_s]
    rfl
  · rw [l1]
    rfl
  · show (h_s.2.1 102 14).toInt = -1
    rw [l3]
    rfl
theorem tX_start {E_s : Nat → Int32} {n_s : Nat} {h_s : zH} (hc_s : hcX h_s = true) : tX (sH E_s n_s [] h_s) := by
  have sv : ∀ o k_s, o ≠ 0 → sov E_s [] h_s.2.1 o k_s = h_s.2.1 o k_s := fun o k_s ho => by rw [sov_nil ho]
  unfold hcX at hc_s
  rw [Bool.and_eq_true, Bool.and_eq_true, Bool.and_eq_true, decide_eq_true_eq, decide_eq_true_eq] at hc_s
  obtain ⟨⟨r1_s, r2⟩, c1_s, c2_s⟩ := hc_s
  exact tX_0 (h_s := sH E_s n_s [] h_s) r1_s r2 (hcX1_fr sv c1_s) (hcX2_fr sv c2_s)
section ET_s
variable {F_s : Nat} {h_s : zH} {x1_s x2_s x3 : Int32}
theorem ed_206 (hk : hKn h_s) (hx : tX h_s) : wF F_s 206 (0, [some (.ref 102), some (.int x1_s), some (.int x2_s), some (.int x3), none, none, none, none], [], h_s) (gI (fun _ h1 => tX h1)) := by
  obtain ⟨nh, ni, nr, hc_s, hh, hi_, hd_s, hz, hl⟩ := hx
  have hx : tX h_s := ⟨nh, ni, nr, hc_s, hh, hi_, hd_s, hz, hl⟩
  obtain ⟨q_s, q2_s, lw, l1, l2, l3, l4, l5⟩ := hl
  refine fr_206 (f0_s := h_s.2.1) hk (tC_M hc_s) l5 (lawR_P l5) (fun v_s f1_s g_s => ?_)
  refine tX_fr (h_s := h_s) (h1 := (h_s.1, f1_s, h_s.2.2.1, h_s.2.2.2)) (fun _ => rfl) (fun o k_s w_s => ?_) hx
  have n_s : ¬ o = 111 ∧ ¬ o = 112 ∧ ¬ (o = 102 ∧ (15 ≤ k_s ∧ k_s ≤ 19 ∨ k_s = 22 ∨ k_s = 23)) := by
    unfold inX inC inH inI inD inZ inW at w_s
    omega
  exact g_s o k_s n_s.1 n_s.2.1 n_s.2.2
theorem pr_wears (hk : hKn h_s) (hx : tX h_s) : wF F_s 102 (0, [some (.ref 6), some (.int x1_s), some (.int x2_s)], [], h_s) (gI (fun v_s h1 => wF F_s 181 (0, [some (.ref 102), some (.int x1_s), some (.int x2_s)], [], h1) (gI (fun v2 _ => v_s = v2)))) := by
  obtain ⟨nh, ni, nr, hc_s, _, _, _, _, hl⟩ := hx
  obtain ⟨q_s, q2_s, lw, l1, l2, l3, l4, l5⟩ := hl
  have hm_s : q_s = 14 ∨ q_s = 17 := by omega
  have m0_s := tC_M hc_s
  refine sp_102 (f_s := h_s.2.1) hk l1 hm_s l4 (lawR_P l5) hc_s (fun w_s => ?_) (fun i_s r_s e1_s e2_s hi_s hr f1_s g_s => ?_)
  · refine sp_181 (f_s := h_s.2.1) hk l5 (lawR_P l5) m0_s (fun _ => rfl) (fun i_s r_s e1_s e2_s hi_s hr => ?_)
    exact absurd ⟨by omega, by omega, by omega, by omega⟩ w_s
  · have g3_s : ∀ a_s k_s, 100 ≤ a_s → f1_s a_s k_s = h_s.2.1 a_s k_s := fun a_s k_s ha_s => g_s a_s k_s (by omega) (by omega) (by omega)
    have m1_s : tM nh ni nr f1_s := tM_fr (fun k_s _ _ => g3_s _ _ (by omega)) (fun k_s _ => g3_s _ _ (by omega)) m0_s
    have l6 : lawR f1_s lw := lawR_fr (g3_s _ _ (by omega)) (fun k_s _ => g3_s _ _ (by omega)) l5
    refine sp_181 (h_s := (h_s.1, f1_s, h_s.2.2.1, h_s.2.2.2)) (f_s := f1_s) hk l6 (lawR_P l6) m1_s (fun w_s => absurd ⟨by omega, by omega, by omega, by omega⟩ w_s) (fun i1_s r1_s d1_s d2_s hi1 hr1 f2_s _ => ?_)
    have ei : i1_s = i_s := by omega
    have er : r1_s = r_s := by omega
    subst ei er
    have eo : owI f1_s i1_s = owI h_s.2.1 i1_s := by
      funext k_s
      unfold owI
      rw [g3_s 103 _ (by omega), g3_s 103 _ (by omega), g3_s 103 _ (by omega)]
    rw [eo, g3_s 103 _ (by omega), g3_s 103 _ (by omega)]
end ET_s
