/-! A stroke; heads and ideas that come. -/
section S4
variable {F_s : Nat} {h_s : zH} {K_s : Int32 → zH → Prop} {V : zH → Prop} {nh ni nr : Nat} {lw : Option (List pB)} {x1_s x2_s : Int32} {f_s : Nat → Nat → Int32}
def okS (ni : Nat) (x1_s x2_s : Int32) : Prop := 0 ≤ x1_s.toInt ∧ x1_s.toInt < (ni : Int) ∧ 0 ≤ x2_s.toInt ∧ x2_s.toInt ≤ 3
theorem sp_117 (hk : hKn h_s) (hc_s : tC nh ni nr f_s) (t1_s : ¬ okS ni x1_s x2_s → K_s (-1) (h_s.1, f_s, h_s.2.2.1, h_s.2.2.2)) (t2_s : ∀ i_s : Nat, x1_s.toInt = (i_s : Int) → i_s < ni → 0 ≤ x2_s.toInt → x2_s.toInt ≤ 3 → ∀ v_s f1_s, (∀ k_s, k_s < 6 → f1_s (20 + i_s) k_s = stO x2_s.toInt (owI f_s i_s) k_s) → (∀ a_s k_s, ¬ (a_s = 20 + i_s ∧ k_s < 6) → ¬ (a_s = 73 ∧ k_s < 2) → f1_s a_s k_s = f_s a_s k_s) → K_s v_s (h_s.1, f1_s, h_s.2.2.1, h_s.2.2.2)) : wF F_s 117 (0, [some (.ref 6), some (.int x1_s), some (.int x2_s), none], [], (h_s.1, f_s, h_s.2.2.1, h_s.2.2.2)) (gI K_s) := by
  have e7_s := hc_s.2.1.2.1
  have b_s := hc_s.1
  unfold okS at t1_s
  refine wF_le (Nat.le_succ F_s) (sg_117_0 (h_s := (h_s.1, f_s, h_s.2.2.1, h_s.2.2.2)) hk ?_)
  dsimp only
  rw [e7_s]
  refine ⟨fun c_s => t1_s (by omega), fun c1_s => ⟨fun c2_s => ⟨fun c_s => t1_s (by omega), fun c3_s => ⟨fun c_s => t1_s (by omega), fun c4_s => fun _ => ?_⟩⟩, fun c_s => t1_s (by omega)⟩⟩
  have z1 := azix (i := x1_s) (by omega)
  have hi_s : zix x1_s < ni := by omega
  have t2_s := t2_s (zix x1_s) z1.symm hi_s (by omega) (by omega)
  generalize zix x1_s = i_s at hi_s z1 t2_s
  have hcw := tC_cw hc_s hi_s
  refine sp_43 (o := owI f_s i_s) hk hcw.1 (tC_oB hc_s hi_s) (fun v_s f1_s g1 g2 _ _ => ?_)
  have fr_s : ∀ a_s k_s, ¬ (a_s = 20 + i_s ∧ k_s < 6) → f1_s a_s k_s = f_s a_s k_s := fun a_s k_s q_s => g2 a_s k_s (by omega)
  refine ⟨fun _ => t2_s 0 _ (fun k_s hk6 => ?_) (fun a_s k_s q1_s q2_s => ?_), fun _ => t2_s 1 _ (fun k_s hk6 => ?_) (fun a_s k_s q1_s q2_s => ?_)⟩
  · dsimp only
    rw [zne_up (by omega)]
    exact g1 k_s hk6
  · dsimp only
    rw [zne_up (by omega)]
    exact fr_s a_s k_s q1_s
  · dsimp only
    rw [zne_up (by omega)]
    exact g1 k_s hk6
  · dsimp only
    rw [zne_up (by omega)]
    exact fr_s a_s k_s q1_s
theorem sp_211 (hk : hKn h_s) (hc_s : tM nh ni nr f_s) (t1_s : ¬ okS ni x1_s x2_s → K_s (-1) (h_s.1, f_s, h_s.2.2.1, h_s.2.2.2)) (t2_s : ∀ i_s : Nat, x1_s.toInt = (i_s : Int) → i_s < ni → 0 ≤ x2_s.toInt → x2_s.toInt ≤ 3 → ∀ v_s f1_s, (∀ k_s, k_s < 6 → f1_s 103 (12 + 8 * k_s + i_s) = stO x2_s.toInt (owI f_s i_s) k_s) → (∀ a_s k_s, ¬ a_s = 112 → ¬ (a_s = 103 ∧ 12 ≤ k_s ∧ k_s < 60 ∧ (k_s - 12) % 8 = i_s) → ¬ (a_s = 119 ∧ k_s < 2) → f1_s a_s k_s = f_s a_s k_s) → K_s v_s (h_s.1, f1_s, h_s.2.2.1, h_s.2.2.2)) : wF F_s 211 (0, [some (.ref 102), some (.int x1_s), some (.int x2_s), none], [], (h_s.1, f_s, h_s.2.2.1, h_s.2.2.2)) (gI K_s) := by
  have e7_s := sb1 hc_s.2.1.2.1
  have b_s := hc_s.1
  unfold okS at t1_s
  refine wF_le (Nat.le_succ F_s) (sg_211_0 (h_s := (h_s.1, f_s, h_s.2.2.1, h_s.2.2.2)) hk ?_)
  dsimp only
  rw [e7_s]
  refine ⟨fun c_s => t1_s (by omega), fun c1_s => ⟨fun c_s => t1_s (by omega), fun c2_s => ⟨fun c_s => t1_s (by omega), fun c3_s => ⟨fun c_s => t1_s (by omega), fun c4_s => ?_⟩⟩⟩⟩
  have hi_s : x1_s.toInt.toNat < ni := by omega
  have h1 : x1_s.toInt = (x1_s.toInt.toNat : Int) := by omega
  have t2_s := t2_s x1_s.toInt.toNat h1 hi_s (by omega) (by omega)
  generalize x1_s.toInt.toNat = i_s at hi_s h1 t2_s
  have hB_s := tM_oB hc_s hi_s
  refine sp_178 hk h1 (by omega) (tM_hd hc_s hi_s).1 (fun f1_s g1 g2 hk1 => ?_)
  refine sp_184 (h_s := (h_s.1, f1_s, h_s.2.2.1, h_s.2.2.2)) (o := owI f_s i_s) hk1 (by omega) g1 hB_s (fun v_s f2_s p1_s p2_s hk2 => ?_)
  refine sp_210 (h_s := (h_s.1, f2_s, h_s.2.2.1, h_s.2.2.2)) hk2 h1 (by omega) (fun f3_s s1_s s2_s _ => ?_)
  have fin_s : ∀ (u_s : Int32) (k3_s : Nat) (v3 : Int32), k3_s < 2 → K_s u_s (h_s.1, zup f3_s 119 k3_s v3, h_s.2.2.1, h_s.2.2.2) := fun u_s k3_s v3 hk3 => by
    refine t2_s u_s _ (fun k_s hk6 => ?_) (fun a_s k_s q1_s q2_s q3_s => ?_)
    · rw [zne_up (by omega), s1_s k_s hk6]
      exact p1_s k_s (by omega)
    · rw [zne_up (by omega), s2_s a_s k_s q2_s, p2_s a_s k_s q1_s, g2 a_s k_s q1_s]
  exact ⟨fun _ => fin_s 0 1 _ (by omega), fun _ => fin_s 1 0 _ (by omega)⟩
theorem pr_stroke (hk : hKn h_s) (hx : tX h_s) : wF F_s 117 (0, [some (.ref 6), some (.int x1_s), some (.int x2_s), none], [], h_s) (gI (fun v_s h1 => wF F_s 211 (0, [some (.ref 102), some (.int x1_s), some (.int x2_s), none], [], h1) (gI (fun v2 h2 => tX h2)))) := by
  obtain ⟨nh, ni, nr, hc_s, hh, hi_, hd_s, hz, hl⟩ := hx
  have hx : tX h_s := ⟨nh, ni, nr, hc_s, hh, hi_, hd_s, hz, hl⟩
  have b_s := hc_s.1
  refine sp_117 (f_s := h_s.2.1) hk hc_s (fun w_s => ?_) (fun i_s e1_s hi_s w0_s w3_s v_s f1_s g1 g2 => ?_)
  · refine sp_211 (f_s := h_s.2.1) hk (tC_M hc_s) (fun _ => hx) (fun i_s e1_s hi_s w0_s w3_s => ?_)
    exact absurd (show okS ni x1_s x2_s by unfold okS; omega) w_s
  · have ho : ∀ a_s k_s, 100 ≤ a_s → f1_s a_s k_s = h_s.2.1 a_s k_s := fun a_s k_s ha_s => g2 a_s k_s (by omega) (by omega)
    have eo : owI f1_s i_s = owI h_s.2.1 i_s := by
      funext k_s
      unfold owI
      rw [ho 103 _ (by omega), ho 103 _ (by omega), ho 103 _ (by omega)]
    have m1_s : tM nh ni nr f1_s := tM_fr (fun k_s _ _ => ho _ _ (by omega)) (fun k_s _ => ho _ _ (by omega)) (tC_M hc_s)
    refine sp_211 (h_s := (h_s.1, f1_s, h_s.2.2.1, h_s.2.2.2)) (f_s := f1_s) hk m1_s (fun u_s => absurd (show okS ni x1_s x2_s by unfold okS; omega) u_s) (fun i1_s d1_s hi1 _ _ v2 f2_s p1_s p2_s => ?_)
    have ei : i1_s = i_s := by omega
    subst ei
    rw [eo] at p1_s
    refine tX_upI (o := stO x2_s.toInt (owI h_s.2.1 i1_s)) hc_s hh hi_ hz hl (by omega) (fun k_s hk6 => ⟨?_, p1_s k_s hk6⟩) (st_B (tC_oB hc_s hi_s)) (fun k_s k2_s k4_s => ?_) (fun _ => rfl) (fun a_s k_s qx s1_s s2_s s3_s => ?_)
    · show f2_s (20 + i1_s) k_s = _
      rw [p2_s _ _ (by omega) (by omega) (by omega)]
      exact g1 k_s hk6
    · show f2_s 73 k_s = f2_s 119 k_s
      rw [p2_s 73 k_s (by omega) (by omega) (by omega), p2_s 119 k_s (by omega) (by omega) (by omega), g2 73 k_s (by omega) (by omega), g2 119 k_s (by omega) (by omega)]
      exact hd_s k_s k2_s k4_s
    · show f2_s a_s k_s = h_s.2.1 a_s k_s
      have n1_s := inX_no qx
      have n2_s : ¬ (a_s = 119 ∧ k_s < 2) ∧ ¬ (a_s = 73 ∧ k_s < 2) := by
        unfold inX inC inH inI inD inZ inW at qx
        omega
      rw [p2_s a_s k_s (by omega) s2_s n2_s.1]
      exact g2 a_s k_s s1_s n2_s.2
/-- head -/
theorem tC_head {f2_s : Nat → Nat → Int32} (hc_s : tC nh ni nr f_s) (hn : nh < 6) (b0 : 0 ≤ x1_s.toInt) (b5 : x1_s.toInt ≤ 5) (e1_s : f2_s 8 nh = x1_s) (e2_s : f2_s 9 nh = 6) (e3_s : (f2_s 7 6).toInt = ((nh + 1 : Nat) : Int)) (e4_s : f2_s 103 nh = x1_s) (e5_s : f2_s 103 (6 + nh) = 6) (e6_s : (f2_s 102 6).toInt = ((nh + 1 : Nat) : Int)) (hf : ∀ a_s k_s, ¬ ((a_s = 8 ∨ a_s = 9) ∧ k_s = nh) → ¬ (a_s = 7 ∧ k_s = 6) → ¬ (a_s = 103 ∧ (k_s = nh ∨ k_s = 6 + nh)) → ¬ (a_s = 102 ∧ k_s = 6) → f2_s a_s k_s = f_s a_s k_s) : tC (nh + 1) ni nr f2_s := by
  obtain ⟨a0_s, ⟨a1_s, a2, a3⟩, ⟨a4, a5, a6⟩, a7, a8, a9⟩ := hc_s
  refine ⟨⟨by omega, a0_s.2⟩, ⟨e3_s, ?_, ?_⟩, ⟨e6_s, ?_, ?_⟩, fun n_s w_s hw hnc h8 => ?_, fun j_s j1 j2_s => ?_, fun r_s hr => ?_⟩
  · rw [hf 7 7 (by omega) (by omega) (by omega) (by omega)]
    exact a2
  · rw [hf 7 8 (by omega) (by omega) (by omega) (by omega)]
    exact a3
  · rw [hf 102 7 (by omega) (by omega) (by omega) (by omega)]
    exact a5
  · rw [hf 102 8 (by omega) (by omega) (by omega) (by omega)]
    exact a6
  · have u_s := a7 n_s w_s hw hnc h8
    by_cases w2_s : w_s < 2
    · rw [cap_h w2_s] at hnc
      rw [cO_h w2_s, cF_h w2_s, plc_h w2_s] at u_s ⊢
      by_cases e_s : n_s = nh
      · subst e_s
        have ew : w_s = 0 ∨ w_s = 1 := by omega
        rcases ew with e_s | e_s
        · subst e_s
          rw [Nat.mul_zero, Nat.zero_add, vB_n (by omega)]
          have e1_s : f2_s (8 + 0) n_s = x1_s := e1_s
          rw [e1_s, e4_s]
          exact ⟨rfl, b0, b5, fun e9_s => absurd e9_s (by omega)⟩
        · subst e_s
          rw [Nat.mul_one, vB_n (by omega)]
          have e2_s : f2_s (8 + 1) n_s = 6 := e2_s
          rw [e2_s, e5_s]
          exact ⟨rfl, by decide, by decide, fun e9_s => absurd e9_s (by omega)⟩
      · rw [hf (8 + w_s) n_s (by omega) (by omega) (by omega) (by omega), hf 103 (6 * w_s + n_s) (by omega) (by omega) (by omega) (by omega)]
        exact ⟨u_s.1, vB_mono (Nat.le_succ nh) (Nat.le_refl nr) (fun e9_s => absurd e9_s (by omega)) u_s.2⟩
    · by_cases w9 : w_s < 9
      · rw [cap_i (by omega) w9] at hnc
        rw [cO_i (by omega) w9, cF_i (by omega) w9, plc_i (by omega) w9] at u_s ⊢
        rw [hf (20 + n_s) (w_s - 2) (by omega) (by omega) (by omega) (by omega), hf 103 (12 + 8 * (w_s - 2) + n_s) (by omega) (by omega) (by omega) (by omega)]
        exact ⟨u_s.1, vB_mono (Nat.le_succ nh) (Nat.le_refl nr) (fun e9_s => absurd e9_s (by omega)) u_s.2⟩
      · rw [cap_r (by omega)] at hnc
        rw [cO_r (by omega), cF_r (by omega), plc_r (by omega)] at u_s ⊢
        rw [hf (28 + n_s) (w_s - 7) (by omega) (by omega) (by omega) (by omega), hf 103 (68 + 12 * (w_s - 9) + n_s) (by omega) (by omega) (by omega) (by omega)]
        refine ⟨u_s.1, ?_⟩
        have u2_s := u_s.2
        rw [vB_n (by omega)] at u2_s ⊢
        exact u2_s
  · rw [hf (20 + j_s) 6 (by omega) (by omega) (by omega) (by omega)]
    exact a8 j_s j1 j2_s
  · rw [hf (28 + r_s) 0 (by omega) (by omega) (by omega) (by omega), hf (28 + r_s) 1 (by omega) (by omega) (by omega) (by omega), hf 107 r_s (by omega) (by omega) (by omega) (by omega), hf 108 r_s (by omega) (by omega) (by omega) (by omega)]
    exact a9 r_s hr
/-- idea -/
theorem tC_idea {f2_s : Nat → Nat → Int32} (hc_s : tC nh ni nr f_s) (hn : ni < 8) (b0 : 0 ≤ x1_s.toInt) (b3 : x1_s.toInt ≤ 3) (d0_s : 0 ≤ x2_s.toInt) (d5_s : x2_s.toInt ≤ 5) (e1_s : f2_s (20 + ni) 0 = x1_s) (e2_s : f2_s (20 + ni) 1 = x2_s) (e3_s : (f2_s 7 7).toInt = ((ni + 1 : Nat) : Int)) (e4_s : f2_s 103 (12 + ni) = x1_s) (e5_s : f2_s 103 (20 + ni) = x2_s) (e7_s : f2_s 103 (60 + ni) = -1) (e6_s : (f2_s 102 7).toInt = ((ni + 1 : Nat) : Int)) (hf : ∀ a_s k_s, ¬ (a_s = 20 + ni ∧ k_s < 2) → ¬ (a_s = 7 ∧ k_s = 7) → ¬ (a_s = 103 ∧ (k_s = 12 + ni ∨ k_s = 20 + ni ∨ k_s = 60 + ni)) → ¬ (a_s = 102 ∧ k_s = 7) → f2_s a_s k_s = f_s a_s k_s) : tC nh (ni + 1) nr f2_s := by
  obtain ⟨a0_s, ⟨a1_s, a2, a3⟩, ⟨a4, a5, a6⟩, a7, a8, a9⟩ := hc_s
  refine ⟨⟨a0_s.1, by omega, a0_s.2.2⟩, ⟨?_, e3_s, ?_⟩, ⟨?_, e6_s, ?_⟩, fun n_s w_s hw hnc h8 => ?_, fun j_s j1 j2_s => ?_, fun r_s hr => ?_⟩
  · rw [hf 7 6 (by omega) (by omega) (by omega) (by omega)]
    exact a1_s
  · rw [hf 7 8 (by omega) (by omega) (by omega) (by omega)]
    exact a3
  · rw [hf 102 6 (by omega) (by omega) (by omega) (by omega)]
    exact a4
  · rw [hf 102 8 (by omega) (by omega) (by omega) (by omega)]
    exact a6
  · by_cases w2_s : w_s < 2
    · have u_s := a7 n_s w_s hw hnc (fun e_s => absurd e_s (by omega))
      rw [cap_h w2_s] at hnc
      rw [cO_h w2_s, cF_h w2_s, plc_h w2_s] at u_s ⊢
      rw [hf (8 + w_s) n_s (by omega) (by omega) (by omega) (by omega), hf 103 (6 * w_s + n_s) (by omega) (by omega) (by omega) (by omega)]
      exact u_s
    · by_cases w9 : w_s < 9
      · by_cases e_s : n_s = ni ∧ (w_s = 2 ∨ w_s = 3 ∨ w_s = 8)
        · obtain ⟨e_s, ew⟩ := e_s
          subst e_s
          rw [cO_i (by omega) w9, cF_i (by omega) w9, plc_i (by omega) w9]
          rcases ew with e_s | e_s | e_s
          · subst e_s
            rw [vB_n (by omega)]
            have e1_s : f2_s (20 + n_s) (2 - 2) = x1_s := e1_s
            have e4_s : f2_s 103 (12 + 8 * (2 - 2) + n_s) = x1_s := e4_s
            rw [e1_s, e4_s]
            exact ⟨rfl, b0, b3, fun e9_s => absurd e9_s (by omega)⟩
          · subst e_s
            rw [vB_n (by omega)]
            have e2_s : f2_s (20 + n_s) (3 - 2) = x2_s := e2_s
            have e5_s : f2_s 103 (12 + 8 * (3 - 2) + n_s) = x2_s := e5_s
            rw [e2_s, e5_s]
            exact ⟨rfl, d0_s, d5_s, fun e9_s => absurd e9_s (by omega)⟩
          · subst e_s
            rw [vB_8]
            have e8 : f2_s (20 + n_s) (8 - 2) = -1 := by
              rw [hf _ _ (by omega) (by omega) (by omega) (by omega)]
              exact a8 n_s (Nat.le_refl n_s) hn
            have e7_s : f2_s 103 (12 + 8 * (8 - 2) + n_s) = -1 := e7_s
            rw [e8, e7_s]
            exact ⟨rfl, by decide, by rw [m1_]; omega⟩
        · have u_s := a7 n_s w_s hw hnc (fun e8 => by have := h8 e8; omega)
          rw [cap_i (by omega) w9] at hnc
          rw [cO_i (by omega) w9, cF_i (by omega) w9, plc_i (by omega) w9] at u_s ⊢
          rw [hf (20 + n_s) (w_s - 2) (by omega) (by omega) (by omega) (by omega), hf 103 (12 + 8 * (w_s - 2) + n_s) (by omega) (by omega) (by omega) (by omega)]
          exact u_s
      · have u_s := a7 n_s w_s hw hnc (fun e_s => absurd e_s (by omega))
        rw [cap_r (by omega)] at hnc
        rw [cO_r (by omega), cF_r (by omega), plc_r (by omega)] at u_s ⊢
        rw [hf (28 + n_s) (w_s - 7) (by omega) (by omega) (by omega) (by omega), hf 103 (68 + 12 * (w_s - 9) + n_s) (by omega) (by omega) (by omega) (by omega)]
        exact u_s
  · rw [hf (20 + j_s) 6 (by omega) (by omega) (by omega) (by omega)]
    exact a8 j_s (by omega) j2_s
  · rw [hf (28 + r_s) 0 (by omega) (by omega) (by omega) (by omega), hf (28 + r_s) 1 (by omega) (by omega) (by omega) (by omega), hf 107 r_s (by omega) (by omega) (by omega) (by omega), hf 108 r_s (by omega) (by omega) (by omega) (by omega)]
    exact a9 r_s hr
/-- all but the country's own cells stay -/
theorem tX_rest {nh1 ni1 nr1 : Nat} {h2 : zH} (h1 : nh ≤ nh1) (h3 : ni ≤ ni1) (h4 : nr ≤ nr1) (hc_s : tC nh1 ni1 nr1 h2.2.1) (hh : tH nh ni nr h_s.2.1) (hi_ : tI nh ni nr h_s.2.1) (hd_s : tD h_s.2.1) (hz : tZ h_s.2.1) (hl : tLw h_s) (hr : ∀ k_s, h2.2.2.2 7 k_s = h_s.2.2.2 7 k_s) (hf : ∀ a_s k_s, inH a_s k_s ∨ inI a_s k_s ∨ inD a_s k_s ∨ inZ a_s k_s ∨ inW a_s k_s → h2.2.1 a_s k_s = h_s.2.1 a_s k_s) : tX h2 :=
  ⟨nh1, ni1, nr1, hc_s, tH_fr (fun a_s k_s q_s => hf a_s k_s (Or.inl q_s)) (tH_mono h1 h4 h3 hh), tI_fr (fun a_s k_s q_s => hf a_s k_s (Or.inr (Or.inl q_s))) (tI_mono h1 h4 h3 hi_) hc_s.1.2.1, tD_fr (fun a_s k_s q_s => hf a_s k_s (Or.inr (Or.inr (Or.inl q_s)))) hd_s, tZ_fr (fun a_s k_s q_s => hf a_s k_s (Or.inr (Or.inr (Or.inr (Or.inl q_s))))) hz, tLw_fr hr (fun a_s k_s q_s => hf a_s k_s (Or.inr (Or.inr (Or.inr (Or.inr q_s))))) hl⟩
theorem ic1 {c_s : Int32} {n_s : Nat} (hc_s : c_s.toInt = (n_s : Int)) (hb_s : n_s ≤ 1000) : (c_s + 1).toInt = ((n_s + 1 : Nat) : Int) ∧ zix c_s = n_s ∧ c_s + 1 - 1 = c_s := by
  have e_s : (c_s + 1).toInt = c_s.toInt + 1 := in1_ (by omega)
  have z_s := azix (i := c_s) (by omega)
  refine ⟨by omega, by omega, Int32.toInt_inj.mp ?_⟩
  rw [sub_i (by omega) (by decide), n1_, e_s]
  omega
theorem pr_head (hk : hKn h_s) (hx : tX h_s) : wF F_s 93 (0, [some (.ref 6), some (.int x1_s)], [], h_s) (gI (fun v_s h1 => wF F_s 155 (0, [some (.ref 102), some (.int x1_s)], [], h1) (gI (fun v2 h2 => v_s = v2 ∧ tX h2)))) := by
  obtain ⟨nh, ni, nr, hc_s, hh, hi_, hd_s, hz, hl⟩ := hx
  have hx : tX h_s := ⟨nh, ni, nr, hc_s, hh, hi_, hd_s, hz, hl⟩
  have b_s := hc_s.1
  have e1_s := hc_s.2.1.1
  have e2_s := hc_s.2.2.1.1
  have ee : h_s.2.1 7 6 = h_s.2.1 102 6 := Int32.toInt_inj.mp (e1_s.trans e2_s.symm)
  obtain ⟨p1_s, p2_s, p3_s⟩ := ic1 e1_s (by omega)
  obtain ⟨q1_s, q2_s, q3_s⟩ := ic1 e2_s (by omega)
  have z6 : zix (6 + h_s.2.1 102 6) = 6 + nh := zxa (c_s := 6) (a_s := 6) rfl e2_s (by omega)
  refine wF_le (Nat.le_succ F_s) (sg_93_0 hk ⟨fun c1_s => ?_, fun c1_s => ⟨fun c2_s => ?_, fun c2_s => ⟨fun c3_s => fun c4_s => ?_, fun c3_s => ?_⟩⟩⟩)
  · exact wF_le (Nat.le_succ F_s) (sg_155_0 hk ⟨fun _ => ⟨rfl, hx⟩, fun c_s => absurd c1_s c_s⟩)
  · exact wF_le (Nat.le_succ F_s) (sg_155_0 hk ⟨fun c_s => absurd c_s c1_s, fun _ => ⟨fun _ => ⟨rfl, hx⟩, fun c_s => absurd c2_s c_s⟩⟩)
  · rw [p2_s]
    generalize hg : zup (zup (zup h_s.2.1 8 nh x1_s) 9 nh 6) 7 6 (h_s.2.1 7 6 + 1) = g_s
    have gf : ∀ a_s k_s, ¬ ((a_s = 8 ∨ a_s = 9) ∧ k_s = nh) → ¬ (a_s = 7 ∧ k_s = 6) → g_s a_s k_s = h_s.2.1 a_s k_s := fun a_s k_s w1_s w2_s => by rw [← hg, zne_up (by omega), zne_up (by omega), zne_up (by omega)]
    have e6_s : g_s 102 6 = h_s.2.1 102 6 := gf 102 6 (by omega) (by omega)
    refine wF_le (Nat.le_succ F_s) (sg_155_0 (h_s := (h_s.1, g_s, h_s.2.2.1, h_s.2.2.2)) hk ?_)
    dsimp only
    rw [e6_s, q2_s, z6, q3_s, e2_s]
    refine ⟨fun c_s => absurd c_s c1_s, fun _ => ⟨fun c_s => absurd c_s c2_s, fun _ => ⟨fun c_s => absurd c_s (by omega), fun _ => fun _ => fun _ => ⟨ee, ?_⟩⟩⟩⟩
    refine tX_rest (h_s := h_s) (nh1 := nh + 1) (Nat.le_succ nh) (Nat.le_refl ni) (Nat.le_refl nr) (tC_head (x1_s := x1_s) hc_s (by omega) (by omega) (by omega) ?_ ?_ ?_ ?_ ?_ ?_ (fun a_s k_s w1_s w2_s w3_s w4_s => ?_)) hh hi_ hd_s hz hl (fun _ => rfl) (fun a_s k_s w_s => ?_)
    · dsimp only
      rw [zne_up (by omega), zne_up (by omega), zne_up (by omega), ← hg, zne_up (by omega), zne_up (by omega), zsame_up]
    · dsimp only
      rw [zne_up (by omega), zne_up (by omega), zne_up (by omega), ← hg, zne_up (by omega), zsame_up]
    · dsimp only
      rw [zne_up (by omega), zne_up (by omega), zne_up (by omega), ← hg, zsame_up]
      exact p1_s
    · dsimp only
      rw [zne_up (by omega), zne_up (by omega), zsame_up]
    · dsimp only
      rw [zne_up (by omega), zsame_up]
    · dsimp only
      rw [zsame_up]
      exact q1_s
    · dsimp only
      rw [zne_up (by omega), zne_up (by omega), zne_up (by omega)]
      exact gf a_s k_s w1_s w2_s
    · dsimp only
      unfold inH inI inD inZ inW at w_s
      rw [zne_up (by omega), zne_up (by omega), zne_up (by omega)]
      exact gf a_s k_s (by omega) (by omega)
  · refine wF_le (Nat.le_succ F_s) (sg_155_0 hk ⟨fun c_s => absurd c_s c1_s, fun _ => ⟨fun c_s => absurd c_s c2_s, fun _ => ⟨fun _ => ⟨rfl, hx⟩, fun c_s => ?_⟩⟩⟩)
    omega
theorem pr_idea (hk : hKn h_s) (hx : tX h_s) : wF F_s 94 (0, [some (.ref 6), some (.int x1_s), some (.int x2_s), none], [], h_s) (gI (fun v_s h1 => wF F_s 156 (0, [some (.ref 102), some (.int x1_s), some (.int x2_s)], [], h1) (gI (fun v2 h2 => v_s = v2 ∧ tX h2)))) := by
  obtain ⟨nh, ni, nr, hc_s, hh, hi_, hd_s, hz, hl⟩ := hx
  have hx : tX h_s := ⟨nh, ni, nr, hc_s, hh, hi_, hd_s, hz, hl⟩
  have b_s := hc_s.1
  have e1_s := hc_s.2.1.2.1
  have e2_s := hc_s.2.2.1.2.1
  have ee : h_s.2.1 7 7 = h_s.2.1 102 7 := Int32.toInt_inj.mp (e1_s.trans e2_s.symm)
  obtain ⟨p1_s, p2_s, p3_s⟩ := ic1 e1_s (by omega)
  obtain ⟨q1_s, q2_s, q3_s⟩ := ic1 e2_s (by omega)
  have z12 : zix (12 + h_s.2.1 102 7) = 12 + ni := zxa (c_s := 12) (a_s := 12) rfl e2_s (by omega)
  have z20 : zix (20 + h_s.2.1 102 7) = 20 + ni := zxa (c_s := 20) (a_s := 20) rfl e2_s (by omega)
  have z60_s : zix (60 + h_s.2.1 102 7) = 60 + ni := zxa (c_s := 60) (a_s := 60) rfl e2_s (by omega)
  refine wF_le (Nat.le_succ F_s) (sg_94_0 hk ⟨fun c1_s => ?_, fun c1_s => ⟨fun c2_s => ?_, fun c2_s => ⟨fun c3_s => ?_, fun c3_s => ⟨fun c4_s => ?_, fun c4_s => ⟨fun c5_s => fun c6_s => ?_, fun c5_s => ?_⟩⟩⟩⟩⟩)
  · exact wF_le (Nat.le_succ F_s) (sg_156_0 hk ⟨fun _ => ⟨rfl, hx⟩, fun c_s => absurd c1_s c_s⟩)
  · exact wF_le (Nat.le_succ F_s) (sg_156_0 hk ⟨fun c_s => absurd c_s c1_s, fun _ => ⟨fun _ => ⟨rfl, hx⟩, fun c_s => absurd c2_s c_s⟩⟩)
  · exact wF_le (Nat.le_succ F_s) (sg_156_0 hk ⟨fun c_s => absurd c_s c1_s, fun _ => ⟨fun c_s => absurd c_s c2_s, fun _ => ⟨fun _ => ⟨rfl, hx⟩, fun c_s => absurd c3_s c_s⟩⟩⟩)
  · exact wF_le (Nat.le_succ F_s) (sg_156_0 hk ⟨fun c_s => absurd c_s c1_s, fun _ => ⟨fun c_s => absurd c_s c2_s, fun _ => ⟨fun c_s => absurd c_s c3_s, fun _ => ⟨fun _ => ⟨rfl, hx⟩, fun c_s => absurd c4_s c_s⟩⟩⟩⟩)
  · rw [p2_s]
    have r7 : ∀ v1_s v2 : Int32, zup (zup h_s.2.1 (20 + ni) 0 v1_s) (20 + ni) 1 v2 7 7 = h_s.2.1 7 7 := fun v1_s v2 => by rw [zne_up (by omega), zne_up (by omega)]
    rw [r7]
    generalize hg : zup (zup (zup h_s.2.1 (20 + ni) 0 x1_s) (20 + ni) 1 x2_s) 7 7 (h_s.2.1 7 7 + 1) = g_s
    have gf : ∀ a_s k_s, ¬ (a_s = 20 + ni ∧ k_s < 2) → ¬ (a_s = 7 ∧ k_s = 7) → g_s a_s k_s = h_s.2.1 a_s k_s := fun a_s k_s w1_s w2_s => by rw [← hg, zne_up (by omega), zne_up (by omega), zne_up (by omega)]
    have e6_s : g_s 102 7 = h_s.2.1 102 7 := gf 102 7 (by omega) (by omega)
    refine wF_le (Nat.le_succ F_s) (sg_156_0 (h_s := (h_s.1, g_s, h_s.2.2.1, h_s.2.2.2)) hk ?_)
    dsimp only
    rw [e6_s, z12, z20, z60_s, q3_s, e2_s]
    refine ⟨fun c_s => absurd c_s c1_s, fun _ => ⟨fun c_s => absurd c_s c2_s, fun _ => ⟨fun c_s => absurd c_s c3_s, fun _ => ⟨fun c_s => absurd c_s c4_s, fun _ => ⟨fun c_s => absurd c_s (by omega), fun _ => fun _ => fun _ => fun _ => ⟨ee, ?_⟩⟩⟩⟩⟩⟩
    refine tX_rest (h_s := h_s) (ni1 := ni + 1) (Nat.le_refl nh) (Nat.le_succ ni) (Nat.le_refl nr) (tC_idea (x1_s := x1_s) (x2_s := x2_s) hc_s (by omega) (by omega) (by omega) (by omega) (by omega) ?_ ?_ ?_ ?_ ?_ ?_ ?_ (fun a_s k_s w1_s w2_s w3_s w4_s => ?_)) hh hi_ hd_s hz hl (fun _ => rfl) (fun a_s k_s w_s => ?_)
    · dsimp only
      rw [zne_up (by omega), zne_up (by omega), zne_up (by omega), zne_up (by omega), ← hg, zne_up (by omega), zne_up (by omega), zsame_up]
    · dsimp only
      rw [zne_up (by omega), zne_up (by omega), zne_up (by omega), zne_up (by omega), ← hg, zne_up (by omega), zsame_up]
    · dsimp only
      rw [zne_up (by omega), zne_up (by omega), zne_up (by omega), zne_up (by omega), ← hg, zsame_up]
      exact p1_s
    · dsimp only
      rw [zne_up (by omega), zne_up (by omega), zne_up (by omega), zsame_up]
    · dsimp only
      rw [zne_up (by omega), zne_up (by omega), zsame_up]
    · dsimp only
      rw [zne_up (by omega), zsame_up]
    · dsimp only
      rw [zsame_up]
      exact q1_s
    · dsimp only
      rw [zne_up (by omega), zne_up (by omega), zne_up (by omega), zne_up (by omega)]
      exact gf a_s k_s w1_s w2_s
    · dsimp only
      unfold inH inI inD inZ inW at w_s
      rw [zne_up (by omega), zne_up (by omega), zne_up (by omega), zne_up (by omega)]
      exact gf a_s k_s (by omega) (by omega)
  · refine wF_le (Nat.le_succ F_s) (sg_156_0 hk ⟨fun c_s => absurd c_s c1_s, fun _ => ⟨fun c_s => absurd c_s c2_s, fun _ => ⟨fun c_s => absurd c_s c3_s, fun _ => ⟨fun c_s => absurd c_s c4_s, fun _ => ⟨fun _ => ⟨rfl, hx⟩, fun c_s => ?_⟩⟩⟩⟩⟩)
    omega
end S4
/-! AN IMAGE, and it is laid back. -/
section S5
variable {F_s : Nat} {h_s : zH} {K_s : Int32 → zH → Prop} {V : zH → Prop} {nh ni nr d_s e_s : Nat} {x1_s x2_s : Int32} {f_s : Nat → Nat → Int32}
theorem sp_35 (hk : hKn h_s) (hne : ¬ e_s = d_s) (t_s : ∀ f1_s, (∀ k_s, k_s < 7 → f1_s d_s k_s = f_s e_s k_s) → (∀ a_s k_s, ¬ (a_s = d_s ∧ k_s < 7) → f1_s a_s k_s = f_s a_s k_s) → V (h_s.1, f1_s, h_s.2.2.1, h_s.2.2.2)) : wF F_s 35 (0, [some (.ref d_s), some (.ref e_s)], [], (h_s.1, f_s, h_s.2.2.1, h_s.2.2.2)) (gV V) := by
  have r_s : ∀ (g_s : Nat → Nat → Int32) (j_s k_s : Nat) (v_s : Int32), zup g_s d_s j_s v_s e_s k_s = g_s e_s k_s := fun _ _ _ _ => zne_up (fun w_s => hne w_s.1)
  refine wF_le (Nat.le_succ F_s) (sg_35_0 (h_s := (h_s.1, f_s, h_s.2.2.1, h_s.2.2.2)) hk ?_)
  dsimp only
  simp only [r_s]
  refine t_s _ (fun k_s hk7 => ?_) (fun a_s k_s q_s => ?_)
  · have e7_s : k_s = 0 ∨ k_s = 1 ∨ k_s = 2 ∨ k_s = 3 ∨ k_s = 4 ∨ k_s = 5 ∨ k_s = 6 := by omega
    rcases e7_s with e_s | e_s | e_s | e_s | e_s | e_s | e_s <;> (subst e_s; simp (disch := omega) only [zne_up, zsame_up])
  · rw [zne_up (by omega), zne_up (by omega), zne_up (by omega), zne_up (by omega), zne_up (by omega), zne_up (by omega), zne_up (by omega)]
theorem sp_36 (hk : hKn h_s) (hne : ¬ e_s = d_s) (t_s : ∀ f1_s, (∀ k_s, k_s < 7 → ¬ k_s = 0 → ¬ k_s = 4 → f1_s d_s k_s = f_s e_s k_s) → (∀ a_s k_s, ¬ (a_s = d_s ∧ k_s < 7 ∧ ¬ k_s = 0 ∧ ¬ k_s = 4) → f1_s a_s k_s = f_s a_s k_s) → V (h_s.1, f1_s, h_s.2.2.1, h_s.2.2.2)) : wF F_s 36 (0, [some (.ref d_s), some (.ref e_s)], [], (h_s.1, f_s, h_s.2.2.1, h_s.2.2.2)) (gV V) := by
  have r_s : ∀ (g_s : Nat → Nat → Int32) (j_s k_s : Nat) (v_s : Int32), zup g_s d_s j_s v_s e_s k_s = g_s e_s k_s := fun _ _ _ _ => zne_up (fun w_s => hne w_s.1)
  refine wF_le (Nat.le_succ F_s) (sg_36_0 (h_s := (h_s.1, f_s, h_s.2.2.1, h_s.2.2.2)) hk ?_)
  dsimp only
  simp only [r_s]
  refine t_s _ (fun k_s hk7 k0_s k4_s => ?_) (fun a_s k_s q_s => ?_)
  · have e7_s : k_s = 1 ∨ k_s = 2 ∨ k_s = 3 ∨ k_s = 5 ∨ k_s = 6 := by omega
    rcases e7_s with e_s | e_s | e_s | e_s | e_s <;> (subst e_s; simp (disch := omega) only [zne_up, zsame_up])
  · rw [zne_up (by omega), zne_up (by omega), zne_up (by omega), zne_up (by omega), zne_up (by omega)]
/-- image, the class -/
theorem im121 {f0_s : Nat → Nat → Int32} (hk : hKn h_s) (hn : (f0_s 7 7).toInt = (ni : Int)) (hb_s : ni ≤ 8) (t_s : ∀ f1_s, (∀ i_s k_s, i_s < ni → k_s < 7 → f1_s (94 + i_s) k_s = f0_s (20 + i_s) k_s) → (∀ k_s, k_s < 5 → f1_s 75 k_s = f0_s 73 k_s) → f1_s 6 12 = f0_s 7 7 → (∀ a_s k_s, ¬ (94 ≤ a_s ∧ a_s < 102 ∧ k_s < 7) → ¬ (a_s = 75 ∧ k_s < 5) → ¬ (a_s = 6 ∧ k_s = 12) → f1_s a_s k_s = f0_s a_s k_s) → K_s (f0_s 73 3) (h_s.1, f1_s, h_s.2.2.1, h_s.2.2.2)) : ∀ (F_s j_s : Nat) (x1_s : Int32) (f_s : Nat → Nat → Int32), x1_s.toInt = (j_s : Int) → j_s ≤ ni → (∀ i_s k_s, i_s < j_s → k_s < 7 → f_s (94 + i_s) k_s = f0_s (20 + i_s) k_s) → (∀ a_s k_s, ¬ (94 ≤ a_s ∧ a_s < 102 ∧ k_s < 7) → f_s a_s k_s = f0_s a_s k_s) → wF F_s 121 (2, [some (.ref 6), some (.int x1_s)], [], (h_s.1, f_s, h_s.2.2.1, h_s.2.2.2)) (gI K_s)
  | 0, _, _, _, _, _, _, _ => wF_zero
  | F_s + 1, j_s, x1_s, f_s, hx, hj, hf, hg => by
    have z_s := azix (i := x1_s) (by omega)
    have ez : zix x1_s = j_s := by omega
    have e77 : f_s 7 7 = f0_s 7 7 := hg 7 7 (by omega)
    refine sg_121_2 (h_s := (h_s.1, f_s, h_s.2.2.1, h_s.2.2.2)) hk ?_
    dsimp only
    rw [ez, e77, hn]
    refine ⟨fun c1_s _ => ?_, fun c1_s _ => ?_⟩
    · refine sp_35 hk (by omega) (fun f1_s g1 g2 _ => ?_)
      refine im121 (f0_s := f0_s) hk hn hb_s t_s F_s (j_s + 1) (x1_s + 1) f1_s (by rw [in1_ (by omega)]; omega) (by omega) (fun i_s k_s hi_s hk7 => ?_) (fun a_s k_s q_s => ?_)
      · by_cases e_s : i_s = j_s
        · rw [e_s, g1 k_s hk7]
          exact hg _ _ (by omega)
        · rw [g2 _ _ (by omega)]
          exact hf i_s k_s (by omega) hk7
      · rw [g2 _ _ (by omega)]
        exact hg a_s k_s q_s
    · have ej : j_s = ni := by omega
      subst ej
      have e73 : ∀ k_s, f_s 73 k_s = f0_s 73 k_s := fun k_s => hg 73 k_s (by omega)
      rw [e73 3]
      refine t_s _ (fun i_s k_s hi_s hk7 => ?_) (fun k_s hk5 => ?_) ?_ (fun a_s k_s q1_s q2_s q3_s => ?_)
      · rw [zne_up (by omega), zrw_n (by omega)]
        exact hf i_s k_s hi_s hk7
      · rw [zne_up (by omega), zrw_s, zcp_i (by omega)]
        rw [show 0 + (k_s - 0) = k_s by omega]
        exact e73 k_s
      · rw [zsame_up]
      · rw [zne_up (by omega)]
        by_cases e_s : a_s = 75
        · subst e_s
          rw [zrw_s, zcp_o (by omega)]
          exact hg 75 k_s (by omega)
        · rw [zrw_n e_s]
          exact hg a_s k_s q1_s
theorem sp_121 (hk : hKn h_s) (hn : (f_s 7 7).toInt = (ni : Int)) (hb_s : ni ≤ 8) (t_s : ∀ f1_s, (∀ i_s k_s, i_s < ni → k_s < 7 → f1_s (94 + i_s) k_s = f_s (20 + i_s) k_s) → (∀ k_s, k_s < 5 → f1_s 75 k_s = f_s 73 k_s) → f1_s 6 12 = f_s 7 7 → (∀ a_s k_s, ¬ (94 ≤ a_s ∧ a_s < 102 ∧ k_s < 7) → ¬ (a_s = 75 ∧ k_s < 5) → ¬ (a_s = 6 ∧ k_s = 12) → f1_s a_s k_s = f_s a_s k_s) → K_s (f_s 73 3) (h_s.1, f1_s, h_s.2.2.1, h_s.2.2.2)) : wF F_s 121 (0, [some (.ref 6), none], [], (h_s.1, f_s, h_s.2.2.1, h_s.2.2.2)) (gI K_s) := wF_le (Nat.le_succ F_s) (sg_121_0 (h_s := (h_s.1, f_s, h_s.2.2.1, h_s.2.2.2)) hk (im121 hk hn hb_s t_s F_s 0 0 f_s rfl (Nat.zero_le _) (fun i_s k_s hi_s _ => absurd hi_s (Nat.not_lt_zero i_s)) (fun _ _ _ => rfl)))
/-- image, the reference -/
theorem im215b {f0_s : Nat → Nat → Int32} (hk : hKn h_s) (t_s : ∀ f1_s, (∀ k_s, k_s < 5 → f1_s 121 k_s = f0_s 119 k_s) → (∀ a_s k_s, ¬ (a_s = 121 ∧ k_s < 5) → f1_s a_s k_s = f0_s a_s k_s) → K_s (f0_s 119 3) (h_s.1, f1_s, h_s.2.2.1, h_s.2.2.2)) : ∀ (F_s j_s : Nat) (x1_s : Int32) (f_s : Nat → Nat → Int32), x1_s.toInt = (j_s : Int) → j_s ≤ 5 → (∀ k_s, k_s < j_s → f_s 121 k_s = f0_s 119 k_s) → (∀ a_s k_s, ¬ (a_s = 121 ∧ k_s < 5) → f_s a_s k_s = f0_s a_s k_s) → wF F_s 215 (41, [some (.ref 102), some (.int x1_s)], [], (h_s.1, f_s, h_s.2.2.1, h_s.2.2.2)) (gI K_s)
  | 0, _, _, _, _, _, _, _ => wF_zero
  | F_s + 1, j_s, x1_s, f_s, hx, hj, hf, hg => by
    have z_s := azix (i := x1_s) (by omega)
    have ez : zix x1_s = j_s := by omega
    refine sg_215_41 (h_s := (h_s.1, f_s, h_s.2.2.1, h_s.2.2.2)) hk ?_
    dsimp only
    rw [ez, hg 119 j_s (by omega), hg 119 3 (by omega)]
    refine ⟨fun c1_s _ => ?_, fun c1_s => ?_⟩
    · refine im215b (f0_s := f0_s) hk t_s F_s (j_s + 1) (x1_s + 1) _ (by rw [in1_ (by omega)]; omega) (by omega) (fun k_s hk1 => ?_) (fun a_s k_s q_s => ?_)
      · by_cases e_s : k_s = j_s
        · rw [e_s, zsame_up]
        · rw [zne_up (by omega)]
          exact hf k_s (by omega)
      · rw [zne_up (by omega)]
        exact hg a_s k_s q_s
    · have ej : j_s = 5 := by omega
      subst ej
      exact t_s f_s hf hg
theorem im215a {f0_s : Nat → Nat → Int32} (hk : hKn h_s) (t_s : ∀ f1_s, (∀ k_s, k_s < 104 → f1_s 120 k_s = f0_s 103 k_s) → (∀ k_s, k_s < 5 → f1_s 121 k_s = f0_s 119 k_s) → (∀ a_s k_s, ¬ (a_s = 120 ∧ k_s < 104) → ¬ (a_s = 121 ∧ k_s < 5) → f1_s a_s k_s = f0_s a_s k_s) → K_s (f0_s 119 3) (h_s.1, f1_s, h_s.2.2.1, h_s.2.2.2)) : ∀ (F_s j_s : Nat) (x1_s : Int32) (f_s : Nat → Nat → Int32), x1_s.toInt = (j_s : Int) → j_s ≤ 104 → (∀ k_s, k_s < j_s → f_s 120 k_s = f0_s 103 k_s) → (∀ a_s k_s, ¬ (a_s = 120 ∧ k_s < 104) → f_s a_s k_s = f0_s a_s k_s) → wF F_s 215 (15, [some (.ref 102), some (.int x1_s)], [], (h_s.1, f_s, h_s.2.2.1, h_s.2.2.2)) (gI K_s)
  | 0, _, _, _, _, _, _, _ => wF_zero
  | F_s + 1, j_s, x1_s, f_s, hx, hj, hf, hg => by
    have z_s := azix (i := x1_s) (by omega)
    have ez : zix x1_s = j_s := by omega
    refine sg_215_15 (h_s := (h_s.1, f_s, h_s.2.2.1, h_s.2.2.2)) hk ?_
    dsimp only
    rw [ez, hg 103 j_s (by omega)]
    refine ⟨fun c1_s _ => ?_, fun c1_s => ?_⟩
    · refine im215a (f0_s := f0_s) hk t_s F_s (j_s + 1) (x1_s + 1) _ (by rw [in1_ (by omega)]; omega) (by omega) (fun k_s hk1 => ?_) (fun a_s k_s q_s => ?_)
      · by_cases e_s : k_s = j_s
        · rw [e_s, zsame_up]
        · rw [zne_up (by omega)]
          exact hf k_s (by omega)
      · rw [zne_up (by omega)]
        exact hg a_s k_s q_s
    · have ej : j_s = 104 := by omega
      subst ej
      have e119 : ∀ k_s, f_s 119 k_s = f0_s 119 k_s := fun k_s => hg 119 k_s (by omega)
      refine im215b (f0_s := f_s) hk (fun f1_s g1 g2 => ?_) F_s 0 0 f_s rfl (Nat.zero_le _) (fun k_s hq => absurd hq (Nat.not_lt_zero k_s)) (fun _ _ _ => rfl)
      rw [e119]
      refine t_s f1_s (fun k_s hk1 => ?_) (fun k_s hk5 => ?_) (fun a_s k_s q1_s q2_s => ?_)
      · rw [g2 _ _ (by omega)]
        exact hf k_s hk1
      · rw [g1 k_s hk5]
        exact e119 k_s
      · rw [g2 a_s k_s q2_s]
        exact hg a_s k_s q1_s
theorem sp_215 (hk : hKn h_s) (t_s : ∀ f1_s, (∀ k_s, k_s < 104 → f1_s 120 k_s = f_s 103 k_s) → (∀ k_s, k_s < 5 → f1_s 121 k_s = f_s 119 k_s) → f1_s 102 36 = f_s 102 7 → f1_s 102 35 = 1 → (∀ a_s k_s, ¬ (a_s = 120 ∧ k_s < 104) → ¬ (a_s = 121 ∧ k_s < 5) → ¬ (a_s = 102 ∧ (k_s = 35 ∨ k_s = 36)) → f1_s a_s k_s = f_s a_s k_s) → K_s (f_s 119 3) (h_s.1, f1_s, h_s.2.2.1, h_s.2.2.2)) : wF F_s 215 (0, [some (.ref 102), none], [], (h_s.1, f_s, h_s.2.2.1, h_s.2.2.2)) (gI K_s) := by
  refine wF_le (Nat.le_succ F_s) (sg_215_0 (h_s := (h_s.1, f_s, h_s.2.2.1, h_s.2.2.2)) hk ?_)
  dsimp only
  have e3_s : ∀ k_s, zup (zup f_s 102 35 1) 102 36 (f_s 102 7) 119 k_s = f_s 119 k_s := fun k_s => by rw [zne_up (by omega), zne_up (by omega)]
  refine im215a (f0_s := zup (zup f_s 102 35 1) 102 36 (f_s 102 7)) hk (fun f1_s g1 g2 g3_s => ?_) F_s 0 0 _ rfl (Nat.zero_le _) (fun k_s hq => absurd hq (Nat.not_lt_zero k_s)) (fun _ _ _ => rfl)
  rw [e3_s]
  refine t_s f1_s (fun k_s hk1 => ?_) (fun k_s hk5 => ?_) ?_ ?_ (fun a_s k_s q1_s q2_s q3_s => ?_)
  · rw [g1 k_s hk1, zne_up (by omega), zne_up (by omega)]
  · rw [g2 k_s hk5, e3_s]
  · rw [g3_s _ _ (by omega) (by omega), zsame_up]
  · rw [g3_s _ _ (by omega) (by omega), zne_up (by omega), zsame_up]
  · rw [g3_s a_s k_s q1_s q2_s, zne_up (by omega), zne_up (by omega)]
theorem pr_image (hk : hKn h_s) (hx : tX h_s) : wF F_s 121 (0, [some (.ref 6), none], [], h_s) (gI (fun v_s h1 => wF F_s 215 (0, [some (.ref 102), none], [], h1) (gI (fun v2 h2 => v_s = v2 ∧ tX h2)))) := by
  obtain ⟨nh, ni, nr, hc_s, hh, hi_, hd_s, hz, hl⟩ := hx
  have b_s := hc_s.1
  refine sp_121 (f_s := h_s.2.1) hk hc_s.2.1.2.1 b_s.2.1 (fun f1_s g1 g2 g3_s g4 => ?_)
  refine sp_215 (h_s := (h_s.1, f1_s, h_s.2.2.1, h_s.2.2.2)) (f_s := f1_s) hk (fun f2_s p1_s p2_s p3_s p4_s p5_s => ?_)
  have e119 : f1_s 119 3 = h_s.2.1 119 3 := g4 119 3 (by omega) (by omega) (by omega)
  refine ⟨by rw [e119]; exact hd_s 3 (by omega) (by omega), nh, ni, nr, tC_fr (fun a_s k_s q_s => ?_) hc_s, tH_fr (fun a_s k_s q_s => ?_) hh, Or.inr ⟨ni, Nat.le_refl ni, ?_, ?_, ?_, fun i_s k_s hi_s hk7 k0_s k4_s => ?_, fun k_s k2_s k4_s => ?_⟩, tD_fr (fun a_s k_s q_s => ?_) hd_s, tZ_fr (fun a_s k_s q_s => ?_) hz, tLw_fr (h_s := h_s) (fun _ => rfl) (fun a_s k_s q_s => ?_) hl⟩
  · show f2_s a_s k_s = h_s.2.1 a_s k_s
    unfold inC at q_s
    rw [p5_s a_s k_s (by omega) (by omega) (by omega)]
    exact g4 a_s k_s (by omega) (by omega) (by omega)
  · show f2_s a_s k_s = h_s.2.1 a_s k_s
    unfold inH at q_s
    rw [p5_s a_s k_s (by omega) (by omega) (by omega)]
    exact g4 a_s k_s (by omega) (by omega) (by omega)
  · show (f2_s 6 12).toInt = (ni : Int)
    rw [p5_s 6 12 (by omega) (by omega) (by omega), g3_s]
    exact hc_s.2.1.2.1
  · show (f2_s 102 36).toInt = (ni : Int)
    rw [p3_s, g4 102 7 (by omega) (by omega) (by omega)]
    exact hc_s.2.2.1.2.1
  · show ¬ (f2_s 102 35).toInt = 0
    rw [p4_s]
    decide
  · show f2_s (94 + i_s) k_s = f2_s 120 (12 + 8 * k_s + i_s) ∧ vB nh nr i_s (k_s + 2) (f2_s 120 (12 + 8 * k_s + i_s)).toInt
    rw [p5_s (94 + i_s) k_s (by omega) (by omega) (by omega), g1 i_s k_s hi_s hk7, p1_s _ (by omega), g4 103 _ (by omega) (by omega) (by omega)]
    have u_s := hc_s.2.2.2.1 i_s (k_s + 2) (by omega) (by rw [cap_i (by omega) (by omega)]; omega) (fun _ => hi_s)
    rw [cO_i (by omega) (by omega), cF_i (by omega) (by omega), plc_i (by omega) (by omega), Nat.add_sub_cancel] at u_s
    exact u_s
  · show f2_s 75 k_s = f2_s 121 k_s
    rw [p5_s 75 k_s (by omega) (by omega) (by omega), g2 k_s (by omega), p2_s k_s (by omega), g4 119 k_s (by omega) (by omega) (by omega)]
    exact hd_s k_s k2_s k4_s
  · show f2_s a_s k_s = h_s.2.1 a_s k_s
    unfold inD at q_s
    rw [p5_s a_s k_s (by omega) (by omega) (by omega)]
    exact g4 a_s k_s (by omega) (by omega) (by omega)
  · show f2_s a_s k_s = h_s.2.1 a_s k_s
    unfold inZ at q_s
    rw [p5_s a_s k_s (by omega) (by omega) (by omega)]
    exact g4 a_s k_s (by omega) (by omega) (by omega)
  · show f2_s a_s k_s = h_s.2.1 a_s k_s
    unfold inW at q_s
    rw [p5_s a_s k_s (by omega) (by omega) (by omega)]
    exact g4 a_s k_s (by omega) (by omega) (by omega)
/-- back, the class -/
theorem bk122 {ic : Nat} {f0_s : Nat → Nat → Int32} (hk : hKn h_s) (hn : (f0_s 6 12).toInt = (ic : Int)) (hb_s : ic ≤ 8) (t_s : ∀ f1_s, (∀ i_s k_s, i_s < ic → k_s < 7 → ¬ k_s = 0 → ¬ k_s = 4 → f1_s (20 + i_s) k_s = f0_s (94 + i_s) k_s) → (∀ k_s, k_s < 5 → f1_s 73 k_s = f0_s 75 k_s) → (∀ a_s k_s, ¬ (20 ≤ a_s ∧ a_s < 20 + ic ∧ k_s < 7 ∧ ¬ k_s = 0 ∧ ¬ k_s = 4) → ¬ (a_s = 73 ∧ k_s < 5) → f1_s a_s k_s = f0_s a_s k_s) → K_s (f0_s 75 3) (h_s.1, f1_s, h_s.2.2.1, h_s.2.2.2)) : ∀ (F_s j_s : Nat) (x1_s : Int32) (f_s : Nat → Nat → Int32), x1_s.toInt = (j_s : Int) → j_s ≤ ic → (∀ i_s k_s, i_s < j_s → k_s < 7 → ¬ k_s = 0 → ¬ k_s = 4 → f_s (20 + i_s) k_s = f0_s (94 + i_s) k_s) → (∀ a_s k_s, ¬ (20 ≤ a_s ∧ a_s < 20 + j_s ∧ k_s < 7 ∧ ¬ k_s = 0 ∧ ¬ k_s = 4) → f_s a_s k_s = f0_s a_s k_s) → wF F_s 122 (13, [some (.ref 6), some (.int x1_s)], [], (h_s.1, f_s, h_s.2.2.1, h_s.2.2.2)) (gI K_s)
  | 0, _, _, _, _, _, _, _ => wF_zero
  | F_s + 1, j_s, x1_s, f_s, hx, hj, hf, hg => by
    have z_s := azix (i := x1_s) (by omega)
    have ez : zix x1_s = j_s := by omega
    have e612 : f_s 6 12 = f0_s 6 12 := hg 6 12 (by omega)
    refine sg_122_13 (h_s := (h_s.1, f_s, h_s.2.2.1, h_s.2.2.2)) hk ?_
    dsimp only
    rw [ez, e612, hn]
    refine ⟨fun c1_s _ => ?_, fun c1_s _ => ?_⟩
    · refine sp_36 hk (by omega) (fun f1_s g1 g2 _ => ?_)
      refine bk122 (f0_s := f0_s) hk hn hb_s t_s F_s (j_s + 1) (x1_s + 1) f1_s (by rw [in1_ (by omega)]; omega) (by omega) (fun i_s k_s hi_s hk7 k0_s k4_s => ?_) (fun a_s k_s q_s => ?_)
      · by_cases e_s : i_s = j_s
        · rw [e_s, g1 k_s hk7 k0_s k4_s]
          exact hg _ _ (by omega)
        · rw [g2 _ _ (by omega)]
          exact hf i_s k_s (by omega) hk7 k0_s k4_s
      · rw [g2 _ _ (by omega)]
        exact hg a_s k_s (by omega)
    · have ej : j_s = ic := by omega
      subst ej
      have e75 : ∀ k_s, f_s 75 k_s = f0_s 75 k_s := fun k_s => hg 75 k_s (by omega)
      have e3_s : zrow f_s 73 (zcpy (f_s 75) (f_s 73) 0 0 5) 73 3 = f0_s 75 3 := by
        rw [zrw_s, zcp_i (by omega)]
        exact e75 3
      rw [e3_s]
      refine t_s _ (fun i_s k_s hi_s hk7 k0_s k4_s => ?_) (fun k_s hk5 => ?_) (fun a_s k_s q1_s q2_s => ?_)
      · rw [zrw_n (by omega)]
        exact hf i_s k_s hi_s hk7 k0_s k4_s
      · rw [zrw_s, zcp_i (by omega), show 0 + (k_s - 0) = k_s by omega]
        exact e75 k_s
      · by_cases e_s : a_s = 73
        · subst e_s
          rw [zrw_s, zcp_o (by omega)]
          exact hg 73 k_s (by omega)
        · rw [zrw_n e_s]
          exact hg a_s k_s q1_s
theorem bk216b {f0_s : Nat → Nat → Int32} (hk : hKn h_s) (t_s : ∀ f1_s, (∀ k_s, k_s < 5 → f1_s 119 k_s = f0_s 121 k_s) → (∀ a_s k_s, ¬ (a_s = 119 ∧ k_s < 5) → f1_s a_s k_s = f0_s a_s k_s) → K_s (f0_s 121 3) (h_s.1, f1_s, h_s.2.2.1, h_s.2.2.2)) : ∀ (F_s j_s : Nat) (x1_s : Int32) (f_s : Nat → Nat → Int32), x1_s.toInt = (j_s : Int) → j_s ≤ 5 → (∀ k_s, k_s < j_s → f_s 119 k_s = f0_s 121 k_s) → (∀ a_s k_s, ¬ (a_s = 119 ∧ k_s < 5) → f_s a_s k_s = f0_s a_s k_s) → wF F_s 216 (118, [some (.ref 102), some (.int x1_s)], [], (h_s.1, f_s, h_s.2.2.1, h_s.2.2.2)) (gI K_s)
  | 0, _, _, _, _, _, _, _ => wF_zero
  | F_s + 1, j_s, x1_s, f_s, hx, hj, hf, hg => by
    have z_s := azix (i := x1_s) (by omega)
    have ez : zix x1_s = j_s := by omega
    refine sg_216_118 (h_s := (h_s.1, f_s, h_s.2.2.1, h_s.2.2.2)) hk ?_
    dsimp only
    rw [ez, hg 121 j_s (by omega)]
    refine ⟨fun c1_s _ => ?_, fun c1_s => ?_⟩
    · refine bk216b (f0_s := f0_s) hk t_s F_s (j_s + 1) (x1_s + 1) _ (by rw [in1_ (by omega)]; omega) (by omega) (fun k_s hk1 => ?_) (fun a_s k_s q_s => ?_)
      · by_cases e_s : k_s = j_s
        · rw [e_s, zsame_up]
        · rw [zne_up (by omega)]
          exact hf k_s (by omega)
      · rw [zne_up (by omega)]
        exact hg a_s k_s q_s
    · have ej : j_s = 5 := by omega
      subst ej
      rw [hf 3 (by omega)]
      exact t_s f_s hf hg
def bkP (i_s k_s : Nat) : Prop := (20 ≤ k_s ∧ k_s < 44 ∧ (k_s - 20) % 8 < i_s) ∨ (52 ≤ k_s ∧ k_s < 68 ∧ (k_s - 52) % 8 < i_s)
theorem bk216 {ic : Nat} {f0_s : Nat → Nat → Int32} (hk : hKn h_s) (hn : (f0_s 102 36).toInt = (ic : Int)) (hb_s : ic ≤ 8) (t_s : ∀ f1_s, (∀ k_s, bkP ic k_s → f1_s 103 k_s = f0_s 120 k_s) → (∀ k_s, k_s < 5 → f1_s 119 k_s = f0_s 121 k_s) → (∀ a_s k_s, ¬ (a_s = 103 ∧ bkP ic k_s) → ¬ (a_s = 119 ∧ k_s < 5) → f1_s a_s k_s = f0_s a_s k_s) → K_s (f0_s 121 3) (h_s.1, f1_s, h_s.2.2.1, h_s.2.2.2)) : ∀ (F_s j_s : Nat) (x1_s : Int32) (f_s : Nat → Nat → Int32), x1_s.toInt = (j_s : Int) → j_s ≤ ic → (∀ k_s, bkP j_s k_s → f_s 103 k_s = f0_s 120 k_s) → (∀ a_s k_s, ¬ (a_s = 103 ∧ bkP j_s k_s) → f_s a_s k_s = f0_s a_s k_s) → wF F_s 216 (12, [some (.ref 102), some (.int x1_s)], [], (h_s.1, f_s, h_s.2.2.1, h_s.2.2.2)) (gI K_s)
  | 0, _, _, _, _, _, _, _ => wF_zero
  | F_s + 1, j_s, x1_s, f_s, hx, hj, hf, hg => by
    have e36 : f_s 102 36 = f0_s 102 36 := hg 102 36 (by omega)
    have e120_s : ∀ k_s, f_s 120 k_s = f0_s 120 k_s := fun k_s => hg 120 k_s (by omega)
    have z20 : zix (20 + x1_s) = 20 + j_s := zxa (c_s := 20) (a_s := 20) rfl hx (by omega)
    have z28_s : zix (28 + x1_s) = 28 + j_s := zxa (c_s := 28) (a_s := 28) rfl hx (by omega)
    have z36 : zix (36 + x1_s) = 36 + j_s := zxa (c_s := 36) (a_s := 36) rfl hx (by omega)
    have z52 : zix (52 + x1_s) = 52 + j_s := zxa (c_s := 52) (a_s := 52) rfl hx (by omega)
    have z60_s : zix (60 + x1_s) = 60 + j_s := zxa (c_s := 60) (a_s := 60) rfl hx (by omega)
    refine sg_216_12 (h_s := (h_s.1, f_s, h_s.2.2.1, h_s.2.2.2)) hk ?_
    dsimp only
    rw [z20, z28_s, z36, z52, z60_s, e36, hn]
    simp only [e120_s]
    refine ⟨fun c1_s _ _ _ _ _ => ?_, fun c1_s => ?_⟩
    · refine bk216 (f0_s := f0_s) hk hn hb_s t_s F_s (j_s + 1) (x1_s + 1) _ (by rw [in1_ (by omega)]; omega) (by omega) (fun k_s hk1 => ?_) (fun a_s k_s q_s => ?_)
      · by_cases w_s : bkP j_s k_s
        · have w1_s := hf k_s w_s
          unfold bkP at w_s
          rw [zne_up (by omega), zne_up (by omega), zne_up (by omega), zne_up (by omega), zne_up (by omega)]
          exact w1_s
        · unfold bkP at w_s hk1
          have e5_s : k_s = 20 + j_s ∨ k_s = 28 + j_s ∨ k_s = 36 + j_s ∨ k_s = 52 + j_s ∨ k_s = 60 + j_s := by omega
          rcases e5_s with e_s | e_s | e_s | e_s | e_s <;> (subst e_s; simp (disch := omega) only [zne_up, zsame_up])
      · unfold bkP at q_s
        rw [zne_up (by omega), zne_up (by omega), zne_up (by omega), zne_up (by omega), zne_up (by omega)]
        exact hg a_s k_s (by unfold bkP; omega)
    · have ej : j_s = ic := by omega
      subst ej
      have e121 : f_s 121 3 = f0_s 121 3 := hg 121 3 (by omega)
      refine bk216b (f0_s := f_s) hk (fun f1_s g1 g2 => ?_) F_s 0 0 f_s rfl (Nat.zero_le _) (fun k_s hq => absurd hq (Nat.not_lt_zero k_s)) (fun _ _ _ => rfl)
      rw [e121]
      refine t_s f1_s (fun k_s hk1 => ?_) (fun k_s hk5 => ?_) (fun a_s k_s q1_s q2_s => ?_)
      · rw [g2 _ _ (by omega)]
        exact hf k_s hk1
      · rw [g1 k_s hk5]
        exact hg 121 k_s (by omega)
      · rw [g2 a_s k_s q2_s]
        exact hg a_s k_s q1_s
theorem pr_back (hk : hKn h_s) (hx : tX h_s) : wF F_s 122 (0, [some (.ref 6), none], [], h_s) (gI (fun v_s h1 => wF F_s 216 (0, [some (.ref 102), none], [], h1) (gI (fun v2 h2 => v_s = v2 ∧ tX h2)))) := by
  obtain ⟨nh, ni, nr, hc_s, hh, hi_, hd_s, hz, hl⟩ := hx
  have hx : tX h_s := ⟨nh, ni, nr, hc_s, hh, hi_, hd_s, hz, hl⟩
  have b_s := hc_s.1
  rcases hi_ with ⟨i1_s, i2_s⟩ | ⟨ic, i1_s, i2_s, i3_s, i4_s, i5_s, i6_s⟩
  · refine wF_le (Nat.le_succ F_s) (sg_122_0 hk ⟨fun _ => ?_, fun c_s => absurd i1_s c_s⟩)
    exact wF_le (Nat.le_succ F_s) (sg_216_0 hk ⟨fun _ => ⟨rfl, hx⟩, fun c_s => absurd i2_s c_s⟩)
  · refine wF_le (Nat.le_succ F_s) (sg_122_0 hk ⟨fun (c_s : (h_s.2.1 6 12).toInt = -1) => absurd c_s (by omega), fun _ => ?_⟩)
    refine bk122 (f0_s := h_s.2.1) hk i2_s (by omega) (fun f1_s g1 g2 g3_s => ?_) F_s 0 0 h_s.2.1 rfl (Nat.zero_le _) (fun i_s k_s hi_s _ _ _ => absurd hi_s (Nat.not_lt_zero i_s)) (fun _ _ _ => rfl)
    have h1o : ∀ a_s k_s, 74 ≤ a_s → f1_s a_s k_s = h_s.2.1 a_s k_s := fun a_s k_s ha_s => g3_s a_s k_s (by omega) (by omega)
    refine wF_le (Nat.le_succ F_s) (sg_216_0 (h_s := (h_s.1, f1_s, h_s.2.2.1, h_s.2.2.2)) hk ⟨fun (c_s : (f1_s 102 35).toInt = 0) => absurd c_s (by rw [h1o 102 35 (by omega)]; exact i4_s), fun _ => ?_⟩)
    refine bk216 (h_s := (h_s.1, f1_s, h_s.2.2.1, h_s.2.2.2)) (f0_s := f1_s) (ic := ic) hk (by rw [h1o 102 36 (by omega)]; exact i3_s) (by omega) (fun f2_s p1_s p2_s p3_s => ?_) F_s 0 0 f1_s rfl (Nat.zero_le _) (fun k_s hq => absurd hq (by unfold bkP; omega)) (fun _ _ _ => rfl)
    have fr_s : ∀ a_s k_s, inX a_s k_s → ¬ (20 ≤ a_s ∧ a_s < 20 + ic ∧ k_s < 7 ∧ ¬ k_s = 0 ∧ ¬ k_s = 4) → ¬ (a_s = 103 ∧ bkP ic k_s) → ¬ inD a_s k_s → f2_s a_s k_s = h_s.2.1 a_s k_s := fun a_s k_s qx s1_s s2_s s3_s => by
      have n5_s : ¬ (a_s = 119 ∧ k_s < 5) ∧ ¬ (a_s = 73 ∧ k_s < 5) := by
        unfold inX inC inH inI inD inZ inW at qx
        unfold inD at s3_s
        omega
      rw [p3_s a_s k_s s2_s n5_s.1]
      exact g3_s a_s k_s s1_s n5_s.2
    refine ⟨by rw [h1o 121 3 (by omega)]; exact i6_s 3 (by omega) (by omega), nh, ni, nr, ?_, tH_fr (fun a_s k_s q_s => fr_s a_s k_s (Or.inr (Or.inl q_s)) ?_ ?_ ?_) hh, tI_fr (fun a_s k_s q_s => fr_s a_s k_s (Or.inr (Or.inr (Or.inl q_s))) ?_ ?_ ?_) (Or.inr ⟨ic, i1_s, i2_s, i3_s, i4_s, i5_s, i6_s⟩) b_s.2.1, fun k_s k2_s k4_s => ?_, tZ_fr (fun a_s k_s q_s => fr_s a_s k_s (Or.inr (Or.inr (Or.inr (Or.inr (Or.inl q_s))))) ?_ ?_ ?_) hz, tLw_fr (h_s := h_s) (fun _ => rfl) (fun a_s k_s q_s => fr_s a_s k_s (Or.inr (Or.inr (Or.inr (Or.inr (Or.inr q_s))))) ?_ ?_ ?_) hl⟩
    · obtain ⟨a0_s, ⟨a1_s, a2, a3⟩, ⟨a4, a5, a6⟩, a7, a8, a9⟩ := hc_s
      have fc_s : ∀ a_s k_s, inC a_s k_s → ¬ (20 ≤ a_s ∧ a_s < 20 + ic ∧ k_s < 7 ∧ ¬ k_s = 0 ∧ ¬ k_s = 4) → ¬ (a_s = 103 ∧ bkP ic k_s) → f2_s a_s k_s = h_s.2.1 a_s k_s := fun a_s k_s q_s s1_s s2_s => fr_s a_s k_s (Or.inl q_s) s1_s s2_s (by unfold inC at q_s; unfold inD; omega)
      have f7_s : ∀ a_s k_s, (a_s = 7 ∨ a_s = 102) ∧ 6 ≤ k_s ∧ k_s ≤ 8 → f2_s a_s k_s = h_s.2.1 a_s k_s := fun a_s k_s q_s => fc_s a_s k_s (by unfold inC; omega) (by omega) (by omega)
      refine ⟨a0_s, ⟨?_, ?_, ?_⟩, ⟨?_, ?_, ?_⟩, fun n_s w_s hw hnc h8 => ?_, fun j_s j1 j2_s => ?_, fun r_s hr => ?_⟩
      · show (f2_s 7 6).toInt = (nh : Int)
        rw [f7_s 7 6 (by omega)]
        exact a1_s
      · show (f2_s 7 7).toInt = (ni : Int)
        rw [f7_s 7 7 (by omega)]
        exact a2
      · show (f2_s 7 8).toInt = (nr : Int)
        rw [f7_s 7 8 (by omega)]
        exact a3
      · show (f2_s 102 6).toInt = (nh : Int)
        rw [f7_s 102 6 (by omega)]
        exact a4
      · show (f2_s 102 7).toInt = (ni : Int)
        rw [f7_s 102 7 (by omega)]
        exact a5
      · show (f2_s 102 8).toInt = (nr : Int)
        rw [f7_s 102 8 (by omega)]
        exact a6
      · show f2_s (cO n_s w_s) (cF n_s w_s) = f2_s 103 (plc n_s w_s) ∧ vB nh nr n_s w_s (f2_s 103 (plc n_s w_s)).toInt
        have u_s := a7 n_s w_s hw hnc h8
        by_cases w2_s : w_s < 2
        · rw [cap_h w2_s] at hnc
          rw [cO_h w2_s, cF_h w2_s, plc_h w2_s] at u_s ⊢
          rw [fc_s (8 + w_s) n_s (by unfold inC; omega) (by omega) (by unfold bkP; omega), fc_s 103 (6 * w_s + n_s) (by unfold inC; omega) (by omega) (by unfold bkP; omega)]
          exact u_s
        · by_cases w9 : w_s < 9
          · rw [cap_i (by omega) w9] at hnc
            rw [cO_i (by omega) w9, cF_i (by omega) w9, plc_i (by omega) w9] at u_s ⊢
            by_cases e_s : n_s < ic ∧ ¬ w_s = 2 ∧ ¬ w_s = 6
            · have v_s := i5_s n_s (w_s - 2) e_s.1 (by omega) (by omega) (by omega)
              have q1_s : f2_s (20 + n_s) (w_s - 2) = h_s.2.1 (94 + n_s) (w_s - 2) := by
                rw [p3_s _ _ (by omega) (by omega)]
                exact g1 n_s (w_s - 2) e_s.1 (by omega) (by omega) (by omega)
              have q2_s : f2_s 103 (12 + 8 * (w_s - 2) + n_s) = h_s.2.1 120 (12 + 8 * (w_s - 2) + n_s) := by
                rw [p1_s _ (by unfold bkP; omega)]
                exact h1o _ _ (by omega)
              rw [q1_s, q2_s]
              rw [show w_s - 2 + 2 = w_s by omega] at v_s
              exact v_s
            · rw [fc_s (20 + n_s) (w_s - 2) (by unfold inC; omega) (by omega) (by unfold bkP; omega), fc_s 103 (12 + 8 * (w_s - 2) + n_s) (by unfold inC; omega) (by omega) (by unfold bkP; omega)]
              exact u_s
          · rw [cap_r (by omega)] at hnc
            rw [cO_r (by omega), cF_r (by omega), plc_r (by omega)] at u_s ⊢
            rw [fc_s (28 + n_s) (w_s - 7) (by unfold inC; omega) (by omega) (by unfold bkP; omega), fc_s 103 (68 + 12 * (w_s - 9) + n_s) (by unfold inC; omega) (by omega) (by unfold bkP; omega)]
            exact u_s
      · show f2_s (20 + j_s) 6 = -1
        rw [fc_s (20 + j_s) 6 (by unfold inC; omega) (by omega) (by unfold bkP; omega)]
        exact a8 j_s j1 j2_s
      · have q_s := fun a_s k_s (qa : (a_s = 28 + r_s ∧ k_s < 2) ∨ ((a_s = 107 ∨ a_s = 108) ∧ k_s = r_s)) => fc_s a_s k_s (by unfold inC; omega) (by omega) (by unfold bkP; omega)
        show (f2_s (28 + r_s) 0 = f2_s 107 r_s ∧ f2_s (28 + r_s) 1 = f2_s 108 r_s) ∧ (0 ≤ (f2_s 107 r_s).toInt ∧ (f2_s 107 r_s).toInt ≤ 7) ∧ (0 ≤ (f2_s 108 r_s).toInt ∧ (f2_s 108 r_s).toInt ≤ 7) ∧ (r_s < nr → ¬ (f2_s 107 r_s).toInt = (f2_s 108 r_s).toInt)
        rw [q_s (28 + r_s) 0 (by omega), q_s (28 + r_s) 1 (by omega), q_s 107 r_s (by omega), q_s 108 r_s (by omega)]
        exact a9 r_s hr
    · unfold inH at q_s
      omega
    · unfold inH at q_s
      unfold bkP
      omega
    · unfold inH at q_s
      unfold inD
      omega
    · unfold inI at q_s
      omega
    · unfold inI at q_s
      unfold bkP
      omega
    · unfold inI at q_s
      unfold inD
      omega
    · show f2_s 73 k_s = f2_s 119 k_s
      rw [p3_s 73 k_s (by omega) (by omega), g2 k_s (by omega), p2_s k_s (by omega), h1o 121 k_s (by omega)]
      exact i6_s k_s k2_s k4_s
    · unfold inZ at q_s
      omega
    · unfold inZ at q_s
      unfold bkP
      omega
    · unfold inZ at q_s
      unfold inD
      omega
    · unfold inW at q_s
      omega
    · unfold inW at q_s
      unfold bkP
      omega
    · unfold inW at q_s
      unfold inD
      omega
end S5
