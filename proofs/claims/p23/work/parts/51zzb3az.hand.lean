/-! ROADS that come; THE LAW that comes: the whole state. -/
section R9
variable {F_s : Nat} {h_s : zH} {K_s : Int32 → zH → Prop} {nh ni nr R_s : Nat} {x1_s x2_s x3 : Int32} {f_s : Nat → Nat → Int32}
theorem tC_roads {f2_s : Nat → Nat → Int32} {k_s : Nat} {A_s B_s C_s : Nat → Int32} (hc_s : tC nh ni R_s f_s) (hR : R_s + k_s ≤ 12) (hv : ∀ m_s, m_s < k_s → (0 ≤ (A_s m_s).toInt ∧ (A_s m_s).toInt ≤ 7) ∧ (0 ≤ (B_s m_s).toInt ∧ (B_s m_s).toInt ≤ 7) ∧ ¬ (A_s m_s).toInt = (B_s m_s).toInt ∧ 1 ≤ (C_s m_s).toInt ∧ (C_s m_s).toInt ≤ 9) (e1_s : (f2_s 7 8).toInt = ((R_s + k_s : Nat) : Int)) (e2_s : (f2_s 102 8).toInt = ((R_s + k_s : Nat) : Int)) (h1 : ∀ m_s, m_s < k_s → f2_s (28 + (R_s + m_s)) 0 = A_s m_s ∧ f2_s (28 + (R_s + m_s)) 1 = B_s m_s ∧ f2_s (28 + (R_s + m_s)) 2 = C_s m_s) (h2 : ∀ m_s, m_s < k_s → f2_s 107 (R_s + m_s) = A_s m_s ∧ f2_s 108 (R_s + m_s) = B_s m_s ∧ f2_s 103 (68 + (R_s + m_s)) = C_s m_s) (hf : ∀ a_s j_s, inC a_s j_s → ¬ (a_s = 7 ∧ j_s = 8) → ¬ (28 + R_s ≤ a_s ∧ a_s < 28 + R_s + k_s ∧ j_s ≤ 2) → ¬ (a_s = 102 ∧ j_s = 8) → ¬ ((a_s = 107 ∨ a_s = 108) ∧ R_s ≤ j_s ∧ j_s < R_s + k_s) → ¬ (a_s = 103 ∧ 68 + R_s ≤ j_s ∧ j_s < 68 + R_s + k_s) → f2_s a_s j_s = f_s a_s j_s) : tC nh ni (R_s + k_s) f2_s := by
  obtain ⟨a0_s, ⟨a1_s, a2, a3⟩, ⟨a4, a5, a6⟩, a7, a8, a9⟩ := hc_s
  have f7_s : ∀ a_s j_s, (a_s = 7 ∨ a_s = 102) → 6 ≤ j_s → j_s < 8 → f2_s a_s j_s = f_s a_s j_s := fun a_s j_s q1_s q2_s q3_s => hf a_s j_s (by unfold inC; omega) (by omega) (by omega) (by omega) (by omega) (by omega)
  refine ⟨⟨a0_s.1, a0_s.2.1, hR⟩, ⟨?_, ?_, e1_s⟩, ⟨?_, ?_, e2_s⟩, fun n_s w_s hw hnc h8 => ?_, fun j_s j1 j2_s => ?_, fun r_s hr => ?_⟩
  · rw [f7_s 7 6 (by omega) (by omega) (by omega)]
    exact a1_s
  · rw [f7_s 7 7 (by omega) (by omega) (by omega)]
    exact a2
  · rw [f7_s 102 6 (by omega) (by omega) (by omega)]
    exact a4
  · rw [f7_s 102 7 (by omega) (by omega) (by omega)]
    exact a5
  · have u_s := a7 n_s w_s hw hnc h8
    by_cases w2_s : w_s < 2
    · rw [cap_h w2_s] at hnc
      rw [cO_h w2_s, cF_h w2_s, plc_h w2_s] at u_s ⊢
      rw [hf (8 + w_s) n_s (by unfold inC; omega) (by omega) (by omega) (by omega) (by omega) (by omega), hf 103 (6 * w_s + n_s) (by unfold inC; omega) (by omega) (by omega) (by omega) (by omega) (by omega)]
      refine ⟨u_s.1, ?_⟩
      have u2_s := u_s.2
      rw [vB_n (by omega)] at u2_s ⊢
      exact ⟨u2_s.1, u2_s.2.1, fun e9_s => absurd e9_s (by omega)⟩
    · by_cases w9 : w_s < 9
      · rw [cap_i (by omega) w9] at hnc
        rw [cO_i (by omega) w9, cF_i (by omega) w9, plc_i (by omega) w9] at u_s ⊢
        rw [hf (20 + n_s) (w_s - 2) (by unfold inC; omega) (by omega) (by omega) (by omega) (by omega) (by omega), hf 103 (12 + 8 * (w_s - 2) + n_s) (by unfold inC; omega) (by omega) (by omega) (by omega) (by omega) (by omega)]
        refine ⟨u_s.1, ?_⟩
        have u2_s := u_s.2
        by_cases e8 : w_s = 8
        · subst e8
          exact u2_s
        · rw [vB_n e8] at u2_s ⊢
          exact ⟨u2_s.1, u2_s.2.1, fun e9_s => absurd e9_s (by omega)⟩
      · rw [cap_r (by omega)] at hnc
        rw [cO_r (by omega), cF_r (by omega), plc_r (by omega)] at u_s ⊢
        by_cases e_s : w_s = 9 ∧ R_s ≤ n_s ∧ n_s < R_s + k_s
        · obtain ⟨rfl, e3_s, e4_s⟩ := e_s
          have q1_s := (h1 (n_s - R_s) (by omega)).2.2
          have q2_s := (h2 (n_s - R_s) (by omega)).2.2
          have q3_s := hv (n_s - R_s) (by omega)
          rw [show R_s + (n_s - R_s) = n_s by omega] at q1_s q2_s
          have q1_s : f2_s (28 + n_s) (9 - 7) = C_s (n_s - R_s) := q1_s
          have q2_s : f2_s 103 (68 + 12 * (9 - 9) + n_s) = C_s (n_s - R_s) := q2_s
          rw [q1_s, q2_s, vB_n (by omega)]
          exact ⟨rfl, by omega, show (C_s (n_s - R_s)).toInt ≤ 9 by omega, fun _ _ => q3_s.2.2.2.1⟩
        · rw [hf (28 + n_s) (w_s - 7) (by unfold inC; omega) (by omega) (by omega) (by omega) (by omega) (by omega), hf 103 (68 + 12 * (w_s - 9) + n_s) (by unfold inC; omega) (by omega) (by omega) (by omega) (by omega) (by omega)]
          refine ⟨u_s.1, ?_⟩
          have u2_s := u_s.2
          rw [vB_n (by omega)] at u2_s ⊢
          exact ⟨u2_s.1, u2_s.2.1, fun e9_s hn => u2_s.2.2 e9_s (by omega)⟩
  · rw [hf (20 + j_s) 6 (by unfold inC; omega) (by omega) (by omega) (by omega) (by omega) (by omega)]
    exact a8 j_s j1 j2_s
  · by_cases e_s : R_s ≤ r_s ∧ r_s < R_s + k_s
    · have q1_s := h1 (r_s - R_s) (by omega)
      have q2_s := h2 (r_s - R_s) (by omega)
      have q3_s := hv (r_s - R_s) (by omega)
      rw [show R_s + (r_s - R_s) = r_s by omega] at q1_s q2_s
      rw [q1_s.1, q1_s.2.1, q2_s.1, q2_s.2.1]
      exact ⟨⟨rfl, rfl⟩, q3_s.1, q3_s.2.1, fun _ => q3_s.2.2.1⟩
    · have q_s := fun a_s j_s (qa : (a_s = 28 + r_s ∧ j_s < 2) ∨ ((a_s = 107 ∨ a_s = 108) ∧ j_s = r_s)) => hf a_s j_s (by unfold inC; omega) (by omega) (by omega) (by omega) (by omega) (by omega)
      rw [q_s (28 + r_s) 0 (by omega), q_s (28 + r_s) 1 (by omega), q_s 107 r_s (by omega), q_s 108 r_s (by omega)]
      have u_s := a9 r_s hr
      exact ⟨u_s.1, u_s.2.1, u_s.2.2.1, fun hr2 => u_s.2.2.2 (by omega)⟩
theorem pr_road2 (hk : hKn h_s) (hx : tX h_s) : wF F_s 95 (0, [some (.ref 6), some (.int x1_s), some (.int x2_s)], [], h_s) (gI (fun v_s h1 => wF F_s 159 (0, [some (.ref 102), some (.int x1_s), some (.int x2_s)], [], h1) (gI (fun v2 h2 => v_s = v2 ∧ tX h2)))) := by
  obtain ⟨nh, ni, R_s, hc_s, hh, hi_, hd_s, hz, hl⟩ := hx
  have hx : tX h_s := ⟨nh, ni, R_s, hc_s, hh, hi_, hd_s, hz, hl⟩
  have hR := hc_s.2.1.2.2
  have hR2 := hc_s.2.2.1.2.2
  have hR12 := hc_s.1.2.2
  have r1_s : h_s.2.1 7 8 = h_s.2.1 102 8 := Int32.toInt_inj.mp (hR.trans hR2.symm)
  refine sp_95 hk hR (fun c_s => ?_) (fun c_s c1_s f1_s b1 b2 b3 b4 b5 => ?_) (fun c_s c1_s => ?_)
  · exact sp_159 hk hR2 hR12 (fun _ => ⟨rfl, hx⟩) (fun w_s => absurd c_s w_s) (fun w_s => absurd c_s w_s)
  · have e8 : f1_s 102 8 = h_s.2.1 102 8 := b5 102 8 (by omega) (by omega)
    refine sp_159 (h_s := (h_s.1, f1_s, h_s.2.2.1, h_s.2.2.2)) hk (by rw [← hR2]; exact congrArg _ e8) hR12 (fun w_s => absurd w_s c_s) (fun _ _ f2_s d1_s d2_s d3_s d4_s d5_s => ⟨?_, ?_⟩) (fun _ w_s => by omega)
    · dsimp only
      rw [e8, (ic1 hR2 (by omega)).2.2]
      exact r1_s
    · have d5_s : ∀ o k_s, ¬ (o = 102 ∧ k_s = 8) → ¬ ((o = 107 ∨ o = 108) ∧ k_s = R_s) → ¬ (o = 103 ∧ k_s = 68 + R_s) → f2_s o k_s = f1_s o k_s := d5_s
      have d1_s : f2_s 102 8 = f1_s 102 8 + 1 := d1_s
      have q_s : (f2_s 7 8).toInt = ((R_s + 1 : Nat) : Int) := by
        rw [d5_s 7 8 (by omega) (by omega) (by omega), b1]
        exact (ic1 hR (by omega)).1
      have q2_s : (f2_s 102 8).toInt = ((R_s + 1 : Nat) : Int) := by
        rw [d1_s, e8]
        exact (ic1 hR2 (by omega)).1
      unfold badR at c_s
      refine tX_rest (h_s := h_s) (nr1 := R_s + 1) (Nat.le_refl nh) (Nat.le_refl ni) (Nat.le_succ R_s) (tC_roads (k_s := 1) (A_s := fun _ => x1_s / 10) (B_s := fun _ => x1_s - x1_s / 10 * 10) (C_s := fun _ => x2_s) hc_s (by omega) (fun m_s hm_s => by omega) q_s q2_s (fun m_s hm_s => ?_) (fun m_s hm_s => ?_) (fun a_s j_s qc s1_s s2_s s3_s s4_s s5 => ?_)) hh hi_ hd_s hz hl (fun _ => rfl) (fun a_s j_s w_s => ?_)
      · have em : m_s = 0 := by omega
        subst em
        refine ⟨?_, ?_, ?_⟩
        · show f2_s (28 + R_s) 0 = x1_s / 10
          rw [d5_s _ _ (by omega) (by omega) (by omega)]
          exact b2
        · show f2_s (28 + R_s) 1 = x1_s - x1_s / 10 * 10
          rw [d5_s _ _ (by omega) (by omega) (by omega)]
          exact b3
        · show f2_s (28 + R_s) 2 = x2_s
          rw [d5_s _ _ (by omega) (by omega) (by omega)]
          exact b4
      · have em : m_s = 0 := by omega
        subst em
        exact ⟨d2_s, d3_s, d4_s⟩
      · show f2_s a_s j_s = h_s.2.1 a_s j_s
        rw [d5_s a_s j_s s3_s (by omega) (by omega)]
        exact b5 a_s j_s s1_s (by omega)
      · show f2_s a_s j_s = h_s.2.1 a_s j_s
        unfold inH inI inD inZ inW at w_s
        rw [d5_s a_s j_s (by omega) (by omega) (by omega)]
        exact b5 a_s j_s (by omega) (by omega)
  · exact sp_159 hk hR2 hR12 (fun w_s => absurd w_s c_s) (fun _ w_s => by omega) (fun _ _ => ⟨rfl, hx⟩)
theorem t32_ {x_s : Int64} (h0 : 0 ≤ x_s.toInt) (h1 : x_s.toInt ≤ 100) : x_s.toInt32.toInt = x_s.toInt := by
  rw [Int64.toInt_toInt32]
  exact na_bmod (by omega) (by omega)
theorem pr_roads2 (hk : hKn h_s) (hs : tS h_s) (hx : tX h_s) : wF F_s 96 (0, [some (.ref 6), some (.int x1_s), some (.int x2_s), some (.int x3), none, none, none], [], h_s) (gI (fun v_s h1 => wF F_s 160 (0, [some (.ref 102), some (.int x1_s), some (.int x2_s), some (.int x3), none, none, none], [], h1) (gI (fun v2 h2 => v_s = v2 ∧ tX h2)))) := by
  obtain ⟨nh, ni, R_s, hc_s, hh, hi_, hd_s, hz, hl⟩ := hx
  have hx : tX h_s := ⟨nh, ni, R_s, hc_s, hh, hi_, hd_s, hz, hl⟩
  have hR := hc_s.2.1.2.2
  have hR2 := hc_s.2.2.1.2.2
  have hR12 := hc_s.1.2.2
  have hl1 : ∀ d_s, d_s < 6 → (h_s.2.1 (76 + 2 * d_s) 0).toInt = 2 → 0 ≤ (h_s.2.1 (76 + 2 * d_s) 3).toInt ∧ (h_s.2.1 (76 + 2 * d_s) 3).toInt ≤ 60 := fun d_s hd_s hq => by
    have q_s := (hs.1 d_s hd_s).1
    unfold tS1 at q_s
    omega
  have hl2 : ∀ d_s, d_s < 6 → 50 ≤ (h_s.2.1 124 d_s).toInt → 0 ≤ (h_s.2.1 125 d_s).toInt ∧ (h_s.2.1 125 d_s).toInt ≤ 60 := fun d_s hd_s hq => by
    have q_s := (hs.1 d_s hd_s).1
    unfold tS1 at q_s
    omega
  refine sp_96 hk hR hR12 hl1 (fun c_s => ?_) (fun c1_s c2_s c3_s c4_s c5_s c6_s => ?_) (fun c1_s c2_s c3_s c4_s c5_s c6_s c7_s => ?_) (fun c1_s c2_s c3_s c4_s c5_s c6_s c7_s c8_s k_s v_s f1_s g1 g2 g3_s g4 g5_s g6 => ?_)
  · exact sp_160 hk hR2 hR12 hl2 (fun _ => ⟨rfl, hx⟩) (fun _ _ _ _ _ _ => by omega) (fun _ _ _ _ _ _ _ => by omega) (fun _ _ _ _ _ _ _ _ _ _ _ _ _ _ _ _ => by omega)
  · have q_s := (hs.1 _ c5_s).1
    unfold tS1 at q_s
    exact sp_160 hk hR2 hR12 hl2 (fun _ => by omega) (fun _ _ _ _ _ _ => ⟨rfl, hx⟩) (fun _ _ _ _ _ w1_s w2_s => by omega) (fun _ _ _ _ _ w1_s w2_s _ _ _ _ _ _ _ _ _ => by omega)
  · have q_s := (hs.1 _ c5_s).1
    unfold tS1 at q_s
    exact sp_160 hk hR2 hR12 hl2 (fun _ => by omega) (fun _ _ _ _ _ w_s => by omega) (fun _ _ _ _ _ _ _ => ⟨rfl, hx⟩) (fun _ _ _ _ _ w1_s w2_s _ _ _ _ _ _ _ _ _ => by omega)
  · have q_s := (hs.1 _ c5_s).1
    unfold tS1 at q_s
    have u_s : ∀ o j_s, (o = 102 ∨ o = 124 ∨ o = 125) → f1_s o j_s = h_s.2.1 o j_s := fun o j_s ho => g6 o j_s (by omega) (by omega)
    have l60 := hl1 _ c5_s c6_s
    have e5_s : (h_s.2.1 125 (zix x1_s)).toInt = (h_s.2.1 (76 + 2 * zix x1_s) 3).toInt := by omega
    refine sp_160 (h_s := (h_s.1, f1_s, h_s.2.2.1, h_s.2.2.2)) hk (by rw [← hR2]; exact congrArg _ (u_s 102 8 (by omega))) hR12 (fun d_s hd_s hq => ?_) (fun _ => by omega) (fun _ _ _ _ _ w_s => ?_) (fun _ _ _ _ _ w1_s w2_s => ?_) (fun _ _ _ _ _ w1_s w2_s k2_s v2 f2_s d1_s d2_s d3_s d4_s d5_s d6_s => ?_)
    · dsimp only at hq ⊢
      rw [u_s 124 _ (by omega)] at hq
      rw [u_s 125 _ (by omega)]
      exact hl2 d_s hd_s hq
    · dsimp only at w_s
      rw [u_s 124 _ (by omega)] at w_s
      omega
    · dsimp only at w1_s w2_s
      rw [u_s 124 _ (by omega)] at w1_s w2_s
      omega
    · dsimp only at d2_s
      rw [u_s 125 _ (by omega), e5_s] at d2_s
      have l1 := lstR_eq (by omega) (fun j_s hj => (hs.1 _ c5_s).2 j_s hj) g2
      have ek := lstR_det l1 d2_s
      subst ek
      refine ⟨Int32.toInt_inj.mp (by omega), ?_⟩
      have hv := d2_s.2.1
      have d6_s : fr60 R_s k_s f1_s f2_s := d6_s
      unfold fr60 at d6_s
      unfold fr96 at g6
      clear q_s w1_s w2_s c6_s c7_s
      refine tX_rest (h_s := h_s) (nr1 := R_s + k_s) (Nat.le_refl nh) (Nat.le_refl ni) (Nat.le_add_right R_s k_s) (tC_roads (k_s := k_s) (A_s := fun m_s => (h_s.2.2.1 126 (60 * zix x1_s + (x2_s.toInt.toNat + 3 * m_s))).toInt32) (B_s := fun m_s => (h_s.2.2.1 126 (60 * zix x1_s + (x2_s.toInt.toNat + 3 * m_s + 1))).toInt32) (C_s := fun m_s => (h_s.2.2.1 126 (60 * zix x1_s + (x2_s.toInt.toNat + 3 * m_s + 2))).toInt32) hc_s g4 (fun m_s hm_s => ?_) ?_ d3_s (fun m_s hm_s => ?_) (fun m_s hm_s => d5_s m_s hm_s) (fun a_s j_s qc s1_s s2_s s3_s s4_s s5 => ?_)) hh hi_ hd_s hz hl (fun _ => rfl) (fun a_s j_s w_s => ?_)
      · have o := (hv m_s hm_s).2.2
        unfold vld at o
        dsimp only at o ⊢
        rw [t32_ (by omega) (by omega), t32_ (by omega) (by omega), t32_ (by omega) (by omega)]
        omega
      · show (f2_s 7 8).toInt = ((R_s + k_s : Nat) : Int)
        rw [d6_s 7 8 (by omega) (by omega) (by omega)]
        exact g3_s
      · have o := (hv m_s hm_s).1
        have p_s := g5_s m_s hm_s
        have e0_s := (hs.1 _ c5_s).2 (x2_s.toInt.toNat + 3 * m_s) (by omega)
        have e1_s := (hs.1 _ c5_s).2 (x2_s.toInt.toNat + 3 * m_s + 1) (by omega)
        have e2_s := (hs.1 _ c5_s).2 (x2_s.toInt.toNat + 3 * m_s + 2) (by omega)
        rw [e0_s, e1_s, e2_s] at p_s
        refine ⟨?_, ?_, ?_⟩
        · show f2_s (28 + (R_s + m_s)) 0 = _
          rw [d6_s _ _ (by omega) (by omega) (by omega)]
          exact p_s.1
        · show f2_s (28 + (R_s + m_s)) 1 = _
          rw [d6_s _ _ (by omega) (by omega) (by omega)]
          exact p_s.2.1
        · show f2_s (28 + (R_s + m_s)) 2 = _
          rw [d6_s _ _ (by omega) (by omega) (by omega)]
          exact p_s.2.2
      · show f2_s a_s j_s = h_s.2.1 a_s j_s
        rw [d6_s a_s j_s s3_s s4_s s5]
        exact g6 a_s j_s s1_s s2_s
      · show f2_s a_s j_s = h_s.2.1 a_s j_s
        unfold inH inI inD inZ inW at w_s
        rw [d6_s a_s j_s (by omega) (by omega) (by omega)]
        exact g6 a_s j_s (by omega) (by omega)
/-- law -/
theorem tX_law {q_s n_s : Nat} {h2 : zH} (hc_s : tC nh ni nr h_s.2.1) (hh : tH nh ni nr h_s.2.1) (hi_ : tI nh ni nr h_s.2.1) (hd_s : tD h_s.2.1) (hz : tZ h_s.2.1) (hm_s : q_s = 14 ∨ q_s = 17) (hl : tLw h2) (hf : ∀ o k_s, ¬ o = 40 → ¬ (o = q_s ∨ o = q_s + 1) → ¬ (o = 102 ∧ 12 ≤ k_s ∧ k_s ≤ 19) → ¬ o = 110 → h2.2.1 o k_s = h_s.2.1 o k_s) : tX h2 := by
  refine ⟨nh, ni, nr, tC_fr (fun a_s k_s w_s => hf a_s k_s ?_ ?_ ?_ ?_) hc_s, tH_fr (fun a_s k_s w_s => hf a_s k_s ?_ ?_ ?_ ?_) hh, tI_fr (fun a_s k_s w_s => hf a_s k_s ?_ ?_ ?_ ?_) hi_ hc_s.1.2.1, tD_fr (fun a_s k_s w_s => hf a_s k_s ?_ ?_ ?_ ?_) hd_s, tZ_fr (fun a_s k_s w_s => hf a_s k_s ?_ ?_ ?_ ?_) hz, hl⟩
  all_goals (simp only [inC, inH, inI, inD, inZ] at w_s; omega)
theorem lawC_q {q_s : Nat} {lw : Option (List pB)} {f1_s : Nat → Nat → Int32} (hf : ∀ a_s k_s, (a_s = q_s ∨ a_s = q_s + 1) → f1_s a_s k_s = f_s a_s k_s) (hl : lawC q_s f_s lw) : lawC q_s f1_s lw := by
  match lw, hl with
  | none, hl => exact ⟨by rw [hf q_s 2 (Or.inl rfl)]; exact hl.1, by rw [hf q_s 0 (Or.inl rfl)]; exact hl.2⟩
  | some ls, hl =>
    obtain ⟨a1_s, a2, a3, a4, a5, a6⟩ := hl
    exact ⟨by rw [hf q_s 2 (Or.inl rfl)]; exact a1_s, a2, fun j_s c_s hj => by rw [hf (q_s + 1) j_s (Or.inr rfl)]; exact a3 j_s c_s hj, by rw [hf q_s 0 (Or.inl rfl)]; exact a4, a5, a6⟩
theorem pr_law2 (hk : hKn h_s) (hs : tT h_s) (hx : tX h_s) : wF F_s 101 (0, [some (.ref 6), none, none], [], h_s) (gI (fun v_s h1 => wF F_s 177 (0, [some (.ref 102), none, none, none], [], h1) (gI (fun v2 h2 => v_s = v2 ∧ tT h2 ∧ tX h2)))) := by
  obtain ⟨n_s, n1_s, n2_s, n3_s, n4_s⟩ := hs
  have n5_s : (h_s.2.1 102 12).toInt = (n_s : Int) := by
    rw [n3_s]
    exact n2_s
  obtain ⟨nh, ni, nr, hc_s, hh, hi_, hd_s, hz, hl⟩ := hx
  obtain ⟨qa, qb, lw, l1, l2, l3, l4, l5⟩ := hl
  refine wF_le (Nat.le_succ F_s) (sg_101_0 hk (fun q_s r1_s m1_s => ?_))
  have eq_s : qb = q_s := Option.some.inj (l2.symm.trans r1_s)
  subst eq_s
  refine sp_63 (f_s := h_s.2.1) (n_s := n_s) m1_s hk n2_s n1_s (fun v_s f1_s fr1 hr hk1 => ?_)
  obtain ⟨k_s, r_s, hr1, hr2⟩ := hr
  have htk : ∀ a_s, tkF h_s.2.1 a_s = if (a_s : Int) < (n_s : Int) then (h_s.2.1 109 a_s).toInt else -1 := by
    intro a_s
    unfold tkF
    rw [n2_s]
    by_cases e_s : (a_s : Int) < (n_s : Int)
    · rw [if_pos e_s, if_pos e_s, (n4_s a_s (by omega)).1]
    · rw [if_neg e_s, if_neg e_s]
  have hpos : ∀ a_s, a_s < n_s → 0 ≤ tkF h_s.2.1 a_s := by
    intro a_s ha_s
    unfold tkF
    rw [if_pos (by omega)]
    exact (n4_s a_s ha_s).2
  have fq : ∀ o k_s, ¬ o = 40 → ¬ (o = qb ∨ o = qb + 1) → f1_s o k_s = h_s.2.1 o k_s := fun o k_s q1_s q2_s => fr1 o k_s (by omega) (by omega) (by omega)
  have go_s : ∀ (rr : Nat → Nat → Option Nat) (hk2 : hKn (h_s.1, zup f1_s 40 1 0, h_s.2.2.1, rr)) (u_s : Int32), (∀ (e_s k1_s : Nat) (w_s : Int32) f2_s, ptx (tkF h_s.2.1) n_s k1_s 0 [] (.inl e_s) → w_s.toInt = (e_s : Int) → (∀ o k_s, ¬ o = 40 → ¬ (o = 102 ∧ (k_s = 12 ∨ 15 ≤ k_s ∧ k_s ≤ 19)) → f2_s o k_s = f1_s o k_s) → u_s = -100 - w_s ∧ tLw (h_s.1, f2_s, h_s.2.2.1, rr)) → (∀ (k1_s : Nat) (ls : List pB) f2_s, ptx (tkF h_s.2.1) n_s k1_s 0 [] (.inr ls) → (f2_s 102 14).toInt = (n_s : Int) → (∀ k_s, k_s < n_s → f2_s 110 k_s = h_s.2.1 109 k_s) → (∀ o k_s, ¬ o = 40 → ¬ (o = 102 ∧ 12 ≤ k_s ∧ k_s ≤ 19) → ¬ o = 110 → f2_s o k_s = f1_s o k_s) → u_s = 1 ∧ tLw (h_s.1, f2_s, h_s.2.2.1, rr)) → wF F_s 177 (0, [some (.ref 102), none, none, none], [], (h_s.1, zup f1_s 40 1 0, h_s.2.2.1, rr)) (gI (fun v2 h2 => u_s = v2 ∧ tT h2 ∧ tX h2)) := by
    intro rr hk2 u_s hu1 hu2
    have ff_s : ∀ o k_s, (o = 102 ∨ o = 109) → zup f1_s 40 1 0 o k_s = h_s.2.1 o k_s := fun o k_s ho => by
      rw [zne_up (by omega)]
      exact fq o k_s (by omega) (by omega)
    refine sp_177 (h_s := (h_s.1, zup f1_s 40 1 0, h_s.2.2.1, rr)) (tk := tkF h_s.2.1) (n_s := n_s) (f_s := zup f1_s 40 1 0) hk2 (by rw [ff_s _ _ (Or.inl rfl)]; exact n5_s) n1_s (fun a_s => by rw [ff_s _ _ (Or.inr rfl)]; exact htk a_s) hpos (fun e_s k1_s w_s f2_s b1 b2 b3 b4 => ?_) (fun k1_s ls f2_s b1 b2 b3 b4 b5 => ?_)
    · have q0 : ∀ o k_s, ¬ o = 40 → ¬ (o = 102 ∧ (k_s = 12 ∨ 15 ≤ k_s ∧ k_s ≤ 19)) → f2_s o k_s = f1_s o k_s := fun o k_s s1_s s2_s => by
        rw [b4 o k_s s2_s, zne_up (by omega)]
      obtain ⟨p1_s, p2_s⟩ := hu1 e_s k1_s w_s f2_s b1 b2 q0
      refine ⟨p1_s, ⟨0, by omega, ?_, ?_, fun j_s hj => by omega⟩, tX_law (h_s := h_s) (q_s := qb) (n_s := n_s) hc_s hh hi_ hd_s hz m1_s p2_s (fun o k_s s1_s s2_s s3_s s4_s => ?_)⟩
      · dsimp only
        rw [b4 40 1 (by omega), zsame_up]
        rfl
      · dsimp only
        rw [b3, b4 40 1 (by omega), zsame_up]
      · show f2_s o k_s = h_s.2.1 o k_s
        rw [q0 o k_s s1_s (by omega)]
        exact fq o k_s s1_s s2_s
    · have q0 : ∀ o k_s, ¬ o = 40 → ¬ (o = 102 ∧ 12 ≤ k_s ∧ k_s ≤ 19) → ¬ o = 110 → f2_s o k_s = f1_s o k_s := fun o k_s s1_s s2_s s3_s => by
        rw [b5 o k_s s2_s (by omega), zne_up (by omega)]
      obtain ⟨p1_s, p2_s⟩ := hu2 k1_s ls f2_s b1 b3 (fun k_s hkn => by rw [b4 k_s hkn, ff_s 109 k_s (Or.inr rfl)]) q0
      refine ⟨p1_s, ⟨0, by omega, ?_, ?_, fun j_s hj => by omega⟩, tX_law (h_s := h_s) (q_s := qb) (n_s := n_s) hc_s hh hi_ hd_s hz m1_s p2_s (fun o k_s s1_s s2_s s3_s s4_s => ?_)⟩
      · dsimp only
        rw [b5 40 1 (by omega) (by omega), zsame_up]
        rfl
      · dsimp only
        rw [b2, b5 40 1 (by omega) (by omega), zsame_up]
      · show f2_s o k_s = h_s.2.1 o k_s
        rw [q0 o k_s s1_s s3_s s4_s]
        exact fq o k_s s1_s s2_s
  match r_s, hr1, hr2 with
  | .inl e_s, hr1, hr2 =>
    have hr2 : v_s.toInt = (e_s : Int) := hr2
    refine ⟨fun c_s => absurd c_s (by omega), fun _ => ?_⟩
    refine go_s h_s.2.2.2 hk1 _ (fun e1_s k1_s w_s f2_s d1_s d2_s d3_s => ?_) (fun k1_s ls f2_s d1_s d2_s d3_s d4_s => ?_)
    · have q1_s := ptx_det hr1 d1_s
      cases q1_s
      refine ⟨by rw [Int32.toInt_inj.mp (hr2.trans d2_s.symm)], qa, qb, lw, l1, l2, l3, lawC_q (f_s := h_s.2.1) (fun a_s k_s ha_s => ?_) l4, lawR_fr (f_s := h_s.2.1) ?_ (fun k_s hk1 => ?_) l5⟩
      · show f2_s a_s k_s = h_s.2.1 a_s k_s
        rw [d3_s a_s k_s (by omega) (by omega)]
        exact fq a_s k_s (by omega) (by omega)
      · show f2_s 102 14 = h_s.2.1 102 14
        rw [d3_s 102 14 (by omega) (by omega)]
        exact fq 102 14 (by omega) (by omega)
      · show f2_s 110 k_s = h_s.2.1 110 k_s
        rw [d3_s 110 k_s (by omega) (by omega)]
        exact fq 110 k_s (by omega) (by omega)
    · have q1_s := ptx_det hr1 d1_s
      cases q1_s
  | .inr ls, hr1, hr2 =>
    obtain ⟨s1_s, s2_s, s3_s, s4_s, s5⟩ := hr2
    refine ⟨fun _ => fun q4_s r4 m4_s => ?_, fun c_s => absurd s1_s c_s⟩
    have e4_s : qa = q4_s := Option.some.inj (l1.symm.trans r4)
    subst e4_s
    refine go_s (zup (zup h_s.2.2.2 7 10 (some qa)) 7 9 (some qb)) (show hKn (h_s.1, f1_s, h_s.2.2.1, zup (zup h_s.2.2.2 7 10 (some qa)) 7 9 (some qb)) from hkr9 (h_s := (h_s.1, f1_s, h_s.2.2.1, zup h_s.2.2.2 7 10 (some qa))) (hkr10 (h_s := (h_s.1, f1_s, h_s.2.2.1, h_s.2.2.2)) hk1 m4_s) m1_s) 1 (fun e1_s k1_s w_s f2_s d1_s d2_s d3_s => ?_) (fun k1_s ls1 f2_s d1_s d2_s d3_s d4_s => ?_)
    · have q1_s := ptx_det hr1 d1_s
      cases q1_s
    · have q1_s := ptx_det hr1 d1_s
      cases q1_s
      have c2_s : ∀ a_s k_s, (a_s = qb ∨ a_s = qb + 1) → f2_s a_s k_s = f1_s a_s k_s := fun a_s k_s ha_s => d4_s a_s k_s (by omega) (by omega) (by omega)
      refine ⟨rfl, qb, qa, some ls, ?_, ?_, by omega, ⟨?_, s3_s, fun j_s c_s hj => ?_, ?_, ptx_OK hr1 (fun p_s hp => by cases hp), ptx_ne hr1⟩, n_s, k_s, d2_s, n1_s, fun a_s ha_s => ?_, ?_⟩
      · show zup (zup h_s.2.2.2 7 10 (some qa)) 7 9 (some qb) 7 9 = some qb
        exact zsame_up
      · show zup (zup h_s.2.2.2 7 10 (some qa)) 7 9 (some qb) 7 10 = some qa
        rw [zne_up (by omega), zsame_up]
      · show (f2_s qb 2).toInt = _
        rw [c2_s qb 2 (Or.inl rfl)]
        exact s2_s
      · show f2_s (qb + 1) j_s = c_s
        rw [c2_s (qb + 1) j_s (Or.inr rfl)]
        exact s4_s j_s c_s hj
      · show f2_s qb 0 = _
        rw [c2_s qb 0 (Or.inl rfl)]
        exact s5
      · show 0 ≤ (f2_s 110 a_s).toInt
        have p_s := hpos a_s ha_s
        rw [htk a_s, if_pos (by omega)] at p_s
        rw [d3_s a_s ha_s]
        exact p_s
      · have ef : (fun a_s : Nat => if (a_s : Int) < (n_s : Int) then (f2_s 110 a_s).toInt else -1) = tkF h_s.2.1 := by
          funext a_s
          rw [htk a_s]
          by_cases e_s : (a_s : Int) < (n_s : Int)
          · rw [if_pos e_s, if_pos e_s, d3_s a_s (by omega)]
          · rw [if_neg e_s, if_neg e_s]
        show ptx (fun a_s : Nat => if (a_s : Int) < (n_s : Int) then (f2_s 110 a_s).toInt else -1) n_s k_s 0 [] (.inr ls)
        rw [ef]
        exact hr1
end R9
