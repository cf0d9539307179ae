/-! THE CLASS WORKS A LAW OUT: two pieces joined. -/
theorem q02_ {q_s : Nat} : ¬ q_s = q_s + 2 := by omega
theorem q12_ {q_s : Nat} : ¬ q_s + 1 = q_s + 2 := by omega
theorem q13_ {q_s : Nat} (hm_s : q_s = 14 ∨ q_s = 17) : ¬ 13 = q_s + 2 := by omega
theorem q3_ {y3 : Int32} {n_s m_s : Nat} (h_s : y3.toInt = (n_s : Int)) (hb_s : n_s + 1 < 1000) (e_s : n_s + 1 = m_s) : (y3 + 1).toInt = (m_s : Int) := by
  rw [in1_ (by omega)]
  omega
theorem EX_jn {z_s y_s : pA} {b_s b1 : Nat} {s0_s : Int} (hz : EX z_s b_s) (hy : EX y_s b1) (hb1 : b1 + 1 ≤ b_s) (hs0 : ¬ lvl s0_s = -1) : EX (pjn z_s s0_s y_s) b_s := by
  intro F_s h_s K_s q_s w_s p_s s_s L_s x2_s x3 x4_s l5 l6 l7 f_s hm_s hk h2 h3 h4 hs hL hb_s hp hw hc_s t_s
  have hlen : (pjn z_s s0_s y_s).1.length = z_s.1.length + (y_s.1.length + 1) := by
    unfold pjn
    simp only [List.length_append, List.length_cons, List.length_nil]
  rw [hlen] at hp t_s
  obtain ⟨sc_s, hsc, hof, hns⟩ := sgn_in hs0
  have hcz : ∀ j_s c_s, zget z_s.1 j_s = some c_s → f_s (q_s + 1) (p_s + j_s) = c_s := fun j_s c_s hj => hc_s j_s c_s (by
    unfold pjn
    exact zget_app hj)
  have hcy : ∀ j_s c_s, zget y_s.1 j_s = some c_s → f_s (q_s + 1) (p_s + z_s.1.length + j_s) = c_s := fun j_s c_s hj => by
    have u_s := hc_s (z_s.1.length + j_s) c_s (by
      unfold pjn
      exact zget_sh (zget_app hj))
    rw [← Nat.add_assoc] at u_s
    exact u_s
  have hlast : f_s (q_s + 1) (p_s + z_s.1.length + y_s.1.length) = sc_s := by
    have u_s := hc_s (z_s.1.length + y_s.1.length) sc_s (by
      unfold pjn
      rw [hof]
      exact zget_sh (zget_end _ _))
    rw [← Nat.add_assoc] at u_s
    exact u_s
  have q1_s : p_s + z_s.1.length < L_s := by omega
  have q2_s : p_s + z_s.1.length + y_s.1.length < L_s := by omega
  have q3_s : p_s + z_s.1.length + y_s.1.length + 1 < L_s := by omega
  have q4_s : w_s + 1 + b1 ≤ 64 := by omega
  clear hc_s hp hb1 hs0
  refine hz F_s h_s K_s q_s w_s p_s s_s L_s x2_s x3 x4_s l5 l6 l7 f_s hm_s hk h2 h3 h4 hs hL hb_s q1_s hw hcz (fun y2 y3 y4 s1_s m5_s m6_s m7_s f1_s g2 g3_s g4 gs gf gv => ?_)
  have hL1 : (f1_s q_s 2).toInt = (L_s : Int) := by
    rw [gf q_s 2 (fun u_s => q02_ u_s.1)]
    exact hL
  have nm1 : (fun k_s => f1_s 13 k_s) = fun k_s => f_s 13 k_s := by
    funext k_s
    exact gf 13 k_s (fun u_s => q13_ hm_s u_s.1)
  have ne1 : ∀ k_s, f1_s (q_s + 1) k_s = f_s (q_s + 1) k_s := fun k_s => gf _ _ (fun u_s => q12_ u_s.1)
  clear h2 h3 h4 hs hcz hw hz
  refine hy F_s h_s K_s q_s (w_s + 1) (p_s + z_s.1.length) s1_s L_s y2 y3 y4 m5_s m6_s m7_s f1_s hm_s hk g2 g3_s g4 gs hL1 hb_s q2_s q4_s (fun j_s c_s hj => by
    rw [ne1]
    exact hcy j_s c_s hj) (fun v2 v3 v4_s s2_s n5_s n6_s n7 f2_s k2_s k3_s k4_s ks_s kf kv => ?_)
  rw [nm1] at kv
  have hL2 : (f2_s q_s 2).toInt = (L_s : Int) := by
    rw [kf q_s 2 (fun u_s => q02_ u_s.1)]
    exact hL1
  have hl2 : f2_s (q_s + 1) (p_s + z_s.1.length + y_s.1.length) = sc_s := by
    rw [kf _ _ (fun u_s => q12_ u_s.1), ne1]
    exact hlast
  have gw : f2_s (q_s + 2) w_s = z_s.2.1 (fun k_s => f_s 13 k_s) := by
    rw [kf _ _ (fun u_s => absurd u_s.2 (Nat.not_succ_le_self w_s))]
    exact gv
  have k2' : v2.toInt = ((w_s + 2 : Nat) : Int) := k2_s
  have d_s := (dec1_ (x2_s := v2) (w_s := w_s + 1) k2').2
  have b3 : p_s + z_s.1.length + y_s.1.length + 1 < 1000 := Nat.lt_of_lt_of_le q3_s (Nat.le_trans hb_s (by decide))
  have e3_s : (v3 + 1).toInt = ((p_s + (z_s.1.length + (y_s.1.length + 1)) : Nat) : Int) := q3_ k3_s b3 (by rw [Nat.add_assoc, Nat.add_assoc])
  have b4 : s2_s + 1 < 1000 := Nat.lt_of_le_of_lt (Nat.succ_le_succ ks_s) b3
  have e4_s : (v4_s + 1).toInt = ((s2_s + 1 : Nat) : Int) := q3_ k4_s b4 rfl
  have es : s2_s + 1 ≤ p_s + (z_s.1.length + (y_s.1.length + 1)) := by
    rw [← Nat.add_assoc, ← Nat.add_assoc]
    exact Nat.succ_le_succ ks_s
  clear g2 g3_s g4 gs hL1 hL hlast hcy hy q1_s q2_s q4_s
  refine at58 hm_s hk k3_s k4_s ks_s hL2 hb_s q3_s ?_
  rw [hl2]
  refine jn83 hm_s hk k2' hns (t_s _ _ _ (s2_s + 1) _ _ _ _ d_s e3_s e4_s es (fun o k_s hq => ?_) ?_)
  · rw [zne_up (fun u_s => hq ⟨u_s.1, Nat.le_of_eq u_s.2.symm⟩), kf o k_s (fun u_s => hq ⟨u_s.1, Nat.le_of_succ_le u_s.2⟩)]
    exact gf o k_s hq
  · rw [zsame_up, gw, kv, hsc]
    rfl
