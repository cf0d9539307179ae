/-! THE CLASS WORKS A LAW OUT: signs over pieces. -/
theorem EX_un {z_s : pA} {b_s : Nat} {s0_s : Int} (hz : EX z_s b_s) : EX (pun s0_s z_s) b_s := by
  intro F_s h_s K_s q_s w_s p_s s_s L_s x2_s x3 x4_s l5 l6 l7 f_s hm_s hk h2 h3 h4 hs hL hb_s hp hw hc_s t_s
  have hlen : (pun s0_s z_s).1.length = z_s.1.length + 1 := by
    unfold pun
    simp only [List.length_append, List.length_cons, List.length_nil]
  rw [hlen] at hp t_s
  have hlast : f_s (q_s + 1) (p_s + z_s.1.length) = (if s0_s = 33 then (33 : Int32) else 126) := hc_s z_s.1.length _ (by
    unfold pun
    exact zget_end _ _)
  refine hz F_s h_s K_s q_s w_s p_s s_s L_s x2_s x3 x4_s l5 l6 l7 f_s hm_s hk h2 h3 h4 hs hL hb_s (by omega) hw (fun j_s c_s hj => hc_s j_s c_s (by
    unfold pun
    exact zget_app hj)) (fun y2 y3 y4 s1_s m5_s m6_s m7_s f1_s g2 g3_s g4 gs gf gv => ?_)
  have hL1 : (f1_s q_s 2).toInt = (L_s : Int) := by
    rw [gf q_s 2 (by omega)]
    exact hL
  have hl1 : f1_s (q_s + 1) (p_s + z_s.1.length) = (if s0_s = 33 then (33 : Int32) else 126) := by
    rw [gf _ _ (by omega)]
    exact hlast
  have hpp : p_s + z_s.1.length + 1 < L_s := by omega
  have e3_s : (y3 + 1).toInt = ((p_s + (z_s.1.length + 1) : Nat) : Int) := by
    rw [in1_ (by omega)]
    omega
  have e4_s : (y4 + 1).toInt = ((s1_s + 1 : Nat) : Int) := by
    rw [in1_ (by omega)]
    omega
  have es : s1_s + 1 ≤ p_s + (z_s.1.length + 1) := by omega
  clear hp hw hc_s hlast h2 h3 h4 hs hL
  refine at58 hm_s hk g3_s g4 gs hL1 hb_s hpp ?_
  rw [hl1]
  by_cases e_s : s0_s = 33
  · rw [if_pos e_s]
    refine un83 hm_s hk g2 (fun m_s => t_s _ _ _ (s1_s + 1) _ _ _ _ g2 e3_s e4_s es (fun o k_s hq => ?_) ?_)
    · rw [zne_up (fun u_s => hq ⟨u_s.1, Nat.le_of_eq u_s.2.symm⟩)]
      exact gf o k_s hq
    · rw [zsame_up, gv]
      show _ = (if s0_s = 33 then (if z_s.2.1 (fun k_s => f_s 13 k_s) = 0 then (1 : Int32) else 0) else -(z_s.2.1 (fun k_s => f_s 13 k_s)))
      rw [if_pos e_s]
  · rw [if_neg e_s]
    refine ng83 hm_s hk g2 (fun m_s => t_s _ _ _ (s1_s + 1) _ _ _ _ g2 e3_s e4_s es (fun o k_s hq => ?_) ?_)
    · rw [zne_up (fun u_s => hq ⟨u_s.1, Nat.le_of_eq u_s.2.symm⟩)]
      exact gf o k_s hq
    · rw [zsame_up, gv]
      show _ = (if s0_s = 33 then (if z_s.2.1 (fun k_s => f_s 13 k_s) = 0 then (1 : Int32) else 0) else -(z_s.2.1 (fun k_s => f_s 13 k_s)))
      rw [if_neg e_s]
