/-! ALL ASK, the reference: by turns; all heads are dealt. -/
section RA_s
variable {h_s : zH} {K_s : Int32 → zH → Prop} {V : zH → Prop} {nh ni nr p_s : Nat} {x1_s x2_s : Int32} {f_s : Nat → Nat → Int32}
noncomputable def hbF (f_s : Nat → Nat → Int32) (i_s : Nat) : Int := (f_s 116 i_s).toInt
noncomputable def akF (f_s : Nat → Nat → Int32) (p_s i_s : Nat) : Bool := btv (f_s 117 p_s) i_s
noncomputable def dnF (ni : Nat) (f_s : Nat → Nat → Int32) (p_s : Nat) : Prop := (∃ i_s, i_s < ni ∧ hbF f_s i_s = ((p_s : Nat) : Int)) ∨ ∀ i_s, i_s < ni → akF f_s p_s i_s = true
/-- ideaOf -/
theorem io197 (hk : hKn h_s) (hc_s : tM nh ni nr f_s) (e1_s : x1_s.toInt = (p_s : Int)) (t_s : ∀ v_s, (v_s.toInt = -1 ∧ ∀ i_s, i_s < ni → ¬ hbF f_s i_s = (p_s : Int)) ∨ (∃ i_s : Nat, i_s < ni ∧ v_s.toInt = (i_s : Int) ∧ hbF f_s i_s = (p_s : Int)) → K_s v_s (h_s.1, f_s, h_s.2.2.1, h_s.2.2.2)) : ∀ (F_s n_s : Nat) (x2_s : Int32), x2_s.toInt = (n_s : Int) → n_s ≤ ni → (∀ i_s, i_s < n_s → ¬ hbF f_s i_s = (p_s : Int)) → wF F_s 197 (2, [some (.ref 102), some (.int x1_s), some (.int x2_s)], [], (h_s.1, f_s, h_s.2.2.1, h_s.2.2.2)) (gI K_s)
  | 0, _, _, _, _, _ => wF_zero
  | F_s + 1, n_s, x2_s, e2_s, hn, hb_s => by
    have b_s := hc_s.1
    have c7_s := hc_s.2.1.2.1
    have z_s := azix (i := x2_s) (by omega)
    have ez : zix x2_s = n_s := by omega
    refine sg_197_2 (h_s := (h_s.1, f_s, h_s.2.2.1, h_s.2.2.2)) hk ?_
    dsimp only
    rw [c7_s, ez, e1_s, e2_s]
    refine ⟨fun c1_s _ => ⟨fun c2_s => t_s x2_s (Or.inr ⟨n_s, by omega, e2_s, c2_s⟩), fun c2_s => ?_⟩, fun c1_s => t_s (-1) (Or.inl ⟨rfl, fun i_s hi_s => hb_s i_s (by omega)⟩)⟩
    refine io197 hk hc_s e1_s t_s F_s (n_s + 1) (x2_s + 1) (by rw [in1_ (by omega)]; omega) (by omega) (fun i_s hi_s => ?_)
    by_cases e_s : i_s = n_s
    · rw [e_s]
      exact c2_s
    · exact hb_s i_s (by omega)
theorem sp_197 {F_s : Nat} (hk : hKn h_s) (hc_s : tM nh ni nr f_s) (e1_s : x1_s.toInt = (p_s : Int)) (t_s : ∀ v_s, (v_s.toInt = -1 ∧ ∀ i_s, i_s < ni → ¬ hbF f_s i_s = (p_s : Int)) ∨ (∃ i_s : Nat, i_s < ni ∧ v_s.toInt = (i_s : Int) ∧ hbF f_s i_s = (p_s : Int)) → K_s v_s (h_s.1, f_s, h_s.2.2.1, h_s.2.2.2)) : wF F_s 197 (0, [some (.ref 102), some (.int x1_s), none], [], (h_s.1, f_s, h_s.2.2.1, h_s.2.2.2)) (gI K_s) := wF_le (Nat.le_succ F_s) (sg_197_0 (h_s := (h_s.1, f_s, h_s.2.2.1, h_s.2.2.2)) hk (io197 hk hc_s e1_s t_s F_s 0 0 rfl (Nat.zero_le _) (fun i_s hi_s => absurd hi_s (Nat.not_lt_zero i_s))))
noncomputable def frA (f_s f1_s : Nat → Nat → Int32) : Prop := ∀ a_s k_s, ¬ a_s = 116 → ¬ a_s = 117 → f1_s a_s k_s = f_s a_s k_s
noncomputable def A48 (nh ni nr : Nat) (h_s : zH) (V : zH → Prop) (f0_s : Nat → Nat → Int32) (F_s : Nat) : Prop := ∀ (x1_s : Int32) (l2 l3 l4 : Option Value) (f_s : Nat → Nat → Int32), frA f0_s f_s → GSI nh ni (kyI f0_s) (hkI f0_s) (hbF f_s) (akF f_s) → (x1_s.toInt = 0 → ∀ p_s, p_s < nh → dnF ni f_s p_s) → wF F_s 198 (48, [some (.ref 102), some (.int x1_s), l2, l3, l4], [], (h_s.1, f_s, h_s.2.2.1, h_s.2.2.2)) (gV V)
noncomputable def A56 (nh ni nr : Nat) (h_s : zH) (V : zH → Prop) (f0_s : Nat → Nat → Int32) (F_s : Nat) : Prop := ∀ (x1_s x2_s : Int32) (l3 l4 : Option Value) (p_s : Nat) (f_s : Nat → Nat → Int32), frA f0_s f_s → GSI nh ni (kyI f0_s) (hkI f0_s) (hbF f_s) (akF f_s) → x2_s.toInt = (p_s : Int) → p_s ≤ nh → (x1_s.toInt = 0 → ∀ q_s, q_s < p_s → dnF ni f_s q_s) → wF F_s 198 (56, [some (.ref 102), some (.int x1_s), some (.int x2_s), l3, l4], [], (h_s.1, f_s, h_s.2.2.1, h_s.2.2.2)) (gV V)
noncomputable def A69 (nh ni nr : Nat) (h_s : zH) (V : zH → Prop) (f0_s : Nat → Nat → Int32) (F_s : Nat) : Prop := ∀ (x1_s x2_s x3 x4_s : Int32) (p_s n_s : Nat) (f_s : Nat → Nat → Int32), frA f0_s f_s → GSI nh ni (kyI f0_s) (hkI f0_s) (hbF f_s) (akF f_s) → x2_s.toInt = (p_s : Int) → p_s < nh → (x1_s.toInt = 0 → ∀ q_s, q_s < p_s → dnF ni f_s q_s) → x4_s.toInt = (n_s : Int) → n_s ≤ ni → bsN (kyI f0_s p_s) (akF f_s p_s) (-1) n_s x3.toInt → wF F_s 198 (69, [some (.ref 102), some (.int x1_s), some (.int x2_s), some (.int x3), some (.int x4_s)], [], (h_s.1, f_s, h_s.2.2.1, h_s.2.2.2)) (gV V)
noncomputable def A12 (nh ni nr : Nat) (h_s : zH) (V : zH → Prop) (f0_s : Nat → Nat → Int32) (F_s : Nat) : Prop := ∀ (x1_s x2_s x3 x4_s : Int32) (p_s : Nat) (f_s : Nat → Nat → Int32), frA f0_s f_s → GSI nh ni (kyI f0_s) (hkI f0_s) (hbF f_s) (akF f_s) → x2_s.toInt = (p_s : Int) → p_s < nh → (x1_s.toInt = 0 → ∀ q_s, q_s < p_s → dnF ni f_s q_s) → bsN (kyI f0_s p_s) (akF f_s p_s) (-1) ni x3.toInt → wF F_s 198 (120, [some (.ref 102), some (.int x1_s), some (.int x2_s), some (.int x3), some (.int x4_s)], [], (h_s.1, f_s, h_s.2.2.1, h_s.2.2.2)) (gV V)
section AS_s
variable {f0_s : Nat → Nat → Int32} {F_s : Nat}
theorem a48_s (hk : hKn h_s) (t_s : ∀ f1_s, frA f0_s f1_s → GSI nh ni (kyI f0_s) (hkI f0_s) (hbF f1_s) (akF f1_s) → (∀ p_s, p_s < nh → dnF ni f1_s p_s) → V (h_s.1, f1_s, h_s.2.2.1, h_s.2.2.2)) (ih_s : A56 nh ni nr h_s V f0_s F_s) : A48 nh ni nr h_s V f0_s (F_s + 1) := by
  intro x1_s l2 l3 l4 f_s hg G_s hd_s
  exact sg_198_48 (h_s := (h_s.1, f_s, h_s.2.2.1, h_s.2.2.2)) hk ⟨fun c_s => t_s f_s hg G_s (hd_s c_s), fun _ => ih_s 0 0 l3 l4 0 f_s hg G_s rfl (Nat.zero_le _) (fun _ q_s hq => absurd hq (Nat.not_lt_zero q_s))⟩
theorem a56_s (hk : hKn h_s) (hc_s : tM nh ni nr f0_s) (ih1 : A69 nh ni nr h_s V f0_s F_s) (ih2 : A48 nh ni nr h_s V f0_s F_s) : A56 nh ni nr h_s V f0_s (F_s + 1) := by
  intro x1_s x2_s l3 l4 p_s f_s hg G_s e2_s hp hd_s
  have c6_s := hc_s.2.1.1
  have e6_s : f_s 102 6 = f0_s 102 6 := hg 102 6 (by omega) (by omega)
  refine sg_198_56 (h_s := (h_s.1, f_s, h_s.2.2.1, h_s.2.2.2)) hk ?_
  dsimp only
  rw [e6_s, c6_s, e2_s]
  refine ⟨fun c_s => ih1 x1_s x2_s (-1) 0 p_s 0 f_s hg G_s e2_s (by omega) hd_s rfl (Nat.zero_le _) (Or.inl ⟨rfl, fun o ho => absurd ho (Nat.not_lt_zero o)⟩), fun c_s => ih2 x1_s (some (.int x2_s)) l3 l4 f_s hg G_s (fun w_s q_s hq => hd_s w_s q_s (by omega))⟩
theorem a69_s (hk : hKn h_s) (hc_s : tM nh ni nr f0_s) (ih1 : A69 nh ni nr h_s V f0_s F_s) (ih2 : A12 nh ni nr h_s V f0_s F_s) : A69 nh ni nr h_s V f0_s (F_s + 1) := by
  intro x1_s x2_s x3 x4_s p_s n_s f_s hg G_s e2_s hp hd_s e4_s hn hb_s
  have b_s := hc_s.1
  have c7_s := hc_s.2.1.2.1
  have e7_s : f_s 102 7 = f0_s 102 7 := hg 102 7 (by omega) (by omega)
  have z2 := azix (i := x2_s) (by omega)
  have ez2 : zix x2_s = p_s := by omega
  have hcf : tM nh ni nr f_s := tM_fr (fun k_s _ _ => hg _ _ (by omega) (by omega)) (fun k_s _ => hg _ _ (by omega) (by omega)) hc_s
  obtain ⟨ek, eh⟩ := ky_fr (f_s := f_s) (f0_s := f0_s) (fun k_s => hg 103 k_s (by omega) (by omega))
  have e5_s : (x4_s + 1).toInt = ((n_s + 1 : Nat) : Int) := by
    rw [in1_ (by omega), e4_s]
    omega
  refine sg_198_69 (h_s := (h_s.1, f_s, h_s.2.2.1, h_s.2.2.2)) hk ?_
  dsimp only
  rw [e7_s, c7_s, e4_s, ez2]
  refine ⟨fun c1_s _ => ⟨fun c3_s => ?_, fun c3_s => ?_⟩, fun c1_s => ?_⟩
  · have hno : akF f_s p_s n_s = true := (bt_tst (x_s := f_s 117 p_s) e4_s (by omega)).2.mp c3_s
    exact ih1 x1_s x2_s x3 (x4_s + 1) p_s (n_s + 1) f_s hg G_s e2_s hp hd_s e5_s (by omega) (bs_skip hb_s hno)
  · have hno : akF f_s p_s n_s = false := by
      cases e_s : akF f_s p_s n_s with
      | false => rfl
      | true => exact absurd ((bt_tst (x_s := f_s 117 p_s) e4_s (by omega)).2.mpr e_s) c3_s
    have tk : (∀ o : Nat, x3.toInt = (o : Int) → o < n_s → kyI f0_s p_s n_s < kyI f0_s p_s o) → wF F_s 198 (69, [some (.ref 102), some (.int x1_s), some (.int x2_s), some (.int x4_s), some (.int (x4_s + 1))], [], (h_s.1, f_s, h_s.2.2.1, h_s.2.2.2)) (gV V) := fun w_s => by
      refine ih1 x1_s x2_s x4_s (x4_s + 1) p_s (n_s + 1) f_s hg G_s e2_s hp hd_s e5_s (by omega) ?_
      rw [e4_s]
      exact bs_take (by omega) hb_s hno w_s
    refine ⟨fun c4_s => tk (fun o w_s _ => by omega), fun c4_s => ?_⟩
    obtain ⟨o, o1, o2⟩ : ∃ o : Nat, o < n_s ∧ x3.toInt = (o : Int) := by
      rcases hb_s with ⟨a1_s, _⟩ | ⟨o, a1_s, a2, _⟩
      · omega
      · exact ⟨o, a1_s, a2⟩
    refine sp_195 (p_s := p_s) (i_s := n_s) (o := o) hk hcf e2_s e4_s o2 hp (by omega) (by omega) (fun w_s _ => ⟨fun c_s => absurd c_s (by decide), fun _ => tk (fun o1 w1_s w2_s => ?_)⟩) (fun w_s _ => ⟨fun _ => ?_, fun c_s => absurd rfl c_s⟩)
    · have eo : o1 = o := by omega
      rw [ek] at w_s
      rw [eo]
      exact w_s
    · rw [ek] at w_s
      exact ih1 x1_s x2_s x3 (x4_s + 1) p_s (n_s + 1) f_s hg G_s e2_s hp hd_s e5_s (by omega) (bs_keep (fun w1_s => ky_inj (p_s := p_s) (f_s := f0_s) (by omega) o (by omega) w1_s) hb_s o2 (by omega) w_s)
  · have en : n_s = ni := by omega
    subst en
    exact ih2 x1_s x2_s x3 x4_s p_s f_s hg G_s e2_s hp hd_s hb_s
theorem a12_s (hk : hKn h_s) (hc_s : tM nh ni nr f0_s) (ih_s : A56 nh ni nr h_s V f0_s F_s) : A12 nh ni nr h_s V f0_s (F_s + 1) := by
  intro x1_s x2_s x3 x4_s p_s f_s hg G_s e2_s hp hd_s hb_s
  have b_s := hc_s.1
  have hcf : tM nh ni nr f_s := tM_fr (fun k_s _ _ => hg _ _ (by omega) (by omega)) (fun k_s _ => hg _ _ (by omega) (by omega)) hc_s
  obtain ⟨ek, eh⟩ := ky_fr (f_s := f_s) (f0_s := f0_s) (fun k_s => hg 103 k_s (by omega) (by omega))
  have z2 := azix (i := x2_s) (by omega)
  have ez2 : zix x2_s = p_s := by omega
  have e5_s : (x2_s + 1).toInt = ((p_s + 1 : Nat) : Int) := by
    rw [in1_ (by omega), e2_s]
    omega
  have nx : dnF ni f_s p_s → wF F_s 198 (56, [some (.ref 102), some (.int x1_s), some (.int (x2_s + 1)), some (.int x3), some (.int x4_s)], [], (h_s.1, f_s, h_s.2.2.1, h_s.2.2.2)) (gV V) := fun w_s => by
    refine ih_s x1_s (x2_s + 1) _ _ (p_s + 1) f_s hg G_s e5_s (by omega) (fun c_s q_s hq => ?_)
    by_cases e_s : q_s = p_s
    · rw [e_s]
      exact w_s
    · exact hd_s c_s q_s (by omega)
  refine sg_198_120 (h_s := (h_s.1, f_s, h_s.2.2.1, h_s.2.2.2)) hk ?_
  refine sp_197 hk hcf e2_s (fun v_s hv _ => ?_)
  rcases hv with ⟨v1_s, v2⟩ | ⟨i_s, i1_s, i2_s, i3_s⟩
  · refine ⟨fun _ => ⟨fun c3_s => ?_, fun c3_s => fun _ _ => ?_⟩, fun c_s => absurd (show v_s.toInt < 0 by omega) c_s⟩
    · rcases hb_s with ⟨_, a2⟩ | ⟨o, _, a2, _⟩
      · exact nx (Or.inr a2)
      · omega
    · rcases hb_s with ⟨a1_s, _⟩ | ⟨bb, a1_s, a2, a3, a4⟩
      · omega
      · have z3 := azix (i := x3) (by omega)
        have ez3 : zix x3 = bb := by omega
        dsimp only
        rw [ez2, ez3]
        have g1 := G_s.1 bb a1_s
        have am : ∀ (f1_s : Nat → Nat → Int32), f1_s 117 p_s = (f_s 117 p_s ||| (1 <<< (x3 &&& 31))) → (∀ q_s, ¬ q_s = p_s → f1_s 117 q_s = f_s 117 q_s) → akF f1_s p_s bb = true ∧ ∀ q_s i_s, i_s < 32 → ¬ (q_s = p_s ∧ i_s = bb) → akF f1_s q_s i_s = akF f_s q_s i_s := fun f1_s w1_s w2_s => by
          refine ⟨?_, fun q_s i_s hi_s hne => ?_⟩
          · unfold akF
            rw [w1_s, bt_or, bt_shl a2 (by omega) (by omega), decide_eq_true rfl, Bool.or_true]
          · unfold akF
            by_cases e_s : q_s = p_s
            · subst e_s
              rw [w1_s, bt_or, bt_shl a2 (by omega) hi_s, decide_eq_false (fun u_s => hne ⟨rfl, u_s⟩), Bool.or_false]
            · rw [w2_s q_s e_s]
        have cut_s : ∀ f1_s, akF f1_s p_s bb = true ∧ (∀ q_s i_s, i_s < 32 → ¬ (q_s = p_s ∧ i_s = bb) → akF f1_s q_s i_s = akF f_s q_s i_s) → ∃ ak1 : Nat → Nat → Bool, ak1 p_s bb = true ∧ (∀ q_s i_s, ¬ (q_s = p_s ∧ i_s = bb) → ak1 q_s i_s = akF f_s q_s i_s) ∧ ∀ q_s i_s, i_s < 32 → ak1 q_s i_s = akF f1_s q_s i_s := fun f1_s w_s => by
          refine ⟨fun q_s i_s => if q_s = p_s ∧ i_s = bb then true else akF f_s q_s i_s, if_pos ⟨rfl, rfl⟩, fun q_s i_s hne => if_neg hne, fun q_s i_s hi_s => ?_⟩
          by_cases e_s : q_s = p_s ∧ i_s = bb
          · show (if q_s = p_s ∧ i_s = bb then true else akF f_s q_s i_s) = akF f1_s q_s i_s
            rw [if_pos e_s, e_s.1, e_s.2, w_s.1]
          · show (if q_s = p_s ∧ i_s = bb then true else akF f_s q_s i_s) = akF f1_s q_s i_s
            rw [if_neg e_s, w_s.2 q_s i_s hi_s e_s]
        have swap_s : ∀ (f1_s : Nat → Nat → Int32) (ak1 : Nat → Nat → Bool), (∀ q_s i_s, i_s < 32 → ak1 q_s i_s = akF f1_s q_s i_s) → GSI nh ni (kyI f0_s) (hkI f0_s) (hbF f1_s) ak1 → GSI nh ni (kyI f0_s) (hkI f0_s) (hbF f1_s) (akF f1_s) := fun f1_s ak1 w_s G1_s => by
          obtain ⟨q1_s, q2_s, q3_s, q4_s, q5_s⟩ := G1_s
          refine ⟨q1_s, fun i_s q_s hi_s hq w1_s => ?_, fun i_s q_s hi_s hq w1_s => ?_, fun i_s o q_s hi_s ho hq w1_s w2_s => ?_, q5_s⟩
          · rw [← w_s q_s i_s (by omega)]
            exact q2_s i_s q_s hi_s hq w1_s
          · rw [← w_s q_s i_s (by omega)] at w1_s
            exact q3_s i_s q_s hi_s hq w1_s
          · rw [← w_s q_s i_s (by omega)] at w1_s
            rw [← w_s q_s o (by omega)] at w2_s
            exact q4_s i_s o q_s hi_s ho hq w1_s w2_s
        have go_s : ∀ (f1_s : Nat → Nat → Int32), frA f0_s f1_s → GSI nh ni (kyI f0_s) (hkI f0_s) (hbF f1_s) (akF f1_s) → wF F_s 198 (56, [some (.ref 102), some (.int 1), some (.int (x2_s + 1)), some (.int x3), some (.int x4_s)], [], (h_s.1, f1_s, h_s.2.2.1, h_s.2.2.2)) (gV V) := fun f1_s w1_s w2_s => ih_s 1 (x2_s + 1) _ _ (p_s + 1) f1_s w1_s w2_s e5_s (by omega) (fun c_s => absurd c_s (by decide))
        have hm_s : ∀ o, o < ni → akF f_s p_s o = false → o = bb ∨ kyI f0_s p_s bb < kyI f0_s p_s o := fun o ho w_s => a4 o ho w_s
        have take_s : (hbF f_s bb = -1 ∨ ∃ q_s : Nat, q_s < nh ∧ hbF f_s bb = (q_s : Int) ∧ hkI f0_s p_s < hkI f0_s q_s) → wF F_s 198 (56, [some (.ref 102), some (.int 1), some (.int (x2_s + 1)), some (.int x3), some (.int x4_s)], [], (h_s.1, zup (zup f_s 117 p_s (f_s 117 p_s ||| (1 <<< (x3 &&& 31)))) 116 bb x2_s, h_s.2.2.1, h_s.2.2.2)) (gV V) := fun w_s => by
          obtain ⟨ak1, u1_s, u2_s, u3⟩ := cut_s (zup (zup f_s 117 p_s (f_s 117 p_s ||| (1 <<< (x3 &&& 31)))) 116 bb x2_s) (am _ (by rw [zne_up (by omega), zsame_up]) (fun q_s hq => by rw [zne_up (by omega), zne_up (by omega)]))
          refine go_s _ (fun a_s k_s q1_s q2_s => by rw [zne_up (by omega), zne_up (by omega)]; exact hg a_s k_s q1_s q2_s) (swap_s _ ak1 u3 (GS_take G_s hp v2 a1_s hm_s w_s ?_ (fun i_s hi_s => ?_) u1_s u2_s))
          · show (zup (zup f_s 117 p_s _) 116 bb x2_s 116 bb).toInt = (p_s : Int)
            rw [zsame_up]
            exact e2_s
          · show (zup (zup f_s 117 p_s _) 116 bb x2_s 116 i_s).toInt = (f_s 116 i_s).toInt
            rw [zne_up (by omega), zne_up (by omega)]
        refine ⟨fun c5_s => take_s (Or.inl ?_), fun c5_s => ?_⟩
        · rcases g1 with g1 | ⟨q_s, q1_s, q2_s⟩
          · exact g1
          · have q2_s : (f_s 116 bb).toInt = (q_s : Int) := q2_s
            omega
        · rcases g1 with g1 | ⟨q_s, q1_s, q2_s⟩
          · have g1 : (f_s 116 bb).toInt = -1 := g1
            omega
          · have q2' : (f_s 116 bb).toInt = (q_s : Int) := q2_s
            have hc2 : tM nh ni nr (zup f_s 117 p_s (f_s 117 p_s ||| (1 <<< (x3 &&& 31)))) := tM_fr (fun k_s _ _ => zne_up (by omega)) (fun k_s _ => zne_up (by omega)) hcf
            have eh2 : hkI (zup f_s 117 p_s (f_s 117 p_s ||| (1 <<< (x3 &&& 31)))) = hkI f_s := (ky_fr (fun k_s => zne_up (by omega))).2
            refine sp_196 (h_s := (h_s.1, zup f_s 117 p_s (f_s 117 p_s ||| (1 <<< (x3 &&& 31))), h_s.2.2.1, h_s.2.2.2)) (p_s := p_s) (q_s := q_s) hk hc2 e2_s q2' hp q1_s (fun w_s _ => ⟨fun c_s => absurd c_s (by decide), fun _ => take_s (Or.inr ⟨q_s, q1_s, q2_s, ?_⟩)⟩) (fun w_s _ => ⟨fun _ => ?_, fun c_s => absurd rfl c_s⟩)
            · rw [eh2, eh] at w_s
              exact w_s
            · rw [eh2, eh] at w_s
              obtain ⟨ak1, u1_s, u2_s, u3⟩ := cut_s (zup (zup f_s 117 p_s (f_s 117 p_s ||| (1 <<< (x3 &&& 31)))) 116 bb (f_s 116 bb)) (am _ (by rw [zne_up (by omega), zsame_up]) (fun q_s hq => by rw [zne_up (by omega), zne_up (by omega)]))
              have eb : ∀ i_s, hbF (zup (zup f_s 117 p_s (f_s 117 p_s ||| (1 <<< (x3 &&& 31)))) 116 bb (f_s 116 bb)) i_s = hbF f_s i_s := fun i_s => by
                unfold hbF
                by_cases e_s : i_s = bb
                · rw [e_s, zsame_up]
                · rw [zne_up (by omega), zne_up (by omega)]
              have eb2 : hbF (zup (zup f_s 117 p_s (f_s 117 p_s ||| (1 <<< (x3 &&& 31)))) 116 bb (f_s 116 bb)) = hbF f_s := funext eb
              have ez : zup f_s 117 p_s (f_s 117 p_s ||| (1 <<< (x3 &&& 31))) 116 bb = f_s 116 bb := zne_up (by omega)
              dsimp only
              rw [ez]
              refine go_s _ (fun a_s k_s q1_s q2_s => by rw [zne_up (by omega), zne_up (by omega)]; exact hg a_s k_s q1_s q2_s) (swap_s _ ak1 u3 ?_)
              rw [eb2]
              exact GS_leave G_s hp a1_s hm_s ⟨q_s, q1_s, q2_s, by omega⟩ u1_s u2_s
  · exact ⟨fun c_s => absurd c_s (by omega), fun _ => nx (Or.inl ⟨i_s, i1_s, i3_s⟩)⟩
theorem a_all (hk : hKn h_s) (hc_s : tM nh ni nr f0_s) (t_s : ∀ f1_s, frA f0_s f1_s → GSI nh ni (kyI f0_s) (hkI f0_s) (hbF f1_s) (akF f1_s) → (∀ p_s, p_s < nh → dnF ni f1_s p_s) → V (h_s.1, f1_s, h_s.2.2.1, h_s.2.2.2)) : ∀ F_s, A48 nh ni nr h_s V f0_s F_s ∧ A56 nh ni nr h_s V f0_s F_s ∧ A69 nh ni nr h_s V f0_s F_s ∧ A12 nh ni nr h_s V f0_s F_s
  | 0 => by
    refine ⟨?_, ?_, ?_, ?_⟩
    · intro _ _ _ _ _ _ _ _
      exact wF_zero
    · intro _ _ _ _ _ _ _ _ _ _ _
      exact wF_zero
    · intro _ _ _ _ _ _ _ _ _ _ _ _ _ _ _
      exact wF_zero
    · intro _ _ _ _ _ _ _ _ _ _ _ _
      exact wF_zero
  | F_s + 1 => by
    obtain ⟨i1_s, i2_s, i3_s, i4_s⟩ := a_all hk hc_s t_s F_s
    exact ⟨a48_s hk t_s i2_s, a56_s hk hc_s i3_s i1_s, a69_s hk hc_s i3_s i4_s, a12_s hk hc_s i2_s⟩
end AS_s
theorem st198b {l2 l3 l4 : Option Value} {f0_s : Nat → Nat → Int32} (hk : hKn h_s) (c6_s : (f0_s 102 6).toInt = (nh : Int)) (b6 : nh ≤ 6) (t_s : ∀ (F_s : Nat) (f1_s : Nat → Nat → Int32), (∀ p_s, p_s < nh → f1_s 117 p_s = 0) → (∀ a_s k_s, ¬ (a_s = 117 ∧ k_s < nh) → f1_s a_s k_s = f0_s a_s k_s) → wF F_s 198 (48, [some (.ref 102), some (.int 1), l2, l3, l4], [], (h_s.1, f1_s, h_s.2.2.1, h_s.2.2.2)) (gV V)) : ∀ (F_s n_s : Nat) (x1_s : Int32) (f_s : Nat → Nat → Int32), x1_s.toInt = (n_s : Int) → n_s ≤ nh → (∀ p_s, p_s < n_s → f_s 117 p_s = 0) → (∀ a_s k_s, ¬ (a_s = 117 ∧ k_s < nh) → f_s a_s k_s = f0_s a_s k_s) → wF F_s 198 (25, [some (.ref 102), some (.int x1_s), l2, l3, l4], [], (h_s.1, f_s, h_s.2.2.1, h_s.2.2.2)) (gV V)
  | 0, _, _, _, _, _, _, _ => wF_zero
  | F_s + 1, n_s, x1_s, f_s, e1_s, hn, hf, hg => by
    have z_s := azix (i := x1_s) (by omega)
    have ez : zix x1_s = n_s := by omega
    have e6_s : f_s 102 6 = f0_s 102 6 := hg 102 6 (by omega)
    refine sg_198_25 (h_s := (h_s.1, f_s, h_s.2.2.1, h_s.2.2.2)) hk ?_
    dsimp only
    rw [ez, e6_s, c6_s, e1_s]
    refine ⟨fun c1_s _ => ?_, fun c1_s => ?_⟩
    · refine st198b (f0_s := f0_s) hk c6_s b6 t_s F_s (n_s + 1) (x1_s + 1) _ (by rw [in1_ (by omega)]; omega) (by omega) (fun k_s hk1 => ?_) (fun a_s k_s q_s => ?_)
      · by_cases e_s : k_s = n_s
        · rw [e_s, zsame_up]
        · rw [zne_up (by omega)]
          exact hf k_s (by omega)
      · rw [zne_up (by omega)]
        exact hg a_s k_s q_s
    · have en : n_s = nh := by omega
      subst en
      exact t_s F_s f_s hf hg
theorem st198a {l2 l3 l4 : Option Value} {f0_s : Nat → Nat → Int32} (hk : hKn h_s) (c7_s : (f0_s 102 7).toInt = (ni : Int)) (b8 : ni ≤ 8) (t_s : ∀ (F_s : Nat) (f1_s : Nat → Nat → Int32), (∀ i_s, i_s < ni → f1_s 116 i_s = -1) → (∀ a_s k_s, ¬ (a_s = 116 ∧ k_s < ni) → f1_s a_s k_s = f0_s a_s k_s) → wF F_s 198 (25, [some (.ref 102), some (.int 0), l2, l3, l4], [], (h_s.1, f1_s, h_s.2.2.1, h_s.2.2.2)) (gV V)) : ∀ (F_s n_s : Nat) (x1_s : Int32) (f_s : Nat → Nat → Int32), x1_s.toInt = (n_s : Int) → n_s ≤ ni → (∀ i_s, i_s < n_s → f_s 116 i_s = -1) → (∀ a_s k_s, ¬ (a_s = 116 ∧ k_s < ni) → f_s a_s k_s = f0_s a_s k_s) → wF F_s 198 (2, [some (.ref 102), some (.int x1_s), l2, l3, l4], [], (h_s.1, f_s, h_s.2.2.1, h_s.2.2.2)) (gV V)
  | 0, _, _, _, _, _, _, _ => wF_zero
  | F_s + 1, n_s, x1_s, f_s, e1_s, hn, hf, hg => by
    have z_s := azix (i := x1_s) (by omega)
    have ez : zix x1_s = n_s := by omega
    have e7_s : f_s 102 7 = f0_s 102 7 := hg 102 7 (by omega)
    refine sg_198_2 (h_s := (h_s.1, f_s, h_s.2.2.1, h_s.2.2.2)) hk ?_
    dsimp only
    rw [ez, e7_s, c7_s, e1_s]
    refine ⟨fun c1_s _ => ?_, fun c1_s => ?_⟩
    · refine st198a (f0_s := f0_s) hk c7_s b8 t_s F_s (n_s + 1) (x1_s + 1) _ (by rw [in1_ (by omega)]; omega) (by omega) (fun k_s hk1 => ?_) (fun a_s k_s q_s => ?_)
      · by_cases e_s : k_s = n_s
        · rw [e_s, zsame_up]
        · rw [zne_up (by omega)]
          exact hf k_s (by omega)
      · rw [zne_up (by omega)]
        exact hg a_s k_s q_s
    · have en : n_s = ni := by omega
      subst en
      exact t_s F_s f_s hf hg
theorem sp_198 {F_s : Nat} {f0_s : Nat → Nat → Int32} (hk : hKn h_s) (hc_s : tM nh ni nr f0_s) (t_s : ∀ f1_s, frA f0_s f1_s → GSI nh ni (kyI f0_s) (hkI f0_s) (hbF f1_s) (akF f1_s) → (∀ p_s, p_s < nh → dnF ni f1_s p_s) → V (h_s.1, f1_s, h_s.2.2.1, h_s.2.2.2)) : wF F_s 198 (0, [some (.ref 102), none, none, none, none], [], (h_s.1, f0_s, h_s.2.2.1, h_s.2.2.2)) (gV V) := by
  have b_s := hc_s.1
  refine wF_le (Nat.le_succ F_s) (sg_198_0 (h_s := (h_s.1, f0_s, h_s.2.2.1, h_s.2.2.2)) hk ?_)
  refine st198a (f0_s := f0_s) hk hc_s.2.1.2.1 b_s.2.1 (fun F1_s f1_s g1 g2 => ?_) F_s 0 0 f0_s rfl (Nat.zero_le _) (fun i_s hi_s => absurd hi_s (Nat.not_lt_zero i_s)) (fun _ _ _ => rfl)
  refine st198b (f0_s := f1_s) hk (by rw [g2 102 6 (by omega)]; exact hc_s.2.1.1) b_s.1 (fun F2 f2_s g3_s g4 => ?_) F1_s 0 0 f1_s rfl (Nat.zero_le _) (fun i_s hi_s => absurd hi_s (Nat.not_lt_zero i_s)) (fun _ _ _ => rfl)
  refine (a_all (f0_s := f0_s) hk hc_s t_s F2).1 1 none none none f2_s (fun a_s k_s q1_s q2_s => ?_) (GS_start (fun i_s hi_s => ?_) (fun p_s i_s hp hi_s => ?_)) (fun c_s => absurd c_s (by decide))
  · rw [g4 a_s k_s (by omega), g2 a_s k_s (by omega)]
  · show (f2_s 116 i_s).toInt = -1
    rw [g4 116 i_s (by omega), g1 i_s hi_s]
    rfl
  · show btv (f2_s 117 p_s) i_s = false
    rw [g3_s p_s hp, bt_0]
end RA_s
/-! DEAL: class and reference deal the same heads to the same ideas, and count the same. -/
noncomputable def cnI (hb_s : Nat → Int) (n_s : Int) : Nat → Int
  | 0 => 0
  | m_s + 1 => cnI hb_s n_s m_s + (if 0 ≤ hb_s m_s ∧ hb_s m_s < n_s then 1 else 0)
theorem cnI_le (hb_s : Nat → Int) (n_s : Int) : ∀ m_s : Nat, 0 ≤ cnI hb_s n_s m_s ∧ cnI hb_s n_s m_s ≤ (m_s : Int)
  | 0 => by
    show 0 ≤ (0 : Int) ∧ (0 : Int) ≤ ((0 : Nat) : Int)
    omega
  | m_s + 1 => by
    have ih_s := cnI_le hb_s n_s m_s
    show 0 ≤ cnI hb_s n_s m_s + (if 0 ≤ hb_s m_s ∧ hb_s m_s < n_s then 1 else 0) ∧ cnI hb_s n_s m_s + (if 0 ≤ hb_s m_s ∧ hb_s m_s < n_s then 1 else 0) ≤ ((m_s + 1 : Nat) : Int)
    split <;> omega
theorem cnI_0 (hb_s : Nat → Int) : ∀ m_s : Nat, cnI hb_s 0 m_s = 0
  | 0 => rfl
  | m_s + 1 => by
    show cnI hb_s 0 m_s + (if 0 ≤ hb_s m_s ∧ hb_s m_s < 0 then 1 else 0) = 0
    rw [cnI_0 hb_s m_s, if_neg (by omega)]
    rfl
theorem cnI_no {hb_s : Nat → Int} {n_s : Nat} : ∀ m_s : Nat, (∀ i_s, i_s < m_s → ¬ hb_s i_s = (n_s : Int)) → cnI hb_s ((n_s + 1 : Nat) : Int) m_s = cnI hb_s (n_s : Int) m_s
  | 0, _ => rfl
  | m_s + 1, h_s => by
    have ih_s := cnI_no (hb_s := hb_s) (n_s := n_s) m_s (fun i_s hi_s => h_s i_s (by omega))
    have hm_s := h_s m_s (by omega)
    show cnI hb_s ((n_s + 1 : Nat) : Int) m_s + (if 0 ≤ hb_s m_s ∧ hb_s m_s < ((n_s + 1 : Nat) : Int) then 1 else 0) = cnI hb_s (n_s : Int) m_s + (if 0 ≤ hb_s m_s ∧ hb_s m_s < (n_s : Int) then 1 else 0)
    rw [ih_s]
    by_cases e_s : 0 ≤ hb_s m_s ∧ hb_s m_s < (n_s : Int)
    · rw [if_pos e_s, if_pos (by omega)]
    · rw [if_neg e_s, if_neg (by omega)]
theorem cnI_one {hb_s : Nat → Int} {n_s i0_s : Nat} (e0_s : hb_s i0_s = (n_s : Int)) : ∀ m_s : Nat, i0_s < m_s → (∀ i_s, i_s < m_s → hb_s i_s = (n_s : Int) → i_s = i0_s) → cnI hb_s ((n_s + 1 : Nat) : Int) m_s = cnI hb_s (n_s : Int) m_s + 1
  | 0, h_s, _ => absurd h_s (Nat.not_lt_zero _)
  | m_s + 1, h_s, hu => by
    show cnI hb_s ((n_s + 1 : Nat) : Int) m_s + (if 0 ≤ hb_s m_s ∧ hb_s m_s < ((n_s + 1 : Nat) : Int) then 1 else 0) = cnI hb_s (n_s : Int) m_s + (if 0 ≤ hb_s m_s ∧ hb_s m_s < (n_s : Int) then 1 else 0) + 1
    by_cases e_s : i0_s = m_s
    · rw [cnI_no m_s (fun i_s hi_s w_s => absurd (hu i_s (by omega) w_s) (by omega)), ← e_s, e0_s, if_pos (by omega), if_neg (by omega)]
      omega
    · have hm_s : ¬ hb_s m_s = (n_s : Int) := fun w_s => e_s (hu m_s (by omega) w_s).symm
      rw [cnI_one e0_s m_s (by omega) (fun i_s hi_s w_s => hu i_s (by omega) w_s)]
      by_cases e_s : 0 ≤ hb_s m_s ∧ hb_s m_s < (n_s : Int)
      · rw [if_pos e_s, if_pos (show 0 ≤ hb_s m_s ∧ hb_s m_s < ((n_s + 1 : Nat) : Int) by omega)]
        first | done | omega
      · rw [if_neg e_s, if_neg (show ¬ (0 ≤ hb_s m_s ∧ hb_s m_s < ((n_s + 1 : Nat) : Int)) by omega)]
        first | done | omega
theorem cnI_all {hb_s : Nat → Int} {nh : Nat} {hc_s : Nat → Int} : ∀ m_s : Nat, (∀ i_s, i_s < m_s → hb_s i_s = -1 ∨ ∃ p_s : Nat, p_s < nh ∧ hb_s i_s = (p_s : Int)) → (∀ i_s, i_s < m_s → hc_s i_s = hb_s i_s) → cnI hc_s (nh : Int) m_s = cnI hb_s (nh : Int) m_s
  | 0, _, _ => rfl
  | m_s + 1, h_s, e_s => by
    show cnI hc_s (nh : Int) m_s + (if 0 ≤ hc_s m_s ∧ hc_s m_s < (nh : Int) then 1 else 0) = cnI hb_s (nh : Int) m_s + (if 0 ≤ hb_s m_s ∧ hb_s m_s < (nh : Int) then 1 else 0)
    rw [e_s m_s (by omega), cnI_all m_s (fun i_s hi_s => h_s i_s (by omega)) (fun i_s hi_s => e_s i_s (by omega))]
noncomputable def tieD (nh ni : Nat) (hb_s hd_s : Nat → Int) : Prop := (∀ i_s, i_s < ni → hb_s i_s = -1 ∨ ∃ p_s : Nat, p_s < nh ∧ hb_s i_s = (p_s : Int)) ∧ ∀ p_s, p_s < nh → ∀ i_s, i_s < ni → (hd_s p_s = (i_s : Int) ↔ hb_s i_s = (p_s : Int))
noncomputable def hdF (f_s : Nat → Nat → Int32) (p_s : Nat) : Int := (f_s 12 p_s).toInt
/-- the class's second loop: heads given so far -/
noncomputable def dlN (nh ni : Nat) (f1_s f_s : Nat → Nat → Int32) (x1_s : Int32) (n_s : Nat) : Prop := ∀ hb_s : Nat → Int, tieD nh ni hb_s (hdF f1_s) → (∀ i_s, i_s < ni → (f_s (20 + i_s) 6).toInt = (if hb_s i_s < (n_s : Int) then hb_s i_s else -1)) ∧ x1_s.toInt = cnI hb_s (n_s : Int) ni
section DE
variable {h_s : zH} {K_s : Int32 → zH → Prop} {nh ni nr : Nat}
theorem dl43 {f1_s : Nat → Nat → Int32} (hk : hKn h_s) (b_s : nh ≤ 6 ∧ ni ≤ 8) (c6_s : (f1_s 7 6).toInt = (nh : Int)) (c7_s : (f1_s 7 7).toInt = (ni : Int)) (S_s : ∀ p_s, p_s < nh → hdF f1_s p_s = -2 ∨ ∃ i_s : Nat, i_s < ni ∧ hdF f1_s p_s = (i_s : Int)) (t_s : ∀ v_s f2_s, dlN nh ni f1_s f2_s v_s nh → (∀ a_s k_s, ¬ (20 ≤ a_s ∧ a_s < 20 + ni ∧ k_s = 6) → f2_s a_s k_s = f1_s a_s k_s) → K_s v_s (h_s.1, f2_s, h_s.2.2.1, h_s.2.2.2)) : ∀ (F_s n_s : Nat) (x1_s x2_s : Int32) (f_s : Nat → Nat → Int32), x2_s.toInt = (n_s : Int) → n_s ≤ nh → dlN nh ni f1_s f_s x1_s n_s → (∀ a_s k_s, ¬ (20 ≤ a_s ∧ a_s < 20 + ni ∧ k_s = 6) → f_s a_s k_s = f1_s a_s k_s) → wF F_s 119 (43, [some (.ref 6), some (.int x1_s), some (.int x2_s)], [], (h_s.1, f_s, h_s.2.2.1, h_s.2.2.2)) (gI K_s)
  | 0, _, _, _, _, _, _, _, _ => wF_zero
  | F_s + 1, n_s, x1_s, x2_s, f_s, e2_s, hn, D_s, hg => by
    have z_s := azix (i := x2_s) (by omega)
    have ez : zix x2_s = n_s := by omega
    have e76 : f_s 7 6 = f1_s 7 6 := hg 7 6 (by omega)
    have e77 : f_s 7 7 = f1_s 7 7 := hg 7 7 (by omega)
    have e12_s : f_s 12 n_s = f1_s 12 n_s := hg 12 n_s (by omega)
    refine sg_119_43 (h_s := (h_s.1, f_s, h_s.2.2.1, h_s.2.2.2)) hk ?_
    dsimp only
    rw [ez, e76, e77, c6_s, c7_s, e2_s, e12_s]
    refine ⟨fun c1_s => fun _ => ?_, fun c1_s => ?_⟩
    · have hn1 : n_s < nh := by omega
      have e5_s : (x2_s + 1).toInt = ((n_s + 1 : Nat) : Int) := by
        rw [in1_ (by omega), e2_s]
        omega
      rcases S_s n_s hn1 with s_s | ⟨i0_s, s1_s, s2_s⟩
      · have s_s : (f1_s 12 n_s).toInt = -2 := s_s
        refine ⟨fun _ => ?_, fun c3_s => absurd (show (f1_s 12 n_s).toInt < 0 by omega) c3_s⟩
        refine dl43 hk b_s c6_s c7_s S_s t_s F_s (n_s + 1) x1_s (x2_s + 1) f_s e5_s (by omega) (fun hb_s T => ?_) hg
        obtain ⟨d1_s, d2_s⟩ := D_s hb_s T
        have no_s : ∀ i_s, i_s < ni → ¬ hb_s i_s = (n_s : Int) := fun i_s hi_s w_s => by
          have u_s : (f1_s 12 n_s).toInt = (i_s : Int) := (T.2 n_s hn1 i_s hi_s).mpr w_s
          omega
        refine ⟨fun i_s hi_s => ?_, ?_⟩
        · rw [d1_s i_s hi_s]
          have u_s := no_s i_s hi_s
          by_cases e_s : hb_s i_s < (n_s : Int)
          · rw [if_pos e_s, if_pos (by omega)]
          · rw [if_neg e_s, if_neg (by omega)]
        · rw [d2_s, cnI_no ni no_s]
      · have s2_s : (f1_s 12 n_s).toInt = (i0_s : Int) := s2_s
        have z2 := azix (i := f1_s 12 n_s) (by omega)
        have ez2 : zix (f1_s 12 n_s) = i0_s := by omega
        refine ⟨fun c3_s => absurd c3_s (by omega), fun _ => ⟨fun _ _ => ?_, fun c4_s => absurd (show (f1_s 12 n_s).toInt < (ni : Int) by omega) c4_s⟩⟩
        rw [ez2]
        have cx : ∀ hb_s, tieD nh ni hb_s (hdF f1_s) → (x1_s + 1).toInt = cnI hb_s (n_s : Int) ni + 1 := fun hb_s T => by
          have d2_s := (D_s hb_s T).2
          have u_s := cnI_le hb_s (n_s : Int) ni
          rw [in1_ (by omega), d2_s]
        refine dl43 hk b_s c6_s c7_s S_s t_s F_s (n_s + 1) (x1_s + 1) (x2_s + 1) _ e5_s (by omega) (fun hb_s T => ?_) (fun a_s k_s q_s => ?_)
        · obtain ⟨d1_s, d2_s⟩ := D_s hb_s T
          have u0 : hb_s i0_s = (n_s : Int) := (T.2 n_s hn1 i0_s s1_s).mp s2_s
          have un : ∀ i_s, i_s < ni → hb_s i_s = (n_s : Int) → i_s = i0_s := fun i_s hi_s w_s => by
            have u_s : (f1_s 12 n_s).toInt = (i_s : Int) := (T.2 n_s hn1 i_s hi_s).mpr w_s
            omega
          refine ⟨fun i_s hi_s => ?_, ?_⟩
          · by_cases e_s : i_s = i0_s
            · rw [e_s, zsame_up, e2_s, u0, if_pos (by omega)]
            · rw [zne_up (by omega), d1_s i_s hi_s]
              have u_s := un i_s hi_s
              by_cases e3_s : hb_s i_s < (n_s : Int)
              · rw [if_pos e3_s, if_pos (by omega)]
              · rw [if_neg e3_s, if_neg (fun w_s => e_s (u_s (by omega)))]
          · rw [cx hb_s T, cnI_one u0 ni s1_s un]
        · rw [zne_up (by omega)]
          exact hg a_s k_s q_s
    · have en : n_s = nh := by omega
      subst en
      exact t_s x1_s f_s D_s hg
theorem dl9 {f1_s : Nat → Nat → Int32} {l2 : Option Value} (hk : hKn h_s) (b_s : nh ≤ 6 ∧ ni ≤ 8) (c6_s : (f1_s 7 6).toInt = (nh : Int)) (c7_s : (f1_s 7 7).toInt = (ni : Int)) (S_s : ∀ p_s, p_s < nh → hdF f1_s p_s = -2 ∨ ∃ i_s : Nat, i_s < ni ∧ hdF f1_s p_s = (i_s : Int)) (t_s : ∀ v_s f2_s, dlN nh ni f1_s f2_s v_s nh → (∀ a_s k_s, ¬ (20 ≤ a_s ∧ a_s < 20 + ni ∧ k_s = 6) → f2_s a_s k_s = f1_s a_s k_s) → K_s v_s (h_s.1, f2_s, h_s.2.2.1, h_s.2.2.2)) : ∀ (F_s n_s : Nat) (x1_s : Int32) (f_s : Nat → Nat → Int32), x1_s.toInt = (n_s : Int) → n_s ≤ ni → (∀ i_s, i_s < n_s → f_s (20 + i_s) 6 = -1) → (∀ a_s k_s, ¬ (20 ≤ a_s ∧ a_s < 20 + ni ∧ k_s = 6) → f_s a_s k_s = f1_s a_s k_s) → wF F_s 119 (9, [some (.ref 6), some (.int x1_s), l2], [], (h_s.1, f_s, h_s.2.2.1, h_s.2.2.2)) (gI K_s)
  | 0, _, _, _, _, _, _, _ => wF_zero
  | F_s + 1, n_s, x1_s, f_s, e1_s, hn, hf, hg => by
    have z_s := azix (i := x1_s) (by omega)
    have ez : zix x1_s = n_s := by omega
    have e77 : f_s 7 7 = f1_s 7 7 := hg 7 7 (by omega)
    refine sg_119_9 (h_s := (h_s.1, f_s, h_s.2.2.1, h_s.2.2.2)) hk ?_
    dsimp only
    rw [ez, e77, c7_s, e1_s]
    refine ⟨fun c1_s => fun _ => ?_, fun c1_s => ?_⟩
    · refine dl9 hk b_s c6_s c7_s S_s t_s F_s (n_s + 1) (x1_s + 1) _ (by rw [in1_ (by omega)]; omega) (by omega) (fun i_s hi_s => ?_) (fun a_s k_s q_s => ?_)
      · by_cases e_s : i_s = n_s
        · rw [e_s, zsame_up]
        · rw [zne_up (by omega)]
          exact hf i_s (by omega)
      · rw [zne_up (by omega)]
        exact hg a_s k_s q_s
    · have en : n_s = ni := by omega
      subst en
      refine dl43 hk b_s c6_s c7_s S_s t_s F_s 0 0 0 f_s rfl (Nat.zero_le _) (fun hb_s T => ⟨fun i_s hi_s => ?_, ?_⟩) hg
      · rw [hf i_s hi_s]
        rcases T.1 i_s hi_s with u_s | ⟨p_s, _, u_s⟩
        · rw [u_s]
          rfl
        · rw [u_s, if_neg (by omega)]
          rfl
      · show (0 : Int) = cnI hb_s 0 n_s
        rw [cnI_0]
theorem sp_119 {F_s : Nat} {f0_s : Nat → Nat → Int32} (hk : hKn h_s) (hc_s : tC nh ni nr f0_s) (t_s : ∀ v_s f2_s, (∀ q_s, q_s < nh → SDp nh ni (kyI f0_s) (hkI f0_s) (hdF f2_s) q_s) → (∀ hb_s, tieD nh ni hb_s (hdF f2_s) → (∀ i_s, i_s < ni → (f2_s (20 + i_s) 6).toInt = hb_s i_s) ∧ v_s.toInt = cnI hb_s (nh : Int) ni) → (∀ a_s k_s, ¬ (20 ≤ a_s ∧ a_s < 20 + ni ∧ k_s = 6) → ¬ (a_s = 12 ∧ k_s < 6) → f2_s a_s k_s = f0_s a_s k_s) → K_s v_s (h_s.1, f2_s, h_s.2.2.1, h_s.2.2.2)) : wF F_s 119 (0, [some (.ref 6), none, none], [], (h_s.1, f0_s, h_s.2.2.1, h_s.2.2.2)) (gI K_s) := by
  have b_s := hc_s.1
  refine wF_le (Nat.le_succ F_s) (sg_119_0 (h_s := (h_s.1, f0_s, h_s.2.2.1, h_s.2.2.2)) hk ?_)
  refine sp_25 hk hc_s (fun f1_s S_s g1 hk1 => ?_)
  refine dl9 (h_s := (h_s.1, f1_s, h_s.2.2.1, h_s.2.2.2)) (f1_s := f1_s) hk1 ⟨b_s.1, b_s.2.1⟩ (by rw [g1 7 6 (by omega)]; exact hc_s.2.1.1) (by rw [g1 7 7 (by omega)]; exact hc_s.2.1.2.1) (fun p_s hp => ?_) (fun v_s f2_s D_s g2 => ?_) F_s 0 0 f1_s rfl (Nat.zero_le _) (fun i_s hi_s => absurd hi_s (Nat.not_lt_zero i_s)) (fun _ _ _ => rfl)
  · rcases S_s p_s hp with u_s | ⟨i_s, u1_s, u2_s, _⟩
    · exact Or.inl u_s.1
    · exact Or.inr ⟨i_s, u1_s, u2_s⟩
  · have e12_s : hdF f2_s = hdF f1_s := by
      funext q_s
      unfold hdF
      rw [g2 12 q_s (by omega)]
    refine t_s v_s f2_s (fun q_s hq => ?_) (fun hb_s T => ?_) (fun a_s k_s q1_s q2_s => ?_)
    · rw [e12_s]
      exact S_s q_s hq
    · rw [e12_s] at T
      obtain ⟨d1_s, d2_s⟩ := D_s hb_s T
      refine ⟨fun i_s hi_s => ?_, d2_s⟩
      rw [d1_s i_s hi_s]
      rcases T.1 i_s hi_s with u_s | ⟨p_s, u0, u_s⟩
      · rw [u_s, if_pos (by omega)]
      · rw [u_s, if_pos (by omega)]
    · rw [g2 a_s k_s q1_s]
      exact g1 a_s k_s q2_s
/-- the reference's loop -/
theorem dl8 {f1_s : Nat → Nat → Int32} (hk : hKn h_s) (b_s : nh ≤ 6 ∧ ni ≤ 8) (c7_s : (f1_s 102 7).toInt = (ni : Int)) (S_s : ∀ i_s, i_s < ni → hbF f1_s i_s = -1 ∨ ∃ p_s : Nat, p_s < nh ∧ hbF f1_s i_s = (p_s : Int)) (t_s : ∀ v_s f2_s, (∀ i_s, i_s < ni → f2_s 103 (60 + i_s) = f1_s 116 i_s) → v_s.toInt = cnI (hbF f1_s) (nh : Int) ni → (∀ a_s k_s, ¬ (a_s = 103 ∧ 60 ≤ k_s ∧ k_s < 60 + ni) → f2_s a_s k_s = f1_s a_s k_s) → K_s v_s (h_s.1, f2_s, h_s.2.2.1, h_s.2.2.2)) : ∀ (F_s n_s : Nat) (x1_s x2_s : Int32) (f_s : Nat → Nat → Int32), x2_s.toInt = (n_s : Int) → n_s ≤ ni → x1_s.toInt = cnI (hbF f1_s) (nh : Int) n_s → (∀ i_s, i_s < n_s → f_s 103 (60 + i_s) = f1_s 116 i_s) → (∀ a_s k_s, ¬ (a_s = 103 ∧ 60 ≤ k_s ∧ k_s < 60 + ni) → f_s a_s k_s = f1_s a_s k_s) → wF F_s 213 (8, [some (.ref 102), some (.int x1_s), some (.int x2_s)], [], (h_s.1, f_s, h_s.2.2.1, h_s.2.2.2)) (gI K_s)
  | 0, _, _, _, _, _, _, _, _, _ => wF_zero
  | F_s + 1, n_s, x1_s, x2_s, f_s, e2_s, hn, e1_s, hf, hg => by
    have z_s := azix (i := x2_s) (by omega)
    have ez : zix x2_s = n_s := by omega
    have a60 : (60 + x2_s).toInt = 60 + (n_s : Int) := by
      rw [na_add (by rw [i60_]; omega) (by rw [i60_]; omega), i60_, e2_s]
    have z3 := azix (i := 60 + x2_s) (by omega)
    have ez3 : zix (60 + x2_s) = 60 + n_s := by omega
    have e7_s : f_s 102 7 = f1_s 102 7 := hg 102 7 (by omega)
    have e16_s : f_s 116 n_s = f1_s 116 n_s := hg 116 n_s (by omega)
    refine sg_213_8 (h_s := (h_s.1, f_s, h_s.2.2.1, h_s.2.2.2)) hk ?_
    dsimp only
    rw [ez, ez3, e7_s, c7_s, e2_s, e16_s]
    have u_s := cnI_le (hbF f1_s) (nh : Int) n_s
    refine ⟨fun c1_s => fun _ _ => ?_, fun c1_s => ?_⟩
    · have go_s : ∀ (w_s : Int32), w_s.toInt = cnI (hbF f1_s) (nh : Int) (n_s + 1) → wF F_s 213 (8, [some (.ref 102), some (.int w_s), some (.int (x2_s + 1))], [], (h_s.1, zup f_s 103 (60 + n_s) (f1_s 116 n_s), h_s.2.2.1, h_s.2.2.2)) (gI K_s) := fun w_s e_s => by
        refine dl8 hk b_s c7_s S_s t_s F_s (n_s + 1) w_s (x2_s + 1) _ (by rw [in1_ (by omega)]; omega) (by omega) e_s (fun i_s hi_s => ?_) (fun a_s k_s q_s => ?_)
        · by_cases ei : i_s = n_s
          · rw [ei, zsame_up]
          · rw [zne_up (by omega)]
            exact hf i_s (by omega)
        · rw [zne_up (by omega)]
          exact hg a_s k_s q_s
      have st_s : cnI (hbF f1_s) (nh : Int) (n_s + 1) = cnI (hbF f1_s) (nh : Int) n_s + (if 0 ≤ (f1_s 116 n_s).toInt ∧ (f1_s 116 n_s).toInt < (nh : Int) then 1 else 0) := rfl
      have sn : (f1_s 116 n_s).toInt = -1 ∨ ∃ p_s : Nat, p_s < nh ∧ (f1_s 116 n_s).toInt = (p_s : Int) := S_s n_s (by omega)
      refine ⟨fun c5_s => go_s _ ?_, fun c5_s => go_s _ ?_⟩
      · rw [st_s, if_neg (by omega), Int32.add_zero, e1_s]
        omega
      · rw [st_s, if_pos (by rcases sn with w_s | ⟨p_s, w1_s, w2_s⟩ <;> omega), in1_ (by omega), e1_s]
    · have en : n_s = ni := by omega
      subst en
      exact t_s x1_s f_s hf e1_s hg
theorem sp_213 {F_s : Nat} {f0_s : Nat → Nat → Int32} (hk : hKn h_s) (hc_s : tM nh ni nr f0_s) (t_s : ∀ v_s f2_s, GSI nh ni (kyI f0_s) (hkI f0_s) (hbF f2_s) (akF f2_s) → (∀ p_s, p_s < nh → dnF ni f2_s p_s) → (∀ i_s, i_s < ni → f2_s 103 (60 + i_s) = f2_s 116 i_s) → v_s.toInt = cnI (hbF f2_s) (nh : Int) ni → (∀ a_s k_s, ¬ (a_s = 103 ∧ 60 ≤ k_s ∧ k_s < 60 + ni) → ¬ a_s = 116 → ¬ a_s = 117 → f2_s a_s k_s = f0_s a_s k_s) → K_s v_s (h_s.1, f2_s, h_s.2.2.1, h_s.2.2.2)) : wF F_s 213 (0, [some (.ref 102), none, none], [], (h_s.1, f0_s, h_s.2.2.1, h_s.2.2.2)) (gI K_s) := by
  have b_s := hc_s.1
  refine wF_le (Nat.le_succ F_s) (sg_213_0 (h_s := (h_s.1, f0_s, h_s.2.2.1, h_s.2.2.2)) hk ?_)
  refine sp_198 hk hc_s (fun f1_s g1 G_s D_s hk1 => ?_)
  refine dl8 (h_s := (h_s.1, f1_s, h_s.2.2.1, h_s.2.2.2)) (f1_s := f1_s) hk1 ⟨b_s.1, b_s.2.1⟩ (by rw [g1 102 7 (by omega) (by omega)]; exact hc_s.2.1.2.1) G_s.1 (fun v_s f2_s q1_s q2_s g2 => ?_) F_s 0 0 0 f1_s rfl (Nat.zero_le _) rfl (fun i_s hi_s => absurd hi_s (Nat.not_lt_zero i_s)) (fun _ _ _ => rfl)
  have e1_s : hbF f2_s = hbF f1_s := by
    funext i_s
    unfold hbF
    rw [g2 116 i_s (by omega)]
  have e2_s : akF f2_s = akF f1_s := by
    funext p_s i_s
    unfold akF
    rw [g2 117 p_s (by omega)]
  refine t_s v_s f2_s (by rw [e1_s, e2_s]; exact G_s) (fun p_s hp => ?_) (fun i_s hi_s => by rw [q1_s i_s hi_s, g2 116 i_s (by omega)]) (by rw [e1_s]; exact q2_s) (fun a_s k_s w1_s w2_s w3_s => by rw [g2 a_s k_s w1_s]; exact g1 a_s k_s w2_s w3_s)
  have u_s := D_s p_s hp
  unfold dnF at u_s ⊢
  rw [e1_s, e2_s]
  exact u_s
theorem tC_deal {f_s f2_s : Nat → Nat → Int32} (hc_s : tC nh ni nr f_s) (h1 : ∀ i_s, i_s < ni → f2_s (20 + i_s) 6 = f2_s 103 (60 + i_s) ∧ -1 ≤ (f2_s 103 (60 + i_s)).toInt ∧ (f2_s 103 (60 + i_s)).toInt < (nh : Int)) (hf : ∀ a_s k_s, inC a_s k_s → ¬ (20 ≤ a_s ∧ a_s < 20 + ni ∧ k_s = 6) → ¬ (a_s = 103 ∧ 60 ≤ k_s ∧ k_s < 60 + ni) → f2_s a_s k_s = f_s a_s k_s) : tC nh ni nr f2_s := by
  obtain ⟨a0_s, ⟨a1_s, a2, a3⟩, ⟨a4, a5, a6⟩, a7, a8, a9⟩ := hc_s
  have f7_s : ∀ a_s k_s, (a_s = 7 ∨ a_s = 102) ∧ 6 ≤ k_s ∧ k_s ≤ 8 → f2_s a_s k_s = f_s a_s k_s := fun a_s k_s q_s => hf a_s k_s (by unfold inC; omega) (by omega) (by omega)
  refine ⟨a0_s, ⟨?_, ?_, ?_⟩, ⟨?_, ?_, ?_⟩, fun n_s w_s hw hn hi_s => ?_, fun i_s q1_s q2_s => ?_, fun r_s hr => ?_⟩
  · rw [f7_s 7 6 (by omega)]
    exact a1_s
  · rw [f7_s 7 7 (by omega)]
    exact a2
  · rw [f7_s 7 8 (by omega)]
    exact a3
  · rw [f7_s 102 6 (by omega)]
    exact a4
  · rw [f7_s 102 7 (by omega)]
    exact a5
  · rw [f7_s 102 8 (by omega)]
    exact a6
  · have u_s := a7 n_s w_s hw hn hi_s
    have ci : inC (cO n_s w_s) (cF n_s w_s) := cell_in hw hn
    have pl := plc_lt hw hn
    by_cases e_s : w_s = 8
    · have hni := hi_s e_s
      subst e_s
      obtain ⟨p1_s, p2_s, p3_s⟩ := h1 n_s hni
      exact ⟨p1_s, p2_s, p3_s⟩
    · have ne_s : ¬ (20 ≤ cO n_s w_s ∧ cO n_s w_s < 20 + ni ∧ cF n_s w_s = 6) ∧ ¬ (60 ≤ plc n_s w_s ∧ plc n_s w_s < 60 + ni) ∧ ¬ cO n_s w_s = 103 := by
        by_cases v2 : w_s < 2
        · rw [cap_h v2] at hn
          rw [cO_h v2, cF_h v2, plc_h v2]
          omega
        · by_cases v9 : w_s < 9
          · rw [cap_i (by omega) v9] at hn
            rw [cO_i (by omega) v9, cF_i (by omega) v9, plc_i (by omega) v9]
            omega
          · rw [cap_r (by omega)] at hn
            rw [cO_r (by omega), cF_r (by omega), plc_r (by omega)]
            omega
      rw [hf _ _ ci ne_s.1 (fun w1_s => ne_s.2.2 w1_s.1), hf 103 _ (by unfold inC; omega) (by omega) (fun w1_s => ne_s.2.1 w1_s.2)]
      exact u_s
  · rw [hf _ _ (by unfold inC; omega) (by omega) (by omega)]
    exact a8 i_s q1_s q2_s
  · rw [hf (28 + r_s) 0 (by unfold inC; omega) (by omega) (by omega), hf (28 + r_s) 1 (by unfold inC; omega) (by omega) (by omega), hf 107 r_s (by unfold inC; omega) (by omega) (by omega), hf 108 r_s (by unfold inC; omega) (by omega) (by omega)]
    exact a9 r_s hr
theorem pr_deal {F_s : Nat} (hk : hKn h_s) (hx : tX h_s) : wF F_s 119 (0, [some (.ref 6), none, none], [], h_s) (gI (fun v_s h1 => wF F_s 213 (0, [some (.ref 102), none, none], [], h1) (gI (fun v2 h2 => v_s = v2 ∧ tX h2)))) := by
  obtain ⟨nh, ni, nr, hc_s, hh, hi_, hd_s, hz, hl⟩ := hx
  have b_s := hc_s.1
  have m0_s := tC_M hc_s
  refine sp_119 (f0_s := h_s.2.1) hk hc_s (fun v_s f1_s S_s D_s g1 => ?_)
  have g3_s : ∀ a_s k_s, 100 ≤ a_s → f1_s a_s k_s = h_s.2.1 a_s k_s := fun a_s k_s ha_s => g1 a_s k_s (by omega) (by omega)
  have m1_s : tM nh ni nr f1_s := tM_fr (fun k_s _ _ => g3_s _ _ (by omega)) (fun k_s _ => g3_s _ _ (by omega)) m0_s
  obtain ⟨ek, eh⟩ := ky_fr (f_s := f1_s) (f0_s := h_s.2.1) (fun k_s => g3_s 103 k_s (by omega))
  refine sp_213 (h_s := (h_s.1, f1_s, h_s.2.2.1, h_s.2.2.2)) (f0_s := f1_s) hk m1_s (fun v2 f2_s G_s dn q1_s q2_s g2 => ?_)
  rw [ek, eh] at G_s
  have T : tieD nh ni (hbF f2_s) (hdF f1_s) := ⟨G_s.1, fun p_s hp i_s hi_s => GS_SD (hk_inj m0_s) (hk_0 m0_s) G_s dn S_s ((hkI h_s.2.1 p_s).toNat + 1) p_s hp (by have := hk_0 m0_s p_s hp; omega) i_s hi_s⟩
  obtain ⟨d1_s, d2_s⟩ := D_s (hbF f2_s) T
  have e2_s : ∀ i_s, i_s < ni → f2_s (20 + i_s) 6 = f2_s 103 (60 + i_s) ∧ -1 ≤ (f2_s 103 (60 + i_s)).toInt ∧ (f2_s 103 (60 + i_s)).toInt < (nh : Int) := fun i_s hi_s => by
    have r1_s : (f2_s 116 i_s).toInt = -1 ∨ ∃ p_s : Nat, p_s < nh ∧ (f2_s 116 i_s).toInt = (p_s : Int) := G_s.1 i_s hi_s
    have r2 : (f1_s (20 + i_s) 6).toInt = (f2_s 116 i_s).toInt := d1_s i_s hi_s
    rw [q1_s i_s hi_s, g2 (20 + i_s) 6 (by omega) (by omega) (by omega)]
    refine ⟨Int32.toInt_inj.mp r2, ?_⟩
    rcases r1_s with w_s | ⟨p_s, w1_s, w2_s⟩ <;> omega
  refine ⟨Int32.toInt_inj.mp (d2_s.trans q2_s.symm), ?_⟩
  have hf : ∀ a_s k_s, ¬ (20 ≤ a_s ∧ a_s < 20 + ni ∧ k_s = 6) → ¬ (a_s = 103 ∧ 60 ≤ k_s ∧ k_s < 60 + ni) → ¬ (a_s = 12 ∧ k_s < 6) → ¬ a_s = 116 → ¬ a_s = 117 → f2_s a_s k_s = h_s.2.1 a_s k_s := fun a_s k_s w1_s w2_s w3_s w4_s w5 => by
    rw [g2 a_s k_s w2_s w4_s w5]
    exact g1 a_s k_s w1_s w3_s
  refine tX_rest (h_s := h_s) (h2 := (h_s.1, f2_s, h_s.2.2.1, h_s.2.2.2)) (Nat.le_refl nh) (Nat.le_refl ni) (Nat.le_refl nr) (tC_deal hc_s e2_s (fun a_s k_s w_s w1_s w2_s => hf a_s k_s w1_s w2_s (by unfold inC at w_s; omega) (by unfold inC at w_s; omega) (by unfold inC at w_s; omega))) hh hi_ hd_s hz hl (fun _ => rfl) (fun a_s k_s w_s => ?_)
  have n_s : ¬ (20 ≤ a_s ∧ a_s < 20 + ni ∧ k_s = 6) ∧ ¬ (a_s = 103 ∧ 60 ≤ k_s ∧ k_s < 60 + ni) ∧ ¬ (a_s = 12 ∧ k_s < 6) ∧ ¬ a_s = 116 ∧ ¬ a_s = 117 := by
    unfold inH inI inD inZ inW at w_s
    omega
  exact hf a_s k_s n_s.1 n_s.2.1 n_s.2.2.1 n_s.2.2.2.1 n_s.2.2.2.2
end DE
/-! What ended runs give: printed by a program (wip/fun/sg.py). -/
/-- ColdShodModel.firstFalse(II)I, from 0 on -/
theorem sg_204_0 {F_s : Nat} {x1_s : Int32} {x2_s : Int32} {h_s : zH} {K_s : Int32 → zH → Prop} (hk : hKn h_s) (t_s : wF F_s 178 (0, [some (.ref 102), some (.int x2_s), none], [], h_s) (gV (fun h1 => hKn h1 → wF F_s 204 (10, [some (.ref 102), some (.int x1_s), some (.int x2_s), some (.int 1), some (.int 0)], [], h1) (gI K_s)))) : wF (F_s + 1) 204 (0, [some (.ref 102), some (.int x1_s), some (.int x2_s), none, none], [], h_s) (gI K_s) := by
  refine w_0 (pc := 0) (e_s := (3, 1, 0, 0, 0, .null, [])) (y_s := (1, [some (.ref _), some (.int _), some (.int _), none, none], [.ref _], _)) rfl (u_ rfl) ?_
  refine w_t (pc := 1) (e_s := (1, 1, 2, 0, 0, .null, [])) (y_s := (2, [some (.ref _), some (.int _), some (.int _), none, none], [.int _, .ref _], _)) rfl (u_ rfl) ?_
  refine wcV (pc := 2) (len_s := 3) rfl rfl (l := [some (.ref _), some (.int _), none]) rfl (wmV t_s (fun h1 hk t_s => ?_))
  replace t_s := t_s hk
  refine w_t (pc := 5) (e_s := (0, 1, 0, 0, 0, .int 1, [])) (y_s := (6, [some (.ref _), some (.int _), some (.int _), none, none], [.int _], _)) rfl (u_ rfl) ?_
  refine w_t (pc := 6) (e_s := (4, 1, 3, 0, 0, .null, [])) (y_s := (7, [some (.ref _), some (.int _), some (.int _), some (.int _), none], [], _)) rfl (u_ rfl) ?_
  refine w_t (pc := 7) (e_s := (0, 1, 0, 0, 0, .int 0, [])) (y_s := (8, [some (.ref _), some (.int _), some (.int _), some (.int _), none], [.int _], _)) rfl (u_ rfl) ?_
  refine w_t (pc := 8) (e_s := (4, 2, 4, 0, 0, .null, [])) (y_s := (10, [some (.ref _), some (.int _), some (.int _), some (.int _), some (.int _)], [], _)) rfl (u_ rfl) ?_
  exact t_s
/-- ColdShodModel.firstFalse(II)I, from 10 on -/
theorem sg_204_10 {F_s : Nat} {x1_s x2_s x3 x4_s : Int32} {h_s : zH} {K_s : Int32 → zH → Prop} (hk : hKn h_s) (t_s : (zix (x1_s - x1_s / 10 * 10) < 6 → (x4_s.toInt < (h_s.2.1 125 (zix (x1_s - x1_s / 10 * 10))).toInt → ((0 < x4_s.toInt → ((x3.toInt = 0 → wF F_s 204 (52, [some (.ref 102), some (.int x1_s), some (.int x2_s), some (.int 0), some (.int x4_s)], [], h_s) (gI K_s)) ∧ (¬ x3.toInt = 0 → wF F_s 187 (0, [some (.ref 102), some (.int (x1_s / 10)), none], [], h_s) (gI (fun v5 h5 => hKn h5 → (v5.toInt < x4_s.toInt → wF F_s 204 (52, [some (.ref 102), some (.int x1_s), some (.int x2_s), some (.int 0), some (.int x4_s)], [], h5) (gI K_s)) ∧ (¬ v5.toInt < x4_s.toInt → wF F_s 204 (52, [some (.ref 102), some (.int x1_s), some (.int x2_s), some (.int 1), some (.int x4_s)], [], h5) (gI K_s))))))) ∧ (¬ 0 < x4_s.toInt → wF F_s 204 (83, [some (.ref 102), some (.int x1_s), some (.int x2_s), some (.int x3), some (.int x4_s)], [], h_s) (gI K_s)))) ∧ (¬ x4_s.toInt < (h_s.2.1 125 (zix (x1_s - x1_s / 10 * 10))).toInt → K_s (-2) h_s))) : wF (F_s + 1) 204 (10, [some (.ref 102), some (.int x1_s), some (.int x2_s), some (.int x3), some (.int x4_s)], [], h_s) (gI K_s) := by
  refine w_0 (pc := 10) (e_s := (1, 2, 4, 0, 0, .null, [])) (y_s := (12, [some (.ref _), some (.int _), some (.int _), some (.int _), some (.int _)], [.int _], _)) rfl (u_ rfl) ?_
  refine w_t (pc := 12) (e_s := (3, 1, 0, 0, 0, .null, [])) (y_s := (13, [some (.ref _), some (.int _), some (.int _), some (.int _), some (.int _)], [.ref _, .int _], _)) rfl (u_ rfl) ?_
  refine w20r (pc := 13) (len_s := 3) (q_s := 125) rfl (krq hk rfl) ?_
  refine w_t (pc := 16) (e_s := (1, 1, 1, 0, 0, .null, [])) (y_s := (17, [some (.ref _), some (.int _), some (.int _), some (.int _), some (.int _)], [.int _, .ref _, .int _], _)) rfl (u_ rfl) ?_
  refine w_t (pc := 17) (e_s := (0, 2, 0, 0, 0, .int 10, [])) (y_s := (19, [some (.ref _), some (.int _), some (.int _), some (.int _), some (.int _)], [.int _, .int _, .ref _, .int _], _)) rfl (u_ rfl) ?_
  refine w8m (pc := 19) (len_s := 1) rfl ?_
  refine w22 (pc := 20) (len_s := 1) rfl (hk.1 125 0 6 rfl rfl) (fun c1_s => ?_)
  replace t_s := t_s c1_s
  refine wi3 (pc := 21) (len_s := 3) rfl rfl rfl (fun c2_s => ?_) (fun c2_s => ?_)
  · replace t_s := t_s.1 c2_s
    refine w_t (pc := 24) (e_s := (1, 2, 4, 0, 0, .null, [])) (y_s := (26, [some (.ref _), some (.int _), some (.int _), some (.int _), some (.int _)], [.int _], _)) rfl (u_ rfl) ?_
    refine wq5 (pc := 26) (len_s := 3) rfl rfl (fun c3_s => ?_) (fun c3_s => ?_)
    · replace t_s := t_s.1 c3_s
      refine w_t (pc := 29) (e_s := (1, 1, 3, 0, 0, .null, [])) (y_s := (30, [some (.ref _), some (.int _), some (.int _), some (.int _), some (.int _)], [.int _], _)) rfl (u_ rfl) ?_
      refine wq0 (pc := 30) (len_s := 3) rfl rfl (fun c4_s => ?_) (fun c4_s => ?_)
      · replace t_s := t_s.1 c4_s
        refine w_t (pc := 50) (e_s := (0, 1, 0, 0, 0, .int 0, [])) (y_s := (51, [some (.ref _), some (.int _), some (.int _), some (.int _), some (.int _)], [.int _], _)) rfl (u_ rfl) ?_
        refine w_t (pc := 51) (e_s := (4, 1, 3, 0, 0, .null, [])) (y_s := (52, [some (.ref _), some (.int _), some (.int _), some (.int _), some (.int _)], [], _)) rfl (u_ rfl) ?_
        exact t_s
      · replace t_s := t_s.2 c4_s
        refine w_t (pc := 33) (e_s := (1, 2, 4, 0, 0, .null, [])) (y_s := (35, [some (.ref _), some (.int _), some (.int _), some (.int _), some (.int _)], [.int _], _)) rfl (u_ rfl) ?_
        refine w_t (pc := 35) (e_s := (3, 1, 0, 0, 0, .null, [])) (y_s := (36, [some (.ref _), some (.int _), some (.int _), some (.int _), some (.int _)], [.ref _, .int _], _)) rfl (u_ rfl) ?_
        refine w_t (pc := 36) (e_s := (1, 1, 1, 0, 0, .null, [])) (y_s := (37, [some (.ref _), some (.int _), some (.int _), some (.int _), some (.int _)], [.int _, .ref _, .int _], _)) rfl (u_ rfl) ?_
        refine w_t (pc := 37) (e_s := (0, 2, 0, 0, 0, .int 10, [])) (y_s := (39, [some (.ref _), some (.int _), some (.int _), some (.int _), some (.int _)], [.int _, .int _, .ref _, .int _], _)) rfl (u_ rfl) ?_
        refine w8 (pc := 39) (len_s := 1) rfl ?_
        refine wcI (pc := 40) (len_s := 3) rfl rfl (l := [some (.ref _), some (.int _), none]) rfl (wmI t_s (fun v5 h5 hk t_s => ?_))
        replace t_s := t_s hk
        refine wi4 (pc := 43) (len_s := 3) rfl rfl rfl (fun c6_s => ?_) (fun c6_s => ?_)
        · replace t_s := t_s.1 c6_s
          refine w_t (pc := 50) (e_s := (0, 1, 0, 0, 0, .int 0, [])) (y_s := (51, [some (.ref _), some (.int _), some (.int _), some (.int _), some (.int _)], [.int _], _)) rfl (u_ rfl) ?_
          refine w_t (pc := 51) (e_s := (4, 1, 3, 0, 0, .null, [])) (y_s := (52, [some (.ref _), some (.int _), some (.int _), some (.int _), some (.int _)], [], _)) rfl (u_ rfl) ?_
          exact t_s
        · replace t_s := t_s.2 c6_s
          refine w_t (pc := 46) (e_s := (0, 1, 0, 0, 0, .int 1, [])) (y_s := (47, [some (.ref _), some (.int _), some (.int _), some (.int _), some (.int _)], [.int _], _)) rfl (u_ rfl) ?_
          refine w_t (pc := 47) (e_s := (17, 3, 51, 0, 0, .null, [])) (y_s := (51, [some (.ref _), some (.int _), some (.int _), some (.int _), some (.int _)], [.int _], _)) rfl (u_ rfl) ?_
          refine w_t (pc := 51) (e_s := (4, 1, 3, 0, 0, .null, [])) (y_s := (52, [some (.ref _), some (.int _), some (.int _), some (.int _), some (.int _)], [], _)) rfl (u_ rfl) ?_
          exact t_s
    · replace t_s := t_s.2 c3_s
      exact t_s
  · replace t_s := t_s.2 c2_s
    refine w_t (pc := 122) (e_s := (0, 2, 0, 0, 0, .int (-2), [])) (y_s := (124, [some (.ref _), some (.int _), some (.int _), some (.int _), some (.int _)], [.int _], _)) rfl (u_ rfl) ?_
    exact wrI (pc := 124) (len_s := 1) rfl hk t_s
/-- ColdShodModel.firstFalse(II)I, from 52 on -/
theorem sg_204_52 {F_s : Nat} {x1_s x2_s x3 x4_s : Int32} {h_s : zH} {K_s : Int32 → zH → Prop} (hk : hKn h_s) (t_s : (x3.toInt = 0 → wF F_s 204 (83, [some (.ref 102), some (.int x1_s), some (.int x2_s), some (.int x3), some (.int x4_s)], [], h_s) (gI K_s)) ∧ (¬ x3.toInt = 0 → (zix (((60 * (x1_s / 10)) + x4_s) - 1) < 360 → wF F_s 183 (0, [some (.ref 102), some (.int ((h_s.2.2.1 126 (zix (((60 * (x1_s / 10)) + x4_s) - 1))).toInt32)), none], [], h_s) (gV (fun h3 => hKn h3 → wF F_s 204 (83, [some (.ref 102), some (.int x1_s), some (.int x2_s), some (.int (h3.2.1 102 23)), some (.int x4_s)], [], h3) (gI K_s)))))) : wF (F_s + 1) 204 (52, [some (.ref 102), some (.int x1_s), some (.int x2_s), some (.int x3), some (.int x4_s)], [], h_s) (gI K_s) := by
  refine w_0 (pc := 52) (e_s := (1, 1, 3, 0, 0, .null, [])) (y_s := (53, [some (.ref _), some (.int _), some (.int _), some (.int _), some (.int _)], [.int _], _)) rfl (u_ rfl) ?_
  refine wq0 (pc := 53) (len_s := 3) rfl rfl (fun c1_s => ?_) (fun c1_s => ?_)
  · replace t_s := t_s.1 c1_s
    exact t_s
  · replace t_s := t_s.2 c1_s
    refine w_t (pc := 56) (e_s := (3, 1, 0, 0, 0, .null, [])) (y_s := (57, [some (.ref _), some (.int _), some (.int _), some (.int _), some (.int _)], [.ref _], _)) rfl (u_ rfl) ?_
    refine w_t (pc := 57) (e_s := (3, 1, 0, 0, 0, .null, [])) (y_s := (58, [some (.ref _), some (.int _), some (.int _), some (.int _), some (.int _)], [.ref _, .ref _], _)) rfl (u_ rfl) ?_
    refine w20r (pc := 58) (len_s := 3) (q_s := 126) rfl (krq hk rfl) ?_
    refine w_t (pc := 61) (e_s := (0, 2, 0, 0, 0, .int 60, [])) (y_s := (63, [some (.ref _), some (.int _), some (.int _), some (.int _), some (.int _)], [.int _, .ref _, .ref _], _)) rfl (u_ rfl) ?_
    refine w_t (pc := 63) (e_s := (1, 1, 1, 0, 0, .null, [])) (y_s := (64, [some (.ref _), some (.int _), some (.int _), some (.int _), some (.int _)], [.int _, .int _, .ref _, .ref _], _)) rfl (u_ rfl) ?_
    refine w_t (pc := 64) (e_s := (0, 2, 0, 0, 0, .int 10, [])) (y_s := (66, [some (.ref _), some (.int _), some (.int _), some (.int _), some (.int _)], [.int _, .int _, .int _, .ref _, .ref _], _)) rfl (u_ rfl) ?_
    refine w8 (pc := 66) (len_s := 1) rfl ?_
    refine w_t (pc := 67) (e_s := (7, 1, 0, 2, 0, .null, [])) (y_s := (68, [some (.ref _), some (.int _), some (.int _), some (.int _), some (.int _)], [.int (_ * _), .ref _, .ref _], _)) rfl (u_ rfl) ?_
    refine w_t (pc := 68) (e_s := (1, 2, 4, 0, 0, .null, [])) (y_s := (70, [some (.ref _), some (.int _), some (.int _), some (.int _), some (.int _)], [.int _, .int _, .ref _, .ref _], _)) rfl (u_ rfl) ?_
    refine w_t (pc := 70) (e_s := (7, 1, 0, 0, 0, .null, [])) (y_s := (71, [some (.ref _), some (.int _), some (.int _), some (.int _), some (.int _)], [.int (_ + _), .ref _, .ref _], _)) rfl (u_ rfl) ?_
    refine w_t (pc := 71) (e_s := (0, 1, 0, 0, 0, .int 1, [])) (y_s := (72, [some (.ref _), some (.int _), some (.int _), some (.int _), some (.int _)], [.int _, .int _, .ref _, .ref _], _)) rfl (u_ rfl) ?_
    refine w_t (pc := 72) (e_s := (7, 1, 0, 1, 0, .null, [])) (y_s := (73, [some (.ref _), some (.int _), some (.int _), some (.int _), some (.int _)], [.int (_ - _), .ref _, .ref _], _)) rfl (u_ rfl) ?_
    refine w23 (pc := 73) (len_s := 1) rfl (hk.1 126 1 360 rfl rfl) (fun c2_s => ?_)
    replace t_s := t_s c2_s
    refine w_t (pc := 74) (e_s := (11, 1, 0, 0, 0, .null, [])) (y_s := (75, [some (.ref _), some (.int _), some (.int _), some (.int _), some (.int _)], [.int (Int64.toInt32 _), .ref _], _)) rfl (u_ rfl) ?_
    refine wcV (pc := 75) (len_s := 3) rfl rfl (l := [some (.ref _), some (.int _), none]) rfl (wmV t_s (fun h3 hk t_s => ?_))
    replace t_s := t_s hk
    refine w_t (pc := 78) (e_s := (3, 1, 0, 0, 0, .null, [])) (y_s := (79, [some (.ref _), some (.int _), some (.int _), some (.int _), some (.int _)], [.ref _], _)) rfl (u_ rfl) ?_
    refine w20 (pc := 79) (len_s := 3) rfl ?_
    refine w_t (pc := 82) (e_s := (4, 1, 3, 0, 0, .null, [])) (y_s := (83, [some (.ref _), some (.int _), some (.int _), some (.int _), some (.int _)], [], _)) rfl (u_ rfl) ?_
    exact t_s
/-- ColdShodModel.firstFalse(II)I, from 83 on -/
theorem sg_204_83 {F_s : Nat} {x1_s x2_s x3 x4_s : Int32} {h_s : zH} {K_s : Int32 → zH → Prop} (hk : hKn h_s) (t_s : (x3.toInt = 0 → K_s x4_s h_s) ∧ (¬ x3.toInt = 0 → (zix ((60 * (x1_s - x1_s / 10 * 10)) + x4_s) < 360 → ((h_s.2.2.1 126 (zix ((60 * (x1_s - x1_s / 10 * 10)) + x4_s))).toInt = (h_s.2.1 112 2).toInt → wF F_s 204 (10, [some (.ref 102), some (.int x1_s), some (.int x2_s), some (.int x3), some (.int (x4_s + 1))], [], h_s) (gI K_s)) ∧ (¬ (h_s.2.2.1 126 (zix ((60 * (x1_s - x1_s / 10 * 10)) + x4_s))).toInt = (h_s.2.1 112 2).toInt → K_s x4_s h_s)))) : wF (F_s + 1) 204 (83, [some (.ref 102), some (.int x1_s), some (.int x2_s), some (.int x3), some (.int x4_s)], [], h_s) (gI K_s) := by
  refine w_0 (pc := 83) (e_s := (1, 1, 3, 0, 0, .null, [])) (y_s := (84, [some (.ref _), some (.int _), some (.int _), some (.int _), some (.int _)], [.int _], _)) rfl (u_ rfl) ?_
  refine wq0 (pc := 84) (len_s := 3) rfl rfl (fun c1_s => ?_) (fun c1_s => ?_)
  · replace t_s := t_s.1 c1_s
    refine w_t (pc := 113) (e_s := (1, 2, 4, 0, 0, .null, [])) (y_s := (115, [some (.ref _), some (.int _), some (.int _), some (.int _), some (.int _)], [.int _], _)) rfl (u_ rfl) ?_
    exact wrI (pc := 115) (len_s := 1) rfl hk t_s
  · replace t_s := t_s.2 c1_s
    refine w_t (pc := 87) (e_s := (3, 1, 0, 0, 0, .null, [])) (y_s := (88, [some (.ref _), some (.int _), some (.int _), some (.int _), some (.int _)], [.ref _], _)) rfl (u_ rfl) ?_
    refine w20r (pc := 88) (len_s := 3) (q_s := 126) rfl (krq hk rfl) ?_
    refine w_t (pc := 91) (e_s := (0, 2, 0, 0, 0, .int 60, [])) (y_s := (93, [some (.ref _), some (.int _), some (.int _), some (.int _), some (.int _)], [.int _, .ref _], _)) rfl (u_ rfl) ?_
    refine w_t (pc := 93) (e_s := (1, 1, 1, 0, 0, .null, [])) (y_s := (94, [some (.ref _), some (.int _), some (.int _), some (.int _), some (.int _)], [.int _, .int _, .ref _], _)) rfl (u_ rfl) ?_
    refine w_t (pc := 94) (e_s := (0, 2, 0, 0, 0, .int 10, [])) (y_s := (96, [some (.ref _), some (.int _), some (.int _), some (.int _), some (.int _)], [.int _, .int _, .int _, .ref _], _)) rfl (u_ rfl) ?_
    refine w8m (pc := 96) (len_s := 1) rfl ?_
    refine w_t (pc := 97) (e_s := (7, 1, 0, 2, 0, .null, [])) (y_s := (98, [some (.ref _), some (.int _), some (.int _), some (.int _), some (.int _)], [.int (_ * _), .ref _], _)) rfl (u_ rfl) ?_
    refine w_t (pc := 98) (e_s := (1, 2, 4, 0, 0, .null, [])) (y_s := (100, [some (.ref _), some (.int _), some (.int _), some (.int _), some (.int _)], [.int _, .int _, .ref _], _)) rfl (u_ rfl) ?_
    refine w_t (pc := 100) (e_s := (7, 1, 0, 0, 0, .null, [])) (y_s := (101, [some (.ref _), some (.int _), some (.int _), some (.int _), some (.int _)], [.int (_ + _), .ref _], _)) rfl (u_ rfl) ?_
    refine w23 (pc := 101) (len_s := 1) rfl (hk.1 126 1 360 rfl rfl) (fun c2_s => ?_)
    replace t_s := t_s c2_s
    refine w_t (pc := 102) (e_s := (3, 1, 0, 0, 0, .null, [])) (y_s := (103, [some (.ref _), some (.int _), some (.int _), some (.int _), some (.int _)], [.ref _, .long _], _)) rfl (u_ rfl) ?_
    refine w20r (pc := 103) (len_s := 3) (q_s := 112) rfl (krq hk rfl) ?_
    refine w_t (pc := 106) (e_s := (0, 1, 0, 0, 0, .int 2, [])) (y_s := (107, [some (.ref _), some (.int _), some (.int _), some (.int _), some (.int _)], [.int _, .ref _, .long _], _)) rfl (u_ rfl) ?_
    refine w22 (pc := 107) (len_s := 1) rfl (hk.1 112 0 7 rfl rfl) (fun c3_s => ?_)
    refine w_t (pc := 108) (e_s := (10, 1, 0, 0, 0, .null, [])) (y_s := (109, [some (.ref _), some (.int _), some (.int _), some (.int _), some (.int _)], [.long (Int32.toInt64 _), .long _], _)) rfl (u_ rfl) ?_
    refine w_t (pc := 109) (e_s := (14, 1, 0, 0, 0, .null, [])) (y_s := (110, [some (.ref _), some (.int _), some (.int _), some (.int _), some (.int _)], [.int (lg_cmp _ _)], _)) rfl (u_ rfl) ?_
    refine wl0 (pc := 110) (len_s := 3) rfl rfl (Int32.toInt_toInt64 _) (fun c4_s => ?_) (fun c4_s => ?_)
    · replace t_s := t_s.1 c4_s
      refine w_t (pc := 116) (e_s := (19, 3, 4, 0, 0, .int 1, [])) (y_s := (119, [some (.ref _), some (.int _), some (.int _), some (.int _), some (.int _)], [], _)) rfl (u_ rfl) ?_
      refine w_t (pc := 119) (e_s := (17, 3, 10, 0, 0, .null, [])) (y_s := (10, [some (.ref _), some (.int _), some (.int _), some (.int _), some (.int _)], [], _)) rfl (u_ rfl) ?_
      exact t_s
    · replace t_s := t_s.2 c4_s
      refine w_t (pc := 113) (e_s := (1, 2, 4, 0, 0, .null, [])) (y_s := (115, [some (.ref _), some (.int _), some (.int _), some (.int _), some (.int _)], [.int _], _)) rfl (u_ rfl) ?_
      exact wrI (pc := 115) (len_s := 1) rfl hk t_s
/-- ColdShodModel.roadMany(I)I, from 0 on -/
theorem sg_187_0 {F_s : Nat} {x1_s : Int32} {h_s : zH} {K_s : Int32 → zH → Prop} (hk : hKn h_s) (t_s : wF F_s 187 (2, [some (.ref 102), some (.int x1_s), some (.int 0)], [], h_s) (gI K_s)) : wF (F_s + 1) 187 (0, [some (.ref 102), some (.int x1_s), none], [], h_s) (gI K_s) := by
  refine w_0 (pc := 0) (e_s := (0, 1, 0, 0, 0, .int 0, [])) (y_s := (1, [some (.ref _), some (.int _), none], [.int _], _)) rfl (u_ rfl) ?_
  refine w_t (pc := 1) (e_s := (4, 1, 2, 0, 0, .null, [])) (y_s := (2, [some (.ref _), some (.int _), some (.int _)], [], _)) rfl (u_ rfl) ?_
  exact t_s
/-- ColdShodModel.roadMany(I)I, from 2 on -/
theorem sg_187_2 {F_s : Nat} {x1_s x2_s : Int32} {h_s : zH} {K_s : Int32 → zH → Prop} (hk : hKn h_s) (t_s : (x2_s.toInt < 20 → (zix x1_s < 6 → (x2_s.toInt < (h_s.2.1 125 (zix x1_s)).toInt → (zix ((60 * x1_s) + x2_s) < 360 → ((h_s.2.2.1 126 (zix ((60 * x1_s) + x2_s))).toInt < 0 → K_s x2_s h_s) ∧ (¬ (h_s.2.2.1 126 (zix ((60 * x1_s) + x2_s))).toInt < 0 → ((((h_s.2.1 102 8) - 1).toInt < (h_s.2.2.1 126 (zix ((60 * x1_s) + x2_s))).toInt → K_s x2_s h_s) ∧ (¬ ((h_s.2.1 102 8) - 1).toInt < (h_s.2.2.1 126 (zix ((60 * x1_s) + x2_s))).toInt → wF F_s 187 (2, [some (.ref 102), some (.int x1_s), some (.int (x2_s + 1))], [], h_s) (gI K_s)))))) ∧ (¬ x2_s.toInt < (h_s.2.1 125 (zix x1_s)).toInt → K_s x2_s h_s))) ∧ (¬ x2_s.toInt < 20 → K_s x2_s h_s)) : wF (F_s + 1) 187 (2, [some (.ref 102), some (.int x1_s), some (.int x2_s)], [], h_s) (gI K_s) := by
  refine w_0 (pc := 2) (e_s := (1, 1, 2, 0, 0, .null, [])) (y_s := (3, [some (.ref _), some (.int _), some (.int _)], [.int _], _)) rfl (u_ rfl) ?_
  refine w_t (pc := 3) (e_s := (0, 2, 0, 0, 0, .int 20, [])) (y_s := (5, [some (.ref _), some (.int _), some (.int _)], [.int _, .int _], _)) rfl (u_ rfl) ?_
  refine wi3 (pc := 5) (len_s := 3) (Y := 20) rfl rfl (by decide) (fun c1_s => ?_) (fun c1_s => ?_)
  · replace t_s := t_s.1 c1_s
    refine w_t (pc := 8) (e_s := (1, 1, 2, 0, 0, .null, [])) (y_s := (9, [some (.ref _), some (.int _), some (.int _)], [.int _], _)) rfl (u_ rfl) ?_
    refine w_t (pc := 9) (e_s := (3, 1, 0, 0, 0, .null, [])) (y_s := (10, [some (.ref _), some (.int _), some (.int _)], [.ref _, .int _], _)) rfl (u_ rfl) ?_
    refine w20r (pc := 10) (len_s := 3) (q_s := 125) rfl (krq hk rfl) ?_
    refine w_t (pc := 13) (e_s := (1, 1, 1, 0, 0, .null, [])) (y_s := (14, [some (.ref _), some (.int _), some (.int _)], [.int _, .ref _, .int _], _)) rfl (u_ rfl) ?_
    refine w22 (pc := 14) (len_s := 1) rfl (hk.1 125 0 6 rfl rfl) (fun c2_s => ?_)
    replace t_s := t_s c2_s
    refine wi3 (pc := 15) (len_s := 3) rfl rfl rfl (fun c3_s => ?_) (fun c3_s => ?_)
    · replace t_s := t_s.1 c3_s
      refine w_t (pc := 18) (e_s := (3, 1, 0, 0, 0, .null, [])) (y_s := (19, [some (.ref _), some (.int _), some (.int _)], [.ref _], _)) rfl (u_ rfl) ?_
      refine w_t (pc := 19) (e_s := (3, 1, 0, 0, 0, .null, [])) (y_s := (20, [some (.ref _), some (.int _), some (.int _)], [.ref _, .ref _], _)) rfl (u_ rfl) ?_
      refine w20r (pc := 20) (len_s := 3) (q_s := 126) rfl (krq hk rfl) ?_
      refine w_t (pc := 23) (e_s := (0, 2, 0, 0, 0, .int 60, [])) (y_s := (25, [some (.ref _), some (.int _), some (.int _)], [.int _, .ref _, .ref _], _)) rfl (u_ rfl) ?_
      refine w_t (pc := 25) (e_s := (1, 1, 1, 0, 0, .null, [])) (y_s := (26, [some (.ref _), some (.int _), some (.int _)], [.int _, .int _, .ref _, .ref _], _)) rfl (u_ rfl) ?_
      refine w_t (pc := 26) (e_s := (7, 1, 0, 2, 0, .null, [])) (y_s := (27, [some (.ref _), some (.int _), some (.int _)], [.int (_ * _), .ref _, .ref _], _)) rfl (u_ rfl) ?_
      refine w_t (pc := 27) (e_s := (1, 1, 2, 0, 0, .null, [])) (y_s := (28, [some (.ref _), some (.int _), some (.int _)], [.int _, .int _, .ref _, .ref _], _)) rfl (u_ rfl) ?_
      refine w_t (pc := 28) (e_s := (7, 1, 0, 0, 0, .null, [])) (y_s := (29, [some (.ref _), some (.int _), some (.int _)], [.int (_ + _), .ref _, .ref _], _)) rfl (u_ rfl) ?_
      refine w23 (pc := 29) (len_s := 1) rfl (hk.1 126 1 360 rfl rfl) (fun c4_s => ?_)
      replace t_s := t_s c4_s
      refine wcI (pc := 30) (len_s := 3) rfl rfl (l := [some (.ref _), some (.long _), none]) rfl ?_
      refine w_t (pc := 0) (e_s := (2, 1, 1, 0, 0, .null, [])) (y_s := (1, [some (.ref _), some (.long _), none], [.long _], _)) rfl (u_ rfl) ?_
      refine w_t (pc := 1) (e_s := (0, 1, 0, 0, 0, .long 0, [])) (y_s := (2, [some (.ref _), some (.long _), none], [.long _, .long _], _)) rfl (u_ rfl) ?_
      refine w_t (pc := 2) (e_s := (3, 1, 0, 0, 0, .null, [])) (y_s := (3, [some (.ref _), some (.long _), none], [.ref _, .long _, .long _], _)) rfl (u_ rfl) ?_
      refine w20 (pc := 3) (len_s := 3) rfl ?_
      refine w_t (pc := 6) (e_s := (0, 1, 0, 0, 0, .int 1, [])) (y_s := (7, [some (.ref _), some (.long _), none], [.int _, .int _, .long _, .long _], _)) rfl (u_ rfl) ?_
      refine w_t (pc := 7) (e_s := (7, 1, 0, 1, 0, .null, [])) (y_s := (8, [some (.ref _), some (.long _), none], [.int (_ - _), .long _, .long _], _)) rfl (u_ rfl) ?_
      refine w_t (pc := 8) (e_s := (10, 1, 0, 0, 0, .null, [])) (y_s := (9, [some (.ref _), some (.long _), none], [.long (Int32.toInt64 _), .long _, .long _], _)) rfl (u_ rfl) ?_
      refine wcI (pc := 9) (len_s := 3) rfl rfl (l := [some (.long _), none, some (.long _), none, some (.long _), none]) rfl ?_
      refine w_t (pc := 0) (e_s := (2, 1, 0, 0, 0, .null, [])) (y_s := (1, [some (.long _), none, some (.long _), none, some (.long _), none], [.long _], _)) rfl (u_ rfl) ?_
      refine w_t (pc := 1) (e_s := (2, 1, 2, 0, 0, .null, [])) (y_s := (2, [some (.long _), none, some (.long _), none, some (.long _), none], [.long _, .long _], _)) rfl (u_ rfl) ?_
      refine w_t (pc := 2) (e_s := (14, 1, 0, 0, 0, .null, [])) (y_s := (3, [some (.long _), none, some (.long _), none, some (.long _), none], [.int (lg_cmp _ _)], _)) rfl (u_ rfl) ?_
      refine wl2 (pc := 3) (len_s := 3) (Y := 0) rfl rfl (by decide) (fun c5_s => ?_) (fun c5_s => ?_)
      · replace t_s := t_s.1 c5_s
        refine w_t (pc := 17) (e_s := (0, 1, 0, 0, 0, .int 0, [])) (y_s := (18, [some (.long _), none, some (.long _), none, some (.long _), none], [.int _], _)) rfl (u_ rfl) ?_
        refine wrI (pc := 18) (len_s := 1) rfl hk ?_
        show wF _ 153 (12, [some (.ref _), some (.long _), none], [.int _], _) _
        refine wrI (pc := 12) (len_s := 1) rfl hk ?_
        show wF _ 187 (33, [some (.ref _), some (.int _), some (.int _)], [.int _], _) _
        refine w_t (pc := 33) (e_s := (15, 3, 42, 0, 0, .null, [])) (y_s := (42, [some (.ref _), some (.int _), some (.int _)], [], _)) rfl (u_ rfl) ?_
        refine w_t (pc := 42) (e_s := (1, 1, 2, 0, 0, .null, [])) (y_s := (43, [some (.ref _), some (.int _), some (.int _)], [.int _], _)) rfl (u_ rfl) ?_
        exact wrI (pc := 43) (len_s := 1) rfl hk t_s
      · replace t_s := t_s.2 c5_s
        refine w_t (pc := 6) (e_s := (2, 1, 0, 0, 0, .null, [])) (y_s := (7, [some (.long _), none, some (.long _), none, some (.long _), none], [.long _], _)) rfl (u_ rfl) ?_
        refine w_t (pc := 7) (e_s := (2, 2, 4, 0, 0, .null, [])) (y_s := (9, [some (.long _), none, some (.long _), none, some (.long _), none], [.long _, .long _], _)) rfl (u_ rfl) ?_
        refine w_t (pc := 9) (e_s := (14, 1, 0, 0, 0, .null, [])) (y_s := (10, [some (.long _), none, some (.long _), none, some (.long _), none], [.int (lg_cmp _ _)], _)) rfl (u_ rfl) ?_
        refine wl4 (pc := 10) (len_s := 3) rfl rfl (Int32.toInt_toInt64 _) (fun c6_s => ?_) (fun c6_s => ?_)
        · replace t_s := t_s.1 c6_s
          refine w_t (pc := 17) (e_s := (0, 1, 0, 0, 0, .int 0, [])) (y_s := (18, [some (.long _), none, some (.long _), none, some (.long _), none], [.int _], _)) rfl (u_ rfl) ?_
          refine wrI (pc := 18) (len_s := 1) rfl hk ?_
          show wF _ 153 (12, [some (.ref _), some (.long _), none], [.int _], _) _
          refine wrI (pc := 12) (len_s := 1) rfl hk ?_
          show wF _ 187 (33, [some (.ref _), some (.int _), some (.int _)], [.int _], _) _
          refine w_t (pc := 33) (e_s := (15, 3, 42, 0, 0, .null, [])) (y_s := (42, [some (.ref _), some (.int _), some (.int _)], [], _)) rfl (u_ rfl) ?_
          refine w_t (pc := 42) (e_s := (1, 1, 2, 0, 0, .null, [])) (y_s := (43, [some (.ref _), some (.int _), some (.int _)], [.int _], _)) rfl (u_ rfl) ?_
          exact wrI (pc := 43) (len_s := 1) rfl hk t_s
        · replace t_s := t_s.2 c6_s
          refine w_t (pc := 13) (e_s := (0, 1, 0, 0, 0, .int 1, [])) (y_s := (14, [some (.long _), none, some (.long _), none, some (.long _), none], [.int _], _)) rfl (u_ rfl) ?_
          refine w_t (pc := 14) (e_s := (17, 3, 18, 0, 0, .null, [])) (y_s := (18, [some (.long _), none, some (.long _), none, some (.long _), none], [.int _], _)) rfl (u_ rfl) ?_
          refine wrI (pc := 18) (len_s := 1) rfl hk ?_
          show wF _ 153 (12, [some (.ref _), some (.long _), none], [.int _], _) _
          refine wrI (pc := 12) (len_s := 1) rfl hk ?_
          show wF _ 187 (33, [some (.ref _), some (.int _), some (.int _)], [.int _], _) _
          refine w_t (pc := 33) (e_s := (15, 3, 42, 0, 0, .null, [])) (y_s := (36, [some (.ref _), some (.int _), some (.int _)], [], _)) rfl (u_ rfl) ?_
          refine w_t (pc := 36) (e_s := (19, 3, 2, 0, 0, .int 1, [])) (y_s := (39, [some (.ref _), some (.int _), some (.int _)], [], _)) rfl (u_ rfl) ?_
          refine w_t (pc := 39) (e_s := (17, 3, 2, 0, 0, .null, [])) (y_s := (2, [some (.ref _), some (.int _), some (.int _)], [], _)) rfl (u_ rfl) ?_
          exact t_s
    · replace t_s := t_s.2 c3_s
      refine w_t (pc := 42) (e_s := (1, 1, 2, 0, 0, .null, [])) (y_s := (43, [some (.ref _), some (.int _), some (.int _)], [.int _], _)) rfl (u_ rfl) ?_
      exact wrI (pc := 43) (len_s := 1) rfl hk t_s
  · replace t_s := t_s.2 c1_s
    refine w_t (pc := 42) (e_s := (1, 1, 2, 0, 0, .null, [])) (y_s := (43, [some (.ref _), some (.int _), some (.int _)], [.int _], _)) rfl (u_ rfl) ?_
    exact wrI (pc := 43) (len_s := 1) rfl hk t_s
/-- ColdShodModel.rowsAre(I)I, from 0 on -/
theorem sg_203_0 {F_s : Nat} {x1_s : Int32} {h_s : zH} {K_s : Int32 → zH → Prop} (hk : hKn h_s) (t_s : (x1_s.toInt < 0 → K_s (-1) h_s) ∧ (¬ x1_s.toInt < 0 → (((x1_s / 10).toInt < 0 → K_s (-1) h_s) ∧ (¬ (x1_s / 10).toInt < 0 → ((5 < (x1_s / 10).toInt → K_s (-1) h_s) ∧ (¬ 5 < (x1_s / 10).toInt → (((x1_s - x1_s / 10 * 10).toInt < 0 → K_s (-1) h_s) ∧ (¬ (x1_s - x1_s / 10 * 10).toInt < 0 → ((5 < (x1_s - x1_s / 10 * 10).toInt → K_s (-1) h_s) ∧ (¬ 5 < (x1_s - x1_s / 10 * 10).toInt → (zix (x1_s / 10) < 6 → ((h_s.2.1 124 (zix (x1_s / 10))).toInt < 0 → K_s (-11) h_s) ∧ (¬ (h_s.2.1 124 (zix (x1_s / 10))).toInt < 0 → (((h_s.2.1 124 (zix (x1_s / 10))).toInt = 50 → (zix (x1_s - x1_s / 10 * 10) < 6 → ((h_s.2.1 124 (zix (x1_s - x1_s / 10 * 10))).toInt < 0 → K_s (-11) h_s) ∧ (¬ (h_s.2.1 124 (zix (x1_s - x1_s / 10 * 10))).toInt < 0 → (((h_s.2.1 124 (zix (x1_s - x1_s / 10 * 10))).toInt = 50 → K_s 1 h_s) ∧ (¬ (h_s.2.1 124 (zix (x1_s - x1_s / 10 * 10))).toInt = 50 → K_s (-12) h_s))))) ∧ (¬ (h_s.2.1 124 (zix (x1_s / 10))).toInt = 50 → K_s (-12) h_s)))))))))))))) : wF (F_s + 1) 203 (0, [some (.ref 102), some (.int x1_s)], [], h_s) (gI K_s) := by
  refine w_0 (pc := 0) (e_s := (1, 1, 1, 0, 0, .null, [])) (y_s := (1, [some (.ref _), some (.int _)], [.int _], _)) rfl (u_ rfl) ?_
  refine wq2 (pc := 1) (len_s := 3) rfl rfl (fun c1_s => ?_) (fun c1_s => ?_)
  · replace t_s := t_s.1 c1_s
    refine w_t (pc := 24) (e_s := (0, 1, 0, 0, 0, .int (-1), [])) (y_s := (25, [some (.ref _), some (.int _)], [.int _], _)) rfl (u_ rfl) ?_
    exact wrI (pc := 25) (len_s := 1) rfl hk t_s
  · replace t_s := t_s.2 c1_s
    refine w_t (pc := 4) (e_s := (1, 1, 1, 0, 0, .null, [])) (y_s := (5, [some (.ref _), some (.int _)], [.int _], _)) rfl (u_ rfl) ?_
    refine w_t (pc := 5) (e_s := (0, 2, 0, 0, 0, .int 10, [])) (y_s := (7, [some (.ref _), some (.int _)], [.int _, .int _], _)) rfl (u_ rfl) ?_
    refine w8 (pc := 7) (len_s := 1) rfl ?_
    refine wcI (pc := 8) (len_s := 3) rfl rfl (l := [some (.int _)]) rfl ?_
    refine w_t (pc := 0) (e_s := (1, 1, 0, 0, 0, .null, [])) (y_s := (1, [some (.int _)], [.int _], _)) rfl (u_ rfl) ?_
    refine w_t (pc := 1) (e_s := (10, 1, 0, 0, 0, .null, [])) (y_s := (2, [some (.int _)], [.long (Int32.toInt64 _)], _)) rfl (u_ rfl) ?_
    refine w_t (pc := 2) (e_s := (0, 1, 0, 0, 0, .long 0, [])) (y_s := (3, [some (.int _)], [.long _, .long _], _)) rfl (u_ rfl) ?_
    refine w_t (pc := 3) (e_s := (0, 3, 0, 0, 0, .long 5, [(0, 1063)])) (y_s := (6, [some (.int _)], [.long _, .long _, .long _], _)) rfl (u_ rfl) ?_
    refine wcI (pc := 6) (len_s := 3) rfl rfl (l := [some (.long _), none, some (.long _), none, some (.long _), none]) rfl ?_
    refine w_t (pc := 0) (e_s := (2, 1, 0, 0, 0, .null, [])) (y_s := (1, [some (.long _), none, some (.long _), none, some (.long _), none], [.long _], _)) rfl (u_ rfl) ?_
    refine w_t (pc := 1) (e_s := (2, 1, 2, 0, 0, .null, [])) (y_s := (2, [some (.long _), none, some (.long _), none, some (.long _), none], [.long _, .long _], _)) rfl (u_ rfl) ?_
    refine w_t (pc := 2) (e_s := (14, 1, 0, 0, 0, .null, [])) (y_s := (3, [some (.long _), none, some (.long _), none, some (.long _), none], [.int (lg_cmp _ _)], _)) rfl (u_ rfl) ?_
    refine wl2 (pc := 3) (len_s := 3) (Y := 0) rfl (Int32.toInt_toInt64 _) (by decide) (fun c2_s => ?_) (fun c2_s => ?_)
    · replace t_s := t_s.1 c2_s
      refine w_t (pc := 17) (e_s := (0, 1, 0, 0, 0, .int 0, [])) (y_s := (18, [some (.long _), none, some (.long _), none, some (.long _), none], [.int _], _)) rfl (u_ rfl) ?_
      refine wrI (pc := 18) (len_s := 1) rfl hk ?_
      show wF _ 228 (9, [some (.int _)], [.int _], _) _
      refine wrI (pc := 9) (len_s := 1) rfl hk ?_
      show wF _ 203 (11, [some (.ref _), some (.int _)], [.int _], _) _
      refine w_t (pc := 11) (e_s := (15, 3, 24, 0, 0, .null, [])) (y_s := (24, [some (.ref _), some (.int _)], [], _)) rfl (u_ rfl) ?_
      refine w_t (pc := 24) (e_s := (0, 1, 0, 0, 0, .int (-1), [])) (y_s := (25, [some (.ref _), some (.int _)], [.int _], _)) rfl (u_ rfl) ?_
      exact wrI (pc := 25) (len_s := 1) rfl hk t_s
    · replace t_s := t_s.2 c2_s
      refine w_t (pc := 6) (e_s := (2, 1, 0, 0, 0, .null, [])) (y_s := (7, [some (.long _), none, some (.long _), none, some (.long _), none], [.long _], _)) rfl (u_ rfl) ?_
      refine w_t (pc := 7) (e_s := (2, 2, 4, 0, 0, .null, [])) (y_s := (9, [some (.long _), none, some (.long _), none, some (.long _), none], [.long _, .long _], _)) rfl (u_ rfl) ?_
      refine w_t (pc := 9) (e_s := (14, 1, 0, 0, 0, .null, [])) (y_s := (10, [some (.long _), none, some (.long _), none, some (.long _), none], [.int (lg_cmp _ _)], _)) rfl (u_ rfl) ?_
      refine wl4 (pc := 10) (len_s := 3) (Y := 5) rfl (Int32.toInt_toInt64 _) (by decide) (fun c3_s => ?_) (fun c3_s => ?_)
      · replace t_s := t_s.1 c3_s
        refine w_t (pc := 17) (e_s := (0, 1, 0, 0, 0, .int 0, [])) (y_s := (18, [some (.long _), none, some (.long _), none, some (.long _), none], [.int _], _)) rfl (u_ rfl) ?_
        refine wrI (pc := 18) (len_s := 1) rfl hk ?_
        show wF _ 228 (9, [some (.int _)], [.int _], _) _
        refine wrI (pc := 9) (len_s := 1) rfl hk ?_
        show wF _ 203 (11, [some (.ref _), some (.int _)], [.int _], _) _
        refine w_t (pc := 11) (e_s := (15, 3, 24, 0, 0, .null, [])) (y_s := (24, [some (.ref _), some (.int _)], [], _)) rfl (u_ rfl) ?_
        refine w_t (pc := 24) (e_s := (0, 1, 0, 0, 0, .int (-1), [])) (y_s := (25, [some (.ref _), some (.int _)], [.int _], _)) rfl (u_ rfl) ?_
        exact wrI (pc := 25) (len_s := 1) rfl hk t_s
      · replace t_s := t_s.2 c3_s
        refine w_t (pc := 13) (e_s := (0, 1, 0, 0, 0, .int 1, [])) (y_s := (14, [some (.long _), none, some (.long _), none, some (.long _), none], [.int _], _)) rfl (u_ rfl) ?_
        refine w_t (pc := 14) (e_s := (17, 3, 18, 0, 0, .null, [])) (y_s := (18, [some (.long _), none, some (.long _), none, some (.long _), none], [.int _], _)) rfl (u_ rfl) ?_
        refine wrI (pc := 18) (len_s := 1) rfl hk ?_
        show wF _ 228 (9, [some (.int _)], [.int _], _) _
        refine wrI (pc := 9) (len_s := 1) rfl hk ?_
        show wF _ 203 (11, [some (.ref _), some (.int _)], [.int _], _) _
        refine w_t (pc := 11) (e_s := (15, 3, 24, 0, 0, .null, [])) (y_s := (14, [some (.ref _), some (.int _)], [], _)) rfl (u_ rfl) ?_
        refine w_t (pc := 14) (e_s := (1, 1, 1, 0, 0, .null, [])) (y_s := (15, [some (.ref _), some (.int _)], [.int _], _)) rfl (u_ rfl) ?_
        refine w_t (pc := 15) (e_s := (0, 2, 0, 0, 0, .int 10, [])) (y_s := (17, [some (.ref _), some (.int _)], [.int _, .int _], _)) rfl (u_ rfl) ?_
        refine w8m (pc := 17) (len_s := 1) rfl ?_
        refine wcI (pc := 18) (len_s := 3) rfl rfl (l := [some (.int _)]) rfl ?_
        refine w_t (pc := 0) (e_s := (1, 1, 0, 0, 0, .null, [])) (y_s := (1, [some (.int _)], [.int _], _)) rfl (u_ rfl) ?_
        refine w_t (pc := 1) (e_s := (10, 1, 0, 0, 0, .null, [])) (y_s := (2, [some (.int _)], [.long (Int32.toInt64 _)], _)) rfl (u_ rfl) ?_
        refine w_t (pc := 2) (e_s := (0, 1, 0, 0, 0, .long 0, [])) (y_s := (3, [some (.int _)], [.long _, .long _], _)) rfl (u_ rfl) ?_
        refine w_t (pc := 3) (e_s := (0, 3, 0, 0, 0, .long 5, [(0, 1063)])) (y_s := (6, [some (.int _)], [.long _, .long _, .long _], _)) rfl (u_ rfl) ?_
        refine wcI (pc := 6) (len_s := 3) rfl rfl (l := [some (.long _), none, some (.long _), none, some (.long _), none]) rfl ?_
        refine w_t (pc := 0) (e_s := (2, 1, 0, 0, 0, .null, [])) (y_s := (1, [some (.long _), none, some (.long _), none, some (.long _), none], [.long _], _)) rfl (u_ rfl) ?_
        refine w_t (pc := 1) (e_s := (2, 1, 2, 0, 0, .null, [])) (y_s := (2, [some (.long _), none, some (.long _), none, some (.long _), none], [.long _, .long _], _)) rfl (u_ rfl) ?_
        refine w_t (pc := 2) (e_s := (14, 1, 0, 0, 0, .null, [])) (y_s := (3, [some (.long _), none, some (.long _), none, some (.long _), none], [.int (lg_cmp _ _)], _)) rfl (u_ rfl) ?_
        refine wl2 (pc := 3) (len_s := 3) (Y := 0) rfl (Int32.toInt_toInt64 _) (by decide) (fun c4_s => ?_) (fun c4_s => ?_)
        · replace t_s := t_s.1 c4_s
          refine w_t (pc := 17) (e_s := (0, 1, 0, 0, 0, .int 0, [])) (y_s := (18, [some (.long _), none, some (.long _), none, some (.long _), none], [.int _], _)) rfl (u_ rfl) ?_
          refine wrI (pc := 18) (len_s := 1) rfl hk ?_
          show wF _ 228 (9, [some (.int _)], [.int _], _) _
          refine wrI (pc := 9) (len_s := 1) rfl hk ?_
          show wF _ 203 (21, [some (.ref _), some (.int _)], [.int _], _) _
          refine w_t (pc := 21) (e_s := (15, 3, 26, 1, 0, .null, [])) (y_s := (24, [some (.ref _), some (.int _)], [], _)) rfl (u_ rfl) ?_
          refine w_t (pc := 24) (e_s := (0, 1, 0, 0, 0, .int (-1), [])) (y_s := (25, [some (.ref _), some (.int _)], [.int _], _)) rfl (u_ rfl) ?_
          exact wrI (pc := 25) (len_s := 1) rfl hk t_s
        · replace t_s := t_s.2 c4_s
          refine w_t (pc := 6) (e_s := (2, 1, 0, 0, 0, .null, [])) (y_s := (7, [some (.long _), none, some (.long _), none, some (.long _), none], [.long _], _)) rfl (u_ rfl) ?_
          refine w_t (pc := 7) (e_s := (2, 2, 4, 0, 0, .null, [])) (y_s := (9, [some (.long _), none, some (.long _), none, some (.long _), none], [.long _, .long _], _)) rfl (u_ rfl) ?_
          refine w_t (pc := 9) (e_s := (14, 1, 0, 0, 0, .null, [])) (y_s := (10, [some (.long _), none, some (.long _), none, some (.long _), none], [.int (lg_cmp _ _)], _)) rfl (u_ rfl) ?_
          refine wl4 (pc := 10) (len_s := 3) (Y := 5) rfl (Int32.toInt_toInt64 _) (by decide) (fun c5_s => ?_) (fun c5_s => ?_)
          · replace t_s := t_s.1 c5_s
            refine w_t (pc := 17) (e_s := (0, 1, 0, 0, 0, .int 0, [])) (y_s := (18, [some (.long _), none, some (.long _), none, some (.long _), none], [.int _], _)) rfl (u_ rfl) ?_
            refine wrI (pc := 18) (len_s := 1) rfl hk ?_
            show wF _ 228 (9, [some (.int _)], [.int _], _) _
            refine wrI (pc := 9) (len_s := 1) rfl hk ?_
            show wF _ 203 (21, [some (.ref _), some (.int _)], [.int _], _) _
            refine w_t (pc := 21) (e_s := (15, 3, 26, 1, 0, .null, [])) (y_s := (24, [some (.ref _), some (.int _)], [], _)) rfl (u_ rfl) ?_
            refine w_t (pc := 24) (e_s := (0, 1, 0, 0, 0, .int (-1), [])) (y_s := (25, [some (.ref _), some (.int _)], [.int _], _)) rfl (u_ rfl) ?_
            exact wrI (pc := 25) (len_s := 1) rfl hk t_s
          · replace t_s := t_s.2 c5_s
            refine w_t (pc := 13) (e_s := (0, 1, 0, 0, 0, .int 1, [])) (y_s := (14, [some (.long _), none, some (.long _), none, some (.long _), none], [.int _], _)) rfl (u_ rfl) ?_
            refine w_t (pc := 14) (e_s := (17, 3, 18, 0, 0, .null, [])) (y_s := (18, [some (.long _), none, some (.long _), none, some (.long _), none], [.int _], _)) rfl (u_ rfl) ?_
            refine wrI (pc := 18) (len_s := 1) rfl hk ?_
            show wF _ 228 (9, [some (.int _)], [.int _], _) _
            refine wrI (pc := 9) (len_s := 1) rfl hk ?_
            show wF _ 203 (21, [some (.ref _), some (.int _)], [.int _], _) _
            refine w_t (pc := 21) (e_s := (15, 3, 26, 1, 0, .null, [])) (y_s := (26, [some (.ref _), some (.int _)], [], _)) rfl (u_ rfl) ?_
            refine w_t (pc := 26) (e_s := (3, 1, 0, 0, 0, .null, [])) (y_s := (27, [some (.ref _), some (.int _)], [.ref _], _)) rfl (u_ rfl) ?_
            refine w_t (pc := 27) (e_s := (1, 1, 1, 0, 0, .null, [])) (y_s := (28, [some (.ref _), some (.int _)], [.int _, .ref _], _)) rfl (u_ rfl) ?_
            refine w_t (pc := 28) (e_s := (0, 2, 0, 0, 0, .int 10, [])) (y_s := (30, [some (.ref _), some (.int _)], [.int _, .int _, .ref _], _)) rfl (u_ rfl) ?_
            refine w8 (pc := 30) (len_s := 1) rfl ?_
            refine wcI (pc := 31) (len_s := 3) rfl rfl (l := [some (.ref _), some (.int _)]) rfl ?_
            refine w_t (pc := 0) (e_s := (1, 1, 1, 0, 0, .null, [])) (y_s := (1, [some (.ref _), some (.int _)], [.int _], _)) rfl (u_ rfl) ?_
            refine wcI (pc := 1) (len_s := 3) rfl rfl (l := [some (.int _)]) rfl ?_
            refine w_t (pc := 0) (e_s := (1, 1, 0, 0, 0, .null, [])) (y_s := (1, [some (.int _)], [.int _], _)) rfl (u_ rfl) ?_
            refine w_t (pc := 1) (e_s := (10, 1, 0, 0, 0, .null, [])) (y_s := (2, [some (.int _)], [.long (Int32.toInt64 _)], _)) rfl (u_ rfl) ?_
            refine w_t (pc := 2) (e_s := (0, 1, 0, 0, 0, .long 0, [])) (y_s := (3, [some (.int _)], [.long _, .long _], _)) rfl (u_ rfl) ?_
            refine w_t (pc := 3) (e_s := (0, 3, 0, 0, 0, .long 5, [(0, 1063)])) (y_s := (6, [some (.int _)], [.long _, .long _, .long _], _)) rfl (u_ rfl) ?_
            refine wcI (pc := 6) (len_s := 3) rfl rfl (l := [some (.long _), none, some (.long _), none, some (.long _), none]) rfl ?_
            refine w_t (pc := 0) (e_s := (2, 1, 0, 0, 0, .null, [])) (y_s := (1, [some (.long _), none, some (.long _), none, some (.long _), none], [.long _], _)) rfl (u_ rfl) ?_
            refine w_t (pc := 1) (e_s := (2, 1, 2, 0, 0, .null, [])) (y_s := (2, [some (.long _), none, some (.long _), none, some (.long _), none], [.long _, .long _], _)) rfl (u_ rfl) ?_
            refine w_t (pc := 2) (e_s := (14, 1, 0, 0, 0, .null, [])) (y_s := (3, [some (.long _), none, some (.long _), none, some (.long _), none], [.int (lg_cmp _ _)], _)) rfl (u_ rfl) ?_
            refine wl2 (pc := 3) (len_s := 3) (Y := 0) rfl (Int32.toInt_toInt64 _) (by decide) (fun c6_s => ?_) (fun c6_s => ?_)
            · exact absurd c6_s c2_s
            · skip
              refine w_t (pc := 6) (e_s := (2, 1, 0, 0, 0, .null, [])) (y_s := (7, [some (.long _), none, some (.long _), none, some (.long _), none], [.long _], _)) rfl (u_ rfl) ?_
              refine w_t (pc := 7) (e_s := (2, 2, 4, 0, 0, .null, [])) (y_s := (9, [some (.long _), none, some (.long _), none, some (.long _), none], [.long _, .long _], _)) rfl (u_ rfl) ?_
              refine w_t (pc := 9) (e_s := (14, 1, 0, 0, 0, .null, [])) (y_s := (10, [some (.long _), none, some (.long _), none, some (.long _), none], [.int (lg_cmp _ _)], _)) rfl (u_ rfl) ?_
              refine wl4 (pc := 10) (len_s := 3) (Y := 5) rfl (Int32.toInt_toInt64 _) (by decide) (fun c7_s => ?_) (fun c7_s => ?_)
              · exact absurd c7_s c3_s
              · skip
                refine w_t (pc := 13) (e_s := (0, 1, 0, 0, 0, .int 1, [])) (y_s := (14, [some (.long _), none, some (.long _), none, some (.long _), none], [.int _], _)) rfl (u_ rfl) ?_
                refine w_t (pc := 14) (e_s := (17, 3, 18, 0, 0, .null, [])) (y_s := (18, [some (.long _), none, some (.long _), none, some (.long _), none], [.int _], _)) rfl (u_ rfl) ?_
                refine wrI (pc := 18) (len_s := 1) rfl hk ?_
                show wF _ 228 (9, [some (.int _)], [.int _], _) _
                refine wrI (pc := 9) (len_s := 1) rfl hk ?_
                show wF _ 186 (4, [some (.ref _), some (.int _)], [.int _], _) _
                refine w_t (pc := 4) (e_s := (15, 3, 11, 1, 0, .null, [])) (y_s := (11, [some (.ref _), some (.int _)], [], _)) rfl (u_ rfl) ?_
                refine w_t (pc := 11) (e_s := (3, 1, 0, 0, 0, .null, [])) (y_s := (12, [some (.ref _), some (.int _)], [.ref _], _)) rfl (u_ rfl) ?_
                refine w20r (pc := 12) (len_s := 3) (q_s := 124) rfl (krq hk rfl) ?_
                refine w_t (pc := 15) (e_s := (1, 1, 1, 0, 0, .null, [])) (y_s := (16, [some (.ref _), some (.int _)], [.int _, .ref _], _)) rfl (u_ rfl) ?_
                refine w22 (pc := 16) (len_s := 1) rfl (hk.1 124 0 6 rfl rfl) (fun c8_s => ?_)
                replace t_s := t_s c8_s
                refine wq3 (pc := 17) (len_s := 3) rfl rfl (fun c9_s => ?_) (fun c9_s => ?_)
                · replace t_s := t_s.1 c9_s
                  refine w_t (pc := 20) (e_s := (0, 2, 0, 0, 0, .int (-11), [])) (y_s := (22, [some (.ref _), some (.int _)], [.int _], _)) rfl (u_ rfl) ?_
                  refine w_t (pc := 22) (e_s := (17, 3, 42, 0, 0, .null, [])) (y_s := (42, [some (.ref _), some (.int _)], [.int _], _)) rfl (u_ rfl) ?_
                  refine wrI (pc := 42) (len_s := 1) rfl hk ?_
                  show wF _ 203 (34, [some (.ref _), some (.int _)], [.int _], _) _
                  refine w_t (pc := 34) (e_s := (15, 3, 48, 3, 0, .null, [])) (y_s := (37, [some (.ref _), some (.int _)], [], _)) rfl (u_ rfl) ?_
                  refine w_t (pc := 37) (e_s := (3, 1, 0, 0, 0, .null, [])) (y_s := (38, [some (.ref _), some (.int _)], [.ref _], _)) rfl (u_ rfl) ?_
                  refine w_t (pc := 38) (e_s := (1, 1, 1, 0, 0, .null, [])) (y_s := (39, [some (.ref _), some (.int _)], [.int _, .ref _], _)) rfl (u_ rfl) ?_
                  refine w_t (pc := 39) (e_s := (0, 2, 0, 0, 0, .int 10, [])) (y_s := (41, [some (.ref _), some (.int _)], [.int _, .int _, .ref _], _)) rfl (u_ rfl) ?_
                  refine w8 (pc := 41) (len_s := 1) rfl ?_
                  refine wcI (pc := 42) (len_s := 3) rfl rfl (l := [some (.ref _), some (.int _)]) rfl ?_
                  refine w_t (pc := 0) (e_s := (1, 1, 1, 0, 0, .null, [])) (y_s := (1, [some (.ref _), some (.int _)], [.int _], _)) rfl (u_ rfl) ?_
                  refine wcI (pc := 1) (len_s := 3) rfl rfl (l := [some (.int _)]) rfl ?_
                  refine w_t (pc := 0) (e_s := (1, 1, 0, 0, 0, .null, [])) (y_s := (1, [some (.int _)], [.int _], _)) rfl (u_ rfl) ?_
                  refine w_t (pc := 1) (e_s := (10, 1, 0, 0, 0, .null, [])) (y_s := (2, [some (.int _)], [.long (Int32.toInt64 _)], _)) rfl (u_ rfl) ?_
                  refine w_t (pc := 2) (e_s := (0, 1, 0, 0, 0, .long 0, [])) (y_s := (3, [some (.int _)], [.long _, .long _], _)) rfl (u_ rfl) ?_
                  refine w_t (pc := 3) (e_s := (0, 3, 0, 0, 0, .long 5, [(0, 1063)])) (y_s := (6, [some (.int _)], [.long _, .long _, .long _], _)) rfl (u_ rfl) ?_
                  refine wcI (pc := 6) (len_s := 3) rfl rfl (l := [some (.long _), none, some (.long _), none, some (.long _), none]) rfl ?_
                  refine w_t (pc := 0) (e_s := (2, 1, 0, 0, 0, .null, [])) (y_s := (1, [some (.long _), none, some (.long _), none, some (.long _), none], [.long _], _)) rfl (u_ rfl) ?_
                  refine w_t (pc := 1) (e_s := (2, 1, 2, 0, 0, .null, [])) (y_s := (2, [some (.long _), none, some (.long _), none, some (.long _), none], [.long _, .long _], _)) rfl (u_ rfl) ?_
                  refine w_t (pc := 2) (e_s := (14, 1, 0, 0, 0, .null, [])) (y_s := (3, [some (.long _), none, some (.long _), none, some (.long _), none], [.int (lg_cmp _ _)], _)) rfl (u_ rfl) ?_
                  refine wl2 (pc := 3) (len_s := 3) (Y := 0) rfl (Int32.toInt_toInt64 _) (by decide) (fun c10_s => ?_) (fun c10_s => ?_)
                  · exact absurd c10_s c2_s
                  · skip
                    refine w_t (pc := 6) (e_s := (2, 1, 0, 0, 0, .null, [])) (y_s := (7, [some (.long _), none, some (.long _), none, some (.long _), none], [.long _], _)) rfl (u_ rfl) ?_
                    refine w_t (pc := 7) (e_s := (2, 2, 4, 0, 0, .null, [])) (y_s := (9, [some (.long _), none, some (.long _), none, some (.long _), none], [.long _, .long _], _)) rfl (u_ rfl) ?_
                    refine w_t (pc := 9) (e_s := (14, 1, 0, 0, 0, .null, [])) (y_s := (10, [some (.long _), none, some (.long _), none, some (.long _), none], [.int (lg_cmp _ _)], _)) rfl (u_ rfl) ?_
                    refine wl4 (pc := 10) (len_s := 3) (Y := 5) rfl (Int32.toInt_toInt64 _) (by decide) (fun c11_s => ?_) (fun c11_s => ?_)
                    · exact absurd c11_s c3_s
                    · skip
                      refine w_t (pc := 13) (e_s := (0, 1, 0, 0, 0, .int 1, [])) (y_s := (14, [some (.long _), none, some (.long _), none, some (.long _), none], [.int _], _)) rfl (u_ rfl) ?_
                      refine w_t (pc := 14) (e_s := (17, 3, 18, 0, 0, .null, [])) (y_s := (18, [some (.long _), none, some (.long _), none, some (.long _), none], [.int _], _)) rfl (u_ rfl) ?_
                      refine wrI (pc := 18) (len_s := 1) rfl hk ?_
                      show wF _ 228 (9, [some (.int _)], [.int _], _) _
                      refine wrI (pc := 9) (len_s := 1) rfl hk ?_
                      show wF _ 186 (4, [some (.ref _), some (.int _)], [.int _], _) _
                      refine w_t (pc := 4) (e_s := (15, 3, 11, 1, 0, .null, [])) (y_s := (11, [some (.ref _), some (.int _)], [], _)) rfl (u_ rfl) ?_
                      refine w_t (pc := 11) (e_s := (3, 1, 0, 0, 0, .null, [])) (y_s := (12, [some (.ref _), some (.int _)], [.ref _], _)) rfl (u_ rfl) ?_
                      refine w20r (pc := 12) (len_s := 3) (q_s := 124) rfl (krq hk rfl) ?_
                      refine w_t (pc := 15) (e_s := (1, 1, 1, 0, 0, .null, [])) (y_s := (16, [some (.ref _), some (.int _)], [.int _, .ref _], _)) rfl (u_ rfl) ?_
                      refine w22 (pc := 16) (len_s := 1) rfl (hk.1 124 0 6 rfl rfl) (fun c12_s => ?_)
                      refine wq3 (pc := 17) (len_s := 3) rfl rfl (fun c13_s => ?_) (fun c13_s => ?_)
                      · skip
                        refine w_t (pc := 20) (e_s := (0, 2, 0, 0, 0, .int (-11), [])) (y_s := (22, [some (.ref _), some (.int _)], [.int _], _)) rfl (u_ rfl) ?_
                        refine w_t (pc := 22) (e_s := (17, 3, 42, 0, 0, .null, [])) (y_s := (42, [some (.ref _), some (.int _)], [.int _], _)) rfl (u_ rfl) ?_
                        refine wrI (pc := 42) (len_s := 1) rfl hk ?_
                        show wF _ 203 (45, [some (.ref _), some (.int _)], [.int _], _) _
                        refine w_t (pc := 45) (e_s := (17, 3, 56, 0, 0, .null, [])) (y_s := (56, [some (.ref _), some (.int _)], [.int _], _)) rfl (u_ rfl) ?_
                        exact wrI (pc := 56) (len_s := 1) rfl hk t_s
                      · exact absurd c9_s c13_s
                · replace t_s := t_s.2 c9_s
                  refine w_t (pc := 25) (e_s := (3, 1, 0, 0, 0, .null, [])) (y_s := (26, [some (.ref _), some (.int _)], [.ref _], _)) rfl (u_ rfl) ?_
                  refine w20r (pc := 26) (len_s := 3) (q_s := 124) rfl (krq hk rfl) ?_
                  refine w_t (pc := 29) (e_s := (1, 1, 1, 0, 0, .null, [])) (y_s := (30, [some (.ref _), some (.int _)], [.int _, .ref _], _)) rfl (u_ rfl) ?_
                  refine w22 (pc := 30) (len_s := 1) rfl (hk.1 124 0 6 rfl rfl) (fun c14_s => ?_)
                  refine w_t (pc := 31) (e_s := (0, 2, 0, 0, 0, .int 50, [])) (y_s := (33, [some (.ref _), some (.int _)], [.int _, .int _], _)) rfl (u_ rfl) ?_
                  refine wi1 (pc := 33) (len_s := 3) (Y := 50) rfl rfl (by decide) (fun c15_s => ?_) (fun c15_s => ?_)
                  · replace t_s := t_s.1 c15_s
                    refine w_t (pc := 36) (e_s := (0, 1, 0, 0, 0, .int 1, [])) (y_s := (37, [some (.ref _), some (.int _)], [.int _], _)) rfl (u_ rfl) ?_
                    refine w_t (pc := 37) (e_s := (17, 3, 42, 0, 0, .null, [])) (y_s := (42, [some (.ref _), some (.int _)], [.int _], _)) rfl (u_ rfl) ?_
                    refine wrI (pc := 42) (len_s := 1) rfl hk ?_
                    show wF _ 203 (34, [some (.ref _), some (.int _)], [.int _], _) _
                    refine w_t (pc := 34) (e_s := (15, 3, 48, 3, 0, .null, [])) (y_s := (48, [some (.ref _), some (.int _)], [], _)) rfl (u_ rfl) ?_
                    refine w_t (pc := 48) (e_s := (3, 1, 0, 0, 0, .null, [])) (y_s := (49, [some (.ref _), some (.int _)], [.ref _], _)) rfl (u_ rfl) ?_
                    refine w_t (pc := 49) (e_s := (1, 1, 1, 0, 0, .null, [])) (y_s := (50, [some (.ref _), some (.int _)], [.int _, .ref _], _)) rfl (u_ rfl) ?_
                    refine w_t (pc := 50) (e_s := (0, 2, 0, 0, 0, .int 10, [])) (y_s := (52, [some (.ref _), some (.int _)], [.int _, .int _, .ref _], _)) rfl (u_ rfl) ?_
                    refine w8m (pc := 52) (len_s := 1) rfl ?_
                    refine wcI (pc := 53) (len_s := 3) rfl rfl (l := [some (.ref _), some (.int _)]) rfl ?_
                    refine w_t (pc := 0) (e_s := (1, 1, 1, 0, 0, .null, [])) (y_s := (1, [some (.ref _), some (.int _)], [.int _], _)) rfl (u_ rfl) ?_
                    refine wcI (pc := 1) (len_s := 3) rfl rfl (l := [some (.int _)]) rfl ?_
                    refine w_t (pc := 0) (e_s := (1, 1, 0, 0, 0, .null, [])) (y_s := (1, [some (.int _)], [.int _], _)) rfl (u_ rfl) ?_
                    refine w_t (pc := 1) (e_s := (10, 1, 0, 0, 0, .null, [])) (y_s := (2, [some (.int _)], [.long (Int32.toInt64 _)], _)) rfl (u_ rfl) ?_
                    refine w_t (pc := 2) (e_s := (0, 1, 0, 0, 0, .long 0, [])) (y_s := (3, [some (.int _)], [.long _, .long _], _)) rfl (u_ rfl) ?_
                    refine w_t (pc := 3) (e_s := (0, 3, 0, 0, 0, .long 5, [(0, 1063)])) (y_s := (6, [some (.int _)], [.long _, .long _, .long _], _)) rfl (u_ rfl) ?_
                    refine wcI (pc := 6) (len_s := 3) rfl rfl (l := [some (.long _), none, some (.long _), none, some (.long _), none]) rfl ?_
                    refine w_t (pc := 0) (e_s := (2, 1, 0, 0, 0, .null, [])) (y_s := (1, [some (.long _), none, some (.long _), none, some (.long _), none], [.long _], _)) rfl (u_ rfl) ?_
                    refine w_t (pc := 1) (e_s := (2, 1, 2, 0, 0, .null, [])) (y_s := (2, [some (.long _), none, some (.long _), none, some (.long _), none], [.long _, .long _], _)) rfl (u_ rfl) ?_
                    refine w_t (pc := 2) (e_s := (14, 1, 0, 0, 0, .null, [])) (y_s := (3, [some (.long _), none, some (.long _), none, some (.long _), none], [.int (lg_cmp _ _)], _)) rfl (u_ rfl) ?_
                    refine wl2 (pc := 3) (len_s := 3) (Y := 0) rfl (Int32.toInt_toInt64 _) (by decide) (fun c16 => ?_) (fun c16 => ?_)
                    · exact absurd c16 c4_s
                    · skip
                      refine w_t (pc := 6) (e_s := (2, 1, 0, 0, 0, .null, [])) (y_s := (7, [some (.long _), none, some (.long _), none, some (.long _), none], [.long _], _)) rfl (u_ rfl) ?_
                      refine w_t (pc := 7) (e_s := (2, 2, 4, 0, 0, .null, [])) (y_s := (9, [some (.long _), none, some (.long _), none, some (.long _), none], [.long _, .long _], _)) rfl (u_ rfl) ?_
                      refine w_t (pc := 9) (e_s := (14, 1, 0, 0, 0, .null, [])) (y_s := (10, [some (.long _), none, some (.long _), none, some (.long _), none], [.int (lg_cmp _ _)], _)) rfl (u_ rfl) ?_
                      refine wl4 (pc := 10) (len_s := 3) (Y := 5) rfl (Int32.toInt_toInt64 _) (by decide) (fun c17 => ?_) (fun c17 => ?_)
                      · exact absurd c17 c5_s
                      · skip
                        refine w_t (pc := 13) (e_s := (0, 1, 0, 0, 0, .int 1, [])) (y_s := (14, [some (.long _), none, some (.long _), none, some (.long _), none], [.int _], _)) rfl (u_ rfl) ?_
                        refine w_t (pc := 14) (e_s := (17, 3, 18, 0, 0, .null, [])) (y_s := (18, [some (.long _), none, some (.long _), none, some (.long _), none], [.int _], _)) rfl (u_ rfl) ?_
                        refine wrI (pc := 18) (len_s := 1) rfl hk ?_
                        show wF _ 228 (9, [some (.int _)], [.int _], _) _
                        refine wrI (pc := 9) (len_s := 1) rfl hk ?_
                        show wF _ 186 (4, [some (.ref _), some (.int _)], [.int _], _) _
                        refine w_t (pc := 4) (e_s := (15, 3, 11, 1, 0, .null, [])) (y_s := (11, [some (.ref _), some (.int _)], [], _)) rfl (u_ rfl) ?_
                        refine w_t (pc := 11) (e_s := (3, 1, 0, 0, 0, .null, [])) (y_s := (12, [some (.ref _), some (.int _)], [.ref _], _)) rfl (u_ rfl) ?_
                        refine w20r (pc := 12) (len_s := 3) (q_s := 124) rfl (krq hk rfl) ?_
                        refine w_t (pc := 15) (e_s := (1, 1, 1, 0, 0, .null, [])) (y_s := (16, [some (.ref _), some (.int _)], [.int _, .ref _], _)) rfl (u_ rfl) ?_
                        refine w22 (pc := 16) (len_s := 1) rfl (hk.1 124 0 6 rfl rfl) (fun c18_s => ?_)
                        replace t_s := t_s c18_s
                        refine wq3 (pc := 17) (len_s := 3) rfl rfl (fun c19_s => ?_) (fun c19_s => ?_)
                        · replace t_s := t_s.1 c19_s
                          refine w_t (pc := 20) (e_s := (0, 2, 0, 0, 0, .int (-11), [])) (y_s := (22, [some (.ref _), some (.int _)], [.int _], _)) rfl (u_ rfl) ?_
                          refine w_t (pc := 22) (e_s := (17, 3, 42, 0, 0, .null, [])) (y_s := (42, [some (.ref _), some (.int _)], [.int _], _)) rfl (u_ rfl) ?_
                          refine wrI (pc := 42) (len_s := 1) rfl hk ?_
                          show wF _ 203 (56, [some (.ref _), some (.int _)], [.int _], _) _
                          exact wrI (pc := 56) (len_s := 1) rfl hk t_s
                        · replace t_s := t_s.2 c19_s
                          refine w_t (pc := 25) (e_s := (3, 1, 0, 0, 0, .null, [])) (y_s := (26, [some (.ref _), some (.int _)], [.ref _], _)) rfl (u_ rfl) ?_
                          refine w20r (pc := 26) (len_s := 3) (q_s := 124) rfl (krq hk rfl) ?_
                          refine w_t (pc := 29) (e_s := (1, 1, 1, 0, 0, .null, [])) (y_s := (30, [some (.ref _), some (.int _)], [.int _, .ref _], _)) rfl (u_ rfl) ?_
                          refine w22 (pc := 30) (len_s := 1) rfl (hk.1 124 0 6 rfl rfl) (fun c20_s => ?_)
                          refine w_t (pc := 31) (e_s := (0, 2, 0, 0, 0, .int 50, [])) (y_s := (33, [some (.ref _), some (.int _)], [.int _, .int _], _)) rfl (u_ rfl) ?_
                          refine wi1 (pc := 33) (len_s := 3) (Y := 50) rfl rfl (by decide) (fun c21 => ?_) (fun c21 => ?_)
                          · replace t_s := t_s.1 c21
                            refine w_t (pc := 36) (e_s := (0, 1, 0, 0, 0, .int 1, [])) (y_s := (37, [some (.ref _), some (.int _)], [.int _], _)) rfl (u_ rfl) ?_
                            refine w_t (pc := 37) (e_s := (17, 3, 42, 0, 0, .null, [])) (y_s := (42, [some (.ref _), some (.int _)], [.int _], _)) rfl (u_ rfl) ?_
                            refine wrI (pc := 42) (len_s := 1) rfl hk ?_
                            show wF _ 203 (56, [some (.ref _), some (.int _)], [.int _], _) _
                            exact wrI (pc := 56) (len_s := 1) rfl hk t_s
                          · replace t_s := t_s.2 c21
                            refine w_t (pc := 40) (e_s := (0, 2, 0, 0, 0, .int (-12), [])) (y_s := (42, [some (.ref _), some (.int _)], [.int _], _)) rfl (u_ rfl) ?_
                            refine wrI (pc := 42) (len_s := 1) rfl hk ?_
                            show wF _ 203 (56, [some (.ref _), some (.int _)], [.int _], _) _
                            exact wrI (pc := 56) (len_s := 1) rfl hk t_s
                  · replace t_s := t_s.2 c15_s
                    refine w_t (pc := 40) (e_s := (0, 2, 0, 0, 0, .int (-12), [])) (y_s := (42, [some (.ref _), some (.int _)], [.int _], _)) rfl (u_ rfl) ?_
                    refine wrI (pc := 42) (len_s := 1) rfl hk ?_
                    show wF _ 203 (34, [some (.ref _), some (.int _)], [.int _], _) _
                    refine w_t (pc := 34) (e_s := (15, 3, 48, 3, 0, .null, [])) (y_s := (37, [some (.ref _), some (.int _)], [], _)) rfl (u_ rfl) ?_
                    refine w_t (pc := 37) (e_s := (3, 1, 0, 0, 0, .null, [])) (y_s := (38, [some (.ref _), some (.int _)], [.ref _], _)) rfl (u_ rfl) ?_
                    refine w_t (pc := 38) (e_s := (1, 1, 1, 0, 0, .null, [])) (y_s := (39, [some (.ref _), some (.int _)], [.int _, .ref _], _)) rfl (u_ rfl) ?_
                    refine w_t (pc := 39) (e_s := (0, 2, 0, 0, 0, .int 10, [])) (y_s := (41, [some (.ref _), some (.int _)], [.int _, .int _, .ref _], _)) rfl (u_ rfl) ?_
                    refine w8 (pc := 41) (len_s := 1) rfl ?_
                    refine wcI (pc := 42) (len_s := 3) rfl rfl (l := [some (.ref _), some (.int _)]) rfl ?_
                    refine w_t (pc := 0) (e_s := (1, 1, 1, 0, 0, .null, [])) (y_s := (1, [some (.ref _), some (.int _)], [.int _], _)) rfl (u_ rfl) ?_
                    refine wcI (pc := 1) (len_s := 3) rfl rfl (l := [some (.int _)]) rfl ?_
                    refine w_t (pc := 0) (e_s := (1, 1, 0, 0, 0, .null, [])) (y_s := (1, [some (.int _)], [.int _], _)) rfl (u_ rfl) ?_
                    refine w_t (pc := 1) (e_s := (10, 1, 0, 0, 0, .null, [])) (y_s := (2, [some (.int _)], [.long (Int32.toInt64 _)], _)) rfl (u_ rfl) ?_
                    refine w_t (pc := 2) (e_s := (0, 1, 0, 0, 0, .long 0, [])) (y_s := (3, [some (.int _)], [.long _, .long _], _)) rfl (u_ rfl) ?_
                    refine w_t (pc := 3) (e_s := (0, 3, 0, 0, 0, .long 5, [(0, 1063)])) (y_s := (6, [some (.int _)], [.long _, .long _, .long _], _)) rfl (u_ rfl) ?_
                    refine wcI (pc := 6) (len_s := 3) rfl rfl (l := [some (.long _), none, some (.long _), none, some (.long _), none]) rfl ?_
                    refine w_t (pc := 0) (e_s := (2, 1, 0, 0, 0, .null, [])) (y_s := (1, [some (.long _), none, some (.long _), none, some (.long _), none], [.long _], _)) rfl (u_ rfl) ?_
                    refine w_t (pc := 1) (e_s := (2, 1, 2, 0, 0, .null, [])) (y_s := (2, [some (.long _), none, some (.long _), none, some (.long _), none], [.long _, .long _], _)) rfl (u_ rfl) ?_
                    refine w_t (pc := 2) (e_s := (14, 1, 0, 0, 0, .null, [])) (y_s := (3, [some (.long _), none, some (.long _), none, some (.long _), none], [.int (lg_cmp _ _)], _)) rfl (u_ rfl) ?_
                    refine wl2 (pc := 3) (len_s := 3) (Y := 0) rfl (Int32.toInt_toInt64 _) (by decide) (fun c22 => ?_) (fun c22 => ?_)
                    · exact absurd c22 c2_s
                    · skip
                      refine w_t (pc := 6) (e_s := (2, 1, 0, 0, 0, .null, [])) (y_s := (7, [some (.long _), none, some (.long _), none, some (.long _), none], [.long _], _)) rfl (u_ rfl) ?_
                      refine w_t (pc := 7) (e_s := (2, 2, 4, 0, 0, .null, [])) (y_s := (9, [some (.long _), none, some (.long _), none, some (.long _), none], [.long _, .long _], _)) rfl (u_ rfl) ?_
                      refine w_t (pc := 9) (e_s := (14, 1, 0, 0, 0, .null, [])) (y_s := (10, [some (.long _), none, some (.long _), none, some (.long _), none], [.int (lg_cmp _ _)], _)) rfl (u_ rfl) ?_
                      refine wl4 (pc := 10) (len_s := 3) (Y := 5) rfl (Int32.toInt_toInt64 _) (by decide) (fun c23_s => ?_) (fun c23_s => ?_)
                      · exact absurd c23_s c3_s
                      · skip
                        refine w_t (pc := 13) (e_s := (0, 1, 0, 0, 0, .int 1, [])) (y_s := (14, [some (.long _), none, some (.long _), none, some (.long _), none], [.int _], _)) rfl (u_ rfl) ?_
                        refine w_t (pc := 14) (e_s := (17, 3, 18, 0, 0, .null, [])) (y_s := (18, [some (.long _), none, some (.long _), none, some (.long _), none], [.int _], _)) rfl (u_ rfl) ?_
                        refine wrI (pc := 18) (len_s := 1) rfl hk ?_
                        show wF _ 228 (9, [some (.int _)], [.int _], _) _
                        refine wrI (pc := 9) (len_s := 1) rfl hk ?_
                        show wF _ 186 (4, [some (.ref _), some (.int _)], [.int _], _) _
                        refine w_t (pc := 4) (e_s := (15, 3, 11, 1, 0, .null, [])) (y_s := (11, [some (.ref _), some (.int _)], [], _)) rfl (u_ rfl) ?_
                        refine w_t (pc := 11) (e_s := (3, 1, 0, 0, 0, .null, [])) (y_s := (12, [some (.ref _), some (.int _)], [.ref _], _)) rfl (u_ rfl) ?_
                        refine w20r (pc := 12) (len_s := 3) (q_s := 124) rfl (krq hk rfl) ?_
                        refine w_t (pc := 15) (e_s := (1, 1, 1, 0, 0, .null, [])) (y_s := (16, [some (.ref _), some (.int _)], [.int _, .ref _], _)) rfl (u_ rfl) ?_
                        refine w22 (pc := 16) (len_s := 1) rfl (hk.1 124 0 6 rfl rfl) (fun c24_s => ?_)
                        refine wq3 (pc := 17) (len_s := 3) rfl rfl (fun c25_s => ?_) (fun c25_s => ?_)
                        · exact absurd c25_s c9_s
                        · skip
                          refine w_t (pc := 25) (e_s := (3, 1, 0, 0, 0, .null, [])) (y_s := (26, [some (.ref _), some (.int _)], [.ref _], _)) rfl (u_ rfl) ?_
                          refine w20r (pc := 26) (len_s := 3) (q_s := 124) rfl (krq hk rfl) ?_
                          refine w_t (pc := 29) (e_s := (1, 1, 1, 0, 0, .null, [])) (y_s := (30, [some (.ref _), some (.int _)], [.int _, .ref _], _)) rfl (u_ rfl) ?_
                          refine w22 (pc := 30) (len_s := 1) rfl (hk.1 124 0 6 rfl rfl) (fun c26 => ?_)
                          refine w_t (pc := 31) (e_s := (0, 2, 0, 0, 0, .int 50, [])) (y_s := (33, [some (.ref _), some (.int _)], [.int _, .int _], _)) rfl (u_ rfl) ?_
                          refine wi1 (pc := 33) (len_s := 3) (Y := 50) rfl rfl (by decide) (fun c27_s => ?_) (fun c27_s => ?_)
                          · exact absurd c27_s c15_s
                          · skip
                            refine w_t (pc := 40) (e_s := (0, 2, 0, 0, 0, .int (-12), [])) (y_s := (42, [some (.ref _), some (.int _)], [.int _], _)) rfl (u_ rfl) ?_
                            refine wrI (pc := 42) (len_s := 1) rfl hk ?_
                            show wF _ 203 (45, [some (.ref _), some (.int _)], [.int _], _) _
                            refine w_t (pc := 45) (e_s := (17, 3, 56, 0, 0, .null, [])) (y_s := (56, [some (.ref _), some (.int _)], [.int _], _)) rfl (u_ rfl) ?_
                            exact wrI (pc := 56) (len_s := 1) rfl hk t_s
/-- ColdShodModel.edge(III)I, from 0 on -/
theorem sg_206_0 {F_s : Nat} {x1_s : Int32} {x2_s : Int32} {x3 : Int32} {h_s : zH} {K_s : Int32 → zH → Prop} (hk : hKn h_s) (t_s : wF F_s 203 (0, [some (.ref 102), some (.int x1_s)], [], h_s) (gI (fun v1_s h1 => hKn h1 → (v1_s.toInt = -1 → K_s (-1) h1) ∧ (¬ v1_s.toInt = -1 → ((x2_s.toInt < 0 → K_s (-1) h1) ∧ (¬ x2_s.toInt < 0 → ((((h1.2.1 102 7) - 1).toInt < x2_s.toInt → K_s (-1) h1) ∧ (¬ ((h1.2.1 102 7) - 1).toInt < x2_s.toInt → ((x3.toInt < 0 → K_s (-1) h1) ∧ (¬ x3.toInt < 0 → ((1 < x3.toInt → K_s (-1) h1) ∧ (¬ 1 < x3.toInt → wF F_s 203 (0, [some (.ref 102), some (.int x1_s)], [], h1) (gI (fun v7 h7 => hKn h7 → (v7.toInt < 0 → wF F_s 203 (0, [some (.ref 102), some (.int x1_s)], [], h7) (gI (fun v9 h9 => hKn h9 → K_s v9 h9))) ∧ (¬ v7.toInt < 0 → ((x3.toInt = 0 → (zix (12 + x2_s) < 104 → wF F_s 206 (74, [some (.ref 102), some (.int x1_s), some (.int x2_s), some (.int x3), some (.int (12 + x2_s)), some (.int (h7.2.1 103 (zix (12 + x2_s)))), some (.int 0), some (.int 0)], [], h7) (gI K_s))) ∧ (¬ x3.toInt = 0 → (zix (20 + x2_s) < 104 → wF F_s 206 (74, [some (.ref 102), some (.int x1_s), some (.int x2_s), some (.int x3), some (.int (20 + x2_s)), some (.int (h7.2.1 103 (zix (20 + x2_s)))), some (.int 0), some (.int 0)], [], h7) (gI K_s))))))))))))))))))) : wF (F_s + 1) 206 (0, [some (.ref 102), some (.int x1_s), some (.int x2_s), some (.int x3), none, none, none, none], [], h_s) (gI K_s) := by
  refine w_0 (pc := 0) (e_s := (3, 1, 0, 0, 0, .null, [])) (y_s := (1, [some (.ref _), some (.int _), some (.int _), some (.int _), none, none, none, none], [.ref _], _)) rfl (u_ rfl) ?_
  refine w_t (pc := 1) (e_s := (1, 1, 1, 0, 0, .null, [])) (y_s := (2, [some (.ref _), some (.int _), some (.int _), some (.int _), none, none, none, none], [.int _, .ref _], _)) rfl (u_ rfl) ?_
  refine wcI (pc := 2) (len_s := 3) rfl rfl (l := [some (.ref _), some (.int _)]) rfl (wmI t_s (fun v1_s h1 hk t_s => ?_))
  replace t_s := t_s hk
  refine w_t (pc := 5) (e_s := (0, 1, 0, 0, 0, .int (-1), [])) (y_s := (6, [some (.ref _), some (.int _), some (.int _), some (.int _), none, none, none, none], [.int _, .int _], _)) rfl (u_ rfl) ?_
  refine wi0 (pc := 6) (len_s := 3) (Y := -1) rfl rfl (by decide) (fun c2_s => ?_) (fun c2_s => ?_)
  · replace t_s := t_s.1 c2_s
    refine w_t (pc := 28) (e_s := (0, 1, 0, 0, 0, .int (-1), [])) (y_s := (29, [some (.ref _), some (.int _), some (.int _), some (.int _), none, none, none, none], [.int _], _)) rfl (u_ rfl) ?_
    exact wrI (pc := 29) (len_s := 1) rfl hk t_s
  · replace t_s := t_s.2 c2_s
    refine w_t (pc := 9) (e_s := (3, 1, 0, 0, 0, .null, [])) (y_s := (10, [some (.ref _), some (.int _), some (.int _), some (.int _), none, none, none, none], [.ref _], _)) rfl (u_ rfl) ?_
    refine w_t (pc := 10) (e_s := (1, 1, 2, 0, 0, .null, [])) (y_s := (11, [some (.ref _), some (.int _), some (.int _), some (.int _), none, none, none, none], [.int _, .ref _], _)) rfl (u_ rfl) ?_
    refine w_t (pc := 11) (e_s := (10, 1, 0, 0, 0, .null, [])) (y_s := (12, [some (.ref _), some (.int _), some (.int _), some (.int _), none, none, none, none], [.long (Int32.toInt64 _), .ref _], _)) rfl (u_ rfl) ?_
    refine wcI (pc := 12) (len_s := 3) rfl rfl (l := [some (.ref _), some (.long _), none]) rfl ?_
    refine w_t (pc := 0) (e_s := (2, 1, 1, 0, 0, .null, [])) (y_s := (1, [some (.ref _), some (.long _), none], [.long _], _)) rfl (u_ rfl) ?_
    refine w_t (pc := 1) (e_s := (0, 1, 0, 0, 0, .long 0, [])) (y_s := (2, [some (.ref _), some (.long _), none], [.long _, .long _], _)) rfl (u_ rfl) ?_
    refine w_t (pc := 2) (e_s := (3, 1, 0, 0, 0, .null, [])) (y_s := (3, [some (.ref _), some (.long _), none], [.ref _, .long _, .long _], _)) rfl (u_ rfl) ?_
    refine w20 (pc := 3) (len_s := 3) rfl ?_
    refine w_t (pc := 6) (e_s := (0, 1, 0, 0, 0, .int 1, [])) (y_s := (7, [some (.ref _), some (.long _), none], [.int _, .int _, .long _, .long _], _)) rfl (u_ rfl) ?_
    refine w_t (pc := 7) (e_s := (7, 1, 0, 1, 0, .null, [])) (y_s := (8, [some (.ref _), some (.long _), none], [.int (_ - _), .long _, .long _], _)) rfl (u_ rfl) ?_
    refine w_t (pc := 8) (e_s := (10, 1, 0, 0, 0, .null, [])) (y_s := (9, [some (.ref _), some (.long _), none], [.long (Int32.toInt64 _), .long _, .long _], _)) rfl (u_ rfl) ?_
    refine wcI (pc := 9) (len_s := 3) rfl rfl (l := [some (.long _), none, some (.long _), none, some (.long _), none]) rfl ?_
    refine w_t (pc := 0) (e_s := (2, 1, 0, 0, 0, .null, [])) (y_s := (1, [some (.long _), none, some (.long _), none, some (.long _), none], [.long _], _)) rfl (u_ rfl) ?_
    refine w_t (pc := 1) (e_s := (2, 1, 2, 0, 0, .null, [])) (y_s := (2, [some (.long _), none, some (.long _), none, some (.long _), none], [.long _, .long _], _)) rfl (u_ rfl) ?_
    refine w_t (pc := 2) (e_s := (14, 1, 0, 0, 0, .null, [])) (y_s := (3, [some (.long _), none, some (.long _), none, some (.long _), none], [.int (lg_cmp _ _)], _)) rfl (u_ rfl) ?_
    refine wl2 (pc := 3) (len_s := 3) (Y := 0) rfl (Int32.toInt_toInt64 _) (by decide) (fun c3_s => ?_) (fun c3_s => ?_)
    · replace t_s := t_s.1 c3_s
      refine w_t (pc := 17) (e_s := (0, 1, 0, 0, 0, .int 0, [])) (y_s := (18, [some (.long _), none, some (.long _), none, some (.long _), none], [.int _], _)) rfl (u_ rfl) ?_
      refine wrI (pc := 18) (len_s := 1) rfl hk ?_
      show wF _ 152 (12, [some (.ref _), some (.long _), none], [.int _], _) _
      refine wrI (pc := 12) (len_s := 1) rfl hk ?_
      show wF _ 206 (15, [some (.ref _), some (.int _), some (.int _), some (.int _), none, none, none, none], [.int _], _) _
      refine w_t (pc := 15) (e_s := (15, 3, 28, 0, 0, .null, [])) (y_s := (28, [some (.ref _), some (.int _), some (.int _), some (.int _), none, none, none, none], [], _)) rfl (u_ rfl) ?_
      refine w_t (pc := 28) (e_s := (0, 1, 0, 0, 0, .int (-1), [])) (y_s := (29, [some (.ref _), some (.int _), some (.int _), some (.int _), none, none, none, none], [.int _], _)) rfl (u_ rfl) ?_
      exact wrI (pc := 29) (len_s := 1) rfl hk t_s
    · replace t_s := t_s.2 c3_s
      refine w_t (pc := 6) (e_s := (2, 1, 0, 0, 0, .null, [])) (y_s := (7, [some (.long _), none, some (.long _), none, some (.long _), none], [.long _], _)) rfl (u_ rfl) ?_
      refine w_t (pc := 7) (e_s := (2, 2, 4, 0, 0, .null, [])) (y_s := (9, [some (.long _), none, some (.long _), none, some (.long _), none], [.long _, .long _], _)) rfl (u_ rfl) ?_
      refine w_t (pc := 9) (e_s := (14, 1, 0, 0, 0, .null, [])) (y_s := (10, [some (.long _), none, some (.long _), none, some (.long _), none], [.int (lg_cmp _ _)], _)) rfl (u_ rfl) ?_
      refine wl4 (pc := 10) (len_s := 3) rfl (Int32.toInt_toInt64 _) (Int32.toInt_toInt64 _) (fun c4_s => ?_) (fun c4_s => ?_)
      · replace t_s := t_s.1 c4_s
        refine w_t (pc := 17) (e_s := (0, 1, 0, 0, 0, .int 0, [])) (y_s := (18, [some (.long _), none, some (.long _), none, some (.long _), none], [.int _], _)) rfl (u_ rfl) ?_
        refine wrI (pc := 18) (len_s := 1) rfl hk ?_
        show wF _ 152 (12, [some (.ref _), some (.long _), none], [.int _], _) _
        refine wrI (pc := 12) (len_s := 1) rfl hk ?_
        show wF _ 206 (15, [some (.ref _), some (.int _), some (.int _), some (.int _), none, none, none, none], [.int _], _) _
        refine w_t (pc := 15) (e_s := (15, 3, 28, 0, 0, .null, [])) (y_s := (28, [some (.ref _), some (.int _), some (.int _), some (.int _), none, none, none, none], [], _)) rfl (u_ rfl) ?_
        refine w_t (pc := 28) (e_s := (0, 1, 0, 0, 0, .int (-1), [])) (y_s := (29, [some (.ref _), some (.int _), some (.int _), some (.int _), none, none, none, none], [.int _], _)) rfl (u_ rfl) ?_
        exact wrI (pc := 29) (len_s := 1) rfl hk t_s
      · replace t_s := t_s.2 c4_s
        refine w_t (pc := 13) (e_s := (0, 1, 0, 0, 0, .int 1, [])) (y_s := (14, [some (.long _), none, some (.long _), none, some (.long _), none], [.int _], _)) rfl (u_ rfl) ?_
        refine w_t (pc := 14) (e_s := (17, 3, 18, 0, 0, .null, [])) (y_s := (18, [some (.long _), none, some (.long _), none, some (.long _), none], [.int _], _)) rfl (u_ rfl) ?_
        refine wrI (pc := 18) (len_s := 1) rfl hk ?_
        show wF _ 152 (12, [some (.ref _), some (.long _), none], [.int _], _) _
        refine wrI (pc := 12) (len_s := 1) rfl hk ?_
        show wF _ 206 (15, [some (.ref _), some (.int _), some (.int _), some (.int _), none, none, none, none], [.int _], _) _
        refine w_t (pc := 15) (e_s := (15, 3, 28, 0, 0, .null, [])) (y_s := (18, [some (.ref _), some (.int _), some (.int _), some (.int _), none, none, none, none], [], _)) rfl (u_ rfl) ?_
        refine w_t (pc := 18) (e_s := (1, 1, 3, 0, 0, .null, [])) (y_s := (19, [some (.ref _), some (.int _), some (.int _), some (.int _), none, none, none, none], [.int _], _)) rfl (u_ rfl) ?_
        refine w_t (pc := 19) (e_s := (10, 1, 0, 0, 0, .null, [])) (y_s := (20, [some (.ref _), some (.int _), some (.int _), some (.int _), none, none, none, none], [.long (Int32.toInt64 _)], _)) rfl (u_ rfl) ?_
        refine w_t (pc := 20) (e_s := (0, 1, 0, 0, 0, .long 0, [])) (y_s := (21, [some (.ref _), some (.int _), some (.int _), some (.int _), none, none, none, none], [.long _, .long _], _)) rfl (u_ rfl) ?_
        refine w_t (pc := 21) (e_s := (0, 1, 0, 0, 0, .long 1, [])) (y_s := (22, [some (.ref _), some (.int _), some (.int _), some (.int _), none, none, none, none], [.long _, .long _, .long _], _)) rfl (u_ rfl) ?_
        refine wcI (pc := 22) (len_s := 3) rfl rfl (l := [some (.long _), none, some (.long _), none, some (.long _), none]) rfl ?_
        refine w_t (pc := 0) (e_s := (2, 1, 0, 0, 0, .null, [])) (y_s := (1, [some (.long _), none, some (.long _), none, some (.long _), none], [.long _], _)) rfl (u_ rfl) ?_
        refine w_t (pc := 1) (e_s := (2, 1, 2, 0, 0, .null, [])) (y_s := (2, [some (.long _), none, some (.long _), none, some (.long _), none], [.long _, .long _], _)) rfl (u_ rfl) ?_
        refine w_t (pc := 2) (e_s := (14, 1, 0, 0, 0, .null, [])) (y_s := (3, [some (.long _), none, some (.long _), none, some (.long _), none], [.int (lg_cmp _ _)], _)) rfl (u_ rfl) ?_
        refine wl2 (pc := 3) (len_s := 3) (Y := 0) rfl (Int32.toInt_toInt64 _) (by decide) (fun c5_s => ?_) (fun c5_s => ?_)
        · replace t_s := t_s.1 c5_s
          refine w_t (pc := 17) (e_s := (0, 1, 0, 0, 0, .int 0, [])) (y_s := (18, [some (.long _), none, some (.long _), none, some (.long _), none], [.int _], _)) rfl (u_ rfl) ?_
          refine wrI (pc := 18) (len_s := 1) rfl hk ?_
          show wF _ 206 (25, [some (.ref _), some (.int _), some (.int _), some (.int _), none, none, none, none], [.int _], _) _
          refine w_t (pc := 25) (e_s := (15, 3, 30, 1, 0, .null, [])) (y_s := (28, [some (.ref _), some (.int _), some (.int _), some (.int _), none, none, none, none], [], _)) rfl (u_ rfl) ?_
          refine w_t (pc := 28) (e_s := (0, 1, 0, 0, 0, .int (-1), [])) (y_s := (29, [some (.ref _), some (.int _), some (.int _), some (.int _), none, none, none, none], [.int _], _)) rfl (u_ rfl) ?_
          exact wrI (pc := 29) (len_s := 1) rfl hk t_s
        · replace t_s := t_s.2 c5_s
          refine w_t (pc := 6) (e_s := (2, 1, 0, 0, 0, .null, [])) (y_s := (7, [some (.long _), none, some (.long _), none, some (.long _), none], [.long _], _)) rfl (u_ rfl) ?_
          refine w_t (pc := 7) (e_s := (2, 2, 4, 0, 0, .null, [])) (y_s := (9, [some (.long _), none, some (.long _), none, some (.long _), none], [.long _, .long _], _)) rfl (u_ rfl) ?_
          refine w_t (pc := 9) (e_s := (14, 1, 0, 0, 0, .null, [])) (y_s := (10, [some (.long _), none, some (.long _), none, some (.long _), none], [.int (lg_cmp _ _)], _)) rfl (u_ rfl) ?_
          refine wl4 (pc := 10) (len_s := 3) (Y := 1) rfl (Int32.toInt_toInt64 _) (by decide) (fun c6_s => ?_) (fun c6_s => ?_)
          · replace t_s := t_s.1 c6_s
            refine w_t (pc := 17) (e_s := (0, 1, 0, 0, 0, .int 0, [])) (y_s := (18, [some (.long _), none, some (.long _), none, some (.long _), none], [.int _], _)) rfl (u_ rfl) ?_
            refine wrI (pc := 18) (len_s := 1) rfl hk ?_
            show wF _ 206 (25, [some (.ref _), some (.int _), some (.int _), some (.int _), none, none, none, none], [.int _], _) _
            refine w_t (pc := 25) (e_s := (15, 3, 30, 1, 0, .null, [])) (y_s := (28, [some (.ref _), some (.int _), some (.int _), some (.int _), none, none, none, none], [], _)) rfl (u_ rfl) ?_
            refine w_t (pc := 28) (e_s := (0, 1, 0, 0, 0, .int (-1), [])) (y_s := (29, [some (.ref _), some (.int _), some (.int _), some (.int _), none, none, none, none], [.int _], _)) rfl (u_ rfl) ?_
            exact wrI (pc := 29) (len_s := 1) rfl hk t_s
          · replace t_s := t_s.2 c6_s
            refine w_t (pc := 13) (e_s := (0, 1, 0, 0, 0, .int 1, [])) (y_s := (14, [some (.long _), none, some (.long _), none, some (.long _), none], [.int _], _)) rfl (u_ rfl) ?_
            refine w_t (pc := 14) (e_s := (17, 3, 18, 0, 0, .null, [])) (y_s := (18, [some (.long _), none, some (.long _), none, some (.long _), none], [.int _], _)) rfl (u_ rfl) ?_
            refine wrI (pc := 18) (len_s := 1) rfl hk ?_
            show wF _ 206 (25, [some (.ref _), some (.int _), some (.int _), some (.int _), none, none, none, none], [.int _], _) _
            refine w_t (pc := 25) (e_s := (15, 3, 30, 1, 0, .null, [])) (y_s := (30, [some (.ref _), some (.int _), some (.int _), some (.int _), none, none, none, none], [], _)) rfl (u_ rfl) ?_
            refine w_t (pc := 30) (e_s := (3, 1, 0, 0, 0, .null, [])) (y_s := (31, [some (.ref _), some (.int _), some (.int _), some (.int _), none, none, none, none], [.ref _], _)) rfl (u_ rfl) ?_
            refine w_t (pc := 31) (e_s := (1, 1, 1, 0, 0, .null, [])) (y_s := (32, [some (.ref _), some (.int _), some (.int _), some (.int _), none, none, none, none], [.int _, .ref _], _)) rfl (u_ rfl) ?_
            refine wcI (pc := 32) (len_s := 3) rfl rfl (l := [some (.ref _), some (.int _)]) rfl (wmI t_s (fun v7 h7 hk t_s => ?_))
            replace t_s := t_s hk
            refine wq3 (pc := 35) (len_s := 3) rfl rfl (fun c8_s => ?_) (fun c8_s => ?_)
            · replace t_s := t_s.1 c8_s
              refine w_t (pc := 38) (e_s := (3, 1, 0, 0, 0, .null, [])) (y_s := (39, [some (.ref _), some (.int _), some (.int _), some (.int _), none, none, none, none], [.ref _], _)) rfl (u_ rfl) ?_
              refine w_t (pc := 39) (e_s := (1, 1, 1, 0, 0, .null, [])) (y_s := (40, [some (.ref _), some (.int _), some (.int _), some (.int _), none, none, none, none], [.int _, .ref _], _)) rfl (u_ rfl) ?_
              refine wcI (pc := 40) (len_s := 3) rfl rfl (l := [some (.ref _), some (.int _)]) rfl (wmI t_s (fun v9 h9 hk t_s => ?_))
              replace t_s := t_s hk
              exact wrI (pc := 43) (len_s := 1) rfl hk t_s
            · replace t_s := t_s.2 c8_s
              refine w_t (pc := 44) (e_s := (1, 1, 3, 0, 0, .null, [])) (y_s := (45, [some (.ref _), some (.int _), some (.int _), some (.int _), none, none, none, none], [.int _], _)) rfl (u_ rfl) ?_
              refine wq1 (pc := 45) (len_s := 3) rfl rfl (fun c10_s => ?_) (fun c10_s => ?_)
              · replace t_s := t_s.1 c10_s
                refine w_t (pc := 48) (e_s := (0, 2, 0, 0, 0, .int 12, [])) (y_s := (50, [some (.ref _), some (.int _), some (.int _), some (.int _), none, none, none, none], [.int _], _)) rfl (u_ rfl) ?_
                refine w_t (pc := 50) (e_s := (17, 3, 55, 0, 0, .null, [])) (y_s := (55, [some (.ref _), some (.int _), some (.int _), some (.int _), none, none, none, none], [.int _], _)) rfl (u_ rfl) ?_
                refine w_t (pc := 55) (e_s := (1, 1, 2, 0, 0, .null, [])) (y_s := (56, [some (.ref _), some (.int _), some (.int _), some (.int _), none, none, none, none], [.int _, .int _], _)) rfl (u_ rfl) ?_
                refine w_t (pc := 56) (e_s := (7, 1, 0, 0, 0, .null, [])) (y_s := (57, [some (.ref _), some (.int _), some (.int _), some (.int _), none, none, none, none], [.int (_ + _)], _)) rfl (u_ rfl) ?_
                refine w_t (pc := 57) (e_s := (4, 2, 4, 0, 0, .null, [])) (y_s := (59, [some (.ref _), some (.int _), some (.int _), some (.int _), some (.int _), none, none, none], [], _)) rfl (u_ rfl) ?_
                refine w_t (pc := 59) (e_s := (3, 1, 0, 0, 0, .null, [])) (y_s := (60, [some (.ref _), some (.int _), some (.int _), some (.int _), some (.int _), none, none, none], [.ref _], _)) rfl (u_ rfl) ?_
                refine w20r (pc := 60) (len_s := 3) (q_s := 103) rfl (krq hk rfl) ?_
                refine w_t (pc := 63) (e_s := (1, 2, 4, 0, 0, .null, [])) (y_s := (65, [some (.ref _), some (.int _), some (.int _), some (.int _), some (.int _), none, none, none], [.int _, .ref _], _)) rfl (u_ rfl) ?_
                refine w22 (pc := 65) (len_s := 1) rfl (hk.1 103 0 104 rfl rfl) (fun c11_s => ?_)
                replace t_s := t_s c11_s
                refine w_t (pc := 66) (e_s := (4, 2, 5, 0, 0, .null, [])) (y_s := (68, [some (.ref _), some (.int _), some (.int _), some (.int _), some (.int _), some (.int _), none, none], [], _)) rfl (u_ rfl) ?_
                refine w_t (pc := 68) (e_s := (0, 1, 0, 0, 0, .int 0, [])) (y_s := (69, [some (.ref _), some (.int _), some (.int _), some (.int _), some (.int _), some (.int _), none, none], [.int _], _)) rfl (u_ rfl) ?_
                refine w_t (pc := 69) (e_s := (4, 2, 6, 0, 0, .null, [])) (y_s := (71, [some (.ref _), some (.int _), some (.int _), some (.int _), some (.int _), some (.int _), some (.int _), none], [], _)) rfl (u_ rfl) ?_
                refine w_t (pc := 71) (e_s := (0, 1, 0, 0, 0, .int 0, [])) (y_s := (72, [some (.ref _), some (.int _), some (.int _), some (.int _), some (.int _), some (.int _), some (.int _), none], [.int _], _)) rfl (u_ rfl) ?_
                refine w_t (pc := 72) (e_s := (4, 2, 7, 0, 0, .null, [])) (y_s := (74, [some (.ref _), some (.int _), some (.int _), some (.int _), some (.int _), some (.int _), some (.int _), some (.int _)], [], _)) rfl (u_ rfl) ?_
                exact t_s
              · replace t_s := t_s.2 c10_s
                refine w_t (pc := 53) (e_s := (0, 2, 0, 0, 0, .int 20, [])) (y_s := (55, [some (.ref _), some (.int _), some (.int _), some (.int _), none, none, none, none], [.int _], _)) rfl (u_ rfl) ?_
                refine w_t (pc := 55) (e_s := (1, 1, 2, 0, 0, .null, [])) (y_s := (56, [some (.ref _), some (.int _), some (.int _), some (.int _), none, none, none, none], [.int _, .int _], _)) rfl (u_ rfl) ?_
                refine w_t (pc := 56) (e_s := (7, 1, 0, 0, 0, .null, [])) (y_s := (57, [some (.ref _), some (.int _), some (.int _), some (.int _), none, none, none, none], [.int (_ + _)], _)) rfl (u_ rfl) ?_
                refine w_t (pc := 57) (e_s := (4, 2, 4, 0, 0, .null, [])) (y_s := (59, [some (.ref _), some (.int _), some (.int _), some (.int _), some (.int _), none, none, none], [], _)) rfl (u_ rfl) ?_
                refine w_t (pc := 59) (e_s := (3, 1, 0, 0, 0, .null, [])) (y_s := (60, [some (.ref _), some (.int _), some (.int _), some (.int _), some (.int _), none, none, none], [.ref _], _)) rfl (u_ rfl) ?_
                refine w20r (pc := 60) (len_s := 3) (q_s := 103) rfl (krq hk rfl) ?_
                refine w_t (pc := 63) (e_s := (1, 2, 4, 0, 0, .null, [])) (y_s := (65, [some (.ref _), some (.int _), some (.int _), some (.int _), some (.int _), none, none, none], [.int _, .ref _], _)) rfl (u_ rfl) ?_
                refine w22 (pc := 65) (len_s := 1) rfl (hk.1 103 0 104 rfl rfl) (fun c12_s => ?_)
                replace t_s := t_s c12_s
                refine w_t (pc := 66) (e_s := (4, 2, 5, 0, 0, .null, [])) (y_s := (68, [some (.ref _), some (.int _), some (.int _), some (.int _), some (.int _), some (.int _), none, none], [], _)) rfl (u_ rfl) ?_
                refine w_t (pc := 68) (e_s := (0, 1, 0, 0, 0, .int 0, [])) (y_s := (69, [some (.ref _), some (.int _), some (.int _), some (.int _), some (.int _), some (.int _), none, none], [.int _], _)) rfl (u_ rfl) ?_
                refine w_t (pc := 69) (e_s := (4, 2, 6, 0, 0, .null, [])) (y_s := (71, [some (.ref _), some (.int _), some (.int _), some (.int _), some (.int _), some (.int _), some (.int _), none], [], _)) rfl (u_ rfl) ?_
                refine w_t (pc := 71) (e_s := (0, 1, 0, 0, 0, .int 0, [])) (y_s := (72, [some (.ref _), some (.int _), some (.int _), some (.int _), some (.int _), some (.int _), some (.int _), none], [.int _], _)) rfl (u_ rfl) ?_
                refine w_t (pc := 72) (e_s := (4, 2, 7, 0, 0, .null, [])) (y_s := (74, [some (.ref _), some (.int _), some (.int _), some (.int _), some (.int _), some (.int _), some (.int _), some (.int _)], [], _)) rfl (u_ rfl) ?_
                exact t_s
/-- ColdShodModel.edge(III)I, from 74 on -/
theorem sg_206_74 {F_s : Nat} {x1_s x2_s x3 x4_s x5_s x6 x7 : Int32} {h_s : zH} {K_s : Int32 → zH → Prop} (hk : hKn h_s) (t_s : (x3.toInt = 0 → ((3 < x7.toInt → (zix x4_s < 104 → K_s x6 (h_s.1, zup h_s.2.1 103 (zix x4_s) x5_s, h_s.2.2.1, h_s.2.2.2))) ∧ (¬ 3 < x7.toInt → (zix x4_s < 104 → wF F_s 204 (0, [some (.ref 102), some (.int x1_s), some (.int x2_s), none, none], [], (h_s.1, zup h_s.2.1 103 (zix x4_s) x7, h_s.2.2.1, h_s.2.2.2)) (gI (fun v5 h5 => hKn h5 → (v5.toInt = -2 → wF F_s 206 (74, [some (.ref 102), some (.int x1_s), some (.int x2_s), some (.int x3), some (.int x4_s), some (.int x5_s), some (.int (x6 ||| (1 <<< (x7 &&& 31)))), some (.int (x7 + 1))], [], h5) (gI K_s)) ∧ (¬ v5.toInt = -2 → wF F_s 206 (74, [some (.ref 102), some (.int x1_s), some (.int x2_s), some (.int x3), some (.int x4_s), some (.int x5_s), some (.int (x6 ||| 0)), some (.int (x7 + 1))], [], h5) (gI K_s)))))))) ∧ (¬ x3.toInt = 0 → ((5 < x7.toInt → (zix x4_s < 104 → K_s x6 (h_s.1, zup h_s.2.1 103 (zix x4_s) x5_s, h_s.2.2.1, h_s.2.2.2))) ∧ (¬ 5 < x7.toInt → (zix x4_s < 104 → wF F_s 204 (0, [some (.ref 102), some (.int x1_s), some (.int x2_s), none, none], [], (h_s.1, zup h_s.2.1 103 (zix x4_s) x7, h_s.2.2.1, h_s.2.2.2)) (gI (fun v10 h10 => hKn h10 → (v10.toInt = -2 → wF F_s 206 (74, [some (.ref 102), some (.int x1_s), some (.int x2_s), some (.int x3), some (.int x4_s), some (.int x5_s), some (.int (x6 ||| (1 <<< (x7 &&& 31)))), some (.int (x7 + 1))], [], h10) (gI K_s)) ∧ (¬ v10.toInt = -2 → wF F_s 206 (74, [some (.ref 102), some (.int x1_s), some (.int x2_s), some (.int x3), some (.int x4_s), some (.int x5_s), some (.int (x6 ||| 0)), some (.int (x7 + 1))], [], h10) (gI K_s))))))))) : wF (F_s + 1) 206 (74, [some (.ref 102), some (.int x1_s), some (.int x2_s), some (.int x3), some (.int x4_s), some (.int x5_s), some (.int x6), some (.int x7)], [], h_s) (gI K_s) := by
  refine w_0 (pc := 74) (e_s := (1, 2, 7, 0, 0, .null, [])) (y_s := (76, [some (.ref _), some (.int _), some (.int _), some (.int _), some (.int _), some (.int _), some (.int _), some (.int _)], [.int _], _)) rfl (u_ rfl) ?_
  refine w_t (pc := 76) (e_s := (1, 1, 3, 0, 0, .null, [])) (y_s := (77, [some (.ref _), some (.int _), some (.int _), some (.int _), some (.int _), some (.int _), some (.int _), some (.int _)], [.int _, .int _], _)) rfl (u_ rfl) ?_
  refine wq1 (pc := 77) (len_s := 3) rfl rfl (fun c1_s => ?_) (fun c1_s => ?_)
  · replace t_s := t_s.1 c1_s
    refine w_t (pc := 80) (e_s := (0, 1, 0, 0, 0, .int 3, [])) (y_s := (81, [some (.ref _), some (.int _), some (.int _), some (.int _), some (.int _), some (.int _), some (.int _), some (.int _)], [.int _, .int _], _)) rfl (u_ rfl) ?_
    refine w_t (pc := 81) (e_s := (17, 3, 85, 0, 0, .null, [])) (y_s := (85, [some (.ref _), some (.int _), some (.int _), some (.int _), some (.int _), some (.int _), some (.int _), some (.int _)], [.int _, .int _], _)) rfl (u_ rfl) ?_
    refine wi4 (pc := 85) (len_s := 3) (Y := 3) rfl rfl (by decide) (fun c2_s => ?_) (fun c2_s => ?_)
    · replace t_s := t_s.1 c2_s
      refine w_t (pc := 127) (e_s := (3, 1, 0, 0, 0, .null, [])) (y_s := (128, [some (.ref _), some (.int _), some (.int _), some (.int _), some (.int _), some (.int _), some (.int _), some (.int _)], [.ref _], _)) rfl (u_ rfl) ?_
      refine w20r (pc := 128) (len_s := 3) (q_s := 103) rfl (krq hk rfl) ?_
      refine w_t (pc := 131) (e_s := (1, 2, 4, 0, 0, .null, [])) (y_s := (133, [some (.ref _), some (.int _), some (.int _), some (.int _), some (.int _), some (.int _), some (.int _), some (.int _)], [.int _, .ref _], _)) rfl (u_ rfl) ?_
      refine w_t (pc := 133) (e_s := (1, 2, 5, 0, 0, .null, [])) (y_s := (135, [some (.ref _), some (.int _), some (.int _), some (.int _), some (.int _), some (.int _), some (.int _), some (.int _)], [.int _, .int _, .ref _], _)) rfl (u_ rfl) ?_
      refine w25 (pc := 135) (len_s := 1) rfl (hk.1 103 0 104 rfl rfl) (fun c3_s => ?_)
      replace t_s := t_s c3_s
      refine w_t (pc := 136) (e_s := (1, 2, 6, 0, 0, .null, [])) (y_s := (138, [some (.ref _), some (.int _), some (.int _), some (.int _), some (.int _), some (.int _), some (.int _), some (.int _)], [.int _], _)) rfl (u_ rfl) ?_
      exact wrI (pc := 138) (len_s := 1) rfl hk t_s
    · replace t_s := t_s.2 c2_s
      refine w_t (pc := 88) (e_s := (3, 1, 0, 0, 0, .null, [])) (y_s := (89, [some (.ref _), some (.int _), some (.int _), some (.int _), some (.int _), some (.int _), some (.int _), some (.int _)], [.ref _], _)) rfl (u_ rfl) ?_
      refine w20r (pc := 89) (len_s := 3) (q_s := 103) rfl (krq hk rfl) ?_
      refine w_t (pc := 92) (e_s := (1, 2, 4, 0, 0, .null, [])) (y_s := (94, [some (.ref _), some (.int _), some (.int _), some (.int _), some (.int _), some (.int _), some (.int _), some (.int _)], [.int _, .ref _], _)) rfl (u_ rfl) ?_
      refine w_t (pc := 94) (e_s := (1, 2, 7, 0, 0, .null, [])) (y_s := (96, [some (.ref _), some (.int _), some (.int _), some (.int _), some (.int _), some (.int _), some (.int _), some (.int _)], [.int _, .int _, .ref _], _)) rfl (u_ rfl) ?_
      refine w25 (pc := 96) (len_s := 1) rfl (hk.1 103 0 104 rfl rfl) (fun c4_s => ?_)
      replace t_s := t_s c4_s
      refine w_t (pc := 97) (e_s := (1, 2, 6, 0, 0, .null, [])) (y_s := (99, [some (.ref _), some (.int _), some (.int _), some (.int _), some (.int _), some (.int _), some (.int _), some (.int _)], [.int _], _)) rfl (u_ rfl) ?_
      refine w_t (pc := 99) (e_s := (3, 1, 0, 0, 0, .null, [])) (y_s := (100, [some (.ref _), some (.int _), some (.int _), some (.int _), some (.int _), some (.int _), some (.int _), some (.int _)], [.ref _, .int _], _)) rfl (u_ rfl) ?_
      refine w_t (pc := 100) (e_s := (1, 1, 1, 0, 0, .null, [])) (y_s := (101, [some (.ref _), some (.int _), some (.int _), some (.int _), some (.int _), some (.int _), some (.int _), some (.int _)], [.int _, .ref _, .int _], _)) rfl (u_ rfl) ?_
      refine w_t (pc := 101) (e_s := (1, 1, 2, 0, 0, .null, [])) (y_s := (102, [some (.ref _), some (.int _), some (.int _), some (.int _), some (.int _), some (.int _), some (.int _), some (.int _)], [.int _, .int _, .ref _, .int _], _)) rfl (u_ rfl) ?_
      refine wcI (pc := 102) (len_s := 3) rfl rfl (l := [some (.ref _), some (.int _), some (.int _), none, none]) rfl (wmI t_s (fun v5 h5 hk t_s => ?_))
      replace t_s := t_s hk
      refine w_t (pc := 105) (e_s := (0, 2, 0, 0, 0, .int (-2), [])) (y_s := (107, [some (.ref _), some (.int _), some (.int _), some (.int _), some (.int _), some (.int _), some (.int _), some (.int _)], [.int _, .int _, .int _], _)) rfl (u_ rfl) ?_
      refine wi1 (pc := 107) (len_s := 3) (Y := -2) rfl rfl (by decide) (fun c6_s => ?_) (fun c6_s => ?_)
      · replace t_s := t_s.1 c6_s
        refine w_t (pc := 110) (e_s := (0, 1, 0, 0, 0, .int 1, [])) (y_s := (111, [some (.ref _), some (.int _), some (.int _), some (.int _), some (.int _), some (.int _), some (.int _), some (.int _)], [.int _, .int _], _)) rfl (u_ rfl) ?_
        refine w_t (pc := 111) (e_s := (1, 2, 7, 0, 0, .null, [])) (y_s := (113, [some (.ref _), some (.int _), some (.int _), some (.int _), some (.int _), some (.int _), some (.int _), some (.int _)], [.int _, .int _, .int _], _)) rfl (u_ rfl) ?_
        refine w_t (pc := 113) (e_s := (7, 1, 0, 6, 0, .null, [])) (y_s := (114, [some (.ref _), some (.int _), some (.int _), some (.int _), some (.int _), some (.int _), some (.int _), some (.int _)], [.int ((_ : Int32) <<< ((_ : Int32) &&& 31)), .int _], _)) rfl (u_ rfl) ?_
        refine w_t (pc := 114) (e_s := (17, 3, 118, 0, 0, .null, [])) (y_s := (118, [some (.ref _), some (.int _), some (.int _), some (.int _), some (.int _), some (.int _), some (.int _), some (.int _)], [.int _, .int _], _)) rfl (u_ rfl) ?_
        refine w_t (pc := 118) (e_s := (7, 1, 0, 4, 0, .null, [])) (y_s := (119, [some (.ref _), some (.int _), some (.int _), some (.int _), some (.int _), some (.int _), some (.int _), some (.int _)], [.int (_ ||| _)], _)) rfl (u_ rfl) ?_
        refine w_t (pc := 119) (e_s := (4, 2, 6, 0, 0, .null, [])) (y_s := (121, [some (.ref _), some (.int _), some (.int _), some (.int _), some (.int _), some (.int _), some (.int _), some (.int _)], [], _)) rfl (u_ rfl) ?_
        refine w_t (pc := 121) (e_s := (19, 3, 7, 0, 0, .int 1, [])) (y_s := (124, [some (.ref _), some (.int _), some (.int _), some (.int _), some (.int _), some (.int _), some (.int _), some (.int _)], [], _)) rfl (u_ rfl) ?_
        refine w_t (pc := 124) (e_s := (17, 3, 74, 0, 0, .null, [])) (y_s := (74, [some (.ref _), some (.int _), some (.int _), some (.int _), some (.int _), some (.int _), some (.int _), some (.int _)], [], _)) rfl (u_ rfl) ?_
        exact t_s
      · replace t_s := t_s.2 c6_s
        refine w_t (pc := 117) (e_s := (0, 1, 0, 0, 0, .int 0, [])) (y_s := (118, [some (.ref _), some (.int _), some (.int _), some (.int _), some (.int _), some (.int _), some (.int _), some (.int _)], [.int _, .int _], _)) rfl (u_ rfl) ?_
        refine w_t (pc := 118) (e_s := (7, 1, 0, 4, 0, .null, [])) (y_s := (119, [some (.ref _), some (.int _), some (.int _), some (.int _), some (.int _), some (.int _), some (.int _), some (.int _)], [.int (_ ||| _)], _)) rfl (u_ rfl) ?_
        refine w_t (pc := 119) (e_s := (4, 2, 6, 0, 0, .null, [])) (y_s := (121, [some (.ref _), some (.int _), some (.int _), some (.int _), some (.int _), some (.int _), some (.int _), some (.int _)], [], _)) rfl (u_ rfl) ?_
        refine w_t (pc := 121) (e_s := (19, 3, 7, 0, 0, .int 1, [])) (y_s := (124, [some (.ref _), some (.int _), some (.int _), some (.int _), some (.int _), some (.int _), some (.int _), some (.int _)], [], _)) rfl (u_ rfl) ?_
        refine w_t (pc := 124) (e_s := (17, 3, 74, 0, 0, .null, [])) (y_s := (74, [some (.ref _), some (.int _), some (.int _), some (.int _), some (.int _), some (.int _), some (.int _), some (.int _)], [], _)) rfl (u_ rfl) ?_
        exact t_s
  · replace t_s := t_s.2 c1_s
    refine w_t (pc := 84) (e_s := (0, 1, 0, 0, 0, .int 5, [])) (y_s := (85, [some (.ref _), some (.int _), some (.int _), some (.int _), some (.int _), some (.int _), some (.int _), some (.int _)], [.int _, .int _], _)) rfl (u_ rfl) ?_
    refine wi4 (pc := 85) (len_s := 3) (Y := 5) rfl rfl (by decide) (fun c7_s => ?_) (fun c7_s => ?_)
    · replace t_s := t_s.1 c7_s
      refine w_t (pc := 127) (e_s := (3, 1, 0, 0, 0, .null, [])) (y_s := (128, [some (.ref _), some (.int _), some (.int _), some (.int _), some (.int _), some (.int _), some (.int _), some (.int _)], [.ref _], _)) rfl (u_ rfl) ?_
      refine w20r (pc := 128) (len_s := 3) (q_s := 103) rfl (krq hk rfl) ?_
      refine w_t (pc := 131) (e_s := (1, 2, 4, 0, 0, .null, [])) (y_s := (133, [some (.ref _), some (.int _), some (.int _), some (.int _), some (.int _), some (.int _), some (.int _), some (.int _)], [.int _, .ref _], _)) rfl (u_ rfl) ?_
      refine w_t (pc := 133) (e_s := (1, 2, 5, 0, 0, .null, [])) (y_s := (135, [some (.ref _), some (.int _), some (.int _), some (.int _), some (.int _), some (.int _), some (.int _), some (.int _)], [.int _, .int _, .ref _], _)) rfl (u_ rfl) ?_
      refine w25 (pc := 135) (len_s := 1) rfl (hk.1 103 0 104 rfl rfl) (fun c8_s => ?_)
      replace t_s := t_s c8_s
      refine w_t (pc := 136) (e_s := (1, 2, 6, 0, 0, .null, [])) (y_s := (138, [some (.ref _), some (.int _), some (.int _), some (.int _), some (.int _), some (.int _), some (.int _), some (.int _)], [.int _], _)) rfl (u_ rfl) ?_
      exact wrI (pc := 138) (len_s := 1) rfl hk t_s
    · replace t_s := t_s.2 c7_s
      refine w_t (pc := 88) (e_s := (3, 1, 0, 0, 0, .null, [])) (y_s := (89, [some (.ref _), some (.int _), some (.int _), some (.int _), some (.int _), some (.int _), some (.int _), some (.int _)], [.ref _], _)) rfl (u_ rfl) ?_
      refine w20r (pc := 89) (len_s := 3) (q_s := 103) rfl (krq hk rfl) ?_
      refine w_t (pc := 92) (e_s := (1, 2, 4, 0, 0, .null, [])) (y_s := (94, [some (.ref _), some (.int _), some (.int _), some (.int _), some (.int _), some (.int _), some (.int _), some (.int _)], [.int _, .ref _], _)) rfl (u_ rfl) ?_
      refine w_t (pc := 94) (e_s := (1, 2, 7, 0, 0, .null, [])) (y_s := (96, [some (.ref _), some (.int _), some (.int _), some (.int _), some (.int _), some (.int _), some (.int _), some (.int _)], [.int _, .int _, .ref _], _)) rfl (u_ rfl) ?_
      refine w25 (pc := 96) (len_s := 1) rfl (hk.1 103 0 104 rfl rfl) (fun c9_s => ?_)
      replace t_s := t_s c9_s
      refine w_t (pc := 97) (e_s := (1, 2, 6, 0, 0, .null, [])) (y_s := (99, [some (.ref _), some (.int _), some (.int _), some (.int _), some (.int _), some (.int _), some (.int _), some (.int _)], [.int _], _)) rfl (u_ rfl) ?_
      refine w_t (pc := 99) (e_s := (3, 1, 0, 0, 0, .null, [])) (y_s := (100, [some (.ref _), some (.int _), some (.int _), some (.int _), some (.int _), some (.int _), some (.int _), some (.int _)], [.ref _, .int _], _)) rfl (u_ rfl) ?_
      refine w_t (pc := 100) (e_s := (1, 1, 1, 0, 0, .null, [])) (y_s := (101, [some (.ref _), some (.int _), some (.int _), some (.int _), some (.int _), some (.int _), some (.int _), some (.int _)], [.int _, .ref _, .int _], _)) rfl (u_ rfl) ?_
      refine w_t (pc := 101) (e_s := (1, 1, 2, 0, 0, .null, [])) (y_s := (102, [some (.ref _), some (.int _), some (.int _), some (.int _), some (.int _), some (.int _), some (.int _), some (.int _)], [.int _, .int _, .ref _, .int _], _)) rfl (u_ rfl) ?_
      refine wcI (pc := 102) (len_s := 3) rfl rfl (l := [some (.ref _), some (.int _), some (.int _), none, none]) rfl (wmI t_s (fun v10 h10 hk t_s => ?_))
      replace t_s := t_s hk
      refine w_t (pc := 105) (e_s := (0, 2, 0, 0, 0, .int (-2), [])) (y_s := (107, [some (.ref _), some (.int _), some (.int _), some (.int _), some (.int _), some (.int _), some (.int _), some (.int _)], [.int _, .int _, .int _], _)) rfl (u_ rfl) ?_
      refine wi1 (pc := 107) (len_s := 3) (Y := -2) rfl rfl (by decide) (fun c11_s => ?_) (fun c11_s => ?_)
      · replace t_s := t_s.1 c11_s
        refine w_t (pc := 110) (e_s := (0, 1, 0, 0, 0, .int 1, [])) (y_s := (111, [some (.ref _), some (.int _), some (.int _), some (.int _), some (.int _), some (.int _), some (.int _), some (.int _)], [.int _, .int _], _)) rfl (u_ rfl) ?_
        refine w_t (pc := 111) (e_s := (1, 2, 7, 0, 0, .null, [])) (y_s := (113, [some (.ref _), some (.int _), some (.int _), some (.int _), some (.int _), some (.int _), some (.int _), some (.int _)], [.int _, .int _, .int _], _)) rfl (u_ rfl) ?_
        refine w_t (pc := 113) (e_s := (7, 1, 0, 6, 0, .null, [])) (y_s := (114, [some (.ref _), some (.int _), some (.int _), some (.int _), some (.int _), some (.int _), some (.int _), some (.int _)], [.int ((_ : Int32) <<< ((_ : Int32) &&& 31)), .int _], _)) rfl (u_ rfl) ?_
        refine w_t (pc := 114) (e_s := (17, 3, 118, 0, 0, .null, [])) (y_s := (118, [some (.ref _), some (.int _), some (.int _), some (.int _), some (.int _), some (.int _), some (.int _), some (.int _)], [.int _, .int _], _)) rfl (u_ rfl) ?_
        refine w_t (pc := 118) (e_s := (7, 1, 0, 4, 0, .null, [])) (y_s := (119, [some (.ref _), some (.int _), some (.int _), some (.int _), some (.int _), some (.int _), some (.int _), some (.int _)], [.int (_ ||| _)], _)) rfl (u_ rfl) ?_
        refine w_t (pc := 119) (e_s := (4, 2, 6, 0, 0, .null, [])) (y_s := (121, [some (.ref _), some (.int _), some (.int _), some (.int _), some (.int _), some (.int _), some (.int _), some (.int _)], [], _)) rfl (u_ rfl) ?_
        refine w_t (pc := 121) (e_s := (19, 3, 7, 0, 0, .int 1, [])) (y_s := (124, [some (.ref _), some (.int _), some (.int _), some (.int _), some (.int _), some (.int _), some (.int _), some (.int _)], [], _)) rfl (u_ rfl) ?_
        refine w_t (pc := 124) (e_s := (17, 3, 74, 0, 0, .null, [])) (y_s := (74, [some (.ref _), some (.int _), some (.int _), some (.int _), some (.int _), some (.int _), some (.int _), some (.int _)], [], _)) rfl (u_ rfl) ?_
        exact t_s
      · replace t_s := t_s.2 c11_s
        refine w_t (pc := 117) (e_s := (0, 1, 0, 0, 0, .int 0, [])) (y_s := (118, [some (.ref _), some (.int _), some (.int _), some (.int _), some (.int _), some (.int _), some (.int _), some (.int _)], [.int _, .int _], _)) rfl (u_ rfl) ?_
        refine w_t (pc := 118) (e_s := (7, 1, 0, 4, 0, .null, [])) (y_s := (119, [some (.ref _), some (.int _), some (.int _), some (.int _), some (.int _), some (.int _), some (.int _), some (.int _)], [.int (_ ||| _)], _)) rfl (u_ rfl) ?_
        refine w_t (pc := 119) (e_s := (4, 2, 6, 0, 0, .null, [])) (y_s := (121, [some (.ref _), some (.int _), some (.int _), some (.int _), some (.int _), some (.int _), some (.int _), some (.int _)], [], _)) rfl (u_ rfl) ?_
        refine w_t (pc := 121) (e_s := (19, 3, 7, 0, 0, .int 1, [])) (y_s := (124, [some (.ref _), some (.int _), some (.int _), some (.int _), some (.int _), some (.int _), some (.int _), some (.int _)], [], _)) rfl (u_ rfl) ?_
        refine w_t (pc := 124) (e_s := (17, 3, 74, 0, 0, .null, [])) (y_s := (74, [some (.ref _), some (.int _), some (.int _), some (.int _), some (.int _), some (.int _), some (.int _), some (.int _)], [], _)) rfl (u_ rfl) ?_
        exact t_s
/-! THE EDGE, the reference: it thinks on a place of the country's row and puts that place back. -/
noncomputable def isRm (g_s : Nat → Nat → Int64) (nr : Nat) (x_s v_s : Int32) : Prop := ∀ k_s : Int32, 0 ≤ k_s.toInt → k_s.toInt < v_s.toInt → 0 ≤ (g_s 126 (zix (60 * x_s + k_s))).toInt ∧ (g_s 126 (zix (60 * x_s + k_s))).toInt < (nr : Int)
theorem sub1_as (x_s y_s : Int32) : x_s + y_s - 1 = x_s + (y_s - 1) := by
  rw [Int32.sub_eq_add_neg, Int32.sub_eq_add_neg, Int32.add_assoc]
theorem frG_tr {f_s f1_s f2_s : Nat → Nat → Int32} (h1 : frG f_s f1_s) (h2 : frG f1_s f2_s) : frG f_s f2_s := fun a_s k_s q1_s q2_s q3_s => by
  rw [h2 a_s k_s q1_s q2_s q3_s]
  exact h1 a_s k_s q1_s q2_s q3_s
section ED_s
variable {h_s : zH} {K_s : Int32 → zH → Prop} {nh ni nr : Nat} {lw : Option (List pB)} {x1_s x2_s : Int32} {f0_s : Nat → Nat → Int32}
theorem rm187 (hk : hKn h_s) (c8_s : (h_s.2.1 102 8).toInt = (nr : Int)) (t_s : ∀ v_s, isRm h_s.2.2.1 nr x1_s v_s → K_s v_s h_s) : ∀ (F_s n_s : Nat) (x2_s : Int32), x2_s.toInt = (n_s : Int) → isRm h_s.2.2.1 nr x1_s x2_s → wF F_s 187 (2, [some (.ref 102), some (.int x1_s), some (.int x2_s)], [], h_s) (gI K_s)
  | 0, _, _, _, _ => wF_zero
  | F_s + 1, n_s, x2_s, e2_s, r_s => by
    have e8 := sb1 c8_s
    refine sg_187_2 (h_s := h_s) hk ?_
    rw [e8]
    refine ⟨fun c1_s => fun c2_s => ⟨fun c3_s => fun c4_s => ⟨fun c5_s => t_s x2_s r_s, fun c5_s => ⟨fun c6_s => t_s x2_s r_s, fun c6_s => ?_⟩⟩, fun c3_s => t_s x2_s r_s⟩, fun c1_s => t_s x2_s r_s⟩
    have e3_s : (x2_s + 1).toInt = ((n_s + 1 : Nat) : Int) := by
      rw [in1_ (by omega), e2_s]
      omega
    refine rm187 hk c8_s t_s F_s (n_s + 1) (x2_s + 1) e3_s (fun k_s k0_s k1_s => ?_)
    by_cases e_s : k_s.toInt = x2_s.toInt
    · have ek : k_s = x2_s := Int32.toInt_inj.mp e_s
      rw [ek]
      omega
    · exact r_s k_s k0_s (by omega)
theorem fr_187 {F_s : Nat} (hk : hKn h_s) (c8_s : (h_s.2.1 102 8).toInt = (nr : Int)) (t_s : ∀ v_s, isRm h_s.2.2.1 nr x1_s v_s → K_s v_s h_s) : wF F_s 187 (0, [some (.ref 102), some (.int x1_s), none], [], h_s) (gI K_s) := wF_le (Nat.le_succ F_s) (sg_187_0 (h_s := h_s) hk (rm187 hk c8_s t_s F_s 0 0 rfl (fun k_s k0_s k1_s => absurd (show k_s.toInt < 0 from k1_s) (by omega))))
noncomputable def Q4 (f0_s f_s : Nat → Nat → Int32) : Prop := frG f0_s f_s ∧ ∃ o : oI, oB o ∧ ∀ k_s, k_s < 7 → f_s 112 k_s = o k_s
noncomputable def B10 (h_s : zH) (K_s : Int32 → zH → Prop) (f0_s : Nat → Nat → Int32) (x1_s x2_s : Int32) (F_s : Nat) : Prop := ∀ (x3 x4_s : Int32) (n_s : Nat) (f_s : Nat → Nat → Int32), Q4 f0_s f_s → x4_s.toInt = (n_s : Int) → wF F_s 204 (10, [some (.ref 102), some (.int x1_s), some (.int x2_s), some (.int x3), some (.int x4_s)], [], (h_s.1, f_s, h_s.2.2.1, h_s.2.2.2)) (gI K_s)
noncomputable def B52 (h_s : zH) (K_s : Int32 → zH → Prop) (f0_s : Nat → Nat → Int32) (x1_s x2_s : Int32) (nr F_s : Nat) : Prop := ∀ (x3 x4_s : Int32) (n_s : Nat) (f_s : Nat → Nat → Int32), Q4 f0_s f_s → x4_s.toInt = (n_s : Int) → 0 < n_s → x4_s.toInt < 2147483647 → (¬ x3.toInt = 0 → isRm h_s.2.2.1 nr (x1_s / 10) x4_s) → wF F_s 204 (52, [some (.ref 102), some (.int x1_s), some (.int x2_s), some (.int x3), some (.int x4_s)], [], (h_s.1, f_s, h_s.2.2.1, h_s.2.2.2)) (gI K_s)
noncomputable def B83 (h_s : zH) (K_s : Int32 → zH → Prop) (f0_s : Nat → Nat → Int32) (x1_s x2_s : Int32) (F_s : Nat) : Prop := ∀ (x3 x4_s : Int32) (n_s : Nat) (f_s : Nat → Nat → Int32), Q4 f0_s f_s → x4_s.toInt = (n_s : Int) → x4_s.toInt < 2147483647 → wF F_s 204 (83, [some (.ref 102), some (.int x1_s), some (.int x2_s), some (.int x3), some (.int x4_s)], [], (h_s.1, f_s, h_s.2.2.1, h_s.2.2.2)) (gI K_s)
theorem b10_s {F_s : Nat} (hk : hKn h_s) (hc_s : tM nh ni nr f0_s) (t_s : ∀ v_s f1_s, frG f0_s f1_s → K_s v_s (h_s.1, f1_s, h_s.2.2.1, h_s.2.2.2)) (i5_s : B52 h_s K_s f0_s x1_s x2_s nr F_s) (i8_s : B83 h_s K_s f0_s x1_s x2_s F_s) : B10 h_s K_s f0_s x1_s x2_s (F_s + 1) := by
  intro x3 x4_s n_s f_s q_s e4_s
  have r125 := na_rng (f_s 125 (zix (x1_s - x1_s / 10 * 10)))
  have c8_s : (f_s 102 8).toInt = (nr : Int) := by
    rw [q_s.1 102 8 (by omega) (by omega) (by omega)]
    exact hc_s.2.1.2.2
  refine sg_204_10 (h_s := (h_s.1, f_s, h_s.2.2.1, h_s.2.2.2)) hk ?_
  dsimp only
  refine fun c1_s => ⟨fun c2_s => ⟨fun c3_s => ⟨fun c4_s => i5_s 0 x4_s n_s f_s q_s e4_s (by omega) (by omega) (fun c_s => absurd rfl c_s), fun c4_s => ?_⟩, fun c3_s => i8_s x3 x4_s n_s f_s q_s e4_s (by omega)⟩, fun c2_s => t_s (-2) f_s q_s.1⟩
  refine fr_187 (h_s := (h_s.1, f_s, h_s.2.2.1, h_s.2.2.2)) (nr := nr) hk c8_s (fun v_s rv_s hk5 => ⟨fun _ => i5_s 0 x4_s n_s f_s q_s e4_s (by omega) (by omega) (fun c_s => absurd rfl c_s), fun c_s => i5_s 1 x4_s n_s f_s q_s e4_s (by omega) (by omega) (fun _ k_s k0_s k1_s => rv_s k_s k0_s (by omega))⟩)
theorem b52_s {F_s : Nat} (hk : hKn h_s) (hc_s : tM nh ni nr f0_s) (hl : lawR f0_s lw) (hp : lwP lw) (i8_s : B83 h_s K_s f0_s x1_s x2_s F_s) : B52 h_s K_s f0_s x1_s x2_s nr (F_s + 1) := by
  intro x3 x4_s n_s f_s q_s e4_s hn hb_s hr
  obtain ⟨g_s, o, hB_s, ho⟩ := q_s
  have b_s := hc_s.1
  have e1_s : (x4_s - 1).toInt = (n_s : Int) - 1 := sb1 e4_s
  refine sg_204_52 (h_s := (h_s.1, f_s, h_s.2.2.1, h_s.2.2.2)) hk ?_
  dsimp only
  refine ⟨fun c1_s => i8_s x3 x4_s n_s f_s ⟨g_s, o, hB_s, ho⟩ e4_s hb_s, fun c1_s => fun c2_s => ?_⟩
  have ir := hr c1_s (x4_s - 1) (by omega) (by omega)
  rw [sub1_as]
  generalize h_s.2.2.1 126 (zix (60 * (x1_s / 10) + (x4_s - 1))) = l at ir
  have t3_s := t32_ (x_s := l) (by omega) (by omega)
  have er : l.toInt = (l.toInt.toNat : Int) := by omega
  have hr1 : l.toInt.toNat < nr := by omega
  have m0_s : tM nh ni nr f_s := tM_fr (fun k_s _ _ => g_s _ _ (by omega) (by omega) (by omega)) (fun k_s _ => g_s _ _ (by omega) (by omega) (by omega)) hc_s
  obtain ⟨m1_s, m2_s, m3_s⟩ := tM_ml m0_s hr1
  have l1 : lawR f_s lw := lawR_fr (g_s _ _ (by omega) (by omega) (by omega)) (fun k_s _ => g_s _ _ (by omega) (by omega) (by omega)) hl
  refine sp_183 (h_s := (h_s.1, f_s, h_s.2.2.1, h_s.2.2.2)) (o := o) (r_s := l.toInt.toNat) (m_s := zix (f_s 103 (68 + l.toInt.toNat))) hk l1 hp (by rw [t3_s]; exact er) (by omega) m1_s m2_s ho hB_s (fun f1_s p1_s p2_s p3_s p4_s hk2 => ?_)
  exact i8_s _ x4_s n_s f1_s ⟨frG_tr g_s p4_s, _, go_B hB_s, p3_s⟩ e4_s hb_s
theorem b83_s {F_s : Nat} (hk : hKn h_s) (t_s : ∀ v_s f1_s, frG f0_s f1_s → K_s v_s (h_s.1, f1_s, h_s.2.2.1, h_s.2.2.2)) (i1_s : B10 h_s K_s f0_s x1_s x2_s F_s) : B83 h_s K_s f0_s x1_s x2_s (F_s + 1) := by
  intro x3 x4_s n_s f_s q_s e4_s hb_s
  exact sg_204_83 (h_s := (h_s.1, f_s, h_s.2.2.1, h_s.2.2.2)) hk ⟨fun c1_s => t_s x4_s f_s q_s.1, fun c1_s => fun c2_s => ⟨fun c4_s => i1_s x3 (x4_s + 1) (n_s + 1) f_s q_s (by rw [in1_ (by omega)]; omega), fun c4_s => t_s x4_s f_s q_s.1⟩⟩
theorem b_all (hk : hKn h_s) (hc_s : tM nh ni nr f0_s) (hl : lawR f0_s lw) (hp : lwP lw) (t_s : ∀ v_s f1_s, frG f0_s f1_s → K_s v_s (h_s.1, f1_s, h_s.2.2.1, h_s.2.2.2)) : ∀ F_s, B10 h_s K_s f0_s x1_s x2_s F_s ∧ B52 h_s K_s f0_s x1_s x2_s nr F_s ∧ B83 h_s K_s f0_s x1_s x2_s F_s
  | 0 => ⟨fun _ _ _ _ _ _ => wF_zero, fun _ _ _ _ _ _ _ _ _ => wF_zero, fun _ _ _ _ _ _ _ => wF_zero⟩
  | F_s + 1 => by
    obtain ⟨i1_s, i5_s, i8_s⟩ := b_all hk hc_s hl hp t_s F_s
    exact ⟨b10_s hk hc_s t_s i5_s i8_s, b52_s hk hc_s hl hp i8_s, b83_s hk t_s i1_s⟩
theorem fr_204 {F_s i_s : Nat} (hk : hKn h_s) (hc_s : tM nh ni nr f0_s) (hl : lawR f0_s lw) (hp : lwP lw) (e2_s : x2_s.toInt = (i_s : Int)) (hi_s : i_s < ni) (t_s : ∀ v_s f1_s, frG f0_s f1_s → K_s v_s (h_s.1, f1_s, h_s.2.2.1, h_s.2.2.2)) : wF F_s 204 (0, [some (.ref 102), some (.int x1_s), some (.int x2_s), none, none], [], (h_s.1, f0_s, h_s.2.2.1, h_s.2.2.2)) (gI K_s) := by
  have b_s := hc_s.1
  refine wF_le (Nat.le_succ F_s) (sg_204_0 (h_s := (h_s.1, f0_s, h_s.2.2.1, h_s.2.2.2)) hk ?_)
  refine sp_178 hk e2_s (by omega) (tM_hd hc_s hi_s).1 (fun f1_s g1 g2 hk1 => ?_)
  exact (b_all hk hc_s hl hp t_s F_s).1 1 0 0 f1_s ⟨fun a_s k_s q1_s q2_s q3_s => g2 a_s k_s q2_s, owI f0_s i_s, tM_oB hc_s hi_s, g1⟩ rfl
theorem fr_203 {F_s : Nat} (hk : hKn h_s) (t_s : ∀ v_s, K_s v_s h_s) : wF F_s 203 (0, [some (.ref 102), some (.int x1_s)], [], h_s) (gI K_s) := wF_le (Nat.le_succ F_s) (sg_203_0 (h_s := h_s) hk (by repeat (first | exact t_s _ | refine ⟨?_, ?_⟩ | intro _)))
/-- a thought's place -/
theorem tM_at {f2_s : Nat → Nat → Int32} {j_s i_s : Nat} (hc_s : tM nh ni nr f0_s) (hj : j_s < 2) (hi_s : i_s < 8) (v0_s : 0 ≤ (f2_s 103 (12 + 8 * j_s + i_s)).toInt) (v1_s : (f2_s 103 (12 + 8 * j_s + i_s)).toInt ≤ mxw (j_s + 2)) (h2 : ∀ k_s, 6 ≤ k_s → k_s ≤ 8 → f2_s 102 k_s = f0_s 102 k_s) (h3 : ∀ k_s, k_s < 104 → ¬ k_s = 12 + 8 * j_s + i_s → f2_s 103 k_s = f0_s 103 k_s) : tM nh ni nr f2_s := by
  obtain ⟨b_s, ⟨a4, a5, a6⟩, a7⟩ := hc_s
  refine ⟨b_s, ⟨?_, ?_, ?_⟩, fun n_s w_s hw hn hni => ?_⟩
  · rw [h2 6 (by omega) (by omega)]
    exact a4
  · rw [h2 7 (by omega) (by omega)]
    exact a5
  · rw [h2 8 (by omega) (by omega)]
    exact a6
  · by_cases e_s : plc n_s w_s = 12 + 8 * j_s + i_s
    · have ew : w_s = j_s + 2 := by
        by_cases v2 : w_s < 2
        · rw [cap_h v2] at hn
          rw [plc_h v2] at e_s
          omega
        · by_cases v9 : w_s < 9
          · rw [cap_i (by omega) v9] at hn
            rw [plc_i (by omega) v9] at e_s
            omega
          · rw [cap_r (by omega)] at hn
            rw [plc_r (by omega)] at e_s
            omega
      rw [e_s]
      unfold vB
      rw [if_neg (by omega), ew]
      exact ⟨v0_s, v1_s, fun e9_s => absurd e9_s (by omega)⟩
    · rw [h3 _ (plc_lt hw hn) e_s]
      exact a7 n_s w_s hw hn hni
theorem ed206 {x5_s : Int32} {j_s i_s : Nat} (hk : hKn h_s) (hc_s : tM nh ni nr f0_s) (hl : lawR f0_s lw) (hp : lwP lw) (hj : j_s < 2) (e2_s : x2_s.toInt = (i_s : Int)) (hi_s : i_s < ni) (x3 x4_s : Int32) (e3_s : x3.toInt = (j_s : Int)) (e4_s : zix x4_s = 12 + 8 * j_s + i_s) (e5_s : x5_s = f0_s 103 (12 + 8 * j_s + i_s)) (t_s : ∀ v_s f1_s, frG f0_s f1_s → K_s v_s (h_s.1, f1_s, h_s.2.2.1, h_s.2.2.2)) : ∀ (F_s n_s : Nat) (x6 x7 : Int32) (f_s : Nat → Nat → Int32), x7.toInt = (n_s : Int) → n_s ≤ 6 → (∀ a_s k_s, ¬ a_s = 111 → ¬ a_s = 112 → ¬ (a_s = 102 ∧ (15 ≤ k_s ∧ k_s ≤ 19 ∨ k_s = 22 ∨ k_s = 23)) → ¬ (a_s = 103 ∧ k_s = 12 + 8 * j_s + i_s) → f_s a_s k_s = f0_s a_s k_s) → wF F_s 206 (74, [some (.ref 102), some (.int x1_s), some (.int x2_s), some (.int x3), some (.int x4_s), some (.int x5_s), some (.int x6), some (.int x7)], [], (h_s.1, f_s, h_s.2.2.1, h_s.2.2.2)) (gI K_s)
  | 0, _, _, _, _, _, _, _ => wF_zero
  | F_s + 1, n_s, x6, x7, f_s, e7_s, hn, g_s => by
    have b_s := hc_s.1
    have nx : ∀ (x61 : Int32), x7.toInt ≤ 5 → (x7.toInt ≤ mxw (j_s + 2)) → wF F_s 204 (0, [some (.ref 102), some (.int x1_s), some (.int x2_s), none, none], [], (h_s.1, zup f_s 103 (12 + 8 * j_s + i_s) x7, h_s.2.2.1, h_s.2.2.2)) (gI (fun v5 h5 => hKn h5 → (v5.toInt = -2 → wF F_s 206 (74, [some (.ref 102), some (.int x1_s), some (.int x2_s), some (.int x3), some (.int x4_s), some (.int x5_s), some (.int (x6 ||| (1 <<< (x7 &&& 31)))), some (.int (x7 + 1))], [], h5) (gI K_s)) ∧ (¬ v5.toInt = -2 → wF F_s 206 (74, [some (.ref 102), some (.int x1_s), some (.int x2_s), some (.int x3), some (.int x4_s), some (.int x5_s), some (.int (x6 ||| 0)), some (.int (x7 + 1))], [], h5) (gI K_s)))) := fun _ u5 um => by
      have m1_s : tM nh ni nr (zup f_s 103 (12 + 8 * j_s + i_s) x7) := by
        refine tM_at (i_s := i_s) hc_s hj (by omega) (by rw [zsame_up]; omega) (by rw [zsame_up]; exact um) (fun k_s k6_s k8_s => ?_) (fun k_s _ hk1 => ?_)
        · rw [zne_up (by omega)]
          exact g_s _ _ (by omega) (by omega) (by omega) (by omega)
        · rw [zne_up (by omega)]
          exact g_s _ _ (by omega) (by omega) (by omega) (by omega)
      have l1 : lawR (zup f_s 103 (12 + 8 * j_s + i_s) x7) lw := lawR_fr (by rw [zne_up (by omega)]; exact g_s _ _ (by omega) (by omega) (by omega) (by omega)) (fun k_s _ => by rw [zne_up (by omega)]; exact g_s _ _ (by omega) (by omega) (by omega) (by omega)) hl
      refine fr_204 (i_s := i_s) hk m1_s l1 hp e2_s hi_s (fun v5 f5_s g5_s hk5 => ?_)
      have g6 : ∀ a_s k_s, ¬ a_s = 111 → ¬ a_s = 112 → ¬ (a_s = 102 ∧ (15 ≤ k_s ∧ k_s ≤ 19 ∨ k_s = 22 ∨ k_s = 23)) → ¬ (a_s = 103 ∧ k_s = 12 + 8 * j_s + i_s) → f5_s a_s k_s = f0_s a_s k_s := fun a_s k_s q1_s q2_s q3_s q4_s => by
        rw [g5_s a_s k_s q1_s q2_s q3_s, zne_up (by omega)]
        exact g_s a_s k_s q1_s q2_s q3_s q4_s
      have e8 : (x7 + 1).toInt = ((n_s + 1 : Nat) : Int) := by
        rw [in1_ (by omega), e7_s]
        omega
      exact ⟨fun _ => ed206 hk hc_s hl hp hj e2_s hi_s x3 x4_s e3_s e4_s e5_s t_s F_s (n_s + 1) _ (x7 + 1) f5_s e8 (by omega) g6, fun _ => ed206 hk hc_s hl hp hj e2_s hi_s x3 x4_s e3_s e4_s e5_s t_s F_s (n_s + 1) _ (x7 + 1) f5_s e8 (by omega) g6⟩
    have fin_s : K_s x6 (h_s.1, zup f_s 103 (12 + 8 * j_s + i_s) x5_s, h_s.2.2.1, h_s.2.2.2) := t_s x6 _ (fun a_s k_s q1_s q2_s q3_s => by
      by_cases e_s : a_s = 103 ∧ k_s = 12 + 8 * j_s + i_s
      · rw [e_s.1, e_s.2, zsame_up]
        exact e5_s
      · rw [zne_up e_s]
        exact g_s a_s k_s q1_s q2_s q3_s e_s)
    have mx_s : (j_s = 0 → mxw (j_s + 2) = 3) ∧ (j_s = 1 → mxw (j_s + 2) = 5) := ⟨fun e_s => by rw [e_s]; rfl, fun e_s => by rw [e_s]; rfl⟩
    refine sg_206_74 (h_s := (h_s.1, f_s, h_s.2.2.1, h_s.2.2.2)) hk ?_
    dsimp only
    rw [e4_s]
    refine ⟨fun c1_s => ⟨fun c2_s => fun c3_s => fin_s, fun c2_s => fun c4_s => nx 0 (by omega) (by have := mx_s.1 (by omega); omega)⟩, fun c1_s => ⟨fun c7_s => fun c8_s => fin_s, fun c7_s => fun c9_s => nx 0 (by omega) (by have := mx_s.2 (by omega); omega)⟩⟩
theorem fr_206 {F_s : Nat} {x3 : Int32} (hk : hKn h_s) (hc_s : tM nh ni nr f0_s) (hl : lawR f0_s lw) (hp : lwP lw) (t_s : ∀ v_s f1_s, frG f0_s f1_s → K_s v_s (h_s.1, f1_s, h_s.2.2.1, h_s.2.2.2)) : wF F_s 206 (0, [some (.ref 102), some (.int x1_s), some (.int x2_s), some (.int x3), none, none, none, none], [], (h_s.1, f0_s, h_s.2.2.1, h_s.2.2.2)) (gI K_s) := by
  have b_s := hc_s.1
  have e7_s := sb1 hc_s.2.1.2.1
  have t0_s : ∀ v_s, K_s v_s (h_s.1, f0_s, h_s.2.2.1, h_s.2.2.2) := fun v_s => t_s v_s f0_s (fun _ _ _ _ _ => rfl)
  refine wF_le (Nat.le_succ F_s) (sg_206_0 (h_s := (h_s.1, f0_s, h_s.2.2.1, h_s.2.2.2)) hk ?_)
  refine fr_203 hk (fun v1_s hk1 => ⟨fun _ => t0_s _, fun _ => ?_⟩)
  dsimp only
  rw [e7_s]
  refine ⟨fun _ => t0_s _, fun c2_s => ⟨fun _ => t0_s _, fun c3_s => ⟨fun _ => t0_s _, fun c4_s => ⟨fun _ => t0_s _, fun c5_s => ?_⟩⟩⟩⟩
  refine fr_203 hk (fun v7 hk7 => ⟨fun _ => fr_203 hk (fun v9 _ => t0_s v9), fun _ => ?_⟩)
  have er : x2_s.toInt = (x2_s.toInt.toNat : Int) := by omega
  have hi_s : x2_s.toInt.toNat < ni := by omega
  have z12 : zix (12 + x2_s) = 12 + x2_s.toInt.toNat := zxa (c_s := 12) (a_s := 12) rfl er (by omega)
  have z20 : zix (20 + x2_s) = 20 + x2_s.toInt.toNat := zxa (c_s := 20) (a_s := 20) rfl er (by omega)
  generalize x2_s.toInt.toNat = i_s at er hi_s z12 z20
  refine ⟨fun c_s => fun _ => ?_, fun c_s => fun _ => ?_⟩
  · exact ed206 (j_s := 0) (i_s := i_s) hk hc_s hl hp (by omega) er hi_s x3 _ c_s z12 (by rw [z12]) t_s F_s 0 0 0 f0_s rfl (by omega) (fun _ _ _ _ _ _ => rfl)
  · exact ed206 (j_s := 1) (i_s := i_s) hk hc_s hl hp (by omega) er hi_s x3 _ (by omega) z20 (by rw [z20]) t_s F_s 0 0 0 f0_s rfl (by omega) (fun _ _ _ _ _ _ => rfl)
end ED_s
/-! THE START keeps the state's tie; the edge keeps it. -/
theorem hcX1_fr {f_s g_s : Nat → Nat → Int32} (e_s : ∀ o k_s, o ≠ 0 → g_s o k_s = f_s o k_s) (hc_s : hcX1 f_s = true) : hcX1 g_s = true := by
  have e20 : ∀ i_s k_s, g_s (20 + i_s) k_s = f_s (20 + i_s) k_s := fun i_s k_s => e_s _ _ (by omega)
  have e28_s : ∀ i_s k_s, g_s (28 + i_s) k_s = f_s (28 + i_s) k_s := fun i_s k_s => e_s _ _ (by omega)
  have e8 : ∀ i_s k_s, g_s (8 + i_s) k_s = f_s (8 + i_s) k_s := fun i_s k_s => e_s _ _ (by omega)
  unfold hcX1 at hc_s ⊢
  simp only [e20, e28_s, e8, e_s 7 _ (by omega), e_s 102 _ (by omega), e_s 103 _ (by omega), e_s 107 _ (by omega), e_s 108 _ (by omega)]
  exact hc_s
theorem hcX2_fr {f_s g_s : Nat → Nat → Int32} (e_s : ∀ o k_s, o ≠ 0 → g_s o k_s = f_s o k_s) (hc_s : hcX2 f_s = true) : hcX2 g_s = true := by
  unfold hcX2 at hc_s ⊢
  simp only [e_s 42 _ (by omega), e_s 102 _ (by omega), e_s 6 _ (by omega), e_s 73 _ (by omega), e_s 119 _ (by omega), e_s 1 _ (by omega), e_s 2 _ (by omega), e_s 3 _ (by omega), e_s 14 _ (by omega)]
  exact hc_s
theorem mxw_0 (w_s : Nat) : 0 ≤ mxw w_s := by
  unfold mxw
  repeat' split
  all_goals decide
theorem mx0_ : ∀ k_s, k_s < 12 → mx0.getD k_s 0 = msW k_s ∧ ls0.getD k_s 0 = lsW k_s := by decide
theorem tC_0 {f_s : Nat → Nat → Int32} (hc_s : hcX1 f_s = true) : tC 0 0 0 f_s := by
  unfold hcX1 at hc_s
  simp only [Bool.and_eq_true, List.all_eq_true, List.mem_range, decide_eq_true_eq] at hc_s
  obtain ⟨⟨a_s, b_s⟩, c_s, d_s, e_s, g_s⟩ := hc_s
  have z0 : (0 : Int32).toInt = 0 := rfl
  refine ⟨⟨by omega, by omega, by omega⟩, ⟨?_, ?_, ?_⟩, ⟨?_, ?_, ?_⟩, fun n_s w_s hw hn hi_s => ?_, fun i_s h1 h2 => e_s i_s h2, fun r_s hr => ?_⟩
  · rw [(a_s 0 (by omega)).1]
    rfl
  · rw [(a_s 1 (by omega)).1]
    rfl
  · rw [(a_s 2 (by omega)).1]
    rfl
  · rw [(a_s 0 (by omega)).2]
    rfl
  · rw [(a_s 1 (by omega)).2]
    rfl
  · rw [(a_s 2 (by omega)).2]
    rfl
  · have w8 : ¬ w_s = 8 := fun e_s => Nat.not_lt_zero _ (hi_s e_s)
    have v0_s : vB 0 0 n_s w_s (0 : Int32).toInt := by
      unfold vB
      rw [if_neg w8, z0]
      exact ⟨Int.le_refl _, mxw_0 w_s, fun _ q_s => absurd q_s (Nat.not_lt_zero _)⟩
    by_cases w2_s : w_s < 2
    · rw [cap_h w2_s] at hn
      rw [cO_h w2_s, cF_h w2_s, plc_h w2_s]
      obtain ⟨q1_s, q2_s⟩ := b_s w_s w2_s n_s hn
      rw [q1_s, q2_s]
      exact ⟨rfl, v0_s⟩
    · by_cases w9 : w_s < 9
      · rw [cap_i (by omega) w9] at hn
        rw [cO_i (by omega) w9, cF_i (by omega) w9, plc_i (by omega) w9]
        obtain ⟨q1_s, q2_s⟩ := c_s (w_s - 2) (by omega) n_s hn
        rw [q1_s, q2_s]
        exact ⟨rfl, v0_s⟩
      · rw [cap_r (by omega)] at hn
        rw [cO_r (by omega), cF_r (by omega), plc_r (by omega)]
        obtain ⟨q1_s, q2_s⟩ := d_s (w_s - 9) (by omega) n_s hn
        rw [show 2 + (w_s - 9) = w_s - 7 by omega] at q1_s
        rw [q1_s, q2_s]
        exact ⟨rfl, v0_s⟩
  · obtain ⟨⟨q1_s, q2_s⟩, q3_s, q4_s⟩ := g_s r_s hr
    rw [q1_s, q2_s, q3_s, q4_s]
    exact ⟨⟨rfl, rfl⟩, by decide, by decide, fun w_s => absurd w_s (Nat.not_lt_zero _)⟩
theorem tX_0 {h_s : zH} (r9 : h_s.2.2.2 7 9 = some 14) (r10 : h_s.2.2.2 7 10 = some 17) (h1 : hcX1 h_s.2.1 = true) (h2 : hcX2 h_s.2.1 = true) : tX h_s := by
  have c0_s := tC_0 h1
  unfold hcX2 at h2
  simp only [Bool.and_eq_true, List.all_eq_true, List.mem_range, decide_eq_true_eq] at h2
  obtain ⟨⟨⟨b1, b2⟩, b3, b4⟩, ⟨⟨d1_s, d2_s⟩, d3_s⟩, g_s, ⟨k0_s, k1_s, k2_s⟩, ⟨l1, l2⟩, l3⟩ := h2
  refine ⟨0, 0, 0, c0_s, ⟨0, 0, by omega, ?_, ?_, ?_, ?_, fun k_s q_s => absurd q_s (Nat.not_lt_zero _)⟩, Or.inl ⟨?_, ?_⟩, fun k_s q1_s q2_s => ?_, ⟨fun k_s q_s => ?_, ?_, ?_, ?_⟩, 14, 17, none, r9, r10, Or.inl ⟨rfl, rfl⟩, ⟨?_, l2⟩, ?_⟩
  · rw [b1]
    rfl
  · rw [b2]
    rfl
  · rw [b3]
    rfl
  · rw [b4]
    rfl
  · rw [d1_s]
    rfl
  · rw [d2_s]
    rfl
  · have u_s := d3_s (k_s - 2) (by omega)
    rw [show 2 + (k_s - 2) = k_s by omega] at u_s
    exact u_s
  · obtain ⟨m1_s, m2_s⟩ := mx0_ k_s q_s
    rw [← m1_s, ← m2_s]
    exact g_s k_s q_s
  · rw [k0_s]
    rfl
  · rw [k1_s]
    rfl
  · rw [k2_s]
    rfl
  · rw [l1]
    rfl
  · show (h_s.2.1 102 14).toInt = -1
    rw [l3]
    rfl
theorem tX_start {E_s : Nat → Int32} {n_s : Nat} {h_s : zH} (hc_s : hcX h_s = true) : tX (sH E_s n_s [] h_s) := by
  have sv : ∀ o k_s, o ≠ 0 → sov E_s [] h_s.2.1 o k_s = h_s.2.1 o k_s := fun o k_s ho => by rw [sov_nil ho]
  unfold hcX at hc_s
  rw [Bool.and_eq_true, Bool.and_eq_true, Bool.and_eq_true, decide_eq_true_eq, decide_eq_true_eq] at hc_s
  obtain ⟨⟨r1_s, r2⟩, c1_s, c2_s⟩ := hc_s
  exact tX_0 (h_s := sH E_s n_s [] h_s) r1_s r2 (hcX1_fr sv c1_s) (hcX2_fr sv c2_s)
section ET_s
variable {F_s : Nat} {h_s : zH} {x1_s x2_s x3 : Int32}
theorem ed_206 (hk : hKn h_s) (hx : tX h_s) : wF F_s 206 (0, [some (.ref 102), some (.int x1_s), some (.int x2_s), some (.int x3), none, none, none, none], [], h_s) (gI (fun _ h1 => tX h1)) := by
  obtain ⟨nh, ni, nr, hc_s, hh, hi_, hd_s, hz, hl⟩ := hx
  have hx : tX h_s := ⟨nh, ni, nr, hc_s, hh, hi_, hd_s, hz, hl⟩
  obtain ⟨q_s, q2_s, lw, l1, l2, l3, l4, l5⟩ := hl
  refine fr_206 (f0_s := h_s.2.1) hk (tC_M hc_s) l5 (lawR_P l5) (fun v_s f1_s g_s => ?_)
  refine tX_fr (h_s := h_s) (h1 := (h_s.1, f1_s, h_s.2.2.1, h_s.2.2.2)) (fun _ => rfl) (fun o k_s w_s => ?_) hx
  have n_s : ¬ o = 111 ∧ ¬ o = 112 ∧ ¬ (o = 102 ∧ (15 ≤ k_s ∧ k_s ≤ 19 ∨ k_s = 22 ∨ k_s = 23)) := by
    unfold inX inC inH inI inD inZ inW at w_s
    omega
  exact g_s o k_s n_s.1 n_s.2.1 n_s.2.2
theorem pr_wears (hk : hKn h_s) (hx : tX h_s) : wF F_s 102 (0, [some (.ref 6), some (.int x1_s), some (.int x2_s)], [], h_s) (gI (fun v_s h1 => wF F_s 181 (0, [some (.ref 102), some (.int x1_s), some (.int x2_s)], [], h1) (gI (fun v2 _ => v_s = v2)))) := by
  obtain ⟨nh, ni, nr, hc_s, _, _, _, _, hl⟩ := hx
  obtain ⟨q_s, q2_s, lw, l1, l2, l3, l4, l5⟩ := hl
  have hm_s : q_s = 14 ∨ q_s = 17 := by omega
  have m0_s := tC_M hc_s
  refine sp_102 (f_s := h_s.2.1) hk l1 hm_s l4 (lawR_P l5) hc_s (fun w_s => ?_) (fun i_s r_s e1_s e2_s hi_s hr f1_s g_s => ?_)
  · refine sp_181 (f_s := h_s.2.1) hk l5 (lawR_P l5) m0_s (fun _ => rfl) (fun i_s r_s e1_s e2_s hi_s hr => ?_)
    exact absurd ⟨by omega, by omega, by omega, by omega⟩ w_s
  · have g3_s : ∀ a_s k_s, 100 ≤ a_s → f1_s a_s k_s = h_s.2.1 a_s k_s := fun a_s k_s ha_s => g_s a_s k_s (by omega) (by omega) (by omega)
    have m1_s : tM nh ni nr f1_s := tM_fr (fun k_s _ _ => g3_s _ _ (by omega)) (fun k_s _ => g3_s _ _ (by omega)) m0_s
    have l6 : lawR f1_s lw := lawR_fr (g3_s _ _ (by omega)) (fun k_s _ => g3_s _ _ (by omega)) l5
    refine sp_181 (h_s := (h_s.1, f1_s, h_s.2.2.1, h_s.2.2.2)) (f_s := f1_s) hk l6 (lawR_P l6) m1_s (fun w_s => absurd ⟨by omega, by omega, by omega, by omega⟩ w_s) (fun i1_s r1_s d1_s d2_s hi1 hr1 f2_s _ => ?_)
    have ei : i1_s = i_s := by omega
    have er : r1_s = r_s := by omega
    subst ei er
    have eo : owI f1_s i1_s = owI h_s.2.1 i1_s := by
      funext k_s
      unfold owI
      rw [g3_s 103 _ (by omega), g3_s 103 _ (by omega), g3_s 103 _ (by omega)]
    rw [eo, g3_s 103 _ (by omega), g3_s 103 _ (by omega)]
end ET_s
/-! What ended runs give: printed by a program (wip/fun/sg.py). -/
/-- ColdShod$Journey.read(LColdShod$Shelf;I)V, from 0 on -/
theorem sg_48_0 {F_s : Nat} {s_s : Nat} {x2_s : Int32} {h_s : zH} {K_s : zH → Prop} (hs : s_s < 6) (hk : hKn h_s) (t_s : wF F_s 48 (7, [some (.ref 50), some (.ref (76 + 2 * s_s)), some (.int x2_s), some (.int 0), none, none], [], (h_s.1, zup h_s.2.1 50 1 0, h_s.2.2.1, h_s.2.2.2)) (gV K_s)) : wF (F_s + 1) 48 (0, [some (.ref 50), some (.ref (76 + 2 * s_s)), some (.int x2_s), none, none, none], [], h_s) (gV K_s) := by
  refine w_0 (pc := 0) (e_s := (3, 1, 0, 0, 0, .null, [])) (y_s := (1, [some (.ref _), some (.ref _), some (.int _), none, none, none], [.ref _], _)) rfl (u_ rfl) ?_
  refine w_t (pc := 1) (e_s := (0, 1, 0, 0, 0, .int 0, [])) (y_s := (2, [some (.ref _), some (.ref _), some (.int _), none, none, none], [.int _, .ref _], _)) rfl (u_ rfl) ?_
  refine w21 (pc := 2) (len_s := 3) rfl ?_
  refine w_t (pc := 5) (e_s := (0, 1, 0, 0, 0, .int 0, [])) (y_s := (6, [some (.ref _), some (.ref _), some (.int _), none, none, none], [.int _], _)) rfl (u_ rfl) ?_
  refine w_t (pc := 6) (e_s := (4, 1, 3, 0, 0, .null, [])) (y_s := (7, [some (.ref _), some (.ref _), some (.int _), some (.int _), none, none], [], _)) rfl (u_ rfl) ?_
  exact t_s
/-- ColdShod$Journey.read(LColdShod$Shelf;I)V, from 7 on -/
theorem sg_48_7 {F_s : Nat} {s_s : Nat} {x2_s x3 : Int32} {l4 l5 : Option Value} {h_s : zH} {K_s : zH → Prop} (hs : s_s < 6) (hk : hKn h_s) (t_s : (x3.toInt < 20 → ((x3.toInt < (h_s.2.1 (76 + 2 * s_s) 3).toInt → (zix x3 < 60 → ((h_s.2.2.1 (76 + 2 * s_s + 1) (zix x3)).toInt < 0 → K_s h_s) ∧ (¬ (h_s.2.2.1 (76 + 2 * s_s + 1) (zix x3)).toInt < 0 → (((h_s.2.2.1 (76 + 2 * s_s + 1) (zix x3)).toInt < x2_s.toInt → (zix x3 < 20 → wF F_s 48 (7, [some (.ref 50), some (.ref (76 + 2 * s_s)), some (.int x2_s), some (.int (x3 + 1)), some (.long (h_s.2.2.1 (76 + 2 * s_s + 1) (zix x3))), none], [], (h_s.1, zup (zup h_s.2.1 51 (zix x3) ((h_s.2.2.1 (76 + 2 * s_s + 1) (zix x3)).toInt32)) 50 1 (x3 + 1), h_s.2.2.1, h_s.2.2.2)) (gV K_s))) ∧ (¬ (h_s.2.2.1 (76 + 2 * s_s + 1) (zix x3)).toInt < x2_s.toInt → K_s h_s))))) ∧ (¬ x3.toInt < (h_s.2.1 (76 + 2 * s_s) 3).toInt → K_s h_s))) ∧ (¬ x3.toInt < 20 → K_s h_s)) : wF (F_s + 1) 48 (7, [some (.ref 50), some (.ref (76 + 2 * s_s)), some (.int x2_s), some (.int x3), l4, l5], [], h_s) (gV K_s) := by
  refine w_0 (pc := 7) (e_s := (1, 1, 3, 0, 0, .null, [])) (y_s := (8, [some (.ref _), some (.ref _), some (.int _), some (.int _), _, _], [.int _], _)) rfl (u_ rfl) ?_
  refine w_t (pc := 8) (e_s := (3, 1, 0, 0, 0, .null, [])) (y_s := (9, [some (.ref _), some (.ref _), some (.int _), some (.int _), _, _], [.ref _, .int _], _)) rfl (u_ rfl) ?_
  refine w20r (pc := 9) (len_s := 3) (q_s := 51) rfl (krq hk rfl) ?_
  refine w28 (pc := 12) (len_s := 1) rfl (hk.1 51 0 20 rfl rfl) ?_
  refine wi3 (pc := 13) (len_s := 3) (Y := 20) rfl rfl (by decide) (fun c1_s => ?_) (fun c1_s => ?_)
  · replace t_s := t_s.1 c1_s
    refine w_t (pc := 16) (e_s := (1, 1, 3, 0, 0, .null, [])) (y_s := (17, [some (.ref _), some (.ref _), some (.int _), some (.int _), _, _], [.int _], _)) rfl (u_ rfl) ?_
    refine w_t (pc := 17) (e_s := (3, 1, 1, 0, 0, .null, [])) (y_s := (18, [some (.ref _), some (.ref _), some (.int _), some (.int _), _, _], [.ref _, .int _], _)) rfl (u_ rfl) ?_
    refine w20 (pc := 18) (len_s := 3) rfl ?_
    refine wi3 (pc := 21) (len_s := 3) rfl rfl rfl (fun c2_s => ?_) (fun c2_s => ?_)
    · replace t_s := t_s.1 c2_s
      refine w_t (pc := 24) (e_s := (3, 1, 1, 0, 0, .null, [])) (y_s := (25, [some (.ref _), some (.ref _), some (.int _), some (.int _), _, _], [.ref _], _)) rfl (u_ rfl) ?_
      refine w20r (pc := 25) (len_s := 3) (q_s := 76 + 2 * s_s + 1) rfl (kshc hk hs) ?_
      refine w_t (pc := 28) (e_s := (1, 1, 3, 0, 0, .null, [])) (y_s := (29, [some (.ref _), some (.ref _), some (.int _), some (.int _), _, _], [.int _, .ref _], _)) rfl (u_ rfl) ?_
      refine w23 (pc := 29) (len_s := 1) rfl (kshz hk hs) (fun c3_s => ?_)
      replace t_s := t_s c3_s
      refine w_t (pc := 30) (e_s := (5, 2, 4, 0, 0, .null, [])) (y_s := (32, [some (.ref _), some (.ref _), some (.int _), some (.int _), some (.long _), none], [], _)) rfl (u_ rfl) ?_
      refine w_t (pc := 32) (e_s := (2, 2, 4, 0, 0, .null, [])) (y_s := (34, [some (.ref _), some (.ref _), some (.int _), some (.int _), some (.long _), none], [.long _], _)) rfl (u_ rfl) ?_
      refine w_t (pc := 34) (e_s := (0, 1, 0, 0, 0, .long 0, [])) (y_s := (35, [some (.ref _), some (.ref _), some (.int _), some (.int _), some (.long _), none], [.long _, .long _], _)) rfl (u_ rfl) ?_
      refine w_t (pc := 35) (e_s := (14, 1, 0, 0, 0, .null, [])) (y_s := (36, [some (.ref _), some (.ref _), some (.int _), some (.int _), some (.long _), none], [.int (lg_cmp _ _)], _)) rfl (u_ rfl) ?_
      refine wl2 (pc := 36) (len_s := 3) (Y := 0) rfl rfl (by decide) (fun c4_s => ?_) (fun c4_s => ?_)
      · replace t_s := t_s.1 c4_s
        exact wrV (pc := 47) (len_s := 1) rfl hk t_s
      · replace t_s := t_s.2 c4_s
        refine w_t (pc := 39) (e_s := (2, 2, 4, 0, 0, .null, [])) (y_s := (41, [some (.ref _), some (.ref _), some (.int _), some (.int _), some (.long _), none], [.long _], _)) rfl (u_ rfl) ?_
        refine w_t (pc := 41) (e_s := (1, 1, 2, 0, 0, .null, [])) (y_s := (42, [some (.ref _), some (.ref _), some (.int _), some (.int _), some (.long _), none], [.int _, .long _], _)) rfl (u_ rfl) ?_
        refine w_t (pc := 42) (e_s := (10, 1, 0, 0, 0, .null, [])) (y_s := (43, [some (.ref _), some (.ref _), some (.int _), some (.int _), some (.long _), none], [.long (Int32.toInt64 _), .long _], _)) rfl (u_ rfl) ?_
        refine w_t (pc := 43) (e_s := (14, 1, 0, 0, 0, .null, [])) (y_s := (44, [some (.ref _), some (.ref _), some (.int _), some (.int _), some (.long _), none], [.int (lg_cmp _ _)], _)) rfl (u_ rfl) ?_
        refine wl2 (pc := 44) (len_s := 3) rfl rfl (Int32.toInt_toInt64 _) (fun c5_s => ?_) (fun c5_s => ?_)
        · replace t_s := t_s.1 c5_s
          refine w_t (pc := 48) (e_s := (3, 1, 0, 0, 0, .null, [])) (y_s := (49, [some (.ref _), some (.ref _), some (.int _), some (.int _), some (.long _), none], [.ref _], _)) rfl (u_ rfl) ?_
          refine w20r (pc := 49) (len_s := 3) (q_s := 51) rfl (krq hk rfl) ?_
          refine w_t (pc := 52) (e_s := (1, 1, 3, 0, 0, .null, [])) (y_s := (53, [some (.ref _), some (.ref _), some (.int _), some (.int _), some (.long _), none], [.int _, .ref _], _)) rfl (u_ rfl) ?_
          refine w_t (pc := 53) (e_s := (2, 2, 4, 0, 0, .null, [])) (y_s := (55, [some (.ref _), some (.ref _), some (.int _), some (.int _), some (.long _), none], [.long _, .int _, .ref _], _)) rfl (u_ rfl) ?_
          refine w_t (pc := 55) (e_s := (11, 1, 0, 0, 0, .null, [])) (y_s := (56, [some (.ref _), some (.ref _), some (.int _), some (.int _), some (.long _), none], [.int (Int64.toInt32 _), .int _, .ref _], _)) rfl (u_ rfl) ?_
          refine w25 (pc := 56) (len_s := 1) rfl (hk.1 51 0 20 rfl rfl) (fun c6_s => ?_)
          replace t_s := t_s c6_s
          refine w_t (pc := 57) (e_s := (3, 1, 0, 0, 0, .null, [])) (y_s := (58, [some (.ref _), some (.ref _), some (.int _), some (.int _), some (.long _), none], [.ref _], _)) rfl (u_ rfl) ?_
          refine w_t (pc := 58) (e_s := (1, 1, 3, 0, 0, .null, [])) (y_s := (59, [some (.ref _), some (.ref _), some (.int _), some (.int _), some (.long _), none], [.int _, .ref _], _)) rfl (u_ rfl) ?_
          refine w_t (pc := 59) (e_s := (0, 1, 0, 0, 0, .int 1, [])) (y_s := (60, [some (.ref _), some (.ref _), some (.int _), some (.int _), some (.long _), none], [.int _, .int _, .ref _], _)) rfl (u_ rfl) ?_
          refine w_t (pc := 60) (e_s := (7, 1, 0, 0, 0, .null, [])) (y_s := (61, [some (.ref _), some (.ref _), some (.int _), some (.int _), some (.long _), none], [.int (_ + _), .ref _], _)) rfl (u_ rfl) ?_
          refine w21 (pc := 61) (len_s := 3) rfl ?_
          refine w_t (pc := 64) (e_s := (19, 3, 3, 0, 0, .int 1, [])) (y_s := (67, [some (.ref _), some (.ref _), some (.int _), some (.int _), some (.long _), none], [], _)) rfl (u_ rfl) ?_
          refine w_t (pc := 67) (e_s := (17, 3, 7, 0, 0, .null, [])) (y_s := (7, [some (.ref _), some (.ref _), some (.int _), some (.int _), some (.long _), none], [], _)) rfl (u_ rfl) ?_
          exact t_s
        · replace t_s := t_s.2 c5_s
          exact wrV (pc := 47) (len_s := 1) rfl hk t_s
    · replace t_s := t_s.2 c2_s
      exact wrV (pc := 70) (len_s := 1) rfl hk t_s
  · replace t_s := t_s.2 c1_s
    exact wrV (pc := 70) (len_s := 1) rfl hk t_s
/-- ColdShod$Journey.goesStage(ILColdShod$Idea;LColdShod$Country;)Z, from 0 on -/
theorem sg_50_0 {F_s : Nat} {d_s : Nat} {x1_s : Int32} {h_s : zH} {K_s : Int32 → zH → Prop} (hk : hKn h_s) (t_s : (zix x1_s < 20 → (zix (h_s.2.1 51 (zix x1_s)) < 12 → wF F_s 24 (0, [some (.ref 7), some (.ref d_s), some (.ref (28 + (zix (h_s.2.1 51 (zix x1_s))))), none, none], [], h_s) (gI (fun v3 h3 => hKn h3 → (v3.toInt < ((zup h3.2.1 50 2 ((h3.2.1 50 2) + v3)) (28 + (zix (h_s.2.1 51 (zix x1_s)))) 2).toInt → K_s 0 (h3.1, zup h3.2.1 50 2 ((h3.2.1 50 2) + v3), h3.2.2.1, h3.2.2.2)) ∧ (¬ v3.toInt < ((zup h3.2.1 50 2 ((h3.2.1 50 2) + v3)) (28 + (zix (h_s.2.1 51 (zix x1_s)))) 2).toInt → K_s 1 (h3.1, zup (zup h3.2.1 50 2 ((h3.2.1 50 2) + v3)) 50 3 ((h3.2.1 50 3) + 1), h3.2.2.1, h3.2.2.2))))))) : wF (F_s + 1) 50 (0, [some (.ref 50), some (.int x1_s), some (.ref d_s), some (.ref 7), none, none], [], h_s) (gI K_s) := by
  refine w_0 (pc := 0) (e_s := (3, 1, 3, 0, 0, .null, [])) (y_s := (1, [some (.ref _), some (.int _), some (.ref _), some (.ref _), none, none], [.ref _], _)) rfl (u_ rfl) ?_
  refine w20r (pc := 1) (len_s := 3) (q_s := 11) rfl (krq hk rfl) ?_
  refine w_t (pc := 4) (e_s := (3, 1, 0, 0, 0, .null, [])) (y_s := (5, [some (.ref _), some (.int _), some (.ref _), some (.ref _), none, none], [.ref _, .ref _], _)) rfl (u_ rfl) ?_
  refine w20r (pc := 5) (len_s := 3) (q_s := 51) rfl (krq hk rfl) ?_
  refine w_t (pc := 8) (e_s := (1, 1, 1, 0, 0, .null, [])) (y_s := (9, [some (.ref _), some (.int _), some (.ref _), some (.ref _), none, none], [.int _, .ref _, .ref _], _)) rfl (u_ rfl) ?_
  refine w22 (pc := 9) (len_s := 1) rfl (hk.1 51 0 20 rfl rfl) (fun c1_s => ?_)
  replace t_s := t_s c1_s
  refine w24 (g_s := fun j_ => 28 + j_) (pc := 10) (len_s := 1) hk rfl (hk.1 11 3 12 rfl rfl) kg11 (fun c2_s => ?_)
  replace t_s := t_s c2_s
  refine w_t (pc := 11) (e_s := (6, 2, 4, 0, 0, .null, [])) (y_s := (13, [some (.ref _), some (.int _), some (.ref _), some (.ref _), some (.ref _), none], [], _)) rfl (u_ rfl) ?_
  refine w_t (pc := 13) (e_s := (3, 1, 3, 0, 0, .null, [])) (y_s := (14, [some (.ref _), some (.int _), some (.ref _), some (.ref _), some (.ref _), none], [.ref _], _)) rfl (u_ rfl) ?_
  refine w_t (pc := 14) (e_s := (3, 1, 2, 0, 0, .null, [])) (y_s := (15, [some (.ref _), some (.int _), some (.ref _), some (.ref _), some (.ref _), none], [.ref _, .ref _], _)) rfl (u_ rfl) ?_
  refine w_t (pc := 15) (e_s := (3, 2, 4, 0, 0, .null, [])) (y_s := (17, [some (.ref _), some (.int _), some (.ref _), some (.ref _), some (.ref _), none], [.ref _, .ref _, .ref _], _)) rfl (u_ rfl) ?_
  refine wcI (pc := 17) (len_s := 3) rfl rfl (l := [some (.ref _), some (.ref _), some (.ref _), none, none]) rfl (wmI t_s (fun v3 h3 hk t_s => ?_))
  replace t_s := t_s hk
  refine w_t (pc := 20) (e_s := (4, 2, 5, 0, 0, .null, [])) (y_s := (22, [some (.ref _), some (.int _), some (.ref _), some (.ref _), some (.ref _), some (.int _)], [], _)) rfl (u_ rfl) ?_
  refine w_t (pc := 22) (e_s := (3, 1, 0, 0, 0, .null, [])) (y_s := (23, [some (.ref _), some (.int _), some (.ref _), some (.ref _), some (.ref _), some (.int _)], [.ref _], _)) rfl (u_ rfl) ?_
  refine w_t (pc := 23) (e_s := (39, 1, 0, 0, 0, .null, [])) (y_s := (24, [some (.ref _), some (.int _), some (.ref _), some (.ref _), some (.ref _), some (.int _)], [.ref _, .ref _], _)) rfl (u_ rfl) ?_
  refine w20 (pc := 24) (len_s := 3) rfl ?_
  refine w_t (pc := 27) (e_s := (1, 2, 5, 0, 0, .null, [])) (y_s := (29, [some (.ref _), some (.int _), some (.ref _), some (.ref _), some (.ref _), some (.int _)], [.int _, .int _, .ref _], _)) rfl (u_ rfl) ?_
  refine w_t (pc := 29) (e_s := (7, 1, 0, 0, 0, .null, [])) (y_s := (30, [some (.ref _), some (.int _), some (.ref _), some (.ref _), some (.ref _), some (.int _)], [.int (_ + _), .ref _], _)) rfl (u_ rfl) ?_
  refine w21 (pc := 30) (len_s := 3) rfl ?_
  refine w_t (pc := 33) (e_s := (1, 2, 5, 0, 0, .null, [])) (y_s := (35, [some (.ref _), some (.int _), some (.ref _), some (.ref _), some (.ref _), some (.int _)], [.int _], _)) rfl (u_ rfl) ?_
  refine w_t (pc := 35) (e_s := (3, 2, 4, 0, 0, .null, [])) (y_s := (37, [some (.ref _), some (.int _), some (.ref _), some (.ref _), some (.ref _), some (.int _)], [.ref _, .int _], _)) rfl (u_ rfl) ?_
  refine w20 (pc := 37) (len_s := 3) rfl ?_
  refine wi3 (pc := 40) (len_s := 3) rfl rfl rfl (fun c4_s => ?_) (fun c4_s => ?_)
  · replace t_s := t_s.1 c4_s
    refine w_t (pc := 43) (e_s := (0, 1, 0, 0, 0, .int 0, [])) (y_s := (44, [some (.ref _), some (.int _), some (.ref _), some (.ref _), some (.ref _), some (.int _)], [.int _], _)) rfl (u_ rfl) ?_
    exact wrI (pc := 44) (len_s := 1) rfl hk t_s
  · replace t_s := t_s.2 c4_s
    refine w_t (pc := 45) (e_s := (3, 1, 0, 0, 0, .null, [])) (y_s := (46, [some (.ref _), some (.int _), some (.ref _), some (.ref _), some (.ref _), some (.int _)], [.ref _], _)) rfl (u_ rfl) ?_
    refine w_t (pc := 46) (e_s := (39, 1, 0, 0, 0, .null, [])) (y_s := (47, [some (.ref _), some (.int _), some (.ref _), some (.ref _), some (.ref _), some (.int _)], [.ref _, .ref _], _)) rfl (u_ rfl) ?_
    refine w20 (pc := 47) (len_s := 3) rfl ?_
    refine w_t (pc := 50) (e_s := (0, 1, 0, 0, 0, .int 1, [])) (y_s := (51, [some (.ref _), some (.int _), some (.ref _), some (.ref _), some (.ref _), some (.int _)], [.int _, .int _, .ref _], _)) rfl (u_ rfl) ?_
    refine w_t (pc := 51) (e_s := (7, 1, 0, 0, 0, .null, [])) (y_s := (52, [some (.ref _), some (.int _), some (.ref _), some (.ref _), some (.ref _), some (.int _)], [.int (_ + _), .ref _], _)) rfl (u_ rfl) ?_
    refine w21 (pc := 52) (len_s := 3) rfl ?_
    refine w_t (pc := 55) (e_s := (0, 1, 0, 0, 0, .int 1, [])) (y_s := (56, [some (.ref _), some (.int _), some (.ref _), some (.ref _), some (.ref _), some (.int _)], [.int _], _)) rfl (u_ rfl) ?_
    exact wrI (pc := 56) (len_s := 1) rfl hk t_s
/-- ColdShod$Journey.firstWrong(LColdShod$Idea;LColdShod$Shelf;LColdShod$Country;)I, from 0 on -/
theorem sg_51_0 {F_s : Nat} {d_s s_s : Nat} {h_s : zH} {K_s : Int32 → zH → Prop} (hs : s_s < 6) (hk : hKn h_s) (t_s : wF F_s 51 (3, [some (.ref 50), some (.ref d_s), some (.ref (76 + 2 * s_s)), some (.ref 7), some (.int 0), none], [], h_s) (gI K_s)) : wF (F_s + 1) 51 (0, [some (.ref 50), some (.ref d_s), some (.ref (76 + 2 * s_s)), some (.ref 7), none, none], [], h_s) (gI K_s) := by
  refine w_0 (pc := 0) (e_s := (0, 1, 0, 0, 0, .int 0, [])) (y_s := (1, [some (.ref _), some (.ref _), some (.ref _), some (.ref _), none, none], [.int _], _)) rfl (u_ rfl) ?_
  refine w_t (pc := 1) (e_s := (4, 2, 4, 0, 0, .null, [])) (y_s := (3, [some (.ref _), some (.ref _), some (.ref _), some (.ref _), some (.int _), none], [], _)) rfl (u_ rfl) ?_
  exact t_s
/-- ColdShod$Journey.firstWrong(LColdShod$Idea;LColdShod$Shelf;LColdShod$Country;)I, from 3 on -/
theorem sg_51_3 {F_s : Nat} {d_s s_s : Nat} {x4_s : Int32} {l5 : Option Value} {h_s : zH} {K_s : Int32 → zH → Prop} (hs : s_s < 6) (hk : hKn h_s) (t_s : (x4_s.toInt < (h_s.2.1 (76 + 2 * s_s) 3).toInt → ((x4_s.toInt = 0 → wF F_s 51 (46, [some (.ref 50), some (.ref d_s), some (.ref (76 + 2 * s_s)), some (.ref 7), some (.int x4_s), some (.int 1)], [], h_s) (gI K_s)) ∧ (¬ x4_s.toInt = 0 → (((h_s.2.1 50 1).toInt < x4_s.toInt → wF F_s 51 (46, [some (.ref 50), some (.ref d_s), some (.ref (76 + 2 * s_s)), some (.ref 7), some (.int x4_s), some (.int 0)], [], h_s) (gI K_s)) ∧ (¬ (h_s.2.1 50 1).toInt < x4_s.toInt → wF F_s 50 (0, [some (.ref 50), some (.int (x4_s - 1)), some (.ref d_s), some (.ref 7), none, none], [], h_s) (gI (fun v4_s h4 => hKn h4 → (v4_s.toInt = 0 → wF F_s 51 (46, [some (.ref 50), some (.ref d_s), some (.ref (76 + 2 * s_s)), some (.ref 7), some (.int x4_s), some (.int 0)], [], h4) (gI K_s)) ∧ (¬ v4_s.toInt = 0 → wF F_s 51 (46, [some (.ref 50), some (.ref d_s), some (.ref (76 + 2 * s_s)), some (.ref 7), some (.int x4_s), some (.int 1)], [], h4) (gI K_s))))))))) ∧ (¬ x4_s.toInt < (h_s.2.1 (76 + 2 * s_s) 3).toInt → K_s (-2) h_s)) : wF (F_s + 1) 51 (3, [some (.ref 50), some (.ref d_s), some (.ref (76 + 2 * s_s)), some (.ref 7), some (.int x4_s), l5], [], h_s) (gI K_s) := by
  refine w_0 (pc := 3) (e_s := (1, 2, 4, 0, 0, .null, [])) (y_s := (5, [some (.ref _), some (.ref _), some (.ref _), some (.ref _), some (.int _), _], [.int _], _)) rfl (u_ rfl) ?_
  refine w_t (pc := 5) (e_s := (3, 1, 2, 0, 0, .null, [])) (y_s := (6, [some (.ref _), some (.ref _), some (.ref _), some (.ref _), some (.int _), _], [.ref _, .int _], _)) rfl (u_ rfl) ?_
  refine w20 (pc := 6) (len_s := 3) rfl ?_
  refine wi3 (pc := 9) (len_s := 3) rfl rfl rfl (fun c1_s => ?_) (fun c1_s => ?_)
  · replace t_s := t_s.1 c1_s
    refine w_t (pc := 12) (e_s := (1, 2, 4, 0, 0, .null, [])) (y_s := (14, [some (.ref _), some (.ref _), some (.ref _), some (.ref _), some (.int _), _], [.int _], _)) rfl (u_ rfl) ?_
    refine wq0 (pc := 14) (len_s := 3) rfl rfl (fun c2_s => ?_) (fun c2_s => ?_)
    · replace t_s := t_s.1 c2_s
      refine w_t (pc := 39) (e_s := (0, 1, 0, 0, 0, .int 1, [])) (y_s := (40, [some (.ref _), some (.ref _), some (.ref _), some (.ref _), some (.int _), _], [.int _], _)) rfl (u_ rfl) ?_
      refine w_t (pc := 40) (e_s := (17, 3, 44, 0, 0, .null, [])) (y_s := (44, [some (.ref _), some (.ref _), some (.ref _), some (.ref _), some (.int _), _], [.int _], _)) rfl (u_ rfl) ?_
      refine w_t (pc := 44) (e_s := (4, 2, 5, 0, 0, .null, [])) (y_s := (46, [some (.ref _), some (.ref _), some (.ref _), some (.ref _), some (.int _), some (.int _)], [], _)) rfl (u_ rfl) ?_
      exact t_s
    · replace t_s := t_s.2 c2_s
      refine w_t (pc := 17) (e_s := (1, 2, 4, 0, 0, .null, [])) (y_s := (19, [some (.ref _), some (.ref _), some (.ref _), some (.ref _), some (.int _), _], [.int _], _)) rfl (u_ rfl) ?_
      refine w_t (pc := 19) (e_s := (3, 1, 0, 0, 0, .null, [])) (y_s := (20, [some (.ref _), some (.ref _), some (.ref _), some (.ref _), some (.int _), _], [.ref _, .int _], _)) rfl (u_ rfl) ?_
      refine w20 (pc := 20) (len_s := 3) rfl ?_
      refine wi4 (pc := 23) (len_s := 3) rfl rfl rfl (fun c3_s => ?_) (fun c3_s => ?_)
      · replace t_s := t_s.1 c3_s
        refine w_t (pc := 43) (e_s := (0, 1, 0, 0, 0, .int 0, [])) (y_s := (44, [some (.ref _), some (.ref _), some (.ref _), some (.ref _), some (.int _), _], [.int _], _)) rfl (u_ rfl) ?_
        refine w_t (pc := 44) (e_s := (4, 2, 5, 0, 0, .null, [])) (y_s := (46, [some (.ref _), some (.ref _), some (.ref _), some (.ref _), some (.int _), some (.int _)], [], _)) rfl (u_ rfl) ?_
        exact t_s
      · replace t_s := t_s.2 c3_s
        refine w_t (pc := 26) (e_s := (3, 1, 0, 0, 0, .null, [])) (y_s := (27, [some (.ref _), some (.ref _), some (.ref _), some (.ref _), some (.int _), _], [.ref _], _)) rfl (u_ rfl) ?_
        refine w_t (pc := 27) (e_s := (1, 2, 4, 0, 0, .null, [])) (y_s := (29, [some (.ref _), some (.ref _), some (.ref _), some (.ref _), some (.int _), _], [.int _, .ref _], _)) rfl (u_ rfl) ?_
        refine w_t (pc := 29) (e_s := (0, 1, 0, 0, 0, .int 1, [])) (y_s := (30, [some (.ref _), some (.ref _), some (.ref _), some (.ref _), some (.int _), _], [.int _, .int _, .ref _], _)) rfl (u_ rfl) ?_
        refine w_t (pc := 30) (e_s := (7, 1, 0, 1, 0, .null, [])) (y_s := (31, [some (.ref _), some (.ref _), some (.ref _), some (.ref _), some (.int _), _], [.int (_ - _), .ref _], _)) rfl (u_ rfl) ?_
        refine w_t (pc := 31) (e_s := (3, 1, 1, 0, 0, .null, [])) (y_s := (32, [some (.ref _), some (.ref _), some (.ref _), some (.ref _), some (.int _), _], [.ref _, .int _, .ref _], _)) rfl (u_ rfl) ?_
        refine w_t (pc := 32) (e_s := (3, 1, 3, 0, 0, .null, [])) (y_s := (33, [some (.ref _), some (.ref _), some (.ref _), some (.ref _), some (.int _), _], [.ref _, .ref _, .int _, .ref _], _)) rfl (u_ rfl) ?_
        refine wcI (pc := 33) (len_s := 3) rfl rfl (l := [some (.ref _), some (.int _), some (.ref _), some (.ref _), none, none]) rfl (wmI t_s (fun v4_s h4 hk t_s => ?_))
        replace t_s := t_s hk
        refine wq0 (pc := 36) (len_s := 3) rfl rfl (fun c5_s => ?_) (fun c5_s => ?_)
        · replace t_s := t_s.1 c5_s
          refine w_t (pc := 43) (e_s := (0, 1, 0, 0, 0, .int 0, [])) (y_s := (44, [some (.ref _), some (.ref _), some (.ref _), some (.ref _), some (.int _), _], [.int _], _)) rfl (u_ rfl) ?_
          refine w_t (pc := 44) (e_s := (4, 2, 5, 0, 0, .null, [])) (y_s := (46, [some (.ref _), some (.ref _), some (.ref _), some (.ref _), some (.int _), some (.int _)], [], _)) rfl (u_ rfl) ?_
          exact t_s
        · replace t_s := t_s.2 c5_s
          refine w_t (pc := 39) (e_s := (0, 1, 0, 0, 0, .int 1, [])) (y_s := (40, [some (.ref _), some (.ref _), some (.ref _), some (.ref _), some (.int _), _], [.int _], _)) rfl (u_ rfl) ?_
          refine w_t (pc := 40) (e_s := (17, 3, 44, 0, 0, .null, [])) (y_s := (44, [some (.ref _), some (.ref _), some (.ref _), some (.ref _), some (.int _), _], [.int _], _)) rfl (u_ rfl) ?_
          refine w_t (pc := 44) (e_s := (4, 2, 5, 0, 0, .null, [])) (y_s := (46, [some (.ref _), some (.ref _), some (.ref _), some (.ref _), some (.int _), some (.int _)], [], _)) rfl (u_ rfl) ?_
          exact t_s
  · replace t_s := t_s.2 c1_s
    refine w_t (pc := 76) (e_s := (0, 2, 0, 0, 0, .int (-2), [])) (y_s := (78, [some (.ref _), some (.ref _), some (.ref _), some (.ref _), some (.int _), _], [.int _], _)) rfl (u_ rfl) ?_
    exact wrI (pc := 78) (len_s := 1) rfl hk t_s
/-- ColdShod$Journey.firstWrong(LColdShod$Idea;LColdShod$Shelf;LColdShod$Country;)I, from 46 on -/
theorem sg_51_46 {F_s : Nat} {d_s s_s : Nat} {x4_s x5_s : Int32} {h_s : zH} {K_s : Int32 → zH → Prop} (hs : s_s < 6) (hk : hKn h_s) (t_s : (x5_s.toInt = 0 → K_s x4_s h_s) ∧ (¬ x5_s.toInt = 0 → (zix x4_s < 60 → ((h_s.2.2.1 (76 + 2 * s_s + 1) (zix x4_s)).toInt = (h_s.2.1 d_s 2).toInt → wF F_s 51 (3, [some (.ref 50), some (.ref d_s), some (.ref (76 + 2 * s_s)), some (.ref 7), some (.int (x4_s + 1)), some (.int x5_s)], [], h_s) (gI K_s)) ∧ (¬ (h_s.2.2.1 (76 + 2 * s_s + 1) (zix x4_s)).toInt = (h_s.2.1 d_s 2).toInt → K_s x4_s h_s)))) : wF (F_s + 1) 51 (46, [some (.ref 50), some (.ref d_s), some (.ref (76 + 2 * s_s)), some (.ref 7), some (.int x4_s), some (.int x5_s)], [], h_s) (gI K_s) := by
  refine w_0 (pc := 46) (e_s := (1, 2, 5, 0, 0, .null, [])) (y_s := (48, [some (.ref _), some (.ref _), some (.ref _), some (.ref _), some (.int _), some (.int _)], [.int _], _)) rfl (u_ rfl) ?_
  refine wq0 (pc := 48) (len_s := 3) rfl rfl (fun c1_s => ?_) (fun c1_s => ?_)
  · replace t_s := t_s.1 c1_s
    refine w_t (pc := 67) (e_s := (1, 2, 4, 0, 0, .null, [])) (y_s := (69, [some (.ref _), some (.ref _), some (.ref _), some (.ref _), some (.int _), some (.int _)], [.int _], _)) rfl (u_ rfl) ?_
    exact wrI (pc := 69) (len_s := 1) rfl hk t_s
  · replace t_s := t_s.2 c1_s
    refine w_t (pc := 51) (e_s := (3, 1, 2, 0, 0, .null, [])) (y_s := (52, [some (.ref _), some (.ref _), some (.ref _), some (.ref _), some (.int _), some (.int _)], [.ref _], _)) rfl (u_ rfl) ?_
    refine w20r (pc := 52) (len_s := 3) (q_s := 76 + 2 * s_s + 1) rfl (kshc hk hs) ?_
    refine w_t (pc := 55) (e_s := (1, 2, 4, 0, 0, .null, [])) (y_s := (57, [some (.ref _), some (.ref _), some (.ref _), some (.ref _), some (.int _), some (.int _)], [.int _, .ref _], _)) rfl (u_ rfl) ?_
    refine w23 (pc := 57) (len_s := 1) rfl (kshz hk hs) (fun c2_s => ?_)
    replace t_s := t_s c2_s
    refine w_t (pc := 58) (e_s := (3, 1, 1, 0, 0, .null, [])) (y_s := (59, [some (.ref _), some (.ref _), some (.ref _), some (.ref _), some (.int _), some (.int _)], [.ref _, .long _], _)) rfl (u_ rfl) ?_
    refine w20 (pc := 59) (len_s := 3) rfl ?_
    refine w_t (pc := 62) (e_s := (10, 1, 0, 0, 0, .null, [])) (y_s := (63, [some (.ref _), some (.ref _), some (.ref _), some (.ref _), some (.int _), some (.int _)], [.long (Int32.toInt64 _), .long _], _)) rfl (u_ rfl) ?_
    refine w_t (pc := 63) (e_s := (14, 1, 0, 0, 0, .null, [])) (y_s := (64, [some (.ref _), some (.ref _), some (.ref _), some (.ref _), some (.int _), some (.int _)], [.int (lg_cmp _ _)], _)) rfl (u_ rfl) ?_
    refine wl0 (pc := 64) (len_s := 3) rfl rfl (Int32.toInt_toInt64 _) (fun c3_s => ?_) (fun c3_s => ?_)
    · replace t_s := t_s.1 c3_s
      refine w_t (pc := 70) (e_s := (19, 3, 4, 0, 0, .int 1, [])) (y_s := (73, [some (.ref _), some (.ref _), some (.ref _), some (.ref _), some (.int _), some (.int _)], [], _)) rfl (u_ rfl) ?_
      refine w_t (pc := 73) (e_s := (17, 3, 3, 0, 0, .null, [])) (y_s := (3, [some (.ref _), some (.ref _), some (.ref _), some (.ref _), some (.int _), some (.int _)], [], _)) rfl (u_ rfl) ?_
      exact t_s
    · replace t_s := t_s.2 c3_s
      refine w_t (pc := 67) (e_s := (1, 2, 4, 0, 0, .null, [])) (y_s := (69, [some (.ref _), some (.ref _), some (.ref _), some (.ref _), some (.int _), some (.int _)], [.int _], _)) rfl (u_ rfl) ?_
      exact wrI (pc := 69) (len_s := 1) rfl hk t_s
/-- ColdShod$Journey.allGone(LColdShod$Idea;LColdShod$Country;)Z, from 0 on -/
theorem sg_49_0 {F_s : Nat} {d_s : Nat} {h_s : zH} {K_s : Int32 → zH → Prop} (hk : hKn h_s) (t_s : wF F_s 49 (12, [some (.ref 50), some (.ref d_s), some (.ref 7), some (.int 0)], [], (h_s.1, zup (zup h_s.2.1 50 2 0) 50 3 0, h_s.2.2.1, h_s.2.2.2)) (gI K_s)) : wF (F_s + 1) 49 (0, [some (.ref 50), some (.ref d_s), some (.ref 7), none], [], h_s) (gI K_s) := by
  refine w_0 (pc := 0) (e_s := (3, 1, 0, 0, 0, .null, [])) (y_s := (1, [some (.ref _), some (.ref _), some (.ref _), none], [.ref _], _)) rfl (u_ rfl) ?_
  refine w_t (pc := 1) (e_s := (0, 1, 0, 0, 0, .int 0, [])) (y_s := (2, [some (.ref _), some (.ref _), some (.ref _), none], [.int _, .ref _], _)) rfl (u_ rfl) ?_
  refine w21 (pc := 2) (len_s := 3) rfl ?_
  refine w_t (pc := 5) (e_s := (3, 1, 0, 0, 0, .null, [])) (y_s := (6, [some (.ref _), some (.ref _), some (.ref _), none], [.ref _], _)) rfl (u_ rfl) ?_
  refine w_t (pc := 6) (e_s := (0, 1, 0, 0, 0, .int 0, [])) (y_s := (7, [some (.ref _), some (.ref _), some (.ref _), none], [.int _, .ref _], _)) rfl (u_ rfl) ?_
  refine w21 (pc := 7) (len_s := 3) rfl ?_
  refine w_t (pc := 10) (e_s := (0, 1, 0, 0, 0, .int 0, [])) (y_s := (11, [some (.ref _), some (.ref _), some (.ref _), none], [.int _], _)) rfl (u_ rfl) ?_
  refine w_t (pc := 11) (e_s := (4, 1, 3, 0, 0, .null, [])) (y_s := (12, [some (.ref _), some (.ref _), some (.ref _), some (.int _)], [], _)) rfl (u_ rfl) ?_
  exact t_s
/-- ColdShod$Journey.allGone(LColdShod$Idea;LColdShod$Country;)Z, from 12 on -/
theorem sg_49_12 {F_s : Nat} {d_s : Nat} {x3 : Int32} {h_s : zH} {K_s : Int32 → zH → Prop} (hk : hKn h_s) (t_s : (x3.toInt < (h_s.2.1 50 1).toInt → wF F_s 50 (0, [some (.ref 50), some (.int x3), some (.ref d_s), some (.ref 7), none, none], [], h_s) (gI (fun v2 h2 => hKn h2 → (v2.toInt = 0 → K_s 0 h2) ∧ (¬ v2.toInt = 0 → wF F_s 49 (12, [some (.ref 50), some (.ref d_s), some (.ref 7), some (.int (x3 + 1))], [], h2) (gI K_s))))) ∧ (¬ x3.toInt < (h_s.2.1 50 1).toInt → K_s 1 h_s)) : wF (F_s + 1) 49 (12, [some (.ref 50), some (.ref d_s), some (.ref 7), some (.int x3)], [], h_s) (gI K_s) := by
  refine w_0 (pc := 12) (e_s := (1, 1, 3, 0, 0, .null, [])) (y_s := (13, [some (.ref _), some (.ref _), some (.ref _), some (.int _)], [.int _], _)) rfl (u_ rfl) ?_
  refine w_t (pc := 13) (e_s := (3, 1, 0, 0, 0, .null, [])) (y_s := (14, [some (.ref _), some (.ref _), some (.ref _), some (.int _)], [.ref _, .int _], _)) rfl (u_ rfl) ?_
  refine w20 (pc := 14) (len_s := 3) rfl ?_
  refine wi3 (pc := 17) (len_s := 3) rfl rfl rfl (fun c1_s => ?_) (fun c1_s => ?_)
  · replace t_s := t_s.1 c1_s
    refine w_t (pc := 20) (e_s := (3, 1, 0, 0, 0, .null, [])) (y_s := (21, [some (.ref _), some (.ref _), some (.ref _), some (.int _)], [.ref _], _)) rfl (u_ rfl) ?_
    refine w_t (pc := 21) (e_s := (1, 1, 3, 0, 0, .null, [])) (y_s := (22, [some (.ref _), some (.ref _), some (.ref _), some (.int _)], [.int _, .ref _], _)) rfl (u_ rfl) ?_
    refine w_t (pc := 22) (e_s := (3, 1, 1, 0, 0, .null, [])) (y_s := (23, [some (.ref _), some (.ref _), some (.ref _), some (.int _)], [.ref _, .int _, .ref _], _)) rfl (u_ rfl) ?_
    refine w_t (pc := 23) (e_s := (3, 1, 2, 0, 0, .null, [])) (y_s := (24, [some (.ref _), some (.ref _), some (.ref _), some (.int _)], [.ref _, .ref _, .int _, .ref _], _)) rfl (u_ rfl) ?_
    refine wcI (pc := 24) (len_s := 3) rfl rfl (l := [some (.ref _), some (.int _), some (.ref _), some (.ref _), none, none]) rfl (wmI t_s (fun v2 h2 hk t_s => ?_))
    replace t_s := t_s hk
    refine wq1 (pc := 27) (len_s := 3) rfl rfl (fun c3_s => ?_) (fun c3_s => ?_)
    · replace t_s := t_s.1 c3_s
      refine w_t (pc := 30) (e_s := (0, 1, 0, 0, 0, .int 0, [])) (y_s := (31, [some (.ref _), some (.ref _), some (.ref _), some (.int _)], [.int _], _)) rfl (u_ rfl) ?_
      exact wrI (pc := 31) (len_s := 1) rfl hk t_s
    · replace t_s := t_s.2 c3_s
      refine w_t (pc := 32) (e_s := (19, 3, 3, 0, 0, .int 1, [])) (y_s := (35, [some (.ref _), some (.ref _), some (.ref _), some (.int _)], [], _)) rfl (u_ rfl) ?_
      refine w_t (pc := 35) (e_s := (17, 3, 12, 0, 0, .null, [])) (y_s := (12, [some (.ref _), some (.ref _), some (.ref _), some (.int _)], [], _)) rfl (u_ rfl) ?_
      exact t_s
  · replace t_s := t_s.2 c1_s
    refine w_t (pc := 38) (e_s := (0, 1, 0, 0, 0, .int 1, [])) (y_s := (39, [some (.ref _), some (.ref _), some (.ref _), some (.int _)], [.int _], _)) rfl (u_ rfl) ?_
    exact wrI (pc := 39) (len_s := 1) rfl hk t_s
/-- ColdShod.refusalOfBytes(LColdShod$Shelf;)I, from 0 on -/
theorem sg_140_0 {F_s : Nat} {s_s : Nat} {h_s : zH} {K_s : Int32 → zH → Prop} (hs : s_s < 6) (hk : hKn h_s) (t_s : ((h_s.2.1 (76 + 2 * s_s) 0).toInt = 0 → K_s (-11) h_s) ∧ (¬ (h_s.2.1 (76 + 2 * s_s) 0).toInt = 0 → (((h_s.2.1 (76 + 2 * s_s) 0).toInt = 2 → (((h_s.2.1 (76 + 2 * s_s) 2).toInt = 0 → K_s 0 h_s) ∧ (¬ (h_s.2.1 (76 + 2 * s_s) 2).toInt = 0 → K_s (-12) h_s))) ∧ (¬ (h_s.2.1 (76 + 2 * s_s) 0).toInt = 2 → K_s (-12) h_s)))) : wF (F_s + 1) 140 (0, [some (.ref (76 + 2 * s_s))], [], h_s) (gI K_s) := by
  refine w_0 (pc := 0) (e_s := (3, 1, 0, 0, 0, .null, [])) (y_s := (1, [some (.ref _)], [.ref _], _)) rfl (u_ rfl) ?_
  refine w20 (pc := 1) (len_s := 3) rfl ?_
  refine wq1 (pc := 4) (len_s := 3) rfl rfl (fun c1_s => ?_) (fun c1_s => ?_)
  · replace t_s := t_s.1 c1_s
    refine w_t (pc := 7) (e_s := (0, 2, 0, 0, 0, .int (-11), [])) (y_s := (9, [some (.ref _)], [.int _], _)) rfl (u_ rfl) ?_
    exact wrI (pc := 9) (len_s := 1) rfl hk t_s
  · replace t_s := t_s.2 c1_s
    refine w_t (pc := 10) (e_s := (3, 1, 0, 0, 0, .null, [])) (y_s := (11, [some (.ref _)], [.ref _], _)) rfl (u_ rfl) ?_
    refine wcI (pc := 11) (len_s := 3) rfl rfl (l := [some (.ref _)]) rfl ?_
    refine w_t (pc := 0) (e_s := (3, 1, 0, 0, 0, .null, [])) (y_s := (1, [some (.ref _)], [.ref _], _)) rfl (u_ rfl) ?_
    refine w20 (pc := 1) (len_s := 3) rfl ?_
    refine w_t (pc := 4) (e_s := (0, 1, 0, 0, 0, .int 2, [])) (y_s := (5, [some (.ref _)], [.int _, .int _], _)) rfl (u_ rfl) ?_
    refine wi1 (pc := 5) (len_s := 3) (Y := 2) rfl rfl (by decide) (fun c2_s => ?_) (fun c2_s => ?_)
    · replace t_s := t_s.1 c2_s
      refine w_t (pc := 8) (e_s := (3, 1, 0, 0, 0, .null, [])) (y_s := (9, [some (.ref _)], [.ref _], _)) rfl (u_ rfl) ?_
      refine w20 (pc := 9) (len_s := 3) rfl ?_
      refine wq1 (pc := 12) (len_s := 3) rfl rfl (fun c3_s => ?_) (fun c3_s => ?_)
      · replace t_s := t_s.1 c3_s
        refine w_t (pc := 15) (e_s := (0, 1, 0, 0, 0, .int 1, [])) (y_s := (16, [some (.ref _)], [.int _], _)) rfl (u_ rfl) ?_
        refine w_t (pc := 16) (e_s := (17, 3, 20, 0, 0, .null, [])) (y_s := (20, [some (.ref _)], [.int _], _)) rfl (u_ rfl) ?_
        refine wrI (pc := 20) (len_s := 1) rfl hk ?_
        show wF _ 140 (14, [some (.ref _)], [.int _], _) _
        refine w_t (pc := 14) (e_s := (15, 3, 21, 0, 0, .null, [])) (y_s := (17, [some (.ref _)], [], _)) rfl (u_ rfl) ?_
        refine w_t (pc := 17) (e_s := (0, 1, 0, 0, 0, .int 0, [])) (y_s := (18, [some (.ref _)], [.int _], _)) rfl (u_ rfl) ?_
        refine w_t (pc := 18) (e_s := (17, 3, 23, 0, 0, .null, [])) (y_s := (23, [some (.ref _)], [.int _], _)) rfl (u_ rfl) ?_
        exact wrI (pc := 23) (len_s := 1) rfl hk t_s
      · replace t_s := t_s.2 c3_s
        refine w_t (pc := 19) (e_s := (0, 1, 0, 0, 0, .int 0, [])) (y_s := (20, [some (.ref _)], [.int _], _)) rfl (u_ rfl) ?_
        refine wrI (pc := 20) (len_s := 1) rfl hk ?_
        show wF _ 140 (14, [some (.ref _)], [.int _], _) _
        refine w_t (pc := 14) (e_s := (15, 3, 21, 0, 0, .null, [])) (y_s := (21, [some (.ref _)], [], _)) rfl (u_ rfl) ?_
        refine w_t (pc := 21) (e_s := (0, 2, 0, 0, 0, .int (-12), [])) (y_s := (23, [some (.ref _)], [.int _], _)) rfl (u_ rfl) ?_
        exact wrI (pc := 23) (len_s := 1) rfl hk t_s
    · replace t_s := t_s.2 c2_s
      refine w_t (pc := 19) (e_s := (0, 1, 0, 0, 0, .int 0, [])) (y_s := (20, [some (.ref _)], [.int _], _)) rfl (u_ rfl) ?_
      refine wrI (pc := 20) (len_s := 1) rfl hk ?_
      show wF _ 140 (14, [some (.ref _)], [.int _], _) _
      refine w_t (pc := 14) (e_s := (15, 3, 21, 0, 0, .null, [])) (y_s := (21, [some (.ref _)], [], _)) rfl (u_ rfl) ?_
      refine w_t (pc := 21) (e_s := (0, 2, 0, 0, 0, .int (-12), [])) (y_s := (23, [some (.ref _)], [.int _], _)) rfl (u_ rfl) ?_
      exact wrI (pc := 23) (len_s := 1) rfl hk t_s
/-- ColdShod.thoughtOf(I)LColdShod$Idea;, from 0 on -/
theorem sg_139_0 {F_s : Nat} {x1_s : Int32} {h_s : zH} {K_s : Nat → zH → Prop} (hk : hKn h_s) (t_s : (zix x1_s < 8 → wF F_s 35 (0, [some (.ref 88), some (.ref (20 + (zix x1_s)))], [], h_s) (gV (fun h3 => hKn h3 → K_s 88 h3)))) : wF (F_s + 1) 139 (0, [some (.ref 6), some (.int x1_s)], [], h_s) (gR K_s) := by
  refine w_0 (pc := 0) (e_s := (3, 1, 0, 0, 0, .null, [])) (y_s := (1, [some (.ref _), some (.int _)], [.ref _], _)) rfl (u_ rfl) ?_
  refine w20r (pc := 1) (len_s := 3) (q_s := 72) rfl (krq hk rfl) ?_
  refine w_t (pc := 4) (e_s := (0, 1, 0, 0, 0, .int 0, [])) (y_s := (5, [some (.ref _), some (.int _)], [.int _, .ref _], _)) rfl (u_ rfl) ?_
  refine w24 (g_s := fun j_ => 88 + j_) (pc := 5) (len_s := 1) hk rfl (hk.1 72 2 6 rfl rfl) kg72 (fun c1_s => ?_)
  show wF _ _ (_, _, [.ref 88], _) _
  refine w_t (pc := 6) (e_s := (3, 1, 0, 0, 0, .null, [])) (y_s := (7, [some (.ref _), some (.int _)], [.ref _, .ref _], _)) rfl (u_ rfl) ?_
  refine w20r (pc := 7) (len_s := 3) (q_s := 7) rfl (krq hk rfl) ?_
  refine w20r (pc := 10) (len_s := 3) (q_s := 10) rfl (krq hk rfl) ?_
  refine w_t (pc := 13) (e_s := (1, 1, 1, 0, 0, .null, [])) (y_s := (14, [some (.ref _), some (.int _)], [.int _, .ref _, .ref _], _)) rfl (u_ rfl) ?_
  refine w24 (g_s := fun j_ => 20 + j_) (pc := 14) (len_s := 1) hk rfl (hk.1 10 2 8 rfl rfl) kg10 (fun c2_s => ?_)
  replace t_s := t_s c2_s
  refine wcV (pc := 15) (len_s := 3) rfl rfl (l := [some (.ref _), some (.ref _)]) rfl (wmV t_s (fun h3 hk t_s => ?_))
  replace t_s := t_s hk
  refine w_t (pc := 18) (e_s := (3, 1, 0, 0, 0, .null, [])) (y_s := (19, [some (.ref _), some (.int _)], [.ref _], _)) rfl (u_ rfl) ?_
  refine w20r (pc := 19) (len_s := 3) (q_s := 72) rfl (krq hk rfl) ?_
  refine w_t (pc := 22) (e_s := (0, 1, 0, 0, 0, .int 0, [])) (y_s := (23, [some (.ref _), some (.int _)], [.int _, .ref _], _)) rfl (u_ rfl) ?_
  refine w24 (g_s := fun j_ => 88 + j_) (pc := 23) (len_s := 1) hk rfl (hk.1 72 2 6 rfl rfl) kg72 (fun c4_s => ?_)
  show wF _ _ (_, _, [.ref 88], _) _
  exact wrR (pc := 24) (len_s := 1) rfl hk t_s
/-- ColdShod.judge(II)I, from 0 on -/
theorem sg_110_0 {F_s : Nat} {x1_s : Int32} {x2_s : Int32} {h_s : zH} {K_s : Int32 → zH → Prop} (hk : hKn h_s) (t_s : (x1_s.toInt < 0 → K_s (-1) h_s) ∧ (¬ x1_s.toInt < 0 → (((x1_s / 10).toInt < 0 → K_s (-1) h_s) ∧ (¬ (x1_s / 10).toInt < 0 → (((x1_s / 10).toInt < 6 → (((x1_s - x1_s / 10 * 10).toInt < 0 → K_s (-1) h_s) ∧ (¬ (x1_s - x1_s / 10 * 10).toInt < 0 → (((x1_s - x1_s / 10 * 10).toInt < 6 → ((x2_s.toInt < 0 → K_s (-1) h_s) ∧ (¬ x2_s.toInt < 0 → ((x2_s.toInt < (h_s.2.1 7 7).toInt → (zix (x1_s / 10) < 6 → wF F_s 140 (0, [some (.ref (76 + 2 * (zix (x1_s / 10))))], [], h_s) (gI (fun v9 h9 => hKn h9 → (v9.toInt = 0 → (zix (x1_s - x1_s / 10 * 10) < 6 → wF F_s 140 (0, [some (.ref (76 + 2 * (zix (x1_s - x1_s / 10 * 10))))], [], h9) (gI (fun v12 h12 => hKn h12 → (v12.toInt = 0 → wF F_s 48 (0, [some (.ref 50), some (.ref (76 + 2 * (zix (x1_s / 10)))), some (.int (h12.2.1 7 8)), none, none, none], [], h12) (gV (fun h15 => hKn h15 → wF F_s 139 (0, [some (.ref 6), some (.int x2_s)], [], h15) (gR (fun v16 h16_s => hKn h16_s → wF F_s 51 (0, [some (.ref 50), some (.ref v16), some (.ref (76 + 2 * (zix (x1_s - x1_s / 10 * 10)))), some (.ref 7), none, none], [], h16_s) (gI (fun v18 h18 => hKn h18 → K_s v18 h18))))))) ∧ (¬ v12.toInt = 0 → K_s v12 h12))))) ∧ (¬ v9.toInt = 0 → K_s v9 h9))))) ∧ (¬ x2_s.toInt < (h_s.2.1 7 7).toInt → K_s (-1) h_s))))) ∧ (¬ (x1_s - x1_s / 10 * 10).toInt < 6 → K_s (-1) h_s))))) ∧ (¬ (x1_s / 10).toInt < 6 → K_s (-1) h_s)))))) : wF (F_s + 1) 110 (0, [some (.ref 6), some (.int x1_s), some (.int x2_s), none], [], h_s) (gI K_s) := by
  refine w_0 (pc := 0) (e_s := (1, 1, 1, 0, 0, .null, [])) (y_s := (1, [some (.ref _), some (.int _), some (.int _), none], [.int _], _)) rfl (u_ rfl) ?_
  refine wcI (pc := 1) (len_s := 3) rfl rfl (l := [some (.int _)]) rfl ?_
  refine w_t (pc := 0) (e_s := (1, 1, 0, 0, 0, .null, [])) (y_s := (1, [some (.int _)], [.int _], _)) rfl (u_ rfl) ?_
  refine wq2 (pc := 1) (len_s := 3) rfl rfl (fun c1_s => ?_) (fun c1_s => ?_)
  · replace t_s := t_s.1 c1_s
    refine w_t (pc := 28) (e_s := (0, 1, 0, 0, 0, .int 0, [])) (y_s := (29, [some (.int _)], [.int _], _)) rfl (u_ rfl) ?_
    refine wrI (pc := 29) (len_s := 1) rfl hk ?_
    show wF _ 110 (4, [some (.ref _), some (.int _), some (.int _), none], [.int _], _) _
    refine w_t (pc := 4) (e_s := (15, 3, 18, 0, 0, .null, [])) (y_s := (18, [some (.ref _), some (.int _), some (.int _), none], [], _)) rfl (u_ rfl) ?_
    refine w_t (pc := 18) (e_s := (0, 1, 0, 0, 0, .int (-1), [])) (y_s := (19, [some (.ref _), some (.int _), some (.int _), none], [.int _], _)) rfl (u_ rfl) ?_
    exact wrI (pc := 19) (len_s := 1) rfl hk t_s
  · replace t_s := t_s.2 c1_s
    refine w_t (pc := 4) (e_s := (1, 1, 0, 0, 0, .null, [])) (y_s := (5, [some (.int _)], [.int _], _)) rfl (u_ rfl) ?_
    refine w_t (pc := 5) (e_s := (0, 2, 0, 0, 0, .int 10, [])) (y_s := (7, [some (.int _)], [.int _, .int _], _)) rfl (u_ rfl) ?_
    refine w8 (pc := 7) (len_s := 1) rfl ?_
    refine wcI (pc := 8) (len_s := 3) rfl rfl (l := [some (.int _)]) rfl ?_
    refine w_t (pc := 0) (e_s := (1, 1, 0, 0, 0, .null, [])) (y_s := (1, [some (.int _)], [.int _], _)) rfl (u_ rfl) ?_
    refine wq2 (pc := 1) (len_s := 3) rfl rfl (fun c2_s => ?_) (fun c2_s => ?_)
    · replace t_s := t_s.1 c2_s
      refine w_t (pc := 14) (e_s := (0, 1, 0, 0, 0, .int 0, [])) (y_s := (15, [some (.int _)], [.int _], _)) rfl (u_ rfl) ?_
      refine wrI (pc := 15) (len_s := 1) rfl hk ?_
      show wF _ 136 (11, [some (.int _)], [.int _], _) _
      refine w_t (pc := 11) (e_s := (15, 3, 28, 0, 0, .null, [])) (y_s := (28, [some (.int _)], [], _)) rfl (u_ rfl) ?_
      refine w_t (pc := 28) (e_s := (0, 1, 0, 0, 0, .int 0, [])) (y_s := (29, [some (.int _)], [.int _], _)) rfl (u_ rfl) ?_
      refine wrI (pc := 29) (len_s := 1) rfl hk ?_
      show wF _ 110 (4, [some (.ref _), some (.int _), some (.int _), none], [.int _], _) _
      refine w_t (pc := 4) (e_s := (15, 3, 18, 0, 0, .null, [])) (y_s := (18, [some (.ref _), some (.int _), some (.int _), none], [], _)) rfl (u_ rfl) ?_
      refine w_t (pc := 18) (e_s := (0, 1, 0, 0, 0, .int (-1), [])) (y_s := (19, [some (.ref _), some (.int _), some (.int _), none], [.int _], _)) rfl (u_ rfl) ?_
      exact wrI (pc := 19) (len_s := 1) rfl hk t_s
    · replace t_s := t_s.2 c2_s
      refine w_t (pc := 4) (e_s := (1, 1, 0, 0, 0, .null, [])) (y_s := (5, [some (.int _)], [.int _], _)) rfl (u_ rfl) ?_
      refine w_t (pc := 5) (e_s := (0, 2, 0, 0, 0, .int 6, [])) (y_s := (7, [some (.int _)], [.int _, .int _], _)) rfl (u_ rfl) ?_
      refine wi3 (pc := 7) (len_s := 3) (Y := 6) rfl rfl (by decide) (fun c3_s => ?_) (fun c3_s => ?_)
      · replace t_s := t_s.1 c3_s
        refine w_t (pc := 10) (e_s := (0, 1, 0, 0, 0, .int 1, [])) (y_s := (11, [some (.int _)], [.int _], _)) rfl (u_ rfl) ?_
        refine w_t (pc := 11) (e_s := (17, 3, 15, 0, 0, .null, [])) (y_s := (15, [some (.int _)], [.int _], _)) rfl (u_ rfl) ?_
        refine wrI (pc := 15) (len_s := 1) rfl hk ?_
        show wF _ 136 (11, [some (.int _)], [.int _], _) _
        refine w_t (pc := 11) (e_s := (15, 3, 28, 0, 0, .null, [])) (y_s := (14, [some (.int _)], [], _)) rfl (u_ rfl) ?_
        refine w_t (pc := 14) (e_s := (1, 1, 0, 0, 0, .null, [])) (y_s := (15, [some (.int _)], [.int _], _)) rfl (u_ rfl) ?_
        refine w_t (pc := 15) (e_s := (0, 2, 0, 0, 0, .int 10, [])) (y_s := (17, [some (.int _)], [.int _, .int _], _)) rfl (u_ rfl) ?_
        refine w8m (pc := 17) (len_s := 1) rfl ?_
        refine wcI (pc := 18) (len_s := 3) rfl rfl (l := [some (.int _)]) rfl ?_
        refine w_t (pc := 0) (e_s := (1, 1, 0, 0, 0, .null, [])) (y_s := (1, [some (.int _)], [.int _], _)) rfl (u_ rfl) ?_
        refine wq2 (pc := 1) (len_s := 3) rfl rfl (fun c4_s => ?_) (fun c4_s => ?_)
        · replace t_s := t_s.1 c4_s
          refine w_t (pc := 14) (e_s := (0, 1, 0, 0, 0, .int 0, [])) (y_s := (15, [some (.int _)], [.int _], _)) rfl (u_ rfl) ?_
          refine wrI (pc := 15) (len_s := 1) rfl hk ?_
          show wF _ 136 (21, [some (.int _)], [.int _], _) _
          refine w_t (pc := 21) (e_s := (15, 3, 28, 0, 0, .null, [])) (y_s := (28, [some (.int _)], [], _)) rfl (u_ rfl) ?_
          refine w_t (pc := 28) (e_s := (0, 1, 0, 0, 0, .int 0, [])) (y_s := (29, [some (.int _)], [.int _], _)) rfl (u_ rfl) ?_
          refine wrI (pc := 29) (len_s := 1) rfl hk ?_
          show wF _ 110 (4, [some (.ref _), some (.int _), some (.int _), none], [.int _], _) _
          refine w_t (pc := 4) (e_s := (15, 3, 18, 0, 0, .null, [])) (y_s := (18, [some (.ref _), some (.int _), some (.int _), none], [], _)) rfl (u_ rfl) ?_
          refine w_t (pc := 18) (e_s := (0, 1, 0, 0, 0, .int (-1), [])) (y_s := (19, [some (.ref _), some (.int _), some (.int _), none], [.int _], _)) rfl (u_ rfl) ?_
          exact wrI (pc := 19) (len_s := 1) rfl hk t_s
        · replace t_s := t_s.2 c4_s
          refine w_t (pc := 4) (e_s := (1, 1, 0, 0, 0, .null, [])) (y_s := (5, [some (.int _)], [.int _], _)) rfl (u_ rfl) ?_
          refine w_t (pc := 5) (e_s := (0, 2, 0, 0, 0, .int 6, [])) (y_s := (7, [some (.int _)], [.int _, .int _], _)) rfl (u_ rfl) ?_
          refine wi3 (pc := 7) (len_s := 3) (Y := 6) rfl rfl (by decide) (fun c5_s => ?_) (fun c5_s => ?_)
          · replace t_s := t_s.1 c5_s
            refine w_t (pc := 10) (e_s := (0, 1, 0, 0, 0, .int 1, [])) (y_s := (11, [some (.int _)], [.int _], _)) rfl (u_ rfl) ?_
            refine w_t (pc := 11) (e_s := (17, 3, 15, 0, 0, .null, [])) (y_s := (15, [some (.int _)], [.int _], _)) rfl (u_ rfl) ?_
            refine wrI (pc := 15) (len_s := 1) rfl hk ?_
            show wF _ 136 (21, [some (.int _)], [.int _], _) _
            refine w_t (pc := 21) (e_s := (15, 3, 28, 0, 0, .null, [])) (y_s := (24, [some (.int _)], [], _)) rfl (u_ rfl) ?_
            refine w_t (pc := 24) (e_s := (0, 1, 0, 0, 0, .int 1, [])) (y_s := (25, [some (.int _)], [.int _], _)) rfl (u_ rfl) ?_
            refine w_t (pc := 25) (e_s := (17, 3, 29, 0, 0, .null, [])) (y_s := (29, [some (.int _)], [.int _], _)) rfl (u_ rfl) ?_
            refine wrI (pc := 29) (len_s := 1) rfl hk ?_
            show wF _ 110 (4, [some (.ref _), some (.int _), some (.int _), none], [.int _], _) _
            refine w_t (pc := 4) (e_s := (15, 3, 18, 0, 0, .null, [])) (y_s := (7, [some (.ref _), some (.int _), some (.int _), none], [], _)) rfl (u_ rfl) ?_
            refine w_t (pc := 7) (e_s := (3, 1, 0, 0, 0, .null, [])) (y_s := (8, [some (.ref _), some (.int _), some (.int _), none], [.ref _], _)) rfl (u_ rfl) ?_
            refine w20r (pc := 8) (len_s := 3) (q_s := 7) rfl (krq hk rfl) ?_
            refine w_t (pc := 11) (e_s := (1, 1, 2, 0, 0, .null, [])) (y_s := (12, [some (.ref _), some (.int _), some (.int _), none], [.int _, .ref _], _)) rfl (u_ rfl) ?_
            refine wcI (pc := 12) (len_s := 3) rfl rfl (l := [some (.ref _), some (.int _)]) rfl ?_
            refine w_t (pc := 0) (e_s := (1, 1, 1, 0, 0, .null, [])) (y_s := (1, [some (.ref _), some (.int _)], [.int _], _)) rfl (u_ rfl) ?_
            refine wq2 (pc := 1) (len_s := 3) rfl rfl (fun c6_s => ?_) (fun c6_s => ?_)
            · replace t_s := t_s.1 c6_s
              refine w_t (pc := 16) (e_s := (0, 1, 0, 0, 0, .int 0, [])) (y_s := (17, [some (.ref _), some (.int _)], [.int _], _)) rfl (u_ rfl) ?_
              refine wrI (pc := 17) (len_s := 1) rfl hk ?_
              show wF _ 110 (15, [some (.ref _), some (.int _), some (.int _), none], [.int _], _) _
              refine w_t (pc := 15) (e_s := (15, 3, 20, 1, 0, .null, [])) (y_s := (18, [some (.ref _), some (.int _), some (.int _), none], [], _)) rfl (u_ rfl) ?_
              refine w_t (pc := 18) (e_s := (0, 1, 0, 0, 0, .int (-1), [])) (y_s := (19, [some (.ref _), some (.int _), some (.int _), none], [.int _], _)) rfl (u_ rfl) ?_
              exact wrI (pc := 19) (len_s := 1) rfl hk t_s
            · replace t_s := t_s.2 c6_s
              refine w_t (pc := 4) (e_s := (1, 1, 1, 0, 0, .null, [])) (y_s := (5, [some (.ref _), some (.int _)], [.int _], _)) rfl (u_ rfl) ?_
              refine w_t (pc := 5) (e_s := (3, 1, 0, 0, 0, .null, [])) (y_s := (6, [some (.ref _), some (.int _)], [.ref _, .int _], _)) rfl (u_ rfl) ?_
              refine w20 (pc := 6) (len_s := 3) rfl ?_
              refine wi3 (pc := 9) (len_s := 3) rfl rfl rfl (fun c7_s => ?_) (fun c7_s => ?_)
              · replace t_s := t_s.1 c7_s
                refine w_t (pc := 12) (e_s := (0, 1, 0, 0, 0, .int 1, [])) (y_s := (13, [some (.ref _), some (.int _)], [.int _], _)) rfl (u_ rfl) ?_
                refine w_t (pc := 13) (e_s := (17, 3, 17, 0, 0, .null, [])) (y_s := (17, [some (.ref _), some (.int _)], [.int _], _)) rfl (u_ rfl) ?_
                refine wrI (pc := 17) (len_s := 1) rfl hk ?_
                show wF _ 110 (15, [some (.ref _), some (.int _), some (.int _), none], [.int _], _) _
                refine w_t (pc := 15) (e_s := (15, 3, 20, 1, 0, .null, [])) (y_s := (20, [some (.ref _), some (.int _), some (.int _), none], [], _)) rfl (u_ rfl) ?_
                refine w_t (pc := 20) (e_s := (3, 1, 0, 0, 0, .null, [])) (y_s := (21, [some (.ref _), some (.int _), some (.int _), none], [.ref _], _)) rfl (u_ rfl) ?_
                refine w_t (pc := 21) (e_s := (1, 1, 1, 0, 0, .null, [])) (y_s := (22, [some (.ref _), some (.int _), some (.int _), none], [.int _, .ref _], _)) rfl (u_ rfl) ?_
                refine wcI (pc := 22) (len_s := 3) rfl rfl (l := [some (.ref _), some (.int _), none]) rfl ?_
                refine w_t (pc := 0) (e_s := (3, 1, 0, 0, 0, .null, [])) (y_s := (1, [some (.ref _), some (.int _), none], [.ref _], _)) rfl (u_ rfl) ?_
                refine w20r (pc := 1) (len_s := 3) (q_s := 71) rfl (krq hk rfl) ?_
                refine w_t (pc := 4) (e_s := (1, 1, 1, 0, 0, .null, [])) (y_s := (5, [some (.ref _), some (.int _), none], [.int _, .ref _], _)) rfl (u_ rfl) ?_
                refine w_t (pc := 5) (e_s := (0, 2, 0, 0, 0, .int 10, [])) (y_s := (7, [some (.ref _), some (.int _), none], [.int _, .int _, .ref _], _)) rfl (u_ rfl) ?_
                refine w8 (pc := 7) (len_s := 1) rfl ?_
                refine w24 (g_s := fun j_ => 76 + 2 * j_) (pc := 8) (len_s := 1) hk rfl (hk.1 71 4 6 rfl rfl) kg71 (fun c8_s => ?_)
                replace t_s := t_s c8_s
                refine wcI (pc := 9) (len_s := 3) rfl rfl (l := [some (.ref _)]) rfl (wmI t_s (fun v9 h9 hk t_s => ?_))
                replace t_s := t_s hk
                refine w_t (pc := 12) (e_s := (4, 1, 2, 0, 0, .null, [])) (y_s := (13, [some (.ref _), some (.int _), some (.int _)], [], _)) rfl (u_ rfl) ?_
                refine w_t (pc := 13) (e_s := (1, 1, 2, 0, 0, .null, [])) (y_s := (14, [some (.ref _), some (.int _), some (.int _)], [.int _], _)) rfl (u_ rfl) ?_
                refine wq0 (pc := 14) (len_s := 3) rfl rfl (fun c10_s => ?_) (fun c10_s => ?_)
                · replace t_s := t_s.1 c10_s
                  refine w_t (pc := 21) (e_s := (3, 1, 0, 0, 0, .null, [])) (y_s := (22, [some (.ref _), some (.int _), some (.int _)], [.ref _], _)) rfl (u_ rfl) ?_
                  refine w20r (pc := 22) (len_s := 3) (q_s := 71) rfl (krq hk rfl) ?_
                  refine w_t (pc := 25) (e_s := (1, 1, 1, 0, 0, .null, [])) (y_s := (26, [some (.ref _), some (.int _), some (.int _)], [.int _, .ref _], _)) rfl (u_ rfl) ?_
                  refine w_t (pc := 26) (e_s := (0, 2, 0, 0, 0, .int 10, [])) (y_s := (28, [some (.ref _), some (.int _), some (.int _)], [.int _, .int _, .ref _], _)) rfl (u_ rfl) ?_
                  refine w8m (pc := 28) (len_s := 1) rfl ?_
                  refine w24 (g_s := fun j_ => 76 + 2 * j_) (pc := 29) (len_s := 1) hk rfl (hk.1 71 4 6 rfl rfl) kg71 (fun c11_s => ?_)
                  replace t_s := t_s c11_s
                  refine wcI (pc := 30) (len_s := 3) rfl rfl (l := [some (.ref _)]) rfl (wmI t_s (fun v12 h12 hk t_s => ?_))
                  replace t_s := t_s hk
                  refine wrI (pc := 33) (len_s := 1) rfl hk ?_
                  show wF _ 110 (25, [some (.ref _), some (.int _), some (.int _), none], [.int _], _) _
                  refine w_t (pc := 25) (e_s := (4, 1, 3, 0, 0, .null, [])) (y_s := (26, [some (.ref _), some (.int _), some (.int _), some (.int _)], [], _)) rfl (u_ rfl) ?_
                  refine w_t (pc := 26) (e_s := (1, 1, 3, 0, 0, .null, [])) (y_s := (27, [some (.ref _), some (.int _), some (.int _), some (.int _)], [.int _], _)) rfl (u_ rfl) ?_
                  refine wq0 (pc := 27) (len_s := 3) rfl rfl (fun c13_s => ?_) (fun c13_s => ?_)
                  · replace t_s := t_s.1 c13_s
                    refine w_t (pc := 32) (e_s := (3, 1, 0, 0, 0, .null, [])) (y_s := (33, [some (.ref _), some (.int _), some (.int _), some (.int _)], [.ref _], _)) rfl (u_ rfl) ?_
                    refine w20r (pc := 33) (len_s := 3) (q_s := 50) rfl (krq hk rfl) ?_
                    refine w_t (pc := 36) (e_s := (3, 1, 0, 0, 0, .null, [])) (y_s := (37, [some (.ref _), some (.int _), some (.int _), some (.int _)], [.ref _, .ref _], _)) rfl (u_ rfl) ?_
                    refine w20r (pc := 37) (len_s := 3) (q_s := 71) rfl (krq hk rfl) ?_
                    refine w_t (pc := 40) (e_s := (1, 1, 1, 0, 0, .null, [])) (y_s := (41, [some (.ref _), some (.int _), some (.int _), some (.int _)], [.int _, .ref _, .ref _], _)) rfl (u_ rfl) ?_
                    refine w_t (pc := 41) (e_s := (0, 2, 0, 0, 0, .int 10, [])) (y_s := (43, [some (.ref _), some (.int _), some (.int _), some (.int _)], [.int _, .int _, .ref _, .ref _], _)) rfl (u_ rfl) ?_
                    refine w8 (pc := 43) (len_s := 1) rfl ?_
                    refine w24 (g_s := fun j_ => 76 + 2 * j_) (pc := 44) (len_s := 1) hk rfl (hk.1 71 4 6 rfl rfl) kg71 (fun c14_s => ?_)
                    refine w_t (pc := 45) (e_s := (3, 1, 0, 0, 0, .null, [])) (y_s := (46, [some (.ref _), some (.int _), some (.int _), some (.int _)], [.ref _, .ref _, .ref _], _)) rfl (u_ rfl) ?_
                    refine w20r (pc := 46) (len_s := 3) (q_s := 7) rfl (krq hk rfl) ?_
                    refine w20 (pc := 49) (len_s := 3) rfl ?_
                    refine wcV (pc := 52) (len_s := 3) rfl rfl (l := [some (.ref _), some (.ref _), some (.int _), none, none, none]) rfl (wmV t_s (fun h15 hk t_s => ?_))
                    replace t_s := t_s hk
                    refine w_t (pc := 55) (e_s := (3, 1, 0, 0, 0, .null, [])) (y_s := (56, [some (.ref _), some (.int _), some (.int _), some (.int _)], [.ref _], _)) rfl (u_ rfl) ?_
                    refine w20r (pc := 56) (len_s := 3) (q_s := 50) rfl (krq hk rfl) ?_
                    refine w_t (pc := 59) (e_s := (3, 1, 0, 0, 0, .null, [])) (y_s := (60, [some (.ref _), some (.int _), some (.int _), some (.int _)], [.ref _, .ref _], _)) rfl (u_ rfl) ?_
                    refine w_t (pc := 60) (e_s := (1, 1, 2, 0, 0, .null, [])) (y_s := (61, [some (.ref _), some (.int _), some (.int _), some (.int _)], [.int _, .ref _, .ref _], _)) rfl (u_ rfl) ?_
                    refine wcR (pc := 61) (len_s := 3) rfl rfl (l := [some (.ref _), some (.int _)]) rfl (wmR t_s (fun v16 h16_s hk t_s => ?_))
                    replace t_s := t_s hk
                    refine w_t (pc := 64) (e_s := (3, 1, 0, 0, 0, .null, [])) (y_s := (65, [some (.ref _), some (.int _), some (.int _), some (.int _)], [.ref _, .ref _, .ref _], _)) rfl (u_ rfl) ?_
                    refine w20r (pc := 65) (len_s := 3) (q_s := 71) rfl (krq hk rfl) ?_
                    refine w_t (pc := 68) (e_s := (1, 1, 1, 0, 0, .null, [])) (y_s := (69, [some (.ref _), some (.int _), some (.int _), some (.int _)], [.int _, .ref _, .ref _, .ref _], _)) rfl (u_ rfl) ?_
                    refine w_t (pc := 69) (e_s := (0, 2, 0, 0, 0, .int 10, [])) (y_s := (71, [some (.ref _), some (.int _), some (.int _), some (.int _)], [.int _, .int _, .ref _, .ref _, .ref _], _)) rfl (u_ rfl) ?_
                    refine w8m (pc := 71) (len_s := 1) rfl ?_
                    refine w24 (g_s := fun j_ => 76 + 2 * j_) (pc := 72) (len_s := 1) hk rfl (hk.1 71 4 6 rfl rfl) kg71 (fun c17 => ?_)
                    refine w_t (pc := 73) (e_s := (3, 1, 0, 0, 0, .null, [])) (y_s := (74, [some (.ref _), some (.int _), some (.int _), some (.int _)], [.ref _, .ref _, .ref _, .ref _], _)) rfl (u_ rfl) ?_
                    refine w20r (pc := 74) (len_s := 3) (q_s := 7) rfl (krq hk rfl) ?_
                    refine wcI (pc := 77) (len_s := 3) rfl rfl (l := [some (.ref _), some (.ref _), some (.ref _), some (.ref _), none, none]) rfl (wmI t_s (fun v18 h18 hk t_s => ?_))
                    replace t_s := t_s hk
                    exact wrI (pc := 80) (len_s := 1) rfl hk t_s
                  · replace t_s := t_s.2 c13_s
                    refine w_t (pc := 30) (e_s := (1, 1, 3, 0, 0, .null, [])) (y_s := (31, [some (.ref _), some (.int _), some (.int _), some (.int _)], [.int _], _)) rfl (u_ rfl) ?_
                    exact wrI (pc := 31) (len_s := 1) rfl hk t_s
                · replace t_s := t_s.2 c10_s
                  refine w_t (pc := 17) (e_s := (1, 1, 2, 0, 0, .null, [])) (y_s := (18, [some (.ref _), some (.int _), some (.int _)], [.int _], _)) rfl (u_ rfl) ?_
                  refine w_t (pc := 18) (e_s := (17, 3, 33, 0, 0, .null, [])) (y_s := (33, [some (.ref _), some (.int _), some (.int _)], [.int _], _)) rfl (u_ rfl) ?_
                  refine wrI (pc := 33) (len_s := 1) rfl hk ?_
                  show wF _ 110 (25, [some (.ref _), some (.int _), some (.int _), none], [.int _], _) _
                  refine w_t (pc := 25) (e_s := (4, 1, 3, 0, 0, .null, [])) (y_s := (26, [some (.ref _), some (.int _), some (.int _), some (.int _)], [], _)) rfl (u_ rfl) ?_
                  refine w_t (pc := 26) (e_s := (1, 1, 3, 0, 0, .null, [])) (y_s := (27, [some (.ref _), some (.int _), some (.int _), some (.int _)], [.int _], _)) rfl (u_ rfl) ?_
                  refine wq0 (pc := 27) (len_s := 3) rfl rfl (fun c19_s => ?_) (fun c19_s => ?_)
                  · exact absurd c19_s c10_s
                  · skip
                    refine w_t (pc := 30) (e_s := (1, 1, 3, 0, 0, .null, [])) (y_s := (31, [some (.ref _), some (.int _), some (.int _), some (.int _)], [.int _], _)) rfl (u_ rfl) ?_
                    exact wrI (pc := 31) (len_s := 1) rfl hk t_s
              · replace t_s := t_s.2 c7_s
                refine w_t (pc := 16) (e_s := (0, 1, 0, 0, 0, .int 0, [])) (y_s := (17, [some (.ref _), some (.int _)], [.int _], _)) rfl (u_ rfl) ?_
                refine wrI (pc := 17) (len_s := 1) rfl hk ?_
                show wF _ 110 (15, [some (.ref _), some (.int _), some (.int _), none], [.int _], _) _
                refine w_t (pc := 15) (e_s := (15, 3, 20, 1, 0, .null, [])) (y_s := (18, [some (.ref _), some (.int _), some (.int _), none], [], _)) rfl (u_ rfl) ?_
                refine w_t (pc := 18) (e_s := (0, 1, 0, 0, 0, .int (-1), [])) (y_s := (19, [some (.ref _), some (.int _), some (.int _), none], [.int _], _)) rfl (u_ rfl) ?_
                exact wrI (pc := 19) (len_s := 1) rfl hk t_s
          · replace t_s := t_s.2 c5_s
            refine w_t (pc := 14) (e_s := (0, 1, 0, 0, 0, .int 0, [])) (y_s := (15, [some (.int _)], [.int _], _)) rfl (u_ rfl) ?_
            refine wrI (pc := 15) (len_s := 1) rfl hk ?_
            show wF _ 136 (21, [some (.int _)], [.int _], _) _
            refine w_t (pc := 21) (e_s := (15, 3, 28, 0, 0, .null, [])) (y_s := (28, [some (.int _)], [], _)) rfl (u_ rfl) ?_
            refine w_t (pc := 28) (e_s := (0, 1, 0, 0, 0, .int 0, [])) (y_s := (29, [some (.int _)], [.int _], _)) rfl (u_ rfl) ?_
            refine wrI (pc := 29) (len_s := 1) rfl hk ?_
            show wF _ 110 (4, [some (.ref _), some (.int _), some (.int _), none], [.int _], _) _
            refine w_t (pc := 4) (e_s := (15, 3, 18, 0, 0, .null, [])) (y_s := (18, [some (.ref _), some (.int _), some (.int _), none], [], _)) rfl (u_ rfl) ?_
            refine w_t (pc := 18) (e_s := (0, 1, 0, 0, 0, .int (-1), [])) (y_s := (19, [some (.ref _), some (.int _), some (.int _), none], [.int _], _)) rfl (u_ rfl) ?_
            exact wrI (pc := 19) (len_s := 1) rfl hk t_s
      · replace t_s := t_s.2 c3_s
        refine w_t (pc := 14) (e_s := (0, 1, 0, 0, 0, .int 0, [])) (y_s := (15, [some (.int _)], [.int _], _)) rfl (u_ rfl) ?_
        refine wrI (pc := 15) (len_s := 1) rfl hk ?_
        show wF _ 136 (11, [some (.int _)], [.int _], _) _
        refine w_t (pc := 11) (e_s := (15, 3, 28, 0, 0, .null, [])) (y_s := (28, [some (.int _)], [], _)) rfl (u_ rfl) ?_
        refine w_t (pc := 28) (e_s := (0, 1, 0, 0, 0, .int 0, [])) (y_s := (29, [some (.int _)], [.int _], _)) rfl (u_ rfl) ?_
        refine wrI (pc := 29) (len_s := 1) rfl hk ?_
        show wF _ 110 (4, [some (.ref _), some (.int _), some (.int _), none], [.int _], _) _
        refine w_t (pc := 4) (e_s := (15, 3, 18, 0, 0, .null, [])) (y_s := (18, [some (.ref _), some (.int _), some (.int _), none], [], _)) rfl (u_ rfl) ?_
        refine w_t (pc := 18) (e_s := (0, 1, 0, 0, 0, .int (-1), [])) (y_s := (19, [some (.ref _), some (.int _), some (.int _), none], [.int _], _)) rfl (u_ rfl) ?_
        exact wrI (pc := 19) (len_s := 1) rfl hk t_s
/-- ColdShod.edge(III)I, from 0 on -/
theorem sg_111_0 {F_s : Nat} {x1_s : Int32} {x2_s : Int32} {x3 : Int32} {h_s : zH} {K_s : Int32 → zH → Prop} (hk : hKn h_s) (t_s : (x1_s.toInt < 0 → K_s (-1) h_s) ∧ (¬ x1_s.toInt < 0 → (((x1_s / 10).toInt < 0 → K_s (-1) h_s) ∧ (¬ (x1_s / 10).toInt < 0 → (((x1_s / 10).toInt < 6 → (((x1_s - x1_s / 10 * 10).toInt < 0 → K_s (-1) h_s) ∧ (¬ (x1_s - x1_s / 10 * 10).toInt < 0 → (((x1_s - x1_s / 10 * 10).toInt < 6 → ((x2_s.toInt < 0 → K_s (-1) h_s) ∧ (¬ x2_s.toInt < 0 → ((x2_s.toInt < (h_s.2.1 7 7).toInt → ((x3.toInt < 0 → K_s (-1) h_s) ∧ (¬ x3.toInt < 0 → ((1 < x3.toInt → K_s (-1) h_s) ∧ (¬ 1 < x3.toInt → (zix (x1_s / 10) < 6 → wF F_s 140 (0, [some (.ref (76 + 2 * (zix (x1_s / 10))))], [], h_s) (gI (fun v11 h11 => hKn h11 → (v11.toInt = 0 → (zix (x1_s - x1_s / 10 * 10) < 6 → wF F_s 140 (0, [some (.ref (76 + 2 * (zix (x1_s - x1_s / 10 * 10))))], [], h11) (gI (fun v14 h14 => hKn h14 → (v14.toInt = 0 → wF F_s 48 (0, [some (.ref 50), some (.ref (76 + 2 * (zix (x1_s / 10)))), some (.int (h14.2.1 7 8)), none, none, none], [], h14) (gV (fun h17 => hKn h17 → (x3.toInt = 0 → wF F_s 111 (84, [some (.ref 6), some (.int x1_s), some (.int x2_s), some (.int x3), some (.int v14), some (.int 3), some (.int 0), some (.int 0), none], [], h17) (gI K_s)) ∧ (¬ x3.toInt = 0 → wF F_s 111 (84, [some (.ref 6), some (.int x1_s), some (.int x2_s), some (.int x3), some (.int v14), some (.int 5), some (.int 0), some (.int 0), none], [], h17) (gI K_s))))) ∧ (¬ v14.toInt = 0 → K_s v14 h14))))) ∧ (¬ v11.toInt = 0 → K_s v11 h11))))))))) ∧ (¬ x2_s.toInt < (h_s.2.1 7 7).toInt → K_s (-1) h_s))))) ∧ (¬ (x1_s - x1_s / 10 * 10).toInt < 6 → K_s (-1) h_s))))) ∧ (¬ (x1_s / 10).toInt < 6 → K_s (-1) h_s)))))) : wF (F_s + 1) 111 (0, [some (.ref 6), some (.int x1_s), some (.int x2_s), some (.int x3), none, none, none, none, none], [], h_s) (gI K_s) := by
  refine w_0 (pc := 0) (e_s := (1, 1, 1, 0, 0, .null, [])) (y_s := (1, [some (.ref _), some (.int _), some (.int _), some (.int _), none, none, none, none, none], [.int _], _)) rfl (u_ rfl) ?_
  refine wcI (pc := 1) (len_s := 3) rfl rfl (l := [some (.int _)]) rfl ?_
  refine w_t (pc := 0) (e_s := (1, 1, 0, 0, 0, .null, [])) (y_s := (1, [some (.int _)], [.int _], _)) rfl (u_ rfl) ?_
  refine wq2 (pc := 1) (len_s := 3) rfl rfl (fun c1_s => ?_) (fun c1_s => ?_)
  · replace t_s := t_s.1 c1_s
    refine w_t (pc := 28) (e_s := (0, 1, 0, 0, 0, .int 0, [])) (y_s := (29, [some (.int _)], [.int _], _)) rfl (u_ rfl) ?_
    refine wrI (pc := 29) (len_s := 1) rfl hk ?_
    show wF _ 111 (4, [some (.ref _), some (.int _), some (.int _), some (.int _), none, none, none, none, none], [.int _], _) _
    refine w_t (pc := 4) (e_s := (15, 3, 27, 0, 0, .null, [])) (y_s := (27, [some (.ref _), some (.int _), some (.int _), some (.int _), none, none, none, none, none], [], _)) rfl (u_ rfl) ?_
    refine w_t (pc := 27) (e_s := (0, 1, 0, 0, 0, .int (-1), [])) (y_s := (28, [some (.ref _), some (.int _), some (.int _), some (.int _), none, none, none, none, none], [.int _], _)) rfl (u_ rfl) ?_
    exact wrI (pc := 28) (len_s := 1) rfl hk t_s
  · replace t_s := t_s.2 c1_s
    refine w_t (pc := 4) (e_s := (1, 1, 0, 0, 0, .null, [])) (y_s := (5, [some (.int _)], [.int _], _)) rfl (u_ rfl) ?_
    refine w_t (pc := 5) (e_s := (0, 2, 0, 0, 0, .int 10, [])) (y_s := (7, [some (.int _)], [.int _, .int _], _)) rfl (u_ rfl) ?_
    refine w8 (pc := 7) (len_s := 1) rfl ?_
    refine wcI (pc := 8) (len_s := 3) rfl rfl (l := [some (.int _)]) rfl ?_
    refine w_t (pc := 0) (e_s := (1, 1, 0, 0, 0, .null, [])) (y_s := (1, [some (.int _)], [.int _], _)) rfl (u_ rfl) ?_
    refine wq2 (pc := 1) (len_s := 3) rfl rfl (fun c2_s => ?_) (fun c2_s => ?_)
    · replace t_s := t_s.1 c2_s
      refine w_t (pc := 14) (e_s := (0, 1, 0, 0, 0, .int 0, [])) (y_s := (15, [some (.int _)], [.int _], _)) rfl (u_ rfl) ?_
      refine wrI (pc := 15) (len_s := 1) rfl hk ?_
      show wF _ 136 (11, [some (.int _)], [.int _], _) _
      refine w_t (pc := 11) (e_s := (15, 3, 28, 0, 0, .null, [])) (y_s := (28, [some (.int _)], [], _)) rfl (u_ rfl) ?_
      refine w_t (pc := 28) (e_s := (0, 1, 0, 0, 0, .int 0, [])) (y_s := (29, [some (.int _)], [.int _], _)) rfl (u_ rfl) ?_
      refine wrI (pc := 29) (len_s := 1) rfl hk ?_
      show wF _ 111 (4, [some (.ref _), some (.int _), some (.int _), some (.int _), none, none, none, none, none], [.int _], _) _
      refine w_t (pc := 4) (e_s := (15, 3, 27, 0, 0, .null, [])) (y_s := (27, [some (.ref _), some (.int _), some (.int _), some (.int _), none, none, none, none, none], [], _)) rfl (u_ rfl) ?_
      refine w_t (pc := 27) (e_s := (0, 1, 0, 0, 0, .int (-1), [])) (y_s := (28, [some (.ref _), some (.int _), some (.int _), some (.int _), none, none, none, none, none], [.int _], _)) rfl (u_ rfl) ?_
      exact wrI (pc := 28) (len_s := 1) rfl hk t_s
    · replace t_s := t_s.2 c2_s
      refine w_t (pc := 4) (e_s := (1, 1, 0, 0, 0, .null, [])) (y_s := (5, [some (.int _)], [.int _], _)) rfl (u_ rfl) ?_
      refine w_t (pc := 5) (e_s := (0, 2, 0, 0, 0, .int 6, [])) (y_s := (7, [some (.int _)], [.int _, .int _], _)) rfl (u_ rfl) ?_
      refine wi3 (pc := 7) (len_s := 3) (Y := 6) rfl rfl (by decide) (fun c3_s => ?_) (fun c3_s => ?_)
      · replace t_s := t_s.1 c3_s
        refine w_t (pc := 10) (e_s := (0, 1, 0, 0, 0, .int 1, [])) (y_s := (11, [some (.int _)], [.int _], _)) rfl (u_ rfl) ?_
        refine w_t (pc := 11) (e_s := (17, 3, 15, 0, 0, .null, [])) (y_s := (15, [some (.int _)], [.int _], _)) rfl (u_ rfl) ?_
        refine wrI (pc := 15) (len_s := 1) rfl hk ?_
        show wF _ 136 (11, [some (.int _)], [.int _], _) _
        refine w_t (pc := 11) (e_s := (15, 3, 28, 0, 0, .null, [])) (y_s := (14, [some (.int _)], [], _)) rfl (u_ rfl) ?_
        refine w_t (pc := 14) (e_s := (1, 1, 0, 0, 0, .null, [])) (y_s := (15, [some (.int _)], [.int _], _)) rfl (u_ rfl) ?_
        refine w_t (pc := 15) (e_s := (0, 2, 0, 0, 0, .int 10, [])) (y_s := (17, [some (.int _)], [.int _, .int _], _)) rfl (u_ rfl) ?_
        refine w8m (pc := 17) (len_s := 1) rfl ?_
        refine wcI (pc := 18) (len_s := 3) rfl rfl (l := [some (.int _)]) rfl ?_
        refine w_t (pc := 0) (e_s := (1, 1, 0, 0, 0, .null, [])) (y_s := (1, [some (.int _)], [.int _], _)) rfl (u_ rfl) ?_
        refine wq2 (pc := 1) (len_s := 3) rfl rfl (fun c4_s => ?_) (fun c4_s => ?_)
        · replace t_s := t_s.1 c4_s
          refine w_t (pc := 14) (e_s := (0, 1, 0, 0, 0, .int 0, [])) (y_s := (15, [some (.int _)], [.int _], _)) rfl (u_ rfl) ?_
          refine wrI (pc := 15) (len_s := 1) rfl hk ?_
          show wF _ 136 (21, [some (.int _)], [.int _], _) _
          refine w_t (pc := 21) (e_s := (15, 3, 28, 0, 0, .null, [])) (y_s := (28, [some (.int _)], [], _)) rfl (u_ rfl) ?_
          refine w_t (pc := 28) (e_s := (0, 1, 0, 0, 0, .int 0, [])) (y_s := (29, [some (.int _)], [.int _], _)) rfl (u_ rfl) ?_
          refine wrI (pc := 29) (len_s := 1) rfl hk ?_
          show wF _ 111 (4, [some (.ref _), some (.int _), some (.int _), some (.int _), none, none, none, none, none], [.int _], _) _
          refine w_t (pc := 4) (e_s := (15, 3, 27, 0, 0, .null, [])) (y_s := (27, [some (.ref _), some (.int _), some (.int _), some (.int _), none, none, none, none, none], [], _)) rfl (u_ rfl) ?_
          refine w_t (pc := 27) (e_s := (0, 1, 0, 0, 0, .int (-1), [])) (y_s := (28, [some (.ref _), some (.int _), some (.int _), some (.int _), none, none, none, none, none], [.int _], _)) rfl (u_ rfl) ?_
          exact wrI (pc := 28) (len_s := 1) rfl hk t_s
        · replace t_s := t_s.2 c4_s
          refine w_t (pc := 4) (e_s := (1, 1, 0, 0, 0, .null, [])) (y_s := (5, [some (.int _)], [.int _], _)) rfl (u_ rfl) ?_
          refine w_t (pc := 5) (e_s := (0, 2, 0, 0, 0, .int 6, [])) (y_s := (7, [some (.int _)], [.int _, .int _], _)) rfl (u_ rfl) ?_
          refine wi3 (pc := 7) (len_s := 3) (Y := 6) rfl rfl (by decide) (fun c5_s => ?_) (fun c5_s => ?_)
          · replace t_s := t_s.1 c5_s
            refine w_t (pc := 10) (e_s := (0, 1, 0, 0, 0, .int 1, [])) (y_s := (11, [some (.int _)], [.int _], _)) rfl (u_ rfl) ?_
            refine w_t (pc := 11) (e_s := (17, 3, 15, 0, 0, .null, [])) (y_s := (15, [some (.int _)], [.int _], _)) rfl (u_ rfl) ?_
            refine wrI (pc := 15) (len_s := 1) rfl hk ?_
            show wF _ 136 (21, [some (.int _)], [.int _], _) _
            refine w_t (pc := 21) (e_s := (15, 3, 28, 0, 0, .null, [])) (y_s := (24, [some (.int _)], [], _)) rfl (u_ rfl) ?_
            refine w_t (pc := 24) (e_s := (0, 1, 0, 0, 0, .int 1, [])) (y_s := (25, [some (.int _)], [.int _], _)) rfl (u_ rfl) ?_
            refine w_t (pc := 25) (e_s := (17, 3, 29, 0, 0, .null, [])) (y_s := (29, [some (.int _)], [.int _], _)) rfl (u_ rfl) ?_
            refine wrI (pc := 29) (len_s := 1) rfl hk ?_
            show wF _ 111 (4, [some (.ref _), some (.int _), some (.int _), some (.int _), none, none, none, none, none], [.int _], _) _
            refine w_t (pc := 4) (e_s := (15, 3, 27, 0, 0, .null, [])) (y_s := (7, [some (.ref _), some (.int _), some (.int _), some (.int _), none, none, none, none, none], [], _)) rfl (u_ rfl) ?_
            refine w_t (pc := 7) (e_s := (3, 1, 0, 0, 0, .null, [])) (y_s := (8, [some (.ref _), some (.int _), some (.int _), some (.int _), none, none, none, none, none], [.ref _], _)) rfl (u_ rfl) ?_
            refine w20r (pc := 8) (len_s := 3) (q_s := 7) rfl (krq hk rfl) ?_
            refine w_t (pc := 11) (e_s := (1, 1, 2, 0, 0, .null, [])) (y_s := (12, [some (.ref _), some (.int _), some (.int _), some (.int _), none, none, none, none, none], [.int _, .ref _], _)) rfl (u_ rfl) ?_
            refine wcI (pc := 12) (len_s := 3) rfl rfl (l := [some (.ref _), some (.int _)]) rfl ?_
            refine w_t (pc := 0) (e_s := (1, 1, 1, 0, 0, .null, [])) (y_s := (1, [some (.ref _), some (.int _)], [.int _], _)) rfl (u_ rfl) ?_
            refine wq2 (pc := 1) (len_s := 3) rfl rfl (fun c6_s => ?_) (fun c6_s => ?_)
            · replace t_s := t_s.1 c6_s
              refine w_t (pc := 16) (e_s := (0, 1, 0, 0, 0, .int 0, [])) (y_s := (17, [some (.ref _), some (.int _)], [.int _], _)) rfl (u_ rfl) ?_
              refine wrI (pc := 17) (len_s := 1) rfl hk ?_
              show wF _ 111 (15, [some (.ref _), some (.int _), some (.int _), some (.int _), none, none, none, none, none], [.int _], _) _
              refine w_t (pc := 15) (e_s := (15, 3, 27, 0, 0, .null, [])) (y_s := (27, [some (.ref _), some (.int _), some (.int _), some (.int _), none, none, none, none, none], [], _)) rfl (u_ rfl) ?_
              refine w_t (pc := 27) (e_s := (0, 1, 0, 0, 0, .int (-1), [])) (y_s := (28, [some (.ref _), some (.int _), some (.int _), some (.int _), none, none, none, none, none], [.int _], _)) rfl (u_ rfl) ?_
              exact wrI (pc := 28) (len_s := 1) rfl hk t_s
            · replace t_s := t_s.2 c6_s
              refine w_t (pc := 4) (e_s := (1, 1, 1, 0, 0, .null, [])) (y_s := (5, [some (.ref _), some (.int _)], [.int _], _)) rfl (u_ rfl) ?_
              refine w_t (pc := 5) (e_s := (3, 1, 0, 0, 0, .null, [])) (y_s := (6, [some (.ref _), some (.int _)], [.ref _, .int _], _)) rfl (u_ rfl) ?_
              refine w20 (pc := 6) (len_s := 3) rfl ?_
              refine wi3 (pc := 9) (len_s := 3) rfl rfl rfl (fun c7_s => ?_) (fun c7_s => ?_)
              · replace t_s := t_s.1 c7_s
                refine w_t (pc := 12) (e_s := (0, 1, 0, 0, 0, .int 1, [])) (y_s := (13, [some (.ref _), some (.int _)], [.int _], _)) rfl (u_ rfl) ?_
                refine w_t (pc := 13) (e_s := (17, 3, 17, 0, 0, .null, [])) (y_s := (17, [some (.ref _), some (.int _)], [.int _], _)) rfl (u_ rfl) ?_
                refine wrI (pc := 17) (len_s := 1) rfl hk ?_
                show wF _ 111 (15, [some (.ref _), some (.int _), some (.int _), some (.int _), none, none, none, none, none], [.int _], _) _
                refine w_t (pc := 15) (e_s := (15, 3, 27, 0, 0, .null, [])) (y_s := (18, [some (.ref _), some (.int _), some (.int _), some (.int _), none, none, none, none, none], [], _)) rfl (u_ rfl) ?_
                refine w_t (pc := 18) (e_s := (1, 1, 3, 0, 0, .null, [])) (y_s := (19, [some (.ref _), some (.int _), some (.int _), some (.int _), none, none, none, none, none], [.int _], _)) rfl (u_ rfl) ?_
                refine wq2 (pc := 19) (len_s := 3) rfl rfl (fun c8_s => ?_) (fun c8_s => ?_)
                · replace t_s := t_s.1 c8_s
                  refine w_t (pc := 27) (e_s := (0, 1, 0, 0, 0, .int (-1), [])) (y_s := (28, [some (.ref _), some (.int _), some (.int _), some (.int _), none, none, none, none, none], [.int _], _)) rfl (u_ rfl) ?_
                  exact wrI (pc := 28) (len_s := 1) rfl hk t_s
                · replace t_s := t_s.2 c8_s
                  refine w_t (pc := 22) (e_s := (1, 1, 3, 0, 0, .null, [])) (y_s := (23, [some (.ref _), some (.int _), some (.int _), some (.int _), none, none, none, none, none], [.int _], _)) rfl (u_ rfl) ?_
                  refine w_t (pc := 23) (e_s := (0, 1, 0, 0, 0, .int 1, [])) (y_s := (24, [some (.ref _), some (.int _), some (.int _), some (.int _), none, none, none, none, none], [.int _, .int _], _)) rfl (u_ rfl) ?_
                  refine wi5 (pc := 24) (len_s := 3) (Y := 1) rfl rfl (by decide) (fun c9_s => ?_) (fun c9_s => ?_)
                  · replace t_s := t_s.1 c9_s
                    refine w_t (pc := 27) (e_s := (0, 1, 0, 0, 0, .int (-1), [])) (y_s := (28, [some (.ref _), some (.int _), some (.int _), some (.int _), none, none, none, none, none], [.int _], _)) rfl (u_ rfl) ?_
                    exact wrI (pc := 28) (len_s := 1) rfl hk t_s
                  · replace t_s := t_s.2 c9_s
                    refine w_t (pc := 29) (e_s := (3, 1, 0, 0, 0, .null, [])) (y_s := (30, [some (.ref _), some (.int _), some (.int _), some (.int _), none, none, none, none, none], [.ref _], _)) rfl (u_ rfl) ?_
                    refine w_t (pc := 30) (e_s := (1, 1, 1, 0, 0, .null, [])) (y_s := (31, [some (.ref _), some (.int _), some (.int _), some (.int _), none, none, none, none, none], [.int _, .ref _], _)) rfl (u_ rfl) ?_
                    refine wcI (pc := 31) (len_s := 3) rfl rfl (l := [some (.ref _), some (.int _), none]) rfl ?_
                    refine w_t (pc := 0) (e_s := (3, 1, 0, 0, 0, .null, [])) (y_s := (1, [some (.ref _), some (.int _), none], [.ref _], _)) rfl (u_ rfl) ?_
                    refine w20r (pc := 1) (len_s := 3) (q_s := 71) rfl (krq hk rfl) ?_
                    refine w_t (pc := 4) (e_s := (1, 1, 1, 0, 0, .null, [])) (y_s := (5, [some (.ref _), some (.int _), none], [.int _, .ref _], _)) rfl (u_ rfl) ?_
                    refine w_t (pc := 5) (e_s := (0, 2, 0, 0, 0, .int 10, [])) (y_s := (7, [some (.ref _), some (.int _), none], [.int _, .int _, .ref _], _)) rfl (u_ rfl) ?_
                    refine w8 (pc := 7) (len_s := 1) rfl ?_
                    refine w24 (g_s := fun j_ => 76 + 2 * j_) (pc := 8) (len_s := 1) hk rfl (hk.1 71 4 6 rfl rfl) kg71 (fun c10_s => ?_)
                    replace t_s := t_s c10_s
                    refine wcI (pc := 9) (len_s := 3) rfl rfl (l := [some (.ref _)]) rfl (wmI t_s (fun v11 h11 hk t_s => ?_))
                    replace t_s := t_s hk
                    refine w_t (pc := 12) (e_s := (4, 1, 2, 0, 0, .null, [])) (y_s := (13, [some (.ref _), some (.int _), some (.int _)], [], _)) rfl (u_ rfl) ?_
                    refine w_t (pc := 13) (e_s := (1, 1, 2, 0, 0, .null, [])) (y_s := (14, [some (.ref _), some (.int _), some (.int _)], [.int _], _)) rfl (u_ rfl) ?_
                    refine wq0 (pc := 14) (len_s := 3) rfl rfl (fun c12_s => ?_) (fun c12_s => ?_)
                    · replace t_s := t_s.1 c12_s
                      refine w_t (pc := 21) (e_s := (3, 1, 0, 0, 0, .null, [])) (y_s := (22, [some (.ref _), some (.int _), some (.int _)], [.ref _], _)) rfl (u_ rfl) ?_
                      refine w20r (pc := 22) (len_s := 3) (q_s := 71) rfl (krq hk rfl) ?_
                      refine w_t (pc := 25) (e_s := (1, 1, 1, 0, 0, .null, [])) (y_s := (26, [some (.ref _), some (.int _), some (.int _)], [.int _, .ref _], _)) rfl (u_ rfl) ?_
                      refine w_t (pc := 26) (e_s := (0, 2, 0, 0, 0, .int 10, [])) (y_s := (28, [some (.ref _), some (.int _), some (.int _)], [.int _, .int _, .ref _], _)) rfl (u_ rfl) ?_
                      refine w8m (pc := 28) (len_s := 1) rfl ?_
                      refine w24 (g_s := fun j_ => 76 + 2 * j_) (pc := 29) (len_s := 1) hk rfl (hk.1 71 4 6 rfl rfl) kg71 (fun c13_s => ?_)
                      replace t_s := t_s c13_s
                      refine wcI (pc := 30) (len_s := 3) rfl rfl (l := [some (.ref _)]) rfl (wmI t_s (fun v14 h14 hk t_s => ?_))
                      replace t_s := t_s hk
                      refine wrI (pc := 33) (len_s := 1) rfl hk ?_
                      show wF _ 111 (34, [some (.ref _), some (.int _), some (.int _), some (.int _), none, none, none, none, none], [.int _], _) _
                      refine w_t (pc := 34) (e_s := (4, 2, 4, 0, 0, .null, [])) (y_s := (36, [some (.ref _), some (.int _), some (.int _), some (.int _), some (.int _), none, none, none, none], [], _)) rfl (u_ rfl) ?_
                      refine w_t (pc := 36) (e_s := (1, 2, 4, 0, 0, .null, [])) (y_s := (38, [some (.ref _), some (.int _), some (.int _), some (.int _), some (.int _), none, none, none, none], [.int _], _)) rfl (u_ rfl) ?_
                      refine wq0 (pc := 38) (len_s := 3) rfl rfl (fun c15_s => ?_) (fun c15_s => ?_)
                      · replace t_s := t_s.1 c15_s
                        refine w_t (pc := 44) (e_s := (3, 1, 0, 0, 0, .null, [])) (y_s := (45, [some (.ref _), some (.int _), some (.int _), some (.int _), some (.int _), none, none, none, none], [.ref _], _)) rfl (u_ rfl) ?_
                        refine w20r (pc := 45) (len_s := 3) (q_s := 50) rfl (krq hk rfl) ?_
                        refine w_t (pc := 48) (e_s := (3, 1, 0, 0, 0, .null, [])) (y_s := (49, [some (.ref _), some (.int _), some (.int _), some (.int _), some (.int _), none, none, none, none], [.ref _, .ref _], _)) rfl (u_ rfl) ?_
                        refine w20r (pc := 49) (len_s := 3) (q_s := 71) rfl (krq hk rfl) ?_
                        refine w_t (pc := 52) (e_s := (1, 1, 1, 0, 0, .null, [])) (y_s := (53, [some (.ref _), some (.int _), some (.int _), some (.int _), some (.int _), none, none, none, none], [.int _, .ref _, .ref _], _)) rfl (u_ rfl) ?_
                        refine w_t (pc := 53) (e_s := (0, 2, 0, 0, 0, .int 10, [])) (y_s := (55, [some (.ref _), some (.int _), some (.int _), some (.int _), some (.int _), none, none, none, none], [.int _, .int _, .ref _, .ref _], _)) rfl (u_ rfl) ?_
                        refine w8 (pc := 55) (len_s := 1) rfl ?_
                        refine w24 (g_s := fun j_ => 76 + 2 * j_) (pc := 56) (len_s := 1) hk rfl (hk.1 71 4 6 rfl rfl) kg71 (fun c16 => ?_)
                        refine w_t (pc := 57) (e_s := (3, 1, 0, 0, 0, .null, [])) (y_s := (58, [some (.ref _), some (.int _), some (.int _), some (.int _), some (.int _), none, none, none, none], [.ref _, .ref _, .ref _], _)) rfl (u_ rfl) ?_
                        refine w20r (pc := 58) (len_s := 3) (q_s := 7) rfl (krq hk rfl) ?_
                        refine w20 (pc := 61) (len_s := 3) rfl ?_
                        refine wcV (pc := 64) (len_s := 3) rfl rfl (l := [some (.ref _), some (.ref _), some (.int _), none, none, none]) rfl (wmV t_s (fun h17 hk t_s => ?_))
                        replace t_s := t_s hk
                        refine w_t (pc := 67) (e_s := (1, 1, 3, 0, 0, .null, [])) (y_s := (68, [some (.ref _), some (.int _), some (.int _), some (.int _), some (.int _), none, none, none, none], [.int _], _)) rfl (u_ rfl) ?_
                        refine wq1 (pc := 68) (len_s := 3) rfl rfl (fun c18_s => ?_) (fun c18_s => ?_)
                        · replace t_s := t_s.1 c18_s
                          refine w_t (pc := 71) (e_s := (0, 1, 0, 0, 0, .int 3, [])) (y_s := (72, [some (.ref _), some (.int _), some (.int _), some (.int _), some (.int _), none, none, none, none], [.int _], _)) rfl (u_ rfl) ?_
                          refine w_t (pc := 72) (e_s := (17, 3, 76, 0, 0, .null, [])) (y_s := (76, [some (.ref _), some (.int _), some (.int _), some (.int _), some (.int _), none, none, none, none], [.int _], _)) rfl (u_ rfl) ?_
                          refine w_t (pc := 76) (e_s := (4, 2, 5, 0, 0, .null, [])) (y_s := (78, [some (.ref _), some (.int _), some (.int _), some (.int _), some (.int _), some (.int _), none, none, none], [], _)) rfl (u_ rfl) ?_
                          refine w_t (pc := 78) (e_s := (0, 1, 0, 0, 0, .int 0, [])) (y_s := (79, [some (.ref _), some (.int _), some (.int _), some (.int _), some (.int _), some (.int _), none, none, none], [.int _], _)) rfl (u_ rfl) ?_
                          refine w_t (pc := 79) (e_s := (4, 2, 6, 0, 0, .null, [])) (y_s := (81, [some (.ref _), some (.int _), some (.int _), some (.int _), some (.int _), some (.int _), some (.int _), none, none], [], _)) rfl (u_ rfl) ?_
                          refine w_t (pc := 81) (e_s := (0, 1, 0, 0, 0, .int 0, [])) (y_s := (82, [some (.ref _), some (.int _), some (.int _), some (.int _), some (.int _), some (.int _), some (.int _), none, none], [.int _], _)) rfl (u_ rfl) ?_
                          refine w_t (pc := 82) (e_s := (4, 2, 7, 0, 0, .null, [])) (y_s := (84, [some (.ref _), some (.int _), some (.int _), some (.int _), some (.int _), some (.int _), some (.int _), some (.int _), none], [], _)) rfl (u_ rfl) ?_
                          exact t_s
                        · replace t_s := t_s.2 c18_s
                          refine w_t (pc := 75) (e_s := (0, 1, 0, 0, 0, .int 5, [])) (y_s := (76, [some (.ref _), some (.int _), some (.int _), some (.int _), some (.int _), none, none, none, none], [.int _], _)) rfl (u_ rfl) ?_
                          refine w_t (pc := 76) (e_s := (4, 2, 5, 0, 0, .null, [])) (y_s := (78, [some (.ref _), some (.int _), some (.int _), some (.int _), some (.int _), some (.int _), none, none, none], [], _)) rfl (u_ rfl) ?_
                          refine w_t (pc := 78) (e_s := (0, 1, 0, 0, 0, .int 0, [])) (y_s := (79, [some (.ref _), some (.int _), some (.int _), some (.int _), some (.int _), some (.int _), none, none, none], [.int _], _)) rfl (u_ rfl) ?_
                          refine w_t (pc := 79) (e_s := (4, 2, 6, 0, 0, .null, [])) (y_s := (81, [some (.ref _), some (.int _), some (.int _), some (.int _), some (.int _), some (.int _), some (.int _), none, none], [], _)) rfl (u_ rfl) ?_
                          refine w_t (pc := 81) (e_s := (0, 1, 0, 0, 0, .int 0, [])) (y_s := (82, [some (.ref _), some (.int _), some (.int _), some (.int _), some (.int _), some (.int _), some (.int _), none, none], [.int _], _)) rfl (u_ rfl) ?_
                          refine w_t (pc := 82) (e_s := (4, 2, 7, 0, 0, .null, [])) (y_s := (84, [some (.ref _), some (.int _), some (.int _), some (.int _), some (.int _), some (.int _), some (.int _), some (.int _), none], [], _)) rfl (u_ rfl) ?_
                          exact t_s
                      · replace t_s := t_s.2 c15_s
                        refine w_t (pc := 41) (e_s := (1, 2, 4, 0, 0, .null, [])) (y_s := (43, [some (.ref _), some (.int _), some (.int _), some (.int _), some (.int _), none, none, none, none], [.int _], _)) rfl (u_ rfl) ?_
                        exact wrI (pc := 43) (len_s := 1) rfl hk t_s
                    · replace t_s := t_s.2 c12_s
                      refine w_t (pc := 17) (e_s := (1, 1, 2, 0, 0, .null, [])) (y_s := (18, [some (.ref _), some (.int _), some (.int _)], [.int _], _)) rfl (u_ rfl) ?_
                      refine w_t (pc := 18) (e_s := (17, 3, 33, 0, 0, .null, [])) (y_s := (33, [some (.ref _), some (.int _), some (.int _)], [.int _], _)) rfl (u_ rfl) ?_
                      refine wrI (pc := 33) (len_s := 1) rfl hk ?_
                      show wF _ 111 (34, [some (.ref _), some (.int _), some (.int _), some (.int _), none, none, none, none, none], [.int _], _) _
                      refine w_t (pc := 34) (e_s := (4, 2, 4, 0, 0, .null, [])) (y_s := (36, [some (.ref _), some (.int _), some (.int _), some (.int _), some (.int _), none, none, none, none], [], _)) rfl (u_ rfl) ?_
                      refine w_t (pc := 36) (e_s := (1, 2, 4, 0, 0, .null, [])) (y_s := (38, [some (.ref _), some (.int _), some (.int _), some (.int _), some (.int _), none, none, none, none], [.int _], _)) rfl (u_ rfl) ?_
                      refine wq0 (pc := 38) (len_s := 3) rfl rfl (fun c19_s => ?_) (fun c19_s => ?_)
                      · exact absurd c19_s c12_s
                      · skip
                        refine w_t (pc := 41) (e_s := (1, 2, 4, 0, 0, .null, [])) (y_s := (43, [some (.ref _), some (.int _), some (.int _), some (.int _), some (.int _), none, none, none, none], [.int _], _)) rfl (u_ rfl) ?_
                        exact wrI (pc := 43) (len_s := 1) rfl hk t_s
              · replace t_s := t_s.2 c7_s
                refine w_t (pc := 16) (e_s := (0, 1, 0, 0, 0, .int 0, [])) (y_s := (17, [some (.ref _), some (.int _)], [.int _], _)) rfl (u_ rfl) ?_
                refine wrI (pc := 17) (len_s := 1) rfl hk ?_
                show wF _ 111 (15, [some (.ref _), some (.int _), some (.int _), some (.int _), none, none, none, none, none], [.int _], _) _
                refine w_t (pc := 15) (e_s := (15, 3, 27, 0, 0, .null, [])) (y_s := (27, [some (.ref _), some (.int _), some (.int _), some (.int _), none, none, none, none, none], [], _)) rfl (u_ rfl) ?_
                refine w_t (pc := 27) (e_s := (0, 1, 0, 0, 0, .int (-1), [])) (y_s := (28, [some (.ref _), some (.int _), some (.int _), some (.int _), none, none, none, none, none], [.int _], _)) rfl (u_ rfl) ?_
                exact wrI (pc := 28) (len_s := 1) rfl hk t_s
          · replace t_s := t_s.2 c5_s
            refine w_t (pc := 14) (e_s := (0, 1, 0, 0, 0, .int 0, [])) (y_s := (15, [some (.int _)], [.int _], _)) rfl (u_ rfl) ?_
            refine wrI (pc := 15) (len_s := 1) rfl hk ?_
            show wF _ 136 (21, [some (.int _)], [.int _], _) _
            refine w_t (pc := 21) (e_s := (15, 3, 28, 0, 0, .null, [])) (y_s := (28, [some (.int _)], [], _)) rfl (u_ rfl) ?_
            refine w_t (pc := 28) (e_s := (0, 1, 0, 0, 0, .int 0, [])) (y_s := (29, [some (.int _)], [.int _], _)) rfl (u_ rfl) ?_
            refine wrI (pc := 29) (len_s := 1) rfl hk ?_
            show wF _ 111 (4, [some (.ref _), some (.int _), some (.int _), some (.int _), none, none, none, none, none], [.int _], _) _
            refine w_t (pc := 4) (e_s := (15, 3, 27, 0, 0, .null, [])) (y_s := (27, [some (.ref _), some (.int _), some (.int _), some (.int _), none, none, none, none, none], [], _)) rfl (u_ rfl) ?_
            refine w_t (pc := 27) (e_s := (0, 1, 0, 0, 0, .int (-1), [])) (y_s := (28, [some (.ref _), some (.int _), some (.int _), some (.int _), none, none, none, none, none], [.int _], _)) rfl (u_ rfl) ?_
            exact wrI (pc := 28) (len_s := 1) rfl hk t_s
      · replace t_s := t_s.2 c3_s
        refine w_t (pc := 14) (e_s := (0, 1, 0, 0, 0, .int 0, [])) (y_s := (15, [some (.int _)], [.int _], _)) rfl (u_ rfl) ?_
        refine wrI (pc := 15) (len_s := 1) rfl hk ?_
        show wF _ 136 (11, [some (.int _)], [.int _], _) _
        refine w_t (pc := 11) (e_s := (15, 3, 28, 0, 0, .null, [])) (y_s := (28, [some (.int _)], [], _)) rfl (u_ rfl) ?_
        refine w_t (pc := 28) (e_s := (0, 1, 0, 0, 0, .int 0, [])) (y_s := (29, [some (.int _)], [.int _], _)) rfl (u_ rfl) ?_
        refine wrI (pc := 29) (len_s := 1) rfl hk ?_
        show wF _ 111 (4, [some (.ref _), some (.int _), some (.int _), some (.int _), none, none, none, none, none], [.int _], _) _
        refine w_t (pc := 4) (e_s := (15, 3, 27, 0, 0, .null, [])) (y_s := (27, [some (.ref _), some (.int _), some (.int _), some (.int _), none, none, none, none, none], [], _)) rfl (u_ rfl) ?_
        refine w_t (pc := 27) (e_s := (0, 1, 0, 0, 0, .int (-1), [])) (y_s := (28, [some (.ref _), some (.int _), some (.int _), some (.int _), none, none, none, none, none], [.int _], _)) rfl (u_ rfl) ?_
        exact wrI (pc := 28) (len_s := 1) rfl hk t_s
/-- ColdShod.edge(III)I, from 84 on -/
theorem sg_111_84 {F_s : Nat} {x1_s x2_s x3 x4_s x5_s x6 x7 : Int32} {l8 : Option Value} {h_s : zH} {K_s : Int32 → zH → Prop} (hk : hKn h_s) (t_s : (x5_s.toInt < x7.toInt → K_s x6 h_s) ∧ (¬ x5_s.toInt < x7.toInt → wF F_s 139 (0, [some (.ref 6), some (.int x2_s)], [], h_s) (gR (fun v2 h2 => hKn h2 → (x3.toInt = 0 → (zix (x1_s - x1_s / 10 * 10) < 6 → wF F_s 51 (0, [some (.ref 50), some (.ref v2), some (.ref (76 + 2 * (zix (x1_s - x1_s / 10 * 10)))), some (.ref 7), none, none], [], (h2.1, zup h2.2.1 v2 0 x7, h2.2.2.1, h2.2.2.2)) (gI (fun v5 h5 => hKn h5 → (v5.toInt = -2 → wF F_s 111 (84, [some (.ref 6), some (.int x1_s), some (.int x2_s), some (.int x3), some (.int x4_s), some (.int x5_s), some (.int (x6 ||| (1 <<< (x7 &&& 31)))), some (.int (x7 + 1)), some (.ref v2)], [], h5) (gI K_s)) ∧ (¬ v5.toInt = -2 → wF F_s 111 (84, [some (.ref 6), some (.int x1_s), some (.int x2_s), some (.int x3), some (.int x4_s), some (.int x5_s), some (.int x6), some (.int (x7 + 1)), some (.ref v2)], [], h5) (gI K_s)))))) ∧ (¬ x3.toInt = 0 → (zix (x1_s - x1_s / 10 * 10) < 6 → wF F_s 51 (0, [some (.ref 50), some (.ref v2), some (.ref (76 + 2 * (zix (x1_s - x1_s / 10 * 10)))), some (.ref 7), none, none], [], (h2.1, zup h2.2.1 v2 1 x7, h2.2.2.1, h2.2.2.2)) (gI (fun v8 h8 => hKn h8 → (v8.toInt = -2 → wF F_s 111 (84, [some (.ref 6), some (.int x1_s), some (.int x2_s), some (.int x3), some (.int x4_s), some (.int x5_s), some (.int (x6 ||| (1 <<< (x7 &&& 31)))), some (.int (x7 + 1)), some (.ref v2)], [], h8) (gI K_s)) ∧ (¬ v8.toInt = -2 → wF F_s 111 (84, [some (.ref 6), some (.int x1_s), some (.int x2_s), some (.int x3), some (.int x4_s), some (.int x5_s), some (.int x6), some (.int (x7 + 1)), some (.ref v2)], [], h8) (gI K_s)))))))))) : wF (F_s + 1) 111 (84, [some (.ref 6), some (.int x1_s), some (.int x2_s), some (.int x3), some (.int x4_s), some (.int x5_s), some (.int x6), some (.int x7), l8], [], h_s) (gI K_s) := by
  refine w_0 (pc := 84) (e_s := (1, 2, 7, 0, 0, .null, [])) (y_s := (86, [some (.ref _), some (.int _), some (.int _), some (.int _), some (.int _), some (.int _), some (.int _), some (.int _), _], [.int _], _)) rfl (u_ rfl) ?_
  refine w_t (pc := 86) (e_s := (1, 2, 5, 0, 0, .null, [])) (y_s := (88, [some (.ref _), some (.int _), some (.int _), some (.int _), some (.int _), some (.int _), some (.int _), some (.int _), _], [.int _, .int _], _)) rfl (u_ rfl) ?_
  refine wi4 (pc := 88) (len_s := 3) rfl rfl rfl (fun c1_s => ?_) (fun c1_s => ?_)
  · replace t_s := t_s.1 c1_s
    refine w_t (pc := 161) (e_s := (1, 2, 6, 0, 0, .null, [])) (y_s := (163, [some (.ref _), some (.int _), some (.int _), some (.int _), some (.int _), some (.int _), some (.int _), some (.int _), _], [.int _], _)) rfl (u_ rfl) ?_
    exact wrI (pc := 163) (len_s := 1) rfl hk t_s
  · replace t_s := t_s.2 c1_s
    refine w_t (pc := 91) (e_s := (3, 1, 0, 0, 0, .null, [])) (y_s := (92, [some (.ref _), some (.int _), some (.int _), some (.int _), some (.int _), some (.int _), some (.int _), some (.int _), _], [.ref _], _)) rfl (u_ rfl) ?_
    refine w_t (pc := 92) (e_s := (1, 1, 2, 0, 0, .null, [])) (y_s := (93, [some (.ref _), some (.int _), some (.int _), some (.int _), some (.int _), some (.int _), some (.int _), some (.int _), _], [.int _, .ref _], _)) rfl (u_ rfl) ?_
    refine wcR (pc := 93) (len_s := 3) rfl rfl (l := [some (.ref _), some (.int _)]) rfl (wmR t_s (fun v2 h2 hk t_s => ?_))
    replace t_s := t_s hk
    refine w_t (pc := 96) (e_s := (6, 2, 8, 0, 0, .null, [])) (y_s := (98, [some (.ref _), some (.int _), some (.int _), some (.int _), some (.int _), some (.int _), some (.int _), some (.int _), some (.ref _)], [], _)) rfl (u_ rfl) ?_
    refine w_t (pc := 98) (e_s := (1, 1, 3, 0, 0, .null, [])) (y_s := (99, [some (.ref _), some (.int _), some (.int _), some (.int _), some (.int _), some (.int _), some (.int _), some (.int _), some (.ref _)], [.int _], _)) rfl (u_ rfl) ?_
    refine wq1 (pc := 99) (len_s := 3) rfl rfl (fun c3_s => ?_) (fun c3_s => ?_)
    · replace t_s := t_s.1 c3_s
      refine w_t (pc := 102) (e_s := (3, 2, 8, 0, 0, .null, [])) (y_s := (104, [some (.ref _), some (.int _), some (.int _), some (.int _), some (.int _), some (.int _), some (.int _), some (.int _), some (.ref _)], [.ref _], _)) rfl (u_ rfl) ?_
      refine w_t (pc := 104) (e_s := (1, 2, 7, 0, 0, .null, [])) (y_s := (106, [some (.ref _), some (.int _), some (.int _), some (.int _), some (.int _), some (.int _), some (.int _), some (.int _), some (.ref _)], [.int _, .ref _], _)) rfl (u_ rfl) ?_
      refine w21 (pc := 106) (len_s := 3) rfl ?_
      refine w_t (pc := 109) (e_s := (17, 3, 119, 0, 0, .null, [])) (y_s := (119, [some (.ref _), some (.int _), some (.int _), some (.int _), some (.int _), some (.int _), some (.int _), some (.int _), some (.ref _)], [], _)) rfl (u_ rfl) ?_
      refine w_t (pc := 119) (e_s := (3, 1, 0, 0, 0, .null, [])) (y_s := (120, [some (.ref _), some (.int _), some (.int _), some (.int _), some (.int _), some (.int _), some (.int _), some (.int _), some (.ref _)], [.ref _], _)) rfl (u_ rfl) ?_
      refine w20r (pc := 120) (len_s := 3) (q_s := 50) rfl (krq hk rfl) ?_
      refine w_t (pc := 123) (e_s := (3, 2, 8, 0, 0, .null, [])) (y_s := (125, [some (.ref _), some (.int _), some (.int _), some (.int _), some (.int _), some (.int _), some (.int _), some (.int _), some (.ref _)], [.ref _, .ref _], _)) rfl (u_ rfl) ?_
      refine w_t (pc := 125) (e_s := (3, 1, 0, 0, 0, .null, [])) (y_s := (126, [some (.ref _), some (.int _), some (.int _), some (.int _), some (.int _), some (.int _), some (.int _), some (.int _), some (.ref _)], [.ref _, .ref _, .ref _], _)) rfl (u_ rfl) ?_
      refine w20r (pc := 126) (len_s := 3) (q_s := 71) rfl (krq hk rfl) ?_
      refine w_t (pc := 129) (e_s := (1, 1, 1, 0, 0, .null, [])) (y_s := (130, [some (.ref _), some (.int _), some (.int _), some (.int _), some (.int _), some (.int _), some (.int _), some (.int _), some (.ref _)], [.int _, .ref _, .ref _, .ref _], _)) rfl (u_ rfl) ?_
      refine w_t (pc := 130) (e_s := (0, 2, 0, 0, 0, .int 10, [])) (y_s := (132, [some (.ref _), some (.int _), some (.int _), some (.int _), some (.int _), some (.int _), some (.int _), some (.int _), some (.ref _)], [.int _, .int _, .ref _, .ref _, .ref _], _)) rfl (u_ rfl) ?_
      refine w8m (pc := 132) (len_s := 1) rfl ?_
      refine w24 (g_s := fun j_ => 76 + 2 * j_) (pc := 133) (len_s := 1) hk rfl (hk.1 71 4 6 rfl rfl) kg71 (fun c4_s => ?_)
      replace t_s := t_s c4_s
      refine w_t (pc := 134) (e_s := (3, 1, 0, 0, 0, .null, [])) (y_s := (135, [some (.ref _), some (.int _), some (.int _), some (.int _), some (.int _), some (.int _), some (.int _), some (.int _), some (.ref _)], [.ref _, .ref _, .ref _, .ref _], _)) rfl (u_ rfl) ?_
      refine w20r (pc := 135) (len_s := 3) (q_s := 7) rfl (krq hk rfl) ?_
      refine wcI (pc := 138) (len_s := 3) rfl rfl (l := [some (.ref _), some (.ref _), some (.ref _), some (.ref _), none, none]) rfl (wmI t_s (fun v5 h5 hk t_s => ?_))
      replace t_s := t_s hk
      refine w_t (pc := 141) (e_s := (0, 2, 0, 0, 0, .int (-2), [])) (y_s := (143, [some (.ref _), some (.int _), some (.int _), some (.int _), some (.int _), some (.int _), some (.int _), some (.int _), some (.ref _)], [.int _, .int _], _)) rfl (u_ rfl) ?_
      refine wi1 (pc := 143) (len_s := 3) (Y := -2) rfl rfl (by decide) (fun c6_s => ?_) (fun c6_s => ?_)
      · replace t_s := t_s.1 c6_s
        refine w_t (pc := 146) (e_s := (1, 2, 6, 0, 0, .null, [])) (y_s := (148, [some (.ref _), some (.int _), some (.int _), some (.int _), some (.int _), some (.int _), some (.int _), some (.int _), some (.ref _)], [.int _], _)) rfl (u_ rfl) ?_
        refine w_t (pc := 148) (e_s := (0, 1, 0, 0, 0, .int 1, [])) (y_s := (149, [some (.ref _), some (.int _), some (.int _), some (.int _), some (.int _), some (.int _), some (.int _), some (.int _), some (.ref _)], [.int _, .int _], _)) rfl (u_ rfl) ?_
        refine w_t (pc := 149) (e_s := (1, 2, 7, 0, 0, .null, [])) (y_s := (151, [some (.ref _), some (.int _), some (.int _), some (.int _), some (.int _), some (.int _), some (.int _), some (.int _), some (.ref _)], [.int _, .int _, .int _], _)) rfl (u_ rfl) ?_
        refine w_t (pc := 151) (e_s := (7, 1, 0, 6, 0, .null, [])) (y_s := (152, [some (.ref _), some (.int _), some (.int _), some (.int _), some (.int _), some (.int _), some (.int _), some (.int _), some (.ref _)], [.int ((_ : Int32) <<< ((_ : Int32) &&& 31)), .int _], _)) rfl (u_ rfl) ?_
        refine w_t (pc := 152) (e_s := (7, 1, 0, 4, 0, .null, [])) (y_s := (153, [some (.ref _), some (.int _), some (.int _), some (.int _), some (.int _), some (.int _), some (.int _), some (.int _), some (.ref _)], [.int (_ ||| _)], _)) rfl (u_ rfl) ?_
        refine w_t (pc := 153) (e_s := (4, 2, 6, 0, 0, .null, [])) (y_s := (155, [some (.ref _), some (.int _), some (.int _), some (.int _), some (.int _), some (.int _), some (.int _), some (.int _), some (.ref _)], [], _)) rfl (u_ rfl) ?_
        refine w_t (pc := 155) (e_s := (19, 3, 7, 0, 0, .int 1, [])) (y_s := (158, [some (.ref _), some (.int _), some (.int _), some (.int _), some (.int _), some (.int _), some (.int _), some (.int _), some (.ref _)], [], _)) rfl (u_ rfl) ?_
        refine w_t (pc := 158) (e_s := (17, 3, 84, 0, 0, .null, [])) (y_s := (84, [some (.ref _), some (.int _), some (.int _), some (.int _), some (.int _), some (.int _), some (.int _), some (.int _), some (.ref _)], [], _)) rfl (u_ rfl) ?_
        exact t_s
      · replace t_s := t_s.2 c6_s
        refine w_t (pc := 155) (e_s := (19, 3, 7, 0, 0, .int 1, [])) (y_s := (158, [some (.ref _), some (.int _), some (.int _), some (.int _), some (.int _), some (.int _), some (.int _), some (.int _), some (.ref _)], [], _)) rfl (u_ rfl) ?_
        refine w_t (pc := 158) (e_s := (17, 3, 84, 0, 0, .null, [])) (y_s := (84, [some (.ref _), some (.int _), some (.int _), some (.int _), some (.int _), some (.int _), some (.int _), some (.int _), some (.ref _)], [], _)) rfl (u_ rfl) ?_
        exact t_s
    · replace t_s := t_s.2 c3_s
      refine w_t (pc := 112) (e_s := (3, 2, 8, 0, 0, .null, [])) (y_s := (114, [some (.ref _), some (.int _), some (.int _), some (.int _), some (.int _), some (.int _), some (.int _), some (.int _), some (.ref _)], [.ref _], _)) rfl (u_ rfl) ?_
      refine w_t (pc := 114) (e_s := (1, 2, 7, 0, 0, .null, [])) (y_s := (116, [some (.ref _), some (.int _), some (.int _), some (.int _), some (.int _), some (.int _), some (.int _), some (.int _), some (.ref _)], [.int _, .ref _], _)) rfl (u_ rfl) ?_
      refine w21 (pc := 116) (len_s := 3) rfl ?_
      refine w_t (pc := 119) (e_s := (3, 1, 0, 0, 0, .null, [])) (y_s := (120, [some (.ref _), some (.int _), some (.int _), some (.int _), some (.int _), some (.int _), some (.int _), some (.int _), some (.ref _)], [.ref _], _)) rfl (u_ rfl) ?_
      refine w20r (pc := 120) (len_s := 3) (q_s := 50) rfl (krq hk rfl) ?_
      refine w_t (pc := 123) (e_s := (3, 2, 8, 0, 0, .null, [])) (y_s := (125, [some (.ref _), some (.int _), some (.int _), some (.int _), some (.int _), some (.int _), some (.int _), some (.int _), some (.ref _)], [.ref _, .ref _], _)) rfl (u_ rfl) ?_
      refine w_t (pc := 125) (e_s := (3, 1, 0, 0, 0, .null, [])) (y_s := (126, [some (.ref _), some (.int _), some (.int _), some (.int _), some (.int _), some (.int _), some (.int _), some (.int _), some (.ref _)], [.ref _, .ref _, .ref _], _)) rfl (u_ rfl) ?_
      refine w20r (pc := 126) (len_s := 3) (q_s := 71) rfl (krq hk rfl) ?_
      refine w_t (pc := 129) (e_s := (1, 1, 1, 0, 0, .null, [])) (y_s := (130, [some (.ref _), some (.int _), some (.int _), some (.int _), some (.int _), some (.int _), some (.int _), some (.int _), some (.ref _)], [.int _, .ref _, .ref _, .ref _], _)) rfl (u_ rfl) ?_
      refine w_t (pc := 130) (e_s := (0, 2, 0, 0, 0, .int 10, [])) (y_s := (132, [some (.ref _), some (.int _), some (.int _), some (.int _), some (.int _), some (.int _), some (.int _), some (.int _), some (.ref _)], [.int _, .int _, .ref _, .ref _, .ref _], _)) rfl (u_ rfl) ?_
      refine w8m (pc := 132) (len_s := 1) rfl ?_
      refine w24 (g_s := fun j_ => 76 + 2 * j_) (pc := 133) (len_s := 1) hk rfl (hk.1 71 4 6 rfl rfl) kg71 (fun c7_s => ?_)
      replace t_s := t_s c7_s
      refine w_t (pc := 134) (e_s := (3, 1, 0, 0, 0, .null, [])) (y_s := (135, [some (.ref _), some (.int _), some (.int _), some (.int _), some (.int _), some (.int _), some (.int _), some (.int _), some (.ref _)], [.ref _, .ref _, .ref _, .ref _], _)) rfl (u_ rfl) ?_
      refine w20r (pc := 135) (len_s := 3) (q_s := 7) rfl (krq hk rfl) ?_
      refine wcI (pc := 138) (len_s := 3) rfl rfl (l := [some (.ref _), some (.ref _), some (.ref _), some (.ref _), none, none]) rfl (wmI t_s (fun v8 h8 hk t_s => ?_))
      replace t_s := t_s hk
      refine w_t (pc := 141) (e_s := (0, 2, 0, 0, 0, .int (-2), [])) (y_s := (143, [some (.ref _), some (.int _), some (.int _), some (.int _), some (.int _), some (.int _), some (.int _), some (.int _), some (.ref _)], [.int _, .int _], _)) rfl (u_ rfl) ?_
      refine wi1 (pc := 143) (len_s := 3) (Y := -2) rfl rfl (by decide) (fun c9_s => ?_) (fun c9_s => ?_)
      · replace t_s := t_s.1 c9_s
        refine w_t (pc := 146) (e_s := (1, 2, 6, 0, 0, .null, [])) (y_s := (148, [some (.ref _), some (.int _), some (.int _), some (.int _), some (.int _), some (.int _), some (.int _), some (.int _), some (.ref _)], [.int _], _)) rfl (u_ rfl) ?_
        refine w_t (pc := 148) (e_s := (0, 1, 0, 0, 0, .int 1, [])) (y_s := (149, [some (.ref _), some (.int _), some (.int _), some (.int _), some (.int _), some (.int _), some (.int _), some (.int _), some (.ref _)], [.int _, .int _], _)) rfl (u_ rfl) ?_
        refine w_t (pc := 149) (e_s := (1, 2, 7, 0, 0, .null, [])) (y_s := (151, [some (.ref _), some (.int _), some (.int _), some (.int _), some (.int _), some (.int _), some (.int _), some (.int _), some (.ref _)], [.int _, .int _, .int _], _)) rfl (u_ rfl) ?_
        refine w_t (pc := 151) (e_s := (7, 1, 0, 6, 0, .null, [])) (y_s := (152, [some (.ref _), some (.int _), some (.int _), some (.int _), some (.int _), some (.int _), some (.int _), some (.int _), some (.ref _)], [.int ((_ : Int32) <<< ((_ : Int32) &&& 31)), .int _], _)) rfl (u_ rfl) ?_
        refine w_t (pc := 152) (e_s := (7, 1, 0, 4, 0, .null, [])) (y_s := (153, [some (.ref _), some (.int _), some (.int _), some (.int _), some (.int _), some (.int _), some (.int _), some (.int _), some (.ref _)], [.int (_ ||| _)], _)) rfl (u_ rfl) ?_
        refine w_t (pc := 153) (e_s := (4, 2, 6, 0, 0, .null, [])) (y_s := (155, [some (.ref _), some (.int _), some (.int _), some (.int _), some (.int _), some (.int _), some (.int _), some (.int _), some (.ref _)], [], _)) rfl (u_ rfl) ?_
        refine w_t (pc := 155) (e_s := (19, 3, 7, 0, 0, .int 1, [])) (y_s := (158, [some (.ref _), some (.int _), some (.int _), some (.int _), some (.int _), some (.int _), some (.int _), some (.int _), some (.ref _)], [], _)) rfl (u_ rfl) ?_
        refine w_t (pc := 158) (e_s := (17, 3, 84, 0, 0, .null, [])) (y_s := (84, [some (.ref _), some (.int _), some (.int _), some (.int _), some (.int _), some (.int _), some (.int _), some (.int _), some (.ref _)], [], _)) rfl (u_ rfl) ?_
        exact t_s
      · replace t_s := t_s.2 c9_s
        refine w_t (pc := 155) (e_s := (19, 3, 7, 0, 0, .int 1, [])) (y_s := (158, [some (.ref _), some (.int _), some (.int _), some (.int _), some (.int _), some (.int _), some (.int _), some (.int _), some (.ref _)], [], _)) rfl (u_ rfl) ?_
        refine w_t (pc := 158) (e_s := (17, 3, 84, 0, 0, .null, [])) (y_s := (84, [some (.ref _), some (.int _), some (.int _), some (.int _), some (.int _), some (.int _), some (.int _), some (.int _), some (.ref _)], [], _)) rfl (u_ rfl) ?_
        exact t_s
/-- ColdShodModel.judge(II)I, from 0 on -/
theorem sg_205_0 {F_s : Nat} {x1_s : Int32} {x2_s : Int32} {h_s : zH} {K_s : Int32 → zH → Prop} (hk : hKn h_s) (t_s : wF F_s 203 (0, [some (.ref 102), some (.int x1_s)], [], h_s) (gI (fun v1_s h1 => hKn h1 → (v1_s.toInt = -1 → K_s (-1) h1) ∧ (¬ v1_s.toInt = -1 → ((x2_s.toInt < 0 → K_s (-1) h1) ∧ (¬ x2_s.toInt < 0 → ((((h1.2.1 102 7) - 1).toInt < x2_s.toInt → K_s (-1) h1) ∧ (¬ ((h1.2.1 102 7) - 1).toInt < x2_s.toInt → wF F_s 203 (0, [some (.ref 102), some (.int x1_s)], [], h1) (gI (fun v5 h5 => hKn h5 → (v5.toInt < 0 → wF F_s 203 (0, [some (.ref 102), some (.int x1_s)], [], h5) (gI (fun v7 h7 => hKn h7 → K_s v7 h7))) ∧ (¬ v5.toInt < 0 → wF F_s 204 (0, [some (.ref 102), some (.int x1_s), some (.int x2_s), none, none], [], h5) (gI (fun v8 h8 => hKn h8 → K_s v8 h8))))))))))))) : wF (F_s + 1) 205 (0, [some (.ref 102), some (.int x1_s), some (.int x2_s)], [], h_s) (gI K_s) := by
  refine w_0 (pc := 0) (e_s := (3, 1, 0, 0, 0, .null, [])) (y_s := (1, [some (.ref _), some (.int _), some (.int _)], [.ref _], _)) rfl (u_ rfl) ?_
  refine w_t (pc := 1) (e_s := (1, 1, 1, 0, 0, .null, [])) (y_s := (2, [some (.ref _), some (.int _), some (.int _)], [.int _, .ref _], _)) rfl (u_ rfl) ?_
  refine wcI (pc := 2) (len_s := 3) rfl rfl (l := [some (.ref _), some (.int _)]) rfl (wmI t_s (fun v1_s h1 hk t_s => ?_))
  replace t_s := t_s hk
  refine w_t (pc := 5) (e_s := (0, 1, 0, 0, 0, .int (-1), [])) (y_s := (6, [some (.ref _), some (.int _), some (.int _)], [.int _, .int _], _)) rfl (u_ rfl) ?_
  refine wi0 (pc := 6) (len_s := 3) (Y := -1) rfl rfl (by decide) (fun c2_s => ?_) (fun c2_s => ?_)
  · replace t_s := t_s.1 c2_s
    refine w_t (pc := 18) (e_s := (0, 1, 0, 0, 0, .int (-1), [])) (y_s := (19, [some (.ref _), some (.int _), some (.int _)], [.int _], _)) rfl (u_ rfl) ?_
    exact wrI (pc := 19) (len_s := 1) rfl hk t_s
  · replace t_s := t_s.2 c2_s
    refine w_t (pc := 9) (e_s := (3, 1, 0, 0, 0, .null, [])) (y_s := (10, [some (.ref _), some (.int _), some (.int _)], [.ref _], _)) rfl (u_ rfl) ?_
    refine w_t (pc := 10) (e_s := (1, 1, 2, 0, 0, .null, [])) (y_s := (11, [some (.ref _), some (.int _), some (.int _)], [.int _, .ref _], _)) rfl (u_ rfl) ?_
    refine w_t (pc := 11) (e_s := (10, 1, 0, 0, 0, .null, [])) (y_s := (12, [some (.ref _), some (.int _), some (.int _)], [.long (Int32.toInt64 _), .ref _], _)) rfl (u_ rfl) ?_
    refine wcI (pc := 12) (len_s := 3) rfl rfl (l := [some (.ref _), some (.long _), none]) rfl ?_
    refine w_t (pc := 0) (e_s := (2, 1, 1, 0, 0, .null, [])) (y_s := (1, [some (.ref _), some (.long _), none], [.long _], _)) rfl (u_ rfl) ?_
    refine w_t (pc := 1) (e_s := (0, 1, 0, 0, 0, .long 0, [])) (y_s := (2, [some (.ref _), some (.long _), none], [.long _, .long _], _)) rfl (u_ rfl) ?_
    refine w_t (pc := 2) (e_s := (3, 1, 0, 0, 0, .null, [])) (y_s := (3, [some (.ref _), some (.long _), none], [.ref _, .long _, .long _], _)) rfl (u_ rfl) ?_
    refine w20 (pc := 3) (len_s := 3) rfl ?_
    refine w_t (pc := 6) (e_s := (0, 1, 0, 0, 0, .int 1, [])) (y_s := (7, [some (.ref _), some (.long _), none], [.int _, .int _, .long _, .long _], _)) rfl (u_ rfl) ?_
    refine w_t (pc := 7) (e_s := (7, 1, 0, 1, 0, .null, [])) (y_s := (8, [some (.ref _), some (.long _), none], [.int (_ - _), .long _, .long _], _)) rfl (u_ rfl) ?_
    refine w_t (pc := 8) (e_s := (10, 1, 0, 0, 0, .null, [])) (y_s := (9, [some (.ref _), some (.long _), none], [.long (Int32.toInt64 _), .long _, .long _], _)) rfl (u_ rfl) ?_
    refine wcI (pc := 9) (len_s := 3) rfl rfl (l := [some (.long _), none, some (.long _), none, some (.long _), none]) rfl ?_
    refine w_t (pc := 0) (e_s := (2, 1, 0, 0, 0, .null, [])) (y_s := (1, [some (.long _), none, some (.long _), none, some (.long _), none], [.long _], _)) rfl (u_ rfl) ?_
    refine w_t (pc := 1) (e_s := (2, 1, 2, 0, 0, .null, [])) (y_s := (2, [some (.long _), none, some (.long _), none, some (.long _), none], [.long _, .long _], _)) rfl (u_ rfl) ?_
    refine w_t (pc := 2) (e_s := (14, 1, 0, 0, 0, .null, [])) (y_s := (3, [some (.long _), none, some (.long _), none, some (.long _), none], [.int (lg_cmp _ _)], _)) rfl (u_ rfl) ?_
    refine wl2 (pc := 3) (len_s := 3) (Y := 0) rfl (Int32.toInt_toInt64 _) (by decide) (fun c3_s => ?_) (fun c3_s => ?_)
    · replace t_s := t_s.1 c3_s
      refine w_t (pc := 17) (e_s := (0, 1, 0, 0, 0, .int 0, [])) (y_s := (18, [some (.long _), none, some (.long _), none, some (.long _), none], [.int _], _)) rfl (u_ rfl) ?_
      refine wrI (pc := 18) (len_s := 1) rfl hk ?_
      show wF _ 152 (12, [some (.ref _), some (.long _), none], [.int _], _) _
      refine wrI (pc := 12) (len_s := 1) rfl hk ?_
      show wF _ 205 (15, [some (.ref _), some (.int _), some (.int _)], [.int _], _) _
      refine w_t (pc := 15) (e_s := (15, 3, 20, 1, 0, .null, [])) (y_s := (18, [some (.ref _), some (.int _), some (.int _)], [], _)) rfl (u_ rfl) ?_
      refine w_t (pc := 18) (e_s := (0, 1, 0, 0, 0, .int (-1), [])) (y_s := (19, [some (.ref _), some (.int _), some (.int _)], [.int _], _)) rfl (u_ rfl) ?_
      exact wrI (pc := 19) (len_s := 1) rfl hk t_s
    · replace t_s := t_s.2 c3_s
      refine w_t (pc := 6) (e_s := (2, 1, 0, 0, 0, .null, [])) (y_s := (7, [some (.long _), none, some (.long _), none, some (.long _), none], [.long _], _)) rfl (u_ rfl) ?_
      refine w_t (pc := 7) (e_s := (2, 2, 4, 0, 0, .null, [])) (y_s := (9, [some (.long _), none, some (.long _), none, some (.long _), none], [.long _, .long _], _)) rfl (u_ rfl) ?_
      refine w_t (pc := 9) (e_s := (14, 1, 0, 0, 0, .null, [])) (y_s := (10, [some (.long _), none, some (.long _), none, some (.long _), none], [.int (lg_cmp _ _)], _)) rfl (u_ rfl) ?_
      refine wl4 (pc := 10) (len_s := 3) rfl (Int32.toInt_toInt64 _) (Int32.toInt_toInt64 _) (fun c4_s => ?_) (fun c4_s => ?_)
      · replace t_s := t_s.1 c4_s
        refine w_t (pc := 17) (e_s := (0, 1, 0, 0, 0, .int 0, [])) (y_s := (18, [some (.long _), none, some (.long _), none, some (.long _), none], [.int _], _)) rfl (u_ rfl) ?_
        refine wrI (pc := 18) (len_s := 1) rfl hk ?_
        show wF _ 152 (12, [some (.ref _), some (.long _), none], [.int _], _) _
        refine wrI (pc := 12) (len_s := 1) rfl hk ?_
        show wF _ 205 (15, [some (.ref _), some (.int _), some (.int _)], [.int _], _) _
        refine w_t (pc := 15) (e_s := (15, 3, 20, 1, 0, .null, [])) (y_s := (18, [some (.ref _), some (.int _), some (.int _)], [], _)) rfl (u_ rfl) ?_
        refine w_t (pc := 18) (e_s := (0, 1, 0, 0, 0, .int (-1), [])) (y_s := (19, [some (.ref _), some (.int _), some (.int _)], [.int _], _)) rfl (u_ rfl) ?_
        exact wrI (pc := 19) (len_s := 1) rfl hk t_s
      · replace t_s := t_s.2 c4_s
        refine w_t (pc := 13) (e_s := (0, 1, 0, 0, 0, .int 1, [])) (y_s := (14, [some (.long _), none, some (.long _), none, some (.long _), none], [.int _], _)) rfl (u_ rfl) ?_
        refine w_t (pc := 14) (e_s := (17, 3, 18, 0, 0, .null, [])) (y_s := (18, [some (.long _), none, some (.long _), none, some (.long _), none], [.int _], _)) rfl (u_ rfl) ?_
        refine wrI (pc := 18) (len_s := 1) rfl hk ?_
        show wF _ 152 (12, [some (.ref _), some (.long _), none], [.int _], _) _
        refine wrI (pc := 12) (len_s := 1) rfl hk ?_
        show wF _ 205 (15, [some (.ref _), some (.int _), some (.int _)], [.int _], _) _
        refine w_t (pc := 15) (e_s := (15, 3, 20, 1, 0, .null, [])) (y_s := (20, [some (.ref _), some (.int _), some (.int _)], [], _)) rfl (u_ rfl) ?_
        refine w_t (pc := 20) (e_s := (3, 1, 0, 0, 0, .null, [])) (y_s := (21, [some (.ref _), some (.int _), some (.int _)], [.ref _], _)) rfl (u_ rfl) ?_
        refine w_t (pc := 21) (e_s := (1, 1, 1, 0, 0, .null, [])) (y_s := (22, [some (.ref _), some (.int _), some (.int _)], [.int _, .ref _], _)) rfl (u_ rfl) ?_
        refine wcI (pc := 22) (len_s := 3) rfl rfl (l := [some (.ref _), some (.int _)]) rfl (wmI t_s (fun v5 h5 hk t_s => ?_))
        replace t_s := t_s hk
        refine wq3 (pc := 25) (len_s := 3) rfl rfl (fun c6_s => ?_) (fun c6_s => ?_)
        · replace t_s := t_s.1 c6_s
          refine w_t (pc := 28) (e_s := (3, 1, 0, 0, 0, .null, [])) (y_s := (29, [some (.ref _), some (.int _), some (.int _)], [.ref _], _)) rfl (u_ rfl) ?_
          refine w_t (pc := 29) (e_s := (1, 1, 1, 0, 0, .null, [])) (y_s := (30, [some (.ref _), some (.int _), some (.int _)], [.int _, .ref _], _)) rfl (u_ rfl) ?_
          refine wcI (pc := 30) (len_s := 3) rfl rfl (l := [some (.ref _), some (.int _)]) rfl (wmI t_s (fun v7 h7 hk t_s => ?_))
          replace t_s := t_s hk
          refine w_t (pc := 33) (e_s := (17, 3, 42, 0, 0, .null, [])) (y_s := (42, [some (.ref _), some (.int _), some (.int _)], [.int _], _)) rfl (u_ rfl) ?_
          exact wrI (pc := 42) (len_s := 1) rfl hk t_s
        · replace t_s := t_s.2 c6_s
          refine w_t (pc := 36) (e_s := (3, 1, 0, 0, 0, .null, [])) (y_s := (37, [some (.ref _), some (.int _), some (.int _)], [.ref _], _)) rfl (u_ rfl) ?_
          refine w_t (pc := 37) (e_s := (1, 1, 1, 0, 0, .null, [])) (y_s := (38, [some (.ref _), some (.int _), some (.int _)], [.int _, .ref _], _)) rfl (u_ rfl) ?_
          refine w_t (pc := 38) (e_s := (1, 1, 2, 0, 0, .null, [])) (y_s := (39, [some (.ref _), some (.int _), some (.int _)], [.int _, .int _, .ref _], _)) rfl (u_ rfl) ?_
          refine wcI (pc := 39) (len_s := 3) rfl rfl (l := [some (.ref _), some (.int _), some (.int _), none, none]) rfl (wmI t_s (fun v8 h8 hk t_s => ?_))
          replace t_s := t_s hk
          exact wrI (pc := 42) (len_s := 1) rfl hk t_s
/-! A JOURNEY read out of a row; the first element that tells WORN wrongly: class and reference. -/
noncomputable def okK (nr : Nat) (v_s : Int64) : Prop := 0 ≤ v_s.toInt ∧ v_s.toInt < (nr : Int)
noncomputable def isJ (nr : Nat) (c_s : Nat → Int64) (n_s : Int) (L_s : Nat) : Prop := L_s ≤ 20 ∧ (L_s : Int) ≤ n_s ∧ (∀ k_s, k_s < L_s → okK nr (c_s k_s)) ∧ (L_s = 20 ∨ (L_s : Int) = n_s ∨ ¬ okK nr (c_s L_s))
theorem isJ_lt {nr L_s L1 : Nat} {c_s : Nat → Int64} {n_s : Int} (h_s : isJ nr c_s n_s L_s) (h1 : isJ nr c_s n_s L1) (hl : L_s < L1) : False := by
  obtain ⟨a1_s, a2, a3, a4⟩ := h_s
  obtain ⟨b1, b2, b3, b4⟩ := h1
  rcases a4 with a_s | a_s | a_s
  · omega
  · omega
  · exact a_s (b3 L_s hl)
theorem isJ_u {nr L_s L1 : Nat} {c_s : Nat → Int64} {n_s : Int} (h_s : isJ nr c_s n_s L_s) (h1 : isJ nr c_s n_s L1) : L_s = L1 := by
  rcases Nat.lt_trichotomy L_s L1 with e_s | e_s | e_s
  · exact (isJ_lt h_s h1 e_s).elim
  · exact e_s
  · exact (isJ_lt h1 h_s e_s).elim
theorem isJ_c {nr L_s : Nat} {c_s c1_s : Nat → Int64} {n_s : Int} (e_s : ∀ k_s, k_s < 60 → c1_s k_s = c_s k_s) (h_s : isJ nr c_s n_s L_s) : isJ nr c1_s n_s L_s := by
  obtain ⟨a1_s, a2, a3, a4⟩ := h_s
  refine ⟨a1_s, a2, fun k_s hk => ?_, ?_⟩
  · rw [e_s k_s (by omega)]
    exact a3 k_s hk
  · rw [e_s L_s (by omega)]
    exact a4
section JO_s
variable {h_s : zH} {K_s : Int32 → zH → Prop} {V : zH → Prop} {nh ni nr q_s : Nat} {lw : Option (List pB)} {x1_s x2_s : Int32} {f0_s : Nat → Nat → Int32}
theorem rd48 {s_s : Nat} (hk : hKn h_s) (hs : s_s < 6) (e2_s : x2_s.toInt = (nr : Int)) (n0_s : 0 ≤ (f0_s (76 + 2 * s_s) 3).toInt) (t_s : ∀ L_s f1_s, isJ nr (h_s.2.2.1 (76 + 2 * s_s + 1)) (f0_s (76 + 2 * s_s) 3).toInt L_s → (f1_s 50 1).toInt = ((L_s : Nat) : Int) → (∀ k_s, k_s < L_s → f1_s 51 k_s = (h_s.2.2.1 (76 + 2 * s_s + 1) k_s).toInt32) → (∀ a_s k_s, ¬ (a_s = 50 ∧ k_s = 1) → ¬ a_s = 51 → f1_s a_s k_s = f0_s a_s k_s) → V (h_s.1, f1_s, h_s.2.2.1, h_s.2.2.2)) : ∀ (F_s n_s : Nat) (x3 : Int32) (l4 l5 : Option Value) (f_s : Nat → Nat → Int32), x3.toInt = (n_s : Int) → n_s ≤ 20 → (n_s : Int) ≤ (f0_s (76 + 2 * s_s) 3).toInt → (∀ k_s, k_s < n_s → okK nr (h_s.2.2.1 (76 + 2 * s_s + 1) k_s)) → (f_s 50 1).toInt = (n_s : Int) → (∀ k_s, k_s < n_s → f_s 51 k_s = (h_s.2.2.1 (76 + 2 * s_s + 1) k_s).toInt32) → (∀ a_s k_s, ¬ (a_s = 50 ∧ k_s = 1) → ¬ a_s = 51 → f_s a_s k_s = f0_s a_s k_s) → wF F_s 48 (7, [some (.ref 50), some (.ref (76 + 2 * s_s)), some (.int x2_s), some (.int x3), l4, l5], [], (h_s.1, f_s, h_s.2.2.1, h_s.2.2.2)) (gV V)
  | 0, _, _, _, _, _, _, _, _, _, _, _, _ => wF_zero
  | F_s + 1, n_s, x3, l4, l5, f_s, e3_s, hn, hl, ho, eL, es, hg => by
    have z_s := azix (i := x3) (by omega)
    have ez : zix x3 = n_s := by omega
    have e7_s : f_s (76 + 2 * s_s) 3 = f0_s (76 + 2 * s_s) 3 := hg _ _ (by omega) (by omega)
    refine sg_48_7 (h_s := (h_s.1, f_s, h_s.2.2.1, h_s.2.2.2)) hs hk ?_
    dsimp only
    rw [e7_s, ez, e3_s, e2_s]
    have fin_s : (n_s = 20 ∨ (n_s : Int) = (f0_s (76 + 2 * s_s) 3).toInt ∨ ¬ okK nr (h_s.2.2.1 (76 + 2 * s_s + 1) n_s)) → V (h_s.1, f_s, h_s.2.2.1, h_s.2.2.2) := fun w_s => t_s n_s f_s ⟨hn, hl, ho, w_s⟩ eL es hg
    refine ⟨fun c1_s => ⟨fun c2_s => fun c3_s => ⟨fun c4_s => fin_s (Or.inr (Or.inr (fun w_s => by have := w_s.1; omega))), fun c4_s => ⟨fun c5_s => fun c6_s => ?_, fun c5_s => fin_s (Or.inr (Or.inr (fun w_s => c5_s w_s.2)))⟩⟩, fun c2_s => fin_s (Or.inr (Or.inl (by omega)))⟩, fun c1_s => fin_s (Or.inl (by omega))⟩
    have e5_s : (x3 + 1).toInt = ((n_s + 1 : Nat) : Int) := by
      rw [in1_ (by omega), e3_s]
      omega
    refine rd48 hk hs e2_s n0_s t_s F_s (n_s + 1) (x3 + 1) _ none _ e5_s (by omega) (by omega) (fun k_s hk1 => ?_) ?_ (fun k_s hk1 => ?_) (fun a_s k_s q1_s q2_s => ?_)
    · by_cases e_s : k_s = n_s
      · rw [e_s]
        exact ⟨by omega, c5_s⟩
      · exact ho k_s (by omega)
    · rw [zsame_up]
      exact e5_s
    · rw [zne_up (by omega)]
      by_cases e_s : k_s = n_s
      · rw [e_s, zsame_up]
      · rw [zne_up (by omega)]
        exact es k_s (by omega)
    · rw [zne_up (by omega), zne_up (by omega)]
      exact hg a_s k_s q1_s q2_s
theorem sp_48 {F_s s_s : Nat} (hk : hKn h_s) (hs : s_s < 6) (e2_s : x2_s.toInt = (nr : Int)) (n0_s : 0 ≤ (f0_s (76 + 2 * s_s) 3).toInt) (t_s : ∀ L_s f1_s, isJ nr (h_s.2.2.1 (76 + 2 * s_s + 1)) (f0_s (76 + 2 * s_s) 3).toInt L_s → (f1_s 50 1).toInt = ((L_s : Nat) : Int) → (∀ k_s, k_s < L_s → f1_s 51 k_s = (h_s.2.2.1 (76 + 2 * s_s + 1) k_s).toInt32) → (∀ a_s k_s, ¬ (a_s = 50 ∧ k_s = 1) → ¬ a_s = 51 → f1_s a_s k_s = f0_s a_s k_s) → V (h_s.1, f1_s, h_s.2.2.1, h_s.2.2.2)) : wF F_s 48 (0, [some (.ref 50), some (.ref (76 + 2 * s_s)), some (.int x2_s), none, none, none], [], (h_s.1, f0_s, h_s.2.2.1, h_s.2.2.2)) (gV V) := by
  refine wF_le (Nat.le_succ F_s) (sg_48_0 (h_s := (h_s.1, f0_s, h_s.2.2.1, h_s.2.2.2)) hs hk ?_)
  exact rd48 (f0_s := f0_s) hk hs e2_s n0_s t_s F_s 0 0 none none _ rfl (by omega) n0_s (fun k_s hk1 => absurd hk1 (Nat.not_lt_zero k_s)) (by show (zup f0_s 50 1 0 50 1).toInt = 0; rw [zsame_up]; rfl) (fun k_s hk1 => absurd hk1 (Nat.not_lt_zero k_s)) (fun a_s k_s q1_s q2_s => zne_up q1_s)
theorem rj187 (hk : hKn h_s) (c8_s : (h_s.2.1 102 8).toInt = (nr : Int)) (d0_s : 0 ≤ x1_s.toInt) (d5_s : x1_s.toInt ≤ 5) (t_s : ∀ (v_s : Int32) (L_s : Nat), v_s.toInt = (L_s : Int) → isJ nr (fun k_s => h_s.2.2.1 126 (60 * zix x1_s + k_s)) (h_s.2.1 125 (zix x1_s)).toInt L_s → K_s v_s h_s) : ∀ (F_s n_s : Nat) (x2_s : Int32), x2_s.toInt = (n_s : Int) → n_s ≤ 20 → (n_s : Int) ≤ (h_s.2.1 125 (zix x1_s)).toInt → (∀ k_s, k_s < n_s → okK nr (h_s.2.2.1 126 (60 * zix x1_s + k_s))) → wF F_s 187 (2, [some (.ref 102), some (.int x1_s), some (.int x2_s)], [], h_s) (gI K_s)
  | 0, _, _, _, _, _, _ => wF_zero
  | F_s + 1, n_s, x2_s, e2_s, hn, hl, ho => by
    have e8 := sb1 c8_s
    have zz := zx60 d0_s d5_s (show 0 ≤ x2_s.toInt by omega) (by omega)
    have z_s := azix (i := x2_s) (by omega)
    have ez : zix x2_s = n_s := by omega
    rw [ez] at zz
    refine sg_187_2 (h_s := h_s) hk ?_
    rw [e8, zz, e2_s]
    have fin_s : (n_s = 20 ∨ (n_s : Int) = (h_s.2.1 125 (zix x1_s)).toInt ∨ ¬ okK nr (h_s.2.2.1 126 (60 * zix x1_s + n_s))) → K_s x2_s h_s := fun w_s => t_s x2_s n_s e2_s ⟨hn, hl, ho, w_s⟩
    refine ⟨fun c1_s => fun c2_s => ⟨fun c3_s => fun c4_s => ⟨fun c5_s => fin_s (Or.inr (Or.inr (fun w_s => by have := w_s.1; omega))), fun c5_s => ⟨fun c6_s => fin_s (Or.inr (Or.inr (fun w_s => by have := w_s.2; omega))), fun c6_s => ?_⟩⟩, fun c3_s => fin_s (Or.inr (Or.inl (by omega)))⟩, fun c1_s => fin_s (Or.inl (by omega))⟩
    refine rj187 hk c8_s d0_s d5_s t_s F_s (n_s + 1) (x2_s + 1) (by rw [in1_ (by omega)]; omega) (by omega) (by omega) (fun k_s hk1 => ?_)
    by_cases e_s : k_s = n_s
    · rw [e_s]
      exact ⟨by omega, by omega⟩
    · exact ho k_s (by omega)
theorem sp_187 {F_s : Nat} (hk : hKn h_s) (c8_s : (h_s.2.1 102 8).toInt = (nr : Int)) (d0_s : 0 ≤ x1_s.toInt) (d5_s : x1_s.toInt ≤ 5) (n0_s : 0 ≤ (h_s.2.1 125 (zix x1_s)).toInt) (t_s : ∀ (v_s : Int32) (L_s : Nat), v_s.toInt = (L_s : Int) → isJ nr (fun k_s => h_s.2.2.1 126 (60 * zix x1_s + k_s)) (h_s.2.1 125 (zix x1_s)).toInt L_s → K_s v_s h_s) : wF F_s 187 (0, [some (.ref 102), some (.int x1_s), none], [], h_s) (gI K_s) := wF_le (Nat.le_succ F_s) (sg_187_0 (h_s := h_s) hk (rj187 hk c8_s d0_s d5_s t_s F_s 0 0 rfl (by omega) n0_s (fun k_s hk1 => absurd hk1 (Nat.not_lt_zero k_s))))
/-- going leaves the head's form alone -/
theorem gm_6 {st_s kd : Int32} : ∀ (n_s : Nat) (o : oI), (gmO lw st_s kd n_s o).2 6 = o 6
  | 0, _ => rfl
  | n_s + 1, o => by
    unfold gmO
    by_cases c_s : 99 ≤ (o 2).toInt
    · rw [if_pos c_s]
    · rw [if_neg c_s]
      exact (gm_6 n_s _).trans (os_ne (show ¬ 6 = 2 by decide))
theorem go_6 {m_s : Nat} {st_s kd : Int32} {o : oI} : (goO lw m_s st_s kd o).2.2 6 = o 6 := by
  unfold goO
  by_cases c_s : (o 2).toInt < 99 ∧ ¬ (9 - o 2 / 11).toInt < st_s.toInt
  · rw [if_pos c_s]
    by_cases e_s : (gmO lw st_s kd m_s o).1 = m_s
    · rw [if_pos e_s]
      show coolO (gmO lw st_s kd m_s o).2 6 = o 6
      unfold coolO
      rw [os_ne (show ¬ 6 = 3 by decide)]
      exact gm_6 m_s o
    · rw [if_neg e_s]
      exact gm_6 m_s o
  · rw [if_neg c_s]
theorem goF_fr {f_s f1_s : Nat → Nat → Int32} {o : oI} {r_s : Nat} (e_s : ∀ k_s, f1_s 103 k_s = f_s 103 k_s) : goF lw f1_s o r_s = goF lw f_s o r_s := by
  unfold goF
  rw [e_s, e_s, e_s]
theorem sp_50 {F_s k_s r_s : Nat} {f_s : Nat → Nat → Int32} {o : oI} (hk : hKn h_s) (hr9 : h_s.2.2.2 7 9 = some q_s) (hm_s : q_s = 14 ∨ q_s = 17) (hl : lawC q_s f_s lw) (hp : lwP lw) (hc_s : tC nh ni nr f_s) (e1_s : x1_s.toInt = (k_s : Int)) (e51 : (f_s 51 k_s).toInt = (r_s : Int)) (hr : r_s < nr) (hcw : cwO f_s 88 o) (hB_s : oB o) (t_s : ∀ v_s f1_s, v_s.toInt = (if (goF lw f_s o r_s).2.1 = true then 1 else 0) → (∃ g_s : Int32, g_s.toInt = ((goF lw f_s o r_s).1 : Int) ∧ f1_s 50 2 = f_s 50 2 + g_s) → f1_s 50 3 = f_s 50 3 + bI_ (goF lw f_s o r_s).2.1 → cwO f1_s 88 (goF lw f_s o r_s).2.2 → (∀ a_s k_s, ¬ a_s = 13 → ¬ a_s = 16 → ¬ a_s = 19 → ¬ (a_s = 88 ∧ (k_s = 2 ∨ k_s = 3)) → ¬ (a_s = 50 ∧ (k_s = 2 ∨ k_s = 3)) → f1_s a_s k_s = f_s a_s k_s) → K_s v_s (h_s.1, f1_s, h_s.2.2.1, h_s.2.2.2)) : wF F_s 50 (0, [some (.ref 50), some (.int x1_s), some (.ref 88), some (.ref 7), none, none], [], (h_s.1, f_s, h_s.2.2.1, h_s.2.2.2)) (gI K_s) := by
  have b_s := hc_s.1
  have z_s := azix (i := x1_s) (by omega)
  have ez : zix x1_s = k_s := by omega
  have z2 := azix (i := f_s 51 k_s) (by omega)
  have ez2 : zix (f_s 51 k_s) = r_s := by omega
  obtain ⟨r2, r3, r4⟩ := tC_rd hc_s hr
  obtain ⟨m1_s, m2_s, m3_s⟩ := tM_ml (tC_M hc_s) hr
  refine wF_le (Nat.le_succ F_s) (sg_50_0 (h_s := (h_s.1, f_s, h_s.2.2.1, h_s.2.2.2)) hk ?_)
  dsimp only
  rw [ez, ez2]
  refine fun c1_s => fun c2_s => ?_
  refine sp_24 (m_s := zix (f_s 103 (68 + r_s))) hk hr9 hm_s hl hp (show dRo 88 (28 + r_s) by unfold dRo; omega) (by rw [r2]; exact m1_s) m2_s hcw hB_s (fun v_s f1_s g1 g2 g3_s _ => ?_)
  rw [r3, r4] at g1 g2
  have g1 : v_s.toInt = ((goF lw f_s o r_s).1 : Int) := g1
  have g2 : ∀ k_s, k_s < 6 → f1_s 88 k_s = (goF lw f_s o r_s).2.2 k_s := g2
  have eml : f1_s (28 + r_s) 2 = f_s 103 (68 + r_s) := by rw [g3_s _ _ (by omega) (by omega) (by omega) (by omega)]; exact r2
  have l2 : f1_s 50 2 = f_s 50 2 := g3_s _ _ (by omega) (by omega) (by omega) (by omega)
  have l3 : f1_s 50 3 = f_s 50 3 := g3_s _ _ (by omega) (by omega) (by omega) (by omega)
  have gall : (goF lw f_s o r_s).2.1 = true ↔ (goF lw f_s o r_s).1 = zix (f_s 103 (68 + r_s)) := go_all m3_s
  have gle : (goF lw f_s o r_s).1 ≤ zix (f_s 103 (68 + r_s)) := go_le
  have h6 : (goF lw f_s o r_s).2.2 6 = o 6 := go_6
  dsimp only
  rw [zne_up (show ¬ (28 + r_s = 50 ∧ 2 = 2) by omega), eml, m1_s, g1, l2, l3]
  have cw_s : ∀ f2_s : Nat → Nat → Int32, (∀ a_s k_s, ¬ (a_s = 50 ∧ (k_s = 2 ∨ k_s = 3)) → f2_s a_s k_s = f1_s a_s k_s) → cwO f2_s 88 (goF lw f_s o r_s).2.2 := fun f2_s q1_s => by
    have e6_s : f2_s 88 6 = f_s 88 6 := by rw [q1_s _ _ (by omega)]; exact g3_s _ _ (by omega) (by omega) (by omega) (by omega)
    have e76 : f2_s 7 6 = f_s 7 6 := by rw [q1_s _ _ (by omega)]; exact g3_s _ _ (by omega) (by omega) (by omega) (by omega)
    have e8 : ∀ k_s, f2_s 8 k_s = f_s 8 k_s := fun k_s => by rw [q1_s _ _ (by omega)]; exact g3_s _ _ (by omega) (by omega) (by omega) (by omega)
    refine ⟨fun k_s hk6 => by rw [q1_s _ _ (by omega)]; exact g2 k_s hk6, ?_⟩
    rw [e6_s, e76, e8, h6]
    exact hcw.2
  have ge : ∀ f2_s : Nat → Nat → Int32, (∀ a_s k_s, ¬ (a_s = 50 ∧ (k_s = 2 ∨ k_s = 3)) → f2_s a_s k_s = f1_s a_s k_s) → ∀ a_s k_s, ¬ a_s = 13 → ¬ a_s = 16 → ¬ a_s = 19 → ¬ (a_s = 88 ∧ (k_s = 2 ∨ k_s = 3)) → ¬ (a_s = 50 ∧ (k_s = 2 ∨ k_s = 3)) → f2_s a_s k_s = f_s a_s k_s := fun f2_s q1_s a_s k_s p1_s p2_s p3_s p4_s p5_s => by
    rw [q1_s a_s k_s p5_s]
    exact g3_s a_s k_s p1_s p2_s p3_s p4_s
  refine ⟨fun c3_s => ?_, fun c3_s => ?_⟩
  · have no_s : ¬ (goF lw f_s o r_s).2.1 = true := fun w_s => by have := gall.mp w_s; omega
    have q1_s : ∀ a_s k_s, ¬ (a_s = 50 ∧ (k_s = 2 ∨ k_s = 3)) → zup f1_s 50 2 (f_s 50 2 + v_s) a_s k_s = f1_s a_s k_s := fun a_s k_s w_s => zne_up (by omega)
    refine t_s 0 _ (by rw [if_neg no_s]; rfl) ⟨v_s, g1, zsame_up⟩ ?_ (cw_s _ q1_s) (ge _ q1_s)
    rw [zne_up (by omega), l3]
    unfold bI_
    rw [if_neg no_s]
    exact (iadd0 _).symm
  · have yes_s : (goF lw f_s o r_s).2.1 = true := gall.mpr (by omega)
    have q1_s : ∀ a_s k_s, ¬ (a_s = 50 ∧ (k_s = 2 ∨ k_s = 3)) → zup (zup f1_s 50 2 (f_s 50 2 + v_s)) 50 3 (f_s 50 3 + 1) a_s k_s = f1_s a_s k_s := fun a_s k_s w_s => by rw [zne_up (by omega), zne_up (by omega)]
    refine t_s 1 _ (by rw [if_pos yes_s]; rfl) ⟨v_s, g1, by rw [zne_up (by omega), zsame_up]⟩ ?_ (cw_s _ q1_s) (ge _ q1_s)
    rw [zsame_up]
    unfold bI_
    rw [if_pos yes_s]
end JO_s
/-! THE FIRST ELEMENT THAT TELLS WORN WRONGLY: class and reference say the same number. -/
noncomputable def ffR (go_s : oI → Nat → Nat × Bool × oI) (told_s : Nat → Int64) (L_s : Nat) : Nat → Nat → oI → Int
  | 0, _, _ => -2
  | d_s + 1, n_s, o => if n_s = 0 then (if (told_s 0).toInt = (o 2).toInt then ffR go_s told_s L_s d_s 1 o else 0) else if n_s ≤ L_s ∧ (go_s o (n_s - 1)).2.1 = true then (if (told_s n_s).toInt = ((go_s o (n_s - 1)).2.2 2).toInt then ffR go_s told_s L_s d_s (n_s + 1) (go_s o (n_s - 1)).2.2 else (n_s : Int)) else (n_s : Int)
section FF
variable {go_s : oI → Nat → Nat × Bool × oI} {told_s : Nat → Int64} {L_s d_s n_s : Nat} {o : oI}
theorem ff_0 : ffR go_s told_s L_s (d_s + 1) 0 o = if (told_s 0).toInt = (o 2).toInt then ffR go_s told_s L_s d_s 1 o else 0 := if_pos rfl
theorem ff_no (hn : ¬ n_s = 0) (h_s : ¬ (n_s ≤ L_s ∧ (go_s o (n_s - 1)).2.1 = true)) : ffR go_s told_s L_s (d_s + 1) n_s o = (n_s : Int) := (if_neg hn).trans (if_neg h_s)
theorem ff_yes (hn : ¬ n_s = 0) (h_s : n_s ≤ L_s ∧ (go_s o (n_s - 1)).2.1 = true) : ffR go_s told_s L_s (d_s + 1) n_s o = if (told_s n_s).toInt = ((go_s o (n_s - 1)).2.2 2).toInt then ffR go_s told_s L_s d_s (n_s + 1) (go_s o (n_s - 1)).2.2 else (n_s : Int) := (if_neg hn).trans (if_pos h_s)
end FF
noncomputable def goJ (lw : Option (List pB)) (f_s : Nat → Nat → Int32) (c_s : Nat → Int64) (o : oI) (k_s : Nat) : Nat × Bool × oI := goF lw f_s o (c_s k_s).toInt.toNat
noncomputable def frJ (f0_s f_s : Nat → Nat → Int32) : Prop := ∀ a_s k_s, ¬ a_s = 13 → ¬ a_s = 16 → ¬ a_s = 19 → ¬ (a_s = 88 ∧ k_s < 7) → ¬ (a_s = 50 ∧ (k_s = 2 ∨ k_s = 3)) → f_s a_s k_s = f0_s a_s k_s
section FW
variable {h_s : zH} {K_s : Int32 → zH → Prop} {nh ni nr q_s L_s s_s : Nat} {lw : Option (List pB)} {x1_s x2_s : Int32} {f0_s : Nat → Nat → Int32} {c_s told_s : Nat → Int64} {R_s : Int}
noncomputable def P3 (h_s : zH) (K_s : Int32 → zH → Prop) (f0_s : Nat → Nat → Int32) (lw : Option (List pB)) (c_s told_s : Nat → Int64) (L_s s_s : Nat) (R_s : Int) (F_s : Nat) : Prop := ∀ (x4_s : Int32) (l5 : Option Value) (n_s d_s : Nat) (f_s : Nat → Nat → Int32) (o : oI), frJ f0_s f_s → cwO f_s 88 o → oB o → x4_s.toInt = (n_s : Int) → ((n_s + d_s : Nat) : Int) = (f0_s (76 + 2 * s_s) 3).toInt → ffR (goJ lw f0_s c_s) told_s L_s d_s n_s o = R_s → wF F_s 51 (3, [some (.ref 50), some (.ref 88), some (.ref (76 + 2 * s_s)), some (.ref 7), some (.int x4_s), l5], [], (h_s.1, f_s, h_s.2.2.1, h_s.2.2.2)) (gI K_s)
noncomputable def P46 (h_s : zH) (K_s : Int32 → zH → Prop) (f0_s : Nat → Nat → Int32) (lw : Option (List pB)) (c_s told_s : Nat → Int64) (L_s s_s : Nat) (R_s : Int) (F_s : Nat) : Prop := ∀ (x4_s x5_s : Int32) (n_s d_s : Nat) (f_s : Nat → Nat → Int32) (o : oI), frJ f0_s f_s → cwO f_s 88 o → oB o → x4_s.toInt = (n_s : Int) → ((n_s + d_s + 1 : Nat) : Int) = (f0_s (76 + 2 * s_s) 3).toInt → (x5_s.toInt = 0 → (n_s : Int) = R_s) → (¬ x5_s.toInt = 0 → (if (told_s n_s).toInt = (o 2).toInt then ffR (goJ lw f0_s c_s) told_s L_s d_s (n_s + 1) o else (n_s : Int)) = R_s) → wF F_s 51 (46, [some (.ref 50), some (.ref 88), some (.ref (76 + 2 * s_s)), some (.ref 7), some (.int x4_s), some (.int x5_s)], [], (h_s.1, f_s, h_s.2.2.1, h_s.2.2.2)) (gI K_s)
theorem p3_s {F_s : Nat} (hk : hKn h_s) (hs : s_s < 6) (hr9 : h_s.2.2.2 7 9 = some q_s) (hm_s : q_s = 14 ∨ q_s = 17) (hl : lawC q_s f0_s lw) (hp : lwP lw) (hc_s : tC nh ni nr f0_s) (eL : (f0_s 50 1).toInt = (L_s : Int)) (es : ∀ k_s, k_s < L_s → f0_s 51 k_s = (c_s k_s).toInt32) (ok_s : ∀ k_s, k_s < L_s → okK nr (c_s k_s)) (c60 : (f0_s (76 + 2 * s_s) 3).toInt ≤ 60) (t_s : ∀ v_s f1_s, v_s.toInt = R_s → frJ f0_s f1_s → K_s v_s (h_s.1, f1_s, h_s.2.2.1, h_s.2.2.2)) (i4_s : P46 h_s K_s f0_s lw c_s told_s L_s s_s R_s F_s) : P3 h_s K_s f0_s lw c_s told_s L_s s_s R_s (F_s + 1) := by
  intro x4_s l5 n_s d_s f_s o g_s hcw hB_s e4_s ed hR
  have e7_s : f_s (76 + 2 * s_s) 3 = f0_s (76 + 2 * s_s) 3 := g_s _ _ (by omega) (by omega) (by omega) (by omega) (by omega)
  have e50 : f_s 50 1 = f0_s 50 1 := g_s _ _ (by omega) (by omega) (by omega) (by omega) (by omega)
  have b_s := hc_s.1
  refine sg_51_3 (h_s := (h_s.1, f_s, h_s.2.2.1, h_s.2.2.2)) hs hk ?_
  dsimp only
  rw [e7_s, e50, eL, e4_s]
  match d_s, ed, hR with
  | 0, ed, hR => exact ⟨fun c1_s => absurd c1_s (by omega), fun _ => t_s (-2) f_s hR g_s⟩
  | d_s + 1, ed, hR =>
    have e5_s : ((n_s + d_s + 1 : Nat) : Int) = (f0_s (76 + 2 * s_s) 3).toInt := by omega
    refine ⟨fun c1_s => ⟨fun c2_s => ?_, fun c2_s => ⟨fun c3_s => ?_, fun c3_s => ?_⟩⟩, fun c1_s => absurd c1_s (by omega)⟩
    · have en : n_s = 0 := by omega
      subst en
      rw [ff_0] at hR
      exact i4_s x4_s 1 0 d_s f_s o g_s hcw hB_s e4_s e5_s (fun w_s => absurd w_s (by decide)) (fun _ => hR)
    · rw [ff_no (by omega) (fun w_s => by have := w_s.1; omega)] at hR
      exact i4_s x4_s 0 n_s d_s f_s o g_s hcw hB_s e4_s e5_s (fun _ => hR) (fun w_s => absurd rfl w_s)
    · have hn : ¬ n_s = 0 := by omega
      have e1_s : (x4_s - 1).toInt = ((n_s - 1 : Nat) : Int) := by
        rw [sb1 e4_s]
        omega
      have ko := ok_s (n_s - 1) (by omega)
      have t3_s := t32_ (x_s := c_s (n_s - 1)) ko.1 (by have := ko.2; omega)
      have e51 : (f_s 51 (n_s - 1)).toInt = (((c_s (n_s - 1)).toInt.toNat : Nat) : Int) := by
        rw [g_s _ _ (by omega) (by omega) (by omega) (by omega) (by omega), es (n_s - 1) (by omega), t3_s]
        have := ko.1
        omega
      have hc1 : tC nh ni nr f_s := tC_fr (fun a_s k_s w_s => g_s a_s k_s (by unfold inC at w_s; omega) (by unfold inC at w_s; omega) (by unfold inC at w_s; omega) (by unfold inC at w_s; omega) (by unfold inC at w_s; omega)) hc_s
      have l1 : lawC q_s f_s lw := lawC_fr hm_s (fun a_s k_s w_s => g_s a_s k_s (by omega) (by omega) (by omega) (by omega) (by omega)) hl
      have eg : goF lw f_s o (c_s (n_s - 1)).toInt.toNat = goJ lw f0_s c_s o (n_s - 1) := goF_fr (fun k_s => g_s 103 k_s (by omega) (by omega) (by omega) (by omega) (by omega))
      refine sp_50 (k_s := n_s - 1) (r_s := (c_s (n_s - 1)).toInt.toNat) hk hr9 hm_s l1 hp hc1 e1_s e51 (by have := ko.1; have := ko.2; omega) hcw hB_s (fun v_s f1_s g1 _ _ g4 g5_s _ => ?_)
      rw [eg] at g1 g4
      have hB2 : oB (goJ lw f0_s c_s o (n_s - 1)).2.2 := go_B hB_s
      have g6 : frJ f0_s f1_s := fun a_s k_s q1_s q2_s q3_s q4_s q5_s => by
        rw [g5_s a_s k_s q1_s q2_s q3_s (by omega) q5_s]
        exact g_s a_s k_s q1_s q2_s q3_s q4_s q5_s
      refine ⟨fun c4_s => ?_, fun c4_s => ?_⟩
      · have no_s : ¬ (goJ lw f0_s c_s o (n_s - 1)).2.1 = true := fun w_s => by
          rw [if_pos w_s] at g1
          omega
        rw [ff_no hn (fun w_s => no_s w_s.2)] at hR
        exact i4_s x4_s 0 n_s d_s f1_s _ g6 g4 hB2 e4_s e5_s (fun _ => hR) (fun w_s => absurd rfl w_s)
      · have yes_s : (goJ lw f0_s c_s o (n_s - 1)).2.1 = true := by
          cases e_s : (goJ lw f0_s c_s o (n_s - 1)).2.1 with
          | true => rfl
          | false =>
            rw [if_neg (by rw [e_s]; decide)] at g1
            omega
        rw [ff_yes hn ⟨by omega, yes_s⟩] at hR
        exact i4_s x4_s 1 n_s d_s f1_s _ g6 g4 hB2 e4_s e5_s (fun w_s => absurd w_s (by decide)) (fun _ => hR)
theorem p46_s {F_s : Nat} (hk : hKn h_s) (hs : s_s < 6) (ht : ∀ n_s, n_s < 60 → h_s.2.2.1 (76 + 2 * s_s + 1) n_s = told_s n_s) (c60 : (f0_s (76 + 2 * s_s) 3).toInt ≤ 60) (t_s : ∀ v_s f1_s, v_s.toInt = R_s → frJ f0_s f1_s → K_s v_s (h_s.1, f1_s, h_s.2.2.1, h_s.2.2.2)) (i3_s : P3 h_s K_s f0_s lw c_s told_s L_s s_s R_s F_s) : P46 h_s K_s f0_s lw c_s told_s L_s s_s R_s (F_s + 1) := by
  intro x4_s x5_s n_s d_s f_s o g_s hcw hB_s e4_s ed h0 h1
  have z_s := azix (i := x4_s) (by omega)
  have ez : zix x4_s = n_s := by omega
  have e5_s : (x4_s + 1).toInt = ((n_s + 1 : Nat) : Int) := by
    rw [in1_ (by omega), e4_s]
    omega
  refine sg_51_46 (h_s := (h_s.1, f_s, h_s.2.2.1, h_s.2.2.2)) hs hk ?_
  dsimp only
  rw [ez, ht n_s (by omega), hcw.1 2 (by omega)]
  refine ⟨fun c1_s => t_s x4_s f_s (by rw [e4_s]; exact h0 c1_s) g_s, fun c1_s => fun c2_s => ⟨fun c3_s => ?_, fun c3_s => ?_⟩⟩
  · have u_s := h1 c1_s
    rw [if_pos c3_s] at u_s
    exact i3_s (x4_s + 1) _ (n_s + 1) d_s f_s o g_s hcw hB_s e5_s (by omega) u_s
  · have u_s := h1 c1_s
    rw [if_neg c3_s] at u_s
    exact t_s x4_s f_s (by rw [e4_s]; exact u_s) g_s
theorem p_all (hk : hKn h_s) (hs : s_s < 6) (hr9 : h_s.2.2.2 7 9 = some q_s) (hm_s : q_s = 14 ∨ q_s = 17) (hl : lawC q_s f0_s lw) (hp : lwP lw) (hc_s : tC nh ni nr f0_s) (eL : (f0_s 50 1).toInt = (L_s : Int)) (es : ∀ k_s, k_s < L_s → f0_s 51 k_s = (c_s k_s).toInt32) (ok_s : ∀ k_s, k_s < L_s → okK nr (c_s k_s)) (ht : ∀ n_s, n_s < 60 → h_s.2.2.1 (76 + 2 * s_s + 1) n_s = told_s n_s) (c60 : (f0_s (76 + 2 * s_s) 3).toInt ≤ 60) (t_s : ∀ v_s f1_s, v_s.toInt = R_s → frJ f0_s f1_s → K_s v_s (h_s.1, f1_s, h_s.2.2.1, h_s.2.2.2)) : ∀ F_s, P3 h_s K_s f0_s lw c_s told_s L_s s_s R_s F_s ∧ P46 h_s K_s f0_s lw c_s told_s L_s s_s R_s F_s
  | 0 => ⟨fun _ _ _ _ _ _ _ _ _ _ _ _ => wF_zero, fun _ _ _ _ _ _ _ _ _ _ _ _ _ => wF_zero⟩
  | F_s + 1 => by
    obtain ⟨i3_s, i4_s⟩ := p_all hk hs hr9 hm_s hl hp hc_s eL es ok_s ht c60 t_s F_s
    exact ⟨p3_s hk hs hr9 hm_s hl hp hc_s eL es ok_s c60 t_s i4_s, p46_s hk hs ht c60 t_s i3_s⟩
theorem sp_51 {F_s : Nat} {o : oI} (hk : hKn h_s) (hs : s_s < 6) (hr9 : h_s.2.2.2 7 9 = some q_s) (hm_s : q_s = 14 ∨ q_s = 17) (hl : lawC q_s f0_s lw) (hp : lwP lw) (hc_s : tC nh ni nr f0_s) (eL : (f0_s 50 1).toInt = (L_s : Int)) (es : ∀ k_s, k_s < L_s → f0_s 51 k_s = (c_s k_s).toInt32) (ok_s : ∀ k_s, k_s < L_s → okK nr (c_s k_s)) (ht : ∀ n_s, n_s < 60 → h_s.2.2.1 (76 + 2 * s_s + 1) n_s = told_s n_s) (c0_s : 0 ≤ (f0_s (76 + 2 * s_s) 3).toInt) (c60 : (f0_s (76 + 2 * s_s) 3).toInt ≤ 60) (hcw : cwO f0_s 88 o) (hB_s : oB o) (t_s : ∀ v_s f1_s, v_s.toInt = ffR (goJ lw f0_s c_s) told_s L_s (f0_s (76 + 2 * s_s) 3).toInt.toNat 0 o → frJ f0_s f1_s → K_s v_s (h_s.1, f1_s, h_s.2.2.1, h_s.2.2.2)) : wF F_s 51 (0, [some (.ref 50), some (.ref 88), some (.ref (76 + 2 * s_s)), some (.ref 7), none, none], [], (h_s.1, f0_s, h_s.2.2.1, h_s.2.2.2)) (gI K_s) := by
  refine wF_le (Nat.le_succ F_s) (sg_51_0 (h_s := (h_s.1, f0_s, h_s.2.2.1, h_s.2.2.2)) hs hk ?_)
  exact (p_all hk hs hr9 hm_s hl hp hc_s eL es ok_s ht c60 t_s F_s).1 0 none 0 _ f0_s o (fun _ _ _ _ _ _ _ => rfl) hcw hB_s rfl (by omega) rfl
/-- the reference -/
noncomputable def R10 (h_s : zH) (K_s : Int32 → zH → Prop) (f0_s : Nat → Nat → Int32) (lw : Option (List pB)) (c_s told_s : Nat → Int64) (L_s s2_s : Nat) (x1_s x2_s : Int32) (R_s : Int) (F_s : Nat) : Prop := ∀ (x3 x4_s : Int32) (n_s d_s : Nat) (f_s : Nat → Nat → Int32) (o : oI), frG f0_s f_s → (∀ k_s, k_s < 7 → f_s 112 k_s = o k_s) → oB o → ¬ x3.toInt = 0 → x4_s.toInt = (n_s : Int) → ((n_s + d_s : Nat) : Int) = (f0_s 125 s2_s).toInt → ffR (goJ lw f0_s c_s) told_s L_s d_s n_s o = R_s → wF F_s 204 (10, [some (.ref 102), some (.int x1_s), some (.int x2_s), some (.int x3), some (.int x4_s)], [], (h_s.1, f_s, h_s.2.2.1, h_s.2.2.2)) (gI K_s)
noncomputable def R52 (h_s : zH) (K_s : Int32 → zH → Prop) (f0_s : Nat → Nat → Int32) (lw : Option (List pB)) (c_s told_s : Nat → Int64) (L_s s2_s : Nat) (x1_s x2_s : Int32) (R_s : Int) (F_s : Nat) : Prop := ∀ (x3 x4_s : Int32) (n_s d_s : Nat) (f_s : Nat → Nat → Int32) (o : oI), frG f0_s f_s → (∀ k_s, k_s < 7 → f_s 112 k_s = o k_s) → oB o → (x3.toInt = 0 ∧ ¬ n_s ≤ L_s) ∨ (¬ x3.toInt = 0 ∧ n_s ≤ L_s) → 0 < n_s → x4_s.toInt = (n_s : Int) → ((n_s + d_s + 1 : Nat) : Int) = (f0_s 125 s2_s).toInt → ffR (goJ lw f0_s c_s) told_s L_s (d_s + 1) n_s o = R_s → wF F_s 204 (52, [some (.ref 102), some (.int x1_s), some (.int x2_s), some (.int x3), some (.int x4_s)], [], (h_s.1, f_s, h_s.2.2.1, h_s.2.2.2)) (gI K_s)
noncomputable def R83 (h_s : zH) (K_s : Int32 → zH → Prop) (f0_s : Nat → Nat → Int32) (lw : Option (List pB)) (c_s told_s : Nat → Int64) (L_s s2_s : Nat) (x1_s x2_s : Int32) (R_s : Int) (F_s : Nat) : Prop := ∀ (x3 x4_s : Int32) (n_s d_s : Nat) (f_s : Nat → Nat → Int32) (o : oI), frG f0_s f_s → (∀ k_s, k_s < 7 → f_s 112 k_s = o k_s) → oB o → x4_s.toInt = (n_s : Int) → ((n_s + d_s + 1 : Nat) : Int) = (f0_s 125 s2_s).toInt → (x3.toInt = 0 → (n_s : Int) = R_s) → (¬ x3.toInt = 0 → (if (told_s n_s).toInt = (o 2).toInt then ffR (goJ lw f0_s c_s) told_s L_s d_s (n_s + 1) o else (n_s : Int)) = R_s) → wF F_s 204 (83, [some (.ref 102), some (.int x1_s), some (.int x2_s), some (.int x3), some (.int x4_s)], [], (h_s.1, f_s, h_s.2.2.1, h_s.2.2.2)) (gI K_s)
theorem r10_s {F_s s1_s s2_s : Nat} (hk : hKn h_s) (hc_s : tM nh ni nr f0_s) (d1_s : (x1_s / 10).toInt = (s1_s : Int)) (d2_s : (x1_s - x1_s / 10 * 10).toInt = (s2_s : Int)) (hs1 : s1_s < 6) (hs2 : s2_s < 6) (n0_s : 0 ≤ (f0_s 125 s1_s).toInt) (ec : ∀ k_s, c_s k_s = h_s.2.2.1 126 (60 * s1_s + k_s)) (hJ : isJ nr c_s (f0_s 125 s1_s).toInt L_s) (t_s : ∀ v_s f1_s, v_s.toInt = R_s → frG f0_s f1_s → K_s v_s (h_s.1, f1_s, h_s.2.2.1, h_s.2.2.2)) (i5_s : R52 h_s K_s f0_s lw c_s told_s L_s s2_s x1_s x2_s R_s F_s) (i8_s : R83 h_s K_s f0_s lw c_s told_s L_s s2_s x1_s x2_s R_s F_s) : R10 h_s K_s f0_s lw c_s told_s L_s s2_s x1_s x2_s R_s (F_s + 1) := by
  intro x3 x4_s n_s d_s f_s o g_s ho hB_s h3 e4_s ed hR
  have z1 := azix (i := x1_s / 10) (by omega)
  have ez1 : zix (x1_s / 10) = s1_s := by omega
  have z2 := azix (i := x1_s - x1_s / 10 * 10) (by omega)
  have ez2 : zix (x1_s - x1_s / 10 * 10) = s2_s := by omega
  have e25_s : ∀ k_s, f_s 125 k_s = f0_s 125 k_s := fun k_s => g_s _ _ (by omega) (by omega) (by omega)
  have c8_s : (f_s 102 8).toInt = (nr : Int) := by
    rw [g_s 102 8 (by omega) (by omega) (by omega)]
    exact hc_s.2.1.2.2
  refine sg_204_10 (h_s := (h_s.1, f_s, h_s.2.2.1, h_s.2.2.2)) hk ?_
  dsimp only
  rw [ez2, e25_s, e4_s]
  intro c1_s
  match d_s, ed, hR with
  | 0, ed, hR => exact ⟨fun c2_s => absurd c2_s (by omega), fun _ => t_s (-2) f_s hR g_s⟩
  | d_s + 1, ed, hR =>
    have e5_s : ((n_s + d_s + 1 : Nat) : Int) = (f0_s 125 s2_s).toInt := by omega
    refine ⟨fun c2_s => ⟨fun c3_s => ⟨fun c4_s => absurd c4_s h3, fun c4_s => ?_⟩, fun c3_s => ?_⟩, fun c2_s => absurd c2_s (by omega)⟩
    · refine sp_187 (h_s := (h_s.1, f_s, h_s.2.2.1, h_s.2.2.2)) (nr := nr) hk c8_s (by omega) (by omega) (by show 0 ≤ (f_s 125 (zix (x1_s / 10))).toInt; rw [ez1, e25_s]; exact n0_s) (fun v_s L1 ev_s hj hk5 => ?_)
      have hj : isJ nr (fun k_s => h_s.2.2.1 126 (60 * zix (x1_s / 10) + k_s)) (f_s 125 (zix (x1_s / 10))).toInt L1 := hj
      rw [ez1, e25_s] at hj
      have el : L1 = L_s := isJ_u hj (isJ_c (fun k_s _ => (ec k_s).symm) hJ)
      subst el
      exact ⟨fun c5_s => i5_s 0 x4_s n_s d_s f_s o g_s ho hB_s (Or.inl ⟨rfl, by omega⟩) (by omega) e4_s e5_s hR, fun c5_s => i5_s 1 x4_s n_s d_s f_s o g_s ho hB_s (Or.inr ⟨by decide, by omega⟩) (by omega) e4_s e5_s hR⟩
    · have en : n_s = 0 := by omega
      subst en
      rw [ff_0] at hR
      exact i8_s x3 x4_s 0 d_s f_s o g_s ho hB_s e4_s e5_s (fun w_s => absurd w_s h3) (fun _ => hR)
theorem r52_s {F_s s1_s s2_s : Nat} (hk : hKn h_s) (hc_s : tM nh ni nr f0_s) (hl : lawR f0_s lw) (hp : lwP lw) (d1_s : (x1_s / 10).toInt = (s1_s : Int)) (hs1 : s1_s < 6) (c60 : (f0_s 125 s2_s).toInt ≤ 60) (ec : ∀ k_s, c_s k_s = h_s.2.2.1 126 (60 * s1_s + k_s)) (ok_s : ∀ k_s, k_s < L_s → okK nr (c_s k_s)) (i8_s : R83 h_s K_s f0_s lw c_s told_s L_s s2_s x1_s x2_s R_s F_s) : R52 h_s K_s f0_s lw c_s told_s L_s s2_s x1_s x2_s R_s (F_s + 1) := by
  intro x3 x4_s n_s d_s f_s o g_s ho hB_s h3 hn e4_s ed hR
  have b_s := hc_s.1
  have hn0 : ¬ n_s = 0 := by omega
  refine sg_204_52 (h_s := (h_s.1, f_s, h_s.2.2.1, h_s.2.2.2)) hk ?_
  dsimp only
  refine ⟨fun c1_s => ?_, fun c1_s => fun c2_s => ?_⟩
  · rw [ff_no hn0 (fun w_s => by have := w_s.1; omega)] at hR
    exact i8_s x3 x4_s n_s d_s f_s o g_s ho hB_s e4_s ed (fun _ => hR) (fun w_s => absurd c1_s w_s)
  · have hL : n_s ≤ L_s := by omega
    have z1 := azix (i := x1_s / 10) (by omega)
    have ez1 : zix (x1_s / 10) = s1_s := by omega
    have e1_s : (x4_s - 1).toInt = ((n_s - 1 : Nat) : Int) := by
      rw [sb1 e4_s]
      omega
    have z4 := azix (i := x4_s - 1) (by omega)
    have ez4 : zix (x4_s - 1) = n_s - 1 := by omega
    have zz := zx60 (d_s := x1_s / 10) (i_s := x4_s - 1) (by omega) (by omega) (by omega) (by omega)
    rw [ez1, ez4] at zz
    rw [sub1_as, zz, ← ec (n_s - 1)]
    have ko := ok_s (n_s - 1) (by omega)
    have t3_s := t32_ (x_s := c_s (n_s - 1)) ko.1 (by have := ko.2; omega)
    have er : (c_s (n_s - 1)).toInt = (((c_s (n_s - 1)).toInt.toNat : Nat) : Int) := by
      have := ko.1
      omega
    have hr1 : (c_s (n_s - 1)).toInt.toNat < nr := by
      have := ko.2
      omega
    have m0_s : tM nh ni nr f_s := tM_fr (fun k_s _ _ => g_s _ _ (by omega) (by omega) (by omega)) (fun k_s _ => g_s _ _ (by omega) (by omega) (by omega)) hc_s
    obtain ⟨m1_s, m2_s, m3_s⟩ := tM_ml m0_s hr1
    have l1 : lawR f_s lw := lawR_fr (g_s _ _ (by omega) (by omega) (by omega)) (fun k_s _ => g_s _ _ (by omega) (by omega) (by omega)) hl
    have eg : goF lw f_s o (c_s (n_s - 1)).toInt.toNat = goJ lw f0_s c_s o (n_s - 1) := goF_fr (fun k_s => g_s 103 k_s (by omega) (by omega) (by omega))
    refine sp_183 (h_s := (h_s.1, f_s, h_s.2.2.1, h_s.2.2.2)) (o := o) (r_s := (c_s (n_s - 1)).toInt.toNat) (m_s := zix (f_s 103 (68 + (c_s (n_s - 1)).toInt.toNat))) hk l1 hp (by rw [t3_s]; exact er) (by omega) m1_s m2_s ho hB_s (fun f1_s p1_s p2_s p3_s p4_s hk2 => ?_)
    have p2_s : (f1_s 102 23).toInt = (if (goF lw f_s o (c_s (n_s - 1)).toInt.toNat).2.1 = true then 1 else 0) := p2_s
    have p3_s : ∀ k_s, k_s < 7 → f1_s 112 k_s = (goF lw f_s o (c_s (n_s - 1)).toInt.toNat).2.2 k_s := p3_s
    rw [eg] at p2_s p3_s
    refine i8_s (f1_s 102 23) x4_s n_s d_s f1_s _ (frG_tr g_s p4_s) p3_s (go_B hB_s) e4_s ed (fun w_s => ?_) (fun w_s => ?_)
    · have no_s : ¬ (goJ lw f0_s c_s o (n_s - 1)).2.1 = true := fun u_s => by
        rw [if_pos u_s] at p2_s
        omega
      rw [ff_no hn0 (fun u_s => no_s u_s.2)] at hR
      exact hR
    · have yes_s : (goJ lw f0_s c_s o (n_s - 1)).2.1 = true := by
        cases e_s : (goJ lw f0_s c_s o (n_s - 1)).2.1 with
        | true => rfl
        | false =>
          rw [if_neg (by rw [e_s]; decide)] at p2_s
          exact absurd p2_s w_s
      rw [ff_yes hn0 ⟨hL, yes_s⟩] at hR
      exact hR
theorem r83_s {F_s s2_s : Nat} (hk : hKn h_s) (d2_s : (x1_s - x1_s / 10 * 10).toInt = (s2_s : Int)) (hs2 : s2_s < 6) (c60 : (f0_s 125 s2_s).toInt ≤ 60) (et : ∀ n_s, told_s n_s = h_s.2.2.1 126 (60 * s2_s + n_s)) (t_s : ∀ v_s f1_s, v_s.toInt = R_s → frG f0_s f1_s → K_s v_s (h_s.1, f1_s, h_s.2.2.1, h_s.2.2.2)) (i1_s : R10 h_s K_s f0_s lw c_s told_s L_s s2_s x1_s x2_s R_s F_s) : R83 h_s K_s f0_s lw c_s told_s L_s s2_s x1_s x2_s R_s (F_s + 1) := by
  intro x3 x4_s n_s d_s f_s o g_s ho hB_s e4_s ed h0 h1
  have z2 := azix (i := x1_s - x1_s / 10 * 10) (by omega)
  have ez2 : zix (x1_s - x1_s / 10 * 10) = s2_s := by omega
  have z4 := azix (i := x4_s) (by omega)
  have ez4 : zix x4_s = n_s := by omega
  have zz := zx60 (d_s := x1_s - x1_s / 10 * 10) (i_s := x4_s) (by omega) (by omega) (by omega) (by omega)
  rw [ez2, ez4] at zz
  have e5_s : (x4_s + 1).toInt = ((n_s + 1 : Nat) : Int) := by
    rw [in1_ (by omega), e4_s]
    omega
  refine sg_204_83 (h_s := (h_s.1, f_s, h_s.2.2.1, h_s.2.2.2)) hk ?_
  dsimp only
  rw [zz, ← et n_s, ho 2 (by omega)]
  refine ⟨fun c1_s => t_s x4_s f_s (by rw [e4_s]; exact h0 c1_s) g_s, fun c1_s => fun c2_s => ⟨fun c4_s => ?_, fun c4_s => ?_⟩⟩
  · have u_s := h1 c1_s
    rw [if_pos c4_s] at u_s
    exact i1_s x3 (x4_s + 1) (n_s + 1) d_s f_s o g_s ho hB_s c1_s e5_s (by omega) u_s
  · have u_s := h1 c1_s
    rw [if_neg c4_s] at u_s
    exact t_s x4_s f_s (by rw [e4_s]; exact u_s) g_s
theorem r_all {s1_s s2_s : Nat} (hk : hKn h_s) (hc_s : tM nh ni nr f0_s) (hl : lawR f0_s lw) (hp : lwP lw) (d1_s : (x1_s / 10).toInt = (s1_s : Int)) (d2_s : (x1_s - x1_s / 10 * 10).toInt = (s2_s : Int)) (hs1 : s1_s < 6) (hs2 : s2_s < 6) (n0_s : 0 ≤ (f0_s 125 s1_s).toInt) (c60 : (f0_s 125 s2_s).toInt ≤ 60) (ec : ∀ k_s, c_s k_s = h_s.2.2.1 126 (60 * s1_s + k_s)) (et : ∀ n_s, told_s n_s = h_s.2.2.1 126 (60 * s2_s + n_s)) (hJ : isJ nr c_s (f0_s 125 s1_s).toInt L_s) (t_s : ∀ v_s f1_s, v_s.toInt = R_s → frG f0_s f1_s → K_s v_s (h_s.1, f1_s, h_s.2.2.1, h_s.2.2.2)) : ∀ F_s, R10 h_s K_s f0_s lw c_s told_s L_s s2_s x1_s x2_s R_s F_s ∧ R52 h_s K_s f0_s lw c_s told_s L_s s2_s x1_s x2_s R_s F_s ∧ R83 h_s K_s f0_s lw c_s told_s L_s s2_s x1_s x2_s R_s F_s
  | 0 => ⟨fun _ _ _ _ _ _ _ _ _ _ _ _ _ => wF_zero, fun _ _ _ _ _ _ _ _ _ _ _ _ _ _ => wF_zero, fun _ _ _ _ _ _ _ _ _ _ _ _ _ => wF_zero⟩
  | F_s + 1 => by
    obtain ⟨i1_s, i5_s, i8_s⟩ := r_all hk hc_s hl hp d1_s d2_s hs1 hs2 n0_s c60 ec et hJ t_s F_s
    exact ⟨r10_s hk hc_s d1_s d2_s hs1 hs2 n0_s ec hJ t_s i5_s i8_s, r52_s hk hc_s hl hp d1_s hs1 c60 ec hJ.2.2.1 i8_s, r83_s hk d2_s hs2 c60 et t_s i1_s⟩
theorem sp_204 {F_s i_s s1_s s2_s : Nat} (hk : hKn h_s) (hc_s : tM nh ni nr f0_s) (hl : lawR f0_s lw) (hp : lwP lw) (e2_s : x2_s.toInt = (i_s : Int)) (hi_s : i_s < ni) (d1_s : (x1_s / 10).toInt = (s1_s : Int)) (d2_s : (x1_s - x1_s / 10 * 10).toInt = (s2_s : Int)) (hs1 : s1_s < 6) (hs2 : s2_s < 6) (n0_s : 0 ≤ (f0_s 125 s1_s).toInt) (n2_s : 0 ≤ (f0_s 125 s2_s).toInt) (c60 : (f0_s 125 s2_s).toInt ≤ 60) (ec : ∀ k_s, c_s k_s = h_s.2.2.1 126 (60 * s1_s + k_s)) (et : ∀ n_s, told_s n_s = h_s.2.2.1 126 (60 * s2_s + n_s)) (hJ : isJ nr c_s (f0_s 125 s1_s).toInt L_s) (t_s : ∀ v_s f1_s, v_s.toInt = ffR (goJ lw f0_s c_s) told_s L_s (f0_s 125 s2_s).toInt.toNat 0 (owI f0_s i_s) → frG f0_s f1_s → K_s v_s (h_s.1, f1_s, h_s.2.2.1, h_s.2.2.2)) : wF F_s 204 (0, [some (.ref 102), some (.int x1_s), some (.int x2_s), none, none], [], (h_s.1, f0_s, h_s.2.2.1, h_s.2.2.2)) (gI K_s) := by
  have b_s := hc_s.1
  refine wF_le (Nat.le_succ F_s) (sg_204_0 (h_s := (h_s.1, f0_s, h_s.2.2.1, h_s.2.2.2)) hk ?_)
  refine sp_178 hk e2_s (by omega) (tM_hd hc_s hi_s).1 (fun f1_s g1 g2 hk1 => ?_)
  exact (r_all hk hc_s hl hp d1_s d2_s hs1 hs2 n0_s c60 ec et hJ t_s F_s).1 1 0 0 _ f1_s (owI f0_s i_s) (fun a_s k_s q1_s q2_s q3_s => g2 a_s k_s q2_s) g1 (tM_oB hc_s hi_s) (by decide) rfl (by omega) rfl
end FW
/-! JUDGE: class and reference. -/
noncomputable def okD (x_s : Int32) : Prop := 0 ≤ x_s.toInt ∧ (0 ≤ (x_s / 10).toInt ∧ (x_s / 10).toInt ≤ 5) ∧ (0 ≤ (x_s - x_s / 10 * 10).toInt ∧ (x_s - x_s / 10 * 10).toInt ≤ 5)
noncomputable def rfB (f_s : Nat → Nat → Int32) (s_s : Nat) : Int := if (f_s 124 s_s).toInt < 0 then -11 else if (f_s 124 s_s).toInt = 50 then 0 else -12
noncomputable def rwE (f_s : Nat → Nat → Int32) (x_s : Int32) : Int := if rfB f_s (zix (x_s / 10)) = 0 then rfB f_s (zix (x_s - x_s / 10 * 10)) else rfB f_s (zix (x_s / 10))
theorem rfB_v (f_s : Nat → Nat → Int32) (s_s : Nat) : rfB f_s s_s = -11 ∨ rfB f_s s_s = 0 ∨ rfB f_s s_s = -12 := by
  unfold rfB
  by_cases c_s : (f_s 124 s_s).toInt < 0
  · rw [if_pos c_s]
    exact Or.inl rfl
  · rw [if_neg c_s]
    by_cases e_s : (f_s 124 s_s).toInt = 50
    · rw [if_pos e_s]
      exact Or.inr (Or.inl rfl)
    · rw [if_neg e_s]
      exact Or.inr (Or.inr rfl)
theorem rwE_v (f_s : Nat → Nat → Int32) (x_s : Int32) : rwE f_s x_s = -11 ∨ rwE f_s x_s = 0 ∨ rwE f_s x_s = -12 := by
  unfold rwE
  by_cases e_s : rfB f_s (zix (x_s / 10)) = 0
  · rw [if_pos e_s]
    exact rfB_v f_s _
  · rw [if_neg e_s]
    exact rfB_v f_s _
theorem rwE_fr {f_s f1_s : Nat → Nat → Int32} {x_s : Int32} (e_s : ∀ k_s, f1_s 124 k_s = f_s 124 k_s) : rwE f1_s x_s = rwE f_s x_s := by
  unfold rwE rfB
  rw [e_s, e_s]
theorem row_of {f_s : Nat → Nat → Int32} {s_s : Nat} (hs : tS1 f_s s_s) (hr : rfB f_s s_s = 0) : (f_s 125 s_s).toInt = (f_s (76 + 2 * s_s) 3).toInt ∧ 0 ≤ (f_s (76 + 2 * s_s) 3).toInt ∧ (f_s (76 + 2 * s_s) 3).toInt ≤ 60 := by
  have e_s : (f_s 124 s_s).toInt = 50 := by
    unfold rfB at hr
    by_cases c_s : (f_s 124 s_s).toInt < 0
    · rw [if_pos c_s] at hr
      omega
    · rw [if_neg c_s] at hr
      by_cases e_s : (f_s 124 s_s).toInt = 50
      · exact e_s
      · rw [if_neg e_s] at hr
        omega
  unfold tS1 at hs
  rcases hs with a_s | a_s | a_s
  · omega
  · omega
  · exact ⟨a_s.2.2.2.2.1, a_s.2.2.2.2.2⟩
section JU
variable {h_s : zH} {K_s : Int32 → zH → Prop} {KR_s : Nat → zH → Prop} {nh ni nr q_s : Nat} {lw : Option (List pB)} {x1_s x2_s : Int32} {f0_s : Nat → Nat → Int32}
theorem sp_140 {F_s s_s : Nat} (hk : hKn h_s) (hs : s_s < 6) (h1 : tS1 h_s.2.1 s_s) (t_s : ∀ v_s, v_s.toInt = rfB h_s.2.1 s_s → K_s v_s h_s) : wF F_s 140 (0, [some (.ref (76 + 2 * s_s))], [], h_s) (gI K_s) := by
  refine wF_le (Nat.le_succ F_s) (sg_140_0 (h_s := h_s) hs hk ?_)
  unfold tS1 at h1
  have b11 : (-11 : Int32).toInt = -11 := rfl
  have b12 : (-12 : Int32).toInt = -12 := rfl
  have b0 : (0 : Int32).toInt = 0 := rfl
  refine ⟨fun c1_s => t_s _ ?_, fun c1_s => ⟨fun c2_s => ⟨fun c3_s => t_s _ ?_, fun c3_s => t_s _ ?_⟩, fun c2_s => t_s _ ?_⟩⟩
  · unfold rfB
    rw [if_pos (by omega), b11]
  · unfold rfB
    rw [if_neg (by omega), if_pos (by omega), b0]
  · unfold rfB
    rw [if_neg (by omega), if_neg (by omega), b12]
  · unfold rfB
    rw [if_neg (by omega), if_neg (by omega), b12]
theorem sp_203 {F_s : Nat} (hk : hKn h_s) (t1_s : ¬ okD x1_s → K_s (-1) h_s) (t2_s : okD x1_s → ¬ rwE h_s.2.1 x1_s = 0 → ∀ v_s, v_s.toInt = rwE h_s.2.1 x1_s → K_s v_s h_s) (t3_s : okD x1_s → rwE h_s.2.1 x1_s = 0 → K_s 1 h_s) : wF F_s 203 (0, [some (.ref 102), some (.int x1_s)], [], h_s) (gI K_s) := by
  refine wF_le (Nat.le_succ F_s) (sg_203_0 (h_s := h_s) hk ?_)
  have b11 : (-11 : Int32).toInt = -11 := rfl
  have b12 : (-12 : Int32).toInt = -12 := rfl
  have no_s : ¬ okD x1_s → K_s (-1) h_s := t1_s
  unfold okD at no_s
  refine ⟨fun c1_s => no_s (by omega), fun c1_s => ⟨fun c2_s => no_s (by omega), fun c2_s => ⟨fun c3_s => no_s (by omega), fun c3_s => ⟨fun c4_s => no_s (by omega), fun c4_s => ⟨fun c5_s => no_s (by omega), fun c5_s => fun c8_s => ?_⟩⟩⟩⟩⟩
  have ok_s : okD x1_s := by
    unfold okD
    omega
  have t2_s := t2_s ok_s
  have t3_s := t3_s ok_s
  unfold rwE rfB at t2_s t3_s
  refine ⟨fun c9_s => ?_, fun c9_s => ⟨fun c15_s => fun c18_s => ⟨fun c19_s => ?_, fun c19_s => ⟨fun c21 => ?_, fun c21 => ?_⟩⟩, fun c15_s => ?_⟩⟩
  · simp only [if_pos c9_s, if_neg (show ¬ (-11 : Int) = 0 by decide)] at t2_s
    exact t2_s (by decide) _ b11
  · simp only [if_neg c9_s, if_pos c15_s, if_pos c19_s] at t2_s
    exact t2_s (by decide) _ b11
  · simp only [if_neg c9_s, if_pos c15_s, if_neg c19_s, if_pos c21] at t3_s
    exact t3_s (by decide)
  · simp only [if_neg c9_s, if_pos c15_s, if_neg c19_s, if_neg c21] at t2_s
    exact t2_s (by decide) _ b12
  · simp only [if_neg c9_s, if_neg c15_s, if_neg (show ¬ (-12 : Int) = 0 by decide)] at t2_s
    exact t2_s (by decide) _ b12
theorem sp_139 {F_s i_s : Nat} (hk : hKn h_s) (e2_s : x2_s.toInt = (i_s : Int)) (hi_s : i_s < 8) (t_s : ∀ f1_s, (∀ k_s, k_s < 7 → f1_s 88 k_s = f0_s (20 + i_s) k_s) → (∀ a_s k_s, ¬ (a_s = 88 ∧ k_s < 7) → f1_s a_s k_s = f0_s a_s k_s) → KR_s 88 (h_s.1, f1_s, h_s.2.2.1, h_s.2.2.2)) : wF F_s 139 (0, [some (.ref 6), some (.int x2_s)], [], (h_s.1, f0_s, h_s.2.2.1, h_s.2.2.2)) (gR KR_s) := by
  have z_s := azix (i := x2_s) (by omega)
  have ez : zix x2_s = i_s := by omega
  refine wF_le (Nat.le_succ F_s) (sg_139_0 (h_s := (h_s.1, f0_s, h_s.2.2.1, h_s.2.2.2)) hk ?_)
  rw [ez]
  exact fun _ => sp_35 hk (by omega) (fun f1_s g1 g2 _ => t_s f1_s g1 g2)
/-- a journey's thought, as it begins -/
theorem th_cw {f1_s : Nat → Nat → Int32} {i_s : Nat} (hc_s : tC nh ni nr f0_s) (hi_s : i_s < ni) (g1 : ∀ k_s, k_s < 7 → f1_s 88 k_s = f0_s (20 + i_s) k_s) (g2 : f1_s 7 6 = f0_s 7 6) (g3_s : ∀ k_s, f1_s 8 k_s = f0_s 8 k_s) : cwO f1_s 88 (owI f0_s i_s) := by
  have u_s := tC_cw hc_s hi_s
  refine ⟨fun k_s hk6 => by rw [g1 k_s (by omega)]; exact u_s.1 k_s hk6, ?_⟩
  rw [g1 6 (by omega), g2, g3_s]
  exact u_s.2
theorem goJ_fr {f_s f1_s : Nat → Nat → Int32} {c_s : Nat → Int64} (e_s : ∀ k_s, f1_s 103 k_s = f_s 103 k_s) : goJ lw f1_s c_s = goJ lw f_s c_s := by
  funext o k_s
  exact goF_fr e_s
theorem owI_fr {f_s f1_s : Nat → Nat → Int32} {i_s : Nat} (e_s : ∀ k_s, f1_s 103 k_s = f_s 103 k_s) : owI f1_s i_s = owI f_s i_s := by
  funext k_s
  unfold owI
  rw [e_s, e_s, e_s]
theorem pr_judge {F_s : Nat} (hk : hKn h_s) (hs : tS h_s) (hx : tX h_s) : wF F_s 110 (0, [some (.ref 6), some (.int x1_s), some (.int x2_s), none], [], h_s) (gI (fun v_s h1 => wF F_s 205 (0, [some (.ref 102), some (.int x1_s), some (.int x2_s)], [], h1) (gI (fun v2 _ => v_s = v2)))) := by
  obtain ⟨nh, ni, nr, hc_s, _, _, _, _, hl⟩ := hx
  obtain ⟨q_s, q2_s, lw, l1, l2, l3, l4, l5⟩ := hl
  have hm_s : q_s = 14 ∨ q_s = 17 := by omega
  have m0_s := tC_M hc_s
  have b_s := hc_s.1
  have e77 := hc_s.2.1.2.1
  have e78 := hc_s.2.1.2.2
  have e27_s := sb1 m0_s.2.1.2.1
  have n1_s : (-1 : Int32).toInt = -1 := rfl
  -- the reference_s where the class refuses_s
  have rf1 : ¬ (okD x1_s ∧ 0 ≤ x2_s.toInt ∧ x2_s.toInt < (ni : Int)) → wF F_s 205 (0, [some (.ref 102), some (.int x1_s), some (.int x2_s)], [], h_s) (gI (fun v2 _ => (-1 : Int32) = v2)) := fun w_s => by
    refine wF_le (Nat.le_succ F_s) (sg_205_0 (h_s := h_s) hk ?_)
    refine sp_203 hk (fun _ _ => ⟨fun _ => rfl, fun c_s => absurd n1_s c_s⟩) (fun ok_s nz v1_s ev1 _ => ⟨fun c_s => ?_, fun _ => ?_⟩) (fun ok_s ez _ => ⟨fun c_s => absurd c_s (by decide), fun _ => ?_⟩)
    · have := rwE_v h_s.2.1 x1_s
      omega
    · rw [e27_s]
      exact ⟨fun _ => rfl, fun c2_s => ⟨fun _ => rfl, fun c3_s => absurd ⟨ok_s, by omega, by omega⟩ w_s⟩⟩
    · rw [e27_s]
      exact ⟨fun _ => rfl, fun c2_s => ⟨fun _ => rfl, fun c3_s => absurd ⟨ok_s, by omega, by omega⟩ w_s⟩⟩
  have rf2 : okD x1_s → 0 ≤ x2_s.toInt → x2_s.toInt < (ni : Int) → ¬ rwE h_s.2.1 x1_s = 0 → ∀ v_s : Int32, v_s.toInt = rwE h_s.2.1 x1_s → wF F_s 205 (0, [some (.ref 102), some (.int x1_s), some (.int x2_s)], [], h_s) (gI (fun v2 _ => v_s = v2)) := fun ok_s i0_s i1_s nz v_s ev_s => by
    refine wF_le (Nat.le_succ F_s) (sg_205_0 (h_s := h_s) hk ?_)
    have rv_s := rwE_v h_s.2.1 x1_s
    refine sp_203 hk (fun w_s => absurd ok_s w_s) (fun _ _ v1_s ev1 _ => ⟨fun c_s => ?_, fun _ => ?_⟩) (fun _ ez => absurd ez nz)
    · omega
    · rw [e27_s]
      refine ⟨fun c_s => absurd c_s (by omega), fun _ => ⟨fun c_s => absurd c_s (by omega), fun _ => ?_⟩⟩
      exact sp_203 hk (fun w_s => absurd ok_s w_s) (fun _ _ v5 ev5 _ => ⟨fun _ => sp_203 hk (fun w_s => absurd ok_s w_s) (fun _ _ v7 ev7 _ => Int32.toInt_inj.mp (ev_s.trans ev7.symm)) (fun _ ez => absurd ez nz), fun c_s => absurd (show v5.toInt < 0 by omega) c_s⟩) (fun _ ez => absurd ez nz)
  have cl1 : ∀ P_s : Prop, ¬ P_s → (okD x1_s ∧ 0 ≤ x2_s.toInt ∧ x2_s.toInt < (ni : Int) → P_s) → wF F_s 205 (0, [some (.ref 102), some (.int x1_s), some (.int x2_s)], [], h_s) (gI (fun v2 _ => (-1 : Int32) = v2)) := fun P_s np w_s => rf1 (fun u_s => np (w_s u_s))
  unfold okD at cl1
  refine wF_le (Nat.le_succ F_s) (sg_110_0 (h_s := h_s) hk ?_)
  rw [e77]
  refine ⟨fun c1_s => cl1 False id (fun u_s => by omega), fun c1_s => ⟨fun c2_s => cl1 False id (fun u_s => by omega), fun c2_s => ⟨fun c3_s => ⟨fun c4_s => cl1 False id (fun u_s => by omega), fun c4_s => ⟨fun c5_s => ⟨fun c6_s => cl1 False id (fun u_s => by omega), fun c6_s => ⟨fun c7_s => fun c8_s => ?_, fun c7_s => cl1 False id (fun u_s => by omega)⟩⟩, fun c5_s => cl1 False id (fun u_s => by omega)⟩⟩, fun c3_s => cl1 False id (fun u_s => by omega)⟩⟩⟩
  have ok_s : okD x1_s := by
    unfold okD
    omega
  have rf2 := rf2 ok_s (by omega) c7_s
  have z1 := azix (i := x1_s / 10) (by omega)
  have z2 := azix (i := x1_s - x1_s / 10 * 10) (by omega)
  have ts1 := (hs.1 (zix (x1_s / 10)) c8_s).1
  refine sp_140 hk c8_s ts1 (fun v9 e9_s _ => ⟨fun c9_s => fun c10_s => ?_, fun c9_s => ?_⟩)
  · have r0 : rfB h_s.2.1 (zix (x1_s / 10)) = 0 := by omega
    have rw2 : rwE h_s.2.1 x1_s = rfB h_s.2.1 (zix (x1_s - x1_s / 10 * 10)) := if_pos r0
    rw [rw2] at rf2
    have ts2 := (hs.1 (zix (x1_s - x1_s / 10 * 10)) c10_s).1
    refine sp_140 hk c10_s ts2 (fun v12 e12_s _ => ⟨fun c12_s => ?_, fun c12_s => rf2 (by omega) v12 e12_s⟩)
    have r2 : rfB h_s.2.1 (zix (x1_s - x1_s / 10 * 10)) = 0 := by omega
    have rz : rwE h_s.2.1 x1_s = 0 := rw2.trans r2
    obtain ⟨a1_s, a2, a3⟩ := row_of ts1 r0
    obtain ⟨b1, b2, b3⟩ := row_of ts2 r2
    have g1 := (hs.1 (zix (x1_s / 10)) c8_s).2
    have g2 := (hs.1 (zix (x1_s - x1_s / 10 * 10)) c10_s).2
    generalize hs1 : zix (x1_s / 10) = s1_s at *
    generalize hs2 : zix (x1_s - x1_s / 10 * 10) = s2_s at *
    refine sp_48 (f0_s := h_s.2.1) (nr := nr) hk c8_s e78 a2 (fun L_s f1_s hJ eL es fr1 hk1 => ?_)
    have hi_s : x2_s.toInt.toNat < ni := by omega
    have ei : x2_s.toInt = (x2_s.toInt.toNat : Int) := by omega
    generalize x2_s.toInt.toNat = i_s at hi_s ei
    have i8_s : i_s < 8 := by omega
    refine sp_139 (h_s := (h_s.1, f1_s, h_s.2.2.1, h_s.2.2.2)) (f0_s := f1_s) hk1 ei i8_s (fun f2_s t1_s t2_s hk2 => ?_)
    have fr2 : ∀ a_s k_s, ¬ (a_s = 50 ∧ k_s = 1) → ¬ a_s = 51 → ¬ (a_s = 88 ∧ k_s < 7) → f2_s a_s k_s = h_s.2.1 a_s k_s := fun a_s k_s q1_s q2_s q3_s => by
      rw [t2_s a_s k_s q3_s]
      exact fr1 a_s k_s q1_s q2_s
    have hJ2 : isJ nr (fun k_s => h_s.2.2.1 126 (60 * s1_s + k_s)) (h_s.2.1 125 s1_s).toInt L_s := by
      rw [a1_s]
      exact isJ_c (fun k_s hk60 => (g1 k_s hk60).symm) hJ
    have hc2 : tC nh ni nr f2_s := tC_fr (fun a_s k_s w_s => fr2 a_s k_s (by unfold inC at w_s; omega) (by unfold inC at w_s; omega) (by unfold inC at w_s; omega)) hc_s
    have lc2 : lawC q_s f2_s lw := lawC_fr hm_s (fun a_s k_s w_s => fr2 a_s k_s (by omega) (by omega) (by omega)) l4
    have cw2 : cwO f2_s 88 (owI h_s.2.1 i_s) := th_cw hc_s hi_s (fun k_s hk7 => by rw [t1_s k_s hk7]; exact fr1 _ _ (by omega) (by omega)) (fr2 _ _ (by omega) (by omega) (by omega)) (fun k_s => fr2 _ _ (by omega) (by omega) (by omega))
    have e3_s : f2_s (76 + 2 * s2_s) 3 = h_s.2.1 (76 + 2 * s2_s) 3 := fr2 _ _ (by omega) (by omega) (by omega)
    refine sp_51 (h_s := (h_s.1, f2_s, h_s.2.2.1, h_s.2.2.2)) (f0_s := f2_s) (L_s := L_s) (c_s := fun k_s => h_s.2.2.1 126 (60 * s1_s + k_s)) (told_s := fun n_s => h_s.2.2.1 126 (60 * s2_s + n_s)) (o := owI h_s.2.1 i_s) hk2 c10_s l1 hm_s lc2 (lawR_P l5) hc2 (by rw [t2_s 50 1 (by omega)]; exact eL) (fun k_s hkL => ?_) hJ2.2.2.1 (fun n_s hn60 => g2 n_s hn60) (by rw [e3_s]; exact b2) (by rw [e3_s]; exact b3) cw2 (tC_oB hc_s hi_s) (fun v_s f3_s ev_s fr3 _ => ?_)
    · rw [t2_s 51 k_s (by omega), es k_s hkL]
      have := hJ.1
      rw [g1 k_s (by omega)]
    · have fr4 : ∀ a_s k_s, 100 ≤ a_s → f3_s a_s k_s = h_s.2.1 a_s k_s := fun a_s k_s ha_s => by
        rw [fr3 a_s k_s (by omega) (by omega) (by omega) (by omega) (by omega)]
        exact fr2 a_s k_s (by omega) (by omega) (by omega)
      rw [goJ_fr (f_s := h_s.2.1) (fun k_s => fr2 103 k_s (by omega) (by omega) (by omega)), e3_s] at ev_s
      have m3_s : tM nh ni nr f3_s := tM_fr (fun k_s _ _ => fr4 _ _ (by omega)) (fun k_s _ => fr4 _ _ (by omega)) m0_s
      have lr3 : lawR f3_s lw := lawR_fr (fr4 _ _ (by omega)) (fun k_s _ => fr4 _ _ (by omega)) l5
      have e273 := sb1 m3_s.2.1.2.1
      have rz3 : rwE f3_s x1_s = 0 := (rwE_fr (fun k_s => fr4 124 k_s (by omega))).trans rz
      refine wF_le (Nat.le_succ F_s) (sg_205_0 (h_s := (h_s.1, f3_s, h_s.2.2.1, h_s.2.2.2)) hk ?_)
      refine sp_203 (h_s := (h_s.1, f3_s, h_s.2.2.1, h_s.2.2.2)) hk (fun w_s => absurd ok_s w_s) (fun _ nz => absurd rz3 nz) (fun _ _ _ => ⟨fun c_s => absurd c_s (by decide), fun _ => ?_⟩)
      dsimp only
      rw [e273]
      refine ⟨fun c_s => absurd c_s (by omega), fun _ => ⟨fun c_s => absurd c_s (by omega), fun _ => ?_⟩⟩
      refine sp_203 (h_s := (h_s.1, f3_s, h_s.2.2.1, h_s.2.2.2)) hk (fun w_s => absurd ok_s w_s) (fun _ nz => absurd rz3 nz) (fun _ _ _ => ⟨fun c_s => absurd c_s (by decide), fun _ => ?_⟩)
      refine sp_204 (h_s := (h_s.1, f3_s, h_s.2.2.1, h_s.2.2.2)) (f0_s := f3_s) (i_s := i_s) (s1_s := s1_s) (s2_s := s2_s) (L_s := L_s) (c_s := fun k_s => h_s.2.2.1 126 (60 * s1_s + k_s)) (told_s := fun n_s => h_s.2.2.1 126 (60 * s2_s + n_s)) hk m3_s lr3 (lawR_P l5) ei hi_s z1.symm z2.symm c8_s c10_s (by rw [fr4 125 _ (by omega), a1_s]; exact a2) (by rw [fr4 125 _ (by omega), b1]; exact b2) (by rw [fr4 125 _ (by omega), b1]; exact b3) (fun _ => rfl) (fun _ => rfl) (by rw [fr4 125 _ (by omega)]; exact hJ2) (fun v2 f4_s ev2 _ _ => ?_)
      rw [goJ_fr (f_s := h_s.2.1) (fun k_s => fr4 103 k_s (by omega)), owI_fr (f_s := h_s.2.1) (fun k_s => fr4 103 k_s (by omega)), fr4 125 _ (by omega), b1] at ev2
      exact Int32.toInt_inj.mp (ev_s.trans ev2.symm)
  · have e_s : rwE h_s.2.1 x1_s = rfB h_s.2.1 (zix (x1_s / 10)) := if_neg (by omega)
    rw [e_s] at rf2
    exact rf2 (by omega) v9 e9_s
end JU
/-! What ended runs give: printed by a program (wip/fun/sg.py). -/
/-- ColdShod.journey(III)I, from 0 on -/
theorem sg_103_0 {F_s : Nat} {x1_s : Int32} {x2_s : Int32} {x3 : Int32} {h_s : zH} {K_s : Int32 → zH → Prop} (hk : hKn h_s) (t_s : (x1_s.toInt < 0 → K_s (-1) h_s) ∧ (¬ x1_s.toInt < 0 → ((x1_s.toInt < 6 → ((x2_s.toInt < 0 → K_s (-1) h_s) ∧ (¬ x2_s.toInt < 0 → ((x2_s.toInt < (h_s.2.1 7 7).toInt → ((x3.toInt < 0 → K_s (-1) h_s) ∧ (¬ x3.toInt < 0 → ((4 < x3.toInt → K_s (-1) h_s) ∧ (¬ 4 < x3.toInt → (zix x1_s < 6 → wF F_s 140 (0, [some (.ref (76 + 2 * (zix x1_s)))], [], h_s) (gI (fun v8 h8 => hKn h8 → (v8.toInt = 0 → wF F_s 48 (0, [some (.ref 50), some (.ref (76 + 2 * (zix x1_s))), some (.int (h8.2.1 7 8)), none, none, none], [], h8) (gV (fun h11 => hKn h11 → wF F_s 139 (0, [some (.ref 6), some (.int x2_s)], [], h11) (gR (fun v12 h12 => hKn h12 → wF F_s 49 (0, [some (.ref 50), some (.ref v12), some (.ref 7), none], [], h12) (gI (fun v13 h13 => hKn h13 → (x3.toInt = 0 → K_s (h13.2.1 50 2) h13) ∧ (¬ x3.toInt = 0 → (x3.toInt = 1 → K_s (h13.2.1 50 3) h13) ∧ (¬ x3.toInt = 1 → (x3.toInt = 2 → K_s (h13.2.1 v12 2) h13) ∧ (¬ x3.toInt = 2 → (x3.toInt = 3 → K_s (h13.2.1 v12 3) h13) ∧ (¬ x3.toInt = 3 → ((v13.toInt = 0 → K_s (h13.2.1 50 3) h13) ∧ (¬ v13.toInt = 0 → K_s (-2) h13))))))))))))) ∧ (¬ v8.toInt = 0 → K_s v8 h8))))))))) ∧ (¬ x2_s.toInt < (h_s.2.1 7 7).toInt → K_s (-1) h_s))))) ∧ (¬ x1_s.toInt < 6 → K_s (-1) h_s)))) : wF (F_s + 1) 103 (0, [some (.ref 6), some (.int x1_s), some (.int x2_s), some (.int x3), none, none, none], [], h_s) (gI K_s) := by
  refine w_0 (pc := 0) (e_s := (1, 1, 1, 0, 0, .null, [])) (y_s := (1, [some (.ref _), some (.int _), some (.int _), some (.int _), none, none, none], [.int _], _)) rfl (u_ rfl) ?_
  refine wcI (pc := 1) (len_s := 3) rfl rfl (l := [some (.int _)]) rfl ?_
  refine w_t (pc := 0) (e_s := (1, 1, 0, 0, 0, .null, [])) (y_s := (1, [some (.int _)], [.int _], _)) rfl (u_ rfl) ?_
  refine wq2 (pc := 1) (len_s := 3) rfl rfl (fun c1_s => ?_) (fun c1_s => ?_)
  · replace t_s := t_s.1 c1_s
    refine w_t (pc := 14) (e_s := (0, 1, 0, 0, 0, .int 0, [])) (y_s := (15, [some (.int _)], [.int _], _)) rfl (u_ rfl) ?_
    refine wrI (pc := 15) (len_s := 1) rfl hk ?_
    show wF _ 103 (4, [some (.ref _), some (.int _), some (.int _), some (.int _), none, none, none], [.int _], _) _
    refine w_t (pc := 4) (e_s := (15, 3, 27, 0, 0, .null, [])) (y_s := (27, [some (.ref _), some (.int _), some (.int _), some (.int _), none, none, none], [], _)) rfl (u_ rfl) ?_
    refine w_t (pc := 27) (e_s := (0, 1, 0, 0, 0, .int (-1), [])) (y_s := (28, [some (.ref _), some (.int _), some (.int _), some (.int _), none, none, none], [.int _], _)) rfl (u_ rfl) ?_
    exact wrI (pc := 28) (len_s := 1) rfl hk t_s
  · replace t_s := t_s.2 c1_s
    refine w_t (pc := 4) (e_s := (1, 1, 0, 0, 0, .null, [])) (y_s := (5, [some (.int _)], [.int _], _)) rfl (u_ rfl) ?_
    refine w_t (pc := 5) (e_s := (0, 2, 0, 0, 0, .int 6, [])) (y_s := (7, [some (.int _)], [.int _, .int _], _)) rfl (u_ rfl) ?_
    refine wi3 (pc := 7) (len_s := 3) (Y := 6) rfl rfl (by decide) (fun c2_s => ?_) (fun c2_s => ?_)
    · replace t_s := t_s.1 c2_s
      refine w_t (pc := 10) (e_s := (0, 1, 0, 0, 0, .int 1, [])) (y_s := (11, [some (.int _)], [.int _], _)) rfl (u_ rfl) ?_
      refine w_t (pc := 11) (e_s := (17, 3, 15, 0, 0, .null, [])) (y_s := (15, [some (.int _)], [.int _], _)) rfl (u_ rfl) ?_
      refine wrI (pc := 15) (len_s := 1) rfl hk ?_
      show wF _ 103 (4, [some (.ref _), some (.int _), some (.int _), some (.int _), none, none, none], [.int _], _) _
      refine w_t (pc := 4) (e_s := (15, 3, 27, 0, 0, .null, [])) (y_s := (7, [some (.ref _), some (.int _), some (.int _), some (.int _), none, none, none], [], _)) rfl (u_ rfl) ?_
      refine w_t (pc := 7) (e_s := (3, 1, 0, 0, 0, .null, [])) (y_s := (8, [some (.ref _), some (.int _), some (.int _), some (.int _), none, none, none], [.ref _], _)) rfl (u_ rfl) ?_
      refine w20r (pc := 8) (len_s := 3) (q_s := 7) rfl (krq hk rfl) ?_
      refine w_t (pc := 11) (e_s := (1, 1, 2, 0, 0, .null, [])) (y_s := (12, [some (.ref _), some (.int _), some (.int _), some (.int _), none, none, none], [.int _, .ref _], _)) rfl (u_ rfl) ?_
      refine wcI (pc := 12) (len_s := 3) rfl rfl (l := [some (.ref _), some (.int _)]) rfl ?_
      refine w_t (pc := 0) (e_s := (1, 1, 1, 0, 0, .null, [])) (y_s := (1, [some (.ref _), some (.int _)], [.int _], _)) rfl (u_ rfl) ?_
      refine wq2 (pc := 1) (len_s := 3) rfl rfl (fun c3_s => ?_) (fun c3_s => ?_)
      · replace t_s := t_s.1 c3_s
        refine w_t (pc := 16) (e_s := (0, 1, 0, 0, 0, .int 0, [])) (y_s := (17, [some (.ref _), some (.int _)], [.int _], _)) rfl (u_ rfl) ?_
        refine wrI (pc := 17) (len_s := 1) rfl hk ?_
        show wF _ 103 (15, [some (.ref _), some (.int _), some (.int _), some (.int _), none, none, none], [.int _], _) _
        refine w_t (pc := 15) (e_s := (15, 3, 27, 0, 0, .null, [])) (y_s := (27, [some (.ref _), some (.int _), some (.int _), some (.int _), none, none, none], [], _)) rfl (u_ rfl) ?_
        refine w_t (pc := 27) (e_s := (0, 1, 0, 0, 0, .int (-1), [])) (y_s := (28, [some (.ref _), some (.int _), some (.int _), some (.int _), none, none, none], [.int _], _)) rfl (u_ rfl) ?_
        exact wrI (pc := 28) (len_s := 1) rfl hk t_s
      · replace t_s := t_s.2 c3_s
        refine w_t (pc := 4) (e_s := (1, 1, 1, 0, 0, .null, [])) (y_s := (5, [some (.ref _), some (.int _)], [.int _], _)) rfl (u_ rfl) ?_
        refine w_t (pc := 5) (e_s := (3, 1, 0, 0, 0, .null, [])) (y_s := (6, [some (.ref _), some (.int _)], [.ref _, .int _], _)) rfl (u_ rfl) ?_
        refine w20 (pc := 6) (len_s := 3) rfl ?_
        refine wi3 (pc := 9) (len_s := 3) rfl rfl rfl (fun c4_s => ?_) (fun c4_s => ?_)
        · replace t_s := t_s.1 c4_s
          refine w_t (pc := 12) (e_s := (0, 1, 0, 0, 0, .int 1, [])) (y_s := (13, [some (.ref _), some (.int _)], [.int _], _)) rfl (u_ rfl) ?_
          refine w_t (pc := 13) (e_s := (17, 3, 17, 0, 0, .null, [])) (y_s := (17, [some (.ref _), some (.int _)], [.int _], _)) rfl (u_ rfl) ?_
          refine wrI (pc := 17) (len_s := 1) rfl hk ?_
          show wF _ 103 (15, [some (.ref _), some (.int _), some (.int _), some (.int _), none, none, none], [.int _], _) _
          refine w_t (pc := 15) (e_s := (15, 3, 27, 0, 0, .null, [])) (y_s := (18, [some (.ref _), some (.int _), some (.int _), some (.int _), none, none, none], [], _)) rfl (u_ rfl) ?_
          refine w_t (pc := 18) (e_s := (1, 1, 3, 0, 0, .null, [])) (y_s := (19, [some (.ref _), some (.int _), some (.int _), some (.int _), none, none, none], [.int _], _)) rfl (u_ rfl) ?_
          refine wq2 (pc := 19) (len_s := 3) rfl rfl (fun c5_s => ?_) (fun c5_s => ?_)
          · replace t_s := t_s.1 c5_s
            refine w_t (pc := 27) (e_s := (0, 1, 0, 0, 0, .int (-1), [])) (y_s := (28, [some (.ref _), some (.int _), some (.int _), some (.int _), none, none, none], [.int _], _)) rfl (u_ rfl) ?_
            exact wrI (pc := 28) (len_s := 1) rfl hk t_s
          · replace t_s := t_s.2 c5_s
            refine w_t (pc := 22) (e_s := (1, 1, 3, 0, 0, .null, [])) (y_s := (23, [some (.ref _), some (.int _), some (.int _), some (.int _), none, none, none], [.int _], _)) rfl (u_ rfl) ?_
            refine w_t (pc := 23) (e_s := (0, 1, 0, 0, 0, .int 4, [])) (y_s := (24, [some (.ref _), some (.int _), some (.int _), some (.int _), none, none, none], [.int _, .int _], _)) rfl (u_ rfl) ?_
            refine wi5 (pc := 24) (len_s := 3) (Y := 4) rfl rfl (by decide) (fun c6_s => ?_) (fun c6_s => ?_)
            · replace t_s := t_s.1 c6_s
              refine w_t (pc := 27) (e_s := (0, 1, 0, 0, 0, .int (-1), [])) (y_s := (28, [some (.ref _), some (.int _), some (.int _), some (.int _), none, none, none], [.int _], _)) rfl (u_ rfl) ?_
              exact wrI (pc := 28) (len_s := 1) rfl hk t_s
            · replace t_s := t_s.2 c6_s
              refine w_t (pc := 29) (e_s := (3, 1, 0, 0, 0, .null, [])) (y_s := (30, [some (.ref _), some (.int _), some (.int _), some (.int _), none, none, none], [.ref _], _)) rfl (u_ rfl) ?_
              refine w20r (pc := 30) (len_s := 3) (q_s := 71) rfl (krq hk rfl) ?_
              refine w_t (pc := 33) (e_s := (1, 1, 1, 0, 0, .null, [])) (y_s := (34, [some (.ref _), some (.int _), some (.int _), some (.int _), none, none, none], [.int _, .ref _], _)) rfl (u_ rfl) ?_
              refine w24 (g_s := fun j_ => 76 + 2 * j_) (pc := 34) (len_s := 1) hk rfl (hk.1 71 4 6 rfl rfl) kg71 (fun c7_s => ?_)
              replace t_s := t_s c7_s
              refine wcI (pc := 35) (len_s := 3) rfl rfl (l := [some (.ref _)]) rfl (wmI t_s (fun v8 h8 hk t_s => ?_))
              replace t_s := t_s hk
              refine w_t (pc := 38) (e_s := (4, 2, 4, 0, 0, .null, [])) (y_s := (40, [some (.ref _), some (.int _), some (.int _), some (.int _), some (.int _), none, none], [], _)) rfl (u_ rfl) ?_
              refine w_t (pc := 40) (e_s := (1, 2, 4, 0, 0, .null, [])) (y_s := (42, [some (.ref _), some (.int _), some (.int _), some (.int _), some (.int _), none, none], [.int _], _)) rfl (u_ rfl) ?_
              refine wq0 (pc := 42) (len_s := 3) rfl rfl (fun c9_s => ?_) (fun c9_s => ?_)
              · replace t_s := t_s.1 c9_s
                refine w_t (pc := 48) (e_s := (3, 1, 0, 0, 0, .null, [])) (y_s := (49, [some (.ref _), some (.int _), some (.int _), some (.int _), some (.int _), none, none], [.ref _], _)) rfl (u_ rfl) ?_
                refine w20r (pc := 49) (len_s := 3) (q_s := 50) rfl (krq hk rfl) ?_
                refine w_t (pc := 52) (e_s := (3, 1, 0, 0, 0, .null, [])) (y_s := (53, [some (.ref _), some (.int _), some (.int _), some (.int _), some (.int _), none, none], [.ref _, .ref _], _)) rfl (u_ rfl) ?_
                refine w20r (pc := 53) (len_s := 3) (q_s := 71) rfl (krq hk rfl) ?_
                refine w_t (pc := 56) (e_s := (1, 1, 1, 0, 0, .null, [])) (y_s := (57, [some (.ref _), some (.int _), some (.int _), some (.int _), some (.int _), none, none], [.int _, .ref _, .ref _], _)) rfl (u_ rfl) ?_
                refine w24 (g_s := fun j_ => 76 + 2 * j_) (pc := 57) (len_s := 1) hk rfl (hk.1 71 4 6 rfl rfl) kg71 (fun c10_s => ?_)
                refine w_t (pc := 58) (e_s := (3, 1, 0, 0, 0, .null, [])) (y_s := (59, [some (.ref _), some (.int _), some (.int _), some (.int _), some (.int _), none, none], [.ref _, .ref _, .ref _], _)) rfl (u_ rfl) ?_
                refine w20r (pc := 59) (len_s := 3) (q_s := 7) rfl (krq hk rfl) ?_
                refine w20 (pc := 62) (len_s := 3) rfl ?_
                refine wcV (pc := 65) (len_s := 3) rfl rfl (l := [some (.ref _), some (.ref _), some (.int _), none, none, none]) rfl (wmV t_s (fun h11 hk t_s => ?_))
                replace t_s := t_s hk
                refine w_t (pc := 68) (e_s := (3, 1, 0, 0, 0, .null, [])) (y_s := (69, [some (.ref _), some (.int _), some (.int _), some (.int _), some (.int _), none, none], [.ref _], _)) rfl (u_ rfl) ?_
                refine w_t (pc := 69) (e_s := (1, 1, 2, 0, 0, .null, [])) (y_s := (70, [some (.ref _), some (.int _), some (.int _), some (.int _), some (.int _), none, none], [.int _, .ref _], _)) rfl (u_ rfl) ?_
                refine wcR (pc := 70) (len_s := 3) rfl rfl (l := [some (.ref _), some (.int _)]) rfl (wmR t_s (fun v12 h12 hk t_s => ?_))
                replace t_s := t_s hk
                refine w_t (pc := 73) (e_s := (6, 2, 5, 0, 0, .null, [])) (y_s := (75, [some (.ref _), some (.int _), some (.int _), some (.int _), some (.int _), some (.ref _), none], [], _)) rfl (u_ rfl) ?_
                refine w_t (pc := 75) (e_s := (3, 1, 0, 0, 0, .null, [])) (y_s := (76, [some (.ref _), some (.int _), some (.int _), some (.int _), some (.int _), some (.ref _), none], [.ref _], _)) rfl (u_ rfl) ?_
                refine w20r (pc := 76) (len_s := 3) (q_s := 50) rfl (krq hk rfl) ?_
                refine w_t (pc := 79) (e_s := (3, 2, 5, 0, 0, .null, [])) (y_s := (81, [some (.ref _), some (.int _), some (.int _), some (.int _), some (.int _), some (.ref _), none], [.ref _, .ref _], _)) rfl (u_ rfl) ?_
                refine w_t (pc := 81) (e_s := (3, 1, 0, 0, 0, .null, [])) (y_s := (82, [some (.ref _), some (.int _), some (.int _), some (.int _), some (.int _), some (.ref _), none], [.ref _, .ref _, .ref _], _)) rfl (u_ rfl) ?_
                refine w20r (pc := 82) (len_s := 3) (q_s := 7) rfl (krq hk rfl) ?_
                refine wcI (pc := 85) (len_s := 3) rfl rfl (l := [some (.ref _), some (.ref _), some (.ref _), none]) rfl (wmI t_s (fun v13 h13 hk t_s => ?_))
                replace t_s := t_s hk
                refine w_t (pc := 88) (e_s := (4, 2, 6, 0, 0, .null, [])) (y_s := (90, [some (.ref _), some (.int _), some (.int _), some (.int _), some (.int _), some (.ref _), some (.int _)], [], _)) rfl (u_ rfl) ?_
                refine w_t (pc := 90) (e_s := (1, 1, 3, 0, 0, .null, [])) (y_s := (91, [some (.ref _), some (.int _), some (.int _), some (.int _), some (.int _), some (.ref _), some (.int _)], [.int _], _)) rfl (u_ rfl) ?_
                refine wsw (pc := 91) (len_s := 29) rfl ?_
                refine wsc (X_s := 0) rfl (by decide) (fun c14_s => ?_) (fun c14_s => ?_)
                · replace t_s := t_s.1 c14_s
                  refine w_t (pc := 120) (e_s := (3, 1, 0, 0, 0, .null, [])) (y_s := (121, [some (.ref _), some (.int _), some (.int _), some (.int _), some (.int _), some (.ref _), some (.int _)], [.ref _], _)) rfl (u_ rfl) ?_
                  refine w20r (pc := 121) (len_s := 3) (q_s := 50) rfl (krq hk rfl) ?_
                  refine w20 (pc := 124) (len_s := 3) rfl ?_
                  exact wrI (pc := 127) (len_s := 1) rfl hk t_s
                · replace t_s := t_s.2 c14_s
                  refine wsc (X_s := 1) rfl (by decide) (fun c15_s => ?_) (fun c15_s => ?_)
                  · replace t_s := t_s.1 c15_s
                    refine w_t (pc := 128) (e_s := (3, 1, 0, 0, 0, .null, [])) (y_s := (129, [some (.ref _), some (.int _), some (.int _), some (.int _), some (.int _), some (.ref _), some (.int _)], [.ref _], _)) rfl (u_ rfl) ?_
                    refine w20r (pc := 129) (len_s := 3) (q_s := 50) rfl (krq hk rfl) ?_
                    refine w20 (pc := 132) (len_s := 3) rfl ?_
                    exact wrI (pc := 135) (len_s := 1) rfl hk t_s
                  · replace t_s := t_s.2 c15_s
                    refine wsc (X_s := 2) rfl (by decide) (fun c16 => ?_) (fun c16 => ?_)
                    · replace t_s := t_s.1 c16
                      refine w_t (pc := 136) (e_s := (3, 2, 5, 0, 0, .null, [])) (y_s := (138, [some (.ref _), some (.int _), some (.int _), some (.int _), some (.int _), some (.ref _), some (.int _)], [.ref _], _)) rfl (u_ rfl) ?_
                      refine w20 (pc := 138) (len_s := 3) rfl ?_
                      exact wrI (pc := 141) (len_s := 1) rfl hk t_s
                    · replace t_s := t_s.2 c16
                      refine wsc (X_s := 3) rfl (by decide) (fun c17 => ?_) (fun c17 => ?_)
                      · replace t_s := t_s.1 c17
                        refine w_t (pc := 142) (e_s := (3, 2, 5, 0, 0, .null, [])) (y_s := (144, [some (.ref _), some (.int _), some (.int _), some (.int _), some (.int _), some (.ref _), some (.int _)], [.ref _], _)) rfl (u_ rfl) ?_
                        refine w20 (pc := 144) (len_s := 3) rfl ?_
                        exact wrI (pc := 147) (len_s := 1) rfl hk t_s
                      · replace t_s := t_s.2 c17
                        show wF _ _ (148, _, _, _) _
                        refine w_t (pc := 148) (e_s := (1, 2, 6, 0, 0, .null, [])) (y_s := (150, [some (.ref _), some (.int _), some (.int _), some (.int _), some (.int _), some (.ref _), some (.int _)], [.int _], _)) rfl (u_ rfl) ?_
                        refine wq0 (pc := 150) (len_s := 3) rfl rfl (fun c18_s => ?_) (fun c18_s => ?_)
                        · replace t_s := t_s.1 c18_s
                          refine w_t (pc := 158) (e_s := (3, 1, 0, 0, 0, .null, [])) (y_s := (159, [some (.ref _), some (.int _), some (.int _), some (.int _), some (.int _), some (.ref _), some (.int _)], [.ref _], _)) rfl (u_ rfl) ?_
                          refine w20r (pc := 159) (len_s := 3) (q_s := 50) rfl (krq hk rfl) ?_
                          refine w20 (pc := 162) (len_s := 3) rfl ?_
                          exact wrI (pc := 165) (len_s := 1) rfl hk t_s
                        · replace t_s := t_s.2 c18_s
                          refine w_t (pc := 153) (e_s := (0, 2, 0, 0, 0, .int (-2), [])) (y_s := (155, [some (.ref _), some (.int _), some (.int _), some (.int _), some (.int _), some (.ref _), some (.int _)], [.int _], _)) rfl (u_ rfl) ?_
                          refine w_t (pc := 155) (e_s := (17, 3, 165, 0, 0, .null, [])) (y_s := (165, [some (.ref _), some (.int _), some (.int _), some (.int _), some (.int _), some (.ref _), some (.int _)], [.int _], _)) rfl (u_ rfl) ?_
                          exact wrI (pc := 165) (len_s := 1) rfl hk t_s
              · replace t_s := t_s.2 c9_s
                refine w_t (pc := 45) (e_s := (1, 2, 4, 0, 0, .null, [])) (y_s := (47, [some (.ref _), some (.int _), some (.int _), some (.int _), some (.int _), none, none], [.int _], _)) rfl (u_ rfl) ?_
                exact wrI (pc := 47) (len_s := 1) rfl hk t_s
        · replace t_s := t_s.2 c4_s
          refine w_t (pc := 16) (e_s := (0, 1, 0, 0, 0, .int 0, [])) (y_s := (17, [some (.ref _), some (.int _)], [.int _], _)) rfl (u_ rfl) ?_
          refine wrI (pc := 17) (len_s := 1) rfl hk ?_
          show wF _ 103 (15, [some (.ref _), some (.int _), some (.int _), some (.int _), none, none, none], [.int _], _) _
          refine w_t (pc := 15) (e_s := (15, 3, 27, 0, 0, .null, [])) (y_s := (27, [some (.ref _), some (.int _), some (.int _), some (.int _), none, none, none], [], _)) rfl (u_ rfl) ?_
          refine w_t (pc := 27) (e_s := (0, 1, 0, 0, 0, .int (-1), [])) (y_s := (28, [some (.ref _), some (.int _), some (.int _), some (.int _), none, none, none], [.int _], _)) rfl (u_ rfl) ?_
          exact wrI (pc := 28) (len_s := 1) rfl hk t_s
    · replace t_s := t_s.2 c2_s
      refine w_t (pc := 14) (e_s := (0, 1, 0, 0, 0, .int 0, [])) (y_s := (15, [some (.int _)], [.int _], _)) rfl (u_ rfl) ?_
      refine wrI (pc := 15) (len_s := 1) rfl hk ?_
      show wF _ 103 (4, [some (.ref _), some (.int _), some (.int _), some (.int _), none, none, none], [.int _], _) _
      refine w_t (pc := 4) (e_s := (15, 3, 27, 0, 0, .null, [])) (y_s := (27, [some (.ref _), some (.int _), some (.int _), some (.int _), none, none, none], [], _)) rfl (u_ rfl) ?_
      refine w_t (pc := 27) (e_s := (0, 1, 0, 0, 0, .int (-1), [])) (y_s := (28, [some (.ref _), some (.int _), some (.int _), some (.int _), none, none, none], [.int _], _)) rfl (u_ rfl) ?_
      exact wrI (pc := 28) (len_s := 1) rfl hk t_s
/-- ColdShodModel.journey(III)I, from 0 on -/
theorem sg_189_0 {F_s : Nat} {x1_s : Int32} {x2_s : Int32} {x3 : Int32} {h_s : zH} {K_s : Int32 → zH → Prop} (hk : hKn h_s) (t_s : (x1_s.toInt < 0 → K_s (-1) h_s) ∧ (¬ x1_s.toInt < 0 → ((5 < x1_s.toInt → K_s (-1) h_s) ∧ (¬ 5 < x1_s.toInt → (zix x1_s < 6 → ((h_s.2.1 124 (zix x1_s)).toInt < 0 → ((x2_s.toInt < 0 → K_s (-1) h_s) ∧ (¬ x2_s.toInt < 0 → ((((h_s.2.1 102 7) - 1).toInt < x2_s.toInt → K_s (-1) h_s) ∧ (¬ ((h_s.2.1 102 7) - 1).toInt < x2_s.toInt → ((x3.toInt < 0 → K_s (-1) h_s) ∧ (¬ x3.toInt < 0 → ((4 < x3.toInt → K_s (-1) h_s) ∧ (¬ 4 < x3.toInt → K_s (-11) h_s))))))))) ∧ (¬ (h_s.2.1 124 (zix x1_s)).toInt < 0 → (((h_s.2.1 124 (zix x1_s)).toInt = 50 → ((x2_s.toInt < 0 → K_s (-1) h_s) ∧ (¬ x2_s.toInt < 0 → ((((h_s.2.1 102 7) - 1).toInt < x2_s.toInt → K_s (-1) h_s) ∧ (¬ ((h_s.2.1 102 7) - 1).toInt < x2_s.toInt → ((x3.toInt < 0 → K_s (-1) h_s) ∧ (¬ x3.toInt < 0 → ((4 < x3.toInt → K_s (-1) h_s) ∧ (¬ 4 < x3.toInt → wF F_s 178 (0, [some (.ref 102), some (.int x2_s), none], [], h_s) (gV (fun h29 => hKn h29 → wF F_s 188 (0, [some (.ref 102), some (.int x1_s), none], [], h29) (gV (fun h30 => hKn h30 → (x3.toInt = 0 → K_s (h30.2.1 102 24) h30) ∧ (¬ x3.toInt = 0 → (x3.toInt = 1 → K_s (h30.2.1 102 25) h30) ∧ (¬ x3.toInt = 1 → (x3.toInt = 2 → K_s (h30.2.1 112 2) h30) ∧ (¬ x3.toInt = 2 → (x3.toInt = 3 → K_s (h30.2.1 112 3) h30) ∧ (¬ x3.toInt = 3 → wF F_s 187 (0, [some (.ref 102), some (.int x1_s), none], [], h30) (gI (fun v37 h37 => hKn h37 → ((h30.2.1 102 25).toInt < v37.toInt → K_s (h37.2.1 102 25) h37) ∧ (¬ (h30.2.1 102 25).toInt < v37.toInt → K_s (-2) h37)))))))))))))))))))) ∧ (¬ (h_s.2.1 124 (zix x1_s)).toInt = 50 → ((x2_s.toInt < 0 → K_s (-1) h_s) ∧ (¬ x2_s.toInt < 0 → ((((h_s.2.1 102 7) - 1).toInt < x2_s.toInt → K_s (-1) h_s) ∧ (¬ ((h_s.2.1 102 7) - 1).toInt < x2_s.toInt → ((x3.toInt < 0 → K_s (-1) h_s) ∧ (¬ x3.toInt < 0 → ((4 < x3.toInt → K_s (-1) h_s) ∧ (¬ 4 < x3.toInt → K_s (-12) h_s)))))))))))))))) : wF (F_s + 1) 189 (0, [some (.ref 102), some (.int x1_s), some (.int x2_s), some (.int x3)], [], h_s) (gI K_s) := by
  refine w_0 (pc := 0) (e_s := (3, 1, 0, 0, 0, .null, [])) (y_s := (1, [some (.ref _), some (.int _), some (.int _), some (.int _)], [.ref _], _)) rfl (u_ rfl) ?_
  refine w_t (pc := 1) (e_s := (1, 1, 1, 0, 0, .null, [])) (y_s := (2, [some (.ref _), some (.int _), some (.int _), some (.int _)], [.int _, .ref _], _)) rfl (u_ rfl) ?_
  refine wcI (pc := 2) (len_s := 3) rfl rfl (l := [some (.ref _), some (.int _)]) rfl ?_
  refine w_t (pc := 0) (e_s := (1, 1, 1, 0, 0, .null, [])) (y_s := (1, [some (.ref _), some (.int _)], [.int _], _)) rfl (u_ rfl) ?_
  refine wcI (pc := 1) (len_s := 3) rfl rfl (l := [some (.int _)]) rfl ?_
  refine w_t (pc := 0) (e_s := (1, 1, 0, 0, 0, .null, [])) (y_s := (1, [some (.int _)], [.int _], _)) rfl (u_ rfl) ?_
  refine w_t (pc := 1) (e_s := (10, 1, 0, 0, 0, .null, [])) (y_s := (2, [some (.int _)], [.long (Int32.toInt64 _)], _)) rfl (u_ rfl) ?_
  refine w_t (pc := 2) (e_s := (0, 1, 0, 0, 0, .long 0, [])) (y_s := (3, [some (.int _)], [.long _, .long _], _)) rfl (u_ rfl) ?_
  refine w_t (pc := 3) (e_s := (0, 3, 0, 0, 0, .long 5, [(0, 1063)])) (y_s := (6, [some (.int _)], [.long _, .long _, .long _], _)) rfl (u_ rfl) ?_
  refine wcI (pc := 6) (len_s := 3) rfl rfl (l := [some (.long _), none, some (.long _), none, some (.long _), none]) rfl ?_
  refine w_t (pc := 0) (e_s := (2, 1, 0, 0, 0, .null, [])) (y_s := (1, [some (.long _), none, some (.long _), none, some (.long _), none], [.long _], _)) rfl (u_ rfl) ?_
  refine w_t (pc := 1) (e_s := (2, 1, 2, 0, 0, .null, [])) (y_s := (2, [some (.long _), none, some (.long _), none, some (.long _), none], [.long _, .long _], _)) rfl (u_ rfl) ?_
  refine w_t (pc := 2) (e_s := (14, 1, 0, 0, 0, .null, [])) (y_s := (3, [some (.long _), none, some (.long _), none, some (.long _), none], [.int (lg_cmp _ _)], _)) rfl (u_ rfl) ?_
  refine wl2 (pc := 3) (len_s := 3) (Y := 0) rfl (Int32.toInt_toInt64 _) (by decide) (fun c1_s => ?_) (fun c1_s => ?_)
  · replace t_s := t_s.1 c1_s
    refine w_t (pc := 17) (e_s := (0, 1, 0, 0, 0, .int 0, [])) (y_s := (18, [some (.long _), none, some (.long _), none, some (.long _), none], [.int _], _)) rfl (u_ rfl) ?_
    refine wrI (pc := 18) (len_s := 1) rfl hk ?_
    show wF _ 228 (9, [some (.int _)], [.int _], _) _
    refine wrI (pc := 9) (len_s := 1) rfl hk ?_
    show wF _ 186 (4, [some (.ref _), some (.int _)], [.int _], _) _
    refine w_t (pc := 4) (e_s := (15, 3, 11, 1, 0, .null, [])) (y_s := (7, [some (.ref _), some (.int _)], [], _)) rfl (u_ rfl) ?_
    refine w_t (pc := 7) (e_s := (0, 1, 0, 0, 0, .int (-1), [])) (y_s := (8, [some (.ref _), some (.int _)], [.int _], _)) rfl (u_ rfl) ?_
    refine w_t (pc := 8) (e_s := (17, 3, 42, 0, 0, .null, [])) (y_s := (42, [some (.ref _), some (.int _)], [.int _], _)) rfl (u_ rfl) ?_
    refine wrI (pc := 42) (len_s := 1) rfl hk ?_
    show wF _ 189 (5, [some (.ref _), some (.int _), some (.int _), some (.int _)], [.int _], _) _
    refine w_t (pc := 5) (e_s := (0, 1, 0, 0, 0, .int (-1), [])) (y_s := (6, [some (.ref _), some (.int _), some (.int _), some (.int _)], [.int _, .int _], _)) rfl (u_ rfl) ?_
    refine w_t (pc := 6) (e_s := (16, 3, 30, 0, 0, .null, [])) (y_s := (30, [some (.ref _), some (.int _), some (.int _), some (.int _)], [], _)) rfl (u_ rfl) ?_
    refine w_t (pc := 30) (e_s := (0, 1, 0, 0, 0, .int (-1), [])) (y_s := (31, [some (.ref _), some (.int _), some (.int _), some (.int _)], [.int _], _)) rfl (u_ rfl) ?_
    exact wrI (pc := 31) (len_s := 1) rfl hk t_s
  · replace t_s := t_s.2 c1_s
    refine w_t (pc := 6) (e_s := (2, 1, 0, 0, 0, .null, [])) (y_s := (7, [some (.long _), none, some (.long _), none, some (.long _), none], [.long _], _)) rfl (u_ rfl) ?_
    refine w_t (pc := 7) (e_s := (2, 2, 4, 0, 0, .null, [])) (y_s := (9, [some (.long _), none, some (.long _), none, some (.long _), none], [.long _, .long _], _)) rfl (u_ rfl) ?_
    refine w_t (pc := 9) (e_s := (14, 1, 0, 0, 0, .null, [])) (y_s := (10, [some (.long _), none, some (.long _), none, some (.long _), none], [.int (lg_cmp _ _)], _)) rfl (u_ rfl) ?_
    refine wl4 (pc := 10) (len_s := 3) (Y := 5) rfl (Int32.toInt_toInt64 _) (by decide) (fun c2_s => ?_) (fun c2_s => ?_)
    · replace t_s := t_s.1 c2_s
      refine w_t (pc := 17) (e_s := (0, 1, 0, 0, 0, .int 0, [])) (y_s := (18, [some (.long _), none, some (.long _), none, some (.long _), none], [.int _], _)) rfl (u_ rfl) ?_
      refine wrI (pc := 18) (len_s := 1) rfl hk ?_
      show wF _ 228 (9, [some (.int _)], [.int _], _) _
      refine wrI (pc := 9) (len_s := 1) rfl hk ?_
      show wF _ 186 (4, [some (.ref _), some (.int _)], [.int _], _) _
      refine w_t (pc := 4) (e_s := (15, 3, 11, 1, 0, .null, [])) (y_s := (7, [some (.ref _), some (.int _)], [], _)) rfl (u_ rfl) ?_
      refine w_t (pc := 7) (e_s := (0, 1, 0, 0, 0, .int (-1), [])) (y_s := (8, [some (.ref _), some (.int _)], [.int _], _)) rfl (u_ rfl) ?_
      refine w_t (pc := 8) (e_s := (17, 3, 42, 0, 0, .null, [])) (y_s := (42, [some (.ref _), some (.int _)], [.int _], _)) rfl (u_ rfl) ?_
      refine wrI (pc := 42) (len_s := 1) rfl hk ?_
      show wF _ 189 (5, [some (.ref _), some (.int _), some (.int _), some (.int _)], [.int _], _) _
      refine w_t (pc := 5) (e_s := (0, 1, 0, 0, 0, .int (-1), [])) (y_s := (6, [some (.ref _), some (.int _), some (.int _), some (.int _)], [.int _, .int _], _)) rfl (u_ rfl) ?_
      refine w_t (pc := 6) (e_s := (16, 3, 30, 0, 0, .null, [])) (y_s := (30, [some (.ref _), some (.int _), some (.int _), some (.int _)], [], _)) rfl (u_ rfl) ?_
      refine w_t (pc := 30) (e_s := (0, 1, 0, 0, 0, .int (-1), [])) (y_s := (31, [some (.ref _), some (.int _), some (.int _), some (.int _)], [.int _], _)) rfl (u_ rfl) ?_
      exact wrI (pc := 31) (len_s := 1) rfl hk t_s
    · replace t_s := t_s.2 c2_s
      refine w_t (pc := 13) (e_s := (0, 1, 0, 0, 0, .int 1, [])) (y_s := (14, [some (.long _), none, some (.long _), none, some (.long _), none], [.int _], _)) rfl (u_ rfl) ?_
      refine w_t (pc := 14) (e_s := (17, 3, 18, 0, 0, .null, [])) (y_s := (18, [some (.long _), none, some (.long _), none, some (.long _), none], [.int _], _)) rfl (u_ rfl) ?_
      refine wrI (pc := 18) (len_s := 1) rfl hk ?_
      show wF _ 228 (9, [some (.int _)], [.int _], _) _
      refine wrI (pc := 9) (len_s := 1) rfl hk ?_
      show wF _ 186 (4, [some (.ref _), some (.int _)], [.int _], _) _
      refine w_t (pc := 4) (e_s := (15, 3, 11, 1, 0, .null, [])) (y_s := (11, [some (.ref _), some (.int _)], [], _)) rfl (u_ rfl) ?_
      refine w_t (pc := 11) (e_s := (3, 1, 0, 0, 0, .null, [])) (y_s := (12, [some (.ref _), some (.int _)], [.ref _], _)) rfl (u_ rfl) ?_
      refine w20r (pc := 12) (len_s := 3) (q_s := 124) rfl (krq hk rfl) ?_
      refine w_t (pc := 15) (e_s := (1, 1, 1, 0, 0, .null, [])) (y_s := (16, [some (.ref _), some (.int _)], [.int _, .ref _], _)) rfl (u_ rfl) ?_
      refine w22 (pc := 16) (len_s := 1) rfl (hk.1 124 0 6 rfl rfl) (fun c3_s => ?_)
      replace t_s := t_s c3_s
      refine wq3 (pc := 17) (len_s := 3) rfl rfl (fun c4_s => ?_) (fun c4_s => ?_)
      · replace t_s := t_s.1 c4_s
        refine w_t (pc := 20) (e_s := (0, 2, 0, 0, 0, .int (-11), [])) (y_s := (22, [some (.ref _), some (.int _)], [.int _], _)) rfl (u_ rfl) ?_
        refine w_t (pc := 22) (e_s := (17, 3, 42, 0, 0, .null, [])) (y_s := (42, [some (.ref _), some (.int _)], [.int _], _)) rfl (u_ rfl) ?_
        refine wrI (pc := 42) (len_s := 1) rfl hk ?_
        show wF _ 189 (5, [some (.ref _), some (.int _), some (.int _), some (.int _)], [.int _], _) _
        refine w_t (pc := 5) (e_s := (0, 1, 0, 0, 0, .int (-1), [])) (y_s := (6, [some (.ref _), some (.int _), some (.int _), some (.int _)], [.int _, .int _], _)) rfl (u_ rfl) ?_
        refine w_t (pc := 6) (e_s := (16, 3, 30, 0, 0, .null, [])) (y_s := (9, [some (.ref _), some (.int _), some (.int _), some (.int _)], [], _)) rfl (u_ rfl) ?_
        refine w_t (pc := 9) (e_s := (3, 1, 0, 0, 0, .null, [])) (y_s := (10, [some (.ref _), some (.int _), some (.int _), some (.int _)], [.ref _], _)) rfl (u_ rfl) ?_
        refine w_t (pc := 10) (e_s := (1, 1, 2, 0, 0, .null, [])) (y_s := (11, [some (.ref _), some (.int _), some (.int _), some (.int _)], [.int _, .ref _], _)) rfl (u_ rfl) ?_
        refine w_t (pc := 11) (e_s := (10, 1, 0, 0, 0, .null, [])) (y_s := (12, [some (.ref _), some (.int _), some (.int _), some (.int _)], [.long (Int32.toInt64 _), .ref _], _)) rfl (u_ rfl) ?_
        refine wcI (pc := 12) (len_s := 3) rfl rfl (l := [some (.ref _), some (.long _), none]) rfl ?_
        refine w_t (pc := 0) (e_s := (2, 1, 1, 0, 0, .null, [])) (y_s := (1, [some (.ref _), some (.long _), none], [.long _], _)) rfl (u_ rfl) ?_
        refine w_t (pc := 1) (e_s := (0, 1, 0, 0, 0, .long 0, [])) (y_s := (2, [some (.ref _), some (.long _), none], [.long _, .long _], _)) rfl (u_ rfl) ?_
        refine w_t (pc := 2) (e_s := (3, 1, 0, 0, 0, .null, [])) (y_s := (3, [some (.ref _), some (.long _), none], [.ref _, .long _, .long _], _)) rfl (u_ rfl) ?_
        refine w20 (pc := 3) (len_s := 3) rfl ?_
        refine w_t (pc := 6) (e_s := (0, 1, 0, 0, 0, .int 1, [])) (y_s := (7, [some (.ref _), some (.long _), none], [.int _, .int _, .long _, .long _], _)) rfl (u_ rfl) ?_
        refine w_t (pc := 7) (e_s := (7, 1, 0, 1, 0, .null, [])) (y_s := (8, [some (.ref _), some (.long _), none], [.int (_ - _), .long _, .long _], _)) rfl (u_ rfl) ?_
        refine w_t (pc := 8) (e_s := (10, 1, 0, 0, 0, .null, [])) (y_s := (9, [some (.ref _), some (.long _), none], [.long (Int32.toInt64 _), .long _, .long _], _)) rfl (u_ rfl) ?_
        refine wcI (pc := 9) (len_s := 3) rfl rfl (l := [some (.long _), none, some (.long _), none, some (.long _), none]) rfl ?_
        refine w_t (pc := 0) (e_s := (2, 1, 0, 0, 0, .null, [])) (y_s := (1, [some (.long _), none, some (.long _), none, some (.long _), none], [.long _], _)) rfl (u_ rfl) ?_
        refine w_t (pc := 1) (e_s := (2, 1, 2, 0, 0, .null, [])) (y_s := (2, [some (.long _), none, some (.long _), none, some (.long _), none], [.long _, .long _], _)) rfl (u_ rfl) ?_
        refine w_t (pc := 2) (e_s := (14, 1, 0, 0, 0, .null, [])) (y_s := (3, [some (.long _), none, some (.long _), none, some (.long _), none], [.int (lg_cmp _ _)], _)) rfl (u_ rfl) ?_
        refine wl2 (pc := 3) (len_s := 3) (Y := 0) rfl (Int32.toInt_toInt64 _) (by decide) (fun c5_s => ?_) (fun c5_s => ?_)
        · replace t_s := t_s.1 c5_s
          refine w_t (pc := 17) (e_s := (0, 1, 0, 0, 0, .int 0, [])) (y_s := (18, [some (.long _), none, some (.long _), none, some (.long _), none], [.int _], _)) rfl (u_ rfl) ?_
          refine wrI (pc := 18) (len_s := 1) rfl hk ?_
          show wF _ 152 (12, [some (.ref _), some (.long _), none], [.int _], _) _
          refine wrI (pc := 12) (len_s := 1) rfl hk ?_
          show wF _ 189 (15, [some (.ref _), some (.int _), some (.int _), some (.int _)], [.int _], _) _
          refine w_t (pc := 15) (e_s := (15, 3, 30, 0, 0, .null, [])) (y_s := (30, [some (.ref _), some (.int _), some (.int _), some (.int _)], [], _)) rfl (u_ rfl) ?_
          refine w_t (pc := 30) (e_s := (0, 1, 0, 0, 0, .int (-1), [])) (y_s := (31, [some (.ref _), some (.int _), some (.int _), some (.int _)], [.int _], _)) rfl (u_ rfl) ?_
          exact wrI (pc := 31) (len_s := 1) rfl hk t_s
        · replace t_s := t_s.2 c5_s
          refine w_t (pc := 6) (e_s := (2, 1, 0, 0, 0, .null, [])) (y_s := (7, [some (.long _), none, some (.long _), none, some (.long _), none], [.long _], _)) rfl (u_ rfl) ?_
          refine w_t (pc := 7) (e_s := (2, 2, 4, 0, 0, .null, [])) (y_s := (9, [some (.long _), none, some (.long _), none, some (.long _), none], [.long _, .long _], _)) rfl (u_ rfl) ?_
          refine w_t (pc := 9) (e_s := (14, 1, 0, 0, 0, .null, [])) (y_s := (10, [some (.long _), none, some (.long _), none, some (.long _), none], [.int (lg_cmp _ _)], _)) rfl (u_ rfl) ?_
          refine wl4 (pc := 10) (len_s := 3) rfl (Int32.toInt_toInt64 _) (Int32.toInt_toInt64 _) (fun c6_s => ?_) (fun c6_s => ?_)
          · replace t_s := t_s.1 c6_s
            refine w_t (pc := 17) (e_s := (0, 1, 0, 0, 0, .int 0, [])) (y_s := (18, [some (.long _), none, some (.long _), none, some (.long _), none], [.int _], _)) rfl (u_ rfl) ?_
            refine wrI (pc := 18) (len_s := 1) rfl hk ?_
            show wF _ 152 (12, [some (.ref _), some (.long _), none], [.int _], _) _
            refine wrI (pc := 12) (len_s := 1) rfl hk ?_
            show wF _ 189 (15, [some (.ref _), some (.int _), some (.int _), some (.int _)], [.int _], _) _
            refine w_t (pc := 15) (e_s := (15, 3, 30, 0, 0, .null, [])) (y_s := (30, [some (.ref _), some (.int _), some (.int _), some (.int _)], [], _)) rfl (u_ rfl) ?_
            refine w_t (pc := 30) (e_s := (0, 1, 0, 0, 0, .int (-1), [])) (y_s := (31, [some (.ref _), some (.int _), some (.int _), some (.int _)], [.int _], _)) rfl (u_ rfl) ?_
            exact wrI (pc := 31) (len_s := 1) rfl hk t_s
          · replace t_s := t_s.2 c6_s
            refine w_t (pc := 13) (e_s := (0, 1, 0, 0, 0, .int 1, [])) (y_s := (14, [some (.long _), none, some (.long _), none, some (.long _), none], [.int _], _)) rfl (u_ rfl) ?_
            refine w_t (pc := 14) (e_s := (17, 3, 18, 0, 0, .null, [])) (y_s := (18, [some (.long _), none, some (.long _), none, some (.long _), none], [.int _], _)) rfl (u_ rfl) ?_
            refine wrI (pc := 18) (len_s := 1) rfl hk ?_
            show wF _ 152 (12, [some (.ref _), some (.long _), none], [.int _], _) _
            refine wrI (pc := 12) (len_s := 1) rfl hk ?_
            show wF _ 189 (15, [some (.ref _), some (.int _), some (.int _), some (.int _)], [.int _], _) _
            refine w_t (pc := 15) (e_s := (15, 3, 30, 0, 0, .null, [])) (y_s := (18, [some (.ref _), some (.int _), some (.int _), some (.int _)], [], _)) rfl (u_ rfl) ?_
            refine w_t (pc := 18) (e_s := (1, 1, 3, 0, 0, .null, [])) (y_s := (19, [some (.ref _), some (.int _), some (.int _), some (.int _)], [.int _], _)) rfl (u_ rfl) ?_
            refine w_t (pc := 19) (e_s := (10, 1, 0, 0, 0, .null, [])) (y_s := (20, [some (.ref _), some (.int _), some (.int _), some (.int _)], [.long (Int32.toInt64 _)], _)) rfl (u_ rfl) ?_
            refine w_t (pc := 20) (e_s := (0, 1, 0, 0, 0, .long 0, [])) (y_s := (21, [some (.ref _), some (.int _), some (.int _), some (.int _)], [.long _, .long _], _)) rfl (u_ rfl) ?_
            refine w_t (pc := 21) (e_s := (0, 3, 0, 0, 0, .long 4, [(0, 1113)])) (y_s := (24, [some (.ref _), some (.int _), some (.int _), some (.int _)], [.long _, .long _, .long _], _)) rfl (u_ rfl) ?_
            refine wcI (pc := 24) (len_s := 3) rfl rfl (l := [some (.long _), none, some (.long _), none, some (.long _), none]) rfl ?_
            refine w_t (pc := 0) (e_s := (2, 1, 0, 0, 0, .null, [])) (y_s := (1, [some (.long _), none, some (.long _), none, some (.long _), none], [.long _], _)) rfl (u_ rfl) ?_
            refine w_t (pc := 1) (e_s := (2, 1, 2, 0, 0, .null, [])) (y_s := (2, [some (.long _), none, some (.long _), none, some (.long _), none], [.long _, .long _], _)) rfl (u_ rfl) ?_
            refine w_t (pc := 2) (e_s := (14, 1, 0, 0, 0, .null, [])) (y_s := (3, [some (.long _), none, some (.long _), none, some (.long _), none], [.int (lg_cmp _ _)], _)) rfl (u_ rfl) ?_
            refine wl2 (pc := 3) (len_s := 3) (Y := 0) rfl (Int32.toInt_toInt64 _) (by decide) (fun c7_s => ?_) (fun c7_s => ?_)
            · replace t_s := t_s.1 c7_s
              refine w_t (pc := 17) (e_s := (0, 1, 0, 0, 0, .int 0, [])) (y_s := (18, [some (.long _), none, some (.long _), none, some (.long _), none], [.int _], _)) rfl (u_ rfl) ?_
              refine wrI (pc := 18) (len_s := 1) rfl hk ?_
              show wF _ 189 (27, [some (.ref _), some (.int _), some (.int _), some (.int _)], [.int _], _) _
              refine w_t (pc := 27) (e_s := (15, 3, 32, 1, 0, .null, [])) (y_s := (30, [some (.ref _), some (.int _), some (.int _), some (.int _)], [], _)) rfl (u_ rfl) ?_
              refine w_t (pc := 30) (e_s := (0, 1, 0, 0, 0, .int (-1), [])) (y_s := (31, [some (.ref _), some (.int _), some (.int _), some (.int _)], [.int _], _)) rfl (u_ rfl) ?_
              exact wrI (pc := 31) (len_s := 1) rfl hk t_s
            · replace t_s := t_s.2 c7_s
              refine w_t (pc := 6) (e_s := (2, 1, 0, 0, 0, .null, [])) (y_s := (7, [some (.long _), none, some (.long _), none, some (.long _), none], [.long _], _)) rfl (u_ rfl) ?_
              refine w_t (pc := 7) (e_s := (2, 2, 4, 0, 0, .null, [])) (y_s := (9, [some (.long _), none, some (.long _), none, some (.long _), none], [.long _, .long _], _)) rfl (u_ rfl) ?_
              refine w_t (pc := 9) (e_s := (14, 1, 0, 0, 0, .null, [])) (y_s := (10, [some (.long _), none, some (.long _), none, some (.long _), none], [.int (lg_cmp _ _)], _)) rfl (u_ rfl) ?_
              refine wl4 (pc := 10) (len_s := 3) (Y := 4) rfl (Int32.toInt_toInt64 _) (by decide) (fun c8_s => ?_) (fun c8_s => ?_)
              · replace t_s := t_s.1 c8_s
                refine w_t (pc := 17) (e_s := (0, 1, 0, 0, 0, .int 0, [])) (y_s := (18, [some (.long _), none, some (.long _), none, some (.long _), none], [.int _], _)) rfl (u_ rfl) ?_
                refine wrI (pc := 18) (len_s := 1) rfl hk ?_
                show wF _ 189 (27, [some (.ref _), some (.int _), some (.int _), some (.int _)], [.int _], _) _
                refine w_t (pc := 27) (e_s := (15, 3, 32, 1, 0, .null, [])) (y_s := (30, [some (.ref _), some (.int _), some (.int _), some (.int _)], [], _)) rfl (u_ rfl) ?_
                refine w_t (pc := 30) (e_s := (0, 1, 0, 0, 0, .int (-1), [])) (y_s := (31, [some (.ref _), some (.int _), some (.int _), some (.int _)], [.int _], _)) rfl (u_ rfl) ?_
                exact wrI (pc := 31) (len_s := 1) rfl hk t_s
              · replace t_s := t_s.2 c8_s
                refine w_t (pc := 13) (e_s := (0, 1, 0, 0, 0, .int 1, [])) (y_s := (14, [some (.long _), none, some (.long _), none, some (.long _), none], [.int _], _)) rfl (u_ rfl) ?_
                refine w_t (pc := 14) (e_s := (17, 3, 18, 0, 0, .null, [])) (y_s := (18, [some (.long _), none, some (.long _), none, some (.long _), none], [.int _], _)) rfl (u_ rfl) ?_
                refine wrI (pc := 18) (len_s := 1) rfl hk ?_
                show wF _ 189 (27, [some (.ref _), some (.int _), some (.int _), some (.int _)], [.int _], _) _
                refine w_t (pc := 27) (e_s := (15, 3, 32, 1, 0, .null, [])) (y_s := (32, [some (.ref _), some (.int _), some (.int _), some (.int _)], [], _)) rfl (u_ rfl) ?_
                refine w_t (pc := 32) (e_s := (3, 1, 0, 0, 0, .null, [])) (y_s := (33, [some (.ref _), some (.int _), some (.int _), some (.int _)], [.ref _], _)) rfl (u_ rfl) ?_
                refine w_t (pc := 33) (e_s := (1, 1, 1, 0, 0, .null, [])) (y_s := (34, [some (.ref _), some (.int _), some (.int _), some (.int _)], [.int _, .ref _], _)) rfl (u_ rfl) ?_
                refine wcI (pc := 34) (len_s := 3) rfl rfl (l := [some (.ref _), some (.int _)]) rfl ?_
                refine w_t (pc := 0) (e_s := (1, 1, 1, 0, 0, .null, [])) (y_s := (1, [some (.ref _), some (.int _)], [.int _], _)) rfl (u_ rfl) ?_
                refine wcI (pc := 1) (len_s := 3) rfl rfl (l := [some (.int _)]) rfl ?_
                refine w_t (pc := 0) (e_s := (1, 1, 0, 0, 0, .null, [])) (y_s := (1, [some (.int _)], [.int _], _)) rfl (u_ rfl) ?_
                refine w_t (pc := 1) (e_s := (10, 1, 0, 0, 0, .null, [])) (y_s := (2, [some (.int _)], [.long (Int32.toInt64 _)], _)) rfl (u_ rfl) ?_
                refine w_t (pc := 2) (e_s := (0, 1, 0, 0, 0, .long 0, [])) (y_s := (3, [some (.int _)], [.long _, .long _], _)) rfl (u_ rfl) ?_
                refine w_t (pc := 3) (e_s := (0, 3, 0, 0, 0, .long 5, [(0, 1063)])) (y_s := (6, [some (.int _)], [.long _, .long _, .long _], _)) rfl (u_ rfl) ?_
                refine wcI (pc := 6) (len_s := 3) rfl rfl (l := [some (.long _), none, some (.long _), none, some (.long _), none]) rfl ?_
                refine w_t (pc := 0) (e_s := (2, 1, 0, 0, 0, .null, [])) (y_s := (1, [some (.long _), none, some (.long _), none, some (.long _), none], [.long _], _)) rfl (u_ rfl) ?_
                refine w_t (pc := 1) (e_s := (2, 1, 2, 0, 0, .null, [])) (y_s := (2, [some (.long _), none, some (.long _), none, some (.long _), none], [.long _, .long _], _)) rfl (u_ rfl) ?_
                refine w_t (pc := 2) (e_s := (14, 1, 0, 0, 0, .null, [])) (y_s := (3, [some (.long _), none, some (.long _), none, some (.long _), none], [.int (lg_cmp _ _)], _)) rfl (u_ rfl) ?_
                refine wl2 (pc := 3) (len_s := 3) (Y := 0) rfl (Int32.toInt_toInt64 _) (by decide) (fun c9_s => ?_) (fun c9_s => ?_)
                · exact absurd c9_s c1_s
                · skip
                  refine w_t (pc := 6) (e_s := (2, 1, 0, 0, 0, .null, [])) (y_s := (7, [some (.long _), none, some (.long _), none, some (.long _), none], [.long _], _)) rfl (u_ rfl) ?_
                  refine w_t (pc := 7) (e_s := (2, 2, 4, 0, 0, .null, [])) (y_s := (9, [some (.long _), none, some (.long _), none, some (.long _), none], [.long _, .long _], _)) rfl (u_ rfl) ?_
                  refine w_t (pc := 9) (e_s := (14, 1, 0, 0, 0, .null, [])) (y_s := (10, [some (.long _), none, some (.long _), none, some (.long _), none], [.int (lg_cmp _ _)], _)) rfl (u_ rfl) ?_
                  refine wl4 (pc := 10) (len_s := 3) (Y := 5) rfl (Int32.toInt_toInt64 _) (by decide) (fun c10_s => ?_) (fun c10_s => ?_)
                  · exact absurd c10_s c2_s
                  · skip
                    refine w_t (pc := 13) (e_s := (0, 1, 0, 0, 0, .int 1, [])) (y_s := (14, [some (.long _), none, some (.long _), none, some (.long _), none], [.int _], _)) rfl (u_ rfl) ?_
                    refine w_t (pc := 14) (e_s := (17, 3, 18, 0, 0, .null, [])) (y_s := (18, [some (.long _), none, some (.long _), none, some (.long _), none], [.int _], _)) rfl (u_ rfl) ?_
                    refine wrI (pc := 18) (len_s := 1) rfl hk ?_
                    show wF _ 228 (9, [some (.int _)], [.int _], _) _
                    refine wrI (pc := 9) (len_s := 1) rfl hk ?_
                    show wF _ 186 (4, [some (.ref _), some (.int _)], [.int _], _) _
                    refine w_t (pc := 4) (e_s := (15, 3, 11, 1, 0, .null, [])) (y_s := (11, [some (.ref _), some (.int _)], [], _)) rfl (u_ rfl) ?_
                    refine w_t (pc := 11) (e_s := (3, 1, 0, 0, 0, .null, [])) (y_s := (12, [some (.ref _), some (.int _)], [.ref _], _)) rfl (u_ rfl) ?_
                    refine w20r (pc := 12) (len_s := 3) (q_s := 124) rfl (krq hk rfl) ?_
                    refine w_t (pc := 15) (e_s := (1, 1, 1, 0, 0, .null, [])) (y_s := (16, [some (.ref _), some (.int _)], [.int _, .ref _], _)) rfl (u_ rfl) ?_
                    refine w22 (pc := 16) (len_s := 1) rfl (hk.1 124 0 6 rfl rfl) (fun c11_s => ?_)
                    refine wq3 (pc := 17) (len_s := 3) rfl rfl (fun c12_s => ?_) (fun c12_s => ?_)
                    · skip
                      refine w_t (pc := 20) (e_s := (0, 2, 0, 0, 0, .int (-11), [])) (y_s := (22, [some (.ref _), some (.int _)], [.int _], _)) rfl (u_ rfl) ?_
                      refine w_t (pc := 22) (e_s := (17, 3, 42, 0, 0, .null, [])) (y_s := (42, [some (.ref _), some (.int _)], [.int _], _)) rfl (u_ rfl) ?_
                      refine wrI (pc := 42) (len_s := 1) rfl hk ?_
                      show wF _ 189 (37, [some (.ref _), some (.int _), some (.int _), some (.int _)], [.int _], _) _
                      refine w_t (pc := 37) (e_s := (15, 3, 46, 3, 0, .null, [])) (y_s := (40, [some (.ref _), some (.int _), some (.int _), some (.int _)], [], _)) rfl (u_ rfl) ?_
                      refine w_t (pc := 40) (e_s := (3, 1, 0, 0, 0, .null, [])) (y_s := (41, [some (.ref _), some (.int _), some (.int _), some (.int _)], [.ref _], _)) rfl (u_ rfl) ?_
                      refine w_t (pc := 41) (e_s := (1, 1, 1, 0, 0, .null, [])) (y_s := (42, [some (.ref _), some (.int _), some (.int _), some (.int _)], [.int _, .ref _], _)) rfl (u_ rfl) ?_
                      refine wcI (pc := 42) (len_s := 3) rfl rfl (l := [some (.ref _), some (.int _)]) rfl ?_
                      refine w_t (pc := 0) (e_s := (1, 1, 1, 0, 0, .null, [])) (y_s := (1, [some (.ref _), some (.int _)], [.int _], _)) rfl (u_ rfl) ?_
                      refine wcI (pc := 1) (len_s := 3) rfl rfl (l := [some (.int _)]) rfl ?_
                      refine w_t (pc := 0) (e_s := (1, 1, 0, 0, 0, .null, [])) (y_s := (1, [some (.int _)], [.int _], _)) rfl (u_ rfl) ?_
                      refine w_t (pc := 1) (e_s := (10, 1, 0, 0, 0, .null, [])) (y_s := (2, [some (.int _)], [.long (Int32.toInt64 _)], _)) rfl (u_ rfl) ?_
                      refine w_t (pc := 2) (e_s := (0, 1, 0, 0, 0, .long 0, [])) (y_s := (3, [some (.int _)], [.long _, .long _], _)) rfl (u_ rfl) ?_
                      refine w_t (pc := 3) (e_s := (0, 3, 0, 0, 0, .long 5, [(0, 1063)])) (y_s := (6, [some (.int _)], [.long _, .long _, .long _], _)) rfl (u_ rfl) ?_
                      refine wcI (pc := 6) (len_s := 3) rfl rfl (l := [some (.long _), none, some (.long _), none, some (.long _), none]) rfl ?_
                      refine w_t (pc := 0) (e_s := (2, 1, 0, 0, 0, .null, [])) (y_s := (1, [some (.long _), none, some (.long _), none, some (.long _), none], [.long _], _)) rfl (u_ rfl) ?_
                      refine w_t (pc := 1) (e_s := (2, 1, 2, 0, 0, .null, [])) (y_s := (2, [some (.long _), none, some (.long _), none, some (.long _), none], [.long _, .long _], _)) rfl (u_ rfl) ?_
                      refine w_t (pc := 2) (e_s := (14, 1, 0, 0, 0, .null, [])) (y_s := (3, [some (.long _), none, some (.long _), none, some (.long _), none], [.int (lg_cmp _ _)], _)) rfl (u_ rfl) ?_
                      refine wl2 (pc := 3) (len_s := 3) (Y := 0) rfl (Int32.toInt_toInt64 _) (by decide) (fun c13_s => ?_) (fun c13_s => ?_)
                      · exact absurd c13_s c1_s
                      · skip
                        refine w_t (pc := 6) (e_s := (2, 1, 0, 0, 0, .null, [])) (y_s := (7, [some (.long _), none, some (.long _), none, some (.long _), none], [.long _], _)) rfl (u_ rfl) ?_
                        refine w_t (pc := 7) (e_s := (2, 2, 4, 0, 0, .null, [])) (y_s := (9, [some (.long _), none, some (.long _), none, some (.long _), none], [.long _, .long _], _)) rfl (u_ rfl) ?_
                        refine w_t (pc := 9) (e_s := (14, 1, 0, 0, 0, .null, [])) (y_s := (10, [some (.long _), none, some (.long _), none, some (.long _), none], [.int (lg_cmp _ _)], _)) rfl (u_ rfl) ?_
                        refine wl4 (pc := 10) (len_s := 3) (Y := 5) rfl (Int32.toInt_toInt64 _) (by decide) (fun c14_s => ?_) (fun c14_s => ?_)
                        · exact absurd c14_s c2_s
                        · skip
                          refine w_t (pc := 13) (e_s := (0, 1, 0, 0, 0, .int 1, [])) (y_s := (14, [some (.long _), none, some (.long _), none, some (.long _), none], [.int _], _)) rfl (u_ rfl) ?_
                          refine w_t (pc := 14) (e_s := (17, 3, 18, 0, 0, .null, [])) (y_s := (18, [some (.long _), none, some (.long _), none, some (.long _), none], [.int _], _)) rfl (u_ rfl) ?_
                          refine wrI (pc := 18) (len_s := 1) rfl hk ?_
                          show wF _ 228 (9, [some (.int _)], [.int _], _) _
                          refine wrI (pc := 9) (len_s := 1) rfl hk ?_
                          show wF _ 186 (4, [some (.ref _), some (.int _)], [.int _], _) _
                          refine w_t (pc := 4) (e_s := (15, 3, 11, 1, 0, .null, [])) (y_s := (11, [some (.ref _), some (.int _)], [], _)) rfl (u_ rfl) ?_
                          refine w_t (pc := 11) (e_s := (3, 1, 0, 0, 0, .null, [])) (y_s := (12, [some (.ref _), some (.int _)], [.ref _], _)) rfl (u_ rfl) ?_
                          refine w20r (pc := 12) (len_s := 3) (q_s := 124) rfl (krq hk rfl) ?_
                          refine w_t (pc := 15) (e_s := (1, 1, 1, 0, 0, .null, [])) (y_s := (16, [some (.ref _), some (.int _)], [.int _, .ref _], _)) rfl (u_ rfl) ?_
                          refine w22 (pc := 16) (len_s := 1) rfl (hk.1 124 0 6 rfl rfl) (fun c15_s => ?_)
                          refine wq3 (pc := 17) (len_s := 3) rfl rfl (fun c16 => ?_) (fun c16 => ?_)
                          · skip
                            refine w_t (pc := 20) (e_s := (0, 2, 0, 0, 0, .int (-11), [])) (y_s := (22, [some (.ref _), some (.int _)], [.int _], _)) rfl (u_ rfl) ?_
                            refine w_t (pc := 22) (e_s := (17, 3, 42, 0, 0, .null, [])) (y_s := (42, [some (.ref _), some (.int _)], [.int _], _)) rfl (u_ rfl) ?_
                            refine wrI (pc := 42) (len_s := 1) rfl hk ?_
                            show wF _ 189 (45, [some (.ref _), some (.int _), some (.int _), some (.int _)], [.int _], _) _
                            exact wrI (pc := 45) (len_s := 1) rfl hk t_s
                          · exact absurd c4_s c16
                    · exact absurd c4_s c12_s
      · replace t_s := t_s.2 c4_s
        refine w_t (pc := 25) (e_s := (3, 1, 0, 0, 0, .null, [])) (y_s := (26, [some (.ref _), some (.int _)], [.ref _], _)) rfl (u_ rfl) ?_
        refine w20r (pc := 26) (len_s := 3) (q_s := 124) rfl (krq hk rfl) ?_
        refine w_t (pc := 29) (e_s := (1, 1, 1, 0, 0, .null, [])) (y_s := (30, [some (.ref _), some (.int _)], [.int _, .ref _], _)) rfl (u_ rfl) ?_
        refine w22 (pc := 30) (len_s := 1) rfl (hk.1 124 0 6 rfl rfl) (fun c17 => ?_)
        refine w_t (pc := 31) (e_s := (0, 2, 0, 0, 0, .int 50, [])) (y_s := (33, [some (.ref _), some (.int _)], [.int _, .int _], _)) rfl (u_ rfl) ?_
        refine wi1 (pc := 33) (len_s := 3) (Y := 50) rfl rfl (by decide) (fun c18_s => ?_) (fun c18_s => ?_)
        · replace t_s := t_s.1 c18_s
          refine w_t (pc := 36) (e_s := (0, 1, 0, 0, 0, .int 1, [])) (y_s := (37, [some (.ref _), some (.int _)], [.int _], _)) rfl (u_ rfl) ?_
          refine w_t (pc := 37) (e_s := (17, 3, 42, 0, 0, .null, [])) (y_s := (42, [some (.ref _), some (.int _)], [.int _], _)) rfl (u_ rfl) ?_
          refine wrI (pc := 42) (len_s := 1) rfl hk ?_
          show wF _ 189 (5, [some (.ref _), some (.int _), some (.int _), some (.int _)], [.int _], _) _
          refine w_t (pc := 5) (e_s := (0, 1, 0, 0, 0, .int (-1), [])) (y_s := (6, [some (.ref _), some (.int _), some (.int _), some (.int _)], [.int _, .int _], _)) rfl (u_ rfl) ?_
          refine w_t (pc := 6) (e_s := (16, 3, 30, 0, 0, .null, [])) (y_s := (9, [some (.ref _), some (.int _), some (.int _), some (.int _)], [], _)) rfl (u_ rfl) ?_
          refine w_t (pc := 9) (e_s := (3, 1, 0, 0, 0, .null, [])) (y_s := (10, [some (.ref _), some (.int _), some (.int _), some (.int _)], [.ref _], _)) rfl (u_ rfl) ?_
          refine w_t (pc := 10) (e_s := (1, 1, 2, 0, 0, .null, [])) (y_s := (11, [some (.ref _), some (.int _), some (.int _), some (.int _)], [.int _, .ref _], _)) rfl (u_ rfl) ?_
          refine w_t (pc := 11) (e_s := (10, 1, 0, 0, 0, .null, [])) (y_s := (12, [some (.ref _), some (.int _), some (.int _), some (.int _)], [.long (Int32.toInt64 _), .ref _], _)) rfl (u_ rfl) ?_
          refine wcI (pc := 12) (len_s := 3) rfl rfl (l := [some (.ref _), some (.long _), none]) rfl ?_
          refine w_t (pc := 0) (e_s := (2, 1, 1, 0, 0, .null, [])) (y_s := (1, [some (.ref _), some (.long _), none], [.long _], _)) rfl (u_ rfl) ?_
          refine w_t (pc := 1) (e_s := (0, 1, 0, 0, 0, .long 0, [])) (y_s := (2, [some (.ref _), some (.long _), none], [.long _, .long _], _)) rfl (u_ rfl) ?_
          refine w_t (pc := 2) (e_s := (3, 1, 0, 0, 0, .null, [])) (y_s := (3, [some (.ref _), some (.long _), none], [.ref _, .long _, .long _], _)) rfl (u_ rfl) ?_
          refine w20 (pc := 3) (len_s := 3) rfl ?_
          refine w_t (pc := 6) (e_s := (0, 1, 0, 0, 0, .int 1, [])) (y_s := (7, [some (.ref _), some (.long _), none], [.int _, .int _, .long _, .long _], _)) rfl (u_ rfl) ?_
          refine w_t (pc := 7) (e_s := (7, 1, 0, 1, 0, .null, [])) (y_s := (8, [some (.ref _), some (.long _), none], [.int (_ - _), .long _, .long _], _)) rfl (u_ rfl) ?_
          refine w_t (pc := 8) (e_s := (10, 1, 0, 0, 0, .null, [])) (y_s := (9, [some (.ref _), some (.long _), none], [.long (Int32.toInt64 _), .long _, .long _], _)) rfl (u_ rfl) ?_
          refine wcI (pc := 9) (len_s := 3) rfl rfl (l := [some (.long _), none, some (.long _), none, some (.long _), none]) rfl ?_
          refine w_t (pc := 0) (e_s := (2, 1, 0, 0, 0, .null, [])) (y_s := (1, [some (.long _), none, some (.long _), none, some (.long _), none], [.long _], _)) rfl (u_ rfl) ?_
          refine w_t (pc := 1) (e_s := (2, 1, 2, 0, 0, .null, [])) (y_s := (2, [some (.long _), none, some (.long _), none, some (.long _), none], [.long _, .long _], _)) rfl (u_ rfl) ?_
          refine w_t (pc := 2) (e_s := (14, 1, 0, 0, 0, .null, [])) (y_s := (3, [some (.long _), none, some (.long _), none, some (.long _), none], [.int (lg_cmp _ _)], _)) rfl (u_ rfl) ?_
          refine wl2 (pc := 3) (len_s := 3) (Y := 0) rfl (Int32.toInt_toInt64 _) (by decide) (fun c19_s => ?_) (fun c19_s => ?_)
          · replace t_s := t_s.1 c19_s
            refine w_t (pc := 17) (e_s := (0, 1, 0, 0, 0, .int 0, [])) (y_s := (18, [some (.long _), none, some (.long _), none, some (.long _), none], [.int _], _)) rfl (u_ rfl) ?_
            refine wrI (pc := 18) (len_s := 1) rfl hk ?_
            show wF _ 152 (12, [some (.ref _), some (.long _), none], [.int _], _) _
            refine wrI (pc := 12) (len_s := 1) rfl hk ?_
            show wF _ 189 (15, [some (.ref _), some (.int _), some (.int _), some (.int _)], [.int _], _) _
            refine w_t (pc := 15) (e_s := (15, 3, 30, 0, 0, .null, [])) (y_s := (30, [some (.ref _), some (.int _), some (.int _), some (.int _)], [], _)) rfl (u_ rfl) ?_
            refine w_t (pc := 30) (e_s := (0, 1, 0, 0, 0, .int (-1), [])) (y_s := (31, [some (.ref _), some (.int _), some (.int _), some (.int _)], [.int _], _)) rfl (u_ rfl) ?_
            exact wrI (pc := 31) (len_s := 1) rfl hk t_s
          · replace t_s := t_s.2 c19_s
            refine w_t (pc := 6) (e_s := (2, 1, 0, 0, 0, .null, [])) (y_s := (7, [some (.long _), none, some (.long _), none, some (.long _), none], [.long _], _)) rfl (u_ rfl) ?_
            refine w_t (pc := 7) (e_s := (2, 2, 4, 0, 0, .null, [])) (y_s := (9, [some (.long _), none, some (.long _), none, some (.long _), none], [.long _, .long _], _)) rfl (u_ rfl) ?_
            refine w_t (pc := 9) (e_s := (14, 1, 0, 0, 0, .null, [])) (y_s := (10, [some (.long _), none, some (.long _), none, some (.long _), none], [.int (lg_cmp _ _)], _)) rfl (u_ rfl) ?_
            refine wl4 (pc := 10) (len_s := 3) rfl (Int32.toInt_toInt64 _) (Int32.toInt_toInt64 _) (fun c20_s => ?_) (fun c20_s => ?_)
            · replace t_s := t_s.1 c20_s
              refine w_t (pc := 17) (e_s := (0, 1, 0, 0, 0, .int 0, [])) (y_s := (18, [some (.long _), none, some (.long _), none, some (.long _), none], [.int _], _)) rfl (u_ rfl) ?_
              refine wrI (pc := 18) (len_s := 1) rfl hk ?_
              show wF _ 152 (12, [some (.ref _), some (.long _), none], [.int _], _) _
              refine wrI (pc := 12) (len_s := 1) rfl hk ?_
              show wF _ 189 (15, [some (.ref _), some (.int _), some (.int _), some (.int _)], [.int _], _) _
              refine w_t (pc := 15) (e_s := (15, 3, 30, 0, 0, .null, [])) (y_s := (30, [some (.ref _), some (.int _), some (.int _), some (.int _)], [], _)) rfl (u_ rfl) ?_
              refine w_t (pc := 30) (e_s := (0, 1, 0, 0, 0, .int (-1), [])) (y_s := (31, [some (.ref _), some (.int _), some (.int _), some (.int _)], [.int _], _)) rfl (u_ rfl) ?_
              exact wrI (pc := 31) (len_s := 1) rfl hk t_s
            · replace t_s := t_s.2 c20_s
              refine w_t (pc := 13) (e_s := (0, 1, 0, 0, 0, .int 1, [])) (y_s := (14, [some (.long _), none, some (.long _), none, some (.long _), none], [.int _], _)) rfl (u_ rfl) ?_
              refine w_t (pc := 14) (e_s := (17, 3, 18, 0, 0, .null, [])) (y_s := (18, [some (.long _), none, some (.long _), none, some (.long _), none], [.int _], _)) rfl (u_ rfl) ?_
              refine wrI (pc := 18) (len_s := 1) rfl hk ?_
              show wF _ 152 (12, [some (.ref _), some (.long _), none], [.int _], _) _
              refine wrI (pc := 12) (len_s := 1) rfl hk ?_
              show wF _ 189 (15, [some (.ref _), some (.int _), some (.int _), some (.int _)], [.int _], _) _
              refine w_t (pc := 15) (e_s := (15, 3, 30, 0, 0, .null, [])) (y_s := (18, [some (.ref _), some (.int _), some (.int _), some (.int _)], [], _)) rfl (u_ rfl) ?_
              refine w_t (pc := 18) (e_s := (1, 1, 3, 0, 0, .null, [])) (y_s := (19, [some (.ref _), some (.int _), some (.int _), some (.int _)], [.int _], _)) rfl (u_ rfl) ?_
              refine w_t (pc := 19) (e_s := (10, 1, 0, 0, 0, .null, [])) (y_s := (20, [some (.ref _), some (.int _), some (.int _), some (.int _)], [.long (Int32.toInt64 _)], _)) rfl (u_ rfl) ?_
              refine w_t (pc := 20) (e_s := (0, 1, 0, 0, 0, .long 0, [])) (y_s := (21, [some (.ref _), some (.int _), some (.int _), some (.int _)], [.long _, .long _], _)) rfl (u_ rfl) ?_
              refine w_t (pc := 21) (e_s := (0, 3, 0, 0, 0, .long 4, [(0, 1113)])) (y_s := (24, [some (.ref _), some (.int _), some (.int _), some (.int _)], [.long _, .long _, .long _], _)) rfl (u_ rfl) ?_
              refine wcI (pc := 24) (len_s := 3) rfl rfl (l := [some (.long _), none, some (.long _), none, some (.long _), none]) rfl ?_
              refine w_t (pc := 0) (e_s := (2, 1, 0, 0, 0, .null, [])) (y_s := (1, [some (.long _), none, some (.long _), none, some (.long _), none], [.long _], _)) rfl (u_ rfl) ?_
              refine w_t (pc := 1) (e_s := (2, 1, 2, 0, 0, .null, [])) (y_s := (2, [some (.long _), none, some (.long _), none, some (.long _), none], [.long _, .long _], _)) rfl (u_ rfl) ?_
              refine w_t (pc := 2) (e_s := (14, 1, 0, 0, 0, .null, [])) (y_s := (3, [some (.long _), none, some (.long _), none, some (.long _), none], [.int (lg_cmp _ _)], _)) rfl (u_ rfl) ?_
              refine wl2 (pc := 3) (len_s := 3) (Y := 0) rfl (Int32.toInt_toInt64 _) (by decide) (fun c21 => ?_) (fun c21 => ?_)
              · replace t_s := t_s.1 c21
                refine w_t (pc := 17) (e_s := (0, 1, 0, 0, 0, .int 0, [])) (y_s := (18, [some (.long _), none, some (.long _), none, some (.long _), none], [.int _], _)) rfl (u_ rfl) ?_
                refine wrI (pc := 18) (len_s := 1) rfl hk ?_
                show wF _ 189 (27, [some (.ref _), some (.int _), some (.int _), some (.int _)], [.int _], _) _
                refine w_t (pc := 27) (e_s := (15, 3, 32, 1, 0, .null, [])) (y_s := (30, [some (.ref _), some (.int _), some (.int _), some (.int _)], [], _)) rfl (u_ rfl) ?_
                refine w_t (pc := 30) (e_s := (0, 1, 0, 0, 0, .int (-1), [])) (y_s := (31, [some (.ref _), some (.int _), some (.int _), some (.int _)], [.int _], _)) rfl (u_ rfl) ?_
                exact wrI (pc := 31) (len_s := 1) rfl hk t_s
              · replace t_s := t_s.2 c21
                refine w_t (pc := 6) (e_s := (2, 1, 0, 0, 0, .null, [])) (y_s := (7, [some (.long _), none, some (.long _), none, some (.long _), none], [.long _], _)) rfl (u_ rfl) ?_
                refine w_t (pc := 7) (e_s := (2, 2, 4, 0, 0, .null, [])) (y_s := (9, [some (.long _), none, some (.long _), none, some (.long _), none], [.long _, .long _], _)) rfl (u_ rfl) ?_
                refine w_t (pc := 9) (e_s := (14, 1, 0, 0, 0, .null, [])) (y_s := (10, [some (.long _), none, some (.long _), none, some (.long _), none], [.int (lg_cmp _ _)], _)) rfl (u_ rfl) ?_
                refine wl4 (pc := 10) (len_s := 3) (Y := 4) rfl (Int32.toInt_toInt64 _) (by decide) (fun c22 => ?_) (fun c22 => ?_)
                · replace t_s := t_s.1 c22
                  refine w_t (pc := 17) (e_s := (0, 1, 0, 0, 0, .int 0, [])) (y_s := (18, [some (.long _), none, some (.long _), none, some (.long _), none], [.int _], _)) rfl (u_ rfl) ?_
                  refine wrI (pc := 18) (len_s := 1) rfl hk ?_
                  show wF _ 189 (27, [some (.ref _), some (.int _), some (.int _), some (.int _)], [.int _], _) _
                  refine w_t (pc := 27) (e_s := (15, 3, 32, 1, 0, .null, [])) (y_s := (30, [some (.ref _), some (.int _), some (.int _), some (.int _)], [], _)) rfl (u_ rfl) ?_
                  refine w_t (pc := 30) (e_s := (0, 1, 0, 0, 0, .int (-1), [])) (y_s := (31, [some (.ref _), some (.int _), some (.int _), some (.int _)], [.int _], _)) rfl (u_ rfl) ?_
                  exact wrI (pc := 31) (len_s := 1) rfl hk t_s
                · replace t_s := t_s.2 c22
                  refine w_t (pc := 13) (e_s := (0, 1, 0, 0, 0, .int 1, [])) (y_s := (14, [some (.long _), none, some (.long _), none, some (.long _), none], [.int _], _)) rfl (u_ rfl) ?_
                  refine w_t (pc := 14) (e_s := (17, 3, 18, 0, 0, .null, [])) (y_s := (18, [some (.long _), none, some (.long _), none, some (.long _), none], [.int _], _)) rfl (u_ rfl) ?_
                  refine wrI (pc := 18) (len_s := 1) rfl hk ?_
                  show wF _ 189 (27, [some (.ref _), some (.int _), some (.int _), some (.int _)], [.int _], _) _
                  refine w_t (pc := 27) (e_s := (15, 3, 32, 1, 0, .null, [])) (y_s := (32, [some (.ref _), some (.int _), some (.int _), some (.int _)], [], _)) rfl (u_ rfl) ?_
                  refine w_t (pc := 32) (e_s := (3, 1, 0, 0, 0, .null, [])) (y_s := (33, [some (.ref _), some (.int _), some (.int _), some (.int _)], [.ref _], _)) rfl (u_ rfl) ?_
                  refine w_t (pc := 33) (e_s := (1, 1, 1, 0, 0, .null, [])) (y_s := (34, [some (.ref _), some (.int _), some (.int _), some (.int _)], [.int _, .ref _], _)) rfl (u_ rfl) ?_
                  refine wcI (pc := 34) (len_s := 3) rfl rfl (l := [some (.ref _), some (.int _)]) rfl ?_
                  refine w_t (pc := 0) (e_s := (1, 1, 1, 0, 0, .null, [])) (y_s := (1, [some (.ref _), some (.int _)], [.int _], _)) rfl (u_ rfl) ?_
                  refine wcI (pc := 1) (len_s := 3) rfl rfl (l := [some (.int _)]) rfl ?_
                  refine w_t (pc := 0) (e_s := (1, 1, 0, 0, 0, .null, [])) (y_s := (1, [some (.int _)], [.int _], _)) rfl (u_ rfl) ?_
                  refine w_t (pc := 1) (e_s := (10, 1, 0, 0, 0, .null, [])) (y_s := (2, [some (.int _)], [.long (Int32.toInt64 _)], _)) rfl (u_ rfl) ?_
                  refine w_t (pc := 2) (e_s := (0, 1, 0, 0, 0, .long 0, [])) (y_s := (3, [some (.int _)], [.long _, .long _], _)) rfl (u_ rfl) ?_
                  refine w_t (pc := 3) (e_s := (0, 3, 0, 0, 0, .long 5, [(0, 1063)])) (y_s := (6, [some (.int _)], [.long _, .long _, .long _], _)) rfl (u_ rfl) ?_
                  refine wcI (pc := 6) (len_s := 3) rfl rfl (l := [some (.long _), none, some (.long _), none, some (.long _), none]) rfl ?_
                  refine w_t (pc := 0) (e_s := (2, 1, 0, 0, 0, .null, [])) (y_s := (1, [some (.long _), none, some (.long _), none, some (.long _), none], [.long _], _)) rfl (u_ rfl) ?_
                  refine w_t (pc := 1) (e_s := (2, 1, 2, 0, 0, .null, [])) (y_s := (2, [some (.long _), none, some (.long _), none, some (.long _), none], [.long _, .long _], _)) rfl (u_ rfl) ?_
                  refine w_t (pc := 2) (e_s := (14, 1, 0, 0, 0, .null, [])) (y_s := (3, [some (.long _), none, some (.long _), none, some (.long _), none], [.int (lg_cmp _ _)], _)) rfl (u_ rfl) ?_
                  refine wl2 (pc := 3) (len_s := 3) (Y := 0) rfl (Int32.toInt_toInt64 _) (by decide) (fun c23_s => ?_) (fun c23_s => ?_)
                  · exact absurd c23_s c1_s
                  · skip
                    refine w_t (pc := 6) (e_s := (2, 1, 0, 0, 0, .null, [])) (y_s := (7, [some (.long _), none, some (.long _), none, some (.long _), none], [.long _], _)) rfl (u_ rfl) ?_
                    refine w_t (pc := 7) (e_s := (2, 2, 4, 0, 0, .null, [])) (y_s := (9, [some (.long _), none, some (.long _), none, some (.long _), none], [.long _, .long _], _)) rfl (u_ rfl) ?_
                    refine w_t (pc := 9) (e_s := (14, 1, 0, 0, 0, .null, [])) (y_s := (10, [some (.long _), none, some (.long _), none, some (.long _), none], [.int (lg_cmp _ _)], _)) rfl (u_ rfl) ?_
                    refine wl4 (pc := 10) (len_s := 3) (Y := 5) rfl (Int32.toInt_toInt64 _) (by decide) (fun c24_s => ?_) (fun c24_s => ?_)
                    · exact absurd c24_s c2_s
                    · skip
                      refine w_t (pc := 13) (e_s := (0, 1, 0, 0, 0, .int 1, [])) (y_s := (14, [some (.long _), none, some (.long _), none, some (.long _), none], [.int _], _)) rfl (u_ rfl) ?_
                      refine w_t (pc := 14) (e_s := (17, 3, 18, 0, 0, .null, [])) (y_s := (18, [some (.long _), none, some (.long _), none, some (.long _), none], [.int _], _)) rfl (u_ rfl) ?_
                      refine wrI (pc := 18) (len_s := 1) rfl hk ?_
                      show wF _ 228 (9, [some (.int _)], [.int _], _) _
                      refine wrI (pc := 9) (len_s := 1) rfl hk ?_
                      show wF _ 186 (4, [some (.ref _), some (.int _)], [.int _], _) _
                      refine w_t (pc := 4) (e_s := (15, 3, 11, 1, 0, .null, [])) (y_s := (11, [some (.ref _), some (.int _)], [], _)) rfl (u_ rfl) ?_
                      refine w_t (pc := 11) (e_s := (3, 1, 0, 0, 0, .null, [])) (y_s := (12, [some (.ref _), some (.int _)], [.ref _], _)) rfl (u_ rfl) ?_
                      refine w20r (pc := 12) (len_s := 3) (q_s := 124) rfl (krq hk rfl) ?_
                      refine w_t (pc := 15) (e_s := (1, 1, 1, 0, 0, .null, [])) (y_s := (16, [some (.ref _), some (.int _)], [.int _, .ref _], _)) rfl (u_ rfl) ?_
                      refine w22 (pc := 16) (len_s := 1) rfl (hk.1 124 0 6 rfl rfl) (fun c25_s => ?_)
                      refine wq3 (pc := 17) (len_s := 3) rfl rfl (fun c26 => ?_) (fun c26 => ?_)
                      · exact absurd c26 c4_s
                      · skip
                        refine w_t (pc := 25) (e_s := (3, 1, 0, 0, 0, .null, [])) (y_s := (26, [some (.ref _), some (.int _)], [.ref _], _)) rfl (u_ rfl) ?_
                        refine w20r (pc := 26) (len_s := 3) (q_s := 124) rfl (krq hk rfl) ?_
                        refine w_t (pc := 29) (e_s := (1, 1, 1, 0, 0, .null, [])) (y_s := (30, [some (.ref _), some (.int _)], [.int _, .ref _], _)) rfl (u_ rfl) ?_
                        refine w22 (pc := 30) (len_s := 1) rfl (hk.1 124 0 6 rfl rfl) (fun c27_s => ?_)
                        refine w_t (pc := 31) (e_s := (0, 2, 0, 0, 0, .int 50, [])) (y_s := (33, [some (.ref _), some (.int _)], [.int _, .int _], _)) rfl (u_ rfl) ?_
                        refine wi1 (pc := 33) (len_s := 3) (Y := 50) rfl rfl (by decide) (fun c28_s => ?_) (fun c28_s => ?_)
                        · skip
                          refine w_t (pc := 36) (e_s := (0, 1, 0, 0, 0, .int 1, [])) (y_s := (37, [some (.ref _), some (.int _)], [.int _], _)) rfl (u_ rfl) ?_
                          refine w_t (pc := 37) (e_s := (17, 3, 42, 0, 0, .null, [])) (y_s := (42, [some (.ref _), some (.int _)], [.int _], _)) rfl (u_ rfl) ?_
                          refine wrI (pc := 42) (len_s := 1) rfl hk ?_
                          show wF _ 189 (37, [some (.ref _), some (.int _), some (.int _), some (.int _)], [.int _], _) _
                          refine w_t (pc := 37) (e_s := (15, 3, 46, 3, 0, .null, [])) (y_s := (46, [some (.ref _), some (.int _), some (.int _), some (.int _)], [], _)) rfl (u_ rfl) ?_
                          refine w_t (pc := 46) (e_s := (3, 1, 0, 0, 0, .null, [])) (y_s := (47, [some (.ref _), some (.int _), some (.int _), some (.int _)], [.ref _], _)) rfl (u_ rfl) ?_
                          refine w_t (pc := 47) (e_s := (1, 1, 2, 0, 0, .null, [])) (y_s := (48, [some (.ref _), some (.int _), some (.int _), some (.int _)], [.int _, .ref _], _)) rfl (u_ rfl) ?_
                          refine wcV (pc := 48) (len_s := 3) rfl rfl (l := [some (.ref _), some (.int _), none]) rfl (wmV t_s (fun h29 hk t_s => ?_))
                          replace t_s := t_s hk
                          refine w_t (pc := 51) (e_s := (3, 1, 0, 0, 0, .null, [])) (y_s := (52, [some (.ref _), some (.int _), some (.int _), some (.int _)], [.ref _], _)) rfl (u_ rfl) ?_
                          refine w_t (pc := 52) (e_s := (1, 1, 1, 0, 0, .null, [])) (y_s := (53, [some (.ref _), some (.int _), some (.int _), some (.int _)], [.int _, .ref _], _)) rfl (u_ rfl) ?_
                          refine wcV (pc := 53) (len_s := 3) rfl rfl (l := [some (.ref _), some (.int _), none]) rfl (wmV t_s (fun h30 hk t_s => ?_))
                          replace t_s := t_s hk
                          refine w_t (pc := 56) (e_s := (1, 1, 3, 0, 0, .null, [])) (y_s := (57, [some (.ref _), some (.int _), some (.int _), some (.int _)], [.int _], _)) rfl (u_ rfl) ?_
                          refine wsw (pc := 57) (len_s := 31) rfl ?_
                          refine wsc (X_s := 0) rfl (by decide) (fun c31_s => ?_) (fun c31_s => ?_)
                          · replace t_s := t_s.1 c31_s
                            refine w_t (pc := 88) (e_s := (3, 1, 0, 0, 0, .null, [])) (y_s := (89, [some (.ref _), some (.int _), some (.int _), some (.int _)], [.ref _], _)) rfl (u_ rfl) ?_
                            refine w20 (pc := 89) (len_s := 3) rfl ?_
                            exact wrI (pc := 92) (len_s := 1) rfl hk t_s
                          · replace t_s := t_s.2 c31_s
                            refine wsc (X_s := 1) rfl (by decide) (fun c32_s => ?_) (fun c32_s => ?_)
                            · replace t_s := t_s.1 c32_s
                              refine w_t (pc := 93) (e_s := (3, 1, 0, 0, 0, .null, [])) (y_s := (94, [some (.ref _), some (.int _), some (.int _), some (.int _)], [.ref _], _)) rfl (u_ rfl) ?_
                              refine w20 (pc := 94) (len_s := 3) rfl ?_
                              exact wrI (pc := 97) (len_s := 1) rfl hk t_s
                            · replace t_s := t_s.2 c32_s
                              refine wsc (X_s := 2) rfl (by decide) (fun c33_s => ?_) (fun c33_s => ?_)
                              · replace t_s := t_s.1 c33_s
                                refine w_t (pc := 98) (e_s := (3, 1, 0, 0, 0, .null, [])) (y_s := (99, [some (.ref _), some (.int _), some (.int _), some (.int _)], [.ref _], _)) rfl (u_ rfl) ?_
                                refine w20r (pc := 99) (len_s := 3) (q_s := 112) rfl (krq hk rfl) ?_
                                refine w_t (pc := 102) (e_s := (0, 1, 0, 0, 0, .int 2, [])) (y_s := (103, [some (.ref _), some (.int _), some (.int _), some (.int _)], [.int _, .ref _], _)) rfl (u_ rfl) ?_
                                refine w22 (pc := 103) (len_s := 1) rfl (hk.1 112 0 7 rfl rfl) (fun c34_s => ?_)
                                exact wrI (pc := 104) (len_s := 1) rfl hk t_s
                              · replace t_s := t_s.2 c33_s
                                refine wsc (X_s := 3) rfl (by decide) (fun c35_s => ?_) (fun c35_s => ?_)
                                · replace t_s := t_s.1 c35_s
                                  refine w_t (pc := 105) (e_s := (3, 1, 0, 0, 0, .null, [])) (y_s := (106, [some (.ref _), some (.int _), some (.int _), some (.int _)], [.ref _], _)) rfl (u_ rfl) ?_
                                  refine w20r (pc := 106) (len_s := 3) (q_s := 112) rfl (krq hk rfl) ?_
                                  refine w_t (pc := 109) (e_s := (0, 1, 0, 0, 0, .int 3, [])) (y_s := (110, [some (.ref _), some (.int _), some (.int _), some (.int _)], [.int _, .ref _], _)) rfl (u_ rfl) ?_
                                  refine w22 (pc := 110) (len_s := 1) rfl (hk.1 112 0 7 rfl rfl) (fun c36_s => ?_)
                                  exact wrI (pc := 111) (len_s := 1) rfl hk t_s
                                · replace t_s := t_s.2 c35_s
                                  show wF _ _ (112, _, _, _) _
                                  refine w_t (pc := 112) (e_s := (3, 1, 0, 0, 0, .null, [])) (y_s := (113, [some (.ref _), some (.int _), some (.int _), some (.int _)], [.ref _], _)) rfl (u_ rfl) ?_
                                  refine w20 (pc := 113) (len_s := 3) rfl ?_
                                  refine w_t (pc := 116) (e_s := (3, 1, 0, 0, 0, .null, [])) (y_s := (117, [some (.ref _), some (.int _), some (.int _), some (.int _)], [.ref _, .int _], _)) rfl (u_ rfl) ?_
                                  refine w_t (pc := 117) (e_s := (1, 1, 1, 0, 0, .null, [])) (y_s := (118, [some (.ref _), some (.int _), some (.int _), some (.int _)], [.int _, .ref _, .int _], _)) rfl (u_ rfl) ?_
                                  refine wcI (pc := 118) (len_s := 3) rfl rfl (l := [some (.ref _), some (.int _), none]) rfl (wmI t_s (fun v37 h37 hk t_s => ?_))
                                  replace t_s := t_s hk
                                  refine wi3 (pc := 121) (len_s := 3) rfl rfl rfl (fun c38 => ?_) (fun c38 => ?_)
                                  · replace t_s := t_s.1 c38
                                    refine w_t (pc := 124) (e_s := (3, 1, 0, 0, 0, .null, [])) (y_s := (125, [some (.ref _), some (.int _), some (.int _), some (.int _)], [.ref _], _)) rfl (u_ rfl) ?_
                                    refine w20 (pc := 125) (len_s := 3) rfl ?_
                                    refine w_t (pc := 128) (e_s := (17, 3, 133, 0, 0, .null, [])) (y_s := (133, [some (.ref _), some (.int _), some (.int _), some (.int _)], [.int _], _)) rfl (u_ rfl) ?_
                                    exact wrI (pc := 133) (len_s := 1) rfl hk t_s
                                  · replace t_s := t_s.2 c38
                                    refine w_t (pc := 131) (e_s := (0, 2, 0, 0, 0, .int (-2), [])) (y_s := (133, [some (.ref _), some (.int _), some (.int _), some (.int _)], [.int _], _)) rfl (u_ rfl) ?_
                                    exact wrI (pc := 133) (len_s := 1) rfl hk t_s
                        · exact absurd c18_s c28_s
        · replace t_s := t_s.2 c18_s
          refine w_t (pc := 40) (e_s := (0, 2, 0, 0, 0, .int (-12), [])) (y_s := (42, [some (.ref _), some (.int _)], [.int _], _)) rfl (u_ rfl) ?_
          refine wrI (pc := 42) (len_s := 1) rfl hk ?_
          show wF _ 189 (5, [some (.ref _), some (.int _), some (.int _), some (.int _)], [.int _], _) _
          refine w_t (pc := 5) (e_s := (0, 1, 0, 0, 0, .int (-1), [])) (y_s := (6, [some (.ref _), some (.int _), some (.int _), some (.int _)], [.int _, .int _], _)) rfl (u_ rfl) ?_
          refine w_t (pc := 6) (e_s := (16, 3, 30, 0, 0, .null, [])) (y_s := (9, [some (.ref _), some (.int _), some (.int _), some (.int _)], [], _)) rfl (u_ rfl) ?_
          refine w_t (pc := 9) (e_s := (3, 1, 0, 0, 0, .null, [])) (y_s := (10, [some (.ref _), some (.int _), some (.int _), some (.int _)], [.ref _], _)) rfl (u_ rfl) ?_
          refine w_t (pc := 10) (e_s := (1, 1, 2, 0, 0, .null, [])) (y_s := (11, [some (.ref _), some (.int _), some (.int _), some (.int _)], [.int _, .ref _], _)) rfl (u_ rfl) ?_
          refine w_t (pc := 11) (e_s := (10, 1, 0, 0, 0, .null, [])) (y_s := (12, [some (.ref _), some (.int _), some (.int _), some (.int _)], [.long (Int32.toInt64 _), .ref _], _)) rfl (u_ rfl) ?_
          refine wcI (pc := 12) (len_s := 3) rfl rfl (l := [some (.ref _), some (.long _), none]) rfl ?_
          refine w_t (pc := 0) (e_s := (2, 1, 1, 0, 0, .null, [])) (y_s := (1, [some (.ref _), some (.long _), none], [.long _], _)) rfl (u_ rfl) ?_
          refine w_t (pc := 1) (e_s := (0, 1, 0, 0, 0, .long 0, [])) (y_s := (2, [some (.ref _), some (.long _), none], [.long _, .long _], _)) rfl (u_ rfl) ?_
          refine w_t (pc := 2) (e_s := (3, 1, 0, 0, 0, .null, [])) (y_s := (3, [some (.ref _), some (.long _), none], [.ref _, .long _, .long _], _)) rfl (u_ rfl) ?_
          refine w20 (pc := 3) (len_s := 3) rfl ?_
          refine w_t (pc := 6) (e_s := (0, 1, 0, 0, 0, .int 1, [])) (y_s := (7, [some (.ref _), some (.long _), none], [.int _, .int _, .long _, .long _], _)) rfl (u_ rfl) ?_
          refine w_t (pc := 7) (e_s := (7, 1, 0, 1, 0, .null, [])) (y_s := (8, [some (.ref _), some (.long _), none], [.int (_ - _), .long _, .long _], _)) rfl (u_ rfl) ?_
          refine w_t (pc := 8) (e_s := (10, 1, 0, 0, 0, .null, [])) (y_s := (9, [some (.ref _), some (.long _), none], [.long (Int32.toInt64 _), .long _, .long _], _)) rfl (u_ rfl) ?_
          refine wcI (pc := 9) (len_s := 3) rfl rfl (l := [some (.long _), none, some (.long _), none, some (.long _), none]) rfl ?_
          refine w_t (pc := 0) (e_s := (2, 1, 0, 0, 0, .null, [])) (y_s := (1, [some (.long _), none, some (.long _), none, some (.long _), none], [.long _], _)) rfl (u_ rfl) ?_
          refine w_t (pc := 1) (e_s := (2, 1, 2, 0, 0, .null, [])) (y_s := (2, [some (.long _), none, some (.long _), none, some (.long _), none], [.long _, .long _], _)) rfl (u_ rfl) ?_
          refine w_t (pc := 2) (e_s := (14, 1, 0, 0, 0, .null, [])) (y_s := (3, [some (.long _), none, some (.long _), none, some (.long _), none], [.int (lg_cmp _ _)], _)) rfl (u_ rfl) ?_
          refine wl2 (pc := 3) (len_s := 3) (Y := 0) rfl (Int32.toInt_toInt64 _) (by decide) (fun c39_s => ?_) (fun c39_s => ?_)
          · replace t_s := t_s.1 c39_s
            refine w_t (pc := 17) (e_s := (0, 1, 0, 0, 0, .int 0, [])) (y_s := (18, [some (.long _), none, some (.long _), none, some (.long _), none], [.int _], _)) rfl (u_ rfl) ?_
            refine wrI (pc := 18) (len_s := 1) rfl hk ?_
            show wF _ 152 (12, [some (.ref _), some (.long _), none], [.int _], _) _
            refine wrI (pc := 12) (len_s := 1) rfl hk ?_
            show wF _ 189 (15, [some (.ref _), some (.int _), some (.int _), some (.int _)], [.int _], _) _
            refine w_t (pc := 15) (e_s := (15, 3, 30, 0, 0, .null, [])) (y_s := (30, [some (.ref _), some (.int _), some (.int _), some (.int _)], [], _)) rfl (u_ rfl) ?_
            refine w_t (pc := 30) (e_s := (0, 1, 0, 0, 0, .int (-1), [])) (y_s := (31, [some (.ref _), some (.int _), some (.int _), some (.int _)], [.int _], _)) rfl (u_ rfl) ?_
            exact wrI (pc := 31) (len_s := 1) rfl hk t_s
          · replace t_s := t_s.2 c39_s
            refine w_t (pc := 6) (e_s := (2, 1, 0, 0, 0, .null, [])) (y_s := (7, [some (.long _), none, some (.long _), none, some (.long _), none], [.long _], _)) rfl (u_ rfl) ?_
            refine w_t (pc := 7) (e_s := (2, 2, 4, 0, 0, .null, [])) (y_s := (9, [some (.long _), none, some (.long _), none, some (.long _), none], [.long _, .long _], _)) rfl (u_ rfl) ?_
            refine w_t (pc := 9) (e_s := (14, 1, 0, 0, 0, .null, [])) (y_s := (10, [some (.long _), none, some (.long _), none, some (.long _), none], [.int (lg_cmp _ _)], _)) rfl (u_ rfl) ?_
            refine wl4 (pc := 10) (len_s := 3) rfl (Int32.toInt_toInt64 _) (Int32.toInt_toInt64 _) (fun c40_s => ?_) (fun c40_s => ?_)
            · replace t_s := t_s.1 c40_s
              refine w_t (pc := 17) (e_s := (0, 1, 0, 0, 0, .int 0, [])) (y_s := (18, [some (.long _), none, some (.long _), none, some (.long _), none], [.int _], _)) rfl (u_ rfl) ?_
              refine wrI (pc := 18) (len_s := 1) rfl hk ?_
              show wF _ 152 (12, [some (.ref _), some (.long _), none], [.int _], _) _
              refine wrI (pc := 12) (len_s := 1) rfl hk ?_
              show wF _ 189 (15, [some (.ref _), some (.int _), some (.int _), some (.int _)], [.int _], _) _
              refine w_t (pc := 15) (e_s := (15, 3, 30, 0, 0, .null, [])) (y_s := (30, [some (.ref _), some (.int _), some (.int _), some (.int _)], [], _)) rfl (u_ rfl) ?_
              refine w_t (pc := 30) (e_s := (0, 1, 0, 0, 0, .int (-1), [])) (y_s := (31, [some (.ref _), some (.int _), some (.int _), some (.int _)], [.int _], _)) rfl (u_ rfl) ?_
              exact wrI (pc := 31) (len_s := 1) rfl hk t_s
            · replace t_s := t_s.2 c40_s
              refine w_t (pc := 13) (e_s := (0, 1, 0, 0, 0, .int 1, [])) (y_s := (14, [some (.long _), none, some (.long _), none, some (.long _), none], [.int _], _)) rfl (u_ rfl) ?_
              refine w_t (pc := 14) (e_s := (17, 3, 18, 0, 0, .null, [])) (y_s := (18, [some (.long _), none, some (.long _), none, some (.long _), none], [.int _], _)) rfl (u_ rfl) ?_
              refine wrI (pc := 18) (len_s := 1) rfl hk ?_
              show wF _ 152 (12, [some (.ref _), some (.long _), none], [.int _], _) _
              refine wrI (pc := 12) (len_s := 1) rfl hk ?_
              show wF _ 189 (15, [some (.ref _), some (.int _), some (.int _), some (.int _)], [.int _], _) _
              refine w_t (pc := 15) (e_s := (15, 3, 30, 0, 0, .null, [])) (y_s := (18, [some (.ref _), some (.int _), some (.int _), some (.int _)], [], _)) rfl (u_ rfl) ?_
              refine w_t (pc := 18) (e_s := (1, 1, 3, 0, 0, .null, [])) (y_s := (19, [some (.ref _), some (.int _), some (.int _), some (.int _)], [.int _], _)) rfl (u_ rfl) ?_
              refine w_t (pc := 19) (e_s := (10, 1, 0, 0, 0, .null, [])) (y_s := (20, [some (.ref _), some (.int _), some (.int _), some (.int _)], [.long (Int32.toInt64 _)], _)) rfl (u_ rfl) ?_
              refine w_t (pc := 20) (e_s := (0, 1, 0, 0, 0, .long 0, [])) (y_s := (21, [some (.ref _), some (.int _), some (.int _), some (.int _)], [.long _, .long _], _)) rfl (u_ rfl) ?_
              refine w_t (pc := 21) (e_s := (0, 3, 0, 0, 0, .long 4, [(0, 1113)])) (y_s := (24, [some (.ref _), some (.int _), some (.int _), some (.int _)], [.long _, .long _, .long _], _)) rfl (u_ rfl) ?_
              refine wcI (pc := 24) (len_s := 3) rfl rfl (l := [some (.long _), none, some (.long _), none, some (.long _), none]) rfl ?_
              refine w_t (pc := 0) (e_s := (2, 1, 0, 0, 0, .null, [])) (y_s := (1, [some (.long _), none, some (.long _), none, some (.long _), none], [.long _], _)) rfl (u_ rfl) ?_
              refine w_t (pc := 1) (e_s := (2, 1, 2, 0, 0, .null, [])) (y_s := (2, [some (.long _), none, some (.long _), none, some (.long _), none], [.long _, .long _], _)) rfl (u_ rfl) ?_
              refine w_t (pc := 2) (e_s := (14, 1, 0, 0, 0, .null, [])) (y_s := (3, [some (.long _), none, some (.long _), none, some (.long _), none], [.int (lg_cmp _ _)], _)) rfl (u_ rfl) ?_
              refine wl2 (pc := 3) (len_s := 3) (Y := 0) rfl (Int32.toInt_toInt64 _) (by decide) (fun c41 => ?_) (fun c41 => ?_)
              · replace t_s := t_s.1 c41
                refine w_t (pc := 17) (e_s := (0, 1, 0, 0, 0, .int 0, [])) (y_s := (18, [some (.long _), none, some (.long _), none, some (.long _), none], [.int _], _)) rfl (u_ rfl) ?_
                refine wrI (pc := 18) (len_s := 1) rfl hk ?_
                show wF _ 189 (27, [some (.ref _), some (.int _), some (.int _), some (.int _)], [.int _], _) _
                refine w_t (pc := 27) (e_s := (15, 3, 32, 1, 0, .null, [])) (y_s := (30, [some (.ref _), some (.int _), some (.int _), some (.int _)], [], _)) rfl (u_ rfl) ?_
                refine w_t (pc := 30) (e_s := (0, 1, 0, 0, 0, .int (-1), [])) (y_s := (31, [some (.ref _), some (.int _), some (.int _), some (.int _)], [.int _], _)) rfl (u_ rfl) ?_
                exact wrI (pc := 31) (len_s := 1) rfl hk t_s
              · replace t_s := t_s.2 c41
                refine w_t (pc := 6) (e_s := (2, 1, 0, 0, 0, .null, [])) (y_s := (7, [some (.long _), none, some (.long _), none, some (.long _), none], [.long _], _)) rfl (u_ rfl) ?_
                refine w_t (pc := 7) (e_s := (2, 2, 4, 0, 0, .null, [])) (y_s := (9, [some (.long _), none, some (.long _), none, some (.long _), none], [.long _, .long _], _)) rfl (u_ rfl) ?_
                refine w_t (pc := 9) (e_s := (14, 1, 0, 0, 0, .null, [])) (y_s := (10, [some (.long _), none, some (.long _), none, some (.long _), none], [.int (lg_cmp _ _)], _)) rfl (u_ rfl) ?_
                refine wl4 (pc := 10) (len_s := 3) (Y := 4) rfl (Int32.toInt_toInt64 _) (by decide) (fun c42 => ?_) (fun c42 => ?_)
                · replace t_s := t_s.1 c42
                  refine w_t (pc := 17) (e_s := (0, 1, 0, 0, 0, .int 0, [])) (y_s := (18, [some (.long _), none, some (.long _), none, some (.long _), none], [.int _], _)) rfl (u_ rfl) ?_
                  refine wrI (pc := 18) (len_s := 1) rfl hk ?_
                  show wF _ 189 (27, [some (.ref _), some (.int _), some (.int _), some (.int _)], [.int _], _) _
                  refine w_t (pc := 27) (e_s := (15, 3, 32, 1, 0, .null, [])) (y_s := (30, [some (.ref _), some (.int _), some (.int _), some (.int _)], [], _)) rfl (u_ rfl) ?_
                  refine w_t (pc := 30) (e_s := (0, 1, 0, 0, 0, .int (-1), [])) (y_s := (31, [some (.ref _), some (.int _), some (.int _), some (.int _)], [.int _], _)) rfl (u_ rfl) ?_
                  exact wrI (pc := 31) (len_s := 1) rfl hk t_s
                · replace t_s := t_s.2 c42
                  refine w_t (pc := 13) (e_s := (0, 1, 0, 0, 0, .int 1, [])) (y_s := (14, [some (.long _), none, some (.long _), none, some (.long _), none], [.int _], _)) rfl (u_ rfl) ?_
                  refine w_t (pc := 14) (e_s := (17, 3, 18, 0, 0, .null, [])) (y_s := (18, [some (.long _), none, some (.long _), none, some (.long _), none], [.int _], _)) rfl (u_ rfl) ?_
                  refine wrI (pc := 18) (len_s := 1) rfl hk ?_
                  show wF _ 189 (27, [some (.ref _), some (.int _), some (.int _), some (.int _)], [.int _], _) _
                  refine w_t (pc := 27) (e_s := (15, 3, 32, 1, 0, .null, [])) (y_s := (32, [some (.ref _), some (.int _), some (.int _), some (.int _)], [], _)) rfl (u_ rfl) ?_
                  refine w_t (pc := 32) (e_s := (3, 1, 0, 0, 0, .null, [])) (y_s := (33, [some (.ref _), some (.int _), some (.int _), some (.int _)], [.ref _], _)) rfl (u_ rfl) ?_
                  refine w_t (pc := 33) (e_s := (1, 1, 1, 0, 0, .null, [])) (y_s := (34, [some (.ref _), some (.int _), some (.int _), some (.int _)], [.int _, .ref _], _)) rfl (u_ rfl) ?_
                  refine wcI (pc := 34) (len_s := 3) rfl rfl (l := [some (.ref _), some (.int _)]) rfl ?_
                  refine w_t (pc := 0) (e_s := (1, 1, 1, 0, 0, .null, [])) (y_s := (1, [some (.ref _), some (.int _)], [.int _], _)) rfl (u_ rfl) ?_
                  refine wcI (pc := 1) (len_s := 3) rfl rfl (l := [some (.int _)]) rfl ?_
                  refine w_t (pc := 0) (e_s := (1, 1, 0, 0, 0, .null, [])) (y_s := (1, [some (.int _)], [.int _], _)) rfl (u_ rfl) ?_
                  refine w_t (pc := 1) (e_s := (10, 1, 0, 0, 0, .null, [])) (y_s := (2, [some (.int _)], [.long (Int32.toInt64 _)], _)) rfl (u_ rfl) ?_
                  refine w_t (pc := 2) (e_s := (0, 1, 0, 0, 0, .long 0, [])) (y_s := (3, [some (.int _)], [.long _, .long _], _)) rfl (u_ rfl) ?_
                  refine w_t (pc := 3) (e_s := (0, 3, 0, 0, 0, .long 5, [(0, 1063)])) (y_s := (6, [some (.int _)], [.long _, .long _, .long _], _)) rfl (u_ rfl) ?_
                  refine wcI (pc := 6) (len_s := 3) rfl rfl (l := [some (.long _), none, some (.long _), none, some (.long _), none]) rfl ?_
                  refine w_t (pc := 0) (e_s := (2, 1, 0, 0, 0, .null, [])) (y_s := (1, [some (.long _), none, some (.long _), none, some (.long _), none], [.long _], _)) rfl (u_ rfl) ?_
                  refine w_t (pc := 1) (e_s := (2, 1, 2, 0, 0, .null, [])) (y_s := (2, [some (.long _), none, some (.long _), none, some (.long _), none], [.long _, .long _], _)) rfl (u_ rfl) ?_
                  refine w_t (pc := 2) (e_s := (14, 1, 0, 0, 0, .null, [])) (y_s := (3, [some (.long _), none, some (.long _), none, some (.long _), none], [.int (lg_cmp _ _)], _)) rfl (u_ rfl) ?_
                  refine wl2 (pc := 3) (len_s := 3) (Y := 0) rfl (Int32.toInt_toInt64 _) (by decide) (fun c43_s => ?_) (fun c43_s => ?_)
                  · exact absurd c43_s c1_s
                  · skip
                    refine w_t (pc := 6) (e_s := (2, 1, 0, 0, 0, .null, [])) (y_s := (7, [some (.long _), none, some (.long _), none, some (.long _), none], [.long _], _)) rfl (u_ rfl) ?_
                    refine w_t (pc := 7) (e_s := (2, 2, 4, 0, 0, .null, [])) (y_s := (9, [some (.long _), none, some (.long _), none, some (.long _), none], [.long _, .long _], _)) rfl (u_ rfl) ?_
                    refine w_t (pc := 9) (e_s := (14, 1, 0, 0, 0, .null, [])) (y_s := (10, [some (.long _), none, some (.long _), none, some (.long _), none], [.int (lg_cmp _ _)], _)) rfl (u_ rfl) ?_
                    refine wl4 (pc := 10) (len_s := 3) (Y := 5) rfl (Int32.toInt_toInt64 _) (by decide) (fun c44_s => ?_) (fun c44_s => ?_)
                    · exact absurd c44_s c2_s
                    · skip
                      refine w_t (pc := 13) (e_s := (0, 1, 0, 0, 0, .int 1, [])) (y_s := (14, [some (.long _), none, some (.long _), none, some (.long _), none], [.int _], _)) rfl (u_ rfl) ?_
                      refine w_t (pc := 14) (e_s := (17, 3, 18, 0, 0, .null, [])) (y_s := (18, [some (.long _), none, some (.long _), none, some (.long _), none], [.int _], _)) rfl (u_ rfl) ?_
                      refine wrI (pc := 18) (len_s := 1) rfl hk ?_
                      show wF _ 228 (9, [some (.int _)], [.int _], _) _
                      refine wrI (pc := 9) (len_s := 1) rfl hk ?_
                      show wF _ 186 (4, [some (.ref _), some (.int _)], [.int _], _) _
                      refine w_t (pc := 4) (e_s := (15, 3, 11, 1, 0, .null, [])) (y_s := (11, [some (.ref _), some (.int _)], [], _)) rfl (u_ rfl) ?_
                      refine w_t (pc := 11) (e_s := (3, 1, 0, 0, 0, .null, [])) (y_s := (12, [some (.ref _), some (.int _)], [.ref _], _)) rfl (u_ rfl) ?_
                      refine w20r (pc := 12) (len_s := 3) (q_s := 124) rfl (krq hk rfl) ?_
                      refine w_t (pc := 15) (e_s := (1, 1, 1, 0, 0, .null, [])) (y_s := (16, [some (.ref _), some (.int _)], [.int _, .ref _], _)) rfl (u_ rfl) ?_
                      refine w22 (pc := 16) (len_s := 1) rfl (hk.1 124 0 6 rfl rfl) (fun c45 => ?_)
                      refine wq3 (pc := 17) (len_s := 3) rfl rfl (fun c46_s => ?_) (fun c46_s => ?_)
                      · exact absurd c46_s c4_s
                      · skip
                        refine w_t (pc := 25) (e_s := (3, 1, 0, 0, 0, .null, [])) (y_s := (26, [some (.ref _), some (.int _)], [.ref _], _)) rfl (u_ rfl) ?_
                        refine w20r (pc := 26) (len_s := 3) (q_s := 124) rfl (krq hk rfl) ?_
                        refine w_t (pc := 29) (e_s := (1, 1, 1, 0, 0, .null, [])) (y_s := (30, [some (.ref _), some (.int _)], [.int _, .ref _], _)) rfl (u_ rfl) ?_
                        refine w22 (pc := 30) (len_s := 1) rfl (hk.1 124 0 6 rfl rfl) (fun c47_s => ?_)
                        refine w_t (pc := 31) (e_s := (0, 2, 0, 0, 0, .int 50, [])) (y_s := (33, [some (.ref _), some (.int _)], [.int _, .int _], _)) rfl (u_ rfl) ?_
                        refine wi1 (pc := 33) (len_s := 3) (Y := 50) rfl rfl (by decide) (fun c48_s => ?_) (fun c48_s => ?_)
                        · exact absurd c48_s c18_s
                        · skip
                          refine w_t (pc := 40) (e_s := (0, 2, 0, 0, 0, .int (-12), [])) (y_s := (42, [some (.ref _), some (.int _)], [.int _], _)) rfl (u_ rfl) ?_
                          refine wrI (pc := 42) (len_s := 1) rfl hk ?_
                          show wF _ 189 (37, [some (.ref _), some (.int _), some (.int _), some (.int _)], [.int _], _) _
                          refine w_t (pc := 37) (e_s := (15, 3, 46, 3, 0, .null, [])) (y_s := (40, [some (.ref _), some (.int _), some (.int _), some (.int _)], [], _)) rfl (u_ rfl) ?_
                          refine w_t (pc := 40) (e_s := (3, 1, 0, 0, 0, .null, [])) (y_s := (41, [some (.ref _), some (.int _), some (.int _), some (.int _)], [.ref _], _)) rfl (u_ rfl) ?_
                          refine w_t (pc := 41) (e_s := (1, 1, 1, 0, 0, .null, [])) (y_s := (42, [some (.ref _), some (.int _), some (.int _), some (.int _)], [.int _, .ref _], _)) rfl (u_ rfl) ?_
                          refine wcI (pc := 42) (len_s := 3) rfl rfl (l := [some (.ref _), some (.int _)]) rfl ?_
                          refine w_t (pc := 0) (e_s := (1, 1, 1, 0, 0, .null, [])) (y_s := (1, [some (.ref _), some (.int _)], [.int _], _)) rfl (u_ rfl) ?_
                          refine wcI (pc := 1) (len_s := 3) rfl rfl (l := [some (.int _)]) rfl ?_
                          refine w_t (pc := 0) (e_s := (1, 1, 0, 0, 0, .null, [])) (y_s := (1, [some (.int _)], [.int _], _)) rfl (u_ rfl) ?_
                          refine w_t (pc := 1) (e_s := (10, 1, 0, 0, 0, .null, [])) (y_s := (2, [some (.int _)], [.long (Int32.toInt64 _)], _)) rfl (u_ rfl) ?_
                          refine w_t (pc := 2) (e_s := (0, 1, 0, 0, 0, .long 0, [])) (y_s := (3, [some (.int _)], [.long _, .long _], _)) rfl (u_ rfl) ?_
                          refine w_t (pc := 3) (e_s := (0, 3, 0, 0, 0, .long 5, [(0, 1063)])) (y_s := (6, [some (.int _)], [.long _, .long _, .long _], _)) rfl (u_ rfl) ?_
                          refine wcI (pc := 6) (len_s := 3) rfl rfl (l := [some (.long _), none, some (.long _), none, some (.long _), none]) rfl ?_
                          refine w_t (pc := 0) (e_s := (2, 1, 0, 0, 0, .null, [])) (y_s := (1, [some (.long _), none, some (.long _), none, some (.long _), none], [.long _], _)) rfl (u_ rfl) ?_
                          refine w_t (pc := 1) (e_s := (2, 1, 2, 0, 0, .null, [])) (y_s := (2, [some (.long _), none, some (.long _), none, some (.long _), none], [.long _, .long _], _)) rfl (u_ rfl) ?_
                          refine w_t (pc := 2) (e_s := (14, 1, 0, 0, 0, .null, [])) (y_s := (3, [some (.long _), none, some (.long _), none, some (.long _), none], [.int (lg_cmp _ _)], _)) rfl (u_ rfl) ?_
                          refine wl2 (pc := 3) (len_s := 3) (Y := 0) rfl (Int32.toInt_toInt64 _) (by decide) (fun c49 => ?_) (fun c49 => ?_)
                          · exact absurd c49 c1_s
                          · skip
                            refine w_t (pc := 6) (e_s := (2, 1, 0, 0, 0, .null, [])) (y_s := (7, [some (.long _), none, some (.long _), none, some (.long _), none], [.long _], _)) rfl (u_ rfl) ?_
                            refine w_t (pc := 7) (e_s := (2, 2, 4, 0, 0, .null, [])) (y_s := (9, [some (.long _), none, some (.long _), none, some (.long _), none], [.long _, .long _], _)) rfl (u_ rfl) ?_
                            refine w_t (pc := 9) (e_s := (14, 1, 0, 0, 0, .null, [])) (y_s := (10, [some (.long _), none, some (.long _), none, some (.long _), none], [.int (lg_cmp _ _)], _)) rfl (u_ rfl) ?_
                            refine wl4 (pc := 10) (len_s := 3) (Y := 5) rfl (Int32.toInt_toInt64 _) (by decide) (fun c50 => ?_) (fun c50 => ?_)
                            · exact absurd c50 c2_s
                            · skip
                              refine w_t (pc := 13) (e_s := (0, 1, 0, 0, 0, .int 1, [])) (y_s := (14, [some (.long _), none, some (.long _), none, some (.long _), none], [.int _], _)) rfl (u_ rfl) ?_
                              refine w_t (pc := 14) (e_s := (17, 3, 18, 0, 0, .null, [])) (y_s := (18, [some (.long _), none, some (.long _), none, some (.long _), none], [.int _], _)) rfl (u_ rfl) ?_
                              refine wrI (pc := 18) (len_s := 1) rfl hk ?_
                              show wF _ 228 (9, [some (.int _)], [.int _], _) _
                              refine wrI (pc := 9) (len_s := 1) rfl hk ?_
                              show wF _ 186 (4, [some (.ref _), some (.int _)], [.int _], _) _
                              refine w_t (pc := 4) (e_s := (15, 3, 11, 1, 0, .null, [])) (y_s := (11, [some (.ref _), some (.int _)], [], _)) rfl (u_ rfl) ?_
                              refine w_t (pc := 11) (e_s := (3, 1, 0, 0, 0, .null, [])) (y_s := (12, [some (.ref _), some (.int _)], [.ref _], _)) rfl (u_ rfl) ?_
                              refine w20r (pc := 12) (len_s := 3) (q_s := 124) rfl (krq hk rfl) ?_
                              refine w_t (pc := 15) (e_s := (1, 1, 1, 0, 0, .null, [])) (y_s := (16, [some (.ref _), some (.int _)], [.int _, .ref _], _)) rfl (u_ rfl) ?_
                              refine w22 (pc := 16) (len_s := 1) rfl (hk.1 124 0 6 rfl rfl) (fun c51_s => ?_)
                              refine wq3 (pc := 17) (len_s := 3) rfl rfl (fun c52_s => ?_) (fun c52_s => ?_)
                              · exact absurd c52_s c4_s
                              · skip
                                refine w_t (pc := 25) (e_s := (3, 1, 0, 0, 0, .null, [])) (y_s := (26, [some (.ref _), some (.int _)], [.ref _], _)) rfl (u_ rfl) ?_
                                refine w20r (pc := 26) (len_s := 3) (q_s := 124) rfl (krq hk rfl) ?_
                                refine w_t (pc := 29) (e_s := (1, 1, 1, 0, 0, .null, [])) (y_s := (30, [some (.ref _), some (.int _)], [.int _, .ref _], _)) rfl (u_ rfl) ?_
                                refine w22 (pc := 30) (len_s := 1) rfl (hk.1 124 0 6 rfl rfl) (fun c53 => ?_)
                                refine w_t (pc := 31) (e_s := (0, 2, 0, 0, 0, .int 50, [])) (y_s := (33, [some (.ref _), some (.int _)], [.int _, .int _], _)) rfl (u_ rfl) ?_
                                refine wi1 (pc := 33) (len_s := 3) (Y := 50) rfl rfl (by decide) (fun c54 => ?_) (fun c54 => ?_)
                                · exact absurd c54 c18_s
                                · skip
                                  refine w_t (pc := 40) (e_s := (0, 2, 0, 0, 0, .int (-12), [])) (y_s := (42, [some (.ref _), some (.int _)], [.int _], _)) rfl (u_ rfl) ?_
                                  refine wrI (pc := 42) (len_s := 1) rfl hk ?_
                                  show wF _ 189 (45, [some (.ref _), some (.int _), some (.int _), some (.int _)], [.int _], _) _
                                  exact wrI (pc := 45) (len_s := 1) rfl hk t_s
/-- ColdShodModel.goesJourney(I)V, from 0 on -/
theorem sg_188_0 {F_s : Nat} {x1_s : Int32} {h_s : zH} {K_s : zH → Prop} (hk : hKn h_s) (t_s : wF F_s 188 (12, [some (.ref 102), some (.int x1_s), some (.int 1)], [], (h_s.1, zup (zup h_s.2.1 102 24 0) 102 25 0, h_s.2.2.1, h_s.2.2.2)) (gV K_s)) : wF (F_s + 1) 188 (0, [some (.ref 102), some (.int x1_s), none], [], h_s) (gV K_s) := by
  refine w_0 (pc := 0) (e_s := (3, 1, 0, 0, 0, .null, [])) (y_s := (1, [some (.ref _), some (.int _), none], [.ref _], _)) rfl (u_ rfl) ?_
  refine w_t (pc := 1) (e_s := (0, 1, 0, 0, 0, .int 0, [])) (y_s := (2, [some (.ref _), some (.int _), none], [.int _, .ref _], _)) rfl (u_ rfl) ?_
  refine w21 (pc := 2) (len_s := 3) rfl ?_
  refine w_t (pc := 5) (e_s := (3, 1, 0, 0, 0, .null, [])) (y_s := (6, [some (.ref _), some (.int _), none], [.ref _], _)) rfl (u_ rfl) ?_
  refine w_t (pc := 6) (e_s := (0, 1, 0, 0, 0, .int 0, [])) (y_s := (7, [some (.ref _), some (.int _), none], [.int _, .ref _], _)) rfl (u_ rfl) ?_
  refine w21 (pc := 7) (len_s := 3) rfl ?_
  refine w_t (pc := 10) (e_s := (0, 1, 0, 0, 0, .int 1, [])) (y_s := (11, [some (.ref _), some (.int _), none], [.int _], _)) rfl (u_ rfl) ?_
  refine w_t (pc := 11) (e_s := (4, 1, 2, 0, 0, .null, [])) (y_s := (12, [some (.ref _), some (.int _), some (.int _)], [], _)) rfl (u_ rfl) ?_
  exact t_s
/-- ColdShodModel.goesJourney(I)V, from 12 on -/
theorem sg_188_12 {F_s : Nat} {x1_s x2_s : Int32} {h_s : zH} {K_s : zH → Prop} (hk : hKn h_s) (t_s : (x2_s.toInt = 0 → K_s h_s) ∧ (¬ x2_s.toInt = 0 → wF F_s 187 (0, [some (.ref 102), some (.int x1_s), none], [], h_s) (gI (fun v2 h2 => hKn h2 → ((h_s.2.1 102 25).toInt < v2.toInt → (zix ((60 * x1_s) + (h2.2.1 102 25)) < 360 → wF F_s 183 (0, [some (.ref 102), some (.int ((h2.2.2.1 126 (zix ((60 * x1_s) + (h2.2.1 102 25)))).toInt32)), none], [], h2) (gV (fun h5 => hKn h5 → wF F_s 188 (65, [some (.ref 102), some (.int x1_s), some (.int (h5.2.1 102 23))], [], (h5.1, zup h5.2.1 102 24 ((h5.2.1 102 24) + (h5.2.1 102 22)), h5.2.2.1, h5.2.2.2)) (gV K_s))))) ∧ (¬ (h_s.2.1 102 25).toInt < v2.toInt → K_s h2))))) : wF (F_s + 1) 188 (12, [some (.ref 102), some (.int x1_s), some (.int x2_s)], [], h_s) (gV K_s) := by
  refine w_0 (pc := 12) (e_s := (1, 1, 2, 0, 0, .null, [])) (y_s := (13, [some (.ref _), some (.int _), some (.int _)], [.int _], _)) rfl (u_ rfl) ?_
  refine wq0 (pc := 13) (len_s := 3) rfl rfl (fun c1_s => ?_) (fun c1_s => ?_)
  · replace t_s := t_s.1 c1_s
    exact wrV (pc := 89) (len_s := 1) rfl hk t_s
  · replace t_s := t_s.2 c1_s
    refine w_t (pc := 16) (e_s := (3, 1, 0, 0, 0, .null, [])) (y_s := (17, [some (.ref _), some (.int _), some (.int _)], [.ref _], _)) rfl (u_ rfl) ?_
    refine w20 (pc := 17) (len_s := 3) rfl ?_
    refine w_t (pc := 20) (e_s := (3, 1, 0, 0, 0, .null, [])) (y_s := (21, [some (.ref _), some (.int _), some (.int _)], [.ref _, .int _], _)) rfl (u_ rfl) ?_
    refine w_t (pc := 21) (e_s := (1, 1, 1, 0, 0, .null, [])) (y_s := (22, [some (.ref _), some (.int _), some (.int _)], [.int _, .ref _, .int _], _)) rfl (u_ rfl) ?_
    refine wcI (pc := 22) (len_s := 3) rfl rfl (l := [some (.ref _), some (.int _), none]) rfl (wmI t_s (fun v2 h2 hk t_s => ?_))
    replace t_s := t_s hk
    refine wi3 (pc := 25) (len_s := 3) rfl rfl rfl (fun c3_s => ?_) (fun c3_s => ?_)
    · replace t_s := t_s.1 c3_s
      refine w_t (pc := 28) (e_s := (3, 1, 0, 0, 0, .null, [])) (y_s := (29, [some (.ref _), some (.int _), some (.int _)], [.ref _], _)) rfl (u_ rfl) ?_
      refine w_t (pc := 29) (e_s := (3, 1, 0, 0, 0, .null, [])) (y_s := (30, [some (.ref _), some (.int _), some (.int _)], [.ref _, .ref _], _)) rfl (u_ rfl) ?_
      refine w20r (pc := 30) (len_s := 3) (q_s := 126) rfl (krq hk rfl) ?_
      refine w_t (pc := 33) (e_s := (0, 2, 0, 0, 0, .int 60, [])) (y_s := (35, [some (.ref _), some (.int _), some (.int _)], [.int _, .ref _, .ref _], _)) rfl (u_ rfl) ?_
      refine w_t (pc := 35) (e_s := (1, 1, 1, 0, 0, .null, [])) (y_s := (36, [some (.ref _), some (.int _), some (.int _)], [.int _, .int _, .ref _, .ref _], _)) rfl (u_ rfl) ?_
      refine w_t (pc := 36) (e_s := (7, 1, 0, 2, 0, .null, [])) (y_s := (37, [some (.ref _), some (.int _), some (.int _)], [.int (_ * _), .ref _, .ref _], _)) rfl (u_ rfl) ?_
      refine w_t (pc := 37) (e_s := (3, 1, 0, 0, 0, .null, [])) (y_s := (38, [some (.ref _), some (.int _), some (.int _)], [.ref _, .int _, .ref _, .ref _], _)) rfl (u_ rfl) ?_
      refine w20 (pc := 38) (len_s := 3) rfl ?_
      refine w_t (pc := 41) (e_s := (7, 1, 0, 0, 0, .null, [])) (y_s := (42, [some (.ref _), some (.int _), some (.int _)], [.int (_ + _), .ref _, .ref _], _)) rfl (u_ rfl) ?_
      refine w23 (pc := 42) (len_s := 1) rfl (hk.1 126 1 360 rfl rfl) (fun c4_s => ?_)
      replace t_s := t_s c4_s
      refine w_t (pc := 43) (e_s := (11, 1, 0, 0, 0, .null, [])) (y_s := (44, [some (.ref _), some (.int _), some (.int _)], [.int (Int64.toInt32 _), .ref _], _)) rfl (u_ rfl) ?_
      refine wcV (pc := 44) (len_s := 3) rfl rfl (l := [some (.ref _), some (.int _), none]) rfl (wmV t_s (fun h5 hk t_s => ?_))
      replace t_s := t_s hk
      refine w_t (pc := 47) (e_s := (3, 1, 0, 0, 0, .null, [])) (y_s := (48, [some (.ref _), some (.int _), some (.int _)], [.ref _], _)) rfl (u_ rfl) ?_
      refine w_t (pc := 48) (e_s := (39, 1, 0, 0, 0, .null, [])) (y_s := (49, [some (.ref _), some (.int _), some (.int _)], [.ref _, .ref _], _)) rfl (u_ rfl) ?_
      refine w20 (pc := 49) (len_s := 3) rfl ?_
      refine w_t (pc := 52) (e_s := (3, 1, 0, 0, 0, .null, [])) (y_s := (53, [some (.ref _), some (.int _), some (.int _)], [.ref _, .int _, .ref _], _)) rfl (u_ rfl) ?_
      refine w20 (pc := 53) (len_s := 3) rfl ?_
      refine w_t (pc := 56) (e_s := (7, 1, 0, 0, 0, .null, [])) (y_s := (57, [some (.ref _), some (.int _), some (.int _)], [.int (_ + _), .ref _], _)) rfl (u_ rfl) ?_
      refine w21 (pc := 57) (len_s := 3) rfl ?_
      refine w_t (pc := 60) (e_s := (3, 1, 0, 0, 0, .null, [])) (y_s := (61, [some (.ref _), some (.int _), some (.int _)], [.ref _], _)) rfl (u_ rfl) ?_
      refine w20 (pc := 61) (len_s := 3) rfl ?_
      refine w_t (pc := 64) (e_s := (4, 1, 2, 0, 0, .null, [])) (y_s := (65, [some (.ref _), some (.int _), some (.int _)], [], _)) rfl (u_ rfl) ?_
      exact t_s
    · replace t_s := t_s.2 c3_s
      exact wrV (pc := 89) (len_s := 1) rfl hk t_s
/-- ColdShodModel.goesJourney(I)V, from 65 on -/
theorem sg_188_65 {F_s : Nat} {x1_s x2_s : Int32} {h_s : zH} {K_s : zH → Prop} (hk : hKn h_s) (t_s : ((h_s.2.1 102 23).toInt = 0 → wF F_s 188 (12, [some (.ref 102), some (.int x1_s), some (.int x2_s)], [], (h_s.1, zup h_s.2.1 102 25 ((h_s.2.1 102 25) + 0), h_s.2.2.1, h_s.2.2.2)) (gV K_s)) ∧ (¬ (h_s.2.1 102 23).toInt = 0 → wF F_s 188 (12, [some (.ref 102), some (.int x1_s), some (.int x2_s)], [], (h_s.1, zup h_s.2.1 102 25 ((h_s.2.1 102 25) + 1), h_s.2.2.1, h_s.2.2.2)) (gV K_s))) : wF (F_s + 1) 188 (65, [some (.ref 102), some (.int x1_s), some (.int x2_s)], [], h_s) (gV K_s) := by
  refine w_0 (pc := 65) (e_s := (3, 1, 0, 0, 0, .null, [])) (y_s := (66, [some (.ref _), some (.int _), some (.int _)], [.ref _], _)) rfl (u_ rfl) ?_
  refine w_t (pc := 66) (e_s := (39, 1, 0, 0, 0, .null, [])) (y_s := (67, [some (.ref _), some (.int _), some (.int _)], [.ref _, .ref _], _)) rfl (u_ rfl) ?_
  refine w20 (pc := 67) (len_s := 3) rfl ?_
  refine w_t (pc := 70) (e_s := (3, 1, 0, 0, 0, .null, [])) (y_s := (71, [some (.ref _), some (.int _), some (.int _)], [.ref _, .int _, .ref _], _)) rfl (u_ rfl) ?_
  refine w20 (pc := 71) (len_s := 3) rfl ?_
  refine wq0 (pc := 74) (len_s := 3) rfl rfl (fun c1_s => ?_) (fun c1_s => ?_)
  · replace t_s := t_s.1 c1_s
    refine w_t (pc := 81) (e_s := (0, 1, 0, 0, 0, .int 0, [])) (y_s := (82, [some (.ref _), some (.int _), some (.int _)], [.int _, .int _, .ref _], _)) rfl (u_ rfl) ?_
    refine w_t (pc := 82) (e_s := (7, 1, 0, 0, 0, .null, [])) (y_s := (83, [some (.ref _), some (.int _), some (.int _)], [.int (_ + _), .ref _], _)) rfl (u_ rfl) ?_
    refine w21 (pc := 83) (len_s := 3) rfl ?_
    refine w_t (pc := 86) (e_s := (17, 3, 12, 0, 0, .null, [])) (y_s := (12, [some (.ref _), some (.int _), some (.int _)], [], _)) rfl (u_ rfl) ?_
    exact t_s
  · replace t_s := t_s.2 c1_s
    refine w_t (pc := 77) (e_s := (0, 1, 0, 0, 0, .int 1, [])) (y_s := (78, [some (.ref _), some (.int _), some (.int _)], [.int _, .int _, .ref _], _)) rfl (u_ rfl) ?_
    refine w_t (pc := 78) (e_s := (17, 3, 82, 0, 0, .null, [])) (y_s := (82, [some (.ref _), some (.int _), some (.int _)], [.int _, .int _, .ref _], _)) rfl (u_ rfl) ?_
    refine w_t (pc := 82) (e_s := (7, 1, 0, 0, 0, .null, [])) (y_s := (83, [some (.ref _), some (.int _), some (.int _)], [.int (_ + _), .ref _], _)) rfl (u_ rfl) ?_
    refine w21 (pc := 83) (len_s := 3) rfl ?_
    refine w_t (pc := 86) (e_s := (17, 3, 12, 0, 0, .null, [])) (y_s := (12, [some (.ref _), some (.int _), some (.int _)], [], _)) rfl (u_ rfl) ?_
    exact t_s
/-! A JOURNEY gone: class and reference. -/
noncomputable def gI32 (k_s : Nat) : Int32 := Int32.ofInt (k_s : Int)
theorem gI_of {v_s : Int32} {k_s : Nat} (e_s : v_s.toInt = (k_s : Int)) : v_s = gI32 k_s := by
  unfold gI32
  rw [← e_s, Int32.ofInt_toInt]
noncomputable def jrn (go_s : oI → Nat → Nat × Bool × oI) : Nat → Nat → Int32 → oI → Int32 × Nat × oI × Bool
  | 0, n_s, m_s, o => (m_s, n_s, o, true)
  | d_s + 1, n_s, m_s, o => if (go_s o n_s).2.1 = true then jrn go_s d_s (n_s + 1) (m_s + gI32 (go_s o n_s).1) (go_s o n_s).2.2 else (m_s + gI32 (go_s o n_s).1, n_s, (go_s o n_s).2.2, false)
section JN
variable {go_s : oI → Nat → Nat × Bool × oI} {d_s n_s : Nat} {m_s : Int32} {o : oI}
theorem jr_yes (h_s : (go_s o n_s).2.1 = true) : jrn go_s (d_s + 1) n_s m_s o = jrn go_s d_s (n_s + 1) (m_s + gI32 (go_s o n_s).1) (go_s o n_s).2.2 := if_pos h_s
theorem jr_no (h_s : ¬ (go_s o n_s).2.1 = true) : jrn go_s (d_s + 1) n_s m_s o = (m_s + gI32 (go_s o n_s).1, n_s, (go_s o n_s).2.2, false) := if_neg h_s
end JN
theorem jr_all {go_s : oI → Nat → Nat × Bool × oI} : ∀ (d_s n_s : Nat) (m_s : Int32) (o : oI), ((jrn go_s d_s n_s m_s o).2.2.2 = true → (jrn go_s d_s n_s m_s o).2.1 = n_s + d_s) ∧ (¬ (jrn go_s d_s n_s m_s o).2.2.2 = true → (jrn go_s d_s n_s m_s o).2.1 < n_s + d_s)
  | 0, n_s, m_s, o => ⟨fun _ => rfl, fun h_s => absurd rfl h_s⟩
  | d_s + 1, n_s, m_s, o => by
    by_cases c_s : (go_s o n_s).2.1 = true
    · rw [jr_yes c_s]
      have ih_s := jr_all (go_s := go_s) d_s (n_s + 1) (m_s + gI32 (go_s o n_s).1) (go_s o n_s).2.2
      exact ⟨fun w_s => by have := ih_s.1 w_s; omega, fun w_s => by have := ih_s.2 w_s; omega⟩
    · rw [jr_no c_s]
      exact ⟨fun w_s => absurd (show false = true from w_s) (by decide), fun _ => by show n_s < n_s + (d_s + 1); omega⟩
section JG_s
variable {h_s : zH} {K_s : Int32 → zH → Prop} {V : zH → Prop} {nh ni nr q_s L_s : Nat} {lw : Option (List pB)} {x1_s x2_s x3 : Int32} {f0_s : Nat → Nat → Int32} {c_s : Nat → Int64} {R_s : Int32 × Nat × oI × Bool}
theorem ag49 (hk : hKn h_s) (hr9 : h_s.2.2.2 7 9 = some q_s) (hm_s : q_s = 14 ∨ q_s = 17) (hl : lawC q_s f0_s lw) (hp : lwP lw) (hc_s : tC nh ni nr f0_s) (hL : L_s ≤ 20) (eL : (f0_s 50 1).toInt = (L_s : Int)) (es : ∀ k_s, k_s < L_s → f0_s 51 k_s = (c_s k_s).toInt32) (ok_s : ∀ k_s, k_s < L_s → okK nr (c_s k_s)) (t_s : ∀ v_s f1_s, v_s.toInt = (if R_s.2.2.2 = true then 1 else 0) → f1_s 50 2 = R_s.1 → (f1_s 50 3).toInt = (R_s.2.1 : Int) → (∀ k_s, k_s < 6 → f1_s 88 k_s = R_s.2.2.1 k_s) → frJ f0_s f1_s → K_s v_s (h_s.1, f1_s, h_s.2.2.1, h_s.2.2.2)) : ∀ (F_s n_s d_s : Nat) (x3 m_s : Int32) (f_s : Nat → Nat → Int32) (o : oI), frJ f0_s f_s → cwO f_s 88 o → oB o → x3.toInt = (n_s : Int) → n_s + d_s = L_s → f_s 50 2 = m_s → (f_s 50 3).toInt = (n_s : Int) → jrn (goJ lw f0_s c_s) d_s n_s m_s o = R_s → wF F_s 49 (12, [some (.ref 50), some (.ref 88), some (.ref 7), some (.int x3)], [], (h_s.1, f_s, h_s.2.2.1, h_s.2.2.2)) (gI K_s)
  | 0, _, _, _, _, _, _, _, _, _, _, _, _, _, _ => wF_zero
  | F_s + 1, n_s, d_s, x3, m_s, f_s, o, g_s, hcw, hB_s, e3_s, ed, em, ee, hR => by
    have e50 : f_s 50 1 = f0_s 50 1 := g_s _ _ (by omega) (by omega) (by omega) (by omega) (by omega)
    have b_s := hc_s.1
    refine sg_49_12 (h_s := (h_s.1, f_s, h_s.2.2.1, h_s.2.2.2)) hk ?_
    dsimp only
    rw [e50, eL, e3_s]
    match d_s, ed, hR with
    | 0, ed, hR =>
      refine ⟨fun c1_s => absurd c1_s (by omega), fun _ => t_s 1 f_s ?_ ?_ ?_ ?_ g_s⟩
      · rw [← hR]
        rfl
      · rw [← hR]
        exact em
      · rw [← hR]
        exact ee
      · rw [← hR]
        exact hcw.1
    | d_s + 1, ed, hR =>
      refine ⟨fun c1_s => ?_, fun c1_s => absurd c1_s (by omega)⟩
      have ko := ok_s n_s (by omega)
      have t3_s := t32_ (x_s := c_s n_s) ko.1 (by have := ko.2; omega)
      have e51 : (f_s 51 n_s).toInt = (((c_s n_s).toInt.toNat : Nat) : Int) := by
        rw [g_s _ _ (by omega) (by omega) (by omega) (by omega) (by omega), es n_s (by omega), t3_s]
        have := ko.1
        omega
      have hc1 : tC nh ni nr f_s := tC_fr (fun a_s k_s w_s => g_s a_s k_s (by unfold inC at w_s; omega) (by unfold inC at w_s; omega) (by unfold inC at w_s; omega) (by unfold inC at w_s; omega) (by unfold inC at w_s; omega)) hc_s
      have l1 : lawC q_s f_s lw := lawC_fr hm_s (fun a_s k_s w_s => g_s a_s k_s (by omega) (by omega) (by omega) (by omega) (by omega)) hl
      have eg : goF lw f_s o (c_s n_s).toInt.toNat = goJ lw f0_s c_s o n_s := goF_fr (fun k_s => g_s 103 k_s (by omega) (by omega) (by omega) (by omega) (by omega))
      refine sp_50 (k_s := n_s) (r_s := (c_s n_s).toInt.toNat) hk hr9 hm_s l1 hp hc1 e3_s e51 (by have := ko.1; have := ko.2; omega) hcw hB_s (fun v_s f1_s g1 g2 g3_s g4 g5_s _ => ?_)
      rw [eg] at g1 g2 g3_s g4
      obtain ⟨gv, gv1, gv2⟩ := g2
      rw [gI_of gv1, em] at gv2
      have hB2 : oB (goJ lw f0_s c_s o n_s).2.2 := go_B hB_s
      have g6 : frJ f0_s f1_s := fun a_s k_s q1_s q2_s q3_s q4_s q5_s => by
        rw [g5_s a_s k_s q1_s q2_s q3_s (by omega) q5_s]
        exact g_s a_s k_s q1_s q2_s q3_s q4_s q5_s
      refine ⟨fun c4_s => ?_, fun c4_s => ?_⟩
      · have no_s : ¬ (goJ lw f0_s c_s o n_s).2.1 = true := fun w_s => by
          rw [if_pos w_s] at g1
          omega
        rw [jr_no no_s] at hR
        refine t_s 0 f1_s ?_ ?_ ?_ ?_ g6
        · rw [← hR]
          rfl
        · rw [← hR]
          exact gv2
        · rw [← hR, g3_s]
          unfold bI_
          rw [if_neg no_s, iadd0]
          exact ee
        · rw [← hR]
          exact g4.1
      · have yes_s : (goJ lw f0_s c_s o n_s).2.1 = true := by
          cases e_s : (goJ lw f0_s c_s o n_s).2.1 with
          | true => rfl
          | false =>
            rw [if_neg (by rw [e_s]; decide)] at g1
            omega
        rw [jr_yes yes_s] at hR
        have e5_s : (x3 + 1).toInt = ((n_s + 1 : Nat) : Int) := by
          rw [in1_ (by omega), e3_s]
          omega
        refine ag49 hk hr9 hm_s hl hp hc_s hL eL es ok_s t_s F_s (n_s + 1) d_s (x3 + 1) _ f1_s _ g6 g4 hB2 e5_s (by omega) gv2 ?_ hR
        rw [g3_s]
        unfold bI_
        rw [if_pos yes_s, in1_ (by omega), ee]
        omega
theorem sp_49 {F_s : Nat} {o : oI} (hk : hKn h_s) (hr9 : h_s.2.2.2 7 9 = some q_s) (hm_s : q_s = 14 ∨ q_s = 17) (hl : lawC q_s f0_s lw) (hp : lwP lw) (hc_s : tC nh ni nr f0_s) (hL : L_s ≤ 20) (eL : (f0_s 50 1).toInt = (L_s : Int)) (es : ∀ k_s, k_s < L_s → f0_s 51 k_s = (c_s k_s).toInt32) (ok_s : ∀ k_s, k_s < L_s → okK nr (c_s k_s)) (hcw : cwO f0_s 88 o) (hB_s : oB o) (t_s : ∀ v_s f1_s, v_s.toInt = (if (jrn (goJ lw f0_s c_s) L_s 0 0 o).2.2.2 = true then 1 else 0) → f1_s 50 2 = (jrn (goJ lw f0_s c_s) L_s 0 0 o).1 → (f1_s 50 3).toInt = ((jrn (goJ lw f0_s c_s) L_s 0 0 o).2.1 : Int) → (∀ k_s, k_s < 6 → f1_s 88 k_s = (jrn (goJ lw f0_s c_s) L_s 0 0 o).2.2.1 k_s) → frJ f0_s f1_s → K_s v_s (h_s.1, f1_s, h_s.2.2.1, h_s.2.2.2)) : wF F_s 49 (0, [some (.ref 50), some (.ref 88), some (.ref 7), none], [], (h_s.1, f0_s, h_s.2.2.1, h_s.2.2.2)) (gI K_s) := by
  refine wF_le (Nat.le_succ F_s) (sg_49_0 (h_s := (h_s.1, f0_s, h_s.2.2.1, h_s.2.2.2)) hk ?_)
  have cw_s : cwO (zup (zup f0_s 50 2 0) 50 3 0) 88 o := by
    refine ⟨fun k_s hk6 => by rw [zne_up (by omega), zne_up (by omega)]; exact hcw.1 k_s hk6, ?_⟩
    have e6_s : zup (zup f0_s 50 2 0) 50 3 0 88 6 = f0_s 88 6 := by rw [zne_up (by omega), zne_up (by omega)]
    have e76 : zup (zup f0_s 50 2 0) 50 3 0 7 6 = f0_s 7 6 := by rw [zne_up (by omega), zne_up (by omega)]
    have e8 : ∀ k_s, zup (zup f0_s 50 2 0) 50 3 0 8 k_s = f0_s 8 k_s := fun k_s => by rw [zne_up (by omega), zne_up (by omega)]
    rw [e6_s, e76, e8]
    exact hcw.2
  refine ag49 (f0_s := f0_s) hk hr9 hm_s hl hp hc_s hL eL es ok_s t_s F_s 0 L_s 0 0 _ o (fun a_s k_s q1_s q2_s q3_s q4_s q5_s => ?_) cw_s hB_s rfl (by omega) ?_ ?_ rfl
  · show zup (zup f0_s 50 2 0) 50 3 0 a_s k_s = f0_s a_s k_s
    rw [zne_up (by omega), zne_up (by omega)]
  · show zup (zup f0_s 50 2 0) 50 3 0 50 2 = 0
    rw [zne_up (by omega), zsame_up]
  · show (zup (zup f0_s 50 2 0) 50 3 0 50 3).toInt = 0
    rw [zsame_up]
    rfl
noncomputable def frK (f0_s f_s : Nat → Nat → Int32) : Prop := ∀ a_s k_s, ¬ a_s = 111 → ¬ a_s = 112 → ¬ (a_s = 102 ∧ (15 ≤ k_s ∧ k_s ≤ 19 ∨ 22 ≤ k_s ∧ k_s ≤ 25)) → f_s a_s k_s = f0_s a_s k_s
noncomputable def S12 (h_s : zH) (V : zH → Prop) (f0_s : Nat → Nat → Int32) (lw : Option (List pB)) (c_s : Nat → Int64) (L_s : Nat) (x1_s : Int32) (R_s : Int32 × Nat × oI × Bool) (F_s : Nat) : Prop := ∀ (x2_s : Int32) (n_s d_s : Nat) (f_s : Nat → Nat → Int32) (o : oI), frK f0_s f_s → (∀ k_s, k_s < 7 → f_s 112 k_s = o k_s) → oB o → n_s + d_s = L_s → (f_s 102 25).toInt = (n_s : Int) → (x2_s.toInt = 0 → (f_s 102 24, n_s, o, false) = R_s) → (¬ x2_s.toInt = 0 → jrn (goJ lw f0_s c_s) d_s n_s (f_s 102 24) o = R_s) → wF F_s 188 (12, [some (.ref 102), some (.int x1_s), some (.int x2_s)], [], (h_s.1, f_s, h_s.2.2.1, h_s.2.2.2)) (gV V)
noncomputable def S65 (h_s : zH) (V : zH → Prop) (f0_s : Nat → Nat → Int32) (lw : Option (List pB)) (c_s : Nat → Int64) (L_s : Nat) (x1_s : Int32) (R_s : Int32 × Nat × oI × Bool) (F_s : Nat) : Prop := ∀ (x2_s : Int32) (n_s d_s : Nat) (f_s : Nat → Nat → Int32) (o : oI), frK f0_s f_s → (∀ k_s, k_s < 7 → f_s 112 k_s = o k_s) → oB o → n_s + d_s + 1 = L_s → (f_s 102 25).toInt = (n_s : Int) → (f_s 102 23).toInt = x2_s.toInt → (x2_s.toInt = 0 → (f_s 102 24, n_s, o, false) = R_s) → (¬ x2_s.toInt = 0 → jrn (goJ lw f0_s c_s) d_s (n_s + 1) (f_s 102 24) o = R_s) → wF F_s 188 (65, [some (.ref 102), some (.int x1_s), some (.int x2_s)], [], (h_s.1, f_s, h_s.2.2.1, h_s.2.2.2)) (gV V)
theorem s65_s {F_s : Nat} (hk : hKn h_s) (hL : L_s ≤ 20) (i1_s : S12 h_s V f0_s lw c_s L_s x1_s R_s F_s) : S65 h_s V f0_s lw c_s L_s x1_s R_s (F_s + 1) := by
  intro x2_s n_s d_s f_s o g_s ho hB_s ed e25_s e23_s h0 h1
  refine sg_188_65 (h_s := (h_s.1, f_s, h_s.2.2.1, h_s.2.2.2)) hk ?_
  dsimp only
  rw [e23_s]
  have fr_s : ∀ v_s, frK f0_s (zup f_s 102 25 v_s) := fun v_s a_s k_s q1_s q2_s q3_s => by
    rw [zne_up (by omega)]
    exact g_s a_s k_s q1_s q2_s q3_s
  have e24_s : ∀ v_s, zup f_s 102 25 v_s 102 24 = f_s 102 24 := fun v_s => zne_up (by omega)
  have o2 : ∀ v_s k_s, k_s < 7 → zup f_s 102 25 v_s 112 k_s = o k_s := fun v_s k_s hk7 => by
    rw [zne_up (by omega)]
    exact ho k_s hk7
  refine ⟨fun c1_s => ?_, fun c1_s => ?_⟩
  · rw [iadd0]
    exact i1_s x2_s n_s (d_s + 1) _ o (fr_s _) (o2 _) hB_s (by omega) (by rw [zsame_up]; exact e25_s) (fun w_s => by rw [e24_s]; exact h0 w_s) (fun w_s => absurd c1_s w_s)
  · refine i1_s x2_s (n_s + 1) d_s _ o (fr_s _) (o2 _) hB_s (by omega) ?_ (fun w_s => absurd w_s c1_s) (fun w_s => by rw [e24_s]; exact h1 w_s)
    rw [zsame_up, in1_ (by omega), e25_s]
    omega
theorem s12_s {F_s s_s : Nat} (hk : hKn h_s) (hc_s : tM nh ni nr f0_s) (hl : lawR f0_s lw) (hp : lwP lw) (d1_s : x1_s.toInt = (s_s : Int)) (hs : s_s < 6) (n0_s : 0 ≤ (f0_s 125 s_s).toInt) (ec : ∀ k_s, c_s k_s = h_s.2.2.1 126 (60 * s_s + k_s)) (hJ : isJ nr c_s (f0_s 125 s_s).toInt L_s) (t_s : ∀ f1_s, f1_s 102 24 = R_s.1 → (f1_s 102 25).toInt = (R_s.2.1 : Int) → (∀ k_s, k_s < 7 → f1_s 112 k_s = R_s.2.2.1 k_s) → frK f0_s f1_s → V (h_s.1, f1_s, h_s.2.2.1, h_s.2.2.2)) (i6_s : S65 h_s V f0_s lw c_s L_s x1_s R_s F_s) : S12 h_s V f0_s lw c_s L_s x1_s R_s (F_s + 1) := by
  intro x2_s n_s d_s f_s o g_s ho hB_s ed e25_s h0 h1
  have b_s := hc_s.1
  have hL := hJ.1
  have z1 := azix (i := x1_s) (by omega)
  have ez1 : zix x1_s = s_s := by omega
  have f125 : ∀ k_s, f_s 125 k_s = f0_s 125 k_s := fun k_s => g_s _ _ (by omega) (by omega) (by omega)
  have c8_s : (f_s 102 8).toInt = (nr : Int) := by
    rw [g_s 102 8 (by omega) (by omega) (by omega)]
    exact hc_s.2.1.2.2
  refine sg_188_12 (h_s := (h_s.1, f_s, h_s.2.2.1, h_s.2.2.2)) hk ⟨fun c1_s => ?_, fun c1_s => ?_⟩
  · have u_s := h0 c1_s
    exact t_s f_s (by rw [← u_s]) (by rw [← u_s]; exact e25_s) (by rw [← u_s]; exact ho) g_s
  · have u_s := h1 c1_s
    refine sp_187 (h_s := (h_s.1, f_s, h_s.2.2.1, h_s.2.2.2)) (nr := nr) hk c8_s (by omega) (by omega) (by show 0 ≤ (f_s 125 (zix x1_s)).toInt; rw [ez1, f125]; exact n0_s) (fun v_s L1 ev_s hj hk5 => ?_)
    have hj : isJ nr (fun k_s => h_s.2.2.1 126 (60 * zix x1_s + k_s)) (f_s 125 (zix x1_s)).toInt L1 := hj
    rw [ez1, f125] at hj
    have el : L1 = L_s := isJ_u hj (isJ_c (fun k_s _ => (ec k_s).symm) hJ)
    subst el
    dsimp only
    rw [e25_s, ev_s]
    match d_s, ed, u_s with
    | 0, ed, u_s =>
      refine ⟨fun c2_s => absurd c2_s (by omega), fun _ => t_s f_s (by rw [← u_s]; rfl) (by rw [← u_s]; exact e25_s) (by rw [← u_s]; exact ho) g_s⟩
    | d_s + 1, ed, u_s =>
      refine ⟨fun c2_s => fun c3_s => ?_, fun c2_s => absurd c2_s (by omega)⟩
      have z4 := azix (i := f_s 102 25) (by omega)
      have ez4 : zix (f_s 102 25) = n_s := by omega
      have zz := zx60 (d_s := x1_s) (i_s := f_s 102 25) (by omega) (by omega) (by omega) (by omega)
      rw [ez1, ez4] at zz
      rw [zz, ← ec n_s]
      have ko := hJ.2.2.1 n_s (by omega)
      have t3_s := t32_ (x_s := c_s n_s) ko.1 (by have := ko.2; omega)
      have er : (c_s n_s).toInt = (((c_s n_s).toInt.toNat : Nat) : Int) := by
        have := ko.1
        omega
      have hr1 : (c_s n_s).toInt.toNat < nr := by
        have := ko.2
        omega
      have m0_s : tM nh ni nr f_s := tM_fr (fun k_s _ _ => g_s _ _ (by omega) (by omega) (by omega)) (fun k_s _ => g_s _ _ (by omega) (by omega) (by omega)) hc_s
      obtain ⟨m1_s, m2_s, m3_s⟩ := tM_ml m0_s hr1
      have l1 : lawR f_s lw := lawR_fr (g_s _ _ (by omega) (by omega) (by omega)) (fun k_s _ => g_s _ _ (by omega) (by omega) (by omega)) hl
      have eg : goF lw f_s o (c_s n_s).toInt.toNat = goJ lw f0_s c_s o n_s := goF_fr (fun k_s => g_s 103 k_s (by omega) (by omega) (by omega))
      refine sp_183 (h_s := (h_s.1, f_s, h_s.2.2.1, h_s.2.2.2)) (o := o) (r_s := (c_s n_s).toInt.toNat) (m_s := zix (f_s 103 (68 + (c_s n_s).toInt.toNat))) hk l1 hp (by rw [t3_s]; exact er) (by omega) m1_s m2_s ho hB_s (fun f1_s p1_s p2_s p3_s p4_s hk2 => ?_)
      have p1_s : (f1_s 102 22).toInt = ((goF lw f_s o (c_s n_s).toInt.toNat).1 : Int) := p1_s
      have p2_s : (f1_s 102 23).toInt = (if (goF lw f_s o (c_s n_s).toInt.toNat).2.1 = true then 1 else 0) := p2_s
      have p3_s : ∀ k_s, k_s < 7 → f1_s 112 k_s = (goF lw f_s o (c_s n_s).toInt.toNat).2.2 k_s := p3_s
      rw [eg] at p1_s p2_s p3_s
      have q24 : f1_s 102 24 = f_s 102 24 := p4_s _ _ (by omega) (by omega) (by omega)
      have q25 : f1_s 102 25 = f_s 102 25 := p4_s _ _ (by omega) (by omega) (by omega)
      dsimp only
      rw [q24, gI_of p1_s]
      refine i6_s (f1_s 102 23) n_s d_s _ (goJ lw f0_s c_s o n_s).2.2 (fun a_s k_s q1_s q2_s q3_s => ?_) (fun k_s hk7 => ?_) (go_B hB_s) (by omega) (by rw [zne_up (by omega), q25]; exact e25_s) (by rw [zne_up (by omega)]) (fun w_s => ?_) (fun w_s => ?_)
      · rw [zne_up (by omega), p4_s a_s k_s q1_s q2_s (by omega)]
        exact g_s a_s k_s q1_s q2_s q3_s
      · rw [zne_up (by omega)]
        exact p3_s k_s hk7
      · have no_s : ¬ (goJ lw f0_s c_s o n_s).2.1 = true := fun y_s => by
          rw [if_pos y_s] at p2_s
          omega
        rw [jr_no no_s] at u_s
        rw [zsame_up]
        exact u_s
      · have yes_s : (goJ lw f0_s c_s o n_s).2.1 = true := by
          cases e_s : (goJ lw f0_s c_s o n_s).2.1 with
          | true => rfl
          | false =>
            rw [if_neg (by rw [e_s]; decide)] at p2_s
            exact absurd p2_s w_s
        rw [jr_yes yes_s] at u_s
        rw [zsame_up]
        exact u_s
theorem s_all {s_s : Nat} (hk : hKn h_s) (hc_s : tM nh ni nr f0_s) (hl : lawR f0_s lw) (hp : lwP lw) (d1_s : x1_s.toInt = (s_s : Int)) (hs : s_s < 6) (n0_s : 0 ≤ (f0_s 125 s_s).toInt) (ec : ∀ k_s, c_s k_s = h_s.2.2.1 126 (60 * s_s + k_s)) (hJ : isJ nr c_s (f0_s 125 s_s).toInt L_s) (t_s : ∀ f1_s, f1_s 102 24 = R_s.1 → (f1_s 102 25).toInt = (R_s.2.1 : Int) → (∀ k_s, k_s < 7 → f1_s 112 k_s = R_s.2.2.1 k_s) → frK f0_s f1_s → V (h_s.1, f1_s, h_s.2.2.1, h_s.2.2.2)) : ∀ F_s, S12 h_s V f0_s lw c_s L_s x1_s R_s F_s ∧ S65 h_s V f0_s lw c_s L_s x1_s R_s F_s
  | 0 => ⟨fun _ _ _ _ _ _ _ _ _ _ _ _ => wF_zero, fun _ _ _ _ _ _ _ _ _ _ _ _ _ => wF_zero⟩
  | F_s + 1 => by
    obtain ⟨i1_s, i6_s⟩ := s_all hk hc_s hl hp d1_s hs n0_s ec hJ t_s F_s
    exact ⟨s12_s hk hc_s hl hp d1_s hs n0_s ec hJ t_s i6_s, s65_s hk hJ.1 i1_s⟩
theorem sp_188 {F_s s_s : Nat} {o : oI} (hk : hKn h_s) (hc_s : tM nh ni nr f0_s) (hl : lawR f0_s lw) (hp : lwP lw) (d1_s : x1_s.toInt = (s_s : Int)) (hs : s_s < 6) (n0_s : 0 ≤ (f0_s 125 s_s).toInt) (ec : ∀ k_s, c_s k_s = h_s.2.2.1 126 (60 * s_s + k_s)) (hJ : isJ nr c_s (f0_s 125 s_s).toInt L_s) (ho : ∀ k_s, k_s < 7 → f0_s 112 k_s = o k_s) (hB_s : oB o) (t_s : ∀ f1_s, f1_s 102 24 = (jrn (goJ lw f0_s c_s) L_s 0 0 o).1 → (f1_s 102 25).toInt = ((jrn (goJ lw f0_s c_s) L_s 0 0 o).2.1 : Int) → (∀ k_s, k_s < 7 → f1_s 112 k_s = (jrn (goJ lw f0_s c_s) L_s 0 0 o).2.2.1 k_s) → frK f0_s f1_s → V (h_s.1, f1_s, h_s.2.2.1, h_s.2.2.2)) : wF F_s 188 (0, [some (.ref 102), some (.int x1_s), none], [], (h_s.1, f0_s, h_s.2.2.1, h_s.2.2.2)) (gV V) := by
  refine wF_le (Nat.le_succ F_s) (sg_188_0 (h_s := (h_s.1, f0_s, h_s.2.2.1, h_s.2.2.2)) hk ?_)
  refine (s_all hk hc_s hl hp d1_s hs n0_s ec hJ t_s F_s).1 1 0 L_s _ o (fun a_s k_s q1_s q2_s q3_s => ?_) (fun k_s hk7 => ?_) hB_s (by omega) ?_ (fun w_s => absurd w_s (by decide)) (fun _ => ?_)
  · show zup (zup f0_s 102 24 0) 102 25 0 a_s k_s = f0_s a_s k_s
    rw [zne_up (by omega), zne_up (by omega)]
  · show zup (zup f0_s 102 24 0) 102 25 0 112 k_s = o k_s
    rw [zne_up (by omega), zne_up (by omega)]
    exact ho k_s hk7
  · show (zup (zup f0_s 102 24 0) 102 25 0 102 25).toInt = 0
    rw [zsame_up]
    rfl
  · show jrn (goJ lw f0_s c_s) L_s 0 (zup (zup f0_s 102 24 0) 102 25 0 102 24) o = _
    rw [zne_up (by omega), zsame_up]
end JG_s
/-! JOURNEY: class and reference. -/
noncomputable def okA (ni : Nat) (x1_s x2_s x3 : Int32) : Prop := (0 ≤ x1_s.toInt ∧ x1_s.toInt ≤ 5) ∧ (0 ≤ x2_s.toInt ∧ x2_s.toInt < (ni : Int)) ∧ 0 ≤ x3.toInt ∧ x3.toInt ≤ 4
noncomputable def jA (w_s : Int) (R_s : Int32 × Nat × oI × Bool) : Int32 := if w_s = 0 then R_s.1 else if w_s = 1 then gI32 R_s.2.1 else if w_s = 2 then R_s.2.2.1 2 else if w_s = 3 then R_s.2.2.1 3 else if R_s.2.2.2 = true then -2 else gI32 R_s.2.1
section JJ
variable {h_s : zH} {P_s : Int32 → Prop} {nh ni nr q_s L_s : Nat} {lw : Option (List pB)} {x1_s x2_s x3 : Int32} {f0_s : Nat → Nat → Int32}
theorem sp_189 {F_s : Nat} (hk : hKn h_s) (hc_s : tM nh ni nr f0_s) (hl : lawR f0_s lw) (hp : lwP lw) (n0_s : okA ni x1_s x2_s x3 → rfB f0_s (zix x1_s) = 0 → 0 ≤ (f0_s 125 (zix x1_s)).toInt) (hJ : okA ni x1_s x2_s x3 → rfB f0_s (zix x1_s) = 0 → isJ nr (fun k_s => h_s.2.2.1 126 (60 * zix x1_s + k_s)) (f0_s 125 (zix x1_s)).toInt L_s) (t1_s : ¬ okA ni x1_s x2_s x3 → P_s (-1)) (t2_s : okA ni x1_s x2_s x3 → ¬ rfB f0_s (zix x1_s) = 0 → ∀ v_s : Int32, v_s.toInt = rfB f0_s (zix x1_s) → P_s v_s) (t3_s : okA ni x1_s x2_s x3 → rfB f0_s (zix x1_s) = 0 → P_s (jA x3.toInt (jrn (goJ lw f0_s (fun k_s => h_s.2.2.1 126 (60 * zix x1_s + k_s))) L_s 0 0 (owI f0_s x2_s.toInt.toNat)))) : wF F_s 189 (0, [some (.ref 102), some (.int x1_s), some (.int x2_s), some (.int x3)], [], (h_s.1, f0_s, h_s.2.2.1, h_s.2.2.2)) (gI (fun v_s _ => P_s v_s)) := by
  have b_s := hc_s.1
  have e27_s := sb1 hc_s.2.1.2.1
  have b11 : (-11 : Int32).toInt = -11 := rfl
  have b12 : (-12 : Int32).toInt = -12 := rfl
  have no_s : ¬ okA ni x1_s x2_s x3 → P_s (-1) := t1_s
  unfold okA at no_s
  have ya : (0 ≤ x1_s.toInt ∧ x1_s.toInt ≤ 5) ∧ (0 ≤ x2_s.toInt ∧ x2_s.toInt < (ni : Int)) ∧ 0 ≤ x3.toInt ∧ x3.toInt ≤ 4 → okA ni x1_s x2_s x3 := fun u_s => u_s
  refine wF_le (Nat.le_succ F_s) (sg_189_0 (h_s := (h_s.1, f0_s, h_s.2.2.1, h_s.2.2.2)) hk ?_)
  dsimp only
  rw [e27_s]
  refine ⟨fun c1_s => no_s (by omega), fun c1_s => ⟨fun c2_s => no_s (by omega), fun c2_s => fun c3_s => ⟨fun c4_s => ⟨fun c5_s => no_s (by omega), fun c5_s => ⟨fun c6_s => no_s (by omega), fun c6_s => ⟨fun c7_s => no_s (by omega), fun c7_s => ⟨fun c8_s => no_s (by omega), fun c8_s => ?_⟩⟩⟩⟩, fun c4_s => ⟨fun c18_s => ⟨fun c19_s => no_s (by omega), fun c19_s => ⟨fun c20_s => no_s (by omega), fun c20_s => ⟨fun c21 => no_s (by omega), fun c21 => ⟨fun c22 => no_s (by omega), fun c22 => ?_⟩⟩⟩⟩, fun c18_s => ⟨fun c39_s => no_s (by omega), fun c39_s => ⟨fun c40_s => no_s (by omega), fun c40_s => ⟨fun c41 => no_s (by omega), fun c41 => ⟨fun c42 => no_s (by omega), fun c42 => ?_⟩⟩⟩⟩⟩⟩⟩⟩
  · have e_s : rfB f0_s (zix x1_s) = -11 := if_pos c4_s
    exact t2_s (ya ⟨by omega, by omega, by omega⟩) (by omega) _ (by omega)
  · have e_s : rfB f0_s (zix x1_s) = 0 := (if_neg c4_s).trans (if_pos c18_s)
    have oA := ya ⟨by omega, by omega, by omega⟩
    have t4_s := t3_s oA e_s
    have hJ1 := hJ oA e_s
    have n0_s := n0_s oA e_s
    have z1 := azix (i := x1_s) (by omega)
    have ei : x2_s.toInt = (x2_s.toInt.toNat : Int) := by omega
    have hi_s : x2_s.toInt.toNat < ni := by omega
    generalize x2_s.toInt.toNat = i_s at ei hi_s t4_s
    refine sp_178 hk ei (by omega) (tM_hd hc_s hi_s).1 (fun f1_s g1 g2 hk1 => ?_)
    have m1_s : tM nh ni nr f1_s := tM_fr (fun k_s _ _ => g2 _ _ (by omega)) (fun k_s _ => g2 _ _ (by omega)) hc_s
    have lr1 : lawR f1_s lw := lawR_fr (g2 _ _ (by omega)) (fun k_s _ => g2 _ _ (by omega)) hl
    refine sp_188 (h_s := (h_s.1, f1_s, h_s.2.2.1, h_s.2.2.2)) (f0_s := f1_s) (s_s := zix x1_s) (L_s := L_s) (c_s := fun k_s => h_s.2.2.1 126 (60 * zix x1_s + k_s)) hk1 m1_s lr1 hp z1.symm c3_s (by rw [g2 125 _ (by omega)]; exact n0_s) (fun _ => rfl) (by rw [g2 125 _ (by omega)]; exact hJ1) g1 (tM_oB hc_s hi_s) (fun f2_s p1_s p2_s p3_s g3_s hk2 => ?_)
    rw [goJ_fr (f_s := f0_s) (fun k_s => g2 103 k_s (by omega))] at p1_s p2_s p3_s
    have jall := jr_all (go_s := goJ lw f0_s (fun k_s => h_s.2.2.1 126 (60 * zix x1_s + k_s))) L_s 0 0 (owI f0_s i_s)
    generalize jrn (goJ lw f0_s (fun k_s => h_s.2.2.1 126 (60 * zix x1_s + k_s))) L_s 0 0 (owI f0_s i_s) = R_s at p1_s p2_s p3_s t4_s jall
    unfold jA at t4_s
    dsimp only
    refine ⟨fun w_s => ?_, fun w0_s => ⟨fun w_s => ?_, fun w1_s => ⟨fun w_s => ?_, fun w2_s => ⟨fun w_s => ?_, fun w3_s => ?_⟩⟩⟩⟩
    · rw [if_pos w_s] at t4_s
      rw [p1_s]
      exact t4_s
    · rw [if_neg w0_s, if_pos w_s] at t4_s
      rw [gI_of p2_s]
      exact t4_s
    · rw [if_neg w0_s, if_neg w1_s, if_pos w_s] at t4_s
      rw [p3_s 2 (by omega)]
      exact t4_s
    · rw [if_neg w0_s, if_neg w1_s, if_neg w2_s, if_pos w_s] at t4_s
      rw [p3_s 3 (by omega)]
      exact t4_s
    · rw [if_neg w0_s, if_neg w1_s, if_neg w2_s, if_neg w3_s] at t4_s
      have c8_s : (f2_s 102 8).toInt = (nr : Int) := by
        rw [g3_s 102 8 (by omega) (by omega) (by omega), g2 102 8 (by omega)]
        exact hc_s.2.1.2.2
      have e125_s : ∀ k_s, f2_s 125 k_s = f0_s 125 k_s := fun k_s => by
        rw [g3_s _ _ (by omega) (by omega) (by omega), g2 _ _ (by omega)]
      refine sp_187 (h_s := (h_s.1, f2_s, h_s.2.2.1, h_s.2.2.2)) (nr := nr) hk2 c8_s (by omega) (by omega) (by show 0 ≤ (f2_s 125 (zix x1_s)).toInt; rw [e125_s]; exact n0_s) (fun v_s L1 ev_s hj hk5 => ?_)
      have hj : isJ nr (fun k_s => h_s.2.2.1 126 (60 * zix x1_s + k_s)) (f2_s 125 (zix x1_s)).toInt L1 := hj
      rw [e125_s] at hj
      have el : L1 = L_s := isJ_u hj hJ1
      subst el
      dsimp only
      rw [p2_s, ev_s]
      refine ⟨fun c_s => ?_, fun c_s => ?_⟩
      · rw [if_neg (fun u_s => by have := jall.1 u_s; omega)] at t4_s
        rw [gI_of p2_s]
        exact t4_s
      · have yes_s : R_s.2.2.2 = true := by
          cases e_s : R_s.2.2.2 with
          | true => rfl
          | false =>
            have := jall.2 (by rw [e_s]; decide)
            omega
        rw [if_pos yes_s] at t4_s
        exact t4_s
  · have e_s : rfB f0_s (zix x1_s) = -12 := (if_neg c4_s).trans (if_neg c18_s)
    exact t2_s (ya ⟨by omega, by omega, by omega⟩) (by omega) _ (by omega)
theorem pr_journey {F_s : Nat} (hk : hKn h_s) (hs : tS h_s) (hx : tX h_s) : wF F_s 103 (0, [some (.ref 6), some (.int x1_s), some (.int x2_s), some (.int x3), none, none, none], [], h_s) (gI (fun v_s h1 => wF F_s 189 (0, [some (.ref 102), some (.int x1_s), some (.int x2_s), some (.int x3)], [], h1) (gI (fun v2 _ => v_s = v2)))) := by
  obtain ⟨nh, ni, nr, hc_s, _, _, _, _, hl⟩ := hx
  obtain ⟨q_s, q2_s, lw, l1, l2, l3, l4, l5⟩ := hl
  have hm_s : q_s = 14 ∨ q_s = 17 := by omega
  have m0_s := tC_M hc_s
  have b_s := hc_s.1
  have e77 := hc_s.2.1.2.1
  have e78 := hc_s.2.1.2.2
  have rf1 : ¬ okA ni x1_s x2_s x3 → wF F_s 189 (0, [some (.ref 102), some (.int x1_s), some (.int x2_s), some (.int x3)], [], h_s) (gI (fun v2 _ => (-1 : Int32) = v2)) := fun w_s => sp_189 (f0_s := h_s.2.1) (L_s := 0) (P_s := fun v2 => (-1 : Int32) = v2) hk m0_s l5 (lawR_P l5) (fun o => absurd o w_s) (fun o => absurd o w_s) (fun _ => rfl) (fun o => absurd o w_s) (fun o => absurd o w_s)
  have no_s : ¬ okA ni x1_s x2_s x3 → wF F_s 189 (0, [some (.ref 102), some (.int x1_s), some (.int x2_s), some (.int x3)], [], h_s) (gI (fun v2 _ => (-1 : Int32) = v2)) := rf1
  unfold okA at no_s
  refine wF_le (Nat.le_succ F_s) (sg_103_0 (h_s := h_s) hk ?_)
  rw [e77]
  refine ⟨fun c1_s => no_s (by omega), fun c1_s => ⟨fun c2_s => ⟨fun c3_s => no_s (by omega), fun c3_s => ⟨fun c4_s => ⟨fun c5_s => no_s (by omega), fun c5_s => ⟨fun c6_s => no_s (by omega), fun c6_s => fun c7_s => ?_⟩⟩, fun c4_s => no_s (by omega)⟩⟩, fun c2_s => no_s (by omega)⟩⟩
  have oA : okA ni x1_s x2_s x3 := by
    unfold okA
    omega
  have z1 := azix (i := x1_s) (by omega)
  have ts1 := (hs.1 (zix x1_s) c7_s).1
  have g1 := (hs.1 (zix x1_s) c7_s).2
  refine sp_140 hk c7_s ts1 (fun v8 e8 _ => ⟨fun c8_s => ?_, fun c8_s => ?_⟩)
  · have r0 : rfB h_s.2.1 (zix x1_s) = 0 := by omega
    obtain ⟨a1_s, a2, a3⟩ := row_of ts1 r0
    generalize hs1 : zix x1_s = s1_s at *
    refine sp_48 (f0_s := h_s.2.1) (nr := nr) hk c7_s e78 a2 (fun L_s f1_s hJ eL es fr1 hk1 => ?_)
    have hi_s : x2_s.toInt.toNat < ni := by omega
    have ei : x2_s.toInt = (x2_s.toInt.toNat : Int) := by omega
    have i8_s : x2_s.toInt.toNat < 8 := by omega
    refine sp_139 (h_s := (h_s.1, f1_s, h_s.2.2.1, h_s.2.2.2)) (f0_s := f1_s) hk1 ei i8_s (fun f2_s t1_s t2_s hk2 => ?_)
    have fr2 : ∀ a_s k_s, ¬ (a_s = 50 ∧ k_s = 1) → ¬ a_s = 51 → ¬ (a_s = 88 ∧ k_s < 7) → f2_s a_s k_s = h_s.2.1 a_s k_s := fun a_s k_s q1_s q2_s q3_s => by
      rw [t2_s a_s k_s q3_s]
      exact fr1 a_s k_s q1_s q2_s
    have hJ2 : isJ nr (fun k_s => h_s.2.2.1 126 (60 * s1_s + k_s)) (h_s.2.1 125 s1_s).toInt L_s := by
      rw [a1_s]
      exact isJ_c (fun k_s hk60 => (g1 k_s hk60).symm) hJ
    have hc2 : tC nh ni nr f2_s := tC_fr (fun a_s k_s w_s => fr2 a_s k_s (by unfold inC at w_s; omega) (by unfold inC at w_s; omega) (by unfold inC at w_s; omega)) hc_s
    have lc2 : lawC q_s f2_s lw := lawC_fr hm_s (fun a_s k_s w_s => fr2 a_s k_s (by omega) (by omega) (by omega)) l4
    have cw2 : cwO f2_s 88 (owI h_s.2.1 x2_s.toInt.toNat) := th_cw hc_s hi_s (fun k_s hk7 => by rw [t1_s k_s hk7]; exact fr1 _ _ (by omega) (by omega)) (fr2 _ _ (by omega) (by omega) (by omega)) (fun k_s => fr2 _ _ (by omega) (by omega) (by omega))
    refine sp_49 (h_s := (h_s.1, f2_s, h_s.2.2.1, h_s.2.2.2)) (f0_s := f2_s) (L_s := L_s) (c_s := fun k_s => h_s.2.2.1 126 (60 * s1_s + k_s)) (o := owI h_s.2.1 x2_s.toInt.toNat) hk2 l1 hm_s lc2 (lawR_P l5) hc2 hJ.1 (by rw [t2_s 50 1 (by omega)]; exact eL) (fun k_s hkL => ?_) hJ2.2.2.1 cw2 (tC_oB hc_s hi_s) (fun v_s f3_s ev_s p1_s p2_s p3_s fr3 _ => ?_)
    · rw [t2_s 51 k_s (by omega), es k_s hkL]
      have := hJ.1
      rw [g1 k_s (by omega)]
    · have fr4 : ∀ a_s k_s, 100 ≤ a_s → f3_s a_s k_s = h_s.2.1 a_s k_s := fun a_s k_s ha_s => by
        rw [fr3 a_s k_s (by omega) (by omega) (by omega) (by omega) (by omega)]
        exact fr2 a_s k_s (by omega) (by omega) (by omega)
      have m3_s : tM nh ni nr f3_s := tM_fr (fun k_s _ _ => fr4 _ _ (by omega)) (fun k_s _ => fr4 _ _ (by omega)) m0_s
      have lr3 : lawR f3_s lw := lawR_fr (fr4 _ _ (by omega)) (fun k_s _ => fr4 _ _ (by omega)) l5
      have rfe : rfB f3_s s1_s = rfB h_s.2.1 s1_s := by
        unfold rfB
        rw [fr4 124 _ (by omega)]
      have e5_s : f3_s 125 s1_s = h_s.2.1 125 s1_s := fr4 125 _ (by omega)
      rw [goJ_fr (f_s := h_s.2.1) (fun k_s => fr2 103 k_s (by omega) (by omega) (by omega))] at ev_s p1_s p2_s p3_s
      have fin_s : ∀ v_s : Int32, v_s = jA x3.toInt (jrn (goJ lw h_s.2.1 (fun k_s => h_s.2.2.1 126 (60 * s1_s + k_s))) L_s 0 0 (owI h_s.2.1 x2_s.toInt.toNat)) → wF F_s 189 (0, [some (.ref 102), some (.int x1_s), some (.int x2_s), some (.int x3)], [], (h_s.1, f3_s, h_s.2.2.1, h_s.2.2.2)) (gI (fun v2 _ => v_s = v2)) := fun v_s ve => by
        refine sp_189 (f0_s := f3_s) (L_s := L_s) (P_s := fun v2 => v_s = v2) hk m3_s lr3 (lawR_P l5) (fun _ _ => ?_) (fun _ _ => ?_) (fun w_s => absurd oA w_s) (fun _ nz => absurd ?_ nz) (fun _ _ => ?_)
        · rw [hs1, e5_s, a1_s]
          exact a2
        · rw [hs1, e5_s]
          exact hJ2
        · rw [hs1, rfe]
          exact r0
        · rw [hs1, goJ_fr (f_s := h_s.2.1) (fun k_s => fr4 103 k_s (by omega)), owI_fr (f_s := h_s.2.1) (fun k_s => fr4 103 k_s (by omega))]
          exact ve
      generalize jrn (goJ lw h_s.2.1 (fun k_s => h_s.2.2.1 126 (60 * s1_s + k_s))) L_s 0 0 (owI h_s.2.1 x2_s.toInt.toNat) = R_s at ev_s p1_s p2_s p3_s fin_s
      dsimp only
      unfold jA at fin_s
      refine ⟨fun w_s => fin_s _ ?_, fun w0_s => ⟨fun w_s => fin_s _ ?_, fun w1_s => ⟨fun w_s => fin_s _ ?_, fun w2_s => ⟨fun w_s => fin_s _ ?_, fun w3_s => ⟨fun c_s => fin_s _ ?_, fun c_s => fin_s _ ?_⟩⟩⟩⟩⟩
      · rw [if_pos w_s]
        exact p1_s
      · rw [if_neg w0_s, if_pos w_s]
        exact gI_of p2_s
      · rw [if_neg w0_s, if_neg w1_s, if_pos w_s]
        exact p3_s 2 (by omega)
      · rw [if_neg w0_s, if_neg w1_s, if_neg w2_s, if_pos w_s]
        exact p3_s 3 (by omega)
      · rw [if_neg w0_s, if_neg w1_s, if_neg w2_s, if_neg w3_s, if_neg (fun u_s => by rw [if_pos u_s] at ev_s; omega)]
        exact gI_of p2_s
      · have yes_s : R_s.2.2.2 = true := by
          cases e_s : R_s.2.2.2 with
          | true => rfl
          | false =>
            rw [if_neg (by rw [e_s]; decide)] at ev_s
            omega
        rw [if_neg w0_s, if_neg w1_s, if_neg w2_s, if_neg w3_s, if_pos yes_s]
  · exact sp_189 (f0_s := h_s.2.1) (L_s := 0) (P_s := fun v2 => v8 = v2) hk m0_s l5 (lawR_P l5) (fun _ e_s => by omega) (fun _ e_s => by omega) (fun w_s => absurd oA w_s) (fun _ _ v_s ev_s => Int32.toInt_inj.mp (e8.trans ev_s.symm)) (fun _ e_s => by omega)
end JJ
/-! THE EDGE: class and reference, answers too. -/
noncomputable def edR (W_s : Int32 → Int) : Nat → Int32 → Int32 → Int32
  | 0, _, b_s => b_s
  | d_s + 1, v_s, b_s => edR W_s d_s (v_s + 1) (if W_s v_s = -2 then b_s ||| (1 <<< (v_s &&& 31)) else b_s)
theorem goF_fr2 {lw : Option (List pB)} {f_s f1_s : Nat → Nat → Int32} {o : oI} {r_s : Nat} (e_s : ∀ k_s, 68 ≤ k_s → f1_s 103 k_s = f_s 103 k_s) : goF lw f1_s o r_s = goF lw f_s o r_s := by
  unfold goF
  rw [e_s _ (by omega), e_s _ (by omega), e_s _ (by omega)]
theorem goJ_fr2 {lw : Option (List pB)} {f_s f1_s : Nat → Nat → Int32} {c_s : Nat → Int64} (e_s : ∀ k_s, 68 ≤ k_s → f1_s 103 k_s = f_s 103 k_s) : goJ lw f1_s c_s = goJ lw f_s c_s := by
  funext o k_s
  exact goF_fr2 e_s
theorem owI_at {nh ni nr i_s j_s : Nat} {f_s f1_s : Nat → Nat → Int32} {v_s : Int32} (hc_s : tM nh ni nr f_s) (hi_s : i_s < ni) (hj : j_s < 2) (e1_s : f1_s 103 (12 + 8 * j_s + i_s) = v_s) (e2_s : ∀ k_s, ¬ k_s = 12 + 8 * j_s + i_s → f1_s 103 k_s = f_s 103 k_s) : owI f1_s i_s = oset (owI f_s i_s) j_s v_s := by
  have b_s := hc_s.1
  have hd_s := tM_hd hc_s hi_s
  funext k_s
  by_cases e_s : k_s = j_s
  · rw [e_s, os_eq, owI_lo (by omega)]
    exact e1_s
  · rw [os_ne e_s]
    by_cases k6_s : k_s < 6
    · rw [owI_lo k6_s, owI_lo k6_s]
      exact e2_s _ (by omega)
    · unfold owI
      rw [if_neg k6_s, if_neg k6_s, e2_s (60 + i_s) (by omega)]
      by_cases c_s : (f_s 103 (60 + i_s)).toInt < 0
      · rw [if_pos c_s, if_pos c_s]
      · rw [if_neg c_s, if_neg c_s]
        have z_s := azix (i := f_s 103 (60 + i_s)) (by omega)
        exact e2_s _ (by omega)
theorem oB_at {o : oI} {j_s : Nat} {v_s : Int32} (hB_s : oB o) (hj : j_s < 2) (v0_s : 0 ≤ v_s.toInt) (v1_s : v_s.toInt ≤ mxw (j_s + 2)) : oB (oset o j_s v_s) := by
  have mx_s : (j_s = 0 → mxw (j_s + 2) = 3) ∧ (j_s = 1 → mxw (j_s + 2) = 5) := ⟨fun e_s => by rw [e_s]; rfl, fun e_s => by rw [e_s]; rfl⟩
  have m0_s := mx_s.1
  have m1_s := mx_s.2
  unfold oB at hB_s ⊢
  by_cases e_s : j_s = 0
  · subst e_s
    have m0_s := m0_s rfl
    rw [os_eq, os_ne (show ¬ 1 = 0 by decide), os_ne (show ¬ 2 = 0 by decide), os_ne (show ¬ 3 = 0 by decide), os_ne (show ¬ 4 = 0 by decide), os_ne (show ¬ 5 = 0 by decide), os_ne (show ¬ 6 = 0 by decide)]
    exact ⟨⟨v0_s, by omega⟩, hB_s.2⟩
  · have e1_s : j_s = 1 := by omega
    subst e1_s
    have m1_s := m1_s rfl
    rw [os_eq, os_ne (show ¬ 0 = 1 by decide), os_ne (show ¬ 2 = 1 by decide), os_ne (show ¬ 3 = 1 by decide), os_ne (show ¬ 4 = 1 by decide), os_ne (show ¬ 5 = 1 by decide), os_ne (show ¬ 6 = 1 by decide)]
    exact ⟨hB_s.1, ⟨v0_s, by omega⟩, hB_s.2.2⟩
section EE_s
variable {h_s : zH} {K_s : Int32 → zH → Prop} {nh ni nr q_s L_s i_s j_s : Nat} {lw : Option (List pB)} {x1_s x2_s x3 x4_s x5_s : Int32} {f0_s : Nat → Nat → Int32} {c_s told_s : Nat → Int64} {R_s : Int32} {W_s : Int32 → Int}
theorem e111 (hk : hKn h_s) (hr9 : h_s.2.2.2 7 9 = some q_s) (hm_s : q_s = 14 ∨ q_s = 17) (hl : lawC q_s f0_s lw) (hp : lwP lw) (hc_s : tC nh ni nr f0_s) (hi_s : i_s < ni) (e2_s : x2_s.toInt = (i_s : Int)) (hj : j_s < 2) (e3_s : x3.toInt = (j_s : Int)) (e5_s : x5_s.toInt = mxw (j_s + 2)) (eL : (f0_s 50 1).toInt = (L_s : Int)) (es : ∀ k_s, k_s < L_s → f0_s 51 k_s = (c_s k_s).toInt32) (ok_s : ∀ k_s, k_s < L_s → okK nr (c_s k_s)) (ht : ∀ n_s, n_s < 60 → h_s.2.2.1 (76 + 2 * zix (x1_s - x1_s / 10 * 10) + 1) n_s = told_s n_s) (c0_s : 0 ≤ (f0_s (76 + 2 * zix (x1_s - x1_s / 10 * 10)) 3).toInt) (c60 : (f0_s (76 + 2 * zix (x1_s - x1_s / 10 * 10)) 3).toInt ≤ 60) (eW : ∀ v_s, W_s v_s = ffR (goJ lw f0_s c_s) told_s L_s (f0_s (76 + 2 * zix (x1_s - x1_s / 10 * 10)) 3).toInt.toNat 0 (oset (owI f0_s i_s) j_s v_s)) (t_s : ∀ f1_s, frJ f0_s f1_s → K_s R_s (h_s.1, f1_s, h_s.2.2.1, h_s.2.2.2)) : ∀ (F_s n_s d_s : Nat) (x6 x7 : Int32) (l8 : Option Value) (f_s : Nat → Nat → Int32), frJ f0_s f_s → x7.toInt = (n_s : Int) → ((n_s + d_s : Nat) : Int) = mxw (j_s + 2) + 1 → edR W_s d_s x7 x6 = R_s → wF F_s 111 (84, [some (.ref 6), some (.int x1_s), some (.int x2_s), some (.int x3), some (.int x4_s), some (.int x5_s), some (.int x6), some (.int x7), l8], [], (h_s.1, f_s, h_s.2.2.1, h_s.2.2.2)) (gI K_s)
  | 0, _, _, _, _, _, _, _, _, _, _ => wF_zero
  | F_s + 1, n_s, d_s, x6, x7, l8, f_s, g_s, e7_s, ed, hR => by
    have b_s := hc_s.1
    have mx_s : (j_s = 0 → mxw (j_s + 2) = 3) ∧ (j_s = 1 → mxw (j_s + 2) = 5) := ⟨fun e_s => by rw [e_s]; rfl, fun e_s => by rw [e_s]; rfl⟩
    refine sg_111_84 (h_s := (h_s.1, f_s, h_s.2.2.1, h_s.2.2.2)) hk ?_
    match d_s, ed, hR with
    | 0, ed, hR =>
      refine ⟨fun _ => ?_, fun c1_s => absurd (show x5_s.toInt < x7.toInt by omega) c1_s⟩
      have e_s : x6 = R_s := hR
      rw [e_s]
      exact t_s f_s g_s
    | d_s + 1, ed, hR =>
      refine ⟨fun c1_s => absurd c1_s (by omega), fun c1_s => ?_⟩
      refine sp_139 (h_s := (h_s.1, f_s, h_s.2.2.1, h_s.2.2.2)) (f0_s := f_s) hk e2_s (by omega) (fun f1_s t1_s t2_s hk1 => ?_)
      have hR : edR W_s d_s (x7 + 1) (if W_s x7 = -2 then x6 ||| (1 <<< (x7 &&& 31)) else x6) = R_s := hR
      have hc1 : tC nh ni nr f_s := tC_fr (fun a_s k_s w_s => g_s a_s k_s (by unfold inC at w_s; omega) (by unfold inC at w_s; omega) (by unfold inC at w_s; omega) (by unfold inC at w_s; omega) (by unfold inC at w_s; omega)) hc_s
      have eo : owI f_s i_s = owI f0_s i_s := owI_fr (fun k_s => g_s 103 k_s (by omega) (by omega) (by omega) (by omega) (by omega))
      have cw1 : cwO f1_s 88 (owI f0_s i_s) := by
        rw [← eo]
        exact th_cw hc1 hi_s t1_s (t2_s _ _ (by omega)) (fun k_s => t2_s _ _ (by omega))
      have nx : (zix (x1_s - x1_s / 10 * 10) < 6) → wF F_s 51 (0, [some (.ref 50), some (.ref 88), some (.ref (76 + 2 * (zix (x1_s - x1_s / 10 * 10)))), some (.ref 7), none, none], [], (h_s.1, zup f1_s 88 j_s x7, h_s.2.2.1, h_s.2.2.2)) (gI (fun v5 h5 => hKn h5 → (v5.toInt = -2 → wF F_s 111 (84, [some (.ref 6), some (.int x1_s), some (.int x2_s), some (.int x3), some (.int x4_s), some (.int x5_s), some (.int (x6 ||| (1 <<< (x7 &&& 31)))), some (.int (x7 + 1)), some (.ref 88)], [], h5) (gI K_s)) ∧ (¬ v5.toInt = -2 → wF F_s 111 (84, [some (.ref 6), some (.int x1_s), some (.int x2_s), some (.int x3), some (.int x4_s), some (.int x5_s), some (.int x6), some (.int (x7 + 1)), some (.ref 88)], [], h5) (gI K_s)))) := fun hs6 => by
        have fz : ∀ a_s k_s, ¬ a_s = 13 → ¬ a_s = 16 → ¬ a_s = 19 → ¬ (a_s = 88 ∧ k_s < 7) → ¬ (a_s = 50 ∧ (k_s = 2 ∨ k_s = 3)) → zup f1_s 88 j_s x7 a_s k_s = f0_s a_s k_s := fun a_s k_s q1_s q2_s q3_s q4_s q5_s => by
          rw [zne_up (by omega), t2_s a_s k_s q4_s]
          exact g_s a_s k_s q1_s q2_s q3_s q4_s q5_s
        have hcz : tC nh ni nr (zup f1_s 88 j_s x7) := tC_fr (fun a_s k_s w_s => fz a_s k_s (by unfold inC at w_s; omega) (by unfold inC at w_s; omega) (by unfold inC at w_s; omega) (by unfold inC at w_s; omega) (by unfold inC at w_s; omega)) hc_s
        have lz : lawC q_s (zup f1_s 88 j_s x7) lw := lawC_fr hm_s (fun a_s k_s w_s => fz a_s k_s (by omega) (by omega) (by omega) (by omega) (by omega)) hl
        have ec : zup f1_s 88 j_s x7 (76 + 2 * zix (x1_s - x1_s / 10 * 10)) 3 = f0_s (76 + 2 * zix (x1_s - x1_s / 10 * 10)) 3 := fz _ _ (by omega) (by omega) (by omega) (by omega) (by omega)
        refine sp_51 (h_s := (h_s.1, zup f1_s 88 j_s x7, h_s.2.2.1, h_s.2.2.2)) (f0_s := zup f1_s 88 j_s x7) (L_s := L_s) (c_s := c_s) (told_s := told_s) (o := oset (owI f0_s i_s) j_s x7) hk1 hs6 hr9 hm_s lz hp hcz (by rw [fz 50 1 (by omega) (by omega) (by omega) (by omega) (by omega)]; exact eL) (fun k_s hkL => by rw [fz 51 k_s (by omega) (by omega) (by omega) (by omega) (by omega)]; exact es k_s hkL) ok_s ht (by rw [ec]; exact c0_s) (by rw [ec]; exact c60) (cwO_up (by decide) (by decide) (by omega) cw1) (oB_at (tC_oB hc_s hi_s) hj (by omega) (by omega)) (fun v5 f5_s ev_s fr5 hk5 => ?_)
        rw [goJ_fr (f_s := f0_s) (fun k_s => fz 103 k_s (by omega) (by omega) (by omega) (by omega) (by omega)), ec, ← eW] at ev_s
        have g5_s : frJ f0_s f5_s := fun a_s k_s q1_s q2_s q3_s q4_s q5_s => by
          rw [fr5 a_s k_s q1_s q2_s q3_s q4_s q5_s]
          exact fz a_s k_s q1_s q2_s q3_s q4_s q5_s
        have e8 : (x7 + 1).toInt = ((n_s + 1 : Nat) : Int) := by
          rw [in1_ (by omega), e7_s]
          omega
        refine ⟨fun w_s => ?_, fun w_s => ?_⟩
        · rw [if_pos (by omega)] at hR
          exact e111 hk hr9 hm_s hl hp hc_s hi_s e2_s hj e3_s e5_s eL es ok_s ht c0_s c60 eW t_s F_s (n_s + 1) d_s _ (x7 + 1) _ f5_s g5_s e8 (by omega) hR
        · rw [if_neg (by omega)] at hR
          exact e111 hk hr9 hm_s hl hp hc_s hi_s e2_s hj e3_s e5_s eL es ok_s ht c0_s c60 eW t_s F_s (n_s + 1) d_s _ (x7 + 1) _ f5_s g5_s e8 (by omega) hR
      refine ⟨fun w0_s => fun c6_s => ?_, fun w0_s => fun c6_s => ?_⟩
      · have ej : j_s = 0 := by omega
        rw [ej] at nx
        exact nx c6_s
      · have ej : j_s = 1 := by omega
        rw [ej] at nx
        exact nx c6_s
/-- the reference -/
theorem e206 {s1_s s2_s : Nat} (hk : hKn h_s) (hc_s : tM nh ni nr f0_s) (hl : lawR f0_s lw) (hp : lwP lw) (hj : j_s < 2) (e2_s : x2_s.toInt = (i_s : Int)) (hi_s : i_s < ni) (e3_s : x3.toInt = (j_s : Int)) (e4_s : zix x4_s = 12 + 8 * j_s + i_s) (e5_s : x5_s = f0_s 103 (12 + 8 * j_s + i_s)) (d1_s : (x1_s / 10).toInt = (s1_s : Int)) (d2_s : (x1_s - x1_s / 10 * 10).toInt = (s2_s : Int)) (hs1 : s1_s < 6) (hs2 : s2_s < 6) (n0_s : 0 ≤ (f0_s 125 s1_s).toInt) (n2_s : 0 ≤ (f0_s 125 s2_s).toInt) (c60 : (f0_s 125 s2_s).toInt ≤ 60) (ec : ∀ k_s, c_s k_s = h_s.2.2.1 126 (60 * s1_s + k_s)) (et : ∀ n_s, told_s n_s = h_s.2.2.1 126 (60 * s2_s + n_s)) (hJ : isJ nr c_s (f0_s 125 s1_s).toInt L_s) (eW : ∀ v_s, W_s v_s = ffR (goJ lw f0_s c_s) told_s L_s (f0_s 125 s2_s).toInt.toNat 0 (oset (owI f0_s i_s) j_s v_s)) (t_s : ∀ f1_s, frG f0_s f1_s → K_s R_s (h_s.1, f1_s, h_s.2.2.1, h_s.2.2.2)) : ∀ (F_s n_s d_s : Nat) (x6 x7 : Int32) (f_s : Nat → Nat → Int32), x7.toInt = (n_s : Int) → ((n_s + d_s : Nat) : Int) = mxw (j_s + 2) + 1 → edR W_s d_s x7 x6 = R_s → (∀ a_s k_s, ¬ a_s = 111 → ¬ a_s = 112 → ¬ (a_s = 102 ∧ (15 ≤ k_s ∧ k_s ≤ 19 ∨ k_s = 22 ∨ k_s = 23)) → ¬ (a_s = 103 ∧ k_s = 12 + 8 * j_s + i_s) → f_s a_s k_s = f0_s a_s k_s) → wF F_s 206 (74, [some (.ref 102), some (.int x1_s), some (.int x2_s), some (.int x3), some (.int x4_s), some (.int x5_s), some (.int x6), some (.int x7)], [], (h_s.1, f_s, h_s.2.2.1, h_s.2.2.2)) (gI K_s)
  | 0, _, _, _, _, _, _, _, _, _ => wF_zero
  | F_s + 1, n_s, d_s, x6, x7, f_s, e7_s, ed, hR, g_s => by
    have b_s := hc_s.1
    have mx_s : (j_s = 0 → mxw (j_s + 2) = 3) ∧ (j_s = 1 → mxw (j_s + 2) = 5) := ⟨fun e_s => by rw [e_s]; rfl, fun e_s => by rw [e_s]; rfl⟩
    have fin_s : x6 = R_s → K_s x6 (h_s.1, zup f_s 103 (12 + 8 * j_s + i_s) x5_s, h_s.2.2.1, h_s.2.2.2) := fun e6_s => by
      rw [e6_s]
      refine t_s _ (fun a_s k_s q1_s q2_s q3_s => ?_)
      by_cases e_s : a_s = 103 ∧ k_s = 12 + 8 * j_s + i_s
      · rw [e_s.1, e_s.2, zsame_up]
        exact e5_s
      · rw [zne_up e_s]
        exact g_s a_s k_s q1_s q2_s q3_s e_s
    refine sg_206_74 (h_s := (h_s.1, f_s, h_s.2.2.1, h_s.2.2.2)) hk ?_
    dsimp only
    rw [e4_s]
    match d_s, ed, hR with
    | 0, ed, hR =>
      have e6_s : x6 = R_s := hR
      refine ⟨fun c1_s => ⟨fun c2_s => fun c3_s => fin_s e6_s, fun c2_s => absurd (show 3 < x7.toInt by have := mx_s.1 (by omega); omega) c2_s⟩, fun c1_s => ⟨fun c7_s => fun c8_s => fin_s e6_s, fun c7_s => absurd (show 5 < x7.toInt by have := mx_s.2 (by omega); omega) c7_s⟩⟩
    | d_s + 1, ed, hR =>
      have hR : edR W_s d_s (x7 + 1) (if W_s x7 = -2 then x6 ||| (1 <<< (x7 &&& 31)) else x6) = R_s := hR
      have nx : wF F_s 204 (0, [some (.ref 102), some (.int x1_s), some (.int x2_s), none, none], [], (h_s.1, zup f_s 103 (12 + 8 * j_s + i_s) x7, h_s.2.2.1, h_s.2.2.2)) (gI (fun v5 h5 => hKn h5 → (v5.toInt = -2 → wF F_s 206 (74, [some (.ref 102), some (.int x1_s), some (.int x2_s), some (.int x3), some (.int x4_s), some (.int x5_s), some (.int (x6 ||| (1 <<< (x7 &&& 31)))), some (.int (x7 + 1))], [], h5) (gI K_s)) ∧ (¬ v5.toInt = -2 → wF F_s 206 (74, [some (.ref 102), some (.int x1_s), some (.int x2_s), some (.int x3), some (.int x4_s), some (.int x5_s), some (.int (x6 ||| 0)), some (.int (x7 + 1))], [], h5) (gI K_s)))) := by
        have fz : ∀ a_s k_s, ¬ a_s = 111 → ¬ a_s = 112 → ¬ (a_s = 102 ∧ (15 ≤ k_s ∧ k_s ≤ 19 ∨ k_s = 22 ∨ k_s = 23)) → ¬ (a_s = 103 ∧ k_s = 12 + 8 * j_s + i_s) → zup f_s 103 (12 + 8 * j_s + i_s) x7 a_s k_s = f0_s a_s k_s := fun a_s k_s q1_s q2_s q3_s q4_s => by
          rw [zne_up q4_s]
          exact g_s a_s k_s q1_s q2_s q3_s q4_s
        have m1_s : tM nh ni nr (zup f_s 103 (12 + 8 * j_s + i_s) x7) := tM_at (i_s := i_s) hc_s hj (by omega) (by rw [zsame_up]; omega) (by rw [zsame_up]; omega) (fun k_s k6_s k8_s => fz _ _ (by omega) (by omega) (by omega) (by omega)) (fun k_s _ hk1 => fz _ _ (by omega) (by omega) (by omega) (by omega))
        have l1 : lawR (zup f_s 103 (12 + 8 * j_s + i_s) x7) lw := lawR_fr (fz _ _ (by omega) (by omega) (by omega) (by omega)) (fun k_s _ => fz _ _ (by omega) (by omega) (by omega) (by omega)) hl
        have e25_s : ∀ k_s, zup f_s 103 (12 + 8 * j_s + i_s) x7 125 k_s = f0_s 125 k_s := fun k_s => fz _ _ (by omega) (by omega) (by omega) (by omega)
        have eo : owI (zup f_s 103 (12 + 8 * j_s + i_s) x7) i_s = oset (owI f0_s i_s) j_s x7 := owI_at hc_s hi_s hj zsame_up (fun k_s hk1 => fz _ _ (by omega) (by omega) (by omega) (by omega))
        have eg : goJ lw (zup f_s 103 (12 + 8 * j_s + i_s) x7) c_s = goJ lw f0_s c_s := goJ_fr2 (fun k_s hk1 => fz _ _ (by omega) (by omega) (by omega) (by omega))
        refine sp_204 (i_s := i_s) (s1_s := s1_s) (s2_s := s2_s) (L_s := L_s) (c_s := c_s) (told_s := told_s) hk m1_s l1 hp e2_s hi_s d1_s d2_s hs1 hs2 (by rw [e25_s]; exact n0_s) (by rw [e25_s]; exact n2_s) (by rw [e25_s]; exact c60) ec et (by rw [e25_s]; exact hJ) (fun v5 f5_s ev_s g5_s hk5 => ?_)
        rw [eo, eg, e25_s, ← eW] at ev_s
        have g6 : ∀ a_s k_s, ¬ a_s = 111 → ¬ a_s = 112 → ¬ (a_s = 102 ∧ (15 ≤ k_s ∧ k_s ≤ 19 ∨ k_s = 22 ∨ k_s = 23)) → ¬ (a_s = 103 ∧ k_s = 12 + 8 * j_s + i_s) → f5_s a_s k_s = f0_s a_s k_s := fun a_s k_s q1_s q2_s q3_s q4_s => by
          rw [g5_s a_s k_s q1_s q2_s q3_s]
          exact fz a_s k_s q1_s q2_s q3_s q4_s
        have e8 : (x7 + 1).toInt = ((n_s + 1 : Nat) : Int) := by
          rw [in1_ (by omega), e7_s]
          omega
        refine ⟨fun w_s => ?_, fun w_s => ?_⟩
        · rw [if_pos (by omega)] at hR
          exact e206 hk hc_s hl hp hj e2_s hi_s e3_s e4_s e5_s d1_s d2_s hs1 hs2 n0_s n2_s c60 ec et hJ eW t_s F_s (n_s + 1) d_s _ (x7 + 1) f5_s e8 (by omega) hR g6
        · rw [if_neg (by omega)] at hR
          rw [Int32.or_zero]
          exact e206 hk hc_s hl hp hj e2_s hi_s e3_s e4_s e5_s d1_s d2_s hs1 hs2 n0_s n2_s c60 ec et hJ eW t_s F_s (n_s + 1) d_s _ (x7 + 1) f5_s e8 (by omega) hR g6
      refine ⟨fun c1_s => ⟨fun c2_s => absurd c2_s (by have := mx_s.1 (by omega); omega), fun c2_s => fun c4_s => nx⟩, fun c1_s => ⟨fun c7_s => absurd c7_s (by have := mx_s.2 (by omega); omega), fun c7_s => fun c9_s => nx⟩⟩
end EE_s
/-! EDGE: the pair. -/
noncomputable def okE (ni : Nat) (x1_s x2_s x3 : Int32) : Prop := okD x1_s ∧ (0 ≤ x2_s.toInt ∧ x2_s.toInt < (ni : Int)) ∧ 0 ≤ x3.toInt ∧ x3.toInt ≤ 1
section EP_s
variable {h_s : zH} {x1_s x2_s x3 : Int32}
theorem pr_edge {F_s : Nat} (hk : hKn h_s) (hs : tS h_s) (hx : tX h_s) : wF F_s 111 (0, [some (.ref 6), some (.int x1_s), some (.int x2_s), some (.int x3), none, none, none, none, none], [], h_s) (gI (fun v_s h1 => wF F_s 206 (0, [some (.ref 102), some (.int x1_s), some (.int x2_s), some (.int x3), none, none, none, none], [], h1) (gI (fun v2 h2 => v_s = v2 ∧ tX h2)))) := by
  obtain ⟨nh, ni, nr, hc_s, hh, hi_, hd_s, hz, hl⟩ := hx
  have hx : tX h_s := ⟨nh, ni, nr, hc_s, hh, hi_, hd_s, hz, hl⟩
  obtain ⟨q_s, q2_s, lw, l1, l2, l3, l4, l5⟩ := hl
  have hm_s : q_s = 14 ∨ q_s = 17 := by omega
  have m0_s := tC_M hc_s
  have b_s := hc_s.1
  have e77 := hc_s.2.1.2.1
  have e78 := hc_s.2.1.2.2
  have e27_s := sb1 m0_s.2.1.2.1
  have n1_s : (-1 : Int32).toInt = -1 := rfl
  have rf1 : ¬ okE ni x1_s x2_s x3 → wF F_s 206 (0, [some (.ref 102), some (.int x1_s), some (.int x2_s), some (.int x3), none, none, none, none], [], h_s) (gI (fun v2 h2 => (-1 : Int32) = v2 ∧ tX h2)) := fun w_s => by
    have w_s : ¬ (okD x1_s ∧ (0 ≤ x2_s.toInt ∧ x2_s.toInt < (ni : Int)) ∧ 0 ≤ x3.toInt ∧ x3.toInt ≤ 1) := w_s
    refine wF_le (Nat.le_succ F_s) (sg_206_0 (h_s := h_s) hk ?_)
    refine sp_203 hk (fun _ _ => ⟨fun _ => ⟨rfl, hx⟩, fun c_s => absurd n1_s c_s⟩) (fun ok_s nz v1_s ev1 _ => ⟨fun c_s => ?_, fun _ => ?_⟩) (fun ok_s ez _ => ⟨fun c_s => absurd c_s (by decide), fun _ => ?_⟩)
    · have := rwE_v h_s.2.1 x1_s
      omega
    · rw [e27_s]
      exact ⟨fun _ => ⟨rfl, hx⟩, fun c2_s => ⟨fun _ => ⟨rfl, hx⟩, fun c3_s => ⟨fun _ => ⟨rfl, hx⟩, fun c4_s => ⟨fun _ => ⟨rfl, hx⟩, fun c5_s => absurd ⟨ok_s, ⟨by omega, by omega⟩, by omega, by omega⟩ w_s⟩⟩⟩⟩
    · rw [e27_s]
      exact ⟨fun _ => ⟨rfl, hx⟩, fun c2_s => ⟨fun _ => ⟨rfl, hx⟩, fun c3_s => ⟨fun _ => ⟨rfl, hx⟩, fun c4_s => ⟨fun _ => ⟨rfl, hx⟩, fun c5_s => absurd ⟨ok_s, ⟨by omega, by omega⟩, by omega, by omega⟩ w_s⟩⟩⟩⟩
  have rf2 : okE ni x1_s x2_s x3 → ¬ rwE h_s.2.1 x1_s = 0 → ∀ v_s : Int32, v_s.toInt = rwE h_s.2.1 x1_s → wF F_s 206 (0, [some (.ref 102), some (.int x1_s), some (.int x2_s), some (.int x3), none, none, none, none], [], h_s) (gI (fun v2 h2 => v_s = v2 ∧ tX h2)) := fun oE nz v_s ev_s => by
    obtain ⟨ok_s, ⟨i0_s, i1_s⟩, j0, j1⟩ := oE
    have rv_s := rwE_v h_s.2.1 x1_s
    refine wF_le (Nat.le_succ F_s) (sg_206_0 (h_s := h_s) hk ?_)
    refine sp_203 hk (fun w_s => absurd ok_s w_s) (fun _ _ v1_s ev1 _ => ⟨fun c_s => ?_, fun _ => ?_⟩) (fun _ ez => absurd ez nz)
    · omega
    · rw [e27_s]
      refine ⟨fun c_s => absurd c_s (by omega), fun _ => ⟨fun c_s => absurd c_s (by omega), fun _ => ⟨fun c_s => absurd c_s (by omega), fun _ => ⟨fun c_s => absurd c_s (by omega), fun _ => ?_⟩⟩⟩⟩
      exact sp_203 hk (fun w_s => absurd ok_s w_s) (fun _ _ v5 ev5 _ => ⟨fun _ => sp_203 hk (fun w_s => absurd ok_s w_s) (fun _ _ v7 ev7 _ => ⟨Int32.toInt_inj.mp (ev_s.trans ev7.symm), hx⟩) (fun _ ez => absurd ez nz), fun c_s => absurd (show v5.toInt < 0 by omega) c_s⟩) (fun _ ez => absurd ez nz)
  have no_s : ¬ okE ni x1_s x2_s x3 → wF F_s 206 (0, [some (.ref 102), some (.int x1_s), some (.int x2_s), some (.int x3), none, none, none, none], [], h_s) (gI (fun v2 h2 => (-1 : Int32) = v2 ∧ tX h2)) := rf1
  unfold okE okD at no_s
  refine wF_le (Nat.le_succ F_s) (sg_111_0 (h_s := h_s) hk ?_)
  rw [e77]
  refine ⟨fun c1_s => no_s (by omega), fun c1_s => ⟨fun c2_s => no_s (by omega), fun c2_s => ⟨fun c3_s => ⟨fun c4_s => no_s (by omega), fun c4_s => ⟨fun c5_s => ⟨fun c6_s => no_s (by omega), fun c6_s => ⟨fun c7_s => ⟨fun c8_s => no_s (by omega), fun c8_s => ⟨fun c9_s => no_s (by omega), fun c9_s => fun c10_s => ?_⟩⟩, fun c7_s => no_s (by omega)⟩⟩, fun c5_s => no_s (by omega)⟩⟩, fun c3_s => no_s (by omega)⟩⟩⟩
  have ok_s : okD x1_s := by
    unfold okD
    omega
  have rf2 := rf2 ⟨ok_s, ⟨by omega, c7_s⟩, by omega, by omega⟩
  have z1 := azix (i := x1_s / 10) (by omega)
  have z2 := azix (i := x1_s - x1_s / 10 * 10) (by omega)
  have ts1 := (hs.1 (zix (x1_s / 10)) c10_s).1
  refine sp_140 hk c10_s ts1 (fun v11 e11_s _ => ⟨fun c11_s => fun c12_s => ?_, fun c11_s => ?_⟩)
  · have r0 : rfB h_s.2.1 (zix (x1_s / 10)) = 0 := by omega
    have rw2 : rwE h_s.2.1 x1_s = rfB h_s.2.1 (zix (x1_s - x1_s / 10 * 10)) := if_pos r0
    rw [rw2] at rf2
    have ts2 := (hs.1 (zix (x1_s - x1_s / 10 * 10)) c12_s).1
    refine sp_140 hk c12_s ts2 (fun v14 e14_s _ => ⟨fun c14_s => ?_, fun c14_s => rf2 (by omega) v14 e14_s⟩)
    have r2 : rfB h_s.2.1 (zix (x1_s - x1_s / 10 * 10)) = 0 := by omega
    have rz : rwE h_s.2.1 x1_s = 0 := rw2.trans r2
    obtain ⟨a1_s, a2, a3⟩ := row_of ts1 r0
    obtain ⟨b1, b2, b3⟩ := row_of ts2 r2
    have g1 := (hs.1 (zix (x1_s / 10)) c10_s).2
    have g2 := (hs.1 (zix (x1_s - x1_s / 10 * 10)) c12_s).2
    refine sp_48 (f0_s := h_s.2.1) (nr := nr) hk c10_s e78 a2 (fun L_s f1_s hJ eL es fr1 hk1 => ?_)
    have hi_s : x2_s.toInt.toNat < ni := by omega
    have ei : x2_s.toInt = (x2_s.toInt.toNat : Int) := by omega
    have z12 : zix (12 + x2_s) = 12 + x2_s.toInt.toNat := zxa (c_s := 12) (a_s := 12) rfl ei (by omega)
    have z20 : zix (20 + x2_s) = 20 + x2_s.toInt.toNat := zxa (c_s := 20) (a_s := 20) rfl ei (by omega)
    generalize x2_s.toInt.toNat = i_s at hi_s ei z12 z20
    have hJ2 : isJ nr (fun k_s => h_s.2.2.1 126 (60 * zix (x1_s / 10) + k_s)) (h_s.2.1 125 (zix (x1_s / 10))).toInt L_s := by
      rw [a1_s]
      exact isJ_c (fun k_s hk60 => (g1 k_s hk60).symm) hJ
    have hc1 : tC nh ni nr f1_s := tC_fr (fun a_s k_s w_s => fr1 a_s k_s (by unfold inC at w_s; omega) (by unfold inC at w_s; omega)) hc_s
    have lc1 : lawC q_s f1_s lw := lawC_fr hm_s (fun a_s k_s w_s => fr1 a_s k_s (by omega) (by omega)) l4
    have e3_s : f1_s (76 + 2 * zix (x1_s - x1_s / 10 * 10)) 3 = h_s.2.1 (76 + 2 * zix (x1_s - x1_s / 10 * 10)) 3 := fr1 _ _ (by omega) (by omega)
    have go_s : ∀ (j_s d_s : Nat) (x4_s x5_s : Int32), j_s < 2 → x3.toInt = (j_s : Int) → x5_s.toInt = mxw (j_s + 2) → ((0 + d_s : Nat) : Int) = mxw (j_s + 2) + 1 → wF F_s 111 (84, [some (.ref 6), some (.int x1_s), some (.int x2_s), some (.int x3), some (.int x4_s), some (.int x5_s), some (.int 0), some (.int 0), none], [], (h_s.1, f1_s, h_s.2.2.1, h_s.2.2.2)) (gI (fun v_s h1 => wF F_s 206 (0, [some (.ref 102), some (.int x1_s), some (.int x2_s), some (.int x3), none, none, none, none], [], h1) (gI (fun v2 h2 => v_s = v2 ∧ tX h2)))) := fun j_s d_s x4_s x5_s hj ej e5_s ed => by
      refine e111 (h_s := (h_s.1, f1_s, h_s.2.2.1, h_s.2.2.2)) (f0_s := f1_s) (L_s := L_s) (i_s := i_s) (j_s := j_s) (c_s := fun k_s => h_s.2.2.1 126 (60 * zix (x1_s / 10) + k_s)) (told_s := fun n_s => h_s.2.2.1 126 (60 * zix (x1_s - x1_s / 10 * 10) + n_s)) (W_s := fun v_s => ffR (goJ lw h_s.2.1 (fun k_s => h_s.2.2.1 126 (60 * zix (x1_s / 10) + k_s))) (fun n_s => h_s.2.2.1 126 (60 * zix (x1_s - x1_s / 10 * 10) + n_s)) L_s (h_s.2.1 (76 + 2 * zix (x1_s - x1_s / 10 * 10)) 3).toInt.toNat 0 (oset (owI h_s.2.1 i_s) j_s v_s)) hk1 l1 hm_s lc1 (lawR_P l5) hc1 hi_s ei hj ej e5_s eL (fun k_s hkL => ?_) hJ2.2.2.1 (fun n_s hn60 => g2 n_s hn60) (by rw [e3_s]; exact b2) (by rw [e3_s]; exact b3) (fun v_s => ?_) (fun f2_s fr2 => ?_) F_s 0 d_s 0 0 none f1_s (fun _ _ _ _ _ _ _ => rfl) rfl ed rfl
      · rw [es k_s hkL]
        have := hJ.1
        rw [g1 k_s (by omega)]
      · rw [goJ_fr (f_s := h_s.2.1) (fun k_s => fr1 103 k_s (by omega) (by omega)), owI_fr (f_s := h_s.2.1) (fun k_s => fr1 103 k_s (by omega) (by omega)), e3_s]
      · have fr4 : ∀ a_s k_s, 100 ≤ a_s → f2_s a_s k_s = h_s.2.1 a_s k_s := fun a_s k_s ha_s => by
          rw [fr2 a_s k_s (by omega) (by omega) (by omega) (by omega) (by omega)]
          exact fr1 a_s k_s (by omega) (by omega)
        have m2_s : tM nh ni nr f2_s := tM_fr (fun k_s _ _ => fr4 _ _ (by omega)) (fun k_s _ => fr4 _ _ (by omega)) m0_s
        have lr2 : lawR f2_s lw := lawR_fr (fr4 _ _ (by omega)) (fun k_s _ => fr4 _ _ (by omega)) l5
        have e272 := sb1 m2_s.2.1.2.1
        have rz2 : rwE f2_s x1_s = 0 := (rwE_fr (fun k_s => fr4 124 k_s (by omega))).trans rz
        refine wF_le (Nat.le_succ F_s) (sg_206_0 (h_s := (h_s.1, f2_s, h_s.2.2.1, h_s.2.2.2)) hk ?_)
        refine sp_203 (h_s := (h_s.1, f2_s, h_s.2.2.1, h_s.2.2.2)) hk (fun w_s => absurd ok_s w_s) (fun _ nz => absurd rz2 nz) (fun _ _ _ => ⟨fun c_s => absurd c_s (by decide), fun _ => ?_⟩)
        dsimp only
        rw [e272]
        refine ⟨fun c_s => absurd c_s (by omega), fun _ => ⟨fun c_s => absurd c_s (by omega), fun _ => ⟨fun c_s => absurd c_s (by omega), fun _ => ⟨fun c_s => absurd c_s (by omega), fun _ => ?_⟩⟩⟩⟩
        refine sp_203 (h_s := (h_s.1, f2_s, h_s.2.2.1, h_s.2.2.2)) hk (fun w_s => absurd ok_s w_s) (fun _ nz => absurd rz2 nz) (fun _ _ _ => ⟨fun c_s => absurd c_s (by decide), fun _ => ?_⟩)
        have go2 : ∀ (x4_s : Int32), zix x4_s = 12 + 8 * j_s + i_s → wF F_s 206 (74, [some (.ref 102), some (.int x1_s), some (.int x2_s), some (.int x3), some (.int x4_s), some (.int (f2_s 103 (zix x4_s))), some (.int 0), some (.int 0)], [], (h_s.1, f2_s, h_s.2.2.1, h_s.2.2.2)) (gI (fun v2 h2 => edR (fun v_s => ffR (goJ lw h_s.2.1 (fun k_s => h_s.2.2.1 126 (60 * zix (x1_s / 10) + k_s))) (fun n_s => h_s.2.2.1 126 (60 * zix (x1_s - x1_s / 10 * 10) + n_s)) L_s (h_s.2.1 (76 + 2 * zix (x1_s - x1_s / 10 * 10)) 3).toInt.toNat 0 (oset (owI h_s.2.1 i_s) j_s v_s)) d_s 0 0 = v2 ∧ tX h2)) := fun x4_s e4_s => by
          refine e206 (h_s := (h_s.1, f2_s, h_s.2.2.1, h_s.2.2.2)) (f0_s := f2_s) (L_s := L_s) (i_s := i_s) (j_s := j_s) (s1_s := zix (x1_s / 10)) (s2_s := zix (x1_s - x1_s / 10 * 10)) (c_s := fun k_s => h_s.2.2.1 126 (60 * zix (x1_s / 10) + k_s)) (told_s := fun n_s => h_s.2.2.1 126 (60 * zix (x1_s - x1_s / 10 * 10) + n_s)) (W_s := fun v_s => ffR (goJ lw h_s.2.1 (fun k_s => h_s.2.2.1 126 (60 * zix (x1_s / 10) + k_s))) (fun n_s => h_s.2.2.1 126 (60 * zix (x1_s - x1_s / 10 * 10) + n_s)) L_s (h_s.2.1 (76 + 2 * zix (x1_s - x1_s / 10 * 10)) 3).toInt.toNat 0 (oset (owI h_s.2.1 i_s) j_s v_s)) hk m2_s lr2 (lawR_P l5) hj ei hi_s ej e4_s (by rw [e4_s]) z1.symm z2.symm c10_s c12_s (by rw [fr4 125 _ (by omega), a1_s]; exact a2) (by rw [fr4 125 _ (by omega), b1]; exact b2) (by rw [fr4 125 _ (by omega), b1]; exact b3) (fun _ => rfl) (fun _ => rfl) (by rw [fr4 125 _ (by omega)]; exact hJ2) (fun v_s => ?_) (fun f3_s fr3 => ⟨rfl, ?_⟩) F_s 0 d_s 0 0 f2_s rfl ed rfl (fun _ _ _ _ _ _ => rfl)
          · rw [goJ_fr (f_s := h_s.2.1) (fun k_s => fr4 103 k_s (by omega)), owI_fr (f_s := h_s.2.1) (fun k_s => fr4 103 k_s (by omega)), fr4 125 _ (by omega), b1]
          · refine tX_fr (h_s := h_s) (h1 := (h_s.1, f3_s, h_s.2.2.1, h_s.2.2.2)) (fun _ => rfl) (fun o k_s w_s => ?_) hx
            have n_s : (¬ o = 111 ∧ ¬ o = 112 ∧ ¬ (o = 102 ∧ (15 ≤ k_s ∧ k_s ≤ 19 ∨ k_s = 22 ∨ k_s = 23))) ∧ (¬ o = 13 ∧ ¬ o = 16 ∧ ¬ o = 19 ∧ ¬ o = 88 ∧ ¬ o = 50 ∧ ¬ o = 51) := by
              unfold inX inC inH inI inD inZ inW at w_s
              omega
            show f3_s o k_s = h_s.2.1 o k_s
            rw [fr3 o k_s n_s.1.1 n_s.1.2.1 n_s.1.2.2, fr2 o k_s n_s.2.1 n_s.2.2.1 n_s.2.2.2.1 (fun u_s => n_s.2.2.2.2.1 u_s.1) (fun u_s => n_s.2.2.2.2.2.1 u_s.1)]
            exact fr1 o k_s (fun u_s => n_s.2.2.2.2.2.1 u_s.1) n_s.2.2.2.2.2.2
        refine ⟨fun w0_s => fun _ => ?_, fun w0_s => fun _ => ?_⟩
        · exact go2 (12 + x2_s) (by omega)
        · exact go2 (20 + x2_s) (by omega)
    refine ⟨fun w0_s => ?_, fun w0_s => ?_⟩
    · exact go_s 0 4 v14 3 (by omega) (by omega) rfl rfl
    · exact go_s 1 6 v14 5 (by omega) (by omega) rfl rfl
  · have e_s : rwE h_s.2.1 x1_s = rfB h_s.2.1 (zix (x1_s / 10)) := if_neg (by omega)
    rw [e_s] at rf2
    exact rf2 (by omega) v11 e11_s
end EP_s
/-! What ended runs give: printed by a program (wip/fun/sg.py). -/
/-- ColdShod.asks(I)I, from 0 on -/
theorem sg_107_0 {F_s : Nat} {x1_s : Int32} {h_s : zH} {K_s : Int32 → zH → Prop} (hk : hKn h_s) (t_s : (x1_s.toInt < 0 → K_s (-1) h_s) ∧ (¬ x1_s.toInt < 0 → ((x1_s.toInt < (h_s.2.1 7 6).toInt → wF F_s 25 (0, [some (.ref 7), none, none, none, none], [], h_s) (gV (fun h3 => hKn h3 → (zix x1_s < 6 → K_s (h3.2.1 12 (zix x1_s)) h3)))) ∧ (¬ x1_s.toInt < (h_s.2.1 7 6).toInt → K_s (-1) h_s)))) : wF (F_s + 1) 107 (0, [some (.ref 6), some (.int x1_s)], [], h_s) (gI K_s) := by
  refine w_0 (pc := 0) (e_s := (3, 1, 0, 0, 0, .null, [])) (y_s := (1, [some (.ref _), some (.int _)], [.ref _], _)) rfl (u_ rfl) ?_
  refine w20r (pc := 1) (len_s := 3) (q_s := 7) rfl (krq hk rfl) ?_
  refine w_t (pc := 4) (e_s := (1, 1, 1, 0, 0, .null, [])) (y_s := (5, [some (.ref _), some (.int _)], [.int _, .ref _], _)) rfl (u_ rfl) ?_
  refine wcI (pc := 5) (len_s := 3) rfl rfl (l := [some (.ref _), some (.int _)]) rfl ?_
  refine w_t (pc := 0) (e_s := (1, 1, 1, 0, 0, .null, [])) (y_s := (1, [some (.ref _), some (.int _)], [.int _], _)) rfl (u_ rfl) ?_
  refine wq2 (pc := 1) (len_s := 3) rfl rfl (fun c1_s => ?_) (fun c1_s => ?_)
  · replace t_s := t_s.1 c1_s
    refine w_t (pc := 16) (e_s := (0, 1, 0, 0, 0, .int 0, [])) (y_s := (17, [some (.ref _), some (.int _)], [.int _], _)) rfl (u_ rfl) ?_
    refine wrI (pc := 17) (len_s := 1) rfl hk ?_
    show wF _ 107 (8, [some (.ref _), some (.int _)], [.int _], _) _
    refine w_t (pc := 8) (e_s := (15, 3, 13, 1, 0, .null, [])) (y_s := (11, [some (.ref _), some (.int _)], [], _)) rfl (u_ rfl) ?_
    refine w_t (pc := 11) (e_s := (0, 1, 0, 0, 0, .int (-1), [])) (y_s := (12, [some (.ref _), some (.int _)], [.int _], _)) rfl (u_ rfl) ?_
    exact wrI (pc := 12) (len_s := 1) rfl hk t_s
  · replace t_s := t_s.2 c1_s
    refine w_t (pc := 4) (e_s := (1, 1, 1, 0, 0, .null, [])) (y_s := (5, [some (.ref _), some (.int _)], [.int _], _)) rfl (u_ rfl) ?_
    refine w_t (pc := 5) (e_s := (3, 1, 0, 0, 0, .null, [])) (y_s := (6, [some (.ref _), some (.int _)], [.ref _, .int _], _)) rfl (u_ rfl) ?_
    refine w20 (pc := 6) (len_s := 3) rfl ?_
    refine wi3 (pc := 9) (len_s := 3) rfl rfl rfl (fun c2_s => ?_) (fun c2_s => ?_)
    · replace t_s := t_s.1 c2_s
      refine w_t (pc := 12) (e_s := (0, 1, 0, 0, 0, .int 1, [])) (y_s := (13, [some (.ref _), some (.int _)], [.int _], _)) rfl (u_ rfl) ?_
      refine w_t (pc := 13) (e_s := (17, 3, 17, 0, 0, .null, [])) (y_s := (17, [some (.ref _), some (.int _)], [.int _], _)) rfl (u_ rfl) ?_
      refine wrI (pc := 17) (len_s := 1) rfl hk ?_
      show wF _ 107 (8, [some (.ref _), some (.int _)], [.int _], _) _
      refine w_t (pc := 8) (e_s := (15, 3, 13, 1, 0, .null, [])) (y_s := (13, [some (.ref _), some (.int _)], [], _)) rfl (u_ rfl) ?_
      refine w_t (pc := 13) (e_s := (3, 1, 0, 0, 0, .null, [])) (y_s := (14, [some (.ref _), some (.int _)], [.ref _], _)) rfl (u_ rfl) ?_
      refine w20r (pc := 14) (len_s := 3) (q_s := 7) rfl (krq hk rfl) ?_
      refine wcV (pc := 17) (len_s := 3) rfl rfl (l := [some (.ref _), none, none, none, none]) rfl (wmV t_s (fun h3 hk t_s => ?_))
      replace t_s := t_s hk
      refine w_t (pc := 20) (e_s := (3, 1, 0, 0, 0, .null, [])) (y_s := (21, [some (.ref _), some (.int _)], [.ref _], _)) rfl (u_ rfl) ?_
      refine w20r (pc := 21) (len_s := 3) (q_s := 7) rfl (krq hk rfl) ?_
      refine w20r (pc := 24) (len_s := 3) (q_s := 12) rfl (krq hk rfl) ?_
      refine w_t (pc := 27) (e_s := (1, 1, 1, 0, 0, .null, [])) (y_s := (28, [some (.ref _), some (.int _)], [.int _, .ref _], _)) rfl (u_ rfl) ?_
      refine w22 (pc := 28) (len_s := 1) rfl (hk.1 12 0 6 rfl rfl) (fun c4_s => ?_)
      replace t_s := t_s c4_s
      exact wrI (pc := 29) (len_s := 1) rfl hk t_s
    · replace t_s := t_s.2 c2_s
      refine w_t (pc := 16) (e_s := (0, 1, 0, 0, 0, .int 0, [])) (y_s := (17, [some (.ref _), some (.int _)], [.int _], _)) rfl (u_ rfl) ?_
      refine wrI (pc := 17) (len_s := 1) rfl hk ?_
      show wF _ 107 (8, [some (.ref _), some (.int _)], [.int _], _) _
      refine w_t (pc := 8) (e_s := (15, 3, 13, 1, 0, .null, [])) (y_s := (11, [some (.ref _), some (.int _)], [], _)) rfl (u_ rfl) ?_
      refine w_t (pc := 11) (e_s := (0, 1, 0, 0, 0, .int (-1), [])) (y_s := (12, [some (.ref _), some (.int _)], [.int _], _)) rfl (u_ rfl) ?_
      exact wrI (pc := 12) (len_s := 1) rfl hk t_s
/-- ColdShodModel.asks(I)I, from 0 on -/
theorem sg_199_0 {F_s : Nat} {x1_s : Int32} {h_s : zH} {K_s : Int32 → zH → Prop} (hk : hKn h_s) (t_s : (x1_s.toInt < 0 → K_s (-1) h_s) ∧ (¬ x1_s.toInt < 0 → ((((h_s.2.1 102 6) - 1).toInt < x1_s.toInt → K_s (-1) h_s) ∧ (¬ ((h_s.2.1 102 6) - 1).toInt < x1_s.toInt → wF F_s 198 (0, [some (.ref 102), none, none, none, none], [], h_s) (gV (fun h3 => hKn h3 → wF F_s 197 (0, [some (.ref 102), some (.int x1_s), none], [], h3) (gI (fun v4_s h4 => hKn h4 → (v4_s.toInt < 0 → K_s (-2) h4) ∧ (¬ v4_s.toInt < 0 → wF F_s 197 (0, [some (.ref 102), some (.int x1_s), none], [], h4) (gI (fun v6 h6 => hKn h6 → K_s v6 h6))))))))))) : wF (F_s + 1) 199 (0, [some (.ref 102), some (.int x1_s)], [], h_s) (gI K_s) := by
  refine w_0 (pc := 0) (e_s := (3, 1, 0, 0, 0, .null, [])) (y_s := (1, [some (.ref _), some (.int _)], [.ref _], _)) rfl (u_ rfl) ?_
  refine w_t (pc := 1) (e_s := (1, 1, 1, 0, 0, .null, [])) (y_s := (2, [some (.ref _), some (.int _)], [.int _, .ref _], _)) rfl (u_ rfl) ?_
  refine w_t (pc := 2) (e_s := (10, 1, 0, 0, 0, .null, [])) (y_s := (3, [some (.ref _), some (.int _)], [.long (Int32.toInt64 _), .ref _], _)) rfl (u_ rfl) ?_
  refine wcI (pc := 3) (len_s := 3) rfl rfl (l := [some (.ref _), some (.long _), none]) rfl ?_
  refine w_t (pc := 0) (e_s := (2, 1, 1, 0, 0, .null, [])) (y_s := (1, [some (.ref _), some (.long _), none], [.long _], _)) rfl (u_ rfl) ?_
  refine w_t (pc := 1) (e_s := (0, 1, 0, 0, 0, .long 0, [])) (y_s := (2, [some (.ref _), some (.long _), none], [.long _, .long _], _)) rfl (u_ rfl) ?_
  refine w_t (pc := 2) (e_s := (3, 1, 0, 0, 0, .null, [])) (y_s := (3, [some (.ref _), some (.long _), none], [.ref _, .long _, .long _], _)) rfl (u_ rfl) ?_
  refine w20 (pc := 3) (len_s := 3) rfl ?_
  refine w_t (pc := 6) (e_s := (0, 1, 0, 0, 0, .int 1, [])) (y_s := (7, [some (.ref _), some (.long _), none], [.int _, .int _, .long _, .long _], _)) rfl (u_ rfl) ?_
  refine w_t (pc := 7) (e_s := (7, 1, 0, 1, 0, .null, [])) (y_s := (8, [some (.ref _), some (.long _), none], [.int (_ - _), .long _, .long _], _)) rfl (u_ rfl) ?_
  refine w_t (pc := 8) (e_s := (10, 1, 0, 0, 0, .null, [])) (y_s := (9, [some (.ref _), some (.long _), none], [.long (Int32.toInt64 _), .long _, .long _], _)) rfl (u_ rfl) ?_
  refine wcI (pc := 9) (len_s := 3) rfl rfl (l := [some (.long _), none, some (.long _), none, some (.long _), none]) rfl ?_
  refine w_t (pc := 0) (e_s := (2, 1, 0, 0, 0, .null, [])) (y_s := (1, [some (.long _), none, some (.long _), none, some (.long _), none], [.long _], _)) rfl (u_ rfl) ?_
  refine w_t (pc := 1) (e_s := (2, 1, 2, 0, 0, .null, [])) (y_s := (2, [some (.long _), none, some (.long _), none, some (.long _), none], [.long _, .long _], _)) rfl (u_ rfl) ?_
  refine w_t (pc := 2) (e_s := (14, 1, 0, 0, 0, .null, [])) (y_s := (3, [some (.long _), none, some (.long _), none, some (.long _), none], [.int (lg_cmp _ _)], _)) rfl (u_ rfl) ?_
  refine wl2 (pc := 3) (len_s := 3) (Y := 0) rfl (Int32.toInt_toInt64 _) (by decide) (fun c1_s => ?_) (fun c1_s => ?_)
  · replace t_s := t_s.1 c1_s
    refine w_t (pc := 17) (e_s := (0, 1, 0, 0, 0, .int 0, [])) (y_s := (18, [some (.long _), none, some (.long _), none, some (.long _), none], [.int _], _)) rfl (u_ rfl) ?_
    refine wrI (pc := 18) (len_s := 1) rfl hk ?_
    show wF _ 151 (12, [some (.ref _), some (.long _), none], [.int _], _) _
    refine wrI (pc := 12) (len_s := 1) rfl hk ?_
    show wF _ 199 (6, [some (.ref _), some (.int _)], [.int _], _) _
    refine w_t (pc := 6) (e_s := (15, 3, 11, 1, 0, .null, [])) (y_s := (9, [some (.ref _), some (.int _)], [], _)) rfl (u_ rfl) ?_
    refine w_t (pc := 9) (e_s := (0, 1, 0, 0, 0, .int (-1), [])) (y_s := (10, [some (.ref _), some (.int _)], [.int _], _)) rfl (u_ rfl) ?_
    exact wrI (pc := 10) (len_s := 1) rfl hk t_s
  · replace t_s := t_s.2 c1_s
    refine w_t (pc := 6) (e_s := (2, 1, 0, 0, 0, .null, [])) (y_s := (7, [some (.long _), none, some (.long _), none, some (.long _), none], [.long _], _)) rfl (u_ rfl) ?_
    refine w_t (pc := 7) (e_s := (2, 2, 4, 0, 0, .null, [])) (y_s := (9, [some (.long _), none, some (.long _), none, some (.long _), none], [.long _, .long _], _)) rfl (u_ rfl) ?_
    refine w_t (pc := 9) (e_s := (14, 1, 0, 0, 0, .null, [])) (y_s := (10, [some (.long _), none, some (.long _), none, some (.long _), none], [.int (lg_cmp _ _)], _)) rfl (u_ rfl) ?_
    refine wl4 (pc := 10) (len_s := 3) rfl (Int32.toInt_toInt64 _) (Int32.toInt_toInt64 _) (fun c2_s => ?_) (fun c2_s => ?_)
    · replace t_s := t_s.1 c2_s
      refine w_t (pc := 17) (e_s := (0, 1, 0, 0, 0, .int 0, [])) (y_s := (18, [some (.long _), none, some (.long _), none, some (.long _), none], [.int _], _)) rfl (u_ rfl) ?_
      refine wrI (pc := 18) (len_s := 1) rfl hk ?_
      show wF _ 151 (12, [some (.ref _), some (.long _), none], [.int _], _) _
      refine wrI (pc := 12) (len_s := 1) rfl hk ?_
      show wF _ 199 (6, [some (.ref _), some (.int _)], [.int _], _) _
      refine w_t (pc := 6) (e_s := (15, 3, 11, 1, 0, .null, [])) (y_s := (9, [some (.ref _), some (.int _)], [], _)) rfl (u_ rfl) ?_
      refine w_t (pc := 9) (e_s := (0, 1, 0, 0, 0, .int (-1), [])) (y_s := (10, [some (.ref _), some (.int _)], [.int _], _)) rfl (u_ rfl) ?_
      exact wrI (pc := 10) (len_s := 1) rfl hk t_s
    · replace t_s := t_s.2 c2_s
      refine w_t (pc := 13) (e_s := (0, 1, 0, 0, 0, .int 1, [])) (y_s := (14, [some (.long _), none, some (.long _), none, some (.long _), none], [.int _], _)) rfl (u_ rfl) ?_
      refine w_t (pc := 14) (e_s := (17, 3, 18, 0, 0, .null, [])) (y_s := (18, [some (.long _), none, some (.long _), none, some (.long _), none], [.int _], _)) rfl (u_ rfl) ?_
      refine wrI (pc := 18) (len_s := 1) rfl hk ?_
      show wF _ 151 (12, [some (.ref _), some (.long _), none], [.int _], _) _
      refine wrI (pc := 12) (len_s := 1) rfl hk ?_
      show wF _ 199 (6, [some (.ref _), some (.int _)], [.int _], _) _
      refine w_t (pc := 6) (e_s := (15, 3, 11, 1, 0, .null, [])) (y_s := (11, [some (.ref _), some (.int _)], [], _)) rfl (u_ rfl) ?_
      refine w_t (pc := 11) (e_s := (3, 1, 0, 0, 0, .null, [])) (y_s := (12, [some (.ref _), some (.int _)], [.ref _], _)) rfl (u_ rfl) ?_
      refine wcV (pc := 12) (len_s := 3) rfl rfl (l := [some (.ref _), none, none, none, none]) rfl (wmV t_s (fun h3 hk t_s => ?_))
      replace t_s := t_s hk
      refine w_t (pc := 15) (e_s := (3, 1, 0, 0, 0, .null, [])) (y_s := (16, [some (.ref _), some (.int _)], [.ref _], _)) rfl (u_ rfl) ?_
      refine w_t (pc := 16) (e_s := (1, 1, 1, 0, 0, .null, [])) (y_s := (17, [some (.ref _), some (.int _)], [.int _, .ref _], _)) rfl (u_ rfl) ?_
      refine wcI (pc := 17) (len_s := 3) rfl rfl (l := [some (.ref _), some (.int _), none]) rfl (wmI t_s (fun v4_s h4 hk t_s => ?_))
      replace t_s := t_s hk
      refine wq3 (pc := 20) (len_s := 3) rfl rfl (fun c5_s => ?_) (fun c5_s => ?_)
      · replace t_s := t_s.1 c5_s
        refine w_t (pc := 23) (e_s := (0, 2, 0, 0, 0, .int (-2), [])) (y_s := (25, [some (.ref _), some (.int _)], [.int _], _)) rfl (u_ rfl) ?_
        refine w_t (pc := 25) (e_s := (17, 3, 33, 0, 0, .null, [])) (y_s := (33, [some (.ref _), some (.int _)], [.int _], _)) rfl (u_ rfl) ?_
        exact wrI (pc := 33) (len_s := 1) rfl hk t_s
      · replace t_s := t_s.2 c5_s
        refine w_t (pc := 28) (e_s := (3, 1, 0, 0, 0, .null, [])) (y_s := (29, [some (.ref _), some (.int _)], [.ref _], _)) rfl (u_ rfl) ?_
        refine w_t (pc := 29) (e_s := (1, 1, 1, 0, 0, .null, [])) (y_s := (30, [some (.ref _), some (.int _)], [.int _, .ref _], _)) rfl (u_ rfl) ?_
        refine wcI (pc := 30) (len_s := 3) rfl rfl (l := [some (.ref _), some (.int _), none]) rfl (wmI t_s (fun v6 h6 hk t_s => ?_))
        replace t_s := t_s hk
        exact wrI (pc := 33) (len_s := 1) rfl hk t_s
/-- ColdShod.settled()I, from 0 on -/
theorem sg_108_0 {F_s : Nat}  {h_s : zH} {K_s : Int32 → zH → Prop} (hk : hKn h_s) (t_s : wF F_s 30 (0, [some (.ref 7), none, none, none], [], h_s) (gI (fun v1_s h1 => hKn h1 → (v1_s.toInt = 0 → K_s 0 h1) ∧ (¬ v1_s.toInt = 0 → K_s 1 h1)))) : wF (F_s + 1) 108 (0, [some (.ref 6)], [], h_s) (gI K_s) := by
  refine w_0 (pc := 0) (e_s := (3, 1, 0, 0, 0, .null, [])) (y_s := (1, [some (.ref _)], [.ref _], _)) rfl (u_ rfl) ?_
  refine w20r (pc := 1) (len_s := 3) (q_s := 7) rfl (krq hk rfl) ?_
  refine wcI (pc := 4) (len_s := 3) rfl rfl (l := [some (.ref _), none, none, none]) rfl (wmI t_s (fun v1_s h1 hk t_s => ?_))
  replace t_s := t_s hk
  refine wq0 (pc := 7) (len_s := 3) rfl rfl (fun c2_s => ?_) (fun c2_s => ?_)
  · replace t_s := t_s.1 c2_s
    refine w_t (pc := 14) (e_s := (0, 1, 0, 0, 0, .int 0, [])) (y_s := (15, [some (.ref _)], [.int _], _)) rfl (u_ rfl) ?_
    exact wrI (pc := 15) (len_s := 1) rfl hk t_s
  · replace t_s := t_s.2 c2_s
    refine w_t (pc := 10) (e_s := (0, 1, 0, 0, 0, .int 1, [])) (y_s := (11, [some (.ref _)], [.int _], _)) rfl (u_ rfl) ?_
    refine w_t (pc := 11) (e_s := (17, 3, 15, 0, 0, .null, [])) (y_s := (15, [some (.ref _)], [.int _], _)) rfl (u_ rfl) ?_
    exact wrI (pc := 15) (len_s := 1) rfl hk t_s
/-- ColdShod$Country.isSettled()Z, from 0 on -/
theorem sg_30_0 {F_s : Nat}  {h_s : zH} {K_s : Int32 → zH → Prop} (hk : hKn h_s) (t_s : wF F_s 240 (0, [some (.ref 12), some (.int (-2)), none, none], [], h_s) (gV (fun h1 => hKn h1 → wF F_s 30 (11, [some (.ref 7), some (.int 0), none, none], [], h1) (gI K_s)))) : wF (F_s + 1) 30 (0, [some (.ref 7), none, none, none], [], h_s) (gI K_s) := by
  refine w_0 (pc := 0) (e_s := (3, 1, 0, 0, 0, .null, [])) (y_s := (1, [some (.ref _), none, none, none], [.ref _], _)) rfl (u_ rfl) ?_
  refine w20r (pc := 1) (len_s := 3) (q_s := 12) rfl (krq hk rfl) ?_
  refine w_t (pc := 4) (e_s := (0, 2, 0, 0, 0, .int (-2), [])) (y_s := (6, [some (.ref _), none, none, none], [.int _, .ref _], _)) rfl (u_ rfl) ?_
  refine wcV (pc := 6) (len_s := 3) rfl rfl (l := [some (.ref _), some (.int _), none, none]) rfl (wmV t_s (fun h1 hk t_s => ?_))
  replace t_s := t_s hk
  refine w_t (pc := 9) (e_s := (0, 1, 0, 0, 0, .int 0, [])) (y_s := (10, [some (.ref _), none, none, none], [.int _], _)) rfl (u_ rfl) ?_
  refine w_t (pc := 10) (e_s := (4, 1, 1, 0, 0, .null, [])) (y_s := (11, [some (.ref _), some (.int _), none, none], [], _)) rfl (u_ rfl) ?_
  exact t_s
/-- ColdShod$Country.isSettled()Z, from 11 on -/
theorem sg_30_11 {F_s : Nat} {x1_s : Int32} {l2 l3 : Option Value} {h_s : zH} {K_s : Int32 → zH → Prop} (hk : hKn h_s) (t_s : (x1_s.toInt < (h_s.2.1 7 7).toInt → (zix x1_s < 8 → ((h_s.2.1 (20 + (zix x1_s)) 6).toInt < 0 → wF F_s 30 (11, [some (.ref 7), some (.int (x1_s + 1)), some (.int (h_s.2.1 (20 + (zix x1_s)) 6)), l3], [], h_s) (gI K_s)) ∧ (¬ (h_s.2.1 (20 + (zix x1_s)) 6).toInt < 0 → (((h_s.2.1 (20 + (zix x1_s)) 6).toInt < (h_s.2.1 7 6).toInt → (zix (h_s.2.1 (20 + (zix x1_s)) 6) < 6 → ((h_s.2.1 12 (zix (h_s.2.1 (20 + (zix x1_s)) 6))).toInt = -2 → wF F_s 30 (11, [some (.ref 7), some (.int (x1_s + 1)), some (.int (h_s.2.1 (20 + (zix x1_s)) 6)), l3], [], (h_s.1, zup h_s.2.1 12 (zix (h_s.2.1 (20 + (zix x1_s)) 6)) x1_s, h_s.2.2.1, h_s.2.2.2)) (gI K_s)) ∧ (¬ (h_s.2.1 12 (zix (h_s.2.1 (20 + (zix x1_s)) 6))).toInt = -2 → K_s 0 h_s))) ∧ (¬ (h_s.2.1 (20 + (zix x1_s)) 6).toInt < (h_s.2.1 7 6).toInt → wF F_s 30 (11, [some (.ref 7), some (.int (x1_s + 1)), some (.int (h_s.2.1 (20 + (zix x1_s)) 6)), l3], [], h_s) (gI K_s)))))) ∧ (¬ x1_s.toInt < (h_s.2.1 7 7).toInt → wF F_s 30 (68, [some (.ref 7), some (.int 0), l2, l3], [], h_s) (gI K_s))) : wF (F_s + 1) 30 (11, [some (.ref 7), some (.int x1_s), l2, l3], [], h_s) (gI K_s) := by
  refine w_0 (pc := 11) (e_s := (1, 1, 1, 0, 0, .null, [])) (y_s := (12, [some (.ref _), some (.int _), _, _], [.int _], _)) rfl (u_ rfl) ?_
  refine w_t (pc := 12) (e_s := (3, 1, 0, 0, 0, .null, [])) (y_s := (13, [some (.ref _), some (.int _), _, _], [.ref _, .int _], _)) rfl (u_ rfl) ?_
  refine w20 (pc := 13) (len_s := 3) rfl ?_
  refine wi3 (pc := 16) (len_s := 3) rfl rfl rfl (fun c1_s => ?_) (fun c1_s => ?_)
  · replace t_s := t_s.1 c1_s
    refine w_t (pc := 19) (e_s := (3, 1, 0, 0, 0, .null, [])) (y_s := (20, [some (.ref _), some (.int _), _, _], [.ref _], _)) rfl (u_ rfl) ?_
    refine w20r (pc := 20) (len_s := 3) (q_s := 10) rfl (krq hk rfl) ?_
    refine w_t (pc := 23) (e_s := (1, 1, 1, 0, 0, .null, [])) (y_s := (24, [some (.ref _), some (.int _), _, _], [.int _, .ref _], _)) rfl (u_ rfl) ?_
    refine w24 (g_s := fun j_ => 20 + j_) (pc := 24) (len_s := 1) hk rfl (hk.1 10 2 8 rfl rfl) kg10 (fun c2_s => ?_)
    replace t_s := t_s c2_s
    refine w20 (pc := 25) (len_s := 3) rfl ?_
    refine w_t (pc := 28) (e_s := (4, 1, 2, 0, 0, .null, [])) (y_s := (29, [some (.ref _), some (.int _), some (.int _), _], [], _)) rfl (u_ rfl) ?_
    refine w_t (pc := 29) (e_s := (3, 1, 0, 0, 0, .null, [])) (y_s := (30, [some (.ref _), some (.int _), some (.int _), _], [.ref _], _)) rfl (u_ rfl) ?_
    refine w_t (pc := 30) (e_s := (1, 1, 2, 0, 0, .null, [])) (y_s := (31, [some (.ref _), some (.int _), some (.int _), _], [.int _, .ref _], _)) rfl (u_ rfl) ?_
    refine wcI (pc := 31) (len_s := 3) rfl rfl (l := [some (.ref _), some (.int _)]) rfl ?_
    refine w_t (pc := 0) (e_s := (1, 1, 1, 0, 0, .null, [])) (y_s := (1, [some (.ref _), some (.int _)], [.int _], _)) rfl (u_ rfl) ?_
    refine wq2 (pc := 1) (len_s := 3) rfl rfl (fun c3_s => ?_) (fun c3_s => ?_)
    · replace t_s := t_s.1 c3_s
      refine w_t (pc := 16) (e_s := (0, 1, 0, 0, 0, .int 0, [])) (y_s := (17, [some (.ref _), some (.int _)], [.int _], _)) rfl (u_ rfl) ?_
      refine wrI (pc := 17) (len_s := 1) rfl hk ?_
      show wF _ 30 (34, [some (.ref _), some (.int _), some (.int _), _], [.int _], _) _
      refine w_t (pc := 34) (e_s := (15, 3, 40, 1, 0, .null, [])) (y_s := (37, [some (.ref _), some (.int _), some (.int _), _], [], _)) rfl (u_ rfl) ?_
      refine w_t (pc := 37) (e_s := (17, 3, 60, 0, 0, .null, [])) (y_s := (60, [some (.ref _), some (.int _), some (.int _), _], [], _)) rfl (u_ rfl) ?_
      refine w_t (pc := 60) (e_s := (19, 3, 1, 0, 0, .int 1, [])) (y_s := (63, [some (.ref _), some (.int _), some (.int _), _], [], _)) rfl (u_ rfl) ?_
      refine w_t (pc := 63) (e_s := (17, 3, 11, 0, 0, .null, [])) (y_s := (11, [some (.ref _), some (.int _), some (.int _), _], [], _)) rfl (u_ rfl) ?_
      exact t_s
    · replace t_s := t_s.2 c3_s
      refine w_t (pc := 4) (e_s := (1, 1, 1, 0, 0, .null, [])) (y_s := (5, [some (.ref _), some (.int _)], [.int _], _)) rfl (u_ rfl) ?_
      refine w_t (pc := 5) (e_s := (3, 1, 0, 0, 0, .null, [])) (y_s := (6, [some (.ref _), some (.int _)], [.ref _, .int _], _)) rfl (u_ rfl) ?_
      refine w20 (pc := 6) (len_s := 3) rfl ?_
      refine wi3 (pc := 9) (len_s := 3) rfl rfl rfl (fun c4_s => ?_) (fun c4_s => ?_)
      · replace t_s := t_s.1 c4_s
        refine w_t (pc := 12) (e_s := (0, 1, 0, 0, 0, .int 1, [])) (y_s := (13, [some (.ref _), some (.int _)], [.int _], _)) rfl (u_ rfl) ?_
        refine w_t (pc := 13) (e_s := (17, 3, 17, 0, 0, .null, [])) (y_s := (17, [some (.ref _), some (.int _)], [.int _], _)) rfl (u_ rfl) ?_
        refine wrI (pc := 17) (len_s := 1) rfl hk ?_
        show wF _ 30 (34, [some (.ref _), some (.int _), some (.int _), _], [.int _], _) _
        refine w_t (pc := 34) (e_s := (15, 3, 40, 1, 0, .null, [])) (y_s := (40, [some (.ref _), some (.int _), some (.int _), _], [], _)) rfl (u_ rfl) ?_
        refine w_t (pc := 40) (e_s := (3, 1, 0, 0, 0, .null, [])) (y_s := (41, [some (.ref _), some (.int _), some (.int _), _], [.ref _], _)) rfl (u_ rfl) ?_
        refine w20r (pc := 41) (len_s := 3) (q_s := 12) rfl (krq hk rfl) ?_
        refine w_t (pc := 44) (e_s := (1, 1, 2, 0, 0, .null, [])) (y_s := (45, [some (.ref _), some (.int _), some (.int _), _], [.int _, .ref _], _)) rfl (u_ rfl) ?_
        refine w22 (pc := 45) (len_s := 1) rfl (hk.1 12 0 6 rfl rfl) (fun c5_s => ?_)
        replace t_s := t_s c5_s
        refine w_t (pc := 46) (e_s := (0, 2, 0, 0, 0, .int (-2), [])) (y_s := (48, [some (.ref _), some (.int _), some (.int _), _], [.int _, .int _], _)) rfl (u_ rfl) ?_
        refine wi0 (pc := 48) (len_s := 3) (Y := -2) rfl rfl (by decide) (fun c6_s => ?_) (fun c6_s => ?_)
        · replace t_s := t_s.1 c6_s
          refine w_t (pc := 53) (e_s := (3, 1, 0, 0, 0, .null, [])) (y_s := (54, [some (.ref _), some (.int _), some (.int _), _], [.ref _], _)) rfl (u_ rfl) ?_
          refine w20r (pc := 54) (len_s := 3) (q_s := 12) rfl (krq hk rfl) ?_
          refine w_t (pc := 57) (e_s := (1, 1, 2, 0, 0, .null, [])) (y_s := (58, [some (.ref _), some (.int _), some (.int _), _], [.int _, .ref _], _)) rfl (u_ rfl) ?_
          refine w_t (pc := 58) (e_s := (1, 1, 1, 0, 0, .null, [])) (y_s := (59, [some (.ref _), some (.int _), some (.int _), _], [.int _, .int _, .ref _], _)) rfl (u_ rfl) ?_
          refine w25 (pc := 59) (len_s := 1) rfl (hk.1 12 0 6 rfl rfl) (fun c7_s => ?_)
          refine w_t (pc := 60) (e_s := (19, 3, 1, 0, 0, .int 1, [])) (y_s := (63, [some (.ref _), some (.int _), some (.int _), _], [], _)) rfl (u_ rfl) ?_
          refine w_t (pc := 63) (e_s := (17, 3, 11, 0, 0, .null, [])) (y_s := (11, [some (.ref _), some (.int _), some (.int _), _], [], _)) rfl (u_ rfl) ?_
          exact t_s
        · replace t_s := t_s.2 c6_s
          refine w_t (pc := 51) (e_s := (0, 1, 0, 0, 0, .int 0, [])) (y_s := (52, [some (.ref _), some (.int _), some (.int _), _], [.int _], _)) rfl (u_ rfl) ?_
          exact wrI (pc := 52) (len_s := 1) rfl hk t_s
      · replace t_s := t_s.2 c4_s
        refine w_t (pc := 16) (e_s := (0, 1, 0, 0, 0, .int 0, [])) (y_s := (17, [some (.ref _), some (.int _)], [.int _], _)) rfl (u_ rfl) ?_
        refine wrI (pc := 17) (len_s := 1) rfl hk ?_
        show wF _ 30 (34, [some (.ref _), some (.int _), some (.int _), _], [.int _], _) _
        refine w_t (pc := 34) (e_s := (15, 3, 40, 1, 0, .null, [])) (y_s := (37, [some (.ref _), some (.int _), some (.int _), _], [], _)) rfl (u_ rfl) ?_
        refine w_t (pc := 37) (e_s := (17, 3, 60, 0, 0, .null, [])) (y_s := (60, [some (.ref _), some (.int _), some (.int _), _], [], _)) rfl (u_ rfl) ?_
        refine w_t (pc := 60) (e_s := (19, 3, 1, 0, 0, .int 1, [])) (y_s := (63, [some (.ref _), some (.int _), some (.int _), _], [], _)) rfl (u_ rfl) ?_
        refine w_t (pc := 63) (e_s := (17, 3, 11, 0, 0, .null, [])) (y_s := (11, [some (.ref _), some (.int _), some (.int _), _], [], _)) rfl (u_ rfl) ?_
        exact t_s
  · replace t_s := t_s.2 c1_s
    refine w_t (pc := 66) (e_s := (0, 1, 0, 0, 0, .int 0, [])) (y_s := (67, [some (.ref _), some (.int _), _, _], [.int _], _)) rfl (u_ rfl) ?_
    refine w_t (pc := 67) (e_s := (4, 1, 1, 0, 0, .null, [])) (y_s := (68, [some (.ref _), some (.int _), _, _], [], _)) rfl (u_ rfl) ?_
    exact t_s
/-- ColdShod$Country.isSettled()Z, from 68 on -/
theorem sg_30_68 {F_s : Nat} {x1_s : Int32} {l2 l3 : Option Value} {h_s : zH} {K_s : Int32 → zH → Prop} (hk : hKn h_s) (t_s : (x1_s.toInt < (h_s.2.1 7 6).toInt → wF F_s 30 (78, [some (.ref 7), some (.int x1_s), some (.int 0), l3], [], h_s) (gI K_s)) ∧ (¬ x1_s.toInt < (h_s.2.1 7 6).toInt → K_s 1 h_s)) : wF (F_s + 1) 30 (68, [some (.ref 7), some (.int x1_s), l2, l3], [], h_s) (gI K_s) := by
  refine w_0 (pc := 68) (e_s := (1, 1, 1, 0, 0, .null, [])) (y_s := (69, [some (.ref _), some (.int _), _, _], [.int _], _)) rfl (u_ rfl) ?_
  refine w_t (pc := 69) (e_s := (3, 1, 0, 0, 0, .null, [])) (y_s := (70, [some (.ref _), some (.int _), _, _], [.ref _, .int _], _)) rfl (u_ rfl) ?_
  refine w20 (pc := 70) (len_s := 3) rfl ?_
  refine wi3 (pc := 73) (len_s := 3) rfl rfl rfl (fun c1_s => ?_) (fun c1_s => ?_)
  · replace t_s := t_s.1 c1_s
    refine w_t (pc := 76) (e_s := (0, 1, 0, 0, 0, .int 0, [])) (y_s := (77, [some (.ref _), some (.int _), _, _], [.int _], _)) rfl (u_ rfl) ?_
    refine w_t (pc := 77) (e_s := (4, 1, 2, 0, 0, .null, [])) (y_s := (78, [some (.ref _), some (.int _), some (.int _), _], [], _)) rfl (u_ rfl) ?_
    exact t_s
  · replace t_s := t_s.2 c1_s
    refine w_t (pc := 155) (e_s := (0, 1, 0, 0, 0, .int 1, [])) (y_s := (156, [some (.ref _), some (.int _), _, _], [.int _], _)) rfl (u_ rfl) ?_
    exact wrI (pc := 156) (len_s := 1) rfl hk t_s
/-- ColdShod$Country.isSettled()Z, from 78 on -/
theorem sg_30_78 {F_s : Nat} {x1_s x2_s : Int32} {l3 : Option Value} {h_s : zH} {K_s : Int32 → zH → Prop} (hk : hKn h_s) (t_s : (x2_s.toInt < (h_s.2.1 7 7).toInt → (zix x2_s < 8 → ((h_s.2.1 (20 + (zix x2_s)) 6).toInt = x1_s.toInt → wF F_s 30 (105, [some (.ref 7), some (.int x1_s), some (.int x2_s), some (.int 0)], [], h_s) (gI K_s)) ∧ (¬ (h_s.2.1 (20 + (zix x2_s)) 6).toInt = x1_s.toInt → wF F_s 30 (105, [some (.ref 7), some (.int x1_s), some (.int x2_s), some (.int 1)], [], h_s) (gI K_s)))) ∧ (¬ x2_s.toInt < (h_s.2.1 7 7).toInt → wF F_s 30 (68, [some (.ref 7), some (.int (x1_s + 1)), some (.int x2_s), l3], [], h_s) (gI K_s))) : wF (F_s + 1) 30 (78, [some (.ref 7), some (.int x1_s), some (.int x2_s), l3], [], h_s) (gI K_s) := by
  refine w_0 (pc := 78) (e_s := (1, 1, 2, 0, 0, .null, [])) (y_s := (79, [some (.ref _), some (.int _), some (.int _), _], [.int _], _)) rfl (u_ rfl) ?_
  refine w_t (pc := 79) (e_s := (3, 1, 0, 0, 0, .null, [])) (y_s := (80, [some (.ref _), some (.int _), some (.int _), _], [.ref _, .int _], _)) rfl (u_ rfl) ?_
  refine w20 (pc := 80) (len_s := 3) rfl ?_
  refine wi3 (pc := 83) (len_s := 3) rfl rfl rfl (fun c1_s => ?_) (fun c1_s => ?_)
  · replace t_s := t_s.1 c1_s
    refine w_t (pc := 86) (e_s := (3, 1, 0, 0, 0, .null, [])) (y_s := (87, [some (.ref _), some (.int _), some (.int _), _], [.ref _], _)) rfl (u_ rfl) ?_
    refine w20r (pc := 87) (len_s := 3) (q_s := 10) rfl (krq hk rfl) ?_
    refine w_t (pc := 90) (e_s := (1, 1, 2, 0, 0, .null, [])) (y_s := (91, [some (.ref _), some (.int _), some (.int _), _], [.int _, .ref _], _)) rfl (u_ rfl) ?_
    refine w24 (g_s := fun j_ => 20 + j_) (pc := 91) (len_s := 1) hk rfl (hk.1 10 2 8 rfl rfl) kg10 (fun c2_s => ?_)
    replace t_s := t_s c2_s
    refine w20 (pc := 92) (len_s := 3) rfl ?_
    refine w_t (pc := 95) (e_s := (1, 1, 1, 0, 0, .null, [])) (y_s := (96, [some (.ref _), some (.int _), some (.int _), _], [.int _, .int _], _)) rfl (u_ rfl) ?_
    refine wi0 (pc := 96) (len_s := 3) rfl rfl rfl (fun c3_s => ?_) (fun c3_s => ?_)
    · replace t_s := t_s.1 c3_s
      refine w_t (pc := 103) (e_s := (0, 1, 0, 0, 0, .int 0, [])) (y_s := (104, [some (.ref _), some (.int _), some (.int _), _], [.int _], _)) rfl (u_ rfl) ?_
      refine w_t (pc := 104) (e_s := (4, 1, 3, 0, 0, .null, [])) (y_s := (105, [some (.ref _), some (.int _), some (.int _), some (.int _)], [], _)) rfl (u_ rfl) ?_
      exact t_s
    · replace t_s := t_s.2 c3_s
      refine w_t (pc := 99) (e_s := (0, 1, 0, 0, 0, .int 1, [])) (y_s := (100, [some (.ref _), some (.int _), some (.int _), _], [.int _], _)) rfl (u_ rfl) ?_
      refine w_t (pc := 100) (e_s := (17, 3, 104, 0, 0, .null, [])) (y_s := (104, [some (.ref _), some (.int _), some (.int _), _], [.int _], _)) rfl (u_ rfl) ?_
      refine w_t (pc := 104) (e_s := (4, 1, 3, 0, 0, .null, [])) (y_s := (105, [some (.ref _), some (.int _), some (.int _), some (.int _)], [], _)) rfl (u_ rfl) ?_
      exact t_s
  · replace t_s := t_s.2 c1_s
    refine w_t (pc := 149) (e_s := (19, 3, 1, 0, 0, .int 1, [])) (y_s := (152, [some (.ref _), some (.int _), some (.int _), _], [], _)) rfl (u_ rfl) ?_
    refine w_t (pc := 152) (e_s := (17, 3, 68, 0, 0, .null, [])) (y_s := (68, [some (.ref _), some (.int _), some (.int _), _], [], _)) rfl (u_ rfl) ?_
    exact t_s
/-- ColdShod$Country.isSettled()Z, from 105 on -/
theorem sg_30_105 {F_s : Nat} {x1_s x2_s x3 : Int32} {h_s : zH} {K_s : Int32 → zH → Prop} (hk : hKn h_s) (t_s : (x3.toInt = 0 → wF F_s 30 (78, [some (.ref 7), some (.int x1_s), some (.int (x2_s + 1)), some (.int x3)], [], h_s) (gI K_s)) ∧ (¬ x3.toInt = 0 → (zix x1_s < 6 → wF F_s 29 (0, [some (.ref 7), some (.int x1_s), some (.int x2_s), some (.int (h_s.2.1 12 (zix x1_s))), none, none], [], h_s) (gI (fun v3 h3 => hKn h3 → (v3.toInt = 0 → wF F_s 30 (78, [some (.ref 7), some (.int x1_s), some (.int (x2_s + 1)), some (.int x3)], [], h3) (gI K_s)) ∧ (¬ v3.toInt = 0 → (zix x2_s < 8 → wF F_s 28 (0, [some (.ref 7), some (.int x1_s), some (.int (h3.2.1 (20 + (zix x2_s)) 6))], [], h3) (gI (fun v6 h6 => hKn h6 → (v6.toInt = 0 → wF F_s 30 (78, [some (.ref 7), some (.int x1_s), some (.int (x2_s + 1)), some (.int x3)], [], h6) (gI K_s)) ∧ (¬ v6.toInt = 0 → K_s 0 h6)))))))))) : wF (F_s + 1) 30 (105, [some (.ref 7), some (.int x1_s), some (.int x2_s), some (.int x3)], [], h_s) (gI K_s) := by
  refine w_0 (pc := 105) (e_s := (1, 1, 3, 0, 0, .null, [])) (y_s := (106, [some (.ref _), some (.int _), some (.int _), some (.int _)], [.int _], _)) rfl (u_ rfl) ?_
  refine wq0 (pc := 106) (len_s := 3) rfl rfl (fun c1_s => ?_) (fun c1_s => ?_)
  · replace t_s := t_s.1 c1_s
    refine w_t (pc := 143) (e_s := (19, 3, 2, 0, 0, .int 1, [])) (y_s := (146, [some (.ref _), some (.int _), some (.int _), some (.int _)], [], _)) rfl (u_ rfl) ?_
    refine w_t (pc := 146) (e_s := (17, 3, 78, 0, 0, .null, [])) (y_s := (78, [some (.ref _), some (.int _), some (.int _), some (.int _)], [], _)) rfl (u_ rfl) ?_
    exact t_s
  · replace t_s := t_s.2 c1_s
    refine w_t (pc := 109) (e_s := (3, 1, 0, 0, 0, .null, [])) (y_s := (110, [some (.ref _), some (.int _), some (.int _), some (.int _)], [.ref _], _)) rfl (u_ rfl) ?_
    refine w_t (pc := 110) (e_s := (1, 1, 1, 0, 0, .null, [])) (y_s := (111, [some (.ref _), some (.int _), some (.int _), some (.int _)], [.int _, .ref _], _)) rfl (u_ rfl) ?_
    refine w_t (pc := 111) (e_s := (1, 1, 2, 0, 0, .null, [])) (y_s := (112, [some (.ref _), some (.int _), some (.int _), some (.int _)], [.int _, .int _, .ref _], _)) rfl (u_ rfl) ?_
    refine w_t (pc := 112) (e_s := (3, 1, 0, 0, 0, .null, [])) (y_s := (113, [some (.ref _), some (.int _), some (.int _), some (.int _)], [.ref _, .int _, .int _, .ref _], _)) rfl (u_ rfl) ?_
    refine w20r (pc := 113) (len_s := 3) (q_s := 12) rfl (krq hk rfl) ?_
    refine w_t (pc := 116) (e_s := (1, 1, 1, 0, 0, .null, [])) (y_s := (117, [some (.ref _), some (.int _), some (.int _), some (.int _)], [.int _, .ref _, .int _, .int _, .ref _], _)) rfl (u_ rfl) ?_
    refine w22 (pc := 117) (len_s := 1) rfl (hk.1 12 0 6 rfl rfl) (fun c2_s => ?_)
    replace t_s := t_s c2_s
    refine wcI (pc := 118) (len_s := 3) rfl rfl (l := [some (.ref _), some (.int _), some (.int _), some (.int _), none, none]) rfl (wmI t_s (fun v3 h3 hk t_s => ?_))
    replace t_s := t_s hk
    refine wq0 (pc := 121) (len_s := 3) rfl rfl (fun c4_s => ?_) (fun c4_s => ?_)
    · replace t_s := t_s.1 c4_s
      refine w_t (pc := 143) (e_s := (19, 3, 2, 0, 0, .int 1, [])) (y_s := (146, [some (.ref _), some (.int _), some (.int _), some (.int _)], [], _)) rfl (u_ rfl) ?_
      refine w_t (pc := 146) (e_s := (17, 3, 78, 0, 0, .null, [])) (y_s := (78, [some (.ref _), some (.int _), some (.int _), some (.int _)], [], _)) rfl (u_ rfl) ?_
      exact t_s
    · replace t_s := t_s.2 c4_s
      refine w_t (pc := 124) (e_s := (3, 1, 0, 0, 0, .null, [])) (y_s := (125, [some (.ref _), some (.int _), some (.int _), some (.int _)], [.ref _], _)) rfl (u_ rfl) ?_
      refine w_t (pc := 125) (e_s := (1, 1, 1, 0, 0, .null, [])) (y_s := (126, [some (.ref _), some (.int _), some (.int _), some (.int _)], [.int _, .ref _], _)) rfl (u_ rfl) ?_
      refine w_t (pc := 126) (e_s := (3, 1, 0, 0, 0, .null, [])) (y_s := (127, [some (.ref _), some (.int _), some (.int _), some (.int _)], [.ref _, .int _, .ref _], _)) rfl (u_ rfl) ?_
      refine w20r (pc := 127) (len_s := 3) (q_s := 10) rfl (krq hk rfl) ?_
      refine w_t (pc := 130) (e_s := (1, 1, 2, 0, 0, .null, [])) (y_s := (131, [some (.ref _), some (.int _), some (.int _), some (.int _)], [.int _, .ref _, .int _, .ref _], _)) rfl (u_ rfl) ?_
      refine w24 (g_s := fun j_ => 20 + j_) (pc := 131) (len_s := 1) hk rfl (hk.1 10 2 8 rfl rfl) kg10 (fun c5_s => ?_)
      replace t_s := t_s c5_s
      refine w20 (pc := 132) (len_s := 3) rfl ?_
      refine wcI (pc := 135) (len_s := 3) rfl rfl (l := [some (.ref _), some (.int _), some (.int _)]) rfl (wmI t_s (fun v6 h6 hk t_s => ?_))
      replace t_s := t_s hk
      refine wq0 (pc := 138) (len_s := 3) rfl rfl (fun c7_s => ?_) (fun c7_s => ?_)
      · replace t_s := t_s.1 c7_s
        refine w_t (pc := 143) (e_s := (19, 3, 2, 0, 0, .int 1, [])) (y_s := (146, [some (.ref _), some (.int _), some (.int _), some (.int _)], [], _)) rfl (u_ rfl) ?_
        refine w_t (pc := 146) (e_s := (17, 3, 78, 0, 0, .null, [])) (y_s := (78, [some (.ref _), some (.int _), some (.int _), some (.int _)], [], _)) rfl (u_ rfl) ?_
        exact t_s
      · replace t_s := t_s.2 c7_s
        refine w_t (pc := 141) (e_s := (0, 1, 0, 0, 0, .int 0, [])) (y_s := (142, [some (.ref _), some (.int _), some (.int _), some (.int _)], [.int _], _)) rfl (u_ rfl) ?_
        exact wrI (pc := 142) (len_s := 1) rfl hk t_s
/-- ColdShodModel.settled()I, from 0 on -/
theorem sg_200_0 {F_s : Nat}  {h_s : zH} {K_s : Int32 → zH → Prop} (hk : hKn h_s) (t_s : wF F_s 200 (2, [some (.ref 102), some (.int 0), none, none, none, none], [], h_s) (gI K_s)) : wF (F_s + 1) 200 (0, [some (.ref 102), none, none, none, none, none], [], h_s) (gI K_s) := by
  refine w_0 (pc := 0) (e_s := (0, 1, 0, 0, 0, .int 0, [])) (y_s := (1, [some (.ref _), none, none, none, none, none], [.int _], _)) rfl (u_ rfl) ?_
  refine w_t (pc := 1) (e_s := (4, 1, 1, 0, 0, .null, [])) (y_s := (2, [some (.ref _), some (.int _), none, none, none, none], [], _)) rfl (u_ rfl) ?_
  exact t_s
/-- ColdShodModel.settled()I, from 2 on -/
theorem sg_200_2 {F_s : Nat} {x1_s : Int32} {l2 l3 l4 l5 : Option Value} {h_s : zH} {K_s : Int32 → zH → Prop} (hk : hKn h_s) (t_s : (x1_s.toInt < (h_s.2.1 102 7).toInt → (zix (60 + x1_s) < 104 → (zix x1_s < 8 → wF F_s 200 (2, [some (.ref 102), some (.int (x1_s + 1)), l2, l3, l4, l5], [], (h_s.1, zup h_s.2.1 116 (zix x1_s) (h_s.2.1 103 (zix (60 + x1_s))), h_s.2.2.1, h_s.2.2.2)) (gI K_s)))) ∧ (¬ x1_s.toInt < (h_s.2.1 102 7).toInt → wF F_s 200 (33, [some (.ref 102), some (.int 0), l2, l3, l4, l5], [], h_s) (gI K_s))) : wF (F_s + 1) 200 (2, [some (.ref 102), some (.int x1_s), l2, l3, l4, l5], [], h_s) (gI K_s) := by
  refine w_0 (pc := 2) (e_s := (1, 1, 1, 0, 0, .null, [])) (y_s := (3, [some (.ref _), some (.int _), _, _, _, _], [.int _], _)) rfl (u_ rfl) ?_
  refine w_t (pc := 3) (e_s := (3, 1, 0, 0, 0, .null, [])) (y_s := (4, [some (.ref _), some (.int _), _, _, _, _], [.ref _, .int _], _)) rfl (u_ rfl) ?_
  refine w20 (pc := 4) (len_s := 3) rfl ?_
  refine wi3 (pc := 7) (len_s := 3) rfl rfl rfl (fun c1_s => ?_) (fun c1_s => ?_)
  · replace t_s := t_s.1 c1_s
    refine w_t (pc := 10) (e_s := (3, 1, 0, 0, 0, .null, [])) (y_s := (11, [some (.ref _), some (.int _), _, _, _, _], [.ref _], _)) rfl (u_ rfl) ?_
    refine w20r (pc := 11) (len_s := 3) (q_s := 116) rfl (krq hk rfl) ?_
    refine w_t (pc := 14) (e_s := (1, 1, 1, 0, 0, .null, [])) (y_s := (15, [some (.ref _), some (.int _), _, _, _, _], [.int _, .ref _], _)) rfl (u_ rfl) ?_
    refine w_t (pc := 15) (e_s := (3, 1, 0, 0, 0, .null, [])) (y_s := (16, [some (.ref _), some (.int _), _, _, _, _], [.ref _, .int _, .ref _], _)) rfl (u_ rfl) ?_
    refine w20r (pc := 16) (len_s := 3) (q_s := 103) rfl (krq hk rfl) ?_
    refine w_t (pc := 19) (e_s := (0, 2, 0, 0, 0, .int 60, [])) (y_s := (21, [some (.ref _), some (.int _), _, _, _, _], [.int _, .ref _, .int _, .ref _], _)) rfl (u_ rfl) ?_
    refine w_t (pc := 21) (e_s := (1, 1, 1, 0, 0, .null, [])) (y_s := (22, [some (.ref _), some (.int _), _, _, _, _], [.int _, .int _, .ref _, .int _, .ref _], _)) rfl (u_ rfl) ?_
    refine w_t (pc := 22) (e_s := (7, 1, 0, 0, 0, .null, [])) (y_s := (23, [some (.ref _), some (.int _), _, _, _, _], [.int (_ + _), .ref _, .int _, .ref _], _)) rfl (u_ rfl) ?_
    refine w22 (pc := 23) (len_s := 1) rfl (hk.1 103 0 104 rfl rfl) (fun c2_s => ?_)
    replace t_s := t_s c2_s
    refine w25 (pc := 24) (len_s := 1) rfl (hk.1 116 0 8 rfl rfl) (fun c3_s => ?_)
    replace t_s := t_s c3_s
    refine w_t (pc := 25) (e_s := (19, 3, 1, 0, 0, .int 1, [])) (y_s := (28, [some (.ref _), some (.int _), _, _, _, _], [], _)) rfl (u_ rfl) ?_
    refine w_t (pc := 28) (e_s := (17, 3, 2, 0, 0, .null, [])) (y_s := (2, [some (.ref _), some (.int _), _, _, _, _], [], _)) rfl (u_ rfl) ?_
    exact t_s
  · replace t_s := t_s.2 c1_s
    refine w_t (pc := 31) (e_s := (0, 1, 0, 0, 0, .int 0, [])) (y_s := (32, [some (.ref _), some (.int _), _, _, _, _], [.int _], _)) rfl (u_ rfl) ?_
    refine w_t (pc := 32) (e_s := (4, 1, 1, 0, 0, .null, [])) (y_s := (33, [some (.ref _), some (.int _), _, _, _, _], [], _)) rfl (u_ rfl) ?_
    exact t_s
/-- ColdShodModel.settled()I, from 33 on -/
theorem sg_200_33 {F_s : Nat} {x1_s : Int32} {l2 l3 l4 l5 : Option Value} {h_s : zH} {K_s : Int32 → zH → Prop} (hk : hKn h_s) (t_s : (x1_s.toInt < (h_s.2.1 102 7).toInt → wF F_s 200 (43, [some (.ref 102), some (.int x1_s), some (.int 0), l3, l4, l5], [], h_s) (gI K_s)) ∧ (¬ x1_s.toInt < (h_s.2.1 102 7).toInt → wF F_s 200 (88, [some (.ref 102), some (.int 0), l2, l3, l4, l5], [], h_s) (gI K_s))) : wF (F_s + 1) 200 (33, [some (.ref 102), some (.int x1_s), l2, l3, l4, l5], [], h_s) (gI K_s) := by
  refine w_0 (pc := 33) (e_s := (1, 1, 1, 0, 0, .null, [])) (y_s := (34, [some (.ref _), some (.int _), _, _, _, _], [.int _], _)) rfl (u_ rfl) ?_
  refine w_t (pc := 34) (e_s := (3, 1, 0, 0, 0, .null, [])) (y_s := (35, [some (.ref _), some (.int _), _, _, _, _], [.ref _, .int _], _)) rfl (u_ rfl) ?_
  refine w20 (pc := 35) (len_s := 3) rfl ?_
  refine wi3 (pc := 38) (len_s := 3) rfl rfl rfl (fun c1_s => ?_) (fun c1_s => ?_)
  · replace t_s := t_s.1 c1_s
    refine w_t (pc := 41) (e_s := (0, 1, 0, 0, 0, .int 0, [])) (y_s := (42, [some (.ref _), some (.int _), _, _, _, _], [.int _], _)) rfl (u_ rfl) ?_
    refine w_t (pc := 42) (e_s := (4, 1, 2, 0, 0, .null, [])) (y_s := (43, [some (.ref _), some (.int _), some (.int _), _, _, _], [], _)) rfl (u_ rfl) ?_
    exact t_s
  · replace t_s := t_s.2 c1_s
    refine w_t (pc := 86) (e_s := (0, 1, 0, 0, 0, .int 0, [])) (y_s := (87, [some (.ref _), some (.int _), _, _, _, _], [.int _], _)) rfl (u_ rfl) ?_
    refine w_t (pc := 87) (e_s := (4, 1, 1, 0, 0, .null, [])) (y_s := (88, [some (.ref _), some (.int _), _, _, _, _], [], _)) rfl (u_ rfl) ?_
    exact t_s
/-- ColdShodModel.settled()I, from 43 on -/
theorem sg_200_43 {F_s : Nat} {x1_s x2_s : Int32} {l3 l4 l5 : Option Value} {h_s : zH} {K_s : Int32 → zH → Prop} (hk : hKn h_s) (t_s : (x2_s.toInt < x1_s.toInt → (zix x1_s < 8 → ((h_s.2.1 116 (zix x1_s)).toInt < 0 → wF F_s 200 (43, [some (.ref 102), some (.int x1_s), some (.int (x2_s + 1)), l3, l4, l5], [], h_s) (gI K_s)) ∧ (¬ (h_s.2.1 116 (zix x1_s)).toInt < 0 → (zix x2_s < 8 → ((h_s.2.1 116 (zix x1_s)).toInt = (h_s.2.1 116 (zix x2_s)).toInt → K_s 0 h_s) ∧ (¬ (h_s.2.1 116 (zix x1_s)).toInt = (h_s.2.1 116 (zix x2_s)).toInt → wF F_s 200 (43, [some (.ref 102), some (.int x1_s), some (.int (x2_s + 1)), l3, l4, l5], [], h_s) (gI K_s)))))) ∧ (¬ x2_s.toInt < x1_s.toInt → wF F_s 200 (33, [some (.ref 102), some (.int (x1_s + 1)), some (.int x2_s), l3, l4, l5], [], h_s) (gI K_s))) : wF (F_s + 1) 200 (43, [some (.ref 102), some (.int x1_s), some (.int x2_s), l3, l4, l5], [], h_s) (gI K_s) := by
  refine w_0 (pc := 43) (e_s := (1, 1, 2, 0, 0, .null, [])) (y_s := (44, [some (.ref _), some (.int _), some (.int _), _, _, _], [.int _], _)) rfl (u_ rfl) ?_
  refine w_t (pc := 44) (e_s := (1, 1, 1, 0, 0, .null, [])) (y_s := (45, [some (.ref _), some (.int _), some (.int _), _, _, _], [.int _, .int _], _)) rfl (u_ rfl) ?_
  refine wi3 (pc := 45) (len_s := 3) rfl rfl rfl (fun c1_s => ?_) (fun c1_s => ?_)
  · replace t_s := t_s.1 c1_s
    refine w_t (pc := 48) (e_s := (3, 1, 0, 0, 0, .null, [])) (y_s := (49, [some (.ref _), some (.int _), some (.int _), _, _, _], [.ref _], _)) rfl (u_ rfl) ?_
    refine w20r (pc := 49) (len_s := 3) (q_s := 116) rfl (krq hk rfl) ?_
    refine w_t (pc := 52) (e_s := (1, 1, 1, 0, 0, .null, [])) (y_s := (53, [some (.ref _), some (.int _), some (.int _), _, _, _], [.int _, .ref _], _)) rfl (u_ rfl) ?_
    refine w22 (pc := 53) (len_s := 1) rfl (hk.1 116 0 8 rfl rfl) (fun c2_s => ?_)
    replace t_s := t_s c2_s
    refine wq2 (pc := 54) (len_s := 3) rfl rfl (fun c3_s => ?_) (fun c3_s => ?_)
    · replace t_s := t_s.1 c3_s
      refine w_t (pc := 74) (e_s := (19, 3, 2, 0, 0, .int 1, [])) (y_s := (77, [some (.ref _), some (.int _), some (.int _), _, _, _], [], _)) rfl (u_ rfl) ?_
      refine w_t (pc := 77) (e_s := (17, 3, 43, 0, 0, .null, [])) (y_s := (43, [some (.ref _), some (.int _), some (.int _), _, _, _], [], _)) rfl (u_ rfl) ?_
      exact t_s
    · replace t_s := t_s.2 c3_s
      refine w_t (pc := 57) (e_s := (3, 1, 0, 0, 0, .null, [])) (y_s := (58, [some (.ref _), some (.int _), some (.int _), _, _, _], [.ref _], _)) rfl (u_ rfl) ?_
      refine w20r (pc := 58) (len_s := 3) (q_s := 116) rfl (krq hk rfl) ?_
      refine w_t (pc := 61) (e_s := (1, 1, 1, 0, 0, .null, [])) (y_s := (62, [some (.ref _), some (.int _), some (.int _), _, _, _], [.int _, .ref _], _)) rfl (u_ rfl) ?_
      refine w22 (pc := 62) (len_s := 1) rfl (hk.1 116 0 8 rfl rfl) (fun c4_s => ?_)
      refine w_t (pc := 63) (e_s := (3, 1, 0, 0, 0, .null, [])) (y_s := (64, [some (.ref _), some (.int _), some (.int _), _, _, _], [.ref _, .int _], _)) rfl (u_ rfl) ?_
      refine w20r (pc := 64) (len_s := 3) (q_s := 116) rfl (krq hk rfl) ?_
      refine w_t (pc := 67) (e_s := (1, 1, 2, 0, 0, .null, [])) (y_s := (68, [some (.ref _), some (.int _), some (.int _), _, _, _], [.int _, .ref _, .int _], _)) rfl (u_ rfl) ?_
      refine w22 (pc := 68) (len_s := 1) rfl (hk.1 116 0 8 rfl rfl) (fun c5_s => ?_)
      replace t_s := t_s c5_s
      refine wi1 (pc := 69) (len_s := 3) rfl rfl rfl (fun c6_s => ?_) (fun c6_s => ?_)
      · replace t_s := t_s.1 c6_s
        refine w_t (pc := 72) (e_s := (0, 1, 0, 0, 0, .int 0, [])) (y_s := (73, [some (.ref _), some (.int _), some (.int _), _, _, _], [.int _], _)) rfl (u_ rfl) ?_
        exact wrI (pc := 73) (len_s := 1) rfl hk t_s
      · replace t_s := t_s.2 c6_s
        refine w_t (pc := 74) (e_s := (19, 3, 2, 0, 0, .int 1, [])) (y_s := (77, [some (.ref _), some (.int _), some (.int _), _, _, _], [], _)) rfl (u_ rfl) ?_
        refine w_t (pc := 77) (e_s := (17, 3, 43, 0, 0, .null, [])) (y_s := (43, [some (.ref _), some (.int _), some (.int _), _, _, _], [], _)) rfl (u_ rfl) ?_
        exact t_s
  · replace t_s := t_s.2 c1_s
    refine w_t (pc := 80) (e_s := (19, 3, 1, 0, 0, .int 1, [])) (y_s := (83, [some (.ref _), some (.int _), some (.int _), _, _, _], [], _)) rfl (u_ rfl) ?_
    refine w_t (pc := 83) (e_s := (17, 3, 33, 0, 0, .null, [])) (y_s := (33, [some (.ref _), some (.int _), some (.int _), _, _, _], [], _)) rfl (u_ rfl) ?_
    exact t_s
/-- ColdShodModel.settled()I, from 88 on -/
theorem sg_200_88 {F_s : Nat} {x1_s : Int32} {l2 l3 l4 l5 : Option Value} {h_s : zH} {K_s : Int32 → zH → Prop} (hk : hKn h_s) (t_s : (x1_s.toInt < (h_s.2.1 102 6).toInt → wF F_s 197 (0, [some (.ref 102), some (.int x1_s), none], [], h_s) (gI (fun v2 h2 => hKn h2 → wF F_s 200 (104, [some (.ref 102), some (.int x1_s), some (.int v2), some (.int 0), l4, l5], [], h2) (gI K_s)))) ∧ (¬ x1_s.toInt < (h_s.2.1 102 6).toInt → K_s 1 h_s)) : wF (F_s + 1) 200 (88, [some (.ref 102), some (.int x1_s), l2, l3, l4, l5], [], h_s) (gI K_s) := by
  refine w_0 (pc := 88) (e_s := (1, 1, 1, 0, 0, .null, [])) (y_s := (89, [some (.ref _), some (.int _), _, _, _, _], [.int _], _)) rfl (u_ rfl) ?_
  refine w_t (pc := 89) (e_s := (3, 1, 0, 0, 0, .null, [])) (y_s := (90, [some (.ref _), some (.int _), _, _, _, _], [.ref _, .int _], _)) rfl (u_ rfl) ?_
  refine w20 (pc := 90) (len_s := 3) rfl ?_
  refine wi3 (pc := 93) (len_s := 3) rfl rfl rfl (fun c1_s => ?_) (fun c1_s => ?_)
  · replace t_s := t_s.1 c1_s
    refine w_t (pc := 96) (e_s := (3, 1, 0, 0, 0, .null, [])) (y_s := (97, [some (.ref _), some (.int _), _, _, _, _], [.ref _], _)) rfl (u_ rfl) ?_
    refine w_t (pc := 97) (e_s := (1, 1, 1, 0, 0, .null, [])) (y_s := (98, [some (.ref _), some (.int _), _, _, _, _], [.int _, .ref _], _)) rfl (u_ rfl) ?_
    refine wcI (pc := 98) (len_s := 3) rfl rfl (l := [some (.ref _), some (.int _), none]) rfl (wmI t_s (fun v2 h2 hk t_s => ?_))
    replace t_s := t_s hk
    refine w_t (pc := 101) (e_s := (4, 1, 2, 0, 0, .null, [])) (y_s := (102, [some (.ref _), some (.int _), some (.int _), _, _, _], [], _)) rfl (u_ rfl) ?_
    refine w_t (pc := 102) (e_s := (0, 1, 0, 0, 0, .int 0, [])) (y_s := (103, [some (.ref _), some (.int _), some (.int _), _, _, _], [.int _], _)) rfl (u_ rfl) ?_
    refine w_t (pc := 103) (e_s := (4, 1, 3, 0, 0, .null, [])) (y_s := (104, [some (.ref _), some (.int _), some (.int _), some (.int _), _, _], [], _)) rfl (u_ rfl) ?_
    exact t_s
  · replace t_s := t_s.2 c1_s
    refine w_t (pc := 202) (e_s := (0, 1, 0, 0, 0, .int 1, [])) (y_s := (203, [some (.ref _), some (.int _), _, _, _, _], [.int _], _)) rfl (u_ rfl) ?_
    exact wrI (pc := 203) (len_s := 1) rfl hk t_s
/-- ColdShodModel.settled()I, from 104 on -/
theorem sg_200_104 {F_s : Nat} {x1_s x2_s x3 : Int32} {l4 l5 : Option Value} {h_s : zH} {K_s : Int32 → zH → Prop} (hk : hKn h_s) (t_s : (x3.toInt < (h_s.2.1 102 7).toInt → ((x2_s.toInt < 0 → wF F_s 200 (138, [some (.ref 102), some (.int x1_s), some (.int x2_s), some (.int x3), some (.int 1), l5], [], h_s) (gI K_s)) ∧ (¬ x2_s.toInt < 0 → ((x2_s.toInt = x3.toInt → wF F_s 200 (138, [some (.ref 102), some (.int x1_s), some (.int x2_s), some (.int x3), some (.int 0), l5], [], h_s) (gI K_s)) ∧ (¬ x2_s.toInt = x3.toInt → wF F_s 195 (0, [some (.ref 102), some (.int x1_s), some (.int x3), some (.int x2_s), none, none], [], h_s) (gI (fun v4_s h4 => hKn h4 → (v4_s.toInt = 0 → wF F_s 200 (138, [some (.ref 102), some (.int x1_s), some (.int x2_s), some (.int x3), some (.int 0), l5], [], h4) (gI K_s)) ∧ (¬ v4_s.toInt = 0 → wF F_s 200 (138, [some (.ref 102), some (.int x1_s), some (.int x2_s), some (.int x3), some (.int 1), l5], [], h4) (gI K_s))))))))) ∧ (¬ x3.toInt < (h_s.2.1 102 7).toInt → wF F_s 200 (88, [some (.ref 102), some (.int (x1_s + 1)), some (.int x2_s), some (.int x3), l4, l5], [], h_s) (gI K_s))) : wF (F_s + 1) 200 (104, [some (.ref 102), some (.int x1_s), some (.int x2_s), some (.int x3), l4, l5], [], h_s) (gI K_s) := by
  refine w_0 (pc := 104) (e_s := (1, 1, 3, 0, 0, .null, [])) (y_s := (105, [some (.ref _), some (.int _), some (.int _), some (.int _), _, _], [.int _], _)) rfl (u_ rfl) ?_
  refine w_t (pc := 105) (e_s := (3, 1, 0, 0, 0, .null, [])) (y_s := (106, [some (.ref _), some (.int _), some (.int _), some (.int _), _, _], [.ref _, .int _], _)) rfl (u_ rfl) ?_
  refine w20 (pc := 106) (len_s := 3) rfl ?_
  refine wi3 (pc := 109) (len_s := 3) rfl rfl rfl (fun c1_s => ?_) (fun c1_s => ?_)
  · replace t_s := t_s.1 c1_s
    refine w_t (pc := 112) (e_s := (1, 1, 2, 0, 0, .null, [])) (y_s := (113, [some (.ref _), some (.int _), some (.int _), some (.int _), _, _], [.int _], _)) rfl (u_ rfl) ?_
    refine wq2 (pc := 113) (len_s := 3) rfl rfl (fun c2_s => ?_) (fun c2_s => ?_)
    · replace t_s := t_s.1 c2_s
      refine w_t (pc := 131) (e_s := (0, 1, 0, 0, 0, .int 1, [])) (y_s := (132, [some (.ref _), some (.int _), some (.int _), some (.int _), _, _], [.int _], _)) rfl (u_ rfl) ?_
      refine w_t (pc := 132) (e_s := (17, 3, 136, 0, 0, .null, [])) (y_s := (136, [some (.ref _), some (.int _), some (.int _), some (.int _), _, _], [.int _], _)) rfl (u_ rfl) ?_
      refine w_t (pc := 136) (e_s := (4, 2, 4, 0, 0, .null, [])) (y_s := (138, [some (.ref _), some (.int _), some (.int _), some (.int _), some (.int _), _], [], _)) rfl (u_ rfl) ?_
      exact t_s
    · replace t_s := t_s.2 c2_s
      refine w_t (pc := 116) (e_s := (1, 1, 2, 0, 0, .null, [])) (y_s := (117, [some (.ref _), some (.int _), some (.int _), some (.int _), _, _], [.int _], _)) rfl (u_ rfl) ?_
      refine w_t (pc := 117) (e_s := (1, 1, 3, 0, 0, .null, [])) (y_s := (118, [some (.ref _), some (.int _), some (.int _), some (.int _), _, _], [.int _, .int _], _)) rfl (u_ rfl) ?_
      refine wi0 (pc := 118) (len_s := 3) rfl rfl rfl (fun c3_s => ?_) (fun c3_s => ?_)
      · replace t_s := t_s.1 c3_s
        refine w_t (pc := 135) (e_s := (0, 1, 0, 0, 0, .int 0, [])) (y_s := (136, [some (.ref _), some (.int _), some (.int _), some (.int _), _, _], [.int _], _)) rfl (u_ rfl) ?_
        refine w_t (pc := 136) (e_s := (4, 2, 4, 0, 0, .null, [])) (y_s := (138, [some (.ref _), some (.int _), some (.int _), some (.int _), some (.int _), _], [], _)) rfl (u_ rfl) ?_
        exact t_s
      · replace t_s := t_s.2 c3_s
        refine w_t (pc := 121) (e_s := (3, 1, 0, 0, 0, .null, [])) (y_s := (122, [some (.ref _), some (.int _), some (.int _), some (.int _), _, _], [.ref _], _)) rfl (u_ rfl) ?_
        refine w_t (pc := 122) (e_s := (1, 1, 1, 0, 0, .null, [])) (y_s := (123, [some (.ref _), some (.int _), some (.int _), some (.int _), _, _], [.int _, .ref _], _)) rfl (u_ rfl) ?_
        refine w_t (pc := 123) (e_s := (1, 1, 3, 0, 0, .null, [])) (y_s := (124, [some (.ref _), some (.int _), some (.int _), some (.int _), _, _], [.int _, .int _, .ref _], _)) rfl (u_ rfl) ?_
        refine w_t (pc := 124) (e_s := (1, 1, 2, 0, 0, .null, [])) (y_s := (125, [some (.ref _), some (.int _), some (.int _), some (.int _), _, _], [.int _, .int _, .int _, .ref _], _)) rfl (u_ rfl) ?_
        refine wcI (pc := 125) (len_s := 3) rfl rfl (l := [some (.ref _), some (.int _), some (.int _), some (.int _), none, none]) rfl (wmI t_s (fun v4_s h4 hk t_s => ?_))
        replace t_s := t_s hk
        refine wq0 (pc := 128) (len_s := 3) rfl rfl (fun c5_s => ?_) (fun c5_s => ?_)
        · replace t_s := t_s.1 c5_s
          refine w_t (pc := 135) (e_s := (0, 1, 0, 0, 0, .int 0, [])) (y_s := (136, [some (.ref _), some (.int _), some (.int _), some (.int _), _, _], [.int _], _)) rfl (u_ rfl) ?_
          refine w_t (pc := 136) (e_s := (4, 2, 4, 0, 0, .null, [])) (y_s := (138, [some (.ref _), some (.int _), some (.int _), some (.int _), some (.int _), _], [], _)) rfl (u_ rfl) ?_
          exact t_s
        · replace t_s := t_s.2 c5_s
          refine w_t (pc := 131) (e_s := (0, 1, 0, 0, 0, .int 1, [])) (y_s := (132, [some (.ref _), some (.int _), some (.int _), some (.int _), _, _], [.int _], _)) rfl (u_ rfl) ?_
          refine w_t (pc := 132) (e_s := (17, 3, 136, 0, 0, .null, [])) (y_s := (136, [some (.ref _), some (.int _), some (.int _), some (.int _), _, _], [.int _], _)) rfl (u_ rfl) ?_
          refine w_t (pc := 136) (e_s := (4, 2, 4, 0, 0, .null, [])) (y_s := (138, [some (.ref _), some (.int _), some (.int _), some (.int _), some (.int _), _], [], _)) rfl (u_ rfl) ?_
          exact t_s
  · replace t_s := t_s.2 c1_s
    refine w_t (pc := 196) (e_s := (19, 3, 1, 0, 0, .int 1, [])) (y_s := (199, [some (.ref _), some (.int _), some (.int _), some (.int _), _, _], [], _)) rfl (u_ rfl) ?_
    refine w_t (pc := 199) (e_s := (17, 3, 88, 0, 0, .null, [])) (y_s := (88, [some (.ref _), some (.int _), some (.int _), some (.int _), _, _], [], _)) rfl (u_ rfl) ?_
    exact t_s
/-- ColdShodModel.settled()I, from 138 on -/
theorem sg_200_138 {F_s : Nat} {x1_s x2_s x3 x4_s : Int32} {l5 : Option Value} {h_s : zH} {K_s : Int32 → zH → Prop} (hk : hKn h_s) (t_s : (zix x3 < 8 → ((h_s.2.1 116 (zix x3)).toInt < 0 → wF F_s 200 (178, [some (.ref 102), some (.int x1_s), some (.int x2_s), some (.int x3), some (.int x4_s), some (.int 1)], [], h_s) (gI K_s)) ∧ (¬ (h_s.2.1 116 (zix x3)).toInt < 0 → (((h_s.2.1 116 (zix x3)).toInt = x1_s.toInt → wF F_s 200 (178, [some (.ref 102), some (.int x1_s), some (.int x2_s), some (.int x3), some (.int x4_s), some (.int 0)], [], h_s) (gI K_s)) ∧ (¬ (h_s.2.1 116 (zix x3)).toInt = x1_s.toInt → wF F_s 196 (0, [some (.ref 102), some (.int x1_s), some (.int (h_s.2.1 116 (zix x3)))], [], h_s) (gI (fun v6 h6 => hKn h6 → (v6.toInt = 0 → wF F_s 200 (178, [some (.ref 102), some (.int x1_s), some (.int x2_s), some (.int x3), some (.int x4_s), some (.int 0)], [], h6) (gI K_s)) ∧ (¬ v6.toInt = 0 → wF F_s 200 (178, [some (.ref 102), some (.int x1_s), some (.int x2_s), some (.int x3), some (.int x4_s), some (.int 1)], [], h6) (gI K_s))))))))) : wF (F_s + 1) 200 (138, [some (.ref 102), some (.int x1_s), some (.int x2_s), some (.int x3), some (.int x4_s), l5], [], h_s) (gI K_s) := by
  refine w_0 (pc := 138) (e_s := (3, 1, 0, 0, 0, .null, [])) (y_s := (139, [some (.ref _), some (.int _), some (.int _), some (.int _), some (.int _), _], [.ref _], _)) rfl (u_ rfl) ?_
  refine w20r (pc := 139) (len_s := 3) (q_s := 116) rfl (krq hk rfl) ?_
  refine w_t (pc := 142) (e_s := (1, 1, 3, 0, 0, .null, [])) (y_s := (143, [some (.ref _), some (.int _), some (.int _), some (.int _), some (.int _), _], [.int _, .ref _], _)) rfl (u_ rfl) ?_
  refine w22 (pc := 143) (len_s := 1) rfl (hk.1 116 0 8 rfl rfl) (fun c1_s => ?_)
  replace t_s := t_s c1_s
  refine wq2 (pc := 144) (len_s := 3) rfl rfl (fun c2_s => ?_) (fun c2_s => ?_)
  · replace t_s := t_s.1 c2_s
    refine w_t (pc := 171) (e_s := (0, 1, 0, 0, 0, .int 1, [])) (y_s := (172, [some (.ref _), some (.int _), some (.int _), some (.int _), some (.int _), _], [.int _], _)) rfl (u_ rfl) ?_
    refine w_t (pc := 172) (e_s := (17, 3, 176, 0, 0, .null, [])) (y_s := (176, [some (.ref _), some (.int _), some (.int _), some (.int _), some (.int _), _], [.int _], _)) rfl (u_ rfl) ?_
    refine w_t (pc := 176) (e_s := (4, 2, 5, 0, 0, .null, [])) (y_s := (178, [some (.ref _), some (.int _), some (.int _), some (.int _), some (.int _), some (.int _)], [], _)) rfl (u_ rfl) ?_
    exact t_s
  · replace t_s := t_s.2 c2_s
    refine w_t (pc := 147) (e_s := (3, 1, 0, 0, 0, .null, [])) (y_s := (148, [some (.ref _), some (.int _), some (.int _), some (.int _), some (.int _), _], [.ref _], _)) rfl (u_ rfl) ?_
    refine w20r (pc := 148) (len_s := 3) (q_s := 116) rfl (krq hk rfl) ?_
    refine w_t (pc := 151) (e_s := (1, 1, 3, 0, 0, .null, [])) (y_s := (152, [some (.ref _), some (.int _), some (.int _), some (.int _), some (.int _), _], [.int _, .ref _], _)) rfl (u_ rfl) ?_
    refine w22 (pc := 152) (len_s := 1) rfl (hk.1 116 0 8 rfl rfl) (fun c3_s => ?_)
    refine w_t (pc := 153) (e_s := (1, 1, 1, 0, 0, .null, [])) (y_s := (154, [some (.ref _), some (.int _), some (.int _), some (.int _), some (.int _), _], [.int _, .int _], _)) rfl (u_ rfl) ?_
    refine wi0 (pc := 154) (len_s := 3) rfl rfl rfl (fun c4_s => ?_) (fun c4_s => ?_)
    · replace t_s := t_s.1 c4_s
      refine w_t (pc := 175) (e_s := (0, 1, 0, 0, 0, .int 0, [])) (y_s := (176, [some (.ref _), some (.int _), some (.int _), some (.int _), some (.int _), _], [.int _], _)) rfl (u_ rfl) ?_
      refine w_t (pc := 176) (e_s := (4, 2, 5, 0, 0, .null, [])) (y_s := (178, [some (.ref _), some (.int _), some (.int _), some (.int _), some (.int _), some (.int _)], [], _)) rfl (u_ rfl) ?_
      exact t_s
    · replace t_s := t_s.2 c4_s
      refine w_t (pc := 157) (e_s := (3, 1, 0, 0, 0, .null, [])) (y_s := (158, [some (.ref _), some (.int _), some (.int _), some (.int _), some (.int _), _], [.ref _], _)) rfl (u_ rfl) ?_
      refine w_t (pc := 158) (e_s := (1, 1, 1, 0, 0, .null, [])) (y_s := (159, [some (.ref _), some (.int _), some (.int _), some (.int _), some (.int _), _], [.int _, .ref _], _)) rfl (u_ rfl) ?_
      refine w_t (pc := 159) (e_s := (3, 1, 0, 0, 0, .null, [])) (y_s := (160, [some (.ref _), some (.int _), some (.int _), some (.int _), some (.int _), _], [.ref _, .int _, .ref _], _)) rfl (u_ rfl) ?_
      refine w20r (pc := 160) (len_s := 3) (q_s := 116) rfl (krq hk rfl) ?_
      refine w_t (pc := 163) (e_s := (1, 1, 3, 0, 0, .null, [])) (y_s := (164, [some (.ref _), some (.int _), some (.int _), some (.int _), some (.int _), _], [.int _, .ref _, .int _, .ref _], _)) rfl (u_ rfl) ?_
      refine w22 (pc := 164) (len_s := 1) rfl (hk.1 116 0 8 rfl rfl) (fun c5_s => ?_)
      refine wcI (pc := 165) (len_s := 3) rfl rfl (l := [some (.ref _), some (.int _), some (.int _)]) rfl (wmI t_s (fun v6 h6 hk t_s => ?_))
      replace t_s := t_s hk
      refine wq0 (pc := 168) (len_s := 3) rfl rfl (fun c7_s => ?_) (fun c7_s => ?_)
      · replace t_s := t_s.1 c7_s
        refine w_t (pc := 175) (e_s := (0, 1, 0, 0, 0, .int 0, [])) (y_s := (176, [some (.ref _), some (.int _), some (.int _), some (.int _), some (.int _), _], [.int _], _)) rfl (u_ rfl) ?_
        refine w_t (pc := 176) (e_s := (4, 2, 5, 0, 0, .null, [])) (y_s := (178, [some (.ref _), some (.int _), some (.int _), some (.int _), some (.int _), some (.int _)], [], _)) rfl (u_ rfl) ?_
        exact t_s
      · replace t_s := t_s.2 c7_s
        refine w_t (pc := 171) (e_s := (0, 1, 0, 0, 0, .int 1, [])) (y_s := (172, [some (.ref _), some (.int _), some (.int _), some (.int _), some (.int _), _], [.int _], _)) rfl (u_ rfl) ?_
        refine w_t (pc := 172) (e_s := (17, 3, 176, 0, 0, .null, [])) (y_s := (176, [some (.ref _), some (.int _), some (.int _), some (.int _), some (.int _), _], [.int _], _)) rfl (u_ rfl) ?_
        refine w_t (pc := 176) (e_s := (4, 2, 5, 0, 0, .null, [])) (y_s := (178, [some (.ref _), some (.int _), some (.int _), some (.int _), some (.int _), some (.int _)], [], _)) rfl (u_ rfl) ?_
        exact t_s
/-- ColdShodModel.settled()I, from 178 on -/
theorem sg_200_178 {F_s : Nat} {x1_s x2_s x3 x4_s x5_s : Int32} {h_s : zH} {K_s : Int32 → zH → Prop} (hk : hKn h_s) (t_s : (x4_s.toInt = 0 → wF F_s 200 (104, [some (.ref 102), some (.int x1_s), some (.int x2_s), some (.int (x3 + 1)), some (.int x4_s), some (.int x5_s)], [], h_s) (gI K_s)) ∧ (¬ x4_s.toInt = 0 → ((x5_s.toInt = 0 → wF F_s 200 (104, [some (.ref 102), some (.int x1_s), some (.int x2_s), some (.int (x3 + 1)), some (.int x4_s), some (.int x5_s)], [], h_s) (gI K_s)) ∧ (¬ x5_s.toInt = 0 → K_s 0 h_s)))) : wF (F_s + 1) 200 (178, [some (.ref 102), some (.int x1_s), some (.int x2_s), some (.int x3), some (.int x4_s), some (.int x5_s)], [], h_s) (gI K_s) := by
  refine w_0 (pc := 178) (e_s := (1, 2, 4, 0, 0, .null, [])) (y_s := (180, [some (.ref _), some (.int _), some (.int _), some (.int _), some (.int _), some (.int _)], [.int _], _)) rfl (u_ rfl) ?_
  refine wq0 (pc := 180) (len_s := 3) rfl rfl (fun c1_s => ?_) (fun c1_s => ?_)
  · replace t_s := t_s.1 c1_s
    refine w_t (pc := 190) (e_s := (19, 3, 3, 0, 0, .int 1, [])) (y_s := (193, [some (.ref _), some (.int _), some (.int _), some (.int _), some (.int _), some (.int _)], [], _)) rfl (u_ rfl) ?_
    refine w_t (pc := 193) (e_s := (17, 3, 104, 0, 0, .null, [])) (y_s := (104, [some (.ref _), some (.int _), some (.int _), some (.int _), some (.int _), some (.int _)], [], _)) rfl (u_ rfl) ?_
    exact t_s
  · replace t_s := t_s.2 c1_s
    refine w_t (pc := 183) (e_s := (1, 2, 5, 0, 0, .null, [])) (y_s := (185, [some (.ref _), some (.int _), some (.int _), some (.int _), some (.int _), some (.int _)], [.int _], _)) rfl (u_ rfl) ?_
    refine wq0 (pc := 185) (len_s := 3) rfl rfl (fun c2_s => ?_) (fun c2_s => ?_)
    · replace t_s := t_s.1 c2_s
      refine w_t (pc := 190) (e_s := (19, 3, 3, 0, 0, .int 1, [])) (y_s := (193, [some (.ref _), some (.int _), some (.int _), some (.int _), some (.int _), some (.int _)], [], _)) rfl (u_ rfl) ?_
      refine w_t (pc := 193) (e_s := (17, 3, 104, 0, 0, .null, [])) (y_s := (104, [some (.ref _), some (.int _), some (.int _), some (.int _), some (.int _), some (.int _)], [], _)) rfl (u_ rfl) ?_
      exact t_s
    · replace t_s := t_s.2 c2_s
      refine w_t (pc := 188) (e_s := (0, 1, 0, 0, 0, .int 0, [])) (y_s := (189, [some (.ref _), some (.int _), some (.int _), some (.int _), some (.int _), some (.int _)], [.int _], _)) rfl (u_ rfl) ?_
      exact wrI (pc := 189) (len_s := 1) rfl hk t_s
/-! ASKS, SETTLED: class and reference. -/
section AQ
variable {h_s : zH} {x1_s : Int32}
theorem pr_asks {F_s : Nat} (hk : hKn h_s) (hx : tX h_s) : wF F_s 107 (0, [some (.ref 6), some (.int x1_s)], [], h_s) (gI (fun v_s h1 => wF F_s 199 (0, [some (.ref 102), some (.int x1_s)], [], h1) (gI (fun v2 _ => v_s = v2)))) := by
  obtain ⟨nh, ni, nr, hc_s, _, _, _, _, _⟩ := hx
  have b_s := hc_s.1
  have m0_s := tC_M hc_s
  have e6_s := hc_s.2.1.1
  have e26_s := sb1 m0_s.2.1.1
  have no_s : ¬ (0 ≤ x1_s.toInt ∧ x1_s.toInt < (nh : Int)) → wF F_s 199 (0, [some (.ref 102), some (.int x1_s)], [], h_s) (gI (fun v2 _ => (-1 : Int32) = v2)) := fun w_s => by
    refine wF_le (Nat.le_succ F_s) (sg_199_0 (h_s := h_s) hk ?_)
    rw [e26_s]
    exact ⟨fun _ => rfl, fun c1_s => ⟨fun _ => rfl, fun c2_s => absurd ⟨by omega, by omega⟩ w_s⟩⟩
  refine wF_le (Nat.le_succ F_s) (sg_107_0 (h_s := h_s) hk ?_)
  rw [e6_s]
  refine ⟨fun c1_s => no_s (by omega), fun c1_s => ⟨fun c2_s => ?_, fun c2_s => no_s (by omega)⟩⟩
  have z_s := azix (i := x1_s) (by omega)
  have hp : zix x1_s < nh := by omega
  refine sp_25 (f0_s := h_s.2.1) hk hc_s (fun f1_s S_s g1 hk1 => fun _ => ?_)
  dsimp only
  have g3_s : ∀ a_s k_s, 100 ≤ a_s → f1_s a_s k_s = h_s.2.1 a_s k_s := fun a_s k_s ha_s => g1 a_s k_s (by omega)
  have m1_s : tM nh ni nr f1_s := tM_fr (fun k_s _ _ => g3_s _ _ (by omega)) (fun k_s _ => g3_s _ _ (by omega)) m0_s
  have e261 := sb1 m1_s.2.1.1
  obtain ⟨ek, eh⟩ := ky_fr (f_s := f1_s) (f0_s := h_s.2.1) (fun k_s => g3_s 103 k_s (by omega))
  generalize zix x1_s = p_s at z_s hp
  refine wF_le (Nat.le_succ F_s) (sg_199_0 (h_s := (h_s.1, f1_s, h_s.2.2.1, h_s.2.2.2)) hk ?_)
  dsimp only
  rw [e261]
  refine ⟨fun c_s => absurd c_s (by omega), fun _ => ⟨fun c_s => absurd c_s (by omega), fun _ => ?_⟩⟩
  refine sp_198 (h_s := (h_s.1, f1_s, h_s.2.2.1, h_s.2.2.2)) (f0_s := f1_s) hk1 m1_s (fun f2_s fa G_s dn hk2 => ?_)
  rw [ek, eh] at G_s
  have T : ∀ i_s, i_s < ni → ((f1_s 12 p_s).toInt = (i_s : Int) ↔ hbF f2_s i_s = (p_s : Int)) := fun i_s hi_s => GS_SD (hk_inj m0_s) (hk_0 m0_s) G_s dn S_s ((hkI h_s.2.1 p_s).toNat + 1) p_s hp (by have := hk_0 m0_s p_s hp; omega) i_s hi_s
  have m2_s : tM nh ni nr f2_s := tM_fr (fun k_s _ _ => fa _ _ (by omega) (by omega)) (fun k_s _ => fa _ _ (by omega) (by omega)) m1_s
  have sd_s : (f1_s 12 p_s).toInt = -2 ∨ ∃ i_s : Nat, i_s < ni ∧ (f1_s 12 p_s).toInt = (i_s : Int) := by
    rcases S_s p_s hp with u_s | ⟨i_s, u1_s, u2_s, _⟩
    · exact Or.inl u_s.1
    · exact Or.inr ⟨i_s, u1_s, u2_s⟩
  refine sp_197 (h_s := (h_s.1, f2_s, h_s.2.2.1, h_s.2.2.2)) (f_s := f2_s) (p_s := p_s) hk2 m2_s (by omega) (fun v4_s hv _ => ⟨fun c_s => ?_, fun c_s => ?_⟩)
  · rcases hv with ⟨_, w_s⟩ | ⟨i_s, _, w_s, _⟩
    · rcases sd_s with u_s | ⟨i_s, u1_s, u2_s⟩
      · exact Int32.toInt_inj.mp u_s
      · exact absurd ((T i_s u1_s).mp u2_s) (w_s i_s u1_s)
    · omega
  · refine sp_197 (h_s := (h_s.1, f2_s, h_s.2.2.1, h_s.2.2.2)) (f_s := f2_s) (p_s := p_s) hk2 m2_s (by omega) (fun v6 hv6 _ => ?_)
    rcases hv6 with ⟨_, w_s⟩ | ⟨i_s, w0_s, w1_s, w2_s⟩
    · rcases hv with ⟨w4_s, _⟩ | ⟨i_s, w0_s, _, w2_s⟩
      · omega
      · exact absurd w2_s (w_s i_s w0_s)
    · exact Int32.toInt_inj.mp (((T i_s w0_s).mpr w2_s).trans w1_s.symm)
end AQ
noncomputable def unS (nh ni : Nat) (ky : Nat → Nat → Int) (hk hd_s : Nat → Int) (p_s d_s : Nat) : Prop := ¬ hd_s d_s = (p_s : Int) ∧ (∀ o, o < ni → hd_s o = (p_s : Int) → ky p_s d_s < ky p_s o) ∧ ∀ q_s : Nat, q_s < nh → hd_s d_s = (q_s : Int) → hk p_s < hk q_s
noncomputable def inS (n_s : Nat) (hd_s : Nat → Int) : Prop := ∀ i_s j_s, i_s < n_s → j_s < n_s → 0 ≤ hd_s i_s → hd_s i_s = hd_s j_s → i_s = j_s
noncomputable def stS (nh ni : Nat) (ky : Nat → Nat → Int) (hk hd_s : Nat → Int) : Prop := inS ni hd_s ∧ ∀ p_s d_s, p_s < nh → d_s < ni → ¬ unS nh ni ky hk hd_s p_s d_s
section SE_s
variable {h_s : zH} {K_s : Int32 → zH → Prop} {nh ni nr : Nat} {f0_s : Nat → Nat → Int32}
noncomputable def hdC (f_s : Nat → Nat → Int32) (i_s : Nat) : Int := (f_s (20 + i_s) 6).toInt
noncomputable def had1 (n_s : Nat) (hd_s : Nat → Int) (f_s : Nat → Nat → Int32) : Prop := ∀ p_s : Nat, p_s < 6 → ((f_s 12 p_s).toInt = -2 ∧ ∀ i_s, i_s < n_s → ¬ hd_s i_s = (p_s : Int)) ∨ ∃ i_s : Nat, i_s < n_s ∧ hd_s i_s = (p_s : Int) ∧ (f_s 12 p_s).toInt = (i_s : Int)
noncomputable def C68 (h_s : zH) (K_s : Int32 → zH → Prop) (nh ni : Nat) (f0_s : Nat → Nat → Int32) (F_s : Nat) : Prop := ∀ (x1_s : Int32) (l2 l3 : Option Value) (p_s : Nat) (f_s : Nat → Nat → Int32), (∀ a_s k_s, ¬ (a_s = 12 ∧ k_s < 6) → f_s a_s k_s = f0_s a_s k_s) → inS ni (hdC f0_s) → had1 ni (hdC f0_s) f_s → x1_s.toInt = (p_s : Int) → p_s ≤ nh → (∀ q_s d_s, q_s < p_s → d_s < ni → ¬ unS nh ni (kyI f0_s) (hkI f0_s) (hdC f0_s) q_s d_s) → wF F_s 30 (68, [some (.ref 7), some (.int x1_s), l2, l3], [], (h_s.1, f_s, h_s.2.2.1, h_s.2.2.2)) (gI K_s)
noncomputable def C78 (h_s : zH) (K_s : Int32 → zH → Prop) (nh ni : Nat) (f0_s : Nat → Nat → Int32) (F_s : Nat) : Prop := ∀ (x1_s x2_s : Int32) (l3 : Option Value) (p_s d_s : Nat) (f_s : Nat → Nat → Int32), (∀ a_s k_s, ¬ (a_s = 12 ∧ k_s < 6) → f_s a_s k_s = f0_s a_s k_s) → inS ni (hdC f0_s) → had1 ni (hdC f0_s) f_s → x1_s.toInt = (p_s : Int) → p_s < nh → x2_s.toInt = (d_s : Int) → d_s ≤ ni → (∀ q_s e_s, q_s < p_s → e_s < ni → ¬ unS nh ni (kyI f0_s) (hkI f0_s) (hdC f0_s) q_s e_s) → (∀ e_s, e_s < d_s → ¬ unS nh ni (kyI f0_s) (hkI f0_s) (hdC f0_s) p_s e_s) → wF F_s 30 (78, [some (.ref 7), some (.int x1_s), some (.int x2_s), l3], [], (h_s.1, f_s, h_s.2.2.1, h_s.2.2.2)) (gI K_s)
noncomputable def C105 (h_s : zH) (K_s : Int32 → zH → Prop) (nh ni : Nat) (f0_s : Nat → Nat → Int32) (F_s : Nat) : Prop := ∀ (x1_s x2_s x3 : Int32) (p_s d_s : Nat) (f_s : Nat → Nat → Int32), (∀ a_s k_s, ¬ (a_s = 12 ∧ k_s < 6) → f_s a_s k_s = f0_s a_s k_s) → inS ni (hdC f0_s) → had1 ni (hdC f0_s) f_s → x1_s.toInt = (p_s : Int) → p_s < nh → x2_s.toInt = (d_s : Int) → d_s < ni → (∀ q_s e_s, q_s < p_s → e_s < ni → ¬ unS nh ni (kyI f0_s) (hkI f0_s) (hdC f0_s) q_s e_s) → (∀ e_s, e_s < d_s → ¬ unS nh ni (kyI f0_s) (hkI f0_s) (hdC f0_s) p_s e_s) → (x3.toInt = 0 → hdC f0_s d_s = (p_s : Int)) → (¬ x3.toInt = 0 → ¬ hdC f0_s d_s = (p_s : Int)) → wF F_s 30 (105, [some (.ref 7), some (.int x1_s), some (.int x2_s), some (.int x3)], [], (h_s.1, f_s, h_s.2.2.1, h_s.2.2.2)) (gI K_s)
theorem c68_s {F_s : Nat} (hk : hKn h_s) (hc_s : tC nh ni nr f0_s) (t1_s : stS nh ni (kyI f0_s) (hkI f0_s) (hdC f0_s) → ∀ f1_s, (∀ a_s k_s, ¬ (a_s = 12 ∧ k_s < 6) → f1_s a_s k_s = f0_s a_s k_s) → K_s 1 (h_s.1, f1_s, h_s.2.2.1, h_s.2.2.2)) (i7_s : C78 h_s K_s nh ni f0_s F_s) : C68 h_s K_s nh ni f0_s (F_s + 1) := by
  intro x1_s l2 l3 p_s f_s g_s hi_s hh e1_s hp hu
  have e76 : f_s 7 6 = f0_s 7 6 := g_s 7 6 (by omega)
  refine sg_30_68 (h_s := (h_s.1, f_s, h_s.2.2.1, h_s.2.2.2)) hk ?_
  dsimp only
  rw [e76, hc_s.2.1.1, e1_s]
  refine ⟨fun c1_s => i7_s x1_s 0 l3 p_s 0 f_s g_s hi_s hh e1_s (by omega) rfl (Nat.zero_le _) hu (fun e_s he => absurd he (Nat.not_lt_zero e_s)), fun c1_s => t1_s ⟨hi_s, fun q_s d_s hq hd_s => hu q_s d_s (by omega) hd_s⟩ f_s g_s⟩
theorem c78_s {F_s : Nat} (hk : hKn h_s) (hc_s : tC nh ni nr f0_s) (i6_s : C68 h_s K_s nh ni f0_s F_s) (i1_s : C105 h_s K_s nh ni f0_s F_s) : C78 h_s K_s nh ni f0_s (F_s + 1) := by
  intro x1_s x2_s l3 p_s d_s f_s g_s hi_s hh e1_s hp e2_s hd_s hu hv
  have b_s := hc_s.1
  have e77 : f_s 7 7 = f0_s 7 7 := g_s 7 7 (by omega)
  have z2 := azix (i := x2_s) (by omega)
  have ez2 : zix x2_s = d_s := by omega
  have e20 : f_s (20 + d_s) 6 = f0_s (20 + d_s) 6 := g_s _ _ (by omega)
  refine sg_30_78 (h_s := (h_s.1, f_s, h_s.2.2.1, h_s.2.2.2)) hk ?_
  dsimp only
  rw [e77, hc_s.2.1.2.1, ez2, e20, e1_s, e2_s]
  have hdd : (f0_s (20 + d_s) 6).toInt = hdC f0_s d_s := rfl
  rw [hdd]
  refine ⟨fun c1_s => fun c2_s => ⟨fun c3_s => i1_s x1_s x2_s 0 p_s d_s f_s g_s hi_s hh e1_s hp e2_s (by omega) hu hv (fun _ => c3_s) (fun w_s => absurd rfl w_s), fun c3_s => i1_s x1_s x2_s 1 p_s d_s f_s g_s hi_s hh e1_s hp e2_s (by omega) hu hv (fun w_s => absurd w_s (by decide)) (fun _ => c3_s)⟩, fun c1_s => ?_⟩
  refine i6_s (x1_s + 1) _ l3 (p_s + 1) f_s g_s hi_s hh (by rw [in1_ (by omega)]; omega) (by omega) (fun q_s e_s hq he => ?_)
  by_cases eq_s : q_s = p_s
  · rw [eq_s]
    exact hv e_s (by omega)
  · exact hu q_s e_s (by omega) he
theorem c105_s {F_s : Nat} (hk : hKn h_s) (hc_s : tC nh ni nr f0_s) (t0_s : ¬ stS nh ni (kyI f0_s) (hkI f0_s) (hdC f0_s) → ∀ f1_s, (∀ a_s k_s, ¬ (a_s = 12 ∧ k_s < 6) → f1_s a_s k_s = f0_s a_s k_s) → K_s 0 (h_s.1, f1_s, h_s.2.2.1, h_s.2.2.2)) (i7_s : C78 h_s K_s nh ni f0_s F_s) : C105 h_s K_s nh ni f0_s (F_s + 1) := by
  intro x1_s x2_s x3 p_s d_s f_s g_s hi_s hh e1_s hp e2_s hd_s hu hv ha_s hb_s
  have b_s := hc_s.1
  have z1 := azix (i := x1_s) (by omega)
  have ez1 : zix x1_s = p_s := by omega
  have z2 := azix (i := x2_s) (by omega)
  have ez2 : zix x2_s = d_s := by omega
  have e20 : f_s (20 + d_s) 6 = f0_s (20 + d_s) 6 := g_s _ _ (by omega)
  have hcf : tC nh ni nr f_s := tC_fr (fun a_s k_s w_s => g_s a_s k_s (by unfold inC at w_s; omega)) hc_s
  obtain ⟨ek, eh⟩ := ky_fr (f_s := f_s) (f0_s := f0_s) (fun k_s => g_s 103 k_s (by omega))
  have bd := tC_hd hc_s hd_s
  rw [← bd.1] at bd
  have nx : ¬ unS nh ni (kyI f0_s) (hkI f0_s) (hdC f0_s) p_s d_s → wF F_s 30 (78, [some (.ref 7), some (.int x1_s), some (.int (x2_s + 1)), some (.int x3)], [], (h_s.1, f_s, h_s.2.2.1, h_s.2.2.2)) (gI K_s) := fun w_s => by
    refine i7_s x1_s (x2_s + 1) _ p_s (d_s + 1) f_s g_s hi_s hh e1_s hp (by rw [in1_ (by omega)]; omega) (by omega) hu (fun e_s he => ?_)
    by_cases ee : e_s = d_s
    · rw [ee]
      exact w_s
    · exact hv e_s (by omega)
  refine sg_30_105 (h_s := (h_s.1, f_s, h_s.2.2.1, h_s.2.2.2)) hk ?_
  dsimp only
  rw [ez1, ez2]
  refine ⟨fun c1_s => nx (fun u_s => u_s.1 (ha_s c1_s)), fun c1_s => fun c2_s => ?_⟩
  have na := hb_s c1_s
  -- what had says_s
  have hs : (f_s 12 p_s).toInt < 0 ∨ ∃ o : Nat, (f_s 12 p_s).toInt = (o : Int) ∧ o < ni := by
    rcases hh p_s (by omega) with u_s | ⟨i_s, u1_s, u2_s, u3⟩
    · exact Or.inl (by omega)
    · exact Or.inr ⟨i_s, u3, u1_s⟩
  refine sp_29 (h_s := (h_s.1, f_s, h_s.2.2.1, h_s.2.2.2)) (f_s := f_s) (p_s := p_s) (i_s := d_s) hk hcf e1_s e2_s hp hd_s hs (fun w1_s _ => ⟨fun c_s => absurd c_s (by decide), fun _ => fun _ => ?_⟩) (fun o w1_s w2_s w3_s _ => ⟨fun _ => nx (fun u_s => ?_), fun c_s => absurd rfl c_s⟩)
  · have wo : ∀ o, o < ni → hdC f0_s o = (p_s : Int) → kyI f0_s p_s d_s < kyI f0_s p_s o := fun o ho w_s => by
      rcases hh p_s (by omega) with u_s | ⟨i_s, u1_s, u2_s, u3⟩
      · exact absurd w_s (u_s.2 o ho)
      · have eo : o = i_s := hi_s o i_s ho u1_s (by omega) (by omega)
        rw [eo]
        have := w1_s i_s u3 u1_s
        rw [ek] at this
        exact this
    dsimp only
    rw [e20]
    have hq : (f0_s (20 + d_s) 6).toInt < 0 ∨ ∃ q_s : Nat, (f0_s (20 + d_s) 6).toInt = (q_s : Int) ∧ q_s < nh := by
      by_cases c_s : (f0_s (20 + d_s) 6).toInt < 0
      · exact Or.inl c_s
      · exact Or.inr ⟨(f0_s (20 + d_s) 6).toInt.toNat, by omega, by omega⟩
    refine sp_28 (h_s := (h_s.1, f_s, h_s.2.2.1, h_s.2.2.2)) (f_s := f_s) (p_s := p_s) (q_s := 0) hk hcf e1_s hp hq (fun w2_s _ => ⟨fun c_s => absurd c_s (by decide), fun _ => t0_s (fun s_s => s_s.2 p_s d_s hp hd_s ⟨na, wo, fun q_s hq1 hq2 => ?_⟩) f_s g_s⟩) (fun q_s w2_s w3_s w4_s _ => ⟨fun _ => nx (fun u_s => ?_), fun c_s => absurd rfl c_s⟩)
    · have := w2_s q_s hq2 hq1
      rw [eh] at this
      exact this
    · rw [eh] at w4_s
      exact w4_s (u_s.2.2 q_s w3_s w2_s)
  · rw [ek] at w3_s
    rcases hh p_s (by omega) with u2_s | ⟨i_s, u1_s, u2_s, u3⟩
    · omega
    · have eo : o = i_s := by omega
      rw [eo] at w3_s
      exact w3_s (u_s.2.1 i_s u1_s u2_s)
theorem c_all (hk : hKn h_s) (hc_s : tC nh ni nr f0_s) (t1_s : stS nh ni (kyI f0_s) (hkI f0_s) (hdC f0_s) → ∀ f1_s, (∀ a_s k_s, ¬ (a_s = 12 ∧ k_s < 6) → f1_s a_s k_s = f0_s a_s k_s) → K_s 1 (h_s.1, f1_s, h_s.2.2.1, h_s.2.2.2)) (t0_s : ¬ stS nh ni (kyI f0_s) (hkI f0_s) (hdC f0_s) → ∀ f1_s, (∀ a_s k_s, ¬ (a_s = 12 ∧ k_s < 6) → f1_s a_s k_s = f0_s a_s k_s) → K_s 0 (h_s.1, f1_s, h_s.2.2.1, h_s.2.2.2)) : ∀ F_s, C68 h_s K_s nh ni f0_s F_s ∧ C78 h_s K_s nh ni f0_s F_s ∧ C105 h_s K_s nh ni f0_s F_s
  | 0 => ⟨fun _ _ _ _ _ _ _ _ _ _ _ => wF_zero, fun _ _ _ _ _ _ _ _ _ _ _ _ _ _ _ => wF_zero, fun _ _ _ _ _ _ _ _ _ _ _ _ _ _ _ _ _ => wF_zero⟩
  | F_s + 1 => by
    obtain ⟨i6_s, i7_s, i1_s⟩ := c_all hk hc_s t1_s t0_s F_s
    exact ⟨c68_s hk hc_s t1_s i7_s, c78_s hk hc_s i6_s i1_s, c105_s hk hc_s t0_s i7_s⟩
theorem c11 (hk : hKn h_s) (hc_s : tC nh ni nr f0_s) (t1_s : stS nh ni (kyI f0_s) (hkI f0_s) (hdC f0_s) → ∀ f1_s, (∀ a_s k_s, ¬ (a_s = 12 ∧ k_s < 6) → f1_s a_s k_s = f0_s a_s k_s) → K_s 1 (h_s.1, f1_s, h_s.2.2.1, h_s.2.2.2)) (t0_s : ¬ stS nh ni (kyI f0_s) (hkI f0_s) (hdC f0_s) → ∀ f1_s, (∀ a_s k_s, ¬ (a_s = 12 ∧ k_s < 6) → f1_s a_s k_s = f0_s a_s k_s) → K_s 0 (h_s.1, f1_s, h_s.2.2.1, h_s.2.2.2)) : ∀ (F_s n_s : Nat) (x1_s : Int32) (l2 l3 : Option Value) (f_s : Nat → Nat → Int32), (∀ a_s k_s, ¬ (a_s = 12 ∧ k_s < 6) → f_s a_s k_s = f0_s a_s k_s) → x1_s.toInt = (n_s : Int) → n_s ≤ ni → inS n_s (hdC f0_s) → had1 n_s (hdC f0_s) f_s → wF F_s 30 (11, [some (.ref 7), some (.int x1_s), l2, l3], [], (h_s.1, f_s, h_s.2.2.1, h_s.2.2.2)) (gI K_s)
  | 0, _, _, _, _, _, _, _, _, _, _ => wF_zero
  | F_s + 1, n_s, x1_s, l2, l3, f_s, g_s, e1_s, hn, hi_s, hh => by
    have b_s := hc_s.1
    have z1 := azix (i := x1_s) (by omega)
    have ez1 : zix x1_s = n_s := by omega
    have e77 : f_s 7 7 = f0_s 7 7 := g_s 7 7 (by omega)
    have e76 : f_s 7 6 = f0_s 7 6 := g_s 7 6 (by omega)
    have e20 : f_s (20 + n_s) 6 = f0_s (20 + n_s) 6 := g_s _ _ (by omega)
    have e5_s : n_s < ni → (x1_s + 1).toInt = ((n_s + 1 : Nat) : Int) := fun w_s => by
      rw [in1_ (by omega), e1_s]
      omega
    refine sg_30_11 (h_s := (h_s.1, f_s, h_s.2.2.1, h_s.2.2.2)) hk ?_
    dsimp only
    rw [ez1, e77, e76, hc_s.2.1.1, hc_s.2.1.2.1, e20, e1_s]
    refine ⟨fun c1_s => fun c2_s => ?_, fun c1_s => ?_⟩
    · have hn1 : n_s < ni := by omega
      have bd := tC_hd hc_s hn1
      rw [← bd.1] at bd
      have hdn : hdC f0_s n_s = (f0_s (20 + n_s) 6).toInt := rfl
      refine ⟨fun c3_s => ?_, fun c3_s => ⟨fun c4_s => fun c5_s => ⟨fun c6_s => ?_, fun c6_s => ?_⟩, fun c4_s => absurd (show (f0_s (20 + n_s) 6).toInt < (nh : Int) by omega) c4_s⟩⟩
      · refine c11 hk hc_s t1_s t0_s F_s (n_s + 1) (x1_s + 1) _ l3 f_s g_s (e5_s hn1) (by omega) (fun i_s j_s hi1 hj1 h0 he => ?_) (fun p_s hp => ?_)
        · by_cases ei : i_s = n_s
          · rw [ei] at h0
            omega
          · by_cases ej : j_s = n_s
            · rw [ej] at he
              omega
            · exact hi_s i_s j_s (by omega) (by omega) h0 he
        · rcases hh p_s hp with u_s | ⟨i_s, u1_s, u2_s, u3⟩
          · refine Or.inl ⟨u_s.1, fun i_s hi1 => ?_⟩
            by_cases ei : i_s = n_s
            · rw [ei]
              omega
            · exact u_s.2 i_s (by omega)
          · exact Or.inr ⟨i_s, by omega, u2_s, u3⟩
      · have z6 := azix (i := f0_s (20 + n_s) 6) (by omega)
        have hz : hdC f0_s n_s = (zix (f0_s (20 + n_s) 6) : Int) := by omega
        generalize zix (f0_s (20 + n_s) 6) = p0_s at c5_s c6_s hz
        have nn : ∀ i_s, i_s < n_s → ¬ hdC f0_s i_s = (p0_s : Int) := by
          rcases hh p0_s c5_s with u_s | ⟨i_s, u1_s, u2_s, u3⟩
          · exact u_s.2
          · omega
        refine c11 hk hc_s t1_s t0_s F_s (n_s + 1) (x1_s + 1) _ l3 _ (fun a_s k_s w_s => by rw [zne_up (by omega)]; exact g_s a_s k_s w_s) (e5_s hn1) (by omega) (fun i_s j_s hi1 hj1 h0 he => ?_) (fun p_s hp => ?_)
        · by_cases ei : i_s = n_s
          · by_cases ej : j_s = n_s
            · rw [ei, ej]
            · rw [ei, hz] at he
              exact absurd he.symm (nn j_s (by omega))
          · by_cases ej : j_s = n_s
            · rw [ej, hz] at he
              exact absurd he (nn i_s (by omega))
            · exact hi_s i_s j_s (by omega) (by omega) h0 he
        · by_cases ep : p_s = p0_s
          · refine Or.inr ⟨n_s, by omega, by rw [ep]; exact hz, ?_⟩
            rw [ep, zsame_up]
            exact e1_s
          · rw [zne_up (by omega)]
            rcases hh p_s hp with u_s | ⟨i_s, u1_s, u2_s, u3⟩
            · refine Or.inl ⟨u_s.1, fun i_s hi1 => ?_⟩
              by_cases ei : i_s = n_s
              · rw [ei, hz]
                omega
              · exact u_s.2 i_s (by omega)
            · exact Or.inr ⟨i_s, by omega, u2_s, u3⟩
      · have z6 := azix (i := f0_s (20 + n_s) 6) (by omega)
        have hz : hdC f0_s n_s = (zix (f0_s (20 + n_s) 6) : Int) := by omega
        generalize zix (f0_s (20 + n_s) 6) = p0_s at c5_s c6_s hz
        refine t0_s (fun s_s => ?_) f_s g_s
        rcases hh p0_s c5_s with u_s | ⟨i_s, u1_s, u2_s, u3⟩
        · exact c6_s u_s.1
        · have := s_s.1 i_s n_s (by omega) hn1 (by omega) (by omega)
          omega
    · have en : n_s = ni := by omega
      subst en
      exact (c_all hk hc_s t1_s t0_s F_s).1 0 l2 l3 0 f_s g_s hi_s hh rfl (Nat.zero_le _) (fun q_s d_s hq _ => absurd hq (Nat.not_lt_zero q_s))
theorem sp_30 {F_s : Nat} (hk : hKn h_s) (hc_s : tC nh ni nr f0_s) (t1_s : stS nh ni (kyI f0_s) (hkI f0_s) (hdC f0_s) → ∀ f1_s, (∀ a_s k_s, ¬ (a_s = 12 ∧ k_s < 6) → f1_s a_s k_s = f0_s a_s k_s) → K_s 1 (h_s.1, f1_s, h_s.2.2.1, h_s.2.2.2)) (t0_s : ¬ stS nh ni (kyI f0_s) (hkI f0_s) (hdC f0_s) → ∀ f1_s, (∀ a_s k_s, ¬ (a_s = 12 ∧ k_s < 6) → f1_s a_s k_s = f0_s a_s k_s) → K_s 0 (h_s.1, f1_s, h_s.2.2.1, h_s.2.2.2)) : wF F_s 30 (0, [some (.ref 7), none, none, none], [], (h_s.1, f0_s, h_s.2.2.1, h_s.2.2.2)) (gI K_s) := by
  refine wF_le (Nat.le_succ F_s) (sg_30_0 (h_s := (h_s.1, f0_s, h_s.2.2.1, h_s.2.2.2)) hk ?_)
  refine wF_le (Nat.le_succ F_s) (sg_240_0 (h_s := (h_s.1, f0_s, h_s.2.2.1, h_s.2.2.2)) hk ?_)
  refine fl240 (f0_s := f0_s) hk rfl (fun f1_s g1 g2 hk1 => ?_) F_s 0 0 f0_s rfl (by omega) (fun k_s hq => absurd hq (Nat.not_lt_zero k_s)) (fun _ _ _ => rfl)
  exact c11 (h_s := (h_s.1, f1_s, h_s.2.2.1, h_s.2.2.2)) (f0_s := f0_s) hk1 hc_s t1_s t0_s F_s 0 0 none none f1_s g2 rfl (Nat.zero_le _) (fun i_s j_s hi_s _ _ _ => absurd hi_s (Nat.not_lt_zero i_s)) (fun p_s hp => Or.inl ⟨by rw [g1 p_s hp]; rfl, fun i_s hi_s => absurd hi_s (Nat.not_lt_zero i_s)⟩)
end SE_s
