/-! ALL ASK, the reference: by turns; all heads are dealt. -/
section RA_s
variable {h_s : zH} {K_s : Int32 → zH → Prop} {V : zH → Prop} {nh ni nr p_s : Nat} {x1_s x2_s : Int32} {f_s : Nat → Nat → Int32}
def hbF (f_s : Nat → Nat → Int32) (i_s : Nat) : Int := (f_s 116 i_s).toInt
def akF (f_s : Nat → Nat → Int32) (p_s i_s : Nat) : Bool := btv (f_s 117 p_s) i_s
def dnF (ni : Nat) (f_s : Nat → Nat → Int32) (p_s : Nat) : Prop := (∃ i_s, i_s < ni ∧ hbF f_s i_s = ((p_s : Nat) : Int)) ∨ ∀ i_s, i_s < ni → akF f_s p_s i_s = true
/-- ideaOf -/
theorem io197 (hk : hKn h_s) (hc_s : tM nh ni nr f_s) (e1_s : x1_s.toInt = (p_s : Int)) (t_s : ∀ v_s, (v_s.toInt = -1 ∧ ∀ i_s, i_s < ni → ¬ hbF f_s i_s = (p_s : Int)) ∨ (∃ i_s : Nat, i_s < ni ∧ v_s.toInt = (i_s : Int) ∧ hbF f_s i_s = (p_s : Int)) → K_s v_s (h_s.1, f_s, h_s.2.2.1, h_s.2.2.2)) : ∀ (F_s n_s : Nat) (x2_s : Int32), x2_s.toInt = (n_s : Int) → n_s ≤ ni → (∀ i_s, i_s < n_s → ¬ hbF f_s i_s = (p_s : Int)) → wF F_s 197 (2, [some (.ref 102), some (.int x1_s), some (.int x2_s)], [], (h_s.1, f_s, h_s.2.2.1, h_s.2.2.2)) (gI K_s)
  | 0, _, _, _, _, _ => wF_zero
  | F_s + 1, n_s, x2_s, e2_s, hn, hb_s => by
    have b_s := hc_s.1
    have c7_s := hc_s.2.1.2.1
    have z_s := azix (i := x2_s) (by omega)
    have ez : zix x2_s = n_s := by omega
    refine sg_197_2 (h_s := (h_s.1, f_s, h_s.2.2.1, h_s.2.2.2)) hk ?_
    dsimp only
    rw [c7_s, ez, e1_s, e2_s]
    refine ⟨fun c1_s _ => ⟨fun c2_s => t_s x2_s (Or.inr ⟨n_s, by omega, e2_s, c2_s⟩), fun c2_s => ?_⟩, fun c1_s => t_s (-1) (Or.inl ⟨rfl, fun i_s hi_s => hb_s i_s (by omega)⟩)⟩
    refine io197 hk hc_s e1_s t_s F_s (n_s + 1) (x2_s + 1) (by rw [in1_ (by omega)]; omega) (by omega) (fun i_s hi_s => ?_)
    by_cases e_s : i_s = n_s
    · rw [e_s]
      exact c2_s
    · exact hb_s i_s (by omega)
theorem sp_197 {F_s : Nat} (hk : hKn h_s) (hc_s : tM nh ni nr f_s) (e1_s : x1_s.toInt = (p_s : Int)) (t_s : ∀ v_s, (v_s.toInt = -1 ∧ ∀ i_s, i_s < ni → ¬ hbF f_s i_s = (p_s : Int)) ∨ (∃ i_s : Nat, i_s < ni ∧ v_s.toInt = (i_s : Int) ∧ hbF f_s i_s = (p_s : Int)) → K_s v_s (h_s.1, f_s, h_s.2.2.1, h_s.2.2.2)) : wF F_s 197 (0, [some (.ref 102), some (.int x1_s), none], [], (h_s.1, f_s, h_s.2.2.1, h_s.2.2.2)) (gI K_s) := wF_le (Nat.le_succ F_s) (sg_197_0 (h_s := (h_s.1, f_s, h_s.2.2.1, h_s.2.2.2)) hk (io197 hk hc_s e1_s t_s F_s 0 0 rfl (Nat.zero_le _) (fun i_s hi_s => absurd hi_s (Nat.not_lt_zero i_s))))
def frA (f_s f1_s : Nat → Nat → Int32) : Prop := ∀ a_s k_s, ¬ a_s = 116 → ¬ a_s = 117 → f1_s a_s k_s = f_s a_s k_s
def A48 (nh ni nr : Nat) (h_s : zH) (V : zH → Prop) (f0_s : Nat → Nat → Int32) (F_s : Nat) : Prop := ∀ (x1_s : Int32) (l2 l3 l4 : Option Value) (f_s : Nat → Nat → Int32), frA f0_s f_s → GSI nh ni (kyI f0_s) (hkI f0_s) (hbF f_s) (akF f_s) → (x1_s.toInt = 0 → ∀ p_s, p_s < nh → dnF ni f_s p_s) → wF F_s 198 (48, [some (.ref 102), some (.int x1_s), l2, l3, l4], [], (h_s.1, f_s, h_s.2.2.1, h_s.2.2.2)) (gV V)
def A56 (nh ni nr : Nat) (h_s : zH) (V : zH → Prop) (f0_s : Nat → Nat → Int32) (F_s : Nat) : Prop := ∀ (x1_s x2_s : Int32) (l3 l4 : Option Value) (p_s : Nat) (f_s : Nat → Nat → Int32), frA f0_s f_s → GSI nh ni (kyI f0_s) (hkI f0_s) (hbF f_s) (akF f_s) → x2_s.toInt = (p_s : Int) → p_s ≤ nh → (x1_s.toInt = 0 → ∀ q_s, q_s < p_s → dnF ni f_s q_s) → wF F_s 198 (56, [some (.ref 102), some (.int x1_s), some (.int x2_s), l3, l4], [], (h_s.1, f_s, h_s.2.2.1, h_s.2.2.2)) (gV V)
def A69 (nh ni nr : Nat) (h_s : zH) (V : zH → Prop) (f0_s : Nat → Nat → Int32) (F_s : Nat) : Prop := ∀ (x1_s x2_s x3 x4_s : Int32) (p_s n_s : Nat) (f_s : Nat → Nat → Int32), frA f0_s f_s → GSI nh ni (kyI f0_s) (hkI f0_s) (hbF f_s) (akF f_s) → x2_s.toInt = (p_s : Int) → p_s < nh → (x1_s.toInt = 0 → ∀ q_s, q_s < p_s → dnF ni f_s q_s) → x4_s.toInt = (n_s : Int) → n_s ≤ ni → bsN (kyI f0_s p_s) (akF f_s p_s) (-1) n_s x3.toInt → wF F_s 198 (69, [some (.ref 102), some (.int x1_s), some (.int x2_s), some (.int x3), some (.int x4_s)], [], (h_s.1, f_s, h_s.2.2.1, h_s.2.2.2)) (gV V)
def A12 (nh ni nr : Nat) (h_s : zH) (V : zH → Prop) (f0_s : Nat → Nat → Int32) (F_s : Nat) : Prop := ∀ (x1_s x2_s x3 x4_s : Int32) (p_s : Nat) (f_s : Nat → Nat → Int32), frA f0_s f_s → GSI nh ni (kyI f0_s) (hkI f0_s) (hbF f_s) (akF f_s) → x2_s.toInt = (p_s : Int) → p_s < nh → (x1_s.toInt = 0 → ∀ q_s, q_s < p_s → dnF ni f_s q_s) → bsN (kyI f0_s p_s) (akF f_s p_s) (-1) ni x3.toInt → wF F_s 198 (120, [some (.ref 102), some (.int x1_s), some (.int x2_s), some (.int x3), some (.int x4_s)], [], (h_s.1, f_s, h_s.2.2.1, h_s.2.2.2)) (gV V)
section AS_s
variable {f0_s : Nat → Nat → Int32} {F_s : Nat}
theorem a48_s (hk : hKn h_s) (t_s : ∀ f1_s, frA f0_s f1_s → GSI nh ni (kyI f0_s) (hkI f0_s) (hbF f1_s) (akF f1_s) → (∀ p_s, p_s < nh → dnF ni f1_s p_s) → V (h_s.1, f1_s, h_s.2.2.1, h_s.2.2.2)) (ih_s : A56 nh ni nr h_s V f0_s F_s) : A48 nh ni nr h_s V f0_s (F_s + 1) := by
  intro x1_s l2 l3 l4 f_s hg G_s hd_s
  exact sg_198_48 (h_s := (h_s.1, f_s, h_s.2.2.1, h_s.2.2.2)) hk ⟨fun c_s => t_s f_s hg G_s (hd_s c_s), fun _ => ih_s 0 0 l3 l4 0 f_s hg G_s rfl (Nat.zero_le _) (fun _ q_s hq => absurd hq (Nat.not_lt_zero q_s))⟩
theorem a56_s (hk : hKn h_s) (hc_s : tM nh ni nr f0_s) (ih1 : A69 nh ni nr h_s V f0_s F_s) (ih2 : A48 nh ni nr h_s V f0_s F_s) : A56 nh ni nr h_s V f0_s (F_s + 1) := by
  intro x1_s x2_s l3 l4 p_s f_s hg G_s e2_s hp hd_s
  have c6_s := hc_s.2.1.1
  have e6_s : f_s 102 6 = f0_s 102 6 := hg 102 6 (by omega) (by omega)
  refine sg_198_56 (h_s := (h_s.1, f_s, h_s.2.2.1, h_s.2.2.2)) hk ?_
  dsimp only
  rw [e6_s, c6_s, e2_s]
  refine ⟨fun c_s => ih1 x1_s x2_s (-1) 0 p_s 0 f_s hg G_s e2_s (by omega) hd_s rfl (Nat.zero_le _) (Or.inl ⟨rfl, fun o ho => absurd ho (Nat.not_lt_zero o)⟩), fun c_s => ih2 x1_s (some (.int x2_s)) l3 l4 f_s hg G_s (fun w_s q_s hq => hd_s w_s q_s (by omega))⟩
theorem a69_s (hk : hKn h_s) (hc_s : tM nh ni nr f0_s) (ih1 : A69 nh ni nr h_s V f0_s F_s) (ih2 : A12 nh ni nr h_s V f0_s F_s) : A69 nh ni nr h_s V f0_s (F_s + 1) := by
  intro x1_s x2_s x3 x4_s p_s n_s f_s hg G_s e2_s hp hd_s e4_s hn hb_s
  have b_s := hc_s.1
  have c7_s := hc_s.2.1.2.1
  have e7_s : f_s 102 7 = f0_s 102 7 := hg 102 7 (by omega) (by omega)
  have z2 := azix (i := x2_s) (by omega)
  have ez2 : zix x2_s = p_s := by omega
  have hcf : tM nh ni nr f_s := tM_fr (fun k_s _ _ => hg _ _ (by omega) (by omega)) (fun k_s _ => hg _ _ (by omega) (by omega)) hc_s
  obtain ⟨ek, eh⟩ := ky_fr (f_s := f_s) (f0_s := f0_s) (fun k_s => hg 103 k_s (by omega) (by omega))
  have e5_s : (x4_s + 1).toInt = ((n_s + 1 : Nat) : Int) := by
    rw [in1_ (by omega), e4_s]
    omega
  refine sg_198_69 (h_s := (h_s.1, f_s, h_s.2.2.1, h_s.2.2.2)) hk ?_
  dsimp only
  rw [e7_s, c7_s, e4_s, ez2]
  refine ⟨fun c1_s _ => ⟨fun c3_s => ?_, fun c3_s => ?_⟩, fun c1_s => ?_⟩
  · have hno : akF f_s p_s n_s = true := (bt_tst (x_s := f_s 117 p_s) e4_s (by omega)).2.mp c3_s
    exact ih1 x1_s x2_s x3 (x4_s + 1) p_s (n_s + 1) f_s hg G_s e2_s hp hd_s e5_s (by omega) (bs_skip hb_s hno)
  · have hno : akF f_s p_s n_s = false := by
      cases e_s : akF f_s p_s n_s with
      | false => rfl
      | true => exact absurd ((bt_tst (x_s := f_s 117 p_s) e4_s (by omega)).2.mpr e_s) c3_s
    have tk : (∀ o : Nat, x3.toInt = (o : Int) → o < n_s → kyI f0_s p_s n_s < kyI f0_s p_s o) → wF F_s 198 (69, [some (.ref 102), some (.int x1_s), some (.int x2_s), some (.int x4_s), some (.int (x4_s + 1))], [], (h_s.1, f_s, h_s.2.2.1, h_s.2.2.2)) (gV V) := fun w_s => by
      refine ih1 x1_s x2_s x4_s (x4_s + 1) p_s (n_s + 1) f_s hg G_s e2_s hp hd_s e5_s (by omega) ?_
      rw [e4_s]
      exact bs_take (by omega) hb_s hno w_s
    refine ⟨fun c4_s => tk (fun o w_s _ => by omega), fun c4_s => ?_⟩
    obtain ⟨o, o1, o2⟩ : ∃ o : Nat, o < n_s ∧ x3.toInt = (o : Int) := by
      rcases hb_s with ⟨a1_s, _⟩ | ⟨o, a1_s, a2, _⟩
      · omega
      · exact ⟨o, a1_s, a2⟩
    refine sp_195 (p_s := p_s) (i_s := n_s) (o := o) hk hcf e2_s e4_s o2 hp (by omega) (by omega) (fun w_s _ => ⟨fun c_s => absurd c_s (by decide), fun _ => tk (fun o1 w1_s w2_s => ?_)⟩) (fun w_s _ => ⟨fun _ => ?_, fun c_s => absurd rfl c_s⟩)
    · have eo : o1 = o := by omega
      rw [ek] at w_s
      rw [eo]
      exact w_s
    · rw [ek] at w_s
      exact ih1 x1_s x2_s x3 (x4_s + 1) p_s (n_s + 1) f_s hg G_s e2_s hp hd_s e5_s (by omega) (bs_keep (fun w1_s => ky_inj (p_s := p_s) (f_s := f0_s) (by omega) o (by omega) w1_s) hb_s o2 (by omega) w_s)
  · have en : n_s = ni := by omega
    subst en
    exact ih2 x1_s x2_s x3 x4_s p_s f_s hg G_s e2_s hp hd_s hb_s
theorem a12_s (hk : hKn h_s) (hc_s : tM nh ni nr f0_s) (ih_s : A56 nh ni nr h_s V f0_s F_s) : A12 nh ni nr h_s V f0_s (F_s + 1) := by
  intro x1_s x2_s x3 x4_s p_s f_s hg G_s e2_s hp hd_s hb_s
  have b_s := hc_s.1
  have hcf : tM nh ni nr f_s := tM_fr (fun k_s _ _ => hg _ _ (by omega) (by omega)) (fun k_s _ => hg _ _ (by omega) (by omega)) hc_s
  obtain ⟨ek, eh⟩ := ky_fr (f_s := f_s) (f0_s := f0_s) (fun k_s => hg 103 k_s (by omega) (by omega))
  have z2 := azix (i := x2_s) (by omega)
  have ez2 : zix x2_s = p_s := by omega
  have e5_s : (x2_s + 1).toInt = ((p_s + 1 : Nat) : Int) := by
    rw [in1_ (by omega), e2_s]
    omega
  have nx : dnF ni f_s p_s → wF F_s 198 (56, [some (.ref 102), some (.int x1_s), some (.int (x2_s + 1)), some (.int x3), some (.int x4_s)], [], (h_s.1, f_s, h_s.2.2.1, h_s.2.2.2)) (gV V) := fun w_s => by
    refine ih_s x1_s (x2_s + 1) _ _ (p_s + 1) f_s hg G_s e5_s (by omega) (fun c_s q_s hq => ?_)
    by_cases e_s : q_s = p_s
    · rw [e_s]
      exact w_s
    · exact hd_s c_s q_s (by omega)
  refine sg_198_120 (h_s := (h_s.1, f_s, h_s.2.2.1, h_s.2.2.2)) hk ?_
  refine sp_197 hk hcf e2_s (fun v_s hv _ => ?_)
  rcases hv with ⟨v1_s, v2⟩ | ⟨i_s, i1_s, i2_s, i3_s⟩
  · refine ⟨fun _ => ⟨fun c3_s => ?_, fun c3_s => fun _ _ => ?_⟩, fun c_s => absurd (show v_s.toInt < 0 by omega) c_s⟩
    · rcases hb_s with ⟨_, a2⟩ | ⟨o, _, a2, _⟩
      · exact nx (Or.inr a2)
      · omega
    · rcases hb_s with ⟨a1_s, _⟩ | ⟨bb, a1_s, a2, a3, a4⟩
      · omega
      · have z3 := azix (i := x3) (by omega)
        have ez3 : zix x3 = bb := by omega
        dsimp only
        rw [ez2, ez3]
        have g1 := G_s.1 bb a1_s
        have am : ∀ (f1_s : Nat → Nat → Int32), f1_s 117 p_s = (f_s 117 p_s ||| (1 <<< (x3 &&& 31))) → (∀ q_s, ¬ q_s = p_s → f1_s 117 q_s = f_s 117 q_s) → akF f1_s p_s bb = true ∧ ∀ q_s i_s, i_s < 32 → ¬ (q_s = p_s ∧ i_s = bb) → akF f1_s q_s i_s = akF f_s q_s i_s := fun f1_s w1_s w2_s => by
          refine ⟨?_, fun q_s i_s hi_s hne => ?_⟩
          · unfold akF
            rw [w1_s, bt_or, bt_shl a2 (by omega) (by omega), decide_eq_true rfl, Bool.or_true]
          · unfold akF
            by_cases e_s : q_s = p_s
            · subst e_s
              rw [w1_s, bt_or, bt_shl a2 (by omega) hi_s, decide_eq_false (fun u_s => hne ⟨rfl, u_s⟩), Bool.or_false]
            · rw [w2_s q_s e_s]
        have cut_s : ∀ f1_s, akF f1_s p_s bb = true ∧ (∀ q_s i_s, i_s < 32 → ¬ (q_s = p_s ∧ i_s = bb) → akF f1_s q_s i_s = akF f_s q_s i_s) → ∃ ak1 : Nat → Nat → Bool, ak1 p_s bb = true ∧ (∀ q_s i_s, ¬ (q_s = p_s ∧ i_s = bb) → ak1 q_s i_s = akF f_s q_s i_s) ∧ ∀ q_s i_s, i_s < 32 → ak1 q_s i_s = akF f1_s q_s i_s := fun f1_s w_s => by
          refine ⟨fun q_s i_s => if q_s = p_s ∧ i_s = bb then true else akF f_s q_s i_s, if_pos ⟨rfl, rfl⟩, fun q_s i_s hne => if_neg hne, fun q_s i_s hi_s => ?_⟩
          by_cases e_s : q_s = p_s ∧ i_s = bb
          · show (if q_s = p_s ∧ i_s = bb then true else akF f_s q_s i_s) = akF f1_s q_s i_s
            rw [if_pos e_s, e_s.1, e_s.2, w_s.1]
          · show (if q_s = p_s ∧ i_s = bb then true else akF f_s q_s i_s) = akF f1_s q_s i_s
            rw [if_neg e_s, w_s.2 q_s i_s hi_s e_s]
        have swap_s : ∀ (f1_s : Nat → Nat → Int32) (ak1 : Nat → Nat → Bool), (∀ q_s i_s, i_s < 32 → ak1 q_s i_s = akF f1_s q_s i_s) → GSI nh ni (kyI f0_s) (hkI f0_s) (hbF f1_s) ak1 → GSI nh ni (kyI f0_s) (hkI f0_s) (hbF f1_s) (akF f1_s) := fun f1_s ak1 w_s G1_s => by
          obtain ⟨q1_s, q2_s, q3_s, q4_s, q5_s⟩ := G1_s
          refine ⟨q1_s, fun i_s q_s hi_s hq w1_s => ?_, fun i_s q_s hi_s hq w1_s => ?_, fun i_s o q_s hi_s ho hq w1_s w2_s => ?_, q5_s⟩
          · rw [← w_s q_s i_s (by omega)]
            exact q2_s i_s q_s hi_s hq w1_s
          · rw [← w_s q_s i_s (by omega)] at w1_s
            exact q3_s i_s q_s hi_s hq w1_s
          · rw [← w_s q_s i_s (by omega)] at w1_s
            rw [← w_s q_s o (by omega)] at w2_s
            exact q4_s i_s o q_s hi_s ho hq w1_s w2_s
        have go_s : ∀ (f1_s : Nat → Nat → Int32), frA f0_s f1_s → GSI nh ni (kyI f0_s) (hkI f0_s) (hbF f1_s) (akF f1_s) → wF F_s 198 (56, [some (.ref 102), some (.int 1), some (.int (x2_s + 1)), some (.int x3), some (.int x4_s)], [], (h_s.1, f1_s, h_s.2.2.1, h_s.2.2.2)) (gV V) := fun f1_s w1_s w2_s => ih_s 1 (x2_s + 1) _ _ (p_s + 1) f1_s w1_s w2_s e5_s (by omega) (fun c_s => absurd c_s (by decide))
        have hm_s : ∀ o, o < ni → akF f_s p_s o = false → o = bb ∨ kyI f0_s p_s bb < kyI f0_s p_s o := fun o ho w_s => a4 o ho w_s
        have take_s : (hbF f_s bb = -1 ∨ ∃ q_s : Nat, q_s < nh ∧ hbF f_s bb = (q_s : Int) ∧ hkI f0_s p_s < hkI f0_s q_s) → wF F_s 198 (56, [some (.ref 102), some (.int 1), some (.int (x2_s + 1)), some (.int x3), some (.int x4_s)], [], (h_s.1, zup (zup f_s 117 p_s (f_s 117 p_s ||| (1 <<< (x3 &&& 31)))) 116 bb x2_s, h_s.2.2.1, h_s.2.2.2)) (gV V) := fun w_s => by
          obtain ⟨ak1, u1_s, u2_s, u3⟩ := cut_s (zup (zup f_s 117 p_s (f_s 117 p_s ||| (1 <<< (x3 &&& 31)))) 116 bb x2_s) (am _ (by rw [zne_up (by omega), zsame_up]) (fun q_s hq => by rw [zne_up (by omega), zne_up (by omega)]))
          refine go_s _ (fun a_s k_s q1_s q2_s => by rw [zne_up (by omega), zne_up (by omega)]; exact hg a_s k_s q1_s q2_s) (swap_s _ ak1 u3 (GS_take G_s hp v2 a1_s hm_s w_s ?_ (fun i_s hi_s => ?_) u1_s u2_s))
          · show (zup (zup f_s 117 p_s _) 116 bb x2_s 116 bb).toInt = (p_s : Int)
            rw [zsame_up]
            exact e2_s
          · show (zup (zup f_s 117 p_s _) 116 bb x2_s 116 i_s).toInt = (f_s 116 i_s).toInt
            rw [zne_up (by omega), zne_up (by omega)]
        refine ⟨fun c5_s => take_s (Or.inl ?_), fun c5_s => ?_⟩
        · rcases g1 with g1 | ⟨q_s, q1_s, q2_s⟩
          · exact g1
          · have q2_s : (f_s 116 bb).toInt = (q_s : Int) := q2_s
            omega
        · rcases g1 with g1 | ⟨q_s, q1_s, q2_s⟩
          · have g1 : (f_s 116 bb).toInt = -1 := g1
            omega
          · have q2' : (f_s 116 bb).toInt = (q_s : Int) := q2_s
            have hc2 : tM nh ni nr (zup f_s 117 p_s (f_s 117 p_s ||| (1 <<< (x3 &&& 31)))) := tM_fr (fun k_s _ _ => zne_up (by omega)) (fun k_s _ => zne_up (by omega)) hcf
            have eh2 : hkI (zup f_s 117 p_s (f_s 117 p_s ||| (1 <<< (x3 &&& 31)))) = hkI f_s := (ky_fr (fun k_s => zne_up (by omega))).2
            refine sp_196 (h_s := (h_s.1, zup f_s 117 p_s (f_s 117 p_s ||| (1 <<< (x3 &&& 31))), h_s.2.2.1, h_s.2.2.2)) (p_s := p_s) (q_s := q_s) hk hc2 e2_s q2' hp q1_s (fun w_s _ => ⟨fun c_s => absurd c_s (by decide), fun _ => take_s (Or.inr ⟨q_s, q1_s, q2_s, ?_⟩)⟩) (fun w_s _ => ⟨fun _ => ?_, fun c_s => absurd rfl c_s⟩)
            · rw [eh2, eh] at w_s
              exact w_s
            · rw [eh2, eh] at w_s
              obtain ⟨ak1, u1_s, u2_s, u3⟩ := cut_s (zup (zup f_s 117 p_s (f_s 117 p_s ||| (1 <<< (x3 &&& 31)))) 116 bb (f_s 116 bb)) (am _ (by rw [zne_up (by omega), zsame_up]) (fun q_s hq => by rw [zne_up (by omega), zne_up (by omega)]))
              have eb : ∀ i_s, hbF (zup (zup f_s 117 p_s (f_s 117 p_s ||| (1 <<< (x3 &&& 31)))) 116 bb (f_s 116 bb)) i_s = hbF f_s i_s := fun i_s => by
                unfold hbF
                by_cases e_s : i_s = bb
                · rw [e_s, zsame_up]
                · rw [zne_up (by omega), zne_up (by omega)]
              have eb2 : hbF (zup (zup f_s 117 p_s (f_s 117 p_s ||| (1 <<< (x3 &&& 31)))) 116 bb (f_s 116 bb)) = hbF f_s := funext eb
              have ez : zup f_s 117 p_s (f_s 117 p_s ||| (1 <<< (x3 &&& 31))) 116 bb = f_s 116 bb := zne_up (by omega)
              dsimp only
              rw [ez]
              refine go_s _ (fun a_s k_s q1_s q2_s => by rw [zne_up (by omega), zne_up (by omega)]; exact hg a_s k_s q1_s q2_s) (swap_s _ ak1 u3 ?_)
              rw [eb2]
              exact GS_leave G_s hp a1_s hm_s ⟨q_s, q1_s, q2_s, by omega⟩ u1_s u2_s
  · exact ⟨fun c_s => absurd c_s (by omega), fun _ => nx (Or.inl ⟨i_s, i1_s, i3_s⟩)⟩
theorem a_all (hk : hKn h_s) (hc_s : tM nh ni nr f0_s) (t_s : ∀ f1_s, frA f0_s f1_s → GSI nh ni (kyI f0_s) (hkI f0_s) (hbF f1_s) (akF f1_s) → (∀ p_s, p_s < nh → dnF ni f1_s p_s) → V (h_s.1, f1_s, h_s.2.2.1, h_s.2.2.2)) : ∀ F_s, A48 nh ni nr h_s V f0_s F_s ∧ A56 nh ni nr h_s V f0_s F_s ∧ A69 nh ni nr h_s V f0_s F_s ∧ A12 nh ni nr h_s V f0_s F_s
  | 0 => by
    refine ⟨?_, ?_, ?_, ?_⟩
    · intro _ _ _ _ _ _ _ _
      exact wF_zero
    · intro _ _ _ _ _ _ _ _ _ _ _
      exact wF_zero
    · intro _ _ _ _ _ _ _ _ _ _ _ _ _ _ _
      exact wF_zero
    · intro _ _ _ _ _ _ _ _ _ _ _ _
      exact wF_zero
  | F_s + 1 => by
    obtain ⟨i1_s, i2_s, i3_s, i4_s⟩ := a_all hk hc_s t_s F_s
    exact ⟨a48_s hk t_s i2_s, a56_s hk hc_s i3_s i1_s, a69_s hk hc_s i3_s i4_s, a12_s hk hc_s i2_s⟩
end AS_s
theorem st198b {l2 l3 l4 : Option Value} {f0_s : Nat → Nat → Int32} (hk : hKn h_s) (c6_s : (f0_s 102 6).toInt = (nh : Int)) (b6 : nh ≤ 6) (t_s : ∀ (F_s : Nat) (f1_s : Nat → Nat → Int32), (∀ p_s, p_s < nh → f1_s 117 p_s = 0) → (∀ a_s k_s, ¬ (a_s = 117 ∧ k_s < nh) → f1_s a_s k_s = f0_s a_s k_s) → wF F_s 198 (48, [some (.ref 102), some (.int 1), l2, l3, l4], [], (h_s.1, f1_s, h_s.2.2.1, h_s.2.2.2)) (gV V)) : ∀ (F_s n_s : Nat) (x1_s : Int32) (f_s : Nat → Nat → Int32), x1_s.toInt = (n_s : Int) → n_s ≤ nh → (∀ p_s, p_s < n_s → f_s 117 p_s = 0) → (∀ a_s k_s, ¬ (a_s = 117 ∧ k_s < nh) → f_s a_s k_s = f0_s a_s k_s) → wF F_s 198 (25, [some (.ref 102), some (.int x1_s), l2, l3, l4], [], (h_s.1, f_s, h_s.2.2.1, h_s.2.2.2)) (gV V)
  | 0, _, _, _, _, _, _, _ => wF_zero
  | F_s + 1, n_s, x1_s, f_s, e1_s, hn, hf, hg => by
    have z_s := azix (i := x1_s) (by omega)
    have ez : zix x1_s = n_s := by omega
    have e6_s : f_s 102 6 = f0_s 102 6 := hg 102 6 (by omega)
    refine sg_198_25 (h_s := (h_s.1, f_s, h_s.2.2.1, h_s.2.2.2)) hk ?_
    dsimp only
    rw [ez, e6_s, c6_s, e1_s]
    refine ⟨fun c1_s _ => ?_, fun c1_s => ?_⟩
    · refine st198b (f0_s := f0_s) hk c6_s b6 t_s F_s (n_s + 1) (x1_s + 1) _ (by rw [in1_ (by omega)]; omega) (by omega) (fun k_s hk1 => ?_) (fun a_s k_s q_s => ?_)
      · by_cases e_s : k_s = n_s
        · rw [e_s, zsame_up]
        · rw [zne_up (by omega)]
          exact hf k_s (by omega)
      · rw [zne_up (by omega)]
        exact hg a_s k_s q_s
    · have en : n_s = nh := by omega
      subst en
      exact t_s F_s f_s hf hg
theorem st198a {l2 l3 l4 : Option Value} {f0_s : Nat → Nat → Int32} (hk : hKn h_s) (c7_s : (f0_s 102 7).toInt = (ni : Int)) (b8 : ni ≤ 8) (t_s : ∀ (F_s : Nat) (f1_s : Nat → Nat → Int32), (∀ i_s, i_s < ni → f1_s 116 i_s = -1) → (∀ a_s k_s, ¬ (a_s = 116 ∧ k_s < ni) → f1_s a_s k_s = f0_s a_s k_s) → wF F_s 198 (25, [some (.ref 102), some (.int 0), l2, l3, l4], [], (h_s.1, f1_s, h_s.2.2.1, h_s.2.2.2)) (gV V)) : ∀ (F_s n_s : Nat) (x1_s : Int32) (f_s : Nat → Nat → Int32), x1_s.toInt = (n_s : Int) → n_s ≤ ni → (∀ i_s, i_s < n_s → f_s 116 i_s = -1) → (∀ a_s k_s, ¬ (a_s = 116 ∧ k_s < ni) → f_s a_s k_s = f0_s a_s k_s) → wF F_s 198 (2, [some (.ref 102), some (.int x1_s), l2, l3, l4], [], (h_s.1, f_s, h_s.2.2.1, h_s.2.2.2)) (gV V)
  | 0, _, _, _, _, _, _, _ => wF_zero
  | F_s + 1, n_s, x1_s, f_s, e1_s, hn, hf, hg => by
    have z_s := azix (i := x1_s) (by omega)
    have ez : zix x1_s = n_s := by omega
    have e7_s : f_s 102 7 = f0_s 102 7 := hg 102 7 (by omega)
    refine sg_198_2 (h_s := (h_s.1, f_s, h_s.2.2.1, h_s.2.2.2)) hk ?_
    dsimp only
    rw [ez, e7_s, c7_s, e1_s]
    refine ⟨fun c1_s _ => ?_, fun c1_s => ?_⟩
    · refine st198a (f0_s := f0_s) hk c7_s b8 t_s F_s (n_s + 1) (x1_s + 1) _ (by rw [in1_ (by omega)]; omega) (by omega) (fun k_s hk1 => ?_) (fun a_s k_s q_s => ?_)
      · by_cases e_s : k_s = n_s
        · rw [e_s, zsame_up]
        · rw [zne_up (by omega)]
          exact hf k_s (by omega)
      · rw [zne_up (by omega)]
        exact hg a_s k_s q_s
    · have en : n_s = ni := by omega
      subst en
      exact t_s F_s f_s hf hg
theorem sp_198 {F_s : Nat} {f0_s : Nat → Nat → Int32} (hk : hKn h_s) (hc_s : tM nh ni nr f0_s) (t_s : ∀ f1_s, frA f0_s f1_s → GSI nh ni (kyI f0_s) (hkI f0_s) (hbF f1_s) (akF f1_s) → (∀ p_s, p_s < nh → dnF ni f1_s p_s) → V (h_s.1, f1_s, h_s.2.2.1, h_s.2.2.2)) : wF F_s 198 (0, [some (.ref 102), none, none, none, none], [], (h_s.1, f0_s, h_s.2.2.1, h_s.2.2.2)) (gV V) := by
  have b_s := hc_s.1
  refine wF_le (Nat.le_succ F_s) (sg_198_0 (h_s := (h_s.1, f0_s, h_s.2.2.1, h_s.2.2.2)) hk ?_)
  refine st198a (f0_s := f0_s) hk hc_s.2.1.2.1 b_s.2.1 (fun F1_s f1_s g1 g2 => ?_) F_s 0 0 f0_s rfl (Nat.zero_le _) (fun i_s hi_s => absurd hi_s (Nat.not_lt_zero i_s)) (fun _ _ _ => rfl)
  refine st198b (f0_s := f1_s) hk (by rw [g2 102 6 (by omega)]; exact hc_s.2.1.1) b_s.1 (fun F2 f2_s g3_s g4 => ?_) F1_s 0 0 f1_s rfl (Nat.zero_le _) (fun i_s hi_s => absurd hi_s (Nat.not_lt_zero i_s)) (fun _ _ _ => rfl)
  refine (a_all (f0_s := f0_s) hk hc_s t_s F2).1 1 none none none f2_s (fun a_s k_s q1_s q2_s => ?_) (GS_start (fun i_s hi_s => ?_) (fun p_s i_s hp hi_s => ?_)) (fun c_s => absurd c_s (by decide))
  · rw [g4 a_s k_s (by omega), g2 a_s k_s (by omega)]
  · show (f2_s 116 i_s).toInt = -1
    rw [g4 116 i_s (by omega), g1 i_s hi_s]
    rfl
  · show btv (f2_s 117 p_s) i_s = false
    rw [g3_s p_s hp, bt_0]
end RA_s
