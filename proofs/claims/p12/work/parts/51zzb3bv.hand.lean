/-! SETTLED: the reference, and the pair. -/
noncomputable def hdR (f_s : Nat → Nat → Int32) (i_s : Nat) : Int := (f_s 103 (60 + i_s)).toInt
theorem stS_c {nh ni : Nat} {ky : Nat → Nat → Int} {hk hd_s hd1 : Nat → Int} (e_s : ∀ i_s, i_s < ni → hd1 i_s = hd_s i_s) (s_s : stS nh ni ky hk hd_s) : stS nh ni ky hk hd1 := by
  refine ⟨fun i_s j_s hi_s hj h0 he => ?_, fun p_s d_s hp hd_ u_s => s_s.2 p_s d_s hp hd_ ⟨?_, fun o ho w_s => ?_, fun q_s hq w_s => ?_⟩⟩
  · rw [e_s i_s hi_s] at h0 he
    rw [e_s j_s hj] at he
    exact s_s.1 i_s j_s hi_s hj h0 he
  · rw [← e_s d_s hd_]
    exact u_s.1
  · rw [← e_s o ho] at w_s
    exact u_s.2.1 o ho w_s
  · rw [← e_s d_s hd_] at w_s
    exact u_s.2.2 q_s hq w_s
noncomputable def QS (f0_s f_s : Nat → Nat → Int32) (ni : Nat) : Prop := (∀ a_s k_s, ¬ a_s = 116 → f_s a_s k_s = f0_s a_s k_s) ∧ ∀ i_s, i_s < ni → (f_s 116 i_s).toInt = hdR f0_s i_s
noncomputable def wtS (ni : Nat) (ky : Nat → Nat → Int) (hd_s : Nat → Int) (p_s d_s : Nat) : Prop := ∀ o, o < ni → hd_s o = (p_s : Int) → ky p_s d_s < ky p_s o
noncomputable def fyS (nh : Nat) (hk hd_s : Nat → Int) (p_s d_s : Nat) : Prop := ¬ hd_s d_s = (p_s : Int) ∧ ∀ q_s : Nat, q_s < nh → hd_s d_s = (q_s : Int) → hk p_s < hk q_s
section SR
variable {h_s : zH} {K_s : Int32 → zH → Prop} {nh ni nr : Nat} {f0_s : Nat → Nat → Int32}
noncomputable def D33 (h_s : zH) (K_s : Int32 → zH → Prop) (ni : Nat) (f0_s : Nat → Nat → Int32) (F_s : Nat) : Prop := ∀ (x1_s : Int32) (l2 l3 l4 l5 : Option Value) (n_s : Nat) (f_s : Nat → Nat → Int32), QS f0_s f_s ni → x1_s.toInt = (n_s : Int) → n_s ≤ ni → inS n_s (hdR f0_s) → wF F_s 200 (33, [some (.ref 102), some (.int x1_s), l2, l3, l4, l5], [], (h_s.1, f_s, h_s.2.2.1, h_s.2.2.2)) (gI K_s)
noncomputable def D43 (h_s : zH) (K_s : Int32 → zH → Prop) (ni : Nat) (f0_s : Nat → Nat → Int32) (F_s : Nat) : Prop := ∀ (x1_s x2_s : Int32) (l3 l4 l5 : Option Value) (n_s m_s : Nat) (f_s : Nat → Nat → Int32), QS f0_s f_s ni → x1_s.toInt = (n_s : Int) → n_s < ni → x2_s.toInt = (m_s : Int) → m_s ≤ n_s → inS n_s (hdR f0_s) → (∀ e_s, e_s < m_s → 0 ≤ hdR f0_s n_s → ¬ hdR f0_s n_s = hdR f0_s e_s) → wF F_s 200 (43, [some (.ref 102), some (.int x1_s), some (.int x2_s), l3, l4, l5], [], (h_s.1, f_s, h_s.2.2.1, h_s.2.2.2)) (gI K_s)
noncomputable def D88 (h_s : zH) (K_s : Int32 → zH → Prop) (nh ni : Nat) (f0_s : Nat → Nat → Int32) (F_s : Nat) : Prop := ∀ (x1_s : Int32) (l2 l3 l4 l5 : Option Value) (p_s : Nat) (f_s : Nat → Nat → Int32), QS f0_s f_s ni → inS ni (hdR f0_s) → x1_s.toInt = (p_s : Int) → p_s ≤ nh → (∀ q_s d_s, q_s < p_s → d_s < ni → ¬ unS nh ni (kyI f0_s) (hkI f0_s) (hdR f0_s) q_s d_s) → wF F_s 200 (88, [some (.ref 102), some (.int x1_s), l2, l3, l4, l5], [], (h_s.1, f_s, h_s.2.2.1, h_s.2.2.2)) (gI K_s)
noncomputable def qS (nh ni : Nat) (f0_s : Nat → Nat → Int32) (x1_s x2_s x3 : Int32) (p_s d_s : Nat) (f_s : Nat → Nat → Int32) : Prop := QS f0_s f_s ni ∧ inS ni (hdR f0_s) ∧ x1_s.toInt = (p_s : Int) ∧ p_s < nh ∧ x3.toInt = (d_s : Int) ∧ ((x2_s.toInt = -1 ∧ ∀ i_s, i_s < ni → ¬ hdR f0_s i_s = (p_s : Int)) ∨ ∃ i_s : Nat, i_s < ni ∧ x2_s.toInt = (i_s : Int) ∧ hdR f0_s i_s = (p_s : Int)) ∧ (∀ q_s e_s, q_s < p_s → e_s < ni → ¬ unS nh ni (kyI f0_s) (hkI f0_s) (hdR f0_s) q_s e_s) ∧ ∀ e_s, e_s < d_s → ¬ unS nh ni (kyI f0_s) (hkI f0_s) (hdR f0_s) p_s e_s
noncomputable def D104 (h_s : zH) (K_s : Int32 → zH → Prop) (nh ni : Nat) (f0_s : Nat → Nat → Int32) (F_s : Nat) : Prop := ∀ (x1_s x2_s x3 : Int32) (l4 l5 : Option Value) (p_s d_s : Nat) (f_s : Nat → Nat → Int32), qS nh ni f0_s x1_s x2_s x3 p_s d_s f_s → d_s ≤ ni → wF F_s 200 (104, [some (.ref 102), some (.int x1_s), some (.int x2_s), some (.int x3), l4, l5], [], (h_s.1, f_s, h_s.2.2.1, h_s.2.2.2)) (gI K_s)
noncomputable def D138 (h_s : zH) (K_s : Int32 → zH → Prop) (nh ni : Nat) (f0_s : Nat → Nat → Int32) (F_s : Nat) : Prop := ∀ (x1_s x2_s x3 x4_s : Int32) (l5 : Option Value) (p_s d_s : Nat) (f_s : Nat → Nat → Int32), qS nh ni f0_s x1_s x2_s x3 p_s d_s f_s → d_s < ni → (x4_s.toInt = 0 → ¬ wtS ni (kyI f0_s) (hdR f0_s) p_s d_s) → (¬ x4_s.toInt = 0 → wtS ni (kyI f0_s) (hdR f0_s) p_s d_s) → wF F_s 200 (138, [some (.ref 102), some (.int x1_s), some (.int x2_s), some (.int x3), some (.int x4_s), l5], [], (h_s.1, f_s, h_s.2.2.1, h_s.2.2.2)) (gI K_s)
noncomputable def D178 (h_s : zH) (K_s : Int32 → zH → Prop) (nh ni : Nat) (f0_s : Nat → Nat → Int32) (F_s : Nat) : Prop := ∀ (x1_s x2_s x3 x4_s x5_s : Int32) (p_s d_s : Nat) (f_s : Nat → Nat → Int32), qS nh ni f0_s x1_s x2_s x3 p_s d_s f_s → d_s < ni → (x4_s.toInt = 0 → ¬ wtS ni (kyI f0_s) (hdR f0_s) p_s d_s) → (¬ x4_s.toInt = 0 → wtS ni (kyI f0_s) (hdR f0_s) p_s d_s) → (x5_s.toInt = 0 → ¬ fyS nh (hkI f0_s) (hdR f0_s) p_s d_s) → (¬ x5_s.toInt = 0 → fyS nh (hkI f0_s) (hdR f0_s) p_s d_s) → wF F_s 200 (178, [some (.ref 102), some (.int x1_s), some (.int x2_s), some (.int x3), some (.int x4_s), some (.int x5_s)], [], (h_s.1, f_s, h_s.2.2.1, h_s.2.2.2)) (gI K_s)
theorem d33_s {F_s : Nat} (hk : hKn h_s) (hc_s : tM nh ni nr f0_s) (i4_s : D43 h_s K_s ni f0_s F_s) (i8_s : D88 h_s K_s nh ni f0_s F_s) : D33 h_s K_s ni f0_s (F_s + 1) := by
  intro x1_s l2 l3 l4 l5 n_s f_s g_s e1_s hn hi_s
  have e7_s : f_s 102 7 = f0_s 102 7 := g_s.1 _ _ (by omega)
  refine sg_200_33 (h_s := (h_s.1, f_s, h_s.2.2.1, h_s.2.2.2)) hk ?_
  dsimp only
  rw [e7_s, hc_s.2.1.2.1, e1_s]
  refine ⟨fun c1_s => i4_s x1_s 0 l3 l4 l5 n_s 0 f_s g_s e1_s (by omega) rfl (Nat.zero_le _) hi_s (fun e_s he => absurd he (Nat.not_lt_zero e_s)), fun c1_s => ?_⟩
  have en : n_s = ni := by omega
  subst en
  exact i8_s 0 l2 l3 l4 l5 0 f_s g_s hi_s rfl (Nat.zero_le _) (fun q_s d_s hq _ => absurd hq (Nat.not_lt_zero q_s))
theorem d43_s {F_s : Nat} (hk : hKn h_s) (hc_s : tM nh ni nr f0_s) (t0_s : ¬ stS nh ni (kyI f0_s) (hkI f0_s) (hdR f0_s) → ∀ f1_s, K_s 0 (h_s.1, f1_s, h_s.2.2.1, h_s.2.2.2)) (i3_s : D33 h_s K_s ni f0_s F_s) (i4_s : D43 h_s K_s ni f0_s F_s) : D43 h_s K_s ni f0_s (F_s + 1) := by
  intro x1_s x2_s l3 l4 l5 n_s m_s f_s g_s e1_s hn e2_s hm_s hi_s hv
  have b_s := hc_s.1
  have z1 := azix (i := x1_s) (by omega)
  have ez1 : zix x1_s = n_s := by omega
  have z2 := azix (i := x2_s) (by omega)
  have ez2 : zix x2_s = m_s := by omega
  have nx : m_s < n_s → (0 ≤ hdR f0_s n_s → ¬ hdR f0_s n_s = hdR f0_s m_s) → wF F_s 200 (43, [some (.ref 102), some (.int x1_s), some (.int (x2_s + 1)), l3, l4, l5], [], (h_s.1, f_s, h_s.2.2.1, h_s.2.2.2)) (gI K_s) := fun wm w_s => by
    refine i4_s x1_s (x2_s + 1) l3 l4 l5 n_s (m_s + 1) f_s g_s e1_s hn (by rw [in1_ (by omega)]; omega) (by omega) hi_s (fun e_s he => ?_)
    by_cases ee : e_s = m_s
    · rw [ee]
      exact w_s
    · exact hv e_s (by omega)
  refine sg_200_43 (h_s := (h_s.1, f_s, h_s.2.2.1, h_s.2.2.2)) hk ?_
  dsimp only
  rw [ez1, ez2, g_s.2 n_s hn, e1_s, e2_s]
  refine ⟨fun c1_s => fun c2_s => ⟨fun c3_s => nx (by omega) (fun w_s => by omega), fun c3_s => fun c5_s => ?_⟩, fun c1_s => ?_⟩
  · rw [g_s.2 m_s (by omega)]
    refine ⟨fun c6_s => t0_s (fun s_s => ?_) f_s, fun c6_s => nx (by omega) (fun _ => c6_s)⟩
    have := s_s.1 n_s m_s hn (by omega) (by omega) c6_s
    omega
  · refine i3_s (x1_s + 1) _ l3 l4 l5 (n_s + 1) f_s g_s (by rw [in1_ (by omega)]; omega) (by omega) (fun i_s j_s hi1 hj1 h0 he => ?_)
    by_cases ei : i_s = n_s
    · by_cases ej : j_s = n_s
      · rw [ei, ej]
      · rw [ei] at h0 he
        exact absurd he (hv j_s (by omega) h0)
    · by_cases ej : j_s = n_s
      · rw [ej] at he
        exact absurd he.symm (hv i_s (by omega) (by omega))
      · exact hi_s i_s j_s (by omega) (by omega) h0 he
theorem d88_s {F_s : Nat} (hk : hKn h_s) (hc_s : tM nh ni nr f0_s) (t1_s : stS nh ni (kyI f0_s) (hkI f0_s) (hdR f0_s) → ∀ f1_s, K_s 1 (h_s.1, f1_s, h_s.2.2.1, h_s.2.2.2)) (i1_s : D104 h_s K_s nh ni f0_s F_s) : D88 h_s K_s nh ni f0_s (F_s + 1) := by
  intro x1_s l2 l3 l4 l5 p_s f_s g_s hi_s e1_s hp hu
  have e6_s : f_s 102 6 = f0_s 102 6 := g_s.1 _ _ (by omega)
  have mf : tM nh ni nr f_s := tM_fr (fun k_s _ _ => g_s.1 _ _ (by omega)) (fun k_s _ => g_s.1 _ _ (by omega)) hc_s
  refine sg_200_88 (h_s := (h_s.1, f_s, h_s.2.2.1, h_s.2.2.2)) hk ?_
  dsimp only
  rw [e6_s, hc_s.2.1.1, e1_s]
  refine ⟨fun c1_s => ?_, fun c1_s => t1_s ⟨hi_s, fun q_s d_s hq hd_s => hu q_s d_s (by omega) hd_s⟩ f_s⟩
  refine sp_197 (h_s := (h_s.1, f_s, h_s.2.2.1, h_s.2.2.2)) (f_s := f_s) (p_s := p_s) hk mf e1_s (fun v_s hv _ => ?_)
  refine i1_s x1_s v_s 0 l4 l5 p_s 0 f_s ⟨g_s, hi_s, e1_s, by omega, rfl, ?_, hu, fun e_s he => absurd he (Nat.not_lt_zero e_s)⟩ (Nat.zero_le _)
  rcases hv with ⟨w1_s, w2_s⟩ | ⟨i_s, w1_s, w2_s, w3_s⟩
  · exact Or.inl ⟨w1_s, fun i_s hi1 => by rw [← g_s.2 i_s hi1]; exact w2_s i_s hi1⟩
  · exact Or.inr ⟨i_s, w1_s, w2_s, by rw [← g_s.2 i_s w1_s]; exact w3_s⟩
theorem d104_s {F_s : Nat} (hk : hKn h_s) (hc_s : tM nh ni nr f0_s) (i8_s : D88 h_s K_s nh ni f0_s F_s) (i3_s : D138 h_s K_s nh ni f0_s F_s) : D104 h_s K_s nh ni f0_s (F_s + 1) := by
  intro x1_s x2_s x3 l4 l5 p_s d_s f_s q_s hd_s
  have b_s := hc_s.1
  obtain ⟨g_s, hi_s, e1_s, hp, e3_s, ht, hu, hv⟩ := q_s
  have q_s : qS nh ni f0_s x1_s x2_s x3 p_s d_s f_s := ⟨g_s, hi_s, e1_s, hp, e3_s, ht, hu, hv⟩
  have e7_s : f_s 102 7 = f0_s 102 7 := g_s.1 _ _ (by omega)
  have mf : tM nh ni nr f_s := tM_fr (fun k_s _ _ => g_s.1 _ _ (by omega)) (fun k_s _ => g_s.1 _ _ (by omega)) hc_s
  obtain ⟨ek, eh⟩ := ky_fr (f_s := f_s) (f0_s := f0_s) (fun k_s => g_s.1 103 k_s (by omega))
  refine sg_200_104 (h_s := (h_s.1, f_s, h_s.2.2.1, h_s.2.2.2)) hk ?_
  dsimp only
  rw [e7_s, hc_s.2.1.2.1, e3_s]
  refine ⟨fun c1_s => ?_, fun c1_s => ?_⟩
  · have hdn : d_s < ni := by omega
    refine ⟨fun c2_s => i3_s x1_s x2_s x3 1 l5 p_s d_s f_s q_s hdn (fun w_s => absurd w_s (by decide)) (fun _ o ho w_s => ?_), fun c2_s => ?_⟩
    · rcases ht with u_s | ⟨i_s, u1_s, u2_s, u3⟩
      · exact absurd w_s (u_s.2 o ho)
      · omega
    · obtain ⟨i_s, u1_s, u2_s, u3⟩ : ∃ i_s : Nat, i_s < ni ∧ x2_s.toInt = (i_s : Int) ∧ hdR f0_s i_s = (p_s : Int) := by
        rcases ht with u_s | u_s
        · omega
        · exact u_s
      refine ⟨fun c3_s => i3_s x1_s x2_s x3 0 l5 p_s d_s f_s q_s hdn (fun _ w_s => ?_) (fun w_s => absurd rfl w_s), fun c3_s => ?_⟩
      · have ed : i_s = d_s := by omega
        have := w_s d_s hdn (by rw [← ed]; exact u3)
        omega
      · refine sp_195 (h_s := (h_s.1, f_s, h_s.2.2.1, h_s.2.2.2)) (f_s := f_s) (p_s := p_s) (i_s := d_s) (o := i_s) hk mf e1_s e3_s u2_s hp hdn u1_s (fun w_s _ => ⟨fun c_s => absurd c_s (by decide), fun _ => i3_s x1_s x2_s x3 1 l5 p_s d_s f_s q_s hdn (fun w_s => absurd w_s (by decide)) (fun _ o ho wo => ?_)⟩) (fun w_s _ => ⟨fun _ => i3_s x1_s x2_s x3 0 l5 p_s d_s f_s q_s hdn (fun _ wt => ?_) (fun w_s => absurd rfl w_s), fun c_s => absurd rfl c_s⟩)
        · have eo : o = i_s := hi_s o i_s ho u1_s (by omega) (by omega)
          rw [ek] at w_s
          rw [eo]
          exact w_s
        · rw [ek] at w_s
          exact w_s (wt i_s u1_s u3)
  · have ed : d_s = ni := by omega
    subst ed
    refine i8_s (x1_s + 1) _ _ l4 l5 (p_s + 1) f_s g_s hi_s (by rw [in1_ (by omega)]; omega) (by omega) (fun q1_s e_s hq he => ?_)
    by_cases eq_s : q1_s = p_s
    · rw [eq_s]
      exact hv e_s he
    · exact hu q1_s e_s (by omega) he
theorem d138_s {F_s : Nat} (hk : hKn h_s) (hc_s : tM nh ni nr f0_s) (i7_s : D178 h_s K_s nh ni f0_s F_s) : D138 h_s K_s nh ni f0_s (F_s + 1) := by
  intro x1_s x2_s x3 x4_s l5 p_s d_s f_s q_s hd_s h0 h1
  have b_s := hc_s.1
  obtain ⟨g_s, hi_s, e1_s, hp, e3_s, ht, hu, hv⟩ := q_s
  have q_s : qS nh ni f0_s x1_s x2_s x3 p_s d_s f_s := ⟨g_s, hi_s, e1_s, hp, e3_s, ht, hu, hv⟩
  have z3 := azix (i := x3) (by omega)
  have ez3 : zix x3 = d_s := by omega
  have mf : tM nh ni nr f_s := tM_fr (fun k_s _ _ => g_s.1 _ _ (by omega)) (fun k_s _ => g_s.1 _ _ (by omega)) hc_s
  obtain ⟨ek, eh⟩ := ky_fr (f_s := f_s) (f0_s := f0_s) (fun k_s => g_s.1 103 k_s (by omega))
  have bd := tM_hd hc_s hd_s
  have hdd : hdR f0_s d_s = (f0_s 103 (60 + d_s)).toInt := rfl
  refine sg_200_138 (h_s := (h_s.1, f_s, h_s.2.2.1, h_s.2.2.2)) hk ?_
  dsimp only
  rw [ez3]
  have gd_s := g_s.2 d_s hd_s
  generalize hw : f_s 116 d_s = w_s at gd_s
  rw [gd_s, e1_s]
  refine fun c1_s => ⟨fun c2_s => i7_s x1_s x2_s x3 x4_s 1 p_s d_s f_s q_s hd_s h0 h1 (fun w_s => absurd w_s (by decide)) (fun _ => ⟨by omega, fun q1_s _ w_s => by omega⟩), fun c2_s => ⟨fun c4_s => i7_s x1_s x2_s x3 x4_s 0 p_s d_s f_s q_s hd_s h0 h1 (fun _ w_s => w_s.1 c4_s) (fun w_s => absurd rfl w_s), fun c4_s => ?_⟩⟩
  have e9_s : w_s.toInt = ((hdR f0_s d_s).toNat : Int) := by omega
  refine sp_196 (h_s := (h_s.1, f_s, h_s.2.2.1, h_s.2.2.2)) (f_s := f_s) (p_s := p_s) (q_s := (hdR f0_s d_s).toNat) hk mf e1_s e9_s hp (by omega) (fun w1_s _ => ⟨fun c_s => absurd c_s (by decide), fun _ => i7_s x1_s x2_s x3 x4_s 1 p_s d_s f_s q_s hd_s h0 h1 (fun w_s => absurd w_s (by decide)) (fun _ => ⟨c4_s, fun q1_s _ w2_s => ?_⟩)⟩) (fun w1_s _ => ⟨fun _ => i7_s x1_s x2_s x3 x4_s 0 p_s d_s f_s q_s hd_s h0 h1 (fun _ w2_s => ?_) (fun w_s => absurd rfl w_s), fun c_s => absurd rfl c_s⟩)
  · rw [eh] at w1_s
    have eq_s : q1_s = (hdR f0_s d_s).toNat := by omega
    rw [eq_s]
    exact w1_s
  · rw [eh] at w1_s
    exact w1_s (w2_s.2 _ (by omega) (by omega))
theorem d178_s {F_s : Nat} (hk : hKn h_s) (hc_s : tM nh ni nr f0_s) (t0_s : ¬ stS nh ni (kyI f0_s) (hkI f0_s) (hdR f0_s) → ∀ f1_s, K_s 0 (h_s.1, f1_s, h_s.2.2.1, h_s.2.2.2)) (i1_s : D104 h_s K_s nh ni f0_s F_s) : D178 h_s K_s nh ni f0_s (F_s + 1) := by
  intro x1_s x2_s x3 x4_s x5_s p_s d_s f_s q_s hd_s h0 h1 h2 h3
  have b_s := hc_s.1
  obtain ⟨g_s, hi_s, e1_s, hp, e3_s, ht, hu, hv⟩ := q_s
  have nx : ¬ unS nh ni (kyI f0_s) (hkI f0_s) (hdR f0_s) p_s d_s → wF F_s 200 (104, [some (.ref 102), some (.int x1_s), some (.int x2_s), some (.int (x3 + 1)), some (.int x4_s), some (.int x5_s)], [], (h_s.1, f_s, h_s.2.2.1, h_s.2.2.2)) (gI K_s) := fun w_s => by
    refine i1_s x1_s x2_s (x3 + 1) _ _ p_s (d_s + 1) f_s ⟨g_s, hi_s, e1_s, hp, by rw [in1_ (by omega)]; omega, ht, hu, fun e_s he => ?_⟩ (by omega)
    by_cases ee : e_s = d_s
    · rw [ee]
      exact w_s
    · exact hv e_s (by omega)
  exact sg_200_178 (h_s := (h_s.1, f_s, h_s.2.2.1, h_s.2.2.2)) hk ⟨fun c1_s => nx (fun u_s => h0 c1_s u_s.2.1), fun c1_s => ⟨fun c2_s => nx (fun u_s => h2 c2_s ⟨u_s.1, u_s.2.2⟩), fun c2_s => t0_s (fun s_s => s_s.2 p_s d_s hp hd_s ⟨(h3 c2_s).1, h1 c1_s, (h3 c2_s).2⟩) f_s⟩⟩
theorem d_all (hk : hKn h_s) (hc_s : tM nh ni nr f0_s) (t1_s : stS nh ni (kyI f0_s) (hkI f0_s) (hdR f0_s) → ∀ f1_s, K_s 1 (h_s.1, f1_s, h_s.2.2.1, h_s.2.2.2)) (t0_s : ¬ stS nh ni (kyI f0_s) (hkI f0_s) (hdR f0_s) → ∀ f1_s, K_s 0 (h_s.1, f1_s, h_s.2.2.1, h_s.2.2.2)) : ∀ F_s, (D33 h_s K_s ni f0_s F_s ∧ D43 h_s K_s ni f0_s F_s) ∧ D88 h_s K_s nh ni f0_s F_s ∧ D104 h_s K_s nh ni f0_s F_s ∧ D138 h_s K_s nh ni f0_s F_s ∧ D178 h_s K_s nh ni f0_s F_s
  | 0 => ⟨⟨fun _ _ _ _ _ _ _ _ _ _ _ => wF_zero, fun _ _ _ _ _ _ _ _ _ _ _ _ _ _ _ => wF_zero⟩, fun _ _ _ _ _ _ _ _ _ _ _ _ => wF_zero, fun _ _ _ _ _ _ _ _ _ _ => wF_zero, fun _ _ _ _ _ _ _ _ _ _ _ _ => wF_zero, fun _ _ _ _ _ _ _ _ _ _ _ _ _ _ => wF_zero⟩
  | F_s + 1 => by
    obtain ⟨⟨i3_s, i4_s⟩, i8_s, i1_s, i13, i17⟩ := d_all hk hc_s t1_s t0_s F_s
    exact ⟨⟨d33_s hk hc_s i4_s i8_s, d43_s hk hc_s t0_s i3_s i4_s⟩, d88_s hk hc_s t1_s i1_s, d104_s hk hc_s i8_s i13, d138_s hk hc_s i17, d178_s hk hc_s t0_s i1_s⟩
theorem d2 (hk : hKn h_s) (hc_s : tM nh ni nr f0_s) (t1_s : stS nh ni (kyI f0_s) (hkI f0_s) (hdR f0_s) → ∀ f1_s, K_s 1 (h_s.1, f1_s, h_s.2.2.1, h_s.2.2.2)) (t0_s : ¬ stS nh ni (kyI f0_s) (hkI f0_s) (hdR f0_s) → ∀ f1_s, K_s 0 (h_s.1, f1_s, h_s.2.2.1, h_s.2.2.2)) : ∀ (F_s n_s : Nat) (x1_s : Int32) (l2 l3 l4 l5 : Option Value) (f_s : Nat → Nat → Int32), (∀ a_s k_s, ¬ a_s = 116 → f_s a_s k_s = f0_s a_s k_s) → (∀ i_s, i_s < n_s → (f_s 116 i_s).toInt = hdR f0_s i_s) → x1_s.toInt = (n_s : Int) → n_s ≤ ni → wF F_s 200 (2, [some (.ref 102), some (.int x1_s), l2, l3, l4, l5], [], (h_s.1, f_s, h_s.2.2.1, h_s.2.2.2)) (gI K_s)
  | 0, _, _, _, _, _, _, _, _, _, _, _ => wF_zero
  | F_s + 1, n_s, x1_s, l2, l3, l4, l5, f_s, g_s, g2, e1_s, hn => by
    have b_s := hc_s.1
    have z1 := azix (i := x1_s) (by omega)
    have ez1 : zix x1_s = n_s := by omega
    have e7_s : f_s 102 7 = f0_s 102 7 := g_s _ _ (by omega)
    have z60_s : zix (60 + x1_s) = 60 + n_s := zxa (c_s := 60) (a_s := 60) rfl e1_s (by omega)
    refine sg_200_2 (h_s := (h_s.1, f_s, h_s.2.2.1, h_s.2.2.2)) hk ?_
    dsimp only
    rw [e7_s, hc_s.2.1.2.1, ez1, z60_s, e1_s]
    refine ⟨fun c1_s => fun c2_s => fun c3_s => ?_, fun c1_s => ?_⟩
    · refine d2 hk hc_s t1_s t0_s F_s (n_s + 1) (x1_s + 1) l2 l3 l4 l5 _ (fun a_s k_s w_s => ?_) (fun i_s hi_s => ?_) (by rw [in1_ (by omega)]; omega) (by omega)
      · rw [zne_up (by omega)]
        exact g_s a_s k_s w_s
      · by_cases ei : i_s = n_s
        · rw [ei, zsame_up, g_s 103 _ (by omega)]
          rfl
        · rw [zne_up (by omega)]
          exact g2 i_s (by omega)
    · have en : n_s = ni := by omega
      subst en
      exact (d_all hk hc_s t1_s t0_s F_s).1.1 0 l2 l3 l4 l5 0 f_s ⟨g_s, g2⟩ rfl (Nat.zero_le _) (fun i_s j_s hi_s _ _ _ => absurd hi_s (Nat.not_lt_zero i_s))
theorem sp_200 {F_s : Nat} (hk : hKn h_s) (hc_s : tM nh ni nr f0_s) (t1_s : stS nh ni (kyI f0_s) (hkI f0_s) (hdR f0_s) → ∀ f1_s, K_s 1 (h_s.1, f1_s, h_s.2.2.1, h_s.2.2.2)) (t0_s : ¬ stS nh ni (kyI f0_s) (hkI f0_s) (hdR f0_s) → ∀ f1_s, K_s 0 (h_s.1, f1_s, h_s.2.2.1, h_s.2.2.2)) : wF F_s 200 (0, [some (.ref 102), none, none, none, none, none], [], (h_s.1, f0_s, h_s.2.2.1, h_s.2.2.2)) (gI K_s) := wF_le (Nat.le_succ F_s) (sg_200_0 (h_s := (h_s.1, f0_s, h_s.2.2.1, h_s.2.2.2)) hk (d2 hk hc_s t1_s t0_s F_s 0 0 none none none none f0_s (fun _ _ _ => rfl) (fun i_s hi_s => absurd hi_s (Nat.not_lt_zero i_s)) rfl (Nat.zero_le _)))
theorem pr_settled {F_s : Nat} (hk : hKn h_s) (hx : tX h_s) : wF F_s 108 (0, [some (.ref 6)], [], h_s) (gI (fun v_s h1 => wF F_s 200 (0, [some (.ref 102), none, none, none, none, none], [], h1) (gI (fun v2 _ => v_s = v2)))) := by
  obtain ⟨nh, ni, nr, hc_s, _, _, _, _, _⟩ := hx
  have m0_s := tC_M hc_s
  have eqd : ∀ i_s, i_s < ni → hdC h_s.2.1 i_s = hdR h_s.2.1 i_s := fun i_s hi_s => by
    show (h_s.2.1 (20 + i_s) 6).toInt = _
    rw [(tC_hd hc_s hi_s).1]
    rfl
  refine wF_le (Nat.le_succ F_s) (sg_108_0 (h_s := h_s) hk ?_)
  have rf : ∀ f1_s : Nat → Nat → Int32, (∀ a_s k_s, ¬ (a_s = 12 ∧ k_s < 6) → f1_s a_s k_s = h_s.2.1 a_s k_s) → ∀ v_s : Int32, (stS nh ni (kyI h_s.2.1) (hkI h_s.2.1) (hdC h_s.2.1) → v_s = 1) → (¬ stS nh ni (kyI h_s.2.1) (hkI h_s.2.1) (hdC h_s.2.1) → v_s = 0) → wF F_s 200 (0, [some (.ref 102), none, none, none, none, none], [], (h_s.1, f1_s, h_s.2.2.1, h_s.2.2.2)) (gI (fun v2 _ => v_s = v2)) := fun f1_s g_s v_s v1_s v0_s => by
    have m1_s : tM nh ni nr f1_s := tM_fr (fun k_s _ _ => g_s _ _ (by omega)) (fun k_s _ => g_s _ _ (by omega)) m0_s
    obtain ⟨ek, eh⟩ := ky_fr (f_s := f1_s) (f0_s := h_s.2.1) (fun k_s => g_s 103 k_s (by omega))
    have er : hdR f1_s = hdR h_s.2.1 := by
      funext i_s
      unfold hdR
      rw [g_s 103 _ (by omega)]
    refine sp_200 (h_s := (h_s.1, f1_s, h_s.2.2.1, h_s.2.2.2)) (f0_s := f1_s) hk m1_s (fun s_s _ => ?_) (fun s_s _ => ?_)
    · rw [ek, eh, er] at s_s
      exact v1_s (stS_c eqd s_s)
    · rw [ek, eh, er] at s_s
      exact v0_s (fun u_s => s_s (stS_c (fun i_s hi_s => (eqd i_s hi_s).symm) u_s))
  refine sp_30 (f0_s := h_s.2.1) hk hc_s (fun s_s f1_s g_s hk1 => ⟨fun c_s => absurd c_s (by decide), fun _ => rf f1_s g_s 1 (fun _ => rfl) (fun u_s => absurd s_s u_s)⟩) (fun s_s f1_s g_s hk1 => ⟨fun _ => rf f1_s g_s 0 (fun u_s => absurd u_s s_s) (fun _ => rfl), fun c_s => absurd rfl c_s⟩)
end SR
/-! What ended runs give: printed by a program (wip/fun/sg.py). -/
/-- ColdShod.strokes(III)I, from 0 on -/
theorem sg_104_0 {F_s : Nat} {x1_s : Int32} {x2_s : Int32} {x3 : Int32} {h_s : zH} {K_s : Int32 → zH → Prop} (hk : hKn h_s) (t_s : (x1_s.toInt < 0 → K_s (-1) h_s) ∧ (¬ x1_s.toInt < 0 → ((x1_s.toInt < 6 → ((x2_s.toInt < 0 → K_s (-1) h_s) ∧ (¬ x2_s.toInt < 0 → ((x2_s.toInt < (h_s.2.1 7 7).toInt → ((x3.toInt < -1 → K_s (-1) h_s) ∧ (¬ x3.toInt < -1 → (zix x1_s < 6 → wF F_s 140 (0, [some (.ref (76 + 2 * (zix x1_s)))], [], h_s) (gI (fun v7 h7 => hKn h7 → (v7.toInt = 0 → wF F_s 48 (0, [some (.ref 50), some (.ref (76 + 2 * (zix x1_s))), some (.int (h7.2.1 7 8)), none, none, none], [], h7) (gV (fun h10 => hKn h10 → (zix x2_s < 8 → wF F_s 82 (0, [some (.ref 52), some (.ref 50), some (.ref (20 + (zix x2_s))), some (.ref 7), none], [], h10) (gI (fun v12 h12 => hKn h12 → (x3.toInt = -1 → K_s v12 h12) ∧ (¬ x3.toInt = -1 → ((v12.toInt = -2 → K_s v12 h12) ∧ (¬ v12.toInt = -2 → ((x3.toInt < v12.toInt → (zix x3 < 4 → K_s (h12.2.1 53 (zix x3)) h12)) ∧ (¬ x3.toInt < v12.toInt → K_s (-2) h12))))))))))) ∧ (¬ v7.toInt = 0 → K_s v7 h7))))))) ∧ (¬ x2_s.toInt < (h_s.2.1 7 7).toInt → K_s (-1) h_s))))) ∧ (¬ x1_s.toInt < 6 → K_s (-1) h_s)))) : wF (F_s + 1) 104 (0, [some (.ref 6), some (.int x1_s), some (.int x2_s), some (.int x3), none, none], [], h_s) (gI K_s) := by
  refine w_0 (pc := 0) (e_s := (1, 1, 1, 0, 0, .null, [])) (y_s := (1, [some (.ref _), some (.int _), some (.int _), some (.int _), none, none], [.int _], _)) rfl (u_ rfl) ?_
  refine wcI (pc := 1) (len_s := 3) rfl rfl (l := [some (.int _)]) rfl ?_
  refine w_t (pc := 0) (e_s := (1, 1, 0, 0, 0, .null, [])) (y_s := (1, [some (.int _)], [.int _], _)) rfl (u_ rfl) ?_
  refine wq2 (pc := 1) (len_s := 3) rfl rfl (fun c1_s => ?_) (fun c1_s => ?_)
  · replace t_s := t_s.1 c1_s
    refine w_t (pc := 14) (e_s := (0, 1, 0, 0, 0, .int 0, [])) (y_s := (15, [some (.int _)], [.int _], _)) rfl (u_ rfl) ?_
    refine wrI (pc := 15) (len_s := 1) rfl hk ?_
    show wF _ 104 (4, [some (.ref _), some (.int _), some (.int _), some (.int _), none, none], [.int _], _) _
    refine w_t (pc := 4) (e_s := (15, 3, 23, 0, 0, .null, [])) (y_s := (23, [some (.ref _), some (.int _), some (.int _), some (.int _), none, none], [], _)) rfl (u_ rfl) ?_
    refine w_t (pc := 23) (e_s := (0, 1, 0, 0, 0, .int (-1), [])) (y_s := (24, [some (.ref _), some (.int _), some (.int _), some (.int _), none, none], [.int _], _)) rfl (u_ rfl) ?_
    exact wrI (pc := 24) (len_s := 1) rfl hk t_s
  · replace t_s := t_s.2 c1_s
    refine w_t (pc := 4) (e_s := (1, 1, 0, 0, 0, .null, [])) (y_s := (5, [some (.int _)], [.int _], _)) rfl (u_ rfl) ?_
    refine w_t (pc := 5) (e_s := (0, 2, 0, 0, 0, .int 6, [])) (y_s := (7, [some (.int _)], [.int _, .int _], _)) rfl (u_ rfl) ?_
    refine wi3 (pc := 7) (len_s := 3) (Y := 6) rfl rfl (by decide) (fun c2_s => ?_) (fun c2_s => ?_)
    · replace t_s := t_s.1 c2_s
      refine w_t (pc := 10) (e_s := (0, 1, 0, 0, 0, .int 1, [])) (y_s := (11, [some (.int _)], [.int _], _)) rfl (u_ rfl) ?_
      refine w_t (pc := 11) (e_s := (17, 3, 15, 0, 0, .null, [])) (y_s := (15, [some (.int _)], [.int _], _)) rfl (u_ rfl) ?_
      refine wrI (pc := 15) (len_s := 1) rfl hk ?_
      show wF _ 104 (4, [some (.ref _), some (.int _), some (.int _), some (.int _), none, none], [.int _], _) _
      refine w_t (pc := 4) (e_s := (15, 3, 23, 0, 0, .null, [])) (y_s := (7, [some (.ref _), some (.int _), some (.int _), some (.int _), none, none], [], _)) rfl (u_ rfl) ?_
      refine w_t (pc := 7) (e_s := (3, 1, 0, 0, 0, .null, [])) (y_s := (8, [some (.ref _), some (.int _), some (.int _), some (.int _), none, none], [.ref _], _)) rfl (u_ rfl) ?_
      refine w20r (pc := 8) (len_s := 3) (q_s := 7) rfl (krq hk rfl) ?_
      refine w_t (pc := 11) (e_s := (1, 1, 2, 0, 0, .null, [])) (y_s := (12, [some (.ref _), some (.int _), some (.int _), some (.int _), none, none], [.int _, .ref _], _)) rfl (u_ rfl) ?_
      refine wcI (pc := 12) (len_s := 3) rfl rfl (l := [some (.ref _), some (.int _)]) rfl ?_
      refine w_t (pc := 0) (e_s := (1, 1, 1, 0, 0, .null, [])) (y_s := (1, [some (.ref _), some (.int _)], [.int _], _)) rfl (u_ rfl) ?_
      refine wq2 (pc := 1) (len_s := 3) rfl rfl (fun c3_s => ?_) (fun c3_s => ?_)
      · replace t_s := t_s.1 c3_s
        refine w_t (pc := 16) (e_s := (0, 1, 0, 0, 0, .int 0, [])) (y_s := (17, [some (.ref _), some (.int _)], [.int _], _)) rfl (u_ rfl) ?_
        refine wrI (pc := 17) (len_s := 1) rfl hk ?_
        show wF _ 104 (15, [some (.ref _), some (.int _), some (.int _), some (.int _), none, none], [.int _], _) _
        refine w_t (pc := 15) (e_s := (15, 3, 23, 0, 0, .null, [])) (y_s := (23, [some (.ref _), some (.int _), some (.int _), some (.int _), none, none], [], _)) rfl (u_ rfl) ?_
        refine w_t (pc := 23) (e_s := (0, 1, 0, 0, 0, .int (-1), [])) (y_s := (24, [some (.ref _), some (.int _), some (.int _), some (.int _), none, none], [.int _], _)) rfl (u_ rfl) ?_
        exact wrI (pc := 24) (len_s := 1) rfl hk t_s
      · replace t_s := t_s.2 c3_s
        refine w_t (pc := 4) (e_s := (1, 1, 1, 0, 0, .null, [])) (y_s := (5, [some (.ref _), some (.int _)], [.int _], _)) rfl (u_ rfl) ?_
        refine w_t (pc := 5) (e_s := (3, 1, 0, 0, 0, .null, [])) (y_s := (6, [some (.ref _), some (.int _)], [.ref _, .int _], _)) rfl (u_ rfl) ?_
        refine w20 (pc := 6) (len_s := 3) rfl ?_
        refine wi3 (pc := 9) (len_s := 3) rfl rfl rfl (fun c4_s => ?_) (fun c4_s => ?_)
        · replace t_s := t_s.1 c4_s
          refine w_t (pc := 12) (e_s := (0, 1, 0, 0, 0, .int 1, [])) (y_s := (13, [some (.ref _), some (.int _)], [.int _], _)) rfl (u_ rfl) ?_
          refine w_t (pc := 13) (e_s := (17, 3, 17, 0, 0, .null, [])) (y_s := (17, [some (.ref _), some (.int _)], [.int _], _)) rfl (u_ rfl) ?_
          refine wrI (pc := 17) (len_s := 1) rfl hk ?_
          show wF _ 104 (15, [some (.ref _), some (.int _), some (.int _), some (.int _), none, none], [.int _], _) _
          refine w_t (pc := 15) (e_s := (15, 3, 23, 0, 0, .null, [])) (y_s := (18, [some (.ref _), some (.int _), some (.int _), some (.int _), none, none], [], _)) rfl (u_ rfl) ?_
          refine w_t (pc := 18) (e_s := (1, 1, 3, 0, 0, .null, [])) (y_s := (19, [some (.ref _), some (.int _), some (.int _), some (.int _), none, none], [.int _], _)) rfl (u_ rfl) ?_
          refine w_t (pc := 19) (e_s := (0, 1, 0, 0, 0, .int (-1), [])) (y_s := (20, [some (.ref _), some (.int _), some (.int _), some (.int _), none, none], [.int _, .int _], _)) rfl (u_ rfl) ?_
          refine wi3 (pc := 20) (len_s := 3) (Y := -1) rfl rfl (by decide) (fun c5_s => ?_) (fun c5_s => ?_)
          · replace t_s := t_s.1 c5_s
            refine w_t (pc := 23) (e_s := (0, 1, 0, 0, 0, .int (-1), [])) (y_s := (24, [some (.ref _), some (.int _), some (.int _), some (.int _), none, none], [.int _], _)) rfl (u_ rfl) ?_
            exact wrI (pc := 24) (len_s := 1) rfl hk t_s
          · replace t_s := t_s.2 c5_s
            refine w_t (pc := 25) (e_s := (3, 1, 0, 0, 0, .null, [])) (y_s := (26, [some (.ref _), some (.int _), some (.int _), some (.int _), none, none], [.ref _], _)) rfl (u_ rfl) ?_
            refine w20r (pc := 26) (len_s := 3) (q_s := 71) rfl (krq hk rfl) ?_
            refine w_t (pc := 29) (e_s := (1, 1, 1, 0, 0, .null, [])) (y_s := (30, [some (.ref _), some (.int _), some (.int _), some (.int _), none, none], [.int _, .ref _], _)) rfl (u_ rfl) ?_
            refine w24 (g_s := fun j_ => 76 + 2 * j_) (pc := 30) (len_s := 1) hk rfl (hk.1 71 4 6 rfl rfl) kg71 (fun c6_s => ?_)
            replace t_s := t_s c6_s
            refine wcI (pc := 31) (len_s := 3) rfl rfl (l := [some (.ref _)]) rfl (wmI t_s (fun v7 h7 hk t_s => ?_))
            replace t_s := t_s hk
            refine w_t (pc := 34) (e_s := (4, 2, 4, 0, 0, .null, [])) (y_s := (36, [some (.ref _), some (.int _), some (.int _), some (.int _), some (.int _), none], [], _)) rfl (u_ rfl) ?_
            refine w_t (pc := 36) (e_s := (1, 2, 4, 0, 0, .null, [])) (y_s := (38, [some (.ref _), some (.int _), some (.int _), some (.int _), some (.int _), none], [.int _], _)) rfl (u_ rfl) ?_
            refine wq0 (pc := 38) (len_s := 3) rfl rfl (fun c8_s => ?_) (fun c8_s => ?_)
            · replace t_s := t_s.1 c8_s
              refine w_t (pc := 44) (e_s := (3, 1, 0, 0, 0, .null, [])) (y_s := (45, [some (.ref _), some (.int _), some (.int _), some (.int _), some (.int _), none], [.ref _], _)) rfl (u_ rfl) ?_
              refine w20r (pc := 45) (len_s := 3) (q_s := 50) rfl (krq hk rfl) ?_
              refine w_t (pc := 48) (e_s := (3, 1, 0, 0, 0, .null, [])) (y_s := (49, [some (.ref _), some (.int _), some (.int _), some (.int _), some (.int _), none], [.ref _, .ref _], _)) rfl (u_ rfl) ?_
              refine w20r (pc := 49) (len_s := 3) (q_s := 71) rfl (krq hk rfl) ?_
              refine w_t (pc := 52) (e_s := (1, 1, 1, 0, 0, .null, [])) (y_s := (53, [some (.ref _), some (.int _), some (.int _), some (.int _), some (.int _), none], [.int _, .ref _, .ref _], _)) rfl (u_ rfl) ?_
              refine w24 (g_s := fun j_ => 76 + 2 * j_) (pc := 53) (len_s := 1) hk rfl (hk.1 71 4 6 rfl rfl) kg71 (fun c9_s => ?_)
              refine w_t (pc := 54) (e_s := (3, 1, 0, 0, 0, .null, [])) (y_s := (55, [some (.ref _), some (.int _), some (.int _), some (.int _), some (.int _), none], [.ref _, .ref _, .ref _], _)) rfl (u_ rfl) ?_
              refine w20r (pc := 55) (len_s := 3) (q_s := 7) rfl (krq hk rfl) ?_
              refine w20 (pc := 58) (len_s := 3) rfl ?_
              refine wcV (pc := 61) (len_s := 3) rfl rfl (l := [some (.ref _), some (.ref _), some (.int _), none, none, none]) rfl (wmV t_s (fun h10 hk t_s => ?_))
              replace t_s := t_s hk
              refine w_t (pc := 64) (e_s := (3, 1, 0, 0, 0, .null, [])) (y_s := (65, [some (.ref _), some (.int _), some (.int _), some (.int _), some (.int _), none], [.ref _], _)) rfl (u_ rfl) ?_
              refine w20r (pc := 65) (len_s := 3) (q_s := 52) rfl (krq hk rfl) ?_
              refine w_t (pc := 68) (e_s := (3, 1, 0, 0, 0, .null, [])) (y_s := (69, [some (.ref _), some (.int _), some (.int _), some (.int _), some (.int _), none], [.ref _, .ref _], _)) rfl (u_ rfl) ?_
              refine w20r (pc := 69) (len_s := 3) (q_s := 50) rfl (krq hk rfl) ?_
              refine w_t (pc := 72) (e_s := (3, 1, 0, 0, 0, .null, [])) (y_s := (73, [some (.ref _), some (.int _), some (.int _), some (.int _), some (.int _), none], [.ref _, .ref _, .ref _], _)) rfl (u_ rfl) ?_
              refine w20r (pc := 73) (len_s := 3) (q_s := 7) rfl (krq hk rfl) ?_
              refine w20r (pc := 76) (len_s := 3) (q_s := 10) rfl (krq hk rfl) ?_
              refine w_t (pc := 79) (e_s := (1, 1, 2, 0, 0, .null, [])) (y_s := (80, [some (.ref _), some (.int _), some (.int _), some (.int _), some (.int _), none], [.int _, .ref _, .ref _, .ref _], _)) rfl (u_ rfl) ?_
              refine w24 (g_s := fun j_ => 20 + j_) (pc := 80) (len_s := 1) hk rfl (hk.1 10 2 8 rfl rfl) kg10 (fun c11 => ?_)
              replace t_s := t_s c11
              refine w_t (pc := 81) (e_s := (3, 1, 0, 0, 0, .null, [])) (y_s := (82, [some (.ref _), some (.int _), some (.int _), some (.int _), some (.int _), none], [.ref _, .ref _, .ref _, .ref _], _)) rfl (u_ rfl) ?_
              refine w20r (pc := 82) (len_s := 3) (q_s := 7) rfl (krq hk rfl) ?_
              refine wcI (pc := 85) (len_s := 3) rfl rfl (l := [some (.ref _), some (.ref _), some (.ref _), some (.ref _), none]) rfl (wmI t_s (fun v12 h12 hk t_s => ?_))
              replace t_s := t_s hk
              refine w_t (pc := 88) (e_s := (4, 2, 5, 0, 0, .null, [])) (y_s := (90, [some (.ref _), some (.int _), some (.int _), some (.int _), some (.int _), some (.int _)], [], _)) rfl (u_ rfl) ?_
              refine w_t (pc := 90) (e_s := (1, 1, 3, 0, 0, .null, [])) (y_s := (91, [some (.ref _), some (.int _), some (.int _), some (.int _), some (.int _), some (.int _)], [.int _], _)) rfl (u_ rfl) ?_
              refine w_t (pc := 91) (e_s := (0, 1, 0, 0, 0, .int (-1), [])) (y_s := (92, [some (.ref _), some (.int _), some (.int _), some (.int _), some (.int _), some (.int _)], [.int _, .int _], _)) rfl (u_ rfl) ?_
              refine wi0 (pc := 92) (len_s := 3) (Y := -1) rfl rfl (by decide) (fun c13_s => ?_) (fun c13_s => ?_)
              · replace t_s := t_s.1 c13_s
                refine w_t (pc := 102) (e_s := (1, 2, 5, 0, 0, .null, [])) (y_s := (104, [some (.ref _), some (.int _), some (.int _), some (.int _), some (.int _), some (.int _)], [.int _], _)) rfl (u_ rfl) ?_
                exact wrI (pc := 104) (len_s := 1) rfl hk t_s
              · replace t_s := t_s.2 c13_s
                refine w_t (pc := 95) (e_s := (1, 2, 5, 0, 0, .null, [])) (y_s := (97, [some (.ref _), some (.int _), some (.int _), some (.int _), some (.int _), some (.int _)], [.int _], _)) rfl (u_ rfl) ?_
                refine w_t (pc := 97) (e_s := (0, 2, 0, 0, 0, .int (-2), [])) (y_s := (99, [some (.ref _), some (.int _), some (.int _), some (.int _), some (.int _), some (.int _)], [.int _, .int _], _)) rfl (u_ rfl) ?_
                refine wi1 (pc := 99) (len_s := 3) (Y := -2) rfl rfl (by decide) (fun c14_s => ?_) (fun c14_s => ?_)
                · replace t_s := t_s.1 c14_s
                  refine w_t (pc := 102) (e_s := (1, 2, 5, 0, 0, .null, [])) (y_s := (104, [some (.ref _), some (.int _), some (.int _), some (.int _), some (.int _), some (.int _)], [.int _], _)) rfl (u_ rfl) ?_
                  exact wrI (pc := 104) (len_s := 1) rfl hk t_s
                · replace t_s := t_s.2 c14_s
                  refine w_t (pc := 105) (e_s := (1, 1, 3, 0, 0, .null, [])) (y_s := (106, [some (.ref _), some (.int _), some (.int _), some (.int _), some (.int _), some (.int _)], [.int _], _)) rfl (u_ rfl) ?_
                  refine w_t (pc := 106) (e_s := (1, 2, 5, 0, 0, .null, [])) (y_s := (108, [some (.ref _), some (.int _), some (.int _), some (.int _), some (.int _), some (.int _)], [.int _, .int _], _)) rfl (u_ rfl) ?_
                  refine wi3 (pc := 108) (len_s := 3) rfl rfl rfl (fun c15_s => ?_) (fun c15_s => ?_)
                  · replace t_s := t_s.1 c15_s
                    refine w_t (pc := 111) (e_s := (3, 1, 0, 0, 0, .null, [])) (y_s := (112, [some (.ref _), some (.int _), some (.int _), some (.int _), some (.int _), some (.int _)], [.ref _], _)) rfl (u_ rfl) ?_
                    refine w20r (pc := 112) (len_s := 3) (q_s := 52) rfl (krq hk rfl) ?_
                    refine w20r (pc := 115) (len_s := 3) (q_s := 53) rfl (krq hk rfl) ?_
                    refine w_t (pc := 118) (e_s := (1, 1, 3, 0, 0, .null, [])) (y_s := (119, [some (.ref _), some (.int _), some (.int _), some (.int _), some (.int _), some (.int _)], [.int _, .ref _], _)) rfl (u_ rfl) ?_
                    refine w22 (pc := 119) (len_s := 1) rfl (hk.1 53 0 4 rfl rfl) (fun c16 => ?_)
                    replace t_s := t_s c16
                    refine w_t (pc := 120) (e_s := (17, 3, 125, 0, 0, .null, [])) (y_s := (125, [some (.ref _), some (.int _), some (.int _), some (.int _), some (.int _), some (.int _)], [.int _], _)) rfl (u_ rfl) ?_
                    exact wrI (pc := 125) (len_s := 1) rfl hk t_s
                  · replace t_s := t_s.2 c15_s
                    refine w_t (pc := 123) (e_s := (0, 2, 0, 0, 0, .int (-2), [])) (y_s := (125, [some (.ref _), some (.int _), some (.int _), some (.int _), some (.int _), some (.int _)], [.int _], _)) rfl (u_ rfl) ?_
                    exact wrI (pc := 125) (len_s := 1) rfl hk t_s
            · replace t_s := t_s.2 c8_s
              refine w_t (pc := 41) (e_s := (1, 2, 4, 0, 0, .null, [])) (y_s := (43, [some (.ref _), some (.int _), some (.int _), some (.int _), some (.int _), none], [.int _], _)) rfl (u_ rfl) ?_
              exact wrI (pc := 43) (len_s := 1) rfl hk t_s
        · replace t_s := t_s.2 c4_s
          refine w_t (pc := 16) (e_s := (0, 1, 0, 0, 0, .int 0, [])) (y_s := (17, [some (.ref _), some (.int _)], [.int _], _)) rfl (u_ rfl) ?_
          refine wrI (pc := 17) (len_s := 1) rfl hk ?_
          show wF _ 104 (15, [some (.ref _), some (.int _), some (.int _), some (.int _), none, none], [.int _], _) _
          refine w_t (pc := 15) (e_s := (15, 3, 23, 0, 0, .null, [])) (y_s := (23, [some (.ref _), some (.int _), some (.int _), some (.int _), none, none], [], _)) rfl (u_ rfl) ?_
          refine w_t (pc := 23) (e_s := (0, 1, 0, 0, 0, .int (-1), [])) (y_s := (24, [some (.ref _), some (.int _), some (.int _), some (.int _), none, none], [.int _], _)) rfl (u_ rfl) ?_
          exact wrI (pc := 24) (len_s := 1) rfl hk t_s
    · replace t_s := t_s.2 c2_s
      refine w_t (pc := 14) (e_s := (0, 1, 0, 0, 0, .int 0, [])) (y_s := (15, [some (.int _)], [.int _], _)) rfl (u_ rfl) ?_
      refine wrI (pc := 15) (len_s := 1) rfl hk ?_
      show wF _ 104 (4, [some (.ref _), some (.int _), some (.int _), some (.int _), none, none], [.int _], _) _
      refine w_t (pc := 4) (e_s := (15, 3, 23, 0, 0, .null, [])) (y_s := (23, [some (.ref _), some (.int _), some (.int _), some (.int _), none, none], [], _)) rfl (u_ rfl) ?_
      refine w_t (pc := 23) (e_s := (0, 1, 0, 0, 0, .int (-1), [])) (y_s := (24, [some (.ref _), some (.int _), some (.int _), some (.int _), none, none], [.int _], _)) rfl (u_ rfl) ?_
      exact wrI (pc := 24) (len_s := 1) rfl hk t_s
/-- ColdShod$StrokePlan.fewestFor(LColdShod$Journey;LColdShod$Idea;LColdShod$Country;)I, from 0 on -/
theorem sg_82_0 {F_s : Nat} {d_s : Nat} {h_s : zH} {K_s : Int32 → zH → Prop} (hk : hKn h_s) (t_s : wF F_s 86 (0, [some (.ref d_s)], [], h_s) (gI (fun v1_s h1 => hKn h1 → wF F_s 82 (25, [some (.ref 52), some (.ref 50), some (.ref d_s), some (.ref 7), some (.int 0)], [], (h1.1, zup (zup (zup h1.2.1 54 0 v1_s) 57 0 0) 52 6 1, h1.2.2.1, h1.2.2.2)) (gI K_s)))) : wF (F_s + 1) 82 (0, [some (.ref 52), some (.ref 50), some (.ref d_s), some (.ref 7), none], [], h_s) (gI K_s) := by
  refine w_0 (pc := 0) (e_s := (3, 1, 0, 0, 0, .null, [])) (y_s := (1, [some (.ref _), some (.ref _), some (.ref _), some (.ref _), none], [.ref _], _)) rfl (u_ rfl) ?_
  refine w20r (pc := 1) (len_s := 3) (q_s := 54) rfl (krq hk rfl) ?_
  refine w_t (pc := 4) (e_s := (0, 1, 0, 0, 0, .int 0, [])) (y_s := (5, [some (.ref _), some (.ref _), some (.ref _), some (.ref _), none], [.int _, .ref _], _)) rfl (u_ rfl) ?_
  refine w_t (pc := 5) (e_s := (3, 1, 2, 0, 0, .null, [])) (y_s := (6, [some (.ref _), some (.ref _), some (.ref _), some (.ref _), none], [.ref _, .int _, .ref _], _)) rfl (u_ rfl) ?_
  refine wcI (pc := 6) (len_s := 3) rfl rfl (l := [some (.ref _)]) rfl (wmI t_s (fun v1_s h1 hk t_s => ?_))
  replace t_s := t_s hk
  refine w25 (pc := 9) (len_s := 1) rfl (hk.1 54 0 341 rfl rfl) (fun c2_s => ?_)
  refine w_t (pc := 10) (e_s := (3, 1, 0, 0, 0, .null, [])) (y_s := (11, [some (.ref _), some (.ref _), some (.ref _), some (.ref _), none], [.ref _], _)) rfl (u_ rfl) ?_
  refine w20r (pc := 11) (len_s := 3) (q_s := 57) rfl (krq hk rfl) ?_
  refine w_t (pc := 14) (e_s := (0, 1, 0, 0, 0, .int 0, [])) (y_s := (15, [some (.ref _), some (.ref _), some (.ref _), some (.ref _), none], [.int _, .ref _], _)) rfl (u_ rfl) ?_
  refine w_t (pc := 15) (e_s := (0, 1, 0, 0, 0, .int 0, [])) (y_s := (16, [some (.ref _), some (.ref _), some (.ref _), some (.ref _), none], [.int _, .int _, .ref _], _)) rfl (u_ rfl) ?_
  refine w25 (pc := 16) (len_s := 1) rfl (hk.1 57 0 341 rfl rfl) (fun c3_s => ?_)
  refine w_t (pc := 17) (e_s := (3, 1, 0, 0, 0, .null, [])) (y_s := (18, [some (.ref _), some (.ref _), some (.ref _), some (.ref _), none], [.ref _], _)) rfl (u_ rfl) ?_
  refine w_t (pc := 18) (e_s := (0, 1, 0, 0, 0, .int 1, [])) (y_s := (19, [some (.ref _), some (.ref _), some (.ref _), some (.ref _), none], [.int _, .ref _], _)) rfl (u_ rfl) ?_
  refine w21 (pc := 19) (len_s := 3) rfl ?_
  refine w_t (pc := 22) (e_s := (0, 1, 0, 0, 0, .int 0, [])) (y_s := (23, [some (.ref _), some (.ref _), some (.ref _), some (.ref _), none], [.int _], _)) rfl (u_ rfl) ?_
  refine w_t (pc := 23) (e_s := (4, 2, 4, 0, 0, .null, [])) (y_s := (25, [some (.ref _), some (.ref _), some (.ref _), some (.ref _), some (.int _)], [], _)) rfl (u_ rfl) ?_
  exact t_s
/-- ColdShod$StrokePlan.fewestFor(LColdShod$Journey;LColdShod$Idea;LColdShod$Country;)I, from 25 on -/
theorem sg_82_25 {F_s : Nat} {d_s : Nat} {x4_s : Int32} {h_s : zH} {K_s : Int32 → zH → Prop} (hk : hKn h_s) (t_s : (x4_s.toInt < (h_s.2.1 52 6).toInt → ((x4_s.toInt < 341 → (zix x4_s < 341 → wF F_s 87 (0, [some (.ref 52), some (.ref d_s), some (.int (h_s.2.1 54 (zix x4_s)))], [], h_s) (gV (fun h4 => hKn h4 → wF F_s 49 (0, [some (.ref 50), some (.ref 58), some (.ref 7), none], [], h4) (gI (fun v5 h5 => hKn h5 → (v5.toInt = 0 → (((h5.2.1 57 (zix x4_s)).toInt < 4 → wF F_s 83 (0, [some (.ref 52), some (.ref d_s), some (.int x4_s), none, none], [], h5) (gV (fun h9 => hKn h9 → wF F_s 82 (25, [some (.ref 52), some (.ref 50), some (.ref d_s), some (.ref 7), some (.int (x4_s + 1))], [], h9) (gI K_s)))) ∧ (¬ (h5.2.1 57 (zix x4_s)).toInt < 4 → wF F_s 82 (25, [some (.ref 52), some (.ref 50), some (.ref d_s), some (.ref 7), some (.int (x4_s + 1))], [], h5) (gI K_s)))) ∧ (¬ v5.toInt = 0 → wF F_s 85 (0, [some (.ref 52), some (.int x4_s), none, none, none], [], h5) (gI (fun v10 h10 => hKn h10 → K_s v10 h10))))))))) ∧ (¬ x4_s.toInt < 341 → K_s (-2) h_s))) ∧ (¬ x4_s.toInt < (h_s.2.1 52 6).toInt → K_s (-2) h_s)) : wF (F_s + 1) 82 (25, [some (.ref 52), some (.ref 50), some (.ref d_s), some (.ref 7), some (.int x4_s)], [], h_s) (gI K_s) := by
  refine w_0 (pc := 25) (e_s := (1, 2, 4, 0, 0, .null, [])) (y_s := (27, [some (.ref _), some (.ref _), some (.ref _), some (.ref _), some (.int _)], [.int _], _)) rfl (u_ rfl) ?_
  refine w_t (pc := 27) (e_s := (3, 1, 0, 0, 0, .null, [])) (y_s := (28, [some (.ref _), some (.ref _), some (.ref _), some (.ref _), some (.int _)], [.ref _, .int _], _)) rfl (u_ rfl) ?_
  refine w20 (pc := 28) (len_s := 3) rfl ?_
  refine wi3 (pc := 31) (len_s := 3) rfl rfl rfl (fun c1_s => ?_) (fun c1_s => ?_)
  · replace t_s := t_s.1 c1_s
    refine w_t (pc := 34) (e_s := (1, 2, 4, 0, 0, .null, [])) (y_s := (36, [some (.ref _), some (.ref _), some (.ref _), some (.ref _), some (.int _)], [.int _], _)) rfl (u_ rfl) ?_
    refine w_t (pc := 36) (e_s := (0, 3, 0, 0, 0, .int 341, [])) (y_s := (39, [some (.ref _), some (.ref _), some (.ref _), some (.ref _), some (.int _)], [.int _, .int _], _)) rfl (u_ rfl) ?_
    refine wi3 (pc := 39) (len_s := 3) (Y := 341) rfl rfl (by decide) (fun c2_s => ?_) (fun c2_s => ?_)
    · replace t_s := t_s.1 c2_s
      refine w_t (pc := 42) (e_s := (3, 1, 0, 0, 0, .null, [])) (y_s := (43, [some (.ref _), some (.ref _), some (.ref _), some (.ref _), some (.int _)], [.ref _], _)) rfl (u_ rfl) ?_
      refine w_t (pc := 43) (e_s := (3, 1, 2, 0, 0, .null, [])) (y_s := (44, [some (.ref _), some (.ref _), some (.ref _), some (.ref _), some (.int _)], [.ref _, .ref _], _)) rfl (u_ rfl) ?_
      refine w_t (pc := 44) (e_s := (3, 1, 0, 0, 0, .null, [])) (y_s := (45, [some (.ref _), some (.ref _), some (.ref _), some (.ref _), some (.int _)], [.ref _, .ref _, .ref _], _)) rfl (u_ rfl) ?_
      refine w20r (pc := 45) (len_s := 3) (q_s := 54) rfl (krq hk rfl) ?_
      refine w_t (pc := 48) (e_s := (1, 2, 4, 0, 0, .null, [])) (y_s := (50, [some (.ref _), some (.ref _), some (.ref _), some (.ref _), some (.int _)], [.int _, .ref _, .ref _, .ref _], _)) rfl (u_ rfl) ?_
      refine w22 (pc := 50) (len_s := 1) rfl (hk.1 54 0 341 rfl rfl) (fun c3_s => ?_)
      replace t_s := t_s c3_s
      refine wcV (pc := 51) (len_s := 3) rfl rfl (l := [some (.ref _), some (.ref _), some (.int _)]) rfl (wmV t_s (fun h4 hk t_s => ?_))
      replace t_s := t_s hk
      refine w_t (pc := 54) (e_s := (3, 1, 1, 0, 0, .null, [])) (y_s := (55, [some (.ref _), some (.ref _), some (.ref _), some (.ref _), some (.int _)], [.ref _], _)) rfl (u_ rfl) ?_
      refine w_t (pc := 55) (e_s := (3, 1, 0, 0, 0, .null, [])) (y_s := (56, [some (.ref _), some (.ref _), some (.ref _), some (.ref _), some (.int _)], [.ref _, .ref _], _)) rfl (u_ rfl) ?_
      refine w20r (pc := 56) (len_s := 3) (q_s := 58) rfl (krq hk rfl) ?_
      refine w_t (pc := 59) (e_s := (3, 1, 3, 0, 0, .null, [])) (y_s := (60, [some (.ref _), some (.ref _), some (.ref _), some (.ref _), some (.int _)], [.ref _, .ref _, .ref _], _)) rfl (u_ rfl) ?_
      refine wcI (pc := 60) (len_s := 3) rfl rfl (l := [some (.ref _), some (.ref _), some (.ref _), none]) rfl (wmI t_s (fun v5 h5 hk t_s => ?_))
      replace t_s := t_s hk
      refine wq0 (pc := 63) (len_s := 3) rfl rfl (fun c6_s => ?_) (fun c6_s => ?_)
      · replace t_s := t_s.1 c6_s
        refine w_t (pc := 73) (e_s := (3, 1, 0, 0, 0, .null, [])) (y_s := (74, [some (.ref _), some (.ref _), some (.ref _), some (.ref _), some (.int _)], [.ref _], _)) rfl (u_ rfl) ?_
        refine w20r (pc := 74) (len_s := 3) (q_s := 57) rfl (krq hk rfl) ?_
        refine w_t (pc := 77) (e_s := (1, 2, 4, 0, 0, .null, [])) (y_s := (79, [some (.ref _), some (.ref _), some (.ref _), some (.ref _), some (.int _)], [.int _, .ref _], _)) rfl (u_ rfl) ?_
        refine w22 (pc := 79) (len_s := 1) rfl (hk.1 57 0 341 rfl rfl) (fun c7_s => ?_)
        refine w_t (pc := 80) (e_s := (0, 1, 0, 0, 0, .int 4, [])) (y_s := (81, [some (.ref _), some (.ref _), some (.ref _), some (.ref _), some (.int _)], [.int _, .int _], _)) rfl (u_ rfl) ?_
        refine wi3 (pc := 81) (len_s := 3) (Y := 4) rfl rfl (by decide) (fun c8_s => ?_) (fun c8_s => ?_)
        · replace t_s := t_s.1 c8_s
          refine w_t (pc := 84) (e_s := (3, 1, 0, 0, 0, .null, [])) (y_s := (85, [some (.ref _), some (.ref _), some (.ref _), some (.ref _), some (.int _)], [.ref _], _)) rfl (u_ rfl) ?_
          refine w_t (pc := 85) (e_s := (3, 1, 2, 0, 0, .null, [])) (y_s := (86, [some (.ref _), some (.ref _), some (.ref _), some (.ref _), some (.int _)], [.ref _, .ref _], _)) rfl (u_ rfl) ?_
          refine w_t (pc := 86) (e_s := (1, 2, 4, 0, 0, .null, [])) (y_s := (88, [some (.ref _), some (.ref _), some (.ref _), some (.ref _), some (.int _)], [.int _, .ref _, .ref _], _)) rfl (u_ rfl) ?_
          refine wcV (pc := 88) (len_s := 3) rfl rfl (l := [some (.ref _), some (.ref _), some (.int _), none, none]) rfl (wmV t_s (fun h9 hk t_s => ?_))
          replace t_s := t_s hk
          refine w_t (pc := 91) (e_s := (19, 3, 4, 0, 0, .int 1, [])) (y_s := (94, [some (.ref _), some (.ref _), some (.ref _), some (.ref _), some (.int _)], [], _)) rfl (u_ rfl) ?_
          refine w_t (pc := 94) (e_s := (17, 3, 25, 0, 0, .null, [])) (y_s := (25, [some (.ref _), some (.ref _), some (.ref _), some (.ref _), some (.int _)], [], _)) rfl (u_ rfl) ?_
          exact t_s
        · replace t_s := t_s.2 c8_s
          refine w_t (pc := 91) (e_s := (19, 3, 4, 0, 0, .int 1, [])) (y_s := (94, [some (.ref _), some (.ref _), some (.ref _), some (.ref _), some (.int _)], [], _)) rfl (u_ rfl) ?_
          refine w_t (pc := 94) (e_s := (17, 3, 25, 0, 0, .null, [])) (y_s := (25, [some (.ref _), some (.ref _), some (.ref _), some (.ref _), some (.int _)], [], _)) rfl (u_ rfl) ?_
          exact t_s
      · replace t_s := t_s.2 c6_s
        refine w_t (pc := 66) (e_s := (3, 1, 0, 0, 0, .null, [])) (y_s := (67, [some (.ref _), some (.ref _), some (.ref _), some (.ref _), some (.int _)], [.ref _], _)) rfl (u_ rfl) ?_
        refine w_t (pc := 67) (e_s := (1, 2, 4, 0, 0, .null, [])) (y_s := (69, [some (.ref _), some (.ref _), some (.ref _), some (.ref _), some (.int _)], [.int _, .ref _], _)) rfl (u_ rfl) ?_
        refine wcI (pc := 69) (len_s := 3) rfl rfl (l := [some (.ref _), some (.int _), none, none, none]) rfl (wmI t_s (fun v10 h10 hk t_s => ?_))
        replace t_s := t_s hk
        exact wrI (pc := 72) (len_s := 1) rfl hk t_s
    · replace t_s := t_s.2 c2_s
      refine w_t (pc := 97) (e_s := (0, 2, 0, 0, 0, .int (-2), [])) (y_s := (99, [some (.ref _), some (.ref _), some (.ref _), some (.ref _), some (.int _)], [.int _], _)) rfl (u_ rfl) ?_
      exact wrI (pc := 99) (len_s := 1) rfl hk t_s
  · replace t_s := t_s.2 c1_s
    refine w_t (pc := 97) (e_s := (0, 2, 0, 0, 0, .int (-2), [])) (y_s := (99, [some (.ref _), some (.ref _), some (.ref _), some (.ref _), some (.int _)], [.int _], _)) rfl (u_ rfl) ?_
    exact wrI (pc := 99) (len_s := 1) rfl hk t_s
/-- ColdShod$StrokePlan.addNext(LColdShod$Idea;I)V, from 0 on -/
theorem sg_83_0 {F_s : Nat} {d_s : Nat} {x2_s : Int32} {h_s : zH} {K_s : zH → Prop} (hk : hKn h_s) (t_s : wF F_s 83 (2, [some (.ref 52), some (.ref d_s), some (.int x2_s), some (.int 0), none], [], h_s) (gV K_s)) : wF (F_s + 1) 83 (0, [some (.ref 52), some (.ref d_s), some (.int x2_s), none, none], [], h_s) (gV K_s) := by
  refine w_0 (pc := 0) (e_s := (0, 1, 0, 0, 0, .int 0, [])) (y_s := (1, [some (.ref _), some (.ref _), some (.int _), none, none], [.int _], _)) rfl (u_ rfl) ?_
  refine w_t (pc := 1) (e_s := (4, 1, 3, 0, 0, .null, [])) (y_s := (2, [some (.ref _), some (.ref _), some (.int _), some (.int _), none], [], _)) rfl (u_ rfl) ?_
  exact t_s
/-- ColdShod$StrokePlan.addNext(LColdShod$Idea;I)V, from 2 on -/
theorem sg_83_2 {F_s : Nat} {d_s : Nat} {x2_s x3 : Int32} {l4 : Option Value} {h_s : zH} {K_s : zH → Prop} (hk : hKn h_s) (t_s : (x3.toInt < 4 → (zix x2_s < 341 → wF F_s 87 (0, [some (.ref 52), some (.ref d_s), some (.int (h_s.2.1 54 (zix x2_s)))], [], h_s) (gV (fun h3 => hKn h3 → wF F_s 43 (0, [some (.ref 58), some (.int x3)], [], h3) (gI (fun v4_s h4 => hKn h4 → (v4_s.toInt = 0 → wF F_s 83 (2, [some (.ref 52), some (.ref d_s), some (.int x2_s), some (.int (x3 + 1)), l4], [], h4) (gV K_s)) ∧ (¬ v4_s.toInt = 0 → wF F_s 86 (0, [some (.ref 58)], [], h4) (gI (fun v6 h6 => hKn h6 → wF F_s 84 (0, [some (.ref 52), some (.int v6), none], [], h6) (gI (fun v7 h7 => hKn h7 → (v7.toInt = 0 → (((h7.2.1 52 6).toInt < 341 → (zix (h7.2.1 52 6) < 341 → wF F_s 83 (2, [some (.ref 52), some (.ref d_s), some (.int x2_s), some (.int (x3 + 1)), some (.int v6)], [], (h7.1, zup (zup (zup (zup (zup h7.2.1 54 (zix (h7.2.1 52 6)) v6) 55 (zix (h7.2.1 52 6)) x2_s) 56 (zix (h7.2.1 52 6)) x3) 57 (zix (h7.2.1 52 6)) ((h7.2.1 57 (zix x2_s)) + 1)) 52 6 ((h7.2.1 52 6) + 1), h7.2.2.1, h7.2.2.2)) (gV K_s))) ∧ (¬ (h7.2.1 52 6).toInt < 341 → wF F_s 83 (2, [some (.ref 52), some (.ref d_s), some (.int x2_s), some (.int (x3 + 1)), some (.int v6)], [], h7) (gV K_s)))) ∧ (¬ v7.toInt = 0 → wF F_s 83 (2, [some (.ref 52), some (.ref d_s), some (.int x2_s), some (.int (x3 + 1)), some (.int v6)], [], h7) (gV K_s))))))))))))) ∧ (¬ x3.toInt < 4 → K_s h_s)) : wF (F_s + 1) 83 (2, [some (.ref 52), some (.ref d_s), some (.int x2_s), some (.int x3), l4], [], h_s) (gV K_s) := by
  refine w_0 (pc := 2) (e_s := (1, 1, 3, 0, 0, .null, [])) (y_s := (3, [some (.ref _), some (.ref _), some (.int _), some (.int _), _], [.int _], _)) rfl (u_ rfl) ?_
  refine w_t (pc := 3) (e_s := (0, 1, 0, 0, 0, .int 4, [])) (y_s := (4, [some (.ref _), some (.ref _), some (.int _), some (.int _), _], [.int _, .int _], _)) rfl (u_ rfl) ?_
  refine wi3 (pc := 4) (len_s := 3) (Y := 4) rfl rfl (by decide) (fun c1_s => ?_) (fun c1_s => ?_)
  · replace t_s := t_s.1 c1_s
    refine w_t (pc := 7) (e_s := (3, 1, 0, 0, 0, .null, [])) (y_s := (8, [some (.ref _), some (.ref _), some (.int _), some (.int _), _], [.ref _], _)) rfl (u_ rfl) ?_
    refine w_t (pc := 8) (e_s := (3, 1, 1, 0, 0, .null, [])) (y_s := (9, [some (.ref _), some (.ref _), some (.int _), some (.int _), _], [.ref _, .ref _], _)) rfl (u_ rfl) ?_
    refine w_t (pc := 9) (e_s := (3, 1, 0, 0, 0, .null, [])) (y_s := (10, [some (.ref _), some (.ref _), some (.int _), some (.int _), _], [.ref _, .ref _, .ref _], _)) rfl (u_ rfl) ?_
    refine w20r (pc := 10) (len_s := 3) (q_s := 54) rfl (krq hk rfl) ?_
    refine w_t (pc := 13) (e_s := (1, 1, 2, 0, 0, .null, [])) (y_s := (14, [some (.ref _), some (.ref _), some (.int _), some (.int _), _], [.int _, .ref _, .ref _, .ref _], _)) rfl (u_ rfl) ?_
    refine w22 (pc := 14) (len_s := 1) rfl (hk.1 54 0 341 rfl rfl) (fun c2_s => ?_)
    replace t_s := t_s c2_s
    refine wcV (pc := 15) (len_s := 3) rfl rfl (l := [some (.ref _), some (.ref _), some (.int _)]) rfl (wmV t_s (fun h3 hk t_s => ?_))
    replace t_s := t_s hk
    refine w_t (pc := 18) (e_s := (3, 1, 0, 0, 0, .null, [])) (y_s := (19, [some (.ref _), some (.ref _), some (.int _), some (.int _), _], [.ref _], _)) rfl (u_ rfl) ?_
    refine w20r (pc := 19) (len_s := 3) (q_s := 58) rfl (krq hk rfl) ?_
    refine w_t (pc := 22) (e_s := (1, 1, 3, 0, 0, .null, [])) (y_s := (23, [some (.ref _), some (.ref _), some (.int _), some (.int _), _], [.int _, .ref _], _)) rfl (u_ rfl) ?_
    refine wcI (pc := 23) (len_s := 3) rfl rfl (l := [some (.ref _), some (.int _)]) rfl (wmI t_s (fun v4_s h4 hk t_s => ?_))
    replace t_s := t_s hk
    refine wq1 (pc := 26) (len_s := 3) rfl rfl (fun c5_s => ?_) (fun c5_s => ?_)
    · replace t_s := t_s.1 c5_s
      refine w_t (pc := 29) (e_s := (17, 3, 121, 0, 0, .null, [])) (y_s := (121, [some (.ref _), some (.ref _), some (.int _), some (.int _), _], [], _)) rfl (u_ rfl) ?_
      refine w_t (pc := 121) (e_s := (19, 3, 3, 0, 0, .int 1, [])) (y_s := (124, [some (.ref _), some (.ref _), some (.int _), some (.int _), _], [], _)) rfl (u_ rfl) ?_
      refine w_t (pc := 124) (e_s := (17, 3, 2, 0, 0, .null, [])) (y_s := (2, [some (.ref _), some (.ref _), some (.int _), some (.int _), _], [], _)) rfl (u_ rfl) ?_
      exact t_s
    · replace t_s := t_s.2 c5_s
      refine w_t (pc := 32) (e_s := (3, 1, 0, 0, 0, .null, [])) (y_s := (33, [some (.ref _), some (.ref _), some (.int _), some (.int _), _], [.ref _], _)) rfl (u_ rfl) ?_
      refine w20r (pc := 33) (len_s := 3) (q_s := 58) rfl (krq hk rfl) ?_
      refine wcI (pc := 36) (len_s := 3) rfl rfl (l := [some (.ref _)]) rfl (wmI t_s (fun v6 h6 hk t_s => ?_))
      replace t_s := t_s hk
      refine w_t (pc := 39) (e_s := (4, 2, 4, 0, 0, .null, [])) (y_s := (41, [some (.ref _), some (.ref _), some (.int _), some (.int _), some (.int _)], [], _)) rfl (u_ rfl) ?_
      refine w_t (pc := 41) (e_s := (3, 1, 0, 0, 0, .null, [])) (y_s := (42, [some (.ref _), some (.ref _), some (.int _), some (.int _), some (.int _)], [.ref _], _)) rfl (u_ rfl) ?_
      refine w_t (pc := 42) (e_s := (1, 2, 4, 0, 0, .null, [])) (y_s := (44, [some (.ref _), some (.ref _), some (.int _), some (.int _), some (.int _)], [.int _, .ref _], _)) rfl (u_ rfl) ?_
      refine wcI (pc := 44) (len_s := 3) rfl rfl (l := [some (.ref _), some (.int _), none]) rfl (wmI t_s (fun v7 h7 hk t_s => ?_))
      replace t_s := t_s hk
      refine wq1 (pc := 47) (len_s := 3) rfl rfl (fun c8_s => ?_) (fun c8_s => ?_)
      · replace t_s := t_s.1 c8_s
        refine w_t (pc := 50) (e_s := (3, 1, 0, 0, 0, .null, [])) (y_s := (51, [some (.ref _), some (.ref _), some (.int _), some (.int _), some (.int _)], [.ref _], _)) rfl (u_ rfl) ?_
        refine w20 (pc := 51) (len_s := 3) rfl ?_
        refine w_t (pc := 54) (e_s := (0, 3, 0, 0, 0, .int 341, [])) (y_s := (57, [some (.ref _), some (.ref _), some (.int _), some (.int _), some (.int _)], [.int _, .int _], _)) rfl (u_ rfl) ?_
        refine wi2 (pc := 57) (len_s := 3) (Y := 341) rfl rfl (by decide) (fun c9_s => ?_) (fun c9_s => ?_)
        · replace t_s := t_s.1 c9_s
          refine w_t (pc := 63) (e_s := (3, 1, 0, 0, 0, .null, [])) (y_s := (64, [some (.ref _), some (.ref _), some (.int _), some (.int _), some (.int _)], [.ref _], _)) rfl (u_ rfl) ?_
          refine w20r (pc := 64) (len_s := 3) (q_s := 54) rfl (krq hk rfl) ?_
          refine w_t (pc := 67) (e_s := (3, 1, 0, 0, 0, .null, [])) (y_s := (68, [some (.ref _), some (.ref _), some (.int _), some (.int _), some (.int _)], [.ref _, .ref _], _)) rfl (u_ rfl) ?_
          refine w20 (pc := 68) (len_s := 3) rfl ?_
          refine w_t (pc := 71) (e_s := (1, 2, 4, 0, 0, .null, [])) (y_s := (73, [some (.ref _), some (.ref _), some (.int _), some (.int _), some (.int _)], [.int _, .int _, .ref _], _)) rfl (u_ rfl) ?_
          refine w25 (pc := 73) (len_s := 1) rfl (hk.1 54 0 341 rfl rfl) (fun c10_s => ?_)
          replace t_s := t_s c10_s
          refine w_t (pc := 74) (e_s := (3, 1, 0, 0, 0, .null, [])) (y_s := (75, [some (.ref _), some (.ref _), some (.int _), some (.int _), some (.int _)], [.ref _], _)) rfl (u_ rfl) ?_
          refine w20r (pc := 75) (len_s := 3) (q_s := 55) rfl (krq hk rfl) ?_
          refine w_t (pc := 78) (e_s := (3, 1, 0, 0, 0, .null, [])) (y_s := (79, [some (.ref _), some (.ref _), some (.int _), some (.int _), some (.int _)], [.ref _, .ref _], _)) rfl (u_ rfl) ?_
          refine w20 (pc := 79) (len_s := 3) rfl ?_
          refine w_t (pc := 82) (e_s := (1, 1, 2, 0, 0, .null, [])) (y_s := (83, [some (.ref _), some (.ref _), some (.int _), some (.int _), some (.int _)], [.int _, .int _, .ref _], _)) rfl (u_ rfl) ?_
          refine w25 (pc := 83) (len_s := 1) rfl (hk.1 55 0 341 rfl rfl) (fun c11 => ?_)
          refine w_t (pc := 84) (e_s := (3, 1, 0, 0, 0, .null, [])) (y_s := (85, [some (.ref _), some (.ref _), some (.int _), some (.int _), some (.int _)], [.ref _], _)) rfl (u_ rfl) ?_
          refine w20r (pc := 85) (len_s := 3) (q_s := 56) rfl (krq hk rfl) ?_
          refine w_t (pc := 88) (e_s := (3, 1, 0, 0, 0, .null, [])) (y_s := (89, [some (.ref _), some (.ref _), some (.int _), some (.int _), some (.int _)], [.ref _, .ref _], _)) rfl (u_ rfl) ?_
          refine w20 (pc := 89) (len_s := 3) rfl ?_
          refine w_t (pc := 92) (e_s := (1, 1, 3, 0, 0, .null, [])) (y_s := (93, [some (.ref _), some (.ref _), some (.int _), some (.int _), some (.int _)], [.int _, .int _, .ref _], _)) rfl (u_ rfl) ?_
          refine w25 (pc := 93) (len_s := 1) rfl (hk.1 56 0 341 rfl rfl) (fun c12_s => ?_)
          refine w_t (pc := 94) (e_s := (3, 1, 0, 0, 0, .null, [])) (y_s := (95, [some (.ref _), some (.ref _), some (.int _), some (.int _), some (.int _)], [.ref _], _)) rfl (u_ rfl) ?_
          refine w20r (pc := 95) (len_s := 3) (q_s := 57) rfl (krq hk rfl) ?_
          refine w_t (pc := 98) (e_s := (3, 1, 0, 0, 0, .null, [])) (y_s := (99, [some (.ref _), some (.ref _), some (.int _), some (.int _), some (.int _)], [.ref _, .ref _], _)) rfl (u_ rfl) ?_
          refine w20 (pc := 99) (len_s := 3) rfl ?_
          refine w_t (pc := 102) (e_s := (3, 1, 0, 0, 0, .null, [])) (y_s := (103, [some (.ref _), some (.ref _), some (.int _), some (.int _), some (.int _)], [.ref _, .int _, .ref _], _)) rfl (u_ rfl) ?_
          refine w20r (pc := 103) (len_s := 3) (q_s := 57) rfl (krq hk rfl) ?_
          refine w_t (pc := 106) (e_s := (1, 1, 2, 0, 0, .null, [])) (y_s := (107, [some (.ref _), some (.ref _), some (.int _), some (.int _), some (.int _)], [.int _, .ref _, .int _, .ref _], _)) rfl (u_ rfl) ?_
          refine w22 (pc := 107) (len_s := 1) rfl (hk.1 57 0 341 rfl rfl) (fun c13_s => ?_)
          refine w_t (pc := 108) (e_s := (0, 1, 0, 0, 0, .int 1, [])) (y_s := (109, [some (.ref _), some (.ref _), some (.int _), some (.int _), some (.int _)], [.int _, .int _, .int _, .ref _], _)) rfl (u_ rfl) ?_
          refine w_t (pc := 109) (e_s := (7, 1, 0, 0, 0, .null, [])) (y_s := (110, [some (.ref _), some (.ref _), some (.int _), some (.int _), some (.int _)], [.int (_ + _), .int _, .ref _], _)) rfl (u_ rfl) ?_
          refine w25 (pc := 110) (len_s := 1) rfl (hk.1 57 0 341 rfl rfl) (fun c14_s => ?_)
          refine w_t (pc := 111) (e_s := (3, 1, 0, 0, 0, .null, [])) (y_s := (112, [some (.ref _), some (.ref _), some (.int _), some (.int _), some (.int _)], [.ref _], _)) rfl (u_ rfl) ?_
          refine w_t (pc := 112) (e_s := (39, 1, 0, 0, 0, .null, [])) (y_s := (113, [some (.ref _), some (.ref _), some (.int _), some (.int _), some (.int _)], [.ref _, .ref _], _)) rfl (u_ rfl) ?_
          refine w20 (pc := 113) (len_s := 3) rfl ?_
          refine w_t (pc := 116) (e_s := (0, 1, 0, 0, 0, .int 1, [])) (y_s := (117, [some (.ref _), some (.ref _), some (.int _), some (.int _), some (.int _)], [.int _, .int _, .ref _], _)) rfl (u_ rfl) ?_
          refine w_t (pc := 117) (e_s := (7, 1, 0, 0, 0, .null, [])) (y_s := (118, [some (.ref _), some (.ref _), some (.int _), some (.int _), some (.int _)], [.int (_ + _), .ref _], _)) rfl (u_ rfl) ?_
          refine w21 (pc := 118) (len_s := 3) rfl ?_
          refine w_t (pc := 121) (e_s := (19, 3, 3, 0, 0, .int 1, [])) (y_s := (124, [some (.ref _), some (.ref _), some (.int _), some (.int _), some (.int _)], [], _)) rfl (u_ rfl) ?_
          refine w_t (pc := 124) (e_s := (17, 3, 2, 0, 0, .null, [])) (y_s := (2, [some (.ref _), some (.ref _), some (.int _), some (.int _), some (.int _)], [], _)) rfl (u_ rfl) ?_
          exact t_s
        · replace t_s := t_s.2 c9_s
          refine w_t (pc := 60) (e_s := (17, 3, 121, 0, 0, .null, [])) (y_s := (121, [some (.ref _), some (.ref _), some (.int _), some (.int _), some (.int _)], [], _)) rfl (u_ rfl) ?_
          refine w_t (pc := 121) (e_s := (19, 3, 3, 0, 0, .int 1, [])) (y_s := (124, [some (.ref _), some (.ref _), some (.int _), some (.int _), some (.int _)], [], _)) rfl (u_ rfl) ?_
          refine w_t (pc := 124) (e_s := (17, 3, 2, 0, 0, .null, [])) (y_s := (2, [some (.ref _), some (.ref _), some (.int _), some (.int _), some (.int _)], [], _)) rfl (u_ rfl) ?_
          exact t_s
      · replace t_s := t_s.2 c8_s
        refine w_t (pc := 121) (e_s := (19, 3, 3, 0, 0, .int 1, [])) (y_s := (124, [some (.ref _), some (.ref _), some (.int _), some (.int _), some (.int _)], [], _)) rfl (u_ rfl) ?_
        refine w_t (pc := 124) (e_s := (17, 3, 2, 0, 0, .null, [])) (y_s := (2, [some (.ref _), some (.ref _), some (.int _), some (.int _), some (.int _)], [], _)) rfl (u_ rfl) ?_
        exact t_s
  · replace t_s := t_s.2 c1_s
    exact wrV (pc := 127) (len_s := 1) rfl hk t_s
/-- ColdShod$StrokePlan.isFound(I)Z, from 0 on -/
theorem sg_84_0 {F_s : Nat} {x1_s : Int32} {h_s : zH} {K_s : Int32 → zH → Prop} (hk : hKn h_s) (t_s : wF F_s 84 (2, [some (.ref 52), some (.int x1_s), some (.int 0)], [], h_s) (gI K_s)) : wF (F_s + 1) 84 (0, [some (.ref 52), some (.int x1_s), none], [], h_s) (gI K_s) := by
  refine w_0 (pc := 0) (e_s := (0, 1, 0, 0, 0, .int 0, [])) (y_s := (1, [some (.ref _), some (.int _), none], [.int _], _)) rfl (u_ rfl) ?_
  refine w_t (pc := 1) (e_s := (4, 1, 2, 0, 0, .null, [])) (y_s := (2, [some (.ref _), some (.int _), some (.int _)], [], _)) rfl (u_ rfl) ?_
  exact t_s
/-- ColdShod$StrokePlan.isFound(I)Z, from 2 on -/
theorem sg_84_2 {F_s : Nat} {x1_s x2_s : Int32} {h_s : zH} {K_s : Int32 → zH → Prop} (hk : hKn h_s) (t_s : (x2_s.toInt < (h_s.2.1 52 6).toInt → (zix x2_s < 341 → ((h_s.2.1 54 (zix x2_s)).toInt = x1_s.toInt → K_s 1 h_s) ∧ (¬ (h_s.2.1 54 (zix x2_s)).toInt = x1_s.toInt → wF F_s 84 (2, [some (.ref 52), some (.int x1_s), some (.int (x2_s + 1))], [], h_s) (gI K_s)))) ∧ (¬ x2_s.toInt < (h_s.2.1 52 6).toInt → K_s 0 h_s)) : wF (F_s + 1) 84 (2, [some (.ref 52), some (.int x1_s), some (.int x2_s)], [], h_s) (gI K_s) := by
  refine w_0 (pc := 2) (e_s := (1, 1, 2, 0, 0, .null, [])) (y_s := (3, [some (.ref _), some (.int _), some (.int _)], [.int _], _)) rfl (u_ rfl) ?_
  refine w_t (pc := 3) (e_s := (3, 1, 0, 0, 0, .null, [])) (y_s := (4, [some (.ref _), some (.int _), some (.int _)], [.ref _, .int _], _)) rfl (u_ rfl) ?_
  refine w20 (pc := 4) (len_s := 3) rfl ?_
  refine wi3 (pc := 7) (len_s := 3) rfl rfl rfl (fun c1_s => ?_) (fun c1_s => ?_)
  · replace t_s := t_s.1 c1_s
    refine w_t (pc := 10) (e_s := (3, 1, 0, 0, 0, .null, [])) (y_s := (11, [some (.ref _), some (.int _), some (.int _)], [.ref _], _)) rfl (u_ rfl) ?_
    refine w20r (pc := 11) (len_s := 3) (q_s := 54) rfl (krq hk rfl) ?_
    refine w_t (pc := 14) (e_s := (1, 1, 2, 0, 0, .null, [])) (y_s := (15, [some (.ref _), some (.int _), some (.int _)], [.int _, .ref _], _)) rfl (u_ rfl) ?_
    refine w22 (pc := 15) (len_s := 1) rfl (hk.1 54 0 341 rfl rfl) (fun c2_s => ?_)
    replace t_s := t_s c2_s
    refine w_t (pc := 16) (e_s := (1, 1, 1, 0, 0, .null, [])) (y_s := (17, [some (.ref _), some (.int _), some (.int _)], [.int _, .int _], _)) rfl (u_ rfl) ?_
    refine wi1 (pc := 17) (len_s := 3) rfl rfl rfl (fun c3_s => ?_) (fun c3_s => ?_)
    · replace t_s := t_s.1 c3_s
      refine w_t (pc := 20) (e_s := (0, 1, 0, 0, 0, .int 1, [])) (y_s := (21, [some (.ref _), some (.int _), some (.int _)], [.int _], _)) rfl (u_ rfl) ?_
      exact wrI (pc := 21) (len_s := 1) rfl hk t_s
    · replace t_s := t_s.2 c3_s
      refine w_t (pc := 22) (e_s := (19, 3, 2, 0, 0, .int 1, [])) (y_s := (25, [some (.ref _), some (.int _), some (.int _)], [], _)) rfl (u_ rfl) ?_
      refine w_t (pc := 25) (e_s := (17, 3, 2, 0, 0, .null, [])) (y_s := (2, [some (.ref _), some (.int _), some (.int _)], [], _)) rfl (u_ rfl) ?_
      exact t_s
  · replace t_s := t_s.2 c1_s
    refine w_t (pc := 28) (e_s := (0, 1, 0, 0, 0, .int 0, [])) (y_s := (29, [some (.ref _), some (.int _), some (.int _)], [.int _], _)) rfl (u_ rfl) ?_
    exact wrI (pc := 29) (len_s := 1) rfl hk t_s
/-- ColdShod$StrokePlan.tellPlan(I)I, from 0 on -/
theorem sg_85_0 {F_s : Nat} {x1_s : Int32} {h_s : zH} {K_s : Int32 → zH → Prop} (hk : hKn h_s) (t_s : (zix x1_s < 341 → wF F_s 85 (14, [some (.ref 52), some (.int x1_s), some (.int (h_s.2.1 57 (zix x1_s))), some (.int x1_s), some (.int ((h_s.2.1 57 (zix x1_s)) - 1))], [], h_s) (gI K_s))) : wF (F_s + 1) 85 (0, [some (.ref 52), some (.int x1_s), none, none, none], [], h_s) (gI K_s) := by
  refine w_0 (pc := 0) (e_s := (3, 1, 0, 0, 0, .null, [])) (y_s := (1, [some (.ref _), some (.int _), none, none, none], [.ref _], _)) rfl (u_ rfl) ?_
  refine w20r (pc := 1) (len_s := 3) (q_s := 57) rfl (krq hk rfl) ?_
  refine w_t (pc := 4) (e_s := (1, 1, 1, 0, 0, .null, [])) (y_s := (5, [some (.ref _), some (.int _), none, none, none], [.int _, .ref _], _)) rfl (u_ rfl) ?_
  refine w22 (pc := 5) (len_s := 1) rfl (hk.1 57 0 341 rfl rfl) (fun c1_s => ?_)
  replace t_s := t_s c1_s
  refine w_t (pc := 6) (e_s := (4, 1, 2, 0, 0, .null, [])) (y_s := (7, [some (.ref _), some (.int _), some (.int _), none, none], [], _)) rfl (u_ rfl) ?_
  refine w_t (pc := 7) (e_s := (1, 1, 1, 0, 0, .null, [])) (y_s := (8, [some (.ref _), some (.int _), some (.int _), none, none], [.int _], _)) rfl (u_ rfl) ?_
  refine w_t (pc := 8) (e_s := (4, 1, 3, 0, 0, .null, [])) (y_s := (9, [some (.ref _), some (.int _), some (.int _), some (.int _), none], [], _)) rfl (u_ rfl) ?_
  refine w_t (pc := 9) (e_s := (1, 1, 2, 0, 0, .null, [])) (y_s := (10, [some (.ref _), some (.int _), some (.int _), some (.int _), none], [.int _], _)) rfl (u_ rfl) ?_
  refine w_t (pc := 10) (e_s := (0, 1, 0, 0, 0, .int 1, [])) (y_s := (11, [some (.ref _), some (.int _), some (.int _), some (.int _), none], [.int _, .int _], _)) rfl (u_ rfl) ?_
  refine w_t (pc := 11) (e_s := (7, 1, 0, 1, 0, .null, [])) (y_s := (12, [some (.ref _), some (.int _), some (.int _), some (.int _), none], [.int (_ - _)], _)) rfl (u_ rfl) ?_
  refine w_t (pc := 12) (e_s := (4, 2, 4, 0, 0, .null, [])) (y_s := (14, [some (.ref _), some (.int _), some (.int _), some (.int _), some (.int _)], [], _)) rfl (u_ rfl) ?_
  exact t_s
/-- ColdShod$StrokePlan.tellPlan(I)I, from 14 on -/
theorem sg_85_14 {F_s : Nat} {x1_s x2_s x3 x4_s : Int32} {h_s : zH} {K_s : Int32 → zH → Prop} (hk : hKn h_s) (t_s : (x4_s.toInt < 0 → K_s x2_s h_s) ∧ (¬ x4_s.toInt < 0 → (zix x3 < 341 → (zix x4_s < 4 → wF F_s 85 (14, [some (.ref 52), some (.int x1_s), some (.int x2_s), some (.int (h_s.2.1 55 (zix x3))), some (.int (x4_s + (-1)))], [], (h_s.1, zup h_s.2.1 53 (zix x4_s) (h_s.2.1 56 (zix x3)), h_s.2.2.1, h_s.2.2.2)) (gI K_s))))) : wF (F_s + 1) 85 (14, [some (.ref 52), some (.int x1_s), some (.int x2_s), some (.int x3), some (.int x4_s)], [], h_s) (gI K_s) := by
  refine w_0 (pc := 14) (e_s := (1, 2, 4, 0, 0, .null, [])) (y_s := (16, [some (.ref _), some (.int _), some (.int _), some (.int _), some (.int _)], [.int _], _)) rfl (u_ rfl) ?_
  refine wq2 (pc := 16) (len_s := 3) rfl rfl (fun c1_s => ?_) (fun c1_s => ?_)
  · replace t_s := t_s.1 c1_s
    refine w_t (pc := 45) (e_s := (1, 1, 2, 0, 0, .null, [])) (y_s := (46, [some (.ref _), some (.int _), some (.int _), some (.int _), some (.int _)], [.int _], _)) rfl (u_ rfl) ?_
    exact wrI (pc := 46) (len_s := 1) rfl hk t_s
  · replace t_s := t_s.2 c1_s
    refine w_t (pc := 19) (e_s := (3, 1, 0, 0, 0, .null, [])) (y_s := (20, [some (.ref _), some (.int _), some (.int _), some (.int _), some (.int _)], [.ref _], _)) rfl (u_ rfl) ?_
    refine w20r (pc := 20) (len_s := 3) (q_s := 53) rfl (krq hk rfl) ?_
    refine w_t (pc := 23) (e_s := (1, 2, 4, 0, 0, .null, [])) (y_s := (25, [some (.ref _), some (.int _), some (.int _), some (.int _), some (.int _)], [.int _, .ref _], _)) rfl (u_ rfl) ?_
    refine w_t (pc := 25) (e_s := (3, 1, 0, 0, 0, .null, [])) (y_s := (26, [some (.ref _), some (.int _), some (.int _), some (.int _), some (.int _)], [.ref _, .int _, .ref _], _)) rfl (u_ rfl) ?_
    refine w20r (pc := 26) (len_s := 3) (q_s := 56) rfl (krq hk rfl) ?_
    refine w_t (pc := 29) (e_s := (1, 1, 3, 0, 0, .null, [])) (y_s := (30, [some (.ref _), some (.int _), some (.int _), some (.int _), some (.int _)], [.int _, .ref _, .int _, .ref _], _)) rfl (u_ rfl) ?_
    refine w22 (pc := 30) (len_s := 1) rfl (hk.1 56 0 341 rfl rfl) (fun c2_s => ?_)
    replace t_s := t_s c2_s
    refine w25 (pc := 31) (len_s := 1) rfl (hk.1 53 0 4 rfl rfl) (fun c3_s => ?_)
    replace t_s := t_s c3_s
    refine w_t (pc := 32) (e_s := (3, 1, 0, 0, 0, .null, [])) (y_s := (33, [some (.ref _), some (.int _), some (.int _), some (.int _), some (.int _)], [.ref _], _)) rfl (u_ rfl) ?_
    refine w20r (pc := 33) (len_s := 3) (q_s := 55) rfl (krq hk rfl) ?_
    refine w_t (pc := 36) (e_s := (1, 1, 3, 0, 0, .null, [])) (y_s := (37, [some (.ref _), some (.int _), some (.int _), some (.int _), some (.int _)], [.int _, .ref _], _)) rfl (u_ rfl) ?_
    refine w22 (pc := 37) (len_s := 1) rfl (hk.1 55 0 341 rfl rfl) (fun c4_s => ?_)
    refine w_t (pc := 38) (e_s := (4, 1, 3, 0, 0, .null, [])) (y_s := (39, [some (.ref _), some (.int _), some (.int _), some (.int _), some (.int _)], [], _)) rfl (u_ rfl) ?_
    refine w_t (pc := 39) (e_s := (19, 3, 4, 0, 0, .int (-1), [])) (y_s := (42, [some (.ref _), some (.int _), some (.int _), some (.int _), some (.int _)], [], _)) rfl (u_ rfl) ?_
    refine w_t (pc := 42) (e_s := (17, 3, 14, 0, 0, .null, [])) (y_s := (14, [some (.ref _), some (.int _), some (.int _), some (.int _), some (.int _)], [], _)) rfl (u_ rfl) ?_
    exact t_s
/-- ColdShod$StrokePlan.stateOf(LColdShod$Idea;)I, from 0 on -/
theorem sg_86_0 {F_s : Nat} {d_s : Nat} {h_s : zH} {K_s : Int32 → zH → Prop} (hk : hKn h_s) (t_s : K_s (((((((h_s.2.1 d_s 1) * 100) + (h_s.2.1 d_s 2)) * 10) + (h_s.2.1 d_s 3)) * 10) + (h_s.2.1 d_s 5)) h_s) : wF (F_s + 1) 86 (0, [some (.ref d_s)], [], h_s) (gI K_s) := by
  refine w_0 (pc := 0) (e_s := (3, 1, 0, 0, 0, .null, [])) (y_s := (1, [some (.ref _)], [.ref _], _)) rfl (u_ rfl) ?_
  refine w20 (pc := 1) (len_s := 3) rfl ?_
  refine w_t (pc := 4) (e_s := (0, 2, 0, 0, 0, .int 100, [])) (y_s := (6, [some (.ref _)], [.int _, .int _], _)) rfl (u_ rfl) ?_
  refine w_t (pc := 6) (e_s := (7, 1, 0, 2, 0, .null, [])) (y_s := (7, [some (.ref _)], [.int (_ * _)], _)) rfl (u_ rfl) ?_
  refine w_t (pc := 7) (e_s := (3, 1, 0, 0, 0, .null, [])) (y_s := (8, [some (.ref _)], [.ref _, .int _], _)) rfl (u_ rfl) ?_
  refine w20 (pc := 8) (len_s := 3) rfl ?_
  refine w_t (pc := 11) (e_s := (7, 1, 0, 0, 0, .null, [])) (y_s := (12, [some (.ref _)], [.int (_ + _)], _)) rfl (u_ rfl) ?_
  refine w_t (pc := 12) (e_s := (0, 2, 0, 0, 0, .int 10, [])) (y_s := (14, [some (.ref _)], [.int _, .int _], _)) rfl (u_ rfl) ?_
  refine w_t (pc := 14) (e_s := (7, 1, 0, 2, 0, .null, [])) (y_s := (15, [some (.ref _)], [.int (_ * _)], _)) rfl (u_ rfl) ?_
  refine w_t (pc := 15) (e_s := (3, 1, 0, 0, 0, .null, [])) (y_s := (16, [some (.ref _)], [.ref _, .int _], _)) rfl (u_ rfl) ?_
  refine w20 (pc := 16) (len_s := 3) rfl ?_
  refine w_t (pc := 19) (e_s := (7, 1, 0, 0, 0, .null, [])) (y_s := (20, [some (.ref _)], [.int (_ + _)], _)) rfl (u_ rfl) ?_
  refine w_t (pc := 20) (e_s := (0, 2, 0, 0, 0, .int 10, [])) (y_s := (22, [some (.ref _)], [.int _, .int _], _)) rfl (u_ rfl) ?_
  refine w_t (pc := 22) (e_s := (7, 1, 0, 2, 0, .null, [])) (y_s := (23, [some (.ref _)], [.int (_ * _)], _)) rfl (u_ rfl) ?_
  refine w_t (pc := 23) (e_s := (3, 1, 0, 0, 0, .null, [])) (y_s := (24, [some (.ref _)], [.ref _, .int _], _)) rfl (u_ rfl) ?_
  refine w20 (pc := 24) (len_s := 3) rfl ?_
  refine w_t (pc := 27) (e_s := (7, 1, 0, 0, 0, .null, [])) (y_s := (28, [some (.ref _)], [.int (_ + _)], _)) rfl (u_ rfl) ?_
  exact wrI (pc := 28) (len_s := 1) rfl hk t_s
/-- ColdShod$StrokePlan.recall(LColdShod$Idea;I)V, from 0 on -/
theorem sg_87_0 {F_s : Nat} {d_s : Nat} {x2_s : Int32} {h_s : zH} {K_s : zH → Prop} (hk : hKn h_s) (t_s : wF F_s 35 (0, [some (.ref 58), some (.ref d_s)], [], h_s) (gV (fun h1 => hKn h1 → K_s (h1.1, zup (zup (zup (zup h1.2.1 58 5 (x2_s - x2_s / 10 * 10)) 58 3 ((x2_s / 10) - (x2_s / 10) / 10 * 10)) 58 2 ((x2_s / 100) - (x2_s / 100) / 100 * 100)) 58 1 (x2_s / 10000), h1.2.2.1, h1.2.2.2)))) : wF (F_s + 1) 87 (0, [some (.ref 52), some (.ref d_s), some (.int x2_s)], [], h_s) (gV K_s) := by
  refine w_0 (pc := 0) (e_s := (3, 1, 0, 0, 0, .null, [])) (y_s := (1, [some (.ref _), some (.ref _), some (.int _)], [.ref _], _)) rfl (u_ rfl) ?_
  refine w20r (pc := 1) (len_s := 3) (q_s := 58) rfl (krq hk rfl) ?_
  refine w_t (pc := 4) (e_s := (3, 1, 1, 0, 0, .null, [])) (y_s := (5, [some (.ref _), some (.ref _), some (.int _)], [.ref _, .ref _], _)) rfl (u_ rfl) ?_
  refine wcV (pc := 5) (len_s := 3) rfl rfl (l := [some (.ref _), some (.ref _)]) rfl (wmV t_s (fun h1 hk t_s => ?_))
  replace t_s := t_s hk
  refine w_t (pc := 8) (e_s := (3, 1, 0, 0, 0, .null, [])) (y_s := (9, [some (.ref _), some (.ref _), some (.int _)], [.ref _], _)) rfl (u_ rfl) ?_
  refine w20r (pc := 9) (len_s := 3) (q_s := 58) rfl (krq hk rfl) ?_
  refine w_t (pc := 12) (e_s := (1, 1, 2, 0, 0, .null, [])) (y_s := (13, [some (.ref _), some (.ref _), some (.int _)], [.int _, .ref _], _)) rfl (u_ rfl) ?_
  refine w_t (pc := 13) (e_s := (0, 2, 0, 0, 0, .int 10, [])) (y_s := (15, [some (.ref _), some (.ref _), some (.int _)], [.int _, .int _, .ref _], _)) rfl (u_ rfl) ?_
  refine w8m (pc := 15) (len_s := 1) rfl ?_
  refine w21 (pc := 16) (len_s := 3) rfl ?_
  refine w_t (pc := 19) (e_s := (3, 1, 0, 0, 0, .null, [])) (y_s := (20, [some (.ref _), some (.ref _), some (.int _)], [.ref _], _)) rfl (u_ rfl) ?_
  refine w20r (pc := 20) (len_s := 3) (q_s := 58) rfl (krq hk rfl) ?_
  refine w_t (pc := 23) (e_s := (1, 1, 2, 0, 0, .null, [])) (y_s := (24, [some (.ref _), some (.ref _), some (.int _)], [.int _, .ref _], _)) rfl (u_ rfl) ?_
  refine w_t (pc := 24) (e_s := (0, 2, 0, 0, 0, .int 10, [])) (y_s := (26, [some (.ref _), some (.ref _), some (.int _)], [.int _, .int _, .ref _], _)) rfl (u_ rfl) ?_
  refine w8 (pc := 26) (len_s := 1) rfl ?_
  refine w_t (pc := 27) (e_s := (0, 2, 0, 0, 0, .int 10, [])) (y_s := (29, [some (.ref _), some (.ref _), some (.int _)], [.int _, .int _, .ref _], _)) rfl (u_ rfl) ?_
  refine w8m (pc := 29) (len_s := 1) rfl ?_
  refine w21 (pc := 30) (len_s := 3) rfl ?_
  refine w_t (pc := 33) (e_s := (3, 1, 0, 0, 0, .null, [])) (y_s := (34, [some (.ref _), some (.ref _), some (.int _)], [.ref _], _)) rfl (u_ rfl) ?_
  refine w20r (pc := 34) (len_s := 3) (q_s := 58) rfl (krq hk rfl) ?_
  refine w_t (pc := 37) (e_s := (1, 1, 2, 0, 0, .null, [])) (y_s := (38, [some (.ref _), some (.ref _), some (.int _)], [.int _, .ref _], _)) rfl (u_ rfl) ?_
  refine w_t (pc := 38) (e_s := (0, 2, 0, 0, 0, .int 100, [])) (y_s := (40, [some (.ref _), some (.ref _), some (.int _)], [.int _, .int _, .ref _], _)) rfl (u_ rfl) ?_
  refine w8 (pc := 40) (len_s := 1) rfl ?_
  refine w_t (pc := 41) (e_s := (0, 2, 0, 0, 0, .int 100, [])) (y_s := (43, [some (.ref _), some (.ref _), some (.int _)], [.int _, .int _, .ref _], _)) rfl (u_ rfl) ?_
  refine w8m (pc := 43) (len_s := 1) rfl ?_
  refine w21 (pc := 44) (len_s := 3) rfl ?_
  refine w_t (pc := 47) (e_s := (3, 1, 0, 0, 0, .null, [])) (y_s := (48, [some (.ref _), some (.ref _), some (.int _)], [.ref _], _)) rfl (u_ rfl) ?_
  refine w20r (pc := 48) (len_s := 3) (q_s := 58) rfl (krq hk rfl) ?_
  refine w_t (pc := 51) (e_s := (1, 1, 2, 0, 0, .null, [])) (y_s := (52, [some (.ref _), some (.ref _), some (.int _)], [.int _, .ref _], _)) rfl (u_ rfl) ?_
  refine w_t (pc := 52) (e_s := (0, 3, 0, 0, 0, .int 10000, [])) (y_s := (55, [some (.ref _), some (.ref _), some (.int _)], [.int _, .int _, .ref _], _)) rfl (u_ rfl) ?_
  refine w8 (pc := 55) (len_s := 1) rfl ?_
  refine w21 (pc := 56) (len_s := 3) rfl ?_
  exact wrV (pc := 59) (len_s := 1) rfl hk t_s
/-- ColdShodModel.goesBy(IIII)Z, from 0 on -/
theorem sg_190_0 {F_s : Nat} {x1_s : Int32} {x2_s : Int32} {x3 : Int32} {x4_s : Int32} {h_s : zH} {K_s : Int32 → zH → Prop} (hk : hKn h_s) (t_s : (x3.toInt = x4_s.toInt → wF F_s 178 (0, [some (.ref 102), some (.int x2_s), none], [], h_s) (gV (fun h2 => hKn h2 → wF F_s 190 (14, [some (.ref 102), some (.int x1_s), some (.int x2_s), some (.int x3), some (.int x4_s), some (.int 0)], [], h2) (gI K_s)))) ∧ (¬ x3.toInt = x4_s.toInt → wF F_s 190 (65, [some (.ref 102), some (.int x1_s), some (.int x2_s), some (.int x3), some (.int x4_s), some (.int 0)], [], h_s) (gI K_s))) : wF (F_s + 1) 190 (0, [some (.ref 102), some (.int x1_s), some (.int x2_s), some (.int x3), some (.int x4_s), none], [], h_s) (gI K_s) := by
  refine w_0 (pc := 0) (e_s := (1, 1, 3, 0, 0, .null, [])) (y_s := (1, [some (.ref _), some (.int _), some (.int _), some (.int _), some (.int _), none], [.int _], _)) rfl (u_ rfl) ?_
  refine w_t (pc := 1) (e_s := (1, 2, 4, 0, 0, .null, [])) (y_s := (3, [some (.ref _), some (.int _), some (.int _), some (.int _), some (.int _), none], [.int _, .int _], _)) rfl (u_ rfl) ?_
  refine wi1 (pc := 3) (len_s := 3) rfl rfl rfl (fun c1_s => ?_) (fun c1_s => ?_)
  · replace t_s := t_s.1 c1_s
    refine w_t (pc := 6) (e_s := (3, 1, 0, 0, 0, .null, [])) (y_s := (7, [some (.ref _), some (.int _), some (.int _), some (.int _), some (.int _), none], [.ref _], _)) rfl (u_ rfl) ?_
    refine w_t (pc := 7) (e_s := (1, 1, 2, 0, 0, .null, [])) (y_s := (8, [some (.ref _), some (.int _), some (.int _), some (.int _), some (.int _), none], [.int _, .ref _], _)) rfl (u_ rfl) ?_
    refine wcV (pc := 8) (len_s := 3) rfl rfl (l := [some (.ref _), some (.int _), none]) rfl (wmV t_s (fun h2 hk t_s => ?_))
    replace t_s := t_s hk
    refine w_t (pc := 11) (e_s := (0, 1, 0, 0, 0, .int 0, [])) (y_s := (12, [some (.ref _), some (.int _), some (.int _), some (.int _), some (.int _), none], [.int _], _)) rfl (u_ rfl) ?_
    refine w_t (pc := 12) (e_s := (4, 2, 5, 0, 0, .null, [])) (y_s := (14, [some (.ref _), some (.int _), some (.int _), some (.int _), some (.int _), some (.int _)], [], _)) rfl (u_ rfl) ?_
    exact t_s
  · replace t_s := t_s.2 c1_s
    refine w_t (pc := 62) (e_s := (0, 1, 0, 0, 0, .int 0, [])) (y_s := (63, [some (.ref _), some (.int _), some (.int _), some (.int _), some (.int _), none], [.int _], _)) rfl (u_ rfl) ?_
    refine w_t (pc := 63) (e_s := (4, 2, 5, 0, 0, .null, [])) (y_s := (65, [some (.ref _), some (.int _), some (.int _), some (.int _), some (.int _), some (.int _)], [], _)) rfl (u_ rfl) ?_
    exact t_s
/-- ColdShodModel.goesBy(IIII)Z, from 14 on -/
theorem sg_190_14 {F_s : Nat} {x1_s x2_s x3 x4_s x5_s : Int32} {h_s : zH} {K_s : Int32 → zH → Prop} (hk : hKn h_s) (t_s : (x5_s.toInt < x4_s.toInt → (zix x5_s < 4 → wF F_s 184 (0, [some (.ref 102), some (.int (h_s.2.1 113 (zix x5_s)))], [], h_s) (gI (fun v3 h3 => hKn h3 → wF F_s 190 (14, [some (.ref 102), some (.int x1_s), some (.int x2_s), some (.int x3), some (.int x4_s), some (.int (x5_s + 1))], [], h3) (gI K_s))))) ∧ (¬ x5_s.toInt < x4_s.toInt → wF F_s 188 (0, [some (.ref 102), some (.int x1_s), none], [], h_s) (gV (fun h4 => hKn h4 → wF F_s 187 (0, [some (.ref 102), some (.int x1_s), none], [], h4) (gI (fun v5 h5 => hKn h5 → ((h4.2.1 102 25).toInt = v5.toInt → K_s 1 h5) ∧ (¬ (h4.2.1 102 25).toInt = v5.toInt → K_s 0 h5))))))) : wF (F_s + 1) 190 (14, [some (.ref 102), some (.int x1_s), some (.int x2_s), some (.int x3), some (.int x4_s), some (.int x5_s)], [], h_s) (gI K_s) := by
  refine w_0 (pc := 14) (e_s := (1, 2, 5, 0, 0, .null, [])) (y_s := (16, [some (.ref _), some (.int _), some (.int _), some (.int _), some (.int _), some (.int _)], [.int _], _)) rfl (u_ rfl) ?_
  refine w_t (pc := 16) (e_s := (1, 2, 4, 0, 0, .null, [])) (y_s := (18, [some (.ref _), some (.int _), some (.int _), some (.int _), some (.int _), some (.int _)], [.int _, .int _], _)) rfl (u_ rfl) ?_
  refine wi3 (pc := 18) (len_s := 3) rfl rfl rfl (fun c1_s => ?_) (fun c1_s => ?_)
  · replace t_s := t_s.1 c1_s
    refine w_t (pc := 21) (e_s := (3, 1, 0, 0, 0, .null, [])) (y_s := (22, [some (.ref _), some (.int _), some (.int _), some (.int _), some (.int _), some (.int _)], [.ref _], _)) rfl (u_ rfl) ?_
    refine w_t (pc := 22) (e_s := (3, 1, 0, 0, 0, .null, [])) (y_s := (23, [some (.ref _), some (.int _), some (.int _), some (.int _), some (.int _), some (.int _)], [.ref _, .ref _], _)) rfl (u_ rfl) ?_
    refine w20r (pc := 23) (len_s := 3) (q_s := 113) rfl (krq hk rfl) ?_
    refine w_t (pc := 26) (e_s := (1, 2, 5, 0, 0, .null, [])) (y_s := (28, [some (.ref _), some (.int _), some (.int _), some (.int _), some (.int _), some (.int _)], [.int _, .ref _, .ref _], _)) rfl (u_ rfl) ?_
    refine w22 (pc := 28) (len_s := 1) rfl (hk.1 113 0 4 rfl rfl) (fun c2_s => ?_)
    replace t_s := t_s c2_s
    refine wcI (pc := 29) (len_s := 3) rfl rfl (l := [some (.ref _), some (.int _)]) rfl (wmI t_s (fun v3 h3 hk t_s => ?_))
    replace t_s := t_s hk
    refine w_t (pc := 32) (e_s := (42, 1, 0, 0, 0, .null, [])) (y_s := (33, [some (.ref _), some (.int _), some (.int _), some (.int _), some (.int _), some (.int _)], [], _)) rfl (u_ rfl) ?_
    refine w_t (pc := 33) (e_s := (19, 3, 5, 0, 0, .int 1, [])) (y_s := (36, [some (.ref _), some (.int _), some (.int _), some (.int _), some (.int _), some (.int _)], [], _)) rfl (u_ rfl) ?_
    refine w_t (pc := 36) (e_s := (17, 3, 14, 0, 0, .null, [])) (y_s := (14, [some (.ref _), some (.int _), some (.int _), some (.int _), some (.int _), some (.int _)], [], _)) rfl (u_ rfl) ?_
    exact t_s
  · replace t_s := t_s.2 c1_s
    refine w_t (pc := 39) (e_s := (3, 1, 0, 0, 0, .null, [])) (y_s := (40, [some (.ref _), some (.int _), some (.int _), some (.int _), some (.int _), some (.int _)], [.ref _], _)) rfl (u_ rfl) ?_
    refine w_t (pc := 40) (e_s := (1, 1, 1, 0, 0, .null, [])) (y_s := (41, [some (.ref _), some (.int _), some (.int _), some (.int _), some (.int _), some (.int _)], [.int _, .ref _], _)) rfl (u_ rfl) ?_
    refine wcV (pc := 41) (len_s := 3) rfl rfl (l := [some (.ref _), some (.int _), none]) rfl (wmV t_s (fun h4 hk t_s => ?_))
    replace t_s := t_s hk
    refine w_t (pc := 44) (e_s := (3, 1, 0, 0, 0, .null, [])) (y_s := (45, [some (.ref _), some (.int _), some (.int _), some (.int _), some (.int _), some (.int _)], [.ref _], _)) rfl (u_ rfl) ?_
    refine w20 (pc := 45) (len_s := 3) rfl ?_
    refine w_t (pc := 48) (e_s := (3, 1, 0, 0, 0, .null, [])) (y_s := (49, [some (.ref _), some (.int _), some (.int _), some (.int _), some (.int _), some (.int _)], [.ref _, .int _], _)) rfl (u_ rfl) ?_
    refine w_t (pc := 49) (e_s := (1, 1, 1, 0, 0, .null, [])) (y_s := (50, [some (.ref _), some (.int _), some (.int _), some (.int _), some (.int _), some (.int _)], [.int _, .ref _, .int _], _)) rfl (u_ rfl) ?_
    refine wcI (pc := 50) (len_s := 3) rfl rfl (l := [some (.ref _), some (.int _), none]) rfl (wmI t_s (fun v5 h5 hk t_s => ?_))
    replace t_s := t_s hk
    refine wi1 (pc := 53) (len_s := 3) rfl rfl rfl (fun c6_s => ?_) (fun c6_s => ?_)
    · replace t_s := t_s.1 c6_s
      refine w_t (pc := 56) (e_s := (0, 1, 0, 0, 0, .int 1, [])) (y_s := (57, [some (.ref _), some (.int _), some (.int _), some (.int _), some (.int _), some (.int _)], [.int _], _)) rfl (u_ rfl) ?_
      refine w_t (pc := 57) (e_s := (17, 3, 61, 0, 0, .null, [])) (y_s := (61, [some (.ref _), some (.int _), some (.int _), some (.int _), some (.int _), some (.int _)], [.int _], _)) rfl (u_ rfl) ?_
      exact wrI (pc := 61) (len_s := 1) rfl hk t_s
    · replace t_s := t_s.2 c6_s
      refine w_t (pc := 60) (e_s := (0, 1, 0, 0, 0, .int 0, [])) (y_s := (61, [some (.ref _), some (.int _), some (.int _), some (.int _), some (.int _), some (.int _)], [.int _], _)) rfl (u_ rfl) ?_
      exact wrI (pc := 61) (len_s := 1) rfl hk t_s
/-- ColdShodModel.goesBy(IIII)Z, from 65 on -/
theorem sg_190_65 {F_s : Nat} {x1_s x2_s x3 x4_s x5_s : Int32} {h_s : zH} {K_s : Int32 → zH → Prop} (hk : hKn h_s) (t_s : (x5_s.toInt < 4 → (zix x3 < 4 → wF F_s 190 (0, [some (.ref 102), some (.int x1_s), some (.int x2_s), some (.int (x3 + 1)), some (.int x4_s), none], [], (h_s.1, zup h_s.2.1 113 (zix x3) x5_s, h_s.2.2.1, h_s.2.2.2)) (gI (fun v3 h3 => hKn h3 → (v3.toInt = 0 → wF F_s 190 (65, [some (.ref 102), some (.int x1_s), some (.int x2_s), some (.int x3), some (.int x4_s), some (.int (x5_s + 1))], [], h3) (gI K_s)) ∧ (¬ v3.toInt = 0 → K_s 1 h3))))) ∧ (¬ x5_s.toInt < 4 → K_s 0 h_s)) : wF (F_s + 1) 190 (65, [some (.ref 102), some (.int x1_s), some (.int x2_s), some (.int x3), some (.int x4_s), some (.int x5_s)], [], h_s) (gI K_s) := by
  refine w_0 (pc := 65) (e_s := (1, 2, 5, 0, 0, .null, [])) (y_s := (67, [some (.ref _), some (.int _), some (.int _), some (.int _), some (.int _), some (.int _)], [.int _], _)) rfl (u_ rfl) ?_
  refine w_t (pc := 67) (e_s := (0, 1, 0, 0, 0, .int 4, [])) (y_s := (68, [some (.ref _), some (.int _), some (.int _), some (.int _), some (.int _), some (.int _)], [.int _, .int _], _)) rfl (u_ rfl) ?_
  refine wi3 (pc := 68) (len_s := 3) (Y := 4) rfl rfl (by decide) (fun c1_s => ?_) (fun c1_s => ?_)
  · replace t_s := t_s.1 c1_s
    refine w_t (pc := 71) (e_s := (3, 1, 0, 0, 0, .null, [])) (y_s := (72, [some (.ref _), some (.int _), some (.int _), some (.int _), some (.int _), some (.int _)], [.ref _], _)) rfl (u_ rfl) ?_
    refine w20r (pc := 72) (len_s := 3) (q_s := 113) rfl (krq hk rfl) ?_
    refine w_t (pc := 75) (e_s := (1, 1, 3, 0, 0, .null, [])) (y_s := (76, [some (.ref _), some (.int _), some (.int _), some (.int _), some (.int _), some (.int _)], [.int _, .ref _], _)) rfl (u_ rfl) ?_
    refine w_t (pc := 76) (e_s := (1, 2, 5, 0, 0, .null, [])) (y_s := (78, [some (.ref _), some (.int _), some (.int _), some (.int _), some (.int _), some (.int _)], [.int _, .int _, .ref _], _)) rfl (u_ rfl) ?_
    refine w25 (pc := 78) (len_s := 1) rfl (hk.1 113 0 4 rfl rfl) (fun c2_s => ?_)
    replace t_s := t_s c2_s
    refine w_t (pc := 79) (e_s := (3, 1, 0, 0, 0, .null, [])) (y_s := (80, [some (.ref _), some (.int _), some (.int _), some (.int _), some (.int _), some (.int _)], [.ref _], _)) rfl (u_ rfl) ?_
    refine w_t (pc := 80) (e_s := (1, 1, 1, 0, 0, .null, [])) (y_s := (81, [some (.ref _), some (.int _), some (.int _), some (.int _), some (.int _), some (.int _)], [.int _, .ref _], _)) rfl (u_ rfl) ?_
    refine w_t (pc := 81) (e_s := (1, 1, 2, 0, 0, .null, [])) (y_s := (82, [some (.ref _), some (.int _), some (.int _), some (.int _), some (.int _), some (.int _)], [.int _, .int _, .ref _], _)) rfl (u_ rfl) ?_
    refine w_t (pc := 82) (e_s := (1, 1, 3, 0, 0, .null, [])) (y_s := (83, [some (.ref _), some (.int _), some (.int _), some (.int _), some (.int _), some (.int _)], [.int _, .int _, .int _, .ref _], _)) rfl (u_ rfl) ?_
    refine w_t (pc := 83) (e_s := (0, 1, 0, 0, 0, .int 1, [])) (y_s := (84, [some (.ref _), some (.int _), some (.int _), some (.int _), some (.int _), some (.int _)], [.int _, .int _, .int _, .int _, .ref _], _)) rfl (u_ rfl) ?_
    refine w_t (pc := 84) (e_s := (7, 1, 0, 0, 0, .null, [])) (y_s := (85, [some (.ref _), some (.int _), some (.int _), some (.int _), some (.int _), some (.int _)], [.int (_ + _), .int _, .int _, .ref _], _)) rfl (u_ rfl) ?_
    refine w_t (pc := 85) (e_s := (1, 2, 4, 0, 0, .null, [])) (y_s := (87, [some (.ref _), some (.int _), some (.int _), some (.int _), some (.int _), some (.int _)], [.int _, .int _, .int _, .int _, .ref _], _)) rfl (u_ rfl) ?_
    refine wcI (pc := 87) (len_s := 3) rfl rfl (l := [some (.ref _), some (.int _), some (.int _), some (.int _), some (.int _), none]) rfl (wmI t_s (fun v3 h3 hk t_s => ?_))
    replace t_s := t_s hk
    refine wq0 (pc := 90) (len_s := 3) rfl rfl (fun c4_s => ?_) (fun c4_s => ?_)
    · replace t_s := t_s.1 c4_s
      refine w_t (pc := 95) (e_s := (19, 3, 5, 0, 0, .int 1, [])) (y_s := (98, [some (.ref _), some (.int _), some (.int _), some (.int _), some (.int _), some (.int _)], [], _)) rfl (u_ rfl) ?_
      refine w_t (pc := 98) (e_s := (17, 3, 65, 0, 0, .null, [])) (y_s := (65, [some (.ref _), some (.int _), some (.int _), some (.int _), some (.int _), some (.int _)], [], _)) rfl (u_ rfl) ?_
      exact t_s
    · replace t_s := t_s.2 c4_s
      refine w_t (pc := 93) (e_s := (0, 1, 0, 0, 0, .int 1, [])) (y_s := (94, [some (.ref _), some (.int _), some (.int _), some (.int _), some (.int _), some (.int _)], [.int _], _)) rfl (u_ rfl) ?_
      exact wrI (pc := 94) (len_s := 1) rfl hk t_s
  · replace t_s := t_s.2 c1_s
    refine w_t (pc := 101) (e_s := (0, 1, 0, 0, 0, .int 0, [])) (y_s := (102, [some (.ref _), some (.int _), some (.int _), some (.int _), some (.int _), some (.int _)], [.int _], _)) rfl (u_ rfl) ?_
    exact wrI (pc := 102) (len_s := 1) rfl hk t_s
/-- ColdShodModel.strokes(III)I, from 0 on -/
theorem sg_191_0 {F_s : Nat} {x1_s : Int32} {x2_s : Int32} {x3 : Int32} {h_s : zH} {K_s : Int32 → zH → Prop} (hk : hKn h_s) (t_s : (x1_s.toInt < 0 → K_s (-1) h_s) ∧ (¬ x1_s.toInt < 0 → ((5 < x1_s.toInt → K_s (-1) h_s) ∧ (¬ 5 < x1_s.toInt → (zix x1_s < 6 → ((h_s.2.1 124 (zix x1_s)).toInt < 0 → ((x2_s.toInt < 0 → K_s (-1) h_s) ∧ (¬ x2_s.toInt < 0 → ((((h_s.2.1 102 7) - 1).toInt < x2_s.toInt → K_s (-1) h_s) ∧ (¬ ((h_s.2.1 102 7) - 1).toInt < x2_s.toInt → ((x3.toInt < -1 → K_s (-1) h_s) ∧ (¬ x3.toInt < -1 → K_s (-11) h_s))))))) ∧ (¬ (h_s.2.1 124 (zix x1_s)).toInt < 0 → (((h_s.2.1 124 (zix x1_s)).toInt = 50 → ((x2_s.toInt < 0 → K_s (-1) h_s) ∧ (¬ x2_s.toInt < 0 → ((((h_s.2.1 102 7) - 1).toInt < x2_s.toInt → K_s (-1) h_s) ∧ (¬ ((h_s.2.1 102 7) - 1).toInt < x2_s.toInt → ((x3.toInt < -1 → K_s (-1) h_s) ∧ (¬ x3.toInt < -1 → wF F_s 191 (42, [some (.ref 102), some (.int x1_s), some (.int x2_s), some (.int x3), some (.int 0)], [], h_s) (gI K_s)))))))) ∧ (¬ (h_s.2.1 124 (zix x1_s)).toInt = 50 → ((x2_s.toInt < 0 → K_s (-1) h_s) ∧ (¬ x2_s.toInt < 0 → ((((h_s.2.1 102 7) - 1).toInt < x2_s.toInt → K_s (-1) h_s) ∧ (¬ ((h_s.2.1 102 7) - 1).toInt < x2_s.toInt → ((x3.toInt < -1 → K_s (-1) h_s) ∧ (¬ x3.toInt < -1 → K_s (-12) h_s)))))))))))))) : wF (F_s + 1) 191 (0, [some (.ref 102), some (.int x1_s), some (.int x2_s), some (.int x3), none], [], h_s) (gI K_s) := by
  refine w_0 (pc := 0) (e_s := (3, 1, 0, 0, 0, .null, [])) (y_s := (1, [some (.ref _), some (.int _), some (.int _), some (.int _), none], [.ref _], _)) rfl (u_ rfl) ?_
  refine w_t (pc := 1) (e_s := (1, 1, 1, 0, 0, .null, [])) (y_s := (2, [some (.ref _), some (.int _), some (.int _), some (.int _), none], [.int _, .ref _], _)) rfl (u_ rfl) ?_
  refine wcI (pc := 2) (len_s := 3) rfl rfl (l := [some (.ref _), some (.int _)]) rfl ?_
  refine w_t (pc := 0) (e_s := (1, 1, 1, 0, 0, .null, [])) (y_s := (1, [some (.ref _), some (.int _)], [.int _], _)) rfl (u_ rfl) ?_
  refine wcI (pc := 1) (len_s := 3) rfl rfl (l := [some (.int _)]) rfl ?_
  refine w_t (pc := 0) (e_s := (1, 1, 0, 0, 0, .null, [])) (y_s := (1, [some (.int _)], [.int _], _)) rfl (u_ rfl) ?_
  refine w_t (pc := 1) (e_s := (10, 1, 0, 0, 0, .null, [])) (y_s := (2, [some (.int _)], [.long (Int32.toInt64 _)], _)) rfl (u_ rfl) ?_
  refine w_t (pc := 2) (e_s := (0, 1, 0, 0, 0, .long 0, [])) (y_s := (3, [some (.int _)], [.long _, .long _], _)) rfl (u_ rfl) ?_
  refine w_t (pc := 3) (e_s := (0, 3, 0, 0, 0, .long 5, [(0, 1063)])) (y_s := (6, [some (.int _)], [.long _, .long _, .long _], _)) rfl (u_ rfl) ?_
  refine wcI (pc := 6) (len_s := 3) rfl rfl (l := [some (.long _), none, some (.long _), none, some (.long _), none]) rfl ?_
  refine w_t (pc := 0) (e_s := (2, 1, 0, 0, 0, .null, [])) (y_s := (1, [some (.long _), none, some (.long _), none, some (.long _), none], [.long _], _)) rfl (u_ rfl) ?_
  refine w_t (pc := 1) (e_s := (2, 1, 2, 0, 0, .null, [])) (y_s := (2, [some (.long _), none, some (.long _), none, some (.long _), none], [.long _, .long _], _)) rfl (u_ rfl) ?_
  refine w_t (pc := 2) (e_s := (14, 1, 0, 0, 0, .null, [])) (y_s := (3, [some (.long _), none, some (.long _), none, some (.long _), none], [.int (lg_cmp _ _)], _)) rfl (u_ rfl) ?_
  refine wl2 (pc := 3) (len_s := 3) (Y := 0) rfl (Int32.toInt_toInt64 _) (by decide) (fun c1_s => ?_) (fun c1_s => ?_)
  · replace t_s := t_s.1 c1_s
    refine w_t (pc := 17) (e_s := (0, 1, 0, 0, 0, .int 0, [])) (y_s := (18, [some (.long _), none, some (.long _), none, some (.long _), none], [.int _], _)) rfl (u_ rfl) ?_
    refine wrI (pc := 18) (len_s := 1) rfl hk ?_
    show wF _ 228 (9, [some (.int _)], [.int _], _) _
    refine wrI (pc := 9) (len_s := 1) rfl hk ?_
    show wF _ 186 (4, [some (.ref _), some (.int _)], [.int _], _) _
    refine w_t (pc := 4) (e_s := (15, 3, 11, 1, 0, .null, [])) (y_s := (7, [some (.ref _), some (.int _)], [], _)) rfl (u_ rfl) ?_
    refine w_t (pc := 7) (e_s := (0, 1, 0, 0, 0, .int (-1), [])) (y_s := (8, [some (.ref _), some (.int _)], [.int _], _)) rfl (u_ rfl) ?_
    refine w_t (pc := 8) (e_s := (17, 3, 42, 0, 0, .null, [])) (y_s := (42, [some (.ref _), some (.int _)], [.int _], _)) rfl (u_ rfl) ?_
    refine wrI (pc := 42) (len_s := 1) rfl hk ?_
    show wF _ 191 (5, [some (.ref _), some (.int _), some (.int _), some (.int _), none], [.int _], _) _
    refine w_t (pc := 5) (e_s := (0, 1, 0, 0, 0, .int (-1), [])) (y_s := (6, [some (.ref _), some (.int _), some (.int _), some (.int _), none], [.int _, .int _], _)) rfl (u_ rfl) ?_
    refine w_t (pc := 6) (e_s := (16, 3, 23, 0, 0, .null, [])) (y_s := (23, [some (.ref _), some (.int _), some (.int _), some (.int _), none], [], _)) rfl (u_ rfl) ?_
    refine w_t (pc := 23) (e_s := (0, 1, 0, 0, 0, .int (-1), [])) (y_s := (24, [some (.ref _), some (.int _), some (.int _), some (.int _), none], [.int _], _)) rfl (u_ rfl) ?_
    exact wrI (pc := 24) (len_s := 1) rfl hk t_s
  · replace t_s := t_s.2 c1_s
    refine w_t (pc := 6) (e_s := (2, 1, 0, 0, 0, .null, [])) (y_s := (7, [some (.long _), none, some (.long _), none, some (.long _), none], [.long _], _)) rfl (u_ rfl) ?_
    refine w_t (pc := 7) (e_s := (2, 2, 4, 0, 0, .null, [])) (y_s := (9, [some (.long _), none, some (.long _), none, some (.long _), none], [.long _, .long _], _)) rfl (u_ rfl) ?_
    refine w_t (pc := 9) (e_s := (14, 1, 0, 0, 0, .null, [])) (y_s := (10, [some (.long _), none, some (.long _), none, some (.long _), none], [.int (lg_cmp _ _)], _)) rfl (u_ rfl) ?_
    refine wl4 (pc := 10) (len_s := 3) (Y := 5) rfl (Int32.toInt_toInt64 _) (by decide) (fun c2_s => ?_) (fun c2_s => ?_)
    · replace t_s := t_s.1 c2_s
      refine w_t (pc := 17) (e_s := (0, 1, 0, 0, 0, .int 0, [])) (y_s := (18, [some (.long _), none, some (.long _), none, some (.long _), none], [.int _], _)) rfl (u_ rfl) ?_
      refine wrI (pc := 18) (len_s := 1) rfl hk ?_
      show wF _ 228 (9, [some (.int _)], [.int _], _) _
      refine wrI (pc := 9) (len_s := 1) rfl hk ?_
      show wF _ 186 (4, [some (.ref _), some (.int _)], [.int _], _) _
      refine w_t (pc := 4) (e_s := (15, 3, 11, 1, 0, .null, [])) (y_s := (7, [some (.ref _), some (.int _)], [], _)) rfl (u_ rfl) ?_
      refine w_t (pc := 7) (e_s := (0, 1, 0, 0, 0, .int (-1), [])) (y_s := (8, [some (.ref _), some (.int _)], [.int _], _)) rfl (u_ rfl) ?_
      refine w_t (pc := 8) (e_s := (17, 3, 42, 0, 0, .null, [])) (y_s := (42, [some (.ref _), some (.int _)], [.int _], _)) rfl (u_ rfl) ?_
      refine wrI (pc := 42) (len_s := 1) rfl hk ?_
      show wF _ 191 (5, [some (.ref _), some (.int _), some (.int _), some (.int _), none], [.int _], _) _
      refine w_t (pc := 5) (e_s := (0, 1, 0, 0, 0, .int (-1), [])) (y_s := (6, [some (.ref _), some (.int _), some (.int _), some (.int _), none], [.int _, .int _], _)) rfl (u_ rfl) ?_
      refine w_t (pc := 6) (e_s := (16, 3, 23, 0, 0, .null, [])) (y_s := (23, [some (.ref _), some (.int _), some (.int _), some (.int _), none], [], _)) rfl (u_ rfl) ?_
      refine w_t (pc := 23) (e_s := (0, 1, 0, 0, 0, .int (-1), [])) (y_s := (24, [some (.ref _), some (.int _), some (.int _), some (.int _), none], [.int _], _)) rfl (u_ rfl) ?_
      exact wrI (pc := 24) (len_s := 1) rfl hk t_s
    · replace t_s := t_s.2 c2_s
      refine w_t (pc := 13) (e_s := (0, 1, 0, 0, 0, .int 1, [])) (y_s := (14, [some (.long _), none, some (.long _), none, some (.long _), none], [.int _], _)) rfl (u_ rfl) ?_
      refine w_t (pc := 14) (e_s := (17, 3, 18, 0, 0, .null, [])) (y_s := (18, [some (.long _), none, some (.long _), none, some (.long _), none], [.int _], _)) rfl (u_ rfl) ?_
      refine wrI (pc := 18) (len_s := 1) rfl hk ?_
      show wF _ 228 (9, [some (.int _)], [.int _], _) _
      refine wrI (pc := 9) (len_s := 1) rfl hk ?_
      show wF _ 186 (4, [some (.ref _), some (.int _)], [.int _], _) _
      refine w_t (pc := 4) (e_s := (15, 3, 11, 1, 0, .null, [])) (y_s := (11, [some (.ref _), some (.int _)], [], _)) rfl (u_ rfl) ?_
      refine w_t (pc := 11) (e_s := (3, 1, 0, 0, 0, .null, [])) (y_s := (12, [some (.ref _), some (.int _)], [.ref _], _)) rfl (u_ rfl) ?_
      refine w20r (pc := 12) (len_s := 3) (q_s := 124) rfl (krq hk rfl) ?_
      refine w_t (pc := 15) (e_s := (1, 1, 1, 0, 0, .null, [])) (y_s := (16, [some (.ref _), some (.int _)], [.int _, .ref _], _)) rfl (u_ rfl) ?_
      refine w22 (pc := 16) (len_s := 1) rfl (hk.1 124 0 6 rfl rfl) (fun c3_s => ?_)
      replace t_s := t_s c3_s
      refine wq3 (pc := 17) (len_s := 3) rfl rfl (fun c4_s => ?_) (fun c4_s => ?_)
      · replace t_s := t_s.1 c4_s
        refine w_t (pc := 20) (e_s := (0, 2, 0, 0, 0, .int (-11), [])) (y_s := (22, [some (.ref _), some (.int _)], [.int _], _)) rfl (u_ rfl) ?_
        refine w_t (pc := 22) (e_s := (17, 3, 42, 0, 0, .null, [])) (y_s := (42, [some (.ref _), some (.int _)], [.int _], _)) rfl (u_ rfl) ?_
        refine wrI (pc := 42) (len_s := 1) rfl hk ?_
        show wF _ 191 (5, [some (.ref _), some (.int _), some (.int _), some (.int _), none], [.int _], _) _
        refine w_t (pc := 5) (e_s := (0, 1, 0, 0, 0, .int (-1), [])) (y_s := (6, [some (.ref _), some (.int _), some (.int _), some (.int _), none], [.int _, .int _], _)) rfl (u_ rfl) ?_
        refine w_t (pc := 6) (e_s := (16, 3, 23, 0, 0, .null, [])) (y_s := (9, [some (.ref _), some (.int _), some (.int _), some (.int _), none], [], _)) rfl (u_ rfl) ?_
        refine w_t (pc := 9) (e_s := (3, 1, 0, 0, 0, .null, [])) (y_s := (10, [some (.ref _), some (.int _), some (.int _), some (.int _), none], [.ref _], _)) rfl (u_ rfl) ?_
        refine w_t (pc := 10) (e_s := (1, 1, 2, 0, 0, .null, [])) (y_s := (11, [some (.ref _), some (.int _), some (.int _), some (.int _), none], [.int _, .ref _], _)) rfl (u_ rfl) ?_
        refine w_t (pc := 11) (e_s := (10, 1, 0, 0, 0, .null, [])) (y_s := (12, [some (.ref _), some (.int _), some (.int _), some (.int _), none], [.long (Int32.toInt64 _), .ref _], _)) rfl (u_ rfl) ?_
        refine wcI (pc := 12) (len_s := 3) rfl rfl (l := [some (.ref _), some (.long _), none]) rfl ?_
        refine w_t (pc := 0) (e_s := (2, 1, 1, 0, 0, .null, [])) (y_s := (1, [some (.ref _), some (.long _), none], [.long _], _)) rfl (u_ rfl) ?_
        refine w_t (pc := 1) (e_s := (0, 1, 0, 0, 0, .long 0, [])) (y_s := (2, [some (.ref _), some (.long _), none], [.long _, .long _], _)) rfl (u_ rfl) ?_
        refine w_t (pc := 2) (e_s := (3, 1, 0, 0, 0, .null, [])) (y_s := (3, [some (.ref _), some (.long _), none], [.ref _, .long _, .long _], _)) rfl (u_ rfl) ?_
        refine w20 (pc := 3) (len_s := 3) rfl ?_
        refine w_t (pc := 6) (e_s := (0, 1, 0, 0, 0, .int 1, [])) (y_s := (7, [some (.ref _), some (.long _), none], [.int _, .int _, .long _, .long _], _)) rfl (u_ rfl) ?_
        refine w_t (pc := 7) (e_s := (7, 1, 0, 1, 0, .null, [])) (y_s := (8, [some (.ref _), some (.long _), none], [.int (_ - _), .long _, .long _], _)) rfl (u_ rfl) ?_
        refine w_t (pc := 8) (e_s := (10, 1, 0, 0, 0, .null, [])) (y_s := (9, [some (.ref _), some (.long _), none], [.long (Int32.toInt64 _), .long _, .long _], _)) rfl (u_ rfl) ?_
        refine wcI (pc := 9) (len_s := 3) rfl rfl (l := [some (.long _), none, some (.long _), none, some (.long _), none]) rfl ?_
        refine w_t (pc := 0) (e_s := (2, 1, 0, 0, 0, .null, [])) (y_s := (1, [some (.long _), none, some (.long _), none, some (.long _), none], [.long _], _)) rfl (u_ rfl) ?_
        refine w_t (pc := 1) (e_s := (2, 1, 2, 0, 0, .null, [])) (y_s := (2, [some (.long _), none, some (.long _), none, some (.long _), none], [.long _, .long _], _)) rfl (u_ rfl) ?_
        refine w_t (pc := 2) (e_s := (14, 1, 0, 0, 0, .null, [])) (y_s := (3, [some (.long _), none, some (.long _), none, some (.long _), none], [.int (lg_cmp _ _)], _)) rfl (u_ rfl) ?_
        refine wl2 (pc := 3) (len_s := 3) (Y := 0) rfl (Int32.toInt_toInt64 _) (by decide) (fun c5_s => ?_) (fun c5_s => ?_)
        · replace t_s := t_s.1 c5_s
          refine w_t (pc := 17) (e_s := (0, 1, 0, 0, 0, .int 0, [])) (y_s := (18, [some (.long _), none, some (.long _), none, some (.long _), none], [.int _], _)) rfl (u_ rfl) ?_
          refine wrI (pc := 18) (len_s := 1) rfl hk ?_
          show wF _ 152 (12, [some (.ref _), some (.long _), none], [.int _], _) _
          refine wrI (pc := 12) (len_s := 1) rfl hk ?_
          show wF _ 191 (15, [some (.ref _), some (.int _), some (.int _), some (.int _), none], [.int _], _) _
          refine w_t (pc := 15) (e_s := (15, 3, 23, 0, 0, .null, [])) (y_s := (23, [some (.ref _), some (.int _), some (.int _), some (.int _), none], [], _)) rfl (u_ rfl) ?_
          refine w_t (pc := 23) (e_s := (0, 1, 0, 0, 0, .int (-1), [])) (y_s := (24, [some (.ref _), some (.int _), some (.int _), some (.int _), none], [.int _], _)) rfl (u_ rfl) ?_
          exact wrI (pc := 24) (len_s := 1) rfl hk t_s
        · replace t_s := t_s.2 c5_s
          refine w_t (pc := 6) (e_s := (2, 1, 0, 0, 0, .null, [])) (y_s := (7, [some (.long _), none, some (.long _), none, some (.long _), none], [.long _], _)) rfl (u_ rfl) ?_
          refine w_t (pc := 7) (e_s := (2, 2, 4, 0, 0, .null, [])) (y_s := (9, [some (.long _), none, some (.long _), none, some (.long _), none], [.long _, .long _], _)) rfl (u_ rfl) ?_
          refine w_t (pc := 9) (e_s := (14, 1, 0, 0, 0, .null, [])) (y_s := (10, [some (.long _), none, some (.long _), none, some (.long _), none], [.int (lg_cmp _ _)], _)) rfl (u_ rfl) ?_
          refine wl4 (pc := 10) (len_s := 3) rfl (Int32.toInt_toInt64 _) (Int32.toInt_toInt64 _) (fun c6_s => ?_) (fun c6_s => ?_)
          · replace t_s := t_s.1 c6_s
            refine w_t (pc := 17) (e_s := (0, 1, 0, 0, 0, .int 0, [])) (y_s := (18, [some (.long _), none, some (.long _), none, some (.long _), none], [.int _], _)) rfl (u_ rfl) ?_
            refine wrI (pc := 18) (len_s := 1) rfl hk ?_
            show wF _ 152 (12, [some (.ref _), some (.long _), none], [.int _], _) _
            refine wrI (pc := 12) (len_s := 1) rfl hk ?_
            show wF _ 191 (15, [some (.ref _), some (.int _), some (.int _), some (.int _), none], [.int _], _) _
            refine w_t (pc := 15) (e_s := (15, 3, 23, 0, 0, .null, [])) (y_s := (23, [some (.ref _), some (.int _), some (.int _), some (.int _), none], [], _)) rfl (u_ rfl) ?_
            refine w_t (pc := 23) (e_s := (0, 1, 0, 0, 0, .int (-1), [])) (y_s := (24, [some (.ref _), some (.int _), some (.int _), some (.int _), none], [.int _], _)) rfl (u_ rfl) ?_
            exact wrI (pc := 24) (len_s := 1) rfl hk t_s
          · replace t_s := t_s.2 c6_s
            refine w_t (pc := 13) (e_s := (0, 1, 0, 0, 0, .int 1, [])) (y_s := (14, [some (.long _), none, some (.long _), none, some (.long _), none], [.int _], _)) rfl (u_ rfl) ?_
            refine w_t (pc := 14) (e_s := (17, 3, 18, 0, 0, .null, [])) (y_s := (18, [some (.long _), none, some (.long _), none, some (.long _), none], [.int _], _)) rfl (u_ rfl) ?_
            refine wrI (pc := 18) (len_s := 1) rfl hk ?_
            show wF _ 152 (12, [some (.ref _), some (.long _), none], [.int _], _) _
            refine wrI (pc := 12) (len_s := 1) rfl hk ?_
            show wF _ 191 (15, [some (.ref _), some (.int _), some (.int _), some (.int _), none], [.int _], _) _
            refine w_t (pc := 15) (e_s := (15, 3, 23, 0, 0, .null, [])) (y_s := (18, [some (.ref _), some (.int _), some (.int _), some (.int _), none], [], _)) rfl (u_ rfl) ?_
            refine w_t (pc := 18) (e_s := (1, 1, 3, 0, 0, .null, [])) (y_s := (19, [some (.ref _), some (.int _), some (.int _), some (.int _), none], [.int _], _)) rfl (u_ rfl) ?_
            refine w_t (pc := 19) (e_s := (0, 1, 0, 0, 0, .int (-1), [])) (y_s := (20, [some (.ref _), some (.int _), some (.int _), some (.int _), none], [.int _, .int _], _)) rfl (u_ rfl) ?_
            refine wi3 (pc := 20) (len_s := 3) (Y := -1) rfl rfl (by decide) (fun c7_s => ?_) (fun c7_s => ?_)
            · replace t_s := t_s.1 c7_s
              refine w_t (pc := 23) (e_s := (0, 1, 0, 0, 0, .int (-1), [])) (y_s := (24, [some (.ref _), some (.int _), some (.int _), some (.int _), none], [.int _], _)) rfl (u_ rfl) ?_
              exact wrI (pc := 24) (len_s := 1) rfl hk t_s
            · replace t_s := t_s.2 c7_s
              refine w_t (pc := 25) (e_s := (3, 1, 0, 0, 0, .null, [])) (y_s := (26, [some (.ref _), some (.int _), some (.int _), some (.int _), none], [.ref _], _)) rfl (u_ rfl) ?_
              refine w_t (pc := 26) (e_s := (1, 1, 1, 0, 0, .null, [])) (y_s := (27, [some (.ref _), some (.int _), some (.int _), some (.int _), none], [.int _, .ref _], _)) rfl (u_ rfl) ?_
              refine wcI (pc := 27) (len_s := 3) rfl rfl (l := [some (.ref _), some (.int _)]) rfl ?_
              refine w_t (pc := 0) (e_s := (1, 1, 1, 0, 0, .null, [])) (y_s := (1, [some (.ref _), some (.int _)], [.int _], _)) rfl (u_ rfl) ?_
              refine wcI (pc := 1) (len_s := 3) rfl rfl (l := [some (.int _)]) rfl ?_
              refine w_t (pc := 0) (e_s := (1, 1, 0, 0, 0, .null, [])) (y_s := (1, [some (.int _)], [.int _], _)) rfl (u_ rfl) ?_
              refine w_t (pc := 1) (e_s := (10, 1, 0, 0, 0, .null, [])) (y_s := (2, [some (.int _)], [.long (Int32.toInt64 _)], _)) rfl (u_ rfl) ?_
              refine w_t (pc := 2) (e_s := (0, 1, 0, 0, 0, .long 0, [])) (y_s := (3, [some (.int _)], [.long _, .long _], _)) rfl (u_ rfl) ?_
              refine w_t (pc := 3) (e_s := (0, 3, 0, 0, 0, .long 5, [(0, 1063)])) (y_s := (6, [some (.int _)], [.long _, .long _, .long _], _)) rfl (u_ rfl) ?_
              refine wcI (pc := 6) (len_s := 3) rfl rfl (l := [some (.long _), none, some (.long _), none, some (.long _), none]) rfl ?_
              refine w_t (pc := 0) (e_s := (2, 1, 0, 0, 0, .null, [])) (y_s := (1, [some (.long _), none, some (.long _), none, some (.long _), none], [.long _], _)) rfl (u_ rfl) ?_
              refine w_t (pc := 1) (e_s := (2, 1, 2, 0, 0, .null, [])) (y_s := (2, [some (.long _), none, some (.long _), none, some (.long _), none], [.long _, .long _], _)) rfl (u_ rfl) ?_
              refine w_t (pc := 2) (e_s := (14, 1, 0, 0, 0, .null, [])) (y_s := (3, [some (.long _), none, some (.long _), none, some (.long _), none], [.int (lg_cmp _ _)], _)) rfl (u_ rfl) ?_
              refine wl2 (pc := 3) (len_s := 3) (Y := 0) rfl (Int32.toInt_toInt64 _) (by decide) (fun c8_s => ?_) (fun c8_s => ?_)
              · exact absurd c8_s c1_s
              · skip
                refine w_t (pc := 6) (e_s := (2, 1, 0, 0, 0, .null, [])) (y_s := (7, [some (.long _), none, some (.long _), none, some (.long _), none], [.long _], _)) rfl (u_ rfl) ?_
                refine w_t (pc := 7) (e_s := (2, 2, 4, 0, 0, .null, [])) (y_s := (9, [some (.long _), none, some (.long _), none, some (.long _), none], [.long _, .long _], _)) rfl (u_ rfl) ?_
                refine w_t (pc := 9) (e_s := (14, 1, 0, 0, 0, .null, [])) (y_s := (10, [some (.long _), none, some (.long _), none, some (.long _), none], [.int (lg_cmp _ _)], _)) rfl (u_ rfl) ?_
                refine wl4 (pc := 10) (len_s := 3) (Y := 5) rfl (Int32.toInt_toInt64 _) (by decide) (fun c9_s => ?_) (fun c9_s => ?_)
                · exact absurd c9_s c2_s
                · skip
                  refine w_t (pc := 13) (e_s := (0, 1, 0, 0, 0, .int 1, [])) (y_s := (14, [some (.long _), none, some (.long _), none, some (.long _), none], [.int _], _)) rfl (u_ rfl) ?_
                  refine w_t (pc := 14) (e_s := (17, 3, 18, 0, 0, .null, [])) (y_s := (18, [some (.long _), none, some (.long _), none, some (.long _), none], [.int _], _)) rfl (u_ rfl) ?_
                  refine wrI (pc := 18) (len_s := 1) rfl hk ?_
                  show wF _ 228 (9, [some (.int _)], [.int _], _) _
                  refine wrI (pc := 9) (len_s := 1) rfl hk ?_
                  show wF _ 186 (4, [some (.ref _), some (.int _)], [.int _], _) _
                  refine w_t (pc := 4) (e_s := (15, 3, 11, 1, 0, .null, [])) (y_s := (11, [some (.ref _), some (.int _)], [], _)) rfl (u_ rfl) ?_
                  refine w_t (pc := 11) (e_s := (3, 1, 0, 0, 0, .null, [])) (y_s := (12, [some (.ref _), some (.int _)], [.ref _], _)) rfl (u_ rfl) ?_
                  refine w20r (pc := 12) (len_s := 3) (q_s := 124) rfl (krq hk rfl) ?_
                  refine w_t (pc := 15) (e_s := (1, 1, 1, 0, 0, .null, [])) (y_s := (16, [some (.ref _), some (.int _)], [.int _, .ref _], _)) rfl (u_ rfl) ?_
                  refine w22 (pc := 16) (len_s := 1) rfl (hk.1 124 0 6 rfl rfl) (fun c10_s => ?_)
                  refine wq3 (pc := 17) (len_s := 3) rfl rfl (fun c11 => ?_) (fun c11 => ?_)
                  · skip
                    refine w_t (pc := 20) (e_s := (0, 2, 0, 0, 0, .int (-11), [])) (y_s := (22, [some (.ref _), some (.int _)], [.int _], _)) rfl (u_ rfl) ?_
                    refine w_t (pc := 22) (e_s := (17, 3, 42, 0, 0, .null, [])) (y_s := (42, [some (.ref _), some (.int _)], [.int _], _)) rfl (u_ rfl) ?_
                    refine wrI (pc := 42) (len_s := 1) rfl hk ?_
                    show wF _ 191 (30, [some (.ref _), some (.int _), some (.int _), some (.int _), none], [.int _], _) _
                    refine w_t (pc := 30) (e_s := (15, 3, 39, 3, 0, .null, [])) (y_s := (33, [some (.ref _), some (.int _), some (.int _), some (.int _), none], [], _)) rfl (u_ rfl) ?_
                    refine w_t (pc := 33) (e_s := (3, 1, 0, 0, 0, .null, [])) (y_s := (34, [some (.ref _), some (.int _), some (.int _), some (.int _), none], [.ref _], _)) rfl (u_ rfl) ?_
                    refine w_t (pc := 34) (e_s := (1, 1, 1, 0, 0, .null, [])) (y_s := (35, [some (.ref _), some (.int _), some (.int _), some (.int _), none], [.int _, .ref _], _)) rfl (u_ rfl) ?_
                    refine wcI (pc := 35) (len_s := 3) rfl rfl (l := [some (.ref _), some (.int _)]) rfl ?_
                    refine w_t (pc := 0) (e_s := (1, 1, 1, 0, 0, .null, [])) (y_s := (1, [some (.ref _), some (.int _)], [.int _], _)) rfl (u_ rfl) ?_
                    refine wcI (pc := 1) (len_s := 3) rfl rfl (l := [some (.int _)]) rfl ?_
                    refine w_t (pc := 0) (e_s := (1, 1, 0, 0, 0, .null, [])) (y_s := (1, [some (.int _)], [.int _], _)) rfl (u_ rfl) ?_
                    refine w_t (pc := 1) (e_s := (10, 1, 0, 0, 0, .null, [])) (y_s := (2, [some (.int _)], [.long (Int32.toInt64 _)], _)) rfl (u_ rfl) ?_
                    refine w_t (pc := 2) (e_s := (0, 1, 0, 0, 0, .long 0, [])) (y_s := (3, [some (.int _)], [.long _, .long _], _)) rfl (u_ rfl) ?_
                    refine w_t (pc := 3) (e_s := (0, 3, 0, 0, 0, .long 5, [(0, 1063)])) (y_s := (6, [some (.int _)], [.long _, .long _, .long _], _)) rfl (u_ rfl) ?_
                    refine wcI (pc := 6) (len_s := 3) rfl rfl (l := [some (.long _), none, some (.long _), none, some (.long _), none]) rfl ?_
                    refine w_t (pc := 0) (e_s := (2, 1, 0, 0, 0, .null, [])) (y_s := (1, [some (.long _), none, some (.long _), none, some (.long _), none], [.long _], _)) rfl (u_ rfl) ?_
                    refine w_t (pc := 1) (e_s := (2, 1, 2, 0, 0, .null, [])) (y_s := (2, [some (.long _), none, some (.long _), none, some (.long _), none], [.long _, .long _], _)) rfl (u_ rfl) ?_
                    refine w_t (pc := 2) (e_s := (14, 1, 0, 0, 0, .null, [])) (y_s := (3, [some (.long _), none, some (.long _), none, some (.long _), none], [.int (lg_cmp _ _)], _)) rfl (u_ rfl) ?_
                    refine wl2 (pc := 3) (len_s := 3) (Y := 0) rfl (Int32.toInt_toInt64 _) (by decide) (fun c12_s => ?_) (fun c12_s => ?_)
                    · exact absurd c12_s c1_s
                    · skip
                      refine w_t (pc := 6) (e_s := (2, 1, 0, 0, 0, .null, [])) (y_s := (7, [some (.long _), none, some (.long _), none, some (.long _), none], [.long _], _)) rfl (u_ rfl) ?_
                      refine w_t (pc := 7) (e_s := (2, 2, 4, 0, 0, .null, [])) (y_s := (9, [some (.long _), none, some (.long _), none, some (.long _), none], [.long _, .long _], _)) rfl (u_ rfl) ?_
                      refine w_t (pc := 9) (e_s := (14, 1, 0, 0, 0, .null, [])) (y_s := (10, [some (.long _), none, some (.long _), none, some (.long _), none], [.int (lg_cmp _ _)], _)) rfl (u_ rfl) ?_
                      refine wl4 (pc := 10) (len_s := 3) (Y := 5) rfl (Int32.toInt_toInt64 _) (by decide) (fun c13_s => ?_) (fun c13_s => ?_)
                      · exact absurd c13_s c2_s
                      · skip
                        refine w_t (pc := 13) (e_s := (0, 1, 0, 0, 0, .int 1, [])) (y_s := (14, [some (.long _), none, some (.long _), none, some (.long _), none], [.int _], _)) rfl (u_ rfl) ?_
                        refine w_t (pc := 14) (e_s := (17, 3, 18, 0, 0, .null, [])) (y_s := (18, [some (.long _), none, some (.long _), none, some (.long _), none], [.int _], _)) rfl (u_ rfl) ?_
                        refine wrI (pc := 18) (len_s := 1) rfl hk ?_
                        show wF _ 228 (9, [some (.int _)], [.int _], _) _
                        refine wrI (pc := 9) (len_s := 1) rfl hk ?_
                        show wF _ 186 (4, [some (.ref _), some (.int _)], [.int _], _) _
                        refine w_t (pc := 4) (e_s := (15, 3, 11, 1, 0, .null, [])) (y_s := (11, [some (.ref _), some (.int _)], [], _)) rfl (u_ rfl) ?_
                        refine w_t (pc := 11) (e_s := (3, 1, 0, 0, 0, .null, [])) (y_s := (12, [some (.ref _), some (.int _)], [.ref _], _)) rfl (u_ rfl) ?_
                        refine w20r (pc := 12) (len_s := 3) (q_s := 124) rfl (krq hk rfl) ?_
                        refine w_t (pc := 15) (e_s := (1, 1, 1, 0, 0, .null, [])) (y_s := (16, [some (.ref _), some (.int _)], [.int _, .ref _], _)) rfl (u_ rfl) ?_
                        refine w22 (pc := 16) (len_s := 1) rfl (hk.1 124 0 6 rfl rfl) (fun c14_s => ?_)
                        refine wq3 (pc := 17) (len_s := 3) rfl rfl (fun c15_s => ?_) (fun c15_s => ?_)
                        · skip
                          refine w_t (pc := 20) (e_s := (0, 2, 0, 0, 0, .int (-11), [])) (y_s := (22, [some (.ref _), some (.int _)], [.int _], _)) rfl (u_ rfl) ?_
                          refine w_t (pc := 22) (e_s := (17, 3, 42, 0, 0, .null, [])) (y_s := (42, [some (.ref _), some (.int _)], [.int _], _)) rfl (u_ rfl) ?_
                          refine wrI (pc := 42) (len_s := 1) rfl hk ?_
                          show wF _ 191 (38, [some (.ref _), some (.int _), some (.int _), some (.int _), none], [.int _], _) _
                          exact wrI (pc := 38) (len_s := 1) rfl hk t_s
                        · exact absurd c4_s c15_s
                  · exact absurd c4_s c11
      · replace t_s := t_s.2 c4_s
        refine w_t (pc := 25) (e_s := (3, 1, 0, 0, 0, .null, [])) (y_s := (26, [some (.ref _), some (.int _)], [.ref _], _)) rfl (u_ rfl) ?_
        refine w20r (pc := 26) (len_s := 3) (q_s := 124) rfl (krq hk rfl) ?_
        refine w_t (pc := 29) (e_s := (1, 1, 1, 0, 0, .null, [])) (y_s := (30, [some (.ref _), some (.int _)], [.int _, .ref _], _)) rfl (u_ rfl) ?_
        refine w22 (pc := 30) (len_s := 1) rfl (hk.1 124 0 6 rfl rfl) (fun c16 => ?_)
        refine w_t (pc := 31) (e_s := (0, 2, 0, 0, 0, .int 50, [])) (y_s := (33, [some (.ref _), some (.int _)], [.int _, .int _], _)) rfl (u_ rfl) ?_
        refine wi1 (pc := 33) (len_s := 3) (Y := 50) rfl rfl (by decide) (fun c17 => ?_) (fun c17 => ?_)
        · replace t_s := t_s.1 c17
          refine w_t (pc := 36) (e_s := (0, 1, 0, 0, 0, .int 1, [])) (y_s := (37, [some (.ref _), some (.int _)], [.int _], _)) rfl (u_ rfl) ?_
          refine w_t (pc := 37) (e_s := (17, 3, 42, 0, 0, .null, [])) (y_s := (42, [some (.ref _), some (.int _)], [.int _], _)) rfl (u_ rfl) ?_
          refine wrI (pc := 42) (len_s := 1) rfl hk ?_
          show wF _ 191 (5, [some (.ref _), some (.int _), some (.int _), some (.int _), none], [.int _], _) _
          refine w_t (pc := 5) (e_s := (0, 1, 0, 0, 0, .int (-1), [])) (y_s := (6, [some (.ref _), some (.int _), some (.int _), some (.int _), none], [.int _, .int _], _)) rfl (u_ rfl) ?_
          refine w_t (pc := 6) (e_s := (16, 3, 23, 0, 0, .null, [])) (y_s := (9, [some (.ref _), some (.int _), some (.int _), some (.int _), none], [], _)) rfl (u_ rfl) ?_
          refine w_t (pc := 9) (e_s := (3, 1, 0, 0, 0, .null, [])) (y_s := (10, [some (.ref _), some (.int _), some (.int _), some (.int _), none], [.ref _], _)) rfl (u_ rfl) ?_
          refine w_t (pc := 10) (e_s := (1, 1, 2, 0, 0, .null, [])) (y_s := (11, [some (.ref _), some (.int _), some (.int _), some (.int _), none], [.int _, .ref _], _)) rfl (u_ rfl) ?_
          refine w_t (pc := 11) (e_s := (10, 1, 0, 0, 0, .null, [])) (y_s := (12, [some (.ref _), some (.int _), some (.int _), some (.int _), none], [.long (Int32.toInt64 _), .ref _], _)) rfl (u_ rfl) ?_
          refine wcI (pc := 12) (len_s := 3) rfl rfl (l := [some (.ref _), some (.long _), none]) rfl ?_
          refine w_t (pc := 0) (e_s := (2, 1, 1, 0, 0, .null, [])) (y_s := (1, [some (.ref _), some (.long _), none], [.long _], _)) rfl (u_ rfl) ?_
          refine w_t (pc := 1) (e_s := (0, 1, 0, 0, 0, .long 0, [])) (y_s := (2, [some (.ref _), some (.long _), none], [.long _, .long _], _)) rfl (u_ rfl) ?_
          refine w_t (pc := 2) (e_s := (3, 1, 0, 0, 0, .null, [])) (y_s := (3, [some (.ref _), some (.long _), none], [.ref _, .long _, .long _], _)) rfl (u_ rfl) ?_
          refine w20 (pc := 3) (len_s := 3) rfl ?_
          refine w_t (pc := 6) (e_s := (0, 1, 0, 0, 0, .int 1, [])) (y_s := (7, [some (.ref _), some (.long _), none], [.int _, .int _, .long _, .long _], _)) rfl (u_ rfl) ?_
          refine w_t (pc := 7) (e_s := (7, 1, 0, 1, 0, .null, [])) (y_s := (8, [some (.ref _), some (.long _), none], [.int (_ - _), .long _, .long _], _)) rfl (u_ rfl) ?_
          refine w_t (pc := 8) (e_s := (10, 1, 0, 0, 0, .null, [])) (y_s := (9, [some (.ref _), some (.long _), none], [.long (Int32.toInt64 _), .long _, .long _], _)) rfl (u_ rfl) ?_
          refine wcI (pc := 9) (len_s := 3) rfl rfl (l := [some (.long _), none, some (.long _), none, some (.long _), none]) rfl ?_
          refine w_t (pc := 0) (e_s := (2, 1, 0, 0, 0, .null, [])) (y_s := (1, [some (.long _), none, some (.long _), none, some (.long _), none], [.long _], _)) rfl (u_ rfl) ?_
          refine w_t (pc := 1) (e_s := (2, 1, 2, 0, 0, .null, [])) (y_s := (2, [some (.long _), none, some (.long _), none, some (.long _), none], [.long _, .long _], _)) rfl (u_ rfl) ?_
          refine w_t (pc := 2) (e_s := (14, 1, 0, 0, 0, .null, [])) (y_s := (3, [some (.long _), none, some (.long _), none, some (.long _), none], [.int (lg_cmp _ _)], _)) rfl (u_ rfl) ?_
          refine wl2 (pc := 3) (len_s := 3) (Y := 0) rfl (Int32.toInt_toInt64 _) (by decide) (fun c18_s => ?_) (fun c18_s => ?_)
          · replace t_s := t_s.1 c18_s
            refine w_t (pc := 17) (e_s := (0, 1, 0, 0, 0, .int 0, [])) (y_s := (18, [some (.long _), none, some (.long _), none, some (.long _), none], [.int _], _)) rfl (u_ rfl) ?_
            refine wrI (pc := 18) (len_s := 1) rfl hk ?_
            show wF _ 152 (12, [some (.ref _), some (.long _), none], [.int _], _) _
            refine wrI (pc := 12) (len_s := 1) rfl hk ?_
            show wF _ 191 (15, [some (.ref _), some (.int _), some (.int _), some (.int _), none], [.int _], _) _
            refine w_t (pc := 15) (e_s := (15, 3, 23, 0, 0, .null, [])) (y_s := (23, [some (.ref _), some (.int _), some (.int _), some (.int _), none], [], _)) rfl (u_ rfl) ?_
            refine w_t (pc := 23) (e_s := (0, 1, 0, 0, 0, .int (-1), [])) (y_s := (24, [some (.ref _), some (.int _), some (.int _), some (.int _), none], [.int _], _)) rfl (u_ rfl) ?_
            exact wrI (pc := 24) (len_s := 1) rfl hk t_s
          · replace t_s := t_s.2 c18_s
            refine w_t (pc := 6) (e_s := (2, 1, 0, 0, 0, .null, [])) (y_s := (7, [some (.long _), none, some (.long _), none, some (.long _), none], [.long _], _)) rfl (u_ rfl) ?_
            refine w_t (pc := 7) (e_s := (2, 2, 4, 0, 0, .null, [])) (y_s := (9, [some (.long _), none, some (.long _), none, some (.long _), none], [.long _, .long _], _)) rfl (u_ rfl) ?_
            refine w_t (pc := 9) (e_s := (14, 1, 0, 0, 0, .null, [])) (y_s := (10, [some (.long _), none, some (.long _), none, some (.long _), none], [.int (lg_cmp _ _)], _)) rfl (u_ rfl) ?_
            refine wl4 (pc := 10) (len_s := 3) rfl (Int32.toInt_toInt64 _) (Int32.toInt_toInt64 _) (fun c19_s => ?_) (fun c19_s => ?_)
            · replace t_s := t_s.1 c19_s
              refine w_t (pc := 17) (e_s := (0, 1, 0, 0, 0, .int 0, [])) (y_s := (18, [some (.long _), none, some (.long _), none, some (.long _), none], [.int _], _)) rfl (u_ rfl) ?_
              refine wrI (pc := 18) (len_s := 1) rfl hk ?_
              show wF _ 152 (12, [some (.ref _), some (.long _), none], [.int _], _) _
              refine wrI (pc := 12) (len_s := 1) rfl hk ?_
              show wF _ 191 (15, [some (.ref _), some (.int _), some (.int _), some (.int _), none], [.int _], _) _
              refine w_t (pc := 15) (e_s := (15, 3, 23, 0, 0, .null, [])) (y_s := (23, [some (.ref _), some (.int _), some (.int _), some (.int _), none], [], _)) rfl (u_ rfl) ?_
              refine w_t (pc := 23) (e_s := (0, 1, 0, 0, 0, .int (-1), [])) (y_s := (24, [some (.ref _), some (.int _), some (.int _), some (.int _), none], [.int _], _)) rfl (u_ rfl) ?_
              exact wrI (pc := 24) (len_s := 1) rfl hk t_s
            · replace t_s := t_s.2 c19_s
              refine w_t (pc := 13) (e_s := (0, 1, 0, 0, 0, .int 1, [])) (y_s := (14, [some (.long _), none, some (.long _), none, some (.long _), none], [.int _], _)) rfl (u_ rfl) ?_
              refine w_t (pc := 14) (e_s := (17, 3, 18, 0, 0, .null, [])) (y_s := (18, [some (.long _), none, some (.long _), none, some (.long _), none], [.int _], _)) rfl (u_ rfl) ?_
              refine wrI (pc := 18) (len_s := 1) rfl hk ?_
              show wF _ 152 (12, [some (.ref _), some (.long _), none], [.int _], _) _
              refine wrI (pc := 12) (len_s := 1) rfl hk ?_
              show wF _ 191 (15, [some (.ref _), some (.int _), some (.int _), some (.int _), none], [.int _], _) _
              refine w_t (pc := 15) (e_s := (15, 3, 23, 0, 0, .null, [])) (y_s := (18, [some (.ref _), some (.int _), some (.int _), some (.int _), none], [], _)) rfl (u_ rfl) ?_
              refine w_t (pc := 18) (e_s := (1, 1, 3, 0, 0, .null, [])) (y_s := (19, [some (.ref _), some (.int _), some (.int _), some (.int _), none], [.int _], _)) rfl (u_ rfl) ?_
              refine w_t (pc := 19) (e_s := (0, 1, 0, 0, 0, .int (-1), [])) (y_s := (20, [some (.ref _), some (.int _), some (.int _), some (.int _), none], [.int _, .int _], _)) rfl (u_ rfl) ?_
              refine wi3 (pc := 20) (len_s := 3) (Y := -1) rfl rfl (by decide) (fun c20_s => ?_) (fun c20_s => ?_)
              · replace t_s := t_s.1 c20_s
                refine w_t (pc := 23) (e_s := (0, 1, 0, 0, 0, .int (-1), [])) (y_s := (24, [some (.ref _), some (.int _), some (.int _), some (.int _), none], [.int _], _)) rfl (u_ rfl) ?_
                exact wrI (pc := 24) (len_s := 1) rfl hk t_s
              · replace t_s := t_s.2 c20_s
                refine w_t (pc := 25) (e_s := (3, 1, 0, 0, 0, .null, [])) (y_s := (26, [some (.ref _), some (.int _), some (.int _), some (.int _), none], [.ref _], _)) rfl (u_ rfl) ?_
                refine w_t (pc := 26) (e_s := (1, 1, 1, 0, 0, .null, [])) (y_s := (27, [some (.ref _), some (.int _), some (.int _), some (.int _), none], [.int _, .ref _], _)) rfl (u_ rfl) ?_
                refine wcI (pc := 27) (len_s := 3) rfl rfl (l := [some (.ref _), some (.int _)]) rfl ?_
                refine w_t (pc := 0) (e_s := (1, 1, 1, 0, 0, .null, [])) (y_s := (1, [some (.ref _), some (.int _)], [.int _], _)) rfl (u_ rfl) ?_
                refine wcI (pc := 1) (len_s := 3) rfl rfl (l := [some (.int _)]) rfl ?_
                refine w_t (pc := 0) (e_s := (1, 1, 0, 0, 0, .null, [])) (y_s := (1, [some (.int _)], [.int _], _)) rfl (u_ rfl) ?_
                refine w_t (pc := 1) (e_s := (10, 1, 0, 0, 0, .null, [])) (y_s := (2, [some (.int _)], [.long (Int32.toInt64 _)], _)) rfl (u_ rfl) ?_
                refine w_t (pc := 2) (e_s := (0, 1, 0, 0, 0, .long 0, [])) (y_s := (3, [some (.int _)], [.long _, .long _], _)) rfl (u_ rfl) ?_
                refine w_t (pc := 3) (e_s := (0, 3, 0, 0, 0, .long 5, [(0, 1063)])) (y_s := (6, [some (.int _)], [.long _, .long _, .long _], _)) rfl (u_ rfl) ?_
                refine wcI (pc := 6) (len_s := 3) rfl rfl (l := [some (.long _), none, some (.long _), none, some (.long _), none]) rfl ?_
                refine w_t (pc := 0) (e_s := (2, 1, 0, 0, 0, .null, [])) (y_s := (1, [some (.long _), none, some (.long _), none, some (.long _), none], [.long _], _)) rfl (u_ rfl) ?_
                refine w_t (pc := 1) (e_s := (2, 1, 2, 0, 0, .null, [])) (y_s := (2, [some (.long _), none, some (.long _), none, some (.long _), none], [.long _, .long _], _)) rfl (u_ rfl) ?_
                refine w_t (pc := 2) (e_s := (14, 1, 0, 0, 0, .null, [])) (y_s := (3, [some (.long _), none, some (.long _), none, some (.long _), none], [.int (lg_cmp _ _)], _)) rfl (u_ rfl) ?_
                refine wl2 (pc := 3) (len_s := 3) (Y := 0) rfl (Int32.toInt_toInt64 _) (by decide) (fun c21 => ?_) (fun c21 => ?_)
                · exact absurd c21 c1_s
                · skip
                  refine w_t (pc := 6) (e_s := (2, 1, 0, 0, 0, .null, [])) (y_s := (7, [some (.long _), none, some (.long _), none, some (.long _), none], [.long _], _)) rfl (u_ rfl) ?_
                  refine w_t (pc := 7) (e_s := (2, 2, 4, 0, 0, .null, [])) (y_s := (9, [some (.long _), none, some (.long _), none, some (.long _), none], [.long _, .long _], _)) rfl (u_ rfl) ?_
                  refine w_t (pc := 9) (e_s := (14, 1, 0, 0, 0, .null, [])) (y_s := (10, [some (.long _), none, some (.long _), none, some (.long _), none], [.int (lg_cmp _ _)], _)) rfl (u_ rfl) ?_
                  refine wl4 (pc := 10) (len_s := 3) (Y := 5) rfl (Int32.toInt_toInt64 _) (by decide) (fun c22 => ?_) (fun c22 => ?_)
                  · exact absurd c22 c2_s
                  · skip
                    refine w_t (pc := 13) (e_s := (0, 1, 0, 0, 0, .int 1, [])) (y_s := (14, [some (.long _), none, some (.long _), none, some (.long _), none], [.int _], _)) rfl (u_ rfl) ?_
                    refine w_t (pc := 14) (e_s := (17, 3, 18, 0, 0, .null, [])) (y_s := (18, [some (.long _), none, some (.long _), none, some (.long _), none], [.int _], _)) rfl (u_ rfl) ?_
                    refine wrI (pc := 18) (len_s := 1) rfl hk ?_
                    show wF _ 228 (9, [some (.int _)], [.int _], _) _
                    refine wrI (pc := 9) (len_s := 1) rfl hk ?_
                    show wF _ 186 (4, [some (.ref _), some (.int _)], [.int _], _) _
                    refine w_t (pc := 4) (e_s := (15, 3, 11, 1, 0, .null, [])) (y_s := (11, [some (.ref _), some (.int _)], [], _)) rfl (u_ rfl) ?_
                    refine w_t (pc := 11) (e_s := (3, 1, 0, 0, 0, .null, [])) (y_s := (12, [some (.ref _), some (.int _)], [.ref _], _)) rfl (u_ rfl) ?_
                    refine w20r (pc := 12) (len_s := 3) (q_s := 124) rfl (krq hk rfl) ?_
                    refine w_t (pc := 15) (e_s := (1, 1, 1, 0, 0, .null, [])) (y_s := (16, [some (.ref _), some (.int _)], [.int _, .ref _], _)) rfl (u_ rfl) ?_
                    refine w22 (pc := 16) (len_s := 1) rfl (hk.1 124 0 6 rfl rfl) (fun c23_s => ?_)
                    refine wq3 (pc := 17) (len_s := 3) rfl rfl (fun c24_s => ?_) (fun c24_s => ?_)
                    · exact absurd c24_s c4_s
                    · skip
                      refine w_t (pc := 25) (e_s := (3, 1, 0, 0, 0, .null, [])) (y_s := (26, [some (.ref _), some (.int _)], [.ref _], _)) rfl (u_ rfl) ?_
                      refine w20r (pc := 26) (len_s := 3) (q_s := 124) rfl (krq hk rfl) ?_
                      refine w_t (pc := 29) (e_s := (1, 1, 1, 0, 0, .null, [])) (y_s := (30, [some (.ref _), some (.int _)], [.int _, .ref _], _)) rfl (u_ rfl) ?_
                      refine w22 (pc := 30) (len_s := 1) rfl (hk.1 124 0 6 rfl rfl) (fun c25_s => ?_)
                      refine w_t (pc := 31) (e_s := (0, 2, 0, 0, 0, .int 50, [])) (y_s := (33, [some (.ref _), some (.int _)], [.int _, .int _], _)) rfl (u_ rfl) ?_
                      refine wi1 (pc := 33) (len_s := 3) (Y := 50) rfl rfl (by decide) (fun c26 => ?_) (fun c26 => ?_)
                      · skip
                        refine w_t (pc := 36) (e_s := (0, 1, 0, 0, 0, .int 1, [])) (y_s := (37, [some (.ref _), some (.int _)], [.int _], _)) rfl (u_ rfl) ?_
                        refine w_t (pc := 37) (e_s := (17, 3, 42, 0, 0, .null, [])) (y_s := (42, [some (.ref _), some (.int _)], [.int _], _)) rfl (u_ rfl) ?_
                        refine wrI (pc := 42) (len_s := 1) rfl hk ?_
                        show wF _ 191 (30, [some (.ref _), some (.int _), some (.int _), some (.int _), none], [.int _], _) _
                        refine w_t (pc := 30) (e_s := (15, 3, 39, 3, 0, .null, [])) (y_s := (39, [some (.ref _), some (.int _), some (.int _), some (.int _), none], [], _)) rfl (u_ rfl) ?_
                        refine w_t (pc := 39) (e_s := (0, 1, 0, 0, 0, .int 0, [])) (y_s := (40, [some (.ref _), some (.int _), some (.int _), some (.int _), none], [.int _], _)) rfl (u_ rfl) ?_
                        refine w_t (pc := 40) (e_s := (4, 2, 4, 0, 0, .null, [])) (y_s := (42, [some (.ref _), some (.int _), some (.int _), some (.int _), some (.int _)], [], _)) rfl (u_ rfl) ?_
                        exact t_s
                      · exact absurd c17 c26
        · replace t_s := t_s.2 c17
          refine w_t (pc := 40) (e_s := (0, 2, 0, 0, 0, .int (-12), [])) (y_s := (42, [some (.ref _), some (.int _)], [.int _], _)) rfl (u_ rfl) ?_
          refine wrI (pc := 42) (len_s := 1) rfl hk ?_
          show wF _ 191 (5, [some (.ref _), some (.int _), some (.int _), some (.int _), none], [.int _], _) _
          refine w_t (pc := 5) (e_s := (0, 1, 0, 0, 0, .int (-1), [])) (y_s := (6, [some (.ref _), some (.int _), some (.int _), some (.int _), none], [.int _, .int _], _)) rfl (u_ rfl) ?_
          refine w_t (pc := 6) (e_s := (16, 3, 23, 0, 0, .null, [])) (y_s := (9, [some (.ref _), some (.int _), some (.int _), some (.int _), none], [], _)) rfl (u_ rfl) ?_
          refine w_t (pc := 9) (e_s := (3, 1, 0, 0, 0, .null, [])) (y_s := (10, [some (.ref _), some (.int _), some (.int _), some (.int _), none], [.ref _], _)) rfl (u_ rfl) ?_
          refine w_t (pc := 10) (e_s := (1, 1, 2, 0, 0, .null, [])) (y_s := (11, [some (.ref _), some (.int _), some (.int _), some (.int _), none], [.int _, .ref _], _)) rfl (u_ rfl) ?_
          refine w_t (pc := 11) (e_s := (10, 1, 0, 0, 0, .null, [])) (y_s := (12, [some (.ref _), some (.int _), some (.int _), some (.int _), none], [.long (Int32.toInt64 _), .ref _], _)) rfl (u_ rfl) ?_
          refine wcI (pc := 12) (len_s := 3) rfl rfl (l := [some (.ref _), some (.long _), none]) rfl ?_
          refine w_t (pc := 0) (e_s := (2, 1, 1, 0, 0, .null, [])) (y_s := (1, [some (.ref _), some (.long _), none], [.long _], _)) rfl (u_ rfl) ?_
          refine w_t (pc := 1) (e_s := (0, 1, 0, 0, 0, .long 0, [])) (y_s := (2, [some (.ref _), some (.long _), none], [.long _, .long _], _)) rfl (u_ rfl) ?_
          refine w_t (pc := 2) (e_s := (3, 1, 0, 0, 0, .null, [])) (y_s := (3, [some (.ref _), some (.long _), none], [.ref _, .long _, .long _], _)) rfl (u_ rfl) ?_
          refine w20 (pc := 3) (len_s := 3) rfl ?_
          refine w_t (pc := 6) (e_s := (0, 1, 0, 0, 0, .int 1, [])) (y_s := (7, [some (.ref _), some (.long _), none], [.int _, .int _, .long _, .long _], _)) rfl (u_ rfl) ?_
          refine w_t (pc := 7) (e_s := (7, 1, 0, 1, 0, .null, [])) (y_s := (8, [some (.ref _), some (.long _), none], [.int (_ - _), .long _, .long _], _)) rfl (u_ rfl) ?_
          refine w_t (pc := 8) (e_s := (10, 1, 0, 0, 0, .null, [])) (y_s := (9, [some (.ref _), some (.long _), none], [.long (Int32.toInt64 _), .long _, .long _], _)) rfl (u_ rfl) ?_
          refine wcI (pc := 9) (len_s := 3) rfl rfl (l := [some (.long _), none, some (.long _), none, some (.long _), none]) rfl ?_
          refine w_t (pc := 0) (e_s := (2, 1, 0, 0, 0, .null, [])) (y_s := (1, [some (.long _), none, some (.long _), none, some (.long _), none], [.long _], _)) rfl (u_ rfl) ?_
          refine w_t (pc := 1) (e_s := (2, 1, 2, 0, 0, .null, [])) (y_s := (2, [some (.long _), none, some (.long _), none, some (.long _), none], [.long _, .long _], _)) rfl (u_ rfl) ?_
          refine w_t (pc := 2) (e_s := (14, 1, 0, 0, 0, .null, [])) (y_s := (3, [some (.long _), none, some (.long _), none, some (.long _), none], [.int (lg_cmp _ _)], _)) rfl (u_ rfl) ?_
          refine wl2 (pc := 3) (len_s := 3) (Y := 0) rfl (Int32.toInt_toInt64 _) (by decide) (fun c27_s => ?_) (fun c27_s => ?_)
          · replace t_s := t_s.1 c27_s
            refine w_t (pc := 17) (e_s := (0, 1, 0, 0, 0, .int 0, [])) (y_s := (18, [some (.long _), none, some (.long _), none, some (.long _), none], [.int _], _)) rfl (u_ rfl) ?_
            refine wrI (pc := 18) (len_s := 1) rfl hk ?_
            show wF _ 152 (12, [some (.ref _), some (.long _), none], [.int _], _) _
            refine wrI (pc := 12) (len_s := 1) rfl hk ?_
            show wF _ 191 (15, [some (.ref _), some (.int _), some (.int _), some (.int _), none], [.int _], _) _
            refine w_t (pc := 15) (e_s := (15, 3, 23, 0, 0, .null, [])) (y_s := (23, [some (.ref _), some (.int _), some (.int _), some (.int _), none], [], _)) rfl (u_ rfl) ?_
            refine w_t (pc := 23) (e_s := (0, 1, 0, 0, 0, .int (-1), [])) (y_s := (24, [some (.ref _), some (.int _), some (.int _), some (.int _), none], [.int _], _)) rfl (u_ rfl) ?_
            exact wrI (pc := 24) (len_s := 1) rfl hk t_s
          · replace t_s := t_s.2 c27_s
            refine w_t (pc := 6) (e_s := (2, 1, 0, 0, 0, .null, [])) (y_s := (7, [some (.long _), none, some (.long _), none, some (.long _), none], [.long _], _)) rfl (u_ rfl) ?_
            refine w_t (pc := 7) (e_s := (2, 2, 4, 0, 0, .null, [])) (y_s := (9, [some (.long _), none, some (.long _), none, some (.long _), none], [.long _, .long _], _)) rfl (u_ rfl) ?_
            refine w_t (pc := 9) (e_s := (14, 1, 0, 0, 0, .null, [])) (y_s := (10, [some (.long _), none, some (.long _), none, some (.long _), none], [.int (lg_cmp _ _)], _)) rfl (u_ rfl) ?_
            refine wl4 (pc := 10) (len_s := 3) rfl (Int32.toInt_toInt64 _) (Int32.toInt_toInt64 _) (fun c28_s => ?_) (fun c28_s => ?_)
            · replace t_s := t_s.1 c28_s
              refine w_t (pc := 17) (e_s := (0, 1, 0, 0, 0, .int 0, [])) (y_s := (18, [some (.long _), none, some (.long _), none, some (.long _), none], [.int _], _)) rfl (u_ rfl) ?_
              refine wrI (pc := 18) (len_s := 1) rfl hk ?_
              show wF _ 152 (12, [some (.ref _), some (.long _), none], [.int _], _) _
              refine wrI (pc := 12) (len_s := 1) rfl hk ?_
              show wF _ 191 (15, [some (.ref _), some (.int _), some (.int _), some (.int _), none], [.int _], _) _
              refine w_t (pc := 15) (e_s := (15, 3, 23, 0, 0, .null, [])) (y_s := (23, [some (.ref _), some (.int _), some (.int _), some (.int _), none], [], _)) rfl (u_ rfl) ?_
              refine w_t (pc := 23) (e_s := (0, 1, 0, 0, 0, .int (-1), [])) (y_s := (24, [some (.ref _), some (.int _), some (.int _), some (.int _), none], [.int _], _)) rfl (u_ rfl) ?_
              exact wrI (pc := 24) (len_s := 1) rfl hk t_s
            · replace t_s := t_s.2 c28_s
              refine w_t (pc := 13) (e_s := (0, 1, 0, 0, 0, .int 1, [])) (y_s := (14, [some (.long _), none, some (.long _), none, some (.long _), none], [.int _], _)) rfl (u_ rfl) ?_
              refine w_t (pc := 14) (e_s := (17, 3, 18, 0, 0, .null, [])) (y_s := (18, [some (.long _), none, some (.long _), none, some (.long _), none], [.int _], _)) rfl (u_ rfl) ?_
              refine wrI (pc := 18) (len_s := 1) rfl hk ?_
              show wF _ 152 (12, [some (.ref _), some (.long _), none], [.int _], _) _
              refine wrI (pc := 12) (len_s := 1) rfl hk ?_
              show wF _ 191 (15, [some (.ref _), some (.int _), some (.int _), some (.int _), none], [.int _], _) _
              refine w_t (pc := 15) (e_s := (15, 3, 23, 0, 0, .null, [])) (y_s := (18, [some (.ref _), some (.int _), some (.int _), some (.int _), none], [], _)) rfl (u_ rfl) ?_
              refine w_t (pc := 18) (e_s := (1, 1, 3, 0, 0, .null, [])) (y_s := (19, [some (.ref _), some (.int _), some (.int _), some (.int _), none], [.int _], _)) rfl (u_ rfl) ?_
              refine w_t (pc := 19) (e_s := (0, 1, 0, 0, 0, .int (-1), [])) (y_s := (20, [some (.ref _), some (.int _), some (.int _), some (.int _), none], [.int _, .int _], _)) rfl (u_ rfl) ?_
              refine wi3 (pc := 20) (len_s := 3) (Y := -1) rfl rfl (by decide) (fun c29_s => ?_) (fun c29_s => ?_)
              · replace t_s := t_s.1 c29_s
                refine w_t (pc := 23) (e_s := (0, 1, 0, 0, 0, .int (-1), [])) (y_s := (24, [some (.ref _), some (.int _), some (.int _), some (.int _), none], [.int _], _)) rfl (u_ rfl) ?_
                exact wrI (pc := 24) (len_s := 1) rfl hk t_s
              · replace t_s := t_s.2 c29_s
                refine w_t (pc := 25) (e_s := (3, 1, 0, 0, 0, .null, [])) (y_s := (26, [some (.ref _), some (.int _), some (.int _), some (.int _), none], [.ref _], _)) rfl (u_ rfl) ?_
                refine w_t (pc := 26) (e_s := (1, 1, 1, 0, 0, .null, [])) (y_s := (27, [some (.ref _), some (.int _), some (.int _), some (.int _), none], [.int _, .ref _], _)) rfl (u_ rfl) ?_
                refine wcI (pc := 27) (len_s := 3) rfl rfl (l := [some (.ref _), some (.int _)]) rfl ?_
                refine w_t (pc := 0) (e_s := (1, 1, 1, 0, 0, .null, [])) (y_s := (1, [some (.ref _), some (.int _)], [.int _], _)) rfl (u_ rfl) ?_
                refine wcI (pc := 1) (len_s := 3) rfl rfl (l := [some (.int _)]) rfl ?_
                refine w_t (pc := 0) (e_s := (1, 1, 0, 0, 0, .null, [])) (y_s := (1, [some (.int _)], [.int _], _)) rfl (u_ rfl) ?_
                refine w_t (pc := 1) (e_s := (10, 1, 0, 0, 0, .null, [])) (y_s := (2, [some (.int _)], [.long (Int32.toInt64 _)], _)) rfl (u_ rfl) ?_
                refine w_t (pc := 2) (e_s := (0, 1, 0, 0, 0, .long 0, [])) (y_s := (3, [some (.int _)], [.long _, .long _], _)) rfl (u_ rfl) ?_
                refine w_t (pc := 3) (e_s := (0, 3, 0, 0, 0, .long 5, [(0, 1063)])) (y_s := (6, [some (.int _)], [.long _, .long _, .long _], _)) rfl (u_ rfl) ?_
                refine wcI (pc := 6) (len_s := 3) rfl rfl (l := [some (.long _), none, some (.long _), none, some (.long _), none]) rfl ?_
                refine w_t (pc := 0) (e_s := (2, 1, 0, 0, 0, .null, [])) (y_s := (1, [some (.long _), none, some (.long _), none, some (.long _), none], [.long _], _)) rfl (u_ rfl) ?_
                refine w_t (pc := 1) (e_s := (2, 1, 2, 0, 0, .null, [])) (y_s := (2, [some (.long _), none, some (.long _), none, some (.long _), none], [.long _, .long _], _)) rfl (u_ rfl) ?_
                refine w_t (pc := 2) (e_s := (14, 1, 0, 0, 0, .null, [])) (y_s := (3, [some (.long _), none, some (.long _), none, some (.long _), none], [.int (lg_cmp _ _)], _)) rfl (u_ rfl) ?_
                refine wl2 (pc := 3) (len_s := 3) (Y := 0) rfl (Int32.toInt_toInt64 _) (by decide) (fun c30_s => ?_) (fun c30_s => ?_)
                · exact absurd c30_s c1_s
                · skip
                  refine w_t (pc := 6) (e_s := (2, 1, 0, 0, 0, .null, [])) (y_s := (7, [some (.long _), none, some (.long _), none, some (.long _), none], [.long _], _)) rfl (u_ rfl) ?_
                  refine w_t (pc := 7) (e_s := (2, 2, 4, 0, 0, .null, [])) (y_s := (9, [some (.long _), none, some (.long _), none, some (.long _), none], [.long _, .long _], _)) rfl (u_ rfl) ?_
                  refine w_t (pc := 9) (e_s := (14, 1, 0, 0, 0, .null, [])) (y_s := (10, [some (.long _), none, some (.long _), none, some (.long _), none], [.int (lg_cmp _ _)], _)) rfl (u_ rfl) ?_
                  refine wl4 (pc := 10) (len_s := 3) (Y := 5) rfl (Int32.toInt_toInt64 _) (by decide) (fun c31_s => ?_) (fun c31_s => ?_)
                  · exact absurd c31_s c2_s
                  · skip
                    refine w_t (pc := 13) (e_s := (0, 1, 0, 0, 0, .int 1, [])) (y_s := (14, [some (.long _), none, some (.long _), none, some (.long _), none], [.int _], _)) rfl (u_ rfl) ?_
                    refine w_t (pc := 14) (e_s := (17, 3, 18, 0, 0, .null, [])) (y_s := (18, [some (.long _), none, some (.long _), none, some (.long _), none], [.int _], _)) rfl (u_ rfl) ?_
                    refine wrI (pc := 18) (len_s := 1) rfl hk ?_
                    show wF _ 228 (9, [some (.int _)], [.int _], _) _
                    refine wrI (pc := 9) (len_s := 1) rfl hk ?_
                    show wF _ 186 (4, [some (.ref _), some (.int _)], [.int _], _) _
                    refine w_t (pc := 4) (e_s := (15, 3, 11, 1, 0, .null, [])) (y_s := (11, [some (.ref _), some (.int _)], [], _)) rfl (u_ rfl) ?_
                    refine w_t (pc := 11) (e_s := (3, 1, 0, 0, 0, .null, [])) (y_s := (12, [some (.ref _), some (.int _)], [.ref _], _)) rfl (u_ rfl) ?_
                    refine w20r (pc := 12) (len_s := 3) (q_s := 124) rfl (krq hk rfl) ?_
                    refine w_t (pc := 15) (e_s := (1, 1, 1, 0, 0, .null, [])) (y_s := (16, [some (.ref _), some (.int _)], [.int _, .ref _], _)) rfl (u_ rfl) ?_
                    refine w22 (pc := 16) (len_s := 1) rfl (hk.1 124 0 6 rfl rfl) (fun c32_s => ?_)
                    refine wq3 (pc := 17) (len_s := 3) rfl rfl (fun c33_s => ?_) (fun c33_s => ?_)
                    · exact absurd c33_s c4_s
                    · skip
                      refine w_t (pc := 25) (e_s := (3, 1, 0, 0, 0, .null, [])) (y_s := (26, [some (.ref _), some (.int _)], [.ref _], _)) rfl (u_ rfl) ?_
                      refine w20r (pc := 26) (len_s := 3) (q_s := 124) rfl (krq hk rfl) ?_
                      refine w_t (pc := 29) (e_s := (1, 1, 1, 0, 0, .null, [])) (y_s := (30, [some (.ref _), some (.int _)], [.int _, .ref _], _)) rfl (u_ rfl) ?_
                      refine w22 (pc := 30) (len_s := 1) rfl (hk.1 124 0 6 rfl rfl) (fun c34_s => ?_)
                      refine w_t (pc := 31) (e_s := (0, 2, 0, 0, 0, .int 50, [])) (y_s := (33, [some (.ref _), some (.int _)], [.int _, .int _], _)) rfl (u_ rfl) ?_
                      refine wi1 (pc := 33) (len_s := 3) (Y := 50) rfl rfl (by decide) (fun c35_s => ?_) (fun c35_s => ?_)
                      · exact absurd c35_s c17
                      · skip
                        refine w_t (pc := 40) (e_s := (0, 2, 0, 0, 0, .int (-12), [])) (y_s := (42, [some (.ref _), some (.int _)], [.int _], _)) rfl (u_ rfl) ?_
                        refine wrI (pc := 42) (len_s := 1) rfl hk ?_
                        show wF _ 191 (30, [some (.ref _), some (.int _), some (.int _), some (.int _), none], [.int _], _) _
                        refine w_t (pc := 30) (e_s := (15, 3, 39, 3, 0, .null, [])) (y_s := (33, [some (.ref _), some (.int _), some (.int _), some (.int _), none], [], _)) rfl (u_ rfl) ?_
                        refine w_t (pc := 33) (e_s := (3, 1, 0, 0, 0, .null, [])) (y_s := (34, [some (.ref _), some (.int _), some (.int _), some (.int _), none], [.ref _], _)) rfl (u_ rfl) ?_
                        refine w_t (pc := 34) (e_s := (1, 1, 1, 0, 0, .null, [])) (y_s := (35, [some (.ref _), some (.int _), some (.int _), some (.int _), none], [.int _, .ref _], _)) rfl (u_ rfl) ?_
                        refine wcI (pc := 35) (len_s := 3) rfl rfl (l := [some (.ref _), some (.int _)]) rfl ?_
                        refine w_t (pc := 0) (e_s := (1, 1, 1, 0, 0, .null, [])) (y_s := (1, [some (.ref _), some (.int _)], [.int _], _)) rfl (u_ rfl) ?_
                        refine wcI (pc := 1) (len_s := 3) rfl rfl (l := [some (.int _)]) rfl ?_
                        refine w_t (pc := 0) (e_s := (1, 1, 0, 0, 0, .null, [])) (y_s := (1, [some (.int _)], [.int _], _)) rfl (u_ rfl) ?_
                        refine w_t (pc := 1) (e_s := (10, 1, 0, 0, 0, .null, [])) (y_s := (2, [some (.int _)], [.long (Int32.toInt64 _)], _)) rfl (u_ rfl) ?_
                        refine w_t (pc := 2) (e_s := (0, 1, 0, 0, 0, .long 0, [])) (y_s := (3, [some (.int _)], [.long _, .long _], _)) rfl (u_ rfl) ?_
                        refine w_t (pc := 3) (e_s := (0, 3, 0, 0, 0, .long 5, [(0, 1063)])) (y_s := (6, [some (.int _)], [.long _, .long _, .long _], _)) rfl (u_ rfl) ?_
                        refine wcI (pc := 6) (len_s := 3) rfl rfl (l := [some (.long _), none, some (.long _), none, some (.long _), none]) rfl ?_
                        refine w_t (pc := 0) (e_s := (2, 1, 0, 0, 0, .null, [])) (y_s := (1, [some (.long _), none, some (.long _), none, some (.long _), none], [.long _], _)) rfl (u_ rfl) ?_
                        refine w_t (pc := 1) (e_s := (2, 1, 2, 0, 0, .null, [])) (y_s := (2, [some (.long _), none, some (.long _), none, some (.long _), none], [.long _, .long _], _)) rfl (u_ rfl) ?_
                        refine w_t (pc := 2) (e_s := (14, 1, 0, 0, 0, .null, [])) (y_s := (3, [some (.long _), none, some (.long _), none, some (.long _), none], [.int (lg_cmp _ _)], _)) rfl (u_ rfl) ?_
                        refine wl2 (pc := 3) (len_s := 3) (Y := 0) rfl (Int32.toInt_toInt64 _) (by decide) (fun c36_s => ?_) (fun c36_s => ?_)
                        · exact absurd c36_s c1_s
                        · skip
                          refine w_t (pc := 6) (e_s := (2, 1, 0, 0, 0, .null, [])) (y_s := (7, [some (.long _), none, some (.long _), none, some (.long _), none], [.long _], _)) rfl (u_ rfl) ?_
                          refine w_t (pc := 7) (e_s := (2, 2, 4, 0, 0, .null, [])) (y_s := (9, [some (.long _), none, some (.long _), none, some (.long _), none], [.long _, .long _], _)) rfl (u_ rfl) ?_
                          refine w_t (pc := 9) (e_s := (14, 1, 0, 0, 0, .null, [])) (y_s := (10, [some (.long _), none, some (.long _), none, some (.long _), none], [.int (lg_cmp _ _)], _)) rfl (u_ rfl) ?_
                          refine wl4 (pc := 10) (len_s := 3) (Y := 5) rfl (Int32.toInt_toInt64 _) (by decide) (fun c37 => ?_) (fun c37 => ?_)
                          · exact absurd c37 c2_s
                          · skip
                            refine w_t (pc := 13) (e_s := (0, 1, 0, 0, 0, .int 1, [])) (y_s := (14, [some (.long _), none, some (.long _), none, some (.long _), none], [.int _], _)) rfl (u_ rfl) ?_
                            refine w_t (pc := 14) (e_s := (17, 3, 18, 0, 0, .null, [])) (y_s := (18, [some (.long _), none, some (.long _), none, some (.long _), none], [.int _], _)) rfl (u_ rfl) ?_
                            refine wrI (pc := 18) (len_s := 1) rfl hk ?_
                            show wF _ 228 (9, [some (.int _)], [.int _], _) _
                            refine wrI (pc := 9) (len_s := 1) rfl hk ?_
                            show wF _ 186 (4, [some (.ref _), some (.int _)], [.int _], _) _
                            refine w_t (pc := 4) (e_s := (15, 3, 11, 1, 0, .null, [])) (y_s := (11, [some (.ref _), some (.int _)], [], _)) rfl (u_ rfl) ?_
                            refine w_t (pc := 11) (e_s := (3, 1, 0, 0, 0, .null, [])) (y_s := (12, [some (.ref _), some (.int _)], [.ref _], _)) rfl (u_ rfl) ?_
                            refine w20r (pc := 12) (len_s := 3) (q_s := 124) rfl (krq hk rfl) ?_
                            refine w_t (pc := 15) (e_s := (1, 1, 1, 0, 0, .null, [])) (y_s := (16, [some (.ref _), some (.int _)], [.int _, .ref _], _)) rfl (u_ rfl) ?_
                            refine w22 (pc := 16) (len_s := 1) rfl (hk.1 124 0 6 rfl rfl) (fun c38 => ?_)
                            refine wq3 (pc := 17) (len_s := 3) rfl rfl (fun c39_s => ?_) (fun c39_s => ?_)
                            · exact absurd c39_s c4_s
                            · skip
                              refine w_t (pc := 25) (e_s := (3, 1, 0, 0, 0, .null, [])) (y_s := (26, [some (.ref _), some (.int _)], [.ref _], _)) rfl (u_ rfl) ?_
                              refine w20r (pc := 26) (len_s := 3) (q_s := 124) rfl (krq hk rfl) ?_
                              refine w_t (pc := 29) (e_s := (1, 1, 1, 0, 0, .null, [])) (y_s := (30, [some (.ref _), some (.int _)], [.int _, .ref _], _)) rfl (u_ rfl) ?_
                              refine w22 (pc := 30) (len_s := 1) rfl (hk.1 124 0 6 rfl rfl) (fun c40_s => ?_)
                              refine w_t (pc := 31) (e_s := (0, 2, 0, 0, 0, .int 50, [])) (y_s := (33, [some (.ref _), some (.int _)], [.int _, .int _], _)) rfl (u_ rfl) ?_
                              refine wi1 (pc := 33) (len_s := 3) (Y := 50) rfl rfl (by decide) (fun c41 => ?_) (fun c41 => ?_)
                              · exact absurd c41 c17
                              · skip
                                refine w_t (pc := 40) (e_s := (0, 2, 0, 0, 0, .int (-12), [])) (y_s := (42, [some (.ref _), some (.int _)], [.int _], _)) rfl (u_ rfl) ?_
                                refine wrI (pc := 42) (len_s := 1) rfl hk ?_
                                show wF _ 191 (38, [some (.ref _), some (.int _), some (.int _), some (.int _), none], [.int _], _) _
                                exact wrI (pc := 38) (len_s := 1) rfl hk t_s
/-- ColdShodModel.strokes(III)I, from 42 on -/
theorem sg_191_42 {F_s : Nat} {x1_s x2_s x3 x4_s : Int32} {h_s : zH} {K_s : Int32 → zH → Prop} (hk : hKn h_s) (t_s : (4 < x4_s.toInt → K_s (-2) h_s) ∧ (¬ 4 < x4_s.toInt → wF F_s 190 (0, [some (.ref 102), some (.int x1_s), some (.int x2_s), some (.int 0), some (.int x4_s), none], [], h_s) (gI (fun v2 h2 => hKn h2 → (v2.toInt = 0 → wF F_s 191 (42, [some (.ref 102), some (.int x1_s), some (.int x2_s), some (.int x3), some (.int (x4_s + 1))], [], h2) (gI K_s)) ∧ (¬ v2.toInt = 0 → ((x3.toInt < 0 → K_s x4_s h2) ∧ (¬ x3.toInt < 0 → ((x3.toInt < x4_s.toInt → (zix x3 < 4 → K_s (h2.2.1 113 (zix x3)) h2)) ∧ (¬ x3.toInt < x4_s.toInt → K_s (-2) h2))))))))) : wF (F_s + 1) 191 (42, [some (.ref 102), some (.int x1_s), some (.int x2_s), some (.int x3), some (.int x4_s)], [], h_s) (gI K_s) := by
  refine w_0 (pc := 42) (e_s := (1, 2, 4, 0, 0, .null, [])) (y_s := (44, [some (.ref _), some (.int _), some (.int _), some (.int _), some (.int _)], [.int _], _)) rfl (u_ rfl) ?_
  refine w_t (pc := 44) (e_s := (0, 1, 0, 0, 0, .int 4, [])) (y_s := (45, [some (.ref _), some (.int _), some (.int _), some (.int _), some (.int _)], [.int _, .int _], _)) rfl (u_ rfl) ?_
  refine wi4 (pc := 45) (len_s := 3) (Y := 4) rfl rfl (by decide) (fun c1_s => ?_) (fun c1_s => ?_)
  · replace t_s := t_s.1 c1_s
    refine w_t (pc := 93) (e_s := (0, 2, 0, 0, 0, .int (-2), [])) (y_s := (95, [some (.ref _), some (.int _), some (.int _), some (.int _), some (.int _)], [.int _], _)) rfl (u_ rfl) ?_
    exact wrI (pc := 95) (len_s := 1) rfl hk t_s
  · replace t_s := t_s.2 c1_s
    refine w_t (pc := 48) (e_s := (3, 1, 0, 0, 0, .null, [])) (y_s := (49, [some (.ref _), some (.int _), some (.int _), some (.int _), some (.int _)], [.ref _], _)) rfl (u_ rfl) ?_
    refine w_t (pc := 49) (e_s := (1, 1, 1, 0, 0, .null, [])) (y_s := (50, [some (.ref _), some (.int _), some (.int _), some (.int _), some (.int _)], [.int _, .ref _], _)) rfl (u_ rfl) ?_
    refine w_t (pc := 50) (e_s := (1, 1, 2, 0, 0, .null, [])) (y_s := (51, [some (.ref _), some (.int _), some (.int _), some (.int _), some (.int _)], [.int _, .int _, .ref _], _)) rfl (u_ rfl) ?_
    refine w_t (pc := 51) (e_s := (0, 1, 0, 0, 0, .int 0, [])) (y_s := (52, [some (.ref _), some (.int _), some (.int _), some (.int _), some (.int _)], [.int _, .int _, .int _, .ref _], _)) rfl (u_ rfl) ?_
    refine w_t (pc := 52) (e_s := (1, 2, 4, 0, 0, .null, [])) (y_s := (54, [some (.ref _), some (.int _), some (.int _), some (.int _), some (.int _)], [.int _, .int _, .int _, .int _, .ref _], _)) rfl (u_ rfl) ?_
    refine wcI (pc := 54) (len_s := 3) rfl rfl (l := [some (.ref _), some (.int _), some (.int _), some (.int _), some (.int _), none]) rfl (wmI t_s (fun v2 h2 hk t_s => ?_))
    replace t_s := t_s hk
    refine wq0 (pc := 57) (len_s := 3) rfl rfl (fun c3_s => ?_) (fun c3_s => ?_)
    · replace t_s := t_s.1 c3_s
      refine w_t (pc := 87) (e_s := (19, 3, 4, 0, 0, .int 1, [])) (y_s := (90, [some (.ref _), some (.int _), some (.int _), some (.int _), some (.int _)], [], _)) rfl (u_ rfl) ?_
      refine w_t (pc := 90) (e_s := (17, 3, 42, 0, 0, .null, [])) (y_s := (42, [some (.ref _), some (.int _), some (.int _), some (.int _), some (.int _)], [], _)) rfl (u_ rfl) ?_
      exact t_s
    · replace t_s := t_s.2 c3_s
      refine w_t (pc := 60) (e_s := (1, 1, 3, 0, 0, .null, [])) (y_s := (61, [some (.ref _), some (.int _), some (.int _), some (.int _), some (.int _)], [.int _], _)) rfl (u_ rfl) ?_
      refine wq3 (pc := 61) (len_s := 3) rfl rfl (fun c4_s => ?_) (fun c4_s => ?_)
      · replace t_s := t_s.1 c4_s
        refine w_t (pc := 64) (e_s := (1, 2, 4, 0, 0, .null, [])) (y_s := (66, [some (.ref _), some (.int _), some (.int _), some (.int _), some (.int _)], [.int _], _)) rfl (u_ rfl) ?_
        refine w_t (pc := 66) (e_s := (17, 3, 86, 0, 0, .null, [])) (y_s := (86, [some (.ref _), some (.int _), some (.int _), some (.int _), some (.int _)], [.int _], _)) rfl (u_ rfl) ?_
        exact wrI (pc := 86) (len_s := 1) rfl hk t_s
      · replace t_s := t_s.2 c4_s
        refine w_t (pc := 69) (e_s := (1, 1, 3, 0, 0, .null, [])) (y_s := (70, [some (.ref _), some (.int _), some (.int _), some (.int _), some (.int _)], [.int _], _)) rfl (u_ rfl) ?_
        refine w_t (pc := 70) (e_s := (1, 2, 4, 0, 0, .null, [])) (y_s := (72, [some (.ref _), some (.int _), some (.int _), some (.int _), some (.int _)], [.int _, .int _], _)) rfl (u_ rfl) ?_
        refine wi3 (pc := 72) (len_s := 3) rfl rfl rfl (fun c5_s => ?_) (fun c5_s => ?_)
        · replace t_s := t_s.1 c5_s
          refine w_t (pc := 75) (e_s := (3, 1, 0, 0, 0, .null, [])) (y_s := (76, [some (.ref _), some (.int _), some (.int _), some (.int _), some (.int _)], [.ref _], _)) rfl (u_ rfl) ?_
          refine w20r (pc := 76) (len_s := 3) (q_s := 113) rfl (krq hk rfl) ?_
          refine w_t (pc := 79) (e_s := (1, 1, 3, 0, 0, .null, [])) (y_s := (80, [some (.ref _), some (.int _), some (.int _), some (.int _), some (.int _)], [.int _, .ref _], _)) rfl (u_ rfl) ?_
          refine w22 (pc := 80) (len_s := 1) rfl (hk.1 113 0 4 rfl rfl) (fun c6_s => ?_)
          replace t_s := t_s c6_s
          refine w_t (pc := 81) (e_s := (17, 3, 86, 0, 0, .null, [])) (y_s := (86, [some (.ref _), some (.int _), some (.int _), some (.int _), some (.int _)], [.int _], _)) rfl (u_ rfl) ?_
          exact wrI (pc := 86) (len_s := 1) rfl hk t_s
        · replace t_s := t_s.2 c5_s
          refine w_t (pc := 84) (e_s := (0, 2, 0, 0, 0, .int (-2), [])) (y_s := (86, [some (.ref _), some (.int _), some (.int _), some (.int _), some (.int _)], [.int _], _)) rfl (u_ rfl) ?_
          exact wrI (pc := 86) (len_s := 1) rfl hk t_s
/-! A JOURNEY gone by the plan's own thought: as told of the first one. Text made by a program out of a8, a9, b1. -/
noncomputable def frJq (f0_s f_s : Nat → Nat → Int32) : Prop := ∀ a_s k_s, ¬ a_s = 13 → ¬ a_s = 16 → ¬ a_s = 19 → ¬ (a_s = 58 ∧ k_s < 7) → ¬ (a_s = 50 ∧ (k_s = 2 ∨ k_s = 3)) → f_s a_s k_s = f0_s a_s k_s
section JQ
variable {h_s : zH} {K_s : Int32 → zH → Prop} {V : zH → Prop} {nh ni nr q_s : Nat} {lw : Option (List pB)} {x1_s x2_s : Int32} {f0_s : Nat → Nat → Int32}
theorem sq_50 {F_s k_s r_s : Nat} {f_s : Nat → Nat → Int32} {o : oI} (hk : hKn h_s) (hr9 : h_s.2.2.2 7 9 = some q_s) (hm_s : q_s = 14 ∨ q_s = 17) (hl : lawC q_s f_s lw) (hp : lwP lw) (hc_s : tC nh ni nr f_s) (e1_s : x1_s.toInt = (k_s : Int)) (e51 : (f_s 51 k_s).toInt = (r_s : Int)) (hr : r_s < nr) (hcw : cwO f_s 58 o) (hB_s : oB o) (t_s : ∀ v_s f1_s, v_s.toInt = (if (goF lw f_s o r_s).2.1 = true then 1 else 0) → (∃ g_s : Int32, g_s.toInt = ((goF lw f_s o r_s).1 : Int) ∧ f1_s 50 2 = f_s 50 2 + g_s) → f1_s 50 3 = f_s 50 3 + bI_ (goF lw f_s o r_s).2.1 → cwO f1_s 58 (goF lw f_s o r_s).2.2 → (∀ a_s k_s, ¬ a_s = 13 → ¬ a_s = 16 → ¬ a_s = 19 → ¬ (a_s = 58 ∧ (k_s = 2 ∨ k_s = 3)) → ¬ (a_s = 50 ∧ (k_s = 2 ∨ k_s = 3)) → f1_s a_s k_s = f_s a_s k_s) → K_s v_s (h_s.1, f1_s, h_s.2.2.1, h_s.2.2.2)) : wF F_s 50 (0, [some (.ref 50), some (.int x1_s), some (.ref 58), some (.ref 7), none, none], [], (h_s.1, f_s, h_s.2.2.1, h_s.2.2.2)) (gI K_s) := by
  have b_s := hc_s.1
  have z_s := azix (i := x1_s) (by omega)
  have ez : zix x1_s = k_s := by omega
  have z2 := azix (i := f_s 51 k_s) (by omega)
  have ez2 : zix (f_s 51 k_s) = r_s := by omega
  obtain ⟨r2, r3, r4⟩ := tC_rd hc_s hr
  obtain ⟨m1_s, m2_s, m3_s⟩ := tM_ml (tC_M hc_s) hr
  refine wF_le (Nat.le_succ F_s) (sg_50_0 (h_s := (h_s.1, f_s, h_s.2.2.1, h_s.2.2.2)) hk ?_)
  dsimp only
  rw [ez, ez2]
  refine fun c1_s => fun c2_s => ?_
  refine sp_24 (m_s := zix (f_s 103 (68 + r_s))) hk hr9 hm_s hl hp (show dRo 58 (28 + r_s) by unfold dRo; omega) (by rw [r2]; exact m1_s) m2_s hcw hB_s (fun v_s f1_s g1 g2 g3_s _ => ?_)
  rw [r3, r4] at g1 g2
  have g1 : v_s.toInt = ((goF lw f_s o r_s).1 : Int) := g1
  have g2 : ∀ k_s, k_s < 6 → f1_s 58 k_s = (goF lw f_s o r_s).2.2 k_s := g2
  have eml : f1_s (28 + r_s) 2 = f_s 103 (68 + r_s) := by rw [g3_s _ _ (by omega) (by omega) (by omega) (by omega)]; exact r2
  have l2 : f1_s 50 2 = f_s 50 2 := g3_s _ _ (by omega) (by omega) (by omega) (by omega)
  have l3 : f1_s 50 3 = f_s 50 3 := g3_s _ _ (by omega) (by omega) (by omega) (by omega)
  have gall : (goF lw f_s o r_s).2.1 = true ↔ (goF lw f_s o r_s).1 = zix (f_s 103 (68 + r_s)) := go_all m3_s
  have gle : (goF lw f_s o r_s).1 ≤ zix (f_s 103 (68 + r_s)) := go_le
  have h6 : (goF lw f_s o r_s).2.2 6 = o 6 := go_6
  dsimp only
  rw [zne_up (show ¬ (28 + r_s = 50 ∧ 2 = 2) by omega), eml, m1_s, g1, l2, l3]
  have cw_s : ∀ f2_s : Nat → Nat → Int32, (∀ a_s k_s, ¬ (a_s = 50 ∧ (k_s = 2 ∨ k_s = 3)) → f2_s a_s k_s = f1_s a_s k_s) → cwO f2_s 58 (goF lw f_s o r_s).2.2 := fun f2_s q1_s => by
    have e6_s : f2_s 58 6 = f_s 58 6 := by rw [q1_s _ _ (by omega)]; exact g3_s _ _ (by omega) (by omega) (by omega) (by omega)
    have e76 : f2_s 7 6 = f_s 7 6 := by rw [q1_s _ _ (by omega)]; exact g3_s _ _ (by omega) (by omega) (by omega) (by omega)
    have e8 : ∀ k_s, f2_s 8 k_s = f_s 8 k_s := fun k_s => by rw [q1_s _ _ (by omega)]; exact g3_s _ _ (by omega) (by omega) (by omega) (by omega)
    refine ⟨fun k_s hk6 => by rw [q1_s _ _ (by omega)]; exact g2 k_s hk6, ?_⟩
    rw [e6_s, e76, e8, h6]
    exact hcw.2
  have ge : ∀ f2_s : Nat → Nat → Int32, (∀ a_s k_s, ¬ (a_s = 50 ∧ (k_s = 2 ∨ k_s = 3)) → f2_s a_s k_s = f1_s a_s k_s) → ∀ a_s k_s, ¬ a_s = 13 → ¬ a_s = 16 → ¬ a_s = 19 → ¬ (a_s = 58 ∧ (k_s = 2 ∨ k_s = 3)) → ¬ (a_s = 50 ∧ (k_s = 2 ∨ k_s = 3)) → f2_s a_s k_s = f_s a_s k_s := fun f2_s q1_s a_s k_s p1_s p2_s p3_s p4_s p5_s => by
    rw [q1_s a_s k_s p5_s]
    exact g3_s a_s k_s p1_s p2_s p3_s p4_s
  refine ⟨fun c3_s => ?_, fun c3_s => ?_⟩
  · have no_s : ¬ (goF lw f_s o r_s).2.1 = true := fun w_s => by have := gall.mp w_s; omega
    have q1_s : ∀ a_s k_s, ¬ (a_s = 50 ∧ (k_s = 2 ∨ k_s = 3)) → zup f1_s 50 2 (f_s 50 2 + v_s) a_s k_s = f1_s a_s k_s := fun a_s k_s w_s => zne_up (by omega)
    refine t_s 0 _ (by rw [if_neg no_s]; rfl) ⟨v_s, g1, zsame_up⟩ ?_ (cw_s _ q1_s) (ge _ q1_s)
    rw [zne_up (by omega), l3]
    unfold bI_
    rw [if_neg no_s]
    exact (iadd0 _).symm
  · have yes_s : (goF lw f_s o r_s).2.1 = true := gall.mpr (by omega)
    have q1_s : ∀ a_s k_s, ¬ (a_s = 50 ∧ (k_s = 2 ∨ k_s = 3)) → zup (zup f1_s 50 2 (f_s 50 2 + v_s)) 50 3 (f_s 50 3 + 1) a_s k_s = f1_s a_s k_s := fun a_s k_s w_s => by rw [zne_up (by omega), zne_up (by omega)]
    refine t_s 1 _ (by rw [if_pos yes_s]; rfl) ⟨v_s, g1, by rw [zne_up (by omega), zsame_up]⟩ ?_ (cw_s _ q1_s) (ge _ q1_s)
    rw [zsame_up]
    unfold bI_
    rw [if_pos yes_s]
end JQ
section JR
variable {h_s : zH} {K_s : Int32 → zH → Prop} {V : zH → Prop} {nh ni nr q_s L_s : Nat} {lw : Option (List pB)} {x1_s x2_s x3 : Int32} {f0_s : Nat → Nat → Int32} {c_s : Nat → Int64} {R_s : Int32 × Nat × oI × Bool}
theorem aq49 (hk : hKn h_s) (hr9 : h_s.2.2.2 7 9 = some q_s) (hm_s : q_s = 14 ∨ q_s = 17) (hl : lawC q_s f0_s lw) (hp : lwP lw) (hc_s : tC nh ni nr f0_s) (hL : L_s ≤ 20) (eL : (f0_s 50 1).toInt = (L_s : Int)) (es : ∀ k_s, k_s < L_s → f0_s 51 k_s = (c_s k_s).toInt32) (ok_s : ∀ k_s, k_s < L_s → okK nr (c_s k_s)) (t_s : ∀ v_s f1_s, v_s.toInt = (if R_s.2.2.2 = true then 1 else 0) → f1_s 50 2 = R_s.1 → (f1_s 50 3).toInt = (R_s.2.1 : Int) → (∀ k_s, k_s < 6 → f1_s 58 k_s = R_s.2.2.1 k_s) → frJq f0_s f1_s → K_s v_s (h_s.1, f1_s, h_s.2.2.1, h_s.2.2.2)) : ∀ (F_s n_s d_s : Nat) (x3 m_s : Int32) (f_s : Nat → Nat → Int32) (o : oI), frJq f0_s f_s → cwO f_s 58 o → oB o → x3.toInt = (n_s : Int) → n_s + d_s = L_s → f_s 50 2 = m_s → (f_s 50 3).toInt = (n_s : Int) → jrn (goJ lw f0_s c_s) d_s n_s m_s o = R_s → wF F_s 49 (12, [some (.ref 50), some (.ref 58), some (.ref 7), some (.int x3)], [], (h_s.1, f_s, h_s.2.2.1, h_s.2.2.2)) (gI K_s)
  | 0, _, _, _, _, _, _, _, _, _, _, _, _, _, _ => wF_zero
  | F_s + 1, n_s, d_s, x3, m_s, f_s, o, g_s, hcw, hB_s, e3_s, ed, em, ee, hR => by
    have e50 : f_s 50 1 = f0_s 50 1 := g_s _ _ (by omega) (by omega) (by omega) (by omega) (by omega)
    have b_s := hc_s.1
    refine sg_49_12 (h_s := (h_s.1, f_s, h_s.2.2.1, h_s.2.2.2)) hk ?_
    dsimp only
    rw [e50, eL, e3_s]
    match d_s, ed, hR with
    | 0, ed, hR =>
      refine ⟨fun c1_s => absurd c1_s (by omega), fun _ => t_s 1 f_s ?_ ?_ ?_ ?_ g_s⟩
      · rw [← hR]
        rfl
      · rw [← hR]
        exact em
      · rw [← hR]
        exact ee
      · rw [← hR]
        exact hcw.1
    | d_s + 1, ed, hR =>
      refine ⟨fun c1_s => ?_, fun c1_s => absurd c1_s (by omega)⟩
      have ko := ok_s n_s (by omega)
      have t3_s := t32_ (x_s := c_s n_s) ko.1 (by have := ko.2; omega)
      have e51 : (f_s 51 n_s).toInt = (((c_s n_s).toInt.toNat : Nat) : Int) := by
        rw [g_s _ _ (by omega) (by omega) (by omega) (by omega) (by omega), es n_s (by omega), t3_s]
        have := ko.1
        omega
      have hc1 : tC nh ni nr f_s := tC_fr (fun a_s k_s w_s => g_s a_s k_s (by unfold inC at w_s; omega) (by unfold inC at w_s; omega) (by unfold inC at w_s; omega) (by unfold inC at w_s; omega) (by unfold inC at w_s; omega)) hc_s
      have l1 : lawC q_s f_s lw := lawC_fr hm_s (fun a_s k_s w_s => g_s a_s k_s (by omega) (by omega) (by omega) (by omega) (by omega)) hl
      have eg : goF lw f_s o (c_s n_s).toInt.toNat = goJ lw f0_s c_s o n_s := goF_fr (fun k_s => g_s 103 k_s (by omega) (by omega) (by omega) (by omega) (by omega))
      refine sq_50 (k_s := n_s) (r_s := (c_s n_s).toInt.toNat) hk hr9 hm_s l1 hp hc1 e3_s e51 (by have := ko.1; have := ko.2; omega) hcw hB_s (fun v_s f1_s g1 g2 g3_s g4 g5_s _ => ?_)
      rw [eg] at g1 g2 g3_s g4
      obtain ⟨gv, gv1, gv2⟩ := g2
      rw [gI_of gv1, em] at gv2
      have hB2 : oB (goJ lw f0_s c_s o n_s).2.2 := go_B hB_s
      have g6 : frJq f0_s f1_s := fun a_s k_s q1_s q2_s q3_s q4_s q5_s => by
        rw [g5_s a_s k_s q1_s q2_s q3_s (by omega) q5_s]
        exact g_s a_s k_s q1_s q2_s q3_s q4_s q5_s
      refine ⟨fun c4_s => ?_, fun c4_s => ?_⟩
      · have no_s : ¬ (goJ lw f0_s c_s o n_s).2.1 = true := fun w_s => by
          rw [if_pos w_s] at g1
          omega
        rw [jr_no no_s] at hR
        refine t_s 0 f1_s ?_ ?_ ?_ ?_ g6
        · rw [← hR]
          rfl
        · rw [← hR]
          exact gv2
        · rw [← hR, g3_s]
          unfold bI_
          rw [if_neg no_s, iadd0]
          exact ee
        · rw [← hR]
          exact g4.1
      · have yes_s : (goJ lw f0_s c_s o n_s).2.1 = true := by
          cases e_s : (goJ lw f0_s c_s o n_s).2.1 with
          | true => rfl
          | false =>
            rw [if_neg (by rw [e_s]; decide)] at g1
            omega
        rw [jr_yes yes_s] at hR
        have e5_s : (x3 + 1).toInt = ((n_s + 1 : Nat) : Int) := by
          rw [in1_ (by omega), e3_s]
          omega
        refine aq49 hk hr9 hm_s hl hp hc_s hL eL es ok_s t_s F_s (n_s + 1) d_s (x3 + 1) _ f1_s _ g6 g4 hB2 e5_s (by omega) gv2 ?_ hR
        rw [g3_s]
        unfold bI_
        rw [if_pos yes_s, in1_ (by omega), ee]
        omega
theorem sq_49 {F_s : Nat} {o : oI} (hk : hKn h_s) (hr9 : h_s.2.2.2 7 9 = some q_s) (hm_s : q_s = 14 ∨ q_s = 17) (hl : lawC q_s f0_s lw) (hp : lwP lw) (hc_s : tC nh ni nr f0_s) (hL : L_s ≤ 20) (eL : (f0_s 50 1).toInt = (L_s : Int)) (es : ∀ k_s, k_s < L_s → f0_s 51 k_s = (c_s k_s).toInt32) (ok_s : ∀ k_s, k_s < L_s → okK nr (c_s k_s)) (hcw : cwO f0_s 58 o) (hB_s : oB o) (t_s : ∀ v_s f1_s, v_s.toInt = (if (jrn (goJ lw f0_s c_s) L_s 0 0 o).2.2.2 = true then 1 else 0) → f1_s 50 2 = (jrn (goJ lw f0_s c_s) L_s 0 0 o).1 → (f1_s 50 3).toInt = ((jrn (goJ lw f0_s c_s) L_s 0 0 o).2.1 : Int) → (∀ k_s, k_s < 6 → f1_s 58 k_s = (jrn (goJ lw f0_s c_s) L_s 0 0 o).2.2.1 k_s) → frJq f0_s f1_s → K_s v_s (h_s.1, f1_s, h_s.2.2.1, h_s.2.2.2)) : wF F_s 49 (0, [some (.ref 50), some (.ref 58), some (.ref 7), none], [], (h_s.1, f0_s, h_s.2.2.1, h_s.2.2.2)) (gI K_s) := by
  refine wF_le (Nat.le_succ F_s) (sg_49_0 (h_s := (h_s.1, f0_s, h_s.2.2.1, h_s.2.2.2)) hk ?_)
  have cw_s : cwO (zup (zup f0_s 50 2 0) 50 3 0) 58 o := by
    refine ⟨fun k_s hk6 => by rw [zne_up (by omega), zne_up (by omega)]; exact hcw.1 k_s hk6, ?_⟩
    have e6_s : zup (zup f0_s 50 2 0) 50 3 0 58 6 = f0_s 58 6 := by rw [zne_up (by omega), zne_up (by omega)]
    have e76 : zup (zup f0_s 50 2 0) 50 3 0 7 6 = f0_s 7 6 := by rw [zne_up (by omega), zne_up (by omega)]
    have e8 : ∀ k_s, zup (zup f0_s 50 2 0) 50 3 0 8 k_s = f0_s 8 k_s := fun k_s => by rw [zne_up (by omega), zne_up (by omega)]
    rw [e6_s, e76, e8]
    exact hcw.2
  refine aq49 (f0_s := f0_s) hk hr9 hm_s hl hp hc_s hL eL es ok_s t_s F_s 0 L_s 0 0 _ o (fun a_s k_s q1_s q2_s q3_s q4_s q5_s => ?_) cw_s hB_s rfl (by omega) ?_ ?_ rfl
  · show zup (zup f0_s 50 2 0) 50 3 0 a_s k_s = f0_s a_s k_s
    rw [zne_up (by omega), zne_up (by omega)]
  · show zup (zup f0_s 50 2 0) 50 3 0 50 2 = 0
    rw [zne_up (by omega), zsame_up]
  · show (zup (zup f0_s 50 2 0) 50 3 0 50 3).toInt = 0
    rw [zsame_up]
    rfl
end JR
/-! STROKES FOR A JOURNEY: keys of rows of strokes (0: none; 4 x + h + 1: x, then h), and the class's search. -/
noncomputable def lnK (x_s : Nat) : Nat := if x_s = 0 then 0 else if x_s ≤ 4 then 1 else if x_s ≤ 20 then 2 else if x_s ≤ 84 then 3 else 4
noncomputable def paK (x_s : Nat) : Nat := (x_s - 1) / 4
noncomputable def upK : Nat → Nat → Nat
  | 0, x_s => x_s
  | d_s + 1, x_s => paK (upK d_s x_s)
noncomputable def deK (d_s x_s : Nat) : Nat := (upK d_s x_s - 1) % 4
noncomputable def rnF (o : oI) : Nat → Nat → oI
  | 0, _ => o
  | d_s + 1, x_s => if x_s = 0 then o else stO (((x_s - 1) % 4 : Nat) : Int) (rnF o d_s (paK x_s))
noncomputable def rnK (o : oI) (x_s : Nat) : oI := rnF o 4 x_s
theorem lnK_le (x_s : Nat) : lnK x_s ≤ 4 := by
  unfold lnK
  split
  · omega
  · split
    · omega
    · split
      · omega
      · split <;> omega
theorem lnK_s {x_s h_s : Nat} (hx : x_s ≤ 84) (hh : h_s < 4) : lnK (4 * x_s + h_s + 1) = lnK x_s + 1 := by
  unfold lnK
  rw [if_neg (show ¬ 4 * x_s + h_s + 1 = 0 by omega)]
  by_cases a_s : x_s = 0
  · rw [if_pos a_s, if_pos (show 4 * x_s + h_s + 1 ≤ 4 by omega)]
  · rw [if_neg a_s, if_neg (show ¬ 4 * x_s + h_s + 1 ≤ 4 by omega)]
    by_cases b_s : x_s ≤ 4
    · rw [if_pos b_s, if_pos (show 4 * x_s + h_s + 1 ≤ 20 by omega)]
    · rw [if_neg b_s, if_neg (show ¬ 4 * x_s + h_s + 1 ≤ 20 by omega)]
      by_cases c_s : x_s ≤ 20
      · rw [if_pos c_s, if_pos (show 4 * x_s + h_s + 1 ≤ 84 by omega)]
      · rw [if_neg c_s, if_neg (show ¬ 4 * x_s + h_s + 1 ≤ 84 by omega), if_pos hx]
theorem lnK_84 {x_s : Nat} (h_s : lnK x_s < 4) : x_s ≤ 84 := by
  apply Classical.byContradiction
  intro w_s
  unfold lnK at h_s
  rw [if_neg (by omega), if_neg (by omega), if_neg (by omega), if_neg (by omega)] at h_s
  omega
theorem lnK_p {x_s : Nat} (h1 : 1 ≤ x_s) (h2 : x_s ≤ 340) : lnK x_s = lnK (paK x_s) + 1 ∧ paK x_s ≤ 84 := by
  have e_s : x_s = 4 * paK x_s + (x_s - 1) % 4 + 1 := by
    unfold paK
    omega
  have e2_s : paK x_s ≤ 84 := by
    unfold paK
    omega
  have u_s := lnK_s (x_s := paK x_s) (h_s := (x_s - 1) % 4) e2_s (by omega)
  rw [← e_s] at u_s
  exact ⟨u_s, e2_s⟩
theorem lnK_0 {x_s : Nat} (h_s : lnK x_s = 0) : x_s = 0 := by
  unfold lnK at h_s
  by_cases a_s : x_s = 0
  · exact a_s
  · rw [if_neg a_s] at h_s
    split at h_s
    · omega
    · split at h_s
      · omega
      · split at h_s <;> omega
theorem lnK_1 {x_s : Nat} (h_s : 1 ≤ lnK x_s) : 1 ≤ x_s := by
  apply Classical.byContradiction
  intro w_s
  have e_s : x_s = 0 := by omega
  rw [e_s] at h_s
  exact absurd h_s (by decide)
theorem upK_p : ∀ (d_s x_s : Nat), upK (d_s + 1) x_s = upK d_s (paK x_s)
  | 0, _ => rfl
  | d_s + 1, x_s => by
    show paK (upK (d_s + 1) x_s) = paK (upK d_s (paK x_s))
    rw [upK_p d_s x_s]
theorem deK_p (d_s x_s : Nat) : deK (d_s + 1) x_s = deK d_s (paK x_s) := by
  unfold deK
  rw [upK_p]
theorem upK_l : ∀ (d_s x_s : Nat), x_s ≤ 340 → d_s ≤ lnK x_s → upK d_s x_s ≤ 340 ∧ lnK (upK d_s x_s) + d_s = lnK x_s
  | 0, x_s, hx, _ => ⟨hx, rfl⟩
  | d_s + 1, x_s, hx, hd_s => by
    obtain ⟨i1_s, i2_s⟩ := upK_l d_s x_s hx (by omega)
    have h1 := lnK_1 (x_s := upK d_s x_s) (by omega)
    obtain ⟨j1, j2_s⟩ := lnK_p h1 i1_s
    show paK (upK d_s x_s) ≤ 340 ∧ lnK (paK (upK d_s x_s)) + (d_s + 1) = lnK x_s
    omega
theorem upK_n {x_s : Nat} (hx : x_s ≤ 340) : upK (lnK x_s) x_s = 0 := by
  have u_s := upK_l (lnK x_s) x_s hx (Nat.le_refl _)
  exact lnK_0 (by omega)
section RK
variable {o : oI}
theorem rnF_e (d_s x_s : Nat) : rnF o (d_s + 1) x_s = (if x_s = 0 then o else stO (((x_s - 1) % 4 : Nat) : Int) (rnF o d_s (paK x_s))) := rfl
theorem rnF_l (d_s : Nat) : ∀ x_s : Nat, x_s ≤ 340 → lnK x_s ≤ d_s → rnF o (d_s + 1) x_s = rnF o d_s x_s := by
  induction d_s with
  | zero =>
    intro x_s _ h_s
    have e_s := lnK_0 (x_s := x_s) (by omega)
    rw [rnF_e 0 x_s, if_pos e_s]
    rfl
  | succ d_s ih_s =>
    intro x_s hx h_s
    by_cases e_s : x_s = 0
    · rw [rnF_e (d_s + 1) x_s, rnF_e d_s x_s, if_pos e_s, if_pos e_s]
    · have u_s := lnK_p (x_s := x_s) (by omega) hx
      have ih2 := ih_s (paK x_s) (by omega) (by omega)
      rw [rnF_e (d_s + 1) x_s, rnF_e d_s x_s, ih2]
theorem rnK_s {x_s : Nat} (h1 : 1 ≤ x_s) (h2 : x_s ≤ 340) : rnK o x_s = stO (((x_s - 1) % 4 : Nat) : Int) (rnK o (paK x_s)) := by
  have u_s := lnK_p h1 h2
  have l := lnK_le x_s
  unfold rnK
  rw [rnF_l 3 (paK x_s) (by omega) (by omega)]
  exact if_neg (by omega)
theorem rnK_c {x_s h_s : Nat} (hx : x_s ≤ 84) (hh : h_s < 4) : rnK o (4 * x_s + h_s + 1) = stO ((h_s : Nat) : Int) (rnK o x_s) := by
  rw [rnK_s (by omega) (by omega)]
  have e1_s : (4 * x_s + h_s + 1 - 1) % 4 = h_s := by omega
  have e2_s : paK (4 * x_s + h_s + 1) = x_s := by
    unfold paK
    omega
  rw [e1_s, e2_s]
theorem st_fx {w_s : Int} {k_s : Nat} (h1 : ¬ k_s = 1) (h2 : ¬ k_s = 2) (h3 : ¬ k_s = 3) (h5 : ¬ k_s = 5) : stO w_s o k_s = o k_s := by
  have hh : hetO o k_s = o k_s := by
    unfold hetO
    split
    · rfl
    · rw [os_ne h5, os_ne h3]
  have hn : naiO o k_s = o k_s := by
    unfold naiO
    split
    · rfl
    · rw [os_ne h2, os_ne h3]
  have hd_s : ∀ e_s, drwO o e_s k_s = o k_s := fun e_s => by
    unfold drwO
    split
    · rfl
    · rw [os_ne h1, os_ne h3]
  unfold stO
  split
  · exact hh
  · split
    · exact hn
    · split
      · exact hd_s 1
      · split
        · exact hd_s (-1)
        · rfl
theorem rnF_fx {k_s : Nat} (h1 : ¬ k_s = 1) (h2 : ¬ k_s = 2) (h3 : ¬ k_s = 3) (h5 : ¬ k_s = 5) : ∀ (d_s x_s : Nat), rnF o d_s x_s k_s = o k_s
  | 0, _ => rfl
  | d_s + 1, x_s => by
    show (if x_s = 0 then o else stO (((x_s - 1) % 4 : Nat) : Int) (rnF o d_s (paK x_s))) k_s = o k_s
    by_cases e_s : x_s = 0
    · rw [if_pos e_s]
    · rw [if_neg e_s, st_fx h1 h2 h3 h5]
      exact rnF_fx h1 h2 h3 h5 d_s (paK x_s)
theorem rnF_B (hB_s : oB o) : ∀ (d_s x_s : Nat), oB (rnF o d_s x_s)
  | 0, _ => hB_s
  | d_s + 1, x_s => by
    show oB (if x_s = 0 then o else stO (((x_s - 1) % 4 : Nat) : Int) (rnF o d_s (paK x_s)))
    by_cases e_s : x_s = 0
    · rw [if_pos e_s]
      exact hB_s
    · rw [if_neg e_s]
      exact st_B (rnF_B hB_s d_s (paK x_s))
/-- a state as one number -/
noncomputable def cdO (o : oI) : Int := (((o 1).toInt * 100 + (o 2).toInt) * 10 + (o 3).toInt) * 10 + (o 5).toInt
theorem cd_eq {o1 : oI} (hB_s : oB o) (hB1 : oB o1) (h_s : ∀ k_s, ¬ k_s = 1 → ¬ k_s = 2 → ¬ k_s = 3 → ¬ k_s = 5 → o k_s = o1 k_s) (e_s : cdO o = cdO o1) : o = o1 := by
  obtain ⟨b0, b1, b2, b3, b4, b5, b6⟩ := hB_s
  obtain ⟨d0_s, d1_s, d2, d3_s, d4_s, d5_s, d6_s⟩ := hB1
  unfold cdO at e_s
  have e1_s : o 1 = o1 1 := Int32.toInt_inj.mp (by omega)
  have e2_s : o 2 = o1 2 := Int32.toInt_inj.mp (by omega)
  have e3_s : o 3 = o1 3 := Int32.toInt_inj.mp (by omega)
  have e5_s : o 5 = o1 5 := Int32.toInt_inj.mp (by omega)
  funext k_s
  by_cases c1_s : k_s = 1
  · rw [c1_s, e1_s]
  · by_cases c2_s : k_s = 2
    · rw [c2_s, e2_s]
    · by_cases c3_s : k_s = 3
      · rw [c3_s, e3_s]
      · by_cases c5_s : k_s = 5
        · rw [c5_s, e5_s]
        · exact h_s k_s c1_s c2_s c3_s c5_s
theorem i100_ : (100 : Int32).toInt = 100 := rfl
theorem i104_ : (10000 : Int32).toInt = 10000 := rfl
theorem cd_v (hB_s : oB o) : (((((((o 1) * 100) + (o 2)) * 10) + (o 3)) * 10) + (o 5)).toInt = cdO o := by
  obtain ⟨b0, b1, b2, b3, b4, b5, b6⟩ := hB_s
  have a1_s : (o 1 * 100).toInt = (o 1).toInt * 100 := by rw [na_mul (by rw [i100_]; omega) (by rw [i100_]; omega), i100_]
  have a2 : (o 1 * 100 + o 2).toInt = (o 1).toInt * 100 + (o 2).toInt := by rw [na_add (by omega) (by omega), a1_s]
  have a3 : ((o 1 * 100 + o 2) * 10).toInt = ((o 1).toInt * 100 + (o 2).toInt) * 10 := by rw [na_mul (by rw [i10_]; omega) (by rw [i10_]; omega), i10_, a2]
  have a4 : ((o 1 * 100 + o 2) * 10 + o 3).toInt = ((o 1).toInt * 100 + (o 2).toInt) * 10 + (o 3).toInt := by rw [na_add (by omega) (by omega), a3]
  have a5 : (((o 1 * 100 + o 2) * 10 + o 3) * 10).toInt = (((o 1).toInt * 100 + (o 2).toInt) * 10 + (o 3).toInt) * 10 := by rw [na_mul (by rw [i10_]; omega) (by rw [i10_]; omega), i10_, a4]
  rw [na_add (by omega) (by omega), a5]
  rfl
theorem td_ {a_s c_s : Int} (h_s : 0 ≤ a_s) : a_s.tdiv c_s = a_s / c_s := Int.tdiv_eq_ediv_of_nonneg h_s
theorem tm_ {a_s c_s : Int} (h_s : 0 ≤ a_s) : a_s.tmod c_s = a_s % c_s := Int.tmod_eq_emod_of_nonneg h_s
theorem rc_ {x_s : Int32} (hB_s : oB o) (e_s : x_s.toInt = cdO o) : x_s - x_s / 10 * 10 = o 5 ∧ x_s / 10 - x_s / 10 / 10 * 10 = o 3 ∧ x_s / 100 - x_s / 100 / 100 * 100 = o 2 ∧ x_s / 10000 = o 1 := by
  obtain ⟨b0, b1, b2, b3, b4, b5, b6⟩ := hB_s
  unfold cdO at e_s
  have x0_s : 0 ≤ x_s.toInt := by omega
  have d1_s : (x_s / 10).toInt = x_s.toInt / 10 := by rw [na_div (by decide), i10_, td_ x0_s]
  have d2 : (x_s / 100).toInt = x_s.toInt / 100 := by rw [na_div (by decide), i100_, td_ x0_s]
  have d4_s : (x_s / 10000).toInt = x_s.toInt / 10000 := by rw [na_div (by decide), i104_, td_ x0_s]
  refine ⟨Int32.toInt_inj.mp ?_, Int32.toInt_inj.mp ?_, Int32.toInt_inj.mp ?_, Int32.toInt_inj.mp ?_⟩
  · rw [na_rem, i10_, tm_ x0_s]
    omega
  · rw [na_rem, i10_, tm_ (by omega), d1_s]
    omega
  · rw [na_rem, i100_, tm_ (by omega), d2]
    omega
  · rw [d4_s]
    omega
end RK
/-- the search's rows: entry k is the state of key ka k -/
noncomputable def BF (o : oI) (f_s : Nat → Nat → Int32) (ka : Nat → Nat) (fo : Nat) : Prop := (1 ≤ fo ∧ fo ≤ 341 ∧ (f_s 52 6).toInt = (fo : Int) ∧ ka 0 = 0) ∧ (∀ j_s k_s, j_s < k_s → k_s < fo → ka j_s < ka k_s) ∧ (∀ k_s, k_s < fo → ka k_s ≤ 340 ∧ (f_s 54 k_s).toInt = cdO (rnK o (ka k_s)) ∧ (f_s 57 k_s).toInt = (lnK (ka k_s) : Int)) ∧ (∀ k_s, 0 < k_s → k_s < fo → ∃ e_s : Nat, e_s < k_s ∧ (f_s 55 k_s).toInt = (e_s : Int) ∧ (f_s 56 k_s).toInt = (((ka k_s - 1) % 4 : Nat) : Int) ∧ ka e_s = paK (ka k_s))
/-- strokes below h of entry j have their entries -/
noncomputable def CV1 (o : oI) (ka : Nat → Nat) (fo j_s h_s : Nat) : Prop := ∀ g_s, g_s < h_s → ∃ k_s, k_s < fo ∧ rnK o (ka k_s) = stO ((g_s : Nat) : Int) (rnK o (ka j_s)) ∧ ka k_s ≤ 4 * ka j_s + g_s + 1
noncomputable def CV (o : oI) (ka : Nat → Nat) (fo i_s : Nat) : Prop := ∀ j_s, j_s < i_s → lnK (ka j_s) < 4 → CV1 o ka fo j_s 4
noncomputable def FL (ok_s : oI → Prop) (o : oI) (ka : Nat → Nat) (i_s : Nat) : Prop := ∀ j_s, j_s < i_s → ¬ ok_s (rnK o (ka j_s))
section BS_s
variable {o : oI} {ka : Nat → Nat} {fo i_s : Nat} {ok_s : oI → Prop}
theorem inc_le (h_s : ∀ j_s k_s, j_s < k_s → k_s < fo → ka j_s < ka k_s) : ∀ k_s, k_s < fo → k_s ≤ ka k_s
  | 0, _ => Nat.zero_le _
  | k_s + 1, hk => by
    have u_s := inc_le h_s k_s (by omega)
    have w_s := h_s k_s (k_s + 1) (by omega) hk
    omega
theorem cov_ {N_s b_s : Nat} (h0 : ka 0 = 0) (hN_s : 0 < N_s) (hf : N_s ≤ fo) (hb_s : ∀ k_s, k_s < fo → ka k_s < b_s → k_s < N_s) (hc_s : CV o ka fo N_s) : ∀ (n_s x_s : Nat), x_s < n_s → x_s < b_s → x_s ≤ 340 → ∃ j_s, j_s < N_s ∧ rnK o (ka j_s) = rnK o x_s ∧ ka j_s ≤ x_s
  | 0, x_s, hx, _, _ => absurd hx (Nat.not_lt_zero x_s)
  | n_s + 1, x_s, hx, hxb, h340 => by
    by_cases e_s : x_s = 0
    · subst e_s
      exact ⟨0, hN_s, by rw [h0], by omega⟩
    · have p_s := lnK_p (x_s := x_s) (by omega) h340
      have pl : paK x_s < x_s := by
        unfold paK
        omega
      obtain ⟨j_s, j1, j2_s, j3_s⟩ := cov_ h0 hN_s hf hb_s hc_s n_s (paK x_s) (by omega) (by omega) (by omega)
      have l4 : lnK (ka j_s) < 4 := by
        have u_s := lnK_le x_s
        have mono_s : ∀ a_s c_s : Nat, a_s ≤ c_s → lnK a_s ≤ lnK c_s := fun a_s c_s w_s => by
          unfold lnK
          split
          · omega
          · rw [if_neg (show ¬ c_s = 0 by omega)]
            split
            · split <;> (try omega)
              split <;> (try omega)
              split <;> omega
            · rw [if_neg (show ¬ c_s ≤ 4 by omega)]
              split
              · split <;> (try omega)
                split <;> omega
              · rw [if_neg (show ¬ c_s ≤ 20 by omega)]
                split
                · split <;> omega
                · rw [if_neg (show ¬ c_s ≤ 84 by omega)]
                  omega
        have u2_s := mono_s (ka j_s) (paK x_s) j3_s
        omega
      obtain ⟨k_s, k1_s, k2_s, k3_s⟩ := hc_s j_s j1 l4 ((x_s - 1) % 4) (by omega)
      have ex_s : x_s = 4 * paK x_s + (x_s - 1) % 4 + 1 := by
        unfold paK
        omega
      refine ⟨k_s, hb_s k_s k1_s (by omega), ?_, by omega⟩
      rw [k2_s, j2_s]
      exact (rnK_s (by omega) h340).symm
end BS_s
noncomputable def isL (ok_s : oI → Prop) (o : oI) (x_s : Nat) : Prop := x_s ≤ 340 ∧ ok_s (rnK o x_s) ∧ ∀ y_s, y_s < x_s → ¬ ok_s (rnK o y_s)
theorem isL_u {ok_s : oI → Prop} {o : oI} {x_s y_s : Nat} (h1 : isL ok_s o x_s) (h2 : isL ok_s o y_s) : x_s = y_s := by
  rcases Nat.lt_trichotomy x_s y_s with e_s | e_s | e_s
  · exact absurd h1.2.1 (h2.2.2 x_s e_s)
  · exact e_s
  · exact absurd h2.2.1 (h1.2.2 y_s e_s)
/-- what the class's search may write -/
noncomputable def frQ (f0_s f_s : Nat → Nat → Int32) : Prop := ∀ a_s k_s, ¬ a_s = 13 → ¬ a_s = 16 → ¬ a_s = 19 → ¬ (53 ≤ a_s ∧ a_s ≤ 57) → ¬ (a_s = 58 ∧ k_s < 7) → ¬ (a_s = 52 ∧ k_s = 6) → ¬ (a_s = 50 ∧ (k_s = 2 ∨ k_s = 3)) → f_s a_s k_s = f0_s a_s k_s
section SP
variable {h_s : zH} {K_s : Int32 → zH → Prop} {V : zH → Prop} {nh ni nr q_s L_s i_s : Nat} {lw : Option (List pB)} {x1_s x2_s x3 : Int32} {f0_s : Nat → Nat → Int32} {o0_s : oI} {c_s : Nat → Int64}
theorem sp_87 {F_s : Nat} {f_s : Nat → Nat → Int32} {o : oI} (hk : hKn h_s) (hd_s : 20 ≤ i_s ∧ i_s < 28) (hB_s : oB o) (e2_s : x2_s.toInt = cdO o) (h0 : f_s i_s 0 = o 0) (h4 : f_s i_s 4 = o 4) (t_s : ∀ f1_s, (∀ k_s, k_s < 6 → f1_s 58 k_s = o k_s) → f1_s 58 6 = f_s i_s 6 → (∀ a_s k_s, ¬ (a_s = 58 ∧ k_s < 7) → f1_s a_s k_s = f_s a_s k_s) → V (h_s.1, f1_s, h_s.2.2.1, h_s.2.2.2)) : wF F_s 87 (0, [some (.ref 52), some (.ref i_s), some (.int x2_s)], [], (h_s.1, f_s, h_s.2.2.1, h_s.2.2.2)) (gV V) := by
  obtain ⟨r1_s, r2, r3, r4⟩ := rc_ hB_s e2_s
  refine wF_le (Nat.le_succ F_s) (sg_87_0 (h_s := (h_s.1, f_s, h_s.2.2.1, h_s.2.2.2)) hk ?_)
  refine sp_35 hk (by omega) (fun f1_s g1 g2 _ => ?_)
  dsimp only
  rw [r1_s, r2, r3, r4]
  refine t_s _ (fun k_s hk6 => ?_) ?_ (fun a_s k_s w_s => ?_)
  · have e7_s : k_s = 0 ∨ k_s = 1 ∨ k_s = 2 ∨ k_s = 3 ∨ k_s = 4 ∨ k_s = 5 := by omega
    rcases e7_s with e_s | e_s | e_s | e_s | e_s | e_s
    · subst e_s
      rw [zne_up (by omega), zne_up (by omega), zne_up (by omega), zne_up (by omega), g1 0 (by omega)]
      exact h0
    · subst e_s
      rw [zsame_up]
    · subst e_s
      rw [zne_up (by omega), zsame_up]
    · subst e_s
      rw [zne_up (by omega), zne_up (by omega), zsame_up]
    · subst e_s
      rw [zne_up (by omega), zne_up (by omega), zne_up (by omega), zne_up (by omega), g1 4 (by omega)]
      exact h4
    · subst e_s
      rw [zne_up (by omega), zne_up (by omega), zne_up (by omega), zsame_up]
  · rw [zne_up (by omega), zne_up (by omega), zne_up (by omega), zne_up (by omega), g1 6 (by omega)]
  · rw [zne_up (by omega), zne_up (by omega), zne_up (by omega), zne_up (by omega)]
    exact g2 a_s k_s w_s
theorem sp_86 {F_s d_s : Nat} {f_s : Nat → Nat → Int32} {o : oI} (hk : hKn h_s) (hB_s : oB o) (ho : ∀ k_s, k_s < 6 → f_s d_s k_s = o k_s) (t_s : ∀ v_s, v_s.toInt = cdO o → K_s v_s (h_s.1, f_s, h_s.2.2.1, h_s.2.2.2)) : wF F_s 86 (0, [some (.ref d_s)], [], (h_s.1, f_s, h_s.2.2.1, h_s.2.2.2)) (gI K_s) := by
  refine wF_le (Nat.le_succ F_s) (sg_86_0 (h_s := (h_s.1, f_s, h_s.2.2.1, h_s.2.2.2)) hk ?_)
  dsimp only
  rw [ho 1 (by omega), ho 2 (by omega), ho 3 (by omega), ho 5 (by omega)]
  exact t_s _ (cd_v hB_s)
theorem l84 {fo : Nat} {f_s : Nat → Nat → Int32} (hk : hKn h_s) (e6_s : (f_s 52 6).toInt = (fo : Int)) (hf : fo ≤ 341) (t1_s : (∃ k_s, k_s < fo ∧ (f_s 54 k_s).toInt = x1_s.toInt) → K_s 1 (h_s.1, f_s, h_s.2.2.1, h_s.2.2.2)) (t0_s : (∀ k_s, k_s < fo → ¬ (f_s 54 k_s).toInt = x1_s.toInt) → K_s 0 (h_s.1, f_s, h_s.2.2.1, h_s.2.2.2)) : ∀ (F_s n_s : Nat) (x2_s : Int32), x2_s.toInt = (n_s : Int) → n_s ≤ fo → (∀ k_s, k_s < n_s → ¬ (f_s 54 k_s).toInt = x1_s.toInt) → wF F_s 84 (2, [some (.ref 52), some (.int x1_s), some (.int x2_s)], [], (h_s.1, f_s, h_s.2.2.1, h_s.2.2.2)) (gI K_s)
  | 0, _, _, _, _, _ => wF_zero
  | F_s + 1, n_s, x2_s, e2_s, hn, hno => by
    have z_s := azix (i := x2_s) (by omega)
    have ez : zix x2_s = n_s := by omega
    refine sg_84_2 (h_s := (h_s.1, f_s, h_s.2.2.1, h_s.2.2.2)) hk ?_
    dsimp only
    rw [e6_s, ez, e2_s]
    refine ⟨fun c1_s => fun _ => ⟨fun c3_s => t1_s ⟨n_s, by omega, c3_s⟩, fun c3_s => ?_⟩, fun c1_s => ?_⟩
    · refine l84 hk e6_s hf t1_s t0_s F_s (n_s + 1) (x2_s + 1) (by rw [in1_ (by omega)]; omega) (by omega) (fun k_s hk1 => ?_)
      by_cases e_s : k_s = n_s
      · rw [e_s]
        exact c3_s
      · exact hno k_s (by omega)
    · have en : n_s = fo := by omega
      subst en
      exact t0_s hno
theorem sp_84 {F_s fo : Nat} {f_s : Nat → Nat → Int32} (hk : hKn h_s) (e6_s : (f_s 52 6).toInt = (fo : Int)) (hf : fo ≤ 341) (t1_s : (∃ k_s, k_s < fo ∧ (f_s 54 k_s).toInt = x1_s.toInt) → K_s 1 (h_s.1, f_s, h_s.2.2.1, h_s.2.2.2)) (t0_s : (∀ k_s, k_s < fo → ¬ (f_s 54 k_s).toInt = x1_s.toInt) → K_s 0 (h_s.1, f_s, h_s.2.2.1, h_s.2.2.2)) : wF F_s 84 (0, [some (.ref 52), some (.int x1_s), none], [], (h_s.1, f_s, h_s.2.2.1, h_s.2.2.2)) (gI K_s) := by
  refine wF_le (Nat.le_succ F_s) (sg_84_0 (h_s := (h_s.1, f_s, h_s.2.2.1, h_s.2.2.2)) hk ?_)
  exact l84 hk e6_s hf t1_s t0_s F_s 0 0 rfl (Nat.zero_le _) (fun k_s w_s => absurd w_s (Nat.not_lt_zero k_s))
/-- the plan told -/
theorem l85 {fo y_s : Nat} {f_s : Nat → Nat → Int32} {ka : Nat → Nat} (hk : hKn h_s) (hb_s : BF o0_s f_s ka fo) (hy : y_s ≤ 340) (ex_s : x2_s.toInt = (lnK y_s : Int)) (t_s : ∀ f1_s, (∀ k_s, k_s < lnK y_s → (f1_s 53 k_s).toInt = (deK (lnK y_s - 1 - k_s) y_s : Int)) → (∀ a_s k_s, ¬ a_s = 53 → f1_s a_s k_s = f_s a_s k_s) → K_s x2_s (h_s.1, f1_s, h_s.2.2.1, h_s.2.2.2)) : ∀ (F_s m_s e_s : Nat) (x3 x4_s : Int32) (g_s : Nat → Nat → Int32), x4_s.toInt = (m_s : Int) - 1 → m_s ≤ lnK y_s → x3.toInt = (e_s : Int) → e_s < fo → ka e_s = upK (lnK y_s - m_s) y_s → (∀ k_s, m_s ≤ k_s → k_s < lnK y_s → (g_s 53 k_s).toInt = (deK (lnK y_s - 1 - k_s) y_s : Int)) → (∀ a_s k_s, ¬ a_s = 53 → g_s a_s k_s = f_s a_s k_s) → wF F_s 85 (14, [some (.ref 52), some (.int x1_s), some (.int x2_s), some (.int x3), some (.int x4_s)], [], (h_s.1, g_s, h_s.2.2.1, h_s.2.2.2)) (gI K_s)
  | 0, _, _, _, _, _, _, _, _, _, _, _, _ => wF_zero
  | F_s + 1, m_s, e_s, x3, x4_s, g_s, e4_s, hm_s, e3_s, he, ha_s, hs, hg => by
    have l4 := lnK_le y_s
    have z3 := azix (i := x3) (by omega)
    have ez3 : zix x3 = e_s := by omega
    refine sg_85_14 (h_s := (h_s.1, g_s, h_s.2.2.1, h_s.2.2.2)) hk ?_
    dsimp only
    rw [ez3]
    refine ⟨fun c1_s => t_s g_s (fun k_s w_s => hs k_s (by omega) w_s) hg, fun c1_s => fun c2_s => fun c3_s => ?_⟩
    have z4 := azix (i := x4_s) (by omega)
    obtain ⟨m_s, em⟩ : ∃ m1_s, m_s = m1_s + 1 := ⟨m_s - 1, by omega⟩
    subst em
    have ez4 : zix x4_s = m_s := by omega
    rw [ez4, hg 55 _ (by omega), hg 56 _ (by omega)]
    have ul_s := upK_l (lnK y_s - (m_s + 1)) y_s hy (by omega)
    have k1_s : 1 ≤ ka e_s := by
      rw [ha_s]
      exact lnK_1 (by omega)
    have e0_s : 0 < e_s := by
      apply Classical.byContradiction
      intro w_s
      have e00 : e_s = 0 := by omega
      rw [e00, hb_s.1.2.2.2] at k1_s
      omega
    obtain ⟨e1_s, b1, b2, b3, b4⟩ := hb_s.2.2.2 e_s e0_s he
    have m1_ : (-1 : Int32).toInt = -1 := rfl
    refine l85 hk hb_s hy ex_s t_s F_s m_s e1_s _ (x4_s + (-1)) _ ?_ (by omega) b2 (by omega) ?_ (fun k_s w1_s w2_s => ?_) (fun a_s k_s w_s => ?_)
    · rw [na_add (by rw [m1_]; omega) (by rw [m1_]; omega), m1_]
      omega
    · rw [b4, ha_s]
      have es : lnK y_s - m_s = lnK y_s - (m_s + 1) + 1 := by omega
      rw [es]
      rfl
    · by_cases ek : k_s = m_s
      · rw [ek, zsame_up, b3, ha_s]
        have es : lnK y_s - 1 - m_s = lnK y_s - (m_s + 1) := by omega
        rw [es]
        rfl
      · rw [zne_up (by omega)]
        exact hs k_s (by omega) w2_s
    · rw [zne_up (by omega)]
      exact hg a_s k_s w_s
theorem sp_85 {F_s fo e_s : Nat} {f_s : Nat → Nat → Int32} {ka : Nat → Nat} (hk : hKn h_s) (hb_s : BF o0_s f_s ka fo) (e1_s : x1_s.toInt = (e_s : Int)) (he : e_s < fo) (t_s : ∀ v_s f1_s, v_s.toInt = (lnK (ka e_s) : Int) → (∀ k_s, k_s < lnK (ka e_s) → (f1_s 53 k_s).toInt = (deK (lnK (ka e_s) - 1 - k_s) (ka e_s) : Int)) → (∀ a_s k_s, ¬ a_s = 53 → f1_s a_s k_s = f_s a_s k_s) → K_s v_s (h_s.1, f1_s, h_s.2.2.1, h_s.2.2.2)) : wF F_s 85 (0, [some (.ref 52), some (.int x1_s), none, none, none], [], (h_s.1, f_s, h_s.2.2.1, h_s.2.2.2)) (gI K_s) := by
  have b2 := hb_s.1.2.1
  have z_s := azix (i := x1_s) (by omega)
  have ez : zix x1_s = e_s := by omega
  obtain ⟨u1_s, u2_s, u3⟩ := hb_s.2.2.1 e_s he
  have l4 := lnK_le (ka e_s)
  refine wF_le (Nat.le_succ F_s) (sg_85_0 (h_s := (h_s.1, f_s, h_s.2.2.1, h_s.2.2.2)) hk ?_)
  dsimp only
  rw [ez]
  refine fun _ => ?_
  refine l85 hk hb_s u1_s u3 (fun f1_s p1_s p2_s => t_s _ f1_s u3 p1_s p2_s) F_s (lnK (ka e_s)) e_s x1_s _ f_s ?_ (Nat.le_refl _) e1_s he ?_ (fun k_s w1_s w2_s => absurd w1_s (by omega)) (fun _ _ _ => rfl)
  · rw [na_sub (by rw [n1_]; omega) (by rw [n1_]; omega), n1_, u3]
  · rw [Nat.sub_self]
    rfl
/-- the strokes of one entry -/
noncomputable def A2 (h_s : zH) (V : zH → Prop) (f0_s : Nat → Nat → Int32) (ok_s : oI → Prop) (o0_s : oI) (d_s i_s : Nat) (x2_s : Int32) (F_s : Nat) : Prop := ∀ (g_s fo : Nat) (ka : Nat → Nat) (f_s : Nat → Nat → Int32) (x3 : Int32) (l4 : Option Value), x3.toInt = (g_s : Int) → g_s ≤ 4 → i_s < fo → frQ f0_s f_s → BF o0_s f_s ka fo → CV o0_s ka fo i_s → CV1 o0_s ka fo i_s g_s → FL ok_s o0_s ka (i_s + 1) → lnK (ka i_s) < 4 → (∀ k_s, k_s < fo → ka k_s ≤ 4 * ka i_s + g_s) → wF F_s 83 (2, [some (.ref 52), some (.ref d_s), some (.int x2_s), some (.int x3), l4], [], (h_s.1, f_s, h_s.2.2.1, h_s.2.2.2)) (gV V)
theorem bf_fr {fo : Nat} {ka : Nat → Nat} {f_s f1_s : Nat → Nat → Int32} (e6_s : f1_s 52 6 = f_s 52 6) (e_s : ∀ a_s k_s, 54 ≤ a_s → a_s ≤ 57 → f1_s a_s k_s = f_s a_s k_s) (hb_s : BF o0_s f_s ka fo) : BF o0_s f1_s ka fo := by
  obtain ⟨⟨a1_s, a2, a3, a4⟩, b_s, c_s, d_s⟩ := hb_s
  refine ⟨⟨a1_s, a2, by rw [e6_s]; exact a3, a4⟩, b_s, fun k_s hk => ?_, fun k_s h0 hk => ?_⟩
  · rw [e_s 54 k_s (by omega) (by omega), e_s 57 k_s (by omega) (by omega)]
    exact c_s k_s hk
  · rw [e_s 55 k_s (by omega) (by omega), e_s 56 k_s (by omega) (by omega)]
    exact d_s k_s h0 hk
/-- a new entry -/
theorem bf_add {fo j_s g_s : Nat} {ka : Nat → Nat} {f_s f1_s : Nat → Nat → Int32} {ok_s : oI → Prop} (hb_s : BF o0_s f_s ka fo) (hj : j_s < fo) (hl : lnK (ka j_s) < 4) (hg : g_s < 4) (hbd : ∀ k_s, k_s < fo → ka k_s ≤ 4 * ka j_s + g_s) (h54 : (f1_s 54 fo).toInt = cdO (stO ((g_s : Nat) : Int) (rnK o0_s (ka j_s)))) (h55 : (f1_s 55 fo).toInt = (j_s : Int)) (h56 : (f1_s 56 fo).toInt = (g_s : Int)) (h57 : (f1_s 57 fo).toInt = ((lnK (ka j_s) + 1 : Nat) : Int)) (h6 : (f1_s 52 6).toInt = ((fo + 1 : Nat) : Int)) (hold : ∀ a_s k_s, 54 ≤ a_s → a_s ≤ 57 → k_s < fo → f1_s a_s k_s = f_s a_s k_s) (hcv : CV o0_s ka fo j_s) (hcv1 : CV1 o0_s ka fo j_s g_s) (hfl : FL ok_s o0_s ka (j_s + 1)) : ∃ ka1 : Nat → Nat, BF o0_s f1_s ka1 (fo + 1) ∧ CV o0_s ka1 (fo + 1) j_s ∧ CV1 o0_s ka1 (fo + 1) j_s (g_s + 1) ∧ FL ok_s o0_s ka1 (j_s + 1) ∧ lnK (ka1 j_s) < 4 ∧ (∀ k_s, k_s < fo + 1 → ka1 k_s ≤ 4 * ka1 j_s + (g_s + 1)) := by
  obtain ⟨⟨a1_s, a2, a3, a4⟩, b_s, c_s, d_s⟩ := hb_s
  have k84 := lnK_84 hl
  have lt_s : ∀ k_s, k_s < fo → ¬ k_s = fo := fun k_s w_s => by omega
  have old_s : ∀ k_s, k_s < fo → (fun k_s => if k_s = fo then 4 * ka j_s + g_s + 1 else ka k_s) k_s = ka k_s := fun k_s w_s => if_neg (lt_s k_s w_s)
  have new_s : (fun k_s => if k_s = fo then 4 * ka j_s + g_s + 1 else ka k_s) fo = 4 * ka j_s + g_s + 1 := if_pos rfl
  have f340 : fo ≤ 340 := by
    have u_s := inc_le b_s (fo - 1) (by omega)
    have w_s := hbd (fo - 1) (by omega)
    omega
  have rk := rnK_c (o := o0_s) k84 hg
  have ln := lnK_s k84 hg
  refine ⟨fun k_s => if k_s = fo then 4 * ka j_s + g_s + 1 else ka k_s, ⟨⟨by omega, by omega, h6, ?_⟩, fun m_s k_s hmk hk => ?_, fun k_s hk => ?_, fun k_s h0 hk => ?_⟩, fun m_s hm_s hlm => ?_, ?_, fun m_s hm_s => ?_, ?_, fun k_s hk => ?_⟩
  · rw [old_s 0 (by omega)]
    exact a4
  · by_cases e_s : k_s = fo
    · subst e_s
      rw [new_s, old_s m_s hmk]
      have u_s := hbd m_s hmk
      omega
    · rw [old_s k_s (by omega), old_s m_s (by omega)]
      exact b_s m_s k_s hmk (by omega)
  · by_cases e_s : k_s = fo
    · subst e_s
      rw [new_s, h54, h57, rk, ln]
      exact ⟨by omega, rfl, rfl⟩
    · rw [old_s k_s (by omega), hold 54 k_s (by omega) (by omega) (by omega), hold 57 k_s (by omega) (by omega) (by omega)]
      exact c_s k_s (by omega)
  · by_cases e_s : k_s = fo
    · subst e_s
      rw [new_s, h55, h56]
      refine ⟨j_s, hj, rfl, ?_, ?_⟩
      · have e1_s : (4 * ka j_s + g_s + 1 - 1) % 4 = g_s := by omega
        rw [e1_s]
      · rw [old_s j_s hj]
        unfold paK
        omega
    · obtain ⟨e1_s, q1_s, q2_s, q3_s, q4_s⟩ := d_s k_s h0 (by omega)
      rw [old_s k_s (by omega), hold 55 k_s (by omega) (by omega) (by omega), hold 56 k_s (by omega) (by omega) (by omega)]
      exact ⟨e1_s, q1_s, q2_s, q3_s, by rw [old_s e1_s (by omega)]; exact q4_s⟩
  · rw [old_s m_s (by omega)] at hlm
    intro p_s hp
    obtain ⟨k_s, q1_s, q2_s, q3_s⟩ := hcv m_s hm_s hlm p_s hp
    exact ⟨k_s, by omega, by rw [old_s k_s q1_s, old_s m_s (by omega)]; exact q2_s, by rw [old_s k_s q1_s, old_s m_s (by omega)]; exact q3_s⟩
  · intro p_s hp
    by_cases e_s : p_s = g_s
    · subst e_s
      exact ⟨fo, by omega, by rw [new_s, old_s j_s hj]; exact rk, by rw [new_s, old_s j_s hj]; omega⟩
    · obtain ⟨k_s, q1_s, q2_s, q3_s⟩ := hcv1 p_s (by omega)
      exact ⟨k_s, by omega, by rw [old_s k_s q1_s, old_s j_s hj]; exact q2_s, by rw [old_s k_s q1_s, old_s j_s hj]; exact q3_s⟩
  · rw [old_s m_s (by omega)]
    exact hfl m_s hm_s
  · rw [old_s j_s hj]
    exact hl
  · by_cases e_s : k_s = fo
    · subst e_s
      rw [new_s, old_s j_s hj]
      omega
    · rw [old_s k_s (by omega), old_s j_s hj]
      have u_s := hbd k_s (by omega)
      omega
theorem a2_all {ok_s : oI → Prop} (hk : hKn h_s) (hi_s : i_s < 8) (hB_s : oB o0_s) (h0 : f0_s (20 + i_s) 0 = o0_s 0) (h4 : f0_s (20 + i_s) 4 = o0_s 4) {j_s : Nat} (e2_s : x2_s.toInt = (j_s : Int)) (t_s : ∀ (f1_s : Nat → Nat → Int32) (ka : Nat → Nat) (fo : Nat), frQ f0_s f1_s → BF o0_s f1_s ka fo → CV o0_s ka fo (j_s + 1) → FL ok_s o0_s ka (j_s + 1) → j_s < fo → (∀ k_s, k_s < fo → ka k_s ≤ 4 * ka j_s + 4) → V (h_s.1, f1_s, h_s.2.2.1, h_s.2.2.2)) : ∀ F_s, A2 h_s V f0_s ok_s o0_s (20 + i_s) j_s x2_s F_s
  | 0 => fun _ _ _ _ _ _ _ _ _ _ _ _ _ _ _ _ => wF_zero
  | F_s + 1 => fun g_s fo ka f_s x3 l4 e3_s hg hj hfr hb_s hcv hcv1 hfl hl hbd => by
    have ih_s := a2_all hk hi_s hB_s h0 h4 e2_s t_s F_s
    have b2 := hb_s.1.2.1
    have z2 := azix (i := x2_s) (by omega)
    have ez2 : zix x2_s = j_s := by omega
    have k84 := lnK_84 hl
    obtain ⟨u1_s, u2_s, u3⟩ := hb_s.2.2.1 j_s hj
    refine sg_83_2 (h_s := (h_s.1, f_s, h_s.2.2.1, h_s.2.2.2)) hk ?_
    dsimp only
    rw [ez2, e3_s]
    refine ⟨fun c1_s => fun _ => ?_, fun c1_s => ?_⟩
    · have g4 : g_s < 4 := by omega
      have e31_s : (x3 + 1).toInt = ((g_s + 1 : Nat) : Int) := by
        rw [in1_ (by omega)]
        omega
      refine sp_87 (o := rnK o0_s (ka j_s)) hk (by omega) (rnF_B hB_s 4 (ka j_s)) u2_s ?_ ?_ (fun f1_s g1 g2 g3_s hk1 => ?_)
      · rw [hfr _ _ (by omega) (by omega) (by omega) (by omega) (by omega) (by omega) (by omega), h0]
        exact (rnF_fx (by omega) (by omega) (by omega) (by omega) 4 (ka j_s)).symm
      · rw [hfr _ _ (by omega) (by omega) (by omega) (by omega) (by omega) (by omega) (by omega), h4]
        exact (rnF_fx (by omega) (by omega) (by omega) (by omega) 4 (ka j_s)).symm
      refine sp_43 (h_s := (h_s.1, f1_s, h_s.2.2.1, h_s.2.2.2)) hk g1 (rnF_B hB_s 4 (ka j_s)) (fun v_s f2_s p1_s p2_s p3_s _ => ?_)
      rw [e3_s] at p1_s p3_s
      have fr2 : frQ f0_s f2_s := fun a_s k_s q1_s q2_s q3_s q4_s q5_s q6_s q7_s => by
        rw [p2_s a_s k_s (by omega), g3_s a_s k_s (by omega)]
        exact hfr a_s k_s q1_s q2_s q3_s q4_s q5_s q6_s q7_s
      have hb2 : BF o0_s f2_s ka fo := bf_fr (by rw [p2_s _ _ (by omega), g3_s _ _ (by omega)]) (fun a_s k_s w1_s w2_s => by rw [p2_s a_s k_s (by omega), g3_s a_s k_s (by omega)]) hb_s
      have bd1 : ∀ k_s, k_s < fo → ka k_s ≤ 4 * ka j_s + (g_s + 1) := fun k_s w_s => by
        have u_s := hbd k_s w_s
        omega
      have old_s : (∃ k_s, k_s < fo ∧ rnK o0_s (ka k_s) = stO ((g_s : Nat) : Int) (rnK o0_s (ka j_s))) → CV1 o0_s ka fo j_s (g_s + 1) := fun w_s => by
        obtain ⟨k_s, w1_s, w2_s⟩ := w_s
        intro p_s hp
        by_cases e_s : p_s = g_s
        · subst e_s
          exact ⟨k_s, w1_s, w2_s, by have u_s := hbd k_s w1_s; omega⟩
        · exact hcv1 p_s (by omega)
      refine ⟨fun c2_s => ?_, fun c2_s => ?_⟩
      · refine ih_s (g_s + 1) fo ka f2_s (x3 + 1) _ e31_s (by omega) hj fr2 hb2 hcv (old_s ⟨j_s, hj, ?_⟩) hfl hl bd1
        rcases p3_s with p3_s | p3_s
        · funext k_s
          exact (p3_s.2 k_s).symm
        · omega
      · have hB2 : oB (stO ((g_s : Nat) : Int) (rnK o0_s (ka j_s))) := st_B (rnF_B hB_s 4 (ka j_s))
        refine sp_86 (h_s := (h_s.1, f2_s, h_s.2.2.1, h_s.2.2.2)) hk hB2 p1_s (fun v6 ev6 _ => ?_)
        refine sp_84 (h_s := (h_s.1, f2_s, h_s.2.2.1, h_s.2.2.2)) (fo := fo) hk hb2.1.2.2.1 b2 (fun w_s _ => ⟨fun c_s => absurd c_s (by decide), fun _ => ?_⟩) (fun w_s _ => ⟨fun _ => ?_, fun c_s => absurd rfl c_s⟩)
        · obtain ⟨k_s, w1_s, w2_s⟩ := w_s
          refine ih_s (g_s + 1) fo ka f2_s (x3 + 1) _ e31_s (by omega) hj fr2 hb2 hcv (old_s ⟨k_s, w1_s, ?_⟩) hfl hl bd1
          have v1_s := (hb2.2.2.1 k_s w1_s).2.1
          refine cd_eq (rnF_B hB_s 4 (ka k_s)) hB2 (fun m_s q1_s q2_s q3_s q5_s => ?_) (by rw [← v1_s, w2_s, ev6])
          rw [st_fx q1_s q2_s q3_s q5_s]
          exact (rnF_fx q1_s q2_s q3_s q5_s 4 (ka k_s)).trans (rnF_fx q1_s q2_s q3_s q5_s 4 (ka j_s)).symm
        · have e6_s := hb2.1.2.2.1
          have z6 := azix (i := f2_s 52 6) (by omega)
          have ez6 : zix (f2_s 52 6) = fo := by omega
          have f340 : fo ≤ 340 := by
            have u_s := inc_le hb_s.2.1 (fo - 1) (by omega)
            have w_s := hbd (fo - 1) (by omega)
            omega
          dsimp only
          rw [ez6, e6_s]
          refine ⟨fun _ => fun _ => ?_, fun c3_s => absurd c3_s (by omega)⟩
          have e57 : f2_s 57 j_s = f_s 57 j_s := by rw [p2_s _ _ (by omega), g3_s _ _ (by omega)]
          have l57 : zup (zup (zup f2_s 54 fo v6) 55 fo x2_s) 56 fo x3 57 j_s = f2_s 57 j_s := by rw [zne_up (by omega), zne_up (by omega), zne_up (by omega)]
          have l56 : zup (zup (zup (zup f2_s 54 fo v6) 55 fo x2_s) 56 fo x3) 57 fo (f2_s 57 j_s + 1) 52 6 = f2_s 52 6 := by rw [zne_up (by omega), zne_up (by omega), zne_up (by omega), zne_up (by omega)]
          have ad := bf_add (f1_s := zup (zup (zup (zup (zup f2_s 54 fo v6) 55 fo x2_s) 56 fo x3) 57 fo (f2_s 57 j_s + 1)) 52 6 (f2_s 52 6 + 1)) hb2 hj hl g4 hbd (by rw [zne_up (by omega), zne_up (by omega), zne_up (by omega), zne_up (by omega), zsame_up]; exact ev6) (by rw [zne_up (by omega), zne_up (by omega), zne_up (by omega), zsame_up]; exact e2_s) (by rw [zne_up (by omega), zne_up (by omega), zsame_up]; exact e3_s) (by rw [zne_up (by omega), zsame_up, e57, in1_ (by omega), u3]; omega) (by rw [zsame_up, in1_ (by omega), e6_s]; omega) (fun a_s k_s w1_s w2_s w3_s => by rw [zne_up (by omega), zne_up (by omega), zne_up (by omega), zne_up (by omega), zne_up (by omega)]) hcv hcv1 hfl
          obtain ⟨ka1, v1_s, v2, v3, v4_s, v5, v7⟩ := ad
          refine ih_s (g_s + 1) (fo + 1) ka1 _ (x3 + 1) _ e31_s (by omega) (by omega) (fun a_s k_s q1_s q2_s q3_s q4_s q5_s q6_s q7_s => ?_) v1_s v2 v3 v4_s v5 v7
          rw [zne_up (by omega), zne_up (by omega), zne_up (by omega), zne_up (by omega), zne_up (by omega)]
          exact fr2 a_s k_s q1_s q2_s q3_s q4_s q5_s q6_s q7_s
    · have eg : g_s = 4 := by omega
      subst eg
      refine t_s f_s ka fo hfr hb_s (fun m_s hm_s hlm => ?_) hfl hj hbd
      by_cases e_s : m_s = j_s
      · subst e_s
        exact hcv1
      · exact hcv m_s (by omega) hlm
/-- the search -/
theorem l82 (hk : hKn h_s) (hr9 : h_s.2.2.2 7 9 = some q_s) (hm_s : q_s = 14 ∨ q_s = 17) (hl : lawC q_s f0_s lw) (hp : lwP lw) (hc_s : tC nh ni nr f0_s) (hi_s : i_s < ni) (eo : o0_s = owI f0_s i_s) (hL : L_s ≤ 20) (eL : (f0_s 50 1).toInt = (L_s : Int)) (es : ∀ k_s, k_s < L_s → f0_s 51 k_s = (c_s k_s).toInt32) (okc : ∀ k_s, k_s < L_s → okK nr (c_s k_s)) (t1_s : ∀ y_s v_s f1_s, isL (fun o => (jrn (goJ lw f0_s c_s) L_s 0 0 o).2.2.2 = true) o0_s y_s → v_s.toInt = (lnK y_s : Int) → (∀ k_s, k_s < lnK y_s → (f1_s 53 k_s).toInt = (deK (lnK y_s - 1 - k_s) y_s : Int)) → frQ f0_s f1_s → K_s v_s (h_s.1, f1_s, h_s.2.2.1, h_s.2.2.2)) (t0_s : (∀ y_s, y_s ≤ 340 → ¬ (jrn (goJ lw f0_s c_s) L_s 0 0 (rnK o0_s y_s)).2.2.2 = true) → ∀ f1_s, frQ f0_s f1_s → K_s (-2) (h_s.1, f1_s, h_s.2.2.1, h_s.2.2.2)) : ∀ (F_s j_s fo : Nat) (ka : Nat → Nat) (f_s : Nat → Nat → Int32) (x4_s : Int32), x4_s.toInt = (j_s : Int) → j_s ≤ fo → frQ f0_s f_s → BF o0_s f_s ka fo → CV o0_s ka fo j_s → FL (fun o => (jrn (goJ lw f0_s c_s) L_s 0 0 o).2.2.2 = true) o0_s ka j_s → (∀ k_s, k_s < fo → j_s < fo → ka k_s ≤ 4 * ka j_s) → wF F_s 82 (25, [some (.ref 52), some (.ref 50), some (.ref (20 + i_s)), some (.ref 7), some (.int x4_s)], [], (h_s.1, f_s, h_s.2.2.1, h_s.2.2.2)) (gI K_s)
  | 0, _, _, _, _, _, _, _, _, _, _, _, _ => wF_zero
  | F_s + 1, j_s, fo, ka, f_s, x4_s, e4_s, hj, hfr, hb_s, hcv, hfl, hbd => by
    have b_s := hc_s.1
    have hB_s : oB o0_s := by
      rw [eo]
      exact tC_oB hc_s hi_s
    have b1 := hb_s.1.1
    have b2 := hb_s.1.2.1
    have z4 := azix (i := x4_s) (by omega)
    have ez4 : zix x4_s = j_s := by omega
    have fr_s : ∀ a_s k_s, ¬ a_s = 13 → ¬ a_s = 16 → ¬ a_s = 19 → ¬ (50 ≤ a_s ∧ a_s ≤ 58) → f_s a_s k_s = f0_s a_s k_s := fun a_s k_s q1_s q2_s q3_s q4_s => hfr a_s k_s q1_s q2_s q3_s (by omega) (by omega) (by omega) (by omega)
    refine sg_82_25 (h_s := (h_s.1, f_s, h_s.2.2.1, h_s.2.2.2)) hk ?_
    dsimp only
    rw [ez4, hb_s.1.2.2.1, e4_s]
    have nf_s : fo ≤ j_s → K_s (-2) (h_s.1, f_s, h_s.2.2.1, h_s.2.2.2) := fun w_s => by
      have ej : j_s = fo := by omega
      subst ej
      refine t0_s (fun y_s hy => ?_) f_s hfr
      obtain ⟨m_s, m1_s, m2_s, m3_s⟩ := cov_ (b_s := 341) hb_s.1.2.2.2 (by omega) (Nat.le_refl _) (fun k_s hk1 _ => hk1) hcv (y_s + 1) y_s (by omega) (by omega) hy
      rw [← m2_s]
      exact hfl m_s m1_s
    refine ⟨fun c1_s => ⟨fun c2_s => fun _ => ?_, fun c2_s => nf_s (by omega)⟩, fun c1_s => nf_s (by omega)⟩
    have hjf : j_s < fo := by omega
    obtain ⟨u1_s, u2_s, u3⟩ := hb_s.2.2.1 j_s hjf
    have cw0 := tC_cw hc_s hi_s
    have f20_s : ∀ k_s, f_s (20 + i_s) k_s = f0_s (20 + i_s) k_s := fun k_s => fr_s _ _ (by omega) (by omega) (by omega) (by omega)
    have h0 : f0_s (20 + i_s) 0 = o0_s 0 := by
      rw [eo]
      exact cw0.1 0 (by omega)
    have h4 : f0_s (20 + i_s) 4 = o0_s 4 := by
      rw [eo]
      exact cw0.1 4 (by omega)
    have fx : ∀ k_s, ¬ k_s = 1 → ¬ k_s = 2 → ¬ k_s = 3 → ¬ k_s = 5 → rnK o0_s (ka j_s) k_s = o0_s k_s := fun k_s q1_s q2_s q3_s q5_s => rnF_fx q1_s q2_s q3_s q5_s 4 (ka j_s)
    refine sp_87 (o := rnK o0_s (ka j_s)) hk (by omega) (rnF_B hB_s 4 (ka j_s)) u2_s (by rw [f20_s, h0, fx 0 (by omega) (by omega) (by omega) (by omega)]) (by rw [f20_s, h4, fx 4 (by omega) (by omega) (by omega) (by omega)]) (fun f1_s g1 g2 g3_s hk1 => ?_)
    have fr1 : ∀ a_s k_s, ¬ a_s = 13 → ¬ a_s = 16 → ¬ a_s = 19 → ¬ (50 ≤ a_s ∧ a_s ≤ 58) → f1_s a_s k_s = f0_s a_s k_s := fun a_s k_s q1_s q2_s q3_s q4_s => by
      rw [g3_s a_s k_s (by omega)]
      exact fr_s a_s k_s q1_s q2_s q3_s q4_s
    have hc1 : tC nh ni nr f1_s := tC_fr (fun a_s k_s w_s => fr1 a_s k_s (by unfold inC at w_s; omega) (by unfold inC at w_s; omega) (by unfold inC at w_s; omega) (by unfold inC at w_s; omega)) hc_s
    have l1 : lawC q_s f1_s lw := lawC_fr hm_s (fun a_s k_s w_s => fr1 a_s k_s (by omega) (by omega) (by omega) (by omega)) hl
    have cw1 : cwO f1_s 58 (rnK o0_s (ka j_s)) := by
      refine ⟨g1, ?_⟩
      rw [g2, f20_s, fx 6 (by omega) (by omega) (by omega) (by omega), fr1 7 6 (by omega) (by omega) (by omega) (by omega), fr1 8 _ (by omega) (by omega) (by omega) (by omega), eo]
      exact cw0.2
    have e51 : ∀ k_s, f1_s 51 k_s = f0_s 51 k_s := fun k_s => by
      rw [g3_s _ _ (by omega)]
      exact hfr _ _ (by omega) (by omega) (by omega) (by omega) (by omega) (by omega) (by omega)
    have e50 : f1_s 50 1 = f0_s 50 1 := by
      rw [g3_s _ _ (by omega)]
      exact hfr _ _ (by omega) (by omega) (by omega) (by omega) (by omega) (by omega) (by omega)
    refine sq_49 (h_s := (h_s.1, f1_s, h_s.2.2.1, h_s.2.2.2)) (f0_s := f1_s) (L_s := L_s) (c_s := c_s) (o := rnK o0_s (ka j_s)) hk1 hr9 hm_s l1 hp hc1 hL (by rw [e50]; exact eL) (fun k_s hkL => by rw [e51]; exact es k_s hkL) okc cw1 (rnF_B hB_s 4 (ka j_s)) (fun v_s f2_s ev_s _ _ _ fr3 _ => ?_)
    rw [goJ_fr (f_s := f0_s) (fun k_s => fr1 103 k_s (by omega) (by omega) (by omega) (by omega))] at ev_s
    have fr2 : frQ f0_s f2_s := fun a_s k_s q1_s q2_s q3_s q4_s q5_s q6_s q7_s => by
      rw [fr3 a_s k_s q1_s q2_s q3_s q5_s q7_s, g3_s a_s k_s q5_s]
      exact hfr a_s k_s q1_s q2_s q3_s q4_s q5_s q6_s q7_s
    have hb2 : BF o0_s f2_s ka fo := bf_fr (by rw [fr3 _ _ (by omega) (by omega) (by omega) (by omega) (by omega), g3_s _ _ (by omega)]) (fun a_s k_s w1_s w2_s => by rw [fr3 a_s k_s (by omega) (by omega) (by omega) (by omega) (by omega), g3_s a_s k_s (by omega)]) hb_s
    have e41_s : (x4_s + 1).toInt = ((j_s + 1 : Nat) : Int) := by
      rw [in1_ (by omega)]
      omega
    dsimp only
    rw [(hb2.2.2.1 j_s hjf).2.2]
    refine ⟨fun c5_s => ?_, fun c5_s => ?_⟩
    · have no_s : ¬ (jrn (goJ lw f0_s c_s) L_s 0 0 (rnK o0_s (ka j_s))).2.2.2 = true := fun w_s => by
        rw [if_pos w_s] at ev_s
        omega
      have hfl1 : FL (fun o => (jrn (goJ lw f0_s c_s) L_s 0 0 o).2.2.2 = true) o0_s ka (j_s + 1) := fun m_s hm1 => by
        by_cases e_s : m_s = j_s
        · rw [e_s]
          exact no_s
        · exact hfl m_s (by omega)
      refine ⟨fun c9_s => ?_, fun c9_s => ?_⟩
      · refine wF_le (Nat.le_succ F_s) (sg_83_0 (h_s := (h_s.1, f2_s, h_s.2.2.1, h_s.2.2.2)) hk ?_)
        refine (a2_all (ok_s := fun o => (jrn (goJ lw f0_s c_s) L_s 0 0 o).2.2.2 = true) hk (by omega) hB_s h0 h4 e4_s (fun f3_s ka3 fo3 v1_s v2 v3 v4_s v5 v6 _ => ?_) F_s) 0 fo ka f2_s 0 none rfl (by omega) hjf fr2 hb2 hcv (fun p_s w_s => absurd w_s (Nat.not_lt_zero p_s)) hfl1 (by omega) (fun k_s w_s => by have u_s := hbd k_s w_s hjf; omega)
        refine l82 hk hr9 hm_s hl hp hc_s hi_s eo hL eL es okc t1_s t0_s F_s (j_s + 1) fo3 ka3 f3_s (x4_s + 1) e41_s (by omega) v1_s v2 v3 v4_s (fun k_s w1_s w2_s => ?_)
        have u_s := v6 k_s w1_s
        have w_s := v2.2.1 j_s (j_s + 1) (by omega) w2_s
        omega
      · refine l82 hk hr9 hm_s hl hp hc_s hi_s eo hL eL es okc t1_s t0_s F_s (j_s + 1) fo ka f2_s (x4_s + 1) e41_s (by omega) fr2 hb2 (fun m_s hm1 hlm => ?_) hfl1 (fun k_s w1_s w2_s => ?_)
        · by_cases e_s : m_s = j_s
          · subst e_s
            omega
          · exact hcv m_s (by omega) hlm
        · have u_s := hbd k_s w1_s hjf
          have w_s := hb_s.2.1 j_s (j_s + 1) (by omega) w2_s
          omega
    · have yes_s : (jrn (goJ lw f0_s c_s) L_s 0 0 (rnK o0_s (ka j_s))).2.2.2 = true := by
        cases e_s : (jrn (goJ lw f0_s c_s) L_s 0 0 (rnK o0_s (ka j_s))).2.2.2 with
        | true => rfl
        | false =>
          rw [if_neg (by rw [e_s]; decide)] at ev_s
          exact absurd ev_s c5_s
      refine sp_85 (h_s := (h_s.1, f2_s, h_s.2.2.1, h_s.2.2.2)) hk hb2 e4_s hjf (fun v3 f3_s ev3 p1_s p2_s _ => ?_)
      refine t1_s (ka j_s) v3 f3_s ⟨u1_s, yes_s, fun y_s hy => ?_⟩ ev3 p1_s (fun a_s k_s q1_s q2_s q3_s q4_s q5_s q6_s q7_s => by rw [p2_s a_s k_s (by omega)]; exact fr2 a_s k_s q1_s q2_s q3_s q4_s q5_s q6_s q7_s)
      have j0 : 0 < j_s := by
        apply Classical.byContradiction
        intro w_s
        have e0_s : j_s = 0 := by omega
        rw [e0_s, hb_s.1.2.2.2] at hy
        omega
      obtain ⟨m_s, m1_s, m2_s, m3_s⟩ := cov_ (b_s := ka j_s) hb_s.1.2.2.2 j0 hj (fun k_s hk1 hk2 => by
        apply Classical.byContradiction
        intro w_s
        by_cases e_s : k_s = j_s
        · subst e_s
          omega
        · have u_s := hb_s.2.1 j_s k_s (by omega) hk1
          omega) hcv (y_s + 1) y_s (by omega) hy (by omega)
      show ¬ (jrn (goJ lw f0_s c_s) L_s 0 0 (rnK o0_s y_s)).2.2.2 = true
      rw [← m2_s]
      exact hfl m_s m1_s
theorem sp_82 {F_s : Nat} (hk : hKn h_s) (hr9 : h_s.2.2.2 7 9 = some q_s) (hm_s : q_s = 14 ∨ q_s = 17) (hl : lawC q_s f0_s lw) (hp : lwP lw) (hc_s : tC nh ni nr f0_s) (hi_s : i_s < ni) (eo : o0_s = owI f0_s i_s) (hL : L_s ≤ 20) (eL : (f0_s 50 1).toInt = (L_s : Int)) (es : ∀ k_s, k_s < L_s → f0_s 51 k_s = (c_s k_s).toInt32) (okc : ∀ k_s, k_s < L_s → okK nr (c_s k_s)) (t1_s : ∀ y_s v_s f1_s, isL (fun o => (jrn (goJ lw f0_s c_s) L_s 0 0 o).2.2.2 = true) o0_s y_s → v_s.toInt = (lnK y_s : Int) → (∀ k_s, k_s < lnK y_s → (f1_s 53 k_s).toInt = (deK (lnK y_s - 1 - k_s) y_s : Int)) → frQ f0_s f1_s → K_s v_s (h_s.1, f1_s, h_s.2.2.1, h_s.2.2.2)) (t0_s : (∀ y_s, y_s ≤ 340 → ¬ (jrn (goJ lw f0_s c_s) L_s 0 0 (rnK o0_s y_s)).2.2.2 = true) → ∀ f1_s, frQ f0_s f1_s → K_s (-2) (h_s.1, f1_s, h_s.2.2.1, h_s.2.2.2)) : wF F_s 82 (0, [some (.ref 52), some (.ref 50), some (.ref (20 + i_s)), some (.ref 7), none], [], (h_s.1, f0_s, h_s.2.2.1, h_s.2.2.2)) (gI K_s) := by
  have hB_s : oB o0_s := by
    rw [eo]
    exact tC_oB hc_s hi_s
  have cw0 := tC_cw hc_s hi_s
  rw [← eo] at cw0
  refine wF_le (Nat.le_succ F_s) (sg_82_0 (h_s := (h_s.1, f0_s, h_s.2.2.1, h_s.2.2.2)) hk ?_)
  refine sp_86 (h_s := (h_s.1, f0_s, h_s.2.2.1, h_s.2.2.2)) hk hB_s cw0.1 (fun v1_s ev1 _ => ?_)
  refine l82 hk hr9 hm_s hl hp hc_s hi_s eo hL eL es okc t1_s t0_s F_s 0 1 (fun _ => 0) _ 0 rfl (by omega) (fun a_s k_s q1_s q2_s q3_s q4_s q5_s q6_s q7_s => ?_) ⟨⟨by omega, by omega, ?_, rfl⟩, fun j_s k_s w1_s w2_s => absurd w1_s (by omega), fun k_s w_s => ?_, fun k_s w1_s w2_s => absurd w1_s (by omega)⟩ (fun j_s w_s => absurd w_s (Nat.not_lt_zero j_s)) (fun j_s w_s => absurd w_s (Nat.not_lt_zero j_s)) (fun k_s _ _ => by omega)
  · show zup (zup (zup f0_s 54 0 v1_s) 57 0 0) 52 6 1 a_s k_s = f0_s a_s k_s
    rw [zne_up (by omega), zne_up (by omega), zne_up (by omega)]
  · show (zup (zup (zup f0_s 54 0 v1_s) 57 0 0) 52 6 1 52 6).toInt = 1
    rw [zsame_up]
    rfl
  · have e0_s : k_s = 0 := by omega
    subst e0_s
    show 0 ≤ 340 ∧ (zup (zup (zup f0_s 54 0 v1_s) 57 0 0) 52 6 1 54 0).toInt = cdO (rnK o0_s 0) ∧ (zup (zup (zup f0_s 54 0 v1_s) 57 0 0) 52 6 1 57 0).toInt = 0
    rw [zne_up (by omega), zne_up (by omega), zsame_up, zne_up (by omega), zsame_up]
    exact ⟨by omega, ev1, rfl⟩
end SP
/-! STROKES FOR A JOURNEY: the reference's search; both. -/
noncomputable def loK : Nat → Nat → Nat
  | 0, x_s => x_s
  | d_s + 1, x_s => loK d_s (4 * x_s + 1)
theorem loK_n (d_s x_s : Nat) : loK (d_s + 1) (x_s + 1) = loK d_s (4 * x_s + 1 + 4) := by
  show loK d_s (4 * (x_s + 1) + 1) = _
  have e_s : 4 * (x_s + 1) + 1 = 4 * x_s + 1 + 4 := by omega
  rw [e_s]
noncomputable def frRs (f0_s f_s : Nat → Nat → Int32) : Prop := ∀ a_s k_s, ¬ a_s = 111 → ¬ a_s = 112 → ¬ a_s = 113 → ¬ (a_s = 102 ∧ (15 ≤ k_s ∧ k_s ≤ 19 ∨ 22 ≤ k_s ∧ k_s ≤ 25)) → f_s a_s k_s = f0_s a_s k_s
noncomputable def X190 (h_s : zH) (f0_s : Nat → Nat → Int32) (okr : Nat → Prop) (x1_s x2_s : Int32) (F_s : Nat) : Prop := ∀ (d_s k_s x_s : Nat) (f_s : Nat → Nat → Int32) (x3 x4_s : Int32) (K_s : Int32 → zH → Prop), x3.toInt = (k_s : Int) → x4_s.toInt = ((k_s + d_s : Nat) : Int) → k_s + d_s ≤ 4 → lnK x_s = k_s → x_s ≤ 340 → frRs f0_s f_s → (∀ j_s, j_s < k_s → (f_s 113 j_s).toInt = (deK (k_s - 1 - j_s) x_s : Int)) → (∀ v_s f1_s y_s, loK d_s x_s ≤ y_s → y_s < loK d_s (x_s + 1) → y_s ≤ 340 → okr y_s → (∀ z_s, loK d_s x_s ≤ z_s → z_s < y_s → ¬ okr z_s) → lnK y_s = k_s + d_s → (∀ j_s, j_s < k_s + d_s → (f1_s 113 j_s).toInt = (deK (k_s + d_s - 1 - j_s) y_s : Int)) → frRs f0_s f1_s → v_s = 1 → K_s v_s (h_s.1, f1_s, h_s.2.2.1, h_s.2.2.2)) → ((∀ z_s, loK d_s x_s ≤ z_s → z_s < loK d_s (x_s + 1) → ¬ okr z_s) → ∀ f1_s, frRs f0_s f1_s → (∀ j_s, j_s < k_s → f1_s 113 j_s = f_s 113 j_s) → K_s 0 (h_s.1, f1_s, h_s.2.2.1, h_s.2.2.2)) → wF F_s 190 (0, [some (.ref 102), some (.int x1_s), some (.int x2_s), some (.int x3), some (.int x4_s), none], [], (h_s.1, f_s, h_s.2.2.1, h_s.2.2.2)) (gI K_s)
noncomputable def X65 (h_s : zH) (f0_s : Nat → Nat → Int32) (okr : Nat → Prop) (x1_s x2_s : Int32) (F_s : Nat) : Prop := ∀ (d_s k_s x_s m_s : Nat) (g_s f_s : Nat → Nat → Int32) (x3 x4_s x5_s : Int32) (K_s : Int32 → zH → Prop), x3.toInt = (k_s : Int) → x4_s.toInt = ((k_s + (d_s + 1) : Nat) : Int) → k_s + (d_s + 1) ≤ 4 → lnK x_s = k_s → x_s ≤ 340 → frRs f0_s f_s → (∀ j_s, j_s < k_s → f_s 113 j_s = g_s 113 j_s) → (∀ j_s, j_s < k_s → (g_s 113 j_s).toInt = (deK (k_s - 1 - j_s) x_s : Int)) → x5_s.toInt = (m_s : Int) → m_s ≤ 4 → (∀ z_s, loK (d_s + 1) x_s ≤ z_s → z_s < loK d_s (4 * x_s + 1 + m_s) → ¬ okr z_s) → (∀ v_s f1_s y_s, loK (d_s + 1) x_s ≤ y_s → y_s < loK (d_s + 1) (x_s + 1) → y_s ≤ 340 → okr y_s → (∀ z_s, loK (d_s + 1) x_s ≤ z_s → z_s < y_s → ¬ okr z_s) → lnK y_s = k_s + (d_s + 1) → (∀ j_s, j_s < k_s + (d_s + 1) → (f1_s 113 j_s).toInt = (deK (k_s + (d_s + 1) - 1 - j_s) y_s : Int)) → frRs f0_s f1_s → v_s = 1 → K_s v_s (h_s.1, f1_s, h_s.2.2.1, h_s.2.2.2)) → ((∀ z_s, loK (d_s + 1) x_s ≤ z_s → z_s < loK (d_s + 1) (x_s + 1) → ¬ okr z_s) → ∀ f1_s, frRs f0_s f1_s → (∀ j_s, j_s < k_s → f1_s 113 j_s = g_s 113 j_s) → K_s 0 (h_s.1, f1_s, h_s.2.2.1, h_s.2.2.2)) → wF F_s 190 (65, [some (.ref 102), some (.int x1_s), some (.int x2_s), some (.int x3), some (.int x4_s), some (.int x5_s)], [], (h_s.1, f_s, h_s.2.2.1, h_s.2.2.2)) (gI K_s)
noncomputable def X14 (h_s : zH) (f0_s : Nat → Nat → Int32) (okr : Nat → Prop) (o0_s : oI) (x1_s x2_s : Int32) (F_s : Nat) : Prop := ∀ (n_s x_s j_s : Nat) (g_s f_s : Nat → Nat → Int32) (x3 x4_s x5_s : Int32) (K_s : Int32 → zH → Prop), x4_s.toInt = (n_s : Int) → lnK x_s = n_s → x_s ≤ 340 → x5_s.toInt = (j_s : Int) → j_s ≤ n_s → frRs f0_s f_s → (∀ a_s, f_s 113 a_s = g_s 113 a_s) → (∀ a_s, a_s < n_s → (g_s 113 a_s).toInt = (deK (n_s - 1 - a_s) x_s : Int)) → (∀ k_s, k_s < 7 → f_s 112 k_s = rnK o0_s (upK (n_s - j_s) x_s) k_s) → (okr x_s → ∀ f1_s, frRs f0_s f1_s → (∀ a_s, f1_s 113 a_s = g_s 113 a_s) → K_s 1 (h_s.1, f1_s, h_s.2.2.1, h_s.2.2.2)) → (¬ okr x_s → ∀ f1_s, frRs f0_s f1_s → (∀ a_s, f1_s 113 a_s = g_s 113 a_s) → K_s 0 (h_s.1, f1_s, h_s.2.2.1, h_s.2.2.2)) → wF F_s 190 (14, [some (.ref 102), some (.int x1_s), some (.int x2_s), some (.int x3), some (.int x4_s), some (.int x5_s)], [], (h_s.1, f_s, h_s.2.2.1, h_s.2.2.2)) (gI K_s)
section XR
variable {h_s : zH} {nh ni nr L_s i_s s_s : Nat} {lw : Option (List pB)} {x1_s x2_s : Int32} {f0_s : Nat → Nat → Int32} {o0_s : oI} {c_s : Nat → Int64} {okr : Nat → Prop}
theorem x14_s {F_s : Nat} (hk : hKn h_s) (hc_s : tM nh ni nr f0_s) (hl : lawR f0_s lw) (hp : lwP lw) (e1_s : x1_s.toInt = (s_s : Int)) (hs : s_s < 6) (n0_s : 0 ≤ (f0_s 125 s_s).toInt) (ec : ∀ k_s, c_s k_s = h_s.2.2.1 126 (60 * s_s + k_s)) (hJ : isJ nr c_s (f0_s 125 s_s).toInt L_s) (hB_s : oB o0_s) (hok : ∀ x_s, okr x_s ↔ (jrn (goJ lw f0_s c_s) L_s 0 0 (rnK o0_s x_s)).2.2.2 = true) (i1_s : X14 h_s f0_s okr o0_s x1_s x2_s F_s) : X14 h_s f0_s okr o0_s x1_s x2_s (F_s + 1) := fun n_s x_s j_s g_s f_s x3 x4_s x5_s K_s e4_s hn hx e5_s hj hf hg hd_s ho t1_s t0_s => by
  have l4 := lnK_le x_s
  have z5 := azix (i := x5_s) (by omega)
  have ez5 : zix x5_s = j_s := by omega
  have b_s := hc_s.1
  have hcf : tM nh ni nr f_s := tM_fr (fun k_s _ _ => hf _ _ (by omega) (by omega) (by omega) (by omega)) (fun k_s _ => hf _ _ (by omega) (by omega) (by omega) (by omega)) hc_s
  have hlf : lawR f_s lw := lawR_fr (hf _ _ (by omega) (by omega) (by omega) (by omega)) (fun k_s _ => hf _ _ (by omega) (by omega) (by omega) (by omega)) hl
  refine sg_190_14 (h_s := (h_s.1, f_s, h_s.2.2.1, h_s.2.2.2)) hk ?_
  try dsimp only
  rw [ez5, e4_s, e5_s]
  refine ⟨fun c1_s => fun _ => ?_, fun c1_s => ?_⟩
  · have hv : (f_s 113 j_s).toInt = (deK (n_s - 1 - j_s) x_s : Int) := by
      rw [hg]
      exact hd_s j_s (by omega)
    have dl : deK (n_s - 1 - j_s) x_s < 4 := by
      unfold deK
      omega
    have es : n_s - j_s = n_s - 1 - j_s + 1 := by omega
    refine sp_184 (h_s := (h_s.1, f_s, h_s.2.2.1, h_s.2.2.2)) hk (by omega) ho (rnF_B hB_s 4 _) (fun v_s f1_s p1_s p2_s _ => ?_)
    refine i1_s n_s x_s (j_s + 1) g_s f1_s x3 x4_s (x5_s + 1) K_s e4_s hn hx (by rw [in1_ (by omega)]; omega) (by omega) (fun a_s k_s q1_s q2_s q3_s q4_s => by rw [p2_s a_s k_s q2_s]; exact hf a_s k_s q1_s q2_s q3_s q4_s) (fun a_s => by rw [p2_s _ _ (by omega)]; exact hg a_s) hd_s (fun k_s hk7 => ?_) t1_s t0_s
    have ul_s := upK_l (n_s - 1 - j_s) x_s hx (by omega)
    have e2_s : n_s - (j_s + 1) = n_s - 1 - j_s := by omega
    rw [p1_s k_s hk7, hv, e2_s, rnK_s (x_s := upK (n_s - 1 - j_s) x_s) (lnK_1 (by omega)) ul_s.1, es]
    rfl
  · have ej : j_s = n_s := by omega
    subst ej
    rw [Nat.sub_self] at ho
    have ho : ∀ k_s, k_s < 7 → f_s 112 k_s = rnK o0_s x_s k_s := ho
    have e125_s : ∀ k_s, f_s 125 k_s = f0_s 125 k_s := fun k_s => hf _ _ (by omega) (by omega) (by omega) (by omega)
    refine sp_188 (h_s := (h_s.1, f_s, h_s.2.2.1, h_s.2.2.2)) (f0_s := f_s) (s_s := s_s) (L_s := L_s) (c_s := c_s) (o := rnK o0_s x_s) hk hcf hlf hp e1_s hs (by rw [e125_s]; exact n0_s) ec (by rw [e125_s]; exact hJ) ho (rnF_B hB_s 4 x_s) (fun f2_s p1_s p2_s p3_s g3_s hk2 => ?_)
    rw [goJ_fr (f_s := f0_s) (fun k_s => hf 103 k_s (by omega) (by omega) (by omega) (by omega))] at p2_s
    have jall := jr_all (go_s := goJ lw f0_s c_s) L_s 0 0 (rnK o0_s x_s)
    have hx2 := hok x_s
    generalize jrn (goJ lw f0_s c_s) L_s 0 0 (rnK o0_s x_s) = R_s at p2_s jall hx2
    have z1 := azix (i := x1_s) (by omega)
    have ez1 : zix x1_s = s_s := by omega
    have c8_s : (f2_s 102 8).toInt = (nr : Int) := by
      rw [g3_s 102 8 (by omega) (by omega) (by omega)]
      exact hcf.2.1.2.2
    have e2_s : f2_s 125 s_s = f0_s 125 s_s := by
      rw [g3_s _ _ (by omega) (by omega) (by omega)]
      exact e125_s s_s
    have fr2 : frRs f0_s f2_s := fun a_s k_s q1_s q2_s q3_s q4_s => by
      rw [g3_s a_s k_s q1_s q2_s (by omega)]
      exact hf a_s k_s q1_s q2_s q3_s q4_s
    have g2 : ∀ a_s, f2_s 113 a_s = g_s 113 a_s := fun a_s => by
      rw [g3_s _ _ (by omega) (by omega) (by omega)]
      exact hg a_s
    refine sp_187 (h_s := (h_s.1, f2_s, h_s.2.2.1, h_s.2.2.2)) (nr := nr) hk2 c8_s (by omega) (by omega) (by show 0 ≤ (f2_s 125 (zix x1_s)).toInt; rw [ez1, e2_s]; exact n0_s) (fun v_s L1 ev_s hj1 hk5 => ?_)
    have hj1 : isJ nr (fun k_s => h_s.2.2.1 126 (60 * zix x1_s + k_s)) (f2_s 125 (zix x1_s)).toInt L1 := hj1
    rw [ez1, e2_s] at hj1
    have el : L1 = L_s := isJ_u hj1 (isJ_c (fun k_s _ => (ec k_s).symm) hJ)
    subst el
    dsimp only
    rw [p2_s, ev_s]
    refine ⟨fun w_s => t1_s (hx2.mpr ?_) f2_s fr2 g2, fun w_s => t0_s (fun u_s => ?_) f2_s fr2 g2⟩
    · cases e_s : R_s.2.2.2 with
      | true => rfl
      | false =>
        have := jall.2 (by rw [e_s]; decide)
        omega
    · have := jall.1 (hx2.mp u_s)
      omega
theorem x65_s {F_s : Nat} (hk : hKn h_s) (i1_s : X190 h_s f0_s okr x1_s x2_s F_s) (i6_s : X65 h_s f0_s okr x1_s x2_s F_s) : X65 h_s f0_s okr x1_s x2_s (F_s + 1) := fun d_s k_s x_s m_s g_s f_s x3 x4_s x5_s K_s e3_s e4_s hb_s hn hx hf hg hd_s e5_s hm_s hz t1_s t0_s => by
  have z3 := azix (i := x3) (by omega)
  have ez3 : zix x3 = k_s := by omega
  have x84 : x_s ≤ 84 := lnK_84 (by omega)
  refine sg_190_65 (h_s := (h_s.1, f_s, h_s.2.2.1, h_s.2.2.2)) hk ?_
  try dsimp only
  rw [ez3, e5_s]
  refine ⟨fun c1_s => fun _ => ?_, fun c1_s => ?_⟩
  · have hm4 : m_s < 4 := by omega
    have ek : 4 * x_s + 1 + m_s = 4 * x_s + m_s + 1 := by omega
    have lns := lnK_s x84 hm4
    have pk_s : paK (4 * x_s + 1 + m_s) = x_s := by
      unfold paK
      omega
    have e51 : (x5_s + 1).toInt = ((m_s + 1 : Nat) : Int) := by
      rw [in1_ (by omega)]
      omega
    refine i1_s d_s (k_s + 1) (4 * x_s + 1 + m_s) _ (x3 + 1) x4_s _ (by rw [in1_ (by omega)]; omega) (by rw [e4_s]; omega) (by omega) (by rw [ek, lns]; omega) (by omega) (fun a_s j_s q1_s q2_s q3_s q4_s => by rw [zne_up (by omega)]; exact hf a_s j_s q1_s q2_s q3_s q4_s) (fun j_s hj => ?_) (fun v_s f1_s y_s y1 y2 y3 y4 y5 y6 y7 y8 y9 _ => ?_) (fun w_s f1_s y1 y2 _ => ?_)
    · by_cases ej : j_s = k_s
      · rw [ej, zsame_up, e5_s]
        have s0_s : k_s + 1 - 1 - k_s = 0 := by omega
        rw [s0_s]
        show (m_s : Int) = (((4 * x_s + 1 + m_s - 1) % 4 : Nat) : Int)
        omega
      · rw [zne_up (by omega), hg j_s (by omega), hd_s j_s (by omega)]
        have s1_s : k_s + 1 - 1 - j_s = k_s - 1 - j_s + 1 := by omega
        rw [s1_s, deK_p, pk_s]
    · subst y9
      refine ⟨fun c_s => absurd c_s (by decide), fun _ => ?_⟩
      have lo1 : loK (d_s + 1) x_s ≤ loK d_s (4 * x_s + 1 + m_s) ∨ ∀ z_s, loK (d_s + 1) x_s ≤ z_s → ¬ z_s < loK d_s (4 * x_s + 1 + m_s) := by
        by_cases w_s : loK (d_s + 1) x_s ≤ loK d_s (4 * x_s + 1 + m_s)
        · exact Or.inl w_s
        · exact Or.inr (fun z_s w1_s => by omega)
      have mono_s : ∀ (d_s a_s c_s : Nat), a_s ≤ c_s → loK d_s a_s ≤ loK d_s c_s := fun d_s => by
        induction d_s with
        | zero => exact fun a_s c_s w_s => w_s
        | succ d_s ih_s => exact fun a_s c_s w_s => ih_s (4 * a_s + 1) (4 * c_s + 1) (by omega)
      have m1_s : loK (d_s + 1) x_s ≤ loK d_s (4 * x_s + 1 + m_s) := mono_s d_s (4 * x_s + 1) (4 * x_s + 1 + m_s) (by omega)
      have m2_s : loK d_s (4 * x_s + 1 + m_s + 1) ≤ loK (d_s + 1) (x_s + 1) := by
        rw [loK_n]
        exact mono_s d_s _ _ (by omega)
      refine t1_s 1 f1_s y_s (by omega) (by omega) y3 y4 (fun z_s z1 z2 => ?_) (by omega) (fun j_s hj => ?_) y8 rfl
      · by_cases w_s : z_s < loK d_s (4 * x_s + 1 + m_s)
        · exact hz z_s z1 w_s
        · exact y5 z_s (by omega) z2
      · have u_s := y7 j_s (by omega)
        have s1_s : k_s + 1 + d_s - 1 - j_s = k_s + (d_s + 1) - 1 - j_s := by omega
        rw [s1_s] at u_s
        exact u_s
    · refine ⟨fun _ => ?_, fun c_s => absurd rfl c_s⟩
      refine i6_s d_s k_s x_s (m_s + 1) g_s f1_s x3 x4_s (x5_s + 1) K_s e3_s e4_s hb_s hn hx y1 (fun j_s hj => ?_) hd_s e51 (by omega) (fun z_s z1 z2 => ?_) t1_s t0_s
      · rw [y2 j_s (by omega), zne_up (by omega)]
        exact hg j_s hj
      · by_cases u_s : z_s < loK d_s (4 * x_s + 1 + m_s)
        · exact hz z_s z1 u_s
        · exact w_s z_s (by omega) z2
  · have em : m_s = 4 := by omega
    subst em
    refine t0_s (fun z_s z1 z2 => hz z_s z1 ?_) f_s hf hg
    rw [loK_n] at z2
    exact z2
theorem x190_s {F_s : Nat} (hk : hKn h_s) (hc_s : tM nh ni nr f0_s) (e2_s : x2_s.toInt = (i_s : Int)) (hi_s : i_s < ni) (eo : o0_s = owI f0_s i_s) (i1_s : X14 h_s f0_s okr o0_s x1_s x2_s F_s) (i6_s : X65 h_s f0_s okr x1_s x2_s F_s) : X190 h_s f0_s okr x1_s x2_s (F_s + 1) := fun d_s k_s x_s f_s x3 x4_s K_s e3_s e4_s hb_s hn hx hf hd_s t1_s t0_s => by
  have b_s := hc_s.1
  refine sg_190_0 (h_s := (h_s.1, f_s, h_s.2.2.1, h_s.2.2.2)) hk ?_
  try dsimp only
  rw [e3_s, e4_s]
  match d_s, e4_s, hb_s, t1_s, t0_s with
  | 0, e4_s, hb_s, t1_s, t0_s =>
    refine ⟨fun _ => ?_, fun c1_s => absurd rfl (by omega)⟩
    have e103_s : ∀ k_s, f_s 103 k_s = f0_s 103 k_s := fun k_s => hf _ _ (by omega) (by omega) (by omega) (by omega)
    refine sp_178 (h_s := (h_s.1, f_s, h_s.2.2.1, h_s.2.2.2)) hk e2_s (by omega) (by rw [e103_s]; exact (tM_hd hc_s hi_s).1) (fun f1_s g1 g2 _ => ?_)
    rw [owI_fr (f_s := f0_s) e103_s, ← eo] at g1
    have u0 := upK_n hx
    rw [hn] at u0
    refine i1_s k_s x_s 0 f_s f1_s x3 x4_s 0 K_s (by rw [e4_s]; omega) hn hx rfl (Nat.zero_le k_s) (fun a_s j_s q1_s q2_s q3_s q4_s => by rw [g2 a_s j_s q2_s]; exact hf a_s j_s q1_s q2_s q3_s q4_s) (fun a_s => g2 _ _ (by omega)) hd_s (fun j_s hj => ?_) (fun ok_s f2_s p1_s p2_s => ?_) (fun no_s f2_s p1_s p2_s => ?_)
    · rw [g1 j_s hj, Nat.sub_zero, u0]
      rfl
    · exact t1_s 1 f2_s x_s (Nat.le_refl _) (Nat.lt_succ_self _) hx ok_s (fun z_s z1 z2 => absurd z1 (by show ¬ x_s ≤ z_s; omega)) (by omega) (fun j_s hj => by rw [p2_s]; exact hd_s j_s hj) p1_s rfl
    · refine t0_s (fun z_s z1 z2 => ?_) f2_s p1_s (fun j_s _ => p2_s j_s)
      have z1 : x_s ≤ z_s := z1
      have z2 : z_s < x_s + 1 := z2
      have ez : z_s = x_s := by omega
      rw [ez]
      exact no_s
  | d_s + 1, e4_s, hb_s, t1_s, t0_s =>
    refine ⟨fun c1_s => absurd c1_s (by omega), fun _ => ?_⟩
    refine i6_s d_s k_s x_s 0 f_s f_s x3 x4_s 0 K_s e3_s e4_s hb_s hn hx hf (fun _ _ => rfl) hd_s rfl (by omega) (fun z_s z1 z2 => ?_) t1_s t0_s
    have z1 : loK d_s (4 * x_s + 1) ≤ z_s := z1
    have z2 : z_s < loK d_s (4 * x_s + 1) := z2
    omega
theorem x_all (hk : hKn h_s) (hc_s : tM nh ni nr f0_s) (hl : lawR f0_s lw) (hp : lwP lw) (e1_s : x1_s.toInt = (s_s : Int)) (hs : s_s < 6) (n0_s : 0 ≤ (f0_s 125 s_s).toInt) (ec : ∀ k_s, c_s k_s = h_s.2.2.1 126 (60 * s_s + k_s)) (hJ : isJ nr c_s (f0_s 125 s_s).toInt L_s) (e2_s : x2_s.toInt = (i_s : Int)) (hi_s : i_s < ni) (eo : o0_s = owI f0_s i_s) (hok : ∀ x_s, okr x_s ↔ (jrn (goJ lw f0_s c_s) L_s 0 0 (rnK o0_s x_s)).2.2.2 = true) : ∀ F_s, X190 h_s f0_s okr x1_s x2_s F_s ∧ X65 h_s f0_s okr x1_s x2_s F_s ∧ X14 h_s f0_s okr o0_s x1_s x2_s F_s
  | 0 => ⟨fun _ _ _ _ _ _ _ _ _ _ _ _ _ _ _ _ => wF_zero, fun _ _ _ _ _ _ _ _ _ _ _ _ _ _ _ _ _ _ _ _ _ _ _ => wF_zero, fun _ _ _ _ _ _ _ _ _ _ _ _ _ _ _ _ _ _ _ _ => wF_zero⟩
  | F_s + 1 => by
    obtain ⟨i1_s, i6_s, i4_s⟩ := x_all hk hc_s hl hp e1_s hs n0_s ec hJ e2_s hi_s eo hok F_s
    have hB_s : oB o0_s := by
      rw [eo]
      exact tM_oB hc_s hi_s
    exact ⟨x190_s hk hc_s e2_s hi_s eo i4_s i6_s, x65_s hk i1_s i6_s, x14_s hk hc_s hl hp e1_s hs n0_s ec hJ hB_s hok i4_s⟩
noncomputable def skA (w_s : Int) (y_s : Nat) : Int := if w_s < 0 then (lnK y_s : Int) else if w_s < (lnK y_s : Int) then (deK (lnK y_s - 1 - w_s.toNat) y_s : Int) else -2
theorem l191 {P_s : Int32 → Prop} {x3 : Int32} (hk : hKn h_s) (U_s : ∀ F_s, X190 h_s f0_s okr x1_s x2_s F_s) (t1_s : ∀ y_s v_s, (y_s ≤ 340 ∧ okr y_s ∧ ∀ z_s, z_s < y_s → ¬ okr z_s) → v_s.toInt = skA x3.toInt y_s → P_s v_s) (t0_s : (∀ z_s, z_s ≤ 340 → ¬ okr z_s) → P_s (-2)) : ∀ (F_s n_s : Nat) (x4_s : Int32) (f_s : Nat → Nat → Int32), x4_s.toInt = (n_s : Int) → n_s ≤ 5 → frRs f0_s f_s → (∀ z_s, z_s < loK n_s 0 → ¬ okr z_s) → wF F_s 191 (42, [some (.ref 102), some (.int x1_s), some (.int x2_s), some (.int x3), some (.int x4_s)], [], (h_s.1, f_s, h_s.2.2.1, h_s.2.2.2)) (gI (fun v_s _ => P_s v_s))
  | 0, _, _, _, _, _, _, _ => wF_zero
  | F_s + 1, n_s, x4_s, f_s, e4_s, hn, hf, hz => by
    refine sg_191_42 (h_s := (h_s.1, f_s, h_s.2.2.1, h_s.2.2.2)) hk ?_
    rw [e4_s]
    refine ⟨fun c1_s => t0_s (fun z_s z1 => hz z_s ?_), fun c1_s => ?_⟩
    · have en : n_s = 5 := by omega
      rw [en]
      have e5_s : loK 5 0 = 341 := rfl
      omega
    · refine U_s F_s n_s 0 0 f_s 0 x4_s _ rfl (by rw [e4_s]; omega) (by omega) rfl (by omega) hf (fun j_s hj => absurd hj (Nat.not_lt_zero j_s)) (fun v_s f1_s y_s y1 y2 y3 y4 y5 y6 y7 y8 y9 _ => ?_) (fun w_s f1_s y1 _ _ => ?_)
      · subst y9
        refine ⟨fun c_s => absurd c_s (by decide), fun _ => ?_⟩
        have il : y_s ≤ 340 ∧ okr y_s ∧ ∀ z_s, z_s < y_s → ¬ okr z_s := ⟨y3, y4, fun z_s z1 => by
          by_cases u_s : z_s < loK n_s 0
          · exact hz z_s u_s
          · exact y5 z_s (by omega) z1⟩
        have ly : lnK y_s = n_s := by omega
        refine ⟨fun c2_s => t1_s y_s x4_s il ?_, fun c2_s => ⟨fun c3_s => fun _ => t1_s y_s _ il ?_, fun c3_s => t1_s y_s (-2) il ?_⟩⟩
        · unfold skA
          rw [if_pos c2_s, ly]
          exact e4_s
        · have z3 := azix (i := x3) (by omega)
          have u_s := y7 (zix x3) (by omega)
          unfold skA
          rw [if_neg c2_s, if_pos (by omega), ly]
          have s1_s : 0 + n_s - 1 - zix x3 = n_s - 1 - x3.toInt.toNat := by omega
          rw [s1_s] at u_s
          exact u_s
        · unfold skA
          rw [if_neg c2_s, if_neg (by omega)]
          rfl
      · refine ⟨fun _ => ?_, fun c_s => absurd rfl c_s⟩
        refine l191 hk U_s t1_s t0_s F_s (n_s + 1) (x4_s + 1) f1_s (by rw [in1_ (by omega)]; omega) (by omega) y1 (fun z_s z1 => ?_)
        have z1 : z_s < loK n_s 1 := z1
        by_cases u_s : z_s < loK n_s 0
        · exact hz z_s u_s
        · exact w_s z_s (by omega) z1
end XR
noncomputable def okSt (ni : Nat) (x1_s x2_s x3 : Int32) : Prop := (0 ≤ x1_s.toInt ∧ x1_s.toInt ≤ 5) ∧ (0 ≤ x2_s.toInt ∧ x2_s.toInt < (ni : Int)) ∧ -1 ≤ x3.toInt
section PS_s
variable {h_s : zH} {P_s : Int32 → Prop} {nh ni nr q_s L_s : Nat} {lw : Option (List pB)} {x1_s x2_s x3 : Int32} {f0_s : Nat → Nat → Int32}
theorem sp_191 {F_s : Nat} (hk : hKn h_s) (hc_s : tM nh ni nr f0_s) (hl : lawR f0_s lw) (hp : lwP lw) (n0_s : okSt ni x1_s x2_s x3 → rfB f0_s (zix x1_s) = 0 → 0 ≤ (f0_s 125 (zix x1_s)).toInt) (hJ : okSt ni x1_s x2_s x3 → rfB f0_s (zix x1_s) = 0 → isJ nr (fun k_s => h_s.2.2.1 126 (60 * zix x1_s + k_s)) (f0_s 125 (zix x1_s)).toInt L_s) (t1_s : ¬ okSt ni x1_s x2_s x3 → P_s (-1)) (t2_s : okSt ni x1_s x2_s x3 → ¬ rfB f0_s (zix x1_s) = 0 → ∀ v_s : Int32, v_s.toInt = rfB f0_s (zix x1_s) → P_s v_s) (t3_s : okSt ni x1_s x2_s x3 → rfB f0_s (zix x1_s) = 0 → ∀ y_s v_s, isL (fun o => (jrn (goJ lw f0_s (fun k_s => h_s.2.2.1 126 (60 * zix x1_s + k_s))) L_s 0 0 o).2.2.2 = true) (owI f0_s x2_s.toInt.toNat) y_s → v_s.toInt = skA x3.toInt y_s → P_s v_s) (t4_s : okSt ni x1_s x2_s x3 → rfB f0_s (zix x1_s) = 0 → (∀ y_s, y_s ≤ 340 → ¬ (jrn (goJ lw f0_s (fun k_s => h_s.2.2.1 126 (60 * zix x1_s + k_s))) L_s 0 0 (rnK (owI f0_s x2_s.toInt.toNat) y_s)).2.2.2 = true) → P_s (-2)) : wF F_s 191 (0, [some (.ref 102), some (.int x1_s), some (.int x2_s), some (.int x3), none], [], (h_s.1, f0_s, h_s.2.2.1, h_s.2.2.2)) (gI (fun v_s _ => P_s v_s)) := by
  have b_s := hc_s.1
  have e27_s := sb1 hc_s.2.1.2.1
  have b11 : (-11 : Int32).toInt = -11 := rfl
  have b12 : (-12 : Int32).toInt = -12 := rfl
  have no_s : ¬ okSt ni x1_s x2_s x3 → P_s (-1) := t1_s
  unfold okSt at no_s
  have ya : (0 ≤ x1_s.toInt ∧ x1_s.toInt ≤ 5) ∧ (0 ≤ x2_s.toInt ∧ x2_s.toInt < (ni : Int)) ∧ -1 ≤ x3.toInt → okSt ni x1_s x2_s x3 := fun u_s => u_s
  refine wF_le (Nat.le_succ F_s) (sg_191_0 (h_s := (h_s.1, f0_s, h_s.2.2.1, h_s.2.2.2)) hk ?_)
  try dsimp only
  rw [e27_s]
  refine ⟨fun c1_s => no_s (by omega), fun c1_s => ⟨fun c2_s => no_s (by omega), fun c2_s => fun c3_s => ⟨fun c4_s => ⟨fun c5_s => no_s (by omega), fun c5_s => ⟨fun c6_s => no_s (by omega), fun c6_s => ⟨fun c7_s => no_s (by omega), fun c7_s => ?_⟩⟩⟩, fun c4_s => ⟨fun c17 => ⟨fun c18_s => no_s (by omega), fun c18_s => ⟨fun c19_s => no_s (by omega), fun c19_s => ⟨fun c20_s => no_s (by omega), fun c20_s => ?_⟩⟩⟩, fun c17 => ⟨fun c27_s => no_s (by omega), fun c27_s => ⟨fun c28_s => no_s (by omega), fun c28_s => ⟨fun c29_s => no_s (by omega), fun c29_s => ?_⟩⟩⟩⟩⟩⟩⟩
  · have e_s : rfB f0_s (zix x1_s) = -11 := if_pos c4_s
    exact t2_s (ya ⟨by omega, by omega, by omega⟩) (by omega) _ (by omega)
  · have e_s : rfB f0_s (zix x1_s) = 0 := (if_neg c4_s).trans (if_pos c17)
    have oA := ya ⟨by omega, by omega, by omega⟩
    have z1 := azix (i := x1_s) (by omega)
    have ei : x2_s.toInt = (x2_s.toInt.toNat : Int) := by omega
    have hi_s : x2_s.toInt.toNat < ni := by omega
    refine l191 (f0_s := f0_s) (okr := fun y_s => (jrn (goJ lw f0_s (fun k_s => h_s.2.2.1 126 (60 * zix x1_s + k_s))) L_s 0 0 (rnK (owI f0_s x2_s.toInt.toNat) y_s)).2.2.2 = true) hk (fun F_s => (x_all (s_s := zix x1_s) (i_s := x2_s.toInt.toNat) (L_s := L_s) (c_s := fun k_s => h_s.2.2.1 126 (60 * zix x1_s + k_s)) (o0_s := owI f0_s x2_s.toInt.toNat) hk hc_s hl hp z1.symm c3_s (n0_s oA e_s) (fun _ => rfl) (hJ oA e_s) ei hi_s rfl (fun _ => Iff.rfl) F_s).1) (fun y_s v_s il ev_s => t3_s oA e_s y_s v_s il ev_s) (fun w_s => t4_s oA e_s w_s) F_s 0 0 f0_s rfl (by omega) (fun _ _ _ _ _ _ => rfl) (fun z_s z1 => absurd z1 (Nat.not_lt_zero z_s))
  · have e_s : rfB f0_s (zix x1_s) = -12 := (if_neg c4_s).trans (if_neg c17)
    exact t2_s (ya ⟨by omega, by omega, by omega⟩) (by omega) _ (by omega)
theorem pr_strokes {F_s : Nat} (hk : hKn h_s) (hs : tS h_s) (hx : tX h_s) : wF F_s 104 (0, [some (.ref 6), some (.int x1_s), some (.int x2_s), some (.int x3), none, none], [], h_s) (gI (fun v_s h1 => wF F_s 191 (0, [some (.ref 102), some (.int x1_s), some (.int x2_s), some (.int x3), none], [], h1) (gI (fun v2 _ => v_s = v2)))) := by
  obtain ⟨nh, ni, nr, hc_s, _, _, _, _, hl⟩ := hx
  obtain ⟨q_s, q2_s, lw, l1, l2, l3, l4, l5⟩ := hl
  have hm_s : q_s = 14 ∨ q_s = 17 := by omega
  have m0_s := tC_M hc_s
  have b_s := hc_s.1
  have e77 := hc_s.2.1.2.1
  have e78 := hc_s.2.1.2.2
  have rf1 : ¬ okSt ni x1_s x2_s x3 → wF F_s 191 (0, [some (.ref 102), some (.int x1_s), some (.int x2_s), some (.int x3), none], [], h_s) (gI (fun v2 _ => (-1 : Int32) = v2)) := fun w_s => sp_191 (f0_s := h_s.2.1) (L_s := 0) (P_s := fun v2 => (-1 : Int32) = v2) hk m0_s l5 (lawR_P l5) (fun o => absurd o w_s) (fun o => absurd o w_s) (fun _ => rfl) (fun o => absurd o w_s) (fun o => absurd o w_s) (fun o => absurd o w_s)
  have no_s : ¬ okSt ni x1_s x2_s x3 → wF F_s 191 (0, [some (.ref 102), some (.int x1_s), some (.int x2_s), some (.int x3), none], [], h_s) (gI (fun v2 _ => (-1 : Int32) = v2)) := rf1
  unfold okSt at no_s
  refine wF_le (Nat.le_succ F_s) (sg_104_0 (h_s := h_s) hk ?_)
  rw [e77]
  refine ⟨fun c1_s => no_s (by omega), fun c1_s => ⟨fun c2_s => ⟨fun c3_s => no_s (by omega), fun c3_s => ⟨fun c4_s => ⟨fun c5_s => no_s (by omega), fun c5_s => fun c6_s => ?_⟩, fun c4_s => no_s (by omega)⟩⟩, fun c2_s => no_s (by omega)⟩⟩
  have oA : okSt ni x1_s x2_s x3 := by
    unfold okSt
    omega
  have z1 := azix (i := x1_s) (by omega)
  have ts1 := (hs.1 (zix x1_s) c6_s).1
  have g1 := (hs.1 (zix x1_s) c6_s).2
  refine sp_140 hk c6_s ts1 (fun v8 e8 _ => ⟨fun c8_s => ?_, fun c8_s => ?_⟩)
  · have r0 : rfB h_s.2.1 (zix x1_s) = 0 := by omega
    obtain ⟨a1_s, a2, a3⟩ := row_of ts1 r0
    generalize hs1 : zix x1_s = s1_s at *
    refine sp_48 (f0_s := h_s.2.1) (nr := nr) hk c6_s e78 a2 (fun L_s f1_s hJ eL es fr1 hk1 => fun c10_s => ?_)
    have hi_s : x2_s.toInt.toNat < ni := by omega
    have ei : x2_s.toInt = (x2_s.toInt.toNat : Int) := by omega
    have z2 := azix (i := x2_s) (by omega)
    have ez2 : zix x2_s = x2_s.toInt.toNat := by omega
    rw [ez2]
    have hJ2 : isJ nr (fun k_s => h_s.2.2.1 126 (60 * s1_s + k_s)) (h_s.2.1 125 s1_s).toInt L_s := by
      rw [a1_s]
      exact isJ_c (fun k_s hk60 => (g1 k_s hk60).symm) hJ
    have hc1 : tC nh ni nr f1_s := tC_fr (fun a_s k_s w_s => fr1 a_s k_s (by unfold inC at w_s; omega) (by unfold inC at w_s; omega)) hc_s
    have lc1 : lawC q_s f1_s lw := lawC_fr hm_s (fun a_s k_s w_s => fr1 a_s k_s (by omega) (by omega)) l4
    have fin_s : ∀ f2_s : Nat → Nat → Int32, frQ f1_s f2_s → ∀ v_s : Int32, (∀ y_s, isL (fun o => (jrn (goJ lw h_s.2.1 (fun k_s => h_s.2.2.1 126 (60 * s1_s + k_s))) L_s 0 0 o).2.2.2 = true) (owI h_s.2.1 x2_s.toInt.toNat) y_s → v_s.toInt = skA x3.toInt y_s) → ((∀ y_s, y_s ≤ 340 → ¬ (jrn (goJ lw h_s.2.1 (fun k_s => h_s.2.2.1 126 (60 * s1_s + k_s))) L_s 0 0 (rnK (owI h_s.2.1 x2_s.toInt.toNat) y_s)).2.2.2 = true) → v_s = -2) → wF F_s 191 (0, [some (.ref 102), some (.int x1_s), some (.int x2_s), some (.int x3), none], [], (h_s.1, f2_s, h_s.2.2.1, h_s.2.2.2)) (gI (fun v2 _ => v_s = v2)) := fun f2_s gq v_s v1_s v0_s => by
      have fr4 : ∀ a_s k_s, 100 ≤ a_s → f2_s a_s k_s = h_s.2.1 a_s k_s := fun a_s k_s ha_s => by
        rw [gq a_s k_s (by omega) (by omega) (by omega) (by omega) (by omega) (by omega) (by omega)]
        exact fr1 a_s k_s (by omega) (by omega)
      have m3_s : tM nh ni nr f2_s := tM_fr (fun k_s _ _ => fr4 _ _ (by omega)) (fun k_s _ => fr4 _ _ (by omega)) m0_s
      have lr3 : lawR f2_s lw := lawR_fr (fr4 _ _ (by omega)) (fun k_s _ => fr4 _ _ (by omega)) l5
      have rfe : rfB f2_s s1_s = rfB h_s.2.1 s1_s := by
        unfold rfB
        rw [fr4 124 _ (by omega)]
      have e5_s : f2_s 125 s1_s = h_s.2.1 125 s1_s := fr4 125 _ (by omega)
      have eg : goJ lw f2_s (fun k_s => h_s.2.2.1 126 (60 * s1_s + k_s)) = goJ lw h_s.2.1 (fun k_s => h_s.2.2.1 126 (60 * s1_s + k_s)) := goJ_fr (fun k_s => fr4 103 k_s (by omega))
      have ew : owI f2_s x2_s.toInt.toNat = owI h_s.2.1 x2_s.toInt.toNat := owI_fr (fun k_s => fr4 103 k_s (by omega))
      refine sp_191 (f0_s := f2_s) (L_s := L_s) (P_s := fun v2 => v_s = v2) hk m3_s lr3 (lawR_P l5) (fun _ _ => ?_) (fun _ _ => ?_) (fun w_s => absurd oA w_s) (fun _ nz => absurd ?_ nz) (fun _ _ y_s v2 il ev2 => ?_) (fun _ _ w_s => ?_)
      · rw [hs1, e5_s, a1_s]
        exact a2
      · rw [hs1, e5_s]
        exact hJ2
      · rw [hs1, rfe]
        exact r0
      · rw [hs1, eg, ew] at il
        exact Int32.toInt_inj.mp ((v1_s y_s il).trans ev2.symm)
      · rw [hs1, eg, ew] at w_s
        exact v0_s w_s
    refine sp_82 (h_s := (h_s.1, f1_s, h_s.2.2.1, h_s.2.2.2)) (f0_s := f1_s) (L_s := L_s) (c_s := fun k_s => h_s.2.2.1 126 (60 * s1_s + k_s)) (o0_s := owI f1_s x2_s.toInt.toNat) hk l1 hm_s lc1 (lawR_P l5) hc1 hi_s rfl hJ.1 eL (fun k_s hkL => ?_) hJ2.2.2.1 (fun y_s v_s f2_s il ev_s p1_s gq _ => ?_) (fun w_s f2_s gq _ => ?_)
    · rw [es k_s hkL]
      have := hJ.1
      rw [g1 k_s (by omega)]
    · rw [goJ_fr (f_s := h_s.2.1) (fun k_s => fr1 103 k_s (by omega) (by omega)), owI_fr (f_s := h_s.2.1) (fun k_s => fr1 103 k_s (by omega) (by omega))] at il
      have l4y := lnK_le y_s
      have uq : ∀ y1, isL (fun o => (jrn (goJ lw h_s.2.1 (fun k_s => h_s.2.2.1 126 (60 * s1_s + k_s))) L_s 0 0 o).2.2.2 = true) (owI h_s.2.1 x2_s.toInt.toNat) y1 → y1 = y_s := fun y1 w_s => isL_u w_s il
      have n0_s : (∀ y_s, y_s ≤ 340 → ¬ (jrn (goJ lw h_s.2.1 (fun k_s => h_s.2.2.1 126 (60 * s1_s + k_s))) L_s 0 0 (rnK (owI h_s.2.1 x2_s.toInt.toNat) y_s)).2.2.2 = true) → False := fun w_s => w_s y_s il.1 il.2.1
      have n2_s : (-2 : Int32).toInt = -2 := rfl
      refine ⟨fun c_s => fin_s f2_s gq v_s (fun y1 w_s => ?_) (fun w_s => (n0_s w_s).elim), fun c_s => ⟨fun c2_s => absurd c2_s (by omega), fun c2_s => ⟨fun c3_s => fun c4_s => fin_s f2_s gq _ (fun y1 w_s => ?_) (fun w_s => (n0_s w_s).elim), fun c3_s => fin_s f2_s gq _ (fun y1 w_s => ?_) (fun w_s => (n0_s w_s).elim)⟩⟩⟩
      · rw [uq y1 w_s]
        unfold skA
        rw [if_pos (by omega)]
        exact ev_s
      · rw [uq y1 w_s]
        have z3 := azix (i := x3) (by omega)
        have u_s := p1_s (zix x3) (by omega)
        unfold skA
        rw [if_neg (by omega), if_pos (by omega)]
        have s2_s : lnK y_s - 1 - zix x3 = lnK y_s - 1 - x3.toInt.toNat := by omega
        rw [s2_s] at u_s
        exact u_s
      · rw [uq y1 w_s]
        unfold skA
        rw [if_neg (by omega), if_neg (by omega)]
        exact n2_s
    · rw [goJ_fr (f_s := h_s.2.1) (fun k_s => fr1 103 k_s (by omega) (by omega)), owI_fr (f_s := h_s.2.1) (fun k_s => fr1 103 k_s (by omega) (by omega))] at w_s
      have n2_s : (-2 : Int32).toInt = -2 := rfl
      have f2' := fin_s f2_s gq (-2) (fun y1 il => absurd il.2.1 (w_s y1 il.1)) (fun _ => rfl)
      exact ⟨fun _ => f2', fun _ => ⟨fun _ => f2', fun c_s => absurd n2_s c_s⟩⟩
  · exact sp_191 (f0_s := h_s.2.1) (L_s := 0) (P_s := fun v2 => v8 = v2) hk m0_s l5 (lawR_P l5) (fun _ e_s => by omega) (fun _ e_s => by omega) (fun w_s => absurd oA w_s) (fun _ _ v_s ev_s => Int32.toInt_inj.mp (e8.trans ev_s.symm)) (fun _ e_s => by omega) (fun _ e_s => by omega)
end PS_s
/-! CONTRACTS of the calls, as what ended runs keep: printed by a program (wip/fun/mklaw.py). -/
theorem cm_93 {F_s : Nat} {x1_s : Int32} {h_s : zH} (hI : hIw h_s) : wF F_s 93 (0, [some (.ref 6), some (.int x1_s)], [], h_s) (gI (fun _ h1 => hIw h1 ∧ aFr (aWf kE1148.2.2.2.2.2) h_s h1)) := cxI kok1148 (rel1 (n_s := 0) hI) hI.2 rfl rfl
theorem cm_155 {F_s : Nat} {x1_s : Int32} {h_s : zH} (hI : hIw h_s) : wF F_s 155 (0, [some (.ref 102), some (.int x1_s)], [], h_s) (gI (fun _ h1 => hIw h1 ∧ aFr (aWf kE1149.2.2.2.2.2) h_s h1)) := cxI kok1149 (rel1 (n_s := 0) hI) hI.2 rfl rfl
theorem cm_94 {F_s : Nat} {x1_s : Int32} {x2_s : Int32} {h_s : zH} (hI : hIw h_s) : wF F_s 94 (0, [some (.ref 6), some (.int x1_s), some (.int x2_s), none], [], h_s) (gI (fun _ h1 => hIw h1 ∧ aFr (aWf kE1146.2.2.2.2.2) h_s h1)) := cxI kok1146 (rel2 (n_s := 1) hI) hI.2 rfl rfl
theorem cm_156 {F_s : Nat} {x1_s : Int32} {x2_s : Int32} {h_s : zH} (hI : hIw h_s) : wF F_s 156 (0, [some (.ref 102), some (.int x1_s), some (.int x2_s)], [], h_s) (gI (fun _ h1 => hIw h1 ∧ aFr (aWf kE1147.2.2.2.2.2) h_s h1)) := cxI kok1147 (rel2 (n_s := 0) hI) hI.2 rfl rfl
theorem cm_95 {F_s : Nat} {x1_s : Int32} {x2_s : Int32} {h_s : zH} (hI : hIw h_s) : wF F_s 95 (0, [some (.ref 6), some (.int x1_s), some (.int x2_s)], [], h_s) (gI (fun _ h1 => hIw h1 ∧ aFr (aWf kE1144.2.2.2.2.2) h_s h1)) := cxI kok1144 (rel2 (n_s := 0) hI) hI.2 rfl rfl
theorem cm_159 {F_s : Nat} {x1_s : Int32} {x2_s : Int32} {h_s : zH} (hI : hIw h_s) : wF F_s 159 (0, [some (.ref 102), some (.int x1_s), some (.int x2_s)], [], h_s) (gI (fun _ h1 => hIw h1 ∧ aFr (aWf kE1145.2.2.2.2.2) h_s h1)) := cxI kok1145 (rel2 (n_s := 0) hI) hI.2 rfl rfl
theorem cm_96 {F_s : Nat} {x1_s : Int32} {x2_s : Int32} {x3 : Int32} {h_s : zH} (hI : hIw h_s) : wF F_s 96 (0, [some (.ref 6), some (.int x1_s), some (.int x2_s), some (.int x3), none, none, none], [], h_s) (gI (fun _ h1 => hIw h1 ∧ aFr (aWf kE1142.2.2.2.2.2) h_s h1)) := cxI kok1142 (rel3 (n_s := 3) hI) hI.2 rfl rfl
theorem cm_160 {F_s : Nat} {x1_s : Int32} {x2_s : Int32} {x3 : Int32} {h_s : zH} (hI : hIw h_s) : wF F_s 160 (0, [some (.ref 102), some (.int x1_s), some (.int x2_s), some (.int x3), none, none, none], [], h_s) (gI (fun _ h1 => hIw h1 ∧ aFr (aWf kE1143.2.2.2.2.2) h_s h1)) := cxI kok1143 (rel3 (n_s := 3) hI) hI.2 rfl rfl
theorem cm_98 {F_s : Nat} {x1_s : Int32} {x2_s : Int32} {x3 : Int32} {h_s : zH} (hI : hIw h_s) : wF F_s 98 (0, [some (.ref 6), some (.int x1_s), some (.int x2_s), some (.int x3), none], [], h_s) (gI (fun _ h1 => hIw h1 ∧ aFr (aWf kE1128.2.2.2.2.2) h_s h1)) := cxI kok1128 (rel3 (n_s := 1) hI) hI.2 rfl rfl
theorem cm_163 {F_s : Nat} {x1_s : Int32} {x2_s : Int32} {x3 : Int32} {h_s : zH} (hI : hIw h_s) : wF F_s 163 (0, [some (.ref 102), some (.int x1_s), some (.int x2_s), some (.int x3), none], [], h_s) (gI (fun _ h1 => hIw h1 ∧ aFr (aWf kE1141.2.2.2.2.2) h_s h1)) := cxI kok1141 (rel3 (n_s := 1) hI) hI.2 rfl rfl
theorem cm_99 {F_s : Nat} {x1_s : Int32} {x2_s : Int32} {h_s : zH} (hI : hIw h_s) : wF F_s 99 (0, [some (.ref 6), some (.int x1_s), some (.int x2_s)], [], h_s) (gI (fun _ h1 => hIw h1 ∧ aFr (aWf kE1125.2.2.2.2.2) h_s h1)) := cxI kok1125 (rel2 (n_s := 0) hI) hI.2 rfl rfl
theorem cm_164 {F_s : Nat} {x1_s : Int32} {x2_s : Int32} {h_s : zH} (hI : hIw h_s) : wF F_s 164 (0, [some (.ref 102), some (.int x1_s), some (.int x2_s), none], [], h_s) (gI (fun _ h1 => hIw h1 ∧ aFr (aWf kE1126.2.2.2.2.2) h_s h1)) := cxI kok1126 (rel2 (n_s := 1) hI) hI.2 rfl rfl
theorem cm_100 {F_s : Nat} {x1_s : Int32} {h_s : zH} (hI : hIw h_s) : wF F_s 100 (0, [some (.ref 6), some (.int x1_s)], [], h_s) (gI (fun _ h1 => hIw h1 ∧ aFr (aWf kE1123.2.2.2.2.2) h_s h1)) := cxI kok1123 (rel1 (n_s := 0) hI) hI.2 rfl rfl
theorem cm_165 {F_s : Nat} {x1_s : Int32} {h_s : zH} (hI : hIw h_s) : wF F_s 165 (0, [some (.ref 102), some (.int x1_s)], [], h_s) (gI (fun _ h1 => hIw h1 ∧ aFr (aWf kE1124.2.2.2.2.2) h_s h1)) := cxI kok1124 (rel1 (n_s := 0) hI) hI.2 rfl rfl
theorem cm_101 {F_s : Nat}  {h_s : zH} (hI : hIw h_s) : wF F_s 101 (0, [some (.ref 6), none, none], [], h_s) (gI (fun _ h1 => hIw h1 ∧ aFr (aWf kE1121.2.2.2.2.2) h_s h1)) := cxI kok1121 (rel0 (n_s := 2) hI) hI.2 rfl rfl
theorem cm_177 {F_s : Nat}  {h_s : zH} (hI : hIw h_s) : wF F_s 177 (0, [some (.ref 102), none, none, none], [], h_s) (gI (fun _ h1 => hIw h1 ∧ aFr (aWf kE1122.2.2.2.2.2) h_s h1)) := cxI kok1122 (rel0 (n_s := 3) hI) hI.2 rfl rfl
theorem cm_102 {F_s : Nat} {x1_s : Int32} {x2_s : Int32} {h_s : zH} (hI : hIw h_s) : wF F_s 102 (0, [some (.ref 6), some (.int x1_s), some (.int x2_s)], [], h_s) (gI (fun _ h1 => hIw h1 ∧ aFr (aWf kE1013.2.2.2.2.2) h_s h1)) := cxI kok1013 (rel2 (n_s := 0) hI) hI.2 rfl rfl
theorem cm_181 {F_s : Nat} {x1_s : Int32} {x2_s : Int32} {h_s : zH} (hI : hIw h_s) : wF F_s 181 (0, [some (.ref 102), some (.int x1_s), some (.int x2_s)], [], h_s) (gI (fun _ h1 => hIw h1 ∧ aFr (aWf kE1014.2.2.2.2.2) h_s h1)) := cxI kok1014 (rel2 (n_s := 0) hI) hI.2 rfl rfl
theorem cm_103 {F_s : Nat} {x1_s : Int32} {x2_s : Int32} {x3 : Int32} {h_s : zH} (hI : hIw h_s) : wF F_s 103 (0, [some (.ref 6), some (.int x1_s), some (.int x2_s), some (.int x3), none, none, none], [], h_s) (gI (fun _ h1 => hIw h1 ∧ aFr (aWf kE1011.2.2.2.2.2) h_s h1)) := cxI kok1011 (rel3 (n_s := 3) hI) hI.2 rfl rfl
theorem cm_189 {F_s : Nat} {x1_s : Int32} {x2_s : Int32} {x3 : Int32} {h_s : zH} (hI : hIw h_s) : wF F_s 189 (0, [some (.ref 102), some (.int x1_s), some (.int x2_s), some (.int x3)], [], h_s) (gI (fun _ h1 => hIw h1 ∧ aFr (aWf kE1012.2.2.2.2.2) h_s h1)) := cxI kok1012 (rel3 (n_s := 0) hI) hI.2 rfl rfl
theorem cm_104 {F_s : Nat} {x1_s : Int32} {x2_s : Int32} {x3 : Int32} {h_s : zH} (hI : hIw h_s) : wF F_s 104 (0, [some (.ref 6), some (.int x1_s), some (.int x2_s), some (.int x3), none, none], [], h_s) (gI (fun _ h1 => hIw h1 ∧ aFr (aWf kE912.2.2.2.2.2) h_s h1)) := cxI kok912 (rel3 (n_s := 2) hI) hI.2 rfl rfl
theorem cm_191 {F_s : Nat} {x1_s : Int32} {x2_s : Int32} {x3 : Int32} {h_s : zH} (hI : hIw h_s) : wF F_s 191 (0, [some (.ref 102), some (.int x1_s), some (.int x2_s), some (.int x3), none], [], h_s) (gI (fun _ h1 => hIw h1 ∧ aFr (aWf kE1009.2.2.2.2.2) h_s h1)) := cxI kok1009 (rel3 (n_s := 1) hI) hI.2 rfl rfl
theorem cm_105 {F_s : Nat} {x1_s : Int32} {x2_s : Int32} {x3 : Int32} {h_s : zH} (hI : hIw h_s) : wF F_s 105 (0, [some (.ref 6), some (.int x1_s), some (.int x2_s), some (.int x3)], [], h_s) (gI (fun _ h1 => hIw h1 ∧ aFr (aWf kE304.2.2.2.2.2) h_s h1)) := cxI kok304 (rel3 (n_s := 0) hI) hI.2 rfl rfl
theorem cm_193 {F_s : Nat} {x1_s : Int32} {x2_s : Int32} {x3 : Int32} {h_s : zH} (hI : hIw h_s) : wF F_s 193 (0, [some (.ref 102), some (.int x1_s), some (.int x2_s), some (.int x3)], [], h_s) (gI (fun _ h1 => hIw h1 ∧ aFr (aWf kE560.2.2.2.2.2) h_s h1)) := cxI kok560 (rel3 (n_s := 0) hI) hI.2 rfl rfl
theorem cm_106 {F_s : Nat} {x1_s : Int32} {x2_s : Int32} {h_s : zH} (hI : hIw h_s) : wF F_s 106 (0, [some (.ref 6), some (.int x1_s), some (.int x2_s), none, none, none, none, none, none], [], h_s) (gI (fun _ h1 => hIw h1 ∧ aFr (aWf kE279.2.2.2.2.2) h_s h1)) := cxI kok279 (rel2 (n_s := 6) hI) hI.2 rfl rfl
theorem cm_194 {F_s : Nat} {x1_s : Int32} {x2_s : Int32} {h_s : zH} (hI : hIw h_s) : wF F_s 194 (0, [some (.ref 102), some (.int x1_s), some (.int x2_s), none, none, none], [], h_s) (gI (fun _ h1 => hIw h1 ∧ aFr (aWf kE280.2.2.2.2.2) h_s h1)) := cxI kok280 (rel2 (n_s := 3) hI) hI.2 rfl rfl
theorem cm_107 {F_s : Nat} {x1_s : Int32} {h_s : zH} (hI : hIw h_s) : wF F_s 107 (0, [some (.ref 6), some (.int x1_s)], [], h_s) (gI (fun _ h1 => hIw h1 ∧ aFr (aWf kE277.2.2.2.2.2) h_s h1)) := cxI kok277 (rel1 (n_s := 0) hI) hI.2 rfl rfl
theorem cm_199 {F_s : Nat} {x1_s : Int32} {h_s : zH} (hI : hIw h_s) : wF F_s 199 (0, [some (.ref 102), some (.int x1_s)], [], h_s) (gI (fun _ h1 => hIw h1 ∧ aFr (aWf kE278.2.2.2.2.2) h_s h1)) := cxI kok278 (rel1 (n_s := 0) hI) hI.2 rfl rfl
theorem cm_108 {F_s : Nat}  {h_s : zH} (hI : hIw h_s) : wF F_s 108 (0, [some (.ref 6)], [], h_s) (gI (fun _ h1 => hIw h1 ∧ aFr (aWf kE274.2.2.2.2.2) h_s h1)) := cxI kok274 (rel0 (n_s := 0) hI) hI.2 rfl rfl
theorem cm_200 {F_s : Nat}  {h_s : zH} (hI : hIw h_s) : wF F_s 200 (0, [some (.ref 102), none, none, none, none, none], [], h_s) (gI (fun _ h1 => hIw h1 ∧ aFr (aWf kE276.2.2.2.2.2) h_s h1)) := cxI kok276 (rel0 (n_s := 5) hI) hI.2 rfl rfl
theorem cm_109 {F_s : Nat} {x1_s : Int32} {h_s : zH} (hI : hIw h_s) : wF F_s 109 (0, [some (.ref 6), some (.int x1_s), none], [], h_s) (gI (fun _ h1 => hIw h1 ∧ aFr (aWf kE270.2.2.2.2.2) h_s h1)) := cxI kok270 (rel1 (n_s := 1) hI) hI.2 rfl rfl
theorem cm_202 {F_s : Nat} {x1_s : Int32} {h_s : zH} (hI : hIw h_s) : wF F_s 202 (0, [some (.ref 102), some (.int x1_s), none, none, none, none, none], [], h_s) (gI (fun _ h1 => hIw h1 ∧ aFr (aWf kE272.2.2.2.2.2) h_s h1)) := cxI kok272 (rel1 (n_s := 5) hI) hI.2 rfl rfl
theorem cm_110 {F_s : Nat} {x1_s : Int32} {x2_s : Int32} {h_s : zH} (hI : hIw h_s) : wF F_s 110 (0, [some (.ref 6), some (.int x1_s), some (.int x2_s), none], [], h_s) (gI (fun _ h1 => hIw h1 ∧ aFr (aWf kE265.2.2.2.2.2) h_s h1)) := cxI kok265 (rel2 (n_s := 1) hI) hI.2 rfl rfl
theorem cm_205 {F_s : Nat} {x1_s : Int32} {x2_s : Int32} {h_s : zH} (hI : hIw h_s) : wF F_s 205 (0, [some (.ref 102), some (.int x1_s), some (.int x2_s)], [], h_s) (gI (fun _ h1 => hIw h1 ∧ aFr (aWf kE266.2.2.2.2.2) h_s h1)) := cxI kok266 (rel2 (n_s := 0) hI) hI.2 rfl rfl
theorem cm_111 {F_s : Nat} {x1_s : Int32} {x2_s : Int32} {x3 : Int32} {h_s : zH} (hI : hIw h_s) : wF F_s 111 (0, [some (.ref 6), some (.int x1_s), some (.int x2_s), some (.int x3), none, none, none, none, none], [], h_s) (gI (fun _ h1 => hIw h1 ∧ aFr (aWf kE156.2.2.2.2.2) h_s h1)) := cxI kok156 (rel3 (n_s := 5) hI) hI.2 rfl rfl
theorem cm_206 {F_s : Nat} {x1_s : Int32} {x2_s : Int32} {x3 : Int32} {h_s : zH} (hI : hIw h_s) : wF F_s 206 (0, [some (.ref 102), some (.int x1_s), some (.int x2_s), some (.int x3), none, none, none, none], [], h_s) (gI (fun _ h1 => hIw h1 ∧ aFr (aWf kE261.2.2.2.2.2) h_s h1)) := cxI kok261 (rel3 (n_s := 4) hI) hI.2 rfl rfl
theorem cm_112 {F_s : Nat} {x1_s : Int32} {x2_s : Int32} {x3 : Int32} {h_s : zH} (hI : hIw h_s) : wF F_s 112 (0, [some (.ref 6), some (.int x1_s), some (.int x2_s), some (.int x3), none], [], h_s) (gI (fun _ h1 => hIw h1 ∧ aFr (aWf kE116.2.2.2.2.2) h_s h1)) := cxI kok116 (rel3 (n_s := 1) hI) hI.2 rfl rfl
theorem cm_208 {F_s : Nat} {x1_s : Int32} {x2_s : Int32} {x3 : Int32} {h_s : zH} (hI : hIw h_s) : wF F_s 208 (0, [some (.ref 102), some (.int x1_s), some (.int x2_s), some (.int x3), none], [], h_s) (gI (fun _ h1 => hIw h1 ∧ aFr (aWf kE137.2.2.2.2.2) h_s h1)) := cxI kok137 (rel3 (n_s := 1) hI) hI.2 rfl rfl
theorem cm_116 {F_s : Nat} {x1_s : Int32} {x2_s : Int32} {x3 : Int32} {x4_s : Int32} {h_s : zH} (hI : hIw h_s) : wF F_s 116 (0, [some (.ref 6), some (.int x1_s), some (.int x2_s), some (.int x3), some (.int x4_s), none, none, none, none, none, none, none, none, none], [], h_s) (gI (fun _ h1 => hIw h1 ∧ aFr (aWf kE100.2.2.2.2.2) h_s h1)) := cxI kok100 (rel4 (n_s := 9) hI) hI.2 rfl rfl
theorem cm_209 {F_s : Nat} {x1_s : Int32} {x2_s : Int32} {x3 : Int32} {x4_s : Int32} {h_s : zH} (hI : hIw h_s) : wF F_s 209 (0, [some (.ref 102), some (.int x1_s), some (.int x2_s), some (.int x3), some (.int x4_s), none, none, none, none, none, none], [], h_s) (gI (fun _ h1 => hIw h1 ∧ aFr (aWf kE101.2.2.2.2.2) h_s h1)) := cxI kok101 (rel4 (n_s := 6) hI) hI.2 rfl rfl
theorem cm_117 {F_s : Nat} {x1_s : Int32} {x2_s : Int32} {h_s : zH} (hI : hIw h_s) : wF F_s 117 (0, [some (.ref 6), some (.int x1_s), some (.int x2_s), none], [], h_s) (gI (fun _ h1 => hIw h1 ∧ aFr (aWf kE93.2.2.2.2.2) h_s h1)) := cxI kok93 (rel2 (n_s := 1) hI) hI.2 rfl rfl
theorem cm_211 {F_s : Nat} {x1_s : Int32} {x2_s : Int32} {h_s : zH} (hI : hIw h_s) : wF F_s 211 (0, [some (.ref 102), some (.int x1_s), some (.int x2_s), none], [], h_s) (gI (fun _ h1 => hIw h1 ∧ aFr (aWf kE95.2.2.2.2.2) h_s h1)) := cxI kok95 (rel2 (n_s := 1) hI) hI.2 rfl rfl
theorem cm_118 {F_s : Nat} {x1_s : Int32} {x2_s : Int32} {h_s : zH} (hI : hIw h_s) : wF F_s 118 (0, [some (.ref 6), some (.int x1_s), some (.int x2_s), none, none, none], [], h_s) (gI (fun _ h1 => hIw h1 ∧ aFr (aWf kE42.2.2.2.2.2) h_s h1)) := cxI kok42 (rel2 (n_s := 3) hI) hI.2 rfl rfl
theorem cm_212 {F_s : Nat} {x1_s : Int32} {x2_s : Int32} {h_s : zH} (hI : hIw h_s) : wF F_s 212 (0, [some (.ref 102), some (.int x1_s), some (.int x2_s)], [], h_s) (gI (fun _ h1 => hIw h1 ∧ aFr (aWf kE91.2.2.2.2.2) h_s h1)) := cxI kok91 (rel2 (n_s := 0) hI) hI.2 rfl rfl
theorem cm_119 {F_s : Nat}  {h_s : zH} (hI : hIw h_s) : wF F_s 119 (0, [some (.ref 6), none, none], [], h_s) (gI (fun _ h1 => hIw h1 ∧ aFr (aWf kE36.2.2.2.2.2) h_s h1)) := cxI kok36 (rel0 (n_s := 2) hI) hI.2 rfl rfl
theorem cm_213 {F_s : Nat}  {h_s : zH} (hI : hIw h_s) : wF F_s 213 (0, [some (.ref 102), none, none], [], h_s) (gI (fun _ h1 => hIw h1 ∧ aFr (aWf kE38.2.2.2.2.2) h_s h1)) := cxI kok38 (rel0 (n_s := 2) hI) hI.2 rfl rfl
theorem cm_120 {F_s : Nat} {x1_s : Int32} {h_s : zH} (hI : hIw h_s) : wF F_s 120 (0, [some (.ref 6), some (.int x1_s)], [], h_s) (gI (fun _ h1 => hIw h1 ∧ aFr (aWf kE30.2.2.2.2.2) h_s h1)) := cxI kok30 (rel1 (n_s := 0) hI) hI.2 rfl rfl
theorem cm_214 {F_s : Nat} {x1_s : Int32} {h_s : zH} (hI : hIw h_s) : wF F_s 214 (0, [some (.ref 102), some (.int x1_s)], [], h_s) (gI (fun _ h1 => hIw h1 ∧ aFr (aWf kE31.2.2.2.2.2) h_s h1)) := cxI kok31 (rel1 (n_s := 0) hI) hI.2 rfl rfl
theorem cm_121 {F_s : Nat}  {h_s : zH} (hI : hIw h_s) : wF F_s 121 (0, [some (.ref 6), none], [], h_s) (gI (fun _ h1 => hIw h1 ∧ aFr (aWf kE28.2.2.2.2.2) h_s h1)) := cxI kok28 (rel0 (n_s := 1) hI) hI.2 rfl rfl
theorem cm_215 {F_s : Nat}  {h_s : zH} (hI : hIw h_s) : wF F_s 215 (0, [some (.ref 102), none], [], h_s) (gI (fun _ h1 => hIw h1 ∧ aFr (aWf kE29.2.2.2.2.2) h_s h1)) := cxI kok29 (rel0 (n_s := 1) hI) hI.2 rfl rfl
theorem cm_122 {F_s : Nat}  {h_s : zH} (hI : hIw h_s) : wF F_s 122 (0, [some (.ref 6), none], [], h_s) (gI (fun _ h1 => hIw h1 ∧ aFr (aWf kE26.2.2.2.2.2) h_s h1)) := cxI kok26 (rel0 (n_s := 1) hI) hI.2 rfl rfl
theorem cm_216 {F_s : Nat}  {h_s : zH} (hI : hIw h_s) : wF F_s 216 (0, [some (.ref 102), none], [], h_s) (gI (fun _ h1 => hIw h1 ∧ aFr (aWf kE27.2.2.2.2.2) h_s h1)) := cxI kok27 (rel0 (n_s := 1) hI) hI.2 rfl rfl
theorem cm_123 {F_s : Nat}  {h_s : zH} (hI : hIw h_s) : wF F_s 123 (0, [some (.ref 6)], [], h_s) (gI (fun _ h1 => hIw h1 ∧ aFr (aWf kE24.2.2.2.2.2) h_s h1)) := cxI kok24 (rel0 (n_s := 0) hI) hI.2 rfl rfl
theorem cm_149 {F_s : Nat}  {h_s : zH} (hI : hIw h_s) : wF F_s 149 (0, [some (.ref 102)], [], h_s) (gI (fun _ h1 => hIw h1 ∧ aFr (aWf kE25.2.2.2.2.2) h_s h1)) := cxI kok25 (rel0 (n_s := 0) hI) hI.2 rfl rfl
theorem cm_124 {F_s : Nat}  {h_s : zH} (hI : hIw h_s) : wF F_s 124 (0, [some (.ref 6)], [], h_s) (gI (fun _ h1 => hIw h1 ∧ aFr (aWf kE22.2.2.2.2.2) h_s h1)) := cxI kok22 (rel0 (n_s := 0) hI) hI.2 rfl rfl
theorem cm_150 {F_s : Nat}  {h_s : zH} (hI : hIw h_s) : wF F_s 150 (0, [some (.ref 102)], [], h_s) (gI (fun _ h1 => hIw h1 ∧ aFr (aWf kE23.2.2.2.2.2) h_s h1)) := cxI kok23 (rel0 (n_s := 0) hI) hI.2 rfl rfl
theorem cm_125 {F_s : Nat} {x1_s : Int32} {h_s : zH} (hI : hIw h_s) : wF F_s 125 (0, [some (.ref 6), some (.int x1_s)], [], h_s) (gI (fun _ h1 => hIw h1 ∧ aFr (aWf kE20.2.2.2.2.2) h_s h1)) := cxI kok20 (rel1 (n_s := 0) hI) hI.2 rfl rfl
theorem cm_219 {F_s : Nat} {x1_s : Int32} {h_s : zH} (hI : hIw h_s) : wF F_s 219 (0, [some (.ref 102), some (.int x1_s)], [], h_s) (gI (fun _ h1 => hIw h1 ∧ aFr (aWf kE21.2.2.2.2.2) h_s h1)) := cxI kok21 (rel1 (n_s := 0) hI) hI.2 rfl rfl
theorem cm_126 {F_s : Nat} {x1_s : Int32} {x2_s : Int32} {x3 : Int32} {h_s : zH} (hI : hIw h_s) : wF F_s 126 (0, [some (.ref 6), some (.int x1_s), some (.int x2_s), some (.int x3)], [], h_s) (gI (fun _ h1 => hIw h1 ∧ aFr (aWf kE18.2.2.2.2.2) h_s h1)) := cxI kok18 (rel3 (n_s := 0) hI) hI.2 rfl rfl
theorem cm_226 {F_s : Nat} {x1_s : Int32} {x2_s : Int32} {x3 : Int32} {h_s : zH} (hI : hIw h_s) : wF F_s 226 (0, [some (.ref 102), some (.int x1_s), some (.int x2_s), some (.int x3)], [], h_s) (gI (fun _ h1 => hIw h1 ∧ aFr (aWf kE19.2.2.2.2.2) h_s h1)) := cxI kok19 (rel3 (n_s := 0) hI) hI.2 rfl rfl
theorem cm_127 {F_s : Nat} {x1_s : Int32} {h_s : zH} (hI : hIw h_s) : wF F_s 127 (0, [some (.ref 6), some (.int x1_s)], [], h_s) (gI (fun _ h1 => hIw h1 ∧ aFr (aWf kE16.2.2.2.2.2) h_s h1)) := cxI kok16 (rel1 (n_s := 0) hI) hI.2 rfl rfl
theorem cm_227 {F_s : Nat} {x1_s : Int32} {h_s : zH} (hI : hIw h_s) : wF F_s 227 (0, [some (.ref 102), some (.int x1_s)], [], h_s) (gI (fun _ h1 => hIw h1 ∧ aFr (aWf kE17.2.2.2.2.2) h_s h1)) := cxI kok17 (rel1 (n_s := 0) hI) hI.2 rfl rfl
theorem cm_128 {F_s : Nat} {x1_s : Int32} {x2_s : Int32} {h_s : zH} (hI : hIw h_s) : wF F_s 128 (0, [some (.ref 6), some (.int x1_s), some (.int x2_s)], [], h_s) (gI (fun _ h1 => hIw h1 ∧ aFr (aWf kE14.2.2.2.2.2) h_s h1)) := cxI kok14 (rel2 (n_s := 0) hI) hI.2 rfl rfl
theorem cm_229 {F_s : Nat} {x1_s : Int32} {x2_s : Int32} {h_s : zH} (hI : hIw h_s) : wF F_s 229 (0, [some (.ref 102), some (.int x1_s), some (.int x2_s)], [], h_s) (gI (fun _ h1 => hIw h1 ∧ aFr (aWf kE15.2.2.2.2.2) h_s h1)) := cxI kok15 (rel2 (n_s := 0) hI) hI.2 rfl rfl
theorem cm_129 {F_s : Nat} {x1_s : Int32} {x2_s : Int32} {x3 : Int32} {h_s : zH} (hI : hIw h_s) : wF F_s 129 (0, [some (.ref 6), some (.int x1_s), some (.int x2_s), some (.int x3)], [], h_s) (gI (fun _ h1 => hIw h1 ∧ aFr (aWf kE12.2.2.2.2.2) h_s h1)) := cxI kok12 (rel3 (n_s := 0) hI) hI.2 rfl rfl
theorem cm_230 {F_s : Nat} {x1_s : Int32} {x2_s : Int32} {x3 : Int32} {h_s : zH} (hI : hIw h_s) : wF F_s 230 (0, [some (.ref 102), some (.int x1_s), some (.int x2_s), some (.int x3), none], [], h_s) (gI (fun _ h1 => hIw h1 ∧ aFr (aWf kE13.2.2.2.2.2) h_s h1)) := cxI kok13 (rel3 (n_s := 1) hI) hI.2 rfl rfl
theorem cm_130 {F_s : Nat} {x1_s : Int32} {x2_s : Int32} {x3 : Int64} {h_s : zH} (hI : hIw h_s) : wF F_s 130 (0, [some (.ref 6), some (.int x1_s), some (.int x2_s), some (.long x3), none, none], [], h_s) (gI (fun _ h1 => hIw h1 ∧ aFr (aWf kE9.2.2.2.2.2) h_s h1)) := cxI kok9 (relp (n_s := 1) hI) hI.2 rfl rfl
theorem cm_233 {F_s : Nat} {x1_s : Int32} {x2_s : Int32} {x3 : Int64} {h_s : zH} (hI : hIw h_s) : wF F_s 233 (0, [some (.ref 102), some (.int x1_s), some (.int x2_s), some (.long x3), none, none], [], h_s) (gI (fun _ h1 => hIw h1 ∧ aFr (aWf kE10.2.2.2.2.2) h_s h1)) := cxI kok10 (relp (n_s := 1) hI) hI.2 rfl rfl
theorem cm_131 {F_s : Nat} {x1_s : Int32} {x2_s : Int32} {h_s : zH} (hI : hIw h_s) : wF F_s 131 (0, [some (.ref 6), some (.int x1_s), some (.int x2_s)], [], h_s) (gJ (fun _ h1 => hIw h1 ∧ aFr (aWf kE7.2.2.2.2.2) h_s h1)) := cxJ kok7 (rel2 (n_s := 0) hI) hI.2 rfl rfl
theorem cm_234 {F_s : Nat} {x1_s : Int32} {x2_s : Int32} {h_s : zH} (hI : hIw h_s) : wF F_s 234 (0, [some (.ref 102), some (.int x1_s), some (.int x2_s)], [], h_s) (gJ (fun _ h1 => hIw h1 ∧ aFr (aWf kE8.2.2.2.2.2) h_s h1)) := cxJ kok8 (rel2 (n_s := 0) hI) hI.2 rfl rfl
theorem cm_132 {F_s : Nat} {x1_s : Int32} {x2_s : Int32} {x3 : Int32} {x4_s : Int32} {x5_s : Int32} {h_s : zH} (hI : hIw h_s) : wF F_s 132 (0, [some (.ref 6), some (.int x1_s), some (.int x2_s), some (.int x3), some (.int x4_s), some (.int x5_s), none, none], [], h_s) (gI (fun _ h1 => hIw h1 ∧ aFr (aWf kE5.2.2.2.2.2) h_s h1)) := cxI kok5 (rel5 (n_s := 2) hI) hI.2 rfl rfl
theorem cm_235 {F_s : Nat} {x1_s : Int32} {x2_s : Int32} {x3 : Int32} {x4_s : Int32} {x5_s : Int32} {h_s : zH} (hI : hIw h_s) : wF F_s 235 (0, [some (.ref 102), some (.int x1_s), some (.int x2_s), some (.int x3), some (.int x4_s), some (.int x5_s), none], [], h_s) (gI (fun _ h1 => hIw h1 ∧ aFr (aWf kE6.2.2.2.2.2) h_s h1)) := cxI kok6 (rel5 (n_s := 1) hI) hI.2 rfl rfl
theorem cm_133 {F_s : Nat} {x1_s : Int32} {x2_s : Int32} {h_s : zH} (hI : hIw h_s) : wF F_s 133 (0, [some (.ref 6), some (.int x1_s), some (.int x2_s), none, none], [], h_s) (gI (fun _ h1 => hIw h1 ∧ aFr (aWf kE3.2.2.2.2.2) h_s h1)) := cxI kok3 (rel2 (n_s := 2) hI) hI.2 rfl rfl
theorem cm_236 {F_s : Nat} {x1_s : Int32} {x2_s : Int32} {h_s : zH} (hI : hIw h_s) : wF F_s 236 (0, [some (.ref 102), some (.int x1_s), some (.int x2_s), none], [], h_s) (gI (fun _ h1 => hIw h1 ∧ aFr (aWf kE4.2.2.2.2.2) h_s h1)) := cxI kok4 (rel2 (n_s := 1) hI) hI.2 rfl rfl
theorem cm_134 {F_s : Nat} {x1_s : Int32} {h_s : zH} (hI : hIw h_s) : wF F_s 134 (0, [some (.ref 6), some (.int x1_s)], [], h_s) (gI (fun _ h1 => hIw h1 ∧ aFr (aWf kE0.2.2.2.2.2) h_s h1)) := cxI kok0 (rel1 (n_s := 0) hI) hI.2 rfl rfl
theorem cm_237 {F_s : Nat} {x1_s : Int32} {h_s : zH} (hI : hIw h_s) : wF F_s 237 (0, [some (.ref 102), some (.int x1_s)], [], h_s) (gI (fun _ h1 => hIw h1 ∧ aFr (aWf kE1.2.2.2.2.2) h_s h1)) := cxI kok1 (rel1 (n_s := 0) hI) hI.2 rfl rfl
