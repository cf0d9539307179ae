/-! SETTLED: the reference, and the pair. -/
noncomputable def hdR (f_s : Nat → Nat → Int32) (i_s : Nat) : Int := (f_s 103 (60 + i_s)).toInt
theorem stS_c {nh ni : Nat} {ky : Nat → Nat → Int} {hk hd_s hd1 : Nat → Int} (e_s : ∀ i_s, i_s < ni → hd1 i_s = hd_s i_s) (s_s : stS nh ni ky hk hd_s) : stS nh ni ky hk hd1 := by
  refine ⟨fun i_s j_s hi_s hj h0 he => ?_, fun p_s d_s hp hd_ u_s => s_s.2 p_s d_s hp hd_ ⟨?_, fun o ho w_s => ?_, fun q_s hq w_s => ?_⟩⟩
  · rw [e_s i_s hi_s] at h0 he
    rw [e_s j_s hj] at he
    exact s_s.1 i_s j_s hi_s hj h0 he
  · rw [← e_s d_s hd_]
    exact u_s.1
  · rw [← e_s o ho] at w_s
    exact u_s.2.1 o ho w_s
  · rw [← e_s d_s hd_] at w_s
    exact u_s.2.2 q_s hq w_s
noncomputable def QS (f0_s f_s : Nat → Nat → Int32) (ni : Nat) : Prop := (∀ a_s k_s, ¬ a_s = 116 → f_s a_s k_s = f0_s a_s k_s) ∧ ∀ i_s, i_s < ni → (f_s 116 i_s).toInt = hdR f0_s i_s
noncomputable def wtS (ni : Nat) (ky : Nat → Nat → Int) (hd_s : Nat → Int) (p_s d_s : Nat) : Prop := ∀ o, o < ni → hd_s o = (p_s : Int) → ky p_s d_s < ky p_s o
noncomputable def fyS (nh : Nat) (hk hd_s : Nat → Int) (p_s d_s : Nat) : Prop := ¬ hd_s d_s = (p_s : Int) ∧ ∀ q_s : Nat, q_s < nh → hd_s d_s = (q_s : Int) → hk p_s < hk q_s
section SR
variable {h_s : zH} {K_s : Int32 → zH → Prop} {nh ni nr : Nat} {f0_s : Nat → Nat → Int32}
noncomputable def D33 (h_s : zH) (K_s : Int32 → zH → Prop) (ni : Nat) (f0_s : Nat → Nat → Int32) (F_s : Nat) : Prop := ∀ (x1_s : Int32) (l2 l3 l4 l5 : Option Value) (n_s : Nat) (f_s : Nat → Nat → Int32), QS f0_s f_s ni → x1_s.toInt = (n_s : Int) → n_s ≤ ni → inS n_s (hdR f0_s) → wF F_s 200 (33, [some (.ref 102), some (.int x1_s), l2, l3, l4, l5], [], (h_s.1, f_s, h_s.2.2.1, h_s.2.2.2)) (gI K_s)
noncomputable def D43 (h_s : zH) (K_s : Int32 → zH → Prop) (ni : Nat) (f0_s : Nat → Nat → Int32) (F_s : Nat) : Prop := ∀ (x1_s x2_s : Int32) (l3 l4 l5 : Option Value) (n_s m_s : Nat) (f_s : Nat → Nat → Int32), QS f0_s f_s ni → x1_s.toInt = (n_s : Int) → n_s < ni → x2_s.toInt = (m_s : Int) → m_s ≤ n_s → inS n_s (hdR f0_s) → (∀ e_s, e_s < m_s → 0 ≤ hdR f0_s n_s → ¬ hdR f0_s n_s = hdR f0_s e_s) → wF F_s 200 (43, [some (.ref 102), some (.int x1_s), some (.int x2_s), l3, l4, l5], [], (h_s.1, f_s, h_s.2.2.1, h_s.2.2.2)) (gI K_s)
noncomputable def D88 (h_s : zH) (K_s : Int32 → zH → Prop) (nh ni : Nat) (f0_s : Nat → Nat → Int32) (F_s : Nat) : Prop := ∀ (x1_s : Int32) (l2 l3 l4 l5 : Option Value) (p_s : Nat) (f_s : Nat → Nat → Int32), QS f0_s f_s ni → inS ni (hdR f0_s) → x1_s.toInt = (p_s : Int) → p_s ≤ nh → (∀ q_s d_s, q_s < p_s → d_s < ni → ¬ unS nh ni (kyI f0_s) (hkI f0_s) (hdR f0_s) q_s d_s) → wF F_s 200 (88, [some (.ref 102), some (.int x1_s), l2, l3, l4, l5], [], (h_s.1, f_s, h_s.2.2.1, h_s.2.2.2)) (gI K_s)
noncomputable def qS (nh ni : Nat) (f0_s : Nat → Nat → Int32) (x1_s x2_s x3 : Int32) (p_s d_s : Nat) (f_s : Nat → Nat → Int32) : Prop := QS f0_s f_s ni ∧ inS ni (hdR f0_s) ∧ x1_s.toInt = (p_s : Int) ∧ p_s < nh ∧ x3.toInt = (d_s : Int) ∧ ((x2_s.toInt = -1 ∧ ∀ i_s, i_s < ni → ¬ hdR f0_s i_s = (p_s : Int)) ∨ ∃ i_s : Nat, i_s < ni ∧ x2_s.toInt = (i_s : Int) ∧ hdR f0_s i_s = (p_s : Int)) ∧ (∀ q_s e_s, q_s < p_s → e_s < ni → ¬ unS nh ni (kyI f0_s) (hkI f0_s) (hdR f0_s) q_s e_s) ∧ ∀ e_s, e_s < d_s → ¬ unS nh ni (kyI f0_s) (hkI f0_s) (hdR f0_s) p_s e_s
noncomputable def D104 (h_s : zH) (K_s : Int32 → zH → Prop) (nh ni : Nat) (f0_s : Nat → Nat → Int32) (F_s : Nat) : Prop := ∀ (x1_s x2_s x3 : Int32) (l4 l5 : Option Value) (p_s d_s : Nat) (f_s : Nat → Nat → Int32), qS nh ni f0_s x1_s x2_s x3 p_s d_s f_s → d_s ≤ ni → wF F_s 200 (104, [some (.ref 102), some (.int x1_s), some (.int x2_s), some (.int x3), l4, l5], [], (h_s.1, f_s, h_s.2.2.1, h_s.2.2.2)) (gI K_s)
noncomputable def D138 (h_s : zH) (K_s : Int32 → zH → Prop) (nh ni : Nat) (f0_s : Nat → Nat → Int32) (F_s : Nat) : Prop := ∀ (x1_s x2_s x3 x4_s : Int32) (l5 : Option Value) (p_s d_s : Nat) (f_s : Nat → Nat → Int32), qS nh ni f0_s x1_s x2_s x3 p_s d_s f_s → d_s < ni → (x4_s.toInt = 0 → ¬ wtS ni (kyI f0_s) (hdR f0_s) p_s d_s) → (¬ x4_s.toInt = 0 → wtS ni (kyI f0_s) (hdR f0_s) p_s d_s) → wF F_s 200 (138, [some (.ref 102), some (.int x1_s), some (.int x2_s), some (.int x3), some (.int x4_s), l5], [], (h_s.1, f_s, h_s.2.2.1, h_s.2.2.2)) (gI K_s)
noncomputable def D178 (h_s : zH) (K_s : Int32 → zH → Prop) (nh ni : Nat) (f0_s : Nat → Nat → Int32) (F_s : Nat) : Prop := ∀ (x1_s x2_s x3 x4_s x5_s : Int32) (p_s d_s : Nat) (f_s : Nat → Nat → Int32), qS nh ni f0_s x1_s x2_s x3 p_s d_s f_s → d_s < ni → (x4_s.toInt = 0 → ¬ wtS ni (kyI f0_s) (hdR f0_s) p_s d_s) → (¬ x4_s.toInt = 0 → wtS ni (kyI f0_s) (hdR f0_s) p_s d_s) → (x5_s.toInt = 0 → ¬ fyS nh (hkI f0_s) (hdR f0_s) p_s d_s) → (¬ x5_s.toInt = 0 → fyS nh (hkI f0_s) (hdR f0_s) p_s d_s) → wF F_s 200 (178, [some (.ref 102), some (.int x1_s), some (.int x2_s), some (.int x3), some (.int x4_s), some (.int x5_s)], [], (h_s.1, f_s, h_s.2.2.1, h_s.2.2.2)) (gI K_s)
theorem d33_s {F_s : Nat} (hk : hKn h_s) (hc_s : tM nh ni nr f0_s) (i4_s : D43 h_s K_s ni f0_s F_s) (i8_s : D88 h_s K_s nh ni f0_s F_s) : D33 h_s K_s ni f0_s (F_s + 1) := by
  intro x1_s l2 l3 l4 l5 n_s f_s g_s e1_s hn hi_s
  have e7_s : f_s 102 7 = f0_s 102 7 := g_s.1 _ _ (by omega)
  refine sg_200_33 (h_s := (h_s.1, f_s, h_s.2.2.1, h_s.2.2.2)) hk ?_
  dsimp only
  rw [e7_s, hc_s.2.1.2.1, e1_s]
  refine ⟨fun c1_s => i4_s x1_s 0 l3 l4 l5 n_s 0 f_s g_s e1_s (by omega) rfl (Nat.zero_le _) hi_s (fun e_s he => absurd he (Nat.not_lt_zero e_s)), fun c1_s => ?_⟩
  have en : n_s = ni := by omega
  subst en
  exact i8_s 0 l2 l3 l4 l5 0 f_s g_s hi_s rfl (Nat.zero_le _) (fun q_s d_s hq _ => absurd hq (Nat.not_lt_zero q_s))
theorem d43_s {F_s : Nat} (hk : hKn h_s) (hc_s : tM nh ni nr f0_s) (t0_s : ¬ stS nh ni (kyI f0_s) (hkI f0_s) (hdR f0_s) → ∀ f1_s, K_s 0 (h_s.1, f1_s, h_s.2.2.1, h_s.2.2.2)) (i3_s : D33 h_s K_s ni f0_s F_s) (i4_s : D43 h_s K_s ni f0_s F_s) : D43 h_s K_s ni f0_s (F_s + 1) := by
  intro x1_s x2_s l3 l4 l5 n_s m_s f_s g_s e1_s hn e2_s hm_s hi_s hv
  have b_s := hc_s.1
  have z1 := azix (i := x1_s) (by omega)
  have ez1 : zix x1_s = n_s := by omega
  have z2 := azix (i := x2_s) (by omega)
  have ez2 : zix x2_s = m_s := by omega
  have nx : m_s < n_s → (0 ≤ hdR f0_s n_s → ¬ hdR f0_s n_s = hdR f0_s m_s) → wF F_s 200 (43, [some (.ref 102), some (.int x1_s), some (.int (x2_s + 1)), l3, l4, l5], [], (h_s.1, f_s, h_s.2.2.1, h_s.2.2.2)) (gI K_s) := fun wm w_s => by
    refine i4_s x1_s (x2_s + 1) l3 l4 l5 n_s (m_s + 1) f_s g_s e1_s hn (by rw [in1_ (by omega)]; omega) (by omega) hi_s (fun e_s he => ?_)
    by_cases ee : e_s = m_s
    · rw [ee]
      exact w_s
    · exact hv e_s (by omega)
  refine sg_200_43 (h_s := (h_s.1, f_s, h_s.2.2.1, h_s.2.2.2)) hk ?_
  dsimp only
  rw [ez1, ez2, g_s.2 n_s hn, e1_s, e2_s]
  refine ⟨fun c1_s => fun c2_s => ⟨fun c3_s => nx (by omega) (fun w_s => by omega), fun c3_s => fun c5_s => ?_⟩, fun c1_s => ?_⟩
  · rw [g_s.2 m_s (by omega)]
    refine ⟨fun c6_s => t0_s (fun s_s => ?_) f_s, fun c6_s => nx (by omega) (fun _ => c6_s)⟩
    have := s_s.1 n_s m_s hn (by omega) (by omega) c6_s
    omega
  · refine i3_s (x1_s + 1) _ l3 l4 l5 (n_s + 1) f_s g_s (by rw [in1_ (by omega)]; omega) (by omega) (fun i_s j_s hi1 hj1 h0 he => ?_)
    by_cases ei : i_s = n_s
    · by_cases ej : j_s = n_s
      · rw [ei, ej]
      · rw [ei] at h0 he
        exact absurd he (hv j_s (by omega) h0)
    · by_cases ej : j_s = n_s
      · rw [ej] at he
        exact absurd he.symm (hv i_s (by omega) (by omega))
      · exact hi_s i_s j_s (by omega) (by omega) h0 he
theorem d88_s {F_s : Nat} (hk : hKn h_s) (hc_s : tM nh ni nr f0_s) (t1_s : stS nh ni (kyI f0_s) (hkI f0_s) (hdR f0_s) → ∀ f1_s, K_s 1 (h_s.1, f1_s, h_s.2.2.1, h_s.2.2.2)) (i1_s : D104 h_s K_s nh ni f0_s F_s) : D88 h_s K_s nh ni f0_s (F_s + 1) := by
  intro x1_s l2 l3 l4 l5 p_s f_s g_s hi_s e1_s hp hu
  have e6_s : f_s 102 6 = f0_s 102 6 := g_s.1 _ _ (by omega)
  have mf : tM nh ni nr f_s := tM_fr (fun k_s _ _ => g_s.1 _ _ (by omega)) (fun k_s _ => g_s.1 _ _ (by omega)) hc_s
  refine sg_200_88 (h_s := (h_s.1, f_s, h_s.2.2.1, h_s.2.2.2)) hk ?_
  dsimp only
  rw [e6_s, hc_s.2.1.1, e1_s]
  refine ⟨fun c1_s => ?_, fun c1_s => t1_s ⟨hi_s, fun q_s d_s hq hd_s => hu q_s d_s (by omega) hd_s⟩ f_s⟩
  refine sp_197 (h_s := (h_s.1, f_s, h_s.2.2.1, h_s.2.2.2)) (f_s := f_s) (p_s := p_s) hk mf e1_s (fun v_s hv _ => ?_)
  refine i1_s x1_s v_s 0 l4 l5 p_s 0 f_s ⟨g_s, hi_s, e1_s, by omega, rfl, ?_, hu, fun e_s he => absurd he (Nat.not_lt_zero e_s)⟩ (Nat.zero_le _)
  rcases hv with ⟨w1_s, w2_s⟩ | ⟨i_s, w1_s, w2_s, w3_s⟩
  · exact Or.inl ⟨w1_s, fun i_s hi1 => by rw [← g_s.2 i_s hi1]; exact w2_s i_s hi1⟩
  · exact Or.inr ⟨i_s, w1_s, w2_s, by rw [← g_s.2 i_s w1_s]; exact w3_s⟩
theorem d104_s {F_s : Nat} (hk : hKn h_s) (hc_s : tM nh ni nr f0_s) (i8_s : D88 h_s K_s nh ni f0_s F_s) (i3_s : D138 h_s K_s nh ni f0_s F_s) : D104 h_s K_s nh ni f0_s (F_s + 1) := by
  intro x1_s x2_s x3 l4 l5 p_s d_s f_s q_s hd_s
  have b_s := hc_s.1
  obtain ⟨g_s, hi_s, e1_s, hp, e3_s, ht, hu, hv⟩ := q_s
  have q_s : qS nh ni f0_s x1_s x2_s x3 p_s d_s f_s := ⟨g_s, hi_s, e1_s, hp, e3_s, ht, hu, hv⟩
  have e7_s : f_s 102 7 = f0_s 102 7 := g_s.1 _ _ (by omega)
  have mf : tM nh ni nr f_s := tM_fr (fun k_s _ _ => g_s.1 _ _ (by omega)) (fun k_s _ => g_s.1 _ _ (by omega)) hc_s
  obtain ⟨ek, eh⟩ := ky_fr (f_s := f_s) (f0_s := f0_s) (fun k_s => g_s.1 103 k_s (by omega))
  refine sg_200_104 (h_s := (h_s.1, f_s, h_s.2.2.1, h_s.2.2.2)) hk ?_
  dsimp only
  rw [e7_s, hc_s.2.1.2.1, e3_s]
  refine ⟨fun c1_s => ?_, fun c1_s => ?_⟩
  · have hdn : d_s < ni := by omega
    refine ⟨fun c2_s => i3_s x1_s x2_s x3 1 l5 p_s d_s f_s q_s hdn (fun w_s => absurd w_s (by decide)) (fun _ o ho w_s => ?_), fun c2_s => ?_⟩
    · rcases ht with u_s | ⟨i_s, u1_s, u2_s, u3⟩
      · exact absurd w_s (u_s.2 o ho)
      · omega
    · obtain ⟨i_s, u1_s, u2_s, u3⟩ : ∃ i_s : Nat, i_s < ni ∧ x2_s.toInt = (i_s : Int) ∧ hdR f0_s i_s = (p_s : Int) := by
        rcases ht with u_s | u_s
        · omega
        · exact u_s
      refine ⟨fun c3_s => i3_s x1_s x2_s x3 0 l5 p_s d_s f_s q_s hdn (fun _ w_s => ?_) (fun w_s => absurd rfl w_s), fun c3_s => ?_⟩
      · have ed : i_s = d_s := by omega
        have := w_s d_s hdn (by rw [← ed]; exact u3)
        omega
      · refine sp_195 (h_s := (h_s.1, f_s, h_s.2.2.1, h_s.2.2.2)) (f_s := f_s) (p_s := p_s) (i_s := d_s) (o := i_s) hk mf e1_s e3_s u2_s hp hdn u1_s (fun w_s _ => ⟨fun c_s => absurd c_s (by decide), fun _ => i3_s x1_s x2_s x3 1 l5 p_s d_s f_s q_s hdn (fun w_s => absurd w_s (by decide)) (fun _ o ho wo => ?_)⟩) (fun w_s _ => ⟨fun _ => i3_s x1_s x2_s x3 0 l5 p_s d_s f_s q_s hdn (fun _ wt => ?_) (fun w_s => absurd rfl w_s), fun c_s => absurd rfl c_s⟩)
        · have eo : o = i_s := hi_s o i_s ho u1_s (by omega) (by omega)
          rw [ek] at w_s
          rw [eo]
          exact w_s
        · rw [ek] at w_s
          exact w_s (wt i_s u1_s u3)
  · have ed : d_s = ni := by omega
    subst ed
    refine i8_s (x1_s + 1) _ _ l4 l5 (p_s + 1) f_s g_s hi_s (by rw [in1_ (by omega)]; omega) (by omega) (fun q1_s e_s hq he => ?_)
    by_cases eq_s : q1_s = p_s
    · rw [eq_s]
      exact hv e_s he
    · exact hu q1_s e_s (by omega) he
theorem d138_s {F_s : Nat} (hk : hKn h_s) (hc_s : tM nh ni nr f0_s) (i7_s : D178 h_s K_s nh ni f0_s F_s) : D138 h_s K_s nh ni f0_s (F_s + 1) := by
  intro x1_s x2_s x3 x4_s l5 p_s d_s f_s q_s hd_s h0 h1
  have b_s := hc_s.1
  obtain ⟨g_s, hi_s, e1_s, hp, e3_s, ht, hu, hv⟩ := q_s
  have q_s : qS nh ni f0_s x1_s x2_s x3 p_s d_s f_s := ⟨g_s, hi_s, e1_s, hp, e3_s, ht, hu, hv⟩
  have z3 := azix (i := x3) (by omega)
  have ez3 : zix x3 = d_s := by omega
  have mf : tM nh ni nr f_s := tM_fr (fun k_s _ _ => g_s.1 _ _ (by omega)) (fun k_s _ => g_s.1 _ _ (by omega)) hc_s
  obtain ⟨ek, eh⟩ := ky_fr (f_s := f_s) (f0_s := f0_s) (fun k_s => g_s.1 103 k_s (by omega))
  have bd := tM_hd hc_s hd_s
  have hdd : hdR f0_s d_s = (f0_s 103 (60 + d_s)).toInt := rfl
  refine sg_200_138 (h_s := (h_s.1, f_s, h_s.2.2.1, h_s.2.2.2)) hk ?_
  dsimp only
  rw [ez3]
  have gd_s := g_s.2 d_s hd_s
  generalize hw : f_s 116 d_s = w_s at gd_s
  rw [gd_s, e1_s]
  refine fun c1_s => ⟨fun c2_s => i7_s x1_s x2_s x3 x4_s 1 p_s d_s f_s q_s hd_s h0 h1 (fun w_s => absurd w_s (by decide)) (fun _ => ⟨by omega, fun q1_s _ w_s => by omega⟩), fun c2_s => ⟨fun c4_s => i7_s x1_s x2_s x3 x4_s 0 p_s d_s f_s q_s hd_s h0 h1 (fun _ w_s => w_s.1 c4_s) (fun w_s => absurd rfl w_s), fun c4_s => ?_⟩⟩
  have e9_s : w_s.toInt = ((hdR f0_s d_s).toNat : Int) := by omega
  refine sp_196 (h_s := (h_s.1, f_s, h_s.2.2.1, h_s.2.2.2)) (f_s := f_s) (p_s := p_s) (q_s := (hdR f0_s d_s).toNat) hk mf e1_s e9_s hp (by omega) (fun w1_s _ => ⟨fun c_s => absurd c_s (by decide), fun _ => i7_s x1_s x2_s x3 x4_s 1 p_s d_s f_s q_s hd_s h0 h1 (fun w_s => absurd w_s (by decide)) (fun _ => ⟨c4_s, fun q1_s _ w2_s => ?_⟩)⟩) (fun w1_s _ => ⟨fun _ => i7_s x1_s x2_s x3 x4_s 0 p_s d_s f_s q_s hd_s h0 h1 (fun _ w2_s => ?_) (fun w_s => absurd rfl w_s), fun c_s => absurd rfl c_s⟩)
  · rw [eh] at w1_s
    have eq_s : q1_s = (hdR f0_s d_s).toNat := by omega
    rw [eq_s]
    exact w1_s
  · rw [eh] at w1_s
    exact w1_s (w2_s.2 _ (by omega) (by omega))
theorem d178_s {F_s : Nat} (hk : hKn h_s) (hc_s : tM nh ni nr f0_s) (t0_s : ¬ stS nh ni (kyI f0_s) (hkI f0_s) (hdR f0_s) → ∀ f1_s, K_s 0 (h_s.1, f1_s, h_s.2.2.1, h_s.2.2.2)) (i1_s : D104 h_s K_s nh ni f0_s F_s) : D178 h_s K_s nh ni f0_s (F_s + 1) := by
  intro x1_s x2_s x3 x4_s x5_s p_s d_s f_s q_s hd_s h0 h1 h2 h3
  have b_s := hc_s.1
  obtain ⟨g_s, hi_s, e1_s, hp, e3_s, ht, hu, hv⟩ := q_s
  have nx : ¬ unS nh ni (kyI f0_s) (hkI f0_s) (hdR f0_s) p_s d_s → wF F_s 200 (104, [some (.ref 102), some (.int x1_s), some (.int x2_s), some (.int (x3 + 1)), some (.int x4_s), some (.int x5_s)], [], (h_s.1, f_s, h_s.2.2.1, h_s.2.2.2)) (gI K_s) := fun w_s => by
    refine i1_s x1_s x2_s (x3 + 1) _ _ p_s (d_s + 1) f_s ⟨g_s, hi_s, e1_s, hp, by rw [in1_ (by omega)]; omega, ht, hu, fun e_s he => ?_⟩ (by omega)
    by_cases ee : e_s = d_s
    · rw [ee]
      exact w_s
    · exact hv e_s (by omega)
  exact sg_200_178 (h_s := (h_s.1, f_s, h_s.2.2.1, h_s.2.2.2)) hk ⟨fun c1_s => nx (fun u_s => h0 c1_s u_s.2.1), fun c1_s => ⟨fun c2_s => nx (fun u_s => h2 c2_s ⟨u_s.1, u_s.2.2⟩), fun c2_s => t0_s (fun s_s => s_s.2 p_s d_s hp hd_s ⟨(h3 c2_s).1, h1 c1_s, (h3 c2_s).2⟩) f_s⟩⟩
theorem d_all (hk : hKn h_s) (hc_s : tM nh ni nr f0_s) (t1_s : stS nh ni (kyI f0_s) (hkI f0_s) (hdR f0_s) → ∀ f1_s, K_s 1 (h_s.1, f1_s, h_s.2.2.1, h_s.2.2.2)) (t0_s : ¬ stS nh ni (kyI f0_s) (hkI f0_s) (hdR f0_s) → ∀ f1_s, K_s 0 (h_s.1, f1_s, h_s.2.2.1, h_s.2.2.2)) : ∀ F_s, (D33 h_s K_s ni f0_s F_s ∧ D43 h_s K_s ni f0_s F_s) ∧ D88 h_s K_s nh ni f0_s F_s ∧ D104 h_s K_s nh ni f0_s F_s ∧ D138 h_s K_s nh ni f0_s F_s ∧ D178 h_s K_s nh ni f0_s F_s
  | 0 => ⟨⟨fun _ _ _ _ _ _ _ _ _ _ _ => wF_zero, fun _ _ _ _ _ _ _ _ _ _ _ _ _ _ _ => wF_zero⟩, fun _ _ _ _ _ _ _ _ _ _ _ _ => wF_zero, fun _ _ _ _ _ _ _ _ _ _ => wF_zero, fun _ _ _ _ _ _ _ _ _ _ _ _ => wF_zero, fun _ _ _ _ _ _ _ _ _ _ _ _ _ _ => wF_zero⟩
  | F_s + 1 => by
    obtain ⟨⟨i3_s, i4_s⟩, i8_s, i1_s, i13, i17⟩ := d_all hk hc_s t1_s t0_s F_s
    exact ⟨⟨d33_s hk hc_s i4_s i8_s, d43_s hk hc_s t0_s i3_s i4_s⟩, d88_s hk hc_s t1_s i1_s, d104_s hk hc_s i8_s i13, d138_s hk hc_s i17, d178_s hk hc_s t0_s i1_s⟩
theorem d2 (hk : hKn h_s) (hc_s : tM nh ni nr f0_s) (t1_s : stS nh ni (kyI f0_s) (hkI f0_s) (hdR f0_s) → ∀ f1_s, K_s 1 (h_s.1, f1_s, h_s.2.2.1, h_s.2.2.2)) (t0_s : ¬ stS nh ni (kyI f0_s) (hkI f0_s) (hdR f0_s) → ∀ f1_s, K_s 0 (h_s.1, f1_s, h_s.2.2.1, h_s.2.2.2)) : ∀ (F_s n_s : Nat) (x1_s : Int32) (l2 l3 l4 l5 : Option Value) (f_s : Nat → Nat → Int32), (∀ a_s k_s, ¬ a_s = 116 → f_s a_s k_s = f0_s a_s k_s) → (∀ i_s, i_s < n_s → (f_s 116 i_s).toInt = hdR f0_s i_s) → x1_s.toInt = (n_s : Int) → n_s ≤ ni → wF F_s 200 (2, [some (.ref 102), some (.int x1_s), l2, l3, l4, l5], [], (h_s.1, f_s, h_s.2.2.1, h_s.2.2.2)) (gI K_s)
  | 0, _, _, _, _, _, _, _, _, _, _, _ => wF_zero
  | F_s + 1, n_s, x1_s, l2, l3, l4, l5, f_s, g_s, g2, e1_s, hn => by
    have b_s := hc_s.1
    have z1 := azix (i := x1_s) (by omega)
    have ez1 : zix x1_s = n_s := by omega
    have e7_s : f_s 102 7 = f0_s 102 7 := g_s _ _ (by omega)
    have z60_s : zix (60 + x1_s) = 60 + n_s := zxa (c_s := 60) (a_s := 60) rfl e1_s (by omega)
    refine sg_200_2 (h_s := (h_s.1, f_s, h_s.2.2.1, h_s.2.2.2)) hk ?_
    dsimp only
    rw [e7_s, hc_s.2.1.2.1, ez1, z60_s, e1_s]
    refine ⟨fun c1_s => fun c2_s => fun c3_s => ?_, fun c1_s => ?_⟩
    · refine d2 hk hc_s t1_s t0_s F_s (n_s + 1) (x1_s + 1) l2 l3 l4 l5 _ (fun a_s k_s w_s => ?_) (fun i_s hi_s => ?_) (by rw [in1_ (by omega)]; omega) (by omega)
      · rw [zne_up (by omega)]
        exact g_s a_s k_s w_s
      · by_cases ei : i_s = n_s
        · rw [ei, zsame_up, g_s 103 _ (by omega)]
          rfl
        · rw [zne_up (by omega)]
          exact g2 i_s (by omega)
    · have en : n_s = ni := by omega
      subst en
      exact (d_all hk hc_s t1_s t0_s F_s).1.1 0 l2 l3 l4 l5 0 f_s ⟨g_s, g2⟩ rfl (Nat.zero_le _) (fun i_s j_s hi_s _ _ _ => absurd hi_s (Nat.not_lt_zero i_s))
theorem sp_200 {F_s : Nat} (hk : hKn h_s) (hc_s : tM nh ni nr f0_s) (t1_s : stS nh ni (kyI f0_s) (hkI f0_s) (hdR f0_s) → ∀ f1_s, K_s 1 (h_s.1, f1_s, h_s.2.2.1, h_s.2.2.2)) (t0_s : ¬ stS nh ni (kyI f0_s) (hkI f0_s) (hdR f0_s) → ∀ f1_s, K_s 0 (h_s.1, f1_s, h_s.2.2.1, h_s.2.2.2)) : wF F_s 200 (0, [some (.ref 102), none, none, none, none, none], [], (h_s.1, f0_s, h_s.2.2.1, h_s.2.2.2)) (gI K_s) := wF_le (Nat.le_succ F_s) (sg_200_0 (h_s := (h_s.1, f0_s, h_s.2.2.1, h_s.2.2.2)) hk (d2 hk hc_s t1_s t0_s F_s 0 0 none none none none f0_s (fun _ _ _ => rfl) (fun i_s hi_s => absurd hi_s (Nat.not_lt_zero i_s)) rfl (Nat.zero_le _)))
theorem pr_settled {F_s : Nat} (hk : hKn h_s) (hx : tX h_s) : wF F_s 108 (0, [some (.ref 6)], [], h_s) (gI (fun v_s h1 => wF F_s 200 (0, [some (.ref 102), none, none, none, none, none], [], h1) (gI (fun v2 _ => v_s = v2)))) := by
  obtain ⟨nh, ni, nr, hc_s, _, _, _, _, _⟩ := hx
  have m0_s := tC_M hc_s
  have eqd : ∀ i_s, i_s < ni → hdC h_s.2.1 i_s = hdR h_s.2.1 i_s := fun i_s hi_s => by
    show (h_s.2.1 (20 + i_s) 6).toInt = _
    rw [(tC_hd hc_s hi_s).1]
    rfl
  refine wF_le (Nat.le_succ F_s) (sg_108_0 (h_s := h_s) hk ?_)
  have rf : ∀ f1_s : Nat → Nat → Int32, (∀ a_s k_s, ¬ (a_s = 12 ∧ k_s < 6) → f1_s a_s k_s = h_s.2.1 a_s k_s) → ∀ v_s : Int32, (stS nh ni (kyI h_s.2.1) (hkI h_s.2.1) (hdC h_s.2.1) → v_s = 1) → (¬ stS nh ni (kyI h_s.2.1) (hkI h_s.2.1) (hdC h_s.2.1) → v_s = 0) → wF F_s 200 (0, [some (.ref 102), none, none, none, none, none], [], (h_s.1, f1_s, h_s.2.2.1, h_s.2.2.2)) (gI (fun v2 _ => v_s = v2)) := fun f1_s g_s v_s v1_s v0_s => by
    have m1_s : tM nh ni nr f1_s := tM_fr (fun k_s _ _ => g_s _ _ (by omega)) (fun k_s _ => g_s _ _ (by omega)) m0_s
    obtain ⟨ek, eh⟩ := ky_fr (f_s := f1_s) (f0_s := h_s.2.1) (fun k_s => g_s 103 k_s (by omega))
    have er : hdR f1_s = hdR h_s.2.1 := by
      funext i_s
      unfold hdR
      rw [g_s 103 _ (by omega)]
    refine sp_200 (h_s := (h_s.1, f1_s, h_s.2.2.1, h_s.2.2.2)) (f0_s := f1_s) hk m1_s (fun s_s _ => ?_) (fun s_s _ => ?_)
    · rw [ek, eh, er] at s_s
      exact v1_s (stS_c eqd s_s)
    · rw [ek, eh, er] at s_s
      exact v0_s (fun u_s => s_s (stS_c (fun i_s hi_s => (eqd i_s hi_s).symm) u_s))
  refine sp_30 (f0_s := h_s.2.1) hk hc_s (fun s_s f1_s g_s hk1 => ⟨fun c_s => absurd c_s (by decide), fun _ => rf f1_s g_s 1 (fun _ => rfl) (fun u_s => absurd s_s u_s)⟩) (fun s_s f1_s g_s hk1 => ⟨fun _ => rf f1_s g_s 0 (fun u_s => absurd u_s s_s) (fun _ => rfl), fun c_s => absurd rfl c_s⟩)
end SR
/-! CONTRACTS of the calls, as what ended runs keep: printed by a program (wip/fun/mklaw.py). -/
theorem cm_93 {F_s : Nat} {x1_s : Int32} {h_s : zH} (hI : hIw h_s) : wF F_s 93 (0, [some (.ref 6), some (.int x1_s)], [], h_s) (gI (fun _ h1 => hIw h1 ∧ aFr (aWf kE1148.2.2.2.2.2) h_s h1)) := cxI kok1148 (rel1 (n_s := 0) hI) hI.2 rfl rfl
theorem cm_155 {F_s : Nat} {x1_s : Int32} {h_s : zH} (hI : hIw h_s) : wF F_s 155 (0, [some (.ref 102), some (.int x1_s)], [], h_s) (gI (fun _ h1 => hIw h1 ∧ aFr (aWf kE1149.2.2.2.2.2) h_s h1)) := cxI kok1149 (rel1 (n_s := 0) hI) hI.2 rfl rfl
theorem cm_94 {F_s : Nat} {x1_s : Int32} {x2_s : Int32} {h_s : zH} (hI : hIw h_s) : wF F_s 94 (0, [some (.ref 6), some (.int x1_s), some (.int x2_s), none], [], h_s) (gI (fun _ h1 => hIw h1 ∧ aFr (aWf kE1146.2.2.2.2.2) h_s h1)) := cxI kok1146 (rel2 (n_s := 1) hI) hI.2 rfl rfl
theorem cm_156 {F_s : Nat} {x1_s : Int32} {x2_s : Int32} {h_s : zH} (hI : hIw h_s) : wF F_s 156 (0, [some (.ref 102), some (.int x1_s), some (.int x2_s)], [], h_s) (gI (fun _ h1 => hIw h1 ∧ aFr (aWf kE1147.2.2.2.2.2) h_s h1)) := cxI kok1147 (rel2 (n_s := 0) hI) hI.2 rfl rfl
theorem cm_95 {F_s : Nat} {x1_s : Int32} {x2_s : Int32} {h_s : zH} (hI : hIw h_s) : wF F_s 95 (0, [some (.ref 6), some (.int x1_s), some (.int x2_s)], [], h_s) (gI (fun _ h1 => hIw h1 ∧ aFr (aWf kE1144.2.2.2.2.2) h_s h1)) := cxI kok1144 (rel2 (n_s := 0) hI) hI.2 rfl rfl
theorem cm_159 {F_s : Nat} {x1_s : Int32} {x2_s : Int32} {h_s : zH} (hI : hIw h_s) : wF F_s 159 (0, [some (.ref 102), some (.int x1_s), some (.int x2_s)], [], h_s) (gI (fun _ h1 => hIw h1 ∧ aFr (aWf kE1145.2.2.2.2.2) h_s h1)) := cxI kok1145 (rel2 (n_s := 0) hI) hI.2 rfl rfl
theorem cm_96 {F_s : Nat} {x1_s : Int32} {x2_s : Int32} {x3 : Int32} {h_s : zH} (hI : hIw h_s) : wF F_s 96 (0, [some (.ref 6), some (.int x1_s), some (.int x2_s), some (.int x3), none, none, none], [], h_s) (gI (fun _ h1 => hIw h1 ∧ aFr (aWf kE1142.2.2.2.2.2) h_s h1)) := cxI kok1142 (rel3 (n_s := 3) hI) hI.2 rfl rfl
theorem cm_160 {F_s : Nat} {x1_s : Int32} {x2_s : Int32} {x3 : Int32} {h_s : zH} (hI : hIw h_s) : wF F_s 160 (0, [some (.ref 102), some (.int x1_s), some (.int x2_s), some (.int x3), none, none, none], [], h_s) (gI (fun _ h1 => hIw h1 ∧ aFr (aWf kE1143.2.2.2.2.2) h_s h1)) := cxI kok1143 (rel3 (n_s := 3) hI) hI.2 rfl rfl
theorem cm_98 {F_s : Nat} {x1_s : Int32} {x2_s : Int32} {x3 : Int32} {h_s : zH} (hI : hIw h_s) : wF F_s 98 (0, [some (.ref 6), some (.int x1_s), some (.int x2_s), some (.int x3), none], [], h_s) (gI (fun _ h1 => hIw h1 ∧ aFr (aWf kE1128.2.2.2.2.2) h_s h1)) := cxI kok1128 (rel3 (n_s := 1) hI) hI.2 rfl rfl
theorem cm_163 {F_s : Nat} {x1_s : Int32} {x2_s : Int32} {x3 : Int32} {h_s : zH} (hI : hIw h_s) : wF F_s 163 (0, [some (.ref 102), some (.int x1_s), some (.int x2_s), some (.int x3), none], [], h_s) (gI (fun _ h1 => hIw h1 ∧ aFr (aWf kE1141.2.2.2.2.2) h_s h1)) := cxI kok1141 (rel3 (n_s := 1) hI) hI.2 rfl rfl
theorem cm_99 {F_s : Nat} {x1_s : Int32} {x2_s : Int32} {h_s : zH} (hI : hIw h_s) : wF F_s 99 (0, [some (.ref 6), some (.int x1_s), some (.int x2_s)], [], h_s) (gI (fun _ h1 => hIw h1 ∧ aFr (aWf kE1125.2.2.2.2.2) h_s h1)) := cxI kok1125 (rel2 (n_s := 0) hI) hI.2 rfl rfl
theorem cm_164 {F_s : Nat} {x1_s : Int32} {x2_s : Int32} {h_s : zH} (hI : hIw h_s) : wF F_s 164 (0, [some (.ref 102), some (.int x1_s), some (.int x2_s), none], [], h_s) (gI (fun _ h1 => hIw h1 ∧ aFr (aWf kE1126.2.2.2.2.2) h_s h1)) := cxI kok1126 (rel2 (n_s := 1) hI) hI.2 rfl rfl
theorem cm_100 {F_s : Nat} {x1_s : Int32} {h_s : zH} (hI : hIw h_s) : wF F_s 100 (0, [some (.ref 6), some (.int x1_s)], [], h_s) (gI (fun _ h1 => hIw h1 ∧ aFr (aWf kE1123.2.2.2.2.2) h_s h1)) := cxI kok1123 (rel1 (n_s := 0) hI) hI.2 rfl rfl
theorem cm_165 {F_s : Nat} {x1_s : Int32} {h_s : zH} (hI : hIw h_s) : wF F_s 165 (0, [some (.ref 102), some (.int x1_s)], [], h_s) (gI (fun _ h1 => hIw h1 ∧ aFr (aWf kE1124.2.2.2.2.2) h_s h1)) := cxI kok1124 (rel1 (n_s := 0) hI) hI.2 rfl rfl
theorem cm_101 {F_s : Nat}  {h_s : zH} (hI : hIw h_s) : wF F_s 101 (0, [some (.ref 6), none, none], [], h_s) (gI (fun _ h1 => hIw h1 ∧ aFr (aWf kE1121.2.2.2.2.2) h_s h1)) := cxI kok1121 (rel0 (n_s := 2) hI) hI.2 rfl rfl
theorem cm_177 {F_s : Nat}  {h_s : zH} (hI : hIw h_s) : wF F_s 177 (0, [some (.ref 102), none, none, none], [], h_s) (gI (fun _ h1 => hIw h1 ∧ aFr (aWf kE1122.2.2.2.2.2) h_s h1)) := cxI kok1122 (rel0 (n_s := 3) hI) hI.2 rfl rfl
theorem cm_102 {F_s : Nat} {x1_s : Int32} {x2_s : Int32} {h_s : zH} (hI : hIw h_s) : wF F_s 102 (0, [some (.ref 6), some (.int x1_s), some (.int x2_s)], [], h_s) (gI (fun _ h1 => hIw h1 ∧ aFr (aWf kE1013.2.2.2.2.2) h_s h1)) := cxI kok1013 (rel2 (n_s := 0) hI) hI.2 rfl rfl
theorem cm_181 {F_s : Nat} {x1_s : Int32} {x2_s : Int32} {h_s : zH} (hI : hIw h_s) : wF F_s 181 (0, [some (.ref 102), some (.int x1_s), some (.int x2_s)], [], h_s) (gI (fun _ h1 => hIw h1 ∧ aFr (aWf kE1014.2.2.2.2.2) h_s h1)) := cxI kok1014 (rel2 (n_s := 0) hI) hI.2 rfl rfl
theorem cm_103 {F_s : Nat} {x1_s : Int32} {x2_s : Int32} {x3 : Int32} {h_s : zH} (hI : hIw h_s) : wF F_s 103 (0, [some (.ref 6), some (.int x1_s), some (.int x2_s), some (.int x3), none, none, none], [], h_s) (gI (fun _ h1 => hIw h1 ∧ aFr (aWf kE1011.2.2.2.2.2) h_s h1)) := cxI kok1011 (rel3 (n_s := 3) hI) hI.2 rfl rfl
theorem cm_189 {F_s : Nat} {x1_s : Int32} {x2_s : Int32} {x3 : Int32} {h_s : zH} (hI : hIw h_s) : wF F_s 189 (0, [some (.ref 102), some (.int x1_s), some (.int x2_s), some (.int x3)], [], h_s) (gI (fun _ h1 => hIw h1 ∧ aFr (aWf kE1012.2.2.2.2.2) h_s h1)) := cxI kok1012 (rel3 (n_s := 0) hI) hI.2 rfl rfl
theorem cm_104 {F_s : Nat} {x1_s : Int32} {x2_s : Int32} {x3 : Int32} {h_s : zH} (hI : hIw h_s) : wF F_s 104 (0, [some (.ref 6), some (.int x1_s), some (.int x2_s), some (.int x3), none, none], [], h_s) (gI (fun _ h1 => hIw h1 ∧ aFr (aWf kE912.2.2.2.2.2) h_s h1)) := cxI kok912 (rel3 (n_s := 2) hI) hI.2 rfl rfl
theorem cm_191 {F_s : Nat} {x1_s : Int32} {x2_s : Int32} {x3 : Int32} {h_s : zH} (hI : hIw h_s) : wF F_s 191 (0, [some (.ref 102), some (.int x1_s), some (.int x2_s), some (.int x3), none], [], h_s) (gI (fun _ h1 => hIw h1 ∧ aFr (aWf kE1009.2.2.2.2.2) h_s h1)) := cxI kok1009 (rel3 (n_s := 1) hI) hI.2 rfl rfl
theorem cm_105 {F_s : Nat} {x1_s : Int32} {x2_s : Int32} {x3 : Int32} {h_s : zH} (hI : hIw h_s) : wF F_s 105 (0, [some (.ref 6), some (.int x1_s), some (.int x2_s), some (.int x3)], [], h_s) (gI (fun _ h1 => hIw h1 ∧ aFr (aWf kE304.2.2.2.2.2) h_s h1)) := cxI kok304 (rel3 (n_s := 0) hI) hI.2 rfl rfl
theorem cm_193 {F_s : Nat} {x1_s : Int32} {x2_s : Int32} {x3 : Int32} {h_s : zH} (hI : hIw h_s) : wF F_s 193 (0, [some (.ref 102), some (.int x1_s), some (.int x2_s), some (.int x3)], [], h_s) (gI (fun _ h1 => hIw h1 ∧ aFr (aWf kE560.2.2.2.2.2) h_s h1)) := cxI kok560 (rel3 (n_s := 0) hI) hI.2 rfl rfl
theorem cm_106 {F_s : Nat} {x1_s : Int32} {x2_s : Int32} {h_s : zH} (hI : hIw h_s) : wF F_s 106 (0, [some (.ref 6), some (.int x1_s), some (.int x2_s), none, none, none, none, none, none], [], h_s) (gI (fun _ h1 => hIw h1 ∧ aFr (aWf kE279.2.2.2.2.2) h_s h1)) := cxI kok279 (rel2 (n_s := 6) hI) hI.2 rfl rfl
theorem cm_194 {F_s : Nat} {x1_s : Int32} {x2_s : Int32} {h_s : zH} (hI : hIw h_s) : wF F_s 194 (0, [some (.ref 102), some (.int x1_s), some (.int x2_s), none, none, none], [], h_s) (gI (fun _ h1 => hIw h1 ∧ aFr (aWf kE280.2.2.2.2.2) h_s h1)) := cxI kok280 (rel2 (n_s := 3) hI) hI.2 rfl rfl
theorem cm_107 {F_s : Nat} {x1_s : Int32} {h_s : zH} (hI : hIw h_s) : wF F_s 107 (0, [some (.ref 6), some (.int x1_s)], [], h_s) (gI (fun _ h1 => hIw h1 ∧ aFr (aWf kE277.2.2.2.2.2) h_s h1)) := cxI kok277 (rel1 (n_s := 0) hI) hI.2 rfl rfl
theorem cm_199 {F_s : Nat} {x1_s : Int32} {h_s : zH} (hI : hIw h_s) : wF F_s 199 (0, [some (.ref 102), some (.int x1_s)], [], h_s) (gI (fun _ h1 => hIw h1 ∧ aFr (aWf kE278.2.2.2.2.2) h_s h1)) := cxI kok278 (rel1 (n_s := 0) hI) hI.2 rfl rfl
theorem cm_108 {F_s : Nat}  {h_s : zH} (hI : hIw h_s) : wF F_s 108 (0, [some (.ref 6)], [], h_s) (gI (fun _ h1 => hIw h1 ∧ aFr (aWf kE274.2.2.2.2.2) h_s h1)) := cxI kok274 (rel0 (n_s := 0) hI) hI.2 rfl rfl
theorem cm_200 {F_s : Nat}  {h_s : zH} (hI : hIw h_s) : wF F_s 200 (0, [some (.ref 102), none, none, none, none, none], [], h_s) (gI (fun _ h1 => hIw h1 ∧ aFr (aWf kE276.2.2.2.2.2) h_s h1)) := cxI kok276 (rel0 (n_s := 5) hI) hI.2 rfl rfl
theorem cm_109 {F_s : Nat} {x1_s : Int32} {h_s : zH} (hI : hIw h_s) : wF F_s 109 (0, [some (.ref 6), some (.int x1_s), none], [], h_s) (gI (fun _ h1 => hIw h1 ∧ aFr (aWf kE270.2.2.2.2.2) h_s h1)) := cxI kok270 (rel1 (n_s := 1) hI) hI.2 rfl rfl
theorem cm_202 {F_s : Nat} {x1_s : Int32} {h_s : zH} (hI : hIw h_s) : wF F_s 202 (0, [some (.ref 102), some (.int x1_s), none, none, none, none, none], [], h_s) (gI (fun _ h1 => hIw h1 ∧ aFr (aWf kE272.2.2.2.2.2) h_s h1)) := cxI kok272 (rel1 (n_s := 5) hI) hI.2 rfl rfl
theorem cm_110 {F_s : Nat} {x1_s : Int32} {x2_s : Int32} {h_s : zH} (hI : hIw h_s) : wF F_s 110 (0, [some (.ref 6), some (.int x1_s), some (.int x2_s), none], [], h_s) (gI (fun _ h1 => hIw h1 ∧ aFr (aWf kE265.2.2.2.2.2) h_s h1)) := cxI kok265 (rel2 (n_s := 1) hI) hI.2 rfl rfl
theorem cm_205 {F_s : Nat} {x1_s : Int32} {x2_s : Int32} {h_s : zH} (hI : hIw h_s) : wF F_s 205 (0, [some (.ref 102), some (.int x1_s), some (.int x2_s)], [], h_s) (gI (fun _ h1 => hIw h1 ∧ aFr (aWf kE266.2.2.2.2.2) h_s h1)) := cxI kok266 (rel2 (n_s := 0) hI) hI.2 rfl rfl
theorem cm_111 {F_s : Nat} {x1_s : Int32} {x2_s : Int32} {x3 : Int32} {h_s : zH} (hI : hIw h_s) : wF F_s 111 (0, [some (.ref 6), some (.int x1_s), some (.int x2_s), some (.int x3), none, none, none, none, none], [], h_s) (gI (fun _ h1 => hIw h1 ∧ aFr (aWf kE156.2.2.2.2.2) h_s h1)) := cxI kok156 (rel3 (n_s := 5) hI) hI.2 rfl rfl
theorem cm_206 {F_s : Nat} {x1_s : Int32} {x2_s : Int32} {x3 : Int32} {h_s : zH} (hI : hIw h_s) : wF F_s 206 (0, [some (.ref 102), some (.int x1_s), some (.int x2_s), some (.int x3), none, none, none, none], [], h_s) (gI (fun _ h1 => hIw h1 ∧ aFr (aWf kE261.2.2.2.2.2) h_s h1)) := cxI kok261 (rel3 (n_s := 4) hI) hI.2 rfl rfl
theorem cm_112 {F_s : Nat} {x1_s : Int32} {x2_s : Int32} {x3 : Int32} {h_s : zH} (hI : hIw h_s) : wF F_s 112 (0, [some (.ref 6), some (.int x1_s), some (.int x2_s), some (.int x3), none], [], h_s) (gI (fun _ h1 => hIw h1 ∧ aFr (aWf kE116.2.2.2.2.2) h_s h1)) := cxI kok116 (rel3 (n_s := 1) hI) hI.2 rfl rfl
theorem cm_208 {F_s : Nat} {x1_s : Int32} {x2_s : Int32} {x3 : Int32} {h_s : zH} (hI : hIw h_s) : wF F_s 208 (0, [some (.ref 102), some (.int x1_s), some (.int x2_s), some (.int x3), none], [], h_s) (gI (fun _ h1 => hIw h1 ∧ aFr (aWf kE137.2.2.2.2.2) h_s h1)) := cxI kok137 (rel3 (n_s := 1) hI) hI.2 rfl rfl
theorem cm_116 {F_s : Nat} {x1_s : Int32} {x2_s : Int32} {x3 : Int32} {x4_s : Int32} {h_s : zH} (hI : hIw h_s) : wF F_s 116 (0, [some (.ref 6), some (.int x1_s), some (.int x2_s), some (.int x3), some (.int x4_s), none, none, none, none, none, none, none, none, none], [], h_s) (gI (fun _ h1 => hIw h1 ∧ aFr (aWf kE100.2.2.2.2.2) h_s h1)) := cxI kok100 (rel4 (n_s := 9) hI) hI.2 rfl rfl
theorem cm_209 {F_s : Nat} {x1_s : Int32} {x2_s : Int32} {x3 : Int32} {x4_s : Int32} {h_s : zH} (hI : hIw h_s) : wF F_s 209 (0, [some (.ref 102), some (.int x1_s), some (.int x2_s), some (.int x3), some (.int x4_s), none, none, none, none, none, none], [], h_s) (gI (fun _ h1 => hIw h1 ∧ aFr (aWf kE101.2.2.2.2.2) h_s h1)) := cxI kok101 (rel4 (n_s := 6) hI) hI.2 rfl rfl
theorem cm_117 {F_s : Nat} {x1_s : Int32} {x2_s : Int32} {h_s : zH} (hI : hIw h_s) : wF F_s 117 (0, [some (.ref 6), some (.int x1_s), some (.int x2_s), none], [], h_s) (gI (fun _ h1 => hIw h1 ∧ aFr (aWf kE93.2.2.2.2.2) h_s h1)) := cxI kok93 (rel2 (n_s := 1) hI) hI.2 rfl rfl
theorem cm_211 {F_s : Nat} {x1_s : Int32} {x2_s : Int32} {h_s : zH} (hI : hIw h_s) : wF F_s 211 (0, [some (.ref 102), some (.int x1_s), some (.int x2_s), none], [], h_s) (gI (fun _ h1 => hIw h1 ∧ aFr (aWf kE95.2.2.2.2.2) h_s h1)) := cxI kok95 (rel2 (n_s := 1) hI) hI.2 rfl rfl
theorem cm_118 {F_s : Nat} {x1_s : Int32} {x2_s : Int32} {h_s : zH} (hI : hIw h_s) : wF F_s 118 (0, [some (.ref 6), some (.int x1_s), some (.int x2_s), none, none, none], [], h_s) (gI (fun _ h1 => hIw h1 ∧ aFr (aWf kE42.2.2.2.2.2) h_s h1)) := cxI kok42 (rel2 (n_s := 3) hI) hI.2 rfl rfl
theorem cm_212 {F_s : Nat} {x1_s : Int32} {x2_s : Int32} {h_s : zH} (hI : hIw h_s) : wF F_s 212 (0, [some (.ref 102), some (.int x1_s), some (.int x2_s)], [], h_s) (gI (fun _ h1 => hIw h1 ∧ aFr (aWf kE91.2.2.2.2.2) h_s h1)) := cxI kok91 (rel2 (n_s := 0) hI) hI.2 rfl rfl
theorem cm_119 {F_s : Nat}  {h_s : zH} (hI : hIw h_s) : wF F_s 119 (0, [some (.ref 6), none, none], [], h_s) (gI (fun _ h1 => hIw h1 ∧ aFr (aWf kE36.2.2.2.2.2) h_s h1)) := cxI kok36 (rel0 (n_s := 2) hI) hI.2 rfl rfl
theorem cm_213 {F_s : Nat}  {h_s : zH} (hI : hIw h_s) : wF F_s 213 (0, [some (.ref 102), none, none], [], h_s) (gI (fun _ h1 => hIw h1 ∧ aFr (aWf kE38.2.2.2.2.2) h_s h1)) := cxI kok38 (rel0 (n_s := 2) hI) hI.2 rfl rfl
theorem cm_120 {F_s : Nat} {x1_s : Int32} {h_s : zH} (hI : hIw h_s) : wF F_s 120 (0, [some (.ref 6), some (.int x1_s)], [], h_s) (gI (fun _ h1 => hIw h1 ∧ aFr (aWf kE30.2.2.2.2.2) h_s h1)) := cxI kok30 (rel1 (n_s := 0) hI) hI.2 rfl rfl
theorem cm_214 {F_s : Nat} {x1_s : Int32} {h_s : zH} (hI : hIw h_s) : wF F_s 214 (0, [some (.ref 102), some (.int x1_s)], [], h_s) (gI (fun _ h1 => hIw h1 ∧ aFr (aWf kE31.2.2.2.2.2) h_s h1)) := cxI kok31 (rel1 (n_s := 0) hI) hI.2 rfl rfl
theorem cm_121 {F_s : Nat}  {h_s : zH} (hI : hIw h_s) : wF F_s 121 (0, [some (.ref 6), none], [], h_s) (gI (fun _ h1 => hIw h1 ∧ aFr (aWf kE28.2.2.2.2.2) h_s h1)) := cxI kok28 (rel0 (n_s := 1) hI) hI.2 rfl rfl
theorem cm_215 {F_s : Nat}  {h_s : zH} (hI : hIw h_s) : wF F_s 215 (0, [some (.ref 102), none], [], h_s) (gI (fun _ h1 => hIw h1 ∧ aFr (aWf kE29.2.2.2.2.2) h_s h1)) := cxI kok29 (rel0 (n_s := 1) hI) hI.2 rfl rfl
theorem cm_122 {F_s : Nat}  {h_s : zH} (hI : hIw h_s) : wF F_s 122 (0, [some (.ref 6), none], [], h_s) (gI (fun _ h1 => hIw h1 ∧ aFr (aWf kE26.2.2.2.2.2) h_s h1)) := cxI kok26 (rel0 (n_s := 1) hI) hI.2 rfl rfl
theorem cm_216 {F_s : Nat}  {h_s : zH} (hI : hIw h_s) : wF F_s 216 (0, [some (.ref 102), none], [], h_s) (gI (fun _ h1 => hIw h1 ∧ aFr (aWf kE27.2.2.2.2.2) h_s h1)) := cxI kok27 (rel0 (n_s := 1) hI) hI.2 rfl rfl
theorem cm_123 {F_s : Nat}  {h_s : zH} (hI : hIw h_s) : wF F_s 123 (0, [some (.ref 6)], [], h_s) (gI (fun _ h1 => hIw h1 ∧ aFr (aWf kE24.2.2.2.2.2) h_s h1)) := cxI kok24 (rel0 (n_s := 0) hI) hI.2 rfl rfl
theorem cm_149 {F_s : Nat}  {h_s : zH} (hI : hIw h_s) : wF F_s 149 (0, [some (.ref 102)], [], h_s) (gI (fun _ h1 => hIw h1 ∧ aFr (aWf kE25.2.2.2.2.2) h_s h1)) := cxI kok25 (rel0 (n_s := 0) hI) hI.2 rfl rfl
theorem cm_124 {F_s : Nat}  {h_s : zH} (hI : hIw h_s) : wF F_s 124 (0, [some (.ref 6)], [], h_s) (gI (fun _ h1 => hIw h1 ∧ aFr (aWf kE22.2.2.2.2.2) h_s h1)) := cxI kok22 (rel0 (n_s := 0) hI) hI.2 rfl rfl
theorem cm_150 {F_s : Nat}  {h_s : zH} (hI : hIw h_s) : wF F_s 150 (0, [some (.ref 102)], [], h_s) (gI (fun _ h1 => hIw h1 ∧ aFr (aWf kE23.2.2.2.2.2) h_s h1)) := cxI kok23 (rel0 (n_s := 0) hI) hI.2 rfl rfl
theorem cm_125 {F_s : Nat} {x1_s : Int32} {h_s : zH} (hI : hIw h_s) : wF F_s 125 (0, [some (.ref 6), some (.int x1_s)], [], h_s) (gI (fun _ h1 => hIw h1 ∧ aFr (aWf kE20.2.2.2.2.2) h_s h1)) := cxI kok20 (rel1 (n_s := 0) hI) hI.2 rfl rfl
theorem cm_219 {F_s : Nat} {x1_s : Int32} {h_s : zH} (hI : hIw h_s) : wF F_s 219 (0, [some (.ref 102), some (.int x1_s)], [], h_s) (gI (fun _ h1 => hIw h1 ∧ aFr (aWf kE21.2.2.2.2.2) h_s h1)) := cxI kok21 (rel1 (n_s := 0) hI) hI.2 rfl rfl
theorem cm_126 {F_s : Nat} {x1_s : Int32} {x2_s : Int32} {x3 : Int32} {h_s : zH} (hI : hIw h_s) : wF F_s 126 (0, [some (.ref 6), some (.int x1_s), some (.int x2_s), some (.int x3)], [], h_s) (gI (fun _ h1 => hIw h1 ∧ aFr (aWf kE18.2.2.2.2.2) h_s h1)) := cxI kok18 (rel3 (n_s := 0) hI) hI.2 rfl rfl
theorem cm_226 {F_s : Nat} {x1_s : Int32} {x2_s : Int32} {x3 : Int32} {h_s : zH} (hI : hIw h_s) : wF F_s 226 (0, [some (.ref 102), some (.int x1_s), some (.int x2_s), some (.int x3)], [], h_s) (gI (fun _ h1 => hIw h1 ∧ aFr (aWf kE19.2.2.2.2.2) h_s h1)) := cxI kok19 (rel3 (n_s := 0) hI) hI.2 rfl rfl
theorem cm_127 {F_s : Nat} {x1_s : Int32} {h_s : zH} (hI : hIw h_s) : wF F_s 127 (0, [some (.ref 6), some (.int x1_s)], [], h_s) (gI (fun _ h1 => hIw h1 ∧ aFr (aWf kE16.2.2.2.2.2) h_s h1)) := cxI kok16 (rel1 (n_s := 0) hI) hI.2 rfl rfl
theorem cm_227 {F_s : Nat} {x1_s : Int32} {h_s : zH} (hI : hIw h_s) : wF F_s 227 (0, [some (.ref 102), some (.int x1_s)], [], h_s) (gI (fun _ h1 => hIw h1 ∧ aFr (aWf kE17.2.2.2.2.2) h_s h1)) := cxI kok17 (rel1 (n_s := 0) hI) hI.2 rfl rfl
theorem cm_128 {F_s : Nat} {x1_s : Int32} {x2_s : Int32} {h_s : zH} (hI : hIw h_s) : wF F_s 128 (0, [some (.ref 6), some (.int x1_s), some (.int x2_s)], [], h_s) (gI (fun _ h1 => hIw h1 ∧ aFr (aWf kE14.2.2.2.2.2) h_s h1)) := cxI kok14 (rel2 (n_s := 0) hI) hI.2 rfl rfl
theorem cm_229 {F_s : Nat} {x1_s : Int32} {x2_s : Int32} {h_s : zH} (hI : hIw h_s) : wF F_s 229 (0, [some (.ref 102), some (.int x1_s), some (.int x2_s)], [], h_s) (gI (fun _ h1 => hIw h1 ∧ aFr (aWf kE15.2.2.2.2.2) h_s h1)) := cxI kok15 (rel2 (n_s := 0) hI) hI.2 rfl rfl
theorem cm_129 {F_s : Nat} {x1_s : Int32} {x2_s : Int32} {x3 : Int32} {h_s : zH} (hI : hIw h_s) : wF F_s 129 (0, [some (.ref 6), some (.int x1_s), some (.int x2_s), some (.int x3)], [], h_s) (gI (fun _ h1 => hIw h1 ∧ aFr (aWf kE12.2.2.2.2.2) h_s h1)) := cxI kok12 (rel3 (n_s := 0) hI) hI.2 rfl rfl
theorem cm_230 {F_s : Nat} {x1_s : Int32} {x2_s : Int32} {x3 : Int32} {h_s : zH} (hI : hIw h_s) : wF F_s 230 (0, [some (.ref 102), some (.int x1_s), some (.int x2_s), some (.int x3), none], [], h_s) (gI (fun _ h1 => hIw h1 ∧ aFr (aWf kE13.2.2.2.2.2) h_s h1)) := cxI kok13 (rel3 (n_s := 1) hI) hI.2 rfl rfl
theorem cm_130 {F_s : Nat} {x1_s : Int32} {x2_s : Int32} {x3 : Int64} {h_s : zH} (hI : hIw h_s) : wF F_s 130 (0, [some (.ref 6), some (.int x1_s), some (.int x2_s), some (.long x3), none, none], [], h_s) (gI (fun _ h1 => hIw h1 ∧ aFr (aWf kE9.2.2.2.2.2) h_s h1)) := cxI kok9 (relp (n_s := 1) hI) hI.2 rfl rfl
theorem cm_233 {F_s : Nat} {x1_s : Int32} {x2_s : Int32} {x3 : Int64} {h_s : zH} (hI : hIw h_s) : wF F_s 233 (0, [some (.ref 102), some (.int x1_s), some (.int x2_s), some (.long x3), none, none], [], h_s) (gI (fun _ h1 => hIw h1 ∧ aFr (aWf kE10.2.2.2.2.2) h_s h1)) := cxI kok10 (relp (n_s := 1) hI) hI.2 rfl rfl
theorem cm_131 {F_s : Nat} {x1_s : Int32} {x2_s : Int32} {h_s : zH} (hI : hIw h_s) : wF F_s 131 (0, [some (.ref 6), some (.int x1_s), some (.int x2_s)], [], h_s) (gJ (fun _ h1 => hIw h1 ∧ aFr (aWf kE7.2.2.2.2.2) h_s h1)) := cxJ kok7 (rel2 (n_s := 0) hI) hI.2 rfl rfl
theorem cm_234 {F_s : Nat} {x1_s : Int32} {x2_s : Int32} {h_s : zH} (hI : hIw h_s) : wF F_s 234 (0, [some (.ref 102), some (.int x1_s), some (.int x2_s)], [], h_s) (gJ (fun _ h1 => hIw h1 ∧ aFr (aWf kE8.2.2.2.2.2) h_s h1)) := cxJ kok8 (rel2 (n_s := 0) hI) hI.2 rfl rfl
theorem cm_132 {F_s : Nat} {x1_s : Int32} {x2_s : Int32} {x3 : Int32} {x4_s : Int32} {x5_s : Int32} {h_s : zH} (hI : hIw h_s) : wF F_s 132 (0, [some (.ref 6), some (.int x1_s), some (.int x2_s), some (.int x3), some (.int x4_s), some (.int x5_s), none, none], [], h_s) (gI (fun _ h1 => hIw h1 ∧ aFr (aWf kE5.2.2.2.2.2) h_s h1)) := cxI kok5 (rel5 (n_s := 2) hI) hI.2 rfl rfl
theorem cm_235 {F_s : Nat} {x1_s : Int32} {x2_s : Int32} {x3 : Int32} {x4_s : Int32} {x5_s : Int32} {h_s : zH} (hI : hIw h_s) : wF F_s 235 (0, [some (.ref 102), some (.int x1_s), some (.int x2_s), some (.int x3), some (.int x4_s), some (.int x5_s), none], [], h_s) (gI (fun _ h1 => hIw h1 ∧ aFr (aWf kE6.2.2.2.2.2) h_s h1)) := cxI kok6 (rel5 (n_s := 1) hI) hI.2 rfl rfl
theorem cm_133 {F_s : Nat} {x1_s : Int32} {x2_s : Int32} {h_s : zH} (hI : hIw h_s) : wF F_s 133 (0, [some (.ref 6), some (.int x1_s), some (.int x2_s), none, none], [], h_s) (gI (fun _ h1 => hIw h1 ∧ aFr (aWf kE3.2.2.2.2.2) h_s h1)) := cxI kok3 (rel2 (n_s := 2) hI) hI.2 rfl rfl
theorem cm_236 {F_s : Nat} {x1_s : Int32} {x2_s : Int32} {h_s : zH} (hI : hIw h_s) : wF F_s 236 (0, [some (.ref 102), some (.int x1_s), some (.int x2_s), none], [], h_s) (gI (fun _ h1 => hIw h1 ∧ aFr (aWf kE4.2.2.2.2.2) h_s h1)) := cxI kok4 (rel2 (n_s := 1) hI) hI.2 rfl rfl
theorem cm_134 {F_s : Nat} {x1_s : Int32} {h_s : zH} (hI : hIw h_s) : wF F_s 134 (0, [some (.ref 6), some (.int x1_s)], [], h_s) (gI (fun _ h1 => hIw h1 ∧ aFr (aWf kE0.2.2.2.2.2) h_s h1)) := cxI kok0 (rel1 (n_s := 0) hI) hI.2 rfl rfl
theorem cm_237 {F_s : Nat} {x1_s : Int32} {h_s : zH} (hI : hIw h_s) : wF F_s 237 (0, [some (.ref 102), some (.int x1_s)], [], h_s) (gI (fun _ h1 => hIw h1 ∧ aFr (aWf kE1.2.2.2.2.2) h_s h1)) := cxI kok1 (rel1 (n_s := 0) hI) hI.2 rfl rfl
