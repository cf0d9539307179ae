/-! SETTLED: the reference, and the pair. -/
noncomputable def hdR (f_s : Nat → Nat → Int32) (i_s : Nat) : Int := (f_s 103 (60 + i_s)).toInt
theorem stS_c {nh ni : Nat} {ky : Nat → Nat → Int} {hk hd_s hd1 : Nat → Int} (e_s : ∀ i_s, i_s < ni → hd1 i_s = hd_s i_s) (s_s : stS nh ni ky hk hd_s) : stS nh ni ky hk hd1 := by
  refine ⟨fun i_s j_s hi_s hj h0 he => ?_, fun p_s d_s hp hd_ u_s => s_s.2 p_s d_s hp hd_ ⟨?_, fun o ho w_s => ?_, fun q_s hq w_s => ?_⟩⟩
  · rw [e_s i_s hi_s] at h0 he
    rw [e_s j_s hj] at he
    exact s_s.1 i_s j_s hi_s hj h0 he
  · rw [← e_s d_s hd_]
    exact u_s.1
  · rw [← e_s o ho] at w_s
    exact u_s.2.1 o ho w_s
  · rw [← e_s d_s hd_] at w_s
    exact u_s.2.2 q_s hq w_s
noncomputable def QS (f0_s f_s : Nat → Nat → Int32) (ni : Nat) : Prop := (∀ a_s k_s, ¬ a_s = 116 → f_s a_s k_s = f0_s a_s k_s) ∧ ∀ i_s, i_s < ni → (f_s 116 i_s).toInt = hdR f0_s i_s
noncomputable def wtS (ni : Nat) (ky : Nat → Nat → Int) (hd_s : Nat → Int) (p_s d_s : Nat) : Prop := ∀ o, o < ni → hd_s o = (p_s : Int) → ky p_s d_s < ky p_s o
noncomputable def fyS (nh : Nat) (hk hd_s : Nat → Int) (p_s d_s : Nat) : Prop := ¬ hd_s d_s = (p_s : Int) ∧ ∀ q_s : Nat, q_s < nh → hd_s d_s = (q_s : Int) → hk p_s < hk q_s
section SR
variable {h_s : zH} {K_s : Int32 → zH → Prop} {nh ni nr : Nat} {f0_s : Nat → Nat → Int32}
noncomputable def D33 (h_s : zH) (K_s : Int32 → zH → Prop) (ni : Nat) (f0_s : Nat → Nat → Int32) (F_s : Nat) : Prop := ∀ (x1_s : Int32) (l2 l3 l4 l5 : Option Value) (n_s : Nat) (f_s : Nat → Nat → Int32), QS f0_s f_s ni → x1_s.toInt = (n_s : Int) → n_s ≤ ni → inS n_s (hdR f0_s) → wF F_s 200 (33, [some (.ref 102), some (.int x1_s), l2, l3, l4, l5], [], (h_s.1, f_s, h_s.2.2.1, h_s.2.2.2)) (gI K_s)
noncomputable def D43 (h_s : zH) (K_s : Int32 → zH → Prop) (ni : Nat) (f0_s : Nat → Nat → Int32) (F_s : Nat) : Prop := ∀ (x1_s x2_s : Int32) (l3 l4 l5 : Option Value) (n_s m_s : Nat) (f_s : Nat → Nat → Int32), QS f0_s f_s ni → x1_s.toInt = (n_s : Int) → n_s < ni → x2_s.toInt = (m_s : Int) → m_s ≤ n_s → inS n_s (hdR f0_s) → (∀ e_s, e_s < m_s → 0 ≤ hdR f0_s n_s → ¬ hdR f0_s n_s = hdR f0_s e_s) → wF F_s 200 (43, [some (.ref 102), some (.int x1_s), some (.int x2_s), l3, l4, l5], [], (h_s.1, f_s, h_s.2.2.1, h_s.2.2.2)) (gI K_s)
noncomputable def D88 (h_s : zH) (K_s : Int32 → zH → Prop) (nh ni : Nat) (f0_s : Nat → Nat → Int32) (F_s : Nat) : Prop := ∀ (x1_s : Int32) (l2 l3 l4 l5 : Option Value) (p_s : Nat) (f_s : Nat → Nat → Int32), QS f0_s f_s ni → inS ni (hdR f0_s) → x1_s.toInt = (p_s : Int) → p_s ≤ nh → (∀ q_s d_s, q_s < p_s → d_s < ni → ¬ unS nh ni (kyI f0_s) (hkI f0_s) (hdR f0_s) q_s d_s) → wF F_s 200 (88, [some (.ref 102), some (.int x1_s), l2, l3, l4, l5], [], (h_s.1, f_s, h_s.2.2.1, h_s.2.2.2)) (gI K_s)
noncomputable def qS (nh ni : Nat) (f0_s : Nat → Nat → Int32) (x1_s x2_s x3 : Int32) (p_s d_s : Nat) (f_s : Nat → Nat → Int32) : Prop := QS f0_s f_s ni ∧ inS ni (hdR f0_s) ∧ x1_s.toInt = (p_s : Int) ∧ p_s < nh ∧ x3.toInt = (d_s : Int) ∧ ((x2_s.toInt = -1 ∧ ∀ i_s, i_s < ni → ¬ hdR f0_s i_s = (p_s : Int)) ∨ ∃ i_s : Nat, i_s < ni ∧ x2_s.toInt = (i_s : Int) ∧ hdR f0_s i_s = (p_s : Int)) ∧ (∀ q_s e_s, q_s < p_s → e_s < ni → ¬ unS nh ni (kyI f0_s) (hkI f0_s) (hdR f0_s) q_s e_s) ∧ ∀ e_s, e_s < d_s → ¬ unS nh ni (kyI f0_s) (hkI f0_s) (hdR f0_s) p_s e_s
noncomputable def D104 (h_s : zH) (K_s : Int32 → zH → Prop) (nh ni : Nat) (f0_s : Nat → Nat → Int32) (F_s : Nat) : Prop := ∀ (x1_s x2_s x3 : Int32) (l4 l5 : Option Value) (p_s d_s : Nat) (f_s : Nat → Nat → Int32), qS nh ni f0_s x1_s x2_s x3 p_s d_s f_s → d_s ≤ ni → wF F_s 200 (104, [some (.ref 102), some (.int x1_s), some (.int x2_s), some (.int x3), l4, l5], [], (h_s.1, f_s, h_s.2.2.1, h_s.2.2.2)) (gI K_s)
noncomputable def D138 (h_s : zH) (K_s : Int32 → zH → Prop) (nh ni : Nat) (f0_s : Nat → Nat → Int32) (F_s : Nat) : Prop := ∀ (x1_s x2_s x3 x4_s : Int32) (l5 : Option Value) (p_s d_s : Nat) (f_s : Nat → Nat → Int32), qS nh ni f0_s x1_s x2_s x3 p_s d_s f_s → d_s < ni → (x4_s.toInt = 0 → ¬ wtS ni (kyI f0_s) (hdR f0_s) p_s d_s) → (¬ x4_s.toInt = 0 → wtS ni (kyI f0_s) (hdR f0_s) p_s d_s) → wF F_s 200 (138, [some (.ref 102), some (.int x1_s), some (.int x2_s), some (.int x3), some (.int x4_s), l5], [], (h_s.1, f_s, h_s.2.2.1, h_s.2.2.2)) (gI K_s)
noncomputable def D178 (h_s : zH) (K_s : Int32 → zH → Prop) (nh ni : Nat) (f0_s : Nat → Nat → Int32) (F_s : Nat) : Prop := ∀ (x1_s x2_s x3 x4_s x5_s : Int32) (p_s d_s : Nat) (f_s : Nat → Nat → Int32), qS nh ni f0_s x1_s x2_s x3 p_s d_s f_s → d_s < ni → (x4_s.toInt = 0 → ¬ wtS ni (kyI f0_s) (hdR f0_s) p_s d_s) → (¬ x4_s.toInt = 0 → wtS ni (kyI f0_s) (hdR f0_s) p_s d_s) → (x5_s.toInt = 0 → ¬ fyS nh (hkI f0_s) (hdR f0_s) p_s d_s) → (¬ x5_s.toInt = 0 → fyS nh (hkI f0_s) (hdR f0_s) p_s d_s) → wF F_s 200 (178, [some (.ref 102), some (.int x1_s), some (.int x2_s), some (.int x3), some (.int x4_s), some (.int x5_s)], [], (h_s.1, f_s, h_s.2.2.1, h_s.2.2.2)) (gI K_s)
theorem d33_s {F_s : Nat} (hk : hKn h_s) (hc_s : tM nh ni nr f0_s) (i4_s : D43 h_s K_s ni f0_s F_s) (i8_s : D88 h_s K_s nh ni f0_s F_s) : D33 h_s K_s ni f0_s (F_s + 1) := by
  intro x1_s l2 l3 l4 l5 n_s f_s g_s e1_s hn hi_s
  have e7_s : f_s 102 7 = f0_s 102 7 := g_s.1 _ _ (by omega)
  refine sg_200_33 (h_s := (h_s.1, f_s, h_s.2.2.1, h_s.2.2.2)) hk ?_
  dsimp only
  rw [e7_s, hc_s.2.1.2.1, e1_s]
  refine ⟨fun c1_s => i4_s x1_s 0 l3 l4 l5 n_s 0 f_s g_s e1_s (by omega) rfl (Nat.zero_le _) hi_s (fun e_s he => absurd he (Nat.not_lt_zero e_s)), fun c1_s => ?_⟩
  have en : n_s = ni := by omega
  subst en
  exact i8_s 0 l2 l3 l4 l5 0 f_s g_s hi_s rfl (Nat.zero_le _) (fun q_s d_s hq _ => absurd hq (Nat.not_lt_zero q_s))
theorem d43_s {F_s : Nat} (hk : hKn h_s) (hc_s : tM nh ni nr f0_s) (t0_s : ¬ stS nh ni (kyI f0_s) (hkI f0_s) (hdR f0_s) → ∀ f1_s, K_s 0 (h_s.1, f1_s, h_s.2.2.1, h_s.2.2.2)) (i3_s : D33 h_s K_s ni f0_s F_s) (i4_s : D43 h_s K_s ni f0_s F_s) : D43 h_s K_s ni f0_s (F_s + 1) := by
  intro x1_s x2_s l3 l4 l5 n_s m_s f_s g_s e1_s hn e2_s hm_s hi_s hv
  have b_s := hc_s.1
  have z1 := azix (i := x1_s) (by omega)
  have ez1 : zix x1_s = n_s := by omega
  have z2 := azix (i := x2_s) (by omega)
  have ez2 : zix x2_s = m_s := by omega
  have nx : m_s < n_s → (0 ≤ hdR f0_s n_s → ¬ hdR f0_s n_s = hdR f0_s m_s) → wF F_s 200 (43, [some (.ref 102), some (.int x1_s), some (.int (x2_s + 1)), l3, l4, l5], [], (h_s.1, f_s, h_s.2.2.1, h_s.2.2.2)) (gI K_s) := fun wm w_s => by
    refine i4_s x1_s (x2_s + 1) l3 l4 l5 n_s (m_s + 1) f_s g_s e1_s hn (by rw [in1_ (by omega)]; omega) (by omega) hi_s (fun e_s he => ?_)
    by_cases ee : e_s = m_s
    · rw [ee]
      exact w_s
    · exact hv e_s (by omega)
  refine sg_200_43 (h_s := (h_s.1, f_s, h_s.2.2.1, h_s.2.2.2)) hk ?_
  dsimp only
  rw [ez1, ez2, g_s.2 n_s hn, e1_s, e2_s]
  refine ⟨fun c1_s => fun c2_s => ⟨fun c3_s => nx (by omega) (fun w_s => by omega), fun c3_s => fun c5_s => ?_⟩, fun c1_s => ?_⟩
  · rw [g_s.2 m_s (by omega)]
    refine ⟨fun c6_s => t0_s (fun s_s => ?_) f_s, fun c6_s => nx (by omega) (fun _ => c6_s)⟩
    have := s_s.1 n_s m_s hn (by omega) (by omega) c6_s
    omega
  · refine i3_s (x1_s + 1) _ l3 l4 l5 (n_s + 1) f_s g_s (by rw [in1_ (by omega)]; omega) (by omega) (fun i_s j_s hi1 hj1 h0 he => ?_)
    by_cases ei : i_s = n_s
    · by_cases ej : j_s = n_s
      · rw [ei, ej]
      · rw [ei] at h0 he
        exact absurd he (hv j_s (by omega) h0)
    · by_cases ej : j_s = n_s
      · rw [ej] at he
        exact absurd he.symm (hv i_s (by omega) (by omega))
      · exact hi_s i_s j_s (by omega) (by omega) h0 he
theorem d88_s {F_s : Nat} (hk : hKn h_s) (hc_s : tM nh ni nr f0_s) (t1_s : stS nh ni (kyI f0_s) (hkI f0_s) (hdR f0_s) → ∀ f1_s, K_s 1 (h_s.1, f1_s, h_s.2.2.1, h_s.2.2.2)) (i1_s : D104 h_s K_s nh ni f0_s F_s) : D88 h_s K_s nh ni f0_s (F_s + 1) := by
  intro x1_s l2 l3 l4 l5 p_s f_s g_s hi_s e1_s hp hu
  have e6_s : f_s 102 6 = f0_s 102 6 := g_s.1 _ _ (by omega)
  have mf : tM nh ni nr f_s := tM_fr (fun k_s _ _ => g_s.1 _ _ (by omega)) (fun k_s _ => g_s.1 _ _ (by omega)) hc_s
  refine sg_200_88 (h_s := (h_s.1, f_s, h_s.2.2.1, h_s.2.2.2)) hk ?_
  dsimp only
  rw [e6_s, hc_s.2.1.1, e1_s]
  refine ⟨fun c1_s => ?_, fun c1_s => t1_s ⟨hi_s, fun q_s d_s hq hd_s => hu q_s d_s (by omega) hd_s⟩ f_s⟩
  refine sp_197 (h_s := (h_s.1, f_s, h_s.2.2.1, h_s.2.2.2)) (f_s := f_s) (p_s := p_s) hk mf e1_s (fun v_s hv _ => ?_)
  refine i1_s x1_s v_s 0 l4 l5 p_s 0 f_s ⟨g_s, hi_s, e1_s, by omega, rfl, ?_, hu, fun e_s he => absurd he (Nat.not_lt_zero e_s)⟩ (Nat.zero_le _)
  rcases hv with ⟨w1_s, w2_s⟩ | ⟨i_s, w1_s, w2_s, w3_s⟩
  · exact Or.inl ⟨w1_s, fun i_s hi1 => by rw [← g_s.2 i_s hi1]; exact w2_s i_s hi1⟩
  · exact Or.inr ⟨i_s, w1_s, w2_s, by rw [← g_s.2 i_s w1_s]; exact w3_s⟩
theorem d104_s {F_s : Nat} (hk : hKn h_s) (hc_s : tM nh ni nr f0_s) (i8_s : D88 h_s K_s nh ni f0_s F_s) (i3_s : D138 h_s K_s nh ni f0_s F_s) : D104 h_s K_s nh ni f0_s (F_s + 1) := by
  intro x1_s x2_s x3 l4 l5 p_s d_s f_s q_s hd_s
  have b_s := hc_s.1
  obtain ⟨g_s, hi_s, e1_s, hp, e3_s, ht, hu, hv⟩ := q_s
  have q_s : qS nh ni f0_s x1_s x2_s x3 p_s d_s f_s := ⟨g_s, hi_s, e1_s, hp, e3_s, ht, hu, hv⟩
  have e7_s : f_s 102 7 = f0_s 102 7 := g_s.1 _ _ (by omega)
  have mf : tM nh ni nr f_s := tM_fr (fun k_s _ _ => g_s.1 _ _ (by omega)) (fun k_s _ => g_s.1 _ _ (by omega)) hc_s
  obtain ⟨ek, eh⟩ := ky_fr (f_s := f_s) (f0_s := f0_s) (fun k_s => g_s.1 103 k_s (by omega))
  refine sg_200_104 (h_s := (h_s.1, f_s, h_s.2.2.1, h_s.2.2.2)) hk ?_
  dsimp only
  rw [e7_s, hc_s.2.1.2.1, e3_s]
  refine ⟨fun c1_s => ?_, fun c1_s => ?_⟩
  · have hdn : d_s < ni := by omega
    refine ⟨fun c2_s => i3_s x1_s x2_s x3 1 l5 p_s d_s f_s q_s hdn (fun w_s => absurd w_s (by decide)) (fun _ o ho w_s => ?_), fun c2_s => ?_⟩
    · rcases ht with u_s | ⟨i_s, u1_s, u2_s, u3⟩
      · exact absurd w_s (u_s.2 o ho)
      · omega
    · obtain ⟨i_s, u1_s, u2_s, u3⟩ : ∃ i_s : Nat, i_s < ni ∧ x2_s.toInt = (i_s : Int) ∧ hdR f0_s i_s = (p_s : Int) := by
        rcases ht with u_s | u_s
        · omega
        · exact u_s
      refine ⟨fun c3_s => i3_s x1_s x2_s x3 0 l5 p_s d_s f_s q_s hdn (fun _ w_s => ?_) (fun w_s => absurd rfl w_s), fun c3_s => ?_⟩
      · have ed : i_s = d_s := by omega
        have := w_s d_s hdn (by rw [← ed]; exact u3)
        omega
      · refine sp_195 (h_s := (h_s.1, f_s, h_s.2.2.1, h_s.2.2.2)) (f_s := f_s) (p_s := p_s) (i_s := d_s) (o := i_s) hk mf e1_s e3_s u2_s hp hdn u1_s (fun w_s _ => ⟨fun c_s => absurd c_s (by decide), fun _ => i3_s x1_s x2_s x3 1 l5 p_s d_s f_s q_s hdn (fun w_s => absurd w_s (by decide)) (fun _ o ho wo => ?_)⟩) (fun w_s _ => ⟨fun _ => i3_s x1_s x2_s x3 0 l5 p_s d_s f_s q_s hdn (fun _ wt => ?_) (fun w_s => absurd rfl w_s), fun c_s => absurd rfl c_s⟩)
        · have eo : o = i_s := hi_s o i_s ho u1_s (by omega) (by omega)
          rw [ek] at w_s
          rw [eo]
          exact w_s
        · rw [ek] at w_s
          exact w_s (wt i_s u1_s u3)
  · have ed : d_s = ni := by omega
    subst ed
    refine i8_s (x1_s + 1) _ _ l4 l5 (p_s + 1) f_s g_s hi_s (by rw [in1_ (by omega)]; omega) (by omega) (fun q1_s e_s hq he => ?_)
    by_cases eq_s : q1_s = p_s
    · rw [eq_s]
      exact hv e_s he
    · exact hu q1_s e_s (by omega) he
theorem d138_s {F_s : Nat} (hk : hKn h_s) (hc_s : tM nh ni nr f0_s) (i7_s : D178 h_s K_s nh ni f0_s F_s) : D138 h_s K_s nh ni f0_s (F_s + 1) := by
  intro x1_s x2_s x3 x4_s l5 p_s d_s f_s q_s hd_s h0 h1
  have b_s := hc_s.1
  obtain ⟨g_s, hi_s, e1_s, hp, e3_s, ht, hu, hv⟩ := q_s
  have q_s : qS nh ni f0_s x1_s x2_s x3 p_s d_s f_s := ⟨g_s, hi_s, e1_s, hp, e3_s, ht, hu, hv⟩
  have z3 := azix (i := x3) (by omega)
  have ez3 : zix x3 = d_s := by omega
  have mf : tM nh ni nr f_s := tM_fr (fun k_s _ _ => g_s.1 _ _ (by omega)) (fun k_s _ => g_s.1 _ _ (by omega)) hc_s
  obtain ⟨ek, eh⟩ := ky_fr (f_s := f_s) (f0_s := f0_s) (fun k_s => g_s.1 103 k_s (by omega))
  have bd := tM_hd hc_s hd_s
  have hdd : hdR f0_s d_s = (f0_s 103 (60 + d_s)).toInt := rfl
  refine sg_200_138 (h_s := (h_s.1, f_s, h_s.2.2.1, h_s.2.2.2)) hk ?_
  dsimp only
  rw [ez3]
  have gd_s := g_s.2 d_s hd_s
  generalize hw : f_s 116 d_s = w_s at gd_s
  rw [gd_s, e1_s]
  refine fun c1_s => ⟨fun c2_s => i7_s x1_s x2_s x3 x4_s 1 p_s d_s f_s q_s hd_s h0 h1 (fun w_s => absurd w_s (by decide)) (fun _ => ⟨by omega, fun q1_s _ w_s => by omega⟩), fun c2_s => ⟨fun c4_s => i7_s x1_s x2_s x3 x4_s 0 p_s d_s f_s q_s hd_s h0 h1 (fun _ w_s => w_s.1 c4_s) (fun w_s => absurd rfl w_s), fun c4_s => ?_⟩⟩
  have e9_s : w_s.toInt = ((hdR f0_s d_s).toNat : Int) := by omega
  refine sp_196 (h_s := (h_s.1, f_s, h_s.2.2.1, h_s.2.2.2)) (f_s := f_s) (p_s := p_s) (q_s := (hdR f0_s d_s).toNat) hk mf e1_s e9_s hp (by omega) (fun w1_s _ => ⟨fun c_s => absurd c_s (by decide), fun _ => i7_s x1_s x2_s x3 x4_s 1 p_s d_s f_s q_s hd_s h0 h1 (fun w_s => absurd w_s (by decide)) (fun _ => ⟨c4_s, fun q1_s _ w2_s => ?_⟩)⟩) (fun w1_s _ => ⟨fun _ => i7_s x1_s x2_s x3 x4_s 0 p_s d_s f_s q_s hd_s h0 h1 (fun _ w2_s => ?_) (fun w_s => absurd rfl w_s), fun c_s => absurd rfl c_s⟩)
  · rw [eh] at w1_s
    have eq_s : q1_s = (hdR f0_s d_s).toNat := by omega
    rw [eq_s]
    exact w1_s
  · rw [eh] at w1_s
    exact w1_s (w2_s.2 _ (by omega) (by omega))
theorem d178_s {F_s : Nat} (hk : hKn h_s) (hc_s : tM nh ni nr f0_s) (t0_s : ¬ stS nh ni (kyI f0_s) (hkI f0_s) (hdR f0_s) → ∀ f1_s, K_s 0 (h_s.1, f1_s, h_s.2.2.1, h_s.2.2.2)) (i1_s : D104 h_s K_s nh ni f0_s F_s) : D178 h_s K_s nh ni f0_s (F_s + 1) := by
  intro x1_s x2_s x3 x4_s x5_s p_s d_s f_s q_s hd_s h0 h1 h2 h3
  have b_s := hc_s.1
  obtain ⟨g_s, hi_s, e1_s, hp, e3_s, ht, hu, hv⟩ := q_s
  have nx : ¬ unS nh ni (kyI f0_s) (hkI f0_s) (hdR f0_s) p_s d_s → wF F_s 200 (104, [some (.ref 102), some (.int x1_s), some (.int x2_s), some (.int (x3 + 1)), some (.int x4_s), some (.int x5_s)], [], (h_s.1, f_s, h_s.2.2.1, h_s.2.2.2)) (gI K_s) := fun w_s => by
    refine i1_s x1_s x2_s (x3 + 1) _ _ p_s (d_s + 1) f_s ⟨g_s, hi_s, e1_s, hp, by rw [in1_ (by omega)]; omega, ht, hu, fun e_s he => ?_⟩ (by omega)
    by_cases ee : e_s = d_s
    · rw [ee]
      exact w_s
    · exact hv e_s (by omega)
  exact sg_200_178 (h_s := (h_s.1, f_s, h_s.2.2.1, h_s.2.2.2)) hk ⟨fun c1_s => nx (fun u_s => h0 c1_s u_s.2.1), fun c1_s => ⟨fun c2_s => nx (fun u_s => h2 c2_s ⟨u_s.1, u_s.2.2⟩), fun c2_s => t0_s (fun s_s => s_s.2 p_s d_s hp hd_s ⟨(h3 c2_s).1, h1 c1_s, (h3 c2_s).2⟩) f_s⟩⟩
theorem d_all (hk : hKn h_s) (hc_s : tM nh ni nr f0_s) (t1_s : stS nh ni (kyI f0_s) (hkI f0_s) (hdR f0_s) → ∀ f1_s, K_s 1 (h_s.1, f1_s, h_s.2.2.1, h_s.2.2.2)) (t0_s : ¬ stS nh ni (kyI f0_s) (hkI f0_s) (hdR f0_s) → ∀ f1_s, K_s 0 (h_s.1, f1_s, h_s.2.2.1, h_s.2.2.2)) : ∀ F_s, (D33 h_s K_s ni f0_s F_s ∧ D43 h_s K_s ni f0_s F_s) ∧ D88 h_s K_s nh ni f0_s F_s ∧ D104 h_s K_s nh ni f0_s F_s ∧ D138 h_s K_s nh ni f0_s F_s ∧ D178 h_s K_s nh ni f0_s F_s
  | 0 => ⟨⟨fun _ _ _ _ _ _ _ _ _ _ _ => wF_zero, fun _ _ _ _ _ _ _ _ _ _ _ _ _ _ _ => wF_zero⟩, fun _ _ _ _ _ _ _ _ _ _ _ _ => wF_zero, fun _ _ _ _ _ _ _ _ _ _ => wF_zero, fun _ _ _ _ _ _ _ _ _ _ _ _ => wF_zero, fun _ _ _ _ _ _ _ _ _ _ _ _ _ _ => wF_zero⟩
  | F_s + 1 => by
    obtain ⟨⟨i3_s, i4_s⟩, i8_s, i1_s, i13, i17⟩ := d_all hk hc_s t1_s t0_s F_s
    exact ⟨⟨d33_s hk hc_s i4_s i8_s, d43_s hk hc_s t0_s i3_s i4_s⟩, d88_s hk hc_s t1_s i1_s, d104_s hk hc_s i8_s i13, d138_s hk hc_s i17, d178_s hk hc_s t0_s i1_s⟩
theorem d2 (hk : hKn h_s) (hc_s : tM nh ni nr f0_s) (t1_s : stS nh ni (kyI f0_s) (hkI f0_s) (hdR f0_s) → ∀ f1_s, K_s 1 (h_s.1, f1_s, h_s.2.2.1, h_s.2.2.2)) (t0_s : ¬ stS nh ni (kyI f0_s) (hkI f0_s) (hdR f0_s) → ∀ f1_s, K_s 0 (h_s.1, f1_s, h_s.2.2.1, h_s.2.2.2)) : ∀ (F_s n_s : Nat) (x1_s : Int32) (l2 l3 l4 l5 : Option Value) (f_s : Nat → Nat → Int32), (∀ a_s k_s, ¬ a_s = 116 → f_s a_s k_s = f0_s a_s k_s) → (∀ i_s, i_s < n_s → (f_s 116 i_s).toInt = hdR f0_s i_s) → x1_s.toInt = (n_s : Int) → n_s ≤ ni → wF F_s 200 (2, [some (.ref 102), some (.int x1_s), l2, l3, l4, l5], [], (h_s.1, f_s, h_s.2.2.1, h_s.2.2.2)) (gI K_s)
  | 0, _, _, _, _, _, _, _, _, _, _, _ => wF_zero
  | F_s + 1, n_s, x1_s, l2, l3, l4, l5, f_s, g_s, g2, e1_s, hn => by
    have b_s := hc_s.1
    have z1 := azix (i := x1_s) (by omega)
    have ez1 : zix x1_s = n_s := by omega
    have e7_s : f_s 102 7 = f0_s 102 7 := g_s _ _ (by omega)
    have z60_s : zix (60 + x1_s) = 60 + n_s := zxa (c_s := 60) (a_s := 60) rfl e1_s (by omega)
    refine sg_200_2 (h_s := (h_s.1, f_s, h_s.2.2.1, h_s.2.2.2)) hk ?_
    dsimp only
    rw [e7_s, hc_s.2.1.2.1, ez1, z60_s, e1_s]
    refine ⟨fun c1_s => fun c2_s => fun c3_s => ?_, fun c1_s => ?_⟩
    · refine d2 hk hc_s t1_s t0_s F_s (n_s + 1) (x1_s + 1) l2 l3 l4 l5 _ (fun a_s k_s w_s => ?_) (fun i_s hi_s => ?_) (by rw [in1_ (by omega)]; omega) (by omega)
      · rw [zne_up (by omega)]
        exact g_s a_s k_s w_s
      · by_cases ei : i_s = n_s
        · rw [ei, zsame_up, g_s 103 _ (by omega)]
          rfl
        · rw [zne_up (by omega)]
          exact g2 i_s (by omega)
    · have en : n_s = ni := by omega
      subst en
      exact (d_all hk hc_s t1_s t0_s F_s).1.1 0 l2 l3 l4 l5 0 f_s ⟨g_s, g2⟩ rfl (Nat.zero_le _) (fun i_s j_s hi_s _ _ _ => absurd hi_s (Nat.not_lt_zero i_s))
theorem sp_200 {F_s : Nat} (hk : hKn h_s) (hc_s : tM nh ni nr f0_s) (t1_s : stS nh ni (kyI f0_s) (hkI f0_s) (hdR f0_s) → ∀ f1_s, K_s 1 (h_s.1, f1_s, h_s.2.2.1, h_s.2.2.2)) (t0_s : ¬ stS nh ni (kyI f0_s) (hkI f0_s) (hdR f0_s) → ∀ f1_s, K_s 0 (h_s.1, f1_s, h_s.2.2.1, h_s.2.2.2)) : wF F_s 200 (0, [some (.ref 102), none, none, none, none, none], [], (h_s.1, f0_s, h_s.2.2.1, h_s.2.2.2)) (gI K_s) := wF_le (Nat.le_succ F_s) (sg_200_0 (h_s := (h_s.1, f0_s, h_s.2.2.1, h_s.2.2.2)) hk (d2 hk hc_s t1_s t0_s F_s 0 0 none none none none f0_s (fun _ _ _ => rfl) (fun i_s hi_s => absurd hi_s (Nat.not_lt_zero i_s)) rfl (Nat.zero_le _)))
theorem pr_settled {F_s : Nat} (hk : hKn h_s) (hx : tX h_s) : wF F_s 108 (0, [some (.ref 6)], [], h_s) (gI (fun v_s h1 => wF F_s 200 (0, [some (.ref 102), none, none, none, none, none], [], h1) (gI (fun v2 _ => v_s = v2)))) := by
  obtain ⟨nh, ni, nr, hc_s, _, _, _, _, _⟩ := hx
  have m0_s := tC_M hc_s
  have eqd : ∀ i_s, i_s < ni → hdC h_s.2.1 i_s = hdR h_s.2.1 i_s := fun i_s hi_s => by
    show (h_s.2.1 (20 + i_s) 6).toInt = _
    rw [(tC_hd hc_s hi_s).1]
    rfl
  refine wF_le (Nat.le_succ F_s) (sg_108_0 (h_s := h_s) hk ?_)
  have rf : ∀ f1_s : Nat → Nat → Int32, (∀ a_s k_s, ¬ (a_s = 12 ∧ k_s < 6) → f1_s a_s k_s = h_s.2.1 a_s k_s) → ∀ v_s : Int32, (stS nh ni (kyI h_s.2.1) (hkI h_s.2.1) (hdC h_s.2.1) → v_s = 1) → (¬ stS nh ni (kyI h_s.2.1) (hkI h_s.2.1) (hdC h_s.2.1) → v_s = 0) → wF F_s 200 (0, [some (.ref 102), none, none, none, none, none], [], (h_s.1, f1_s, h_s.2.2.1, h_s.2.2.2)) (gI (fun v2 _ => v_s = v2)) := fun f1_s g_s v_s v1_s v0_s => by
    have m1_s : tM nh ni nr f1_s := tM_fr (fun k_s _ _ => g_s _ _ (by omega)) (fun k_s _ => g_s _ _ (by omega)) m0_s
    obtain ⟨ek, eh⟩ := ky_fr (f_s := f1_s) (f0_s := h_s.2.1) (fun k_s => g_s 103 k_s (by omega))
    have er : hdR f1_s = hdR h_s.2.1 := by
      funext i_s
      unfold hdR
      rw [g_s 103 _ (by omega)]
    refine sp_200 (h_s := (h_s.1, f1_s, h_s.2.2.1, h_s.2.2.2)) (f0_s := f1_s) hk m1_s (fun s_s _ => ?_) (fun s_s _ => ?_)
    · rw [ek, eh, er] at s_s
      exact v1_s (stS_c eqd s_s)
    · rw [ek, eh, er] at s_s
      exact v0_s (fun u_s => s_s (stS_c (fun i_s hi_s => (eqd i_s hi_s).symm) u_s))
  refine sp_30 (f0_s := h_s.2.1) hk hc_s (fun s_s f1_s g_s hk1 => ⟨fun c_s => absurd c_s (by decide), fun _ => rf f1_s g_s 1 (fun _ => rfl) (fun u_s => absurd s_s u_s)⟩) (fun s_s f1_s g_s hk1 => ⟨fun _ => rf f1_s g_s 0 (fun u_s => absurd u_s s_s) (fun _ => rfl), fun c_s => absurd rfl c_s⟩)
end SR
/-! What ended runs give: printed by a program (wip/fun/sg.py). -/
/-- ColdShod.act(III)I, from 0 on -/
theorem sg_126_0 {F_s : Nat} {x1_s : Int32} {x2_s : Int32} {x3 : Int32} {h_s : zH} {K_s : Int32 → zH → Prop} (hk : hKn h_s) (t_s : wF F_s 5 (0, [some (.ref 47), some (.int x1_s), some (.int x2_s), some (.int x3)], [], h_s) (gI (fun v1_s h1 => hKn h1 → K_s v1_s h1))) : wF (F_s + 1) 126 (0, [some (.ref 6), some (.int x1_s), some (.int x2_s), some (.int x3)], [], h_s) (gI K_s) := by
  refine w_0 (pc := 0) (e_s := (3, 1, 0, 0, 0, .null, [])) (y_s := (1, [some (.ref _), some (.int _), some (.int _), some (.int _)], [.ref _], _)) rfl (u_ rfl) ?_
  refine w20r (pc := 1) (len_s := 3) (q_s := 47) rfl (krq hk rfl) ?_
  refine w_t (pc := 4) (e_s := (1, 1, 1, 0, 0, .null, [])) (y_s := (5, [some (.ref _), some (.int _), some (.int _), some (.int _)], [.int _, .ref _], _)) rfl (u_ rfl) ?_
  refine w_t (pc := 5) (e_s := (1, 1, 2, 0, 0, .null, [])) (y_s := (6, [some (.ref _), some (.int _), some (.int _), some (.int _)], [.int _, .int _, .ref _], _)) rfl (u_ rfl) ?_
  refine w_t (pc := 6) (e_s := (1, 1, 3, 0, 0, .null, [])) (y_s := (7, [some (.ref _), some (.int _), some (.int _), some (.int _)], [.int _, .int _, .int _, .ref _], _)) rfl (u_ rfl) ?_
  refine wcI (pc := 7) (len_s := 3) rfl rfl (l := [some (.ref _), some (.int _), some (.int _), some (.int _)]) rfl (wmI t_s (fun v1_s h1 hk t_s => ?_))
  replace t_s := t_s hk
  exact wrI (pc := 10) (len_s := 1) rfl hk t_s
/-- ColdShod$Acts.perform(III)I, from 0 on -/
theorem sg_5_0 {F_s : Nat} {x1_s x2_s x3 : Int32} {h_s : zH} {K_s : Int32 → zH → Prop} (hk : hKn h_s) (t_s : (x1_s.toInt < 0 → K_s 0 (h_s.1, zup h_s.2.1 47 2 0, h_s.2.2.1, h_s.2.2.2)) ∧ (¬ x1_s.toInt < 0 → ((x1_s.toInt < (h_s.2.1 47 1).toInt → ((x2_s.toInt < 0 → K_s 0 (h_s.1, zup h_s.2.1 47 2 0, h_s.2.2.1, h_s.2.2.2)) ∧ (¬ x2_s.toInt < 0 → ((3 < x2_s.toInt → K_s 0 (h_s.1, zup h_s.2.1 47 2 0, h_s.2.2.1, h_s.2.2.2)) ∧ (¬ 3 < x2_s.toInt → (zix x1_s < 50 → wF F_s 6 (0, [some (.ref 47), some (.int (h_s.2.1 48 (zix x1_s))), some (.int x2_s), some (.int x3), some (.int 0), none, none], [], (h_s.1, zup (zup (zup h_s.2.1 47 2 0) 47 4 x1_s) 47 5 (h_s.2.1 48 (zix x1_s)), h_s.2.2.1, h_s.2.2.2)) (gI (fun v6 h6 => hKn h6 → K_s v6 h6)))))))) ∧ (¬ x1_s.toInt < (h_s.2.1 47 1).toInt → K_s 0 (h_s.1, zup h_s.2.1 47 2 0, h_s.2.2.1, h_s.2.2.2))))) : wF (F_s + 1) 5 (0, [some (.ref 47), some (.int x1_s), some (.int x2_s), some (.int x3)], [], h_s) (gI K_s) := by
  refine w_0 (pc := 0) (e_s := (3, 1, 0, 0, 0, .null, [])) (y_s := (1, [some (.ref _), some (.int _), some (.int _), some (.int _)], [.ref _], _)) rfl (u_ rfl) ?_
  refine w_t (pc := 1) (e_s := (0, 1, 0, 0, 0, .int 0, [])) (y_s := (2, [some (.ref _), some (.int _), some (.int _), some (.int _)], [.int _, .ref _], _)) rfl (u_ rfl) ?_
  refine w21 (pc := 2) (len_s := 3) rfl ?_
  refine w_t (pc := 5) (e_s := (3, 1, 0, 0, 0, .null, [])) (y_s := (6, [some (.ref _), some (.int _), some (.int _), some (.int _)], [.ref _], _)) rfl (u_ rfl) ?_
  refine w_t (pc := 6) (e_s := (1, 1, 1, 0, 0, .null, [])) (y_s := (7, [some (.ref _), some (.int _), some (.int _), some (.int _)], [.int _, .ref _], _)) rfl (u_ rfl) ?_
  refine wcI (pc := 7) (len_s := 3) rfl rfl (l := [some (.ref _), some (.int _)]) rfl ?_
  refine w_t (pc := 0) (e_s := (1, 1, 1, 0, 0, .null, [])) (y_s := (1, [some (.ref _), some (.int _)], [.int _], _)) rfl (u_ rfl) ?_
  refine wq2 (pc := 1) (len_s := 3) rfl rfl (fun c1_s => ?_) (fun c1_s => ?_)
  · replace t_s := t_s.1 c1_s
    refine w_t (pc := 16) (e_s := (0, 1, 0, 0, 0, .int 0, [])) (y_s := (17, [some (.ref _), some (.int _)], [.int _], _)) rfl (u_ rfl) ?_
    refine wrI (pc := 17) (len_s := 1) rfl hk ?_
    show wF _ 5 (10, [some (.ref _), some (.int _), some (.int _), some (.int _)], [.int _], _) _
    refine w_t (pc := 10) (e_s := (15, 3, 22, 0, 0, .null, [])) (y_s := (22, [some (.ref _), some (.int _), some (.int _), some (.int _)], [], _)) rfl (u_ rfl) ?_
    refine w_t (pc := 22) (e_s := (0, 1, 0, 0, 0, .int 0, [])) (y_s := (23, [some (.ref _), some (.int _), some (.int _), some (.int _)], [.int _], _)) rfl (u_ rfl) ?_
    exact wrI (pc := 23) (len_s := 1) rfl hk t_s
  · replace t_s := t_s.2 c1_s
    refine w_t (pc := 4) (e_s := (1, 1, 1, 0, 0, .null, [])) (y_s := (5, [some (.ref _), some (.int _)], [.int _], _)) rfl (u_ rfl) ?_
    refine w_t (pc := 5) (e_s := (3, 1, 0, 0, 0, .null, [])) (y_s := (6, [some (.ref _), some (.int _)], [.ref _, .int _], _)) rfl (u_ rfl) ?_
    refine w20 (pc := 6) (len_s := 3) rfl ?_
    refine wi3 (pc := 9) (len_s := 3) rfl rfl rfl (fun c2_s => ?_) (fun c2_s => ?_)
    · replace t_s := t_s.1 c2_s
      refine w_t (pc := 12) (e_s := (0, 1, 0, 0, 0, .int 1, [])) (y_s := (13, [some (.ref _), some (.int _)], [.int _], _)) rfl (u_ rfl) ?_
      refine w_t (pc := 13) (e_s := (17, 3, 17, 0, 0, .null, [])) (y_s := (17, [some (.ref _), some (.int _)], [.int _], _)) rfl (u_ rfl) ?_
      refine wrI (pc := 17) (len_s := 1) rfl hk ?_
      show wF _ 5 (10, [some (.ref _), some (.int _), some (.int _), some (.int _)], [.int _], _) _
      refine w_t (pc := 10) (e_s := (15, 3, 22, 0, 0, .null, [])) (y_s := (13, [some (.ref _), some (.int _), some (.int _), some (.int _)], [], _)) rfl (u_ rfl) ?_
      refine w_t (pc := 13) (e_s := (1, 1, 2, 0, 0, .null, [])) (y_s := (14, [some (.ref _), some (.int _), some (.int _), some (.int _)], [.int _], _)) rfl (u_ rfl) ?_
      refine wq2 (pc := 14) (len_s := 3) rfl rfl (fun c3_s => ?_) (fun c3_s => ?_)
      · replace t_s := t_s.1 c3_s
        refine w_t (pc := 22) (e_s := (0, 1, 0, 0, 0, .int 0, [])) (y_s := (23, [some (.ref _), some (.int _), some (.int _), some (.int _)], [.int _], _)) rfl (u_ rfl) ?_
        exact wrI (pc := 23) (len_s := 1) rfl hk t_s
      · replace t_s := t_s.2 c3_s
        refine w_t (pc := 17) (e_s := (1, 1, 2, 0, 0, .null, [])) (y_s := (18, [some (.ref _), some (.int _), some (.int _), some (.int _)], [.int _], _)) rfl (u_ rfl) ?_
        refine w_t (pc := 18) (e_s := (0, 1, 0, 0, 0, .int 3, [])) (y_s := (19, [some (.ref _), some (.int _), some (.int _), some (.int _)], [.int _, .int _], _)) rfl (u_ rfl) ?_
        refine wi5 (pc := 19) (len_s := 3) (Y := 3) rfl rfl (by decide) (fun c4_s => ?_) (fun c4_s => ?_)
        · replace t_s := t_s.1 c4_s
          refine w_t (pc := 22) (e_s := (0, 1, 0, 0, 0, .int 0, [])) (y_s := (23, [some (.ref _), some (.int _), some (.int _), some (.int _)], [.int _], _)) rfl (u_ rfl) ?_
          exact wrI (pc := 23) (len_s := 1) rfl hk t_s
        · replace t_s := t_s.2 c4_s
          refine w_t (pc := 24) (e_s := (3, 1, 0, 0, 0, .null, [])) (y_s := (25, [some (.ref _), some (.int _), some (.int _), some (.int _)], [.ref _], _)) rfl (u_ rfl) ?_
          refine w_t (pc := 25) (e_s := (1, 1, 1, 0, 0, .null, [])) (y_s := (26, [some (.ref _), some (.int _), some (.int _), some (.int _)], [.int _, .ref _], _)) rfl (u_ rfl) ?_
          refine w21 (pc := 26) (len_s := 3) rfl ?_
          refine w_t (pc := 29) (e_s := (3, 1, 0, 0, 0, .null, [])) (y_s := (30, [some (.ref _), some (.int _), some (.int _), some (.int _)], [.ref _], _)) rfl (u_ rfl) ?_
          refine w_t (pc := 30) (e_s := (3, 1, 0, 0, 0, .null, [])) (y_s := (31, [some (.ref _), some (.int _), some (.int _), some (.int _)], [.ref _, .ref _], _)) rfl (u_ rfl) ?_
          refine w20r (pc := 31) (len_s := 3) (q_s := 48) rfl (krq hk rfl) ?_
          refine w_t (pc := 34) (e_s := (1, 1, 1, 0, 0, .null, [])) (y_s := (35, [some (.ref _), some (.int _), some (.int _), some (.int _)], [.int _, .ref _, .ref _], _)) rfl (u_ rfl) ?_
          refine w22 (pc := 35) (len_s := 1) rfl (hk.1 48 0 50 rfl rfl) (fun c5_s => ?_)
          replace t_s := t_s c5_s
          refine w21 (pc := 36) (len_s := 3) rfl ?_
          refine w_t (pc := 39) (e_s := (3, 1, 0, 0, 0, .null, [])) (y_s := (40, [some (.ref _), some (.int _), some (.int _), some (.int _)], [.ref _], _)) rfl (u_ rfl) ?_
          refine w_t (pc := 40) (e_s := (3, 1, 0, 0, 0, .null, [])) (y_s := (41, [some (.ref _), some (.int _), some (.int _), some (.int _)], [.ref _, .ref _], _)) rfl (u_ rfl) ?_
          refine w20 (pc := 41) (len_s := 3) rfl ?_
          refine w_t (pc := 44) (e_s := (1, 1, 2, 0, 0, .null, [])) (y_s := (45, [some (.ref _), some (.int _), some (.int _), some (.int _)], [.int _, .int _, .ref _], _)) rfl (u_ rfl) ?_
          refine w_t (pc := 45) (e_s := (1, 1, 3, 0, 0, .null, [])) (y_s := (46, [some (.ref _), some (.int _), some (.int _), some (.int _)], [.int _, .int _, .int _, .ref _], _)) rfl (u_ rfl) ?_
          refine w_t (pc := 46) (e_s := (0, 1, 0, 0, 0, .int 0, [])) (y_s := (47, [some (.ref _), some (.int _), some (.int _), some (.int _)], [.int _, .int _, .int _, .int _, .ref _], _)) rfl (u_ rfl) ?_
          refine wcI (pc := 47) (len_s := 3) rfl rfl (l := [some (.ref _), some (.int _), some (.int _), some (.int _), some (.int _), none, none]) rfl (wmI t_s (fun v6 h6 hk t_s => ?_))
          replace t_s := t_s hk
          exact wrI (pc := 50) (len_s := 1) rfl hk t_s
    · replace t_s := t_s.2 c2_s
      refine w_t (pc := 16) (e_s := (0, 1, 0, 0, 0, .int 0, [])) (y_s := (17, [some (.ref _), some (.int _)], [.int _], _)) rfl (u_ rfl) ?_
      refine wrI (pc := 17) (len_s := 1) rfl hk ?_
      show wF _ 5 (10, [some (.ref _), some (.int _), some (.int _), some (.int _)], [.int _], _) _
      refine w_t (pc := 10) (e_s := (15, 3, 22, 0, 0, .null, [])) (y_s := (22, [some (.ref _), some (.int _), some (.int _), some (.int _)], [], _)) rfl (u_ rfl) ?_
      refine w_t (pc := 22) (e_s := (0, 1, 0, 0, 0, .int 0, [])) (y_s := (23, [some (.ref _), some (.int _), some (.int _), some (.int _)], [.int _], _)) rfl (u_ rfl) ?_
      exact wrI (pc := 23) (len_s := 1) rfl hk t_s
/-- ColdShod$Acts.run(IIII)I, from 0 on -/
theorem sg_6_0 {F_s : Nat} {x1_s x2_s x3 x4_s : Int32} {h_s : zH} {K_s : Int32 → zH → Prop} (hk : hKn h_s) (t_s : wF F_s 6 (6, [some (.ref 47), some (.int x1_s), some (.int x2_s), some (.int x3), some (.int x4_s), some (.int x1_s), some (.int 0)], [], h_s) (gI K_s)) : wF (F_s + 1) 6 (0, [some (.ref 47), some (.int x1_s), some (.int x2_s), some (.int x3), some (.int x4_s), none, none], [], h_s) (gI K_s) := by
  refine w_0 (pc := 0) (e_s := (1, 1, 1, 0, 0, .null, [])) (y_s := (1, [some (.ref _), some (.int _), some (.int _), some (.int _), some (.int _), none, none], [.int _], _)) rfl (u_ rfl) ?_
  refine w_t (pc := 1) (e_s := (4, 2, 5, 0, 0, .null, [])) (y_s := (3, [some (.ref _), some (.int _), some (.int _), some (.int _), some (.int _), some (.int _), none], [], _)) rfl (u_ rfl) ?_
  refine w_t (pc := 3) (e_s := (0, 1, 0, 0, 0, .int 0, [])) (y_s := (4, [some (.ref _), some (.int _), some (.int _), some (.int _), some (.int _), some (.int _), none], [.int _], _)) rfl (u_ rfl) ?_
  refine w_t (pc := 4) (e_s := (4, 2, 6, 0, 0, .null, [])) (y_s := (6, [some (.ref _), some (.int _), some (.int _), some (.int _), some (.int _), some (.int _), some (.int _)], [], _)) rfl (u_ rfl) ?_
  exact t_s
/-- ColdShod$Acts.run(IIII)I, from 6 on -/
theorem sg_6_6 {F_s : Nat} {x1_s x2_s x3 x4_s x5_s x6 : Int32} {h_s : zH} {K_s : Int32 → zH → Prop} (hk : hKn h_s) (t_s : (x6.toInt < 8 → ((0 < x5_s.toInt → (zix ((x5_s * 4) + x2_s) < 32 → ((h_s.2.1 5 (zix ((x5_s * 4) + x2_s))).toInt = 0 → (zix x5_s < 8 → wF F_s 6 (6, [some (.ref 47), some (.int x1_s), some (.int x2_s), some (.int x3), some (.int x4_s), some (.int (h_s.2.1 4 (zix x5_s))), some (.int (x6 + 1))], [], h_s) (gI K_s))) ∧ (¬ (h_s.2.1 5 (zix ((x5_s * 4) + x2_s))).toInt = 0 → ((x5_s.toInt < 0 → K_s 0 h_s) ∧ (¬ x5_s.toInt < 0 → ((30 < x4_s.toInt → K_s 0 h_s) ∧ (¬ 30 < x4_s.toInt → (((h_s.2.1 47 2).toInt < 24 → (zix (h_s.2.1 47 2) < 24 → (zix x5_s < 8 → wF F_s 7 (0, [some (.ref 47), some (.int (h_s.2.1 5 (zix ((x5_s * 4) + x2_s)))), some (.int (h_s.2.1 4 (zix x5_s))), some (.int x3), some (.int (x4_s + 1))], [], (h_s.1, zup (zup h_s.2.1 49 (zix (h_s.2.1 47 2)) (h_s.2.1 5 (zix ((x5_s * 4) + x2_s)))) 47 2 ((h_s.2.1 47 2) + 1), h_s.2.2.1, h_s.2.2.2)) (gI (fun v12 h12 => hKn h12 → K_s v12 h12))))) ∧ (¬ (h_s.2.1 47 2).toInt < 24 → (zix x5_s < 8 → wF F_s 7 (0, [some (.ref 47), some (.int (h_s.2.1 5 (zix ((x5_s * 4) + x2_s)))), some (.int (h_s.2.1 4 (zix x5_s))), some (.int x3), some (.int (x4_s + 1))], [], (h_s.1, zup h_s.2.1 47 2 ((h_s.2.1 47 2) + 1), h_s.2.2.1, h_s.2.2.2)) (gI (fun v14 h14 => hKn h14 → K_s v14 h14)))))))))))) ∧ (¬ 0 < x5_s.toInt → ((x5_s.toInt < 0 → K_s 0 h_s) ∧ (¬ x5_s.toInt < 0 → ((30 < x4_s.toInt → K_s 0 h_s) ∧ (¬ 30 < x4_s.toInt → (zix ((x5_s * 4) + x2_s) < 32 → ((h_s.2.1 47 2).toInt < 24 → (zix (h_s.2.1 47 2) < 24 → (zix x5_s < 8 → wF F_s 7 (0, [some (.ref 47), some (.int (h_s.2.1 5 (zix ((x5_s * 4) + x2_s)))), some (.int (h_s.2.1 4 (zix x5_s))), some (.int x3), some (.int (x4_s + 1))], [], (h_s.1, zup (zup h_s.2.1 49 (zix (h_s.2.1 47 2)) (h_s.2.1 5 (zix ((x5_s * 4) + x2_s)))) 47 2 ((h_s.2.1 47 2) + 1), h_s.2.2.1, h_s.2.2.2)) (gI (fun v21 h21 => hKn h21 → K_s v21 h21))))) ∧ (¬ (h_s.2.1 47 2).toInt < 24 → (zix x5_s < 8 → wF F_s 7 (0, [some (.ref 47), some (.int (h_s.2.1 5 (zix ((x5_s * 4) + x2_s)))), some (.int (h_s.2.1 4 (zix x5_s))), some (.int x3), some (.int (x4_s + 1))], [], (h_s.1, zup h_s.2.1 47 2 ((h_s.2.1 47 2) + 1), h_s.2.2.1, h_s.2.2.2)) (gI (fun v23 h23 => hKn h23 → K_s v23 h23)))))))))))) ∧ (¬ x6.toInt < 8 → ((x5_s.toInt < 0 → K_s 0 h_s) ∧ (¬ x5_s.toInt < 0 → ((30 < x4_s.toInt → K_s 0 h_s) ∧ (¬ 30 < x4_s.toInt → (zix ((x5_s * 4) + x2_s) < 32 → ((h_s.2.1 47 2).toInt < 24 → (zix (h_s.2.1 47 2) < 24 → (zix x5_s < 8 → wF F_s 7 (0, [some (.ref 47), some (.int (h_s.2.1 5 (zix ((x5_s * 4) + x2_s)))), some (.int (h_s.2.1 4 (zix x5_s))), some (.int x3), some (.int (x4_s + 1))], [], (h_s.1, zup (zup h_s.2.1 49 (zix (h_s.2.1 47 2)) (h_s.2.1 5 (zix ((x5_s * 4) + x2_s)))) 47 2 ((h_s.2.1 47 2) + 1), h_s.2.2.1, h_s.2.2.2)) (gI (fun v30 h30 => hKn h30 → K_s v30 h30))))) ∧ (¬ (h_s.2.1 47 2).toInt < 24 → (zix x5_s < 8 → wF F_s 7 (0, [some (.ref 47), some (.int (h_s.2.1 5 (zix ((x5_s * 4) + x2_s)))), some (.int (h_s.2.1 4 (zix x5_s))), some (.int x3), some (.int (x4_s + 1))], [], (h_s.1, zup h_s.2.1 47 2 ((h_s.2.1 47 2) + 1), h_s.2.2.1, h_s.2.2.2)) (gI (fun v32 h32 => hKn h32 → K_s v32 h32))))))))))) : wF (F_s + 1) 6 (6, [some (.ref 47), some (.int x1_s), some (.int x2_s), some (.int x3), some (.int x4_s), some (.int x5_s), some (.int x6)], [], h_s) (gI K_s) := by
  refine w_0 (pc := 6) (e_s := (1, 2, 6, 0, 0, .null, [])) (y_s := (8, [some (.ref _), some (.int _), some (.int _), some (.int _), some (.int _), some (.int _), some (.int _)], [.int _], _)) rfl (u_ rfl) ?_
  refine w_t (pc := 8) (e_s := (0, 2, 0, 0, 0, .int 8, [])) (y_s := (10, [some (.ref _), some (.int _), some (.int _), some (.int _), some (.int _), some (.int _), some (.int _)], [.int _, .int _], _)) rfl (u_ rfl) ?_
  refine wi3 (pc := 10) (len_s := 3) (Y := 8) rfl rfl (by decide) (fun c1_s => ?_) (fun c1_s => ?_)
  · replace t_s := t_s.1 c1_s
    refine w_t (pc := 13) (e_s := (1, 2, 5, 0, 0, .null, [])) (y_s := (15, [some (.ref _), some (.int _), some (.int _), some (.int _), some (.int _), some (.int _), some (.int _)], [.int _], _)) rfl (u_ rfl) ?_
    refine wq5 (pc := 15) (len_s := 3) rfl rfl (fun c2_s => ?_) (fun c2_s => ?_)
    · replace t_s := t_s.1 c2_s
      refine w_t (pc := 18) (e_s := (43, 3, 5, 0, 0, .null, [(0, 729)])) (y_s := (21, [some (.ref _), some (.int _), some (.int _), some (.int _), some (.int _), some (.int _), some (.int _)], [.ref _], _)) rfl (u_ rfl) ?_
      refine w_t (pc := 21) (e_s := (1, 2, 5, 0, 0, .null, [])) (y_s := (23, [some (.ref _), some (.int _), some (.int _), some (.int _), some (.int _), some (.int _), some (.int _)], [.int _, .ref _], _)) rfl (u_ rfl) ?_
      refine w_t (pc := 23) (e_s := (0, 1, 0, 0, 0, .int 4, [])) (y_s := (24, [some (.ref _), some (.int _), some (.int _), some (.int _), some (.int _), some (.int _), some (.int _)], [.int _, .int _, .ref _], _)) rfl (u_ rfl) ?_
      refine w_t (pc := 24) (e_s := (7, 1, 0, 2, 0, .null, [])) (y_s := (25, [some (.ref _), some (.int _), some (.int _), some (.int _), some (.int _), some (.int _), some (.int _)], [.int (_ * _), .ref _], _)) rfl (u_ rfl) ?_
      refine w_t (pc := 25) (e_s := (1, 1, 2, 0, 0, .null, [])) (y_s := (26, [some (.ref _), some (.int _), some (.int _), some (.int _), some (.int _), some (.int _), some (.int _)], [.int _, .int _, .ref _], _)) rfl (u_ rfl) ?_
      refine w_t (pc := 26) (e_s := (7, 1, 0, 0, 0, .null, [])) (y_s := (27, [some (.ref _), some (.int _), some (.int _), some (.int _), some (.int _), some (.int _), some (.int _)], [.int (_ + _), .ref _], _)) rfl (u_ rfl) ?_
      refine w22 (pc := 27) (len_s := 1) rfl (hk.1 5 5 32 rfl rfl) (fun c3_s => ?_)
      replace t_s := t_s c3_s
      refine wq1 (pc := 28) (len_s := 3) rfl rfl (fun c4_s => ?_) (fun c4_s => ?_)
      · replace t_s := t_s.1 c4_s
        refine w_t (pc := 31) (e_s := (43, 3, 4, 0, 0, .null, [(0, 723)])) (y_s := (34, [some (.ref _), some (.int _), some (.int _), some (.int _), some (.int _), some (.int _), some (.int _)], [.ref _], _)) rfl (u_ rfl) ?_
        refine w_t (pc := 34) (e_s := (1, 2, 5, 0, 0, .null, [])) (y_s := (36, [some (.ref _), some (.int _), some (.int _), some (.int _), some (.int _), some (.int _), some (.int _)], [.int _, .ref _], _)) rfl (u_ rfl) ?_
        refine w22 (pc := 36) (len_s := 1) rfl (hk.1 4 5 8 rfl rfl) (fun c5_s => ?_)
        replace t_s := t_s c5_s
        refine w_t (pc := 37) (e_s := (4, 2, 5, 0, 0, .null, [])) (y_s := (39, [some (.ref _), some (.int _), some (.int _), some (.int _), some (.int _), some (.int _), some (.int _)], [], _)) rfl (u_ rfl) ?_
        refine w_t (pc := 39) (e_s := (19, 3, 6, 0, 0, .int 1, [])) (y_s := (42, [some (.ref _), some (.int _), some (.int _), some (.int _), some (.int _), some (.int _), some (.int _)], [], _)) rfl (u_ rfl) ?_
        refine w_t (pc := 42) (e_s := (17, 3, 6, 0, 0, .null, [])) (y_s := (6, [some (.ref _), some (.int _), some (.int _), some (.int _), some (.int _), some (.int _), some (.int _)], [], _)) rfl (u_ rfl) ?_
        exact t_s
      · replace t_s := t_s.2 c4_s
        refine w_t (pc := 45) (e_s := (1, 2, 5, 0, 0, .null, [])) (y_s := (47, [some (.ref _), some (.int _), some (.int _), some (.int _), some (.int _), some (.int _), some (.int _)], [.int _], _)) rfl (u_ rfl) ?_
        refine wq2 (pc := 47) (len_s := 3) rfl rfl (fun c6_s => ?_) (fun c6_s => ?_)
        · replace t_s := t_s.1 c6_s
          refine w_t (pc := 57) (e_s := (0, 1, 0, 0, 0, .int 0, [])) (y_s := (58, [some (.ref _), some (.int _), some (.int _), some (.int _), some (.int _), some (.int _), some (.int _)], [.int _], _)) rfl (u_ rfl) ?_
          exact wrI (pc := 58) (len_s := 1) rfl hk t_s
        · replace t_s := t_s.2 c6_s
          refine w_t (pc := 50) (e_s := (1, 2, 4, 0, 0, .null, [])) (y_s := (52, [some (.ref _), some (.int _), some (.int _), some (.int _), some (.int _), some (.int _), some (.int _)], [.int _], _)) rfl (u_ rfl) ?_
          refine w_t (pc := 52) (e_s := (0, 2, 0, 0, 0, .int 30, [])) (y_s := (54, [some (.ref _), some (.int _), some (.int _), some (.int _), some (.int _), some (.int _), some (.int _)], [.int _, .int _], _)) rfl (u_ rfl) ?_
          refine wi5 (pc := 54) (len_s := 3) (Y := 30) rfl rfl (by decide) (fun c7_s => ?_) (fun c7_s => ?_)
          · replace t_s := t_s.1 c7_s
            refine w_t (pc := 57) (e_s := (0, 1, 0, 0, 0, .int 0, [])) (y_s := (58, [some (.ref _), some (.int _), some (.int _), some (.int _), some (.int _), some (.int _), some (.int _)], [.int _], _)) rfl (u_ rfl) ?_
            exact wrI (pc := 58) (len_s := 1) rfl hk t_s
          · replace t_s := t_s.2 c7_s
            refine w_t (pc := 59) (e_s := (43, 3, 5, 0, 0, .null, [(0, 729)])) (y_s := (62, [some (.ref _), some (.int _), some (.int _), some (.int _), some (.int _), some (.int _), some (.int _)], [.ref _], _)) rfl (u_ rfl) ?_
            refine w_t (pc := 62) (e_s := (1, 2, 5, 0, 0, .null, [])) (y_s := (64, [some (.ref _), some (.int _), some (.int _), some (.int _), some (.int _), some (.int _), some (.int _)], [.int _, .ref _], _)) rfl (u_ rfl) ?_
            refine w_t (pc := 64) (e_s := (0, 1, 0, 0, 0, .int 4, [])) (y_s := (65, [some (.ref _), some (.int _), some (.int _), some (.int _), some (.int _), some (.int _), some (.int _)], [.int _, .int _, .ref _], _)) rfl (u_ rfl) ?_
            refine w_t (pc := 65) (e_s := (7, 1, 0, 2, 0, .null, [])) (y_s := (66, [some (.ref _), some (.int _), some (.int _), some (.int _), some (.int _), some (.int _), some (.int _)], [.int (_ * _), .ref _], _)) rfl (u_ rfl) ?_
            refine w_t (pc := 66) (e_s := (1, 1, 2, 0, 0, .null, [])) (y_s := (67, [some (.ref _), some (.int _), some (.int _), some (.int _), some (.int _), some (.int _), some (.int _)], [.int _, .int _, .ref _], _)) rfl (u_ rfl) ?_
            refine w_t (pc := 67) (e_s := (7, 1, 0, 0, 0, .null, [])) (y_s := (68, [some (.ref _), some (.int _), some (.int _), some (.int _), some (.int _), some (.int _), some (.int _)], [.int (_ + _), .ref _], _)) rfl (u_ rfl) ?_
            refine w22 (pc := 68) (len_s := 1) rfl (hk.1 5 5 32 rfl rfl) (fun c8_s => ?_)
            refine w_t (pc := 69) (e_s := (4, 2, 6, 0, 0, .null, [])) (y_s := (71, [some (.ref _), some (.int _), some (.int _), some (.int _), some (.int _), some (.int _), some (.int _)], [], _)) rfl (u_ rfl) ?_
            refine w_t (pc := 71) (e_s := (3, 1, 0, 0, 0, .null, [])) (y_s := (72, [some (.ref _), some (.int _), some (.int _), some (.int _), some (.int _), some (.int _), some (.int _)], [.ref _], _)) rfl (u_ rfl) ?_
            refine w20 (pc := 72) (len_s := 3) rfl ?_
            refine w_t (pc := 75) (e_s := (0, 2, 0, 0, 0, .int 24, [])) (y_s := (77, [some (.ref _), some (.int _), some (.int _), some (.int _), some (.int _), some (.int _), some (.int _)], [.int _, .int _], _)) rfl (u_ rfl) ?_
            refine wi3 (pc := 77) (len_s := 3) (Y := 24) rfl rfl (by decide) (fun c9_s => ?_) (fun c9_s => ?_)
            · replace t_s := t_s.1 c9_s
              refine w_t (pc := 80) (e_s := (3, 1, 0, 0, 0, .null, [])) (y_s := (81, [some (.ref _), some (.int _), some (.int _), some (.int _), some (.int _), some (.int _), some (.int _)], [.ref _], _)) rfl (u_ rfl) ?_
              refine w20r (pc := 81) (len_s := 3) (q_s := 49) rfl (krq hk rfl) ?_
              refine w_t (pc := 84) (e_s := (3, 1, 0, 0, 0, .null, [])) (y_s := (85, [some (.ref _), some (.int _), some (.int _), some (.int _), some (.int _), some (.int _), some (.int _)], [.ref _, .ref _], _)) rfl (u_ rfl) ?_
              refine w20 (pc := 85) (len_s := 3) rfl ?_
              refine w_t (pc := 88) (e_s := (1, 2, 6, 0, 0, .null, [])) (y_s := (90, [some (.ref _), some (.int _), some (.int _), some (.int _), some (.int _), some (.int _), some (.int _)], [.int _, .int _, .ref _], _)) rfl (u_ rfl) ?_
              refine w25 (pc := 90) (len_s := 1) rfl (hk.1 49 0 24 rfl rfl) (fun c10_s => ?_)
              replace t_s := t_s c10_s
              refine w_t (pc := 91) (e_s := (3, 1, 0, 0, 0, .null, [])) (y_s := (92, [some (.ref _), some (.int _), some (.int _), some (.int _), some (.int _), some (.int _), some (.int _)], [.ref _], _)) rfl (u_ rfl) ?_
              refine w_t (pc := 92) (e_s := (39, 1, 0, 0, 0, .null, [])) (y_s := (93, [some (.ref _), some (.int _), some (.int _), some (.int _), some (.int _), some (.int _), some (.int _)], [.ref _, .ref _], _)) rfl (u_ rfl) ?_
              refine w20 (pc := 93) (len_s := 3) rfl ?_
              refine w_t (pc := 96) (e_s := (0, 1, 0, 0, 0, .int 1, [])) (y_s := (97, [some (.ref _), some (.int _), some (.int _), some (.int _), some (.int _), some (.int _), some (.int _)], [.int _, .int _, .ref _], _)) rfl (u_ rfl) ?_
              refine w_t (pc := 97) (e_s := (7, 1, 0, 0, 0, .null, [])) (y_s := (98, [some (.ref _), some (.int _), some (.int _), some (.int _), some (.int _), some (.int _), some (.int _)], [.int (_ + _), .ref _], _)) rfl (u_ rfl) ?_
              refine w21 (pc := 98) (len_s := 3) rfl ?_
              refine w_t (pc := 101) (e_s := (3, 1, 0, 0, 0, .null, [])) (y_s := (102, [some (.ref _), some (.int _), some (.int _), some (.int _), some (.int _), some (.int _), some (.int _)], [.ref _], _)) rfl (u_ rfl) ?_
              refine w_t (pc := 102) (e_s := (1, 2, 6, 0, 0, .null, [])) (y_s := (104, [some (.ref _), some (.int _), some (.int _), some (.int _), some (.int _), some (.int _), some (.int _)], [.int _, .ref _], _)) rfl (u_ rfl) ?_
              refine w_t (pc := 104) (e_s := (43, 3, 4, 0, 0, .null, [(0, 723)])) (y_s := (107, [some (.ref _), some (.int _), some (.int _), some (.int _), some (.int _), some (.int _), some (.int _)], [.ref _, .int _, .ref _], _)) rfl (u_ rfl) ?_
              refine w_t (pc := 107) (e_s := (1, 2, 5, 0, 0, .null, [])) (y_s := (109, [some (.ref _), some (.int _), some (.int _), some (.int _), some (.int _), some (.int _), some (.int _)], [.int _, .ref _, .int _, .ref _], _)) rfl (u_ rfl) ?_
              refine w22 (pc := 109) (len_s := 1) rfl (hk.1 4 5 8 rfl rfl) (fun c11 => ?_)
              replace t_s := t_s c11
              refine w_t (pc := 110) (e_s := (1, 1, 3, 0, 0, .null, [])) (y_s := (111, [some (.ref _), some (.int _), some (.int _), some (.int _), some (.int _), some (.int _), some (.int _)], [.int _, .int _, .int _, .ref _], _)) rfl (u_ rfl) ?_
              refine w_t (pc := 111) (e_s := (1, 2, 4, 0, 0, .null, [])) (y_s := (113, [some (.ref _), some (.int _), some (.int _), some (.int _), some (.int _), some (.int _), some (.int _)], [.int _, .int _, .int _, .int _, .ref _], _)) rfl (u_ rfl) ?_
              refine w_t (pc := 113) (e_s := (0, 1, 0, 0, 0, .int 1, [])) (y_s := (114, [some (.ref _), some (.int _), some (.int _), some (.int _), some (.int _), some (.int _), some (.int _)], [.int _, .int _, .int _, .int _, .int _, .ref _], _)) rfl (u_ rfl) ?_
              refine w_t (pc := 114) (e_s := (7, 1, 0, 0, 0, .null, [])) (y_s := (115, [some (.ref _), some (.int _), some (.int _), some (.int _), some (.int _), some (.int _), some (.int _)], [.int (_ + _), .int _, .int _, .int _, .ref _], _)) rfl (u_ rfl) ?_
              refine wcI (pc := 115) (len_s := 3) rfl rfl (l := [some (.ref _), some (.int _), some (.int _), some (.int _), some (.int _)]) rfl (wmI t_s (fun v12 h12 hk t_s => ?_))
              replace t_s := t_s hk
              exact wrI (pc := 118) (len_s := 1) rfl hk t_s
            · replace t_s := t_s.2 c9_s
              refine w_t (pc := 91) (e_s := (3, 1, 0, 0, 0, .null, [])) (y_s := (92, [some (.ref _), some (.int _), some (.int _), some (.int _), some (.int _), some (.int _), some (.int _)], [.ref _], _)) rfl (u_ rfl) ?_
              refine w_t (pc := 92) (e_s := (39, 1, 0, 0, 0, .null, [])) (y_s := (93, [some (.ref _), some (.int _), some (.int _), some (.int _), some (.int _), some (.int _), some (.int _)], [.ref _, .ref _], _)) rfl (u_ rfl) ?_
              refine w20 (pc := 93) (len_s := 3) rfl ?_
              refine w_t (pc := 96) (e_s := (0, 1, 0, 0, 0, .int 1, [])) (y_s := (97, [some (.ref _), some (.int _), some (.int _), some (.int _), some (.int _), some (.int _), some (.int _)], [.int _, .int _, .ref _], _)) rfl (u_ rfl) ?_
              refine w_t (pc := 97) (e_s := (7, 1, 0, 0, 0, .null, [])) (y_s := (98, [some (.ref _), some (.int _), some (.int _), some (.int _), some (.int _), some (.int _), some (.int _)], [.int (_ + _), .ref _], _)) rfl (u_ rfl) ?_
              refine w21 (pc := 98) (len_s := 3) rfl ?_
              refine w_t (pc := 101) (e_s := (3, 1, 0, 0, 0, .null, [])) (y_s := (102, [some (.ref _), some (.int _), some (.int _), some (.int _), some (.int _), some (.int _), some (.int _)], [.ref _], _)) rfl (u_ rfl) ?_
              refine w_t (pc := 102) (e_s := (1, 2, 6, 0, 0, .null, [])) (y_s := (104, [some (.ref _), some (.int _), some (.int _), some (.int _), some (.int _), some (.int _), some (.int _)], [.int _, .ref _], _)) rfl (u_ rfl) ?_
              refine w_t (pc := 104) (e_s := (43, 3, 4, 0, 0, .null, [(0, 723)])) (y_s := (107, [some (.ref _), some (.int _), some (.int _), some (.int _), some (.int _), some (.int _), some (.int _)], [.ref _, .int _, .ref _], _)) rfl (u_ rfl) ?_
              refine w_t (pc := 107) (e_s := (1, 2, 5, 0, 0, .null, [])) (y_s := (109, [some (.ref _), some (.int _), some (.int _), some (.int _), some (.int _), some (.int _), some (.int _)], [.int _, .ref _, .int _, .ref _], _)) rfl (u_ rfl) ?_
              refine w22 (pc := 109) (len_s := 1) rfl (hk.1 4 5 8 rfl rfl) (fun c13_s => ?_)
              replace t_s := t_s c13_s
              refine w_t (pc := 110) (e_s := (1, 1, 3, 0, 0, .null, [])) (y_s := (111, [some (.ref _), some (.int _), some (.int _), some (.int _), some (.int _), some (.int _), some (.int _)], [.int _, .int _, .int _, .ref _], _)) rfl (u_ rfl) ?_
              refine w_t (pc := 111) (e_s := (1, 2, 4, 0, 0, .null, [])) (y_s := (113, [some (.ref _), some (.int _), some (.int _), some (.int _), some (.int _), some (.int _), some (.int _)], [.int _, .int _, .int _, .int _, .ref _], _)) rfl (u_ rfl) ?_
              refine w_t (pc := 113) (e_s := (0, 1, 0, 0, 0, .int 1, [])) (y_s := (114, [some (.ref _), some (.int _), some (.int _), some (.int _), some (.int _), some (.int _), some (.int _)], [.int _, .int _, .int _, .int _, .int _, .ref _], _)) rfl (u_ rfl) ?_
              refine w_t (pc := 114) (e_s := (7, 1, 0, 0, 0, .null, [])) (y_s := (115, [some (.ref _), some (.int _), some (.int _), some (.int _), some (.int _), some (.int _), some (.int _)], [.int (_ + _), .int _, .int _, .int _, .ref _], _)) rfl (u_ rfl) ?_
              refine wcI (pc := 115) (len_s := 3) rfl rfl (l := [some (.ref _), some (.int _), some (.int _), some (.int _), some (.int _)]) rfl (wmI t_s (fun v14 h14 hk t_s => ?_))
              replace t_s := t_s hk
              exact wrI (pc := 118) (len_s := 1) rfl hk t_s
    · replace t_s := t_s.2 c2_s
      refine w_t (pc := 45) (e_s := (1, 2, 5, 0, 0, .null, [])) (y_s := (47, [some (.ref _), some (.int _), some (.int _), some (.int _), some (.int _), some (.int _), some (.int _)], [.int _], _)) rfl (u_ rfl) ?_
      refine wq2 (pc := 47) (len_s := 3) rfl rfl (fun c15_s => ?_) (fun c15_s => ?_)
      · replace t_s := t_s.1 c15_s
        refine w_t (pc := 57) (e_s := (0, 1, 0, 0, 0, .int 0, [])) (y_s := (58, [some (.ref _), some (.int _), some (.int _), some (.int _), some (.int _), some (.int _), some (.int _)], [.int _], _)) rfl (u_ rfl) ?_
        exact wrI (pc := 58) (len_s := 1) rfl hk t_s
      · replace t_s := t_s.2 c15_s
        refine w_t (pc := 50) (e_s := (1, 2, 4, 0, 0, .null, [])) (y_s := (52, [some (.ref _), some (.int _), some (.int _), some (.int _), some (.int _), some (.int _), some (.int _)], [.int _], _)) rfl (u_ rfl) ?_
        refine w_t (pc := 52) (e_s := (0, 2, 0, 0, 0, .int 30, [])) (y_s := (54, [some (.ref _), some (.int _), some (.int _), some (.int _), some (.int _), some (.int _), some (.int _)], [.int _, .int _], _)) rfl (u_ rfl) ?_
        refine wi5 (pc := 54) (len_s := 3) (Y := 30) rfl rfl (by decide) (fun c16 => ?_) (fun c16 => ?_)
        · replace t_s := t_s.1 c16
          refine w_t (pc := 57) (e_s := (0, 1, 0, 0, 0, .int 0, [])) (y_s := (58, [some (.ref _), some (.int _), some (.int _), some (.int _), some (.int _), some (.int _), some (.int _)], [.int _], _)) rfl (u_ rfl) ?_
          exact wrI (pc := 58) (len_s := 1) rfl hk t_s
        · replace t_s := t_s.2 c16
          refine w_t (pc := 59) (e_s := (43, 3, 5, 0, 0, .null, [(0, 729)])) (y_s := (62, [some (.ref _), some (.int _), some (.int _), some (.int _), some (.int _), some (.int _), some (.int _)], [.ref _], _)) rfl (u_ rfl) ?_
          refine w_t (pc := 62) (e_s := (1, 2, 5, 0, 0, .null, [])) (y_s := (64, [some (.ref _), some (.int _), some (.int _), some (.int _), some (.int _), some (.int _), some (.int _)], [.int _, .ref _], _)) rfl (u_ rfl) ?_
          refine w_t (pc := 64) (e_s := (0, 1, 0, 0, 0, .int 4, [])) (y_s := (65, [some (.ref _), some (.int _), some (.int _), some (.int _), some (.int _), some (.int _), some (.int _)], [.int _, .int _, .ref _], _)) rfl (u_ rfl) ?_
          refine w_t (pc := 65) (e_s := (7, 1, 0, 2, 0, .null, [])) (y_s := (66, [some (.ref _), some (.int _), some (.int _), some (.int _), some (.int _), some (.int _), some (.int _)], [.int (_ * _), .ref _], _)) rfl (u_ rfl) ?_
          refine w_t (pc := 66) (e_s := (1, 1, 2, 0, 0, .null, [])) (y_s := (67, [some (.ref _), some (.int _), some (.int _), some (.int _), some (.int _), some (.int _), some (.int _)], [.int _, .int _, .ref _], _)) rfl (u_ rfl) ?_
          refine w_t (pc := 67) (e_s := (7, 1, 0, 0, 0, .null, [])) (y_s := (68, [some (.ref _), some (.int _), some (.int _), some (.int _), some (.int _), some (.int _), some (.int _)], [.int (_ + _), .ref _], _)) rfl (u_ rfl) ?_
          refine w22 (pc := 68) (len_s := 1) rfl (hk.1 5 5 32 rfl rfl) (fun c17 => ?_)
          replace t_s := t_s c17
          refine w_t (pc := 69) (e_s := (4, 2, 6, 0, 0, .null, [])) (y_s := (71, [some (.ref _), some (.int _), some (.int _), some (.int _), some (.int _), some (.int _), some (.int _)], [], _)) rfl (u_ rfl) ?_
          refine w_t (pc := 71) (e_s := (3, 1, 0, 0, 0, .null, [])) (y_s := (72, [some (.ref _), some (.int _), some (.int _), some (.int _), some (.int _), some (.int _), some (.int _)], [.ref _], _)) rfl (u_ rfl) ?_
          refine w20 (pc := 72) (len_s := 3) rfl ?_
          refine w_t (pc := 75) (e_s := (0, 2, 0, 0, 0, .int 24, [])) (y_s := (77, [some (.ref _), some (.int _), some (.int _), some (.int _), some (.int _), some (.int _), some (.int _)], [.int _, .int _], _)) rfl (u_ rfl) ?_
          refine wi3 (pc := 77) (len_s := 3) (Y := 24) rfl rfl (by decide) (fun c18_s => ?_) (fun c18_s => ?_)
          · replace t_s := t_s.1 c18_s
            refine w_t (pc := 80) (e_s := (3, 1, 0, 0, 0, .null, [])) (y_s := (81, [some (.ref _), some (.int _), some (.int _), some (.int _), some (.int _), some (.int _), some (.int _)], [.ref _], _)) rfl (u_ rfl) ?_
            refine w20r (pc := 81) (len_s := 3) (q_s := 49) rfl (krq hk rfl) ?_
            refine w_t (pc := 84) (e_s := (3, 1, 0, 0, 0, .null, [])) (y_s := (85, [some (.ref _), some (.int _), some (.int _), some (.int _), some (.int _), some (.int _), some (.int _)], [.ref _, .ref _], _)) rfl (u_ rfl) ?_
            refine w20 (pc := 85) (len_s := 3) rfl ?_
            refine w_t (pc := 88) (e_s := (1, 2, 6, 0, 0, .null, [])) (y_s := (90, [some (.ref _), some (.int _), some (.int _), some (.int _), some (.int _), some (.int _), some (.int _)], [.int _, .int _, .ref _], _)) rfl (u_ rfl) ?_
            refine w25 (pc := 90) (len_s := 1) rfl (hk.1 49 0 24 rfl rfl) (fun c19_s => ?_)
            replace t_s := t_s c19_s
            refine w_t (pc := 91) (e_s := (3, 1, 0, 0, 0, .null, [])) (y_s := (92, [some (.ref _), some (.int _), some (.int _), some (.int _), some (.int _), some (.int _), some (.int _)], [.ref _], _)) rfl (u_ rfl) ?_
            refine w_t (pc := 92) (e_s := (39, 1, 0, 0, 0, .null, [])) (y_s := (93, [some (.ref _), some (.int _), some (.int _), some (.int _), some (.int _), some (.int _), some (.int _)], [.ref _, .ref _], _)) rfl (u_ rfl) ?_
            refine w20 (pc := 93) (len_s := 3) rfl ?_
            refine w_t (pc := 96) (e_s := (0, 1, 0, 0, 0, .int 1, [])) (y_s := (97, [some (.ref _), some (.int _), some (.int _), some (.int _), some (.int _), some (.int _), some (.int _)], [.int _, .int _, .ref _], _)) rfl (u_ rfl) ?_
            refine w_t (pc := 97) (e_s := (7, 1, 0, 0, 0, .null, [])) (y_s := (98, [some (.ref _), some (.int _), some (.int _), some (.int _), some (.int _), some (.int _), some (.int _)], [.int (_ + _), .ref _], _)) rfl (u_ rfl) ?_
            refine w21 (pc := 98) (len_s := 3) rfl ?_
            refine w_t (pc := 101) (e_s := (3, 1, 0, 0, 0, .null, [])) (y_s := (102, [some (.ref _), some (.int _), some (.int _), some (.int _), some (.int _), some (.int _), some (.int _)], [.ref _], _)) rfl (u_ rfl) ?_
            refine w_t (pc := 102) (e_s := (1, 2, 6, 0, 0, .null, [])) (y_s := (104, [some (.ref _), some (.int _), some (.int _), some (.int _), some (.int _), some (.int _), some (.int _)], [.int _, .ref _], _)) rfl (u_ rfl) ?_
            refine w_t (pc := 104) (e_s := (43, 3, 4, 0, 0, .null, [(0, 723)])) (y_s := (107, [some (.ref _), some (.int _), some (.int _), some (.int _), some (.int _), some (.int _), some (.int _)], [.ref _, .int _, .ref _], _)) rfl (u_ rfl) ?_
            refine w_t (pc := 107) (e_s := (1, 2, 5, 0, 0, .null, [])) (y_s := (109, [some (.ref _), some (.int _), some (.int _), some (.int _), some (.int _), some (.int _), some (.int _)], [.int _, .ref _, .int _, .ref _], _)) rfl (u_ rfl) ?_
            refine w22 (pc := 109) (len_s := 1) rfl (hk.1 4 5 8 rfl rfl) (fun c20_s => ?_)
            replace t_s := t_s c20_s
            refine w_t (pc := 110) (e_s := (1, 1, 3, 0, 0, .null, [])) (y_s := (111, [some (.ref _), some (.int _), some (.int _), some (.int _), some (.int _), some (.int _), some (.int _)], [.int _, .int _, .int _, .ref _], _)) rfl (u_ rfl) ?_
            refine w_t (pc := 111) (e_s := (1, 2, 4, 0, 0, .null, [])) (y_s := (113, [some (.ref _), some (.int _), some (.int _), some (.int _), some (.int _), some (.int _), some (.int _)], [.int _, .int _, .int _, .int _, .ref _], _)) rfl (u_ rfl) ?_
            refine w_t (pc := 113) (e_s := (0, 1, 0, 0, 0, .int 1, [])) (y_s := (114, [some (.ref _), some (.int _), some (.int _), some (.int _), some (.int _), some (.int _), some (.int _)], [.int _, .int _, .int _, .int _, .int _, .ref _], _)) rfl (u_ rfl) ?_
            refine w_t (pc := 114) (e_s := (7, 1, 0, 0, 0, .null, [])) (y_s := (115, [some (.ref _), some (.int _), some (.int _), some (.int _), some (.int _), some (.int _), some (.int _)], [.int (_ + _), .int _, .int _, .int _, .ref _], _)) rfl (u_ rfl) ?_
            refine wcI (pc := 115) (len_s := 3) rfl rfl (l := [some (.ref _), some (.int _), some (.int _), some (.int _), some (.int _)]) rfl (wmI t_s (fun v21 h21 hk t_s => ?_))
            replace t_s := t_s hk
            exact wrI (pc := 118) (len_s := 1) rfl hk t_s
          · replace t_s := t_s.2 c18_s
            refine w_t (pc := 91) (e_s := (3, 1, 0, 0, 0, .null, [])) (y_s := (92, [some (.ref _), some (.int _), some (.int _), some (.int _), some (.int _), some (.int _), some (.int _)], [.ref _], _)) rfl (u_ rfl) ?_
            refine w_t (pc := 92) (e_s := (39, 1, 0, 0, 0, .null, [])) (y_s := (93, [some (.ref _), some (.int _), some (.int _), some (.int _), some (.int _), some (.int _), some (.int _)], [.ref _, .ref _], _)) rfl (u_ rfl) ?_
            refine w20 (pc := 93) (len_s := 3) rfl ?_
            refine w_t (pc := 96) (e_s := (0, 1, 0, 0, 0, .int 1, [])) (y_s := (97, [some (.ref _), some (.int _), some (.int _), some (.int _), some (.int _), some (.int _), some (.int _)], [.int _, .int _, .ref _], _)) rfl (u_ rfl) ?_
            refine w_t (pc := 97) (e_s := (7, 1, 0, 0, 0, .null, [])) (y_s := (98, [some (.ref _), some (.int _), some (.int _), some (.int _), some (.int _), some (.int _), some (.int _)], [.int (_ + _), .ref _], _)) rfl (u_ rfl) ?_
            refine w21 (pc := 98) (len_s := 3) rfl ?_
            refine w_t (pc := 101) (e_s := (3, 1, 0, 0, 0, .null, [])) (y_s := (102, [some (.ref _), some (.int _), some (.int _), some (.int _), some (.int _), some (.int _), some (.int _)], [.ref _], _)) rfl (u_ rfl) ?_
            refine w_t (pc := 102) (e_s := (1, 2, 6, 0, 0, .null, [])) (y_s := (104, [some (.ref _), some (.int _), some (.int _), some (.int _), some (.int _), some (.int _), some (.int _)], [.int _, .ref _], _)) rfl (u_ rfl) ?_
            refine w_t (pc := 104) (e_s := (43, 3, 4, 0, 0, .null, [(0, 723)])) (y_s := (107, [some (.ref _), some (.int _), some (.int _), some (.int _), some (.int _), some (.int _), some (.int _)], [.ref _, .int _, .ref _], _)) rfl (u_ rfl) ?_
            refine w_t (pc := 107) (e_s := (1, 2, 5, 0, 0, .null, [])) (y_s := (109, [some (.ref _), some (.int _), some (.int _), some (.int _), some (.int _), some (.int _), some (.int _)], [.int _, .ref _, .int _, .ref _], _)) rfl (u_ rfl) ?_
            refine w22 (pc := 109) (len_s := 1) rfl (hk.1 4 5 8 rfl rfl) (fun c22 => ?_)
            replace t_s := t_s c22
            refine w_t (pc := 110) (e_s := (1, 1, 3, 0, 0, .null, [])) (y_s := (111, [some (.ref _), some (.int _), some (.int _), some (.int _), some (.int _), some (.int _), some (.int _)], [.int _, .int _, .int _, .ref _], _)) rfl (u_ rfl) ?_
            refine w_t (pc := 111) (e_s := (1, 2, 4, 0, 0, .null, [])) (y_s := (113, [some (.ref _), some (.int _), some (.int _), some (.int _), some (.int _), some (.int _), some (.int _)], [.int _, .int _, .int _, .int _, .ref _], _)) rfl (u_ rfl) ?_
            refine w_t (pc := 113) (e_s := (0, 1, 0, 0, 0, .int 1, [])) (y_s := (114, [some (.ref _), some (.int _), some (.int _), some (.int _), some (.int _), some (.int _), some (.int _)], [.int _, .int _, .int _, .int _, .int _, .ref _], _)) rfl (u_ rfl) ?_
            refine w_t (pc := 114) (e_s := (7, 1, 0, 0, 0, .null, [])) (y_s := (115, [some (.ref _), some (.int _), some (.int _), some (.int _), some (.int _), some (.int _), some (.int _)], [.int (_ + _), .int _, .int _, .int _, .ref _], _)) rfl (u_ rfl) ?_
            refine wcI (pc := 115) (len_s := 3) rfl rfl (l := [some (.ref _), some (.int _), some (.int _), some (.int _), some (.int _)]) rfl (wmI t_s (fun v23 h23 hk t_s => ?_))
            replace t_s := t_s hk
            exact wrI (pc := 118) (len_s := 1) rfl hk t_s
  · replace t_s := t_s.2 c1_s
    refine w_t (pc := 45) (e_s := (1, 2, 5, 0, 0, .null, [])) (y_s := (47, [some (.ref _), some (.int _), some (.int _), some (.int _), some (.int _), some (.int _), some (.int _)], [.int _], _)) rfl (u_ rfl) ?_
    refine wq2 (pc := 47) (len_s := 3) rfl rfl (fun c24_s => ?_) (fun c24_s => ?_)
    · replace t_s := t_s.1 c24_s
      refine w_t (pc := 57) (e_s := (0, 1, 0, 0, 0, .int 0, [])) (y_s := (58, [some (.ref _), some (.int _), some (.int _), some (.int _), some (.int _), some (.int _), some (.int _)], [.int _], _)) rfl (u_ rfl) ?_
      exact wrI (pc := 58) (len_s := 1) rfl hk t_s
    · replace t_s := t_s.2 c24_s
      refine w_t (pc := 50) (e_s := (1, 2, 4, 0, 0, .null, [])) (y_s := (52, [some (.ref _), some (.int _), some (.int _), some (.int _), some (.int _), some (.int _), some (.int _)], [.int _], _)) rfl (u_ rfl) ?_
      refine w_t (pc := 52) (e_s := (0, 2, 0, 0, 0, .int 30, [])) (y_s := (54, [some (.ref _), some (.int _), some (.int _), some (.int _), some (.int _), some (.int _), some (.int _)], [.int _, .int _], _)) rfl (u_ rfl) ?_
      refine wi5 (pc := 54) (len_s := 3) (Y := 30) rfl rfl (by decide) (fun c25_s => ?_) (fun c25_s => ?_)
      · replace t_s := t_s.1 c25_s
        refine w_t (pc := 57) (e_s := (0, 1, 0, 0, 0, .int 0, [])) (y_s := (58, [some (.ref _), some (.int _), some (.int _), some (.int _), some (.int _), some (.int _), some (.int _)], [.int _], _)) rfl (u_ rfl) ?_
        exact wrI (pc := 58) (len_s := 1) rfl hk t_s
      · replace t_s := t_s.2 c25_s
        refine w_t (pc := 59) (e_s := (43, 3, 5, 0, 0, .null, [(0, 729)])) (y_s := (62, [some (.ref _), some (.int _), some (.int _), some (.int _), some (.int _), some (.int _), some (.int _)], [.ref _], _)) rfl (u_ rfl) ?_
        refine w_t (pc := 62) (e_s := (1, 2, 5, 0, 0, .null, [])) (y_s := (64, [some (.ref _), some (.int _), some (.int _), some (.int _), some (.int _), some (.int _), some (.int _)], [.int _, .ref _], _)) rfl (u_ rfl) ?_
        refine w_t (pc := 64) (e_s := (0, 1, 0, 0, 0, .int 4, [])) (y_s := (65, [some (.ref _), some (.int _), some (.int _), some (.int _), some (.int _), some (.int _), some (.int _)], [.int _, .int _, .ref _], _)) rfl (u_ rfl) ?_
        refine w_t (pc := 65) (e_s := (7, 1, 0, 2, 0, .null, [])) (y_s := (66, [some (.ref _), some (.int _), some (.int _), some (.int _), some (.int _), some (.int _), some (.int _)], [.int (_ * _), .ref _], _)) rfl (u_ rfl) ?_
        refine w_t (pc := 66) (e_s := (1, 1, 2, 0, 0, .null, [])) (y_s := (67, [some (.ref _), some (.int _), some (.int _), some (.int _), some (.int _), some (.int _), some (.int _)], [.int _, .int _, .ref _], _)) rfl (u_ rfl) ?_
        refine w_t (pc := 67) (e_s := (7, 1, 0, 0, 0, .null, [])) (y_s := (68, [some (.ref _), some (.int _), some (.int _), some (.int _), some (.int _), some (.int _), some (.int _)], [.int (_ + _), .ref _], _)) rfl (u_ rfl) ?_
        refine w22 (pc := 68) (len_s := 1) rfl (hk.1 5 5 32 rfl rfl) (fun c26 => ?_)
        replace t_s := t_s c26
        refine w_t (pc := 69) (e_s := (4, 2, 6, 0, 0, .null, [])) (y_s := (71, [some (.ref _), some (.int _), some (.int _), some (.int _), some (.int _), some (.int _), some (.int _)], [], _)) rfl (u_ rfl) ?_
        refine w_t (pc := 71) (e_s := (3, 1, 0, 0, 0, .null, [])) (y_s := (72, [some (.ref _), some (.int _), some (.int _), some (.int _), some (.int _), some (.int _), some (.int _)], [.ref _], _)) rfl (u_ rfl) ?_
        refine w20 (pc := 72) (len_s := 3) rfl ?_
        refine w_t (pc := 75) (e_s := (0, 2, 0, 0, 0, .int 24, [])) (y_s := (77, [some (.ref _), some (.int _), some (.int _), some (.int _), some (.int _), some (.int _), some (.int _)], [.int _, .int _], _)) rfl (u_ rfl) ?_
        refine wi3 (pc := 77) (len_s := 3) (Y := 24) rfl rfl (by decide) (fun c27_s => ?_) (fun c27_s => ?_)
        · replace t_s := t_s.1 c27_s
          refine w_t (pc := 80) (e_s := (3, 1, 0, 0, 0, .null, [])) (y_s := (81, [some (.ref _), some (.int _), some (.int _), some (.int _), some (.int _), some (.int _), some (.int _)], [.ref _], _)) rfl (u_ rfl) ?_
          refine w20r (pc := 81) (len_s := 3) (q_s := 49) rfl (krq hk rfl) ?_
          refine w_t (pc := 84) (e_s := (3, 1, 0, 0, 0, .null, [])) (y_s := (85, [some (.ref _), some (.int _), some (.int _), some (.int _), some (.int _), some (.int _), some (.int _)], [.ref _, .ref _], _)) rfl (u_ rfl) ?_
          refine w20 (pc := 85) (len_s := 3) rfl ?_
          refine w_t (pc := 88) (e_s := (1, 2, 6, 0, 0, .null, [])) (y_s := (90, [some (.ref _), some (.int _), some (.int _), some (.int _), some (.int _), some (.int _), some (.int _)], [.int _, .int _, .ref _], _)) rfl (u_ rfl) ?_
          refine w25 (pc := 90) (len_s := 1) rfl (hk.1 49 0 24 rfl rfl) (fun c28_s => ?_)
          replace t_s := t_s c28_s
          refine w_t (pc := 91) (e_s := (3, 1, 0, 0, 0, .null, [])) (y_s := (92, [some (.ref _), some (.int _), some (.int _), some (.int _), some (.int _), some (.int _), some (.int _)], [.ref _], _)) rfl (u_ rfl) ?_
          refine w_t (pc := 92) (e_s := (39, 1, 0, 0, 0, .null, [])) (y_s := (93, [some (.ref _), some (.int _), some (.int _), some (.int _), some (.int _), some (.int _), some (.int _)], [.ref _, .ref _], _)) rfl (u_ rfl) ?_
          refine w20 (pc := 93) (len_s := 3) rfl ?_
          refine w_t (pc := 96) (e_s := (0, 1, 0, 0, 0, .int 1, [])) (y_s := (97, [some (.ref _), some (.int _), some (.int _), some (.int _), some (.int _), some (.int _), some (.int _)], [.int _, .int _, .ref _], _)) rfl (u_ rfl) ?_
          refine w_t (pc := 97) (e_s := (7, 1, 0, 0, 0, .null, [])) (y_s := (98, [some (.ref _), some (.int _), some (.int _), some (.int _), some (.int _), some (.int _), some (.int _)], [.int (_ + _), .ref _], _)) rfl (u_ rfl) ?_
          refine w21 (pc := 98) (len_s := 3) rfl ?_
          refine w_t (pc := 101) (e_s := (3, 1, 0, 0, 0, .null, [])) (y_s := (102, [some (.ref _), some (.int _), some (.int _), some (.int _), some (.int _), some (.int _), some (.int _)], [.ref _], _)) rfl (u_ rfl) ?_
          refine w_t (pc := 102) (e_s := (1, 2, 6, 0, 0, .null, [])) (y_s := (104, [some (.ref _), some (.int _), some (.int _), some (.int _), some (.int _), some (.int _), some (.int _)], [.int _, .ref _], _)) rfl (u_ rfl) ?_
          refine w_t (pc := 104) (e_s := (43, 3, 4, 0, 0, .null, [(0, 723)])) (y_s := (107, [some (.ref _), some (.int _), some (.int _), some (.int _), some (.int _), some (.int _), some (.int _)], [.ref _, .int _, .ref _], _)) rfl (u_ rfl) ?_
          refine w_t (pc := 107) (e_s := (1, 2, 5, 0, 0, .null, [])) (y_s := (109, [some (.ref _), some (.int _), some (.int _), some (.int _), some (.int _), some (.int _), some (.int _)], [.int _, .ref _, .int _, .ref _], _)) rfl (u_ rfl) ?_
          refine w22 (pc := 109) (len_s := 1) rfl (hk.1 4 5 8 rfl rfl) (fun c29_s => ?_)
          replace t_s := t_s c29_s
          refine w_t (pc := 110) (e_s := (1, 1, 3, 0, 0, .null, [])) (y_s := (111, [some (.ref _), some (.int _), some (.int _), some (.int _), some (.int _), some (.int _), some (.int _)], [.int _, .int _, .int _, .ref _], _)) rfl (u_ rfl) ?_
          refine w_t (pc := 111) (e_s := (1, 2, 4, 0, 0, .null, [])) (y_s := (113, [some (.ref _), some (.int _), some (.int _), some (.int _), some (.int _), some (.int _), some (.int _)], [.int _, .int _, .int _, .int _, .ref _], _)) rfl (u_ rfl) ?_
          refine w_t (pc := 113) (e_s := (0, 1, 0, 0, 0, .int 1, [])) (y_s := (114, [some (.ref _), some (.int _), some (.int _), some (.int _), some (.int _), some (.int _), some (.int _)], [.int _, .int _, .int _, .int _, .int _, .ref _], _)) rfl (u_ rfl) ?_
          refine w_t (pc := 114) (e_s := (7, 1, 0, 0, 0, .null, [])) (y_s := (115, [some (.ref _), some (.int _), some (.int _), some (.int _), some (.int _), some (.int _), some (.int _)], [.int (_ + _), .int _, .int _, .int _, .ref _], _)) rfl (u_ rfl) ?_
          refine wcI (pc := 115) (len_s := 3) rfl rfl (l := [some (.ref _), some (.int _), some (.int _), some (.int _), some (.int _)]) rfl (wmI t_s (fun v30 h30 hk t_s => ?_))
          replace t_s := t_s hk
          exact wrI (pc := 118) (len_s := 1) rfl hk t_s
        · replace t_s := t_s.2 c27_s
          refine w_t (pc := 91) (e_s := (3, 1, 0, 0, 0, .null, [])) (y_s := (92, [some (.ref _), some (.int _), some (.int _), some (.int _), some (.int _), some (.int _), some (.int _)], [.ref _], _)) rfl (u_ rfl) ?_
          refine w_t (pc := 92) (e_s := (39, 1, 0, 0, 0, .null, [])) (y_s := (93, [some (.ref _), some (.int _), some (.int _), some (.int _), some (.int _), some (.int _), some (.int _)], [.ref _, .ref _], _)) rfl (u_ rfl) ?_
          refine w20 (pc := 93) (len_s := 3) rfl ?_
          refine w_t (pc := 96) (e_s := (0, 1, 0, 0, 0, .int 1, [])) (y_s := (97, [some (.ref _), some (.int _), some (.int _), some (.int _), some (.int _), some (.int _), some (.int _)], [.int _, .int _, .ref _], _)) rfl (u_ rfl) ?_
          refine w_t (pc := 97) (e_s := (7, 1, 0, 0, 0, .null, [])) (y_s := (98, [some (.ref _), some (.int _), some (.int _), some (.int _), some (.int _), some (.int _), some (.int _)], [.int (_ + _), .ref _], _)) rfl (u_ rfl) ?_
          refine w21 (pc := 98) (len_s := 3) rfl ?_
          refine w_t (pc := 101) (e_s := (3, 1, 0, 0, 0, .null, [])) (y_s := (102, [some (.ref _), some (.int _), some (.int _), some (.int _), some (.int _), some (.int _), some (.int _)], [.ref _], _)) rfl (u_ rfl) ?_
          refine w_t (pc := 102) (e_s := (1, 2, 6, 0, 0, .null, [])) (y_s := (104, [some (.ref _), some (.int _), some (.int _), some (.int _), some (.int _), some (.int _), some (.int _)], [.int _, .ref _], _)) rfl (u_ rfl) ?_
          refine w_t (pc := 104) (e_s := (43, 3, 4, 0, 0, .null, [(0, 723)])) (y_s := (107, [some (.ref _), some (.int _), some (.int _), some (.int _), some (.int _), some (.int _), some (.int _)], [.ref _, .int _, .ref _], _)) rfl (u_ rfl) ?_
          refine w_t (pc := 107) (e_s := (1, 2, 5, 0, 0, .null, [])) (y_s := (109, [some (.ref _), some (.int _), some (.int _), some (.int _), some (.int _), some (.int _), some (.int _)], [.int _, .ref _, .int _, .ref _], _)) rfl (u_ rfl) ?_
          refine w22 (pc := 109) (len_s := 1) rfl (hk.1 4 5 8 rfl rfl) (fun c31_s => ?_)
          replace t_s := t_s c31_s
          refine w_t (pc := 110) (e_s := (1, 1, 3, 0, 0, .null, [])) (y_s := (111, [some (.ref _), some (.int _), some (.int _), some (.int _), some (.int _), some (.int _), some (.int _)], [.int _, .int _, .int _, .ref _], _)) rfl (u_ rfl) ?_
          refine w_t (pc := 111) (e_s := (1, 2, 4, 0, 0, .null, [])) (y_s := (113, [some (.ref _), some (.int _), some (.int _), some (.int _), some (.int _), some (.int _), some (.int _)], [.int _, .int _, .int _, .int _, .ref _], _)) rfl (u_ rfl) ?_
          refine w_t (pc := 113) (e_s := (0, 1, 0, 0, 0, .int 1, [])) (y_s := (114, [some (.ref _), some (.int _), some (.int _), some (.int _), some (.int _), some (.int _), some (.int _)], [.int _, .int _, .int _, .int _, .int _, .ref _], _)) rfl (u_ rfl) ?_
          refine w_t (pc := 114) (e_s := (7, 1, 0, 0, 0, .null, [])) (y_s := (115, [some (.ref _), some (.int _), some (.int _), some (.int _), some (.int _), some (.int _), some (.int _)], [.int (_ + _), .int _, .int _, .int _, .ref _], _)) rfl (u_ rfl) ?_
          refine wcI (pc := 115) (len_s := 3) rfl rfl (l := [some (.ref _), some (.int _), some (.int _), some (.int _), some (.int _)]) rfl (wmI t_s (fun v32 h32 hk t_s => ?_))
          replace t_s := t_s hk
          exact wrI (pc := 118) (len_s := 1) rfl hk t_s
/-- ColdShod$Acts.work(IIII)I, from 0 on -/
theorem sg_7_0 {F_s : Nat} {x1_s x2_s x3 x4_s : Int32} {h_s : zH} {K_s : Int32 → zH → Prop} (hk : hKn h_s) (t_s : (x1_s.toInt = 1 → K_s (x3 + (h_s.2.1 47 4)) h_s) ∧ (¬ x1_s.toInt = 1 → (x1_s.toInt = 2 → wF F_s 6 (0, [some (.ref 47), some (.int (h_s.2.1 47 5)), some (.int 1), some (.int x3), some (.int x4_s), none, none], [], h_s) (gI (fun v3 h3 => hKn h3 → wF F_s 6 (0, [some (.ref 47), some (.int (h3.2.1 47 5)), some (.int 2), some (.int 1), some (.int x4_s), none, none], [], h3) (gI (fun v4_s h4 => hKn h4 → K_s (v3 - v4_s) h4))))) ∧ (¬ x1_s.toInt = 2 → (x1_s.toInt = 10 → wF F_s 6 (0, [some (.ref 47), some (.int (h_s.2.1 47 5)), some (.int 0), some (.int x3), some (.int x4_s), none, none], [], h_s) (gI (fun v6 h6 => hKn h6 → K_s (v6 * 2) h6))) ∧ (¬ x1_s.toInt = 10 → (x1_s.toInt = 11 → K_s (x3 ^^^ (h_s.2.1 47 4)) h_s) ∧ (¬ x1_s.toInt = 11 → (x1_s.toInt = 20 → wF F_s 6 (0, [some (.ref 47), some (.int x2_s), some (.int 0), some (.int x3), some (.int x4_s), none, none], [], h_s) (gI (fun v9 h9 => hKn h9 → K_s (v9 + 3) h9))) ∧ (¬ x1_s.toInt = 20 → (x1_s.toInt = 30 → wF F_s 6 (0, [some (.ref 47), some (.int x2_s), some (.int 1), some (.int x3), some (.int x4_s), none, none], [], h_s) (gI (fun v11 h11 => hKn h11 → K_s (-v11) h11))) ∧ (¬ x1_s.toInt = 30 → (x1_s.toInt = 40 → wF F_s 6 (0, [some (.ref 47), some (.int x2_s), some (.int 2), some (.int x3), some (.int x4_s), none, none], [], h_s) (gI (fun v13 h13 => hKn h13 → K_s (v13 * 3) h13))) ∧ (¬ x1_s.toInt = 40 → (x1_s.toInt = 41 → wF F_s 6 (0, [some (.ref 47), some (.int x2_s), some (.int 1), some (.int (x3 + 1)), some (.int x4_s), none, none], [], h_s) (gI (fun v15 h15 => hKn h15 → K_s v15 h15))) ∧ (¬ x1_s.toInt = 41 → (x1_s.toInt = 50 → wF F_s 6 (0, [some (.ref 47), some (.int x2_s), some (.int 2), some (.int x3), some (.int x4_s), none, none], [], h_s) (gI (fun v17 h17 => hKn h17 → wF F_s 6 (0, [some (.ref 47), some (.int (h17.2.1 47 5)), some (.int 0), some (.int 2), some (.int x4_s), none, none], [], h17) (gI (fun v18 h18 => hKn h18 → K_s (v17 - v18) h18))))) ∧ (¬ x1_s.toInt = 50 → (x1_s.toInt = 60 → wF F_s 6 (0, [some (.ref 47), some (.int x2_s), some (.int 3), some (.int x3), some (.int x4_s), none, none], [], h_s) (gI (fun v20 h20 => hKn h20 → K_s (v20 ^^^ 5) h20))) ∧ (¬ x1_s.toInt = 60 → (x1_s.toInt = 70 → wF F_s 6 (0, [some (.ref 47), some (.int x2_s), some (.int 0), some (.int x3), some (.int x4_s), none, none], [], h_s) (gI (fun v22 h22 => hKn h22 → K_s (v22 * 2) h22))) ∧ (¬ x1_s.toInt = 70 → (x1_s.toInt = 80 → wF F_s 6 (0, [some (.ref 47), some (.int x2_s), some (.int 1), some (.int x3), some (.int x4_s), none, none], [], h_s) (gI (fun v24 h24 => hKn h24 → wF F_s 6 (0, [some (.ref 47), some (.int (h24.2.1 47 5)), some (.int 2), some (.int 2), some (.int x4_s), none, none], [], h24) (gI (fun v25 h25 => hKn h25 → K_s (v24 + v25) h25))))) ∧ (¬ x1_s.toInt = 80 → (x1_s.toInt = 81 → wF F_s 6 (0, [some (.ref 47), some (.int x2_s), some (.int 3), some (.int x3), some (.int x4_s), none, none], [], h_s) (gI (fun v27 h27 => hKn h27 → K_s (v27 - 1) h27))) ∧ (¬ x1_s.toInt = 81 → K_s 0 h_s)))))))))))))) : wF (F_s + 1) 7 (0, [some (.ref 47), some (.int x1_s), some (.int x2_s), some (.int x3), some (.int x4_s)], [], h_s) (gI K_s) := by
  refine w_0 (pc := 0) (e_s := (1, 1, 1, 0, 0, .null, [])) (y_s := (1, [some (.ref _), some (.int _), some (.int _), some (.int _), some (.int _)], [.int _], _)) rfl (u_ rfl) ?_
  refine wsw (pc := 1) (len_s := 115) rfl ?_
  refine wsc (X_s := 1) rfl (by decide) (fun c1_s => ?_) (fun c1_s => ?_)
  · replace t_s := t_s.1 c1_s
    refine w_t (pc := 116) (e_s := (1, 1, 3, 0, 0, .null, [])) (y_s := (117, [some (.ref _), some (.int _), some (.int _), some (.int _), some (.int _)], [.int _], _)) rfl (u_ rfl) ?_
    refine w_t (pc := 117) (e_s := (3, 1, 0, 0, 0, .null, [])) (y_s := (118, [some (.ref _), some (.int _), some (.int _), some (.int _), some (.int _)], [.ref _, .int _], _)) rfl (u_ rfl) ?_
    refine w20 (pc := 118) (len_s := 3) rfl ?_
    refine w_t (pc := 121) (e_s := (7, 1, 0, 0, 0, .null, [])) (y_s := (122, [some (.ref _), some (.int _), some (.int _), some (.int _), some (.int _)], [.int (_ + _)], _)) rfl (u_ rfl) ?_
    exact wrI (pc := 122) (len_s := 1) rfl hk t_s
  · replace t_s := t_s.2 c1_s
    refine wsc (X_s := 2) rfl (by decide) (fun c2_s => ?_) (fun c2_s => ?_)
    · replace t_s := t_s.1 c2_s
      refine w_t (pc := 123) (e_s := (3, 1, 0, 0, 0, .null, [])) (y_s := (124, [some (.ref _), some (.int _), some (.int _), some (.int _), some (.int _)], [.ref _], _)) rfl (u_ rfl) ?_
      refine w_t (pc := 124) (e_s := (3, 1, 0, 0, 0, .null, [])) (y_s := (125, [some (.ref _), some (.int _), some (.int _), some (.int _), some (.int _)], [.ref _, .ref _], _)) rfl (u_ rfl) ?_
      refine w20 (pc := 125) (len_s := 3) rfl ?_
      refine w_t (pc := 128) (e_s := (0, 1, 0, 0, 0, .int 1, [])) (y_s := (129, [some (.ref _), some (.int _), some (.int _), some (.int _), some (.int _)], [.int _, .int _, .ref _], _)) rfl (u_ rfl) ?_
      refine w_t (pc := 129) (e_s := (1, 1, 3, 0, 0, .null, [])) (y_s := (130, [some (.ref _), some (.int _), some (.int _), some (.int _), some (.int _)], [.int _, .int _, .int _, .ref _], _)) rfl (u_ rfl) ?_
      refine w_t (pc := 130) (e_s := (1, 2, 4, 0, 0, .null, [])) (y_s := (132, [some (.ref _), some (.int _), some (.int _), some (.int _), some (.int _)], [.int _, .int _, .int _, .int _, .ref _], _)) rfl (u_ rfl) ?_
      refine wcI (pc := 132) (len_s := 3) rfl rfl (l := [some (.ref _), some (.int _), some (.int _), some (.int _), some (.int _), none, none]) rfl (wmI t_s (fun v3 h3 hk t_s => ?_))
      replace t_s := t_s hk
      refine w_t (pc := 135) (e_s := (3, 1, 0, 0, 0, .null, [])) (y_s := (136, [some (.ref _), some (.int _), some (.int _), some (.int _), some (.int _)], [.ref _, .int _], _)) rfl (u_ rfl) ?_
      refine w_t (pc := 136) (e_s := (3, 1, 0, 0, 0, .null, [])) (y_s := (137, [some (.ref _), some (.int _), some (.int _), some (.int _), some (.int _)], [.ref _, .ref _, .int _], _)) rfl (u_ rfl) ?_
      refine w20 (pc := 137) (len_s := 3) rfl ?_
      refine w_t (pc := 140) (e_s := (0, 1, 0, 0, 0, .int 2, [])) (y_s := (141, [some (.ref _), some (.int _), some (.int _), some (.int _), some (.int _)], [.int _, .int _, .ref _, .int _], _)) rfl (u_ rfl) ?_
      refine w_t (pc := 141) (e_s := (0, 1, 0, 0, 0, .int 1, [])) (y_s := (142, [some (.ref _), some (.int _), some (.int _), some (.int _), some (.int _)], [.int _, .int _, .int _, .ref _, .int _], _)) rfl (u_ rfl) ?_
      refine w_t (pc := 142) (e_s := (1, 2, 4, 0, 0, .null, [])) (y_s := (144, [some (.ref _), some (.int _), some (.int _), some (.int _), some (.int _)], [.int _, .int _, .int _, .int _, .ref _, .int _], _)) rfl (u_ rfl) ?_
      refine wcI (pc := 144) (len_s := 3) rfl rfl (l := [some (.ref _), some (.int _), some (.int _), some (.int _), some (.int _), none, none]) rfl (wmI t_s (fun v4_s h4 hk t_s => ?_))
      replace t_s := t_s hk
      refine w_t (pc := 147) (e_s := (7, 1, 0, 1, 0, .null, [])) (y_s := (148, [some (.ref _), some (.int _), some (.int _), some (.int _), some (.int _)], [.int (_ - _)], _)) rfl (u_ rfl) ?_
      exact wrI (pc := 148) (len_s := 1) rfl hk t_s
    · replace t_s := t_s.2 c2_s
      refine wsc (X_s := 10) rfl (by decide) (fun c5_s => ?_) (fun c5_s => ?_)
      · replace t_s := t_s.1 c5_s
        refine w_t (pc := 149) (e_s := (3, 1, 0, 0, 0, .null, [])) (y_s := (150, [some (.ref _), some (.int _), some (.int _), some (.int _), some (.int _)], [.ref _], _)) rfl (u_ rfl) ?_
        refine w_t (pc := 150) (e_s := (3, 1, 0, 0, 0, .null, [])) (y_s := (151, [some (.ref _), some (.int _), some (.int _), some (.int _), some (.int _)], [.ref _, .ref _], _)) rfl (u_ rfl) ?_
        refine w20 (pc := 151) (len_s := 3) rfl ?_
        refine w_t (pc := 154) (e_s := (0, 1, 0, 0, 0, .int 0, [])) (y_s := (155, [some (.ref _), some (.int _), some (.int _), some (.int _), some (.int _)], [.int _, .int _, .ref _], _)) rfl (u_ rfl) ?_
        refine w_t (pc := 155) (e_s := (1, 1, 3, 0, 0, .null, [])) (y_s := (156, [some (.ref _), some (.int _), some (.int _), some (.int _), some (.int _)], [.int _, .int _, .int _, .ref _], _)) rfl (u_ rfl) ?_
        refine w_t (pc := 156) (e_s := (1, 2, 4, 0, 0, .null, [])) (y_s := (158, [some (.ref _), some (.int _), some (.int _), some (.int _), some (.int _)], [.int _, .int _, .int _, .int _, .ref _], _)) rfl (u_ rfl) ?_
        refine wcI (pc := 158) (len_s := 3) rfl rfl (l := [some (.ref _), some (.int _), some (.int _), some (.int _), some (.int _), none, none]) rfl (wmI t_s (fun v6 h6 hk t_s => ?_))
        replace t_s := t_s hk
        refine w_t (pc := 161) (e_s := (0, 1, 0, 0, 0, .int 2, [])) (y_s := (162, [some (.ref _), some (.int _), some (.int _), some (.int _), some (.int _)], [.int _, .int _], _)) rfl (u_ rfl) ?_
        refine w_t (pc := 162) (e_s := (7, 1, 0, 2, 0, .null, [])) (y_s := (163, [some (.ref _), some (.int _), some (.int _), some (.int _), some (.int _)], [.int (_ * _)], _)) rfl (u_ rfl) ?_
        exact wrI (pc := 163) (len_s := 1) rfl hk t_s
      · replace t_s := t_s.2 c5_s
        refine wsc (X_s := 11) rfl (by decide) (fun c7_s => ?_) (fun c7_s => ?_)
        · replace t_s := t_s.1 c7_s
          refine w_t (pc := 164) (e_s := (1, 1, 3, 0, 0, .null, [])) (y_s := (165, [some (.ref _), some (.int _), some (.int _), some (.int _), some (.int _)], [.int _], _)) rfl (u_ rfl) ?_
          refine w_t (pc := 165) (e_s := (3, 1, 0, 0, 0, .null, [])) (y_s := (166, [some (.ref _), some (.int _), some (.int _), some (.int _), some (.int _)], [.ref _, .int _], _)) rfl (u_ rfl) ?_
          refine w20 (pc := 166) (len_s := 3) rfl ?_
          refine w_t (pc := 169) (e_s := (7, 1, 0, 5, 0, .null, [])) (y_s := (170, [some (.ref _), some (.int _), some (.int _), some (.int _), some (.int _)], [.int (_ ^^^ _)], _)) rfl (u_ rfl) ?_
          exact wrI (pc := 170) (len_s := 1) rfl hk t_s
        · replace t_s := t_s.2 c7_s
          refine wsc (X_s := 20) rfl (by decide) (fun c8_s => ?_) (fun c8_s => ?_)
          · replace t_s := t_s.1 c8_s
            refine w_t (pc := 171) (e_s := (3, 1, 0, 0, 0, .null, [])) (y_s := (172, [some (.ref _), some (.int _), some (.int _), some (.int _), some (.int _)], [.ref _], _)) rfl (u_ rfl) ?_
            refine w_t (pc := 172) (e_s := (1, 1, 2, 0, 0, .null, [])) (y_s := (173, [some (.ref _), some (.int _), some (.int _), some (.int _), some (.int _)], [.int _, .ref _], _)) rfl (u_ rfl) ?_
            refine w_t (pc := 173) (e_s := (0, 1, 0, 0, 0, .int 0, [])) (y_s := (174, [some (.ref _), some (.int _), some (.int _), some (.int _), some (.int _)], [.int _, .int _, .ref _], _)) rfl (u_ rfl) ?_
            refine w_t (pc := 174) (e_s := (1, 1, 3, 0, 0, .null, [])) (y_s := (175, [some (.ref _), some (.int _), some (.int _), some (.int _), some (.int _)], [.int _, .int _, .int _, .ref _], _)) rfl (u_ rfl) ?_
            refine w_t (pc := 175) (e_s := (1, 2, 4, 0, 0, .null, [])) (y_s := (177, [some (.ref _), some (.int _), some (.int _), some (.int _), some (.int _)], [.int _, .int _, .int _, .int _, .ref _], _)) rfl (u_ rfl) ?_
            refine wcI (pc := 177) (len_s := 3) rfl rfl (l := [some (.ref _), some (.int _), some (.int _), some (.int _), some (.int _), none, none]) rfl (wmI t_s (fun v9 h9 hk t_s => ?_))
            replace t_s := t_s hk
            refine w_t (pc := 180) (e_s := (0, 1, 0, 0, 0, .int 3, [])) (y_s := (181, [some (.ref _), some (.int _), some (.int _), some (.int _), some (.int _)], [.int _, .int _], _)) rfl (u_ rfl) ?_
            refine w_t (pc := 181) (e_s := (7, 1, 0, 0, 0, .null, [])) (y_s := (182, [some (.ref _), some (.int _), some (.int _), some (.int _), some (.int _)], [.int (_ + _)], _)) rfl (u_ rfl) ?_
            exact wrI (pc := 182) (len_s := 1) rfl hk t_s
          · replace t_s := t_s.2 c8_s
            refine wsc (X_s := 30) rfl (by decide) (fun c10_s => ?_) (fun c10_s => ?_)
            · replace t_s := t_s.1 c10_s
              refine w_t (pc := 183) (e_s := (3, 1, 0, 0, 0, .null, [])) (y_s := (184, [some (.ref _), some (.int _), some (.int _), some (.int _), some (.int _)], [.ref _], _)) rfl (u_ rfl) ?_
              refine w_t (pc := 184) (e_s := (1, 1, 2, 0, 0, .null, [])) (y_s := (185, [some (.ref _), some (.int _), some (.int _), some (.int _), some (.int _)], [.int _, .ref _], _)) rfl (u_ rfl) ?_
              refine w_t (pc := 185) (e_s := (0, 1, 0, 0, 0, .int 1, [])) (y_s := (186, [some (.ref _), some (.int _), some (.int _), some (.int _), some (.int _)], [.int _, .int _, .ref _], _)) rfl (u_ rfl) ?_
              refine w_t (pc := 186) (e_s := (1, 1, 3, 0, 0, .null, [])) (y_s := (187, [some (.ref _), some (.int _), some (.int _), some (.int _), some (.int _)], [.int _, .int _, .int _, .ref _], _)) rfl (u_ rfl) ?_
              refine w_t (pc := 187) (e_s := (1, 2, 4, 0, 0, .null, [])) (y_s := (189, [some (.ref _), some (.int _), some (.int _), some (.int _), some (.int _)], [.int _, .int _, .int _, .int _, .ref _], _)) rfl (u_ rfl) ?_
              refine wcI (pc := 189) (len_s := 3) rfl rfl (l := [some (.ref _), some (.int _), some (.int _), some (.int _), some (.int _), none, none]) rfl (wmI t_s (fun v11 h11 hk t_s => ?_))
              replace t_s := t_s hk
              refine w_t (pc := 192) (e_s := (9, 1, 0, 0, 0, .null, [])) (y_s := (193, [some (.ref _), some (.int _), some (.int _), some (.int _), some (.int _)], [.int (-_)], _)) rfl (u_ rfl) ?_
              exact wrI (pc := 193) (len_s := 1) rfl hk t_s
            · replace t_s := t_s.2 c10_s
              refine wsc (X_s := 40) rfl (by decide) (fun c12_s => ?_) (fun c12_s => ?_)
              · replace t_s := t_s.1 c12_s
                refine w_t (pc := 194) (e_s := (3, 1, 0, 0, 0, .null, [])) (y_s := (195, [some (.ref _), some (.int _), some (.int _), some (.int _), some (.int _)], [.ref _], _)) rfl (u_ rfl) ?_
                refine w_t (pc := 195) (e_s := (1, 1, 2, 0, 0, .null, [])) (y_s := (196, [some (.ref _), some (.int _), some (.int _), some (.int _), some (.int _)], [.int _, .ref _], _)) rfl (u_ rfl) ?_
                refine w_t (pc := 196) (e_s := (0, 1, 0, 0, 0, .int 2, [])) (y_s := (197, [some (.ref _), some (.int _), some (.int _), some (.int _), some (.int _)], [.int _, .int _, .ref _], _)) rfl (u_ rfl) ?_
                refine w_t (pc := 197) (e_s := (1, 1, 3, 0, 0, .null, [])) (y_s := (198, [some (.ref _), some (.int _), some (.int _), some (.int _), some (.int _)], [.int _, .int _, .int _, .ref _], _)) rfl (u_ rfl) ?_
                refine w_t (pc := 198) (e_s := (1, 2, 4, 0, 0, .null, [])) (y_s := (200, [some (.ref _), some (.int _), some (.int _), some (.int _), some (.int _)], [.int _, .int _, .int _, .int _, .ref _], _)) rfl (u_ rfl) ?_
                refine wcI (pc := 200) (len_s := 3) rfl rfl (l := [some (.ref _), some (.int _), some (.int _), some (.int _), some (.int _), none, none]) rfl (wmI t_s (fun v13 h13 hk t_s => ?_))
                replace t_s := t_s hk
                refine w_t (pc := 203) (e_s := (0, 1, 0, 0, 0, .int 3, [])) (y_s := (204, [some (.ref _), some (.int _), some (.int _), some (.int _), some (.int _)], [.int _, .int _], _)) rfl (u_ rfl) ?_
                refine w_t (pc := 204) (e_s := (7, 1, 0, 2, 0, .null, [])) (y_s := (205, [some (.ref _), some (.int _), some (.int _), some (.int _), some (.int _)], [.int (_ * _)], _)) rfl (u_ rfl) ?_
                exact wrI (pc := 205) (len_s := 1) rfl hk t_s
              · replace t_s := t_s.2 c12_s
                refine wsc (X_s := 41) rfl (by decide) (fun c14_s => ?_) (fun c14_s => ?_)
                · replace t_s := t_s.1 c14_s
                  refine w_t (pc := 206) (e_s := (3, 1, 0, 0, 0, .null, [])) (y_s := (207, [some (.ref _), some (.int _), some (.int _), some (.int _), some (.int _)], [.ref _], _)) rfl (u_ rfl) ?_
                  refine w_t (pc := 207) (e_s := (1, 1, 2, 0, 0, .null, [])) (y_s := (208, [some (.ref _), some (.int _), some (.int _), some (.int _), some (.int _)], [.int _, .ref _], _)) rfl (u_ rfl) ?_
                  refine w_t (pc := 208) (e_s := (0, 1, 0, 0, 0, .int 1, [])) (y_s := (209, [some (.ref _), some (.int _), some (.int _), some (.int _), some (.int _)], [.int _, .int _, .ref _], _)) rfl (u_ rfl) ?_
                  refine w_t (pc := 209) (e_s := (1, 1, 3, 0, 0, .null, [])) (y_s := (210, [some (.ref _), some (.int _), some (.int _), some (.int _), some (.int _)], [.int _, .int _, .int _, .ref _], _)) rfl (u_ rfl) ?_
                  refine w_t (pc := 210) (e_s := (0, 1, 0, 0, 0, .int 1, [])) (y_s := (211, [some (.ref _), some (.int _), some (.int _), some (.int _), some (.int _)], [.int _, .int _, .int _, .int _, .ref _], _)) rfl (u_ rfl) ?_
                  refine w_t (pc := 211) (e_s := (7, 1, 0, 0, 0, .null, [])) (y_s := (212, [some (.ref _), some (.int _), some (.int _), some (.int _), some (.int _)], [.int (_ + _), .int _, .int _, .ref _], _)) rfl (u_ rfl) ?_
                  refine w_t (pc := 212) (e_s := (1, 2, 4, 0, 0, .null, [])) (y_s := (214, [some (.ref _), some (.int _), some (.int _), some (.int _), some (.int _)], [.int _, .int _, .int _, .int _, .ref _], _)) rfl (u_ rfl) ?_
                  refine wcI (pc := 214) (len_s := 3) rfl rfl (l := [some (.ref _), some (.int _), some (.int _), some (.int _), some (.int _), none, none]) rfl (wmI t_s (fun v15 h15 hk t_s => ?_))
                  replace t_s := t_s hk
                  exact wrI (pc := 217) (len_s := 1) rfl hk t_s
                · replace t_s := t_s.2 c14_s
                  refine wsc (X_s := 50) rfl (by decide) (fun c16 => ?_) (fun c16 => ?_)
                  · replace t_s := t_s.1 c16
                    refine w_t (pc := 218) (e_s := (3, 1, 0, 0, 0, .null, [])) (y_s := (219, [some (.ref _), some (.int _), some (.int _), some (.int _), some (.int _)], [.ref _], _)) rfl (u_ rfl) ?_
                    refine w_t (pc := 219) (e_s := (1, 1, 2, 0, 0, .null, [])) (y_s := (220, [some (.ref _), some (.int _), some (.int _), some (.int _), some (.int _)], [.int _, .ref _], _)) rfl (u_ rfl) ?_
                    refine w_t (pc := 220) (e_s := (0, 1, 0, 0, 0, .int 2, [])) (y_s := (221, [some (.ref _), some (.int _), some (.int _), some (.int _), some (.int _)], [.int _, .int _, .ref _], _)) rfl (u_ rfl) ?_
                    refine w_t (pc := 221) (e_s := (1, 1, 3, 0, 0, .null, [])) (y_s := (222, [some (.ref _), some (.int _), some (.int _), some (.int _), some (.int _)], [.int _, .int _, .int _, .ref _], _)) rfl (u_ rfl) ?_
                    refine w_t (pc := 222) (e_s := (1, 2, 4, 0, 0, .null, [])) (y_s := (224, [some (.ref _), some (.int _), some (.int _), some (.int _), some (.int _)], [.int _, .int _, .int _, .int _, .ref _], _)) rfl (u_ rfl) ?_
                    refine wcI (pc := 224) (len_s := 3) rfl rfl (l := [some (.ref _), some (.int _), some (.int _), some (.int _), some (.int _), none, none]) rfl (wmI t_s (fun v17 h17 hk t_s => ?_))
                    replace t_s := t_s hk
                    refine w_t (pc := 227) (e_s := (3, 1, 0, 0, 0, .null, [])) (y_s := (228, [some (.ref _), some (.int _), some (.int _), some (.int _), some (.int _)], [.ref _, .int _], _)) rfl (u_ rfl) ?_
                    refine w_t (pc := 228) (e_s := (3, 1, 0, 0, 0, .null, [])) (y_s := (229, [some (.ref _), some (.int _), some (.int _), some (.int _), some (.int _)], [.ref _, .ref _, .int _], _)) rfl (u_ rfl) ?_
                    refine w20 (pc := 229) (len_s := 3) rfl ?_
                    refine w_t (pc := 232) (e_s := (0, 1, 0, 0, 0, .int 0, [])) (y_s := (233, [some (.ref _), some (.int _), some (.int _), some (.int _), some (.int _)], [.int _, .int _, .ref _, .int _], _)) rfl (u_ rfl) ?_
                    refine w_t (pc := 233) (e_s := (0, 1, 0, 0, 0, .int 2, [])) (y_s := (234, [some (.ref _), some (.int _), some (.int _), some (.int _), some (.int _)], [.int _, .int _, .int _, .ref _, .int _], _)) rfl (u_ rfl) ?_
                    refine w_t (pc := 234) (e_s := (1, 2, 4, 0, 0, .null, [])) (y_s := (236, [some (.ref _), some (.int _), some (.int _), some (.int _), some (.int _)], [.int _, .int _, .int _, .int _, .ref _, .int _], _)) rfl (u_ rfl) ?_
                    refine wcI (pc := 236) (len_s := 3) rfl rfl (l := [some (.ref _), some (.int _), some (.int _), some (.int _), some (.int _), none, none]) rfl (wmI t_s (fun v18 h18 hk t_s => ?_))
                    replace t_s := t_s hk
                    refine w_t (pc := 239) (e_s := (7, 1, 0, 1, 0, .null, [])) (y_s := (240, [some (.ref _), some (.int _), some (.int _), some (.int _), some (.int _)], [.int (_ - _)], _)) rfl (u_ rfl) ?_
                    exact wrI (pc := 240) (len_s := 1) rfl hk t_s
                  · replace t_s := t_s.2 c16
                    refine wsc (X_s := 60) rfl (by decide) (fun c19_s => ?_) (fun c19_s => ?_)
                    · replace t_s := t_s.1 c19_s
                      refine w_t (pc := 241) (e_s := (3, 1, 0, 0, 0, .null, [])) (y_s := (242, [some (.ref _), some (.int _), some (.int _), some (.int _), some (.int _)], [.ref _], _)) rfl (u_ rfl) ?_
                      refine w_t (pc := 242) (e_s := (1, 1, 2, 0, 0, .null, [])) (y_s := (243, [some (.ref _), some (.int _), some (.int _), some (.int _), some (.int _)], [.int _, .ref _], _)) rfl (u_ rfl) ?_
                      refine w_t (pc := 243) (e_s := (0, 1, 0, 0, 0, .int 3, [])) (y_s := (244, [some (.ref _), some (.int _), some (.int _), some (.int _), some (.int _)], [.int _, .int _, .ref _], _)) rfl (u_ rfl) ?_
                      refine w_t (pc := 244) (e_s := (1, 1, 3, 0, 0, .null, [])) (y_s := (245, [some (.ref _), some (.int _), some (.int _), some (.int _), some (.int _)], [.int _, .int _, .int _, .ref _], _)) rfl (u_ rfl) ?_
                      refine w_t (pc := 245) (e_s := (1, 2, 4, 0, 0, .null, [])) (y_s := (247, [some (.ref _), some (.int _), some (.int _), some (.int _), some (.int _)], [.int _, .int _, .int _, .int _, .ref _], _)) rfl (u_ rfl) ?_
                      refine wcI (pc := 247) (len_s := 3) rfl rfl (l := [some (.ref _), some (.int _), some (.int _), some (.int _), some (.int _), none, none]) rfl (wmI t_s (fun v20 h20 hk t_s => ?_))
                      replace t_s := t_s hk
                      refine w_t (pc := 250) (e_s := (0, 1, 0, 0, 0, .int 5, [])) (y_s := (251, [some (.ref _), some (.int _), some (.int _), some (.int _), some (.int _)], [.int _, .int _], _)) rfl (u_ rfl) ?_
                      refine w_t (pc := 251) (e_s := (7, 1, 0, 5, 0, .null, [])) (y_s := (252, [some (.ref _), some (.int _), some (.int _), some (.int _), some (.int _)], [.int (_ ^^^ _)], _)) rfl (u_ rfl) ?_
                      exact wrI (pc := 252) (len_s := 1) rfl hk t_s
                    · replace t_s := t_s.2 c19_s
                      refine wsc (X_s := 70) rfl (by decide) (fun c21 => ?_) (fun c21 => ?_)
                      · replace t_s := t_s.1 c21
                        refine w_t (pc := 253) (e_s := (3, 1, 0, 0, 0, .null, [])) (y_s := (254, [some (.ref _), some (.int _), some (.int _), some (.int _), some (.int _)], [.ref _], _)) rfl (u_ rfl) ?_
                        refine w_t (pc := 254) (e_s := (1, 1, 2, 0, 0, .null, [])) (y_s := (255, [some (.ref _), some (.int _), some (.int _), some (.int _), some (.int _)], [.int _, .ref _], _)) rfl (u_ rfl) ?_
                        refine w_t (pc := 255) (e_s := (0, 1, 0, 0, 0, .int 0, [])) (y_s := (256, [some (.ref _), some (.int _), some (.int _), some (.int _), some (.int _)], [.int _, .int _, .ref _], _)) rfl (u_ rfl) ?_
                        refine w_t (pc := 256) (e_s := (1, 1, 3, 0, 0, .null, [])) (y_s := (257, [some (.ref _), some (.int _), some (.int _), some (.int _), some (.int _)], [.int _, .int _, .int _, .ref _], _)) rfl (u_ rfl) ?_
                        refine w_t (pc := 257) (e_s := (1, 2, 4, 0, 0, .null, [])) (y_s := (259, [some (.ref _), some (.int _), some (.int _), some (.int _), some (.int _)], [.int _, .int _, .int _, .int _, .ref _], _)) rfl (u_ rfl) ?_
                        refine wcI (pc := 259) (len_s := 3) rfl rfl (l := [some (.ref _), some (.int _), some (.int _), some (.int _), some (.int _), none, none]) rfl (wmI t_s (fun v22 h22 hk t_s => ?_))
                        replace t_s := t_s hk
                        refine w_t (pc := 262) (e_s := (0, 1, 0, 0, 0, .int 2, [])) (y_s := (263, [some (.ref _), some (.int _), some (.int _), some (.int _), some (.int _)], [.int _, .int _], _)) rfl (u_ rfl) ?_
                        refine w_t (pc := 263) (e_s := (7, 1, 0, 2, 0, .null, [])) (y_s := (264, [some (.ref _), some (.int _), some (.int _), some (.int _), some (.int _)], [.int (_ * _)], _)) rfl (u_ rfl) ?_
                        exact wrI (pc := 264) (len_s := 1) rfl hk t_s
                      · replace t_s := t_s.2 c21
                        refine wsc (X_s := 80) rfl (by decide) (fun c23_s => ?_) (fun c23_s => ?_)
                        · replace t_s := t_s.1 c23_s
                          refine w_t (pc := 265) (e_s := (3, 1, 0, 0, 0, .null, [])) (y_s := (266, [some (.ref _), some (.int _), some (.int _), some (.int _), some (.int _)], [.ref _], _)) rfl (u_ rfl) ?_
                          refine w_t (pc := 266) (e_s := (1, 1, 2, 0, 0, .null, [])) (y_s := (267, [some (.ref _), some (.int _), some (.int _), some (.int _), some (.int _)], [.int _, .ref _], _)) rfl (u_ rfl) ?_
                          refine w_t (pc := 267) (e_s := (0, 1, 0, 0, 0, .int 1, [])) (y_s := (268, [some (.ref _), some (.int _), some (.int _), some (.int _), some (.int _)], [.int _, .int _, .ref _], _)) rfl (u_ rfl) ?_
                          refine w_t (pc := 268) (e_s := (1, 1, 3, 0, 0, .null, [])) (y_s := (269, [some (.ref _), some (.int _), some (.int _), some (.int _), some (.int _)], [.int _, .int _, .int _, .ref _], _)) rfl (u_ rfl) ?_
                          refine w_t (pc := 269) (e_s := (1, 2, 4, 0, 0, .null, [])) (y_s := (271, [some (.ref _), some (.int _), some (.int _), some (.int _), some (.int _)], [.int _, .int _, .int _, .int _, .ref _], _)) rfl (u_ rfl) ?_
                          refine wcI (pc := 271) (len_s := 3) rfl rfl (l := [some (.ref _), some (.int _), some (.int _), some (.int _), some (.int _), none, none]) rfl (wmI t_s (fun v24 h24 hk t_s => ?_))
                          replace t_s := t_s hk
                          refine w_t (pc := 274) (e_s := (3, 1, 0, 0, 0, .null, [])) (y_s := (275, [some (.ref _), some (.int _), some (.int _), some (.int _), some (.int _)], [.ref _, .int _], _)) rfl (u_ rfl) ?_
                          refine w_t (pc := 275) (e_s := (3, 1, 0, 0, 0, .null, [])) (y_s := (276, [some (.ref _), some (.int _), some (.int _), some (.int _), some (.int _)], [.ref _, .ref _, .int _], _)) rfl (u_ rfl) ?_
                          refine w20 (pc := 276) (len_s := 3) rfl ?_
                          refine w_t (pc := 279) (e_s := (0, 1, 0, 0, 0, .int 2, [])) (y_s := (280, [some (.ref _), some (.int _), some (.int _), some (.int _), some (.int _)], [.int _, .int _, .ref _, .int _], _)) rfl (u_ rfl) ?_
                          refine w_t (pc := 280) (e_s := (0, 1, 0, 0, 0, .int 2, [])) (y_s := (281, [some (.ref _), some (.int _), some (.int _), some (.int _), some (.int _)], [.int _, .int _, .int _, .ref _, .int _], _)) rfl (u_ rfl) ?_
                          refine w_t (pc := 281) (e_s := (1, 2, 4, 0, 0, .null, [])) (y_s := (283, [some (.ref _), some (.int _), some (.int _), some (.int _), some (.int _)], [.int _, .int _, .int _, .int _, .ref _, .int _], _)) rfl (u_ rfl) ?_
                          refine wcI (pc := 283) (len_s := 3) rfl rfl (l := [some (.ref _), some (.int _), some (.int _), some (.int _), some (.int _), none, none]) rfl (wmI t_s (fun v25 h25 hk t_s => ?_))
                          replace t_s := t_s hk
                          refine w_t (pc := 286) (e_s := (7, 1, 0, 0, 0, .null, [])) (y_s := (287, [some (.ref _), some (.int _), some (.int _), some (.int _), some (.int _)], [.int (_ + _)], _)) rfl (u_ rfl) ?_
                          exact wrI (pc := 287) (len_s := 1) rfl hk t_s
                        · replace t_s := t_s.2 c23_s
                          refine wsc (X_s := 81) rfl (by decide) (fun c26 => ?_) (fun c26 => ?_)
                          · replace t_s := t_s.1 c26
                            refine w_t (pc := 288) (e_s := (3, 1, 0, 0, 0, .null, [])) (y_s := (289, [some (.ref _), some (.int _), some (.int _), some (.int _), some (.int _)], [.ref _], _)) rfl (u_ rfl) ?_
                            refine w_t (pc := 289) (e_s := (1, 1, 2, 0, 0, .null, [])) (y_s := (290, [some (.ref _), some (.int _), some (.int _), some (.int _), some (.int _)], [.int _, .ref _], _)) rfl (u_ rfl) ?_
                            refine w_t (pc := 290) (e_s := (0, 1, 0, 0, 0, .int 3, [])) (y_s := (291, [some (.ref _), some (.int _), some (.int _), some (.int _), some (.int _)], [.int _, .int _, .ref _], _)) rfl (u_ rfl) ?_
                            refine w_t (pc := 291) (e_s := (1, 1, 3, 0, 0, .null, [])) (y_s := (292, [some (.ref _), some (.int _), some (.int _), some (.int _), some (.int _)], [.int _, .int _, .int _, .ref _], _)) rfl (u_ rfl) ?_
                            refine w_t (pc := 292) (e_s := (1, 2, 4, 0, 0, .null, [])) (y_s := (294, [some (.ref _), some (.int _), some (.int _), some (.int _), some (.int _)], [.int _, .int _, .int _, .int _, .ref _], _)) rfl (u_ rfl) ?_
                            refine wcI (pc := 294) (len_s := 3) rfl rfl (l := [some (.ref _), some (.int _), some (.int _), some (.int _), some (.int _), none, none]) rfl (wmI t_s (fun v27 h27 hk t_s => ?_))
                            replace t_s := t_s hk
                            refine w_t (pc := 297) (e_s := (0, 1, 0, 0, 0, .int 1, [])) (y_s := (298, [some (.ref _), some (.int _), some (.int _), some (.int _), some (.int _)], [.int _, .int _], _)) rfl (u_ rfl) ?_
                            refine w_t (pc := 298) (e_s := (7, 1, 0, 1, 0, .null, [])) (y_s := (299, [some (.ref _), some (.int _), some (.int _), some (.int _), some (.int _)], [.int (_ - _)], _)) rfl (u_ rfl) ?_
                            exact wrI (pc := 299) (len_s := 1) rfl hk t_s
                          · replace t_s := t_s.2 c26
                            show wF _ _ (300, _, _, _) _
                            refine w_t (pc := 300) (e_s := (0, 1, 0, 0, 0, .int 0, [])) (y_s := (301, [some (.ref _), some (.int _), some (.int _), some (.int _), some (.int _)], [.int _], _)) rfl (u_ rfl) ?_
                            exact wrI (pc := 301) (len_s := 1) rfl hk t_s
/-- ColdShodModel.act(III)I, from 0 on -/
theorem sg_226_0 {F_s : Nat} {x1_s : Int32} {x2_s : Int32} {x3 : Int32} {h_s : zH} {K_s : Int32 → zH → Prop} (hk : hKn h_s) (t_s : (x1_s.toInt < 0 → K_s 0 (h_s.1, zup h_s.2.1 102 42 0, h_s.2.2.1, h_s.2.2.2)) ∧ (¬ x1_s.toInt < 0 → ((((h_s.2.1 102 39) - 1).toInt < x1_s.toInt → K_s 0 (h_s.1, zup h_s.2.1 102 42 0, h_s.2.2.1, h_s.2.2.2)) ∧ (¬ ((h_s.2.1 102 39) - 1).toInt < x1_s.toInt → (zix x1_s < 50 → (x2_s.toInt = 0 → wF F_s 222 (0, [some (.ref 102), some (.int (h_s.2.1 122 (zix x1_s))), some (.int x3)], [], (h_s.1, zup (zup (zup h_s.2.1 102 42 0) 102 43 (h_s.2.1 122 (zix x1_s))) 102 44 x1_s, h_s.2.2.1, h_s.2.2.2)) (gI (fun v5 h5 => hKn h5 → K_s v5 h5))) ∧ (¬ x2_s.toInt = 0 → (x2_s.toInt = 1 → wF F_s 223 (0, [some (.ref 102), some (.int (h_s.2.1 122 (zix x1_s))), some (.int x3), none], [], (h_s.1, zup (zup (zup h_s.2.1 102 42 0) 102 43 (h_s.2.1 122 (zix x1_s))) 102 44 x1_s, h_s.2.2.1, h_s.2.2.2)) (gI (fun v7 h7 => hKn h7 → K_s v7 h7))) ∧ (¬ x2_s.toInt = 1 → (x2_s.toInt = 2 → wF F_s 224 (0, [some (.ref 102), some (.int (h_s.2.1 122 (zix x1_s))), some (.int x3), none], [], (h_s.1, zup (zup (zup h_s.2.1 102 42 0) 102 43 (h_s.2.1 122 (zix x1_s))) 102 44 x1_s, h_s.2.2.1, h_s.2.2.2)) (gI (fun v9 h9 => hKn h9 → K_s v9 h9))) ∧ (¬ x2_s.toInt = 2 → (x2_s.toInt = 3 → wF F_s 225 (0, [some (.ref 102), some (.int (h_s.2.1 122 (zix x1_s))), some (.int x3), none], [], (h_s.1, zup (zup (zup h_s.2.1 102 42 0) 102 43 (h_s.2.1 122 (zix x1_s))) 102 44 x1_s, h_s.2.2.1, h_s.2.2.2)) (gI (fun v11 h11 => hKn h11 → K_s v11 h11))) ∧ (¬ x2_s.toInt = 3 → K_s 0 (h_s.1, zup (zup (zup h_s.2.1 102 42 0) 102 43 (h_s.2.1 122 (zix x1_s))) 102 44 x1_s, h_s.2.2.1, h_s.2.2.2)))))))))) : wF (F_s + 1) 226 (0, [some (.ref 102), some (.int x1_s), some (.int x2_s), some (.int x3)], [], h_s) (gI K_s) := by
  refine w_0 (pc := 0) (e_s := (3, 1, 0, 0, 0, .null, [])) (y_s := (1, [some (.ref _), some (.int _), some (.int _), some (.int _)], [.ref _], _)) rfl (u_ rfl) ?_
  refine w_t (pc := 1) (e_s := (0, 1, 0, 0, 0, .int 0, [])) (y_s := (2, [some (.ref _), some (.int _), some (.int _), some (.int _)], [.int _, .ref _], _)) rfl (u_ rfl) ?_
  refine w21 (pc := 2) (len_s := 3) rfl ?_
  refine w_t (pc := 5) (e_s := (3, 1, 0, 0, 0, .null, [])) (y_s := (6, [some (.ref _), some (.int _), some (.int _), some (.int _)], [.ref _], _)) rfl (u_ rfl) ?_
  refine w_t (pc := 6) (e_s := (1, 1, 1, 0, 0, .null, [])) (y_s := (7, [some (.ref _), some (.int _), some (.int _), some (.int _)], [.int _, .ref _], _)) rfl (u_ rfl) ?_
  refine wcI (pc := 7) (len_s := 3) rfl rfl (l := [some (.ref _), some (.int _)]) rfl ?_
  refine w_t (pc := 0) (e_s := (1, 1, 1, 0, 0, .null, [])) (y_s := (1, [some (.ref _), some (.int _)], [.int _], _)) rfl (u_ rfl) ?_
  refine w_t (pc := 1) (e_s := (10, 1, 0, 0, 0, .null, [])) (y_s := (2, [some (.ref _), some (.int _)], [.long (Int32.toInt64 _)], _)) rfl (u_ rfl) ?_
  refine w_t (pc := 2) (e_s := (0, 1, 0, 0, 0, .long 0, [])) (y_s := (3, [some (.ref _), some (.int _)], [.long _, .long _], _)) rfl (u_ rfl) ?_
  refine w_t (pc := 3) (e_s := (3, 1, 0, 0, 0, .null, [])) (y_s := (4, [some (.ref _), some (.int _)], [.ref _, .long _, .long _], _)) rfl (u_ rfl) ?_
  refine w20 (pc := 4) (len_s := 3) rfl ?_
  refine w_t (pc := 7) (e_s := (0, 1, 0, 0, 0, .int 1, [])) (y_s := (8, [some (.ref _), some (.int _)], [.int _, .int _, .long _, .long _], _)) rfl (u_ rfl) ?_
  refine w_t (pc := 8) (e_s := (7, 1, 0, 1, 0, .null, [])) (y_s := (9, [some (.ref _), some (.int _)], [.int (_ - _), .long _, .long _], _)) rfl (u_ rfl) ?_
  refine w_t (pc := 9) (e_s := (10, 1, 0, 0, 0, .null, [])) (y_s := (10, [some (.ref _), some (.int _)], [.long (Int32.toInt64 _), .long _, .long _], _)) rfl (u_ rfl) ?_
  refine wcI (pc := 10) (len_s := 3) rfl rfl (l := [some (.long _), none, some (.long _), none, some (.long _), none]) rfl ?_
  refine w_t (pc := 0) (e_s := (2, 1, 0, 0, 0, .null, [])) (y_s := (1, [some (.long _), none, some (.long _), none, some (.long _), none], [.long _], _)) rfl (u_ rfl) ?_
  refine w_t (pc := 1) (e_s := (2, 1, 2, 0, 0, .null, [])) (y_s := (2, [some (.long _), none, some (.long _), none, some (.long _), none], [.long _, .long _], _)) rfl (u_ rfl) ?_
  refine w_t (pc := 2) (e_s := (14, 1, 0, 0, 0, .null, [])) (y_s := (3, [some (.long _), none, some (.long _), none, some (.long _), none], [.int (lg_cmp _ _)], _)) rfl (u_ rfl) ?_
  refine wl2 (pc := 3) (len_s := 3) (Y := 0) rfl (Int32.toInt_toInt64 _) (by decide) (fun c1_s => ?_) (fun c1_s => ?_)
  · replace t_s := t_s.1 c1_s
    refine w_t (pc := 17) (e_s := (0, 1, 0, 0, 0, .int 0, [])) (y_s := (18, [some (.long _), none, some (.long _), none, some (.long _), none], [.int _], _)) rfl (u_ rfl) ?_
    refine wrI (pc := 18) (len_s := 1) rfl hk ?_
    show wF _ 217 (13, [some (.ref _), some (.int _)], [.int _], _) _
    refine wrI (pc := 13) (len_s := 1) rfl hk ?_
    show wF _ 226 (10, [some (.ref _), some (.int _), some (.int _), some (.int _)], [.int _], _) _
    refine w_t (pc := 10) (e_s := (15, 3, 15, 1, 0, .null, [])) (y_s := (13, [some (.ref _), some (.int _), some (.int _), some (.int _)], [], _)) rfl (u_ rfl) ?_
    refine w_t (pc := 13) (e_s := (0, 1, 0, 0, 0, .int 0, [])) (y_s := (14, [some (.ref _), some (.int _), some (.int _), some (.int _)], [.int _], _)) rfl (u_ rfl) ?_
    exact wrI (pc := 14) (len_s := 1) rfl hk t_s
  · replace t_s := t_s.2 c1_s
    refine w_t (pc := 6) (e_s := (2, 1, 0, 0, 0, .null, [])) (y_s := (7, [some (.long _), none, some (.long _), none, some (.long _), none], [.long _], _)) rfl (u_ rfl) ?_
    refine w_t (pc := 7) (e_s := (2, 2, 4, 0, 0, .null, [])) (y_s := (9, [some (.long _), none, some (.long _), none, some (.long _), none], [.long _, .long _], _)) rfl (u_ rfl) ?_
    refine w_t (pc := 9) (e_s := (14, 1, 0, 0, 0, .null, [])) (y_s := (10, [some (.long _), none, some (.long _), none, some (.long _), none], [.int (lg_cmp _ _)], _)) rfl (u_ rfl) ?_
    refine wl4 (pc := 10) (len_s := 3) rfl (Int32.toInt_toInt64 _) (Int32.toInt_toInt64 _) (fun c2_s => ?_) (fun c2_s => ?_)
    · replace t_s := t_s.1 c2_s
      refine w_t (pc := 17) (e_s := (0, 1, 0, 0, 0, .int 0, [])) (y_s := (18, [some (.long _), none, some (.long _), none, some (.long _), none], [.int _], _)) rfl (u_ rfl) ?_
      refine wrI (pc := 18) (len_s := 1) rfl hk ?_
      show wF _ 217 (13, [some (.ref _), some (.int _)], [.int _], _) _
      refine wrI (pc := 13) (len_s := 1) rfl hk ?_
      show wF _ 226 (10, [some (.ref _), some (.int _), some (.int _), some (.int _)], [.int _], _) _
      refine w_t (pc := 10) (e_s := (15, 3, 15, 1, 0, .null, [])) (y_s := (13, [some (.ref _), some (.int _), some (.int _), some (.int _)], [], _)) rfl (u_ rfl) ?_
      refine w_t (pc := 13) (e_s := (0, 1, 0, 0, 0, .int 0, [])) (y_s := (14, [some (.ref _), some (.int _), some (.int _), some (.int _)], [.int _], _)) rfl (u_ rfl) ?_
      exact wrI (pc := 14) (len_s := 1) rfl hk t_s
    · replace t_s := t_s.2 c2_s
      refine w_t (pc := 13) (e_s := (0, 1, 0, 0, 0, .int 1, [])) (y_s := (14, [some (.long _), none, some (.long _), none, some (.long _), none], [.int _], _)) rfl (u_ rfl) ?_
      refine w_t (pc := 14) (e_s := (17, 3, 18, 0, 0, .null, [])) (y_s := (18, [some (.long _), none, some (.long _), none, some (.long _), none], [.int _], _)) rfl (u_ rfl) ?_
      refine wrI (pc := 18) (len_s := 1) rfl hk ?_
      show wF _ 217 (13, [some (.ref _), some (.int _)], [.int _], _) _
      refine wrI (pc := 13) (len_s := 1) rfl hk ?_
      show wF _ 226 (10, [some (.ref _), some (.int _), some (.int _), some (.int _)], [.int _], _) _
      refine w_t (pc := 10) (e_s := (15, 3, 15, 1, 0, .null, [])) (y_s := (15, [some (.ref _), some (.int _), some (.int _), some (.int _)], [], _)) rfl (u_ rfl) ?_
      refine w_t (pc := 15) (e_s := (3, 1, 0, 0, 0, .null, [])) (y_s := (16, [some (.ref _), some (.int _), some (.int _), some (.int _)], [.ref _], _)) rfl (u_ rfl) ?_
      refine w_t (pc := 16) (e_s := (3, 1, 0, 0, 0, .null, [])) (y_s := (17, [some (.ref _), some (.int _), some (.int _), some (.int _)], [.ref _, .ref _], _)) rfl (u_ rfl) ?_
      refine w20r (pc := 17) (len_s := 3) (q_s := 122) rfl (krq hk rfl) ?_
      refine w_t (pc := 20) (e_s := (1, 1, 1, 0, 0, .null, [])) (y_s := (21, [some (.ref _), some (.int _), some (.int _), some (.int _)], [.int _, .ref _, .ref _], _)) rfl (u_ rfl) ?_
      refine w22 (pc := 21) (len_s := 1) rfl (hk.1 122 0 50 rfl rfl) (fun c3_s => ?_)
      replace t_s := t_s c3_s
      refine w21 (pc := 22) (len_s := 3) rfl ?_
      refine w_t (pc := 25) (e_s := (3, 1, 0, 0, 0, .null, [])) (y_s := (26, [some (.ref _), some (.int _), some (.int _), some (.int _)], [.ref _], _)) rfl (u_ rfl) ?_
      refine w_t (pc := 26) (e_s := (1, 1, 1, 0, 0, .null, [])) (y_s := (27, [some (.ref _), some (.int _), some (.int _), some (.int _)], [.int _, .ref _], _)) rfl (u_ rfl) ?_
      refine w21 (pc := 27) (len_s := 3) rfl ?_
      refine w_t (pc := 30) (e_s := (1, 1, 2, 0, 0, .null, [])) (y_s := (31, [some (.ref _), some (.int _), some (.int _), some (.int _)], [.int _], _)) rfl (u_ rfl) ?_
      refine wsw (pc := 31) (len_s := 29) rfl ?_
      refine wsc (X_s := 0) rfl (by decide) (fun c4_s => ?_) (fun c4_s => ?_)
      · replace t_s := t_s.1 c4_s
        refine w_t (pc := 60) (e_s := (3, 1, 0, 0, 0, .null, [])) (y_s := (61, [some (.ref _), some (.int _), some (.int _), some (.int _)], [.ref _], _)) rfl (u_ rfl) ?_
        refine w_t (pc := 61) (e_s := (3, 1, 0, 0, 0, .null, [])) (y_s := (62, [some (.ref _), some (.int _), some (.int _), some (.int _)], [.ref _, .ref _], _)) rfl (u_ rfl) ?_
        refine w20 (pc := 62) (len_s := 3) rfl ?_
        refine w_t (pc := 65) (e_s := (1, 1, 3, 0, 0, .null, [])) (y_s := (66, [some (.ref _), some (.int _), some (.int _), some (.int _)], [.int _, .int _, .ref _], _)) rfl (u_ rfl) ?_
        refine wcI (pc := 66) (len_s := 3) rfl rfl (l := [some (.ref _), some (.int _), some (.int _)]) rfl (wmI t_s (fun v5 h5 hk t_s => ?_))
        replace t_s := t_s hk
        exact wrI (pc := 69) (len_s := 1) rfl hk t_s
      · replace t_s := t_s.2 c4_s
        refine wsc (X_s := 1) rfl (by decide) (fun c6_s => ?_) (fun c6_s => ?_)
        · replace t_s := t_s.1 c6_s
          refine w_t (pc := 70) (e_s := (3, 1, 0, 0, 0, .null, [])) (y_s := (71, [some (.ref _), some (.int _), some (.int _), some (.int _)], [.ref _], _)) rfl (u_ rfl) ?_
          refine w_t (pc := 71) (e_s := (3, 1, 0, 0, 0, .null, [])) (y_s := (72, [some (.ref _), some (.int _), some (.int _), some (.int _)], [.ref _, .ref _], _)) rfl (u_ rfl) ?_
          refine w20 (pc := 72) (len_s := 3) rfl ?_
          refine w_t (pc := 75) (e_s := (1, 1, 3, 0, 0, .null, [])) (y_s := (76, [some (.ref _), some (.int _), some (.int _), some (.int _)], [.int _, .int _, .ref _], _)) rfl (u_ rfl) ?_
          refine wcI (pc := 76) (len_s := 3) rfl rfl (l := [some (.ref _), some (.int _), some (.int _), none]) rfl (wmI t_s (fun v7 h7 hk t_s => ?_))
          replace t_s := t_s hk
          exact wrI (pc := 79) (len_s := 1) rfl hk t_s
        · replace t_s := t_s.2 c6_s
          refine wsc (X_s := 2) rfl (by decide) (fun c8_s => ?_) (fun c8_s => ?_)
          · replace t_s := t_s.1 c8_s
            refine w_t (pc := 80) (e_s := (3, 1, 0, 0, 0, .null, [])) (y_s := (81, [some (.ref _), some (.int _), some (.int _), some (.int _)], [.ref _], _)) rfl (u_ rfl) ?_
            refine w_t (pc := 81) (e_s := (3, 1, 0, 0, 0, .null, [])) (y_s := (82, [some (.ref _), some (.int _), some (.int _), some (.int _)], [.ref _, .ref _], _)) rfl (u_ rfl) ?_
            refine w20 (pc := 82) (len_s := 3) rfl ?_
            refine w_t (pc := 85) (e_s := (1, 1, 3, 0, 0, .null, [])) (y_s := (86, [some (.ref _), some (.int _), some (.int _), some (.int _)], [.int _, .int _, .ref _], _)) rfl (u_ rfl) ?_
            refine wcI (pc := 86) (len_s := 3) rfl rfl (l := [some (.ref _), some (.int _), some (.int _), none]) rfl (wmI t_s (fun v9 h9 hk t_s => ?_))
            replace t_s := t_s hk
            exact wrI (pc := 89) (len_s := 1) rfl hk t_s
          · replace t_s := t_s.2 c8_s
            refine wsc (X_s := 3) rfl (by decide) (fun c10_s => ?_) (fun c10_s => ?_)
            · replace t_s := t_s.1 c10_s
              refine w_t (pc := 90) (e_s := (3, 1, 0, 0, 0, .null, [])) (y_s := (91, [some (.ref _), some (.int _), some (.int _), some (.int _)], [.ref _], _)) rfl (u_ rfl) ?_
              refine w_t (pc := 91) (e_s := (3, 1, 0, 0, 0, .null, [])) (y_s := (92, [some (.ref _), some (.int _), some (.int _), some (.int _)], [.ref _, .ref _], _)) rfl (u_ rfl) ?_
              refine w20 (pc := 92) (len_s := 3) rfl ?_
              refine w_t (pc := 95) (e_s := (1, 1, 3, 0, 0, .null, [])) (y_s := (96, [some (.ref _), some (.int _), some (.int _), some (.int _)], [.int _, .int _, .ref _], _)) rfl (u_ rfl) ?_
              refine wcI (pc := 96) (len_s := 3) rfl rfl (l := [some (.ref _), some (.int _), some (.int _), none]) rfl (wmI t_s (fun v11 h11 hk t_s => ?_))
              replace t_s := t_s hk
              exact wrI (pc := 99) (len_s := 1) rfl hk t_s
            · replace t_s := t_s.2 c10_s
              show wF _ _ (100, _, _, _) _
              refine w_t (pc := 100) (e_s := (0, 1, 0, 0, 0, .int 0, [])) (y_s := (101, [some (.ref _), some (.int _), some (.int _), some (.int _)], [.int _], _)) rfl (u_ rfl) ?_
              exact wrI (pc := 101) (len_s := 1) rfl hk t_s
/-- ColdShodModel.runs(I)V, from 0 on -/
theorem sg_221_0 {F_s : Nat} {x1_s : Int32} {h_s : zH} {K_s : zH → Prop} (hk : hKn h_s) (t_s : ((h_s.2.1 102 42).toInt < 24 → (zix (h_s.2.1 102 42) < 24 → K_s (h_s.1, zup (zup h_s.2.1 123 (zix (h_s.2.1 102 42)) x1_s) 102 42 ((h_s.2.1 102 42) + 1), h_s.2.2.1, h_s.2.2.2))) ∧ (¬ (h_s.2.1 102 42).toInt < 24 → K_s (h_s.1, zup h_s.2.1 102 42 ((h_s.2.1 102 42) + 1), h_s.2.2.1, h_s.2.2.2))) : wF (F_s + 1) 221 (0, [some (.ref 102), some (.int x1_s)], [], h_s) (gV K_s) := by
  refine w_0 (pc := 0) (e_s := (3, 1, 0, 0, 0, .null, [])) (y_s := (1, [some (.ref _), some (.int _)], [.ref _], _)) rfl (u_ rfl) ?_
  refine w20 (pc := 1) (len_s := 3) rfl ?_
  refine w_t (pc := 4) (e_s := (0, 2, 0, 0, 0, .int 24, [])) (y_s := (6, [some (.ref _), some (.int _)], [.int _, .int _], _)) rfl (u_ rfl) ?_
  refine wi3 (pc := 6) (len_s := 3) (Y := 24) rfl rfl (by decide) (fun c1_s => ?_) (fun c1_s => ?_)
  · replace t_s := t_s.1 c1_s
    refine w_t (pc := 9) (e_s := (3, 1, 0, 0, 0, .null, [])) (y_s := (10, [some (.ref _), some (.int _)], [.ref _], _)) rfl (u_ rfl) ?_
    refine w20r (pc := 10) (len_s := 3) (q_s := 123) rfl (krq hk rfl) ?_
    refine w_t (pc := 13) (e_s := (3, 1, 0, 0, 0, .null, [])) (y_s := (14, [some (.ref _), some (.int _)], [.ref _, .ref _], _)) rfl (u_ rfl) ?_
    refine w20 (pc := 14) (len_s := 3) rfl ?_
    refine w_t (pc := 17) (e_s := (1, 1, 1, 0, 0, .null, [])) (y_s := (18, [some (.ref _), some (.int _)], [.int _, .int _, .ref _], _)) rfl (u_ rfl) ?_
    refine w25 (pc := 18) (len_s := 1) rfl (hk.1 123 0 24 rfl rfl) (fun c2_s => ?_)
    replace t_s := t_s c2_s
    refine w_t (pc := 19) (e_s := (3, 1, 0, 0, 0, .null, [])) (y_s := (20, [some (.ref _), some (.int _)], [.ref _], _)) rfl (u_ rfl) ?_
    refine w_t (pc := 20) (e_s := (39, 1, 0, 0, 0, .null, [])) (y_s := (21, [some (.ref _), some (.int _)], [.ref _, .ref _], _)) rfl (u_ rfl) ?_
    refine w20 (pc := 21) (len_s := 3) rfl ?_
    refine w_t (pc := 24) (e_s := (0, 1, 0, 0, 0, .int 1, [])) (y_s := (25, [some (.ref _), some (.int _)], [.int _, .int _, .ref _], _)) rfl (u_ rfl) ?_
    refine w_t (pc := 25) (e_s := (7, 1, 0, 0, 0, .null, [])) (y_s := (26, [some (.ref _), some (.int _)], [.int (_ + _), .ref _], _)) rfl (u_ rfl) ?_
    refine w21 (pc := 26) (len_s := 3) rfl ?_
    exact wrV (pc := 29) (len_s := 1) rfl hk t_s
  · replace t_s := t_s.2 c1_s
    refine w_t (pc := 19) (e_s := (3, 1, 0, 0, 0, .null, [])) (y_s := (20, [some (.ref _), some (.int _)], [.ref _], _)) rfl (u_ rfl) ?_
    refine w_t (pc := 20) (e_s := (39, 1, 0, 0, 0, .null, [])) (y_s := (21, [some (.ref _), some (.int _)], [.ref _, .ref _], _)) rfl (u_ rfl) ?_
    refine w20 (pc := 21) (len_s := 3) rfl ?_
    refine w_t (pc := 24) (e_s := (0, 1, 0, 0, 0, .int 1, [])) (y_s := (25, [some (.ref _), some (.int _)], [.int _, .int _, .ref _], _)) rfl (u_ rfl) ?_
    refine w_t (pc := 25) (e_s := (7, 1, 0, 0, 0, .null, [])) (y_s := (26, [some (.ref _), some (.int _)], [.int (_ + _), .ref _], _)) rfl (u_ rfl) ?_
    refine w21 (pc := 26) (len_s := 3) rfl ?_
    exact wrV (pc := 29) (len_s := 1) rfl hk t_s
/-- ColdShodModel.heatsAs(II)I, from 0 on -/
theorem sg_222_0 {F_s : Nat} {x1_s : Int32} {x2_s : Int32} {h_s : zH} {K_s : Int32 → zH → Prop} (hk : hKn h_s) (t_s : (x1_s.toInt = 1 → wF F_s 221 (0, [some (.ref 102), some (.int 20)], [], h_s) (gV (fun h2 => hKn h2 → wF F_s 222 (0, [some (.ref 102), some (.int 0), some (.int x2_s)], [], h2) (gI (fun v3 h3 => hKn h3 → K_s (v3 + 3) h3))))) ∧ (¬ x1_s.toInt = 1 → ((x1_s.toInt = 4 → wF F_s 221 (0, [some (.ref 102), some (.int 20)], [], h_s) (gV (fun h5 => hKn h5 → wF F_s 222 (0, [some (.ref 102), some (.int 0), some (.int x2_s)], [], h5) (gI (fun v6 h6 => hKn h6 → K_s (v6 + 3) h6))))) ∧ (¬ x1_s.toInt = 4 → ((x1_s.toInt = 7 → wF F_s 221 (0, [some (.ref 102), some (.int 20)], [], h_s) (gV (fun h8 => hKn h8 → wF F_s 222 (0, [some (.ref 102), some (.int 0), some (.int x2_s)], [], h8) (gI (fun v9 h9 => hKn h9 → K_s (v9 + 3) h9))))) ∧ (¬ x1_s.toInt = 7 → ((x1_s.toInt = 6 → wF F_s 221 (0, [some (.ref 102), some (.int 70)], [], h_s) (gV (fun h11 => hKn h11 → wF F_s 222 (0, [some (.ref 102), some (.int 0), some (.int x2_s)], [], h11) (gI (fun v12 h12 => hKn h12 → K_s (v12 * 2) h12))))) ∧ (¬ x1_s.toInt = 6 → wF F_s 221 (0, [some (.ref 102), some (.int 1)], [], h_s) (gV (fun h13 => hKn h13 → K_s (x2_s + (h13.2.1 102 44)) h13)))))))))) : wF (F_s + 1) 222 (0, [some (.ref 102), some (.int x1_s), some (.int x2_s)], [], h_s) (gI K_s) := by
  refine w_0 (pc := 0) (e_s := (1, 1, 1, 0, 0, .null, [])) (y_s := (1, [some (.ref _), some (.int _), some (.int _)], [.int _], _)) rfl (u_ rfl) ?_
  refine w_t (pc := 1) (e_s := (0, 1, 0, 0, 0, .int 1, [])) (y_s := (2, [some (.ref _), some (.int _), some (.int _)], [.int _, .int _], _)) rfl (u_ rfl) ?_
  refine wi0 (pc := 2) (len_s := 3) (Y := 1) rfl rfl (by decide) (fun c1_s => ?_) (fun c1_s => ?_)
  · replace t_s := t_s.1 c1_s
    refine w_t (pc := 16) (e_s := (3, 1, 0, 0, 0, .null, [])) (y_s := (17, [some (.ref _), some (.int _), some (.int _)], [.ref _], _)) rfl (u_ rfl) ?_
    refine w_t (pc := 17) (e_s := (0, 2, 0, 0, 0, .int 20, [])) (y_s := (19, [some (.ref _), some (.int _), some (.int _)], [.int _, .ref _], _)) rfl (u_ rfl) ?_
    refine wcV (pc := 19) (len_s := 3) rfl rfl (l := [some (.ref _), some (.int _)]) rfl (wmV t_s (fun h2 hk t_s => ?_))
    replace t_s := t_s hk
    refine w_t (pc := 22) (e_s := (3, 1, 0, 0, 0, .null, [])) (y_s := (23, [some (.ref _), some (.int _), some (.int _)], [.ref _], _)) rfl (u_ rfl) ?_
    refine w_t (pc := 23) (e_s := (0, 1, 0, 0, 0, .int 0, [])) (y_s := (24, [some (.ref _), some (.int _), some (.int _)], [.int _, .ref _], _)) rfl (u_ rfl) ?_
    refine w_t (pc := 24) (e_s := (1, 1, 2, 0, 0, .null, [])) (y_s := (25, [some (.ref _), some (.int _), some (.int _)], [.int _, .int _, .ref _], _)) rfl (u_ rfl) ?_
    refine wcI (pc := 25) (len_s := 3) rfl rfl (l := [some (.ref _), some (.int _), some (.int _)]) rfl (wmI t_s (fun v3 h3 hk t_s => ?_))
    replace t_s := t_s hk
    refine w_t (pc := 28) (e_s := (0, 1, 0, 0, 0, .int 3, [])) (y_s := (29, [some (.ref _), some (.int _), some (.int _)], [.int _, .int _], _)) rfl (u_ rfl) ?_
    refine w_t (pc := 29) (e_s := (7, 1, 0, 0, 0, .null, [])) (y_s := (30, [some (.ref _), some (.int _), some (.int _)], [.int (_ + _)], _)) rfl (u_ rfl) ?_
    exact wrI (pc := 30) (len_s := 1) rfl hk t_s
  · replace t_s := t_s.2 c1_s
    refine w_t (pc := 5) (e_s := (1, 1, 1, 0, 0, .null, [])) (y_s := (6, [some (.ref _), some (.int _), some (.int _)], [.int _], _)) rfl (u_ rfl) ?_
    refine w_t (pc := 6) (e_s := (0, 1, 0, 0, 0, .int 4, [])) (y_s := (7, [some (.ref _), some (.int _), some (.int _)], [.int _, .int _], _)) rfl (u_ rfl) ?_
    refine wi0 (pc := 7) (len_s := 3) (Y := 4) rfl rfl (by decide) (fun c4_s => ?_) (fun c4_s => ?_)
    · replace t_s := t_s.1 c4_s
      refine w_t (pc := 16) (e_s := (3, 1, 0, 0, 0, .null, [])) (y_s := (17, [some (.ref _), some (.int _), some (.int _)], [.ref _], _)) rfl (u_ rfl) ?_
      refine w_t (pc := 17) (e_s := (0, 2, 0, 0, 0, .int 20, [])) (y_s := (19, [some (.ref _), some (.int _), some (.int _)], [.int _, .ref _], _)) rfl (u_ rfl) ?_
      refine wcV (pc := 19) (len_s := 3) rfl rfl (l := [some (.ref _), some (.int _)]) rfl (wmV t_s (fun h5 hk t_s => ?_))
      replace t_s := t_s hk
      refine w_t (pc := 22) (e_s := (3, 1, 0, 0, 0, .null, [])) (y_s := (23, [some (.ref _), some (.int _), some (.int _)], [.ref _], _)) rfl (u_ rfl) ?_
      refine w_t (pc := 23) (e_s := (0, 1, 0, 0, 0, .int 0, [])) (y_s := (24, [some (.ref _), some (.int _), some (.int _)], [.int _, .ref _], _)) rfl (u_ rfl) ?_
      refine w_t (pc := 24) (e_s := (1, 1, 2, 0, 0, .null, [])) (y_s := (25, [some (.ref _), some (.int _), some (.int _)], [.int _, .int _, .ref _], _)) rfl (u_ rfl) ?_
      refine wcI (pc := 25) (len_s := 3) rfl rfl (l := [some (.ref _), some (.int _), some (.int _)]) rfl (wmI t_s (fun v6 h6 hk t_s => ?_))
      replace t_s := t_s hk
      refine w_t (pc := 28) (e_s := (0, 1, 0, 0, 0, .int 3, [])) (y_s := (29, [some (.ref _), some (.int _), some (.int _)], [.int _, .int _], _)) rfl (u_ rfl) ?_
      refine w_t (pc := 29) (e_s := (7, 1, 0, 0, 0, .null, [])) (y_s := (30, [some (.ref _), some (.int _), some (.int _)], [.int (_ + _)], _)) rfl (u_ rfl) ?_
      exact wrI (pc := 30) (len_s := 1) rfl hk t_s
    · replace t_s := t_s.2 c4_s
      refine w_t (pc := 10) (e_s := (1, 1, 1, 0, 0, .null, [])) (y_s := (11, [some (.ref _), some (.int _), some (.int _)], [.int _], _)) rfl (u_ rfl) ?_
      refine w_t (pc := 11) (e_s := (0, 2, 0, 0, 0, .int 7, [])) (y_s := (13, [some (.ref _), some (.int _), some (.int _)], [.int _, .int _], _)) rfl (u_ rfl) ?_
      refine wi1 (pc := 13) (len_s := 3) (Y := 7) rfl rfl (by decide) (fun c7_s => ?_) (fun c7_s => ?_)
      · replace t_s := t_s.1 c7_s
        refine w_t (pc := 16) (e_s := (3, 1, 0, 0, 0, .null, [])) (y_s := (17, [some (.ref _), some (.int _), some (.int _)], [.ref _], _)) rfl (u_ rfl) ?_
        refine w_t (pc := 17) (e_s := (0, 2, 0, 0, 0, .int 20, [])) (y_s := (19, [some (.ref _), some (.int _), some (.int _)], [.int _, .ref _], _)) rfl (u_ rfl) ?_
        refine wcV (pc := 19) (len_s := 3) rfl rfl (l := [some (.ref _), some (.int _)]) rfl (wmV t_s (fun h8 hk t_s => ?_))
        replace t_s := t_s hk
        refine w_t (pc := 22) (e_s := (3, 1, 0, 0, 0, .null, [])) (y_s := (23, [some (.ref _), some (.int _), some (.int _)], [.ref _], _)) rfl (u_ rfl) ?_
        refine w_t (pc := 23) (e_s := (0, 1, 0, 0, 0, .int 0, [])) (y_s := (24, [some (.ref _), some (.int _), some (.int _)], [.int _, .ref _], _)) rfl (u_ rfl) ?_
        refine w_t (pc := 24) (e_s := (1, 1, 2, 0, 0, .null, [])) (y_s := (25, [some (.ref _), some (.int _), some (.int _)], [.int _, .int _, .ref _], _)) rfl (u_ rfl) ?_
        refine wcI (pc := 25) (len_s := 3) rfl rfl (l := [some (.ref _), some (.int _), some (.int _)]) rfl (wmI t_s (fun v9 h9 hk t_s => ?_))
        replace t_s := t_s hk
        refine w_t (pc := 28) (e_s := (0, 1, 0, 0, 0, .int 3, [])) (y_s := (29, [some (.ref _), some (.int _), some (.int _)], [.int _, .int _], _)) rfl (u_ rfl) ?_
        refine w_t (pc := 29) (e_s := (7, 1, 0, 0, 0, .null, [])) (y_s := (30, [some (.ref _), some (.int _), some (.int _)], [.int (_ + _)], _)) rfl (u_ rfl) ?_
        exact wrI (pc := 30) (len_s := 1) rfl hk t_s
      · replace t_s := t_s.2 c7_s
        refine w_t (pc := 31) (e_s := (1, 1, 1, 0, 0, .null, [])) (y_s := (32, [some (.ref _), some (.int _), some (.int _)], [.int _], _)) rfl (u_ rfl) ?_
        refine w_t (pc := 32) (e_s := (0, 2, 0, 0, 0, .int 6, [])) (y_s := (34, [some (.ref _), some (.int _), some (.int _)], [.int _, .int _], _)) rfl (u_ rfl) ?_
        refine wi1 (pc := 34) (len_s := 3) (Y := 6) rfl rfl (by decide) (fun c10_s => ?_) (fun c10_s => ?_)
        · replace t_s := t_s.1 c10_s
          refine w_t (pc := 37) (e_s := (3, 1, 0, 0, 0, .null, [])) (y_s := (38, [some (.ref _), some (.int _), some (.int _)], [.ref _], _)) rfl (u_ rfl) ?_
          refine w_t (pc := 38) (e_s := (0, 2, 0, 0, 0, .int 70, [])) (y_s := (40, [some (.ref _), some (.int _), some (.int _)], [.int _, .ref _], _)) rfl (u_ rfl) ?_
          refine wcV (pc := 40) (len_s := 3) rfl rfl (l := [some (.ref _), some (.int _)]) rfl (wmV t_s (fun h11 hk t_s => ?_))
          replace t_s := t_s hk
          refine w_t (pc := 43) (e_s := (3, 1, 0, 0, 0, .null, [])) (y_s := (44, [some (.ref _), some (.int _), some (.int _)], [.ref _], _)) rfl (u_ rfl) ?_
          refine w_t (pc := 44) (e_s := (0, 1, 0, 0, 0, .int 0, [])) (y_s := (45, [some (.ref _), some (.int _), some (.int _)], [.int _, .ref _], _)) rfl (u_ rfl) ?_
          refine w_t (pc := 45) (e_s := (1, 1, 2, 0, 0, .null, [])) (y_s := (46, [some (.ref _), some (.int _), some (.int _)], [.int _, .int _, .ref _], _)) rfl (u_ rfl) ?_
          refine wcI (pc := 46) (len_s := 3) rfl rfl (l := [some (.ref _), some (.int _), some (.int _)]) rfl (wmI t_s (fun v12 h12 hk t_s => ?_))
          replace t_s := t_s hk
          refine w_t (pc := 49) (e_s := (0, 1, 0, 0, 0, .int 2, [])) (y_s := (50, [some (.ref _), some (.int _), some (.int _)], [.int _, .int _], _)) rfl (u_ rfl) ?_
          refine w_t (pc := 50) (e_s := (7, 1, 0, 2, 0, .null, [])) (y_s := (51, [some (.ref _), some (.int _), some (.int _)], [.int (_ * _)], _)) rfl (u_ rfl) ?_
          exact wrI (pc := 51) (len_s := 1) rfl hk t_s
        · replace t_s := t_s.2 c10_s
          refine w_t (pc := 52) (e_s := (3, 1, 0, 0, 0, .null, [])) (y_s := (53, [some (.ref _), some (.int _), some (.int _)], [.ref _], _)) rfl (u_ rfl) ?_
          refine w_t (pc := 53) (e_s := (0, 1, 0, 0, 0, .int 1, [])) (y_s := (54, [some (.ref _), some (.int _), some (.int _)], [.int _, .ref _], _)) rfl (u_ rfl) ?_
          refine wcV (pc := 54) (len_s := 3) rfl rfl (l := [some (.ref _), some (.int _)]) rfl (wmV t_s (fun h13 hk t_s => ?_))
          replace t_s := t_s hk
          refine w_t (pc := 57) (e_s := (1, 1, 2, 0, 0, .null, [])) (y_s := (58, [some (.ref _), some (.int _), some (.int _)], [.int _], _)) rfl (u_ rfl) ?_
          refine w_t (pc := 58) (e_s := (3, 1, 0, 0, 0, .null, [])) (y_s := (59, [some (.ref _), some (.int _), some (.int _)], [.ref _, .int _], _)) rfl (u_ rfl) ?_
          refine w20 (pc := 59) (len_s := 3) rfl ?_
          refine w_t (pc := 62) (e_s := (7, 1, 0, 0, 0, .null, [])) (y_s := (63, [some (.ref _), some (.int _), some (.int _)], [.int (_ + _)], _)) rfl (u_ rfl) ?_
          exact wrI (pc := 63) (len_s := 1) rfl hk t_s
/-- ColdShodModel.drawsAs(II)I, from 0 on -/
theorem sg_223_0 {F_s : Nat} {x1_s x2_s : Int32} {h_s : zH} {K_s : Int32 → zH → Prop} (hk : hKn h_s) (t_s : (x1_s.toInt = 3 → wF F_s 221 (0, [some (.ref 102), some (.int 41)], [], h_s) (gV (fun h2 => hKn h2 → wF F_s 223 (0, [some (.ref 102), some (.int 2), some (.int (x2_s + 1)), none], [], h2) (gI (fun v3 h3 => hKn h3 → K_s v3 h3))))) ∧ (¬ x1_s.toInt = 3 → ((x1_s.toInt = 5 → wF F_s 221 (0, [some (.ref 102), some (.int 41)], [], h_s) (gV (fun h5 => hKn h5 → wF F_s 223 (0, [some (.ref 102), some (.int 2), some (.int (x2_s + 1)), none], [], h5) (gI (fun v6 h6 => hKn h6 → K_s v6 h6))))) ∧ (¬ x1_s.toInt = 5 → ((x1_s.toInt = 2 → wF F_s 221 (0, [some (.ref 102), some (.int 30)], [], h_s) (gV (fun h8 => hKn h8 → wF F_s 223 (0, [some (.ref 102), some (.int 0), some (.int x2_s), none], [], h8) (gI (fun v9 h9 => hKn h9 → K_s (-v9) h9))))) ∧ (¬ x1_s.toInt = 2 → ((x1_s.toInt = 7 → wF F_s 221 (0, [some (.ref 102), some (.int 80)], [], h_s) (gV (fun h11 => hKn h11 → wF F_s 223 (0, [some (.ref 102), some (.int 4), some (.int x2_s), none], [], h11) (gI (fun v12 h12 => hKn h12 → wF F_s 224 (0, [some (.ref 102), some (.int (h12.2.1 102 43)), some (.int 2), none], [], h12) (gI (fun v13 h13 => hKn h13 → K_s (v12 + v13) h13))))))) ∧ (¬ x1_s.toInt = 7 → wF F_s 221 (0, [some (.ref 102), some (.int 10)], [], h_s) (gV (fun h14 => hKn h14 → wF F_s 222 (0, [some (.ref 102), some (.int (h14.2.1 102 43)), some (.int x2_s)], [], h14) (gI (fun v15 h15 => hKn h15 → K_s (v15 * 2) h15)))))))))))) : wF (F_s + 1) 223 (0, [some (.ref 102), some (.int x1_s), some (.int x2_s), none], [], h_s) (gI K_s) := by
  refine w_0 (pc := 0) (e_s := (1, 1, 1, 0, 0, .null, [])) (y_s := (1, [some (.ref _), some (.int _), some (.int _), none], [.int _], _)) rfl (u_ rfl) ?_
  refine w_t (pc := 1) (e_s := (0, 1, 0, 0, 0, .int 3, [])) (y_s := (2, [some (.ref _), some (.int _), some (.int _), none], [.int _, .int _], _)) rfl (u_ rfl) ?_
  refine wi0 (pc := 2) (len_s := 3) (Y := 3) rfl rfl (by decide) (fun c1_s => ?_) (fun c1_s => ?_)
  · replace t_s := t_s.1 c1_s
    refine w_t (pc := 10) (e_s := (3, 1, 0, 0, 0, .null, [])) (y_s := (11, [some (.ref _), some (.int _), some (.int _), none], [.ref _], _)) rfl (u_ rfl) ?_
    refine w_t (pc := 11) (e_s := (0, 2, 0, 0, 0, .int 41, [])) (y_s := (13, [some (.ref _), some (.int _), some (.int _), none], [.int _, .ref _], _)) rfl (u_ rfl) ?_
    refine wcV (pc := 13) (len_s := 3) rfl rfl (l := [some (.ref _), some (.int _)]) rfl (wmV t_s (fun h2 hk t_s => ?_))
    replace t_s := t_s hk
    refine w_t (pc := 16) (e_s := (3, 1, 0, 0, 0, .null, [])) (y_s := (17, [some (.ref _), some (.int _), some (.int _), none], [.ref _], _)) rfl (u_ rfl) ?_
    refine w_t (pc := 17) (e_s := (0, 1, 0, 0, 0, .int 2, [])) (y_s := (18, [some (.ref _), some (.int _), some (.int _), none], [.int _, .ref _], _)) rfl (u_ rfl) ?_
    refine w_t (pc := 18) (e_s := (1, 1, 2, 0, 0, .null, [])) (y_s := (19, [some (.ref _), some (.int _), some (.int _), none], [.int _, .int _, .ref _], _)) rfl (u_ rfl) ?_
    refine w_t (pc := 19) (e_s := (0, 1, 0, 0, 0, .int 1, [])) (y_s := (20, [some (.ref _), some (.int _), some (.int _), none], [.int _, .int _, .int _, .ref _], _)) rfl (u_ rfl) ?_
    refine w_t (pc := 20) (e_s := (7, 1, 0, 0, 0, .null, [])) (y_s := (21, [some (.ref _), some (.int _), some (.int _), none], [.int (_ + _), .int _, .ref _], _)) rfl (u_ rfl) ?_
    refine wcI (pc := 21) (len_s := 3) rfl rfl (l := [some (.ref _), some (.int _), some (.int _), none]) rfl (wmI t_s (fun v3 h3 hk t_s => ?_))
    replace t_s := t_s hk
    exact wrI (pc := 24) (len_s := 1) rfl hk t_s
  · replace t_s := t_s.2 c1_s
    refine w_t (pc := 5) (e_s := (1, 1, 1, 0, 0, .null, [])) (y_s := (6, [some (.ref _), some (.int _), some (.int _), none], [.int _], _)) rfl (u_ rfl) ?_
    refine w_t (pc := 6) (e_s := (0, 1, 0, 0, 0, .int 5, [])) (y_s := (7, [some (.ref _), some (.int _), some (.int _), none], [.int _, .int _], _)) rfl (u_ rfl) ?_
    refine wi1 (pc := 7) (len_s := 3) (Y := 5) rfl rfl (by decide) (fun c4_s => ?_) (fun c4_s => ?_)
    · replace t_s := t_s.1 c4_s
      refine w_t (pc := 10) (e_s := (3, 1, 0, 0, 0, .null, [])) (y_s := (11, [some (.ref _), some (.int _), some (.int _), none], [.ref _], _)) rfl (u_ rfl) ?_
      refine w_t (pc := 11) (e_s := (0, 2, 0, 0, 0, .int 41, [])) (y_s := (13, [some (.ref _), some (.int _), some (.int _), none], [.int _, .ref _], _)) rfl (u_ rfl) ?_
      refine wcV (pc := 13) (len_s := 3) rfl rfl (l := [some (.ref _), some (.int _)]) rfl (wmV t_s (fun h5 hk t_s => ?_))
      replace t_s := t_s hk
      refine w_t (pc := 16) (e_s := (3, 1, 0, 0, 0, .null, [])) (y_s := (17, [some (.ref _), some (.int _), some (.int _), none], [.ref _], _)) rfl (u_ rfl) ?_
      refine w_t (pc := 17) (e_s := (0, 1, 0, 0, 0, .int 2, [])) (y_s := (18, [some (.ref _), some (.int _), some (.int _), none], [.int _, .ref _], _)) rfl (u_ rfl) ?_
      refine w_t (pc := 18) (e_s := (1, 1, 2, 0, 0, .null, [])) (y_s := (19, [some (.ref _), some (.int _), some (.int _), none], [.int _, .int _, .ref _], _)) rfl (u_ rfl) ?_
      refine w_t (pc := 19) (e_s := (0, 1, 0, 0, 0, .int 1, [])) (y_s := (20, [some (.ref _), some (.int _), some (.int _), none], [.int _, .int _, .int _, .ref _], _)) rfl (u_ rfl) ?_
      refine w_t (pc := 20) (e_s := (7, 1, 0, 0, 0, .null, [])) (y_s := (21, [some (.ref _), some (.int _), some (.int _), none], [.int (_ + _), .int _, .ref _], _)) rfl (u_ rfl) ?_
      refine wcI (pc := 21) (len_s := 3) rfl rfl (l := [some (.ref _), some (.int _), some (.int _), none]) rfl (wmI t_s (fun v6 h6 hk t_s => ?_))
      replace t_s := t_s hk
      exact wrI (pc := 24) (len_s := 1) rfl hk t_s
    · replace t_s := t_s.2 c4_s
      refine w_t (pc := 25) (e_s := (1, 1, 1, 0, 0, .null, [])) (y_s := (26, [some (.ref _), some (.int _), some (.int _), none], [.int _], _)) rfl (u_ rfl) ?_
      refine w_t (pc := 26) (e_s := (0, 1, 0, 0, 0, .int 2, [])) (y_s := (27, [some (.ref _), some (.int _), some (.int _), none], [.int _, .int _], _)) rfl (u_ rfl) ?_
      refine wi1 (pc := 27) (len_s := 3) (Y := 2) rfl rfl (by decide) (fun c7_s => ?_) (fun c7_s => ?_)
      · replace t_s := t_s.1 c7_s
        refine w_t (pc := 30) (e_s := (3, 1, 0, 0, 0, .null, [])) (y_s := (31, [some (.ref _), some (.int _), some (.int _), none], [.ref _], _)) rfl (u_ rfl) ?_
        refine w_t (pc := 31) (e_s := (0, 2, 0, 0, 0, .int 30, [])) (y_s := (33, [some (.ref _), some (.int _), some (.int _), none], [.int _, .ref _], _)) rfl (u_ rfl) ?_
        refine wcV (pc := 33) (len_s := 3) rfl rfl (l := [some (.ref _), some (.int _)]) rfl (wmV t_s (fun h8 hk t_s => ?_))
        replace t_s := t_s hk
        refine w_t (pc := 36) (e_s := (3, 1, 0, 0, 0, .null, [])) (y_s := (37, [some (.ref _), some (.int _), some (.int _), none], [.ref _], _)) rfl (u_ rfl) ?_
        refine w_t (pc := 37) (e_s := (0, 1, 0, 0, 0, .int 0, [])) (y_s := (38, [some (.ref _), some (.int _), some (.int _), none], [.int _, .ref _], _)) rfl (u_ rfl) ?_
        refine w_t (pc := 38) (e_s := (1, 1, 2, 0, 0, .null, [])) (y_s := (39, [some (.ref _), some (.int _), some (.int _), none], [.int _, .int _, .ref _], _)) rfl (u_ rfl) ?_
        refine wcI (pc := 39) (len_s := 3) rfl rfl (l := [some (.ref _), some (.int _), some (.int _), none]) rfl (wmI t_s (fun v9 h9 hk t_s => ?_))
        replace t_s := t_s hk
        refine w_t (pc := 42) (e_s := (9, 1, 0, 0, 0, .null, [])) (y_s := (43, [some (.ref _), some (.int _), some (.int _), none], [.int (-_)], _)) rfl (u_ rfl) ?_
        exact wrI (pc := 43) (len_s := 1) rfl hk t_s
      · replace t_s := t_s.2 c7_s
        refine w_t (pc := 44) (e_s := (1, 1, 1, 0, 0, .null, [])) (y_s := (45, [some (.ref _), some (.int _), some (.int _), none], [.int _], _)) rfl (u_ rfl) ?_
        refine w_t (pc := 45) (e_s := (0, 2, 0, 0, 0, .int 7, [])) (y_s := (47, [some (.ref _), some (.int _), some (.int _), none], [.int _, .int _], _)) rfl (u_ rfl) ?_
        refine wi1 (pc := 47) (len_s := 3) (Y := 7) rfl rfl (by decide) (fun c10_s => ?_) (fun c10_s => ?_)
        · replace t_s := t_s.1 c10_s
          refine w_t (pc := 50) (e_s := (3, 1, 0, 0, 0, .null, [])) (y_s := (51, [some (.ref _), some (.int _), some (.int _), none], [.ref _], _)) rfl (u_ rfl) ?_
          refine w_t (pc := 51) (e_s := (0, 2, 0, 0, 0, .int 80, [])) (y_s := (53, [some (.ref _), some (.int _), some (.int _), none], [.int _, .ref _], _)) rfl (u_ rfl) ?_
          refine wcV (pc := 53) (len_s := 3) rfl rfl (l := [some (.ref _), some (.int _)]) rfl (wmV t_s (fun h11 hk t_s => ?_))
          replace t_s := t_s hk
          refine w_t (pc := 56) (e_s := (3, 1, 0, 0, 0, .null, [])) (y_s := (57, [some (.ref _), some (.int _), some (.int _), none], [.ref _], _)) rfl (u_ rfl) ?_
          refine w_t (pc := 57) (e_s := (0, 1, 0, 0, 0, .int 4, [])) (y_s := (58, [some (.ref _), some (.int _), some (.int _), none], [.int _, .ref _], _)) rfl (u_ rfl) ?_
          refine w_t (pc := 58) (e_s := (1, 1, 2, 0, 0, .null, [])) (y_s := (59, [some (.ref _), some (.int _), some (.int _), none], [.int _, .int _, .ref _], _)) rfl (u_ rfl) ?_
          refine wcI (pc := 59) (len_s := 3) rfl rfl (l := [some (.ref _), some (.int _), some (.int _), none]) rfl (wmI t_s (fun v12 h12 hk t_s => ?_))
          replace t_s := t_s hk
          refine w_t (pc := 62) (e_s := (4, 1, 3, 0, 0, .null, [])) (y_s := (63, [some (.ref _), some (.int _), some (.int _), some (.int _)], [], _)) rfl (u_ rfl) ?_
          refine w_t (pc := 63) (e_s := (1, 1, 3, 0, 0, .null, [])) (y_s := (64, [some (.ref _), some (.int _), some (.int _), some (.int _)], [.int _], _)) rfl (u_ rfl) ?_
          refine w_t (pc := 64) (e_s := (3, 1, 0, 0, 0, .null, [])) (y_s := (65, [some (.ref _), some (.int _), some (.int _), some (.int _)], [.ref _, .int _], _)) rfl (u_ rfl) ?_
          refine w_t (pc := 65) (e_s := (3, 1, 0, 0, 0, .null, [])) (y_s := (66, [some (.ref _), some (.int _), some (.int _), some (.int _)], [.ref _, .ref _, .int _], _)) rfl (u_ rfl) ?_
          refine w20 (pc := 66) (len_s := 3) rfl ?_
          refine w_t (pc := 69) (e_s := (0, 1, 0, 0, 0, .int 2, [])) (y_s := (70, [some (.ref _), some (.int _), some (.int _), some (.int _)], [.int _, .int _, .ref _, .int _], _)) rfl (u_ rfl) ?_
          refine wcI (pc := 70) (len_s := 3) rfl rfl (l := [some (.ref _), some (.int _), some (.int _), none]) rfl (wmI t_s (fun v13 h13 hk t_s => ?_))
          replace t_s := t_s hk
          refine w_t (pc := 73) (e_s := (7, 1, 0, 0, 0, .null, [])) (y_s := (74, [some (.ref _), some (.int _), some (.int _), some (.int _)], [.int (_ + _)], _)) rfl (u_ rfl) ?_
          exact wrI (pc := 74) (len_s := 1) rfl hk t_s
        · replace t_s := t_s.2 c10_s
          refine w_t (pc := 75) (e_s := (3, 1, 0, 0, 0, .null, [])) (y_s := (76, [some (.ref _), some (.int _), some (.int _), none], [.ref _], _)) rfl (u_ rfl) ?_
          refine w_t (pc := 76) (e_s := (0, 2, 0, 0, 0, .int 10, [])) (y_s := (78, [some (.ref _), some (.int _), some (.int _), none], [.int _, .ref _], _)) rfl (u_ rfl) ?_
          refine wcV (pc := 78) (len_s := 3) rfl rfl (l := [some (.ref _), some (.int _)]) rfl (wmV t_s (fun h14 hk t_s => ?_))
          replace t_s := t_s hk
          refine w_t (pc := 81) (e_s := (3, 1, 0, 0, 0, .null, [])) (y_s := (82, [some (.ref _), some (.int _), some (.int _), none], [.ref _], _)) rfl (u_ rfl) ?_
          refine w_t (pc := 82) (e_s := (3, 1, 0, 0, 0, .null, [])) (y_s := (83, [some (.ref _), some (.int _), some (.int _), none], [.ref _, .ref _], _)) rfl (u_ rfl) ?_
          refine w20 (pc := 83) (len_s := 3) rfl ?_
          refine w_t (pc := 86) (e_s := (1, 1, 2, 0, 0, .null, [])) (y_s := (87, [some (.ref _), some (.int _), some (.int _), none], [.int _, .int _, .ref _], _)) rfl (u_ rfl) ?_
          refine wcI (pc := 87) (len_s := 3) rfl rfl (l := [some (.ref _), some (.int _), some (.int _)]) rfl (wmI t_s (fun v15 h15 hk t_s => ?_))
          replace t_s := t_s hk
          refine w_t (pc := 90) (e_s := (0, 1, 0, 0, 0, .int 2, [])) (y_s := (91, [some (.ref _), some (.int _), some (.int _), none], [.int _, .int _], _)) rfl (u_ rfl) ?_
          refine w_t (pc := 91) (e_s := (7, 1, 0, 2, 0, .null, [])) (y_s := (92, [some (.ref _), some (.int _), some (.int _), none], [.int (_ * _)], _)) rfl (u_ rfl) ?_
          exact wrI (pc := 92) (len_s := 1) rfl hk t_s
/-- ColdShodModel.nailsAs(II)I, from 0 on -/
theorem sg_224_0 {F_s : Nat} {x1_s x2_s : Int32} {h_s : zH} {K_s : Int32 → zH → Prop} (hk : hKn h_s) (t_s : (x1_s.toInt = 3 → wF F_s 221 (0, [some (.ref 102), some (.int 40)], [], h_s) (gV (fun h2 => hKn h2 → wF F_s 224 (0, [some (.ref 102), some (.int 2), some (.int x2_s), none], [], h2) (gI (fun v3 h3 => hKn h3 → K_s (v3 * 3) h3))))) ∧ (¬ x1_s.toInt = 3 → ((x1_s.toInt = 5 → wF F_s 221 (0, [some (.ref 102), some (.int 40)], [], h_s) (gV (fun h5 => hKn h5 → wF F_s 224 (0, [some (.ref 102), some (.int 2), some (.int x2_s), none], [], h5) (gI (fun v6 h6 => hKn h6 → K_s (v6 * 3) h6))))) ∧ (¬ x1_s.toInt = 5 → ((x1_s.toInt = 4 → wF F_s 221 (0, [some (.ref 102), some (.int 50)], [], h_s) (gV (fun h8 => hKn h8 → wF F_s 224 (0, [some (.ref 102), some (.int 1), some (.int x2_s), none], [], h8) (gI (fun v9 h9 => hKn h9 → wF F_s 222 (0, [some (.ref 102), some (.int (h9.2.1 102 43)), some (.int 2)], [], h9) (gI (fun v10 h10 => hKn h10 → K_s (v9 - v10) h10))))))) ∧ (¬ x1_s.toInt = 4 → ((x1_s.toInt = 7 → wF F_s 221 (0, [some (.ref 102), some (.int 50)], [], h_s) (gV (fun h12 => hKn h12 → wF F_s 224 (0, [some (.ref 102), some (.int 1), some (.int x2_s), none], [], h12) (gI (fun v13 h13 => hKn h13 → wF F_s 222 (0, [some (.ref 102), some (.int (h13.2.1 102 43)), some (.int 2)], [], h13) (gI (fun v14 h14 => hKn h14 → K_s (v13 - v14) h14))))))) ∧ (¬ x1_s.toInt = 7 → wF F_s 221 (0, [some (.ref 102), some (.int 11)], [], h_s) (gV (fun h15 => hKn h15 → K_s (x2_s ^^^ (h15.2.1 102 44)) h15)))))))))) : wF (F_s + 1) 224 (0, [some (.ref 102), some (.int x1_s), some (.int x2_s), none], [], h_s) (gI K_s) := by
  refine w_0 (pc := 0) (e_s := (1, 1, 1, 0, 0, .null, [])) (y_s := (1, [some (.ref _), some (.int _), some (.int _), none], [.int _], _)) rfl (u_ rfl) ?_
  refine w_t (pc := 1) (e_s := (0, 1, 0, 0, 0, .int 3, [])) (y_s := (2, [some (.ref _), some (.int _), some (.int _), none], [.int _, .int _], _)) rfl (u_ rfl) ?_
  refine wi0 (pc := 2) (len_s := 3) (Y := 3) rfl rfl (by decide) (fun c1_s => ?_) (fun c1_s => ?_)
  · replace t_s := t_s.1 c1_s
    refine w_t (pc := 10) (e_s := (3, 1, 0, 0, 0, .null, [])) (y_s := (11, [some (.ref _), some (.int _), some (.int _), none], [.ref _], _)) rfl (u_ rfl) ?_
    refine w_t (pc := 11) (e_s := (0, 2, 0, 0, 0, .int 40, [])) (y_s := (13, [some (.ref _), some (.int _), some (.int _), none], [.int _, .ref _], _)) rfl (u_ rfl) ?_
    refine wcV (pc := 13) (len_s := 3) rfl rfl (l := [some (.ref _), some (.int _)]) rfl (wmV t_s (fun h2 hk t_s => ?_))
    replace t_s := t_s hk
    refine w_t (pc := 16) (e_s := (3, 1, 0, 0, 0, .null, [])) (y_s := (17, [some (.ref _), some (.int _), some (.int _), none], [.ref _], _)) rfl (u_ rfl) ?_
    refine w_t (pc := 17) (e_s := (0, 1, 0, 0, 0, .int 2, [])) (y_s := (18, [some (.ref _), some (.int _), some (.int _), none], [.int _, .ref _], _)) rfl (u_ rfl) ?_
    refine w_t (pc := 18) (e_s := (1, 1, 2, 0, 0, .null, [])) (y_s := (19, [some (.ref _), some (.int _), some (.int _), none], [.int _, .int _, .ref _], _)) rfl (u_ rfl) ?_
    refine wcI (pc := 19) (len_s := 3) rfl rfl (l := [some (.ref _), some (.int _), some (.int _), none]) rfl (wmI t_s (fun v3 h3 hk t_s => ?_))
    replace t_s := t_s hk
    refine w_t (pc := 22) (e_s := (0, 1, 0, 0, 0, .int 3, [])) (y_s := (23, [some (.ref _), some (.int _), some (.int _), none], [.int _, .int _], _)) rfl (u_ rfl) ?_
    refine w_t (pc := 23) (e_s := (7, 1, 0, 2, 0, .null, [])) (y_s := (24, [some (.ref _), some (.int _), some (.int _), none], [.int (_ * _)], _)) rfl (u_ rfl) ?_
    exact wrI (pc := 24) (len_s := 1) rfl hk t_s
  · replace t_s := t_s.2 c1_s
    refine w_t (pc := 5) (e_s := (1, 1, 1, 0, 0, .null, [])) (y_s := (6, [some (.ref _), some (.int _), some (.int _), none], [.int _], _)) rfl (u_ rfl) ?_
    refine w_t (pc := 6) (e_s := (0, 1, 0, 0, 0, .int 5, [])) (y_s := (7, [some (.ref _), some (.int _), some (.int _), none], [.int _, .int _], _)) rfl (u_ rfl) ?_
    refine wi1 (pc := 7) (len_s := 3) (Y := 5) rfl rfl (by decide) (fun c4_s => ?_) (fun c4_s => ?_)
    · replace t_s := t_s.1 c4_s
      refine w_t (pc := 10) (e_s := (3, 1, 0, 0, 0, .null, [])) (y_s := (11, [some (.ref _), some (.int _), some (.int _), none], [.ref _], _)) rfl (u_ rfl) ?_
      refine w_t (pc := 11) (e_s := (0, 2, 0, 0, 0, .int 40, [])) (y_s := (13, [some (.ref _), some (.int _), some (.int _), none], [.int _, .ref _], _)) rfl (u_ rfl) ?_
      refine wcV (pc := 13) (len_s := 3) rfl rfl (l := [some (.ref _), some (.int _)]) rfl (wmV t_s (fun h5 hk t_s => ?_))
      replace t_s := t_s hk
      refine w_t (pc := 16) (e_s := (3, 1, 0, 0, 0, .null, [])) (y_s := (17, [some (.ref _), some (.int _), some (.int _), none], [.ref _], _)) rfl (u_ rfl) ?_
      refine w_t (pc := 17) (e_s := (0, 1, 0, 0, 0, .int 2, [])) (y_s := (18, [some (.ref _), some (.int _), some (.int _), none], [.int _, .ref _], _)) rfl (u_ rfl) ?_
      refine w_t (pc := 18) (e_s := (1, 1, 2, 0, 0, .null, [])) (y_s := (19, [some (.ref _), some (.int _), some (.int _), none], [.int _, .int _, .ref _], _)) rfl (u_ rfl) ?_
      refine wcI (pc := 19) (len_s := 3) rfl rfl (l := [some (.ref _), some (.int _), some (.int _), none]) rfl (wmI t_s (fun v6 h6 hk t_s => ?_))
      replace t_s := t_s hk
      refine w_t (pc := 22) (e_s := (0, 1, 0, 0, 0, .int 3, [])) (y_s := (23, [some (.ref _), some (.int _), some (.int _), none], [.int _, .int _], _)) rfl (u_ rfl) ?_
      refine w_t (pc := 23) (e_s := (7, 1, 0, 2, 0, .null, [])) (y_s := (24, [some (.ref _), some (.int _), some (.int _), none], [.int (_ * _)], _)) rfl (u_ rfl) ?_
      exact wrI (pc := 24) (len_s := 1) rfl hk t_s
    · replace t_s := t_s.2 c4_s
      refine w_t (pc := 25) (e_s := (1, 1, 1, 0, 0, .null, [])) (y_s := (26, [some (.ref _), some (.int _), some (.int _), none], [.int _], _)) rfl (u_ rfl) ?_
      refine w_t (pc := 26) (e_s := (0, 1, 0, 0, 0, .int 4, [])) (y_s := (27, [some (.ref _), some (.int _), some (.int _), none], [.int _, .int _], _)) rfl (u_ rfl) ?_
      refine wi0 (pc := 27) (len_s := 3) (Y := 4) rfl rfl (by decide) (fun c7_s => ?_) (fun c7_s => ?_)
      · replace t_s := t_s.1 c7_s
        refine w_t (pc := 36) (e_s := (3, 1, 0, 0, 0, .null, [])) (y_s := (37, [some (.ref _), some (.int _), some (.int _), none], [.ref _], _)) rfl (u_ rfl) ?_
        refine w_t (pc := 37) (e_s := (0, 2, 0, 0, 0, .int 50, [])) (y_s := (39, [some (.ref _), some (.int _), some (.int _), none], [.int _, .ref _], _)) rfl (u_ rfl) ?_
        refine wcV (pc := 39) (len_s := 3) rfl rfl (l := [some (.ref _), some (.int _)]) rfl (wmV t_s (fun h8 hk t_s => ?_))
        replace t_s := t_s hk
        refine w_t (pc := 42) (e_s := (3, 1, 0, 0, 0, .null, [])) (y_s := (43, [some (.ref _), some (.int _), some (.int _), none], [.ref _], _)) rfl (u_ rfl) ?_
        refine w_t (pc := 43) (e_s := (0, 1, 0, 0, 0, .int 1, [])) (y_s := (44, [some (.ref _), some (.int _), some (.int _), none], [.int _, .ref _], _)) rfl (u_ rfl) ?_
        refine w_t (pc := 44) (e_s := (1, 1, 2, 0, 0, .null, [])) (y_s := (45, [some (.ref _), some (.int _), some (.int _), none], [.int _, .int _, .ref _], _)) rfl (u_ rfl) ?_
        refine wcI (pc := 45) (len_s := 3) rfl rfl (l := [some (.ref _), some (.int _), some (.int _), none]) rfl (wmI t_s (fun v9 h9 hk t_s => ?_))
        replace t_s := t_s hk
        refine w_t (pc := 48) (e_s := (4, 1, 3, 0, 0, .null, [])) (y_s := (49, [some (.ref _), some (.int _), some (.int _), some (.int _)], [], _)) rfl (u_ rfl) ?_
        refine w_t (pc := 49) (e_s := (1, 1, 3, 0, 0, .null, [])) (y_s := (50, [some (.ref _), some (.int _), some (.int _), some (.int _)], [.int _], _)) rfl (u_ rfl) ?_
        refine w_t (pc := 50) (e_s := (3, 1, 0, 0, 0, .null, [])) (y_s := (51, [some (.ref _), some (.int _), some (.int _), some (.int _)], [.ref _, .int _], _)) rfl (u_ rfl) ?_
        refine w_t (pc := 51) (e_s := (3, 1, 0, 0, 0, .null, [])) (y_s := (52, [some (.ref _), some (.int _), some (.int _), some (.int _)], [.ref _, .ref _, .int _], _)) rfl (u_ rfl) ?_
        refine w20 (pc := 52) (len_s := 3) rfl ?_
        refine w_t (pc := 55) (e_s := (0, 1, 0, 0, 0, .int 2, [])) (y_s := (56, [some (.ref _), some (.int _), some (.int _), some (.int _)], [.int _, .int _, .ref _, .int _], _)) rfl (u_ rfl) ?_
        refine wcI (pc := 56) (len_s := 3) rfl rfl (l := [some (.ref _), some (.int _), some (.int _)]) rfl (wmI t_s (fun v10 h10 hk t_s => ?_))
        replace t_s := t_s hk
        refine w_t (pc := 59) (e_s := (7, 1, 0, 1, 0, .null, [])) (y_s := (60, [some (.ref _), some (.int _), some (.int _), some (.int _)], [.int (_ - _)], _)) rfl (u_ rfl) ?_
        exact wrI (pc := 60) (len_s := 1) rfl hk t_s
      · replace t_s := t_s.2 c7_s
        refine w_t (pc := 30) (e_s := (1, 1, 1, 0, 0, .null, [])) (y_s := (31, [some (.ref _), some (.int _), some (.int _), none], [.int _], _)) rfl (u_ rfl) ?_
        refine w_t (pc := 31) (e_s := (0, 2, 0, 0, 0, .int 7, [])) (y_s := (33, [some (.ref _), some (.int _), some (.int _), none], [.int _, .int _], _)) rfl (u_ rfl) ?_
        refine wi1 (pc := 33) (len_s := 3) (Y := 7) rfl rfl (by decide) (fun c11 => ?_) (fun c11 => ?_)
        · replace t_s := t_s.1 c11
          refine w_t (pc := 36) (e_s := (3, 1, 0, 0, 0, .null, [])) (y_s := (37, [some (.ref _), some (.int _), some (.int _), none], [.ref _], _)) rfl (u_ rfl) ?_
          refine w_t (pc := 37) (e_s := (0, 2, 0, 0, 0, .int 50, [])) (y_s := (39, [some (.ref _), some (.int _), some (.int _), none], [.int _, .ref _], _)) rfl (u_ rfl) ?_
          refine wcV (pc := 39) (len_s := 3) rfl rfl (l := [some (.ref _), some (.int _)]) rfl (wmV t_s (fun h12 hk t_s => ?_))
          replace t_s := t_s hk
          refine w_t (pc := 42) (e_s := (3, 1, 0, 0, 0, .null, [])) (y_s := (43, [some (.ref _), some (.int _), some (.int _), none], [.ref _], _)) rfl (u_ rfl) ?_
          refine w_t (pc := 43) (e_s := (0, 1, 0, 0, 0, .int 1, [])) (y_s := (44, [some (.ref _), some (.int _), some (.int _), none], [.int _, .ref _], _)) rfl (u_ rfl) ?_
          refine w_t (pc := 44) (e_s := (1, 1, 2, 0, 0, .null, [])) (y_s := (45, [some (.ref _), some (.int _), some (.int _), none], [.int _, .int _, .ref _], _)) rfl (u_ rfl) ?_
          refine wcI (pc := 45) (len_s := 3) rfl rfl (l := [some (.ref _), some (.int _), some (.int _), none]) rfl (wmI t_s (fun v13 h13 hk t_s => ?_))
          replace t_s := t_s hk
          refine w_t (pc := 48) (e_s := (4, 1, 3, 0, 0, .null, [])) (y_s := (49, [some (.ref _), some (.int _), some (.int _), some (.int _)], [], _)) rfl (u_ rfl) ?_
          refine w_t (pc := 49) (e_s := (1, 1, 3, 0, 0, .null, [])) (y_s := (50, [some (.ref _), some (.int _), some (.int _), some (.int _)], [.int _], _)) rfl (u_ rfl) ?_
          refine w_t (pc := 50) (e_s := (3, 1, 0, 0, 0, .null, [])) (y_s := (51, [some (.ref _), some (.int _), some (.int _), some (.int _)], [.ref _, .int _], _)) rfl (u_ rfl) ?_
          refine w_t (pc := 51) (e_s := (3, 1, 0, 0, 0, .null, [])) (y_s := (52, [some (.ref _), some (.int _), some (.int _), some (.int _)], [.ref _, .ref _, .int _], _)) rfl (u_ rfl) ?_
          refine w20 (pc := 52) (len_s := 3) rfl ?_
          refine w_t (pc := 55) (e_s := (0, 1, 0, 0, 0, .int 2, [])) (y_s := (56, [some (.ref _), some (.int _), some (.int _), some (.int _)], [.int _, .int _, .ref _, .int _], _)) rfl (u_ rfl) ?_
          refine wcI (pc := 56) (len_s := 3) rfl rfl (l := [some (.ref _), some (.int _), some (.int _)]) rfl (wmI t_s (fun v14 h14 hk t_s => ?_))
          replace t_s := t_s hk
          refine w_t (pc := 59) (e_s := (7, 1, 0, 1, 0, .null, [])) (y_s := (60, [some (.ref _), some (.int _), some (.int _), some (.int _)], [.int (_ - _)], _)) rfl (u_ rfl) ?_
          exact wrI (pc := 60) (len_s := 1) rfl hk t_s
        · replace t_s := t_s.2 c11
          refine w_t (pc := 61) (e_s := (3, 1, 0, 0, 0, .null, [])) (y_s := (62, [some (.ref _), some (.int _), some (.int _), none], [.ref _], _)) rfl (u_ rfl) ?_
          refine w_t (pc := 62) (e_s := (0, 2, 0, 0, 0, .int 11, [])) (y_s := (64, [some (.ref _), some (.int _), some (.int _), none], [.int _, .ref _], _)) rfl (u_ rfl) ?_
          refine wcV (pc := 64) (len_s := 3) rfl rfl (l := [some (.ref _), some (.int _)]) rfl (wmV t_s (fun h15 hk t_s => ?_))
          replace t_s := t_s hk
          refine w_t (pc := 67) (e_s := (1, 1, 2, 0, 0, .null, [])) (y_s := (68, [some (.ref _), some (.int _), some (.int _), none], [.int _], _)) rfl (u_ rfl) ?_
          refine w_t (pc := 68) (e_s := (3, 1, 0, 0, 0, .null, [])) (y_s := (69, [some (.ref _), some (.int _), some (.int _), none], [.ref _, .int _], _)) rfl (u_ rfl) ?_
          refine w20 (pc := 69) (len_s := 3) rfl ?_
          refine w_t (pc := 72) (e_s := (7, 1, 0, 5, 0, .null, [])) (y_s := (73, [some (.ref _), some (.int _), some (.int _), none], [.int (_ ^^^ _)], _)) rfl (u_ rfl) ?_
          exact wrI (pc := 73) (len_s := 1) rfl hk t_s
/-- ColdShodModel.tellsAs(II)I, from 0 on -/
theorem sg_225_0 {F_s : Nat} {x1_s x2_s : Int32} {h_s : zH} {K_s : Int32 → zH → Prop} (hk : hKn h_s) (t_s : (x1_s.toInt = 5 → wF F_s 221 (0, [some (.ref 102), some (.int 60)], [], h_s) (gV (fun h2 => hKn h2 → wF F_s 225 (0, [some (.ref 102), some (.int 3), some (.int x2_s), none], [], h2) (gI (fun v3 h3 => hKn h3 → K_s (v3 ^^^ 5) h3))))) ∧ (¬ x1_s.toInt = 5 → ((x1_s.toInt = 7 → wF F_s 221 (0, [some (.ref 102), some (.int 81)], [], h_s) (gV (fun h5 => hKn h5 → wF F_s 225 (0, [some (.ref 102), some (.int 4), some (.int x2_s), none], [], h5) (gI (fun v6 h6 => hKn h6 → K_s (v6 - 1) h6))))) ∧ (¬ x1_s.toInt = 7 → wF F_s 221 (0, [some (.ref 102), some (.int 2)], [], h_s) (gV (fun h7 => hKn h7 → wF F_s 223 (0, [some (.ref 102), some (.int (h7.2.1 102 43)), some (.int x2_s), none], [], h7) (gI (fun v8 h8 => hKn h8 → wF F_s 224 (0, [some (.ref 102), some (.int (h8.2.1 102 43)), some (.int 1), none], [], h8) (gI (fun v9 h9 => hKn h9 → K_s (v8 - v9) h9)))))))))) : wF (F_s + 1) 225 (0, [some (.ref 102), some (.int x1_s), some (.int x2_s), none], [], h_s) (gI K_s) := by
  refine w_0 (pc := 0) (e_s := (1, 1, 1, 0, 0, .null, [])) (y_s := (1, [some (.ref _), some (.int _), some (.int _), none], [.int _], _)) rfl (u_ rfl) ?_
  refine w_t (pc := 1) (e_s := (0, 1, 0, 0, 0, .int 5, [])) (y_s := (2, [some (.ref _), some (.int _), some (.int _), none], [.int _, .int _], _)) rfl (u_ rfl) ?_
  refine wi1 (pc := 2) (len_s := 3) (Y := 5) rfl rfl (by decide) (fun c1_s => ?_) (fun c1_s => ?_)
  · replace t_s := t_s.1 c1_s
    refine w_t (pc := 5) (e_s := (3, 1, 0, 0, 0, .null, [])) (y_s := (6, [some (.ref _), some (.int _), some (.int _), none], [.ref _], _)) rfl (u_ rfl) ?_
    refine w_t (pc := 6) (e_s := (0, 2, 0, 0, 0, .int 60, [])) (y_s := (8, [some (.ref _), some (.int _), some (.int _), none], [.int _, .ref _], _)) rfl (u_ rfl) ?_
    refine wcV (pc := 8) (len_s := 3) rfl rfl (l := [some (.ref _), some (.int _)]) rfl (wmV t_s (fun h2 hk t_s => ?_))
    replace t_s := t_s hk
    refine w_t (pc := 11) (e_s := (3, 1, 0, 0, 0, .null, [])) (y_s := (12, [some (.ref _), some (.int _), some (.int _), none], [.ref _], _)) rfl (u_ rfl) ?_
    refine w_t (pc := 12) (e_s := (0, 1, 0, 0, 0, .int 3, [])) (y_s := (13, [some (.ref _), some (.int _), some (.int _), none], [.int _, .ref _], _)) rfl (u_ rfl) ?_
    refine w_t (pc := 13) (e_s := (1, 1, 2, 0, 0, .null, [])) (y_s := (14, [some (.ref _), some (.int _), some (.int _), none], [.int _, .int _, .ref _], _)) rfl (u_ rfl) ?_
    refine wcI (pc := 14) (len_s := 3) rfl rfl (l := [some (.ref _), some (.int _), some (.int _), none]) rfl (wmI t_s (fun v3 h3 hk t_s => ?_))
    replace t_s := t_s hk
    refine w_t (pc := 17) (e_s := (0, 1, 0, 0, 0, .int 5, [])) (y_s := (18, [some (.ref _), some (.int _), some (.int _), none], [.int _, .int _], _)) rfl (u_ rfl) ?_
    refine w_t (pc := 18) (e_s := (7, 1, 0, 5, 0, .null, [])) (y_s := (19, [some (.ref _), some (.int _), some (.int _), none], [.int (_ ^^^ _)], _)) rfl (u_ rfl) ?_
    exact wrI (pc := 19) (len_s := 1) rfl hk t_s
  · replace t_s := t_s.2 c1_s
    refine w_t (pc := 20) (e_s := (1, 1, 1, 0, 0, .null, [])) (y_s := (21, [some (.ref _), some (.int _), some (.int _), none], [.int _], _)) rfl (u_ rfl) ?_
    refine w_t (pc := 21) (e_s := (0, 2, 0, 0, 0, .int 7, [])) (y_s := (23, [some (.ref _), some (.int _), some (.int _), none], [.int _, .int _], _)) rfl (u_ rfl) ?_
    refine wi1 (pc := 23) (len_s := 3) (Y := 7) rfl rfl (by decide) (fun c4_s => ?_) (fun c4_s => ?_)
    · replace t_s := t_s.1 c4_s
      refine w_t (pc := 26) (e_s := (3, 1, 0, 0, 0, .null, [])) (y_s := (27, [some (.ref _), some (.int _), some (.int _), none], [.ref _], _)) rfl (u_ rfl) ?_
      refine w_t (pc := 27) (e_s := (0, 2, 0, 0, 0, .int 81, [])) (y_s := (29, [some (.ref _), some (.int _), some (.int _), none], [.int _, .ref _], _)) rfl (u_ rfl) ?_
      refine wcV (pc := 29) (len_s := 3) rfl rfl (l := [some (.ref _), some (.int _)]) rfl (wmV t_s (fun h5 hk t_s => ?_))
      replace t_s := t_s hk
      refine w_t (pc := 32) (e_s := (3, 1, 0, 0, 0, .null, [])) (y_s := (33, [some (.ref _), some (.int _), some (.int _), none], [.ref _], _)) rfl (u_ rfl) ?_
      refine w_t (pc := 33) (e_s := (0, 1, 0, 0, 0, .int 4, [])) (y_s := (34, [some (.ref _), some (.int _), some (.int _), none], [.int _, .ref _], _)) rfl (u_ rfl) ?_
      refine w_t (pc := 34) (e_s := (1, 1, 2, 0, 0, .null, [])) (y_s := (35, [some (.ref _), some (.int _), some (.int _), none], [.int _, .int _, .ref _], _)) rfl (u_ rfl) ?_
      refine wcI (pc := 35) (len_s := 3) rfl rfl (l := [some (.ref _), some (.int _), some (.int _), none]) rfl (wmI t_s (fun v6 h6 hk t_s => ?_))
      replace t_s := t_s hk
      refine w_t (pc := 38) (e_s := (0, 1, 0, 0, 0, .int 1, [])) (y_s := (39, [some (.ref _), some (.int _), some (.int _), none], [.int _, .int _], _)) rfl (u_ rfl) ?_
      refine w_t (pc := 39) (e_s := (7, 1, 0, 1, 0, .null, [])) (y_s := (40, [some (.ref _), some (.int _), some (.int _), none], [.int (_ - _)], _)) rfl (u_ rfl) ?_
      exact wrI (pc := 40) (len_s := 1) rfl hk t_s
    · replace t_s := t_s.2 c4_s
      refine w_t (pc := 41) (e_s := (3, 1, 0, 0, 0, .null, [])) (y_s := (42, [some (.ref _), some (.int _), some (.int _), none], [.ref _], _)) rfl (u_ rfl) ?_
      refine w_t (pc := 42) (e_s := (0, 1, 0, 0, 0, .int 2, [])) (y_s := (43, [some (.ref _), some (.int _), some (.int _), none], [.int _, .ref _], _)) rfl (u_ rfl) ?_
      refine wcV (pc := 43) (len_s := 3) rfl rfl (l := [some (.ref _), some (.int _)]) rfl (wmV t_s (fun h7 hk t_s => ?_))
      replace t_s := t_s hk
      refine w_t (pc := 46) (e_s := (3, 1, 0, 0, 0, .null, [])) (y_s := (47, [some (.ref _), some (.int _), some (.int _), none], [.ref _], _)) rfl (u_ rfl) ?_
      refine w_t (pc := 47) (e_s := (3, 1, 0, 0, 0, .null, [])) (y_s := (48, [some (.ref _), some (.int _), some (.int _), none], [.ref _, .ref _], _)) rfl (u_ rfl) ?_
      refine w20 (pc := 48) (len_s := 3) rfl ?_
      refine w_t (pc := 51) (e_s := (1, 1, 2, 0, 0, .null, [])) (y_s := (52, [some (.ref _), some (.int _), some (.int _), none], [.int _, .int _, .ref _], _)) rfl (u_ rfl) ?_
      refine wcI (pc := 52) (len_s := 3) rfl rfl (l := [some (.ref _), some (.int _), some (.int _), none]) rfl (wmI t_s (fun v8 h8 hk t_s => ?_))
      replace t_s := t_s hk
      refine w_t (pc := 55) (e_s := (4, 1, 3, 0, 0, .null, [])) (y_s := (56, [some (.ref _), some (.int _), some (.int _), some (.int _)], [], _)) rfl (u_ rfl) ?_
      refine w_t (pc := 56) (e_s := (1, 1, 3, 0, 0, .null, [])) (y_s := (57, [some (.ref _), some (.int _), some (.int _), some (.int _)], [.int _], _)) rfl (u_ rfl) ?_
      refine w_t (pc := 57) (e_s := (3, 1, 0, 0, 0, .null, [])) (y_s := (58, [some (.ref _), some (.int _), some (.int _), some (.int _)], [.ref _, .int _], _)) rfl (u_ rfl) ?_
      refine w_t (pc := 58) (e_s := (3, 1, 0, 0, 0, .null, [])) (y_s := (59, [some (.ref _), some (.int _), some (.int _), some (.int _)], [.ref _, .ref _, .int _], _)) rfl (u_ rfl) ?_
      refine w20 (pc := 59) (len_s := 3) rfl ?_
      refine w_t (pc := 62) (e_s := (0, 1, 0, 0, 0, .int 1, [])) (y_s := (63, [some (.ref _), some (.int _), some (.int _), some (.int _)], [.int _, .int _, .ref _, .int _], _)) rfl (u_ rfl) ?_
      refine wcI (pc := 63) (len_s := 3) rfl rfl (l := [some (.ref _), some (.int _), some (.int _), none]) rfl (wmI t_s (fun v9 h9 hk t_s => ?_))
      replace t_s := t_s hk
      refine w_t (pc := 66) (e_s := (7, 1, 0, 1, 0, .null, [])) (y_s := (67, [some (.ref _), some (.int _), some (.int _), some (.int _)], [.int (_ - _)], _)) rfl (u_ rfl) ?_
      exact wrI (pc := 67) (len_s := 1) rfl hk t_s
/-- ColdShod.count(I)I, from 0 on -/
theorem sg_134_0 {F_s : Nat} {x1_s : Int32} {h_s : zH} {K_s : Int32 → zH → Prop} (hk : hKn h_s) (t_s : (x1_s.toInt = 0 → K_s (h_s.2.1 7 6) h_s) ∧ (¬ x1_s.toInt = 0 → (x1_s.toInt = 1 → K_s (h_s.2.1 7 7) h_s) ∧ (¬ x1_s.toInt = 1 → (x1_s.toInt = 2 → K_s (h_s.2.1 7 8) h_s) ∧ (¬ x1_s.toInt = 2 → (x1_s.toInt = 3 → K_s (h_s.2.1 40 1) h_s) ∧ (¬ x1_s.toInt = 3 → (x1_s.toInt = 4 → K_s (h_s.2.1 42 0) h_s) ∧ (¬ x1_s.toInt = 4 → (x1_s.toInt = 5 → K_s (h_s.2.1 47 1) h_s) ∧ (¬ x1_s.toInt = 5 → (x1_s.toInt = 6 → K_s (h_s.2.1 47 2) h_s) ∧ (¬ x1_s.toInt = 6 → K_s (-1) h_s)))))))) : wF (F_s + 1) 134 (0, [some (.ref 6), some (.int x1_s)], [], h_s) (gI K_s) := by
  refine w_0 (pc := 0) (e_s := (1, 1, 1, 0, 0, .null, [])) (y_s := (1, [some (.ref _), some (.int _)], [.int _], _)) rfl (u_ rfl) ?_
  refine wsw (pc := 1) (len_s := 43) rfl ?_
  refine wsc (X_s := 0) rfl (by decide) (fun c1_s => ?_) (fun c1_s => ?_)
  · replace t_s := t_s.1 c1_s
    refine w_t (pc := 44) (e_s := (3, 1, 0, 0, 0, .null, [])) (y_s := (45, [some (.ref _), some (.int _)], [.ref _], _)) rfl (u_ rfl) ?_
    refine w20r (pc := 45) (len_s := 3) (q_s := 7) rfl (krq hk rfl) ?_
    refine w20 (pc := 48) (len_s := 3) rfl ?_
    exact wrI (pc := 51) (len_s := 1) rfl hk t_s
  · replace t_s := t_s.2 c1_s
    refine wsc (X_s := 1) rfl (by decide) (fun c2_s => ?_) (fun c2_s => ?_)
    · replace t_s := t_s.1 c2_s
      refine w_t (pc := 52) (e_s := (3, 1, 0, 0, 0, .null, [])) (y_s := (53, [some (.ref _), some (.int _)], [.ref _], _)) rfl (u_ rfl) ?_
      refine w20r (pc := 53) (len_s := 3) (q_s := 7) rfl (krq hk rfl) ?_
      refine w20 (pc := 56) (len_s := 3) rfl ?_
      exact wrI (pc := 59) (len_s := 1) rfl hk t_s
    · replace t_s := t_s.2 c2_s
      refine wsc (X_s := 2) rfl (by decide) (fun c3_s => ?_) (fun c3_s => ?_)
      · replace t_s := t_s.1 c3_s
        refine w_t (pc := 60) (e_s := (3, 1, 0, 0, 0, .null, [])) (y_s := (61, [some (.ref _), some (.int _)], [.ref _], _)) rfl (u_ rfl) ?_
        refine w20r (pc := 61) (len_s := 3) (q_s := 7) rfl (krq hk rfl) ?_
        refine w20 (pc := 64) (len_s := 3) rfl ?_
        exact wrI (pc := 67) (len_s := 1) rfl hk t_s
      · replace t_s := t_s.2 c3_s
        refine wsc (X_s := 3) rfl (by decide) (fun c4_s => ?_) (fun c4_s => ?_)
        · replace t_s := t_s.1 c4_s
          refine w_t (pc := 68) (e_s := (3, 1, 0, 0, 0, .null, [])) (y_s := (69, [some (.ref _), some (.int _)], [.ref _], _)) rfl (u_ rfl) ?_
          refine w20r (pc := 69) (len_s := 3) (q_s := 40) rfl (krq hk rfl) ?_
          refine w20 (pc := 72) (len_s := 3) rfl ?_
          exact wrI (pc := 75) (len_s := 1) rfl hk t_s
        · replace t_s := t_s.2 c4_s
          refine wsc (X_s := 4) rfl (by decide) (fun c5_s => ?_) (fun c5_s => ?_)
          · replace t_s := t_s.1 c5_s
            refine w_t (pc := 76) (e_s := (3, 1, 0, 0, 0, .null, [])) (y_s := (77, [some (.ref _), some (.int _)], [.ref _], _)) rfl (u_ rfl) ?_
            refine w20r (pc := 77) (len_s := 3) (q_s := 42) rfl (krq hk rfl) ?_
            refine w20 (pc := 80) (len_s := 3) rfl ?_
            exact wrI (pc := 83) (len_s := 1) rfl hk t_s
          · replace t_s := t_s.2 c5_s
            refine wsc (X_s := 5) rfl (by decide) (fun c6_s => ?_) (fun c6_s => ?_)
            · replace t_s := t_s.1 c6_s
              refine w_t (pc := 84) (e_s := (3, 1, 0, 0, 0, .null, [])) (y_s := (85, [some (.ref _), some (.int _)], [.ref _], _)) rfl (u_ rfl) ?_
              refine w20r (pc := 85) (len_s := 3) (q_s := 47) rfl (krq hk rfl) ?_
              refine w20 (pc := 88) (len_s := 3) rfl ?_
              exact wrI (pc := 91) (len_s := 1) rfl hk t_s
            · replace t_s := t_s.2 c6_s
              refine wsc (X_s := 6) rfl (by decide) (fun c7_s => ?_) (fun c7_s => ?_)
              · replace t_s := t_s.1 c7_s
                refine w_t (pc := 92) (e_s := (3, 1, 0, 0, 0, .null, [])) (y_s := (93, [some (.ref _), some (.int _)], [.ref _], _)) rfl (u_ rfl) ?_
                refine w20r (pc := 93) (len_s := 3) (q_s := 47) rfl (krq hk rfl) ?_
                refine w20 (pc := 96) (len_s := 3) rfl ?_
                exact wrI (pc := 99) (len_s := 1) rfl hk t_s
              · replace t_s := t_s.2 c7_s
                show wF _ _ (100, _, _, _) _
                refine w_t (pc := 100) (e_s := (0, 1, 0, 0, 0, .int (-1), [])) (y_s := (101, [some (.ref _), some (.int _)], [.int _], _)) rfl (u_ rfl) ?_
                exact wrI (pc := 101) (len_s := 1) rfl hk t_s
/-- ColdShodModel.count(I)I, from 0 on -/
theorem sg_237_0 {F_s : Nat} {x1_s : Int32} {h_s : zH} {K_s : Int32 → zH → Prop} (hk : hKn h_s) (t_s : (x1_s.toInt = 0 → K_s (h_s.2.1 102 6) h_s) ∧ (¬ x1_s.toInt = 0 → (x1_s.toInt = 1 → K_s (h_s.2.1 102 7) h_s) ∧ (¬ x1_s.toInt = 1 → (x1_s.toInt = 2 → K_s (h_s.2.1 102 8) h_s) ∧ (¬ x1_s.toInt = 2 → (x1_s.toInt = 3 → K_s (h_s.2.1 102 12) h_s) ∧ (¬ x1_s.toInt = 3 → (x1_s.toInt = 4 → K_s (h_s.2.1 102 5) h_s) ∧ (¬ x1_s.toInt = 4 → (x1_s.toInt = 5 → K_s (h_s.2.1 102 39) h_s) ∧ (¬ x1_s.toInt = 5 → (x1_s.toInt = 6 → K_s (h_s.2.1 102 42) h_s) ∧ (¬ x1_s.toInt = 6 → K_s (-1) h_s)))))))) : wF (F_s + 1) 237 (0, [some (.ref 102), some (.int x1_s)], [], h_s) (gI K_s) := by
  refine w_0 (pc := 0) (e_s := (1, 1, 1, 0, 0, .null, [])) (y_s := (1, [some (.ref _), some (.int _)], [.int _], _)) rfl (u_ rfl) ?_
  refine wsw (pc := 1) (len_s := 43) rfl ?_
  refine wsc (X_s := 0) rfl (by decide) (fun c1_s => ?_) (fun c1_s => ?_)
  · replace t_s := t_s.1 c1_s
    refine w_t (pc := 44) (e_s := (3, 1, 0, 0, 0, .null, [])) (y_s := (45, [some (.ref _), some (.int _)], [.ref _], _)) rfl (u_ rfl) ?_
    refine w20 (pc := 45) (len_s := 3) rfl ?_
    exact wrI (pc := 48) (len_s := 1) rfl hk t_s
  · replace t_s := t_s.2 c1_s
    refine wsc (X_s := 1) rfl (by decide) (fun c2_s => ?_) (fun c2_s => ?_)
    · replace t_s := t_s.1 c2_s
      refine w_t (pc := 49) (e_s := (3, 1, 0, 0, 0, .null, [])) (y_s := (50, [some (.ref _), some (.int _)], [.ref _], _)) rfl (u_ rfl) ?_
      refine w20 (pc := 50) (len_s := 3) rfl ?_
      exact wrI (pc := 53) (len_s := 1) rfl hk t_s
    · replace t_s := t_s.2 c2_s
      refine wsc (X_s := 2) rfl (by decide) (fun c3_s => ?_) (fun c3_s => ?_)
      · replace t_s := t_s.1 c3_s
        refine w_t (pc := 54) (e_s := (3, 1, 0, 0, 0, .null, [])) (y_s := (55, [some (.ref _), some (.int _)], [.ref _], _)) rfl (u_ rfl) ?_
        refine w20 (pc := 55) (len_s := 3) rfl ?_
        exact wrI (pc := 58) (len_s := 1) rfl hk t_s
      · replace t_s := t_s.2 c3_s
        refine wsc (X_s := 3) rfl (by decide) (fun c4_s => ?_) (fun c4_s => ?_)
        · replace t_s := t_s.1 c4_s
          refine w_t (pc := 59) (e_s := (3, 1, 0, 0, 0, .null, [])) (y_s := (60, [some (.ref _), some (.int _)], [.ref _], _)) rfl (u_ rfl) ?_
          refine w20 (pc := 60) (len_s := 3) rfl ?_
          exact wrI (pc := 63) (len_s := 1) rfl hk t_s
        · replace t_s := t_s.2 c4_s
          refine wsc (X_s := 4) rfl (by decide) (fun c5_s => ?_) (fun c5_s => ?_)
          · replace t_s := t_s.1 c5_s
            refine w_t (pc := 64) (e_s := (3, 1, 0, 0, 0, .null, [])) (y_s := (65, [some (.ref _), some (.int _)], [.ref _], _)) rfl (u_ rfl) ?_
            refine w20 (pc := 65) (len_s := 3) rfl ?_
            exact wrI (pc := 68) (len_s := 1) rfl hk t_s
          · replace t_s := t_s.2 c5_s
            refine wsc (X_s := 5) rfl (by decide) (fun c6_s => ?_) (fun c6_s => ?_)
            · replace t_s := t_s.1 c6_s
              refine w_t (pc := 69) (e_s := (3, 1, 0, 0, 0, .null, [])) (y_s := (70, [some (.ref _), some (.int _)], [.ref _], _)) rfl (u_ rfl) ?_
              refine w20 (pc := 70) (len_s := 3) rfl ?_
              exact wrI (pc := 73) (len_s := 1) rfl hk t_s
            · replace t_s := t_s.2 c6_s
              refine wsc (X_s := 6) rfl (by decide) (fun c7_s => ?_) (fun c7_s => ?_)
              · replace t_s := t_s.1 c7_s
                refine w_t (pc := 74) (e_s := (3, 1, 0, 0, 0, .null, [])) (y_s := (75, [some (.ref _), some (.int _)], [.ref _], _)) rfl (u_ rfl) ?_
                refine w20 (pc := 75) (len_s := 3) rfl ?_
                exact wrI (pc := 78) (len_s := 1) rfl hk t_s
              · replace t_s := t_s.2 c7_s
                show wF _ _ (79, _, _, _) _
                refine w_t (pc := 79) (e_s := (0, 1, 0, 0, 0, .int (-1), [])) (y_s := (80, [some (.ref _), some (.int _)], [.int _], _)) rfl (u_ rfl) ?_
                exact wrI (pc := 80) (len_s := 1) rfl hk t_s
/-- ColdShod.trace(I)I, from 0 on -/
theorem sg_127_0 {F_s : Nat} {x1_s : Int32} {h_s : zH} {K_s : Int32 → zH → Prop} (hk : hKn h_s) (t_s : (x1_s.toInt < 0 → K_s (-1) h_s) ∧ (¬ x1_s.toInt < 0 → ((x1_s.toInt < (h_s.2.1 47 2).toInt → ((x1_s.toInt < 24 → (zix x1_s < 24 → K_s (h_s.2.1 49 (zix x1_s)) h_s)) ∧ (¬ x1_s.toInt < 24 → K_s (-1) h_s))) ∧ (¬ x1_s.toInt < (h_s.2.1 47 2).toInt → K_s (-1) h_s)))) : wF (F_s + 1) 127 (0, [some (.ref 6), some (.int x1_s)], [], h_s) (gI K_s) := by
  refine w_0 (pc := 0) (e_s := (3, 1, 0, 0, 0, .null, [])) (y_s := (1, [some (.ref _), some (.int _)], [.ref _], _)) rfl (u_ rfl) ?_
  refine w20r (pc := 1) (len_s := 3) (q_s := 47) rfl (krq hk rfl) ?_
  refine w_t (pc := 4) (e_s := (1, 1, 1, 0, 0, .null, [])) (y_s := (5, [some (.ref _), some (.int _)], [.int _, .ref _], _)) rfl (u_ rfl) ?_
  refine wcI (pc := 5) (len_s := 3) rfl rfl (l := [some (.ref _), some (.int _)]) rfl ?_
  refine w_t (pc := 0) (e_s := (1, 1, 1, 0, 0, .null, [])) (y_s := (1, [some (.ref _), some (.int _)], [.int _], _)) rfl (u_ rfl) ?_
  refine wq2 (pc := 1) (len_s := 3) rfl rfl (fun c1_s => ?_) (fun c1_s => ?_)
  · replace t_s := t_s.1 c1_s
    refine w_t (pc := 18) (e_s := (0, 1, 0, 0, 0, .int (-1), [])) (y_s := (19, [some (.ref _), some (.int _)], [.int _], _)) rfl (u_ rfl) ?_
    refine w_t (pc := 19) (e_s := (17, 3, 28, 0, 0, .null, [])) (y_s := (28, [some (.ref _), some (.int _)], [.int _], _)) rfl (u_ rfl) ?_
    refine wrI (pc := 28) (len_s := 1) rfl hk ?_
    show wF _ 127 (8, [some (.ref _), some (.int _)], [.int _], _) _
    exact wrI (pc := 8) (len_s := 1) rfl hk t_s
  · replace t_s := t_s.2 c1_s
    refine w_t (pc := 4) (e_s := (1, 1, 1, 0, 0, .null, [])) (y_s := (5, [some (.ref _), some (.int _)], [.int _], _)) rfl (u_ rfl) ?_
    refine w_t (pc := 5) (e_s := (3, 1, 0, 0, 0, .null, [])) (y_s := (6, [some (.ref _), some (.int _)], [.ref _, .int _], _)) rfl (u_ rfl) ?_
    refine w20 (pc := 6) (len_s := 3) rfl ?_
    refine wi3 (pc := 9) (len_s := 3) rfl rfl rfl (fun c2_s => ?_) (fun c2_s => ?_)
    · replace t_s := t_s.1 c2_s
      refine w_t (pc := 12) (e_s := (1, 1, 1, 0, 0, .null, [])) (y_s := (13, [some (.ref _), some (.int _)], [.int _], _)) rfl (u_ rfl) ?_
      refine w_t (pc := 13) (e_s := (0, 2, 0, 0, 0, .int 24, [])) (y_s := (15, [some (.ref _), some (.int _)], [.int _, .int _], _)) rfl (u_ rfl) ?_
      refine wi2 (pc := 15) (len_s := 3) (Y := 24) rfl rfl (by decide) (fun c3_s => ?_) (fun c3_s => ?_)
      · replace t_s := t_s.1 c3_s
        refine w_t (pc := 22) (e_s := (3, 1, 0, 0, 0, .null, [])) (y_s := (23, [some (.ref _), some (.int _)], [.ref _], _)) rfl (u_ rfl) ?_
        refine w20r (pc := 23) (len_s := 3) (q_s := 49) rfl (krq hk rfl) ?_
        refine w_t (pc := 26) (e_s := (1, 1, 1, 0, 0, .null, [])) (y_s := (27, [some (.ref _), some (.int _)], [.int _, .ref _], _)) rfl (u_ rfl) ?_
        refine w22 (pc := 27) (len_s := 1) rfl (hk.1 49 0 24 rfl rfl) (fun c4_s => ?_)
        replace t_s := t_s c4_s
        refine wrI (pc := 28) (len_s := 1) rfl hk ?_
        show wF _ 127 (8, [some (.ref _), some (.int _)], [.int _], _) _
        exact wrI (pc := 8) (len_s := 1) rfl hk t_s
      · replace t_s := t_s.2 c3_s
        refine w_t (pc := 18) (e_s := (0, 1, 0, 0, 0, .int (-1), [])) (y_s := (19, [some (.ref _), some (.int _)], [.int _], _)) rfl (u_ rfl) ?_
        refine w_t (pc := 19) (e_s := (17, 3, 28, 0, 0, .null, [])) (y_s := (28, [some (.ref _), some (.int _)], [.int _], _)) rfl (u_ rfl) ?_
        refine wrI (pc := 28) (len_s := 1) rfl hk ?_
        show wF _ 127 (8, [some (.ref _), some (.int _)], [.int _], _) _
        exact wrI (pc := 8) (len_s := 1) rfl hk t_s
    · replace t_s := t_s.2 c2_s
      refine w_t (pc := 18) (e_s := (0, 1, 0, 0, 0, .int (-1), [])) (y_s := (19, [some (.ref _), some (.int _)], [.int _], _)) rfl (u_ rfl) ?_
      refine w_t (pc := 19) (e_s := (17, 3, 28, 0, 0, .null, [])) (y_s := (28, [some (.ref _), some (.int _)], [.int _], _)) rfl (u_ rfl) ?_
      refine wrI (pc := 28) (len_s := 1) rfl hk ?_
      show wF _ 127 (8, [some (.ref _), some (.int _)], [.int _], _) _
      exact wrI (pc := 8) (len_s := 1) rfl hk t_s
/-- ColdShodModel.trace(I)I, from 0 on -/
theorem sg_227_0 {F_s : Nat} {x1_s : Int32} {h_s : zH} {K_s : Int32 → zH → Prop} (hk : hKn h_s) (t_s : (x1_s.toInt < 0 → K_s (-1) h_s) ∧ (¬ x1_s.toInt < 0 → ((x1_s.toInt < (h_s.2.1 102 42).toInt → ((x1_s.toInt < 24 → (zix x1_s < 24 → K_s (h_s.2.1 123 (zix x1_s)) h_s)) ∧ (¬ x1_s.toInt < 24 → K_s (-1) h_s))) ∧ (¬ x1_s.toInt < (h_s.2.1 102 42).toInt → K_s (-1) h_s)))) : wF (F_s + 1) 227 (0, [some (.ref 102), some (.int x1_s)], [], h_s) (gI K_s) := by
  refine w_0 (pc := 0) (e_s := (1, 1, 1, 0, 0, .null, [])) (y_s := (1, [some (.ref _), some (.int _)], [.int _], _)) rfl (u_ rfl) ?_
  refine wq2 (pc := 1) (len_s := 3) rfl rfl (fun c1_s => ?_) (fun c1_s => ?_)
  · replace t_s := t_s.1 c1_s
    refine w_t (pc := 27) (e_s := (0, 1, 0, 0, 0, .int (-1), [])) (y_s := (28, [some (.ref _), some (.int _)], [.int _], _)) rfl (u_ rfl) ?_
    exact wrI (pc := 28) (len_s := 1) rfl hk t_s
  · replace t_s := t_s.2 c1_s
    refine w_t (pc := 4) (e_s := (1, 1, 1, 0, 0, .null, [])) (y_s := (5, [some (.ref _), some (.int _)], [.int _], _)) rfl (u_ rfl) ?_
    refine w_t (pc := 5) (e_s := (3, 1, 0, 0, 0, .null, [])) (y_s := (6, [some (.ref _), some (.int _)], [.ref _, .int _], _)) rfl (u_ rfl) ?_
    refine w20 (pc := 6) (len_s := 3) rfl ?_
    refine wi3 (pc := 9) (len_s := 3) rfl rfl rfl (fun c2_s => ?_) (fun c2_s => ?_)
    · replace t_s := t_s.1 c2_s
      refine w_t (pc := 12) (e_s := (1, 1, 1, 0, 0, .null, [])) (y_s := (13, [some (.ref _), some (.int _)], [.int _], _)) rfl (u_ rfl) ?_
      refine w_t (pc := 13) (e_s := (0, 2, 0, 0, 0, .int 24, [])) (y_s := (15, [some (.ref _), some (.int _)], [.int _, .int _], _)) rfl (u_ rfl) ?_
      refine wi3 (pc := 15) (len_s := 3) (Y := 24) rfl rfl (by decide) (fun c3_s => ?_) (fun c3_s => ?_)
      · replace t_s := t_s.1 c3_s
        refine w_t (pc := 18) (e_s := (3, 1, 0, 0, 0, .null, [])) (y_s := (19, [some (.ref _), some (.int _)], [.ref _], _)) rfl (u_ rfl) ?_
        refine w20r (pc := 19) (len_s := 3) (q_s := 123) rfl (krq hk rfl) ?_
        refine w_t (pc := 22) (e_s := (1, 1, 1, 0, 0, .null, [])) (y_s := (23, [some (.ref _), some (.int _)], [.int _, .ref _], _)) rfl (u_ rfl) ?_
        refine w22 (pc := 23) (len_s := 1) rfl (hk.1 123 0 24 rfl rfl) (fun c4_s => ?_)
        replace t_s := t_s c4_s
        refine w_t (pc := 24) (e_s := (17, 3, 28, 0, 0, .null, [])) (y_s := (28, [some (.ref _), some (.int _)], [.int _], _)) rfl (u_ rfl) ?_
        exact wrI (pc := 28) (len_s := 1) rfl hk t_s
      · replace t_s := t_s.2 c3_s
        refine w_t (pc := 27) (e_s := (0, 1, 0, 0, 0, .int (-1), [])) (y_s := (28, [some (.ref _), some (.int _)], [.int _], _)) rfl (u_ rfl) ?_
        exact wrI (pc := 28) (len_s := 1) rfl hk t_s
    · replace t_s := t_s.2 c2_s
      refine w_t (pc := 27) (e_s := (0, 1, 0, 0, 0, .int (-1), [])) (y_s := (28, [some (.ref _), some (.int _)], [.int _], _)) rfl (u_ rfl) ?_
      exact wrI (pc := 28) (len_s := 1) rfl hk t_s
/-! ACTS: class and reference; how many of all. -/
/-- zix of a sum -/
theorem zxq {c_s x_s : Int32} {a_s r_s : Nat} (hc_s : c_s.toInt = (a_s : Int)) (hx : x_s.toInt = (r_s : Int)) (hb_s : a_s + r_s ≤ 3072) : zix (c_s + x_s) = a_s + r_s := by
  have e_s : (c_s + x_s).toInt = ((a_s + r_s : Nat) : Int) := by
    rw [na_add (by omega) (by omega)]
    omega
  have z_s := azix (i := c_s + x_s) (by omega)
  omega
abbrev acSt : Type := Int32 × (Nat → Int32)
noncomputable def bdN (k_s : Nat) : Nat := (zget [1, 10, 11, 2, 20, 0, 0, 0, 0, 30, 0, 0, 0, 41, 40, 0, 0, 0, 50, 0, 0, 0, 0, 60, 70, 0, 0, 0, 0, 80, 0, 81] k_s).getD 0
noncomputable def abI (k_s : Nat) : Int := (zget [-1, 0, 0, 2, 1, 3, 0, 4] k_s).getD 0
noncomputable def psh (b_s : Nat) (s_s : acSt) : acSt := (s_s.1 + 1, if s_s.1.toInt < 24 then (fun k_s => if k_s = zix s_s.1 then Int32.ofNat b_s else s_s.2 k_s) else s_s.2)
noncomputable def clA : Nat → Nat → Nat → Nat
  | 0, t_s, _ => t_s
  | d_s + 1, t_s, a_s => if 0 < t_s ∧ bdN (t_s * 4 + a_s) = 0 then clA d_s (abI t_s).toNat a_s else t_s
noncomputable def acW (kd : Nat) (nm : Int32) (go_s : Nat → Nat → Int32 → acSt → Int32 × acSt) (b_s up_s : Nat) (x_s : Int32) (s_s : acSt) : Int32 × acSt :=
  if b_s = 1 then (x_s + nm, s_s)
  else if b_s = 2 then ((go_s kd 1 x_s s_s).1 - (go_s kd 2 1 (go_s kd 1 x_s s_s).2).1, (go_s kd 2 1 (go_s kd 1 x_s s_s).2).2)
  else if b_s = 10 then ((go_s kd 0 x_s s_s).1 * 2, (go_s kd 0 x_s s_s).2)
  else if b_s = 11 then (x_s ^^^ nm, s_s)
  else if b_s = 20 then ((go_s up_s 0 x_s s_s).1 + 3, (go_s up_s 0 x_s s_s).2)
  else if b_s = 30 then (-(go_s up_s 1 x_s s_s).1, (go_s up_s 1 x_s s_s).2)
  else if b_s = 40 then ((go_s up_s 2 x_s s_s).1 * 3, (go_s up_s 2 x_s s_s).2)
  else if b_s = 41 then go_s up_s 1 (x_s + 1) s_s
  else if b_s = 50 then ((go_s up_s 2 x_s s_s).1 - (go_s kd 0 2 (go_s up_s 2 x_s s_s).2).1, (go_s kd 0 2 (go_s up_s 2 x_s s_s).2).2)
  else if b_s = 60 then ((go_s up_s 3 x_s s_s).1 ^^^ 5, (go_s up_s 3 x_s s_s).2)
  else if b_s = 70 then ((go_s up_s 0 x_s s_s).1 * 2, (go_s up_s 0 x_s s_s).2)
  else if b_s = 80 then ((go_s up_s 1 x_s s_s).1 + (go_s kd 2 2 (go_s up_s 1 x_s s_s).2).1, (go_s kd 2 2 (go_s up_s 1 x_s s_s).2).2)
  else if b_s = 81 then ((go_s up_s 3 x_s s_s).1 - 1, (go_s up_s 3 x_s s_s).2)
  else (0, s_s)
noncomputable def acR (kd : Nat) (nm : Int32) : Nat → Nat → Nat → Int32 → acSt → Int32 × acSt
  | 0, _, _, _, s_s => (0, s_s)
  | d_s + 1, t_s, a_s, x_s, s_s => acW kd nm (acR kd nm d_s) (bdN (clA 8 t_s a_s * 4 + a_s)) (abI (clA 8 t_s a_s)).toNat x_s (psh (bdN (clA 8 t_s a_s * 4 + a_s)) s_s)
/-! the reference's -/
noncomputable def mh0 (nm x_s : Int32) (s_s : acSt) : Int32 × acSt := (x_s + nm, psh 1 s_s)
noncomputable def mhA (nm : Int32) (k_s : Nat) (x_s : Int32) (s_s : acSt) : Int32 × acSt := if k_s = 1 then ((mh0 nm x_s (psh 20 s_s)).1 + 3, (mh0 nm x_s (psh 20 s_s)).2) else if k_s = 4 then ((mh0 nm x_s (psh 20 s_s)).1 + 3, (mh0 nm x_s (psh 20 s_s)).2) else if k_s = 7 then ((mh0 nm x_s (psh 20 s_s)).1 + 3, (mh0 nm x_s (psh 20 s_s)).2) else if k_s = 6 then ((mh0 nm x_s (psh 70 s_s)).1 * 2, (mh0 nm x_s (psh 70 s_s)).2) else mh0 nm x_s s_s
noncomputable def mn0 (nm x_s : Int32) (s_s : acSt) : Int32 × acSt := (x_s ^^^ nm, psh 11 s_s)
noncomputable def mnB (kd : Nat) (nm x_s : Int32) (s_s : acSt) : Int32 × acSt := ((mn0 nm x_s (psh 50 s_s)).1 - (mhA nm kd 2 (mn0 nm x_s (psh 50 s_s)).2).1, (mhA nm kd 2 (mn0 nm x_s (psh 50 s_s)).2).2)
noncomputable def mnA (kd : Nat) (nm : Int32) (k_s : Nat) (x_s : Int32) (s_s : acSt) : Int32 × acSt := if k_s = 3 then ((mn0 nm x_s (psh 40 s_s)).1 * 3, (mn0 nm x_s (psh 40 s_s)).2) else if k_s = 5 then ((mn0 nm x_s (psh 40 s_s)).1 * 3, (mn0 nm x_s (psh 40 s_s)).2) else if k_s = 4 then mnB kd nm x_s s_s else if k_s = 7 then mnB kd nm x_s s_s else mn0 nm x_s s_s
noncomputable def md0 (kd : Nat) (nm x_s : Int32) (s_s : acSt) : Int32 × acSt := ((mhA nm kd x_s (psh 10 s_s)).1 * 2, (mhA nm kd x_s (psh 10 s_s)).2)
noncomputable def md2 (kd : Nat) (nm x_s : Int32) (s_s : acSt) : Int32 × acSt := (-(md0 kd nm x_s (psh 30 s_s)).1, (md0 kd nm x_s (psh 30 s_s)).2)
noncomputable def mdA (kd : Nat) (nm : Int32) (k_s : Nat) (x_s : Int32) (s_s : acSt) : Int32 × acSt := if k_s = 3 then md2 kd nm (x_s + 1) (psh 41 s_s) else if k_s = 5 then md2 kd nm (x_s + 1) (psh 41 s_s) else if k_s = 2 then md2 kd nm x_s s_s else if k_s = 7 then ((md0 kd nm x_s (psh 80 s_s)).1 + (mnA kd nm kd 2 (md0 kd nm x_s (psh 80 s_s)).2).1, (mnA kd nm kd 2 (md0 kd nm x_s (psh 80 s_s)).2).2) else md0 kd nm x_s s_s
noncomputable def mt0 (kd : Nat) (nm x_s : Int32) (s_s : acSt) : Int32 × acSt := ((mdA kd nm kd x_s (psh 2 s_s)).1 - (mnA kd nm kd 1 (mdA kd nm kd x_s (psh 2 s_s)).2).1, (mnA kd nm kd 1 (mdA kd nm kd x_s (psh 2 s_s)).2).2)
noncomputable def mtA (kd : Nat) (nm : Int32) (k_s : Nat) (x_s : Int32) (s_s : acSt) : Int32 × acSt := if k_s = 5 then ((mt0 kd nm x_s (psh 60 s_s)).1 ^^^ 5, (mt0 kd nm x_s (psh 60 s_s)).2) else if k_s = 7 then ((mt0 kd nm x_s (psh 81 s_s)).1 - 1, (mt0 kd nm x_s (psh 81 s_s)).2) else mt0 kd nm x_s s_s
theorem k8_ {k_s : Nat} (h_s : k_s < 8) : k_s = 0 ∨ k_s = 1 ∨ k_s = 2 ∨ k_s = 3 ∨ k_s = 4 ∨ k_s = 5 ∨ k_s = 6 ∨ k_s = 7 := by omega
theorem ac_0 {kd : Nat} {nm x_s : Int32} {s_s : acSt} (h_s : kd < 8) : acR kd nm 31 kd 0 x_s s_s = mhA nm kd x_s s_s := by
  rcases k8_ h_s with e_s | e_s | e_s | e_s | e_s | e_s | e_s | e_s <;> (subst e_s; rfl)
theorem ac_1 {kd : Nat} {nm x_s : Int32} {s_s : acSt} (h_s : kd < 8) : acR kd nm 31 kd 1 x_s s_s = mdA kd nm kd x_s s_s := by
  rcases k8_ h_s with e_s | e_s | e_s | e_s | e_s | e_s | e_s | e_s <;> (subst e_s; rfl)
theorem ac_2 {kd : Nat} {nm x_s : Int32} {s_s : acSt} (h_s : kd < 8) : acR kd nm 31 kd 2 x_s s_s = mnA kd nm kd x_s s_s := by
  rcases k8_ h_s with e_s | e_s | e_s | e_s | e_s | e_s | e_s | e_s <;> (subst e_s; rfl)
theorem ac_3 {kd : Nat} {nm x_s : Int32} {s_s : acSt} (h_s : kd < 8) : acR kd nm 31 kd 3 x_s s_s = mtA kd nm kd x_s s_s := by
  rcases k8_ h_s with e_s | e_s | e_s | e_s | e_s | e_s | e_s | e_s <;> (subst e_s; rfl)
theorem bd_ok : ∀ t_s, t_s < 8 → ∀ a_s, a_s < 4 → bdN (t_s * 4 + a_s) ≤ 81 ∧ (bdN (t_s * 4 + a_s) = 0 ∨ bdN (t_s * 4 + a_s) = 1 ∨ bdN (t_s * 4 + a_s) = 2 ∨ bdN (t_s * 4 + a_s) = 10 ∨ bdN (t_s * 4 + a_s) = 11 ∨ (0 ≤ abI t_s ∧ abI t_s < 8)) ∧ (0 < t_s → 0 ≤ abI t_s ∧ abI t_s < 8) := by decide
section AC_s
variable {h_s : zH} {kd : Nat} {nm : Int32}
noncomputable def tbA (f_s : Nat → Nat → Int32) : Prop := (∀ k_s, k_s < 32 → (f_s 5 k_s).toInt = (bdN k_s : Int)) ∧ ∀ k_s, k_s < 8 → (f_s 4 k_s).toInt = abI k_s
noncomputable def owA (f_s : Nat → Nat → Int32) (kd : Nat) (nm : Int32) : Prop := tbA f_s ∧ (f_s 47 5).toInt = (kd : Int) ∧ f_s 47 4 = nm
noncomputable def frAc (f_s f1_s : Nat → Nat → Int32) : Prop := ∀ o k_s, ¬ (o = 47 ∧ k_s = 2) → ¬ o = 49 → f1_s o k_s = f_s o k_s
theorem owA_fr {f_s f1_s : Nat → Nat → Int32} (e_s : frAc f_s f1_s) (w_s : owA f_s kd nm) : owA f1_s kd nm := by
  obtain ⟨⟨a_s, b_s⟩, c_s, d_s⟩ := w_s
  refine ⟨⟨fun k_s hk => ?_, fun k_s hk => ?_⟩, ?_, ?_⟩
  · rw [e_s _ _ (by omega) (by omega)]
    exact a_s k_s hk
  · rw [e_s _ _ (by omega) (by omega)]
    exact b_s k_s hk
  · rw [e_s _ _ (by omega) (by omega)]
    exact c_s
  · rw [e_s _ _ (by omega) (by omega)]
    exact d_s
noncomputable def sA (f_s : Nat → Nat → Int32) (s_s : acSt) : Prop := f_s 47 2 = s_s.1 ∧ ∀ k_s, k_s < 24 → f_s 49 k_s = s_s.2 k_s
noncomputable def V6 (h_s : zH) (kd : Nat) (nm : Int32) (F_s : Nat) : Prop := ∀ (d_s t_s a_s : Nat) (x1_s x2_s x3 x4_s : Int32) (s_s : acSt) (f_s : Nat → Nat → Int32) (K_s : Int32 → zH → Prop), x1_s.toInt = (t_s : Int) → t_s < 8 → x2_s.toInt = (a_s : Int) → a_s < 4 → x4_s.toInt + (d_s : Int) = 31 → 0 ≤ x4_s.toInt → owA f_s kd nm → sA f_s s_s → (∀ f1_s, sA f1_s (acR kd nm d_s t_s a_s x3 s_s).2 → frAc f_s f1_s → K_s (acR kd nm d_s t_s a_s x3 s_s).1 (h_s.1, f1_s, h_s.2.2.1, h_s.2.2.2)) → wF F_s 6 (0, [some (.ref 47), some (.int x1_s), some (.int x2_s), some (.int x3), some (.int x4_s), none, none], [], (h_s.1, f_s, h_s.2.2.1, h_s.2.2.2)) (gI K_s)
noncomputable def V66 (h_s : zH) (kd : Nat) (nm : Int32) (F_s : Nat) : Prop := ∀ (d_s t_s a_s c_s : Nat) (x1_s x2_s x3 x4_s x5_s x6 : Int32) (s_s : acSt) (f_s : Nat → Nat → Int32) (R_s : Int32 × acSt) (K_s : Int32 → zH → Prop), x5_s.toInt = (t_s : Int) → t_s < 8 → x2_s.toInt = (a_s : Int) → a_s < 4 → x4_s.toInt + (d_s : Int) = 31 → 0 ≤ x4_s.toInt → x6.toInt + (c_s : Int) = 8 → owA f_s kd nm → sA f_s s_s → (d_s = 0 → R_s = (0, s_s)) → (∀ d1_s, d_s = d1_s + 1 → acW kd nm (acR kd nm d1_s) (bdN (clA c_s t_s a_s * 4 + a_s)) (abI (clA c_s t_s a_s)).toNat x3 (psh (bdN (clA c_s t_s a_s * 4 + a_s)) s_s) = R_s) → (∀ f1_s, sA f1_s R_s.2 → frAc f_s f1_s → K_s R_s.1 (h_s.1, f1_s, h_s.2.2.1, h_s.2.2.2)) → wF F_s 6 (6, [some (.ref 47), some (.int x1_s), some (.int x2_s), some (.int x3), some (.int x4_s), some (.int x5_s), some (.int x6)], [], (h_s.1, f_s, h_s.2.2.1, h_s.2.2.2)) (gI K_s)
noncomputable def V7 (h_s : zH) (kd : Nat) (nm : Int32) (F_s : Nat) : Prop := ∀ (d_s b_s u_s : Nat) (x1_s x2_s x3 x4_s : Int32) (s_s : acSt) (f_s : Nat → Nat → Int32) (K_s : Int32 → zH → Prop), x1_s.toInt = (b_s : Int) → x4_s.toInt + (d_s : Int) = 31 → 0 ≤ x4_s.toInt → (b_s = 0 ∨ b_s = 1 ∨ b_s = 2 ∨ b_s = 10 ∨ b_s = 11 ∨ (x2_s.toInt = (u_s : Int) ∧ u_s < 8)) → owA f_s kd nm → sA f_s s_s → (∀ f1_s, sA f1_s (acW kd nm (acR kd nm d_s) b_s u_s x3 s_s).2 → frAc f_s f1_s → K_s (acW kd nm (acR kd nm d_s) b_s u_s x3 s_s).1 (h_s.1, f1_s, h_s.2.2.1, h_s.2.2.2)) → wF F_s 7 (0, [some (.ref 47), some (.int x1_s), some (.int x2_s), some (.int x3), some (.int x4_s)], [], (h_s.1, f_s, h_s.2.2.1, h_s.2.2.2)) (gI K_s)
theorem v6_s {F_s : Nat} (hk : hKn h_s) (i6_s : V66 h_s kd nm F_s) : V6 h_s kd nm (F_s + 1) := fun d_s t_s a_s x1_s x2_s x3 x4_s s_s f_s K_s e1_s ht e2_s ha_s e4_s h4 hw hs t1_s => by
  refine sg_6_0 (h_s := (h_s.1, f_s, h_s.2.2.1, h_s.2.2.2)) hk ?_
  refine i6_s d_s t_s a_s 8 x1_s x2_s x3 x4_s x1_s 0 s_s f_s (acR kd nm d_s t_s a_s x3 s_s) K_s e1_s ht e2_s ha_s e4_s h4 rfl hw hs (fun e_s => ?_) (fun d1_s e_s => ?_) t1_s
  · subst e_s
    rfl
  · subst e_s
    rfl
theorem fA_up {f_s : Nat → Nat → Int32} {s_s : acSt} {b_s : Nat} {v_s : Int32} (hs : sA f_s s_s) (ev_s : v_s.toInt = (b_s : Int)) (hb_s : b_s ≤ 81) : ((f_s 47 2).toInt < 24 → zix (f_s 47 2) < 24 → sA (zup (zup f_s 49 (zix (f_s 47 2)) v_s) 47 2 (f_s 47 2 + 1)) (psh b_s s_s) ∧ frAc f_s (zup (zup f_s 49 (zix (f_s 47 2)) v_s) 47 2 (f_s 47 2 + 1))) ∧ (¬ (f_s 47 2).toInt < 24 → sA (zup f_s 47 2 (f_s 47 2 + 1)) (psh b_s s_s) ∧ frAc f_s (zup f_s 47 2 (f_s 47 2 + 1))) := by
  obtain ⟨s1_s, s2_s⟩ := hs
  have eb : v_s = Int32.ofNat b_s := Int32.toInt_inj.mp (by rw [na_ofn (by omega), ev_s])
  refine ⟨fun c_s c1_s => ⟨⟨?_, fun k_s hk => ?_⟩, fun o k_s w1_s w2_s => by rw [zne_up (by omega), zne_up (by omega)]⟩, fun c_s => ⟨⟨?_, fun k_s hk => ?_⟩, fun o k_s w1_s w2_s => zne_up (by omega)⟩⟩
  · rw [zsame_up, s1_s]
    rfl
  · rw [s1_s] at c_s
    unfold psh
    rw [if_pos c_s, zne_up (by omega), s1_s]
    by_cases ek : k_s = zix s_s.1
    · show _ = if k_s = zix s_s.1 then Int32.ofNat b_s else s_s.2 k_s
      rw [if_pos ek, ek, zsame_up, eb]
    · show _ = if k_s = zix s_s.1 then Int32.ofNat b_s else s_s.2 k_s
      rw [if_neg ek, zne_up (by omega)]
      exact s2_s k_s hk
  · rw [zsame_up, s1_s]
    rfl
  · rw [s1_s] at c_s
    unfold psh
    rw [if_neg c_s, zne_up (by omega)]
    exact s2_s k_s hk
theorem v66_s {F_s : Nat} (hk : hKn h_s) (i7_s : V7 h_s kd nm F_s) (i6_s : V66 h_s kd nm F_s) : V66 h_s kd nm (F_s + 1) := fun d_s t_s a_s c_s x1_s x2_s x3 x4_s x5_s x6 s_s f_s R_s K_s e5_s ht e2_s ha_s e4_s h4 e6_s hw hs hR0 hR t1_s => by
  have z5 := azix (i := x5_s) (by omega)
  have ez5 : zix x5_s = t_s := by omega
  have i4_s : (4 : Int32).toInt = 4 := rfl
  have m4_s : (x5_s * 4).toInt = ((t_s * 4 : Nat) : Int) := by
    rw [na_mul (by rw [i4_s]; omega) (by rw [i4_s]; omega), i4_s]
    omega
  have z4 : zix (x5_s * 4 + x2_s) = t_s * 4 + a_s := zxq m4_s e2_s (by omega)
  have b5 := hw.1.1 (t_s * 4 + a_s) (by omega)
  have b4 := hw.1.2 t_s ht
  obtain ⟨bk1, bk2, bk3⟩ := bd_ok t_s ht a_s ha_s
  refine sg_6_6 (h_s := (h_s.1, f_s, h_s.2.2.1, h_s.2.2.2)) hk ?_
  dsimp only
  rw [ez5, z4, b5]
  -- it is_s the one_s: its body_s runs
  have run_s : clA c_s t_s a_s = t_s → ¬ 30 < x4_s.toInt → ((f_s 47 2).toInt < 24 → (zix (f_s 47 2) < 24 → (t_s < 8 → wF F_s 7 (0, [some (.ref 47), some (.int (f_s 5 (t_s * 4 + a_s))), some (.int (f_s 4 t_s)), some (.int x3), some (.int (x4_s + 1))], [], (h_s.1, zup (zup f_s 49 (zix (f_s 47 2)) (f_s 5 (t_s * 4 + a_s))) 47 2 (f_s 47 2 + 1), h_s.2.2.1, h_s.2.2.2)) (gI (fun v12 h12 => hKn h12 → K_s v12 h12))))) ∧ (¬ (f_s 47 2).toInt < 24 → (t_s < 8 → wF F_s 7 (0, [some (.ref 47), some (.int (f_s 5 (t_s * 4 + a_s))), some (.int (f_s 4 t_s)), some (.int x3), some (.int (x4_s + 1))], [], (h_s.1, zup f_s 47 2 (f_s 47 2 + 1), h_s.2.2.1, h_s.2.2.2)) (gI (fun v14 h14 => hKn h14 → K_s v14 h14)))) := fun ec c7_s => by
    obtain ⟨d_s, ed⟩ : ∃ d1_s, d_s = d1_s + 1 := ⟨d_s - 1, by omega⟩
    subst ed
    have hR := hR d_s rfl
    rw [ec] at hR
    have e41_s : (x4_s + 1).toInt + (d_s : Int) = 31 := by
      rw [in1_ (by omega)]
      omega
    have e40 : 0 ≤ (x4_s + 1).toInt := by
      rw [in1_ (by omega)]
      omega
    have u_s := fA_up (f_s := f_s) hs b5 bk1
    have hu : bdN (t_s * 4 + a_s) = 0 ∨ bdN (t_s * 4 + a_s) = 1 ∨ bdN (t_s * 4 + a_s) = 2 ∨ bdN (t_s * 4 + a_s) = 10 ∨ bdN (t_s * 4 + a_s) = 11 ∨ ((f_s 4 t_s).toInt = ((abI t_s).toNat : Int) ∧ (abI t_s).toNat < 8) := by
      rw [b4]
      rcases bk2 with w_s | w_s | w_s | w_s | w_s | w_s
      · exact Or.inl w_s
      · exact Or.inr (Or.inl w_s)
      · exact Or.inr (Or.inr (Or.inl w_s))
      · exact Or.inr (Or.inr (Or.inr (Or.inl w_s)))
      · exact Or.inr (Or.inr (Or.inr (Or.inr (Or.inl w_s))))
      · exact Or.inr (Or.inr (Or.inr (Or.inr (Or.inr ⟨by omega, by omega⟩))))
    have go_s : ∀ g_s : Nat → Nat → Int32, sA g_s (psh (bdN (t_s * 4 + a_s)) s_s) → frAc f_s g_s → wF F_s 7 (0, [some (.ref 47), some (.int (f_s 5 (t_s * 4 + a_s))), some (.int (f_s 4 t_s)), some (.int x3), some (.int (x4_s + 1))], [], (h_s.1, g_s, h_s.2.2.1, h_s.2.2.2)) (gI (fun v12 h12 => hKn h12 → K_s v12 h12)) := fun g_s hg1 hg2 => by
      refine i7_s d_s (bdN (t_s * 4 + a_s)) (abI t_s).toNat _ _ x3 (x4_s + 1) (psh (bdN (t_s * 4 + a_s)) s_s) g_s _ b5 e41_s e40 hu (owA_fr hg2 hw) hg1 (fun f1_s p1_s p2_s => fun _ => ?_)
      rw [hR] at p1_s ⊢
      exact t1_s f1_s p1_s (fun o k_s w1_s w2_s => by rw [p2_s o k_s w1_s w2_s]; exact hg2 o k_s w1_s w2_s)
    exact ⟨fun c9_s => fun c10_s => fun _ => go_s _ (u_s.1 c9_s c10_s).1 (u_s.1 c9_s c10_s).2, fun c9_s => fun _ => go_s _ (u_s.2 c9_s).1 (u_s.2 c9_s).2⟩
  -- too deep_s: it ends_s
  have deep_s : 30 < x4_s.toInt → K_s 0 (h_s.1, f_s, h_s.2.2.1, h_s.2.2.2) := fun c7_s => by
    have w_s := hR0 (by omega)
    subst w_s
    exact t1_s f_s hs (fun _ _ _ _ => rfl)
  refine ⟨fun c1_s => ?_, fun c1_s => ?_⟩
  · obtain ⟨c_s, ec⟩ : ∃ c1_s, c_s = c1_s + 1 := ⟨c_s - 1, by omega⟩
    subst ec
    have e61 : (x6 + 1).toInt + (c_s : Int) = 8 := by
      rw [in1_ (by omega)]
      omega
    refine ⟨fun c2_s => fun _ => ⟨fun c4_s => fun _ => ?_, fun c4_s => ⟨fun c6_s => absurd c6_s (by omega), fun c6_s => ⟨deep_s, fun c7_s => run_s (if_neg (fun w_s => c4_s (by omega))) c7_s⟩⟩⟩, fun c2_s => ⟨fun c15_s => absurd c15_s (by omega), fun c15_s => ⟨deep_s, fun c16 => fun _ => run_s (if_neg (fun w_s => c2_s (by omega))) c16⟩⟩⟩
    have t0_s : 0 < t_s := by omega
    have ab := bk3 t0_s
    have es : clA (c_s + 1) t_s a_s = clA c_s (abI t_s).toNat a_s := if_pos ⟨t0_s, by omega⟩
    rw [es] at hR
    exact i6_s d_s (abI t_s).toNat a_s c_s x1_s x2_s x3 x4_s (f_s 4 t_s) (x6 + 1) s_s f_s R_s K_s (by rw [b4]; omega) (by omega) e2_s ha_s e4_s h4 e61 hw hs hR0 hR t1_s
  · have ec : c_s = 0 := by
      apply Classical.byContradiction
      intro w_s
      omega
    subst ec
    exact ⟨fun c24_s => absurd c24_s (by omega), fun c24_s => ⟨deep_s, fun c25_s => fun _ => run_s rfl c25_s⟩⟩
theorem v7_s {F_s : Nat} (hk : hKn h_s) (hkd : kd < 8) (i6_s : V6 h_s kd nm F_s) : V7 h_s kd nm (F_s + 1) := fun d_s b_s u_s x1_s x2_s x3 x4_s s_s f_s K_s e1_s e4_s h4 hu hw hs t1_s => by
  have own_s : ∀ g_s : Nat → Nat → Int32, owA g_s kd nm → (g_s 47 5).toInt = (kd : Int) := fun g_s w_s => w_s.2.1
  have go_s : ∀ (x1_s x2_s x3 : Int32) (t_s a_s : Nat) (s_s : acSt) (g_s : Nat → Nat → Int32) (K_s : Int32 → zH → Prop), x1_s.toInt = (t_s : Int) → t_s < 8 → x2_s.toInt = (a_s : Int) → a_s < 4 → frAc f_s g_s → sA g_s s_s → (∀ f1_s, sA f1_s (acR kd nm d_s t_s a_s x3 s_s).2 → frAc f_s f1_s → K_s (acR kd nm d_s t_s a_s x3 s_s).1 (h_s.1, f1_s, h_s.2.2.1, h_s.2.2.2)) → wF F_s 6 (0, [some (.ref 47), some (.int x1_s), some (.int x2_s), some (.int x3), some (.int x4_s), none, none], [], (h_s.1, g_s, h_s.2.2.1, h_s.2.2.2)) (gI K_s) := fun x1_s x2_s x3 t_s a_s s_s g_s K_s w1_s w2_s w3_s w4_s w5 w6_s w7_s => i6_s d_s t_s a_s x1_s x2_s x3 x4_s s_s g_s K_s w1_s w2_s w3_s w4_s e4_s h4 (owA_fr w5 hw) w6_s (fun f1_s p1_s p2_s => w7_s f1_s p1_s (fun o k_s q1_s q2_s => by rw [p2_s o k_s q1_s q2_s]; exact w5 o k_s q1_s q2_s))
  have fr0 : frAc f_s f_s := fun _ _ _ _ => rfl
  have fin_s : ∀ (v_s : Int32) (s1_s : acSt) (f1_s : Nat → Nat → Int32), acW kd nm (acR kd nm d_s) b_s u_s x3 s_s = (v_s, s1_s) → sA f1_s s1_s → frAc f_s f1_s → K_s v_s (h_s.1, f1_s, h_s.2.2.1, h_s.2.2.2) := fun v_s s1_s f1_s e_s p1_s p2_s => by
    rw [e_s] at t1_s
    exact t1_s f1_s p1_s p2_s
  refine sg_7_0 (h_s := (h_s.1, f_s, h_s.2.2.1, h_s.2.2.2)) hk ?_
  dsimp only
  rw [e1_s]
  refine ⟨fun c1_s => ?_, fun c1_s => ⟨fun c2_s => ?_, fun c2_s => ⟨fun c5_s => ?_, fun c5_s => ⟨fun c7_s => ?_, fun c7_s => ⟨fun c8_s => ?_, fun c8_s => ⟨fun c10_s => ?_, fun c10_s => ⟨fun c12_s => ?_, fun c12_s => ⟨fun c14_s => ?_, fun c14_s => ⟨fun c16 => ?_, fun c16 => ⟨fun c19_s => ?_, fun c19_s => ⟨fun c21 => ?_, fun c21 => ⟨fun c23_s => ?_, fun c23_s => ⟨fun c26 => ?_, fun c26 => ?_⟩⟩⟩⟩⟩⟩⟩⟩⟩⟩⟩⟩⟩
  · have eb : b_s = 1 := by omega
    subst eb
    rw [hw.2.2]
    exact fin_s _ s_s f_s rfl hs fr0
  · have eb : b_s = 2 := by omega
    subst eb
    refine go_s _ 1 x3 kd 1 s_s f_s _ (own_s f_s hw) hkd rfl (by omega) fr0 hs (fun f1_s p1_s p2_s => fun _ => ?_)
    refine go_s _ 2 1 kd 2 _ f1_s _ (own_s f1_s (owA_fr p2_s hw)) hkd rfl (by omega) p2_s p1_s (fun f2_s q1_s q2_s => fun _ => ?_)
    exact fin_s _ _ f2_s rfl q1_s q2_s
  · have eb : b_s = 10 := by omega
    subst eb
    refine go_s _ 0 x3 kd 0 s_s f_s _ (own_s f_s hw) hkd rfl (by omega) fr0 hs (fun f1_s p1_s p2_s => fun _ => ?_)
    exact fin_s _ _ f1_s rfl p1_s p2_s
  · have eb : b_s = 11 := by omega
    subst eb
    rw [hw.2.2]
    exact fin_s _ s_s f_s rfl hs fr0
  · have eb : b_s = 20 := by omega
    subst eb
    have hu : x2_s.toInt = (u_s : Int) ∧ u_s < 8 := by omega
    refine go_s _ 0 x3 u_s 0 s_s f_s _ hu.1 hu.2 rfl (by omega) fr0 hs (fun f1_s p1_s p2_s => fun _ => ?_)
    exact fin_s _ _ f1_s rfl p1_s p2_s
  · have eb : b_s = 30 := by omega
    subst eb
    have hu : x2_s.toInt = (u_s : Int) ∧ u_s < 8 := by omega
    refine go_s _ 1 x3 u_s 1 s_s f_s _ hu.1 hu.2 rfl (by omega) fr0 hs (fun f1_s p1_s p2_s => fun _ => ?_)
    exact fin_s _ _ f1_s rfl p1_s p2_s
  · have eb : b_s = 40 := by omega
    subst eb
    have hu : x2_s.toInt = (u_s : Int) ∧ u_s < 8 := by omega
    refine go_s _ 2 x3 u_s 2 s_s f_s _ hu.1 hu.2 rfl (by omega) fr0 hs (fun f1_s p1_s p2_s => fun _ => ?_)
    exact fin_s _ _ f1_s rfl p1_s p2_s
  · have eb : b_s = 41 := by omega
    subst eb
    have hu : x2_s.toInt = (u_s : Int) ∧ u_s < 8 := by omega
    refine go_s _ 1 (x3 + 1) u_s 1 s_s f_s _ hu.1 hu.2 rfl (by omega) fr0 hs (fun f1_s p1_s p2_s => fun _ => ?_)
    exact fin_s _ _ f1_s rfl p1_s p2_s
  · have eb : b_s = 50 := by omega
    subst eb
    have hu : x2_s.toInt = (u_s : Int) ∧ u_s < 8 := by omega
    refine go_s _ 2 x3 u_s 2 s_s f_s _ hu.1 hu.2 rfl (by omega) fr0 hs (fun f1_s p1_s p2_s => fun _ => ?_)
    refine go_s _ 0 2 kd 0 _ f1_s _ (own_s f1_s (owA_fr p2_s hw)) hkd rfl (by omega) p2_s p1_s (fun f2_s q1_s q2_s => fun _ => ?_)
    exact fin_s _ _ f2_s rfl q1_s q2_s
  · have eb : b_s = 60 := by omega
    subst eb
    have hu : x2_s.toInt = (u_s : Int) ∧ u_s < 8 := by omega
    refine go_s _ 3 x3 u_s 3 s_s f_s _ hu.1 hu.2 rfl (by omega) fr0 hs (fun f1_s p1_s p2_s => fun _ => ?_)
    exact fin_s _ _ f1_s rfl p1_s p2_s
  · have eb : b_s = 70 := by omega
    subst eb
    have hu : x2_s.toInt = (u_s : Int) ∧ u_s < 8 := by omega
    refine go_s _ 0 x3 u_s 0 s_s f_s _ hu.1 hu.2 rfl (by omega) fr0 hs (fun f1_s p1_s p2_s => fun _ => ?_)
    exact fin_s _ _ f1_s rfl p1_s p2_s
  · have eb : b_s = 80 := by omega
    subst eb
    have hu : x2_s.toInt = (u_s : Int) ∧ u_s < 8 := by omega
    refine go_s _ 1 x3 u_s 1 s_s f_s _ hu.1 hu.2 rfl (by omega) fr0 hs (fun f1_s p1_s p2_s => fun _ => ?_)
    refine go_s _ 2 2 kd 2 _ f1_s _ (own_s f1_s (owA_fr p2_s hw)) hkd rfl (by omega) p2_s p1_s (fun f2_s q1_s q2_s => fun _ => ?_)
    exact fin_s _ _ f2_s rfl q1_s q2_s
  · have eb : b_s = 81 := by omega
    subst eb
    have hu : x2_s.toInt = (u_s : Int) ∧ u_s < 8 := by omega
    refine go_s _ 3 x3 u_s 3 s_s f_s _ hu.1 hu.2 rfl (by omega) fr0 hs (fun f1_s p1_s p2_s => fun _ => ?_)
    exact fin_s _ _ f1_s rfl p1_s p2_s
  · have e0_s : acW kd nm (acR kd nm d_s) b_s u_s x3 s_s = (0, s_s) := by
      unfold acW
      rw [if_neg (by omega), if_neg (by omega), if_neg (by omega), if_neg (by omega), if_neg (by omega), if_neg (by omega), if_neg (by omega), if_neg (by omega), if_neg (by omega), if_neg (by omega), if_neg (by omega), if_neg (by omega), if_neg (by omega)]
    exact fin_s _ _ f_s e0_s hs fr0
theorem v_all (hk : hKn h_s) (hkd : kd < 8) : ∀ F_s, V6 h_s kd nm F_s ∧ V66 h_s kd nm F_s ∧ V7 h_s kd nm F_s
  | 0 => ⟨fun _ _ _ _ _ _ _ _ _ _ _ _ _ _ _ _ _ _ _ => wF_zero, fun _ _ _ _ _ _ _ _ _ _ _ _ _ _ _ _ _ _ _ _ _ _ _ _ _ _ => wF_zero, fun _ _ _ _ _ _ _ _ _ _ _ _ _ _ _ _ _ => wF_zero⟩
  | F_s + 1 => by
    obtain ⟨i1_s, i2_s, i3_s⟩ := v_all hk hkd F_s
    exact ⟨v6_s hk i2_s, v66_s hk i3_s i2_s, v7_s hk hkd i1_s⟩
/-! the reference -/
noncomputable def owM (f_s : Nat → Nat → Int32) (kd : Nat) (nm : Int32) : Prop := (f_s 102 43).toInt = (kd : Int) ∧ f_s 102 44 = nm
noncomputable def frNc (f_s f1_s : Nat → Nat → Int32) : Prop := ∀ o k_s, ¬ (o = 102 ∧ k_s = 42) → ¬ o = 123 → f1_s o k_s = f_s o k_s
theorem owM_fr {f_s f1_s : Nat → Nat → Int32} (e_s : frNc f_s f1_s) (w_s : owM f_s kd nm) : owM f1_s kd nm := by
  refine ⟨?_, ?_⟩
  · rw [e_s _ _ (by omega) (by omega)]
    exact w_s.1
  · rw [e_s _ _ (by omega) (by omega)]
    exact w_s.2
theorem frN_t {f_s f1_s f2_s : Nat → Nat → Int32} (e_s : frNc f_s f1_s) (e1_s : frNc f1_s f2_s) : frNc f_s f2_s := fun o k_s q1_s q2_s => by
  rw [e1_s o k_s q1_s q2_s]
  exact e_s o k_s q1_s q2_s
noncomputable def sM (f_s : Nat → Nat → Int32) (s_s : acSt) : Prop := f_s 102 42 = s_s.1 ∧ ∀ k_s, k_s < 24 → f_s 123 k_s = s_s.2 k_s
/-- what a method of the reference gives: P of its answer and of what ran -/
noncomputable def gM (h_s : zH) (f_s : Nat → Nat → Int32) (R_s : Int32 × acSt) (K_s : Int32 → zH → Prop) : Prop := ∀ f1_s, sM f1_s R_s.2 → frNc f_s f1_s → K_s R_s.1 (h_s.1, f1_s, h_s.2.2.1, h_s.2.2.2)
variable {F_s : Nat} {x1_s x2_s x3 : Int32} {s_s : acSt} {f_s : Nat → Nat → Int32} {K_s : Int32 → zH → Prop} {V : zH → Prop}
theorem sp_221 {b_s : Nat} (hk : hKn h_s) (e1_s : x1_s.toInt = (b_s : Int)) (hb_s : b_s ≤ 81) (hs : sM f_s s_s) (t_s : ∀ f1_s, sM f1_s (psh b_s s_s) → frNc f_s f1_s → V (h_s.1, f1_s, h_s.2.2.1, h_s.2.2.2)) : wF F_s 221 (0, [some (.ref 102), some (.int x1_s)], [], (h_s.1, f_s, h_s.2.2.1, h_s.2.2.2)) (gV V) := by
  obtain ⟨s1_s, s2_s⟩ := hs
  have eb : x1_s = Int32.ofNat b_s := Int32.toInt_inj.mp (by rw [na_ofn (by omega), e1_s])
  refine wF_le (Nat.le_succ F_s) (sg_221_0 (h_s := (h_s.1, f_s, h_s.2.2.1, h_s.2.2.2)) hk ?_)
  dsimp only
  rw [s1_s]
  refine ⟨fun c_s => fun c1_s => t_s _ ⟨?_, fun k_s hk => ?_⟩ (fun o k_s w1_s w2_s => by rw [zne_up (by omega), zne_up (by omega)]), fun c_s => t_s _ ⟨?_, fun k_s hk => ?_⟩ (fun o k_s w1_s w2_s => zne_up (by omega))⟩
  · rw [zsame_up]
    rfl
  · unfold psh
    rw [if_pos c_s, zne_up (by omega)]
    by_cases ek : k_s = zix s_s.1
    · show _ = if k_s = zix s_s.1 then Int32.ofNat b_s else s_s.2 k_s
      rw [if_pos ek, ek, zsame_up, eb]
    · show _ = if k_s = zix s_s.1 then Int32.ofNat b_s else s_s.2 k_s
      rw [if_neg ek, zne_up (by omega)]
      exact s2_s k_s hk
  · rw [zsame_up]
    rfl
  · unfold psh
    rw [if_neg c_s, zne_up (by omega)]
    exact s2_s k_s hk
theorem i20_ : ∀ n_s, n_s < 82 → ((Int32.ofNat n_s).toInt = (n_s : Int)) := fun n_s hn => na_ofn (by omega)
theorem sp_h0 {nm : Int32} (hk : hKn h_s) (e1_s : x1_s.toInt = 0) (hw : f_s 102 44 = nm) (hs : sM f_s s_s) (t_s : gM h_s f_s (mh0 nm x2_s s_s) K_s) : wF F_s 222 (0, [some (.ref 102), some (.int x1_s), some (.int x2_s)], [], (h_s.1, f_s, h_s.2.2.1, h_s.2.2.2)) (gI K_s) := by
  refine wF_le (Nat.le_succ F_s) (sg_222_0 (h_s := (h_s.1, f_s, h_s.2.2.1, h_s.2.2.2)) hk ?_)
  refine ⟨fun c_s => absurd c_s (by omega), fun _ => ⟨fun c_s => absurd c_s (by omega), fun _ => ⟨fun c_s => absurd c_s (by omega), fun _ => ⟨fun c_s => absurd c_s (by omega), fun _ => ?_⟩⟩⟩⟩
  refine sp_221 (b_s := 1) hk rfl (by omega) hs (fun f1_s p1_s p2_s _ => ?_)
  dsimp only
  rw [p2_s 102 44 (by omega) (by omega), hw]
  exact t_s f1_s p1_s p2_s
theorem sp_222 {k_s : Nat} (hk : hKn h_s) (e1_s : x1_s.toInt = (k_s : Int)) (hw : owM f_s kd nm) (hs : sM f_s s_s) (t_s : gM h_s f_s (mhA nm k_s x2_s s_s) K_s) : wF F_s 222 (0, [some (.ref 102), some (.int x1_s), some (.int x2_s)], [], (h_s.1, f_s, h_s.2.2.1, h_s.2.2.2)) (gI K_s) := by
  refine wF_le (Nat.le_succ F_s) (sg_222_0 (h_s := (h_s.1, f_s, h_s.2.2.1, h_s.2.2.2)) hk ?_)
  rw [e1_s]
  have b20 : mhA nm k_s x2_s s_s = ((mh0 nm x2_s (psh 20 s_s)).1 + 3, (mh0 nm x2_s (psh 20 s_s)).2) → wF F_s 221 (0, [some (.ref 102), some (.int 20)], [], (h_s.1, f_s, h_s.2.2.1, h_s.2.2.2)) (gV (fun h2 => hKn h2 → wF F_s 222 (0, [some (.ref 102), some (.int 0), some (.int x2_s)], [], h2) (gI (fun v3 h3 => hKn h3 → K_s (v3 + 3) h3)))) := fun e_s => by
    rw [e_s] at t_s
    refine sp_221 (b_s := 20) hk rfl (by omega) hs (fun f1_s p1_s p2_s _ => ?_)
    exact sp_h0 (h_s := h_s) hk rfl (owM_fr p2_s hw).2 p1_s (fun f2_s q1_s q2_s => fun _ => t_s f2_s q1_s (frN_t p2_s q2_s))
  refine ⟨fun c_s => b20 ?_, fun c1_s => ⟨fun c_s => b20 ?_, fun c4_s => ⟨fun c_s => b20 ?_, fun c7_s => ⟨fun c_s => ?_, fun c6_s => ?_⟩⟩⟩⟩
  · unfold mhA
    rw [if_pos (by omega)]
  · unfold mhA
    rw [if_neg (by omega), if_pos (by omega)]
  · unfold mhA
    rw [if_neg (by omega), if_neg (by omega), if_pos (by omega)]
  · have e_s : mhA nm k_s x2_s s_s = ((mh0 nm x2_s (psh 70 s_s)).1 * 2, (mh0 nm x2_s (psh 70 s_s)).2) := by
      unfold mhA
      rw [if_neg (by omega), if_neg (by omega), if_neg (by omega), if_pos (by omega)]
    rw [e_s] at t_s
    refine sp_221 (b_s := 70) hk rfl (by omega) hs (fun f1_s p1_s p2_s _ => ?_)
    exact sp_h0 (h_s := h_s) hk rfl (owM_fr p2_s hw).2 p1_s (fun f2_s q1_s q2_s => fun _ => t_s f2_s q1_s (frN_t p2_s q2_s))
  · have e_s : mhA nm k_s x2_s s_s = mh0 nm x2_s s_s := by
      unfold mhA
      rw [if_neg (by omega), if_neg (by omega), if_neg (by omega), if_neg (by omega)]
    rw [e_s] at t_s
    refine sp_221 (b_s := 1) hk rfl (by omega) hs (fun f1_s p1_s p2_s _ => ?_)
    dsimp only
    rw [(owM_fr p2_s hw).2]
    exact t_s f1_s p1_s p2_s
theorem sp_n0 {k_s : Nat} (hk : hKn h_s) (e1_s : x1_s.toInt = (k_s : Int)) (h3 : ¬ k_s = 3) (h5 : ¬ k_s = 5) (h4 : ¬ k_s = 4) (h7 : ¬ k_s = 7) (hw : owM f_s kd nm) (hs : sM f_s s_s) (t_s : gM h_s f_s (mn0 nm x2_s s_s) K_s) : wF F_s 224 (0, [some (.ref 102), some (.int x1_s), some (.int x2_s), none], [], (h_s.1, f_s, h_s.2.2.1, h_s.2.2.2)) (gI K_s) := by
  refine wF_le (Nat.le_succ F_s) (sg_224_0 (h_s := (h_s.1, f_s, h_s.2.2.1, h_s.2.2.2)) hk ?_)
  rw [e1_s]
  refine ⟨fun c_s => absurd c_s (by omega), fun _ => ⟨fun c_s => absurd c_s (by omega), fun _ => ⟨fun c_s => absurd c_s (by omega), fun _ => ⟨fun c_s => absurd c_s (by omega), fun _ => ?_⟩⟩⟩⟩
  refine sp_221 (b_s := 11) hk rfl (by omega) hs (fun f1_s p1_s p2_s _ => ?_)
  dsimp only
  rw [(owM_fr p2_s hw).2]
  exact t_s f1_s p1_s p2_s
theorem sp_224 {k_s : Nat} (hk : hKn h_s) (e1_s : x1_s.toInt = (k_s : Int)) (hw : owM f_s kd nm) (hs : sM f_s s_s) (t_s : gM h_s f_s (mnA kd nm k_s x2_s s_s) K_s) : wF F_s 224 (0, [some (.ref 102), some (.int x1_s), some (.int x2_s), none], [], (h_s.1, f_s, h_s.2.2.1, h_s.2.2.2)) (gI K_s) := by
  have b40 : mnA kd nm k_s x2_s s_s = ((mn0 nm x2_s (psh 40 s_s)).1 * 3, (mn0 nm x2_s (psh 40 s_s)).2) → wF F_s 221 (0, [some (.ref 102), some (.int 40)], [], (h_s.1, f_s, h_s.2.2.1, h_s.2.2.2)) (gV (fun h2 => hKn h2 → wF F_s 224 (0, [some (.ref 102), some (.int 2), some (.int x2_s), none], [], h2) (gI (fun v3 h3 => hKn h3 → K_s (v3 * 3) h3)))) := fun e_s => by
    rw [e_s] at t_s
    refine sp_221 (b_s := 40) hk rfl (by omega) hs (fun f1_s p1_s p2_s _ => ?_)
    exact sp_n0 (h_s := h_s) (k_s := 2) hk rfl (by omega) (by omega) (by omega) (by omega) (owM_fr p2_s hw) p1_s (fun f2_s q1_s q2_s => fun _ => t_s f2_s q1_s (frN_t p2_s q2_s))
  have b50 : mnA kd nm k_s x2_s s_s = mnB kd nm x2_s s_s → wF F_s 221 (0, [some (.ref 102), some (.int 50)], [], (h_s.1, f_s, h_s.2.2.1, h_s.2.2.2)) (gV (fun h8 => hKn h8 → wF F_s 224 (0, [some (.ref 102), some (.int 1), some (.int x2_s), none], [], h8) (gI (fun v9 h9 => hKn h9 → wF F_s 222 (0, [some (.ref 102), some (.int (h9.2.1 102 43)), some (.int 2)], [], h9) (gI (fun v10 h10 => hKn h10 → K_s (v9 - v10) h10)))))) := fun e_s => by
    rw [e_s] at t_s
    refine sp_221 (b_s := 50) hk rfl (by omega) hs (fun f1_s p1_s p2_s _ => ?_)
    refine sp_n0 (h_s := h_s) (k_s := 1) hk rfl (by omega) (by omega) (by omega) (by omega) (owM_fr p2_s hw) p1_s (fun f2_s q1_s q2_s => fun _ => ?_)
    have w2_s := owM_fr (frN_t p2_s q2_s) hw
    exact sp_222 (h_s := h_s) (k_s := kd) hk w2_s.1 w2_s q1_s (fun f3_s r1_s r2 => fun _ => t_s f3_s r1_s (frN_t (frN_t p2_s q2_s) r2))
  refine wF_le (Nat.le_succ F_s) (sg_224_0 (h_s := (h_s.1, f_s, h_s.2.2.1, h_s.2.2.2)) hk ?_)
  rw [e1_s]
  refine ⟨fun c_s => b40 ?_, fun c3_s => ⟨fun c_s => b40 ?_, fun c5_s => ⟨fun c_s => b50 ?_, fun c4_s => ⟨fun c_s => b50 ?_, fun c7_s => ?_⟩⟩⟩⟩
  · unfold mnA
    rw [if_pos (by omega)]
  · unfold mnA
    rw [if_neg (by omega), if_pos (by omega)]
  · unfold mnA
    rw [if_neg (by omega), if_neg (by omega), if_pos (by omega)]
  · unfold mnA
    rw [if_neg (by omega), if_neg (by omega), if_neg (by omega), if_pos (by omega)]
  · have e_s : mnA kd nm k_s x2_s s_s = mn0 nm x2_s s_s := by
      unfold mnA
      rw [if_neg (by omega), if_neg (by omega), if_neg (by omega), if_neg (by omega)]
    rw [e_s] at t_s
    refine sp_221 (b_s := 11) hk rfl (by omega) hs (fun f1_s p1_s p2_s _ => ?_)
    dsimp only
    rw [(owM_fr p2_s hw).2]
    exact t_s f1_s p1_s p2_s
theorem sp_d0 {k_s : Nat} (hk : hKn h_s) (e1_s : x1_s.toInt = (k_s : Int)) (h3 : ¬ k_s = 3) (h5 : ¬ k_s = 5) (h2 : ¬ k_s = 2) (h7 : ¬ k_s = 7) (hw : owM f_s kd nm) (hs : sM f_s s_s) (t_s : gM h_s f_s (md0 kd nm x2_s s_s) K_s) : wF F_s 223 (0, [some (.ref 102), some (.int x1_s), some (.int x2_s), none], [], (h_s.1, f_s, h_s.2.2.1, h_s.2.2.2)) (gI K_s) := by
  refine wF_le (Nat.le_succ F_s) (sg_223_0 (h_s := (h_s.1, f_s, h_s.2.2.1, h_s.2.2.2)) hk ?_)
  rw [e1_s]
  refine ⟨fun c_s => absurd c_s (by omega), fun _ => ⟨fun c_s => absurd c_s (by omega), fun _ => ⟨fun c_s => absurd c_s (by omega), fun _ => ⟨fun c_s => absurd c_s (by omega), fun _ => ?_⟩⟩⟩⟩
  refine sp_221 (b_s := 10) hk rfl (by omega) hs (fun f1_s p1_s p2_s _ => ?_)
  have w1_s := owM_fr p2_s hw
  exact sp_222 (h_s := h_s) (k_s := kd) hk w1_s.1 w1_s p1_s (fun f3_s r1_s r2 => fun _ => t_s f3_s r1_s (frN_t p2_s r2))
theorem sp_d2 (hk : hKn h_s) (e1_s : x1_s.toInt = 2) (hw : owM f_s kd nm) (hs : sM f_s s_s) (t_s : gM h_s f_s (md2 kd nm x2_s s_s) K_s) : wF F_s 223 (0, [some (.ref 102), some (.int x1_s), some (.int x2_s), none], [], (h_s.1, f_s, h_s.2.2.1, h_s.2.2.2)) (gI K_s) := by
  refine wF_le (Nat.le_succ F_s) (sg_223_0 (h_s := (h_s.1, f_s, h_s.2.2.1, h_s.2.2.2)) hk ?_)
  rw [e1_s]
  refine ⟨fun c_s => absurd c_s (by omega), fun _ => ⟨fun c_s => absurd c_s (by omega), fun _ => ⟨fun _ => ?_, fun c_s => absurd rfl c_s⟩⟩⟩
  refine sp_221 (b_s := 30) hk rfl (by omega) hs (fun f1_s p1_s p2_s _ => ?_)
  exact sp_d0 (h_s := h_s) (k_s := 0) hk rfl (by omega) (by omega) (by omega) (by omega) (owM_fr p2_s hw) p1_s (fun f3_s r1_s r2 => fun _ => t_s f3_s r1_s (frN_t p2_s r2))
theorem sp_223 {k_s : Nat} (hk : hKn h_s) (e1_s : x1_s.toInt = (k_s : Int)) (hw : owM f_s kd nm) (hs : sM f_s s_s) (t_s : gM h_s f_s (mdA kd nm k_s x2_s s_s) K_s) : wF F_s 223 (0, [some (.ref 102), some (.int x1_s), some (.int x2_s), none], [], (h_s.1, f_s, h_s.2.2.1, h_s.2.2.2)) (gI K_s) := by
  have b41 : mdA kd nm k_s x2_s s_s = md2 kd nm (x2_s + 1) (psh 41 s_s) → wF F_s 221 (0, [some (.ref 102), some (.int 41)], [], (h_s.1, f_s, h_s.2.2.1, h_s.2.2.2)) (gV (fun h2 => hKn h2 → wF F_s 223 (0, [some (.ref 102), some (.int 2), some (.int (x2_s + 1)), none], [], h2) (gI (fun v3 h3 => hKn h3 → K_s v3 h3)))) := fun e_s => by
    rw [e_s] at t_s
    refine sp_221 (b_s := 41) hk rfl (by omega) hs (fun f1_s p1_s p2_s _ => ?_)
    exact sp_d2 (h_s := h_s) hk rfl (owM_fr p2_s hw) p1_s (fun f2_s q1_s q2_s => fun _ => t_s f2_s q1_s (frN_t p2_s q2_s))
  refine wF_le (Nat.le_succ F_s) (sg_223_0 (h_s := (h_s.1, f_s, h_s.2.2.1, h_s.2.2.2)) hk ?_)
  rw [e1_s]
  refine ⟨fun c_s => b41 ?_, fun c3_s => ⟨fun c_s => b41 ?_, fun c5_s => ⟨fun c_s => ?_, fun c2_s => ⟨fun c_s => ?_, fun c7_s => ?_⟩⟩⟩⟩
  · unfold mdA
    rw [if_pos (by omega)]
  · unfold mdA
    rw [if_neg (by omega), if_pos (by omega)]
  · have e_s : mdA kd nm k_s x2_s s_s = md2 kd nm x2_s s_s := by
      unfold mdA
      rw [if_neg (by omega), if_neg (by omega), if_pos (by omega)]
    rw [e_s] at t_s
    refine sp_221 (b_s := 30) hk rfl (by omega) hs (fun f1_s p1_s p2_s _ => ?_)
    exact sp_d0 (h_s := h_s) (k_s := 0) hk rfl (by omega) (by omega) (by omega) (by omega) (owM_fr p2_s hw) p1_s (fun f3_s r1_s r2 => fun _ => t_s f3_s r1_s (frN_t p2_s r2))
  · have e_s : mdA kd nm k_s x2_s s_s = ((md0 kd nm x2_s (psh 80 s_s)).1 + (mnA kd nm kd 2 (md0 kd nm x2_s (psh 80 s_s)).2).1, (mnA kd nm kd 2 (md0 kd nm x2_s (psh 80 s_s)).2).2) := by
      unfold mdA
      rw [if_neg (by omega), if_neg (by omega), if_neg (by omega), if_pos (by omega)]
    rw [e_s] at t_s
    refine sp_221 (b_s := 80) hk rfl (by omega) hs (fun f1_s p1_s p2_s _ => ?_)
    refine sp_d0 (h_s := h_s) (k_s := 4) hk rfl (by omega) (by omega) (by omega) (by omega) (owM_fr p2_s hw) p1_s (fun f2_s q1_s q2_s => fun _ => ?_)
    have w2_s := owM_fr (frN_t p2_s q2_s) hw
    exact sp_224 (h_s := h_s) (k_s := kd) hk w2_s.1 w2_s q1_s (fun f3_s r1_s r2 => fun _ => t_s f3_s r1_s (frN_t (frN_t p2_s q2_s) r2))
  · have e_s : mdA kd nm k_s x2_s s_s = md0 kd nm x2_s s_s := by
      unfold mdA
      rw [if_neg (by omega), if_neg (by omega), if_neg (by omega), if_neg (by omega)]
    rw [e_s] at t_s
    refine sp_221 (b_s := 10) hk rfl (by omega) hs (fun f1_s p1_s p2_s _ => ?_)
    have w1_s := owM_fr p2_s hw
    exact sp_222 (h_s := h_s) (k_s := kd) hk w1_s.1 w1_s p1_s (fun f3_s r1_s r2 => fun _ => t_s f3_s r1_s (frN_t p2_s r2))
theorem tl0 (hk : hKn h_s) (hw : owM f_s kd nm) (hs : sM f_s s_s) (t_s : gM h_s f_s (mt0 kd nm x2_s s_s) K_s) : wF F_s 221 (0, [some (.ref 102), some (.int 2)], [], (h_s.1, f_s, h_s.2.2.1, h_s.2.2.2)) (gV (fun h7 => hKn h7 → wF F_s 223 (0, [some (.ref 102), some (.int (h7.2.1 102 43)), some (.int x2_s), none], [], h7) (gI (fun v8 h8 => hKn h8 → wF F_s 224 (0, [some (.ref 102), some (.int (h8.2.1 102 43)), some (.int 1), none], [], h8) (gI (fun v9 h9 => hKn h9 → K_s (v8 - v9) h9)))))) := by
  refine sp_221 (b_s := 2) hk rfl (by omega) hs (fun f1_s p1_s p2_s _ => ?_)
  have w1_s := owM_fr p2_s hw
  refine sp_223 (h_s := h_s) (k_s := kd) hk w1_s.1 w1_s p1_s (fun f2_s q1_s q2_s => fun _ => ?_)
  have w2_s := owM_fr (frN_t p2_s q2_s) hw
  exact sp_224 (h_s := h_s) (k_s := kd) hk w2_s.1 w2_s q1_s (fun f3_s r1_s r2 => fun _ => t_s f3_s r1_s (frN_t (frN_t p2_s q2_s) r2))
theorem sp_t0 {k_s : Nat} (hk : hKn h_s) (e1_s : x1_s.toInt = (k_s : Int)) (h5 : ¬ k_s = 5) (h7 : ¬ k_s = 7) (hw : owM f_s kd nm) (hs : sM f_s s_s) (t_s : gM h_s f_s (mt0 kd nm x2_s s_s) K_s) : wF F_s 225 (0, [some (.ref 102), some (.int x1_s), some (.int x2_s), none], [], (h_s.1, f_s, h_s.2.2.1, h_s.2.2.2)) (gI K_s) := by
  refine wF_le (Nat.le_succ F_s) (sg_225_0 (h_s := (h_s.1, f_s, h_s.2.2.1, h_s.2.2.2)) hk ?_)
  rw [e1_s]
  exact ⟨fun c_s => absurd c_s (by omega), fun _ => ⟨fun c_s => absurd c_s (by omega), fun _ => tl0 hk hw hs t_s⟩⟩
theorem sp_225 {k_s : Nat} (hk : hKn h_s) (e1_s : x1_s.toInt = (k_s : Int)) (hw : owM f_s kd nm) (hs : sM f_s s_s) (t_s : gM h_s f_s (mtA kd nm k_s x2_s s_s) K_s) : wF F_s 225 (0, [some (.ref 102), some (.int x1_s), some (.int x2_s), none], [], (h_s.1, f_s, h_s.2.2.1, h_s.2.2.2)) (gI K_s) := by
  refine wF_le (Nat.le_succ F_s) (sg_225_0 (h_s := (h_s.1, f_s, h_s.2.2.1, h_s.2.2.2)) hk ?_)
  rw [e1_s]
  refine ⟨fun c_s => ?_, fun c5_s => ⟨fun c_s => ?_, fun c7_s => ?_⟩⟩
  · have e_s : mtA kd nm k_s x2_s s_s = ((mt0 kd nm x2_s (psh 60 s_s)).1 ^^^ 5, (mt0 kd nm x2_s (psh 60 s_s)).2) := by
      unfold mtA
      rw [if_pos (by omega)]
    rw [e_s] at t_s
    refine sp_221 (b_s := 60) hk rfl (by omega) hs (fun f1_s p1_s p2_s _ => ?_)
    exact sp_t0 (h_s := h_s) (k_s := 3) hk rfl (by omega) (by omega) (owM_fr p2_s hw) p1_s (fun f3_s r1_s r2 => fun _ => t_s f3_s r1_s (frN_t p2_s r2))
  · have e_s : mtA kd nm k_s x2_s s_s = ((mt0 kd nm x2_s (psh 81 s_s)).1 - 1, (mt0 kd nm x2_s (psh 81 s_s)).2) := by
      unfold mtA
      rw [if_neg (by omega), if_pos (by omega)]
    rw [e_s] at t_s
    refine sp_221 (b_s := 81) hk rfl (by omega) hs (fun f1_s p1_s p2_s _ => ?_)
    exact sp_t0 (h_s := h_s) (k_s := 4) hk rfl (by omega) (by omega) (owM_fr p2_s hw) p1_s (fun f3_s r1_s r2 => fun _ => t_s f3_s r1_s (frN_t p2_s r2))
  · have e_s : mtA kd nm k_s x2_s s_s = mt0 kd nm x2_s s_s := by
      unfold mtA
      rw [if_neg (by omega), if_neg (by omega)]
    rw [e_s] at t_s
    exact tl0 hk hw hs t_s
end AC_s
/-! ACTS: what class and reference have in common of them; act, trace, body, count. -/
noncomputable def tAf (f_s : Nat → Nat → Int32) : Prop := tbA f_s ∧ f_s 47 2 = f_s 102 42 ∧ (∀ k_s, k_s < 24 → f_s 49 k_s = f_s 123 k_s) ∧ ∃ n_s : Nat, n_s ≤ 50 ∧ (f_s 47 1).toInt = (n_s : Int) ∧ f_s 102 39 = f_s 47 1 ∧ ∀ k_s, k_s < n_s → f_s 48 k_s = f_s 122 k_s ∧ 0 ≤ (f_s 48 k_s).toInt ∧ (f_s 48 k_s).toInt ≤ 7
noncomputable def tA (h_s : zH) : Prop := tAf h_s.2.1
theorem tAf_z {f_s g_s : Nat → Nat → Int32} (hz : g_s 47 2 = g_s 102 42) (h49 : ∀ k_s, k_s < 24 → g_s 49 k_s = g_s 123 k_s) (e_s : ∀ o k_s, (o = 4 ∨ o = 5 ∨ (o = 47 ∧ k_s = 1) ∨ (o = 102 ∧ k_s = 39) ∨ o = 48 ∨ o = 122) → g_s o k_s = f_s o k_s) (ha_s : tAf f_s) : tAf g_s := by
  obtain ⟨⟨a_s, b_s⟩, _, _, n_s, n1_s, n2_s, n3_s, n4_s⟩ := ha_s
  refine ⟨⟨fun k_s hk => ?_, fun k_s hk => ?_⟩, hz, h49, n_s, n1_s, ?_, ?_, fun k_s hk => ?_⟩
  · rw [e_s 5 k_s (by omega)]
    exact a_s k_s hk
  · rw [e_s 4 k_s (by omega)]
    exact b_s k_s hk
  · rw [e_s 47 1 (by omega)]
    exact n2_s
  · rw [e_s 102 39 (by omega), e_s 47 1 (by omega)]
    exact n3_s
  · rw [e_s 48 k_s (by omega), e_s 122 k_s (by omega)]
    exact n4_s k_s hk
noncomputable def tAok (W_s : aW) : Bool := (((List.range 32).all (fun k_s => !aWf W_s 5 k_s) && (List.range 8).all (fun k_s => !aWf W_s 4 k_s)) && ((!aWf W_s 47 2 && !aWf W_s 102 42) && (!aWf W_s 47 1 && !aWf W_s 102 39))) && ((List.range 24).all (fun k_s => !aWf W_s 49 k_s && !aWf W_s 123 k_s) && (List.range 50).all (fun k_s => !aWf W_s 48 k_s && !aWf W_s 122 k_s))
theorem tA_fr {W_s : aW} (hw : tAok W_s = true) {h_s h1 : zH} (fr_s : aFr (aWf W_s) h_s h1) (ha_s : tA h_s) : tA h1 := by
  unfold tAok at hw
  simp only [Bool.and_eq_true, Bool.not_eq_true', List.all_eq_true, List.mem_range] at hw
  obtain ⟨⟨⟨w5, w4_s⟩, ⟨w1_s, w2_s⟩, w3_s, w6_s⟩, w7_s, w8⟩ := hw
  obtain ⟨⟨a_s, b_s⟩, a2, a3, n_s, n1_s, n2_s, n3_s, n4_s⟩ := ha_s
  refine ⟨⟨fun k_s hk => ?_, fun k_s hk => ?_⟩, ?_, fun k_s hk => ?_, n_s, n1_s, ?_, ?_, fun k_s hk => ?_⟩
  · rw [fr_s.1 5 k_s (w5 k_s hk)]
    exact a_s k_s hk
  · rw [fr_s.1 4 k_s (w4_s k_s hk)]
    exact b_s k_s hk
  · rw [fr_s.1 47 2 w1_s, fr_s.1 102 42 w2_s]
    exact a2
  · rw [fr_s.1 49 k_s (w7_s k_s hk).1, fr_s.1 123 k_s (w7_s k_s hk).2]
    exact a3 k_s hk
  · rw [fr_s.1 47 1 w3_s]
    exact n2_s
  · rw [fr_s.1 102 39 w6_s, fr_s.1 47 1 w3_s]
    exact n3_s
  · rw [fr_s.1 48 k_s (w8 k_s (by omega)).1, fr_s.1 122 k_s (w8 k_s (by omega)).2]
    exact n4_s k_s hk
theorem bd0_ : ∀ k_s, k_s < 32 → bd0.getD k_s 0 = (bdN k_s : Int) := by decide
theorem ab0_ : ∀ k_s, k_s < 8 → ab0.getD k_s 0 = abI k_s := by decide
theorem tA_0 {f_s : Nat → Nat → Int32} (hc_s : hcA1 f_s = true) : tAf f_s := by
  unfold hcA1 at hc_s
  simp only [Bool.and_eq_true, List.all_eq_true, List.mem_range, decide_eq_true_eq] at hc_s
  obtain ⟨⟨c5_s, c4_s⟩, ⟨c1_s, c2_s⟩, c6_s, c7_s⟩ := hc_s
  refine ⟨⟨fun k_s hk => (c5_s k_s hk).trans (bd0_ k_s hk), fun k_s hk => (c4_s k_s hk).trans (ab0_ k_s hk)⟩, c1_s, c2_s, 0, by omega, ?_, ?_, fun k_s hk => absurd hk (Nat.not_lt_zero k_s)⟩
  · rw [c6_s]
    rfl
  · rw [c7_s, c6_s]
theorem hcA1_fr {f_s g_s : Nat → Nat → Int32} (e_s : ∀ o k_s, o ≠ 0 → g_s o k_s = f_s o k_s) (hc_s : hcA1 f_s = true) : hcA1 g_s = true := by
  unfold hcA1 at hc_s ⊢
  simp only [e_s 5 _ (by omega), e_s 4 _ (by omega), e_s 47 _ (by omega), e_s 102 _ (by omega), e_s 49 _ (by omega), e_s 123 _ (by omega)]
  exact hc_s
theorem tA_start {E_s : Nat → Int32} {n_s : Nat} {h_s : zH} (hc_s : hcA h_s = true) : tA (sH E_s n_s [] h_s) := by
  have sv : ∀ o k_s, o ≠ 0 → sov E_s [] h_s.2.1 o k_s = h_s.2.1 o k_s := fun o k_s ho => by rw [sov_nil ho]
  exact tA_0 (f_s := sov E_s [] h_s.2.1) (hcA1_fr sv hc_s)
theorem sbq {c_s : Int32} {n_s : Nat} (hc_s : c_s.toInt = (n_s : Int)) : (c_s - 1).toInt = (n_s : Int) - 1 := by
  have r_s := na_rng c_s
  rw [na_sub (by rw [n1_]; omega) (by rw [n1_]; omega), n1_, hc_s]
section PA_s
variable {F_s : Nat} {h_s : zH} {x1_s x2_s x3 : Int32}
theorem pa_body (hk : hKn h_s) (ha_s : tA h_s) : wF F_s 125 (0, [some (.ref 6), some (.int x1_s)], [], h_s) (gI (fun v_s h1 => wF F_s 219 (0, [some (.ref 102), some (.int x1_s)], [], h1) (gI (fun _ h2 => tA h2)))) := by
  have ha0 := ha_s
  obtain ⟨⟨a_s, b_s⟩, a2, a3, n_s, n1_s, n2_s, n3_s, n4_s⟩ := ha_s
  have n5_s : (h_s.2.1 102 39).toInt = (n_s : Int) := by rw [n3_s]; exact n2_s
  refine sp_125 hk (fun c_s => ?_) (fun c1_s c2_s c3_s => ?_) (fun c1_s c2_s c3_s => ?_)
  · exact sp_219 hk (fun _ => ha0) (fun q1_s q2_s _ => by omega) (fun q1_s q2_s _ => by omega)
  · exact sp_219 hk (fun q_s => by omega) (fun _ _ _ => ha0) (fun _ _ q_s => by omega)
  · have z_s := azix (i := h_s.2.1 47 1) (by omega)
    have ez : zix (h_s.2.1 47 1) = n_s := by omega
    rw [ez]
    have e39 : zup (zup h_s.2.1 48 n_s x1_s) 47 1 (h_s.2.1 47 1 + 1) 102 39 = h_s.2.1 47 1 := by rw [zne_up (by omega), zne_up (by omega)]; exact n3_s
    have e1_s := in1_ (x_s := h_s.2.1 47 1) (by omega)
    refine sp_219 hk (fun q_s => by omega) (fun _ _ q_s => ?_) (fun _ _ q_s => ?_)
    · dsimp only at q_s
      rw [e39] at q_s
      omega
    · dsimp only
      rw [e39, ez]
      show tAf (zup (zup (zup (zup h_s.2.1 48 n_s x1_s) 47 1 (h_s.2.1 47 1 + 1)) 122 n_s x1_s) 102 39 (h_s.2.1 47 1 + 1))
      refine ⟨⟨fun k_s hk1 => ?_, fun k_s hk1 => ?_⟩, ?_, fun k_s hk1 => ?_, n_s + 1, by omega, ?_, ?_, fun k_s hk1 => ?_⟩
      · simp (disch := omega) only [zne_up]
        exact a_s k_s hk1
      · simp (disch := omega) only [zne_up]
        exact b_s k_s hk1
      · simp (disch := omega) only [zne_up]
        exact a2
      · simp (disch := omega) only [zne_up]
        exact a3 k_s hk1
      · rw [zne_up (by omega), zne_up (by omega), zsame_up]
        omega
      · rw [zsame_up, zne_up (by omega), zne_up (by omega), zsame_up]
      · by_cases ek : k_s = n_s
        · rw [ek, zne_up (by omega), zne_up (by omega), zne_up (by omega), zsame_up, zne_up (by omega), zsame_up]
          exact ⟨rfl, c1_s, c2_s⟩
        · rw [zne_up (by omega), zne_up (by omega), zne_up (by omega), zne_up (by omega), zne_up (by omega), zne_up (by omega), zne_up (by omega), zne_up (by omega)]
          exact n4_s k_s (by omega)
theorem pr_body2 (hk : hKn h_s) (hs : tS h_s) (ha_s : tA h_s) : wF F_s 125 (0, [some (.ref 6), some (.int x1_s)], [], h_s) (gI (fun v_s h1 => wF F_s 219 (0, [some (.ref 102), some (.int x1_s)], [], h1) (gI (fun v2 h2 => v_s = v2 ∧ tS h2 ∧ tA h2)))) := wmI (waI (pr_body hk hs) (pa_body hk ha_s)) (fun _ _ _ q_s => wmI (waI q_s.1 q_s.2) (fun _ _ _ r_s => ⟨r_s.1.1, r_s.1.2, r_s.2⟩))
theorem pr_trace (hk : hKn h_s) (ha_s : tA h_s) : wF F_s 127 (0, [some (.ref 6), some (.int x1_s)], [], h_s) (gI (fun v_s h1 => wF F_s 227 (0, [some (.ref 102), some (.int x1_s)], [], h1) (gI (fun v2 _ => v_s = v2)))) := by
  have a2 := ha_s.2.1
  have a3 := ha_s.2.2.1
  refine wF_le (Nat.le_succ F_s) (sg_127_0 (h_s := h_s) hk ?_)
  refine ⟨fun c1_s => ?_, fun c1_s => ⟨fun c2_s => ⟨fun c3_s => fun c4_s => ?_, fun c3_s => ?_⟩, fun c2_s => ?_⟩⟩
  · exact wF_le (Nat.le_succ F_s) (sg_227_0 (h_s := h_s) hk ⟨fun _ => rfl, fun c_s => absurd c1_s c_s⟩)
  · refine wF_le (Nat.le_succ F_s) (sg_227_0 (h_s := h_s) hk ?_)
    rw [← a2]
    exact ⟨fun c_s => absurd c_s c1_s, fun _ => ⟨fun _ => ⟨fun _ => fun _ => a3 _ c4_s, fun c_s => absurd c3_s c_s⟩, fun c_s => absurd c2_s c_s⟩⟩
  · refine wF_le (Nat.le_succ F_s) (sg_227_0 (h_s := h_s) hk ?_)
    rw [← a2]
    exact ⟨fun c_s => absurd c_s c1_s, fun _ => ⟨fun _ => ⟨fun c_s => absurd c_s c3_s, fun _ => rfl⟩, fun c_s => absurd c2_s c_s⟩⟩
  · refine wF_le (Nat.le_succ F_s) (sg_227_0 (h_s := h_s) hk ?_)
    rw [← a2]
    exact ⟨fun c_s => absurd c_s c1_s, fun _ => ⟨fun c_s => absurd c_s c2_s, fun _ => rfl⟩⟩
/-- act -/
noncomputable def okAc (n_s : Nat) (x1_s x2_s : Int32) : Prop := (0 ≤ x1_s.toInt ∧ x1_s.toInt < (n_s : Int)) ∧ 0 ≤ x2_s.toInt ∧ x2_s.toInt ≤ 3
theorem sp_226 {n_s : Nat} {f_s : Nat → Nat → Int32} {K_s : Int32 → zH → Prop} {s_s : acSt} (hk : hKn h_s) (hs0 : s_s.1 = 0) (hs1 : ∀ k_s, k_s < 24 → f_s 123 k_s = s_s.2 k_s) (n5_s : (f_s 102 39).toInt = (n_s : Int)) (nb : n_s ≤ 50) (hkd : ∀ k_s, k_s < n_s → 0 ≤ (f_s 122 k_s).toInt ∧ (f_s 122 k_s).toInt ≤ 7) (t1_s : ¬ okAc n_s x1_s x2_s → ∀ f1_s, f1_s 102 42 = 0 → (∀ o k_s, ¬ (o = 102 ∧ 42 ≤ k_s) → f1_s o k_s = f_s o k_s) → K_s 0 (h_s.1, f1_s, h_s.2.2.1, h_s.2.2.2)) (t2_s : okAc n_s x1_s x2_s → ∀ f1_s, sM f1_s (acR (zix (f_s 122 (zix x1_s))) x1_s 31 (zix (f_s 122 (zix x1_s))) (zix x2_s) x3 s_s).2 → (∀ o k_s, ¬ (o = 102 ∧ 42 ≤ k_s) → ¬ o = 123 → f1_s o k_s = f_s o k_s) → K_s (acR (zix (f_s 122 (zix x1_s))) x1_s 31 (zix (f_s 122 (zix x1_s))) (zix x2_s) x3 s_s).1 (h_s.1, f1_s, h_s.2.2.1, h_s.2.2.2)) : wF F_s 226 (0, [some (.ref 102), some (.int x1_s), some (.int x2_s), some (.int x3)], [], (h_s.1, f_s, h_s.2.2.1, h_s.2.2.2)) (gI K_s) := by
  have e39 : (f_s 102 39 - 1).toInt = (n_s : Int) - 1 := sbq n5_s
  have no_s : ¬ okAc n_s x1_s x2_s → ∀ f1_s, f1_s 102 42 = 0 → (∀ o k_s, ¬ (o = 102 ∧ 42 ≤ k_s) → f1_s o k_s = f_s o k_s) → K_s 0 (h_s.1, f1_s, h_s.2.2.1, h_s.2.2.2) := t1_s
  unfold okAc at no_s
  refine wF_le (Nat.le_succ F_s) (sg_226_0 (h_s := (h_s.1, f_s, h_s.2.2.1, h_s.2.2.2)) hk ?_)
  dsimp only
  rw [e39]
  refine ⟨fun c1_s => no_s (by omega) _ zsame_up (fun o k_s w_s => zne_up (by omega)), fun c1_s => ⟨fun c2_s => no_s (by omega) _ zsame_up (fun o k_s w_s => zne_up (by omega)), fun c2_s => fun c3_s => ?_⟩⟩
  have z1 := azix (i := x1_s) (by omega)
  have kd := hkd (zix x1_s) (by omega)
  have zk := azix (i := f_s 122 (zix x1_s)) (by omega)
  have k8_s : zix (f_s 122 (zix x1_s)) < 8 := by omega
  have ow : owM (zup (zup (zup f_s 102 42 0) 102 43 (f_s 122 (zix x1_s))) 102 44 x1_s) (zix (f_s 122 (zix x1_s))) x1_s := by
    refine ⟨?_, zsame_up⟩
    rw [zne_up (by omega), zsame_up]
    omega
  have sm_s : sM (zup (zup (zup f_s 102 42 0) 102 43 (f_s 122 (zix x1_s))) 102 44 x1_s) s_s := by
    refine ⟨?_, fun k_s hk1 => ?_⟩
    · rw [zne_up (by omega), zne_up (by omega), zsame_up, hs0]
    · rw [zne_up (by omega), zne_up (by omega), zne_up (by omega)]
      exact hs1 k_s hk1
  have fr_s : ∀ f1_s, frNc (zup (zup (zup f_s 102 42 0) 102 43 (f_s 122 (zix x1_s))) 102 44 x1_s) f1_s → ∀ o k_s, ¬ (o = 102 ∧ 42 ≤ k_s) → ¬ o = 123 → f1_s o k_s = f_s o k_s := fun f1_s g_s o k_s w1_s w2_s => by
    rw [g_s o k_s (by omega) w2_s, zne_up (by omega), zne_up (by omega), zne_up (by omega)]
  refine ⟨fun c4_s => ?_, fun c4_s => ⟨fun c6_s => ?_, fun c6_s => ⟨fun c8_s => ?_, fun c8_s => ⟨fun c10_s => ?_, fun c10_s => ?_⟩⟩⟩⟩
  · have za := azix (i := x2_s) (by omega)
    have ea : zix x2_s = 0 := by omega
    have t2_s := t2_s (by unfold okAc; omega)
    rw [ea, ac_0 k8_s] at t2_s
    exact sp_222 (h_s := h_s) (k_s := zix (f_s 122 (zix x1_s))) hk zk.symm ow sm_s (fun f1_s p1_s p2_s => fun _ => t2_s f1_s p1_s (fr_s f1_s p2_s))
  · have za := azix (i := x2_s) (by omega)
    have ea : zix x2_s = 1 := by omega
    have t2_s := t2_s (by unfold okAc; omega)
    rw [ea, ac_1 k8_s] at t2_s
    exact sp_223 (h_s := h_s) (k_s := zix (f_s 122 (zix x1_s))) hk zk.symm ow sm_s (fun f1_s p1_s p2_s => fun _ => t2_s f1_s p1_s (fr_s f1_s p2_s))
  · have za := azix (i := x2_s) (by omega)
    have ea : zix x2_s = 2 := by omega
    have t2_s := t2_s (by unfold okAc; omega)
    rw [ea, ac_2 k8_s] at t2_s
    exact sp_224 (h_s := h_s) (k_s := zix (f_s 122 (zix x1_s))) hk zk.symm ow sm_s (fun f1_s p1_s p2_s => fun _ => t2_s f1_s p1_s (fr_s f1_s p2_s))
  · have za := azix (i := x2_s) (by omega)
    have ea : zix x2_s = 3 := by omega
    have t2_s := t2_s (by unfold okAc; omega)
    rw [ea, ac_3 k8_s] at t2_s
    exact sp_225 (h_s := h_s) (k_s := zix (f_s 122 (zix x1_s))) hk zk.symm ow sm_s (fun f1_s p1_s p2_s => fun _ => t2_s f1_s p1_s (fr_s f1_s p2_s))
  · exact no_s (by omega) _ (by rw [zne_up (by omega), zne_up (by omega), zsame_up]) (fun o k_s w_s => by rw [zne_up (by omega), zne_up (by omega), zne_up (by omega)])
theorem pr_act (hk : hKn h_s) (ha_s : tA h_s) : wF F_s 126 (0, [some (.ref 6), some (.int x1_s), some (.int x2_s), some (.int x3)], [], h_s) (gI (fun v_s h1 => wF F_s 226 (0, [some (.ref 102), some (.int x1_s), some (.int x2_s), some (.int x3)], [], h1) (gI (fun v2 h2 => v_s = v2 ∧ tA h2)))) := by
  have ha0 : tAf h_s.2.1 := ha_s
  obtain ⟨tb_s, a2, a3, n_s, n1_s, n2_s, n3_s, n4_s⟩ := ha_s
  have n5_s : (h_s.2.1 102 39).toInt = (n_s : Int) := by rw [n3_s]; exact n2_s
  have no1 : ¬ okAc n_s x1_s x2_s → wF F_s 226 (0, [some (.ref 102), some (.int x1_s), some (.int x2_s), some (.int x3)], [], (h_s.1, zup h_s.2.1 47 2 0, h_s.2.2.1, h_s.2.2.2)) (gI (fun v2 h2 => (0 : Int32) = v2 ∧ tA h2)) := fun w_s => by
    refine sp_226 (n_s := n_s) (s_s := (0, fun k_s => h_s.2.1 123 k_s)) hk rfl (fun k_s _ => by rw [zne_up (by omega)]) (by rw [zne_up (by omega)]; exact n5_s) n1_s (fun k_s hk1 => ?_) (fun _ f1_s g1 g2 => ⟨rfl, ?_⟩) (fun o => absurd o w_s)
    · rw [zne_up (by omega), ← (n4_s k_s hk1).1]
      exact (n4_s k_s hk1).2
    · show tAf f1_s
      refine tAf_z (f_s := h_s.2.1) ?_ (fun k_s hk1 => ?_) (fun o k_s q_s => ?_) ha0
      · rw [g1, g2 _ _ (by omega), zsame_up]
      · rw [g2 _ _ (by omega), g2 _ _ (by omega), zne_up (by omega), zne_up (by omega)]
        exact a3 k_s hk1
      · rw [g2 _ _ (by omega), zne_up (by omega)]
  have no_s : ¬ okAc n_s x1_s x2_s → wF F_s 226 (0, [some (.ref 102), some (.int x1_s), some (.int x2_s), some (.int x3)], [], (h_s.1, zup h_s.2.1 47 2 0, h_s.2.2.1, h_s.2.2.2)) (gI (fun v2 h2 => (0 : Int32) = v2 ∧ tA h2)) := no1
  unfold okAc at no_s
  refine wF_le (Nat.le_succ F_s) (sg_126_0 (h_s := h_s) hk ?_)
  refine wF_le (Nat.le_succ F_s) (sg_5_0 (h_s := h_s) hk ?_)
  rw [n2_s]
  refine ⟨fun c1_s => fun _ => no_s (by omega), fun c1_s => ⟨fun c2_s => ⟨fun c3_s => fun _ => no_s (by omega), fun c3_s => ⟨fun c4_s => fun _ => no_s (by omega), fun c4_s => fun c5_s => ?_⟩⟩, fun c2_s => fun _ => no_s (by omega)⟩⟩
  have ok_s : okAc n_s x1_s x2_s := by
    unfold okAc
    omega
  have z1 := azix (i := x1_s) (by omega)
  have z2 := azix (i := x2_s) (by omega)
  obtain ⟨k1_s, k2_s, k3_s⟩ := n4_s (zix x1_s) (by omega)
  have zk := azix (i := h_s.2.1 48 (zix x1_s)) (by omega)
  have k8_s : zix (h_s.2.1 48 (zix x1_s)) < 8 := by omega
  refine (v_all (h_s := h_s) (kd := zix (h_s.2.1 48 (zix x1_s))) (nm := x1_s) hk k8_s F_s).1 31 (zix (h_s.2.1 48 (zix x1_s))) (zix x2_s) _ x2_s x3 0 (0, fun k_s => h_s.2.1 49 k_s) _ _ zk.symm k8_s z2.symm (by omega) rfl (by decide) ⟨⟨fun k_s hk1 => ?_, fun k_s hk1 => ?_⟩, ?_, ?_⟩ ⟨?_, fun k_s hk1 => ?_⟩ (fun f1_s p1_s p2_s => fun _ => fun _ => ?_)
  · rw [zne_up (by omega), zne_up (by omega), zne_up (by omega)]
    exact tb_s.1 k_s hk1
  · rw [zne_up (by omega), zne_up (by omega), zne_up (by omega)]
    exact tb_s.2 k_s hk1
  · rw [zsame_up]
    exact zk.symm
  · rw [zne_up (by omega), zsame_up]
  · rw [zne_up (by omega), zne_up (by omega), zsame_up]
  · rw [zne_up (by omega), zne_up (by omega), zne_up (by omega)]
  · have fr1 : ∀ o k_s, ¬ (o = 47 ∧ (k_s = 2 ∨ k_s = 4 ∨ k_s = 5)) → ¬ o = 49 → f1_s o k_s = h_s.2.1 o k_s := fun o k_s w1_s w2_s => by
      rw [p2_s o k_s (by omega) w2_s, zne_up (by omega), zne_up (by omega), zne_up (by omega)]
    have e122_s : ∀ k_s, f1_s 122 k_s = h_s.2.1 122 k_s := fun k_s => fr1 _ _ (by omega) (by omega)
    refine sp_226 (n_s := n_s) (s_s := (0, fun k_s => h_s.2.1 49 k_s)) hk rfl (fun k_s hk1 => ?_) (by rw [fr1 _ _ (by omega) (by omega)]; exact n5_s) n1_s (fun k_s hk1 => ?_) (fun w_s => absurd ok_s w_s) (fun _ f2_s g1 g2 => ?_)
    · rw [fr1 _ _ (by omega) (by omega)]
      exact (a3 k_s hk1).symm
    · rw [e122_s, ← (n4_s k_s hk1).1]
      exact (n4_s k_s hk1).2
    · rw [e122_s, ← k1_s] at g1 ⊢
      refine ⟨rfl, ?_⟩
      show tAf f2_s
      refine tAf_z (f_s := h_s.2.1) ?_ (fun k_s hk1 => ?_) (fun o k_s q_s => ?_) ha0
      · rw [g1.1, g2 _ _ (by omega) (by omega), p1_s.1]
      · rw [g1.2 k_s hk1, g2 _ _ (by omega) (by omega), p1_s.2 k_s hk1]
      · rw [g2 _ _ (by omega) (by omega), fr1 _ _ (by omega) (by omega)]
end PA_s
/-! COUNT. -/
section PC_s
variable {F_s : Nat} {h_s : zH} {x1_s : Int32}
theorem pr_count (hk : hKn h_s) (hs : tS h_s) (ht : tT h_s) (hx : tX h_s) (ha_s : tA h_s) : wF F_s 134 (0, [some (.ref 6), some (.int x1_s)], [], h_s) (gI (fun v_s h1 => wF F_s 237 (0, [some (.ref 102), some (.int x1_s)], [], h1) (gI (fun v2 _ => v_s = v2)))) := by
  obtain ⟨nh, ni, nr, hc_s, hh, _, _, _, _⟩ := hx
  obtain ⟨u_s, r_s, _, u1_s, _, u3, _⟩ := hh
  obtain ⟨n_s, _, t1_s, t2_s, _⟩ := ht
  have e6_s : h_s.2.1 7 6 = h_s.2.1 102 6 := Int32.toInt_inj.mp (hc_s.2.1.1.trans hc_s.2.2.1.1.symm)
  have e7_s : h_s.2.1 7 7 = h_s.2.1 102 7 := Int32.toInt_inj.mp (hc_s.2.1.2.1.trans hc_s.2.2.1.2.1.symm)
  have e8 : h_s.2.1 7 8 = h_s.2.1 102 8 := Int32.toInt_inj.mp (hc_s.2.1.2.2.trans hc_s.2.2.1.2.2.symm)
  have e4_s : h_s.2.1 42 0 = h_s.2.1 102 5 := Int32.toInt_inj.mp (u1_s.trans u3.symm)
  refine wF_le (Nat.le_succ F_s) (sg_134_0 (h_s := h_s) hk ?_)
  have g_s := fun (v_s : Int32) t_s => wF_le (Nat.le_succ F_s) (sg_237_0 (F_s := F_s) (x1_s := x1_s) (h_s := h_s) (K_s := fun v2 _ => v_s = v2) hk t_s)
  refine ⟨fun c0_s => g_s _ ?_, fun c0_s => ⟨fun c1_s => g_s _ ?_, fun c1_s => ⟨fun c2_s => g_s _ ?_, fun c2_s => ⟨fun c3_s => g_s _ ?_, fun c3_s => ⟨fun c4_s => g_s _ ?_, fun c4_s => ⟨fun c5_s => g_s _ ?_, fun c5_s => ⟨fun c6_s => g_s _ ?_, fun c6_s => g_s _ ?_⟩⟩⟩⟩⟩⟩⟩
  · exact ⟨fun _ => e6_s, fun c_s => absurd c0_s c_s⟩
  · exact ⟨fun c_s => absurd c_s c0_s, fun _ => ⟨fun _ => e7_s, fun c_s => absurd c1_s c_s⟩⟩
  · exact ⟨fun c_s => absurd c_s c0_s, fun _ => ⟨fun c_s => absurd c_s c1_s, fun _ => ⟨fun _ => e8, fun c_s => absurd c2_s c_s⟩⟩⟩
  · exact ⟨fun c_s => absurd c_s c0_s, fun _ => ⟨fun c_s => absurd c_s c1_s, fun _ => ⟨fun c_s => absurd c_s c2_s, fun _ => ⟨fun _ => t2_s.symm, fun c_s => absurd c3_s c_s⟩⟩⟩⟩
  · exact ⟨fun c_s => absurd c_s c0_s, fun _ => ⟨fun c_s => absurd c_s c1_s, fun _ => ⟨fun c_s => absurd c_s c2_s, fun _ => ⟨fun c_s => absurd c_s c3_s, fun _ => ⟨fun _ => e4_s, fun c_s => absurd c4_s c_s⟩⟩⟩⟩⟩
  · exact ⟨fun c_s => absurd c_s c0_s, fun _ => ⟨fun c_s => absurd c_s c1_s, fun _ => ⟨fun c_s => absurd c_s c2_s, fun _ => ⟨fun c_s => absurd c_s c3_s, fun _ => ⟨fun c_s => absurd c_s c4_s, fun _ => ⟨fun _ => hs.2.1, fun c_s => absurd c5_s c_s⟩⟩⟩⟩⟩⟩
  · exact ⟨fun c_s => absurd c_s c0_s, fun _ => ⟨fun c_s => absurd c_s c1_s, fun _ => ⟨fun c_s => absurd c_s c2_s, fun _ => ⟨fun c_s => absurd c_s c3_s, fun _ => ⟨fun c_s => absurd c_s c4_s, fun _ => ⟨fun c_s => absurd c_s c5_s, fun _ => ⟨fun _ => ha_s.2.1, fun c_s => absurd c6_s c_s⟩⟩⟩⟩⟩⟩⟩
  · exact ⟨fun c_s => absurd c_s c0_s, fun _ => ⟨fun c_s => absurd c_s c1_s, fun _ => ⟨fun c_s => absurd c_s c2_s, fun _ => ⟨fun c_s => absurd c_s c3_s, fun _ => ⟨fun c_s => absurd c_s c4_s, fun _ => ⟨fun c_s => absurd c_s c5_s, fun _ => ⟨fun c_s => absurd c_s c6_s, fun _ => rfl⟩⟩⟩⟩⟩⟩⟩
end PC_s
/-! CONTRACTS of the calls, as what ended runs keep: printed by a program (wip/fun/mklaw.py). -/
theorem cm_93 {F_s : Nat} {x1_s : Int32} {h_s : zH} (hI : hIw h_s) : wF F_s 93 (0, [some (.ref 6), some (.int x1_s)], [], h_s) (gI (fun _ h1 => hIw h1 ∧ aFr (aWf kE1148.2.2.2.2.2) h_s h1)) := cxI kok1148 (rel1 (n_s := 0) hI) hI.2 rfl rfl
theorem cm_155 {F_s : Nat} {x1_s : Int32} {h_s : zH} (hI : hIw h_s) : wF F_s 155 (0, [some (.ref 102), some (.int x1_s)], [], h_s) (gI (fun _ h1 => hIw h1 ∧ aFr (aWf kE1149.2.2.2.2.2) h_s h1)) := cxI kok1149 (rel1 (n_s := 0) hI) hI.2 rfl rfl
theorem cm_94 {F_s : Nat} {x1_s : Int32} {x2_s : Int32} {h_s : zH} (hI : hIw h_s) : wF F_s 94 (0, [some (.ref 6), some (.int x1_s), some (.int x2_s), none], [], h_s) (gI (fun _ h1 => hIw h1 ∧ aFr (aWf kE1146.2.2.2.2.2) h_s h1)) := cxI kok1146 (rel2 (n_s := 1) hI) hI.2 rfl rfl
theorem cm_156 {F_s : Nat} {x1_s : Int32} {x2_s : Int32} {h_s : zH} (hI : hIw h_s) : wF F_s 156 (0, [some (.ref 102), some (.int x1_s), some (.int x2_s)], [], h_s) (gI (fun _ h1 => hIw h1 ∧ aFr (aWf kE1147.2.2.2.2.2) h_s h1)) := cxI kok1147 (rel2 (n_s := 0) hI) hI.2 rfl rfl
theorem cm_95 {F_s : Nat} {x1_s : Int32} {x2_s : Int32} {h_s : zH} (hI : hIw h_s) : wF F_s 95 (0, [some (.ref 6), some (.int x1_s), some (.int x2_s)], [], h_s) (gI (fun _ h1 => hIw h1 ∧ aFr (aWf kE1144.2.2.2.2.2) h_s h1)) := cxI kok1144 (rel2 (n_s := 0) hI) hI.2 rfl rfl
theorem cm_159 {F_s : Nat} {x1_s : Int32} {x2_s : Int32} {h_s : zH} (hI : hIw h_s) : wF F_s 159 (0, [some (.ref 102), some (.int x1_s), some (.int x2_s)], [], h_s) (gI (fun _ h1 => hIw h1 ∧ aFr (aWf kE1145.2.2.2.2.2) h_s h1)) := cxI kok1145 (rel2 (n_s := 0) hI) hI.2 rfl rfl
theorem cm_96 {F_s : Nat} {x1_s : Int32} {x2_s : Int32} {x3 : Int32} {h_s : zH} (hI : hIw h_s) : wF F_s 96 (0, [some (.ref 6), some (.int x1_s), some (.int x2_s), some (.int x3), none, none, none], [], h_s) (gI (fun _ h1 => hIw h1 ∧ aFr (aWf kE1142.2.2.2.2.2) h_s h1)) := cxI kok1142 (rel3 (n_s := 3) hI) hI.2 rfl rfl
theorem cm_160 {F_s : Nat} {x1_s : Int32} {x2_s : Int32} {x3 : Int32} {h_s : zH} (hI : hIw h_s) : wF F_s 160 (0, [some (.ref 102), some (.int x1_s), some (.int x2_s), some (.int x3), none, none, none], [], h_s) (gI (fun _ h1 => hIw h1 ∧ aFr (aWf kE1143.2.2.2.2.2) h_s h1)) := cxI kok1143 (rel3 (n_s := 3) hI) hI.2 rfl rfl
theorem cm_98 {F_s : Nat} {x1_s : Int32} {x2_s : Int32} {x3 : Int32} {h_s : zH} (hI : hIw h_s) : wF F_s 98 (0, [some (.ref 6), some (.int x1_s), some (.int x2_s), some (.int x3), none], [], h_s) (gI (fun _ h1 => hIw h1 ∧ aFr (aWf kE1128.2.2.2.2.2) h_s h1)) := cxI kok1128 (rel3 (n_s := 1) hI) hI.2 rfl rfl
theorem cm_163 {F_s : Nat} {x1_s : Int32} {x2_s : Int32} {x3 : Int32} {h_s : zH} (hI : hIw h_s) : wF F_s 163 (0, [some (.ref 102), some (.int x1_s), some (.int x2_s), some (.int x3), none], [], h_s) (gI (fun _ h1 => hIw h1 ∧ aFr (aWf kE1141.2.2.2.2.2) h_s h1)) := cxI kok1141 (rel3 (n_s := 1) hI) hI.2 rfl rfl
theorem cm_99 {F_s : Nat} {x1_s : Int32} {x2_s : Int32} {h_s : zH} (hI : hIw h_s) : wF F_s 99 (0, [some (.ref 6), some (.int x1_s), some (.int x2_s)], [], h_s) (gI (fun _ h1 => hIw h1 ∧ aFr (aWf kE1125.2.2.2.2.2) h_s h1)) := cxI kok1125 (rel2 (n_s := 0) hI) hI.2 rfl rfl
theorem cm_164 {F_s : Nat} {x1_s : Int32} {x2_s : Int32} {h_s : zH} (hI : hIw h_s) : wF F_s 164 (0, [some (.ref 102), some (.int x1_s), some (.int x2_s), none], [], h_s) (gI (fun _ h1 => hIw h1 ∧ aFr (aWf kE1126.2.2.2.2.2) h_s h1)) := cxI kok1126 (rel2 (n_s := 1) hI) hI.2 rfl rfl
theorem cm_100 {F_s : Nat} {x1_s : Int32} {h_s : zH} (hI : hIw h_s) : wF F_s 100 (0, [some (.ref 6), some (.int x1_s)], [], h_s) (gI (fun _ h1 => hIw h1 ∧ aFr (aWf kE1123.2.2.2.2.2) h_s h1)) := cxI kok1123 (rel1 (n_s := 0) hI) hI.2 rfl rfl
theorem cm_165 {F_s : Nat} {x1_s : Int32} {h_s : zH} (hI : hIw h_s) : wF F_s 165 (0, [some (.ref 102), some (.int x1_s)], [], h_s) (gI (fun _ h1 => hIw h1 ∧ aFr (aWf kE1124.2.2.2.2.2) h_s h1)) := cxI kok1124 (rel1 (n_s := 0) hI) hI.2 rfl rfl
theorem cm_101 {F_s : Nat}  {h_s : zH} (hI : hIw h_s) : wF F_s 101 (0, [some (.ref 6), none, none], [], h_s) (gI (fun _ h1 => hIw h1 ∧ aFr (aWf kE1121.2.2.2.2.2) h_s h1)) := cxI kok1121 (rel0 (n_s := 2) hI) hI.2 rfl rfl
theorem cm_177 {F_s : Nat}  {h_s : zH} (hI : hIw h_s) : wF F_s 177 (0, [some (.ref 102), none, none, none], [], h_s) (gI (fun _ h1 => hIw h1 ∧ aFr (aWf kE1122.2.2.2.2.2) h_s h1)) := cxI kok1122 (rel0 (n_s := 3) hI) hI.2 rfl rfl
theorem cm_102 {F_s : Nat} {x1_s : Int32} {x2_s : Int32} {h_s : zH} (hI : hIw h_s) : wF F_s 102 (0, [some (.ref 6), some (.int x1_s), some (.int x2_s)], [], h_s) (gI (fun _ h1 => hIw h1 ∧ aFr (aWf kE1013.2.2.2.2.2) h_s h1)) := cxI kok1013 (rel2 (n_s := 0) hI) hI.2 rfl rfl
theorem cm_181 {F_s : Nat} {x1_s : Int32} {x2_s : Int32} {h_s : zH} (hI : hIw h_s) : wF F_s 181 (0, [some (.ref 102), some (.int x1_s), some (.int x2_s)], [], h_s) (gI (fun _ h1 => hIw h1 ∧ aFr (aWf kE1014.2.2.2.2.2) h_s h1)) := cxI kok1014 (rel2 (n_s := 0) hI) hI.2 rfl rfl
theorem cm_103 {F_s : Nat} {x1_s : Int32} {x2_s : Int32} {x3 : Int32} {h_s : zH} (hI : hIw h_s) : wF F_s 103 (0, [some (.ref 6), some (.int x1_s), some (.int x2_s), some (.int x3), none, none, none], [], h_s) (gI (fun _ h1 => hIw h1 ∧ aFr (aWf kE1011.2.2.2.2.2) h_s h1)) := cxI kok1011 (rel3 (n_s := 3) hI) hI.2 rfl rfl
theorem cm_189 {F_s : Nat} {x1_s : Int32} {x2_s : Int32} {x3 : Int32} {h_s : zH} (hI : hIw h_s) : wF F_s 189 (0, [some (.ref 102), some (.int x1_s), some (.int x2_s), some (.int x3)], [], h_s) (gI (fun _ h1 => hIw h1 ∧ aFr (aWf kE1012.2.2.2.2.2) h_s h1)) := cxI kok1012 (rel3 (n_s := 0) hI) hI.2 rfl rfl
theorem cm_104 {F_s : Nat} {x1_s : Int32} {x2_s : Int32} {x3 : Int32} {h_s : zH} (hI : hIw h_s) : wF F_s 104 (0, [some (.ref 6), some (.int x1_s), some (.int x2_s), some (.int x3), none, none], [], h_s) (gI (fun _ h1 => hIw h1 ∧ aFr (aWf kE912.2.2.2.2.2) h_s h1)) := cxI kok912 (rel3 (n_s := 2) hI) hI.2 rfl rfl
theorem cm_191 {F_s : Nat} {x1_s : Int32} {x2_s : Int32} {x3 : Int32} {h_s : zH} (hI : hIw h_s) : wF F_s 191 (0, [some (.ref 102), some (.int x1_s), some (.int x2_s), some (.int x3), none], [], h_s) (gI (fun _ h1 => hIw h1 ∧ aFr (aWf kE1009.2.2.2.2.2) h_s h1)) := cxI kok1009 (rel3 (n_s := 1) hI) hI.2 rfl rfl
theorem cm_105 {F_s : Nat} {x1_s : Int32} {x2_s : Int32} {x3 : Int32} {h_s : zH} (hI : hIw h_s) : wF F_s 105 (0, [some (.ref 6), some (.int x1_s), some (.int x2_s), some (.int x3)], [], h_s) (gI (fun _ h1 => hIw h1 ∧ aFr (aWf kE304.2.2.2.2.2) h_s h1)) := cxI kok304 (rel3 (n_s := 0) hI) hI.2 rfl rfl
theorem cm_193 {F_s : Nat} {x1_s : Int32} {x2_s : Int32} {x3 : Int32} {h_s : zH} (hI : hIw h_s) : wF F_s 193 (0, [some (.ref 102), some (.int x1_s), some (.int x2_s), some (.int x3)], [], h_s) (gI (fun _ h1 => hIw h1 ∧ aFr (aWf kE560.2.2.2.2.2) h_s h1)) := cxI kok560 (rel3 (n_s := 0) hI) hI.2 rfl rfl
theorem cm_106 {F_s : Nat} {x1_s : Int32} {x2_s : Int32} {h_s : zH} (hI : hIw h_s) : wF F_s 106 (0, [some (.ref 6), some (.int x1_s), some (.int x2_s), none, none, none, none, none, none], [], h_s) (gI (fun _ h1 => hIw h1 ∧ aFr (aWf kE279.2.2.2.2.2) h_s h1)) := cxI kok279 (rel2 (n_s := 6) hI) hI.2 rfl rfl
theorem cm_194 {F_s : Nat} {x1_s : Int32} {x2_s : Int32} {h_s : zH} (hI : hIw h_s) : wF F_s 194 (0, [some (.ref 102), some (.int x1_s), some (.int x2_s), none, none, none], [], h_s) (gI (fun _ h1 => hIw h1 ∧ aFr (aWf kE280.2.2.2.2.2) h_s h1)) := cxI kok280 (rel2 (n_s := 3) hI) hI.2 rfl rfl
theorem cm_107 {F_s : Nat} {x1_s : Int32} {h_s : zH} (hI : hIw h_s) : wF F_s 107 (0, [some (.ref 6), some (.int x1_s)], [], h_s) (gI (fun _ h1 => hIw h1 ∧ aFr (aWf kE277.2.2.2.2.2) h_s h1)) := cxI kok277 (rel1 (n_s := 0) hI) hI.2 rfl rfl
theorem cm_199 {F_s : Nat} {x1_s : Int32} {h_s : zH} (hI : hIw h_s) : wF F_s 199 (0, [some (.ref 102), some (.int x1_s)], [], h_s) (gI (fun _ h1 => hIw h1 ∧ aFr (aWf kE278.2.2.2.2.2) h_s h1)) := cxI kok278 (rel1 (n_s := 0) hI) hI.2 rfl rfl
theorem cm_108 {F_s : Nat}  {h_s : zH} (hI : hIw h_s) : wF F_s 108 (0, [some (.ref 6)], [], h_s) (gI (fun _ h1 => hIw h1 ∧ aFr (aWf kE274.2.2.2.2.2) h_s h1)) := cxI kok274 (rel0 (n_s := 0) hI) hI.2 rfl rfl
theorem cm_200 {F_s : Nat}  {h_s : zH} (hI : hIw h_s) : wF F_s 200 (0, [some (.ref 102), none, none, none, none, none], [], h_s) (gI (fun _ h1 => hIw h1 ∧ aFr (aWf kE276.2.2.2.2.2) h_s h1)) := cxI kok276 (rel0 (n_s := 5) hI) hI.2 rfl rfl
theorem cm_109 {F_s : Nat} {x1_s : Int32} {h_s : zH} (hI : hIw h_s) : wF F_s 109 (0, [some (.ref 6), some (.int x1_s), none], [], h_s) (gI (fun _ h1 => hIw h1 ∧ aFr (aWf kE270.2.2.2.2.2) h_s h1)) := cxI kok270 (rel1 (n_s := 1) hI) hI.2 rfl rfl
theorem cm_202 {F_s : Nat} {x1_s : Int32} {h_s : zH} (hI : hIw h_s) : wF F_s 202 (0, [some (.ref 102), some (.int x1_s), none, none, none, none, none], [], h_s) (gI (fun _ h1 => hIw h1 ∧ aFr (aWf kE272.2.2.2.2.2) h_s h1)) := cxI kok272 (rel1 (n_s := 5) hI) hI.2 rfl rfl
theorem cm_110 {F_s : Nat} {x1_s : Int32} {x2_s : Int32} {h_s : zH} (hI : hIw h_s) : wF F_s 110 (0, [some (.ref 6), some (.int x1_s), some (.int x2_s), none], [], h_s) (gI (fun _ h1 => hIw h1 ∧ aFr (aWf kE265.2.2.2.2.2) h_s h1)) := cxI kok265 (rel2 (n_s := 1) hI) hI.2 rfl rfl
theorem cm_205 {F_s : Nat} {x1_s : Int32} {x2_s : Int32} {h_s : zH} (hI : hIw h_s) : wF F_s 205 (0, [some (.ref 102), some (.int x1_s), some (.int x2_s)], [], h_s) (gI (fun _ h1 => hIw h1 ∧ aFr (aWf kE266.2.2.2.2.2) h_s h1)) := cxI kok266 (rel2 (n_s := 0) hI) hI.2 rfl rfl
theorem cm_111 {F_s : Nat} {x1_s : Int32} {x2_s : Int32} {x3 : Int32} {h_s : zH} (hI : hIw h_s) : wF F_s 111 (0, [some (.ref 6), some (.int x1_s), some (.int x2_s), some (.int x3), none, none, none, none, none], [], h_s) (gI (fun _ h1 => hIw h1 ∧ aFr (aWf kE156.2.2.2.2.2) h_s h1)) := cxI kok156 (rel3 (n_s := 5) hI) hI.2 rfl rfl
theorem cm_206 {F_s : Nat} {x1_s : Int32} {x2_s : Int32} {x3 : Int32} {h_s : zH} (hI : hIw h_s) : wF F_s 206 (0, [some (.ref 102), some (.int x1_s), some (.int x2_s), some (.int x3), none, none, none, none], [], h_s) (gI (fun _ h1 => hIw h1 ∧ aFr (aWf kE261.2.2.2.2.2) h_s h1)) := cxI kok261 (rel3 (n_s := 4) hI) hI.2 rfl rfl
theorem cm_112 {F_s : Nat} {x1_s : Int32} {x2_s : Int32} {x3 : Int32} {h_s : zH} (hI : hIw h_s) : wF F_s 112 (0, [some (.ref 6), some (.int x1_s), some (.int x2_s), some (.int x3), none], [], h_s) (gI (fun _ h1 => hIw h1 ∧ aFr (aWf kE116.2.2.2.2.2) h_s h1)) := cxI kok116 (rel3 (n_s := 1) hI) hI.2 rfl rfl
theorem cm_208 {F_s : Nat} {x1_s : Int32} {x2_s : Int32} {x3 : Int32} {h_s : zH} (hI : hIw h_s) : wF F_s 208 (0, [some (.ref 102), some (.int x1_s), some (.int x2_s), some (.int x3), none], [], h_s) (gI (fun _ h1 => hIw h1 ∧ aFr (aWf kE137.2.2.2.2.2) h_s h1)) := cxI kok137 (rel3 (n_s := 1) hI) hI.2 rfl rfl
theorem cm_116 {F_s : Nat} {x1_s : Int32} {x2_s : Int32} {x3 : Int32} {x4_s : Int32} {h_s : zH} (hI : hIw h_s) : wF F_s 116 (0, [some (.ref 6), some (.int x1_s), some (.int x2_s), some (.int x3), some (.int x4_s), none, none, none, none, none, none, none, none, none], [], h_s) (gI (fun _ h1 => hIw h1 ∧ aFr (aWf kE100.2.2.2.2.2) h_s h1)) := cxI kok100 (rel4 (n_s := 9) hI) hI.2 rfl rfl
theorem cm_209 {F_s : Nat} {x1_s : Int32} {x2_s : Int32} {x3 : Int32} {x4_s : Int32} {h_s : zH} (hI : hIw h_s) : wF F_s 209 (0, [some (.ref 102), some (.int x1_s), some (.int x2_s), some (.int x3), some (.int x4_s), none, none, none, none, none, none], [], h_s) (gI (fun _ h1 => hIw h1 ∧ aFr (aWf kE101.2.2.2.2.2) h_s h1)) := cxI kok101 (rel4 (n_s := 6) hI) hI.2 rfl rfl
theorem cm_117 {F_s : Nat} {x1_s : Int32} {x2_s : Int32} {h_s : zH} (hI : hIw h_s) : wF F_s 117 (0, [some (.ref 6), some (.int x1_s), some (.int x2_s), none], [], h_s) (gI (fun _ h1 => hIw h1 ∧ aFr (aWf kE93.2.2.2.2.2) h_s h1)) := cxI kok93 (rel2 (n_s := 1) hI) hI.2 rfl rfl
theorem cm_211 {F_s : Nat} {x1_s : Int32} {x2_s : Int32} {h_s : zH} (hI : hIw h_s) : wF F_s 211 (0, [some (.ref 102), some (.int x1_s), some (.int x2_s), none], [], h_s) (gI (fun _ h1 => hIw h1 ∧ aFr (aWf kE95.2.2.2.2.2) h_s h1)) := cxI kok95 (rel2 (n_s := 1) hI) hI.2 rfl rfl
theorem cm_118 {F_s : Nat} {x1_s : Int32} {x2_s : Int32} {h_s : zH} (hI : hIw h_s) : wF F_s 118 (0, [some (.ref 6), some (.int x1_s), some (.int x2_s), none, none, none], [], h_s) (gI (fun _ h1 => hIw h1 ∧ aFr (aWf kE42.2.2.2.2.2) h_s h1)) := cxI kok42 (rel2 (n_s := 3) hI) hI.2 rfl rfl
theorem cm_212 {F_s : Nat} {x1_s : Int32} {x2_s : Int32} {h_s : zH} (hI : hIw h_s) : wF F_s 212 (0, [some (.ref 102), some (.int x1_s), some (.int x2_s)], [], h_s) (gI (fun _ h1 => hIw h1 ∧ aFr (aWf kE91.2.2.2.2.2) h_s h1)) := cxI kok91 (rel2 (n_s := 0) hI) hI.2 rfl rfl
theorem cm_119 {F_s : Nat}  {h_s : zH} (hI : hIw h_s) : wF F_s 119 (0, [some (.ref 6), none, none], [], h_s) (gI (fun _ h1 => hIw h1 ∧ aFr (aWf kE36.2.2.2.2.2) h_s h1)) := cxI kok36 (rel0 (n_s := 2) hI) hI.2 rfl rfl
theorem cm_213 {F_s : Nat}  {h_s : zH} (hI : hIw h_s) : wF F_s 213 (0, [some (.ref 102), none, none], [], h_s) (gI (fun _ h1 => hIw h1 ∧ aFr (aWf kE38.2.2.2.2.2) h_s h1)) := cxI kok38 (rel0 (n_s := 2) hI) hI.2 rfl rfl
theorem cm_120 {F_s : Nat} {x1_s : Int32} {h_s : zH} (hI : hIw h_s) : wF F_s 120 (0, [some (.ref 6), some (.int x1_s)], [], h_s) (gI (fun _ h1 => hIw h1 ∧ aFr (aWf kE30.2.2.2.2.2) h_s h1)) := cxI kok30 (rel1 (n_s := 0) hI) hI.2 rfl rfl
theorem cm_214 {F_s : Nat} {x1_s : Int32} {h_s : zH} (hI : hIw h_s) : wF F_s 214 (0, [some (.ref 102), some (.int x1_s)], [], h_s) (gI (fun _ h1 => hIw h1 ∧ aFr (aWf kE31.2.2.2.2.2) h_s h1)) := cxI kok31 (rel1 (n_s := 0) hI) hI.2 rfl rfl
theorem cm_121 {F_s : Nat}  {h_s : zH} (hI : hIw h_s) : wF F_s 121 (0, [some (.ref 6), none], [], h_s) (gI (fun _ h1 => hIw h1 ∧ aFr (aWf kE28.2.2.2.2.2) h_s h1)) := cxI kok28 (rel0 (n_s := 1) hI) hI.2 rfl rfl
theorem cm_215 {F_s : Nat}  {h_s : zH} (hI : hIw h_s) : wF F_s 215 (0, [some (.ref 102), none], [], h_s) (gI (fun _ h1 => hIw h1 ∧ aFr (aWf kE29.2.2.2.2.2) h_s h1)) := cxI kok29 (rel0 (n_s := 1) hI) hI.2 rfl rfl
theorem cm_122 {F_s : Nat}  {h_s : zH} (hI : hIw h_s) : wF F_s 122 (0, [some (.ref 6), none], [], h_s) (gI (fun _ h1 => hIw h1 ∧ aFr (aWf kE26.2.2.2.2.2) h_s h1)) := cxI kok26 (rel0 (n_s := 1) hI) hI.2 rfl rfl
theorem cm_216 {F_s : Nat}  {h_s : zH} (hI : hIw h_s) : wF F_s 216 (0, [some (.ref 102), none], [], h_s) (gI (fun _ h1 => hIw h1 ∧ aFr (aWf kE27.2.2.2.2.2) h_s h1)) := cxI kok27 (rel0 (n_s := 1) hI) hI.2 rfl rfl
theorem cm_123 {F_s : Nat}  {h_s : zH} (hI : hIw h_s) : wF F_s 123 (0, [some (.ref 6)], [], h_s) (gI (fun _ h1 => hIw h1 ∧ aFr (aWf kE24.2.2.2.2.2) h_s h1)) := cxI kok24 (rel0 (n_s := 0) hI) hI.2 rfl rfl
theorem cm_149 {F_s : Nat}  {h_s : zH} (hI : hIw h_s) : wF F_s 149 (0, [some (.ref 102)], [], h_s) (gI (fun _ h1 => hIw h1 ∧ aFr (aWf kE25.2.2.2.2.2) h_s h1)) := cxI kok25 (rel0 (n_s := 0) hI) hI.2 rfl rfl
theorem cm_124 {F_s : Nat}  {h_s : zH} (hI : hIw h_s) : wF F_s 124 (0, [some (.ref 6)], [], h_s) (gI (fun _ h1 => hIw h1 ∧ aFr (aWf kE22.2.2.2.2.2) h_s h1)) := cxI kok22 (rel0 (n_s := 0) hI) hI.2 rfl rfl
theorem cm_150 {F_s : Nat}  {h_s : zH} (hI : hIw h_s) : wF F_s 150 (0, [some (.ref 102)], [], h_s) (gI (fun _ h1 => hIw h1 ∧ aFr (aWf kE23.2.2.2.2.2) h_s h1)) := cxI kok23 (rel0 (n_s := 0) hI) hI.2 rfl rfl
theorem cm_125 {F_s : Nat} {x1_s : Int32} {h_s : zH} (hI : hIw h_s) : wF F_s 125 (0, [some (.ref 6), some (.int x1_s)], [], h_s) (gI (fun _ h1 => hIw h1 ∧ aFr (aWf kE20.2.2.2.2.2) h_s h1)) := cxI kok20 (rel1 (n_s := 0) hI) hI.2 rfl rfl
theorem cm_219 {F_s : Nat} {x1_s : Int32} {h_s : zH} (hI : hIw h_s) : wF F_s 219 (0, [some (.ref 102), some (.int x1_s)], [], h_s) (gI (fun _ h1 => hIw h1 ∧ aFr (aWf kE21.2.2.2.2.2) h_s h1)) := cxI kok21 (rel1 (n_s := 0) hI) hI.2 rfl rfl
theorem cm_126 {F_s : Nat} {x1_s : Int32} {x2_s : Int32} {x3 : Int32} {h_s : zH} (hI : hIw h_s) : wF F_s 126 (0, [some (.ref 6), some (.int x1_s), some (.int x2_s), some (.int x3)], [], h_s) (gI (fun _ h1 => hIw h1 ∧ aFr (aWf kE18.2.2.2.2.2) h_s h1)) := cxI kok18 (rel3 (n_s := 0) hI) hI.2 rfl rfl
theorem cm_226 {F_s : Nat} {x1_s : Int32} {x2_s : Int32} {x3 : Int32} {h_s : zH} (hI : hIw h_s) : wF F_s 226 (0, [some (.ref 102), some (.int x1_s), some (.int x2_s), some (.int x3)], [], h_s) (gI (fun _ h1 => hIw h1 ∧ aFr (aWf kE19.2.2.2.2.2) h_s h1)) := cxI kok19 (rel3 (n_s := 0) hI) hI.2 rfl rfl
theorem cm_127 {F_s : Nat} {x1_s : Int32} {h_s : zH} (hI : hIw h_s) : wF F_s 127 (0, [some (.ref 6), some (.int x1_s)], [], h_s) (gI (fun _ h1 => hIw h1 ∧ aFr (aWf kE16.2.2.2.2.2) h_s h1)) := cxI kok16 (rel1 (n_s := 0) hI) hI.2 rfl rfl
theorem cm_227 {F_s : Nat} {x1_s : Int32} {h_s : zH} (hI : hIw h_s) : wF F_s 227 (0, [some (.ref 102), some (.int x1_s)], [], h_s) (gI (fun _ h1 => hIw h1 ∧ aFr (aWf kE17.2.2.2.2.2) h_s h1)) := cxI kok17 (rel1 (n_s := 0) hI) hI.2 rfl rfl
theorem cm_128 {F_s : Nat} {x1_s : Int32} {x2_s : Int32} {h_s : zH} (hI : hIw h_s) : wF F_s 128 (0, [some (.ref 6), some (.int x1_s), some (.int x2_s)], [], h_s) (gI (fun _ h1 => hIw h1 ∧ aFr (aWf kE14.2.2.2.2.2) h_s h1)) := cxI kok14 (rel2 (n_s := 0) hI) hI.2 rfl rfl
theorem cm_229 {F_s : Nat} {x1_s : Int32} {x2_s : Int32} {h_s : zH} (hI : hIw h_s) : wF F_s 229 (0, [some (.ref 102), some (.int x1_s), some (.int x2_s)], [], h_s) (gI (fun _ h1 => hIw h1 ∧ aFr (aWf kE15.2.2.2.2.2) h_s h1)) := cxI kok15 (rel2 (n_s := 0) hI) hI.2 rfl rfl
theorem cm_129 {F_s : Nat} {x1_s : Int32} {x2_s : Int32} {x3 : Int32} {h_s : zH} (hI : hIw h_s) : wF F_s 129 (0, [some (.ref 6), some (.int x1_s), some (.int x2_s), some (.int x3)], [], h_s) (gI (fun _ h1 => hIw h1 ∧ aFr (aWf kE12.2.2.2.2.2) h_s h1)) := cxI kok12 (rel3 (n_s := 0) hI) hI.2 rfl rfl
theorem cm_230 {F_s : Nat} {x1_s : Int32} {x2_s : Int32} {x3 : Int32} {h_s : zH} (hI : hIw h_s) : wF F_s 230 (0, [some (.ref 102), some (.int x1_s), some (.int x2_s), some (.int x3), none], [], h_s) (gI (fun _ h1 => hIw h1 ∧ aFr (aWf kE13.2.2.2.2.2) h_s h1)) := cxI kok13 (rel3 (n_s := 1) hI) hI.2 rfl rfl
theorem cm_130 {F_s : Nat} {x1_s : Int32} {x2_s : Int32} {x3 : Int64} {h_s : zH} (hI : hIw h_s) : wF F_s 130 (0, [some (.ref 6), some (.int x1_s), some (.int x2_s), some (.long x3), none, none], [], h_s) (gI (fun _ h1 => hIw h1 ∧ aFr (aWf kE9.2.2.2.2.2) h_s h1)) := cxI kok9 (relp (n_s := 1) hI) hI.2 rfl rfl
theorem cm_233 {F_s : Nat} {x1_s : Int32} {x2_s : Int32} {x3 : Int64} {h_s : zH} (hI : hIw h_s) : wF F_s 233 (0, [some (.ref 102), some (.int x1_s), some (.int x2_s), some (.long x3), none, none], [], h_s) (gI (fun _ h1 => hIw h1 ∧ aFr (aWf kE10.2.2.2.2.2) h_s h1)) := cxI kok10 (relp (n_s := 1) hI) hI.2 rfl rfl
theorem cm_131 {F_s : Nat} {x1_s : Int32} {x2_s : Int32} {h_s : zH} (hI : hIw h_s) : wF F_s 131 (0, [some (.ref 6), some (.int x1_s), some (.int x2_s)], [], h_s) (gJ (fun _ h1 => hIw h1 ∧ aFr (aWf kE7.2.2.2.2.2) h_s h1)) := cxJ kok7 (rel2 (n_s := 0) hI) hI.2 rfl rfl
theorem cm_234 {F_s : Nat} {x1_s : Int32} {x2_s : Int32} {h_s : zH} (hI : hIw h_s) : wF F_s 234 (0, [some (.ref 102), some (.int x1_s), some (.int x2_s)], [], h_s) (gJ (fun _ h1 => hIw h1 ∧ aFr (aWf kE8.2.2.2.2.2) h_s h1)) := cxJ kok8 (rel2 (n_s := 0) hI) hI.2 rfl rfl
theorem cm_132 {F_s : Nat} {x1_s : Int32} {x2_s : Int32} {x3 : Int32} {x4_s : Int32} {x5_s : Int32} {h_s : zH} (hI : hIw h_s) : wF F_s 132 (0, [some (.ref 6), some (.int x1_s), some (.int x2_s), some (.int x3), some (.int x4_s), some (.int x5_s), none, none], [], h_s) (gI (fun _ h1 => hIw h1 ∧ aFr (aWf kE5.2.2.2.2.2) h_s h1)) := cxI kok5 (rel5 (n_s := 2) hI) hI.2 rfl rfl
theorem cm_235 {F_s : Nat} {x1_s : Int32} {x2_s : Int32} {x3 : Int32} {x4_s : Int32} {x5_s : Int32} {h_s : zH} (hI : hIw h_s) : wF F_s 235 (0, [some (.ref 102), some (.int x1_s), some (.int x2_s), some (.int x3), some (.int x4_s), some (.int x5_s), none], [], h_s) (gI (fun _ h1 => hIw h1 ∧ aFr (aWf kE6.2.2.2.2.2) h_s h1)) := cxI kok6 (rel5 (n_s := 1) hI) hI.2 rfl rfl
theorem cm_133 {F_s : Nat} {x1_s : Int32} {x2_s : Int32} {h_s : zH} (hI : hIw h_s) : wF F_s 133 (0, [some (.ref 6), some (.int x1_s), some (.int x2_s), none, none], [], h_s) (gI (fun _ h1 => hIw h1 ∧ aFr (aWf kE3.2.2.2.2.2) h_s h1)) := cxI kok3 (rel2 (n_s := 2) hI) hI.2 rfl rfl
theorem cm_236 {F_s : Nat} {x1_s : Int32} {x2_s : Int32} {h_s : zH} (hI : hIw h_s) : wF F_s 236 (0, [some (.ref 102), some (.int x1_s), some (.int x2_s), none], [], h_s) (gI (fun _ h1 => hIw h1 ∧ aFr (aWf kE4.2.2.2.2.2) h_s h1)) := cxI kok4 (rel2 (n_s := 1) hI) hI.2 rfl rfl
theorem cm_134 {F_s : Nat} {x1_s : Int32} {h_s : zH} (hI : hIw h_s) : wF F_s 134 (0, [some (.ref 6), some (.int x1_s)], [], h_s) (gI (fun _ h1 => hIw h1 ∧ aFr (aWf kE0.2.2.2.2.2) h_s h1)) := cxI kok0 (rel1 (n_s := 0) hI) hI.2 rfl rfl
theorem cm_237 {F_s : Nat} {x1_s : Int32} {h_s : zH} (hI : hIw h_s) : wF F_s 237 (0, [some (.ref 102), some (.int x1_s)], [], h_s) (gI (fun _ h1 => hIw h1 ∧ aFr (aWf kE1.2.2.2.2.2) h_s h1)) := cxI kok1 (rel1 (n_s := 0) hI) hI.2 rfl rfl
