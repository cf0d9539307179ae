/-! JUDGE: class and reference. -/
def okD (x_s : Int32) : Prop := 0 ≤ x_s.toInt ∧ (0 ≤ (x_s / 10).toInt ∧ (x_s / 10).toInt ≤ 5) ∧ (0 ≤ (x_s - x_s / 10 * 10).toInt ∧ (x_s - x_s / 10 * 10).toInt ≤ 5)
def rfB (f_s : Nat → Nat → Int32) (s_s : Nat) : Int := if (f_s 124 s_s).toInt < 0 then -11 else if (f_s 124 s_s).toInt = 50 then 0 else -12
def rwE (f_s : Nat → Nat → Int32) (x_s : Int32) : Int := if rfB f_s (zix (x_s / 10)) = 0 then rfB f_s (zix (x_s - x_s / 10 * 10)) else rfB f_s (zix (x_s / 10))
theorem rfB_v (f_s : Nat → Nat → Int32) (s_s : Nat) : rfB f_s s_s = -11 ∨ rfB f_s s_s = 0 ∨ rfB f_s s_s = -12 := by
  unfold rfB
  by_cases c_s : (f_s 124 s_s).toInt < 0
  · rw [if_pos c_s]
    exact Or.inl rfl
  · rw [if_neg c_s]
    by_cases e_s : (f_s 124 s_s).toInt = 50
    · rw [if_pos e_s]
      exact Or.inr (Or.inl rfl)
    · rw [if_neg e_s]
      exact Or.inr (Or.inr rfl)
theorem rwE_v (f_s : Nat → Nat → Int32) (x_s : Int32) : rwE f_s x_s = -11 ∨ rwE f_s x_s = 0 ∨ rwE f_s x_s = -12 := by
  unfold rwE
  by_cases e_s : rfB f_s (zix (x_s / 10)) = 0
  · rw [if_pos e_s]
    exact rfB_v f_s _
  · rw [if_neg e_s]
    exact rfB_v f_s _
theorem rwE_fr {f_s f1_s : Nat → Nat → Int32} {x_s : Int32} (e_s : ∀ k_s, f1_s 124 k_s = f_s 124 k_s) : rwE f1_s x_s = rwE f_s x_s := by
  unfold rwE rfB
  rw [e_s, e_s]
theorem row_of {f_s : Nat → Nat → Int32} {s_s : Nat} (hs : tS1 f_s s_s) (hr : rfB f_s s_s = 0) : (f_s 125 s_s).toInt = (f_s (76 + 2 * s_s) 3).toInt ∧ 0 ≤ (f_s (76 + 2 * s_s) 3).toInt ∧ (f_s (76 + 2 * s_s) 3).toInt ≤ 60 := by
  have e_s : (f_s 124 s_s).toInt = 50 := by
    unfold rfB at hr
    by_cases c_s : (f_s 124 s_s).toInt < 0
    · rw [if_pos c_s] at hr
      omega
    · rw [if_neg c_s] at hr
      by_cases e_s : (f_s 124 s_s).toInt = 50
      · exact e_s
      · rw [if_neg e_s] at hr
        omega
  unfold tS1 at hs
  rcases hs with a_s | a_s | a_s
  · omega
  · omega
  · exact ⟨a_s.2.2.2.2.1, a_s.2.2.2.2.2⟩
section JU
variable {h_s : zH} {K_s : Int32 → zH → Prop} {KR_s : Nat → zH → Prop} {nh ni nr q_s : Nat} {lw : Option (List pB)} {x1_s x2_s : Int32} {f0_s : Nat → Nat → Int32}
theorem sp_140 {F_s s_s : Nat} (hk : hKn h_s) (hs : s_s < 6) (h1 : tS1 h_s.2.1 s_s) (t_s : ∀ v_s, v_s.toInt = rfB h_s.2.1 s_s → K_s v_s h_s) : wF F_s 140 (0, [some (.ref (76 + 2 * s_s))], [], h_s) (gI K_s) := by
  refine wF_le (Nat.le_succ F_s) (sg_140_0 (h_s := h_s) hs hk ?_)
  unfold tS1 at h1
  have b11 : (-11 : Int32).toInt = -11 := rfl
  have b12 : (-12 : Int32).toInt = -12 := rfl
  have b0 : (0 : Int32).toInt = 0 := rfl
  refine ⟨fun c1_s => t_s _ ?_, fun c1_s => ⟨fun c2_s => ⟨fun c3_s => t_s _ ?_, fun c3_s => t_s _ ?_⟩, fun c2_s => t_s _ ?_⟩⟩
  · unfold rfB
    rw [if_pos (by omega), b11]
  · unfold rfB
    rw [if_neg (by omega), if_pos (by omega), b0]
  · unfold rfB
    rw [if_neg (by omega), if_neg (by omega), b12]
  · unfold rfB
    rw [if_neg (by omega), if_neg (by omega), b12]
theorem sp_203 {F_s : Nat} (hk : hKn h_s) (t1_s : ¬ okD x1_s → K_s (-1) h_s) (t2_s : okD x1_s → ¬ rwE h_s.2.1 x1_s = 0 → ∀ v_s, v_s.toInt = rwE h_s.2.1 x1_s → K_s v_s h_s) (t3_s : okD x1_s → rwE h_s.2.1 x1_s = 0 → K_s 1 h_s) : wF F_s 203 (0, [some (.ref 102), some (.int x1_s)], [], h_s) (gI K_s) := by
  refine wF_le (Nat.le_succ F_s) (sg_203_0 (h_s := h_s) hk ?_)
  have b11 : (-11 : Int32).toInt = -11 := rfl
  have b12 : (-12 : Int32).toInt = -12 := rfl
  have no_s : ¬ okD x1_s → K_s (-1) h_s := t1_s
  unfold okD at no_s
  refine ⟨fun c1_s => no_s (by omega), fun c1_s => ⟨fun c2_s => no_s (by omega), fun c2_s => ⟨fun c3_s => no_s (by omega), fun c3_s => ⟨fun c4_s => no_s (by omega), fun c4_s => ⟨fun c5_s => no_s (by omega), fun c5_s => fun c8_s => ?_⟩⟩⟩⟩⟩
  have ok_s : okD x1_s := by
    unfold okD
    omega
  have t2_s := t2_s ok_s
  have t3_s := t3_s ok_s
  unfold rwE rfB at t2_s t3_s
  refine ⟨fun c9_s => ?_, fun c9_s => ⟨fun c15_s => fun c18_s => ⟨fun c19_s => ?_, fun c19_s => ⟨fun c21 => ?_, fun c21 => ?_⟩⟩, fun c15_s => ?_⟩⟩
  · simp only [if_pos c9_s, if_neg (show ¬ (-11 : Int) = 0 by decide)] at t2_s
    exact t2_s (by decide) _ b11
  · simp only [if_neg c9_s, if_pos c15_s, if_pos c19_s] at t2_s
    exact t2_s (by decide) _ b11
  · simp only [if_neg c9_s, if_pos c15_s, if_neg c19_s, if_pos c21] at t3_s
    exact t3_s (by decide)
  · simp only [if_neg c9_s, if_pos c15_s, if_neg c19_s, if_neg c21] at t2_s
    exact t2_s (by decide) _ b12
  · simp only [if_neg c9_s, if_neg c15_s, if_neg (show ¬ (-12 : Int) = 0 by decide)] at t2_s
    exact t2_s (by decide) _ b12
theorem sp_139 {F_s i_s : Nat} (hk : hKn h_s) (e2_s : x2_s.toInt = (i_s : Int)) (hi_s : i_s < 8) (t_s : ∀ f1_s, (∀ k_s, k_s < 7 → f1_s 88 k_s = f0_s (20 + i_s) k_s) → (∀ a_s k_s, ¬ (a_s = 88 ∧ k_s < 7) → f1_s a_s k_s = f0_s a_s k_s) → KR_s 88 (h_s.1, f1_s, h_s.2.2.1, h_s.2.2.2)) : wF F_s 139 (0, [some (.ref 6), some (.int x2_s)], [], (h_s.1, f0_s, h_s.2.2.1, h_s.2.2.2)) (gR KR_s) := by
  have z_s := azix (i := x2_s) (by omega)
  have ez : zix x2_s = i_s := by omega
  refine wF_le (Nat.le_succ F_s) (sg_139_0 (h_s := (h_s.1, f0_s, h_s.2.2.1, h_s.2.2.2)) hk ?_)
  rw [ez]
  exact fun _ => sp_35 hk (by omega) (fun f1_s g1 g2 _ => t_s f1_s g1 g2)
/-- a journey's thought, as it begins -/
theorem th_cw {f1_s : Nat → Nat → Int32} {i_s : Nat} (hc_s : tC nh ni nr f0_s) (hi_s : i_s < ni) (g1 : ∀ k_s, k_s < 7 → f1_s 88 k_s = f0_s (20 + i_s) k_s) (g2 : f1_s 7 6 = f0_s 7 6) (g3_s : ∀ k_s, f1_s 8 k_s = f0_s 8 k_s) : cwO f1_s 88 (owI f0_s i_s) := by
  have u_s := tC_cw hc_s hi_s
  refine ⟨fun k_s hk6 => by rw [g1 k_s (by omega)]; exact u_s.1 k_s hk6, ?_⟩
  rw [g1 6 (by omega), g2, g3_s]
  exact u_s.2
theorem goJ_fr {f_s f1_s : Nat → Nat → Int32} {c_s : Nat → Int64} (e_s : ∀ k_s, f1_s 103 k_s = f_s 103 k_s) : goJ lw f1_s c_s = goJ lw f_s c_s := by
  funext o k_s
  exact goF_fr e_s
theorem owI_fr {f_s f1_s : Nat → Nat → Int32} {i_s : Nat} (e_s : ∀ k_s, f1_s 103 k_s = f_s 103 k_s) : owI f1_s i_s = owI f_s i_s := by
  funext k_s
  unfold owI
  rw [e_s, e_s, e_s]
theorem pr_judge {F_s : Nat} (hk : hKn h_s) (hs : tS h_s) (hx : tX h_s) : wF F_s 110 (0, [some (.ref 6), some (.int x1_s), some (.int x2_s), none], [], h_s) (gI (fun v_s h1 => wF F_s 205 (0, [some (.ref 102), some (.int x1_s), some (.int x2_s)], [], h1) (gI (fun v2 _ => v_s = v2)))) := by
  obtain ⟨nh, ni, nr, hc_s, _, _, _, _, hl⟩ := hx
  obtain ⟨q_s, q2_s, lw, l1, l2, l3, l4, l5⟩ := hl
  have hm_s : q_s = 14 ∨ q_s = 17 := by omega
  have m0_s := tC_M hc_s
  have b_s := hc_s.1
  have e77 := hc_s.2.1.2.1
  have e78 := hc_s.2.1.2.2
  have e27_s := sb1 m0_s.2.1.2.1
  have n1_s : (-1 : Int32).toInt = -1 := rfl
  -- the reference_s where the class refuses_s
  have rf1 : ¬ (okD x1_s ∧ 0 ≤ x2_s.toInt ∧ x2_s.toInt < (ni : Int)) → wF F_s 205 (0, [some (.ref 102), some (.int x1_s), some (.int x2_s)], [], h_s) (gI (fun v2 _ => (-1 : Int32) = v2)) := fun w_s => by
    refine wF_le (Nat.le_succ F_s) (sg_205_0 (h_s := h_s) hk ?_)
    refine sp_203 hk (fun _ _ => ⟨fun _ => rfl, fun c_s => absurd n1_s c_s⟩) (fun ok_s nz v1_s ev1 _ => ⟨fun c_s => ?_, fun _ => ?_⟩) (fun ok_s ez _ => ⟨fun c_s => absurd c_s (by decide), fun _ => ?_⟩)
    · have := rwE_v h_s.2.1 x1_s
      omega
    · rw [e27_s]
      exact ⟨fun _ => rfl, fun c2_s => ⟨fun _ => rfl, fun c3_s => absurd ⟨ok_s, by omega, by omega⟩ w_s⟩⟩
    · rw [e27_s]
      exact ⟨fun _ => rfl, fun c2_s => ⟨fun _ => rfl, fun c3_s => absurd ⟨ok_s, by omega, by omega⟩ w_s⟩⟩
  have rf2 : okD x1_s → 0 ≤ x2_s.toInt → x2_s.toInt < (ni : Int) → ¬ rwE h_s.2.1 x1_s = 0 → ∀ v_s : Int32, v_s.toInt = rwE h_s.2.1 x1_s → wF F_s 205 (0, [some (.ref 102), some (.int x1_s), some (.int x2_s)], [], h_s) (gI (fun v2 _ => v_s = v2)) := fun ok_s i0_s i1_s nz v_s ev_s => by
    refine wF_le (Nat.le_succ F_s) (sg_205_0 (h_s := h_s) hk ?_)
    have rv_s := rwE_v h_s.2.1 x1_s
    refine sp_203 hk (fun w_s => absurd ok_s w_s) (fun _ _ v1_s ev1 _ => ⟨fun c_s => ?_, fun _ => ?_⟩) (fun _ ez => absurd ez nz)
    · omega
    · rw [e27_s]
      refine ⟨fun c_s => absurd c_s (by omega), fun _ => ⟨fun c_s => absurd c_s (by omega), fun _ => ?_⟩⟩
      exact sp_203 hk (fun w_s => absurd ok_s w_s) (fun _ _ v5 ev5 _ => ⟨fun _ => sp_203 hk (fun w_s => absurd ok_s w_s) (fun _ _ v7 ev7 _ => Int32.toInt_inj.mp (ev_s.trans ev7.symm)) (fun _ ez => absurd ez nz), fun c_s => absurd (show v5.toInt < 0 by omega) c_s⟩) (fun _ ez => absurd ez nz)
  have cl1 : ∀ P_s : Prop, ¬ P_s → (okD x1_s ∧ 0 ≤ x2_s.toInt ∧ x2_s.toInt < (ni : Int) → P_s) → wF F_s 205 (0, [some (.ref 102), some (.int x1_s), some (.int x2_s)], [], h_s) (gI (fun v2 _ => (-1 : Int32) = v2)) := fun P_s np w_s => rf1 (fun u_s => np (w_s u_s))
  unfold okD at cl1
  refine wF_le (Nat.le_succ F_s) (sg_110_0 (h_s := h_s) hk ?_)
  rw [e77]
  refine ⟨fun c1_s => cl1 False id (fun u_s => by omega), fun c1_s => ⟨fun c2_s => cl1 False id (fun u_s => by omega), fun c2_s => ⟨fun c3_s => ⟨fun c4_s => cl1 False id (fun u_s => by omega), fun c4_s => ⟨fun c5_s => ⟨fun c6_s => cl1 False id (fun u_s => by omega), fun c6_s => ⟨fun c7_s => fun c8_s => ?_, fun c7_s => cl1 False id (fun u_s => by omega)⟩⟩, fun c5_s => cl1 False id (fun u_s => by omega)⟩⟩, fun c3_s => cl1 False id (fun u_s => by omega)⟩⟩⟩
  have ok_s : okD x1_s := by
    unfold okD
    omega
  have rf2 := rf2 ok_s (by omega) c7_s
  have z1 := azix (i := x1_s / 10) (by omega)
  have z2 := azix (i := x1_s - x1_s / 10 * 10) (by omega)
  have ts1 := (hs.1 (zix (x1_s / 10)) c8_s).1
  refine sp_140 hk c8_s ts1 (fun v9 e9_s _ => ⟨fun c9_s => fun c10_s => ?_, fun c9_s => ?_⟩)
  · have r0 : rfB h_s.2.1 (zix (x1_s / 10)) = 0 := by omega
    have rw2 : rwE h_s.2.1 x1_s = rfB h_s.2.1 (zix (x1_s - x1_s / 10 * 10)) := if_pos r0
    rw [rw2] at rf2
    have ts2 := (hs.1 (zix (x1_s - x1_s / 10 * 10)) c10_s).1
    refine sp_140 hk c10_s ts2 (fun v12 e12_s _ => ⟨fun c12_s => ?_, fun c12_s => rf2 (by omega) v12 e12_s⟩)
    have r2 : rfB h_s.2.1 (zix (x1_s - x1_s / 10 * 10)) = 0 := by omega
    have rz : rwE h_s.2.1 x1_s = 0 := rw2.trans r2
    obtain ⟨a1_s, a2, a3⟩ := row_of ts1 r0
    obtain ⟨b1, b2, b3⟩ := row_of ts2 r2
    have g1 := (hs.1 (zix (x1_s / 10)) c8_s).2
    have g2 := (hs.1 (zix (x1_s - x1_s / 10 * 10)) c10_s).2
    generalize hs1 : zix (x1_s / 10) = s1_s at *
    generalize hs2 : zix (x1_s - x1_s / 10 * 10) = s2_s at *
    refine sp_48 (f0_s := h_s.2.1) (nr := nr) hk c8_s e78 a2 (fun L_s f1_s hJ eL es fr1 hk1 => ?_)
    have hi_s : x2_s.toInt.toNat < ni := by omega
    have ei : x2_s.toInt = (x2_s.toInt.toNat : Int) := by omega
    generalize x2_s.toInt.toNat = i_s at hi_s ei
    have i8_s : i_s < 8 := by omega
    refine sp_139 (h_s := (h_s.1, f1_s, h_s.2.2.1, h_s.2.2.2)) (f0_s := f1_s) hk1 ei i8_s (fun f2_s t1_s t2_s hk2 => ?_)
    have fr2 : ∀ a_s k_s, ¬ (a_s = 50 ∧ k_s = 1) → ¬ a_s = 51 → ¬ (a_s = 88 ∧ k_s < 7) → f2_s a_s k_s = h_s.2.1 a_s k_s := fun a_s k_s q1_s q2_s q3_s => by
      rw [t2_s a_s k_s q3_s]
      exact fr1 a_s k_s q1_s q2_s
    have hJ2 : isJ nr (fun k_s => h_s.2.2.1 126 (60 * s1_s + k_s)) (h_s.2.1 125 s1_s).toInt L_s := by
      rw [a1_s]
      exact isJ_c (fun k_s hk60 => (g1 k_s hk60).symm) hJ
    have hc2 : tC nh ni nr f2_s := tC_fr (fun a_s k_s w_s => fr2 a_s k_s (by unfold inC at w_s; omega) (by unfold inC at w_s; omega) (by unfold inC at w_s; omega)) hc_s
    have lc2 : lawC q_s f2_s lw := lawC_fr hm_s (fun a_s k_s w_s => fr2 a_s k_s (by omega) (by omega) (by omega)) l4
    have cw2 : cwO f2_s 88 (owI h_s.2.1 i_s) := th_cw hc_s hi_s (fun k_s hk7 => by rw [t1_s k_s hk7]; exact fr1 _ _ (by omega) (by omega)) (fr2 _ _ (by omega) (by omega) (by omega)) (fun k_s => fr2 _ _ (by omega) (by omega) (by omega))
    have e3_s : f2_s (76 + 2 * s2_s) 3 = h_s.2.1 (76 + 2 * s2_s) 3 := fr2 _ _ (by omega) (by omega) (by omega)
    refine sp_51 (h_s := (h_s.1, f2_s, h_s.2.2.1, h_s.2.2.2)) (f0_s := f2_s) (L_s := L_s) (c_s := fun k_s => h_s.2.2.1 126 (60 * s1_s + k_s)) (told_s := fun n_s => h_s.2.2.1 126 (60 * s2_s + n_s)) (o := owI h_s.2.1 i_s) hk2 c10_s l1 hm_s lc2 (lawR_P l5) hc2 (by rw [t2_s 50 1 (by omega)]; exact eL) (fun k_s hkL => ?_) hJ2.2.2.1 (fun n_s hn60 => g2 n_s hn60) (by rw [e3_s]; exact b2) (by rw [e3_s]; exact b3) cw2 (tC_oB hc_s hi_s) (fun v_s f3_s ev_s fr3 _ => ?_)
    · rw [t2_s 51 k_s (by omega), es k_s hkL]
      have := hJ.1
      rw [g1 k_s (by omega)]
    · have fr4 : ∀ a_s k_s, 100 ≤ a_s → f3_s a_s k_s = h_s.2.1 a_s k_s := fun a_s k_s ha_s => by
        rw [fr3 a_s k_s (by omega) (by omega) (by omega) (by omega) (by omega)]
        exact fr2 a_s k_s (by omega) (by omega) (by omega)
      rw [goJ_fr (f_s := h_s.2.1) (fun k_s => fr2 103 k_s (by omega) (by omega) (by omega)), e3_s] at ev_s
      have m3_s : tM nh ni nr f3_s := tM_fr (fun k_s _ _ => fr4 _ _ (by omega)) (fun k_s _ => fr4 _ _ (by omega)) m0_s
      have lr3 : lawR f3_s lw := lawR_fr (fr4 _ _ (by omega)) (fun k_s _ => fr4 _ _ (by omega)) l5
      have e273 := sb1 m3_s.2.1.2.1
      have rz3 : rwE f3_s x1_s = 0 := (rwE_fr (fun k_s => fr4 124 k_s (by omega))).trans rz
      refine wF_le (Nat.le_succ F_s) (sg_205_0 (h_s := (h_s.1, f3_s, h_s.2.2.1, h_s.2.2.2)) hk ?_)
      refine sp_203 (h_s := (h_s.1, f3_s, h_s.2.2.1, h_s.2.2.2)) hk (fun w_s => absurd ok_s w_s) (fun _ nz => absurd rz3 nz) (fun _ _ _ => ⟨fun c_s => absurd c_s (by decide), fun _ => ?_⟩)
      dsimp only
      rw [e273]
      refine ⟨fun c_s => absurd c_s (by omega), fun _ => ⟨fun c_s => absurd c_s (by omega), fun _ => ?_⟩⟩
      refine sp_203 (h_s := (h_s.1, f3_s, h_s.2.2.1, h_s.2.2.2)) hk (fun w_s => absurd ok_s w_s) (fun _ nz => absurd rz3 nz) (fun _ _ _ => ⟨fun c_s => absurd c_s (by decide), fun _ => ?_⟩)
      refine sp_204 (h_s := (h_s.1, f3_s, h_s.2.2.1, h_s.2.2.2)) (f0_s := f3_s) (i_s := i_s) (s1_s := s1_s) (s2_s := s2_s) (L_s := L_s) (c_s := fun k_s => h_s.2.2.1 126 (60 * s1_s + k_s)) (told_s := fun n_s => h_s.2.2.1 126 (60 * s2_s + n_s)) hk m3_s lr3 (lawR_P l5) ei hi_s z1.symm z2.symm c8_s c10_s (by rw [fr4 125 _ (by omega), a1_s]; exact a2) (by rw [fr4 125 _ (by omega), b1]; exact b2) (by rw [fr4 125 _ (by omega), b1]; exact b3) (fun _ => rfl) (fun _ => rfl) (by rw [fr4 125 _ (by omega)]; exact hJ2) (fun v2 f4_s ev2 _ _ => ?_)
      rw [goJ_fr (f_s := h_s.2.1) (fun k_s => fr4 103 k_s (by omega)), owI_fr (f_s := h_s.2.1) (fun k_s => fr4 103 k_s (by omega)), fr4 125 _ (by omega), b1] at ev2
      exact Int32.toInt_inj.mp (ev_s.trans ev2.symm)
  · have e_s : rwE h_s.2.1 x1_s = rfB h_s.2.1 (zix (x1_s / 10)) := if_neg (by omega)
    rw [e_s] at rf2
    exact rf2 (by omega) v9 e9_s
end JU
/-! What ended runs give: printed by a program (wip/fun/sg.py). -/
/-- ColdShod.journey(III)I, from 0 on -/
theorem sg_103_0 {F_s : Nat} {x1_s : Int32} {x2_s : Int32} {x3 : Int32} {h_s : zH} {K_s : Int32 → zH → Prop} (hk : hKn h_s) (t_s : (x1_s.toInt < 0 → K_s (-1) h_s) ∧ (¬ x1_s.toInt < 0 → ((x1_s.toInt < 6 → ((x2_s.toInt < 0 → K_s (-1) h_s) ∧ (¬ x2_s.toInt < 0 → ((x2_s.toInt < (h_s.2.1 7 7).toInt → ((x3.toInt < 0 → K_s (-1) h_s) ∧ (¬ x3.toInt < 0 → ((4 < x3.toInt → K_s (-1) h_s) ∧ (¬ 4 < x3.toInt → (zix x1_s < 6 → wF F_s 140 (0, [some (.ref (76 + 2 * (zix x1_s)))], [], h_s) (gI (fun v8 h8 => hKn h8 → (v8.toInt = 0 → wF F_s 48 (0, [some (.ref 50), some (.ref (76 + 2 * (zix x1_s))), some (.int (h8.2.1 7 8)), none, none, none], [], h8) (gV (fun h11 => hKn h11 → wF F_s 139 (0, [some (.ref 6), some (.int x2_s)], [], h11) (gR (fun v12 h12 => hKn h12 → wF F_s 49 (0, [some (.ref 50), some (.ref v12), some (.ref 7), none], [], h12) (gI (fun v13 h13 => hKn h13 → (x3.toInt = 0 → K_s (h13.2.1 50 2) h13) ∧ (¬ x3.toInt = 0 → (x3.toInt = 1 → K_s (h13.2.1 50 3) h13) ∧ (¬ x3.toInt = 1 → (x3.toInt = 2 → K_s (h13.2.1 v12 2) h13) ∧ (¬ x3.toInt = 2 → (x3.toInt = 3 → K_s (h13.2.1 v12 3) h13) ∧ (¬ x3.toInt = 3 → ((v13.toInt = 0 → K_s (h13.2.1 50 3) h13) ∧ (¬ v13.toInt = 0 → K_s (-2) h13))))))))))))) ∧ (¬ v8.toInt = 0 → K_s v8 h8))))))))) ∧ (¬ x2_s.toInt < (h_s.2.1 7 7).toInt → K_s (-1) h_s))))) ∧ (¬ x1_s.toInt < 6 → K_s (-1) h_s)))) : wF (F_s + 1) 103 (0, [some (.ref 6), some (.int x1_s), some (.int x2_s), some (.int x3), none, none, none], [], h_s) (gI K_s) := by
  refine w_0 (pc := 0) (e_s := (1, 1, 1, 0, 0, .null, [])) (y_s := (1, [some (.ref _), some (.int _), some (.int _), some (.int _), none, none, none], [.int _], _)) rfl (u_ rfl) ?_
  refine wcI (pc := 1) (len_s := 3) rfl rfl (l := [some (.int _)]) rfl ?_
  refine w_t (pc := 0) (e_s := (1, 1, 0, 0, 0, .null, [])) (y_s := (1, [some (.int _)], [.int _], _)) rfl (u_ rfl) ?_
  refine wq2 (pc := 1) (len_s := 3) rfl rfl (fun c1_s => ?_) (fun c1_s => ?_)
  · replace t_s := t_s.1 c1_s
    refine w_t (pc := 14) (e_s := (0, 1, 0, 0, 0, .int 0, [])) (y_s := (15, [some (.int _)], [.int _], _)) rfl (u_ rfl) ?_
    refine wrI (pc := 15) (len_s := 1) rfl hk ?_
    show wF _ 103 (4, [some (.ref _), some (.int _), some (.int _), some (.int _), none, none, none], [.int _], _) _
    refine w_t (pc := 4) (e_s := (15, 3, 27, 0, 0, .null, [])) (y_s := (27, [some (.ref _), some (.int _), some (.int _), some (.int _), none, none, none], [], _)) rfl (u_ rfl) ?_
    refine w_t (pc := 27) (e_s := (0, 1, 0, 0, 0, .int (-1), [])) (y_s := (28, [some (.ref _), some (.int _), some (.int _), some (.int _), none, none, none], [.int _], _)) rfl (u_ rfl) ?_
    exact wrI (pc := 28) (len_s := 1) rfl hk t_s
  · replace t_s := t_s.2 c1_s
    refine w_t (pc := 4) (e_s := (1, 1, 0, 0, 0, .null, [])) (y_s := (5, [some (.int _)], [.int _], _)) rfl (u_ rfl) ?_
    refine w_t (pc := 5) (e_s := (0, 2, 0, 0, 0, .int 6, [])) (y_s := (7, [some (.int _)], [.int _, .int _], _)) rfl (u_ rfl) ?_
    refine wi3 (pc := 7) (len_s := 3) (Y := 6) rfl rfl (by decide) (fun c2_s => ?_) (fun c2_s => ?_)
    · replace t_s := t_s.1 c2_s
      refine w_t (pc := 10) (e_s := (0, 1, 0, 0, 0, .int 1, [])) (y_s := (11, [some (.int _)], [.int _], _)) rfl (u_ rfl) ?_
      refine w_t (pc := 11) (e_s := (17, 3, 15, 0, 0, .null, [])) (y_s := (15, [some (.int _)], [.int _], _)) rfl (u_ rfl) ?_
      refine wrI (pc := 15) (len_s := 1) rfl hk ?_
      show wF _ 103 (4, [some (.ref _), some (.int _), some (.int _), some (.int _), none, none, none], [.int _], _) _
      refine w_t (pc := 4) (e_s := (15, 3, 27, 0, 0, .null, [])) (y_s := (7, [some (.ref _), some (.int _), some (.int _), some (.int _), none, none, none], [], _)) rfl (u_ rfl) ?_
      refine w_t (pc := 7) (e_s := (3, 1, 0, 0, 0, .null, [])) (y_s := (8, [some (.ref _), some (.int _), some (.int _), some (.int _), none, none, none], [.ref _], _)) rfl (u_ rfl) ?_
      refine w20r (pc := 8) (len_s := 3) (q_s := 7) rfl (krq hk rfl) ?_
      refine w_t (pc := 11) (e_s := (1, 1, 2, 0, 0, .null, [])) (y_s := (12, [some (.ref _), some (.int _), some (.int _), some (.int _), none, none, none], [.int _, .ref _], _)) rfl (u_ rfl) ?_
      refine wcI (pc := 12) (len_s := 3) rfl rfl (l := [some (.ref _), some (.int _)]) rfl ?_
      refine w_t (pc := 0) (e_s := (1, 1, 1, 0, 0, .null, [])) (y_s := (1, [some (.ref _), some (.int _)], [.int _], _)) rfl (u_ rfl) ?_
      refine wq2 (pc := 1) (len_s := 3) rfl rfl (fun c3_s => ?_) (fun c3_s => ?_)
      · replace t_s := t_s.1 c3_s
        refine w_t (pc := 16) (e_s := (0, 1, 0, 0, 0, .int 0, [])) (y_s := (17, [some (.ref _), some (.int _)], [.int _], _)) rfl (u_ rfl) ?_
        refine wrI (pc := 17) (len_s := 1) rfl hk ?_
        show wF _ 103 (15, [some (.ref _), some (.int _), some (.int _), some (.int _), none, none, none], [.int _], _) _
        refine w_t (pc := 15) (e_s := (15, 3, 27, 0, 0, .null, [])) (y_s := (27, [some (.ref _), some (.int _), some (.int _), some (.int _), none, none, none], [], _)) rfl (u_ rfl) ?_
        refine w_t (pc := 27) (e_s := (0, 1, 0, 0, 0, .int (-1), [])) (y_s := (28, [some (.ref _), some (.int _), some (.int _), some (.int _), none, none, none], [.int _], _)) rfl (u_ rfl) ?_
        exact wrI (pc := 28) (len_s := 1) rfl hk t_s
      · replace t_s := t_s.2 c3_s
        refine w_t (pc := 4) (e_s := (1, 1, 1, 0, 0, .null, [])) (y_s := (5, [some (.ref _), some (.int _)], [.int _], _)) rfl (u_ rfl) ?_
        refine w_t (pc := 5) (e_s := (3, 1, 0, 0, 0, .null, [])) (y_s := (6, [some (.ref _), some (.int _)], [.ref _, .int _], _)) rfl (u_ rfl) ?_
        refine w20 (pc := 6) (len_s := 3) rfl ?_
        refine wi3 (pc := 9) (len_s := 3) rfl rfl rfl (fun c4_s => ?_) (fun c4_s => ?_)
        · replace t_s := t_s.1 c4_s
          refine w_t (pc := 12) (e_s := (0, 1, 0, 0, 0, .int 1, [])) (y_s := (13, [some (.ref _), some (.int _)], [.int _], _)) rfl (u_ rfl) ?_
          refine w_t (pc := 13) (e_s := (17, 3, 17, 0, 0, .null, [])) (y_s := (17, [some (.ref _), some (.int _)], [.int _], _)) rfl (u_ rfl) ?_
          refine wrI (pc := 17) (len_s := 1) rfl hk ?_
          show wF _ 103 (15, [some (.ref _), some (.int _), some (.int _), some (.int _), none, none, none], [.int _], _) _
          refine w_t (pc := 15) (e_s := (15, 3, 27, 0, 0, .null, [])) (y_s := (18, [some (.ref _), some (.int _), some (.int _), some (.int _), none, none, none], [], _)) rfl (u_ rfl) ?_
          refine w_t (pc := 18) (e_s := (1, 1, 3, 0, 0, .null, [])) (y_s := (19, [some (.ref _), some (.int _), some (.int _), some (.int _), none, none, none], [.int _], _)) rfl (u_ rfl) ?_
          refine wq2 (pc := 19) (len_s := 3) rfl rfl (fun c5_s => ?_) (fun c5_s => ?_)
          · replace t_s := t_s.1 c5_s
            refine w_t (pc := 27) (e_s := (0, 1, 0, 0, 0, .int (-1), [])) (y_s := (28, [some (.ref _), some (.int _), some (.int _), some (.int _), none, none, none], [.int _], _)) rfl (u_ rfl) ?_
            exact wrI (pc := 28) (len_s := 1) rfl hk t_s
          · replace t_s := t_s.2 c5_s
            refine w_t (pc := 22) (e_s := (1, 1, 3, 0, 0, .null, [])) (y_s := (23, [some (.ref _), some (.int _), some (.int _), some (.int _), none, none, none], [.int _], _)) rfl (u_ rfl) ?_
            refine w_t (pc := 23) (e_s := (0, 1, 0, 0, 0, .int 4, [])) (y_s := (24, [some (.ref _), some (.int _), some (.int _), some (.int _), none, none, none], [.int _, .int _], _)) rfl (u_ rfl) ?_
            refine wi5 (pc := 24) (len_s := 3) (Y := 4) rfl rfl (by decide) (fun c6_s => ?_) (fun c6_s => ?_)
            · replace t_s := t_s.1 c6_s
              refine w_t (pc := 27) (e_s := (0, 1, 0, 0, 0, .int (-1), [])) (y_s := (28, [some (.ref _), some (.int _), some (.int _), some (.int _), none, none, none], [.int _], _)) rfl (u_ rfl) ?_
              exact wrI (pc := 28) (len_s := 1) rfl hk t_s
            · replace t_s := t_s.2 c6_s
              refine w_t (pc := 29) (e_s := (3, 1, 0, 0, 0, .null, [])) (y_s := (30, [some (.ref _), some (.int _), some (.int _), some (.int _), none, none, none], [.ref _], _)) rfl (u_ rfl) ?_
              refine w20r (pc := 30) (len_s := 3) (q_s := 71) rfl (krq hk rfl) ?_
              refine w_t (pc := 33) (e_s := (1, 1, 1, 0, 0, .null, [])) (y_s := (34, [some (.ref _), some (.int _), some (.int _), some (.int _), none, none, none], [.int _, .ref _], _)) rfl (u_ rfl) ?_
              refine w24 (g_s := fun j_ => 76 + 2 * j_) (pc := 34) (len_s := 1) hk rfl (hk.1 71 4 6 rfl rfl) kg71 (fun c7_s => ?_)
              replace t_s := t_s c7_s
              refine wcI (pc := 35) (len_s := 3) rfl rfl (l := [some (.ref _)]) rfl (wmI t_s (fun v8 h8 hk t_s => ?_))
              replace t_s := t_s hk
              refine w_t (pc := 38) (e_s := (4, 2, 4, 0, 0, .null, [])) (y_s := (40, [some (.ref _), some (.int _), some (.int _), some (.int _), some (.int _), none, none], [], _)) rfl (u_ rfl) ?_
              refine w_t (pc := 40) (e_s := (1, 2, 4, 0, 0, .null, [])) (y_s := (42, [some (.ref _), some (.int _), some (.int _), some (.int _), some (.int _), none, none], [.int _], _)) rfl (u_ rfl) ?_
              refine wq0 (pc := 42) (len_s := 3) rfl rfl (fun c9_s => ?_) (fun c9_s => ?_)
              · replace t_s := t_s.1 c9_s
                refine w_t (pc := 48) (e_s := (3, 1, 0, 0, 0, .null, [])) (y_s := (49, [some (.ref _), some (.int _), some (.int _), some (.int _), some (.int _), none, none], [.ref _], _)) rfl (u_ rfl) ?_
                refine w20r (pc := 49) (len_s := 3) (q_s := 50) rfl (krq hk rfl) ?_
                refine w_t (pc := 52) (e_s := (3, 1, 0, 0, 0, .null, [])) (y_s := (53, [some (.ref _), some (.int _), some (.int _), some (.int _), some (.int _), none, none], [.ref _, .ref _], _)) rfl (u_ rfl) ?_
                refine w20r (pc := 53) (len_s := 3) (q_s := 71) rfl (krq hk rfl) ?_
                refine w_t (pc := 56) (e_s := (1, 1, 1, 0, 0, .null, [])) (y_s := (57, [some (.ref _), some (.int _), some (.int _), some (.int _), some (.int _), none, none], [.int _, .ref _, .ref _], _)) rfl (u_ rfl) ?_
                refine w24 (g_s := fun j_ => 76 + 2 * j_) (pc := 57) (len_s := 1) hk rfl (hk.1 71 4 6 rfl rfl) kg71 (fun c10_s => ?_)
                refine w_t (pc := 58) (e_s := (3, 1, 0, 0, 0, .null, [])) (y_s := (59, [some (.ref _), some (.int _), some (.int _), some (.int _), some (.int _), none, none], [.ref _, .ref _, .ref _], _)) rfl (u_ rfl) ?_
                refine w20r (pc := 59) (len_s := 3) (q_s := 7) rfl (krq hk rfl) ?_
                refine w20 (pc := 62) (len_s := 3) rfl ?_
                refine wcV (pc := 65) (len_s := 3) rfl rfl (l := [some (.ref _), some (.ref _), some (.int _), none, none, none]) rfl (wmV t_s (fun h11 hk t_s => ?_))
                replace t_s := t_s hk
                refine w_t (pc := 68) (e_s := (3, 1, 0, 0, 0, .null, [])) (y_s := (69, [some (.ref _), some (.int _), some (.int _), some (.int _), some (.int _), none, none], [.ref _], _)) rfl (u_ rfl) ?_
                refine w_t (pc := 69) (e_s := (1, 1, 2, 0, 0, .null, [])) (y_s := (70, [some (.ref _), some (.int _), some (.int _), some (.int _), some (.int _), none, none], [.int _, .ref _], _)) rfl (u_ rfl) ?_
                refine wcR (pc := 70) (len_s := 3) rfl rfl (l := [some (.ref _), some (.int _)]) rfl (wmR t_s (fun v12 h12 hk t_s => ?_))
                replace t_s := t_s hk
                refine w_t (pc := 73) (e_s := (6, 2, 5, 0, 0, .null, [])) (y_s := (75, [some (.ref _), some (.int _), some (.int _), some (.int _), some (.int _), some (.ref _), none], [], _)) rfl (u_ rfl) ?_
                refine w_t (pc := 75) (e_s := (3, 1, 0, 0, 0, .null, [])) (y_s := (76, [some (.ref _), some (.int _), some (.int _), some (.int _), some (.int _), some (.ref _), none], [.ref _], _)) rfl (u_ rfl) ?_
                refine w20r (pc := 76) (len_s := 3) (q_s := 50) rfl (krq hk rfl) ?_
                refine w_t (pc := 79) (e_s := (3, 2, 5, 0, 0, .null, [])) (y_s := (81, [some (.ref _), some (.int _), some (.int _), some (.int _), some (.int _), some (.ref _), none], [.ref _, .ref _], _)) rfl (u_ rfl) ?_
                refine w_t (pc := 81) (e_s := (3, 1, 0, 0, 0, .null, [])) (y_s := (82, [some (.ref _), some (.int _), some (.int _), some (.int _), some (.int _), some (.ref _), none], [.ref _, .ref _, .ref _], _)) rfl (u_ rfl) ?_
                refine w20r (pc := 82) (len_s := 3) (q_s := 7) rfl (krq hk rfl) ?_
                refine wcI (pc := 85) (len_s := 3) rfl rfl (l := [some (.ref _), some (.ref _), some (.ref _), none]) rfl (wmI t_s (fun v13 h13 hk t_s => ?_))
                replace t_s := t_s hk
                refine w_t (pc := 88) (e_s := (4, 2, 6, 0, 0, .null, [])) (y_s := (90, [some (.ref _), some (.int _), some (.int _), some (.int _), some (.int _), some (.ref _), some (.int _)], [], _)) rfl (u_ rfl) ?_
                refine w_t (pc := 90) (e_s := (1, 1, 3, 0, 0, .null, [])) (y_s := (91, [some (.ref _), some (.int _), some (.int _), some (.int _), some (.int _), some (.ref _), some (.int _)], [.int _], _)) rfl (u_ rfl) ?_
                refine wsw (pc := 91) (len_s := 29) rfl ?_
                refine wsc (X_s := 0) rfl (by decide) (fun c14_s => ?_) (fun c14_s => ?_)
                · replace t_s := t_s.1 c14_s
                  refine w_t (pc := 120) (e_s := (3, 1, 0, 0, 0, .null, [])) (y_s := (121, [some (.ref _), some (.int _), some (.int _), some (.int _), some (.int _), some (.ref _), some (.int _)], [.ref _], _)) rfl (u_ rfl) ?_
                  refine w20r (pc := 121) (len_s := 3) (q_s := 50) rfl (krq hk rfl) ?_
                  refine w20 (pc := 124) (len_s := 3) rfl ?_
                  exact wrI (pc := 127) (len_s := 1) rfl hk t_s
                · replace t_s := t_s.2 c14_s
                  refine wsc (X_s := 1) rfl (by decide) (fun c15_s => ?_) (fun c15_s => ?_)
                  · replace t_s := t_s.1 c15_s
                    refine w_t (pc := 128) (e_s := (3, 1, 0, 0, 0, .null, [])) (y_s := (129, [some (.ref _), some (.int _), some (.int _), some (.int _), some (.int _), some (.ref _), some (.int _)], [.ref _], _)) rfl (u_ rfl) ?_
                    refine w20r (pc := 129) (len_s := 3) (q_s := 50) rfl (krq hk rfl) ?_
                    refine w20 (pc := 132) (len_s := 3) rfl ?_
                    exact wrI (pc := 135) (len_s := 1) rfl hk t_s
                  · replace t_s := t_s.2 c15_s
                    refine wsc (X_s := 2) rfl (by decide) (fun c16 => ?_) (fun c16 => ?_)
                    · replace t_s := t_s.1 c16
                      refine w_t (pc := 136) (e_s := (3, 2, 5, 0, 0, .null, [])) (y_s := (138, [some (.ref _), some (.int _), some (.int _), some (.int _), some (.int _), some (.ref _), some (.int _)], [.ref _], _)) rfl (u_ rfl) ?_
                      refine w20 (pc := 138) (len_s := 3) rfl ?_
                      exact wrI (pc := 141) (len_s := 1) rfl hk t_s
                    · replace t_s := t_s.2 c16
                      refine wsc (X_s := 3) rfl (by decide) (fun c17 => ?_) (fun c17 => ?_)
                      · replace t_s := t_s.1 c17
                        refine w_t (pc := 142) (e_s := (3, 2, 5, 0, 0, .null, [])) (y_s := (144, [some (.ref _), some (.int _), some (.int _), some (.int _), some (.int _), some (.ref _), some (.int _)], [.ref _], _)) rfl (u_ rfl) ?_
                        refine w20 (pc := 144) (len_s := 3) rfl ?_
                        exact wrI (pc := 147) (len_s := 1) rfl hk t_s
                      · replace t_s := t_s.2 c17
                        show wF _ _ (148, _, _, _) _
                        refine w_t (pc := 148) (e_s := (1, 2, 6, 0, 0, .null, [])) (y_s := (150, [some (.ref _), some (.int _), some (.int _), some (.int _), some (.int _), some (.ref _), some (.int _)], [.int _], _)) rfl (u_ rfl) ?_
                        refine wq0 (pc := 150) (len_s := 3) rfl rfl (fun c18_s => ?_) (fun c18_s => ?_)
                        · replace t_s := t_s.1 c18_s
                          refine w_t (pc := 158) (e_s := (3, 1, 0, 0, 0, .null, [])) (y_s := (159, [some (.ref _), some (.int _), some (.int _), some (.int _), some (.int _), some (.ref _), some (.int _)], [.ref _], _)) rfl (u_ rfl) ?_
                          refine w20r (pc := 159) (len_s := 3) (q_s := 50) rfl (krq hk rfl) ?_
                          refine w20 (pc := 162) (len_s := 3) rfl ?_
                          exact wrI (pc := 165) (len_s := 1) rfl hk t_s
                        · replace t_s := t_s.2 c18_s
                          refine w_t (pc := 153) (e_s := (0, 2, 0, 0, 0, .int (-2), [])) (y_s := (155, [some (.ref _), some (.int _), some (.int _), some (.int _), some (.int _), some (.ref _), some (.int _)], [.int _], _)) rfl (u_ rfl) ?_
                          refine w_t (pc := 155) (e_s := (17, 3, 165, 0, 0, .null, [])) (y_s := (165, [some (.ref _), some (.int _), some (.int _), some (.int _), some (.int _), some (.ref _), some (.int _)], [.int _], _)) rfl (u_ rfl) ?_
                          exact wrI (pc := 165) (len_s := 1) rfl hk t_s
              · replace t_s := t_s.2 c9_s
                refine w_t (pc := 45) (e_s := (1, 2, 4, 0, 0, .null, [])) (y_s := (47, [some (.ref _), some (.int _), some (.int _), some (.int _), some (.int _), none, none], [.int _], _)) rfl (u_ rfl) ?_
                exact wrI (pc := 47) (len_s := 1) rfl hk t_s
        · replace t_s := t_s.2 c4_s
          refine w_t (pc := 16) (e_s := (0, 1, 0, 0, 0, .int 0, [])) (y_s := (17, [some (.ref _), some (.int _)], [.int _], _)) rfl (u_ rfl) ?_
          refine wrI (pc := 17) (len_s := 1) rfl hk ?_
          show wF _ 103 (15, [some (.ref _), some (.int _), some (.int _), some (.int _), none, none, none], [.int _], _) _
          refine w_t (pc := 15) (e_s := (15, 3, 27, 0, 0, .null, [])) (y_s := (27, [some (.ref _), some (.int _), some (.int _), some (.int _), none, none, none], [], _)) rfl (u_ rfl) ?_
          refine w_t (pc := 27) (e_s := (0, 1, 0, 0, 0, .int (-1), [])) (y_s := (28, [some (.ref _), some (.int _), some (.int _), some (.int _), none, none, none], [.int _], _)) rfl (u_ rfl) ?_
          exact wrI (pc := 28) (len_s := 1) rfl hk t_s
    · replace t_s := t_s.2 c2_s
      refine w_t (pc := 14) (e_s := (0, 1, 0, 0, 0, .int 0, [])) (y_s := (15, [some (.int _)], [.int _], _)) rfl (u_ rfl) ?_
      refine wrI (pc := 15) (len_s := 1) rfl hk ?_
      show wF _ 103 (4, [some (.ref _), some (.int _), some (.int _), some (.int _), none, none, none], [.int _], _) _
      refine w_t (pc := 4) (e_s := (15, 3, 27, 0, 0, .null, [])) (y_s := (27, [some (.ref _), some (.int _), some (.int _), some (.int _), none, none, none], [], _)) rfl (u_ rfl) ?_
      refine w_t (pc := 27) (e_s := (0, 1, 0, 0, 0, .int (-1), [])) (y_s := (28, [some (.ref _), some (.int _), some (.int _), some (.int _), none, none, none], [.int _], _)) rfl (u_ rfl) ?_
      exact wrI (pc := 28) (len_s := 1) rfl hk t_s
/-- ColdShodModel.journey(III)I, from 0 on -/
theorem sg_189_0 {F_s : Nat} {x1_s : Int32} {x2_s : Int32} {x3 : Int32} {h_s : zH} {K_s : Int32 → zH → Prop} (hk : hKn h_s) (t_s : (x1_s.toInt < 0 → K_s (-1) h_s) ∧ (¬ x1_s.toInt < 0 → ((5 < x1_s.toInt → K_s (-1) h_s) ∧ (¬ 5 < x1_s.toInt → (zix x1_s < 6 → ((h_s.2.1 124 (zix x1_s)).toInt < 0 → ((x2_s.toInt < 0 → K_s (-1) h_s) ∧ (¬ x2_s.toInt < 0 → ((((h_s.2.1 102 7) - 1).toInt < x2_s.toInt → K_s (-1) h_s) ∧ (¬ ((h_s.2.1 102 7) - 1).toInt < x2_s.toInt → ((x3.toInt < 0 → K_s (-1) h_s) ∧ (¬ x3.toInt < 0 → ((4 < x3.toInt → K_s (-1) h_s) ∧ (¬ 4 < x3.toInt → K_s (-11) h_s))))))))) ∧ (¬ (h_s.2.1 124 (zix x1_s)).toInt < 0 → (((h_s.2.1 124 (zix x1_s)).toInt = 50 → ((x2_s.toInt < 0 → K_s (-1) h_s) ∧ (¬ x2_s.toInt < 0 → ((((h_s.2.1 102 7) - 1).toInt < x2_s.toInt → K_s (-1) h_s) ∧ (¬ ((h_s.2.1 102 7) - 1).toInt < x2_s.toInt → ((x3.toInt < 0 → K_s (-1) h_s) ∧ (¬ x3.toInt < 0 → ((4 < x3.toInt → K_s (-1) h_s) ∧ (¬ 4 < x3.toInt → wF F_s 178 (0, [some (.ref 102), some (.int x2_s), none], [], h_s) (gV (fun h29 => hKn h29 → wF F_s 188 (0, [some (.ref 102), some (.int x1_s), none], [], h29) (gV (fun h30 => hKn h30 → (x3.toInt = 0 → K_s (h30.2.1 102 24) h30) ∧ (¬ x3.toInt = 0 → (x3.toInt = 1 → K_s (h30.2.1 102 25) h30) ∧ (¬ x3.toInt = 1 → (x3.toInt = 2 → K_s (h30.2.1 112 2) h30) ∧ (¬ x3.toInt = 2 → (x3.toInt = 3 → K_s (h30.2.1 112 3) h30) ∧ (¬ x3.toInt = 3 → wF F_s 187 (0, [some (.ref 102), some (.int x1_s), none], [], h30) (gI (fun v37 h37 => hKn h37 → ((h30.2.1 102 25).toInt < v37.toInt → K_s (h37.2.1 102 25) h37) ∧ (¬ (h30.2.1 102 25).toInt < v37.toInt → K_s (-2) h37)))))))))))))))))))) ∧ (¬ (h_s.2.1 124 (zix x1_s)).toInt = 50 → ((x2_s.toInt < 0 → K_s (-1) h_s) ∧ (¬ x2_s.toInt < 0 → ((((h_s.2.1 102 7) - 1).toInt < x2_s.toInt → K_s (-1) h_s) ∧ (¬ ((h_s.2.1 102 7) - 1).toInt < x2_s.toInt → ((x3.toInt < 0 → K_s (-1) h_s) ∧ (¬ x3.toInt < 0 → ((4 < x3.toInt → K_s (-1) h_s) ∧ (¬ 4 < x3.toInt → K_s (-12) h_s)))))))))))))))) : wF (F_s + 1) 189 (0, [some (.ref 102), some (.int x1_s), some (.int x2_s), some (.int x3)], [], h_s) (gI K_s) := by
  refine w_0 (pc := 0) (e_s := (3, 1, 0, 0, 0, .null, [])) (y_s := (1, [some (.ref _), some (.int _), some (.int _), some (.int _)], [.ref _], _)) rfl (u_ rfl) ?_
  refine w_t (pc := 1) (e_s := (1, 1, 1, 0, 0, .null, [])) (y_s := (2, [some (.ref _), some (.int _), some (.int _), some (.int _)], [.int _, .ref _], _)) rfl (u_ rfl) ?_
  refine wcI (pc := 2) (len_s := 3) rfl rfl (l := [some (.ref _), some (.int _)]) rfl ?_
  refine w_t (pc := 0) (e_s := (1, 1, 1, 0, 0, .null, [])) (y_s := (1, [some (.ref _), some (.int _)], [.int _], _)) rfl (u_ rfl) ?_
  refine wcI (pc := 1) (len_s := 3) rfl rfl (l := [some (.int _)]) rfl ?_
  refine w_t (pc := 0) (e_s := (1, 1, 0, 0, 0, .null, [])) (y_s := (1, [some (.int _)], [.int _], _)) rfl (u_ rfl) ?_
  refine w_t (pc := 1) (e_s := (10, 1, 0, 0, 0, .null, [])) (y_s := (2, [some (.int _)], [.long (Int32.toInt64 _)], _)) rfl (u_ rfl) ?_
  refine w_t (pc := 2) (e_s := (0, 1, 0, 0, 0, .long 0, [])) (y_s := (3, [some (.int _)], [.long _, .long _], _)) rfl (u_ rfl) ?_
  refine w_t (pc := 3) (e_s := (0, 3, 0, 0, 0, .long 5, [(0, 1063)])) (y_s := (6, [some (.int _)], [.long _, .long _, .long _], _)) rfl (u_ rfl) ?_
  refine wcI (pc := 6) (len_s := 3) rfl rfl (l := [some (.long _), none, some (.long _), none, some (.long _), none]) rfl ?_
  refine w_t (pc := 0) (e_s := (2, 1, 0, 0, 0, .null, [])) (y_s := (1, [some (.long _), none, some (.long _), none, some (.long _), none], [.long _], _)) rfl (u_ rfl) ?_
  refine w_t (pc := 1) (e_s := (2, 1, 2, 0, 0, .null, [])) (y_s := (2, [some (.long _), none, some (.long _), none, some (.long _), none], [.long _, .long _], _)) rfl (u_ rfl) ?_
  refine w_t (pc := 2) (e_s := (14, 1, 0, 0, 0, .null, [])) (y_s := (3, [some (.long _), none, some (.long _), none, some (.long _), none], [.int (lg_cmp _ _)], _)) rfl (u_ rfl) ?_
  refine wl2 (pc := 3) (len_s := 3) (Y := 0) rfl (Int32.toInt_toInt64 _) (by decide) (fun c1_s => ?_) (fun c1_s => ?_)
  · replace t_s := t_s.1 c1_s
    refine w_t (pc := 17) (e_s := (0, 1, 0, 0, 0, .int 0, [])) (y_s := (18, [some (.long _), none, some (.long _), none, some (.long _), none], [.int _], _)) rfl (u_ rfl) ?_
    refine wrI (pc := 18) (len_s := 1) rfl hk ?_
    show wF _ 228 (9, [some (.int _)], [.int _], _) _
    refine wrI (pc := 9) (len_s := 1) rfl hk ?_
    show wF _ 186 (4, [some (.ref _), some (.int _)], [.int _], _) _
    refine w_t (pc := 4) (e_s := (15, 3, 11, 1, 0, .null, [])) (y_s := (7, [some (.ref _), some (.int _)], [], _)) rfl (u_ rfl) ?_
    refine w_t (pc := 7) (e_s := (0, 1, 0, 0, 0, .int (-1), [])) (y_s := (8, [some (.ref _), some (.int _)], [.int _], _)) rfl (u_ rfl) ?_
    refine w_t (pc := 8) (e_s := (17, 3, 42, 0, 0, .null, [])) (y_s := (42, [some (.ref _), some (.int _)], [.int _], _)) rfl (u_ rfl) ?_
    refine wrI (pc := 42) (len_s := 1) rfl hk ?_
    show wF _ 189 (5, [some (.ref _), some (.int _), some (.int _), some (.int _)], [.int _], _) _
    refine w_t (pc := 5) (e_s := (0, 1, 0, 0, 0, .int (-1), [])) (y_s := (6, [some (.ref _), some (.int _), some (.int _), some (.int _)], [.int _, .int _], _)) rfl (u_ rfl) ?_
    refine w_t (pc := 6) (e_s := (16, 3, 30, 0, 0, .null, [])) (y_s := (30, [some (.ref _), some (.int _), some (.int _), some (.int _)], [], _)) rfl (u_ rfl) ?_
    refine w_t (pc := 30) (e_s := (0, 1, 0, 0, 0, .int (-1), [])) (y_s := (31, [some (.ref _), some (.int _), some (.int _), some (.int _)], [.int _], _)) rfl (u_ rfl) ?_
    exact wrI (pc := 31) (len_s := 1) rfl hk t_s
  · replace t_s := t_s.2 c1_s
    refine w_t (pc := 6) (e_s := (2, 1, 0, 0, 0, .null, [])) (y_s := (7, [some (.long _), none, some (.long _), none, some (.long _), none], [.long _], _)) rfl (u_ rfl) ?_
    refine w_t (pc := 7) (e_s := (2, 2, 4, 0, 0, .null, [])) (y_s := (9, [some (.long _), none, some (.long _), none, some (.long _), none], [.long _, .long _], _)) rfl (u_ rfl) ?_
    refine w_t (pc := 9) (e_s := (14, 1, 0, 0, 0, .null, [])) (y_s := (10, [some (.long _), none, some (.long _), none, some (.long _), none], [.int (lg_cmp _ _)], _)) rfl (u_ rfl) ?_
    refine wl4 (pc := 10) (len_s := 3) (Y := 5) rfl (Int32.toInt_toInt64 _) (by decide) (fun c2_s => ?_) (fun c2_s => ?_)
    · replace t_s := t_s.1 c2_s
      refine w_t (pc := 17) (e_s := (0, 1, 0, 0, 0, .int 0, [])) (y_s := (18, [some (.long _), none, some (.long _), none, some (.long _), none], [.int _], _)) rfl (u_ rfl) ?_
      refine wrI (pc := 18) (len_s := 1) rfl hk ?_
      show wF _ 228 (9, [some (.int _)], [.int _], _) _
      refine wrI (pc := 9) (len_s := 1) rfl hk ?_
      show wF _ 186 (4, [some (.ref _), some (.int _)], [.int _], _) _
      refine w_t (pc := 4) (e_s := (15, 3, 11, 1, 0, .null, [])) (y_s := (7, [some (.ref _), some (.int _)], [], _)) rfl (u_ rfl) ?_
      refine w_t (pc := 7) (e_s := (0, 1, 0, 0, 0, .int (-1), [])) (y_s := (8, [some (.ref _), some (.int _)], [.int _], _)) rfl (u_ rfl) ?_
      refine w_t (pc := 8) (e_s := (17, 3, 42, 0, 0, .null, [])) (y_s := (42, [some (.ref _), some (.int _)], [.int _], _)) rfl (u_ rfl) ?_
      refine wrI (pc := 42) (len_s := 1) rfl hk ?_
      show wF _ 189 (5, [some (.ref _), some (.int _), some (.int _), some (.int _)], [.int _], _) _
      refine w_t (pc := 5) (e_s := (0, 1, 0, 0, 0, .int (-1), [])) (y_s := (6, [some (.ref _), some (.int _), some (.int _), some (.int _)], [.int _, .int _], _)) rfl (u_ rfl) ?_
      refine w_t (pc := 6) (e_s := (16, 3, 30, 0, 0, .null, [])) (y_s := (30, [some (.ref _), some (.int _), some (.int _), some (.int _)], [], _)) rfl (u_ rfl) ?_
      refine w_t (pc := 30) (e_s := (0, 1, 0, 0, 0, .int (-1), [])) (y_s := (31, [some (.ref _), some (.int _), some (.int _), some (.int _)], [.int _], _)) rfl (u_ rfl) ?_
      exact wrI (pc := 31) (len_s := 1) rfl hk t_s
    · replace t_s := t_s.2 c2_s
      refine w_t (pc := 13) (e_s := (0, 1, 0, 0, 0, .int 1, [])) (y_s := (14, [some (.long _), none, some (.long _), none, some (.long _), none], [.int _], _)) rfl (u_ rfl) ?_
      refine w_t (pc := 14) (e_s := (17, 3, 18, 0, 0, .null, [])) (y_s := (18, [some (.long _), none, some (.long _), none, some (.long _), none], [.int _], _)) rfl (u_ rfl) ?_
      refine wrI (pc := 18) (len_s := 1) rfl hk ?_
      show wF _ 228 (9, [some (.int _)], [.int _], _) _
      refine wrI (pc := 9) (len_s := 1) rfl hk ?_
      show wF _ 186 (4, [some (.ref _), some (.int _)], [.int _], _) _
      refine w_t (pc := 4) (e_s := (15, 3, 11, 1, 0, .null, [])) (y_s := (11, [some (.ref _), some (.int _)], [], _)) rfl (u_ rfl) ?_
      refine w_t (pc := 11) (e_s := (3, 1, 0, 0, 0, .null, [])) (y_s := (12, [some (.ref _), some (.int _)], [.ref _], _)) rfl (u_ rfl) ?_
      refine w20r (pc := 12) (len_s := 3) (q_s := 124) rfl (krq hk rfl) ?_
      refine w_t (pc := 15) (e_s := (1, 1, 1, 0, 0, .null, [])) (y_s := (16, [some (.ref _), some (.int _)], [.int _, .ref _], _)) rfl (u_ rfl) ?_
      refine w22 (pc := 16) (len_s := 1) rfl (hk.1 124 0 6 rfl rfl) (fun c3_s => ?_)
      replace t_s := t_s c3_s
      refine wq3 (pc := 17) (len_s := 3) rfl rfl (fun c4_s => ?_) (fun c4_s => ?_)
      · replace t_s := t_s.1 c4_s
        refine w_t (pc := 20) (e_s := (0, 2, 0, 0, 0, .int (-11), [])) (y_s := (22, [some (.ref _), some (.int _)], [.int _], _)) rfl (u_ rfl) ?_
        refine w_t (pc := 22) (e_s := (17, 3, 42, 0, 0, .null, [])) (y_s := (42, [some (.ref _), some (.int _)], [.int _], _)) rfl (u_ rfl) ?_
        refine wrI (pc := 42) (len_s := 1) rfl hk ?_
        show wF _ 189 (5, [some (.ref _), some (.int _), some (.int _), some (.int _)], [.int _], _) _
        refine w_t (pc := 5) (e_s := (0, 1, 0, 0, 0, .int (-1), [])) (y_s := (6, [some (.ref _), some (.int _), some (.int _), some (.int _)], [.int _, .int _], _)) rfl (u_ rfl) ?_
        refine w_t (pc := 6) (e_s := (16, 3, 30, 0, 0, .null, [])) (y_s := (9, [some (.ref _), some (.int _), some (.int _), some (.int _)], [], _)) rfl (u_ rfl) ?_
        refine w_t (pc := 9) (e_s := (3, 1, 0, 0, 0, .null, [])) (y_s := (10, [some (.ref _), some (.int _), some (.int _), some (.int _)], [.ref _], _)) rfl (u_ rfl) ?_
        refine w_t (pc := 10) (e_s := (1, 1, 2, 0, 0, .null, [])) (y_s := (11, [some (.ref _), some (.int _), some (.int _), some (.int _)], [.int _, .ref _], _)) rfl (u_ rfl) ?_
        refine w_t (pc := 11) (e_s := (10, 1, 0, 0, 0, .null, [])) (y_s := (12, [some (.ref _), some (.int _), some (.int _), some (.int _)], [.long (Int32.toInt64 _), .ref _], _)) rfl (u_ rfl) ?_
        refine wcI (pc := 12) (len_s := 3) rfl rfl (l := [some (.ref _), some (.long _), none]) rfl ?_
        refine w_t (pc := 0) (e_s := (2, 1, 1, 0, 0, .null, [])) (y_s := (1, [some (.ref _), some (.long _), none], [.long _], _)) rfl (u_ rfl) ?_
        refine w_t (pc := 1) (e_s := (0, 1, 0, 0, 0, .long 0, [])) (y_s := (2, [some (.ref _), some (.long _), none], [.long _, .long _], _)) rfl (u_ rfl) ?_
        refine w_t (pc := 2) (e_s := (3, 1, 0, 0, 0, .null, [])) (y_s := (3, [some (.ref _), some (.long _), none], [.ref _, .long _, .long _], _)) rfl (u_ rfl) ?_
        refine w20 (pc := 3) (len_s := 3) rfl ?_
        refine w_t (pc := 6) (e_s := (0, 1, 0, 0, 0, .int 1, [])) (y_s := (7, [some (.ref _), some (.long _), none], [.int _, .int _, .long _, .long _], _)) rfl (u_ rfl) ?_
        refine w_t (pc := 7) (e_s := (7, 1, 0, 1, 0, .null, [])) (y_s := (8, [some (.ref _), some (.long _), none], [.int (_ - _), .long _, .long _], _)) rfl (u_ rfl) ?_
        refine w_t (pc := 8) (e_s := (10, 1, 0, 0, 0, .null, [])) (y_s := (9, [some (.ref _), some (.long _), none], [.long (Int32.toInt64 _), .long _, .long _], _)) rfl (u_ rfl) ?_
        refine wcI (pc := 9) (len_s := 3) rfl rfl (l := [some (.long _), none, some (.long _), none, some (.long _), none]) rfl ?_
        refine w_t (pc := 0) (e_s := (2, 1, 0, 0, 0, .null, [])) (y_s := (1, [some (.long _), none, some (.long _), none, some (.long _), none], [.long _], _)) rfl (u_ rfl) ?_
        refine w_t (pc := 1) (e_s := (2, 1, 2, 0, 0, .null, [])) (y_s := (2, [some (.long _), none, some (.long _), none, some (.long _), none], [.long _, .long _], _)) rfl (u_ rfl) ?_
        refine w_t (pc := 2) (e_s := (14, 1, 0, 0, 0, .null, [])) (y_s := (3, [some (.long _), none, some (.long _), none, some (.long _), none], [.int (lg_cmp _ _)], _)) rfl (u_ rfl) ?_
        refine wl2 (pc := 3) (len_s := 3) (Y := 0) rfl (Int32.toInt_toInt64 _) (by decide) (fun c5_s => ?_) (fun c5_s => ?_)
        · replace t_s := t_s.1 c5_s
          refine w_t (pc := 17) (e_s := (0, 1, 0, 0, 0, .int 0, [])) (y_s := (18, [some (.long _), none, some (.long _), none, some (.long _), none], [.int _], _)) rfl (u_ rfl) ?_
          refine wrI (pc := 18) (len_s := 1) rfl hk ?_
          show wF _ 152 (12, [some (.ref _), some (.long _), none], [.int _], _) _
          refine wrI (pc := 12) (len_s := 1) rfl hk ?_
          show wF _ 189 (15, [some (.ref _), some (.int _), some (.int _), some (.int _)], [.int _], _) _
          refine w_t (pc := 15) (e_s := (15, 3, 30, 0, 0, .null, [])) (y_s := (30, [some (.ref _), some (.int _), some (.int _), some (.int _)], [], _)) rfl (u_ rfl) ?_
          refine w_t (pc := 30) (e_s := (0, 1, 0, 0, 0, .int (-1), [])) (y_s := (31, [some (.ref _), some (.int _), some (.int _), some (.int _)], [.int _], _)) rfl (u_ rfl) ?_
          exact wrI (pc := 31) (len_s := 1) rfl hk t_s
        · replace t_s := t_s.2 c5_s
          refine w_t (pc := 6) (e_s := (2, 1, 0, 0, 0, .null, [])) (y_s := (7, [some (.long _), none, some (.long _), none, some (.long _), none], [.long _], _)) rfl (u_ rfl) ?_
          refine w_t (pc := 7) (e_s := (2, 2, 4, 0, 0, .null, [])) (y_s := (9, [some (.long _), none, some (.long _), none, some (.long _), none], [.long _, .long _], _)) rfl (u_ rfl) ?_
          refine w_t (pc := 9) (e_s := (14, 1, 0, 0, 0, .null, [])) (y_s := (10, [some (.long _), none, some (.long _), none, some (.long _), none], [.int (lg_cmp _ _)], _)) rfl (u_ rfl) ?_
          refine wl4 (pc := 10) (len_s := 3) rfl (Int32.toInt_toInt64 _) (Int32.toInt_toInt64 _) (fun c6_s => ?_) (fun c6_s => ?_)
          · replace t_s := t_s.1 c6_s
            refine w_t (pc := 17) (e_s := (0, 1, 0, 0, 0, .int 0, [])) (y_s := (18, [some (.long _), none, some (.long _), none, some (.long _), none], [.int _], _)) rfl (u_ rfl) ?_
            refine wrI (pc := 18) (len_s := 1) rfl hk ?_
            show wF _ 152 (12, [some (.ref _), some (.long _), none], [.int _], _) _
            refine wrI (pc := 12) (len_s := 1) rfl hk ?_
            show wF _ 189 (15, [some (.ref _), some (.int _), some (.int _), some (.int _)], [.int _], _) _
            refine w_t (pc := 15) (e_s := (15, 3, 30, 0, 0, .null, [])) (y_s := (30, [some (.ref _), some (.int _), some (.int _), some (.int _)], [], _)) rfl (u_ rfl) ?_
            refine w_t (pc := 30) (e_s := (0, 1, 0, 0, 0, .int (-1), [])) (y_s := (31, [some (.ref _), some (.int _), some (.int _), some (.int _)], [.int _], _)) rfl (u_ rfl) ?_
            exact wrI (pc := 31) (len_s := 1) rfl hk t_s
          · replace t_s := t_s.2 c6_s
            refine w_t (pc := 13) (e_s := (0, 1, 0, 0, 0, .int 1, [])) (y_s := (14, [some (.long _), none, some (.long _), none, some (.long _), none], [.int _], _)) rfl (u_ rfl) ?_
            refine w_t (pc := 14) (e_s := (17, 3, 18, 0, 0, .null, [])) (y_s := (18, [some (.long _), none, some (.long _), none, some (.long _), none], [.int _], _)) rfl (u_ rfl) ?_
            refine wrI (pc := 18) (len_s := 1) rfl hk ?_
            show wF _ 152 (12, [some (.ref _), some (.long _), none], [.int _], _) _
            refine wrI (pc := 12) (len_s := 1) rfl hk ?_
            show wF _ 189 (15, [some (.ref _), some (.int _), some (.int _), some (.int _)], [.int _], _) _
            refine w_t (pc := 15) (e_s := (15, 3, 30, 0, 0, .null, [])) (y_s := (18, [some (.ref _), some (.int _), some (.int _), some (.int _)], [], _)) rfl (u_ rfl) ?_
            refine w_t (pc := 18) (e_s := (1, 1, 3, 0, 0, .null, [])) (y_s := (19, [some (.ref _), some (.int _), some (.int _), some (.int _)], [.int _], _)) rfl (u_ rfl) ?_
            refine w_t (pc := 19) (e_s := (10, 1, 0, 0, 0, .null, [])) (y_s := (20, [some (.ref _), some (.int _), some (.int _), some (.int _)], [.long (Int32.toInt64 _)], _)) rfl (u_ rfl) ?_
            refine w_t (pc := 20) (e_s := (0, 1, 0, 0, 0, .long 0, [])) (y_s := (21, [some (.ref _), some (.int _), some (.int _), some (.int _)], [.long _, .long _], _)) rfl (u_ rfl) ?_
            refine w_t (pc := 21) (e_s := (0, 3, 0, 0, 0, .long 4, [(0, 1113)])) (y_s := (24, [some (.ref _), some (.int _), some (.int _), some (.int _)], [.long _, .long _, .long _], _)) rfl (u_ rfl) ?_
            refine wcI (pc := 24) (len_s := 3) rfl rfl (l := [some (.long _), none, some (.long _), none, some (.long _), none]) rfl ?_
            refine w_t (pc := 0) (e_s := (2, 1, 0, 0, 0, .null, [])) (y_s := (1, [some (.long _), none, some (.long _), none, some (.long _), none], [.long _], _)) rfl (u_ rfl) ?_
            refine w_t (pc := 1) (e_s := (2, 1, 2, 0, 0, .null, [])) (y_s := (2, [some (.long _), none, some (.long _), none, some (.long _), none], [.long _, .long _], _)) rfl (u_ rfl) ?_
            refine w_t (pc := 2) (e_s := (14, 1, 0, 0, 0, .null, [])) (y_s := (3, [some (.long _), none, some (.long _), none, some (.long _), none], [.int (lg_cmp _ _)], _)) rfl (u_ rfl) ?_
            refine wl2 (pc := 3) (len_s := 3) (Y := 0) rfl (Int32.toInt_toInt64 _) (by decide) (fun c7_s => ?_) (fun c7_s => ?_)
            · replace t_s := t_s.1 c7_s
              refine w_t (pc := 17) (e_s := (0, 1, 0, 0, 0, .int 0, [])) (y_s := (18, [some (.long _), none, some (.long _), none, some (.long _), none], [.int _], _)) rfl (u_ rfl) ?_
              refine wrI (pc := 18) (len_s := 1) rfl hk ?_
              show wF _ 189 (27, [some (.ref _), some (.int _), some (.int _), some (.int _)], [.int _], _) _
              refine w_t (pc := 27) (e_s := (15, 3, 32, 1, 0, .null, [])) (y_s := (30, [some (.ref _), some (.int _), some (.int _), some (.int _)], [], _)) rfl (u_ rfl) ?_
              refine w_t (pc := 30) (e_s := (0, 1, 0, 0, 0, .int (-1), [])) (y_s := (31, [some (.ref _), some (.int _), some (.int _), some (.int _)], [.int _], _)) rfl (u_ rfl) ?_
              exact wrI (pc := 31) (len_s := 1) rfl hk t_s
            · replace t_s := t_s.2 c7_s
              refine w_t (pc := 6) (e_s := (2, 1, 0, 0, 0, .null, [])) (y_s := (7, [some (.long _), none, some (.long _), none, some (.long _), none], [.long _], _)) rfl (u_ rfl) ?_
              refine w_t (pc := 7) (e_s := (2, 2, 4, 0, 0, .null, [])) (y_s := (9, [some (.long _), none, some (.long _), none, some (.long _), none], [.long _, .long _], _)) rfl (u_ rfl) ?_
              refine w_t (pc := 9) (e_s := (14, 1, 0, 0, 0, .null, [])) (y_s := (10, [some (.long _), none, some (.long _), none, some (.long _), none], [.int (lg_cmp _ _)], _)) rfl (u_ rfl) ?_
              refine wl4 (pc := 10) (len_s := 3) (Y := 4) rfl (Int32.toInt_toInt64 _) (by decide) (fun c8_s => ?_) (fun c8_s => ?_)
              · replace t_s := t_s.1 c8_s
                refine w_t (pc := 17) (e_s := (0, 1, 0, 0, 0, .int 0, [])) (y_s := (18, [some (.long _), none, some (.long _), none, some (.long _), none], [.int _], _)) rfl (u_ rfl) ?_
                refine wrI (pc := 18) (len_s := 1) rfl hk ?_
                show wF _ 189 (27, [some (.ref _), some (.int _), some (.int _), some (.int _)], [.int _], _) _
                refine w_t (pc := 27) (e_s := (15, 3, 32, 1, 0, .null, [])) (y_s := (30, [some (.ref _), some (.int _), some (.int _), some (.int _)], [], _)) rfl (u_ rfl) ?_
                refine w_t (pc := 30) (e_s := (0, 1, 0, 0, 0, .int (-1), [])) (y_s := (31, [some (.ref _), some (.int _), some (.int _), some (.int _)], [.int _], _)) rfl (u_ rfl) ?_
                exact wrI (pc := 31) (len_s := 1) rfl hk t_s
              · replace t_s := t_s.2 c8_s
                refine w_t (pc := 13) (e_s := (0, 1, 0, 0, 0, .int 1, [])) (y_s := (14, [some (.long _), none, some (.long _), none, some (.long _), none], [.int _], _)) rfl (u_ rfl) ?_
                refine w_t (pc := 14) (e_s := (17, 3, 18, 0, 0, .null, [])) (y_s := (18, [some (.long _), none, some (.long _), none, some (.long _), none], [.int _], _)) rfl (u_ rfl) ?_
                refine wrI (pc := 18) (len_s := 1) rfl hk ?_
                show wF _ 189 (27, [some (.ref _), some (.int _), some (.int _), some (.int _)], [.int _], _) _
                refine w_t (pc := 27) (e_s := (15, 3, 32, 1, 0, .null, [])) (y_s := (32, [some (.ref _), some (.int _), some (.int _), some (.int _)], [], _)) rfl (u_ rfl) ?_
                refine w_t (pc := 32) (e_s := (3, 1, 0, 0, 0, .null, [])) (y_s := (33, [some (.ref _), some (.int _), some (.int _), some (.int _)], [.ref _], _)) rfl (u_ rfl) ?_
                refine w_t (pc := 33) (e_s := (1, 1, 1, 0, 0, .null, [])) (y_s := (34, [some (.ref _), some (.int _), some (.int _), some (.int _)], [.int _, .ref _], _)) rfl (u_ rfl) ?_
                refine wcI (pc := 34) (len_s := 3) rfl rfl (l := [some (.ref _), some (.int _)]) rfl ?_
                refine w_t (pc := 0) (e_s := (1, 1, 1, 0, 0, .null, [])) (y_s := (1, [some (.ref _), some (.int _)], [.int _], _)) rfl (u_ rfl) ?_
                refine wcI (pc := 1) (len_s := 3) rfl rfl (l := [some (.int _)]) rfl ?_
                refine w_t (pc := 0) (e_s := (1, 1, 0, 0, 0, .null, [])) (y_s := (1, [some (.int _)], [.int _], _)) rfl (u_ rfl) ?_
                refine w_t (pc := 1) (e_s := (10, 1, 0, 0, 0, .null, [])) (y_s := (2, [some (.int _)], [.long (Int32.toInt64 _)], _)) rfl (u_ rfl) ?_
                refine w_t (pc := 2) (e_s := (0, 1, 0, 0, 0, .long 0, [])) (y_s := (3, [some (.int _)], [.long _, .long _], _)) rfl (u_ rfl) ?_
                refine w_t (pc := 3) (e_s := (0, 3, 0, 0, 0, .long 5, [(0, 1063)])) (y_s := (6, [some (.int _)], [.long _, .long _, .long _], _)) rfl (u_ rfl) ?_
                refine wcI (pc := 6) (len_s := 3) rfl rfl (l := [some (.long _), none, some (.long _), none, some (.long _), none]) rfl ?_
                refine w_t (pc := 0) (e_s := (2, 1, 0, 0, 0, .null, [])) (y_s := (1, [some (.long _), none, some (.long _), none, some (.long _), none], [.long _], _)) rfl (u_ rfl) ?_
                refine w_t (pc := 1) (e_s := (2, 1, 2, 0, 0, .null, [])) (y_s := (2, [some (.long _), none, some (.long _), none, some (.long _), none], [.long _, .long _], _)) rfl (u_ rfl) ?_
                refine w_t (pc := 2) (e_s := (14, 1, 0, 0, 0, .null, [])) (y_s := (3, [some (.long _), none, some (.long _), none, some (.long _), none], [.int (lg_cmp _ _)], _)) rfl (u_ rfl) ?_
                refine wl2 (pc := 3) (len_s := 3) (Y := 0) rfl (Int32.toInt_toInt64 _) (by decide) (fun c9_s => ?_) (fun c9_s => ?_)
                · exact absurd c9_s c1_s
                · skip
                  refine w_t (pc := 6) (e_s := (2, 1, 0, 0, 0, .null, [])) (y_s := (7, [some (.long _), none, some (.long _), none, some (.long _), none], [.long _], _)) rfl (u_ rfl) ?_
                  refine w_t (pc := 7) (e_s := (2, 2, 4, 0, 0, .null, [])) (y_s := (9, [some (.long _), none, some (.long _), none, some (.long _), none], [.long _, .long _], _)) rfl (u_ rfl) ?_
                  refine w_t (pc := 9) (e_s := (14, 1, 0, 0, 0, .null, [])) (y_s := (10, [some (.long _), none, some (.long _), none, some (.long _), none], [.int (lg_cmp _ _)], _)) rfl (u_ rfl) ?_
                  refine wl4 (pc := 10) (len_s := 3) (Y := 5) rfl (Int32.toInt_toInt64 _) (by decide) (fun c10_s => ?_) (fun c10_s => ?_)
                  · exact absurd c10_s c2_s
                  · skip
                    refine w_t (pc := 13) (e_s := (0, 1, 0, 0, 0, .int 1, [])) (y_s := (14, [some (.long _), none, some (.long _), none, some (.long _), none], [.int _], _)) rfl (u_ rfl) ?_
                    refine w_t (pc := 14) (e_s := (17, 3, 18, 0, 0, .null, [])) (y_s := (18, [some (.long _), none, some (.long _), none, some (.long _), none], [.int _], _)) rfl (u_ rfl) ?_
                    refine wrI (pc := 18) (len_s := 1) rfl hk ?_
                    show wF _ 228 (9, [some (.int _)], [.int _], _) _
                    refine wrI (pc := 9) (len_s := 1) rfl hk ?_
                    show wF _ 186 (4, [some (.ref _), some (.int _)], [.int _], _) _
                    refine w_t (pc := 4) (e_s := (15, 3, 11, 1, 0, .null, [])) (y_s := (11, [some (.ref _), some (.int _)], [], _)) rfl (u_ rfl) ?_
                    refine w_t (pc := 11) (e_s := (3, 1, 0, 0, 0, .null, [])) (y_s := (12, [some (.ref _), some (.int _)], [.ref _], _)) rfl (u_ rfl) ?_
                    refine w20r (pc := 12) (len_s := 3) (q_s := 124) rfl (krq hk rfl) ?_
                    refine w_t (pc := 15) (e_s := (1, 1, 1, 0, 0, .null, [])) (y_s := (16, [some (.ref _), some (.int _)], [.int _, .ref _], _)) rfl (u_ rfl) ?_
                    refine w22 (pc := 16) (len_s := 1) rfl (hk.1 124 0 6 rfl rfl) (fun c11_s => ?_)
                    refine wq3 (pc := 17) (len_s := 3) rfl rfl (fun c12_s => ?_) (fun c12_s => ?_)
                    · skip
                      refine w_t (pc := 20) (e_s := (0, 2, 0, 0, 0, .int (-11), [])) (y_s := (22, [some (.ref _), some (.int _)], [.int _], _)) rfl (u_ rfl) ?_
                      refine w_t (pc := 22) (e_s := (17, 3, 42, 0, 0, .null, [])) (y_s := (42, [some (.ref _), some (.int _)], [.int _], _)) rfl (u_ rfl) ?_
                      refine wrI (pc := 42) (len_s := 1) rfl hk ?_
                      show wF _ 189 (37, [some (.ref _), some (.int _), some (.int _), some (.int _)], [.int _], _) _
                      refine w_t (pc := 37) (e_s := (15, 3, 46, 3, 0, .null, [])) (y_s := (40, [some (.ref _), some (.int _), some (.int _), some (.int _)], [], _)) rfl (u_ rfl) ?_
                      refine w_t (pc := 40) (e_s := (3, 1, 0, 0, 0, .null, [])) (y_s := (41, [some (.ref _), some (.int _), some (.int _), some (.int _)], [.ref _], _)) rfl (u_ rfl) ?_
                      refine w_t (pc := 41) (e_s := (1, 1, 1, 0, 0, .null, [])) (y_s := (42, [some (.ref _), some (.int _), some (.int _), some (.int _)], [.int _, .ref _], _)) rfl (u_ rfl) ?_
                      refine wcI (pc := 42) (len_s := 3) rfl rfl (l := [some (.ref _), some (.int _)]) rfl ?_
                      refine w_t (pc := 0) (e_s := (1, 1, 1, 0, 0, .null, [])) (y_s := (1, [some (.ref _), some (.int _)], [.int _], _)) rfl (u_ rfl) ?_
                      refine wcI (pc := 1) (len_s := 3) rfl rfl (l := [some (.int _)]) rfl ?_
                      refine w_t (pc := 0) (e_s := (1, 1, 0, 0, 0, .null, [])) (y_s := (1, [some (.int _)], [.int _], _)) rfl (u_ rfl) ?_
                      refine w_t (pc := 1) (e_s := (10, 1, 0, 0, 0, .null, [])) (y_s := (2, [some (.int _)], [.long (Int32.toInt64 _)], _)) rfl (u_ rfl) ?_
                      refine w_t (pc := 2) (e_s := (0, 1, 0, 0, 0, .long 0, [])) (y_s := (3, [some (.int _)], [.long _, .long _], _)) rfl (u_ rfl) ?_
                      refine w_t (pc := 3) (e_s := (0, 3, 0, 0, 0, .long 5, [(0, 1063)])) (y_s := (6, [some (.int _)], [.long _, .long _, .long _], _)) rfl (u_ rfl) ?_
                      refine wcI (pc := 6) (len_s := 3) rfl rfl (l := [some (.long _), none, some (.long _), none, some (.long _), none]) rfl ?_
                      refine w_t (pc := 0) (e_s := (2, 1, 0, 0, 0, .null, [])) (y_s := (1, [some (.long _), none, some (.long _), none, some (.long _), none], [.long _], _)) rfl (u_ rfl) ?_
                      refine w_t (pc := 1) (e_s := (2, 1, 2, 0, 0, .null, [])) (y_s := (2, [some (.long _), none, some (.long _), none, some (.long _), none], [.long _, .long _], _)) rfl (u_ rfl) ?_
                      refine w_t (pc := 2) (e_s := (14, 1, 0, 0, 0, .null, [])) (y_s := (3, [some (.long _), none, some (.long _), none, some (.long _), none], [.int (lg_cmp _ _)], _)) rfl (u_ rfl) ?_
                      refine wl2 (pc := 3) (len_s := 3) (Y := 0) rfl (Int32.toInt_toInt64 _) (by decide) (fun c13_s => ?_) (fun c13_s => ?_)
                      · exact absurd c13_s c1_s
                      · skip
                        refine w_t (pc := 6) (e_s := (2, 1, 0, 0, 0, .null, [])) (y_s := (7, [some (.long _), none, some (.long _), none, some (.long _), none], [.long _], _)) rfl (u_ rfl) ?_
                        refine w_t (pc := 7) (e_s := (2, 2, 4, 0, 0, .null, [])) (y_s := (9, [some (.long _), none, some (.long _), none, some (.long _), none], [.long _, .long _], _)) rfl (u_ rfl) ?_
                        refine w_t (pc := 9) (e_s := (14, 1, 0, 0, 0, .null, [])) (y_s := (10, [some (.long _), none, some (.long _), none, some (.long _), none], [.int (lg_cmp _ _)], _)) rfl (u_ rfl) ?_
                        refine wl4 (pc := 10) (len_s := 3) (Y := 5) rfl (Int32.toInt_toInt64 _) (by decide) (fun c14_s => ?_) (fun c14_s => ?_)
                        · exact absurd c14_s c2_s
                        · skip
                          refine w_t (pc := 13) (e_s := (0, 1, 0, 0, 0, .int 1, [])) (y_s := (14, [some (.long _), none, some (.long _), none, some (.long _), none], [.int _], _)) rfl (u_ rfl) ?_
                          refine w_t (pc := 14) (e_s := (17, 3, 18, 0, 0, .null, [])) (y_s := (18, [some (.long _), none, some (.long _), none, some (.long _), none], [.int _], _)) rfl (u_ rfl) ?_
                          refine wrI (pc := 18) (len_s := 1) rfl hk ?_
                          show wF _ 228 (9, [some (.int _)], [.int _], _) _
                          refine wrI (pc := 9) (len_s := 1) rfl hk ?_
                          show wF _ 186 (4, [some (.ref _), some (.int _)], [.int _], _) _
                          refine w_t (pc := 4) (e_s := (15, 3, 11, 1, 0, .null, [])) (y_s := (11, [some (.ref _), some (.int _)], [], _)) rfl (u_ rfl) ?_
                          refine w_t (pc := 11) (e_s := (3, 1, 0, 0, 0, .null, [])) (y_s := (12, [some (.ref _), some (.int _)], [.ref _], _)) rfl (u_ rfl) ?_
                          refine w20r (pc := 12) (len_s := 3) (q_s := 124) rfl (krq hk rfl) ?_
                          refine w_t (pc := 15) (e_s := (1, 1, 1, 0, 0, .null, [])) (y_s := (16, [some (.ref _), some (.int _)], [.int _, .ref _], _)) rfl (u_ rfl) ?_
                          refine w22 (pc := 16) (len_s := 1) rfl (hk.1 124 0 6 rfl rfl) (fun c15_s => ?_)
                          refine wq3 (pc := 17) (len_s := 3) rfl rfl (fun c16 => ?_) (fun c16 => ?_)
                          · skip
                            refine w_t (pc := 20) (e_s := (0, 2, 0, 0, 0, .int (-11), [])) (y_s := (22, [some (.ref _), some (.int _)], [.int _], _)) rfl (u_ rfl) ?_
                            refine w_t (pc := 22) (e_s := (17, 3, 42, 0, 0, .null, [])) (y_s := (42, [some (.ref _), some (.int _)], [.int _], _)) rfl (u_ rfl) ?_
                            refine wrI (pc := 42) (len_s := 1) rfl hk ?_
                            show wF _ 189 (45, [some (.ref _), some (.int _), some (.int _), some (.int _)], [.int _], _) _
                            exact wrI (pc := 45) (len_s := 1) rfl hk t_s
                          · exact absurd c4_s c16
                    · exact absurd c4_s c12_s
      · replace t_s := t_s.2 c4_s
        refine w_t (pc := 25) (e_s := (3, 1, 0, 0, 0, .null, [])) (y_s := (26, [some (.ref _), some (.int _)], [.ref _], _)) rfl (u_ rfl) ?_
        refine w20r (pc := 26) (len_s := 3) (q_s := 124) rfl (krq hk rfl) ?_
        refine w_t (pc := 29) (e_s := (1, 1, 1, 0, 0, .null, [])) (y_s := (30, [some (.ref _), some (.int _)], [.int _, .ref _], _)) rfl (u_ rfl) ?_
        refine w22 (pc := 30) (len_s := 1) rfl (hk.1 124 0 6 rfl rfl) (fun c17 => ?_)
        refine w_t (pc := 31) (e_s := (0, 2, 0, 0, 0, .int 50, [])) (y_s := (33, [some (.ref _), some (.int _)], [.int _, .int _], _)) rfl (u_ rfl) ?_
        refine wi1 (pc := 33) (len_s := 3) (Y := 50) rfl rfl (by decide) (fun c18_s => ?_) (fun c18_s => ?_)
        · replace t_s := t_s.1 c18_s
          refine w_t (pc := 36) (e_s := (0, 1, 0, 0, 0, .int 1, [])) (y_s := (37, [some (.ref _), some (.int _)], [.int _], _)) rfl (u_ rfl) ?_
          refine w_t (pc := 37) (e_s := (17, 3, 42, 0, 0, .null, [])) (y_s := (42, [some (.ref _), some (.int _)], [.int _], _)) rfl (u_ rfl) ?_
          refine wrI (pc := 42) (len_s := 1) rfl hk ?_
          show wF _ 189 (5, [some (.ref _), some (.int _), some (.int _), some (.int _)], [.int _], _) _
          refine w_t (pc := 5) (e_s := (0, 1, 0, 0, 0, .int (-1), [])) (y_s := (6, [some (.ref _), some (.int _), some (.int _), some (.int _)], [.int _, .int _], _)) rfl (u_ rfl) ?_
          refine w_t (pc := 6) (e_s := (16, 3, 30, 0, 0, .null, [])) (y_s := (9, [some (.ref _), some (.int _), some (.int _), some (.int _)], [], _)) rfl (u_ rfl) ?_
          refine w_t (pc := 9) (e_s := (3, 1, 0, 0, 0, .null, [])) (y_s := (10, [some (.ref _), some (.int _), some (.int _), some (.int _)], [.ref _], _)) rfl (u_ rfl) ?_
          refine w_t (pc := 10) (e_s := (1, 1, 2, 0, 0, .null, [])) (y_s := (11, [some (.ref _), some (.int _), some (.int _), some (.int _)], [.int _, .ref _], _)) rfl (u_ rfl) ?_
          refine w_t (pc := 11) (e_s := (10, 1, 0, 0, 0, .null, [])) (y_s := (12, [some (.ref _), some (.int _), some (.int _), some (.int _)], [.long (Int32.toInt64 _), .ref _], _)) rfl (u_ rfl) ?_
          refine wcI (pc := 12) (len_s := 3) rfl rfl (l := [some (.ref _), some (.long _), none]) rfl ?_
          refine w_t (pc := 0) (e_s := (2, 1, 1, 0, 0, .null, [])) (y_s := (1, [some (.ref _), some (.long _), none], [.long _], _)) rfl (u_ rfl) ?_
          refine w_t (pc := 1) (e_s := (0, 1, 0, 0, 0, .long 0, [])) (y_s := (2, [some (.ref _), some (.long _), none], [.long _, .long _], _)) rfl (u_ rfl) ?_
          refine w_t (pc := 2) (e_s := (3, 1, 0, 0, 0, .null, [])) (y_s := (3, [some (.ref _), some (.long _), none], [.ref _, .long _, .long _], _)) rfl (u_ rfl) ?_
          refine w20 (pc := 3) (len_s := 3) rfl ?_
          refine w_t (pc := 6) (e_s := (0, 1, 0, 0, 0, .int 1, [])) (y_s := (7, [some (.ref _), some (.long _), none], [.int _, .int _, .long _, .long _], _)) rfl (u_ rfl) ?_
          refine w_t (pc := 7) (e_s := (7, 1, 0, 1, 0, .null, [])) (y_s := (8, [some (.ref _), some (.long _), none], [.int (_ - _), .long _, .long _], _)) rfl (u_ rfl) ?_
          refine w_t (pc := 8) (e_s := (10, 1, 0, 0, 0, .null, [])) (y_s := (9, [some (.ref _), some (.long _), none], [.long (Int32.toInt64 _), .long _, .long _], _)) rfl (u_ rfl) ?_
          refine wcI (pc := 9) (len_s := 3) rfl rfl (l := [some (.long _), none, some (.long _), none, some (.long _), none]) rfl ?_
          refine w_t (pc := 0) (e_s := (2, 1, 0, 0, 0, .null, [])) (y_s := (1, [some (.long _), none, some (.long _), none, some (.long _), none], [.long _], _)) rfl (u_ rfl) ?_
          refine w_t (pc := 1) (e_s := (2, 1, 2, 0, 0, .null, [])) (y_s := (2, [some (.long _), none, some (.long _), none, some (.long _), none], [.long _, .long _], _)) rfl (u_ rfl) ?_
          refine w_t (pc := 2) (e_s := (14, 1, 0, 0, 0, .null, [])) (y_s := (3, [some (.long _), none, some (.long _), none, some (.long _), none], [.int (lg_cmp _ _)], _)) rfl (u_ rfl) ?_
          refine wl2 (pc := 3) (len_s := 3) (Y := 0) rfl (Int32.toInt_toInt64 _) (by decide) (fun c19_s => ?_) (fun c19_s => ?_)
          · replace t_s := t_s.1 c19_s
            refine w_t (pc := 17) (e_s := (0, 1, 0, 0, 0, .int 0, [])) (y_s := (18, [some (.long _), none, some (.long _), none, some (.long _), none], [.int _], _)) rfl (u_ rfl) ?_
            refine wrI (pc := 18) (len_s := 1) rfl hk ?_
            show wF _ 152 (12, [some (.ref _), some (.long _), none], [.int _], _) _
            refine wrI (pc := 12) (len_s := 1) rfl hk ?_
            show wF _ 189 (15, [some (.ref _), some (.int _), some (.int _), some (.int _)], [.int _], _) _
            refine w_t (pc := 15) (e_s := (15, 3, 30, 0, 0, .null, [])) (y_s := (30, [some (.ref _), some (.int _), some (.int _), some (.int _)], [], _)) rfl (u_ rfl) ?_
            refine w_t (pc := 30) (e_s := (0, 1, 0, 0, 0, .int (-1), [])) (y_s := (31, [some (.ref _), some (.int _), some (.int _), some (.int _)], [.int _], _)) rfl (u_ rfl) ?_
            exact wrI (pc := 31) (len_s := 1) rfl hk t_s
          · replace t_s := t_s.2 c19_s
            refine w_t (pc := 6) (e_s := (2, 1, 0, 0, 0, .null, [])) (y_s := (7, [some (.long _), none, some (.long _), none, some (.long _), none], [.long _], _)) rfl (u_ rfl) ?_
            refine w_t (pc := 7) (e_s := (2, 2, 4, 0, 0, .null, [])) (y_s := (9, [some (.long _), none, some (.long _), none, some (.long _), none], [.long _, .long _], _)) rfl (u_ rfl) ?_
            refine w_t (pc := 9) (e_s := (14, 1, 0, 0, 0, .null, [])) (y_s := (10, [some (.long _), none, some (.long _), none, some (.long _), none], [.int (lg_cmp _ _)], _)) rfl (u_ rfl) ?_
            refine wl4 (pc := 10) (len_s := 3) rfl (Int32.toInt_toInt64 _) (Int32.toInt_toInt64 _) (fun c20_s => ?_) (fun c20_s => ?_)
            · replace t_s := t_s.1 c20_s
              refine w_t (pc := 17) (e_s := (0, 1, 0, 0, 0, .int 0, [])) (y_s := (18, [some (.long _), none, some (.long _), none, some (.long _), none], [.int _], _)) rfl (u_ rfl) ?_
              refine wrI (pc := 18) (len_s := 1) rfl hk ?_
              show wF _ 152 (12, [some (.ref _), some (.long _), none], [.int _], _) _
              refine wrI (pc := 12) (len_s := 1) rfl hk ?_
              show wF _ 189 (15, [some (.ref _), some (.int _), some (.int _), some (.int _)], [.int _], _) _
              refine w_t (pc := 15) (e_s := (15, 3, 30, 0, 0, .null, [])) (y_s := (30, [some (.ref _), some (.int _), some (.int _), some (.int _)], [], _)) rfl (u_ rfl) ?_
              refine w_t (pc := 30) (e_s := (0, 1, 0, 0, 0, .int (-1), [])) (y_s := (31, [some (.ref _), some (.int _), some (.int _), some (.int _)], [.int _], _)) rfl (u_ rfl) ?_
              exact wrI (pc := 31) (len_s := 1) rfl hk t_s
            · replace t_s := t_s.2 c20_s
              refine w_t (pc := 13) (e_s := (0, 1, 0, 0, 0, .int 1, [])) (y_s := (14, [some (.long _), none, some (.long _), none, some (.long _), none], [.int _], _)) rfl (u_ rfl) ?_
              refine w_t (pc := 14) (e_s := (17, 3, 18, 0, 0, .null, [])) (y_s := (18, [some (.long _), none, some (.long _), none, some (.long _), none], [.int _], _)) rfl (u_ rfl) ?_
              refine wrI (pc := 18) (len_s := 1) rfl hk ?_
              show wF _ 152 (12, [some (.ref _), some (.long _), none], [.int _], _) _
              refine wrI (pc := 12) (len_s := 1) rfl hk ?_
              show wF _ 189 (15, [some (.ref _), some (.int _), some (.int _), some (.int _)], [.int _], _) _
              refine w_t (pc := 15) (e_s := (15, 3, 30, 0, 0, .null, [])) (y_s := (18, [some (.ref _), some (.int _), some (.int _), some (.int _)], [], _)) rfl (u_ rfl) ?_
              refine w_t (pc := 18) (e_s := (1, 1, 3, 0, 0, .null, [])) (y_s := (19, [some (.ref _), some (.int _), some (.int _), some (.int _)], [.int _], _)) rfl (u_ rfl) ?_
              refine w_t (pc := 19) (e_s := (10, 1, 0, 0, 0, .null, [])) (y_s := (20, [some (.ref _), some (.int _), some (.int _), some (.int _)], [.long (Int32.toInt64 _)], _)) rfl (u_ rfl) ?_
              refine w_t (pc := 20) (e_s := (0, 1, 0, 0, 0, .long 0, [])) (y_s := (21, [some (.ref _), some (.int _), some (.int _), some (.int _)], [.long _, .long _], _)) rfl (u_ rfl) ?_
              refine w_t (pc := 21) (e_s := (0, 3, 0, 0, 0, .long 4, [(0, 1113)])) (y_s := (24, [some (.ref _), some (.int _), some (.int _), some (.int _)], [.long _, .long _, .long _], _)) rfl (u_ rfl) ?_
              refine wcI (pc := 24) (len_s := 3) rfl rfl (l := [some (.long _), none, some (.long _), none, some (.long _), none]) rfl ?_
              refine w_t (pc := 0) (e_s := (2, 1, 0, 0, 0, .null, [])) (y_s := (1, [some (.long _), none, some (.long _), none, some (.long _), none], [.long _], _)) rfl (u_ rfl) ?_
              refine w_t (pc := 1) (e_s := (2, 1, 2, 0, 0, .null, [])) (y_s := (2, [some (.long _), none, some (.long _), none, some (.long _), none], [.long _, .long _], _)) rfl (u_ rfl) ?_
              refine w_t (pc := 2) (e_s := (14, 1, 0, 0, 0, .null, [])) (y_s := (3, [some (.long _), none, some (.long _), none, some (.long _), none], [.int (lg_cmp _ _)], _)) rfl (u_ rfl) ?_
              refine wl2 (pc := 3) (len_s := 3) (Y := 0) rfl (Int32.toInt_toInt64 _) (by decide) (fun c21 => ?_) (fun c21 => ?_)
              · replace t_s := t_s.1 c21
                refine w_t (pc := 17) (e_s := (0, 1, 0, 0, 0, .int 0, [])) (y_s := (18, [some (.long _), none, some (.long _), none, some (.long _), none], [.int _], _)) rfl (u_ rfl) ?_
                refine wrI (pc := 18) (len_s := 1) rfl hk ?_
                show wF _ 189 (27, [some (.ref _), some (.int _), some (.int _), some (.int _)], [.int _], _) _
                refine w_t (pc := 27) (e_s := (15, 3, 32, 1, 0, .null, [])) (y_s := (30, [some (.ref _), some (.int _), some (.int _), some (.int _)], [], _)) rfl (u_ rfl) ?_
                refine w_t (pc := 30) (e_s := (0, 1, 0, 0, 0, .int (-1), [])) (y_s := (31, [some (.ref _), some (.int _), some (.int _), some (.int _)], [.int _], _)) rfl (u_ rfl) ?_
                exact wrI (pc := 31) (len_s := 1) rfl hk t_s
              · replace t_s := t_s.2 c21
                refine w_t (pc := 6) (e_s := (2, 1, 0, 0, 0, .null, [])) (y_s := (7, [some (.long _), none, some (.long _), none, some (.long _), none], [.long _], _)) rfl (u_ rfl) ?_
                refine w_t (pc := 7) (e_s := (2, 2, 4, 0, 0, .null, [])) (y_s := (9, [some (.long _), none, some (.long _), none, some (.long _), none], [.long _, .long _], _)) rfl (u_ rfl) ?_
                refine w_t (pc := 9) (e_s := (14, 1, 0, 0, 0, .null, [])) (y_s := (10, [some (.long _), none, some (.long _), none, some (.long _), none], [.int (lg_cmp _ _)], _)) rfl (u_ rfl) ?_
                refine wl4 (pc := 10) (len_s := 3) (Y := 4) rfl (Int32.toInt_toInt64 _) (by decide) (fun c22 => ?_) (fun c22 => ?_)
                · replace t_s := t_s.1 c22
                  refine w_t (pc := 17) (e_s := (0, 1, 0, 0, 0, .int 0, [])) (y_s := (18, [some (.long _), none, some (.long _), none, some (.long _), none], [.int _], _)) rfl (u_ rfl) ?_
                  refine wrI (pc := 18) (len_s := 1) rfl hk ?_
                  show wF _ 189 (27, [some (.ref _), some (.int _), some (.int _), some (.int _)], [.int _], _) _
                  refine w_t (pc := 27) (e_s := (15, 3, 32, 1, 0, .null, [])) (y_s := (30, [some (.ref _), some (.int _), some (.int _), some (.int _)], [], _)) rfl (u_ rfl) ?_
                  refine w_t (pc := 30) (e_s := (0, 1, 0, 0, 0, .int (-1), [])) (y_s := (31, [some (.ref _), some (.int _), some (.int _), some (.int _)], [.int _], _)) rfl (u_ rfl) ?_
                  exact wrI (pc := 31) (len_s := 1) rfl hk t_s
                · replace t_s := t_s.2 c22
                  refine w_t (pc := 13) (e_s := (0, 1, 0, 0, 0, .int 1, [])) (y_s := (14, [some (.long _), none, some (.long _), none, some (.long _), none], [.int _], _)) rfl (u_ rfl) ?_
                  refine w_t (pc := 14) (e_s := (17, 3, 18, 0, 0, .null, [])) (y_s := (18, [some (.long _), none, some (.long _), none, some (.long _), none], [.int _], _)) rfl (u_ rfl) ?_
                  refine wrI (pc := 18) (len_s := 1) rfl hk ?_
                  show wF _ 189 (27, [some (.ref _), some (.int _), some (.int _), some (.int _)], [.int _], _) _
                  refine w_t (pc := 27) (e_s := (15, 3, 32, 1, 0, .null, [])) (y_s := (32, [some (.ref _), some (.int _), some (.int _), some (.int _)], [], _)) rfl (u_ rfl) ?_
                  refine w_t (pc := 32) (e_s := (3, 1, 0, 0, 0, .null, [])) (y_s := (33, [some (.ref _), some (.int _), some (.int _), some (.int _)], [.ref _], _)) rfl (u_ rfl) ?_
                  refine w_t (pc := 33) (e_s := (1, 1, 1, 0, 0, .null, [])) (y_s := (34, [some (.ref _), some (.int _), some (.int _), some (.int _)], [.int _, .ref _], _)) rfl (u_ rfl) ?_
                  refine wcI (pc := 34) (len_s := 3) rfl rfl (l := [some (.ref _), some (.int _)]) rfl ?_
                  refine w_t (pc := 0) (e_s := (1, 1, 1, 0, 0, .null, [])) (y_s := (1, [some (.ref _), some (.int _)], [.int _], _)) rfl (u_ rfl) ?_
                  refine wcI (pc := 1) (len_s := 3) rfl rfl (l := [some (.int _)]) rfl ?_
                  refine w_t (pc := 0) (e_s := (1, 1, 0, 0, 0, .null, [])) (y_s := (1, [some (.int _)], [.int _], _)) rfl (u_ rfl) ?_
                  refine w_t (pc := 1) (e_s := (10, 1, 0, 0, 0, .null, [])) (y_s := (2, [some (.int _)], [.long (Int32.toInt64 _)], _)) rfl (u_ rfl) ?_
                  refine w_t (pc := 2) (e_s := (0, 1, 0, 0, 0, .long 0, [])) (y_s := (3, [some (.int _)], [.long _, .long _], _)) rfl (u_ rfl) ?_
                  refine w_t (pc := 3) (e_s := (0, 3, 0, 0, 0, .long 5, [(0, 1063)])) (y_s := (6, [some (.int _)], [.long _, .long _, .long _], _)) rfl (u_ rfl) ?_
                  refine wcI (pc := 6) (len_s := 3) rfl rfl (l := [some (.long _), none, some (.long _), none, some (.long _), none]) rfl ?_
                  refine w_t (pc := 0) (e_s := (2, 1, 0, 0, 0, .null, [])) (y_s := (1, [some (.long _), none, some (.long _), none, some (.long _), none], [.long _], _)) rfl (u_ rfl) ?_
                  refine w_t (pc := 1) (e_s := (2, 1, 2, 0, 0, .null, [])) (y_s := (2, [some (.long _), none, some (.long _), none, some (.long _), none], [.long _, .long _], _)) rfl (u_ rfl) ?_
                  refine w_t (pc := 2) (e_s := (14, 1, 0, 0, 0, .null, [])) (y_s := (3, [some (.long _), none, some (.long _), none, some (.long _), none], [.int (lg_cmp _ _)], _)) rfl (u_ rfl) ?_
                  refine wl2 (pc := 3) (len_s := 3) (Y := 0) rfl (Int32.toInt_toInt64 _) (by decide) (fun c23_s => ?_) (fun c23_s => ?_)
                  · exact absurd c23_s c1_s
                  · skip
                    refine w_t (pc := 6) (e_s := (2, 1, 0, 0, 0, .null, [])) (y_s := (7, [some (.long _), none, some (.long _), none, some (.long _), none], [.long _], _)) rfl (u_ rfl) ?_
                    refine w_t (pc := 7) (e_s := (2, 2, 4, 0, 0, .null, [])) (y_s := (9, [some (.long _), none, some (.long _), none, some (.long _), none], [.long _, .long _], _)) rfl (u_ rfl) ?_
                    refine w_t (pc := 9) (e_s := (14, 1, 0, 0, 0, .null, [])) (y_s := (10, [some (.long _), none, some (.long _), none, some (.long _), none], [.int (lg_cmp _ _)], _)) rfl (u_ rfl) ?_
                    refine wl4 (pc := 10) (len_s := 3) (Y := 5) rfl (Int32.toInt_toInt64 _) (by decide) (fun c24_s => ?_) (fun c24_s => ?_)
                    · exact absurd c24_s c2_s
                    · skip
                      refine w_t (pc := 13) (e_s := (0, 1, 0, 0, 0, .int 1, [])) (y_s := (14, [some (.long _), none, some (.long _), none, some (.long _), none], [.int _], _)) rfl (u_ rfl) ?_
                      refine w_t (pc := 14) (e_s := (17, 3, 18, 0, 0, .null, [])) (y_s := (18, [some (.long _), none, some (.long _), none, some (.long _), none], [.int _], _)) rfl (u_ rfl) ?_
                      refine wrI (pc := 18) (len_s := 1) rfl hk ?_
                      show wF _ 228 (9, [some (.int _)], [.int _], _) _
                      refine wrI (pc := 9) (len_s := 1) rfl hk ?_
                      show wF _ 186 (4, [some (.ref _), some (.int _)], [.int _], _) _
                      refine w_t (pc := 4) (e_s := (15, 3, 11, 1, 0, .null, [])) (y_s := (11, [some (.ref _), some (.int _)], [], _)) rfl (u_ rfl) ?_
                      refine w_t (pc := 11) (e_s := (3, 1, 0, 0, 0, .null, [])) (y_s := (12, [some (.ref _), some (.int _)], [.ref _], _)) rfl (u_ rfl) ?_
                      refine w20r (pc := 12) (len_s := 3) (q_s := 124) rfl (krq hk rfl) ?_
                      refine w_t (pc := 15) (e_s := (1, 1, 1, 0, 0, .null, [])) (y_s := (16, [some (.ref _), some (.int _)], [.int _, .ref _], _)) rfl (u_ rfl) ?_
                      refine w22 (pc := 16) (len_s := 1) rfl (hk.1 124 0 6 rfl rfl) (fun c25_s => ?_)
                      refine wq3 (pc := 17) (len_s := 3) rfl rfl (fun c26 => ?_) (fun c26 => ?_)
                      · exact absurd c26 c4_s
                      · skip
                        refine w_t (pc := 25) (e_s := (3, 1, 0, 0, 0, .null, [])) (y_s := (26, [some (.ref _), some (.int _)], [.ref _], _)) rfl (u_ rfl) ?_
                        refine w20r (pc := 26) (len_s := 3) (q_s := 124) rfl (krq hk rfl) ?_
                        refine w_t (pc := 29) (e_s := (1, 1, 1, 0, 0, .null, [])) (y_s := (30, [some (.ref _), some (.int _)], [.int _, .ref _], _)) rfl (u_ rfl) ?_
                        refine w22 (pc := 30) (len_s := 1) rfl (hk.1 124 0 6 rfl rfl) (fun c27_s => ?_)
                        refine w_t (pc := 31) (e_s := (0, 2, 0, 0, 0, .int 50, [])) (y_s := (33, [some (.ref _), some (.int _)], [.int _, .int _], _)) rfl (u_ rfl) ?_
                        refine wi1 (pc := 33) (len_s := 3) (Y := 50) rfl rfl (by decide) (fun c28_s => ?_) (fun c28_s => ?_)
                        · skip
                          refine w_t (pc := 36) (e_s := (0, 1, 0, 0, 0, .int 1, [])) (y_s := (37, [some (.ref _), some (.int _)], [.int _], _)) rfl (u_ rfl) ?_
                          refine w_t (pc := 37) (e_s := (17, 3, 42, 0, 0, .null, [])) (y_s := (42, [some (.ref _), some (.int _)], [.int _], _)) rfl (u_ rfl) ?_
                          refine wrI (pc := 42) (len_s := 1) rfl hk ?_
                          show wF _ 189 (37, [some (.ref _), some (.int _), some (.int _), some (.int _)], [.int _], _) _
                          refine w_t (pc := 37) (e_s := (15, 3, 46, 3, 0, .null, [])) (y_s := (46, [some (.ref _), some (.int _), some (.int _), some (.int _)], [], _)) rfl (u_ rfl) ?_
                          refine w_t (pc := 46) (e_s := (3, 1, 0, 0, 0, .null, [])) (y_s := (47, [some (.ref _), some (.int _), some (.int _), some (.int _)], [.ref _], _)) rfl (u_ rfl) ?_
                          refine w_t (pc := 47) (e_s := (1, 1, 2, 0, 0, .null, [])) (y_s := (48, [some (.ref _), some (.int _), some (.int _), some (.int _)], [.int _, .ref _], _)) rfl (u_ rfl) ?_
                          refine wcV (pc := 48) (len_s := 3) rfl rfl (l := [some (.ref _), some (.int _), none]) rfl (wmV t_s (fun h29 hk t_s => ?_))
                          replace t_s := t_s hk
                          refine w_t (pc := 51) (e_s := (3, 1, 0, 0, 0, .null, [])) (y_s := (52, [some (.ref _), some (.int _), some (.int _), some (.int _)], [.ref _], _)) rfl (u_ rfl) ?_
                          refine w_t (pc := 52) (e_s := (1, 1, 1, 0, 0, .null, [])) (y_s := (53, [some (.ref _), some (.int _), some (.int _), some (.int _)], [.int _, .ref _], _)) rfl (u_ rfl) ?_
                          refine wcV (pc := 53) (len_s := 3) rfl rfl (l := [some (.ref _), some (.int _), none]) rfl (wmV t_s (fun h30 hk t_s => ?_))
                          replace t_s := t_s hk
                          refine w_t (pc := 56) (e_s := (1, 1, 3, 0, 0, .null, [])) (y_s := (57, [some (.ref _), some (.int _), some (.int _), some (.int _)], [.int _], _)) rfl (u_ rfl) ?_
                          refine wsw (pc := 57) (len_s := 31) rfl ?_
                          refine wsc (X_s := 0) rfl (by decide) (fun c31_s => ?_) (fun c31_s => ?_)
                          · replace t_s := t_s.1 c31_s
                            refine w_t (pc := 88) (e_s := (3, 1, 0, 0, 0, .null, [])) (y_s := (89, [some (.ref _), some (.int _), some (.int _), some (.int _)], [.ref _], _)) rfl (u_ rfl) ?_
                            refine w20 (pc := 89) (len_s := 3) rfl ?_
                            exact wrI (pc := 92) (len_s := 1) rfl hk t_s
                          · replace t_s := t_s.2 c31_s
                            refine wsc (X_s := 1) rfl (by decide) (fun c32_s => ?_) (fun c32_s => ?_)
                            · replace t_s := t_s.1 c32_s
                              refine w_t (pc := 93) (e_s := (3, 1, 0, 0, 0, .null, [])) (y_s := (94, [some (.ref _), some (.int _), some (.int _), some (.int _)], [.ref _], _)) rfl (u_ rfl) ?_
                              refine w20 (pc := 94) (len_s := 3) rfl ?_
                              exact wrI (pc := 97) (len_s := 1) rfl hk t_s
                            · replace t_s := t_s.2 c32_s
                              refine wsc (X_s := 2) rfl (by decide) (fun c33_s => ?_) (fun c33_s => ?_)
                              · replace t_s := t_s.1 c33_s
                                refine w_t (pc := 98) (e_s := (3, 1, 0, 0, 0, .null, [])) (y_s := (99, [some (.ref _), some (.int _), some (.int _), some (.int _)], [.ref _], _)) rfl (u_ rfl) ?_
                                refine w20r (pc := 99) (len_s := 3) (q_s := 112) rfl (krq hk rfl) ?_
                                refine w_t (pc := 102) (e_s := (0, 1, 0, 0, 0, .int 2, [])) (y_s := (103, [some (.ref _), some (.int _), some (.int _), some (.int _)], [.int _, .ref _], _)) rfl (u_ rfl) ?_
                                refine w22 (pc := 103) (len_s := 1) rfl (hk.1 112 0 7 rfl rfl) (fun c34_s => ?_)
                                exact wrI (pc := 104) (len_s := 1) rfl hk t_s
                              · replace t_s := t_s.2 c33_s
                                refine wsc (X_s := 3) rfl (by decide) (fun c35_s => ?_) (fun c35_s => ?_)
                                · replace t_s := t_s.1 c35_s
                                  refine w_t (pc := 105) (e_s := (3, 1, 0, 0, 0, .null, [])) (y_s := (106, [some (.ref _), some (.int _), some (.int _), some (.int _)], [.ref _], _)) rfl (u_ rfl) ?_
                                  refine w20r (pc := 106) (len_s := 3) (q_s := 112) rfl (krq hk rfl) ?_
                                  refine w_t (pc := 109) (e_s := (0, 1, 0, 0, 0, .int 3, [])) (y_s := (110, [some (.ref _), some (.int _), some (.int _), some (.int _)], [.int _, .ref _], _)) rfl (u_ rfl) ?_
                                  refine w22 (pc := 110) (len_s := 1) rfl (hk.1 112 0 7 rfl rfl) (fun c36_s => ?_)
                                  exact wrI (pc := 111) (len_s := 1) rfl hk t_s
                                · replace t_s := t_s.2 c35_s
                                  show wF _ _ (112, _, _, _) _
                                  refine w_t (pc := 112) (e_s := (3, 1, 0, 0, 0, .null, [])) (y_s := (113, [some (.ref _), some (.int _), some (.int _), some (.int _)], [.ref _], _)) rfl (u_ rfl) ?_
                                  refine w20 (pc := 113) (len_s := 3) rfl ?_
                                  refine w_t (pc := 116) (e_s := (3, 1, 0, 0, 0, .null, [])) (y_s := (117, [some (.ref _), some (.int _), some (.int _), some (.int _)], [.ref _, .int _], _)) rfl (u_ rfl) ?_
                                  refine w_t (pc := 117) (e_s := (1, 1, 1, 0, 0, .null, [])) (y_s := (118, [some (.ref _), some (.int _), some (.int _), some (.int _)], [.int _, .ref _, .int _], _)) rfl (u_ rfl) ?_
                                  refine wcI (pc := 118) (len_s := 3) rfl rfl (l := [some (.ref _), some (.int _), none]) rfl (wmI t_s (fun v37 h37 hk t_s => ?_))
                                  replace t_s := t_s hk
                                  refine wi3 (pc := 121) (len_s := 3) rfl rfl rfl (fun c38 => ?_) (fun c38 => ?_)
                                  · replace t_s := t_s.1 c38
                                    refine w_t (pc := 124) (e_s := (3, 1, 0, 0, 0, .null, [])) (y_s := (125, [some (.ref _), some (.int _), some (.int _), some (.int _)], [.ref _], _)) rfl (u_ rfl) ?_
                                    refine w20 (pc := 125) (len_s := 3) rfl ?_
                                    refine w_t (pc := 128) (e_s := (17, 3, 133, 0, 0, .null, [])) (y_s := (133, [some (.ref _), some (.int _), some (.int _), some (.int _)], [.int _], _)) rfl (u_ rfl) ?_
                                    exact wrI (pc := 133) (len_s := 1) rfl hk t_s
                                  · replace t_s := t_s.2 c38
                                    refine w_t (pc := 131) (e_s := (0, 2, 0, 0, 0, .int (-2), [])) (y_s := (133, [some (.ref _), some (.int _), some (.int _), some (.int _)], [.int _], _)) rfl (u_ rfl) ?_
                                    exact wrI (pc := 133) (len_s := 1) rfl hk t_s
                        · exact absurd c18_s c28_s
        · replace t_s := t_s.2 c18_s
          refine w_t (pc := 40) (e_s := (0, 2, 0, 0, 0, .int (-12), [])) (y_s := (42, [some (.ref _), some (.int _)], [.int _], _)) rfl (u_ rfl) ?_
          refine wrI (pc := 42) (len_s := 1) rfl hk ?_
          show wF _ 189 (5, [some (.ref _), some (.int _), some (.int _), some (.int _)], [.int _], _) _
          refine w_t (pc := 5) (e_s := (0, 1, 0, 0, 0, .int (-1), [])) (y_s := (6, [some (.ref _), some (.int _), some (.int _), some (.int _)], [.int _, .int _], _)) rfl (u_ rfl) ?_
          refine w_t (pc := 6) (e_s := (16, 3, 30, 0, 0, .null, [])) (y_s := (9, [some (.ref _), some (.int _), some (.int _), some (.int _)], [], _)) rfl (u_ rfl) ?_
          refine w_t (pc := 9) (e_s := (3, 1, 0, 0, 0, .null, [])) (y_s := (10, [some (.ref _), some (.int _), some (.int _), some (.int _)], [.ref _], _)) rfl (u_ rfl) ?_
          refine w_t (pc := 10) (e_s := (1, 1, 2, 0, 0, .null, [])) (y_s := (11, [some (.ref _), some (.int _), some (.int _), some (.int _)], [.int _, .ref _], _)) rfl (u_ rfl) ?_
          refine w_t (pc := 11) (e_s := (10, 1, 0, 0, 0, .null, [])) (y_s := (12, [some (.ref _), some (.int _), some (.int _), some (.int _)], [.long (Int32.toInt64 _), .ref _], _)) rfl (u_ rfl) ?_
          refine wcI (pc := 12) (len_s := 3) rfl rfl (l := [some (.ref _), some (.long _), none]) rfl ?_
          refine w_t (pc := 0) (e_s := (2, 1, 1, 0, 0, .null, [])) (y_s := (1, [some (.ref _), some (.long _), none], [.long _], _)) rfl (u_ rfl) ?_
          refine w_t (pc := 1) (e_s := (0, 1, 0, 0, 0, .long 0, [])) (y_s := (2, [some (.ref _), some (.long _), none], [.long _, .long _], _)) rfl (u_ rfl) ?_
          refine w_t (pc := 2) (e_s := (3, 1, 0, 0, 0, .null, [])) (y_s := (3, [some (.ref _), some (.long _), none], [.ref _, .long _, .long _], _)) rfl (u_ rfl) ?_
          refine w20 (pc := 3) (len_s := 3) rfl ?_
          refine w_t (pc := 6) (e_s := (0, 1, 0, 0, 0, .int 1, [])) (y_s := (7, [some (.ref _), some (.long _), none], [.int _, .int _, .long _, .long _], _)) rfl (u_ rfl) ?_
          refine w_t (pc := 7) (e_s := (7, 1, 0, 1, 0, .null, [])) (y_s := (8, [some (.ref _), some (.long _), none], [.int (_ - _), .long _, .long _], _)) rfl (u_ rfl) ?_
          refine w_t (pc := 8) (e_s := (10, 1, 0, 0, 0, .null, [])) (y_s := (9, [some (.ref _), some (.long _), none], [.long (Int32.toInt64 _), .long _, .long _], _)) rfl (u_ rfl) ?_
          refine wcI (pc := 9) (len_s := 3) rfl rfl (l := [some (.long _), none, some (.long _), none, some (.long _), none]) rfl ?_
          refine w_t (pc := 0) (e_s := (2, 1, 0, 0, 0, .null, [])) (y_s := (1, [some (.long _), none, some (.long _), none, some (.long _), none], [.long _], _)) rfl (u_ rfl) ?_
          refine w_t (pc := 1) (e_s := (2, 1, 2, 0, 0, .null, [])) (y_s := (2, [some (.long _), none, some (.long _), none, some (.long _), none], [.long _, .long _], _)) rfl (u_ rfl) ?_
          refine w_t (pc := 2) (e_s := (14, 1, 0, 0, 0, .null, [])) (y_s := (3, [some (.long _), none, some (.long _), none, some (.long _), none], [.int (lg_cmp _ _)], _)) rfl (u_ rfl) ?_
          refine wl2 (pc := 3) (len_s := 3) (Y := 0) rfl (Int32.toInt_toInt64 _) (by decide) (fun c39_s => ?_) (fun c39_s => ?_)
          · replace t_s := t_s.1 c39_s
            refine w_t (pc := 17) (e_s := (0, 1, 0, 0, 0, .int 0, [])) (y_s := (18, [some (.long _), none, some (.long _), none, some (.long _), none], [.int _], _)) rfl (u_ rfl) ?_
            refine wrI (pc := 18) (len_s := 1) rfl hk ?_
            show wF _ 152 (12, [some (.ref _), some (.long _), none], [.int _], _) _
            refine wrI (pc := 12) (len_s := 1) rfl hk ?_
            show wF _ 189 (15, [some (.ref _), some (.int _), some (.int _), some (.int _)], [.int _], _) _
            refine w_t (pc := 15) (e_s := (15, 3, 30, 0, 0, .null, [])) (y_s := (30, [some (.ref _), some (.int _), some (.int _), some (.int _)], [], _)) rfl (u_ rfl) ?_
            refine w_t (pc := 30) (e_s := (0, 1, 0, 0, 0, .int (-1), [])) (y_s := (31, [some (.ref _), some (.int _), some (.int _), some (.int _)], [.int _], _)) rfl (u_ rfl) ?_
            exact wrI (pc := 31) (len_s := 1) rfl hk t_s
          · replace t_s := t_s.2 c39_s
            refine w_t (pc := 6) (e_s := (2, 1, 0, 0, 0, .null, [])) (y_s := (7, [some (.long _), none, some (.long _), none, some (.long _), none], [.long _], _)) rfl (u_ rfl) ?_
            refine w_t (pc := 7) (e_s := (2, 2, 4, 0, 0, .null, [])) (y_s := (9, [some (.long _), none, some (.long _), none, some (.long _), none], [.long _, .long _], _)) rfl (u_ rfl) ?_
            refine w_t (pc := 9) (e_s := (14, 1, 0, 0, 0, .null, [])) (y_s := (10, [some (.long _), none, some (.long _), none, some (.long _), none], [.int (lg_cmp _ _)], _)) rfl (u_ rfl) ?_
            refine wl4 (pc := 10) (len_s := 3) rfl (Int32.toInt_toInt64 _) (Int32.toInt_toInt64 _) (fun c40_s => ?_) (fun c40_s => ?_)
            · replace t_s := t_s.1 c40_s
              refine w_t (pc := 17) (e_s := (0, 1, 0, 0, 0, .int 0, [])) (y_s := (18, [some (.long _), none, some (.long _), none, some (.long _), none], [.int _], _)) rfl (u_ rfl) ?_
              refine wrI (pc := 18) (len_s := 1) rfl hk ?_
              show wF _ 152 (12, [some (.ref _), some (.long _), none], [.int _], _) _
              refine wrI (pc := 12) (len_s := 1) rfl hk ?_
              show wF _ 189 (15, [some (.ref _), some (.int _), some (.int _), some (.int _)], [.int _], _) _
              refine w_t (pc := 15) (e_s := (15, 3, 30, 0, 0, .null, [])) (y_s := (30, [some (.ref _), some (.int _), some (.int _), some (.int _)], [], _)) rfl (u_ rfl) ?_
              refine w_t (pc := 30) (e_s := (0, 1, 0, 0, 0, .int (-1), [])) (y_s := (31, [some (.ref _), some (.int _), some (.int _), some (.int _)], [.int _], _)) rfl (u_ rfl) ?_
              exact wrI (pc := 31) (len_s := 1) rfl hk t_s
            · replace t_s := t_s.2 c40_s
              refine w_t (pc := 13) (e_s := (0, 1, 0, 0, 0, .int 1, [])) (y_s := (14, [some (.long _), none, some (.long _), none, some (.long _), none], [.int _], _)) rfl (u_ rfl) ?_
              refine w_t (pc := 14) (e_s := (17, 3, 18, 0, 0, .null, [])) (y_s := (18, [some (.long _), none, some (.long _), none, some (.long _), none], [.int _], _)) rfl (u_ rfl) ?_
              refine wrI (pc := 18) (len_s := 1) rfl hk ?_
              show wF _ 152 (12, [some (.ref _), some (.long _), none], [.int _], _) _
              refine wrI (pc := 12) (len_s := 1) rfl hk ?_
              show wF _ 189 (15, [some (.ref _), some (.int _), some (.int _), some (.int _)], [.int _], _) _
              refine w_t (pc := 15) (e_s := (15, 3, 30, 0, 0, .null, [])) (y_s := (18, [some (.ref _), some (.int _), some (.int _), some (.int _)], [], _)) rfl (u_ rfl) ?_
              refine w_t (pc := 18) (e_s := (1, 1, 3, 0, 0, .null, [])) (y_s := (19, [some (.ref _), some (.int _), some (.int _), some (.int _)], [.int _], _)) rfl (u_ rfl) ?_
              refine w_t (pc := 19) (e_s := (10, 1, 0, 0, 0, .null, [])) (y_s := (20, [some (.ref _), some (.int _), some (.int _), some (.int _)], [.long (Int32.toInt64 _)], _)) rfl (u_ rfl) ?_
              refine w_t (pc := 20) (e_s := (0, 1, 0, 0, 0, .long 0, [])) (y_s := (21, [some (.ref _), some (.int _), some (.int _), some (.int _)], [.long _, .long _], _)) rfl (u_ rfl) ?_
              refine w_t (pc := 21) (e_s := (0, 3, 0, 0, 0, .long 4, [(0, 1113)])) (y_s := (24, [some (.ref _), some (.int _), some (.int _), some (.int _)], [.long _, .long _, .long _], _)) rfl (u_ rfl) ?_
              refine wcI (pc := 24) (len_s := 3) rfl rfl (l := [some (.long _), none, some (.long _), none, some (.long _), none]) rfl ?_
              refine w_t (pc := 0) (e_s := (2, 1, 0, 0, 0, .null, [])) (y_s := (1, [some (.long _), none, some (.long _), none, some (.long _), none], [.long _], _)) rfl (u_ rfl) ?_
              refine w_t (pc := 1) (e_s := (2, 1, 2, 0, 0, .null, [])) (y_s := (2, [some (.long _), none, some (.long _), none, some (.long _), none], [.long _, .long _], _)) rfl (u_ rfl) ?_
              refine w_t (pc := 2) (e_s := (14, 1, 0, 0, 0, .null, [])) (y_s := (3, [some (.long _), none, some (.long _), none, some (.long _), none], [.int (lg_cmp _ _)], _)) rfl (u_ rfl) ?_
              refine wl2 (pc := 3) (len_s := 3) (Y := 0) rfl (Int32.toInt_toInt64 _) (by decide) (fun c41 => ?_) (fun c41 => ?_)
              · replace t_s := t_s.1 c41
                refine w_t (pc := 17) (e_s := (0, 1, 0, 0, 0, .int 0, [])) (y_s := (18, [some (.long _), none, some (.long _), none, some (.long _), none], [.int _], _)) rfl (u_ rfl) ?_
                refine wrI (pc := 18) (len_s := 1) rfl hk ?_
                show wF _ 189 (27, [some (.ref _), some (.int _), some (.int _), some (.int _)], [.int _], _) _
                refine w_t (pc := 27) (e_s := (15, 3, 32, 1, 0, .null, [])) (y_s := (30, [some (.ref _), some (.int _), some (.int _), some (.int _)], [], _)) rfl (u_ rfl) ?_
                refine w_t (pc := 30) (e_s := (0, 1, 0, 0, 0, .int (-1), [])) (y_s := (31, [some (.ref _), some (.int _), some (.int _), some (.int _)], [.int _], _)) rfl (u_ rfl) ?_
                exact wrI (pc := 31) (len_s := 1) rfl hk t_s
              · replace t_s := t_s.2 c41
                refine w_t (pc := 6) (e_s := (2, 1, 0, 0, 0, .null, [])) (y_s := (7, [some (.long _), none, some (.long _), none, some (.long _), none], [.long _], _)) rfl (u_ rfl) ?_
                refine w_t (pc := 7) (e_s := (2, 2, 4, 0, 0, .null, [])) (y_s := (9, [some (.long _), none, some (.long _), none, some (.long _), none], [.long _, .long _], _)) rfl (u_ rfl) ?_
                refine w_t (pc := 9) (e_s := (14, 1, 0, 0, 0, .null, [])) (y_s := (10, [some (.long _), none, some (.long _), none, some (.long _), none], [.int (lg_cmp _ _)], _)) rfl (u_ rfl) ?_
                refine wl4 (pc := 10) (len_s := 3) (Y := 4) rfl (Int32.toInt_toInt64 _) (by decide) (fun c42 => ?_) (fun c42 => ?_)
                · replace t_s := t_s.1 c42
                  refine w_t (pc := 17) (e_s := (0, 1, 0, 0, 0, .int 0, [])) (y_s := (18, [some (.long _), none, some (.long _), none, some (.long _), none], [.int _], _)) rfl (u_ rfl) ?_
                  refine wrI (pc := 18) (len_s := 1) rfl hk ?_
                  show wF _ 189 (27, [some (.ref _), some (.int _), some (.int _), some (.int _)], [.int _], _) _
                  refine w_t (pc := 27) (e_s := (15, 3, 32, 1, 0, .null, [])) (y_s := (30, [some (.ref _), some (.int _), some (.int _), some (.int _)], [], _)) rfl (u_ rfl) ?_
                  refine w_t (pc := 30) (e_s := (0, 1, 0, 0, 0, .int (-1), [])) (y_s := (31, [some (.ref _), some (.int _), some (.int _), some (.int _)], [.int _], _)) rfl (u_ rfl) ?_
                  exact wrI (pc := 31) (len_s := 1) rfl hk t_s
                · replace t_s := t_s.2 c42
                  refine w_t (pc := 13) (e_s := (0, 1, 0, 0, 0, .int 1, [])) (y_s := (14, [some (.long _), none, some (.long _), none, some (.long _), none], [.int _], _)) rfl (u_ rfl) ?_
                  refine w_t (pc := 14) (e_s := (17, 3, 18, 0, 0, .null, [])) (y_s := (18, [some (.long _), none, some (.long _), none, some (.long _), none], [.int _], _)) rfl (u_ rfl) ?_
                  refine wrI (pc := 18) (len_s := 1) rfl hk ?_
                  show wF _ 189 (27, [some (.ref _), some (.int _), some (.int _), some (.int _)], [.int _], _) _
                  refine w_t (pc := 27) (e_s := (15, 3, 32, 1, 0, .null, [])) (y_s := (32, [some (.ref _), some (.int _), some (.int _), some (.int _)], [], _)) rfl (u_ rfl) ?_
                  refine w_t (pc := 32) (e_s := (3, 1, 0, 0, 0, .null, [])) (y_s := (33, [some (.ref _), some (.int _), some (.int _), some (.int _)], [.ref _], _)) rfl (u_ rfl) ?_
                  refine w_t (pc := 33) (e_s := (1, 1, 1, 0, 0, .null, [])) (y_s := (34, [some (.ref _), some (.int _), some (.int _), some (.int _)], [.int _, .ref _], _)) rfl (u_ rfl) ?_
                  refine wcI (pc := 34) (len_s := 3) rfl rfl (l := [some (.ref _), some (.int _)]) rfl ?_
                  refine w_t (pc := 0) (e_s := (1, 1, 1, 0, 0, .null, [])) (y_s := (1, [some (.ref _), some (.int _)], [.int _], _)) rfl (u_ rfl) ?_
                  refine wcI (pc := 1) (len_s := 3) rfl rfl (l := [some (.int _)]) rfl ?_
                  refine w_t (pc := 0) (e_s := (1, 1, 0, 0, 0, .null, [])) (y_s := (1, [some (.int _)], [.int _], _)) rfl (u_ rfl) ?_
                  refine w_t (pc := 1) (e_s := (10, 1, 0, 0, 0, .null, [])) (y_s := (2, [some (.int _)], [.long (Int32.toInt64 _)], _)) rfl (u_ rfl) ?_
                  refine w_t (pc := 2) (e_s := (0, 1, 0, 0, 0, .long 0, [])) (y_s := (3, [some (.int _)], [.long _, .long _], _)) rfl (u_ rfl) ?_
                  refine w_t (pc := 3) (e_s := (0, 3, 0, 0, 0, .long 5, [(0, 1063)])) (y_s := (6, [some (.int _)], [.long _, .long _, .long _], _)) rfl (u_ rfl) ?_
                  refine wcI (pc := 6) (len_s := 3) rfl rfl (l := [some (.long _), none, some (.long _), none, some (.long _), none]) rfl ?_
                  refine w_t (pc := 0) (e_s := (2, 1, 0, 0, 0, .null, [])) (y_s := (1, [some (.long _), none, some (.long _), none, some (.long _), none], [.long _], _)) rfl (u_ rfl) ?_
                  refine w_t (pc := 1) (e_s := (2, 1, 2, 0, 0, .null, [])) (y_s := (2, [some (.long _), none, some (.long _), none, some (.long _), none], [.long _, .long _], _)) rfl (u_ rfl) ?_
                  refine w_t (pc := 2) (e_s := (14, 1, 0, 0, 0, .null, [])) (y_s := (3, [some (.long _), none, some (.long _), none, some (.long _), none], [.int (lg_cmp _ _)], _)) rfl (u_ rfl) ?_
                  refine wl2 (pc := 3) (len_s := 3) (Y := 0) rfl (Int32.toInt_toInt64 _) (by decide) (fun c43_s => ?_) (fun c43_s => ?_)
                  · exact absurd c43_s c1_s
                  · skip
                    refine w_t (pc := 6) (e_s := (2, 1, 0, 0, 0, .null, [])) (y_s := (7, [some (.long _), none, some (.long _), none, some (.long _), none], [.long _], _)) rfl (u_ rfl) ?_
                    refine w_t (pc := 7) (e_s := (2, 2, 4, 0, 0, .null, [])) (y_s := (9, [some (.long _), none, some (.long _), none, some (.long _), none], [.long _, .long _], _)) rfl (u_ rfl) ?_
                    refine w_t (pc := 9) (e_s := (14, 1, 0, 0, 0, .null, [])) (y_s := (10, [some (.long _), none, some (.long _), none, some (.long _), none], [.int (lg_cmp _ _)], _)) rfl (u_ rfl) ?_
                    refine wl4 (pc := 10) (len_s := 3) (Y := 5) rfl (Int32.toInt_toInt64 _) (by decide) (fun c44_s => ?_) (fun c44_s => ?_)
                    · exact absurd c44_s c2_s
                    · skip
                      refine w_t (pc := 13) (e_s := (0, 1, 0, 0, 0, .int 1, [])) (y_s := (14, [some (.long _), none, some (.long _), none, some (.long _), none], [.int _], _)) rfl (u_ rfl) ?_
                      refine w_t (pc := 14) (e_s := (17, 3, 18, 0, 0, .null, [])) (y_s := (18, [some (.long _), none, some (.long _), none, some (.long _), none], [.int _], _)) rfl (u_ rfl) ?_
                      refine wrI (pc := 18) (len_s := 1) rfl hk ?_
                      show wF _ 228 (9, [some (.int _)], [.int _], _) _
                      refine wrI (pc := 9) (len_s := 1) rfl hk ?_
                      show wF _ 186 (4, [some (.ref _), some (.int _)], [.int _], _) _
                      refine w_t (pc := 4) (e_s := (15, 3, 11, 1, 0, .null, [])) (y_s := (11, [some (.ref _), some (.int _)], [], _)) rfl (u_ rfl) ?_
                      refine w_t (pc := 11) (e_s := (3, 1, 0, 0, 0, .null, [])) (y_s := (12, [some (.ref _), some (.int _)], [.ref _], _)) rfl (u_ rfl) ?_
                      refine w20r (pc := 12) (len_s := 3) (q_s := 124) rfl (krq hk rfl) ?_
                      refine w_t (pc := 15) (e_s := (1, 1, 1, 0, 0, .null, [])) (y_s := (16, [some (.ref _), some (.int _)], [.int _, .ref _], _)) rfl (u_ rfl) ?_
                      refine w22 (pc := 16) (len_s := 1) rfl (hk.1 124 0 6 rfl rfl) (fun c45 => ?_)
                      refine wq3 (pc := 17) (len_s := 3) rfl rfl (fun c46_s => ?_) (fun c46_s => ?_)
                      · exact absurd c46_s c4_s
                      · skip
                        refine w_t (pc := 25) (e_s := (3, 1, 0, 0, 0, .null, [])) (y_s := (26, [some (.ref _), some (.int _)], [.ref _], _)) rfl (u_ rfl) ?_
                        refine w20r (pc := 26) (len_s := 3) (q_s := 124) rfl (krq hk rfl) ?_
                        refine w_t (pc := 29) (e_s := (1, 1, 1, 0, 0, .null, [])) (y_s := (30, [some (.ref _), some (.int _)], [.int _, .ref _], _)) rfl (u_ rfl) ?_
                        refine w22 (pc := 30) (len_s := 1) rfl (hk.1 124 0 6 rfl rfl) (fun c47_s => ?_)
                        refine w_t (pc := 31) (e_s := (0, 2, 0, 0, 0, .int 50, [])) (y_s := (33, [some (.ref _), some (.int _)], [.int _, .int _], _)) rfl (u_ rfl) ?_
                        refine wi1 (pc := 33) (len_s := 3) (Y := 50) rfl rfl (by decide) (fun c48_s => ?_) (fun c48_s => ?_)
                        · exact absurd c48_s c18_s
                        · skip
                          refine w_t (pc := 40) (e_s := (0, 2, 0, 0, 0, .int (-12), [])) (y_s := (42, [some (.ref _), some (.int _)], [.int _], _)) rfl (u_ rfl) ?_
                          refine wrI (pc := 42) (len_s := 1) rfl hk ?_
                          show wF _ 189 (37, [some (.ref _), some (.int _), some (.int _), some (.int _)], [.int _], _) _
                          refine w_t (pc := 37) (e_s := (15, 3, 46, 3, 0, .null, [])) (y_s := (40, [some (.ref _), some (.int _), some (.int _), some (.int _)], [], _)) rfl (u_ rfl) ?_
                          refine w_t (pc := 40) (e_s := (3, 1, 0, 0, 0, .null, [])) (y_s := (41, [some (.ref _), some (.int _), some (.int _), some (.int _)], [.ref _], _)) rfl (u_ rfl) ?_
                          refine w_t (pc := 41) (e_s := (1, 1, 1, 0, 0, .null, [])) (y_s := (42, [some (.ref _), some (.int _), some (.int _), some (.int _)], [.int _, .ref _], _)) rfl (u_ rfl) ?_
                          refine wcI (pc := 42) (len_s := 3) rfl rfl (l := [some (.ref _), some (.int _)]) rfl ?_
                          refine w_t (pc := 0) (e_s := (1, 1, 1, 0, 0, .null, [])) (y_s := (1, [some (.ref _), some (.int _)], [.int _], _)) rfl (u_ rfl) ?_
                          refine wcI (pc := 1) (len_s := 3) rfl rfl (l := [some (.int _)]) rfl ?_
                          refine w_t (pc := 0) (e_s := (1, 1, 0, 0, 0, .null, [])) (y_s := (1, [some (.int _)], [.int _], _)) rfl (u_ rfl) ?_
                          refine w_t (pc := 1) (e_s := (10, 1, 0, 0, 0, .null, [])) (y_s := (2, [some (.int _)], [.long (Int32.toInt64 _)], _)) rfl (u_ rfl) ?_
                          refine w_t (pc := 2) (e_s := (0, 1, 0, 0, 0, .long 0, [])) (y_s := (3, [some (.int _)], [.long _, .long _], _)) rfl (u_ rfl) ?_
                          refine w_t (pc := 3) (e_s := (0, 3, 0, 0, 0, .long 5, [(0, 1063)])) (y_s := (6, [some (.int _)], [.long _, .long _, .long _], _)) rfl (u_ rfl) ?_
                          refine wcI (pc := 6) (len_s := 3) rfl rfl (l := [some (.long _), none, some (.long _), none, some (.long _), none]) rfl ?_
                          refine w_t (pc := 0) (e_s := (2, 1, 0, 0, 0, .null, [])) (y_s := (1, [some (.long _), none, some (.long _), none, some (.long _), none], [.long _], _)) rfl (u_ rfl) ?_
                          refine w_t (pc := 1) (e_s := (2, 1, 2, 0, 0, .null, [])) (y_s := (2, [some (.long _), none, some (.long _), none, some (.long _), none], [.long _, .long _], _)) rfl (u_ rfl) ?_
                          refine w_t (pc := 2) (e_s := (14, 1, 0, 0, 0, .null, [])) (y_s := (3, [some (.long _), none, some (.long _), none, some (.long _), none], [.int (lg_cmp _ _)], _)) rfl (u_ rfl) ?_
                          refine wl2 (pc := 3) (len_s := 3) (Y := 0) rfl (Int32.toInt_toInt64 _) (by decide) (fun c49 => ?_) (fun c49 => ?_)
                          · exact absurd c49 c1_s
                          · skip
                            refine w_t (pc := 6) (e_s := (2, 1, 0, 0, 0, .null, [])) (y_s := (7, [some (.long _), none, some (.long _), none, some (.long _), none], [.long _], _)) rfl (u_ rfl) ?_
                            refine w_t (pc := 7) (e_s := (2, 2, 4, 0, 0, .null, [])) (y_s := (9, [some (.long _), none, some (.long _), none, some (.long _), none], [.long _, .long _], _)) rfl (u_ rfl) ?_
                            refine w_t (pc := 9) (e_s := (14, 1, 0, 0, 0, .null, [])) (y_s := (10, [some (.long _), none, some (.long _), none, some (.long _), none], [.int (lg_cmp _ _)], _)) rfl (u_ rfl) ?_
                            refine wl4 (pc := 10) (len_s := 3) (Y := 5) rfl (Int32.toInt_toInt64 _) (by decide) (fun c50 => ?_) (fun c50 => ?_)
                            · exact absurd c50 c2_s
                            · skip
                              refine w_t (pc := 13) (e_s := (0, 1, 0, 0, 0, .int 1, [])) (y_s := (14, [some (.long _), none, some (.long _), none, some (.long _), none], [.int _], _)) rfl (u_ rfl) ?_
                              refine w_t (pc := 14) (e_s := (17, 3, 18, 0, 0, .null, [])) (y_s := (18, [some (.long _), none, some (.long _), none, some (.long _), none], [.int _], _)) rfl (u_ rfl) ?_
                              refine wrI (pc := 18) (len_s := 1) rfl hk ?_
                              show wF _ 228 (9, [some (.int _)], [.int _], _) _
                              refine wrI (pc := 9) (len_s := 1) rfl hk ?_
                              show wF _ 186 (4, [some (.ref _), some (.int _)], [.int _], _) _
                              refine w_t (pc := 4) (e_s := (15, 3, 11, 1, 0, .null, [])) (y_s := (11, [some (.ref _), some (.int _)], [], _)) rfl (u_ rfl) ?_
                              refine w_t (pc := 11) (e_s := (3, 1, 0, 0, 0, .null, [])) (y_s := (12, [some (.ref _), some (.int _)], [.ref _], _)) rfl (u_ rfl) ?_
                              refine w20r (pc := 12) (len_s := 3) (q_s := 124) rfl (krq hk rfl) ?_
                              refine w_t (pc := 15) (e_s := (1, 1, 1, 0, 0, .null, [])) (y_s := (16, [some (.ref _), some (.int _)], [.int _, .ref _], _)) rfl (u_ rfl) ?_
                              refine w22 (pc := 16) (len_s := 1) rfl (hk.1 124 0 6 rfl rfl) (fun c51_s => ?_)
                              refine wq3 (pc := 17) (len_s := 3) rfl rfl (fun c52_s => ?_) (fun c52_s => ?_)
                              · exact absurd c52_s c4_s
                              · skip
                                refine w_t (pc := 25) (e_s := (3, 1, 0, 0, 0, .null, [])) (y_s := (26, [some (.ref _), some (.int _)], [.ref _], _)) rfl (u_ rfl) ?_
                                refine w20r (pc := 26) (len_s := 3) (q_s := 124) rfl (krq hk rfl) ?_
                                refine w_t (pc := 29) (e_s := (1, 1, 1, 0, 0, .null, [])) (y_s := (30, [some (.ref _), some (.int _)], [.int _, .ref _], _)) rfl (u_ rfl) ?_
                                refine w22 (pc := 30) (len_s := 1) rfl (hk.1 124 0 6 rfl rfl) (fun c53 => ?_)
                                refine w_t (pc := 31) (e_s := (0, 2, 0, 0, 0, .int 50, [])) (y_s := (33, [some (.ref _), some (.int _)], [.int _, .int _], _)) rfl (u_ rfl) ?_
                                refine wi1 (pc := 33) (len_s := 3) (Y := 50) rfl rfl (by decide) (fun c54 => ?_) (fun c54 => ?_)
                                · exact absurd c54 c18_s
                                · skip
                                  refine w_t (pc := 40) (e_s := (0, 2, 0, 0, 0, .int (-12), [])) (y_s := (42, [some (.ref _), some (.int _)], [.int _], _)) rfl (u_ rfl) ?_
                                  refine wrI (pc := 42) (len_s := 1) rfl hk ?_
                                  show wF _ 189 (45, [some (.ref _), some (.int _), some (.int _), some (.int _)], [.int _], _) _
                                  exact wrI (pc := 45) (len_s := 1) rfl hk t_s
/-- ColdShodModel.goesJourney(I)V, from 0 on -/
theorem sg_188_0 {F_s : Nat} {x1_s : Int32} {h_s : zH} {K_s : zH → Prop} (hk : hKn h_s) (t_s : wF F_s 188 (12, [some (.ref 102), some (.int x1_s), some (.int 1)], [], (h_s.1, zup (zup h_s.2.1 102 24 0) 102 25 0, h_s.2.2.1, h_s.2.2.2)) (gV K_s)) : wF (F_s + 1) 188 (0, [some (.ref 102), some (.int x1_s), none], [], h_s) (gV K_s) := by
  refine w_0 (pc := 0) (e_s := (3, 1, 0, 0, 0, .null, [])) (y_s := (1, [some (.ref _), some (.int _), none], [.ref _], _)) rfl (u_ rfl) ?_
  refine w_t (pc := 1) (e_s := (0, 1, 0, 0, 0, .int 0, [])) (y_s := (2, [some (.ref _), some (.int _), none], [.int _, .ref _], _)) rfl (u_ rfl) ?_
  refine w21 (pc := 2) (len_s := 3) rfl ?_
  refine w_t (pc := 5) (e_s := (3, 1, 0, 0, 0, .null, [])) (y_s := (6, [some (.ref _), some (.int _), none], [.ref _], _)) rfl (u_ rfl) ?_
  refine w_t (pc := 6) (e_s := (0, 1, 0, 0, 0, .int 0, [])) (y_s := (7, [some (.ref _), some (.int _), none], [.int _, .ref _], _)) rfl (u_ rfl) ?_
  refine w21 (pc := 7) (len_s := 3) rfl ?_
  refine w_t (pc := 10) (e_s := (0, 1, 0, 0, 0, .int 1, [])) (y_s := (11, [some (.ref _), some (.int _), none], [.int _], _)) rfl (u_ rfl) ?_
  refine w_t (pc := 11) (e_s := (4, 1, 2, 0, 0, .null, [])) (y_s := (12, [some (.ref _), some (.int _), some (.int _)], [], _)) rfl (u_ rfl) ?_
  exact t_s
/-- ColdShodModel.goesJourney(I)V, from 12 on -/
theorem sg_188_12 {F_s : Nat} {x1_s x2_s : Int32} {h_s : zH} {K_s : zH → Prop} (hk : hKn h_s) (t_s : (x2_s.toInt = 0 → K_s h_s) ∧ (¬ x2_s.toInt = 0 → wF F_s 187 (0, [some (.ref 102), some (.int x1_s), none], [], h_s) (gI (fun v2 h2 => hKn h2 → ((h_s.2.1 102 25).toInt < v2.toInt → (zix ((60 * x1_s) + (h2.2.1 102 25)) < 360 → wF F_s 183 (0, [some (.ref 102), some (.int ((h2.2.2.1 126 (zix ((60 * x1_s) + (h2.2.1 102 25)))).toInt32)), none], [], h2) (gV (fun h5 => hKn h5 → wF F_s 188 (65, [some (.ref 102), some (.int x1_s), some (.int (h5.2.1 102 23))], [], (h5.1, zup h5.2.1 102 24 ((h5.2.1 102 24) + (h5.2.1 102 22)), h5.2.2.1, h5.2.2.2)) (gV K_s))))) ∧ (¬ (h_s.2.1 102 25).toInt < v2.toInt → K_s h2))))) : wF (F_s + 1) 188 (12, [some (.ref 102), some (.int x1_s), some (.int x2_s)], [], h_s) (gV K_s) := by
  refine w_0 (pc := 12) (e_s := (1, 1, 2, 0, 0, .null, [])) (y_s := (13, [some (.ref _), some (.int _), some (.int _)], [.int _], _)) rfl (u_ rfl) ?_
  refine wq0 (pc := 13) (len_s := 3) rfl rfl (fun c1_s => ?_) (fun c1_s => ?_)
  · replace t_s := t_s.1 c1_s
    exact wrV (pc := 89) (len_s := 1) rfl hk t_s
  · replace t_s := t_s.2 c1_s
    refine w_t (pc := 16) (e_s := (3, 1, 0, 0, 0, .null, [])) (y_s := (17, [some (.ref _), some (.int _), some (.int _)], [.ref _], _)) rfl (u_ rfl) ?_
    refine w20 (pc := 17) (len_s := 3) rfl ?_
    refine w_t (pc := 20) (e_s := (3, 1, 0, 0, 0, .null, [])) (y_s := (21, [some (.ref _), some (.int _), some (.int _)], [.ref _, .int _], _)) rfl (u_ rfl) ?_
    refine w_t (pc := 21) (e_s := (1, 1, 1, 0, 0, .null, [])) (y_s := (22, [some (.ref _), some (.int _), some (.int _)], [.int _, .ref _, .int _], _)) rfl (u_ rfl) ?_
    refine wcI (pc := 22) (len_s := 3) rfl rfl (l := [some (.ref _), some (.int _), none]) rfl (wmI t_s (fun v2 h2 hk t_s => ?_))
    replace t_s := t_s hk
    refine wi3 (pc := 25) (len_s := 3) rfl rfl rfl (fun c3_s => ?_) (fun c3_s => ?_)
    · replace t_s := t_s.1 c3_s
      refine w_t (pc := 28) (e_s := (3, 1, 0, 0, 0, .null, [])) (y_s := (29, [some (.ref _), some (.int _), some (.int _)], [.ref _], _)) rfl (u_ rfl) ?_
      refine w_t (pc := 29) (e_s := (3, 1, 0, 0, 0, .null, [])) (y_s := (30, [some (.ref _), some (.int _), some (.int _)], [.ref _, .ref _], _)) rfl (u_ rfl) ?_
      refine w20r (pc := 30) (len_s := 3) (q_s := 126) rfl (krq hk rfl) ?_
      refine w_t (pc := 33) (e_s := (0, 2, 0, 0, 0, .int 60, [])) (y_s := (35, [some (.ref _), some (.int _), some (.int _)], [.int _, .ref _, .ref _], _)) rfl (u_ rfl) ?_
      refine w_t (pc := 35) (e_s := (1, 1, 1, 0, 0, .null, [])) (y_s := (36, [some (.ref _), some (.int _), some (.int _)], [.int _, .int _, .ref _, .ref _], _)) rfl (u_ rfl) ?_
      refine w_t (pc := 36) (e_s := (7, 1, 0, 2, 0, .null, [])) (y_s := (37, [some (.ref _), some (.int _), some (.int _)], [.int (_ * _), .ref _, .ref _], _)) rfl (u_ rfl) ?_
      refine w_t (pc := 37) (e_s := (3, 1, 0, 0, 0, .null, [])) (y_s := (38, [some (.ref _), some (.int _), some (.int _)], [.ref _, .int _, .ref _, .ref _], _)) rfl (u_ rfl) ?_
      refine w20 (pc := 38) (len_s := 3) rfl ?_
      refine w_t (pc := 41) (e_s := (7, 1, 0, 0, 0, .null, [])) (y_s := (42, [some (.ref _), some (.int _), some (.int _)], [.int (_ + _), .ref _, .ref _], _)) rfl (u_ rfl) ?_
      refine w23 (pc := 42) (len_s := 1) rfl (hk.1 126 1 360 rfl rfl) (fun c4_s => ?_)
      replace t_s := t_s c4_s
      refine w_t (pc := 43) (e_s := (11, 1, 0, 0, 0, .null, [])) (y_s := (44, [some (.ref _), some (.int _), some (.int _)], [.int (Int64.toInt32 _), .ref _], _)) rfl (u_ rfl) ?_
      refine wcV (pc := 44) (len_s := 3) rfl rfl (l := [some (.ref _), some (.int _), none]) rfl (wmV t_s (fun h5 hk t_s => ?_))
      replace t_s := t_s hk
      refine w_t (pc := 47) (e_s := (3, 1, 0, 0, 0, .null, [])) (y_s := (48, [some (.ref _), some (.int _), some (.int _)], [.ref _], _)) rfl (u_ rfl) ?_
      refine w_t (pc := 48) (e_s := (39, 1, 0, 0, 0, .null, [])) (y_s := (49, [some (.ref _), some (.int _), some (.int _)], [.ref _, .ref _], _)) rfl (u_ rfl) ?_
      refine w20 (pc := 49) (len_s := 3) rfl ?_
      refine w_t (pc := 52) (e_s := (3, 1, 0, 0, 0, .null, [])) (y_s := (53, [some (.ref _), some (.int _), some (.int _)], [.ref _, .int _, .ref _], _)) rfl (u_ rfl) ?_
      refine w20 (pc := 53) (len_s := 3) rfl ?_
      refine w_t (pc := 56) (e_s := (7, 1, 0, 0, 0, .null, [])) (y_s := (57, [some (.ref _), some (.int _), some (.int _)], [.int (_ + _), .ref _], _)) rfl (u_ rfl) ?_
      refine w21 (pc := 57) (len_s := 3) rfl ?_
      refine w_t (pc := 60) (e_s := (3, 1, 0, 0, 0, .null, [])) (y_s := (61, [some (.ref _), some (.int _), some (.int _)], [.ref _], _)) rfl (u_ rfl) ?_
      refine w20 (pc := 61) (len_s := 3) rfl ?_
      refine w_t (pc := 64) (e_s := (4, 1, 2, 0, 0, .null, [])) (y_s := (65, [some (.ref _), some (.int _), some (.int _)], [], _)) rfl (u_ rfl) ?_
      exact t_s
    · replace t_s := t_s.2 c3_s
      exact wrV (pc := 89) (len_s := 1) rfl hk t_s
/-- ColdShodModel.goesJourney(I)V, from 65 on -/
theorem sg_188_65 {F_s : Nat} {x1_s x2_s : Int32} {h_s : zH} {K_s : zH → Prop} (hk : hKn h_s) (t_s : ((h_s.2.1 102 23).toInt = 0 → wF F_s 188 (12, [some (.ref 102), some (.int x1_s), some (.int x2_s)], [], (h_s.1, zup h_s.2.1 102 25 ((h_s.2.1 102 25) + 0), h_s.2.2.1, h_s.2.2.2)) (gV K_s)) ∧ (¬ (h_s.2.1 102 23).toInt = 0 → wF F_s 188 (12, [some (.ref 102), some (.int x1_s), some (.int x2_s)], [], (h_s.1, zup h_s.2.1 102 25 ((h_s.2.1 102 25) + 1), h_s.2.2.1, h_s.2.2.2)) (gV K_s))) : wF (F_s + 1) 188 (65, [some (.ref 102), some (.int x1_s), some (.int x2_s)], [], h_s) (gV K_s) := by
  refine w_0 (pc := 65) (e_s := (3, 1, 0, 0, 0, .null, [])) (y_s := (66, [some (.ref _), some (.int _), some (.int _)], [.ref _], _)) rfl (u_ rfl) ?_
  refine w_t (pc := 66) (e_s := (39, 1, 0, 0, 0, .null, [])) (y_s := (67, [some (.ref _), some (.int _), some (.int _)], [.ref _, .ref _], _)) rfl (u_ rfl) ?_
  refine w20 (pc := 67) (len_s := 3) rfl ?_
  refine w_t (pc := 70) (e_s := (3, 1, 0, 0, 0, .null, [])) (y_s := (71, [some (.ref _), some (.int _), some (.int _)], [.ref _, .int _, .ref _], _)) rfl (u_ rfl) ?_
  refine w20 (pc := 71) (len_s := 3) rfl ?_
  refine wq0 (pc := 74) (len_s := 3) rfl rfl (fun c1_s => ?_) (fun c1_s => ?_)
  · replace t_s := t_s.1 c1_s
    refine w_t (pc := 81) (e_s := (0, 1, 0, 0, 0, .int 0, [])) (y_s := (82, [some (.ref _), some (.int _), some (.int _)], [.int _, .int _, .ref _], _)) rfl (u_ rfl) ?_
    refine w_t (pc := 82) (e_s := (7, 1, 0, 0, 0, .null, [])) (y_s := (83, [some (.ref _), some (.int _), some (.int _)], [.int (_ + _), .ref _], _)) rfl (u_ rfl) ?_
    refine w21 (pc := 83) (len_s := 3) rfl ?_
    refine w_t (pc := 86) (e_s := (17, 3, 12, 0, 0, .null, [])) (y_s := (12, [some (.ref _), some (.int _), some (.int _)], [], _)) rfl (u_ rfl) ?_
    exact t_s
  · replace t_s := t_s.2 c1_s
    refine w_t (pc := 77) (e_s := (0, 1, 0, 0, 0, .int 1, [])) (y_s := (78, [some (.ref _), some (.int _), some (.int _)], [.int _, .int _, .ref _], _)) rfl (u_ rfl) ?_
    refine w_t (pc := 78) (e_s := (17, 3, 82, 0, 0, .null, [])) (y_s := (82, [some (.ref _), some (.int _), some (.int _)], [.int _, .int _, .ref _], _)) rfl (u_ rfl) ?_
    refine w_t (pc := 82) (e_s := (7, 1, 0, 0, 0, .null, [])) (y_s := (83, [some (.ref _), some (.int _), some (.int _)], [.int (_ + _), .ref _], _)) rfl (u_ rfl) ?_
    refine w21 (pc := 83) (len_s := 3) rfl ?_
    refine w_t (pc := 86) (e_s := (17, 3, 12, 0, 0, .null, [])) (y_s := (12, [some (.ref _), some (.int _), some (.int _)], [], _)) rfl (u_ rfl) ?_
    exact t_s
/-! A JOURNEY gone: class and reference. -/
def gI32 (k_s : Nat) : Int32 := Int32.ofInt (k_s : Int)
theorem gI_of {v_s : Int32} {k_s : Nat} (e_s : v_s.toInt = (k_s : Int)) : v_s = gI32 k_s := by
  unfold gI32
  rw [← e_s, Int32.ofInt_toInt]
def jrn (go_s : oI → Nat → Nat × Bool × oI) : Nat → Nat → Int32 → oI → Int32 × Nat × oI × Bool
  | 0, n_s, m_s, o => (m_s, n_s, o, true)
  | d_s + 1, n_s, m_s, o => if (go_s o n_s).2.1 = true then jrn go_s d_s (n_s + 1) (m_s + gI32 (go_s o n_s).1) (go_s o n_s).2.2 else (m_s + gI32 (go_s o n_s).1, n_s, (go_s o n_s).2.2, false)
section JN
variable {go_s : oI → Nat → Nat × Bool × oI} {d_s n_s : Nat} {m_s : Int32} {o : oI}
theorem jr_yes (h_s : (go_s o n_s).2.1 = true) : jrn go_s (d_s + 1) n_s m_s o = jrn go_s d_s (n_s + 1) (m_s + gI32 (go_s o n_s).1) (go_s o n_s).2.2 := if_pos h_s
theorem jr_no (h_s : ¬ (go_s o n_s).2.1 = true) : jrn go_s (d_s + 1) n_s m_s o = (m_s + gI32 (go_s o n_s).1, n_s, (go_s o n_s).2.2, false) := if_neg h_s
end JN
theorem jr_all {go_s : oI → Nat → Nat × Bool × oI} : ∀ (d_s n_s : Nat) (m_s : Int32) (o : oI), ((jrn go_s d_s n_s m_s o).2.2.2 = true → (jrn go_s d_s n_s m_s o).2.1 = n_s + d_s) ∧ (¬ (jrn go_s d_s n_s m_s o).2.2.2 = true → (jrn go_s d_s n_s m_s o).2.1 < n_s + d_s)
  | 0, n_s, m_s, o => ⟨fun _ => rfl, fun h_s => absurd rfl h_s⟩
  | d_s + 1, n_s, m_s, o => by
    by_cases c_s : (go_s o n_s).2.1 = true
    · rw [jr_yes c_s]
      have ih_s := jr_all (go_s := go_s) d_s (n_s + 1) (m_s + gI32 (go_s o n_s).1) (go_s o n_s).2.2
      exact ⟨fun w_s => by have := ih_s.1 w_s; omega, fun w_s => by have := ih_s.2 w_s; omega⟩
    · rw [jr_no c_s]
      exact ⟨fun w_s => absurd (show false = true from w_s) (by decide), fun _ => by show n_s < n_s + (d_s + 1); omega⟩
section JG_s
variable {h_s : zH} {K_s : Int32 → zH → Prop} {V : zH → Prop} {nh ni nr q_s L_s : Nat} {lw : Option (List pB)} {x1_s x2_s x3 : Int32} {f0_s : Nat → Nat → Int32} {c_s : Nat → Int64} {R_s : Int32 × Nat × oI × Bool}
theorem ag49 (hk : hKn h_s) (hr9 : h_s.2.2.2 7 9 = some q_s) (hm_s : q_s = 14 ∨ q_s = 17) (hl : lawC q_s f0_s lw) (hp : lwP lw) (hc_s : tC nh ni nr f0_s) (hL : L_s ≤ 20) (eL : (f0_s 50 1).toInt = (L_s : Int)) (es : ∀ k_s, k_s < L_s → f0_s 51 k_s = (c_s k_s).toInt32) (ok_s : ∀ k_s, k_s < L_s → okK nr (c_s k_s)) (t_s : ∀ v_s f1_s, v_s.toInt = (if R_s.2.2.2 = true then 1 else 0) → f1_s 50 2 = R_s.1 → (f1_s 50 3).toInt = (R_s.2.1 : Int) → (∀ k_s, k_s < 6 → f1_s 88 k_s = R_s.2.2.1 k_s) → frJ f0_s f1_s → K_s v_s (h_s.1, f1_s, h_s.2.2.1, h_s.2.2.2)) : ∀ (F_s n_s d_s : Nat) (x3 m_s : Int32) (f_s : Nat → Nat → Int32) (o : oI), frJ f0_s f_s → cwO f_s 88 o → oB o → x3.toInt = (n_s : Int) → n_s + d_s = L_s → f_s 50 2 = m_s → (f_s 50 3).toInt = (n_s : Int) → jrn (goJ lw f0_s c_s) d_s n_s m_s o = R_s → wF F_s 49 (12, [some (.ref 50), some (.ref 88), some (.ref 7), some (.int x3)], [], (h_s.1, f_s, h_s.2.2.1, h_s.2.2.2)) (gI K_s)
  | 0, _, _, _, _, _, _, _, _, _, _, _, _, _, _ => wF_zero
  | F_s + 1, n_s, d_s, x3, m_s, f_s, o, g_s, hcw, hB_s, e3_s, ed, em, ee, hR => by
    have e50 : f_s 50 1 = f0_s 50 1 := g_s _ _ (by omega) (by omega) (by omega) (by omega) (by omega)
    have b_s := hc_s.1
    refine sg_49_12 (h_s := (h_s.1, f_s, h_s.2.2.1, h_s.2.2.2)) hk ?_
    dsimp only
    rw [e50, eL, e3_s]
    match d_s, ed, hR with
    | 0, ed, hR =>
      refine ⟨fun c1_s => absurd c1_s (by omega), fun _ => t_s 1 f_s ?_ ?_ ?_ ?_ g_s⟩
      · rw [← hR]
        rfl
      · rw [← hR]
        exact em
      · rw [← hR]
        exact ee
      · rw [← hR]
        exact hcw.1
    | d_s + 1, ed, hR =>
      refine ⟨fun c1_s => ?_, fun c1_s => absurd c1_s (by omega)⟩
      have ko := ok_s n_s (by omega)
      have t3_s := t32_ (x_s := c_s n_s) ko.1 (by have := ko.2; omega)
      have e51 : (f_s 51 n_s).toInt = (((c_s n_s).toInt.toNat : Nat) : Int) := by
        rw [g_s _ _ (by omega) (by omega) (by omega) (by omega) (by omega), es n_s (by omega), t3_s]
        have := ko.1
        omega
      have hc1 : tC nh ni nr f_s := tC_fr (fun a_s k_s w_s => g_s a_s k_s (by unfold inC at w_s; omega) (by unfold inC at w_s; omega) (by unfold inC at w_s; omega) (by unfold inC at w_s; omega) (by unfold inC at w_s; omega)) hc_s
      have l1 : lawC q_s f_s lw := lawC_fr hm_s (fun a_s k_s w_s => g_s a_s k_s (by omega) (by omega) (by omega) (by omega) (by omega)) hl
      have eg : goF lw f_s o (c_s n_s).toInt.toNat = goJ lw f0_s c_s o n_s := goF_fr (fun k_s => g_s 103 k_s (by omega) (by omega) (by omega) (by omega) (by omega))
      refine sp_50 (k_s := n_s) (r_s := (c_s n_s).toInt.toNat) hk hr9 hm_s l1 hp hc1 e3_s e51 (by have := ko.1; have := ko.2; omega) hcw hB_s (fun v_s f1_s g1 g2 g3_s g4 g5_s _ => ?_)
      rw [eg] at g1 g2 g3_s g4
      obtain ⟨gv, gv1, gv2⟩ := g2
      rw [gI_of gv1, em] at gv2
      have hB2 : oB (goJ lw f0_s c_s o n_s).2.2 := go_B hB_s
      have g6 : frJ f0_s f1_s := fun a_s k_s q1_s q2_s q3_s q4_s q5_s => by
        rw [g5_s a_s k_s q1_s q2_s q3_s (by omega) q5_s]
        exact g_s a_s k_s q1_s q2_s q3_s q4_s q5_s
      refine ⟨fun c4_s => ?_, fun c4_s => ?_⟩
      · have no_s : ¬ (goJ lw f0_s c_s o n_s).2.1 = true := fun w_s => by
          rw [if_pos w_s] at g1
          omega
        rw [jr_no no_s] at hR
        refine t_s 0 f1_s ?_ ?_ ?_ ?_ g6
        · rw [← hR]
          rfl
        · rw [← hR]
          exact gv2
        · rw [← hR, g3_s]
          unfold bI_
          rw [if_neg no_s, iadd0]
          exact ee
        · rw [← hR]
          exact g4.1
      · have yes_s : (goJ lw f0_s c_s o n_s).2.1 = true := by
          cases e_s : (goJ lw f0_s c_s o n_s).2.1 with
          | true => rfl
          | false =>
            rw [if_neg (by rw [e_s]; decide)] at g1
            omega
        rw [jr_yes yes_s] at hR
        have e5_s : (x3 + 1).toInt = ((n_s + 1 : Nat) : Int) := by
          rw [in1_ (by omega), e3_s]
          omega
        refine ag49 hk hr9 hm_s hl hp hc_s hL eL es ok_s t_s F_s (n_s + 1) d_s (x3 + 1) _ f1_s _ g6 g4 hB2 e5_s (by omega) gv2 ?_ hR
        rw [g3_s]
        unfold bI_
        rw [if_pos yes_s, in1_ (by omega), ee]
        omega
theorem sp_49 {F_s : Nat} {o : oI} (hk : hKn h_s) (hr9 : h_s.2.2.2 7 9 = some q_s) (hm_s : q_s = 14 ∨ q_s = 17) (hl : lawC q_s f0_s lw) (hp : lwP lw) (hc_s : tC nh ni nr f0_s) (hL : L_s ≤ 20) (eL : (f0_s 50 1).toInt = (L_s : Int)) (es : ∀ k_s, k_s < L_s → f0_s 51 k_s = (c_s k_s).toInt32) (ok_s : ∀ k_s, k_s < L_s → okK nr (c_s k_s)) (hcw : cwO f0_s 88 o) (hB_s : oB o) (t_s : ∀ v_s f1_s, v_s.toInt = (if (jrn (goJ lw f0_s c_s) L_s 0 0 o).2.2.2 = true then 1 else 0) → f1_s 50 2 = (jrn (goJ lw f0_s c_s) L_s 0 0 o).1 → (f1_s 50 3).toInt = ((jrn (goJ lw f0_s c_s) L_s 0 0 o).2.1 : Int) → (∀ k_s, k_s < 6 → f1_s 88 k_s = (jrn (goJ lw f0_s c_s) L_s 0 0 o).2.2.1 k_s) → frJ f0_s f1_s → K_s v_s (h_s.1, f1_s, h_s.2.2.1, h_s.2.2.2)) : wF F_s 49 (0, [some (.ref 50), some (.ref 88), some (.ref 7), none], [], (h_s.1, f0_s, h_s.2.2.1, h_s.2.2.2)) (gI K_s) := by
  refine wF_le (Nat.le_succ F_s) (sg_49_0 (h_s := (h_s.1, f0_s, h_s.2.2.1, h_s.2.2.2)) hk ?_)
  have cw_s : cwO (zup (zup f0_s 50 2 0) 50 3 0) 88 o := by
    refine ⟨fun k_s hk6 => by rw [zne_up (by omega), zne_up (by omega)]; exact hcw.1 k_s hk6, ?_⟩
    have e6_s : zup (zup f0_s 50 2 0) 50 3 0 88 6 = f0_s 88 6 := by rw [zne_up (by omega), zne_up (by omega)]
    have e76 : zup (zup f0_s 50 2 0) 50 3 0 7 6 = f0_s 7 6 := by rw [zne_up (by omega), zne_up (by omega)]
    have e8 : ∀ k_s, zup (zup f0_s 50 2 0) 50 3 0 8 k_s = f0_s 8 k_s := fun k_s => by rw [zne_up (by omega), zne_up (by omega)]
    rw [e6_s, e76, e8]
    exact hcw.2
  refine ag49 (f0_s := f0_s) hk hr9 hm_s hl hp hc_s hL eL es ok_s t_s F_s 0 L_s 0 0 _ o (fun a_s k_s q1_s q2_s q3_s q4_s q5_s => ?_) cw_s hB_s rfl (by omega) ?_ ?_ rfl
  · show zup (zup f0_s 50 2 0) 50 3 0 a_s k_s = f0_s a_s k_s
    rw [zne_up (by omega), zne_up (by omega)]
  · show zup (zup f0_s 50 2 0) 50 3 0 50 2 = 0
    rw [zne_up (by omega), zsame_up]
  · show (zup (zup f0_s 50 2 0) 50 3 0 50 3).toInt = 0
    rw [zsame_up]
    rfl
def frK (f0_s f_s : Nat → Nat → Int32) : Prop := ∀ a_s k_s, ¬ a_s = 111 → ¬ a_s = 112 → ¬ (a_s = 102 ∧ (15 ≤ k_s ∧ k_s ≤ 19 ∨ 22 ≤ k_s ∧ k_s ≤ 25)) → f_s a_s k_s = f0_s a_s k_s
def S12 (h_s : zH) (V : zH → Prop) (f0_s : Nat → Nat → Int32) (lw : Option (List pB)) (c_s : Nat → Int64) (L_s : Nat) (x1_s : Int32) (R_s : Int32 × Nat × oI × Bool) (F_s : Nat) : Prop := ∀ (x2_s : Int32) (n_s d_s : Nat) (f_s : Nat → Nat → Int32) (o : oI), frK f0_s f_s → (∀ k_s, k_s < 7 → f_s 112 k_s = o k_s) → oB o → n_s + d_s = L_s → (f_s 102 25).toInt = (n_s : Int) → (x2_s.toInt = 0 → (f_s 102 24, n_s, o, false) = R_s) → (¬ x2_s.toInt = 0 → jrn (goJ lw f0_s c_s) d_s n_s (f_s 102 24) o = R_s) → wF F_s 188 (12, [some (.ref 102), some (.int x1_s), some (.int x2_s)], [], (h_s.1, f_s, h_s.2.2.1, h_s.2.2.2)) (gV V)
def S65 (h_s : zH) (V : zH → Prop) (f0_s : Nat → Nat → Int32) (lw : Option (List pB)) (c_s : Nat → Int64) (L_s : Nat) (x1_s : Int32) (R_s : Int32 × Nat × oI × Bool) (F_s : Nat) : Prop := ∀ (x2_s : Int32) (n_s d_s : Nat) (f_s : Nat → Nat → Int32) (o : oI), frK f0_s f_s → (∀ k_s, k_s < 7 → f_s 112 k_s = o k_s) → oB o → n_s + d_s + 1 = L_s → (f_s 102 25).toInt = (n_s : Int) → (f_s 102 23).toInt = x2_s.toInt → (x2_s.toInt = 0 → (f_s 102 24, n_s, o, false) = R_s) → (¬ x2_s.toInt = 0 → jrn (goJ lw f0_s c_s) d_s (n_s + 1) (f_s 102 24) o = R_s) → wF F_s 188 (65, [some (.ref 102), some (.int x1_s), some (.int x2_s)], [], (h_s.1, f_s, h_s.2.2.1, h_s.2.2.2)) (gV V)
theorem s65_s {F_s : Nat} (hk : hKn h_s) (hL : L_s ≤ 20) (i1_s : S12 h_s V f0_s lw c_s L_s x1_s R_s F_s) : S65 h_s V f0_s lw c_s L_s x1_s R_s (F_s + 1) := by
  intro x2_s n_s d_s f_s o g_s ho hB_s ed e25_s e23_s h0 h1
  refine sg_188_65 (h_s := (h_s.1, f_s, h_s.2.2.1, h_s.2.2.2)) hk ?_
  dsimp only
  rw [e23_s]
  have fr_s : ∀ v_s, frK f0_s (zup f_s 102 25 v_s) := fun v_s a_s k_s q1_s q2_s q3_s => by
    rw [zne_up (by omega)]
    exact g_s a_s k_s q1_s q2_s q3_s
  have e24_s : ∀ v_s, zup f_s 102 25 v_s 102 24 = f_s 102 24 := fun v_s => zne_up (by omega)
  have o2 : ∀ v_s k_s, k_s < 7 → zup f_s 102 25 v_s 112 k_s = o k_s := fun v_s k_s hk7 => by
    rw [zne_up (by omega)]
    exact ho k_s hk7
  refine ⟨fun c1_s => ?_, fun c1_s => ?_⟩
  · rw [iadd0]
    exact i1_s x2_s n_s (d_s + 1) _ o (fr_s _) (o2 _) hB_s (by omega) (by rw [zsame_up]; exact e25_s) (fun w_s => by rw [e24_s]; exact h0 w_s) (fun w_s => absurd c1_s w_s)
  · refine i1_s x2_s (n_s + 1) d_s _ o (fr_s _) (o2 _) hB_s (by omega) ?_ (fun w_s => absurd w_s c1_s) (fun w_s => by rw [e24_s]; exact h1 w_s)
    rw [zsame_up, in1_ (by omega), e25_s]
    omega
theorem s12_s {F_s s_s : Nat} (hk : hKn h_s) (hc_s : tM nh ni nr f0_s) (hl : lawR f0_s lw) (hp : lwP lw) (d1_s : x1_s.toInt = (s_s : Int)) (hs : s_s < 6) (n0_s : 0 ≤ (f0_s 125 s_s).toInt) (ec : ∀ k_s, c_s k_s = h_s.2.2.1 126 (60 * s_s + k_s)) (hJ : isJ nr c_s (f0_s 125 s_s).toInt L_s) (t_s : ∀ f1_s, f1_s 102 24 = R_s.1 → (f1_s 102 25).toInt = (R_s.2.1 : Int) → (∀ k_s, k_s < 7 → f1_s 112 k_s = R_s.2.2.1 k_s) → frK f0_s f1_s → V (h_s.1, f1_s, h_s.2.2.1, h_s.2.2.2)) (i6_s : S65 h_s V f0_s lw c_s L_s x1_s R_s F_s) : S12 h_s V f0_s lw c_s L_s x1_s R_s (F_s + 1) := by
  intro x2_s n_s d_s f_s o g_s ho hB_s ed e25_s h0 h1
  have b_s := hc_s.1
  have hL := hJ.1
  have z1 := azix (i := x1_s) (by omega)
  have ez1 : zix x1_s = s_s := by omega
  have f125 : ∀ k_s, f_s 125 k_s = f0_s 125 k_s := fun k_s => g_s _ _ (by omega) (by omega) (by omega)
  have c8_s : (f_s 102 8).toInt = (nr : Int) := by
    rw [g_s 102 8 (by omega) (by omega) (by omega)]
    exact hc_s.2.1.2.2
  refine sg_188_12 (h_s := (h_s.1, f_s, h_s.2.2.1, h_s.2.2.2)) hk ⟨fun c1_s => ?_, fun c1_s => ?_⟩
  · have u_s := h0 c1_s
    exact t_s f_s (by rw [← u_s]) (by rw [← u_s]; exact e25_s) (by rw [← u_s]; exact ho) g_s
  · have u_s := h1 c1_s
    refine sp_187 (h_s := (h_s.1, f_s, h_s.2.2.1, h_s.2.2.2)) (nr := nr) hk c8_s (by omega) (by omega) (by show 0 ≤ (f_s 125 (zix x1_s)).toInt; rw [ez1, f125]; exact n0_s) (fun v_s L1 ev_s hj hk5 => ?_)
    have hj : isJ nr (fun k_s => h_s.2.2.1 126 (60 * zix x1_s + k_s)) (f_s 125 (zix x1_s)).toInt L1 := hj
    rw [ez1, f125] at hj
    have el : L1 = L_s := isJ_u hj (isJ_c (fun k_s _ => (ec k_s).symm) hJ)
    subst el
    dsimp only
    rw [e25_s, ev_s]
    match d_s, ed, u_s with
    | 0, ed, u_s =>
      refine ⟨fun c2_s => absurd c2_s (by omega), fun _ => t_s f_s (by rw [← u_s]; rfl) (by rw [← u_s]; exact e25_s) (by rw [← u_s]; exact ho) g_s⟩
    | d_s + 1, ed, u_s =>
      refine ⟨fun c2_s => fun c3_s => ?_, fun c2_s => absurd c2_s (by omega)⟩
      have z4 := azix (i := f_s 102 25) (by omega)
      have ez4 : zix (f_s 102 25) = n_s := by omega
      have zz := zx60 (d_s := x1_s) (i_s := f_s 102 25) (by omega) (by omega) (by omega) (by omega)
      rw [ez1, ez4] at zz
      rw [zz, ← ec n_s]
      have ko := hJ.2.2.1 n_s (by omega)
      have t3_s := t32_ (x_s := c_s n_s) ko.1 (by have := ko.2; omega)
      have er : (c_s n_s).toInt = (((c_s n_s).toInt.toNat : Nat) : Int) := by
        have := ko.1
        omega
      have hr1 : (c_s n_s).toInt.toNat < nr := by
        have := ko.2
        omega
      have m0_s : tM nh ni nr f_s := tM_fr (fun k_s _ _ => g_s _ _ (by omega) (by omega) (by omega)) (fun k_s _ => g_s _ _ (by omega) (by omega) (by omega)) hc_s
      obtain ⟨m1_s, m2_s, m3_s⟩ := tM_ml m0_s hr1
      have l1 : lawR f_s lw := lawR_fr (g_s _ _ (by omega) (by omega) (by omega)) (fun k_s _ => g_s _ _ (by omega) (by omega) (by omega)) hl
      have eg : goF lw f_s o (c_s n_s).toInt.toNat = goJ lw f0_s c_s o n_s := goF_fr (fun k_s => g_s 103 k_s (by omega) (by omega) (by omega))
      refine sp_183 (h_s := (h_s.1, f_s, h_s.2.2.1, h_s.2.2.2)) (o := o) (r_s := (c_s n_s).toInt.toNat) (m_s := zix (f_s 103 (68 + (c_s n_s).toInt.toNat))) hk l1 hp (by rw [t3_s]; exact er) (by omega) m1_s m2_s ho hB_s (fun f1_s p1_s p2_s p3_s p4_s hk2 => ?_)
      have p1_s : (f1_s 102 22).toInt = ((goF lw f_s o (c_s n_s).toInt.toNat).1 : Int) := p1_s
      have p2_s : (f1_s 102 23).toInt = (if (goF lw f_s o (c_s n_s).toInt.toNat).2.1 = true then 1 else 0) := p2_s
      have p3_s : ∀ k_s, k_s < 7 → f1_s 112 k_s = (goF lw f_s o (c_s n_s).toInt.toNat).2.2 k_s := p3_s
      rw [eg] at p1_s p2_s p3_s
      have q24 : f1_s 102 24 = f_s 102 24 := p4_s _ _ (by omega) (by omega) (by omega)
      have q25 : f1_s 102 25 = f_s 102 25 := p4_s _ _ (by omega) (by omega) (by omega)
      dsimp only
      rw [q24, gI_of p1_s]
      refine i6_s (f1_s 102 23) n_s d_s _ (goJ lw f0_s c_s o n_s).2.2 (fun a_s k_s q1_s q2_s q3_s => ?_) (fun k_s hk7 => ?_) (go_B hB_s) (by omega) (by rw [zne_up (by omega), q25]; exact e25_s) (by rw [zne_up (by omega)]) (fun w_s => ?_) (fun w_s => ?_)
      · rw [zne_up (by omega), p4_s a_s k_s q1_s q2_s (by omega)]
        exact g_s a_s k_s q1_s q2_s q3_s
      · rw [zne_up (by omega)]
        exact p3_s k_s hk7
      · have no_s : ¬ (goJ lw f0_s c_s o n_s).2.1 = true := fun y_s => by
          rw [if_pos y_s] at p2_s
          omega
        rw [jr_no no_s] at u_s
        rw [zsame_up]
        exact u_s
      · have yes_s : (goJ lw f0_s c_s o n_s).2.1 = true := by
          cases e_s : (goJ lw f0_s c_s o n_s).2.1 with
          | true => rfl
          | false =>
            rw [if_neg (by rw [e_s]; decide)] at p2_s
            exact absurd p2_s w_s
        rw [jr_yes yes_s] at u_s
        rw [zsame_up]
        exact u_s
theorem s_all {s_s : Nat} (hk : hKn h_s) (hc_s : tM nh ni nr f0_s) (hl : lawR f0_s lw) (hp : lwP lw) (d1_s : x1_s.toInt = (s_s : Int)) (hs : s_s < 6) (n0_s : 0 ≤ (f0_s 125 s_s).toInt) (ec : ∀ k_s, c_s k_s = h_s.2.2.1 126 (60 * s_s + k_s)) (hJ : isJ nr c_s (f0_s 125 s_s).toInt L_s) (t_s : ∀ f1_s, f1_s 102 24 = R_s.1 → (f1_s 102 25).toInt = (R_s.2.1 : Int) → (∀ k_s, k_s < 7 → f1_s 112 k_s = R_s.2.2.1 k_s) → frK f0_s f1_s → V (h_s.1, f1_s, h_s.2.2.1, h_s.2.2.2)) : ∀ F_s, S12 h_s V f0_s lw c_s L_s x1_s R_s F_s ∧ S65 h_s V f0_s lw c_s L_s x1_s R_s F_s
  | 0 => ⟨fun _ _ _ _ _ _ _ _ _ _ _ _ => wF_zero, fun _ _ _ _ _ _ _ _ _ _ _ _ _ => wF_zero⟩
  | F_s + 1 => by
    obtain ⟨i1_s, i6_s⟩ := s_all hk hc_s hl hp d1_s hs n0_s ec hJ t_s F_s
    exact ⟨s12_s hk hc_s hl hp d1_s hs n0_s ec hJ t_s i6_s, s65_s hk hJ.1 i1_s⟩
theorem sp_188 {F_s s_s : Nat} {o : oI} (hk : hKn h_s) (hc_s : tM nh ni nr f0_s) (hl : lawR f0_s lw) (hp : lwP lw) (d1_s : x1_s.toInt = (s_s : Int)) (hs : s_s < 6) (n0_s : 0 ≤ (f0_s 125 s_s).toInt) (ec : ∀ k_s, c_s k_s = h_s.2.2.1 126 (60 * s_s + k_s)) (hJ : isJ nr c_s (f0_s 125 s_s).toInt L_s) (ho : ∀ k_s, k_s < 7 → f0_s 112 k_s = o k_s) (hB_s : oB o) (t_s : ∀ f1_s, f1_s 102 24 = (jrn (goJ lw f0_s c_s) L_s 0 0 o).1 → (f1_s 102 25).toInt = ((jrn (goJ lw f0_s c_s) L_s 0 0 o).2.1 : Int) → (∀ k_s, k_s < 7 → f1_s 112 k_s = (jrn (goJ lw f0_s c_s) L_s 0 0 o).2.2.1 k_s) → frK f0_s f1_s → V (h_s.1, f1_s, h_s.2.2.1, h_s.2.2.2)) : wF F_s 188 (0, [some (.ref 102), some (.int x1_s), none], [], (h_s.1, f0_s, h_s.2.2.1, h_s.2.2.2)) (gV V) := by
  refine wF_le (Nat.le_succ F_s) (sg_188_0 (h_s := (h_s.1, f0_s, h_s.2.2.1, h_s.2.2.2)) hk ?_)
  refine (s_all hk hc_s hl hp d1_s hs n0_s ec hJ t_s F_s).1 1 0 L_s _ o (fun a_s k_s q1_s q2_s q3_s => ?_) (fun k_s hk7 => ?_) hB_s (by omega) ?_ (fun w_s => absurd w_s (by decide)) (fun _ => ?_)
  · show zup (zup f0_s 102 24 0) 102 25 0 a_s k_s = f0_s a_s k_s
    rw [zne_up (by omega), zne_up (by omega)]
  · show zup (zup f0_s 102 24 0) 102 25 0 112 k_s = o k_s
    rw [zne_up (by omega), zne_up (by omega)]
    exact ho k_s hk7
  · show (zup (zup f0_s 102 24 0) 102 25 0 102 25).toInt = 0
    rw [zsame_up]
    rfl
  · show jrn (goJ lw f0_s c_s) L_s 0 (zup (zup f0_s 102 24 0) 102 25 0 102 24) o = _
    rw [zne_up (by omega), zsame_up]
end JG_s
/-! JOURNEY: class and reference. -/
def okA (ni : Nat) (x1_s x2_s x3 : Int32) : Prop := (0 ≤ x1_s.toInt ∧ x1_s.toInt ≤ 5) ∧ (0 ≤ x2_s.toInt ∧ x2_s.toInt < (ni : Int)) ∧ 0 ≤ x3.toInt ∧ x3.toInt ≤ 4
def jA (w_s : Int) (R_s : Int32 × Nat × oI × Bool) : Int32 := if w_s = 0 then R_s.1 else if w_s = 1 then gI32 R_s.2.1 else if w_s = 2 then R_s.2.2.1 2 else if w_s = 3 then R_s.2.2.1 3 else if R_s.2.2.2 = true then -2 else gI32 R_s.2.1
section JJ
variable {h_s : zH} {P_s : Int32 → Prop} {nh ni nr q_s L_s : Nat} {lw : Option (List pB)} {x1_s x2_s x3 : Int32} {f0_s : Nat → Nat → Int32}
theorem sp_189 {F_s : Nat} (hk : hKn h_s) (hc_s : tM nh ni nr f0_s) (hl : lawR f0_s lw) (hp : lwP lw) (n0_s : okA ni x1_s x2_s x3 → rfB f0_s (zix x1_s) = 0 → 0 ≤ (f0_s 125 (zix x1_s)).toInt) (hJ : okA ni x1_s x2_s x3 → rfB f0_s (zix x1_s) = 0 → isJ nr (fun k_s => h_s.2.2.1 126 (60 * zix x1_s + k_s)) (f0_s 125 (zix x1_s)).toInt L_s) (t1_s : ¬ okA ni x1_s x2_s x3 → P_s (-1)) (t2_s : okA ni x1_s x2_s x3 → ¬ rfB f0_s (zix x1_s) = 0 → ∀ v_s : Int32, v_s.toInt = rfB f0_s (zix x1_s) → P_s v_s) (t3_s : okA ni x1_s x2_s x3 → rfB f0_s (zix x1_s) = 0 → P_s (jA x3.toInt (jrn (goJ lw f0_s (fun k_s => h_s.2.2.1 126 (60 * zix x1_s + k_s))) L_s 0 0 (owI f0_s x2_s.toInt.toNat)))) : wF F_s 189 (0, [some (.ref 102), some (.int x1_s), some (.int x2_s), some (.int x3)], [], (h_s.1, f0_s, h_s.2.2.1, h_s.2.2.2)) (gI (fun v_s _ => P_s v_s)) := by
  have b_s := hc_s.1
  have e27_s := sb1 hc_s.2.1.2.1
  have b11 : (-11 : Int32).toInt = -11 := rfl
  have b12 : (-12 : Int32).toInt = -12 := rfl
  have no_s : ¬ okA ni x1_s x2_s x3 → P_s (-1) := t1_s
  unfold okA at no_s
  have ya : (0 ≤ x1_s.toInt ∧ x1_s.toInt ≤ 5) ∧ (0 ≤ x2_s.toInt ∧ x2_s.toInt < (ni : Int)) ∧ 0 ≤ x3.toInt ∧ x3.toInt ≤ 4 → okA ni x1_s x2_s x3 := fun u_s => u_s
  refine wF_le (Nat.le_succ F_s) (sg_189_0 (h_s := (h_s.1, f0_s, h_s.2.2.1, h_s.2.2.2)) hk ?_)
  dsimp only
  rw [e27_s]
  refine ⟨fun c1_s => no_s (by omega), fun c1_s => ⟨fun c2_s => no_s (by omega), fun c2_s => fun c3_s => ⟨fun c4_s => ⟨fun c5_s => no_s (by omega), fun c5_s => ⟨fun c6_s => no_s (by omega), fun c6_s => ⟨fun c7_s => no_s (by omega), fun c7_s => ⟨fun c8_s => no_s (by omega), fun c8_s => ?_⟩⟩⟩⟩, fun c4_s => ⟨fun c18_s => ⟨fun c19_s => no_s (by omega), fun c19_s => ⟨fun c20_s => no_s (by omega), fun c20_s => ⟨fun c21 => no_s (by omega), fun c21 => ⟨fun c22 => no_s (by omega), fun c22 => ?_⟩⟩⟩⟩, fun c18_s => ⟨fun c39_s => no_s (by omega), fun c39_s => ⟨fun c40_s => no_s (by omega), fun c40_s => ⟨fun c41 => no_s (by omega), fun c41 => ⟨fun c42 => no_s (by omega), fun c42 => ?_⟩⟩⟩⟩⟩⟩⟩⟩
  · have e_s : rfB f0_s (zix x1_s) = -11 := if_pos c4_s
    exact t2_s (ya ⟨by omega, by omega, by omega⟩) (by omega) _ (by omega)
  · have e_s : rfB f0_s (zix x1_s) = 0 := (if_neg c4_s).trans (if_pos c18_s)
    have oA := ya ⟨by omega, by omega, by omega⟩
    have t4_s := t3_s oA e_s
    have hJ1 := hJ oA e_s
    have n0_s := n0_s oA e_s
    have z1 := azix (i := x1_s) (by omega)
    have ei : x2_s.toInt = (x2_s.toInt.toNat : Int) := by omega
    have hi_s : x2_s.toInt.toNat < ni := by omega
    generalize x2_s.toInt.toNat = i_s at ei hi_s t4_s
    refine sp_178 hk ei (by omega) (tM_hd hc_s hi_s).1 (fun f1_s g1 g2 hk1 => ?_)
    have m1_s : tM nh ni nr f1_s := tM_fr (fun k_s _ _ => g2 _ _ (by omega)) (fun k_s _ => g2 _ _ (by omega)) hc_s
    have lr1 : lawR f1_s lw := lawR_fr (g2 _ _ (by omega)) (fun k_s _ => g2 _ _ (by omega)) hl
    refine sp_188 (h_s := (h_s.1, f1_s, h_s.2.2.1, h_s.2.2.2)) (f0_s := f1_s) (s_s := zix x1_s) (L_s := L_s) (c_s := fun k_s => h_s.2.2.1 126 (60 * zix x1_s + k_s)) hk1 m1_s lr1 hp z1.symm c3_s (by rw [g2 125 _ (by omega)]; exact n0_s) (fun _ => rfl) (by rw [g2 125 _ (by omega)]; exact hJ1) g1 (tM_oB hc_s hi_s) (fun f2_s p1_s p2_s p3_s g3_s hk2 => ?_)
    rw [goJ_fr (f_s := f0_s) (fun k_s => g2 103 k_s (by omega))] at p1_s p2_s p3_s
    have jall := jr_all (go_s := goJ lw f0_s (fun k_s => h_s.2.2.1 126 (60 * zix x1_s + k_s))) L_s 0 0 (owI f0_s i_s)
    generalize jrn (goJ lw f0_s (fun k_s => h_s.2.2.1 126 (60 * zix x1_s + k_s))) L_s 0 0 (owI f0_s i_s) = R_s at p1_s p2_s p3_s t4_s jall
    unfold jA at t4_s
    dsimp only
    refine ⟨fun w_s => ?_, fun w0_s => ⟨fun w_s => ?_, fun w1_s => ⟨fun w_s => ?_, fun w2_s => ⟨fun w_s => ?_, fun w3_s => ?_⟩⟩⟩⟩
    · rw [if_pos w_s] at t4_s
      rw [p1_s]
      exact t4_s
    · rw [if_neg w0_s, if_pos w_s] at t4_s
      rw [gI_of p2_s]
      exact t4_s
    · rw [if_neg w0_s, if_neg w1_s, if_pos w_s] at t4_s
      rw [p3_s 2 (by omega)]
      exact t4_s
    · rw [if_neg w0_s, if_neg w1_s, if_neg w2_s, if_pos w_s] at t4_s
      rw [p3_s 3 (by omega)]
      exact t4_s
    · rw [if_neg w0_s, if_neg w1_s, if_neg w2_s, if_neg w3_s] at t4_s
      have c8_s : (f2_s 102 8).toInt = (nr : Int) := by
        rw [g3_s 102 8 (by omega) (by omega) (by omega), g2 102 8 (by omega)]
        exact hc_s.2.1.2.2
      have e125_s : ∀ k_s, f2_s 125 k_s = f0_s 125 k_s := fun k_s => by
        rw [g3_s _ _ (by omega) (by omega) (by omega), g2 _ _ (by omega)]
      refine sp_187 (h_s := (h_s.1, f2_s, h_s.2.2.1, h_s.2.2.2)) (nr := nr) hk2 c8_s (by omega) (by omega) (by show 0 ≤ (f2_s 125 (zix x1_s)).toInt; rw [e125_s]; exact n0_s) (fun v_s L1 ev_s hj hk5 => ?_)
      have hj : isJ nr (fun k_s => h_s.2.2.1 126 (60 * zix x1_s + k_s)) (f2_s 125 (zix x1_s)).toInt L1 := hj
      rw [e125_s] at hj
      have el : L1 = L_s := isJ_u hj hJ1
      subst el
      dsimp only
      rw [p2_s, ev_s]
      refine ⟨fun c_s => ?_, fun c_s => ?_⟩
      · rw [if_neg (fun u_s => by have := jall.1 u_s; omega)] at t4_s
        rw [gI_of p2_s]
        exact t4_s
      · have yes_s : R_s.2.2.2 = true := by
          cases e_s : R_s.2.2.2 with
          | true => rfl
          | false =>
            have := jall.2 (by rw [e_s]; decide)
            omega
        rw [if_pos yes_s] at t4_s
        exact t4_s
  · have e_s : rfB f0_s (zix x1_s) = -12 := (if_neg c4_s).trans (if_neg c18_s)
    exact t2_s (ya ⟨by omega, by omega, by omega⟩) (by omega) _ (by omega)
theorem pr_journey {F_s : Nat} (hk : hKn h_s) (hs : tS h_s) (hx : tX h_s) : wF F_s 103 (0, [some (.ref 6), some (.int x1_s), some (.int x2_s), some (.int x3), none, none, none], [], h_s) (gI (fun v_s h1 => wF F_s 189 (0, [some (.ref 102), some (.int x1_s), some (.int x2_s), some (.int x3)], [], h1) (gI (fun v2 _ => v_s = v2)))) := by
  obtain ⟨nh, ni, nr, hc_s, _, _, _, _, hl⟩ := hx
  obtain ⟨q_s, q2_s, lw, l1, l2, l3, l4, l5⟩ := hl
  have hm_s : q_s = 14 ∨ q_s = 17 := by omega
  have m0_s := tC_M hc_s
  have b_s := hc_s.1
  have e77 := hc_s.2.1.2.1
  have e78 := hc_s.2.1.2.2
  have rf1 : ¬ okA ni x1_s x2_s x3 → wF F_s 189 (0, [some (.ref 102), some (.int x1_s), some (.int x2_s), some (.int x3)], [], h_s) (gI (fun v2 _ => (-1 : Int32) = v2)) := fun w_s => sp_189 (f0_s := h_s.2.1) (L_s := 0) (P_s := fun v2 => (-1 : Int32) = v2) hk m0_s l5 (lawR_P l5) (fun o => absurd o w_s) (fun o => absurd o w_s) (fun _ => rfl) (fun o => absurd o w_s) (fun o => absurd o w_s)
  have no_s : ¬ okA ni x1_s x2_s x3 → wF F_s 189 (0, [some (.ref 102), some (.int x1_s), some (.int x2_s), some (.int x3)], [], h_s) (gI (fun v2 _ => (-1 : Int32) = v2)) := rf1
  unfold okA at no_s
  refine wF_le (Nat.le_succ F_s) (sg_103_0 (h_s := h_s) hk ?_)
  rw [e77]
  refine ⟨fun c1_s => no_s (by omega), fun c1_s => ⟨fun c2_s => ⟨fun c3_s => no_s (by omega), fun c3_s => ⟨fun c4_s => ⟨fun c5_s => no_s (by omega), fun c5_s => ⟨fun c6_s => no_s (by omega), fun c6_s => fun c7_s => ?_⟩⟩, fun c4_s => no_s (by omega)⟩⟩, fun c2_s => no_s (by omega)⟩⟩
  have oA : okA ni x1_s x2_s x3 := by
    unfold okA
    omega
  have z1 := azix (i := x1_s) (by omega)
  have ts1 := (hs.1 (zix x1_s) c7_s).1
  have g1 := (hs.1 (zix x1_s) c7_s).2
  refine sp_140 hk c7_s ts1 (fun v8 e8 _ => ⟨fun c8_s => ?_, fun c8_s => ?_⟩)
  · have r0 : rfB h_s.2.1 (zix x1_s) = 0 := by omega
    obtain ⟨a1_s, a2, a3⟩ := row_of ts1 r0
    generalize hs1 : zix x1_s = s1_s at *
    refine sp_48 (f0_s := h_s.2.1) (nr := nr) hk c7_s e78 a2 (fun L_s f1_s hJ eL es fr1 hk1 => ?_)
    have hi_s : x2_s.toInt.toNat < ni := by omega
    have ei : x2_s.toInt = (x2_s.toInt.toNat : Int) := by omega
    have i8_s : x2_s.toInt.toNat < 8 := by omega
    refine sp_139 (h_s := (h_s.1, f1_s, h_s.2.2.1, h_s.2.2.2)) (f0_s := f1_s) hk1 ei i8_s (fun f2_s t1_s t2_s hk2 => ?_)
    have fr2 : ∀ a_s k_s, ¬ (a_s = 50 ∧ k_s = 1) → ¬ a_s = 51 → ¬ (a_s = 88 ∧ k_s < 7) → f2_s a_s k_s = h_s.2.1 a_s k_s := fun a_s k_s q1_s q2_s q3_s => by
      rw [t2_s a_s k_s q3_s]
      exact fr1 a_s k_s q1_s q2_s
    have hJ2 : isJ nr (fun k_s => h_s.2.2.1 126 (60 * s1_s + k_s)) (h_s.2.1 125 s1_s).toInt L_s := by
      rw [a1_s]
      exact isJ_c (fun k_s hk60 => (g1 k_s hk60).symm) hJ
    have hc2 : tC nh ni nr f2_s := tC_fr (fun a_s k_s w_s => fr2 a_s k_s (by unfold inC at w_s; omega) (by unfold inC at w_s; omega) (by unfold inC at w_s; omega)) hc_s
    have lc2 : lawC q_s f2_s lw := lawC_fr hm_s (fun a_s k_s w_s => fr2 a_s k_s (by omega) (by omega) (by omega)) l4
    have cw2 : cwO f2_s 88 (owI h_s.2.1 x2_s.toInt.toNat) := th_cw hc_s hi_s (fun k_s hk7 => by rw [t1_s k_s hk7]; exact fr1 _ _ (by omega) (by omega)) (fr2 _ _ (by omega) (by omega) (by omega)) (fun k_s => fr2 _ _ (by omega) (by omega) (by omega))
    refine sp_49 (h_s := (h_s.1, f2_s, h_s.2.2.1, h_s.2.2.2)) (f0_s := f2_s) (L_s := L_s) (c_s := fun k_s => h_s.2.2.1 126 (60 * s1_s + k_s)) (o := owI h_s.2.1 x2_s.toInt.toNat) hk2 l1 hm_s lc2 (lawR_P l5) hc2 hJ.1 (by rw [t2_s 50 1 (by omega)]; exact eL) (fun k_s hkL => ?_) hJ2.2.2.1 cw2 (tC_oB hc_s hi_s) (fun v_s f3_s ev_s p1_s p2_s p3_s fr3 _ => ?_)
    · rw [t2_s 51 k_s (by omega), es k_s hkL]
      have := hJ.1
      rw [g1 k_s (by omega)]
    · have fr4 : ∀ a_s k_s, 100 ≤ a_s → f3_s a_s k_s = h_s.2.1 a_s k_s := fun a_s k_s ha_s => by
        rw [fr3 a_s k_s (by omega) (by omega) (by omega) (by omega) (by omega)]
        exact fr2 a_s k_s (by omega) (by omega) (by omega)
      have m3_s : tM nh ni nr f3_s := tM_fr (fun k_s _ _ => fr4 _ _ (by omega)) (fun k_s _ => fr4 _ _ (by omega)) m0_s
      have lr3 : lawR f3_s lw := lawR_fr (fr4 _ _ (by omega)) (fun k_s _ => fr4 _ _ (by omega)) l5
      have rfe : rfB f3_s s1_s = rfB h_s.2.1 s1_s := by
        unfold rfB
        rw [fr4 124 _ (by omega)]
      have e5_s : f3_s 125 s1_s = h_s.2.1 125 s1_s := fr4 125 _ (by omega)
      rw [goJ_fr (f_s := h_s.2.1) (fun k_s => fr2 103 k_s (by omega) (by omega) (by omega))] at ev_s p1_s p2_s p3_s
      have fin_s : ∀ v_s : Int32, v_s = jA x3.toInt (jrn (goJ lw h_s.2.1 (fun k_s => h_s.2.2.1 126 (60 * s1_s + k_s))) L_s 0 0 (owI h_s.2.1 x2_s.toInt.toNat)) → wF F_s 189 (0, [some (.ref 102), some (.int x1_s), some (.int x2_s), some (.int x3)], [], (h_s.1, f3_s, h_s.2.2.1, h_s.2.2.2)) (gI (fun v2 _ => v_s = v2)) := fun v_s ve => by
        refine sp_189 (f0_s := f3_s) (L_s := L_s) (P_s := fun v2 => v_s = v2) hk m3_s lr3 (lawR_P l5) (fun _ _ => ?_) (fun _ _ => ?_) (fun w_s => absurd oA w_s) (fun _ nz => absurd ?_ nz) (fun _ _ => ?_)
        · rw [hs1, e5_s, a1_s]
          exact a2
        · rw [hs1, e5_s]
          exact hJ2
        · rw [hs1, rfe]
          exact r0
        · rw [hs1, goJ_fr (f_s := h_s.2.1) (fun k_s => fr4 103 k_s (by omega)), owI_fr (f_s := h_s.2.1) (fun k_s => fr4 103 k_s (by omega))]
          exact ve
      generalize jrn (goJ lw h_s.2.1 (fun k_s => h_s.2.2.1 126 (60 * s1_s + k_s))) L_s 0 0 (owI h_s.2.1 x2_s.toInt.toNat) = R_s at ev_s p1_s p2_s p3_s fin_s
      dsimp only
      unfold jA at fin_s
      refine ⟨fun w_s => fin_s _ ?_, fun w0_s => ⟨fun w_s => fin_s _ ?_, fun w1_s => ⟨fun w_s => fin_s _ ?_, fun w2_s => ⟨fun w_s => fin_s _ ?_, fun w3_s => ⟨fun c_s => fin_s _ ?_, fun c_s => fin_s _ ?_⟩⟩⟩⟩⟩
      · rw [if_pos w_s]
        exact p1_s
      · rw [if_neg w0_s, if_pos w_s]
        exact gI_of p2_s
      · rw [if_neg w0_s, if_neg w1_s, if_pos w_s]
        exact p3_s 2 (by omega)
      · rw [if_neg w0_s, if_neg w1_s, if_neg w2_s, if_pos w_s]
        exact p3_s 3 (by omega)
      · rw [if_neg w0_s, if_neg w1_s, if_neg w2_s, if_neg w3_s, if_neg (fun u_s => by rw [if_pos u_s] at ev_s; omega)]
        exact gI_of p2_s
      · have yes_s : R_s.2.2.2 = true := by
          cases e_s : R_s.2.2.2 with
          | true => rfl
          | false =>
            rw [if_neg (by rw [e_s]; decide)] at ev_s
            omega
        rw [if_neg w0_s, if_neg w1_s, if_neg w2_s, if_neg w3_s, if_pos yes_s]
  · exact sp_189 (f0_s := h_s.2.1) (L_s := 0) (P_s := fun v2 => v8 = v2) hk m0_s l5 (lawR_P l5) (fun _ e_s => by omega) (fun _ e_s => by omega) (fun w_s => absurd oA w_s) (fun _ _ v_s ev_s => Int32.toInt_inj.mp (e8.trans ev_s.symm)) (fun _ e_s => by omega)
end JJ
