/-! JUDGE: class and reference. -/
def okD (x_s : Int32) : Prop := 0 ≤ x_s.toInt ∧ (0 ≤ (x_s / 10).toInt ∧ (x_s / 10).toInt ≤ 5) ∧ (0 ≤ (x_s - x_s / 10 * 10).toInt ∧ (x_s - x_s / 10 * 10).toInt ≤ 5)
def rfB (f_s : Nat → Nat → Int32) (s_s : Nat) : Int := if (f_s 124 s_s).toInt < 0 then -11 else if (f_s 124 s_s).toInt = 50 then 0 else -12
def rwE (f_s : Nat → Nat → Int32) (x_s : Int32) : Int := if rfB f_s (zix (x_s / 10)) = 0 then rfB f_s (zix (x_s - x_s / 10 * 10)) else rfB f_s (zix (x_s / 10))
theorem rfB_v (f_s : Nat → Nat → Int32) (s_s : Nat) : rfB f_s s_s = -11 ∨ rfB f_s s_s = 0 ∨ rfB f_s s_s = -12 := by
  unfold rfB
  by_cases c_s : (f_s 124 s_s).toInt < 0
  · rw [if_pos c_s]
    exact Or.inl rfl
  · rw [if_neg c_s]
    by_cases e_s : (f_s 124 s_s).toInt = 50
    · rw [if_pos e_s]
      exact Or.inr (Or.inl rfl)
    · rw [if_neg e_s]
      exact Or.inr (Or.inr rfl)
theorem rwE_v (f_s : Nat → Nat → Int32) (x_s : Int32) : rwE f_s x_s = -11 ∨ rwE f_s x_s = 0 ∨ rwE f_s x_s = -12 := by
  unfold rwE
  by_cases e_s : rfB f_s (zix (x_s / 10)) = 0
  · rw [if_pos e_s]
    exact rfB_v f_s _
  · rw [if_neg e_s]
    exact rfB_v f_s _
theorem rwE_fr {f_s f1_s : Nat → Nat → Int32} {x_s : Int32} (e_s : ∀ k_s, f1_s 124 k_s = f_s 124 k_s) : rwE f1_s x_s = rwE f_s x_s := by
  unfold rwE rfB
  rw [e_s, e_s]
theorem row_of {f_s : Nat → Nat → Int32} {s_s : Nat} (hs : tS1 f_s s_s) (hr : rfB f_s s_s = 0) : (f_s 125 s_s).toInt = (f_s (76 + 2 * s_s) 3).toInt ∧ 0 ≤ (f_s (76 + 2 * s_s) 3).toInt ∧ (f_s (76 + 2 * s_s) 3).toInt ≤ 60 := by
  have e_s : (f_s 124 s_s).toInt = 50 := by
    unfold rfB at hr
    by_cases c_s : (f_s 124 s_s).toInt < 0
    · rw [if_pos c_s] at hr
      omega
    · rw [if_neg c_s] at hr
      by_cases e_s : (f_s 124 s_s).toInt = 50
      · exact e_s
      · rw [if_neg e_s] at hr
        omega
  unfold tS1 at hs
  rcases hs with a_s | a_s | a_s
  · omega
  · omega
  · exact ⟨a_s.2.2.2.2.1, a_s.2.2.2.2.2⟩
section JU
variable {h_s : zH} {K_s : Int32 → zH → Prop} {KR_s : Nat → zH → Prop} {nh ni nr q_s : Nat} {lw : Option (List pB)} {x1_s x2_s : Int32} {f0_s : Nat → Nat → Int32}
theorem sp_140 {F_s s_s : Nat} (hk : hKn h_s) (hs : s_s < 6) (h1 : tS1 h_s.2.1 s_s) (t_s : ∀ v_s, v_s.toInt = rfB h_s.2.1 s_s → K_s v_s h_s) : wF F_s 140 (0, [some (.ref (76 + 2 * s_s))], [], h_s) (gI K_s) := by
  refine wF_le (Nat.le_succ F_s) (sg_140_0 (h_s := h_s) hs hk ?_)
  unfold tS1 at h1
  have b11 : (-11 : Int32).toInt = -11 := rfl
  have b12 : (-12 : Int32).toInt = -12 := rfl
  have b0 : (0 : Int32).toInt = 0 := rfl
  refine ⟨fun c1_s => t_s _ ?_, fun c1_s => ⟨fun c2_s => ⟨fun c3_s => t_s _ ?_, fun c3_s => t_s _ ?_⟩, fun c2_s => t_s _ ?_⟩⟩
  · unfold rfB
    rw [if_pos (by omega), b11]
  · unfold rfB
    rw [if_neg (by omega), if_pos (by omega), b0]
  · unfold rfB
    rw [if_neg (by omega), if_neg (by omega), b12]
  · unfold rfB
    rw [if_neg (by omega), if_neg (by omega), b12]
theorem sp_203 {F_s : Nat} (hk : hKn h_s) (t1_s : ¬ okD x1_s → K_s (-1) h_s) (t2_s : okD x1_s → ¬ rwE h_s.2.1 x1_s = 0 → ∀ v_s, v_s.toInt = rwE h_s.2.1 x1_s → K_s v_s h_s) (t3_s : okD x1_s → rwE h_s.2.1 x1_s = 0 → K_s 1 h_s) : wF F_s 203 (0, [some (.ref 102), some (.int x1_s)], [], h_s) (gI K_s) := by
  refine wF_le (Nat.le_succ F_s) (sg_203_0 (h_s := h_s) hk ?_)
  have b11 : (-11 : Int32).toInt = -11 := rfl
  have b12 : (-12 : Int32).toInt = -12 := rfl
  have no_s : ¬ okD x1_s → K_s (-1) h_s := t1_s
  unfold okD at no_s
  refine ⟨fun c1_s => no_s (by omega), fun c1_s => ⟨fun c2_s => no_s (by omega), fun c2_s => ⟨fun c3_s => no_s (by omega), fun c3_s => ⟨fun c4_s => no_s (by omega), fun c4_s => ⟨fun c5_s => no_s (by omega), fun c5_s => fun c8_s => ?_⟩⟩⟩⟩⟩
  have ok_s : okD x1_s := by
    unfold okD
    omega
  have t2_s := t2_s ok_s
  have t3_s := t3_s ok_s
  unfold rwE rfB at t2_s t3_s
  refine ⟨fun c9_s => ?_, fun c9_s => ⟨fun c15_s => fun c18_s => ⟨fun c19_s => ?_, fun c19_s => ⟨fun c21 => ?_, fun c21 => ?_⟩⟩, fun c15_s => ?_⟩⟩
  · simp only [if_pos c9_s, if_neg (show ¬ (-11 : Int) = 0 by decide)] at t2_s
    exact t2_s (by decide) _ b11
  · simp only [if_neg c9_s, if_pos c15_s, if_pos c19_s] at t2_s
    exact t2_s (by decide) _ b11
  · simp only [if_neg c9_s, if_pos c15_s, if_neg c19_s, if_pos c21] at t3_s
    exact t3_s (by decide)
  · simp only [if_neg c9_s, if_pos c15_s, if_neg c19_s, if_neg c21] at t2_s
    exact t2_s (by decide) _ b12
  · simp only [if_neg c9_s, if_neg c15_s, if_neg (show ¬ (-12 : Int) = 0 by decide)] at t2_s
    exact t2_s (by decide) _ b12
theorem sp_139 {F_s i_s : Nat} (hk : hKn h_s) (e2_s : x2_s.toInt = (i_s : Int)) (hi_s : i_s < 8) (t_s : ∀ f1_s, (∀ k_s, k_s < 7 → f1_s 88 k_s = f0_s (20 + i_s) k_s) → (∀ a_s k_s, ¬ (a_s = 88 ∧ k_s < 7) → f1_s a_s k_s = f0_s a_s k_s) → KR_s 88 (h_s.1, f1_s, h_s.2.2.1, h_s.2.2.2)) : wF F_s 139 (0, [some (.ref 6), some (.int x2_s)], [], (h_s.1, f0_s, h_s.2.2.1, h_s.2.2.2)) (gR KR_s) := by
  have z_s := azix (i := x2_s) (by omega)
  have ez : zix x2_s = i_s := by omega
  refine wF_le (Nat.le_succ F_s) (sg_139_0 (h_s := (h_s.1, f0_s, h_s.2.2.1, h_s.2.2.2)) hk ?_)
  rw [ez]
  exact fun _ => sp_35 hk (by omega) (fun f1_s g1 g2 _ => t_s f1_s g1 g2)
/-- a journey's thought, as it begins -/
theorem th_cw {f1_s : Nat → Nat → Int32} {i_s : Nat} (hc_s : tC nh ni nr f0_s) (hi_s : i_s < ni) (g1 : ∀ k_s, k_s < 7 → f1_s 88 k_s = f0_s (20 + i_s) k_s) (g2 : f1_s 7 6 = f0_s 7 6) (g3_s : ∀ k_s, f1_s 8 k_s = f0_s 8 k_s) : cwO f1_s 88 (owI f0_s i_s) := by
  have u_s := tC_cw hc_s hi_s
  refine ⟨fun k_s hk6 => by rw [g1 k_s (by omega)]; exact u_s.1 k_s hk6, ?_⟩
  rw [g1 6 (by omega), g2, g3_s]
  exact u_s.2
theorem goJ_fr {f_s f1_s : Nat → Nat → Int32} {c_s : Nat → Int64} (e_s : ∀ k_s, f1_s 103 k_s = f_s 103 k_s) : goJ lw f1_s c_s = goJ lw f_s c_s := by
  funext o k_s
  exact goF_fr e_s
theorem owI_fr {f_s f1_s : Nat → Nat → Int32} {i_s : Nat} (e_s : ∀ k_s, f1_s 103 k_s = f_s 103 k_s) : owI f1_s i_s = owI f_s i_s := by
  funext k_s
  unfold owI
  rw [e_s, e_s, e_s]
theorem pr_judge {F_s : Nat} (hk : hKn h_s) (hs : tS h_s) (hx : tX h_s) : wF F_s 110 (0, [some (.ref 6), some (.int x1_s), some (.int x2_s), none], [], h_s) (gI (fun v_s h1 => wF F_s 205 (0, [some (.ref 102), some (.int x1_s), some (.int x2_s)], [], h1) (gI (fun v2 _ => v_s = v2)))) := by
  obtain ⟨nh, ni, nr, hc_s, _, _, _, _, hl⟩ := hx
  obtain ⟨q_s, q2_s, lw, l1, l2, l3, l4, l5⟩ := hl
  have hm_s : q_s = 14 ∨ q_s = 17 := by omega
  have m0_s := tC_M hc_s
  have b_s := hc_s.1
  have e77 := hc_s.2.1.2.1
  have e78 := hc_s.2.1.2.2
  have e27_s := sb1 m0_s.2.1.2.1
  have n1_s : (-1 : Int32).toInt = -1 := rfl
  -- the reference_s where the class refuses_s
  have rf1 : ¬ (okD x1_s ∧ 0 ≤ x2_s.toInt ∧ x2_s.toInt < (ni : Int)) → wF F_s 205 (0, [some (.ref 102), some (.int x1_s), some (.int x2_s)], [], h_s) (gI (fun v2 _ => (-1 : Int32) = v2)) := fun w_s => by
    refine wF_le (Nat.le_succ F_s) (sg_205_0 (h_s := h_s) hk ?_)
    refine sp_203 hk (fun _ _ => ⟨fun _ => rfl, fun c_s => absurd n1_s c_s⟩) (fun ok_s nz v1_s ev1 _ => ⟨fun c_s => ?_, fun _ => ?_⟩) (fun ok_s ez _ => ⟨fun c_s => absurd c_s (by decide), fun _ => ?_⟩)
    · have := rwE_v h_s.2.1 x1_s
      omega
    · rw [e27_s]
      exact ⟨fun _ => rfl, fun c2_s => ⟨fun _ => rfl, fun c3_s => absurd ⟨ok_s, by omega, by omega⟩ w_s⟩⟩
    · rw [e27_s]
      exact ⟨fun _ => rfl, fun c2_s => ⟨fun _ => rfl, fun c3_s => absurd ⟨ok_s, by omega, by omega⟩ w_s⟩⟩
  have rf2 : okD x1_s → 0 ≤ x2_s.toInt → x2_s.toInt < (ni : Int) → ¬ rwE h_s.2.1 x1_s = 0 → ∀ v_s : Int32, v_s.toInt = rwE h_s.2.1 x1_s → wF F_s 205 (0, [some (.ref 102), some (.int x1_s), some (.int x2_s)], [], h_s) (gI (fun v2 _ => v_s = v2)) := fun ok_s i0_s i1_s nz v_s ev_s => by
    refine wF_le (Nat.le_succ F_s) (sg_205_0 (h_s := h_s) hk ?_)
    have rv_s := rwE_v h_s.2.1 x1_s
    refine sp_203 hk (fun w_s => absurd ok_s w_s) (fun _ _ v1_s ev1 _ => ⟨fun c_s => ?_, fun _ => ?_⟩) (fun _ ez => absurd ez nz)
    · omega
    · rw [e27_s]
      refine ⟨fun c_s => absurd c_s (by omega), fun _ => ⟨fun c_s => absurd c_s (by omega), fun _ => ?_⟩⟩
      exact sp_203 hk (fun w_s => absurd ok_s w_s) (fun _ _ v5 ev5 _ => ⟨fun _ => sp_203 hk (fun w_s => absurd ok_s w_s) (fun _ _ v7 ev7 _ => Int32.toInt_inj.mp (ev_s.trans ev7.symm)) (fun _ ez => absurd ez nz), fun c_s => absurd (show v5.toInt < 0 by omega) c_s⟩) (fun _ ez => absurd ez nz)
  have cl1 : ∀ P_s : Prop, ¬ P_s → (okD x1_s ∧ 0 ≤ x2_s.toInt ∧ x2_s.toInt < (ni : Int) → P_s) → wF F_s 205 (0, [some (.ref 102), some (.int x1_s), some (.int x2_s)], [], h_s) (gI (fun v2 _ => (-1 : Int32) = v2)) := fun P_s np w_s => rf1 (fun u_s => np (w_s u_s))
  unfold okD at cl1
  refine wF_le (Nat.le_succ F_s) (sg_110_0 (h_s := h_s) hk ?_)
  rw [e77]
  refine ⟨fun c1_s => cl1 False id (fun u_s => by omega), fun c1_s => ⟨fun c2_s => cl1 False id (fun u_s => by omega), fun c2_s => ⟨fun c3_s => ⟨fun c4_s => cl1 False id (fun u_s => by omega), fun c4_s => ⟨fun c5_s => ⟨fun c6_s => cl1 False id (fun u_s => by omega), fun c6_s => ⟨fun c7_s => fun c8_s => ?_, fun c7_s => cl1 False id (fun u_s => by omega)⟩⟩, fun c5_s => cl1 False id (fun u_s => by omega)⟩⟩, fun c3_s => cl1 False id (fun u_s => by omega)⟩⟩⟩
  have ok_s : okD x1_s := by
    unfold okD
    omega
  have rf2 := rf2 ok_s (by omega) c7_s
  have z1 := azix (i := x1_s / 10) (by omega)
  have z2 := azix (i := x1_s - x1_s / 10 * 10) (by omega)
  have ts1 := (hs.1 (zix (x1_s / 10)) c8_s).1
  refine sp_140 hk c8_s ts1 (fun v9 e9_s _ => ⟨fun c9_s => fun c10_s => ?_, fun c9_s => ?_⟩)
  · have r0 : rfB h_s.2.1 (zix (x1_s / 10)) = 0 := by omega
    have rw2 : rwE h_s.2.1 x1_s = rfB h_s.2.1 (zix (x1_s - x1_s / 10 * 10)) := if_pos r0
    rw [rw2] at rf2
    have ts2 := (hs.1 (zix (x1_s - x1_s / 10 * 10)) c10_s).1
    refine sp_140 hk c10_s ts2 (fun v12 e12_s _ => ⟨fun c12_s => ?_, fun c12_s => rf2 (by omega) v12 e12_s⟩)
    have r2 : rfB h_s.2.1 (zix (x1_s - x1_s / 10 * 10)) = 0 := by omega
    have rz : rwE h_s.2.1 x1_s = 0 := rw2.trans r2
    obtain ⟨a1_s, a2, a3⟩ := row_of ts1 r0
    obtain ⟨b1, b2, b3⟩ := row_of ts2 r2
    have g1 := (hs.1 (zix (x1_s / 10)) c8_s).2
    have g2 := (hs.1 (zix (x1_s - x1_s / 10 * 10)) c10_s).2
    generalize hs1 : zix (x1_s / 10) = s1_s at *
    generalize hs2 : zix (x1_s - x1_s / 10 * 10) = s2_s at *
    refine sp_48 (f0_s := h_s.2.1) (nr := nr) hk c8_s e78 a2 (fun L_s f1_s hJ eL es fr1 hk1 => ?_)
    have hi_s : x2_s.toInt.toNat < ni := by omega
    have ei : x2_s.toInt = (x2_s.toInt.toNat : Int) := by omega
    generalize x2_s.toInt.toNat = i_s at hi_s ei
    have i8_s : i_s < 8 := by omega
    refine sp_139 (h_s := (h_s.1, f1_s, h_s.2.2.1, h_s.2.2.2)) (f0_s := f1_s) hk1 ei i8_s (fun f2_s t1_s t2_s hk2 => ?_)
    have fr2 : ∀ a_s k_s, ¬ (a_s = 50 ∧ k_s = 1) → ¬ a_s = 51 → ¬ (a_s = 88 ∧ k_s < 7) → f2_s a_s k_s = h_s.2.1 a_s k_s := fun a_s k_s q1_s q2_s q3_s => by
      rw [t2_s a_s k_s q3_s]
      exact fr1 a_s k_s q1_s q2_s
    have hJ2 : isJ nr (fun k_s => h_s.2.2.1 126 (60 * s1_s + k_s)) (h_s.2.1 125 s1_s).toInt L_s := by
      rw [a1_s]
      exact isJ_c (fun k_s hk60 => (g1 k_s hk60).symm) hJ
    have hc2 : tC nh ni nr f2_s := tC_fr (fun a_s k_s w_s => fr2 a_s k_s (by unfold inC at w_s; omega) (by unfold inC at w_s; omega) (by unfold inC at w_s; omega)) hc_s
    have lc2 : lawC q_s f2_s lw := lawC_fr hm_s (fun a_s k_s w_s => fr2 a_s k_s (by omega) (by omega) (by omega)) l4
    have cw2 : cwO f2_s 88 (owI h_s.2.1 i_s) := th_cw hc_s hi_s (fun k_s hk7 => by rw [t1_s k_s hk7]; exact fr1 _ _ (by omega) (by omega)) (fr2 _ _ (by omega) (by omega) (by omega)) (fun k_s => fr2 _ _ (by omega) (by omega) (by omega))
    have e3_s : f2_s (76 + 2 * s2_s) 3 = h_s.2.1 (76 + 2 * s2_s) 3 := fr2 _ _ (by omega) (by omega) (by omega)
    refine sp_51 (h_s := (h_s.1, f2_s, h_s.2.2.1, h_s.2.2.2)) (f0_s := f2_s) (L_s := L_s) (c_s := fun k_s => h_s.2.2.1 126 (60 * s1_s + k_s)) (told_s := fun n_s => h_s.2.2.1 126 (60 * s2_s + n_s)) (o := owI h_s.2.1 i_s) hk2 c10_s l1 hm_s lc2 (lawR_P l5) hc2 (by rw [t2_s 50 1 (by omega)]; exact eL) (fun k_s hkL => ?_) hJ2.2.2.1 (fun n_s hn60 => g2 n_s hn60) (by rw [e3_s]; exact b2) (by rw [e3_s]; exact b3) cw2 (tC_oB hc_s hi_s) (fun v_s f3_s ev_s fr3 _ => ?_)
    · rw [t2_s 51 k_s (by omega), es k_s hkL]
      have := hJ.1
      rw [g1 k_s (by omega)]
    · have fr4 : ∀ a_s k_s, 100 ≤ a_s → f3_s a_s k_s = h_s.2.1 a_s k_s := fun a_s k_s ha_s => by
        rw [fr3 a_s k_s (by omega) (by omega) (by omega) (by omega) (by omega)]
        exact fr2 a_s k_s (by omega) (by omega) (by omega)
      rw [goJ_fr (f_s := h_s.2.1) (fun k_s => fr2 103 k_s (by omega) (by omega) (by omega)), e3_s] at ev_s
      have m3_s : tM nh ni nr f3_s := tM_fr (fun k_s _ _ => fr4 _ _ (by omega)) (fun k_s _ => fr4 _ _ (by omega)) m0_s
      have lr3 : lawR f3_s lw := lawR_fr (fr4 _ _ (by omega)) (fun k_s _ => fr4 _ _ (by omega)) l5
      have e273 := sb1 m3_s.2.1.2.1
      have rz3 : rwE f3_s x1_s = 0 := (rwE_fr (fun k_s => fr4 124 k_s (by omega))).trans rz
      refine wF_le (Nat.le_succ F_s) (sg_205_0 (h_s := (h_s.1, f3_s, h_s.2.2.1, h_s.2.2.2)) hk ?_)
      refine sp_203 (h_s := (h_s.1, f3_s, h_s.2.2.1, h_s.2.2.2)) hk (fun w_s => absurd ok_s w_s) (fun _ nz => absurd rz3 nz) (fun _ _ _ => ⟨fun c_s => absurd c_s (by decide), fun _ => ?_⟩)
      dsimp only
      rw [e273]
      refine ⟨fun c_s => absurd c_s (by omega), fun _ => ⟨fun c_s => absurd c_s (by omega), fun _ => ?_⟩⟩
      refine sp_203 (h_s := (h_s.1, f3_s, h_s.2.2.1, h_s.2.2.2)) hk (fun w_s => absurd ok_s w_s) (fun _ nz => absurd rz3 nz) (fun _ _ _ => ⟨fun c_s => absurd c_s (by decide), fun _ => ?_⟩)
      refine sp_204 (h_s := (h_s.1, f3_s, h_s.2.2.1, h_s.2.2.2)) (f0_s := f3_s) (i_s := i_s) (s1_s := s1_s) (s2_s := s2_s) (L_s := L_s) (c_s := fun k_s => h_s.2.2.1 126 (60 * s1_s + k_s)) (told_s := fun n_s => h_s.2.2.1 126 (60 * s2_s + n_s)) hk m3_s lr3 (lawR_P l5) ei hi_s z1.symm z2.symm c8_s c10_s (by rw [fr4 125 _ (by omega), a1_s]; exact a2) (by rw [fr4 125 _ (by omega), b1]; exact b2) (by rw [fr4 125 _ (by omega), b1]; exact b3) (fun _ => rfl) (fun _ => rfl) (by rw [fr4 125 _ (by omega)]; exact hJ2) (fun v2 f4_s ev2 _ _ => ?_)
      rw [goJ_fr (f_s := h_s.2.1) (fun k_s => fr4 103 k_s (by omega)), owI_fr (f_s := h_s.2.1) (fun k_s => fr4 103 k_s (by omega)), fr4 125 _ (by omega), b1] at ev2
      exact Int32.toInt_inj.mp (ev_s.trans ev2.symm)
  · have e_s : rwE h_s.2.1 x1_s = rfB h_s.2.1 (zix (x1_s / 10)) := if_neg (by omega)
    rw [e_s] at rf2
    exact rf2 (by omega) v9 e9_s
end JU
