/-! JOURNEY: class and reference. -/
def okA (ni : Nat) (x1_s x2_s x3 : Int32) : Prop := (0 ≤ x1_s.toInt ∧ x1_s.toInt ≤ 5) ∧ (0 ≤ x2_s.toInt ∧ x2_s.toInt < (ni : Int)) ∧ 0 ≤ x3.toInt ∧ x3.toInt ≤ 4
def jA (w_s : Int) (R_s : Int32 × Nat × oI × Bool) : Int32 := if w_s = 0 then R_s.1 else if w_s = 1 then gI32 R_s.2.1 else if w_s = 2 then R_s.2.2.1 2 else if w_s = 3 then R_s.2.2.1 3 else if R_s.2.2.2 = true then -2 else gI32 R_s.2.1
section JJ
variable {h_s : zH} {P_s : Int32 → Prop} {nh ni nr q_s L_s : Nat} {lw : Option (List pB)} {x1_s x2_s x3 : Int32} {f0_s : Nat → Nat → Int32}
theorem sp_189 {F_s : Nat} (hk : hKn h_s) (hc_s : tM nh ni nr f0_s) (hl : lawR f0_s lw) (hp : lwP lw) (n0_s : okA ni x1_s x2_s x3 → rfB f0_s (zix x1_s) = 0 → 0 ≤ (f0_s 125 (zix x1_s)).toInt) (hJ : okA ni x1_s x2_s x3 → rfB f0_s (zix x1_s) = 0 → isJ nr (fun k_s => h_s.2.2.1 126 (60 * zix x1_s + k_s)) (f0_s 125 (zix x1_s)).toInt L_s) (t1_s : ¬ okA ni x1_s x2_s x3 → P_s (-1)) (t2_s : okA ni x1_s x2_s x3 → ¬ rfB f0_s (zix x1_s) = 0 → ∀ v_s : Int32, v_s.toInt = rfB f0_s (zix x1_s) → P_s v_s) (t3_s : okA ni x1_s x2_s x3 → rfB f0_s (zix x1_s) = 0 → P_s (jA x3.toInt (jrn (goJ lw f0_s (fun k_s => h_s.2.2.1 126 (60 * zix x1_s + k_s))) L_s 0 0 (owI f0_s x2_s.toInt.toNat)))) : wF F_s 189 (0, [some (.ref 102), some (.int x1_s), some (.int x2_s), some (.int x3)], [], (h_s.1, f0_s, h_s.2.2.1, h_s.2.2.2)) (gI (fun v_s _ => P_s v_s)) := by
  have b_s := hc_s.1
  have e27_s := sb1 hc_s.2.1.2.1
  have b11 : (-11 : Int32).toInt = -11 := rfl
  have b12 : (-12 : Int32).toInt = -12 := rfl
  have no_s : ¬ okA ni x1_s x2_s x3 → P_s (-1) := t1_s
  unfold okA at no_s
  have ya : (0 ≤ x1_s.toInt ∧ x1_s.toInt ≤ 5) ∧ (0 ≤ x2_s.toInt ∧ x2_s.toInt < (ni : Int)) ∧ 0 ≤ x3.toInt ∧ x3.toInt ≤ 4 → okA ni x1_s x2_s x3 := fun u_s => u_s
  refine wF_le (Nat.le_succ F_s) (sg_189_0 (h_s := (h_s.1, f0_s, h_s.2.2.1, h_s.2.2.2)) hk ?_)
  dsimp only
  rw [e27_s]
  refine ⟨fun c1_s => no_s (by omega), fun c1_s => ⟨fun c2_s => no_s (by omega), fun c2_s => fun c3_s => ⟨fun c4_s => ⟨fun c5_s => no_s (by omega), fun c5_s => ⟨fun c6_s => no_s (by omega), fun c6_s => ⟨fun c7_s => no_s (by omega), fun c7_s => ⟨fun c8_s => no_s (by omega), fun c8_s => ?_⟩⟩⟩⟩, fun c4_s => ⟨fun c18_s => ⟨fun c19_s => no_s (by omega), fun c19_s => ⟨fun c20_s => no_s (by omega), fun c20_s => ⟨fun c21 => no_s (by omega), fun c21 => ⟨fun c22 => no_s (by omega), fun c22 => ?_⟩⟩⟩⟩, fun c18_s => ⟨fun c39_s => no_s (by omega), fun c39_s => ⟨fun c40_s => no_s (by omega), fun c40_s => ⟨fun c41 => no_s (by omega), fun c41 => ⟨fun c42 => no_s (by omega), fun c42 => ?_⟩⟩⟩⟩⟩⟩⟩⟩
  · have e_s : rfB f0_s (zix x1_s) = -11 := if_pos c4_s
    exact t2_s (ya ⟨by omega, by omega, by omega⟩) (by omega) _ (by omega)
  · have e_s : rfB f0_s (zix x1_s) = 0 := (if_neg c4_s).trans (if_pos c18_s)
    have oA := ya ⟨by omega, by omega, by omega⟩
    have t4_s := t3_s oA e_s
    have hJ1 := hJ oA e_s
    have n0_s := n0_s oA e_s
    have z1 := azix (i := x1_s) (by omega)
    have ei : x2_s.toInt = (x2_s.toInt.toNat : Int) := by omega
    have hi_s : x2_s.toInt.toNat < ni := by omega
    generalize x2_s.toInt.toNat = i_s at ei hi_s t4_s
    refine sp_178 hk ei (by omega) (tM_hd hc_s hi_s).1 (fun f1_s g1 g2 hk1 => ?_)
    have m1_s : tM nh ni nr f1_s := tM_fr (fun k_s _ _ => g2 _ _ (by omega)) (fun k_s _ => g2 _ _ (by omega)) hc_s
    have lr1 : lawR f1_s lw := lawR_fr (g2 _ _ (by omega)) (fun k_s _ => g2 _ _ (by omega)) hl
    refine sp_188 (h_s := (h_s.1, f1_s, h_s.2.2.1, h_s.2.2.2)) (f0_s := f1_s) (s_s := zix x1_s) (L_s := L_s) (c_s := fun k_s => h_s.2.2.1 126 (60 * zix x1_s + k_s)) hk1 m1_s lr1 hp z1.symm c3_s (by rw [g2 125 _ (by omega)]; exact n0_s) (fun _ => rfl) (by rw [g2 125 _ (by omega)]; exact hJ1) g1 (tM_oB hc_s hi_s) (fun f2_s p1_s p2_s p3_s g3_s hk2 => ?_)
    rw [goJ_fr (f_s := f0_s) (fun k_s => g2 103 k_s (by omega))] at p1_s p2_s p3_s
    have jall := jr_all (go_s := goJ lw f0_s (fun k_s => h_s.2.2.1 126 (60 * zix x1_s + k_s))) L_s 0 0 (owI f0_s i_s)
    generalize jrn (goJ lw f0_s (fun k_s => h_s.2.2.1 126 (60 * zix x1_s + k_s))) L_s 0 0 (owI f0_s i_s) = R_s at p1_s p2_s p3_s t4_s jall
    unfold jA at t4_s
    dsimp only
    refine ⟨fun w_s => ?_, fun w0_s => ⟨fun w_s => ?_, fun w1_s => ⟨fun w_s => ?_, fun w2_s => ⟨fun w_s => ?_, fun w3_s => ?_⟩⟩⟩⟩
    · rw [if_pos w_s] at t4_s
      rw [p1_s]
      exact t4_s
    · rw [if_neg w0_s, if_pos w_s] at t4_s
      rw [gI_of p2_s]
      exact t4_s
    · rw [if_neg w0_s, if_neg w1_s, if_pos w_s] at t4_s
      rw [p3_s 2 (by omega)]
      exact t4_s
    · rw [if_neg w0_s, if_neg w1_s, if_neg w2_s, if_pos w_s] at t4_s
      rw [p3_s 3 (by omega)]
      exact t4_s
    · rw [if_neg w0_s, if_neg w1_s, if_neg w2_s, if_neg w3_s] at t4_s
      have c8_s : (f2_s 102 8).toInt = (nr : Int) := by
        rw [g3_s 102 8 (by omega) (by omega) (by omega), g2 102 8 (by omega)]
        exact hc_s.2.1.2.2
      have e125_s : ∀ k_s, f2_s 125 k_s = f0_s 125 k_s := fun k_s => by
        rw [g3_s _ _ (by omega) (by omega) (by omega), g2 _ _ (by omega)]
      refine sp_187 (h_s := (h_s.1, f2_s, h_s.2.2.1, h_s.2.2.2)) (nr := nr) hk2 c8_s (by omega) (by omega) (by show 0 ≤ (f2_s 125 (zix x1_s)).toInt; rw [e125_s]; exact n0_s) (fun v_s L1 ev_s hj hk5 => ?_)
      have hj : isJ nr (fun k_s => h_s.2.2.1 126 (60 * zix x1_s + k_s)) (f2_s 125 (zix x1_s)).toInt L1 := hj
      rw [e125_s] at hj
      have el : L1 = L_s := isJ_u hj hJ1
      subst el
      dsimp only
      rw [p2_s, ev_s]
      refine ⟨fun c_s => ?_, fun c_s => ?_⟩
      · rw [if_neg (fun u_s => by have := jall.1 u_s; omega)] at t4_s
        rw [gI_of p2_s]
        exact t4_s
      · have yes_s : R_s.2.2.2 = true := by
          cases e_s : R_s.2.2.2 with
          | true => rfl
          | false =>
            have := jall.2 (by rw [e_s]; decide)
            omega
        rw [if_pos yes_s] at t4_s
        exact t4_s
  · have e_s : rfB f0_s (zix x1_s) = -12 := (if_neg c4_s).trans (if_neg c18_s)
    exact t2_s (ya ⟨by omega, by omega, by omega⟩) (by omega) _ (by omega)
theorem pr_journey {F_s : Nat} (hk : hKn h_s) (hs : tS h_s) (hx : tX h_s) : wF F_s 103 (0, [some (.ref 6), some (.int x1_s), some (.int x2_s), some (.int x3), none, none, none], [], h_s) (gI (fun v_s h1 => wF F_s 189 (0, [some (.ref 102), some (.int x1_s), some (.int x2_s), some (.int x3)], [], h1) (gI (fun v2 _ => v_s = v2)))) := by
  obtain ⟨nh, ni, nr, hc_s, _, _, _, _, hl⟩ := hx
  obtain ⟨q_s, q2_s, lw, l1, l2, l3, l4, l5⟩ := hl
  have hm_s : q_s = 14 ∨ q_s = 17 := by omega
  have m0_s := tC_M hc_s
  have b_s := hc_s.1
  have e77 := hc_s.2.1.2.1
  have e78 := hc_s.2.1.2.2
  have rf1 : ¬ okA ni x1_s x2_s x3 → wF F_s 189 (0, [some (.ref 102), some (.int x1_s), some (.int x2_s), some (.int x3)], [], h_s) (gI (fun v2 _ => (-1 : Int32) = v2)) := fun w_s => sp_189 (f0_s := h_s.2.1) (L_s := 0) (P_s := fun v2 => (-1 : Int32) = v2) hk m0_s l5 (lawR_P l5) (fun o => absurd o w_s) (fun o => absurd o w_s) (fun _ => rfl) (fun o => absurd o w_s) (fun o => absurd o w_s)
  have no_s : ¬ okA ni x1_s x2_s x3 → wF F_s 189 (0, [some (.ref 102), some (.int x1_s), some (.int x2_s), some (.int x3)], [], h_s) (gI (fun v2 _ => (-1 : Int32) = v2)) := rf1
  unfold okA at no_s
  refine wF_le (Nat.le_succ F_s) (sg_103_0 (h_s := h_s) hk ?_)
  rw [e77]
  refine ⟨fun c1_s => no_s (by omega), fun c1_s => ⟨fun c2_s => ⟨fun c3_s => no_s (by omega), fun c3_s => ⟨fun c4_s => ⟨fun c5_s => no_s (by omega), fun c5_s => ⟨fun c6_s => no_s (by omega), fun c6_s => fun c7_s => ?_⟩⟩, fun c4_s => no_s (by omega)⟩⟩, fun c2_s => no_s (by omega)⟩⟩
  have oA : okA ni x1_s x2_s x3 := by
    unfold okA
    omega
  have z1 := azix (i := x1_s) (by omega)
  have ts1 := (hs.1 (zix x1_s) c7_s).1
  have g1 := (hs.1 (zix x1_s) c7_s).2
  refine sp_140 hk c7_s ts1 (fun v8 e8 _ => ⟨fun c8_s => ?_, fun c8_s => ?_⟩)
  · have r0 : rfB h_s.2.1 (zix x1_s) = 0 := by omega
    obtain ⟨a1_s, a2, a3⟩ := row_of ts1 r0
    generalize hs1 : zix x1_s = s1_s at *
    refine sp_48 (f0_s := h_s.2.1) (nr := nr) hk c7_s e78 a2 (fun L_s f1_s hJ eL es fr1 hk1 => ?_)
    have hi_s : x2_s.toInt.toNat < ni := by omega
    have ei : x2_s.toInt = (x2_s.toInt.toNat : Int) := by omega
    have i8_s : x2_s.toInt.toNat < 8 := by omega
    refine sp_139 (h_s := (h_s.1, f1_s, h_s.2.2.1, h_s.2.2.2)) (f0_s := f1_s) hk1 ei i8_s (fun f2_s t1_s t2_s hk2 => ?_)
    have fr2 : ∀ a_s k_s, ¬ (a_s = 50 ∧ k_s = 1) → ¬ a_s = 51 → ¬ (a_s = 88 ∧ k_s < 7) → f2_s a_s k_s = h_s.2.1 a_s k_s := fun a_s k_s q1_s q2_s q3_s => by
      rw [t2_s a_s k_s q3_s]
      exact fr1 a_s k_s q1_s q2_s
    have hJ2 : isJ nr (fun k_s => h_s.2.2.1 126 (60 * s1_s + k_s)) (h_s.2.1 125 s1_s).toInt L_s := by
      rw [a1_s]
      exact isJ_c (fun k_s hk60 => (g1 k_s hk60).symm) hJ
    have hc2 : tC nh ni nr f2_s := tC_fr (fun a_s k_s w_s => fr2 a_s k_s (by unfold inC at w_s; omega) (by unfold inC at w_s; omega) (by unfold inC at w_s; omega)) hc_s
    have lc2 : lawC q_s f2_s lw := lawC_fr hm_s (fun a_s k_s w_s => fr2 a_s k_s (by omega) (by omega) (by omega)) l4
    have cw2 : cwO f2_s 88 (owI h_s.2.1 x2_s.toInt.toNat) := th_cw hc_s hi_s (fun k_s hk7 => by rw [t1_s k_s hk7]; exact fr1 _ _ (by omega) (by omega)) (fr2 _ _ (by omega) (by omega) (by omega)) (fun k_s => fr2 _ _ (by omega) (by omega) (by omega))
    refine sp_49 (h_s := (h_s.1, f2_s, h_s.2.2.1, h_s.2.2.2)) (f0_s := f2_s) (L_s := L_s) (c_s := fun k_s => h_s.2.2.1 126 (60 * s1_s + k_s)) (o := owI h_s.2.1 x2_s.toInt.toNat) hk2 l1 hm_s lc2 (lawR_P l5) hc2 hJ.1 (by rw [t2_s 50 1 (by omega)]; exact eL) (fun k_s hkL => ?_) hJ2.2.2.1 cw2 (tC_oB hc_s hi_s) (fun v_s f3_s ev_s p1_s p2_s p3_s fr3 _ => ?_)
    · rw [t2_s 51 k_s (by omega), es k_s hkL]
      have := hJ.1
      rw [g1 k_s (by omega)]
    · have fr4 : ∀ a_s k_s, 100 ≤ a_s → f3_s a_s k_s = h_s.2.1 a_s k_s := fun a_s k_s ha_s => by
        rw [fr3 a_s k_s (by omega) (by omega) (by omega) (by omega) (by omega)]
        exact fr2 a_s k_s (by omega) (by omega) (by omega)
      have m3_s : tM nh ni nr f3_s := tM_fr (fun k_s _ _ => fr4 _ _ (by omega)) (fun k_s _ => fr4 _ _ (by omega)) m0_s
      have lr3 : lawR f3_s lw := lawR_fr (fr4 _ _ (by omega)) (fun k_s _ => fr4 _ _ (by omega)) l5
      have rfe : rfB f3_s s1_s = rfB h_s.2.1 s1_s := by
        unfold rfB
        rw [fr4 124 _ (by omega)]
      have e5_s : f3_s 125 s1_s = h_s.2.1 125 s1_s := fr4 125 _ (by omega)
      rw [goJ_fr (f_s := h_s.2.1) (fun k_s => fr2 103 k_s (by omega) (by omega) (by omega))] at ev_s p1_s p2_s p3_s
      have fin_s : ∀ v_s : Int32, v_s = jA x3.toInt (jrn (goJ lw h_s.2.1 (fun k_s => h_s.2.2.1 126 (60 * s1_s + k_s))) L_s 0 0 (owI h_s.2.1 x2_s.toInt.toNat)) → wF F_s 189 (0, [some (.ref 102), some (.int x1_s), some (.int x2_s), some (.int x3)], [], (h_s.1, f3_s, h_s.2.2.1, h_s.2.2.2)) (gI (fun v2 _ => v_s = v2)) := fun v_s ve => by
        refine sp_189 (f0_s := f3_s) (L_s := L_s) (P_s := fun v2 => v_s = v2) hk m3_s lr3 (lawR_P l5) (fun _ _ => ?_) (fun _ _ => ?_) (fun w_s => absurd oA w_s) (fun _ nz => absurd ?_ nz) (fun _ _ => ?_)
        · rw [hs1, e5_s, a1_s]
          exact a2
        · rw [hs1, e5_s]
          exact hJ2
        · rw [hs1, rfe]
          exact r0
        · rw [hs1, goJ_fr (f_s := h_s.2.1) (fun k_s => fr4 103 k_s (by omega)), owI_fr (f_s := h_s.2.1) (fun k_s => fr4 103 k_s (by omega))]
          exact ve
      generalize jrn (goJ lw h_s.2.1 (fun k_s => h_s.2.2.1 126 (60 * s1_s + k_s))) L_s 0 0 (owI h_s.2.1 x2_s.toInt.toNat) = R_s at ev_s p1_s p2_s p3_s fin_s
      dsimp only
      unfold jA at fin_s
      refine ⟨fun w_s => fin_s _ ?_, fun w0_s => ⟨fun w_s => fin_s _ ?_, fun w1_s => ⟨fun w_s => fin_s _ ?_, fun w2_s => ⟨fun w_s => fin_s _ ?_, fun w3_s => ⟨fun c_s => fin_s _ ?_, fun c_s => fin_s _ ?_⟩⟩⟩⟩⟩
      · rw [if_pos w_s]
        exact p1_s
      · rw [if_neg w0_s, if_pos w_s]
        exact gI_of p2_s
      · rw [if_neg w0_s, if_neg w1_s, if_pos w_s]
        exact p3_s 2 (by omega)
      · rw [if_neg w0_s, if_neg w1_s, if_neg w2_s, if_pos w_s]
        exact p3_s 3 (by omega)
      · rw [if_neg w0_s, if_neg w1_s, if_neg w2_s, if_neg w3_s, if_neg (fun u_s => by rw [if_pos u_s] at ev_s; omega)]
        exact gI_of p2_s
      · have yes_s : R_s.2.2.2 = true := by
          cases e_s : R_s.2.2.2 with
          | true => rfl
          | false =>
            rw [if_neg (by rw [e_s]; decide)] at ev_s
            omega
        rw [if_neg w0_s, if_neg w1_s, if_neg w2_s, if_neg w3_s, if_pos yes_s]
  · exact sp_189 (f0_s := h_s.2.1) (L_s := 0) (P_s := fun v2 => v8 = v2) hk m0_s l5 (lawR_P l5) (fun _ e_s => by omega) (fun _ e_s => by omega) (fun w_s => absurd oA w_s) (fun _ _ v_s ev_s => Int32.toInt_inj.mp (e8.trans ev_s.symm)) (fun _ e_s => by omega)
end JJ
