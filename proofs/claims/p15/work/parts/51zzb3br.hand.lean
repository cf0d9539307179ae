/-! THE EDGE: class and reference, answers too. -/
def edR (W_s : Int32 → Int) : Nat → Int32 → Int32 → Int32
  | 0, _, b_s => b_s
  | d_s + 1, v_s, b_s => edR W_s d_s (v_s + 1) (if W_s v_s = -2 then b_s ||| (1 <<< (v_s &&& 31)) else b_s)
theorem goF_fr2 {lw : Option (List pB)} {f_s f1_s : Nat → Nat → Int32} {o : oI} {r_s : Nat} (e_s : ∀ k_s, 68 ≤ k_s → f1_s 103 k_s = f_s 103 k_s) : goF lw f1_s o r_s = goF lw f_s o r_s := by
  unfold goF
  rw [e_s _ (by omega), e_s _ (by omega), e_s _ (by omega)]
theorem goJ_fr2 {lw : Option (List pB)} {f_s f1_s : Nat → Nat → Int32} {c_s : Nat → Int64} (e_s : ∀ k_s, 68 ≤ k_s → f1_s 103 k_s = f_s 103 k_s) : goJ lw f1_s c_s = goJ lw f_s c_s := by
  funext o k_s
  exact goF_fr2 e_s
theorem owI_at {nh ni nr i_s j_s : Nat} {f_s f1_s : Nat → Nat → Int32} {v_s : Int32} (hc_s : tM nh ni nr f_s) (hi_s : i_s < ni) (hj : j_s < 2) (e1_s : f1_s 103 (12 + 8 * j_s + i_s) = v_s) (e2_s : ∀ k_s, ¬ k_s = 12 + 8 * j_s + i_s → f1_s 103 k_s = f_s 103 k_s) : owI f1_s i_s = oset (owI f_s i_s) j_s v_s := by
  have b_s := hc_s.1
  have hd_s := tM_hd hc_s hi_s
  funext k_s
  by_cases e_s : k_s = j_s
  · rw [e_s, os_eq, owI_lo (by omega)]
    exact e1_s
  · rw [os_ne e_s]
    by_cases k6_s : k_s < 6
    · rw [owI_lo k6_s, owI_lo k6_s]
      exact e2_s _ (by omega)
    · unfold owI
      rw [if_neg k6_s, if_neg k6_s, e2_s (60 + i_s) (by omega)]
      by_cases c_s : (f_s 103 (60 + i_s)).toInt < 0
      · rw [if_pos c_s, if_pos c_s]
      · rw [if_neg c_s, if_neg c_s]
        have z_s := azix (i := f_s 103 (60 + i_s)) (by omega)
        exact e2_s _ (by omega)
theorem oB_at {o : oI} {j_s : Nat} {v_s : Int32} (hB_s : oB o) (hj : j_s < 2) (v0_s : 0 ≤ v_s.toInt) (v1_s : v_s.toInt ≤ mxw (j_s + 2)) : oB (oset o j_s v_s) := by
  have mx_s : (j_s = 0 → mxw (j_s + 2) = 3) ∧ (j_s = 1 → mxw (j_s + 2) = 5) := ⟨fun e_s => by rw [e_s]; rfl, fun e_s => by rw [e_s]; rfl⟩
  have m0_s := mx_s.1
  have m1_s := mx_s.2
  unfold oB at hB_s ⊢
  by_cases e_s : j_s = 0
  · subst e_s
    have m0_s := m0_s rfl
    rw [os_eq, os_ne (show ¬ 1 = 0 by decide), os_ne (show ¬ 2 = 0 by decide), os_ne (show ¬ 3 = 0 by decide), os_ne (show ¬ 4 = 0 by decide), os_ne (show ¬ 5 = 0 by decide), os_ne (show ¬ 6 = 0 by decide)]
    exact ⟨⟨v0_s, by omega⟩, hB_s.2⟩
  · have e1_s : j_s = 1 := by omega
    subst e1_s
    have m1_s := m1_s rfl
    rw [os_eq, os_ne (show ¬ 0 = 1 by decide), os_ne (show ¬ 2 = 1 by decide), os_ne (show ¬ 3 = 1 by decide), os_ne (show ¬ 4 = 1 by decide), os_ne (show ¬ 5 = 1 by decide), os_ne (show ¬ 6 = 1 by decide)]
    exact ⟨hB_s.1, ⟨v0_s, by omega⟩, hB_s.2.2⟩
section EE_s
variable {h_s : zH} {K_s : Int32 → zH → Prop} {nh ni nr q_s L_s i_s j_s : Nat} {lw : Option (List pB)} {x1_s x2_s x3 x4_s x5_s : Int32} {f0_s : Nat → Nat → Int32} {c_s told_s : Nat → Int64} {R_s : Int32} {W_s : Int32 → Int}
theorem e111 (hk : hKn h_s) (hr9 : h_s.2.2.2 7 9 = some q_s) (hm_s : q_s = 14 ∨ q_s = 17) (hl : lawC q_s f0_s lw) (hp : lwP lw) (hc_s : tC nh ni nr f0_s) (hi_s : i_s < ni) (e2_s : x2_s.toInt = (i_s : Int)) (hj : j_s < 2) (e3_s : x3.toInt = (j_s : Int)) (e5_s : x5_s.toInt = mxw (j_s + 2)) (eL : (f0_s 50 1).toInt = (L_s : Int)) (es : ∀ k_s, k_s < L_s → f0_s 51 k_s = (c_s k_s).toInt32) (ok_s : ∀ k_s, k_s < L_s → okK nr (c_s k_s)) (ht : ∀ n_s, n_s < 60 → h_s.2.2.1 (76 + 2 * zix (x1_s - x1_s / 10 * 10) + 1) n_s = told_s n_s) (c0_s : 0 ≤ (f0_s (76 + 2 * zix (x1_s - x1_s / 10 * 10)) 3).toInt) (c60 : (f0_s (76 + 2 * zix (x1_s - x1_s / 10 * 10)) 3).toInt ≤ 60) (eW : ∀ v_s, W_s v_s = ffR (goJ lw f0_s c_s) told_s L_s (f0_s (76 + 2 * zix (x1_s - x1_s / 10 * 10)) 3).toInt.toNat 0 (oset (owI f0_s i_s) j_s v_s)) (t_s : ∀ f1_s, frJ f0_s f1_s → K_s R_s (h_s.1, f1_s, h_s.2.2.1, h_s.2.2.2)) : ∀ (F_s n_s d_s : Nat) (x6 x7 : Int32) (l8 : Option Value) (f_s : Nat → Nat → Int32), frJ f0_s f_s → x7.toInt = (n_s : Int) → ((n_s + d_s : Nat) : Int) = mxw (j_s + 2) + 1 → edR W_s d_s x7 x6 = R_s → wF F_s 111 (84, [some (.ref 6), some (.int x1_s), some (.int x2_s), some (.int x3), some (.int x4_s), some (.int x5_s), some (.int x6), some (.int x7), l8], [], (h_s.1, f_s, h_s.2.2.1, h_s.2.2.2)) (gI K_s)
  | 0, _, _, _, _, _, _, _, _, _, _ => wF_zero
  | F_s + 1, n_s, d_s, x6, x7, l8, f_s, g_s, e7_s, ed, hR => by
    have b_s := hc_s.1
    have mx_s : (j_s = 0 → mxw (j_s + 2) = 3) ∧ (j_s = 1 → mxw (j_s + 2) = 5) := ⟨fun e_s => by rw [e_s]; rfl, fun e_s => by rw [e_s]; rfl⟩
    refine sg_111_84 (h_s := (h_s.1, f_s, h_s.2.2.1, h_s.2.2.2)) hk ?_
    match d_s, ed, hR with
    | 0, ed, hR =>
      refine ⟨fun _ => ?_, fun c1_s => absurd (show x5_s.toInt < x7.toInt by omega) c1_s⟩
      have e_s : x6 = R_s := hR
      rw [e_s]
      exact t_s f_s g_s
    | d_s + 1, ed, hR =>
      refine ⟨fun c1_s => absurd c1_s (by omega), fun c1_s => ?_⟩
      refine sp_139 (h_s := (h_s.1, f_s, h_s.2.2.1, h_s.2.2.2)) (f0_s := f_s) hk e2_s (by omega) (fun f1_s t1_s t2_s hk1 => ?_)
      have hR : edR W_s d_s (x7 + 1) (if W_s x7 = -2 then x6 ||| (1 <<< (x7 &&& 31)) else x6) = R_s := hR
      have hc1 : tC nh ni nr f_s := tC_fr (fun a_s k_s w_s => g_s a_s k_s (by unfold inC at w_s; omega) (by unfold inC at w_s; omega) (by unfold inC at w_s; omega) (by unfold inC at w_s; omega) (by unfold inC at w_s; omega)) hc_s
      have eo : owI f_s i_s = owI f0_s i_s := owI_fr (fun k_s => g_s 103 k_s (by omega) (by omega) (by omega) (by omega) (by omega))
      have cw1 : cwO f1_s 88 (owI f0_s i_s) := by
        rw [← eo]
        exact th_cw hc1 hi_s t1_s (t2_s _ _ (by omega)) (fun k_s => t2_s _ _ (by omega))
      have nx : (zix (x1_s - x1_s / 10 * 10) < 6) → wF F_s 51 (0, [some (.ref 50), some (.ref 88), some (.ref (76 + 2 * (zix (x1_s - x1_s / 10 * 10)))), some (.ref 7), none, none], [], (h_s.1, zup f1_s 88 j_s x7, h_s.2.2.1, h_s.2.2.2)) (gI (fun v5 h5 => hKn h5 → (v5.toInt = -2 → wF F_s 111 (84, [some (.ref 6), some (.int x1_s), some (.int x2_s), some (.int x3), some (.int x4_s), some (.int x5_s), some (.int (x6 ||| (1 <<< (x7 &&& 31)))), some (.int (x7 + 1)), some (.ref 88)], [], h5) (gI K_s)) ∧ (¬ v5.toInt = -2 → wF F_s 111 (84, [some (.ref 6), some (.int x1_s), some (.int x2_s), some (.int x3), some (.int x4_s), some (.int x5_s), some (.int x6), some (.int (x7 + 1)), some (.ref 88)], [], h5) (gI K_s)))) := fun hs6 => by
        have fz : ∀ a_s k_s, ¬ a_s = 13 → ¬ a_s = 16 → ¬ a_s = 19 → ¬ (a_s = 88 ∧ k_s < 7) → ¬ (a_s = 50 ∧ (k_s = 2 ∨ k_s = 3)) → zup f1_s 88 j_s x7 a_s k_s = f0_s a_s k_s := fun a_s k_s q1_s q2_s q3_s q4_s q5_s => by
          rw [zne_up (by omega), t2_s a_s k_s q4_s]
          exact g_s a_s k_s q1_s q2_s q3_s q4_s q5_s
        have hcz : tC nh ni nr (zup f1_s 88 j_s x7) := tC_fr (fun a_s k_s w_s => fz a_s k_s (by unfold inC at w_s; omega) (by unfold inC at w_s; omega) (by unfold inC at w_s; omega) (by unfold inC at w_s; omega) (by unfold inC at w_s; omega)) hc_s
        have lz : lawC q_s (zup f1_s 88 j_s x7) lw := lawC_fr hm_s (fun a_s k_s w_s => fz a_s k_s (by omega) (by omega) (by omega) (by omega) (by omega)) hl
        have ec : zup f1_s 88 j_s x7 (76 + 2 * zix (x1_s - x1_s / 10 * 10)) 3 = f0_s (76 + 2 * zix (x1_s - x1_s / 10 * 10)) 3 := fz _ _ (by omega) (by omega) (by omega) (by omega) (by omega)
        refine sp_51 (h_s := (h_s.1, zup f1_s 88 j_s x7, h_s.2.2.1, h_s.2.2.2)) (f0_s := zup f1_s 88 j_s x7) (L_s := L_s) (c_s := c_s) (told_s := told_s) (o := oset (owI f0_s i_s) j_s x7) hk1 hs6 hr9 hm_s lz hp hcz (by rw [fz 50 1 (by omega) (by omega) (by omega) (by omega) (by omega)]; exact eL) (fun k_s hkL => by rw [fz 51 k_s (by omega) (by omega) (by omega) (by omega) (by omega)]; exact es k_s hkL) ok_s ht (by rw [ec]; exact c0_s) (by rw [ec]; exact c60) (cwO_up (by decide) (by decide) (by omega) cw1) (oB_at (tC_oB hc_s hi_s) hj (by omega) (by omega)) (fun v5 f5_s ev_s fr5 hk5 => ?_)
        rw [goJ_fr (f_s := f0_s) (fun k_s => fz 103 k_s (by omega) (by omega) (by omega) (by omega) (by omega)), ec, ← eW] at ev_s
        have g5_s : frJ f0_s f5_s := fun a_s k_s q1_s q2_s q3_s q4_s q5_s => by
          rw [fr5 a_s k_s q1_s q2_s q3_s q4_s q5_s]
          exact fz a_s k_s q1_s q2_s q3_s q4_s q5_s
        have e8 : (x7 + 1).toInt = ((n_s + 1 : Nat) : Int) := by
          rw [in1_ (by omega), e7_s]
          omega
        refine ⟨fun w_s => ?_, fun w_s => ?_⟩
        · rw [if_pos (by omega)] at hR
          exact e111 hk hr9 hm_s hl hp hc_s hi_s e2_s hj e3_s e5_s eL es ok_s ht c0_s c60 eW t_s F_s (n_s + 1) d_s _ (x7 + 1) _ f5_s g5_s e8 (by omega) hR
        · rw [if_neg (by omega)] at hR
          exact e111 hk hr9 hm_s hl hp hc_s hi_s e2_s hj e3_s e5_s eL es ok_s ht c0_s c60 eW t_s F_s (n_s + 1) d_s _ (x7 + 1) _ f5_s g5_s e8 (by omega) hR
      refine ⟨fun w0_s => fun c6_s => ?_, fun w0_s => fun c6_s => ?_⟩
      · have ej : j_s = 0 := by omega
        rw [ej] at nx
        exact nx c6_s
      · have ej : j_s = 1 := by omega
        rw [ej] at nx
        exact nx c6_s
/-- the reference -/
theorem e206 {s1_s s2_s : Nat} (hk : hKn h_s) (hc_s : tM nh ni nr f0_s) (hl : lawR f0_s lw) (hp : lwP lw) (hj : j_s < 2) (e2_s : x2_s.toInt = (i_s : Int)) (hi_s : i_s < ni) (e3_s : x3.toInt = (j_s : Int)) (e4_s : zix x4_s = 12 + 8 * j_s + i_s) (e5_s : x5_s = f0_s 103 (12 + 8 * j_s + i_s)) (d1_s : (x1_s / 10).toInt = (s1_s : Int)) (d2_s : (x1_s - x1_s / 10 * 10).toInt = (s2_s : Int)) (hs1 : s1_s < 6) (hs2 : s2_s < 6) (n0_s : 0 ≤ (f0_s 125 s1_s).toInt) (n2_s : 0 ≤ (f0_s 125 s2_s).toInt) (c60 : (f0_s 125 s2_s).toInt ≤ 60) (ec : ∀ k_s, c_s k_s = h_s.2.2.1 126 (60 * s1_s + k_s)) (et : ∀ n_s, told_s n_s = h_s.2.2.1 126 (60 * s2_s + n_s)) (hJ : isJ nr c_s (f0_s 125 s1_s).toInt L_s) (eW : ∀ v_s, W_s v_s = ffR (goJ lw f0_s c_s) told_s L_s (f0_s 125 s2_s).toInt.toNat 0 (oset (owI f0_s i_s) j_s v_s)) (t_s : ∀ f1_s, frG f0_s f1_s → K_s R_s (h_s.1, f1_s, h_s.2.2.1, h_s.2.2.2)) : ∀ (F_s n_s d_s : Nat) (x6 x7 : Int32) (f_s : Nat → Nat → Int32), x7.toInt = (n_s : Int) → ((n_s + d_s : Nat) : Int) = mxw (j_s + 2) + 1 → edR W_s d_s x7 x6 = R_s → (∀ a_s k_s, ¬ a_s = 111 → ¬ a_s = 112 → ¬ (a_s = 102 ∧ (15 ≤ k_s ∧ k_s ≤ 19 ∨ k_s = 22 ∨ k_s = 23)) → ¬ (a_s = 103 ∧ k_s = 12 + 8 * j_s + i_s) → f_s a_s k_s = f0_s a_s k_s) → wF F_s 206 (74, [some (.ref 102), some (.int x1_s), some (.int x2_s), some (.int x3), some (.int x4_s), some (.int x5_s), some (.int x6), some (.int x7)], [], (h_s.1, f_s, h_s.2.2.1, h_s.2.2.2)) (gI K_s)
  | 0, _, _, _, _, _, _, _, _, _ => wF_zero
  | F_s + 1, n_s, d_s, x6, x7, f_s, e7_s, ed, hR, g_s => by
    have b_s := hc_s.1
    have mx_s : (j_s = 0 → mxw (j_s + 2) = 3) ∧ (j_s = 1 → mxw (j_s + 2) = 5) := ⟨fun e_s => by rw [e_s]; rfl, fun e_s => by rw [e_s]; rfl⟩
    have fin_s : x6 = R_s → K_s x6 (h_s.1, zup f_s 103 (12 + 8 * j_s + i_s) x5_s, h_s.2.2.1, h_s.2.2.2) := fun e6_s => by
      rw [e6_s]
      refine t_s _ (fun a_s k_s q1_s q2_s q3_s => ?_)
      by_cases e_s : a_s = 103 ∧ k_s = 12 + 8 * j_s + i_s
      · rw [e_s.1, e_s.2, zsame_up]
        exact e5_s
      · rw [zne_up e_s]
        exact g_s a_s k_s q1_s q2_s q3_s e_s
    refine sg_206_74 (h_s := (h_s.1, f_s, h_s.2.2.1, h_s.2.2.2)) hk ?_
    dsimp only
    rw [e4_s]
    match d_s, ed, hR with
    | 0, ed, hR =>
      have e6_s : x6 = R_s := hR
      refine ⟨fun c1_s => ⟨fun c2_s => fun c3_s => fin_s e6_s, fun c2_s => absurd (show 3 < x7.toInt by have := mx_s.1 (by omega); omega) c2_s⟩, fun c1_s => ⟨fun c7_s => fun c8_s => fin_s e6_s, fun c7_s => absurd (show 5 < x7.toInt by have := mx_s.2 (by omega); omega) c7_s⟩⟩
    | d_s + 1, ed, hR =>
      have hR : edR W_s d_s (x7 + 1) (if W_s x7 = -2 then x6 ||| (1 <<< (x7 &&& 31)) else x6) = R_s := hR
      have nx : wF F_s 204 (0, [some (.ref 102), some (.int x1_s), some (.int x2_s), none, none], [], (h_s.1, zup f_s 103 (12 + 8 * j_s + i_s) x7, h_s.2.2.1, h_s.2.2.2)) (gI (fun v5 h5 => hKn h5 → (v5.toInt = -2 → wF F_s 206 (74, [some (.ref 102), some (.int x1_s), some (.int x2_s), some (.int x3), some (.int x4_s), some (.int x5_s), some (.int (x6 ||| (1 <<< (x7 &&& 31)))), some (.int (x7 + 1))], [], h5) (gI K_s)) ∧ (¬ v5.toInt = -2 → wF F_s 206 (74, [some (.ref 102), some (.int x1_s), some (.int x2_s), some (.int x3), some (.int x4_s), some (.int x5_s), some (.int (x6 ||| 0)), some (.int (x7 + 1))], [], h5) (gI K_s)))) := by
        have fz : ∀ a_s k_s, ¬ a_s = 111 → ¬ a_s = 112 → ¬ (a_s = 102 ∧ (15 ≤ k_s ∧ k_s ≤ 19 ∨ k_s = 22 ∨ k_s = 23)) → ¬ (a_s = 103 ∧ k_s = 12 + 8 * j_s + i_s) → zup f_s 103 (12 + 8 * j_s + i_s) x7 a_s k_s = f0_s a_s k_s := fun a_s k_s q1_s q2_s q3_s q4_s => by
          rw [zne_up q4_s]
          exact g_s a_s k_s q1_s q2_s q3_s q4_s
        have m1_s : tM nh ni nr (zup f_s 103 (12 + 8 * j_s + i_s) x7) := tM_at (i_s := i_s) hc_s hj (by omega) (by rw [zsame_up]; omega) (by rw [zsame_up]; omega) (fun k_s k6_s k8_s => fz _ _ (by omega) (by omega) (by omega) (by omega)) (fun k_s _ hk1 => fz _ _ (by omega) (by omega) (by omega) (by omega))
        have l1 : lawR (zup f_s 103 (12 + 8 * j_s + i_s) x7) lw := lawR_fr (fz _ _ (by omega) (by omega) (by omega) (by omega)) (fun k_s _ => fz _ _ (by omega) (by omega) (by omega) (by omega)) hl
        have e25_s : ∀ k_s, zup f_s 103 (12 + 8 * j_s + i_s) x7 125 k_s = f0_s 125 k_s := fun k_s => fz _ _ (by omega) (by omega) (by omega) (by omega)
        have eo : owI (zup f_s 103 (12 + 8 * j_s + i_s) x7) i_s = oset (owI f0_s i_s) j_s x7 := owI_at hc_s hi_s hj zsame_up (fun k_s hk1 => fz _ _ (by omega) (by omega) (by omega) (by omega))
        have eg : goJ lw (zup f_s 103 (12 + 8 * j_s + i_s) x7) c_s = goJ lw f0_s c_s := goJ_fr2 (fun k_s hk1 => fz _ _ (by omega) (by omega) (by omega) (by omega))
        refine sp_204 (i_s := i_s) (s1_s := s1_s) (s2_s := s2_s) (L_s := L_s) (c_s := c_s) (told_s := told_s) hk m1_s l1 hp e2_s hi_s d1_s d2_s hs1 hs2 (by rw [e25_s]; exact n0_s) (by rw [e25_s]; exact n2_s) (by rw [e25_s]; exact c60) ec et (by rw [e25_s]; exact hJ) (fun v5 f5_s ev_s g5_s hk5 => ?_)
        rw [eo, eg, e25_s, ← eW] at ev_s
        have g6 : ∀ a_s k_s, ¬ a_s = 111 → ¬ a_s = 112 → ¬ (a_s = 102 ∧ (15 ≤ k_s ∧ k_s ≤ 19 ∨ k_s = 22 ∨ k_s = 23)) → ¬ (a_s = 103 ∧ k_s = 12 + 8 * j_s + i_s) → f5_s a_s k_s = f0_s a_s k_s := fun a_s k_s q1_s q2_s q3_s q4_s => by
          rw [g5_s a_s k_s q1_s q2_s q3_s]
          exact fz a_s k_s q1_s q2_s q3_s q4_s
        have e8 : (x7 + 1).toInt = ((n_s + 1 : Nat) : Int) := by
          rw [in1_ (by omega), e7_s]
          omega
        refine ⟨fun w_s => ?_, fun w_s => ?_⟩
        · rw [if_pos (by omega)] at hR
          exact e206 hk hc_s hl hp hj e2_s hi_s e3_s e4_s e5_s d1_s d2_s hs1 hs2 n0_s n2_s c60 ec et hJ eW t_s F_s (n_s + 1) d_s _ (x7 + 1) f5_s e8 (by omega) hR g6
        · rw [if_neg (by omega)] at hR
          rw [Int32.or_zero]
          exact e206 hk hc_s hl hp hj e2_s hi_s e3_s e4_s e5_s d1_s d2_s hs1 hs2 n0_s n2_s c60 ec et hJ eW t_s F_s (n_s + 1) d_s _ (x7 + 1) f5_s e8 (by omega) hR g6
      refine ⟨fun c1_s => ⟨fun c2_s => absurd c2_s (by have := mx_s.1 (by omega); omega), fun c2_s => fun c4_s => nx⟩, fun c1_s => ⟨fun c7_s => absurd c7_s (by have := mx_s.2 (by omega); omega), fun c7_s => fun c9_s => nx⟩⟩
end EE_s
/-! EDGE: the pair. -/
def okE (ni : Nat) (x1_s x2_s x3 : Int32) : Prop := okD x1_s ∧ (0 ≤ x2_s.toInt ∧ x2_s.toInt < (ni : Int)) ∧ 0 ≤ x3.toInt ∧ x3.toInt ≤ 1
section EP_s
variable {h_s : zH} {x1_s x2_s x3 : Int32}
theorem pr_edge {F_s : Nat} (hk : hKn h_s) (hs : tS h_s) (hx : tX h_s) : wF F_s 111 (0, [some (.ref 6), some (.int x1_s), some (.int x2_s), some (.int x3), none, none, none, none, none], [], h_s) (gI (fun v_s h1 => wF F_s 206 (0, [some (.ref 102), some (.int x1_s), some (.int x2_s), some (.int x3), none, none, none, none], [], h1) (gI (fun v2 h2 => v_s = v2 ∧ tX h2)))) := by
  obtain ⟨nh, ni, nr, hc_s, hh, hi_, hd_s, hz, hl⟩ := hx
  have hx : tX h_s := ⟨nh, ni, nr, hc_s, hh, hi_, hd_s, hz, hl⟩
  obtain ⟨q_s, q2_s, lw, l1, l2, l3, l4, l5⟩ := hl
  have hm_s : q_s = 14 ∨ q_s = 17 := by omega
  have m0_s := tC_M hc_s
  have b_s := hc_s.1
  have e77 := hc_s.2.1.2.1
  have e78 := hc_s.2.1.2.2
  have e27_s := sb1 m0_s.2.1.2.1
  have n1_s : (-1 : Int32).toInt = -1 := rfl
  have rf1 : ¬ okE ni x1_s x2_s x3 → wF F_s 206 (0, [some (.ref 102), some (.int x1_s), some (.int x2_s), some (.int x3), none, none, none, none], [], h_s) (gI (fun v2 h2 => (-1 : Int32) = v2 ∧ tX h2)) := fun w_s => by
    have w_s : ¬ (okD x1_s ∧ (0 ≤ x2_s.toInt ∧ x2_s.toInt < (ni : Int)) ∧ 0 ≤ x3.toInt ∧ x3.toInt ≤ 1) := w_s
    refine wF_le (Nat.le_succ F_s) (sg_206_0 (h_s := h_s) hk ?_)
    refine sp_203 hk (fun _ _ => ⟨fun _ => ⟨rfl, hx⟩, fun c_s => absurd n1_s c_s⟩) (fun ok_s nz v1_s ev1 _ => ⟨fun c_s => ?_, fun _ => ?_⟩) (fun ok_s ez _ => ⟨fun c_s => absurd c_s (by decide), fun _ => ?_⟩)
    · have := rwE_v h_s.2.1 x1_s
      omega
    · rw [e27_s]
      exact ⟨fun _ => ⟨rfl, hx⟩, fun c2_s => ⟨fun _ => ⟨rfl, hx⟩, fun c3_s => ⟨fun _ => ⟨rfl, hx⟩, fun c4_s => ⟨fun _ => ⟨rfl, hx⟩, fun c5_s => absurd ⟨ok_s, ⟨by omega, by omega⟩, by omega, by omega⟩ w_s⟩⟩⟩⟩
    · rw [e27_s]
      exact ⟨fun _ => ⟨rfl, hx⟩, fun c2_s => ⟨fun _ => ⟨rfl, hx⟩, fun c3_s => ⟨fun _ => ⟨rfl, hx⟩, fun c4_s => ⟨fun _ => ⟨rfl, hx⟩, fun c5_s => absurd ⟨ok_s, ⟨by omega, by omega⟩, by omega, by omega⟩ w_s⟩⟩⟩⟩
  have rf2 : okE ni x1_s x2_s x3 → ¬ rwE h_s.2.1 x1_s = 0 → ∀ v_s : Int32, v_s.toInt = rwE h_s.2.1 x1_s → wF F_s 206 (0, [some (.ref 102), some (.int x1_s), some (.int x2_s), some (.int x3), none, none, none, none], [], h_s) (gI (fun v2 h2 => v_s = v2 ∧ tX h2)) := fun oE nz v_s ev_s => by
    obtain ⟨ok_s, ⟨i0_s, i1_s⟩, j0, j1⟩ := oE
    have rv_s := rwE_v h_s.2.1 x1_s
    refine wF_le (Nat.le_succ F_s) (sg_206_0 (h_s := h_s) hk ?_)
    refine sp_203 hk (fun w_s => absurd ok_s w_s) (fun _ _ v1_s ev1 _ => ⟨fun c_s => ?_, fun _ => ?_⟩) (fun _ ez => absurd ez nz)
    · omega
    · rw [e27_s]
      refine ⟨fun c_s => absurd c_s (by omega), fun _ => ⟨fun c_s => absurd c_s (by omega), fun _ => ⟨fun c_s => absurd c_s (by omega), fun _ => ⟨fun c_s => absurd c_s (by omega), fun _ => ?_⟩⟩⟩⟩
      exact sp_203 hk (fun w_s => absurd ok_s w_s) (fun _ _ v5 ev5 _ => ⟨fun _ => sp_203 hk (fun w_s => absurd ok_s w_s) (fun _ _ v7 ev7 _ => ⟨Int32.toInt_inj.mp (ev_s.trans ev7.symm), hx⟩) (fun _ ez => absurd ez nz), fun c_s => absurd (show v5.toInt < 0 by omega) c_s⟩) (fun _ ez => absurd ez nz)
  have no_s : ¬ okE ni x1_s x2_s x3 → wF F_s 206 (0, [some (.ref 102), some (.int x1_s), some (.int x2_s), some (.int x3), none, none, none, none], [], h_s) (gI (fun v2 h2 => (-1 : Int32) = v2 ∧ tX h2)) := rf1
  unfold okE okD at no_s
  refine wF_le (Nat.le_succ F_s) (sg_111_0 (h_s := h_s) hk ?_)
  rw [e77]
  refine ⟨fun c1_s => no_s (by omega), fun c1_s => ⟨fun c2_s => no_s (by omega), fun c2_s => ⟨fun c3_s => ⟨fun c4_s => no_s (by omega), fun c4_s => ⟨fun c5_s => ⟨fun c6_s => no_s (by omega), fun c6_s => ⟨fun c7_s => ⟨fun c8_s => no_s (by omega), fun c8_s => ⟨fun c9_s => no_s (by omega), fun c9_s => fun c10_s => ?_⟩⟩, fun c7_s => no_s (by omega)⟩⟩, fun c5_s => no_s (by omega)⟩⟩, fun c3_s => no_s (by omega)⟩⟩⟩
  have ok_s : okD x1_s := by
    unfold okD
    omega
  have rf2 := rf2 ⟨ok_s, ⟨by omega, c7_s⟩, by omega, by omega⟩
  have z1 := azix (i := x1_s / 10) (by omega)
  have z2 := azix (i := x1_s - x1_s / 10 * 10) (by omega)
  have ts1 := (hs.1 (zix (x1_s / 10)) c10_s).1
  refine sp_140 hk c10_s ts1 (fun v11 e11_s _ => ⟨fun c11_s => fun c12_s => ?_, fun c11_s => ?_⟩)
  · have r0 : rfB h_s.2.1 (zix (x1_s / 10)) = 0 := by omega
    have rw2 : rwE h_s.2.1 x1_s = rfB h_s.2.1 (zix (x1_s - x1_s / 10 * 10)) := if_pos r0
    rw [rw2] at rf2
    have ts2 := (hs.1 (zix (x1_s - x1_s / 10 * 10)) c12_s).1
    refine sp_140 hk c12_s ts2 (fun v14 e14_s _ => ⟨fun c14_s => ?_, fun c14_s => rf2 (by omega) v14 e14_s⟩)
    have r2 : rfB h_s.2.1 (zix (x1_s - x1_s / 10 * 10)) = 0 := by omega
    have rz : rwE h_s.2.1 x1_s = 0 := rw2.trans r2
    obtain ⟨a1_s, a2, a3⟩ := row_of ts1 r0
    obtain ⟨b1, b2, b3⟩ := row_of ts2 r2
    have g1 := (hs.1 (zix (x1_s / 10)) c10_s).2
    have g2 := (hs.1 (zix (x1_s - x1_s / 10 * 10)) c12_s).2
    refine sp_48 (f0_s := h_s.2.1) (nr := nr) hk c10_s e78 a2 (fun L_s f1_s hJ eL es fr1 hk1 => ?_)
    have hi_s : x2_s.toInt.toNat < ni := by omega
    have ei : x2_s.toInt = (x2_s.toInt.toNat : Int) := by omega
    have z12 : zix (12 + x2_s) = 12 + x2_s.toInt.toNat := zxa (c_s := 12) (a_s := 12) rfl ei (by omega)
    have z20 : zix (20 + x2_s) = 20 + x2_s.toInt.toNat := zxa (c_s := 20) (a_s := 20) rfl ei (by omega)
    generalize x2_s.toInt.toNat = i_s at hi_s ei z12 z20
    have hJ2 : isJ nr (fun k_s => h_s.2.2.1 126 (60 * zix (x1_s / 10) + k_s)) (h_s.2.1 125 (zix (x1_s / 10))).toInt L_s := by
      rw [a1_s]
      exact isJ_c (fun k_s hk60 => (g1 k_s hk60).symm) hJ
    have hc1 : tC nh ni nr f1_s := tC_fr (fun a_s k_s w_s => fr1 a_s k_s (by unfold inC at w_s; omega) (by unfold inC at w_s; omega)) hc_s
    have lc1 : lawC q_s f1_s lw := lawC_fr hm_s (fun a_s k_s w_s => fr1 a_s k_s (by omega) (by omega)) l4
    have e3_s : f1_s (76 + 2 * zix (x1_s - x1_s / 10 * 10)) 3 = h_s.2.1 (76 + 2 * zix (x1_s - x1_s / 10 * 10)) 3 := fr1 _ _ (by omega) (by omega)
    have go_s : ∀ (j_s d_s : Nat) (x4_s x5_s : Int32), j_s < 2 → x3.toInt = (j_s : Int) → x5_s.toInt = mxw (j_s + 2) → ((0 + d_s : Nat) : Int) = mxw (j_s + 2) + 1 → wF F_s 111 (84, [some (.ref 6), some (.int x1_s), some (.int x2_s), some (.int x3), some (.int x4_s), some (.int x5_s), some (.int 0), some (.int 0), none], [], (h_s.1, f1_s, h_s.2.2.1, h_s.2.2.2)) (gI (fun v_s h1 => wF F_s 206 (0, [some (.ref 102), some (.int x1_s), some (.int x2_s), some (.int x3), none, none, none, none], [], h1) (gI (fun v2 h2 => v_s = v2 ∧ tX h2)))) := fun j_s d_s x4_s x5_s hj ej e5_s ed => by
      refine e111 (h_s := (h_s.1, f1_s, h_s.2.2.1, h_s.2.2.2)) (f0_s := f1_s) (L_s := L_s) (i_s := i_s) (j_s := j_s) (c_s := fun k_s => h_s.2.2.1 126 (60 * zix (x1_s / 10) + k_s)) (told_s := fun n_s => h_s.2.2.1 126 (60 * zix (x1_s - x1_s / 10 * 10) + n_s)) (W_s := fun v_s => ffR (goJ lw h_s.2.1 (fun k_s => h_s.2.2.1 126 (60 * zix (x1_s / 10) + k_s))) (fun n_s => h_s.2.2.1 126 (60 * zix (x1_s - x1_s / 10 * 10) + n_s)) L_s (h_s.2.1 (76 + 2 * zix (x1_s - x1_s / 10 * 10)) 3).toInt.toNat 0 (oset (owI h_s.2.1 i_s) j_s v_s)) hk1 l1 hm_s lc1 (lawR_P l5) hc1 hi_s ei hj ej e5_s eL (fun k_s hkL => ?_) hJ2.2.2.1 (fun n_s hn60 => g2 n_s hn60) (by rw [e3_s]; exact b2) (by rw [e3_s]; exact b3) (fun v_s => ?_) (fun f2_s fr2 => ?_) F_s 0 d_s 0 0 none f1_s (fun _ _ _ _ _ _ _ => rfl) rfl ed rfl
      · rw [es k_s hkL]
        have := hJ.1
        rw [g1 k_s (by omega)]
      · rw [goJ_fr (f_s := h_s.2.1) (fun k_s => fr1 103 k_s (by omega) (by omega)), owI_fr (f_s := h_s.2.1) (fun k_s => fr1 103 k_s (by omega) (by omega)), e3_s]
      · have fr4 : ∀ a_s k_s, 100 ≤ a_s → f2_s a_s k_s = h_s.2.1 a_s k_s := fun a_s k_s ha_s => by
          rw [fr2 a_s k_s (by omega) (by omega) (by omega) (by omega) (by omega)]
          exact fr1 a_s k_s (by omega) (by omega)
        have m2_s : tM nh ni nr f2_s := tM_fr (fun k_s _ _ => fr4 _ _ (by omega)) (fun k_s _ => fr4 _ _ (by omega)) m0_s
        have lr2 : lawR f2_s lw := lawR_fr (fr4 _ _ (by omega)) (fun k_s _ => fr4 _ _ (by omega)) l5
        have e272 := sb1 m2_s.2.1.2.1
        have rz2 : rwE f2_s x1_s = 0 := (rwE_fr (fun k_s => fr4 124 k_s (by omega))).trans rz
        refine wF_le (Nat.le_succ F_s) (sg_206_0 (h_s := (h_s.1, f2_s, h_s.2.2.1, h_s.2.2.2)) hk ?_)
        refine sp_203 (h_s := (h_s.1, f2_s, h_s.2.2.1, h_s.2.2.2)) hk (fun w_s => absurd ok_s w_s) (fun _ nz => absurd rz2 nz) (fun _ _ _ => ⟨fun c_s => absurd c_s (by decide), fun _ => ?_⟩)
        dsimp only
        rw [e272]
        refine ⟨fun c_s => absurd c_s (by omega), fun _ => ⟨fun c_s => absurd c_s (by omega), fun _ => ⟨fun c_s => absurd c_s (by omega), fun _ => ⟨fun c_s => absurd c_s (by omega), fun _ => ?_⟩⟩⟩⟩
        refine sp_203 (h_s := (h_s.1, f2_s, h_s.2.2.1, h_s.2.2.2)) hk (fun w_s => absurd ok_s w_s) (fun _ nz => absurd rz2 nz) (fun _ _ _ => ⟨fun c_s => absurd c_s (by decide), fun _ => ?_⟩)
        have go2 : ∀ (x4_s : Int32), zix x4_s = 12 + 8 * j_s + i_s → wF F_s 206 (74, [some (.ref 102), some (.int x1_s), some (.int x2_s), some (.int x3), some (.int x4_s), some (.int (f2_s 103 (zix x4_s))), some (.int 0), some (.int 0)], [], (h_s.1, f2_s, h_s.2.2.1, h_s.2.2.2)) (gI (fun v2 h2 => edR (fun v_s => ffR (goJ lw h_s.2.1 (fun k_s => h_s.2.2.1 126 (60 * zix (x1_s / 10) + k_s))) (fun n_s => h_s.2.2.1 126 (60 * zix (x1_s - x1_s / 10 * 10) + n_s)) L_s (h_s.2.1 (76 + 2 * zix (x1_s - x1_s / 10 * 10)) 3).toInt.toNat 0 (oset (owI h_s.2.1 i_s) j_s v_s)) d_s 0 0 = v2 ∧ tX h2)) := fun x4_s e4_s => by
          refine e206 (h_s := (h_s.1, f2_s, h_s.2.2.1, h_s.2.2.2)) (f0_s := f2_s) (L_s := L_s) (i_s := i_s) (j_s := j_s) (s1_s := zix (x1_s / 10)) (s2_s := zix (x1_s - x1_s / 10 * 10)) (c_s := fun k_s => h_s.2.2.1 126 (60 * zix (x1_s / 10) + k_s)) (told_s := fun n_s => h_s.2.2.1 126 (60 * zix (x1_s - x1_s / 10 * 10) + n_s)) (W_s := fun v_s => ffR (goJ lw h_s.2.1 (fun k_s => h_s.2.2.1 126 (60 * zix (x1_s / 10) + k_s))) (fun n_s => h_s.2.2.1 126 (60 * zix (x1_s - x1_s / 10 * 10) + n_s)) L_s (h_s.2.1 (76 + 2 * zix (x1_s - x1_s / 10 * 10)) 3).toInt.toNat 0 (oset (owI h_s.2.1 i_s) j_s v_s)) hk m2_s lr2 (lawR_P l5) hj ei hi_s ej e4_s (by rw [e4_s]) z1.symm z2.symm c10_s c12_s (by rw [fr4 125 _ (by omega), a1_s]; exact a2) (by rw [fr4 125 _ (by omega), b1]; exact b2) (by rw [fr4 125 _ (by omega), b1]; exact b3) (fun _ => rfl) (fun _ => rfl) (by rw [fr4 125 _ (by omega)]; exact hJ2) (fun v_s => ?_) (fun f3_s fr3 => ⟨rfl, ?_⟩) F_s 0 d_s 0 0 f2_s rfl ed rfl (fun _ _ _ _ _ _ => rfl)
          · rw [goJ_fr (f_s := h_s.2.1) (fun k_s => fr4 103 k_s (by omega)), owI_fr (f_s := h_s.2.1) (fun k_s => fr4 103 k_s (by omega)), fr4 125 _ (by omega), b1]
          · refine tX_fr (h_s := h_s) (h1 := (h_s.1, f3_s, h_s.2.2.1, h_s.2.2.2)) (fun _ => rfl) (fun o k_s w_s => ?_) hx
            have n_s : (¬ o = 111 ∧ ¬ o = 112 ∧ ¬ (o = 102 ∧ (15 ≤ k_s ∧ k_s ≤ 19 ∨ k_s = 22 ∨ k_s = 23))) ∧ (¬ o = 13 ∧ ¬ o = 16 ∧ ¬ o = 19 ∧ ¬ o = 88 ∧ ¬ o = 50 ∧ ¬ o = 51) := by
              unfold inX inC inH inI inD inZ inW at w_s
              omega
            show f3_s o k_s = h_s.2.1 o k_s
            rw [fr3 o k_s n_s.1.1 n_s.1.2.1 n_s.1.2.2, fr2 o k_s n_s.2.1 n_s.2.2.1 n_s.2.2.2.1 (fun u_s => n_s.2.2.2.2.1 u_s.1) (fun u_s => n_s.2.2.2.2.2.1 u_s.1)]
            exact fr1 o k_s (fun u_s => n_s.2.2.2.2.2.1 u_s.1) n_s.2.2.2.2.2.2
        refine ⟨fun w0_s => fun _ => ?_, fun w0_s => fun _ => ?_⟩
        · exact go2 (12 + x2_s) (by omega)
        · exact go2 (20 + x2_s) (by omega)
    refine ⟨fun w0_s => ?_, fun w0_s => ?_⟩
    · exact go_s 0 4 v14 3 (by omega) (by omega) rfl rfl
    · exact go_s 1 6 v14 5 (by omega) (by omega) rfl rfl
  · have e_s : rwE h_s.2.1 x1_s = rfB h_s.2.1 (zix (x1_s / 10)) := if_neg (by omega)
    rw [e_s] at rf2
    exact rf2 (by omega) v11 e11_s
end EP_s
/-! What ended runs give: printed by a program (wip/fun/sg.py). -/
/-- ColdShod.asks(I)I, from 0 on -/
theorem sg_107_0 {F_s : Nat} {x1_s : Int32} {h_s : zH} {K_s : Int32 → zH → Prop} (hk : hKn h_s) (t_s : (x1_s.toInt < 0 → K_s (-1) h_s) ∧ (¬ x1_s.toInt < 0 → ((x1_s.toInt < (h_s.2.1 7 6).toInt → wF F_s 25 (0, [some (.ref 7), none, none, none, none], [], h_s) (gV (fun h3 => hKn h3 → (zix x1_s < 6 → K_s (h3.2.1 12 (zix x1_s)) h3)))) ∧ (¬ x1_s.toInt < (h_s.2.1 7 6).toInt → K_s (-1) h_s)))) : wF (F_s + 1) 107 (0, [some (.ref 6), some (.int x1_s)], [], h_s) (gI K_s) := by
  refine w_0 (pc := 0) (e_s := (3, 1, 0, 0, 0, .null, [])) (y_s := (1, [some (.ref _), some (.int _)], [.ref _], _)) rfl (u_ rfl) ?_
  refine w20r (pc := 1) (len_s := 3) (q_s := 7) rfl (krq hk rfl) ?_
  refine w_t (pc := 4) (e_s := (1, 1, 1, 0, 0, .null, [])) (y_s := (5, [some (.ref _), some (.int _)], [.int _, .ref _], _)) rfl (u_ rfl) ?_
  refine wcI (pc := 5) (len_s := 3) rfl rfl (l := [some (.ref _), some (.int _)]) rfl ?_
  refine w_t (pc := 0) (e_s := (1, 1, 1, 0, 0, .null, [])) (y_s := (1, [some (.ref _), some (.int _)], [.int _], _)) rfl (u_ rfl) ?_
  refine wq2 (pc := 1) (len_s := 3) rfl rfl (fun c1_s => ?_) (fun c1_s => ?_)
  · replace t_s := t_s.1 c1_s
    refine w_t (pc := 16) (e_s := (0, 1, 0, 0, 0, .int 0, [])) (y_s := (17, [some (.ref _), some (.int _)], [.int _], _)) rfl (u_ rfl) ?_
    refine wrI (pc := 17) (len_s := 1) rfl hk ?_
    show wF _ 107 (8, [some (.ref _), some (.int _)], [.int _], _) _
    refine w_t (pc := 8) (e_s := (15, 3, 13, 1, 0, .null, [])) (y_s := (11, [some (.ref _), some (.int _)], [], _)) rfl (u_ rfl) ?_
    refine w_t (pc := 11) (e_s := (0, 1, 0, 0, 0, .int (-1), [])) (y_s := (12, [some (.ref _), some (.int _)], [.int _], _)) rfl (u_ rfl) ?_
    exact wrI (pc := 12) (len_s := 1) rfl hk t_s
  · replace t_s := t_s.2 c1_s
    refine w_t (pc := 4) (e_s := (1, 1, 1, 0, 0, .null, [])) (y_s := (5, [some (.ref _), some (.int _)], [.int _], _)) rfl (u_ rfl) ?_
    refine w_t (pc := 5) (e_s := (3, 1, 0, 0, 0, .null, [])) (y_s := (6, [some (.ref _), some (.int _)], [.ref _, .int _], _)) rfl (u_ rfl) ?_
    refine w20 (pc := 6) (len_s := 3) rfl ?_
    refine wi3 (pc := 9) (len_s := 3) rfl rfl rfl (fun c2_s => ?_) (fun c2_s => ?_)
    · replace t_s := t_s.1 c2_s
      refine w_t (pc := 12) (e_s := (0, 1, 0, 0, 0, .int 1, [])) (y_s := (13, [some (.ref _), some (.int _)], [.int _], _)) rfl (u_ rfl) ?_
      refine w_t (pc := 13) (e_s := (17, 3, 17, 0, 0, .null, [])) (y_s := (17, [some (.ref _), some (.int _)], [.int _], _)) rfl (u_ rfl) ?_
      refine wrI (pc := 17) (len_s := 1) rfl hk ?_
      show wF _ 107 (8, [some (.ref _), some (.int _)], [.int _], _) _
      refine w_t (pc := 8) (e_s := (15, 3, 13, 1, 0, .null, [])) (y_s := (13, [some (.ref _), some (.int _)], [], _)) rfl (u_ rfl) ?_
      refine w_t (pc := 13) (e_s := (3, 1, 0, 0, 0, .null, [])) (y_s := (14, [some (.ref _), some (.int _)], [.ref _], _)) rfl (u_ rfl) ?_
      refine w20r (pc := 14) (len_s := 3) (q_s := 7) rfl (krq hk rfl) ?_
      refine wcV (pc := 17) (len_s := 3) rfl rfl (l := [some (.ref _), none, none, none, none]) rfl (wmV t_s (fun h3 hk t_s => ?_))
      replace t_s := t_s hk
      refine w_t (pc := 20) (e_s := (3, 1, 0, 0, 0, .null, [])) (y_s := (21, [some (.ref _), some (.int _)], [.ref _], _)) rfl (u_ rfl) ?_
      refine w20r (pc := 21) (len_s := 3) (q_s := 7) rfl (krq hk rfl) ?_
      refine w20r (pc := 24) (len_s := 3) (q_s := 12) rfl (krq hk rfl) ?_
      refine w_t (pc := 27) (e_s := (1, 1, 1, 0, 0, .null, [])) (y_s := (28, [some (.ref _), some (.int _)], [.int _, .ref _], _)) rfl (u_ rfl) ?_
      refine w22 (pc := 28) (len_s := 1) rfl (hk.1 12 0 6 rfl rfl) (fun c4_s => ?_)
      replace t_s := t_s c4_s
      exact wrI (pc := 29) (len_s := 1) rfl hk t_s
    · replace t_s := t_s.2 c2_s
      refine w_t (pc := 16) (e_s := (0, 1, 0, 0, 0, .int 0, [])) (y_s := (17, [some (.ref _), some (.int _)], [.int _], _)) rfl (u_ rfl) ?_
      refine wrI (pc := 17) (len_s := 1) rfl hk ?_
      show wF _ 107 (8, [some (.ref _), some (.int _)], [.int _], _) _
      refine w_t (pc := 8) (e_s := (15, 3, 13, 1, 0, .null, [])) (y_s := (11, [some (.ref _), some (.int _)], [], _)) rfl (u_ rfl) ?_
      refine w_t (pc := 11) (e_s := (0, 1, 0, 0, 0, .int (-1), [])) (y_s := (12, [some (.ref _), some (.int _)], [.int _], _)) rfl (u_ rfl) ?_
      exact wrI (pc := 12) (len_s := 1) rfl hk t_s
/-- ColdShodModel.asks(I)I, from 0 on -/
theorem sg_199_0 {F_s : Nat} {x1_s : Int32} {h_s : zH} {K_s : Int32 → zH → Prop} (hk : hKn h_s) (t_s : (x1_s.toInt < 0 → K_s (-1) h_s) ∧ (¬ x1_s.toInt < 0 → ((((h_s.2.1 102 6) - 1).toInt < x1_s.toInt → K_s (-1) h_s) ∧ (¬ ((h_s.2.1 102 6) - 1).toInt < x1_s.toInt → wF F_s 198 (0, [some (.ref 102), none, none, none, none], [], h_s) (gV (fun h3 => hKn h3 → wF F_s 197 (0, [some (.ref 102), some (.int x1_s), none], [], h3) (gI (fun v4_s h4 => hKn h4 → (v4_s.toInt < 0 → K_s (-2) h4) ∧ (¬ v4_s.toInt < 0 → wF F_s 197 (0, [some (.ref 102), some (.int x1_s), none], [], h4) (gI (fun v6 h6 => hKn h6 → K_s v6 h6))))))))))) : wF (F_s + 1) 199 (0, [some (.ref 102), some (.int x1_s)], [], h_s) (gI K_s) := by
  refine w_0 (pc := 0) (e_s := (3, 1, 0, 0, 0, .null, [])) (y_s := (1, [some (.ref _), some (.int _)], [.ref _], _)) rfl (u_ rfl) ?_
  refine w_t (pc := 1) (e_s := (1, 1, 1, 0, 0, .null, [])) (y_s := (2, [some (.ref _), some (.int _)], [.int _, .ref _], _)) rfl (u_ rfl) ?_
  refine w_t (pc := 2) (e_s := (10, 1, 0, 0, 0, .null, [])) (y_s := (3, [some (.ref _), some (.int _)], [.long (Int32.toInt64 _), .ref _], _)) rfl (u_ rfl) ?_
  refine wcI (pc := 3) (len_s := 3) rfl rfl (l := [some (.ref _), some (.long _), none]) rfl ?_
  refine w_t (pc := 0) (e_s := (2, 1, 1, 0, 0, .null, [])) (y_s := (1, [some (.ref _), some (.long _), none], [.long _], _)) rfl (u_ rfl) ?_
  refine w_t (pc := 1) (e_s := (0, 1, 0, 0, 0, .long 0, [])) (y_s := (2, [some (.ref _), some (.long _), none], [.long _, .long _], _)) rfl (u_ rfl) ?_
  refine w_t (pc := 2) (e_s := (3, 1, 0, 0, 0, .null, [])) (y_s := (3, [some (.ref _), some (.long _), none], [.ref _, .long _, .long _], _)) rfl (u_ rfl) ?_
  refine w20 (pc := 3) (len_s := 3) rfl ?_
  refine w_t (pc := 6) (e_s := (0, 1, 0, 0, 0, .int 1, [])) (y_s := (7, [some (.ref _), some (.long _), none], [.int _, .int _, .long _, .long _], _)) rfl (u_ rfl) ?_
  refine w_t (pc := 7) (e_s := (7, 1, 0, 1, 0, .null, [])) (y_s := (8, [some (.ref _), some (.long _), none], [.int (_ - _), .long _, .long _], _)) rfl (u_ rfl) ?_
  refine w_t (pc := 8) (e_s := (10, 1, 0, 0, 0, .null, [])) (y_s := (9, [some (.ref _), some (.long _), none], [.long (Int32.toInt64 _), .long _, .long _], _)) rfl (u_ rfl) ?_
  refine wcI (pc := 9) (len_s := 3) rfl rfl (l := [some (.long _), none, some (.long _), none, some (.long _), none]) rfl ?_
  refine w_t (pc := 0) (e_s := (2, 1, 0, 0, 0, .null, [])) (y_s := (1, [some (.long _), none, some (.long _), none, some (.long _), none], [.long _], _)) rfl (u_ rfl) ?_
  refine w_t (pc := 1) (e_s := (2, 1, 2, 0, 0, .null, [])) (y_s := (2, [some (.long _), none, some (.long _), none, some (.long _), none], [.long _, .long _], _)) rfl (u_ rfl) ?_
  refine w_t (pc := 2) (e_s := (14, 1, 0, 0, 0, .null, [])) (y_s := (3, [some (.long _), none, some (.long _), none, some (.long _), none], [.int (lg_cmp _ _)], _)) rfl (u_ rfl) ?_
  refine wl2 (pc := 3) (len_s := 3) (Y := 0) rfl (Int32.toInt_toInt64 _) (by decide) (fun c1_s => ?_) (fun c1_s => ?_)
  · replace t_s := t_s.1 c1_s
    refine w_t (pc := 17) (e_s := (0, 1, 0, 0, 0, .int 0, [])) (y_s := (18, [some (.long _), none, some (.long _), none, some (.long _), none], [.int _], _)) rfl (u_ rfl) ?_
    refine wrI (pc := 18) (len_s := 1) rfl hk ?_
    show wF _ 151 (12, [some (.ref _), some (.long _), none], [.int _], _) _
    refine wrI (pc := 12) (len_s := 1) rfl hk ?_
    show wF _ 199 (6, [some (.ref _), some (.int _)], [.int _], _) _
    refine w_t (pc := 6) (e_s := (15, 3, 11, 1, 0, .null, [])) (y_s := (9, [some (.ref _), some (.int _)], [], _)) rfl (u_ rfl) ?_
    refine w_t (pc := 9) (e_s := (0, 1, 0, 0, 0, .int (-1), [])) (y_s := (10, [some (.ref _), some (.int _)], [.int _], _)) rfl (u_ rfl) ?_
    exact wrI (pc := 10) (len_s := 1) rfl hk t_s
  · replace t_s := t_s.2 c1_s
    refine w_t (pc := 6) (e_s := (2, 1, 0, 0, 0, .null, [])) (y_s := (7, [some (.long _), none, some (.long _), none, some (.long _), none], [.long _], _)) rfl (u_ rfl) ?_
    refine w_t (pc := 7) (e_s := (2, 2, 4, 0, 0, .null, [])) (y_s := (9, [some (.long _), none, some (.long _), none, some (.long _), none], [.long _, .long _], _)) rfl (u_ rfl) ?_
    refine w_t (pc := 9) (e_s := (14, 1, 0, 0, 0, .null, [])) (y_s := (10, [some (.long _), none, some (.long _), none, some (.long _), none], [.int (lg_cmp _ _)], _)) rfl (u_ rfl) ?_
    refine wl4 (pc := 10) (len_s := 3) rfl (Int32.toInt_toInt64 _) (Int32.toInt_toInt64 _) (fun c2_s => ?_) (fun c2_s => ?_)
    · replace t_s := t_s.1 c2_s
      refine w_t (pc := 17) (e_s := (0, 1, 0, 0, 0, .int 0, [])) (y_s := (18, [some (.long _), none, some (.long _), none, some (.long _), none], [.int _], _)) rfl (u_ rfl) ?_
      refine wrI (pc := 18) (len_s := 1) rfl hk ?_
      show wF _ 151 (12, [some (.ref _), some (.long _), none], [.int _], _) _
      refine wrI (pc := 12) (len_s := 1) rfl hk ?_
      show wF _ 199 (6, [some (.ref _), some (.int _)], [.int _], _) _
      refine w_t (pc := 6) (e_s := (15, 3, 11, 1, 0, .null, [])) (y_s := (9, [some (.ref _), some (.int _)], [], _)) rfl (u_ rfl) ?_
      refine w_t (pc := 9) (e_s := (0, 1, 0, 0, 0, .int (-1), [])) (y_s := (10, [some (.ref _), some (.int _)], [.int _], _)) rfl (u_ rfl) ?_
      exact wrI (pc := 10) (len_s := 1) rfl hk t_s
    · replace t_s := t_s.2 c2_s
      refine w_t (pc := 13) (e_s := (0, 1, 0, 0, 0, .int 1, [])) (y_s := (14, [some (.long _), none, some (.long _), none, some (.long _), none], [.int _], _)) rfl (u_ rfl) ?_
      refine w_t (pc := 14) (e_s := (17, 3, 18, 0, 0, .null, [])) (y_s := (18, [some (.long _), none, some (.long _), none, some (.long _), none], [.int _], _)) rfl (u_ rfl) ?_
      refine wrI (pc := 18) (len_s := 1) rfl hk ?_
      show wF _ 151 (12, [some (.ref _), some (.long _), none], [.int _], _) _
      refine wrI (pc := 12) (len_s := 1) rfl hk ?_
      show wF _ 199 (6, [some (.ref _), some (.int _)], [.int _], _) _
      refine w_t (pc := 6) (e_s := (15, 3, 11, 1, 0, .null, [])) (y_s := (11, [some (.ref _), some (.int _)], [], _)) rfl (u_ rfl) ?_
      refine w_t (pc := 11) (e_s := (3, 1, 0, 0, 0, .null, [])) (y_s := (12, [some (.ref _), some (.int _)], [.ref _], _)) rfl (u_ rfl) ?_
      refine wcV (pc := 12) (len_s := 3) rfl rfl (l := [some (.ref _), none, none, none, none]) rfl (wmV t_s (fun h3 hk t_s => ?_))
      replace t_s := t_s hk
      refine w_t (pc := 15) (e_s := (3, 1, 0, 0, 0, .null, [])) (y_s := (16, [some (.ref _), some (.int _)], [.ref _], _)) rfl (u_ rfl) ?_
      refine w_t (pc := 16) (e_s := (1, 1, 1, 0, 0, .null, [])) (y_s := (17, [some (.ref _), some (.int _)], [.int _, .ref _], _)) rfl (u_ rfl) ?_
      refine wcI (pc := 17) (len_s := 3) rfl rfl (l := [some (.ref _), some (.int _), none]) rfl (wmI t_s (fun v4_s h4 hk t_s => ?_))
      replace t_s := t_s hk
      refine wq3 (pc := 20) (len_s := 3) rfl rfl (fun c5_s => ?_) (fun c5_s => ?_)
      · replace t_s := t_s.1 c5_s
        refine w_t (pc := 23) (e_s := (0, 2, 0, 0, 0, .int (-2), [])) (y_s := (25, [some (.ref _), some (.int _)], [.int _], _)) rfl (u_ rfl) ?_
        refine w_t (pc := 25) (e_s := (17, 3, 33, 0, 0, .null, [])) (y_s := (33, [some (.ref _), some (.int _)], [.int _], _)) rfl (u_ rfl) ?_
        exact wrI (pc := 33) (len_s := 1) rfl hk t_s
      · replace t_s := t_s.2 c5_s
        refine w_t (pc := 28) (e_s := (3, 1, 0, 0, 0, .null, [])) (y_s := (29, [some (.ref _), some (.int _)], [.ref _], _)) rfl (u_ rfl) ?_
        refine w_t (pc := 29) (e_s := (1, 1, 1, 0, 0, .null, [])) (y_s := (30, [some (.ref _), some (.int _)], [.int _, .ref _], _)) rfl (u_ rfl) ?_
        refine wcI (pc := 30) (len_s := 3) rfl rfl (l := [some (.ref _), some (.int _), none]) rfl (wmI t_s (fun v6 h6 hk t_s => ?_))
        replace t_s := t_s hk
        exact wrI (pc := 33) (len_s := 1) rfl hk t_s
/-- ColdShod.settled()I, from 0 on -/
theorem sg_108_0 {F_s : Nat}  {h_s : zH} {K_s : Int32 → zH → Prop} (hk : hKn h_s) (t_s : wF F_s 30 (0, [some (.ref 7), none, none, none], [], h_s) (gI (fun v1_s h1 => hKn h1 → (v1_s.toInt = 0 → K_s 0 h1) ∧ (¬ v1_s.toInt = 0 → K_s 1 h1)))) : wF (F_s + 1) 108 (0, [some (.ref 6)], [], h_s) (gI K_s) := by
  refine w_0 (pc := 0) (e_s := (3, 1, 0, 0, 0, .null, [])) (y_s := (1, [some (.ref _)], [.ref _], _)) rfl (u_ rfl) ?_
  refine w20r (pc := 1) (len_s := 3) (q_s := 7) rfl (krq hk rfl) ?_
  refine wcI (pc := 4) (len_s := 3) rfl rfl (l := [some (.ref _), none, none, none]) rfl (wmI t_s (fun v1_s h1 hk t_s => ?_))
  replace t_s := t_s hk
  refine wq0 (pc := 7) (len_s := 3) rfl rfl (fun c2_s => ?_) (fun c2_s => ?_)
  · replace t_s := t_s.1 c2_s
    refine w_t (pc := 14) (e_s := (0, 1, 0, 0, 0, .int 0, [])) (y_s := (15, [some (.ref _)], [.int _], _)) rfl (u_ rfl) ?_
    exact wrI (pc := 15) (len_s := 1) rfl hk t_s
  · replace t_s := t_s.2 c2_s
    refine w_t (pc := 10) (e_s := (0, 1, 0, 0, 0, .int 1, [])) (y_s := (11, [some (.ref _)], [.int _], _)) rfl (u_ rfl) ?_
    refine w_t (pc := 11) (e_s := (17, 3, 15, 0, 0, .null, [])) (y_s := (15, [some (.ref _)], [.int _], _)) rfl (u_ rfl) ?_
    exact wrI (pc := 15) (len_s := 1) rfl hk t_s
/-- ColdShod$Country.isSettled()Z, from 0 on -/
theorem sg_30_0 {F_s : Nat}  {h_s : zH} {K_s : Int32 → zH → Prop} (hk : hKn h_s) (t_s : wF F_s 240 (0, [some (.ref 12), some (.int (-2)), none, none], [], h_s) (gV (fun h1 => hKn h1 → wF F_s 30 (11, [some (.ref 7), some (.int 0), none, none], [], h1) (gI K_s)))) : wF (F_s + 1) 30 (0, [some (.ref 7), none, none, none], [], h_s) (gI K_s) := by
  refine w_0 (pc := 0) (e_s := (3, 1, 0, 0, 0, .null, [])) (y_s := (1, [some (.ref _), none, none, none], [.ref _], _)) rfl (u_ rfl) ?_
  refine w20r (pc := 1) (len_s := 3) (q_s := 12) rfl (krq hk rfl) ?_
  refine w_t (pc := 4) (e_s := (0, 2, 0, 0, 0, .int (-2), [])) (y_s := (6, [some (.ref _), none, none, none], [.int _, .ref _], _)) rfl (u_ rfl) ?_
  refine wcV (pc := 6) (len_s := 3) rfl rfl (l := [some (.ref _), some (.int _), none, none]) rfl (wmV t_s (fun h1 hk t_s => ?_))
  replace t_s := t_s hk
  refine w_t (pc := 9) (e_s := (0, 1, 0, 0, 0, .int 0, [])) (y_s := (10, [some (.ref _), none, none, none], [.int _], _)) rfl (u_ rfl) ?_
  refine w_t (pc := 10) (e_s := (4, 1, 1, 0, 0, .null, [])) (y_s := (11, [some (.ref _), some (.int _), none, none], [], _)) rfl (u_ rfl) ?_
  exact t_s
/-- ColdShod$Country.isSettled()Z, from 11 on -/
theorem sg_30_11 {F_s : Nat} {x1_s : Int32} {l2 l3 : Option Value} {h_s : zH} {K_s : Int32 → zH → Prop} (hk : hKn h_s) (t_s : (x1_s.toInt < (h_s.2.1 7 7).toInt → (zix x1_s < 8 → ((h_s.2.1 (20 + (zix x1_s)) 6).toInt < 0 → wF F_s 30 (11, [some (.ref 7), some (.int (x1_s + 1)), some (.int (h_s.2.1 (20 + (zix x1_s)) 6)), l3], [], h_s) (gI K_s)) ∧ (¬ (h_s.2.1 (20 + (zix x1_s)) 6).toInt < 0 → (((h_s.2.1 (20 + (zix x1_s)) 6).toInt < (h_s.2.1 7 6).toInt → (zix (h_s.2.1 (20 + (zix x1_s)) 6) < 6 → ((h_s.2.1 12 (zix (h_s.2.1 (20 + (zix x1_s)) 6))).toInt = -2 → wF F_s 30 (11, [some (.ref 7), some (.int (x1_s + 1)), some (.int (h_s.2.1 (20 + (zix x1_s)) 6)), l3], [], (h_s.1, zup h_s.2.1 12 (zix (h_s.2.1 (20 + (zix x1_s)) 6)) x1_s, h_s.2.2.1, h_s.2.2.2)) (gI K_s)) ∧ (¬ (h_s.2.1 12 (zix (h_s.2.1 (20 + (zix x1_s)) 6))).toInt = -2 → K_s 0 h_s))) ∧ (¬ (h_s.2.1 (20 + (zix x1_s)) 6).toInt < (h_s.2.1 7 6).toInt → wF F_s 30 (11, [some (.ref 7), some (.int (x1_s + 1)), some (.int (h_s.2.1 (20 + (zix x1_s)) 6)), l3], [], h_s) (gI K_s)))))) ∧ (¬ x1_s.toInt < (h_s.2.1 7 7).toInt → wF F_s 30 (68, [some (.ref 7), some (.int 0), l2, l3], [], h_s) (gI K_s))) : wF (F_s + 1) 30 (11, [some (.ref 7), some (.int x1_s), l2, l3], [], h_s) (gI K_s) := by
  refine w_0 (pc := 11) (e_s := (1, 1, 1, 0, 0, .null, [])) (y_s := (12, [some (.ref _), some (.int _), _, _], [.int _], _)) rfl (u_ rfl) ?_
  refine w_t (pc := 12) (e_s := (3, 1, 0, 0, 0, .null, [])) (y_s := (13, [some (.ref _), some (.int _), _, _], [.ref _, .int _], _)) rfl (u_ rfl) ?_
  refine w20 (pc := 13) (len_s := 3) rfl ?_
  refine wi3 (pc := 16) (len_s := 3) rfl rfl rfl (fun c1_s => ?_) (fun c1_s => ?_)
  · replace t_s := t_s.1 c1_s
    refine w_t (pc := 19) (e_s := (3, 1, 0, 0, 0, .null, [])) (y_s := (20, [some (.ref _), some (.int _), _, _], [.ref _], _)) rfl (u_ rfl) ?_
    refine w20r (pc := 20) (len_s := 3) (q_s := 10) rfl (krq hk rfl) ?_
    refine w_t (pc := 23) (e_s := (1, 1, 1, 0, 0, .null, [])) (y_s := (24, [some (.ref _), some (.int _), _, _], [.int _, .ref _], _)) rfl (u_ rfl) ?_
    refine w24 (g_s := fun j_ => 20 + j_) (pc := 24) (len_s := 1) hk rfl (hk.1 10 2 8 rfl rfl) kg10 (fun c2_s => ?_)
    replace t_s := t_s c2_s
    refine w20 (pc := 25) (len_s := 3) rfl ?_
    refine w_t (pc := 28) (e_s := (4, 1, 2, 0, 0, .null, [])) (y_s := (29, [some (.ref _), some (.int _), some (.int _), _], [], _)) rfl (u_ rfl) ?_
    refine w_t (pc := 29) (e_s := (3, 1, 0, 0, 0, .null, [])) (y_s := (30, [some (.ref _), some (.int _), some (.int _), _], [.ref _], _)) rfl (u_ rfl) ?_
    refine w_t (pc := 30) (e_s := (1, 1, 2, 0, 0, .null, [])) (y_s := (31, [some (.ref _), some (.int _), some (.int _), _], [.int _, .ref _], _)) rfl (u_ rfl) ?_
    refine wcI (pc := 31) (len_s := 3) rfl rfl (l := [some (.ref _), some (.int _)]) rfl ?_
    refine w_t (pc := 0) (e_s := (1, 1, 1, 0, 0, .null, [])) (y_s := (1, [some (.ref _), some (.int _)], [.int _], _)) rfl (u_ rfl) ?_
    refine wq2 (pc := 1) (len_s := 3) rfl rfl (fun c3_s => ?_) (fun c3_s => ?_)
    · replace t_s := t_s.1 c3_s
      refine w_t (pc := 16) (e_s := (0, 1, 0, 0, 0, .int 0, [])) (y_s := (17, [some (.ref _), some (.int _)], [.int _], _)) rfl (u_ rfl) ?_
      refine wrI (pc := 17) (len_s := 1) rfl hk ?_
      show wF _ 30 (34, [some (.ref _), some (.int _), some (.int _), _], [.int _], _) _
      refine w_t (pc := 34) (e_s := (15, 3, 40, 1, 0, .null, [])) (y_s := (37, [some (.ref _), some (.int _), some (.int _), _], [], _)) rfl (u_ rfl) ?_
      refine w_t (pc := 37) (e_s := (17, 3, 60, 0, 0, .null, [])) (y_s := (60, [some (.ref _), some (.int _), some (.int _), _], [], _)) rfl (u_ rfl) ?_
      refine w_t (pc := 60) (e_s := (19, 3, 1, 0, 0, .int 1, [])) (y_s := (63, [some (.ref _), some (.int _), some (.int _), _], [], _)) rfl (u_ rfl) ?_
      refine w_t (pc := 63) (e_s := (17, 3, 11, 0, 0, .null, [])) (y_s := (11, [some (.ref _), some (.int _), some (.int _), _], [], _)) rfl (u_ rfl) ?_
      exact t_s
    · replace t_s := t_s.2 c3_s
      refine w_t (pc := 4) (e_s := (1, 1, 1, 0, 0, .null, [])) (y_s := (5, [some (.ref _), some (.int _)], [.int _], _)) rfl (u_ rfl) ?_
      refine w_t (pc := 5) (e_s := (3, 1, 0, 0, 0, .null, [])) (y_s := (6, [some (.ref _), some (.int _)], [.ref _, .int _], _)) rfl (u_ rfl) ?_
      refine w20 (pc := 6) (len_s := 3) rfl ?_
      refine wi3 (pc := 9) (len_s := 3) rfl rfl rfl (fun c4_s => ?_) (fun c4_s => ?_)
      · replace t_s := t_s.1 c4_s
        refine w_t (pc := 12) (e_s := (0, 1, 0, 0, 0, .int 1, [])) (y_s := (13, [some (.ref _), some (.int _)], [.int _], _)) rfl (u_ rfl) ?_
        refine w_t (pc := 13) (e_s := (17, 3, 17, 0, 0, .null, [])) (y_s := (17, [some (.ref _), some (.int _)], [.int _], _)) rfl (u_ rfl) ?_
        refine wrI (pc := 17) (len_s := 1) rfl hk ?_
        show wF _ 30 (34, [some (.ref _), some (.int _), some (.int _), _], [.int _], _) _
        refine w_t (pc := 34) (e_s := (15, 3, 40, 1, 0, .null, [])) (y_s := (40, [some (.ref _), some (.int _), some (.int _), _], [], _)) rfl (u_ rfl) ?_
        refine w_t (pc := 40) (e_s := (3, 1, 0, 0, 0, .null, [])) (y_s := (41, [some (.ref _), some (.int _), some (.int _), _], [.ref _], _)) rfl (u_ rfl) ?_
        refine w20r (pc := 41) (len_s := 3) (q_s := 12) rfl (krq hk rfl) ?_
        refine w_t (pc := 44) (e_s := (1, 1, 2, 0, 0, .null, [])) (y_s := (45, [some (.ref _), some (.int _), some (.int _), _], [.int _, .ref _], _)) rfl (u_ rfl) ?_
        refine w22 (pc := 45) (len_s := 1) rfl (hk.1 12 0 6 rfl rfl) (fun c5_s => ?_)
        replace t_s := t_s c5_s
        refine w_t (pc := 46) (e_s := (0, 2, 0, 0, 0, .int (-2), [])) (y_s := (48, [some (.ref _), some (.int _), some (.int _), _], [.int _, .int _], _)) rfl (u_ rfl) ?_
        refine wi0 (pc := 48) (len_s := 3) (Y := -2) rfl rfl (by decide) (fun c6_s => ?_) (fun c6_s => ?_)
        · replace t_s := t_s.1 c6_s
          refine w_t (pc := 53) (e_s := (3, 1, 0, 0, 0, .null, [])) (y_s := (54, [some (.ref _), some (.int _), some (.int _), _], [.ref _], _)) rfl (u_ rfl) ?_
          refine w20r (pc := 54) (len_s := 3) (q_s := 12) rfl (krq hk rfl) ?_
          refine w_t (pc := 57) (e_s := (1, 1, 2, 0, 0, .null, [])) (y_s := (58, [some (.ref _), some (.int _), some (.int _), _], [.int _, .ref _], _)) rfl (u_ rfl) ?_
          refine w_t (pc := 58) (e_s := (1, 1, 1, 0, 0, .null, [])) (y_s := (59, [some (.ref _), some (.int _), some (.int _), _], [.int _, .int _, .ref _], _)) rfl (u_ rfl) ?_
          refine w25 (pc := 59) (len_s := 1) rfl (hk.1 12 0 6 rfl rfl) (fun c7_s => ?_)
          refine w_t (pc := 60) (e_s := (19, 3, 1, 0, 0, .int 1, [])) (y_s := (63, [some (.ref _), some (.int _), some (.int _), _], [], _)) rfl (u_ rfl) ?_
          refine w_t (pc := 63) (e_s := (17, 3, 11, 0, 0, .null, [])) (y_s := (11, [some (.ref _), some (.int _), some (.int _), _], [], _)) rfl (u_ rfl) ?_
          exact t_s
        · replace t_s := t_s.2 c6_s
          refine w_t (pc := 51) (e_s := (0, 1, 0, 0, 0, .int 0, [])) (y_s := (52, [some (.ref _), some (.int _), some (.int _), _], [.int _], _)) rfl (u_ rfl) ?_
          exact wrI (pc := 52) (len_s := 1) rfl hk t_s
      · replace t_s := t_s.2 c4_s
        refine w_t (pc := 16) (e_s := (0, 1, 0, 0, 0, .int 0, [])) (y_s := (17, [some (.ref _), some (.int _)], [.int _], _)) rfl (u_ rfl) ?_
        refine wrI (pc := 17) (len_s := 1) rfl hk ?_
        show wF _ 30 (34, [some (.ref _), some (.int _), some (.int _), _], [.int _], _) _
        refine w_t (pc := 34) (e_s := (15, 3, 40, 1, 0, .null, [])) (y_s := (37, [some (.ref _), some (.int _), some (.int _), _], [], _)) rfl (u_ rfl) ?_
        refine w_t (pc := 37) (e_s := (17, 3, 60, 0, 0, .null, [])) (y_s := (60, [some (.ref _), some (.int _), some (.int _), _], [], _)) rfl (u_ rfl) ?_
        refine w_t (pc := 60) (e_s := (19, 3, 1, 0, 0, .int 1, [])) (y_s := (63, [some (.ref _), some (.int _), some (.int _), _], [], _)) rfl (u_ rfl) ?_
        refine w_t (pc := 63) (e_s := (17, 3, 11, 0, 0, .null, [])) (y_s := (11, [some (.ref _), some (.int _), some (.int _), _], [], _)) rfl (u_ rfl) ?_
        exact t_s
  · replace t_s := t_s.2 c1_s
    refine w_t (pc := 66) (e_s := (0, 1, 0, 0, 0, .int 0, [])) (y_s := (67, [some (.ref _), some (.int _), _, _], [.int _], _)) rfl (u_ rfl) ?_
    refine w_t (pc := 67) (e_s := (4, 1, 1, 0, 0, .null, [])) (y_s := (68, [some (.ref _), some (.int _), _, _], [], _)) rfl (u_ rfl) ?_
    exact t_s
/-- ColdShod$Country.isSettled()Z, from 68 on -/
theorem sg_30_68 {F_s : Nat} {x1_s : Int32} {l2 l3 : Option Value} {h_s : zH} {K_s : Int32 → zH → Prop} (hk : hKn h_s) (t_s : (x1_s.toInt < (h_s.2.1 7 6).toInt → wF F_s 30 (78, [some (.ref 7), some (.int x1_s), some (.int 0), l3], [], h_s) (gI K_s)) ∧ (¬ x1_s.toInt < (h_s.2.1 7 6).toInt → K_s 1 h_s)) : wF (F_s + 1) 30 (68, [some (.ref 7), some (.int x1_s), l2, l3], [], h_s) (gI K_s) := by
  refine w_0 (pc := 68) (e_s := (1, 1, 1, 0, 0, .null, [])) (y_s := (69, [some (.ref _), some (.int _), _, _], [.int _], _)) rfl (u_ rfl) ?_
  refine w_t (pc := 69) (e_s := (3, 1, 0, 0, 0, .null, [])) (y_s := (70, [some (.ref _), some (.int _), _, _], [.ref _, .int _], _)) rfl (u_ rfl) ?_
  refine w20 (pc := 70) (len_s := 3) rfl ?_
  refine wi3 (pc := 73) (len_s := 3) rfl rfl rfl (fun c1_s => ?_) (fun c1_s => ?_)
  · replace t_s := t_s.1 c1_s
    refine w_t (pc := 76) (e_s := (0, 1, 0, 0, 0, .int 0, [])) (y_s := (77, [some (.ref _), some (.int _), _, _], [.int _], _)) rfl (u_ rfl) ?_
    refine w_t (pc := 77) (e_s := (4, 1, 2, 0, 0, .null, [])) (y_s := (78, [some (.ref _), some (.int _), some (.int _), _], [], _)) rfl (u_ rfl) ?_
    exact t_s
  · replace t_s := t_s.2 c1_s
    refine w_t (pc := 155) (e_s := (0, 1, 0, 0, 0, .int 1, [])) (y_s := (156, [some (.ref _), some (.int _), _, _], [.int _], _)) rfl (u_ rfl) ?_
    exact wrI (pc := 156) (len_s := 1) rfl hk t_s
/-- ColdShod$Country.isSettled()Z, from 78 on -/
theorem sg_30_78 {F_s : Nat} {x1_s x2_s : Int32} {l3 : Option Value} {h_s : zH} {K_s : Int32 → zH → Prop} (hk : hKn h_s) (t_s : (x2_s.toInt < (h_s.2.1 7 7).toInt → (zix x2_s < 8 → ((h_s.2.1 (20 + (zix x2_s)) 6).toInt = x1_s.toInt → wF F_s 30 (105, [some (.ref 7), some (.int x1_s), some (.int x2_s), some (.int 0)], [], h_s) (gI K_s)) ∧ (¬ (h_s.2.1 (20 + (zix x2_s)) 6).toInt = x1_s.toInt → wF F_s 30 (105, [some (.ref 7), some (.int x1_s), some (.int x2_s), some (.int 1)], [], h_s) (gI K_s)))) ∧ (¬ x2_s.toInt < (h_s.2.1 7 7).toInt → wF F_s 30 (68, [some (.ref 7), some (.int (x1_s + 1)), some (.int x2_s), l3], [], h_s) (gI K_s))) : wF (F_s + 1) 30 (78, [some (.ref 7), some (.int x1_s), some (.int x2_s), l3], [], h_s) (gI K_s) := by
  refine w_0 (pc := 78) (e_s := (1, 1, 2, 0, 0, .null, [])) (y_s := (79, [some (.ref _), some (.int _), some (.int _), _], [.int _], _)) rfl (u_ rfl) ?_
  refine w_t (pc := 79) (e_s := (3, 1, 0, 0, 0, .null, [])) (y_s := (80, [some (.ref _), some (.int _), some (.int _), _], [.ref _, .int _], _)) rfl (u_ rfl) ?_
  refine w20 (pc := 80) (len_s := 3) rfl ?_
  refine wi3 (pc := 83) (len_s := 3) rfl rfl rfl (fun c1_s => ?_) (fun c1_s => ?_)
  · replace t_s := t_s.1 c1_s
    refine w_t (pc := 86) (e_s := (3, 1, 0, 0, 0, .null, [])) (y_s := (87, [some (.ref _), some (.int _), some (.int _), _], [.ref _], _)) rfl (u_ rfl) ?_
    refine w20r (pc := 87) (len_s := 3) (q_s := 10) rfl (krq hk rfl) ?_
    refine w_t (pc := 90) (e_s := (1, 1, 2, 0, 0, .null, [])) (y_s := (91, [some (.ref _), some (.int _), some (.int _), _], [.int _, .ref _], _)) rfl (u_ rfl) ?_
    refine w24 (g_s := fun j_ => 20 + j_) (pc := 91) (len_s := 1) hk rfl (hk.1 10 2 8 rfl rfl) kg10 (fun c2_s => ?_)
    replace t_s := t_s c2_s
    refine w20 (pc := 92) (len_s := 3) rfl ?_
    refine w_t (pc := 95) (e_s := (1, 1, 1, 0, 0, .null, [])) (y_s := (96, [some (.ref _), some (.int _), some (.int _), _], [.int _, .int _], _)) rfl (u_ rfl) ?_
    refine wi0 (pc := 96) (len_s := 3) rfl rfl rfl (fun c3_s => ?_) (fun c3_s => ?_)
    · replace t_s := t_s.1 c3_s
      refine w_t (pc := 103) (e_s := (0, 1, 0, 0, 0, .int 0, [])) (y_s := (104, [some (.ref _), some (.int _), some (.int _), _], [.int _], _)) rfl (u_ rfl) ?_
      refine w_t (pc := 104) (e_s := (4, 1, 3, 0, 0, .null, [])) (y_s := (105, [some (.ref _), some (.int _), some (.int _), some (.int _)], [], _)) rfl (u_ rfl) ?_
      exact t_s
    · replace t_s := t_s.2 c3_s
      refine w_t (pc := 99) (e_s := (0, 1, 0, 0, 0, .int 1, [])) (y_s := (100, [some (.ref _), some (.int _), some (.int _), _], [.int _], _)) rfl (u_ rfl) ?_
      refine w_t (pc := 100) (e_s := (17, 3, 104, 0, 0, .null, [])) (y_s := (104, [some (.ref _), some (.int _), some (.int _), _], [.int _], _)) rfl (u_ rfl) ?_
      refine w_t (pc := 104) (e_s := (4, 1, 3, 0, 0, .null, [])) (y_s := (105, [some (.ref _), some (.int _), some (.int _), some (.int _)], [], _)) rfl (u_ rfl) ?_
      exact t_s
  · replace t_s := t_s.2 c1_s
    refine w_t (pc := 149) (e_s := (19, 3, 1, 0, 0, .int 1, [])) (y_s := (152, [some (.ref _), some (.int _), some (.int _), _], [], _)) rfl (u_ rfl) ?_
    refine w_t (pc := 152) (e_s := (17, 3, 68, 0, 0, .null, [])) (y_s := (68, [some (.ref _), some (.int _), some (.int _), _], [], _)) rfl (u_ rfl) ?_
    exact t_s
/-- ColdShod$Country.isSettled()Z, from 105 on -/
theorem sg_30_105 {F_s : Nat} {x1_s x2_s x3 : Int32} {h_s : zH} {K_s : Int32 → zH → Prop} (hk : hKn h_s) (t_s : (x3.toInt = 0 → wF F_s 30 (78, [some (.ref 7), some (.int x1_s), some (.int (x2_s + 1)), some (.int x3)], [], h_s) (gI K_s)) ∧ (¬ x3.toInt = 0 → (zix x1_s < 6 → wF F_s 29 (0, [some (.ref 7), some (.int x1_s), some (.int x2_s), some (.int (h_s.2.1 12 (zix x1_s))), none, none], [], h_s) (gI (fun v3 h3 => hKn h3 → (v3.toInt = 0 → wF F_s 30 (78, [some (.ref 7), some (.int x1_s), some (.int (x2_s + 1)), some (.int x3)], [], h3) (gI K_s)) ∧ (¬ v3.toInt = 0 → (zix x2_s < 8 → wF F_s 28 (0, [some (.ref 7), some (.int x1_s), some (.int (h3.2.1 (20 + (zix x2_s)) 6))], [], h3) (gI (fun v6 h6 => hKn h6 → (v6.toInt = 0 → wF F_s 30 (78, [some (.ref 7), some (.int x1_s), some (.int (x2_s + 1)), some (.int x3)], [], h6) (gI K_s)) ∧ (¬ v6.toInt = 0 → K_s 0 h6)))))))))) : wF (F_s + 1) 30 (105, [some (.ref 7), some (.int x1_s), some (.int x2_s), some (.int x3)], [], h_s) (gI K_s) := by
  refine w_0 (pc := 105) (e_s := (1, 1, 3, 0, 0, .null, [])) (y_s := (106, [some (.ref _), some (.int _), some (.int _), some (.int _)], [.int _], _)) rfl (u_ rfl) ?_
  refine wq0 (pc := 106) (len_s := 3) rfl rfl (fun c1_s => ?_) (fun c1_s => ?_)
  · replace t_s := t_s.1 c1_s
    refine w_t (pc := 143) (e_s := (19, 3, 2, 0, 0, .int 1, [])) (y_s := (146, [some (.ref _), some (.int _), some (.int _), some (.int _)], [], _)) rfl (u_ rfl) ?_
    refine w_t (pc := 146) (e_s := (17, 3, 78, 0, 0, .null, [])) (y_s := (78, [some (.ref _), some (.int _), some (.int _), some (.int _)], [], _)) rfl (u_ rfl) ?_
    exact t_s
  · replace t_s := t_s.2 c1_s
    refine w_t (pc := 109) (e_s := (3, 1, 0, 0, 0, .null, [])) (y_s := (110, [some (.ref _), some (.int _), some (.int _), some (.int _)], [.ref _], _)) rfl (u_ rfl) ?_
    refine w_t (pc := 110) (e_s := (1, 1, 1, 0, 0, .null, [])) (y_s := (111, [some (.ref _), some (.int _), some (.int _), some (.int _)], [.int _, .ref _], _)) rfl (u_ rfl) ?_
    refine w_t (pc := 111) (e_s := (1, 1, 2, 0, 0, .null, [])) (y_s := (112, [some (.ref _), some (.int _), some (.int _), some (.int _)], [.int _, .int _, .ref _], _)) rfl (u_ rfl) ?_
    refine w_t (pc := 112) (e_s := (3, 1, 0, 0, 0, .null, [])) (y_s := (113, [some (.ref _), some (.int _), some (.int _), some (.int _)], [.ref _, .int _, .int _, .ref _], _)) rfl (u_ rfl) ?_
    refine w20r (pc := 113) (len_s := 3) (q_s := 12) rfl (krq hk rfl) ?_
    refine w_t (pc := 116) (e_s := (1, 1, 1, 0, 0, .null, [])) (y_s := (117, [some (.ref _), some (.int _), some (.int _), some (.int _)], [.int _, .ref _, .int _, .int _, .ref _], _)) rfl (u_ rfl) ?_
    refine w22 (pc := 117) (len_s := 1) rfl (hk.1 12 0 6 rfl rfl) (fun c2_s => ?_)
    replace t_s := t_s c2_s
    refine wcI (pc := 118) (len_s := 3) rfl rfl (l := [some (.ref _), some (.int _), some (.int _), some (.int _), none, none]) rfl (wmI t_s (fun v3 h3 hk t_s => ?_))
    replace t_s := t_s hk
    refine wq0 (pc := 121) (len_s := 3) rfl rfl (fun c4_s => ?_) (fun c4_s => ?_)
    · replace t_s := t_s.1 c4_s
      refine w_t (pc := 143) (e_s := (19, 3, 2, 0, 0, .int 1, [])) (y_s := (146, [some (.ref _), some (.int _), some (.int _), some (.int _)], [], _)) rfl (u_ rfl) ?_
      refine w_t (pc := 146) (e_s := (17, 3, 78, 0, 0, .null, [])) (y_s := (78, [some (.ref _), some (.int _), some (.int _), some (.int _)], [], _)) rfl (u_ rfl) ?_
      exact t_s
    · replace t_s := t_s.2 c4_s
      refine w_t (pc := 124) (e_s := (3, 1, 0, 0, 0, .null, [])) (y_s := (125, [some (.ref _), some (.int _), some (.int _), some (.int _)], [.ref _], _)) rfl (u_ rfl) ?_
      refine w_t (pc := 125) (e_s := (1, 1, 1, 0, 0, .null, [])) (y_s := (126, [some (.ref _), some (.int _), some (.int _), some (.int _)], [.int _, .ref _], _)) rfl (u_ rfl) ?_
      refine w_t (pc := 126) (e_s := (3, 1, 0, 0, 0, .null, [])) (y_s := (127, [some (.ref _), some (.int _), some (.int _), some (.int _)], [.ref _, .int _, .ref _], _)) rfl (u_ rfl) ?_
      refine w20r (pc := 127) (len_s := 3) (q_s := 10) rfl (krq hk rfl) ?_
      refine w_t (pc := 130) (e_s := (1, 1, 2, 0, 0, .null, [])) (y_s := (131, [some (.ref _), some (.int _), some (.int _), some (.int _)], [.int _, .ref _, .int _, .ref _], _)) rfl (u_ rfl) ?_
      refine w24 (g_s := fun j_ => 20 + j_) (pc := 131) (len_s := 1) hk rfl (hk.1 10 2 8 rfl rfl) kg10 (fun c5_s => ?_)
      replace t_s := t_s c5_s
      refine w20 (pc := 132) (len_s := 3) rfl ?_
      refine wcI (pc := 135) (len_s := 3) rfl rfl (l := [some (.ref _), some (.int _), some (.int _)]) rfl (wmI t_s (fun v6 h6 hk t_s => ?_))
      replace t_s := t_s hk
      refine wq0 (pc := 138) (len_s := 3) rfl rfl (fun c7_s => ?_) (fun c7_s => ?_)
      · replace t_s := t_s.1 c7_s
        refine w_t (pc := 143) (e_s := (19, 3, 2, 0, 0, .int 1, [])) (y_s := (146, [some (.ref _), some (.int _), some (.int _), some (.int _)], [], _)) rfl (u_ rfl) ?_
        refine w_t (pc := 146) (e_s := (17, 3, 78, 0, 0, .null, [])) (y_s := (78, [some (.ref _), some (.int _), some (.int _), some (.int _)], [], _)) rfl (u_ rfl) ?_
        exact t_s
      · replace t_s := t_s.2 c7_s
        refine w_t (pc := 141) (e_s := (0, 1, 0, 0, 0, .int 0, [])) (y_s := (142, [some (.ref _), some (.int _), some (.int _), some (.int _)], [.int _], _)) rfl (u_ rfl) ?_
        exact wrI (pc := 142) (len_s := 1) rfl hk t_s
/-- ColdShodModel.settled()I, from 0 on -/
theorem sg_200_0 {F_s : Nat}  {h_s : zH} {K_s : Int32 → zH → Prop} (hk : hKn h_s) (t_s : wF F_s 200 (2, [some (.ref 102), some (.int 0), none, none, none, none], [], h_s) (gI K_s)) : wF (F_s + 1) 200 (0, [some (.ref 102), none, none, none, none, none], [], h_s) (gI K_s) := by
  refine w_0 (pc := 0) (e_s := (0, 1, 0, 0, 0, .int 0, [])) (y_s := (1, [some (.ref _), none, none, none, none, none], [.int _], _)) rfl (u_ rfl) ?_
  refine w_t (pc := 1) (e_s := (4, 1, 1, 0, 0, .null, [])) (y_s := (2, [some (.ref _), some (.int _), none, none, none, none], [], _)) rfl (u_ rfl) ?_
  exact t_s
/-- ColdShodModel.settled()I, from 2 on -/
theorem sg_200_2 {F_s : Nat} {x1_s : Int32} {l2 l3 l4 l5 : Option Value} {h_s : zH} {K_s : Int32 → zH → Prop} (hk : hKn h_s) (t_s : (x1_s.toInt < (h_s.2.1 102 7).toInt → (zix (60 + x1_s) < 104 → (zix x1_s < 8 → wF F_s 200 (2, [some (.ref 102), some (.int (x1_s + 1)), l2, l3, l4, l5], [], (h_s.1, zup h_s.2.1 116 (zix x1_s) (h_s.2.1 103 (zix (60 + x1_s))), h_s.2.2.1, h_s.2.2.2)) (gI K_s)))) ∧ (¬ x1_s.toInt < (h_s.2.1 102 7).toInt → wF F_s 200 (33, [some (.ref 102), some (.int 0), l2, l3, l4, l5], [], h_s) (gI K_s))) : wF (F_s + 1) 200 (2, [some (.ref 102), some (.int x1_s), l2, l3, l4, l5], [], h_s) (gI K_s) := by
  refine w_0 (pc := 2) (e_s := (1, 1, 1, 0, 0, .null, [])) (y_s := (3, [some (.ref _), some (.int _), _, _, _, _], [.int _], _)) rfl (u_ rfl) ?_
  refine w_t (pc := 3) (e_s := (3, 1, 0, 0, 0, .null, [])) (y_s := (4, [some (.ref _), some (.int _), _, _, _, _], [.ref _, .int _], _)) rfl (u_ rfl) ?_
  refine w20 (pc := 4) (len_s := 3) rfl ?_
  refine wi3 (pc := 7) (len_s := 3) rfl rfl rfl (fun c1_s => ?_) (fun c1_s => ?_)
  · replace t_s := t_s.1 c1_s
    refine w_t (pc := 10) (e_s := (3, 1, 0, 0, 0, .null, [])) (y_s := (11, [some (.ref _), some (.int _), _, _, _, _], [.ref _], _)) rfl (u_ rfl) ?_
    refine w20r (pc := 11) (len_s := 3) (q_s := 116) rfl (krq hk rfl) ?_
    refine w_t (pc := 14) (e_s := (1, 1, 1, 0, 0, .null, [])) (y_s := (15, [some (.ref _), some (.int _), _, _, _, _], [.int _, .ref _], _)) rfl (u_ rfl) ?_
    refine w_t (pc := 15) (e_s := (3, 1, 0, 0, 0, .null, [])) (y_s := (16, [some (.ref _), some (.int _), _, _, _, _], [.ref _, .int _, .ref _], _)) rfl (u_ rfl) ?_
    refine w20r (pc := 16) (len_s := 3) (q_s := 103) rfl (krq hk rfl) ?_
    refine w_t (pc := 19) (e_s := (0, 2, 0, 0, 0, .int 60, [])) (y_s := (21, [some (.ref _), some (.int _), _, _, _, _], [.int _, .ref _, .int _, .ref _], _)) rfl (u_ rfl) ?_
    refine w_t (pc := 21) (e_s := (1, 1, 1, 0, 0, .null, [])) (y_s := (22, [some (.ref _), some (.int _), _, _, _, _], [.int _, .int _, .ref _, .int _, .ref _], _)) rfl (u_ rfl) ?_
    refine w_t (pc := 22) (e_s := (7, 1, 0, 0, 0, .null, [])) (y_s := (23, [some (.ref _), some (.int _), _, _, _, _], [.int (_ + _), .ref _, .int _, .ref _], _)) rfl (u_ rfl) ?_
    refine w22 (pc := 23) (len_s := 1) rfl (hk.1 103 0 104 rfl rfl) (fun c2_s => ?_)
    replace t_s := t_s c2_s
    refine w25 (pc := 24) (len_s := 1) rfl (hk.1 116 0 8 rfl rfl) (fun c3_s => ?_)
    replace t_s := t_s c3_s
    refine w_t (pc := 25) (e_s := (19, 3, 1, 0, 0, .int 1, [])) (y_s := (28, [some (.ref _), some (.int _), _, _, _, _], [], _)) rfl (u_ rfl) ?_
    refine w_t (pc := 28) (e_s := (17, 3, 2, 0, 0, .null, [])) (y_s := (2, [some (.ref _), some (.int _), _, _, _, _], [], _)) rfl (u_ rfl) ?_
    exact t_s
  · replace t_s := t_s.2 c1_s
    refine w_t (pc := 31) (e_s := (0, 1, 0, 0, 0, .int 0, [])) (y_s := (32, [some (.ref _), some (.int _), _, _, _, _], [.int _], _)) rfl (u_ rfl) ?_
    refine w_t (pc := 32) (e_s := (4, 1, 1, 0, 0, .null, [])) (y_s := (33, [some (.ref _), some (.int _), _, _, _, _], [], _)) rfl (u_ rfl) ?_
    exact t_s
/-- ColdShodModel.settled()I, from 33 on -/
theorem sg_200_33 {F_s : Nat} {x1_s : Int32} {l2 l3 l4 l5 : Option Value} {h_s : zH} {K_s : Int32 → zH → Prop} (hk : hKn h_s) (t_s : (x1_s.toInt < (h_s.2.1 102 7).toInt → wF F_s 200 (43, [some (.ref 102), some (.int x1_s), some (.int 0), l3, l4, l5], [], h_s) (gI K_s)) ∧ (¬ x1_s.toInt < (h_s.2.1 102 7).toInt → wF F_s 200 (88, [some (.ref 102), some (.int 0), l2, l3, l4, l5], [], h_s) (gI K_s))) : wF (F_s + 1) 200 (33, [some (.ref 102), some (.int x1_s), l2, l3, l4, l5], [], h_s) (gI K_s) := by
  refine w_0 (pc := 33) (e_s := (1, 1, 1, 0, 0, .null, [])) (y_s := (34, [some (.ref _), some (.int _), _, _, _, _], [.int _], _)) rfl (u_ rfl) ?_
  refine w_t (pc := 34) (e_s := (3, 1, 0, 0, 0, .null, [])) (y_s := (35, [some (.ref _), some (.int _), _, _, _, _], [.ref _, .int _], _)) rfl (u_ rfl) ?_
  refine w20 (pc := 35) (len_s := 3) rfl ?_
  refine wi3 (pc := 38) (len_s := 3) rfl rfl rfl (fun c1_s => ?_) (fun c1_s => ?_)
  · replace t_s := t_s.1 c1_s
    refine w_t (pc := 41) (e_s := (0, 1, 0, 0, 0, .int 0, [])) (y_s := (42, [some (.ref _), some (.int _), _, _, _, _], [.int _], _)) rfl (u_ rfl) ?_
    refine w_t (pc := 42) (e_s := (4, 1, 2, 0, 0, .null, [])) (y_s := (43, [some (.ref _), some (.int _), some (.int _), _, _, _], [], _)) rfl (u_ rfl) ?_
    exact t_s
  · replace t_s := t_s.2 c1_s
    refine w_t (pc := 86) (e_s := (0, 1, 0, 0, 0, .int 0, [])) (y_s := (87, [some (.ref _), some (.int _), _, _, _, _], [.int _], _)) rfl (u_ rfl) ?_
    refine w_t (pc := 87) (e_s := (4, 1, 1, 0, 0, .null, [])) (y_s := (88, [some (.ref _), some (.int _), _, _, _, _], [], _)) rfl (u_ rfl) ?_
    exact t_s
/-- ColdShodModel.settled()I, from 43 on -/
theorem sg_200_43 {F_s : Nat} {x1_s x2_s : Int32} {l3 l4 l5 : Option Value} {h_s : zH} {K_s : Int32 → zH → Prop} (hk : hKn h_s) (t_s : (x2_s.toInt < x1_s.toInt → (zix x1_s < 8 → ((h_s.2.1 116 (zix x1_s)).toInt < 0 → wF F_s 200 (43, [some (.ref 102), some (.int x1_s), some (.int (x2_s + 1)), l3, l4, l5], [], h_s) (gI K_s)) ∧ (¬ (h_s.2.1 116 (zix x1_s)).toInt < 0 → (zix x2_s < 8 → ((h_s.2.1 116 (zix x1_s)).toInt = (h_s.2.1 116 (zix x2_s)).toInt → K_s 0 h_s) ∧ (¬ (h_s.2.1 116 (zix x1_s)).toInt = (h_s.2.1 116 (zix x2_s)).toInt → wF F_s 200 (43, [some (.ref 102), some (.int x1_s), some (.int (x2_s + 1)), l3, l4, l5], [], h_s) (gI K_s)))))) ∧ (¬ x2_s.toInt < x1_s.toInt → wF F_s 200 (33, [some (.ref 102), some (.int (x1_s + 1)), some (.int x2_s), l3, l4, l5], [], h_s) (gI K_s))) : wF (F_s + 1) 200 (43, [some (.ref 102), some (.int x1_s), some (.int x2_s), l3, l4, l5], [], h_s) (gI K_s) := by
  refine w_0 (pc := 43) (e_s := (1, 1, 2, 0, 0, .null, [])) (y_s := (44, [some (.ref _), some (.int _), some (.int _), _, _, _], [.int _], _)) rfl (u_ rfl) ?_
  refine w_t (pc := 44) (e_s := (1, 1, 1, 0, 0, .null, [])) (y_s := (45, [some (.ref _), some (.int _), some (.int _), _, _, _], [.int _, .int _], _)) rfl (u_ rfl) ?_
  refine wi3 (pc := 45) (len_s := 3) rfl rfl rfl (fun c1_s => ?_) (fun c1_s => ?_)
  · replace t_s := t_s.1 c1_s
    refine w_t (pc := 48) (e_s := (3, 1, 0, 0, 0, .null, [])) (y_s := (49, [some (.ref _), some (.int _), some (.int _), _, _, _], [.ref _], _)) rfl (u_ rfl) ?_
    refine w20r (pc := 49) (len_s := 3) (q_s := 116) rfl (krq hk rfl) ?_
    refine w_t (pc := 52) (e_s := (1, 1, 1, 0, 0, .null, [])) (y_s := (53, [some (.ref _), some (.int _), some (.int _), _, _, _], [.int _, .ref _], _)) rfl (u_ rfl) ?_
    refine w22 (pc := 53) (len_s := 1) rfl (hk.1 116 0 8 rfl rfl) (fun c2_s => ?_)
    replace t_s := t_s c2_s
    refine wq2 (pc := 54) (len_s := 3) rfl rfl (fun c3_s => ?_) (fun c3_s => ?_)
    · replace t_s := t_s.1 c3_s
      refine w_t (pc := 74) (e_s := (19, 3, 2, 0, 0, .int 1, [])) (y_s := (77, [some (.ref _), some (.int _), some (.int _), _, _, _], [], _)) rfl (u_ rfl) ?_
      refine w_t (pc := 77) (e_s := (17, 3, 43, 0, 0, .null, [])) (y_s := (43, [some (.ref _), some (.int _), some (.int _), _, _, _], [], _)) rfl (u_ rfl) ?_
      exact t_s
    · replace t_s := t_s.2 c3_s
      refine w_t (pc := 57) (e_s := (3, 1, 0, 0, 0, .null, [])) (y_s := (58, [some (.ref _), some (.int _), some (.int _), _, _, _], [.ref _], _)) rfl (u_ rfl) ?_
      refine w20r (pc := 58) (len_s := 3) (q_s := 116) rfl (krq hk rfl) ?_
      refine w_t (pc := 61) (e_s := (1, 1, 1, 0, 0, .null, [])) (y_s := (62, [some (.ref _), some (.int _), some (.int _), _, _, _], [.int _, .ref _], _)) rfl (u_ rfl) ?_
      refine w22 (pc := 62) (len_s := 1) rfl (hk.1 116 0 8 rfl rfl) (fun c4_s => ?_)
      refine w_t (pc := 63) (e_s := (3, 1, 0, 0, 0, .null, [])) (y_s := (64, [some (.ref _), some (.int _), some (.int _), _, _, _], [.ref _, .int _], _)) rfl (u_ rfl) ?_
      refine w20r (pc := 64) (len_s := 3) (q_s := 116) rfl (krq hk rfl) ?_
      refine w_t (pc := 67) (e_s := (1, 1, 2, 0, 0, .null, [])) (y_s := (68, [some (.ref _), some (.int _), some (.int _), _, _, _], [.int _, .ref _, .int _], _)) rfl (u_ rfl) ?_
      refine w22 (pc := 68) (len_s := 1) rfl (hk.1 116 0 8 rfl rfl) (fun c5_s => ?_)
      replace t_s := t_s c5_s
      refine wi1 (pc := 69) (len_s := 3) rfl rfl rfl (fun c6_s => ?_) (fun c6_s => ?_)
      · replace t_s := t_s.1 c6_s
        refine w_t (pc := 72) (e_s := (0, 1, 0, 0, 0, .int 0, [])) (y_s := (73, [some (.ref _), some (.int _), some (.int _), _, _, _], [.int _], _)) rfl (u_ rfl) ?_
        exact wrI (pc := 73) (len_s := 1) rfl hk t_s
      · replace t_s := t_s.2 c6_s
        refine w_t (pc := 74) (e_s := (19, 3, 2, 0, 0, .int 1, [])) (y_s := (77, [some (.ref _), some (.int _), some (.int _), _, _, _], [], _)) rfl (u_ rfl) ?_
        refine w_t (pc := 77) (e_s := (17, 3, 43, 0, 0, .null, [])) (y_s := (43, [some (.ref _), some (.int _), some (.int _), _, _, _], [], _)) rfl (u_ rfl) ?_
        exact t_s
  · replace t_s := t_s.2 c1_s
    refine w_t (pc := 80) (e_s := (19, 3, 1, 0, 0, .int 1, [])) (y_s := (83, [some (.ref _), some (.int _), some (.int _), _, _, _], [], _)) rfl (u_ rfl) ?_
    refine w_t (pc := 83) (e_s := (17, 3, 33, 0, 0, .null, [])) (y_s := (33, [some (.ref _), some (.int _), some (.int _), _, _, _], [], _)) rfl (u_ rfl) ?_
    exact t_s
/-- ColdShodModel.settled()I, from 88 on -/
theorem sg_200_88 {F_s : Nat} {x1_s : Int32} {l2 l3 l4 l5 : Option Value} {h_s : zH} {K_s : Int32 → zH → Prop} (hk : hKn h_s) (t_s : (x1_s.toInt < (h_s.2.1 102 6).toInt → wF F_s 197 (0, [some (.ref 102), some (.int x1_s), none], [], h_s) (gI (fun v2 h2 => hKn h2 → wF F_s 200 (104, [some (.ref 102), some (.int x1_s), some (.int v2), some (.int 0), l4, l5], [], h2) (gI K_s)))) ∧ (¬ x1_s.toInt < (h_s.2.1 102 6).toInt → K_s 1 h_s)) : wF (F_s + 1) 200 (88, [some (.ref 102), some (.int x1_s), l2, l3, l4, l5], [], h_s) (gI K_s) := by
  refine w_0 (pc := 88) (e_s := (1, 1, 1, 0, 0, .null, [])) (y_s := (89, [some (.ref _), some (.int _), _, _, _, _], [.int _], _)) rfl (u_ rfl) ?_
  refine w_t (pc := 89) (e_s := (3, 1, 0, 0, 0, .null, [])) (y_s := (90, [some (.ref _), some (.int _), _, _, _, _], [.ref _, .int _], _)) rfl (u_ rfl) ?_
  refine w20 (pc := 90) (len_s := 3) rfl ?_
  refine wi3 (pc := 93) (len_s := 3) rfl rfl rfl (fun c1_s => ?_) (fun c1_s => ?_)
  · replace t_s := t_s.1 c1_s
    refine w_t (pc := 96) (e_s := (3, 1, 0, 0, 0, .null, [])) (y_s := (97, [some (.ref _), some (.int _), _, _, _, _], [.ref _], _)) rfl (u_ rfl) ?_
    refine w_t (pc := 97) (e_s := (1, 1, 1, 0, 0, .null, [])) (y_s := (98, [some (.ref _), some (.int _), _, _, _, _], [.int _, .ref _], _)) rfl (u_ rfl) ?_
    refine wcI (pc := 98) (len_s := 3) rfl rfl (l := [some (.ref _), some (.int _), none]) rfl (wmI t_s (fun v2 h2 hk t_s => ?_))
    replace t_s := t_s hk
    refine w_t (pc := 101) (e_s := (4, 1, 2, 0, 0, .null, [])) (y_s := (102, [some (.ref _), some (.int _), some (.int _), _, _, _], [], _)) rfl (u_ rfl) ?_
    refine w_t (pc := 102) (e_s := (0, 1, 0, 0, 0, .int 0, [])) (y_s := (103, [some (.ref _), some (.int _), some (.int _), _, _, _], [.int _], _)) rfl (u_ rfl) ?_
    refine w_t (pc := 103) (e_s := (4, 1, 3, 0, 0, .null, [])) (y_s := (104, [some (.ref _), some (.int _), some (.int _), some (.int _), _, _], [], _)) rfl (u_ rfl) ?_
    exact t_s
  · replace t_s := t_s.2 c1_s
    refine w_t (pc := 202) (e_s := (0, 1, 0, 0, 0, .int 1, [])) (y_s := (203, [some (.ref _), some (.int _), _, _, _, _], [.int _], _)) rfl (u_ rfl) ?_
    exact wrI (pc := 203) (len_s := 1) rfl hk t_s
/-- ColdShodModel.settled()I, from 104 on -/
theorem sg_200_104 {F_s : Nat} {x1_s x2_s x3 : Int32} {l4 l5 : Option Value} {h_s : zH} {K_s : Int32 → zH → Prop} (hk : hKn h_s) (t_s : (x3.toInt < (h_s.2.1 102 7).toInt → ((x2_s.toInt < 0 → wF F_s 200 (138, [some (.ref 102), some (.int x1_s), some (.int x2_s), some (.int x3), some (.int 1), l5], [], h_s) (gI K_s)) ∧ (¬ x2_s.toInt < 0 → ((x2_s.toInt = x3.toInt → wF F_s 200 (138, [some (.ref 102), some (.int x1_s), some (.int x2_s), some (.int x3), some (.int 0), l5], [], h_s) (gI K_s)) ∧ (¬ x2_s.toInt = x3.toInt → wF F_s 195 (0, [some (.ref 102), some (.int x1_s), some (.int x3), some (.int x2_s), none, none], [], h_s) (gI (fun v4_s h4 => hKn h4 → (v4_s.toInt = 0 → wF F_s 200 (138, [some (.ref 102), some (.int x1_s), some (.int x2_s), some (.int x3), some (.int 0), l5], [], h4) (gI K_s)) ∧ (¬ v4_s.toInt = 0 → wF F_s 200 (138, [some (.ref 102), some (.int x1_s), some (.int x2_s), some (.int x3), some (.int 1), l5], [], h4) (gI K_s))))))))) ∧ (¬ x3.toInt < (h_s.2.1 102 7).toInt → wF F_s 200 (88, [some (.ref 102), some (.int (x1_s + 1)), some (.int x2_s), some (.int x3), l4, l5], [], h_s) (gI K_s))) : wF (F_s + 1) 200 (104, [some (.ref 102), some (.int x1_s), some (.int x2_s), some (.int x3), l4, l5], [], h_s) (gI K_s) := by
  refine w_0 (pc := 104) (e_s := (1, 1, 3, 0, 0, .null, [])) (y_s := (105, [some (.ref _), some (.int _), some (.int _), some (.int _), _, _], [.int _], _)) rfl (u_ rfl) ?_
  refine w_t (pc := 105) (e_s := (3, 1, 0, 0, 0, .null, [])) (y_s := (106, [some (.ref _), some (.int _), some (.int _), some (.int _), _, _], [.ref _, .int _], _)) rfl (u_ rfl) ?_
  refine w20 (pc := 106) (len_s := 3) rfl ?_
  refine wi3 (pc := 109) (len_s := 3) rfl rfl rfl (fun c1_s => ?_) (fun c1_s => ?_)
  · replace t_s := t_s.1 c1_s
    refine w_t (pc := 112) (e_s := (1, 1, 2, 0, 0, .null, [])) (y_s := (113, [some (.ref _), some (.int _), some (.int _), some (.int _), _, _], [.int _], _)) rfl (u_ rfl) ?_
    refine wq2 (pc := 113) (len_s := 3) rfl rfl (fun c2_s => ?_) (fun c2_s => ?_)
    · replace t_s := t_s.1 c2_s
      refine w_t (pc := 131) (e_s := (0, 1, 0, 0, 0, .int 1, [])) (y_s := (132, [some (.ref _), some (.int _), some (.int _), some (.int _), _, _], [.int _], _)) rfl (u_ rfl) ?_
      refine w_t (pc := 132) (e_s := (17, 3, 136, 0, 0, .null, [])) (y_s := (136, [some (.ref _), some (.int _), some (.int _), some (.int _), _, _], [.int _], _)) rfl (u_ rfl) ?_
      refine w_t (pc := 136) (e_s := (4, 2, 4, 0, 0, .null, [])) (y_s := (138, [some (.ref _), some (.int _), some (.int _), some (.int _), some (.int _), _], [], _)) rfl (u_ rfl) ?_
      exact t_s
    · replace t_s := t_s.2 c2_s
      refine w_t (pc := 116) (e_s := (1, 1, 2, 0, 0, .null, [])) (y_s := (117, [some (.ref _), some (.int _), some (.int _), some (.int _), _, _], [.int _], _)) rfl (u_ rfl) ?_
      refine w_t (pc := 117) (e_s := (1, 1, 3, 0, 0, .null, [])) (y_s := (118, [some (.ref _), some (.int _), some (.int _), some (.int _), _, _], [.int _, .int _], _)) rfl (u_ rfl) ?_
      refine wi0 (pc := 118) (len_s := 3) rfl rfl rfl (fun c3_s => ?_) (fun c3_s => ?_)
      · replace t_s := t_s.1 c3_s
        refine w_t (pc := 135) (e_s := (0, 1, 0, 0, 0, .int 0, [])) (y_s := (136, [some (.ref _), some (.int _), some (.int _), some (.int _), _, _], [.int _], _)) rfl (u_ rfl) ?_
        refine w_t (pc := 136) (e_s := (4, 2, 4, 0, 0, .null, [])) (y_s := (138, [some (.ref _), some (.int _), some (.int _), some (.int _), some (.int _), _], [], _)) rfl (u_ rfl) ?_
        exact t_s
      · replace t_s := t_s.2 c3_s
        refine w_t (pc := 121) (e_s := (3, 1, 0, 0, 0, .null, [])) (y_s := (122, [some (.ref _), some (.int _), some (.int _), some (.int _), _, _], [.ref _], _)) rfl (u_ rfl) ?_
        refine w_t (pc := 122) (e_s := (1, 1, 1, 0, 0, .null, [])) (y_s := (123, [some (.ref _), some (.int _), some (.int _), some (.int _), _, _], [.int _, .ref _], _)) rfl (u_ rfl) ?_
        refine w_t (pc := 123) (e_s := (1, 1, 3, 0, 0, .null, [])) (y_s := (124, [some (.ref _), some (.int _), some (.int _), some (.int _), _, _], [.int _, .int _, .ref _], _)) rfl (u_ rfl) ?_
        refine w_t (pc := 124) (e_s := (1, 1, 2, 0, 0, .null, [])) (y_s := (125, [some (.ref _), some (.int _), some (.int _), some (.int _), _, _], [.int _, .int _, .int _, .ref _], _)) rfl (u_ rfl) ?_
        refine wcI (pc := 125) (len_s := 3) rfl rfl (l := [some (.ref _), some (.int _), some (.int _), some (.int _), none, none]) rfl (wmI t_s (fun v4_s h4 hk t_s => ?_))
        replace t_s := t_s hk
        refine wq0 (pc := 128) (len_s := 3) rfl rfl (fun c5_s => ?_) (fun c5_s => ?_)
        · replace t_s := t_s.1 c5_s
          refine w_t (pc := 135) (e_s := (0, 1, 0, 0, 0, .int 0, [])) (y_s := (136, [some (.ref _), some (.int _), some (.int _), some (.int _), _, _], [.int _], _)) rfl (u_ rfl) ?_
          refine w_t (pc := 136) (e_s := (4, 2, 4, 0, 0, .null, [])) (y_s := (138, [some (.ref _), some (.int _), some (.int _), some (.int _), some (.int _), _], [], _)) rfl (u_ rfl) ?_
          exact t_s
        · replace t_s := t_s.2 c5_s
          refine w_t (pc := 131) (e_s := (0, 1, 0, 0, 0, .int 1, [])) (y_s := (132, [some (.ref _), some (.int _), some (.int _), some (.int _), _, _], [.int _], _)) rfl (u_ rfl) ?_
          refine w_t (pc := 132) (e_s := (17, 3, 136, 0, 0, .null, [])) (y_s := (136, [some (.ref _), some (.int _), some (.int _), some (.int _), _, _], [.int _], _)) rfl (u_ rfl) ?_
          refine w_t (pc := 136) (e_s := (4, 2, 4, 0, 0, .null, [])) (y_s := (138, [some (.ref _), some (.int _), some (.int _), some (.int _), some (.int _), _], [], _)) rfl (u_ rfl) ?_
          exact t_s
  · replace t_s := t_s.2 c1_s
    refine w_t (pc := 196) (e_s := (19, 3, 1, 0, 0, .int 1, [])) (y_s := (199, [some (.ref _), some (.int _), some (.int _), some (.int _), _, _], [], _)) rfl (u_ rfl) ?_
    refine w_t (pc := 199) (e_s := (17, 3, 88, 0, 0, .null, [])) (y_s := (88, [some (.ref _), some (.int _), some (.int _), some (.int _), _, _], [], _)) rfl (u_ rfl) ?_
    exact t_s
/-- ColdShodModel.settled()I, from 138 on -/
theorem sg_200_138 {F_s : Nat} {x1_s x2_s x3 x4_s : Int32} {l5 : Option Value} {h_s : zH} {K_s : Int32 → zH → Prop} (hk : hKn h_s) (t_s : (zix x3 < 8 → ((h_s.2.1 116 (zix x3)).toInt < 0 → wF F_s 200 (178, [some (.ref 102), some (.int x1_s), some (.int x2_s), some (.int x3), some (.int x4_s), some (.int 1)], [], h_s) (gI K_s)) ∧ (¬ (h_s.2.1 116 (zix x3)).toInt < 0 → (((h_s.2.1 116 (zix x3)).toInt = x1_s.toInt → wF F_s 200 (178, [some (.ref 102), some (.int x1_s), some (.int x2_s), some (.int x3), some (.int x4_s), some (.int 0)], [], h_s) (gI K_s)) ∧ (¬ (h_s.2.1 116 (zix x3)).toInt = x1_s.toInt → wF F_s 196 (0, [some (.ref 102), some (.int x1_s), some (.int (h_s.2.1 116 (zix x3)))], [], h_s) (gI (fun v6 h6 => hKn h6 → (v6.toInt = 0 → wF F_s 200 (178, [some (.ref 102), some (.int x1_s), some (.int x2_s), some (.int x3), some (.int x4_s), some (.int 0)], [], h6) (gI K_s)) ∧ (¬ v6.toInt = 0 → wF F_s 200 (178, [some (.ref 102), some (.int x1_s), some (.int x2_s), some (.int x3), some (.int x4_s), some (.int 1)], [], h6) (gI K_s))))))))) : wF (F_s + 1) 200 (138, [some (.ref 102), some (.int x1_s), some (.int x2_s), some (.int x3), some (.int x4_s), l5], [], h_s) (gI K_s) := by
  refine w_0 (pc := 138) (e_s := (3, 1, 0, 0, 0, .null, [])) (y_s := (139, [some (.ref _), some (.int _), some (.int _), some (.int _), some (.int _), _], [.ref _], _)) rfl (u_ rfl) ?_
  refine w20r (pc := 139) (len_s := 3) (q_s := 116) rfl (krq hk rfl) ?_
  refine w_t (pc := 142) (e_s := (1, 1, 3, 0, 0, .null, [])) (y_s := (143, [some (.ref _), some (.int _), some (.int _), some (.int _), some (.int _), _], [.int _, .ref _], _)) rfl (u_ rfl) ?_
  refine w22 (pc := 143) (len_s := 1) rfl (hk.1 116 0 8 rfl rfl) (fun c1_s => ?_)
  replace t_s := t_s c1_s
  refine wq2 (pc := 144) (len_s := 3) rfl rfl (fun c2_s => ?_) (fun c2_s => ?_)
  · replace t_s := t_s.1 c2_s
    refine w_t (pc := 171) (e_s := (0, 1, 0, 0, 0, .int 1, [])) (y_s := (172, [some (.ref _), some (.int _), some (.int _), some (.int _), some (.int _), _], [.int _], _)) rfl (u_ rfl) ?_
    refine w_t (pc := 172) (e_s := (17, 3, 176, 0, 0, .null, [])) (y_s := (176, [some (.ref _), some (.int _), some (.int _), some (.int _), some (.int _), _], [.int _], _)) rfl (u_ rfl) ?_
    refine w_t (pc := 176) (e_s := (4, 2, 5, 0, 0, .null, [])) (y_s := (178, [some (.ref _), some (.int _), some (.int _), some (.int _), some (.int _), some (.int _)], [], _)) rfl (u_ rfl) ?_
    exact t_s
  · replace t_s := t_s.2 c2_s
    refine w_t (pc := 147) (e_s := (3, 1, 0, 0, 0, .null, [])) (y_s := (148, [some (.ref _), some (.int _), some (.int _), some (.int _), some (.int _), _], [.ref _], _)) rfl (u_ rfl) ?_
    refine w20r (pc := 148) (len_s := 3) (q_s := 116) rfl (krq hk rfl) ?_
    refine w_t (pc := 151) (e_s := (1, 1, 3, 0, 0, .null, [])) (y_s := (152, [some (.ref _), some (.int _), some (.int _), some (.int _), some (.int _), _], [.int _, .ref _], _)) rfl (u_ rfl) ?_
    refine w22 (pc := 152) (len_s := 1) rfl (hk.1 116 0 8 rfl rfl) (fun c3_s => ?_)
    refine w_t (pc := 153) (e_s := (1, 1, 1, 0, 0, .null, [])) (y_s := (154, [some (.ref _), some (.int _), some (.int _), some (.int _), some (.int _), _], [.int _, .int _], _)) rfl (u_ rfl) ?_
    refine wi0 (pc := 154) (len_s := 3) rfl rfl rfl (fun c4_s => ?_) (fun c4_s => ?_)
    · replace t_s := t_s.1 c4_s
      refine w_t (pc := 175) (e_s := (0, 1, 0, 0, 0, .int 0, [])) (y_s := (176, [some (.ref _), some (.int _), some (.int _), some (.int _), some (.int _), _], [.int _], _)) rfl (u_ rfl) ?_
      refine w_t (pc := 176) (e_s := (4, 2, 5, 0, 0, .null, [])) (y_s := (178, [some (.ref _), some (.int _), some (.int _), some (.int _), some (.int _), some (.int _)], [], _)) rfl (u_ rfl) ?_
      exact t_s
    · replace t_s := t_s.2 c4_s
      refine w_t (pc := 157) (e_s := (3, 1, 0, 0, 0, .null, [])) (y_s := (158, [some (.ref _), some (.int _), some (.int _), some (.int _), some (.int _), _], [.ref _], _)) rfl (u_ rfl) ?_
      refine w_t (pc := 158) (e_s := (1, 1, 1, 0, 0, .null, [])) (y_s := (159, [some (.ref _), some (.int _), some (.int _), some (.int _), some (.int _), _], [.int _, .ref _], _)) rfl (u_ rfl) ?_
      refine w_t (pc := 159) (e_s := (3, 1, 0, 0, 0, .null, [])) (y_s := (160, [some (.ref _), some (.int _), some (.int _), some (.int _), some (.int _), _], [.ref _, .int _, .ref _], _)) rfl (u_ rfl) ?_
      refine w20r (pc := 160) (len_s := 3) (q_s := 116) rfl (krq hk rfl) ?_
      refine w_t (pc := 163) (e_s := (1, 1, 3, 0, 0, .null, [])) (y_s := (164, [some (.ref _), some (.int _), some (.int _), some (.int _), some (.int _), _], [.int _, .ref _, .int _, .ref _], _)) rfl (u_ rfl) ?_
      refine w22 (pc := 164) (len_s := 1) rfl (hk.1 116 0 8 rfl rfl) (fun c5_s => ?_)
      refine wcI (pc := 165) (len_s := 3) rfl rfl (l := [some (.ref _), some (.int _), some (.int _)]) rfl (wmI t_s (fun v6 h6 hk t_s => ?_))
      replace t_s := t_s hk
      refine wq0 (pc := 168) (len_s := 3) rfl rfl (fun c7_s => ?_) (fun c7_s => ?_)
      · replace t_s := t_s.1 c7_s
        refine w_t (pc := 175) (e_s := (0, 1, 0, 0, 0, .int 0, [])) (y_s := (176, [some (.ref _), some (.int _), some (.int _), some (.int _), some (.int _), _], [.int _], _)) rfl (u_ rfl) ?_
        refine w_t (pc := 176) (e_s := (4, 2, 5, 0, 0, .null, [])) (y_s := (178, [some (.ref _), some (.int _), some (.int _), some (.int _), some (.int _), some (.int _)], [], _)) rfl (u_ rfl) ?_
        exact t_s
      · replace t_s := t_s.2 c7_s
        refine w_t (pc := 171) (e_s := (0, 1, 0, 0, 0, .int 1, [])) (y_s := (172, [some (.ref _), some (.int _), some (.int _), some (.int _), some (.int _), _], [.int _], _)) rfl (u_ rfl) ?_
        refine w_t (pc := 172) (e_s := (17, 3, 176, 0, 0, .null, [])) (y_s := (176, [some (.ref _), some (.int _), some (.int _), some (.int _), some (.int _), _], [.int _], _)) rfl (u_ rfl) ?_
        refine w_t (pc := 176) (e_s := (4, 2, 5, 0, 0, .null, [])) (y_s := (178, [some (.ref _), some (.int _), some (.int _), some (.int _), some (.int _), some (.int _)], [], _)) rfl (u_ rfl) ?_
        exact t_s
/-- ColdShodModel.settled()I, from 178 on -/
theorem sg_200_178 {F_s : Nat} {x1_s x2_s x3 x4_s x5_s : Int32} {h_s : zH} {K_s : Int32 → zH → Prop} (hk : hKn h_s) (t_s : (x4_s.toInt = 0 → wF F_s 200 (104, [some (.ref 102), some (.int x1_s), some (.int x2_s), some (.int (x3 + 1)), some (.int x4_s), some (.int x5_s)], [], h_s) (gI K_s)) ∧ (¬ x4_s.toInt = 0 → ((x5_s.toInt = 0 → wF F_s 200 (104, [some (.ref 102), some (.int x1_s), some (.int x2_s), some (.int (x3 + 1)), some (.int x4_s), some (.int x5_s)], [], h_s) (gI K_s)) ∧ (¬ x5_s.toInt = 0 → K_s 0 h_s)))) : wF (F_s + 1) 200 (178, [some (.ref 102), some (.int x1_s), some (.int x2_s), some (.int x3), some (.int x4_s), some (.int x5_s)], [], h_s) (gI K_s) := by
  refine w_0 (pc := 178) (e_s := (1, 2, 4, 0, 0, .null, [])) (y_s := (180, [some (.ref _), some (.int _), some (.int _), some (.int _), some (.int _), some (.int _)], [.int _], _)) rfl (u_ rfl) ?_
  refine wq0 (pc := 180) (len_s := 3) rfl rfl (fun c1_s => ?_) (fun c1_s => ?_)
  · replace t_s := t_s.1 c1_s
    refine w_t (pc := 190) (e_s := (19, 3, 3, 0, 0, .int 1, [])) (y_s := (193, [some (.ref _), some (.int _), some (.int _), some (.int _), some (.int _), some (.int _)], [], _)) rfl (u_ rfl) ?_
    refine w_t (pc := 193) (e_s := (17, 3, 104, 0, 0, .null, [])) (y_s := (104, [some (.ref _), some (.int _), some (.int _), some (.int _), some (.int _), some (.int _)], [], _)) rfl (u_ rfl) ?_
    exact t_s
  · replace t_s := t_s.2 c1_s
    refine w_t (pc := 183) (e_s := (1, 2, 5, 0, 0, .null, [])) (y_s := (185, [some (.ref _), some (.int _), some (.int _), some (.int _), some (.int _), some (.int _)], [.int _], _)) rfl (u_ rfl) ?_
    refine wq0 (pc := 185) (len_s := 3) rfl rfl (fun c2_s => ?_) (fun c2_s => ?_)
    · replace t_s := t_s.1 c2_s
      refine w_t (pc := 190) (e_s := (19, 3, 3, 0, 0, .int 1, [])) (y_s := (193, [some (.ref _), some (.int _), some (.int _), some (.int _), some (.int _), some (.int _)], [], _)) rfl (u_ rfl) ?_
      refine w_t (pc := 193) (e_s := (17, 3, 104, 0, 0, .null, [])) (y_s := (104, [some (.ref _), some (.int _), some (.int _), some (.int _), some (.int _), some (.int _)], [], _)) rfl (u_ rfl) ?_
      exact t_s
    · replace t_s := t_s.2 c2_s
      refine w_t (pc := 188) (e_s := (0, 1, 0, 0, 0, .int 0, [])) (y_s := (189, [some (.ref _), some (.int _), some (.int _), some (.int _), some (.int _), some (.int _)], [.int _], _)) rfl (u_ rfl) ?_
      exact wrI (pc := 189) (len_s := 1) rfl hk t_s
/-! ASKS, SETTLED: class and reference. -/
section AQ
variable {h_s : zH} {x1_s : Int32}
theorem pr_asks {F_s : Nat} (hk : hKn h_s) (hx : tX h_s) : wF F_s 107 (0, [some (.ref 6), some (.int x1_s)], [], h_s) (gI (fun v_s h1 => wF F_s 199 (0, [some (.ref 102), some (.int x1_s)], [], h1) (gI (fun v2 _ => v_s = v2)))) := by
  obtain ⟨nh, ni, nr, hc_s, _, _, _, _, _⟩ := hx
  have b_s := hc_s.1
  have m0_s := tC_M hc_s
  have e6_s := hc_s.2.1.1
  have e26_s := sb1 m0_s.2.1.1
  have no_s : ¬ (0 ≤ x1_s.toInt ∧ x1_s.toInt < (nh : Int)) → wF F_s 199 (0, [some (.ref 102), some (.int x1_s)], [], h_s) (gI (fun v2 _ => (-1 : Int32) = v2)) := fun w_s => by
    refine wF_le (Nat.le_succ F_s) (sg_199_0 (h_s := h_s) hk ?_)
    rw [e26_s]
    exact ⟨fun _ => rfl, fun c1_s => ⟨fun _ => rfl, fun c2_s => absurd ⟨by omega, by omega⟩ w_s⟩⟩
  refine wF_le (Nat.le_succ F_s) (sg_107_0 (h_s := h_s) hk ?_)
  rw [e6_s]
  refine ⟨fun c1_s => no_s (by omega), fun c1_s => ⟨fun c2_s => ?_, fun c2_s => no_s (by omega)⟩⟩
  have z_s := azix (i := x1_s) (by omega)
  have hp : zix x1_s < nh := by omega
  refine sp_25 (f0_s := h_s.2.1) hk hc_s (fun f1_s S_s g1 hk1 => fun _ => ?_)
  dsimp only
  have g3_s : ∀ a_s k_s, 100 ≤ a_s → f1_s a_s k_s = h_s.2.1 a_s k_s := fun a_s k_s ha_s => g1 a_s k_s (by omega)
  have m1_s : tM nh ni nr f1_s := tM_fr (fun k_s _ _ => g3_s _ _ (by omega)) (fun k_s _ => g3_s _ _ (by omega)) m0_s
  have e261 := sb1 m1_s.2.1.1
  obtain ⟨ek, eh⟩ := ky_fr (f_s := f1_s) (f0_s := h_s.2.1) (fun k_s => g3_s 103 k_s (by omega))
  generalize zix x1_s = p_s at z_s hp
  refine wF_le (Nat.le_succ F_s) (sg_199_0 (h_s := (h_s.1, f1_s, h_s.2.2.1, h_s.2.2.2)) hk ?_)
  dsimp only
  rw [e261]
  refine ⟨fun c_s => absurd c_s (by omega), fun _ => ⟨fun c_s => absurd c_s (by omega), fun _ => ?_⟩⟩
  refine sp_198 (h_s := (h_s.1, f1_s, h_s.2.2.1, h_s.2.2.2)) (f0_s := f1_s) hk1 m1_s (fun f2_s fa G_s dn hk2 => ?_)
  rw [ek, eh] at G_s
  have T : ∀ i_s, i_s < ni → ((f1_s 12 p_s).toInt = (i_s : Int) ↔ hbF f2_s i_s = (p_s : Int)) := fun i_s hi_s => GS_SD (hk_inj m0_s) (hk_0 m0_s) G_s dn S_s ((hkI h_s.2.1 p_s).toNat + 1) p_s hp (by have := hk_0 m0_s p_s hp; omega) i_s hi_s
  have m2_s : tM nh ni nr f2_s := tM_fr (fun k_s _ _ => fa _ _ (by omega) (by omega)) (fun k_s _ => fa _ _ (by omega) (by omega)) m1_s
  have sd_s : (f1_s 12 p_s).toInt = -2 ∨ ∃ i_s : Nat, i_s < ni ∧ (f1_s 12 p_s).toInt = (i_s : Int) := by
    rcases S_s p_s hp with u_s | ⟨i_s, u1_s, u2_s, _⟩
    · exact Or.inl u_s.1
    · exact Or.inr ⟨i_s, u1_s, u2_s⟩
  refine sp_197 (h_s := (h_s.1, f2_s, h_s.2.2.1, h_s.2.2.2)) (f_s := f2_s) (p_s := p_s) hk2 m2_s (by omega) (fun v4_s hv _ => ⟨fun c_s => ?_, fun c_s => ?_⟩)
  · rcases hv with ⟨_, w_s⟩ | ⟨i_s, _, w_s, _⟩
    · rcases sd_s with u_s | ⟨i_s, u1_s, u2_s⟩
      · exact Int32.toInt_inj.mp u_s
      · exact absurd ((T i_s u1_s).mp u2_s) (w_s i_s u1_s)
    · omega
  · refine sp_197 (h_s := (h_s.1, f2_s, h_s.2.2.1, h_s.2.2.2)) (f_s := f2_s) (p_s := p_s) hk2 m2_s (by omega) (fun v6 hv6 _ => ?_)
    rcases hv6 with ⟨_, w_s⟩ | ⟨i_s, w0_s, w1_s, w2_s⟩
    · rcases hv with ⟨w4_s, _⟩ | ⟨i_s, w0_s, _, w2_s⟩
      · omega
      · exact absurd w2_s (w_s i_s w0_s)
    · exact Int32.toInt_inj.mp (((T i_s w0_s).mpr w2_s).trans w1_s.symm)
end AQ
def unS (nh ni : Nat) (ky : Nat → Nat → Int) (hk hd_s : Nat → Int) (p_s d_s : Nat) : Prop := ¬ hd_s d_s = (p_s : Int) ∧ (∀ o, o < ni → hd_s o = (p_s : Int) → ky p_s d_s < ky p_s o) ∧ ∀ q_s : Nat, q_s < nh → hd_s d_s = (q_s : Int) → hk p_s < hk q_s
def inS (n_s : Nat) (hd_s : Nat → Int) : Prop := ∀ i_s j_s, i_s < n_s → j_s < n_s → 0 ≤ hd_s i_s → hd_s i_s = hd_s j_s → i_s = j_s
def stS (nh ni : Nat) (ky : Nat → Nat → Int) (hk hd_s : Nat → Int) : Prop := inS ni hd_s ∧ ∀ p_s d_s, p_s < nh → d_s < ni → ¬ unS nh ni ky hk hd_s p_s d_s
section SE_s
variable {h_s : zH} {K_s : Int32 → zH → Prop} {nh ni nr : Nat} {f0_s : Nat → Nat → Int32}
def hdC (f_s : Nat → Nat → Int32) (i_s : Nat) : Int := (f_s (20 + i_s) 6).toInt
def had1 (n_s : Nat) (hd_s : Nat → Int) (f_s : Nat → Nat → Int32) : Prop := ∀ p_s : Nat, p_s < 6 → ((f_s 12 p_s).toInt = -2 ∧ ∀ i_s, i_s < n_s → ¬ hd_s i_s = (p_s : Int)) ∨ ∃ i_s : Nat, i_s < n_s ∧ hd_s i_s = (p_s : Int) ∧ (f_s 12 p_s).toInt = (i_s : Int)
def C68 (h_s : zH) (K_s : Int32 → zH → Prop) (nh ni : Nat) (f0_s : Nat → Nat → Int32) (F_s : Nat) : Prop := ∀ (x1_s : Int32) (l2 l3 : Option Value) (p_s : Nat) (f_s : Nat → Nat → Int32), (∀ a_s k_s, ¬ (a_s = 12 ∧ k_s < 6) → f_s a_s k_s = f0_s a_s k_s) → inS ni (hdC f0_s) → had1 ni (hdC f0_s) f_s → x1_s.toInt = (p_s : Int) → p_s ≤ nh → (∀ q_s d_s, q_s < p_s → d_s < ni → ¬ unS nh ni (kyI f0_s) (hkI f0_s) (hdC f0_s) q_s d_s) → wF F_s 30 (68, [some (.ref 7), some (.int x1_s), l2, l3], [], (h_s.1, f_s, h_s.2.2.1, h_s.2.2.2)) (gI K_s)
def C78 (h_s : zH) (K_s : Int32 → zH → Prop) (nh ni : Nat) (f0_s : Nat → Nat → Int32) (F_s : Nat) : Prop := ∀ (x1_s x2_s : Int32) (l3 : Option Value) (p_s d_s : Nat) (f_s : Nat → Nat → Int32), (∀ a_s k_s, ¬ (a_s = 12 ∧ k_s < 6) → f_s a_s k_s = f0_s a_s k_s) → inS ni (hdC f0_s) → had1 ni (hdC f0_s) f_s → x1_s.toInt = (p_s : Int) → p_s < nh → x2_s.toInt = (d_s : Int) → d_s ≤ ni → (∀ q_s e_s, q_s < p_s → e_s < ni → ¬ unS nh ni (kyI f0_s) (hkI f0_s) (hdC f0_s) q_s e_s) → (∀ e_s, e_s < d_s → ¬ unS nh ni (kyI f0_s) (hkI f0_s) (hdC f0_s) p_s e_s) → wF F_s 30 (78, [some (.ref 7), some (.int x1_s), some (.int x2_s), l3], [], (h_s.1, f_s, h_s.2.2.1, h_s.2.2.2)) (gI K_s)
def C105 (h_s : zH) (K_s : Int32 → zH → Prop) (nh ni : Nat) (f0_s : Nat → Nat → Int32) (F_s : Nat) : Prop := ∀ (x1_s x2_s x3 : Int32) (p_s d_s : Nat) (f_s : Nat → Nat → Int32), (∀ a_s k_s, ¬ (a_s = 12 ∧ k_s < 6) → f_s a_s k_s = f0_s a_s k_s) → inS ni (hdC f0_s) → had1 ni (hdC f0_s) f_s → x1_s.toInt = (p_s : Int) → p_s < nh → x2_s.toInt = (d_s : Int) → d_s < ni → (∀ q_s e_s, q_s < p_s → e_s < ni → ¬ unS nh ni (kyI f0_s) (hkI f0_s) (hdC f0_s) q_s e_s) → (∀ e_s, e_s < d_s → ¬ unS nh ni (kyI f0_s) (hkI f0_s) (hdC f0_s) p_s e_s) → (x3.toInt = 0 → hdC f0_s d_s = (p_s : Int)) → (¬ x3.toInt = 0 → ¬ hdC f0_s d_s = (p_s : Int)) → wF F_s 30 (105, [some (.ref 7), some (.int x1_s), some (.int x2_s), some (.int x3)], [], (h_s.1, f_s, h_s.2.2.1, h_s.2.2.2)) (gI K_s)
theorem c68_s {F_s : Nat} (hk : hKn h_s) (hc_s : tC nh ni nr f0_s) (t1_s : stS nh ni (kyI f0_s) (hkI f0_s) (hdC f0_s) → ∀ f1_s, (∀ a_s k_s, ¬ (a_s = 12 ∧ k_s < 6) → f1_s a_s k_s = f0_s a_s k_s) → K_s 1 (h_s.1, f1_s, h_s.2.2.1, h_s.2.2.2)) (i7_s : C78 h_s K_s nh ni f0_s F_s) : C68 h_s K_s nh ni f0_s (F_s + 1) := by
  intro x1_s l2 l3 p_s f_s g_s hi_s hh e1_s hp hu
  have e76 : f_s 7 6 = f0_s 7 6 := g_s 7 6 (by omega)
  refine sg_30_68 (h_s := (h_s.1, f_s, h_s.2.2.1, h_s.2.2.2)) hk ?_
  dsimp only
  rw [e76, hc_s.2.1.1, e1_s]
  refine ⟨fun c1_s => i7_s x1_s 0 l3 p_s 0 f_s g_s hi_s hh e1_s (by omega) rfl (Nat.zero_le _) hu (fun e_s he => absurd he (Nat.not_lt_zero e_s)), fun c1_s => t1_s ⟨hi_s, fun q_s d_s hq hd_s => hu q_s d_s (by omega) hd_s⟩ f_s g_s⟩
theorem c78_s {F_s : Nat} (hk : hKn h_s) (hc_s : tC nh ni nr f0_s) (i6_s : C68 h_s K_s nh ni f0_s F_s) (i1_s : C105 h_s K_s nh ni f0_s F_s) : C78 h_s K_s nh ni f0_s (F_s + 1) := by
  intro x1_s x2_s l3 p_s d_s f_s g_s hi_s hh e1_s hp e2_s hd_s hu hv
  have b_s := hc_s.1
  have e77 : f_s 7 7 = f0_s 7 7 := g_s 7 7 (by omega)
  have z2 := azix (i := x2_s) (by omega)
  have ez2 : zix x2_s = d_s := by omega
  have e20 : f_s (20 + d_s) 6 = f0_s (20 + d_s) 6 := g_s _ _ (by omega)
  refine sg_30_78 (h_s := (h_s.1, f_s, h_s.2.2.1, h_s.2.2.2)) hk ?_
  dsimp only
  rw [e77, hc_s.2.1.2.1, ez2, e20, e1_s, e2_s]
  have hdd : (f0_s (20 + d_s) 6).toInt = hdC f0_s d_s := rfl
  rw [hdd]
  refine ⟨fun c1_s => fun c2_s => ⟨fun c3_s => i1_s x1_s x2_s 0 p_s d_s f_s g_s hi_s hh e1_s hp e2_s (by omega) hu hv (fun _ => c3_s) (fun w_s => absurd rfl w_s), fun c3_s => i1_s x1_s x2_s 1 p_s d_s f_s g_s hi_s hh e1_s hp e2_s (by omega) hu hv (fun w_s => absurd w_s (by decide)) (fun _ => c3_s)⟩, fun c1_s => ?_⟩
  refine i6_s (x1_s + 1) _ l3 (p_s + 1) f_s g_s hi_s hh (by rw [in1_ (by omega)]; omega) (by omega) (fun q_s e_s hq he => ?_)
  by_cases eq_s : q_s = p_s
  · rw [eq_s]
    exact hv e_s (by omega)
  · exact hu q_s e_s (by omega) he
theorem c105_s {F_s : Nat} (hk : hKn h_s) (hc_s : tC nh ni nr f0_s) (t0_s : ¬ stS nh ni (kyI f0_s) (hkI f0_s) (hdC f0_s) → ∀ f1_s, (∀ a_s k_s, ¬ (a_s = 12 ∧ k_s < 6) → f1_s a_s k_s = f0_s a_s k_s) → K_s 0 (h_s.1, f1_s, h_s.2.2.1, h_s.2.2.2)) (i7_s : C78 h_s K_s nh ni f0_s F_s) : C105 h_s K_s nh ni f0_s (F_s + 1) := by
  intro x1_s x2_s x3 p_s d_s f_s g_s hi_s hh e1_s hp e2_s hd_s hu hv ha_s hb_s
  have b_s := hc_s.1
  have z1 := azix (i := x1_s) (by omega)
  have ez1 : zix x1_s = p_s := by omega
  have z2 := azix (i := x2_s) (by omega)
  have ez2 : zix x2_s = d_s := by omega
  have e20 : f_s (20 + d_s) 6 = f0_s (20 + d_s) 6 := g_s _ _ (by omega)
  have hcf : tC nh ni nr f_s := tC_fr (fun a_s k_s w_s => g_s a_s k_s (by unfold inC at w_s; omega)) hc_s
  obtain ⟨ek, eh⟩ := ky_fr (f_s := f_s) (f0_s := f0_s) (fun k_s => g_s 103 k_s (by omega))
  have bd := tC_hd hc_s hd_s
  rw [← bd.1] at bd
  have nx : ¬ unS nh ni (kyI f0_s) (hkI f0_s) (hdC f0_s) p_s d_s → wF F_s 30 (78, [some (.ref 7), some (.int x1_s), some (.int (x2_s + 1)), some (.int x3)], [], (h_s.1, f_s, h_s.2.2.1, h_s.2.2.2)) (gI K_s) := fun w_s => by
    refine i7_s x1_s (x2_s + 1) _ p_s (d_s + 1) f_s g_s hi_s hh e1_s hp (by rw [in1_ (by omega)]; omega) (by omega) hu (fun e_s he => ?_)
    by_cases ee : e_s = d_s
    · rw [ee]
      exact w_s
    · exact hv e_s (by omega)
  refine sg_30_105 (h_s := (h_s.1, f_s, h_s.2.2.1, h_s.2.2.2)) hk ?_
  dsimp only
  rw [ez1, ez2]
  refine ⟨fun c1_s => nx (fun u_s => u_s.1 (ha_s c1_s)), fun c1_s => fun c2_s => ?_⟩
  have na := hb_s c1_s
  -- what had says_s
  have hs : (f_s 12 p_s).toInt < 0 ∨ ∃ o : Nat, (f_s 12 p_s).toInt = (o : Int) ∧ o < ni := by
    rcases hh p_s (by omega) with u_s | ⟨i_s, u1_s, u2_s, u3⟩
    · exact Or.inl (by omega)
    · exact Or.inr ⟨i_s, u3, u1_s⟩
  refine sp_29 (h_s := (h_s.1, f_s, h_s.2.2.1, h_s.2.2.2)) (f_s := f_s) (p_s := p_s) (i_s := d_s) hk hcf e1_s e2_s hp hd_s hs (fun w1_s _ => ⟨fun c_s => absurd c_s (by decide), fun _ => fun _ => ?_⟩) (fun o w1_s w2_s w3_s _ => ⟨fun _ => nx (fun u_s => ?_), fun c_s => absurd rfl c_s⟩)
  · have wo : ∀ o, o < ni → hdC f0_s o = (p_s : Int) → kyI f0_s p_s d_s < kyI f0_s p_s o := fun o ho w_s => by
      rcases hh p_s (by omega) with u_s | ⟨i_s, u1_s, u2_s, u3⟩
      · exact absurd w_s (u_s.2 o ho)
      · have eo : o = i_s := hi_s o i_s ho u1_s (by omega) (by omega)
        rw [eo]
        have := w1_s i_s u3 u1_s
        rw [ek] at this
        exact this
    dsimp only
    rw [e20]
    have hq : (f0_s (20 + d_s) 6).toInt < 0 ∨ ∃ q_s : Nat, (f0_s (20 + d_s) 6).toInt = (q_s : Int) ∧ q_s < nh := by
      by_cases c_s : (f0_s (20 + d_s) 6).toInt < 0
      · exact Or.inl c_s
      · exact Or.inr ⟨(f0_s (20 + d_s) 6).toInt.toNat, by omega, by omega⟩
    refine sp_28 (h_s := (h_s.1, f_s, h_s.2.2.1, h_s.2.2.2)) (f_s := f_s) (p_s := p_s) (q_s := 0) hk hcf e1_s hp hq (fun w2_s _ => ⟨fun c_s => absurd c_s (by decide), fun _ => t0_s (fun s_s => s_s.2 p_s d_s hp hd_s ⟨na, wo, fun q_s hq1 hq2 => ?_⟩) f_s g_s⟩) (fun q_s w2_s w3_s w4_s _ => ⟨fun _ => nx (fun u_s => ?_), fun c_s => absurd rfl c_s⟩)
    · have := w2_s q_s hq2 hq1
      rw [eh] at this
      exact this
    · rw [eh] at w4_s
      exact w4_s (u_s.2.2 q_s w3_s w2_s)
  · rw [ek] at w3_s
    rcases hh p_s (by omega) with u2_s | ⟨i_s, u1_s, u2_s, u3⟩
    · omega
    · have eo : o = i_s := by omega
      rw [eo] at w3_s
      exact w3_s (u_s.2.1 i_s u1_s u2_s)
theorem c_all (hk : hKn h_s) (hc_s : tC nh ni nr f0_s) (t1_s : stS nh ni (kyI f0_s) (hkI f0_s) (hdC f0_s) → ∀ f1_s, (∀ a_s k_s, ¬ (a_s = 12 ∧ k_s < 6) → f1_s a_s k_s = f0_s a_s k_s) → K_s 1 (h_s.1, f1_s, h_s.2.2.1, h_s.2.2.2)) (t0_s : ¬ stS nh ni (kyI f0_s) (hkI f0_s) (hdC f0_s) → ∀ f1_s, (∀ a_s k_s, ¬ (a_s = 12 ∧ k_s < 6) → f1_s a_s k_s = f0_s a_s k_s) → K_s 0 (h_s.1, f1_s, h_s.2.2.1, h_s.2.2.2)) : ∀ F_s, C68 h_s K_s nh ni f0_s F_s ∧ C78 h_s K_s nh ni f0_s F_s ∧ C105 h_s K_s nh ni f0_s F_s
  | 0 => ⟨fun _ _ _ _ _ _ _ _ _ _ _ => wF_zero, fun _ _ _ _ _ _ _ _ _ _ _ _ _ _ _ => wF_zero, fun _ _ _ _ _ _ _ _ _ _ _ _ _ _ _ _ _ => wF_zero⟩
  | F_s + 1 => by
    obtain ⟨i6_s, i7_s, i1_s⟩ := c_all hk hc_s t1_s t0_s F_s
    exact ⟨c68_s hk hc_s t1_s i7_s, c78_s hk hc_s i6_s i1_s, c105_s hk hc_s t0_s i7_s⟩
theorem c11 (hk : hKn h_s) (hc_s : tC nh ni nr f0_s) (t1_s : stS nh ni (kyI f0_s) (hkI f0_s) (hdC f0_s) → ∀ f1_s, (∀ a_s k_s, ¬ (a_s = 12 ∧ k_s < 6) → f1_s a_s k_s = f0_s a_s k_s) → K_s 1 (h_s.1, f1_s, h_s.2.2.1, h_s.2.2.2)) (t0_s : ¬ stS nh ni (kyI f0_s) (hkI f0_s) (hdC f0_s) → ∀ f1_s, (∀ a_s k_s, ¬ (a_s = 12 ∧ k_s < 6) → f1_s a_s k_s = f0_s a_s k_s) → K_s 0 (h_s.1, f1_s, h_s.2.2.1, h_s.2.2.2)) : ∀ (F_s n_s : Nat) (x1_s : Int32) (l2 l3 : Option Value) (f_s : Nat → Nat → Int32), (∀ a_s k_s, ¬ (a_s = 12 ∧ k_s < 6) → f_s a_s k_s = f0_s a_s k_s) → x1_s.toInt = (n_s : Int) → n_s ≤ ni → inS n_s (hdC f0_s) → had1 n_s (hdC f0_s) f_s → wF F_s 30 (11, [some (.ref 7), some (.int x1_s), l2, l3], [], (h_s.1, f_s, h_s.2.2.1, h_s.2.2.2)) (gI K_s)
  | 0, _, _, _, _, _, _, _, _, _, _ => wF_zero
  | F_s + 1, n_s, x1_s, l2, l3, f_s, g_s, e1_s, hn, hi_s, hh => by
    have b_s := hc_s.1
    have z1 := azix (i := x1_s) (by omega)
    have ez1 : zix x1_s = n_s := by omega
    have e77 : f_s 7 7 = f0_s 7 7 := g_s 7 7 (by omega)
    have e76 : f_s 7 6 = f0_s 7 6 := g_s 7 6 (by omega)
    have e20 : f_s (20 + n_s) 6 = f0_s (20 + n_s) 6 := g_s _ _ (by omega)
    have e5_s : n_s < ni → (x1_s + 1).toInt = ((n_s + 1 : Nat) : Int) := fun w_s => by
      rw [in1_ (by omega), e1_s]
      omega
    refine sg_30_11 (h_s := (h_s.1, f_s, h_s.2.2.1, h_s.2.2.2)) hk ?_
    dsimp only
    rw [ez1, e77, e76, hc_s.2.1.1, hc_s.2.1.2.1, e20, e1_s]
    refine ⟨fun c1_s => fun c2_s => ?_, fun c1_s => ?_⟩
    · have hn1 : n_s < ni := by omega
      have bd := tC_hd hc_s hn1
      rw [← bd.1] at bd
      have hdn : hdC f0_s n_s = (f0_s (20 + n_s) 6).toInt := rfl
      refine ⟨fun c3_s => ?_, fun c3_s => ⟨fun c4_s => fun c5_s => ⟨fun c6_s => ?_, fun c6_s => ?_⟩, fun c4_s => absurd (show (f0_s (20 + n_s) 6).toInt < (nh : Int) by omega) c4_s⟩⟩
      · refine c11 hk hc_s t1_s t0_s F_s (n_s + 1) (x1_s + 1) _ l3 f_s g_s (e5_s hn1) (by omega) (fun i_s j_s hi1 hj1 h0 he => ?_) (fun p_s hp => ?_)
        · by_cases ei : i_s = n_s
          · rw [ei] at h0
            omega
          · by_cases ej : j_s = n_s
            · rw [ej] at he
              omega
            · exact hi_s i_s j_s (by omega) (by omega) h0 he
        · rcases hh p_s hp with u_s | ⟨i_s, u1_s, u2_s, u3⟩
          · refine Or.inl ⟨u_s.1, fun i_s hi1 => ?_⟩
            by_cases ei : i_s = n_s
            · rw [ei]
              omega
            · exact u_s.2 i_s (by omega)
          · exact Or.inr ⟨i_s, by omega, u2_s, u3⟩
      · have z6 := azix (i := f0_s (20 + n_s) 6) (by omega)
        have hz : hdC f0_s n_s = (zix (f0_s (20 + n_s) 6) : Int) := by omega
        generalize zix (f0_s (20 + n_s) 6) = p0_s at c5_s c6_s hz
        have nn : ∀ i_s, i_s < n_s → ¬ hdC f0_s i_s = (p0_s : Int) := by
          rcases hh p0_s c5_s with u_s | ⟨i_s, u1_s, u2_s, u3⟩
          · exact u_s.2
          · omega
        refine c11 hk hc_s t1_s t0_s F_s (n_s + 1) (x1_s + 1) _ l3 _ (fun a_s k_s w_s => by rw [zne_up (by omega)]; exact g_s a_s k_s w_s) (e5_s hn1) (by omega) (fun i_s j_s hi1 hj1 h0 he => ?_) (fun p_s hp => ?_)
        · by_cases ei : i_s = n_s
          · by_cases ej : j_s = n_s
            · rw [ei, ej]
            · rw [ei, hz] at he
              exact absurd he.symm (nn j_s (by omega))
          · by_cases ej : j_s = n_s
            · rw [ej, hz] at he
              exact absurd he (nn i_s (by omega))
            · exact hi_s i_s j_s (by omega) (by omega) h0 he
        · by_cases ep : p_s = p0_s
          · refine Or.inr ⟨n_s, by omega, by rw [ep]; exact hz, ?_⟩
            rw [ep, zsame_up]
            exact e1_s
          · rw [zne_up (by omega)]
            rcases hh p_s hp with u_s | ⟨i_s, u1_s, u2_s, u3⟩
            · refine Or.inl ⟨u_s.1, fun i_s hi1 => ?_⟩
              by_cases ei : i_s = n_s
              · rw [ei, hz]
                omega
              · exact u_s.2 i_s (by omega)
            · exact Or.inr ⟨i_s, by omega, u2_s, u3⟩
      · have z6 := azix (i := f0_s (20 + n_s) 6) (by omega)
        have hz : hdC f0_s n_s = (zix (f0_s (20 + n_s) 6) : Int) := by omega
        generalize zix (f0_s (20 + n_s) 6) = p0_s at c5_s c6_s hz
        refine t0_s (fun s_s => ?_) f_s g_s
        rcases hh p0_s c5_s with u_s | ⟨i_s, u1_s, u2_s, u3⟩
        · exact c6_s u_s.1
        · have := s_s.1 i_s n_s (by omega) hn1 (by omega) (by omega)
          omega
    · have en : n_s = ni := by omega
      subst en
      exact (c_all hk hc_s t1_s t0_s F_s).1 0 l2 l3 0 f_s g_s hi_s hh rfl (Nat.zero_le _) (fun q_s d_s hq _ => absurd hq (Nat.not_lt_zero q_s))
theorem sp_30 {F_s : Nat} (hk : hKn h_s) (hc_s : tC nh ni nr f0_s) (t1_s : stS nh ni (kyI f0_s) (hkI f0_s) (hdC f0_s) → ∀ f1_s, (∀ a_s k_s, ¬ (a_s = 12 ∧ k_s < 6) → f1_s a_s k_s = f0_s a_s k_s) → K_s 1 (h_s.1, f1_s, h_s.2.2.1, h_s.2.2.2)) (t0_s : ¬ stS nh ni (kyI f0_s) (hkI f0_s) (hdC f0_s) → ∀ f1_s, (∀ a_s k_s, ¬ (a_s = 12 ∧ k_s < 6) → f1_s a_s k_s = f0_s a_s k_s) → K_s 0 (h_s.1, f1_s, h_s.2.2.1, h_s.2.2.2)) : wF F_s 30 (0, [some (.ref 7), none, none, none], [], (h_s.1, f0_s, h_s.2.2.1, h_s.2.2.2)) (gI K_s) := by
  refine wF_le (Nat.le_succ F_s) (sg_30_0 (h_s := (h_s.1, f0_s, h_s.2.2.1, h_s.2.2.2)) hk ?_)
  refine wF_le (Nat.le_succ F_s) (sg_240_0 (h_s := (h_s.1, f0_s, h_s.2.2.1, h_s.2.2.2)) hk ?_)
  refine fl240 (f0_s := f0_s) hk rfl (fun f1_s g1 g2 hk1 => ?_) F_s 0 0 f0_s rfl (by omega) (fun k_s hq => absurd hq (Nat.not_lt_zero k_s)) (fun _ _ _ => rfl)
  exact c11 (h_s := (h_s.1, f1_s, h_s.2.2.1, h_s.2.2.2)) (f0_s := f0_s) hk1 hc_s t1_s t0_s F_s 0 0 none none f1_s g2 rfl (Nat.zero_le _) (fun i_s j_s hi_s _ _ _ => absurd hi_s (Nat.not_lt_zero i_s)) (fun p_s hp => Or.inl ⟨by rw [g1 p_s hp]; rfl, fun i_s hi_s => absurd hi_s (Nat.not_lt_zero i_s)⟩)
end SE_s
/-! SETTLED: the reference, and the pair. -/
def hdR (f_s : Nat → Nat → Int32) (i_s : Nat) : Int := (f_s 103 (60 + i_s)).toInt
theorem stS_c {nh ni : Nat} {ky : Nat → Nat → Int} {hk hd_s hd1 : Nat → Int} (e_s : ∀ i_s, i_s < ni → hd1 i_s = hd_s i_s) (s_s : stS nh ni ky hk hd_s) : stS nh ni ky hk hd1 := by
  refine ⟨fun i_s j_s hi_s hj h0 he => ?_, fun p_s d_s hp hd_ u_s => s_s.2 p_s d_s hp hd_ ⟨?_, fun o ho w_s => ?_, fun q_s hq w_s => ?_⟩⟩
  · rw [e_s i_s hi_s] at h0 he
    rw [e_s j_s hj] at he
    exact s_s.1 i_s j_s hi_s hj h0 he
  · rw [← e_s d_s hd_]
    exact u_s.1
  · rw [← e_s o ho] at w_s
    exact u_s.2.1 o ho w_s
  · rw [← e_s d_s hd_] at w_s
    exact u_s.2.2 q_s hq w_s
def QS (f0_s f_s : Nat → Nat → Int32) (ni : Nat) : Prop := (∀ a_s k_s, ¬ a_s = 116 → f_s a_s k_s = f0_s a_s k_s) ∧ ∀ i_s, i_s < ni → (f_s 116 i_s).toInt = hdR f0_s i_s
def wtS (ni : Nat) (ky : Nat → Nat → Int) (hd_s : Nat → Int) (p_s d_s : Nat) : Prop := ∀ o, o < ni → hd_s o = (p_s : Int) → ky p_s d_s < ky p_s o
def fyS (nh : Nat) (hk hd_s : Nat → Int) (p_s d_s : Nat) : Prop := ¬ hd_s d_s = (p_s : Int) ∧ ∀ q_s : Nat, q_s < nh → hd_s d_s = (q_s : Int) → hk p_s < hk q_s
section SR
variable {h_s : zH} {K_s : Int32 → zH → Prop} {nh ni nr : Nat} {f0_s : Nat → Nat → Int32}
def D33 (h_s : zH) (K_s : Int32 → zH → Prop) (ni : Nat) (f0_s : Nat → Nat → Int32) (F_s : Nat) : Prop := ∀ (x1_s : Int32) (l2 l3 l4 l5 : Option Value) (n_s : Nat) (f_s : Nat → Nat → Int32), QS f0_s f_s ni → x1_s.toInt = (n_s : Int) → n_s ≤ ni → inS n_s (hdR f0_s) → wF F_s 200 (33, [some (.ref 102), some (.int x1_s), l2, l3, l4, l5], [], (h_s.1, f_s, h_s.2.2.1, h_s.2.2.2)) (gI K_s)
def D43 (h_s : zH) (K_s : Int32 → zH → Prop) (ni : Nat) (f0_s : Nat → Nat → Int32) (F_s : Nat) : Prop := ∀ (x1_s x2_s : Int32) (l3 l4 l5 : Option Value) (n_s m_s : Nat) (f_s : Nat → Nat → Int32), QS f0_s f_s ni → x1_s.toInt = (n_s : Int) → n_s < ni → x2_s.toInt = (m_s : Int) → m_s ≤ n_s → inS n_s (hdR f0_s) → (∀ e_s, e_s < m_s → 0 ≤ hdR f0_s n_s → ¬ hdR f0_s n_s = hdR f0_s e_s) → wF F_s 200 (43, [some (.ref 102), some (.int x1_s), some (.int x2_s), l3, l4, l5], [], (h_s.1, f_s, h_s.2.2.1, h_s.2.2.2)) (gI K_s)
def D88 (h_s : zH) (K_s : Int32 → zH → Prop) (nh ni : Nat) (f0_s : Nat → Nat → Int32) (F_s : Nat) : Prop := ∀ (x1_s : Int32) (l2 l3 l4 l5 : Option Value) (p_s : Nat) (f_s : Nat → Nat → Int32), QS f0_s f_s ni → inS ni (hdR f0_s) → x1_s.toInt = (p_s : Int) → p_s ≤ nh → (∀ q_s d_s, q_s < p_s → d_s < ni → ¬ unS nh ni (kyI f0_s) (hkI f0_s) (hdR f0_s) q_s d_s) → wF F_s 200 (88, [some (.ref 102), some (.int x1_s), l2, l3, l4, l5], [], (h_s.1, f_s, h_s.2.2.1, h_s.2.2.2)) (gI K_s)
def qS (nh ni : Nat) (f0_s : Nat → Nat → Int32) (x1_s x2_s x3 : Int32) (p_s d_s : Nat) (f_s : Nat → Nat → Int32) : Prop := QS f0_s f_s ni ∧ inS ni (hdR f0_s) ∧ x1_s.toInt = (p_s : Int) ∧ p_s < nh ∧ x3.toInt = (d_s : Int) ∧ ((x2_s.toInt = -1 ∧ ∀ i_s, i_s < ni → ¬ hdR f0_s i_s = (p_s : Int)) ∨ ∃ i_s : Nat, i_s < ni ∧ x2_s.toInt = (i_s : Int) ∧ hdR f0_s i_s = (p_s : Int)) ∧ (∀ q_s e_s, q_s < p_s → e_s < ni → ¬ unS nh ni (kyI f0_s) (hkI f0_s) (hdR f0_s) q_s e_s) ∧ ∀ e_s, e_s < d_s → ¬ unS nh ni (kyI f0_s) (hkI f0_s) (hdR f0_s) p_s e_s
def D104 (h_s : zH) (K_s : Int32 → zH → Prop) (nh ni : Nat) (f0_s : Nat → Nat → Int32) (F_s : Nat) : Prop := ∀ (x1_s x2_s x3 : Int32) (l4 l5 : Option Value) (p_s d_s : Nat) (f_s : Nat → Nat → Int32), qS nh ni f0_s x1_s x2_s x3 p_s d_s f_s → d_s ≤ ni → wF F_s 200 (104, [some (.ref 102), some (.int x1_s), some (.int x2_s), some (.int x3), l4, l5], [], (h_s.1, f_s, h_s.2.2.1, h_s.2.2.2)) (gI K_s)
def D138 (h_s : zH) (K_s : Int32 → zH → Prop) (nh ni : Nat) (f0_s : Nat → Nat → Int32) (F_s : Nat) : Prop := ∀ (x1_s x2_s x3 x4_s : Int32) (l5 : Option Value) (p_s d_s : Nat) (f_s : Nat → Nat → Int32), qS nh ni f0_s x1_s x2_s x3 p_s d_s f_s → d_s < ni → (x4_s.toInt = 0 → ¬ wtS ni (kyI f0_s) (hdR f0_s) p_s d_s) → (¬ x4_s.toInt = 0 → wtS ni (kyI f0_s) (hdR f0_s) p_s d_s) → wF F_s 200 (138, [some (.ref 102), some (.int x1_s), some (.int x2_s), some (.int x3), some (.int x4_s), l5], [], (h_s.1, f_s, h_s.2.2.1, h_s.2.2.2)) (gI K_s)
def D178 (h_s : zH) (K_s : Int32 → zH → Prop) (nh ni : Nat) (f0_s : Nat → Nat → Int32) (F_s : Nat) : Prop := ∀ (x1_s x2_s x3 x4_s x5_s : Int32) (p_s d_s : Nat) (f_s : Nat → Nat → Int32), qS nh ni f0_s x1_s x2_s x3 p_s d_s f_s → d_s < ni → (x4_s.toInt = 0 → ¬ wtS ni (kyI f0_s) (hdR f0_s) p_s d_s) → (¬ x4_s.toInt = 0 → wtS ni (kyI f0_s) (hdR f0_s) p_s d_s) → (x5_s.toInt = 0 → ¬ fyS nh (hkI f0_s) (hdR f0_s) p_s d_s) → (¬ x5_s.toInt = 0 → fyS nh (hkI f0_s) (hdR f0_s) p_s d_s) → wF F_s 200 (178, [some (.ref 102), some (.int x1_s), some (.int x2_s), some (.int x3), some (.int x4_s), some (.int x5_s)], [], (h_s.1, f_s, h_s.2.2.1, h_s.2.2.2)) (gI K_s)
theorem d33_s {F_s : Nat} (hk : hKn h_s) (hc_s : tM nh ni nr f0_s) (i4_s : D43 h_s K_s ni f0_s F_s) (i8_s : D88 h_s K_s nh ni f0_s F_s) : D33 h_s K_s ni f0_s (F_s + 1) := by
  intro x1_s l2 l3 l4 l5 n_s f_s g_s e1_s hn hi_s
  have e7_s : f_s 102 7 = f0_s 102 7 := g_s.1 _ _ (by omega)
  refine sg_200_33 (h_s := (h_s.1, f_s, h_s.2.2.1, h_s.2.2.2)) hk ?_
  dsimp only
  rw [e7_s, hc_s.2.1.2.1, e1_s]
  refine ⟨fun c1_s => i4_s x1_s 0 l3 l4 l5 n_s 0 f_s g_s e1_s (by omega) rfl (Nat.zero_le _) hi_s (fun e_s he => absurd he (Nat.not_lt_zero e_s)), fun c1_s => ?_⟩
  have en : n_s = ni := by omega
  subst en
  exact i8_s 0 l2 l3 l4 l5 0 f_s g_s hi_s rfl (Nat.zero_le _) (fun q_s d_s hq _ => absurd hq (Nat.not_lt_zero q_s))
theorem d43_s {F_s : Nat} (hk : hKn h_s) (hc_s : tM nh ni nr f0_s) (t0_s : ¬ stS nh ni (kyI f0_s) (hkI f0_s) (hdR f0_s) → ∀ f1_s, K_s 0 (h_s.1, f1_s, h_s.2.2.1, h_s.2.2.2)) (i3_s : D33 h_s K_s ni f0_s F_s) (i4_s : D43 h_s K_s ni f0_s F_s) : D43 h_s K_s ni f0_s (F_s + 1) := by
  intro x1_s x2_s l3 l4 l5 n_s m_s f_s g_s e1_s hn e2_s hm_s hi_s hv
  have b_s := hc_s.1
  have z1 := azix (i := x1_s) (by omega)
  have ez1 : zix x1_s = n_s := by omega
  have z2 := azix (i := x2_s) (by omega)
  have ez2 : zix x2_s = m_s := by omega
  have nx : m_s < n_s → (0 ≤ hdR f0_s n_s → ¬ hdR f0_s n_s = hdR f0_s m_s) → wF F_s 200 (43, [some (.ref 102), some (.int x1_s), some (.int (x2_s + 1)), l3, l4, l5], [], (h_s.1, f_s, h_s.2.2.1, h_s.2.2.2)) (gI K_s) := fun wm w_s => by
    refine i4_s x1_s (x2_s + 1) l3 l4 l5 n_s (m_s + 1) f_s g_s e1_s hn (by rw [in1_ (by omega)]; omega) (by omega) hi_s (fun e_s he => ?_)
    by_cases ee : e_s = m_s
    · rw [ee]
      exact w_s
    · exact hv e_s (by omega)
  refine sg_200_43 (h_s := (h_s.1, f_s, h_s.2.2.1, h_s.2.2.2)) hk ?_
  dsimp only
  rw [ez1, ez2, g_s.2 n_s hn, e1_s, e2_s]
  refine ⟨fun c1_s => fun c2_s => ⟨fun c3_s => nx (by omega) (fun w_s => by omega), fun c3_s => fun c5_s => ?_⟩, fun c1_s => ?_⟩
  · rw [g_s.2 m_s (by omega)]
    refine ⟨fun c6_s => t0_s (fun s_s => ?_) f_s, fun c6_s => nx (by omega) (fun _ => c6_s)⟩
    have := s_s.1 n_s m_s hn (by omega) (by omega) c6_s
    omega
  · refine i3_s (x1_s + 1) _ l3 l4 l5 (n_s + 1) f_s g_s (by rw [in1_ (by omega)]; omega) (by omega) (fun i_s j_s hi1 hj1 h0 he => ?_)
    by_cases ei : i_s = n_s
    · by_cases ej : j_s = n_s
      · rw [ei, ej]
      · rw [ei] at h0 he
        exact absurd he (hv j_s (by omega) h0)
    · by_cases ej : j_s = n_s
      · rw [ej] at he
        exact absurd he.symm (hv i_s (by omega) (by omega))
      · exact hi_s i_s j_s (by omega) (by omega) h0 he
theorem d88_s {F_s : Nat} (hk : hKn h_s) (hc_s : tM nh ni nr f0_s) (t1_s : stS nh ni (kyI f0_s) (hkI f0_s) (hdR f0_s) → ∀ f1_s, K_s 1 (h_s.1, f1_s, h_s.2.2.1, h_s.2.2.2)) (i1_s : D104 h_s K_s nh ni f0_s F_s) : D88 h_s K_s nh ni f0_s (F_s + 1) := by
  intro x1_s l2 l3 l4 l5 p_s f_s g_s hi_s e1_s hp hu
  have e6_s : f_s 102 6 = f0_s 102 6 := g_s.1 _ _ (by omega)
  have mf : tM nh ni nr f_s := tM_fr (fun k_s _ _ => g_s.1 _ _ (by omega)) (fun k_s _ => g_s.1 _ _ (by omega)) hc_s
  refine sg_200_88 (h_s := (h_s.1, f_s, h_s.2.2.1, h_s.2.2.2)) hk ?_
  dsimp only
  rw [e6_s, hc_s.2.1.1, e1_s]
  refine ⟨fun c1_s => ?_, fun c1_s => t1_s ⟨hi_s, fun q_s d_s hq hd_s => hu q_s d_s (by omega) hd_s⟩ f_s⟩
  refine sp_197 (h_s := (h_s.1, f_s, h_s.2.2.1, h_s.2.2.2)) (f_s := f_s) (p_s := p_s) hk mf e1_s (fun v_s hv _ => ?_)
  refine i1_s x1_s v_s 0 l4 l5 p_s 0 f_s ⟨g_s, hi_s, e1_s, by omega, rfl, ?_, hu, fun e_s he => absurd he (Nat.not_lt_zero e_s)⟩ (Nat.zero_le _)
  rcases hv with ⟨w1_s, w2_s⟩ | ⟨i_s, w1_s, w2_s, w3_s⟩
  · exact Or.inl ⟨w1_s, fun i_s hi1 => by rw [← g_s.2 i_s hi1]; exact w2_s i_s hi1⟩
  · exact Or.inr ⟨i_s, w1_s, w2_s, by rw [← g_s.2 i_s w1_s]; exact w3_s⟩
theorem d104_s {F_s : Nat} (hk : hKn h_s) (hc_s : tM nh ni nr f0_s) (i8_s : D88 h_s K_s nh ni f0_s F_s) (i3_s : D138 h_s K_s nh ni f0_s F_s) : D104 h_s K_s nh ni f0_s (F_s + 1) := by
  intro x1_s x2_s x3 l4 l5 p_s d_s f_s q_s hd_s
  have b_s := hc_s.1
  obtain ⟨g_s, hi_s, e1_s, hp, e3_s, ht, hu, hv⟩ := q_s
  have q_s : qS nh ni f0_s x1_s x2_s x3 p_s d_s f_s := ⟨g_s, hi_s, e1_s, hp, e3_s, ht, hu, hv⟩
  have e7_s : f_s 102 7 = f0_s 102 7 := g_s.1 _ _ (by omega)
  have mf : tM nh ni nr f_s := tM_fr (fun k_s _ _ => g_s.1 _ _ (by omega)) (fun k_s _ => g_s.1 _ _ (by omega)) hc_s
  obtain ⟨ek, eh⟩ := ky_fr (f_s := f_s) (f0_s := f0_s) (fun k_s => g_s.1 103 k_s (by omega))
  refine sg_200_104 (h_s := (h_s.1, f_s, h_s.2.2.1, h_s.2.2.2)) hk ?_
  dsimp only
  rw [e7_s, hc_s.2.1.2.1, e3_s]
  refine ⟨fun c1_s => ?_, fun c1_s => ?_⟩
  · have hdn : d_s < ni := by omega
    refine ⟨fun c2_s => i3_s x1_s x2_s x3 1 l5 p_s d_s f_s q_s hdn (fun w_s => absurd w_s (by decide)) (fun _ o ho w_s => ?_), fun c2_s => ?_⟩
    · rcases ht with u_s | ⟨i_s, u1_s, u2_s, u3⟩
      · exact absurd w_s (u_s.2 o ho)
      · omega
    · obtain ⟨i_s, u1_s, u2_s, u3⟩ : ∃ i_s : Nat, i_s < ni ∧ x2_s.toInt = (i_s : Int) ∧ hdR f0_s i_s = (p_s : Int) := by
        rcases ht with u_s | u_s
        · omega
        · exact u_s
      refine ⟨fun c3_s => i3_s x1_s x2_s x3 0 l5 p_s d_s f_s q_s hdn (fun _ w_s => ?_) (fun w_s => absurd rfl w_s), fun c3_s => ?_⟩
      · have ed : i_s = d_s := by omega
        have := w_s d_s hdn (by rw [← ed]; exact u3)
        omega
      · refine sp_195 (h_s := (h_s.1, f_s, h_s.2.2.1, h_s.2.2.2)) (f_s := f_s) (p_s := p_s) (i_s := d_s) (o := i_s) hk mf e1_s e3_s u2_s hp hdn u1_s (fun w_s _ => ⟨fun c_s => absurd c_s (by decide), fun _ => i3_s x1_s x2_s x3 1 l5 p_s d_s f_s q_s hdn (fun w_s => absurd w_s (by decide)) (fun _ o ho wo => ?_)⟩) (fun w_s _ => ⟨fun _ => i3_s x1_s x2_s x3 0 l5 p_s d_s f_s q_s hdn (fun _ wt => ?_) (fun w_s => absurd rfl w_s), fun c_s => absurd rfl c_s⟩)
        · have eo : o = i_s := hi_s o i_s ho u1_s (by omega) (by omega)
          rw [ek] at w_s
          rw [eo]
          exact w_s
        · rw [ek] at w_s
          exact w_s (wt i_s u1_s u3)
  · have ed : d_s = ni := by omega
    subst ed
    refine i8_s (x1_s + 1) _ _ l4 l5 (p_s + 1) f_s g_s hi_s (by rw [in1_ (by omega)]; omega) (by omega) (fun q1_s e_s hq he => ?_)
    by_cases eq_s : q1_s = p_s
    · rw [eq_s]
      exact hv e_s he
    · exact hu q1_s e_s (by omega) he
theorem d138_s {F_s : Nat} (hk : hKn h_s) (hc_s : tM nh ni nr f0_s) (i7_s : D178 h_s K_s nh ni f0_s F_s) : D138 h_s K_s nh ni f0_s (F_s + 1) := by
  intro x1_s x2_s x3 x4_s l5 p_s d_s f_s q_s hd_s h0 h1
  have b_s := hc_s.1
  obtain ⟨g_s, hi_s, e1_s, hp, e3_s, ht, hu, hv⟩ := q_s
  have q_s : qS nh ni f0_s x1_s x2_s x3 p_s d_s f_s := ⟨g_s, hi_s, e1_s, hp, e3_s, ht, hu, hv⟩
  have z3 := azix (i := x3) (by omega)
  have ez3 : zix x3 = d_s := by omega
  have mf : tM nh ni nr f_s := tM_fr (fun k_s _ _ => g_s.1 _ _ (by omega)) (fun k_s _ => g_s.1 _ _ (by omega)) hc_s
  obtain ⟨ek, eh⟩ := ky_fr (f_s := f_s) (f0_s := f0_s) (fun k_s => g_s.1 103 k_s (by omega))
  have bd := tM_hd hc_s hd_s
  have hdd : hdR f0_s d_s = (f0_s 103 (60 + d_s)).toInt := rfl
  refine sg_200_138 (h_s := (h_s.1, f_s, h_s.2.2.1, h_s.2.2.2)) hk ?_
  dsimp only
  rw [ez3]
  have gd_s := g_s.2 d_s hd_s
  generalize hw : f_s 116 d_s = w_s at gd_s
  rw [gd_s, e1_s]
  refine fun c1_s => ⟨fun c2_s => i7_s x1_s x2_s x3 x4_s 1 p_s d_s f_s q_s hd_s h0 h1 (fun w_s => absurd w_s (by decide)) (fun _ => ⟨by omega, fun q1_s _ w_s => by omega⟩), fun c2_s => ⟨fun c4_s => i7_s x1_s x2_s x3 x4_s 0 p_s d_s f_s q_s hd_s h0 h1 (fun _ w_s => w_s.1 c4_s) (fun w_s => absurd rfl w_s), fun c4_s => ?_⟩⟩
  have e9_s : w_s.toInt = ((hdR f0_s d_s).toNat : Int) := by omega
  refine sp_196 (h_s := (h_s.1, f_s, h_s.2.2.1, h_s.2.2.2)) (f_s := f_s) (p_s := p_s) (q_s := (hdR f0_s d_s).toNat) hk mf e1_s e9_s hp (by omega) (fun w1_s _ => ⟨fun c_s => absurd c_s (by decide), fun _ => i7_s x1_s x2_s x3 x4_s 1 p_s d_s f_s q_s hd_s h0 h1 (fun w_s => absurd w_s (by decide)) (fun _ => ⟨c4_s, fun q1_s _ w2_s => ?_⟩)⟩) (fun w1_s _ => ⟨fun _ => i7_s x1_s x2_s x3 x4_s 0 p_s d_s f_s q_s hd_s h0 h1 (fun _ w2_s => ?_) (fun w_s => absurd rfl w_s), fun c_s => absurd rfl c_s⟩)
  · rw [eh] at w1_s
    have eq_s : q1_s = (hdR f0_s d_s).toNat := by omega
    rw [eq_s]
    exact w1_s
  · rw [eh] at w1_s
    exact w1_s (w2_s.2 _ (by omega) (by omega))
theorem d178_s {F_s : Nat} (hk : hKn h_s) (hc_s : tM nh ni nr f0_s) (t0_s : ¬ stS nh ni (kyI f0_s) (hkI f0_s) (hdR f0_s) → ∀ f1_s, K_s 0 (h_s.1, f1_s, h_s.2.2.1, h_s.2.2.2)) (i1_s : D104 h_s K_s nh ni f0_s F_s) : D178 h_s K_s nh ni f0_s (F_s + 1) := by
  intro x1_s x2_s x3 x4_s x5_s p_s d_s f_s q_s hd_s h0 h1 h2 h3
  have b_s := hc_s.1
  obtain ⟨g_s, hi_s, e1_s, hp, e3_s, ht, hu, hv⟩ := q_s
  have nx : ¬ unS nh ni (kyI f0_s) (hkI f0_s) (hdR f0_s) p_s d_s → wF F_s 200 (104, [some (.ref 102), some (.int x1_s), some (.int x2_s), some (.int (x3 + 1)), some (.int x4_s), some (.int x5_s)], [], (h_s.1, f_s, h_s.2.2.1, h_s.2.2.2)) (gI K_s) := fun w_s => by
    refine i1_s x1_s x2_s (x3 + 1) _ _ p_s (d_s + 1) f_s ⟨g_s, hi_s, e1_s, hp, by rw [in1_ (by omega)]; omega, ht, hu, fun e_s he => ?_⟩ (by omega)
    by_cases ee : e_s = d_s
    · rw [ee]
      exact w_s
    · exact hv e_s (by omega)
  exact sg_200_178 (h_s := (h_s.1, f_s, h_s.2.2.1, h_s.2.2.2)) hk ⟨fun c1_s => nx (fun u_s => h0 c1_s u_s.2.1), fun c1_s => ⟨fun c2_s => nx (fun u_s => h2 c2_s ⟨u_s.1, u_s.2.2⟩), fun c2_s => t0_s (fun s_s => s_s.2 p_s d_s hp hd_s ⟨(h3 c2_s).1, h1 c1_s, (h3 c2_s).2⟩) f_s⟩⟩
theorem d_all (hk : hKn h_s) (hc_s : tM nh ni nr f0_s) (t1_s : stS nh ni (kyI f0_s) (hkI f0_s) (hdR f0_s) → ∀ f1_s, K_s 1 (h_s.1, f1_s, h_s.2.2.1, h_s.2.2.2)) (t0_s : ¬ stS nh ni (kyI f0_s) (hkI f0_s) (hdR f0_s) → ∀ f1_s, K_s 0 (h_s.1, f1_s, h_s.2.2.1, h_s.2.2.2)) : ∀ F_s, (D33 h_s K_s ni f0_s F_s ∧ D43 h_s K_s ni f0_s F_s) ∧ D88 h_s K_s nh ni f0_s F_s ∧ D104 h_s K_s nh ni f0_s F_s ∧ D138 h_s K_s nh ni f0_s F_s ∧ D178 h_s K_s nh ni f0_s F_s
  | 0 => ⟨⟨fun _ _ _ _ _ _ _ _ _ _ _ => wF_zero, fun _ _ _ _ _ _ _ _ _ _ _ _ _ _ _ => wF_zero⟩, fun _ _ _ _ _ _ _ _ _ _ _ _ => wF_zero, fun _ _ _ _ _ _ _ _ _ _ => wF_zero, fun _ _ _ _ _ _ _ _ _ _ _ _ => wF_zero, fun _ _ _ _ _ _ _ _ _ _ _ _ _ _ => wF_zero⟩
  | F_s + 1 => by
    obtain ⟨⟨i3_s, i4_s⟩, i8_s, i1_s, i13, i17⟩ := d_all hk hc_s t1_s t0_s F_s
    exact ⟨⟨d33_s hk hc_s i4_s i8_s, d43_s hk hc_s t0_s i3_s i4_s⟩, d88_s hk hc_s t1_s i1_s, d104_s hk hc_s i8_s i13, d138_s hk hc_s i17, d178_s hk hc_s t0_s i1_s⟩
theorem d2 (hk : hKn h_s) (hc_s : tM nh ni nr f0_s) (t1_s : stS nh ni (kyI f0_s) (hkI f0_s) (hdR f0_s) → ∀ f1_s, K_s 1 (h_s.1, f1_s, h_s.2.2.1, h_s.2.2.2)) (t0_s : ¬ stS nh ni (kyI f0_s) (hkI f0_s) (hdR f0_s) → ∀ f1_s, K_s 0 (h_s.1, f1_s, h_s.2.2.1, h_s.2.2.2)) : ∀ (F_s n_s : Nat) (x1_s : Int32) (l2 l3 l4 l5 : Option Value) (f_s : Nat → Nat → Int32), (∀ a_s k_s, ¬ a_s = 116 → f_s a_s k_s = f0_s a_s k_s) → (∀ i_s, i_s < n_s → (f_s 116 i_s).toInt = hdR f0_s i_s) → x1_s.toInt = (n_s : Int) → n_s ≤ ni → wF F_s 200 (2, [some (.ref 102), some (.int x1_s), l2, l3, l4, l5], [], (h_s.1, f_s, h_s.2.2.1, h_s.2.2.2)) (gI K_s)
  | 0, _, _, _, _, _, _, _, _, _, _, _ => wF_zero
  | F_s + 1, n_s, x1_s, l2, l3, l4, l5, f_s, g_s, g2, e1_s, hn => by
    have b_s := hc_s.1
    have z1 := azix (i := x1_s) (by omega)
    have ez1 : zix x1_s = n_s := by omega
    have e7_s : f_s 102 7 = f0_s 102 7 := g_s _ _ (by omega)
    have z60_s : zix (60 + x1_s) = 60 + n_s := zxa (c_s := 60) (a_s := 60) rfl e1_s (by omega)
    refine sg_200_2 (h_s := (h_s.1, f_s, h_s.2.2.1, h_s.2.2.2)) hk ?_
    dsimp only
    rw [e7_s, hc_s.2.1.2.1, ez1, z60_s, e1_s]
    refine ⟨fun c1_s => fun c2_s => fun c3_s => ?_, fun c1_s => ?_⟩
    · refine d2 hk hc_s t1_s t0_s F_s (n_s + 1) (x1_s + 1) l2 l3 l4 l5 _ (fun a_s k_s w_s => ?_) (fun i_s hi_s => ?_) (by rw [in1_ (by omega)]; omega) (by omega)
      · rw [zne_up (by omega)]
        exact g_s a_s k_s w_s
      · by_cases ei : i_s = n_s
        · rw [ei, zsame_up, g_s 103 _ (by omega)]
          rfl
        · rw [zne_up (by omega)]
          exact g2 i_s (by omega)
    · have en : n_s = ni := by omega
      subst en
      exact (d_all hk hc_s t1_s t0_s F_s).1.1 0 l2 l3 l4 l5 0 f_s ⟨g_s, g2⟩ rfl (Nat.zero_le _) (fun i_s j_s hi_s _ _ _ => absurd hi_s (Nat.not_lt_zero i_s))
theorem sp_200 {F_s : Nat} (hk : hKn h_s) (hc_s : tM nh ni nr f0_s) (t1_s : stS nh ni (kyI f0_s) (hkI f0_s) (hdR f0_s) → ∀ f1_s, K_s 1 (h_s.1, f1_s, h_s.2.2.1, h_s.2.2.2)) (t0_s : ¬ stS nh ni (kyI f0_s) (hkI f0_s) (hdR f0_s) → ∀ f1_s, K_s 0 (h_s.1, f1_s, h_s.2.2.1, h_s.2.2.2)) : wF F_s 200 (0, [some (.ref 102), none, none, none, none, none], [], (h_s.1, f0_s, h_s.2.2.1, h_s.2.2.2)) (gI K_s) := wF_le (Nat.le_succ F_s) (sg_200_0 (h_s := (h_s.1, f0_s, h_s.2.2.1, h_s.2.2.2)) hk (d2 hk hc_s t1_s t0_s F_s 0 0 none none none none f0_s (fun _ _ _ => rfl) (fun i_s hi_s => absurd hi_s (Nat.not_lt_zero i_s)) rfl (Nat.zero_le _)))
theorem pr_settled {F_s : Nat} (hk : hKn h_s) (hx : tX h_s) : wF F_s 108 (0, [some (.ref 6)], [], h_s) (gI (fun v_s h1 => wF F_s 200 (0, [some (.ref 102), none, none, none, none, none], [], h1) (gI (fun v2 _ => v_s = v2)))) := by
  obtain ⟨nh, ni, nr, hc_s, _, _, _, _, _⟩ := hx
  have m0_s := tC_M hc_s
  have eqd : ∀ i_s, i_s < ni → hdC h_s.2.1 i_s = hdR h_s.2.1 i_s := fun i_s hi_s => by
    show (h_s.2.1 (20 + i_s) 6).toInt = _
    rw [(tC_hd hc_s hi_s).1]
    rfl
  refine wF_le (Nat.le_succ F_s) (sg_108_0 (h_s := h_s) hk ?_)
  have rf : ∀ f1_s : Nat → Nat → Int32, (∀ a_s k_s, ¬ (a_s = 12 ∧ k_s < 6) → f1_s a_s k_s = h_s.2.1 a_s k_s) → ∀ v_s : Int32, (stS nh ni (kyI h_s.2.1) (hkI h_s.2.1) (hdC h_s.2.1) → v_s = 1) → (¬ stS nh ni (kyI h_s.2.1) (hkI h_s.2.1) (hdC h_s.2.1) → v_s = 0) → wF F_s 200 (0, [some (.ref 102), none, none, none, none, none], [], (h_s.1, f1_s, h_s.2.2.1, h_s.2.2.2)) (gI (fun v2 _ => v_s = v2)) := fun f1_s g_s v_s v1_s v0_s => by
    have m1_s : tM nh ni nr f1_s := tM_fr (fun k_s _ _ => g_s _ _ (by omega)) (fun k_s _ => g_s _ _ (by omega)) m0_s
    obtain ⟨ek, eh⟩ := ky_fr (f_s := f1_s) (f0_s := h_s.2.1) (fun k_s => g_s 103 k_s (by omega))
    have er : hdR f1_s = hdR h_s.2.1 := by
      funext i_s
      unfold hdR
      rw [g_s 103 _ (by omega)]
    refine sp_200 (h_s := (h_s.1, f1_s, h_s.2.2.1, h_s.2.2.2)) (f0_s := f1_s) hk m1_s (fun s_s _ => ?_) (fun s_s _ => ?_)
    · rw [ek, eh, er] at s_s
      exact v1_s (stS_c eqd s_s)
    · rw [ek, eh, er] at s_s
      exact v0_s (fun u_s => s_s (stS_c (fun i_s hi_s => (eqd i_s hi_s).symm) u_s))
  refine sp_30 (f0_s := h_s.2.1) hk hc_s (fun s_s f1_s g_s hk1 => ⟨fun c_s => absurd c_s (by decide), fun _ => rf f1_s g_s 1 (fun _ => rfl) (fun u_s => absurd s_s u_s)⟩) (fun s_s f1_s g_s hk1 => ⟨fun _ => rf f1_s g_s 0 (fun u_s => absurd u_s s_s) (fun _ => rfl), fun c_s => absurd rfl c_s⟩)
end SR
/-! CONTRACTS of the calls, as what ended runs keep: printed by a program (wip/fun/mklaw.py). -/
theorem cm_93 {F_s : Nat} {x1_s : Int32} {h_s : zH} (hI : hIw h_s) : wF F_s 93 (0, [some (.ref 6), some (.int x1_s)], [], h_s) (gI (fun _ h1 => hIw h1 ∧ aFr (aWf kE1148.2.2.2.2.2) h_s h1)) := cxI kok1148 (rel1 (n_s := 0) hI) hI.2 rfl rfl
theorem cm_155 {F_s : Nat} {x1_s : Int32} {h_s : zH} (hI : hIw h_s) : wF F_s 155 (0, [some (.ref 102), some (.int x1_s)], [], h_s) (gI (fun _ h1 => hIw h1 ∧ aFr (aWf kE1149.2.2.2.2.2) h_s h1)) := cxI kok1149 (rel1 (n_s := 0) hI) hI.2 rfl rfl
theorem cm_94 {F_s : Nat} {x1_s : Int32} {x2_s : Int32} {h_s : zH} (hI : hIw h_s) : wF F_s 94 (0, [some (.ref 6), some (.int x1_s), some (.int x2_s), none], [], h_s) (gI (fun _ h1 => hIw h1 ∧ aFr (aWf kE1146.2.2.2.2.2) h_s h1)) := cxI kok1146 (rel2 (n_s := 1) hI) hI.2 rfl rfl
theorem cm_156 {F_s : Nat} {x1_s : Int32} {x2_s : Int32} {h_s : zH} (hI : hIw h_s) : wF F_s 156 (0, [some (.ref 102), some (.int x1_s), some (.int x2_s)], [], h_s) (gI (fun _ h1 => hIw h1 ∧ aFr (aWf kE1147.2.2.2.2.2) h_s h1)) := cxI kok1147 (rel2 (n_s := 0) hI) hI.2 rfl rfl
theorem cm_95 {F_s : Nat} {x1_s : Int32} {x2_s : Int32} {h_s : zH} (hI : hIw h_s) : wF F_s 95 (0, [some (.ref 6), some (.int x1_s), some (.int x2_s)], [], h_s) (gI (fun _ h1 => hIw h1 ∧ aFr (aWf kE1144.2.2.2.2.2) h_s h1)) := cxI kok1144 (rel2 (n_s := 0) hI) hI.2 rfl rfl
theorem cm_159 {F_s : Nat} {x1_s : Int32} {x2_s : Int32} {h_s : zH} (hI : hIw h_s) : wF F_s 159 (0, [some (.ref 102), some (.int x1_s), some (.int x2_s)], [], h_s) (gI (fun _ h1 => hIw h1 ∧ aFr (aWf kE1145.2.2.2.2.2) h_s h1)) := cxI kok1145 (rel2 (n_s := 0) hI) hI.2 rfl rfl
theorem cm_96 {F_s : Nat} {x1_s : Int32} {x2_s : Int32} {x3 : Int32} {h_s : zH} (hI : hIw h_s) : wF F_s 96 (0, [some (.ref 6), some (.int x1_s), some (.int x2_s), some (.int x3), none, none, none], [], h_s) (gI (fun _ h1 => hIw h1 ∧ aFr (aWf kE1142.2.2.2.2.2) h_s h1)) := cxI kok1142 (rel3 (n_s := 3) hI) hI.2 rfl rfl
theorem cm_160 {F_s : Nat} {x1_s : Int32} {x2_s : Int32} {x3 : Int32} {h_s : zH} (hI : hIw h_s) : wF F_s 160 (0, [some (.ref 102), some (.int x1_s), some (.int x2_s), some (.int x3), none, none, none], [], h_s) (gI (fun _ h1 => hIw h1 ∧ aFr (aWf kE1143.2.2.2.2.2) h_s h1)) := cxI kok1143 (rel3 (n_s := 3) hI) hI.2 rfl rfl
theorem cm_98 {F_s : Nat} {x1_s : Int32} {x2_s : Int32} {x3 : Int32} {h_s : zH} (hI : hIw h_s) : wF F_s 98 (0, [some (.ref 6), some (.int x1_s), some (.int x2_s), some (.int x3), none], [], h_s) (gI (fun _ h1 => hIw h1 ∧ aFr (aWf kE1128.2.2.2.2.2) h_s h1)) := cxI kok1128 (rel3 (n_s := 1) hI) hI.2 rfl rfl
theorem cm_163 {F_s : Nat} {x1_s : Int32} {x2_s : Int32} {x3 : Int32} {h_s : zH} (hI : hIw h_s) : wF F_s 163 (0, [some (.ref 102), some (.int x1_s), some (.int x2_s), some (.int x3), none], [], h_s) (gI (fun _ h1 => hIw h1 ∧ aFr (aWf kE1141.2.2.2.2.2) h_s h1)) := cxI kok1141 (rel3 (n_s := 1) hI) hI.2 rfl rfl
theorem cm_99 {F_s : Nat} {x1_s : Int32} {x2_s : Int32} {h_s : zH} (hI : hIw h_s) : wF F_s 99 (0, [some (.ref 6), some (.int x1_s), some (.int x2_s)], [], h_s) (gI (fun _ h1 => hIw h1 ∧ aFr (aWf kE1125.2.2.2.2.2) h_s h1)) := cxI kok1125 (rel2 (n_s := 0) hI) hI.2 rfl rfl
theorem cm_164 {F_s : Nat} {x1_s : Int32} {x2_s : Int32} {h_s : zH} (hI : hIw h_s) : wF F_s 164 (0, [some (.ref 102), some (.int x1_s), some (.int x2_s), none], [], h_s) (gI (fun _ h1 => hIw h1 ∧ aFr (aWf kE1126.2.2.2.2.2) h_s h1)) := cxI kok1126 (rel2 (n_s := 1) hI) hI.2 rfl rfl
theorem cm_100 {F_s : Nat} {x1_s : Int32} {h_s : zH} (hI : hIw h_s) : wF F_s 100 (0, [some (.ref 6), some (.int x1_s)], [], h_s) (gI (fun _ h1 => hIw h1 ∧ aFr (aWf kE1123.2.2.2.2.2) h_s h1)) := cxI kok1123 (rel1 (n_s := 0) hI) hI.2 rfl rfl
theorem cm_165 {F_s : Nat} {x1_s : Int32} {h_s : zH} (hI : hIw h_s) : wF F_s 165 (0, [some (.ref 102), some (.int x1_s)], [], h_s) (gI (fun _ h1 => hIw h1 ∧ aFr (aWf kE1124.2.2.2.2.2) h_s h1)) := cxI kok1124 (rel1 (n_s := 0) hI) hI.2 rfl rfl
theorem cm_101 {F_s : Nat}  {h_s : zH} (hI : hIw h_s) : wF F_s 101 (0, [some (.ref 6), none, none], [], h_s) (gI (fun _ h1 => hIw h1 ∧ aFr (aWf kE1121.2.2.2.2.2) h_s h1)) := cxI kok1121 (rel0 (n_s := 2) hI) hI.2 rfl rfl
theorem cm_177 {F_s : Nat}  {h_s : zH} (hI : hIw h_s) : wF F_s 177 (0, [some (.ref 102), none, none, none], [], h_s) (gI (fun _ h1 => hIw h1 ∧ aFr (aWf kE1122.2.2.2.2.2) h_s h1)) := cxI kok1122 (rel0 (n_s := 3) hI) hI.2 rfl rfl
theorem cm_102 {F_s : Nat} {x1_s : Int32} {x2_s : Int32} {h_s : zH} (hI : hIw h_s) : wF F_s 102 (0, [some (.ref 6), some (.int x1_s), some (.int x2_s)], [], h_s) (gI (fun _ h1 => hIw h1 ∧ aFr (aWf kE1013.2.2.2.2.2) h_s h1)) := cxI kok1013 (rel2 (n_s := 0) hI) hI.2 rfl rfl
theorem cm_181 {F_s : Nat} {x1_s : Int32} {x2_s : Int32} {h_s : zH} (hI : hIw h_s) : wF F_s 181 (0, [some (.ref 102), some (.int x1_s), some (.int x2_s)], [], h_s) (gI (fun _ h1 => hIw h1 ∧ aFr (aWf kE1014.2.2.2.2.2) h_s h1)) := cxI kok1014 (rel2 (n_s := 0) hI) hI.2 rfl rfl
theorem cm_103 {F_s : Nat} {x1_s : Int32} {x2_s : Int32} {x3 : Int32} {h_s : zH} (hI : hIw h_s) : wF F_s 103 (0, [some (.ref 6), some (.int x1_s), some (.int x2_s), some (.int x3), none, none, none], [], h_s) (gI (fun _ h1 => hIw h1 ∧ aFr (aWf kE1011.2.2.2.2.2) h_s h1)) := cxI kok1011 (rel3 (n_s := 3) hI) hI.2 rfl rfl
theorem cm_189 {F_s : Nat} {x1_s : Int32} {x2_s : Int32} {x3 : Int32} {h_s : zH} (hI : hIw h_s) : wF F_s 189 (0, [some (.ref 102), some (.int x1_s), some (.int x2_s), some (.int x3)], [], h_s) (gI (fun _ h1 => hIw h1 ∧ aFr (aWf kE1012.2.2.2.2.2) h_s h1)) := cxI kok1012 (rel3 (n_s := 0) hI) hI.2 rfl rfl
theorem cm_104 {F_s : Nat} {x1_s : Int32} {x2_s : Int32} {x3 : Int32} {h_s : zH} (hI : hIw h_s) : wF F_s 104 (0, [some (.ref 6), some (.int x1_s), some (.int x2_s), some (.int x3), none, none], [], h_s) (gI (fun _ h1 => hIw h1 ∧ aFr (aWf kE912.2.2.2.2.2) h_s h1)) := cxI kok912 (rel3 (n_s := 2) hI) hI.2 rfl rfl
theorem cm_191 {F_s : Nat} {x1_s : Int32} {x2_s : Int32} {x3 : Int32} {h_s : zH} (hI : hIw h_s) : wF F_s 191 (0, [some (.ref 102), some (.int x1_s), some (.int x2_s), some (.int x3), none], [], h_s) (gI (fun _ h1 => hIw h1 ∧ aFr (aWf kE1009.2.2.2.2.2) h_s h1)) := cxI kok1009 (rel3 (n_s := 1) hI) hI.2 rfl rfl
theorem cm_105 {F_s : Nat} {x1_s : Int32} {x2_s : Int32} {x3 : Int32} {h_s : zH} (hI : hIw h_s) : wF F_s 105 (0, [some (.ref 6), some (.int x1_s), some (.int x2_s), some (.int x3)], [], h_s) (gI (fun _ h1 => hIw h1 ∧ aFr (aWf kE304.2.2.2.2.2) h_s h1)) := cxI kok304 (rel3 (n_s := 0) hI) hI.2 rfl rfl
theorem cm_193 {F_s : Nat} {x1_s : Int32} {x2_s : Int32} {x3 : Int32} {h_s : zH} (hI : hIw h_s) : wF F_s 193 (0, [some (.ref 102), some (.int x1_s), some (.int x2_s), some (.int x3)], [], h_s) (gI (fun _ h1 => hIw h1 ∧ aFr (aWf kE560.2.2.2.2.2) h_s h1)) := cxI kok560 (rel3 (n_s := 0) hI) hI.2 rfl rfl
theorem cm_106 {F_s : Nat} {x1_s : Int32} {x2_s : Int32} {h_s : zH} (hI : hIw h_s) : wF F_s 106 (0, [some (.ref 6), some (.int x1_s), some (.int x2_s), none, none, none, none, none, none], [], h_s) (gI (fun _ h1 => hIw h1 ∧ aFr (aWf kE279.2.2.2.2.2) h_s h1)) := cxI kok279 (rel2 (n_s := 6) hI) hI.2 rfl rfl
theorem cm_194 {F_s : Nat} {x1_s : Int32} {x2_s : Int32} {h_s : zH} (hI : hIw h_s) : wF F_s 194 (0, [some (.ref 102), some (.int x1_s), some (.int x2_s), none, none, none], [], h_s) (gI (fun _ h1 => hIw h1 ∧ aFr (aWf kE280.2.2.2.2.2) h_s h1)) := cxI kok280 (rel2 (n_s := 3) hI) hI.2 rfl rfl
theorem cm_107 {F_s : Nat} {x1_s : Int32} {h_s : zH} (hI : hIw h_s) : wF F_s 107 (0, [some (.ref 6), some (.int x1_s)], [], h_s) (gI (fun _ h1 => hIw h1 ∧ aFr (aWf kE277.2.2.2.2.2) h_s h1)) := cxI kok277 (rel1 (n_s := 0) hI) hI.2 rfl rfl
theorem cm_199 {F_s : Nat} {x1_s : Int32} {h_s : zH} (hI : hIw h_s) : wF F_s 199 (0, [some (.ref 102), some (.int x1_s)], [], h_s) (gI (fun _ h1 => hIw h1 ∧ aFr (aWf kE278.2.2.2.2.2) h_s h1)) := cxI kok278 (rel1 (n_s := 0) hI) hI.2 rfl rfl
theorem cm_108 {F_s : Nat}  {h_s : zH} (hI : hIw h_s) : wF F_s 108 (0, [some (.ref 6)], [], h_s) (gI (fun _ h1 => hIw h1 ∧ aFr (aWf kE274.2.2.2.2.2) h_s h1)) := cxI kok274 (rel0 (n_s := 0) hI) hI.2 rfl rfl
theorem cm_200 {F_s : Nat}  {h_s : zH} (hI : hIw h_s) : wF F_s 200 (0, [some (.ref 102), none, none, none, none, none], [], h_s) (gI (fun _ h1 => hIw h1 ∧ aFr (aWf kE276.2.2.2.2.2) h_s h1)) := cxI kok276 (rel0 (n_s := 5) hI) hI.2 rfl rfl
theorem cm_109 {F_s : Nat} {x1_s : Int32} {h_s : zH} (hI : hIw h_s) : wF F_s 109 (0, [some (.ref 6), some (.int x1_s), none], [], h_s) (gI (fun _ h1 => hIw h1 ∧ aFr (aWf kE270.2.2.2.2.2) h_s h1)) := cxI kok270 (rel1 (n_s := 1) hI) hI.2 rfl rfl
theorem cm_202 {F_s : Nat} {x1_s : Int32} {h_s : zH} (hI : hIw h_s) : wF F_s 202 (0, [some (.ref 102), some (.int x1_s), none, none, none, none, none], [], h_s) (gI (fun _ h1 => hIw h1 ∧ aFr (aWf kE272.2.2.2.2.2) h_s h1)) := cxI kok272 (rel1 (n_s := 5) hI) hI.2 rfl rfl
theorem cm_110 {F_s : Nat} {x1_s : Int32} {x2_s : Int32} {h_s : zH} (hI : hIw h_s) : wF F_s 110 (0, [some (.ref 6), some (.int x1_s), some (.int x2_s), none], [], h_s) (gI (fun _ h1 => hIw h1 ∧ aFr (aWf kE265.2.2.2.2.2) h_s h1)) := cxI kok265 (rel2 (n_s := 1) hI) hI.2 rfl rfl
theorem cm_205 {F_s : Nat} {x1_s : Int32} {x2_s : Int32} {h_s : zH} (hI : hIw h_s) : wF F_s 205 (0, [some (.ref 102), some (.int x1_s), some (.int x2_s)], [], h_s) (gI (fun _ h1 => hIw h1 ∧ aFr (aWf kE266.2.2.2.2.2) h_s h1)) := cxI kok266 (rel2 (n_s := 0) hI) hI.2 rfl rfl
theorem cm_111 {F_s : Nat} {x1_s : Int32} {x2_s : Int32} {x3 : Int32} {h_s : zH} (hI : hIw h_s) : wF F_s 111 (0, [some (.ref 6), some (.int x1_s), some (.int x2_s), some (.int x3), none, none, none, none, none], [], h_s) (gI (fun _ h1 => hIw h1 ∧ aFr (aWf kE156.2.2.2.2.2) h_s h1)) := cxI kok156 (rel3 (n_s := 5) hI) hI.2 rfl rfl
theorem cm_206 {F_s : Nat} {x1_s : Int32} {x2_s : Int32} {x3 : Int32} {h_s : zH} (hI : hIw h_s) : wF F_s 206 (0, [some (.ref 102), some (.int x1_s), some (.int x2_s), some (.int x3), none, none, none, none], [], h_s) (gI (fun _ h1 => hIw h1 ∧ aFr (aWf kE261.2.2.2.2.2) h_s h1)) := cxI kok261 (rel3 (n_s := 4) hI) hI.2 rfl rfl
theorem cm_112 {F_s : Nat} {x1_s : Int32} {x2_s : Int32} {x3 : Int32} {h_s : zH} (hI : hIw h_s) : wF F_s 112 (0, [some (.ref 6), some (.int x1_s), some (.int x2_s), some (.int x3), none], [], h_s) (gI (fun _ h1 => hIw h1 ∧ aFr (aWf kE116.2.2.2.2.2) h_s h1)) := cxI kok116 (rel3 (n_s := 1) hI) hI.2 rfl rfl
theorem cm_208 {F_s : Nat} {x1_s : Int32} {x2_s : Int32} {x3 : Int32} {h_s : zH} (hI : hIw h_s) : wF F_s 208 (0, [some (.ref 102), some (.int x1_s), some (.int x2_s), some (.int x3), none], [], h_s) (gI (fun _ h1 => hIw h1 ∧ aFr (aWf kE137.2.2.2.2.2) h_s h1)) := cxI kok137 (rel3 (n_s := 1) hI) hI.2 rfl rfl
theorem cm_116 {F_s : Nat} {x1_s : Int32} {x2_s : Int32} {x3 : Int32} {x4_s : Int32} {h_s : zH} (hI : hIw h_s) : wF F_s 116 (0, [some (.ref 6), some (.int x1_s), some (.int x2_s), some (.int x3), some (.int x4_s), none, none, none, none, none, none, none, none, none], [], h_s) (gI (fun _ h1 => hIw h1 ∧ aFr (aWf kE100.2.2.2.2.2) h_s h1)) := cxI kok100 (rel4 (n_s := 9) hI) hI.2 rfl rfl
theorem cm_209 {F_s : Nat} {x1_s : Int32} {x2_s : Int32} {x3 : Int32} {x4_s : Int32} {h_s : zH} (hI : hIw h_s) : wF F_s 209 (0, [some (.ref 102), some (.int x1_s), some (.int x2_s), some (.int x3), some (.int x4_s), none, none, none, none, none, none], [], h_s) (gI (fun _ h1 => hIw h1 ∧ aFr (aWf kE101.2.2.2.2.2) h_s h1)) := cxI kok101 (rel4 (n_s := 6) hI) hI.2 rfl rfl
theorem cm_117 {F_s : Nat} {x1_s : Int32} {x2_s : Int32} {h_s : zH} (hI : hIw h_s) : wF F_s 117 (0, [some (.ref 6), some (.int x1_s), some (.int x2_s), none], [], h_s) (gI (fun _ h1 => hIw h1 ∧ aFr (aWf kE93.2.2.2.2.2) h_s h1)) := cxI kok93 (rel2 (n_s := 1) hI) hI.2 rfl rfl
theorem cm_211 {F_s : Nat} {x1_s : Int32} {x2_s : Int32} {h_s : zH} (hI : hIw h_s) : wF F_s 211 (0, [some (.ref 102), some (.int x1_s), some (.int x2_s), none], [], h_s) (gI (fun _ h1 => hIw h1 ∧ aFr (aWf kE95.2.2.2.2.2) h_s h1)) := cxI kok95 (rel2 (n_s := 1) hI) hI.2 rfl rfl
theorem cm_118 {F_s : Nat} {x1_s : Int32} {x2_s : Int32} {h_s : zH} (hI : hIw h_s) : wF F_s 118 (0, [some (.ref 6), some (.int x1_s), some (.int x2_s), none, none, none], [], h_s) (gI (fun _ h1 => hIw h1 ∧ aFr (aWf kE42.2.2.2.2.2) h_s h1)) := cxI kok42 (rel2 (n_s := 3) hI) hI.2 rfl rfl
theorem cm_212 {F_s : Nat} {x1_s : Int32} {x2_s : Int32} {h_s : zH} (hI : hIw h_s) : wF F_s 212 (0, [some (.ref 102), some (.int x1_s), some (.int x2_s)], [], h_s) (gI (fun _ h1 => hIw h1 ∧ aFr (aWf kE91.2.2.2.2.2) h_s h1)) := cxI kok91 (rel2 (n_s := 0) hI) hI.2 rfl rfl
theorem cm_119 {F_s : Nat}  {h_s : zH} (hI : hIw h_s) : wF F_s 119 (0, [some (.ref 6), none, none], [], h_s) (gI (fun _ h1 => hIw h1 ∧ aFr (aWf kE36.2.2.2.2.2) h_s h1)) := cxI kok36 (rel0 (n_s := 2) hI) hI.2 rfl rfl
theorem cm_213 {F_s : Nat}  {h_s : zH} (hI : hIw h_s) : wF F_s 213 (0, [some (.ref 102), none, none], [], h_s) (gI (fun _ h1 => hIw h1 ∧ aFr (aWf kE38.2.2.2.2.2) h_s h1)) := cxI kok38 (rel0 (n_s := 2) hI) hI.2 rfl rfl
theorem cm_120 {F_s : Nat} {x1_s : Int32} {h_s : zH} (hI : hIw h_s) : wF F_s 120 (0, [some (.ref 6), some (.int x1_s)], [], h_s) (gI (fun _ h1 => hIw h1 ∧ aFr (aWf kE30.2.2.2.2.2) h_s h1)) := cxI kok30 (rel1 (n_s := 0) hI) hI.2 rfl rfl
theorem cm_214 {F_s : Nat} {x1_s : Int32} {h_s : zH} (hI : hIw h_s) : wF F_s 214 (0, [some (.ref 102), some (.int x1_s)], [], h_s) (gI (fun _ h1 => hIw h1 ∧ aFr (aWf kE31.2.2.2.2.2) h_s h1)) := cxI kok31 (rel1 (n_s := 0) hI) hI.2 rfl rfl
theorem cm_121 {F_s : Nat}  {h_s : zH} (hI : hIw h_s) : wF F_s 121 (0, [some (.ref 6), none], [], h_s) (gI (fun _ h1 => hIw h1 ∧ aFr (aWf kE28.2.2.2.2.2) h_s h1)) := cxI kok28 (rel0 (n_s := 1) hI) hI.2 rfl rfl
theorem cm_215 {F_s : Nat}  {h_s : zH} (hI : hIw h_s) : wF F_s 215 (0, [some (.ref 102), none], [], h_s) (gI (fun _ h1 => hIw h1 ∧ aFr (aWf kE29.2.2.2.2.2) h_s h1)) := cxI kok29 (rel0 (n_s := 1) hI) hI.2 rfl rfl
theorem cm_122 {F_s : Nat}  {h_s : zH} (hI : hIw h_s) : wF F_s 122 (0, [some (.ref 6), none], [], h_s) (gI (fun _ h1 => hIw h1 ∧ aFr (aWf kE26.2.2.2.2.2) h_s h1)) := cxI kok26 (rel0 (n_s := 1) hI) hI.2 rfl rfl
theorem cm_216 {F_s : Nat}  {h_s : zH} (hI : hIw h_s) : wF F_s 216 (0, [some (.ref 102), none], [], h_s) (gI (fun _ h1 => hIw h1 ∧ aFr (aWf kE27.2.2.2.2.2) h_s h1)) := cxI kok27 (rel0 (n_s := 1) hI) hI.2 rfl rfl
theorem cm_123 {F_s : Nat}  {h_s : zH} (hI : hIw h_s) : wF F_s 123 (0, [some (.ref 6)], [], h_s) (gI (fun _ h1 => hIw h1 ∧ aFr (aWf kE24.2.2.2.2.2) h_s h1)) := cxI kok24 (rel0 (n_s := 0) hI) hI.2 rfl rfl
theorem cm_149 {F_s : Nat}  {h_s : zH} (hI : hIw h_s) : wF F_s 149 (0, [some (.ref 102)], [], h_s) (gI (fun _ h1 => hIw h1 ∧ aFr (aWf kE25.2.2.2.2.2) h_s h1)) := cxI kok25 (rel0 (n_s := 0) hI) hI.2 rfl rfl
theorem cm_124 {F_s : Nat}  {h_s : zH} (hI : hIw h_s) : wF F_s 124 (0, [some (.ref 6)], [], h_s) (gI (fun _ h1 => hIw h1 ∧ aFr (aWf kE22.2.2.2.2.2) h_s h1)) := cxI kok22 (rel0 (n_s := 0) hI) hI.2 rfl rfl
theorem cm_150 {F_s : Nat}  {h_s : zH} (hI : hIw h_s) : wF F_s 150 (0, [some (.ref 102)], [], h_s) (gI (fun _ h1 => hIw h1 ∧ aFr (aWf kE23.2.2.2.2.2) h_s h1)) := cxI kok23 (rel0 (n_s := 0) hI) hI.2 rfl rfl
theorem cm_125 {F_s : Nat} {x1_s : Int32} {h_s : zH} (hI : hIw h_s) : wF F_s 125 (0, [some (.ref 6), some (.int x1_s)], [], h_s) (gI (fun _ h1 => hIw h1 ∧ aFr (aWf kE20.2.2.2.2.2) h_s h1)) := cxI kok20 (rel1 (n_s := 0) hI) hI.2 rfl rfl
theorem cm_219 {F_s : Nat} {x1_s : Int32} {h_s : zH} (hI : hIw h_s) : wF F_s 219 (0, [some (.ref 102), some (.int x1_s)], [], h_s) (gI (fun _ h1 => hIw h1 ∧ aFr (aWf kE21.2.2.2.2.2) h_s h1)) := cxI kok21 (rel1 (n_s := 0) hI) hI.2 rfl rfl
theorem cm_126 {F_s : Nat} {x1_s : Int32} {x2_s : Int32} {x3 : Int32} {h_s : zH} (hI : hIw h_s) : wF F_s 126 (0, [some (.ref 6), some (.int x1_s), some (.int x2_s), some (.int x3)], [], h_s) (gI (fun _ h1 => hIw h1 ∧ aFr (aWf kE18.2.2.2.2.2) h_s h1)) := cxI kok18 (rel3 (n_s := 0) hI) hI.2 rfl rfl
theorem cm_226 {F_s : Nat} {x1_s : Int32} {x2_s : Int32} {x3 : Int32} {h_s : zH} (hI : hIw h_s) : wF F_s 226 (0, [some (.ref 102), some (.int x1_s), some (.int x2_s), some (.int x3)], [], h_s) (gI (fun _ h1 => hIw h1 ∧ aFr (aWf kE19.2.2.2.2.2) h_s h1)) := cxI kok19 (rel3 (n_s := 0) hI) hI.2 rfl rfl
theorem cm_127 {F_s : Nat} {x1_s : Int32} {h_s : zH} (hI : hIw h_s) : wF F_s 127 (0, [some (.ref 6), some (.int x1_s)], [], h_s) (gI (fun _ h1 => hIw h1 ∧ aFr (aWf kE16.2.2.2.2.2) h_s h1)) := cxI kok16 (rel1 (n_s := 0) hI) hI.2 rfl rfl
theorem cm_227 {F_s : Nat} {x1_s : Int32} {h_s : zH} (hI : hIw h_s) : wF F_s 227 (0, [some (.ref 102), some (.int x1_s)], [], h_s) (gI (fun _ h1 => hIw h1 ∧ aFr (aWf kE17.2.2.2.2.2) h_s h1)) := cxI kok17 (rel1 (n_s := 0) hI) hI.2 rfl rfl
theorem cm_128 {F_s : Nat} {x1_s : Int32} {x2_s : Int32} {h_s : zH} (hI : hIw h_s) : wF F_s 128 (0, [some (.ref 6), some (.int x1_s), some (.int x2_s)], [], h_s) (gI (fun _ h1 => hIw h1 ∧ aFr (aWf kE14.2.2.2.2.2) h_s h1)) := cxI kok14 (rel2 (n_s := 0) hI) hI.2 rfl rfl
theorem cm_229 {F_s : Nat} {x1_s : Int32} {x2_s : Int32} {h_s : zH} (hI : hIw h_s) : wF F_s 229 (0, [some (.ref 102), some (.int x1_s), some (.int x2_s)], [], h_s) (gI (fun _ h1 => hIw h1 ∧ aFr (aWf kE15.2.2.2.2.2) h_s h1)) := cxI kok15 (rel2 (n_s := 0) hI) hI.2 rfl rfl
theorem cm_129 {F_s : Nat} {x1_s : Int32} {x2_s : Int32} {x3 : Int32} {h_s : zH} (hI : hIw h_s) : wF F_s 129 (0, [some (.ref 6), some (.int x1_s), some (.int x2_s), some (.int x3)], [], h_s) (gI (fun _ h1 => hIw h1 ∧ aFr (aWf kE12.2.2.2.2.2) h_s h1)) := cxI kok12 (rel3 (n_s := 0) hI) hI.2 rfl rfl
theorem cm_230 {F_s : Nat} {x1_s : Int32} {x2_s : Int32} {x3 : Int32} {h_s : zH} (hI : hIw h_s) : wF F_s 230 (0, [some (.ref 102), some (.int x1_s), some (.int x2_s), some (.int x3), none], [], h_s) (gI (fun _ h1 => hIw h1 ∧ aFr (aWf kE13.2.2.2.2.2) h_s h1)) := cxI kok13 (rel3 (n_s := 1) hI) hI.2 rfl rfl
theorem cm_130 {F_s : Nat} {x1_s : Int32} {x2_s : Int32} {x3 : Int64} {h_s : zH} (hI : hIw h_s) : wF F_s 130 (0, [some (.ref 6), some (.int x1_s), some (.int x2_s), some (.long x3), none, none], [], h_s) (gI (fun _ h1 => hIw h1 ∧ aFr (aWf kE9.2.2.2.2.2) h_s h1)) := cxI kok9 (relp (n_s := 1) hI) hI.2 rfl rfl
theorem cm_233 {F_s : Nat} {x1_s : Int32} {x2_s : Int32} {x3 : Int64} {h_s : zH} (hI : hIw h_s) : wF F_s 233 (0, [some (.ref 102), some (.int x1_s), some (.int x2_s), some (.long x3), none, none], [], h_s) (gI (fun _ h1 => hIw h1 ∧ aFr (aWf kE10.2.2.2.2.2) h_s h1)) := cxI kok10 (relp (n_s := 1) hI) hI.2 rfl rfl
theorem cm_131 {F_s : Nat} {x1_s : Int32} {x2_s : Int32} {h_s : zH} (hI : hIw h_s) : wF F_s 131 (0, [some (.ref 6), some (.int x1_s), some (.int x2_s)], [], h_s) (gJ (fun _ h1 => hIw h1 ∧ aFr (aWf kE7.2.2.2.2.2) h_s h1)) := cxJ kok7 (rel2 (n_s := 0) hI) hI.2 rfl rfl
theorem cm_234 {F_s : Nat} {x1_s : Int32} {x2_s : Int32} {h_s : zH} (hI : hIw h_s) : wF F_s 234 (0, [some (.ref 102), some (.int x1_s), some (.int x2_s)], [], h_s) (gJ (fun _ h1 => hIw h1 ∧ aFr (aWf kE8.2.2.2.2.2) h_s h1)) := cxJ kok8 (rel2 (n_s := 0) hI) hI.2 rfl rfl
theorem cm_132 {F_s : Nat} {x1_s : Int32} {x2_s : Int32} {x3 : Int32} {x4_s : Int32} {x5_s : Int32} {h_s : zH} (hI : hIw h_s) : wF F_s 132 (0, [some (.ref 6), some (.int x1_s), some (.int x2_s), some (.int x3), some (.int x4_s), some (.int x5_s), none, none], [], h_s) (gI (fun _ h1 => hIw h1 ∧ aFr (aWf kE5.2.2.2.2.2) h_s h1)) := cxI kok5 (rel5 (n_s := 2) hI) hI.2 rfl rfl
theorem cm_235 {F_s : Nat} {x1_s : Int32} {x2_s : Int32} {x3 : Int32} {x4_s : Int32} {x5_s : Int32} {h_s : zH} (hI : hIw h_s) : wF F_s 235 (0, [some (.ref 102), some (.int x1_s), some (.int x2_s), some (.int x3), some (.int x4_s), some (.int x5_s), none], [], h_s) (gI (fun _ h1 => hIw h1 ∧ aFr (aWf kE6.2.2.2.2.2) h_s h1)) := cxI kok6 (rel5 (n_s := 1) hI) hI.2 rfl rfl
theorem cm_133 {F_s : Nat} {x1_s : Int32} {x2_s : Int32} {h_s : zH} (hI : hIw h_s) : wF F_s 133 (0, [some (.ref 6), some (.int x1_s), some (.int x2_s), none, none], [], h_s) (gI (fun _ h1 => hIw h1 ∧ aFr (aWf kE3.2.2.2.2.2) h_s h1)) := cxI kok3 (rel2 (n_s := 2) hI) hI.2 rfl rfl
theorem cm_236 {F_s : Nat} {x1_s : Int32} {x2_s : Int32} {h_s : zH} (hI : hIw h_s) : wF F_s 236 (0, [some (.ref 102), some (.int x1_s), some (.int x2_s), none], [], h_s) (gI (fun _ h1 => hIw h1 ∧ aFr (aWf kE4.2.2.2.2.2) h_s h1)) := cxI kok4 (rel2 (n_s := 1) hI) hI.2 rfl rfl
theorem cm_134 {F_s : Nat} {x1_s : Int32} {h_s : zH} (hI : hIw h_s) : wF F_s 134 (0, [some (.ref 6), some (.int x1_s)], [], h_s) (gI (fun _ h1 => hIw h1 ∧ aFr (aWf kE0.2.2.2.2.2) h_s h1)) := cxI kok0 (rel1 (n_s := 0) hI) hI.2 rfl rfl
theorem cm_237 {F_s : Nat} {x1_s : Int32} {h_s : zH} (hI : hIw h_s) : wF F_s 237 (0, [some (.ref 102), some (.int x1_s)], [], h_s) (gI (fun _ h1 => hIw h1 ∧ aFr (aWf kE1.2.2.2.2.2) h_s h1)) := cxI kok1 (rel1 (n_s := 0) hI) hI.2 rfl rfl
