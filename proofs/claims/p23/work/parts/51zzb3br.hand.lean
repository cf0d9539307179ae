/-! THE EDGE: class and reference, answers too. -/
def edR (W_s : Int32 → Int) : Nat → Int32 → Int32 → Int32
  | 0, _, b_s => b_s
  | d_s + 1, v_s, b_s => edR W_s d_s (v_s + 1) (if W_s v_s = -2 then b_s ||| (1 <<< (v_s &&& 31)) else b_s)
theorem goF_fr2 {lw : Option (List pB)} {f_s f1_s : Nat → Nat → Int32} {o : oI} {r_s : Nat} (e_s : ∀ k_s, 68 ≤ k_s → f1_s 103 k_s = f_s 103 k_s) : goF lw f1_s o r_s = goF lw f_s o r_s := by
  unfold goF
  rw [e_s _ (by omega), e_s _ (by omega), e_s _ (by omega)]
theorem goJ_fr2 {lw : Option (List pB)} {f_s f1_s : Nat → Nat → Int32} {c_s : Nat → Int64} (e_s : ∀ k_s, 68 ≤ k_s → f1_s 103 k_s = f_s 103 k_s) : goJ lw f1_s c_s = goJ lw f_s c_s := by
  funext o k_s
  exact goF_fr2 e_s
theorem owI_at {nh ni nr i_s j_s : Nat} {f_s f1_s : Nat → Nat → Int32} {v_s : Int32} (hc_s : tM nh ni nr f_s) (hi_s : i_s < ni) (hj : j_s < 2) (e1_s : f1_s 103 (12 + 8 * j_s + i_s) = v_s) (e2_s : ∀ k_s, ¬ k_s = 12 + 8 * j_s + i_s → f1_s 103 k_s = f_s 103 k_s) : owI f1_s i_s = oset (owI f_s i_s) j_s v_s := by
  have b_s := hc_s.1
  have hd_s := tM_hd hc_s hi_s
  funext k_s
  by_cases e_s : k_s = j_s
  · rw [e_s, os_eq, owI_lo (by omega)]
    exact e1_s
  · rw [os_ne e_s]
    by_cases k6_s : k_s < 6
    · rw [owI_lo k6_s, owI_lo k6_s]
      exact e2_s _ (by omega)
    · unfold owI
      rw [if_neg k6_s, if_neg k6_s, e2_s (60 + i_s) (by omega)]
      by_cases c_s : (f_s 103 (60 + i_s)).toInt < 0
      · rw [if_pos c_s, if_pos c_s]
      · rw [if_neg c_s, if_neg c_s]
        have z_s := azix (i := f_s 103 (60 + i_s)) (by omega)
        exact e2_s _ (by omega)
theorem oB_at {o : oI} {j_s : Nat} {v_s : Int32} (hB_s : oB o) (hj : j_s < 2) (v0_s : 0 ≤ v_s.toInt) (v1_s : v_s.toInt ≤ mxw (j_s + 2)) : oB (oset o j_s v_s) := by
  have mx_s : (j_s = 0 → mxw (j_s + 2) = 3) ∧ (j_s = 1 → mxw (j_s + 2) = 5) := ⟨fun e_s => by rw [e_s]; rfl, fun e_s => by rw [e_s]; rfl⟩
  have m0_s := mx_s.1
  have m1_s := mx_s.2
  unfold oB at hB_s ⊢
  by_cases e_s : j_s = 0
  · subst e_s
    have m0_s := m0_s rfl
    rw [os_eq, os_ne (show ¬ 1 = 0 by decide), os_ne (show ¬ 2 = 0 by decide), os_ne (show ¬ 3 = 0 by decide), os_ne (show ¬ 4 = 0 by decide), os_ne (show ¬ 5 = 0 by decide), os_ne (show ¬ 6 = 0 by decide)]
    exact ⟨⟨v0_s, by omega⟩, hB_s.2⟩
  · have e1_s : j_s = 1 := by omega
    subst e1_s
    have m1_s := m1_s rfl
    rw [os_eq, os_ne (show ¬ 0 = 1 by decide), os_ne (show ¬ 2 = 1 by decide), os_ne (show ¬ 3 = 1 by decide), os_ne (show ¬ 4 = 1 by decide), os_ne (show ¬ 5 = 1 by decide), os_ne (show ¬ 6 = 1 by decide)]
    exact ⟨hB_s.1, ⟨v0_s, by omega⟩, hB_s.2.2⟩
section EE_s
variable {h_s : zH} {K_s : Int32 → zH → Prop} {nh ni nr q_s L_s i_s j_s : Nat} {lw : Option (List pB)} {x1_s x2_s x3 x4_s x5_s : Int32} {f0_s : Nat → Nat → Int32} {c_s told_s : Nat → Int64} {R_s : Int32} {W_s : Int32 → Int}
theorem e111 (hk : hKn h_s) (hr9 : h_s.2.2.2 7 9 = some q_s) (hm_s : q_s = 14 ∨ q_s = 17) (hl : lawC q_s f0_s lw) (hp : lwP lw) (hc_s : tC nh ni nr f0_s) (hi_s : i_s < ni) (e2_s : x2_s.toInt = (i_s : Int)) (hj : j_s < 2) (e3_s : x3.toInt = (j_s : Int)) (e5_s : x5_s.toInt = mxw (j_s + 2)) (eL : (f0_s 50 1).toInt = (L_s : Int)) (es : ∀ k_s, k_s < L_s → f0_s 51 k_s = (c_s k_s).toInt32) (ok_s : ∀ k_s, k_s < L_s → okK nr (c_s k_s)) (ht : ∀ n_s, n_s < 60 → h_s.2.2.1 (76 + 2 * zix (x1_s - x1_s / 10 * 10) + 1) n_s = told_s n_s) (c0_s : 0 ≤ (f0_s (76 + 2 * zix (x1_s - x1_s / 10 * 10)) 3).toInt) (c60 : (f0_s (76 + 2 * zix (x1_s - x1_s / 10 * 10)) 3).toInt ≤ 60) (eW : ∀ v_s, W_s v_s = ffR (goJ lw f0_s c_s) told_s L_s (f0_s (76 + 2 * zix (x1_s - x1_s / 10 * 10)) 3).toInt.toNat 0 (oset (owI f0_s i_s) j_s v_s)) (t_s : ∀ f1_s, frJ f0_s f1_s → K_s R_s (h_s.1, f1_s, h_s.2.2.1, h_s.2.2.2)) : ∀ (F_s n_s d_s : Nat) (x6 x7 : Int32) (l8 : Option Value) (f_s : Nat → Nat → Int32), frJ f0_s f_s → x7.toInt = (n_s : Int) → ((n_s + d_s : Nat) : Int) = mxw (j_s + 2) + 1 → edR W_s d_s x7 x6 = R_s → wF F_s 111 (84, [some (.ref 6), some (.int x1_s), some (.int x2_s), some (.int x3), some (.int x4_s), some (.int x5_s), some (.int x6), some (.int x7), l8], [], (h_s.1, f_s, h_s.2.2.1, h_s.2.2.2)) (gI K_s)
  | 0, _, _, _, _, _, _, _, _, _, _ => wF_zero
  | F_s + 1, n_s, d_s, x6, x7, l8, f_s, g_s, e7_s, ed, hR => by
    have b_s := hc_s.1
    have mx_s : (j_s = 0 → mxw (j_s + 2) = 3) ∧ (j_s = 1 → mxw (j_s + 2) = 5) := ⟨fun e_s => by rw [e_s]; rfl, fun e_s => by rw [e_s]; rfl⟩
    refine sg_111_84 (h_s := (h_s.1, f_s, h_s.2.2.1, h_s.2.2.2)) hk ?_
    match d_s, ed, hR with
    | 0, ed, hR =>
      refine ⟨fun _ => ?_, fun c1_s => absurd (show x5_s.toInt < x7.toInt by omega) c1_s⟩
      have e_s : x6 = R_s := hR
      rw [e_s]
      exact t_s f_s g_s
    | d_s + 1, ed, hR =>
      refine ⟨fun c1_s => absurd c1_s (by omega), fun c1_s => ?_⟩
      refine sp_139 (h_s := (h_s.1, f_s, h_s.2.2.1, h_s.2.2.2)) (f0_s := f_s) hk e2_s (by omega) (fun f1_s t1_s t2_s hk1 => ?_)
      have hR : edR W_s d_s (x7 + 1) (if W_s x7 = -2 then x6 ||| (1 <<< (x7 &&& 31)) else x6) = R_s := hR
      have hc1 : tC nh ni nr f_s := tC_fr (fun a_s k_s w_s => g_s a_s k_s (by unfold inC at w_s; omega) (by unfold inC at w_s; omega) (by unfold inC at w_s; omega) (by unfold inC at w_s; omega) (by unfold inC at w_s; omega)) hc_s
      have eo : owI f_s i_s = owI f0_s i_s := owI_fr (fun k_s => g_s 103 k_s (by omega) (by omega) (by omega) (by omega) (by omega))
      have cw1 : cwO f1_s 88 (owI f0_s i_s) := by
        rw [← eo]
        exact th_cw hc1 hi_s t1_s (t2_s _ _ (by omega)) (fun k_s => t2_s _ _ (by omega))
      have nx : (zix (x1_s - x1_s / 10 * 10) < 6) → wF F_s 51 (0, [some (.ref 50), some (.ref 88), some (.ref (76 + 2 * (zix (x1_s - x1_s / 10 * 10)))), some (.ref 7), none, none], [], (h_s.1, zup f1_s 88 j_s x7, h_s.2.2.1, h_s.2.2.2)) (gI (fun v5 h5 => hKn h5 → (v5.toInt = -2 → wF F_s 111 (84, [some (.ref 6), some (.int x1_s), some (.int x2_s), some (.int x3), some (.int x4_s), some (.int x5_s), some (.int (x6 ||| (1 <<< (x7 &&& 31)))), some (.int (x7 + 1)), some (.ref 88)], [], h5) (gI K_s)) ∧ (¬ v5.toInt = -2 → wF F_s 111 (84, [some (.ref 6), some (.int x1_s), some (.int x2_s), some (.int x3), some (.int x4_s), some (.int x5_s), some (.int x6), some (.int (x7 + 1)), some (.ref 88)], [], h5) (gI K_s)))) := fun hs6 => by
        have fz : ∀ a_s k_s, ¬ a_s = 13 → ¬ a_s = 16 → ¬ a_s = 19 → ¬ (a_s = 88 ∧ k_s < 7) → ¬ (a_s = 50 ∧ (k_s = 2 ∨ k_s = 3)) → zup f1_s 88 j_s x7 a_s k_s = f0_s a_s k_s := fun a_s k_s q1_s q2_s q3_s q4_s q5_s => by
          rw [zne_up (by omega), t2_s a_s k_s q4_s]
          exact g_s a_s k_s q1_s q2_s q3_s q4_s q5_s
        have hcz : tC nh ni nr (zup f1_s 88 j_s x7) := tC_fr (fun a_s k_s w_s => fz a_s k_s (by unfold inC at w_s; omega) (by unfold inC at w_s; omega) (by unfold inC at w_s; omega) (by unfold inC at w_s; omega) (by unfold inC at w_s; omega)) hc_s
        have lz : lawC q_s (zup f1_s 88 j_s x7) lw := lawC_fr hm_s (fun a_s k_s w_s => fz a_s k_s (by omega) (by omega) (by omega) (by omega) (by omega)) hl
        have ec : zup f1_s 88 j_s x7 (76 + 2 * zix (x1_s - x1_s / 10 * 10)) 3 = f0_s (76 + 2 * zix (x1_s - x1_s / 10 * 10)) 3 := fz _ _ (by omega) (by omega) (by omega) (by omega) (by omega)
        refine sp_51 (h_s := (h_s.1, zup f1_s 88 j_s x7, h_s.2.2.1, h_s.2.2.2)) (f0_s := zup f1_s 88 j_s x7) (L_s := L_s) (c_s := c_s) (told_s := told_s) (o := oset (owI f0_s i_s) j_s x7) hk1 hs6 hr9 hm_s lz hp hcz (by rw [fz 50 1 (by omega) (by omega) (by omega) (by omega) (by omega)]; exact eL) (fun k_s hkL => by rw [fz 51 k_s (by omega) (by omega) (by omega) (by omega) (by omega)]; exact es k_s hkL) ok_s ht (by rw [ec]; exact c0_s) (by rw [ec]; exact c60) (cwO_up (by decide) (by decide) (by omega) cw1) (oB_at (tC_oB hc_s hi_s) hj (by omega) (by omega)) (fun v5 f5_s ev_s fr5 hk5 => ?_)
        rw [goJ_fr (f_s := f0_s) (fun k_s => fz 103 k_s (by omega) (by omega) (by omega) (by omega) (by omega)), ec, ← eW] at ev_s
        have g5_s : frJ f0_s f5_s := fun a_s k_s q1_s q2_s q3_s q4_s q5_s => by
          rw [fr5 a_s k_s q1_s q2_s q3_s q4_s q5_s]
          exact fz a_s k_s q1_s q2_s q3_s q4_s q5_s
        have e8 : (x7 + 1).toInt = ((n_s + 1 : Nat) : Int) := by
          rw [in1_ (by omega), e7_s]
          omega
        refine ⟨fun w_s => ?_, fun w_s => ?_⟩
        · rw [if_pos (by omega)] at hR
          exact e111 hk hr9 hm_s hl hp hc_s hi_s e2_s hj e3_s e5_s eL es ok_s ht c0_s c60 eW t_s F_s (n_s + 1) d_s _ (x7 + 1) _ f5_s g5_s e8 (by omega) hR
        · rw [if_neg (by omega)] at hR
          exact e111 hk hr9 hm_s hl hp hc_s hi_s e2_s hj e3_s e5_s eL es ok_s ht c0_s c60 eW t_s F_s (n_s + 1) d_s _ (x7 + 1) _ f5_s g5_s e8 (by omega) hR
      refine ⟨fun w0_s => fun c6_s => ?_, fun w0_s => fun c6_s => ?_⟩
      · have ej : j_s = 0 := by omega
        rw [ej] at nx
        exact nx c6_s
      · have ej : j_s = 1 := by omega
        rw [ej] at nx
        exact nx c6_s
/-- the reference -/
theorem e206 {s1_s s2_s : Nat} (hk : hKn h_s) (hc_s : tM nh ni nr f0_s) (hl : lawR f0_s lw) (hp : lwP lw) (hj : j_s < 2) (e2_s : x2_s.toInt = (i_s : Int)) (hi_s : i_s < ni) (e3_s : x3.toInt = (j_s : Int)) (e4_s : zix x4_s = 12 + 8 * j_s + i_s) (e5_s : x5_s = f0_s 103 (12 + 8 * j_s + i_s)) (d1_s : (x1_s / 10).toInt = (s1_s : Int)) (d2_s : (x1_s - x1_s / 10 * 10).toInt = (s2_s : Int)) (hs1 : s1_s < 6) (hs2 : s2_s < 6) (n0_s : 0 ≤ (f0_s 125 s1_s).toInt) (n2_s : 0 ≤ (f0_s 125 s2_s).toInt) (c60 : (f0_s 125 s2_s).toInt ≤ 60) (ec : ∀ k_s, c_s k_s = h_s.2.2.1 126 (60 * s1_s + k_s)) (et : ∀ n_s, told_s n_s = h_s.2.2.1 126 (60 * s2_s + n_s)) (hJ : isJ nr c_s (f0_s 125 s1_s).toInt L_s) (eW : ∀ v_s, W_s v_s = ffR (goJ lw f0_s c_s) told_s L_s (f0_s 125 s2_s).toInt.toNat 0 (oset (owI f0_s i_s) j_s v_s)) (t_s : ∀ f1_s, frG f0_s f1_s → K_s R_s (h_s.1, f1_s, h_s.2.2.1, h_s.2.2.2)) : ∀ (F_s n_s d_s : Nat) (x6 x7 : Int32) (f_s : Nat → Nat → Int32), x7.toInt = (n_s : Int) → ((n_s + d_s : Nat) : Int) = mxw (j_s + 2) + 1 → edR W_s d_s x7 x6 = R_s → (∀ a_s k_s, ¬ a_s = 111 → ¬ a_s = 112 → ¬ (a_s = 102 ∧ (15 ≤ k_s ∧ k_s ≤ 19 ∨ k_s = 22 ∨ k_s = 23)) → ¬ (a_s = 103 ∧ k_s = 12 + 8 * j_s + i_s) → f_s a_s k_s = f0_s a_s k_s) → wF F_s 206 (74, [some (.ref 102), some (.int x1_s), some (.int x2_s), some (.int x3), some (.int x4_s), some (.int x5_s), some (.int x6), some (.int x7)], [], (h_s.1, f_s, h_s.2.2.1, h_s.2.2.2)) (gI K_s)
  | 0, _, _, _, _, _, _, _, _, _ => wF_zero
  | F_s + 1, n_s, d_s, x6, x7, f_s, e7_s, ed, hR, g_s => by
    have b_s := hc_s.1
    have mx_s : (j_s = 0 → mxw (j_s + 2) = 3) ∧ (j_s = 1 → mxw (j_s + 2) = 5) := ⟨fun e_s => by rw [e_s]; rfl, fun e_s => by rw [e_s]; rfl⟩
    have fin_s : x6 = R_s → K_s x6 (h_s.1, zup f_s 103 (12 + 8 * j_s + i_s) x5_s, h_s.2.2.1, h_s.2.2.2) := fun e6_s => by
      rw [e6_s]
      refine t_s _ (fun a_s k_s q1_s q2_s q3_s => ?_)
      by_cases e_s : a_s = 103 ∧ k_s = 12 + 8 * j_s + i_s
      · rw [e_s.1, e_s.2, zsame_up]
        exact e5_s
      · rw [zne_up e_s]
        exact g_s a_s k_s q1_s q2_s q3_s e_s
    refine sg_206_74 (h_s := (h_s.1, f_s, h_s.2.2.1, h_s.2.2.2)) hk ?_
    dsimp only
    rw [e4_s]
    match d_s, ed, hR with
    | 0, ed, hR =>
      have e6_s : x6 = R_s := hR
      refine ⟨fun c1_s => ⟨fun c2_s => fun c3_s => fin_s e6_s, fun c2_s => absurd (show 3 < x7.toInt by have := mx_s.1 (by omega); omega) c2_s⟩, fun c1_s => ⟨fun c7_s => fun c8_s => fin_s e6_s, fun c7_s => absurd (show 5 < x7.toInt by have := mx_s.2 (by omega); omega) c7_s⟩⟩
    | d_s + 1, ed, hR =>
      have hR : edR W_s d_s (x7 + 1) (if W_s x7 = -2 then x6 ||| (1 <<< (x7 &&& 31)) else x6) = R_s := hR
      have nx : wF F_s 204 (0, [some (.ref 102), some (.int x1_s), some (.int x2_s), none, none], [], (h_s.1, zup f_s 103 (12 + 8 * j_s + i_s) x7, h_s.2.2.1, h_s.2.2.2)) (gI (fun v5 h5 => hKn h5 → (v5.toInt = -2 → wF F_s 206 (74, [some (.ref 102), some (.int x1_s), some (.int x2_s), some (.int x3), some (.int x4_s), some (.int x5_s), some (.int (x6 ||| (1 <<< (x7 &&& 31)))), some (.int (x7 + 1))], [], h5) (gI K_s)) ∧ (¬ v5.toInt = -2 → wF F_s 206 (74, [some (.ref 102), some (.int x1_s), some (.int x2_s), some (.int x3), some (.int x4_s), some (.int x5_s), some (.int (x6 ||| 0)), some (.int (x7 + 1))], [], h5) (gI K_s)))) := by
        have fz : ∀ a_s k_s, ¬ a_s = 111 → ¬ a_s = 112 → ¬ (a_s = 102 ∧ (15 ≤ k_s ∧ k_s ≤ 19 ∨ k_s = 22 ∨ k_s = 23)) → ¬ (a_s = 103 ∧ k_s = 12 + 8 * j_s + i_s) → zup f_s 103 (12 + 8 * j_s + i_s) x7 a_s k_s = f0_s a_s k_s := fun a_s k_s q1_s q2_s q3_s q4_s => by
          rw [zne_up q4_s]
          exact g_s a_s k_s q1_s q2_s q3_s q4_s
        have m1_s : tM nh ni nr (zup f_s 103 (12 + 8 * j_s + i_s) x7) := tM_at (i_s := i_s) hc_s hj (by omega) (by rw [zsame_up]; omega) (by rw [zsame_up]; omega) (fun k_s k6_s k8_s => fz _ _ (by omega) (by omega) (by omega) (by omega)) (fun k_s _ hk1 => fz _ _ (by omega) (by omega) (by omega) (by omega))
        have l1 : lawR (zup f_s 103 (12 + 8 * j_s + i_s) x7) lw := lawR_fr (fz _ _ (by omega) (by omega) (by omega) (by omega)) (fun k_s _ => fz _ _ (by omega) (by omega) (by omega) (by omega)) hl
        have e25_s : ∀ k_s, zup f_s 103 (12 + 8 * j_s + i_s) x7 125 k_s = f0_s 125 k_s := fun k_s => fz _ _ (by omega) (by omega) (by omega) (by omega)
        have eo : owI (zup f_s 103 (12 + 8 * j_s + i_s) x7) i_s = oset (owI f0_s i_s) j_s x7 := owI_at hc_s hi_s hj zsame_up (fun k_s hk1 => fz _ _ (by omega) (by omega) (by omega) (by omega))
        have eg : goJ lw (zup f_s 103 (12 + 8 * j_s + i_s) x7) c_s = goJ lw f0_s c_s := goJ_fr2 (fun k_s hk1 => fz _ _ (by omega) (by omega) (by omega) (by omega))
        refine sp_204 (i_s := i_s) (s1_s := s1_s) (s2_s := s2_s) (L_s := L_s) (c_s := c_s) (told_s := told_s) hk m1_s l1 hp e2_s hi_s d1_s d2_s hs1 hs2 (by rw [e25_s]; exact n0_s) (by rw [e25_s]; exact n2_s) (by rw [e25_s]; exact c60) ec et (by rw [e25_s]; exact hJ) (fun v5 f5_s ev_s g5_s hk5 => ?_)
        rw [eo, eg, e25_s, ← eW] at ev_s
        have g6 : ∀ a_s k_s, ¬ a_s = 111 → ¬ a_s = 112 → ¬ (a_s = 102 ∧ (15 ≤ k_s ∧ k_s ≤ 19 ∨ k_s = 22 ∨ k_s = 23)) → ¬ (a_s = 103 ∧ k_s = 12 + 8 * j_s + i_s) → f5_s a_s k_s = f0_s a_s k_s := fun a_s k_s q1_s q2_s q3_s q4_s => by
          rw [g5_s a_s k_s q1_s q2_s q3_s]
          exact fz a_s k_s q1_s q2_s q3_s q4_s
        have e8 : (x7 + 1).toInt = ((n_s + 1 : Nat) : Int) := by
          rw [in1_ (by omega), e7_s]
          omega
        refine ⟨fun w_s => ?_, fun w_s => ?_⟩
        · rw [if_pos (by omega)] at hR
          exact e206 hk hc_s hl hp hj e2_s hi_s e3_s e4_s e5_s d1_s d2_s hs1 hs2 n0_s n2_s c60 ec et hJ eW t_s F_s (n_s + 1) d_s _ (x7 + 1) f5_s e8 (by omega) hR g6
        · rw [if_neg (by omega)] at hR
          rw [Int32.or_zero]
          exact e206 hk hc_s hl hp hj e2_s hi_s e3_s e4_s e5_s d1_s d2_s hs1 hs2 n0_s n2_s c60 ec et hJ eW t_s F_s (n_s + 1) d_s _ (x7 + 1) f5_s e8 (by omega) hR g6
      refine ⟨fun c1_s => ⟨fun c2_s => absurd c2_s (by have := mx_s.1 (by omega); omega), fun c2_s => fun c4_s => nx⟩, fun c1_s => ⟨fun c7_s => absurd c7_s (by have := mx_s.2 (by omega); omega), fun c7_s => fun c9_s => nx⟩⟩
end EE_s
