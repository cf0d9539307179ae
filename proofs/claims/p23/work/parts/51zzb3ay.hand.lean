/-! UNDONE, DONE AGAIN; what numbers are. -/
section U8
variable {F_s : Nat} {h_s : zH} {K_s : Int32 → zH → Prop} {V : zH → Prop} {nh ni nr : Nat} {x1_s x2_s x3 : Int32} {f_s : Nat → Nat → Int32}
theorem okN_V {n_s w_s : Nat} (hw : w_s < 12) (ok_s : okN nh ni nr n_s w_s) : isV nh ni nr (n_s : Int) (w_s : Int) := by
  unfold okN at ok_s
  unfold isV
  by_cases w2_s : w_s < 2
  · rw [if_pos w2_s] at ok_s
    omega
  · rw [if_neg w2_s] at ok_s
    by_cases w9 : w_s < 9
    · rw [if_pos w9] at ok_s
      omega
    · rw [if_neg w9] at ok_s
      omega
theorem cO_r8 {n_s w_s : Nat} (b_s : nh ≤ 6 ∧ ni ≤ 8 ∧ nr ≤ 12) (hw : w_s < 12) (ok_s : okN nh ni nr n_s w_s) : (cO n_s w_s = 8 ∨ cO n_s w_s = 9 ∨ 20 ≤ cO n_s w_s) ∧ cO n_s w_s < 40 ∧ plc n_s w_s < 104 := by
  unfold okN at ok_s
  by_cases w2_s : w_s < 2
  · rw [if_pos w2_s] at ok_s
    rw [cO_h w2_s, plc_h w2_s]
    omega
  · rw [if_neg w2_s] at ok_s
    by_cases w9 : w_s < 9
    · rw [if_pos w9] at ok_s
      rw [cO_i (by omega) w9, plc_i (by omega) w9]
      omega
    · rw [if_neg w9] at ok_s
      rw [cO_r (by omega), plc_r (by omega)]
      omega
/-- what undo and redo leave of the state -/
theorem tX_move {u_s r_s u1_s r1_s n_s w_s : Nat} {v_s : Int32} {h2 : zH} (hc_s : tC nh ni nr h_s.2.1) (hi_ : tI nh ni nr h_s.2.1) (hd_s : tD h_s.2.1) (hz : tZ h_s.2.1) (hl : tLw h_s) (hall : ∀ k_s, k_s < u_s + r_s → chT nh ni nr h_s.2.1 k_s) (hs : u1_s + r1_s = u_s + r_s) (hb_s : u_s + r_s ≤ 40) (hw : w_s < 12) (ok_s : okN nh ni nr n_s w_s) (hB_s : vB nh nr n_s w_s v_s.toInt) (e1_s : h2.2.1 (cO n_s w_s) (cF n_s w_s) = v_s) (e2_s : h2.2.1 103 (plc n_s w_s) = v_s) (e3_s : (h2.2.1 42 0).toInt = (u1_s : Int)) (e4_s : (h2.2.1 42 1).toInt = (r1_s : Int)) (e5_s : (h2.2.1 102 5).toInt = (u1_s : Int)) (e6_s : h2.2.1 102 4 = h_s.2.1 102 4) (e7_s : (h_s.2.1 102 4).toInt = ((u_s + r_s : Nat) : Int)) (hr : ∀ k_s, h2.2.2.2 7 k_s = h_s.2.2.2 7 k_s) (hf : ∀ a_s k_s, ¬ (a_s = 42 ∧ k_s < 2) → ¬ (a_s = 102 ∧ k_s = 5) → ¬ (a_s = cO n_s w_s ∧ k_s = cF n_s w_s) → ¬ (a_s = 103 ∧ k_s = plc n_s w_s) → h2.2.1 a_s k_s = h_s.2.1 a_s k_s) : tX h2 := by
  obtain ⟨q1_s, q2_s, q3_s⟩ := cO_r8 hc_s.1 hw ok_s
  refine ⟨nh, ni, nr, tC_set hc_s hw ok_s hB_s e1_s e2_s (fun a_s k_s qc s1_s s2_s => hf a_s k_s ?_ ?_ s1_s s2_s), ⟨u1_s, r1_s, by omega, e3_s, e4_s, e5_s, by rw [e6_s, e7_s, hs], fun k_s hk => chT_fr (fun o ho => hf o k_s ?_ ?_ ?_ ?_) (hall k_s (by omega))⟩, tI_fr (fun a_s k_s q_s => hf a_s k_s ?_ ?_ ?_ ?_) hi_ hc_s.1.2.1, tD_fr (fun a_s k_s q_s => hf a_s k_s ?_ ?_ ?_ ?_) hd_s, tZ_fr (fun a_s k_s q_s => hf a_s k_s ?_ ?_ ?_ ?_) hz, tLw_fr hr (fun a_s k_s q_s => hf a_s k_s ?_ ?_ ?_ ?_) hl⟩
  · unfold inC at qc
    omega
  · unfold inC at qc
    omega
  · omega
  · omega
  · omega
  · omega
  · unfold inI at q_s
    omega
  · unfold inI at q_s
    omega
  · unfold inI at q_s
    omega
  · unfold inI at q_s
    omega
  · unfold inD at q_s
    omega
  · unfold inD at q_s
    omega
  · unfold inD at q_s
    omega
  · unfold inD at q_s
    omega
  · unfold inZ at q_s
    omega
  · unfold inZ at q_s
    omega
  · unfold inZ at q_s
    omega
  · unfold inZ at q_s
    omega
  · unfold inW at q_s
    omega
  · unfold inW at q_s
    omega
  · unfold inW at q_s
    omega
  · unfold inW at q_s
    omega
theorem pr_undo (hk : hKn h_s) (hx : tX h_s) : wF F_s 123 (0, [some (.ref 6)], [], h_s) (gI (fun v_s h1 => wF F_s 149 (0, [some (.ref 102)], [], h1) (gI (fun v2 h2 => v_s = v2 ∧ tX h2)))) := by
  obtain ⟨nh, ni, nr, hc_s, hh, hi_, hd_s, hz, hl⟩ := hx
  have hx : tX h_s := ⟨nh, ni, nr, hc_s, hh, hi_, hd_s, hz, hl⟩
  obtain ⟨u_s, r_s, u1_s, u2_s, u3, u4_s, u5, u6⟩ := hh
  have ee : h_s.2.1 42 0 = h_s.2.1 102 5 := Int32.toInt_inj.mp (u2_s.trans u4_s.symm)
  refine wF_le (Nat.le_succ F_s) (sg_123_0 hk ⟨fun c_s => ?_, fun c_s => ?_⟩)
  · exact wF_le (Nat.le_succ F_s) (sg_149_0 hk ⟨fun _ => ⟨rfl, hx⟩, fun c1_s => absurd (show (h_s.2.1 102 5).toInt = 0 by omega) c1_s⟩)
  · have u0 : 0 < u_s := by omega
    have em : (h_s.2.1 42 0 - 1).toInt = ((u_s - 1 : Nat) : Int) := by rw [sub_i (by omega) (by decide), n1_]; omega
    have z_s := azix (i := h_s.2.1 42 0 - 1) (by omega)
    have ez : zix (h_s.2.1 42 0 - 1) = u_s - 1 := by omega
    have ez5 : zix (h_s.2.1 102 5 - 1) = u_s - 1 := by rw [← ee]; exact ez
    obtain ⟨n_s, w_s, hw, ok_s, b3, b4, b5, b6, b7, b8, b9⟩ := u6 (u_s - 1) (by omega)
    have cc := cO_r8 hc_s.1 hw ok_s
    have z4 := azix (i := h_s.2.1 104 (u_s - 1)) (by omega)
    have ez4 : zix (h_s.2.1 104 (u_s - 1)) = plc n_s w_s := by omega
    refine wF_le (Nat.le_succ F_s) (sg_11_0 hk ⟨fun _ _ => ?_, fun c1_s => absurd (show 0 < (h_s.2.1 42 0).toInt by omega) c1_s⟩)
    rw [ez]
    generalize hg : zup (zup h_s.2.1 42 0 (h_s.2.1 42 0 - 1)) 42 1 (h_s.2.1 42 1 + 1) = g_s
    have gf : ∀ a_s k_s, ¬ (a_s = 42 ∧ k_s < 2) → g_s a_s k_s = h_s.2.1 a_s k_s := fun a_s k_s q_s => by rw [← hg, zne_up (by omega), zne_up (by omega)]
    have g0 : g_s 42 0 = h_s.2.1 42 0 - 1 := by rw [← hg, zne_up (by omega), zsame_up]
    have g1 : g_s 42 1 = h_s.2.1 42 1 + 1 := by rw [← hg, zsame_up]
    refine sp_21 (h_s := (h_s.1, g_s, h_s.2.2.1, h_s.2.2.2)) (f_s := g_s) (nh := nh) (ni := ni) (nr := nr) hk (by rw [gf _ _ (by omega)]; exact hc_s.2.1.1) (by rw [gf _ _ (by omega)]; exact hc_s.2.1.2.1) (by rw [gf _ _ (by omega)]; exact hc_s.2.1.2.2) (by rw [b3, b4]; exact okN_V hw ok_s) (fun n1_s w1_s d1_s d2_s _ => fun _ => ?_)
    have en : n1_s = n_s := by omega
    have ew : w1_s = w_s := by omega
    subst en
    subst ew
    have k0_s : zup g_s (cO n1_s w1_s) (cF n1_s w1_s) (h_s.2.1 45 (u_s - 1)) 42 0 = h_s.2.1 42 0 - 1 := by rw [zne_up (by omega)]; exact g0
    dsimp only
    rw [k0_s]
    have f2_s : ∀ a_s k_s, 41 ≤ a_s → ¬ (a_s = 42 ∧ k_s < 2) → zup g_s (cO n1_s w1_s) (cF n1_s w1_s) (h_s.2.1 45 (u_s - 1)) a_s k_s = h_s.2.1 a_s k_s := fun a_s k_s h1 h2 => by rw [zne_up (by omega), gf a_s k_s h2]
    refine wF_le (Nat.le_succ F_s) (sg_149_0 (h_s := (h_s.1, zup g_s (cO n1_s w1_s) (cF n1_s w1_s) (h_s.2.1 45 (u_s - 1)), h_s.2.2.1, h_s.2.2.2)) hk ?_)
    dsimp only
    rw [f2_s 102 5 (by omega) (by omega), ez5, f2_s 104 _ (by omega) (by omega), f2_s 105 _ (by omega) (by omega), ez4]
    refine ⟨fun c1_s => absurd c1_s (by omega), fun _ _ _ => ⟨by rw [ee], ?_⟩⟩
    refine tX_move (h_s := h_s) (u_s := u_s) (r_s := r_s) (u1_s := u_s - 1) (r1_s := r_s + 1) (n_s := n1_s) (w_s := w1_s) (v_s := h_s.2.1 45 (u_s - 1)) hc_s hi_ hd_s hz hl u6 (by omega) u1_s hw ok_s b8 ?_ ?_ ?_ ?_ ?_ ?_ u5 (fun _ => rfl) (fun a_s k_s s1_s s2_s s3_s s4_s => ?_)
    · dsimp only
      rw [zne_up (by omega), zne_up (by omega), zsame_up]
    · dsimp only
      rw [zsame_up]
      exact b6
    · dsimp only
      rw [zne_up (by omega), zne_up (by omega), k0_s]
      exact em
    · dsimp only
      rw [zne_up (by omega), zne_up (by omega), zne_up (by omega), g1, in1_ (by omega), u3]
      omega
    · dsimp only
      rw [zne_up (by omega), zsame_up, ← ee]
      exact em
    · dsimp only
      rw [zne_up (by omega), zne_up (by omega)]
      exact f2_s 102 4 (by omega) (by omega)
    · dsimp only
      rw [zne_up s4_s, zne_up s2_s, zne_up s3_s]
      exact gf a_s k_s s1_s
theorem pr_redo (hk : hKn h_s) (hx : tX h_s) : wF F_s 124 (0, [some (.ref 6)], [], h_s) (gI (fun v_s h1 => wF F_s 150 (0, [some (.ref 102)], [], h1) (gI (fun v2 h2 => v_s = v2 ∧ tX h2)))) := by
  obtain ⟨nh, ni, nr, hc_s, hh, hi_, hd_s, hz, hl⟩ := hx
  have hx : tX h_s := ⟨nh, ni, nr, hc_s, hh, hi_, hd_s, hz, hl⟩
  obtain ⟨u_s, r_s, u1_s, u2_s, u3, u4_s, u5, u6⟩ := hh
  have ee : h_s.2.1 42 0 = h_s.2.1 102 5 := Int32.toInt_inj.mp (u2_s.trans u4_s.symm)
  refine wF_le (Nat.le_succ F_s) (sg_124_0 hk ⟨fun c_s => ?_, fun c_s => ?_⟩)
  · exact wF_le (Nat.le_succ F_s) (sg_150_0 hk ⟨fun _ => ⟨rfl, hx⟩, fun c1_s => absurd (show (h_s.2.1 102 5).toInt = (h_s.2.1 102 4).toInt by omega) c1_s⟩)
  · have r0 : 0 < r_s := by omega
    obtain ⟨p1_s, p2_s, _⟩ := ic1 u2_s (by omega)
    obtain ⟨p5_s, p6_s, _⟩ := ic1 u4_s (by omega)
    obtain ⟨n_s, w_s, hw, ok_s, b3, b4, b5, b6, b7, b8, b9⟩ := u6 u_s (by omega)
    have cc := cO_r8 hc_s.1 hw ok_s
    have z4 := azix (i := h_s.2.1 104 u_s) (by omega)
    have ez4 : zix (h_s.2.1 104 u_s) = plc n_s w_s := by omega
    refine wF_le (Nat.le_succ F_s) (sg_12_0 hk ⟨fun _ => ⟨fun _ _ => ?_, fun c1_s => absurd (show (h_s.2.1 42 0).toInt < 40 by omega) c1_s⟩, fun c1_s => absurd (show 0 < (h_s.2.1 42 1).toInt by omega) c1_s⟩)
    rw [p2_s]
    refine sp_21 (h_s := h_s) (f_s := h_s.2.1) (nh := nh) (ni := ni) (nr := nr) hk hc_s.2.1.1 hc_s.2.1.2.1 hc_s.2.1.2.2 (by rw [b3, b4]; exact okN_V hw ok_s) (fun n1_s w1_s d1_s d2_s _ => fun _ => ?_)
    have en : n1_s = n_s := by omega
    have ew : w1_s = w_s := by omega
    subst en
    subst ew
    dsimp only
    generalize hg : zup h_s.2.1 (cO n1_s w1_s) (cF n1_s w1_s) (h_s.2.1 46 u_s) = g_s
    have gf : ∀ a_s k_s, ¬ (a_s = cO n1_s w1_s ∧ k_s = cF n1_s w1_s) → g_s a_s k_s = h_s.2.1 a_s k_s := fun a_s k_s q_s => by rw [← hg, zne_up q_s]
    have ge : g_s (cO n1_s w1_s) (cF n1_s w1_s) = h_s.2.1 46 u_s := by rw [← hg, zsame_up]
    have q0 : g_s 42 0 = h_s.2.1 42 0 := gf 42 0 (by omega)
    have q1_s : g_s 42 1 = h_s.2.1 42 1 := gf 42 1 (by omega)
    rw [q0, q1_s, zsame_up]
    have f2_s : ∀ a_s k_s, 47 ≤ a_s → zup (zup g_s 42 0 (h_s.2.1 42 0 + 1)) 42 1 (h_s.2.1 42 1 - 1) a_s k_s = h_s.2.1 a_s k_s := fun a_s k_s h1 => by rw [zne_up (by omega), zne_up (by omega), gf a_s k_s (by omega)]
    have em : (h_s.2.1 42 1 - 1).toInt = ((r_s - 1 : Nat) : Int) := by rw [sub_i (by omega) (by decide), n1_]; omega
    have ek : (h_s.2.1 102 4 - (h_s.2.1 102 5 + 1)).toInt = ((r_s - 1 : Nat) : Int) := by
      rw [na_sub (by omega) (by omega), u5, p5_s]
      omega
    refine wF_le (Nat.le_succ F_s) (sg_150_0 (h_s := (h_s.1, zup (zup g_s 42 0 (h_s.2.1 42 0 + 1)) 42 1 (h_s.2.1 42 1 - 1), h_s.2.2.1, h_s.2.2.2)) hk ?_)
    dsimp only
    rw [f2_s 102 5 (by omega), f2_s 102 4 (by omega), p6_s, f2_s 104 _ (by omega), f2_s 106 _ (by omega), ez4]
    refine ⟨fun c1_s => absurd c1_s (by omega), fun _ _ _ => ⟨Int32.toInt_inj.mp (em.trans ek.symm), ?_⟩⟩
    refine tX_move (h_s := h_s) (u_s := u_s) (r_s := r_s) (u1_s := u_s + 1) (r1_s := r_s - 1) (n_s := n1_s) (w_s := w1_s) (v_s := h_s.2.1 46 u_s) hc_s hi_ hd_s hz hl u6 (by omega) u1_s hw ok_s b9 ?_ ?_ ?_ ?_ ?_ ?_ u5 (fun _ => rfl) (fun a_s k_s s1_s s2_s s3_s s4_s => ?_)
    · dsimp only
      rw [zne_up (by omega), zne_up (by omega), zne_up (by omega), zne_up (by omega)]
      exact ge
    · dsimp only
      rw [zne_up (by omega), zsame_up]
      exact b7
    · dsimp only
      rw [zne_up (by omega), zne_up (by omega), zne_up (by omega), zsame_up]
      exact p1_s
    · dsimp only
      rw [zne_up (by omega), zne_up (by omega), zsame_up]
      exact em
    · dsimp only
      rw [zsame_up]
      exact p5_s
    · dsimp only
      rw [zne_up (by omega), zne_up (by omega)]
      exact f2_s 102 4 (by omega)
    · dsimp only
      rw [zne_up s2_s, zne_up s4_s, zne_up (by omega), zne_up (by omega)]
      exact gf a_s k_s s3_s
/-- of -/
def valM (f_s : Nat → Nat → Int32) (n_s w_s : Nat) : Int32 := if w_s < 12 then f_s 103 (plc n_s w_s) else if w_s = 12 then f_s 107 n_s else if w_s = 13 then f_s 108 n_s else 9 - f_s 103 (28 + n_s) / 11
theorem sp_164 (hk : hKn h_s) (hc_s : tM nh ni nr f_s) (t0_s : ¬ isT nh ni nr x1_s.toInt x2_s.toInt → K_s (-2000000000) (h_s.1, f_s, h_s.2.2.1, h_s.2.2.2)) (t1_s : isT nh ni nr x1_s.toInt x2_s.toInt → ∀ n_s w_s : Nat, x1_s.toInt = (n_s : Int) → x2_s.toInt = (w_s : Int) → K_s (valM f_s n_s w_s) (h_s.1, f_s, h_s.2.2.1, h_s.2.2.2)) : wF F_s 164 (0, [some (.ref 102), some (.int x1_s), some (.int x2_s), none], [], (h_s.1, f_s, h_s.2.2.1, h_s.2.2.2)) (gI K_s) := by
  have b_s := hc_s.1
  refine wF_le (Nat.le_succ F_s) (sg_164_0 (h_s := (h_s.1, f_s, h_s.2.2.1, h_s.2.2.2)) hk ?_)
  refine sp_161 hk hc_s.1 hc_s.2.1.1 hc_s.2.1.2.1 hc_s.2.1.2.2 (fun q_s _ => ⟨fun _ => ?_, fun c_s => absurd (show (-1 : Int32).toInt < 0 by decide) c_s⟩) (fun q_s n_s w_s v_s e1_s e2_s e3_s _ => ⟨fun c_s => absurd c_s (by omega), fun _ _ => ?_⟩)
  · have nq : isT nh ni nr x1_s.toInt x2_s.toInt → 12 ≤ x2_s.toInt := fun p_s => by
      by_cases c_s : x2_s.toInt ≤ 11
      · exact absurd (isV_T.mpr ⟨p_s, c_s⟩) q_s
      · omega
    have t0_s : ¬ isT nh ni nr x1_s.toInt x2_s.toInt → K_s (-2000000000) (h_s.1, f_s, h_s.2.2.1, h_s.2.2.2) := t0_s
    have g12 : x2_s.toInt = 12 → 0 ≤ x1_s.toInt → x1_s.toInt < (nr : Int) → K_s (f_s 107 (zix x1_s)) (h_s.1, f_s, h_s.2.2.1, h_s.2.2.2) := fun q1_s q2_s q3_s => t1_s (by unfold isT; omega) (zix x1_s) 12 (azix q2_s).symm q1_s
    have g13 : x2_s.toInt = 13 → 0 ≤ x1_s.toInt → x1_s.toInt < (nr : Int) → K_s (f_s 108 (zix x1_s)) (h_s.1, f_s, h_s.2.2.1, h_s.2.2.2) := fun q1_s q2_s q3_s => t1_s (by unfold isT; omega) (zix x1_s) 13 (azix q2_s).symm q1_s
    have g14 : x2_s.toInt = 14 → 0 ≤ x1_s.toInt → x1_s.toInt < (ni : Int) → K_s (9 - f_s 103 (zix (28 + x1_s)) / 11) (h_s.1, f_s, h_s.2.2.1, h_s.2.2.2) := fun q1_s q2_s q3_s => by
      have z_s := azix (i := x1_s) q2_s
      have z28_s : zix (28 + x1_s) = 28 + zix x1_s := zxa (c_s := 28) (a_s := 28) rfl z_s.symm (by omega)
      rw [z28_s]
      exact t1_s (by unfold isT; omega) (zix x1_s) 14 z_s.symm q1_s
    dsimp only
    rw [sb1 hc_s.2.1.2.1, sb1 hc_s.2.1.2.2]
    unfold isT at t0_s nq
    refine ⟨fun c3_s => ⟨fun c4_s => ?_, fun c4_s => ⟨fun c6_s => ⟨fun c8_s => ?_, fun c8_s => ⟨fun c9_s => fun c10_s => ?_, fun c9_s => ⟨fun c11_s => fun c12_s => ?_, fun c11_s => ?_⟩⟩⟩, fun c6_s => fun c13_s => ?_⟩⟩, fun c3_s => ⟨fun c14_s => ?_, fun c14_s => ⟨fun c15_s => ?_, fun c15_s => ⟨fun c16 => fun c17 => ?_, fun c16 => ⟨fun c18_s => fun c19_s => ?_, fun c18_s => ?_⟩⟩⟩⟩⟩
    all_goals first | exact t0_s (by omega) | exact g12 (by omega) (by omega) (by omega) | exact g13 (by omega) (by omega) (by omega) | exact g14 (by omega) (by omega) (by omega) | (exfalso; omega)
  · have hw : w_s < 12 := by
      have p_s := (isV_T.mp q_s).2
      omega
    have z_s := azix (i := v_s) (by omega)
    have ez : zix v_s = plc n_s w_s := by omega
    dsimp only
    rw [ez]
    have u_s := t1_s (isV_T.mp q_s).1 n_s w_s e1_s e2_s
    unfold valM at u_s
    rw [if_pos hw] at u_s
    exact u_s
theorem pr_of (hk : hKn h_s) (hx : tX h_s) : wF F_s 99 (0, [some (.ref 6), some (.int x1_s), some (.int x2_s)], [], h_s) (gI (fun v_s h1 => wF F_s 164 (0, [some (.ref 102), some (.int x1_s), some (.int x2_s), none], [], h1) (gI (fun v2 _ => v_s = v2)))) := by
  obtain ⟨nh, ni, nr, hc_s, hh, hi_, hd_s, hz, hl⟩ := hx
  have b_s := hc_s.1
  refine wF_le (Nat.le_succ F_s) (sg_99_0 hk ?_)
  refine sp_20 (f_s := h_s.2.1) hk hc_s.2.1.1 hc_s.2.1.2.1 hc_s.2.1.2.2 (fun q_s _ => ?_) (fun q_s n_s w_s e1_s e2_s _ => ?_)
  · exact sp_164 (f_s := h_s.2.1) hk (tC_M hc_s) (fun _ => rfl) (fun p_s => absurd p_s q_s)
  · refine sp_164 (f_s := h_s.2.1) hk (tC_M hc_s) (fun p_s => absurd q_s p_s) (fun _ n1_s w1_s d1_s d2_s => ?_)
    have en : n1_s = n_s := by omega
    have ew : w1_s = w_s := by omega
    subst en
    subst ew
    unfold isT at q_s
    unfold valC valM
    by_cases c_s : w1_s < 12
    · rw [if_pos c_s, if_pos c_s]
      have hcap : n1_s < cap w1_s ∧ (w1_s = 8 → n1_s < ni) := by
        unfold cap
        by_cases w2_s : w1_s < 2
        · rw [if_pos w2_s]
          omega
        · rw [if_neg w2_s]
          by_cases w9 : w1_s < 9
          · rw [if_pos w9]
            omega
          · rw [if_neg w9]
            omega
      exact (hc_s.2.2.2.1 n1_s w1_s c_s hcap.1 hcap.2).1
    · rw [if_neg c_s, if_neg c_s]
      by_cases c2_s : w1_s = 12
      · rw [if_pos c2_s, if_pos c2_s]
        exact (hc_s.2.2.2.2.2 n1_s (by omega)).1.1
      · rw [if_neg c2_s, if_neg c2_s]
        by_cases c3_s : w1_s = 13
        · rw [if_pos c3_s, if_pos c3_s]
          exact (hc_s.2.2.2.2.2 n1_s (by omega)).1.2
        · rw [if_neg c3_s, if_neg c3_s]
          have u_s := (tC_own (i_s := n1_s) (k_s := 2) hc_s (by omega) (by omega)).1
          have u_s : h_s.2.1 (20 + n1_s) 2 = h_s.2.1 103 (28 + n1_s) := u_s
          rw [u_s]
end U8
