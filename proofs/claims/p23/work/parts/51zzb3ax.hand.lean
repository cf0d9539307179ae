/-! NUMBERS told, UNDONE, DONE AGAIN: class and reference. -/
section N7
variable {F_s : Nat} {h_s : zH} {K_s : Int32 → zH → Prop} {V : zH → Prop} {nh ni nr : Nat} {x1_s x2_s x3 x4_s : Int32} {f_s : Nat → Nat → Int32}
theorem tC_set {f2_s : Nat → Nat → Int32} {n_s w_s : Nat} {v_s : Int32} (hc_s : tC nh ni nr f_s) (hw : w_s < 12) (ok_s : okN nh ni nr n_s w_s) (hB_s : vB nh nr n_s w_s v_s.toInt) (e1_s : f2_s (cO n_s w_s) (cF n_s w_s) = v_s) (e2_s : f2_s 103 (plc n_s w_s) = v_s) (hf : ∀ a_s k_s, inC a_s k_s → ¬ (a_s = cO n_s w_s ∧ k_s = cF n_s w_s) → ¬ (a_s = 103 ∧ k_s = plc n_s w_s) → f2_s a_s k_s = f_s a_s k_s) : tC nh ni nr f2_s := by
  obtain ⟨a0_s, ⟨a1_s, a2, a3⟩, ⟨a4, a5, a6⟩, a7, a8, a9⟩ := hc_s
  have pos_s : (8 ≤ cO n_s w_s ∧ cO n_s w_s < 40) ∧ plc n_s w_s < 104 ∧ (28 ≤ cO n_s w_s → 2 ≤ cF n_s w_s) ∧ (20 ≤ cO n_s w_s → cO n_s w_s < 28 → cO n_s w_s = 20 + n_s ∧ n_s < ni) := by
    unfold okN at ok_s
    by_cases w2_s : w_s < 2
    · rw [if_pos w2_s] at ok_s
      rw [cO_h w2_s, cF_h w2_s, plc_h w2_s]
      omega
    · rw [if_neg w2_s] at ok_s
      by_cases w9 : w_s < 9
      · rw [if_pos w9] at ok_s
        rw [cO_i (by omega) w9, cF_i (by omega) w9, plc_i (by omega) w9]
        omega
      · rw [if_neg w9] at ok_s
        rw [cO_r (by omega), cF_r (by omega), plc_r (by omega)]
        omega
  obtain ⟨q1_s, q2_s, q3_s, q4_s⟩ := pos_s
  have f7_s : ∀ a_s k_s, (a_s = 7 ∨ a_s = 102) ∧ 6 ≤ k_s ∧ k_s ≤ 8 → f2_s a_s k_s = f_s a_s k_s := fun a_s k_s q_s => hf a_s k_s (by unfold inC; omega) (by omega) (by omega)
  have inj : ∀ n1_s w1_s, w1_s < 12 → n1_s < cap w1_s → ¬ (n1_s = n_s ∧ w1_s = w_s) → ¬ (cO n1_s w1_s = cO n_s w_s ∧ cF n1_s w1_s = cF n_s w_s) ∧ ¬ plc n1_s w1_s = plc n_s w_s := by
    intro n1_s w1_s hw1 hn1 hne
    unfold okN at ok_s
    by_cases w2_s : w_s < 2
    · rw [if_pos w2_s] at ok_s
      rw [cO_h w2_s, cF_h w2_s, plc_h w2_s]
      by_cases v2 : w1_s < 2
      · rw [cap_h v2] at hn1
        rw [cO_h v2, cF_h v2, plc_h v2]
        omega
      · by_cases v9 : w1_s < 9
        · rw [cap_i (by omega) v9] at hn1
          rw [cO_i (by omega) v9, cF_i (by omega) v9, plc_i (by omega) v9]
          omega
        · rw [cap_r (by omega)] at hn1
          rw [cO_r (by omega), cF_r (by omega), plc_r (by omega)]
          omega
    · rw [if_neg w2_s] at ok_s
      by_cases w9 : w_s < 9
      · rw [if_pos w9] at ok_s
        rw [cO_i (by omega) w9, cF_i (by omega) w9, plc_i (by omega) w9]
        by_cases v2 : w1_s < 2
        · rw [cap_h v2] at hn1
          rw [cO_h v2, cF_h v2, plc_h v2]
          omega
        · by_cases v9 : w1_s < 9
          · rw [cap_i (by omega) v9] at hn1
            rw [cO_i (by omega) v9, cF_i (by omega) v9, plc_i (by omega) v9]
            omega
          · rw [cap_r (by omega)] at hn1
            rw [cO_r (by omega), cF_r (by omega), plc_r (by omega)]
            omega
      · rw [if_neg w9] at ok_s
        rw [cO_r (n_s := n_s) (w_s := w_s) (by omega), cF_r (n_s := n_s) (w_s := w_s) (by omega), plc_r (n_s := n_s) (w_s := w_s) (by omega)]
        by_cases v2 : w1_s < 2
        · rw [cap_h v2] at hn1
          rw [cO_h v2, cF_h v2, plc_h v2]
          omega
        · by_cases v9 : w1_s < 9
          · rw [cap_i (by omega) v9] at hn1
            rw [cO_i (by omega) v9, cF_i (by omega) v9, plc_i (by omega) v9]
            omega
          · rw [cap_r (by omega)] at hn1
            rw [cO_r (by omega), cF_r (by omega), plc_r (by omega)]
            omega
  refine ⟨a0_s, ⟨?_, ?_, ?_⟩, ⟨?_, ?_, ?_⟩, fun n1_s w1_s hw1 hn1 h8 => ?_, fun j_s j1 j2_s => ?_, fun r_s hr => ?_⟩
  · rw [f7_s 7 6 (by omega)]
    exact a1_s
  · rw [f7_s 7 7 (by omega)]
    exact a2
  · rw [f7_s 7 8 (by omega)]
    exact a3
  · rw [f7_s 102 6 (by omega)]
    exact a4
  · rw [f7_s 102 7 (by omega)]
    exact a5
  · rw [f7_s 102 8 (by omega)]
    exact a6
  · by_cases e_s : n1_s = n_s ∧ w1_s = w_s
    · obtain ⟨rfl, rfl⟩ := e_s
      rw [e1_s, e2_s]
      exact ⟨rfl, hB_s⟩
    · obtain ⟨i1_s, i2_s⟩ := inj n1_s w1_s hw1 hn1 e_s
      have lt_s := plc_lt hw1 hn1
      have c3_s : ¬ cO n1_s w1_s = 103 := by
        have ci := cell_in hw1 hn1
        intro c_s
        rw [c_s] at ci
        by_cases v2 : w1_s < 2
        · rw [cO_h v2] at c_s
          omega
        · by_cases v9 : w1_s < 9
          · rw [cap_i (by omega) v9] at hn1
            rw [cO_i (by omega) v9] at c_s
            omega
          · rw [cap_r (by omega)] at hn1
            rw [cO_r (by omega)] at c_s
            omega
      rw [hf _ _ (cell_in hw1 hn1) i1_s (fun c_s => c3_s c_s.1), hf 103 _ (by unfold inC; omega) (fun c_s => absurd c_s.1 (by omega)) (fun c_s => i2_s c_s.2)]
      exact a7 n1_s w1_s hw1 hn1 h8
  · rw [hf (20 + j_s) 6 (by unfold inC; omega) (fun c_s => by have := q4_s (by omega) (by omega); omega) (by omega)]
    exact a8 j_s j1 j2_s
  · have q_s := fun a_s k_s (qa : (a_s = 28 + r_s ∧ k_s < 2) ∨ ((a_s = 107 ∨ a_s = 108) ∧ k_s = r_s)) => hf a_s k_s (by unfold inC; omega) (by omega) (by omega)
    rw [q_s (28 + r_s) 0 (by omega), q_s (28 + r_s) 1 (by omega), q_s 107 r_s (by omega), q_s 108 r_s (by omega)]
    exact a9 r_s hr
/-- forgetFirst, note -/
theorem sp_10 (hk : hKn h_s) (t_s : ∀ f1_s, (f1_s 42 0).toInt = 39 → (∀ o k_s, 43 ≤ o → o ≤ 46 → k_s < 39 → f1_s o k_s = f_s o (k_s + 1)) → (∀ a_s k_s, ¬ (43 ≤ a_s ∧ a_s ≤ 46 ∧ k_s < 39) → ¬ (a_s = 42 ∧ k_s = 0) → f1_s a_s k_s = f_s a_s k_s) → V (h_s.1, f1_s, h_s.2.2.1, h_s.2.2.2)) : wF F_s 10 (0, [some (.ref 42)], [], (h_s.1, f_s, h_s.2.2.1, h_s.2.2.2)) (gV V) := by
  refine wF_le (Nat.le_succ F_s) (sg_10_0 (h_s := (h_s.1, f_s, h_s.2.2.1, h_s.2.2.2)) hk (fun _ _ _ _ => ?_))
  dsimp only
  refine t_s _ ?_ (fun o k_s h1 h2 h3 => ?_) (fun a_s k_s q1_s q2_s => ?_)
  · simp (disch := omega) only [zrw_n, zsame_up]
    rfl
  · have e_s : o = 43 ∨ o = 44 ∨ o = 45 ∨ o = 46 := by omega
    have e1_s : 1 + (k_s - 0) = k_s + 1 := by omega
    rcases e_s with e_s | e_s | e_s | e_s <;> (subst e_s; simp (disch := omega) only [zrw_s, zrw_n, zcp_i, zne_up, e1_s])
  · by_cases e_s : a_s = 43 ∨ a_s = 44 ∨ a_s = 45 ∨ a_s = 46
    · rcases e_s with e_s | e_s | e_s | e_s <;> (subst e_s; simp (disch := omega) only [zrw_s, zrw_n, zcp_o, zne_up])
    · simp (disch := omega) only [zrw_n, zne_up]
theorem sp_9 {u_s : Nat} (hk : hKn h_s) (hu : (f_s 42 0).toInt = (u_s : Int)) (hb_s : u_s ≤ 40) (t_s : ∀ f1_s u0 s_s, u0 + s_s = u_s → (s_s = 0 ∧ u_s < 40 ∨ s_s = 1 ∧ u_s = 40) → (∀ o k_s, 43 ≤ o → o ≤ 46 → k_s < u0 → f1_s o k_s = f_s o (k_s + s_s)) → f1_s 43 u0 = x1_s → f1_s 44 u0 = x2_s → f1_s 45 u0 = x3 → f1_s 46 u0 = x4_s → (f1_s 42 0).toInt = ((u0 + 1 : Nat) : Int) → (f1_s 42 1).toInt = 0 → (∀ a_s k_s, ¬ (43 ≤ a_s ∧ a_s ≤ 46 ∧ k_s < 40) → ¬ (a_s = 42 ∧ k_s < 2) → f1_s a_s k_s = f_s a_s k_s) → V (h_s.1, f1_s, h_s.2.2.1, h_s.2.2.2)) : wF F_s 9 (0, [some (.ref 42), some (.int x1_s), some (.int x2_s), some (.int x3), some (.int x4_s)], [], (h_s.1, f_s, h_s.2.2.1, h_s.2.2.2)) (gV V) := by
  refine wF_le (Nat.le_succ F_s) (sg_9_0 (h_s := (h_s.1, f_s, h_s.2.2.1, h_s.2.2.2)) hk ⟨fun (c1_s : (f_s 42 0).toInt < 40) => fun _ => ?_, fun (c1_s : ¬ (f_s 42 0).toInt < 40) => ?_⟩)
  · obtain ⟨p1_s, p2_s, _⟩ := ic1 hu (by omega)
    dsimp only
    rw [p2_s]
    refine t_s _ u_s 0 rfl (Or.inl ⟨rfl, by omega⟩) (fun o k_s h1 h2 h3 => ?_) ?_ ?_ ?_ ?_ ?_ ?_ (fun a_s k_s q1_s q2_s => ?_)
    · simp (disch := omega) only [zne_up]
      rfl
    · simp (disch := omega) only [zne_up, zsame_up]
    · simp (disch := omega) only [zne_up, zsame_up]
    · simp (disch := omega) only [zne_up, zsame_up]
    · simp (disch := omega) only [zne_up, zsame_up]
    · rw [zsame_up]
      exact p1_s
    · simp (disch := omega) only [zne_up, zsame_up]
      rfl
    · simp (disch := omega) only [zne_up]
  · have hu4 : u_s = 40 := by omega
    refine sp_10 (h_s := (h_s.1, zup f_s 42 1 0, h_s.2.2.1, h_s.2.2.2)) (f_s := zup f_s 42 1 0) hk (fun f1_s g1 g2 g3_s _ => fun _ => ?_)
    obtain ⟨p1_s, p2_s, _⟩ := ic1 (n_s := 39) g1 (by omega)
    have g2' : ∀ o k_s, 43 ≤ o → o ≤ 46 → k_s < 39 → f1_s o k_s = f_s o (k_s + 1) := fun o k_s h1 h2 h3 => by
      rw [g2 o k_s h1 h2 h3, zne_up (by omega)]
    have g3' : ∀ a_s k_s, ¬ (43 ≤ a_s ∧ a_s ≤ 46 ∧ k_s < 39) → ¬ (a_s = 42 ∧ k_s < 2) → f1_s a_s k_s = f_s a_s k_s := fun a_s k_s q1_s q2_s => by
      rw [g3_s a_s k_s q1_s (by omega), zne_up (by omega)]
    have g421 : f1_s 42 1 = 0 := by rw [g3_s 42 1 (by omega) (by omega), zsame_up]
    dsimp only
    rw [p2_s]
    refine t_s _ 39 1 (by omega) (Or.inr ⟨rfl, hu4⟩) (fun o k_s h1 h2 h3 => ?_) ?_ ?_ ?_ ?_ ?_ ?_ (fun a_s k_s q1_s q2_s => ?_)
    · simp (disch := omega) only [zne_up]
      exact g2' o k_s h1 h2 h3
    · simp (disch := omega) only [zne_up, zsame_up]
    · simp (disch := omega) only [zne_up, zsame_up]
    · simp (disch := omega) only [zne_up, zsame_up]
    · simp (disch := omega) only [zne_up, zsame_up]
    · rw [zsame_up]
      exact p1_s
    · simp (disch := omega) only [zne_up]
      rw [g421]
      rfl
    · simp (disch := omega) only [zne_up]
      exact g3' a_s k_s (by omega) q2_s
/-- mend, the class -/
theorem sp_98 {u_s : Nat} (hk : hKn h_s) (c6_s : (f_s 7 6).toInt = (nh : Int)) (c7_s : (f_s 7 7).toInt = (ni : Int)) (c8_s : (f_s 7 8).toInt = (nr : Int)) (b_s : nh ≤ 6 ∧ ni ≤ 8 ∧ nr ≤ 12) (hz : tZ f_s) (hu : (f_s 42 0).toInt = (u_s : Int)) (hb_s : u_s ≤ 40) (t0_s : ¬ (isV nh ni nr x1_s.toInt x2_s.toInt ∧ vCI nh x2_s.toInt x3.toInt) → K_s (-2000000000) (h_s.1, f_s, h_s.2.2.1, h_s.2.2.2)) (t1_s : isV nh ni nr x1_s.toInt x2_s.toInt → vCI nh x2_s.toInt x3.toInt → ∀ n_s w_s : Nat, x1_s.toInt = (n_s : Int) → x2_s.toInt = (w_s : Int) → f_s (cO n_s w_s) (cF n_s w_s) = x3 → K_s (f_s (cO n_s w_s) (cF n_s w_s)) (h_s.1, f_s, h_s.2.2.1, h_s.2.2.2)) (t2_s : isV nh ni nr x1_s.toInt x2_s.toInt → vCI nh x2_s.toInt x3.toInt → ∀ n_s w_s : Nat, x1_s.toInt = (n_s : Int) → x2_s.toInt = (w_s : Int) → ¬ f_s (cO n_s w_s) (cF n_s w_s) = x3 → ∀ f1_s u0 s_s, u0 + s_s = u_s → (s_s = 0 ∧ u_s < 40 ∨ s_s = 1 ∧ u_s = 40) → (∀ o k_s, 43 ≤ o → o ≤ 46 → k_s < u0 → f1_s o k_s = f_s o (k_s + s_s)) → f1_s 43 u0 = x1_s → f1_s 44 u0 = x2_s → f1_s 45 u0 = f_s (cO n_s w_s) (cF n_s w_s) → f1_s 46 u0 = x3 → (f1_s 42 0).toInt = ((u0 + 1 : Nat) : Int) → (f1_s 42 1).toInt = 0 → f1_s (cO n_s w_s) (cF n_s w_s) = x3 → (∀ a_s k_s, ¬ (43 ≤ a_s ∧ a_s ≤ 46 ∧ k_s < 40) → ¬ (a_s = 42 ∧ k_s < 2) → ¬ (a_s = cO n_s w_s ∧ k_s = cF n_s w_s) → f1_s a_s k_s = f_s a_s k_s) → K_s (f_s (cO n_s w_s) (cF n_s w_s)) (h_s.1, f1_s, h_s.2.2.1, h_s.2.2.2)) : wF F_s 98 (0, [some (.ref 6), some (.int x1_s), some (.int x2_s), some (.int x3), none], [], (h_s.1, f_s, h_s.2.2.1, h_s.2.2.2)) (gI K_s) := by
  refine wF_le (Nat.le_succ F_s) (sg_98_0 (h_s := (h_s.1, f_s, h_s.2.2.1, h_s.2.2.2)) hk ?_)
  refine sp_18 hk c6_s c7_s c8_s (fun q_s _ => ⟨fun c_s => absurd c_s (by decide), fun _ => ?_⟩) (fun q_s _ => ⟨fun _ => t0_s (fun p_s => q_s (isV_T.mp p_s.1).1), fun c_s => absurd rfl c_s⟩)
  refine sp_19 hk c6_s hz (fun q2_s _ => ⟨fun c_s => absurd c_s (by decide), fun _ => ?_⟩) (fun q2_s _ => ⟨fun _ => t0_s (fun p_s => q2_s p_s.2), fun c_s => absurd rfl c_s⟩)
  have w11_s : x2_s.toInt ≤ 11 := by
    unfold vCI at q2_s
    omega
  have qv : isV nh ni nr x1_s.toInt x2_s.toInt := isV_T.mpr ⟨q_s, w11_s⟩
  refine sp_20 hk c6_s c7_s c8_s (fun p_s => absurd q_s p_s) (fun _ n_s w_s e1_s e2_s _ => ?_)
  have hw : w_s < 12 := by omega
  have ev_s : valC f_s n_s w_s = f_s (cO n_s w_s) (cF n_s w_s) := by
    unfold valC
    rw [if_pos hw]
  rw [ev_s]
  have cc : (cO n_s w_s = 8 ∨ cO n_s w_s = 9 ∨ 20 ≤ cO n_s w_s) ∧ cO n_s w_s < 40 := by
    unfold isV at qv
    by_cases w2_s : w_s < 2
    · rw [cO_h w2_s]
      omega
    · by_cases w9 : w_s < 9
      · rw [cO_i (by omega) w9]
        omega
      · rw [cO_r (by omega)]
        omega
  refine ⟨fun c_s => t1_s qv q2_s n_s w_s e1_s e2_s (Int32.toInt_inj.mp c_s), fun c_s => ?_⟩
  refine sp_21 hk c6_s c7_s c8_s qv (fun n1_s w1_s d1_s d2_s _ => ?_)
  have en : n1_s = n_s := by omega
  have ew : w1_s = w_s := by omega
  subst en
  subst ew
  refine sp_9 (h_s := (h_s.1, zup f_s (cO n1_s w1_s) (cF n1_s w1_s) x3, h_s.2.2.1, h_s.2.2.2)) (f_s := zup f_s (cO n1_s w1_s) (cF n1_s w1_s) x3) (u_s := u_s) hk (by rw [zne_up (by omega)]; exact hu) hb_s (fun f1_s u0 s_s g1 g2 g3_s g4 g5_s g6 g7 g8 g9 g10 _ => ?_)
  refine t2_s qv q2_s n1_s w1_s e1_s e2_s (fun w_s => c_s (by rw [w_s])) f1_s u0 s_s g1 g2 (fun o k_s h1 h2 h3 => ?_) g4 g5_s g6 g7 g8 g9 ?_ (fun a_s k_s p1_s p2_s p3_s => ?_)
  · rw [g3_s o k_s h1 h2 h3, zne_up (by omega)]
  · rw [g10 _ _ (by omega) (by omega), zsame_up]
  · rw [g10 a_s k_s p1_s p2_s, zne_up p3_s]
/-- becomes -/
theorem bc148 {p_s : Nat} {f0_s : Nat → Nat → Int32} (hk : hKn h_s) (hx : x1_s.toInt = (p_s : Int)) (hp : p_s < 104) (hu : (f0_s 102 5).toInt = 40) (t_s : ∀ f1_s, (∀ o k_s, 104 ≤ o → o ≤ 106 → k_s < 39 → f1_s o k_s = f0_s o (k_s + 1)) → f1_s 104 39 = x1_s → f1_s 105 39 = x3 → f1_s 106 39 = x2_s → (f1_s 102 5).toInt = 40 → (f1_s 102 4).toInt = 40 → f1_s 103 p_s = x2_s → (∀ a_s k_s, ¬ (104 ≤ a_s ∧ a_s ≤ 106 ∧ k_s < 40) → ¬ (a_s = 102 ∧ (k_s = 4 ∨ k_s = 5)) → ¬ (a_s = 103 ∧ k_s = p_s) → f1_s a_s k_s = f0_s a_s k_s) → K_s x3 (h_s.1, f1_s, h_s.2.2.1, h_s.2.2.2)) : ∀ (F_s j_s : Nat) (x4_s : Int32) (f_s : Nat → Nat → Int32), x4_s.toInt = ((j_s + 1 : Nat) : Int) → j_s ≤ 39 → (∀ o k_s, 104 ≤ o → o ≤ 106 → k_s < j_s → f_s o k_s = f0_s o (k_s + 1)) → (∀ a_s k_s, ¬ (104 ≤ a_s ∧ a_s ≤ 106 ∧ k_s < j_s) → f_s a_s k_s = f0_s a_s k_s) → wF F_s 148 (26, [some (.ref 102), some (.int x1_s), some (.int x2_s), some (.int x3), some (.int x4_s)], [], (h_s.1, f_s, h_s.2.2.1, h_s.2.2.2)) (gI K_s)
  | 0, _, _, _, _, _, _, _ => wF_zero
  | F_s + 1, j_s, x4_s, f_s, h4, hj, hf, hg => by
    have z_s := azix (i := x4_s) (by omega)
    have ez : zix x4_s = j_s + 1 := by omega
    have e4_s : (x4_s - 1).toInt = (j_s : Int) := by rw [sub_i (by omega) (by decide), n1_]; omega
    have z1 := azix (i := x4_s - 1) (by omega)
    have ez1 : zix (x4_s - 1) = j_s := by omega
    have e5_s : (f_s 102 5).toInt = 40 := by rw [hg 102 5 (by omega)]; exact hu
    have e51 : (f_s 102 5 - 1).toInt = 39 := by rw [sub_i (by omega) (by decide), n1_]; omega
    have z5 := azix (i := f_s 102 5 - 1) (by omega)
    have ez5 : zix (f_s 102 5 - 1) = 39 := by omega
    have zp := azix (i := x1_s) (by omega)
    have ezp : zix x1_s = p_s := by omega
    have e52 : (f_s 102 5 - 1 + 1).toInt = 40 := by rw [in1_ (by omega)]; omega
    refine sg_148_26 (h_s := (h_s.1, f_s, h_s.2.2.1, h_s.2.2.2)) hk ?_
    dsimp only
    rw [ez, ez1, ez5, ezp]
    refine ⟨fun c1_s _ _ => ?_, fun c1_s _ _ => ?_⟩
    · refine bc148 (f0_s := f0_s) hk hx hp hu t_s F_s (j_s + 1) (x4_s + 1) _ (by rw [in1_ (by omega)]; omega) (by omega) (fun o k_s h1 h2 h3 => ?_) (fun a_s k_s q_s => ?_)
      · by_cases e_s : k_s = j_s
        · subst e_s
          have eo : o = 104 ∨ o = 105 ∨ o = 106 := by omega
          rcases eo with eo | eo | eo <;> (subst eo; simp (disch := omega) only [zne_up, zsame_up]; exact hg _ _ (by omega))
        · simp (disch := omega) only [zne_up]
          exact hf o k_s h1 h2 (by omega)
      · simp (disch := omega) only [zne_up]
        exact hg a_s k_s (by omega)
    · have ej : j_s = 39 := by omega
      subst ej
      refine t_s _ (fun o k_s h1 h2 h3 => ?_) ?_ ?_ ?_ ?_ ?_ ?_ (fun a_s k_s q1_s q2_s q3_s => ?_)
      · simp (disch := omega) only [zne_up]
        exact hf o k_s h1 h2 h3
      · simp (disch := omega) only [zne_up, zsame_up]
      · simp (disch := omega) only [zne_up, zsame_up]
      · simp (disch := omega) only [zne_up, zsame_up]
      · simp (disch := omega) only [zne_up, zsame_up]
        exact e52
      · simp (disch := omega) only [zne_up, zsame_up]
        exact e52
      · rw [zsame_up]
      · simp (disch := omega) only [zne_up]
        exact hg a_s k_s (by omega)
theorem sp_148 {p_s u_s : Nat} (hk : hKn h_s) (hx : x1_s.toInt = (p_s : Int)) (hp : p_s < 104) (hu : (f_s 102 5).toInt = (u_s : Int)) (hb_s : u_s ≤ 40) (t1_s : f_s 103 p_s = x2_s → K_s (f_s 103 p_s) (h_s.1, f_s, h_s.2.2.1, h_s.2.2.2)) (t2_s : ¬ f_s 103 p_s = x2_s → ∀ f1_s u0 s_s, u0 + s_s = u_s → (s_s = 0 ∧ u_s < 40 ∨ s_s = 1 ∧ u_s = 40) → (∀ o k_s, 104 ≤ o → o ≤ 106 → k_s < u0 → f1_s o k_s = f_s o (k_s + s_s)) → f1_s 104 u0 = x1_s → f1_s 105 u0 = f_s 103 p_s → f1_s 106 u0 = x2_s → (f1_s 102 5).toInt = ((u0 + 1 : Nat) : Int) → (f1_s 102 4).toInt = ((u0 + 1 : Nat) : Int) → f1_s 103 p_s = x2_s → (∀ a_s k_s, ¬ (104 ≤ a_s ∧ a_s ≤ 106 ∧ k_s < 40) → ¬ (a_s = 102 ∧ (k_s = 4 ∨ k_s = 5)) → ¬ (a_s = 103 ∧ k_s = p_s) → f1_s a_s k_s = f_s a_s k_s) → K_s (f_s 103 p_s) (h_s.1, f1_s, h_s.2.2.1, h_s.2.2.2)) : wF F_s 148 (0, [some (.ref 102), some (.int x1_s), some (.int x2_s), none, none], [], (h_s.1, f_s, h_s.2.2.1, h_s.2.2.2)) (gI K_s) := by
  have zp := azix (i := x1_s) (by omega)
  have ezp : zix x1_s = p_s := by omega
  obtain ⟨p1_s, p2_s, _⟩ := ic1 hu (by omega)
  refine wF_le (Nat.le_succ F_s) (sg_148_0 (h_s := (h_s.1, f_s, h_s.2.2.1, h_s.2.2.2)) hk ?_)
  dsimp only
  rw [ezp, p2_s, hu]
  refine fun _ => ⟨fun c_s => t1_s (Int32.toInt_inj.mp c_s), fun c_s => ⟨fun c3_s => ?_, fun c3_s _ => ?_⟩⟩
  · refine bc148 (f0_s := f_s) hk hx hp (by omega) (fun f1_s g1 g2 g3_s g4 g5_s g6 g7 g8 => ?_) F_s 0 1 f_s rfl (by omega) (fun o k_s _ _ hq => absurd hq (Nat.not_lt_zero k_s)) (fun _ _ _ => rfl)
    exact t2_s (fun w_s => c_s (by rw [w_s])) f1_s 39 1 (by omega) (Or.inr ⟨rfl, by omega⟩) g1 g2 g3_s g4 g5_s g6 g7 g8
  · refine t2_s (fun w_s => c_s (by rw [w_s])) _ u_s 0 rfl (Or.inl ⟨rfl, by omega⟩) (fun o k_s h1 h2 h3 => ?_) ?_ ?_ ?_ ?_ ?_ ?_ (fun a_s k_s q1_s q2_s q3_s => ?_)
    · simp (disch := omega) only [zne_up]
      rfl
    · simp (disch := omega) only [zne_up, zsame_up]
    · simp (disch := omega) only [zne_up, zsame_up]
    · simp (disch := omega) only [zne_up, zsame_up]
    · simp (disch := omega) only [zne_up, zsame_up]
      exact p1_s
    · simp (disch := omega) only [zne_up, zsame_up]
      exact p1_s
    · rw [zsame_up]
    · simp (disch := omega) only [zne_up]
theorem sp_163 {u_s : Nat} (hk : hKn h_s) (hc_s : tM nh ni nr f_s) (hu : (f_s 102 5).toInt = (u_s : Int)) (hb_s : u_s ≤ 40) (t0_s : ¬ (isV nh ni nr x1_s.toInt x2_s.toInt ∧ vCI nh x2_s.toInt x3.toInt) → K_s (-2000000000) (h_s.1, f_s, h_s.2.2.1, h_s.2.2.2)) (t1_s : isV nh ni nr x1_s.toInt x2_s.toInt → vCI nh x2_s.toInt x3.toInt → ∀ n_s w_s : Nat, x1_s.toInt = (n_s : Int) → x2_s.toInt = (w_s : Int) → f_s 103 (plc n_s w_s) = x3 → K_s (f_s 103 (plc n_s w_s)) (h_s.1, f_s, h_s.2.2.1, h_s.2.2.2)) (t2_s : isV nh ni nr x1_s.toInt x2_s.toInt → vCI nh x2_s.toInt x3.toInt → ∀ n_s w_s : Nat, x1_s.toInt = (n_s : Int) → x2_s.toInt = (w_s : Int) → ¬ f_s 103 (plc n_s w_s) = x3 → ∀ f1_s u0 s_s, u0 + s_s = u_s → (s_s = 0 ∧ u_s < 40 ∨ s_s = 1 ∧ u_s = 40) → (∀ o k_s, 104 ≤ o → o ≤ 106 → k_s < u0 → f1_s o k_s = f_s o (k_s + s_s)) → (f1_s 104 u0).toInt = (plc n_s w_s : Int) → f1_s 105 u0 = f_s 103 (plc n_s w_s) → f1_s 106 u0 = x3 → (f1_s 102 5).toInt = ((u0 + 1 : Nat) : Int) → (f1_s 102 4).toInt = ((u0 + 1 : Nat) : Int) → f1_s 103 (plc n_s w_s) = x3 → (∀ a_s k_s, ¬ (104 ≤ a_s ∧ a_s ≤ 106 ∧ k_s < 40) → ¬ (a_s = 102 ∧ (k_s = 4 ∨ k_s = 5)) → ¬ (a_s = 103 ∧ k_s = plc n_s w_s) → f1_s a_s k_s = f_s a_s k_s) → K_s (f_s 103 (plc n_s w_s)) (h_s.1, f1_s, h_s.2.2.1, h_s.2.2.2)) : wF F_s 163 (0, [some (.ref 102), some (.int x1_s), some (.int x2_s), some (.int x3), none], [], (h_s.1, f_s, h_s.2.2.1, h_s.2.2.2)) (gI K_s) := by
  refine wF_le (Nat.le_succ F_s) (sg_163_0 (h_s := (h_s.1, f_s, h_s.2.2.1, h_s.2.2.2)) hk ?_)
  refine sp_161 hk hc_s.1 hc_s.2.1.1 hc_s.2.1.2.1 hc_s.2.1.2.2 (fun q_s _ => ⟨fun _ => t0_s (fun p_s => q_s p_s.1), fun c_s => absurd (show (-1 : Int32).toInt < 0 by decide) c_s⟩) (fun q_s n_s w_s v_s e1_s e2_s e3_s _ => ⟨fun c_s => absurd c_s (by omega), fun _ => ?_⟩)
  obtain ⟨n1_s, w1_s, d1_s, d2_s, hw1, ok_s⟩ := isV_N q_s
  have en : n1_s = n_s := by omega
  have ew : w1_s = w_s := by omega
  subst en
  subst ew
  have hcap : n1_s < cap w1_s := by
    have b_s := hc_s.1
    unfold okN at ok_s
    unfold cap
    by_cases w2_s : w1_s < 2
    · rw [if_pos w2_s] at ok_s ⊢
      omega
    · rw [if_neg w2_s] at ok_s ⊢
      by_cases w9 : w1_s < 9
      · rw [if_pos w9] at ok_s ⊢
        omega
      · rw [if_neg w9] at ok_s ⊢
        omega
  have lt_s := plc_lt hw1 hcap
  refine sp_162 hk hc_s.2.1.1 (by omega) (fun q2_s _ => ⟨fun c_s => absurd c_s (by decide), fun _ => ?_⟩) (fun q2_s _ => ⟨fun _ => t0_s (fun p_s => q2_s p_s.2), fun c_s => absurd rfl c_s⟩)
  exact sp_148 hk e3_s lt_s hu hb_s (fun c_s _ => t1_s q_s q2_s n1_s w1_s e1_s e2_s c_s) (fun c_s f1_s u0 s_s g1 g2 g3_s g4 g5_s g6 g7 g8 g9 g10 _ => t2_s q_s q2_s n1_s w1_s e1_s e2_s c_s f1_s u0 s_s g1 g2 g3_s (by rw [g4]; exact e3_s) g5_s g6 g7 g8 g9 g10)
theorem pr_mend (hk : hKn h_s) (hx : tX h_s) : wF F_s 98 (0, [some (.ref 6), some (.int x1_s), some (.int x2_s), some (.int x3), none], [], h_s) (gI (fun v_s h1 => wF F_s 163 (0, [some (.ref 102), some (.int x1_s), some (.int x2_s), some (.int x3), none], [], h1) (gI (fun v2 h2 => v_s = v2 ∧ tX h2)))) := by
  obtain ⟨nh, ni, nr, hc_s, hh, hi_, hd_s, hz, hl⟩ := hx
  have hx : tX h_s := ⟨nh, ni, nr, hc_s, hh, hi_, hd_s, hz, hl⟩
  obtain ⟨u_s, r_s, u1_s, u2_s, u3, u4_s, u5, u6⟩ := hh
  have same_s : ∀ n_s w_s : Nat, x1_s.toInt = (n_s : Int) → x2_s.toInt = (w_s : Int) → isV nh ni nr x1_s.toInt x2_s.toInt → w_s < 12 ∧ okN nh ni nr n_s w_s ∧ h_s.2.1 (cO n_s w_s) (cF n_s w_s) = h_s.2.1 103 (plc n_s w_s) ∧ vB nh nr n_s w_s (h_s.2.1 103 (plc n_s w_s)).toInt := by
    intro n_s w_s e1_s e2_s q_s
    obtain ⟨n1_s, w1_s, d1_s, d2_s, hw1, ok_s⟩ := isV_N q_s
    have en : n1_s = n_s := by omega
    have ew : w1_s = w_s := by omega
    subst en
    subst ew
    have hcap : n1_s < cap w1_s ∧ (w1_s = 8 → n1_s < ni) := by
      have b_s := hc_s.1
      unfold okN at ok_s
      unfold cap
      by_cases w2_s : w1_s < 2
      · rw [if_pos w2_s] at ok_s ⊢
        omega
      · rw [if_neg w2_s] at ok_s ⊢
        by_cases w9 : w1_s < 9
        · rw [if_pos w9] at ok_s ⊢
          omega
        · rw [if_neg w9] at ok_s ⊢
          omega
    have u_s := hc_s.2.2.2.1 n1_s w1_s hw1 hcap.1 hcap.2
    exact ⟨hw1, ok_s, u_s.1, u_s.2⟩
  refine sp_98 (f_s := h_s.2.1) (u_s := u_s) hk hc_s.2.1.1 hc_s.2.1.2.1 hc_s.2.1.2.2 hc_s.1 hz u2_s (by omega) (fun q_s => ?_) (fun q1_s q2_s n_s w_s e1_s e2_s e3_s => ?_) (fun q1_s q2_s n_s w_s e1_s e2_s e3_s f1_s u0 s_s g1 g2 g3_s g4 g5_s g6 g7 g8 g9 g10 g11 => ?_)
  · exact sp_163 (f_s := h_s.2.1) (u_s := u_s) hk (tC_M hc_s) u4_s (by omega) (fun _ => ⟨rfl, hx⟩) (fun p1_s p2_s => absurd ⟨p1_s, p2_s⟩ q_s) (fun p1_s p2_s => absurd ⟨p1_s, p2_s⟩ q_s)
  · obtain ⟨hw, ok_s, es, _⟩ := same_s n_s w_s e1_s e2_s q1_s
    refine sp_163 (f_s := h_s.2.1) (u_s := u_s) hk (tC_M hc_s) u4_s (by omega) (fun p_s => absurd ⟨q1_s, q2_s⟩ p_s) (fun _ _ n1_s w1_s d1_s d2_s _ => ?_) (fun _ _ n1_s w1_s d1_s d2_s d3_s => ?_)
    · have en : n1_s = n_s := by omega
      have ew : w1_s = w_s := by omega
      subst en
      subst ew
      exact ⟨es, hx⟩
    · have en : n1_s = n_s := by omega
      have ew : w1_s = w_s := by omega
      subst en
      subst ew
      exact absurd (es.symm.trans e3_s) d3_s
  · obtain ⟨hw, ok_s, es, eB⟩ := same_s n_s w_s e1_s e2_s q1_s
    have cc : (cO n_s w_s = 8 ∨ cO n_s w_s = 9 ∨ 20 ≤ cO n_s w_s) ∧ cO n_s w_s < 40 := by
      unfold isV at q1_s
      by_cases w2_s : w_s < 2
      · rw [cO_h w2_s]
        omega
      · by_cases w9 : w_s < 9
        · rw [cO_i (by omega) w9]
          have b_s := hc_s.1
          omega
        · rw [cO_r (by omega)]
          have b_s := hc_s.1
          omega
    have ho : ∀ a_s k_s, 100 ≤ a_s → f1_s a_s k_s = h_s.2.1 a_s k_s := fun a_s k_s ha_s => g11 a_s k_s (by omega) (by omega) (by omega)
    have m1_s : tM nh ni nr f1_s := tM_fr (fun k_s _ _ => ho _ _ (by omega)) (fun k_s _ => ho _ _ (by omega)) (tC_M hc_s)
    refine sp_163 (h_s := (h_s.1, f1_s, h_s.2.2.1, h_s.2.2.2)) (f_s := f1_s) (u_s := u_s) hk m1_s (by rw [ho 102 5 (by omega)]; exact u4_s) (by omega) (fun p_s => absurd ⟨q1_s, q2_s⟩ p_s) (fun _ _ n1_s w1_s d1_s d2_s d3_s => ?_) (fun _ _ n1_s w1_s d1_s d2_s d3_s f2_s v0_s s2_s p1_s p2_s p3_s p4_s p5_s p6_s p7_s p8_s p9_s p10 => ?_)
    · have en : n1_s = n_s := by omega
      have ew : w1_s = w_s := by omega
      subst en
      subst ew
      rw [ho 103 _ (by omega)] at d3_s
      exact absurd (es.trans d3_s) e3_s
    · have en : n1_s = n_s := by omega
      have ew : w1_s = w_s := by omega
      subst en
      subst ew
      have ev_s : v0_s = u0 := by omega
      have esx : s2_s = s_s := by omega
      subst ev_s
      subst esx
      rw [ho 103 _ (by omega)] at p5_s
      have fin_s : ∀ a_s k_s, ¬ (104 ≤ a_s ∧ a_s ≤ 106 ∧ k_s < 40) → ¬ (a_s = 102 ∧ (k_s = 4 ∨ k_s = 5)) → ¬ (a_s = 103 ∧ k_s = plc n1_s w1_s) → ¬ (43 ≤ a_s ∧ a_s ≤ 46 ∧ k_s < 40) → ¬ (a_s = 42 ∧ k_s < 2) → ¬ (a_s = cO n1_s w1_s ∧ k_s = cF n1_s w1_s) → f2_s a_s k_s = h_s.2.1 a_s k_s := fun a_s k_s s1_s s2_s s3_s s4_s s5 s6_s => (p10 a_s k_s s1_s s2_s s3_s).trans (g11 a_s k_s s4_s s5 s6_s)
      have lo_s : ∀ a_s k_s, a_s < 100 → f2_s a_s k_s = f1_s a_s k_s := fun a_s k_s ha_s => p10 a_s k_s (by omega) (by omega) (by omega)
      have hi2 : ∀ o k_s, 104 ≤ o → o ≤ 106 → k_s < v0_s → f2_s o k_s = h_s.2.1 o (k_s + s2_s) := fun o k_s h1 h2 h3 => by
        rw [p3_s o k_s h1 h2 h3]
        exact ho o _ (by omega)
      have lo2 : ∀ o k_s, 43 ≤ o → o ≤ 46 → k_s < v0_s → f2_s o k_s = h_s.2.1 o (k_s + s2_s) := fun o k_s h1 h2 h3 => by
        rw [lo_s o k_s (by omega)]
        exact g3_s o k_s h1 h2 h3
      have nB_s : vB nh nr n1_s w1_s x3.toInt := vCI_B (by rw [← e2_s]; exact q2_s)
      refine ⟨by rw [ho 103 _ (by omega)]; exact es, nh, ni, nr, tC_set (v_s := x3) hc_s hw ok_s nB_s ?_ p9_s (fun a_s k_s qc s1_s s2_s => ?_), ⟨v0_s + 1, 0, by omega, ?_, ?_, p7_s, p8_s, fun k_s hk1 => ?_⟩, tI_fr (fun a_s k_s q_s => ?_) hi_ hc_s.1.2.1, tD_fr (fun a_s k_s q_s => ?_) hd_s, tZ_fr (fun a_s k_s q_s => ?_) hz, tLw_fr (h_s := h_s) (fun _ => rfl) (fun a_s k_s q_s => ?_) hl⟩
      · show f2_s (cO n1_s w1_s) (cF n1_s w1_s) = x3
        rw [lo_s _ _ (by omega)]
        exact g10
      · unfold inC at qc
        exact fin_s a_s k_s (by omega) (by omega) s2_s (by omega) (by omega) s1_s
      · show (f2_s 42 0).toInt = ((v0_s + 1 : Nat) : Int)
        rw [lo_s _ _ (by omega)]
        exact g8
      · show (f2_s 42 1).toInt = ((0 : Nat) : Int)
        rw [lo_s _ _ (by omega)]
        exact g9
      · by_cases e_s : k_s = v0_s
        · subst e_s
          refine ⟨n1_s, w1_s, hw, ok_s, ?_, ?_, p4_s, ?_, ?_, ?_, ?_⟩
          · show (f2_s 43 k_s).toInt = (n1_s : Int)
            rw [lo_s _ _ (by omega), g4]
            exact e1_s
          · show (f2_s 44 k_s).toInt = (w1_s : Int)
            rw [lo_s _ _ (by omega), g5_s]
            exact e2_s
          · show f2_s 105 k_s = f2_s 45 k_s
            rw [lo_s 45 k_s (by omega), g6, p5_s, es]
          · show f2_s 106 k_s = f2_s 46 k_s
            rw [lo_s 46 k_s (by omega), g7, p6_s]
          · show vB nh nr n1_s w1_s (f2_s 45 k_s).toInt
            rw [lo_s 45 k_s (by omega), g6, es]
            exact eB
          · show vB nh nr n1_s w1_s (f2_s 46 k_s).toInt
            rw [lo_s 46 k_s (by omega), g7]
            exact nB_s
        · obtain ⟨n2_s, w2_s, b1, b2, b3, b4, b5, b6, b7, b8, b9⟩ := u6 (k_s + s2_s) (by omega)
          have kv : k_s < v0_s := by omega
          refine ⟨n2_s, w2_s, b1, b2, ?_, ?_, ?_, ?_, ?_, ?_, ?_⟩
          · show (f2_s 43 k_s).toInt = (n2_s : Int)
            rw [lo2 43 k_s (by omega) (by omega) kv]
            exact b3
          · show (f2_s 44 k_s).toInt = (w2_s : Int)
            rw [lo2 44 k_s (by omega) (by omega) kv]
            exact b4
          · show (f2_s 104 k_s).toInt = (plc n2_s w2_s : Int)
            rw [hi2 104 k_s (by omega) (by omega) kv]
            exact b5
          · show f2_s 105 k_s = f2_s 45 k_s
            rw [hi2 105 k_s (by omega) (by omega) kv, lo2 45 k_s (by omega) (by omega) kv]
            exact b6
          · show f2_s 106 k_s = f2_s 46 k_s
            rw [hi2 106 k_s (by omega) (by omega) kv, lo2 46 k_s (by omega) (by omega) kv]
            exact b7
          · show vB nh nr n2_s w2_s (f2_s 45 k_s).toInt
            rw [lo2 45 k_s (by omega) (by omega) kv]
            exact b8
          · show vB nh nr n2_s w2_s (f2_s 46 k_s).toInt
            rw [lo2 46 k_s (by omega) (by omega) kv]
            exact b9
      · show f2_s a_s k_s = h_s.2.1 a_s k_s
        unfold inI at q_s
        exact fin_s a_s k_s (by omega) (by omega) (by omega) (by omega) (by omega) (by omega)
      · show f2_s a_s k_s = h_s.2.1 a_s k_s
        unfold inD at q_s
        exact fin_s a_s k_s (by omega) (by omega) (by omega) (by omega) (by omega) (by omega)
      · show f2_s a_s k_s = h_s.2.1 a_s k_s
        unfold inZ at q_s
        exact fin_s a_s k_s (by omega) (by omega) (by omega) (by omega) (by omega) (by omega)
      · show f2_s a_s k_s = h_s.2.1 a_s k_s
        unfold inW at q_s
        exact fin_s a_s k_s (by omega) (by omega) (by omega) (by omega) (by omega) (by omega)
end N7
