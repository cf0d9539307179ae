/-! SHELVES: class and reference by turns. -/
def tS1 (f_s : Nat → Nat → Int32) (d_s : Nat) : Prop := ((f_s (76 + 2 * d_s) 0).toInt = 0 ∧ (f_s 124 d_s).toInt = -1) ∨ ((f_s (76 + 2 * d_s) 0).toInt = 1 ∧ 0 ≤ (f_s 124 d_s).toInt ∧ (f_s 124 d_s).toInt < 50) ∨ ((f_s (76 + 2 * d_s) 0).toInt = 2 ∧ (f_s 124 d_s).toInt = 50 + (f_s (76 + 2 * d_s) 2).toInt ∧ 0 ≤ (f_s (76 + 2 * d_s) 2).toInt ∧ (f_s (76 + 2 * d_s) 2).toInt ≤ 4 ∧ (f_s 125 d_s).toInt = (f_s (76 + 2 * d_s) 3).toInt ∧ 0 ≤ (f_s (76 + 2 * d_s) 3).toInt ∧ (f_s (76 + 2 * d_s) 3).toInt ≤ 60)
def tS2 (g_s : Nat → Nat → Int64) (d_s : Nat) : Prop := ∀ k_s, k_s < 60 → g_s (76 + 2 * d_s + 1) k_s = g_s 126 (60 * d_s + k_s)
def tS (h_s : zH) : Prop := (∀ d_s, d_s < 6 → tS1 h_s.2.1 d_s ∧ tS2 h_s.2.2.1 d_s) ∧ h_s.2.1 47 1 = h_s.2.1 102 39 ∧ 0 ≤ (h_s.2.1 47 1).toInt ∧ (h_s.2.1 47 1).toInt ≤ 50
theorem tS1_same {f_s f1_s : Nat → Nat → Int32} {d_s : Nat} (a_s : ∀ k_s, f1_s (76 + 2 * d_s) k_s = f_s (76 + 2 * d_s) k_s) (b_s : f1_s 124 d_s = f_s 124 d_s) (c_s : f1_s 125 d_s = f_s 125 d_s) (q_s : tS1 f_s d_s) : tS1 f1_s d_s := by
  unfold tS1 at q_s ⊢
  simp only [a_s, b_s, c_s]
  exact q_s
theorem zrw_s {α : Type} {f_s : Nat → Nat → α} {o k_s : Nat} {r_s : Nat → α} : zrow f_s o r_s o k_s = r_s k_s := by
  unfold zrow
  rw [Nat.beq_refl]
  rfl
theorem zrw_n {α : Type} {f_s : Nat → Nat → α} {o a_s k_s : Nat} {r_s : Nat → α} (e_s : ¬ a_s = o) : zrow f_s o r_s a_s k_s = f_s a_s k_s := by
  unfold zrow
  cases hb_s : Nat.beq a_s o
  · rfl
  · exact absurd (Nat.eq_of_beq_eq_true hb_s) e_s
theorem zcp_i {α : Type} {f_s g_s : Nat → α} {s_s d_s n_s k_s : Nat} (e_s : d_s ≤ k_s ∧ k_s < d_s + n_s) : zcpy f_s g_s s_s d_s n_s k_s = f_s (s_s + (k_s - d_s)) := by
  unfold zcpy
  have a_s : Nat.ble d_s k_s = true := by rw [Nat.ble_eq]; exact e_s.1
  have b_s : Nat.blt k_s (d_s + n_s) = true := by rw [Nat.blt_eq]; exact e_s.2
  rw [a_s, b_s]
  rfl
theorem zcp_o {α : Type} {f_s g_s : Nat → α} {s_s d_s n_s k_s : Nat} (e_s : ¬ (d_s ≤ k_s ∧ k_s < d_s + n_s)) : zcpy f_s g_s s_s d_s n_s k_s = g_s k_s := by
  unfold zcpy
  cases hb_s : (Nat.ble d_s k_s && Nat.blt k_s (d_s + n_s))
  · rfl
  · rw [Bool.and_eq_true, Nat.ble_eq, Nat.blt_eq] at hb_s
    exact absurd hb_s e_s
section SS_s
variable {F_s : Nat} {h_s : zH} {x1_s x2_s x3 x4_s x5_s : Int32} {y3 : Int64}
theorem pr_row (hk : hKn h_s) (hs : tS h_s) : wF F_s 129 (0, [some (.ref 6), some (.int x1_s), some (.int x2_s), some (.int x3)], [], h_s) (gI (fun v_s h1 => wF F_s 230 (0, [some (.ref 102), some (.int x1_s), some (.int x2_s), some (.int x3), none], [], h1) (gI (fun v2 h2 => v_s = v2 ∧ tS h2)))) := by
  refine sp_129 hk (fun c_s => ?_) (fun c1_s c2_s => ?_) (fun c1_s c2_s c3_s g_s g1 g2 => ?_)
  · exact sp_230 hk (fun _ => ⟨rfl, hs⟩) (fun q_s => absurd c_s q_s) (fun q_s => absurd c_s q_s)
  · exact sp_230 hk (fun q_s => absurd q_s c1_s) (fun _ _ => ⟨rfl, hs⟩) (fun _ q_s => absurd c2_s q_s)
  · refine sp_230 hk (fun q_s => absurd q_s c1_s) (fun _ q_s => absurd q_s c2_s) (fun _ _ _ g3_s p1_s p2_s => ⟨rfl, ?_⟩)
    have a1_s := azix (i := x1_s) (by omega)
    have r2 := na_rng x2_s
    have e5_s : (50 + x2_s).toInt = 50 + x2_s.toInt := by rw [na_add (by rw [i50_]; omega) (by rw [i50_]; omega), i50_]
    dsimp only at p1_s p2_s ⊢
    refine ⟨fun d_s hd_s => ⟨?_, fun k_s hq => ?_⟩, ?_, ?_, ?_⟩
    · dsimp only
      by_cases e_s : d_s = zix x1_s
      · subst e_s
        refine Or.inr (Or.inr ?_)
        simp (disch := omega) only [zne_up, zsame_up]
        exact ⟨by first | trivial | rfl, e5_s, by omega, by omega, by first | trivial | rfl, by omega, by omega⟩
      · refine tS1_same (fun k_s => ?_) ?_ ?_ (hs.1 d_s hd_s).1
        · simp (disch := omega) only [zne_up]
        · simp (disch := omega) only [zne_up]
        · simp (disch := omega) only [zne_up]
    · dsimp only
      by_cases e_s : d_s = zix x1_s
      · subst e_s
        rw [p1_s (60 * zix x1_s + k_s) (by omega) (by omega), p2_s (76 + 2 * zix x1_s + 1) k_s (by omega)]
        exact g1 k_s hq
      · rw [p2_s (76 + 2 * d_s + 1) k_s (by omega), p2_s 126 (60 * d_s + k_s) (by omega), g2 (76 + 2 * d_s + 1) k_s (by omega), g2 126 (60 * d_s + k_s) (by omega)]
        exact (hs.1 d_s hd_s).2 k_s hq
    · dsimp only
      simp (disch := omega) only [zne_up]
      exact hs.2.1
    · dsimp only
      simp (disch := omega) only [zne_up]
      exact hs.2.2.1
    · dsimp only
      simp (disch := omega) only [zne_up]
      exact hs.2.2.2
theorem pr_keep (hk : hKn h_s) (hs : tS h_s) : wF F_s 128 (0, [some (.ref 6), some (.int x1_s), some (.int x2_s)], [], h_s) (gI (fun v_s h1 => wF F_s 229 (0, [some (.ref 102), some (.int x1_s), some (.int x2_s)], [], h1) (gI (fun v2 h2 => v_s = v2 ∧ tS h2)))) := by
  have eI : (h_s.2.1 47 1).toInt = (h_s.2.1 102 39).toInt := by rw [hs.2.1]
  have b1 := hs.2.2.1
  have b2 := hs.2.2.2
  refine sp_128 hk (fun c_s => ?_) (fun c1_s c2_s c3_s c4_s => ?_) (fun c1_s c2_s c3_s c4_s c5_s => ?_)
  · exact sp_229 hk (by omega) (fun _ => ⟨rfl, hs⟩) (fun q1_s q2_s q3_s _ => by omega)
  · have e2_s : zup h_s.2.1 (76 + 2 * zix x1_s) 0 0 102 39 = h_s.2.1 102 39 := zne_up (by omega)
    refine sp_229 hk (by dsimp only; rw [e2_s]; omega) (fun q_s => ?_) (fun q1_s q2_s q3_s _ => ⟨rfl, ?_⟩)
    · dsimp only at q_s
      rw [e2_s] at q_s
      omega
    · dsimp only
      refine ⟨fun d_s hd_s => ⟨?_, (hs.1 d_s hd_s).2⟩, ?_, ?_, ?_⟩
      · dsimp only
        by_cases e_s : d_s = zix x1_s
        · subst e_s
          refine Or.inl ?_
          simp (disch := omega) only [zne_up, zsame_up]
          exact ⟨rfl, c3_s⟩
        · refine tS1_same (fun k_s => ?_) ?_ ?_ (hs.1 d_s hd_s).1
          · simp (disch := omega) only [zne_up]
          · simp (disch := omega) only [zne_up]
          · simp (disch := omega) only [zne_up]
      · dsimp only
        simp (disch := omega) only [zne_up]
        exact hs.2.1
      · dsimp only
        simp (disch := omega) only [zne_up]
        exact hs.2.2.1
      · dsimp only
        simp (disch := omega) only [zne_up]
        exact hs.2.2.2
  · have e2_s : zup (zup h_s.2.1 (76 + 2 * zix x1_s) 0 1) (76 + 2 * zix x1_s) 1 x2_s 102 39 = h_s.2.1 102 39 := by rw [zne_up (by omega), zne_up (by omega)]
    refine sp_229 hk (by dsimp only; rw [e2_s]; omega) (fun q_s => ?_) (fun q1_s q2_s q3_s _ => ⟨rfl, ?_⟩)
    · dsimp only at q_s
      rw [e2_s] at q_s
      omega
    · dsimp only
      refine ⟨fun d_s hd_s => ⟨?_, (hs.1 d_s hd_s).2⟩, ?_, ?_, ?_⟩
      · dsimp only
        by_cases e_s : d_s = zix x1_s
        · subst e_s
          refine Or.inr (Or.inl ?_)
          simp (disch := omega) only [zne_up, zsame_up]
          exact ⟨rfl, by omega, by omega⟩
        · refine tS1_same (fun k_s => ?_) ?_ ?_ (hs.1 d_s hd_s).1
          · simp (disch := omega) only [zne_up]
          · simp (disch := omega) only [zne_up]
          · simp (disch := omega) only [zne_up]
      · dsimp only
        simp (disch := omega) only [zne_up]
        exact hs.2.1
      · dsimp only
        simp (disch := omega) only [zne_up]
        exact hs.2.2.1
      · dsimp only
        simp (disch := omega) only [zne_up]
        exact hs.2.2.2
theorem pr_body (hk : hKn h_s) (hs : tS h_s) : wF F_s 125 (0, [some (.ref 6), some (.int x1_s)], [], h_s) (gI (fun v_s h1 => wF F_s 219 (0, [some (.ref 102), some (.int x1_s)], [], h1) (gI (fun v2 h2 => v_s = v2 ∧ tS h2)))) := by
  have eI : (h_s.2.1 47 1).toInt = (h_s.2.1 102 39).toInt := by rw [hs.2.1]
  have b1 := hs.2.2.1
  have b2 := hs.2.2.2
  refine sp_125 hk (fun c_s => ?_) (fun c1_s c2_s c3_s => ?_) (fun c1_s c2_s c3_s => ?_)
  · exact sp_219 hk (fun _ => ⟨rfl, hs⟩) (fun q1_s q2_s _ => by omega) (fun q1_s q2_s _ => by omega)
  · exact sp_219 hk (fun q_s => by omega) (fun _ _ _ => ⟨rfl, hs⟩) (fun _ _ q_s => by omega)
  · have e2_s : zup (zup h_s.2.1 48 (zix (h_s.2.1 47 1)) x1_s) 47 1 (h_s.2.1 47 1 + 1) 102 39 = h_s.2.1 102 39 := by rw [zne_up (by omega), zne_up (by omega)]
    have e1_s := in1_ (x_s := h_s.2.1 47 1) (by omega)
    refine sp_219 hk (fun q_s => by omega) (fun _ _ q_s => ?_) (fun _ _ q_s => ⟨?_, ?_⟩)
    · dsimp only at q_s
      rw [e2_s] at q_s
      omega
    · dsimp only
      rw [e2_s, ← hs.2.1]
      refine Int32.toInt_inj.mp ?_
      rw [na_sub (by rw [n1_]; omega) (by rw [n1_]; omega), n1_]
      omega
    · dsimp only
      rw [e2_s]
      refine ⟨fun d_s hd_s => ⟨?_, (hs.1 d_s hd_s).2⟩, ?_, ?_, ?_⟩
      · dsimp only
        refine tS1_same (fun k_s => ?_) ?_ ?_ (hs.1 d_s hd_s).1
        · simp (disch := omega) only [zne_up]
        · simp (disch := omega) only [zne_up]
        · simp (disch := omega) only [zne_up]
      · dsimp only
        rw [zne_up (by omega), zne_up (by omega), zsame_up, zsame_up, hs.2.1]
      · dsimp only
        rw [zne_up (by omega), zne_up (by omega), zsame_up]
        omega
      · dsimp only
        rw [zne_up (by omega), zne_up (by omega), zsame_up]
        omega
theorem pr_put (hk : hKn h_s) (hs : tS h_s) : wF F_s 130 (0, [some (.ref 6), some (.int x1_s), some (.int x2_s), some (.long y3), none, none], [], h_s) (gI (fun v_s h1 => wF F_s 233 (0, [some (.ref 102), some (.int x1_s), some (.int x2_s), some (.long y3), none, none], [], h1) (gI (fun v2 h2 => v_s = v2 ∧ tS h2)))) := by
  refine sp_130 hk (fun c_s => ?_) (fun c1_s c2_s c3_s c4_s => ?_) (fun c1_s c2_s c3_s c4_s c5_s => ?_) (fun c1_s c2_s c3_s c4_s c5_s => ?_) (fun c1_s c2_s c3_s c4_s c5_s c6_s c7_s => ?_)
  · exact sp_233 hk (fun _ => ⟨rfl, hs⟩) (fun q1_s q2_s _ _ => by omega) (fun q1_s q2_s _ _ _ => by omega) (fun q1_s q2_s _ _ _ => by omega) (fun q1_s q2_s _ _ _ _ => by omega)
  · have q_s := (hs.1 _ c3_s).1
    unfold tS1 at q_s
    exact sp_233 hk (fun _ => by omega) (fun _ _ _ _ => ⟨rfl, hs⟩) (fun q1_s q2_s _ q3_s q4_s => by omega) (fun q1_s q2_s _ q3_s _ => by omega) (fun q1_s q2_s _ q3_s _ _ => by omega)
  · have q_s := (hs.1 _ c3_s).1
    unfold tS1 at q_s
    exact sp_233 hk (fun _ => by omega) (fun _ _ _ q3_s => by omega) (fun _ _ _ _ _ => ⟨rfl, hs⟩) (fun q1_s q2_s _ q3_s _ => by omega) (fun q1_s q2_s _ q3_s _ _ => by omega)
  · have q_s := (hs.1 _ c3_s).1
    unfold tS1 at q_s
    exact sp_233 hk (fun _ => by omega) (fun _ _ _ q3_s => by omega) (fun _ _ _ q3_s q4_s => by omega) (fun _ _ _ _ _ => ⟨rfl, hs⟩) (fun q1_s q2_s _ q3_s q4_s q5_s => by omega)
  · have q_s := (hs.1 _ c3_s).1
    unfold tS1 at q_s
    refine sp_233 hk (fun _ => by omega) (fun _ _ _ q3_s => ?_) (fun _ _ _ q3_s q4_s => ?_) (fun _ _ _ q3_s q4_s => ?_) (fun _ _ _ q3_s q4_s q5_s => ⟨rfl, ?_⟩)
    · dsimp only at q3_s
      omega
    · dsimp only at q3_s q4_s
      omega
    · dsimp only at q3_s q4_s
      omega
    · have z2 := azix (i := x2_s) c5_s
      have e6_s := zx60 (d_s := x1_s) (i_s := x2_s) c1_s c2_s c5_s (by omega)
      dsimp only
      rw [e6_s, show (h_s.2.1 124 (zix x1_s)).toInt - 50 = (h_s.2.1 (76 + 2 * zix x1_s) 2).toInt by omega]
      refine ⟨fun d_s hd_s => ⟨(hs.1 d_s hd_s).1, fun k_s hq => ?_⟩, hs.2⟩
      dsimp only
      by_cases e_s : d_s = zix x1_s ∧ k_s = zix x2_s
      · obtain ⟨rfl, rfl⟩ := e_s
        rw [zne_up (by omega), zsame_up, zsame_up]
      · rw [zne_up (by omega), zne_up (by omega), zne_up (by omega), zne_up (by omega)]
        exact (hs.1 d_s hd_s).2 k_s hq
theorem pr_shift (hk : hKn h_s) (hs : tS h_s) : wF F_s 132 (0, [some (.ref 6), some (.int x1_s), some (.int x2_s), some (.int x3), some (.int x4_s), some (.int x5_s), none, none], [], h_s) (gI (fun v_s h1 => wF F_s 235 (0, [some (.ref 102), some (.int x1_s), some (.int x2_s), some (.int x3), some (.int x4_s), some (.int x5_s), none], [], h1) (gI (fun v2 h2 => v_s = v2 ∧ tS h2)))) := by
  have hl : ∀ d_s, d_s < 6 → (h_s.2.1 (76 + 2 * d_s) 0).toInt = 2 → 0 ≤ (h_s.2.1 (76 + 2 * d_s) 3).toInt ∧ (h_s.2.1 (76 + 2 * d_s) 3).toInt ≤ 60 := fun d_s hd_s hq => by
    have q_s := (hs.1 d_s hd_s).1
    unfold tS1 at q_s
    omega
  have hr : ∀ d_s, d_s < 6 → 50 ≤ (h_s.2.1 124 d_s).toInt → 0 ≤ (h_s.2.1 125 d_s).toInt ∧ (h_s.2.1 125 d_s).toInt ≤ 60 := fun d_s hd_s hq => by
    have q_s := (hs.1 d_s hd_s).1
    unfold tS1 at q_s
    omega
  refine sp_132 hk hl (fun c_s => ?_) (fun c1_s c2_s c3_s c4_s => ?_) (fun c1_s c2_s c3_s c4_s c5_s => ?_) (fun c1_s c2_s c3_s c4_s c5_s c6_s c7_s => ?_) (fun c1_s c2_s c3_s c4_s c5_s c6_s c7_s => ?_)
  · exact sp_235 hk hr (fun _ => ⟨rfl, hs⟩) (fun q_s => absurd c_s q_s) (fun q_s => absurd c_s q_s) (fun q_s => absurd c_s q_s) (fun q_s => absurd c_s q_s)
  · have qa := (hs.1 _ c1_s).1
    have qb := (hs.1 _ c2_s).1
    unfold tS1 at qa qb
    exact sp_235 hk hr (fun q_s => absurd q_s c3_s) (fun _ _ => ⟨rfl, hs⟩) (fun _ q1_s q2_s => by omega) (fun _ q1_s q2_s _ => by omega) (fun _ q1_s q2_s _ => by omega)
  · have qa := (hs.1 _ c1_s).1
    have qb := (hs.1 _ c2_s).1
    unfold tS1 at qa qb
    exact sp_235 hk hr (fun q_s => absurd q_s c3_s) (fun _ q1_s => by omega) (fun _ _ _ => ⟨rfl, hs⟩) (fun _ q1_s q2_s _ => by omega) (fun _ q1_s q2_s _ => by omega)
  · have qa := (hs.1 _ c1_s).1
    have qb := (hs.1 _ c2_s).1
    unfold tS1 at qa qb
    exact sp_235 hk hr (fun q_s => absurd q_s c3_s) (fun _ q1_s => by omega) (fun _ q1_s q2_s => by omega) (fun _ _ _ _ => ⟨rfl, hs⟩) (fun _ q1_s q2_s q3_s => by omega)
  · have qa := (hs.1 _ c1_s).1
    have qb := (hs.1 _ c2_s).1
    unfold tS1 at qa qb
    refine sp_235 hk hr (fun q_s => absurd q_s c3_s) (fun _ q1_s => ?_) (fun _ q1_s q2_s => ?_) (fun _ q1_s q2_s q3_s => ?_) (fun _ q1_s q2_s q3_s g_s p1_s p2_s => ⟨rfl, ?_⟩)
    · dsimp only at q1_s
      omega
    · dsimp only at q1_s q2_s
      omega
    · dsimp only at q1_s q2_s q3_s
      omega
    · have z2 := azix (i := x2_s) (by omega)
      have z4 := azix (i := x4_s) (by omega)
      have z5 := azix (i := x5_s) (by omega)
      dsimp only at p1_s p2_s ⊢
      refine ⟨fun d_s hd_s => ⟨(hs.1 d_s hd_s).1, fun k_s hq => ?_⟩, hs.2⟩
      dsimp only
      by_cases e_s : d_s = zix x3
      · subst e_s
        rw [p2_s (76 + 2 * zix x3 + 1) k_s (by omega) (by omega), zrw_s]
        by_cases e2_s : zix x4_s ≤ k_s ∧ k_s < zix x4_s + zix x5_s
        · have p_s := p1_s (k_s - zix x4_s) (by omega)
          rw [show 60 * zix x3 + zix x4_s + (k_s - zix x4_s) = 60 * zix x3 + k_s by omega, zrw_n (by omega)] at p_s
          rw [zcp_i e2_s, p_s, (hs.1 _ c1_s).2 _ (by omega)]
          exact congrArg _ (by omega)
        · rw [zcp_o e2_s, p2_s 126 (60 * zix x3 + k_s) (by omega) (by omega), zrw_n (by omega)]
          exact (hs.1 _ hd_s).2 k_s hq
      · rw [p2_s (76 + 2 * d_s + 1) k_s (by omega) (by omega), p2_s 126 (60 * d_s + k_s) (by omega) (by omega), zrw_n (by omega), zrw_n (by omega)]
        exact (hs.1 d_s hd_s).2 k_s hq
theorem pr_elem (hk : hKn h_s) (hs : tS h_s) : wF F_s 131 (0, [some (.ref 6), some (.int x1_s), some (.int x2_s)], [], h_s) (gJ (fun v_s h1 => wF F_s 234 (0, [some (.ref 102), some (.int x1_s), some (.int x2_s)], [], h1) (gJ (fun v2 h2 => v_s = v2 ∧ tS h2)))) := by
  refine sp_131 hk (fun c_s => ?_) (fun c1_s c2_s c3_s c4_s c5_s c6_s c7_s => ?_)
  · refine sp_234 hk (fun _ => ⟨rfl, hs⟩) (fun q1_s q2_s q3_s q4_s q5_s q6_s => ?_)
    have q_s := (hs.1 _ q3_s).1
    unfold tS1 at q_s
    omega
  · have q_s := (hs.1 _ c3_s).1
    unfold tS1 at q_s
    refine sp_234 hk (fun q_s => by omega) (fun q1_s q2_s q3_s q4_s q5_s q6_s => ⟨?_, hs⟩)
    rw [zx60 (d_s := x1_s) (i_s := x2_s) c1_s c2_s c5_s (by omega)]
    exact (hs.1 _ c3_s).2 _ c7_s
end SS_s
