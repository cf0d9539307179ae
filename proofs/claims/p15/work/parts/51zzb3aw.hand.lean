/-! NUMBERS that are told, undone, done again: what is there, what it may become. -/
def isT (nh ni nr : Nat) (n_s w_s : Int) : Prop := ((0 ≤ w_s ∧ w_s ≤ 1) ∧ 0 ≤ n_s ∧ n_s < (nh : Int)) ∨ (((2 ≤ w_s ∧ w_s ≤ 8) ∨ w_s = 14) ∧ 0 ≤ n_s ∧ n_s < (ni : Int)) ∨ ((9 ≤ w_s ∧ w_s ≤ 13) ∧ 0 ≤ n_s ∧ n_s < (nr : Int))
def isV (nh ni nr : Nat) (n_s w_s : Int) : Prop := ((0 ≤ w_s ∧ w_s ≤ 1) ∧ 0 ≤ n_s ∧ n_s < (nh : Int)) ∨ ((2 ≤ w_s ∧ w_s ≤ 8) ∧ 0 ≤ n_s ∧ n_s < (ni : Int)) ∨ ((9 ≤ w_s ∧ w_s ≤ 11) ∧ 0 ≤ n_s ∧ n_s < (nr : Int))
def vCI (nh : Nat) (w_s v_s : Int) : Prop := ((w_s = 0 ∨ w_s = 3) ∧ 0 ≤ v_s ∧ v_s ≤ 5) ∨ (w_s = 1 ∧ 0 ≤ v_s ∧ v_s ≤ 12) ∨ (w_s = 2 ∧ 0 ≤ v_s ∧ v_s ≤ 3) ∨ (w_s = 4 ∧ 0 ≤ v_s ∧ v_s ≤ 99) ∨ ((w_s = 5 ∨ w_s = 7 ∨ w_s = 10) ∧ 0 ≤ v_s ∧ v_s ≤ 9) ∨ (w_s = 6 ∧ 0 ≤ v_s ∧ v_s ≤ 1) ∨ (w_s = 8 ∧ -1 ≤ v_s ∧ v_s < (nh : Int)) ∨ (w_s = 9 ∧ 1 ≤ v_s ∧ v_s ≤ 9) ∨ (w_s = 11 ∧ 0 ≤ v_s ∧ v_s ≤ 2)
def valC (f_s : Nat → Nat → Int32) (n_s w_s : Nat) : Int32 := if w_s < 12 then f_s (cO n_s w_s) (cF n_s w_s) else if w_s = 12 then f_s (28 + n_s) 0 else if w_s = 13 then f_s (28 + n_s) 1 else 9 - f_s (20 + n_s) 2 / 11
theorem isV_N {nh ni nr : Nat} {n_s w_s : Int} (h_s : isV nh ni nr n_s w_s) : ∃ n1_s w1_s : Nat, n_s = (n1_s : Int) ∧ w_s = (w1_s : Int) ∧ w1_s < 12 ∧ okN nh ni nr n1_s w1_s := by
  unfold isV at h_s
  refine ⟨n_s.toNat, w_s.toNat, by omega, by omega, by omega, ?_⟩
  unfold okN
  by_cases a_s : w_s.toNat < 2
  · rw [if_pos a_s]
    omega
  · rw [if_neg a_s]
    by_cases b_s : w_s.toNat < 9
    · rw [if_pos b_s]
      omega
    · rw [if_neg b_s]
      omega
theorem isV_T {nh ni nr : Nat} {n_s w_s : Int} : isV nh ni nr n_s w_s ↔ isT nh ni nr n_s w_s ∧ w_s ≤ 11 := by
  unfold isV isT
  omega
theorem vCI_B {nh nr n_s w_s : Nat} {v_s : Int} (h_s : vCI nh (w_s : Int) v_s) : vB nh nr n_s w_s v_s := by
  unfold vCI at h_s
  have hw : w_s = 0 ∨ w_s = 1 ∨ w_s = 2 ∨ w_s = 3 ∨ w_s = 4 ∨ w_s = 5 ∨ w_s = 6 ∨ w_s = 7 ∨ w_s = 8 ∨ w_s = 9 ∨ w_s = 10 ∨ w_s = 11 := by omega
  rcases hw with e_s | e_s | e_s | e_s | e_s | e_s | e_s | e_s | e_s | e_s | e_s | e_s
  · subst e_s
    exact ⟨by omega, show v_s ≤ 5 by omega, fun e9_s => absurd e9_s (by omega)⟩
  · subst e_s
    exact ⟨by omega, show v_s ≤ 12 by omega, fun e9_s => absurd e9_s (by omega)⟩
  · subst e_s
    exact ⟨by omega, show v_s ≤ 3 by omega, fun e9_s => absurd e9_s (by omega)⟩
  · subst e_s
    exact ⟨by omega, show v_s ≤ 5 by omega, fun e9_s => absurd e9_s (by omega)⟩
  · subst e_s
    exact ⟨by omega, show v_s ≤ 99 by omega, fun e9_s => absurd e9_s (by omega)⟩
  · subst e_s
    exact ⟨by omega, show v_s ≤ 9 by omega, fun e9_s => absurd e9_s (by omega)⟩
  · subst e_s
    exact ⟨by omega, show v_s ≤ 1 by omega, fun e9_s => absurd e9_s (by omega)⟩
  · subst e_s
    exact ⟨by omega, show v_s ≤ 9 by omega, fun e9_s => absurd e9_s (by omega)⟩
  · subst e_s
    exact ⟨by omega, by omega⟩
  · subst e_s
    exact ⟨by omega, show v_s ≤ 9 by omega, fun _ _ => by omega⟩
  · subst e_s
    exact ⟨by omega, show v_s ≤ 9 by omega, fun e9_s => absurd e9_s (by omega)⟩
  · subst e_s
    exact ⟨by omega, show v_s ≤ 2 by omega, fun e9_s => absurd e9_s (by omega)⟩
section M6_s
variable {F_s : Nat} {h_s : zH} {K_s : Int32 → zH → Prop} {V : zH → Prop} {nh ni nr n_s w_s : Nat} {x1_s x2_s x3 : Int32} {f_s : Nat → Nat → Int32}
theorem sp_18 (hk : hKn h_s) (c6_s : (f_s 7 6).toInt = (nh : Int)) (c7_s : (f_s 7 7).toInt = (ni : Int)) (c8_s : (f_s 7 8).toInt = (nr : Int)) (t1_s : isT nh ni nr x1_s.toInt x2_s.toInt → K_s 1 (h_s.1, f_s, h_s.2.2.1, h_s.2.2.2)) (t0_s : ¬ isT nh ni nr x1_s.toInt x2_s.toInt → K_s 0 (h_s.1, f_s, h_s.2.2.1, h_s.2.2.2)) : wF F_s 18 (0, [some (.ref 7), some (.int x1_s), some (.int x2_s)], [], (h_s.1, f_s, h_s.2.2.1, h_s.2.2.2)) (gI K_s) := by
  refine wF_le (Nat.le_succ F_s) (sg_18_0 (h_s := (h_s.1, f_s, h_s.2.2.1, h_s.2.2.2)) hk ?_)
  dsimp only
  rw [c6_s, c7_s, c8_s]
  unfold isT at t0_s t1_s
  refine ⟨fun c1_s => ?_, fun c1_s => ⟨fun c2_s => ?_, fun c2_s => ⟨fun c3_s => ⟨fun c4_s => ⟨fun c5_s => ⟨fun c6_s => ?_, fun c6_s => ⟨fun c7_s => ?_, fun c7_s => ?_⟩⟩, fun c5_s => ⟨fun c8_s => ?_, fun c8_s => ⟨fun c9_s => ?_, fun c9_s => ?_⟩⟩⟩, fun c4_s => ⟨fun c10_s => ?_, fun c10_s => ⟨fun c11_s => ?_, fun c11_s => ?_⟩⟩⟩, fun c3_s => ⟨fun c12_s => ?_, fun c12_s => ⟨fun c13_s => ?_, fun c13_s => ?_⟩⟩⟩⟩⟩
  all_goals first | exact t0_s (by omega) | exact t1_s (by omega)
theorem sp_19 (hk : hKn h_s) (c6' : (f_s 7 6).toInt = (nh : Int)) (hz : tZ f_s) (t1_s : vCI nh x1_s.toInt x2_s.toInt → K_s 1 (h_s.1, f_s, h_s.2.2.1, h_s.2.2.2)) (t0_s : ¬ vCI nh x1_s.toInt x2_s.toInt → K_s 0 (h_s.1, f_s, h_s.2.2.1, h_s.2.2.2)) : wF F_s 19 (0, [some (.ref 7), some (.int x1_s), some (.int x2_s), none], [], (h_s.1, f_s, h_s.2.2.1, h_s.2.2.2)) (gI K_s) := by
  refine wF_le (Nat.le_succ F_s) (sg_19_0 (h_s := (h_s.1, f_s, h_s.2.2.1, h_s.2.2.2)) hk ?_)
  dsimp only
  rw [sb1 c6']
  by_cases b_s : 0 ≤ x1_s.toInt ∧ x1_s.toInt ≤ 11
  · have z_s := azix (i := x1_s) b_s.1
    have hz1 := hz.1 (zix x1_s) (by omega)
    rw [hz1.1, hz1.2]
    generalize zix x1_s = w_s at z_s
    have tb_s : ∀ lo_s hi_s : Int, lsW w_s = lo_s → msW w_s = hi_s → (w_s ≠ 8 → (vCI nh x1_s.toInt x2_s.toInt ↔ lo_s ≤ x2_s.toInt ∧ x2_s.toInt ≤ hi_s)) ∧ (w_s = 8 → (vCI nh x1_s.toInt x2_s.toInt ↔ lo_s ≤ x2_s.toInt ∧ x2_s.toInt < (nh : Int))) := by
      intro lo_s hi_s hl hh
      subst hl
      subst hh
      rw [← z_s]
      unfold vCI
      have hw : w_s = 0 ∨ w_s = 1 ∨ w_s = 2 ∨ w_s = 3 ∨ w_s = 4 ∨ w_s = 5 ∨ w_s = 6 ∨ w_s = 7 ∨ w_s = 8 ∨ w_s = 9 ∨ w_s = 10 ∨ w_s = 11 := by omega
      rcases hw with e_s | e_s | e_s | e_s | e_s | e_s | e_s | e_s | e_s | e_s | e_s | e_s <;> (subst e_s; refine ⟨fun e8 => ?_, fun e8 => ?_⟩ <;> first | (exact absurd e8 (by decide)) | (exact absurd rfl e8) | (show _ ↔ (0 : Int) ≤ x2_s.toInt ∧ x2_s.toInt ≤ 5; omega) | (show _ ↔ (0 : Int) ≤ x2_s.toInt ∧ x2_s.toInt ≤ 12; omega) | (show _ ↔ (0 : Int) ≤ x2_s.toInt ∧ x2_s.toInt ≤ 3; omega) | (show _ ↔ (0 : Int) ≤ x2_s.toInt ∧ x2_s.toInt ≤ 99; omega) | (show _ ↔ (0 : Int) ≤ x2_s.toInt ∧ x2_s.toInt ≤ 9; omega) | (show _ ↔ (0 : Int) ≤ x2_s.toInt ∧ x2_s.toInt ≤ 1; omega) | (show _ ↔ (1 : Int) ≤ x2_s.toInt ∧ x2_s.toInt ≤ 9; omega) | (show _ ↔ (0 : Int) ≤ x2_s.toInt ∧ x2_s.toInt ≤ 2; omega) | (show _ ↔ (-1 : Int) ≤ x2_s.toInt ∧ x2_s.toInt < (nh : Int); omega))
    obtain ⟨tn_s, t8⟩ := tb_s _ _ rfl rfl
    generalize lsW w_s = lo_s at tn_s t8
    generalize msW w_s = hi_s at tn_s t8
    refine ⟨fun c_s => absurd c_s (by omega), fun _ => ⟨fun c_s => absurd c_s (by omega), fun _ => ⟨fun c3_s _ => ?_, fun c3_s _ => ?_⟩⟩⟩
    · have t8 := t8 (by omega)
      refine ⟨fun c_s => t0_s (fun q_s => ?_), fun c1_s => ⟨fun c_s => t0_s (fun q_s => ?_), fun c2_s => t1_s (t8.mpr (by omega))⟩⟩
      · have := t8.mp q_s
        omega
      · have := t8.mp q_s
        omega
    · have tn_s := tn_s (by omega)
      refine ⟨fun c_s => t0_s (fun q_s => ?_), fun c1_s => ⟨fun c_s => t0_s (fun q_s => ?_), fun c2_s => t1_s (tn_s.mpr (by omega))⟩⟩
      · have := tn_s.mp q_s
        omega
      · have := tn_s.mp q_s
        omega
  · have no_s : ¬ vCI nh x1_s.toInt x2_s.toInt := fun q_s => by
      unfold vCI at q_s
      omega
    exact ⟨fun _ => t0_s no_s, fun c1_s => ⟨fun _ => t0_s no_s, fun c2_s => absurd (show 0 ≤ x1_s.toInt ∧ x1_s.toInt ≤ 11 by omega) b_s⟩⟩
theorem sp_20 (hk : hKn h_s) (c6_s : (f_s 7 6).toInt = (nh : Int)) (c7_s : (f_s 7 7).toInt = (ni : Int)) (c8_s : (f_s 7 8).toInt = (nr : Int)) (t0_s : ¬ isT nh ni nr x1_s.toInt x2_s.toInt → K_s (-2000000000) (h_s.1, f_s, h_s.2.2.1, h_s.2.2.2)) (t1_s : isT nh ni nr x1_s.toInt x2_s.toInt → ∀ n_s w_s : Nat, x1_s.toInt = (n_s : Int) → x2_s.toInt = (w_s : Int) → K_s (valC f_s n_s w_s) (h_s.1, f_s, h_s.2.2.1, h_s.2.2.2)) : wF F_s 20 (0, [some (.ref 7), some (.int x1_s), some (.int x2_s)], [], (h_s.1, f_s, h_s.2.2.1, h_s.2.2.2)) (gI K_s) := by
  refine wF_le (Nat.le_succ F_s) (sg_20_0 (h_s := (h_s.1, f_s, h_s.2.2.1, h_s.2.2.2)) hk ?_)
  refine sp_18 hk c6_s c7_s c8_s (fun q_s _ => ⟨fun c_s => absurd c_s (by decide), fun _ => ?_⟩) (fun q_s _ => ⟨fun _ => t0_s q_s, fun c_s => absurd rfl c_s⟩)
  have b_s : 0 ≤ x1_s.toInt ∧ 0 ≤ x2_s.toInt ∧ x2_s.toInt ≤ 14 := by
    unfold isT at q_s
    omega
  have z_s := azix (i := x1_s) b_s.1
  have t1_s := t1_s q_s (zix x1_s)
  generalize zix x1_s = n_s at z_s t1_s
  have go_s : ∀ w_s : Nat, x2_s.toInt = (w_s : Int) → K_s (valC f_s n_s w_s) (h_s.1, f_s, h_s.2.2.1, h_s.2.2.2) := fun w_s e_s => t1_s w_s z_s.symm e_s
  dsimp only
  exact ⟨fun c0_s => fun _ => go_s 0 c0_s, fun c0_s => ⟨fun c1_s => fun _ => go_s 1 c1_s, fun c1_s => ⟨fun c2_s => fun _ => go_s 2 c2_s, fun c2_s => ⟨fun c3_s => fun _ => go_s 3 c3_s, fun c3_s => ⟨fun c4_s => fun _ => go_s 4 c4_s, fun c4_s => ⟨fun c5_s => fun _ => go_s 5 c5_s, fun c5_s => ⟨fun c6_s => fun _ => go_s 6 c6_s, fun c6_s => ⟨fun c7_s => fun _ => go_s 7 c7_s, fun c7_s => ⟨fun c8_s => fun _ => go_s 8 c8_s, fun c8_s => ⟨fun c9_s => fun _ => go_s 9 c9_s, fun c9_s => ⟨fun c10_s => fun _ => go_s 10 c10_s, fun c10_s => ⟨fun c11_s => fun _ => go_s 11 c11_s, fun c11_s => ⟨fun c12_s => fun _ => go_s 12 c12_s, fun c12_s => ⟨fun c13_s => fun _ => go_s 13 c13_s, fun c13_s => ⟨fun c14_s => fun _ => go_s 14 c14_s, fun c14_s => absurd b_s (by omega)⟩⟩⟩⟩⟩⟩⟩⟩⟩⟩⟩⟩⟩⟩⟩
theorem sp_21 (hk : hKn h_s) (c6_s : (f_s 7 6).toInt = (nh : Int)) (c7_s : (f_s 7 7).toInt = (ni : Int)) (c8_s : (f_s 7 8).toInt = (nr : Int)) (q_s : isV nh ni nr x1_s.toInt x2_s.toInt) (t_s : ∀ n_s w_s : Nat, x1_s.toInt = (n_s : Int) → x2_s.toInt = (w_s : Int) → V (h_s.1, zup f_s (cO n_s w_s) (cF n_s w_s) x3, h_s.2.2.1, h_s.2.2.2)) : wF F_s 21 (0, [some (.ref 7), some (.int x1_s), some (.int x2_s), some (.int x3)], [], (h_s.1, f_s, h_s.2.2.1, h_s.2.2.2)) (gV V) := by
  refine wF_le (Nat.le_succ F_s) (sg_21_0 (h_s := (h_s.1, f_s, h_s.2.2.1, h_s.2.2.2)) hk ?_)
  refine sp_18 hk c6_s c7_s c8_s (fun _ _ => ⟨fun c_s => absurd c_s (by decide), fun _ => ?_⟩) (fun p_s _ => absurd (isV_T.mp q_s).1 p_s)
  have b_s : 0 ≤ x1_s.toInt ∧ 0 ≤ x2_s.toInt ∧ x2_s.toInt ≤ 11 := by
    unfold isV at q_s
    omega
  have z_s := azix (i := x1_s) b_s.1
  have t_s := t_s (zix x1_s)
  generalize zix x1_s = n_s at z_s t_s
  have go_s : ∀ w_s : Nat, x2_s.toInt = (w_s : Int) → V (h_s.1, zup f_s (cO n_s w_s) (cF n_s w_s) x3, h_s.2.2.1, h_s.2.2.2) := fun w_s e_s => t_s w_s z_s.symm e_s
  dsimp only
  exact ⟨fun c0_s => fun _ => go_s 0 c0_s, fun c0_s => ⟨fun c1_s => fun _ => go_s 1 c1_s, fun c1_s => ⟨fun c2_s => fun _ => go_s 2 c2_s, fun c2_s => ⟨fun c3_s => fun _ => go_s 3 c3_s, fun c3_s => ⟨fun c4_s => fun _ => go_s 4 c4_s, fun c4_s => ⟨fun c5_s => fun _ => go_s 5 c5_s, fun c5_s => ⟨fun c6_s => fun _ => go_s 6 c6_s, fun c6_s => ⟨fun c7_s => fun _ => go_s 7 c7_s, fun c7_s => ⟨fun c8_s => fun _ => go_s 8 c8_s, fun c8_s => ⟨fun c9_s => fun _ => go_s 9 c9_s, fun c9_s => ⟨fun c10_s => fun _ => go_s 10 c10_s, fun c10_s => ⟨fun c11_s => fun _ => go_s 11 c11_s, fun c11_s => absurd b_s (by omega)⟩⟩⟩⟩⟩⟩⟩⟩⟩⟩⟩⟩
theorem i68p {n_s w_s : Nat} (e1_s : x1_s.toInt = (n_s : Int)) (e2_s : x2_s.toInt = (w_s : Int)) (hw : 9 ≤ w_s ∧ w_s ≤ 11) (hn : n_s < 12) : (68 + 12 * (x2_s - 9) + x1_s).toInt = ((68 + 12 * (w_s - 9) + n_s : Nat) : Int) := by
  have a1_s : (x2_s - 9).toInt = (w_s : Int) - 9 := by rw [sub_i (by omega) (by decide), i9_, e2_s]
  have a2 : (12 * (x2_s - 9)).toInt = 12 * ((w_s : Int) - 9) := by rw [na_mul (by rw [i12_]; omega) (by rw [i12_]; omega), i12_, a1_s]
  have a3 : (68 + 12 * (x2_s - 9)).toInt = 68 + 12 * ((w_s : Int) - 9) := by rw [na_add (by rw [i68_]; omega) (by rw [i68_]; omega), i68_, a2]
  rw [na_add (by omega) (by omega), a3, e1_s]
  omega
theorem i12p {n_s w_s : Nat} (e1_s : x1_s.toInt = (n_s : Int)) (e2_s : x2_s.toInt = (w_s : Int)) (hw : 2 ≤ w_s ∧ w_s ≤ 8) (hn : n_s < 12) : (12 + 8 * (x2_s - 2) + x1_s).toInt = ((12 + 8 * (w_s - 2) + n_s : Nat) : Int) := by
  have a1_s : (x2_s - 2).toInt = (w_s : Int) - 2 := by rw [sub_i (by omega) (by decide), i2_, e2_s]
  have a2 : (8 * (x2_s - 2)).toInt = 8 * ((w_s : Int) - 2) := by rw [na_mul (by rw [i8_]; omega) (by rw [i8_]; omega), i8_, a1_s]
  have a3 : (12 + 8 * (x2_s - 2)).toInt = 12 + 8 * ((w_s : Int) - 2) := by rw [na_add (by rw [i12_]; omega) (by rw [i12_]; omega), i12_, a2]
  rw [na_add (by omega) (by omega), a3, e1_s]
  omega
theorem i6_ : (6 : Int32).toInt = 6 := rfl
theorem i6p {n_s w_s : Nat} (e1_s : x1_s.toInt = (n_s : Int)) (e2_s : x2_s.toInt = (w_s : Int)) (hw : w_s ≤ 1) (hn : n_s < 12) : (6 * x2_s + x1_s).toInt = ((6 * w_s + n_s : Nat) : Int) := by
  have a2 : (6 * x2_s).toInt = 6 * (w_s : Int) := by rw [na_mul (by rw [i6_]; omega) (by rw [i6_]; omega), i6_, e2_s]
  rw [na_add (by omega) (by omega), a2, e1_s]
  omega
/-- placeOf -/
theorem sp_161 (hk : hKn h_s) (b_s : nh ≤ 6 ∧ ni ≤ 8 ∧ nr ≤ 12) (c6_s : (f_s 102 6).toInt = (nh : Int)) (c7_s : (f_s 102 7).toInt = (ni : Int)) (c8_s : (f_s 102 8).toInt = (nr : Int)) (t0_s : ¬ isV nh ni nr x1_s.toInt x2_s.toInt → K_s (-1) (h_s.1, f_s, h_s.2.2.1, h_s.2.2.2)) (t1_s : isV nh ni nr x1_s.toInt x2_s.toInt → ∀ (n_s w_s : Nat) (v_s : Int32), x1_s.toInt = (n_s : Int) → x2_s.toInt = (w_s : Int) → v_s.toInt = (plc n_s w_s : Int) → K_s v_s (h_s.1, f_s, h_s.2.2.1, h_s.2.2.2)) : wF F_s 161 (0, [some (.ref 102), some (.int x1_s), some (.int x2_s)], [], (h_s.1, f_s, h_s.2.2.1, h_s.2.2.2)) (gI K_s) := by
  refine wF_le (Nat.le_succ F_s) (sg_161_0 (h_s := (h_s.1, f_s, h_s.2.2.1, h_s.2.2.2)) hk ?_)
  dsimp only
  rw [sb1 c6_s, sb1 c7_s, sb1 c8_s]
  have g68 : 0 ≤ x1_s.toInt → x1_s.toInt < (nr : Int) → 9 ≤ x2_s.toInt → x2_s.toInt ≤ 11 → K_s (68 + 12 * (x2_s - 9) + x1_s) (h_s.1, f_s, h_s.2.2.1, h_s.2.2.2) := fun q1_s q2_s q3_s q4_s => by
    have e1_s : x1_s.toInt = (x1_s.toInt.toNat : Int) := by omega
    have e2_s : x2_s.toInt = (x2_s.toInt.toNat : Int) := by omega
    refine t1_s (by unfold isV; omega) _ _ _ e1_s e2_s ?_
    rw [plc_r (by omega)]
    exact i68p e1_s e2_s (by omega) (by omega)
  have g12 : 0 ≤ x1_s.toInt → x1_s.toInt < (ni : Int) → 2 ≤ x2_s.toInt → x2_s.toInt ≤ 8 → K_s (12 + 8 * (x2_s - 2) + x1_s) (h_s.1, f_s, h_s.2.2.1, h_s.2.2.2) := fun q1_s q2_s q3_s q4_s => by
    have e1_s : x1_s.toInt = (x1_s.toInt.toNat : Int) := by omega
    have e2_s : x2_s.toInt = (x2_s.toInt.toNat : Int) := by omega
    refine t1_s (by unfold isV; omega) _ _ _ e1_s e2_s ?_
    rw [plc_i (by omega) (by omega)]
    exact i12p e1_s e2_s (by omega) (by omega)
  have g6 : 0 ≤ x1_s.toInt → x1_s.toInt < (nh : Int) → 0 ≤ x2_s.toInt → x2_s.toInt ≤ 1 → K_s (6 * x2_s + x1_s) (h_s.1, f_s, h_s.2.2.1, h_s.2.2.2) := fun q1_s q2_s q3_s q4_s => by
    have e1_s : x1_s.toInt = (x1_s.toInt.toNat : Int) := by omega
    have e2_s : x2_s.toInt = (x2_s.toInt.toNat : Int) := by omega
    refine t1_s (by unfold isV; omega) _ _ _ e1_s e2_s ?_
    rw [plc_h (by omega)]
    exact i6p e1_s e2_s (by omega) (by omega)
  unfold isV at t0_s
  refine ⟨fun c1_s => ⟨fun c2_s => ⟨fun c3_s => ?_, fun c3_s => ⟨fun c4_s => ?_, fun c4_s => ⟨fun c5_s => ?_, fun c5_s => ⟨fun c6_s => ?_, fun c6_s => ?_⟩⟩⟩⟩, fun c2_s => ⟨fun c7_s => ⟨fun c8_s => ?_, fun c8_s => ⟨fun c9_s => ?_, fun c9_s => ⟨fun c10_s => ?_, fun c10_s => ⟨fun c11_s => ?_, fun c11_s => ?_⟩⟩⟩⟩, fun c7_s => ⟨fun c12_s => ?_, fun c12_s => ⟨fun c13_s => ?_, fun c13_s => ?_⟩⟩⟩⟩, fun c1_s => ⟨fun c14_s => ⟨fun c15_s => ⟨fun c16 => ?_, fun c16 => ⟨fun c17 => ?_, fun c17 => ⟨fun c18_s => ?_, fun c18_s => ⟨fun c19_s => ?_, fun c19_s => ?_⟩⟩⟩⟩, fun c15_s => ⟨fun c20_s => ⟨fun c21 => ?_, fun c21 => ⟨fun c22 => ?_, fun c22 => ⟨fun c23_s => ?_, fun c23_s => ⟨fun c24_s => ?_, fun c24_s => ?_⟩⟩⟩⟩, fun c20_s => ⟨fun c25_s => ?_, fun c25_s => ⟨fun c26 => ?_, fun c26 => ?_⟩⟩⟩⟩, fun c14_s => ⟨fun c27_s => ?_, fun c27_s => ⟨fun c28_s => ?_, fun c28_s => ?_⟩⟩⟩⟩
  all_goals first | exact t0_s (by omega) | exact g68 (by omega) (by omega) (by omega) (by omega) | exact g12 (by omega) (by omega) (by omega) (by omega) | exact g6 (by omega) (by omega) (by omega) (by omega)
/-- mayBecome -/
theorem sp_162 (hk : hKn h_s) (c6_s : (f_s 102 6).toInt = (nh : Int)) (hx : 0 ≤ x1_s.toInt ∧ x1_s.toInt ≤ 11) (t1_s : vCI nh x1_s.toInt x2_s.toInt → K_s 1 (h_s.1, f_s, h_s.2.2.1, h_s.2.2.2)) (t0_s : ¬ vCI nh x1_s.toInt x2_s.toInt → K_s 0 (h_s.1, f_s, h_s.2.2.1, h_s.2.2.2)) : wF F_s 162 (0, [some (.ref 102), some (.int x1_s), some (.int x2_s)], [], (h_s.1, f_s, h_s.2.2.1, h_s.2.2.2)) (gI K_s) := by
  refine wF_le (Nat.le_succ F_s) (sg_162_0 (h_s := (h_s.1, f_s, h_s.2.2.1, h_s.2.2.2)) hk ?_)
  dsimp only
  rw [sb1 c6_s]
  unfold vCI at t0_s t1_s
  refine ⟨fun c1_s => ⟨fun c2_s => ?_, fun c2_s => ⟨fun c3_s => ?_, fun c3_s => ?_⟩⟩, fun c1_s => ⟨fun c4_s => ⟨fun c5_s => ?_, fun c5_s => ⟨fun c6_s => ?_, fun c6_s => ?_⟩⟩, fun c4_s => ⟨fun c7_s => ⟨fun c8_s => ?_, fun c8_s => ⟨fun c9_s => ?_, fun c9_s => ?_⟩⟩, fun c7_s => ⟨fun c10_s => ⟨fun c11_s => ?_, fun c11_s => ⟨fun c12_s => ?_, fun c12_s => ?_⟩⟩, fun c10_s => ⟨fun c13_s => ⟨fun c14_s => ?_, fun c14_s => ⟨fun c15_s => ?_, fun c15_s => ?_⟩⟩, fun c13_s => ⟨fun c16 => ⟨fun c17 => ?_, fun c17 => ⟨fun c18_s => ?_, fun c18_s => ?_⟩⟩, fun c16 => ⟨fun c19_s => ⟨fun c20_s => ?_, fun c20_s => ⟨fun c21 => ?_, fun c21 => ?_⟩⟩, fun c19_s => ⟨fun c22 => ⟨fun c23_s => ?_, fun c23_s => ⟨fun c24_s => ?_, fun c24_s => ?_⟩⟩, fun c22 => ⟨fun c25_s => ⟨fun c26 => ?_, fun c26 => ⟨fun c27_s => ?_, fun c27_s => ⟨fun c28_s => ?_, fun c28_s => ?_⟩⟩⟩, fun c25_s => ⟨fun c29_s => ⟨fun c30_s => ?_, fun c30_s => ⟨fun c31_s => ?_, fun c31_s => ?_⟩⟩, fun c29_s => ⟨fun c32_s => ⟨fun c33_s => ?_, fun c33_s => ⟨fun c34_s => ?_, fun c34_s => ?_⟩⟩, fun c32_s => ⟨fun c35_s => ⟨fun c36_s => ?_, fun c36_s => ⟨fun c37 => ?_, fun c37 => ?_⟩⟩, fun c35_s => ⟨fun c38 => ?_, fun c38 => ⟨fun c39_s => ?_, fun c39_s => ?_⟩⟩⟩⟩⟩⟩⟩⟩⟩⟩⟩⟩⟩⟩
  all_goals first | exact t0_s (by omega) | exact t1_s (by omega)
end M6_s
/-! NUMBERS told, UNDONE, DONE AGAIN: class and reference. -/
section N7
variable {F_s : Nat} {h_s : zH} {K_s : Int32 → zH → Prop} {V : zH → Prop} {nh ni nr : Nat} {x1_s x2_s x3 x4_s : Int32} {f_s : Nat → Nat → Int32}
theorem tC_set {f2_s : Nat → Nat → Int32} {n_s w_s : Nat} {v_s : Int32} (hc_s : tC nh ni nr f_s) (hw : w_s < 12) (ok_s : okN nh ni nr n_s w_s) (hB_s : vB nh nr n_s w_s v_s.toInt) (e1_s : f2_s (cO n_s w_s) (cF n_s w_s) = v_s) (e2_s : f2_s 103 (plc n_s w_s) = v_s) (hf : ∀ a_s k_s, inC a_s k_s → ¬ (a_s = cO n_s w_s ∧ k_s = cF n_s w_s) → ¬ (a_s = 103 ∧ k_s = plc n_s w_s) → f2_s a_s k_s = f_s a_s k_s) : tC nh ni nr f2_s := by
  obtain ⟨a0_s, ⟨a1_s, a2, a3⟩, ⟨a4, a5, a6⟩, a7, a8, a9⟩ := hc_s
  have pos_s : (8 ≤ cO n_s w_s ∧ cO n_s w_s < 40) ∧ plc n_s w_s < 104 ∧ (28 ≤ cO n_s w_s → 2 ≤ cF n_s w_s) ∧ (20 ≤ cO n_s w_s → cO n_s w_s < 28 → cO n_s w_s = 20 + n_s ∧ n_s < ni) := by
    unfold okN at ok_s
    by_cases w2_s : w_s < 2
    · rw [if_pos w2_s] at ok_s
      rw [cO_h w2_s, cF_h w2_s, plc_h w2_s]
      omega
    · rw [if_neg w2_s] at ok_s
      by_cases w9 : w_s < 9
      · rw [if_pos w9] at ok_s
        rw [cO_i (by omega) w9, cF_i (by omega) w9, plc_i (by omega) w9]
        omega
      · rw [if_neg w9] at ok_s
        rw [cO_r (by omega), cF_r (by omega), plc_r (by omega)]
        omega
  obtain ⟨q1_s, q2_s, q3_s, q4_s⟩ := pos_s
  have f7_s : ∀ a_s k_s, (a_s = 7 ∨ a_s = 102) ∧ 6 ≤ k_s ∧ k_s ≤ 8 → f2_s a_s k_s = f_s a_s k_s := fun a_s k_s q_s => hf a_s k_s (by unfold inC; omega) (by omega) (by omega)
  have inj : ∀ n1_s w1_s, w1_s < 12 → n1_s < cap w1_s → ¬ (n1_s = n_s ∧ w1_s = w_s) → ¬ (cO n1_s w1_s = cO n_s w_s ∧ cF n1_s w1_s = cF n_s w_s) ∧ ¬ plc n1_s w1_s = plc n_s w_s := by
    intro n1_s w1_s hw1 hn1 hne
    unfold okN at ok_s
    by_cases w2_s : w_s < 2
    · rw [if_pos w2_s] at ok_s
      rw [cO_h w2_s, cF_h w2_s, plc_h w2_s]
      by_cases v2 : w1_s < 2
      · rw [cap_h v2] at hn1
        rw [cO_h v2, cF_h v2, plc_h v2]
        omega
      · by_cases v9 : w1_s < 9
        · rw [cap_i (by omega) v9] at hn1
          rw [cO_i (by omega) v9, cF_i (by omega) v9, plc_i (by omega) v9]
          omega
        · rw [cap_r (by omega)] at hn1
          rw [cO_r (by omega), cF_r (by omega), plc_r (by omega)]
          omega
    · rw [if_neg w2_s] at ok_s
      by_cases w9 : w_s < 9
      · rw [if_pos w9] at ok_s
        rw [cO_i (by omega) w9, cF_i (by omega) w9, plc_i (by omega) w9]
        by_cases v2 : w1_s < 2
        · rw [cap_h v2] at hn1
          rw [cO_h v2, cF_h v2, plc_h v2]
          omega
        · by_cases v9 : w1_s < 9
          · rw [cap_i (by omega) v9] at hn1
            rw [cO_i (by omega) v9, cF_i (by omega) v9, plc_i (by omega) v9]
            omega
          · rw [cap_r (by omega)] at hn1
            rw [cO_r (by omega), cF_r (by omega), plc_r (by omega)]
            omega
      · rw [if_neg w9] at ok_s
        rw [cO_r (n_s := n_s) (w_s := w_s) (by omega), cF_r (n_s := n_s) (w_s := w_s) (by omega), plc_r (n_s := n_s) (w_s := w_s) (by omega)]
        by_cases v2 : w1_s < 2
        · rw [cap_h v2] at hn1
          rw [cO_h v2, cF_h v2, plc_h v2]
          omega
        · by_cases v9 : w1_s < 9
          · rw [cap_i (by omega) v9] at hn1
            rw [cO_i (by omega) v9, cF_i (by omega) v9, plc_i (by omega) v9]
            omega
          · rw [cap_r (by omega)] at hn1
            rw [cO_r (by omega), cF_r (by omega), plc_r (by omega)]
            omega
  refine ⟨a0_s, ⟨?_, ?_, ?_⟩, ⟨?_, ?_, ?_⟩, fun n1_s w1_s hw1 hn1 h8 => ?_, fun j_s j1 j2_s => ?_, fun r_s hr => ?_⟩
  · rw [f7_s 7 6 (by omega)]
    exact a1_s
  · rw [f7_s 7 7 (by omega)]
    exact a2
  · rw [f7_s 7 8 (by omega)]
    exact a3
  · rw [f7_s 102 6 (by omega)]
    exact a4
  · rw [f7_s 102 7 (by omega)]
    exact a5
  · rw [f7_s 102 8 (by omega)]
    exact a6
  · by_cases e_s : n1_s = n_s ∧ w1_s = w_s
    · obtain ⟨rfl, rfl⟩ := e_s
      rw [e1_s, e2_s]
      exact ⟨rfl, hB_s⟩
    · obtain ⟨i1_s, i2_s⟩ := inj n1_s w1_s hw1 hn1 e_s
      have lt_s := plc_lt hw1 hn1
      have c3_s : ¬ cO n1_s w1_s = 103 := by
        have ci := cell_in hw1 hn1
        intro c_s
        rw [c_s] at ci
        by_cases v2 : w1_s < 2
        · rw [cO_h v2] at c_s
          omega
        · by_cases v9 : w1_s < 9
          · rw [cap_i (by omega) v9] at hn1
            rw [cO_i (by omega) v9] at c_s
            omega
          · rw [cap_r (by omega)] at hn1
            rw [cO_r (by omega)] at c_s
            omega
      rw [hf _ _ (cell_in hw1 hn1) i1_s (fun c_s => c3_s c_s.1), hf 103 _ (by unfold inC; omega) (fun c_s => absurd c_s.1 (by omega)) (fun c_s => i2_s c_s.2)]
      exact a7 n1_s w1_s hw1 hn1 h8
  · rw [hf (20 + j_s) 6 (by unfold inC; omega) (fun c_s => by have := q4_s (by omega) (by omega); omega) (by omega)]
    exact a8 j_s j1 j2_s
  · have q_s := fun a_s k_s (qa : (a_s = 28 + r_s ∧ k_s < 2) ∨ ((a_s = 107 ∨ a_s = 108) ∧ k_s = r_s)) => hf a_s k_s (by unfold inC; omega) (by omega) (by omega)
    rw [q_s (28 + r_s) 0 (by omega), q_s (28 + r_s) 1 (by omega), q_s 107 r_s (by omega), q_s 108 r_s (by omega)]
    exact a9 r_s hr
/-- forgetFirst, note -/
theorem sp_10 (hk : hKn h_s) (t_s : ∀ f1_s, (f1_s 42 0).toInt = 39 → (∀ o k_s, 43 ≤ o → o ≤ 46 → k_s < 39 → f1_s o k_s = f_s o (k_s + 1)) → (∀ a_s k_s, ¬ (43 ≤ a_s ∧ a_s ≤ 46 ∧ k_s < 39) → ¬ (a_s = 42 ∧ k_s = 0) → f1_s a_s k_s = f_s a_s k_s) → V (h_s.1, f1_s, h_s.2.2.1, h_s.2.2.2)) : wF F_s 10 (0, [some (.ref 42)], [], (h_s.1, f_s, h_s.2.2.1, h_s.2.2.2)) (gV V) := by
  refine wF_le (Nat.le_succ F_s) (sg_10_0 (h_s := (h_s.1, f_s, h_s.2.2.1, h_s.2.2.2)) hk (fun _ _ _ _ => ?_))
  dsimp only
  refine t_s _ ?_ (fun o k_s h1 h2 h3 => ?_) (fun a_s k_s q1_s q2_s => ?_)
  · simp (disch := omega) only [zrw_n, zsame_up]
    rfl
  · have e_s : o = 43 ∨ o = 44 ∨ o = 45 ∨ o = 46 := by omega
    have e1_s : 1 + (k_s - 0) = k_s + 1 := by omega
    rcases e_s with e_s | e_s | e_s | e_s <;> (subst e_s; simp (disch := omega) only [zrw_s, zrw_n, zcp_i, zne_up, e1_s])
  · by_cases e_s : a_s = 43 ∨ a_s = 44 ∨ a_s = 45 ∨ a_s = 46
    · rcases e_s with e_s | e_s | e_s | e_s <;> (subst e_s; simp (disch := omega) only [zrw_s, zrw_n, zcp_o, zne_up])
    · simp (disch := omega) only [zrw_n, zne_up]
theorem sp_9 {u_s : Nat} (hk : hKn h_s) (hu : (f_s 42 0).toInt = (u_s : Int)) (hb_s : u_s ≤ 40) (t_s : ∀ f1_s u0 s_s, u0 + s_s = u_s → (s_s = 0 ∧ u_s < 40 ∨ s_s = 1 ∧ u_s = 40) → (∀ o k_s, 43 ≤ o → o ≤ 46 → k_s < u0 → f1_s o k_s = f_s o (k_s + s_s)) → f1_s 43 u0 = x1_s → f1_s 44 u0 = x2_s → f1_s 45 u0 = x3 → f1_s 46 u0 = x4_s → (f1_s 42 0).toInt = ((u0 + 1 : Nat) : Int) → (f1_s 42 1).toInt = 0 → (∀ a_s k_s, ¬ (43 ≤ a_s ∧ a_s ≤ 46 ∧ k_s < 40) → ¬ (a_s = 42 ∧ k_s < 2) → f1_s a_s k_s = f_s a_s k_s) → V (h_s.1, f1_s, h_s.2.2.1, h_s.2.2.2)) : wF F_s 9 (0, [some (.ref 42), some (.int x1_s), some (.int x2_s), some (.int x3), some (.int x4_s)], [], (h_s.1, f_s, h_s.2.2.1, h_s.2.2.2)) (gV V) := by
  refine wF_le (Nat.le_succ F_s) (sg_9_0 (h_s := (h_s.1, f_s, h_s.2.2.1, h_s.2.2.2)) hk ⟨fun (c1_s : (f_s 42 0).toInt < 40) => fun _ => ?_, fun (c1_s : ¬ (f_s 42 0).toInt < 40) => ?_⟩)
  · obtain ⟨p1_s, p2_s, _⟩ := ic1 hu (by omega)
    dsimp only
    rw [p2_s]
    refine t_s _ u_s 0 rfl (Or.inl ⟨rfl, by omega⟩) (fun o k_s h1 h2 h3 => ?_) ?_ ?_ ?_ ?_ ?_ ?_ (fun a_s k_s q1_s q2_s => ?_)
    · simp (disch := omega) only [zne_up]
      rfl
    · simp (disch := omega) only [zne_up, zsame_up]
    · simp (disch := omega) only [zne_up, zsame_up]
    · simp (disch := omega) only [zne_up, zsame_up]
    · simp (disch := omega) only [zne_up, zsame_up]
    · rw [zsame_up]
      exact p1_s
    · simp (disch := omega) only [zne_up, zsame_up]
      rfl
    · simp (disch := omega) only [zne_up]
  · have hu4 : u_s = 40 := by omega
    refine sp_10 (h_s := (h_s.1, zup f_s 42 1 0, h_s.2.2.1, h_s.2.2.2)) (f_s := zup f_s 42 1 0) hk (fun f1_s g1 g2 g3_s _ => fun _ => ?_)
    obtain ⟨p1_s, p2_s, _⟩ := ic1 (n_s := 39) g1 (by omega)
    have g2' : ∀ o k_s, 43 ≤ o → o ≤ 46 → k_s < 39 → f1_s o k_s = f_s o (k_s + 1) := fun o k_s h1 h2 h3 => by
      rw [g2 o k_s h1 h2 h3, zne_up (by omega)]
    have g3' : ∀ a_s k_s, ¬ (43 ≤ a_s ∧ a_s ≤ 46 ∧ k_s < 39) → ¬ (a_s = 42 ∧ k_s < 2) → f1_s a_s k_s = f_s a_s k_s := fun a_s k_s q1_s q2_s => by
      rw [g3_s a_s k_s q1_s (by omega), zne_up (by omega)]
    have g421 : f1_s 42 1 = 0 := by rw [g3_s 42 1 (by omega) (by omega), zsame_up]
    dsimp only
    rw [p2_s]
    refine t_s _ 39 1 (by omega) (Or.inr ⟨rfl, hu4⟩) (fun o k_s h1 h2 h3 => ?_) ?_ ?_ ?_ ?_ ?_ ?_ (fun a_s k_s q1_s q2_s => ?_)
    · simp (disch := omega) only [zne_up]
      exact g2' o k_s h1 h2 h3
    · simp (disch := omega) only [zne_up, zsame_up]
    · simp (disch := omega) only [zne_up, zsame_up]
    · simp (disch := omega) only [zne_up, zsame_up]
    · simp (disch := omega) only [zne_up, zsame_up]
    · rw [zsame_up]
      exact p1_s
    · simp (disch := omega) only [zne_up]
      rw [g421]
      rfl
    · simp (disch := omega) only [zne_up]
      exact g3' a_s k_s (by omega) q2_s
/-- mend, the class -/
theorem sp_98 {u_s : Nat} (hk : hKn h_s) (c6_s : (f_s 7 6).toInt = (nh : Int)) (c7_s : (f_s 7 7).toInt = (ni : Int)) (c8_s : (f_s 7 8).toInt = (nr : Int)) (b_s : nh ≤ 6 ∧ ni ≤ 8 ∧ nr ≤ 12) (hz : tZ f_s) (hu : (f_s 42 0).toInt = (u_s : Int)) (hb_s : u_s ≤ 40) (t0_s : ¬ (isV nh ni nr x1_s.toInt x2_s.toInt ∧ vCI nh x2_s.toInt x3.toInt) → K_s (-2000000000) (h_s.1, f_s, h_s.2.2.1, h_s.2.2.2)) (t1_s : isV nh ni nr x1_s.toInt x2_s.toInt → vCI nh x2_s.toInt x3.toInt → ∀ n_s w_s : Nat, x1_s.toInt = (n_s : Int) → x2_s.toInt = (w_s : Int) → f_s (cO n_s w_s) (cF n_s w_s) = x3 → K_s (f_s (cO n_s w_s) (cF n_s w_s)) (h_s.1, f_s, h_s.2.2.1, h_s.2.2.2)) (t2_s : isV nh ni nr x1_s.toInt x2_s.toInt → vCI nh x2_s.toInt x3.toInt → ∀ n_s w_s : Nat, x1_s.toInt = (n_s : Int) → x2_s.toInt = (w_s : Int) → ¬ f_s (cO n_s w_s) (cF n_s w_s) = x3 → ∀ f1_s u0 s_s, u0 + s_s = u_s → (s_s = 0 ∧ u_s < 40 ∨ s_s = 1 ∧ u_s = 40) → (∀ o k_s, 43 ≤ o → o ≤ 46 → k_s < u0 → f1_s o k_s = f_s o (k_s + s_s)) → f1_s 43 u0 = x1_s → f1_s 44 u0 = x2_s → f1_s 45 u0 = f_s (cO n_s w_s) (cF n_s w_s) → f1_s 46 u0 = x3 → (f1_s 42 0).toInt = ((u0 + 1 : Nat) : Int) → (f1_s 42 1).toInt = 0 → f1_s (cO n_s w_s) (cF n_s w_s) = x3 → (∀ a_s k_s, ¬ (43 ≤ a_s ∧ a_s ≤ 46 ∧ k_s < 40) → ¬ (a_s = 42 ∧ k_s < 2) → ¬ (a_s = cO n_s w_s ∧ k_s = cF n_s w_s) → f1_s a_s k_s = f_s a_s k_s) → K_s (f_s (cO n_s w_s) (cF n_s w_s)) (h_s.1, f1_s, h_s.2.2.1, h_s.2.2.2)) : wF F_s 98 (0, [some (.ref 6), some (.int x1_s), some (.int x2_s), some (.int x3), none], [], (h_s.1, f_s, h_s.2.2.1, h_s.2.2.2)) (gI K_s) := by
  refine wF_le (Nat.le_succ F_s) (sg_98_0 (h_s := (h_s.1, f_s, h_s.2.2.1, h_s.2.2.2)) hk ?_)
  refine sp_18 hk c6_s c7_s c8_s (fun q_s _ => ⟨fun c_s => absurd c_s (by decide), fun _ => ?_⟩) (fun q_s _ => ⟨fun _ => t0_s (fun p_s => q_s (isV_T.mp p_s.1).1), fun c_s => absurd rfl c_s⟩)
  refine sp_19 hk c6_s hz (fun q2_s _ => ⟨fun c_s => absurd c_s (by decide), fun _ => ?_⟩) (fun q2_s _ => ⟨fun _ => t0_s (fun p_s => q2_s p_s.2), fun c_s => absurd rfl c_s⟩)
  have w11_s : x2_s.toInt ≤ 11 := by
    unfold vCI at q2_s
    omega
  have qv : isV nh ni nr x1_s.toInt x2_s.toInt := isV_T.mpr ⟨q_s, w11_s⟩
  refine sp_20 hk c6_s c7_s c8_s (fun p_s => absurd q_s p_s) (fun _ n_s w_s e1_s e2_s _ => ?_)
  have hw : w_s < 12 := by omega
  have ev_s : valC f_s n_s w_s = f_s (cO n_s w_s) (cF n_s w_s) := by
    unfold valC
    rw [if_pos hw]
  rw [ev_s]
  have cc : (cO n_s w_s = 8 ∨ cO n_s w_s = 9 ∨ 20 ≤ cO n_s w_s) ∧ cO n_s w_s < 40 := by
    unfold isV at qv
    by_cases w2_s : w_s < 2
    · rw [cO_h w2_s]
      omega
    · by_cases w9 : w_s < 9
      · rw [cO_i (by omega) w9]
        omega
      · rw [cO_r (by omega)]
        omega
  refine ⟨fun c_s => t1_s qv q2_s n_s w_s e1_s e2_s (Int32.toInt_inj.mp c_s), fun c_s => ?_⟩
  refine sp_21 hk c6_s c7_s c8_s qv (fun n1_s w1_s d1_s d2_s _ => ?_)
  have en : n1_s = n_s := by omega
  have ew : w1_s = w_s := by omega
  subst en
  subst ew
  refine sp_9 (h_s := (h_s.1, zup f_s (cO n1_s w1_s) (cF n1_s w1_s) x3, h_s.2.2.1, h_s.2.2.2)) (f_s := zup f_s (cO n1_s w1_s) (cF n1_s w1_s) x3) (u_s := u_s) hk (by rw [zne_up (by omega)]; exact hu) hb_s (fun f1_s u0 s_s g1 g2 g3_s g4 g5_s g6 g7 g8 g9 g10 _ => ?_)
  refine t2_s qv q2_s n1_s w1_s e1_s e2_s (fun w_s => c_s (by rw [w_s])) f1_s u0 s_s g1 g2 (fun o k_s h1 h2 h3 => ?_) g4 g5_s g6 g7 g8 g9 ?_ (fun a_s k_s p1_s p2_s p3_s => ?_)
  · rw [g3_s o k_s h1 h2 h3, zne_up (by omega)]
  · rw [g10 _ _ (by omega) (by omega), zsame_up]
  · rw [g10 a_s k_s p1_s p2_s, zne_up p3_s]
/-- becomes -/
theorem bc148 {p_s : Nat} {f0_s : Nat → Nat → Int32} (hk : hKn h_s) (hx : x1_s.toInt = (p_s : Int)) (hp : p_s < 104) (hu : (f0_s 102 5).toInt = 40) (t_s : ∀ f1_s, (∀ o k_s, 104 ≤ o → o ≤ 106 → k_s < 39 → f1_s o k_s = f0_s o (k_s + 1)) → f1_s 104 39 = x1_s → f1_s 105 39 = x3 → f1_s 106 39 = x2_s → (f1_s 102 5).toInt = 40 → (f1_s 102 4).toInt = 40 → f1_s 103 p_s = x2_s → (∀ a_s k_s, ¬ (104 ≤ a_s ∧ a_s ≤ 106 ∧ k_s < 40) → ¬ (a_s = 102 ∧ (k_s = 4 ∨ k_s = 5)) → ¬ (a_s = 103 ∧ k_s = p_s) → f1_s a_s k_s = f0_s a_s k_s) → K_s x3 (h_s.1, f1_s, h_s.2.2.1, h_s.2.2.2)) : ∀ (F_s j_s : Nat) (x4_s : Int32) (f_s : Nat → Nat → Int32), x4_s.toInt = ((j_s + 1 : Nat) : Int) → j_s ≤ 39 → (∀ o k_s, 104 ≤ o → o ≤ 106 → k_s < j_s → f_s o k_s = f0_s o (k_s + 1)) → (∀ a_s k_s, ¬ (104 ≤ a_s ∧ a_s ≤ 106 ∧ k_s < j_s) → f_s a_s k_s = f0_s a_s k_s) → wF F_s 148 (26, [some (.ref 102), some (.int x1_s), some (.int x2_s), some (.int x3), some (.int x4_s)], [], (h_s.1, f_s, h_s.2.2.1, h_s.2.2.2)) (gI K_s)
  | 0, _, _, _, _, _, _, _ => wF_zero
  | F_s + 1, j_s, x4_s, f_s, h4, hj, hf, hg => by
    have z_s := azix (i := x4_s) (by omega)
    have ez : zix x4_s = j_s + 1 := by omega
    have e4_s : (x4_s - 1).toInt = (j_s : Int) := by rw [sub_i (by omega) (by decide), n1_]; omega
    have z1 := azix (i := x4_s - 1) (by omega)
    have ez1 : zix (x4_s - 1) = j_s := by omega
    have e5_s : (f_s 102 5).toInt = 40 := by rw [hg 102 5 (by omega)]; exact hu
    have e51 : (f_s 102 5 - 1).toInt = 39 := by rw [sub_i (by omega) (by decide), n1_]; omega
    have z5 := azix (i := f_s 102 5 - 1) (by omega)
    have ez5 : zix (f_s 102 5 - 1) = 39 := by omega
    have zp := azix (i := x1_s) (by omega)
    have ezp : zix x1_s = p_s := by omega
    have e52 : (f_s 102 5 - 1 + 1).toInt = 40 := by rw [in1_ (by omega)]; omega
    refine sg_148_26 (h_s := (h_s.1, f_s, h_s.2.2.1, h_s.2.2.2)) hk ?_
    dsimp only
    rw [ez, ez1, ez5, ezp]
    refine ⟨fun c1_s _ _ => ?_, fun c1_s _ _ => ?_⟩
    · refine bc148 (f0_s := f0_s) hk hx hp hu t_s F_s (j_s + 1) (x4_s + 1) _ (by rw [in1_ (by omega)]; omega) (by omega) (fun o k_s h1 h2 h3 => ?_) (fun a_s k_s q_s => ?_)
      · by_cases e_s : k_s = j_s
        · subst e_s
          have eo : o = 104 ∨ o = 105 ∨ o = 106 := by omega
          rcases eo with eo | eo | eo <;> (subst eo; simp (disch := omega) only [zne_up, zsame_up]; exact hg _ _ (by omega))
        · simp (disch := omega) only [zne_up]
          exact hf o k_s h1 h2 (by omega)
      · simp (disch := omega) only [zne_up]
        exact hg a_s k_s (by omega)
    · have ej : j_s = 39 := by omega
      subst ej
      refine t_s _ (fun o k_s h1 h2 h3 => ?_) ?_ ?_ ?_ ?_ ?_ ?_ (fun a_s k_s q1_s q2_s q3_s => ?_)
      · simp (disch := omega) only [zne_up]
        exact hf o k_s h1 h2 h3
      · simp (disch := omega) only [zne_up, zsame_up]
      · simp (disch := omega) only [zne_up, zsame_up]
      · simp (disch := omega) only [zne_up, zsame_up]
      · simp (disch := omega) only [zne_up, zsame_up]
        exact e52
      · simp (disch := omega) only [zne_up, zsame_up]
        exact e52
      · rw [zsame_up]
      · simp (disch := omega) only [zne_up]
        exact hg a_s k_s (by omega)
theorem sp_148 {p_s u_s : Nat} (hk : hKn h_s) (hx : x1_s.toInt = (p_s : Int)) (hp : p_s < 104) (hu : (f_s 102 5).toInt = (u_s : Int)) (hb_s : u_s ≤ 40) (t1_s : f_s 103 p_s = x2_s → K_s (f_s 103 p_s) (h_s.1, f_s, h_s.2.2.1, h_s.2.2.2)) (t2_s : ¬ f_s 103 p_s = x2_s → ∀ f1_s u0 s_s, u0 + s_s = u_s → (s_s = 0 ∧ u_s < 40 ∨ s_s = 1 ∧ u_s = 40) → (∀ o k_s, 104 ≤ o → o ≤ 106 → k_s < u0 → f1_s o k_s = f_s o (k_s + s_s)) → f1_s 104 u0 = x1_s → f1_s 105 u0 = f_s 103 p_s → f1_s 106 u0 = x2_s → (f1_s 102 5).toInt = ((u0 + 1 : Nat) : Int) → (f1_s 102 4).toInt = ((u0 + 1 : Nat) : Int) → f1_s 103 p_s = x2_s → (∀ a_s k_s, ¬ (104 ≤ a_s ∧ a_s ≤ 106 ∧ k_s < 40) → ¬ (a_s = 102 ∧ (k_s = 4 ∨ k_s = 5)) → ¬ (a_s = 103 ∧ k_s = p_s) → f1_s a_s k_s = f_s a_s k_s) → K_s (f_s 103 p_s) (h_s.1, f1_s, h_s.2.2.1, h_s.2.2.2)) : wF F_s 148 (0, [some (.ref 102), some (.int x1_s), some (.int x2_s), none, none], [], (h_s.1, f_s, h_s.2.2.1, h_s.2.2.2)) (gI K_s) := by
  have zp := azix (i := x1_s) (by omega)
  have ezp : zix x1_s = p_s := by omega
  obtain ⟨p1_s, p2_s, _⟩ := ic1 hu (by omega)
  refine wF_le (Nat.le_succ F_s) (sg_148_0 (h_s := (h_s.1, f_s, h_s.2.2.1, h_s.2.2.2)) hk ?_)
  dsimp only
  rw [ezp, p2_s, hu]
  refine fun _ => ⟨fun c_s => t1_s (Int32.toInt_inj.mp c_s), fun c_s => ⟨fun c3_s => ?_, fun c3_s _ => ?_⟩⟩
  · refine bc148 (f0_s := f_s) hk hx hp (by omega) (fun f1_s g1 g2 g3_s g4 g5_s g6 g7 g8 => ?_) F_s 0 1 f_s rfl (by omega) (fun o k_s _ _ hq => absurd hq (Nat.not_lt_zero k_s)) (fun _ _ _ => rfl)
    exact t2_s (fun w_s => c_s (by rw [w_s])) f1_s 39 1 (by omega) (Or.inr ⟨rfl, by omega⟩) g1 g2 g3_s g4 g5_s g6 g7 g8
  · refine t2_s (fun w_s => c_s (by rw [w_s])) _ u_s 0 rfl (Or.inl ⟨rfl, by omega⟩) (fun o k_s h1 h2 h3 => ?_) ?_ ?_ ?_ ?_ ?_ ?_ (fun a_s k_s q1_s q2_s q3_s => ?_)
    · simp (disch := omega) only [zne_up]
      rfl
    · simp (disch := omega) only [zne_up, zsame_up]
    · simp (disch := omega) only [zne_up, zsame_up]
    · simp (disch := omega) only [zne_up, zsame_up]
    · simp (disch := omega) only [zne_up, zsame_up]
      exact p1_s
    · simp (disch := omega) only [zne_up, zsame_up]
      exact p1_s
    · rw [zsame_up]
    · simp (disch := omega) only [zne_up]
theorem sp_163 {u_s : Nat} (hk : hKn h_s) (hc_s : tM nh ni nr f_s) (hu : (f_s 102 5).toInt = (u_s : Int)) (hb_s : u_s ≤ 40) (t0_s : ¬ (isV nh ni nr x1_s.toInt x2_s.toInt ∧ vCI nh x2_s.toInt x3.toInt) → K_s (-2000000000) (h_s.1, f_s, h_s.2.2.1, h_s.2.2.2)) (t1_s : isV nh ni nr x1_s.toInt x2_s.toInt → vCI nh x2_s.toInt x3.toInt → ∀ n_s w_s : Nat, x1_s.toInt = (n_s : Int) → x2_s.toInt = (w_s : Int) → f_s 103 (plc n_s w_s) = x3 → K_s (f_s 103 (plc n_s w_s)) (h_s.1, f_s, h_s.2.2.1, h_s.2.2.2)) (t2_s : isV nh ni nr x1_s.toInt x2_s.toInt → vCI nh x2_s.toInt x3.toInt → ∀ n_s w_s : Nat, x1_s.toInt = (n_s : Int) → x2_s.toInt = (w_s : Int) → ¬ f_s 103 (plc n_s w_s) = x3 → ∀ f1_s u0 s_s, u0 + s_s = u_s → (s_s = 0 ∧ u_s < 40 ∨ s_s = 1 ∧ u_s = 40) → (∀ o k_s, 104 ≤ o → o ≤ 106 → k_s < u0 → f1_s o k_s = f_s o (k_s + s_s)) → (f1_s 104 u0).toInt = (plc n_s w_s : Int) → f1_s 105 u0 = f_s 103 (plc n_s w_s) → f1_s 106 u0 = x3 → (f1_s 102 5).toInt = ((u0 + 1 : Nat) : Int) → (f1_s 102 4).toInt = ((u0 + 1 : Nat) : Int) → f1_s 103 (plc n_s w_s) = x3 → (∀ a_s k_s, ¬ (104 ≤ a_s ∧ a_s ≤ 106 ∧ k_s < 40) → ¬ (a_s = 102 ∧ (k_s = 4 ∨ k_s = 5)) → ¬ (a_s = 103 ∧ k_s = plc n_s w_s) → f1_s a_s k_s = f_s a_s k_s) → K_s (f_s 103 (plc n_s w_s)) (h_s.1, f1_s, h_s.2.2.1, h_s.2.2.2)) : wF F_s 163 (0, [some (.ref 102), some (.int x1_s), some (.int x2_s), some (.int x3), none], [], (h_s.1, f_s, h_s.2.2.1, h_s.2.2.2)) (gI K_s) := by
  refine wF_le (Nat.le_succ F_s) (sg_163_0 (h_s := (h_s.1, f_s, h_s.2.2.1, h_s.2.2.2)) hk ?_)
  refine sp_161 hk hc_s.1 hc_s.2.1.1 hc_s.2.1.2.1 hc_s.2.1.2.2 (fun q_s _ => ⟨fun _ => t0_s (fun p_s => q_s p_s.1), fun c_s => absurd (show (-1 : Int32).toInt < 0 by decide) c_s⟩) (fun q_s n_s w_s v_s e1_s e2_s e3_s _ => ⟨fun c_s => absurd c_s (by omega), fun _ => ?_⟩)
  obtain ⟨n1_s, w1_s, d1_s, d2_s, hw1, ok_s⟩ := isV_N q_s
  have en : n1_s = n_s := by omega
  have ew : w1_s = w_s := by omega
  subst en
  subst ew
  have hcap : n1_s < cap w1_s := by
    have b_s := hc_s.1
    unfold okN at ok_s
    unfold cap
    by_cases w2_s : w1_s < 2
    · rw [if_pos w2_s] at ok_s ⊢
      omega
    · rw [if_neg w2_s] at ok_s ⊢
      by_cases w9 : w1_s < 9
      · rw [if_pos w9] at ok_s ⊢
        omega
      · rw [if_neg w9] at ok_s ⊢
        omega
  have lt_s := plc_lt hw1 hcap
  refine sp_162 hk hc_s.2.1.1 (by omega) (fun q2_s _ => ⟨fun c_s => absurd c_s (by decide), fun _ => ?_⟩) (fun q2_s _ => ⟨fun _ => t0_s (fun p_s => q2_s p_s.2), fun c_s => absurd rfl c_s⟩)
  exact sp_148 hk e3_s lt_s hu hb_s (fun c_s _ => t1_s q_s q2_s n1_s w1_s e1_s e2_s c_s) (fun c_s f1_s u0 s_s g1 g2 g3_s g4 g5_s g6 g7 g8 g9 g10 _ => t2_s q_s q2_s n1_s w1_s e1_s e2_s c_s f1_s u0 s_s g1 g2 g3_s (by rw [g4]; exact e3_s) g5_s g6 g7 g8 g9 g10)
theorem pr_mend (hk : hKn h_s) (hx : tX h_s) : wF F_s 98 (0, [some (.ref 6), some (.int x1_s), some (.int x2_s), some (.int x3), none], [], h_s) (gI (fun v_s h1 => wF F_s 163 (0, [some (.ref 102), some (.int x1_s), some (.int x2_s), some (.int x3), none], [], h1) (gI (fun v2 h2 => v_s = v2 ∧ tX h2)))) := by
  obtain ⟨nh, ni, nr, hc_s, hh, hi_, hd_s, hz, hl⟩ := hx
  have hx : tX h_s := ⟨nh, ni, nr, hc_s, hh, hi_, hd_s, hz, hl⟩
  obtain ⟨u_s, r_s, u1_s, u2_s, u3, u4_s, u5, u6⟩ := hh
  have same_s : ∀ n_s w_s : Nat, x1_s.toInt = (n_s : Int) → x2_s.toInt = (w_s : Int) → isV nh ni nr x1_s.toInt x2_s.toInt → w_s < 12 ∧ okN nh ni nr n_s w_s ∧ h_s.2.1 (cO n_s w_s) (cF n_s w_s) = h_s.2.1 103 (plc n_s w_s) ∧ vB nh nr n_s w_s (h_s.2.1 103 (plc n_s w_s)).toInt := by
    intro n_s w_s e1_s e2_s q_s
    obtain ⟨n1_s, w1_s, d1_s, d2_s, hw1, ok_s⟩ := isV_N q_s
    have en : n1_s = n_s := by omega
    have ew : w1_s = w_s := by omega
    subst en
    subst ew
    have hcap : n1_s < cap w1_s ∧ (w1_s = 8 → n1_s < ni) := by
      have b_s := hc_s.1
      unfold okN at ok_s
      unfold cap
      by_cases w2_s : w1_s < 2
      · rw [if_pos w2_s] at ok_s ⊢
        omega
      · rw [if_neg w2_s] at ok_s ⊢
        by_cases w9 : w1_s < 9
        · rw [if_pos w9] at ok_s ⊢
          omega
        · rw [if_neg w9] at ok_s ⊢
          omega
    have u_s := hc_s.2.2.2.1 n1_s w1_s hw1 hcap.1 hcap.2
    exact ⟨hw1, ok_s, u_s.1, u_s.2⟩
  refine sp_98 (f_s := h_s.2.1) (u_s := u_s) hk hc_s.2.1.1 hc_s.2.1.2.1 hc_s.2.1.2.2 hc_s.1 hz u2_s (by omega) (fun q_s => ?_) (fun q1_s q2_s n_s w_s e1_s e2_s e3_s => ?_) (fun q1_s q2_s n_s w_s e1_s e2_s e3_s f1_s u0 s_s g1 g2 g3_s g4 g5_s g6 g7 g8 g9 g10 g11 => ?_)
  · exact sp_163 (f_s := h_s.2.1) (u_s := u_s) hk (tC_M hc_s) u4_s (by omega) (fun _ => ⟨rfl, hx⟩) (fun p1_s p2_s => absurd ⟨p1_s, p2_s⟩ q_s) (fun p1_s p2_s => absurd ⟨p1_s, p2_s⟩ q_s)
  · obtain ⟨hw, ok_s, es, _⟩ := same_s n_s w_s e1_s e2_s q1_s
    refine sp_163 (f_s := h_s.2.1) (u_s := u_s) hk (tC_M hc_s) u4_s (by omega) (fun p_s => absurd ⟨q1_s, q2_s⟩ p_s) (fun _ _ n1_s w1_s d1_s d2_s _ => ?_) (fun _ _ n1_s w1_s d1_s d2_s d3_s => ?_)
    · have en : n1_s = n_s := by omega
      have ew : w1_s = w_s := by omega
      subst en
      subst ew
      exact ⟨es, hx⟩
    · have en : n1_s = n_s := by omega
      have ew : w1_s = w_s := by omega
      subst en
      subst ew
      exact absurd (es.symm.trans e3_s) d3_s
  · obtain ⟨hw, ok_s, es, eB⟩ := same_s n_s w_s e1_s e2_s q1_s
    have cc : (cO n_s w_s = 8 ∨ cO n_s w_s = 9 ∨ 20 ≤ cO n_s w_s) ∧ cO n_s w_s < 40 := by
      unfold isV at q1_s
      by_cases w2_s : w_s < 2
      · rw [cO_h w2_s]
        omega
      · by_cases w9 : w_s < 9
        · rw [cO_i (by omega) w9]
          have b_s := hc_s.1
          omega
        · rw [cO_r (by omega)]
          have b_s := hc_s.1
          omega
    have ho : ∀ a_s k_s, 100 ≤ a_s → f1_s a_s k_s = h_s.2.1 a_s k_s := fun a_s k_s ha_s => g11 a_s k_s (by omega) (by omega) (by omega)
    have m1_s : tM nh ni nr f1_s := tM_fr (fun k_s _ _ => ho _ _ (by omega)) (fun k_s _ => ho _ _ (by omega)) (tC_M hc_s)
    refine sp_163 (h_s := (h_s.1, f1_s, h_s.2.2.1, h_s.2.2.2)) (f_s := f1_s) (u_s := u_s) hk m1_s (by rw [ho 102 5 (by omega)]; exact u4_s) (by omega) (fun p_s => absurd ⟨q1_s, q2_s⟩ p_s) (fun _ _ n1_s w1_s d1_s d2_s d3_s => ?_) (fun _ _ n1_s w1_s d1_s d2_s d3_s f2_s v0_s s2_s p1_s p2_s p3_s p4_s p5_s p6_s p7_s p8_s p9_s p10 => ?_)
    · have en : n1_s = n_s := by omega
      have ew : w1_s = w_s := by omega
      subst en
      subst ew
      rw [ho 103 _ (by omega)] at d3_s
      exact absurd (es.trans d3_s) e3_s
    · have en : n1_s = n_s := by omega
      have ew : w1_s = w_s := by omega
      subst en
      subst ew
      have ev_s : v0_s = u0 := by omega
      have esx : s2_s = s_s := by omega
      subst ev_s
      subst esx
      rw [ho 103 _ (by omega)] at p5_s
      have fin_s : ∀ a_s k_s, ¬ (104 ≤ a_s ∧ a_s ≤ 106 ∧ k_s < 40) → ¬ (a_s = 102 ∧ (k_s = 4 ∨ k_s = 5)) → ¬ (a_s = 103 ∧ k_s = plc n1_s w1_s) → ¬ (43 ≤ a_s ∧ a_s ≤ 46 ∧ k_s < 40) → ¬ (a_s = 42 ∧ k_s < 2) → ¬ (a_s = cO n1_s w1_s ∧ k_s = cF n1_s w1_s) → f2_s a_s k_s = h_s.2.1 a_s k_s := fun a_s k_s s1_s s2_s s3_s s4_s s5 s6_s => (p10 a_s k_s s1_s s2_s s3_s).trans (g11 a_s k_s s4_s s5 s6_s)
      have lo_s : ∀ a_s k_s, a_s < 100 → f2_s a_s k_s = f1_s a_s k_s := fun a_s k_s ha_s => p10 a_s k_s (by omega) (by omega) (by omega)
      have hi2 : ∀ o k_s, 104 ≤ o → o ≤ 106 → k_s < v0_s → f2_s o k_s = h_s.2.1 o (k_s + s2_s) := fun o k_s h1 h2 h3 => by
        rw [p3_s o k_s h1 h2 h3]
        exact ho o _ (by omega)
      have lo2 : ∀ o k_s, 43 ≤ o → o ≤ 46 → k_s < v0_s → f2_s o k_s = h_s.2.1 o (k_s + s2_s) := fun o k_s h1 h2 h3 => by
        rw [lo_s o k_s (by omega)]
        exact g3_s o k_s h1 h2 h3
      have nB_s : vB nh nr n1_s w1_s x3.toInt := vCI_B (by rw [← e2_s]; exact q2_s)
      refine ⟨by rw [ho 103 _ (by omega)]; exact es, nh, ni, nr, tC_set (v_s := x3) hc_s hw ok_s nB_s ?_ p9_s (fun a_s k_s qc s1_s s2_s => ?_), ⟨v0_s + 1, 0, by omega, ?_, ?_, p7_s, p8_s, fun k_s hk1 => ?_⟩, tI_fr (fun a_s k_s q_s => ?_) hi_ hc_s.1.2.1, tD_fr (fun a_s k_s q_s => ?_) hd_s, tZ_fr (fun a_s k_s q_s => ?_) hz, tLw_fr (h_s := h_s) (fun _ => rfl) (fun a_s k_s q_s => ?_) hl⟩
      · show f2_s (cO n1_s w1_s) (cF n1_s w1_s) = x3
        rw [lo_s _ _ (by omega)]
        exact g10
      · unfold inC at qc
        exact fin_s a_s k_s (by omega) (by omega) s2_s (by omega) (by omega) s1_s
      · show (f2_s 42 0).toInt = ((v0_s + 1 : Nat) : Int)
        rw [lo_s _ _ (by omega)]
        exact g8
      · show (f2_s 42 1).toInt = ((0 : Nat) : Int)
        rw [lo_s _ _ (by omega)]
        exact g9
      · by_cases e_s : k_s = v0_s
        · subst e_s
          refine ⟨n1_s, w1_s, hw, ok_s, ?_, ?_, p4_s, ?_, ?_, ?_, ?_⟩
          · show (f2_s 43 k_s).toInt = (n1_s : Int)
            rw [lo_s _ _ (by omega), g4]
            exact e1_s
          · show (f2_s 44 k_s).toInt = (w1_s : Int)
            rw [lo_s _ _ (by omega), g5_s]
            exact e2_s
          · show f2_s 105 k_s = f2_s 45 k_s
            rw [lo_s 45 k_s (by omega), g6, p5_s, es]
          · show f2_s 106 k_s = f2_s 46 k_s
            rw [lo_s 46 k_s (by omega), g7, p6_s]
          · show vB nh nr n1_s w1_s (f2_s 45 k_s).toInt
            rw [lo_s 45 k_s (by omega), g6, es]
            exact eB
          · show vB nh nr n1_s w1_s (f2_s 46 k_s).toInt
            rw [lo_s 46 k_s (by omega), g7]
            exact nB_s
        · obtain ⟨n2_s, w2_s, b1, b2, b3, b4, b5, b6, b7, b8, b9⟩ := u6 (k_s + s2_s) (by omega)
          have kv : k_s < v0_s := by omega
          refine ⟨n2_s, w2_s, b1, b2, ?_, ?_, ?_, ?_, ?_, ?_, ?_⟩
          · show (f2_s 43 k_s).toInt = (n2_s : Int)
            rw [lo2 43 k_s (by omega) (by omega) kv]
            exact b3
          · show (f2_s 44 k_s).toInt = (w2_s : Int)
            rw [lo2 44 k_s (by omega) (by omega) kv]
            exact b4
          · show (f2_s 104 k_s).toInt = (plc n2_s w2_s : Int)
            rw [hi2 104 k_s (by omega) (by omega) kv]
            exact b5
          · show f2_s 105 k_s = f2_s 45 k_s
            rw [hi2 105 k_s (by omega) (by omega) kv, lo2 45 k_s (by omega) (by omega) kv]
            exact b6
          · show f2_s 106 k_s = f2_s 46 k_s
            rw [hi2 106 k_s (by omega) (by omega) kv, lo2 46 k_s (by omega) (by omega) kv]
            exact b7
          · show vB nh nr n2_s w2_s (f2_s 45 k_s).toInt
            rw [lo2 45 k_s (by omega) (by omega) kv]
            exact b8
          · show vB nh nr n2_s w2_s (f2_s 46 k_s).toInt
            rw [lo2 46 k_s (by omega) (by omega) kv]
            exact b9
      · show f2_s a_s k_s = h_s.2.1 a_s k_s
        unfold inI at q_s
        exact fin_s a_s k_s (by omega) (by omega) (by omega) (by omega) (by omega) (by omega)
      · show f2_s a_s k_s = h_s.2.1 a_s k_s
        unfold inD at q_s
        exact fin_s a_s k_s (by omega) (by omega) (by omega) (by omega) (by omega) (by omega)
      · show f2_s a_s k_s = h_s.2.1 a_s k_s
        unfold inZ at q_s
        exact fin_s a_s k_s (by omega) (by omega) (by omega) (by omega) (by omega) (by omega)
      · show f2_s a_s k_s = h_s.2.1 a_s k_s
        unfold inW at q_s
        exact fin_s a_s k_s (by omega) (by omega) (by omega) (by omega) (by omega) (by omega)
end N7
/-! UNDONE, DONE AGAIN; what numbers are. -/
section U8
variable {F_s : Nat} {h_s : zH} {K_s : Int32 → zH → Prop} {V : zH → Prop} {nh ni nr : Nat} {x1_s x2_s x3 : Int32} {f_s : Nat → Nat → Int32}
theorem okN_V {n_s w_s : Nat} (hw : w_s < 12) (ok_s : okN nh ni nr n_s w_s) : isV nh ni nr (n_s : Int) (w_s : Int) := by
  unfold okN at ok_s
  unfold isV
  by_cases w2_s : w_s < 2
  · rw [if_pos w2_s] at ok_s
    omega
  · rw [if_neg w2_s] at ok_s
    by_cases w9 : w_s < 9
    · rw [if_pos w9] at ok_s
      omega
    · rw [if_neg w9] at ok_s
      omega
theorem cO_r8 {n_s w_s : Nat} (b_s : nh ≤ 6 ∧ ni ≤ 8 ∧ nr ≤ 12) (hw : w_s < 12) (ok_s : okN nh ni nr n_s w_s) : (cO n_s w_s = 8 ∨ cO n_s w_s = 9 ∨ 20 ≤ cO n_s w_s) ∧ cO n_s w_s < 40 ∧ plc n_s w_s < 104 := by
  unfold okN at ok_s
  by_cases w2_s : w_s < 2
  · rw [if_pos w2_s] at ok_s
    rw [cO_h w2_s, plc_h w2_s]
    omega
  · rw [if_neg w2_s] at ok_s
    by_cases w9 : w_s < 9
    · rw [if_pos w9] at ok_s
      rw [cO_i (by omega) w9, plc_i (by omega) w9]
      omega
    · rw [if_neg w9] at ok_s
      rw [cO_r (by omega), plc_r (by omega)]
      omega
/-- what undo and redo leave of the state -/
theorem tX_move {u_s r_s u1_s r1_s n_s w_s : Nat} {v_s : Int32} {h2 : zH} (hc_s : tC nh ni nr h_s.2.1) (hi_ : tI nh ni nr h_s.2.1) (hd_s : tD h_s.2.1) (hz : tZ h_s.2.1) (hl : tLw h_s) (hall : ∀ k_s, k_s < u_s + r_s → chT nh ni nr h_s.2.1 k_s) (hs : u1_s + r1_s = u_s + r_s) (hb_s : u_s + r_s ≤ 40) (hw : w_s < 12) (ok_s : okN nh ni nr n_s w_s) (hB_s : vB nh nr n_s w_s v_s.toInt) (e1_s : h2.2.1 (cO n_s w_s) (cF n_s w_s) = v_s) (e2_s : h2.2.1 103 (plc n_s w_s) = v_s) (e3_s : (h2.2.1 42 0).toInt = (u1_s : Int)) (e4_s : (h2.2.1 42 1).toInt = (r1_s : Int)) (e5_s : (h2.2.1 102 5).toInt = (u1_s : Int)) (e6_s : h2.2.1 102 4 = h_s.2.1 102 4) (e7_s : (h_s.2.1 102 4).toInt = ((u_s + r_s : Nat) : Int)) (hr : ∀ k_s, h2.2.2.2 7 k_s = h_s.2.2.2 7 k_s) (hf : ∀ a_s k_s, ¬ (a_s = 42 ∧ k_s < 2) → ¬ (a_s = 102 ∧ k_s = 5) → ¬ (a_s = cO n_s w_s ∧ k_s = cF n_s w_s) → ¬ (a_s = 103 ∧ k_s = plc n_s w_s) → h2.2.1 a_s k_s = h_s.2.1 a_s k_s) : tX h2 := by
  obtain ⟨q1_s, q2_s, q3_s⟩ := cO_r8 hc_s.1 hw ok_s
  refine ⟨nh, ni, nr, tC_set hc_s hw ok_s hB_s e1_s e2_s (fun a_s k_s qc s1_s s2_s => hf a_s k_s ?_ ?_ s1_s s2_s), ⟨u1_s, r1_s, by omega, e3_s, e4_s, e5_s, by rw [e6_s, e7_s, hs], fun k_s hk => chT_fr (fun o ho => hf o k_s ?_ ?_ ?_ ?_) (hall k_s (by omega))⟩, tI_fr (fun a_s k_s q_s => hf a_s k_s ?_ ?_ ?_ ?_) hi_ hc_s.1.2.1, tD_fr (fun a_s k_s q_s => hf a_s k_s ?_ ?_ ?_ ?_) hd_s, tZ_fr (fun a_s k_s q_s => hf a_s k_s ?_ ?_ ?_ ?_) hz, tLw_fr hr (fun a_s k_s q_s => hf a_s k_s ?_ ?_ ?_ ?_) hl⟩
  · unfold inC at qc
    omega
  · unfold inC at qc
    omega
  · omega
  · omega
  · omega
  · omega
  · unfold inI at q_s
    omega
  · unfold inI at q_s
    omega
  · unfold inI at q_s
    omega
  · unfold inI at q_s
    omega
  · unfold inD at q_s
    omega
  · unfold inD at q_s
    omega
  · unfold inD at q_s
    omega
  · unfold inD at q_s
    omega
  · unfold inZ at q_s
    omega
  · unfold inZ at q_s
    omega
  · unfold inZ at q_s
    omega
  · unfold inZ at q_s
    omega
  · unfold inW at q_s
    omega
  · unfold inW at q_s
    omega
  · unfold inW at q_s
    omega
  · unfold inW at q_s
    omega
theorem pr_undo (hk : hKn h_s) (hx : tX h_s) : wF F_s 123 (0, [some (.ref 6)], [], h_s) (gI (fun v_s h1 => wF F_s 149 (0, [some (.ref 102)], [], h1) (gI (fun v2 h2 => v_s = v2 ∧ tX h2)))) := by
  obtain ⟨nh, ni, nr, hc_s, hh, hi_, hd_s, hz, hl⟩ := hx
  have hx : tX h_s := ⟨nh, ni, nr, hc_s, hh, hi_, hd_s, hz, hl⟩
  obtain ⟨u_s, r_s, u1_s, u2_s, u3, u4_s, u5, u6⟩ := hh
  have ee : h_s.2.1 42 0 = h_s.2.1 102 5 := Int32.toInt_inj.mp (u2_s.trans u4_s.symm)
  refine wF_le (Nat.le_succ F_s) (sg_123_0 hk ⟨fun c_s => ?_, fun c_s => ?_⟩)
  · exact wF_le (Nat.le_succ F_s) (sg_149_0 hk ⟨fun _ => ⟨rfl, hx⟩, fun c1_s => absurd (show (h_s.2.1 102 5).toInt = 0 by omega) c1_s⟩)
  · have u0 : 0 < u_s := by omega
    have em : (h_s.2.1 42 0 - 1).toInt = ((u_s - 1 : Nat) : Int) := by rw [sub_i (by omega) (by decide), n1_]; omega
    have z_s := azix (i := h_s.2.1 42 0 - 1) (by omega)
    have ez : zix (h_s.2.1 42 0 - 1) = u_s - 1 := by omega
    have ez5 : zix (h_s.2.1 102 5 - 1) = u_s - 1 := by rw [← ee]; exact ez
    obtain ⟨n_s, w_s, hw, ok_s, b3, b4, b5, b6, b7, b8, b9⟩ := u6 (u_s - 1) (by omega)
    have cc := cO_r8 hc_s.1 hw ok_s
    have z4 := azix (i := h_s.2.1 104 (u_s - 1)) (by omega)
    have ez4 : zix (h_s.2.1 104 (u_s - 1)) = plc n_s w_s := by omega
    refine wF_le (Nat.le_succ F_s) (sg_11_0 hk ⟨fun _ _ => ?_, fun c1_s => absurd (show 0 < (h_s.2.1 42 0).toInt by omega) c1_s⟩)
    rw [ez]
    generalize hg : zup (zup h_s.2.1 42 0 (h_s.2.1 42 0 - 1)) 42 1 (h_s.2.1 42 1 + 1) = g_s
    have gf : ∀ a_s k_s, ¬ (a_s = 42 ∧ k_s < 2) → g_s a_s k_s = h_s.2.1 a_s k_s := fun a_s k_s q_s => by rw [← hg, zne_up (by omega), zne_up (by omega)]
    have g0 : g_s 42 0 = h_s.2.1 42 0 - 1 := by rw [← hg, zne_up (by omega), zsame_up]
    have g1 : g_s 42 1 = h_s.2.1 42 1 + 1 := by rw [← hg, zsame_up]
    refine sp_21 (h_s := (h_s.1, g_s, h_s.2.2.1, h_s.2.2.2)) (f_s := g_s) (nh := nh) (ni := ni) (nr := nr) hk (by rw [gf _ _ (by omega)]; exact hc_s.2.1.1) (by rw [gf _ _ (by omega)]; exact hc_s.2.1.2.1) (by rw [gf _ _ (by omega)]; exact hc_s.2.1.2.2) (by rw [b3, b4]; exact okN_V hw ok_s) (fun n1_s w1_s d1_s d2_s _ => fun _ => ?_)
    have en : n1_s = n_s := by omega
    have ew : w1_s = w_s := by omega
    subst en
    subst ew
    have k0_s : zup g_s (cO n1_s w1_s) (cF n1_s w1_s) (h_s.2.1 45 (u_s - 1)) 42 0 = h_s.2.1 42 0 - 1 := by rw [zne_up (by omega)]; exact g0
    dsimp only
    rw [k0_s]
    have f2_s : ∀ a_s k_s, 41 ≤ a_s → ¬ (a_s = 42 ∧ k_s < 2) → zup g_s (cO n1_s w1_s) (cF n1_s w1_s) (h_s.2.1 45 (u_s - 1)) a_s k_s = h_s.2.1 a_s k_s := fun a_s k_s h1 h2 => by rw [zne_up (by omega), gf a_s k_s h2]
    refine wF_le (Nat.le_succ F_s) (sg_149_0 (h_s := (h_s.1, zup g_s (cO n1_s w1_s) (cF n1_s w1_s) (h_s.2.1 45 (u_s - 1)), h_s.2.2.1, h_s.2.2.2)) hk ?_)
    dsimp only
    rw [f2_s 102 5 (by omega) (by omega), ez5, f2_s 104 _ (by omega) (by omega), f2_s 105 _ (by omega) (by omega), ez4]
    refine ⟨fun c1_s => absurd c1_s (by omega), fun _ _ _ => ⟨by rw [ee], ?_⟩⟩
    refine tX_move (h_s := h_s) (u_s := u_s) (r_s := r_s) (u1_s := u_s - 1) (r1_s := r_s + 1) (n_s := n1_s) (w_s := w1_s) (v_s := h_s.2.1 45 (u_s - 1)) hc_s hi_ hd_s hz hl u6 (by omega) u1_s hw ok_s b8 ?_ ?_ ?_ ?_ ?_ ?_ u5 (fun _ => rfl) (fun a_s k_s s1_s s2_s s3_s s4_s => ?_)
    · dsimp only
      rw [zne_up (by omega), zne_up (by omega), zsame_up]
    · dsimp only
      rw [zsame_up]
      exact b6
    · dsimp only
      rw [zne_up (by omega), zne_up (by omega), k0_s]
      exact em
    · dsimp only
      rw [zne_up (by omega), zne_up (by omega), zne_up (by omega), g1, in1_ (by omega), u3]
      omega
    · dsimp only
      rw [zne_up (by omega), zsame_up, ← ee]
      exact em
    · dsimp only
      rw [zne_up (by omega), zne_up (by omega)]
      exact f2_s 102 4 (by omega) (by omega)
    · dsimp only
      rw [zne_up s4_s, zne_up s2_s, zne_up s3_s]
      exact gf a_s k_s s1_s
theorem pr_redo (hk : hKn h_s) (hx : tX h_s) : wF F_s 124 (0, [some (.ref 6)], [], h_s) (gI (fun v_s h1 => wF F_s 150 (0, [some (.ref 102)], [], h1) (gI (fun v2 h2 => v_s = v2 ∧ tX h2)))) := by
  obtain ⟨nh, ni, nr, hc_s, hh, hi_, hd_s, hz, hl⟩ := hx
  have hx : tX h_s := ⟨nh, ni, nr, hc_s, hh, hi_, hd_s, hz, hl⟩
  obtain ⟨u_s, r_s, u1_s, u2_s, u3, u4_s, u5, u6⟩ := hh
  have ee : h_s.2.1 42 0 = h_s.2.1 102 5 := Int32.toInt_inj.mp (u2_s.trans u4_s.symm)
  refine wF_le (Nat.le_succ F_s) (sg_124_0 hk ⟨fun c_s => ?_, fun c_s => ?_⟩)
  · exact wF_le (Nat.le_succ F_s) (sg_150_0 hk ⟨fun _ => ⟨rfl, hx⟩, fun c1_s => absurd (show (h_s.2.1 102 5).toInt = (h_s.2.1 102 4).toInt by omega) c1_s⟩)
  · have r0 : 0 < r_s := by omega
    obtain ⟨p1_s, p2_s, _⟩ := ic1 u2_s (by omega)
    obtain ⟨p5_s, p6_s, _⟩ := ic1 u4_s (by omega)
    obtain ⟨n_s, w_s, hw, ok_s, b3, b4, b5, b6, b7, b8, b9⟩ := u6 u_s (by omega)
    have cc := cO_r8 hc_s.1 hw ok_s
    have z4 := azix (i := h_s.2.1 104 u_s) (by omega)
    have ez4 : zix (h_s.2.1 104 u_s) = plc n_s w_s := by omega
    refine wF_le (Nat.le_succ F_s) (sg_12_0 hk ⟨fun _ => ⟨fun _ _ => ?_, fun c1_s => absurd (show (h_s.2.1 42 0).toInt < 40 by omega) c1_s⟩, fun c1_s => absurd (show 0 < (h_s.2.1 42 1).toInt by omega) c1_s⟩)
    rw [p2_s]
    refine sp_21 (h_s := h_s) (f_s := h_s.2.1) (nh := nh) (ni := ni) (nr := nr) hk hc_s.2.1.1 hc_s.2.1.2.1 hc_s.2.1.2.2 (by rw [b3, b4]; exact okN_V hw ok_s) (fun n1_s w1_s d1_s d2_s _ => fun _ => ?_)
    have en : n1_s = n_s := by omega
    have ew : w1_s = w_s := by omega
    subst en
    subst ew
    dsimp only
    generalize hg : zup h_s.2.1 (cO n1_s w1_s) (cF n1_s w1_s) (h_s.2.1 46 u_s) = g_s
    have gf : ∀ a_s k_s, ¬ (a_s = cO n1_s w1_s ∧ k_s = cF n1_s w1_s) → g_s a_s k_s = h_s.2.1 a_s k_s := fun a_s k_s q_s => by rw [← hg, zne_up q_s]
    have ge : g_s (cO n1_s w1_s) (cF n1_s w1_s) = h_s.2.1 46 u_s := by rw [← hg, zsame_up]
    have q0 : g_s 42 0 = h_s.2.1 42 0 := gf 42 0 (by omega)
    have q1_s : g_s 42 1 = h_s.2.1 42 1 := gf 42 1 (by omega)
    rw [q0, q1_s, zsame_up]
    have f2_s : ∀ a_s k_s, 47 ≤ a_s → zup (zup g_s 42 0 (h_s.2.1 42 0 + 1)) 42 1 (h_s.2.1 42 1 - 1) a_s k_s = h_s.2.1 a_s k_s := fun a_s k_s h1 => by rw [zne_up (by omega), zne_up (by omega), gf a_s k_s (by omega)]
    have em : (h_s.2.1 42 1 - 1).toInt = ((r_s - 1 : Nat) : Int) := by rw [sub_i (by omega) (by decide), n1_]; omega
    have ek : (h_s.2.1 102 4 - (h_s.2.1 102 5 + 1)).toInt = ((r_s - 1 : Nat) : Int) := by
      rw [na_sub (by omega) (by omega), u5, p5_s]
      omega
    refine wF_le (Nat.le_succ F_s) (sg_150_0 (h_s := (h_s.1, zup (zup g_s 42 0 (h_s.2.1 42 0 + 1)) 42 1 (h_s.2.1 42 1 - 1), h_s.2.2.1, h_s.2.2.2)) hk ?_)
    dsimp only
    rw [f2_s 102 5 (by omega), f2_s 102 4 (by omega), p6_s, f2_s 104 _ (by omega), f2_s 106 _ (by omega), ez4]
    refine ⟨fun c1_s => absurd c1_s (by omega), fun _ _ _ => ⟨Int32.toInt_inj.mp (em.trans ek.symm), ?_⟩⟩
    refine tX_move (h_s := h_s) (u_s := u_s) (r_s := r_s) (u1_s := u_s + 1) (r1_s := r_s - 1) (n_s := n1_s) (w_s := w1_s) (v_s := h_s.2.1 46 u_s) hc_s hi_ hd_s hz hl u6 (by omega) u1_s hw ok_s b9 ?_ ?_ ?_ ?_ ?_ ?_ u5 (fun _ => rfl) (fun a_s k_s s1_s s2_s s3_s s4_s => ?_)
    · dsimp only
      rw [zne_up (by omega), zne_up (by omega), zne_up (by omega), zne_up (by omega)]
      exact ge
    · dsimp only
      rw [zne_up (by omega), zsame_up]
      exact b7
    · dsimp only
      rw [zne_up (by omega), zne_up (by omega), zne_up (by omega), zsame_up]
      exact p1_s
    · dsimp only
      rw [zne_up (by omega), zne_up (by omega), zsame_up]
      exact em
    · dsimp only
      rw [zsame_up]
      exact p5_s
    · dsimp only
      rw [zne_up (by omega), zne_up (by omega)]
      exact f2_s 102 4 (by omega)
    · dsimp only
      rw [zne_up s2_s, zne_up s4_s, zne_up (by omega), zne_up (by omega)]
      exact gf a_s k_s s3_s
/-- of -/
def valM (f_s : Nat → Nat → Int32) (n_s w_s : Nat) : Int32 := if w_s < 12 then f_s 103 (plc n_s w_s) else if w_s = 12 then f_s 107 n_s else if w_s = 13 then f_s 108 n_s else 9 - f_s 103 (28 + n_s) / 11
theorem sp_164 (hk : hKn h_s) (hc_s : tM nh ni nr f_s) (t0_s : ¬ isT nh ni nr x1_s.toInt x2_s.toInt → K_s (-2000000000) (h_s.1, f_s, h_s.2.2.1, h_s.2.2.2)) (t1_s : isT nh ni nr x1_s.toInt x2_s.toInt → ∀ n_s w_s : Nat, x1_s.toInt = (n_s : Int) → x2_s.toInt = (w_s : Int) → K_s (valM f_s n_s w_s) (h_s.1, f_s, h_s.2.2.1, h_s.2.2.2)) : wF F_s 164 (0, [some (.ref 102), some (.int x1_s), some (.int x2_s), none], [], (h_s.1, f_s, h_s.2.2.1, h_s.2.2.2)) (gI K_s) := by
  have b_s := hc_s.1
  refine wF_le (Nat.le_succ F_s) (sg_164_0 (h_s := (h_s.1, f_s, h_s.2.2.1, h_s.2.2.2)) hk ?_)
  refine sp_161 hk hc_s.1 hc_s.2.1.1 hc_s.2.1.2.1 hc_s.2.1.2.2 (fun q_s _ => ⟨fun _ => ?_, fun c_s => absurd (show (-1 : Int32).toInt < 0 by decide) c_s⟩) (fun q_s n_s w_s v_s e1_s e2_s e3_s _ => ⟨fun c_s => absurd c_s (by omega), fun _ _ => ?_⟩)
  · have nq : isT nh ni nr x1_s.toInt x2_s.toInt → 12 ≤ x2_s.toInt := fun p_s => by
      by_cases c_s : x2_s.toInt ≤ 11
      · exact absurd (isV_T.mpr ⟨p_s, c_s⟩) q_s
      · omega
    have t0_s : ¬ isT nh ni nr x1_s.toInt x2_s.toInt → K_s (-2000000000) (h_s.1, f_s, h_s.2.2.1, h_s.2.2.2) := t0_s
    have g12 : x2_s.toInt = 12 → 0 ≤ x1_s.toInt → x1_s.toInt < (nr : Int) → K_s (f_s 107 (zix x1_s)) (h_s.1, f_s, h_s.2.2.1, h_s.2.2.2) := fun q1_s q2_s q3_s => t1_s (by unfold isT; omega) (zix x1_s) 12 (azix q2_s).symm q1_s
    have g13 : x2_s.toInt = 13 → 0 ≤ x1_s.toInt → x1_s.toInt < (nr : Int) → K_s (f_s 108 (zix x1_s)) (h_s.1, f_s, h_s.2.2.1, h_s.2.2.2) := fun q1_s q2_s q3_s => t1_s (by unfold isT; omega) (zix x1_s) 13 (azix q2_s).symm q1_s
    have g14 : x2_s.toInt = 14 → 0 ≤ x1_s.toInt → x1_s.toInt < (ni : Int) → K_s (9 - f_s 103 (zix (28 + x1_s)) / 11) (h_s.1, f_s, h_s.2.2.1, h_s.2.2.2) := fun q1_s q2_s q3_s => by
      have z_s := azix (i := x1_s) q2_s
      have z28_s : zix (28 + x1_s) = 28 + zix x1_s := zxa (c_s := 28) (a_s := 28) rfl z_s.symm (by omega)
      rw [z28_s]
      exact t1_s (by unfold isT; omega) (zix x1_s) 14 z_s.symm q1_s
    dsimp only
    rw [sb1 hc_s.2.1.2.1, sb1 hc_s.2.1.2.2]
    unfold isT at t0_s nq
    refine ⟨fun c3_s => ⟨fun c4_s => ?_, fun c4_s => ⟨fun c6_s => ⟨fun c8_s => ?_, fun c8_s => ⟨fun c9_s => fun c10_s => ?_, fun c9_s => ⟨fun c11_s => fun c12_s => ?_, fun c11_s => ?_⟩⟩⟩, fun c6_s => fun c13_s => ?_⟩⟩, fun c3_s => ⟨fun c14_s => ?_, fun c14_s => ⟨fun c15_s => ?_, fun c15_s => ⟨fun c16 => fun c17 => ?_, fun c16 => ⟨fun c18_s => fun c19_s => ?_, fun c18_s => ?_⟩⟩⟩⟩⟩
    all_goals first | exact t0_s (by omega) | exact g12 (by omega) (by omega) (by omega) | exact g13 (by omega) (by omega) (by omega) | exact g14 (by omega) (by omega) (by omega) | (exfalso; omega)
  · have hw : w_s < 12 := by
      have p_s := (isV_T.mp q_s).2
      omega
    have z_s := azix (i := v_s) (by omega)
    have ez : zix v_s = plc n_s w_s := by omega
    dsimp only
    rw [ez]
    have u_s := t1_s (isV_T.mp q_s).1 n_s w_s e1_s e2_s
    unfold valM at u_s
    rw [if_pos hw] at u_s
    exact u_s
theorem pr_of (hk : hKn h_s) (hx : tX h_s) : wF F_s 99 (0, [some (.ref 6), some (.int x1_s), some (.int x2_s)], [], h_s) (gI (fun v_s h1 => wF F_s 164 (0, [some (.ref 102), some (.int x1_s), some (.int x2_s), none], [], h1) (gI (fun v2 _ => v_s = v2)))) := by
  obtain ⟨nh, ni, nr, hc_s, hh, hi_, hd_s, hz, hl⟩ := hx
  have b_s := hc_s.1
  refine wF_le (Nat.le_succ F_s) (sg_99_0 hk ?_)
  refine sp_20 (f_s := h_s.2.1) hk hc_s.2.1.1 hc_s.2.1.2.1 hc_s.2.1.2.2 (fun q_s _ => ?_) (fun q_s n_s w_s e1_s e2_s _ => ?_)
  · exact sp_164 (f_s := h_s.2.1) hk (tC_M hc_s) (fun _ => rfl) (fun p_s => absurd p_s q_s)
  · refine sp_164 (f_s := h_s.2.1) hk (tC_M hc_s) (fun p_s => absurd q_s p_s) (fun _ n1_s w1_s d1_s d2_s => ?_)
    have en : n1_s = n_s := by omega
    have ew : w1_s = w_s := by omega
    subst en
    subst ew
    unfold isT at q_s
    unfold valC valM
    by_cases c_s : w1_s < 12
    · rw [if_pos c_s, if_pos c_s]
      have hcap : n1_s < cap w1_s ∧ (w1_s = 8 → n1_s < ni) := by
        unfold cap
        by_cases w2_s : w1_s < 2
        · rw [if_pos w2_s]
          omega
        · rw [if_neg w2_s]
          by_cases w9 : w1_s < 9
          · rw [if_pos w9]
            omega
          · rw [if_neg w9]
            omega
      exact (hc_s.2.2.2.1 n1_s w1_s c_s hcap.1 hcap.2).1
    · rw [if_neg c_s, if_neg c_s]
      by_cases c2_s : w1_s = 12
      · rw [if_pos c2_s, if_pos c2_s]
        exact (hc_s.2.2.2.2.2 n1_s (by omega)).1.1
      · rw [if_neg c2_s, if_neg c2_s]
        by_cases c3_s : w1_s = 13
        · rw [if_pos c3_s, if_pos c3_s]
          exact (hc_s.2.2.2.2.2 n1_s (by omega)).1.2
        · rw [if_neg c3_s, if_neg c3_s]
          have u_s := (tC_own (i_s := n1_s) (k_s := 2) hc_s (by omega) (by omega)).1
          have u_s : h_s.2.1 (20 + n1_s) 2 = h_s.2.1 103 (28 + n1_s) := u_s
          rw [u_s]
end U8
/-! ROADS that come; THE LAW that comes: the whole state. -/
section R9
variable {F_s : Nat} {h_s : zH} {K_s : Int32 → zH → Prop} {nh ni nr R_s : Nat} {x1_s x2_s x3 : Int32} {f_s : Nat → Nat → Int32}
theorem tC_roads {f2_s : Nat → Nat → Int32} {k_s : Nat} {A_s B_s C_s : Nat → Int32} (hc_s : tC nh ni R_s f_s) (hR : R_s + k_s ≤ 12) (hv : ∀ m_s, m_s < k_s → (0 ≤ (A_s m_s).toInt ∧ (A_s m_s).toInt ≤ 7) ∧ (0 ≤ (B_s m_s).toInt ∧ (B_s m_s).toInt ≤ 7) ∧ ¬ (A_s m_s).toInt = (B_s m_s).toInt ∧ 1 ≤ (C_s m_s).toInt ∧ (C_s m_s).toInt ≤ 9) (e1_s : (f2_s 7 8).toInt = ((R_s + k_s : Nat) : Int)) (e2_s : (f2_s 102 8).toInt = ((R_s + k_s : Nat) : Int)) (h1 : ∀ m_s, m_s < k_s → f2_s (28 + (R_s + m_s)) 0 = A_s m_s ∧ f2_s (28 + (R_s + m_s)) 1 = B_s m_s ∧ f2_s (28 + (R_s + m_s)) 2 = C_s m_s) (h2 : ∀ m_s, m_s < k_s → f2_s 107 (R_s + m_s) = A_s m_s ∧ f2_s 108 (R_s + m_s) = B_s m_s ∧ f2_s 103 (68 + (R_s + m_s)) = C_s m_s) (hf : ∀ a_s j_s, inC a_s j_s → ¬ (a_s = 7 ∧ j_s = 8) → ¬ (28 + R_s ≤ a_s ∧ a_s < 28 + R_s + k_s ∧ j_s ≤ 2) → ¬ (a_s = 102 ∧ j_s = 8) → ¬ ((a_s = 107 ∨ a_s = 108) ∧ R_s ≤ j_s ∧ j_s < R_s + k_s) → ¬ (a_s = 103 ∧ 68 + R_s ≤ j_s ∧ j_s < 68 + R_s + k_s) → f2_s a_s j_s = f_s a_s j_s) : tC nh ni (R_s + k_s) f2_s := by
  obtain ⟨a0_s, ⟨a1_s, a2, a3⟩, ⟨a4, a5, a6⟩, a7, a8, a9⟩ := hc_s
  have f7_s : ∀ a_s j_s, (a_s = 7 ∨ a_s = 102) → 6 ≤ j_s → j_s < 8 → f2_s a_s j_s = f_s a_s j_s := fun a_s j_s q1_s q2_s q3_s => hf a_s j_s (by unfold inC; omega) (by omega) (by omega) (by omega) (by omega) (by omega)
  refine ⟨⟨a0_s.1, a0_s.2.1, hR⟩, ⟨?_, ?_, e1_s⟩, ⟨?_, ?_, e2_s⟩, fun n_s w_s hw hnc h8 => ?_, fun j_s j1 j2_s => ?_, fun r_s hr => ?_⟩
  · rw [f7_s 7 6 (by omega) (by omega) (by omega)]
    exact a1_s
  · rw [f7_s 7 7 (by omega) (by omega) (by omega)]
    exact a2
  · rw [f7_s 102 6 (by omega) (by omega) (by omega)]
    exact a4
  · rw [f7_s 102 7 (by omega) (by omega) (by omega)]
    exact a5
  · have u_s := a7 n_s w_s hw hnc h8
    by_cases w2_s : w_s < 2
    · rw [cap_h w2_s] at hnc
      rw [cO_h w2_s, cF_h w2_s, plc_h w2_s] at u_s ⊢
      rw [hf (8 + w_s) n_s (by unfold inC; omega) (by omega) (by omega) (by omega) (by omega) (by omega), hf 103 (6 * w_s + n_s) (by unfold inC; omega) (by omega) (by omega) (by omega) (by omega) (by omega)]
      refine ⟨u_s.1, ?_⟩
      have u2_s := u_s.2
      rw [vB_n (by omega)] at u2_s ⊢
      exact ⟨u2_s.1, u2_s.2.1, fun e9_s => absurd e9_s (by omega)⟩
    · by_cases w9 : w_s < 9
      · rw [cap_i (by omega) w9] at hnc
        rw [cO_i (by omega) w9, cF_i (by omega) w9, plc_i (by omega) w9] at u_s ⊢
        rw [hf (20 + n_s) (w_s - 2) (by unfold inC; omega) (by omega) (by omega) (by omega) (by omega) (by omega), hf 103 (12 + 8 * (w_s - 2) + n_s) (by unfold inC; omega) (by omega) (by omega) (by omega) (by omega) (by omega)]
        refine ⟨u_s.1, ?_⟩
        have u2_s := u_s.2
        by_cases e8 : w_s = 8
        · subst e8
          exact u2_s
        · rw [vB_n e8] at u2_s ⊢
          exact ⟨u2_s.1, u2_s.2.1, fun e9_s => absurd e9_s (by omega)⟩
      · rw [cap_r (by omega)] at hnc
        rw [cO_r (by omega), cF_r (by omega), plc_r (by omega)] at u_s ⊢
        by_cases e_s : w_s = 9 ∧ R_s ≤ n_s ∧ n_s < R_s + k_s
        · obtain ⟨rfl, e3_s, e4_s⟩ := e_s
          have q1_s := (h1 (n_s - R_s) (by omega)).2.2
          have q2_s := (h2 (n_s - R_s) (by omega)).2.2
          have q3_s := hv (n_s - R_s) (by omega)
          rw [show R_s + (n_s - R_s) = n_s by omega] at q1_s q2_s
          have q1_s : f2_s (28 + n_s) (9 - 7) = C_s (n_s - R_s) := q1_s
          have q2_s : f2_s 103 (68 + 12 * (9 - 9) + n_s) = C_s (n_s - R_s) := q2_s
          rw [q1_s, q2_s, vB_n (by omega)]
          exact ⟨rfl, by omega, show (C_s (n_s - R_s)).toInt ≤ 9 by omega, fun _ _ => q3_s.2.2.2.1⟩
        · rw [hf (28 + n_s) (w_s - 7) (by unfold inC; omega) (by omega) (by omega) (by omega) (by omega) (by omega), hf 103 (68 + 12 * (w_s - 9) + n_s) (by unfold inC; omega) (by omega) (by omega) (by omega) (by omega) (by omega)]
          refine ⟨u_s.1, ?_⟩
          have u2_s := u_s.2
          rw [vB_n (by omega)] at u2_s ⊢
          exact ⟨u2_s.1, u2_s.2.1, fun e9_s hn => u2_s.2.2 e9_s (by omega)⟩
  · rw [hf (20 + j_s) 6 (by unfold inC; omega) (by omega) (by omega) (by omega) (by omega) (by omega)]
    exact a8 j_s j1 j2_s
  · by_cases e_s : R_s ≤ r_s ∧ r_s < R_s + k_s
    · have q1_s := h1 (r_s - R_s) (by omega)
      have q2_s := h2 (r_s - R_s) (by omega)
      have q3_s := hv (r_s - R_s) (by omega)
      rw [show R_s + (r_s - R_s) = r_s by omega] at q1_s q2_s
      rw [q1_s.1, q1_s.2.1, q2_s.1, q2_s.2.1]
      exact ⟨⟨rfl, rfl⟩, q3_s.1, q3_s.2.1, fun _ => q3_s.2.2.1⟩
    · have q_s := fun a_s j_s (qa : (a_s = 28 + r_s ∧ j_s < 2) ∨ ((a_s = 107 ∨ a_s = 108) ∧ j_s = r_s)) => hf a_s j_s (by unfold inC; omega) (by omega) (by omega) (by omega) (by omega) (by omega)
      rw [q_s (28 + r_s) 0 (by omega), q_s (28 + r_s) 1 (by omega), q_s 107 r_s (by omega), q_s 108 r_s (by omega)]
      have u_s := a9 r_s hr
      exact ⟨u_s.1, u_s.2.1, u_s.2.2.1, fun hr2 => u_s.2.2.2 (by omega)⟩
theorem pr_road2 (hk : hKn h_s) (hx : tX h_s) : wF F_s 95 (0, [some (.ref 6), some (.int x1_s), some (.int x2_s)], [], h_s) (gI (fun v_s h1 => wF F_s 159 (0, [some (.ref 102), some (.int x1_s), some (.int x2_s)], [], h1) (gI (fun v2 h2 => v_s = v2 ∧ tX h2)))) := by
  obtain ⟨nh, ni, R_s, hc_s, hh, hi_, hd_s, hz, hl⟩ := hx
  have hx : tX h_s := ⟨nh, ni, R_s, hc_s, hh, hi_, hd_s, hz, hl⟩
  have hR := hc_s.2.1.2.2
  have hR2 := hc_s.2.2.1.2.2
  have hR12 := hc_s.1.2.2
  have r1_s : h_s.2.1 7 8 = h_s.2.1 102 8 := Int32.toInt_inj.mp (hR.trans hR2.symm)
  refine sp_95 hk hR (fun c_s => ?_) (fun c_s c1_s f1_s b1 b2 b3 b4 b5 => ?_) (fun c_s c1_s => ?_)
  · exact sp_159 hk hR2 hR12 (fun _ => ⟨rfl, hx⟩) (fun w_s => absurd c_s w_s) (fun w_s => absurd c_s w_s)
  · have e8 : f1_s 102 8 = h_s.2.1 102 8 := b5 102 8 (by omega) (by omega)
    refine sp_159 (h_s := (h_s.1, f1_s, h_s.2.2.1, h_s.2.2.2)) hk (by rw [← hR2]; exact congrArg _ e8) hR12 (fun w_s => absurd w_s c_s) (fun _ _ f2_s d1_s d2_s d3_s d4_s d5_s => ⟨?_, ?_⟩) (fun _ w_s => by omega)
    · dsimp only
      rw [e8, (ic1 hR2 (by omega)).2.2]
      exact r1_s
    · have d5_s : ∀ o k_s, ¬ (o = 102 ∧ k_s = 8) → ¬ ((o = 107 ∨ o = 108) ∧ k_s = R_s) → ¬ (o = 103 ∧ k_s = 68 + R_s) → f2_s o k_s = f1_s o k_s := d5_s
      have d1_s : f2_s 102 8 = f1_s 102 8 + 1 := d1_s
      have q_s : (f2_s 7 8).toInt = ((R_s + 1 : Nat) : Int) := by
        rw [d5_s 7 8 (by omega) (by omega) (by omega), b1]
        exact (ic1 hR (by omega)).1
      have q2_s : (f2_s 102 8).toInt = ((R_s + 1 : Nat) : Int) := by
        rw [d1_s, e8]
        exact (ic1 hR2 (by omega)).1
      unfold badR at c_s
      refine tX_rest (h_s := h_s) (nr1 := R_s + 1) (Nat.le_refl nh) (Nat.le_refl ni) (Nat.le_succ R_s) (tC_roads (k_s := 1) (A_s := fun _ => x1_s / 10) (B_s := fun _ => x1_s - x1_s / 10 * 10) (C_s := fun _ => x2_s) hc_s (by omega) (fun m_s hm_s => by omega) q_s q2_s (fun m_s hm_s => ?_) (fun m_s hm_s => ?_) (fun a_s j_s qc s1_s s2_s s3_s s4_s s5 => ?_)) hh hi_ hd_s hz hl (fun _ => rfl) (fun a_s j_s w_s => ?_)
      · have em : m_s = 0 := by omega
        subst em
        refine ⟨?_, ?_, ?_⟩
        · show f2_s (28 + R_s) 0 = x1_s / 10
          rw [d5_s _ _ (by omega) (by omega) (by omega)]
          exact b2
        · show f2_s (28 + R_s) 1 = x1_s - x1_s / 10 * 10
          rw [d5_s _ _ (by omega) (by omega) (by omega)]
          exact b3
        · show f2_s (28 + R_s) 2 = x2_s
          rw [d5_s _ _ (by omega) (by omega) (by omega)]
          exact b4
      · have em : m_s = 0 := by omega
        subst em
        exact ⟨d2_s, d3_s, d4_s⟩
      · show f2_s a_s j_s = h_s.2.1 a_s j_s
        rw [d5_s a_s j_s s3_s (by omega) (by omega)]
        exact b5 a_s j_s s1_s (by omega)
      · show f2_s a_s j_s = h_s.2.1 a_s j_s
        unfold inH inI inD inZ inW at w_s
        rw [d5_s a_s j_s (by omega) (by omega) (by omega)]
        exact b5 a_s j_s (by omega) (by omega)
  · exact sp_159 hk hR2 hR12 (fun w_s => absurd w_s c_s) (fun _ w_s => by omega) (fun _ _ => ⟨rfl, hx⟩)
theorem t32_ {x_s : Int64} (h0 : 0 ≤ x_s.toInt) (h1 : x_s.toInt ≤ 100) : x_s.toInt32.toInt = x_s.toInt := by
  rw [Int64.toInt_toInt32]
  exact na_bmod (by omega) (by omega)
theorem pr_roads2 (hk : hKn h_s) (hs : tS h_s) (hx : tX h_s) : wF F_s 96 (0, [some (.ref 6), some (.int x1_s), some (.int x2_s), some (.int x3), none, none, none], [], h_s) (gI (fun v_s h1 => wF F_s 160 (0, [some (.ref 102), some (.int x1_s), some (.int x2_s), some (.int x3), none, none, none], [], h1) (gI (fun v2 h2 => v_s = v2 ∧ tX h2)))) := by
  obtain ⟨nh, ni, R_s, hc_s, hh, hi_, hd_s, hz, hl⟩ := hx
  have hx : tX h_s := ⟨nh, ni, R_s, hc_s, hh, hi_, hd_s, hz, hl⟩
  have hR := hc_s.2.1.2.2
  have hR2 := hc_s.2.2.1.2.2
  have hR12 := hc_s.1.2.2
  have hl1 : ∀ d_s, d_s < 6 → (h_s.2.1 (76 + 2 * d_s) 0).toInt = 2 → 0 ≤ (h_s.2.1 (76 + 2 * d_s) 3).toInt ∧ (h_s.2.1 (76 + 2 * d_s) 3).toInt ≤ 60 := fun d_s hd_s hq => by
    have q_s := (hs.1 d_s hd_s).1
    unfold tS1 at q_s
    omega
  have hl2 : ∀ d_s, d_s < 6 → 50 ≤ (h_s.2.1 124 d_s).toInt → 0 ≤ (h_s.2.1 125 d_s).toInt ∧ (h_s.2.1 125 d_s).toInt ≤ 60 := fun d_s hd_s hq => by
    have q_s := (hs.1 d_s hd_s).1
    unfold tS1 at q_s
    omega
  refine sp_96 hk hR hR12 hl1 (fun c_s => ?_) (fun c1_s c2_s c3_s c4_s c5_s c6_s => ?_) (fun c1_s c2_s c3_s c4_s c5_s c6_s c7_s => ?_) (fun c1_s c2_s c3_s c4_s c5_s c6_s c7_s c8_s k_s v_s f1_s g1 g2 g3_s g4 g5_s g6 => ?_)
  · exact sp_160 hk hR2 hR12 hl2 (fun _ => ⟨rfl, hx⟩) (fun _ _ _ _ _ _ => by omega) (fun _ _ _ _ _ _ _ => by omega) (fun _ _ _ _ _ _ _ _ _ _ _ _ _ _ _ _ => by omega)
  · have q_s := (hs.1 _ c5_s).1
    unfold tS1 at q_s
    exact sp_160 hk hR2 hR12 hl2 (fun _ => by omega) (fun _ _ _ _ _ _ => ⟨rfl, hx⟩) (fun _ _ _ _ _ w1_s w2_s => by omega) (fun _ _ _ _ _ w1_s w2_s _ _ _ _ _ _ _ _ _ => by omega)
  · have q_s := (hs.1 _ c5_s).1
    unfold tS1 at q_s
    exact sp_160 hk hR2 hR12 hl2 (fun _ => by omega) (fun _ _ _ _ _ w_s => by omega) (fun _ _ _ _ _ _ _ => ⟨rfl, hx⟩) (fun _ _ _ _ _ w1_s w2_s _ _ _ _ _ _ _ _ _ => by omega)
  · have q_s := (hs.1 _ c5_s).1
    unfold tS1 at q_s
    have u_s : ∀ o j_s, (o = 102 ∨ o = 124 ∨ o = 125) → f1_s o j_s = h_s.2.1 o j_s := fun o j_s ho => g6 o j_s (by omega) (by omega)
    have l60 := hl1 _ c5_s c6_s
    have e5_s : (h_s.2.1 125 (zix x1_s)).toInt = (h_s.2.1 (76 + 2 * zix x1_s) 3).toInt := by omega
    refine sp_160 (h_s := (h_s.1, f1_s, h_s.2.2.1, h_s.2.2.2)) hk (by rw [← hR2]; exact congrArg _ (u_s 102 8 (by omega))) hR12 (fun d_s hd_s hq => ?_) (fun _ => by omega) (fun _ _ _ _ _ w_s => ?_) (fun _ _ _ _ _ w1_s w2_s => ?_) (fun _ _ _ _ _ w1_s w2_s k2_s v2 f2_s d1_s d2_s d3_s d4_s d5_s d6_s => ?_)
    · dsimp only at hq ⊢
      rw [u_s 124 _ (by omega)] at hq
      rw [u_s 125 _ (by omega)]
      exact hl2 d_s hd_s hq
    · dsimp only at w_s
      rw [u_s 124 _ (by omega)] at w_s
      omega
    · dsimp only at w1_s w2_s
      rw [u_s 124 _ (by omega)] at w1_s w2_s
      omega
    · dsimp only at d2_s
      rw [u_s 125 _ (by omega), e5_s] at d2_s
      have l1 := lstR_eq (by omega) (fun j_s hj => (hs.1 _ c5_s).2 j_s hj) g2
      have ek := lstR_det l1 d2_s
      subst ek
      refine ⟨Int32.toInt_inj.mp (by omega), ?_⟩
      have hv := d2_s.2.1
      have d6_s : fr60 R_s k_s f1_s f2_s := d6_s
      unfold fr60 at d6_s
      unfold fr96 at g6
      clear q_s w1_s w2_s c6_s c7_s
      refine tX_rest (h_s := h_s) (nr1 := R_s + k_s) (Nat.le_refl nh) (Nat.le_refl ni) (Nat.le_add_right R_s k_s) (tC_roads (k_s := k_s) (A_s := fun m_s => (h_s.2.2.1 126 (60 * zix x1_s + (x2_s.toInt.toNat + 3 * m_s))).toInt32) (B_s := fun m_s => (h_s.2.2.1 126 (60 * zix x1_s + (x2_s.toInt.toNat + 3 * m_s + 1))).toInt32) (C_s := fun m_s => (h_s.2.2.1 126 (60 * zix x1_s + (x2_s.toInt.toNat + 3 * m_s + 2))).toInt32) hc_s g4 (fun m_s hm_s => ?_) ?_ d3_s (fun m_s hm_s => ?_) (fun m_s hm_s => d5_s m_s hm_s) (fun a_s j_s qc s1_s s2_s s3_s s4_s s5 => ?_)) hh hi_ hd_s hz hl (fun _ => rfl) (fun a_s j_s w_s => ?_)
      · have o := (hv m_s hm_s).2.2
        unfold vld at o
        dsimp only at o ⊢
        rw [t32_ (by omega) (by omega), t32_ (by omega) (by omega), t32_ (by omega) (by omega)]
        omega
      · show (f2_s 7 8).toInt = ((R_s + k_s : Nat) : Int)
        rw [d6_s 7 8 (by omega) (by omega) (by omega)]
        exact g3_s
      · have o := (hv m_s hm_s).1
        have p_s := g5_s m_s hm_s
        have e0_s := (hs.1 _ c5_s).2 (x2_s.toInt.toNat + 3 * m_s) (by omega)
        have e1_s := (hs.1 _ c5_s).2 (x2_s.toInt.toNat + 3 * m_s + 1) (by omega)
        have e2_s := (hs.1 _ c5_s).2 (x2_s.toInt.toNat + 3 * m_s + 2) (by omega)
        rw [e0_s, e1_s, e2_s] at p_s
        refine ⟨?_, ?_, ?_⟩
        · show f2_s (28 + (R_s + m_s)) 0 = _
          rw [d6_s _ _ (by omega) (by omega) (by omega)]
          exact p_s.1
        · show f2_s (28 + (R_s + m_s)) 1 = _
          rw [d6_s _ _ (by omega) (by omega) (by omega)]
          exact p_s.2.1
        · show f2_s (28 + (R_s + m_s)) 2 = _
          rw [d6_s _ _ (by omega) (by omega) (by omega)]
          exact p_s.2.2
      · show f2_s a_s j_s = h_s.2.1 a_s j_s
        rw [d6_s a_s j_s s3_s s4_s s5]
        exact g6 a_s j_s s1_s s2_s
      · show f2_s a_s j_s = h_s.2.1 a_s j_s
        unfold inH inI inD inZ inW at w_s
        rw [d6_s a_s j_s (by omega) (by omega) (by omega)]
        exact g6 a_s j_s (by omega) (by omega)
/-- law -/
theorem tX_law {q_s n_s : Nat} {h2 : zH} (hc_s : tC nh ni nr h_s.2.1) (hh : tH nh ni nr h_s.2.1) (hi_ : tI nh ni nr h_s.2.1) (hd_s : tD h_s.2.1) (hz : tZ h_s.2.1) (hm_s : q_s = 14 ∨ q_s = 17) (hl : tLw h2) (hf : ∀ o k_s, ¬ o = 40 → ¬ (o = q_s ∨ o = q_s + 1) → ¬ (o = 102 ∧ 12 ≤ k_s ∧ k_s ≤ 19) → ¬ o = 110 → h2.2.1 o k_s = h_s.2.1 o k_s) : tX h2 := by
  refine ⟨nh, ni, nr, tC_fr (fun a_s k_s w_s => hf a_s k_s ?_ ?_ ?_ ?_) hc_s, tH_fr (fun a_s k_s w_s => hf a_s k_s ?_ ?_ ?_ ?_) hh, tI_fr (fun a_s k_s w_s => hf a_s k_s ?_ ?_ ?_ ?_) hi_ hc_s.1.2.1, tD_fr (fun a_s k_s w_s => hf a_s k_s ?_ ?_ ?_ ?_) hd_s, tZ_fr (fun a_s k_s w_s => hf a_s k_s ?_ ?_ ?_ ?_) hz, hl⟩
  all_goals (simp only [inC, inH, inI, inD, inZ] at w_s; omega)
theorem lawC_q {q_s : Nat} {lw : Option (List pB)} {f1_s : Nat → Nat → Int32} (hf : ∀ a_s k_s, (a_s = q_s ∨ a_s = q_s + 1) → f1_s a_s k_s = f_s a_s k_s) (hl : lawC q_s f_s lw) : lawC q_s f1_s lw := by
  match lw, hl with
  | none, hl => exact ⟨by rw [hf q_s 2 (Or.inl rfl)]; exact hl.1, by rw [hf q_s 0 (Or.inl rfl)]; exact hl.2⟩
  | some ls, hl =>
    obtain ⟨a1_s, a2, a3, a4, a5, a6⟩ := hl
    exact ⟨by rw [hf q_s 2 (Or.inl rfl)]; exact a1_s, a2, fun j_s c_s hj => by rw [hf (q_s + 1) j_s (Or.inr rfl)]; exact a3 j_s c_s hj, by rw [hf q_s 0 (Or.inl rfl)]; exact a4, a5, a6⟩
theorem pr_law2 (hk : hKn h_s) (hs : tT h_s) (hx : tX h_s) : wF F_s 101 (0, [some (.ref 6), none, none], [], h_s) (gI (fun v_s h1 => wF F_s 177 (0, [some (.ref 102), none, none, none], [], h1) (gI (fun v2 h2 => v_s = v2 ∧ tT h2 ∧ tX h2)))) := by
  obtain ⟨n_s, n1_s, n2_s, n3_s, n4_s⟩ := hs
  have n5_s : (h_s.2.1 102 12).toInt = (n_s : Int) := by
    rw [n3_s]
    exact n2_s
  obtain ⟨nh, ni, nr, hc_s, hh, hi_, hd_s, hz, hl⟩ := hx
  obtain ⟨qa, qb, lw, l1, l2, l3, l4, l5⟩ := hl
  refine wF_le (Nat.le_succ F_s) (sg_101_0 hk (fun q_s r1_s m1_s => ?_))
  have eq_s : qb = q_s := Option.some.inj (l2.symm.trans r1_s)
  subst eq_s
  refine sp_63 (f_s := h_s.2.1) (n_s := n_s) m1_s hk n2_s n1_s (fun v_s f1_s fr1 hr hk1 => ?_)
  obtain ⟨k_s, r_s, hr1, hr2⟩ := hr
  have htk : ∀ a_s, tkF h_s.2.1 a_s = if (a_s : Int) < (n_s : Int) then (h_s.2.1 109 a_s).toInt else -1 := by
    intro a_s
    unfold tkF
    rw [n2_s]
    by_cases e_s : (a_s : Int) < (n_s : Int)
    · rw [if_pos e_s, if_pos e_s, (n4_s a_s (by omega)).1]
    · rw [if_neg e_s, if_neg e_s]
  have hpos : ∀ a_s, a_s < n_s → 0 ≤ tkF h_s.2.1 a_s := by
    intro a_s ha_s
    unfold tkF
    rw [if_pos (by omega)]
    exact (n4_s a_s ha_s).2
  have fq : ∀ o k_s, ¬ o = 40 → ¬ (o = qb ∨ o = qb + 1) → f1_s o k_s = h_s.2.1 o k_s := fun o k_s q1_s q2_s => fr1 o k_s (by omega) (by omega) (by omega)
  have go_s : ∀ (rr : Nat → Nat → Option Nat) (hk2 : hKn (h_s.1, zup f1_s 40 1 0, h_s.2.2.1, rr)) (u_s : Int32), (∀ (e_s k1_s : Nat) (w_s : Int32) f2_s, ptx (tkF h_s.2.1) n_s k1_s 0 [] (.inl e_s) → w_s.toInt = (e_s : Int) → (∀ o k_s, ¬ o = 40 → ¬ (o = 102 ∧ (k_s = 12 ∨ 15 ≤ k_s ∧ k_s ≤ 19)) → f2_s o k_s = f1_s o k_s) → u_s = -100 - w_s ∧ tLw (h_s.1, f2_s, h_s.2.2.1, rr)) → (∀ (k1_s : Nat) (ls : List pB) f2_s, ptx (tkF h_s.2.1) n_s k1_s 0 [] (.inr ls) → (f2_s 102 14).toInt = (n_s : Int) → (∀ k_s, k_s < n_s → f2_s 110 k_s = h_s.2.1 109 k_s) → (∀ o k_s, ¬ o = 40 → ¬ (o = 102 ∧ 12 ≤ k_s ∧ k_s ≤ 19) → ¬ o = 110 → f2_s o k_s = f1_s o k_s) → u_s = 1 ∧ tLw (h_s.1, f2_s, h_s.2.2.1, rr)) → wF F_s 177 (0, [some (.ref 102), none, none, none], [], (h_s.1, zup f1_s 40 1 0, h_s.2.2.1, rr)) (gI (fun v2 h2 => u_s = v2 ∧ tT h2 ∧ tX h2)) := by
    intro rr hk2 u_s hu1 hu2
    have ff_s : ∀ o k_s, (o = 102 ∨ o = 109) → zup f1_s 40 1 0 o k_s = h_s.2.1 o k_s := fun o k_s ho => by
      rw [zne_up (by omega)]
      exact fq o k_s (by omega) (by omega)
    refine sp_177 (h_s := (h_s.1, zup f1_s 40 1 0, h_s.2.2.1, rr)) (tk := tkF h_s.2.1) (n_s := n_s) (f_s := zup f1_s 40 1 0) hk2 (by rw [ff_s _ _ (Or.inl rfl)]; exact n5_s) n1_s (fun a_s => by rw [ff_s _ _ (Or.inr rfl)]; exact htk a_s) hpos (fun e_s k1_s w_s f2_s b1 b2 b3 b4 => ?_) (fun k1_s ls f2_s b1 b2 b3 b4 b5 => ?_)
    · have q0 : ∀ o k_s, ¬ o = 40 → ¬ (o = 102 ∧ (k_s = 12 ∨ 15 ≤ k_s ∧ k_s ≤ 19)) → f2_s o k_s = f1_s o k_s := fun o k_s s1_s s2_s => by
        rw [b4 o k_s s2_s, zne_up (by omega)]
      obtain ⟨p1_s, p2_s⟩ := hu1 e_s k1_s w_s f2_s b1 b2 q0
      refine ⟨p1_s, ⟨0, by omega, ?_, ?_, fun j_s hj => by omega⟩, tX_law (h_s := h_s) (q_s := qb) (n_s := n_s) hc_s hh hi_ hd_s hz m1_s p2_s (fun o k_s s1_s s2_s s3_s s4_s => ?_)⟩
      · dsimp only
        rw [b4 40 1 (by omega), zsame_up]
        rfl
      · dsimp only
        rw [b3, b4 40 1 (by omega), zsame_up]
      · show f2_s o k_s = h_s.2.1 o k_s
        rw [q0 o k_s s1_s (by omega)]
        exact fq o k_s s1_s s2_s
    · have q0 : ∀ o k_s, ¬ o = 40 → ¬ (o = 102 ∧ 12 ≤ k_s ∧ k_s ≤ 19) → ¬ o = 110 → f2_s o k_s = f1_s o k_s := fun o k_s s1_s s2_s s3_s => by
        rw [b5 o k_s s2_s (by omega), zne_up (by omega)]
      obtain ⟨p1_s, p2_s⟩ := hu2 k1_s ls f2_s b1 b3 (fun k_s hkn => by rw [b4 k_s hkn, ff_s 109 k_s (Or.inr rfl)]) q0
      refine ⟨p1_s, ⟨0, by omega, ?_, ?_, fun j_s hj => by omega⟩, tX_law (h_s := h_s) (q_s := qb) (n_s := n_s) hc_s hh hi_ hd_s hz m1_s p2_s (fun o k_s s1_s s2_s s3_s s4_s => ?_)⟩
      · dsimp only
        rw [b5 40 1 (by omega) (by omega), zsame_up]
        rfl
      · dsimp only
        rw [b2, b5 40 1 (by omega) (by omega), zsame_up]
      · show f2_s o k_s = h_s.2.1 o k_s
        rw [q0 o k_s s1_s s3_s s4_s]
        exact fq o k_s s1_s s2_s
  match r_s, hr1, hr2 with
  | .inl e_s, hr1, hr2 =>
    have hr2 : v_s.toInt = (e_s : Int) := hr2
    refine ⟨fun c_s => absurd c_s (by omega), fun _ => ?_⟩
    refine go_s h_s.2.2.2 hk1 _ (fun e1_s k1_s w_s f2_s d1_s d2_s d3_s => ?_) (fun k1_s ls f2_s d1_s d2_s d3_s d4_s => ?_)
    · have q1_s := ptx_det hr1 d1_s
      cases q1_s
      refine ⟨by rw [Int32.toInt_inj.mp (hr2.trans d2_s.symm)], qa, qb, lw, l1, l2, l3, lawC_q (f_s := h_s.2.1) (fun a_s k_s ha_s => ?_) l4, lawR_fr (f_s := h_s.2.1) ?_ (fun k_s hk1 => ?_) l5⟩
      · show f2_s a_s k_s = h_s.2.1 a_s k_s
        rw [d3_s a_s k_s (by omega) (by omega)]
        exact fq a_s k_s (by omega) (by omega)
      · show f2_s 102 14 = h_s.2.1 102 14
        rw [d3_s 102 14 (by omega) (by omega)]
        exact fq 102 14 (by omega) (by omega)
      · show f2_s 110 k_s = h_s.2.1 110 k_s
        rw [d3_s 110 k_s (by omega) (by omega)]
        exact fq 110 k_s (by omega) (by omega)
    · have q1_s := ptx_det hr1 d1_s
      cases q1_s
  | .inr ls, hr1, hr2 =>
    obtain ⟨s1_s, s2_s, s3_s, s4_s, s5⟩ := hr2
    refine ⟨fun _ => fun q4_s r4 m4_s => ?_, fun c_s => absurd s1_s c_s⟩
    have e4_s : qa = q4_s := Option.some.inj (l1.symm.trans r4)
    subst e4_s
    refine go_s (zup (zup h_s.2.2.2 7 10 (some qa)) 7 9 (some qb)) (show hKn (h_s.1, f1_s, h_s.2.2.1, zup (zup h_s.2.2.2 7 10 (some qa)) 7 9 (some qb)) from hkr9 (h_s := (h_s.1, f1_s, h_s.2.2.1, zup h_s.2.2.2 7 10 (some qa))) (hkr10 (h_s := (h_s.1, f1_s, h_s.2.2.1, h_s.2.2.2)) hk1 m4_s) m1_s) 1 (fun e1_s k1_s w_s f2_s d1_s d2_s d3_s => ?_) (fun k1_s ls1 f2_s d1_s d2_s d3_s d4_s => ?_)
    · have q1_s := ptx_det hr1 d1_s
      cases q1_s
    · have q1_s := ptx_det hr1 d1_s
      cases q1_s
      have c2_s : ∀ a_s k_s, (a_s = qb ∨ a_s = qb + 1) → f2_s a_s k_s = f1_s a_s k_s := fun a_s k_s ha_s => d4_s a_s k_s (by omega) (by omega) (by omega)
      refine ⟨rfl, qb, qa, some ls, ?_, ?_, by omega, ⟨?_, s3_s, fun j_s c_s hj => ?_, ?_, ptx_OK hr1 (fun p_s hp => by cases hp), ptx_ne hr1⟩, n_s, k_s, d2_s, n1_s, fun a_s ha_s => ?_, ?_⟩
      · show zup (zup h_s.2.2.2 7 10 (some qa)) 7 9 (some qb) 7 9 = some qb
        exact zsame_up
      · show zup (zup h_s.2.2.2 7 10 (some qa)) 7 9 (some qb) 7 10 = some qa
        rw [zne_up (by omega), zsame_up]
      · show (f2_s qb 2).toInt = _
        rw [c2_s qb 2 (Or.inl rfl)]
        exact s2_s
      · show f2_s (qb + 1) j_s = c_s
        rw [c2_s (qb + 1) j_s (Or.inr rfl)]
        exact s4_s j_s c_s hj
      · show f2_s qb 0 = _
        rw [c2_s qb 0 (Or.inl rfl)]
        exact s5
      · show 0 ≤ (f2_s 110 a_s).toInt
        have p_s := hpos a_s ha_s
        rw [htk a_s, if_pos (by omega)] at p_s
        rw [d3_s a_s ha_s]
        exact p_s
      · have ef : (fun a_s : Nat => if (a_s : Int) < (n_s : Int) then (f2_s 110 a_s).toInt else -1) = tkF h_s.2.1 := by
          funext a_s
          rw [htk a_s]
          by_cases e_s : (a_s : Int) < (n_s : Int)
          · rw [if_pos e_s, if_pos e_s, d3_s a_s (by omega)]
          · rw [if_neg e_s, if_neg e_s]
        show ptx (fun a_s : Nat => if (a_s : Int) < (n_s : Int) then (f2_s 110 a_s).toInt else -1) n_s k_s 0 [] (.inr ls)
        rw [ef]
        exact hr1
end R9
/-! BITS of a number. -/
def btv (x_s : Int32) (k_s : Nat) : Bool := x_s.toBitVec.getLsbD k_s
theorem sh_ix : ∀ k_s, k_s < 32 → (((Int32.ofNat k_s) &&& 31).toBitVec.smod 32).toNat = k_s := by decide
theorem y_of {y_s : Int32} {k_s : Nat} (hy : y_s.toInt = (k_s : Int)) (hk : k_s < 32) : y_s = Int32.ofNat k_s := Int32.toInt_inj.mp (by rw [na_ofn (by omega), hy])
theorem bt_or (x_s z_s : Int32) (k_s : Nat) : btv (x_s ||| z_s) k_s = (btv x_s k_s || btv z_s k_s) := by
  unfold btv
  show (x_s.toBitVec ||| z_s.toBitVec).getLsbD k_s = _
  rw [BitVec.getLsbD_or]
theorem bt_and (x_s z_s : Int32) (k_s : Nat) : btv (x_s &&& z_s) k_s = (btv x_s k_s && btv z_s k_s) := by
  unfold btv
  show (x_s.toBitVec &&& z_s.toBitVec).getLsbD k_s = _
  rw [BitVec.getLsbD_and]
theorem bt_0 (k_s : Nat) : btv 0 k_s = false := by
  unfold btv
  show (0#32).getLsbD k_s = false
  exact BitVec.getLsbD_zero
theorem bt_1 {k_s : Nat} : btv 1 k_s = decide (k_s = 0) := by
  unfold btv
  show (1#32).getLsbD k_s = decide (k_s = 0)
  rw [BitVec.getLsbD_one]
  simp
theorem bt_ext {x_s z_s : Int32} (h_s : ∀ k_s, k_s < 32 → btv x_s k_s = btv z_s k_s) : x_s = z_s := by
  have e_s : x_s.toBitVec = z_s.toBitVec := BitVec.eq_of_getLsbD_eq (fun k_s hk => h_s k_s hk)
  exact Int32.toBitVec_inj.mp e_s
theorem bt_shl {y_s : Int32} {j_s k_s : Nat} (hy : y_s.toInt = (j_s : Int)) (hj : j_s < 32) (hk : k_s < 32) : btv (1 <<< (y_s &&& 31)) k_s = decide (k_s = j_s) := by
  rw [y_of hy hj]
  unfold btv
  show ((1#32) <<< (((Int32.ofNat j_s) &&& 31).toBitVec.smod 32)).getLsbD k_s = decide (k_s = j_s)
  rw [BitVec.shiftLeft_eq', sh_ix j_s hj, BitVec.getLsbD_shiftLeft, BitVec.getLsbD_one]
  by_cases e_s : k_s = j_s
  · subst e_s
    simp [hk]
  · by_cases e1_s : k_s < j_s
    · simp [e_s, e1_s]
    · have e2_s : ¬ k_s - j_s = 0 := by omega
      simp [e_s, e2_s]
theorem bt_shr {x_s y_s : Int32} {k_s : Nat} (hy : y_s.toInt = (k_s : Int)) (hk : k_s < 32) : ((x_s >>> (y_s &&& 31)) &&& 1) = if btv x_s k_s = true then 1 else 0 := by
  have e_s : ∀ j_s, j_s < 32 → btv ((x_s >>> (y_s &&& 31)) &&& 1) j_s = (decide (j_s = 0) && btv x_s k_s) := by
    intro j_s hj
    rw [bt_and, bt_1]
    by_cases e0_s : j_s = 0
    · subst e0_s
      rw [decide_eq_true rfl, Bool.true_and, Bool.and_true, y_of hy hk]
      unfold btv
      show (x_s.toBitVec.sshiftRight (((Int32.ofNat k_s) &&& 31).toBitVec.smod 32).toNat).getLsbD 0 = x_s.toBitVec.getLsbD k_s
      rw [sh_ix k_s hk, BitVec.getLsbD_sshiftRight]
      simp [hk]
    · rw [decide_eq_false e0_s, Bool.false_and, Bool.and_false]
  refine bt_ext (fun j_s hj => ?_)
  rw [e_s j_s hj]
  cases h_s : btv x_s k_s with
  | false => rw [if_neg Bool.false_ne_true, bt_0, Bool.and_false]
  | true => rw [if_pos rfl, bt_1, Bool.and_true]
theorem bt_tst {x_s y_s : Int32} {k_s : Nat} (hy : y_s.toInt = (k_s : Int)) (hk : k_s < 32) : (((x_s >>> (y_s &&& 31)) &&& 1).toInt = 0 ↔ btv x_s k_s = false) ∧ (((x_s >>> (y_s &&& 31)) &&& 1).toInt = 1 ↔ btv x_s k_s = true) := by
  rw [bt_shr hy hk]
  cases h_s : btv x_s k_s with
  | false =>
    rw [if_neg Bool.false_ne_true]
    exact ⟨⟨fun _ => rfl, fun _ => rfl⟩, ⟨fun w_s => absurd w_s (by decide), fun w_s => absurd w_s Bool.false_ne_true⟩⟩
  | true =>
    rw [if_pos rfl]
    exact ⟨⟨fun w_s => absurd w_s (by decide), fun w_s => absurd w_s.symm Bool.false_ne_true⟩, ⟨fun _ => rfl, fun _ => rfl⟩⟩
/-! ALL ASK: that the heads' asking ends as if they chose by rank, one after the other. -/
def GSI (nh ni : Nat) (ky : Nat → Nat → Int) (hk : Nat → Int) (hb_s : Nat → Int) (ak : Nat → Nat → Bool) : Prop := (∀ i_s, i_s < ni → hb_s i_s = -1 ∨ ∃ p_s : Nat, p_s < nh ∧ hb_s i_s = (p_s : Int)) ∧ (∀ i_s p_s, i_s < ni → p_s < nh → hb_s i_s = (p_s : Int) → ak p_s i_s = true) ∧ (∀ i_s p_s, i_s < ni → p_s < nh → ak p_s i_s = true → ∃ q_s : Nat, q_s < nh ∧ hb_s i_s = (q_s : Int) ∧ hk q_s ≤ hk p_s) ∧ (∀ i_s o p_s, i_s < ni → o < ni → p_s < nh → ak p_s i_s = true → ak p_s o = false → ky p_s i_s < ky p_s o) ∧ (∀ i_s j_s p_s, i_s < ni → j_s < ni → p_s < nh → hb_s i_s = (p_s : Int) → hb_s j_s = (p_s : Int) → i_s = j_s)
def SDp (nh ni : Nat) (ky : Nat → Nat → Int) (hk : Nat → Int) (hd_s : Nat → Int) (p_s : Nat) : Prop := (hd_s p_s = -2 ∧ ∀ i_s : Nat, i_s < ni → ∃ q_s : Nat, q_s < nh ∧ hk q_s < hk p_s ∧ hd_s q_s = (i_s : Int)) ∨ (∃ i_s : Nat, i_s < ni ∧ hd_s p_s = (i_s : Int) ∧ (∀ q_s : Nat, q_s < nh → hk q_s < hk p_s → ¬ hd_s q_s = (i_s : Int)) ∧ ∀ o : Nat, o < ni → ¬ o = i_s → (∃ q_s : Nat, q_s < nh ∧ hk q_s < hk p_s ∧ hd_s q_s = (o : Int)) ∨ ky p_s i_s < ky p_s o)
section GA
variable {nh ni : Nat} {ky : Nat → Nat → Int} {hk : Nat → Int} {hb_s hb1 : Nat → Int} {ak ak1 : Nat → Nat → Bool} {hd_s : Nat → Int} {p_s b_s : Nat}
theorem GS_take (G_s : GSI nh ni ky hk hb_s ak) (hp : p_s < nh) (h0 : ∀ i_s, i_s < ni → ¬ hb_s i_s = (p_s : Int)) (hb_ : b_s < ni) (hm_s : ∀ o, o < ni → ak p_s o = false → o = b_s ∨ ky p_s b_s < ky p_s o) (h1 : hb_s b_s = -1 ∨ ∃ q_s : Nat, q_s < nh ∧ hb_s b_s = (q_s : Int) ∧ hk p_s < hk q_s) (e1_s : hb1 b_s = (p_s : Int)) (e2_s : ∀ i_s, ¬ i_s = b_s → hb1 i_s = hb_s i_s) (e3_s : ak1 p_s b_s = true) (e4_s : ∀ q_s i_s, ¬ (q_s = p_s ∧ i_s = b_s) → ak1 q_s i_s = ak q_s i_s) : GSI nh ni ky hk hb1 ak1 := by
  obtain ⟨g1, g2, g3_s, g4, g5_s⟩ := G_s
  refine ⟨fun i_s hi_s => ?_, fun i_s q_s hi_s hq w_s => ?_, fun i_s q_s hi_s hq w_s => ?_, fun i_s o q_s hi_s ho hq w1_s w2_s => ?_, fun i_s j_s q_s hi_s hj hq w1_s w2_s => ?_⟩
  · by_cases e_s : i_s = b_s
    · rw [e_s, e1_s]
      exact Or.inr ⟨p_s, hp, rfl⟩
    · rw [e2_s i_s e_s]
      exact g1 i_s hi_s
  · by_cases e_s : i_s = b_s
    · rw [e_s, e1_s] at w_s
      have eq_s : q_s = p_s := by omega
      rw [eq_s, e_s]
      exact e3_s
    · rw [e2_s i_s e_s] at w_s
      rw [e4_s q_s i_s (fun u_s => e_s u_s.2)]
      exact g2 i_s q_s hi_s hq w_s
  · by_cases e_s : i_s = b_s
    · subst e_s
      refine ⟨p_s, hp, e1_s, ?_⟩
      by_cases eq_s : q_s = p_s
      · rw [eq_s]
        exact Int.le_refl _
      · rw [e4_s q_s i_s (fun u_s => eq_s u_s.1)] at w_s
        obtain ⟨r_s, r1_s, r2, r3⟩ := g3_s i_s q_s hi_s hq w_s
        rcases h1 with h1 | ⟨r', s1_s, s2_s, s3_s⟩
        · omega
        · have er : r_s = r' := by omega
          subst er
          omega
    · rw [e4_s q_s i_s (fun u_s => e_s u_s.2)] at w_s
      rw [e2_s i_s e_s]
      exact g3_s i_s q_s hi_s hq w_s
  · have w2' : ak q_s o = false := by
      by_cases eo : q_s = p_s ∧ o = b_s
      · rw [eo.1, eo.2, e3_s] at w2_s
        cases w2_s
      · rw [e4_s q_s o eo] at w2_s
        exact w2_s
    by_cases e_s : q_s = p_s ∧ i_s = b_s
    · obtain ⟨rfl, rfl⟩ := e_s
      rcases hm_s o ho w2' with u_s | u_s
      · subst u_s
        rw [e3_s] at w2_s
        cases w2_s
      · exact u_s
    · rw [e4_s q_s i_s e_s] at w1_s
      exact g4 i_s o q_s hi_s ho hq w1_s w2'
  · by_cases e_s : i_s = b_s
    · rw [e_s, e1_s] at w1_s
      have eq_s : q_s = p_s := by omega
      by_cases f_s : j_s = b_s
      · rw [e_s, f_s]
      · rw [e2_s j_s f_s, eq_s] at w2_s
        exact absurd w2_s (h0 j_s hj)
    · rw [e2_s i_s e_s] at w1_s
      by_cases f_s : j_s = b_s
      · rw [f_s, e1_s] at w2_s
        have eq_s : q_s = p_s := by omega
        rw [eq_s] at w1_s
        exact absurd w1_s (h0 i_s hi_s)
      · rw [e2_s j_s f_s] at w2_s
        exact g5_s i_s j_s q_s hi_s hj hq w1_s w2_s
theorem GS_leave (G_s : GSI nh ni ky hk hb_s ak) (hp : p_s < nh) (hb_ : b_s < ni) (hm_s : ∀ o, o < ni → ak p_s o = false → o = b_s ∨ ky p_s b_s < ky p_s o) (h1 : ∃ q_s : Nat, q_s < nh ∧ hb_s b_s = (q_s : Int) ∧ hk q_s ≤ hk p_s) (e3_s : ak1 p_s b_s = true) (e4_s : ∀ q_s i_s, ¬ (q_s = p_s ∧ i_s = b_s) → ak1 q_s i_s = ak q_s i_s) : GSI nh ni ky hk hb_s ak1 := by
  obtain ⟨g1, g2, g3_s, g4, g5_s⟩ := G_s
  refine ⟨g1, fun i_s q_s hi_s hq w_s => ?_, fun i_s q_s hi_s hq w_s => ?_, fun i_s o q_s hi_s ho hq w1_s w2_s => ?_, g5_s⟩
  · by_cases e_s : q_s = p_s ∧ i_s = b_s
    · rw [e_s.1, e_s.2]
      exact e3_s
    · rw [e4_s q_s i_s e_s]
      exact g2 i_s q_s hi_s hq w_s
  · by_cases e_s : q_s = p_s ∧ i_s = b_s
    · rw [e_s.1, e_s.2]
      exact h1
    · rw [e4_s q_s i_s e_s] at w_s
      exact g3_s i_s q_s hi_s hq w_s
  · have w2' : ak q_s o = false := by
      by_cases eo : q_s = p_s ∧ o = b_s
      · rw [eo.1, eo.2, e3_s] at w2_s
        cases w2_s
      · rw [e4_s q_s o eo] at w2_s
        exact w2_s
    by_cases e_s : q_s = p_s ∧ i_s = b_s
    · obtain ⟨rfl, rfl⟩ := e_s
      rcases hm_s o ho w2' with u_s | u_s
      · subst u_s
        rw [e3_s] at w2_s
        cases w2_s
      · exact u_s
    · rw [e4_s q_s i_s e_s] at w1_s
      exact g4 i_s o q_s hi_s ho hq w1_s w2'
theorem GS_start (h1 : ∀ i_s, i_s < ni → hb_s i_s = -1) (h2 : ∀ p_s i_s, p_s < nh → i_s < ni → ak p_s i_s = false) : GSI nh ni ky hk hb_s ak := by
  refine ⟨fun i_s hi_s => Or.inl (h1 i_s hi_s), fun i_s q_s hi_s hq w_s => ?_, fun i_s q_s hi_s hq w_s => ?_, fun i_s o q_s hi_s ho hq w1_s w2_s => ?_, fun i_s j_s q_s hi_s hj hq w1_s w2_s => ?_⟩
  · rw [h1 i_s hi_s] at w_s
    omega
  · rw [h2 q_s i_s hq hi_s] at w_s
    cases w_s
  · rw [h2 q_s i_s hq hi_s] at w1_s
    cases w1_s
  · rw [h1 i_s hi_s] at w1_s
    omega
theorem GS_SD (hinj : ∀ p_s q_s, p_s < nh → q_s < nh → hk p_s = hk q_s → p_s = q_s) (hk0 : ∀ p_s, p_s < nh → 0 ≤ hk p_s) (G_s : GSI nh ni ky hk hb_s ak) (dn : ∀ p_s, p_s < nh → (∃ i_s, i_s < ni ∧ hb_s i_s = (p_s : Int)) ∨ ∀ i_s, i_s < ni → ak p_s i_s = true) (S_s : ∀ p_s, p_s < nh → SDp nh ni ky hk hd_s p_s) : ∀ (n_s p_s : Nat), p_s < nh → hk p_s < (n_s : Int) → ∀ i_s, i_s < ni → (hd_s p_s = (i_s : Int) ↔ hb_s i_s = (p_s : Int))
  | 0, p_s, hp, hn, _, _ => by
    have := hk0 p_s hp
    omega
  | n_s + 1, p_s, hp, hn, i_s, hi_s => by
    obtain ⟨g1, g2, g3_s, g4, g5_s⟩ := G_s
    have ih_s : ∀ q_s, q_s < nh → hk q_s < hk p_s → ∀ j_s, j_s < ni → (hd_s q_s = (j_s : Int) ↔ hb_s j_s = (q_s : Int)) := fun q_s hq hl j_s hj => GS_SD hinj hk0 ⟨g1, g2, g3_s, g4, g5_s⟩ dn S_s n_s q_s hq (by omega) j_s hj
    have fw : ∀ i_s, i_s < ni → hd_s p_s = (i_s : Int) → hb_s i_s = (p_s : Int) := by
      intro i_s hi_s w_s
      rcases S_s p_s hp with ⟨s1_s, _⟩ | ⟨i1_s, s1_s, s2_s, s3_s, s4_s⟩
      · omega
      · have ei : i1_s = i_s := by omega
        subst ei
        have fin_s : ak p_s i1_s = true → hb_s i1_s = (p_s : Int) := fun a_s => by
          obtain ⟨q_s, q1_s, q2_s, q3_s⟩ := g3_s i1_s p_s hi_s hp a_s
          by_cases l : hk q_s < hk p_s
          · exact absurd ((ih_s q_s q1_s l i1_s hi_s).mpr q2_s) (s3_s q_s q1_s l)
          · have eq_s : q_s = p_s := hinj q_s p_s q1_s hp (by omega)
            rw [eq_s] at q2_s
            exact q2_s
        rcases dn p_s hp with ⟨j_s, j1, j2_s⟩ | d_s
        · by_cases e_s : j_s = i1_s
          · rw [← e_s]
            exact j2_s
          · cases ea : ak p_s i1_s with
            | true => exact fin_s ea
            | false =>
              exfalso
              have l := g4 j_s i1_s p_s j1 hi_s hp (g2 j_s p_s j1 hp j2_s) ea
              rcases s4_s j_s j1 e_s with ⟨q_s, q1_s, q2_s, q3_s⟩ | u_s
              · have := (ih_s q_s q1_s q2_s j_s j1).mp q3_s
                have eq_s : q_s = p_s := by omega
                rw [eq_s] at q2_s
                omega
              · omega
        · exact fin_s (d_s i1_s hi_s)
    refine ⟨fw i_s hi_s, fun w_s => ?_⟩
    rcases S_s p_s hp with ⟨_, s2_s⟩ | ⟨i1_s, s1_s, s2_s, s3_s, s4_s⟩
    · obtain ⟨q_s, q1_s, q2_s, q3_s⟩ := s2_s i_s hi_s
      have := (ih_s q_s q1_s q2_s i_s hi_s).mp q3_s
      have eq_s : q_s = p_s := by omega
      rw [eq_s] at q2_s
      omega
    · have u_s := fw i1_s s1_s s2_s
      rw [g5_s i_s i1_s p_s hi_s s1_s hp w_s u_s]
      exact s2_s
end GA
/-- how many bits ahead of n are set -/
def cnB (s_s : Int32) : Nat → Nat
  | 0 => 0
  | n_s + 1 => cnB s_s n_s + (if btv s_s n_s = true then 1 else 0)
theorem cnB_le (s_s : Int32) : ∀ n_s, cnB s_s n_s ≤ n_s
  | 0 => Nat.le_refl 0
  | n_s + 1 => by
    have := cnB_le s_s n_s
    show cnB s_s n_s + (if btv s_s n_s = true then 1 else 0) ≤ n_s + 1
    split <;> omega
theorem cnB_all (s_s : Int32) : ∀ n_s, cnB s_s n_s = n_s → ∀ k_s, k_s < n_s → btv s_s k_s = true
  | 0, _, k_s, hk => absurd hk (Nat.not_lt_zero k_s)
  | n_s + 1, h_s, k_s, hk => by
    have l := cnB_le s_s n_s
    have h_s : cnB s_s n_s + (if btv s_s n_s = true then 1 else 0) = n_s + 1 := h_s
    split at h_s
    · rename_i c_s
      by_cases e_s : k_s = n_s
      · rw [e_s]
        exact c_s
      · exact cnB_all s_s n_s (by omega) k_s (by omega)
    · omega
theorem cnB_set {s_s s1_s : Int32} {v_s : Nat} (h1 : btv s_s v_s = false) (h2 : btv s1_s v_s = true) (h3 : ∀ k_s, k_s < 32 → ¬ k_s = v_s → btv s1_s k_s = btv s_s k_s) : ∀ n_s, n_s ≤ 32 → cnB s1_s n_s = cnB s_s n_s + (if v_s < n_s then 1 else 0)
  | 0, _ => rfl
  | n_s + 1, hn => by
    have ih_s := cnB_set h1 h2 h3 n_s (by omega)
    show cnB s1_s n_s + (if btv s1_s n_s = true then 1 else 0) = cnB s_s n_s + (if btv s_s n_s = true then 1 else 0) + (if v_s < n_s + 1 then 1 else 0)
    rw [ih_s]
    by_cases e_s : n_s = v_s
    · subst e_s
      rw [h1, h2, if_neg (by omega), if_pos rfl, if_neg Bool.false_ne_true, if_pos (by omega)]
    · rw [h3 n_s (by omega) e_s]
      by_cases l : v_s < n_s
      · rw [if_pos l, if_pos (show v_s < n_s + 1 by omega)]
        omega
      · rw [if_neg l, if_neg (show ¬ v_s < n_s + 1 by omega)]
        omega
