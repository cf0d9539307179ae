/-! NUMBERS that are told, undone, done again: what is there, what it may become. -/
def isT (nh ni nr : Nat) (n_s w_s : Int) : Prop := ((0 ≤ w_s ∧ w_s ≤ 1) ∧ 0 ≤ n_s ∧ n_s < (nh : Int)) ∨ (((2 ≤ w_s ∧ w_s ≤ 8) ∨ w_s = 14) ∧ 0 ≤ n_s ∧ n_s < (ni : Int)) ∨ ((9 ≤ w_s ∧ w_s ≤ 13) ∧ 0 ≤ n_s ∧ n_s < (nr : Int))
def isV (nh ni nr : Nat) (n_s w_s : Int) : Prop := ((0 ≤ w_s ∧ w_s ≤ 1) ∧ 0 ≤ n_s ∧ n_s < (nh : Int)) ∨ ((2 ≤ w_s ∧ w_s ≤ 8) ∧ 0 ≤ n_s ∧ n_s < (ni : Int)) ∨ ((9 ≤ w_s ∧ w_s ≤ 11) ∧ 0 ≤ n_s ∧ n_s < (nr : Int))
def vCI (nh : Nat) (w_s v_s : Int) : Prop := ((w_s = 0 ∨ w_s = 3) ∧ 0 ≤ v_s ∧ v_s ≤ 5) ∨ (w_s = 1 ∧ 0 ≤ v_s ∧ v_s ≤ 12) ∨ (w_s = 2 ∧ 0 ≤ v_s ∧ v_s ≤ 3) ∨ (w_s = 4 ∧ 0 ≤ v_s ∧ v_s ≤ 99) ∨ ((w_s = 5 ∨ w_s = 7 ∨ w_s = 10) ∧ 0 ≤ v_s ∧ v_s ≤ 9) ∨ (w_s = 6 ∧ 0 ≤ v_s ∧ v_s ≤ 1) ∨ (w_s = 8 ∧ -1 ≤ v_s ∧ v_s < (nh : Int)) ∨ (w_s = 9 ∧ 1 ≤ v_s ∧ v_s ≤ 9) ∨ (w_s = 11 ∧ 0 ≤ v_s ∧ v_s ≤ 2)
def valC (f_s : Nat → Nat → Int32) (n_s w_s : Nat) : Int32 := if w_s < 12 then f_s (cO n_s w_s) (cF n_s w_s) else if w_s = 12 then f_s (28 + n_s) 0 else if w_s = 13 then f_s (28 + n_s) 1 else 9 - f_s (20 + n_s) 2 / 11
theorem isV_N {nh ni nr : Nat} {n_s w_s : Int} (h_s : isV nh ni nr n_s w_s) : ∃ n1_s w1_s : Nat, n_s = (n1_s : Int) ∧ w_s = (w1_s : Int) ∧ w1_s < 12 ∧ okN nh ni nr n1_s w1_s := by
  unfold isV at h_s
  refine ⟨n_s.toNat, w_s.toNat, by omega, by omega, by omega, ?_⟩
  unfold okN
  by_cases a_s : w_s.toNat < 2
  · rw [if_pos a_s]
    omega
  · rw [if_neg a_s]
    by_cases b_s : w_s.toNat < 9
    · rw [if_pos b_s]
      omega
    · rw [if_neg b_s]
      omega
theorem isV_T {nh ni nr : Nat} {n_s w_s : Int} : isV nh ni nr n_s w_s ↔ isT nh ni nr n_s w_s ∧ w_s ≤ 11 := by
  unfold isV isT
  omega
theorem vCI_B {nh nr n_s w_s : Nat} {v_s : Int} (h_s : vCI nh (w_s : Int) v_s) : vB nh nr n_s w_s v_s := by
  unfold vCI at h_s
  have hw : w_s = 0 ∨ w_s = 1 ∨ w_s = 2 ∨ w_s = 3 ∨ w_s = 4 ∨ w_s = 5 ∨ w_s = 6 ∨ w_s = 7 ∨ w_s = 8 ∨ w_s = 9 ∨ w_s = 10 ∨ w_s = 11 := by omega
  rcases hw with e_s | e_s | e_s | e_s | e_s | e_s | e_s | e_s | e_s | e_s | e_s | e_s
  · subst e_s
    exact ⟨by omega, show v_s ≤ 5 by omega, fun e9_s => absurd e9_s (by omega)⟩
  · subst e_s
    exact ⟨by omega, show v_s ≤ 12 by omega, fun e9_s => absurd e9_s (by omega)⟩
  · subst e_s
    exact ⟨by omega, show v_s ≤ 3 by omega, fun e9_s => absurd e9_s (by omega)⟩
  · subst e_s
    exact ⟨by omega, show v_s ≤ 5 by omega, fun e9_s => absurd e9_s (by omega)⟩
  · subst e_s
    exact ⟨by omega, show v_s ≤ 99 by omega, fun e9_s => absurd e9_s (by omega)⟩
  · subst e_s
    exact ⟨by omega, show v_s ≤ 9 by omega, fun e9_s => absurd e9_s (by omega)⟩
  · subst e_s
    exact ⟨by omega, show v_s ≤ 1 by omega, fun e9_s => absurd e9_s (by omega)⟩
  · subst e_s
    exact ⟨by omega, show v_s ≤ 9 by omega, fun e9_s => absurd e9_s (by omega)⟩
  · subst e_s
    exact ⟨by omega, by omega⟩
  · subst e_s
    exact ⟨by omega, show v_s ≤ 9 by omega, fun _ _ => by omega⟩
  · subst e_s
    exact ⟨by omega, show v_s ≤ 9 by omega, fun e9_s => absurd e9_s (by omega)⟩
  · subst e_s
    exact ⟨by omega, show v_s ≤ 2 by omega, fun e9_s => absurd e9_s (by omega)⟩
section M6_s
variable {F_s : Nat} {h_s : zH} {K_s : Int32 → zH → Prop} {V : zH → Prop} {nh ni nr n_s w_s : Nat} {x1_s x2_s x3 : Int32} {f_s : Nat → Nat → Int32}
theorem sp_18 (hk : hKn h_s) (c6_s : (f_s 7 6).toInt = (nh : Int)) (c7_s : (f_s 7 7).toInt = (ni : Int)) (c8_s : (f_s 7 8).toInt = (nr : Int)) (t1_s : isT nh ni nr x1_s.toInt x2_s.toInt → K_s 1 (h_s.1, f_s, h_s.2.2.1, h_s.2.2.2)) (t0_s : ¬ isT nh ni nr x1_s.toInt x2_s.toInt → K_s 0 (h_s.1, f_s, h_s.2.2.1, h_s.2.2.2)) : wF F_s 18 (0, [some (.ref 7), some (.int x1_s), some (.int x2_s)], [], (h_s.1, f_s, h_s.2.2.1, h_s.2.2.2)) (gI K_s) := by
  refine wF_le (Nat.le_succ F_s) (sg_18_0 (h_s := (h_s.1, f_s, h_s.2.2.1, h_s.2.2.2)) hk ?_)
  dsimp only
  rw [c6_s, c7_s, c8_s]
  unfold isT at t0_s t1_s
  refine ⟨fun c1_s => ?_, fun c1_s => ⟨fun c2_s => ?_, fun c2_s => ⟨fun c3_s => ⟨fun c4_s => ⟨fun c5_s => ⟨fun c6_s => ?_, fun c6_s => ⟨fun c7_s => ?_, fun c7_s => ?_⟩⟩, fun c5_s => ⟨fun c8_s => ?_, fun c8_s => ⟨fun c9_s => ?_, fun c9_s => ?_⟩⟩⟩, fun c4_s => ⟨fun c10_s => ?_, fun c10_s => ⟨fun c11_s => ?_, fun c11_s => ?_⟩⟩⟩, fun c3_s => ⟨fun c12_s => ?_, fun c12_s => ⟨fun c13_s => ?_, fun c13_s => ?_⟩⟩⟩⟩⟩
  all_goals first | exact t0_s (by omega) | exact t1_s (by omega)
theorem sp_19 (hk : hKn h_s) (c6' : (f_s 7 6).toInt = (nh : Int)) (hz : tZ f_s) (t1_s : vCI nh x1_s.toInt x2_s.toInt → K_s 1 (h_s.1, f_s, h_s.2.2.1, h_s.2.2.2)) (t0_s : ¬ vCI nh x1_s.toInt x2_s.toInt → K_s 0 (h_s.1, f_s, h_s.2.2.1, h_s.2.2.2)) : wF F_s 19 (0, [some (.ref 7), some (.int x1_s), some (.int x2_s), none], [], (h_s.1, f_s, h_s.2.2.1, h_s.2.2.2)) (gI K_s) := by
  refine wF_le (Nat.le_succ F_s) (sg_19_0 (h_s := (h_s.1, f_s, h_s.2.2.1, h_s.2.2.2)) hk ?_)
  dsimp only
  rw [sb1 c6']
  by_cases b_s : 0 ≤ x1_s.toInt ∧ x1_s.toInt ≤ 11
  · have z_s := azix (i := x1_s) b_s.1
    have hz1 := hz.1 (zix x1_s) (by omega)
    rw [hz1.1, hz1.2]
    generalize zix x1_s = w_s at z_s
    have tb_s : ∀ lo_s hi_s : Int, lsW w_s = lo_s → msW w_s = hi_s → (w_s ≠ 8 → (vCI nh x1_s.toInt x2_s.toInt ↔ lo_s ≤ x2_s.toInt ∧ x2_s.toInt ≤ hi_s)) ∧ (w_s = 8 → (vCI nh x1_s.toInt x2_s.toInt ↔ lo_s ≤ x2_s.toInt ∧ x2_s.toInt < (nh : Int))) := by
      intro lo_s hi_s hl hh
      subst hl
      subst hh
      rw [← z_s]
      unfold vCI
      have hw : w_s = 0 ∨ w_s = 1 ∨ w_s = 2 ∨ w_s = 3 ∨ w_s = 4 ∨ w_s = 5 ∨ w_s = 6 ∨ w_s = 7 ∨ w_s = 8 ∨ w_s = 9 ∨ w_s = 10 ∨ w_s = 11 := by omega
      rcases hw with e_s | e_s | e_s | e_s | e_s | e_s | e_s | e_s | e_s | e_s | e_s | e_s <;> (subst e_s; refine ⟨fun e8 => ?_, fun e8 => ?_⟩ <;> first | (exact absurd e8 (by decide)) | (exact absurd rfl e8) | (show _ ↔ (0 : Int) ≤ x2_s.toInt ∧ x2_s.toInt ≤ 5; omega) | (show _ ↔ (0 : Int) ≤ x2_s.toInt ∧ x2_s.toInt ≤ 12; omega) | (show _ ↔ (0 : Int) ≤ x2_s.toInt ∧ x2_s.toInt ≤ 3; omega) | (show _ ↔ (0 : Int) ≤ x2_s.toInt ∧ x2_s.toInt ≤ 99; omega) | (show _ ↔ (0 : Int) ≤ x2_s.toInt ∧ x2_s.toInt ≤ 9; omega) | (show _ ↔ (0 : Int) ≤ x2_s.toInt ∧ x2_s.toInt ≤ 1; omega) | (show _ ↔ (1 : Int) ≤ x2_s.toInt ∧ x2_s.toInt ≤ 9; omega) | (show _ ↔ (0 : Int) ≤ x2_s.toInt ∧ x2_s.toInt ≤ 2; omega) | (show _ ↔ (-1 : Int) ≤ x2_s.toInt ∧ x2_s.toInt < (nh : Int); omega))
    obtain ⟨tn_s, t8⟩ := tb_s _ _ rfl rfl
    generalize lsW w_s = lo_s at tn_s t8
    generalize msW w_s = hi_s at tn_s t8
    refine ⟨fun c_s => absurd c_s (by omega), fun _ => ⟨fun c_s => absurd c_s (by omega), fun _ => ⟨fun c3_s _ => ?_, fun c3_s _ => ?_⟩⟩⟩
    · have t8 := t8 (by omega)
      refine ⟨fun c_s => t0_s (fun q_s => ?_), fun c1_s => ⟨fun c_s => t0_s (fun q_s => ?_), fun c2_s => t1_s (t8.mpr (by omega))⟩⟩
      · have := t8.mp q_s
        omega
      · have := t8.mp q_s
        omega
    · have tn_s := tn_s (by omega)
      refine ⟨fun c_s => t0_s (fun q_s => ?_), fun c1_s => ⟨fun c_s => t0_s (fun q_s => ?_), fun c2_s => t1_s (tn_s.mpr (by omega))⟩⟩
      · have := tn_s.mp q_s
        omega
      · have := tn_s.mp q_s
        omega
  · have no_s : ¬ vCI nh x1_s.toInt x2_s.toInt := fun q_s => by
      unfold vCI at q_s
      omega
    exact ⟨fun _ => t0_s no_s, fun c1_s => ⟨fun _ => t0_s no_s, fun c2_s => absurd (show 0 ≤ x1_s.toInt ∧ x1_s.toInt ≤ 11 by omega) b_s⟩⟩
theorem sp_20 (hk : hKn h_s) (c6_s : (f_s 7 6).toInt = (nh : Int)) (c7_s : (f_s 7 7).toInt = (ni : Int)) (c8_s : (f_s 7 8).toInt = (nr : Int)) (t0_s : ¬ isT nh ni nr x1_s.toInt x2_s.toInt → K_s (-2000000000) (h_s.1, f_s, h_s.2.2.1, h_s.2.2.2)) (t1_s : isT nh ni nr x1_s.toInt x2_s.toInt → ∀ n_s w_s : Nat, x1_s.toInt = (n_s : Int) → x2_s.toInt = (w_s : Int) → K_s (valC f_s n_s w_s) (h_s.1, f_s, h_s.2.2.1, h_s.2.2.2)) : wF F_s 20 (0, [some (.ref 7), some (.int x1_s), some (.int x2_s)], [], (h_s.1, f_s, h_s.2.2.1, h_s.2.2.2)) (gI K_s) := by
  refine wF_le (Nat.le_succ F_s) (sg_20_0 (h_s := (h_s.1, f_s, h_s.2.2.1, h_s.2.2.2)) hk ?_)
  refine sp_18 hk c6_s c7_s c8_s (fun q_s _ => ⟨fun c_s => absurd c_s (by decide), fun _ => ?_⟩) (fun q_s _ => ⟨fun _ => t0_s q_s, fun c_s => absurd rfl c_s⟩)
  have b_s : 0 ≤ x1_s.toInt ∧ 0 ≤ x2_s.toInt ∧ x2_s.toInt ≤ 14 := by
    unfold isT at q_s
    omega
  have z_s := azix (i := x1_s) b_s.1
  have t1_s := t1_s q_s (zix x1_s)
  generalize zix x1_s = n_s at z_s t1_s
  have go_s : ∀ w_s : Nat, x2_s.toInt = (w_s : Int) → K_s (valC f_s n_s w_s) (h_s.1, f_s, h_s.2.2.1, h_s.2.2.2) := fun w_s e_s => t1_s w_s z_s.symm e_s
  dsimp only
  exact ⟨fun c0_s => fun _ => go_s 0 c0_s, fun c0_s => ⟨fun c1_s => fun _ => go_s 1 c1_s, fun c1_s => ⟨fun c2_s => fun _ => go_s 2 c2_s, fun c2_s => ⟨fun c3_s => fun _ => go_s 3 c3_s, fun c3_s => ⟨fun c4_s => fun _ => go_s 4 c4_s, fun c4_s => ⟨fun c5_s => fun _ => go_s 5 c5_s, fun c5_s => ⟨fun c6_s => fun _ => go_s 6 c6_s, fun c6_s => ⟨fun c7_s => fun _ => go_s 7 c7_s, fun c7_s => ⟨fun c8_s => fun _ => go_s 8 c8_s, fun c8_s => ⟨fun c9_s => fun _ => go_s 9 c9_s, fun c9_s => ⟨fun c10_s => fun _ => go_s 10 c10_s, fun c10_s => ⟨fun c11_s => fun _ => go_s 11 c11_s, fun c11_s => ⟨fun c12_s => fun _ => go_s 12 c12_s, fun c12_s => ⟨fun c13_s => fun _ => go_s 13 c13_s, fun c13_s => ⟨fun c14_s => fun _ => go_s 14 c14_s, fun c14_s => absurd b_s (by omega)⟩⟩⟩⟩⟩⟩⟩⟩⟩⟩⟩⟩⟩⟩⟩
theorem sp_21 (hk : hKn h_s) (c6_s : (f_s 7 6).toInt = (nh : Int)) (c7_s : (f_s 7 7).toInt = (ni : Int)) (c8_s : (f_s 7 8).toInt = (nr : Int)) (q_s : isV nh ni nr x1_s.toInt x2_s.toInt) (t_s : ∀ n_s w_s : Nat, x1_s.toInt = (n_s : Int) → x2_s.toInt = (w_s : Int) → V (h_s.1, zup f_s (cO n_s w_s) (cF n_s w_s) x3, h_s.2.2.1, h_s.2.2.2)) : wF F_s 21 (0, [some (.ref 7), some (.int x1_s), some (.int x2_s), some (.int x3)], [], (h_s.1, f_s, h_s.2.2.1, h_s.2.2.2)) (gV V) := by
  refine wF_le (Nat.le_succ F_s) (sg_21_0 (h_s := (h_s.1, f_s, h_s.2.2.1, h_s.2.2.2)) hk ?_)
  refine sp_18 hk c6_s c7_s c8_s (fun _ _ => ⟨fun c_s => absurd c_s (by decide), fun _ => ?_⟩) (fun p_s _ => absurd (isV_T.mp q_s).1 p_s)
  have b_s : 0 ≤ x1_s.toInt ∧ 0 ≤ x2_s.toInt ∧ x2_s.toInt ≤ 11 := by
    unfold isV at q_s
    omega
  have z_s := azix (i := x1_s) b_s.1
  have t_s := t_s (zix x1_s)
  generalize zix x1_s = n_s at z_s t_s
  have go_s : ∀ w_s : Nat, x2_s.toInt = (w_s : Int) → V (h_s.1, zup f_s (cO n_s w_s) (cF n_s w_s) x3, h_s.2.2.1, h_s.2.2.2) := fun w_s e_s => t_s w_s z_s.symm e_s
  dsimp only
  exact ⟨fun c0_s => fun _ => go_s 0 c0_s, fun c0_s => ⟨fun c1_s => fun _ => go_s 1 c1_s, fun c1_s => ⟨fun c2_s => fun _ => go_s 2 c2_s, fun c2_s => ⟨fun c3_s => fun _ => go_s 3 c3_s, fun c3_s => ⟨fun c4_s => fun _ => go_s 4 c4_s, fun c4_s => ⟨fun c5_s => fun _ => go_s 5 c5_s, fun c5_s => ⟨fun c6_s => fun _ => go_s 6 c6_s, fun c6_s => ⟨fun c7_s => fun _ => go_s 7 c7_s, fun c7_s => ⟨fun c8_s => fun _ => go_s 8 c8_s, fun c8_s => ⟨fun c9_s => fun _ => go_s 9 c9_s, fun c9_s => ⟨fun c10_s => fun _ => go_s 10 c10_s, fun c10_s => ⟨fun c11_s => fun _ => go_s 11 c11_s, fun c11_s => absurd b_s (by omega)⟩⟩⟩⟩⟩⟩⟩⟩⟩⟩⟩⟩
theorem i68p {n_s w_s : Nat} (e1_s : x1_s.toInt = (n_s : Int)) (e2_s : x2_s.toInt = (w_s : Int)) (hw : 9 ≤ w_s ∧ w_s ≤ 11) (hn : n_s < 12) : (68 + 12 * (x2_s - 9) + x1_s).toInt = ((68 + 12 * (w_s - 9) + n_s : Nat) : Int) := by
  have a1_s : (x2_s - 9).toInt = (w_s : Int) - 9 := by rw [sub_i (by omega) (by decide), i9_, e2_s]
  have a2 : (12 * (x2_s - 9)).toInt = 12 * ((w_s : Int) - 9) := by rw [na_mul (by rw [i12_]; omega) (by rw [i12_]; omega), i12_, a1_s]
  have a3 : (68 + 12 * (x2_s - 9)).toInt = 68 + 12 * ((w_s : Int) - 9) := by rw [na_add (by rw [i68_]; omega) (by rw [i68_]; omega), i68_, a2]
  rw [na_add (by omega) (by omega), a3, e1_s]
  omega
theorem i12p {n_s w_s : Nat} (e1_s : x1_s.toInt = (n_s : Int)) (e2_s : x2_s.toInt = (w_s : Int)) (hw : 2 ≤ w_s ∧ w_s ≤ 8) (hn : n_s < 12) : (12 + 8 * (x2_s - 2) + x1_s).toInt = ((12 + 8 * (w_s - 2) + n_s : Nat) : Int) := by
  have a1_s : (x2_s - 2).toInt = (w_s : Int) - 2 := by rw [sub_i (by omega) (by decide), i2_, e2_s]
  have a2 : (8 * (x2_s - 2)).toInt = 8 * ((w_s : Int) - 2) := by rw [na_mul (by rw [i8_]; omega) (by rw [i8_]; omega), i8_, a1_s]
  have a3 : (12 + 8 * (x2_s - 2)).toInt = 12 + 8 * ((w_s : Int) - 2) := by rw [na_add (by rw [i12_]; omega) (by rw [i12_]; omega), i12_, a2]
  rw [na_add (by omega) (by omega), a3, e1_s]
  omega
theorem i6_ : (6 : Int32).toInt = 6 := rfl
theorem i6p {n_s w_s : Nat} (e1_s : x1_s.toInt = (n_s : Int)) (e2_s : x2_s.toInt = (w_s : Int)) (hw : w_s ≤ 1) (hn : n_s < 12) : (6 * x2_s + x1_s).toInt = ((6 * w_s + n_s : Nat) : Int) := by
  have a2 : (6 * x2_s).toInt = 6 * (w_s : Int) := by rw [na_mul (by rw [i6_]; omega) (by rw [i6_]; omega), i6_, e2_s]
  rw [na_add (by omega) (by omega), a2, e1_s]
  omega
/-- placeOf -/
theorem sp_161 (hk : hKn h_s) (b_s : nh ≤ 6 ∧ ni ≤ 8 ∧ nr ≤ 12) (c6_s : (f_s 102 6).toInt = (nh : Int)) (c7_s : (f_s 102 7).toInt = (ni : Int)) (c8_s : (f_s 102 8).toInt = (nr : Int)) (t0_s : ¬ isV nh ni nr x1_s.toInt x2_s.toInt → K_s (-1) (h_s.1, f_s, h_s.2.2.1, h_s.2.2.2)) (t1_s : isV nh ni nr x1_s.toInt x2_s.toInt → ∀ (n_s w_s : Nat) (v_s : Int32), x1_s.toInt = (n_s : Int) → x2_s.toInt = (w_s : Int) → v_s.toInt = (plc n_s w_s : Int) → K_s v_s (h_s.1, f_s, h_s.2.2.1, h_s.2.2.2)) : wF F_s 161 (0, [some (.ref 102), some (.int x1_s), some (.int x2_s)], [], (h_s.1, f_s, h_s.2.2.1, h_s.2.2.2)) (gI K_s) := by
  refine wF_le (Nat.le_succ F_s) (sg_161_0 (h_s := (h_s.1, f_s, h_s.2.2.1, h_s.2.2.2)) hk ?_)
  dsimp only
  rw [sb1 c6_s, sb1 c7_s, sb1 c8_s]
  have g68 : 0 ≤ x1_s.toInt → x1_s.toInt < (nr : Int) → 9 ≤ x2_s.toInt → x2_s.toInt ≤ 11 → K_s (68 + 12 * (x2_s - 9) + x1_s) (h_s.1, f_s, h_s.2.2.1, h_s.2.2.2) := fun q1_s q2_s q3_s q4_s => by
    have e1_s : x1_s.toInt = (x1_s.toInt.toNat : Int) := by omega
    have e2_s : x2_s.toInt = (x2_s.toInt.toNat : Int) := by omega
    refine t1_s (by unfold isV; omega) _ _ _ e1_s e2_s ?_
    rw [plc_r (by omega)]
    exact i68p e1_s e2_s (by omega) (by omega)
  have g12 : 0 ≤ x1_s.toInt → x1_s.toInt < (ni : Int) → 2 ≤ x2_s.toInt → x2_s.toInt ≤ 8 → K_s (12 + 8 * (x2_s - 2) + x1_s) (h_s.1, f_s, h_s.2.2.1, h_s.2.2.2) := fun q1_s q2_s q3_s q4_s => by
    have e1_s : x1_s.toInt = (x1_s.toInt.toNat : Int) := by omega
    have e2_s : x2_s.toInt = (x2_s.toInt.toNat : Int) := by omega
    refine t1_s (by unfold isV; omega) _ _ _ e1_s e2_s ?_
    rw [plc_i (by omega) (by omega)]
    exact i12p e1_s e2_s (by omega) (by omega)
  have g6 : 0 ≤ x1_s.toInt → x1_s.toInt < (nh : Int) → 0 ≤ x2_s.toInt → x2_s.toInt ≤ 1 → K_s (6 * x2_s + x1_s) (h_s.1, f_s, h_s.2.2.1, h_s.2.2.2) := fun q1_s q2_s q3_s q4_s => by
    have e1_s : x1_s.toInt = (x1_s.toInt.toNat : Int) := by omega
    have e2_s : x2_s.toInt = (x2_s.toInt.toNat : Int) := by omega
    refine t1_s (by unfold isV; omega) _ _ _ e1_s e2_s ?_
    rw [plc_h (by omega)]
    exact i6p e1_s e2_s (by omega) (by omega)
  unfold isV at t0_s
  refine ⟨fun c1_s => ⟨fun c2_s => ⟨fun c3_s => ?_, fun c3_s => ⟨fun c4_s => ?_, fun c4_s => ⟨fun c5_s => ?_, fun c5_s => ⟨fun c6_s => ?_, fun c6_s => ?_⟩⟩⟩⟩, fun c2_s => ⟨fun c7_s => ⟨fun c8_s => ?_, fun c8_s => ⟨fun c9_s => ?_, fun c9_s => ⟨fun c10_s => ?_, fun c10_s => ⟨fun c11_s => ?_, fun c11_s => ?_⟩⟩⟩⟩, fun c7_s => ⟨fun c12_s => ?_, fun c12_s => ⟨fun c13_s => ?_, fun c13_s => ?_⟩⟩⟩⟩, fun c1_s => ⟨fun c14_s => ⟨fun c15_s => ⟨fun c16 => ?_, fun c16 => ⟨fun c17 => ?_, fun c17 => ⟨fun c18_s => ?_, fun c18_s => ⟨fun c19_s => ?_, fun c19_s => ?_⟩⟩⟩⟩, fun c15_s => ⟨fun c20_s => ⟨fun c21 => ?_, fun c21 => ⟨fun c22 => ?_, fun c22 => ⟨fun c23_s => ?_, fun c23_s => ⟨fun c24_s => ?_, fun c24_s => ?_⟩⟩⟩⟩, fun c20_s => ⟨fun c25_s => ?_, fun c25_s => ⟨fun c26 => ?_, fun c26 => ?_⟩⟩⟩⟩, fun c14_s => ⟨fun c27_s => ?_, fun c27_s => ⟨fun c28_s => ?_, fun c28_s => ?_⟩⟩⟩⟩
  all_goals first | exact t0_s (by omega) | exact g68 (by omega) (by omega) (by omega) (by omega) | exact g12 (by omega) (by omega) (by omega) (by omega) | exact g6 (by omega) (by omega) (by omega) (by omega)
/-- mayBecome -/
theorem sp_162 (hk : hKn h_s) (c6_s : (f_s 102 6).toInt = (nh : Int)) (hx : 0 ≤ x1_s.toInt ∧ x1_s.toInt ≤ 11) (t1_s : vCI nh x1_s.toInt x2_s.toInt → K_s 1 (h_s.1, f_s, h_s.2.2.1, h_s.2.2.2)) (t0_s : ¬ vCI nh x1_s.toInt x2_s.toInt → K_s 0 (h_s.1, f_s, h_s.2.2.1, h_s.2.2.2)) : wF F_s 162 (0, [some (.ref 102), some (.int x1_s), some (.int x2_s)], [], (h_s.1, f_s, h_s.2.2.1, h_s.2.2.2)) (gI K_s) := by
  refine wF_le (Nat.le_succ F_s) (sg_162_0 (h_s := (h_s.1, f_s, h_s.2.2.1, h_s.2.2.2)) hk ?_)
  dsimp only
  rw [sb1 c6_s]
  unfold vCI at t0_s t1_s
  refine ⟨fun c1_s => ⟨fun c2_s => ?_, fun c2_s => ⟨fun c3_s => ?_, fun c3_s => ?_⟩⟩, fun c1_s => ⟨fun c4_s => ⟨fun c5_s => ?_, fun c5_s => ⟨fun c6_s => ?_, fun c6_s => ?_⟩⟩, fun c4_s => ⟨fun c7_s => ⟨fun c8_s => ?_, fun c8_s => ⟨fun c9_s => ?_, fun c9_s => ?_⟩⟩, fun c7_s => ⟨fun c10_s => ⟨fun c11_s => ?_, fun c11_s => ⟨fun c12_s => ?_, fun c12_s => ?_⟩⟩, fun c10_s => ⟨fun c13_s => ⟨fun c14_s => ?_, fun c14_s => ⟨fun c15_s => ?_, fun c15_s => ?_⟩⟩, fun c13_s => ⟨fun c16 => ⟨fun c17 => ?_, fun c17 => ⟨fun c18_s => ?_, fun c18_s => ?_⟩⟩, fun c16 => ⟨fun c19_s => ⟨fun c20_s => ?_, fun c20_s => ⟨fun c21 => ?_, fun c21 => ?_⟩⟩, fun c19_s => ⟨fun c22 => ⟨fun c23_s => ?_, fun c23_s => ⟨fun c24_s => ?_, fun c24_s => ?_⟩⟩, fun c22 => ⟨fun c25_s => ⟨fun c26 => ?_, fun c26 => ⟨fun c27_s => ?_, fun c27_s => ⟨fun c28_s => ?_, fun c28_s => ?_⟩⟩⟩, fun c25_s => ⟨fun c29_s => ⟨fun c30_s => ?_, fun c30_s => ⟨fun c31_s => ?_, fun c31_s => ?_⟩⟩, fun c29_s => ⟨fun c32_s => ⟨fun c33_s => ?_, fun c33_s => ⟨fun c34_s => ?_, fun c34_s => ?_⟩⟩, fun c32_s => ⟨fun c35_s => ⟨fun c36_s => ?_, fun c36_s => ⟨fun c37 => ?_, fun c37 => ?_⟩⟩, fun c35_s => ⟨fun c38 => ?_, fun c38 => ⟨fun c39_s => ?_, fun c39_s => ?_⟩⟩⟩⟩⟩⟩⟩⟩⟩⟩⟩⟩⟩⟩
  all_goals first | exact t0_s (by omega) | exact t1_s (by omega)
end M6_s
