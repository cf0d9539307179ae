/-! A JOURNEY gone: class and reference. -/
def gI32 (k_s : Nat) : Int32 := Int32.ofInt (k_s : Int)
theorem gI_of {v_s : Int32} {k_s : Nat} (e_s : v_s.toInt = (k_s : Int)) : v_s = gI32 k_s := by
  unfold gI32
  rw [← e_s, Int32.ofInt_toInt]
def jrn (go_s : oI → Nat → Nat × Bool × oI) : Nat → Nat → Int32 → oI → Int32 × Nat × oI × Bool
  | 0, n_s, m_s, o => (m_s, n_s, o, true)
  | d_s + 1, n_s, m_s, o => if (go_s o n_s).2.1 = true then jrn go_s d_s (n_s + 1) (m_s + gI32 (go_s o n_s).1) (go_s o n_s).2.2 else (m_s + gI32 (go_s o n_s).1, n_s, (go_s o n_s).2.2, false)
section JN
variable {go_s : oI → Nat → Nat × Bool × oI} {d_s n_s : Nat} {m_s : Int32} {o : oI}
theorem jr_yes (h_s : (go_s o n_s).2.1 = true) : jrn go_s (d_s + 1) n_s m_s o = jrn go_s d_s (n_s + 1) (m_s + gI32 (go_s o n_s).1) (go_s o n_s).2.2 := if_pos h_s
theorem jr_no (h_s : ¬ (go_s o n_s).2.1 = true) : jrn go_s (d_s + 1) n_s m_s o = (m_s + gI32 (go_s o n_s).1, n_s, (go_s o n_s).2.2, false) := if_neg h_s
end JN
theorem jr_all {go_s : oI → Nat → Nat × Bool × oI} : ∀ (d_s n_s : Nat) (m_s : Int32) (o : oI), ((jrn go_s d_s n_s m_s o).2.2.2 = true → (jrn go_s d_s n_s m_s o).2.1 = n_s + d_s) ∧ (¬ (jrn go_s d_s n_s m_s o).2.2.2 = true → (jrn go_s d_s n_s m_s o).2.1 < n_s + d_s)
  | 0, n_s, m_s, o => ⟨fun _ => rfl, fun h_s => absurd rfl h_s⟩
  | d_s + 1, n_s, m_s, o => by
    by_cases c_s : (go_s o n_s).2.1 = true
    · rw [jr_yes c_s]
      have ih_s := jr_all (go_s := go_s) d_s (n_s + 1) (m_s + gI32 (go_s o n_s).1) (go_s o n_s).2.2
      exact ⟨fun w_s => by have := ih_s.1 w_s; omega, fun w_s => by have := ih_s.2 w_s; omega⟩
    · rw [jr_no c_s]
      exact ⟨fun w_s => absurd (show false = true from w_s) (by decide), fun _ => by show n_s < n_s + (d_s + 1); omega⟩
section JG_s
variable {h_s : zH} {K_s : Int32 → zH → Prop} {V : zH → Prop} {nh ni nr q_s L_s : Nat} {lw : Option (List pB)} {x1_s x2_s x3 : Int32} {f0_s : Nat → Nat → Int32} {c_s : Nat → Int64} {R_s : Int32 × Nat × oI × Bool}
theorem ag49 (hk : hKn h_s) (hr9 : h_s.2.2.2 7 9 = some q_s) (hm_s : q_s = 14 ∨ q_s = 17) (hl : lawC q_s f0_s lw) (hp : lwP lw) (hc_s : tC nh ni nr f0_s) (hL : L_s ≤ 20) (eL : (f0_s 50 1).toInt = (L_s : Int)) (es : ∀ k_s, k_s < L_s → f0_s 51 k_s = (c_s k_s).toInt32) (ok_s : ∀ k_s, k_s < L_s → okK nr (c_s k_s)) (t_s : ∀ v_s f1_s, v_s.toInt = (if R_s.2.2.2 = true then 1 else 0) → f1_s 50 2 = R_s.1 → (f1_s 50 3).toInt = (R_s.2.1 : Int) → (∀ k_s, k_s < 6 → f1_s 88 k_s = R_s.2.2.1 k_s) → frJ f0_s f1_s → K_s v_s (h_s.1, f1_s, h_s.2.2.1, h_s.2.2.2)) : ∀ (F_s n_s d_s : Nat) (x3 m_s : Int32) (f_s : Nat → Nat → Int32) (o : oI), frJ f0_s f_s → cwO f_s 88 o → oB o → x3.toInt = (n_s : Int) → n_s + d_s = L_s → f_s 50 2 = m_s → (f_s 50 3).toInt = (n_s : Int) → jrn (goJ lw f0_s c_s) d_s n_s m_s o = R_s → wF F_s 49 (12, [some (.ref 50), some (.ref 88), some (.ref 7), some (.int x3)], [], (h_s.1, f_s, h_s.2.2.1, h_s.2.2.2)) (gI K_s)
  | 0, _, _, _, _, _, _, _, _, _, _, _, _, _, _ => wF_zero
  | F_s + 1, n_s, d_s, x3, m_s, f_s, o, g_s, hcw, hB_s, e3_s, ed, em, ee, hR => by
    have e50 : f_s 50 1 = f0_s 50 1 := g_s _ _ (by omega) (by omega) (by omega) (by omega) (by omega)
    have b_s := hc_s.1
    refine sg_49_12 (h_s := (h_s.1, f_s, h_s.2.2.1, h_s.2.2.2)) hk ?_
    dsimp only
    rw [e50, eL, e3_s]
    match d_s, ed, hR with
    | 0, ed, hR =>
      refine ⟨fun c1_s => absurd c1_s (by omega), fun _ => t_s 1 f_s ?_ ?_ ?_ ?_ g_s⟩
      · rw [← hR]
        rfl
      · rw [← hR]
        exact em
      · rw [← hR]
        exact ee
      · rw [← hR]
        exact hcw.1
    | d_s + 1, ed, hR =>
      refine ⟨fun c1_s => ?_, fun c1_s => absurd c1_s (by omega)⟩
      have ko := ok_s n_s (by omega)
      have t3_s := t32_ (x_s := c_s n_s) ko.1 (by have := ko.2; omega)
      have e51 : (f_s 51 n_s).toInt = (((c_s n_s).toInt.toNat : Nat) : Int) := by
        rw [g_s _ _ (by omega) (by omega) (by omega) (by omega) (by omega), es n_s (by omega), t3_s]
        have := ko.1
        omega
      have hc1 : tC nh ni nr f_s := tC_fr (fun a_s k_s w_s => g_s a_s k_s (by unfold inC at w_s; omega) (by unfold inC at w_s; omega) (by unfold inC at w_s; omega) (by unfold inC at w_s; omega) (by unfold inC at w_s; omega)) hc_s
      have l1 : lawC q_s f_s lw := lawC_fr hm_s (fun a_s k_s w_s => g_s a_s k_s (by omega) (by omega) (by omega) (by omega) (by omega)) hl
      have eg : goF lw f_s o (c_s n_s).toInt.toNat = goJ lw f0_s c_s o n_s := goF_fr (fun k_s => g_s 103 k_s (by omega) (by omega) (by omega) (by omega) (by omega))
      refine sp_50 (k_s := n_s) (r_s := (c_s n_s).toInt.toNat) hk hr9 hm_s l1 hp hc1 e3_s e51 (by have := ko.1; have := ko.2; omega) hcw hB_s (fun v_s f1_s g1 g2 g3_s g4 g5_s _ => ?_)
      rw [eg] at g1 g2 g3_s g4
      obtain ⟨gv, gv1, gv2⟩ := g2
      rw [gI_of gv1, em] at gv2
      have hB2 : oB (goJ lw f0_s c_s o n_s).2.2 := go_B hB_s
      have g6 : frJ f0_s f1_s := fun a_s k_s q1_s q2_s q3_s q4_s q5_s => by
        rw [g5_s a_s k_s q1_s q2_s q3_s (by omega) q5_s]
        exact g_s a_s k_s q1_s q2_s q3_s q4_s q5_s
      refine ⟨fun c4_s => ?_, fun c4_s => ?_⟩
      · have no_s : ¬ (goJ lw f0_s c_s o n_s).2.1 = true := fun w_s => by
          rw [if_pos w_s] at g1
          omega
        rw [jr_no no_s] at hR
        refine t_s 0 f1_s ?_ ?_ ?_ ?_ g6
        · rw [← hR]
          rfl
        · rw [← hR]
          exact gv2
        · rw [← hR, g3_s]
          unfold bI_
          rw [if_neg no_s, iadd0]
          exact ee
        · rw [← hR]
          exact g4.1
      · have yes_s : (goJ lw f0_s c_s o n_s).2.1 = true := by
          cases e_s : (goJ lw f0_s c_s o n_s).2.1 with
          | true => rfl
          | false =>
            rw [if_neg (by rw [e_s]; decide)] at g1
            omega
        rw [jr_yes yes_s] at hR
        have e5_s : (x3 + 1).toInt = ((n_s + 1 : Nat) : Int) := by
          rw [in1_ (by omega), e3_s]
          omega
        refine ag49 hk hr9 hm_s hl hp hc_s hL eL es ok_s t_s F_s (n_s + 1) d_s (x3 + 1) _ f1_s _ g6 g4 hB2 e5_s (by omega) gv2 ?_ hR
        rw [g3_s]
        unfold bI_
        rw [if_pos yes_s, in1_ (by omega), ee]
        omega
theorem sp_49 {F_s : Nat} {o : oI} (hk : hKn h_s) (hr9 : h_s.2.2.2 7 9 = some q_s) (hm_s : q_s = 14 ∨ q_s = 17) (hl : lawC q_s f0_s lw) (hp : lwP lw) (hc_s : tC nh ni nr f0_s) (hL : L_s ≤ 20) (eL : (f0_s 50 1).toInt = (L_s : Int)) (es : ∀ k_s, k_s < L_s → f0_s 51 k_s = (c_s k_s).toInt32) (ok_s : ∀ k_s, k_s < L_s → okK nr (c_s k_s)) (hcw : cwO f0_s 88 o) (hB_s : oB o) (t_s : ∀ v_s f1_s, v_s.toInt = (if (jrn (goJ lw f0_s c_s) L_s 0 0 o).2.2.2 = true then 1 else 0) → f1_s 50 2 = (jrn (goJ lw f0_s c_s) L_s 0 0 o).1 → (f1_s 50 3).toInt = ((jrn (goJ lw f0_s c_s) L_s 0 0 o).2.1 : Int) → (∀ k_s, k_s < 6 → f1_s 88 k_s = (jrn (goJ lw f0_s c_s) L_s 0 0 o).2.2.1 k_s) → frJ f0_s f1_s → K_s v_s (h_s.1, f1_s, h_s.2.2.1, h_s.2.2.2)) : wF F_s 49 (0, [some (.ref 50), some (.ref 88), some (.ref 7), none], [], (h_s.1, f0_s, h_s.2.2.1, h_s.2.2.2)) (gI K_s) := by
  refine wF_le (Nat.le_succ F_s) (sg_49_0 (h_s := (h_s.1, f0_s, h_s.2.2.1, h_s.2.2.2)) hk ?_)
  have cw_s : cwO (zup (zup f0_s 50 2 0) 50 3 0) 88 o := by
    refine ⟨fun k_s hk6 => by rw [zne_up (by omega), zne_up (by omega)]; exact hcw.1 k_s hk6, ?_⟩
    have e6_s : zup (zup f0_s 50 2 0) 50 3 0 88 6 = f0_s 88 6 := by rw [zne_up (by omega), zne_up (by omega)]
    have e76 : zup (zup f0_s 50 2 0) 50 3 0 7 6 = f0_s 7 6 := by rw [zne_up (by omega), zne_up (by omega)]
    have e8 : ∀ k_s, zup (zup f0_s 50 2 0) 50 3 0 8 k_s = f0_s 8 k_s := fun k_s => by rw [zne_up (by omega), zne_up (by omega)]
    rw [e6_s, e76, e8]
    exact hcw.2
  refine ag49 (f0_s := f0_s) hk hr9 hm_s hl hp hc_s hL eL es ok_s t_s F_s 0 L_s 0 0 _ o (fun a_s k_s q1_s q2_s q3_s q4_s q5_s => ?_) cw_s hB_s rfl (by omega) ?_ ?_ rfl
  · show zup (zup f0_s 50 2 0) 50 3 0 a_s k_s = f0_s a_s k_s
    rw [zne_up (by omega), zne_up (by omega)]
  · show zup (zup f0_s 50 2 0) 50 3 0 50 2 = 0
    rw [zne_up (by omega), zsame_up]
  · show (zup (zup f0_s 50 2 0) 50 3 0 50 3).toInt = 0
    rw [zsame_up]
    rfl
def frK (f0_s f_s : Nat → Nat → Int32) : Prop := ∀ a_s k_s, ¬ a_s = 111 → ¬ a_s = 112 → ¬ (a_s = 102 ∧ (15 ≤ k_s ∧ k_s ≤ 19 ∨ 22 ≤ k_s ∧ k_s ≤ 25)) → f_s a_s k_s = f0_s a_s k_s
def S12 (h_s : zH) (V : zH → Prop) (f0_s : Nat → Nat → Int32) (lw : Option (List pB)) (c_s : Nat → Int64) (L_s : Nat) (x1_s : Int32) (R_s : Int32 × Nat × oI × Bool) (F_s : Nat) : Prop := ∀ (x2_s : Int32) (n_s d_s : Nat) (f_s : Nat → Nat → Int32) (o : oI), frK f0_s f_s → (∀ k_s, k_s < 7 → f_s 112 k_s = o k_s) → oB o → n_s + d_s = L_s → (f_s 102 25).toInt = (n_s : Int) → (x2_s.toInt = 0 → (f_s 102 24, n_s, o, false) = R_s) → (¬ x2_s.toInt = 0 → jrn (goJ lw f0_s c_s) d_s n_s (f_s 102 24) o = R_s) → wF F_s 188 (12, [some (.ref 102), some (.int x1_s), some (.int x2_s)], [], (h_s.1, f_s, h_s.2.2.1, h_s.2.2.2)) (gV V)
def S65 (h_s : zH) (V : zH → Prop) (f0_s : Nat → Nat → Int32) (lw : Option (List pB)) (c_s : Nat → Int64) (L_s : Nat) (x1_s : Int32) (R_s : Int32 × Nat × oI × Bool) (F_s : Nat) : Prop := ∀ (x2_s : Int32) (n_s d_s : Nat) (f_s : Nat → Nat → Int32) (o : oI), frK f0_s f_s → (∀ k_s, k_s < 7 → f_s 112 k_s = o k_s) → oB o → n_s + d_s + 1 = L_s → (f_s 102 25).toInt = (n_s : Int) → (f_s 102 23).toInt = x2_s.toInt → (x2_s.toInt = 0 → (f_s 102 24, n_s, o, false) = R_s) → (¬ x2_s.toInt = 0 → jrn (goJ lw f0_s c_s) d_s (n_s + 1) (f_s 102 24) o = R_s) → wF F_s 188 (65, [some (.ref 102), some (.int x1_s), some (.int x2_s)], [], (h_s.1, f_s, h_s.2.2.1, h_s.2.2.2)) (gV V)
theorem s65_s {F_s : Nat} (hk : hKn h_s) (hL : L_s ≤ 20) (i1_s : S12 h_s V f0_s lw c_s L_s x1_s R_s F_s) : S65 h_s V f0_s lw c_s L_s x1_s R_s (F_s + 1) := by
  intro x2_s n_s d_s f_s o g_s ho hB_s ed e25_s e23_s h0 h1
  refine sg_188_65 (h_s := (h_s.1, f_s, h_s.2.2.1, h_s.2.2.2)) hk ?_
  dsimp only
  rw [e23_s]
  have fr_s : ∀ v_s, frK f0_s (zup f_s 102 25 v_s) := fun v_s a_s k_s q1_s q2_s q3_s => by
    rw [zne_up (by omega)]
    exact g_s a_s k_s q1_s q2_s q3_s
  have e24_s : ∀ v_s, zup f_s 102 25 v_s 102 24 = f_s 102 24 := fun v_s => zne_up (by omega)
  have o2 : ∀ v_s k_s, k_s < 7 → zup f_s 102 25 v_s 112 k_s = o k_s := fun v_s k_s hk7 => by
    rw [zne_up (by omega)]
    exact ho k_s hk7
  refine ⟨fun c1_s => ?_, fun c1_s => ?_⟩
  · rw [iadd0]
    exact i1_s x2_s n_s (d_s + 1) _ o (fr_s _) (o2 _) hB_s (by omega) (by rw [zsame_up]; exact e25_s) (fun w_s => by rw [e24_s]; exact h0 w_s) (fun w_s => absurd c1_s w_s)
  · refine i1_s x2_s (n_s + 1) d_s _ o (fr_s _) (o2 _) hB_s (by omega) ?_ (fun w_s => absurd w_s c1_s) (fun w_s => by rw [e24_s]; exact h1 w_s)
    rw [zsame_up, in1_ (by omega), e25_s]
    omega
theorem s12_s {F_s s_s : Nat} (hk : hKn h_s) (hc_s : tM nh ni nr f0_s) (hl : lawR f0_s lw) (hp : lwP lw) (d1_s : x1_s.toInt = (s_s : Int)) (hs : s_s < 6) (n0_s : 0 ≤ (f0_s 125 s_s).toInt) (ec : ∀ k_s, c_s k_s = h_s.2.2.1 126 (60 * s_s + k_s)) (hJ : isJ nr c_s (f0_s 125 s_s).toInt L_s) (t_s : ∀ f1_s, f1_s 102 24 = R_s.1 → (f1_s 102 25).toInt = (R_s.2.1 : Int) → (∀ k_s, k_s < 7 → f1_s 112 k_s = R_s.2.2.1 k_s) → frK f0_s f1_s → V (h_s.1, f1_s, h_s.2.2.1, h_s.2.2.2)) (i6_s : S65 h_s V f0_s lw c_s L_s x1_s R_s F_s) : S12 h_s V f0_s lw c_s L_s x1_s R_s (F_s + 1) := by
  intro x2_s n_s d_s f_s o g_s ho hB_s ed e25_s h0 h1
  have b_s := hc_s.1
  have hL := hJ.1
  have z1 := azix (i := x1_s) (by omega)
  have ez1 : zix x1_s = s_s := by omega
  have f125 : ∀ k_s, f_s 125 k_s = f0_s 125 k_s := fun k_s => g_s _ _ (by omega) (by omega) (by omega)
  have c8_s : (f_s 102 8).toInt = (nr : Int) := by
    rw [g_s 102 8 (by omega) (by omega) (by omega)]
    exact hc_s.2.1.2.2
  refine sg_188_12 (h_s := (h_s.1, f_s, h_s.2.2.1, h_s.2.2.2)) hk ⟨fun c1_s => ?_, fun c1_s => ?_⟩
  · have u_s := h0 c1_s
    exact t_s f_s (by rw [← u_s]) (by rw [← u_s]; exact e25_s) (by rw [← u_s]; exact ho) g_s
  · have u_s := h1 c1_s
    refine sp_187 (h_s := (h_s.1, f_s, h_s.2.2.1, h_s.2.2.2)) (nr := nr) hk c8_s (by omega) (by omega) (by show 0 ≤ (f_s 125 (zix x1_s)).toInt; rw [ez1, f125]; exact n0_s) (fun v_s L1 ev_s hj hk5 => ?_)
    have hj : isJ nr (fun k_s => h_s.2.2.1 126 (60 * zix x1_s + k_s)) (f_s 125 (zix x1_s)).toInt L1 := hj
    rw [ez1, f125] at hj
    have el : L1 = L_s := isJ_u hj (isJ_c (fun k_s _ => (ec k_s).symm) hJ)
    subst el
    dsimp only
    rw [e25_s, ev_s]
    match d_s, ed, u_s with
    | 0, ed, u_s =>
      refine ⟨fun c2_s => absurd c2_s (by omega), fun _ => t_s f_s (by rw [← u_s]; rfl) (by rw [← u_s]; exact e25_s) (by rw [← u_s]; exact ho) g_s⟩
    | d_s + 1, ed, u_s =>
      refine ⟨fun c2_s => fun c3_s => ?_, fun c2_s => absurd c2_s (by omega)⟩
      have z4 := azix (i := f_s 102 25) (by omega)
      have ez4 : zix (f_s 102 25) = n_s := by omega
      have zz := zx60 (d_s := x1_s) (i_s := f_s 102 25) (by omega) (by omega) (by omega) (by omega)
      rw [ez1, ez4] at zz
      rw [zz, ← ec n_s]
      have ko := hJ.2.2.1 n_s (by omega)
      have t3_s := t32_ (x_s := c_s n_s) ko.1 (by have := ko.2; omega)
      have er : (c_s n_s).toInt = (((c_s n_s).toInt.toNat : Nat) : Int) := by
        have := ko.1
        omega
      have hr1 : (c_s n_s).toInt.toNat < nr := by
        have := ko.2
        omega
      have m0_s : tM nh ni nr f_s := tM_fr (fun k_s _ _ => g_s _ _ (by omega) (by omega) (by omega)) (fun k_s _ => g_s _ _ (by omega) (by omega) (by omega)) hc_s
      obtain ⟨m1_s, m2_s, m3_s⟩ := tM_ml m0_s hr1
      have l1 : lawR f_s lw := lawR_fr (g_s _ _ (by omega) (by omega) (by omega)) (fun k_s _ => g_s _ _ (by omega) (by omega) (by omega)) hl
      have eg : goF lw f_s o (c_s n_s).toInt.toNat = goJ lw f0_s c_s o n_s := goF_fr (fun k_s => g_s 103 k_s (by omega) (by omega) (by omega))
      refine sp_183 (h_s := (h_s.1, f_s, h_s.2.2.1, h_s.2.2.2)) (o := o) (r_s := (c_s n_s).toInt.toNat) (m_s := zix (f_s 103 (68 + (c_s n_s).toInt.toNat))) hk l1 hp (by rw [t3_s]; exact er) (by omega) m1_s m2_s ho hB_s (fun f1_s p1_s p2_s p3_s p4_s hk2 => ?_)
      have p1_s : (f1_s 102 22).toInt = ((goF lw f_s o (c_s n_s).toInt.toNat).1 : Int) := p1_s
      have p2_s : (f1_s 102 23).toInt = (if (goF lw f_s o (c_s n_s).toInt.toNat).2.1 = true then 1 else 0) := p2_s
      have p3_s : ∀ k_s, k_s < 7 → f1_s 112 k_s = (goF lw f_s o (c_s n_s).toInt.toNat).2.2 k_s := p3_s
      rw [eg] at p1_s p2_s p3_s
      have q24 : f1_s 102 24 = f_s 102 24 := p4_s _ _ (by omega) (by omega) (by omega)
      have q25 : f1_s 102 25 = f_s 102 25 := p4_s _ _ (by omega) (by omega) (by omega)
      dsimp only
      rw [q24, gI_of p1_s]
      refine i6_s (f1_s 102 23) n_s d_s _ (goJ lw f0_s c_s o n_s).2.2 (fun a_s k_s q1_s q2_s q3_s => ?_) (fun k_s hk7 => ?_) (go_B hB_s) (by omega) (by rw [zne_up (by omega), q25]; exact e25_s) (by rw [zne_up (by omega)]) (fun w_s => ?_) (fun w_s => ?_)
      · rw [zne_up (by omega), p4_s a_s k_s q1_s q2_s (by omega)]
        exact g_s a_s k_s q1_s q2_s q3_s
      · rw [zne_up (by omega)]
        exact p3_s k_s hk7
      · have no_s : ¬ (goJ lw f0_s c_s o n_s).2.1 = true := fun y_s => by
          rw [if_pos y_s] at p2_s
          omega
        rw [jr_no no_s] at u_s
        rw [zsame_up]
        exact u_s
      · have yes_s : (goJ lw f0_s c_s o n_s).2.1 = true := by
          cases e_s : (goJ lw f0_s c_s o n_s).2.1 with
          | true => rfl
          | false =>
            rw [if_neg (by rw [e_s]; decide)] at p2_s
            exact absurd p2_s w_s
        rw [jr_yes yes_s] at u_s
        rw [zsame_up]
        exact u_s
theorem s_all {s_s : Nat} (hk : hKn h_s) (hc_s : tM nh ni nr f0_s) (hl : lawR f0_s lw) (hp : lwP lw) (d1_s : x1_s.toInt = (s_s : Int)) (hs : s_s < 6) (n0_s : 0 ≤ (f0_s 125 s_s).toInt) (ec : ∀ k_s, c_s k_s = h_s.2.2.1 126 (60 * s_s + k_s)) (hJ : isJ nr c_s (f0_s 125 s_s).toInt L_s) (t_s : ∀ f1_s, f1_s 102 24 = R_s.1 → (f1_s 102 25).toInt = (R_s.2.1 : Int) → (∀ k_s, k_s < 7 → f1_s 112 k_s = R_s.2.2.1 k_s) → frK f0_s f1_s → V (h_s.1, f1_s, h_s.2.2.1, h_s.2.2.2)) : ∀ F_s, S12 h_s V f0_s lw c_s L_s x1_s R_s F_s ∧ S65 h_s V f0_s lw c_s L_s x1_s R_s F_s
  | 0 => ⟨fun _ _ _ _ _ _ _ _ _ _ _ _ => wF_zero, fun _ _ _ _ _ _ _ _ _ _ _ _ _ => wF_zero⟩
  | F_s + 1 => by
    obtain ⟨i1_s, i6_s⟩ := s_all hk hc_s hl hp d1_s hs n0_s ec hJ t_s F_s
    exact ⟨s12_s hk hc_s hl hp d1_s hs n0_s ec hJ t_s i6_s, s65_s hk hJ.1 i1_s⟩
theorem sp_188 {F_s s_s : Nat} {o : oI} (hk : hKn h_s) (hc_s : tM nh ni nr f0_s) (hl : lawR f0_s lw) (hp : lwP lw) (d1_s : x1_s.toInt = (s_s : Int)) (hs : s_s < 6) (n0_s : 0 ≤ (f0_s 125 s_s).toInt) (ec : ∀ k_s, c_s k_s = h_s.2.2.1 126 (60 * s_s + k_s)) (hJ : isJ nr c_s (f0_s 125 s_s).toInt L_s) (ho : ∀ k_s, k_s < 7 → f0_s 112 k_s = o k_s) (hB_s : oB o) (t_s : ∀ f1_s, f1_s 102 24 = (jrn (goJ lw f0_s c_s) L_s 0 0 o).1 → (f1_s 102 25).toInt = ((jrn (goJ lw f0_s c_s) L_s 0 0 o).2.1 : Int) → (∀ k_s, k_s < 7 → f1_s 112 k_s = (jrn (goJ lw f0_s c_s) L_s 0 0 o).2.2.1 k_s) → frK f0_s f1_s → V (h_s.1, f1_s, h_s.2.2.1, h_s.2.2.2)) : wF F_s 188 (0, [some (.ref 102), some (.int x1_s), none], [], (h_s.1, f0_s, h_s.2.2.1, h_s.2.2.2)) (gV V) := by
  refine wF_le (Nat.le_succ F_s) (sg_188_0 (h_s := (h_s.1, f0_s, h_s.2.2.1, h_s.2.2.2)) hk ?_)
  refine (s_all hk hc_s hl hp d1_s hs n0_s ec hJ t_s F_s).1 1 0 L_s _ o (fun a_s k_s q1_s q2_s q3_s => ?_) (fun k_s hk7 => ?_) hB_s (by omega) ?_ (fun w_s => absurd w_s (by decide)) (fun _ => ?_)
  · show zup (zup f0_s 102 24 0) 102 25 0 a_s k_s = f0_s a_s k_s
    rw [zne_up (by omega), zne_up (by omega)]
  · show zup (zup f0_s 102 24 0) 102 25 0 112 k_s = o k_s
    rw [zne_up (by omega), zne_up (by omega)]
    exact ho k_s hk7
  · show (zup (zup f0_s 102 24 0) 102 25 0 102 25).toInt = 0
    rw [zsame_up]
    rfl
  · show jrn (goJ lw f0_s c_s) L_s 0 (zup (zup f0_s 102 24 0) 102 25 0 102 24) o = _
    rw [zne_up (by omega), zsame_up]
end JG_s
