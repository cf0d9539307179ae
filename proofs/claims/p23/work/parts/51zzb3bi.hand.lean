/-! THE EDGE, the reference: it thinks on a place of the country's row and puts that place back. -/
def isRm (g_s : Nat → Nat → Int64) (nr : Nat) (x_s v_s : Int32) : Prop := ∀ k_s : Int32, 0 ≤ k_s.toInt → k_s.toInt < v_s.toInt → 0 ≤ (g_s 126 (zix (60 * x_s + k_s))).toInt ∧ (g_s 126 (zix (60 * x_s + k_s))).toInt < (nr : Int)
theorem sub1_as (x_s y_s : Int32) : x_s + y_s - 1 = x_s + (y_s - 1) := by
  rw [Int32.sub_eq_add_neg, Int32.sub_eq_add_neg, Int32.add_assoc]
theorem frG_tr {f_s f1_s f2_s : Nat → Nat → Int32} (h1 : frG f_s f1_s) (h2 : frG f1_s f2_s) : frG f_s f2_s := fun a_s k_s q1_s q2_s q3_s => by
  rw [h2 a_s k_s q1_s q2_s q3_s]
  exact h1 a_s k_s q1_s q2_s q3_s
section ED_s
variable {h_s : zH} {K_s : Int32 → zH → Prop} {nh ni nr : Nat} {lw : Option (List pB)} {x1_s x2_s : Int32} {f0_s : Nat → Nat → Int32}
theorem rm187 (hk : hKn h_s) (c8_s : (h_s.2.1 102 8).toInt = (nr : Int)) (t_s : ∀ v_s, isRm h_s.2.2.1 nr x1_s v_s → K_s v_s h_s) : ∀ (F_s n_s : Nat) (x2_s : Int32), x2_s.toInt = (n_s : Int) → isRm h_s.2.2.1 nr x1_s x2_s → wF F_s 187 (2, [some (.ref 102), some (.int x1_s), some (.int x2_s)], [], h_s) (gI K_s)
  | 0, _, _, _, _ => wF_zero
  | F_s + 1, n_s, x2_s, e2_s, r_s => by
    have e8 := sb1 c8_s
    refine sg_187_2 (h_s := h_s) hk ?_
    rw [e8]
    refine ⟨fun c1_s => fun c2_s => ⟨fun c3_s => fun c4_s => ⟨fun c5_s => t_s x2_s r_s, fun c5_s => ⟨fun c6_s => t_s x2_s r_s, fun c6_s => ?_⟩⟩, fun c3_s => t_s x2_s r_s⟩, fun c1_s => t_s x2_s r_s⟩
    have e3_s : (x2_s + 1).toInt = ((n_s + 1 : Nat) : Int) := by
      rw [in1_ (by omega), e2_s]
      omega
    refine rm187 hk c8_s t_s F_s (n_s + 1) (x2_s + 1) e3_s (fun k_s k0_s k1_s => ?_)
    by_cases e_s : k_s.toInt = x2_s.toInt
    · have ek : k_s = x2_s := Int32.toInt_inj.mp e_s
      rw [ek]
      omega
    · exact r_s k_s k0_s (by omega)
theorem fr_187 {F_s : Nat} (hk : hKn h_s) (c8_s : (h_s.2.1 102 8).toInt = (nr : Int)) (t_s : ∀ v_s, isRm h_s.2.2.1 nr x1_s v_s → K_s v_s h_s) : wF F_s 187 (0, [some (.ref 102), some (.int x1_s), none], [], h_s) (gI K_s) := wF_le (Nat.le_succ F_s) (sg_187_0 (h_s := h_s) hk (rm187 hk c8_s t_s F_s 0 0 rfl (fun k_s k0_s k1_s => absurd (show k_s.toInt < 0 from k1_s) (by omega))))
def Q4 (f0_s f_s : Nat → Nat → Int32) : Prop := frG f0_s f_s ∧ ∃ o : oI, oB o ∧ ∀ k_s, k_s < 7 → f_s 112 k_s = o k_s
def B10 (h_s : zH) (K_s : Int32 → zH → Prop) (f0_s : Nat → Nat → Int32) (x1_s x2_s : Int32) (F_s : Nat) : Prop := ∀ (x3 x4_s : Int32) (n_s : Nat) (f_s : Nat → Nat → Int32), Q4 f0_s f_s → x4_s.toInt = (n_s : Int) → wF F_s 204 (10, [some (.ref 102), some (.int x1_s), some (.int x2_s), some (.int x3), some (.int x4_s)], [], (h_s.1, f_s, h_s.2.2.1, h_s.2.2.2)) (gI K_s)
def B52 (h_s : zH) (K_s : Int32 → zH → Prop) (f0_s : Nat → Nat → Int32) (x1_s x2_s : Int32) (nr F_s : Nat) : Prop := ∀ (x3 x4_s : Int32) (n_s : Nat) (f_s : Nat → Nat → Int32), Q4 f0_s f_s → x4_s.toInt = (n_s : Int) → 0 < n_s → x4_s.toInt < 2147483647 → (¬ x3.toInt = 0 → isRm h_s.2.2.1 nr (x1_s / 10) x4_s) → wF F_s 204 (52, [some (.ref 102), some (.int x1_s), some (.int x2_s), some (.int x3), some (.int x4_s)], [], (h_s.1, f_s, h_s.2.2.1, h_s.2.2.2)) (gI K_s)
def B83 (h_s : zH) (K_s : Int32 → zH → Prop) (f0_s : Nat → Nat → Int32) (x1_s x2_s : Int32) (F_s : Nat) : Prop := ∀ (x3 x4_s : Int32) (n_s : Nat) (f_s : Nat → Nat → Int32), Q4 f0_s f_s → x4_s.toInt = (n_s : Int) → x4_s.toInt < 2147483647 → wF F_s 204 (83, [some (.ref 102), some (.int x1_s), some (.int x2_s), some (.int x3), some (.int x4_s)], [], (h_s.1, f_s, h_s.2.2.1, h_s.2.2.2)) (gI K_s)
theorem b10_s {F_s : Nat} (hk : hKn h_s) (hc_s : tM nh ni nr f0_s) (t_s : ∀ v_s f1_s, frG f0_s f1_s → K_s v_s (h_s.1, f1_s, h_s.2.2.1, h_s.2.2.2)) (i5_s : B52 h_s K_s f0_s x1_s x2_s nr F_s) (i8_s : B83 h_s K_s f0_s x1_s x2_s F_s) : B10 h_s K_s f0_s x1_s x2_s (F_s + 1) := by
  intro x3 x4_s n_s f_s q_s e4_s
  have r125 := na_rng (f_s 125 (zix (x1_s - x1_s / 10 * 10)))
  have c8_s : (f_s 102 8).toInt = (nr : Int) := by
    rw [q_s.1 102 8 (by omega) (by omega) (by omega)]
    exact hc_s.2.1.2.2
  refine sg_204_10 (h_s := (h_s.1, f_s, h_s.2.2.1, h_s.2.2.2)) hk ?_
  dsimp only
  refine fun c1_s => ⟨fun c2_s => ⟨fun c3_s => ⟨fun c4_s => i5_s 0 x4_s n_s f_s q_s e4_s (by omega) (by omega) (fun c_s => absurd rfl c_s), fun c4_s => ?_⟩, fun c3_s => i8_s x3 x4_s n_s f_s q_s e4_s (by omega)⟩, fun c2_s => t_s (-2) f_s q_s.1⟩
  refine fr_187 (h_s := (h_s.1, f_s, h_s.2.2.1, h_s.2.2.2)) (nr := nr) hk c8_s (fun v_s rv_s hk5 => ⟨fun _ => i5_s 0 x4_s n_s f_s q_s e4_s (by omega) (by omega) (fun c_s => absurd rfl c_s), fun c_s => i5_s 1 x4_s n_s f_s q_s e4_s (by omega) (by omega) (fun _ k_s k0_s k1_s => rv_s k_s k0_s (by omega))⟩)
theorem b52_s {F_s : Nat} (hk : hKn h_s) (hc_s : tM nh ni nr f0_s) (hl : lawR f0_s lw) (hp : lwP lw) (i8_s : B83 h_s K_s f0_s x1_s x2_s F_s) : B52 h_s K_s f0_s x1_s x2_s nr (F_s + 1) := by
  intro x3 x4_s n_s f_s q_s e4_s hn hb_s hr
  obtain ⟨g_s, o, hB_s, ho⟩ := q_s
  have b_s := hc_s.1
  have e1_s : (x4_s - 1).toInt = (n_s : Int) - 1 := sb1 e4_s
  refine sg_204_52 (h_s := (h_s.1, f_s, h_s.2.2.1, h_s.2.2.2)) hk ?_
  dsimp only
  refine ⟨fun c1_s => i8_s x3 x4_s n_s f_s ⟨g_s, o, hB_s, ho⟩ e4_s hb_s, fun c1_s => fun c2_s => ?_⟩
  have ir := hr c1_s (x4_s - 1) (by omega) (by omega)
  rw [sub1_as]
  generalize h_s.2.2.1 126 (zix (60 * (x1_s / 10) + (x4_s - 1))) = l at ir
  have t3_s := t32_ (x_s := l) (by omega) (by omega)
  have er : l.toInt = (l.toInt.toNat : Int) := by omega
  have hr1 : l.toInt.toNat < nr := by omega
  have m0_s : tM nh ni nr f_s := tM_fr (fun k_s _ _ => g_s _ _ (by omega) (by omega) (by omega)) (fun k_s _ => g_s _ _ (by omega) (by omega) (by omega)) hc_s
  obtain ⟨m1_s, m2_s, m3_s⟩ := tM_ml m0_s hr1
  have l1 : lawR f_s lw := lawR_fr (g_s _ _ (by omega) (by omega) (by omega)) (fun k_s _ => g_s _ _ (by omega) (by omega) (by omega)) hl
  refine sp_183 (h_s := (h_s.1, f_s, h_s.2.2.1, h_s.2.2.2)) (o := o) (r_s := l.toInt.toNat) (m_s := zix (f_s 103 (68 + l.toInt.toNat))) hk l1 hp (by rw [t3_s]; exact er) (by omega) m1_s m2_s ho hB_s (fun f1_s p1_s p2_s p3_s p4_s hk2 => ?_)
  exact i8_s _ x4_s n_s f1_s ⟨frG_tr g_s p4_s, _, go_B hB_s, p3_s⟩ e4_s hb_s
theorem b83_s {F_s : Nat} (hk : hKn h_s) (t_s : ∀ v_s f1_s, frG f0_s f1_s → K_s v_s (h_s.1, f1_s, h_s.2.2.1, h_s.2.2.2)) (i1_s : B10 h_s K_s f0_s x1_s x2_s F_s) : B83 h_s K_s f0_s x1_s x2_s (F_s + 1) := by
  intro x3 x4_s n_s f_s q_s e4_s hb_s
  exact sg_204_83 (h_s := (h_s.1, f_s, h_s.2.2.1, h_s.2.2.2)) hk ⟨fun c1_s => t_s x4_s f_s q_s.1, fun c1_s => fun c2_s => ⟨fun c4_s => i1_s x3 (x4_s + 1) (n_s + 1) f_s q_s (by rw [in1_ (by omega)]; omega), fun c4_s => t_s x4_s f_s q_s.1⟩⟩
theorem b_all (hk : hKn h_s) (hc_s : tM nh ni nr f0_s) (hl : lawR f0_s lw) (hp : lwP lw) (t_s : ∀ v_s f1_s, frG f0_s f1_s → K_s v_s (h_s.1, f1_s, h_s.2.2.1, h_s.2.2.2)) : ∀ F_s, B10 h_s K_s f0_s x1_s x2_s F_s ∧ B52 h_s K_s f0_s x1_s x2_s nr F_s ∧ B83 h_s K_s f0_s x1_s x2_s F_s
  | 0 => ⟨fun _ _ _ _ _ _ => wF_zero, fun _ _ _ _ _ _ _ _ _ => wF_zero, fun _ _ _ _ _ _ _ => wF_zero⟩
  | F_s + 1 => by
    obtain ⟨i1_s, i5_s, i8_s⟩ := b_all hk hc_s hl hp t_s F_s
    exact ⟨b10_s hk hc_s t_s i5_s i8_s, b52_s hk hc_s hl hp i8_s, b83_s hk t_s i1_s⟩
theorem fr_204 {F_s i_s : Nat} (hk : hKn h_s) (hc_s : tM nh ni nr f0_s) (hl : lawR f0_s lw) (hp : lwP lw) (e2_s : x2_s.toInt = (i_s : Int)) (hi_s : i_s < ni) (t_s : ∀ v_s f1_s, frG f0_s f1_s → K_s v_s (h_s.1, f1_s, h_s.2.2.1, h_s.2.2.2)) : wF F_s 204 (0, [some (.ref 102), some (.int x1_s), some (.int x2_s), none, none], [], (h_s.1, f0_s, h_s.2.2.1, h_s.2.2.2)) (gI K_s) := by
  have b_s := hc_s.1
  refine wF_le (Nat.le_succ F_s) (sg_204_0 (h_s := (h_s.1, f0_s, h_s.2.2.1, h_s.2.2.2)) hk ?_)
  refine sp_178 hk e2_s (by omega) (tM_hd hc_s hi_s).1 (fun f1_s g1 g2 hk1 => ?_)
  exact (b_all hk hc_s hl hp t_s F_s).1 1 0 0 f1_s ⟨fun a_s k_s q1_s q2_s q3_s => g2 a_s k_s q2_s, owI f0_s i_s, tM_oB hc_s hi_s, g1⟩ rfl
theorem fr_203 {F_s : Nat} (hk : hKn h_s) (t_s : ∀ v_s, K_s v_s h_s) : wF F_s 203 (0, [some (.ref 102), some (.int x1_s)], [], h_s) (gI K_s) := wF_le (Nat.le_succ F_s) (sg_203_0 (h_s := h_s) hk (by repeat (first | exact t_s _ | refine ⟨?_, ?_⟩ | intro _)))
/-- a thought's place -/
theorem tM_at {f2_s : Nat → Nat → Int32} {j_s i_s : Nat} (hc_s : tM nh ni nr f0_s) (hj : j_s < 2) (hi_s : i_s < 8) (v0_s : 0 ≤ (f2_s 103 (12 + 8 * j_s + i_s)).toInt) (v1_s : (f2_s 103 (12 + 8 * j_s + i_s)).toInt ≤ mxw (j_s + 2)) (h2 : ∀ k_s, 6 ≤ k_s → k_s ≤ 8 → f2_s 102 k_s = f0_s 102 k_s) (h3 : ∀ k_s, k_s < 104 → ¬ k_s = 12 + 8 * j_s + i_s → f2_s 103 k_s = f0_s 103 k_s) : tM nh ni nr f2_s := by
  obtain ⟨b_s, ⟨a4, a5, a6⟩, a7⟩ := hc_s
  refine ⟨b_s, ⟨?_, ?_, ?_⟩, fun n_s w_s hw hn hni => ?_⟩
  · rw [h2 6 (by omega) (by omega)]
    exact a4
  · rw [h2 7 (by omega) (by omega)]
    exact a5
  · rw [h2 8 (by omega) (by omega)]
    exact a6
  · by_cases e_s : plc n_s w_s = 12 + 8 * j_s + i_s
    · have ew : w_s = j_s + 2 := by
        by_cases v2 : w_s < 2
        · rw [cap_h v2] at hn
          rw [plc_h v2] at e_s
          omega
        · by_cases v9 : w_s < 9
          · rw [cap_i (by omega) v9] at hn
            rw [plc_i (by omega) v9] at e_s
            omega
          · rw [cap_r (by omega)] at hn
            rw [plc_r (by omega)] at e_s
            omega
      rw [e_s]
      unfold vB
      rw [if_neg (by omega), ew]
      exact ⟨v0_s, v1_s, fun e9_s => absurd e9_s (by omega)⟩
    · rw [h3 _ (plc_lt hw hn) e_s]
      exact a7 n_s w_s hw hn hni
theorem ed206 {x5_s : Int32} {j_s i_s : Nat} (hk : hKn h_s) (hc_s : tM nh ni nr f0_s) (hl : lawR f0_s lw) (hp : lwP lw) (hj : j_s < 2) (e2_s : x2_s.toInt = (i_s : Int)) (hi_s : i_s < ni) (x3 x4_s : Int32) (e3_s : x3.toInt = (j_s : Int)) (e4_s : zix x4_s = 12 + 8 * j_s + i_s) (e5_s : x5_s = f0_s 103 (12 + 8 * j_s + i_s)) (t_s : ∀ v_s f1_s, frG f0_s f1_s → K_s v_s (h_s.1, f1_s, h_s.2.2.1, h_s.2.2.2)) : ∀ (F_s n_s : Nat) (x6 x7 : Int32) (f_s : Nat → Nat → Int32), x7.toInt = (n_s : Int) → n_s ≤ 6 → (∀ a_s k_s, ¬ a_s = 111 → ¬ a_s = 112 → ¬ (a_s = 102 ∧ (15 ≤ k_s ∧ k_s ≤ 19 ∨ k_s = 22 ∨ k_s = 23)) → ¬ (a_s = 103 ∧ k_s = 12 + 8 * j_s + i_s) → f_s a_s k_s = f0_s a_s k_s) → wF F_s 206 (74, [some (.ref 102), some (.int x1_s), some (.int x2_s), some (.int x3), some (.int x4_s), some (.int x5_s), some (.int x6), some (.int x7)], [], (h_s.1, f_s, h_s.2.2.1, h_s.2.2.2)) (gI K_s)
  | 0, _, _, _, _, _, _, _ => wF_zero
  | F_s + 1, n_s, x6, x7, f_s, e7_s, hn, g_s => by
    have b_s := hc_s.1
    have nx : ∀ (x61 : Int32), x7.toInt ≤ 5 → (x7.toInt ≤ mxw (j_s + 2)) → wF F_s 204 (0, [some (.ref 102), some (.int x1_s), some (.int x2_s), none, none], [], (h_s.1, zup f_s 103 (12 + 8 * j_s + i_s) x7, h_s.2.2.1, h_s.2.2.2)) (gI (fun v5 h5 => hKn h5 → (v5.toInt = -2 → wF F_s 206 (74, [some (.ref 102), some (.int x1_s), some (.int x2_s), some (.int x3), some (.int x4_s), some (.int x5_s), some (.int (x6 ||| (1 <<< (x7 &&& 31)))), some (.int (x7 + 1))], [], h5) (gI K_s)) ∧ (¬ v5.toInt = -2 → wF F_s 206 (74, [some (.ref 102), some (.int x1_s), some (.int x2_s), some (.int x3), some (.int x4_s), some (.int x5_s), some (.int (x6 ||| 0)), some (.int (x7 + 1))], [], h5) (gI K_s)))) := fun _ u5 um => by
      have m1_s : tM nh ni nr (zup f_s 103 (12 + 8 * j_s + i_s) x7) := by
        refine tM_at (i_s := i_s) hc_s hj (by omega) (by rw [zsame_up]; omega) (by rw [zsame_up]; exact um) (fun k_s k6_s k8_s => ?_) (fun k_s _ hk1 => ?_)
        · rw [zne_up (by omega)]
          exact g_s _ _ (by omega) (by omega) (by omega) (by omega)
        · rw [zne_up (by omega)]
          exact g_s _ _ (by omega) (by omega) (by omega) (by omega)
      have l1 : lawR (zup f_s 103 (12 + 8 * j_s + i_s) x7) lw := lawR_fr (by rw [zne_up (by omega)]; exact g_s _ _ (by omega) (by omega) (by omega) (by omega)) (fun k_s _ => by rw [zne_up (by omega)]; exact g_s _ _ (by omega) (by omega) (by omega) (by omega)) hl
      refine fr_204 (i_s := i_s) hk m1_s l1 hp e2_s hi_s (fun v5 f5_s g5_s hk5 => ?_)
      have g6 : ∀ a_s k_s, ¬ a_s = 111 → ¬ a_s = 112 → ¬ (a_s = 102 ∧ (15 ≤ k_s ∧ k_s ≤ 19 ∨ k_s = 22 ∨ k_s = 23)) → ¬ (a_s = 103 ∧ k_s = 12 + 8 * j_s + i_s) → f5_s a_s k_s = f0_s a_s k_s := fun a_s k_s q1_s q2_s q3_s q4_s => by
        rw [g5_s a_s k_s q1_s q2_s q3_s, zne_up (by omega)]
        exact g_s a_s k_s q1_s q2_s q3_s q4_s
      have e8 : (x7 + 1).toInt = ((n_s + 1 : Nat) : Int) := by
        rw [in1_ (by omega), e7_s]
        omega
      exact ⟨fun _ => ed206 hk hc_s hl hp hj e2_s hi_s x3 x4_s e3_s e4_s e5_s t_s F_s (n_s + 1) _ (x7 + 1) f5_s e8 (by omega) g6, fun _ => ed206 hk hc_s hl hp hj e2_s hi_s x3 x4_s e3_s e4_s e5_s t_s F_s (n_s + 1) _ (x7 + 1) f5_s e8 (by omega) g6⟩
    have fin_s : K_s x6 (h_s.1, zup f_s 103 (12 + 8 * j_s + i_s) x5_s, h_s.2.2.1, h_s.2.2.2) := t_s x6 _ (fun a_s k_s q1_s q2_s q3_s => by
      by_cases e_s : a_s = 103 ∧ k_s = 12 + 8 * j_s + i_s
      · rw [e_s.1, e_s.2, zsame_up]
        exact e5_s
      · rw [zne_up e_s]
        exact g_s a_s k_s q1_s q2_s q3_s e_s)
    have mx_s : (j_s = 0 → mxw (j_s + 2) = 3) ∧ (j_s = 1 → mxw (j_s + 2) = 5) := ⟨fun e_s => by rw [e_s]; rfl, fun e_s => by rw [e_s]; rfl⟩
    refine sg_206_74 (h_s := (h_s.1, f_s, h_s.2.2.1, h_s.2.2.2)) hk ?_
    dsimp only
    rw [e4_s]
    refine ⟨fun c1_s => ⟨fun c2_s => fun c3_s => fin_s, fun c2_s => fun c4_s => nx 0 (by omega) (by have := mx_s.1 (by omega); omega)⟩, fun c1_s => ⟨fun c7_s => fun c8_s => fin_s, fun c7_s => fun c9_s => nx 0 (by omega) (by have := mx_s.2 (by omega); omega)⟩⟩
theorem fr_206 {F_s : Nat} {x3 : Int32} (hk : hKn h_s) (hc_s : tM nh ni nr f0_s) (hl : lawR f0_s lw) (hp : lwP lw) (t_s : ∀ v_s f1_s, frG f0_s f1_s → K_s v_s (h_s.1, f1_s, h_s.2.2.1, h_s.2.2.2)) : wF F_s 206 (0, [some (.ref 102), some (.int x1_s), some (.int x2_s), some (.int x3), none, none, none, none], [], (h_s.1, f0_s, h_s.2.2.1, h_s.2.2.2)) (gI K_s) := by
  have b_s := hc_s.1
  have e7_s := sb1 hc_s.2.1.2.1
  have t0_s : ∀ v_s, K_s v_s (h_s.1, f0_s, h_s.2.2.1, h_s.2.2.2) := fun v_s => t_s v_s f0_s (fun _ _ _ _ _ => rfl)
  refine wF_le (Nat.le_succ F_s) (sg_206_0 (h_s := (h_s.1, f0_s, h_s.2.2.1, h_s.2.2.2)) hk ?_)
  refine fr_203 hk (fun v1_s hk1 => ⟨fun _ => t0_s _, fun _ => ?_⟩)
  dsimp only
  rw [e7_s]
  refine ⟨fun _ => t0_s _, fun c2_s => ⟨fun _ => t0_s _, fun c3_s => ⟨fun _ => t0_s _, fun c4_s => ⟨fun _ => t0_s _, fun c5_s => ?_⟩⟩⟩⟩
  refine fr_203 hk (fun v7 hk7 => ⟨fun _ => fr_203 hk (fun v9 _ => t0_s v9), fun _ => ?_⟩)
  have er : x2_s.toInt = (x2_s.toInt.toNat : Int) := by omega
  have hi_s : x2_s.toInt.toNat < ni := by omega
  have z12 : zix (12 + x2_s) = 12 + x2_s.toInt.toNat := zxa (c_s := 12) (a_s := 12) rfl er (by omega)
  have z20 : zix (20 + x2_s) = 20 + x2_s.toInt.toNat := zxa (c_s := 20) (a_s := 20) rfl er (by omega)
  generalize x2_s.toInt.toNat = i_s at er hi_s z12 z20
  refine ⟨fun c_s => fun _ => ?_, fun c_s => fun _ => ?_⟩
  · exact ed206 (j_s := 0) (i_s := i_s) hk hc_s hl hp (by omega) er hi_s x3 _ c_s z12 (by rw [z12]) t_s F_s 0 0 0 f0_s rfl (by omega) (fun _ _ _ _ _ _ => rfl)
  · exact ed206 (j_s := 1) (i_s := i_s) hk hc_s hl hp (by omega) er hi_s x3 _ (by omega) z20 (by rw [z20]) t_s F_s 0 0 0 f0_s rfl (by omega) (fun _ _ _ _ _ _ => rfl)
end ED_s
