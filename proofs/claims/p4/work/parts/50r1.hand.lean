/-! ROADS: class and reference lay the same number of them. -/
def vld (a_s b_s m_s : Int64) : Prop := 0 ≤ a_s.toInt ∧ a_s.toInt < 8 ∧ 0 ≤ b_s.toInt ∧ b_s.toInt < 8 ∧ ¬ a_s.toInt = b_s.toInt ∧ 1 ≤ m_s.toInt ∧ m_s.toInt ≤ 9
def okR (c_s : Nat → Int64) (len_s i_s R_s j_s : Nat) : Prop := i_s + 3 * j_s + 3 ≤ len_s ∧ R_s + j_s < 12 ∧ vld (c_s (i_s + 3 * j_s)) (c_s (i_s + 3 * j_s + 1)) (c_s (i_s + 3 * j_s + 2))
def lstR (c_s : Nat → Int64) (len_s i_s R_s n_s k_s : Nat) : Prop := k_s ≤ n_s ∧ (∀ j_s, j_s < k_s → okR c_s len_s i_s R_s j_s) ∧ (k_s = n_s ∨ ¬ okR c_s len_s i_s R_s k_s)
theorem lstR_det {c_s : Nat → Int64} {len_s i_s R_s n_s k_s k1_s : Nat} (h_s : lstR c_s len_s i_s R_s n_s k_s) (h1 : lstR c_s len_s i_s R_s n_s k1_s) : k_s = k1_s := by
  obtain ⟨a1_s, a2, a3⟩ := h_s
  obtain ⟨b1, b2, b3⟩ := h1
  rcases Nat.lt_trichotomy k_s k1_s with e_s | e_s | e_s
  · rcases a3 with a3 | a3
    · omega
    · exact absurd (b2 k_s e_s) a3
  · exact e_s
  · rcases b3 with b3 | b3
    · omega
    · exact absurd (a2 k1_s e_s) b3
def ct96 (c_s : Nat → Int64) (i_s R_s k_s : Nat) (f_s : Nat → Nat → Int32) : Prop := ∀ m_s, m_s < k_s → f_s (28 + (R_s + m_s)) 0 = (c_s (i_s + 3 * m_s)).toInt32 ∧ f_s (28 + (R_s + m_s)) 1 = (c_s (i_s + 3 * m_s + 1)).toInt32 ∧ f_s (28 + (R_s + m_s)) 2 = (c_s (i_s + 3 * m_s + 2)).toInt32
def fr96 (R_s k_s : Nat) (f0_s f_s : Nat → Nat → Int32) : Prop := ∀ o j_s, ¬ (o = 7 ∧ j_s = 8) → ¬ (28 + R_s ≤ o ∧ o < 28 + R_s + k_s ∧ j_s ≤ 2) → f_s o j_s = f0_s o j_s
def ct60 (c_s : Nat → Int64) (i_s R_s k_s : Nat) (f_s : Nat → Nat → Int32) : Prop := ∀ m_s, m_s < k_s → f_s 107 (R_s + m_s) = (c_s (i_s + 3 * m_s)).toInt32 ∧ f_s 108 (R_s + m_s) = (c_s (i_s + 3 * m_s + 1)).toInt32 ∧ f_s 103 (68 + (R_s + m_s)) = (c_s (i_s + 3 * m_s + 2)).toInt32
def fr60 (R_s k_s : Nat) (f0_s f_s : Nat → Nat → Int32) : Prop := ∀ o j_s, ¬ (o = 102 ∧ j_s = 8) → ¬ ((o = 107 ∨ o = 108) ∧ R_s ≤ j_s ∧ j_s < R_s + k_s) → ¬ (o = 103 ∧ 68 + R_s ≤ j_s ∧ j_s < 68 + R_s + k_s) → f_s o j_s = f0_s o j_s
theorem i2_ : (2 : Int32).toInt = 2 := rfl
theorem i3_ : (3 : Int32).toInt = 3 := rfl
theorem i68_ : (68 : Int32).toInt = 68 := rfl
theorem rd96 {h_s : zH} {K_s : Int32 → zH → Prop} {d_s n_s R_s i_s len_s : Nat} {c_s : Nat → Int64} {f0_s : Nat → Nat → Int32} {x1_s x2_s x3 : Int32} (hk : hKn h_s) (hd_s : d_s < 6) (hc_s : ∀ k_s, h_s.2.2.1 (76 + 2 * d_s + 1) k_s = c_s k_s) (hlen : (f0_s (76 + 2 * d_s) 3).toInt = (len_s : Int)) (hl60 : len_s ≤ 60) (hx3 : x3.toInt = (n_s : Int)) (hn : n_s ≤ 12) (t_s : ∀ (k_s : Nat) (v_s : Int32) f1_s, v_s.toInt = (k_s : Int) → lstR c_s len_s i_s R_s n_s k_s → (f1_s 7 8).toInt = ((R_s + k_s : Nat) : Int) → R_s + k_s ≤ 12 → ct96 c_s i_s R_s k_s f1_s → fr96 R_s k_s f0_s f1_s → K_s v_s (h_s.1, f1_s, h_s.2.2.1, h_s.2.2.2)) : ∀ (F_s j_s : Nat) (x5_s x6 : Int32) (f_s : Nat → Nat → Int32), x5_s.toInt = (j_s : Int) → x6.toInt = ((i_s + 3 * j_s : Nat) : Int) → j_s ≤ n_s → (∀ m_s, m_s < j_s → okR c_s len_s i_s R_s m_s) → (f_s 7 8).toInt = ((R_s + j_s : Nat) : Int) → R_s + j_s ≤ 12 → ct96 c_s i_s R_s j_s f_s → fr96 R_s j_s f0_s f_s → wF F_s 96 (61, [some (.ref 6), some (.int x1_s), some (.int x2_s), some (.int x3), some (.ref (76 + 2 * d_s)), some (.int x5_s), some (.int x6)], [], (h_s.1, f_s, h_s.2.2.1, h_s.2.2.2)) (gI K_s)
  | 0, _, _, _, _, _, _, _, _, _, _, _, _ => wF_zero
  | F_s + 1, j_s, x5_s, x6, f_s, hx5, hx6, hj, hok, hR, hR12, hct, hfr => by
    have el : (f_s (76 + 2 * d_s) 3).toInt = (len_s : Int) := by
      rw [hfr _ _ (by omega) (by omega)]
      exact hlen
    have e2_s : (f_s (76 + 2 * d_s) 3 - 2).toInt = (len_s : Int) - 2 := by
      rw [na_sub (by rw [i2_]; omega) (by rw [i2_]; omega), i2_, el]
    have fail_s : ¬ okR c_s len_s i_s R_s j_s → K_s x5_s (h_s.1, f_s, h_s.2.2.1, h_s.2.2.2) := fun w_s => t_s j_s x5_s f_s hx5 ⟨hj, hok, Or.inr w_s⟩ hR hR12 hct hfr
    have all_ : j_s = n_s → K_s x5_s (h_s.1, f_s, h_s.2.2.1, h_s.2.2.2) := fun w_s => t_s j_s x5_s f_s hx5 ⟨hj, hok, Or.inl w_s⟩ hR hR12 hct hfr
    by_cases hb_s : i_s + 3 * j_s + 3 ≤ len_s
    · have z0 := azix (i := x6) (by omega)
      have a1_s := in1_ (x_s := x6) (by omega)
      have a2 : (x6 + 2).toInt = x6.toInt + 2 := by rw [na_add (by rw [i2_]; omega) (by rw [i2_]; omega), i2_]
      have a3 : (x6 + 3).toInt = x6.toInt + 3 := by rw [na_add (by rw [i3_]; omega) (by rw [i3_]; omega), i3_]
      have z1 := azix (i := x6 + 1) (by omega)
      have z2 := azix (i := x6 + 2) (by omega)
      have y0 : zix x6 = i_s + 3 * j_s := by omega
      have y1 : zix (x6 + 1) = i_s + 3 * j_s + 1 := by omega
      have y2 : zix (x6 + 2) = i_s + 3 * j_s + 2 := by omega
      have cA_s : h_s.2.2.1 (76 + 2 * d_s + 1) (zix x6) = c_s (i_s + 3 * j_s) := by rw [y0]; exact hc_s _
      have cB_s : h_s.2.2.1 (76 + 2 * d_s + 1) (zix (x6 + 1)) = c_s (i_s + 3 * j_s + 1) := by rw [y1]; exact hc_s _
      have cC : h_s.2.2.1 (76 + 2 * d_s + 1) (zix (x6 + 2)) = c_s (i_s + 3 * j_s + 2) := by rw [y2]; exact hc_s _
      have zr_ := azix (i := f_s 7 8) (by omega)
      have yr : zix (f_s 7 8) = R_s + j_s := by omega
      refine sg_96_61 (h_s := (h_s.1, f_s, h_s.2.2.1, h_s.2.2.2)) hd_s hk ⟨fun c1_s => ⟨fun c2_s => fun c3_s => fun c4_s => fun c5_s => ⟨fun c6_s => ?_, fun c6_s => ⟨fun c7_s => ⟨fun c8_s => ?_, fun c8_s => ⟨fun c9_s => ⟨fun c10_s => ?_, fun c10_s => ⟨fun c11_s => ?_, fun c11_s => ⟨fun c12_s => ?_, fun c12_s => ⟨fun c13_s => fun c14_s => ⟨fun c15_s => ?_, fun c15_s => ?_⟩, fun c13_s => ?_⟩⟩⟩⟩, fun c9_s => ?_⟩⟩, fun c7_s => ?_⟩⟩, fun c2_s => ?_⟩, fun c1_s => ?_⟩
      · exact fail_s (fun w_s => by
          have w_s := w_s.2.2
          unfold vld at w_s
          dsimp only at c6_s
          rw [cA_s] at c6_s
          omega)
      · exact fail_s (fun w_s => by
          have w_s := w_s.2.2
          unfold vld at w_s
          dsimp only at c8_s
          rw [cB_s] at c8_s
          omega)
      · exact fail_s (fun w_s => by
          have w_s := w_s.2.2
          unfold vld at w_s
          dsimp only at c10_s
          rw [cA_s, cB_s] at c10_s
          omega)
      · exact fail_s (fun w_s => by
          have w_s := w_s.2.2
          unfold vld at w_s
          dsimp only at c11_s
          rw [cC] at c11_s
          omega)
      · exact fail_s (fun w_s => by
          have w_s := w_s.2.2
          unfold vld at w_s
          dsimp only at c12_s
          rw [cC] at c12_s
          omega)
      · exfalso
        dsimp only at c15_s
        rw [zne_up (by omega), zne_up (by omega), zne_up (by omega)] at c15_s
        omega
      · dsimp only at c6_s c7_s c8_s c9_s c10_s c11_s c12_s c13_s
        rw [cA_s] at c6_s c7_s
        rw [cB_s] at c8_s c9_s
        rw [cA_s, cB_s] at c10_s
        rw [cC] at c11_s c12_s
        have okj : okR c_s len_s i_s R_s j_s := ⟨hb_s, by omega, by unfold vld; omega⟩
        dsimp only
        rw [cA_s, cB_s, cC, yr]
        refine rd96 hk hd_s hc_s hlen hl60 hx3 hn t_s F_s (j_s + 1) (x5_s + 1) (x6 + 3) _ ?_ ?_ ?_ (fun m_s hm_s => ?_) ?_ (by omega) (fun m_s hm_s => ?_) (fun o k_s g1 g2 => ?_)
        · rw [in1_ (by omega)]
          omega
        · omega
        · omega
        · by_cases e_s : m_s = j_s
          · rw [e_s]
            exact okj
          · exact hok m_s (by omega)
        · rw [zsame_up, zne_up (by omega), zne_up (by omega), zne_up (by omega), in1_ (by omega)]
          omega
        · by_cases e_s : m_s = j_s
          · subst e_s
            refine ⟨?_, ?_, ?_⟩
            · rw [zne_up (by omega), zne_up (by omega), zne_up (by omega), zsame_up]
            · rw [zne_up (by omega), zne_up (by omega), zsame_up]
            · rw [zne_up (by omega), zsame_up]
          · have g_s := hct m_s (by omega)
            refine ⟨?_, ?_, ?_⟩
            · rw [zne_up (by omega), zne_up (by omega), zne_up (by omega), zne_up (by omega)]
              exact g_s.1
            · rw [zne_up (by omega), zne_up (by omega), zne_up (by omega), zne_up (by omega)]
              exact g_s.2.1
            · rw [zne_up (by omega), zne_up (by omega), zne_up (by omega), zne_up (by omega)]
              exact g_s.2.2
        · rw [zne_up (by omega), zne_up (by omega), zne_up (by omega), zne_up (by omega)]
          exact hfr o k_s g1 (by omega)
      · exact fail_s (fun w_s => by
          have w_s := w_s.2.1
          dsimp only at c13_s
          omega)
      · exact fail_s (fun w_s => by
          have w_s := w_s.2.2
          unfold vld at w_s
          dsimp only at c9_s
          rw [cB_s] at c9_s
          omega)
      · exact fail_s (fun w_s => by
          have w_s := w_s.2.2
          unfold vld at w_s
          dsimp only at c7_s
          rw [cA_s] at c7_s
          omega)
      · exfalso
        dsimp only at c2_s
        omega
      · exact all_ (by omega)
    · refine sg_96_61 (h_s := (h_s.1, f_s, h_s.2.2.1, h_s.2.2.2)) hd_s hk ⟨fun c1_s => ⟨fun c2_s => ?_, fun c2_s => fail_s (fun w_s => hb_s w_s.1)⟩, fun c1_s => all_ (by omega)⟩
      exfalso
      dsimp only at c2_s
      omega
theorem rd60 {h_s : zH} {K_s : Int32 → zH → Prop} {n_s R_s i_s len_s : Nat} {c_s : Nat → Int64} {f0_s : Nat → Nat → Int32} {x1_s x2_s x3 : Int32} (hk : hKn h_s) (b1 : 0 ≤ x1_s.toInt) (b2 : x1_s.toInt ≤ 5) (hx2 : x2_s.toInt = (i_s : Int)) (hc_s : ∀ k_s, k_s < 60 → h_s.2.2.1 126 (60 * zix x1_s + k_s) = c_s k_s) (hlen : (f0_s 125 (zix x1_s)).toInt = (len_s : Int)) (hl60 : len_s ≤ 60) (hx3 : x3.toInt = (n_s : Int)) (hn : n_s ≤ 12) (t_s : ∀ (k_s : Nat) (v_s : Int32) f1_s, v_s.toInt = (k_s : Int) → lstR c_s len_s i_s R_s n_s k_s → (f1_s 102 8).toInt = ((R_s + k_s : Nat) : Int) → R_s + k_s ≤ 12 → ct60 c_s i_s R_s k_s f1_s → fr60 R_s k_s f0_s f1_s → K_s v_s (h_s.1, f1_s, h_s.2.2.1, h_s.2.2.2)) : ∀ (F_s j_s : Nat) (x4_s x5_s : Int32) (l6 : Option Value) (f_s : Nat → Nat → Int32), x4_s.toInt = (j_s : Int) → ¬ x5_s.toInt = 0 → j_s ≤ n_s → (∀ m_s, m_s < j_s → okR c_s len_s i_s R_s m_s) → (f_s 102 8).toInt = ((R_s + j_s : Nat) : Int) → R_s + j_s ≤ 12 → ct60 c_s i_s R_s j_s f_s → fr60 R_s j_s f0_s f_s → wF F_s 160 (69, [some (.ref 102), some (.int x1_s), some (.int x2_s), some (.int x3), some (.int x4_s), some (.int x5_s), l6], [], (h_s.1, f_s, h_s.2.2.1, h_s.2.2.2)) (gI K_s)
  | 0, _, _, _, _, _, _, _, _, _, _, _, _, _ => wF_zero
  | F_s + 1, j_s, x4_s, x5_s, l6, f_s, hx4, h5, hj, hok, hR, hR12, hct, hfr => by
    have el : (f_s 125 (zix x1_s)).toInt = (len_s : Int) := by
      rw [hfr _ _ (by omega) (by omega) (by omega)]
      exact hlen
    have e3_s : (3 * x4_s).toInt = 3 * (j_s : Int) := by
      rw [na_mul (by rw [i3_]; omega) (by rw [i3_]; omega), i3_, hx4]
    have e0_s : (f_s 125 (zix x1_s) - 3).toInt = (len_s : Int) - 3 := by
      rw [na_sub (by rw [i3_]; omega) (by rw [i3_]; omega), i3_, el]
    have e1_s : (f_s 125 (zix x1_s) - 3 - 3 * x4_s).toInt = (len_s : Int) - 3 - 3 * (j_s : Int) := by
      rw [na_sub (by rw [e0_s, e3_s]; omega) (by rw [e0_s, e3_s]; omega), e0_s, e3_s]
    have fail_s : ¬ okR c_s len_s i_s R_s j_s → ∀ (F1_s : Nat) (l : Option Value), wF F1_s 160 (69, [some (.ref 102), some (.int x1_s), some (.int x2_s), some (.int x3), some (.int x4_s), some (.int 0), l], [], (h_s.1, f_s, h_s.2.2.1, h_s.2.2.2)) (gI K_s) := fun w_s F1_s l => wF_le (Nat.le_succ F1_s) (sg_160_69 (h_s := (h_s.1, f_s, h_s.2.2.1, h_s.2.2.2)) hk ⟨fun _ => t_s j_s x4_s f_s hx4 ⟨hj, hok, Or.inr w_s⟩ hR hR12 hct hfr, fun q_s => absurd rfl q_s⟩)
    have stop_s : ¬ okR c_s len_s i_s R_s j_s → ∀ (x6 : Int32), wF F_s 160 (126, [some (.ref 102), some (.int x1_s), some (.int x2_s), some (.int x3), some (.int x4_s), some (.int 0), some (.int x6)], [], (h_s.1, f_s, h_s.2.2.1, h_s.2.2.2)) (gI K_s) := fun w_s x6 => wF_le (Nat.le_succ F_s) (sg_160_126 (h_s := (h_s.1, f_s, h_s.2.2.1, h_s.2.2.2)) hk ⟨fun _ => fail_s w_s F_s _, fun q_s => absurd rfl q_s⟩)
    refine sg_160_69 (h_s := (h_s.1, f_s, h_s.2.2.1, h_s.2.2.2)) hk ⟨fun q_s => absurd q_s h5, fun _ => ⟨fun c2_s => fun c3_s => ⟨fun c4_s => ?_, fun c4_s => ⟨fun c5_s => ?_, fun c5_s => ?_⟩⟩, fun c2_s => t_s j_s x4_s f_s hx4 ⟨hj, hok, Or.inl (by omega)⟩ hR hR12 hct hfr⟩⟩
    · exact stop_s (fun w_s => by
        have w_s := w_s.1
        dsimp only at c4_s
        omega) _
    · dsimp only at c4_s c5_s
      have a0_s := azix (i := x1_s) b1
      have g1 := a60_ (d_s := x1_s) (i_s := x2_s) b1 b2 (by omega) (by omega)
      have g2 : (60 * x1_s + x2_s + 3 * x4_s).toInt = 60 * x1_s.toInt + (i_s : Int) + 3 * (j_s : Int) := by
        rw [na_add (by rw [g1, e3_s]; omega) (by rw [g1, e3_s]; omega), g1, e3_s, hx2]
      generalize hx6 : 60 * x1_s + x2_s + 3 * x4_s = x6 at g2 ⊢
      have z0 := azix (i := x6) (by omega)
      have a1_s := in1_ (x_s := x6) (by omega)
      have a2 : (x6 + 2).toInt = x6.toInt + 2 := by rw [na_add (by rw [i2_]; omega) (by rw [i2_]; omega), i2_]
      have z1 := azix (i := x6 + 1) (by omega)
      have z2 := azix (i := x6 + 2) (by omega)
      have y0 : zix x6 = 60 * zix x1_s + (i_s + 3 * j_s) := by omega
      have y1 : zix (x6 + 1) = 60 * zix x1_s + (i_s + 3 * j_s + 1) := by omega
      have y2 : zix (x6 + 2) = 60 * zix x1_s + (i_s + 3 * j_s + 2) := by omega
      have cA_s : h_s.2.2.1 126 (zix x6) = c_s (i_s + 3 * j_s) := by rw [y0]; exact hc_s _ (by omega)
      have cB_s : h_s.2.2.1 126 (zix (x6 + 1)) = c_s (i_s + 3 * j_s + 1) := by rw [y1]; exact hc_s _ (by omega)
      have cC : h_s.2.2.1 126 (zix (x6 + 2)) = c_s (i_s + 3 * j_s + 2) := by rw [y2]; exact hc_s _ (by omega)
      have zr_ := azix (i := f_s 102 8) (by omega)
      have yr : zix (f_s 102 8) = R_s + j_s := by omega
      have e68 : (68 + f_s 102 8).toInt = 68 + ((R_s + j_s : Nat) : Int) := by rw [na_add (by rw [i68_]; omega) (by rw [i68_]; omega), i68_, hR]
      have z68 := azix (i := 68 + f_s 102 8) (by omega)
      have y68 : zix (68 + f_s 102 8) = 68 + (R_s + j_s) := by omega
      refine wF_le (Nat.le_succ F_s) (sg_160_126 (h_s := (h_s.1, f_s, h_s.2.2.1, h_s.2.2.2)) hk ⟨fun q_s => absurd q_s (by decide), fun _ => fun k2_s => fun k3_s => fun k4_s => ⟨fun k5_s => ?_, fun k5_s => ⟨fun k6_s => ?_, fun k6_s => ⟨fun k7_s => ?_, fun k7_s => ⟨fun k8_s => ?_, fun k8_s => ⟨fun k9 => ?_, fun k9 => ⟨fun k10 => ?_, fun k10 => ⟨fun k11 => ?_, fun k11 => fun k15 => fun k17 => ?_⟩⟩⟩⟩⟩⟩⟩⟩)
      · exact fail_s (fun w_s => by
          have w_s := w_s.2.2
          unfold vld at w_s
          dsimp only at k5_s
          rw [cA_s] at k5_s
          omega) F_s _
      · exact fail_s (fun w_s => by
          have w_s := w_s.2.2
          unfold vld at w_s
          dsimp only at k6_s
          rw [cA_s] at k6_s
          omega) F_s _
      · exact fail_s (fun w_s => by
          have w_s := w_s.2.2
          unfold vld at w_s
          dsimp only at k7_s
          rw [cB_s] at k7_s
          omega) F_s _
      · exact fail_s (fun w_s => by
          have w_s := w_s.2.2
          unfold vld at w_s
          dsimp only at k8_s
          rw [cB_s] at k8_s
          omega) F_s _
      · exact fail_s (fun w_s => by
          have w_s := w_s.2.2
          unfold vld at w_s
          dsimp only at k9
          rw [cA_s, cB_s] at k9
          omega) F_s _
      · exact fail_s (fun w_s => by
          have w_s := w_s.2.2
          unfold vld at w_s
          dsimp only at k10
          rw [cC] at k10
          omega) F_s _
      · exact fail_s (fun w_s => by
          have w_s := w_s.2.2
          unfold vld at w_s
          dsimp only at k11
          rw [cC] at k11
          omega) F_s _
      · dsimp only at k5_s k6_s k7_s k8_s k9 k10 k11
        rw [cA_s] at k5_s k6_s
        rw [cB_s] at k7_s k8_s
        rw [cA_s, cB_s] at k9
        rw [cC] at k10 k11
        have okj : okR c_s len_s i_s R_s j_s := ⟨by omega, by omega, by unfold vld; omega⟩
        dsimp only
        rw [cA_s, cB_s, cC, yr, y68]
        refine rd60 hk b1 b2 hx2 hc_s hlen hl60 hx3 hn t_s F_s (j_s + 1) (x4_s + 1) 1 _ _ ?_ (by decide) (by omega) (fun m_s hm_s => ?_) ?_ (by omega) (fun m_s hm_s => ?_) (fun o k_s g3_s g4 g5_s => ?_)
        · rw [in1_ (by omega)]
          omega
        · by_cases e_s : m_s = j_s
          · rw [e_s]
            exact okj
          · exact hok m_s (by omega)
        · rw [zsame_up, in1_ (by omega)]
          omega
        · by_cases e_s : m_s = j_s
          · subst e_s
            refine ⟨?_, ?_, ?_⟩
            · rw [zne_up (by omega), zne_up (by omega), zne_up (by omega), zsame_up]
            · rw [zne_up (by omega), zne_up (by omega), zsame_up]
            · rw [zne_up (by omega), zsame_up]
          · have g_s := hct m_s (by omega)
            refine ⟨?_, ?_, ?_⟩
            · rw [zne_up (by omega), zne_up (by omega), zne_up (by omega), zne_up (by omega)]
              exact g_s.1
            · rw [zne_up (by omega), zne_up (by omega), zne_up (by omega), zne_up (by omega)]
              exact g_s.2.1
            · rw [zne_up (by omega), zne_up (by omega), zne_up (by omega), zne_up (by omega)]
              exact g_s.2.2
        · rw [zne_up (by omega), zne_up (by omega), zne_up (by omega), zne_up (by omega)]
          exact hfr o k_s g3_s (by omega) (by omega)
    · exact stop_s (fun w_s => by
        have w_s := w_s.2.1
        dsimp only at c5_s
        omega) _
/-- how many roads there are -/
def tR (h_s : zH) : Prop := h_s.2.1 7 8 = h_s.2.1 102 8 ∧ 0 ≤ (h_s.2.1 7 8).toInt ∧ (h_s.2.1 7 8).toInt ≤ 12
