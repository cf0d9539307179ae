/-! SHELVES, by hand: the reference's shift. -/
section SQ_s
variable {x1_s x2_s x3 x4_s x5_s : Int32} {n_s : Nat} {w_s : Nat → Int64}
theorem shf2 {h_s : zH} {K_s : Int32 → zH → Prop} (hk : hKn h_s) (b1 : 0 ≤ x3.toInt) (b2 : x3.toInt ≤ 5) (b3 : 0 ≤ x4_s.toInt) (b4 : x4_s.toInt + x5_s.toInt ≤ 60) (hn : x5_s.toInt = (n_s : Int)) (t_s : ∀ g_s, (∀ k_s, k_s < n_s → g_s 126 (60 * zix x3 + zix x4_s + k_s) = w_s k_s) → (∀ a_s k_s, a_s ≠ 127 → ¬ (a_s = 126 ∧ 60 * zix x3 + zix x4_s ≤ k_s ∧ k_s < 60 * zix x3 + zix x4_s + n_s) → g_s a_s k_s = h_s.2.2.1 a_s k_s) → K_s x5_s (h_s.1, h_s.2.1, g_s, h_s.2.2.2)) : ∀ (F_s c_s : Nat) (i_s : Int32) (g_s : Nat → Nat → Int64), i_s.toInt = (c_s : Int) → c_s ≤ n_s → (∀ k_s, k_s < n_s → g_s 127 k_s = w_s k_s) → (∀ k_s, k_s < c_s → g_s 126 (60 * zix x3 + zix x4_s + k_s) = w_s k_s) → (∀ a_s k_s, a_s ≠ 127 → ¬ (a_s = 126 ∧ 60 * zix x3 + zix x4_s ≤ k_s ∧ k_s < 60 * zix x3 + zix x4_s + c_s) → g_s a_s k_s = h_s.2.2.1 a_s k_s) → wF F_s 235 (150, [some (.ref 102), some (.int x1_s), some (.int x2_s), some (.int x3), some (.int x4_s), some (.int x5_s), some (.int i_s)], [], (h_s.1, h_s.2.1, g_s, h_s.2.2.2)) (gI K_s)
  | 0, _, _, _, _, _, _, _, _ => wF_zero
  | F_s + 1, c_s, i_s, g_s, hi_s, hc_s, g0, g1, g2 => by
    refine sg_235_150 (h_s := (h_s.1, h_s.2.1, g_s, h_s.2.2.2)) hk ⟨fun c1_s => fun c2_s => fun c3_s => ?_, fun c1_s => ?_⟩
    · have zi_ := azix (i := i_s) (by omega)
      have ez : zix i_s = c_s := by omega
      have e3_s := zx60k (d_s := x3) (i_s := x4_s) (k_s := i_s) b1 b2 b3 (by omega) (by omega) (by omega)
      refine shf2 hk b1 b2 b3 b4 hn t_s F_s (c_s + 1) (i_s + 1) _ (by rw [in1_ (by omega)]; omega) (by omega) (fun k_s hq => ?_) (fun k_s hq => ?_) (fun a_s k_s ha_s hq => ?_)
      · rw [zne_up (by omega)]
        exact g0 k_s hq
      · by_cases e_s : k_s = c_s
        · subst e_s
          rw [e3_s, ez, zsame_up]
          exact g0 k_s (by omega)
        · rw [zne_up (by omega)]
          exact g1 k_s (by omega)
      · rw [zne_up (by omega)]
        exact g2 a_s k_s ha_s (by omega)
    · have ec : c_s = n_s := by omega
      subst ec
      exact t_s g_s g1 g2
theorem shf1 {h_s : zH} {K_s : Int32 → zH → Prop} (hk : hKn h_s) (b1 : 0 ≤ x1_s.toInt) (b2 : x1_s.toInt ≤ 5) (b3 : 0 ≤ x2_s.toInt) (b4 : x2_s.toInt + x5_s.toInt ≤ 60) (hn : x5_s.toInt = (n_s : Int)) : ∀ (F_s c_s : Nat) (i_s : Int32) (g_s : Nat → Nat → Int64) (_ : ∀ F1_s : Nat, ∀ g_s, (∀ k_s, k_s < n_s → g_s 127 k_s = h_s.2.2.1 126 (60 * zix x1_s + zix x2_s + k_s)) → (∀ a_s k_s, a_s ≠ 127 → g_s a_s k_s = h_s.2.2.1 a_s k_s) → wF F1_s 235 (150, [some (.ref 102), some (.int x1_s), some (.int x2_s), some (.int x3), some (.int x4_s), some (.int x5_s), some (.int 0)], [], (h_s.1, h_s.2.1, g_s, h_s.2.2.2)) (gI K_s)), i_s.toInt = (c_s : Int) → c_s ≤ n_s → (∀ k_s, k_s < c_s → g_s 127 k_s = h_s.2.2.1 126 (60 * zix x1_s + zix x2_s + k_s)) → (∀ a_s k_s, a_s ≠ 127 → g_s a_s k_s = h_s.2.2.1 a_s k_s) → wF F_s 235 (113, [some (.ref 102), some (.int x1_s), some (.int x2_s), some (.int x3), some (.int x4_s), some (.int x5_s), some (.int i_s)], [], (h_s.1, h_s.2.1, g_s, h_s.2.2.2)) (gI K_s)
  | 0, _, _, _, _, _, _, _, _ => wF_zero
  | F_s + 1, c_s, i_s, g_s, t_s, hi_s, hc_s, g1, g2 => by
    refine sg_235_113 (h_s := (h_s.1, h_s.2.1, g_s, h_s.2.2.2)) hk ⟨fun c1_s => fun c2_s => fun c3_s => ?_, fun c1_s => ?_⟩
    · have zi_ := azix (i := i_s) (by omega)
      have ez : zix i_s = c_s := by omega
      have e3_s := zx60k (d_s := x1_s) (i_s := x2_s) (k_s := i_s) b1 b2 b3 (by omega) (by omega) (by omega)
      refine shf1 hk b1 b2 b3 b4 hn F_s (c_s + 1) (i_s + 1) _ t_s (by rw [in1_ (by omega)]; omega) (by omega) (fun k_s hq => ?_) (fun a_s k_s ha_s => ?_)
      · by_cases e_s : k_s = c_s
        · subst e_s
          rw [ez, zsame_up]
          show g_s 126 (zix (60 * x1_s + x2_s + i_s)) = _
          rw [e3_s, ez]
          exact g2 126 _ (by omega)
        · rw [zne_up (by omega)]
          exact g1 k_s (by omega)
      · rw [zne_up (by omega)]
        exact g2 a_s k_s ha_s
    · have ec : c_s = n_s := by omega
      subst ec
      exact t_s F_s g_s g1 g2
end SQ_s
section SR
variable {F_s : Nat} {h_s : zH} {K_s : Int32 → zH → Prop} {x1_s x2_s x3 x4_s x5_s : Int32} {n_s : Nat}
theorem sp_235 (hk : hKn h_s) (hl : ∀ d_s, d_s < 6 → 50 ≤ (h_s.2.1 124 d_s).toInt → 0 ≤ (h_s.2.1 125 d_s).toInt ∧ (h_s.2.1 125 d_s).toInt ≤ 60) (t1_s : x1_s.toInt < 0 ∨ 5 < x1_s.toInt ∨ x3.toInt < 0 ∨ 5 < x3.toInt → K_s (-1) h_s) (t2_s : ¬ (x1_s.toInt < 0 ∨ 5 < x1_s.toInt ∨ x3.toInt < 0 ∨ 5 < x3.toInt) → (h_s.2.1 124 (zix x1_s)).toInt < 0 ∨ (h_s.2.1 124 (zix x3)).toInt < 0 → K_s (-11) h_s) (t3_s : ¬ (x1_s.toInt < 0 ∨ 5 < x1_s.toInt ∨ x3.toInt < 0 ∨ 5 < x3.toInt) → ¬ ((h_s.2.1 124 (zix x1_s)).toInt < 0 ∨ (h_s.2.1 124 (zix x3)).toInt < 0) → (h_s.2.1 124 (zix x1_s)).toInt < 50 ∨ ¬ (h_s.2.1 124 (zix x1_s)).toInt = (h_s.2.1 124 (zix x3)).toInt → K_s (-12) h_s) (t4_s : ¬ (x1_s.toInt < 0 ∨ 5 < x1_s.toInt ∨ x3.toInt < 0 ∨ 5 < x3.toInt) → 50 ≤ (h_s.2.1 124 (zix x1_s)).toInt → (h_s.2.1 124 (zix x1_s)).toInt = (h_s.2.1 124 (zix x3)).toInt → x5_s.toInt < 0 ∨ x2_s.toInt < 0 ∨ x4_s.toInt < 0 ∨ (h_s.2.1 125 (zix x1_s)).toInt < x2_s.toInt + x5_s.toInt ∨ (h_s.2.1 125 (zix x3)).toInt < x4_s.toInt + x5_s.toInt → K_s (-13) h_s) (t5_s : ¬ (x1_s.toInt < 0 ∨ 5 < x1_s.toInt ∨ x3.toInt < 0 ∨ 5 < x3.toInt) → 50 ≤ (h_s.2.1 124 (zix x1_s)).toInt → (h_s.2.1 124 (zix x1_s)).toInt = (h_s.2.1 124 (zix x3)).toInt → ¬ (x5_s.toInt < 0 ∨ x2_s.toInt < 0 ∨ x4_s.toInt < 0 ∨ (h_s.2.1 125 (zix x1_s)).toInt < x2_s.toInt + x5_s.toInt ∨ (h_s.2.1 125 (zix x3)).toInt < x4_s.toInt + x5_s.toInt) → ∀ g_s, (∀ k_s, k_s < zix x5_s → g_s 126 (60 * zix x3 + zix x4_s + k_s) = h_s.2.2.1 126 (60 * zix x1_s + zix x2_s + k_s)) → (∀ a_s k_s, a_s ≠ 127 → ¬ (a_s = 126 ∧ 60 * zix x3 + zix x4_s ≤ k_s ∧ k_s < 60 * zix x3 + zix x4_s + zix x5_s) → g_s a_s k_s = h_s.2.2.1 a_s k_s) → K_s x5_s (h_s.1, h_s.2.1, g_s, h_s.2.2.2)) : wF F_s 235 (0, [some (.ref 102), some (.int x1_s), some (.int x2_s), some (.int x3), some (.int x4_s), some (.int x5_s), none], [], h_s) (gI K_s) := by
  have r5_s := na_rng x5_s
  have d1_s : zix x1_s < 6 → 50 ≤ (h_s.2.1 124 (zix x1_s)).toInt → 0 ≤ x5_s.toInt → (h_s.2.1 125 (zix x1_s) - x5_s).toInt = (h_s.2.1 125 (zix x1_s)).toInt - x5_s.toInt := fun p1_s p2_s p3_s => by
    have q_s := hl _ p1_s p2_s
    exact na_sub (by omega) (by omega)
  have d2_s : zix x3 < 6 → 50 ≤ (h_s.2.1 124 (zix x3)).toInt → 0 ≤ x5_s.toInt → (h_s.2.1 125 (zix x3) - x5_s).toInt = (h_s.2.1 125 (zix x3)).toInt - x5_s.toInt := fun p1_s p2_s p3_s => by
    have q_s := hl _ p1_s p2_s
    exact na_sub (by omega) (by omega)
  refine wF_le (Nat.le_succ F_s) (sg_235_0 hk ⟨fun c1_s => ?_, fun c1_s => ⟨fun c2_s => ?_, fun c2_s => ⟨fun c3_s => ?_, fun c3_s => ⟨fun c4_s => ?_, fun c4_s => fun c5_s => ⟨fun c6_s => ?_, fun c6_s => fun c7_s => ⟨fun c8_s => ?_, fun c8_s => ⟨fun c10_s => ?_, fun c10_s => ⟨fun c13_s => ⟨fun c14_s => ?_, fun c14_s => ⟨fun c15_s => ?_, fun c15_s => ⟨fun c16 => ?_, fun c16 => ⟨fun c18_s => ?_, fun c18_s => ⟨fun c20_s => ?_, fun c20_s => ?_⟩⟩⟩⟩⟩, fun c13_s => ?_⟩⟩⟩⟩⟩⟩⟩⟩)
  · exact t1_s (by omega)
  · exact t1_s (by omega)
  · exact t1_s (by omega)
  · exact t1_s (by omega)
  · exact t2_s (by omega) (by omega)
  · exact t2_s (by omega) (by omega)
  · exact t3_s (by omega) (by omega) (by omega)
  · exact t4_s (by omega) (by omega) (by omega) (by omega)
  · exact t4_s (by omega) (by omega) (by omega) (by omega)
  · exact t4_s (by omega) (by omega) (by omega) (by omega)
  · exact t4_s (by omega) (by omega) (by omega) (by omega)
  · exact t4_s (by omega) (by omega) (by omega) (by omega)
  · have l1 := hl (zix x1_s) (by assumption) (by omega)
    have l3 := hl (zix x3) (by assumption) (by omega)
    have z5 := azix (i := x5_s) (by omega)
    refine shf1 (n_s := zix x5_s) hk (by omega) (by omega) (by omega) (by omega) (by omega) F_s 0 0 h_s.2.2.1 (fun F1_s g_s g1 g2 => ?_) rfl (Nat.zero_le _) (fun k_s hq => absurd hq (Nat.not_lt_zero k_s)) (fun _ _ _ => rfl)
    exact shf2 (h_s := h_s) (n_s := zix x5_s) (w_s := fun k_s => h_s.2.2.1 126 (60 * zix x1_s + zix x2_s + k_s)) hk (by omega) (by omega) (by omega) (by omega) (by omega) (fun g3_s p1_s p2_s => t5_s (by omega) (by omega) (by omega) (by omega) g3_s p1_s p2_s) F1_s 0 0 g_s rfl (Nat.zero_le _) g1 (fun k_s hq => absurd hq (Nat.not_lt_zero k_s)) (fun a_s k_s ha_s _ => g2 a_s k_s ha_s)
  · exact t3_s (by omega) (by omega) (by omega)
end SR
