/-! SHELVES, by hand: class and reference hold the same. -/
/-- Arrays.fill of a row of longs -/
theorem fillJ {o m_s : Nat} {y_s : Int64} {h_s : zH} {K_s : zH → Prop} (hm_s : m_s ≤ 3072) (hk : hKn h_s) (hz : zget h_s.1 o = some (1, m_s)) (t_s : ∀ g_s, (∀ k_s, k_s < m_s → g_s o k_s = y_s) → (∀ a_s k_s, ¬ (a_s = o ∧ k_s < m_s) → g_s a_s k_s = h_s.2.2.1 a_s k_s) → K_s (h_s.1, h_s.2.1, g_s, h_s.2.2.2)) : ∀ (F_s j_s : Nat) (i_s : Int32) (g_s : Nat → Nat → Int64), i_s.toInt = (j_s : Int) → j_s ≤ m_s → (∀ k_s, k_s < j_s → g_s o k_s = y_s) → (∀ a_s k_s, ¬ (a_s = o ∧ k_s < j_s) → g_s a_s k_s = h_s.2.2.1 a_s k_s) → wF F_s 239 (6, [some (.ref o), some (.long y_s), none, some (.int i_s), some (.int (Int32.ofNat m_s))], [], (h_s.1, h_s.2.1, g_s, h_s.2.2.2)) (gV K_s)
  | 0, _, _, _, _, _, _, _ => wF_zero
  | F_s + 1, j_s, i_s, g_s, hi_s, hj, g1, g2 => by
    have em := na_ofn hm_s
    refine sg_239_6 (h_s := (h_s.1, h_s.2.1, g_s, h_s.2.2.2)) hz hk ⟨fun c1_s => fun c2_s => ?_, fun c1_s => ?_⟩
    · have zi_ := azix (i := i_s) (by omega)
      have ez : zix i_s = j_s := by omega
      refine fillJ hm_s hk hz t_s F_s (j_s + 1) (i_s + 1) _ (by rw [in1_ (by omega)]; omega) (by omega) (fun k_s hk1 => ?_) (fun a_s k_s hk1 => ?_)
      · by_cases e_s : k_s = j_s
        · subst e_s
          rw [ez]
          exact zsame_up
        · rw [zne_up (by omega)]
          exact g1 k_s (by omega)
      · rw [zne_up (by omega)]
        exact g2 a_s k_s (by omega)
    · have ej : j_s = m_s := by omega
      subst ej
      exact t_s g_s g1 g2
section SH
variable {F_s : Nat} {h_s : zH} {K_s : Int32 → zH → Prop} {L_s : Int64 → zH → Prop} {x1_s x2_s x3 x4_s x5_s : Int32} {y3 : Int64}
/-- row -/
theorem sp_129 (hk : hKn h_s) (t1_s : x1_s.toInt < 0 ∨ 5 < x1_s.toInt ∨ x2_s.toInt < 0 ∨ 4 < x2_s.toInt ∨ 60 < x3.toInt → K_s (-1) h_s) (t2_s : ¬ (x1_s.toInt < 0 ∨ 5 < x1_s.toInt ∨ x2_s.toInt < 0 ∨ 4 < x2_s.toInt ∨ 60 < x3.toInt) → x3.toInt < 0 → K_s (-14) h_s) (t3_s : ¬ (x1_s.toInt < 0 ∨ 5 < x1_s.toInt ∨ x2_s.toInt < 0 ∨ 4 < x2_s.toInt ∨ 60 < x3.toInt) → ¬ x3.toInt < 0 → zix x1_s < 6 → ∀ g_s, (∀ k_s, k_s < 60 → g_s (76 + 2 * zix x1_s + 1) k_s = 0) → (∀ a_s k_s, ¬ (a_s = 76 + 2 * zix x1_s + 1 ∧ k_s < 60) → g_s a_s k_s = h_s.2.2.1 a_s k_s) → K_s 1 (h_s.1, zup (zup (zup h_s.2.1 (76 + 2 * zix x1_s) 0 2) (76 + 2 * zix x1_s) 2 x2_s) (76 + 2 * zix x1_s) 3 x3, g_s, h_s.2.2.2)) : wF F_s 129 (0, [some (.ref 6), some (.int x1_s), some (.int x2_s), some (.int x3)], [], h_s) (gI K_s) := by
  refine wF_le (Nat.le_succ F_s) (sg_129_0 hk ⟨fun c1_s => t1_s (by omega), fun c1_s => ⟨fun c2_s => ⟨fun c3_s => t1_s (by omega), fun c3_s => ⟨fun c4_s => t1_s (by omega), fun c4_s => ⟨fun c5_s => t1_s (by omega), fun c5_s => ⟨fun c6_s => t2_s (by omega) c6_s, fun c6_s => fun c7_s => ?_⟩⟩⟩⟩, fun c2_s => t1_s (by omega)⟩⟩)
  cases F_s with
  | zero => exact wF_zero
  | succ F_s =>
    refine sg_239_0 (h_s := (h_s.1, zup (zup (zup h_s.2.1 (76 + 2 * zix x1_s) 0 2) (76 + 2 * zix x1_s) 2 x2_s) (76 + 2 * zix x1_s) 3 x3, h_s.2.2.1, h_s.2.2.2)) (kshz hk c7_s) hk ?_
    exact fillJ (h_s := (h_s.1, zup (zup (zup h_s.2.1 (76 + 2 * zix x1_s) 0 2) (76 + 2 * zix x1_s) 2 x2_s) (76 + 2 * zix x1_s) 3 x3, h_s.2.2.1, h_s.2.2.2)) (by omega) hk (kshz hk c7_s) (fun g_s g1 g2 _ => t3_s (by omega) c6_s c7_s g_s g1 g2) F_s 0 0 _ rfl (Nat.zero_le _) (fun k_s hq => absurd hq (Nat.not_lt_zero k_s)) (fun _ _ _ => rfl)
theorem row_r {h_s : zH} {K_s : Int32 → zH → Prop} (hk : hKn h_s) (h0 : 0 ≤ x1_s.toInt) (h1 : x1_s.toInt ≤ 5) (t_s : ∀ g_s, (∀ k_s, 60 * zix x1_s ≤ k_s → k_s < 60 * zix x1_s + 60 → g_s 126 k_s = 0) → (∀ a_s k_s, ¬ (a_s = 126 ∧ 60 * zix x1_s ≤ k_s ∧ k_s < 60 * zix x1_s + 60) → g_s a_s k_s = h_s.2.2.1 a_s k_s) → K_s 1 (h_s.1, h_s.2.1, g_s, h_s.2.2.2)) : ∀ (F_s j_s : Nat) (i_s : Int32) (g_s : Nat → Nat → Int64), i_s.toInt = (60 * zix x1_s + j_s : Nat) → j_s ≤ 60 → (∀ k_s, 60 * zix x1_s ≤ k_s → k_s < 60 * zix x1_s + j_s → g_s 126 k_s = 0) → (∀ a_s k_s, ¬ (a_s = 126 ∧ 60 * zix x1_s ≤ k_s ∧ k_s < 60 * zix x1_s + j_s) → g_s a_s k_s = h_s.2.2.1 a_s k_s) → wF F_s 230 (57, [some (.ref 102), some (.int x1_s), some (.int x2_s), some (.int x3), some (.int i_s)], [], (h_s.1, h_s.2.1, g_s, h_s.2.2.2)) (gI K_s)
  | 0, _, _, _, _, _, _, _ => wF_zero
  | F_s + 1, j_s, i_s, g_s, hi_s, hj, g1, g2 => by
    have e1_s := a60_ (i_s := 60) h0 h1 (by decide) (by decide)
    rw [i60_] at e1_s
    have a1_s := azix h0
    refine sg_230_57 (h_s := (h_s.1, h_s.2.1, g_s, h_s.2.2.2)) hk ⟨fun c1_s => fun c2_s => ?_, fun c1_s => ?_⟩
    · have zi_ := azix (i := i_s) (by omega)
      have ez : zix i_s = 60 * zix x1_s + j_s := by omega
      refine row_r hk h0 h1 t_s F_s (j_s + 1) (i_s + 1) _ (by rw [in1_ (by omega)]; omega) (by omega) (fun k_s hk1 hk2 => ?_) (fun a_s k_s hk1 => ?_)
      · by_cases e_s : k_s = 60 * zix x1_s + j_s
        · subst e_s
          rw [ez]
          exact zsame_up
        · rw [zne_up (by omega)]
          exact g1 k_s hk1 (by omega)
      · rw [zne_up (by omega)]
        exact g2 a_s k_s (by omega)
    · have ej : j_s = 60 := by omega
      subst ej
      exact t_s g_s g1 g2
theorem sp_230 (hk : hKn h_s) (t1_s : x1_s.toInt < 0 ∨ 5 < x1_s.toInt ∨ x2_s.toInt < 0 ∨ 4 < x2_s.toInt ∨ 60 < x3.toInt → K_s (-1) h_s) (t2_s : ¬ (x1_s.toInt < 0 ∨ 5 < x1_s.toInt ∨ x2_s.toInt < 0 ∨ 4 < x2_s.toInt ∨ 60 < x3.toInt) → x3.toInt < 0 → K_s (-14) h_s) (t3_s : ¬ (x1_s.toInt < 0 ∨ 5 < x1_s.toInt ∨ x2_s.toInt < 0 ∨ 4 < x2_s.toInt ∨ 60 < x3.toInt) → ¬ x3.toInt < 0 → zix x1_s < 6 → ∀ g_s, (∀ k_s, 60 * zix x1_s ≤ k_s → k_s < 60 * zix x1_s + 60 → g_s 126 k_s = 0) → (∀ a_s k_s, ¬ (a_s = 126 ∧ 60 * zix x1_s ≤ k_s ∧ k_s < 60 * zix x1_s + 60) → g_s a_s k_s = h_s.2.2.1 a_s k_s) → K_s 1 (h_s.1, zup (zup h_s.2.1 124 (zix x1_s) (50 + x2_s)) 125 (zix x1_s) x3, g_s, h_s.2.2.2)) : wF F_s 230 (0, [some (.ref 102), some (.int x1_s), some (.int x2_s), some (.int x3), none], [], h_s) (gI K_s) := by
  refine wF_le (Nat.le_succ F_s) (sg_230_0 hk ⟨fun c1_s => t1_s (by omega), fun c1_s => ⟨fun c2_s => t1_s (by omega), fun c2_s => ⟨fun c3_s => t1_s (by omega), fun c3_s => ⟨fun c4_s => t1_s (by omega), fun c4_s => ⟨fun c5_s => t1_s (by omega), fun c5_s => ⟨fun c6_s => t2_s (by omega) c6_s, fun c6_s => fun c7_s => ?_⟩⟩⟩⟩⟩⟩)
  have a1_s := azix (i := x1_s) (by omega)
  have e_s := m60_ (d_s := x1_s) (by omega) (by omega)
  exact row_r (h_s := (h_s.1, zup (zup h_s.2.1 124 (zix x1_s) (50 + x2_s)) 125 (zix x1_s) x3, h_s.2.2.1, h_s.2.2.2)) hk (by omega) (by omega) (fun g_s g1 g2 => t3_s (by omega) c6_s c7_s g_s g1 g2) F_s 0 (60 * x1_s) _ (by omega) (Nat.zero_le _) (fun k_s q1_s q2_s => by omega) (fun _ _ _ => rfl)
/-- keep -/
theorem sp_128 (hk : hKn h_s) (t1_s : x1_s.toInt < 0 ∨ 5 < x1_s.toInt ∨ (¬ x2_s.toInt = -1 ∧ (x2_s.toInt < 0 ∨ (h_s.2.1 47 1).toInt ≤ x2_s.toInt)) → K_s (-1) h_s) (t2_s : 0 ≤ x1_s.toInt → x1_s.toInt ≤ 5 → x2_s.toInt = -1 → zix x1_s < 6 → K_s 1 (h_s.1, zup h_s.2.1 (76 + 2 * zix x1_s) 0 0, h_s.2.2.1, h_s.2.2.2)) (t3_s : 0 ≤ x1_s.toInt → x1_s.toInt ≤ 5 → 0 ≤ x2_s.toInt → x2_s.toInt < (h_s.2.1 47 1).toInt → zix x1_s < 6 → K_s 1 (h_s.1, zup (zup h_s.2.1 (76 + 2 * zix x1_s) 0 1) (76 + 2 * zix x1_s) 1 x2_s, h_s.2.2.1, h_s.2.2.2)) : wF F_s 128 (0, [some (.ref 6), some (.int x1_s), some (.int x2_s)], [], h_s) (gI K_s) := by
  refine wF_le (Nat.le_succ F_s) (sg_128_0 hk ⟨fun c1_s => ?_, fun c1_s => ⟨fun c2_s => ⟨fun c3_s => fun c5_s => ?_, fun c3_s => ⟨fun c6_s => ?_, fun c6_s => ⟨fun c7_s => fun c9_s => ?_, fun c7_s => ?_⟩⟩⟩, fun c2_s => ?_⟩⟩)
  · exact t1_s (by omega)
  · exact t2_s (by omega) (by omega) (by omega) (by assumption)
  · exact t1_s (by omega)
  · exact t3_s (by omega) (by omega) (by omega) (by omega) (by assumption)
  · exact t1_s (by omega)
  · exact t1_s (by omega)
theorem sp_229 (hk : hKn h_s) (hb_s : 0 ≤ (h_s.2.1 102 39).toInt) (t1_s : x1_s.toInt < 0 ∨ 5 < x1_s.toInt ∨ (¬ x2_s.toInt = -1 ∧ (x2_s.toInt < 0 ∨ (h_s.2.1 102 39).toInt ≤ x2_s.toInt)) → K_s (-1) h_s) (t2_s : 0 ≤ x1_s.toInt → x1_s.toInt ≤ 5 → (x2_s.toInt = -1 ∨ (0 ≤ x2_s.toInt ∧ x2_s.toInt < (h_s.2.1 102 39).toInt)) → zix x1_s < 6 → K_s 1 (h_s.1, zup (zup h_s.2.1 124 (zix x1_s) x2_s) 125 (zix x1_s) 0, h_s.2.2.1, h_s.2.2.2)) : wF F_s 229 (0, [some (.ref 102), some (.int x1_s), some (.int x2_s)], [], h_s) (gI K_s) := by
  have r_s := na_rng (h_s.2.1 102 39)
  have e_s : (h_s.2.1 102 39 - 1).toInt = (h_s.2.1 102 39).toInt - 1 := by rw [na_sub (by rw [n1_]; omega) (by rw [n1_]; omega), n1_]
  refine wF_le (Nat.le_succ F_s) (sg_229_0 hk ⟨fun c1_s => ?_, fun c1_s => ⟨fun c2_s => ?_, fun c2_s => ⟨fun c3_s => fun c4_s => ?_, fun c3_s => ⟨fun c6_s => ?_, fun c6_s => ⟨fun c7_s => ?_, fun c7_s => fun c8_s => ?_⟩⟩⟩⟩⟩)
  · exact t1_s (by omega)
  · exact t1_s (by omega)
  · exact t2_s (by omega) (by omega) (by omega) (by assumption)
  · exact t1_s (by omega)
  · exact t1_s (by omega)
  · exact t2_s (by omega) (by omega) (by omega) (by assumption)
/-- body -/
theorem sp_125 (hk : hKn h_s) (t1_s : x1_s.toInt < 0 ∨ 7 < x1_s.toInt → K_s (-1) h_s) (t2_s : 0 ≤ x1_s.toInt → x1_s.toInt ≤ 7 → 50 ≤ (h_s.2.1 47 1).toInt → K_s (-3) h_s) (t3_s : 0 ≤ x1_s.toInt → x1_s.toInt ≤ 7 → (h_s.2.1 47 1).toInt < 50 → K_s (h_s.2.1 47 1) (h_s.1, zup (zup h_s.2.1 48 (zix (h_s.2.1 47 1)) x1_s) 47 1 ((h_s.2.1 47 1) + 1), h_s.2.2.1, h_s.2.2.2)) : wF F_s 125 (0, [some (.ref 6), some (.int x1_s)], [], h_s) (gI K_s) := by
  refine wF_le (Nat.le_succ F_s) (sg_125_0 hk ⟨fun c1_s => ?_, fun c1_s => ⟨fun c2_s => ⟨fun c3_s => fun c4_s => ?_, fun c3_s => ?_⟩, fun c2_s => ?_⟩⟩)
  · exact t1_s (by omega)
  · exact t3_s (by omega) (by omega) (by omega)
  · exact t2_s (by omega) (by omega) (by omega)
  · exact t1_s (by omega)
theorem sp_219 (hk : hKn h_s) (t1_s : x1_s.toInt < 0 ∨ 7 < x1_s.toInt → K_s (-1) h_s) (t2_s : 0 ≤ x1_s.toInt → x1_s.toInt ≤ 7 → (h_s.2.1 102 39).toInt = 50 → K_s (-3) h_s) (t3_s : 0 ≤ x1_s.toInt → x1_s.toInt ≤ 7 → ¬ (h_s.2.1 102 39).toInt = 50 → K_s (h_s.2.1 102 39 + 1 - 1) (h_s.1, zup (zup h_s.2.1 122 (zix (h_s.2.1 102 39)) x1_s) 102 39 ((h_s.2.1 102 39) + 1), h_s.2.2.1, h_s.2.2.2)) : wF F_s 219 (0, [some (.ref 102), some (.int x1_s)], [], h_s) (gI K_s) := by
  refine wF_le (Nat.le_succ F_s) (sg_219_0 hk ⟨fun c1_s => ?_, fun c1_s => ⟨fun c2_s => ?_, fun c2_s => ⟨fun c3_s => ?_, fun c3_s => fun c4_s => ?_⟩⟩⟩)
  · exact t1_s (by omega)
  · exact t1_s (by omega)
  · exact t2_s (by omega) (by omega) (by omega)
  · exact t3_s (by omega) (by omega) (by omega)
/-- element -/
theorem sp_131 (hk : hKn h_s) (t1_s : x1_s.toInt < 0 ∨ 5 < x1_s.toInt ∨ ¬ (h_s.2.1 (76 + 2 * zix x1_s) 0).toInt = 2 ∨ x2_s.toInt < 0 ∨ (h_s.2.1 (76 + 2 * zix x1_s) 3).toInt ≤ x2_s.toInt → L_s (-9223372036854775808) h_s) (t2_s : 0 ≤ x1_s.toInt → x1_s.toInt ≤ 5 → zix x1_s < 6 → (h_s.2.1 (76 + 2 * zix x1_s) 0).toInt = 2 → 0 ≤ x2_s.toInt → x2_s.toInt < (h_s.2.1 (76 + 2 * zix x1_s) 3).toInt → zix x2_s < 60 → L_s (h_s.2.2.1 (76 + 2 * zix x1_s + 1) (zix x2_s)) h_s) : wF F_s 131 (0, [some (.ref 6), some (.int x1_s), some (.int x2_s)], [], h_s) (gJ L_s) := by
  refine wF_le (Nat.le_succ F_s) (sg_131_0 hk ⟨fun c1_s => ?_, fun c1_s => ⟨fun c2_s => fun c3_s => ⟨fun c4_s => ?_, fun c4_s => ⟨fun c6_s => ⟨fun c7_s => ?_, fun c7_s => ⟨fun c9_s => fun c11_s => ?_, fun c9_s => ?_⟩⟩, fun c6_s => ?_⟩⟩, fun c2_s => ?_⟩⟩)
  · exact t1_s (by omega)
  · exact t1_s (by omega)
  · exact t1_s (by omega)
  · exact t2_s (by omega) (by omega) (by assumption) (by omega) (by omega) (by omega) (by assumption)
  · exact t1_s (by omega)
  · exact t1_s (by omega)
  · exact t1_s (by omega)
theorem sp_234 (hk : hKn h_s) (t1_s : x1_s.toInt < 0 ∨ 5 < x1_s.toInt ∨ (h_s.2.1 124 (zix x1_s)).toInt < 50 ∨ x2_s.toInt < 0 ∨ (h_s.2.1 125 (zix x1_s)).toInt ≤ x2_s.toInt → L_s (-9223372036854775808) h_s) (t2_s : 0 ≤ x1_s.toInt → x1_s.toInt ≤ 5 → zix x1_s < 6 → 50 ≤ (h_s.2.1 124 (zix x1_s)).toInt → 0 ≤ x2_s.toInt → x2_s.toInt < (h_s.2.1 125 (zix x1_s)).toInt → L_s (h_s.2.2.1 126 (zix (60 * x1_s + x2_s))) h_s) : wF F_s 234 (0, [some (.ref 102), some (.int x1_s), some (.int x2_s)], [], h_s) (gJ L_s) := by
  refine wF_le (Nat.le_succ F_s) (sg_234_0 hk ⟨fun c1_s => ?_, fun c1_s => ⟨fun c2_s => ?_, fun c2_s => fun c3_s => ⟨fun c4_s => ?_, fun c4_s => ⟨fun c6_s => ?_, fun c6_s => ⟨fun c7_s => ?_, fun c7_s => ⟨fun c9_s => fun c10_s => ?_, fun c9_s => ?_⟩⟩⟩⟩⟩⟩)
  · exact t1_s (by omega)
  · exact t1_s (by omega)
  · exact t1_s (by omega)
  · exact t1_s (by omega)
  · exact t1_s (by omega)
  · exact t2_s (by omega) (by omega) (by assumption) (by omega) (by omega) (by omega)
  · exact t1_s (by omega)
end SH
