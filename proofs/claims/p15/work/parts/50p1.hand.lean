/-! SHELVES, by hand: class and reference hold the same. -/
/-- Arrays.fill of a row of longs -/
theorem fillJ {o m_s : Nat} {y_s : Int64} {h_s : zH} {K_s : zH → Prop} (hm_s : m_s ≤ 3072) (hk : hKn h_s) (hz : zget h_s.1 o = some (1, m_s)) (t_s : ∀ g_s, (∀ k_s, k_s < m_s → g_s o k_s = y_s) → (∀ a_s k_s, ¬ (a_s = o ∧ k_s < m_s) → g_s a_s k_s = h_s.2.2.1 a_s k_s) → K_s (h_s.1, h_s.2.1, g_s, h_s.2.2.2)) : ∀ (F_s j_s : Nat) (i_s : Int32) (g_s : Nat → Nat → Int64), i_s.toInt = (j_s : Int) → j_s ≤ m_s → (∀ k_s, k_s < j_s → g_s o k_s = y_s) → (∀ a_s k_s, ¬ (a_s = o ∧ k_s < j_s) → g_s a_s k_s = h_s.2.2.1 a_s k_s) → wF F_s 239 (6, [some (.ref o), some (.long y_s), none, some (.int i_s), some (.int (Int32.ofNat m_s))], [], (h_s.1, h_s.2.1, g_s, h_s.2.2.2)) (gV K_s)
  | 0, _, _, _, _, _, _, _ => wF_zero
  | F_s + 1, j_s, i_s, g_s, hi_s, hj, g1, g2 => by
    have em := na_ofn hm_s
    refine sg_239_6 (h_s := (h_s.1, h_s.2.1, g_s, h_s.2.2.2)) hz hk ⟨fun c1_s => fun c2_s => ?_, fun c1_s => ?_⟩
    · have zi_ := azix (i := i_s) (by omega)
      have ez : zix i_s = j_s := by omega
      refine fillJ hm_s hk hz t_s F_s (j_s + 1) (i_s + 1) _ (by rw [in1_ (by omega)]; omega) (by omega) (fun k_s hk1 => ?_) (fun a_s k_s hk1 => ?_)
      · by_cases e_s : k_s = j_s
        · subst e_s
          rw [ez]
          exact zsame_up
        · rw [zne_up (by omega)]
          exact g1 k_s (by omega)
      · rw [zne_up (by omega)]
        exact g2 a_s k_s (by omega)
    · have ej : j_s = m_s := by omega
      subst ej
      exact t_s g_s g1 g2
section SH
variable {F_s : Nat} {h_s : zH} {K_s : Int32 → zH → Prop} {L_s : Int64 → zH → Prop} {x1_s x2_s x3 x4_s x5_s : Int32} {y3 : Int64}
/-- row -/
theorem sp_129 (hk : hKn h_s) (t1_s : x1_s.toInt < 0 ∨ 5 < x1_s.toInt ∨ x2_s.toInt < 0 ∨ 4 < x2_s.toInt ∨ 60 < x3.toInt → K_s (-1) h_s) (t2_s : ¬ (x1_s.toInt < 0 ∨ 5 < x1_s.toInt ∨ x2_s.toInt < 0 ∨ 4 < x2_s.toInt ∨ 60 < x3.toInt) → x3.toInt < 0 → K_s (-14) h_s) (t3_s : ¬ (x1_s.toInt < 0 ∨ 5 < x1_s.toInt ∨ x2_s.toInt < 0 ∨ 4 < x2_s.toInt ∨ 60 < x3.toInt) → ¬ x3.toInt < 0 → zix x1_s < 6 → ∀ g_s, (∀ k_s, k_s < 60 → g_s (76 + 2 * zix x1_s + 1) k_s = 0) → (∀ a_s k_s, ¬ (a_s = 76 + 2 * zix x1_s + 1 ∧ k_s < 60) → g_s a_s k_s = h_s.2.2.1 a_s k_s) → K_s 1 (h_s.1, zup (zup (zup h_s.2.1 (76 + 2 * zix x1_s) 0 2) (76 + 2 * zix x1_s) 2 x2_s) (76 + 2 * zix x1_s) 3 x3, g_s, h_s.2.2.2)) : wF F_s 129 (0, [some (.ref 6), some (.int x1_s), some (.int x2_s), some (.int x3)], [], h_s) (gI K_s) := by
  refine wF_le (Nat.le_succ F_s) (sg_129_0 hk ⟨fun c1_s => t1_s (by omega), fun c1_s => ⟨fun c2_s => ⟨fun c3_s => t1_s (by omega), fun c3_s => ⟨fun c4_s => t1_s (by omega), fun c4_s => ⟨fun c5_s => t1_s (by omega), fun c5_s => ⟨fun c6_s => t2_s (by omega) c6_s, fun c6_s => fun c7_s => ?_⟩⟩⟩⟩, fun c2_s => t1_s (by omega)⟩⟩)
  cases F_s with
  | zero => exact wF_zero
  | succ F_s =>
    refine sg_239_0 (h_s := (h_s.1, zup (zup (zup h_s.2.1 (76 + 2 * zix x1_s) 0 2) (76 + 2 * zix x1_s) 2 x2_s) (76 + 2 * zix x1_s) 3 x3, h_s.2.2.1, h_s.2.2.2)) (kshz hk c7_s) hk ?_
    exact fillJ (h_s := (h_s.1, zup (zup (zup h_s.2.1 (76 + 2 * zix x1_s) 0 2) (76 + 2 * zix x1_s) 2 x2_s) (76 + 2 * zix x1_s) 3 x3, h_s.2.2.1, h_s.2.2.2)) (by omega) hk (kshz hk c7_s) (fun g_s g1 g2 _ => t3_s (by omega) c6_s c7_s g_s g1 g2) F_s 0 0 _ rfl (Nat.zero_le _) (fun k_s hq => absurd hq (Nat.not_lt_zero k_s)) (fun _ _ _ => rfl)
theorem row_r {h_s : zH} {K_s : Int32 → zH → Prop} (hk : hKn h_s) (h0 : 0 ≤ x1_s.toInt) (h1 : x1_s.toInt ≤ 5) (t_s : ∀ g_s, (∀ k_s, 60 * zix x1_s ≤ k_s → k_s < 60 * zix x1_s + 60 → g_s 126 k_s = 0) → (∀ a_s k_s, ¬ (a_s = 126 ∧ 60 * zix x1_s ≤ k_s ∧ k_s < 60 * zix x1_s + 60) → g_s a_s k_s = h_s.2.2.1 a_s k_s) → K_s 1 (h_s.1, h_s.2.1, g_s, h_s.2.2.2)) : ∀ (F_s j_s : Nat) (i_s : Int32) (g_s : Nat → Nat → Int64), i_s.toInt = (60 * zix x1_s + j_s : Nat) → j_s ≤ 60 → (∀ k_s, 60 * zix x1_s ≤ k_s → k_s < 60 * zix x1_s + j_s → g_s 126 k_s = 0) → (∀ a_s k_s, ¬ (a_s = 126 ∧ 60 * zix x1_s ≤ k_s ∧ k_s < 60 * zix x1_s + j_s) → g_s a_s k_s = h_s.2.2.1 a_s k_s) → wF F_s 230 (57, [some (.ref 102), some (.int x1_s), some (.int x2_s), some (.int x3), some (.int i_s)], [], (h_s.1, h_s.2.1, g_s, h_s.2.2.2)) (gI K_s)
  | 0, _, _, _, _, _, _, _ => wF_zero
  | F_s + 1, j_s, i_s, g_s, hi_s, hj, g1, g2 => by
    have e1_s := a60_ (i_s := 60) h0 h1 (by decide) (by decide)
    rw [i60_] at e1_s
    have a1_s := azix h0
    refine sg_230_57 (h_s := (h_s.1, h_s.2.1, g_s, h_s.2.2.2)) hk ⟨fun c1_s => fun c2_s => ?_, fun c1_s => ?_⟩
    · have zi_ := azix (i := i_s) (by omega)
      have ez : zix i_s = 60 * zix x1_s + j_s := by omega
      refine row_r hk h0 h1 t_s F_s (j_s + 1) (i_s + 1) _ (by rw [in1_ (by omega)]; omega) (by omega) (fun k_s hk1 hk2 => ?_) (fun a_s k_s hk1 => ?_)
      · by_cases e_s : k_s = 60 * zix x1_s + j_s
        · subst e_s
          rw [ez]
          exact zsame_up
        · rw [zne_up (by omega)]
          exact g1 k_s hk1 (by omega)
      · rw [zne_up (by omega)]
        exact g2 a_s k_s (by omega)
    · have ej : j_s = 60 := by omega
      subst ej
      exact t_s g_s g1 g2
theorem sp_230 (hk : hKn h_s) (t1_s : x1_s.toInt < 0 ∨ 5 < x1_s.toInt ∨ x2_s.toInt < 0 ∨ 4 < x2_s.toInt ∨ 60 < x3.toInt → K_s (-1) h_s) (t2_s : ¬ (x1_s.toInt < 0 ∨ 5 < x1_s.toInt ∨ x2_s.toInt < 0 ∨ 4 < x2_s.toInt ∨ 60 < x3.toInt) → x3.toInt < 0 → K_s (-14) h_s) (t3_s : ¬ (x1_s.toInt < 0 ∨ 5 < x1_s.toInt ∨ x2_s.toInt < 0 ∨ 4 < x2_s.toInt ∨ 60 < x3.toInt) → ¬ x3.toInt < 0 → zix x1_s < 6 → ∀ g_s, (∀ k_s, 60 * zix x1_s ≤ k_s → k_s < 60 * zix x1_s + 60 → g_s 126 k_s = 0) → (∀ a_s k_s, ¬ (a_s = 126 ∧ 60 * zix x1_s ≤ k_s ∧ k_s < 60 * zix x1_s + 60) → g_s a_s k_s = h_s.2.2.1 a_s k_s) → K_s 1 (h_s.1, zup (zup h_s.2.1 124 (zix x1_s) (50 + x2_s)) 125 (zix x1_s) x3, g_s, h_s.2.2.2)) : wF F_s 230 (0, [some (.ref 102), some (.int x1_s), some (.int x2_s), some (.int x3), none], [], h_s) (gI K_s) := by
  refine wF_le (Nat.le_succ F_s) (sg_230_0 hk ⟨fun c1_s => t1_s (by omega), fun c1_s => ⟨fun c2_s => t1_s (by omega), fun c2_s => ⟨fun c3_s => t1_s (by omega), fun c3_s => ⟨fun c4_s => t1_s (by omega), fun c4_s => ⟨fun c5_s => t1_s (by omega), fun c5_s => ⟨fun c6_s => t2_s (by omega) c6_s, fun c6_s => fun c7_s => ?_⟩⟩⟩⟩⟩⟩)
  have a1_s := azix (i := x1_s) (by omega)
  have e_s := m60_ (d_s := x1_s) (by omega) (by omega)
  exact row_r (h_s := (h_s.1, zup (zup h_s.2.1 124 (zix x1_s) (50 + x2_s)) 125 (zix x1_s) x3, h_s.2.2.1, h_s.2.2.2)) hk (by omega) (by omega) (fun g_s g1 g2 => t3_s (by omega) c6_s c7_s g_s g1 g2) F_s 0 (60 * x1_s) _ (by omega) (Nat.zero_le _) (fun k_s q1_s q2_s => by omega) (fun _ _ _ => rfl)
/-- keep -/
theorem sp_128 (hk : hKn h_s) (t1_s : x1_s.toInt < 0 ∨ 5 < x1_s.toInt ∨ (¬ x2_s.toInt = -1 ∧ (x2_s.toInt < 0 ∨ (h_s.2.1 47 1).toInt ≤ x2_s.toInt)) → K_s (-1) h_s) (t2_s : 0 ≤ x1_s.toInt → x1_s.toInt ≤ 5 → x2_s.toInt = -1 → zix x1_s < 6 → K_s 1 (h_s.1, zup h_s.2.1 (76 + 2 * zix x1_s) 0 0, h_s.2.2.1, h_s.2.2.2)) (t3_s : 0 ≤ x1_s.toInt → x1_s.toInt ≤ 5 → 0 ≤ x2_s.toInt → x2_s.toInt < (h_s.2.1 47 1).toInt → zix x1_s < 6 → K_s 1 (h_s.1, zup (zup h_s.2.1 (76 + 2 * zix x1_s) 0 1) (76 + 2 * zix x1_s) 1 x2_s, h_s.2.2.1, h_s.2.2.2)) : wF F_s 128 (0, [some (.ref 6), some (.int x1_s), some (.int x2_s)], [], h_s) (gI K_s) := by
  refine wF_le (Nat.le_succ F_s) (sg_128_0 hk ⟨fun c1_s => ?_, fun c1_s => ⟨fun c2_s => ⟨fun c3_s => fun c5_s => ?_, fun c3_s => ⟨fun c6_s => ?_, fun c6_s => ⟨fun c7_s => fun c9_s => ?_, fun c7_s => ?_⟩⟩⟩, fun c2_s => ?_⟩⟩)
  · exact t1_s (by omega)
  · exact t2_s (by omega) (by omega) (by omega) (by assumption)
  · exact t1_s (by omega)
  · exact t3_s (by omega) (by omega) (by omega) (by omega) (by assumption)
  · exact t1_s (by omega)
  · exact t1_s (by omega)
theorem sp_229 (hk : hKn h_s) (hb_s : 0 ≤ (h_s.2.1 102 39).toInt) (t1_s : x1_s.toInt < 0 ∨ 5 < x1_s.toInt ∨ (¬ x2_s.toInt = -1 ∧ (x2_s.toInt < 0 ∨ (h_s.2.1 102 39).toInt ≤ x2_s.toInt)) → K_s (-1) h_s) (t2_s : 0 ≤ x1_s.toInt → x1_s.toInt ≤ 5 → (x2_s.toInt = -1 ∨ (0 ≤ x2_s.toInt ∧ x2_s.toInt < (h_s.2.1 102 39).toInt)) → zix x1_s < 6 → K_s 1 (h_s.1, zup (zup h_s.2.1 124 (zix x1_s) x2_s) 125 (zix x1_s) 0, h_s.2.2.1, h_s.2.2.2)) : wF F_s 229 (0, [some (.ref 102), some (.int x1_s), some (.int x2_s)], [], h_s) (gI K_s) := by
  have r_s := na_rng (h_s.2.1 102 39)
  have e_s : (h_s.2.1 102 39 - 1).toInt = (h_s.2.1 102 39).toInt - 1 := by rw [na_sub (by rw [n1_]; omega) (by rw [n1_]; omega), n1_]
  refine wF_le (Nat.le_succ F_s) (sg_229_0 hk ⟨fun c1_s => ?_, fun c1_s => ⟨fun c2_s => ?_, fun c2_s => ⟨fun c3_s => fun c4_s => ?_, fun c3_s => ⟨fun c6_s => ?_, fun c6_s => ⟨fun c7_s => ?_, fun c7_s => fun c8_s => ?_⟩⟩⟩⟩⟩)
  · exact t1_s (by omega)
  · exact t1_s (by omega)
  · exact t2_s (by omega) (by omega) (by omega) (by assumption)
  · exact t1_s (by omega)
  · exact t1_s (by omega)
  · exact t2_s (by omega) (by omega) (by omega) (by assumption)
/-- body -/
theorem sp_125 (hk : hKn h_s) (t1_s : x1_s.toInt < 0 ∨ 7 < x1_s.toInt → K_s (-1) h_s) (t2_s : 0 ≤ x1_s.toInt → x1_s.toInt ≤ 7 → 50 ≤ (h_s.2.1 47 1).toInt → K_s (-3) h_s) (t3_s : 0 ≤ x1_s.toInt → x1_s.toInt ≤ 7 → (h_s.2.1 47 1).toInt < 50 → K_s (h_s.2.1 47 1) (h_s.1, zup (zup h_s.2.1 48 (zix (h_s.2.1 47 1)) x1_s) 47 1 ((h_s.2.1 47 1) + 1), h_s.2.2.1, h_s.2.2.2)) : wF F_s 125 (0, [some (.ref 6), some (.int x1_s)], [], h_s) (gI K_s) := by
  refine wF_le (Nat.le_succ F_s) (sg_125_0 hk ⟨fun c1_s => ?_, fun c1_s => ⟨fun c2_s => ⟨fun c3_s => fun c4_s => ?_, fun c3_s => ?_⟩, fun c2_s => ?_⟩⟩)
  · exact t1_s (by omega)
  · exact t3_s (by omega) (by omega) (by omega)
  · exact t2_s (by omega) (by omega) (by omega)
  · exact t1_s (by omega)
theorem sp_219 (hk : hKn h_s) (t1_s : x1_s.toInt < 0 ∨ 7 < x1_s.toInt → K_s (-1) h_s) (t2_s : 0 ≤ x1_s.toInt → x1_s.toInt ≤ 7 → (h_s.2.1 102 39).toInt = 50 → K_s (-3) h_s) (t3_s : 0 ≤ x1_s.toInt → x1_s.toInt ≤ 7 → ¬ (h_s.2.1 102 39).toInt = 50 → K_s (h_s.2.1 102 39 + 1 - 1) (h_s.1, zup (zup h_s.2.1 122 (zix (h_s.2.1 102 39)) x1_s) 102 39 ((h_s.2.1 102 39) + 1), h_s.2.2.1, h_s.2.2.2)) : wF F_s 219 (0, [some (.ref 102), some (.int x1_s)], [], h_s) (gI K_s) := by
  refine wF_le (Nat.le_succ F_s) (sg_219_0 hk ⟨fun c1_s => ?_, fun c1_s => ⟨fun c2_s => ?_, fun c2_s => ⟨fun c3_s => ?_, fun c3_s => fun c4_s => ?_⟩⟩⟩)
  · exact t1_s (by omega)
  · exact t1_s (by omega)
  · exact t2_s (by omega) (by omega) (by omega)
  · exact t3_s (by omega) (by omega) (by omega)
/-- element -/
theorem sp_131 (hk : hKn h_s) (t1_s : x1_s.toInt < 0 ∨ 5 < x1_s.toInt ∨ ¬ (h_s.2.1 (76 + 2 * zix x1_s) 0).toInt = 2 ∨ x2_s.toInt < 0 ∨ (h_s.2.1 (76 + 2 * zix x1_s) 3).toInt ≤ x2_s.toInt → L_s (-9223372036854775808) h_s) (t2_s : 0 ≤ x1_s.toInt → x1_s.toInt ≤ 5 → zix x1_s < 6 → (h_s.2.1 (76 + 2 * zix x1_s) 0).toInt = 2 → 0 ≤ x2_s.toInt → x2_s.toInt < (h_s.2.1 (76 + 2 * zix x1_s) 3).toInt → zix x2_s < 60 → L_s (h_s.2.2.1 (76 + 2 * zix x1_s + 1) (zix x2_s)) h_s) : wF F_s 131 (0, [some (.ref 6), some (.int x1_s), some (.int x2_s)], [], h_s) (gJ L_s) := by
  refine wF_le (Nat.le_succ F_s) (sg_131_0 hk ⟨fun c1_s => ?_, fun c1_s => ⟨fun c2_s => fun c3_s => ⟨fun c4_s => ?_, fun c4_s => ⟨fun c6_s => ⟨fun c7_s => ?_, fun c7_s => ⟨fun c9_s => fun c11_s => ?_, fun c9_s => ?_⟩⟩, fun c6_s => ?_⟩⟩, fun c2_s => ?_⟩⟩)
  · exact t1_s (by omega)
  · exact t1_s (by omega)
  · exact t1_s (by omega)
  · exact t2_s (by omega) (by omega) (by assumption) (by omega) (by omega) (by omega) (by assumption)
  · exact t1_s (by omega)
  · exact t1_s (by omega)
  · exact t1_s (by omega)
theorem sp_234 (hk : hKn h_s) (t1_s : x1_s.toInt < 0 ∨ 5 < x1_s.toInt ∨ (h_s.2.1 124 (zix x1_s)).toInt < 50 ∨ x2_s.toInt < 0 ∨ (h_s.2.1 125 (zix x1_s)).toInt ≤ x2_s.toInt → L_s (-9223372036854775808) h_s) (t2_s : 0 ≤ x1_s.toInt → x1_s.toInt ≤ 5 → zix x1_s < 6 → 50 ≤ (h_s.2.1 124 (zix x1_s)).toInt → 0 ≤ x2_s.toInt → x2_s.toInt < (h_s.2.1 125 (zix x1_s)).toInt → L_s (h_s.2.2.1 126 (zix (60 * x1_s + x2_s))) h_s) : wF F_s 234 (0, [some (.ref 102), some (.int x1_s), some (.int x2_s)], [], h_s) (gJ L_s) := by
  refine wF_le (Nat.le_succ F_s) (sg_234_0 hk ⟨fun c1_s => ?_, fun c1_s => ⟨fun c2_s => ?_, fun c2_s => fun c3_s => ⟨fun c4_s => ?_, fun c4_s => ⟨fun c6_s => ?_, fun c6_s => ⟨fun c7_s => ?_, fun c7_s => ⟨fun c9_s => fun c10_s => ?_, fun c9_s => ?_⟩⟩⟩⟩⟩⟩)
  · exact t1_s (by omega)
  · exact t1_s (by omega)
  · exact t1_s (by omega)
  · exact t1_s (by omega)
  · exact t1_s (by omega)
  · exact t2_s (by omega) (by omega) (by assumption) (by omega) (by omega) (by omega)
  · exact t1_s (by omega)
end SH
/-! SHELVES, by hand: put, shift; what ties class and reference. -/
def cutv (s_s : Int) (y_s : Int64) : Int64 := if s_s = 0 then y_s.toInt32.toInt8.toInt32.toInt64 else if s_s = 1 then y_s.toInt32.toInt16.toInt32.toInt64 else if s_s = 2 then y_s.toInt32.toInt64 else if s_s = 4 then (if y_s.toInt = 0 then 0 else 1) else y_s
section SP
variable {F_s : Nat} {h_s : zH} {K_s : Int32 → zH → Prop} {x1_s x2_s x3 x4_s x5_s : Int32} {y3 : Int64}
theorem sp_130 (hk : hKn h_s) (t1_s : x1_s.toInt < 0 ∨ 5 < x1_s.toInt → K_s (-1) h_s) (t2_s : 0 ≤ x1_s.toInt → x1_s.toInt ≤ 5 → zix x1_s < 6 → (h_s.2.1 (76 + 2 * zix x1_s) 0).toInt = 0 → K_s (-11) h_s) (t3_s : 0 ≤ x1_s.toInt → x1_s.toInt ≤ 5 → zix x1_s < 6 → ¬ (h_s.2.1 (76 + 2 * zix x1_s) 0).toInt = 0 → ¬ (h_s.2.1 (76 + 2 * zix x1_s) 0).toInt = 2 → K_s (-12) h_s) (t4_s : 0 ≤ x1_s.toInt → x1_s.toInt ≤ 5 → zix x1_s < 6 → (h_s.2.1 (76 + 2 * zix x1_s) 0).toInt = 2 → x2_s.toInt < 0 ∨ (h_s.2.1 (76 + 2 * zix x1_s) 3).toInt ≤ x2_s.toInt → K_s (-13) h_s) (t5_s : 0 ≤ x1_s.toInt → x1_s.toInt ≤ 5 → zix x1_s < 6 → (h_s.2.1 (76 + 2 * zix x1_s) 0).toInt = 2 → 0 ≤ x2_s.toInt → x2_s.toInt < (h_s.2.1 (76 + 2 * zix x1_s) 3).toInt → zix x2_s < 60 → K_s 1 (h_s.1, h_s.2.1, zup h_s.2.2.1 (76 + 2 * zix x1_s + 1) (zix x2_s) (cutv (h_s.2.1 (76 + 2 * zix x1_s) 2).toInt y3), h_s.2.2.2)) : wF F_s 130 (0, [some (.ref 6), some (.int x1_s), some (.int x2_s), some (.long y3), none, none], [], h_s) (gI K_s) := by
  refine wF_le (Nat.le_succ F_s) (sg_130_0 hk ⟨fun c1_s => ?_, fun c1_s => ⟨fun c2_s => fun c3_s => ⟨fun c4_s => ?_, fun c4_s => ⟨fun c6_s => ⟨fun c7_s => ?_, fun c7_s => ⟨fun c9_s => ⟨fun c12_s => fun c13_s => ?_, fun c12_s => ⟨fun c14_s => fun c15_s => ?_, fun c14_s => ⟨fun c16 => fun c17 => ?_, fun c16 => ⟨fun c18_s => fun c19_s => ?_, fun c18_s => ⟨fun c20_s => ⟨fun c21 => fun c22 => ?_, fun c21 => fun c23_s => ?_⟩, fun c20_s => fun c24_s => ?_⟩⟩⟩⟩⟩, fun c9_s => ?_⟩⟩, fun c6_s => ?_⟩⟩, fun c2_s => ?_⟩⟩)
  · exact t1_s (by omega)
  · exact t2_s (by omega) (by omega) (by assumption) (by omega)
  · exact t4_s (by omega) (by omega) (by assumption) (by omega) (by omega)
  · have q_s := t5_s (by omega) (by omega) (by assumption) (by omega) (by omega) (by omega) (by assumption)
    unfold cutv at q_s
    rw [if_pos (by omega)] at q_s
    exact q_s
  · have q_s := t5_s (by omega) (by omega) (by assumption) (by omega) (by omega) (by omega) (by assumption)
    unfold cutv at q_s
    rw [if_neg (by omega), if_pos (by omega)] at q_s
    exact q_s
  · have q_s := t5_s (by omega) (by omega) (by assumption) (by omega) (by omega) (by omega) (by assumption)
    unfold cutv at q_s
    rw [if_neg (by omega), if_neg (by omega), if_pos (by omega)] at q_s
    exact q_s
  · have q_s := t5_s (by omega) (by omega) (by assumption) (by omega) (by omega) (by omega) (by assumption)
    unfold cutv at q_s
    rw [if_neg (by omega), if_neg (by omega), if_neg (by omega), if_neg (by omega)] at q_s
    exact q_s
  · have q_s := t5_s (by omega) (by omega) (by assumption) (by omega) (by omega) (by omega) (by assumption)
    unfold cutv at q_s
    rw [if_neg (by omega), if_neg (by omega), if_neg (by omega), if_pos (by omega), if_pos (by omega)] at q_s
    exact q_s
  · have q_s := t5_s (by omega) (by omega) (by assumption) (by omega) (by omega) (by omega) (by assumption)
    unfold cutv at q_s
    rw [if_neg (by omega), if_neg (by omega), if_neg (by omega), if_pos (by omega), if_neg (by omega)] at q_s
    exact q_s
  · have q_s := t5_s (by omega) (by omega) (by assumption) (by omega) (by omega) (by omega) (by assumption)
    unfold cutv at q_s
    rw [if_neg (by omega), if_neg (by omega), if_neg (by omega), if_neg (by omega)] at q_s
    exact q_s
  · exact t4_s (by omega) (by omega) (by assumption) (by omega) (by omega)
  · exact t3_s (by omega) (by omega) (by assumption) (by omega) (by omega)
  · exact t1_s (by omega)
theorem sp_233 (hk : hKn h_s) (t1_s : x1_s.toInt < 0 ∨ 5 < x1_s.toInt → K_s (-1) h_s) (t2_s : 0 ≤ x1_s.toInt → x1_s.toInt ≤ 5 → zix x1_s < 6 → (h_s.2.1 124 (zix x1_s)).toInt < 0 → K_s (-11) h_s) (t3_s : 0 ≤ x1_s.toInt → x1_s.toInt ≤ 5 → zix x1_s < 6 → 0 ≤ (h_s.2.1 124 (zix x1_s)).toInt → (h_s.2.1 124 (zix x1_s)).toInt < 50 → K_s (-12) h_s) (t4_s : 0 ≤ x1_s.toInt → x1_s.toInt ≤ 5 → zix x1_s < 6 → 50 ≤ (h_s.2.1 124 (zix x1_s)).toInt → x2_s.toInt < 0 ∨ (h_s.2.1 125 (zix x1_s)).toInt ≤ x2_s.toInt → K_s (-13) h_s) (t5_s : 0 ≤ x1_s.toInt → x1_s.toInt ≤ 5 → zix x1_s < 6 → 50 ≤ (h_s.2.1 124 (zix x1_s)).toInt → 0 ≤ x2_s.toInt → x2_s.toInt < (h_s.2.1 125 (zix x1_s)).toInt → K_s 1 (h_s.1, h_s.2.1, zup h_s.2.2.1 126 (zix (60 * x1_s + x2_s)) (cutv ((h_s.2.1 124 (zix x1_s)).toInt - 50) y3), h_s.2.2.2)) : wF F_s 233 (0, [some (.ref 102), some (.int x1_s), some (.int x2_s), some (.long y3), none, none], [], h_s) (gI K_s) := by
  have r_s := na_rng (h_s.2.1 124 (zix x1_s))
  have e_s : 50 ≤ (h_s.2.1 124 (zix x1_s)).toInt → (h_s.2.1 124 (zix x1_s) - 50).toInt = (h_s.2.1 124 (zix x1_s)).toInt - 50 := fun _ => by rw [na_sub (by rw [i50_]; omega) (by rw [i50_]; omega), i50_]
  refine wF_le (Nat.le_succ F_s) (sg_233_0 hk ⟨fun c1_s => ?_, fun c1_s => ⟨fun c2_s => ?_, fun c2_s => fun c3_s => ⟨fun c4_s => ?_, fun c4_s => ⟨fun c6_s => ?_, fun c6_s => ⟨fun c7_s => ?_, fun c7_s => ⟨fun c9_s => ⟨fun c11_s => fun c12_s => ?_, fun c11_s => ⟨fun c13_s => fun c14_s => ?_, fun c13_s => ⟨fun c15_s => fun c16 => ?_, fun c15_s => ⟨fun c17 => ⟨fun c18_s => fun c19_s => ?_, fun c18_s => fun c20_s => ?_⟩, fun c17 => fun c21 => ?_⟩⟩⟩⟩, fun c9_s => ?_⟩⟩⟩⟩⟩⟩)
  · exact t1_s (by omega)
  · exact t1_s (by omega)
  · exact t2_s (by omega) (by omega) (by assumption) (by omega)
  · exact t3_s (by omega) (by omega) (by assumption) (by omega) (by omega)
  · exact t4_s (by omega) (by omega) (by assumption) (by omega) (by omega)
  · have q_s := t5_s (by omega) (by omega) (by assumption) (by omega) (by omega) (by omega)
    unfold cutv at q_s
    rw [if_pos (by omega)] at q_s
    exact q_s
  · have q_s := t5_s (by omega) (by omega) (by assumption) (by omega) (by omega) (by omega)
    unfold cutv at q_s
    rw [if_neg (by omega), if_pos (by omega)] at q_s
    exact q_s
  · have q_s := t5_s (by omega) (by omega) (by assumption) (by omega) (by omega) (by omega)
    unfold cutv at q_s
    rw [if_neg (by omega), if_neg (by omega), if_pos (by omega)] at q_s
    exact q_s
  · have q_s := t5_s (by omega) (by omega) (by assumption) (by omega) (by omega) (by omega)
    unfold cutv at q_s
    rw [if_neg (by omega), if_neg (by omega), if_neg (by omega), if_pos (by omega), if_pos (by omega)] at q_s
    exact q_s
  · have q_s := t5_s (by omega) (by omega) (by assumption) (by omega) (by omega) (by omega)
    unfold cutv at q_s
    rw [if_neg (by omega), if_neg (by omega), if_neg (by omega), if_pos (by omega), if_neg (by omega)] at q_s
    exact q_s
  · have q_s := t5_s (by omega) (by omega) (by assumption) (by omega) (by omega) (by omega)
    unfold cutv at q_s
    rw [if_neg (by omega), if_neg (by omega), if_neg (by omega), if_neg (by omega)] at q_s
    exact q_s
  · exact t4_s (by omega) (by omega) (by assumption) (by omega) (by omega)
theorem sp_132 (hk : hKn h_s) (hl : ∀ d_s, d_s < 6 → (h_s.2.1 (76 + 2 * d_s) 0).toInt = 2 → 0 ≤ (h_s.2.1 (76 + 2 * d_s) 3).toInt ∧ (h_s.2.1 (76 + 2 * d_s) 3).toInt ≤ 60) (t1_s : x1_s.toInt < 0 ∨ 5 < x1_s.toInt ∨ x3.toInt < 0 ∨ 5 < x3.toInt → K_s (-1) h_s) (t2_s : zix x1_s < 6 → zix x3 < 6 → ¬ (x1_s.toInt < 0 ∨ 5 < x1_s.toInt ∨ x3.toInt < 0 ∨ 5 < x3.toInt) → (h_s.2.1 (76 + 2 * zix x1_s) 0).toInt = 0 ∨ (h_s.2.1 (76 + 2 * zix x3) 0).toInt = 0 → K_s (-11) h_s) (t3_s : zix x1_s < 6 → zix x3 < 6 → ¬ (x1_s.toInt < 0 ∨ 5 < x1_s.toInt ∨ x3.toInt < 0 ∨ 5 < x3.toInt) → ¬ ((h_s.2.1 (76 + 2 * zix x1_s) 0).toInt = 0 ∨ (h_s.2.1 (76 + 2 * zix x3) 0).toInt = 0) → ¬ (h_s.2.1 (76 + 2 * zix x1_s) 0).toInt = 2 ∨ ¬ (h_s.2.1 (76 + 2 * zix x3) 0).toInt = 2 ∨ ¬ (h_s.2.1 (76 + 2 * zix x1_s) 2).toInt = (h_s.2.1 (76 + 2 * zix x3) 2).toInt → K_s (-12) h_s) (t4_s : zix x1_s < 6 → zix x3 < 6 → ¬ (x1_s.toInt < 0 ∨ 5 < x1_s.toInt ∨ x3.toInt < 0 ∨ 5 < x3.toInt) → (h_s.2.1 (76 + 2 * zix x1_s) 0).toInt = 2 → (h_s.2.1 (76 + 2 * zix x3) 0).toInt = 2 → (h_s.2.1 (76 + 2 * zix x1_s) 2).toInt = (h_s.2.1 (76 + 2 * zix x3) 2).toInt → x5_s.toInt < 0 ∨ x2_s.toInt < 0 ∨ x4_s.toInt < 0 ∨ (h_s.2.1 (76 + 2 * zix x1_s) 3).toInt < x2_s.toInt + x5_s.toInt ∨ (h_s.2.1 (76 + 2 * zix x3) 3).toInt < x4_s.toInt + x5_s.toInt → K_s (-13) h_s) (t5_s : zix x1_s < 6 → zix x3 < 6 → ¬ (x1_s.toInt < 0 ∨ 5 < x1_s.toInt ∨ x3.toInt < 0 ∨ 5 < x3.toInt) → (h_s.2.1 (76 + 2 * zix x1_s) 0).toInt = 2 → (h_s.2.1 (76 + 2 * zix x3) 0).toInt = 2 → (h_s.2.1 (76 + 2 * zix x1_s) 2).toInt = (h_s.2.1 (76 + 2 * zix x3) 2).toInt → ¬ (x5_s.toInt < 0 ∨ x2_s.toInt < 0 ∨ x4_s.toInt < 0 ∨ (h_s.2.1 (76 + 2 * zix x1_s) 3).toInt < x2_s.toInt + x5_s.toInt ∨ (h_s.2.1 (76 + 2 * zix x3) 3).toInt < x4_s.toInt + x5_s.toInt) → K_s x5_s (h_s.1, h_s.2.1, zrow h_s.2.2.1 (76 + 2 * zix x3 + 1) (zcpy (h_s.2.2.1 (76 + 2 * zix x1_s + 1)) (h_s.2.2.1 (76 + 2 * zix x3 + 1)) (zix x2_s) (zix x4_s) (zix x5_s)), h_s.2.2.2)) : wF F_s 132 (0, [some (.ref 6), some (.int x1_s), some (.int x2_s), some (.int x3), some (.int x4_s), some (.int x5_s), none, none], [], h_s) (gI K_s) := by
  have d1_s : zix x1_s < 6 → (h_s.2.1 (76 + 2 * zix x1_s) 0).toInt = 2 → 0 ≤ x2_s.toInt → x2_s.toInt ≤ (h_s.2.1 (76 + 2 * zix x1_s) 3).toInt → (h_s.2.1 (76 + 2 * zix x1_s) 3 - x2_s).toInt = (h_s.2.1 (76 + 2 * zix x1_s) 3).toInt - x2_s.toInt := fun p1_s p2_s p3_s p4_s => by
    have q_s := hl _ p1_s p2_s
    exact na_sub (by omega) (by omega)
  have d2_s : zix x3 < 6 → (h_s.2.1 (76 + 2 * zix x3) 0).toInt = 2 → 0 ≤ x4_s.toInt → x4_s.toInt ≤ (h_s.2.1 (76 + 2 * zix x3) 3).toInt → (h_s.2.1 (76 + 2 * zix x3) 3 - x4_s).toInt = (h_s.2.1 (76 + 2 * zix x3) 3).toInt - x4_s.toInt := fun p1_s p2_s p3_s p4_s => by
    have q_s := hl _ p1_s p2_s
    exact na_sub (by omega) (by omega)
  refine wF_le (Nat.le_succ F_s) (sg_132_0 hk ⟨fun c1_s => ?_, fun c1_s => ⟨fun c2_s => ⟨fun c3_s => ?_, fun c3_s => ⟨fun c4_s => fun c5_s => fun c6_s => ⟨fun c7_s => ?_, fun c7_s => ⟨fun c8_s => ?_, fun c8_s => ⟨fun c9_s => ⟨fun c10_s => ⟨fun c11_s => ⟨fun c12_s => ?_, fun c12_s => ⟨fun c13_s => ?_, fun c13_s => ⟨fun c14_s => ?_, fun c14_s => ⟨fun c15_s => ?_, fun c15_s => ⟨fun c16 => ?_, fun c16 => ⟨fun c17 => ?_, fun c17 => ⟨fun c18_s => ?_, fun c18_s => fun c19_s => ?_⟩⟩⟩⟩⟩⟩⟩, fun c11_s => ?_⟩, fun c10_s => ?_⟩, fun c9_s => ?_⟩⟩⟩, fun c4_s => ?_⟩⟩, fun c2_s => ?_⟩⟩)
  · exact t1_s (by omega)
  · exact t1_s (by omega)
  · exact t2_s (by assumption) (by assumption) (by omega) (by omega)
  · exact t2_s (by assumption) (by assumption) (by omega) (by omega)
  · exact t4_s (by assumption) (by assumption) (by omega) (by omega) (by omega) (by omega) (by omega)
  · exact t4_s (by assumption) (by assumption) (by omega) (by omega) (by omega) (by omega) (by omega)
  · exact t4_s (by assumption) (by assumption) (by omega) (by omega) (by omega) (by omega) (by omega)
  · exact t4_s (by assumption) (by assumption) (by omega) (by omega) (by omega) (by omega) (by omega)
  · exact t4_s (by assumption) (by assumption) (by omega) (by omega) (by omega) (by omega) (by omega)
  · exact t4_s (by assumption) (by assumption) (by omega) (by omega) (by omega) (by omega) (by omega)
  · exact t4_s (by assumption) (by assumption) (by omega) (by omega) (by omega) (by omega) (by omega)
  · exact t5_s (by assumption) (by assumption) (by omega) (by omega) (by omega) (by omega) (by omega)
  · exact t3_s (by assumption) (by assumption) (by omega) (by omega) (by omega)
  · exact t3_s (by assumption) (by assumption) (by omega) (by omega) (by omega)
  · exact t3_s (by assumption) (by assumption) (by omega) (by omega) (by omega)
  · exact t1_s (by omega)
  · exact t1_s (by omega)
end SP
/-! SHELVES, by hand: the reference's shift. -/
section SQ_s
variable {x1_s x2_s x3 x4_s x5_s : Int32} {n_s : Nat} {w_s : Nat → Int64}
theorem shf2 {h_s : zH} {K_s : Int32 → zH → Prop} (hk : hKn h_s) (b1 : 0 ≤ x3.toInt) (b2 : x3.toInt ≤ 5) (b3 : 0 ≤ x4_s.toInt) (b4 : x4_s.toInt + x5_s.toInt ≤ 60) (hn : x5_s.toInt = (n_s : Int)) (t_s : ∀ g_s, (∀ k_s, k_s < n_s → g_s 126 (60 * zix x3 + zix x4_s + k_s) = w_s k_s) → (∀ a_s k_s, a_s ≠ 127 → ¬ (a_s = 126 ∧ 60 * zix x3 + zix x4_s ≤ k_s ∧ k_s < 60 * zix x3 + zix x4_s + n_s) → g_s a_s k_s = h_s.2.2.1 a_s k_s) → K_s x5_s (h_s.1, h_s.2.1, g_s, h_s.2.2.2)) : ∀ (F_s c_s : Nat) (i_s : Int32) (g_s : Nat → Nat → Int64), i_s.toInt = (c_s : Int) → c_s ≤ n_s → (∀ k_s, k_s < n_s → g_s 127 k_s = w_s k_s) → (∀ k_s, k_s < c_s → g_s 126 (60 * zix x3 + zix x4_s + k_s) = w_s k_s) → (∀ a_s k_s, a_s ≠ 127 → ¬ (a_s = 126 ∧ 60 * zix x3 + zix x4_s ≤ k_s ∧ k_s < 60 * zix x3 + zix x4_s + c_s) → g_s a_s k_s = h_s.2.2.1 a_s k_s) → wF F_s 235 (150, [some (.ref 102), some (.int x1_s), some (.int x2_s), some (.int x3), some (.int x4_s), some (.int x5_s), some (.int i_s)], [], (h_s.1, h_s.2.1, g_s, h_s.2.2.2)) (gI K_s)
  | 0, _, _, _, _, _, _, _, _ => wF_zero
  | F_s + 1, c_s, i_s, g_s, hi_s, hc_s, g0, g1, g2 => by
    refine sg_235_150 (h_s := (h_s.1, h_s.2.1, g_s, h_s.2.2.2)) hk ⟨fun c1_s => fun c2_s => fun c3_s => ?_, fun c1_s => ?_⟩
    · have zi_ := azix (i := i_s) (by omega)
      have ez : zix i_s = c_s := by omega
      have e3_s := zx60k (d_s := x3) (i_s := x4_s) (k_s := i_s) b1 b2 b3 (by omega) (by omega) (by omega)
      refine shf2 hk b1 b2 b3 b4 hn t_s F_s (c_s + 1) (i_s + 1) _ (by rw [in1_ (by omega)]; omega) (by omega) (fun k_s hq => ?_) (fun k_s hq => ?_) (fun a_s k_s ha_s hq => ?_)
      · rw [zne_up (by omega)]
        exact g0 k_s hq
      · by_cases e_s : k_s = c_s
        · subst e_s
          rw [e3_s, ez, zsame_up]
          exact g0 k_s (by omega)
        · rw [zne_up (by omega)]
          exact g1 k_s (by omega)
      · rw [zne_up (by omega)]
        exact g2 a_s k_s ha_s (by omega)
    · have ec : c_s = n_s := by omega
      subst ec
      exact t_s g_s g1 g2
theorem shf1 {h_s : zH} {K_s : Int32 → zH → Prop} (hk : hKn h_s) (b1 : 0 ≤ x1_s.toInt) (b2 : x1_s.toInt ≤ 5) (b3 : 0 ≤ x2_s.toInt) (b4 : x2_s.toInt + x5_s.toInt ≤ 60) (hn : x5_s.toInt = (n_s : Int)) : ∀ (F_s c_s : Nat) (i_s : Int32) (g_s : Nat → Nat → Int64) (_ : ∀ F1_s : Nat, ∀ g_s, (∀ k_s, k_s < n_s → g_s 127 k_s = h_s.2.2.1 126 (60 * zix x1_s + zix x2_s + k_s)) → (∀ a_s k_s, a_s ≠ 127 → g_s a_s k_s = h_s.2.2.1 a_s k_s) → wF F1_s 235 (150, [some (.ref 102), some (.int x1_s), some (.int x2_s), some (.int x3), some (.int x4_s), some (.int x5_s), some (.int 0)], [], (h_s.1, h_s.2.1, g_s, h_s.2.2.2)) (gI K_s)), i_s.toInt = (c_s : Int) → c_s ≤ n_s → (∀ k_s, k_s < c_s → g_s 127 k_s = h_s.2.2.1 126 (60 * zix x1_s + zix x2_s + k_s)) → (∀ a_s k_s, a_s ≠ 127 → g_s a_s k_s = h_s.2.2.1 a_s k_s) → wF F_s 235 (113, [some (.ref 102), some (.int x1_s), some (.int x2_s), some (.int x3), some (.int x4_s), some (.int x5_s), some (.int i_s)], [], (h_s.1, h_s.2.1, g_s, h_s.2.2.2)) (gI K_s)
  | 0, _, _, _, _, _, _, _, _ => wF_zero
  | F_s + 1, c_s, i_s, g_s, t_s, hi_s, hc_s, g1, g2 => by
    refine sg_235_113 (h_s := (h_s.1, h_s.2.1, g_s, h_s.2.2.2)) hk ⟨fun c1_s => fun c2_s => fun c3_s => ?_, fun c1_s => ?_⟩
    · have zi_ := azix (i := i_s) (by omega)
      have ez : zix i_s = c_s := by omega
      have e3_s := zx60k (d_s := x1_s) (i_s := x2_s) (k_s := i_s) b1 b2 b3 (by omega) (by omega) (by omega)
      refine shf1 hk b1 b2 b3 b4 hn F_s (c_s + 1) (i_s + 1) _ t_s (by rw [in1_ (by omega)]; omega) (by omega) (fun k_s hq => ?_) (fun a_s k_s ha_s => ?_)
      · by_cases e_s : k_s = c_s
        · subst e_s
          rw [ez, zsame_up]
          show g_s 126 (zix (60 * x1_s + x2_s + i_s)) = _
          rw [e3_s, ez]
          exact g2 126 _ (by omega)
        · rw [zne_up (by omega)]
          exact g1 k_s (by omega)
      · rw [zne_up (by omega)]
        exact g2 a_s k_s ha_s
    · have ec : c_s = n_s := by omega
      subst ec
      exact t_s F_s g_s g1 g2
end SQ_s
section SR
variable {F_s : Nat} {h_s : zH} {K_s : Int32 → zH → Prop} {x1_s x2_s x3 x4_s x5_s : Int32} {n_s : Nat}
theorem sp_235 (hk : hKn h_s) (hl : ∀ d_s, d_s < 6 → 50 ≤ (h_s.2.1 124 d_s).toInt → 0 ≤ (h_s.2.1 125 d_s).toInt ∧ (h_s.2.1 125 d_s).toInt ≤ 60) (t1_s : x1_s.toInt < 0 ∨ 5 < x1_s.toInt ∨ x3.toInt < 0 ∨ 5 < x3.toInt → K_s (-1) h_s) (t2_s : ¬ (x1_s.toInt < 0 ∨ 5 < x1_s.toInt ∨ x3.toInt < 0 ∨ 5 < x3.toInt) → (h_s.2.1 124 (zix x1_s)).toInt < 0 ∨ (h_s.2.1 124 (zix x3)).toInt < 0 → K_s (-11) h_s) (t3_s : ¬ (x1_s.toInt < 0 ∨ 5 < x1_s.toInt ∨ x3.toInt < 0 ∨ 5 < x3.toInt) → ¬ ((h_s.2.1 124 (zix x1_s)).toInt < 0 ∨ (h_s.2.1 124 (zix x3)).toInt < 0) → (h_s.2.1 124 (zix x1_s)).toInt < 50 ∨ ¬ (h_s.2.1 124 (zix x1_s)).toInt = (h_s.2.1 124 (zix x3)).toInt → K_s (-12) h_s) (t4_s : ¬ (x1_s.toInt < 0 ∨ 5 < x1_s.toInt ∨ x3.toInt < 0 ∨ 5 < x3.toInt) → 50 ≤ (h_s.2.1 124 (zix x1_s)).toInt → (h_s.2.1 124 (zix x1_s)).toInt = (h_s.2.1 124 (zix x3)).toInt → x5_s.toInt < 0 ∨ x2_s.toInt < 0 ∨ x4_s.toInt < 0 ∨ (h_s.2.1 125 (zix x1_s)).toInt < x2_s.toInt + x5_s.toInt ∨ (h_s.2.1 125 (zix x3)).toInt < x4_s.toInt + x5_s.toInt → K_s (-13) h_s) (t5_s : ¬ (x1_s.toInt < 0 ∨ 5 < x1_s.toInt ∨ x3.toInt < 0 ∨ 5 < x3.toInt) → 50 ≤ (h_s.2.1 124 (zix x1_s)).toInt → (h_s.2.1 124 (zix x1_s)).toInt = (h_s.2.1 124 (zix x3)).toInt → ¬ (x5_s.toInt < 0 ∨ x2_s.toInt < 0 ∨ x4_s.toInt < 0 ∨ (h_s.2.1 125 (zix x1_s)).toInt < x2_s.toInt + x5_s.toInt ∨ (h_s.2.1 125 (zix x3)).toInt < x4_s.toInt + x5_s.toInt) → ∀ g_s, (∀ k_s, k_s < zix x5_s → g_s 126 (60 * zix x3 + zix x4_s + k_s) = h_s.2.2.1 126 (60 * zix x1_s + zix x2_s + k_s)) → (∀ a_s k_s, a_s ≠ 127 → ¬ (a_s = 126 ∧ 60 * zix x3 + zix x4_s ≤ k_s ∧ k_s < 60 * zix x3 + zix x4_s + zix x5_s) → g_s a_s k_s = h_s.2.2.1 a_s k_s) → K_s x5_s (h_s.1, h_s.2.1, g_s, h_s.2.2.2)) : wF F_s 235 (0, [some (.ref 102), some (.int x1_s), some (.int x2_s), some (.int x3), some (.int x4_s), some (.int x5_s), none], [], h_s) (gI K_s) := by
  have r5_s := na_rng x5_s
  have d1_s : zix x1_s < 6 → 50 ≤ (h_s.2.1 124 (zix x1_s)).toInt → 0 ≤ x5_s.toInt → (h_s.2.1 125 (zix x1_s) - x5_s).toInt = (h_s.2.1 125 (zix x1_s)).toInt - x5_s.toInt := fun p1_s p2_s p3_s => by
    have q_s := hl _ p1_s p2_s
    exact na_sub (by omega) (by omega)
  have d2_s : zix x3 < 6 → 50 ≤ (h_s.2.1 124 (zix x3)).toInt → 0 ≤ x5_s.toInt → (h_s.2.1 125 (zix x3) - x5_s).toInt = (h_s.2.1 125 (zix x3)).toInt - x5_s.toInt := fun p1_s p2_s p3_s => by
    have q_s := hl _ p1_s p2_s
    exact na_sub (by omega) (by omega)
  refine wF_le (Nat.le_succ F_s) (sg_235_0 hk ⟨fun c1_s => ?_, fun c1_s => ⟨fun c2_s => ?_, fun c2_s => ⟨fun c3_s => ?_, fun c3_s => ⟨fun c4_s => ?_, fun c4_s => fun c5_s => ⟨fun c6_s => ?_, fun c6_s => fun c7_s => ⟨fun c8_s => ?_, fun c8_s => ⟨fun c10_s => ?_, fun c10_s => ⟨fun c13_s => ⟨fun c14_s => ?_, fun c14_s => ⟨fun c15_s => ?_, fun c15_s => ⟨fun c16 => ?_, fun c16 => ⟨fun c18_s => ?_, fun c18_s => ⟨fun c20_s => ?_, fun c20_s => ?_⟩⟩⟩⟩⟩, fun c13_s => ?_⟩⟩⟩⟩⟩⟩⟩⟩)
  · exact t1_s (by omega)
  · exact t1_s (by omega)
  · exact t1_s (by omega)
  · exact t1_s (by omega)
  · exact t2_s (by omega) (by omega)
  · exact t2_s (by omega) (by omega)
  · exact t3_s (by omega) (by omega) (by omega)
  · exact t4_s (by omega) (by omega) (by omega) (by omega)
  · exact t4_s (by omega) (by omega) (by omega) (by omega)
  · exact t4_s (by omega) (by omega) (by omega) (by omega)
  · exact t4_s (by omega) (by omega) (by omega) (by omega)
  · exact t4_s (by omega) (by omega) (by omega) (by omega)
  · have l1 := hl (zix x1_s) (by assumption) (by omega)
    have l3 := hl (zix x3) (by assumption) (by omega)
    have z5 := azix (i := x5_s) (by omega)
    refine shf1 (n_s := zix x5_s) hk (by omega) (by omega) (by omega) (by omega) (by omega) F_s 0 0 h_s.2.2.1 (fun F1_s g_s g1 g2 => ?_) rfl (Nat.zero_le _) (fun k_s hq => absurd hq (Nat.not_lt_zero k_s)) (fun _ _ _ => rfl)
    exact shf2 (h_s := h_s) (n_s := zix x5_s) (w_s := fun k_s => h_s.2.2.1 126 (60 * zix x1_s + zix x2_s + k_s)) hk (by omega) (by omega) (by omega) (by omega) (by omega) (fun g3_s p1_s p2_s => t5_s (by omega) (by omega) (by omega) (by omega) g3_s p1_s p2_s) F1_s 0 0 g_s rfl (Nat.zero_le _) g1 (fun k_s hq => absurd hq (Nat.not_lt_zero k_s)) (fun a_s k_s ha_s _ => g2 a_s k_s ha_s)
  · exact t3_s (by omega) (by omega) (by omega)
end SR
/-! SHELVES: class and reference by turns. -/
def tS1 (f_s : Nat → Nat → Int32) (d_s : Nat) : Prop := ((f_s (76 + 2 * d_s) 0).toInt = 0 ∧ (f_s 124 d_s).toInt = -1) ∨ ((f_s (76 + 2 * d_s) 0).toInt = 1 ∧ 0 ≤ (f_s 124 d_s).toInt ∧ (f_s 124 d_s).toInt < 50) ∨ ((f_s (76 + 2 * d_s) 0).toInt = 2 ∧ (f_s 124 d_s).toInt = 50 + (f_s (76 + 2 * d_s) 2).toInt ∧ 0 ≤ (f_s (76 + 2 * d_s) 2).toInt ∧ (f_s (76 + 2 * d_s) 2).toInt ≤ 4 ∧ (f_s 125 d_s).toInt = (f_s (76 + 2 * d_s) 3).toInt ∧ 0 ≤ (f_s (76 + 2 * d_s) 3).toInt ∧ (f_s (76 + 2 * d_s) 3).toInt ≤ 60)
def tS2 (g_s : Nat → Nat → Int64) (d_s : Nat) : Prop := ∀ k_s, k_s < 60 → g_s (76 + 2 * d_s + 1) k_s = g_s 126 (60 * d_s + k_s)
def tS (h_s : zH) : Prop := (∀ d_s, d_s < 6 → tS1 h_s.2.1 d_s ∧ tS2 h_s.2.2.1 d_s) ∧ h_s.2.1 47 1 = h_s.2.1 102 39 ∧ 0 ≤ (h_s.2.1 47 1).toInt ∧ (h_s.2.1 47 1).toInt ≤ 50
theorem tS1_same {f_s f1_s : Nat → Nat → Int32} {d_s : Nat} (a_s : ∀ k_s, f1_s (76 + 2 * d_s) k_s = f_s (76 + 2 * d_s) k_s) (b_s : f1_s 124 d_s = f_s 124 d_s) (c_s : f1_s 125 d_s = f_s 125 d_s) (q_s : tS1 f_s d_s) : tS1 f1_s d_s := by
  unfold tS1 at q_s ⊢
  simp only [a_s, b_s, c_s]
  exact q_s
theorem zrw_s {α : Type} {f_s : Nat → Nat → α} {o k_s : Nat} {r_s : Nat → α} : zrow f_s o r_s o k_s = r_s k_s := by
  unfold zrow
  rw [Nat.beq_refl]
  rfl
theorem zrw_n {α : Type} {f_s : Nat → Nat → α} {o a_s k_s : Nat} {r_s : Nat → α} (e_s : ¬ a_s = o) : zrow f_s o r_s a_s k_s = f_s a_s k_s := by
  unfold zrow
  cases hb_s : Nat.beq a_s o
  · rfl
  · exact absurd (Nat.eq_of_beq_eq_true hb_s) e_s
theorem zcp_i {α : Type} {f_s g_s : Nat → α} {s_s d_s n_s k_s : Nat} (e_s : d_s ≤ k_s ∧ k_s < d_s + n_s) : zcpy f_s g_s s_s d_s n_s k_s = f_s (s_s + (k_s - d_s)) := by
  unfold zcpy
  have a_s : Nat.ble d_s k_s = true := by rw [Nat.ble_eq]; exact e_s.1
  have b_s : Nat.blt k_s (d_s + n_s) = true := by rw [Nat.blt_eq]; exact e_s.2
  rw [a_s, b_s]
  rfl
theorem zcp_o {α : Type} {f_s g_s : Nat → α} {s_s d_s n_s k_s : Nat} (e_s : ¬ (d_s ≤ k_s ∧ k_s < d_s + n_s)) : zcpy f_s g_s s_s d_s n_s k_s = g_s k_s := by
  unfold zcpy
  cases hb_s : (Nat.ble d_s k_s && Nat.blt k_s (d_s + n_s))
  · rfl
  · rw [Bool.and_eq_true, Nat.ble_eq, Nat.blt_eq] at hb_s
    exact absurd hb_s e_s
section SS_s
variable {F_s : Nat} {h_s : zH} {x1_s x2_s x3 x4_s x5_s : Int32} {y3 : Int64}
theorem pr_row (hk : hKn h_s) (hs : tS h_s) : wF F_s 129 (0, [some (.ref 6), some (.int x1_s), some (.int x2_s), some (.int x3)], [], h_s) (gI (fun v_s h1 => wF F_s 230 (0, [some (.ref 102), some (.int x1_s), some (.int x2_s), some (.int x3), none], [], h1) (gI (fun v2 h2 => v_s = v2 ∧ tS h2)))) := by
  refine sp_129 hk (fun c_s => ?_) (fun c1_s c2_s => ?_) (fun c1_s c2_s c3_s g_s g1 g2 => ?_)
  · exact sp_230 hk (fun _ => ⟨rfl, hs⟩) (fun q_s => absurd c_s q_s) (fun q_s => absurd c_s q_s)
  · exact sp_230 hk (fun q_s => absurd q_s c1_s) (fun _ _ => ⟨rfl, hs⟩) (fun _ q_s => absurd c2_s q_s)
  · refine sp_230 hk (fun q_s => absurd q_s c1_s) (fun _ q_s => absurd q_s c2_s) (fun _ _ _ g3_s p1_s p2_s => ⟨rfl, ?_⟩)
    have a1_s := azix (i := x1_s) (by omega)
    have r2 := na_rng x2_s
    have e5_s : (50 + x2_s).toInt = 50 + x2_s.toInt := by rw [na_add (by rw [i50_]; omega) (by rw [i50_]; omega), i50_]
    dsimp only at p1_s p2_s ⊢
    refine ⟨fun d_s hd_s => ⟨?_, fun k_s hq => ?_⟩, ?_, ?_, ?_⟩
    · dsimp only
      by_cases e_s : d_s = zix x1_s
      · subst e_s
        refine Or.inr (Or.inr ?_)
        simp (disch := omega) only [zne_up, zsame_up]
        exact ⟨by first | trivial | rfl, e5_s, by omega, by omega, by first | trivial | rfl, by omega, by omega⟩
      · refine tS1_same (fun k_s => ?_) ?_ ?_ (hs.1 d_s hd_s).1
        · simp (disch := omega) only [zne_up]
        · simp (disch := omega) only [zne_up]
        · simp (disch := omega) only [zne_up]
    · dsimp only
      by_cases e_s : d_s = zix x1_s
      · subst e_s
        rw [p1_s (60 * zix x1_s + k_s) (by omega) (by omega), p2_s (76 + 2 * zix x1_s + 1) k_s (by omega)]
        exact g1 k_s hq
      · rw [p2_s (76 + 2 * d_s + 1) k_s (by omega), p2_s 126 (60 * d_s + k_s) (by omega), g2 (76 + 2 * d_s + 1) k_s (by omega), g2 126 (60 * d_s + k_s) (by omega)]
        exact (hs.1 d_s hd_s).2 k_s hq
    · dsimp only
      simp (disch := omega) only [zne_up]
      exact hs.2.1
    · dsimp only
      simp (disch := omega) only [zne_up]
      exact hs.2.2.1
    · dsimp only
      simp (disch := omega) only [zne_up]
      exact hs.2.2.2
theorem pr_keep (hk : hKn h_s) (hs : tS h_s) : wF F_s 128 (0, [some (.ref 6), some (.int x1_s), some (.int x2_s)], [], h_s) (gI (fun v_s h1 => wF F_s 229 (0, [some (.ref 102), some (.int x1_s), some (.int x2_s)], [], h1) (gI (fun v2 h2 => v_s = v2 ∧ tS h2)))) := by
  have eI : (h_s.2.1 47 1).toInt = (h_s.2.1 102 39).toInt := by rw [hs.2.1]
  have b1 := hs.2.2.1
  have b2 := hs.2.2.2
  refine sp_128 hk (fun c_s => ?_) (fun c1_s c2_s c3_s c4_s => ?_) (fun c1_s c2_s c3_s c4_s c5_s => ?_)
  · exact sp_229 hk (by omega) (fun _ => ⟨rfl, hs⟩) (fun q1_s q2_s q3_s _ => by omega)
  · have e2_s : zup h_s.2.1 (76 + 2 * zix x1_s) 0 0 102 39 = h_s.2.1 102 39 := zne_up (by omega)
    refine sp_229 hk (by dsimp only; rw [e2_s]; omega) (fun q_s => ?_) (fun q1_s q2_s q3_s _ => ⟨rfl, ?_⟩)
    · dsimp only at q_s
      rw [e2_s] at q_s
      omega
    · dsimp only
      refine ⟨fun d_s hd_s => ⟨?_, (hs.1 d_s hd_s).2⟩, ?_, ?_, ?_⟩
      · dsimp only
        by_cases e_s : d_s = zix x1_s
        · subst e_s
          refine Or.inl ?_
          simp (disch := omega) only [zne_up, zsame_up]
          exact ⟨rfl, c3_s⟩
        · refine tS1_same (fun k_s => ?_) ?_ ?_ (hs.1 d_s hd_s).1
          · simp (disch := omega) only [zne_up]
          · simp (disch := omega) only [zne_up]
          · simp (disch := omega) only [zne_up]
      · dsimp only
        simp (disch := omega) only [zne_up]
        exact hs.2.1
      · dsimp only
        simp (disch := omega) only [zne_up]
        exact hs.2.2.1
      · dsimp only
        simp (disch := omega) only [zne_up]
        exact hs.2.2.2
  · have e2_s : zup (zup h_s.2.1 (76 + 2 * zix x1_s) 0 1) (76 + 2 * zix x1_s) 1 x2_s 102 39 = h_s.2.1 102 39 := by rw [zne_up (by omega), zne_up (by omega)]
    refine sp_229 hk (by dsimp only; rw [e2_s]; omega) (fun q_s => ?_) (fun q1_s q2_s q3_s _ => ⟨rfl, ?_⟩)
    · dsimp only at q_s
      rw [e2_s] at q_s
      omega
    · dsimp only
      refine ⟨fun d_s hd_s => ⟨?_, (hs.1 d_s hd_s).2⟩, ?_, ?_, ?_⟩
      · dsimp only
        by_cases e_s : d_s = zix x1_s
        · subst e_s
          refine Or.inr (Or.inl ?_)
          simp (disch := omega) only [zne_up, zsame_up]
          exact ⟨rfl, by omega, by omega⟩
        · refine tS1_same (fun k_s => ?_) ?_ ?_ (hs.1 d_s hd_s).1
          · simp (disch := omega) only [zne_up]
          · simp (disch := omega) only [zne_up]
          · simp (disch := omega) only [zne_up]
      · dsimp only
        simp (disch := omega) only [zne_up]
        exact hs.2.1
      · dsimp only
        simp (disch := omega) only [zne_up]
        exact hs.2.2.1
      · dsimp only
        simp (disch := omega) only [zne_up]
        exact hs.2.2.2
theorem pr_body (hk : hKn h_s) (hs : tS h_s) : wF F_s 125 (0, [some (.ref 6), some (.int x1_s)], [], h_s) (gI (fun v_s h1 => wF F_s 219 (0, [some (.ref 102), some (.int x1_s)], [], h1) (gI (fun v2 h2 => v_s = v2 ∧ tS h2)))) := by
  have eI : (h_s.2.1 47 1).toInt = (h_s.2.1 102 39).toInt := by rw [hs.2.1]
  have b1 := hs.2.2.1
  have b2 := hs.2.2.2
  refine sp_125 hk (fun c_s => ?_) (fun c1_s c2_s c3_s => ?_) (fun c1_s c2_s c3_s => ?_)
  · exact sp_219 hk (fun _ => ⟨rfl, hs⟩) (fun q1_s q2_s _ => by omega) (fun q1_s q2_s _ => by omega)
  · exact sp_219 hk (fun q_s => by omega) (fun _ _ _ => ⟨rfl, hs⟩) (fun _ _ q_s => by omega)
  · have e2_s : zup (zup h_s.2.1 48 (zix (h_s.2.1 47 1)) x1_s) 47 1 (h_s.2.1 47 1 + 1) 102 39 = h_s.2.1 102 39 := by rw [zne_up (by omega), zne_up (by omega)]
    have e1_s := in1_ (x_s := h_s.2.1 47 1) (by omega)
    refine sp_219 hk (fun q_s => by omega) (fun _ _ q_s => ?_) (fun _ _ q_s => ⟨?_, ?_⟩)
    · dsimp only at q_s
      rw [e2_s] at q_s
      omega
    · dsimp only
      rw [e2_s, ← hs.2.1]
      refine Int32.toInt_inj.mp ?_
      rw [na_sub (by rw [n1_]; omega) (by rw [n1_]; omega), n1_]
      omega
    · dsimp only
      rw [e2_s]
      refine ⟨fun d_s hd_s => ⟨?_, (hs.1 d_s hd_s).2⟩, ?_, ?_, ?_⟩
      · dsimp only
        refine tS1_same (fun k_s => ?_) ?_ ?_ (hs.1 d_s hd_s).1
        · simp (disch := omega) only [zne_up]
        · simp (disch := omega) only [zne_up]
        · simp (disch := omega) only [zne_up]
      · dsimp only
        rw [zne_up (by omega), zne_up (by omega), zsame_up, zsame_up, hs.2.1]
      · dsimp only
        rw [zne_up (by omega), zne_up (by omega), zsame_up]
        omega
      · dsimp only
        rw [zne_up (by omega), zne_up (by omega), zsame_up]
        omega
theorem pr_put (hk : hKn h_s) (hs : tS h_s) : wF F_s 130 (0, [some (.ref 6), some (.int x1_s), some (.int x2_s), some (.long y3), none, none], [], h_s) (gI (fun v_s h1 => wF F_s 233 (0, [some (.ref 102), some (.int x1_s), some (.int x2_s), some (.long y3), none, none], [], h1) (gI (fun v2 h2 => v_s = v2 ∧ tS h2)))) := by
  refine sp_130 hk (fun c_s => ?_) (fun c1_s c2_s c3_s c4_s => ?_) (fun c1_s c2_s c3_s c4_s c5_s => ?_) (fun c1_s c2_s c3_s c4_s c5_s => ?_) (fun c1_s c2_s c3_s c4_s c5_s c6_s c7_s => ?_)
  · exact sp_233 hk (fun _ => ⟨rfl, hs⟩) (fun q1_s q2_s _ _ => by omega) (fun q1_s q2_s _ _ _ => by omega) (fun q1_s q2_s _ _ _ => by omega) (fun q1_s q2_s _ _ _ _ => by omega)
  · have q_s := (hs.1 _ c3_s).1
    unfold tS1 at q_s
    exact sp_233 hk (fun _ => by omega) (fun _ _ _ _ => ⟨rfl, hs⟩) (fun q1_s q2_s _ q3_s q4_s => by omega) (fun q1_s q2_s _ q3_s _ => by omega) (fun q1_s q2_s _ q3_s _ _ => by omega)
  · have q_s := (hs.1 _ c3_s).1
    unfold tS1 at q_s
    exact sp_233 hk (fun _ => by omega) (fun _ _ _ q3_s => by omega) (fun _ _ _ _ _ => ⟨rfl, hs⟩) (fun q1_s q2_s _ q3_s _ => by omega) (fun q1_s q2_s _ q3_s _ _ => by omega)
  · have q_s := (hs.1 _ c3_s).1
    unfold tS1 at q_s
    exact sp_233 hk (fun _ => by omega) (fun _ _ _ q3_s => by omega) (fun _ _ _ q3_s q4_s => by omega) (fun _ _ _ _ _ => ⟨rfl, hs⟩) (fun q1_s q2_s _ q3_s q4_s q5_s => by omega)
  · have q_s := (hs.1 _ c3_s).1
    unfold tS1 at q_s
    refine sp_233 hk (fun _ => by omega) (fun _ _ _ q3_s => ?_) (fun _ _ _ q3_s q4_s => ?_) (fun _ _ _ q3_s q4_s => ?_) (fun _ _ _ q3_s q4_s q5_s => ⟨rfl, ?_⟩)
    · dsimp only at q3_s
      omega
    · dsimp only at q3_s q4_s
      omega
    · dsimp only at q3_s q4_s
      omega
    · have z2 := azix (i := x2_s) c5_s
      have e6_s := zx60 (d_s := x1_s) (i_s := x2_s) c1_s c2_s c5_s (by omega)
      dsimp only
      rw [e6_s, show (h_s.2.1 124 (zix x1_s)).toInt - 50 = (h_s.2.1 (76 + 2 * zix x1_s) 2).toInt by omega]
      refine ⟨fun d_s hd_s => ⟨(hs.1 d_s hd_s).1, fun k_s hq => ?_⟩, hs.2⟩
      dsimp only
      by_cases e_s : d_s = zix x1_s ∧ k_s = zix x2_s
      · obtain ⟨rfl, rfl⟩ := e_s
        rw [zne_up (by omega), zsame_up, zsame_up]
      · rw [zne_up (by omega), zne_up (by omega), zne_up (by omega), zne_up (by omega)]
        exact (hs.1 d_s hd_s).2 k_s hq
theorem pr_shift (hk : hKn h_s) (hs : tS h_s) : wF F_s 132 (0, [some (.ref 6), some (.int x1_s), some (.int x2_s), some (.int x3), some (.int x4_s), some (.int x5_s), none, none], [], h_s) (gI (fun v_s h1 => wF F_s 235 (0, [some (.ref 102), some (.int x1_s), some (.int x2_s), some (.int x3), some (.int x4_s), some (.int x5_s), none], [], h1) (gI (fun v2 h2 => v_s = v2 ∧ tS h2)))) := by
  have hl : ∀ d_s, d_s < 6 → (h_s.2.1 (76 + 2 * d_s) 0).toInt = 2 → 0 ≤ (h_s.2.1 (76 + 2 * d_s) 3).toInt ∧ (h_s.2.1 (76 + 2 * d_s) 3).toInt ≤ 60 := fun d_s hd_s hq => by
    have q_s := (hs.1 d_s hd_s).1
    unfold tS1 at q_s
    omega
  have hr : ∀ d_s, d_s < 6 → 50 ≤ (h_s.2.1 124 d_s).toInt → 0 ≤ (h_s.2.1 125 d_s).toInt ∧ (h_s.2.1 125 d_s).toInt ≤ 60 := fun d_s hd_s hq => by
    have q_s := (hs.1 d_s hd_s).1
    unfold tS1 at q_s
    omega
  refine sp_132 hk hl (fun c_s => ?_) (fun c1_s c2_s c3_s c4_s => ?_) (fun c1_s c2_s c3_s c4_s c5_s => ?_) (fun c1_s c2_s c3_s c4_s c5_s c6_s c7_s => ?_) (fun c1_s c2_s c3_s c4_s c5_s c6_s c7_s => ?_)
  · exact sp_235 hk hr (fun _ => ⟨rfl, hs⟩) (fun q_s => absurd c_s q_s) (fun q_s => absurd c_s q_s) (fun q_s => absurd c_s q_s) (fun q_s => absurd c_s q_s)
  · have qa := (hs.1 _ c1_s).1
    have qb := (hs.1 _ c2_s).1
    unfold tS1 at qa qb
    exact sp_235 hk hr (fun q_s => absurd q_s c3_s) (fun _ _ => ⟨rfl, hs⟩) (fun _ q1_s q2_s => by omega) (fun _ q1_s q2_s _ => by omega) (fun _ q1_s q2_s _ => by omega)
  · have qa := (hs.1 _ c1_s).1
    have qb := (hs.1 _ c2_s).1
    unfold tS1 at qa qb
    exact sp_235 hk hr (fun q_s => absurd q_s c3_s) (fun _ q1_s => by omega) (fun _ _ _ => ⟨rfl, hs⟩) (fun _ q1_s q2_s _ => by omega) (fun _ q1_s q2_s _ => by omega)
  · have qa := (hs.1 _ c1_s).1
    have qb := (hs.1 _ c2_s).1
    unfold tS1 at qa qb
    exact sp_235 hk hr (fun q_s => absurd q_s c3_s) (fun _ q1_s => by omega) (fun _ q1_s q2_s => by omega) (fun _ _ _ _ => ⟨rfl, hs⟩) (fun _ q1_s q2_s q3_s => by omega)
  · have qa := (hs.1 _ c1_s).1
    have qb := (hs.1 _ c2_s).1
    unfold tS1 at qa qb
    refine sp_235 hk hr (fun q_s => absurd q_s c3_s) (fun _ q1_s => ?_) (fun _ q1_s q2_s => ?_) (fun _ q1_s q2_s q3_s => ?_) (fun _ q1_s q2_s q3_s g_s p1_s p2_s => ⟨rfl, ?_⟩)
    · dsimp only at q1_s
      omega
    · dsimp only at q1_s q2_s
      omega
    · dsimp only at q1_s q2_s q3_s
      omega
    · have z2 := azix (i := x2_s) (by omega)
      have z4 := azix (i := x4_s) (by omega)
      have z5 := azix (i := x5_s) (by omega)
      dsimp only at p1_s p2_s ⊢
      refine ⟨fun d_s hd_s => ⟨(hs.1 d_s hd_s).1, fun k_s hq => ?_⟩, hs.2⟩
      dsimp only
      by_cases e_s : d_s = zix x3
      · subst e_s
        rw [p2_s (76 + 2 * zix x3 + 1) k_s (by omega) (by omega), zrw_s]
        by_cases e2_s : zix x4_s ≤ k_s ∧ k_s < zix x4_s + zix x5_s
        · have p_s := p1_s (k_s - zix x4_s) (by omega)
          rw [show 60 * zix x3 + zix x4_s + (k_s - zix x4_s) = 60 * zix x3 + k_s by omega, zrw_n (by omega)] at p_s
          rw [zcp_i e2_s, p_s, (hs.1 _ c1_s).2 _ (by omega)]
          exact congrArg _ (by omega)
        · rw [zcp_o e2_s, p2_s 126 (60 * zix x3 + k_s) (by omega) (by omega), zrw_n (by omega)]
          exact (hs.1 _ hd_s).2 k_s hq
      · rw [p2_s (76 + 2 * d_s + 1) k_s (by omega) (by omega), p2_s 126 (60 * d_s + k_s) (by omega) (by omega), zrw_n (by omega), zrw_n (by omega)]
        exact (hs.1 d_s hd_s).2 k_s hq
theorem pr_elem (hk : hKn h_s) (hs : tS h_s) : wF F_s 131 (0, [some (.ref 6), some (.int x1_s), some (.int x2_s)], [], h_s) (gJ (fun v_s h1 => wF F_s 234 (0, [some (.ref 102), some (.int x1_s), some (.int x2_s)], [], h1) (gJ (fun v2 h2 => v_s = v2 ∧ tS h2)))) := by
  refine sp_131 hk (fun c_s => ?_) (fun c1_s c2_s c3_s c4_s c5_s c6_s c7_s => ?_)
  · refine sp_234 hk (fun _ => ⟨rfl, hs⟩) (fun q1_s q2_s q3_s q4_s q5_s q6_s => ?_)
    have q_s := (hs.1 _ q3_s).1
    unfold tS1 at q_s
    omega
  · have q_s := (hs.1 _ c3_s).1
    unfold tS1 at q_s
    refine sp_234 hk (fun q_s => by omega) (fun q1_s q2_s q3_s q4_s q5_s q6_s => ⟨?_, hs⟩)
    rw [zx60 (d_s := x1_s) (i_s := x2_s) c1_s c2_s c5_s (by omega)]
    exact (hs.1 _ c3_s).2 _ c7_s
end SS_s
/-! SHELVES: what others' calls leave as it was; the start. -/
def tSok (W_s : aW) : Bool := (!aWf W_s 1000 0 && (!aWf W_s 47 1 && !aWf W_s 102 39)) && (List.range 6).all (fun d_s => (!aWf W_s 124 d_s && !aWf W_s 125 d_s) && (!aWf W_s (76 + 2 * d_s) 0 && (!aWf W_s (76 + 2 * d_s) 2 && !aWf W_s (76 + 2 * d_s) 3)))
theorem tS_fr {W_s : aW} (hw : tSok W_s = true) {h_s h1 : zH} (fr_s : aFr (aWf W_s) h_s h1) (hs : tS h_s) : tS h1 := by
  unfold tSok at hw
  rw [Bool.and_eq_true, Bool.and_eq_true, Bool.and_eq_true, Bool.not_eq_true', Bool.not_eq_true', Bool.not_eq_true'] at hw
  obtain ⟨⟨w1_s, w2_s, w3_s⟩, w4_s⟩ := hw
  have e1_s := fr_s.1 47 1 w2_s
  have e2_s := fr_s.1 102 39 w3_s
  have e3_s := fr_s.2.1 w1_s
  refine ⟨fun d_s hd_s => ?_, ?_, ?_, ?_⟩
  · have c_s := List.all_eq_true.mp w4_s d_s (List.mem_range.mpr hd_s)
    rw [Bool.and_eq_true, Bool.and_eq_true, Bool.and_eq_true, Bool.and_eq_true, Bool.not_eq_true', Bool.not_eq_true', Bool.not_eq_true', Bool.not_eq_true', Bool.not_eq_true'] at c_s
    obtain ⟨⟨c1_s, c2_s⟩, c3_s, c4_s, c5_s⟩ := c_s
    have q_s := hs.1 d_s hd_s
    refine ⟨?_, fun k_s hk => ?_⟩
    · have q1_s := q_s.1
      unfold tS1 at q1_s ⊢
      rw [fr_s.1 _ _ c1_s, fr_s.1 _ _ c2_s, fr_s.1 _ _ c3_s, fr_s.1 _ _ c4_s, fr_s.1 _ _ c5_s]
      exact q1_s
    · rw [e3_s]
      exact q_s.2 k_s hk
  · rw [e1_s, e2_s]
    exact hs.2.1
  · rw [e1_s]
    exact hs.2.2.1
  · rw [e1_s]
    exact hs.2.2.2
theorem tS_start {E_s : Nat → Int32} {n_s : Nat} {h_s : zH} (hc_s : hcSh h_s = true) : tS (sH E_s n_s [] h_s) := by
  have sv : ∀ o k_s, o ≠ 0 → sov E_s [] h_s.2.1 o k_s = h_s.2.1 o k_s := fun o k_s ho => by rw [sov_nil ho]
  unfold hcSh at hc_s
  rw [Bool.and_eq_true, Bool.and_eq_true, decide_eq_true_eq, decide_eq_true_eq] at hc_s
  obtain ⟨c1_s, c2_s, c3_s⟩ := hc_s
  refine ⟨fun d_s hd_s => ?_, ?_, ?_, ?_⟩
  · have c_s := List.all_eq_true.mp c1_s d_s (List.mem_range.mpr hd_s)
    rw [Bool.and_eq_true, Bool.and_eq_true, decide_eq_true_eq, decide_eq_true_eq] at c_s
    refine ⟨Or.inl ⟨?_, ?_⟩, fun k_s hk => ?_⟩
    · show (sov E_s [] h_s.2.1 (76 + 2 * d_s) 0).toInt = 0
      rw [sv _ _ (by omega)]
      exact c_s.1.1
    · show (sov E_s [] h_s.2.1 124 d_s).toInt = -1
      rw [sv _ _ (by omega)]
      exact c_s.1.2
    · exact of_decide_eq_true (List.all_eq_true.mp c_s.2 k_s (List.mem_range.mpr hk))
  · show sov E_s [] h_s.2.1 47 1 = sov E_s [] h_s.2.1 102 39
    rw [sv _ _ (by omega), sv _ _ (by omega), c2_s, c3_s]
  · show 0 ≤ (sov E_s [] h_s.2.1 47 1).toInt
    rw [sv _ _ (by omega), c2_s]
    decide
  · show (sov E_s [] h_s.2.1 47 1).toInt ≤ 50
    rw [sv _ _ (by omega), c2_s]
    decide
