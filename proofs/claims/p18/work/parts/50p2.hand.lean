/-! SHELVES, by hand: put, shift; what ties class and reference. -/
def cutv (s_s : Int) (y_s : Int64) : Int64 := if s_s = 0 then y_s.toInt32.toInt8.toInt32.toInt64 else if s_s = 1 then y_s.toInt32.toInt16.toInt32.toInt64 else if s_s = 2 then y_s.toInt32.toInt64 else if s_s = 4 then (if y_s.toInt = 0 then 0 else 1) else y_s
section SP
variable {F_s : Nat} {h_s : zH} {K_s : Int32 → zH → Prop} {x1_s x2_s x3 x4_s x5_s : Int32} {y3 : Int64}
theorem sp_130 (hk : hKn h_s) (t1_s : x1_s.toInt < 0 ∨ 5 < x1_s.toInt → K_s (-1) h_s) (t2_s : 0 ≤ x1_s.toInt → x1_s.toInt ≤ 5 → zix x1_s < 6 → (h_s.2.1 (76 + 2 * zix x1_s) 0).toInt = 0 → K_s (-11) h_s) (t3_s : 0 ≤ x1_s.toInt → x1_s.toInt ≤ 5 → zix x1_s < 6 → ¬ (h_s.2.1 (76 + 2 * zix x1_s) 0).toInt = 0 → ¬ (h_s.2.1 (76 + 2 * zix x1_s) 0).toInt = 2 → K_s (-12) h_s) (t4_s : 0 ≤ x1_s.toInt → x1_s.toInt ≤ 5 → zix x1_s < 6 → (h_s.2.1 (76 + 2 * zix x1_s) 0).toInt = 2 → x2_s.toInt < 0 ∨ (h_s.2.1 (76 + 2 * zix x1_s) 3).toInt ≤ x2_s.toInt → K_s (-13) h_s) (t5_s : 0 ≤ x1_s.toInt → x1_s.toInt ≤ 5 → zix x1_s < 6 → (h_s.2.1 (76 + 2 * zix x1_s) 0).toInt = 2 → 0 ≤ x2_s.toInt → x2_s.toInt < (h_s.2.1 (76 + 2 * zix x1_s) 3).toInt → zix x2_s < 60 → K_s 1 (h_s.1, h_s.2.1, zup h_s.2.2.1 (76 + 2 * zix x1_s + 1) (zix x2_s) (cutv (h_s.2.1 (76 + 2 * zix x1_s) 2).toInt y3), h_s.2.2.2)) : wF F_s 130 (0, [some (.ref 6), some (.int x1_s), some (.int x2_s), some (.long y3), none, none], [], h_s) (gI K_s) := by
  refine wF_le (Nat.le_succ F_s) (sg_130_0 hk ⟨fun c1_s => ?_, fun c1_s => ⟨fun c2_s => fun c3_s => ⟨fun c4_s => ?_, fun c4_s => ⟨fun c6_s => ⟨fun c7_s => ?_, fun c7_s => ⟨fun c9_s => ⟨fun c12_s => fun c13_s => ?_, fun c12_s => ⟨fun c14_s => fun c15_s => ?_, fun c14_s => ⟨fun c16 => fun c17 => ?_, fun c16 => ⟨fun c18_s => fun c19_s => ?_, fun c18_s => ⟨fun c20_s => ⟨fun c21 => fun c22 => ?_, fun c21 => fun c23_s => ?_⟩, fun c20_s => fun c24_s => ?_⟩⟩⟩⟩⟩, fun c9_s => ?_⟩⟩, fun c6_s => ?_⟩⟩, fun c2_s => ?_⟩⟩)
  · exact t1_s (by omega)
  · exact t2_s (by omega) (by omega) (by assumption) (by omega)
  · exact t4_s (by omega) (by omega) (by assumption) (by omega) (by omega)
  · have q_s := t5_s (by omega) (by omega) (by assumption) (by omega) (by omega) (by omega) (by assumption)
    unfold cutv at q_s
    rw [if_pos (by omega)] at q_s
    exact q_s
  · have q_s := t5_s (by omega) (by omega) (by assumption) (by omega) (by omega) (by omega) (by assumption)
    unfold cutv at q_s
    rw [if_neg (by omega), if_pos (by omega)] at q_s
    exact q_s
  · have q_s := t5_s (by omega) (by omega) (by assumption) (by omega) (by omega) (by omega) (by assumption)
    unfold cutv at q_s
    rw [if_neg (by omega), if_neg (by omega), if_pos (by omega)] at q_s
    exact q_s
  · have q_s := t5_s (by omega) (by omega) (by assumption) (by omega) (by omega) (by omega) (by assumption)
    unfold cutv at q_s
    rw [if_neg (by omega), if_neg (by omega), if_neg (by omega), if_neg (by omega)] at q_s
    exact q_s
  · have q_s := t5_s (by omega) (by omega) (by assumption) (by omega) (by omega) (by omega) (by assumption)
    unfold cutv at q_s
    rw [if_neg (by omega), if_neg (by omega), if_neg (by omega), if_pos (by omega), if_pos (by omega)] at q_s
    exact q_s
  · have q_s := t5_s (by omega) (by omega) (by assumption) (by omega) (by omega) (by omega) (by assumption)
    unfold cutv at q_s
    rw [if_neg (by omega), if_neg (by omega), if_neg (by omega), if_pos (by omega), if_neg (by omega)] at q_s
    exact q_s
  · have q_s := t5_s (by omega) (by omega) (by assumption) (by omega) (by omega) (by omega) (by assumption)
    unfold cutv at q_s
    rw [if_neg (by omega), if_neg (by omega), if_neg (by omega), if_neg (by omega)] at q_s
    exact q_s
  · exact t4_s (by omega) (by omega) (by assumption) (by omega) (by omega)
  · exact t3_s (by omega) (by omega) (by assumption) (by omega) (by omega)
  · exact t1_s (by omega)
theorem sp_233 (hk : hKn h_s) (t1_s : x1_s.toInt < 0 ∨ 5 < x1_s.toInt → K_s (-1) h_s) (t2_s : 0 ≤ x1_s.toInt → x1_s.toInt ≤ 5 → zix x1_s < 6 → (h_s.2.1 124 (zix x1_s)).toInt < 0 → K_s (-11) h_s) (t3_s : 0 ≤ x1_s.toInt → x1_s.toInt ≤ 5 → zix x1_s < 6 → 0 ≤ (h_s.2.1 124 (zix x1_s)).toInt → (h_s.2.1 124 (zix x1_s)).toInt < 50 → K_s (-12) h_s) (t4_s : 0 ≤ x1_s.toInt → x1_s.toInt ≤ 5 → zix x1_s < 6 → 50 ≤ (h_s.2.1 124 (zix x1_s)).toInt → x2_s.toInt < 0 ∨ (h_s.2.1 125 (zix x1_s)).toInt ≤ x2_s.toInt → K_s (-13) h_s) (t5_s : 0 ≤ x1_s.toInt → x1_s.toInt ≤ 5 → zix x1_s < 6 → 50 ≤ (h_s.2.1 124 (zix x1_s)).toInt → 0 ≤ x2_s.toInt → x2_s.toInt < (h_s.2.1 125 (zix x1_s)).toInt → K_s 1 (h_s.1, h_s.2.1, zup h_s.2.2.1 126 (zix (60 * x1_s + x2_s)) (cutv ((h_s.2.1 124 (zix x1_s)).toInt - 50) y3), h_s.2.2.2)) : wF F_s 233 (0, [some (.ref 102), some (.int x1_s), some (.int x2_s), some (.long y3), none, none], [], h_s) (gI K_s) := by
  have r_s := na_rng (h_s.2.1 124 (zix x1_s))
  have e_s : 50 ≤ (h_s.2.1 124 (zix x1_s)).toInt → (h_s.2.1 124 (zix x1_s) - 50).toInt = (h_s.2.1 124 (zix x1_s)).toInt - 50 := fun _ => by rw [na_sub (by rw [i50_]; omega) (by rw [i50_]; omega), i50_]
  refine wF_le (Nat.le_succ F_s) (sg_233_0 hk ⟨fun c1_s => ?_, fun c1_s => ⟨fun c2_s => ?_, fun c2_s => fun c3_s => ⟨fun c4_s => ?_, fun c4_s => ⟨fun c6_s => ?_, fun c6_s => ⟨fun c7_s => ?_, fun c7_s => ⟨fun c9_s => ⟨fun c11_s => fun c12_s => ?_, fun c11_s => ⟨fun c13_s => fun c14_s => ?_, fun c13_s => ⟨fun c15_s => fun c16 => ?_, fun c15_s => ⟨fun c17 => ⟨fun c18_s => fun c19_s => ?_, fun c18_s => fun c20_s => ?_⟩, fun c17 => fun c21 => ?_⟩⟩⟩⟩, fun c9_s => ?_⟩⟩⟩⟩⟩⟩)
  · exact t1_s (by omega)
  · exact t1_s (by omega)
  · exact t2_s (by omega) (by omega) (by assumption) (by omega)
  · exact t3_s (by omega) (by omega) (by assumption) (by omega) (by omega)
  · exact t4_s (by omega) (by omega) (by assumption) (by omega) (by omega)
  · have q_s := t5_s (by omega) (by omega) (by assumption) (by omega) (by omega) (by omega)
    unfold cutv at q_s
    rw [if_pos (by omega)] at q_s
    exact q_s
  · have q_s := t5_s (by omega) (by omega) (by assumption) (by omega) (by omega) (by omega)
    unfold cutv at q_s
    rw [if_neg (by omega), if_pos (by omega)] at q_s
    exact q_s
  · have q_s := t5_s (by omega) (by omega) (by assumption) (by omega) (by omega) (by omega)
    unfold cutv at q_s
    rw [if_neg (by omega), if_neg (by omega), if_pos (by omega)] at q_s
    exact q_s
  · have q_s := t5_s (by omega) (by omega) (by assumption) (by omega) (by omega) (by omega)
    unfold cutv at q_s
    rw [if_neg (by omega), if_neg (by omega), if_neg (by omega), if_pos (by omega), if_pos (by omega)] at q_s
    exact q_s
  · have q_s := t5_s (by omega) (by omega) (by assumption) (by omega) (by omega) (by omega)
    unfold cutv at q_s
    rw [if_neg (by omega), if_neg (by omega), if_neg (by omega), if_pos (by omega), if_neg (by omega)] at q_s
    exact q_s
  · have q_s := t5_s (by omega) (by omega) (by assumption) (by omega) (by omega) (by omega)
    unfold cutv at q_s
    rw [if_neg (by omega), if_neg (by omega), if_neg (by omega), if_neg (by omega)] at q_s
    exact q_s
  · exact t4_s (by omega) (by omega) (by assumption) (by omega) (by omega)
theorem sp_132 (hk : hKn h_s) (hl : ∀ d_s, d_s < 6 → (h_s.2.1 (76 + 2 * d_s) 0).toInt = 2 → 0 ≤ (h_s.2.1 (76 + 2 * d_s) 3).toInt ∧ (h_s.2.1 (76 + 2 * d_s) 3).toInt ≤ 60) (t1_s : x1_s.toInt < 0 ∨ 5 < x1_s.toInt ∨ x3.toInt < 0 ∨ 5 < x3.toInt → K_s (-1) h_s) (t2_s : zix x1_s < 6 → zix x3 < 6 → ¬ (x1_s.toInt < 0 ∨ 5 < x1_s.toInt ∨ x3.toInt < 0 ∨ 5 < x3.toInt) → (h_s.2.1 (76 + 2 * zix x1_s) 0).toInt = 0 ∨ (h_s.2.1 (76 + 2 * zix x3) 0).toInt = 0 → K_s (-11) h_s) (t3_s : zix x1_s < 6 → zix x3 < 6 → ¬ (x1_s.toInt < 0 ∨ 5 < x1_s.toInt ∨ x3.toInt < 0 ∨ 5 < x3.toInt) → ¬ ((h_s.2.1 (76 + 2 * zix x1_s) 0).toInt = 0 ∨ (h_s.2.1 (76 + 2 * zix x3) 0).toInt = 0) → ¬ (h_s.2.1 (76 + 2 * zix x1_s) 0).toInt = 2 ∨ ¬ (h_s.2.1 (76 + 2 * zix x3) 0).toInt = 2 ∨ ¬ (h_s.2.1 (76 + 2 * zix x1_s) 2).toInt = (h_s.2.1 (76 + 2 * zix x3) 2).toInt → K_s (-12) h_s) (t4_s : zix x1_s < 6 → zix x3 < 6 → ¬ (x1_s.toInt < 0 ∨ 5 < x1_s.toInt ∨ x3.toInt < 0 ∨ 5 < x3.toInt) → (h_s.2.1 (76 + 2 * zix x1_s) 0).toInt = 2 → (h_s.2.1 (76 + 2 * zix x3) 0).toInt = 2 → (h_s.2.1 (76 + 2 * zix x1_s) 2).toInt = (h_s.2.1 (76 + 2 * zix x3) 2).toInt → x5_s.toInt < 0 ∨ x2_s.toInt < 0 ∨ x4_s.toInt < 0 ∨ (h_s.2.1 (76 + 2 * zix x1_s) 3).toInt < x2_s.toInt + x5_s.toInt ∨ (h_s.2.1 (76 + 2 * zix x3) 3).toInt < x4_s.toInt + x5_s.toInt → K_s (-13) h_s) (t5_s : zix x1_s < 6 → zix x3 < 6 → ¬ (x1_s.toInt < 0 ∨ 5 < x1_s.toInt ∨ x3.toInt < 0 ∨ 5 < x3.toInt) → (h_s.2.1 (76 + 2 * zix x1_s) 0).toInt = 2 → (h_s.2.1 (76 + 2 * zix x3) 0).toInt = 2 → (h_s.2.1 (76 + 2 * zix x1_s) 2).toInt = (h_s.2.1 (76 + 2 * zix x3) 2).toInt → ¬ (x5_s.toInt < 0 ∨ x2_s.toInt < 0 ∨ x4_s.toInt < 0 ∨ (h_s.2.1 (76 + 2 * zix x1_s) 3).toInt < x2_s.toInt + x5_s.toInt ∨ (h_s.2.1 (76 + 2 * zix x3) 3).toInt < x4_s.toInt + x5_s.toInt) → K_s x5_s (h_s.1, h_s.2.1, zrow h_s.2.2.1 (76 + 2 * zix x3 + 1) (zcpy (h_s.2.2.1 (76 + 2 * zix x1_s + 1)) (h_s.2.2.1 (76 + 2 * zix x3 + 1)) (zix x2_s) (zix x4_s) (zix x5_s)), h_s.2.2.2)) : wF F_s 132 (0, [some (.ref 6), some (.int x1_s), some (.int x2_s), some (.int x3), some (.int x4_s), some (.int x5_s), none, none], [], h_s) (gI K_s) := by
  have d1_s : zix x1_s < 6 → (h_s.2.1 (76 + 2 * zix x1_s) 0).toInt = 2 → 0 ≤ x2_s.toInt → x2_s.toInt ≤ (h_s.2.1 (76 + 2 * zix x1_s) 3).toInt → (h_s.2.1 (76 + 2 * zix x1_s) 3 - x2_s).toInt = (h_s.2.1 (76 + 2 * zix x1_s) 3).toInt - x2_s.toInt := fun p1_s p2_s p3_s p4_s => by
    have q_s := hl _ p1_s p2_s
    exact na_sub (by omega) (by omega)
  have d2_s : zix x3 < 6 → (h_s.2.1 (76 + 2 * zix x3) 0).toInt = 2 → 0 ≤ x4_s.toInt → x4_s.toInt ≤ (h_s.2.1 (76 + 2 * zix x3) 3).toInt → (h_s.2.1 (76 + 2 * zix x3) 3 - x4_s).toInt = (h_s.2.1 (76 + 2 * zix x3) 3).toInt - x4_s.toInt := fun p1_s p2_s p3_s p4_s => by
    have q_s := hl _ p1_s p2_s
    exact na_sub (by omega) (by omega)
  refine wF_le (Nat.le_succ F_s) (sg_132_0 hk ⟨fun c1_s => ?_, fun c1_s => ⟨fun c2_s => ⟨fun c3_s => ?_, fun c3_s => ⟨fun c4_s => fun c5_s => fun c6_s => ⟨fun c7_s => ?_, fun c7_s => ⟨fun c8_s => ?_, fun c8_s => ⟨fun c9_s => ⟨fun c10_s => ⟨fun c11_s => ⟨fun c12_s => ?_, fun c12_s => ⟨fun c13_s => ?_, fun c13_s => ⟨fun c14_s => ?_, fun c14_s => ⟨fun c15_s => ?_, fun c15_s => ⟨fun c16 => ?_, fun c16 => ⟨fun c17 => ?_, fun c17 => ⟨fun c18_s => ?_, fun c18_s => fun c19_s => ?_⟩⟩⟩⟩⟩⟩⟩, fun c11_s => ?_⟩, fun c10_s => ?_⟩, fun c9_s => ?_⟩⟩⟩, fun c4_s => ?_⟩⟩, fun c2_s => ?_⟩⟩)
  · exact t1_s (by omega)
  · exact t1_s (by omega)
  · exact t2_s (by assumption) (by assumption) (by omega) (by omega)
  · exact t2_s (by assumption) (by assumption) (by omega) (by omega)
  · exact t4_s (by assumption) (by assumption) (by omega) (by omega) (by omega) (by omega) (by omega)
  · exact t4_s (by assumption) (by assumption) (by omega) (by omega) (by omega) (by omega) (by omega)
  · exact t4_s (by assumption) (by assumption) (by omega) (by omega) (by omega) (by omega) (by omega)
  · exact t4_s (by assumption) (by assumption) (by omega) (by omega) (by omega) (by omega) (by omega)
  · exact t4_s (by assumption) (by assumption) (by omega) (by omega) (by omega) (by omega) (by omega)
  · exact t4_s (by assumption) (by assumption) (by omega) (by omega) (by omega) (by omega) (by omega)
  · exact t4_s (by assumption) (by assumption) (by omega) (by omega) (by omega) (by omega) (by omega)
  · exact t5_s (by assumption) (by assumption) (by omega) (by omega) (by omega) (by omega) (by omega)
  · exact t3_s (by assumption) (by assumption) (by omega) (by omega) (by omega)
  · exact t3_s (by assumption) (by assumption) (by omega) (by omega) (by omega)
  · exact t3_s (by assumption) (by assumption) (by omega) (by omega) (by omega)
  · exact t1_s (by omega)
  · exact t1_s (by omega)
end SP
