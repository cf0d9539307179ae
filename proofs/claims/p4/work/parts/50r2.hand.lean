/-! ROADS: by turns. -/
def badR (x1_s x2_s : Int32) : Prop := x1_s.toInt < 0 ∨ (x1_s / 10).toInt < 0 ∨ 7 < (x1_s / 10).toInt ∨ (x1_s - x1_s / 10 * 10).toInt < 0 ∨ 7 < (x1_s - x1_s / 10 * 10).toInt ∨ (x1_s / 10).toInt = (x1_s - x1_s / 10 * 10).toInt ∨ x2_s.toInt < 1 ∨ 9 < x2_s.toInt
section RO
variable {F_s : Nat} {h_s : zH} {K_s : Int32 → zH → Prop} {x1_s x2_s x3 : Int32} {R_s : Nat}
theorem sp_95 (hk : hKn h_s) (hR : (h_s.2.1 7 8).toInt = (R_s : Int)) (t1_s : badR x1_s x2_s → K_s (-1) h_s) (t2_s : ¬ badR x1_s x2_s → R_s < 12 → ∀ f1_s, f1_s 7 8 = h_s.2.1 7 8 + 1 → f1_s (28 + R_s) 0 = x1_s / 10 → f1_s (28 + R_s) 1 = x1_s - x1_s / 10 * 10 → f1_s (28 + R_s) 2 = x2_s → (∀ o k_s, ¬ (o = 7 ∧ k_s = 8) → ¬ (o = 28 + R_s ∧ k_s ≤ 2) → f1_s o k_s = h_s.2.1 o k_s) → K_s (h_s.2.1 7 8) (h_s.1, f1_s, h_s.2.2.1, h_s.2.2.2)) (t3_s : ¬ badR x1_s x2_s → 12 ≤ R_s → K_s (-3) h_s) : wF F_s 95 (0, [some (.ref 6), some (.int x1_s), some (.int x2_s)], [], h_s) (gI K_s) := by
  have z_s := azix (i := h_s.2.1 7 8) (by omega)
  have y_s : zix (h_s.2.1 7 8) = R_s := by omega
  refine wF_le (Nat.le_succ F_s) (sg_95_0 hk ⟨fun c1_s => ?_, fun c1_s => ⟨fun c2_s => ?_, fun c2_s => ⟨fun c3_s => ⟨fun c4_s => ?_, fun c4_s => ⟨fun c5_s => ⟨fun c6_s => ?_, fun c6_s => ⟨fun c7_s => ?_, fun c7_s => ⟨fun c8_s => ?_, fun c8_s => ⟨fun c9_s => fun c10_s => ?_, fun c9_s => ?_⟩⟩⟩⟩, fun c5_s => ?_⟩⟩, fun c3_s => ?_⟩⟩⟩)
  · exact t1_s (by unfold badR; omega)
  · exact t1_s (by unfold badR; omega)
  · exact t1_s (by unfold badR; omega)
  · exact t1_s (by unfold badR; omega)
  · exact t1_s (by unfold badR; omega)
  · exact t1_s (by unfold badR; omega)
  · rw [y_s]
    have q_s := t2_s (by unfold badR; omega) (by omega) (zup (zup (zup (zup h_s.2.1 (28 + R_s) 0 (x1_s / 10)) (28 + R_s) 1 (x1_s - x1_s / 10 * 10)) (28 + R_s) 2 x2_s) 7 8 (h_s.2.1 7 8 + 1)) zsame_up (by rw [zne_up (by omega), zne_up (by omega), zne_up (by omega), zsame_up]) (by rw [zne_up (by omega), zne_up (by omega), zsame_up]) (by rw [zne_up (by omega), zsame_up]) (fun o k_s g1 g2 => by rw [zne_up (by omega), zne_up (by omega), zne_up (by omega), zne_up (by omega)])
    rw [show zup (zup (zup h_s.2.1 (28 + R_s) 0 (x1_s / 10)) (28 + R_s) 1 (x1_s - x1_s / 10 * 10)) (28 + R_s) 2 x2_s 7 8 = h_s.2.1 7 8 by rw [zne_up (by omega), zne_up (by omega), zne_up (by omega)]]
    exact q_s
  · exact t3_s (by unfold badR; omega) (by omega)
  · exact t1_s (by unfold badR; omega)
  · exact t1_s (by unfold badR; omega)
theorem sp_159 (hk : hKn h_s) (hR : (h_s.2.1 102 8).toInt = (R_s : Int)) (hR12 : R_s ≤ 12) (t1_s : badR x1_s x2_s → K_s (-1) h_s) (t2_s : ¬ badR x1_s x2_s → R_s < 12 → ∀ f1_s, f1_s 102 8 = h_s.2.1 102 8 + 1 → f1_s 107 R_s = x1_s / 10 → f1_s 108 R_s = x1_s - x1_s / 10 * 10 → f1_s 103 (68 + R_s) = x2_s → (∀ o k_s, ¬ (o = 102 ∧ k_s = 8) → ¬ ((o = 107 ∨ o = 108) ∧ k_s = R_s) → ¬ (o = 103 ∧ k_s = 68 + R_s) → f1_s o k_s = h_s.2.1 o k_s) → K_s (h_s.2.1 102 8 + 1 - 1) (h_s.1, f1_s, h_s.2.2.1, h_s.2.2.2)) (t3_s : ¬ badR x1_s x2_s → 12 ≤ R_s → K_s (-3) h_s) : wF F_s 159 (0, [some (.ref 102), some (.int x1_s), some (.int x2_s)], [], h_s) (gI K_s) := by
  have z_s := azix (i := h_s.2.1 102 8) (by omega)
  have y_s : zix (h_s.2.1 102 8) = R_s := by omega
  have e68 : (68 + h_s.2.1 102 8).toInt = 68 + (R_s : Int) := by rw [na_add (by rw [i68_]; omega) (by rw [i68_]; omega), i68_, hR]
  have z68 := azix (i := 68 + h_s.2.1 102 8) (by omega)
  have y68 : zix (68 + h_s.2.1 102 8) = 68 + R_s := by omega
  refine wF_le (Nat.le_succ F_s) (sg_159_0 hk ⟨fun c1_s => ?_, fun c1_s => ⟨fun c2_s => ?_, fun c2_s => ⟨fun c3_s => ?_, fun c3_s => ⟨fun c4_s => ?_, fun c4_s => ⟨fun c5_s => ?_, fun c5_s => ⟨fun c6_s => ?_, fun c6_s => ⟨fun c7_s => ?_, fun c7_s => ⟨fun c8_s => ?_, fun c8_s => ⟨fun c9_s => ?_, fun c9_s => fun c10_s => fun c12_s => ?_⟩⟩⟩⟩⟩⟩⟩⟩⟩)
  · exact t1_s (by unfold badR; omega)
  · exact t1_s (by unfold badR; omega)
  · exact t1_s (by unfold badR; omega)
  · exact t1_s (by unfold badR; omega)
  · exact t1_s (by unfold badR; omega)
  · exact t1_s (by unfold badR; omega)
  · exact t1_s (by unfold badR; omega)
  · exact t1_s (by unfold badR; omega)
  · exact t3_s (by unfold badR; omega) (by omega)
  · rw [y_s, y68]
    exact t2_s (by unfold badR; omega) (by omega) _ zsame_up (by rw [zne_up (by omega), zne_up (by omega), zne_up (by omega), zsame_up]) (by rw [zne_up (by omega), zne_up (by omega), zsame_up]) (by rw [zne_up (by omega), zsame_up]) (fun o k_s g1 g2 g3_s => by rw [zne_up (by omega), zne_up (by omega), zne_up (by omega), zne_up (by omega)])
theorem pr_road (hk : hKn h_s) (hr : tR h_s) : wF F_s 95 (0, [some (.ref 6), some (.int x1_s), some (.int x2_s)], [], h_s) (gI (fun v_s h1 => wF F_s 159 (0, [some (.ref 102), some (.int x1_s), some (.int x2_s)], [], h1) (gI (fun v2 h2 => v_s = v2 ∧ tR h2)))) := by
  obtain ⟨r1_s, r2, r3⟩ := hr
  have hr : tR h_s := ⟨r1_s, r2, r3⟩
  have hR : (h_s.2.1 7 8).toInt = ((h_s.2.1 7 8).toInt.toNat : Int) := by omega
  have hR2 : (h_s.2.1 102 8).toInt = ((h_s.2.1 7 8).toInt.toNat : Int) := by
    rw [← r1_s]
    exact hR
  have hR12 : (h_s.2.1 7 8).toInt.toNat ≤ 12 := by omega
  generalize (h_s.2.1 7 8).toInt.toNat = R_s at hR hR2 hR12
  refine sp_95 hk hR (fun c_s => ?_) (fun c_s c1_s f1_s b1 b2 b3 b4 b5 => ?_) (fun c_s c1_s => ?_)
  · exact sp_159 hk hR2 hR12 (fun _ => ⟨rfl, hr⟩) (fun w_s => absurd c_s w_s) (fun w_s => absurd c_s w_s)
  · have e8 : f1_s 102 8 = h_s.2.1 102 8 := b5 102 8 (by omega) (by omega)
    refine sp_159 (h_s := (h_s.1, f1_s, h_s.2.2.1, h_s.2.2.2)) hk (by rw [← hR2]; exact congrArg _ e8) hR12 (fun w_s => absurd w_s c_s) (fun _ _ f2_s d1_s d2_s d3_s d4_s d5_s => ⟨?_, ?_, ?_, ?_⟩) (fun _ w_s => by omega)
    · dsimp only
      rw [e8, ← r1_s]
      refine Int32.toInt_inj.mp ?_
      rw [na_sub (by rw [n1_, in1_ (by omega)]; omega) (by rw [n1_, in1_ (by omega)]; omega), in1_ (by omega), n1_]
      omega
    · dsimp only
      rw [d1_s, d5_s 7 8 (by omega) (by omega) (by omega)]
      dsimp only
      rw [b1, e8, r1_s]
    · dsimp only
      rw [d5_s 7 8 (by omega) (by omega) (by omega)]
      dsimp only
      rw [b1, in1_ (by omega)]
      omega
    · dsimp only
      rw [d5_s 7 8 (by omega) (by omega) (by omega)]
      dsimp only
      rw [b1, in1_ (by omega)]
      omega
  · exact sp_159 hk hR2 hR12 (fun w_s => absurd w_s c_s) (fun _ w_s => by omega) (fun _ _ => ⟨rfl, hr⟩)
theorem sp_96 (hk : hKn h_s) (hR : (h_s.2.1 7 8).toInt = (R_s : Int)) (hR12 : R_s ≤ 12) (hl : ∀ d_s, d_s < 6 → (h_s.2.1 (76 + 2 * d_s) 0).toInt = 2 → 0 ≤ (h_s.2.1 (76 + 2 * d_s) 3).toInt ∧ (h_s.2.1 (76 + 2 * d_s) 3).toInt ≤ 60) (t1_s : x1_s.toInt < 0 ∨ 5 < x1_s.toInt ∨ x3.toInt < 1 ∨ 12 < x3.toInt → K_s (-1) h_s) (t2_s : 0 ≤ x1_s.toInt → x1_s.toInt ≤ 5 → 1 ≤ x3.toInt → x3.toInt ≤ 12 → zix x1_s < 6 → (h_s.2.1 (76 + 2 * zix x1_s) 0).toInt = 0 ∨ ((h_s.2.1 (76 + 2 * zix x1_s) 0).toInt = 2 ∧ (h_s.2.1 (76 + 2 * zix x1_s) 2).toInt = 0 ∧ x2_s.toInt < 0) → K_s 0 h_s) (t3_s : 0 ≤ x1_s.toInt → x1_s.toInt ≤ 5 → 1 ≤ x3.toInt → x3.toInt ≤ 12 → zix x1_s < 6 → ¬ (h_s.2.1 (76 + 2 * zix x1_s) 0).toInt = 0 → ¬ (h_s.2.1 (76 + 2 * zix x1_s) 0).toInt = 2 ∨ ¬ (h_s.2.1 (76 + 2 * zix x1_s) 2).toInt = 0 → K_s (-12) h_s) (t4_s : 0 ≤ x1_s.toInt → x1_s.toInt ≤ 5 → 1 ≤ x3.toInt → x3.toInt ≤ 12 → zix x1_s < 6 → (h_s.2.1 (76 + 2 * zix x1_s) 0).toInt = 2 → (h_s.2.1 (76 + 2 * zix x1_s) 2).toInt = 0 → 0 ≤ x2_s.toInt → ∀ (k_s : Nat) (v_s : Int32) f1_s, v_s.toInt = (k_s : Int) → lstR (h_s.2.2.1 (76 + 2 * zix x1_s + 1)) (h_s.2.1 (76 + 2 * zix x1_s) 3).toInt.toNat x2_s.toInt.toNat R_s x3.toInt.toNat k_s → (f1_s 7 8).toInt = ((R_s + k_s : Nat) : Int) → R_s + k_s ≤ 12 → ct96 (h_s.2.2.1 (76 + 2 * zix x1_s + 1)) x2_s.toInt.toNat R_s k_s f1_s → fr96 R_s k_s h_s.2.1 f1_s → K_s v_s (h_s.1, f1_s, h_s.2.2.1, h_s.2.2.2)) : wF F_s 96 (0, [some (.ref 6), some (.int x1_s), some (.int x2_s), some (.int x3), none, none, none], [], h_s) (gI K_s) := by
  refine wF_le (Nat.le_succ F_s) (sg_96_0 hk ⟨fun c1_s => ?_, fun c1_s => ⟨fun c2_s => ⟨fun c3_s => ?_, fun c3_s => ⟨fun c4_s => ?_, fun c4_s => fun c5_s => ⟨fun c6_s => ?_, fun c6_s => ⟨fun c7_s => ⟨fun c8_s => ⟨fun c9_s => ?_, fun c9_s => ?_⟩, fun c8_s => ?_⟩, fun c7_s => ?_⟩⟩⟩⟩, fun c2_s => ?_⟩⟩)
  · exact t1_s (by omega)
  · exact t1_s (by omega)
  · exact t1_s (by omega)
  · exact t2_s (by omega) (by omega) (by omega) (by omega) (by assumption) (by omega)
  · exact t2_s (by omega) (by omega) (by omega) (by omega) (by assumption) (by omega)
  · have l := hl _ c5_s (by omega)
    exact rd96 (h_s := h_s) (f0_s := h_s.2.1) (d_s := zix x1_s) (n_s := x3.toInt.toNat) (R_s := R_s) (i_s := x2_s.toInt.toNat) (len_s := (h_s.2.1 (76 + 2 * zix x1_s) 3).toInt.toNat) (c_s := h_s.2.2.1 (76 + 2 * zix x1_s + 1)) hk c5_s (fun _ => rfl) (by omega) (by omega) (by omega) (by omega) (fun k_s v_s f1_s g1 g2 g3_s g4 g5_s g6 => t4_s (by omega) (by omega) (by omega) (by omega) c5_s (by omega) (by omega) (by omega) k_s v_s f1_s g1 g2 g3_s g4 g5_s g6) F_s 0 0 x2_s h_s.2.1 rfl (by omega) (by omega) (fun m_s hm_s => by omega) (by omega) (by omega) (fun m_s hm_s => by omega) (fun _ _ _ _ => rfl)
  · exact t3_s (by omega) (by omega) (by omega) (by omega) (by assumption) (by omega) (by omega)
  · exact t3_s (by omega) (by omega) (by omega) (by omega) (by assumption) (by omega) (by omega)
  · exact t1_s (by omega)
theorem z69 {x4_s : Int32} {l6 : Option Value} (hk : hKn h_s) (t_s : K_s x4_s h_s) : wF F_s 160 (69, [some (.ref 102), some (.int x1_s), some (.int x2_s), some (.int x3), some (.int x4_s), some (.int 0), l6], [], h_s) (gI K_s) := wF_le (Nat.le_succ F_s) (sg_160_69 hk ⟨fun _ => t_s, fun q_s => absurd rfl q_s⟩)
theorem sp_160 (hk : hKn h_s) (hR : (h_s.2.1 102 8).toInt = (R_s : Int)) (hR12 : R_s ≤ 12) (hl : ∀ d_s, d_s < 6 → 50 ≤ (h_s.2.1 124 d_s).toInt → 0 ≤ (h_s.2.1 125 d_s).toInt ∧ (h_s.2.1 125 d_s).toInt ≤ 60) (t1_s : x1_s.toInt < 0 ∨ 5 < x1_s.toInt ∨ x3.toInt < 1 ∨ 12 < x3.toInt → K_s (-1) h_s) (t2_s : 0 ≤ x1_s.toInt → x1_s.toInt ≤ 5 → 1 ≤ x3.toInt → x3.toInt ≤ 12 → zix x1_s < 6 → (h_s.2.1 124 (zix x1_s)).toInt < 0 ∨ ((h_s.2.1 124 (zix x1_s)).toInt = 50 ∧ x2_s.toInt < 0) → K_s 0 h_s) (t3_s : 0 ≤ x1_s.toInt → x1_s.toInt ≤ 5 → 1 ≤ x3.toInt → x3.toInt ≤ 12 → zix x1_s < 6 → 0 ≤ (h_s.2.1 124 (zix x1_s)).toInt → ¬ (h_s.2.1 124 (zix x1_s)).toInt = 50 → K_s (-12) h_s) (t4_s : 0 ≤ x1_s.toInt → x1_s.toInt ≤ 5 → 1 ≤ x3.toInt → x3.toInt ≤ 12 → zix x1_s < 6 → (h_s.2.1 124 (zix x1_s)).toInt = 50 → 0 ≤ x2_s.toInt → ∀ (k_s : Nat) (v_s : Int32) f1_s, v_s.toInt = (k_s : Int) → lstR (fun j_s => h_s.2.2.1 126 (60 * zix x1_s + j_s)) (h_s.2.1 125 (zix x1_s)).toInt.toNat x2_s.toInt.toNat R_s x3.toInt.toNat k_s → (f1_s 102 8).toInt = ((R_s + k_s : Nat) : Int) → R_s + k_s ≤ 12 → ct60 (fun j_s => h_s.2.2.1 126 (60 * zix x1_s + j_s)) x2_s.toInt.toNat R_s k_s f1_s → fr60 R_s k_s h_s.2.1 f1_s → K_s v_s (h_s.1, f1_s, h_s.2.2.1, h_s.2.2.2)) : wF F_s 160 (0, [some (.ref 102), some (.int x1_s), some (.int x2_s), some (.int x3), none, none, none], [], h_s) (gI K_s) := by
  refine wF_le (Nat.le_succ F_s) (sg_160_0 hk ⟨fun c1_s => ?_, fun c1_s => ⟨fun c2_s => ?_, fun c2_s => ⟨fun c3_s => ?_, fun c3_s => ⟨fun c4_s => ?_, fun c4_s => fun c5_s => ⟨fun c6_s => ⟨fun c8_s => ⟨fun c9_s => ?_, fun c9_s => ?_⟩, fun c8_s => ?_⟩, fun c6_s => ⟨fun c11_s => ⟨fun c14_s => ?_, fun c14_s => ?_⟩, fun c11_s => ?_⟩⟩⟩⟩⟩⟩)
  · exact t1_s (by omega)
  · exact t1_s (by omega)
  · exact t1_s (by omega)
  · exact t1_s (by omega)
  · exfalso
    omega
  · exfalso
    omega
  · exact z69 hk (t2_s (by omega) (by omega) (by omega) (by omega) (by assumption) (by omega))
  · exact z69 hk (t2_s (by omega) (by omega) (by omega) (by omega) (by assumption) (by omega))
  · have l := hl _ c5_s (by omega)
    exact rd60 (h_s := h_s) (f0_s := h_s.2.1) (n_s := x3.toInt.toNat) (R_s := R_s) (i_s := x2_s.toInt.toNat) (len_s := (h_s.2.1 125 (zix x1_s)).toInt.toNat) (c_s := fun j_s => h_s.2.2.1 126 (60 * zix x1_s + j_s)) hk (by omega) (by omega) (by omega) (fun _ _ => rfl) (by omega) (by omega) (by omega) (by omega) (fun k_s v_s f1_s g1 g2 g3_s g4 g5_s g6 => t4_s (by omega) (by omega) (by omega) (by omega) c5_s (by omega) (by omega) k_s v_s f1_s g1 g2 g3_s g4 g5_s g6) F_s 0 0 1 none h_s.2.1 rfl (by decide) (by omega) (fun m_s hm_s => by omega) (by omega) (by omega) (fun m_s hm_s => by omega) (fun _ _ _ _ _ => rfl)
  · exact t3_s (by omega) (by omega) (by omega) (by omega) (by assumption) (by omega) (by omega)
theorem lstR_eq {c_s c1_s : Nat → Int64} {len_s i_s n_s k_s : Nat} (hl : len_s ≤ 60) (hc_s : ∀ j_s, j_s < 60 → c_s j_s = c1_s j_s) (hq : lstR c_s len_s i_s R_s n_s k_s) : lstR c1_s len_s i_s R_s n_s k_s := by
  have key_s : ∀ j_s, okR c_s len_s i_s R_s j_s ↔ okR c1_s len_s i_s R_s j_s := by
    intro j_s
    unfold okR
    constructor
    · rintro ⟨a_s, b_s, d_s⟩
      refine ⟨a_s, b_s, ?_⟩
      rw [← hc_s _ (by omega), ← hc_s _ (by omega), ← hc_s _ (by omega)]
      exact d_s
    · rintro ⟨a_s, b_s, d_s⟩
      refine ⟨a_s, b_s, ?_⟩
      rw [hc_s _ (by omega), hc_s _ (by omega), hc_s _ (by omega)]
      exact d_s
  obtain ⟨a_s, b_s, d_s⟩ := hq
  refine ⟨a_s, fun j_s hj => (key_s j_s).mp (b_s j_s hj), ?_⟩
  rcases d_s with d_s | d_s
  · exact Or.inl d_s
  · exact Or.inr (fun w_s => d_s ((key_s k_s).mpr w_s))
theorem pr_roads (hk : hKn h_s) (hs : tS h_s) (hr : tR h_s) : wF F_s 96 (0, [some (.ref 6), some (.int x1_s), some (.int x2_s), some (.int x3), none, none, none], [], h_s) (gI (fun v_s h1 => wF F_s 160 (0, [some (.ref 102), some (.int x1_s), some (.int x2_s), some (.int x3), none, none, none], [], h1) (gI (fun v2 h2 => v_s = v2 ∧ tR h2)))) := by
  obtain ⟨r1_s, r2, r3⟩ := hr
  have hr : tR h_s := ⟨r1_s, r2, r3⟩
  have hR : (h_s.2.1 7 8).toInt = ((h_s.2.1 7 8).toInt.toNat : Int) := by omega
  have hR2 : (h_s.2.1 102 8).toInt = ((h_s.2.1 7 8).toInt.toNat : Int) := by
    rw [← r1_s]
    exact hR
  have hR12 : (h_s.2.1 7 8).toInt.toNat ≤ 12 := by omega
  generalize (h_s.2.1 7 8).toInt.toNat = R_s at hR hR2 hR12
  have hl1 : ∀ d_s, d_s < 6 → (h_s.2.1 (76 + 2 * d_s) 0).toInt = 2 → 0 ≤ (h_s.2.1 (76 + 2 * d_s) 3).toInt ∧ (h_s.2.1 (76 + 2 * d_s) 3).toInt ≤ 60 := fun d_s hd_s hq => by
    have q_s := (hs.1 d_s hd_s).1
    unfold tS1 at q_s
    omega
  have hl2 : ∀ d_s, d_s < 6 → 50 ≤ (h_s.2.1 124 d_s).toInt → 0 ≤ (h_s.2.1 125 d_s).toInt ∧ (h_s.2.1 125 d_s).toInt ≤ 60 := fun d_s hd_s hq => by
    have q_s := (hs.1 d_s hd_s).1
    unfold tS1 at q_s
    omega
  refine sp_96 hk hR hR12 hl1 (fun c_s => ?_) (fun c1_s c2_s c3_s c4_s c5_s c6_s => ?_) (fun c1_s c2_s c3_s c4_s c5_s c6_s c7_s => ?_) (fun c1_s c2_s c3_s c4_s c5_s c6_s c7_s c8_s k_s v_s f1_s g1 g2 g3_s g4 g5_s g6 => ?_)
  · exact sp_160 hk hR2 hR12 hl2 (fun _ => ⟨rfl, hr⟩) (fun _ _ _ _ _ _ => by omega) (fun _ _ _ _ _ _ _ => by omega) (fun _ _ _ _ _ _ _ _ _ _ _ _ _ _ _ _ => by omega)
  · have q_s := (hs.1 _ c5_s).1
    unfold tS1 at q_s
    exact sp_160 hk hR2 hR12 hl2 (fun _ => by omega) (fun _ _ _ _ _ _ => ⟨rfl, hr⟩) (fun _ _ _ _ _ w1_s w2_s => by omega) (fun _ _ _ _ _ w1_s w2_s _ _ _ _ _ _ _ _ _ => by omega)
  · have q_s := (hs.1 _ c5_s).1
    unfold tS1 at q_s
    exact sp_160 hk hR2 hR12 hl2 (fun _ => by omega) (fun _ _ _ _ _ w_s => by omega) (fun _ _ _ _ _ _ _ => ⟨rfl, hr⟩) (fun _ _ _ _ _ w1_s w2_s _ _ _ _ _ _ _ _ _ => by omega)
  · have q_s := (hs.1 _ c5_s).1
    unfold tS1 at q_s
    have u_s : ∀ o j_s, (o = 102 ∨ o = 124 ∨ o = 125) → f1_s o j_s = h_s.2.1 o j_s := fun o j_s ho => g6 o j_s (by omega) (by omega)
    have l60 := hl1 _ c5_s c6_s
    have e5_s : (h_s.2.1 125 (zix x1_s)).toInt = (h_s.2.1 (76 + 2 * zix x1_s) 3).toInt := by omega
    refine sp_160 (h_s := (h_s.1, f1_s, h_s.2.2.1, h_s.2.2.2)) hk (by rw [← hR2]; exact congrArg _ (u_s 102 8 (by omega))) hR12 (fun d_s hd_s hq => ?_) (fun _ => by omega) (fun _ _ _ _ _ w_s => ?_) (fun _ _ _ _ _ w1_s w2_s => ?_) (fun _ _ _ _ _ w1_s w2_s k2_s v2 f2_s d1_s d2_s d3_s d4_s d5_s d6_s => ?_)
    · dsimp only at hq ⊢
      rw [u_s 124 _ (by omega)] at hq
      rw [u_s 125 _ (by omega)]
      exact hl2 d_s hd_s hq
    · dsimp only at w_s
      rw [u_s 124 _ (by omega)] at w_s
      omega
    · dsimp only at w1_s w2_s
      rw [u_s 124 _ (by omega)] at w1_s w2_s
      omega
    · dsimp only at d2_s ⊢
      rw [u_s 125 _ (by omega), e5_s] at d2_s
      have ek := lstR_det (lstR_eq (by omega) (fun j_s hj => (hs.1 _ c5_s).2 j_s hj) g2) d2_s
      subst ek
      refine ⟨Int32.toInt_inj.mp (by omega), ?_, ?_, ?_⟩
      · dsimp only
        refine Int32.toInt_inj.mp ?_
        rw [d6_s 7 8 (by omega) (by omega) (by omega)]
        dsimp only
        omega
      · dsimp only
        rw [d6_s 7 8 (by omega) (by omega) (by omega)]
        dsimp only
        omega
      · dsimp only
        rw [d6_s 7 8 (by omega) (by omega) (by omega)]
        dsimp only
        omega
end RO
def tRok (W_s : aW) : Bool := !aWf W_s 7 8 && !aWf W_s 102 8
theorem tR_fr {W_s : aW} (hw : tRok W_s = true) {h_s h1 : zH} (fr_s : aFr (aWf W_s) h_s h1) (hs : tR h_s) : tR h1 := by
  unfold tRok at hw
  rw [Bool.and_eq_true, Bool.not_eq_true', Bool.not_eq_true'] at hw
  refine ⟨?_, ?_, ?_⟩
  · rw [fr_s.1 _ _ hw.1, fr_s.1 _ _ hw.2]
    exact hs.1
  · rw [fr_s.1 _ _ hw.1]
    exact hs.2.1
  · rw [fr_s.1 _ _ hw.1]
    exact hs.2.2
theorem tR_start {E_s : Nat → Int32} {n_s : Nat} {h_s : zH} (hc_s : hcRd h_s = true) : tR (sH E_s n_s [] h_s) := by
  have sv : ∀ o k_s, o ≠ 0 → sov E_s [] h_s.2.1 o k_s = h_s.2.1 o k_s := fun o k_s ho => by rw [sov_nil ho]
  unfold hcRd at hc_s
  rw [Bool.and_eq_true, decide_eq_true_eq, decide_eq_true_eq] at hc_s
  refine ⟨?_, ?_, ?_⟩
  · show sov E_s [] h_s.2.1 7 8 = sov E_s [] h_s.2.1 102 8
    rw [sv _ _ (by omega), sv _ _ (by omega), hc_s.1, hc_s.2]
  · show 0 ≤ (sov E_s [] h_s.2.1 7 8).toInt
    rw [sv _ _ (by omega), hc_s.1]
    decide
  · show (sov E_s [] h_s.2.1 7 8).toInt ≤ 12
    rw [sv _ _ (by omega), hc_s.1]
    decide
