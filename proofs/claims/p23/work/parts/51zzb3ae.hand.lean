/-! THE CLASS WORKS A LAW OUT: a piece of code leaves its worth. -/
def EX (z_s : pA) (b_s : Nat) : Prop := ∀ (F_s : Nat) (h_s : zH) (K_s : Int32 → zH → Prop) (q_s w_s p_s s_s L_s : Nat) (x2_s x3 x4_s : Int32) (l5 l6 l7 : Option Value) (f_s : Nat → Nat → Int32), (q_s = 14 ∨ q_s = 17) → hKn h_s → x2_s.toInt = (w_s : Int) → x3.toInt = (p_s : Int) → x4_s.toInt = (s_s : Int) → s_s ≤ p_s → (f_s q_s 2).toInt = (L_s : Int) → L_s ≤ 241 → p_s + z_s.1.length < L_s → w_s + b_s ≤ 64 → (∀ j_s c_s, zget z_s.1 j_s = some c_s → f_s (q_s + 1) (p_s + j_s) = c_s) → (∀ (y2 y3 y4 : Int32) (s1_s : Nat) (m5_s m6_s m7_s : Option Value) (f1_s : Nat → Nat → Int32), y2.toInt = ((w_s + 1 : Nat) : Int) → y3.toInt = ((p_s + z_s.1.length : Nat) : Int) → y4.toInt = (s1_s : Int) → s1_s ≤ p_s + z_s.1.length → (∀ o k_s, ¬ (o = q_s + 2 ∧ w_s ≤ k_s) → f1_s o k_s = f_s o k_s) → f1_s (q_s + 2) w_s = z_s.2.1 (fun k_s => f_s 13 k_s) → wF F_s 58 (32, [some (.ref q_s), some (.ref 13), some (.int y2), some (.int y3), some (.int y4), m5_s, m6_s, m7_s], [], (h_s.1, f1_s, h_s.2.2.1, h_s.2.2.2)) (gI K_s)) → wF F_s 58 (32, [some (.ref q_s), some (.ref 13), some (.int x2_s), some (.int x3), some (.int x4_s), l5, l6, l7], [], (h_s.1, f_s, h_s.2.2.1, h_s.2.2.2)) (gI K_s)
theorem EX_le {z_s : pA} {b_s b1 : Nat} (h_s : EX z_s b_s) (hb_s : b_s ≤ b1) : EX z_s b1 := by
  intro F_s h1 K_s q_s w_s p_s s_s L_s x2_s x3 x4_s l5 l6 l7 f_s a1_s a2 a3 a4 a5 a6 a7 a8 a9 a10 a11 t_s
  exact h_s F_s h1 K_s q_s w_s p_s s_s L_s x2_s x3 x4_s l5 l6 l7 f_s a1_s a2 a3 a4 a5 a6 a7 a8 a9 (by omega) a11 t_s
section EW_s
variable {F_s : Nat} {h_s : zH} {K_s : Int32 → zH → Prop} {q_s w_s p_s s_s L_s : Nat} {x2_s x3 x4_s : Int32} {l5 l6 l7 : Option Value} {f_s : Nat → Nat → Int32}
theorem at58 (hm_s : q_s = 14 ∨ q_s = 17) (hk : hKn h_s) (h3 : x3.toInt = (p_s : Int)) (h4 : x4_s.toInt = (s_s : Int)) (hs : s_s ≤ p_s) (hL : (f_s q_s 2).toInt = (L_s : Int)) (hb_s : L_s ≤ 241) (hp : p_s + 1 < L_s) (t_s : wF F_s 58 (83, [some (.ref q_s), some (.ref 13), some (.int x2_s), some (.int (x3 + 1)), some (.int x4_s), some (.int (f_s (q_s + 1) p_s)), some (.int (f_s (q_s + 1) (p_s + 1))), l7], [], (h_s.1, f_s, h_s.2.2.1, h_s.2.2.2)) (gI K_s)) : wF F_s 58 (32, [some (.ref q_s), some (.ref 13), some (.int x2_s), some (.int x3), some (.int x4_s), l5, l6, l7], [], (h_s.1, f_s, h_s.2.2.1, h_s.2.2.2)) (gI K_s) := by
  have z_s := azix (i := x3) (by omega)
  have e1_s := in1_ (x_s := x3) (by omega)
  have z1 := azix (i := x3 + 1) (by omega)
  have y0 : zix x3 = p_s := by omega
  have y1 : zix (x3 + 1) = p_s + 1 := by omega
  refine wF_le (Nat.le_succ F_s) (sg_58_32 (h_s := (h_s.1, f_s, h_s.2.2.1, h_s.2.2.2)) hm_s hk ⟨fun c1_s => ⟨fun c2_s => fun c3_s => ⟨fun c4_s => fun c5_s => ?_, fun (c4_s : ¬ (x3 + 1).toInt < (f_s q_s 2).toInt) => absurd c4_s (by omega)⟩, fun (c2_s : ¬ x3.toInt < (f_s q_s 2).toInt) => absurd c2_s (by omega)⟩, fun c1_s => absurd c1_s (by omega)⟩)
  dsimp only
  rw [y0, y1]
  exact t_s
/-- the last cell: nothing stands behind it -/
theorem at58e (hm_s : q_s = 14 ∨ q_s = 17) (hk : hKn h_s) (h3 : x3.toInt = (p_s : Int)) (h4 : x4_s.toInt = (s_s : Int)) (hs : s_s ≤ p_s) (hL : (f_s q_s 2).toInt = (L_s : Int)) (hb_s : L_s ≤ 241) (hp : p_s < L_s) (t_s : ∀ x6 : Int32, (p_s + 1 < L_s → x6 = f_s (q_s + 1) (p_s + 1)) → wF F_s 58 (83, [some (.ref q_s), some (.ref 13), some (.int x2_s), some (.int (x3 + 1)), some (.int x4_s), some (.int (f_s (q_s + 1) p_s)), some (.int x6), l7], [], (h_s.1, f_s, h_s.2.2.1, h_s.2.2.2)) (gI K_s)) : wF F_s 58 (32, [some (.ref q_s), some (.ref 13), some (.int x2_s), some (.int x3), some (.int x4_s), l5, l6, l7], [], (h_s.1, f_s, h_s.2.2.1, h_s.2.2.2)) (gI K_s) := by
  have z_s := azix (i := x3) (by omega)
  have e1_s := in1_ (x_s := x3) (by omega)
  have z1 := azix (i := x3 + 1) (by omega)
  have y0 : zix x3 = p_s := by omega
  have y1 : zix (x3 + 1) = p_s + 1 := by omega
  refine wF_le (Nat.le_succ F_s) (sg_58_32 (h_s := (h_s.1, f_s, h_s.2.2.1, h_s.2.2.2)) hm_s hk ⟨fun c1_s => ⟨fun c2_s => fun c3_s => ⟨fun c4_s => fun c5_s => ?_, fun (c4_s : ¬ (x3 + 1).toInt < (f_s q_s 2).toInt) => ?_⟩, fun (c2_s : ¬ x3.toInt < (f_s q_s 2).toInt) => absurd c2_s (by omega)⟩, fun c1_s => absurd c1_s (by omega)⟩)
  · dsimp only
    rw [y0, y1]
    exact t_s _ (fun _ => rfl)
  · dsimp only
    rw [y0]
    exact t_s _ (fun w_s => absurd c4_s (by omega))
end EW_s
theorem EX_num {v_s : Int32} : EX ([48, v_s], fun _ => v_s, false) 1 := by
  intro F_s h_s K_s q_s w_s p_s s_s L_s x2_s x3 x4_s l5 l6 l7 f_s hm_s hk h2 h3 h4 hs hL hb_s hp hw hc_s t_s
  have hp : p_s + 2 < L_s := hp
  have c0_s : f_s (q_s + 1) p_s = 48 := hc_s 0 48 rfl
  have c1_s : f_s (q_s + 1) (p_s + 1) = v_s := hc_s 1 v_s rfl
  have z_s := azix (i := x2_s) (by omega)
  have y_s : zix x2_s = w_s := by omega
  refine at58 hm_s hk h3 h4 hs hL hb_s (by omega) ?_
  rw [c0_s, c1_s]
  have go_s : wF F_s 58 (32, [some (.ref q_s), some (.ref 13), some (.int (x2_s + 1)), some (.int (x3 + 1 + 1)), some (.int (x4_s + 1)), some (.int 48), some (.int v_s), l7], [], (h_s.1, zup f_s (q_s + 2) (zix x2_s) v_s, h_s.2.2.1, h_s.2.2.2)) (gI K_s) := by
    rw [y_s]
    refine t_s _ _ _ (s_s + 1) _ _ _ _ (by rw [in1_ (by omega)]; omega) ?_ (by rw [in1_ (by omega)]; omega) ?_ (fun o k_s hq => zne_up (by omega)) zsame_up
    · show _ = ((p_s + 2 : Nat) : Int)
      rw [in1_ (by rw [in1_ (by omega)]; omega), in1_ (by omega)]
      omega
    · show s_s + 1 ≤ p_s + 2
      omega
  refine wF_le (Nat.le_succ F_s) (sg_58_83 (h_s := (h_s.1, f_s, h_s.2.2.1, h_s.2.2.2)) hm_s hk ⟨fun _ => ⟨fun _ => ⟨fun d_s => absurd d_s (by decide), fun _ => fun _ => go_s⟩, fun d_s => absurd d_s (by omega)⟩, fun d_s => absurd rfl d_s⟩)
theorem EX_nam {k_s : Nat} {c_s : Int32} {u_s : Bool} (hk6 : k_s < 6) (hc6 : c_s.toInt = (k_s : Int)) : EX ([109, c_s], fun n_s => n_s k_s, u_s) 1 := by
  intro F_s h_s K_s q_s w_s p_s s_s L_s x2_s x3 x4_s l5 l6 l7 f_s hm_s hk h2 h3 h4 hs hL hb_s hp hw hc_s t_s
  have hp : p_s + 2 < L_s := hp
  have c0_s : f_s (q_s + 1) p_s = 109 := hc_s 0 109 rfl
  have c1_s : f_s (q_s + 1) (p_s + 1) = c_s := hc_s 1 c_s rfl
  have z_s := azix (i := x2_s) (by omega)
  have y_s : zix x2_s = w_s := by omega
  have z6 := azix (i := c_s) (by omega)
  have y6 : zix c_s = k_s := by omega
  refine at58 hm_s hk h3 h4 hs hL hb_s (by omega) ?_
  rw [c0_s, c1_s]
  refine wF_le (Nat.le_succ F_s) (sg_58_83 (h_s := (h_s.1, f_s, h_s.2.2.1, h_s.2.2.2)) hm_s hk ⟨fun d_s => absurd d_s (by decide), fun _ => ⟨fun _ => ⟨fun _ => ⟨fun d_s => absurd d_s (by omega), fun _ => ⟨fun _ => fun _ => fun _ => ?_, fun d_s => absurd d_s (by omega)⟩⟩, fun d_s => absurd d_s (by omega)⟩, fun d_s => absurd rfl d_s⟩⟩)
  dsimp only
  rw [y_s, y6]
  refine t_s _ _ _ (s_s + 1) _ _ _ _ (by rw [in1_ (by omega)]; omega) ?_ (by rw [in1_ (by omega)]; omega) ?_ (fun o k1_s hq => zne_up (by omega)) zsame_up
  · show _ = ((p_s + 2 : Nat) : Int)
    rw [in1_ (by rw [in1_ (by omega)]; omega), in1_ (by omega)]
    omega
  · show s_s + 1 ≤ p_s + 2
    omega
theorem sp_60 {F_s : Nat} {h_s : zH} {K_s : Int32 → zH → Prop} {x1_s x2_s x3 : Int32} (hk : hKn h_s) (t_s : K_s (jnv x1_s x2_s.toInt x3) h_s) : wF F_s 60 (0, [some (.int x1_s), some (.int x2_s), some (.int x3)], [], h_s) (gI K_s) := by
  have key_s : ∀ v_s, jnv x1_s x2_s.toInt x3 = v_s → K_s v_s h_s := fun v_s e_s => by
    rw [← e_s]
    exact t_s
  refine wF_le (Nat.le_succ F_s) (sg_60_0 hk ⟨fun c1_s => ⟨fun c2_s => ?_, fun c2_s => ?_⟩, fun c1_s => ⟨fun c3_s => ⟨fun c4_s => ?_, fun c4_s => ⟨fun c5_s => ?_, fun c5_s => ?_⟩⟩, fun c3_s => ⟨fun c6_s => ?_, fun c6_s => ⟨fun c7_s => ?_, fun c7_s => ⟨fun c8_s => ?_, fun c8_s => ⟨fun c9_s => ⟨fun c10_s => ?_, fun c10_s => ?_⟩, fun c9_s => ⟨fun c11_s => ⟨fun c12_s => ?_, fun c12_s => ?_⟩, fun c11_s => ⟨fun c13_s => ⟨fun c14_s => ?_, fun c14_s => ?_⟩, fun c13_s => ⟨fun c15_s => ⟨fun c16 => ?_, fun c16 => ?_⟩, fun c15_s => ⟨fun c17 => ⟨fun c18_s => ⟨fun c19_s => ?_, fun c19_s => ?_⟩, fun c18_s => ?_⟩, fun c17 => ?_⟩⟩⟩⟩⟩⟩⟩⟩⟩⟩)
  all_goals
    refine key_s _ ?_
    unfold jnv
    simp only [ie_, i0n]
    repeat' split
    all_goals first | rfl | (exfalso; omega)
