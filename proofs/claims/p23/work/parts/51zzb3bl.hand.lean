/-! A JOURNEY read out of a row; the first element that tells WORN wrongly: class and reference. -/
def okK (nr : Nat) (v_s : Int64) : Prop := 0 ≤ v_s.toInt ∧ v_s.toInt < (nr : Int)
def isJ (nr : Nat) (c_s : Nat → Int64) (n_s : Int) (L_s : Nat) : Prop := L_s ≤ 20 ∧ (L_s : Int) ≤ n_s ∧ (∀ k_s, k_s < L_s → okK nr (c_s k_s)) ∧ (L_s = 20 ∨ (L_s : Int) = n_s ∨ ¬ okK nr (c_s L_s))
theorem isJ_lt {nr L_s L1 : Nat} {c_s : Nat → Int64} {n_s : Int} (h_s : isJ nr c_s n_s L_s) (h1 : isJ nr c_s n_s L1) (hl : L_s < L1) : False := by
  obtain ⟨a1_s, a2, a3, a4⟩ := h_s
  obtain ⟨b1, b2, b3, b4⟩ := h1
  rcases a4 with a_s | a_s | a_s
  · omega
  · omega
  · exact a_s (b3 L_s hl)
theorem isJ_u {nr L_s L1 : Nat} {c_s : Nat → Int64} {n_s : Int} (h_s : isJ nr c_s n_s L_s) (h1 : isJ nr c_s n_s L1) : L_s = L1 := by
  rcases Nat.lt_trichotomy L_s L1 with e_s | e_s | e_s
  · exact (isJ_lt h_s h1 e_s).elim
  · exact e_s
  · exact (isJ_lt h1 h_s e_s).elim
theorem isJ_c {nr L_s : Nat} {c_s c1_s : Nat → Int64} {n_s : Int} (e_s : ∀ k_s, k_s < 60 → c1_s k_s = c_s k_s) (h_s : isJ nr c_s n_s L_s) : isJ nr c1_s n_s L_s := by
  obtain ⟨a1_s, a2, a3, a4⟩ := h_s
  refine ⟨a1_s, a2, fun k_s hk => ?_, ?_⟩
  · rw [e_s k_s (by omega)]
    exact a3 k_s hk
  · rw [e_s L_s (by omega)]
    exact a4
section JO_s
variable {h_s : zH} {K_s : Int32 → zH → Prop} {V : zH → Prop} {nh ni nr q_s : Nat} {lw : Option (List pB)} {x1_s x2_s : Int32} {f0_s : Nat → Nat → Int32}
theorem rd48 {s_s : Nat} (hk : hKn h_s) (hs : s_s < 6) (e2_s : x2_s.toInt = (nr : Int)) (n0_s : 0 ≤ (f0_s (76 + 2 * s_s) 3).toInt) (t_s : ∀ L_s f1_s, isJ nr (h_s.2.2.1 (76 + 2 * s_s + 1)) (f0_s (76 + 2 * s_s) 3).toInt L_s → (f1_s 50 1).toInt = ((L_s : Nat) : Int) → (∀ k_s, k_s < L_s → f1_s 51 k_s = (h_s.2.2.1 (76 + 2 * s_s + 1) k_s).toInt32) → (∀ a_s k_s, ¬ (a_s = 50 ∧ k_s = 1) → ¬ a_s = 51 → f1_s a_s k_s = f0_s a_s k_s) → V (h_s.1, f1_s, h_s.2.2.1, h_s.2.2.2)) : ∀ (F_s n_s : Nat) (x3 : Int32) (l4 l5 : Option Value) (f_s : Nat → Nat → Int32), x3.toInt = (n_s : Int) → n_s ≤ 20 → (n_s : Int) ≤ (f0_s (76 + 2 * s_s) 3).toInt → (∀ k_s, k_s < n_s → okK nr (h_s.2.2.1 (76 + 2 * s_s + 1) k_s)) → (f_s 50 1).toInt = (n_s : Int) → (∀ k_s, k_s < n_s → f_s 51 k_s = (h_s.2.2.1 (76 + 2 * s_s + 1) k_s).toInt32) → (∀ a_s k_s, ¬ (a_s = 50 ∧ k_s = 1) → ¬ a_s = 51 → f_s a_s k_s = f0_s a_s k_s) → wF F_s 48 (7, [some (.ref 50), some (.ref (76 + 2 * s_s)), some (.int x2_s), some (.int x3), l4, l5], [], (h_s.1, f_s, h_s.2.2.1, h_s.2.2.2)) (gV V)
  | 0, _, _, _, _, _, _, _, _, _, _, _, _ => wF_zero
  | F_s + 1, n_s, x3, l4, l5, f_s, e3_s, hn, hl, ho, eL, es, hg => by
    have z_s := azix (i := x3) (by omega)
    have ez : zix x3 = n_s := by omega
    have e7_s : f_s (76 + 2 * s_s) 3 = f0_s (76 + 2 * s_s) 3 := hg _ _ (by omega) (by omega)
    refine sg_48_7 (h_s := (h_s.1, f_s, h_s.2.2.1, h_s.2.2.2)) hs hk ?_
    dsimp only
    rw [e7_s, ez, e3_s, e2_s]
    have fin_s : (n_s = 20 ∨ (n_s : Int) = (f0_s (76 + 2 * s_s) 3).toInt ∨ ¬ okK nr (h_s.2.2.1 (76 + 2 * s_s + 1) n_s)) → V (h_s.1, f_s, h_s.2.2.1, h_s.2.2.2) := fun w_s => t_s n_s f_s ⟨hn, hl, ho, w_s⟩ eL es hg
    refine ⟨fun c1_s => ⟨fun c2_s => fun c3_s => ⟨fun c4_s => fin_s (Or.inr (Or.inr (fun w_s => by have := w_s.1; omega))), fun c4_s => ⟨fun c5_s => fun c6_s => ?_, fun c5_s => fin_s (Or.inr (Or.inr (fun w_s => c5_s w_s.2)))⟩⟩, fun c2_s => fin_s (Or.inr (Or.inl (by omega)))⟩, fun c1_s => fin_s (Or.inl (by omega))⟩
    have e5_s : (x3 + 1).toInt = ((n_s + 1 : Nat) : Int) := by
      rw [in1_ (by omega), e3_s]
      omega
    refine rd48 hk hs e2_s n0_s t_s F_s (n_s + 1) (x3 + 1) _ none _ e5_s (by omega) (by omega) (fun k_s hk1 => ?_) ?_ (fun k_s hk1 => ?_) (fun a_s k_s q1_s q2_s => ?_)
    · by_cases e_s : k_s = n_s
      · rw [e_s]
        exact ⟨by omega, c5_s⟩
      · exact ho k_s (by omega)
    · rw [zsame_up]
      exact e5_s
    · rw [zne_up (by omega)]
      by_cases e_s : k_s = n_s
      · rw [e_s, zsame_up]
      · rw [zne_up (by omega)]
        exact es k_s (by omega)
    · rw [zne_up (by omega), zne_up (by omega)]
      exact hg a_s k_s q1_s q2_s
theorem sp_48 {F_s s_s : Nat} (hk : hKn h_s) (hs : s_s < 6) (e2_s : x2_s.toInt = (nr : Int)) (n0_s : 0 ≤ (f0_s (76 + 2 * s_s) 3).toInt) (t_s : ∀ L_s f1_s, isJ nr (h_s.2.2.1 (76 + 2 * s_s + 1)) (f0_s (76 + 2 * s_s) 3).toInt L_s → (f1_s 50 1).toInt = ((L_s : Nat) : Int) → (∀ k_s, k_s < L_s → f1_s 51 k_s = (h_s.2.2.1 (76 + 2 * s_s + 1) k_s).toInt32) → (∀ a_s k_s, ¬ (a_s = 50 ∧ k_s = 1) → ¬ a_s = 51 → f1_s a_s k_s = f0_s a_s k_s) → V (h_s.1, f1_s, h_s.2.2.1, h_s.2.2.2)) : wF F_s 48 (0, [some (.ref 50), some (.ref (76 + 2 * s_s)), some (.int x2_s), none, none, none], [], (h_s.1, f0_s, h_s.2.2.1, h_s.2.2.2)) (gV V) := by
  refine wF_le (Nat.le_succ F_s) (sg_48_0 (h_s := (h_s.1, f0_s, h_s.2.2.1, h_s.2.2.2)) hs hk ?_)
  exact rd48 (f0_s := f0_s) hk hs e2_s n0_s t_s F_s 0 0 none none _ rfl (by omega) n0_s (fun k_s hk1 => absurd hk1 (Nat.not_lt_zero k_s)) (by show (zup f0_s 50 1 0 50 1).toInt = 0; rw [zsame_up]; rfl) (fun k_s hk1 => absurd hk1 (Nat.not_lt_zero k_s)) (fun a_s k_s q1_s q2_s => zne_up q1_s)
theorem rj187 (hk : hKn h_s) (c8_s : (h_s.2.1 102 8).toInt = (nr : Int)) (d0_s : 0 ≤ x1_s.toInt) (d5_s : x1_s.toInt ≤ 5) (t_s : ∀ (v_s : Int32) (L_s : Nat), v_s.toInt = (L_s : Int) → isJ nr (fun k_s => h_s.2.2.1 126 (60 * zix x1_s + k_s)) (h_s.2.1 125 (zix x1_s)).toInt L_s → K_s v_s h_s) : ∀ (F_s n_s : Nat) (x2_s : Int32), x2_s.toInt = (n_s : Int) → n_s ≤ 20 → (n_s : Int) ≤ (h_s.2.1 125 (zix x1_s)).toInt → (∀ k_s, k_s < n_s → okK nr (h_s.2.2.1 126 (60 * zix x1_s + k_s))) → wF F_s 187 (2, [some (.ref 102), some (.int x1_s), some (.int x2_s)], [], h_s) (gI K_s)
  | 0, _, _, _, _, _, _ => wF_zero
  | F_s + 1, n_s, x2_s, e2_s, hn, hl, ho => by
    have e8 := sb1 c8_s
    have zz := zx60 d0_s d5_s (show 0 ≤ x2_s.toInt by omega) (by omega)
    have z_s := azix (i := x2_s) (by omega)
    have ez : zix x2_s = n_s := by omega
    rw [ez] at zz
    refine sg_187_2 (h_s := h_s) hk ?_
    rw [e8, zz, e2_s]
    have fin_s : (n_s = 20 ∨ (n_s : Int) = (h_s.2.1 125 (zix x1_s)).toInt ∨ ¬ okK nr (h_s.2.2.1 126 (60 * zix x1_s + n_s))) → K_s x2_s h_s := fun w_s => t_s x2_s n_s e2_s ⟨hn, hl, ho, w_s⟩
    refine ⟨fun c1_s => fun c2_s => ⟨fun c3_s => fun c4_s => ⟨fun c5_s => fin_s (Or.inr (Or.inr (fun w_s => by have := w_s.1; omega))), fun c5_s => ⟨fun c6_s => fin_s (Or.inr (Or.inr (fun w_s => by have := w_s.2; omega))), fun c6_s => ?_⟩⟩, fun c3_s => fin_s (Or.inr (Or.inl (by omega)))⟩, fun c1_s => fin_s (Or.inl (by omega))⟩
    refine rj187 hk c8_s d0_s d5_s t_s F_s (n_s + 1) (x2_s + 1) (by rw [in1_ (by omega)]; omega) (by omega) (by omega) (fun k_s hk1 => ?_)
    by_cases e_s : k_s = n_s
    · rw [e_s]
      exact ⟨by omega, by omega⟩
    · exact ho k_s (by omega)
theorem sp_187 {F_s : Nat} (hk : hKn h_s) (c8_s : (h_s.2.1 102 8).toInt = (nr : Int)) (d0_s : 0 ≤ x1_s.toInt) (d5_s : x1_s.toInt ≤ 5) (n0_s : 0 ≤ (h_s.2.1 125 (zix x1_s)).toInt) (t_s : ∀ (v_s : Int32) (L_s : Nat), v_s.toInt = (L_s : Int) → isJ nr (fun k_s => h_s.2.2.1 126 (60 * zix x1_s + k_s)) (h_s.2.1 125 (zix x1_s)).toInt L_s → K_s v_s h_s) : wF F_s 187 (0, [some (.ref 102), some (.int x1_s), none], [], h_s) (gI K_s) := wF_le (Nat.le_succ F_s) (sg_187_0 (h_s := h_s) hk (rj187 hk c8_s d0_s d5_s t_s F_s 0 0 rfl (by omega) n0_s (fun k_s hk1 => absurd hk1 (Nat.not_lt_zero k_s))))
/-- going leaves the head's form alone -/
theorem gm_6 {st_s kd : Int32} : ∀ (n_s : Nat) (o : oI), (gmO lw st_s kd n_s o).2 6 = o 6
  | 0, _ => rfl
  | n_s + 1, o => by
    unfold gmO
    by_cases c_s : 99 ≤ (o 2).toInt
    · rw [if_pos c_s]
    · rw [if_neg c_s]
      exact (gm_6 n_s _).trans (os_ne (show ¬ 6 = 2 by decide))
theorem go_6 {m_s : Nat} {st_s kd : Int32} {o : oI} : (goO lw m_s st_s kd o).2.2 6 = o 6 := by
  unfold goO
  by_cases c_s : (o 2).toInt < 99 ∧ ¬ (9 - o 2 / 11).toInt < st_s.toInt
  · rw [if_pos c_s]
    by_cases e_s : (gmO lw st_s kd m_s o).1 = m_s
    · rw [if_pos e_s]
      show coolO (gmO lw st_s kd m_s o).2 6 = o 6
      unfold coolO
      rw [os_ne (show ¬ 6 = 3 by decide)]
      exact gm_6 m_s o
    · rw [if_neg e_s]
      exact gm_6 m_s o
  · rw [if_neg c_s]
theorem goF_fr {f_s f1_s : Nat → Nat → Int32} {o : oI} {r_s : Nat} (e_s : ∀ k_s, f1_s 103 k_s = f_s 103 k_s) : goF lw f1_s o r_s = goF lw f_s o r_s := by
  unfold goF
  rw [e_s, e_s, e_s]
theorem sp_50 {F_s k_s r_s : Nat} {f_s : Nat → Nat → Int32} {o : oI} (hk : hKn h_s) (hr9 : h_s.2.2.2 7 9 = some q_s) (hm_s : q_s = 14 ∨ q_s = 17) (hl : lawC q_s f_s lw) (hp : lwP lw) (hc_s : tC nh ni nr f_s) (e1_s : x1_s.toInt = (k_s : Int)) (e51 : (f_s 51 k_s).toInt = (r_s : Int)) (hr : r_s < nr) (hcw : cwO f_s 88 o) (hB_s : oB o) (t_s : ∀ v_s f1_s, v_s.toInt = (if (goF lw f_s o r_s).2.1 = true then 1 else 0) → (∃ g_s : Int32, g_s.toInt = ((goF lw f_s o r_s).1 : Int) ∧ f1_s 50 2 = f_s 50 2 + g_s) → f1_s 50 3 = f_s 50 3 + bI_ (goF lw f_s o r_s).2.1 → cwO f1_s 88 (goF lw f_s o r_s).2.2 → (∀ a_s k_s, ¬ a_s = 13 → ¬ a_s = 16 → ¬ a_s = 19 → ¬ (a_s = 88 ∧ (k_s = 2 ∨ k_s = 3)) → ¬ (a_s = 50 ∧ (k_s = 2 ∨ k_s = 3)) → f1_s a_s k_s = f_s a_s k_s) → K_s v_s (h_s.1, f1_s, h_s.2.2.1, h_s.2.2.2)) : wF F_s 50 (0, [some (.ref 50), some (.int x1_s), some (.ref 88), some (.ref 7), none, none], [], (h_s.1, f_s, h_s.2.2.1, h_s.2.2.2)) (gI K_s) := by
  have b_s := hc_s.1
  have z_s := azix (i := x1_s) (by omega)
  have ez : zix x1_s = k_s := by omega
  have z2 := azix (i := f_s 51 k_s) (by omega)
  have ez2 : zix (f_s 51 k_s) = r_s := by omega
  obtain ⟨r2, r3, r4⟩ := tC_rd hc_s hr
  obtain ⟨m1_s, m2_s, m3_s⟩ := tM_ml (tC_M hc_s) hr
  refine wF_le (Nat.le_succ F_s) (sg_50_0 (h_s := (h_s.1, f_s, h_s.2.2.1, h_s.2.2.2)) hk ?_)
  dsimp only
  rw [ez, ez2]
  refine fun c1_s => fun c2_s => ?_
  refine sp_24 (m_s := zix (f_s 103 (68 + r_s))) hk hr9 hm_s hl hp (show dRo 88 (28 + r_s) by unfold dRo; omega) (by rw [r2]; exact m1_s) m2_s hcw hB_s (fun v_s f1_s g1 g2 g3_s _ => ?_)
  rw [r3, r4] at g1 g2
  have g1 : v_s.toInt = ((goF lw f_s o r_s).1 : Int) := g1
  have g2 : ∀ k_s, k_s < 6 → f1_s 88 k_s = (goF lw f_s o r_s).2.2 k_s := g2
  have eml : f1_s (28 + r_s) 2 = f_s 103 (68 + r_s) := by rw [g3_s _ _ (by omega) (by omega) (by omega) (by omega)]; exact r2
  have l2 : f1_s 50 2 = f_s 50 2 := g3_s _ _ (by omega) (by omega) (by omega) (by omega)
  have l3 : f1_s 50 3 = f_s 50 3 := g3_s _ _ (by omega) (by omega) (by omega) (by omega)
  have gall : (goF lw f_s o r_s).2.1 = true ↔ (goF lw f_s o r_s).1 = zix (f_s 103 (68 + r_s)) := go_all m3_s
  have gle : (goF lw f_s o r_s).1 ≤ zix (f_s 103 (68 + r_s)) := go_le
  have h6 : (goF lw f_s o r_s).2.2 6 = o 6 := go_6
  dsimp only
  rw [zne_up (show ¬ (28 + r_s = 50 ∧ 2 = 2) by omega), eml, m1_s, g1, l2, l3]
  have cw_s : ∀ f2_s : Nat → Nat → Int32, (∀ a_s k_s, ¬ (a_s = 50 ∧ (k_s = 2 ∨ k_s = 3)) → f2_s a_s k_s = f1_s a_s k_s) → cwO f2_s 88 (goF lw f_s o r_s).2.2 := fun f2_s q1_s => by
    have e6_s : f2_s 88 6 = f_s 88 6 := by rw [q1_s _ _ (by omega)]; exact g3_s _ _ (by omega) (by omega) (by omega) (by omega)
    have e76 : f2_s 7 6 = f_s 7 6 := by rw [q1_s _ _ (by omega)]; exact g3_s _ _ (by omega) (by omega) (by omega) (by omega)
    have e8 : ∀ k_s, f2_s 8 k_s = f_s 8 k_s := fun k_s => by rw [q1_s _ _ (by omega)]; exact g3_s _ _ (by omega) (by omega) (by omega) (by omega)
    refine ⟨fun k_s hk6 => by rw [q1_s _ _ (by omega)]; exact g2 k_s hk6, ?_⟩
    rw [e6_s, e76, e8, h6]
    exact hcw.2
  have ge : ∀ f2_s : Nat → Nat → Int32, (∀ a_s k_s, ¬ (a_s = 50 ∧ (k_s = 2 ∨ k_s = 3)) → f2_s a_s k_s = f1_s a_s k_s) → ∀ a_s k_s, ¬ a_s = 13 → ¬ a_s = 16 → ¬ a_s = 19 → ¬ (a_s = 88 ∧ (k_s = 2 ∨ k_s = 3)) → ¬ (a_s = 50 ∧ (k_s = 2 ∨ k_s = 3)) → f2_s a_s k_s = f_s a_s k_s := fun f2_s q1_s a_s k_s p1_s p2_s p3_s p4_s p5_s => by
    rw [q1_s a_s k_s p5_s]
    exact g3_s a_s k_s p1_s p2_s p3_s p4_s
  refine ⟨fun c3_s => ?_, fun c3_s => ?_⟩
  · have no_s : ¬ (goF lw f_s o r_s).2.1 = true := fun w_s => by have := gall.mp w_s; omega
    have q1_s : ∀ a_s k_s, ¬ (a_s = 50 ∧ (k_s = 2 ∨ k_s = 3)) → zup f1_s 50 2 (f_s 50 2 + v_s) a_s k_s = f1_s a_s k_s := fun a_s k_s w_s => zne_up (by omega)
    refine t_s 0 _ (by rw [if_neg no_s]; rfl) ⟨v_s, g1, zsame_up⟩ ?_ (cw_s _ q1_s) (ge _ q1_s)
    rw [zne_up (by omega), l3]
    unfold bI_
    rw [if_neg no_s]
    exact (iadd0 _).symm
  · have yes_s : (goF lw f_s o r_s).2.1 = true := gall.mpr (by omega)
    have q1_s : ∀ a_s k_s, ¬ (a_s = 50 ∧ (k_s = 2 ∨ k_s = 3)) → zup (zup f1_s 50 2 (f_s 50 2 + v_s)) 50 3 (f_s 50 3 + 1) a_s k_s = f1_s a_s k_s := fun a_s k_s w_s => by rw [zne_up (by omega), zne_up (by omega)]
    refine t_s 1 _ (by rw [if_pos yes_s]; rfl) ⟨v_s, g1, by rw [zne_up (by omega), zsame_up]⟩ ?_ (cw_s _ q1_s) (ge _ q1_s)
    rw [zsame_up]
    unfold bI_
    rw [if_pos yes_s]
end JO_s
