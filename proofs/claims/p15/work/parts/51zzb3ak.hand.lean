/-! BY HOW MUCH an idea is worn: class and reference. -/
def clp (v_s : Int32) : Int32 := if v_s.toInt < 0 then 0 else if 9 < v_s.toInt then 9 else v_s
theorem i9_ : (9 : Int32).toInt = 9 := rfl
theorem i99_ : (99 : Int32).toInt = 99 := rfl
theorem clp_c (v_s : Int32) : (if 0 < (if v_s < 9 then v_s else 9) then (if v_s < 9 then v_s else 9) else 0) = clp v_s := by
  unfold clp
  by_cases c_s : v_s < 9
  · rw [if_pos c_s]
    have c1_s := (il_ v_s 9).mp c_s
    rw [i9_] at c1_s
    by_cases c2_s : (0 : Int32) < v_s
    · have c3_s := (iq4 v_s).mp c2_s
      rw [if_pos c2_s, if_neg (by omega), if_neg (by omega)]
    · have c3_s : ¬ 0 < v_s.toInt := fun w_s => c2_s ((iq4 v_s).mpr w_s)
      rw [if_neg c2_s]
      by_cases c4_s : v_s.toInt < 0
      · rw [if_pos c4_s]
      · rw [if_neg c4_s, if_neg (by omega)]
        exact (i0_ (x_s := v_s) (by omega)).symm
  · rw [if_neg c_s, if_pos (by decide)]
    have c1_s : ¬ v_s.toInt < 9 := fun w_s => c_s ((il_ v_s 9).mpr (by rw [i9_]; exact w_s))
    rw [if_neg (by omega)]
    by_cases c2_s : 9 < v_s.toInt
    · rw [if_pos c2_s]
    · rw [if_neg c2_s]
      exact Int32.toInt_inj.mp (by rw [i9_]; omega)
theorem clp_k {K_s : Int32 → Prop} {v_s : Int32} (t_s : K_s (clp v_s)) : (v_s.toInt < 0 → K_s 0) ∧ (¬ v_s.toInt < 0 → ((9 < v_s.toInt → K_s 9) ∧ (¬ 9 < v_s.toInt → K_s v_s))) := by
  unfold clp at t_s
  refine ⟨fun c_s => ?_, fun c_s => ⟨fun c1_s => ?_, fun c1_s => ?_⟩⟩
  · rw [if_pos c_s] at t_s
    exact t_s
  · rw [if_neg c_s, if_pos c1_s] at t_s
    exact t_s
  · rw [if_neg c_s, if_neg c1_s] at t_s
    exact t_s
theorem clp_b (v_s : Int32) : 0 ≤ (clp v_s).toInt ∧ (clp v_s).toInt ≤ 9 := by
  unfold clp
  by_cases c_s : v_s.toInt < 0
  · rw [if_pos c_s]
    decide
  · rw [if_neg c_s]
    by_cases c1_s : 9 < v_s.toInt
    · rw [if_pos c1_s]
      decide
    · rw [if_neg c1_s]
      omega
def nm6 (a0_s a1_s a2 a3 a4 a5 : Int32) (k_s : Nat) : Int32 := if k_s = 0 then a0_s else if k_s = 1 then a1_s else if k_s = 2 then a2 else if k_s = 3 then a3 else if k_s = 4 then a4 else a5
def absI (x_s : Int32) : Int32 := if x_s < 0 then -x_s else x_s
/-- an idea in thought: METAL, SHAPE, WORN, HEAT, CAST, HEATED, FORM of its HEAD (-1: none) -/
abbrev oI : Type := Nat → Int32
def farO (o : oI) : Int32 := if (o 6).toInt < 0 then 9 else absI (o 1 - o 6)
def weV (lw : Option (List pB)) (o : oI) (st_s kd : Int32) : Int32 := clp (lawV lw (nm6 (o 0) (o 2) (o 3) (farO o) st_s kd))
theorem nm6_eq {b_s : Prop} {n_s : Nat → Int32} {a0_s a1_s a2 a3 a4 a5 : Int32} (h0 : n_s 0 = a0_s) (h1 : b_s → n_s 1 = a1_s) (h2 : n_s 2 = a2) (h3 : n_s 3 = a3) (h4 : n_s 4 = a4) (h5 : n_s 5 = a5) : eqN b_s n_s (nm6 a0_s a1_s a2 a3 a4 a5) := by
  intro k_s hk hb_s
  have hk2 : k_s = 0 ∨ k_s = 1 ∨ k_s = 2 ∨ k_s = 3 ∨ k_s = 4 ∨ k_s = 5 := by omega
  rcases hk2 with e_s | e_s | e_s | e_s | e_s | e_s
  · subst e_s
    exact h0
  · subst e_s
    exact h1 (hb_s rfl)
  · subst e_s
    exact h2
  · subst e_s
    exact h3
  · subst e_s
    exact h4
  · subst e_s
    exact h5
/-- an object of the class is such an idea -/
def cwO (f_s : Nat → Nat → Int32) (d_s : Nat) (o : oI) : Prop := (∀ k_s, k_s < 6 → f_s d_s k_s = o k_s) ∧ (((f_s d_s 6).toInt < 0 ∧ o 6 = -1) ∨ (0 ≤ (f_s d_s 6).toInt ∧ (f_s d_s 6).toInt < (f_s 7 6).toInt ∧ 0 ≤ (o 6).toInt ∧ o 6 = f_s 8 (zix (f_s d_s 6))))
/-- what working a law out may write -/
def frW (f_s f1_s : Nat → Nat → Int32) : Prop := ∀ o k_s, ¬ o = 13 → ¬ o = 16 → ¬ o = 19 → f1_s o k_s = f_s o k_s
section WR
variable {F_s : Nat} {h_s : zH} {K_s : Int32 → zH → Prop} {V : zH → Prop} {lw : Option (List pB)} {q_s d_s ro : Nat} {o : oI} {f_s : Nat → Nat → Int32} {st_s kd x1_s x2_s : Int32}
theorem wear69 {n0_s n1_s n2_s n3_s : Int32} (hk : hKn h_s) (hr : h_s.2.2.2 7 9 = some q_s) (hl : lawC q_s f_s lw) (hp : lwP lw) (h1 : ¬ ro = 13) (e0_s : f_s 13 0 = n0_s) (e1_s : f_s 13 1 = n1_s) (e2_s : f_s 13 2 = n2_s) (e3_s : f_s 13 3 = n3_s) (t_s : ∀ f1_s, frW f_s f1_s → K_s (clp (lawV lw (nm6 n0_s n1_s n2_s n3_s (f_s ro 3) (f_s ro 4)))) (h_s.1, f1_s, h_s.2.2.1, h_s.2.2.2)) : wF F_s 23 (69, [some (.ref 7), some (.ref d_s), some (.ref ro)], [], (h_s.1, f_s, h_s.2.2.1, h_s.2.2.2)) (gI K_s) := by
  refine wF_le (Nat.le_succ F_s) (sg_23_69 (h_s := (h_s.1, f_s, h_s.2.2.1, h_s.2.2.2)) hk (fun q3_s r3 m3_s => ?_))
  have r3 : h_s.2.2.2 7 9 = some q3_s := r3
  rw [hr] at r3
  cases r3
  dsimp only
  have e5_s : zup f_s 13 4 (f_s ro 3) ro 4 = f_s ro 4 := zne_up (by omega)
  rw [e5_s]
  have hl2 : lawC q_s (zup (zup f_s 13 4 (f_s ro 3)) 13 5 (f_s ro 4)) lw := by
    have g_s : ∀ o k_s, ¬ o = 13 → zup (zup f_s 13 4 (f_s ro 3)) 13 5 (f_s ro 4) o k_s = f_s o k_s := fun o k_s ho => by rw [zne_up (by omega), zne_up (by omega)]
    match lw, hl with
    | none, hl => exact ⟨by rw [g_s q_s 2 (by omega)]; exact hl.1, by rw [g_s q_s 0 (by omega)]; exact hl.2⟩
    | some ls, hl =>
      obtain ⟨a1_s, a2, a3, a4, a5, a6⟩ := hl
      exact ⟨by rw [g_s q_s 2 (by omega)]; exact a1_s, a2, fun j_s c_s hj => by rw [g_s (q_s + 1) j_s (by omega)]; exact a3 j_s c_s hj, by rw [g_s q_s 0 (by omega)]; exact a4, a5, a6⟩
  refine sp_58 (h_s := (h_s.1, zup (zup f_s 13 4 (f_s ro 3)) 13 5 (f_s ro 4), h_s.2.2.1, h_s.2.2.2)) m3_s hk hl2 (fun f1_s hf1 _ => ?_)
  rw [clp_c]
  have ev_s : lawV lw (fun k_s => zup (zup f_s 13 4 (f_s ro 3)) 13 5 (f_s ro 4) 13 k_s) = lawV lw (nm6 n0_s n1_s n2_s n3_s (f_s ro 3) (f_s ro 4)) := by
    refine hp True _ _ (nm6_eq ?_ (fun _ => ?_) ?_ ?_ ?_ ?_) (Or.inl trivial)
    · show zup (zup f_s 13 4 (f_s ro 3)) 13 5 (f_s ro 4) 13 0 = n0_s
      rw [zne_up (by omega), zne_up (by omega)]
      exact e0_s
    · show zup (zup f_s 13 4 (f_s ro 3)) 13 5 (f_s ro 4) 13 1 = n1_s
      rw [zne_up (by omega), zne_up (by omega)]
      exact e1_s
    · show zup (zup f_s 13 4 (f_s ro 3)) 13 5 (f_s ro 4) 13 2 = n2_s
      rw [zne_up (by omega), zne_up (by omega)]
      exact e2_s
    · show zup (zup f_s 13 4 (f_s ro 3)) 13 5 (f_s ro 4) 13 3 = n3_s
      rw [zne_up (by omega), zne_up (by omega)]
      exact e3_s
    · show zup (zup f_s 13 4 (f_s ro 3)) 13 5 (f_s ro 4) 13 4 = f_s ro 3
      rw [zne_up (by omega), zsame_up]
    · exact zsame_up
  rw [ev_s]
  refine t_s f1_s (fun o k_s g1 g2 g3_s => ?_)
  rw [hf1 o k_s (by omega), zne_up (by omega), zne_up (by omega)]
theorem lawC_fr {f1_s : Nat → Nat → Int32} (hm_s : q_s = 14 ∨ q_s = 17) (hf : ∀ o k_s, (o = 14 ∨ o = 15 ∨ o = 17 ∨ o = 18) → f1_s o k_s = f_s o k_s) (hl : lawC q_s f_s lw) : lawC q_s f1_s lw := by
  match lw, hl with
  | none, hl => exact ⟨by rw [hf q_s 2 (by omega)]; exact hl.1, by rw [hf q_s 0 (by omega)]; exact hl.2⟩
  | some ls, hl =>
    obtain ⟨a1_s, a2, a3, a4, a5, a6⟩ := hl
    exact ⟨by rw [hf q_s 2 (by omega)]; exact a1_s, a2, fun j_s c_s hj => by rw [hf (q_s + 1) j_s (by omega)]; exact a3 j_s c_s hj, by rw [hf q_s 0 (by omega)]; exact a4, a5, a6⟩
/-- wearOf -/
theorem sp_23 (hk : hKn h_s) (hr : h_s.2.2.2 7 9 = some q_s) (hm_s : q_s = 14 ∨ q_s = 17) (hl : lawC q_s f_s lw) (hp : lwP lw) (h1 : ¬ ro = 13) (h2 : ¬ d_s = 13) (hc_s : cwO f_s d_s o) (t_s : ∀ f1_s, frW f_s f1_s → K_s (weV lw o (f_s ro 3) (f_s ro 4)) (h_s.1, f1_s, h_s.2.2.1, h_s.2.2.2)) : wF F_s 23 (0, [some (.ref 7), some (.ref d_s), some (.ref ro)], [], (h_s.1, f_s, h_s.2.2.1, h_s.2.2.2)) (gI K_s) := by
  obtain ⟨c1_s, c2_s⟩ := hc_s
  refine wF_le (Nat.le_succ F_s) (sg_23_0 (h_s := (h_s.1, f_s, h_s.2.2.1, h_s.2.2.2)) hk ?_)
  dsimp only
  have r2 : ∀ v_s k_s, zup f_s 13 0 v_s d_s k_s = f_s d_s k_s := fun v_s k_s => zne_up (by omega)
  have r3 : ∀ v_s w_s k_s, zup (zup f_s 13 0 v_s) 13 1 w_s d_s k_s = f_s d_s k_s := fun v_s w_s k_s => by rw [zne_up (by omega), zne_up (by omega)]
  rw [r2, r3, c1_s 0 (by omega), c1_s 2 (by omega), c1_s 3 (by omega)]
  generalize hg : zup (zup (zup f_s 13 0 (o 0)) 13 1 (o 2)) 13 2 (o 3) = g_s
  have gf : ∀ a_s k_s, ¬ a_s = 13 → g_s a_s k_s = f_s a_s k_s := fun a_s k_s ha_s => by rw [← hg, zne_up (by omega), zne_up (by omega), zne_up (by omega)]
  have g0 : g_s 13 0 = o 0 := by rw [← hg, zne_up (by omega), zne_up (by omega), zsame_up]
  have g1 : g_s 13 1 = o 2 := by rw [← hg, zne_up (by omega), zsame_up]
  have g2 : g_s 13 2 = o 3 := by rw [← hg, zsame_up]
  have hl2 : lawC q_s g_s lw := lawC_fr hm_s (fun a_s k_s ha_s => gf a_s k_s (by omega)) hl
  have fin_s : ∀ v_s, v_s = farO o → wF F_s 23 (69, [some (.ref 7), some (.ref d_s), some (.ref ro)], [], (h_s.1, zup g_s 13 3 v_s, h_s.2.2.1, h_s.2.2.2)) (gI K_s) := by
    intro v_s hv
    refine wear69 (n0_s := o 0) (n1_s := o 2) (n2_s := o 3) (n3_s := v_s) hk hr (lawC_fr hm_s (fun a_s k_s ha_s => by rw [zne_up (by omega)]) hl2) hp h1 (by rw [zne_up (by omega)]; exact g0) (by rw [zne_up (by omega)]; exact g1) (by rw [zne_up (by omega)]; exact g2) zsame_up (fun f1_s hf1 => ?_)
    rw [zne_up (by omega), zne_up (by omega), gf ro 3 h1, gf ro 4 h1, hv]
    refine t_s f1_s (fun a_s k_s q1_s q2_s q3_s => ?_)
    rw [hf1 a_s k_s q1_s q2_s q3_s, zne_up (by omega), gf a_s k_s q1_s]
  refine wF_le (Nat.le_succ F_s) (sg_23_30 (h_s := (h_s.1, g_s, h_s.2.2.1, h_s.2.2.2)) hk ?_)
  dsimp only
  have e7_s : g_s 7 6 = f_s 7 6 := gf 7 6 (by omega)
  have e8 : ∀ k_s, g_s 8 k_s = f_s 8 k_s := fun k_s => gf 8 k_s (by omega)
  have e1_s : f_s d_s 1 = o 1 := c1_s 1 (by omega)
  simp only [gf d_s 6 h2, gf d_s 1 h2, e7_s, e8, e1_s]
  rcases c2_s with ⟨a1_s, a2⟩ | ⟨a1_s, a2, a3, a4⟩
  · have ef : farO o = 9 := by
      unfold farO
      rw [a2]
      rfl
    exact ⟨fun _ => fin_s 9 ef.symm, fun c_s => absurd a1_s c_s⟩
  · refine ⟨fun c_s => absurd c_s (by omega), fun _ => ⟨fun _ => fun _ => fin_s _ ?_, fun c_s => absurd a2 c_s⟩⟩
    have ef : farO o = absI (o 1 - o 6) := by
      unfold farO
      rw [if_neg (by omega)]
    rw [ef, a4]
    rfl
/-- zix of a sum -/
theorem zxa {c_s x_s : Int32} {a_s r_s : Nat} (hc_s : c_s.toInt = (a_s : Int)) (hx : x_s.toInt = (r_s : Int)) (hb_s : a_s + r_s ≤ 3072) : zix (c_s + x_s) = a_s + r_s := by
  have e_s : (c_s + x_s).toInt = ((a_s + r_s : Nat) : Int) := by
    rw [na_add (by omega) (by omega)]
    omega
  have z_s := azix (i := c_s + x_s) (by omega)
  omega
/-- what working the text out may write in the reference -/
def frX (f_s f1_s : Nat → Nat → Int32) : Prop := ∀ a_s k_s, ¬ a_s = 111 → ¬ (a_s = 102 ∧ 15 ≤ k_s ∧ k_s ≤ 19) → f1_s a_s k_s = f_s a_s k_s
theorem wrk180 {n_s : Nat → Int32} {ls : List pB} (hk : hKn h_s) (hl : lawR f_s (some ls)) (hp : lwP (some ls)) (hn : ∀ k_s, k_s < 6 → f_s 111 k_s = n_s k_s) (t_s : ∀ f1_s, frX f_s f1_s → K_s (lawV (some ls) n_s) (h_s.1, f1_s, h_s.2.2.1, h_s.2.2.2)) : wF F_s 176 (0, [some (.ref 102), some (.int 0), some (.int (f_s 102 14)), none, none, none, none, none], [], (h_s.1, f_s, h_s.2.2.1, h_s.2.2.2)) (gI K_s) := by
  obtain ⟨m_s, k_s, a1_s, a2, a3, a4⟩ := hl
  refine sp_176 (tk := fun a_s => if (a_s : Int) < (m_s : Int) then (f_s 110 a_s).toInt else -1) (n_s := m_s) (f_s := f_s) hk (Or.inr rfl) a1_s a2 (fun a_s => by rw [if_neg (show ¬ ((0 : Int32)).toInt < 0 by decide)]) (fun j_s hj => by rw [if_pos (by omega)]; exact a3 j_s hj) (fun v_s f1_s g1 g2 => ?_)
  obtain ⟨k1_s, r1_s, b1, b2⟩ := g2
  have e_s := ptx_det b1 a4
  subst e_s
  have b2 : (f1_s 102 18).toInt = -1 ∧ v_s = (gvL (fun k_s => f_s 111 k_s) ls).getD 0 := b2
  rw [b2.2]
  have ev_s := hp True (fun k_s => f_s 111 k_s) n_s (fun k_s hk6 _ => hn k_s hk6) (Or.inl trivial)
  have ev_s : (gvL (fun k_s => f_s 111 k_s) ls).getD 0 = lawV (some ls) n_s := ev_s
  rw [ev_s]
  exact t_s f1_s (fun a_s k1_s _ q2_s => g1 a_s k1_s q2_s)
theorem fin180 {fr_s : Int32} {r_s : Nat} (hk : hKn h_s) (hl : lawR f_s lw) (hp : lwP lw) (ho : ∀ k_s, k_s < 6 → f_s 112 k_s = o k_s) (hf : fr_s = farO o) (hkd : f_s 103 (92 + r_s) = kd) (hst : f_s 103 (80 + r_s) = st_s) (t_s : ∀ f1_s, frX f_s f1_s → K_s (weV lw o st_s kd) (h_s.1, f1_s, h_s.2.2.1, h_s.2.2.2)) : ((f_s 102 14).toInt < 0 → (((((1 + (f_s 103 (92 + r_s))) + (fr_s / 3)) - ((f_s 112 0) / 2)).toInt < 0 → K_s 0 (h_s.1, f_s, h_s.2.2.1, h_s.2.2.2)) ∧ (¬ (((1 + (f_s 103 (92 + r_s))) + (fr_s / 3)) - ((f_s 112 0) / 2)).toInt < 0 → ((9 < (((1 + (f_s 103 (92 + r_s))) + (fr_s / 3)) - ((f_s 112 0) / 2)).toInt → K_s 9 (h_s.1, f_s, h_s.2.2.1, h_s.2.2.2)) ∧ (¬ 9 < (((1 + (f_s 103 (92 + r_s))) + (fr_s / 3)) - ((f_s 112 0) / 2)).toInt → K_s (((1 + (f_s 103 (92 + r_s))) + (fr_s / 3)) - ((f_s 112 0) / 2)) (h_s.1, f_s, h_s.2.2.1, h_s.2.2.2)))))) ∧ (¬ (f_s 102 14).toInt < 0 → wF F_s 176 (0, [some (.ref 102), some (.int 0), some (.int (f_s 102 14)), none, none, none, none, none], [], (h_s.1, zup (zup (zup (zup (zup (zup f_s 111 0 (f_s 112 0)) 111 1 (f_s 112 2)) 111 2 (f_s 112 3)) 111 3 fr_s) 111 4 (f_s 103 (80 + r_s))) 111 5 (f_s 103 (92 + r_s)), h_s.2.2.1, h_s.2.2.2)) (gI (fun v19 h19 => hKn h19 → (v19.toInt < 0 → K_s 0 h19) ∧ (¬ v19.toInt < 0 → ((9 < v19.toInt → K_s 9 h19) ∧ (¬ 9 < v19.toInt → K_s v19 h19)))))) := by
  rw [ho 0 (by omega), ho 2 (by omega), ho 3 (by omega), hf, hkd, hst]
  refine ⟨fun c_s => ?_, fun c_s => ?_⟩
  · match lw, hl, hp, t_s with
    | none, hl, hp, t_s =>
      have u_s := t_s f_s (fun _ _ _ _ => rfl)
      unfold weV at u_s
      exact clp_k (K_s := fun v_s => K_s v_s (h_s.1, f_s, h_s.2.2.1, h_s.2.2.2)) u_s
    | some ls, hl, _, _ =>
      obtain ⟨m_s, _, a1_s, _⟩ := hl
      exact absurd c_s (by omega)
  · match lw, hl, hp, t_s with
    | none, hl, _, _ =>
      have hl : (f_s 102 14).toInt = -1 := hl
      exact absurd c_s (by omega)
    | some ls, hl, hp, t_s =>
      generalize hg : zup (zup (zup (zup (zup (zup f_s 111 0 (o 0)) 111 1 (o 2)) 111 2 (o 3)) 111 3 (farO o)) 111 4 st_s) 111 5 kd = g_s
      have gf : ∀ a_s k_s, ¬ a_s = 111 → g_s a_s k_s = f_s a_s k_s := fun a_s k_s ha_s => by rw [← hg, zne_up (by omega), zne_up (by omega), zne_up (by omega), zne_up (by omega), zne_up (by omega), zne_up (by omega)]
      have hn : eqN True (fun k_s => g_s 111 k_s) (nm6 (o 0) (o 2) (o 3) (farO o) st_s kd) := by
        refine nm6_eq ?_ (fun _ => ?_) ?_ ?_ ?_ ?_ <;> (rw [← hg]; simp (disch := omega) only [zne_up, zsame_up])
      have hl2 : lawR g_s (some ls) := by
        obtain ⟨m_s, k_s, a1_s, a2, a3, a4⟩ := hl
        refine ⟨m_s, k_s, by rw [gf _ _ (by omega)]; exact a1_s, a2, fun a_s ha_s => by rw [gf _ _ (by omega)]; exact a3 a_s ha_s, ?_⟩
        have e_s : (fun a_s : Nat => if (a_s : Int) < (m_s : Int) then (g_s 110 a_s).toInt else -1) = fun a_s : Nat => if (a_s : Int) < (m_s : Int) then (f_s 110 a_s).toInt else -1 := by
          funext a_s
          rw [gf 110 a_s (by omega)]
        rw [e_s]
        exact a4
      have e14_s : f_s 102 14 = g_s 102 14 := (gf _ _ (by omega)).symm
      rw [e14_s]
      refine wrk180 (n_s := nm6 (o 0) (o 2) (o 3) (farO o) st_s kd) hk hl2 hp (fun k_s hk6 => hn k_s hk6 (fun _ => trivial)) (fun f1_s hf1 _ => ?_)
      refine clp_k (K_s := fun v_s => K_s v_s (h_s.1, f1_s, h_s.2.2.1, h_s.2.2.2)) (t_s f1_s (fun a_s k_s q1_s q2_s => ?_))
      rw [hf1 a_s k_s q1_s q2_s, gf a_s k_s q1_s]
/-- wearsNow -/
theorem sp_180 {r_s : Nat} (hk : hKn h_s) (hl : lawR f_s lw) (hp : lwP lw) (hx : x1_s.toInt = (r_s : Int)) (hr : r_s < 12) (ho : ∀ k_s, k_s < 7 → f_s 112 k_s = o k_s) (h6 : o 6 = -1 ∨ 0 ≤ (o 6).toInt) (t_s : ∀ f1_s, frX f_s f1_s → K_s (weV lw o (f_s 103 (80 + r_s)) (f_s 103 (92 + r_s))) (h_s.1, f1_s, h_s.2.2.1, h_s.2.2.2)) : wF F_s 180 (0, [some (.ref 102), some (.int x1_s), none, none], [], (h_s.1, f_s, h_s.2.2.1, h_s.2.2.2)) (gI K_s) := by
  have z92 : zix (92 + x1_s) = 92 + r_s := zxa (c_s := 92) (a_s := 92) rfl hx (by omega)
  have z80 : zix (80 + x1_s) = 80 + r_s := zxa (c_s := 80) (a_s := 80) rfl hx (by omega)
  have go_s := fun (fr_s : Int32) (hf : fr_s = farO o) => fin180 (F_s := F_s) (fr_s := fr_s) (r_s := r_s) hk hl hp (fun k_s hk6 => ho k_s (by omega)) hf rfl rfl t_s
  refine wF_le (Nat.le_succ F_s) (sg_180_0 (h_s := (h_s.1, f_s, h_s.2.2.1, h_s.2.2.2)) hk ?_)
  dsimp only
  rw [z92, z80]
  have e6_s : f_s 112 6 = o 6 := ho 6 (by omega)
  have e1_s : f_s 112 1 = o 1 := ho 1 (by omega)
  refine ⟨fun c_s _ => ?_, fun c_s => ⟨fun c1_s _ => ?_, fun c1_s _ => ?_⟩⟩
  · rw [e6_s] at c_s
    have g_s := go_s 9 (by unfold farO; rw [if_pos c_s])
    exact ⟨g_s.1, fun c2_s _ => g_s.2 c2_s⟩
  · rw [e6_s] at c_s
    rw [e6_s, e1_s] at c1_s
    have g_s := go_s (-(f_s 112 1 - f_s 112 6)) (by
      unfold farO absI
      rw [if_neg c_s, if_pos ((iq2 _).mpr c1_s), e1_s, e6_s])
    exact ⟨g_s.1, fun c2_s _ => g_s.2 c2_s⟩
  · rw [e6_s] at c_s
    rw [e6_s, e1_s] at c1_s
    have g_s := go_s (f_s 112 1 - f_s 112 6) (by
      unfold farO absI
      rw [if_neg c_s, if_neg (fun w_s => c1_s ((iq2 _).mp w_s)), e1_s, e6_s])
    exact ⟨g_s.1, fun c2_s _ => g_s.2 c2_s⟩
/-- the idea i as the reference has it -/
def owI (f_s : Nat → Nat → Int32) (i_s : Nat) : oI := fun k_s => if k_s < 6 then f_s 103 (12 + 8 * k_s + i_s) else (if (f_s 103 (60 + i_s)).toInt < 0 then -1 else f_s 103 (zix (f_s 103 (60 + i_s))))
theorem i8_ : (8 : Int32).toInt = 8 := rfl
theorem i12_ : (12 : Int32).toInt = 12 := rfl
theorem bg178 {i_s : Nat} {f0_s : Nat → Nat → Int32} (hk : hKn h_s) (hx : x1_s.toInt = (i_s : Int)) (hi_s : i_s < 8) (h60 : -1 ≤ (f0_s 103 (60 + i_s)).toInt) (t_s : ∀ f1_s, (∀ k_s, k_s < 7 → f1_s 112 k_s = owI f0_s i_s k_s) → (∀ a_s k_s, ¬ a_s = 112 → f1_s a_s k_s = f0_s a_s k_s) → V (h_s.1, f1_s, h_s.2.2.1, h_s.2.2.2)) : ∀ (F_s j_s : Nat) (x2_s : Int32) (f_s : Nat → Nat → Int32), x2_s.toInt = (j_s : Int) → j_s ≤ 6 → (∀ k_s, k_s < j_s → f_s 112 k_s = owI f0_s i_s k_s) → (∀ a_s k_s, ¬ a_s = 112 → f_s a_s k_s = f0_s a_s k_s) → wF F_s 178 (2, [some (.ref 102), some (.int x1_s), some (.int x2_s)], [], (h_s.1, f_s, h_s.2.2.1, h_s.2.2.2)) (gV V)
  | 0, _, _, _, _, _, _, _ => wF_zero
  | F_s + 1, j_s, x2_s, f_s, h2, hj, hf, hg => by
    have m8_s : (8 * x2_s).toInt = 8 * (j_s : Int) := by rw [na_mul (by rw [i8_]; omega) (by rw [i8_]; omega), i8_, h2]
    have m12_s : (12 + 8 * x2_s).toInt = ((12 + 8 * j_s : Nat) : Int) := by
      rw [na_add (by rw [i12_]; omega) (by rw [i12_]; omega), i12_, m8_s]
      omega
    have za : zix (12 + 8 * x2_s + x1_s) = 12 + 8 * j_s + i_s := zxa m12_s hx (by omega)
    have zj := azix (i := x2_s) (by omega)
    have ej : zix x2_s = j_s := by omega
    have z60_s : zix (60 + x1_s) = 60 + i_s := zxa (c_s := 60) (a_s := 60) rfl hx (by omega)
    refine sg_178_2 (h_s := (h_s.1, f_s, h_s.2.2.1, h_s.2.2.2)) hk ?_
    dsimp only
    rw [za, ej, z60_s, hg 103 _ (by omega), hg 103 _ (by omega)]
    refine ⟨fun c1_s _ _ => ?_, fun c1_s _ => ⟨fun c2_s => ?_, fun c2_s _ => ?_⟩⟩
    · refine bg178 hk hx hi_s h60 t_s F_s (j_s + 1) (x2_s + 1) _ (by rw [in1_ (by omega)]; omega) (by omega) (fun k_s hk1 => ?_) (fun a_s k_s ha_s => ?_)
      · by_cases e_s : k_s = j_s
        · subst e_s
          rw [zsame_up]
          unfold owI
          rw [if_pos (by omega)]
        · rw [zne_up (by omega)]
          exact hf k_s (by omega)
      · rw [zne_up (by omega)]
        exact hg a_s k_s ha_s
    · have e6_s : j_s = 6 := by omega
      subst e6_s
      refine t_s _ (fun k_s hk1 => ?_) (fun a_s k_s ha_s => ?_)
      · by_cases e_s : k_s = 6
        · subst e_s
          rw [zsame_up]
          unfold owI
          rw [if_neg (by omega), if_pos c2_s]
        · rw [zne_up (by omega)]
          exact hf k_s (by omega)
      · rw [zne_up (by omega)]
        exact hg a_s k_s ha_s
    · have e6_s : j_s = 6 := by omega
      subst e6_s
      rw [hg 103 _ (by omega)]
      refine t_s _ (fun k_s hk1 => ?_) (fun a_s k_s ha_s => ?_)
      · by_cases e_s : k_s = 6
        · subst e_s
          rw [zsame_up]
          unfold owI
          rw [if_neg (by omega), if_neg c2_s]
        · rw [zne_up (by omega)]
          exact hf k_s (by omega)
      · rw [zne_up (by omega)]
        exact hg a_s k_s ha_s
theorem sp_178 {i_s : Nat} (hk : hKn h_s) (hx : x1_s.toInt = (i_s : Int)) (hi_s : i_s < 8) (h60 : -1 ≤ (f_s 103 (60 + i_s)).toInt) (t_s : ∀ f1_s, (∀ k_s, k_s < 7 → f1_s 112 k_s = owI f_s i_s k_s) → (∀ a_s k_s, ¬ a_s = 112 → f1_s a_s k_s = f_s a_s k_s) → V (h_s.1, f1_s, h_s.2.2.1, h_s.2.2.2)) : wF F_s 178 (0, [some (.ref 102), some (.int x1_s), none], [], (h_s.1, f_s, h_s.2.2.1, h_s.2.2.2)) (gV V) := wF_le (Nat.le_succ F_s) (sg_178_0 (h_s := (h_s.1, f_s, h_s.2.2.1, h_s.2.2.2)) hk (bg178 hk hx hi_s h60 t_s F_s 0 0 f_s rfl (by omega) (fun k_s hq => absurd hq (Nat.not_lt_zero k_s)) (fun _ _ _ => rfl)))
end WR
/-! THE STATE as class and reference have it: number n of what w (as of mend). -/
def cO (n_s w_s : Nat) : Nat := if w_s = 0 then 8 else if w_s = 1 then 9 else if w_s < 9 then 20 + n_s else 28 + n_s
def cF (n_s w_s : Nat) : Nat := if w_s < 2 then n_s else if w_s < 9 then w_s - 2 else w_s - 7
def plc (n_s w_s : Nat) : Nat := if w_s < 2 then 6 * w_s + n_s else if w_s < 9 then 12 + 8 * (w_s - 2) + n_s else 68 + 12 * (w_s - 9) + n_s
def cap (w_s : Nat) : Nat := if w_s < 2 then 6 else if w_s < 9 then 8 else 12
def mxw (w_s : Nat) : Int := if w_s = 0 then 5 else if w_s = 1 then 12 else if w_s = 2 then 3 else if w_s = 3 then 5 else if w_s = 4 then 99 else if w_s = 5 then 9 else if w_s = 6 then 1 else if w_s = 7 then 9 else if w_s = 9 then 9 else if w_s = 10 then 9 else 2
def vB (nh nr n_s w_s : Nat) (v_s : Int) : Prop := if w_s = 8 then -1 ≤ v_s ∧ v_s < (nh : Int) else 0 ≤ v_s ∧ v_s ≤ mxw w_s ∧ (w_s = 9 → n_s < nr → 1 ≤ v_s)
theorem cO_i {n_s w_s : Nat} (h1 : 2 ≤ w_s) (h2 : w_s < 9) : cO n_s w_s = 20 + n_s := by
  unfold cO
  rw [if_neg (by omega), if_neg (by omega), if_pos h2]
theorem cF_i {n_s w_s : Nat} (h1 : 2 ≤ w_s) (h2 : w_s < 9) : cF n_s w_s = w_s - 2 := by
  unfold cF
  rw [if_neg (by omega), if_pos h2]
theorem plc_i {n_s w_s : Nat} (h1 : 2 ≤ w_s) (h2 : w_s < 9) : plc n_s w_s = 12 + 8 * (w_s - 2) + n_s := by
  unfold plc
  rw [if_neg (by omega), if_pos h2]
theorem cap_i {w_s : Nat} (h1 : 2 ≤ w_s) (h2 : w_s < 9) : cap w_s = 8 := by
  unfold cap
  rw [if_neg (by omega), if_pos h2]
theorem cO_r {n_s w_s : Nat} (h1 : 9 ≤ w_s) : cO n_s w_s = 28 + n_s := by
  unfold cO
  rw [if_neg (by omega), if_neg (by omega), if_neg (by omega)]
theorem cF_r {n_s w_s : Nat} (h1 : 9 ≤ w_s) : cF n_s w_s = w_s - 7 := by
  unfold cF
  rw [if_neg (by omega), if_neg (by omega)]
theorem plc_r {n_s w_s : Nat} (h1 : 9 ≤ w_s) : plc n_s w_s = 68 + 12 * (w_s - 9) + n_s := by
  unfold plc
  rw [if_neg (by omega), if_neg (by omega)]
theorem cap_r {w_s : Nat} (h1 : 9 ≤ w_s) : cap w_s = 12 := by
  unfold cap
  rw [if_neg (by omega), if_neg (by omega)]
theorem plc_h {n_s w_s : Nat} (h1 : w_s < 2) : plc n_s w_s = 6 * w_s + n_s := by
  unfold plc
  rw [if_pos h1]
theorem cap_h {w_s : Nat} (h1 : w_s < 2) : cap w_s = 6 := by
  unfold cap
  rw [if_pos h1]
theorem cO_h {n_s w_s : Nat} (h1 : w_s < 2) : cO n_s w_s = 8 + w_s := by
  unfold cO
  by_cases e_s : w_s = 0
  · rw [if_pos e_s, e_s]
  · rw [if_neg e_s, if_pos (by omega)]
    omega
theorem cF_h {n_s w_s : Nat} (h1 : w_s < 2) : cF n_s w_s = n_s := by
  unfold cF
  rw [if_pos h1]
theorem vB_8 {nh nr n_s : Nat} {v_s : Int} : vB nh nr n_s 8 v_s = (-1 ≤ v_s ∧ v_s < (nh : Int)) := rfl
theorem vB_n {nh nr n_s w_s : Nat} {v_s : Int} (h_s : w_s ≠ 8) : vB nh nr n_s w_s v_s = (0 ≤ v_s ∧ v_s ≤ mxw w_s ∧ (w_s = 9 → n_s < nr → 1 ≤ v_s)) := by
  unfold vB
  rw [if_neg h_s]
def tC (nh ni nr : Nat) (f_s : Nat → Nat → Int32) : Prop := (nh ≤ 6 ∧ ni ≤ 8 ∧ nr ≤ 12) ∧ ((f_s 7 6).toInt = (nh : Int) ∧ (f_s 7 7).toInt = (ni : Int) ∧ (f_s 7 8).toInt = (nr : Int)) ∧ ((f_s 102 6).toInt = (nh : Int) ∧ (f_s 102 7).toInt = (ni : Int) ∧ (f_s 102 8).toInt = (nr : Int)) ∧ (∀ n_s w_s, w_s < 12 → n_s < cap w_s → (w_s = 8 → n_s < ni) → f_s (cO n_s w_s) (cF n_s w_s) = f_s 103 (plc n_s w_s) ∧ vB nh nr n_s w_s (f_s 103 (plc n_s w_s)).toInt) ∧ (∀ i_s, ni ≤ i_s → i_s < 8 → f_s (20 + i_s) 6 = -1) ∧ (∀ r_s, r_s < 12 → (f_s (28 + r_s) 0 = f_s 107 r_s ∧ f_s (28 + r_s) 1 = f_s 108 r_s) ∧ (0 ≤ (f_s 107 r_s).toInt ∧ (f_s 107 r_s).toInt ≤ 7) ∧ (0 ≤ (f_s 108 r_s).toInt ∧ (f_s 108 r_s).toInt ≤ 7) ∧ (r_s < nr → ¬ (f_s 107 r_s).toInt = (f_s 108 r_s).toInt))
def inC (o k_s : Nat) : Prop := (o = 7 ∧ 6 ≤ k_s ∧ k_s ≤ 8) ∨ ((o = 8 ∨ o = 9) ∧ k_s < 6) ∨ (20 ≤ o ∧ o < 28 ∧ k_s < 7) ∨ (28 ≤ o ∧ o < 40 ∧ k_s < 5) ∨ (o = 102 ∧ 6 ≤ k_s ∧ k_s ≤ 8) ∨ (o = 103 ∧ k_s < 104) ∨ ((o = 107 ∨ o = 108) ∧ k_s < 12)
theorem plc_lt {n_s w_s : Nat} (hw : w_s < 12) (hn : n_s < cap w_s) : plc n_s w_s < 104 := by
  by_cases a_s : w_s < 2
  · rw [cap_h a_s] at hn
    rw [plc_h a_s]
    omega
  · by_cases b_s : w_s < 9
    · rw [cap_i (by omega) b_s] at hn
      rw [plc_i (by omega) b_s]
      omega
    · rw [cap_r (by omega)] at hn
      rw [plc_r (by omega)]
      omega
theorem cell_in {n_s w_s : Nat} (hw : w_s < 12) (hn : n_s < cap w_s) : inC (cO n_s w_s) (cF n_s w_s) := by
  by_cases a_s : w_s < 2
  · rw [cap_h a_s] at hn
    rw [cO_h a_s, cF_h a_s]
    unfold inC
    omega
  · by_cases b_s : w_s < 9
    · rw [cap_i (by omega) b_s] at hn
      rw [cO_i (by omega) b_s, cF_i (by omega) b_s]
      unfold inC
      omega
    · rw [cap_r (by omega)] at hn
      rw [cO_r (by omega), cF_r (by omega)]
      unfold inC
      omega
theorem tC_fr {nh ni nr : Nat} {f_s f1_s : Nat → Nat → Int32} (hf : ∀ o k_s, inC o k_s → f1_s o k_s = f_s o k_s) (h_s : tC nh ni nr f_s) : tC nh ni nr f1_s := by
  obtain ⟨a0_s, ⟨a1_s, a2, a3⟩, ⟨a4, a5, a6⟩, a7, a8, a9⟩ := h_s
  have r7 : ∀ k_s, 6 ≤ k_s → k_s ≤ 8 → f1_s 7 k_s = f_s 7 k_s := fun k_s h1 h2 => hf 7 k_s (by unfold inC; omega)
  have r2 : ∀ k_s, 6 ≤ k_s → k_s ≤ 8 → f1_s 102 k_s = f_s 102 k_s := fun k_s h1 h2 => hf 102 k_s (by unfold inC; omega)
  have r3 : ∀ k_s, k_s < 104 → f1_s 103 k_s = f_s 103 k_s := fun k_s h1 => hf 103 k_s (by unfold inC; omega)
  refine ⟨a0_s, ⟨?_, ?_, ?_⟩, ⟨?_, ?_, ?_⟩, fun n_s w_s hw hn hi_s => ?_, fun i_s h1 h2 => ?_, fun r_s hr => ?_⟩
  · rw [r7 6 (by omega) (by omega)]
    exact a1_s
  · rw [r7 7 (by omega) (by omega)]
    exact a2
  · rw [r7 8 (by omega) (by omega)]
    exact a3
  · rw [r2 6 (by omega) (by omega)]
    exact a4
  · rw [r2 7 (by omega) (by omega)]
    exact a5
  · rw [r2 8 (by omega) (by omega)]
    exact a6
  · rw [hf _ _ (cell_in hw hn), r3 _ (plc_lt hw hn)]
    exact a7 n_s w_s hw hn hi_s
  · rw [hf _ _ (by unfold inC; omega)]
    exact a8 i_s h1 h2
  · rw [hf (28 + r_s) 0 (by unfold inC; omega), hf (28 + r_s) 1 (by unfold inC; omega), hf 107 r_s (by unfold inC; omega), hf 108 r_s (by unfold inC; omega)]
    exact a9 r_s hr
section TC
variable {nh ni nr : Nat} {f_s : Nat → Nat → Int32}
theorem tC_own {i_s k_s : Nat} (h_s : tC nh ni nr f_s) (hi_s : i_s < 8) (hk : k_s < 6) : f_s (20 + i_s) k_s = f_s 103 (12 + 8 * k_s + i_s) ∧ 0 ≤ (f_s 103 (12 + 8 * k_s + i_s)).toInt ∧ (f_s 103 (12 + 8 * k_s + i_s)).toInt ≤ mxw (k_s + 2) := by
  have u_s := h_s.2.2.2.1 i_s (k_s + 2) (by omega) (by rw [cap_i (by omega) (by omega)]; exact hi_s) (fun w_s => absurd w_s (by omega))
  rw [cO_i (by omega) (by omega), cF_i (by omega) (by omega), plc_i (by omega) (by omega), vB_n (by omega), Nat.add_sub_cancel] at u_s
  exact ⟨u_s.1, u_s.2.1, u_s.2.2.1⟩
theorem tC_hd {i_s : Nat} (h_s : tC nh ni nr f_s) (hi_s : i_s < ni) : f_s (20 + i_s) 6 = f_s 103 (60 + i_s) ∧ -1 ≤ (f_s 103 (60 + i_s)).toInt ∧ (f_s 103 (60 + i_s)).toInt < (nh : Int) := h_s.2.2.2.1 i_s 8 (by omega) (Nat.lt_of_lt_of_le hi_s h_s.1.2.1) (fun _ => hi_s)
theorem tC_form {p_s : Nat} (h_s : tC nh ni nr f_s) (hp : p_s < 6) : f_s 8 p_s = f_s 103 p_s ∧ 0 ≤ (f_s 103 p_s).toInt ∧ (f_s 103 p_s).toInt ≤ 5 := by
  have u_s := h_s.2.2.2.1 p_s 0 (by omega) hp (fun w_s => absurd w_s (by omega))
  rw [cO_h (by omega), cF_h (by omega), plc_h (by omega), vB_n (by omega), Nat.mul_zero, Nat.zero_add] at u_s
  exact ⟨u_s.1, u_s.2.1, u_s.2.2.1⟩
theorem tC_will {p_s : Nat} (h_s : tC nh ni nr f_s) (hp : p_s < 6) : f_s 9 p_s = f_s 103 (6 + p_s) ∧ 0 ≤ (f_s 103 (6 + p_s)).toInt ∧ (f_s 103 (6 + p_s)).toInt ≤ 12 := by
  have u_s := h_s.2.2.2.1 p_s 1 (by omega) hp (fun w_s => absurd w_s (by omega))
  rw [cO_h (by omega), cF_h (by omega), plc_h (by omega), vB_n (by omega), Nat.mul_one] at u_s
  exact ⟨u_s.1, u_s.2.1, u_s.2.2.1⟩
theorem tC_road {r_s j_s : Nat} (h_s : tC nh ni nr f_s) (hr : r_s < 12) (hj : j_s < 3) : f_s (28 + r_s) (2 + j_s) = f_s 103 (68 + 12 * j_s + r_s) ∧ 0 ≤ (f_s 103 (68 + 12 * j_s + r_s)).toInt ∧ (f_s 103 (68 + 12 * j_s + r_s)).toInt ≤ 9 ∧ (j_s = 0 → r_s < nr → 1 ≤ (f_s 103 (68 + 12 * j_s + r_s)).toInt) := by
  have u_s := h_s.2.2.2.1 r_s (9 + j_s) (by omega) (by rw [cap_r (by omega)]; exact hr) (fun w_s => absurd w_s (by omega))
  rw [cO_r (by omega), cF_r (by omega), plc_r (by omega), vB_n (by omega), Nat.add_sub_cancel_left, show 9 + j_s - 7 = 2 + j_s by omega] at u_s
  refine ⟨u_s.1, u_s.2.1, ?_, fun e_s => u_s.2.2.2 (by omega)⟩
  have m_s : mxw (9 + j_s) ≤ 9 := by
    have e_s : j_s = 0 ∨ j_s = 1 ∨ j_s = 2 := by omega
    rcases e_s with e_s | e_s | e_s <;> (subst e_s; decide)
  have u3 := u_s.2.2.1
  omega
/-- the reference's part of it -/
def tM (nh ni nr : Nat) (f_s : Nat → Nat → Int32) : Prop := (nh ≤ 6 ∧ ni ≤ 8 ∧ nr ≤ 12) ∧ ((f_s 102 6).toInt = (nh : Int) ∧ (f_s 102 7).toInt = (ni : Int) ∧ (f_s 102 8).toInt = (nr : Int)) ∧ (∀ n_s w_s, w_s < 12 → n_s < cap w_s → (w_s = 8 → n_s < ni) → vB nh nr n_s w_s (f_s 103 (plc n_s w_s)).toInt)
theorem tC_M (h_s : tC nh ni nr f_s) : tM nh ni nr f_s := ⟨h_s.1, h_s.2.2.1, fun n_s w_s h1 h2 h3 => (h_s.2.2.2.1 n_s w_s h1 h2 h3).2⟩
theorem tM_fr {f1_s : Nat → Nat → Int32} (h2 : ∀ k_s, 6 ≤ k_s → k_s ≤ 8 → f1_s 102 k_s = f_s 102 k_s) (h3 : ∀ k_s, k_s < 104 → f1_s 103 k_s = f_s 103 k_s) (h_s : tM nh ni nr f_s) : tM nh ni nr f1_s := by
  obtain ⟨a0_s, ⟨a1_s, a2, a3⟩, a4⟩ := h_s
  refine ⟨a0_s, ⟨?_, ?_, ?_⟩, fun n_s w_s hw hn h8 => ?_⟩
  · rw [h2 6 (by omega) (by omega)]
    exact a1_s
  · rw [h2 7 (by omega) (by omega)]
    exact a2
  · rw [h2 8 (by omega) (by omega)]
    exact a3
  · rw [h3 _ (plc_lt hw hn)]
    exact a4 n_s w_s hw hn h8
theorem tM_own {i_s k_s : Nat} (h_s : tM nh ni nr f_s) (hi_s : i_s < 8) (hk : k_s < 6) : 0 ≤ (f_s 103 (12 + 8 * k_s + i_s)).toInt ∧ (f_s 103 (12 + 8 * k_s + i_s)).toInt ≤ mxw (k_s + 2) := by
  have u_s := h_s.2.2 i_s (k_s + 2) (by omega) (by rw [cap_i (by omega) (by omega)]; exact hi_s) (fun w_s => absurd w_s (by omega))
  rw [plc_i (by omega) (by omega), vB_n (by omega), Nat.add_sub_cancel] at u_s
  exact ⟨u_s.1, u_s.2.1⟩
theorem tM_hd {i_s : Nat} (h_s : tM nh ni nr f_s) (hi_s : i_s < ni) : -1 ≤ (f_s 103 (60 + i_s)).toInt ∧ (f_s 103 (60 + i_s)).toInt < (nh : Int) := h_s.2.2 i_s 8 (by omega) (Nat.lt_of_lt_of_le hi_s h_s.1.2.1) (fun _ => hi_s)
theorem tM_form {p_s : Nat} (h_s : tM nh ni nr f_s) (hp : p_s < 6) : 0 ≤ (f_s 103 p_s).toInt ∧ (f_s 103 p_s).toInt ≤ 5 := by
  have u_s := h_s.2.2 p_s 0 (by omega) hp (fun w_s => absurd w_s (by omega))
  rw [plc_h (by omega), vB_n (by omega), Nat.mul_zero, Nat.zero_add] at u_s
  exact ⟨u_s.1, u_s.2.1⟩
theorem tM_road {r_s j_s : Nat} (h_s : tM nh ni nr f_s) (hr : r_s < 12) (hj : j_s < 3) : 0 ≤ (f_s 103 (68 + 12 * j_s + r_s)).toInt ∧ (f_s 103 (68 + 12 * j_s + r_s)).toInt ≤ 9 ∧ (j_s = 0 → r_s < nr → 1 ≤ (f_s 103 (68 + 12 * j_s + r_s)).toInt) := by
  have u_s := h_s.2.2 r_s (9 + j_s) (by omega) (by rw [cap_r (by omega)]; exact hr) (fun w_s => absurd w_s (by omega))
  rw [plc_r (by omega), vB_n (by omega), Nat.add_sub_cancel_left] at u_s
  refine ⟨u_s.1, ?_, fun e_s => u_s.2.2 (by omega)⟩
  have m_s : mxw (9 + j_s) ≤ 9 := by
    have e_s : j_s = 0 ∨ j_s = 1 ∨ j_s = 2 := by omega
    rcases e_s with e_s | e_s | e_s <;> (subst e_s; decide)
  have u3 := u_s.2.1
  omega
/-- bounds of an idea in thought -/
def oB (o : oI) : Prop := (0 ≤ (o 0).toInt ∧ (o 0).toInt ≤ 3) ∧ (0 ≤ (o 1).toInt ∧ (o 1).toInt ≤ 5) ∧ (0 ≤ (o 2).toInt ∧ (o 2).toInt ≤ 99) ∧ (0 ≤ (o 3).toInt ∧ (o 3).toInt ≤ 9) ∧ (0 ≤ (o 4).toInt ∧ (o 4).toInt ≤ 1) ∧ (0 ≤ (o 5).toInt ∧ (o 5).toInt ≤ 9) ∧ (o 6 = -1 ∨ 0 ≤ (o 6).toInt)
theorem owI_lo {i_s k_s : Nat} (hk : k_s < 6) : owI f_s i_s k_s = f_s 103 (12 + 8 * k_s + i_s) := by
  unfold owI
  rw [if_pos hk]
theorem tM_oB {i_s : Nat} (h_s : tM nh ni nr f_s) (hi_s : i_s < ni) : oB (owI f_s i_s) := by
  have h8 : i_s < 8 := Nat.lt_of_lt_of_le hi_s h_s.1.2.1
  refine ⟨?_, ?_, ?_, ?_, ?_, ?_, ?_⟩
  · rw [owI_lo (by omega)]
    exact tM_own (k_s := 0) h_s h8 (by omega)
  · rw [owI_lo (by omega)]
    exact tM_own (k_s := 1) h_s h8 (by omega)
  · rw [owI_lo (by omega)]
    exact tM_own (k_s := 2) h_s h8 (by omega)
  · rw [owI_lo (by omega)]
    exact tM_own (k_s := 3) h_s h8 (by omega)
  · rw [owI_lo (by omega)]
    exact tM_own (k_s := 4) h_s h8 (by omega)
  · rw [owI_lo (by omega)]
    exact tM_own (k_s := 5) h_s h8 (by omega)
  · obtain ⟨h1, h2⟩ := tM_hd h_s hi_s
    unfold owI
    rw [if_neg (by omega)]
    by_cases c_s : (f_s 103 (60 + i_s)).toInt < 0
    · rw [if_pos c_s]
      exact Or.inl rfl
    · rw [if_neg c_s]
      have z_s := azix (i := f_s 103 (60 + i_s)) (by omega)
      have h6 := h_s.1.1
      exact Or.inr (tM_form h_s (p_s := zix (f_s 103 (60 + i_s))) (by omega)).1
theorem tC_oB {i_s : Nat} (h_s : tC nh ni nr f_s) (hi_s : i_s < ni) : oB (owI f_s i_s) := tM_oB (tC_M h_s) hi_s
theorem tC_cw {i_s : Nat} (h_s : tC nh ni nr f_s) (hi_s : i_s < ni) : cwO f_s (20 + i_s) (owI f_s i_s) := by
  have h8 : i_s < 8 := Nat.lt_of_lt_of_le hi_s h_s.1.2.1
  refine ⟨fun k_s hk => ?_, ?_⟩
  · rw [owI_lo hk]
    exact (tC_own h_s h8 hk).1
  · obtain ⟨h0, h1, h2⟩ := tC_hd h_s hi_s
    rw [h0, h_s.2.1.1]
    have e_s : owI f_s i_s 6 = (if (f_s 103 (60 + i_s)).toInt < 0 then -1 else f_s 103 (zix (f_s 103 (60 + i_s)))) := by
      unfold owI
      rw [if_neg (by omega)]
    by_cases c_s : (f_s 103 (60 + i_s)).toInt < 0
    · rw [if_pos c_s] at e_s
      exact Or.inl ⟨c_s, e_s⟩
    · rw [if_neg c_s] at e_s
      have z_s := azix (i := f_s 103 (60 + i_s)) (by omega)
      have h6 := h_s.1.1
      have u_s := tC_form h_s (p_s := zix (f_s 103 (60 + i_s))) (by omega)
      exact Or.inr ⟨by omega, h2, by rw [e_s]; exact u_s.2.1, by rw [e_s]; exact u_s.1.symm⟩
end TC
/-- THE LAW, as class and reference have it -/
def tLw (h_s : zH) : Prop := ∃ (q_s q2_s : Nat) (lw : Option (List pB)), h_s.2.2.2 7 9 = some q_s ∧ h_s.2.2.2 7 10 = some q2_s ∧ ((q_s = 14 ∧ q2_s = 17) ∨ (q_s = 17 ∧ q2_s = 14)) ∧ lawC q_s h_s.2.1 lw ∧ lawR h_s.2.1 lw
def inL (o k_s : Nat) : Prop := ((o = 14 ∨ o = 17) ∧ k_s ≤ 2) ∨ o = 15 ∨ o = 18 ∨ (o = 102 ∧ k_s = 14) ∨ (o = 110 ∧ k_s < 120)
theorem lawR_fr {f_s f1_s : Nat → Nat → Int32} {lw : Option (List pB)} (h14 : f1_s 102 14 = f_s 102 14) (h110 : ∀ k_s, k_s < 120 → f1_s 110 k_s = f_s 110 k_s) (hl : lawR f_s lw) : lawR f1_s lw := by
  match lw, hl with
  | none, hl =>
    show (f1_s 102 14).toInt = -1
    rw [h14]
    exact hl
  | some ls, hl =>
    obtain ⟨m_s, k_s, a1_s, a2, a3, a4⟩ := hl
    refine ⟨m_s, k_s, by rw [h14]; exact a1_s, a2, fun a_s ha_s => by rw [h110 a_s (by omega)]; exact a3 a_s ha_s, ?_⟩
    have e_s : (fun a_s : Nat => if (a_s : Int) < (m_s : Int) then (f1_s 110 a_s).toInt else -1) = fun a_s : Nat => if (a_s : Int) < (m_s : Int) then (f_s 110 a_s).toInt else -1 := by
      funext a_s
      by_cases c_s : (a_s : Int) < (m_s : Int)
      · rw [if_pos c_s, if_pos c_s, h110 a_s (by omega)]
      · rw [if_neg c_s, if_neg c_s]
    rw [e_s]
    exact a4
theorem sb1 {c_s : Int32} {n_s : Nat} (hc_s : c_s.toInt = (n_s : Int)) : (c_s - 1).toInt = (n_s : Int) - 1 := by
  have r_s := na_rng c_s
  rw [na_sub (by rw [n1_]; omega) (by rw [n1_]; omega), n1_, hc_s]
section PW_s
variable {F_s : Nat} {h_s : zH} {K_s : Int32 → zH → Prop} {nh ni nr : Nat} {lw : Option (List pB)} {x1_s x2_s : Int32} {f_s : Nat → Nat → Int32}
/-- what the reference's going may write: its own row, names, scratch -/
def frG (f_s f1_s : Nat → Nat → Int32) : Prop := ∀ a_s k_s, ¬ a_s = 111 → ¬ a_s = 112 → ¬ (a_s = 102 ∧ (15 ≤ k_s ∧ k_s ≤ 19 ∨ k_s = 22 ∨ k_s = 23)) → f1_s a_s k_s = f_s a_s k_s
theorem sp_181 (hk : hKn h_s) (hl : lawR f_s lw) (hp : lwP lw) (hc_s : tM nh ni nr f_s) (t1_s : ¬ (0 ≤ x1_s.toInt ∧ x1_s.toInt < (ni : Int) ∧ 0 ≤ x2_s.toInt ∧ x2_s.toInt < (nr : Int)) → K_s (-1) (h_s.1, f_s, h_s.2.2.1, h_s.2.2.2)) (t2_s : ∀ i_s r_s : Nat, x1_s.toInt = (i_s : Int) → x2_s.toInt = (r_s : Int) → i_s < ni → r_s < nr → ∀ f1_s, frG f_s f1_s → K_s (weV lw (owI f_s i_s) (f_s 103 (80 + r_s)) (f_s 103 (92 + r_s))) (h_s.1, f1_s, h_s.2.2.1, h_s.2.2.2)) : wF F_s 181 (0, [some (.ref 102), some (.int x1_s), some (.int x2_s)], [], (h_s.1, f_s, h_s.2.2.1, h_s.2.2.2)) (gI K_s) := by
  have e7_s := sb1 hc_s.2.1.2.1
  have e8 := sb1 hc_s.2.1.2.2
  have b_s := hc_s.1
  refine wF_le (Nat.le_succ F_s) (sg_181_0 (h_s := (h_s.1, f_s, h_s.2.2.1, h_s.2.2.2)) hk ?_)
  dsimp only
  rw [e7_s, e8]
  refine ⟨fun c_s => t1_s (by omega), fun c1_s => ⟨fun c_s => t1_s (by omega), fun c2_s => ⟨fun c_s => t1_s (by omega), fun c3_s => ⟨fun c_s => t1_s (by omega), fun c4_s => ?_⟩⟩⟩⟩
  have hi_s : x1_s.toInt.toNat < ni := by omega
  have hr : x2_s.toInt.toNat < nr := by omega
  have h1 : x1_s.toInt = (x1_s.toInt.toNat : Int) := by omega
  have h2 : x2_s.toInt = (x2_s.toInt.toNat : Int) := by omega
  generalize x1_s.toInt.toNat = i_s at hi_s h1
  generalize x2_s.toInt.toNat = r_s at hr h2
  refine sp_178 hk h1 (by omega) (tM_hd hc_s hi_s).1 (fun f1_s g1 g2 hk1 => ?_)
  have hB_s := tM_oB hc_s hi_s
  have l1 : lawR f1_s lw := lawR_fr (g2 _ _ (by omega)) (fun k_s _ => g2 _ _ (by omega)) hl
  refine sp_180 (h_s := (h_s.1, f1_s, h_s.2.2.1, h_s.2.2.2)) (o := owI f_s i_s) hk1 l1 hp h2 (by omega) g1 hB_s.2.2.2.2.2.2 (fun f2_s hf2 _ => ?_)
  rw [g2 _ _ (by omega), g2 _ _ (by omega)]
  exact t2_s i_s r_s h1 h2 hi_s hr f2_s (fun a_s k_s q1_s q2_s q3_s => by rw [hf2 a_s k_s q1_s (by omega)]; exact g2 a_s k_s q2_s)
theorem sp_102 {q_s : Nat} (hk : hKn h_s) (hr9 : h_s.2.2.2 7 9 = some q_s) (hm_s : q_s = 14 ∨ q_s = 17) (hl : lawC q_s f_s lw) (hp : lwP lw) (hc_s : tC nh ni nr f_s) (t1_s : ¬ (0 ≤ x1_s.toInt ∧ x1_s.toInt < (ni : Int) ∧ 0 ≤ x2_s.toInt ∧ x2_s.toInt < (nr : Int)) → K_s (-1) (h_s.1, f_s, h_s.2.2.1, h_s.2.2.2)) (t2_s : ∀ i_s r_s : Nat, x1_s.toInt = (i_s : Int) → x2_s.toInt = (r_s : Int) → i_s < ni → r_s < nr → ∀ f1_s, frW f_s f1_s → K_s (weV lw (owI f_s i_s) (f_s 103 (80 + r_s)) (f_s 103 (92 + r_s))) (h_s.1, f1_s, h_s.2.2.1, h_s.2.2.2)) : wF F_s 102 (0, [some (.ref 6), some (.int x1_s), some (.int x2_s)], [], (h_s.1, f_s, h_s.2.2.1, h_s.2.2.2)) (gI K_s) := by
  have e7_s := hc_s.2.1.2.1
  have e8 := hc_s.2.1.2.2
  have b_s := hc_s.1
  refine wF_le (Nat.le_succ F_s) (sg_102_0 (h_s := (h_s.1, f_s, h_s.2.2.1, h_s.2.2.2)) hk ?_)
  dsimp only
  rw [e7_s, e8]
  refine ⟨fun c_s => t1_s (by omega), fun c1_s => ⟨fun c2_s => ⟨fun c_s => t1_s (by omega), fun c3_s => ⟨fun c4_s => fun _ _ => ?_, fun c_s => t1_s (by omega)⟩⟩, fun c_s => t1_s (by omega)⟩⟩
  have z1 := azix (i := x1_s) (by omega)
  have z2 := azix (i := x2_s) (by omega)
  have hi_s : zix x1_s < ni := by omega
  have hr : zix x2_s < nr := by omega
  refine sp_23 (o := owI f_s (zix x1_s)) hk hr9 hm_s hl hp (by omega) (by omega) (tC_cw hc_s hi_s) (fun f1_s hf1 _ => ?_)
  have u1_s := (tC_road (r_s := zix x2_s) (j_s := 1) hc_s (by omega) (by omega)).1
  have u2_s := (tC_road (r_s := zix x2_s) (j_s := 2) hc_s (by omega) (by omega)).1
  have u1_s : f_s (28 + zix x2_s) 3 = f_s 103 (80 + zix x2_s) := u1_s
  have u2_s : f_s (28 + zix x2_s) 4 = f_s 103 (92 + zix x2_s) := u2_s
  rw [u1_s, u2_s]
  exact t2_s (zix x1_s) (zix x2_s) z1.symm z2.symm hi_s hr f1_s hf1
end PW_s
/-! AN IDEA GOES A ROAD: as told of numbers; class and reference. -/
def mn99 (x_s : Int32) : Int32 := if 99 < x_s.toInt then 99 else x_s
def oset (o : oI) (k_s : Nat) (v_s : Int32) : oI := fun j_s => if j_s = k_s then v_s else o j_s
theorem os_eq {o : oI} {k_s : Nat} {v_s : Int32} : oset o k_s v_s k_s = v_s := if_pos rfl
theorem os_ne {o : oI} {k_s j_s : Nat} {v_s : Int32} (h_s : ¬ j_s = k_s) : oset o k_s v_s j_s = o j_s := if_neg h_s
def stpO (lw : Option (List pB)) (st_s kd : Int32) (o : oI) : oI := oset o 2 (mn99 (o 2 + weV lw o st_s kd))
def gmO (lw : Option (List pB)) (st_s kd : Int32) : Nat → oI → Nat × oI
  | 0, o => (0, o)
  | n_s + 1, o => if 99 ≤ (o 2).toInt then (0, o) else ((gmO lw st_s kd n_s (stpO lw st_s kd o)).1 + 1, (gmO lw st_s kd n_s (stpO lw st_s kd o)).2)
def coolO (o : oI) : oI := oset o 3 (if 0 < (o 3).toInt then o 3 - 1 else o 3)
def goO (lw : Option (List pB)) (m_s : Nat) (st_s kd : Int32) (o : oI) : Nat × Bool × oI := if (o 2).toInt < 99 ∧ ¬ (9 - o 2 / 11).toInt < st_s.toInt then (if (gmO lw st_s kd m_s o).1 = m_s then (m_s, true, coolO (gmO lw st_s kd m_s o).2) else ((gmO lw st_s kd m_s o).1, false, (gmO lw st_s kd m_s o).2)) else (0, false, o)
theorem isub0 (x_s : Int32) : x_s - 0 = x_s := by
  have r_s := na_rng x_s
  exact Int32.toInt_inj.mp (by rw [na_sub (by rw [i0n]; omega) (by rw [i0n]; omega), i0n, Int.sub_zero])
theorem iadd0 (x_s : Int32) : x_s + 0 = x_s := by
  have r_s := na_rng x_s
  exact Int32.toInt_inj.mp (by rw [na_add (by rw [i0n]; omega) (by rw [i0n]; omega), i0n, Int.add_zero])
section GO_s
variable {lw : Option (List pB)} {st_s kd : Int32} {o o1 : oI}
theorem mn99_B {w_s v_s : Int32} (h0 : 0 ≤ w_s.toInt) (h1 : w_s.toInt ≤ 99) (h2 : 0 ≤ v_s.toInt) (h3 : v_s.toInt ≤ 9) : 0 ≤ (mn99 (w_s + v_s)).toInt ∧ (mn99 (w_s + v_s)).toInt ≤ 99 := by
  have e_s : (w_s + v_s).toInt = w_s.toInt + v_s.toInt := na_add (by omega) (by omega)
  unfold mn99
  by_cases c_s : 99 < (w_s + v_s).toInt
  · rw [if_pos c_s, i99_]
    omega
  · rw [if_neg c_s]
    omega
theorem mn99_c {w_s v_s : Int32} : (if w_s + v_s < 99 then w_s + v_s else 99) = mn99 (w_s + v_s) := by
  unfold mn99
  by_cases c_s : w_s + v_s < 99
  · have c1_s := (il_ _ _).mp c_s
    rw [i99_] at c1_s
    rw [if_pos c_s, if_neg (by omega)]
  · have c1_s : ¬ (w_s + v_s).toInt < 99 := fun u_s => c_s ((il_ _ _).mpr (by rw [i99_]; exact u_s))
    rw [if_neg c_s]
    by_cases c2_s : 99 < (w_s + v_s).toInt
    · rw [if_pos c2_s]
    · rw [if_neg c2_s]
      exact Int32.toInt_inj.mp (by rw [i99_]; omega)
theorem stp_B (hB_s : oB o) : oB (stpO lw st_s kd o) := by
  obtain ⟨b0, b1, b2, b3, b4, b5, b6⟩ := hB_s
  have w_s := clp_b (lawV lw (nm6 (o 0) (o 2) (o 3) (farO o) st_s kd))
  exact ⟨b0, b1, mn99_B b2.1 b2.2 w_s.1 w_s.2, b3, b4, b5, b6⟩
theorem cool_B (hB_s : oB o) : oB (coolO o) := by
  obtain ⟨b0, b1, b2, b3, b4, b5, b6⟩ := hB_s
  refine ⟨b0, b1, b2, ?_, b4, b5, b6⟩
  show 0 ≤ (if 0 < (o 3).toInt then o 3 - 1 else o 3).toInt ∧ (if 0 < (o 3).toInt then o 3 - 1 else o 3).toInt ≤ 9
  by_cases c_s : 0 < (o 3).toInt
  · rw [if_pos c_s, na_sub (by rw [n1_]; omega) (by rw [n1_]; omega), n1_]
    omega
  · rw [if_neg c_s]
    exact b3
theorem gm_B : ∀ (n_s : Nat) {o : oI}, oB o → oB (gmO lw st_s kd n_s o).2
  | 0, _, h_s => h_s
  | n_s + 1, o, h_s => by
    unfold gmO
    by_cases c_s : 99 ≤ (o 2).toInt
    · rw [if_pos c_s]
      exact h_s
    · rw [if_neg c_s]
      exact gm_B n_s (stp_B h_s)
theorem gm_le : ∀ (n_s : Nat) {o : oI}, (gmO lw st_s kd n_s o).1 ≤ n_s
  | 0, _ => Nat.le_refl 0
  | n_s + 1, o => by
    unfold gmO
    by_cases c_s : 99 ≤ (o 2).toInt
    · rw [if_pos c_s]
      exact Nat.zero_le _
    · rw [if_neg c_s]
      exact Nat.succ_le_succ (gm_le n_s)
theorem go_B {m_s : Nat} (hB_s : oB o) : oB (goO lw m_s st_s kd o).2.2 := by
  unfold goO
  split
  · split
    · exact cool_B (gm_B m_s hB_s)
    · exact gm_B m_s hB_s
  · exact hB_s
theorem go_le {m_s : Nat} : (goO lw m_s st_s kd o).1 ≤ m_s := by
  unfold goO
  split
  · split
    · exact Nat.le_refl m_s
    · exact gm_le m_s
  · exact Nat.zero_le m_s
theorem go_all {m_s : Nat} (hm_s : 1 ≤ m_s) : (goO lw m_s st_s kd o).2.1 = true ↔ (goO lw m_s st_s kd o).1 = m_s := by
  unfold goO
  split
  · split
    · exact ⟨fun _ => rfl, fun _ => rfl⟩
    · rename_i c_s
      exact ⟨fun w_s => absurd w_s Bool.false_ne_true, fun w_s => absurd w_s c_s⟩
  · exact ⟨fun w_s => absurd w_s Bool.false_ne_true, fun w_s => absurd w_s (Nat.ne_of_lt hm_s)⟩
theorem weV_mw (hp : lwP lw) (hw : lwm lw = false) (h_s : ∀ k_s, ¬ k_s = 2 → o k_s = o1 k_s) : weV lw o st_s kd = weV lw o1 st_s kd := by
  have ef : farO o = farO o1 := by
    unfold farO
    rw [h_s 6 (by omega), h_s 1 (by omega)]
  unfold weV
  rw [hp False (nm6 (o 0) (o 2) (o 3) (farO o) st_s kd) (nm6 (o1 0) (o1 2) (o1 3) (farO o1) st_s kd) (nm6_eq (h_s 0 (by omega)) (fun w_s => w_s.elim) (h_s 3 (by omega)) ef rfl rfl) (Or.inr hw)]
theorem stp_0 (hB_s : oB o) (h0 : (weV lw o st_s kd).toInt = 0) : stpO lw st_s kd o = o := by
  funext j_s
  unfold stpO oset
  by_cases e_s : j_s = 2
  · rw [if_pos e_s, i0_ h0, iadd0, e_s]
    unfold mn99
    rw [if_neg (by have := hB_s.2.2.1.2; omega)]
  · rw [if_neg e_s]
end GO_s
/-- what the class's going may write: worn, heat of the object; scratch -/
def frT (d_s : Nat) (f_s f1_s : Nat → Nat → Int32) : Prop := ∀ a_s k_s, ¬ a_s = 13 → ¬ a_s = 16 → ¬ a_s = 19 → ¬ (a_s = d_s ∧ (k_s = 2 ∨ k_s = 3)) → f1_s a_s k_s = f_s a_s k_s
theorem cool_c {x_s : Int32} (h0 : 0 ≤ x_s.toInt) : (if 0 < x_s - 1 then x_s - 1 else 0) = if 0 < x_s.toInt then x_s - 1 else x_s := by
  have r_s := na_rng x_s
  have e_s : (x_s - 1).toInt = x_s.toInt - 1 := by rw [na_sub (by rw [n1_]; omega) (by rw [n1_]; omega), n1_]
  by_cases c_s : 0 < x_s - 1
  · have c1_s := (iq4 _).mp c_s
    rw [if_pos c_s, if_pos (by omega)]
  · have c1_s : ¬ 0 < (x_s - 1).toInt := fun w_s => c_s ((iq4 _).mpr w_s)
    rw [if_neg c_s]
    by_cases c2_s : 0 < x_s.toInt
    · rw [if_pos c2_s]
      exact (i0_ (by omega)).symm
    · rw [if_neg c2_s]
      exact (i0_ (by omega)).symm
section GC
variable {h_s : zH} {K_s : Int32 → zH → Prop} {V : zH → Prop} {lw : Option (List pB)} {q_s d_s ro m_s : Nat} {st_s kd : Int32} {x1_s : Int32}
def dRo (d_s ro : Nat) : Prop := 20 ≤ d_s ∧ (d_s < 28 ∨ 40 ≤ d_s) ∧ 28 ≤ ro ∧ ro < 40
theorem dRo_n (h_s : dRo d_s ro) : (¬ d_s = 13 ∧ ¬ d_s = 16 ∧ ¬ d_s = 19) ∧ (¬ 7 = d_s ∧ ¬ 8 = d_s) ∧ ¬ ro = d_s ∧ (¬ ro = 13 ∧ ¬ ro = 16 ∧ ¬ ro = 19) := by
  unfold dRo at h_s
  omega
theorem frT_ro {f0_s f_s : Nat → Nat → Int32} (h_s : dRo d_s ro) (hf : frT d_s f0_s f_s) (k_s : Nat) : f_s ro k_s = f0_s ro k_s := by
  obtain ⟨_, _, h3, h4, h5, h6⟩ := dRo_n h_s
  exact hf ro k_s h4 h5 h6 (fun w_s => h3 w_s.1)
theorem frT_l {f0_s f_s : Nat → Nat → Int32} (h_s : dRo d_s ro) (hm_s : q_s = 14 ∨ q_s = 17) (hf : frT d_s f0_s f_s) (hl : lawC q_s f0_s lw) : lawC q_s f_s lw := by
  have h1 := h_s.1
  exact lawC_fr hm_s (fun a_s k_s ha_s => hf a_s k_s (by omega) (by omega) (by omega) (by omega)) hl
theorem frT_up {f0_s f_s : Nat → Nat → Int32} {j_s : Nat} {v_s : Int32} (hj : j_s = 2 ∨ j_s = 3) (hf : frT d_s f0_s f_s) : frT d_s f0_s (zup f_s d_s j_s v_s) := fun a_s k_s q1_s q2_s q3_s q4_s => by
  rw [zne_up (by omega)]
  exact hf a_s k_s q1_s q2_s q3_s q4_s
theorem cwO_up {f_s : Nat → Nat → Int32} {o : oI} {j_s : Nat} {v_s : Int32} (h7 : ¬ 7 = d_s) (h8 : ¬ 8 = d_s) (hj : ¬ j_s = 6) (hc_s : cwO f_s d_s o) : cwO (zup f_s d_s j_s v_s) d_s (oset o j_s v_s) := by
  refine ⟨fun k_s hk6 => ?_, ?_⟩
  · by_cases e_s : k_s = j_s
    · rw [e_s, zsame_up, os_eq]
    · rw [zne_up (fun w_s => e_s w_s.2), os_ne e_s]
      exact hc_s.1 k_s hk6
  · rw [zne_up (fun w_s => hj w_s.2.symm), zne_up (fun w_s => h7 w_s.1), zne_up (fun w_s => h8 w_s.1), os_ne (fun w_s => hj w_s.symm)]
    exact hc_s.2
theorem cwO_fr {f_s f1_s : Nat → Nat → Int32} {o : oI} (h_s : dRo d_s ro) (hf : frW f_s f1_s) (hc_s : cwO f_s d_s o) : cwO f1_s d_s o := by
  obtain ⟨⟨h1, h2, h3⟩, _⟩ := dRo_n h_s
  refine ⟨fun k_s hk6 => ?_, ?_⟩
  · rw [hf d_s k_s h1 h2 h3]
    exact hc_s.1 k_s hk6
  · rw [hf d_s 6 h1 h2 h3, hf 7 6 (by omega) (by omega) (by omega), hf 8 _ (by omega) (by omega) (by omega)]
    exact hc_s.2
theorem lawC_m0 {f_s : Nat → Nat → Int32} (gl : lawC q_s f_s lw) (w_s : (f_s q_s 0).toInt = 0) : lwm lw = false := by
  match lw, gl with
  | none, _ => rfl
  | some ls, gl =>
    have w2_s := gl.2.2.2.1
    show mTx ls = false
    cases hmx : mTx ls with
    | false => rfl
    | true =>
      rw [hmx] at w2_s
      rw [w2_s] at w_s
      exact absurd w_s (by decide)
theorem gm_s {n_s : Nat} {o : oI} (h_s : (o 2).toInt < 99) : gmO lw st_s kd (n_s + 1) o = ((gmO lw st_s kd n_s (stpO lw st_s kd o)).1 + 1, (gmO lw st_s kd n_s (stpO lw st_s kd o)).2) := by
  show (if 99 ≤ (o 2).toInt then (0, o) else ((gmO lw st_s kd n_s (stpO lw st_s kd o)).1 + 1, (gmO lw st_s kd n_s (stpO lw st_s kd o)).2)) = _
  rw [if_neg (by omega)]
theorem gm_9 {n_s : Nat} {o : oI} (h_s : ¬ (o 2).toInt < 99) : gmO lw st_s kd n_s o = (0, o) := by
  match n_s with
  | 0 => rfl
  | n_s + 1 =>
    show (if 99 ≤ (o 2).toInt then (0, o) else ((gmO lw st_s kd n_s (stpO lw st_s kd o)).1 + 1, (gmO lw st_s kd n_s (stpO lw st_s kd o)).2)) = _
    rw [if_pos (by omega)]
theorem tr24z {G_s : Nat × oI} {x3 x4_s : Int32} {F_s : Nat} {o : oI} {f0_s f_s : Nat → Nat → Int32} (hk : hKn h_s) (hd_s : dRo d_s ro) (hm1 : (f0_s ro 2).toInt = (m_s : Int)) (t_s : ∀ v_s f1_s, v_s.toInt = (G_s.1 : Int) → (∀ k_s, k_s < 6 → f1_s d_s k_s = (if G_s.1 = m_s then coolO G_s.2 else G_s.2) k_s) → frT d_s f0_s f1_s → K_s v_s (h_s.1, f1_s, h_s.2.2.1, h_s.2.2.2)) (h4 : x4_s.toInt = ((m_s + 1 : Nat) : Int)) (hc_s : cwO f_s d_s o) (hB_s : oB o) (hG : (m_s, o) = G_s) (hfr : frT d_s f0_s f_s) : wF F_s 24 (20, [some (.ref 7), some (.ref d_s), some (.ref ro), some (.int x3), some (.int x4_s)], [], (h_s.1, f_s, h_s.2.2.1, h_s.2.2.2)) (gI K_s) := by
  have c3_s : f_s d_s 3 = o 3 := hc_s.1 3 (by omega)
  have er := frT_ro hd_s hfr
  obtain ⟨_, _, nr, _⟩ := dRo_n hd_s
  have e1_s : ∀ v_s, zup f_s d_s 3 v_s ro 2 = f0_s ro 2 := fun v_s => by rw [zne_up (fun w_s => nr w_s.1)]; exact er 2
  refine wF_le (Nat.le_succ F_s) (sg_24_20 (h_s := (h_s.1, f_s, h_s.2.2.1, h_s.2.2.2)) hk ?_)
  dsimp only
  simp only [c3_s, er 2, hm1, e1_s]
  refine ⟨fun _ => ?_, fun c_s => absurd c_s (by omega)⟩
  rw [← hG] at t_s
  refine t_s _ _ hm1 (fun k_s hk6 => ?_) (frT_up (Or.inr rfl) hfr)
  rw [if_pos rfl]
  unfold coolO
  by_cases e_s : k_s = 3
  · subst e_s
    rw [zsame_up, os_eq]
    exact cool_c hB_s.2.2.2.1.1
  · rw [zne_up (fun w_s => e_s w_s.2), os_ne e_s]
    exact hc_s.1 k_s hk6
theorem tr24 {G_s : Nat × oI} {f0_s : Nat → Nat → Int32} (hk : hKn h_s) (hr : h_s.2.2.2 7 9 = some q_s) (hm_s : q_s = 14 ∨ q_s = 17) (hl : lawC q_s f0_s lw) (hp : lwP lw) (hd_s : dRo d_s ro) (hst : f0_s ro 3 = st_s) (hkd : f0_s ro 4 = kd) (hm1 : (f0_s ro 2).toInt = (m_s : Int)) (hm9 : m_s ≤ 9) (t_s : ∀ v_s f1_s, v_s.toInt = (G_s.1 : Int) → (∀ k_s, k_s < 6 → f1_s d_s k_s = (if G_s.1 = m_s then coolO G_s.2 else G_s.2) k_s) → frT d_s f0_s f1_s → K_s v_s (h_s.1, f1_s, h_s.2.2.1, h_s.2.2.2)) : ∀ (F_s n_s j_s : Nat) (x3 x4_s : Int32) (f_s : Nat → Nat → Int32) (o : oI), j_s + n_s = m_s → x4_s.toInt = ((j_s + 1 : Nat) : Int) → (0 < n_s → (o 2).toInt < 99 ∧ x3 = weV lw o st_s kd) → cwO f_s d_s o → oB o → (j_s + (gmO lw st_s kd n_s o).1, (gmO lw st_s kd n_s o).2) = G_s → frT d_s f0_s f_s → wF F_s 24 (20, [some (.ref 7), some (.ref d_s), some (.ref ro), some (.int x3), some (.int x4_s)], [], (h_s.1, f_s, h_s.2.2.1, h_s.2.2.2)) (gI K_s)
  | 0, _, _, _, _, _, _, _, _, _, _, _, _, _ => wF_zero
  | F_s + 1, 0, j_s, x3, x4_s, f_s, o, hj, h4, _, hc_s, hB_s, hG, hfr => by
    have hj : j_s = m_s := hj
    subst hj
    exact tr24z hk hd_s hm1 t_s h4 hc_s hB_s hG hfr
  | F_s + 1, n_s + 1, j_s, x3, x4_s, f_s, o, hj, h4, hn, hc_s, hB_s, hG, hfr => by
    obtain ⟨n1_s, n2_s⟩ := hn (Nat.succ_pos n_s)
    obtain ⟨_, ⟨d7_s, d8_s⟩, nr, nr2⟩ := dRo_n hd_s
    have er := frT_ro hd_s hfr
    have c2_s : f_s d_s 2 = o 2 := hc_s.1 2 (by omega)
    have hw0 : 0 ≤ x3.toInt := by
      rw [n2_s]
      exact (clp_b _).1
    have e4_s : (x4_s + 1).toInt = ((j_s + 1 + 1 : Nat) : Int) := by
      rw [in1_ (by omega), h4]
      omega
    rw [gm_s n1_s] at hG
    have hG2 : (j_s + 1 + (gmO lw st_s kd n_s (stpO lw st_s kd o)).1, (gmO lw st_s kd n_s (stpO lw st_s kd o)).2) = G_s := by
      rw [← hG]
      show (j_s + 1 + _, _) = (j_s + (_ + 1), _)
      rw [Nat.add_assoc, Nat.add_comm 1]
    have hB2 : oB (stpO lw st_s kd o) := stp_B hB_s
    have es : stpO lw st_s kd o = oset o 2 (mn99 (o 2 + x3)) := by
      rw [n2_s]
      rfl
    have hc2 : cwO (zup f_s d_s 2 (mn99 (o 2 + x3))) d_s (stpO lw st_s kd o) := by
      rw [es]
      exact cwO_up d7_s d8_s (by decide) hc_s
    have hfr2 : frT d_s f0_s (zup f_s d_s 2 (mn99 (o 2 + x3))) := frT_up (Or.inl rfl) hfr
    refine sg_24_20 (h_s := (h_s.1, f_s, h_s.2.2.1, h_s.2.2.2)) hk ?_
    dsimp only
    simp only [c2_s, er 2, hm1, mn99_c]
    clear hG hfr hc_s er c2_s
    generalize zup f_s d_s 2 (mn99 (o 2 + x3)) = g_s at hc2 hfr2
    have gd_s : g_s d_s 2 = (stpO lw st_s kd o) 2 := hc2.1 2 (by omega)
    have gr := frT_ro hd_s hfr2
    have gl : lawC q_s g_s lw := frT_l hd_s hm_s hfr2 hl
    simp only [gd_s, gr 2, hm1]
    have same_s : lwm lw = false → x3 = weV lw (stpO lw st_s kd o) st_s kd := fun w_s => by
      rw [n2_s]
      exact weV_mw hp w_s (fun k_s hk2 => (os_ne hk2).symm)
    have nxt_s : ∀ y3, (0 < n_s → ((stpO lw st_s kd o) 2).toInt < 99 ∧ y3 = weV lw (stpO lw st_s kd o) st_s kd) → wF F_s 24 (20, [some (.ref 7), some (.ref d_s), some (.ref ro), some (.int y3), some (.int (x4_s + 1))], [], (h_s.1, g_s, h_s.2.2.1, h_s.2.2.2)) (gI K_s) := fun y3 hy => tr24 hk hr hm_s hl hp hd_s hst hkd hm1 hm9 t_s F_s n_s (j_s + 1) y3 (x4_s + 1) g_s (stpO lw st_s kd o) (by omega) e4_s hy hc2 hB2 hG2 hfr2
    refine ⟨fun c_s => absurd c_s (by omega), fun _ => ⟨fun c2_s => fun q3_s r3 m3_s => ?_, fun c2_s => ⟨fun c8_s => ?_, fun c8_s => fun q9_s r9 m9_s => ?_⟩⟩⟩
    · have e3_s : q_s = q3_s := (Option.some.inj (r3.symm.trans hr)).symm
      subst e3_s
      refine ⟨fun c4_s => nxt_s x3 (fun _ => ⟨c2_s, same_s (lawC_m0 gl c4_s)⟩), fun c4_s => ⟨fun c5_s => ⟨fun c6_s => ?_, fun c6_s => nxt_s x3 (fun w_s => absurd w_s (by omega))⟩, fun c5_s => nxt_s x3 (fun _ => ⟨c2_s, ?_⟩)⟩⟩
      · refine sp_23 (h_s := (h_s.1, g_s, h_s.2.2.1, h_s.2.2.2)) (o := stpO lw st_s kd o) hk hr hm_s gl hp nr2.1 (dRo_n hd_s).1.1 hc2 (fun f1_s hf1 _ => ?_)
        rw [gr 3, gr 4, hst, hkd]
        exact tr24 hk hr hm_s hl hp hd_s hst hkd hm1 hm9 t_s F_s n_s (j_s + 1) _ (x4_s + 1) f1_s (stpO lw st_s kd o) (by omega) e4_s (fun _ => ⟨c2_s, rfl⟩) (cwO_fr hd_s hf1 hc2) hB2 hG2 (fun a_s k_s q1_s q2_s q3_s q4_s => (hf1 a_s k_s q1_s q2_s q3_s).trans (hfr2 a_s k_s q1_s q2_s q3_s q4_s))
      · have e0_s : (weV lw o st_s kd).toInt = 0 := by
          rw [← n2_s]
          omega
        rw [stp_0 hB_s e0_s]
        exact n2_s
    · rw [gm_9 c2_s] at hG2
      rw [← hG2] at t_s
      refine t_s x4_s g_s h4 (fun k_s hk6 => ?_) hfr2
      rw [if_neg (show ¬ j_s + 1 + 0 = m_s by omega)]
      exact hc2.1 k_s hk6
    · have e3_s : q_s = q9_s := (Option.some.inj (r9.symm.trans hr)).symm
      subst e3_s
      have e9_s : ¬ 0 < n_s := by omega
      exact ⟨fun _ => nxt_s x3 (fun w_s => absurd w_s e9_s), fun _ => ⟨fun _ => nxt_s x3 (fun w_s => absurd w_s e9_s), fun _ => nxt_s x3 (fun w_s => absurd w_s e9_s)⟩⟩
theorem sp_24 {F_s : Nat} {f_s : Nat → Nat → Int32} {o : oI} (hk : hKn h_s) (hr : h_s.2.2.2 7 9 = some q_s) (hm_s : q_s = 14 ∨ q_s = 17) (hl : lawC q_s f_s lw) (hp : lwP lw) (hd_s : dRo d_s ro) (hm1 : (f_s ro 2).toInt = (m_s : Int)) (hm9 : m_s ≤ 9) (hc_s : cwO f_s d_s o) (hB_s : oB o) (t_s : ∀ v_s f1_s, v_s.toInt = ((goO lw m_s (f_s ro 3) (f_s ro 4) o).1 : Int) → (∀ k_s, k_s < 6 → f1_s d_s k_s = (goO lw m_s (f_s ro 3) (f_s ro 4) o).2.2 k_s) → frT d_s f_s f1_s → K_s v_s (h_s.1, f1_s, h_s.2.2.1, h_s.2.2.2)) : wF F_s 24 (0, [some (.ref 7), some (.ref d_s), some (.ref ro), none, none], [], (h_s.1, f_s, h_s.2.2.1, h_s.2.2.2)) (gI K_s) := by
  have c2_s : f_s d_s 2 = o 2 := hc_s.1 2 (by omega)
  obtain ⟨dn, _, _, rn⟩ := dRo_n hd_s
  refine wF_le (Nat.le_succ F_s) (sg_24_0 (h_s := (h_s.1, f_s, h_s.2.2.1, h_s.2.2.2)) hk ?_)
  dsimp only
  rw [c2_s]
  have no_s : ¬ ((o 2).toInt < 99 ∧ ¬ (9 - o 2 / 11).toInt < (f_s ro 3).toInt) → K_s 0 (h_s.1, f_s, h_s.2.2.1, h_s.2.2.2) := fun w_s => by
    have e_s : goO lw m_s (f_s ro 3) (f_s ro 4) o = (0, false, o) := by
      unfold goO
      rw [if_neg w_s]
    rw [e_s] at t_s
    exact t_s 0 f_s rfl (fun k_s hk6 => hc_s.1 k_s hk6) (fun _ _ _ _ _ _ => rfl)
  refine ⟨fun c1_s => ⟨fun c3_s => no_s (fun w_s => w_s.2 c3_s), fun c3_s => ?_⟩, fun c1_s => no_s (fun w_s => c1_s w_s.1)⟩
  have eg : goO lw m_s (f_s ro 3) (f_s ro 4) o = (if (gmO lw (f_s ro 3) (f_s ro 4) m_s o).1 = m_s then (m_s, true, coolO (gmO lw (f_s ro 3) (f_s ro 4) m_s o).2) else ((gmO lw (f_s ro 3) (f_s ro 4) m_s o).1, false, (gmO lw (f_s ro 3) (f_s ro 4) m_s o).2)) := by
    unfold goO
    rw [if_pos ⟨c1_s, c3_s⟩]
  refine sp_23 (o := o) hk hr hm_s hl hp rn.1 dn.1 hc_s (fun f1_s hf1 hk1 => ?_)
  have f1d : ∀ a_s k_s, ¬ a_s = 13 → ¬ a_s = 16 → ¬ a_s = 19 → f1_s a_s k_s = f_s a_s k_s := hf1
  refine tr24 (h_s := (h_s.1, f1_s, h_s.2.2.1, h_s.2.2.2)) (f0_s := f1_s) (G_s := gmO lw (f_s ro 3) (f_s ro 4) m_s o) (st_s := f_s ro 3) (kd := f_s ro 4) (m_s := m_s) hk1 hr hm_s (lawC_fr hm_s (fun a_s k_s ha_s => f1d a_s k_s (by omega) (by omega) (by omega)) hl) hp hd_s (f1d _ _ rn.1 rn.2.1 rn.2.2) (f1d _ _ rn.1 rn.2.1 rn.2.2) (by rw [f1d _ _ rn.1 rn.2.1 rn.2.2]; exact hm1) hm9 (fun v_s f2_s g1 g2 g3_s => ?_) F_s m_s 0 _ 1 f1_s o (Nat.zero_add m_s) rfl (fun _ => ⟨c1_s, rfl⟩) ?_ hB_s ?_ (fun _ _ _ _ _ _ => rfl)
  · refine t_s v_s f2_s ?_ (fun k_s hk6 => ?_) (fun a_s k_s q1_s q2_s q3_s q4_s => by rw [g3_s a_s k_s q1_s q2_s q3_s q4_s]; exact f1d a_s k_s q1_s q2_s q3_s)
    · rw [eg, g1]
      split
      · rename_i w_s
        rw [w_s]
      · rfl
    · rw [eg, g2 k_s hk6]
      split
      · rfl
      · rfl
  · exact cwO_fr hd_s hf1 hc_s
  · rw [Nat.zero_add]
/-- the reference -/
theorem gr183 {r_s : Nat} {G_s : Nat × oI} {f0_s : Nat → Nat → Int32} (hk : hKn h_s) (hl : lawR f0_s lw) (hp : lwP lw) (hx : x1_s.toInt = (r_s : Int)) (hr : r_s < 12) (hst : f0_s 103 (80 + r_s) = st_s) (hkd : f0_s 103 (92 + r_s) = kd) (hm1 : (f0_s 103 (68 + r_s)).toInt = (m_s : Int)) (hm9 : m_s ≤ 9) (t_s : ∀ f1_s, (f1_s 102 22).toInt = (G_s.1 : Int) → (f1_s 102 23).toInt = (if G_s.1 = m_s then 1 else 0) → (∀ k_s, k_s < 7 → f1_s 112 k_s = (if G_s.1 = m_s then coolO G_s.2 else G_s.2) k_s) → frG f0_s f1_s → V (h_s.1, f1_s, h_s.2.2.1, h_s.2.2.2)) : ∀ (F_s n_s j_s : Nat) (l2 : Option Value) (f_s : Nat → Nat → Int32) (o : oI), j_s + n_s = m_s → (f_s 102 22).toInt = (j_s : Int) → (∀ k_s, k_s < 7 → f_s 112 k_s = o k_s) → oB o → (j_s + (gmO lw st_s kd n_s o).1, (gmO lw st_s kd n_s o).2) = G_s → frG f0_s f_s → wF F_s 183 (18, [some (.ref 102), some (.int x1_s), l2], [], (h_s.1, f_s, h_s.2.2.1, h_s.2.2.2)) (gV V)
  | 0, _, _, _, _, _, _, _, _, _, _, _ => wF_zero
  | F_s + 1, n_s, j_s, l2, f_s, o, hj, h22, ho, hB_s, hG, hfr => by
    have z68 : zix (68 + x1_s) = 68 + r_s := zxa (c_s := 68) (a_s := 68) rfl hx (by omega)
    have e68 : f_s 103 (68 + r_s) = f0_s 103 (68 + r_s) := hfr 103 _ (by omega) (by omega) (by omega)
    have o2 : f_s 112 2 = o 2 := ho 2 (by omega)
    have o3_s : f_s 112 3 = o 3 := ho 3 (by omega)
    refine sg_183_18 (h_s := (h_s.1, f_s, h_s.2.2.1, h_s.2.2.2)) hk ?_
    dsimp only
    rw [z68, e68, h22, hm1, o2, o3_s, isub0]
    refine fun _ => ⟨fun c2_s => ⟨fun c4_s => ?_, fun c4_s => ⟨fun c11_s => absurd c11_s (by omega), fun c11_s => ?_⟩⟩, fun c2_s => ⟨fun c20_s => ?_, fun c20_s => absurd (show (j_s : Int) = (m_s : Int) by omega) c20_s⟩⟩
    · obtain ⟨n', rfl⟩ := Nat.exists_eq_succ_of_ne_zero (show n_s ≠ 0 by omega)
      have eg : gmO lw st_s kd (n' + 1) o = ((gmO lw st_s kd n' (stpO lw st_s kd o)).1 + 1, (gmO lw st_s kd n' (stpO lw st_s kd o)).2) := by
        show (if 99 ≤ (o 2).toInt then (0, o) else ((gmO lw st_s kd n' (stpO lw st_s kd o)).1 + 1, (gmO lw st_s kd n' (stpO lw st_s kd o)).2)) = _
        rw [if_neg (by omega)]
      have eg : gmO lw st_s kd n'.succ o = _ := eg
      rw [eg] at hG
      have hG2 : (j_s + 1 + (gmO lw st_s kd n' (stpO lw st_s kd o)).1, (gmO lw st_s kd n' (stpO lw st_s kd o)).2) = G_s := by
        rw [← hG]
        show (j_s + 1 + _, _) = (j_s + (_ + 1), _)
        rw [Nat.add_assoc, Nat.add_comm 1]
      have l1 : lawR f_s lw := lawR_fr (hfr _ _ (by omega) (by omega) (by omega)) (fun k_s _ => hfr _ _ (by omega) (by omega) (by omega)) hl
      refine sp_180 (o := o) hk l1 hp hx hr ho hB_s.2.2.2.2.2.2 (fun f1_s hf1 _ => ?_)
      have f1d : ∀ a_s k_s, ¬ a_s = 111 → ¬ (a_s = 102 ∧ 15 ≤ k_s ∧ k_s ≤ 19) → f1_s a_s k_s = f_s a_s k_s := hf1
      rw [hfr 103 (80 + r_s) (by omega) (by omega) (by omega), hfr 103 (92 + r_s) (by omega) (by omega) (by omega), hst, hkd]
      have e22_s : (f1_s 102 22 + 1).toInt = ((j_s + 1 : Nat) : Int) := by
        rw [f1d 102 22 (by omega) (by omega), in1_ (by omega), h22]
        omega
      have nxt_s : ∀ v_s, v_s = mn99 (o 2 + weV lw o st_s kd) → ∀ l : Option Value, wF F_s 183 (18, [some (.ref 102), some (.int x1_s), l], [], (h_s.1, zup (zup f1_s 112 2 v_s) 102 22 (f1_s 102 22 + 1), h_s.2.2.1, h_s.2.2.2)) (gV V) := by
        intro v_s hv l
        refine gr183 (f0_s := f0_s) hk hl hp hx hr hst hkd hm1 hm9 t_s F_s n' (j_s + 1) l _ (stpO lw st_s kd o) (by omega) (by rw [zsame_up]; exact e22_s) (fun k_s hk7 => ?_) (stp_B hB_s) hG2 (fun a_s k_s q1_s q2_s q3_s => ?_)
        · rw [zne_up (by omega)]
          by_cases e_s : k_s = 2
          · subst e_s
            rw [zsame_up, hv]
            exact os_eq.symm
          · rw [zne_up (by omega), f1d 112 k_s (by omega) (by omega), ho k_s hk7]
            exact (os_ne e_s).symm
        · rw [zne_up (by omega), zne_up (by omega), f1d a_s k_s q1_s (by omega)]
          exact hfr a_s k_s q1_s q2_s q3_s
      refine ⟨fun c_s => nxt_s 99 (by unfold mn99; rw [if_pos c_s]) _, fun c_s => nxt_s _ (by unfold mn99; rw [if_neg c_s]) _⟩
    · obtain ⟨n', rfl⟩ := Nat.exists_eq_succ_of_ne_zero (show n_s ≠ 0 by omega)
      have eG : G_s = (j_s, o) := by
        rw [← hG]
        show (j_s + (if 99 ≤ (o 2).toInt then (0, o) else _).1, (if 99 ≤ (o 2).toInt then (0, o) else _).2) = _
        rw [if_pos (by omega)]
        rfl
      refine t_s _ ?_ ?_ (fun k_s hk7 => ?_) (fun a_s k_s q1_s q2_s q3_s => ?_)
      · rw [zne_up (by omega), zne_up (by omega), eG]
        exact h22
      · rw [zne_up (by omega), zsame_up, eG, if_neg (show ¬ j_s = m_s by omega)]
        rfl
      · rw [eG, if_neg (show ¬ j_s = m_s by omega)]
        show _ = o k_s
        by_cases e_s : k_s = 3
        · subst e_s
          exact zsame_up
        · rw [zne_up (by omega), zne_up (by omega)]
          exact ho k_s hk7
      · rw [zne_up (by omega), zne_up (by omega)]
        exact hfr a_s k_s q1_s q2_s q3_s
    · have e0_s : n_s = 0 := by omega
      subst e0_s
      have eG : G_s = (m_s, o) := by
        rw [← hG]
        show (j_s + 0, o) = (m_s, o)
        rw [hj]
      have fin_s : ∀ v_s, v_s = (if 0 < (o 3).toInt then o 3 - 1 else o 3) → V (h_s.1, zup (zup f_s 102 23 1) 112 3 v_s, h_s.2.2.1, h_s.2.2.2) := by
        intro v_s hv
        refine t_s _ ?_ ?_ (fun k_s hk7 => ?_) (fun a_s k_s q1_s q2_s q3_s => ?_)
        · rw [zne_up (by omega), zne_up (by omega), eG, h22]
          omega
        · rw [zne_up (by omega), zsame_up, eG, if_pos rfl]
          rfl
        · rw [eG, if_pos rfl]
          show _ = oset o 3 (if 0 < (o 3).toInt then o 3 - 1 else o 3) k_s
          by_cases e_s : k_s = 3
          · subst e_s
            rw [zsame_up, os_eq]
            exact hv
          · rw [zne_up (by omega), zne_up (by omega), os_ne e_s]
            exact ho k_s hk7
        · rw [zne_up (by omega), zne_up (by omega)]
          exact hfr a_s k_s q1_s q2_s q3_s
      exact ⟨fun c_s => fin_s _ (by rw [if_pos c_s]), fun c_s => fin_s _ (by rw [if_neg c_s])⟩
theorem sp_183 {F_s r_s : Nat} {f_s : Nat → Nat → Int32} {o : oI} (hk : hKn h_s) (hl : lawR f_s lw) (hp : lwP lw) (hx : x1_s.toInt = (r_s : Int)) (hr : r_s < 12) (hm1 : (f_s 103 (68 + r_s)).toInt = (m_s : Int)) (hm9 : m_s ≤ 9) (ho : ∀ k_s, k_s < 7 → f_s 112 k_s = o k_s) (hB_s : oB o) (t_s : ∀ f1_s, (f1_s 102 22).toInt = ((goO lw m_s (f_s 103 (80 + r_s)) (f_s 103 (92 + r_s)) o).1 : Int) → (f1_s 102 23).toInt = (if (goO lw m_s (f_s 103 (80 + r_s)) (f_s 103 (92 + r_s)) o).2.1 = true then 1 else 0) → (∀ k_s, k_s < 7 → f1_s 112 k_s = (goO lw m_s (f_s 103 (80 + r_s)) (f_s 103 (92 + r_s)) o).2.2 k_s) → frG f_s f1_s → V (h_s.1, f1_s, h_s.2.2.1, h_s.2.2.2)) : wF F_s 183 (0, [some (.ref 102), some (.int x1_s), none], [], (h_s.1, f_s, h_s.2.2.1, h_s.2.2.2)) (gV V) := by
  have z80 : zix (80 + x1_s) = 80 + r_s := zxa (c_s := 80) (a_s := 80) rfl hx (by omega)
  have o2 : f_s 112 2 = o 2 := ho 2 (by omega)
  refine wF_le (Nat.le_succ F_s) (sg_183_0 (h_s := (h_s.1, f_s, h_s.2.2.1, h_s.2.2.2)) hk ?_)
  dsimp only
  rw [z80, o2]
  generalize hg : zup (zup f_s 102 22 0) 102 23 0 = g_s
  have gf : ∀ a_s k_s, ¬ (a_s = 102 ∧ (k_s = 22 ∨ k_s = 23)) → g_s a_s k_s = f_s a_s k_s := fun a_s k_s ha_s => by rw [← hg, zne_up (by omega), zne_up (by omega)]
  have g22 : (g_s 102 22).toInt = 0 := by
    rw [← hg, zne_up (by omega), zsame_up]
    rfl
  have g23 : (g_s 102 23).toInt = 0 := by
    rw [← hg, zsame_up]
    rfl
  have fg : frG f_s g_s := fun a_s k_s _ _ q3_s => gf a_s k_s (by omega)
  have no_s : ¬ ((o 2).toInt < 99 ∧ ¬ (9 - o 2 / 11).toInt < (f_s 103 (80 + r_s)).toInt) → V (h_s.1, g_s, h_s.2.2.1, h_s.2.2.2) := fun w_s => by
    have e_s : goO lw m_s (f_s 103 (80 + r_s)) (f_s 103 (92 + r_s)) o = (0, false, o) := by
      unfold goO
      rw [if_neg w_s]
    rw [e_s] at t_s
    exact t_s g_s g22 (by rw [g23]; rfl) (fun k_s hk7 => by rw [gf 112 k_s (by omega)]; exact ho k_s hk7) fg
  refine ⟨fun c1_s => fun _ => ⟨fun c3_s => no_s (fun w_s => w_s.2 c3_s), fun c3_s => ?_⟩, fun c1_s => no_s (fun w_s => c1_s w_s.1)⟩
  have eg : goO lw m_s (f_s 103 (80 + r_s)) (f_s 103 (92 + r_s)) o = (if (gmO lw (f_s 103 (80 + r_s)) (f_s 103 (92 + r_s)) m_s o).1 = m_s then (m_s, true, coolO (gmO lw (f_s 103 (80 + r_s)) (f_s 103 (92 + r_s)) m_s o).2) else ((gmO lw (f_s 103 (80 + r_s)) (f_s 103 (92 + r_s)) m_s o).1, false, (gmO lw (f_s 103 (80 + r_s)) (f_s 103 (92 + r_s)) m_s o).2)) := by
    unfold goO
    rw [if_pos ⟨c1_s, c3_s⟩]
  refine gr183 (f0_s := g_s) (r_s := r_s) (G_s := gmO lw (f_s 103 (80 + r_s)) (f_s 103 (92 + r_s)) m_s o) (st_s := f_s 103 (80 + r_s)) (kd := f_s 103 (92 + r_s)) (m_s := m_s) hk (lawR_fr (gf _ _ (by omega)) (fun k_s _ => gf _ _ (by omega)) hl) hp hx hr (gf _ _ (by omega)) (gf _ _ (by omega)) (by rw [gf _ _ (by omega)]; exact hm1) hm9 (fun f2_s g1 g2 g3_s g4 => ?_) F_s m_s 0 none g_s o (Nat.zero_add m_s) g22 (fun k_s hk7 => by rw [gf 112 k_s (by omega)]; exact ho k_s hk7) hB_s (by rw [Nat.zero_add]) (fun _ _ _ _ _ => rfl)
  refine t_s f2_s ?_ ?_ (fun k_s hk7 => ?_) (fun a_s k_s q1_s q2_s q3_s => by rw [g4 a_s k_s q1_s q2_s q3_s]; exact fg a_s k_s q1_s q2_s q3_s)
  · rw [eg, g1]
    split
    · rename_i w_s
      rw [w_s]
    · rfl
  · rw [eg, g2]
    by_cases w_s : (gmO lw (f_s 103 (80 + r_s)) (f_s 103 (92 + r_s)) m_s o).1 = m_s
    · rw [if_pos w_s, if_pos w_s]
      rfl
    · rw [if_neg w_s, if_neg w_s]
      rfl
  · rw [eg, g3_s k_s hk7]
    split
    · rfl
    · rfl
end GC
