/-! BY HOW MUCH an idea is worn: class and reference. -/
def clp (v_s : Int32) : Int32 := if v_s.toInt < 0 then 0 else if 9 < v_s.toInt then 9 else v_s
theorem i9_ : (9 : Int32).toInt = 9 := rfl
theorem i99_ : (99 : Int32).toInt = 99 := rfl
theorem clp_c (v_s : Int32) : (if 0 < (if v_s < 9 then v_s else 9) then (if v_s < 9 then v_s else 9) else 0) = clp v_s := by
  unfold clp
  by_cases c_s : v_s < 9
  · rw [if_pos c_s]
    have c1_s := (il_ v_s 9).mp c_s
    rw [i9_] at c1_s
    by_cases c2_s : (0 : Int32) < v_s
    · have c3_s := (iq4 v_s).mp c2_s
      rw [if_pos c2_s, if_neg (by omega), if_neg (by omega)]
    · have c3_s : ¬ 0 < v_s.toInt := fun w_s => c2_s ((iq4 v_s).mpr w_s)
      rw [if_neg c2_s]
      by_cases c4_s : v_s.toInt < 0
      · rw [if_pos c4_s]
      · rw [if_neg c4_s, if_neg (by omega)]
        exact (i0_ (x_s := v_s) (by omega)).symm
  · rw [if_neg c_s, if_pos (by decide)]
    have c1_s : ¬ v_s.toInt < 9 := fun w_s => c_s ((il_ v_s 9).mpr (by rw [i9_]; exact w_s))
    rw [if_neg (by omega)]
    by_cases c2_s : 9 < v_s.toInt
    · rw [if_pos c2_s]
    · rw [if_neg c2_s]
      exact Int32.toInt_inj.mp (by rw [i9_]; omega)
theorem clp_k {K_s : Int32 → Prop} {v_s : Int32} (t_s : K_s (clp v_s)) : (v_s.toInt < 0 → K_s 0) ∧ (¬ v_s.toInt < 0 → ((9 < v_s.toInt → K_s 9) ∧ (¬ 9 < v_s.toInt → K_s v_s))) := by
  unfold clp at t_s
  refine ⟨fun c_s => ?_, fun c_s => ⟨fun c1_s => ?_, fun c1_s => ?_⟩⟩
  · rw [if_pos c_s] at t_s
    exact t_s
  · rw [if_neg c_s, if_pos c1_s] at t_s
    exact t_s
  · rw [if_neg c_s, if_neg c1_s] at t_s
    exact t_s
theorem clp_b (v_s : Int32) : 0 ≤ (clp v_s).toInt ∧ (clp v_s).toInt ≤ 9 := by
  unfold clp
  by_cases c_s : v_s.toInt < 0
  · rw [if_pos c_s]
    decide
  · rw [if_neg c_s]
    by_cases c1_s : 9 < v_s.toInt
    · rw [if_pos c1_s]
      decide
    · rw [if_neg c1_s]
      omega
def nm6 (a0_s a1_s a2 a3 a4 a5 : Int32) (k_s : Nat) : Int32 := if k_s = 0 then a0_s else if k_s = 1 then a1_s else if k_s = 2 then a2 else if k_s = 3 then a3 else if k_s = 4 then a4 else a5
def absI (x_s : Int32) : Int32 := if x_s < 0 then -x_s else x_s
/-- an idea in thought: METAL, SHAPE, WORN, HEAT, CAST, HEATED, FORM of its HEAD (-1: none) -/
abbrev oI : Type := Nat → Int32
def farO (o : oI) : Int32 := if (o 6).toInt < 0 then 9 else absI (o 1 - o 6)
def weV (lw : Option (List pB)) (o : oI) (st_s kd : Int32) : Int32 := clp (lawV lw (nm6 (o 0) (o 2) (o 3) (farO o) st_s kd))
theorem nm6_eq {b_s : Prop} {n_s : Nat → Int32} {a0_s a1_s a2 a3 a4 a5 : Int32} (h0 : n_s 0 = a0_s) (h1 : b_s → n_s 1 = a1_s) (h2 : n_s 2 = a2) (h3 : n_s 3 = a3) (h4 : n_s 4 = a4) (h5 : n_s 5 = a5) : eqN b_s n_s (nm6 a0_s a1_s a2 a3 a4 a5) := by
  intro k_s hk hb_s
  have hk2 : k_s = 0 ∨ k_s = 1 ∨ k_s = 2 ∨ k_s = 3 ∨ k_s = 4 ∨ k_s = 5 := by omega
  rcases hk2 with e_s | e_s | e_s | e_s | e_s | e_s
  · subst e_s
    exact h0
  · subst e_s
    exact h1 (hb_s rfl)
  · subst e_s
    exact h2
  · subst e_s
    exact h3
  · subst e_s
    exact h4
  · subst e_s
    exact h5
/-- an object of the class is such an idea -/
def cwO (f_s : Nat → Nat → Int32) (d_s : Nat) (o : oI) : Prop := (∀ k_s, k_s < 6 → f_s d_s k_s = o k_s) ∧ (((f_s d_s 6).toInt < 0 ∧ o 6 = -1) ∨ (0 ≤ (f_s d_s 6).toInt ∧ (f_s d_s 6).toInt < (f_s 7 6).toInt ∧ 0 ≤ (o 6).toInt ∧ o 6 = f_s 8 (zix (f_s d_s 6))))
/-- what working a law out may write -/
def frW (f_s f1_s : Nat → Nat → Int32) : Prop := ∀ o k_s, ¬ o = 13 → ¬ o = 16 → ¬ o = 19 → f1_s o k_s = f_s o k_s
section WR
variable {F_s : Nat} {h_s : zH} {K_s : Int32 → zH → Prop} {V : zH → Prop} {lw : Option (List pB)} {q_s d_s ro : Nat} {o : oI} {f_s : Nat → Nat → Int32} {st_s kd x1_s x2_s : Int32}
theorem wear69 {n0_s n1_s n2_s n3_s : Int32} (hk : hKn h_s) (hr : h_s.2.2.2 7 9 = some q_s) (hl : lawC q_s f_s lw) (hp : lwP lw) (h1 : ¬ ro = 13) (e0_s : f_s 13 0 = n0_s) (e1_s : f_s 13 1 = n1_s) (e2_s : f_s 13 2 = n2_s) (e3_s : f_s 13 3 = n3_s) (t_s : ∀ f1_s, frW f_s f1_s → K_s (clp (lawV lw (nm6 n0_s n1_s n2_s n3_s (f_s ro 3) (f_s ro 4)))) (h_s.1, f1_s, h_s.2.2.1, h_s.2.2.2)) : wF F_s 23 (69, [some (.ref 7), some (.ref d_s), some (.ref ro)], [], (h_s.1, f_s, h_s.2.2.1, h_s.2.2.2)) (gI K_s) := by
  refine wF_le (Nat.le_succ F_s) (sg_23_69 (h_s := (h_s.1, f_s, h_s.2.2.1, h_s.2.2.2)) hk (fun q3_s r3 m3_s => ?_))
  have r3 : h_s.2.2.2 7 9 = some q3_s := r3
  rw [hr] at r3
  cases r3
  dsimp only
  have e5_s : zup f_s 13 4 (f_s ro 3) ro 4 = f_s ro 4 := zne_up (by omega)
  rw [e5_s]
  have hl2 : lawC q_s (zup (zup f_s 13 4 (f_s ro 3)) 13 5 (f_s ro 4)) lw := by
    have g_s : ∀ o k_s, ¬ o = 13 → zup (zup f_s 13 4 (f_s ro 3)) 13 5 (f_s ro 4) o k_s = f_s o k_s := fun o k_s ho => by rw [zne_up (by omega), zne_up (by omega)]
    match lw, hl with
    | none, hl => exact ⟨by rw [g_s q_s 2 (by omega)]; exact hl.1, by rw [g_s q_s 0 (by omega)]; exact hl.2⟩
    | some ls, hl =>
      obtain ⟨a1_s, a2, a3, a4, a5, a6⟩ := hl
      exact ⟨by rw [g_s q_s 2 (by omega)]; exact a1_s, a2, fun j_s c_s hj => by rw [g_s (q_s + 1) j_s (by omega)]; exact a3 j_s c_s hj, by rw [g_s q_s 0 (by omega)]; exact a4, a5, a6⟩
  refine sp_58 (h_s := (h_s.1, zup (zup f_s 13 4 (f_s ro 3)) 13 5 (f_s ro 4), h_s.2.2.1, h_s.2.2.2)) m3_s hk hl2 (fun f1_s hf1 _ => ?_)
  rw [clp_c]
  have ev_s : lawV lw (fun k_s => zup (zup f_s 13 4 (f_s ro 3)) 13 5 (f_s ro 4) 13 k_s) = lawV lw (nm6 n0_s n1_s n2_s n3_s (f_s ro 3) (f_s ro 4)) := by
    refine hp True _ _ (nm6_eq ?_ (fun _ => ?_) ?_ ?_ ?_ ?_) (Or.inl trivial)
    · show zup (zup f_s 13 4 (f_s ro 3)) 13 5 (f_s ro 4) 13 0 = n0_s
      rw [zne_up (by omega), zne_up (by omega)]
      exact e0_s
    · show zup (zup f_s 13 4 (f_s ro 3)) 13 5 (f_s ro 4) 13 1 = n1_s
      rw [zne_up (by omega), zne_up (by omega)]
      exact e1_s
    · show zup (zup f_s 13 4 (f_s ro 3)) 13 5 (f_s ro 4) 13 2 = n2_s
      rw [zne_up (by omega), zne_up (by omega)]
      exact e2_s
    · show zup (zup f_s 13 4 (f_s ro 3)) 13 5 (f_s ro 4) 13 3 = n3_s
      rw [zne_up (by omega), zne_up (by omega)]
      exact e3_s
    · show zup (zup f_s 13 4 (f_s ro 3)) 13 5 (f_s ro 4) 13 4 = f_s ro 3
      rw [zne_up (by omega), zsame_up]
    · exact zsame_up
  rw [ev_s]
  refine t_s f1_s (fun o k_s g1 g2 g3_s => ?_)
  rw [hf1 o k_s (by omega), zne_up (by omega), zne_up (by omega)]
theorem lawC_fr {f1_s : Nat → Nat → Int32} (hm_s : q_s = 14 ∨ q_s = 17) (hf : ∀ o k_s, (o = 14 ∨ o = 15 ∨ o = 17 ∨ o = 18) → f1_s o k_s = f_s o k_s) (hl : lawC q_s f_s lw) : lawC q_s f1_s lw := by
  match lw, hl with
  | none, hl => exact ⟨by rw [hf q_s 2 (by omega)]; exact hl.1, by rw [hf q_s 0 (by omega)]; exact hl.2⟩
  | some ls, hl =>
    obtain ⟨a1_s, a2, a3, a4, a5, a6⟩ := hl
    exact ⟨by rw [hf q_s 2 (by omega)]; exact a1_s, a2, fun j_s c_s hj => by rw [hf (q_s + 1) j_s (by omega)]; exact a3 j_s c_s hj, by rw [hf q_s 0 (by omega)]; exact a4, a5, a6⟩
/-- wearOf -/
theorem sp_23 (hk : hKn h_s) (hr : h_s.2.2.2 7 9 = some q_s) (hm_s : q_s = 14 ∨ q_s = 17) (hl : lawC q_s f_s lw) (hp : lwP lw) (h1 : ¬ ro = 13) (h2 : ¬ d_s = 13) (hc_s : cwO f_s d_s o) (t_s : ∀ f1_s, frW f_s f1_s → K_s (weV lw o (f_s ro 3) (f_s ro 4)) (h_s.1, f1_s, h_s.2.2.1, h_s.2.2.2)) : wF F_s 23 (0, [some (.ref 7), some (.ref d_s), some (.ref ro)], [], (h_s.1, f_s, h_s.2.2.1, h_s.2.2.2)) (gI K_s) := by
  obtain ⟨c1_s, c2_s⟩ := hc_s
  refine wF_le (Nat.le_succ F_s) (sg_23_0 (h_s := (h_s.1, f_s, h_s.2.2.1, h_s.2.2.2)) hk ?_)
  dsimp only
  have r2 : ∀ v_s k_s, zup f_s 13 0 v_s d_s k_s = f_s d_s k_s := fun v_s k_s => zne_up (by omega)
  have r3 : ∀ v_s w_s k_s, zup (zup f_s 13 0 v_s) 13 1 w_s d_s k_s = f_s d_s k_s := fun v_s w_s k_s => by rw [zne_up (by omega), zne_up (by omega)]
  rw [r2, r3, c1_s 0 (by omega), c1_s 2 (by omega), c1_s 3 (by omega)]
  generalize hg : zup (zup (zup f_s 13 0 (o 0)) 13 1 (o 2)) 13 2 (o 3) = g_s
  have gf : ∀ a_s k_s, ¬ a_s = 13 → g_s a_s k_s = f_s a_s k_s := fun a_s k_s ha_s => by rw [← hg, zne_up (by omega), zne_up (by omega), zne_up (by omega)]
  have g0 : g_s 13 0 = o 0 := by rw [← hg, zne_up (by omega), zne_up (by omega), zsame_up]
  have g1 : g_s 13 1 = o 2 := by rw [← hg, zne_up (by omega), zsame_up]
  have g2 : g_s 13 2 = o 3 := by rw [← hg, zsame_up]
  have hl2 : lawC q_s g_s lw := lawC_fr hm_s (fun a_s k_s ha_s => gf a_s k_s (by omega)) hl
  have fin_s : ∀ v_s, v_s = farO o → wF F_s 23 (69, [some (.ref 7), some (.ref d_s), some (.ref ro)], [], (h_s.1, zup g_s 13 3 v_s, h_s.2.2.1, h_s.2.2.2)) (gI K_s) := by
    intro v_s hv
    refine wear69 (n0_s := o 0) (n1_s := o 2) (n2_s := o 3) (n3_s := v_s) hk hr (lawC_fr hm_s (fun a_s k_s ha_s => by rw [zne_up (by omega)]) hl2) hp h1 (by rw [zne_up (by omega)]; exact g0) (by rw [zne_up (by omega)]; exact g1) (by rw [zne_up (by omega)]; exact g2) zsame_up (fun f1_s hf1 => ?_)
    rw [zne_up (by omega), zne_up (by omega), gf ro 3 h1, gf ro 4 h1, hv]
    refine t_s f1_s (fun a_s k_s q1_s q2_s q3_s => ?_)
    rw [hf1 a_s k_s q1_s q2_s q3_s, zne_up (by omega), gf a_s k_s q1_s]
  refine wF_le (Nat.le_succ F_s) (sg_23_30 (h_s := (h_s.1, g_s, h_s.2.2.1, h_s.2.2.2)) hk ?_)
  dsimp only
  have e7_s : g_s 7 6 = f_s 7 6 := gf 7 6 (by omega)
  have e8 : ∀ k_s, g_s 8 k_s = f_s 8 k_s := fun k_s => gf 8 k_s (by omega)
  have e1_s : f_s d_s 1 = o 1 := c1_s 1 (by omega)
  simp only [gf d_s 6 h2, gf d_s 1 h2, e7_s, e8, e1_s]
  rcases c2_s with ⟨a1_s, a2⟩ | ⟨a1_s, a2, a3, a4⟩
  · have ef : farO o = 9 := by
      unfold farO
      rw [a2]
      rfl
    exact ⟨fun _ => fin_s 9 ef.symm, fun c_s => absurd a1_s c_s⟩
  · refine ⟨fun c_s => absurd c_s (by omega), fun _ => ⟨fun _ => fun _ => fin_s _ ?_, fun c_s => absurd a2 c_s⟩⟩
    have ef : farO o = absI (o 1 - o 6) := by
      unfold farO
      rw [if_neg (by omega)]
    rw [ef, a4]
    rfl
/-- zix of a sum -/
theorem zxa {c_s x_s : Int32} {a_s r_s : Nat} (hc_s : c_s.toInt = (a_s : Int)) (hx : x_s.toInt = (r_s : Int)) (hb_s : a_s + r_s ≤ 3072) : zix (c_s + x_s) = a_s + r_s := by
  have e_s : (c_s + x_s).toInt = ((a_s + r_s : Nat) : Int) := by
    rw [na_add (by omega) (by omega)]
    omega
  have z_s := azix (i := c_s + x_s) (by omega)
  omega
/-- what working the text out may write in the reference -/
def frX (f_s f1_s : Nat → Nat → Int32) : Prop := ∀ a_s k_s, ¬ a_s = 111 → ¬ (a_s = 102 ∧ 15 ≤ k_s ∧ k_s ≤ 19) → f1_s a_s k_s = f_s a_s k_s
theorem wrk180 {n_s : Nat → Int32} {ls : List pB} (hk : hKn h_s) (hl : lawR f_s (some ls)) (hp : lwP (some ls)) (hn : ∀ k_s, k_s < 6 → f_s 111 k_s = n_s k_s) (t_s : ∀ f1_s, frX f_s f1_s → K_s (lawV (some ls) n_s) (h_s.1, f1_s, h_s.2.2.1, h_s.2.2.2)) : wF F_s 176 (0, [some (.ref 102), some (.int 0), some (.int (f_s 102 14)), none, none, none, none, none], [], (h_s.1, f_s, h_s.2.2.1, h_s.2.2.2)) (gI K_s) := by
  obtain ⟨m_s, k_s, a1_s, a2, a3, a4⟩ := hl
  refine sp_176 (tk := fun a_s => if (a_s : Int) < (m_s : Int) then (f_s 110 a_s).toInt else -1) (n_s := m_s) (f_s := f_s) hk (Or.inr rfl) a1_s a2 (fun a_s => by rw [if_neg (show ¬ ((0 : Int32)).toInt < 0 by decide)]) (fun j_s hj => by rw [if_pos (by omega)]; exact a3 j_s hj) (fun v_s f1_s g1 g2 => ?_)
  obtain ⟨k1_s, r1_s, b1, b2⟩ := g2
  have e_s := ptx_det b1 a4
  subst e_s
  have b2 : (f1_s 102 18).toInt = -1 ∧ v_s = (gvL (fun k_s => f_s 111 k_s) ls).getD 0 := b2
  rw [b2.2]
  have ev_s := hp True (fun k_s => f_s 111 k_s) n_s (fun k_s hk6 _ => hn k_s hk6) (Or.inl trivial)
  have ev_s : (gvL (fun k_s => f_s 111 k_s) ls).getD 0 = lawV (some ls) n_s := ev_s
  rw [ev_s]
  exact t_s f1_s (fun a_s k1_s _ q2_s => g1 a_s k1_s q2_s)
theorem fin180 {fr_s : Int32} {r_s : Nat} (hk : hKn h_s) (hl : lawR f_s lw) (hp : lwP lw) (ho : ∀ k_s, k_s < 6 → f_s 112 k_s = o k_s) (hf : fr_s = farO o) (hkd : f_s 103 (92 + r_s) = kd) (hst : f_s 103 (80 + r_s) = st_s) (t_s : ∀ f1_s, frX f_s f1_s → K_s (weV lw o st_s kd) (h_s.1, f1_s, h_s.2.2.1, h_s.2.2.2)) : ((f_s 102 14).toInt < 0 → (((((1 + (f_s 103 (92 + r_s))) + (fr_s / 3)) - ((f_s 112 0) / 2)).toInt < 0 → K_s 0 (h_s.1, f_s, h_s.2.2.1, h_s.2.2.2)) ∧ (¬ (((1 + (f_s 103 (92 + r_s))) + (fr_s / 3)) - ((f_s 112 0) / 2)).toInt < 0 → ((9 < (((1 + (f_s 103 (92 + r_s))) + (fr_s / 3)) - ((f_s 112 0) / 2)).toInt → K_s 9 (h_s.1, f_s, h_s.2.2.1, h_s.2.2.2)) ∧ (¬ 9 < (((1 + (f_s 103 (92 + r_s))) + (fr_s / 3)) - ((f_s 112 0) / 2)).toInt → K_s (((1 + (f_s 103 (92 + r_s))) + (fr_s / 3)) - ((f_s 112 0) / 2)) (h_s.1, f_s, h_s.2.2.1, h_s.2.2.2)))))) ∧ (¬ (f_s 102 14).toInt < 0 → wF F_s 176 (0, [some (.ref 102), some (.int 0), some (.int (f_s 102 14)), none, none, none, none, none], [], (h_s.1, zup (zup (zup (zup (zup (zup f_s 111 0 (f_s 112 0)) 111 1 (f_s 112 2)) 111 2 (f_s 112 3)) 111 3 fr_s) 111 4 (f_s 103 (80 + r_s))) 111 5 (f_s 103 (92 + r_s)), h_s.2.2.1, h_s.2.2.2)) (gI (fun v19 h19 => hKn h19 → (v19.toInt < 0 → K_s 0 h19) ∧ (¬ v19.toInt < 0 → ((9 < v19.toInt → K_s 9 h19) ∧ (¬ 9 < v19.toInt → K_s v19 h19)))))) := by
  rw [ho 0 (by omega), ho 2 (by omega), ho 3 (by omega), hf, hkd, hst]
  refine ⟨fun c_s => ?_, fun c_s => ?_⟩
  · match lw, hl, hp, t_s with
    | none, hl, hp, t_s =>
      have u_s := t_s f_s (fun _ _ _ _ => rfl)
      unfold weV at u_s
      exact clp_k (K_s := fun v_s => K_s v_s (h_s.1, f_s, h_s.2.2.1, h_s.2.2.2)) u_s
    | some ls, hl, _, _ =>
      obtain ⟨m_s, _, a1_s, _⟩ := hl
      exact absurd c_s (by omega)
  · match lw, hl, hp, t_s with
    | none, hl, _, _ =>
      have hl : (f_s 102 14).toInt = -1 := hl
      exact absurd c_s (by omega)
    | some ls, hl, hp, t_s =>
      generalize hg : zup (zup (zup (zup (zup (zup f_s 111 0 (o 0)) 111 1 (o 2)) 111 2 (o 3)) 111 3 (farO o)) 111 4 st_s) 111 5 kd = g_s
      have gf : ∀ a_s k_s, ¬ a_s = 111 → g_s a_s k_s = f_s a_s k_s := fun a_s k_s ha_s => by rw [← hg, zne_up (by omega), zne_up (by omega), zne_up (by omega), zne_up (by omega), zne_up (by omega), zne_up (by omega)]
      have hn : eqN True (fun k_s => g_s 111 k_s) (nm6 (o 0) (o 2) (o 3) (farO o) st_s kd) := by
        refine nm6_eq ?_ (fun _ => ?_) ?_ ?_ ?_ ?_ <;> (rw [← hg]; simp (disch := omega) only [zne_up, zsame_up])
      have hl2 : lawR g_s (some ls) := by
        obtain ⟨m_s, k_s, a1_s, a2, a3, a4⟩ := hl
        refine ⟨m_s, k_s, by rw [gf _ _ (by omega)]; exact a1_s, a2, fun a_s ha_s => by rw [gf _ _ (by omega)]; exact a3 a_s ha_s, ?_⟩
        have e_s : (fun a_s : Nat => if (a_s : Int) < (m_s : Int) then (g_s 110 a_s).toInt else -1) = fun a_s : Nat => if (a_s : Int) < (m_s : Int) then (f_s 110 a_s).toInt else -1 := by
          funext a_s
          rw [gf 110 a_s (by omega)]
        rw [e_s]
        exact a4
      have e14_s : f_s 102 14 = g_s 102 14 := (gf _ _ (by omega)).symm
      rw [e14_s]
      refine wrk180 (n_s := nm6 (o 0) (o 2) (o 3) (farO o) st_s kd) hk hl2 hp (fun k_s hk6 => hn k_s hk6 (fun _ => trivial)) (fun f1_s hf1 _ => ?_)
      refine clp_k (K_s := fun v_s => K_s v_s (h_s.1, f1_s, h_s.2.2.1, h_s.2.2.2)) (t_s f1_s (fun a_s k_s q1_s q2_s => ?_))
      rw [hf1 a_s k_s q1_s q2_s, gf a_s k_s q1_s]
/-- wearsNow -/
theorem sp_180 {r_s : Nat} (hk : hKn h_s) (hl : lawR f_s lw) (hp : lwP lw) (hx : x1_s.toInt = (r_s : Int)) (hr : r_s < 12) (ho : ∀ k_s, k_s < 7 → f_s 112 k_s = o k_s) (h6 : o 6 = -1 ∨ 0 ≤ (o 6).toInt) (t_s : ∀ f1_s, frX f_s f1_s → K_s (weV lw o (f_s 103 (80 + r_s)) (f_s 103 (92 + r_s))) (h_s.1, f1_s, h_s.2.2.1, h_s.2.2.2)) : wF F_s 180 (0, [some (.ref 102), some (.int x1_s), none, none], [], (h_s.1, f_s, h_s.2.2.1, h_s.2.2.2)) (gI K_s) := by
  have z92 : zix (92 + x1_s) = 92 + r_s := zxa (c_s := 92) (a_s := 92) rfl hx (by omega)
  have z80 : zix (80 + x1_s) = 80 + r_s := zxa (c_s := 80) (a_s := 80) rfl hx (by omega)
  have go_s := fun (fr_s : Int32) (hf : fr_s = farO o) => fin180 (F_s := F_s) (fr_s := fr_s) (r_s := r_s) hk hl hp (fun k_s hk6 => ho k_s (by omega)) hf rfl rfl t_s
  refine wF_le (Nat.le_succ F_s) (sg_180_0 (h_s := (h_s.1, f_s, h_s.2.2.1, h_s.2.2.2)) hk ?_)
  dsimp only
  rw [z92, z80]
  have e6_s : f_s 112 6 = o 6 := ho 6 (by omega)
  have e1_s : f_s 112 1 = o 1 := ho 1 (by omega)
  refine ⟨fun c_s _ => ?_, fun c_s => ⟨fun c1_s _ => ?_, fun c1_s _ => ?_⟩⟩
  · rw [e6_s] at c_s
    have g_s := go_s 9 (by unfold farO; rw [if_pos c_s])
    exact ⟨g_s.1, fun c2_s _ => g_s.2 c2_s⟩
  · rw [e6_s] at c_s
    rw [e6_s, e1_s] at c1_s
    have g_s := go_s (-(f_s 112 1 - f_s 112 6)) (by
      unfold farO absI
      rw [if_neg c_s, if_pos ((iq2 _).mpr c1_s), e1_s, e6_s])
    exact ⟨g_s.1, fun c2_s _ => g_s.2 c2_s⟩
  · rw [e6_s] at c_s
    rw [e6_s, e1_s] at c1_s
    have g_s := go_s (f_s 112 1 - f_s 112 6) (by
      unfold farO absI
      rw [if_neg c_s, if_neg (fun w_s => c1_s ((iq2 _).mp w_s)), e1_s, e6_s])
    exact ⟨g_s.1, fun c2_s _ => g_s.2 c2_s⟩
/-- the idea i as the reference has it -/
def owI (f_s : Nat → Nat → Int32) (i_s : Nat) : oI := fun k_s => if k_s < 6 then f_s 103 (12 + 8 * k_s + i_s) else (if (f_s 103 (60 + i_s)).toInt < 0 then -1 else f_s 103 (zix (f_s 103 (60 + i_s))))
theorem i8_ : (8 : Int32).toInt = 8 := rfl
theorem i12_ : (12 : Int32).toInt = 12 := rfl
theorem bg178 {i_s : Nat} {f0_s : Nat → Nat → Int32} (hk : hKn h_s) (hx : x1_s.toInt = (i_s : Int)) (hi_s : i_s < 8) (h60 : -1 ≤ (f0_s 103 (60 + i_s)).toInt) (t_s : ∀ f1_s, (∀ k_s, k_s < 7 → f1_s 112 k_s = owI f0_s i_s k_s) → (∀ a_s k_s, ¬ a_s = 112 → f1_s a_s k_s = f0_s a_s k_s) → V (h_s.1, f1_s, h_s.2.2.1, h_s.2.2.2)) : ∀ (F_s j_s : Nat) (x2_s : Int32) (f_s : Nat → Nat → Int32), x2_s.toInt = (j_s : Int) → j_s ≤ 6 → (∀ k_s, k_s < j_s → f_s 112 k_s = owI f0_s i_s k_s) → (∀ a_s k_s, ¬ a_s = 112 → f_s a_s k_s = f0_s a_s k_s) → wF F_s 178 (2, [some (.ref 102), some (.int x1_s), some (.int x2_s)], [], (h_s.1, f_s, h_s.2.2.1, h_s.2.2.2)) (gV V)
  | 0, _, _, _, _, _, _, _ => wF_zero
  | F_s + 1, j_s, x2_s, f_s, h2, hj, hf, hg => by
    have m8_s : (8 * x2_s).toInt = 8 * (j_s : Int) := by rw [na_mul (by rw [i8_]; omega) (by rw [i8_]; omega), i8_, h2]
    have m12_s : (12 + 8 * x2_s).toInt = ((12 + 8 * j_s : Nat) : Int) := by
      rw [na_add (by rw [i12_]; omega) (by rw [i12_]; omega), i12_, m8_s]
      omega
    have za : zix (12 + 8 * x2_s + x1_s) = 12 + 8 * j_s + i_s := zxa m12_s hx (by omega)
    have zj := azix (i := x2_s) (by omega)
    have ej : zix x2_s = j_s := by omega
    have z60_s : zix (60 + x1_s) = 60 + i_s := zxa (c_s := 60) (a_s := 60) rfl hx (by omega)
    refine sg_178_2 (h_s := (h_s.1, f_s, h_s.2.2.1, h_s.2.2.2)) hk ?_
    dsimp only
    rw [za, ej, z60_s, hg 103 _ (by omega), hg 103 _ (by omega)]
    refine ⟨fun c1_s _ _ => ?_, fun c1_s _ => ⟨fun c2_s => ?_, fun c2_s _ => ?_⟩⟩
    · refine bg178 hk hx hi_s h60 t_s F_s (j_s + 1) (x2_s + 1) _ (by rw [in1_ (by omega)]; omega) (by omega) (fun k_s hk1 => ?_) (fun a_s k_s ha_s => ?_)
      · by_cases e_s : k_s = j_s
        · subst e_s
          rw [zsame_up]
          unfold owI
          rw [if_pos (by omega)]
        · rw [zne_up (by omega)]
          exact hf k_s (by omega)
      · rw [zne_up (by omega)]
        exact hg a_s k_s ha_s
    · have e6_s : j_s = 6 := by omega
      subst e6_s
      refine t_s _ (fun k_s hk1 => ?_) (fun a_s k_s ha_s => ?_)
      · by_cases e_s : k_s = 6
        · subst e_s
          rw [zsame_up]
          unfold owI
          rw [if_neg (by omega), if_pos c2_s]
        · rw [zne_up (by omega)]
          exact hf k_s (by omega)
      · rw [zne_up (by omega)]
        exact hg a_s k_s ha_s
    · have e6_s : j_s = 6 := by omega
      subst e6_s
      rw [hg 103 _ (by omega)]
      refine t_s _ (fun k_s hk1 => ?_) (fun a_s k_s ha_s => ?_)
      · by_cases e_s : k_s = 6
        · subst e_s
          rw [zsame_up]
          unfold owI
          rw [if_neg (by omega), if_neg c2_s]
        · rw [zne_up (by omega)]
          exact hf k_s (by omega)
      · rw [zne_up (by omega)]
        exact hg a_s k_s ha_s
theorem sp_178 {i_s : Nat} (hk : hKn h_s) (hx : x1_s.toInt = (i_s : Int)) (hi_s : i_s < 8) (h60 : -1 ≤ (f_s 103 (60 + i_s)).toInt) (t_s : ∀ f1_s, (∀ k_s, k_s < 7 → f1_s 112 k_s = owI f_s i_s k_s) → (∀ a_s k_s, ¬ a_s = 112 → f1_s a_s k_s = f_s a_s k_s) → V (h_s.1, f1_s, h_s.2.2.1, h_s.2.2.2)) : wF F_s 178 (0, [some (.ref 102), some (.int x1_s), none], [], (h_s.1, f_s, h_s.2.2.1, h_s.2.2.2)) (gV V) := wF_le (Nat.le_succ F_s) (sg_178_0 (h_s := (h_s.1, f_s, h_s.2.2.1, h_s.2.2.2)) hk (bg178 hk hx hi_s h60 t_s F_s 0 0 f_s rfl (by omega) (fun k_s hq => absurd hq (Nat.not_lt_zero k_s)) (fun _ _ _ => rfl)))
end WR
