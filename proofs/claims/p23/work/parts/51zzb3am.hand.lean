/-! AN IDEA GOES A ROAD: as told of numbers; class and reference. -/
def mn99 (x_s : Int32) : Int32 := if 99 < x_s.toInt then 99 else x_s
def oset (o : oI) (k_s : Nat) (v_s : Int32) : oI := fun j_s => if j_s = k_s then v_s else o j_s
theorem os_eq {o : oI} {k_s : Nat} {v_s : Int32} : oset o k_s v_s k_s = v_s := if_pos rfl
theorem os_ne {o : oI} {k_s j_s : Nat} {v_s : Int32} (h_s : ¬ j_s = k_s) : oset o k_s v_s j_s = o j_s := if_neg h_s
def stpO (lw : Option (List pB)) (st_s kd : Int32) (o : oI) : oI := oset o 2 (mn99 (o 2 + weV lw o st_s kd))
def gmO (lw : Option (List pB)) (st_s kd : Int32) : Nat → oI → Nat × oI
  | 0, o => (0, o)
  | n_s + 1, o => if 99 ≤ (o 2).toInt then (0, o) else ((gmO lw st_s kd n_s (stpO lw st_s kd o)).1 + 1, (gmO lw st_s kd n_s (stpO lw st_s kd o)).2)
def coolO (o : oI) : oI := oset o 3 (if 0 < (o 3).toInt then o 3 - 1 else o 3)
def goO (lw : Option (List pB)) (m_s : Nat) (st_s kd : Int32) (o : oI) : Nat × Bool × oI := if (o 2).toInt < 99 ∧ ¬ (9 - o 2 / 11).toInt < st_s.toInt then (if (gmO lw st_s kd m_s o).1 = m_s then (m_s, true, coolO (gmO lw st_s kd m_s o).2) else ((gmO lw st_s kd m_s o).1, false, (gmO lw st_s kd m_s o).2)) else (0, false, o)
theorem isub0 (x_s : Int32) : x_s - 0 = x_s := by
  have r_s := na_rng x_s
  exact Int32.toInt_inj.mp (by rw [na_sub (by rw [i0n]; omega) (by rw [i0n]; omega), i0n, Int.sub_zero])
theorem iadd0 (x_s : Int32) : x_s + 0 = x_s := by
  have r_s := na_rng x_s
  exact Int32.toInt_inj.mp (by rw [na_add (by rw [i0n]; omega) (by rw [i0n]; omega), i0n, Int.add_zero])
section GO_s
variable {lw : Option (List pB)} {st_s kd : Int32} {o o1 : oI}
theorem mn99_B {w_s v_s : Int32} (h0 : 0 ≤ w_s.toInt) (h1 : w_s.toInt ≤ 99) (h2 : 0 ≤ v_s.toInt) (h3 : v_s.toInt ≤ 9) : 0 ≤ (mn99 (w_s + v_s)).toInt ∧ (mn99 (w_s + v_s)).toInt ≤ 99 := by
  have e_s : (w_s + v_s).toInt = w_s.toInt + v_s.toInt := na_add (by omega) (by omega)
  unfold mn99
  by_cases c_s : 99 < (w_s + v_s).toInt
  · rw [if_pos c_s, i99_]
    omega
  · rw [if_neg c_s]
    omega
theorem mn99_c {w_s v_s : Int32} : (if w_s + v_s < 99 then w_s + v_s else 99) = mn99 (w_s + v_s) := by
  unfold mn99
  by_cases c_s : w_s + v_s < 99
  · have c1_s := (il_ _ _).mp c_s
    rw [i99_] at c1_s
    rw [if_pos c_s, if_neg (by omega)]
  · have c1_s : ¬ (w_s + v_s).toInt < 99 := fun u_s => c_s ((il_ _ _).mpr (by rw [i99_]; exact u_s))
    rw [if_neg c_s]
    by_cases c2_s : 99 < (w_s + v_s).toInt
    · rw [if_pos c2_s]
    · rw [if_neg c2_s]
      exact Int32.toInt_inj.mp (by rw [i99_]; omega)
theorem stp_B (hB_s : oB o) : oB (stpO lw st_s kd o) := by
  obtain ⟨b0, b1, b2, b3, b4, b5, b6⟩ := hB_s
  have w_s := clp_b (lawV lw (nm6 (o 0) (o 2) (o 3) (farO o) st_s kd))
  exact ⟨b0, b1, mn99_B b2.1 b2.2 w_s.1 w_s.2, b3, b4, b5, b6⟩
theorem cool_B (hB_s : oB o) : oB (coolO o) := by
  obtain ⟨b0, b1, b2, b3, b4, b5, b6⟩ := hB_s
  refine ⟨b0, b1, b2, ?_, b4, b5, b6⟩
  show 0 ≤ (if 0 < (o 3).toInt then o 3 - 1 else o 3).toInt ∧ (if 0 < (o 3).toInt then o 3 - 1 else o 3).toInt ≤ 9
  by_cases c_s : 0 < (o 3).toInt
  · rw [if_pos c_s, na_sub (by rw [n1_]; omega) (by rw [n1_]; omega), n1_]
    omega
  · rw [if_neg c_s]
    exact b3
theorem gm_B : ∀ (n_s : Nat) {o : oI}, oB o → oB (gmO lw st_s kd n_s o).2
  | 0, _, h_s => h_s
  | n_s + 1, o, h_s => by
    unfold gmO
    by_cases c_s : 99 ≤ (o 2).toInt
    · rw [if_pos c_s]
      exact h_s
    · rw [if_neg c_s]
      exact gm_B n_s (stp_B h_s)
theorem gm_le : ∀ (n_s : Nat) {o : oI}, (gmO lw st_s kd n_s o).1 ≤ n_s
  | 0, _ => Nat.le_refl 0
  | n_s + 1, o => by
    unfold gmO
    by_cases c_s : 99 ≤ (o 2).toInt
    · rw [if_pos c_s]
      exact Nat.zero_le _
    · rw [if_neg c_s]
      exact Nat.succ_le_succ (gm_le n_s)
theorem go_B {m_s : Nat} (hB_s : oB o) : oB (goO lw m_s st_s kd o).2.2 := by
  unfold goO
  split
  · split
    · exact cool_B (gm_B m_s hB_s)
    · exact gm_B m_s hB_s
  · exact hB_s
theorem go_le {m_s : Nat} : (goO lw m_s st_s kd o).1 ≤ m_s := by
  unfold goO
  split
  · split
    · exact Nat.le_refl m_s
    · exact gm_le m_s
  · exact Nat.zero_le m_s
theorem go_all {m_s : Nat} (hm_s : 1 ≤ m_s) : (goO lw m_s st_s kd o).2.1 = true ↔ (goO lw m_s st_s kd o).1 = m_s := by
  unfold goO
  split
  · split
    · exact ⟨fun _ => rfl, fun _ => rfl⟩
    · rename_i c_s
      exact ⟨fun w_s => absurd w_s Bool.false_ne_true, fun w_s => absurd w_s c_s⟩
  · exact ⟨fun w_s => absurd w_s Bool.false_ne_true, fun w_s => absurd w_s (Nat.ne_of_lt hm_s)⟩
theorem weV_mw (hp : lwP lw) (hw : lwm lw = false) (h_s : ∀ k_s, ¬ k_s = 2 → o k_s = o1 k_s) : weV lw o st_s kd = weV lw o1 st_s kd := by
  have ef : farO o = farO o1 := by
    unfold farO
    rw [h_s 6 (by omega), h_s 1 (by omega)]
  unfold weV
  rw [hp False (nm6 (o 0) (o 2) (o 3) (farO o) st_s kd) (nm6 (o1 0) (o1 2) (o1 3) (farO o1) st_s kd) (nm6_eq (h_s 0 (by omega)) (fun w_s => w_s.elim) (h_s 3 (by omega)) ef rfl rfl) (Or.inr hw)]
theorem stp_0 (hB_s : oB o) (h0 : (weV lw o st_s kd).toInt = 0) : stpO lw st_s kd o = o := by
  funext j_s
  unfold stpO oset
  by_cases e_s : j_s = 2
  · rw [if_pos e_s, i0_ h0, iadd0, e_s]
    unfold mn99
    rw [if_neg (by have := hB_s.2.2.1.2; omega)]
  · rw [if_neg e_s]
end GO_s
/-- what the class's going may write: worn, heat of the object; scratch -/
def frT (d_s : Nat) (f_s f1_s : Nat → Nat → Int32) : Prop := ∀ a_s k_s, ¬ a_s = 13 → ¬ a_s = 16 → ¬ a_s = 19 → ¬ (a_s = d_s ∧ (k_s = 2 ∨ k_s = 3)) → f1_s a_s k_s = f_s a_s k_s
theorem cool_c {x_s : Int32} (h0 : 0 ≤ x_s.toInt) : (if 0 < x_s - 1 then x_s - 1 else 0) = if 0 < x_s.toInt then x_s - 1 else x_s := by
  have r_s := na_rng x_s
  have e_s : (x_s - 1).toInt = x_s.toInt - 1 := by rw [na_sub (by rw [n1_]; omega) (by rw [n1_]; omega), n1_]
  by_cases c_s : 0 < x_s - 1
  · have c1_s := (iq4 _).mp c_s
    rw [if_pos c_s, if_pos (by omega)]
  · have c1_s : ¬ 0 < (x_s - 1).toInt := fun w_s => c_s ((iq4 _).mpr w_s)
    rw [if_neg c_s]
    by_cases c2_s : 0 < x_s.toInt
    · rw [if_pos c2_s]
      exact (i0_ (by omega)).symm
    · rw [if_neg c2_s]
      exact (i0_ (by omega)).symm
section GC
variable {h_s : zH} {K_s : Int32 → zH → Prop} {V : zH → Prop} {lw : Option (List pB)} {q_s d_s ro m_s : Nat} {st_s kd : Int32} {x1_s : Int32}
def dRo (d_s ro : Nat) : Prop := 20 ≤ d_s ∧ (d_s < 28 ∨ 40 ≤ d_s) ∧ 28 ≤ ro ∧ ro < 40
theorem dRo_n (h_s : dRo d_s ro) : (¬ d_s = 13 ∧ ¬ d_s = 16 ∧ ¬ d_s = 19) ∧ (¬ 7 = d_s ∧ ¬ 8 = d_s) ∧ ¬ ro = d_s ∧ (¬ ro = 13 ∧ ¬ ro = 16 ∧ ¬ ro = 19) := by
  unfold dRo at h_s
  omega
theorem frT_ro {f0_s f_s : Nat → Nat → Int32} (h_s : dRo d_s ro) (hf : frT d_s f0_s f_s) (k_s : Nat) : f_s ro k_s = f0_s ro k_s := by
  obtain ⟨_, _, h3, h4, h5, h6⟩ := dRo_n h_s
  exact hf ro k_s h4 h5 h6 (fun w_s => h3 w_s.1)
theorem frT_l {f0_s f_s : Nat → Nat → Int32} (h_s : dRo d_s ro) (hm_s : q_s = 14 ∨ q_s = 17) (hf : frT d_s f0_s f_s) (hl : lawC q_s f0_s lw) : lawC q_s f_s lw := by
  have h1 := h_s.1
  exact lawC_fr hm_s (fun a_s k_s ha_s => hf a_s k_s (by omega) (by omega) (by omega) (by omega)) hl
theorem frT_up {f0_s f_s : Nat → Nat → Int32} {j_s : Nat} {v_s : Int32} (hj : j_s = 2 ∨ j_s = 3) (hf : frT d_s f0_s f_s) : frT d_s f0_s (zup f_s d_s j_s v_s) := fun a_s k_s q1_s q2_s q3_s q4_s => by
  rw [zne_up (by omega)]
  exact hf a_s k_s q1_s q2_s q3_s q4_s
theorem cwO_up {f_s : Nat → Nat → Int32} {o : oI} {j_s : Nat} {v_s : Int32} (h7 : ¬ 7 = d_s) (h8 : ¬ 8 = d_s) (hj : ¬ j_s = 6) (hc_s : cwO f_s d_s o) : cwO (zup f_s d_s j_s v_s) d_s (oset o j_s v_s) := by
  refine ⟨fun k_s hk6 => ?_, ?_⟩
  · by_cases e_s : k_s = j_s
    · rw [e_s, zsame_up, os_eq]
    · rw [zne_up (fun w_s => e_s w_s.2), os_ne e_s]
      exact hc_s.1 k_s hk6
  · rw [zne_up (fun w_s => hj w_s.2.symm), zne_up (fun w_s => h7 w_s.1), zne_up (fun w_s => h8 w_s.1), os_ne (fun w_s => hj w_s.symm)]
    exact hc_s.2
theorem cwO_fr {f_s f1_s : Nat → Nat → Int32} {o : oI} (h_s : dRo d_s ro) (hf : frW f_s f1_s) (hc_s : cwO f_s d_s o) : cwO f1_s d_s o := by
  obtain ⟨⟨h1, h2, h3⟩, _⟩ := dRo_n h_s
  refine ⟨fun k_s hk6 => ?_, ?_⟩
  · rw [hf d_s k_s h1 h2 h3]
    exact hc_s.1 k_s hk6
  · rw [hf d_s 6 h1 h2 h3, hf 7 6 (by omega) (by omega) (by omega), hf 8 _ (by omega) (by omega) (by omega)]
    exact hc_s.2
theorem lawC_m0 {f_s : Nat → Nat → Int32} (gl : lawC q_s f_s lw) (w_s : (f_s q_s 0).toInt = 0) : lwm lw = false := by
  match lw, gl with
  | none, _ => rfl
  | some ls, gl =>
    have w2_s := gl.2.2.2.1
    show mTx ls = false
    cases hmx : mTx ls with
    | false => rfl
    | true =>
      rw [hmx] at w2_s
      rw [w2_s] at w_s
      exact absurd w_s (by decide)
theorem gm_s {n_s : Nat} {o : oI} (h_s : (o 2).toInt < 99) : gmO lw st_s kd (n_s + 1) o = ((gmO lw st_s kd n_s (stpO lw st_s kd o)).1 + 1, (gmO lw st_s kd n_s (stpO lw st_s kd o)).2) := by
  show (if 99 ≤ (o 2).toInt then (0, o) else ((gmO lw st_s kd n_s (stpO lw st_s kd o)).1 + 1, (gmO lw st_s kd n_s (stpO lw st_s kd o)).2)) = _
  rw [if_neg (by omega)]
theorem gm_9 {n_s : Nat} {o : oI} (h_s : ¬ (o 2).toInt < 99) : gmO lw st_s kd n_s o = (0, o) := by
  match n_s with
  | 0 => rfl
  | n_s + 1 =>
    show (if 99 ≤ (o 2).toInt then (0, o) else ((gmO lw st_s kd n_s (stpO lw st_s kd o)).1 + 1, (gmO lw st_s kd n_s (stpO lw st_s kd o)).2)) = _
    rw [if_pos (by omega)]
theorem tr24z {G_s : Nat × oI} {x3 x4_s : Int32} {F_s : Nat} {o : oI} {f0_s f_s : Nat → Nat → Int32} (hk : hKn h_s) (hd_s : dRo d_s ro) (hm1 : (f0_s ro 2).toInt = (m_s : Int)) (t_s : ∀ v_s f1_s, v_s.toInt = (G_s.1 : Int) → (∀ k_s, k_s < 6 → f1_s d_s k_s = (if G_s.1 = m_s then coolO G_s.2 else G_s.2) k_s) → frT d_s f0_s f1_s → K_s v_s (h_s.1, f1_s, h_s.2.2.1, h_s.2.2.2)) (h4 : x4_s.toInt = ((m_s + 1 : Nat) : Int)) (hc_s : cwO f_s d_s o) (hB_s : oB o) (hG : (m_s, o) = G_s) (hfr : frT d_s f0_s f_s) : wF F_s 24 (20, [some (.ref 7), some (.ref d_s), some (.ref ro), some (.int x3), some (.int x4_s)], [], (h_s.1, f_s, h_s.2.2.1, h_s.2.2.2)) (gI K_s) := by
  have c3_s : f_s d_s 3 = o 3 := hc_s.1 3 (by omega)
  have er := frT_ro hd_s hfr
  obtain ⟨_, _, nr, _⟩ := dRo_n hd_s
  have e1_s : ∀ v_s, zup f_s d_s 3 v_s ro 2 = f0_s ro 2 := fun v_s => by rw [zne_up (fun w_s => nr w_s.1)]; exact er 2
  refine wF_le (Nat.le_succ F_s) (sg_24_20 (h_s := (h_s.1, f_s, h_s.2.2.1, h_s.2.2.2)) hk ?_)
  dsimp only
  simp only [c3_s, er 2, hm1, e1_s]
  refine ⟨fun _ => ?_, fun c_s => absurd c_s (by omega)⟩
  rw [← hG] at t_s
  refine t_s _ _ hm1 (fun k_s hk6 => ?_) (frT_up (Or.inr rfl) hfr)
  rw [if_pos rfl]
  unfold coolO
  by_cases e_s : k_s = 3
  · subst e_s
    rw [zsame_up, os_eq]
    exact cool_c hB_s.2.2.2.1.1
  · rw [zne_up (fun w_s => e_s w_s.2), os_ne e_s]
    exact hc_s.1 k_s hk6
theorem tr24 {G_s : Nat × oI} {f0_s : Nat → Nat → Int32} (hk : hKn h_s) (hr : h_s.2.2.2 7 9 = some q_s) (hm_s : q_s = 14 ∨ q_s = 17) (hl : lawC q_s f0_s lw) (hp : lwP lw) (hd_s : dRo d_s ro) (hst : f0_s ro 3 = st_s) (hkd : f0_s ro 4 = kd) (hm1 : (f0_s ro 2).toInt = (m_s : Int)) (hm9 : m_s ≤ 9) (t_s : ∀ v_s f1_s, v_s.toInt = (G_s.1 : Int) → (∀ k_s, k_s < 6 → f1_s d_s k_s = (if G_s.1 = m_s then coolO G_s.2 else G_s.2) k_s) → frT d_s f0_s f1_s → K_s v_s (h_s.1, f1_s, h_s.2.2.1, h_s.2.2.2)) : ∀ (F_s n_s j_s : Nat) (x3 x4_s : Int32) (f_s : Nat → Nat → Int32) (o : oI), j_s + n_s = m_s → x4_s.toInt = ((j_s + 1 : Nat) : Int) → (0 < n_s → (o 2).toInt < 99 ∧ x3 = weV lw o st_s kd) → cwO f_s d_s o → oB o → (j_s + (gmO lw st_s kd n_s o).1, (gmO lw st_s kd n_s o).2) = G_s → frT d_s f0_s f_s → wF F_s 24 (20, [some (.ref 7), some (.ref d_s), some (.ref ro), some (.int x3), some (.int x4_s)], [], (h_s.1, f_s, h_s.2.2.1, h_s.2.2.2)) (gI K_s)
  | 0, _, _, _, _, _, _, _, _, _, _, _, _, _ => wF_zero
  | F_s + 1, 0, j_s, x3, x4_s, f_s, o, hj, h4, _, hc_s, hB_s, hG, hfr => by
    have hj : j_s = m_s := hj
    subst hj
    exact tr24z hk hd_s hm1 t_s h4 hc_s hB_s hG hfr
  | F_s + 1, n_s + 1, j_s, x3, x4_s, f_s, o, hj, h4, hn, hc_s, hB_s, hG, hfr => by
    obtain ⟨n1_s, n2_s⟩ := hn (Nat.succ_pos n_s)
    obtain ⟨_, ⟨d7_s, d8_s⟩, nr, nr2⟩ := dRo_n hd_s
    have er := frT_ro hd_s hfr
    have c2_s : f_s d_s 2 = o 2 := hc_s.1 2 (by omega)
    have hw0 : 0 ≤ x3.toInt := by
      rw [n2_s]
      exact (clp_b _).1
    have e4_s : (x4_s + 1).toInt = ((j_s + 1 + 1 : Nat) : Int) := by
      rw [in1_ (by omega), h4]
      omega
    rw [gm_s n1_s] at hG
    have hG2 : (j_s + 1 + (gmO lw st_s kd n_s (stpO lw st_s kd o)).1, (gmO lw st_s kd n_s (stpO lw st_s kd o)).2) = G_s := by
      rw [← hG]
      show (j_s + 1 + _, _) = (j_s + (_ + 1), _)
      rw [Nat.add_assoc, Nat.add_comm 1]
    have hB2 : oB (stpO lw st_s kd o) := stp_B hB_s
    have es : stpO lw st_s kd o = oset o 2 (mn99 (o 2 + x3)) := by
      rw [n2_s]
      rfl
    have hc2 : cwO (zup f_s d_s 2 (mn99 (o 2 + x3))) d_s (stpO lw st_s kd o) := by
      rw [es]
      exact cwO_up d7_s d8_s (by decide) hc_s
    have hfr2 : frT d_s f0_s (zup f_s d_s 2 (mn99 (o 2 + x3))) := frT_up (Or.inl rfl) hfr
    refine sg_24_20 (h_s := (h_s.1, f_s, h_s.2.2.1, h_s.2.2.2)) hk ?_
    dsimp only
    simp only [c2_s, er 2, hm1, mn99_c]
    clear hG hfr hc_s er c2_s
    generalize zup f_s d_s 2 (mn99 (o 2 + x3)) = g_s at hc2 hfr2
    have gd_s : g_s d_s 2 = (stpO lw st_s kd o) 2 := hc2.1 2 (by omega)
    have gr := frT_ro hd_s hfr2
    have gl : lawC q_s g_s lw := frT_l hd_s hm_s hfr2 hl
    simp only [gd_s, gr 2, hm1]
    have same_s : lwm lw = false → x3 = weV lw (stpO lw st_s kd o) st_s kd := fun w_s => by
      rw [n2_s]
      exact weV_mw hp w_s (fun k_s hk2 => (os_ne hk2).symm)
    have nxt_s : ∀ y3, (0 < n_s → ((stpO lw st_s kd o) 2).toInt < 99 ∧ y3 = weV lw (stpO lw st_s kd o) st_s kd) → wF F_s 24 (20, [some (.ref 7), some (.ref d_s), some (.ref ro), some (.int y3), some (.int (x4_s + 1))], [], (h_s.1, g_s, h_s.2.2.1, h_s.2.2.2)) (gI K_s) := fun y3 hy => tr24 hk hr hm_s hl hp hd_s hst hkd hm1 hm9 t_s F_s n_s (j_s + 1) y3 (x4_s + 1) g_s (stpO lw st_s kd o) (by omega) e4_s hy hc2 hB2 hG2 hfr2
    refine ⟨fun c_s => absurd c_s (by omega), fun _ => ⟨fun c2_s => fun q3_s r3 m3_s => ?_, fun c2_s => ⟨fun c8_s => ?_, fun c8_s => fun q9_s r9 m9_s => ?_⟩⟩⟩
    · have e3_s : q_s = q3_s := (Option.some.inj (r3.symm.trans hr)).symm
      subst e3_s
      refine ⟨fun c4_s => nxt_s x3 (fun _ => ⟨c2_s, same_s (lawC_m0 gl c4_s)⟩), fun c4_s => ⟨fun c5_s => ⟨fun c6_s => ?_, fun c6_s => nxt_s x3 (fun w_s => absurd w_s (by omega))⟩, fun c5_s => nxt_s x3 (fun _ => ⟨c2_s, ?_⟩)⟩⟩
      · refine sp_23 (h_s := (h_s.1, g_s, h_s.2.2.1, h_s.2.2.2)) (o := stpO lw st_s kd o) hk hr hm_s gl hp nr2.1 (dRo_n hd_s).1.1 hc2 (fun f1_s hf1 _ => ?_)
        rw [gr 3, gr 4, hst, hkd]
        exact tr24 hk hr hm_s hl hp hd_s hst hkd hm1 hm9 t_s F_s n_s (j_s + 1) _ (x4_s + 1) f1_s (stpO lw st_s kd o) (by omega) e4_s (fun _ => ⟨c2_s, rfl⟩) (cwO_fr hd_s hf1 hc2) hB2 hG2 (fun a_s k_s q1_s q2_s q3_s q4_s => (hf1 a_s k_s q1_s q2_s q3_s).trans (hfr2 a_s k_s q1_s q2_s q3_s q4_s))
      · have e0_s : (weV lw o st_s kd).toInt = 0 := by
          rw [← n2_s]
          omega
        rw [stp_0 hB_s e0_s]
        exact n2_s
    · rw [gm_9 c2_s] at hG2
      rw [← hG2] at t_s
      refine t_s x4_s g_s h4 (fun k_s hk6 => ?_) hfr2
      rw [if_neg (show ¬ j_s + 1 + 0 = m_s by omega)]
      exact hc2.1 k_s hk6
    · have e3_s : q_s = q9_s := (Option.some.inj (r9.symm.trans hr)).symm
      subst e3_s
      have e9_s : ¬ 0 < n_s := by omega
      exact ⟨fun _ => nxt_s x3 (fun w_s => absurd w_s e9_s), fun _ => ⟨fun _ => nxt_s x3 (fun w_s => absurd w_s e9_s), fun _ => nxt_s x3 (fun w_s => absurd w_s e9_s)⟩⟩
theorem sp_24 {F_s : Nat} {f_s : Nat → Nat → Int32} {o : oI} (hk : hKn h_s) (hr : h_s.2.2.2 7 9 = some q_s) (hm_s : q_s = 14 ∨ q_s = 17) (hl : lawC q_s f_s lw) (hp : lwP lw) (hd_s : dRo d_s ro) (hm1 : (f_s ro 2).toInt = (m_s : Int)) (hm9 : m_s ≤ 9) (hc_s : cwO f_s d_s o) (hB_s : oB o) (t_s : ∀ v_s f1_s, v_s.toInt = ((goO lw m_s (f_s ro 3) (f_s ro 4) o).1 : Int) → (∀ k_s, k_s < 6 → f1_s d_s k_s = (goO lw m_s (f_s ro 3) (f_s ro 4) o).2.2 k_s) → frT d_s f_s f1_s → K_s v_s (h_s.1, f1_s, h_s.2.2.1, h_s.2.2.2)) : wF F_s 24 (0, [some (.ref 7), some (.ref d_s), some (.ref ro), none, none], [], (h_s.1, f_s, h_s.2.2.1, h_s.2.2.2)) (gI K_s) := by
  have c2_s : f_s d_s 2 = o 2 := hc_s.1 2 (by omega)
  obtain ⟨dn, _, _, rn⟩ := dRo_n hd_s
  refine wF_le (Nat.le_succ F_s) (sg_24_0 (h_s := (h_s.1, f_s, h_s.2.2.1, h_s.2.2.2)) hk ?_)
  dsimp only
  rw [c2_s]
  have no_s : ¬ ((o 2).toInt < 99 ∧ ¬ (9 - o 2 / 11).toInt < (f_s ro 3).toInt) → K_s 0 (h_s.1, f_s, h_s.2.2.1, h_s.2.2.2) := fun w_s => by
    have e_s : goO lw m_s (f_s ro 3) (f_s ro 4) o = (0, false, o) := by
      unfold goO
      rw [if_neg w_s]
    rw [e_s] at t_s
    exact t_s 0 f_s rfl (fun k_s hk6 => hc_s.1 k_s hk6) (fun _ _ _ _ _ _ => rfl)
  refine ⟨fun c1_s => ⟨fun c3_s => no_s (fun w_s => w_s.2 c3_s), fun c3_s => ?_⟩, fun c1_s => no_s (fun w_s => c1_s w_s.1)⟩
  have eg : goO lw m_s (f_s ro 3) (f_s ro 4) o = (if (gmO lw (f_s ro 3) (f_s ro 4) m_s o).1 = m_s then (m_s, true, coolO (gmO lw (f_s ro 3) (f_s ro 4) m_s o).2) else ((gmO lw (f_s ro 3) (f_s ro 4) m_s o).1, false, (gmO lw (f_s ro 3) (f_s ro 4) m_s o).2)) := by
    unfold goO
    rw [if_pos ⟨c1_s, c3_s⟩]
  refine sp_23 (o := o) hk hr hm_s hl hp rn.1 dn.1 hc_s (fun f1_s hf1 hk1 => ?_)
  have f1d : ∀ a_s k_s, ¬ a_s = 13 → ¬ a_s = 16 → ¬ a_s = 19 → f1_s a_s k_s = f_s a_s k_s := hf1
  refine tr24 (h_s := (h_s.1, f1_s, h_s.2.2.1, h_s.2.2.2)) (f0_s := f1_s) (G_s := gmO lw (f_s ro 3) (f_s ro 4) m_s o) (st_s := f_s ro 3) (kd := f_s ro 4) (m_s := m_s) hk1 hr hm_s (lawC_fr hm_s (fun a_s k_s ha_s => f1d a_s k_s (by omega) (by omega) (by omega)) hl) hp hd_s (f1d _ _ rn.1 rn.2.1 rn.2.2) (f1d _ _ rn.1 rn.2.1 rn.2.2) (by rw [f1d _ _ rn.1 rn.2.1 rn.2.2]; exact hm1) hm9 (fun v_s f2_s g1 g2 g3_s => ?_) F_s m_s 0 _ 1 f1_s o (Nat.zero_add m_s) rfl (fun _ => ⟨c1_s, rfl⟩) ?_ hB_s ?_ (fun _ _ _ _ _ _ => rfl)
  · refine t_s v_s f2_s ?_ (fun k_s hk6 => ?_) (fun a_s k_s q1_s q2_s q3_s q4_s => by rw [g3_s a_s k_s q1_s q2_s q3_s q4_s]; exact f1d a_s k_s q1_s q2_s q3_s)
    · rw [eg, g1]
      split
      · rename_i w_s
        rw [w_s]
      · rfl
    · rw [eg, g2 k_s hk6]
      split
      · rfl
      · rfl
  · exact cwO_fr hd_s hf1 hc_s
  · rw [Nat.zero_add]
/-- the reference -/
theorem gr183 {r_s : Nat} {G_s : Nat × oI} {f0_s : Nat → Nat → Int32} (hk : hKn h_s) (hl : lawR f0_s lw) (hp : lwP lw) (hx : x1_s.toInt = (r_s : Int)) (hr : r_s < 12) (hst : f0_s 103 (80 + r_s) = st_s) (hkd : f0_s 103 (92 + r_s) = kd) (hm1 : (f0_s 103 (68 + r_s)).toInt = (m_s : Int)) (hm9 : m_s ≤ 9) (t_s : ∀ f1_s, (f1_s 102 22).toInt = (G_s.1 : Int) → (f1_s 102 23).toInt = (if G_s.1 = m_s then 1 else 0) → (∀ k_s, k_s < 7 → f1_s 112 k_s = (if G_s.1 = m_s then coolO G_s.2 else G_s.2) k_s) → frG f0_s f1_s → V (h_s.1, f1_s, h_s.2.2.1, h_s.2.2.2)) : ∀ (F_s n_s j_s : Nat) (l2 : Option Value) (f_s : Nat → Nat → Int32) (o : oI), j_s + n_s = m_s → (f_s 102 22).toInt = (j_s : Int) → (∀ k_s, k_s < 7 → f_s 112 k_s = o k_s) → oB o → (j_s + (gmO lw st_s kd n_s o).1, (gmO lw st_s kd n_s o).2) = G_s → frG f0_s f_s → wF F_s 183 (18, [some (.ref 102), some (.int x1_s), l2], [], (h_s.1, f_s, h_s.2.2.1, h_s.2.2.2)) (gV V)
  | 0, _, _, _, _, _, _, _, _, _, _, _ => wF_zero
  | F_s + 1, n_s, j_s, l2, f_s, o, hj, h22, ho, hB_s, hG, hfr => by
    have z68 : zix (68 + x1_s) = 68 + r_s := zxa (c_s := 68) (a_s := 68) rfl hx (by omega)
    have e68 : f_s 103 (68 + r_s) = f0_s 103 (68 + r_s) := hfr 103 _ (by omega) (by omega) (by omega)
    have o2 : f_s 112 2 = o 2 := ho 2 (by omega)
    have o3_s : f_s 112 3 = o 3 := ho 3 (by omega)
    refine sg_183_18 (h_s := (h_s.1, f_s, h_s.2.2.1, h_s.2.2.2)) hk ?_
    dsimp only
    rw [z68, e68, h22, hm1, o2, o3_s, isub0]
    refine fun _ => ⟨fun c2_s => ⟨fun c4_s => ?_, fun c4_s => ⟨fun c11_s => absurd c11_s (by omega), fun c11_s => ?_⟩⟩, fun c2_s => ⟨fun c20_s => ?_, fun c20_s => absurd (show (j_s : Int) = (m_s : Int) by omega) c20_s⟩⟩
    · obtain ⟨n', rfl⟩ := Nat.exists_eq_succ_of_ne_zero (show n_s ≠ 0 by omega)
      have eg : gmO lw st_s kd (n' + 1) o = ((gmO lw st_s kd n' (stpO lw st_s kd o)).1 + 1, (gmO lw st_s kd n' (stpO lw st_s kd o)).2) := by
        show (if 99 ≤ (o 2).toInt then (0, o) else ((gmO lw st_s kd n' (stpO lw st_s kd o)).1 + 1, (gmO lw st_s kd n' (stpO lw st_s kd o)).2)) = _
        rw [if_neg (by omega)]
      have eg : gmO lw st_s kd n'.succ o = _ := eg
      rw [eg] at hG
      have hG2 : (j_s + 1 + (gmO lw st_s kd n' (stpO lw st_s kd o)).1, (gmO lw st_s kd n' (stpO lw st_s kd o)).2) = G_s := by
        rw [← hG]
        show (j_s + 1 + _, _) = (j_s + (_ + 1), _)
        rw [Nat.add_assoc, Nat.add_comm 1]
      have l1 : lawR f_s lw := lawR_fr (hfr _ _ (by omega) (by omega) (by omega)) (fun k_s _ => hfr _ _ (by omega) (by omega) (by omega)) hl
      refine sp_180 (o := o) hk l1 hp hx hr ho hB_s.2.2.2.2.2.2 (fun f1_s hf1 _ => ?_)
      have f1d : ∀ a_s k_s, ¬ a_s = 111 → ¬ (a_s = 102 ∧ 15 ≤ k_s ∧ k_s ≤ 19) → f1_s a_s k_s = f_s a_s k_s := hf1
      rw [hfr 103 (80 + r_s) (by omega) (by omega) (by omega), hfr 103 (92 + r_s) (by omega) (by omega) (by omega), hst, hkd]
      have e22_s : (f1_s 102 22 + 1).toInt = ((j_s + 1 : Nat) : Int) := by
        rw [f1d 102 22 (by omega) (by omega), in1_ (by omega), h22]
        omega
      have nxt_s : ∀ v_s, v_s = mn99 (o 2 + weV lw o st_s kd) → ∀ l : Option Value, wF F_s 183 (18, [some (.ref 102), some (.int x1_s), l], [], (h_s.1, zup (zup f1_s 112 2 v_s) 102 22 (f1_s 102 22 + 1), h_s.2.2.1, h_s.2.2.2)) (gV V) := by
        intro v_s hv l
        refine gr183 (f0_s := f0_s) hk hl hp hx hr hst hkd hm1 hm9 t_s F_s n' (j_s + 1) l _ (stpO lw st_s kd o) (by omega) (by rw [zsame_up]; exact e22_s) (fun k_s hk7 => ?_) (stp_B hB_s) hG2 (fun a_s k_s q1_s q2_s q3_s => ?_)
        · rw [zne_up (by omega)]
          by_cases e_s : k_s = 2
          · subst e_s
            rw [zsame_up, hv]
            exact os_eq.symm
          · rw [zne_up (by omega), f1d 112 k_s (by omega) (by omega), ho k_s hk7]
            exact (os_ne e_s).symm
        · rw [zne_up (by omega), zne_up (by omega), f1d a_s k_s q1_s (by omega)]
          exact hfr a_s k_s q1_s q2_s q3_s
      refine ⟨fun c_s => nxt_s 99 (by unfold mn99; rw [if_pos c_s]) _, fun c_s => nxt_s _ (by unfold mn99; rw [if_neg c_s]) _⟩
    · obtain ⟨n', rfl⟩ := Nat.exists_eq_succ_of_ne_zero (show n_s ≠ 0 by omega)
      have eG : G_s = (j_s, o) := by
        rw [← hG]
        show (j_s + (if 99 ≤ (o 2).toInt then (0, o) else _).1, (if 99 ≤ (o 2).toInt then (0, o) else _).2) = _
        rw [if_pos (by omega)]
        rfl
      refine t_s _ ?_ ?_ (fun k_s hk7 => ?_) (fun a_s k_s q1_s q2_s q3_s => ?_)
      · rw [zne_up (by omega), zne_up (by omega), eG]
        exact h22
      · rw [zne_up (by omega), zsame_up, eG, if_neg (show ¬ j_s = m_s by omega)]
        rfl
      · rw [eG, if_neg (show ¬ j_s = m_s by omega)]
        show _ = o k_s
        by_cases e_s : k_s = 3
        · subst e_s
          exact zsame_up
        · rw [zne_up (by omega), zne_up (by omega)]
          exact ho k_s hk7
      · rw [zne_up (by omega), zne_up (by omega)]
        exact hfr a_s k_s q1_s q2_s q3_s
    · have e0_s : n_s = 0 := by omega
      subst e0_s
      have eG : G_s = (m_s, o) := by
        rw [← hG]
        show (j_s + 0, o) = (m_s, o)
        rw [hj]
      have fin_s : ∀ v_s, v_s = (if 0 < (o 3).toInt then o 3 - 1 else o 3) → V (h_s.1, zup (zup f_s 102 23 1) 112 3 v_s, h_s.2.2.1, h_s.2.2.2) := by
        intro v_s hv
        refine t_s _ ?_ ?_ (fun k_s hk7 => ?_) (fun a_s k_s q1_s q2_s q3_s => ?_)
        · rw [zne_up (by omega), zne_up (by omega), eG, h22]
          omega
        · rw [zne_up (by omega), zsame_up, eG, if_pos rfl]
          rfl
        · rw [eG, if_pos rfl]
          show _ = oset o 3 (if 0 < (o 3).toInt then o 3 - 1 else o 3) k_s
          by_cases e_s : k_s = 3
          · subst e_s
            rw [zsame_up, os_eq]
            exact hv
          · rw [zne_up (by omega), zne_up (by omega), os_ne e_s]
            exact ho k_s hk7
        · rw [zne_up (by omega), zne_up (by omega)]
          exact hfr a_s k_s q1_s q2_s q3_s
      exact ⟨fun c_s => fin_s _ (by rw [if_pos c_s]), fun c_s => fin_s _ (by rw [if_neg c_s])⟩
theorem sp_183 {F_s r_s : Nat} {f_s : Nat → Nat → Int32} {o : oI} (hk : hKn h_s) (hl : lawR f_s lw) (hp : lwP lw) (hx : x1_s.toInt = (r_s : Int)) (hr : r_s < 12) (hm1 : (f_s 103 (68 + r_s)).toInt = (m_s : Int)) (hm9 : m_s ≤ 9) (ho : ∀ k_s, k_s < 7 → f_s 112 k_s = o k_s) (hB_s : oB o) (t_s : ∀ f1_s, (f1_s 102 22).toInt = ((goO lw m_s (f_s 103 (80 + r_s)) (f_s 103 (92 + r_s)) o).1 : Int) → (f1_s 102 23).toInt = (if (goO lw m_s (f_s 103 (80 + r_s)) (f_s 103 (92 + r_s)) o).2.1 = true then 1 else 0) → (∀ k_s, k_s < 7 → f1_s 112 k_s = (goO lw m_s (f_s 103 (80 + r_s)) (f_s 103 (92 + r_s)) o).2.2 k_s) → frG f_s f1_s → V (h_s.1, f1_s, h_s.2.2.1, h_s.2.2.2)) : wF F_s 183 (0, [some (.ref 102), some (.int x1_s), none], [], (h_s.1, f_s, h_s.2.2.1, h_s.2.2.2)) (gV V) := by
  have z80 : zix (80 + x1_s) = 80 + r_s := zxa (c_s := 80) (a_s := 80) rfl hx (by omega)
  have o2 : f_s 112 2 = o 2 := ho 2 (by omega)
  refine wF_le (Nat.le_succ F_s) (sg_183_0 (h_s := (h_s.1, f_s, h_s.2.2.1, h_s.2.2.2)) hk ?_)
  dsimp only
  rw [z80, o2]
  generalize hg : zup (zup f_s 102 22 0) 102 23 0 = g_s
  have gf : ∀ a_s k_s, ¬ (a_s = 102 ∧ (k_s = 22 ∨ k_s = 23)) → g_s a_s k_s = f_s a_s k_s := fun a_s k_s ha_s => by rw [← hg, zne_up (by omega), zne_up (by omega)]
  have g22 : (g_s 102 22).toInt = 0 := by
    rw [← hg, zne_up (by omega), zsame_up]
    rfl
  have g23 : (g_s 102 23).toInt = 0 := by
    rw [← hg, zsame_up]
    rfl
  have fg : frG f_s g_s := fun a_s k_s _ _ q3_s => gf a_s k_s (by omega)
  have no_s : ¬ ((o 2).toInt < 99 ∧ ¬ (9 - o 2 / 11).toInt < (f_s 103 (80 + r_s)).toInt) → V (h_s.1, g_s, h_s.2.2.1, h_s.2.2.2) := fun w_s => by
    have e_s : goO lw m_s (f_s 103 (80 + r_s)) (f_s 103 (92 + r_s)) o = (0, false, o) := by
      unfold goO
      rw [if_neg w_s]
    rw [e_s] at t_s
    exact t_s g_s g22 (by rw [g23]; rfl) (fun k_s hk7 => by rw [gf 112 k_s (by omega)]; exact ho k_s hk7) fg
  refine ⟨fun c1_s => fun _ => ⟨fun c3_s => no_s (fun w_s => w_s.2 c3_s), fun c3_s => ?_⟩, fun c1_s => no_s (fun w_s => c1_s w_s.1)⟩
  have eg : goO lw m_s (f_s 103 (80 + r_s)) (f_s 103 (92 + r_s)) o = (if (gmO lw (f_s 103 (80 + r_s)) (f_s 103 (92 + r_s)) m_s o).1 = m_s then (m_s, true, coolO (gmO lw (f_s 103 (80 + r_s)) (f_s 103 (92 + r_s)) m_s o).2) else ((gmO lw (f_s 103 (80 + r_s)) (f_s 103 (92 + r_s)) m_s o).1, false, (gmO lw (f_s 103 (80 + r_s)) (f_s 103 (92 + r_s)) m_s o).2)) := by
    unfold goO
    rw [if_pos ⟨c1_s, c3_s⟩]
  refine gr183 (f0_s := g_s) (r_s := r_s) (G_s := gmO lw (f_s 103 (80 + r_s)) (f_s 103 (92 + r_s)) m_s o) (st_s := f_s 103 (80 + r_s)) (kd := f_s 103 (92 + r_s)) (m_s := m_s) hk (lawR_fr (gf _ _ (by omega)) (fun k_s _ => gf _ _ (by omega)) hl) hp hx hr (gf _ _ (by omega)) (gf _ _ (by omega)) (by rw [gf _ _ (by omega)]; exact hm1) hm9 (fun f2_s g1 g2 g3_s g4 => ?_) F_s m_s 0 none g_s o (Nat.zero_add m_s) g22 (fun k_s hk7 => by rw [gf 112 k_s (by omega)]; exact ho k_s hk7) hB_s (by rw [Nat.zero_add]) (fun _ _ _ _ _ => rfl)
  refine t_s f2_s ?_ ?_ (fun k_s hk7 => ?_) (fun a_s k_s q1_s q2_s q3_s => by rw [g4 a_s k_s q1_s q2_s q3_s]; exact fg a_s k_s q1_s q2_s q3_s)
  · rw [eg, g1]
    split
    · rename_i w_s
      rw [w_s]
    · rfl
  · rw [eg, g2]
    by_cases w_s : (gmO lw (f_s 103 (80 + r_s)) (f_s 103 (92 + r_s)) m_s o).1 = m_s
    · rw [if_pos w_s, if_pos w_s]
      rfl
    · rw [if_neg w_s, if_neg w_s]
      rfl
  · rw [eg, g3_s k_s hk7]
    split
    · rfl
    · rfl
end GC
