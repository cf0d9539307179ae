/-! STROKES: as told of numbers; class and reference. -/
def hetO (o : oI) : oI := if (o 4).toInt = 1 ∧ 0 < (o 5).toInt then o else oset (oset o 3 (if 6 < (o 3).toInt then 9 else o 3 + 3)) 5 (if 8 < (o 5).toInt then 9 else o 5 + 1)
def naiO (o : oI) : oI := if (o 3).toInt < 1 then o else oset (oset o 3 (o 3 - 1)) 2 (if (o 2).toInt < 10 then 0 else o 2 - 10)
def drwO (o : oI) (e_s : Int32) : oI := if (o 3).toInt < 2 ∨ (o 1 + e_s).toInt < 0 ∨ 5 < (o 1 + e_s).toInt then o else oset (oset o 3 (o 3 - 2)) 1 (o 1 + e_s)
def stO (w_s : Int) (o : oI) : oI := if w_s = 0 then hetO o else if w_s = 3 then naiO o else if w_s = 1 then drwO o 1 else if w_s = 2 then drwO o (-1) else o
section SO
variable {o : oI}
theorem stO_0 {w_s : Int} (e_s : w_s = 0) : stO w_s o = hetO o := by
  unfold stO
  rw [if_pos e_s]
theorem stO_3 {w_s : Int} (e_s : w_s = 3) : stO w_s o = naiO o := by
  unfold stO
  rw [if_neg (by omega), if_pos e_s]
theorem stO_1 {w_s : Int} (e_s : w_s = 1) : stO w_s o = drwO o 1 := by
  unfold stO
  rw [if_neg (by omega), if_neg (by omega), if_pos e_s]
theorem stO_2 {w_s : Int} (e_s : w_s = 2) : stO w_s o = drwO o (-1) := by
  unfold stO
  rw [if_neg (by omega), if_neg (by omega), if_neg (by omega), if_pos e_s]
theorem stO_n {w_s : Int} (e_s : ¬ (w_s = 0 ∨ w_s = 3 ∨ w_s = 1 ∨ w_s = 2)) : stO w_s o = o := by
  unfold stO
  rw [if_neg (by omega), if_neg (by omega), if_neg (by omega), if_neg (by omega)]
theorem sub_i {x_s c_s : Int32} (h0 : 0 ≤ x_s.toInt) (h1 : 0 ≤ c_s.toInt) : (x_s - c_s).toInt = x_s.toInt - c_s.toInt := by
  have r_s := na_rng x_s
  have s_s := na_rng c_s
  exact na_sub (by omega) (by omega)
theorem add_i {x_s c_s : Int32} (h0 : 0 ≤ x_s.toInt) (h1 : x_s.toInt ≤ 1000) (h2 : -1 ≤ c_s.toInt) (h3 : c_s.toInt ≤ 1000) : (x_s + c_s).toInt = x_s.toInt + c_s.toInt := na_add (by omega) (by omega)
theorem mx_sub {x_s c_s : Int32} (h0 : 0 ≤ x_s.toInt) (h1 : 0 ≤ c_s.toInt) : (if 0 < x_s - c_s then x_s - c_s else 0) = if x_s.toInt < c_s.toInt then 0 else x_s - c_s := by
  have e_s := sub_i h0 h1
  by_cases w_s : 0 < x_s - c_s
  · have w1_s := (iq4 _).mp w_s
    rw [if_pos w_s, if_neg (by omega)]
  · have w1_s : ¬ 0 < (x_s - c_s).toInt := fun u_s => w_s ((iq4 _).mpr u_s)
    rw [if_neg w_s]
    by_cases w2_s : x_s.toInt < c_s.toInt
    · rw [if_pos w2_s]
    · rw [if_neg w2_s]
      exact (i0_ (by omega)).symm
theorem mn_add9 {x_s c_s : Int32} (h0 : 0 ≤ x_s.toInt) (h1 : x_s.toInt ≤ 9) (h2 : 0 ≤ c_s.toInt) (h3 : c_s.toInt ≤ 9) : (if x_s + c_s < 9 then x_s + c_s else 9) = if 9 - c_s.toInt < x_s.toInt then 9 else x_s + c_s := by
  have e_s := add_i (c_s := c_s) h0 (by omega) (by omega) (by omega)
  by_cases w_s : x_s + c_s < 9
  · have w1_s := (il_ _ _).mp w_s
    rw [i9_] at w1_s
    rw [if_pos w_s, if_neg (by omega)]
  · have w1_s : ¬ (x_s + c_s).toInt < 9 := fun u_s => w_s ((il_ _ _).mpr (by rw [i9_]; exact u_s))
    rw [if_neg w_s]
    by_cases w2_s : 9 - c_s.toInt < x_s.toInt
    · rw [if_pos w2_s]
    · rw [if_neg w2_s]
      exact Int32.toInt_inj.mp (by rw [i9_]; omega)
theorem i10_ : (10 : Int32).toInt = 10 := rfl
theorem m1_ : (-1 : Int32).toInt = -1 := rfl
theorem sb_ad {x_s : Int32} (h0 : 0 ≤ x_s.toInt) : x_s - 1 = x_s + -1 := by
  have r_s := na_rng x_s
  refine Int32.toInt_inj.mp ?_
  rw [sub_i h0 (by decide), n1_, na_add (by rw [m1_]; omega) (by rw [m1_]; omega), m1_]
  omega
theorem st_B {w_s : Int} (hB_s : oB o) : oB (stO w_s o) := by
  obtain ⟨b0, b1, b2, b3, b4, b5, b6⟩ := hB_s
  have hB_s : oB o := ⟨b0, b1, b2, b3, b4, b5, b6⟩
  have hh : oB (hetO o) := by
    unfold hetO
    split
    · exact hB_s
    · refine ⟨b0, b1, b2, ?_, b4, ?_, b6⟩
      · show 0 ≤ (if 6 < (o 3).toInt then 9 else o 3 + 3).toInt ∧ (if 6 < (o 3).toInt then 9 else o 3 + 3).toInt ≤ 9
        split
        · decide
        · rw [add_i b3.1 (by omega) (by decide) (by decide), i3_]
          omega
      · show 0 ≤ (if 8 < (o 5).toInt then 9 else o 5 + 1).toInt ∧ (if 8 < (o 5).toInt then 9 else o 5 + 1).toInt ≤ 9
        split
        · decide
        · rw [add_i b5.1 (by omega) (by decide) (by decide), n1_]
          omega
  have hn : oB (naiO o) := by
    unfold naiO
    split
    · exact hB_s
    · refine ⟨b0, b1, ?_, ?_, b4, b5, b6⟩
      · show 0 ≤ (if (o 2).toInt < 10 then 0 else o 2 - 10).toInt ∧ (if (o 2).toInt < 10 then 0 else o 2 - 10).toInt ≤ 99
        split
        · decide
        · rw [sub_i b2.1 (by decide), i10_]
          omega
      · show 0 ≤ (o 3 - 1).toInt ∧ (o 3 - 1).toInt ≤ 9
        rw [sub_i b3.1 (by decide), n1_]
        omega
  have hd_s : ∀ e_s : Int32, oB (drwO o e_s) := fun e_s => by
    unfold drwO
    split
    · exact hB_s
    · refine ⟨b0, ?_, b2, ?_, b4, b5, b6⟩
      · show 0 ≤ (o 1 + e_s).toInt ∧ (o 1 + e_s).toInt ≤ 5
        omega
      · show 0 ≤ (o 3 - 2).toInt ∧ (o 3 - 2).toInt ≤ 9
        rw [sub_i b3.1 (by decide), i2_]
        omega
  unfold stO
  split
  · exact hh
  · split
    · exact hn
    · split
      · exact hd_s 1
      · split
        · exact hd_s (-1)
        · exact hB_s
end SO
/-- what a stroke of the class may write -/
def frS (d_s : Nat) (f_s f1_s : Nat → Nat → Int32) : Prop := ∀ a_s k_s, ¬ (a_s = d_s ∧ (k_s = 1 ∨ k_s = 2 ∨ k_s = 3 ∨ k_s = 5)) → f1_s a_s k_s = f_s a_s k_s
section SK_
variable {F_s : Nat} {h_s : zH} {K_s : Int32 → zH → Prop} {d_s : Nat} {x1_s : Int32} {f_s : Nat → Nat → Int32} {o : oI}
theorem set2 {j1 j2_s : Nat} {v1_s v2 : Int32} (hc_s : ∀ k_s, k_s < 6 → f_s d_s k_s = o k_s) (k_s : Nat) (hk : k_s < 6) : zup (zup f_s d_s j1 v1_s) d_s j2_s v2 d_s k_s = oset (oset o j1 v1_s) j2_s v2 k_s := by
  by_cases e_s : k_s = j2_s
  · rw [e_s, zsame_up, os_eq]
  · rw [zne_up (by omega), os_ne e_s]
    by_cases e1_s : k_s = j1
    · rw [e1_s, zsame_up, os_eq]
    · rw [zne_up (by omega), os_ne e1_s]
      exact hc_s k_s hk
theorem oset_sw {j1 j2_s : Nat} {v1_s v2 : Int32} (h_s : ¬ j1 = j2_s) : oset (oset o j1 v1_s) j2_s v2 = oset (oset o j2_s v2) j1 v1_s := by
  funext k_s
  by_cases e_s : k_s = j2_s
  · rw [e_s, os_eq, os_ne (fun w_s => h_s w_s.symm), os_eq]
  · rw [os_ne e_s]
    by_cases e1_s : k_s = j1
    · rw [e1_s, os_eq, os_eq]
    · rw [os_ne e1_s, os_ne e1_s, os_ne e_s]
theorem sp_43 (hk : hKn h_s) (hc_s : ∀ k_s, k_s < 6 → f_s d_s k_s = o k_s) (hB_s : oB o) (t_s : ∀ v_s f1_s, (∀ k_s, k_s < 6 → f1_s d_s k_s = stO x1_s.toInt o k_s) → frS d_s f_s f1_s → (v_s.toInt = 0 ∧ (∀ k_s, stO x1_s.toInt o k_s = o k_s) ∨ v_s.toInt = 1) → K_s v_s (h_s.1, f1_s, h_s.2.2.1, h_s.2.2.2)) : wF F_s 43 (0, [some (.ref d_s), some (.int x1_s)], [], (h_s.1, f_s, h_s.2.2.1, h_s.2.2.2)) (gI K_s) := by
  obtain ⟨b0, b1, b2, b3, b4, b5, b6⟩ := hB_s
  have c1_ : f_s d_s 1 = o 1 := hc_s 1 (by omega)
  have c2_ : f_s d_s 2 = o 2 := hc_s 2 (by omega)
  have c3_ : f_s d_s 3 = o 3 := hc_s 3 (by omega)
  have c4_ : f_s d_s 4 = o 4 := hc_s 4 (by omega)
  have c5_ : f_s d_s 5 = o 5 := hc_s 5 (by omega)
  have nop_s : (∀ k_s, stO x1_s.toInt o k_s = o k_s) → K_s 0 (h_s.1, f_s, h_s.2.2.1, h_s.2.2.2) := fun w_s => t_s 0 f_s (fun k_s hk6 => by rw [w_s k_s]; exact hc_s k_s hk6) (fun _ _ _ => rfl) (Or.inl ⟨rfl, w_s⟩)
  have heat : x1_s.toInt = 0 → ¬ ((o 4).toInt = 1 ∧ 0 < (o 5).toInt) → K_s 1 (h_s.1, zup (zup f_s d_s 3 (if o 3 + 3 < 9 then o 3 + 3 else 9)) d_s 5 (if o 5 + 1 < 9 then o 5 + 1 else 9), h_s.2.2.1, h_s.2.2.2) := fun w_s w1_s => by
    refine t_s 1 _ (fun k_s hk6 => ?_) (fun a_s k_s q_s => by rw [zne_up (by omega), zne_up (by omega)]) (Or.inr rfl)
    rw [set2 hc_s k_s hk6, stO_0 w_s, mn_add9 b3.1 b3.2 (by decide) (by decide), mn_add9 b5.1 b5.2 (by decide) (by decide)]
    unfold hetO
    rw [if_neg w1_s]
    rfl
  have draw_s : ∀ e_s : Int32, stO x1_s.toInt o = drwO o e_s → ¬ ((o 3).toInt < 2 ∨ (o 1 + e_s).toInt < 0 ∨ 5 < (o 1 + e_s).toInt) → K_s 1 (h_s.1, zup (zup f_s d_s 1 (o 1 + e_s)) d_s 3 (if 0 < o 3 - 2 then o 3 - 2 else 0), h_s.2.2.1, h_s.2.2.2) := fun e_s w_s w1_s => by
    refine t_s 1 _ (fun k_s hk6 => ?_) (fun a_s k_s q_s => by rw [zne_up (by omega), zne_up (by omega)]) (Or.inr rfl)
    rw [set2 hc_s k_s hk6, w_s, mx_sub b3.1 (by decide), if_neg (show ¬ (o 3).toInt < (2 : Int32).toInt by rw [i2_]; omega)]
    unfold drwO
    rw [if_neg w1_s, oset_sw (by omega)]
  have nod : ∀ e_s : Int32, stO x1_s.toInt o = drwO o e_s → ((o 3).toInt < 2 ∨ (o 1 + e_s).toInt < 0 ∨ 5 < (o 1 + e_s).toInt) → K_s 0 (h_s.1, f_s, h_s.2.2.1, h_s.2.2.2) := fun e_s w_s w1_s => nop_s (fun k_s => by
    rw [w_s]
    unfold drwO
    rw [if_pos w1_s])
  refine wF_le (Nat.le_succ F_s) (sg_43_0 (h_s := (h_s.1, f_s, h_s.2.2.1, h_s.2.2.2)) hk ?_)
  dsimp only
  have z35 : ∀ v_s, zup f_s d_s 3 v_s d_s 5 = o 5 := fun v_s => by rw [zne_up (by omega)]; exact c5_
  simp only [c1_, c2_, c3_, c4_, c5_, z35, sb_ad b1.1]
  have z11 : ∀ v_s, zup f_s d_s 1 v_s d_s 3 = o 3 := fun v_s => by rw [zne_up (by omega)]; exact c3_
  have z21 : ∀ v_s, zup f_s d_s 2 v_s d_s 3 = o 3 := fun v_s => by rw [zne_up (by omega)]; exact c3_
  simp only [z11, z21]
  refine ⟨fun c1_s => ⟨fun c2_s => ⟨fun c3_s => ⟨fun c4_s => ⟨fun c5_s => ?_, fun c5_s => ?_⟩, fun c4_s => ?_⟩, fun c3_s => ?_⟩, fun c2_s => ⟨fun c6_s => ⟨fun c7_s => ?_, fun c7_s => ?_⟩, fun c6_s => ?_⟩⟩, fun c1_s => ⟨fun c8_s => ⟨fun c9_s => ?_, fun c9_s => ⟨fun c10_s => ?_, fun c10_s => ⟨fun c11_s => ?_, fun c11_s => ?_⟩⟩⟩, fun c8_s => ⟨fun c12_s => ⟨fun c13_s => ?_, fun c13_s => ⟨fun c14_s => ?_, fun c14_s => ⟨fun c15_s => ?_, fun c15_s => ?_⟩⟩⟩, fun c12_s => ⟨fun c16 => ⟨fun c17 => ?_, fun c17 => ?_⟩, fun c16 => ?_⟩⟩⟩⟩
  · refine nop_s (fun k_s => ?_)
    rw [stO_0 c1_s]
    unfold hetO
    rw [if_neg (by omega), if_pos (by omega), if_pos (by omega)]
    by_cases e_s : k_s = 5
    · rw [e_s, os_eq]
      exact Int32.toInt_inj.mp (by rw [i9_]; omega)
    · rw [os_ne e_s]
      by_cases e1_s : k_s = 3
      · rw [e1_s, os_eq]
        exact Int32.toInt_inj.mp (by rw [i9_]; omega)
      · rw [os_ne e1_s]
  · exact heat c1_s (by omega)
  · exact heat c1_s (by omega)
  · refine nop_s (fun k_s => ?_)
    rw [stO_0 c1_s]
    unfold hetO
    rw [if_pos (by omega)]
  · refine nop_s (fun k_s => ?_)
    rw [stO_0 c1_s]
    unfold hetO
    rw [if_neg (by omega), if_pos (by omega), if_pos (by omega)]
    by_cases e_s : k_s = 5
    · rw [e_s, os_eq]
      exact Int32.toInt_inj.mp (by rw [i9_]; omega)
    · rw [os_ne e_s]
      by_cases e1_s : k_s = 3
      · rw [e1_s, os_eq]
        exact Int32.toInt_inj.mp (by rw [i9_]; omega)
      · rw [os_ne e1_s]
  · exact heat c1_s (by omega)
  · exact heat c1_s (by omega)
  · exact nod 1 (stO_1 (by omega)) (Or.inl c9_s)
  · exact nod 1 (stO_1 (by omega)) (Or.inr (Or.inl c10_s))
  · exact nod 1 (stO_1 (by omega)) (Or.inr (Or.inr c11_s))
  · exact draw_s 1 (stO_1 (by omega)) (by omega)
  · exact nod (-1) (stO_2 (by omega)) (Or.inl c13_s)
  · exact nod (-1) (stO_2 (by omega)) (Or.inr (Or.inl c14_s))
  · exact nod (-1) (stO_2 (by omega)) (Or.inr (Or.inr c15_s))
  · exact draw_s (-1) (stO_2 (by omega)) (by omega)
  · refine nop_s (fun k_s => ?_)
    rw [stO_3 (by omega)]
    unfold naiO
    rw [if_pos c17]
  · refine t_s 1 _ (fun k_s hk6 => ?_) (fun a_s k_s q_s => by rw [zne_up (by omega), zne_up (by omega)]) (Or.inr rfl)
    rw [set2 hc_s k_s hk6, stO_3 (by omega), mx_sub b3.1 (by decide), mx_sub b2.1 (by decide), if_neg (show ¬ (o 3).toInt < (1 : Int32).toInt by rw [n1_]; omega)]
    unfold naiO
    rw [if_neg c17, oset_sw (by omega)]
    rfl
  · exact nop_s (fun k_s => by rw [stO_n (by omega)])
/-- the reference -/
theorem sp_184 (hk : hKn h_s) (hx : 0 ≤ x1_s.toInt ∧ x1_s.toInt ≤ 3) (hc_s : ∀ k_s, k_s < 7 → f_s 112 k_s = o k_s) (hB_s : oB o) (t_s : ∀ v_s f1_s, (∀ k_s, k_s < 7 → f1_s 112 k_s = stO x1_s.toInt o k_s) → (∀ a_s k_s, ¬ a_s = 112 → f1_s a_s k_s = f_s a_s k_s) → K_s v_s (h_s.1, f1_s, h_s.2.2.1, h_s.2.2.2)) : wF F_s 184 (0, [some (.ref 102), some (.int x1_s)], [], (h_s.1, f_s, h_s.2.2.1, h_s.2.2.2)) (gI K_s) := by
  obtain ⟨b0, b1, b2, b3, b4, b5, b6⟩ := hB_s
  have c1_ : f_s 112 1 = o 1 := hc_s 1 (by omega)
  have c2_ : f_s 112 2 = o 2 := hc_s 2 (by omega)
  have c3_ : f_s 112 3 = o 3 := hc_s 3 (by omega)
  have c4_ : f_s 112 4 = o 4 := hc_s 4 (by omega)
  have c5_ : f_s 112 5 = o 5 := hc_s 5 (by omega)
  have nop_s : (∀ k_s, stO x1_s.toInt o k_s = o k_s) → K_s 0 (h_s.1, f_s, h_s.2.2.1, h_s.2.2.2) := fun w_s => t_s 0 f_s (fun k_s hk6 => by rw [w_s k_s]; exact hc_s k_s hk6) (fun _ _ _ => rfl)
  have two_s : ∀ (j1 j2_s : Nat) (v1_s v2 : Int32), stO x1_s.toInt o = oset (oset o j1 v1_s) j2_s v2 → K_s 1 (h_s.1, zup (zup f_s 112 j1 v1_s) 112 j2_s v2, h_s.2.2.1, h_s.2.2.2) := fun j1 j2_s v1_s v2 w_s => by
    refine t_s 1 _ (fun k_s hk7 => ?_) (fun a_s k_s q_s => by rw [zne_up (by omega), zne_up (by omega)])
    rw [w_s]
    by_cases e_s : k_s = j2_s
    · rw [e_s, zsame_up, os_eq]
    · rw [zne_up (by omega), os_ne e_s]
      by_cases e1_s : k_s = j1
      · rw [e1_s, zsame_up, os_eq]
      · rw [zne_up (by omega), os_ne e1_s]
        exact hc_s k_s hk7
  have heat : x1_s.toInt = 0 → ¬ ((o 4).toInt = 1 ∧ 0 < (o 5).toInt) → ∀ u_s v_s : Int32, u_s = (if 6 < (o 3).toInt then 9 else o 3 + 3) → v_s = (if 8 < (o 5).toInt then 9 else o 5 + 1) → K_s 1 (h_s.1, zup (zup f_s 112 3 u_s) 112 5 v_s, h_s.2.2.1, h_s.2.2.2) := fun w_s w1_s u_s v_s hu hv => two_s 3 5 u_s v_s (by
    rw [stO_0 w_s, hu, hv]
    unfold hetO
    rw [if_neg w1_s])
  have nod : ∀ e_s : Int32, stO x1_s.toInt o = drwO o e_s → ((o 3).toInt < 2 ∨ (o 1 + e_s).toInt < 0 ∨ 5 < (o 1 + e_s).toInt) → K_s 0 (h_s.1, f_s, h_s.2.2.1, h_s.2.2.2) := fun e_s w_s w1_s => nop_s (fun k_s => by
    rw [w_s]
    unfold drwO
    rw [if_pos w1_s])
  have draw_s : ∀ e_s : Int32, stO x1_s.toInt o = drwO o e_s → ¬ ((o 3).toInt < 2 ∨ (o 1 + e_s).toInt < 0 ∨ 5 < (o 1 + e_s).toInt) → K_s 1 (h_s.1, zup (zup f_s 112 3 (o 3 - 2)) 112 1 (o 1 + e_s), h_s.2.2.1, h_s.2.2.2) := fun e_s w_s w1_s => two_s 3 1 _ _ (by
    rw [w_s]
    unfold drwO
    rw [if_neg w1_s])
  refine wF_le (Nat.le_succ F_s) (sg_184_0 (h_s := (h_s.1, f_s, h_s.2.2.1, h_s.2.2.2)) hk ?_)
  dsimp only
  rw [c1_, c2_, c3_, c4_, c5_]
  refine ⟨fun c1_s => ⟨fun c3_s => ⟨fun c5_s => ?_, fun c5_s => ⟨fun c7_s => ⟨fun c10_s => ?_, fun c10_s => ?_⟩, fun c7_s => ⟨fun c17 => ?_, fun c17 => ?_⟩⟩⟩, fun c3_s => ⟨fun c22 => ⟨fun c25_s => ?_, fun c25_s => ?_⟩, fun c22 => ⟨fun c32_s => ?_, fun c32_s => ?_⟩⟩⟩, fun c1_s => ⟨fun c36_s => ⟨fun c38 => ?_, fun c38 => ⟨fun c42 => ?_, fun c42 => ?_⟩⟩, fun c36_s => ⟨fun c46_s => ⟨fun c48_s => ?_, fun c48_s => ⟨fun c50 => ?_, fun c50 => ⟨fun c51_s => ?_, fun c51_s => ?_⟩⟩⟩, fun c46_s => ⟨fun c57 => ?_, fun c57 => ⟨fun c59 => ?_, fun c59 => ⟨fun c60 => ?_, fun c60 => ?_⟩⟩⟩⟩⟩⟩
  · refine nop_s (fun k_s => ?_)
    rw [stO_0 c1_s]
    unfold hetO
    rw [if_pos (by omega)]
  · exact heat c1_s (by omega) _ _ (by rw [if_pos c7_s]) (by rw [if_pos c10_s])
  · exact heat c1_s (by omega) _ _ (by rw [if_pos c7_s]) (by rw [if_neg c10_s])
  · exact heat c1_s (by omega) _ _ (by rw [if_neg c7_s]) (by rw [if_pos c17])
  · exact heat c1_s (by omega) _ _ (by rw [if_neg c7_s]) (by rw [if_neg c17])
  · exact heat c1_s (by omega) _ _ (by rw [if_pos c22]) (by rw [if_pos c25_s])
  · exact heat c1_s (by omega) _ _ (by rw [if_pos c22]) (by rw [if_neg c25_s])
  · exact heat c1_s (by omega) _ _ (by rw [if_neg c22]) (by rw [if_pos c32_s])
  · exact heat c1_s (by omega) _ _ (by rw [if_neg c22]) (by rw [if_neg c32_s])
  · refine nop_s (fun k_s => ?_)
    rw [stO_3 c36_s]
    unfold naiO
    rw [if_pos c38]
  · refine two_s 3 2 _ _ ?_
    rw [stO_3 c36_s]
    unfold naiO
    rw [if_neg c38, if_pos c42]
  · refine two_s 3 2 _ _ ?_
    rw [stO_3 c36_s]
    unfold naiO
    rw [if_neg c38, if_neg c42]
  · exact nod 1 (stO_1 c46_s) (Or.inl c48_s)
  · exact nod 1 (stO_1 c46_s) (Or.inr (Or.inl c50))
  · exact nod 1 (stO_1 c46_s) (Or.inr (Or.inr c51_s))
  · exact draw_s 1 (stO_1 c46_s) (by omega)
  · exact nod (-1) (stO_2 (by omega)) (Or.inl c57)
  · exact nod (-1) (stO_2 (by omega)) (Or.inr (Or.inl c59))
  · exact nod (-1) (stO_2 (by omega)) (Or.inr (Or.inr c60))
  · exact draw_s (-1) (stO_2 (by omega)) (by omega)
end SK_
