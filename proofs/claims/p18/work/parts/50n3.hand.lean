/-! NUMBERS, and two things known of one run. -/
theorem n1_ : (1 : Int32).toInt = 1 := rfl
theorem in1_ {x_s : Int32} (q_s : x_s.toInt < 2147483647) : (x_s + 1).toInt = x_s.toInt + 1 := by
  have r_s := na_rng x_s
  rw [na_add (by rw [n1_]; omega) (by rw [n1_]; omega), n1_]
theorem i60_ : (60 : Int32).toInt = 60 := rfl
theorem i50_ : (50 : Int32).toInt = 50 := rfl
theorem m60_ {d_s : Int32} (h0 : 0 ≤ d_s.toInt) (h1 : d_s.toInt ≤ 5) : (60 * d_s).toInt = 60 * d_s.toInt := by
  rw [na_mul (by rw [i60_]; omega) (by rw [i60_]; omega), i60_]
theorem a60_ {d_s i_s : Int32} (h0 : 0 ≤ d_s.toInt) (h1 : d_s.toInt ≤ 5) (h2 : 0 ≤ i_s.toInt) (h3 : i_s.toInt ≤ 60) : (60 * d_s + i_s).toInt = 60 * d_s.toInt + i_s.toInt := by
  have e_s := m60_ h0 h1
  rw [na_add (by rw [e_s]; omega) (by rw [e_s]; omega), e_s]
theorem zx60 {d_s i_s : Int32} (h0 : 0 ≤ d_s.toInt) (h1 : d_s.toInt ≤ 5) (h2 : 0 ≤ i_s.toInt) (h3 : i_s.toInt ≤ 60) : zix (60 * d_s + i_s) = 60 * zix d_s + zix i_s := by
  have e_s := a60_ h0 h1 h2 h3
  have a1_s := azix h0
  have a2 := azix h2
  have a3 := azix (i := 60 * d_s + i_s) (by omega)
  omega
theorem zx60k {d_s i_s k_s : Int32} (h0 : 0 ≤ d_s.toInt) (h1 : d_s.toInt ≤ 5) (h2 : 0 ≤ i_s.toInt) (h3 : i_s.toInt ≤ 60) (h4 : 0 ≤ k_s.toInt) (h5 : k_s.toInt ≤ 60) : zix (60 * d_s + i_s + k_s) = 60 * zix d_s + zix i_s + zix k_s := by
  have e_s := a60_ h0 h1 h2 h3
  have e2_s : (60 * d_s + i_s + k_s).toInt = 60 * d_s.toInt + i_s.toInt + k_s.toInt := by rw [na_add (by rw [e_s]; omega) (by rw [e_s]; omega), e_s]
  have a1_s := azix h0
  have a2 := azix h2
  have a4 := azix h4
  have a3 := azix (i := 60 * d_s + i_s + k_s) (by omega)
  omega
theorem waI {F_s mi : Nat} {x_s : zC} {K1 K2 : Int32 → zH → Prop} (a_s : wF F_s mi x_s (gI K1)) (b_s : wF F_s mi x_s (gI K2)) : wF F_s mi x_s (gI (fun v_s h_s => K1 v_s h_s ∧ K2 v_s h_s)) := by
  intro f_s d_s r_s h1 hf hr
  obtain ⟨v_s, e1_s, k1_s, p1_s⟩ := a_s f_s d_s r_s h1 hf hr
  obtain ⟨u_s, e2_s, _, p2_s⟩ := b_s f_s d_s r_s h1 hf hr
  rw [e1_s] at e2_s
  cases e2_s
  exact ⟨v_s, e1_s, k1_s, p1_s, p2_s⟩
theorem waJ {F_s mi : Nat} {x_s : zC} {K1 K2 : Int64 → zH → Prop} (a_s : wF F_s mi x_s (gJ K1)) (b_s : wF F_s mi x_s (gJ K2)) : wF F_s mi x_s (gJ (fun v_s h_s => K1 v_s h_s ∧ K2 v_s h_s)) := by
  intro f_s d_s r_s h1 hf hr
  obtain ⟨v_s, e1_s, k1_s, p1_s⟩ := a_s f_s d_s r_s h1 hf hr
  obtain ⟨u_s, e2_s, _, p2_s⟩ := b_s f_s d_s r_s h1 hf hr
  rw [e1_s] at e2_s
  cases e2_s
  exact ⟨v_s, e1_s, k1_s, p1_s, p2_s⟩
