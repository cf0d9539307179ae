/-! ALL ASK: that the heads' asking ends as if they chose by rank, one after the other. -/
def GSI (nh ni : Nat) (ky : Nat → Nat → Int) (hk : Nat → Int) (hb_s : Nat → Int) (ak : Nat → Nat → Bool) : Prop := (∀ i_s, i_s < ni → hb_s i_s = -1 ∨ ∃ p_s : Nat, p_s < nh ∧ hb_s i_s = (p_s : Int)) ∧ (∀ i_s p_s, i_s < ni → p_s < nh → hb_s i_s = (p_s : Int) → ak p_s i_s = true) ∧ (∀ i_s p_s, i_s < ni → p_s < nh → ak p_s i_s = true → ∃ q_s : Nat, q_s < nh ∧ hb_s i_s = (q_s : Int) ∧ hk q_s ≤ hk p_s) ∧ (∀ i_s o p_s, i_s < ni → o < ni → p_s < nh → ak p_s i_s = true → ak p_s o = false → ky p_s i_s < ky p_s o) ∧ (∀ i_s j_s p_s, i_s < ni → j_s < ni → p_s < nh → hb_s i_s = (p_s : Int) → hb_s j_s = (p_s : Int) → i_s = j_s)
def SDp (nh ni : Nat) (ky : Nat → Nat → Int) (hk : Nat → Int) (hd_s : Nat → Int) (p_s : Nat) : Prop := (hd_s p_s = -2 ∧ ∀ i_s : Nat, i_s < ni → ∃ q_s : Nat, q_s < nh ∧ hk q_s < hk p_s ∧ hd_s q_s = (i_s : Int)) ∨ (∃ i_s : Nat, i_s < ni ∧ hd_s p_s = (i_s : Int) ∧ (∀ q_s : Nat, q_s < nh → hk q_s < hk p_s → ¬ hd_s q_s = (i_s : Int)) ∧ ∀ o : Nat, o < ni → ¬ o = i_s → (∃ q_s : Nat, q_s < nh ∧ hk q_s < hk p_s ∧ hd_s q_s = (o : Int)) ∨ ky p_s i_s < ky p_s o)
section GA
variable {nh ni : Nat} {ky : Nat → Nat → Int} {hk : Nat → Int} {hb_s hb1 : Nat → Int} {ak ak1 : Nat → Nat → Bool} {hd_s : Nat → Int} {p_s b_s : Nat}
theorem GS_take (G_s : GSI nh ni ky hk hb_s ak) (hp : p_s < nh) (h0 : ∀ i_s, i_s < ni → ¬ hb_s i_s = (p_s : Int)) (hb_ : b_s < ni) (hm_s : ∀ o, o < ni → ak p_s o = false → o = b_s ∨ ky p_s b_s < ky p_s o) (h1 : hb_s b_s = -1 ∨ ∃ q_s : Nat, q_s < nh ∧ hb_s b_s = (q_s : Int) ∧ hk p_s < hk q_s) (e1_s : hb1 b_s = (p_s : Int)) (e2_s : ∀ i_s, ¬ i_s = b_s → hb1 i_s = hb_s i_s) (e3_s : ak1 p_s b_s = true) (e4_s : ∀ q_s i_s, ¬ (q_s = p_s ∧ i_s = b_s) → ak1 q_s i_s = ak q_s i_s) : GSI nh ni ky hk hb1 ak1 := by
  obtain ⟨g1, g2, g3_s, g4, g5_s⟩ := G_s
  refine ⟨fun i_s hi_s => ?_, fun i_s q_s hi_s hq w_s => ?_, fun i_s q_s hi_s hq w_s => ?_, fun i_s o q_s hi_s ho hq w1_s w2_s => ?_, fun i_s j_s q_s hi_s hj hq w1_s w2_s => ?_⟩
  · by_cases e_s : i_s = b_s
    · rw [e_s, e1_s]
      exact Or.inr ⟨p_s, hp, rfl⟩
    · rw [e2_s i_s e_s]
      exact g1 i_s hi_s
  · by_cases e_s : i_s = b_s
    · rw [e_s, e1_s] at w_s
      have eq_s : q_s = p_s := by omega
      rw [eq_s, e_s]
      exact e3_s
    · rw [e2_s i_s e_s] at w_s
      rw [e4_s q_s i_s (fun u_s => e_s u_s.2)]
      exact g2 i_s q_s hi_s hq w_s
  · by_cases e_s : i_s = b_s
    · subst e_s
      refine ⟨p_s, hp, e1_s, ?_⟩
      by_cases eq_s : q_s = p_s
      · rw [eq_s]
        exact Int.le_refl _
      · rw [e4_s q_s i_s (fun u_s => eq_s u_s.1)] at w_s
        obtain ⟨r_s, r1_s, r2, r3⟩ := g3_s i_s q_s hi_s hq w_s
        rcases h1 with h1 | ⟨r', s1_s, s2_s, s3_s⟩
        · omega
        · have er : r_s = r' := by omega
          subst er
          omega
    · rw [e4_s q_s i_s (fun u_s => e_s u_s.2)] at w_s
      rw [e2_s i_s e_s]
      exact g3_s i_s q_s hi_s hq w_s
  · have w2' : ak q_s o = false := by
      by_cases eo : q_s = p_s ∧ o = b_s
      · rw [eo.1, eo.2, e3_s] at w2_s
        cases w2_s
      · rw [e4_s q_s o eo] at w2_s
        exact w2_s
    by_cases e_s : q_s = p_s ∧ i_s = b_s
    · obtain ⟨rfl, rfl⟩ := e_s
      rcases hm_s o ho w2' with u_s | u_s
      · subst u_s
        rw [e3_s] at w2_s
        cases w2_s
      · exact u_s
    · rw [e4_s q_s i_s e_s] at w1_s
      exact g4 i_s o q_s hi_s ho hq w1_s w2'
  · by_cases e_s : i_s = b_s
    · rw [e_s, e1_s] at w1_s
      have eq_s : q_s = p_s := by omega
      by_cases f_s : j_s = b_s
      · rw [e_s, f_s]
      · rw [e2_s j_s f_s, eq_s] at w2_s
        exact absurd w2_s (h0 j_s hj)
    · rw [e2_s i_s e_s] at w1_s
      by_cases f_s : j_s = b_s
      · rw [f_s, e1_s] at w2_s
        have eq_s : q_s = p_s := by omega
        rw [eq_s] at w1_s
        exact absurd w1_s (h0 i_s hi_s)
      · rw [e2_s j_s f_s] at w2_s
        exact g5_s i_s j_s q_s hi_s hj hq w1_s w2_s
theorem GS_leave (G_s : GSI nh ni ky hk hb_s ak) (hp : p_s < nh) (hb_ : b_s < ni) (hm_s : ∀ o, o < ni → ak p_s o = false → o = b_s ∨ ky p_s b_s < ky p_s o) (h1 : ∃ q_s : Nat, q_s < nh ∧ hb_s b_s = (q_s : Int) ∧ hk q_s ≤ hk p_s) (e3_s : ak1 p_s b_s = true) (e4_s : ∀ q_s i_s, ¬ (q_s = p_s ∧ i_s = b_s) → ak1 q_s i_s = ak q_s i_s) : GSI nh ni ky hk hb_s ak1 := by
  obtain ⟨g1, g2, g3_s, g4, g5_s⟩ := G_s
  refine ⟨g1, fun i_s q_s hi_s hq w_s => ?_, fun i_s q_s hi_s hq w_s => ?_, fun i_s o q_s hi_s ho hq w1_s w2_s => ?_, g5_s⟩
  · by_cases e_s : q_s = p_s ∧ i_s = b_s
    · rw [e_s.1, e_s.2]
      exact e3_s
    · rw [e4_s q_s i_s e_s]
      exact g2 i_s q_s hi_s hq w_s
  · by_cases e_s : q_s = p_s ∧ i_s = b_s
    · rw [e_s.1, e_s.2]
      exact h1
    · rw [e4_s q_s i_s e_s] at w_s
      exact g3_s i_s q_s hi_s hq w_s
  · have w2' : ak q_s o = false := by
      by_cases eo : q_s = p_s ∧ o = b_s
      · rw [eo.1, eo.2, e3_s] at w2_s
        cases w2_s
      · rw [e4_s q_s o eo] at w2_s
        exact w2_s
    by_cases e_s : q_s = p_s ∧ i_s = b_s
    · obtain ⟨rfl, rfl⟩ := e_s
      rcases hm_s o ho w2' with u_s | u_s
      · subst u_s
        rw [e3_s] at w2_s
        cases w2_s
      · exact u_s
    · rw [e4_s q_s i_s e_s] at w1_s
      exact g4 i_s o q_s hi_s ho hq w1_s w2'
theorem GS_start (h1 : ∀ i_s, i_s < ni → hb_s i_s = -1) (h2 : ∀ p_s i_s, p_s < nh → i_s < ni → ak p_s i_s = false) : GSI nh ni ky hk hb_s ak := by
  refine ⟨fun i_s hi_s => Or.inl (h1 i_s hi_s), fun i_s q_s hi_s hq w_s => ?_, fun i_s q_s hi_s hq w_s => ?_, fun i_s o q_s hi_s ho hq w1_s w2_s => ?_, fun i_s j_s q_s hi_s hj hq w1_s w2_s => ?_⟩
  · rw [h1 i_s hi_s] at w_s
    omega
  · rw [h2 q_s i_s hq hi_s] at w_s
    cases w_s
  · rw [h2 q_s i_s hq hi_s] at w1_s
    cases w1_s
  · rw [h1 i_s hi_s] at w1_s
    omega
theorem GS_SD (hinj : ∀ p_s q_s, p_s < nh → q_s < nh → hk p_s = hk q_s → p_s = q_s) (hk0 : ∀ p_s, p_s < nh → 0 ≤ hk p_s) (G_s : GSI nh ni ky hk hb_s ak) (dn : ∀ p_s, p_s < nh → (∃ i_s, i_s < ni ∧ hb_s i_s = (p_s : Int)) ∨ ∀ i_s, i_s < ni → ak p_s i_s = true) (S_s : ∀ p_s, p_s < nh → SDp nh ni ky hk hd_s p_s) : ∀ (n_s p_s : Nat), p_s < nh → hk p_s < (n_s : Int) → ∀ i_s, i_s < ni → (hd_s p_s = (i_s : Int) ↔ hb_s i_s = (p_s : Int))
  | 0, p_s, hp, hn, _, _ => by
    have := hk0 p_s hp
    omega
  | n_s + 1, p_s, hp, hn, i_s, hi_s => by
    obtain ⟨g1, g2, g3_s, g4, g5_s⟩ := G_s
    have ih_s : ∀ q_s, q_s < nh → hk q_s < hk p_s → ∀ j_s, j_s < ni → (hd_s q_s = (j_s : Int) ↔ hb_s j_s = (q_s : Int)) := fun q_s hq hl j_s hj => GS_SD hinj hk0 ⟨g1, g2, g3_s, g4, g5_s⟩ dn S_s n_s q_s hq (by omega) j_s hj
    have fw : ∀ i_s, i_s < ni → hd_s p_s = (i_s : Int) → hb_s i_s = (p_s : Int) := by
      intro i_s hi_s w_s
      rcases S_s p_s hp with ⟨s1_s, _⟩ | ⟨i1_s, s1_s, s2_s, s3_s, s4_s⟩
      · omega
      · have ei : i1_s = i_s := by omega
        subst ei
        have fin_s : ak p_s i1_s = true → hb_s i1_s = (p_s : Int) := fun a_s => by
          obtain ⟨q_s, q1_s, q2_s, q3_s⟩ := g3_s i1_s p_s hi_s hp a_s
          by_cases l : hk q_s < hk p_s
          · exact absurd ((ih_s q_s q1_s l i1_s hi_s).mpr q2_s) (s3_s q_s q1_s l)
          · have eq_s : q_s = p_s := hinj q_s p_s q1_s hp (by omega)
            rw [eq_s] at q2_s
            exact q2_s
        rcases dn p_s hp with ⟨j_s, j1, j2_s⟩ | d_s
        · by_cases e_s : j_s = i1_s
          · rw [← e_s]
            exact j2_s
          · cases ea : ak p_s i1_s with
            | true => exact fin_s ea
            | false =>
              exfalso
              have l := g4 j_s i1_s p_s j1 hi_s hp (g2 j_s p_s j1 hp j2_s) ea
              rcases s4_s j_s j1 e_s with ⟨q_s, q1_s, q2_s, q3_s⟩ | u_s
              · have := (ih_s q_s q1_s q2_s j_s j1).mp q3_s
                have eq_s : q_s = p_s := by omega
                rw [eq_s] at q2_s
                omega
              · omega
        · exact fin_s (d_s i1_s hi_s)
    refine ⟨fw i_s hi_s, fun w_s => ?_⟩
    rcases S_s p_s hp with ⟨_, s2_s⟩ | ⟨i1_s, s1_s, s2_s, s3_s, s4_s⟩
    · obtain ⟨q_s, q1_s, q2_s, q3_s⟩ := s2_s i_s hi_s
      have := (ih_s q_s q1_s q2_s i_s hi_s).mp q3_s
      have eq_s : q_s = p_s := by omega
      rw [eq_s] at q2_s
      omega
    · have u_s := fw i1_s s1_s s2_s
      rw [g5_s i_s i1_s p_s hi_s s1_s hp w_s u_s]
      exact s2_s
end GA
/-- how many bits ahead of n are set -/
def cnB (s_s : Int32) : Nat → Nat
  | 0 => 0
  | n_s + 1 => cnB s_s n_s + (if btv s_s n_s = true then 1 else 0)
theorem cnB_le (s_s : Int32) : ∀ n_s, cnB s_s n_s ≤ n_s
  | 0 => Nat.le_refl 0
  | n_s + 1 => by
    have := cnB_le s_s n_s
    show cnB s_s n_s + (if btv s_s n_s = true then 1 else 0) ≤ n_s + 1
    split <;> omega
theorem cnB_all (s_s : Int32) : ∀ n_s, cnB s_s n_s = n_s → ∀ k_s, k_s < n_s → btv s_s k_s = true
  | 0, _, k_s, hk => absurd hk (Nat.not_lt_zero k_s)
  | n_s + 1, h_s, k_s, hk => by
    have l := cnB_le s_s n_s
    have h_s : cnB s_s n_s + (if btv s_s n_s = true then 1 else 0) = n_s + 1 := h_s
    split at h_s
    · rename_i c_s
      by_cases e_s : k_s = n_s
      · rw [e_s]
        exact c_s
      · exact cnB_all s_s n_s (by omega) k_s (by omega)
    · omega
theorem cnB_set {s_s s1_s : Int32} {v_s : Nat} (h1 : btv s_s v_s = false) (h2 : btv s1_s v_s = true) (h3 : ∀ k_s, k_s < 32 → ¬ k_s = v_s → btv s1_s k_s = btv s_s k_s) : ∀ n_s, n_s ≤ 32 → cnB s1_s n_s = cnB s_s n_s + (if v_s < n_s then 1 else 0)
  | 0, _ => rfl
  | n_s + 1, hn => by
    have ih_s := cnB_set h1 h2 h3 n_s (by omega)
    show cnB s1_s n_s + (if btv s1_s n_s = true then 1 else 0) = cnB s_s n_s + (if btv s_s n_s = true then 1 else 0) + (if v_s < n_s + 1 then 1 else 0)
    rw [ih_s]
    by_cases e_s : n_s = v_s
    · subst e_s
      rw [h1, h2, if_neg (by omega), if_pos rfl, if_neg Bool.false_ne_true, if_pos (by omega)]
    · rw [h3 n_s (by omega) e_s]
      by_cases l : v_s < n_s
      · rw [if_pos l, if_pos (show v_s < n_s + 1 by omega)]
        omega
      · rw [if_neg l, if_neg (show ¬ v_s < n_s + 1 by omega)]
        omega
