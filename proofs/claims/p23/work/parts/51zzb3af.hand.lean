/-! THE CLASS WORKS A LAW OUT: one sign's step. -/
def nsg (c_s : Int32) : Prop := (¬ c_s.toInt = 48 ∧ ¬ c_s.toInt = 109) ∧ (¬ c_s.toInt = 33 ∧ ¬ c_s.toInt = 59) ∧ (¬ c_s.toInt = 63 ∧ ¬ c_s.toInt = 126)
theorem sgn_in {s0_s : Int} (hs0 : ¬ lvl s0_s = -1) : ∃ c_s : Int32, c_s.toInt = s0_s ∧ Int32.ofInt s0_s = c_s ∧ nsg c_s := by
  have hv : s0_s = 124 ∨ s0_s = 38 ∨ s0_s = 60 ∨ s0_s = 61 ∨ s0_s = 62 ∨ s0_s = 43 ∨ s0_s = 45 ∨ s0_s = 37 ∨ s0_s = 42 ∨ s0_s = 47 := by
    by_cases e_s : s0_s = 124 ∨ s0_s = 38 ∨ s0_s = 60 ∨ s0_s = 61 ∨ s0_s = 62 ∨ s0_s = 43 ∨ s0_s = 45 ∨ s0_s = 37 ∨ s0_s = 42 ∨ s0_s = 47
    · exact e_s
    · exfalso
      apply hs0
      unfold lvl
      rw [if_neg (by omega), if_neg (by omega), if_neg (by omega), if_neg (by omega), if_neg (by omega)]
  rcases hv with e_s | e_s | e_s | e_s | e_s | e_s | e_s | e_s | e_s | e_s <;> (subst e_s; exact ⟨_, by decide, rfl, by unfold nsg; decide⟩)
theorem zget_sh {α : Type} {c_s : α} : ∀ {l1 l2 : List α} {j_s : Nat}, zget l2 j_s = some c_s → zget (l1 ++ l2) (l1.length + j_s) = some c_s
  | [], l2, j_s, hj => by
    rw [List.nil_append, List.length_nil, Nat.zero_add]
    exact hj
  | a_s :: l1, l2, j_s, hj => by
    rw [List.cons_append, List.length_cons, Nat.add_right_comm]
    exact zget_sh (l1 := l1) (l2 := l2) (j_s := j_s) hj
theorem dec1_ {x2_s : Int32} {w_s : Nat} (h2 : x2_s.toInt = ((w_s + 1 : Nat) : Int)) : zix (x2_s - 1) = w_s ∧ (x2_s + -1).toInt = (w_s : Int) := by
  have r_s := na_rng x2_s
  have m1_s : (-1 : Int32).toInt = -1 := rfl
  have e_s : (x2_s - 1).toInt = (w_s : Int) := by
    rw [na_sub (by rw [n1_]; omega) (by rw [n1_]; omega), n1_]
    omega
  have e1_s : (x2_s + -1).toInt = (w_s : Int) := by
    rw [na_add (by rw [m1_s]; omega) (by rw [m1_s]; omega), m1_s]
    omega
  have z_s := azix (i := x2_s - 1) (by omega)
  exact ⟨by omega, e1_s⟩
section SJ
variable {F_s : Nat} {h_s : zH} {K_s : Int32 → zH → Prop} {q_s w_s P_s s_s L_s : Nat} {x2_s x3 x4_s x6 sc_s : Int32} {l7 : Option Value} {f_s : Nat → Nat → Int32}
theorem jn83 (hm_s : q_s = 14 ∨ q_s = 17) (hk : hKn h_s) (h2 : x2_s.toInt = ((w_s + 2 : Nat) : Int)) (hn : nsg sc_s) (t_s : wF F_s 58 (32, [some (.ref q_s), some (.ref 13), some (.int (x2_s + -1)), some (.int x3), some (.int (x4_s + 1)), some (.int sc_s), some (.int x6), some (.int (f_s (q_s + 2) (w_s + 1)))], [], (h_s.1, zup f_s (q_s + 2) w_s (jnv (f_s (q_s + 2) w_s) sc_s.toInt (f_s (q_s + 2) (w_s + 1))), h_s.2.2.1, h_s.2.2.2)) (gI K_s)) : wF F_s 58 (83, [some (.ref q_s), some (.ref 13), some (.int x2_s), some (.int x3), some (.int x4_s), some (.int sc_s), some (.int x6), l7], [], (h_s.1, f_s, h_s.2.2.1, h_s.2.2.2)) (gI K_s) := by
  have d1_s := dec1_ (x2_s := x2_s) (w_s := w_s + 1) h2
  have d2_s := dec1_ (x2_s := x2_s + -1) (w_s := w_s) d1_s.2
  have c1_s : ¬ x2_s.toInt < 1 := by omega
  have c2_s : ¬ x2_s.toInt < 2 := by omega
  refine wF_le (Nat.le_succ F_s) (sg_58_83 (h_s := (h_s.1, f_s, h_s.2.2.1, h_s.2.2.2)) hm_s hk ⟨fun d_s => absurd d_s hn.1.1, fun _ => ⟨fun d_s => absurd d_s hn.1.2, fun _ => ⟨fun d_s => absurd d_s c1_s, fun _ => fun _ => ⟨fun d_s => absurd d_s hn.2.1.1, fun _ => ⟨fun d_s => absurd d_s hn.2.1.2, fun _ => ⟨fun d_s => absurd d_s hn.2.2.1, fun _ => ⟨fun d_s => absurd d_s hn.2.2.2, fun _ => ⟨fun d_s => absurd d_s c2_s, fun _ => fun _ => ?_⟩⟩⟩⟩⟩⟩⟩⟩)
  refine sp_60 hk (fun _ => ?_)
  dsimp only
  rw [d1_s.1, d2_s.1]
  exact t_s
theorem un83 (hm_s : q_s = 14 ∨ q_s = 17) (hk : hKn h_s) (h2 : x2_s.toInt = ((w_s + 1 : Nat) : Int)) (t_s : ∀ m7_s : Option Value, wF F_s 58 (32, [some (.ref q_s), some (.ref 13), some (.int x2_s), some (.int x3), some (.int (x4_s + 1)), some (.int 33), some (.int x6), m7_s], [], (h_s.1, zup f_s (q_s + 2) w_s (if f_s (q_s + 2) w_s = 0 then 1 else 0), h_s.2.2.1, h_s.2.2.2)) (gI K_s)) : wF F_s 58 (83, [some (.ref q_s), some (.ref 13), some (.int x2_s), some (.int x3), some (.int x4_s), some (.int 33), some (.int x6), l7], [], (h_s.1, f_s, h_s.2.2.1, h_s.2.2.2)) (gI K_s) := by
  have d1_s := (dec1_ (x2_s := x2_s) (w_s := w_s) h2).1
  have c1_s : ¬ x2_s.toInt < 1 := by omega
  refine wF_le (Nat.le_succ F_s) (sg_58_83 (h_s := (h_s.1, f_s, h_s.2.2.1, h_s.2.2.2)) hm_s hk ⟨fun d_s => absurd d_s (by decide), fun _ => ⟨fun d_s => absurd d_s (by decide), fun _ => ⟨fun d_s => absurd d_s c1_s, fun _ => fun _ => ⟨fun _ => ⟨fun d_s => ?_, fun d_s => ?_⟩, fun d_s => absurd rfl d_s⟩⟩⟩⟩)
  · dsimp only at d_s ⊢
    rw [d1_s] at d_s ⊢
    have t1_s := t_s (some (.int (f_s (q_s + 2) w_s)))
    rw [if_pos (i0_ d_s)] at t1_s
    exact t1_s
  · dsimp only at d_s ⊢
    rw [d1_s] at d_s ⊢
    have t1_s := t_s (some (.int (f_s (q_s + 2) w_s)))
    rw [if_neg (n0_ d_s)] at t1_s
    exact t1_s
theorem ng83 (hm_s : q_s = 14 ∨ q_s = 17) (hk : hKn h_s) (h2 : x2_s.toInt = ((w_s + 1 : Nat) : Int)) (t_s : ∀ m7_s : Option Value, wF F_s 58 (32, [some (.ref q_s), some (.ref 13), some (.int x2_s), some (.int x3), some (.int (x4_s + 1)), some (.int 126), some (.int x6), m7_s], [], (h_s.1, zup f_s (q_s + 2) w_s (-(f_s (q_s + 2) w_s)), h_s.2.2.1, h_s.2.2.2)) (gI K_s)) : wF F_s 58 (83, [some (.ref q_s), some (.ref 13), some (.int x2_s), some (.int x3), some (.int x4_s), some (.int 126), some (.int x6), l7], [], (h_s.1, f_s, h_s.2.2.1, h_s.2.2.2)) (gI K_s) := by
  have d1_s := (dec1_ (x2_s := x2_s) (w_s := w_s) h2).1
  have c1_s : ¬ x2_s.toInt < 1 := by omega
  refine wF_le (Nat.le_succ F_s) (sg_58_83 (h_s := (h_s.1, f_s, h_s.2.2.1, h_s.2.2.2)) hm_s hk ⟨fun d_s => absurd d_s (by decide), fun _ => ⟨fun d_s => absurd d_s (by decide), fun _ => ⟨fun d_s => absurd d_s c1_s, fun _ => fun _ => ⟨fun d_s => absurd d_s (by decide), fun _ => ⟨fun d_s => absurd d_s (by decide), fun _ => ⟨fun d_s => absurd d_s (by decide), fun _ => ⟨fun _ => ?_, fun d_s => absurd rfl d_s⟩⟩⟩⟩⟩⟩⟩)
  dsimp only
  rw [d1_s]
  exact t_s _
theorem en83 (hm_s : q_s = 14 ∨ q_s = 17) (hk : hKn h_s) (h2 : x2_s.toInt = ((w_s + 1 : Nat) : Int)) (t_s : K_s (f_s (q_s + 2) w_s) (h_s.1, f_s, h_s.2.2.1, h_s.2.2.2)) : wF F_s 58 (83, [some (.ref q_s), some (.ref 13), some (.int x2_s), some (.int x3), some (.int x4_s), some (.int 59), some (.int x6), l7], [], (h_s.1, f_s, h_s.2.2.1, h_s.2.2.2)) (gI K_s) := by
  have d1_s := (dec1_ (x2_s := x2_s) (w_s := w_s) h2).1
  have c1_s : ¬ x2_s.toInt < 1 := by omega
  refine wF_le (Nat.le_succ F_s) (sg_58_83 (h_s := (h_s.1, f_s, h_s.2.2.1, h_s.2.2.2)) hm_s hk ⟨fun d_s => absurd d_s (by decide), fun _ => ⟨fun d_s => absurd d_s (by decide), fun _ => ⟨fun d_s => absurd d_s c1_s, fun _ => fun _ => ⟨fun d_s => absurd d_s (by decide), fun _ => ⟨fun _ => ?_, fun d_s => absurd rfl d_s⟩⟩⟩⟩⟩)
  dsimp only
  rw [d1_s]
  exact t_s
theorem qu83 (hm_s : q_s = 14 ∨ q_s = 17) (hk : hKn h_s) (h2 : x2_s.toInt = ((w_s + 1 : Nat) : Int)) (t0_s : f_s (q_s + 2) w_s = 0 → wF F_s 58 (32, [some (.ref q_s), some (.ref 13), some (.int (x2_s + -1)), some (.int (if x3 < x6 then x6 else x3)), some (.int (x4_s + 1)), some (.int 63), some (.int x6), some (.int (f_s (q_s + 2) w_s))], [], (h_s.1, f_s, h_s.2.2.1, h_s.2.2.2)) (gI K_s)) (t1_s : ¬ f_s (q_s + 2) w_s = 0 → wF F_s 58 (32, [some (.ref q_s), some (.ref 13), some (.int (x2_s + -1)), some (.int (x3 + 1)), some (.int (x4_s + 1)), some (.int 63), some (.int x6), some (.int (f_s (q_s + 2) w_s))], [], (h_s.1, f_s, h_s.2.2.1, h_s.2.2.2)) (gI K_s)) : wF F_s 58 (83, [some (.ref q_s), some (.ref 13), some (.int x2_s), some (.int x3), some (.int x4_s), some (.int 63), some (.int x6), l7], [], (h_s.1, f_s, h_s.2.2.1, h_s.2.2.2)) (gI K_s) := by
  have d1_s := (dec1_ (x2_s := x2_s) (w_s := w_s) h2).1
  have c1_s : ¬ x2_s.toInt < 1 := by omega
  refine wF_le (Nat.le_succ F_s) (sg_58_83 (h_s := (h_s.1, f_s, h_s.2.2.1, h_s.2.2.2)) hm_s hk ⟨fun d_s => absurd d_s (by decide), fun _ => ⟨fun d_s => absurd d_s (by decide), fun _ => ⟨fun d_s => absurd d_s c1_s, fun _ => fun _ => ⟨fun d_s => absurd d_s (by decide), fun _ => ⟨fun d_s => absurd d_s (by decide), fun _ => ⟨fun _ => ⟨fun d_s => ?_, fun d_s => ?_⟩, fun d_s => absurd rfl d_s⟩⟩⟩⟩⟩⟩)
  · dsimp only at d_s ⊢
    rw [d1_s] at d_s ⊢
    exact t0_s (i0_ d_s)
  · dsimp only at d_s ⊢
    rw [d1_s] at d_s ⊢
    exact t1_s (n0_ d_s)
end SJ
