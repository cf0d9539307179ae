/-! THE FIRST ELEMENT THAT TELLS WORN WRONGLY: class and reference say the same number. -/
def ffR (go_s : oI → Nat → Nat × Bool × oI) (told_s : Nat → Int64) (L_s : Nat) : Nat → Nat → oI → Int
  | 0, _, _ => -2
  | d_s + 1, n_s, o => if n_s = 0 then (if (told_s 0).toInt = (o 2).toInt then ffR go_s told_s L_s d_s 1 o else 0) else if n_s ≤ L_s ∧ (go_s o (n_s - 1)).2.1 = true then (if (told_s n_s).toInt = ((go_s o (n_s - 1)).2.2 2).toInt then ffR go_s told_s L_s d_s (n_s + 1) (go_s o (n_s - 1)).2.2 else (n_s : Int)) else (n_s : Int)
section FF
variable {go_s : oI → Nat → Nat × Bool × oI} {told_s : Nat → Int64} {L_s d_s n_s : Nat} {o : oI}
theorem ff_0 : ffR go_s told_s L_s (d_s + 1) 0 o = if (told_s 0).toInt = (o 2).toInt then ffR go_s told_s L_s d_s 1 o else 0 := if_pos rfl
theorem ff_no (hn : ¬ n_s = 0) (h_s : ¬ (n_s ≤ L_s ∧ (go_s o (n_s - 1)).2.1 = true)) : ffR go_s told_s L_s (d_s + 1) n_s o = (n_s : Int) := (if_neg hn).trans (if_neg h_s)
theorem ff_yes (hn : ¬ n_s = 0) (h_s : n_s ≤ L_s ∧ (go_s o (n_s - 1)).2.1 = true) : ffR go_s told_s L_s (d_s + 1) n_s o = if (told_s n_s).toInt = ((go_s o (n_s - 1)).2.2 2).toInt then ffR go_s told_s L_s d_s (n_s + 1) (go_s o (n_s - 1)).2.2 else (n_s : Int) := (if_neg hn).trans (if_pos h_s)
end FF
def goJ (lw : Option (List pB)) (f_s : Nat → Nat → Int32) (c_s : Nat → Int64) (o : oI) (k_s : Nat) : Nat × Bool × oI := goF lw f_s o (c_s k_s).toInt.toNat
def frJ (f0_s f_s : Nat → Nat → Int32) : Prop := ∀ a_s k_s, ¬ a_s = 13 → ¬ a_s = 16 → ¬ a_s = 19 → ¬ (a_s = 88 ∧ k_s < 7) → ¬ (a_s = 50 ∧ (k_s = 2 ∨ k_s = 3)) → f_s a_s k_s = f0_s a_s k_s
section FW
variable {h_s : zH} {K_s : Int32 → zH → Prop} {nh ni nr q_s L_s s_s : Nat} {lw : Option (List pB)} {x1_s x2_s : Int32} {f0_s : Nat → Nat → Int32} {c_s told_s : Nat → Int64} {R_s : Int}
def P3 (h_s : zH) (K_s : Int32 → zH → Prop) (f0_s : Nat → Nat → Int32) (lw : Option (List pB)) (c_s told_s : Nat → Int64) (L_s s_s : Nat) (R_s : Int) (F_s : Nat) : Prop := ∀ (x4_s : Int32) (l5 : Option Value) (n_s d_s : Nat) (f_s : Nat → Nat → Int32) (o : oI), frJ f0_s f_s → cwO f_s 88 o → oB o → x4_s.toInt = (n_s : Int) → ((n_s + d_s : Nat) : Int) = (f0_s (76 + 2 * s_s) 3).toInt → ffR (goJ lw f0_s c_s) told_s L_s d_s n_s o = R_s → wF F_s 51 (3, [some (.ref 50), some (.ref 88), some (.ref (76 + 2 * s_s)), some (.ref 7), some (.int x4_s), l5], [], (h_s.1, f_s, h_s.2.2.1, h_s.2.2.2)) (gI K_s)
def P46 (h_s : zH) (K_s : Int32 → zH → Prop) (f0_s : Nat → Nat → Int32) (lw : Option (List pB)) (c_s told_s : Nat → Int64) (L_s s_s : Nat) (R_s : Int) (F_s : Nat) : Prop := ∀ (x4_s x5_s : Int32) (n_s d_s : Nat) (f_s : Nat → Nat → Int32) (o : oI), frJ f0_s f_s → cwO f_s 88 o → oB o → x4_s.toInt = (n_s : Int) → ((n_s + d_s + 1 : Nat) : Int) = (f0_s (76 + 2 * s_s) 3).toInt → (x5_s.toInt = 0 → (n_s : Int) = R_s) → (¬ x5_s.toInt = 0 → (if (told_s n_s).toInt = (o 2).toInt then ffR (goJ lw f0_s c_s) told_s L_s d_s (n_s + 1) o else (n_s : Int)) = R_s) → wF F_s 51 (46, [some (.ref 50), some (.ref 88), some (.ref (76 + 2 * s_s)), some (.ref 7), some (.int x4_s), some (.int x5_s)], [], (h_s.1, f_s, h_s.2.2.1, h_s.2.2.2)) (gI K_s)
theorem p3_s {F_s : Nat} (hk : hKn h_s) (hs : s_s < 6) (hr9 : h_s.2.2.2 7 9 = some q_s) (hm_s : q_s = 14 ∨ q_s = 17) (hl : lawC q_s f0_s lw) (hp : lwP lw) (hc_s : tC nh ni nr f0_s) (eL : (f0_s 50 1).toInt = (L_s : Int)) (es : ∀ k_s, k_s < L_s → f0_s 51 k_s = (c_s k_s).toInt32) (ok_s : ∀ k_s, k_s < L_s → okK nr (c_s k_s)) (c60 : (f0_s (76 + 2 * s_s) 3).toInt ≤ 60) (t_s : ∀ v_s f1_s, v_s.toInt = R_s → frJ f0_s f1_s → K_s v_s (h_s.1, f1_s, h_s.2.2.1, h_s.2.2.2)) (i4_s : P46 h_s K_s f0_s lw c_s told_s L_s s_s R_s F_s) : P3 h_s K_s f0_s lw c_s told_s L_s s_s R_s (F_s + 1) := by
  intro x4_s l5 n_s d_s f_s o g_s hcw hB_s e4_s ed hR
  have e7_s : f_s (76 + 2 * s_s) 3 = f0_s (76 + 2 * s_s) 3 := g_s _ _ (by omega) (by omega) (by omega) (by omega) (by omega)
  have e50 : f_s 50 1 = f0_s 50 1 := g_s _ _ (by omega) (by omega) (by omega) (by omega) (by omega)
  have b_s := hc_s.1
  refine sg_51_3 (h_s := (h_s.1, f_s, h_s.2.2.1, h_s.2.2.2)) hs hk ?_
  dsimp only
  rw [e7_s, e50, eL, e4_s]
  match d_s, ed, hR with
  | 0, ed, hR => exact ⟨fun c1_s => absurd c1_s (by omega), fun _ => t_s (-2) f_s hR g_s⟩
  | d_s + 1, ed, hR =>
    have e5_s : ((n_s + d_s + 1 : Nat) : Int) = (f0_s (76 + 2 * s_s) 3).toInt := by omega
    refine ⟨fun c1_s => ⟨fun c2_s => ?_, fun c2_s => ⟨fun c3_s => ?_, fun c3_s => ?_⟩⟩, fun c1_s => absurd c1_s (by omega)⟩
    · have en : n_s = 0 := by omega
      subst en
      rw [ff_0] at hR
      exact i4_s x4_s 1 0 d_s f_s o g_s hcw hB_s e4_s e5_s (fun w_s => absurd w_s (by decide)) (fun _ => hR)
    · rw [ff_no (by omega) (fun w_s => by have := w_s.1; omega)] at hR
      exact i4_s x4_s 0 n_s d_s f_s o g_s hcw hB_s e4_s e5_s (fun _ => hR) (fun w_s => absurd rfl w_s)
    · have hn : ¬ n_s = 0 := by omega
      have e1_s : (x4_s - 1).toInt = ((n_s - 1 : Nat) : Int) := by
        rw [sb1 e4_s]
        omega
      have ko := ok_s (n_s - 1) (by omega)
      have t3_s := t32_ (x_s := c_s (n_s - 1)) ko.1 (by have := ko.2; omega)
      have e51 : (f_s 51 (n_s - 1)).toInt = (((c_s (n_s - 1)).toInt.toNat : Nat) : Int) := by
        rw [g_s _ _ (by omega) (by omega) (by omega) (by omega) (by omega), es (n_s - 1) (by omega), t3_s]
        have := ko.1
        omega
      have hc1 : tC nh ni nr f_s := tC_fr (fun a_s k_s w_s => g_s a_s k_s (by unfold inC at w_s; omega) (by unfold inC at w_s; omega) (by unfold inC at w_s; omega) (by unfold inC at w_s; omega) (by unfold inC at w_s; omega)) hc_s
      have l1 : lawC q_s f_s lw := lawC_fr hm_s (fun a_s k_s w_s => g_s a_s k_s (by omega) (by omega) (by omega) (by omega) (by omega)) hl
      have eg : goF lw f_s o (c_s (n_s - 1)).toInt.toNat = goJ lw f0_s c_s o (n_s - 1) := goF_fr (fun k_s => g_s 103 k_s (by omega) (by omega) (by omega) (by omega) (by omega))
      refine sp_50 (k_s := n_s - 1) (r_s := (c_s (n_s - 1)).toInt.toNat) hk hr9 hm_s l1 hp hc1 e1_s e51 (by have := ko.1; have := ko.2; omega) hcw hB_s (fun v_s f1_s g1 _ _ g4 g5_s _ => ?_)
      rw [eg] at g1 g4
      have hB2 : oB (goJ lw f0_s c_s o (n_s - 1)).2.2 := go_B hB_s
      have g6 : frJ f0_s f1_s := fun a_s k_s q1_s q2_s q3_s q4_s q5_s => by
        rw [g5_s a_s k_s q1_s q2_s q3_s (by omega) q5_s]
        exact g_s a_s k_s q1_s q2_s q3_s q4_s q5_s
      refine ⟨fun c4_s => ?_, fun c4_s => ?_⟩
      · have no_s : ¬ (goJ lw f0_s c_s o (n_s - 1)).2.1 = true := fun w_s => by
          rw [if_pos w_s] at g1
          omega
        rw [ff_no hn (fun w_s => no_s w_s.2)] at hR
        exact i4_s x4_s 0 n_s d_s f1_s _ g6 g4 hB2 e4_s e5_s (fun _ => hR) (fun w_s => absurd rfl w_s)
      · have yes_s : (goJ lw f0_s c_s o (n_s - 1)).2.1 = true := by
          cases e_s : (goJ lw f0_s c_s o (n_s - 1)).2.1 with
          | true => rfl
          | false =>
            rw [if_neg (by rw [e_s]; decide)] at g1
            omega
        rw [ff_yes hn ⟨by omega, yes_s⟩] at hR
        exact i4_s x4_s 1 n_s d_s f1_s _ g6 g4 hB2 e4_s e5_s (fun w_s => absurd w_s (by decide)) (fun _ => hR)
theorem p46_s {F_s : Nat} (hk : hKn h_s) (hs : s_s < 6) (ht : ∀ n_s, n_s < 60 → h_s.2.2.1 (76 + 2 * s_s + 1) n_s = told_s n_s) (c60 : (f0_s (76 + 2 * s_s) 3).toInt ≤ 60) (t_s : ∀ v_s f1_s, v_s.toInt = R_s → frJ f0_s f1_s → K_s v_s (h_s.1, f1_s, h_s.2.2.1, h_s.2.2.2)) (i3_s : P3 h_s K_s f0_s lw c_s told_s L_s s_s R_s F_s) : P46 h_s K_s f0_s lw c_s told_s L_s s_s R_s (F_s + 1) := by
  intro x4_s x5_s n_s d_s f_s o g_s hcw hB_s e4_s ed h0 h1
  have z_s := azix (i := x4_s) (by omega)
  have ez : zix x4_s = n_s := by omega
  have e5_s : (x4_s + 1).toInt = ((n_s + 1 : Nat) : Int) := by
    rw [in1_ (by omega), e4_s]
    omega
  refine sg_51_46 (h_s := (h_s.1, f_s, h_s.2.2.1, h_s.2.2.2)) hs hk ?_
  dsimp only
  rw [ez, ht n_s (by omega), hcw.1 2 (by omega)]
  refine ⟨fun c1_s => t_s x4_s f_s (by rw [e4_s]; exact h0 c1_s) g_s, fun c1_s => fun c2_s => ⟨fun c3_s => ?_, fun c3_s => ?_⟩⟩
  · have u_s := h1 c1_s
    rw [if_pos c3_s] at u_s
    exact i3_s (x4_s + 1) _ (n_s + 1) d_s f_s o g_s hcw hB_s e5_s (by omega) u_s
  · have u_s := h1 c1_s
    rw [if_neg c3_s] at u_s
    exact t_s x4_s f_s (by rw [e4_s]; exact u_s) g_s
theorem p_all (hk : hKn h_s) (hs : s_s < 6) (hr9 : h_s.2.2.2 7 9 = some q_s) (hm_s : q_s = 14 ∨ q_s = 17) (hl : lawC q_s f0_s lw) (hp : lwP lw) (hc_s : tC nh ni nr f0_s) (eL : (f0_s 50 1).toInt = (L_s : Int)) (es : ∀ k_s, k_s < L_s → f0_s 51 k_s = (c_s k_s).toInt32) (ok_s : ∀ k_s, k_s < L_s → okK nr (c_s k_s)) (ht : ∀ n_s, n_s < 60 → h_s.2.2.1 (76 + 2 * s_s + 1) n_s = told_s n_s) (c60 : (f0_s (76 + 2 * s_s) 3).toInt ≤ 60) (t_s : ∀ v_s f1_s, v_s.toInt = R_s → frJ f0_s f1_s → K_s v_s (h_s.1, f1_s, h_s.2.2.1, h_s.2.2.2)) : ∀ F_s, P3 h_s K_s f0_s lw c_s told_s L_s s_s R_s F_s ∧ P46 h_s K_s f0_s lw c_s told_s L_s s_s R_s F_s
  | 0 => ⟨fun _ _ _ _ _ _ _ _ _ _ _ _ => wF_zero, fun _ _ _ _ _ _ _ _ _ _ _ _ _ => wF_zero⟩
  | F_s + 1 => by
    obtain ⟨i3_s, i4_s⟩ := p_all hk hs hr9 hm_s hl hp hc_s eL es ok_s ht c60 t_s F_s
    exact ⟨p3_s hk hs hr9 hm_s hl hp hc_s eL es ok_s c60 t_s i4_s, p46_s hk hs ht c60 t_s i3_s⟩
theorem sp_51 {F_s : Nat} {o : oI} (hk : hKn h_s) (hs : s_s < 6) (hr9 : h_s.2.2.2 7 9 = some q_s) (hm_s : q_s = 14 ∨ q_s = 17) (hl : lawC q_s f0_s lw) (hp : lwP lw) (hc_s : tC nh ni nr f0_s) (eL : (f0_s 50 1).toInt = (L_s : Int)) (es : ∀ k_s, k_s < L_s → f0_s 51 k_s = (c_s k_s).toInt32) (ok_s : ∀ k_s, k_s < L_s → okK nr (c_s k_s)) (ht : ∀ n_s, n_s < 60 → h_s.2.2.1 (76 + 2 * s_s + 1) n_s = told_s n_s) (c0_s : 0 ≤ (f0_s (76 + 2 * s_s) 3).toInt) (c60 : (f0_s (76 + 2 * s_s) 3).toInt ≤ 60) (hcw : cwO f0_s 88 o) (hB_s : oB o) (t_s : ∀ v_s f1_s, v_s.toInt = ffR (goJ lw f0_s c_s) told_s L_s (f0_s (76 + 2 * s_s) 3).toInt.toNat 0 o → frJ f0_s f1_s → K_s v_s (h_s.1, f1_s, h_s.2.2.1, h_s.2.2.2)) : wF F_s 51 (0, [some (.ref 50), some (.ref 88), some (.ref (76 + 2 * s_s)), some (.ref 7), none, none], [], (h_s.1, f0_s, h_s.2.2.1, h_s.2.2.2)) (gI K_s) := by
  refine wF_le (Nat.le_succ F_s) (sg_51_0 (h_s := (h_s.1, f0_s, h_s.2.2.1, h_s.2.2.2)) hs hk ?_)
  exact (p_all hk hs hr9 hm_s hl hp hc_s eL es ok_s ht c60 t_s F_s).1 0 none 0 _ f0_s o (fun _ _ _ _ _ _ _ => rfl) hcw hB_s rfl (by omega) rfl
/-- the reference -/
def R10 (h_s : zH) (K_s : Int32 → zH → Prop) (f0_s : Nat → Nat → Int32) (lw : Option (List pB)) (c_s told_s : Nat → Int64) (L_s s2_s : Nat) (x1_s x2_s : Int32) (R_s : Int) (F_s : Nat) : Prop := ∀ (x3 x4_s : Int32) (n_s d_s : Nat) (f_s : Nat → Nat → Int32) (o : oI), frG f0_s f_s → (∀ k_s, k_s < 7 → f_s 112 k_s = o k_s) → oB o → ¬ x3.toInt = 0 → x4_s.toInt = (n_s : Int) → ((n_s + d_s : Nat) : Int) = (f0_s 125 s2_s).toInt → ffR (goJ lw f0_s c_s) told_s L_s d_s n_s o = R_s → wF F_s 204 (10, [some (.ref 102), some (.int x1_s), some (.int x2_s), some (.int x3), some (.int x4_s)], [], (h_s.1, f_s, h_s.2.2.1, h_s.2.2.2)) (gI K_s)
def R52 (h_s : zH) (K_s : Int32 → zH → Prop) (f0_s : Nat → Nat → Int32) (lw : Option (List pB)) (c_s told_s : Nat → Int64) (L_s s2_s : Nat) (x1_s x2_s : Int32) (R_s : Int) (F_s : Nat) : Prop := ∀ (x3 x4_s : Int32) (n_s d_s : Nat) (f_s : Nat → Nat → Int32) (o : oI), frG f0_s f_s → (∀ k_s, k_s < 7 → f_s 112 k_s = o k_s) → oB o → (x3.toInt = 0 ∧ ¬ n_s ≤ L_s) ∨ (¬ x3.toInt = 0 ∧ n_s ≤ L_s) → 0 < n_s → x4_s.toInt = (n_s : Int) → ((n_s + d_s + 1 : Nat) : Int) = (f0_s 125 s2_s).toInt → ffR (goJ lw f0_s c_s) told_s L_s (d_s + 1) n_s o = R_s → wF F_s 204 (52, [some (.ref 102), some (.int x1_s), some (.int x2_s), some (.int x3), some (.int x4_s)], [], (h_s.1, f_s, h_s.2.2.1, h_s.2.2.2)) (gI K_s)
def R83 (h_s : zH) (K_s : Int32 → zH → Prop) (f0_s : Nat → Nat → Int32) (lw : Option (List pB)) (c_s told_s : Nat → Int64) (L_s s2_s : Nat) (x1_s x2_s : Int32) (R_s : Int) (F_s : Nat) : Prop := ∀ (x3 x4_s : Int32) (n_s d_s : Nat) (f_s : Nat → Nat → Int32) (o : oI), frG f0_s f_s → (∀ k_s, k_s < 7 → f_s 112 k_s = o k_s) → oB o → x4_s.toInt = (n_s : Int) → ((n_s + d_s + 1 : Nat) : Int) = (f0_s 125 s2_s).toInt → (x3.toInt = 0 → (n_s : Int) = R_s) → (¬ x3.toInt = 0 → (if (told_s n_s).toInt = (o 2).toInt then ffR (goJ lw f0_s c_s) told_s L_s d_s (n_s + 1) o else (n_s : Int)) = R_s) → wF F_s 204 (83, [some (.ref 102), some (.int x1_s), some (.int x2_s), some (.int x3), some (.int x4_s)], [], (h_s.1, f_s, h_s.2.2.1, h_s.2.2.2)) (gI K_s)
theorem r10_s {F_s s1_s s2_s : Nat} (hk : hKn h_s) (hc_s : tM nh ni nr f0_s) (d1_s : (x1_s / 10).toInt = (s1_s : Int)) (d2_s : (x1_s - x1_s / 10 * 10).toInt = (s2_s : Int)) (hs1 : s1_s < 6) (hs2 : s2_s < 6) (n0_s : 0 ≤ (f0_s 125 s1_s).toInt) (ec : ∀ k_s, c_s k_s = h_s.2.2.1 126 (60 * s1_s + k_s)) (hJ : isJ nr c_s (f0_s 125 s1_s).toInt L_s) (t_s : ∀ v_s f1_s, v_s.toInt = R_s → frG f0_s f1_s → K_s v_s (h_s.1, f1_s, h_s.2.2.1, h_s.2.2.2)) (i5_s : R52 h_s K_s f0_s lw c_s told_s L_s s2_s x1_s x2_s R_s F_s) (i8_s : R83 h_s K_s f0_s lw c_s told_s L_s s2_s x1_s x2_s R_s F_s) : R10 h_s K_s f0_s lw c_s told_s L_s s2_s x1_s x2_s R_s (F_s + 1) := by
  intro x3 x4_s n_s d_s f_s o g_s ho hB_s h3 e4_s ed hR
  have z1 := azix (i := x1_s / 10) (by omega)
  have ez1 : zix (x1_s / 10) = s1_s := by omega
  have z2 := azix (i := x1_s - x1_s / 10 * 10) (by omega)
  have ez2 : zix (x1_s - x1_s / 10 * 10) = s2_s := by omega
  have e25_s : ∀ k_s, f_s 125 k_s = f0_s 125 k_s := fun k_s => g_s _ _ (by omega) (by omega) (by omega)
  have c8_s : (f_s 102 8).toInt = (nr : Int) := by
    rw [g_s 102 8 (by omega) (by omega) (by omega)]
    exact hc_s.2.1.2.2
  refine sg_204_10 (h_s := (h_s.1, f_s, h_s.2.2.1, h_s.2.2.2)) hk ?_
  dsimp only
  rw [ez2, e25_s, e4_s]
  intro c1_s
  match d_s, ed, hR with
  | 0, ed, hR => exact ⟨fun c2_s => absurd c2_s (by omega), fun _ => t_s (-2) f_s hR g_s⟩
  | d_s + 1, ed, hR =>
    have e5_s : ((n_s + d_s + 1 : Nat) : Int) = (f0_s 125 s2_s).toInt := by omega
    refine ⟨fun c2_s => ⟨fun c3_s => ⟨fun c4_s => absurd c4_s h3, fun c4_s => ?_⟩, fun c3_s => ?_⟩, fun c2_s => absurd c2_s (by omega)⟩
    · refine sp_187 (h_s := (h_s.1, f_s, h_s.2.2.1, h_s.2.2.2)) (nr := nr) hk c8_s (by omega) (by omega) (by show 0 ≤ (f_s 125 (zix (x1_s / 10))).toInt; rw [ez1, e25_s]; exact n0_s) (fun v_s L1 ev_s hj hk5 => ?_)
      have hj : isJ nr (fun k_s => h_s.2.2.1 126 (60 * zix (x1_s / 10) + k_s)) (f_s 125 (zix (x1_s / 10))).toInt L1 := hj
      rw [ez1, e25_s] at hj
      have el : L1 = L_s := isJ_u hj (isJ_c (fun k_s _ => (ec k_s).symm) hJ)
      subst el
      exact ⟨fun c5_s => i5_s 0 x4_s n_s d_s f_s o g_s ho hB_s (Or.inl ⟨rfl, by omega⟩) (by omega) e4_s e5_s hR, fun c5_s => i5_s 1 x4_s n_s d_s f_s o g_s ho hB_s (Or.inr ⟨by decide, by omega⟩) (by omega) e4_s e5_s hR⟩
    · have en : n_s = 0 := by omega
      subst en
      rw [ff_0] at hR
      exact i8_s x3 x4_s 0 d_s f_s o g_s ho hB_s e4_s e5_s (fun w_s => absurd w_s h3) (fun _ => hR)
theorem r52_s {F_s s1_s s2_s : Nat} (hk : hKn h_s) (hc_s : tM nh ni nr f0_s) (hl : lawR f0_s lw) (hp : lwP lw) (d1_s : (x1_s / 10).toInt = (s1_s : Int)) (hs1 : s1_s < 6) (c60 : (f0_s 125 s2_s).toInt ≤ 60) (ec : ∀ k_s, c_s k_s = h_s.2.2.1 126 (60 * s1_s + k_s)) (ok_s : ∀ k_s, k_s < L_s → okK nr (c_s k_s)) (i8_s : R83 h_s K_s f0_s lw c_s told_s L_s s2_s x1_s x2_s R_s F_s) : R52 h_s K_s f0_s lw c_s told_s L_s s2_s x1_s x2_s R_s (F_s + 1) := by
  intro x3 x4_s n_s d_s f_s o g_s ho hB_s h3 hn e4_s ed hR
  have b_s := hc_s.1
  have hn0 : ¬ n_s = 0 := by omega
  refine sg_204_52 (h_s := (h_s.1, f_s, h_s.2.2.1, h_s.2.2.2)) hk ?_
  dsimp only
  refine ⟨fun c1_s => ?_, fun c1_s => fun c2_s => ?_⟩
  · rw [ff_no hn0 (fun w_s => by have := w_s.1; omega)] at hR
    exact i8_s x3 x4_s n_s d_s f_s o g_s ho hB_s e4_s ed (fun _ => hR) (fun w_s => absurd c1_s w_s)
  · have hL : n_s ≤ L_s := by omega
    have z1 := azix (i := x1_s / 10) (by omega)
    have ez1 : zix (x1_s / 10) = s1_s := by omega
    have e1_s : (x4_s - 1).toInt = ((n_s - 1 : Nat) : Int) := by
      rw [sb1 e4_s]
      omega
    have z4 := azix (i := x4_s - 1) (by omega)
    have ez4 : zix (x4_s - 1) = n_s - 1 := by omega
    have zz := zx60 (d_s := x1_s / 10) (i_s := x4_s - 1) (by omega) (by omega) (by omega) (by omega)
    rw [ez1, ez4] at zz
    rw [sub1_as, zz, ← ec (n_s - 1)]
    have ko := ok_s (n_s - 1) (by omega)
    have t3_s := t32_ (x_s := c_s (n_s - 1)) ko.1 (by have := ko.2; omega)
    have er : (c_s (n_s - 1)).toInt = (((c_s (n_s - 1)).toInt.toNat : Nat) : Int) := by
      have := ko.1
      omega
    have hr1 : (c_s (n_s - 1)).toInt.toNat < nr := by
      have := ko.2
      omega
    have m0_s : tM nh ni nr f_s := tM_fr (fun k_s _ _ => g_s _ _ (by omega) (by omega) (by omega)) (fun k_s _ => g_s _ _ (by omega) (by omega) (by omega)) hc_s
    obtain ⟨m1_s, m2_s, m3_s⟩ := tM_ml m0_s hr1
    have l1 : lawR f_s lw := lawR_fr (g_s _ _ (by omega) (by omega) (by omega)) (fun k_s _ => g_s _ _ (by omega) (by omega) (by omega)) hl
    have eg : goF lw f_s o (c_s (n_s - 1)).toInt.toNat = goJ lw f0_s c_s o (n_s - 1) := goF_fr (fun k_s => g_s 103 k_s (by omega) (by omega) (by omega))
    refine sp_183 (h_s := (h_s.1, f_s, h_s.2.2.1, h_s.2.2.2)) (o := o) (r_s := (c_s (n_s - 1)).toInt.toNat) (m_s := zix (f_s 103 (68 + (c_s (n_s - 1)).toInt.toNat))) hk l1 hp (by rw [t3_s]; exact er) (by omega) m1_s m2_s ho hB_s (fun f1_s p1_s p2_s p3_s p4_s hk2 => ?_)
    have p2_s : (f1_s 102 23).toInt = (if (goF lw f_s o (c_s (n_s - 1)).toInt.toNat).2.1 = true then 1 else 0) := p2_s
    have p3_s : ∀ k_s, k_s < 7 → f1_s 112 k_s = (goF lw f_s o (c_s (n_s - 1)).toInt.toNat).2.2 k_s := p3_s
    rw [eg] at p2_s p3_s
    refine i8_s (f1_s 102 23) x4_s n_s d_s f1_s _ (frG_tr g_s p4_s) p3_s (go_B hB_s) e4_s ed (fun w_s => ?_) (fun w_s => ?_)
    · have no_s : ¬ (goJ lw f0_s c_s o (n_s - 1)).2.1 = true := fun u_s => by
        rw [if_pos u_s] at p2_s
        omega
      rw [ff_no hn0 (fun u_s => no_s u_s.2)] at hR
      exact hR
    · have yes_s : (goJ lw f0_s c_s o (n_s - 1)).2.1 = true := by
        cases e_s : (goJ lw f0_s c_s o (n_s - 1)).2.1 with
        | true => rfl
        | false =>
          rw [if_neg (by rw [e_s]; decide)] at p2_s
          exact absurd p2_s w_s
      rw [ff_yes hn0 ⟨hL, yes_s⟩] at hR
      exact hR
theorem r83_s {F_s s2_s : Nat} (hk : hKn h_s) (d2_s : (x1_s - x1_s / 10 * 10).toInt = (s2_s : Int)) (hs2 : s2_s < 6) (c60 : (f0_s 125 s2_s).toInt ≤ 60) (et : ∀ n_s, told_s n_s = h_s.2.2.1 126 (60 * s2_s + n_s)) (t_s : ∀ v_s f1_s, v_s.toInt = R_s → frG f0_s f1_s → K_s v_s (h_s.1, f1_s, h_s.2.2.1, h_s.2.2.2)) (i1_s : R10 h_s K_s f0_s lw c_s told_s L_s s2_s x1_s x2_s R_s F_s) : R83 h_s K_s f0_s lw c_s told_s L_s s2_s x1_s x2_s R_s (F_s + 1) := by
  intro x3 x4_s n_s d_s f_s o g_s ho hB_s e4_s ed h0 h1
  have z2 := azix (i := x1_s - x1_s / 10 * 10) (by omega)
  have ez2 : zix (x1_s - x1_s / 10 * 10) = s2_s := by omega
  have z4 := azix (i := x4_s) (by omega)
  have ez4 : zix x4_s = n_s := by omega
  have zz := zx60 (d_s := x1_s - x1_s / 10 * 10) (i_s := x4_s) (by omega) (by omega) (by omega) (by omega)
  rw [ez2, ez4] at zz
  have e5_s : (x4_s + 1).toInt = ((n_s + 1 : Nat) : Int) := by
    rw [in1_ (by omega), e4_s]
    omega
  refine sg_204_83 (h_s := (h_s.1, f_s, h_s.2.2.1, h_s.2.2.2)) hk ?_
  dsimp only
  rw [zz, ← et n_s, ho 2 (by omega)]
  refine ⟨fun c1_s => t_s x4_s f_s (by rw [e4_s]; exact h0 c1_s) g_s, fun c1_s => fun c2_s => ⟨fun c4_s => ?_, fun c4_s => ?_⟩⟩
  · have u_s := h1 c1_s
    rw [if_pos c4_s] at u_s
    exact i1_s x3 (x4_s + 1) (n_s + 1) d_s f_s o g_s ho hB_s c1_s e5_s (by omega) u_s
  · have u_s := h1 c1_s
    rw [if_neg c4_s] at u_s
    exact t_s x4_s f_s (by rw [e4_s]; exact u_s) g_s
theorem r_all {s1_s s2_s : Nat} (hk : hKn h_s) (hc_s : tM nh ni nr f0_s) (hl : lawR f0_s lw) (hp : lwP lw) (d1_s : (x1_s / 10).toInt = (s1_s : Int)) (d2_s : (x1_s - x1_s / 10 * 10).toInt = (s2_s : Int)) (hs1 : s1_s < 6) (hs2 : s2_s < 6) (n0_s : 0 ≤ (f0_s 125 s1_s).toInt) (c60 : (f0_s 125 s2_s).toInt ≤ 60) (ec : ∀ k_s, c_s k_s = h_s.2.2.1 126 (60 * s1_s + k_s)) (et : ∀ n_s, told_s n_s = h_s.2.2.1 126 (60 * s2_s + n_s)) (hJ : isJ nr c_s (f0_s 125 s1_s).toInt L_s) (t_s : ∀ v_s f1_s, v_s.toInt = R_s → frG f0_s f1_s → K_s v_s (h_s.1, f1_s, h_s.2.2.1, h_s.2.2.2)) : ∀ F_s, R10 h_s K_s f0_s lw c_s told_s L_s s2_s x1_s x2_s R_s F_s ∧ R52 h_s K_s f0_s lw c_s told_s L_s s2_s x1_s x2_s R_s F_s ∧ R83 h_s K_s f0_s lw c_s told_s L_s s2_s x1_s x2_s R_s F_s
  | 0 => ⟨fun _ _ _ _ _ _ _ _ _ _ _ _ _ => wF_zero, fun _ _ _ _ _ _ _ _ _ _ _ _ _ _ => wF_zero, fun _ _ _ _ _ _ _ _ _ _ _ _ _ => wF_zero⟩
  | F_s + 1 => by
    obtain ⟨i1_s, i5_s, i8_s⟩ := r_all hk hc_s hl hp d1_s d2_s hs1 hs2 n0_s c60 ec et hJ t_s F_s
    exact ⟨r10_s hk hc_s d1_s d2_s hs1 hs2 n0_s ec hJ t_s i5_s i8_s, r52_s hk hc_s hl hp d1_s hs1 c60 ec hJ.2.2.1 i8_s, r83_s hk d2_s hs2 c60 et t_s i1_s⟩
theorem sp_204 {F_s i_s s1_s s2_s : Nat} (hk : hKn h_s) (hc_s : tM nh ni nr f0_s) (hl : lawR f0_s lw) (hp : lwP lw) (e2_s : x2_s.toInt = (i_s : Int)) (hi_s : i_s < ni) (d1_s : (x1_s / 10).toInt = (s1_s : Int)) (d2_s : (x1_s - x1_s / 10 * 10).toInt = (s2_s : Int)) (hs1 : s1_s < 6) (hs2 : s2_s < 6) (n0_s : 0 ≤ (f0_s 125 s1_s).toInt) (n2_s : 0 ≤ (f0_s 125 s2_s).toInt) (c60 : (f0_s 125 s2_s).toInt ≤ 60) (ec : ∀ k_s, c_s k_s = h_s.2.2.1 126 (60 * s1_s + k_s)) (et : ∀ n_s, told_s n_s = h_s.2.2.1 126 (60 * s2_s + n_s)) (hJ : isJ nr c_s (f0_s 125 s1_s).toInt L_s) (t_s : ∀ v_s f1_s, v_s.toInt = ffR (goJ lw f0_s c_s) told_s L_s (f0_s 125 s2_s).toInt.toNat 0 (owI f0_s i_s) → frG f0_s f1_s → K_s v_s (h_s.1, f1_s, h_s.2.2.1, h_s.2.2.2)) : wF F_s 204 (0, [some (.ref 102), some (.int x1_s), some (.int x2_s), none, none], [], (h_s.1, f0_s, h_s.2.2.1, h_s.2.2.2)) (gI K_s) := by
  have b_s := hc_s.1
  refine wF_le (Nat.le_succ F_s) (sg_204_0 (h_s := (h_s.1, f0_s, h_s.2.2.1, h_s.2.2.2)) hk ?_)
  refine sp_178 hk e2_s (by omega) (tM_hd hc_s hi_s).1 (fun f1_s g1 g2 hk1 => ?_)
  exact (r_all hk hc_s hl hp d1_s d2_s hs1 hs2 n0_s c60 ec et hJ t_s F_s).1 1 0 0 _ f1_s (owI f0_s i_s) (fun a_s k_s q1_s q2_s q3_s => g2 a_s k_s q2_s) g1 (tM_oB hc_s hi_s) (by decide) rfl (by omega) rfl
end FW
