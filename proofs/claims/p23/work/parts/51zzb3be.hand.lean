/-! ALL ASK, the class: heads by rank choose one after the other. -/
section CA_s
variable {h_s : zH} {K_s : Int32 → zH → Prop} {V : zH → Prop} {nh ni nr p_s : Nat} {x1_s x2_s : Int32} {f_s : Nat → Nat → Int32}
theorem nr27 (hk : hKn h_s) (hc_s : tC nh ni nr f_s) (e1_s : x1_s.toInt = (p_s : Int)) (hp : p_s < nh) (t_s : ∀ v_s, bsN (kyI f_s p_s) (btv x2_s) (-2) ni v_s.toInt → K_s v_s (h_s.1, f_s, h_s.2.2.1, h_s.2.2.2)) : ∀ (F_s n_s : Nat) (x3 x4_s : Int32), x4_s.toInt = (n_s : Int) → n_s ≤ ni → bsN (kyI f_s p_s) (btv x2_s) (-2) n_s x3.toInt → wF F_s 27 (6, [some (.ref 7), some (.int x1_s), some (.int x2_s), some (.int x3), some (.int x4_s)], [], (h_s.1, f_s, h_s.2.2.1, h_s.2.2.2)) (gI K_s)
  | 0, _, _, _, _, _, _ => wF_zero
  | F_s + 1, n_s, x3, x4_s, e4_s, hn, hb_s => by
    have b_s := hc_s.1
    have c7_s := hc_s.2.1.2.1
    have e5_s : (x4_s + 1).toInt = ((n_s + 1 : Nat) : Int) := by
      rw [in1_ (by omega), e4_s]
      omega
    refine sg_27_6 (h_s := (h_s.1, f_s, h_s.2.2.1, h_s.2.2.2)) hk ?_
    dsimp only
    rw [c7_s, e4_s]
    refine ⟨fun c1_s => ⟨fun c2_s => ?_, fun c2_s => ?_⟩, fun c1_s => ?_⟩
    · have hno := (bt_tst (x_s := x2_s) e4_s (by omega)).1.mp c2_s
      have e3_s : x3.toInt < 0 ∨ ∃ o, x3.toInt = ((o : Nat) : Int) ∧ o < ni := by
        rcases hb_s with ⟨a1_s, _⟩ | ⟨o, a1_s, a2, _⟩
        · exact Or.inl (by omega)
        · exact Or.inr ⟨o, a2, by omega⟩
      refine sp_29 hk hc_s e1_s e4_s hp (by omega) e3_s (fun w_s _ => ⟨fun c_s => absurd c_s (by decide), fun _ => ?_⟩) (fun o w1_s w2_s w3_s _ => ⟨fun _ => ?_, fun c_s => absurd rfl c_s⟩)
      · refine nr27 hk hc_s e1_s hp t_s F_s (n_s + 1) x4_s (x4_s + 1) e5_s (by omega) ?_
        rw [e4_s]
        exact bs_take (by omega) hb_s hno (fun o w1_s w2_s => w_s o w1_s (by omega))
      · exact nr27 hk hc_s e1_s hp t_s F_s (n_s + 1) x3 (x4_s + 1) e5_s (by omega) (bs_keep (fun w_s => ky_inj (p_s := p_s) (f_s := f_s) (by omega) o (by omega) w_s) hb_s w1_s (by omega) w3_s)
    · have hno : btv x2_s n_s = true := by
        cases e_s : btv x2_s n_s with
        | true => rfl
        | false => exact absurd ((bt_tst (x_s := x2_s) e4_s (by omega)).1.mpr e_s) c2_s
      exact nr27 hk hc_s e1_s hp t_s F_s (n_s + 1) x3 (x4_s + 1) e5_s (by omega) (bs_skip hb_s hno)
    · have en : n_s = ni := by omega
      subst en
      exact t_s x3 hb_s
theorem sp_27 {F_s : Nat} (hk : hKn h_s) (hc_s : tC nh ni nr f_s) (e1_s : x1_s.toInt = (p_s : Int)) (hp : p_s < nh) (t_s : ∀ v_s, bsN (kyI f_s p_s) (btv x2_s) (-2) ni v_s.toInt → K_s v_s (h_s.1, f_s, h_s.2.2.1, h_s.2.2.2)) : wF F_s 27 (0, [some (.ref 7), some (.int x1_s), some (.int x2_s), none, none], [], (h_s.1, f_s, h_s.2.2.1, h_s.2.2.2)) (gI K_s) := wF_le (Nat.le_succ F_s) (sg_27_0 (h_s := (h_s.1, f_s, h_s.2.2.1, h_s.2.2.2)) hk (nr27 hk hc_s e1_s hp t_s F_s 0 (-2) 0 rfl (Nat.zero_le _) (Or.inl ⟨rfl, fun o ho => absurd ho (Nat.not_lt_zero o)⟩)))
theorem fo26 (hk : hKn h_s) (hc_s : tC nh ni nr f_s) (t_s : ∀ v_s, bsN (hkI f_s) (btv x1_s) (-1) nh v_s.toInt → K_s v_s (h_s.1, f_s, h_s.2.2.1, h_s.2.2.2)) : ∀ (F_s n_s : Nat) (x2_s x3 : Int32), x3.toInt = (n_s : Int) → n_s ≤ nh → bsN (hkI f_s) (btv x1_s) (-1) n_s x2_s.toInt → wF F_s 26 (4, [some (.ref 7), some (.int x1_s), some (.int x2_s), some (.int x3)], [], (h_s.1, f_s, h_s.2.2.1, h_s.2.2.2)) (gI K_s)
  | 0, _, _, _, _, _, _ => wF_zero
  | F_s + 1, n_s, x2_s, x3, e4_s, hn, hb_s => by
    have b_s := hc_s.1
    have c6_s := hc_s.2.1.1
    have e5_s : (x3 + 1).toInt = ((n_s + 1 : Nat) : Int) := by
      rw [in1_ (by omega), e4_s]
      omega
    refine sg_26_4 (h_s := (h_s.1, f_s, h_s.2.2.1, h_s.2.2.2)) hk ?_
    dsimp only
    rw [c6_s, e4_s]
    refine ⟨fun c1_s => ⟨fun c2_s => ?_, fun c2_s => ?_⟩, fun c1_s => ?_⟩
    · have hno := (bt_tst (x_s := x1_s) e4_s (by omega)).1.mp c2_s
      have e3_s : x2_s.toInt < 0 ∨ ∃ o, x2_s.toInt = ((o : Nat) : Int) ∧ o < nh := by
        rcases hb_s with ⟨a1_s, _⟩ | ⟨o, a1_s, a2, _⟩
        · exact Or.inl (by omega)
        · exact Or.inr ⟨o, a2, by omega⟩
      refine sp_28 (p_s := n_s) (q_s := 0) hk hc_s e4_s (by omega) e3_s (fun w_s _ => ⟨fun c_s => absurd c_s (by decide), fun _ => ?_⟩) (fun o w1_s w2_s w3_s _ => ⟨fun _ => ?_, fun c_s => absurd rfl c_s⟩)
      · refine fo26 hk hc_s t_s F_s (n_s + 1) x3 (x3 + 1) e5_s (by omega) ?_
        rw [e4_s]
        exact bs_take (by omega) hb_s hno (fun o w1_s w2_s => w_s o w1_s (by omega))
      · exact fo26 hk hc_s t_s F_s (n_s + 1) x2_s (x3 + 1) e5_s (by omega) (bs_keep (fun w_s => hk_inj (tC_M hc_s) o n_s (by omega) (by omega) w_s) hb_s w1_s (by omega) w3_s)
    · have hno : btv x1_s n_s = true := by
        cases e_s : btv x1_s n_s with
        | true => rfl
        | false => exact absurd ((bt_tst (x_s := x1_s) e4_s (by omega)).1.mpr e_s) c2_s
      exact fo26 hk hc_s t_s F_s (n_s + 1) x2_s (x3 + 1) e5_s (by omega) (bs_skip hb_s hno)
    · have en : n_s = nh := by omega
      subst en
      exact t_s x2_s hb_s
theorem sp_26 {F_s : Nat} (hk : hKn h_s) (hc_s : tC nh ni nr f_s) (t_s : ∀ v_s, bsN (hkI f_s) (btv x1_s) (-1) nh v_s.toInt → K_s v_s (h_s.1, f_s, h_s.2.2.1, h_s.2.2.2)) : wF F_s 26 (0, [some (.ref 7), some (.int x1_s), none, none], [], (h_s.1, f_s, h_s.2.2.1, h_s.2.2.2)) (gI K_s) := wF_le (Nat.le_succ F_s) (sg_26_0 (h_s := (h_s.1, f_s, h_s.2.2.1, h_s.2.2.2)) hk (fo26 hk hc_s t_s F_s 0 (-1) 0 rfl (Nat.zero_le _) (Or.inl ⟨rfl, fun o ho => absurd ho (Nat.not_lt_zero o)⟩)))
theorem fl240 {y1 x3 : Int32} {f0_s : Nat → Nat → Int32} (hk : hKn h_s) (e3_s : x3.toInt = 6) (t_s : ∀ f1_s, (∀ k_s, k_s < 6 → f1_s 12 k_s = y1) → (∀ a_s k_s, ¬ (a_s = 12 ∧ k_s < 6) → f1_s a_s k_s = f0_s a_s k_s) → V (h_s.1, f1_s, h_s.2.2.1, h_s.2.2.2)) : ∀ (F_s n_s : Nat) (x2_s : Int32) (f_s : Nat → Nat → Int32), x2_s.toInt = (n_s : Int) → n_s ≤ 6 → (∀ k_s, k_s < n_s → f_s 12 k_s = y1) → (∀ a_s k_s, ¬ (a_s = 12 ∧ k_s < 6) → f_s a_s k_s = f0_s a_s k_s) → wF F_s 240 (5, [some (.ref 12), some (.int y1), some (.int x2_s), some (.int x3)], [], (h_s.1, f_s, h_s.2.2.1, h_s.2.2.2)) (gV V)
  | 0, _, _, _, _, _, _, _ => wF_zero
  | F_s + 1, n_s, x2_s, f_s, e2_s, hn, hf, hg => by
    have z_s := azix (i := x2_s) (by omega)
    have ez : zix x2_s = n_s := by omega
    refine sg_240_5 (h_s := (h_s.1, f_s, h_s.2.2.1, h_s.2.2.2)) hk ?_
    dsimp only
    rw [ez]
    refine ⟨fun c1_s _ => ?_, fun c1_s => ?_⟩
    · refine fl240 (f0_s := f0_s) hk e3_s t_s F_s (n_s + 1) (x2_s + 1) _ (by rw [in1_ (by omega)]; omega) (by omega) (fun k_s hk1 => ?_) (fun a_s k_s q_s => ?_)
      · by_cases e_s : k_s = n_s
        · rw [e_s, zsame_up]
        · rw [zne_up (by omega)]
          exact hf k_s (by omega)
      · rw [zne_up (by omega)]
        exact hg a_s k_s q_s
    · have en : n_s = 6 := by omega
      subst en
      exact t_s f_s hf hg
theorem SDp_congr {ky : Nat → Nat → Int} {hq : Nat → Int} {hd_s hd1 : Nat → Int} (he : ∀ q_s, q_s < nh → (hq q_s < hq p_s ∨ q_s = p_s) → hd1 q_s = hd_s q_s) (hp : p_s < nh) (S_s : SDp nh ni ky hq hd_s p_s) : SDp nh ni ky hq hd1 p_s := by
  rcases S_s with ⟨s1_s, s2_s⟩ | ⟨i_s, s1_s, s2_s, s3_s, s4_s⟩
  · refine Or.inl ⟨by rw [he p_s hp (Or.inr rfl)]; exact s1_s, fun i_s hi_s => ?_⟩
    obtain ⟨q_s, q1_s, q2_s, q3_s⟩ := s2_s i_s hi_s
    exact ⟨q_s, q1_s, q2_s, by rw [he q_s q1_s (Or.inl q2_s)]; exact q3_s⟩
  · refine Or.inr ⟨i_s, s1_s, by rw [he p_s hp (Or.inr rfl)]; exact s2_s, fun q_s q1_s q2_s => ?_, fun o o1 o2 => ?_⟩
    · rw [he q_s q1_s (Or.inl q2_s)]
      exact s3_s q_s q1_s q2_s
    · rcases s4_s o o1 o2 with ⟨q_s, q1_s, q2_s, q3_s⟩ | u_s
      · exact Or.inl ⟨q_s, q1_s, q2_s, by rw [he q_s q1_s (Or.inl q2_s)]; exact q3_s⟩
      · exact Or.inr u_s
/-- what stands when some are served -/
def srv (nh ni : Nat) (f0_s f_s : Nat → Nat → Int32) (s_s g_s : Int32) (n_s : Nat) : Prop := (∀ q_s, q_s < nh → btv s_s q_s = true → SDp nh ni (kyI f0_s) (hkI f0_s) (fun q_s => (f_s 12 q_s).toInt) q_s) ∧ (∀ q_s, q_s < nh → btv s_s q_s = false → (f_s 12 q_s).toInt = -2) ∧ (∀ a_s q_s, a_s < nh → q_s < nh → btv s_s q_s = true → btv s_s a_s = false → hkI f0_s q_s < hkI f0_s a_s) ∧ (∀ i_s, i_s < ni → (btv g_s i_s = true ↔ ∃ q_s, q_s < nh ∧ btv s_s q_s = true ∧ (f_s 12 q_s).toInt = ((i_s : Nat) : Int))) ∧ cnB s_s nh = n_s
theorem ky_fr {f0_s : Nat → Nat → Int32} (h3 : ∀ k_s, f_s 103 k_s = f0_s 103 k_s) : kyI f_s = kyI f0_s ∧ hkI f_s = hkI f0_s := by
  refine ⟨?_, ?_⟩
  · funext p_s i_s
    unfold kyI
    rw [h3, h3, h3]
  · funext p_s
    unfold hkI
    rw [h3]
theorem srv_step {f0_s f1_s : Nat → Nat → Int32} {s_s g_s s1_s g1 : Int32} {n_s b_s : Nat} {v_s : Int} (b6 : nh ≤ 6 ∧ ni ≤ 8) (S_s : srv nh ni f0_s f_s s_s g_s n_s) (hb_s : b_s < nh) (hs : btv s_s b_s = false) (hbest : ∀ o, o < nh → btv s_s o = false → o = b_s ∨ hkI f0_s b_s < hkI f0_s o) (hn : bsN (kyI f0_s b_s) (btv g_s) (-2) ni v_s) (e1_s : (f1_s 12 b_s).toInt = v_s) (e2_s : ∀ q_s, ¬ q_s = b_s → f1_s 12 q_s = f_s 12 q_s) (e3_s : ∀ k_s, k_s < 32 → btv s1_s k_s = (btv s_s k_s || decide (k_s = b_s))) (e4_s : (v_s = -2 ∧ g1 = g_s) ∨ (∃ i_s : Nat, i_s < ni ∧ v_s = (i_s : Int) ∧ ∀ k_s, k_s < 32 → btv g1 k_s = (btv g_s k_s || decide (k_s = i_s)))) : srv nh ni f0_s f1_s s1_s g1 (n_s + 1) := by
  obtain ⟨i1_s, i2_s, i3_s, i4_s, i5_s⟩ := S_s
  have s1b : btv s1_s b_s = true := by
    rw [e3_s b_s (by omega), decide_eq_true rfl, Bool.or_true]
  have s1n : ∀ k_s, k_s < 32 → ¬ k_s = b_s → btv s1_s k_s = btv s_s k_s := fun k_s hk32 hne => by rw [e3_s k_s hk32, decide_eq_false hne, Bool.or_false]
  have up_s : ∀ q_s, q_s < nh → hkI f0_s q_s < hkI f0_s b_s → btv s_s q_s = true := fun q_s hq l => by
    cases e_s : btv s_s q_s with
    | true => rfl
    | false =>
      rcases hbest q_s hq e_s with u_s | u_s
      · rw [u_s] at l
        omega
      · omega
  have nq : ∀ q_s, hkI f0_s q_s < hkI f0_s b_s → ¬ q_s = b_s := fun q_s l e_s => by
    rw [e_s] at l
    omega
  refine ⟨fun q_s hq w_s => ?_, fun q_s hq w_s => ?_, fun a_s q_s ha_s hq w1_s w2_s => ?_, fun i_s hi_s => ?_, ?_⟩
  · by_cases e_s : q_s = b_s
    · subst e_s
      rcases hn with ⟨a1_s, a2⟩ | ⟨i_s, a1_s, a2, a3, a4⟩
      · refine Or.inl ⟨by rw [← a1_s]; exact e1_s, fun i_s hi_s => ?_⟩
        obtain ⟨r_s, r1_s, r2, r3⟩ := (i4_s i_s hi_s).mp (a2 i_s hi_s)
        have l := i3_s q_s r_s hq r1_s r2 hs
        refine ⟨r_s, r1_s, l, ?_⟩
        show (f1_s 12 r_s).toInt = (i_s : Int)
        rw [e2_s r_s (nq r_s l)]
        exact r3
      · refine Or.inr ⟨i_s, a1_s, by rw [← a2]; exact e1_s, fun r_s r1_s l w_s => ?_, fun o ho hne => ?_⟩
        · have w_s : (f1_s 12 r_s).toInt = (i_s : Int) := w_s
          rw [e2_s r_s (nq r_s l)] at w_s
          have := (i4_s i_s a1_s).mpr ⟨r_s, r1_s, up_s r_s r1_s l, w_s⟩
          rw [a3] at this
          cases this
        · cases eo : btv g_s o with
          | true =>
            obtain ⟨r_s, r1_s, r2, r3⟩ := (i4_s o ho).mp eo
            have l := i3_s q_s r_s hq r1_s r2 hs
            refine Or.inl ⟨r_s, r1_s, l, ?_⟩
            show (f1_s 12 r_s).toInt = (o : Int)
            rw [e2_s r_s (nq r_s l)]
            exact r3
          | false =>
            rcases a4 o ho eo with u_s | u_s
            · exact absurd u_s hne
            · exact Or.inr u_s
    · rw [s1n q_s (by omega) e_s] at w_s
      refine SDp_congr (hd_s := fun q_s => (f_s 12 q_s).toInt) (fun r_s r1_s r2 => ?_) hq (i1_s q_s hq w_s)
      show (f1_s 12 r_s).toInt = (f_s 12 r_s).toInt
      rw [e2_s r_s (fun u_s => ?_)]
      have l := i3_s b_s q_s hb_s hq w_s hs
      rcases r2 with r2 | r2
      · rw [u_s] at r2
        omega
      · exact e_s (by rw [← r2, u_s])
  · by_cases e_s : q_s = b_s
    · rw [e_s, s1b] at w_s
      cases w_s
    · rw [s1n q_s (by omega) e_s] at w_s
      rw [e2_s q_s e_s]
      exact i2_s q_s hq w_s
  · have ea : ¬ a_s = b_s := fun u_s => by
      rw [u_s, s1b] at w2_s
      cases w2_s
    rw [s1n a_s (by omega) ea] at w2_s
    by_cases e_s : q_s = b_s
    · rw [e_s]
      rcases hbest a_s ha_s w2_s with u_s | u_s
      · exact absurd u_s ea
      · exact u_s
    · rw [s1n q_s (by omega) e_s] at w1_s
      exact i3_s a_s q_s ha_s hq w1_s w2_s
  · have old_s : (∃ q_s, q_s < nh ∧ btv s1_s q_s = true ∧ (f1_s 12 q_s).toInt = ((i_s : Nat) : Int)) ↔ ((∃ q_s, q_s < nh ∧ btv s_s q_s = true ∧ (f_s 12 q_s).toInt = ((i_s : Nat) : Int)) ∨ v_s = (i_s : Int)) := by
      constructor
      · rintro ⟨q_s, q1_s, q2_s, q3_s⟩
        by_cases e_s : q_s = b_s
        · rw [e_s, e1_s] at q3_s
          exact Or.inr q3_s
        · rw [s1n q_s (by omega) e_s] at q2_s
          rw [e2_s q_s e_s] at q3_s
          exact Or.inl ⟨q_s, q1_s, q2_s, q3_s⟩
      · rintro (⟨q_s, q1_s, q2_s, q3_s⟩ | w_s)
        · have e_s : ¬ q_s = b_s := fun u_s => by
            rw [u_s, hs] at q2_s
            cases q2_s
          exact ⟨q_s, q1_s, by rw [s1n q_s (by omega) e_s]; exact q2_s, by rw [e2_s q_s e_s]; exact q3_s⟩
        · exact ⟨b_s, hb_s, s1b, by rw [e1_s]; exact w_s⟩
    rw [old_s, ← i4_s i_s hi_s]
    rcases e4_s with ⟨v2, eg⟩ | ⟨j_s, j1, j2_s, j3_s⟩
    · rw [eg]
      exact ⟨fun w_s => Or.inl w_s, fun w_s => w_s.elim (fun u_s => u_s) (fun u_s => by omega)⟩
    · rw [j3_s i_s (by omega)]
      by_cases e_s : i_s = j_s
      · rw [e_s, decide_eq_true rfl, Bool.or_true]
        exact ⟨fun _ => Or.inr j2_s, fun _ => rfl⟩
      · rw [decide_eq_false e_s, Bool.or_false]
        exact ⟨fun w_s => Or.inl w_s, fun w_s => w_s.elim (fun u_s => u_s) (fun u_s => by omega)⟩
  · rw [cnB_set hs s1b s1n nh (by omega), i5_s, if_pos hb_s]
theorem all25 {f0_s : Nat → Nat → Int32} (hk : hKn h_s) (hc_s : tC nh ni nr f0_s) (t_s : ∀ f1_s, (∀ q_s, q_s < nh → SDp nh ni (kyI f0_s) (hkI f0_s) (fun q_s => (f1_s 12 q_s).toInt) q_s) → (∀ a_s k_s, ¬ (a_s = 12 ∧ k_s < 6) → f1_s a_s k_s = f0_s a_s k_s) → V (h_s.1, f1_s, h_s.2.2.1, h_s.2.2.2)) : ∀ (F_s n_s : Nat) (x1_s x2_s x3 : Int32) (l4 : Option Value) (f_s : Nat → Nat → Int32), x3.toInt = (n_s : Int) → n_s ≤ nh → srv nh ni f0_s f_s x1_s x2_s n_s → (∀ a_s k_s, ¬ (a_s = 12 ∧ k_s < 6) → f_s a_s k_s = f0_s a_s k_s) → wF F_s 25 (15, [some (.ref 7), some (.int x1_s), some (.int x2_s), some (.int x3), l4], [], (h_s.1, f_s, h_s.2.2.1, h_s.2.2.2)) (gV V)
  | 0, _, _, _, _, _, _, _, _, _, _ => wF_zero
  | F_s + 1, n_s, x1_s, x2_s, x3, l4, f_s, e3_s, hn, S_s, hg => by
    have b_s := hc_s.1
    have e76 : f_s 7 6 = f0_s 7 6 := hg 7 6 (by omega)
    have c6_s := hc_s.2.1.1
    have e103_s : ∀ k_s, f_s 103 k_s = f0_s 103 k_s := fun k_s => hg 103 k_s (by omega)
    obtain ⟨ek, eh⟩ := ky_fr e103_s
    have hcf : tC nh ni nr f_s := tC_fr (fun a_s k_s q_s => hg a_s k_s (by unfold inC at q_s; omega)) hc_s
    refine sg_25_15 (h_s := (h_s.1, f_s, h_s.2.2.1, h_s.2.2.2)) hk ?_
    dsimp only
    rw [e76, c6_s, e3_s]
    refine ⟨fun c1_s => ?_, fun c1_s => ?_⟩
    · refine sp_26 hk hcf (fun v2 hv2 _ => ?_)
      rw [eh] at hv2
      rcases hv2 with ⟨a1_s, a2⟩ | ⟨bb, a1_s, a2, a3, a4⟩
      · exact ⟨fun _ => t_s f_s (fun q_s hq => S_s.1 q_s hq (a2 q_s hq)) hg, fun c_s => absurd (show v2.toInt < 0 by omega) c_s⟩
      · refine ⟨fun c_s => absurd c_s (by omega), fun _ => ⟨fun _ => ?_, fun c_s => absurd (show v2.toInt < (f_s 7 6).toInt by rw [e76, c6_s]; omega) c_s⟩⟩
        have z2 := azix (i := v2) (by omega)
        have ez2 : zix v2 = bb := by omega
        refine sp_27 (p_s := bb) hk hcf a2 a1_s (fun v5 hv5 _ _ => ?_)
        rw [ek] at hv5
        dsimp only
        rw [ez2, zsame_up]
        have st_s := fun (g1 : Int32) (e4_s : (v5.toInt = -2 ∧ g1 = x2_s) ∨ (∃ i_s : Nat, i_s < ni ∧ v5.toInt = (i_s : Int) ∧ ∀ k_s, k_s < 32 → btv g1 k_s = (btv x2_s k_s || decide (k_s = i_s)))) => srv_step (f1_s := zup f_s 12 bb v5) (s1_s := x1_s ||| (1 <<< (v2 &&& 31))) (g1 := g1) (v_s := v5.toInt) ⟨b_s.1, b_s.2.1⟩ S_s a1_s a3 a4 hv5 (by rw [zsame_up]) (fun q_s hq => zne_up (by omega)) (fun k_s hk32 => by rw [bt_or, bt_shl a2 (by omega) hk32]) e4_s
        have nx := fun (g1 : Int32) (S1 : srv nh ni f0_s (zup f_s 12 bb v5) (x1_s ||| (1 <<< (v2 &&& 31))) g1 (n_s + 1)) => all25 (f0_s := f0_s) hk hc_s t_s F_s (n_s + 1) (x1_s ||| (1 <<< (v2 &&& 31))) g1 (x3 + 1) (some (.int v2)) (zup f_s 12 bb v5) (by rw [in1_ (by omega)]; omega) (by omega) S1 (fun a_s k_s q_s => by rw [zne_up (by omega)]; exact hg a_s k_s q_s)
        refine ⟨fun c_s => nx x2_s (st_s x2_s (Or.inl ⟨c_s, rfl⟩)), fun c_s => ?_⟩
        rcases hv5 with ⟨b1, _⟩ | ⟨i_s, b1, b2, _, _⟩
        · exact absurd b1 c_s
        · exact nx _ (st_s _ (Or.inr ⟨i_s, b1, b2, fun k_s hk32 => by rw [bt_or, bt_shl b2 (by omega) hk32]⟩))
    · have en : n_s = nh := by omega
      subst en
      exact t_s f_s (fun q_s hq => S_s.1 q_s hq (cnB_all x1_s n_s S_s.2.2.2.2 q_s hq)) hg
theorem cnB_0 : ∀ n_s, cnB 0 n_s = 0
  | 0 => rfl
  | n_s + 1 => by
    show cnB 0 n_s + (if btv 0 n_s = true then 1 else 0) = 0
    rw [cnB_0 n_s, bt_0]
    rfl
theorem sp_25 {F_s : Nat} {f0_s : Nat → Nat → Int32} (hk : hKn h_s) (hc_s : tC nh ni nr f0_s) (t_s : ∀ f1_s, (∀ q_s, q_s < nh → SDp nh ni (kyI f0_s) (hkI f0_s) (fun q_s => (f1_s 12 q_s).toInt) q_s) → (∀ a_s k_s, ¬ (a_s = 12 ∧ k_s < 6) → f1_s a_s k_s = f0_s a_s k_s) → V (h_s.1, f1_s, h_s.2.2.1, h_s.2.2.2)) : wF F_s 25 (0, [some (.ref 7), none, none, none, none], [], (h_s.1, f0_s, h_s.2.2.1, h_s.2.2.2)) (gV V) := by
  refine wF_le (Nat.le_succ F_s) (sg_25_0 (h_s := (h_s.1, f0_s, h_s.2.2.1, h_s.2.2.2)) hk ?_)
  refine wF_le (Nat.le_succ F_s) (sg_240_0 (h_s := (h_s.1, f0_s, h_s.2.2.1, h_s.2.2.2)) hk ?_)
  refine fl240 (f0_s := f0_s) hk rfl (fun f1_s g1 g2 hk1 => ?_) F_s 0 0 f0_s rfl (by omega) (fun k_s hq => absurd hq (Nat.not_lt_zero k_s)) (fun _ _ _ => rfl)
  have b_s := hc_s.1
  refine all25 (h_s := (h_s.1, f1_s, h_s.2.2.1, h_s.2.2.2)) (f0_s := f0_s) hk1 hc_s t_s F_s 0 0 0 0 none f1_s rfl (Nat.zero_le _) ⟨fun q_s hq w_s => ?_, fun q_s hq w_s => ?_, fun a_s q_s ha_s hq w1_s w2_s => ?_, fun i_s hi_s => ⟨fun w_s => ?_, fun w_s => ?_⟩, cnB_0 nh⟩ g2
  · rw [bt_0] at w_s
    cases w_s
  · rw [g1 q_s (by omega)]
    rfl
  · rw [bt_0] at w1_s
    cases w1_s
  · rw [bt_0] at w_s
    cases w_s
  · obtain ⟨q_s, _, w_s, _⟩ := w_s
    rw [bt_0] at w_s
    cases w_s
end CA_s
