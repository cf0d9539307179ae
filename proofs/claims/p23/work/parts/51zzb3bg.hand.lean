/-! DEAL: class and reference deal the same heads to the same ideas, and count the same. -/
def cnI (hb_s : Nat → Int) (n_s : Int) : Nat → Int
  | 0 => 0
  | m_s + 1 => cnI hb_s n_s m_s + (if 0 ≤ hb_s m_s ∧ hb_s m_s < n_s then 1 else 0)
theorem cnI_le (hb_s : Nat → Int) (n_s : Int) : ∀ m_s : Nat, 0 ≤ cnI hb_s n_s m_s ∧ cnI hb_s n_s m_s ≤ (m_s : Int)
  | 0 => by
    show 0 ≤ (0 : Int) ∧ (0 : Int) ≤ ((0 : Nat) : Int)
    omega
  | m_s + 1 => by
    have ih_s := cnI_le hb_s n_s m_s
    show 0 ≤ cnI hb_s n_s m_s + (if 0 ≤ hb_s m_s ∧ hb_s m_s < n_s then 1 else 0) ∧ cnI hb_s n_s m_s + (if 0 ≤ hb_s m_s ∧ hb_s m_s < n_s then 1 else 0) ≤ ((m_s + 1 : Nat) : Int)
    split <;> omega
theorem cnI_0 (hb_s : Nat → Int) : ∀ m_s : Nat, cnI hb_s 0 m_s = 0
  | 0 => rfl
  | m_s + 1 => by
    show cnI hb_s 0 m_s + (if 0 ≤ hb_s m_s ∧ hb_s m_s < 0 then 1 else 0) = 0
    rw [cnI_0 hb_s m_s, if_neg (by omega)]
    rfl
theorem cnI_no {hb_s : Nat → Int} {n_s : Nat} : ∀ m_s : Nat, (∀ i_s, i_s < m_s → ¬ hb_s i_s = (n_s : Int)) → cnI hb_s ((n_s + 1 : Nat) : Int) m_s = cnI hb_s (n_s : Int) m_s
  | 0, _ => rfl
  | m_s + 1, h_s => by
    have ih_s := cnI_no (hb_s := hb_s) (n_s := n_s) m_s (fun i_s hi_s => h_s i_s (by omega))
    have hm_s := h_s m_s (by omega)
    show cnI hb_s ((n_s + 1 : Nat) : Int) m_s + (if 0 ≤ hb_s m_s ∧ hb_s m_s < ((n_s + 1 : Nat) : Int) then 1 else 0) = cnI hb_s (n_s : Int) m_s + (if 0 ≤ hb_s m_s ∧ hb_s m_s < (n_s : Int) then 1 else 0)
    rw [ih_s]
    by_cases e_s : 0 ≤ hb_s m_s ∧ hb_s m_s < (n_s : Int)
    · rw [if_pos e_s, if_pos (by omega)]
    · rw [if_neg e_s, if_neg (by omega)]
theorem cnI_one {hb_s : Nat → Int} {n_s i0_s : Nat} (e0_s : hb_s i0_s = (n_s : Int)) : ∀ m_s : Nat, i0_s < m_s → (∀ i_s, i_s < m_s → hb_s i_s = (n_s : Int) → i_s = i0_s) → cnI hb_s ((n_s + 1 : Nat) : Int) m_s = cnI hb_s (n_s : Int) m_s + 1
  | 0, h_s, _ => absurd h_s (Nat.not_lt_zero _)
  | m_s + 1, h_s, hu => by
    show cnI hb_s ((n_s + 1 : Nat) : Int) m_s + (if 0 ≤ hb_s m_s ∧ hb_s m_s < ((n_s + 1 : Nat) : Int) then 1 else 0) = cnI hb_s (n_s : Int) m_s + (if 0 ≤ hb_s m_s ∧ hb_s m_s < (n_s : Int) then 1 else 0) + 1
    by_cases e_s : i0_s = m_s
    · rw [cnI_no m_s (fun i_s hi_s w_s => absurd (hu i_s (by omega) w_s) (by omega)), ← e_s, e0_s, if_pos (by omega), if_neg (by omega)]
      omega
    · have hm_s : ¬ hb_s m_s = (n_s : Int) := fun w_s => e_s (hu m_s (by omega) w_s).symm
      rw [cnI_one e0_s m_s (by omega) (fun i_s hi_s w_s => hu i_s (by omega) w_s)]
      by_cases e_s : 0 ≤ hb_s m_s ∧ hb_s m_s < (n_s : Int)
      · rw [if_pos e_s, if_pos (show 0 ≤ hb_s m_s ∧ hb_s m_s < ((n_s + 1 : Nat) : Int) by omega)]
        first | done | omega
      · rw [if_neg e_s, if_neg (show ¬ (0 ≤ hb_s m_s ∧ hb_s m_s < ((n_s + 1 : Nat) : Int)) by omega)]
        first | done | omega
theorem cnI_all {hb_s : Nat → Int} {nh : Nat} {hc_s : Nat → Int} : ∀ m_s : Nat, (∀ i_s, i_s < m_s → hb_s i_s = -1 ∨ ∃ p_s : Nat, p_s < nh ∧ hb_s i_s = (p_s : Int)) → (∀ i_s, i_s < m_s → hc_s i_s = hb_s i_s) → cnI hc_s (nh : Int) m_s = cnI hb_s (nh : Int) m_s
  | 0, _, _ => rfl
  | m_s + 1, h_s, e_s => by
    show cnI hc_s (nh : Int) m_s + (if 0 ≤ hc_s m_s ∧ hc_s m_s < (nh : Int) then 1 else 0) = cnI hb_s (nh : Int) m_s + (if 0 ≤ hb_s m_s ∧ hb_s m_s < (nh : Int) then 1 else 0)
    rw [e_s m_s (by omega), cnI_all m_s (fun i_s hi_s => h_s i_s (by omega)) (fun i_s hi_s => e_s i_s (by omega))]
def tieD (nh ni : Nat) (hb_s hd_s : Nat → Int) : Prop := (∀ i_s, i_s < ni → hb_s i_s = -1 ∨ ∃ p_s : Nat, p_s < nh ∧ hb_s i_s = (p_s : Int)) ∧ ∀ p_s, p_s < nh → ∀ i_s, i_s < ni → (hd_s p_s = (i_s : Int) ↔ hb_s i_s = (p_s : Int))
def hdF (f_s : Nat → Nat → Int32) (p_s : Nat) : Int := (f_s 12 p_s).toInt
/-- the class's second loop: heads given so far -/
def dlN (nh ni : Nat) (f1_s f_s : Nat → Nat → Int32) (x1_s : Int32) (n_s : Nat) : Prop := ∀ hb_s : Nat → Int, tieD nh ni hb_s (hdF f1_s) → (∀ i_s, i_s < ni → (f_s (20 + i_s) 6).toInt = (if hb_s i_s < (n_s : Int) then hb_s i_s else -1)) ∧ x1_s.toInt = cnI hb_s (n_s : Int) ni
section DE
variable {h_s : zH} {K_s : Int32 → zH → Prop} {nh ni nr : Nat}
theorem dl43 {f1_s : Nat → Nat → Int32} (hk : hKn h_s) (b_s : nh ≤ 6 ∧ ni ≤ 8) (c6_s : (f1_s 7 6).toInt = (nh : Int)) (c7_s : (f1_s 7 7).toInt = (ni : Int)) (S_s : ∀ p_s, p_s < nh → hdF f1_s p_s = -2 ∨ ∃ i_s : Nat, i_s < ni ∧ hdF f1_s p_s = (i_s : Int)) (t_s : ∀ v_s f2_s, dlN nh ni f1_s f2_s v_s nh → (∀ a_s k_s, ¬ (20 ≤ a_s ∧ a_s < 20 + ni ∧ k_s = 6) → f2_s a_s k_s = f1_s a_s k_s) → K_s v_s (h_s.1, f2_s, h_s.2.2.1, h_s.2.2.2)) : ∀ (F_s n_s : Nat) (x1_s x2_s : Int32) (f_s : Nat → Nat → Int32), x2_s.toInt = (n_s : Int) → n_s ≤ nh → dlN nh ni f1_s f_s x1_s n_s → (∀ a_s k_s, ¬ (20 ≤ a_s ∧ a_s < 20 + ni ∧ k_s = 6) → f_s a_s k_s = f1_s a_s k_s) → wF F_s 119 (43, [some (.ref 6), some (.int x1_s), some (.int x2_s)], [], (h_s.1, f_s, h_s.2.2.1, h_s.2.2.2)) (gI K_s)
  | 0, _, _, _, _, _, _, _, _ => wF_zero
  | F_s + 1, n_s, x1_s, x2_s, f_s, e2_s, hn, D_s, hg => by
    have z_s := azix (i := x2_s) (by omega)
    have ez : zix x2_s = n_s := by omega
    have e76 : f_s 7 6 = f1_s 7 6 := hg 7 6 (by omega)
    have e77 : f_s 7 7 = f1_s 7 7 := hg 7 7 (by omega)
    have e12_s : f_s 12 n_s = f1_s 12 n_s := hg 12 n_s (by omega)
    refine sg_119_43 (h_s := (h_s.1, f_s, h_s.2.2.1, h_s.2.2.2)) hk ?_
    dsimp only
    rw [ez, e76, e77, c6_s, c7_s, e2_s, e12_s]
    refine ⟨fun c1_s => fun _ => ?_, fun c1_s => ?_⟩
    · have hn1 : n_s < nh := by omega
      have e5_s : (x2_s + 1).toInt = ((n_s + 1 : Nat) : Int) := by
        rw [in1_ (by omega), e2_s]
        omega
      rcases S_s n_s hn1 with s_s | ⟨i0_s, s1_s, s2_s⟩
      · have s_s : (f1_s 12 n_s).toInt = -2 := s_s
        refine ⟨fun _ => ?_, fun c3_s => absurd (show (f1_s 12 n_s).toInt < 0 by omega) c3_s⟩
        refine dl43 hk b_s c6_s c7_s S_s t_s F_s (n_s + 1) x1_s (x2_s + 1) f_s e5_s (by omega) (fun hb_s T => ?_) hg
        obtain ⟨d1_s, d2_s⟩ := D_s hb_s T
        have no_s : ∀ i_s, i_s < ni → ¬ hb_s i_s = (n_s : Int) := fun i_s hi_s w_s => by
          have u_s : (f1_s 12 n_s).toInt = (i_s : Int) := (T.2 n_s hn1 i_s hi_s).mpr w_s
          omega
        refine ⟨fun i_s hi_s => ?_, ?_⟩
        · rw [d1_s i_s hi_s]
          have u_s := no_s i_s hi_s
          by_cases e_s : hb_s i_s < (n_s : Int)
          · rw [if_pos e_s, if_pos (by omega)]
          · rw [if_neg e_s, if_neg (by omega)]
        · rw [d2_s, cnI_no ni no_s]
      · have s2_s : (f1_s 12 n_s).toInt = (i0_s : Int) := s2_s
        have z2 := azix (i := f1_s 12 n_s) (by omega)
        have ez2 : zix (f1_s 12 n_s) = i0_s := by omega
        refine ⟨fun c3_s => absurd c3_s (by omega), fun _ => ⟨fun _ _ => ?_, fun c4_s => absurd (show (f1_s 12 n_s).toInt < (ni : Int) by omega) c4_s⟩⟩
        rw [ez2]
        have cx : ∀ hb_s, tieD nh ni hb_s (hdF f1_s) → (x1_s + 1).toInt = cnI hb_s (n_s : Int) ni + 1 := fun hb_s T => by
          have d2_s := (D_s hb_s T).2
          have u_s := cnI_le hb_s (n_s : Int) ni
          rw [in1_ (by omega), d2_s]
        refine dl43 hk b_s c6_s c7_s S_s t_s F_s (n_s + 1) (x1_s + 1) (x2_s + 1) _ e5_s (by omega) (fun hb_s T => ?_) (fun a_s k_s q_s => ?_)
        · obtain ⟨d1_s, d2_s⟩ := D_s hb_s T
          have u0 : hb_s i0_s = (n_s : Int) := (T.2 n_s hn1 i0_s s1_s).mp s2_s
          have un : ∀ i_s, i_s < ni → hb_s i_s = (n_s : Int) → i_s = i0_s := fun i_s hi_s w_s => by
            have u_s : (f1_s 12 n_s).toInt = (i_s : Int) := (T.2 n_s hn1 i_s hi_s).mpr w_s
            omega
          refine ⟨fun i_s hi_s => ?_, ?_⟩
          · by_cases e_s : i_s = i0_s
            · rw [e_s, zsame_up, e2_s, u0, if_pos (by omega)]
            · rw [zne_up (by omega), d1_s i_s hi_s]
              have u_s := un i_s hi_s
              by_cases e3_s : hb_s i_s < (n_s : Int)
              · rw [if_pos e3_s, if_pos (by omega)]
              · rw [if_neg e3_s, if_neg (fun w_s => e_s (u_s (by omega)))]
          · rw [cx hb_s T, cnI_one u0 ni s1_s un]
        · rw [zne_up (by omega)]
          exact hg a_s k_s q_s
    · have en : n_s = nh := by omega
      subst en
      exact t_s x1_s f_s D_s hg
theorem dl9 {f1_s : Nat → Nat → Int32} {l2 : Option Value} (hk : hKn h_s) (b_s : nh ≤ 6 ∧ ni ≤ 8) (c6_s : (f1_s 7 6).toInt = (nh : Int)) (c7_s : (f1_s 7 7).toInt = (ni : Int)) (S_s : ∀ p_s, p_s < nh → hdF f1_s p_s = -2 ∨ ∃ i_s : Nat, i_s < ni ∧ hdF f1_s p_s = (i_s : Int)) (t_s : ∀ v_s f2_s, dlN nh ni f1_s f2_s v_s nh → (∀ a_s k_s, ¬ (20 ≤ a_s ∧ a_s < 20 + ni ∧ k_s = 6) → f2_s a_s k_s = f1_s a_s k_s) → K_s v_s (h_s.1, f2_s, h_s.2.2.1, h_s.2.2.2)) : ∀ (F_s n_s : Nat) (x1_s : Int32) (f_s : Nat → Nat → Int32), x1_s.toInt = (n_s : Int) → n_s ≤ ni → (∀ i_s, i_s < n_s → f_s (20 + i_s) 6 = -1) → (∀ a_s k_s, ¬ (20 ≤ a_s ∧ a_s < 20 + ni ∧ k_s = 6) → f_s a_s k_s = f1_s a_s k_s) → wF F_s 119 (9, [some (.ref 6), some (.int x1_s), l2], [], (h_s.1, f_s, h_s.2.2.1, h_s.2.2.2)) (gI K_s)
  | 0, _, _, _, _, _, _, _ => wF_zero
  | F_s + 1, n_s, x1_s, f_s, e1_s, hn, hf, hg => by
    have z_s := azix (i := x1_s) (by omega)
    have ez : zix x1_s = n_s := by omega
    have e77 : f_s 7 7 = f1_s 7 7 := hg 7 7 (by omega)
    refine sg_119_9 (h_s := (h_s.1, f_s, h_s.2.2.1, h_s.2.2.2)) hk ?_
    dsimp only
    rw [ez, e77, c7_s, e1_s]
    refine ⟨fun c1_s => fun _ => ?_, fun c1_s => ?_⟩
    · refine dl9 hk b_s c6_s c7_s S_s t_s F_s (n_s + 1) (x1_s + 1) _ (by rw [in1_ (by omega)]; omega) (by omega) (fun i_s hi_s => ?_) (fun a_s k_s q_s => ?_)
      · by_cases e_s : i_s = n_s
        · rw [e_s, zsame_up]
        · rw [zne_up (by omega)]
          exact hf i_s (by omega)
      · rw [zne_up (by omega)]
        exact hg a_s k_s q_s
    · have en : n_s = ni := by omega
      subst en
      refine dl43 hk b_s c6_s c7_s S_s t_s F_s 0 0 0 f_s rfl (Nat.zero_le _) (fun hb_s T => ⟨fun i_s hi_s => ?_, ?_⟩) hg
      · rw [hf i_s hi_s]
        rcases T.1 i_s hi_s with u_s | ⟨p_s, _, u_s⟩
        · rw [u_s]
          rfl
        · rw [u_s, if_neg (by omega)]
          rfl
      · show (0 : Int) = cnI hb_s 0 n_s
        rw [cnI_0]
theorem sp_119 {F_s : Nat} {f0_s : Nat → Nat → Int32} (hk : hKn h_s) (hc_s : tC nh ni nr f0_s) (t_s : ∀ v_s f2_s, (∀ q_s, q_s < nh → SDp nh ni (kyI f0_s) (hkI f0_s) (hdF f2_s) q_s) → (∀ hb_s, tieD nh ni hb_s (hdF f2_s) → (∀ i_s, i_s < ni → (f2_s (20 + i_s) 6).toInt = hb_s i_s) ∧ v_s.toInt = cnI hb_s (nh : Int) ni) → (∀ a_s k_s, ¬ (20 ≤ a_s ∧ a_s < 20 + ni ∧ k_s = 6) → ¬ (a_s = 12 ∧ k_s < 6) → f2_s a_s k_s = f0_s a_s k_s) → K_s v_s (h_s.1, f2_s, h_s.2.2.1, h_s.2.2.2)) : wF F_s 119 (0, [some (.ref 6), none, none], [], (h_s.1, f0_s, h_s.2.2.1, h_s.2.2.2)) (gI K_s) := by
  have b_s := hc_s.1
  refine wF_le (Nat.le_succ F_s) (sg_119_0 (h_s := (h_s.1, f0_s, h_s.2.2.1, h_s.2.2.2)) hk ?_)
  refine sp_25 hk hc_s (fun f1_s S_s g1 hk1 => ?_)
  refine dl9 (h_s := (h_s.1, f1_s, h_s.2.2.1, h_s.2.2.2)) (f1_s := f1_s) hk1 ⟨b_s.1, b_s.2.1⟩ (by rw [g1 7 6 (by omega)]; exact hc_s.2.1.1) (by rw [g1 7 7 (by omega)]; exact hc_s.2.1.2.1) (fun p_s hp => ?_) (fun v_s f2_s D_s g2 => ?_) F_s 0 0 f1_s rfl (Nat.zero_le _) (fun i_s hi_s => absurd hi_s (Nat.not_lt_zero i_s)) (fun _ _ _ => rfl)
  · rcases S_s p_s hp with u_s | ⟨i_s, u1_s, u2_s, _⟩
    · exact Or.inl u_s.1
    · exact Or.inr ⟨i_s, u1_s, u2_s⟩
  · have e12_s : hdF f2_s = hdF f1_s := by
      funext q_s
      unfold hdF
      rw [g2 12 q_s (by omega)]
    refine t_s v_s f2_s (fun q_s hq => ?_) (fun hb_s T => ?_) (fun a_s k_s q1_s q2_s => ?_)
    · rw [e12_s]
      exact S_s q_s hq
    · rw [e12_s] at T
      obtain ⟨d1_s, d2_s⟩ := D_s hb_s T
      refine ⟨fun i_s hi_s => ?_, d2_s⟩
      rw [d1_s i_s hi_s]
      rcases T.1 i_s hi_s with u_s | ⟨p_s, u0, u_s⟩
      · rw [u_s, if_pos (by omega)]
      · rw [u_s, if_pos (by omega)]
    · rw [g2 a_s k_s q1_s]
      exact g1 a_s k_s q2_s
/-- the reference's loop -/
theorem dl8 {f1_s : Nat → Nat → Int32} (hk : hKn h_s) (b_s : nh ≤ 6 ∧ ni ≤ 8) (c7_s : (f1_s 102 7).toInt = (ni : Int)) (S_s : ∀ i_s, i_s < ni → hbF f1_s i_s = -1 ∨ ∃ p_s : Nat, p_s < nh ∧ hbF f1_s i_s = (p_s : Int)) (t_s : ∀ v_s f2_s, (∀ i_s, i_s < ni → f2_s 103 (60 + i_s) = f1_s 116 i_s) → v_s.toInt = cnI (hbF f1_s) (nh : Int) ni → (∀ a_s k_s, ¬ (a_s = 103 ∧ 60 ≤ k_s ∧ k_s < 60 + ni) → f2_s a_s k_s = f1_s a_s k_s) → K_s v_s (h_s.1, f2_s, h_s.2.2.1, h_s.2.2.2)) : ∀ (F_s n_s : Nat) (x1_s x2_s : Int32) (f_s : Nat → Nat → Int32), x2_s.toInt = (n_s : Int) → n_s ≤ ni → x1_s.toInt = cnI (hbF f1_s) (nh : Int) n_s → (∀ i_s, i_s < n_s → f_s 103 (60 + i_s) = f1_s 116 i_s) → (∀ a_s k_s, ¬ (a_s = 103 ∧ 60 ≤ k_s ∧ k_s < 60 + ni) → f_s a_s k_s = f1_s a_s k_s) → wF F_s 213 (8, [some (.ref 102), some (.int x1_s), some (.int x2_s)], [], (h_s.1, f_s, h_s.2.2.1, h_s.2.2.2)) (gI K_s)
  | 0, _, _, _, _, _, _, _, _, _ => wF_zero
  | F_s + 1, n_s, x1_s, x2_s, f_s, e2_s, hn, e1_s, hf, hg => by
    have z_s := azix (i := x2_s) (by omega)
    have ez : zix x2_s = n_s := by omega
    have a60 : (60 + x2_s).toInt = 60 + (n_s : Int) := by
      rw [na_add (by rw [i60_]; omega) (by rw [i60_]; omega), i60_, e2_s]
    have z3 := azix (i := 60 + x2_s) (by omega)
    have ez3 : zix (60 + x2_s) = 60 + n_s := by omega
    have e7_s : f_s 102 7 = f1_s 102 7 := hg 102 7 (by omega)
    have e16_s : f_s 116 n_s = f1_s 116 n_s := hg 116 n_s (by omega)
    refine sg_213_8 (h_s := (h_s.1, f_s, h_s.2.2.1, h_s.2.2.2)) hk ?_
    dsimp only
    rw [ez, ez3, e7_s, c7_s, e2_s, e16_s]
    have u_s := cnI_le (hbF f1_s) (nh : Int) n_s
    refine ⟨fun c1_s => fun _ _ => ?_, fun c1_s => ?_⟩
    · have go_s : ∀ (w_s : Int32), w_s.toInt = cnI (hbF f1_s) (nh : Int) (n_s + 1) → wF F_s 213 (8, [some (.ref 102), some (.int w_s), some (.int (x2_s + 1))], [], (h_s.1, zup f_s 103 (60 + n_s) (f1_s 116 n_s), h_s.2.2.1, h_s.2.2.2)) (gI K_s) := fun w_s e_s => by
        refine dl8 hk b_s c7_s S_s t_s F_s (n_s + 1) w_s (x2_s + 1) _ (by rw [in1_ (by omega)]; omega) (by omega) e_s (fun i_s hi_s => ?_) (fun a_s k_s q_s => ?_)
        · by_cases ei : i_s = n_s
          · rw [ei, zsame_up]
          · rw [zne_up (by omega)]
            exact hf i_s (by omega)
        · rw [zne_up (by omega)]
          exact hg a_s k_s q_s
      have st_s : cnI (hbF f1_s) (nh : Int) (n_s + 1) = cnI (hbF f1_s) (nh : Int) n_s + (if 0 ≤ (f1_s 116 n_s).toInt ∧ (f1_s 116 n_s).toInt < (nh : Int) then 1 else 0) := rfl
      have sn : (f1_s 116 n_s).toInt = -1 ∨ ∃ p_s : Nat, p_s < nh ∧ (f1_s 116 n_s).toInt = (p_s : Int) := S_s n_s (by omega)
      refine ⟨fun c5_s => go_s _ ?_, fun c5_s => go_s _ ?_⟩
      · rw [st_s, if_neg (by omega), Int32.add_zero, e1_s]
        omega
      · rw [st_s, if_pos (by rcases sn with w_s | ⟨p_s, w1_s, w2_s⟩ <;> omega), in1_ (by omega), e1_s]
    · have en : n_s = ni := by omega
      subst en
      exact t_s x1_s f_s hf e1_s hg
theorem sp_213 {F_s : Nat} {f0_s : Nat → Nat → Int32} (hk : hKn h_s) (hc_s : tM nh ni nr f0_s) (t_s : ∀ v_s f2_s, GSI nh ni (kyI f0_s) (hkI f0_s) (hbF f2_s) (akF f2_s) → (∀ p_s, p_s < nh → dnF ni f2_s p_s) → (∀ i_s, i_s < ni → f2_s 103 (60 + i_s) = f2_s 116 i_s) → v_s.toInt = cnI (hbF f2_s) (nh : Int) ni → (∀ a_s k_s, ¬ (a_s = 103 ∧ 60 ≤ k_s ∧ k_s < 60 + ni) → ¬ a_s = 116 → ¬ a_s = 117 → f2_s a_s k_s = f0_s a_s k_s) → K_s v_s (h_s.1, f2_s, h_s.2.2.1, h_s.2.2.2)) : wF F_s 213 (0, [some (.ref 102), none, none], [], (h_s.1, f0_s, h_s.2.2.1, h_s.2.2.2)) (gI K_s) := by
  have b_s := hc_s.1
  refine wF_le (Nat.le_succ F_s) (sg_213_0 (h_s := (h_s.1, f0_s, h_s.2.2.1, h_s.2.2.2)) hk ?_)
  refine sp_198 hk hc_s (fun f1_s g1 G_s D_s hk1 => ?_)
  refine dl8 (h_s := (h_s.1, f1_s, h_s.2.2.1, h_s.2.2.2)) (f1_s := f1_s) hk1 ⟨b_s.1, b_s.2.1⟩ (by rw [g1 102 7 (by omega) (by omega)]; exact hc_s.2.1.2.1) G_s.1 (fun v_s f2_s q1_s q2_s g2 => ?_) F_s 0 0 0 f1_s rfl (Nat.zero_le _) rfl (fun i_s hi_s => absurd hi_s (Nat.not_lt_zero i_s)) (fun _ _ _ => rfl)
  have e1_s : hbF f2_s = hbF f1_s := by
    funext i_s
    unfold hbF
    rw [g2 116 i_s (by omega)]
  have e2_s : akF f2_s = akF f1_s := by
    funext p_s i_s
    unfold akF
    rw [g2 117 p_s (by omega)]
  refine t_s v_s f2_s (by rw [e1_s, e2_s]; exact G_s) (fun p_s hp => ?_) (fun i_s hi_s => by rw [q1_s i_s hi_s, g2 116 i_s (by omega)]) (by rw [e1_s]; exact q2_s) (fun a_s k_s w1_s w2_s w3_s => by rw [g2 a_s k_s w1_s]; exact g1 a_s k_s w2_s w3_s)
  have u_s := D_s p_s hp
  unfold dnF at u_s ⊢
  rw [e1_s, e2_s]
  exact u_s
theorem tC_deal {f_s f2_s : Nat → Nat → Int32} (hc_s : tC nh ni nr f_s) (h1 : ∀ i_s, i_s < ni → f2_s (20 + i_s) 6 = f2_s 103 (60 + i_s) ∧ -1 ≤ (f2_s 103 (60 + i_s)).toInt ∧ (f2_s 103 (60 + i_s)).toInt < (nh : Int)) (hf : ∀ a_s k_s, inC a_s k_s → ¬ (20 ≤ a_s ∧ a_s < 20 + ni ∧ k_s = 6) → ¬ (a_s = 103 ∧ 60 ≤ k_s ∧ k_s < 60 + ni) → f2_s a_s k_s = f_s a_s k_s) : tC nh ni nr f2_s := by
  obtain ⟨a0_s, ⟨a1_s, a2, a3⟩, ⟨a4, a5, a6⟩, a7, a8, a9⟩ := hc_s
  have f7_s : ∀ a_s k_s, (a_s = 7 ∨ a_s = 102) ∧ 6 ≤ k_s ∧ k_s ≤ 8 → f2_s a_s k_s = f_s a_s k_s := fun a_s k_s q_s => hf a_s k_s (by unfold inC; omega) (by omega) (by omega)
  refine ⟨a0_s, ⟨?_, ?_, ?_⟩, ⟨?_, ?_, ?_⟩, fun n_s w_s hw hn hi_s => ?_, fun i_s q1_s q2_s => ?_, fun r_s hr => ?_⟩
  · rw [f7_s 7 6 (by omega)]
    exact a1_s
  · rw [f7_s 7 7 (by omega)]
    exact a2
  · rw [f7_s 7 8 (by omega)]
    exact a3
  · rw [f7_s 102 6 (by omega)]
    exact a4
  · rw [f7_s 102 7 (by omega)]
    exact a5
  · rw [f7_s 102 8 (by omega)]
    exact a6
  · have u_s := a7 n_s w_s hw hn hi_s
    have ci : inC (cO n_s w_s) (cF n_s w_s) := cell_in hw hn
    have pl := plc_lt hw hn
    by_cases e_s : w_s = 8
    · have hni := hi_s e_s
      subst e_s
      obtain ⟨p1_s, p2_s, p3_s⟩ := h1 n_s hni
      exact ⟨p1_s, p2_s, p3_s⟩
    · have ne_s : ¬ (20 ≤ cO n_s w_s ∧ cO n_s w_s < 20 + ni ∧ cF n_s w_s = 6) ∧ ¬ (60 ≤ plc n_s w_s ∧ plc n_s w_s < 60 + ni) ∧ ¬ cO n_s w_s = 103 := by
        by_cases v2 : w_s < 2
        · rw [cap_h v2] at hn
          rw [cO_h v2, cF_h v2, plc_h v2]
          omega
        · by_cases v9 : w_s < 9
          · rw [cap_i (by omega) v9] at hn
            rw [cO_i (by omega) v9, cF_i (by omega) v9, plc_i (by omega) v9]
            omega
          · rw [cap_r (by omega)] at hn
            rw [cO_r (by omega), cF_r (by omega), plc_r (by omega)]
            omega
      rw [hf _ _ ci ne_s.1 (fun w1_s => ne_s.2.2 w1_s.1), hf 103 _ (by unfold inC; omega) (by omega) (fun w1_s => ne_s.2.1 w1_s.2)]
      exact u_s
  · rw [hf _ _ (by unfold inC; omega) (by omega) (by omega)]
    exact a8 i_s q1_s q2_s
  · rw [hf (28 + r_s) 0 (by unfold inC; omega) (by omega) (by omega), hf (28 + r_s) 1 (by unfold inC; omega) (by omega) (by omega), hf 107 r_s (by unfold inC; omega) (by omega) (by omega), hf 108 r_s (by unfold inC; omega) (by omega) (by omega)]
    exact a9 r_s hr
theorem pr_deal {F_s : Nat} (hk : hKn h_s) (hx : tX h_s) : wF F_s 119 (0, [some (.ref 6), none, none], [], h_s) (gI (fun v_s h1 => wF F_s 213 (0, [some (.ref 102), none, none], [], h1) (gI (fun v2 h2 => v_s = v2 ∧ tX h2)))) := by
  obtain ⟨nh, ni, nr, hc_s, hh, hi_, hd_s, hz, hl⟩ := hx
  have b_s := hc_s.1
  have m0_s := tC_M hc_s
  refine sp_119 (f0_s := h_s.2.1) hk hc_s (fun v_s f1_s S_s D_s g1 => ?_)
  have g3_s : ∀ a_s k_s, 100 ≤ a_s → f1_s a_s k_s = h_s.2.1 a_s k_s := fun a_s k_s ha_s => g1 a_s k_s (by omega) (by omega)
  have m1_s : tM nh ni nr f1_s := tM_fr (fun k_s _ _ => g3_s _ _ (by omega)) (fun k_s _ => g3_s _ _ (by omega)) m0_s
  obtain ⟨ek, eh⟩ := ky_fr (f_s := f1_s) (f0_s := h_s.2.1) (fun k_s => g3_s 103 k_s (by omega))
  refine sp_213 (h_s := (h_s.1, f1_s, h_s.2.2.1, h_s.2.2.2)) (f0_s := f1_s) hk m1_s (fun v2 f2_s G_s dn q1_s q2_s g2 => ?_)
  rw [ek, eh] at G_s
  have T : tieD nh ni (hbF f2_s) (hdF f1_s) := ⟨G_s.1, fun p_s hp i_s hi_s => GS_SD (hk_inj m0_s) (hk_0 m0_s) G_s dn S_s ((hkI h_s.2.1 p_s).toNat + 1) p_s hp (by have := hk_0 m0_s p_s hp; omega) i_s hi_s⟩
  obtain ⟨d1_s, d2_s⟩ := D_s (hbF f2_s) T
  have e2_s : ∀ i_s, i_s < ni → f2_s (20 + i_s) 6 = f2_s 103 (60 + i_s) ∧ -1 ≤ (f2_s 103 (60 + i_s)).toInt ∧ (f2_s 103 (60 + i_s)).toInt < (nh : Int) := fun i_s hi_s => by
    have r1_s : (f2_s 116 i_s).toInt = -1 ∨ ∃ p_s : Nat, p_s < nh ∧ (f2_s 116 i_s).toInt = (p_s : Int) := G_s.1 i_s hi_s
    have r2 : (f1_s (20 + i_s) 6).toInt = (f2_s 116 i_s).toInt := d1_s i_s hi_s
    rw [q1_s i_s hi_s, g2 (20 + i_s) 6 (by omega) (by omega) (by omega)]
    refine ⟨Int32.toInt_inj.mp r2, ?_⟩
    rcases r1_s with w_s | ⟨p_s, w1_s, w2_s⟩ <;> omega
  refine ⟨Int32.toInt_inj.mp (d2_s.trans q2_s.symm), ?_⟩
  have hf : ∀ a_s k_s, ¬ (20 ≤ a_s ∧ a_s < 20 + ni ∧ k_s = 6) → ¬ (a_s = 103 ∧ 60 ≤ k_s ∧ k_s < 60 + ni) → ¬ (a_s = 12 ∧ k_s < 6) → ¬ a_s = 116 → ¬ a_s = 117 → f2_s a_s k_s = h_s.2.1 a_s k_s := fun a_s k_s w1_s w2_s w3_s w4_s w5 => by
    rw [g2 a_s k_s w2_s w4_s w5]
    exact g1 a_s k_s w1_s w3_s
  refine tX_rest (h_s := h_s) (h2 := (h_s.1, f2_s, h_s.2.2.1, h_s.2.2.2)) (Nat.le_refl nh) (Nat.le_refl ni) (Nat.le_refl nr) (tC_deal hc_s e2_s (fun a_s k_s w_s w1_s w2_s => hf a_s k_s w1_s w2_s (by unfold inC at w_s; omega) (by unfold inC at w_s; omega) (by unfold inC at w_s; omega))) hh hi_ hd_s hz hl (fun _ => rfl) (fun a_s k_s w_s => ?_)
  have n_s : ¬ (20 ≤ a_s ∧ a_s < 20 + ni ∧ k_s = 6) ∧ ¬ (a_s = 103 ∧ 60 ≤ k_s ∧ k_s < 60 + ni) ∧ ¬ (a_s = 12 ∧ k_s < 6) ∧ ¬ a_s = 116 ∧ ¬ a_s = 117 := by
    unfold inH inI inD inZ inW at w_s
    omega
  exact hf a_s k_s n_s.1 n_s.2.1 n_s.2.2.1 n_s.2.2.2.1 n_s.2.2.2.2
end DE
