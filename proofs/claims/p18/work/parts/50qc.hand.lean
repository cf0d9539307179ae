/-! THE CLASS READS A TEXT: levels and operands. -/
theorem zget_apd {α : Type} {d_s : α} : ∀ {l1 l2 : List α} {j_s : Nat}, zget (l1 ++ l2) j_s = some d_s → (j_s < l1.length ∧ zget l1 j_s = some d_s) ∨ (l1.length ≤ j_s ∧ zget l2 (j_s - l1.length) = some d_s)
  | [], _, _, hq => Or.inr ⟨Nat.zero_le _, hq⟩
  | a_s :: l1, l2, 0, hq => Or.inl ⟨Nat.zero_lt_succ _, hq⟩
  | a_s :: l1, l2, j_s + 1, hq => by
    rcases zget_apd (l1 := l1) (l2 := l2) (j_s := j_s) hq with ⟨e1_s, e2_s⟩ | ⟨e1_s, e2_s⟩
    · exact Or.inl ⟨Nat.succ_lt_succ e1_s, e2_s⟩
    · refine Or.inr ⟨Nat.succ_le_succ e1_s, ?_⟩
      rw [List.length_cons, Nat.succ_sub_succ]
      exact e2_s
def frC (q_s len_s : Nat) (f_s f1_s : Nat → Nat → Int32) : Prop := ∀ o k_s, ¬ (o = 40 ∧ k_s = 2) → ¬ (o = q_s ∧ k_s ≤ 2) → ¬ (o = q_s + 1 ∧ len_s ≤ k_s) → f1_s o k_s = f_s o k_s
def qC (q_s len_s a0_s : Nat) (m0_s : Int32) (f_s : Nat → Nat → Int32) (z_s : pA) (a_s : Nat) : Prop := (f_s 40 2).toInt = (a_s : Int) ∧ (f_s q_s 2).toInt = ((len_s + z_s.1.length : Nat) : Int) ∧ z_s.1.length + 2 * a0_s ≤ 2 * a_s ∧ (∀ j_s c_s, zget z_s.1 j_s = some c_s → f_s (q_s + 1) (len_s + j_s) = c_s) ∧ f_s q_s 0 = (if z_s.2.2 then 1 else m0_s)
def poC (q_s len_s a0_s n_s : Nat) (m0_s : Int32) (f1_s : Nat → Nat → Int32) (v_s : Int32) : pR → Prop
  | .inl e_s => v_s = 0 ∧ (f1_s 40 2).toInt = (e_s : Int)
  | .inr p_s => v_s = 1 ∧ a0_s < p_s.1 ∧ p_s.1 ≤ n_s ∧ qC q_s len_s a0_s m0_s f1_s p_s.2 p_s.1
def prC (q_s n_s len_s a_s : Nat) (f_s : Nat → Nat → Int32) : Prop := (f_s 40 2).toInt = (a_s : Int) ∧ a_s ≤ n_s ∧ (f_s 40 1).toInt = (n_s : Int) ∧ n_s ≤ 120 ∧ (f_s q_s 2).toInt = (len_s : Int) ∧ len_s ≤ 2 * a_s
def C65 (F_s : Nat) : Prop := ∀ (h_s : zH) (K_s : Int32 → zH → Prop) (q_s n_s len_s m_s op_s a_s : Nat) (x2_s x3 : Int32) (f_s : Nat → Nat → Int32), (q_s = 14 ∨ q_s = 17) → hKn h_s → x2_s.toInt = (m_s : Int) → m_s ≤ 5 → x3.toInt = (op_s : Int) → op_s ≤ 6 → prC q_s n_s len_s a_s f_s → (∀ v_s f1_s, frC q_s len_s f_s f1_s → (∃ r_s, pP (tkF f_s) m_s op_s a_s pz0 r_s ∧ poC q_s len_s a_s n_s (f_s q_s 0) f1_s v_s r_s) → K_s v_s (h_s.1, f1_s, h_s.2.2.1, h_s.2.2.2)) → wF F_s 65 (0, [some (.ref 40), some (.ref q_s), some (.int x2_s), some (.int x3), none, none, none], [], (h_s.1, f_s, h_s.2.2.1, h_s.2.2.2)) (gI K_s)
def C66 (F_s : Nat) : Prop := ∀ (h_s : zH) (K_s : Int32 → zH → Prop) (q_s n_s len_s op_s a_s : Nat) (x3 : Int32) (f_s : Nat → Nat → Int32), (q_s = 14 ∨ q_s = 17) → hKn h_s → x3.toInt = (op_s : Int) → op_s ≤ 6 → prC q_s n_s len_s a_s f_s → (∀ v_s f1_s, frC q_s len_s f_s f1_s → (∃ r_s, pP (tkF f_s) 5 op_s a_s pz0 r_s ∧ poC q_s len_s a_s n_s (f_s q_s 0) f1_s v_s r_s) → K_s v_s (h_s.1, f1_s, h_s.2.2.1, h_s.2.2.2)) → wF F_s 66 (0, [some (.ref 40), some (.ref q_s), some (.int x3), none, none], [], (h_s.1, f_s, h_s.2.2.1, h_s.2.2.2)) (gI K_s)
def C42 (F_s : Nat) : Prop := ∀ (h_s : zH) (K_s : Int32 → zH → Prop) (q_s n_s len_s a0_s m_s op_s a_s s_s : Nat) (x2_s x3 x4_s x5_s m0_s : Int32) (l6 : Option Value) (f0_s f_s : Nat → Nat → Int32) (z_s : pA), (q_s = 14 ∨ q_s = 17) → hKn h_s → x2_s.toInt = (m_s : Int) → m_s < 5 → x3.toInt = (op_s : Int) → op_s ≤ 6 → x4_s.toInt = (if m_s = 2 then 1 else 120) → x5_s.toInt = (s_s : Int) → (m_s = 2 → s_s ≤ 1) → a0_s + 2 * s_s < a_s → a_s ≤ n_s → (f_s 40 1).toInt = (n_s : Int) → n_s ≤ 120 → len_s ≤ 2 * a0_s → frC q_s len_s f0_s f_s → qC q_s len_s a0_s m0_s f_s z_s a_s → (∀ v_s f1_s, frC q_s len_s f0_s f1_s → (∃ r_s, ((m_s = 2 ∧ s_s = 1 ∧ r_s = .inr (a_s, z_s)) ∨ (¬ (m_s = 2 ∧ s_s = 1) ∧ pP (tkF f_s) (m_s + 6) op_s a_s z_s r_s)) ∧ poC q_s len_s a0_s n_s m0_s f1_s v_s r_s) → K_s v_s (h_s.1, f1_s, h_s.2.2.1, h_s.2.2.2)) → wF F_s 65 (42, [some (.ref 40), some (.ref q_s), some (.int x2_s), some (.int x3), some (.int x4_s), some (.int x5_s), l6], [], (h_s.1, f_s, h_s.2.2.1, h_s.2.2.2)) (gI K_s)
theorem frC_tk {q_s len_s : Nat} {f_s f1_s : Nat → Nat → Int32} (hm_s : q_s = 14 ∨ q_s = 17) (hf : frC q_s len_s f_s f1_s) : tkF f1_s = tkF f_s := tkF_eq (hf 40 1 (by omega) (by omega) (by omega)) (fun k_s => hf 41 k_s (by omega) (by omega) (by omega))
theorem up_tk {f_s : Nat → Nat → Int32} {x_s : Int32} : tkF (zup f_s 40 2 x_s) = tkF f_s := tkF_eq (zne_up (by omega)) (fun k_s => zne_up (by omega))
theorem lvl_m1 : lvl (-1) = -1 := rfl
theorem c42_s {F_s : Nat} (i65 : C65 F_s) (i42 : C42 F_s) : C42 (F_s + 1) := by
  intro h_s K_s q_s n_s len_s a0_s m_s op_s a_s s_s x2_s x3 x4_s x5_s m0_s l6 f0_s f_s z_s hm_s hk hx2 m5_s hx3 ho hx4 hx5 hs2 has_s han hfn hn hl0 hf0 qz t_s
  obtain ⟨q1_s, q2_s, q3_s, q4_s, q5_s⟩ := qz
  refine sg_65_42 (h_s := (h_s.1, f_s, h_s.2.2.1, h_s.2.2.2)) hm_s hk ⟨fun c1_s => ?_, fun c1_s => ?_⟩
  · have ns : ¬ (m_s = 2 ∧ s_s = 1) := fun w_s => by
      rw [if_pos w_s.1] at hx4
      omega
    refine sp_68 (h_s := (h_s.1, f_s, h_s.2.2.1, h_s.2.2.2)) hk q1_s (fun c_s hc_s _ => ?_)
    have hc_s : c_s.toInt = tkF f_s a_s := hc_s
    refine sp_72 (h_s := (h_s.1, f_s, h_s.2.2.1, h_s.2.2.2)) hk (fun w_s hw _ => ⟨fun e_s => ?_, fun e_s => ?_⟩)
    · have hlv : lvl (tkF f_s a_s) = (m_s : Int) := by rw [← hc_s, ← hw]; omega
      have hlt : a_s < n_s := by
        by_cases e1_s : n_s ≤ a_s
        · rw [tkF_out hfn a_s e1_s, lvl_m1] at hlv
          omega
        · omega
      have hlv6 : lvl (tkF f_s a_s) = ((m_s + 6 : Nat) : Int) - 6 := by rw [hlv]; omega
      refine i65 h_s _ q_s n_s (len_s + z_s.1.length) (m_s + 1) op_s (a_s + 1) (x2_s + 1) x3 (zup f_s 40 2 (f_s 40 2 + 1)) hm_s hk ?_ (by omega) hx3 ho ⟨?_, hlt, ?_, hn, ?_, by omega⟩ (fun v_s f1_s fr1 hr _ => ?_)
      · rw [in1_ (by omega)]
        omega
      · rw [zsame_up, in1_ (by omega)]
        omega
      · rw [zne_up (by omega)]
        exact hfn
      · rw [zne_up (by omega)]
        exact q2_s
      · obtain ⟨r_s, hp, hpo⟩ := hr
        rw [up_tk] at hp
        have fr2 : frC q_s len_s f0_s f1_s := by
          intro o k_s g1 g2 g3_s
          rw [fr1 o k_s g1 g2 (by omega), zne_up g1]
          exact hf0 o k_s g1 g2 g3_s
        match r_s, hp, hpo with
        | .inl e9_s, hp, hpo =>
          obtain ⟨rfl, hpz⟩ := hpo
          exact ⟨fun _ => t_s 0 f1_s fr2 ⟨.inl e9_s, Or.inr ⟨ns, pP_sgF (by omega) hlv6 (by rw [show m_s + 6 - 5 = m_s + 1 by omega]; exact hp)⟩, rfl, hpz⟩, fun w_s => absurd rfl w_s⟩
        | .inr p_s, hp, hpo =>
          obtain ⟨rfl, p1_s, p2_s, p3_s, p4_s, p5_s, p6_s, p7_s⟩ := hpo
          rw [zne_up (by omega), q5_s] at p7_s
          refine ⟨fun w_s => absurd w_s (by decide), fun _ => ?_⟩
          refine sp_54 (h_s := (h_s.1, f1_s, h_s.2.2.1, h_s.2.2.2)) (len_s := len_s + z_s.1.length + p_s.2.1.length) hm_s hk p4_s (by omega) (fun f2_s b1 b2 b3 _ => ?_)
          have fr3 : frC q_s len_s f0_s f2_s := by
            intro o k_s g1 g2 g3_s
            rw [b3 o k_s (by omega) (by omega)]
            exact fr2 o k_s g1 g2 g3_s
          have tk2 : tkF f2_s = tkF f_s := (frC_tk hm_s fr3).trans (frC_tk hm_s hf0).symm
          refine i42 h_s K_s q_s n_s len_s a0_s m_s op_s p_s.1 (s_s + 1) x2_s x3 x4_s (x5_s + 1) m0_s _ f0_s f2_s (pjn z_s (tkF f_s a_s) p_s.2) hm_s hk hx2 m5_s hx3 ho hx4 ?_ ?_ ?_ p2_s ?_ hn hl0 fr3 ⟨?_, ?_, ?_, ?_, ?_⟩ (fun v_s f3_s fr4 hr => t_s v_s f3_s fr4 ?_)
          · have b120 : x4_s.toInt ≤ 120 := by
              rw [hx4]
              split <;> omega
            rw [in1_ (by omega)]
            omega
          · intro w_s
            rw [if_pos w_s] at hx4
            omega
          · omega
          · rw [fr3 40 1 (by omega) (by omega) (by omega), ← hf0 40 1 (by omega) (by omega) (by omega)]
            exact hfn
          · rw [b3 40 2 (by omega) (by omega)]
            exact p3_s
          · unfold pjn
            simp only [List.length_append, List.length_cons, List.length_nil]
            omega
          · unfold pjn
            simp only [List.length_append, List.length_cons, List.length_nil]
            omega
          · intro j_s d_s hj
            unfold pjn at hj
            rcases zget_apd hj with ⟨j1, j2_s⟩ | ⟨j1, j2_s⟩
            · rw [b3 _ _ (by omega) (by omega)]
              show f1_s (q_s + 1) (len_s + j_s) = d_s
              rw [fr1 _ _ (by omega) (by omega) (by omega), zne_up (by omega)]
              exact q4_s j_s d_s j2_s
            · rcases zget_apd j2_s with ⟨j3_s, j4_s⟩ | ⟨j3_s, j4_s⟩
              · rw [b3 _ _ (by omega) (by omega)]
                have u_s := p6_s (j_s - z_s.1.length) d_s j4_s
                rw [show len_s + z_s.1.length + (j_s - z_s.1.length) = len_s + j_s by omega] at u_s
                exact u_s
              · have e7_s : j_s - z_s.1.length - p_s.2.1.length = 0 := by
                  match h7 : j_s - z_s.1.length - p_s.2.1.length, j4_s with
                  | 0, _ => rfl
                  | _ + 1, j4_s => cases j4_s
                rw [e7_s] at j4_s
                have j5_s : some (Int32.ofInt (tkF f_s a_s)) = some d_s := j4_s
                cases j5_s
                rw [show len_s + j_s = len_s + z_s.1.length + p_s.2.1.length by omega, b1, ofI_ hc_s]
          · rw [b3 _ _ (by omega) (by omega)]
            show f1_s q_s 0 = _
            rw [p7_s]
            unfold pjn
            cases z_s.2.2 <;> cases p_s.2.2.2 <;> rfl
          · obtain ⟨r_s, hr, hpo⟩ := hr
            refine ⟨r_s, Or.inr ⟨ns, ?_⟩, hpo⟩
            rcases hr with ⟨g1, g2, g3_s⟩ | ⟨g1, g2⟩
            · subst g1
              subst g3_s
              exact pP_sg8 hlv hp
            · rw [tk2] at g2
              by_cases e2_s : m_s = 2
              · exact absurd ⟨e2_s, by
                  rw [if_pos e2_s] at hx4
                  omega⟩ g1
              · exact pP_sg (by omega) (by omega) hlv6 (by rw [show m_s + 6 - 5 = m_s + 1 by omega]; exact hp) g2
    · refine t_s 1 f_s hf0 ⟨.inr (a_s, z_s), Or.inr ⟨ns, pP_end (by omega) ?_⟩, rfl, by omega, han, q1_s, q2_s, q3_s, q4_s, q5_s⟩
      rw [← hc_s, ← hw]
      omega
  · have e2_s : m_s = 2 ∧ s_s = 1 := by
      by_cases e2_s : m_s = 2
      · have := hs2 e2_s
        rw [if_pos e2_s] at hx4
        omega
      · rw [if_neg e2_s] at hx4
        omega
    exact t_s 1 f_s hf0 ⟨.inr (a_s, z_s), Or.inl ⟨e2_s.1, e2_s.2, rfl⟩, rfl, by omega, han, q1_s, q2_s, q3_s, q4_s, q5_s⟩
theorem c65_s {F_s : Nat} (i65 : C65 F_s) (i66 : C66 F_s) (i42 : C42 F_s) : C65 (F_s + 1) := by
  intro h_s K_s q_s n_s len_s m_s op_s a_s x2_s x3 f_s hm_s hk hx2 m5_s hx3 ho hp0 t_s
  obtain ⟨p1_s, p2_s, p3_s, p4_s, p5_s, p6_s⟩ := hp0
  refine sg_65_0 (h_s := (h_s.1, f_s, h_s.2.2.1, h_s.2.2.2)) hm_s hk ⟨fun c1_s => ?_, fun c1_s => ?_⟩
  · refine i65 h_s _ q_s n_s len_s (m_s + 1) op_s a_s (x2_s + 1) x3 f_s hm_s hk ?_ (by omega) hx3 ho ⟨p1_s, p2_s, p3_s, p4_s, p5_s, p6_s⟩ (fun v_s f1_s fr1 hr _ => ?_)
    · rw [in1_ (by omega)]
      omega
    · obtain ⟨r_s, hp, hpo⟩ := hr
      match r_s, hp, hpo with
      | .inl e9_s, hp, hpo =>
        obtain ⟨rfl, hpz⟩ := hpo
        exact ⟨fun _ => t_s 0 f1_s fr1 ⟨.inl e9_s, pP_levF (by omega) hp, rfl, hpz⟩, fun w_s => absurd rfl w_s⟩
      | .inr p_s, hp, hpo =>
        obtain ⟨rfl, g1, g2, g3_s⟩ := hpo
        have fn1 : (f1_s 40 1).toInt = (n_s : Int) := by
          rw [fr1 40 1 (by omega) (by omega) (by omega)]
          exact p3_s
        have key_s : ∀ v_s f2_s, frC q_s len_s f_s f2_s → (∃ r_s, ((m_s = 2 ∧ 0 = 1 ∧ r_s = .inr (p_s.1, p_s.2)) ∨ (¬ (m_s = 2 ∧ 0 = 1) ∧ pP (tkF f1_s) (m_s + 6) op_s p_s.1 p_s.2 r_s)) ∧ poC q_s len_s a_s n_s (f_s q_s 0) f2_s v_s r_s) → K_s v_s (h_s.1, f2_s, h_s.2.2.1, h_s.2.2.2) := by
          intro v_s f2_s fr2 hr
          obtain ⟨r_s, hr, hpo⟩ := hr
          refine t_s v_s f2_s fr2 ⟨r_s, ?_, hpo⟩
          rcases hr with ⟨_, w_s, _⟩ | ⟨_, w_s⟩
          · omega
          · rw [frC_tk hm_s fr1] at w_s
            exact pP_lev (by omega) hp w_s
        refine ⟨fun w_s => absurd w_s (by decide), fun _ => ⟨fun e2_s => ?_, fun e2_s => ?_⟩⟩
        · exact i42 h_s K_s q_s n_s len_s a_s m_s op_s p_s.1 0 x2_s x3 1 0 (f_s q_s 0) none f_s f1_s p_s.2 hm_s hk hx2 (by omega) hx3 ho (by rw [if_pos (by omega)]; rfl) rfl (fun _ => by omega) (by omega) g2 fn1 p4_s p6_s fr1 g3_s key_s
        · exact i42 h_s K_s q_s n_s len_s a_s m_s op_s p_s.1 0 x2_s x3 120 0 (f_s q_s 0) none f_s f1_s p_s.2 hm_s hk hx2 (by omega) hx3 ho (by rw [if_neg (by omega)]; rfl) rfl (fun _ => by omega) (by omega) g2 fn1 p4_s p6_s fr1 g3_s key_s
  · have e5_s : m_s = 5 := by omega
    subst e5_s
    exact i66 h_s _ q_s n_s len_s op_s a_s x3 f_s hm_s hk hx3 ho ⟨p1_s, p2_s, p3_s, p4_s, p5_s, p6_s⟩ (fun v_s f1_s fr1 hr _ => t_s v_s f1_s fr1 hr)
