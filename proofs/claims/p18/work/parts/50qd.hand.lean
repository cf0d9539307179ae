/-! THE CLASS READS A TEXT: operands; all of a text. -/
theorem c66_s {F_s : Nat} (i65 : C65 F_s) (i66 : C66 F_s) : C66 (F_s + 1) := by
  intro h_s K_s q_s n_s len_s op_s a_s x3 f_s hm_s hk hx3 ho hp0 t_s
  obtain ⟨p1_s, p2_s, p3_s, p4_s, p5_s, p6_s⟩ := hp0
  refine sg_66_0 (h_s := (h_s.1, f_s, h_s.2.2.1, h_s.2.2.2)) hm_s hk ?_
  refine sp_68 (h_s := (h_s.1, f_s, h_s.2.2.1, h_s.2.2.2)) hk p1_s (fun c_s hc_s _ => ?_)
  have hc_s : c_s.toInt = tkF f_s a_s := hc_s
  have hlt : tkF f_s a_s ≠ -1 → a_s < n_s := fun w_s => by
    by_cases e1_s : n_s ≤ a_s
    · exact absurd (tkF_out p3_s a_s e1_s) w_s
    · omega
  refine sp_70 (h_s := (h_s.1, f_s, h_s.2.2.1, h_s.2.2.2)) hk (fun d_s _ => ⟨fun _ => ?_, fun w_s => absurd rfl w_s⟩) (fun d_s _ => ⟨fun w_s => absurd w_s (by decide), fun _ => ?_⟩)
  · have hd_s : ¬ (48 ≤ tkF f_s a_s ∧ tkF f_s a_s ≤ 57) := by omega
    refine sp_71 (h_s := (h_s.1, f_s, h_s.2.2.1, h_s.2.2.2)) hk (fun kn_s hkn _ => ⟨fun e_s => ?_, fun e_s => ?_⟩)
    · have hn0 : ¬ 0 ≤ nmo (tkF f_s a_s) := by
        rw [← hc_s, ← hkn]
        omega
      have flt_s : (¬ (tkF f_s a_s = 40 ∨ tkF f_s a_s = 33 ∨ tkF f_s a_s = 45) ∨ 6 ≤ op_s) → K_s 0 (h_s.1, f_s, h_s.2.2.1, h_s.2.2.2) := fun w_s => t_s 0 f_s (fun _ _ _ _ _ => rfl) ⟨.inl a_s, pP_bad hd_s hn0 w_s, rfl, p1_s⟩
      have un : ∀ x9 : Int32, (if tkF f_s a_s = 33 then (33 : Int32) else 126) = x9 → (tkF f_s a_s = 33 ∨ tkF f_s a_s = 45) → op_s < 6 → wF F_s 66 (0, [some (.ref 40), some (.ref q_s), some (.int (x3 + 1)), none, none], [], (h_s.1, zup f_s 40 2 (f_s 40 2 + 1), h_s.2.2.1, h_s.2.2.2)) (gI (fun v15 h15 => hKn h15 → (v15.toInt = 0 → K_s 0 h15) ∧ (¬ v15.toInt = 0 → wF F_s 54 (0, [some (.ref q_s), some (.int x9)], [], h15) (gV (fun h18 => hKn h18 → K_s 1 h18))))) := by
        intro x9 hx9 h33 ho6
        have hl1 := hlt (by omega)
        refine i66 h_s _ q_s n_s len_s (op_s + 1) (a_s + 1) (x3 + 1) (zup f_s 40 2 (f_s 40 2 + 1)) hm_s hk ?_ (by omega) ⟨?_, hl1, ?_, p4_s, ?_, by omega⟩ (fun v_s f1_s fr1 hr _ => ?_)
        · rw [in1_ (by omega)]
          omega
        · rw [zsame_up, in1_ (by omega)]
          omega
        · rw [zne_up (by omega)]
          exact p3_s
        · rw [zne_up (by omega)]
          exact p5_s
        · obtain ⟨r_s, hp, hpo⟩ := hr
          rw [up_tk] at hp
          have fr2 : frC q_s len_s f_s f1_s := by
            intro o k_s g1 g2 g3_s
            rw [fr1 o k_s g1 g2 g3_s, zne_up g1]
          match r_s, hp, hpo with
          | .inl e9_s, hp, hpo =>
            obtain ⟨rfl, hpz⟩ := hpo
            exact ⟨fun _ => t_s 0 f1_s fr2 ⟨.inl e9_s, pP_unF h33 ho6 hp, rfl, hpz⟩, fun w_s => absurd rfl w_s⟩
          | .inr p_s, hp, hpo =>
            obtain ⟨rfl, g1, g2, g3_s, g4, g5_s, g6, g7⟩ := hpo
            rw [zne_up (by omega)] at g7
            refine ⟨fun w_s => absurd w_s (by decide), fun _ => ?_⟩
            refine sp_54 (h_s := (h_s.1, f1_s, h_s.2.2.1, h_s.2.2.2)) (len_s := len_s + p_s.2.1.length) hm_s hk g4 (by omega) (fun f2_s b1 b2 b3 _ => ?_)
            refine t_s 1 f2_s ?_ ⟨.inr (p_s.1, pun (tkF f_s a_s) p_s.2), pP_un h33 ho6 hp, rfl, by omega, g2, ?_, ?_, ?_, ?_, ?_⟩
            · intro o k_s u1_s u2_s u3
              rw [b3 o k_s (by omega) (by omega)]
              exact fr2 o k_s u1_s u2_s u3
            · rw [b3 40 2 (by omega) (by omega)]
              exact g3_s
            · unfold pun
              simp only [List.length_append, List.length_cons, List.length_nil]
              omega
            · unfold pun
              simp only [List.length_append, List.length_cons, List.length_nil]
              omega
            · intro j_s d_s hj
              unfold pun at hj
              rcases zget_apd hj with ⟨j1, j2_s⟩ | ⟨j1, j2_s⟩
              · rw [b3 _ _ (by omega) (by omega)]
                exact g6 j_s d_s j2_s
              · have e7_s : j_s - p_s.2.1.length = 0 := by
                  match h7 : j_s - p_s.2.1.length, j2_s with
                  | 0, _ => rfl
                  | _ + 1, j2_s => cases j2_s
                rw [e7_s] at j2_s
                have j5_s : some (if tkF f_s a_s = 33 then (33 : Int32) else 126) = some d_s := j2_s
                rw [hx9] at j5_s
                cases j5_s
                rw [show len_s + j_s = len_s + p_s.2.1.length by omega, b1]
            · rw [b3 _ _ (by omega) (by omega)]
              exact g7
      refine ⟨fun e1_s => ⟨fun e2_s => ?_, fun e2_s => flt_s (by omega)⟩, fun e1_s => ⟨fun e3_s => ⟨fun e2_s => ?_, fun e2_s => flt_s (by omega)⟩, fun e3_s => ⟨fun e4_s => ⟨fun e2_s => ?_, fun e2_s => flt_s (by omega)⟩, fun e4_s => flt_s (by omega)⟩⟩⟩
      · have h40 : tkF f_s a_s = 40 := by omega
        have hl1 := hlt (by omega)
        have ho6 : op_s < 6 := by omega
        refine i65 h_s _ q_s n_s len_s 0 (op_s + 1) (a_s + 1) 0 (x3 + 1) (zup f_s 40 2 (f_s 40 2 + 1)) hm_s hk rfl (by omega) ?_ (by omega) ⟨?_, hl1, ?_, p4_s, ?_, by omega⟩ (fun v_s f1_s fr1 hr _ => ?_)
        · rw [in1_ (by omega)]
          omega
        · rw [zsame_up, in1_ (by omega)]
          omega
        · rw [zne_up (by omega)]
          exact p3_s
        · rw [zne_up (by omega)]
          exact p5_s
        · obtain ⟨r_s, hp, hpo⟩ := hr
          rw [up_tk] at hp
          have fr2 : frC q_s len_s f_s f1_s := by
            intro o k_s g1 g2 g3_s
            rw [fr1 o k_s g1 g2 g3_s, zne_up g1]
          have tk1 : tkF f1_s = tkF f_s := frC_tk hm_s fr2
          have fn1 : (f1_s 40 1).toInt = (n_s : Int) := by
            rw [fr2 40 1 (by omega) (by omega) (by omega)]
            exact p3_s
          match r_s, hp, hpo with
          | .inl e9_s, hp, hpo =>
            obtain ⟨rfl, hpz⟩ := hpo
            exact ⟨fun _ => t_s 0 f1_s fr2 ⟨.inl e9_s, pP_parF h40 ho6 hp, rfl, hpz⟩, fun w_s => absurd rfl w_s⟩
          | .inr p_s, hp, hpo =>
            obtain ⟨rfl, g1, g2, g3_s, g4, g5_s, g6, g7⟩ := hpo
            rw [zne_up (by omega)] at g7
            refine ⟨fun w_s => absurd w_s (by decide), fun _ => ?_⟩
            refine sp_69 (h_s := (h_s.1, f1_s, h_s.2.2.1, h_s.2.2.2)) (a_s := p_s.1) hk g3_s (by omega) (fun c9_s f2_s b1 b2 _ => ⟨fun w_s => absurd w_s (by decide), fun _ => ?_⟩) (fun c9_s _ => ⟨fun _ => ?_, fun w_s => absurd rfl w_s⟩)
            · have c9_s : tkF f1_s p_s.1 = 41 := c9_s
              have b2 : ∀ o k_s, ¬ (o = 40 ∧ k_s = 2) → f2_s o k_s = f1_s o k_s := b2
              have hl2 : p_s.1 < n_s := by
                by_cases e7_s : n_s ≤ p_s.1
                · have := tkF_out fn1 p_s.1 e7_s
                  omega
                · omega
              refine t_s 1 f2_s ?_ ⟨.inr (p_s.1 + 1, p_s.2), pP_par h40 ho6 hp (by rw [← tk1]; exact c9_s), rfl, by omega, hl2, b1, ?_, (by show p_s.2.1.length + 2 * a_s ≤ 2 * (p_s.1 + 1); omega), ?_, ?_⟩
              · intro o k_s u1_s u2_s u3
                rw [b2 o k_s u1_s]
                exact fr2 o k_s u1_s u2_s u3
              · rw [b2 _ _ (by omega)]
                exact g4
              · intro j_s d_s hj
                rw [b2 _ _ (by omega)]
                exact g6 j_s d_s hj
              · rw [b2 _ _ (by omega)]
                exact g7
            · exact t_s 0 f1_s fr2 ⟨.inl p_s.1, pP_parN h40 ho6 hp (by rw [← tk1]; exact c9_s), rfl, g3_s⟩
      · exact un 33 (by rw [if_pos (by omega)]) (by omega) (by omega)
      · exact un 126 (by rw [if_neg (by omega)]) (by omega) (by omega)
    · have hn0 : 0 ≤ nmo (tkF f_s a_s) := by
        rw [← hc_s, ← hkn]
        omega
      have hl1 := hlt (fun w_s => by
        rw [w_s] at hn0
        exact absurd hn0 (by decide))
      refine sp_55 (h_s := (h_s.1, f_s, h_s.2.2.1, h_s.2.2.2)) (len_s := len_s) hm_s hk p5_s (by omega) (fun f1_s b1 b2 b3 b4 b5 _ => ?_)
      have b5 : ∀ o k_s, ¬ (o = q_s + 1 ∧ len_s ≤ k_s) → ¬ (o = q_s ∧ k_s ≤ 2) → f1_s o k_s = f_s o k_s := b5
      have e40 : f1_s 40 2 = f_s 40 2 := b5 40 2 (by omega) (by omega)
      refine t_s 1 (zup f1_s 40 2 (f1_s 40 2 + 1)) ?_ ⟨_, pP_nam hd_s hn0, rfl, by omega, hl1, ?_, ?_, ?_, ?_, ?_⟩
      · intro o k_s u1_s u2_s u3
        rw [zne_up u1_s]
        exact b5 o k_s u3 u2_s
      · rw [zsame_up, e40, in1_ (by omega)]
        omega
      · rw [zne_up (by omega)]
        exact b3
      · show 2 + 2 * a_s ≤ 2 * (a_s + 1)
        omega
      · intro j_s d_s hj
        rw [zne_up (by omega)]
        match j_s, hj with
        | 0, hj =>
          cases hj
          exact b1
        | 1, hj =>
          cases hj
          rw [b2]
          exact (ofI_ (by rw [hkn, hc_s])).symm
        | _ + 2, hj => cases hj
      · rw [zne_up (by omega), b4]
        show (if kn_s.toInt = 1 then (1 : Int32) else f_s q_s 0) = (if decide (nmo (tkF f_s a_s) = 1) = true then 1 else f_s q_s 0)
        rw [hkn, hc_s]
        by_cases e7_s : nmo (tkF f_s a_s) = 1
        · rw [if_pos e7_s, if_pos (by rw [e7_s]; rfl)]
        · rw [if_neg e7_s, if_neg (fun w_s => e7_s (of_decide_eq_true w_s))]
  · have hd_s : 48 ≤ tkF f_s a_s ∧ tkF f_s a_s ≤ 57 := by omega
    have hl1 := hlt (by omega)
    have pl := pdg_le (tkF_out p3_s) 4 a_s 0 p2_s
    have plt : a_s < (pdg (tkF f_s) 4 a_s 0).1 := pdg_lt (k_s := 3) (v_s := 0) (tkF_out p3_s) p2_s hd_s
    cases F_s with
    | zero => exact wF_zero
    | succ F_s =>
      refine sg_67_0 (h_s := (h_s.1, f_s, h_s.2.2.1, h_s.2.2.2)) hm_s hk ?_
      refine num67 (h_s := h_s) (K_s := fun v28 h28 => hKn h28 → K_s v28 h28) (len_s := len_s) (n_s := n_s) (f0_s := f_s) (tk := tkF f_s) (a1_s := (pdg (tkF f_s) 4 a_s 0).1) (v1_s := (pdg (tkF f_s) 4 a_s 0).2) hm_s hk (by omega) p4_s (fun f1_s b1 b2 b3 b4 b5 _ => ?_) F_s 0 a_s 0 0 f_s rfl (by omega) p1_s p2_s p3_s rfl p5_s (fun _ _ _ => rfl) rfl
      refine t_s 1 f1_s ?_ ⟨_, pP_num hd_s, rfl, plt, pl.2, b1, b4, ?_, ?_, ?_⟩
      · intro o k_s u1_s u2_s u3
        exact b5 o k_s u1_s u3 (by omega)
      · show 2 + 2 * a_s ≤ 2 * (pdg (tkF f_s) 4 a_s 0).1
        omega
      · intro j_s d_s hj
        match j_s, hj with
        | 0, hj =>
          cases hj
          exact b2
        | 1, hj =>
          cases hj
          exact b3
        | _ + 2, hj => cases hj
      · exact b5 q_s 0 (by omega) (by omega) (by omega)
theorem cpar : ∀ F_s, C65 F_s ∧ C66 F_s ∧ C42 F_s
  | 0 => by
    refine ⟨?_, ?_, ?_⟩
    · intro _ _ _
      intros
      exact wF_zero
    · intro _ _ _
      intros
      exact wF_zero
    · intro _ _ _
      intros
      exact wF_zero
  | F_s + 1 => by
    obtain ⟨i1_s, i2_s, i3_s⟩ := cpar F_s
    exact ⟨c65_s i1_s i2_s i3_s, c66_s i1_s i2_s, c42_s i1_s i3_s⟩
