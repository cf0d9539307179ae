/-! THE REFERENCE READS A TEXT: operands; lines. -/
theorem num75 {h_s : zH} {K_s : Int32 → zH → Prop} {tk : Nat → Int} {nm : Nat → Int32} {n_s op_s a1_s : Nat} {v1_s x1_s x2_s : Int32} {f0_s : Nat → Nat → Int32} (hk : hKn h_s) (t_s : ∀ f1_s, frR f0_s f1_s → (f1_s 102 18).toInt = -1 → (f1_s 102 16).toInt = (a1_s : Int) → a1_s ≤ n_s → (f1_s 102 19).toInt = (op_s : Int) → K_s v1_s (h_s.1, f1_s, h_s.2.2.1, h_s.2.2.2)) : ∀ (F_s k_s a_s : Nat) (v_s x4_s : Int32) (f_s : Nat → Nat → Int32), x4_s.toInt = (k_s : Int) → k_s ≤ 4 → prR tk nm n_s op_s a_s f_s → frR f0_s f_s → (0 < k_s ∨ (48 ≤ tk a_s ∧ tk a_s ≤ 57)) → pdg tk (4 - k_s) a_s v_s = (a1_s, v1_s) → wF F_s 175 (176, [some (.ref 102), some (.int x1_s), some (.int x2_s), some (.int v_s), some (.int x4_s)], [], (h_s.1, f_s, h_s.2.2.1, h_s.2.2.2)) (gI K_s)
  | 0, _, _, _, _, _, _, _, _, _, _, _ => wF_zero
  | F_s + 1, k_s, a_s, v_s, x4_s, f_s, hx, h4, hp, hf, hd_s, hq => by
    have don : (a_s, v_s) = (a1_s, v1_s) → K_s v_s (h_s.1, f_s, h_s.2.2.1, h_s.2.2.2) := fun w_s => by
      cases w_s
      exact t_s f_s hf hp.1 hp.2.1 hp.2.2.1 hp.2.2.2.2.2.1
    refine sg_175_176 (h_s := (h_s.1, f_s, h_s.2.2.1, h_s.2.2.2)) hk ⟨fun c1_s => ?_, fun c1_s => ⟨fun c2_s => absurd c2_s (by omega), fun c2_s => ?_⟩⟩
    · have e4_s : 4 - k_s = (4 - (k_s + 1)) + 1 := by omega
      rw [e4_s] at hq
      unfold pdg at hq
      refine sp_166 hk hp (fun v2 hv2 _ => ⟨fun c_s => ⟨fun c2_s => ?_, fun c2_s => ?_⟩, fun c_s => ?_⟩)
      · omega
      · rw [if_neg (by omega)] at hq
        exact don hq
      · refine sp_166 hk hp (fun v6 hv6 _ => ⟨fun c3_s => ⟨fun c2_s => ?_, fun c2_s => ?_⟩, fun c3_s => ?_⟩)
        · omega
        · rw [if_neg (by omega)] at hq
          exact don hq
        · refine sp_166 hk hp (fun v10 hv10 _ => ?_)
          have hdg : 48 ≤ tk a_s ∧ tk a_s ≤ 57 := by omega
          rw [if_pos hdg] at hq
          have hlt := prR_lt hp (by omega)
          obtain ⟨fr1, hp1⟩ := prR_up hp hlt
          refine num75 hk t_s F_s (k_s + 1) (a_s + 1) _ (x4_s + 1) _ ?_ (by omega) hp1 (frR_tr hf fr1) (by omega) ?_
          · rw [in1_ (by omega)]
            omega
          · have e7_s : v10.toInt = tk a_s := by omega
            rw [ofI_ e7_s, Int32.mul_comm] at hq
            exact hq
    · have e4_s : 4 - k_s = 0 := by omega
      rw [e4_s] at hq
      exact don hq
theorem nd75 {F_s : Nat} {h_s : zH} {K_s : Int32 → zH → Prop} {tk : Nat → Int} {nm : Nat → Int32} {n_s op_s a_s : Nat} {x1_s x2_s v_s : Int32} {f_s : Nat → Nat → Int32} (hk : hKn h_s) (hp : prR tk nm n_s op_s a_s f_s) (hd_s : ¬ (48 ≤ tk a_s ∧ tk a_s ≤ 57)) (t_s : ∀ f1_s, frR f_s f1_s → (f1_s 102 18).toInt = (a_s : Int) → K_s 0 (h_s.1, f1_s, h_s.2.2.1, h_s.2.2.2)) : wF F_s 175 (176, [some (.ref 102), some (.int x1_s), some (.int x2_s), some (.int v_s), some (.int 0)], [], (h_s.1, f_s, h_s.2.2.1, h_s.2.2.2)) (gI K_s) := by
  have hp1 := hp.1
  have hp2 := hp.2.1
  have wr_s : wF F_s 167 (0, [some (.ref 102)], [], (h_s.1, f_s, h_s.2.2.1, h_s.2.2.2)) (gI (fun v5 h5 => hKn h5 → K_s v5 h5)) := sp_167 hk (fun _ f1_s b1 b2 _ => t_s f1_s (fun o k_s hq => b2 o k_s (by omega)) (by rw [b1]; exact hp2)) (fun c_s => absurd c_s (by omega))
  refine wF_le (Nat.le_succ F_s) (sg_175_176 (h_s := (h_s.1, f_s, h_s.2.2.1, h_s.2.2.2)) hk ⟨fun c1_s => ?_, fun c1_s => absurd c1_s (by decide)⟩)
  refine sp_166 hk hp (fun v2 hv2 _ => ⟨fun c_s => ⟨fun c2_s => wr_s, fun c2_s => absurd rfl c2_s⟩, fun c_s => ?_⟩)
  refine sp_166 hk hp (fun v6 hv6 _ => ⟨fun c3_s => ⟨fun c2_s => wr_s, fun c2_s => absurd rfl c2_s⟩, fun c3_s => ?_⟩)
  omega
theorem r75_s {F_s : Nat} (i69 : R69 F_s) (i75 : R75 F_s) : R75 (F_s + 1) := by
  intro h_s K_s tk nm n_s op_s a_s f_s hk hp t_s
  have hp1 := hp.1
  have hp2 := hp.2.1
  have hp3 := hp.2.2.1
  have hp5 := hp.2.2.2.2.1
  have hp6 := hp.2.2.2.2.2.1
  have hp7 := hp.2.2.2.2.2.2.1
  have hp9 := hp.2.2.2.2.2.2.2.2.1
  have hp11 := hp.2.2.2.2.2.2.2.2.2.2
  have tout : ∀ k_s, n_s ≤ k_s → tk k_s = -1 := fun k_s hq => by
    rw [← hp.2.2.2.2.2.2.2.2.2.1]
    unfold tkR
    rw [if_neg (by have := hp.2.2.2.1; omega)]
  have flt_s : (¬ (48 ≤ tk a_s ∧ tk a_s ≤ 57)) → ¬ 0 ≤ nmo (tk a_s) → (¬ (tk a_s = 40 ∨ tk a_s = 33 ∨ tk a_s = 45) ∨ 6 ≤ op_s) → ∀ v_s f1_s, frR f_s f1_s → (f1_s 102 18).toInt = (a_s : Int) → K_s v_s (h_s.1, f1_s, h_s.2.2.1, h_s.2.2.2) := fun c1_s c2_s c3_s v_s f1_s fr1 e_s => t_s v_s f1_s fr1 ⟨.inl a_s, pP_bad c1_s c2_s c3_s, e_s⟩
  have at32 : ∀ x1_s : Int32, x1_s.toInt = tk a_s → (tk a_s = 40 ∨ tk a_s = 33 ∨ tk a_s = 45) → wF F_s 175 (32, [some (.ref 102), some (.int x1_s), none, none, none], [], (h_s.1, f_s, h_s.2.2.1, h_s.2.2.2)) (gI K_s) := by
    intro x1_s hx hs
    have hnm : ¬ 0 ≤ nmo (tk a_s) := by
      rcases hs with e_s | e_s | e_s
      · rw [e_s]
        decide
      · rw [e_s]
        decide
      · rw [e_s]
        decide
    have hlt := prR_lt hp (by omega)
    refine wF_le (Nat.le_succ F_s) (sg_175_32 (h_s := (h_s.1, f_s, h_s.2.2.1, h_s.2.2.2)) hk ⟨fun (c_s : (f_s 102 19).toInt = 6) => ?_, fun (c_s : ¬ (f_s 102 19).toInt = 6) => ?_⟩)
    · exact sp_167 hk (fun _ f1_s b1 b2 _ => flt_s (by omega) hnm (by omega) 0 f1_s (fun o k_s hq => b2 o k_s (by omega)) (by rw [b1]; exact hp2)) (fun c_s => absurd c_s (by omega))
    · have ho6 : op_s < 6 := by omega
      have fr1 : frR f_s (zup (zup f_s 102 19 (f_s 102 19 + 1)) 102 16 (f_s 102 16 + 1)) := fun o k_s hq => by rw [zne_up (by omega), zne_up (by omega)]
      have hq1 : prR tk nm n_s (op_s + 1) (a_s + 1) (zup (zup f_s 102 19 (f_s 102 19 + 1)) 102 16 (f_s 102 16 + 1)) := by
        refine prR_fr fr1 hp ?_ ?_ hlt ?_ (by omega)
        · rw [zne_up (by omega), zne_up (by omega)]
          exact hp1
        · rw [zsame_up, in1_ (by omega)]
          omega
        · rw [zne_up (by omega), zsame_up, in1_ (by omega)]
          omega
      have dn : ∀ (f2_s : Nat → Nat → Int32), (f2_s 102 19).toInt = ((op_s + 1 : Nat) : Int) → (zup f2_s 102 19 (f2_s 102 19 - 1) 102 19).toInt = (op_s : Int) := fun f2_s e_s => by
        rw [zsame_up, na_sub (by rw [n1_]; omega) (by rw [n1_]; omega), n1_]
        omega
      refine ⟨fun e40 => ?_, fun e40 => ?_⟩
      · have h40 : tk a_s = 40 := by omega
        refine i69 h_s _ tk nm n_s (op_s + 1) (a_s + 1) _ hk hq1 (fun v4_s f2_s fr2 hr _ => ?_)
        obtain ⟨r_s, hq, hpo⟩ := hr
        match r_s, hq, hpo with
        | .inl e_s, hq, hpo =>
          have hpo : (f2_s 102 18).toInt = (e_s : Int) := hpo
          refine sp_168F hk (by omega) (fun _ => ⟨fun _ => ?_, fun w_s => absurd rfl w_s⟩)
          refine sp_167 hk (fun c_s => absurd c_s (by omega)) (fun _ f3_s b3 _ => t_s 0 f3_s (fun o k_s hq => ?_) ⟨.inl e_s, pP_parF h40 ho6 hq, ?_⟩)
          · rw [b3]
            exact frR_tr fr1 fr2 o k_s hq
          · show (f3_s 102 18).toInt = _
            rw [b3]
            exact hpo
        | .inr p_s, hq, hpo =>
          obtain ⟨g1, g2, g3_s, g4, g5_s⟩ := hpo
          have hq2 : prR tk nm n_s (op_s + 1) p_s.1 f2_s := prR_fr (frR_tr fr1 fr2) hp g1 g2 g3_s g4 (by omega)
          refine sp_168 (x1_s := 41) hk hq2 (by decide) (fun c9_s f3_s b1 b2 _ => ⟨fun w_s => absurd w_s (by decide), fun _ => ?_⟩) (fun c9_s _ => ⟨fun _ => ?_, fun w_s => absurd rfl w_s⟩)
          · have c9_s : tk p_s.1 = 41 := c9_s
            have hl2 := prR_lt hq2 (by omega)
            refine t_s v4_s (zup f3_s 102 19 (f3_s 102 19 - 1)) (fun o k_s hq => ?_) ⟨.inr (p_s.1 + 1, p_s.2), pP_par h40 ho6 hq c9_s, ?_, ?_, hl2, ?_, g5_s⟩
            · rw [zne_up (by omega), b2 o k_s (by omega)]
              exact frR_tr fr1 fr2 o k_s hq
            · rw [zne_up (by omega), b2 _ _ (by omega)]
              exact g1
            · rw [zne_up (by omega)]
              exact b1
            · exact dn f3_s (by rw [b2 _ _ (by omega)]; exact g4)
          · have c9_s : ¬ tk p_s.1 = 41 := c9_s
            exact sp_167 hk (fun _ f3_s b1 b2 _ => t_s 0 f3_s (fun o k_s hq => (b2 o k_s (by omega)).trans (frR_tr fr1 fr2 o k_s hq)) ⟨.inl p_s.1, pP_parN h40 ho6 hq c9_s, by
              show (f3_s 102 18).toInt = _
              rw [b1]
              exact g2⟩) (fun c_s => absurd c_s (by omega))
      · have h33 : tk a_s = 33 ∨ tk a_s = 45 := by omega
        refine i75 h_s _ tk nm n_s (op_s + 1) (a_s + 1) _ hk hq1 (fun v10 f2_s fr2 hr _ => ?_)
        obtain ⟨r_s, hq, hpo⟩ := hr
        have fr3 : frR f_s (zup f2_s 102 19 (f2_s 102 19 - 1)) := fun o k_s hq => by
          rw [zne_up (by omega)]
          exact frR_tr fr1 fr2 o k_s hq
        match r_s, hq, hpo with
        | .inl e_s, hq, hpo =>
          have hpo : (f2_s 102 18).toInt = (e_s : Int) := hpo
          have tt : ∀ v_s, K_s v_s (h_s.1, zup f2_s 102 19 (f2_s 102 19 - 1), h_s.2.2.1, h_s.2.2.2) := fun v_s => t_s v_s _ fr3 ⟨.inl e_s, pP_unF h33 ho6 hq, by
            show (zup f2_s 102 19 (f2_s 102 19 - 1) 102 18).toInt = _
            rw [zne_up (by omega)]
            exact hpo⟩
          exact ⟨fun _ => tt _, fun _ => ⟨fun _ => tt _, fun _ => tt _⟩⟩
        | .inr p_s, hq, hpo =>
          obtain ⟨g1, g2, g3_s, g4, g5_s⟩ := hpo
          have tt : ∀ v_s, v_s = (pun (tk a_s) p_s.2).2.1 nm → K_s v_s (h_s.1, zup f2_s 102 19 (f2_s 102 19 - 1), h_s.2.2.1, h_s.2.2.2) := fun v_s hv => t_s v_s _ fr3 ⟨.inr (p_s.1, pun (tk a_s) p_s.2), pP_un h33 ho6 hq, by
              rw [zne_up (by omega)]
              exact g1, by
              rw [zne_up (by omega)]
              exact g2, g3_s, dn f2_s g4, hv⟩
          refine ⟨fun e_s => tt _ ?_, fun e_s => ⟨fun e1_s => tt _ ?_, fun e1_s => tt _ ?_⟩⟩
          · show -v10 = (if tk a_s = 33 then (if p_s.2.2.1 nm = 0 then (1 : Int32) else 0) else -(p_s.2.2.1 nm))
            rw [if_neg (by omega), g5_s]
          · show (1 : Int32) = (if tk a_s = 33 then (if p_s.2.2.1 nm = 0 then (1 : Int32) else 0) else -(p_s.2.2.1 nm))
            rw [if_pos (by omega), ← g5_s, if_pos (i0_ e1_s)]
          · show (0 : Int32) = (if tk a_s = 33 then (if p_s.2.2.1 nm = 0 then (1 : Int32) else 0) else -(p_s.2.2.1 nm))
            rw [if_pos (by omega), ← g5_s, if_neg (n0_ e1_s)]
  refine sg_175_0 (h_s := (h_s.1, f_s, h_s.2.2.1, h_s.2.2.2)) hk ⟨fun _ => ?_, fun (c_s : ¬ (f_s 102 18).toInt < 0) => absurd hp1 (by omega)⟩
  refine sp_166 hk hp (fun v2 hv2 _ => ⟨fun c1_s => at32 v2 (by omega) (by omega), fun c1_s => ⟨fun c2_s => at32 v2 (by omega) (by omega), fun c2_s => ⟨fun c3_s => at32 v2 (by omega) (by omega), fun c3_s => ?_⟩⟩⟩)
  have n3_s : ¬ (tk a_s = 40 ∨ tk a_s = 33 ∨ tk a_s = 45) := by omega
  have nme : nmo v2.toInt = nmo (tk a_s) := by
    rcases hv2 with ⟨e1_s, e2_s⟩ | ⟨e1_s, e2_s⟩
    · rw [e1_s, e2_s]
      rfl
    · rw [e2_s]
  refine sp_174 (h_s := (h_s.1, f_s, h_s.2.2.1, h_s.2.2.2)) hk (fun v6 hv6 _ => ⟨fun e_s => ?_, fun e_s => fun e6_s => ?_⟩)
  · have hn0 : ¬ 0 ≤ nmo (tk a_s) := by
      rw [← nme, ← hv6]
      omega
    by_cases hd_s : 48 ≤ tk a_s ∧ tk a_s ≤ 57
    · refine num75 (f0_s := f_s) (a1_s := (pdg tk 4 a_s 0).1) (v1_s := (pdg tk 4 a_s 0).2) hk (fun f1_s fr1 b1 b2 b3 b4 => t_s _ f1_s fr1 ⟨_, pP_num hd_s, b1, b2, b3, b4, rfl⟩) F_s 0 a_s 0 0 f_s rfl (by omega) hp frR_rf (Or.inr hd_s) rfl
    · exact nd75 hk hp hd_s (fun f1_s fr1 b1 => flt_s hd_s hn0 (Or.inl n3_s) 0 f1_s fr1 b1)
  · have hn0 : 0 ≤ nmo (tk a_s) := by
      rw [← nme, ← hv6]
      omega
    have hd_s : ¬ (48 ≤ tk a_s ∧ tk a_s ≤ 57) := fun w_s => by
      have hb_s : nmo (tk a_s) = -1 := by
        unfold nmo
        rw [if_neg (by omega), if_neg (by omega), if_neg (by omega), if_neg (by omega), if_neg (by omega), if_neg (by omega)]
      omega
    have hlt := prR_lt hp (fun w_s => by
      rw [w_s] at hn0
      exact absurd hn0 (by decide))
    obtain ⟨fr1, q1_s⟩ := prR_up hp hlt
    have zz := azix (i := v6) (by omega)
    have ez : zix v6 = (nmo (tk a_s)).toNat := by
      have : v6.toInt = nmo (tk a_s) := by rw [hv6, nme]
      omega
    refine t_s _ _ fr1 ⟨_, pP_nam hd_s hn0, q1_s.1, q1_s.2.1, q1_s.2.2.1, q1_s.2.2.2.2.2.1, ?_⟩
    show f_s 111 (zix v6) = nm (nmo (tk a_s)).toNat
    rw [ez]
    exact hp11 _
theorem rpar : ∀ F_s, (R69 F_s ∧ R70 F_s ∧ R71 F_s) ∧ (R72 F_s ∧ R73 F_s ∧ R75 F_s) ∧ (RL1 169 6 F_s ∧ RL1 170 7 F_s) ∧ RL3 F_s ∧ RL4 F_s
  | 0 => by
    refine ⟨⟨?_, ?_, ?_⟩, ⟨?_, ?_, ?_⟩, ⟨?_, ?_⟩, ?_, ?_⟩ <;> (intro _ _ _ _ _ _ _; intros; exact wF_zero)
  | F_s + 1 => by
    obtain ⟨⟨i1_s, i2_s, i3_s⟩, ⟨i4_s, i5_s, i6_s⟩, ⟨i7_s, i8_s⟩, i9_s, i10_s⟩ := rpar F_s
    exact ⟨⟨r69_s i2_s i7_s, r70_s i3_s i8_s, r71_s i4_s⟩, ⟨r72_s i5_s i9_s, r73_s i6_s i10_s, r75_s i1_s i6_s⟩, ⟨l69_s i2_s i7_s, l70_s i3_s i8_s⟩, l72_s i5_s i9_s, l73_s i6_s i10_s⟩
