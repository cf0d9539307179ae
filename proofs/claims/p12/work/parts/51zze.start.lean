theorem hstart (hl_s : aOK kS krf kB kEl) (hf_s : ∀ h_s, hIw h_s → tAl h_s → ∀ F_s, wF F_s 241 (18, [some (.ref 0), some (.ref 6), some (.ref 102), some (.int 0)], [], h_s) (gI (fun v_s _ => v_s = 1))) {E_s : Nat → Int32} {L_s : Nat} (hL_s : L_s ≤ 3072) : zT 60 241 (0, [some (.ref 0), none, none, none], [], sH E_s L_s [] sh0) (fun r_s h1_s => r_s = some (.int 1) ∧ h1_s.1.length = 128 ∧ zslots h1_s.1 ≤ 110000) := by
  obtain ⟨y_s, hz_s, h_s⟩ := hinit2
  unfold hck at h_s
  rw [Bool.and_eq_true, Bool.and_eq_true, Bool.and_eq_true, Bool.and_eq_true, Bool.and_eq_true, Bool.and_eq_true] at h_s
  obtain ⟨⟨c1_s, c2_s⟩, c3_s, c4_s, c5_s, c6_s, c7_s⟩ := h_s
  have hsd_s : sHd hx0.2.2.2 := ⟨_, rfl⟩
  have hs_s := zr_sub (E := E_s) (L := L_s) _ _ _ _ _ _ hz_s hsd_s
  have hzz_s : hZ y_s.2.2.2 := hZ_run _ _ _ _ _ _ hz_s hZ_sh0
  obtain ⟨qq_s, hext_s⟩ := zr_ext _ _ _ _ _ _ hz_s
  have hsy_s : sHd y_s.2.2.2 := sHd_app hsd_s hext_s
  obtain ⟨pc_s, lo_s, st_s, hp_s⟩ := y_s
  dsimp only at hzz_s hsy_s c2_s c3_s c4_s c5_s c6_s c7_s
  unfold hck1 at c1_s
  rw [Bool.and_eq_true] at c1_s
  obtain ⟨epc0_s, c1b_s⟩ := c1_s
  have epc_s : pc_s = 18 := Nat.eq_of_beq_eq_true epc0_s
  clear epc0_s
  dsimp only at c1b_s
  subst epc_s
  split at c1b_s
  · rename_i a_s b_s c_s i_s
    rw [Bool.and_eq_true, Bool.and_eq_true, Bool.and_eq_true, decide_eq_true_eq] at c1b_s
    obtain ⟨⟨e1_s, e2_s⟩, e3_s, e4_s⟩ := c1b_s
    obtain rfl := Nat.eq_of_beq_eq_true e1_s
    obtain rfl := Nat.eq_of_beq_eq_true e2_s
    obtain rfl := Nat.eq_of_beq_eq_true e3_s
    subst e4_s
    have hb_s := hbd_of hzz_s c2_s c4_s
    refine zT_part 3000 60 241 18 _ _ hs_s ?_
    have c2__s := c2_s
    unfold hck2 at c2__s
    rw [Bool.and_eq_true, Bool.and_eq_true, Nat.ble_eq] at c2__s
    have hlen_s := Nat.eq_of_beq_eq_true c2__s.1.1
    show zT 60 241 (18, [some (.ref 0), some (.ref 6), some (.ref 102), some (.int 0)], [], sH E_s L_s [] hp_s) _
    have hsov_s : ∀ o_s k_s, o_s ≠ 0 → sov E_s [] hp_s.2.1 o_s k_s = hp_s.2.1 o_s k_s := fun o_s k_s ho_s => by rw [sov_nil ho_s]
    have R_s : aRel kS krf (aiv kB) [(L_s : Int)] kEl.2.2.1 (18, [some (.ref 0), some (.ref 6), some (.ref 102), some (.int 0)], [], sH E_s L_s [] hp_s) := by
      refine ⟨⟨rfl, fun k_s w_s q_s h1_s h2_s => ?_⟩, rfl, ⟨rfl, fun i_s a_s ha_s => ?_⟩, trivial, ⟨fun o_s t_s m_s hs_s hn_s => ?_, fun o_s k_s hn_s => ?_, fun o_s k_s => ?_⟩, fun o_s k_s a_s ha_s => ?_⟩
      · match k_s, h1_s, h2_s with
        | 0, h1_s, h2_s =>
          cases h1_s
          cases h2_s
          simp only [Int.ofNat_eq_natCast]
          omega
      · match i_s, ha_s with
        | 0, ha_s => cases ha_s; exact ⟨_, rfl, 0, rfl, List.mem_singleton.mpr rfl⟩
        | 1, ha_s => cases ha_s; exact ⟨_, rfl, 6, rfl, List.mem_singleton.mpr rfl⟩
        | 2, ha_s => cases ha_s; exact ⟨_, rfl, 102, rfl, List.mem_singleton.mpr rfl⟩
        | 3, ha_s => cases ha_s; exact ⟨_, rfl, 0, rfl, rfl⟩
        | n_s + 4, ha_s => cases ha_s
      · by_cases ho_s : o_s < 128
        · have c_s := List.all_eq_true.mp c2__s.2 o_s (List.mem_range.mpr ho_s)
          rw [hs_s] at c_s
          split at c_s
          · rename_i p_s q_s hg_s hq_s
            cases hq_s
            rw [Bool.and_eq_true] at c_s
            have e1_s := Nat.eq_of_beq_eq_true c_s.1
            have e2_s := Nat.eq_of_beq_eq_true c_s.2
            dsimp only at e1_s e2_s
            obtain ⟨p1_s, p2_s⟩ := p_s
            dsimp only at e1_s e2_s
            subst e1_s
            subst e2_s
            exact (ssh_get hsy_s hg_s (fun q_s => by rw [q_s] at hn_s; cases hn_s)).1
          · cases c_s
        · rw [kS_out (by omega)] at hs_s
          cases hs_s
      · by_cases ho_s : o_s < 128
        · have c_s := List.all_eq_true.mp (List.all_eq_true.mp c3_s o_s (List.mem_range.mpr ho_s)) _ (kas_mem hn_s)
          dsimp only at c_s
          split at c_s
          · rename_i q_s hq_s
            exact ⟨q_s, hq_s, List.elem_iff.mp c_s⟩
          · cases c_s
        · exfalso
          apply hn_s
          unfold krf
          rw [krT_out (by omega)]
          rfl
      · by_cases ho_s : o_s = 0
        · subst ho_s
          exact na_rng _
        · show (aiv kB o_s k_s).1 ≤ (sov E_s [] hp_s.2.1 o_s k_s).toInt ∧ (sov E_s [] hp_s.2.1 o_s k_s).toInt ≤ (aiv kB o_s k_s).2
          rw [hsov_s o_s k_s ho_s]
          exact hb_s o_s k_s
      · have c_s := List.all_eq_true.mp c6_s _ (afind_mem ha_s)
        rw [Bool.and_eq_true] at c_s
        dsimp only at c_s
        have ho_s : o_s ≠ 0 := fun e_s => by
          subst e_s
          cases c_s.1
        match a_s, c_s with
        | .inr n_s, c_s =>
          show (sov E_s [] hp_s.2.1 o_s k_s).toInt = n_s
          rw [hsov_s o_s k_s ho_s]
          exact of_decide_eq_true c_s.2
        | .inl _, c_s => cases c_s.2
    have hJ_s : aJ (sH E_s L_s [] hp_s) := by
      unfold hck5 at c5_s
      rw [Bool.and_eq_true, ile_eq] at c5_s
      refine ⟨?_, fun k_s hk_s a_s b_s => ?_⟩
      · show (sov E_s [] hp_s.2.1 102 5).toInt ≤ (sov E_s [] hp_s.2.1 102 4).toInt
        rw [hsov_s 102 5 (by omega), hsov_s 102 4 (by omega)]
        exact c5_s.1
      · have c_s := List.all_eq_true.mp c5_s.2 k_s (List.mem_range.mpr hk_s)
        rw [ile_eq] at c_s
        have a_s : 60 ≤ (sov E_s [] hp_s.2.1 104 k_s).toInt := a_s
        rw [hsov_s 104 k_s (by omega)] at a_s
        omega
    have hz9_s := zT_deep (d' := 60) (hl_s [(L_s : Int)] _ R_s (fun f_s hf_s => by cases hf_s) (fun k_s hk_s => by
      cases hk_s
      exact ⟨L_s, rfl, rfl, hL_s⟩) hJ_s) (by decide)
    obtain ⟨f9_s, r_s, h1_s, hr9_s, hq_s⟩ := hz9_s
    refine ⟨f9_s, r_s, h1_s, hr9_s, ?_⟩
    · obtain ⟨q_s, p1_s, p2_s, p3_s, p4_s, p5_s, p6_s, p7_s⟩ := hq_s
      have eS_s : h1_s.1 = ssh L_s hp_s.1 := p6_s.2.2
      refine ⟨?_, ?_, ?_⟩
      · obtain ⟨v_s, e9_s, _, e8_s⟩ := wF_all (hf_s _ ⟨R_s.2.2.2.2.1, hJ_s⟩ (tAl_start c7_s)) hr9_s
        rw [e9_s, e8_s]
      · rw [eS_s, ssh_len hsy_s]
        exact hlen_s
      · rw [eS_s]
        obtain ⟨tl_s, ht_s⟩ := hsy_s
        have b_s := c2__s.1.2
        rw [ht_s] at b_s ⊢
        unfold ssh
        simp only [List.drop_succ_cons, List.drop_zero, zslots] at b_s ⊢
        omega
  · cases c1b_s
