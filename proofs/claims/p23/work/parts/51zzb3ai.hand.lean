/-! THE CLASS WORKS A LAW OUT: every piece that is read, line by line. -/
def bM (m_s op_s : Nat) : Nat := (if m_s < 6 then 5 - m_s else 11 - m_s) + 5 * (6 - op_s) + 1
theorem bM_lo {m_s op_s : Nat} (hm_s : m_s < 6) : bM m_s op_s = 5 - m_s + 5 * (6 - op_s) + 1 := by
  unfold bM
  rw [if_pos hm_s]
theorem bM_hi {m_s op_s : Nat} (hm_s : ¬ m_s < 6) : bM m_s op_s = 11 - m_s + 5 * (6 - op_s) + 1 := by
  unfold bM
  rw [if_neg hm_s]
theorem nmo_lt (c_s : Int) : nmo c_s < 6 := by
  unfold nmo
  repeat' split
  all_goals omega
theorem ofi6 {x_s : Int} (h0 : 0 ≤ x_s) (h1 : x_s < 6) : (Int32.ofInt x_s).toInt = (x_s.toNat : Int) := by
  have hx : x_s = 0 ∨ x_s = 1 ∨ x_s = 2 ∨ x_s = 3 ∨ x_s = 4 ∨ x_s = 5 := by omega
  rcases hx with e_s | e_s | e_s | e_s | e_s | e_s <;> (subst e_s; rfl)
theorem pz_EX (tk : Nat → Int) : ∀ (f_s m_s op_s a_s : Nat) (z_s : pA) (p_s : Nat × pA), m_s < 11 → op_s ≤ 6 → (6 ≤ m_s → EX z_s (bM m_s op_s)) → pz tk f_s m_s op_s a_s z_s = some (.inr p_s) → EX p_s.2 (bM m_s op_s)
  | 0, _, _, _, _, _, _, _, _, h_s => by cases h_s
  | f_s + 1, m_s, op_s, a_s, z_s, p_s, hm_s, ho, hz, h_s => by
    have ih_s := pz_EX tk f_s
    rw [pz] at h_s
    split at h_s
    · rename_i c_s
      split at h_s
      · rename_i p1_s hp
        have e_s := ih_s (m_s + 1) op_s a_s pz0 p1_s (by omega) ho (fun w_s => absurd w_s (by omega)) hp
        rw [bM_lo (by omega)] at e_s
        have e2_s := ih_s (m_s + 6) op_s p1_s.1 p1_s.2 p_s (by omega) ho (fun _ => EX_le e_s (by rw [bM_hi (by omega)]; omega)) h_s
        rw [bM_hi (by omega)] at e2_s
        exact EX_le e2_s (by rw [bM_lo (by omega)]; omega)
      · rename_i q_s hp
        exact (hp p_s h_s).elim
    · rename_i c_s
      split at h_s
      · rename_i c1_s
        split at h_s
        · cases h_s
          exact EX_le EX_num (by rw [bM_lo (by omega)]; omega)
        · split at h_s
          · rename_i c2_s c3_s
            cases h_s
            have l6 := nmo_lt (tk a_s)
            exact EX_le (EX_nam (k_s := (nmo (tk a_s)).toNat) (by omega) (ofi6 c3_s l6)) (by rw [bM_lo (by omega)]; omega)
          · split at h_s
            · cases h_s
            · rename_i c4_s
              split at h_s
              · split at h_s
                · rename_i p1_s hp
                  split at h_s
                  · cases h_s
                    have e_s := ih_s 0 (op_s + 1) (a_s + 1) pz0 p1_s (by omega) (by omega) (fun w_s => absurd w_s (by omega)) hp
                    rw [bM_lo (by omega)] at e_s
                    exact EX_le e_s (by rw [bM_lo (by omega)]; omega)
                  · cases h_s
                · rename_i q_s hp
                  exact (hp p_s h_s).elim
              · split at h_s
                · rename_i p1_s hp
                  cases h_s
                  have e_s := ih_s 5 (op_s + 1) (a_s + 1) pz0 p1_s (by omega) (by omega) (fun w_s => absurd w_s (by omega)) hp
                  rw [bM_lo (by omega)] at e_s
                  exact EX_le (EX_un e_s) (by rw [bM_lo (by omega)]; omega)
                · rename_i q_s hp
                  exact (hp p_s h_s).elim
      · rename_i c1_s
        split at h_s
        · rename_i c2_s
          split at h_s
          · rename_i p1_s hp
            have e_s := ih_s (m_s - 5) op_s (a_s + 1) pz0 p1_s (by omega) ho (fun w_s => absurd w_s (by omega)) hp
            rw [bM_lo (by omega)] at e_s
            have ej := EX_jn (s0_s := tk a_s) (hz (by omega)) e_s (by rw [bM_hi (by omega)]; omega) (by omega)
            split at h_s
            · cases h_s
              exact ej
            · exact ih_s m_s op_s p1_s.1 (pjn z_s (tk a_s) p1_s.2) p_s hm_s ho (fun _ => ej) h_s
          · rename_i q_s hp
            exact (hp p_s h_s).elim
        · cases h_s
          exact hz (by omega)
theorem pP_EX {tk : Nat → Int} {a_s : Nat} {p_s : Nat × pA} (h_s : pP tk 0 0 a_s pz0 (.inr p_s)) : EX p_s.2 36 := by
  obtain ⟨f_s, h_s⟩ := h_s
  exact pz_EX tk f_s 0 0 a_s pz0 p_s (by omega) (by omega) (fun w_s => absurd w_s (by omega)) h_s
def lOK (l : pB) : Prop := (∀ y_s, l.1 = some y_s → EX y_s 36) ∧ EX l.2 36
theorem pln_OK {tk : Nat → Int} {a_s : Nat} {p_s : Nat × pB} (h_s : pln tk a_s (.inr p_s)) : lOK p_s.2 := by
  rcases h_s with ⟨e_s, _, h_s⟩ | ⟨p1_s, h1, ⟨_, h_s⟩ | ⟨_, ⟨e_s, _, h_s⟩ | ⟨p2_s, h2, h_s⟩⟩⟩
  · cases h_s
  · cases h_s
    exact ⟨fun y_s hy => (by cases hy), pP_EX h1⟩
  · cases h_s
  · cases h_s
    refine ⟨fun y_s hy => ?_, pP_EX h2⟩
    cases hy
    exact pP_EX h1
theorem ptx_OK {tk : Nat → Int} {n_s : Nat} : ∀ {k_s a_s : Nat} {l ls : List pB}, ptx tk n_s k_s a_s l (.inr ls) → (∀ p_s, p_s ∈ l → lOK p_s) → ∀ p_s, p_s ∈ ls → lOK p_s
  | 0, _, _, _, h_s, _ => h_s.elim
  | k_s + 1, a_s, l, ls, h_s, hl => by
    rcases h_s with ⟨e_s, _, h_s⟩ | ⟨p_s, x1_s, x2_s⟩
    · cases h_s
    · have hp := pln_OK x1_s
      have hl2 : ∀ p1_s, p1_s ∈ l ++ [p_s.2] → lOK p1_s := by
        intro p1_s h1
        rcases List.mem_append.mp h1 with h2 | h2
        · exact hl p1_s h2
        · rw [List.mem_singleton.mp h2]
          exact hp
      rcases x2_s with ⟨_, x4_s⟩ | ⟨_, ⟨_, x4_s⟩ | ⟨_, x4_s⟩⟩
      · cases x4_s
        exact hl2
      · cases x4_s
      · exact ptx_OK (k_s := k_s) x4_s hl2
theorem ptx_ne {tk : Nat → Int} {n_s : Nat} : ∀ {k_s a_s : Nat} {l ls : List pB}, ptx tk n_s k_s a_s l (.inr ls) → ls ≠ []
  | 0, _, _, _, h_s => h_s.elim
  | k_s + 1, a_s, l, ls, h_s => by
    rcases h_s with ⟨e_s, _, h_s⟩ | ⟨p_s, x1_s, ⟨_, x4_s⟩ | ⟨_, ⟨_, x4_s⟩ | ⟨_, x4_s⟩⟩⟩
    · cases h_s
    · cases x4_s
      intro w_s
      have w1_s := congrArg List.length w_s
      rw [List.length_append] at w1_s
      exact absurd w1_s (Nat.succ_ne_zero _)
    · cases x4_s
    · exact ptx_ne (k_s := k_s) x4_s
/-- from a line's begin on, with nothing waiting -/
theorem WL {h_s : zH} {K_s : Int32 → zH → Prop} {q_s L_s : Nat} {nm : Nat → Int32} {f0_s : Nat → Nat → Int32} (hm_s : q_s = 14 ∨ q_s = 17) (hk : hKn h_s) (hb_s : L_s ≤ 241) (hL : (f0_s q_s 2).toInt = (L_s : Int)) (hn : ∀ k_s, f0_s 13 k_s = nm k_s) : ∀ (ls : List pB) (F_s len_s s_s : Nat) (x2_s x3 x4_s : Int32) (l5 l6 l7 : Option Value) (f_s : Nat → Nat → Int32), (∀ p_s, p_s ∈ ls → lOK p_s) → (∀ o k_s, ¬ o = q_s + 2 → f_s o k_s = f0_s o k_s) → x2_s.toInt = ((0 : Nat) : Int) → x3.toInt = (len_s : Int) → x4_s.toInt = (s_s : Int) → s_s ≤ len_s → len_s + (cTx len_s ls).length = L_s → (∀ j_s c_s, zget (cTx len_s ls) j_s = some c_s → f0_s (q_s + 1) (len_s + j_s) = c_s) → (∀ f1_s, (∀ o k_s, ¬ o = q_s + 2 → f1_s o k_s = f0_s o k_s) → K_s ((gvL nm ls).getD 0) (h_s.1, f1_s, h_s.2.2.1, h_s.2.2.2)) → wF F_s 58 (32, [some (.ref q_s), some (.ref 13), some (.int x2_s), some (.int x3), some (.int x4_s), l5, l6, l7], [], (h_s.1, f_s, h_s.2.2.1, h_s.2.2.2)) (gI K_s)
  | [], F_s, len_s, s_s, x2_s, x3, x4_s, l5, l6, l7, f_s, _, hf, _, h3, _, _, hl, _, t_s => by
    have hl : len_s + 0 = L_s := hl
    have hL1 : (f_s q_s 2).toInt = (L_s : Int) := by
      rw [hf q_s 2 (by omega)]
      exact hL
    exact wF_le (Nat.le_succ F_s) (sg_58_32 (h_s := (h_s.1, f_s, h_s.2.2.1, h_s.2.2.2)) hm_s hk ⟨fun _ => ⟨fun (c2_s : x3.toInt < (f_s q_s 2).toInt) => absurd c2_s (by omega), fun _ => t_s f_s hf⟩, fun _ => t_s f_s hf⟩)
  | (none, y_s) :: r_s, F_s, len_s, s_s, x2_s, x3, x4_s, l5, l6, l7, f_s, hok, hf, h2, h3, h4, hs, hl, hc_s, t_s => by
    have ey : EX y_s 36 := (hok _ List.mem_cons_self).2
    have hL1 : (f_s q_s 2).toInt = (L_s : Int) := by
      rw [hf q_s 2 (by omega)]
      exact hL
    have hl2 : len_s + ((y_s.1 ++ [(59 : Int32)]) ++ cTx (len_s + (cLn len_s (none, y_s)).length) r_s).length = L_s := hl
    rw [List.length_append, List.length_append] at hl2
    have hl2 : len_s + ((y_s.1.length + 1) + (cTx (len_s + (cLn len_s (none, y_s)).length) r_s).length) = L_s := hl2
    have hlt : len_s + y_s.1.length < L_s := by omega
    have hcy : ∀ j_s c_s, zget y_s.1 j_s = some c_s → f_s (q_s + 1) (len_s + j_s) = c_s := fun j_s c_s hj => by
      rw [hf _ _ (by omega)]
      exact hc_s j_s c_s (zget_app (zget_app hj))
    have h59 : f0_s (q_s + 1) (len_s + y_s.1.length) = 59 := hc_s y_s.1.length 59 (zget_app (zget_end _ _))
    refine ey F_s h_s K_s q_s 0 len_s s_s L_s x2_s x3 x4_s l5 l6 l7 f_s hm_s hk h2 h3 h4 hs hL1 hb_s hlt (by omega) hcy (fun y2 y3 y4 s1_s m5_s m6_s m7_s f1_s g2 g3_s g4 gs gf gv => ?_)
    have hf1 : ∀ o k_s, ¬ o = q_s + 2 → f1_s o k_s = f0_s o k_s := fun o k_s ho => by
      rw [gf o k_s (fun u_s => ho u_s.1)]
      exact hf o k_s ho
    have hL2 : (f1_s q_s 2).toInt = (L_s : Int) := by
      rw [hf1 q_s 2 (by omega)]
      exact hL
    have hn1 : (fun k_s => f_s 13 k_s) = nm := by
      funext k_s
      rw [hf 13 k_s (by omega)]
      exact hn k_s
    rw [hn1] at gv
    refine at58e hm_s hk g3_s g4 gs hL2 hb_s hlt (fun x6 _ => ?_)
    rw [hf1 _ _ (by omega), h59]
    refine en83 hm_s hk g2 ?_
    rw [gv]
    exact t_s f1_s hf1
  | (some y1, y_s) :: r_s, F_s, len_s, s_s, x2_s, x3, x4_s, l5, l6, l7, f_s, hok, hf, h2, h3, h4, hs, hl, hc_s, t_s => by
    have ey : EX y_s 36 := (hok _ List.mem_cons_self).2
    have ey1 : EX y1 36 := (hok _ List.mem_cons_self).1 y1 rfl
    have hL1 : (f_s q_s 2).toInt = (L_s : Int) := by
      rw [hf q_s 2 (by omega)]
      exact hL
    have el : (cLn len_s (some y1, y_s)).length = y1.1.length + (2 + (y_s.1.length + 1)) := by
      show (y1.1 ++ ([(63 : Int32), Int32.ofNat (len_s + (y1.1.length + (y_s.1.length + 3)))] ++ (y_s.1 ++ [59]))).length = _
      rw [List.length_append, List.length_append, List.length_append]
      rfl
    have hl2 : len_s + (cLn len_s (some y1, y_s) ++ cTx (len_s + (cLn len_s (some y1, y_s)).length) r_s).length = L_s := hl
    rw [List.length_append] at hl2
    have hc1 : ∀ j_s c_s, zget (y1.1 ++ ([(63 : Int32), Int32.ofNat (len_s + (y1.1.length + (y_s.1.length + 3)))] ++ (y_s.1 ++ [59]))) j_s = some c_s → f0_s (q_s + 1) (len_s + j_s) = c_s := fun j_s c_s hj => hc_s j_s c_s (zget_app hj)
    have hr : ∀ j_s c_s, zget (cTx (len_s + (cLn len_s (some y1, y_s)).length) r_s) j_s = some c_s → f0_s (q_s + 1) (len_s + (cLn len_s (some y1, y_s)).length + j_s) = c_s := fun j_s c_s hj => by
      rw [Nat.add_assoc]
      exact hc_s _ c_s (zget_sh hj)
    generalize hT_s : len_s + (y1.1.length + (y_s.1.length + 3)) = tg at hc1
    have eT : len_s + (cLn len_s (some y1, y_s)).length = tg := by omega
    rw [eT] at hr hl2
    have hl3 : tg + (cTx tg r_s).length = L_s := by
      rw [← hl2, ← Nat.add_assoc, eT]
    have hc0 : ∀ j_s c_s, zget y1.1 j_s = some c_s → f_s (q_s + 1) (len_s + j_s) = c_s := fun j_s c_s hj => by
      rw [hf _ _ (by omega)]
      exact hc1 j_s c_s (zget_app hj)
    have h63 : f0_s (q_s + 1) (len_s + y1.1.length) = 63 := hc1 (y1.1.length + 0) 63 (zget_sh rfl)
    have htg : f0_s (q_s + 1) (len_s + y1.1.length + 1) = Int32.ofNat tg := by
      have u_s := hc1 (y1.1.length + 1) _ (zget_sh (j_s := 1) rfl)
      rw [← Nat.add_assoc] at u_s
      exact u_s
    have hcy : ∀ j_s c_s, zget y_s.1 j_s = some c_s → f0_s (q_s + 1) (len_s + y1.1.length + 2 + j_s) = c_s := fun j_s c_s hj => by
      have u_s := hc1 (y1.1.length + (2 + j_s)) c_s (zget_sh (zget_sh (l1 := [(63 : Int32), Int32.ofNat tg]) (zget_app hj)))
      rw [← Nat.add_assoc, ← Nat.add_assoc] at u_s
      exact u_s
    have h59 : f0_s (q_s + 1) (len_s + y1.1.length + 2 + y_s.1.length) = 59 := by
      have u_s := hc1 (y1.1.length + (2 + y_s.1.length)) 59 (zget_sh (zget_sh (l1 := [(63 : Int32), Int32.ofNat tg]) (zget_end _ _)))
      rw [← Nat.add_assoc, ← Nat.add_assoc] at u_s
      exact u_s
    have etg : (Int32.ofNat tg).toInt = (tg : Int) := na_ofn (by omega)
    clear hl hc_s hc1 hl2
    refine ey1 F_s h_s K_s q_s 0 len_s s_s L_s x2_s x3 x4_s l5 l6 l7 f_s hm_s hk h2 h3 h4 hs hL1 hb_s (by omega) (by omega) hc0 (fun y2 y3 y4 s1_s m5_s m6_s m7_s f1_s g2 g3_s g4 gs gf gv => ?_)
    have hf1 : ∀ o k_s, ¬ o = q_s + 2 → f1_s o k_s = f0_s o k_s := fun o k_s ho => by
      rw [gf o k_s (fun u_s => ho u_s.1)]
      exact hf o k_s ho
    have hL2 : (f1_s q_s 2).toInt = (L_s : Int) := by
      rw [hf1 q_s 2 (by omega)]
      exact hL
    have hn1 : (fun k_s => f_s 13 k_s) = nm := by
      funext k_s
      rw [hf 13 k_s (by omega)]
      exact hn k_s
    have hn2 : (fun k_s => f1_s 13 k_s) = nm := by
      funext k_s
      rw [hf1 13 k_s (by omega)]
      exact hn k_s
    rw [hn1] at gv
    have d1_s := (dec1_ (x2_s := y2) (w_s := 0) g2).2
    have e3_s : (y3 + 1).toInt = ((len_s + y1.1.length + 1 : Nat) : Int) := by
      rw [in1_ (by omega)]
      omega
    have e4_s : (y4 + 1).toInt = ((s1_s + 1 : Nat) : Int) := by
      rw [in1_ (by omega)]
      omega
    refine at58 hm_s hk g3_s g4 gs hL2 hb_s (by omega) ?_
    rw [hf1 _ _ (by omega), hf1 _ _ (by omega), h63, htg]
    refine qu83 hm_s hk g2 (fun v0_s => ?_) (fun v0_s => ?_)
    · rw [gv] at v0_s
      rw [if_pos ((il_ _ _).mpr (by omega))]
      refine WL hm_s hk hb_s hL hn r_s F_s tg (s1_s + 1) _ _ _ _ _ _ f1_s (fun p_s hp => hok p_s (List.mem_cons_of_mem _ hp)) hf1 d1_s etg e4_s (by omega) hl3 hr (fun f2_s hf2 => ?_)
      have u_s := t_s f2_s hf2
      have eg : gvL nm ((some y1, y_s) :: r_s) = gvL nm r_s := by
        show (if y1.2.1 nm = 0 then gvL nm r_s else some (y_s.2.1 nm)) = gvL nm r_s
        rw [if_pos v0_s]
      rw [eg] at u_s
      exact u_s
    · rw [gv] at v0_s
      have e5_s : (y3 + 1 + 1).toInt = ((len_s + y1.1.length + 2 : Nat) : Int) := by
        rw [in1_ (by omega), e3_s]
        omega
      refine ey F_s h_s K_s q_s 0 (len_s + y1.1.length + 2) (s1_s + 1) L_s _ _ _ _ _ _ f1_s hm_s hk d1_s e5_s e4_s (by omega) hL2 hb_s (by omega) (by omega) (fun j_s c_s hj => by rw [hf1 _ _ (by omega)]; exact hcy j_s c_s hj) (fun z2 z3 z4 s2_s n5_s n6_s n7 f2_s k2_s k3_s k4_s ks_s kf kv => ?_)
      rw [hn2] at kv
      have hf2 : ∀ o k_s, ¬ o = q_s + 2 → f2_s o k_s = f0_s o k_s := fun o k_s ho => by
        rw [kf o k_s (fun u_s => ho u_s.1)]
        exact hf1 o k_s ho
      have hL3 : (f2_s q_s 2).toInt = (L_s : Int) := by
        rw [hf2 q_s 2 (by omega)]
        exact hL
      refine at58e hm_s hk k3_s k4_s ks_s hL3 hb_s (by omega) (fun x6 _ => ?_)
      rw [hf2 _ _ (by omega), h59]
      refine en83 hm_s hk k2_s ?_
      rw [kv]
      have u_s := t_s f2_s hf2
      have eg : gvL nm ((some y1, y_s) :: r_s) = some (y_s.2.1 nm) := by
        show (if y1.2.1 nm = 0 then gvL nm r_s else some (y_s.2.1 nm)) = some (y_s.2.1 nm)
        rw [if_neg v0_s]
      rw [eg] at u_s
      exact u_s
/-- THE LAW of the class: its code; none: as told without one -/
def lawC (q_s : Nat) (f_s : Nat → Nat → Int32) : Option (List pB) → Prop
  | none => (f_s q_s 2).toInt = 0 ∧ f_s q_s 0 = 0
  | some ls => (f_s q_s 2).toInt = ((cTx 0 ls).length : Int) ∧ (cTx 0 ls).length ≤ 241 ∧ (∀ j_s c_s, zget (cTx 0 ls) j_s = some c_s → f_s (q_s + 1) j_s = c_s) ∧ f_s q_s 0 = (if mTx ls then 1 else 0) ∧ (∀ p_s, p_s ∈ ls → lOK p_s) ∧ ls ≠ []
def lawV (lw : Option (List pB)) (n_s : Nat → Int32) : Int32 := match lw with
  | none => 1 + n_s 5 + n_s 3 / 3 - n_s 0 / 2
  | some ls => (gvL n_s ls).getD 0
theorem cTx_pos {len_s : Nat} : ∀ {ls : List pB}, ls ≠ [] → 0 < (cTx len_s ls).length
  | [], h_s => absurd rfl h_s
  | (none, y_s) :: r_s, _ => by
    show 0 < ((y_s.1 ++ [(59 : Int32)]) ++ _).length
    rw [List.length_append, List.length_append]
    show 0 < y_s.1.length + 1 + _
    omega
  | (some y1, y_s) :: r_s, _ => by
    show 0 < ((y1.1 ++ ([(63 : Int32), Int32.ofNat (len_s + (y1.1.length + (y_s.1.length + 3)))] ++ (y_s.1 ++ [59]))) ++ _).length
    rw [List.length_append, List.length_append, List.length_append]
    show 0 < y1.1.length + (2 + _) + _
    omega
theorem sp_58 {F_s : Nat} {h_s : zH} {K_s : Int32 → zH → Prop} {q_s : Nat} {lw : Option (List pB)} {f_s : Nat → Nat → Int32} (hm_s : q_s = 14 ∨ q_s = 17) (hk : hKn h_s) (hl : lawC q_s f_s lw) (t_s : ∀ f1_s, (∀ o k_s, ¬ o = q_s + 2 → f1_s o k_s = f_s o k_s) → K_s (lawV lw (fun k_s => f_s 13 k_s)) (h_s.1, f1_s, h_s.2.2.1, h_s.2.2.2)) : wF F_s 58 (0, [some (.ref q_s), some (.ref 13), none, none, none, none, none, none], [], (h_s.1, f_s, h_s.2.2.1, h_s.2.2.2)) (gI K_s) := by
  match lw, hl, t_s with
  | none, hl, t_s => exact wF_le (Nat.le_succ F_s) (sg_58_0 (h_s := (h_s.1, f_s, h_s.2.2.1, h_s.2.2.2)) hm_s hk ⟨fun _ => t_s f_s (fun _ _ _ => rfl), fun c_s => absurd hl.1 c_s⟩)
  | some ls, hl, t_s =>
    obtain ⟨a1_s, a2, a3, a4, a5, a6⟩ := hl
    have a7 := cTx_pos (len_s := 0) a6
    refine wF_le (Nat.le_succ F_s) (sg_58_0 (h_s := (h_s.1, f_s, h_s.2.2.1, h_s.2.2.2)) hm_s hk ⟨fun (c_s : (f_s q_s 2).toInt = 0) => absurd c_s (by omega), fun _ => ?_⟩)
    exact WL (L_s := (cTx 0 ls).length) (nm := fun k_s => f_s 13 k_s) (f0_s := f_s) hm_s hk a2 a1_s (fun _ => rfl) ls F_s 0 0 0 0 0 none none none f_s a5 (fun _ _ _ => rfl) rfl rfl rfl (Nat.le_refl 0) (Nat.zero_add _) (fun j_s c_s hj => by rw [Nat.zero_add]; exact a3 j_s c_s hj) (fun f1_s hf1 => t_s f1_s hf1)
/-! what doesn't mind WORN gives the same whatever it is; names behind the sixth are none -/
def eqN (b_s : Prop) (n_s n1_s : Nat → Int32) : Prop := ∀ k_s, k_s < 6 → (k_s = 1 → b_s) → n_s k_s = n1_s k_s
theorem orF {b_s : Prop} {c_s d_s : Bool} (h_s : b_s ∨ (c_s || d_s) = false) : (b_s ∨ c_s = false) ∧ (b_s ∨ d_s = false) := by
  rcases h_s with h_s | h_s
  · exact ⟨Or.inl h_s, Or.inl h_s⟩
  · rw [Bool.or_eq_false_iff] at h_s
    exact ⟨Or.inr h_s.1, Or.inr h_s.2⟩
theorem pz_mw (tk : Nat → Int) {b_s : Prop} {n_s n1_s : Nat → Int32} (hn : eqN b_s n_s n1_s) : ∀ (f_s m_s op_s a_s : Nat) (z_s : pA) (p_s : Nat × pA), (b_s ∨ z_s.2.2 = false → z_s.2.1 n_s = z_s.2.1 n1_s) → pz tk f_s m_s op_s a_s z_s = some (.inr p_s) → (b_s ∨ p_s.2.2.2 = false) → p_s.2.2.1 n_s = p_s.2.2.1 n1_s
  | 0, _, _, _, _, _, _, h_s => by cases h_s
  | f_s + 1, m_s, op_s, a_s, z_s, p_s, hz, h_s => by
    have ih_s := pz_mw tk hn f_s
    rw [pz] at h_s
    split at h_s
    · split at h_s
      · rename_i p1_s hp
        exact ih_s (m_s + 6) op_s p1_s.1 p1_s.2 p_s (ih_s (m_s + 1) op_s a_s pz0 p1_s (fun _ => rfl) hp) h_s
      · rename_i q_s hp
        exact (hp p_s h_s).elim
    · split at h_s
      · split at h_s
        · cases h_s
          exact fun _ => rfl
        · split at h_s
          · cases h_s
            intro w_s
            have l6 := nmo_lt (tk a_s)
            refine hn _ (by omega) (fun e_s => ?_)
            rcases w_s with w_s | w_s
            · exact w_s
            · exact absurd (show nmo (tk a_s) = 1 by omega) (of_decide_eq_false w_s)
          · split at h_s
            · cases h_s
            · split at h_s
              · split at h_s
                · rename_i p1_s hp
                  split at h_s
                  · cases h_s
                    exact ih_s 0 (op_s + 1) (a_s + 1) pz0 p1_s (fun _ => rfl) hp
                  · cases h_s
                · rename_i q_s hp
                  exact (hp p_s h_s).elim
              · split at h_s
                · rename_i p1_s hp
                  cases h_s
                  have e_s := ih_s 5 (op_s + 1) (a_s + 1) pz0 p1_s (fun _ => rfl) hp
                  intro w_s
                  have e1_s := e_s w_s
                  show (if tk a_s = 33 then (if p1_s.2.2.1 n_s = 0 then (1 : Int32) else 0) else -(p1_s.2.2.1 n_s)) = (if tk a_s = 33 then (if p1_s.2.2.1 n1_s = 0 then (1 : Int32) else 0) else -(p1_s.2.2.1 n1_s))
                  rw [e1_s]
                · rename_i q_s hp
                  exact (hp p_s h_s).elim
      · split at h_s
        · split at h_s
          · rename_i p1_s hp
            have e_s := ih_s (m_s - 5) op_s (a_s + 1) pz0 p1_s (fun _ => rfl) hp
            have ej : (b_s ∨ (pjn z_s (tk a_s) p1_s.2).2.2 = false) → (pjn z_s (tk a_s) p1_s.2).2.1 n_s = (pjn z_s (tk a_s) p1_s.2).2.1 n1_s := by
              intro w_s
              have w1_s := orF w_s
              show jnv (z_s.2.1 n_s) (tk a_s) (p1_s.2.2.1 n_s) = jnv (z_s.2.1 n1_s) (tk a_s) (p1_s.2.2.1 n1_s)
              rw [hz w1_s.1, e_s w1_s.2]
            split at h_s
            · cases h_s
              exact ej
            · exact ih_s m_s op_s p1_s.1 (pjn z_s (tk a_s) p1_s.2) p_s ej h_s
          · rename_i q_s hp
            exact (hp p_s h_s).elim
        · cases h_s
          exact hz
def lMW (b_s : Prop) (n_s n1_s : Nat → Int32) (l : pB) : Prop := (b_s ∨ mLn l = false) → (∀ y_s, l.1 = some y_s → y_s.2.1 n_s = y_s.2.1 n1_s) ∧ l.2.2.1 n_s = l.2.2.1 n1_s
theorem pP_mw {b_s : Prop} {tk : Nat → Int} {n_s n1_s : Nat → Int32} {a_s : Nat} {p_s : Nat × pA} (hn : eqN b_s n_s n1_s) (h_s : pP tk 0 0 a_s pz0 (.inr p_s)) : (b_s ∨ p_s.2.2.2 = false) → p_s.2.2.1 n_s = p_s.2.2.1 n1_s := by
  obtain ⟨f_s, h_s⟩ := h_s
  exact pz_mw tk hn f_s 0 0 a_s pz0 p_s (fun _ => rfl) h_s
theorem pln_mw {b_s : Prop} {tk : Nat → Int} {n_s n1_s : Nat → Int32} {a_s : Nat} {p_s : Nat × pB} (hn : eqN b_s n_s n1_s) (h_s : pln tk a_s (.inr p_s)) : lMW b_s n_s n1_s p_s.2 := by
  rcases h_s with ⟨e_s, _, h_s⟩ | ⟨p1_s, h1, ⟨_, h_s⟩ | ⟨_, ⟨e_s, _, h_s⟩ | ⟨p2_s, h2, h_s⟩⟩⟩
  · cases h_s
  · cases h_s
    intro w_s
    have w1_s : b_s ∨ (false || p1_s.2.2.2) = false := w_s
    exact ⟨fun y_s hy => (by cases hy), pP_mw hn h1 (orF w1_s).2⟩
  · cases h_s
  · cases h_s
    intro w_s
    have w1_s : b_s ∨ (p1_s.2.2.2 || p2_s.2.2.2) = false := w_s
    refine ⟨fun y_s hy => ?_, pP_mw hn h2 (orF w1_s).2⟩
    cases hy
    exact pP_mw hn h1 (orF w1_s).1
theorem ptx_mw {b_s : Prop} {tk : Nat → Int} {n1_s n2_s : Nat → Int32} {n_s : Nat} (hn : eqN b_s n1_s n2_s) : ∀ {k_s a_s : Nat} {l ls : List pB}, ptx tk n_s k_s a_s l (.inr ls) → (∀ p_s, p_s ∈ l → lMW b_s n1_s n2_s p_s) → ∀ p_s, p_s ∈ ls → lMW b_s n1_s n2_s p_s
  | 0, _, _, _, h_s, _ => h_s.elim
  | k_s + 1, a_s, l, ls, h_s, hl => by
    rcases h_s with ⟨e_s, _, h_s⟩ | ⟨p_s, x1_s, x2_s⟩
    · cases h_s
    · have hp := pln_mw hn x1_s
      have hl2 : ∀ p1_s, p1_s ∈ l ++ [p_s.2] → lMW b_s n1_s n2_s p1_s := by
        intro p1_s h1
        rcases List.mem_append.mp h1 with h2 | h2
        · exact hl p1_s h2
        · rw [List.mem_singleton.mp h2]
          exact hp
      rcases x2_s with ⟨_, x4_s⟩ | ⟨_, ⟨_, x4_s⟩ | ⟨_, x4_s⟩⟩
      · cases x4_s
        exact hl2
      · cases x4_s
      · exact ptx_mw (k_s := k_s) hn x4_s hl2
theorem gvL_mw {b_s : Prop} {n1_s n2_s : Nat → Int32} : ∀ {ls : List pB}, (b_s ∨ mTx ls = false) → (∀ p_s, p_s ∈ ls → lMW b_s n1_s n2_s p_s) → gvL n1_s ls = gvL n2_s ls
  | [], _, _ => rfl
  | (none, y_s) :: r_s, w_s, hl => by
    have w1_s : b_s ∨ (mLn (none, y_s) || mTx r_s) = false := w_s
    have e_s := hl _ List.mem_cons_self (orF w1_s).1
    show some (y_s.2.1 n1_s) = some (y_s.2.1 n2_s)
    rw [e_s.2]
  | (some y1, y_s) :: r_s, w_s, hl => by
    have w1_s : b_s ∨ (mLn (some y1, y_s) || mTx r_s) = false := w_s
    have e_s := hl _ List.mem_cons_self (orF w1_s).1
    have e1_s := e_s.1 y1 rfl
    show (if y1.2.1 n1_s = 0 then gvL n1_s r_s else some (y_s.2.1 n1_s)) = (if y1.2.1 n2_s = 0 then gvL n2_s r_s else some (y_s.2.1 n2_s))
    rw [e1_s, e_s.2, gvL_mw (orF w1_s).2 (fun p_s hp => hl p_s (List.mem_cons_of_mem _ hp))]
/-- THE LAW of the reference: the text that it keeps -/
def lawR (f_s : Nat → Nat → Int32) : Option (List pB) → Prop
  | none => (f_s 102 14).toInt = -1
  | some ls => ∃ n_s k_s : Nat, (f_s 102 14).toInt = (n_s : Int) ∧ n_s ≤ 120 ∧ (∀ a_s, a_s < n_s → 0 ≤ (f_s 110 a_s).toInt) ∧ ptx (fun a_s => if (a_s : Int) < (n_s : Int) then (f_s 110 a_s).toInt else -1) n_s k_s 0 [] (.inr ls)
def lwm : Option (List pB) → Bool
  | none => false
  | some ls => mTx ls
def lwP (lw : Option (List pB)) : Prop := ∀ (b_s : Prop) (n_s n1_s : Nat → Int32), eqN b_s n_s n1_s → (b_s ∨ lwm lw = false) → lawV lw n_s = lawV lw n1_s
theorem lawR_P {f_s : Nat → Nat → Int32} {lw : Option (List pB)} (h_s : lawR f_s lw) : lwP lw := by
  intro b_s n_s n1_s hn hw
  match lw, h_s, hw with
  | none, _, _ =>
    show 1 + n_s 5 + n_s 3 / 3 - n_s 0 / 2 = 1 + n1_s 5 + n1_s 3 / 3 - n1_s 0 / 2
    rw [hn 5 (by omega) (fun e_s => absurd e_s (by omega)), hn 3 (by omega) (fun e_s => absurd e_s (by omega)), hn 0 (by omega) (fun e_s => absurd e_s (by omega))]
  | some ls, h_s, hw =>
    obtain ⟨_, k_s, _, _, _, h_s⟩ := h_s
    show (gvL n_s ls).getD 0 = (gvL n1_s ls).getD 0
    rw [gvL_mw hw (ptx_mw hn h_s (fun p_s hp => by cases hp))]
