/-! A TEXT, read: as a function of its bytes. A piece that was read: its code, its worth (by names), whether it minds WORN. -/
abbrev pA : Type := List Int32 × ((Nat → Int32) → Int32) × Bool
abbrev pR : Type := Nat ⊕ (Nat × pA)
noncomputable def pz0 : pA := ([], fun _ => 0, false)
noncomputable def lvl (c_s : Int) : Int := if c_s = 124 then 0 else if c_s = 38 then 1 else if c_s = 60 ∨ c_s = 61 ∨ c_s = 62 then 2 else if c_s = 43 ∨ c_s = 45 then 3 else if c_s = 37 ∨ c_s = 42 ∨ c_s = 47 then 4 else -1
noncomputable def nmo (c_s : Int) : Int := if c_s = 109 then 0 else if c_s = 119 then 1 else if c_s = 104 then 2 else if c_s = 102 then 3 else if c_s = 115 then 4 else if c_s = 107 then 5 else -1
noncomputable def jnv (a_s : Int32) (s_s : Int) (b_s : Int32) : Int32 := if s_s = 124 then (if a_s = 0 ∧ b_s = 0 then 0 else 1) else if s_s = 38 then (if a_s = 0 ∨ b_s = 0 then 0 else 1) else if s_s = 60 then (if a_s.toInt < b_s.toInt then 1 else 0) else if s_s = 61 then (if a_s = b_s then 1 else 0) else if s_s = 62 then (if b_s.toInt < a_s.toInt then 1 else 0) else if s_s = 43 then a_s + b_s else if s_s = 45 then a_s - b_s else if s_s = 42 then a_s * b_s else if s_s = 47 then (if b_s = 0 then 0 else a_s / b_s) else if s_s = 37 then (if b_s = 0 then 0 else a_s - a_s / b_s * b_s) else 0
noncomputable def pjn (x_s : pA) (s_s : Int) (y_s : pA) : pA := (x_s.1 ++ (y_s.1 ++ [Int32.ofInt s_s]), fun n_s => jnv (x_s.2.1 n_s) s_s (y_s.2.1 n_s), x_s.2.2 || y_s.2.2)
noncomputable def pun (s_s : Int) (x_s : pA) : pA := (x_s.1 ++ [if s_s = 33 then 33 else 126], fun n_s => if s_s = 33 then (if x_s.2.1 n_s = 0 then 1 else 0) else -(x_s.2.1 n_s), x_s.2.2)
noncomputable def pdg (tk : Nat → Int) : Nat → Nat → Int32 → Nat × Int32
  | 0, a_s, v_s => (a_s, v_s)
  | k_s + 1, a_s, v_s => if 48 ≤ tk a_s ∧ tk a_s ≤ 57 then pdg tk k_s (a_s + 1) (v_s * 10 + Int32.ofInt (tk a_s) - 48) else (a_s, v_s)
/-- modes: 0 .. 4 a level, 5 an O, 6 + n the signs of level n behind what was read -/
noncomputable def pz (tk : Nat → Int) : Nat → Nat → Nat → Nat → pA → Option pR
  | 0, _, _, _, _ => none
  | f_s + 1, m_s, op_s, a_s, z_s => if m_s < 5 then (match pz tk f_s (m_s + 1) op_s a_s pz0 with
      | some (.inr p_s) => pz tk f_s (m_s + 6) op_s p_s.1 p_s.2
      | r_s => r_s)
    else if m_s = 5 then (if 48 ≤ tk a_s ∧ tk a_s ≤ 57 then some (.inr ((pdg tk 4 a_s 0).1, ([48, (pdg tk 4 a_s 0).2], fun _ => (pdg tk 4 a_s 0).2, false)))
      else if 0 ≤ nmo (tk a_s) then some (.inr (a_s + 1, ([109, Int32.ofInt (nmo (tk a_s))], fun n_s => n_s (nmo (tk a_s)).toNat, decide (nmo (tk a_s) = 1))))
      else if ¬ (tk a_s = 40 ∨ tk a_s = 33 ∨ tk a_s = 45) ∨ 6 ≤ op_s then some (.inl a_s)
      else if tk a_s = 40 then (match pz tk f_s 0 (op_s + 1) (a_s + 1) pz0 with
        | some (.inr p_s) => if tk p_s.1 = 41 then some (.inr (p_s.1 + 1, p_s.2)) else some (.inl p_s.1)
        | r_s => r_s)
      else (match pz tk f_s 5 (op_s + 1) (a_s + 1) pz0 with
        | some (.inr p_s) => some (.inr (p_s.1, pun (tk a_s) p_s.2))
        | r_s => r_s))
    else if lvl (tk a_s) = (m_s : Int) - 6 then (match pz tk f_s (m_s - 5) op_s (a_s + 1) pz0 with
      | some (.inr p_s) => if m_s = 8 then some (.inr (p_s.1, pjn z_s (tk a_s) p_s.2)) else pz tk f_s m_s op_s p_s.1 (pjn z_s (tk a_s) p_s.2)
      | r_s => r_s)
    else some (.inr (a_s, z_s))
theorem pz_more (tk : Nat → Int) : ∀ (f_s m_s op_s a_s : Nat) (z_s : pA) (r_s : pR), pz tk f_s m_s op_s a_s z_s = some r_s → pz tk (f_s + 1) m_s op_s a_s z_s = some r_s
  | 0, _, _, _, _, _, h_s => by cases h_s
  | f_s + 1, m_s, op_s, a_s, z_s, r_s, h_s => by
    have ih_s := pz_more tk f_s
    rw [pz] at h_s ⊢
    split at h_s
    · rename_i c_s
      rw [if_pos c_s]
      split at h_s
      · rename_i p_s hp
        rw [ih_s _ _ _ _ _ hp]
        exact ih_s _ _ _ _ _ h_s
      · rename_i q_s hp
        rw [ih_s _ _ _ _ _ h_s]
        split
        · rename_i p_s hq
          exact absurd h_s (fun w_s => hp p_s (by rw [w_s, hq]))
        · rfl
    · rename_i c_s
      rw [if_neg c_s]
      split at h_s
      · rename_i c1_s
        rw [if_pos c1_s]
        split at h_s
        · rename_i c2_s
          rw [if_pos c2_s]
          exact h_s
        · rename_i c2_s
          rw [if_neg c2_s]
          split at h_s
          · rename_i c3_s
            rw [if_pos c3_s]
            exact h_s
          · rename_i c3_s
            rw [if_neg c3_s]
            split at h_s
            · rename_i c4_s
              rw [if_pos c4_s]
              exact h_s
            · rename_i c4_s
              rw [if_neg c4_s]
              split at h_s
              · rename_i c5_s
                rw [if_pos c5_s]
                split at h_s
                · rename_i p_s hp
                  rw [ih_s _ _ _ _ _ hp]
                  exact h_s
                · rename_i q_s hp
                  rw [ih_s _ _ _ _ _ h_s]
                  split
                  · rename_i p_s hq
                    exact absurd h_s (fun w_s => hp p_s (by rw [w_s, hq]))
                  · rfl
              · rename_i c5_s
                rw [if_neg c5_s]
                split at h_s
                · rename_i p_s hp
                  rw [ih_s _ _ _ _ _ hp]
                  exact h_s
                · rename_i q_s hp
                  rw [ih_s _ _ _ _ _ h_s]
                  split
                  · rename_i p_s hq
                    exact absurd h_s (fun w_s => hp p_s (by rw [w_s, hq]))
                  · rfl
      · rename_i c1_s
        rw [if_neg c1_s]
        split at h_s
        · rename_i c2_s
          rw [if_pos c2_s]
          split at h_s
          · rename_i p_s hp
            rw [ih_s _ _ _ _ _ hp]
            dsimp only
            split at h_s
            · rename_i c3_s
              rw [if_pos c3_s]
              exact h_s
            · rename_i c3_s
              rw [if_neg c3_s]
              exact ih_s _ _ _ _ _ h_s
          · rename_i q_s hp
            rw [ih_s _ _ _ _ _ h_s]
            split
            · rename_i p_s hq
              exact absurd h_s (fun w_s => hp p_s (by rw [w_s, hq]))
            · rfl
        · rename_i c2_s
          rw [if_neg c2_s]
          exact h_s
theorem pz_le {tk : Nat → Int} {f_s f1_s m_s op_s a_s : Nat} {z_s : pA} {r_s : pR} (hl : f_s ≤ f1_s) (h_s : pz tk f_s m_s op_s a_s z_s = some r_s) : pz tk f1_s m_s op_s a_s z_s = some r_s := by
  obtain ⟨k_s, rfl⟩ := Nat.exists_eq_add_of_le hl
  induction k_s with
  | zero => exact h_s
  | succ k_s ih_s => exact pz_more tk _ _ _ _ _ _ (ih_s (by omega))
noncomputable def pP (tk : Nat → Int) (m_s op_s a_s : Nat) (z_s : pA) (r_s : pR) : Prop := ∃ f_s, pz tk f_s m_s op_s a_s z_s = some r_s
section PZ_s
variable {tk : Nat → Int} {m_s op_s a_s : Nat} {z_s : pA} {r_s r1_s : pR} {p_s : Nat × pA}
theorem pP_det (h_s : pP tk m_s op_s a_s z_s r_s) (h1 : pP tk m_s op_s a_s z_s r1_s) : r_s = r1_s := by
  obtain ⟨f_s, h_s⟩ := h_s
  obtain ⟨f1_s, h1⟩ := h1
  have a1_s := pz_le (Nat.le_max_left f_s f1_s) h_s
  have b1 := pz_le (Nat.le_max_right f_s f1_s) h1
  rw [a1_s] at b1
  cases b1
  rfl
theorem pP_lev (hm_s : m_s < 5) (h_s : pP tk (m_s + 1) op_s a_s pz0 (.inr p_s)) (h1 : pP tk (m_s + 6) op_s p_s.1 p_s.2 r_s) : pP tk m_s op_s a_s z_s r_s := by
  obtain ⟨f_s, h_s⟩ := h_s
  obtain ⟨f1_s, h1⟩ := h1
  refine ⟨max f_s f1_s + 1, ?_⟩
  rw [pz, if_pos hm_s, pz_le (Nat.le_max_left f_s f1_s) h_s]
  exact pz_le (Nat.le_max_right f_s f1_s) h1
theorem pP_levF {e_s : Nat} (hm_s : m_s < 5) (h_s : pP tk (m_s + 1) op_s a_s pz0 (.inl e_s)) : pP tk m_s op_s a_s z_s (.inl e_s) := by
  obtain ⟨f_s, h_s⟩ := h_s
  refine ⟨f_s + 1, ?_⟩
  rw [pz, if_pos hm_s, h_s]
theorem pP_num (h_s : 48 ≤ tk a_s ∧ tk a_s ≤ 57) : pP tk 5 op_s a_s z_s (.inr ((pdg tk 4 a_s 0).1, ([48, (pdg tk 4 a_s 0).2], fun _ => (pdg tk 4 a_s 0).2, false))) := by
  refine ⟨1, ?_⟩
  rw [pz, if_neg (by omega), if_pos rfl, if_pos h_s]
theorem pP_nam (h_s : ¬ (48 ≤ tk a_s ∧ tk a_s ≤ 57)) (h1 : 0 ≤ nmo (tk a_s)) : pP tk 5 op_s a_s z_s (.inr (a_s + 1, ([109, Int32.ofInt (nmo (tk a_s))], fun n_s => n_s (nmo (tk a_s)).toNat, decide (nmo (tk a_s) = 1)))) := by
  refine ⟨1, ?_⟩
  rw [pz, if_neg (by omega), if_pos rfl, if_neg h_s, if_pos h1]
theorem pP_bad (h_s : ¬ (48 ≤ tk a_s ∧ tk a_s ≤ 57)) (h1 : ¬ 0 ≤ nmo (tk a_s)) (h2 : ¬ (tk a_s = 40 ∨ tk a_s = 33 ∨ tk a_s = 45) ∨ 6 ≤ op_s) : pP tk 5 op_s a_s z_s (.inl a_s) := by
  refine ⟨1, ?_⟩
  rw [pz, if_neg (by omega), if_pos rfl, if_neg h_s, if_neg h1, if_pos h2]
theorem nmo_40 : ¬ 0 ≤ nmo 40 := by decide
theorem nmo_33 : ¬ 0 ≤ nmo 33 := by decide
theorem nmo_45 : ¬ 0 ≤ nmo 45 := by decide
theorem pP_par (h_s : tk a_s = 40) (ho : op_s < 6) (h1 : pP tk 0 (op_s + 1) (a_s + 1) pz0 (.inr p_s)) (h2 : tk p_s.1 = 41) : pP tk 5 op_s a_s z_s (.inr (p_s.1 + 1, p_s.2)) := by
  obtain ⟨f_s, h1⟩ := h1
  refine ⟨f_s + 1, ?_⟩
  rw [pz, if_neg (by omega), if_pos rfl, if_neg (by omega), if_neg (by rw [h_s]; exact nmo_40), if_neg (by omega), if_pos h_s, h1]
  exact if_pos h2
theorem pP_parN (h_s : tk a_s = 40) (ho : op_s < 6) (h1 : pP tk 0 (op_s + 1) (a_s + 1) pz0 (.inr p_s)) (h2 : ¬ tk p_s.1 = 41) : pP tk 5 op_s a_s z_s (.inl p_s.1) := by
  obtain ⟨f_s, h1⟩ := h1
  refine ⟨f_s + 1, ?_⟩
  rw [pz, if_neg (by omega), if_pos rfl, if_neg (by omega), if_neg (by rw [h_s]; exact nmo_40), if_neg (by omega), if_pos h_s, h1]
  exact if_neg h2
theorem pP_parF {e_s : Nat} (h_s : tk a_s = 40) (ho : op_s < 6) (h1 : pP tk 0 (op_s + 1) (a_s + 1) pz0 (.inl e_s)) : pP tk 5 op_s a_s z_s (.inl e_s) := by
  obtain ⟨f_s, h1⟩ := h1
  refine ⟨f_s + 1, ?_⟩
  rw [pz, if_neg (by omega), if_pos rfl, if_neg (by omega), if_neg (by rw [h_s]; exact nmo_40), if_neg (by omega), if_pos h_s, h1]
theorem pP_un (h_s : tk a_s = 33 ∨ tk a_s = 45) (ho : op_s < 6) (h1 : pP tk 5 (op_s + 1) (a_s + 1) pz0 (.inr p_s)) : pP tk 5 op_s a_s z_s (.inr (p_s.1, pun (tk a_s) p_s.2)) := by
  obtain ⟨f_s, h1⟩ := h1
  refine ⟨f_s + 1, ?_⟩
  rw [pz, if_neg (by omega), if_pos rfl, if_neg (by omega), if_neg (by rcases h_s with h_s | h_s <;> rw [h_s] <;> decide), if_neg (by omega), if_neg (by omega), h1]
theorem pP_unF {e_s : Nat} (h_s : tk a_s = 33 ∨ tk a_s = 45) (ho : op_s < 6) (h1 : pP tk 5 (op_s + 1) (a_s + 1) pz0 (.inl e_s)) : pP tk 5 op_s a_s z_s (.inl e_s) := by
  obtain ⟨f_s, h1⟩ := h1
  refine ⟨f_s + 1, ?_⟩
  rw [pz, if_neg (by omega), if_pos rfl, if_neg (by omega), if_neg (by rcases h_s with h_s | h_s <;> rw [h_s] <;> decide), if_neg (by omega), if_neg (by omega), h1]
theorem pP_end (hm_s : 6 ≤ m_s) (h_s : ¬ lvl (tk a_s) = (m_s : Int) - 6) : pP tk m_s op_s a_s z_s (.inr (a_s, z_s)) := by
  refine ⟨1, ?_⟩
  rw [pz, if_neg (by omega), if_neg (by omega), if_neg h_s]
theorem pP_sgF {e_s : Nat} (hm_s : 6 ≤ m_s) (h_s : lvl (tk a_s) = (m_s : Int) - 6) (h1 : pP tk (m_s - 5) op_s (a_s + 1) pz0 (.inl e_s)) : pP tk m_s op_s a_s z_s (.inl e_s) := by
  obtain ⟨f_s, h1⟩ := h1
  refine ⟨f_s + 1, ?_⟩
  rw [pz, if_neg (by omega), if_neg (by omega), if_pos h_s, h1]
theorem pP_sg8 (h_s : lvl (tk a_s) = 2) (h1 : pP tk 3 op_s (a_s + 1) pz0 (.inr p_s)) : pP tk 8 op_s a_s z_s (.inr (p_s.1, pjn z_s (tk a_s) p_s.2)) := by
  obtain ⟨f_s, h1⟩ := h1
  refine ⟨f_s + 1, ?_⟩
  rw [pz, if_neg (by omega), if_neg (by omega), if_pos (by rw [h_s]; rfl), h1]
  exact if_pos rfl
theorem pP_sg (hm_s : 6 ≤ m_s) (hm8 : m_s ≠ 8) (h_s : lvl (tk a_s) = (m_s : Int) - 6) (h1 : pP tk (m_s - 5) op_s (a_s + 1) pz0 (.inr p_s)) (h2 : pP tk m_s op_s p_s.1 (pjn z_s (tk a_s) p_s.2) r_s) : pP tk m_s op_s a_s z_s r_s := by
  obtain ⟨f_s, h1⟩ := h1
  obtain ⟨f2_s, h2⟩ := h2
  refine ⟨max f_s f2_s + 1, ?_⟩
  rw [pz, if_neg (by omega), if_neg (by omega), if_pos h_s, pz_le (Nat.le_max_left f_s f2_s) h1]
  dsimp only
  rw [if_neg hm8]
  exact pz_le (Nat.le_max_right f_s f2_s) h2
end PZ_s
theorem lvl_in (c_s : Int) : (lvl c_s = 0 → c_s = 124) ∧ (lvl c_s = 1 → c_s = 38) ∧ (lvl c_s = 2 → c_s = 60 ∨ c_s = 61 ∨ c_s = 62) ∧ (lvl c_s = 3 → c_s = 43 ∨ c_s = 45) ∧ (lvl c_s = 4 → c_s = 37 ∨ c_s = 42 ∨ c_s = 47) := by
  unfold lvl
  by_cases h0 : c_s = 124
  · rw [if_pos h0]
    omega
  · rw [if_neg h0]
    by_cases h1 : c_s = 38
    · rw [if_pos h1]
      omega
    · rw [if_neg h1]
      by_cases h2 : c_s = 60 ∨ c_s = 61 ∨ c_s = 62
      · rw [if_pos h2]
        omega
      · rw [if_neg h2]
        by_cases h3 : c_s = 43 ∨ c_s = 45
        · rw [if_pos h3]
          omega
        · rw [if_neg h3]
          by_cases h4 : c_s = 37 ∨ c_s = 42 ∨ c_s = 47
          · rw [if_pos h4]
            omega
          · rw [if_neg h4]
            omega
/-! THE CLASS READS A TEXT: leaves. -/
noncomputable def tkF (f_s : Nat → Nat → Int32) (a_s : Nat) : Int := if (a_s : Int) < (f_s 40 1).toInt then (f_s 41 a_s).toInt else -1
theorem tkF_eq {f_s f1_s : Nat → Nat → Int32} (h1 : f1_s 40 1 = f_s 40 1) (h2 : ∀ k_s, f1_s 41 k_s = f_s 41 k_s) : tkF f1_s = tkF f_s := by
  funext a_s
  unfold tkF
  rw [h1, h2]
section LT
variable {F_s : Nat} {h_s : zH} {K_s : Int32 → zH → Prop} {V : zH → Prop} {x1_s x2_s : Int32} {q_s a_s n_s len_s : Nat}
theorem sp_68 (hk : hKn h_s) (ha_s : (h_s.2.1 40 2).toInt = (a_s : Int)) (t_s : ∀ v_s, v_s.toInt = tkF h_s.2.1 a_s → K_s v_s h_s) : wF F_s 68 (0, [some (.ref 40)], [], h_s) (gI K_s) := by
  have z_s := azix (i := h_s.2.1 40 2) (by omega)
  have z1 : zix (h_s.2.1 40 2) = a_s := by omega
  refine wF_le (Nat.le_succ F_s) (sg_68_0 hk ⟨fun c1_s => fun c2_s => ?_, fun c1_s => ?_⟩)
  · rw [z1]
    exact t_s _ (by unfold tkF; rw [if_pos (by omega)])
  · exact t_s _ (by unfold tkF; rw [if_neg (by omega)]; rfl)
theorem sp_69 (hk : hKn h_s) (ha_s : (h_s.2.1 40 2).toInt = (a_s : Int)) (hb_s : a_s ≤ 1000) (t1_s : tkF h_s.2.1 a_s = x1_s.toInt → ∀ f1_s, (f1_s 40 2).toInt = ((a_s + 1 : Nat) : Int) → (∀ o k_s, ¬ (o = 40 ∧ k_s = 2) → f1_s o k_s = h_s.2.1 o k_s) → K_s 1 (h_s.1, f1_s, h_s.2.2.1, h_s.2.2.2)) (t2_s : ¬ tkF h_s.2.1 a_s = x1_s.toInt → K_s 0 h_s) : wF F_s 69 (0, [some (.ref 40), some (.int x1_s)], [], h_s) (gI K_s) := by
  refine wF_le (Nat.le_succ F_s) (sg_69_0 hk (sp_68 hk ha_s (fun v_s hv _ => ⟨fun c_s => t1_s (by omega) _ ?_ ?_, fun c_s => t2_s (by omega)⟩)))
  · rw [zsame_up, in1_ (by omega)]
    omega
  · intro o k_s hq
    rw [zne_up hq]
theorem sp_70 (hk : hKn h_s) (t1_s : ¬ (48 ≤ x1_s.toInt ∧ x1_s.toInt ≤ 57) → K_s 0 h_s) (t2_s : 48 ≤ x1_s.toInt ∧ x1_s.toInt ≤ 57 → K_s 1 h_s) : wF F_s 70 (0, [some (.int x1_s)], [], h_s) (gI K_s) := wF_le (Nat.le_succ F_s) (sg_70_0 hk ⟨fun c1_s => t1_s (by omega), fun c1_s => ⟨fun c2_s => t1_s (by omega), fun c2_s => t2_s (by omega)⟩⟩)
theorem sp_71 (hk : hKn h_s) (t_s : ∀ v_s, v_s.toInt = nmo x1_s.toInt → K_s v_s h_s) : wF F_s 71 (0, [some (.int x1_s)], [], h_s) (gI K_s) := by
  refine wF_le (Nat.le_succ F_s) (sg_71_0 hk ⟨fun c1_s => ?_, fun c1_s => ⟨fun c2_s => ?_, fun c2_s => ⟨fun c3_s => ?_, fun c3_s => ⟨fun c4_s => ?_, fun c4_s => ⟨fun c5_s => ?_, fun c5_s => ⟨fun c6_s => ?_, fun c6_s => ⟨fun c7_s => ?_, fun c7_s => ⟨fun c8_s => ?_, fun c8_s => ⟨fun c9_s => ?_, fun c9_s => ⟨fun c10_s => ?_, fun c10_s => ⟨fun c11_s => ?_, fun c11_s => ⟨fun c12_s => ?_, fun c12_s => ⟨fun c13_s => ?_, fun c13_s => ⟨fun c14_s => ?_, fun c14_s => ⟨fun c15_s => ?_, fun c15_s => ⟨fun c16 => ?_, fun c16 => ⟨fun c17 => ?_, fun c17 => ⟨fun c18_s => ?_, fun c18_s => ?_⟩⟩⟩⟩⟩⟩⟩⟩⟩⟩⟩⟩⟩⟩⟩⟩⟩⟩)
  · exact t_s _ (by rw [c1_s]; decide)
  · exact t_s _ (by rw [c2_s]; decide)
  · exact t_s _ (by rw [c3_s]; decide)
  · exact t_s _ (by rw [c4_s]; decide)
  · exact t_s _ (by rw [c5_s]; decide)
  · exact t_s _ (by rw [c6_s]; decide)
  · exact t_s _ (by rw [c7_s]; decide)
  · exact t_s _ (by rw [c8_s]; decide)
  · exact t_s _ (by rw [c9_s]; decide)
  · exact t_s _ (by rw [c10_s]; decide)
  · exact t_s _ (by rw [c11_s]; decide)
  · exact t_s _ (by rw [c12_s]; decide)
  · exact t_s _ (by rw [c13_s]; decide)
  · exact t_s _ (by rw [c14_s]; decide)
  · exact t_s _ (by rw [c15_s]; decide)
  · exact t_s _ (by rw [c16]; decide)
  · exact t_s _ (by rw [c17]; decide)
  · exact t_s _ (by rw [c18_s]; decide)
  · exact t_s _ (by unfold nmo; rw [if_neg (by omega), if_neg (by omega), if_neg (by omega), if_neg (by omega), if_neg (by omega), if_neg (by omega)]; rfl)
theorem sp_72 (hk : hKn h_s) (t_s : ∀ v_s, v_s.toInt = lvl x1_s.toInt → K_s v_s h_s) : wF F_s 72 (0, [some (.int x1_s)], [], h_s) (gI K_s) := by
  refine wF_le (Nat.le_succ F_s) (sg_72_0 hk ⟨fun c1_s => ?_, fun c1_s => ⟨fun c2_s => ?_, fun c2_s => ⟨fun c3_s => ?_, fun c3_s => ⟨fun c4_s => ?_, fun c4_s => ⟨fun c5_s => ?_, fun c5_s => ⟨fun c6_s => ?_, fun c6_s => ⟨fun c7_s => ?_, fun c7_s => ⟨fun c8_s => ?_, fun c8_s => ⟨fun c9_s => ?_, fun c9_s => ⟨fun c10_s => ?_, fun c10_s => ?_⟩⟩⟩⟩⟩⟩⟩⟩⟩⟩)
  · exact t_s _ (by rw [c1_s]; decide)
  · exact t_s _ (by rw [c2_s]; decide)
  · exact t_s _ (by rw [c3_s]; decide)
  · exact t_s _ (by rw [c4_s]; decide)
  · exact t_s _ (by rw [c5_s]; decide)
  · exact t_s _ (by rw [c6_s]; decide)
  · exact t_s _ (by rw [c7_s]; decide)
  · exact t_s _ (by rw [c8_s]; decide)
  · exact t_s _ (by rw [c9_s]; decide)
  · exact t_s _ (by rw [c10_s]; decide)
  · exact t_s _ (by unfold lvl; rw [if_neg (by omega), if_neg (by omega), if_neg (by omega), if_neg (by omega), if_neg (by omega)]; rfl)
theorem sp_54 (hm_s : q_s = 14 ∨ q_s = 17) (hk : hKn h_s) (hl : (h_s.2.1 q_s 2).toInt = (len_s : Int)) (hb_s : len_s < 242) (t_s : ∀ f1_s, f1_s (q_s + 1) len_s = x1_s → (f1_s q_s 2).toInt = ((len_s + 1 : Nat) : Int) → (∀ o k_s, ¬ (o = q_s + 1 ∧ k_s = len_s) → ¬ (o = q_s ∧ k_s = 2) → f1_s o k_s = h_s.2.1 o k_s) → V (h_s.1, f1_s, h_s.2.2.1, h_s.2.2.2)) : wF F_s 54 (0, [some (.ref q_s), some (.int x1_s)], [], h_s) (gV V) := by
  have z_s := azix (i := h_s.2.1 q_s 2) (by omega)
  have z1 : zix (h_s.2.1 q_s 2) = len_s := by omega
  refine wF_le (Nat.le_succ F_s) (sg_54_0 hm_s hk ⟨fun c1_s => fun c2_s => t_s _ ?_ ?_ ?_, fun c1_s => absurd hb_s (by omega)⟩)
  · rw [z1, zne_up (by omega), zsame_up]
  · rw [zsame_up, zne_up (by omega), in1_ (by omega)]
    omega
  · intro o k_s h1 h2
    rw [zne_up h2, z1, zne_up h1]
theorem sp_55 (hm_s : q_s = 14 ∨ q_s = 17) (hk : hKn h_s) (hl : (h_s.2.1 q_s 2).toInt = (len_s : Int)) (hb_s : len_s + 1 < 242) (t_s : ∀ f1_s, f1_s (q_s + 1) len_s = 109 → f1_s (q_s + 1) (len_s + 1) = x1_s → (f1_s q_s 2).toInt = ((len_s + 2 : Nat) : Int) → f1_s q_s 0 = (if x1_s.toInt = 1 then 1 else h_s.2.1 q_s 0) → (∀ o k_s, ¬ (o = q_s + 1 ∧ len_s ≤ k_s) → ¬ (o = q_s ∧ k_s ≤ 2) → f1_s o k_s = h_s.2.1 o k_s) → V (h_s.1, f1_s, h_s.2.2.1, h_s.2.2.2)) : wF F_s 55 (0, [some (.ref q_s), some (.int x1_s)], [], h_s) (gV V) := by
  refine wF_le (Nat.le_succ F_s) (sg_55_0 hm_s hk (sp_54 (len_s := len_s) hm_s hk hl (by omega) (fun f1_s a1_s a2 a3 hk1 => ?_)))
  refine sp_54 (len_s := len_s + 1) hm_s hk1 a2 hb_s (fun f2_s b1 b2 b3 hk2 => ?_)
  have b3 : ∀ o k_s, ¬ (o = q_s + 1 ∧ k_s = len_s + 1) → ¬ (o = q_s ∧ k_s = 2) → f2_s o k_s = f1_s o k_s := b3
  refine ⟨fun c_s => t_s (zup f2_s q_s 0 1) ?_ ?_ ?_ ?_ ?_, fun c_s => t_s f2_s ?_ ?_ ?_ ?_ ?_⟩
  · rw [zne_up (by omega), b3 _ _ (by omega) (by omega)]
    exact a1_s
  · rw [zne_up (by omega)]
    exact b1
  · rw [zne_up (by omega)]
    omega
  · rw [zsame_up, if_pos c_s]
  · intro o k_s h1 h2
    rw [zne_up (by omega), b3 _ _ (by omega) (by omega)]
    exact a3 _ _ (by omega) (by omega)
  · rw [b3 _ _ (by omega) (by omega)]
    exact a1_s
  · exact b1
  · omega
  · rw [if_neg c_s, b3 _ _ (by omega) (by omega)]
    exact a3 _ _ (by omega) (by omega)
  · intro o k_s h1 h2
    rw [b3 _ _ (by omega) (by omega)]
    exact a3 _ _ (by omega) (by omega)
end LT
/-- digits -/
theorem pdg_le {tk : Nat → Int} {n_s : Nat} (hn : ∀ k_s, n_s ≤ k_s → tk k_s = -1) : ∀ (k_s a_s : Nat) (v_s : Int32), a_s ≤ n_s → a_s ≤ (pdg tk k_s a_s v_s).1 ∧ (pdg tk k_s a_s v_s).1 ≤ n_s
  | 0, a_s, v_s, ha_s => ⟨Nat.le_refl a_s, ha_s⟩
  | k_s + 1, a_s, v_s, ha_s => by
    unfold pdg
    by_cases c_s : 48 ≤ tk a_s ∧ tk a_s ≤ 57
    · rw [if_pos c_s]
      have hl : a_s < n_s := by
        by_cases e_s : n_s ≤ a_s
        · have e1_s := hn a_s e_s
          omega
        · omega
      have ih_s := pdg_le hn k_s (a_s + 1) (v_s * 10 + Int32.ofInt (tk a_s) - 48) hl
      omega
    · rw [if_neg c_s]
      exact ⟨Nat.le_refl a_s, ha_s⟩
theorem pdg_lt {tk : Nat → Int} {n_s a_s k_s : Nat} {v_s : Int32} (hn : ∀ k_s, n_s ≤ k_s → tk k_s = -1) (ha_s : a_s ≤ n_s) (c_s : 48 ≤ tk a_s ∧ tk a_s ≤ 57) : a_s < (pdg tk (k_s + 1) a_s v_s).1 := by
  unfold pdg
  rw [if_pos c_s]
  have hl : a_s < n_s := by
    by_cases e_s : n_s ≤ a_s
    · have e1_s := hn a_s e_s
      omega
    · omega
  have ih_s := pdg_le hn k_s (a_s + 1) (v_s * 10 + Int32.ofInt (tk a_s) - 48) hl
  omega
theorem tkF_out {f_s : Nat → Nat → Int32} {n_s : Nat} (hn : (f_s 40 1).toInt = (n_s : Int)) : ∀ k_s, n_s ≤ k_s → tkF f_s k_s = -1 := by
  intro k_s hk
  unfold tkF
  rw [if_neg (by omega)]
theorem ofI_ {c_s : Int32} {z_s : Int} (hc_s : c_s.toInt = z_s) : Int32.ofInt z_s = c_s := by
  rw [← hc_s]
  exact Int32.ofInt_toInt c_s
theorem fin67 {F_s : Nat} {h_s : zH} {K_s : Int32 → zH → Prop} {q_s len_s a_s : Nat} {f_s f0_s : Nat → Nat → Int32} {v_s : Int32} (hm_s : q_s = 14 ∨ q_s = 17) (hk : hKn h_s) (hb_s : len_s + 1 < 242) (hl : (f_s q_s 2).toInt = (len_s : Int)) (ha_s : (f_s 40 2).toInt = (a_s : Int)) (hf : ∀ o k_s, ¬ (o = 40 ∧ k_s = 2) → f_s o k_s = f0_s o k_s) (t_s : ∀ f1_s, (f1_s 40 2).toInt = (a_s : Int) → f1_s (q_s + 1) len_s = 48 → f1_s (q_s + 1) (len_s + 1) = v_s → (f1_s q_s 2).toInt = ((len_s + 2 : Nat) : Int) → (∀ o k_s, ¬ (o = 40 ∧ k_s = 2) → ¬ (o = q_s + 1 ∧ len_s ≤ k_s) → ¬ (o = q_s ∧ k_s = 2) → f1_s o k_s = f0_s o k_s) → K_s 1 (h_s.1, f1_s, h_s.2.2.1, h_s.2.2.2)) : wF F_s 54 (0, [some (.ref q_s), some (.int 48)], [], (h_s.1, f_s, h_s.2.2.1, h_s.2.2.2)) (gV (fun h5 => hKn h5 → wF F_s 54 (0, [some (.ref q_s), some (.int v_s)], [], h5) (gV (fun h6 => hKn h6 → K_s 1 h6)))) := by
  refine sp_54 (h_s := (h_s.1, f_s, h_s.2.2.1, h_s.2.2.2)) (len_s := len_s) hm_s hk hl (by omega) (fun f1_s b1 b2 b3 hk1 => ?_)
  refine sp_54 (len_s := len_s + 1) hm_s hk1 b2 hb_s (fun f2_s d1_s d2_s d3_s _ => t_s f2_s ?_ ?_ ?_ ?_ ?_)
  · rw [d3_s 40 2 (by omega) (by omega)]
    show (f1_s 40 2).toInt = _
    rw [b3 40 2 (by omega) (by omega)]
    exact ha_s
  · rw [d3_s (q_s + 1) len_s (by omega) (by omega)]
    exact b1
  · exact d1_s
  · omega
  · intro o k_s h1 h2 h3
    rw [d3_s o k_s (by omega) (by omega)]
    show f1_s o k_s = _
    rw [b3 o k_s (by omega) (by omega)]
    exact hf o k_s h1
theorem num67 {h_s : zH} {K_s : Int32 → zH → Prop} {q_s len_s n_s a1_s : Nat} {v1_s : Int32} {tk : Nat → Int} {f0_s : Nat → Nat → Int32} (hm_s : q_s = 14 ∨ q_s = 17) (hk : hKn h_s) (hb_s : len_s + 1 < 242) (hn : n_s ≤ 120) (t_s : ∀ f1_s, (f1_s 40 2).toInt = (a1_s : Int) → f1_s (q_s + 1) len_s = 48 → f1_s (q_s + 1) (len_s + 1) = v1_s → (f1_s q_s 2).toInt = ((len_s + 2 : Nat) : Int) → (∀ o k_s, ¬ (o = 40 ∧ k_s = 2) → ¬ (o = q_s + 1 ∧ len_s ≤ k_s) → ¬ (o = q_s ∧ k_s = 2) → f1_s o k_s = f0_s o k_s) → K_s 1 (h_s.1, f1_s, h_s.2.2.1, h_s.2.2.2)) : ∀ (F_s k_s a_s : Nat) (v_s x3 : Int32) (f_s : Nat → Nat → Int32), x3.toInt = (k_s : Int) → k_s ≤ 4 → (f_s 40 2).toInt = (a_s : Int) → a_s ≤ n_s → (f_s 40 1).toInt = (n_s : Int) → tkF f_s = tk → (f_s q_s 2).toInt = (len_s : Int) → (∀ o k_s, ¬ (o = 40 ∧ k_s = 2) → f_s o k_s = f0_s o k_s) → pdg tk (4 - k_s) a_s v_s = (a1_s, v1_s) → wF F_s 67 (4, [some (.ref 40), some (.ref q_s), some (.int v_s), some (.int x3)], [], (h_s.1, f_s, h_s.2.2.1, h_s.2.2.2)) (gI K_s)
  | 0, _, _, _, _, _, _, _, _, _, _, _, _, _, _ => wF_zero
  | F_s + 1, k_s, a_s, v_s, x3, f_s, hx, h4, ha_s, han, hfn, htk, hl, hf, hp => by
    have ht : tk a_s = tkF f_s a_s := by rw [htk]
    refine sg_67_4 (h_s := (h_s.1, f_s, h_s.2.2.1, h_s.2.2.2)) hm_s hk ⟨fun c1_s => ?_, fun c1_s => ?_⟩
    · have e4_s : 4 - k_s = (4 - (k_s + 1)) + 1 := by omega
      rw [e4_s] at hp
      unfold pdg at hp
      refine sp_68 (h_s := (h_s.1, f_s, h_s.2.2.1, h_s.2.2.2)) hk ha_s (fun c_s hc_s _ => ?_)
      have hc_s : c_s.toInt = tkF f_s a_s := hc_s
      refine sp_70 (h_s := (h_s.1, f_s, h_s.2.2.1, h_s.2.2.2)) hk (fun d_s _ => ⟨fun _ => ?_, fun w_s => absurd rfl w_s⟩) (fun d_s _ => ⟨fun w_s => absurd w_s (by decide), fun _ => ?_⟩)
      · rw [if_neg (by omega)] at hp
        cases hp
        exact fin67 hm_s hk hb_s hl ha_s hf t_s
      · rw [if_pos (by omega)] at hp
        refine sp_68 (h_s := (h_s.1, f_s, h_s.2.2.1, h_s.2.2.2)) hk ha_s (fun c2_s hc2 _ => ?_)
        have hc2 : c2_s.toInt = tkF f_s a_s := hc2
        have hlt : a_s < n_s := by
          by_cases e_s : n_s ≤ a_s
          · have e1_s := tkF_out hfn a_s e_s
            omega
          · omega
        refine num67 (tk := tk) hm_s hk hb_s hn t_s F_s (k_s + 1) (a_s + 1) _ (x3 + 1) (zup f_s 40 2 (f_s 40 2 + 1)) ?_ (by omega) ?_ hlt ?_ ?_ ?_ ?_ ?_
        · rw [in1_ (by omega)]
          omega
        · rw [zsame_up, in1_ (by omega)]
          omega
        · rw [zne_up (by omega)]
          exact hfn
        · rw [← htk]
          exact tkF_eq (zne_up (by omega)) (fun j_s => zne_up (by omega))
        · rw [zne_up (by omega)]
          exact hl
        · intro o j_s hq
          rw [zne_up hq]
          exact hf o j_s hq
        · rw [ht, ofI_ hc2] at hp
          exact hp
    · have e4_s : 4 - k_s = 0 := by omega
      rw [e4_s] at hp
      have hp : (a_s, v_s) = (a1_s, v1_s) := hp
      cases hp
      exact fin67 hm_s hk hb_s hl ha_s hf t_s
/-! THE CLASS READS A TEXT: levels and operands. -/
theorem zget_apd {α : Type} {d_s : α} : ∀ {l1 l2 : List α} {j_s : Nat}, zget (l1 ++ l2) j_s = some d_s → (j_s < l1.length ∧ zget l1 j_s = some d_s) ∨ (l1.length ≤ j_s ∧ zget l2 (j_s - l1.length) = some d_s)
  | [], _, _, hq => Or.inr ⟨Nat.zero_le _, hq⟩
  | a_s :: l1, l2, 0, hq => Or.inl ⟨Nat.zero_lt_succ _, hq⟩
  | a_s :: l1, l2, j_s + 1, hq => by
    rcases zget_apd (l1 := l1) (l2 := l2) (j_s := j_s) hq with ⟨e1_s, e2_s⟩ | ⟨e1_s, e2_s⟩
    · exact Or.inl ⟨Nat.succ_lt_succ e1_s, e2_s⟩
    · refine Or.inr ⟨Nat.succ_le_succ e1_s, ?_⟩
      rw [List.length_cons, Nat.succ_sub_succ]
      exact e2_s
noncomputable def frC (q_s len_s : Nat) (f_s f1_s : Nat → Nat → Int32) : Prop := ∀ o k_s, ¬ (o = 40 ∧ k_s = 2) → ¬ (o = q_s ∧ k_s ≤ 2) → ¬ (o = q_s + 1 ∧ len_s ≤ k_s) → f1_s o k_s = f_s o k_s
noncomputable def qC (q_s len_s a0_s : Nat) (m0_s : Int32) (f_s : Nat → Nat → Int32) (z_s : pA) (a_s : Nat) : Prop := (f_s 40 2).toInt = (a_s : Int) ∧ (f_s q_s 2).toInt = ((len_s + z_s.1.length : Nat) : Int) ∧ z_s.1.length + 2 * a0_s ≤ 2 * a_s ∧ (∀ j_s c_s, zget z_s.1 j_s = some c_s → f_s (q_s + 1) (len_s + j_s) = c_s) ∧ f_s q_s 0 = (if z_s.2.2 then 1 else m0_s)
noncomputable def poC (q_s len_s a0_s n_s : Nat) (m0_s : Int32) (f1_s : Nat → Nat → Int32) (v_s : Int32) : pR → Prop
  | .inl e_s => v_s = 0 ∧ (f1_s 40 2).toInt = (e_s : Int)
  | .inr p_s => v_s = 1 ∧ a0_s < p_s.1 ∧ p_s.1 ≤ n_s ∧ qC q_s len_s a0_s m0_s f1_s p_s.2 p_s.1
noncomputable def prC (q_s n_s len_s a_s : Nat) (f_s : Nat → Nat → Int32) : Prop := (f_s 40 2).toInt = (a_s : Int) ∧ a_s ≤ n_s ∧ (f_s 40 1).toInt = (n_s : Int) ∧ n_s ≤ 120 ∧ (f_s q_s 2).toInt = (len_s : Int) ∧ len_s ≤ 2 * a_s
noncomputable def C65 (F_s : Nat) : Prop := ∀ (h_s : zH) (K_s : Int32 → zH → Prop) (q_s n_s len_s m_s op_s a_s : Nat) (x2_s x3 : Int32) (f_s : Nat → Nat → Int32), (q_s = 14 ∨ q_s = 17) → hKn h_s → x2_s.toInt = (m_s : Int) → m_s ≤ 5 → x3.toInt = (op_s : Int) → op_s ≤ 6 → prC q_s n_s len_s a_s f_s → (∀ v_s f1_s, frC q_s len_s f_s f1_s → (∃ r_s, pP (tkF f_s) m_s op_s a_s pz0 r_s ∧ poC q_s len_s a_s n_s (f_s q_s 0) f1_s v_s r_s) → K_s v_s (h_s.1, f1_s, h_s.2.2.1, h_s.2.2.2)) → wF F_s 65 (0, [some (.ref 40), some (.ref q_s), some (.int x2_s), some (.int x3), none, none, none], [], (h_s.1, f_s, h_s.2.2.1, h_s.2.2.2)) (gI K_s)
noncomputable def C66 (F_s : Nat) : Prop := ∀ (h_s : zH) (K_s : Int32 → zH → Prop) (q_s n_s len_s op_s a_s : Nat) (x3 : Int32) (f_s : Nat → Nat → Int32), (q_s = 14 ∨ q_s = 17) → hKn h_s → x3.toInt = (op_s : Int) → op_s ≤ 6 → prC q_s n_s len_s a_s f_s → (∀ v_s f1_s, frC q_s len_s f_s f1_s → (∃ r_s, pP (tkF f_s) 5 op_s a_s pz0 r_s ∧ poC q_s len_s a_s n_s (f_s q_s 0) f1_s v_s r_s) → K_s v_s (h_s.1, f1_s, h_s.2.2.1, h_s.2.2.2)) → wF F_s 66 (0, [some (.ref 40), some (.ref q_s), some (.int x3), none, none], [], (h_s.1, f_s, h_s.2.2.1, h_s.2.2.2)) (gI K_s)
noncomputable def C42 (F_s : Nat) : Prop := ∀ (h_s : zH) (K_s : Int32 → zH → Prop) (q_s n_s len_s a0_s m_s op_s a_s s_s : Nat) (x2_s x3 x4_s x5_s m0_s : Int32) (l6 : Option Value) (f0_s f_s : Nat → Nat → Int32) (z_s : pA), (q_s = 14 ∨ q_s = 17) → hKn h_s → x2_s.toInt = (m_s : Int) → m_s < 5 → x3.toInt = (op_s : Int) → op_s ≤ 6 → x4_s.toInt = (if m_s = 2 then 1 else 120) → x5_s.toInt = (s_s : Int) → (m_s = 2 → s_s ≤ 1) → a0_s + 2 * s_s < a_s → a_s ≤ n_s → (f_s 40 1).toInt = (n_s : Int) → n_s ≤ 120 → len_s ≤ 2 * a0_s → frC q_s len_s f0_s f_s → qC q_s len_s a0_s m0_s f_s z_s a_s → (∀ v_s f1_s, frC q_s len_s f0_s f1_s → (∃ r_s, ((m_s = 2 ∧ s_s = 1 ∧ r_s = .inr (a_s, z_s)) ∨ (¬ (m_s = 2 ∧ s_s = 1) ∧ pP (tkF f_s) (m_s + 6) op_s a_s z_s r_s)) ∧ poC q_s len_s a0_s n_s m0_s f1_s v_s r_s) → K_s v_s (h_s.1, f1_s, h_s.2.2.1, h_s.2.2.2)) → wF F_s 65 (42, [some (.ref 40), some (.ref q_s), some (.int x2_s), some (.int x3), some (.int x4_s), some (.int x5_s), l6], [], (h_s.1, f_s, h_s.2.2.1, h_s.2.2.2)) (gI K_s)
theorem frC_tk {q_s len_s : Nat} {f_s f1_s : Nat → Nat → Int32} (hm_s : q_s = 14 ∨ q_s = 17) (hf : frC q_s len_s f_s f1_s) : tkF f1_s = tkF f_s := tkF_eq (hf 40 1 (by omega) (by omega) (by omega)) (fun k_s => hf 41 k_s (by omega) (by omega) (by omega))
theorem up_tk {f_s : Nat → Nat → Int32} {x_s : Int32} : tkF (zup f_s 40 2 x_s) = tkF f_s := tkF_eq (zne_up (by omega)) (fun k_s => zne_up (by omega))
theorem lvl_m1 : lvl (-1) = -1 := rfl
theorem c42_s {F_s : Nat} (i65 : C65 F_s) (i42 : C42 F_s) : C42 (F_s + 1) := by
  intro h_s K_s q_s n_s len_s a0_s m_s op_s a_s s_s x2_s x3 x4_s x5_s m0_s l6 f0_s f_s z_s hm_s hk hx2 m5_s hx3 ho hx4 hx5 hs2 has_s han hfn hn hl0 hf0 qz t_s
  obtain ⟨q1_s, q2_s, q3_s, q4_s, q5_s⟩ := qz
  refine sg_65_42 (h_s := (h_s.1, f_s, h_s.2.2.1, h_s.2.2.2)) hm_s hk ⟨fun c1_s => ?_, fun c1_s => ?_⟩
  · have ns : ¬ (m_s = 2 ∧ s_s = 1) := fun w_s => by
      rw [if_pos w_s.1] at hx4
      omega
    refine sp_68 (h_s := (h_s.1, f_s, h_s.2.2.1, h_s.2.2.2)) hk q1_s (fun c_s hc_s _ => ?_)
    have hc_s : c_s.toInt = tkF f_s a_s := hc_s
    refine sp_72 (h_s := (h_s.1, f_s, h_s.2.2.1, h_s.2.2.2)) hk (fun w_s hw _ => ⟨fun e_s => ?_, fun e_s => ?_⟩)
    · have hlv : lvl (tkF f_s a_s) = (m_s : Int) := by rw [← hc_s, ← hw]; omega
      have hlt : a_s < n_s := by
        by_cases e1_s : n_s ≤ a_s
        · rw [tkF_out hfn a_s e1_s, lvl_m1] at hlv
          omega
        · omega
      have hlv6 : lvl (tkF f_s a_s) = ((m_s + 6 : Nat) : Int) - 6 := by rw [hlv]; omega
      refine i65 h_s _ q_s n_s (len_s + z_s.1.length) (m_s + 1) op_s (a_s + 1) (x2_s + 1) x3 (zup f_s 40 2 (f_s 40 2 + 1)) hm_s hk ?_ (by omega) hx3 ho ⟨?_, hlt, ?_, hn, ?_, by omega⟩ (fun v_s f1_s fr1 hr _ => ?_)
      · rw [in1_ (by omega)]
        omega
      · rw [zsame_up, in1_ (by omega)]
        omega
      · rw [zne_up (by omega)]
        exact hfn
      · rw [zne_up (by omega)]
        exact q2_s
      · obtain ⟨r_s, hp, hpo⟩ := hr
        rw [up_tk] at hp
        have fr2 : frC q_s len_s f0_s f1_s := by
          intro o k_s g1 g2 g3_s
          rw [fr1 o k_s g1 g2 (by omega), zne_up g1]
          exact hf0 o k_s g1 g2 g3_s
        match r_s, hp, hpo with
        | .inl e9_s, hp, hpo =>
          obtain ⟨rfl, hpz⟩ := hpo
          exact ⟨fun _ => t_s 0 f1_s fr2 ⟨.inl e9_s, Or.inr ⟨ns, pP_sgF (by omega) hlv6 (by rw [show m_s + 6 - 5 = m_s + 1 by omega]; exact hp)⟩, rfl, hpz⟩, fun w_s => absurd rfl w_s⟩
        | .inr p_s, hp, hpo =>
          obtain ⟨rfl, p1_s, p2_s, p3_s, p4_s, p5_s, p6_s, p7_s⟩ := hpo
          rw [zne_up (by omega), q5_s] at p7_s
          refine ⟨fun w_s => absurd w_s (by decide), fun _ => ?_⟩
          refine sp_54 (h_s := (h_s.1, f1_s, h_s.2.2.1, h_s.2.2.2)) (len_s := len_s + z_s.1.length + p_s.2.1.length) hm_s hk p4_s (by omega) (fun f2_s b1 b2 b3 _ => ?_)
          have fr3 : frC q_s len_s f0_s f2_s := by
            intro o k_s g1 g2 g3_s
            rw [b3 o k_s (by omega) (by omega)]
            exact fr2 o k_s g1 g2 g3_s
          have tk2 : tkF f2_s = tkF f_s := (frC_tk hm_s fr3).trans (frC_tk hm_s hf0).symm
          refine i42 h_s K_s q_s n_s len_s a0_s m_s op_s p_s.1 (s_s + 1) x2_s x3 x4_s (x5_s + 1) m0_s _ f0_s f2_s (pjn z_s (tkF f_s a_s) p_s.2) hm_s hk hx2 m5_s hx3 ho hx4 ?_ ?_ ?_ p2_s ?_ hn hl0 fr3 ⟨?_, ?_, ?_, ?_, ?_⟩ (fun v_s f3_s fr4 hr => t_s v_s f3_s fr4 ?_)
          · have b120 : x4_s.toInt ≤ 120 := by
              rw [hx4]
              split <;> omega
            rw [in1_ (by omega)]
            omega
          · intro w_s
            rw [if_pos w_s] at hx4
            omega
          · omega
          · rw [fr3 40 1 (by omega) (by omega) (by omega), ← hf0 40 1 (by omega) (by omega) (by omega)]
            exact hfn
          · rw [b3 40 2 (by omega) (by omega)]
            exact p3_s
          · unfold pjn
            simp only [List.length_append, List.length_cons, List.length_nil]
            omega
          · unfold pjn
            simp only [List.length_append, List.length_cons, List.length_nil]
            omega
          · intro j_s d_s hj
            unfold pjn at hj
            rcases zget_apd hj with ⟨j1, j2_s⟩ | ⟨j1, j2_s⟩
            · rw [b3 _ _ (by omega) (by omega)]
              show f1_s (q_s + 1) (len_s + j_s) = d_s
              rw [fr1 _ _ (by omega) (by omega) (by omega), zne_up (by omega)]
              exact q4_s j_s d_s j2_s
            · rcases zget_apd j2_s with ⟨j3_s, j4_s⟩ | ⟨j3_s, j4_s⟩
              · rw [b3 _ _ (by omega) (by omega)]
                have u_s := p6_s (j_s - z_s.1.length) d_s j4_s
                rw [show len_s + z_s.1.length + (j_s - z_s.1.length) = len_s + j_s by omega] at u_s
                exact u_s
              · have e7_s : j_s - z_s.1.length - p_s.2.1.length = 0 := by
                  match h7 : j_s - z_s.1.length - p_s.2.1.length, j4_s with
                  | 0, _ => rfl
                  | _ + 1, j4_s => cases j4_s
                rw [e7_s] at j4_s
                have j5_s : some (Int32.ofInt (tkF f_s a_s)) = some d_s := j4_s
                cases j5_s
                rw [show len_s + j_s = len_s + z_s.1.length + p_s.2.1.length by omega, b1, ofI_ hc_s]
          · rw [b3 _ _ (by omega) (by omega)]
            show f1_s q_s 0 = _
            rw [p7_s]
            unfold pjn
            cases z_s.2.2 <;> cases p_s.2.2.2 <;> rfl
          · obtain ⟨r_s, hr, hpo⟩ := hr
            refine ⟨r_s, Or.inr ⟨ns, ?_⟩, hpo⟩
            rcases hr with ⟨g1, g2, g3_s⟩ | ⟨g1, g2⟩
            · subst g1
              subst g3_s
              exact pP_sg8 hlv hp
            · rw [tk2] at g2
              by_cases e2_s : m_s = 2
              · exact absurd ⟨e2_s, by
                  rw [if_pos e2_s] at hx4
                  omega⟩ g1
              · exact pP_sg (by omega) (by omega) hlv6 (by rw [show m_s + 6 - 5 = m_s + 1 by omega]; exact hp) g2
    · refine t_s 1 f_s hf0 ⟨.inr (a_s, z_s), Or.inr ⟨ns, pP_end (by omega) ?_⟩, rfl, by omega, han, q1_s, q2_s, q3_s, q4_s, q5_s⟩
      rw [← hc_s, ← hw]
      omega
  · have e2_s : m_s = 2 ∧ s_s = 1 := by
      by_cases e2_s : m_s = 2
      · have := hs2 e2_s
        rw [if_pos e2_s] at hx4
        omega
      · rw [if_neg e2_s] at hx4
        omega
    exact t_s 1 f_s hf0 ⟨.inr (a_s, z_s), Or.inl ⟨e2_s.1, e2_s.2, rfl⟩, rfl, by omega, han, q1_s, q2_s, q3_s, q4_s, q5_s⟩
theorem c65_s {F_s : Nat} (i65 : C65 F_s) (i66 : C66 F_s) (i42 : C42 F_s) : C65 (F_s + 1) := by
  intro h_s K_s q_s n_s len_s m_s op_s a_s x2_s x3 f_s hm_s hk hx2 m5_s hx3 ho hp0 t_s
  obtain ⟨p1_s, p2_s, p3_s, p4_s, p5_s, p6_s⟩ := hp0
  refine sg_65_0 (h_s := (h_s.1, f_s, h_s.2.2.1, h_s.2.2.2)) hm_s hk ⟨fun c1_s => ?_, fun c1_s => ?_⟩
  · refine i65 h_s _ q_s n_s len_s (m_s + 1) op_s a_s (x2_s + 1) x3 f_s hm_s hk ?_ (by omega) hx3 ho ⟨p1_s, p2_s, p3_s, p4_s, p5_s, p6_s⟩ (fun v_s f1_s fr1 hr _ => ?_)
    · rw [in1_ (by omega)]
      omega
    · obtain ⟨r_s, hp, hpo⟩ := hr
      match r_s, hp, hpo with
      | .inl e9_s, hp, hpo =>
        obtain ⟨rfl, hpz⟩ := hpo
        exact ⟨fun _ => t_s 0 f1_s fr1 ⟨.inl e9_s, pP_levF (by omega) hp, rfl, hpz⟩, fun w_s => absurd rfl w_s⟩
      | .inr p_s, hp, hpo =>
        obtain ⟨rfl, g1, g2, g3_s⟩ := hpo
        have fn1 : (f1_s 40 1).toInt = (n_s : Int) := by
          rw [fr1 40 1 (by omega) (by omega) (by omega)]
          exact p3_s
        have key_s : ∀ v_s f2_s, frC q_s len_s f_s f2_s → (∃ r_s, ((m_s = 2 ∧ 0 = 1 ∧ r_s = .inr (p_s.1, p_s.2)) ∨ (¬ (m_s = 2 ∧ 0 = 1) ∧ pP (tkF f1_s) (m_s + 6) op_s p_s.1 p_s.2 r_s)) ∧ poC q_s len_s a_s n_s (f_s q_s 0) f2_s v_s r_s) → K_s v_s (h_s.1, f2_s, h_s.2.2.1, h_s.2.2.2) := by
          intro v_s f2_s fr2 hr
          obtain ⟨r_s, hr, hpo⟩ := hr
          refine t_s v_s f2_s fr2 ⟨r_s, ?_, hpo⟩
          rcases hr with ⟨_, w_s, _⟩ | ⟨_, w_s⟩
          · omega
          · rw [frC_tk hm_s fr1] at w_s
            exact pP_lev (by omega) hp w_s
        refine ⟨fun w_s => absurd w_s (by decide), fun _ => ⟨fun e2_s => ?_, fun e2_s => ?_⟩⟩
        · exact i42 h_s K_s q_s n_s len_s a_s m_s op_s p_s.1 0 x2_s x3 1 0 (f_s q_s 0) none f_s f1_s p_s.2 hm_s hk hx2 (by omega) hx3 ho (by rw [if_pos (by omega)]; rfl) rfl (fun _ => by omega) (by omega) g2 fn1 p4_s p6_s fr1 g3_s key_s
        · exact i42 h_s K_s q_s n_s len_s a_s m_s op_s p_s.1 0 x2_s x3 120 0 (f_s q_s 0) none f_s f1_s p_s.2 hm_s hk hx2 (by omega) hx3 ho (by rw [if_neg (by omega)]; rfl) rfl (fun _ => by omega) (by omega) g2 fn1 p4_s p6_s fr1 g3_s key_s
  · have e5_s : m_s = 5 := by omega
    subst e5_s
    exact i66 h_s _ q_s n_s len_s op_s a_s x3 f_s hm_s hk hx3 ho ⟨p1_s, p2_s, p3_s, p4_s, p5_s, p6_s⟩ (fun v_s f1_s fr1 hr _ => t_s v_s f1_s fr1 hr)
/-! THE CLASS READS A TEXT: operands; all of a text. -/
theorem c66_s {F_s : Nat} (i65 : C65 F_s) (i66 : C66 F_s) : C66 (F_s + 1) := by
  intro h_s K_s q_s n_s len_s op_s a_s x3 f_s hm_s hk hx3 ho hp0 t_s
  obtain ⟨p1_s, p2_s, p3_s, p4_s, p5_s, p6_s⟩ := hp0
  refine sg_66_0 (h_s := (h_s.1, f_s, h_s.2.2.1, h_s.2.2.2)) hm_s hk ?_
  refine sp_68 (h_s := (h_s.1, f_s, h_s.2.2.1, h_s.2.2.2)) hk p1_s (fun c_s hc_s _ => ?_)
  have hc_s : c_s.toInt = tkF f_s a_s := hc_s
  have hlt : tkF f_s a_s ≠ -1 → a_s < n_s := fun w_s => by
    by_cases e1_s : n_s ≤ a_s
    · exact absurd (tkF_out p3_s a_s e1_s) w_s
    · omega
  refine sp_70 (h_s := (h_s.1, f_s, h_s.2.2.1, h_s.2.2.2)) hk (fun d_s _ => ⟨fun _ => ?_, fun w_s => absurd rfl w_s⟩) (fun d_s _ => ⟨fun w_s => absurd w_s (by decide), fun _ => ?_⟩)
  · have hd_s : ¬ (48 ≤ tkF f_s a_s ∧ tkF f_s a_s ≤ 57) := by omega
    refine sp_71 (h_s := (h_s.1, f_s, h_s.2.2.1, h_s.2.2.2)) hk (fun kn_s hkn _ => ⟨fun e_s => ?_, fun e_s => ?_⟩)
    · have hn0 : ¬ 0 ≤ nmo (tkF f_s a_s) := by
        rw [← hc_s, ← hkn]
        omega
      have flt_s : (¬ (tkF f_s a_s = 40 ∨ tkF f_s a_s = 33 ∨ tkF f_s a_s = 45) ∨ 6 ≤ op_s) → K_s 0 (h_s.1, f_s, h_s.2.2.1, h_s.2.2.2) := fun w_s => t_s 0 f_s (fun _ _ _ _ _ => rfl) ⟨.inl a_s, pP_bad hd_s hn0 w_s, rfl, p1_s⟩
      have un : ∀ x9 : Int32, (if tkF f_s a_s = 33 then (33 : Int32) else 126) = x9 → (tkF f_s a_s = 33 ∨ tkF f_s a_s = 45) → op_s < 6 → wF F_s 66 (0, [some (.ref 40), some (.ref q_s), some (.int (x3 + 1)), none, none], [], (h_s.1, zup f_s 40 2 (f_s 40 2 + 1), h_s.2.2.1, h_s.2.2.2)) (gI (fun v15 h15 => hKn h15 → (v15.toInt = 0 → K_s 0 h15) ∧ (¬ v15.toInt = 0 → wF F_s 54 (0, [some (.ref q_s), some (.int x9)], [], h15) (gV (fun h18 => hKn h18 → K_s 1 h18))))) := by
        intro x9 hx9 h33 ho6
        have hl1 := hlt (by omega)
        refine i66 h_s _ q_s n_s len_s (op_s + 1) (a_s + 1) (x3 + 1) (zup f_s 40 2 (f_s 40 2 + 1)) hm_s hk ?_ (by omega) ⟨?_, hl1, ?_, p4_s, ?_, by omega⟩ (fun v_s f1_s fr1 hr _ => ?_)
        · rw [in1_ (by omega)]
          omega
        · rw [zsame_up, in1_ (by omega)]
          omega
        · rw [zne_up (by omega)]
          exact p3_s
        · rw [zne_up (by omega)]
          exact p5_s
        · obtain ⟨r_s, hp, hpo⟩ := hr
          rw [up_tk] at hp
          have fr2 : frC q_s len_s f_s f1_s := by
            intro o k_s g1 g2 g3_s
            rw [fr1 o k_s g1 g2 g3_s, zne_up g1]
          match r_s, hp, hpo with
          | .inl e9_s, hp, hpo =>
            obtain ⟨rfl, hpz⟩ := hpo
            exact ⟨fun _ => t_s 0 f1_s fr2 ⟨.inl e9_s, pP_unF h33 ho6 hp, rfl, hpz⟩, fun w_s => absurd rfl w_s⟩
          | .inr p_s, hp, hpo =>
            obtain ⟨rfl, g1, g2, g3_s, g4, g5_s, g6, g7⟩ := hpo
            rw [zne_up (by omega)] at g7
            refine ⟨fun w_s => absurd w_s (by decide), fun _ => ?_⟩
            refine sp_54 (h_s := (h_s.1, f1_s, h_s.2.2.1, h_s.2.2.2)) (len_s := len_s + p_s.2.1.length) hm_s hk g4 (by omega) (fun f2_s b1 b2 b3 _ => ?_)
            refine t_s 1 f2_s ?_ ⟨.inr (p_s.1, pun (tkF f_s a_s) p_s.2), pP_un h33 ho6 hp, rfl, by omega, g2, ?_, ?_, ?_, ?_, ?_⟩
            · intro o k_s u1_s u2_s u3
              rw [b3 o k_s (by omega) (by omega)]
              exact fr2 o k_s u1_s u2_s u3
            · rw [b3 40 2 (by omega) (by omega)]
              exact g3_s
            · unfold pun
              simp only [List.length_append, List.length_cons, List.length_nil]
              omega
            · unfold pun
              simp only [List.length_append, List.length_cons, List.length_nil]
              omega
            · intro j_s d_s hj
              unfold pun at hj
              rcases zget_apd hj with ⟨j1, j2_s⟩ | ⟨j1, j2_s⟩
              · rw [b3 _ _ (by omega) (by omega)]
                exact g6 j_s d_s j2_s
              · have e7_s : j_s - p_s.2.1.length = 0 := by
                  match h7 : j_s - p_s.2.1.length, j2_s with
                  | 0, _ => rfl
                  | _ + 1, j2_s => cases j2_s
                rw [e7_s] at j2_s
                have j5_s : some (if tkF f_s a_s = 33 then (33 : Int32) else 126) = some d_s := j2_s
                rw [hx9] at j5_s
                cases j5_s
                rw [show len_s + j_s = len_s + p_s.2.1.length by omega, b1]
            · rw [b3 _ _ (by omega) (by omega)]
              exact g7
      refine ⟨fun e1_s => ⟨fun e2_s => ?_, fun e2_s => flt_s (by omega)⟩, fun e1_s => ⟨fun e3_s => ⟨fun e2_s => ?_, fun e2_s => flt_s (by omega)⟩, fun e3_s => ⟨fun e4_s => ⟨fun e2_s => ?_, fun e2_s => flt_s (by omega)⟩, fun e4_s => flt_s (by omega)⟩⟩⟩
      · have h40 : tkF f_s a_s = 40 := by omega
        have hl1 := hlt (by omega)
        have ho6 : op_s < 6 := by omega
        refine i65 h_s _ q_s n_s len_s 0 (op_s + 1) (a_s + 1) 0 (x3 + 1) (zup f_s 40 2 (f_s 40 2 + 1)) hm_s hk rfl (by omega) ?_ (by omega) ⟨?_, hl1, ?_, p4_s, ?_, by omega⟩ (fun v_s f1_s fr1 hr _ => ?_)
        · rw [in1_ (by omega)]
          omega
        · rw [zsame_up, in1_ (by omega)]
          omega
        · rw [zne_up (by omega)]
          exact p3_s
        · rw [zne_up (by omega)]
          exact p5_s
        · obtain ⟨r_s, hp, hpo⟩ := hr
          rw [up_tk] at hp
          have fr2 : frC q_s len_s f_s f1_s := by
            intro o k_s g1 g2 g3_s
            rw [fr1 o k_s g1 g2 g3_s, zne_up g1]
          have tk1 : tkF f1_s = tkF f_s := frC_tk hm_s fr2
          have fn1 : (f1_s 40 1).toInt = (n_s : Int) := by
            rw [fr2 40 1 (by omega) (by omega) (by omega)]
            exact p3_s
          match r_s, hp, hpo with
          | .inl e9_s, hp, hpo =>
            obtain ⟨rfl, hpz⟩ := hpo
            exact ⟨fun _ => t_s 0 f1_s fr2 ⟨.inl e9_s, pP_parF h40 ho6 hp, rfl, hpz⟩, fun w_s => absurd rfl w_s⟩
          | .inr p_s, hp, hpo =>
            obtain ⟨rfl, g1, g2, g3_s, g4, g5_s, g6, g7⟩ := hpo
            rw [zne_up (by omega)] at g7
            refine ⟨fun w_s => absurd w_s (by decide), fun _ => ?_⟩
            refine sp_69 (h_s := (h_s.1, f1_s, h_s.2.2.1, h_s.2.2.2)) (a_s := p_s.1) hk g3_s (by omega) (fun c9_s f2_s b1 b2 _ => ⟨fun w_s => absurd w_s (by decide), fun _ => ?_⟩) (fun c9_s _ => ⟨fun _ => ?_, fun w_s => absurd rfl w_s⟩)
            · have c9_s : tkF f1_s p_s.1 = 41 := c9_s
              have b2 : ∀ o k_s, ¬ (o = 40 ∧ k_s = 2) → f2_s o k_s = f1_s o k_s := b2
              have hl2 : p_s.1 < n_s := by
                by_cases e7_s : n_s ≤ p_s.1
                · have := tkF_out fn1 p_s.1 e7_s
                  omega
                · omega
              refine t_s 1 f2_s ?_ ⟨.inr (p_s.1 + 1, p_s.2), pP_par h40 ho6 hp (by rw [← tk1]; exact c9_s), rfl, by omega, hl2, b1, ?_, (by show p_s.2.1.length + 2 * a_s ≤ 2 * (p_s.1 + 1); omega), ?_, ?_⟩
              · intro o k_s u1_s u2_s u3
                rw [b2 o k_s u1_s]
                exact fr2 o k_s u1_s u2_s u3
              · rw [b2 _ _ (by omega)]
                exact g4
              · intro j_s d_s hj
                rw [b2 _ _ (by omega)]
                exact g6 j_s d_s hj
              · rw [b2 _ _ (by omega)]
                exact g7
            · exact t_s 0 f1_s fr2 ⟨.inl p_s.1, pP_parN h40 ho6 hp (by rw [← tk1]; exact c9_s), rfl, g3_s⟩
      · exact un 33 (by rw [if_pos (by omega)]) (by omega) (by omega)
      · exact un 126 (by rw [if_neg (by omega)]) (by omega) (by omega)
    · have hn0 : 0 ≤ nmo (tkF f_s a_s) := by
        rw [← hc_s, ← hkn]
        omega
      have hl1 := hlt (fun w_s => by
        rw [w_s] at hn0
        exact absurd hn0 (by decide))
      refine sp_55 (h_s := (h_s.1, f_s, h_s.2.2.1, h_s.2.2.2)) (len_s := len_s) hm_s hk p5_s (by omega) (fun f1_s b1 b2 b3 b4 b5 _ => ?_)
      have b5 : ∀ o k_s, ¬ (o = q_s + 1 ∧ len_s ≤ k_s) → ¬ (o = q_s ∧ k_s ≤ 2) → f1_s o k_s = f_s o k_s := b5
      have e40 : f1_s 40 2 = f_s 40 2 := b5 40 2 (by omega) (by omega)
      refine t_s 1 (zup f1_s 40 2 (f1_s 40 2 + 1)) ?_ ⟨_, pP_nam hd_s hn0, rfl, by omega, hl1, ?_, ?_, ?_, ?_, ?_⟩
      · intro o k_s u1_s u2_s u3
        rw [zne_up u1_s]
        exact b5 o k_s u3 u2_s
      · rw [zsame_up, e40, in1_ (by omega)]
        omega
      · rw [zne_up (by omega)]
        exact b3
      · show 2 + 2 * a_s ≤ 2 * (a_s + 1)
        omega
      · intro j_s d_s hj
        rw [zne_up (by omega)]
        match j_s, hj with
        | 0, hj =>
          cases hj
          exact b1
        | 1, hj =>
          cases hj
          rw [b2]
          exact (ofI_ (by rw [hkn, hc_s])).symm
        | _ + 2, hj => cases hj
      · rw [zne_up (by omega), b4]
        show (if kn_s.toInt = 1 then (1 : Int32) else f_s q_s 0) = (if decide (nmo (tkF f_s a_s) = 1) = true then 1 else f_s q_s 0)
        rw [hkn, hc_s]
        by_cases e7_s : nmo (tkF f_s a_s) = 1
        · rw [if_pos e7_s, if_pos (by rw [e7_s]; rfl)]
        · rw [if_neg e7_s, if_neg (fun w_s => e7_s (of_decide_eq_true w_s))]
  · have hd_s : 48 ≤ tkF f_s a_s ∧ tkF f_s a_s ≤ 57 := by omega
    have hl1 := hlt (by omega)
    have pl := pdg_le (tkF_out p3_s) 4 a_s 0 p2_s
    have plt : a_s < (pdg (tkF f_s) 4 a_s 0).1 := pdg_lt (k_s := 3) (v_s := 0) (tkF_out p3_s) p2_s hd_s
    cases F_s with
    | zero => exact wF_zero
    | succ F_s =>
      refine sg_67_0 (h_s := (h_s.1, f_s, h_s.2.2.1, h_s.2.2.2)) hm_s hk ?_
      refine num67 (h_s := h_s) (K_s := fun v28 h28 => hKn h28 → K_s v28 h28) (len_s := len_s) (n_s := n_s) (f0_s := f_s) (tk := tkF f_s) (a1_s := (pdg (tkF f_s) 4 a_s 0).1) (v1_s := (pdg (tkF f_s) 4 a_s 0).2) hm_s hk (by omega) p4_s (fun f1_s b1 b2 b3 b4 b5 _ => ?_) F_s 0 a_s 0 0 f_s rfl (by omega) p1_s p2_s p3_s rfl p5_s (fun _ _ _ => rfl) rfl
      refine t_s 1 f1_s ?_ ⟨_, pP_num hd_s, rfl, plt, pl.2, b1, b4, ?_, ?_, ?_⟩
      · intro o k_s u1_s u2_s u3
        exact b5 o k_s u1_s u3 (by omega)
      · show 2 + 2 * a_s ≤ 2 * (pdg (tkF f_s) 4 a_s 0).1
        omega
      · intro j_s d_s hj
        match j_s, hj with
        | 0, hj =>
          cases hj
          exact b2
        | 1, hj =>
          cases hj
          exact b3
        | _ + 2, hj => cases hj
      · exact b5 q_s 0 (by omega) (by omega) (by omega)
theorem cpar : ∀ F_s, C65 F_s ∧ C66 F_s ∧ C42 F_s
  | 0 => by
    refine ⟨?_, ?_, ?_⟩
    · intro _ _ _
      intros
      exact wF_zero
    · intro _ _ _
      intros
      exact wF_zero
    · intro _ _ _
      intros
      exact wF_zero
  | F_s + 1 => by
    obtain ⟨i1_s, i2_s, i3_s⟩ := cpar F_s
    exact ⟨c65_s i1_s i2_s i3_s, c66_s i1_s i2_s, c42_s i1_s i3_s⟩
/-! A TEXT'S LINES. -/
abbrev pB : Type := Option pA × pA
noncomputable def pln (tk : Nat → Int) (a_s : Nat) (r_s : Nat ⊕ (Nat × pB)) : Prop := (∃ e_s, pP tk 0 0 a_s pz0 (.inl e_s) ∧ r_s = .inl e_s) ∨ ∃ p_s, pP tk 0 0 a_s pz0 (.inr p_s) ∧ ((¬ tk p_s.1 = 63 ∧ r_s = .inr (p_s.1, none, p_s.2)) ∨ (tk p_s.1 = 63 ∧ ((∃ e_s, pP tk 0 0 (p_s.1 + 1) pz0 (.inl e_s) ∧ r_s = .inl e_s) ∨ ∃ p1_s, pP tk 0 0 (p_s.1 + 1) pz0 (.inr p1_s) ∧ r_s = .inr (p1_s.1, some p_s.2, p1_s.2))))
theorem pln_det {tk : Nat → Int} {a_s : Nat} {r_s r1_s : Nat ⊕ (Nat × pB)} (h_s : pln tk a_s r_s) (h1 : pln tk a_s r1_s) : r_s = r1_s := by
  rcases h_s with ⟨e_s, x1_s, rfl⟩ | ⟨p_s, x1_s, x2_s⟩
  · rcases h1 with ⟨e1_s, y1, rfl⟩ | ⟨p1_s, y1, y2⟩
    · have q_s := pP_det x1_s y1
      cases q_s
      rfl
    · have q_s := pP_det x1_s y1
      cases q_s
  · rcases h1 with ⟨e1_s, y1, rfl⟩ | ⟨p1_s, y1, y2⟩
    · have q_s := pP_det x1_s y1
      cases q_s
    · have q_s := pP_det x1_s y1
      cases q_s
      rcases x2_s with ⟨x3, rfl⟩ | ⟨x3, x4_s⟩
      · rcases y2 with ⟨y3, rfl⟩ | ⟨y3, y4⟩
        · rfl
        · exact absurd y3 x3
      · rcases y2 with ⟨y3, rfl⟩ | ⟨y3, y4⟩
        · exact absurd x3 y3
        · rcases x4_s with ⟨e2_s, x5_s, rfl⟩ | ⟨p2_s, x5_s, rfl⟩
          · rcases y4 with ⟨e3_s, y5, rfl⟩ | ⟨p3_s, y5, rfl⟩
            · have q_s := pP_det x5_s y5
              cases q_s
              rfl
            · have q_s := pP_det x5_s y5
              cases q_s
          · rcases y4 with ⟨e3_s, y5, rfl⟩ | ⟨p3_s, y5, rfl⟩
            · have q_s := pP_det x5_s y5
              cases q_s
            · have q_s := pP_det x5_s y5
              cases q_s
              rfl
noncomputable def ptx (tk : Nat → Int) (n_s : Nat) : Nat → Nat → List pB → Nat ⊕ List pB → Prop
  | 0, _, _, _ => False
  | k_s + 1, a_s, l, r_s => (∃ e_s, pln tk a_s (.inl e_s) ∧ r_s = .inl e_s) ∨ ∃ p_s, pln tk a_s (.inr p_s) ∧ ((n_s ≤ p_s.1 ∧ r_s = .inr (l ++ [p_s.2])) ∨ (p_s.1 < n_s ∧ ((¬ tk p_s.1 = 59 ∧ r_s = .inl p_s.1) ∨ (tk p_s.1 = 59 ∧ ptx tk n_s k_s (p_s.1 + 1) (l ++ [p_s.2]) r_s))))
theorem ptx_det {tk : Nat → Int} {n_s : Nat} : ∀ {k_s k1_s a_s : Nat} {l : List pB} {r_s r1_s : Nat ⊕ List pB}, ptx tk n_s k_s a_s l r_s → ptx tk n_s k1_s a_s l r1_s → r_s = r1_s
  | 0, _, _, _, _, _, h_s, _ => h_s.elim
  | _ + 1, 0, _, _, _, _, _, h_s => h_s.elim
  | k_s + 1, k1_s + 1, a_s, l, r_s, r1_s, h_s, h1 => by
    rcases h_s with ⟨e_s, x1_s, rfl⟩ | ⟨p_s, x1_s, x2_s⟩
    · rcases h1 with ⟨e1_s, y1, rfl⟩ | ⟨p1_s, y1, y2⟩
      · have q_s := pln_det x1_s y1
        cases q_s
        rfl
      · have q_s := pln_det x1_s y1
        cases q_s
    · rcases h1 with ⟨e1_s, y1, rfl⟩ | ⟨p1_s, y1, y2⟩
      · have q_s := pln_det x1_s y1
        cases q_s
      · have q_s := pln_det x1_s y1
        cases q_s
        rcases x2_s with ⟨x3, rfl⟩ | ⟨x3, x4_s⟩
        · rcases y2 with ⟨y3, rfl⟩ | ⟨y3, y4⟩
          · rfl
          · omega
        · rcases y2 with ⟨y3, rfl⟩ | ⟨y3, y4⟩
          · omega
          · rcases x4_s with ⟨x5_s, rfl⟩ | ⟨x5_s, x6⟩
            · rcases y4 with ⟨y5, rfl⟩ | ⟨y5, y6⟩
              · rfl
              · exact absurd y5 x5_s
            · rcases y4 with ⟨y5, rfl⟩ | ⟨y5, y6⟩
              · exact absurd x5_s y5
              · exact ptx_det (k_s := k_s) (k1_s := k1_s) x6 y6
/-- the code of a line that begins at len; of lines -/
noncomputable def cLn (len_s : Nat) (l : pB) : List Int32 := match l.1 with
  | none => l.2.1 ++ [59]
  | some y_s => y_s.1 ++ ([63, Int32.ofNat (len_s + (y_s.1.length + (l.2.1.length + 3)))] ++ (l.2.1 ++ [59]))
noncomputable def cTx : Nat → List pB → List Int32
  | _, [] => []
  | len_s, l :: r_s => cLn len_s l ++ cTx (len_s + (cLn len_s l).length) r_s
theorem cTx_end : ∀ (len_s : Nat) (l : List pB) (p_s : pB), cTx len_s (l ++ [p_s]) = cTx len_s l ++ cLn (len_s + (cTx len_s l).length) p_s
  | len_s, [], p_s => by
    show cLn len_s p_s ++ [] = [] ++ cLn (len_s + 0) p_s
    rw [List.append_nil, List.nil_append, Nat.add_zero]
  | len_s, a_s :: l, p_s => by
    show cLn len_s a_s ++ cTx (len_s + (cLn len_s a_s).length) (l ++ [p_s]) = (cLn len_s a_s ++ cTx (len_s + (cLn len_s a_s).length) l) ++ cLn (len_s + (cLn len_s a_s ++ cTx (len_s + (cLn len_s a_s).length) l).length) p_s
    rw [cTx_end, List.append_assoc, List.length_append, Nat.add_assoc]
noncomputable def mLn (l : pB) : Bool := (match l.1 with
  | none => false
  | some y_s => y_s.2.2) || l.2.2.2
noncomputable def mTx : List pB → Bool
  | [] => false
  | l :: r_s => mLn l || mTx r_s
theorem mTx_end : ∀ (l : List pB) (p_s : pB), mTx (l ++ [p_s]) = (mTx l || mLn p_s)
  | [], p_s => by
    show (mLn p_s || false) = (false || mLn p_s)
    rw [Bool.or_false, Bool.false_or]
  | a_s :: l, p_s => by
    show (mLn a_s || mTx (l ++ [p_s])) = ((mLn a_s || mTx l) || mLn p_s)
    rw [mTx_end, Bool.or_assoc]
theorem ofN_ {len_s : Nat} {c_s : Int32} (hb_s : len_s ≤ 3072) (hc_s : c_s.toInt = (len_s : Int)) : Int32.ofNat len_s = c_s := Int32.toInt_inj.mp (by rw [na_ofn hb_s, hc_s])
section LN_s
variable {F_s : Nat} {h_s : zH} {K_s : Int32 → zH → Prop} {q_s n_s len_s a_s : Nat} {f_s : Nat → Nat → Int32}
/-- what stands behind a line -/
noncomputable def poL (q_s len_s a0_s n_s : Nat) (m0_s : Int32) (f1_s : Nat → Nat → Int32) (v_s : Int32) : Nat ⊕ (Nat × pB) → Prop
  | .inl e_s => v_s = 0 ∧ (f1_s 40 2).toInt = (e_s : Int)
  | .inr p_s => v_s = 1 ∧ a0_s < p_s.1 ∧ p_s.1 ≤ n_s ∧ (f1_s 40 2).toInt = (p_s.1 : Int) ∧ (f1_s q_s 2).toInt = ((len_s + (cLn len_s p_s.2).length : Nat) : Int) ∧ (cLn len_s p_s.2).length + 2 * a0_s ≤ 2 * p_s.1 + 1 ∧ (∀ j_s c_s, zget (cLn len_s p_s.2) j_s = some c_s → f1_s (q_s + 1) (len_s + j_s) = c_s) ∧ f1_s q_s 0 = (if mLn p_s.2 then 1 else m0_s)
theorem sp_64 (hm_s : q_s = 14 ∨ q_s = 17) (hk : hKn h_s) (hp0 : prC q_s n_s len_s a_s f_s) (t_s : ∀ v_s f1_s, frC q_s len_s f_s f1_s → (∃ r_s, pln (tkF f_s) a_s r_s ∧ poL q_s len_s a_s n_s (f_s q_s 0) f1_s v_s r_s) → K_s v_s (h_s.1, f1_s, h_s.2.2.1, h_s.2.2.2)) : wF F_s 64 (0, [some (.ref 40), some (.ref q_s), none], [], (h_s.1, f_s, h_s.2.2.1, h_s.2.2.2)) (gI K_s) := by
  obtain ⟨p1_s, p2_s, p3_s, p4_s, p5_s, p6_s⟩ := hp0
  refine wF_le (Nat.le_succ F_s) (sg_64_0 (h_s := (h_s.1, f_s, h_s.2.2.1, h_s.2.2.2)) hm_s hk ?_)
  refine (cpar F_s).1 h_s _ q_s n_s len_s 0 0 a_s 0 0 f_s hm_s hk rfl (by omega) rfl (by omega) ⟨p1_s, p2_s, p3_s, p4_s, p5_s, p6_s⟩ (fun v_s f1_s fr1 hr _ => ?_)
  obtain ⟨r_s, hp, hpo⟩ := hr
  match r_s, hp, hpo with
  | .inl e9_s, hp, hpo =>
    obtain ⟨rfl, hpz⟩ := hpo
    exact ⟨fun _ => t_s 0 f1_s fr1 ⟨.inl e9_s, Or.inl ⟨e9_s, hp, rfl⟩, rfl, hpz⟩, fun w_s => absurd rfl w_s⟩
  | .inr p_s, hp, hpo =>
    obtain ⟨rfl, g1, g2, g3_s, g4, g5_s, g6, g7⟩ := hpo
    have tk1 : tkF f1_s = tkF f_s := frC_tk hm_s fr1
    have fn1 : (f1_s 40 1).toInt = (n_s : Int) := by
      rw [fr1 40 1 (by omega) (by omega) (by omega)]
      exact p3_s
    refine ⟨fun w_s => absurd w_s (by decide), fun _ => ?_⟩
    refine sp_69 (h_s := (h_s.1, f1_s, h_s.2.2.1, h_s.2.2.2)) (a_s := p_s.1) hk g3_s (by omega) (fun c9_s f2_s b1 b2 _ => ⟨fun w_s => absurd w_s (by decide), fun _ => ?_⟩) (fun c9_s _ => ⟨fun _ => ?_, fun w_s => absurd rfl w_s⟩)
    · have c9_s : tkF f1_s p_s.1 = 63 := c9_s
      have b2 : ∀ o k_s, ¬ (o = 40 ∧ k_s = 2) → f2_s o k_s = f1_s o k_s := b2
      have hl2 : p_s.1 < n_s := by
        by_cases e7_s : n_s ≤ p_s.1
        · have := tkF_out fn1 p_s.1 e7_s
          omega
        · omega
      have l2 : (f2_s q_s 2).toInt = ((len_s + p_s.2.1.length : Nat) : Int) := by
        rw [b2 q_s 2 (by omega)]
        exact g4
      refine wF_le (Nat.le_succ F_s) (sg_56_0 (h_s := (h_s.1, f2_s, h_s.2.2.1, h_s.2.2.2)) hm_s hk ?_)
      refine sp_54 (h_s := (h_s.1, f2_s, h_s.2.2.1, h_s.2.2.2)) (len_s := len_s + p_s.2.1.length) hm_s hk l2 (by omega) (fun f3_s d1_s d2_s d3_s _ => ?_)
      refine sp_54 (h_s := (h_s.1, f3_s, h_s.2.2.1, h_s.2.2.2)) (len_s := len_s + p_s.2.1.length + 1) hm_s hk d2_s (by omega) (fun f4_s e1_s e2_s e3_s _ _ => ?_)
      have d3_s : ∀ o k_s, ¬ (o = q_s + 1 ∧ k_s = len_s + p_s.2.1.length) → ¬ (o = q_s ∧ k_s = 2) → f3_s o k_s = f2_s o k_s := d3_s
      have e3_s : ∀ o k_s, ¬ (o = q_s + 1 ∧ k_s = len_s + p_s.2.1.length + 1) → ¬ (o = q_s ∧ k_s = 2) → f4_s o k_s = f3_s o k_s := e3_s
      have fr4 : frC q_s len_s f_s f4_s := by
        intro o k_s u1_s u2_s u3
        rw [e3_s o k_s (by omega) (by omega), d3_s o k_s (by omega) (by omega), b2 o k_s u1_s]
        exact fr1 o k_s u1_s u2_s u3
      have tk4 : tkF f4_s = tkF f_s := frC_tk hm_s fr4
      have m4_s : f4_s q_s 0 = (if p_s.2.2.2 then 1 else f_s q_s 0) := by
        rw [e3_s q_s 0 (by omega) (by omega), d3_s q_s 0 (by omega) (by omega), b2 q_s 0 (by omega)]
        exact g7
      refine (cpar F_s).1 h_s _ q_s n_s (len_s + p_s.2.1.length + 2) 0 0 (p_s.1 + 1) 0 0 f4_s hm_s hk rfl (by omega) rfl (by omega) ⟨?_, hl2, ?_, p4_s, by omega, by omega⟩ (fun v_s f5_s fr5 hr _ => ?_)
      · rw [e3_s 40 2 (by omega) (by omega), d3_s 40 2 (by omega) (by omega)]
        exact b1
      · rw [fr4 40 1 (by omega) (by omega) (by omega)]
        exact p3_s
      · obtain ⟨r_s, hp5, hpo⟩ := hr
        rw [tk4] at hp5
        have fr6 : frC q_s len_s f_s f5_s := by
          intro o k_s u1_s u2_s u3
          rw [fr5 o k_s u1_s u2_s (by omega)]
          exact fr4 o k_s u1_s u2_s u3
        match r_s, hp5, hpo with
        | .inl e9_s, hp5, hpo =>
          obtain ⟨rfl, hpz⟩ := hpo
          exact ⟨fun _ => t_s 0 f5_s fr6 ⟨.inl e9_s, Or.inr ⟨p_s, hp, Or.inr ⟨by rw [← tk1]; exact c9_s, Or.inl ⟨e9_s, hp5, rfl⟩⟩⟩, rfl, hpz⟩, fun w_s => absurd rfl w_s⟩
        | .inr y_s, hp5, hpo =>
          obtain ⟨rfl, y1, y2, y3, y4, y5, y6, y7⟩ := hpo
          rw [m4_s] at y7
          refine ⟨fun w_s => absurd w_s (by decide), fun _ => ?_⟩
          refine sp_54 (h_s := (h_s.1, f5_s, h_s.2.2.1, h_s.2.2.2)) (len_s := len_s + p_s.2.1.length + 2 + y_s.2.1.length) hm_s hk y4 (by omega) (fun f6_s r1_s r2 r3 _ => ?_)
          have r3 : ∀ o k_s, ¬ (o = q_s + 1 ∧ k_s = len_s + p_s.2.1.length + 2 + y_s.2.1.length) → ¬ (o = q_s ∧ k_s = 2) → f6_s o k_s = f5_s o k_s := r3
          have ex_s : (f4_s q_s 2 - 1).toInt = ((len_s + p_s.2.1.length + 1 : Nat) : Int) := by
            rw [na_sub (by rw [n1_]; omega) (by rw [n1_]; omega), n1_]
            omega
          have zx := azix (i := f4_s q_s 2 - 1) (by omega)
          refine wF_le (Nat.le_succ F_s) (sg_57_0 (h_s := (h_s.1, f6_s, h_s.2.2.1, h_s.2.2.2)) (x1_s := f4_s q_s 2 - 1) hm_s hk ⟨fun c_s => absurd c_s (by omega), fun c_s => ⟨fun c1_s => fun c2_s => ?_, fun c1_s => absurd c1_s (by omega)⟩⟩)
          have e8 : zix (f4_s q_s 2 - 1) = len_s + p_s.2.1.length + 1 := by omega
          intro _
          dsimp only
          rw [e8]
          have lnl : (cLn len_s (some p_s.2, y_s.2)).length = p_s.2.1.length + (y_s.2.1.length + 3) := by
            unfold cLn
            simp only [List.length_append, List.length_cons, List.length_nil]
            omega
          refine t_s 1 (zup f6_s (q_s + 1) (len_s + p_s.2.1.length + 1) (f6_s q_s 2)) ?_ ⟨.inr (y_s.1, some p_s.2, y_s.2), Or.inr ⟨p_s, hp, Or.inr ⟨by rw [← tk1]; exact c9_s, Or.inr ⟨y_s, hp5, rfl⟩⟩⟩, rfl, by omega, y2, ?_, ?_, ?_, ?_, ?_⟩
          · intro o k_s u1_s u2_s u3
            rw [zne_up (by omega), r3 o k_s (by omega) (by omega)]
            exact fr6 o k_s u1_s u2_s u3
          · rw [zne_up (by omega), r3 40 2 (by omega) (by omega)]
            exact y3
          · rw [zne_up (by omega), lnl]
            omega
          · rw [lnl]
            omega
          · intro j_s c_s hj
            unfold cLn at hj
            dsimp only at hj
            rcases zget_apd hj with ⟨j1, j2_s⟩ | ⟨j1, j2_s⟩
            · rw [zne_up (by omega), r3 _ _ (by omega) (by omega), fr5 _ _ (by omega) (by omega) (by omega), e3_s _ _ (by omega) (by omega), d3_s _ _ (by omega) (by omega), b2 _ _ (by omega)]
              exact g6 j_s c_s j2_s
            · rcases zget_apd j2_s with ⟨j3_s, j4_s⟩ | ⟨j3_s, j4_s⟩
              · simp only [List.length_cons, List.length_nil] at j3_s
                match h7 : j_s - p_s.2.1.length, j4_s with
                | 0, j4_s =>
                  cases j4_s
                  rw [zne_up (by omega), r3 _ _ (by omega) (by omega), fr5 _ _ (by omega) (by omega) (by omega), e3_s _ _ (by omega) (by omega), show len_s + j_s = len_s + p_s.2.1.length by omega]
                  exact d1_s
                | 1, j4_s =>
                  cases j4_s
                  rw [show len_s + j_s = len_s + p_s.2.1.length + 1 by omega, zsame_up]
                  exact (ofN_ (by omega) (by rw [r2]; omega)).symm
                | k_s + 2, j4_s => omega
              · simp only [List.length_cons, List.length_nil] at j3_s j4_s
                rcases zget_apd j4_s with ⟨j5_s, j6_s⟩ | ⟨j5_s, j6_s⟩
                · rw [zne_up (by omega), r3 _ _ (by omega) (by omega)]
                  have u_s := y6 _ c_s j6_s
                  rw [show len_s + p_s.2.1.length + 2 + (j_s - p_s.2.1.length - (0 + 1 + 1)) = len_s + j_s by omega] at u_s
                  exact u_s
                · match h7 : j_s - p_s.2.1.length - (0 + 1 + 1) - y_s.2.1.length, j6_s with
                  | 0, j6_s =>
                    cases j6_s
                    rw [zne_up (by omega), show len_s + j_s = len_s + p_s.2.1.length + 2 + y_s.2.1.length by omega]
                    exact r1_s
                  | k_s + 1, j6_s => cases j6_s
          · rw [zne_up (by omega), r3 _ _ (by omega) (by omega), y7]
            show _ = (if (p_s.2.2.2 || y_s.2.2.2) = true then 1 else f_s q_s 0)
            generalize p_s.2.2.2 = b8
            generalize y_s.2.2.2 = b9
            cases b8 <;> cases b9 <;> rfl
    · have c9_s : ¬ tkF f1_s p_s.1 = 63 := c9_s
      refine sp_54 (h_s := (h_s.1, f1_s, h_s.2.2.1, h_s.2.2.2)) (len_s := len_s + p_s.2.1.length) hm_s hk g4 (by omega) (fun f2_s d1_s d2_s d3_s _ => ?_)
      have d3_s : ∀ o k_s, ¬ (o = q_s + 1 ∧ k_s = len_s + p_s.2.1.length) → ¬ (o = q_s ∧ k_s = 2) → f2_s o k_s = f1_s o k_s := d3_s
      have lnl : (cLn len_s (none, p_s.2)).length = p_s.2.1.length + 1 := by
        unfold cLn
        simp only [List.length_append, List.length_cons, List.length_nil]
      refine t_s 1 f2_s ?_ ⟨.inr (p_s.1, none, p_s.2), Or.inr ⟨p_s, hp, Or.inl ⟨by rw [← tk1]; exact c9_s, rfl⟩⟩, rfl, g1, g2, ?_, ?_, ?_, ?_, ?_⟩
      · intro o k_s u1_s u2_s u3
        rw [d3_s o k_s (by omega) (by omega)]
        exact fr1 o k_s u1_s u2_s u3
      · rw [d3_s 40 2 (by omega) (by omega)]
        exact g3_s
      · rw [lnl]
        omega
      · rw [lnl]
        omega
      · intro j_s c_s hj
        unfold cLn at hj
        dsimp only at hj
        rcases zget_apd hj with ⟨j1, j2_s⟩ | ⟨j1, j2_s⟩
        · rw [d3_s _ _ (by omega) (by omega)]
          exact g6 j_s c_s j2_s
        · match h7 : j_s - p_s.2.1.length, j2_s with
          | 0, j2_s =>
            cases j2_s
            rw [show len_s + j_s = len_s + p_s.2.1.length by omega]
            exact d1_s
          | k_s + 1, j2_s => cases j2_s
      · rw [d3_s _ _ (by omega) (by omega), g7]
        show _ = (if (false || p_s.2.2.2) = true then 1 else f_s q_s 0)
        generalize p_s.2.2.2 = b8
        cases b8 <;> rfl
end LN_s
/-! THE REFERENCE READS A TEXT: leaves. -/
noncomputable def tkR (f_s : Nat → Nat → Int32) (a_s : Nat) : Int := if (a_s : Int) < (f_s 102 17).toInt then (if (f_s 102 15).toInt < 0 then (f_s 109 a_s).toInt else (f_s 110 a_s).toInt) else -1
noncomputable def frR (f_s f1_s : Nat → Nat → Int32) : Prop := ∀ o k_s, ¬ (o = 102 ∧ (k_s = 16 ∨ k_s = 18 ∨ k_s = 19)) → f1_s o k_s = f_s o k_s
theorem frR_tr {f_s f1_s f2_s : Nat → Nat → Int32} (h1 : frR f_s f1_s) (h2 : frR f1_s f2_s) : frR f_s f2_s := fun o k_s hq => (h2 o k_s hq).trans (h1 o k_s hq)
theorem frR_tk {f_s f1_s : Nat → Nat → Int32} (hf : frR f_s f1_s) : tkR f1_s = tkR f_s := by
  funext a_s
  unfold tkR
  rw [hf 102 17 (by omega), hf 102 15 (by omega), hf 109 a_s (by omega), hf 110 a_s (by omega)]
noncomputable def prR (tk : Nat → Int) (nm : Nat → Int32) (n_s op_s a_s : Nat) (f_s : Nat → Nat → Int32) : Prop := (f_s 102 18).toInt = -1 ∧ (f_s 102 16).toInt = (a_s : Int) ∧ a_s ≤ n_s ∧ (f_s 102 17).toInt = (n_s : Int) ∧ n_s ≤ 120 ∧ (f_s 102 19).toInt = (op_s : Int) ∧ op_s ≤ 6 ∧ ((f_s 102 15).toInt = -1 ∨ (f_s 102 15).toInt = 0) ∧ (∀ k_s, k_s < n_s → 0 ≤ tk k_s) ∧ tkR f_s = tk ∧ ∀ k_s, f_s 111 k_s = nm k_s
theorem prR_fr {tk : Nat → Int} {nm : Nat → Int32} {n_s op_s a_s op1 a1_s : Nat} {f_s f1_s : Nat → Nat → Int32} (hf : frR f_s f1_s) (hp : prR tk nm n_s op_s a_s f_s) (e1_s : (f1_s 102 18).toInt = -1) (e2_s : (f1_s 102 16).toInt = (a1_s : Int)) (e3_s : a1_s ≤ n_s) (e4_s : (f1_s 102 19).toInt = (op1 : Int)) (e5_s : op1 ≤ 6) : prR tk nm n_s op1 a1_s f1_s := by
  obtain ⟨_, _, _, p4_s, p5_s, _, _, p8_s, p9_s, p10, p11⟩ := hp
  refine ⟨e1_s, e2_s, e3_s, ?_, p5_s, e4_s, e5_s, ?_, p9_s, ?_, fun k_s => ?_⟩
  · rw [hf 102 17 (by omega)]
    exact p4_s
  · rw [hf 102 15 (by omega)]
    exact p8_s
  · rw [frR_tk hf]
    exact p10
  · rw [hf 111 k_s (by omega)]
    exact p11 k_s
noncomputable def poR (n_s op_s : Nat) (nm : Nat → Int32) (f1_s : Nat → Nat → Int32) (v_s : Int32) : pR → Prop
  | .inl e_s => (f1_s 102 18).toInt = (e_s : Int)
  | .inr p_s => (f1_s 102 18).toInt = -1 ∧ (f1_s 102 16).toInt = (p_s.1 : Int) ∧ p_s.1 ≤ n_s ∧ (f1_s 102 19).toInt = (op_s : Int) ∧ v_s = p_s.2.2.1 nm
section RT
variable {F_s : Nat} {h_s : zH} {K_s : Int32 → zH → Prop} {x1_s : Int32} {a_s n_s op_s : Nat} {tk : Nat → Int} {nm : Nat → Int32} {f_s : Nat → Nat → Int32}
theorem sp_166 (hk : hKn h_s) (hp : prR tk nm n_s op_s a_s f_s) (t_s : ∀ v_s, ((tk a_s = -1 ∧ v_s.toInt = 0) ∨ (0 ≤ tk a_s ∧ v_s.toInt = tk a_s)) → K_s v_s (h_s.1, f_s, h_s.2.2.1, h_s.2.2.2)) : wF F_s 166 (0, [some (.ref 102)], [], (h_s.1, f_s, h_s.2.2.1, h_s.2.2.2)) (gI K_s) := by
  obtain ⟨p1_s, p2_s, p3_s, p4_s, p5_s, p6_s, p7_s, p8_s, p9_s, p10, p11⟩ := hp
  have z_s := azix (i := f_s 102 16) (by omega)
  have z1 : zix (f_s 102 16) = a_s := by omega
  have ht : tk a_s = tkR f_s a_s := by rw [p10]
  have b0 : (f_s 102 15).toInt = 0 → zix (f_s 102 15 + f_s 102 16) = a_s := fun e_s => by
    have e1_s : (f_s 102 15 + f_s 102 16).toInt = (f_s 102 16).toInt := by
      rw [na_add (by omega) (by omega)]
      omega
    have z2 := azix (i := f_s 102 15 + f_s 102 16) (by omega)
    omega
  refine wF_le (Nat.le_succ F_s) (sg_166_0 (h_s := (h_s.1, f_s, h_s.2.2.1, h_s.2.2.2)) hk ⟨fun c1_s => ⟨fun c2_s => fun c3_s => ?_, fun c2_s => fun c4_s => ?_⟩, fun c1_s => ?_⟩)
  · have c1_s : (f_s 102 16).toInt < (f_s 102 17).toInt := c1_s
    have c2_s : (f_s 102 15).toInt < 0 := c2_s
    dsimp only
    rw [z1]
    have g_s := p9_s a_s (by omega)
    refine t_s _ (Or.inr ⟨g_s, ?_⟩)
    rw [ht]
    unfold tkR
    rw [if_pos (by omega), if_pos c2_s]
  · have c1_s : (f_s 102 16).toInt < (f_s 102 17).toInt := c1_s
    have c2_s : ¬ (f_s 102 15).toInt < 0 := c2_s
    dsimp only
    rw [b0 (by omega)]
    have g_s := p9_s a_s (by omega)
    refine t_s _ (Or.inr ⟨g_s, ?_⟩)
    rw [ht]
    unfold tkR
    rw [if_pos (by omega), if_neg c2_s]
  · have c1_s : ¬ (f_s 102 16).toInt < (f_s 102 17).toInt := c1_s
    refine t_s _ (Or.inl ⟨?_, rfl⟩)
    rw [ht]
    unfold tkR
    rw [if_neg (by omega)]
theorem sp_167 (hk : hKn h_s) (t1_s : (f_s 102 18).toInt < 0 → ∀ f1_s, f1_s 102 18 = f_s 102 16 → (∀ o k_s, ¬ (o = 102 ∧ k_s = 18) → f1_s o k_s = f_s o k_s) → K_s 0 (h_s.1, f1_s, h_s.2.2.1, h_s.2.2.2)) (t2_s : ¬ (f_s 102 18).toInt < 0 → ∀ f1_s, (∀ o k_s, f1_s o k_s = f_s o k_s) → K_s 0 (h_s.1, f1_s, h_s.2.2.1, h_s.2.2.2)) : wF F_s 167 (0, [some (.ref 102)], [], (h_s.1, f_s, h_s.2.2.1, h_s.2.2.2)) (gI K_s) := by
  refine wF_le (Nat.le_succ F_s) (sg_167_0 (h_s := (h_s.1, f_s, h_s.2.2.1, h_s.2.2.2)) hk ⟨fun c1_s => t1_s c1_s _ ?_ ?_, fun c1_s => t2_s c1_s _ ?_⟩)
  · exact zsame_up
  · intro o k_s hq
    exact zne_up hq
  · intro o k_s
    by_cases e_s : o = 102 ∧ k_s = 18
    · obtain ⟨rfl, rfl⟩ := e_s
      exact zsame_up
    · exact zne_up e_s
theorem sp_168 (hk : hKn h_s) (hp : prR tk nm n_s op_s a_s f_s) (hx : 0 < x1_s.toInt) (t1_s : tk a_s = x1_s.toInt → ∀ f1_s, (f1_s 102 16).toInt = ((a_s + 1 : Nat) : Int) → (∀ o k_s, ¬ (o = 102 ∧ k_s = 16) → f1_s o k_s = f_s o k_s) → K_s 1 (h_s.1, f1_s, h_s.2.2.1, h_s.2.2.2)) (t2_s : ¬ tk a_s = x1_s.toInt → K_s 0 (h_s.1, f_s, h_s.2.2.1, h_s.2.2.2)) : wF F_s 168 (0, [some (.ref 102), some (.int x1_s)], [], (h_s.1, f_s, h_s.2.2.1, h_s.2.2.2)) (gI K_s) := by
  obtain ⟨p1_s, p2_s, p3_s, p4_s, p5_s, pr⟩ := hp
  refine wF_le (Nat.le_succ F_s) (sg_168_0 (h_s := (h_s.1, f_s, h_s.2.2.1, h_s.2.2.2)) hk ⟨fun c1_s => sp_166 hk ⟨p1_s, p2_s, p3_s, p4_s, p5_s, pr⟩ (fun v_s hv _ => ⟨fun c_s => t1_s (by omega) _ ?_ ?_, fun c_s => t2_s (by omega)⟩), fun c1_s => ?_⟩)
  · show (zup f_s 102 16 (f_s 102 16 + 1) 102 16).toInt = _
    rw [zsame_up, in1_ (by omega)]
    omega
  · intro o k_s hq
    exact zne_up hq
  · have c1_s : ¬ (f_s 102 18).toInt < 0 := c1_s
    omega
theorem sp_168F (hk : hKn h_s) (hf : 0 ≤ (f_s 102 18).toInt) (t_s : K_s 0 (h_s.1, f_s, h_s.2.2.1, h_s.2.2.2)) : wF F_s 168 (0, [some (.ref 102), some (.int x1_s)], [], (h_s.1, f_s, h_s.2.2.1, h_s.2.2.2)) (gI K_s) := by
  refine wF_le (Nat.le_succ F_s) (sg_168_0 (h_s := (h_s.1, f_s, h_s.2.2.1, h_s.2.2.2)) hk ⟨fun c1_s => ?_, fun _ => t_s⟩)
  have c1_s : (f_s 102 18).toInt < 0 := c1_s
  omega
theorem sp_174 (hk : hKn h_s) (t_s : ∀ v_s, v_s.toInt = nmo x1_s.toInt → K_s v_s h_s) : wF F_s 174 (0, [some (.int x1_s)], [], h_s) (gI K_s) := by
  refine wF_le (Nat.le_succ F_s) (sg_174_0 hk ⟨fun c1_s => ?_, fun c1_s => ⟨fun c2_s => ?_, fun c2_s => ⟨fun c3_s => ?_, fun c3_s => ⟨fun c4_s => ?_, fun c4_s => ⟨fun c5_s => ?_, fun c5_s => ⟨fun c6_s => ?_, fun c6_s => ⟨fun c7_s => ?_, fun c7_s => ⟨fun c8_s => ?_, fun c8_s => ⟨fun c9_s => ?_, fun c9_s => ⟨fun c10_s => ?_, fun c10_s => ⟨fun c11_s => ?_, fun c11_s => ⟨fun c12_s => ?_, fun c12_s => ⟨fun c13_s => ?_, fun c13_s => ⟨fun c14_s => ?_, fun c14_s => ⟨fun c15_s => ?_, fun c15_s => ⟨fun c16 => ?_, fun c16 => ⟨fun c17 => ?_, fun c17 => ⟨fun c18_s => ?_, fun c18_s => ?_⟩⟩⟩⟩⟩⟩⟩⟩⟩⟩⟩⟩⟩⟩⟩⟩⟩⟩)
  · exact t_s _ (by rw [c1_s]; decide)
  · exact t_s _ (by rw [c2_s]; decide)
  · exact t_s _ (by rw [c3_s]; decide)
  · exact t_s _ (by rw [c4_s]; decide)
  · exact t_s _ (by rw [c5_s]; decide)
  · exact t_s _ (by rw [c6_s]; decide)
  · exact t_s _ (by rw [c7_s]; decide)
  · exact t_s _ (by rw [c8_s]; decide)
  · exact t_s _ (by rw [c9_s]; decide)
  · exact t_s _ (by rw [c10_s]; decide)
  · exact t_s _ (by rw [c11_s]; decide)
  · exact t_s _ (by rw [c12_s]; decide)
  · exact t_s _ (by rw [c13_s]; decide)
  · exact t_s _ (by rw [c14_s]; decide)
  · exact t_s _ (by rw [c15_s]; decide)
  · exact t_s _ (by rw [c16]; decide)
  · exact t_s _ (by rw [c17]; decide)
  · exact t_s _ (by rw [c18_s]; decide)
  · exact t_s _ (by unfold nmo; rw [if_neg (by omega), if_neg (by omega), if_neg (by omega), if_neg (by omega), if_neg (by omega), if_neg (by omega)]; rfl)
end RT
noncomputable def RS (M_s m_s : Nat) (ns : List (Option Value)) (F_s : Nat) : Prop := ∀ (h_s : zH) (K_s : Int32 → zH → Prop) (tk : Nat → Int) (nm : Nat → Int32) (n_s op_s a_s : Nat) (f_s : Nat → Nat → Int32), hKn h_s → prR tk nm n_s op_s a_s f_s → (∀ v_s f1_s, frR f_s f1_s → (∃ r_s, pP tk m_s op_s a_s pz0 r_s ∧ poR n_s op_s nm f1_s v_s r_s) → K_s v_s (h_s.1, f1_s, h_s.2.2.1, h_s.2.2.2)) → wF F_s M_s (0, some (.ref 102) :: ns, [], (h_s.1, f_s, h_s.2.2.1, h_s.2.2.2)) (gI K_s)
noncomputable def R69 : Nat → Prop := RS 169 0 [none, none]
noncomputable def R70 : Nat → Prop := RS 170 1 [none, none]
noncomputable def R71 : Nat → Prop := RS 171 2 [none, none, none]
noncomputable def R72 : Nat → Prop := RS 172 3 [none, none, none]
noncomputable def R73 : Nat → Prop := RS 173 4 [none, none, none]
noncomputable def R75 : Nat → Prop := RS 175 5 [none, none, none, none]
noncomputable def RL1 (M_s m_s : Nat) (F_s : Nat) : Prop := ∀ (h_s : zH) (K_s : Int32 → zH → Prop) (tk : Nat → Int) (nm : Nat → Int32) (n_s op_s a_s : Nat) (x1_s : Int32) (l2 : Option Value) (f_s : Nat → Nat → Int32) (z_s : pA), hKn h_s → prR tk nm n_s op_s a_s f_s → x1_s = z_s.2.1 nm → (∀ v_s f1_s, frR f_s f1_s → (∃ r_s, pP tk m_s op_s a_s z_s r_s ∧ poR n_s op_s nm f1_s v_s r_s) → K_s v_s (h_s.1, f1_s, h_s.2.2.1, h_s.2.2.2)) → wF F_s M_s (5, [some (.ref 102), some (.int x1_s), l2], [], (h_s.1, f_s, h_s.2.2.1, h_s.2.2.2)) (gI K_s)
noncomputable def RL3 (F_s : Nat) : Prop := ∀ (h_s : zH) (K_s : Int32 → zH → Prop) (tk : Nat → Int) (nm : Nat → Int32) (n_s op_s a_s : Nat) (x1_s : Int32) (l2 l3 : Option Value) (f_s : Nat → Nat → Int32) (z_s : pA), hKn h_s → prR tk nm n_s op_s a_s f_s → x1_s = z_s.2.1 nm → (∀ v_s f1_s, frR f_s f1_s → (∃ r_s, pP tk 9 op_s a_s z_s r_s ∧ poR n_s op_s nm f1_s v_s r_s) → K_s v_s (h_s.1, f1_s, h_s.2.2.1, h_s.2.2.2)) → wF F_s 172 (5, [some (.ref 102), some (.int x1_s), l2, l3], [], (h_s.1, f_s, h_s.2.2.1, h_s.2.2.2)) (gI K_s)
noncomputable def RL4 (F_s : Nat) : Prop := ∀ (h_s : zH) (K_s : Int32 → zH → Prop) (tk : Nat → Int) (nm : Nat → Int32) (n_s op_s a_s : Nat) (x1_s x2_s : Int32) (l3 : Option Value) (f_s : Nat → Nat → Int32) (z_s : pA), hKn h_s → prR tk nm n_s op_s a_s f_s → x1_s = z_s.2.1 nm → ((tk a_s = -1 ∧ x2_s.toInt = 0) ∨ (0 ≤ tk a_s ∧ x2_s.toInt = tk a_s)) → (∀ v_s f1_s, frR f_s f1_s → (∃ r_s, pP tk 10 op_s a_s z_s r_s ∧ poR n_s op_s nm f1_s v_s r_s) → K_s v_s (h_s.1, f1_s, h_s.2.2.1, h_s.2.2.2)) → wF F_s 173 (10, [some (.ref 102), some (.int x1_s), some (.int x2_s), l3], [], (h_s.1, f_s, h_s.2.2.1, h_s.2.2.2)) (gI K_s)
theorem frR_rf {f_s : Nat → Nat → Int32} : frR f_s f_s := fun _ _ _ => rfl
theorem frR_16 {f_s f1_s : Nat → Nat → Int32} (h1 : ∀ o k_s, ¬ (o = 102 ∧ k_s = 16) → f1_s o k_s = f_s o k_s) : frR f_s f1_s := fun o k_s hq => h1 o k_s (by omega)
theorem i0_ {x_s : Int32} (e_s : x_s.toInt = 0) : x_s = 0 := Int32.toInt_inj.mp e_s
theorem n0_ {x_s : Int32} (e_s : ¬ x_s.toInt = 0) : ¬ x_s = 0 := fun w_s => e_s (by rw [w_s]; rfl)
section RF
variable {F_s : Nat} {h_s : zH} {K_s : Int32 → zH → Prop} {x1_s x2_s : Int32} {l2 l3 : Option Value} {f_s : Nat → Nat → Int32}
theorem f69 (hk : hKn h_s) (hf : 0 ≤ (f_s 102 18).toInt) (t_s : K_s x1_s (h_s.1, f_s, h_s.2.2.1, h_s.2.2.2)) : wF F_s 169 (5, [some (.ref 102), some (.int x1_s), l2], [], (h_s.1, f_s, h_s.2.2.1, h_s.2.2.2)) (gI K_s) := wF_le (Nat.le_succ F_s) (sg_169_5 (h_s := (h_s.1, f_s, h_s.2.2.1, h_s.2.2.2)) hk (sp_168F hk hf (fun _ => ⟨fun _ => t_s, fun w_s => absurd rfl w_s⟩)))
theorem f70 (hk : hKn h_s) (hf : 0 ≤ (f_s 102 18).toInt) (t_s : K_s x1_s (h_s.1, f_s, h_s.2.2.1, h_s.2.2.2)) : wF F_s 170 (5, [some (.ref 102), some (.int x1_s), l2], [], (h_s.1, f_s, h_s.2.2.1, h_s.2.2.2)) (gI K_s) := wF_le (Nat.le_succ F_s) (sg_170_5 (h_s := (h_s.1, f_s, h_s.2.2.1, h_s.2.2.2)) hk (sp_168F hk hf (fun _ => ⟨fun _ => t_s, fun w_s => absurd rfl w_s⟩)))
theorem f72 (hk : hKn h_s) (hf : 0 ≤ (f_s 102 18).toInt) (t_s : K_s x1_s (h_s.1, f_s, h_s.2.2.1, h_s.2.2.2)) : wF F_s 172 (5, [some (.ref 102), some (.int x1_s), l2, l3], [], (h_s.1, f_s, h_s.2.2.1, h_s.2.2.2)) (gI K_s) := wF_le (Nat.le_succ F_s) (sg_172_5 (h_s := (h_s.1, f_s, h_s.2.2.1, h_s.2.2.2)) hk ⟨fun (c_s : (f_s 102 18).toInt < 0) => absurd c_s (by omega), fun _ => t_s⟩)
theorem f73 (hk : hKn h_s) (hf : 0 ≤ (f_s 102 18).toInt) (t_s : K_s x1_s (h_s.1, f_s, h_s.2.2.1, h_s.2.2.2)) : wF F_s 173 (10, [some (.ref 102), some (.int x1_s), some (.int x2_s), l3], [], (h_s.1, f_s, h_s.2.2.1, h_s.2.2.2)) (gI K_s) := wF_le (Nat.le_succ F_s) (sg_173_10 (h_s := (h_s.1, f_s, h_s.2.2.1, h_s.2.2.2)) hk ⟨fun (c_s : (f_s 102 18).toInt < 0) => absurd c_s (by omega), fun _ => t_s⟩)
end RF
theorem l69_s {F_s : Nat} (i70 : R70 F_s) (i69 : RL1 169 6 F_s) : RL1 169 6 (F_s + 1) := by
  intro h_s K_s tk nm n_s op_s a_s x1_s l2 f_s z_s hk hp hx t_s
  obtain ⟨p1_s, p2_s, p3_s, p4_s, p5_s, p6_s, p7_s, p8_s, p9_s, p10, p11⟩ := hp
  have hp : prR tk nm n_s op_s a_s f_s := ⟨p1_s, p2_s, p3_s, p4_s, p5_s, p6_s, p7_s, p8_s, p9_s, p10, p11⟩
  refine sg_169_5 (h_s := (h_s.1, f_s, h_s.2.2.1, h_s.2.2.2)) hk ?_
  refine sp_168 (x1_s := 124) hk hp (by decide) (fun c1_s f1_s b1 b2 _ => ⟨fun w_s => absurd w_s (by decide), fun _ => ?_⟩) (fun c1_s _ => ⟨fun _ => ?_, fun w_s => absurd rfl w_s⟩)
  · have c1_s : tk a_s = 124 := c1_s
    have hlv : lvl (tk a_s) = ((6 : Nat) : Int) - 6 := by rw [c1_s]; rfl
    have hlt : a_s < n_s := by
      by_cases e_s : a_s < n_s
      · exact e_s
      · exfalso
        rw [← p10] at c1_s
        unfold tkR at c1_s
        rw [if_neg (by omega)] at c1_s
        omega
    have fr1 : frR f_s f1_s := frR_16 b2
    refine i70 h_s _ tk nm n_s op_s (a_s + 1) f1_s hk (prR_fr fr1 hp (by rw [b2 102 18 (by omega)]; exact p1_s) b1 hlt (by rw [b2 102 19 (by omega)]; exact p6_s) p7_s) (fun v_s f2_s fr2 hr _ => ?_)
    obtain ⟨r_s, hq, hpo⟩ := hr
    match r_s, hq, hpo with
    | .inl e_s, hq, hpo =>
      have hpo : (f2_s 102 18).toInt = (e_s : Int) := hpo
      have tt : ∀ v_s, K_s v_s (h_s.1, f2_s, h_s.2.2.1, h_s.2.2.2) := fun v_s => t_s v_s f2_s (frR_tr fr1 fr2) ⟨.inl e_s, pP_sgF (by omega) hlv hq, hpo⟩
      exact ⟨fun _ => ⟨fun _ => f69 hk (by omega) (tt 0), fun _ => f69 hk (by omega) (tt 1)⟩, fun _ => f69 hk (by omega) (tt 1)⟩
    | .inr p_s, hq, hpo =>
      obtain ⟨g1, g2, g3_s, g4, g5_s⟩ := hpo
      have go_s : ∀ (y_s : Int32) (l : Option Value), y_s = jnv x1_s 124 v_s → wF F_s 169 (5, [some (.ref 102), some (.int y_s), l], [], (h_s.1, f2_s, h_s.2.2.1, h_s.2.2.2)) (gI K_s) := fun y_s l hy => i69 h_s K_s tk nm n_s op_s p_s.1 y_s l f2_s (pjn z_s (tk a_s) p_s.2) hk (prR_fr (frR_tr fr1 fr2) hp g1 g2 g3_s g4 p7_s) (by rw [hy, hx, g5_s, c1_s]; rfl) (fun v1_s f3_s fr3 hr => by
        obtain ⟨r_s, hr1, hr2⟩ := hr
        exact t_s v1_s f3_s (frR_tr (frR_tr fr1 fr2) fr3) ⟨r_s, pP_sg (by omega) (by omega) hlv hq hr1, hr2⟩)
      refine ⟨fun e1_s => ⟨fun e2_s => go_s 0 _ ?_, fun e2_s => go_s 1 _ ?_⟩, fun e1_s => go_s 1 _ ?_⟩
      · unfold jnv
        rw [if_pos rfl, if_pos ⟨i0_ e1_s, i0_ e2_s⟩]
      · unfold jnv
        rw [if_pos rfl, if_neg (fun w_s => n0_ e2_s w_s.2)]
      · unfold jnv
        rw [if_pos rfl, if_neg (fun w_s => n0_ e1_s w_s.1)]
  · have c1_s : ¬ tk a_s = 124 := c1_s
    refine t_s x1_s f_s frR_rf ⟨.inr (a_s, z_s), pP_end (by omega) ?_, p1_s, p2_s, p3_s, p6_s, hx⟩
    have q9_s := lvl_in (tk a_s)
    omega
theorem l70_s {F_s : Nat} (i71 : R71 F_s) (i70 : RL1 170 7 F_s) : RL1 170 7 (F_s + 1) := by
  intro h_s K_s tk nm n_s op_s a_s x1_s l2 f_s z_s hk hp hx t_s
  obtain ⟨p1_s, p2_s, p3_s, p4_s, p5_s, p6_s, p7_s, p8_s, p9_s, p10, p11⟩ := hp
  have hp : prR tk nm n_s op_s a_s f_s := ⟨p1_s, p2_s, p3_s, p4_s, p5_s, p6_s, p7_s, p8_s, p9_s, p10, p11⟩
  refine sg_170_5 (h_s := (h_s.1, f_s, h_s.2.2.1, h_s.2.2.2)) hk ?_
  refine sp_168 (x1_s := 38) hk hp (by decide) (fun c1_s f1_s b1 b2 _ => ⟨fun w_s => absurd w_s (by decide), fun _ => ?_⟩) (fun c1_s _ => ⟨fun _ => ?_, fun w_s => absurd rfl w_s⟩)
  · have c1_s : tk a_s = 38 := c1_s
    have hlv : lvl (tk a_s) = ((7 : Nat) : Int) - 6 := by rw [c1_s]; rfl
    have hlt : a_s < n_s := by
      by_cases e_s : a_s < n_s
      · exact e_s
      · exfalso
        rw [← p10] at c1_s
        unfold tkR at c1_s
        rw [if_neg (by omega)] at c1_s
        omega
    have fr1 : frR f_s f1_s := frR_16 b2
    refine i71 h_s _ tk nm n_s op_s (a_s + 1) f1_s hk (prR_fr fr1 hp (by rw [b2 102 18 (by omega)]; exact p1_s) b1 hlt (by rw [b2 102 19 (by omega)]; exact p6_s) p7_s) (fun v_s f2_s fr2 hr _ => ?_)
    obtain ⟨r_s, hq, hpo⟩ := hr
    match r_s, hq, hpo with
    | .inl e_s, hq, hpo =>
      have hpo : (f2_s 102 18).toInt = (e_s : Int) := hpo
      have tt : ∀ v_s, K_s v_s (h_s.1, f2_s, h_s.2.2.1, h_s.2.2.2) := fun v_s => t_s v_s f2_s (frR_tr fr1 fr2) ⟨.inl e_s, pP_sgF (by omega) hlv hq, hpo⟩
      exact ⟨fun _ => f70 hk (by omega) (tt 0), fun _ => ⟨fun _ => f70 hk (by omega) (tt 0), fun _ => f70 hk (by omega) (tt 1)⟩⟩
    | .inr p_s, hq, hpo =>
      obtain ⟨g1, g2, g3_s, g4, g5_s⟩ := hpo
      have go_s : ∀ (y_s : Int32) (l : Option Value), y_s = jnv x1_s 38 v_s → wF F_s 170 (5, [some (.ref 102), some (.int y_s), l], [], (h_s.1, f2_s, h_s.2.2.1, h_s.2.2.2)) (gI K_s) := fun y_s l hy => i70 h_s K_s tk nm n_s op_s p_s.1 y_s l f2_s (pjn z_s (tk a_s) p_s.2) hk (prR_fr (frR_tr fr1 fr2) hp g1 g2 g3_s g4 p7_s) (by rw [hy, hx, g5_s, c1_s]; rfl) (fun v1_s f3_s fr3 hr => by
        obtain ⟨r_s, hr1, hr2⟩ := hr
        exact t_s v1_s f3_s (frR_tr (frR_tr fr1 fr2) fr3) ⟨r_s, pP_sg (by omega) (by omega) hlv hq hr1, hr2⟩)
      have n124 : ¬ (38 : Int) = 124 := by decide
      refine ⟨fun e1_s => go_s 0 _ ?_, fun e1_s => ⟨fun e2_s => go_s 0 _ ?_, fun e2_s => go_s 1 _ ?_⟩⟩
      · unfold jnv
        rw [if_neg n124, if_pos rfl, if_pos (Or.inl (i0_ e1_s))]
      · unfold jnv
        rw [if_neg n124, if_pos rfl, if_pos (Or.inr (i0_ e2_s))]
      · unfold jnv
        rw [if_neg n124, if_pos rfl, if_neg (fun w_s => by
          rcases w_s with w_s | w_s
          · exact n0_ e1_s w_s
          · exact n0_ e2_s w_s)]
  · have c1_s : ¬ tk a_s = 38 := c1_s
    refine t_s x1_s f_s frR_rf ⟨.inr (a_s, z_s), pP_end (by omega) ?_, p1_s, p2_s, p3_s, p6_s, hx⟩
    have q9_s := lvl_in (tk a_s)
    omega
/-! THE REFERENCE READS A TEXT: comparisons, sums, products. -/
section RX
variable {F_s : Nat} {h_s : zH} {K_s : Int32 → zH → Prop} {f_s : Nat → Nat → Int32}
theorem sp_166x (hk : hKn h_s) (t_s : ∀ v_s, K_s v_s (h_s.1, f_s, h_s.2.2.1, h_s.2.2.2)) : wF F_s 166 (0, [some (.ref 102)], [], (h_s.1, f_s, h_s.2.2.1, h_s.2.2.2)) (gI K_s) := wF_le (Nat.le_succ F_s) (sg_166_0 (h_s := (h_s.1, f_s, h_s.2.2.1, h_s.2.2.2)) hk ⟨fun _ => ⟨fun _ => fun _ => t_s _, fun _ => fun _ => t_s _⟩, fun _ => t_s _⟩)
end RX
theorem prR_up {tk : Nat → Int} {nm : Nat → Int32} {n_s op_s a_s : Nat} {f_s : Nat → Nat → Int32} (hp : prR tk nm n_s op_s a_s f_s) (hl : a_s < n_s) : frR f_s (zup f_s 102 16 (f_s 102 16 + 1)) ∧ prR tk nm n_s op_s (a_s + 1) (zup f_s 102 16 (f_s 102 16 + 1)) := by
  obtain ⟨p1_s, p2_s, p3_s, p4_s, p5_s, p6_s, p7_s, p8_s⟩ := hp
  have fr_s : frR f_s (zup f_s 102 16 (f_s 102 16 + 1)) := frR_16 (fun o k_s hq => zne_up hq)
  refine ⟨fr_s, prR_fr fr_s ⟨p1_s, p2_s, p3_s, p4_s, p5_s, p6_s, p7_s, p8_s⟩ ?_ ?_ hl ?_ p7_s⟩
  · rw [zne_up (by omega)]
    exact p1_s
  · rw [zsame_up, in1_ (by omega)]
    omega
  · rw [zne_up (by omega)]
    exact p6_s
theorem prR_lt {tk : Nat → Int} {nm : Nat → Int32} {n_s op_s a_s : Nat} {f_s : Nat → Nat → Int32} (hp : prR tk nm n_s op_s a_s f_s) (hl : tk a_s ≠ -1) : a_s < n_s := by
  obtain ⟨p1_s, p2_s, p3_s, p4_s, p5_s, p6_s, p7_s, p8_s, p9_s, p10, p11⟩ := hp
  by_cases e_s : a_s < n_s
  · exact e_s
  · exfalso
    rw [← p10] at hl
    unfold tkR at hl
    rw [if_neg (by omega)] at hl
    exact hl rfl
theorem r71_s {F_s : Nat} (i72 : R72 F_s) : R71 (F_s + 1) := by
  intro h_s K_s tk nm n_s op_s a_s f_s hk hp t_s
  have hp7 := hp.2.2.2.2.2.2.1
  refine sg_171_0 (h_s := (h_s.1, f_s, h_s.2.2.1, h_s.2.2.2)) hk ?_
  refine i72 h_s _ tk nm n_s op_s a_s f_s hk hp (fun v1_s f1_s fr1 hr _ => ?_)
  obtain ⟨r_s, hq, hpo⟩ := hr
  match r_s, hq, hpo with
  | .inl e_s, hq, hpo =>
    have hpo : (f1_s 102 18).toInt = (e_s : Int) := hpo
    exact sp_166x hk (fun v2 _ => ⟨fun (c_s : (f1_s 102 18).toInt < 0) => absurd c_s (by omega), fun _ => t_s v1_s f1_s fr1 ⟨.inl e_s, pP_levF (by omega) hq, hpo⟩⟩)
  | .inr p_s, hq, hpo =>
    obtain ⟨g1, g2, g3_s, g4, g5_s⟩ := hpo
    have hp1 : prR tk nm n_s op_s p_s.1 f1_s := prR_fr fr1 hp g1 g2 g3_s g4 hp7
    have don : ¬ lvl (tk p_s.1) = 2 → K_s v1_s (h_s.1, f1_s, h_s.2.2.1, h_s.2.2.2) := fun w_s => t_s v1_s f1_s fr1 ⟨.inr p_s, pP_lev (by omega) hq (pP_end (by omega) (fun u_s => w_s u_s)), g1, g2, g3_s, g4, g5_s⟩
    have cmp_s : ∀ (s_s : Int) (C_s : Int32 → zH → Prop), tk p_s.1 = s_s → lvl s_s = 2 → (∀ v5 f2_s, K_s (jnv v1_s s_s v5) (h_s.1, f2_s, h_s.2.2.1, h_s.2.2.2) → C_s v5 (h_s.1, f2_s, h_s.2.2.1, h_s.2.2.2)) → wF F_s 172 (0, [some (.ref 102), none, none, none], [], (h_s.1, zup f1_s 102 16 (f1_s 102 16 + 1), h_s.2.2.1, h_s.2.2.2)) (gI (fun v5 h5 => hKn h5 → C_s v5 h5)) := by
      intro s_s C_s hs hl hC
      have hlt := prR_lt hp1 (fun w_s => by
        rw [← hs, w_s] at hl
        exact absurd hl (by decide))
      obtain ⟨fr2, hp2⟩ := prR_up hp1 hlt
      refine i72 h_s _ tk nm n_s op_s (p_s.1 + 1) (zup f1_s 102 16 (f1_s 102 16 + 1)) hk hp2 (fun v5 f3_s fr3 hr _ => hC v5 f3_s ?_)
      obtain ⟨r_s, hq2, hpo⟩ := hr
      match r_s, hq2, hpo with
      | .inl e_s, hq2, hpo => exact t_s _ f3_s (frR_tr (frR_tr fr1 fr2) fr3) ⟨.inl e_s, pP_lev (by omega) hq (pP_sgF (by omega) (by rw [hs, hl]; rfl) hq2), hpo⟩
      | .inr y_s, hq2, hpo =>
        obtain ⟨y1, y2, y3, y4, y5⟩ := hpo
        exact t_s _ f3_s (frR_tr (frR_tr fr1 fr2) fr3) ⟨.inr (y_s.1, pjn p_s.2 (tk p_s.1) y_s.2), pP_lev (by omega) hq (pP_sg8 (by rw [hs, hl]) hq2), y1, y2, y3, y4, by rw [hs, g5_s, y5]; rfl⟩
    refine sp_166 hk hp1 (fun v2 hv2 _ => ⟨fun _ => ⟨fun c_s => cmp_s 60 _ (by omega) rfl (fun v5 f2_s hK_s => ?_), fun c_s => ⟨fun c1_s => cmp_s 61 _ (by omega) rfl (fun v5 f2_s hK_s => ?_), fun c1_s => ⟨fun c2_s => cmp_s 62 _ (by omega) rfl (fun v5 f2_s hK_s => ?_), fun c2_s => don ?_⟩⟩⟩, fun (c_s : ¬ (f1_s 102 18).toInt < 0) => absurd g1 (by omega)⟩)
    · unfold jnv at hK_s
      rw [if_neg (by decide), if_neg (by decide), if_pos rfl] at hK_s
      refine ⟨fun e_s => ?_, fun e_s => ?_⟩
      · rw [if_pos e_s] at hK_s
        exact hK_s
      · rw [if_neg e_s] at hK_s
        exact hK_s
    · unfold jnv at hK_s
      rw [if_neg (by decide), if_neg (by decide), if_neg (by decide), if_pos rfl] at hK_s
      refine ⟨fun e_s => ?_, fun e_s => ?_⟩
      · rw [if_pos (Int32.toInt_inj.mp e_s)] at hK_s
        exact hK_s
      · rw [if_neg (fun w_s => e_s (by rw [w_s]))] at hK_s
        exact hK_s
    · unfold jnv at hK_s
      rw [if_neg (by decide), if_neg (by decide), if_neg (by decide), if_neg (by decide), if_pos rfl] at hK_s
      refine ⟨fun e_s => ?_, fun e_s => ?_⟩
      · rw [if_pos e_s] at hK_s
        exact hK_s
      · rw [if_neg e_s] at hK_s
        exact hK_s
    · have q9_s := lvl_in (tk p_s.1)
      omega
theorem l72_s {F_s : Nat} (i73 : R73 F_s) (i72 : RL3 F_s) : RL3 (F_s + 1) := by
  intro h_s K_s tk nm n_s op_s a_s x1_s l2 l3 f_s z_s hk hp hx t_s
  have hp1 := hp.1
  have hp2 := hp.2.1
  have hp3 := hp.2.2.1
  have hp6 := hp.2.2.2.2.2.1
  have hp7 := hp.2.2.2.2.2.2.1
  have sub_s : ∀ (s_s : Int) (g_s : Int32 → Int32) (l : Option Value), tk a_s = s_s → lvl s_s = 3 → (∀ w_s, g_s w_s = jnv x1_s s_s w_s) → wF F_s 173 (0, [some (.ref 102), none, none, none], [], (h_s.1, zup f_s 102 16 (f_s 102 16 + 1), h_s.2.2.1, h_s.2.2.2)) (gI (fun v6 h6 => hKn h6 → wF F_s 172 (5, [some (.ref 102), some (.int (g_s v6)), l, some (.int v6)], [], h6) (gI K_s))) := by
    intro s_s g_s l hs hl hg
    have hlv : lvl (tk a_s) = ((9 : Nat) : Int) - 6 := by rw [hs, hl]; rfl
    have hlt := prR_lt hp (fun w_s => by
      rw [← hs, w_s] at hl
      exact absurd hl (by decide))
    obtain ⟨fr1, hq1⟩ := prR_up hp hlt
    refine i73 h_s _ tk nm n_s op_s (a_s + 1) (zup f_s 102 16 (f_s 102 16 + 1)) hk hq1 (fun v6 f2_s fr2 hr _ => ?_)
    obtain ⟨r_s, hq, hpo⟩ := hr
    match r_s, hq, hpo with
    | .inl e_s, hq, hpo =>
      have hpo : (f2_s 102 18).toInt = (e_s : Int) := hpo
      exact f72 hk (by omega) (t_s _ f2_s (frR_tr fr1 fr2) ⟨.inl e_s, pP_sgF (by omega) hlv hq, hpo⟩)
    | .inr p_s, hq, hpo =>
      obtain ⟨g1, g2, g3_s, g4, g5_s⟩ := hpo
      refine i72 h_s K_s tk nm n_s op_s p_s.1 (g_s v6) l _ f2_s (pjn z_s (tk a_s) p_s.2) hk (prR_fr (frR_tr fr1 fr2) hp g1 g2 g3_s g4 hp7) (by rw [hg, hx, g5_s, hs]; rfl) (fun v1_s f3_s fr3 hr => ?_)
      obtain ⟨r_s, hr1, hr2⟩ := hr
      exact t_s v1_s f3_s (frR_tr (frR_tr fr1 fr2) fr3) ⟨r_s, pP_sg (by omega) (by omega) hlv hq hr1, hr2⟩
  have pl : ∀ w_s, x1_s + w_s = jnv x1_s 43 w_s := fun w_s => by
    unfold jnv
    rw [if_neg (by decide), if_neg (by decide), if_neg (by decide), if_neg (by decide), if_neg (by decide), if_pos rfl]
  have mi_ : ∀ w_s, x1_s - w_s = jnv x1_s 45 w_s := fun w_s => by
    unfold jnv
    rw [if_neg (by decide), if_neg (by decide), if_neg (by decide), if_neg (by decide), if_neg (by decide), if_neg (by decide), if_pos rfl]
  refine sg_172_5 (h_s := (h_s.1, f_s, h_s.2.2.1, h_s.2.2.2)) hk ⟨fun _ => ?_, fun (c_s : ¬ (f_s 102 18).toInt < 0) => absurd hp1 (by omega)⟩
  refine sp_166 hk hp (fun v2 hv2 _ => ⟨fun c1_s => ?_, fun c1_s => ?_⟩)
  · refine sp_166 hk hp (fun v4_s hv4 _ => ⟨fun c2_s => ?_, fun c2_s => absurd c2_s (by omega)⟩)
    exact sub_s 43 (fun w_s => x1_s + w_s) _ (by omega) rfl pl
  · refine sp_166 hk hp (fun v8 hv8 _ => ⟨fun c2_s => ?_, fun c2_s => ?_⟩)
    · refine sp_166 hk hp (fun v9 hv9 _ => ⟨fun c3_s => absurd c3_s (by omega), fun c3_s => ?_⟩)
      exact sub_s 45 (fun w_s => x1_s - w_s) _ (by omega) rfl mi_
    · refine t_s x1_s f_s frR_rf ⟨.inr (a_s, z_s), pP_end (by omega) ?_, hp1, hp2, hp3, hp6, hx⟩
      have q9_s := lvl_in (tk a_s)
      omega
theorem l73_s {F_s : Nat} (i75 : R75 F_s) (i73 : RL4 F_s) : RL4 (F_s + 1) := by
  intro h_s K_s tk nm n_s op_s a_s x1_s x2_s l3 f_s z_s hk hp hx hx2 t_s
  have hp1 := hp.1
  have hp2 := hp.2.1
  have hp3 := hp.2.2.1
  have hp6 := hp.2.2.2.2.2.1
  have hp7 := hp.2.2.2.2.2.2.1
  have sub_s : ∀ (s_s : Int) (C_s : Int32 → zH → Prop), tk a_s = s_s → lvl s_s = 4 → (∀ v3 f2_s, (∀ y_s, y_s = jnv x1_s s_s v3 → wF F_s 166 (0, [some (.ref 102)], [], (h_s.1, f2_s, h_s.2.2.1, h_s.2.2.2)) (gI (fun v5 h5 => hKn h5 → wF F_s 173 (10, [some (.ref 102), some (.int y_s), some (.int v5), some (.int v3)], [], h5) (gI K_s)))) → C_s v3 (h_s.1, f2_s, h_s.2.2.1, h_s.2.2.2)) → wF F_s 175 (0, [some (.ref 102), none, none, none, none], [], (h_s.1, zup f_s 102 16 (f_s 102 16 + 1), h_s.2.2.1, h_s.2.2.2)) (gI (fun v3 h3 => hKn h3 → C_s v3 h3)) := by
    intro s_s C_s hs hl hC
    have hlv : lvl (tk a_s) = ((10 : Nat) : Int) - 6 := by rw [hs, hl]; rfl
    have hlt := prR_lt hp (fun w_s => by
      rw [← hs, w_s] at hl
      exact absurd hl (by decide))
    obtain ⟨fr1, hq1⟩ := prR_up hp hlt
    refine i75 h_s _ tk nm n_s op_s (a_s + 1) (zup f_s 102 16 (f_s 102 16 + 1)) hk hq1 (fun v3 f2_s fr2 hr _ => hC v3 f2_s (fun y_s hy => ?_))
    obtain ⟨r_s, hq, hpo⟩ := hr
    match r_s, hq, hpo with
    | .inl e_s, hq, hpo =>
      have hpo : (f2_s 102 18).toInt = (e_s : Int) := hpo
      exact sp_166x hk (fun v5 _ => f73 hk (by omega) (t_s _ f2_s (frR_tr fr1 fr2) ⟨.inl e_s, pP_sgF (by omega) hlv hq, hpo⟩))
    | .inr p_s, hq, hpo =>
      obtain ⟨g1, g2, g3_s, g4, g5_s⟩ := hpo
      have hq2 : prR tk nm n_s op_s p_s.1 f2_s := prR_fr (frR_tr fr1 fr2) hp g1 g2 g3_s g4 hp7
      refine sp_166 hk hq2 (fun v5 hv5 _ => ?_)
      refine i73 h_s K_s tk nm n_s op_s p_s.1 y_s v5 _ f2_s (pjn z_s (tk a_s) p_s.2) hk hq2 (by rw [hy, hx, g5_s, hs]; rfl) hv5 (fun v1_s f3_s fr3 hr => ?_)
      obtain ⟨r_s, hr1, hr2⟩ := hr
      exact t_s v1_s f3_s (frR_tr (frR_tr fr1 fr2) fr3) ⟨r_s, pP_sg (by omega) (by omega) hlv hq hr1, hr2⟩
  refine sg_173_10 (h_s := (h_s.1, f_s, h_s.2.2.1, h_s.2.2.2)) hk ⟨fun _ => ⟨fun c1_s => sub_s 42 _ (by omega) rfl (fun v3 f2_s go_s => go_s _ ?_), fun c1_s => ⟨fun c2_s => sub_s 47 _ (by omega) rfl (fun v3 f2_s go_s => ⟨fun e_s => go_s _ ?_, fun e_s => go_s _ ?_⟩), fun c2_s => ⟨fun c3_s => sub_s 37 _ (by omega) rfl (fun v3 f2_s go_s => ⟨fun e_s => go_s _ ?_, fun e_s => go_s _ ?_⟩), fun c3_s => ?_⟩⟩⟩, fun (c_s : ¬ (f_s 102 18).toInt < 0) => absurd hp1 (by omega)⟩
  · unfold jnv
    rw [if_neg (by decide), if_neg (by decide), if_neg (by decide), if_neg (by decide), if_neg (by decide), if_neg (by decide), if_neg (by decide), if_pos rfl]
  · unfold jnv
    rw [if_neg (by decide), if_neg (by decide), if_neg (by decide), if_neg (by decide), if_neg (by decide), if_neg (by decide), if_neg (by decide), if_neg (by decide), if_pos rfl, if_pos (i0_ e_s)]
  · unfold jnv
    rw [if_neg (by decide), if_neg (by decide), if_neg (by decide), if_neg (by decide), if_neg (by decide), if_neg (by decide), if_neg (by decide), if_neg (by decide), if_pos rfl, if_neg (n0_ e_s)]
  · unfold jnv
    rw [if_neg (by decide), if_neg (by decide), if_neg (by decide), if_neg (by decide), if_neg (by decide), if_neg (by decide), if_neg (by decide), if_neg (by decide), if_neg (by decide), if_pos rfl, if_pos (i0_ e_s)]
  · unfold jnv
    rw [if_neg (by decide), if_neg (by decide), if_neg (by decide), if_neg (by decide), if_neg (by decide), if_neg (by decide), if_neg (by decide), if_neg (by decide), if_neg (by decide), if_pos rfl, if_neg (n0_ e_s)]
  · refine t_s x1_s f_s frR_rf ⟨.inr (a_s, z_s), pP_end (by omega) ?_, hp1, hp2, hp3, hp6, hx⟩
    have q9_s := lvl_in (tk a_s)
    omega
theorem r69_s {F_s : Nat} (i70 : R70 F_s) (i69 : RL1 169 6 F_s) : R69 (F_s + 1) := by
  intro h_s K_s tk nm n_s op_s a_s f_s hk hp t_s
  refine sg_169_0 (h_s := (h_s.1, f_s, h_s.2.2.1, h_s.2.2.2)) hk ?_
  refine i70 h_s _ tk nm n_s op_s a_s f_s hk hp (fun v1_s f1_s fr1 hr _ => ?_)
  obtain ⟨r_s, hq, hpo⟩ := hr
  match r_s, hq, hpo with
  | .inl e_s, hq, hpo =>
    have hpo : (f1_s 102 18).toInt = (e_s : Int) := hpo
    exact f69 hk (by omega) (t_s v1_s f1_s fr1 ⟨.inl e_s, pP_levF (by omega) hq, hpo⟩)
  | .inr p_s, hq, hpo =>
    obtain ⟨g1, g2, g3_s, g4, g5_s⟩ := hpo
    refine i69 h_s K_s tk nm n_s op_s p_s.1 v1_s none f1_s p_s.2 hk (prR_fr fr1 hp g1 g2 g3_s g4 hp.2.2.2.2.2.2.1) g5_s (fun v2 f2_s fr2 hr => ?_)
    obtain ⟨r_s, hr1, hr2⟩ := hr
    exact t_s v2 f2_s (frR_tr fr1 fr2) ⟨r_s, pP_lev (by omega) hq hr1, hr2⟩
theorem r70_s {F_s : Nat} (i71 : R71 F_s) (i70 : RL1 170 7 F_s) : R70 (F_s + 1) := by
  intro h_s K_s tk nm n_s op_s a_s f_s hk hp t_s
  refine sg_170_0 (h_s := (h_s.1, f_s, h_s.2.2.1, h_s.2.2.2)) hk ?_
  refine i71 h_s _ tk nm n_s op_s a_s f_s hk hp (fun v1_s f1_s fr1 hr _ => ?_)
  obtain ⟨r_s, hq, hpo⟩ := hr
  match r_s, hq, hpo with
  | .inl e_s, hq, hpo =>
    have hpo : (f1_s 102 18).toInt = (e_s : Int) := hpo
    exact f70 hk (by omega) (t_s v1_s f1_s fr1 ⟨.inl e_s, pP_levF (by omega) hq, hpo⟩)
  | .inr p_s, hq, hpo =>
    obtain ⟨g1, g2, g3_s, g4, g5_s⟩ := hpo
    refine i70 h_s K_s tk nm n_s op_s p_s.1 v1_s none f1_s p_s.2 hk (prR_fr fr1 hp g1 g2 g3_s g4 hp.2.2.2.2.2.2.1) g5_s (fun v2 f2_s fr2 hr => ?_)
    obtain ⟨r_s, hr1, hr2⟩ := hr
    exact t_s v2 f2_s (frR_tr fr1 fr2) ⟨r_s, pP_lev (by omega) hq hr1, hr2⟩
theorem r72_s {F_s : Nat} (i73 : R73 F_s) (i72 : RL3 F_s) : R72 (F_s + 1) := by
  intro h_s K_s tk nm n_s op_s a_s f_s hk hp t_s
  refine sg_172_0 (h_s := (h_s.1, f_s, h_s.2.2.1, h_s.2.2.2)) hk ?_
  refine i73 h_s _ tk nm n_s op_s a_s f_s hk hp (fun v1_s f1_s fr1 hr _ => ?_)
  obtain ⟨r_s, hq, hpo⟩ := hr
  match r_s, hq, hpo with
  | .inl e_s, hq, hpo =>
    have hpo : (f1_s 102 18).toInt = (e_s : Int) := hpo
    exact f72 hk (by omega) (t_s v1_s f1_s fr1 ⟨.inl e_s, pP_levF (by omega) hq, hpo⟩)
  | .inr p_s, hq, hpo =>
    obtain ⟨g1, g2, g3_s, g4, g5_s⟩ := hpo
    refine i72 h_s K_s tk nm n_s op_s p_s.1 v1_s none none f1_s p_s.2 hk (prR_fr fr1 hp g1 g2 g3_s g4 hp.2.2.2.2.2.2.1) g5_s (fun v2 f2_s fr2 hr => ?_)
    obtain ⟨r_s, hr1, hr2⟩ := hr
    exact t_s v2 f2_s (frR_tr fr1 fr2) ⟨r_s, pP_lev (by omega) hq hr1, hr2⟩
theorem r73_s {F_s : Nat} (i75 : R75 F_s) (i73 : RL4 F_s) : R73 (F_s + 1) := by
  intro h_s K_s tk nm n_s op_s a_s f_s hk hp t_s
  refine sg_173_0 (h_s := (h_s.1, f_s, h_s.2.2.1, h_s.2.2.2)) hk ?_
  refine i75 h_s _ tk nm n_s op_s a_s f_s hk hp (fun v1_s f1_s fr1 hr _ => ?_)
  obtain ⟨r_s, hq, hpo⟩ := hr
  match r_s, hq, hpo with
  | .inl e_s, hq, hpo =>
    have hpo : (f1_s 102 18).toInt = (e_s : Int) := hpo
    exact sp_166x hk (fun v2 _ => f73 hk (by omega) (t_s v1_s f1_s fr1 ⟨.inl e_s, pP_levF (by omega) hq, hpo⟩))
  | .inr p_s, hq, hpo =>
    obtain ⟨g1, g2, g3_s, g4, g5_s⟩ := hpo
    have hp1 : prR tk nm n_s op_s p_s.1 f1_s := prR_fr fr1 hp g1 g2 g3_s g4 hp.2.2.2.2.2.2.1
    refine sp_166 hk hp1 (fun v2 hv2 _ => ?_)
    refine i73 h_s K_s tk nm n_s op_s p_s.1 v1_s v2 none f1_s p_s.2 hk hp1 g5_s hv2 (fun v3 f2_s fr2 hr => ?_)
    obtain ⟨r_s, hr1, hr2⟩ := hr
    exact t_s v3 f2_s (frR_tr fr1 fr2) ⟨r_s, pP_lev (by omega) hq hr1, hr2⟩
/-! THE REFERENCE READS A TEXT: operands; lines. -/
theorem num75 {h_s : zH} {K_s : Int32 → zH → Prop} {tk : Nat → Int} {nm : Nat → Int32} {n_s op_s a1_s : Nat} {v1_s x1_s x2_s : Int32} {f0_s : Nat → Nat → Int32} (hk : hKn h_s) (t_s : ∀ f1_s, frR f0_s f1_s → (f1_s 102 18).toInt = -1 → (f1_s 102 16).toInt = (a1_s : Int) → a1_s ≤ n_s → (f1_s 102 19).toInt = (op_s : Int) → K_s v1_s (h_s.1, f1_s, h_s.2.2.1, h_s.2.2.2)) : ∀ (F_s k_s a_s : Nat) (v_s x4_s : Int32) (f_s : Nat → Nat → Int32), x4_s.toInt = (k_s : Int) → k_s ≤ 4 → prR tk nm n_s op_s a_s f_s → frR f0_s f_s → (0 < k_s ∨ (48 ≤ tk a_s ∧ tk a_s ≤ 57)) → pdg tk (4 - k_s) a_s v_s = (a1_s, v1_s) → wF F_s 175 (176, [some (.ref 102), some (.int x1_s), some (.int x2_s), some (.int v_s), some (.int x4_s)], [], (h_s.1, f_s, h_s.2.2.1, h_s.2.2.2)) (gI K_s)
  | 0, _, _, _, _, _, _, _, _, _, _, _ => wF_zero
  | F_s + 1, k_s, a_s, v_s, x4_s, f_s, hx, h4, hp, hf, hd_s, hq => by
    have don : (a_s, v_s) = (a1_s, v1_s) → K_s v_s (h_s.1, f_s, h_s.2.2.1, h_s.2.2.2) := fun w_s => by
      cases w_s
      exact t_s f_s hf hp.1 hp.2.1 hp.2.2.1 hp.2.2.2.2.2.1
    refine sg_175_176 (h_s := (h_s.1, f_s, h_s.2.2.1, h_s.2.2.2)) hk ⟨fun c1_s => ?_, fun c1_s => ⟨fun c2_s => absurd c2_s (by omega), fun c2_s => ?_⟩⟩
    · have e4_s : 4 - k_s = (4 - (k_s + 1)) + 1 := by omega
      rw [e4_s] at hq
      unfold pdg at hq
      refine sp_166 hk hp (fun v2 hv2 _ => ⟨fun c_s => ⟨fun c2_s => ?_, fun c2_s => ?_⟩, fun c_s => ?_⟩)
      · omega
      · rw [if_neg (by omega)] at hq
        exact don hq
      · refine sp_166 hk hp (fun v6 hv6 _ => ⟨fun c3_s => ⟨fun c2_s => ?_, fun c2_s => ?_⟩, fun c3_s => ?_⟩)
        · omega
        · rw [if_neg (by omega)] at hq
          exact don hq
        · refine sp_166 hk hp (fun v10 hv10 _ => ?_)
          have hdg : 48 ≤ tk a_s ∧ tk a_s ≤ 57 := by omega
          rw [if_pos hdg] at hq
          have hlt := prR_lt hp (by omega)
          obtain ⟨fr1, hp1⟩ := prR_up hp hlt
          refine num75 hk t_s F_s (k_s + 1) (a_s + 1) _ (x4_s + 1) _ ?_ (by omega) hp1 (frR_tr hf fr1) (by omega) ?_
          · rw [in1_ (by omega)]
            omega
          · have e7_s : v10.toInt = tk a_s := by omega
            rw [ofI_ e7_s, Int32.mul_comm] at hq
            exact hq
    · have e4_s : 4 - k_s = 0 := by omega
      rw [e4_s] at hq
      exact don hq
theorem nd75 {F_s : Nat} {h_s : zH} {K_s : Int32 → zH → Prop} {tk : Nat → Int} {nm : Nat → Int32} {n_s op_s a_s : Nat} {x1_s x2_s v_s : Int32} {f_s : Nat → Nat → Int32} (hk : hKn h_s) (hp : prR tk nm n_s op_s a_s f_s) (hd_s : ¬ (48 ≤ tk a_s ∧ tk a_s ≤ 57)) (t_s : ∀ f1_s, frR f_s f1_s → (f1_s 102 18).toInt = (a_s : Int) → K_s 0 (h_s.1, f1_s, h_s.2.2.1, h_s.2.2.2)) : wF F_s 175 (176, [some (.ref 102), some (.int x1_s), some (.int x2_s), some (.int v_s), some (.int 0)], [], (h_s.1, f_s, h_s.2.2.1, h_s.2.2.2)) (gI K_s) := by
  have hp1 := hp.1
  have hp2 := hp.2.1
  have wr_s : wF F_s 167 (0, [some (.ref 102)], [], (h_s.1, f_s, h_s.2.2.1, h_s.2.2.2)) (gI (fun v5 h5 => hKn h5 → K_s v5 h5)) := sp_167 hk (fun _ f1_s b1 b2 _ => t_s f1_s (fun o k_s hq => b2 o k_s (by omega)) (by rw [b1]; exact hp2)) (fun c_s => absurd c_s (by omega))
  refine wF_le (Nat.le_succ F_s) (sg_175_176 (h_s := (h_s.1, f_s, h_s.2.2.1, h_s.2.2.2)) hk ⟨fun c1_s => ?_, fun c1_s => absurd c1_s (by decide)⟩)
  refine sp_166 hk hp (fun v2 hv2 _ => ⟨fun c_s => ⟨fun c2_s => wr_s, fun c2_s => absurd rfl c2_s⟩, fun c_s => ?_⟩)
  refine sp_166 hk hp (fun v6 hv6 _ => ⟨fun c3_s => ⟨fun c2_s => wr_s, fun c2_s => absurd rfl c2_s⟩, fun c3_s => ?_⟩)
  omega
theorem r75_s {F_s : Nat} (i69 : R69 F_s) (i75 : R75 F_s) : R75 (F_s + 1) := by
  intro h_s K_s tk nm n_s op_s a_s f_s hk hp t_s
  have hp1 := hp.1
  have hp2 := hp.2.1
  have hp3 := hp.2.2.1
  have hp5 := hp.2.2.2.2.1
  have hp6 := hp.2.2.2.2.2.1
  have hp7 := hp.2.2.2.2.2.2.1
  have hp9 := hp.2.2.2.2.2.2.2.2.1
  have hp11 := hp.2.2.2.2.2.2.2.2.2.2
  have tout : ∀ k_s, n_s ≤ k_s → tk k_s = -1 := fun k_s hq => by
    rw [← hp.2.2.2.2.2.2.2.2.2.1]
    unfold tkR
    rw [if_neg (by have := hp.2.2.2.1; omega)]
  have flt_s : (¬ (48 ≤ tk a_s ∧ tk a_s ≤ 57)) → ¬ 0 ≤ nmo (tk a_s) → (¬ (tk a_s = 40 ∨ tk a_s = 33 ∨ tk a_s = 45) ∨ 6 ≤ op_s) → ∀ v_s f1_s, frR f_s f1_s → (f1_s 102 18).toInt = (a_s : Int) → K_s v_s (h_s.1, f1_s, h_s.2.2.1, h_s.2.2.2) := fun c1_s c2_s c3_s v_s f1_s fr1 e_s => t_s v_s f1_s fr1 ⟨.inl a_s, pP_bad c1_s c2_s c3_s, e_s⟩
  have at32 : ∀ x1_s : Int32, x1_s.toInt = tk a_s → (tk a_s = 40 ∨ tk a_s = 33 ∨ tk a_s = 45) → wF F_s 175 (32, [some (.ref 102), some (.int x1_s), none, none, none], [], (h_s.1, f_s, h_s.2.2.1, h_s.2.2.2)) (gI K_s) := by
    intro x1_s hx hs
    have hnm : ¬ 0 ≤ nmo (tk a_s) := by
      rcases hs with e_s | e_s | e_s
      · rw [e_s]
        decide
      · rw [e_s]
        decide
      · rw [e_s]
        decide
    have hlt := prR_lt hp (by omega)
    refine wF_le (Nat.le_succ F_s) (sg_175_32 (h_s := (h_s.1, f_s, h_s.2.2.1, h_s.2.2.2)) hk ⟨fun (c_s : (f_s 102 19).toInt = 6) => ?_, fun (c_s : ¬ (f_s 102 19).toInt = 6) => ?_⟩)
    · exact sp_167 hk (fun _ f1_s b1 b2 _ => flt_s (by omega) hnm (by omega) 0 f1_s (fun o k_s hq => b2 o k_s (by omega)) (by rw [b1]; exact hp2)) (fun c_s => absurd c_s (by omega))
    · have ho6 : op_s < 6 := by omega
      have fr1 : frR f_s (zup (zup f_s 102 19 (f_s 102 19 + 1)) 102 16 (f_s 102 16 + 1)) := fun o k_s hq => by rw [zne_up (by omega), zne_up (by omega)]
      have hq1 : prR tk nm n_s (op_s + 1) (a_s + 1) (zup (zup f_s 102 19 (f_s 102 19 + 1)) 102 16 (f_s 102 16 + 1)) := by
        refine prR_fr fr1 hp ?_ ?_ hlt ?_ (by omega)
        · rw [zne_up (by omega), zne_up (by omega)]
          exact hp1
        · rw [zsame_up, in1_ (by omega)]
          omega
        · rw [zne_up (by omega), zsame_up, in1_ (by omega)]
          omega
      have dn : ∀ (f2_s : Nat → Nat → Int32), (f2_s 102 19).toInt = ((op_s + 1 : Nat) : Int) → (zup f2_s 102 19 (f2_s 102 19 - 1) 102 19).toInt = (op_s : Int) := fun f2_s e_s => by
        rw [zsame_up, na_sub (by rw [n1_]; omega) (by rw [n1_]; omega), n1_]
        omega
      refine ⟨fun e40 => ?_, fun e40 => ?_⟩
      · have h40 : tk a_s = 40 := by omega
        refine i69 h_s _ tk nm n_s (op_s + 1) (a_s + 1) _ hk hq1 (fun v4_s f2_s fr2 hr _ => ?_)
        obtain ⟨r_s, hq, hpo⟩ := hr
        match r_s, hq, hpo with
        | .inl e_s, hq, hpo =>
          have hpo : (f2_s 102 18).toInt = (e_s : Int) := hpo
          refine sp_168F hk (by omega) (fun _ => ⟨fun _ => ?_, fun w_s => absurd rfl w_s⟩)
          refine sp_167 hk (fun c_s => absurd c_s (by omega)) (fun _ f3_s b3 _ => t_s 0 f3_s (fun o k_s hq => ?_) ⟨.inl e_s, pP_parF h40 ho6 hq, ?_⟩)
          · rw [b3]
            exact frR_tr fr1 fr2 o k_s hq
          · show (f3_s 102 18).toInt = _
            rw [b3]
            exact hpo
        | .inr p_s, hq, hpo =>
          obtain ⟨g1, g2, g3_s, g4, g5_s⟩ := hpo
          have hq2 : prR tk nm n_s (op_s + 1) p_s.1 f2_s := prR_fr (frR_tr fr1 fr2) hp g1 g2 g3_s g4 (by omega)
          refine sp_168 (x1_s := 41) hk hq2 (by decide) (fun c9_s f3_s b1 b2 _ => ⟨fun w_s => absurd w_s (by decide), fun _ => ?_⟩) (fun c9_s _ => ⟨fun _ => ?_, fun w_s => absurd rfl w_s⟩)
          · have c9_s : tk p_s.1 = 41 := c9_s
            have hl2 := prR_lt hq2 (by omega)
            refine t_s v4_s (zup f3_s 102 19 (f3_s 102 19 - 1)) (fun o k_s hq => ?_) ⟨.inr (p_s.1 + 1, p_s.2), pP_par h40 ho6 hq c9_s, ?_, ?_, hl2, ?_, g5_s⟩
            · rw [zne_up (by omega), b2 o k_s (by omega)]
              exact frR_tr fr1 fr2 o k_s hq
            · rw [zne_up (by omega), b2 _ _ (by omega)]
              exact g1
            · rw [zne_up (by omega)]
              exact b1
            · exact dn f3_s (by rw [b2 _ _ (by omega)]; exact g4)
          · have c9_s : ¬ tk p_s.1 = 41 := c9_s
            exact sp_167 hk (fun _ f3_s b1 b2 _ => t_s 0 f3_s (fun o k_s hq => (b2 o k_s (by omega)).trans (frR_tr fr1 fr2 o k_s hq)) ⟨.inl p_s.1, pP_parN h40 ho6 hq c9_s, by
              show (f3_s 102 18).toInt = _
              rw [b1]
              exact g2⟩) (fun c_s => absurd c_s (by omega))
      · have h33 : tk a_s = 33 ∨ tk a_s = 45 := by omega
        refine i75 h_s _ tk nm n_s (op_s + 1) (a_s + 1) _ hk hq1 (fun v10 f2_s fr2 hr _ => ?_)
        obtain ⟨r_s, hq, hpo⟩ := hr
        have fr3 : frR f_s (zup f2_s 102 19 (f2_s 102 19 - 1)) := fun o k_s hq => by
          rw [zne_up (by omega)]
          exact frR_tr fr1 fr2 o k_s hq
        match r_s, hq, hpo with
        | .inl e_s, hq, hpo =>
          have hpo : (f2_s 102 18).toInt = (e_s : Int) := hpo
          have tt : ∀ v_s, K_s v_s (h_s.1, zup f2_s 102 19 (f2_s 102 19 - 1), h_s.2.2.1, h_s.2.2.2) := fun v_s => t_s v_s _ fr3 ⟨.inl e_s, pP_unF h33 ho6 hq, by
            show (zup f2_s 102 19 (f2_s 102 19 - 1) 102 18).toInt = _
            rw [zne_up (by omega)]
            exact hpo⟩
          exact ⟨fun _ => tt _, fun _ => ⟨fun _ => tt _, fun _ => tt _⟩⟩
        | .inr p_s, hq, hpo =>
          obtain ⟨g1, g2, g3_s, g4, g5_s⟩ := hpo
          have tt : ∀ v_s, v_s = (pun (tk a_s) p_s.2).2.1 nm → K_s v_s (h_s.1, zup f2_s 102 19 (f2_s 102 19 - 1), h_s.2.2.1, h_s.2.2.2) := fun v_s hv => t_s v_s _ fr3 ⟨.inr (p_s.1, pun (tk a_s) p_s.2), pP_un h33 ho6 hq, by
              rw [zne_up (by omega)]
              exact g1, by
              rw [zne_up (by omega)]
              exact g2, g3_s, dn f2_s g4, hv⟩
          refine ⟨fun e_s => tt _ ?_, fun e_s => ⟨fun e1_s => tt _ ?_, fun e1_s => tt _ ?_⟩⟩
          · show -v10 = (if tk a_s = 33 then (if p_s.2.2.1 nm = 0 then (1 : Int32) else 0) else -(p_s.2.2.1 nm))
            rw [if_neg (by omega), g5_s]
          · show (1 : Int32) = (if tk a_s = 33 then (if p_s.2.2.1 nm = 0 then (1 : Int32) else 0) else -(p_s.2.2.1 nm))
            rw [if_pos (by omega), ← g5_s, if_pos (i0_ e1_s)]
          · show (0 : Int32) = (if tk a_s = 33 then (if p_s.2.2.1 nm = 0 then (1 : Int32) else 0) else -(p_s.2.2.1 nm))
            rw [if_pos (by omega), ← g5_s, if_neg (n0_ e1_s)]
  refine sg_175_0 (h_s := (h_s.1, f_s, h_s.2.2.1, h_s.2.2.2)) hk ⟨fun _ => ?_, fun (c_s : ¬ (f_s 102 18).toInt < 0) => absurd hp1 (by omega)⟩
  refine sp_166 hk hp (fun v2 hv2 _ => ⟨fun c1_s => at32 v2 (by omega) (by omega), fun c1_s => ⟨fun c2_s => at32 v2 (by omega) (by omega), fun c2_s => ⟨fun c3_s => at32 v2 (by omega) (by omega), fun c3_s => ?_⟩⟩⟩)
  have n3_s : ¬ (tk a_s = 40 ∨ tk a_s = 33 ∨ tk a_s = 45) := by omega
  have nme : nmo v2.toInt = nmo (tk a_s) := by
    rcases hv2 with ⟨e1_s, e2_s⟩ | ⟨e1_s, e2_s⟩
    · rw [e1_s, e2_s]
      rfl
    · rw [e2_s]
  refine sp_174 (h_s := (h_s.1, f_s, h_s.2.2.1, h_s.2.2.2)) hk (fun v6 hv6 _ => ⟨fun e_s => ?_, fun e_s => fun e6_s => ?_⟩)
  · have hn0 : ¬ 0 ≤ nmo (tk a_s) := by
      rw [← nme, ← hv6]
      omega
    by_cases hd_s : 48 ≤ tk a_s ∧ tk a_s ≤ 57
    · refine num75 (f0_s := f_s) (a1_s := (pdg tk 4 a_s 0).1) (v1_s := (pdg tk 4 a_s 0).2) hk (fun f1_s fr1 b1 b2 b3 b4 => t_s _ f1_s fr1 ⟨_, pP_num hd_s, b1, b2, b3, b4, rfl⟩) F_s 0 a_s 0 0 f_s rfl (by omega) hp frR_rf (Or.inr hd_s) rfl
    · exact nd75 hk hp hd_s (fun f1_s fr1 b1 => flt_s hd_s hn0 (Or.inl n3_s) 0 f1_s fr1 b1)
  · have hn0 : 0 ≤ nmo (tk a_s) := by
      rw [← nme, ← hv6]
      omega
    have hd_s : ¬ (48 ≤ tk a_s ∧ tk a_s ≤ 57) := fun w_s => by
      have hb_s : nmo (tk a_s) = -1 := by
        unfold nmo
        rw [if_neg (by omega), if_neg (by omega), if_neg (by omega), if_neg (by omega), if_neg (by omega), if_neg (by omega)]
      omega
    have hlt := prR_lt hp (fun w_s => by
      rw [w_s] at hn0
      exact absurd hn0 (by decide))
    obtain ⟨fr1, q1_s⟩ := prR_up hp hlt
    have zz := azix (i := v6) (by omega)
    have ez : zix v6 = (nmo (tk a_s)).toNat := by
      have : v6.toInt = nmo (tk a_s) := by rw [hv6, nme]
      omega
    refine t_s _ _ fr1 ⟨_, pP_nam hd_s hn0, q1_s.1, q1_s.2.1, q1_s.2.2.1, q1_s.2.2.2.2.2.1, ?_⟩
    show f_s 111 (zix v6) = nm (nmo (tk a_s)).toNat
    rw [ez]
    exact hp11 _
theorem rpar : ∀ F_s, (R69 F_s ∧ R70 F_s ∧ R71 F_s) ∧ (R72 F_s ∧ R73 F_s ∧ R75 F_s) ∧ (RL1 169 6 F_s ∧ RL1 170 7 F_s) ∧ RL3 F_s ∧ RL4 F_s
  | 0 => by
    refine ⟨⟨?_, ?_, ?_⟩, ⟨?_, ?_, ?_⟩, ⟨?_, ?_⟩, ?_, ?_⟩ <;> (intro _ _ _ _ _ _ _; intros; exact wF_zero)
  | F_s + 1 => by
    obtain ⟨⟨i1_s, i2_s, i3_s⟩, ⟨i4_s, i5_s, i6_s⟩, ⟨i7_s, i8_s⟩, i9_s, i10_s⟩ := rpar F_s
    exact ⟨⟨r69_s i2_s i7_s, r70_s i3_s i8_s, r71_s i4_s⟩, ⟨r72_s i5_s i9_s, r73_s i6_s i10_s, r75_s i1_s i6_s⟩, ⟨l69_s i2_s i7_s, l70_s i3_s i8_s⟩, l72_s i5_s i9_s, l73_s i6_s i10_s⟩
/-! THE REFERENCE WORKS A TEXT OUT. -/
noncomputable def gvL (nm : Nat → Int32) : List pB → Option Int32
  | [] => none
  | l :: r_s => (match l.1 with
    | none => some (l.2.2.1 nm)
    | some y_s => if y_s.2.1 nm = 0 then gvL nm r_s else some (l.2.2.1 nm))
noncomputable def gvo (g_s g1 : Option Int32) : Option Int32 := match g_s with
  | some v_s => some v_s
  | none => g1
theorem gvL_end (nm : Nat → Int32) : ∀ (l : List pB) (p_s : pB), gvL nm (l ++ [p_s]) = gvo (gvL nm l) (gvL nm [p_s])
  | [], p_s => rfl
  | a_s :: l, p_s => by
    have ih_s := gvL_end nm l p_s
    obtain ⟨o, b_s⟩ := a_s
    cases o with
    | none => rfl
    | some y_s =>
      show (if y_s.2.1 nm = 0 then gvL nm (l ++ [p_s]) else some (b_s.2.1 nm)) = gvo (if y_s.2.1 nm = 0 then gvL nm l else some (b_s.2.1 nm)) (gvL nm [p_s])
      by_cases e_s : y_s.2.1 nm = 0
      · rw [if_pos e_s, if_pos e_s]
        exact ih_s
      · rw [if_neg e_s, if_neg e_s]
        rfl
noncomputable def gvi (g_s : Option Int32) (x3 x4_s : Int32) : Prop := match g_s with
  | none => x3.toInt = 0 ∧ x4_s = 0
  | some v_s => ¬ x3.toInt = 0 ∧ x4_s = v_s
theorem gvi_get {g_s : Option Int32} {x3 x4_s : Int32} (hg : gvi g_s x3 x4_s) : x4_s = g_s.getD 0 := by
  cases g_s with
  | none => exact hg.2
  | some v_s => exact hg.2
noncomputable def poW (nm : Nat → Int32) (f1_s : Nat → Nat → Int32) (v_s : Int32) : Nat ⊕ List pB → Prop
  | .inl e_s => (f1_s 102 18).toInt = (e_s : Int)
  | .inr ls => (f1_s 102 18).toInt = -1 ∧ v_s = (gvL nm ls).getD 0
section WO
variable {F_s : Nat} {h_s : zH} {K_s : Int32 → zH → Prop} {tk : Nat → Int} {nm : Nat → Int32} {n_s a_s : Nat} {x1_s x2_s x3 x4_s x5_s x6 x7 : Int32} {l6 l7 : Option Value} {f_s : Nat → Nat → Int32}
theorem e33F (hk : hKn h_s) (h5 : x5_s.toInt = 0) (hf : 0 ≤ (f_s 102 18).toInt) (t_s : K_s x4_s (h_s.1, f_s, h_s.2.2.1, h_s.2.2.2)) : wF F_s 176 (33, [some (.ref 102), some (.int x1_s), some (.int x2_s), some (.int x3), some (.int x4_s), some (.int x5_s), l6, l7], [], (h_s.1, f_s, h_s.2.2.1, h_s.2.2.2)) (gI K_s) := wF_le (Nat.le_succ F_s) (sg_176_33 (h_s := (h_s.1, f_s, h_s.2.2.1, h_s.2.2.2)) hk ⟨fun _ => ⟨fun (c_s : (f_s 102 18).toInt < 0) => absurd c_s (by omega), fun _ => t_s⟩, fun c_s => absurd h5 c_s⟩)
theorem e33 (hk : hKn h_s) (h5 : x5_s.toInt = 0) (hp : prR tk nm n_s 0 a_s f_s) (t1_s : a_s < n_s → ∀ f1_s, frR f_s f1_s → (f1_s 102 18).toInt = (a_s : Int) → K_s 0 (h_s.1, f1_s, h_s.2.2.1, h_s.2.2.2)) (t2_s : n_s ≤ a_s → K_s x4_s (h_s.1, f_s, h_s.2.2.1, h_s.2.2.2)) : wF F_s 176 (33, [some (.ref 102), some (.int x1_s), some (.int x2_s), some (.int x3), some (.int x4_s), some (.int x5_s), l6, l7], [], (h_s.1, f_s, h_s.2.2.1, h_s.2.2.2)) (gI K_s) := by
  have p1_s := hp.1
  have p2_s := hp.2.1
  have p4_s := hp.2.2.2.1
  refine wF_le (Nat.le_succ F_s) (sg_176_33 (h_s := (h_s.1, f_s, h_s.2.2.1, h_s.2.2.2)) hk ⟨fun _ => ⟨fun _ => ⟨fun (c_s : (f_s 102 16).toInt < (f_s 102 17).toInt) => ?_, fun (c_s : ¬ (f_s 102 16).toInt < (f_s 102 17).toInt) => t2_s (by omega)⟩, fun (c_s : ¬ (f_s 102 18).toInt < 0) => absurd p1_s (by omega)⟩, fun c_s => absurd h5 c_s⟩)
  exact sp_167 hk (fun _ f1_s b1 b2 _ => t1_s (by omega) f1_s (fun o k_s hq => b2 o k_s (by omega)) (by rw [b1]; exact p2_s)) (fun c_s => absurd c_s (by omega))
theorem w74F (hk : hKn h_s) (hf : 0 ≤ (f_s 102 18).toInt) (t_s : K_s x4_s (h_s.1, f_s, h_s.2.2.1, h_s.2.2.2)) : wF F_s 176 (74, [some (.ref 102), some (.int x1_s), some (.int x2_s), some (.int x3), some (.int x4_s), some (.int x5_s), some (.int x6), some (.int x7)], [], (h_s.1, f_s, h_s.2.2.1, h_s.2.2.2)) (gI K_s) := wF_le (Nat.le_succ F_s) (sg_176_74 (h_s := (h_s.1, f_s, h_s.2.2.1, h_s.2.2.2)) hk ⟨fun (c_s : (f_s 102 18).toInt < 0) => absurd c_s (by omega), fun _ => sp_168F hk hf (fun _ => e33F hk rfl hf t_s)⟩)
end WO
noncomputable def W33 (F_s : Nat) : Prop := ∀ (h_s : zH) (K_s : Int32 → zH → Prop) (tk : Nat → Int) (nm : Nat → Int32) (n_s a_s : Nat) (x1_s x2_s x3 x4_s x5_s : Int32) (l6 l7 : Option Value) (f_s : Nat → Nat → Int32) (l : List pB), hKn h_s → prR tk nm n_s 0 a_s f_s → ¬ x5_s.toInt = 0 → gvi (gvL nm l) x3 x4_s → (∀ v_s f1_s, frR f_s f1_s → (∃ k_s r_s, ptx tk n_s k_s a_s l r_s ∧ poW nm f1_s v_s r_s) → K_s v_s (h_s.1, f1_s, h_s.2.2.1, h_s.2.2.2)) → wF F_s 176 (33, [some (.ref 102), some (.int x1_s), some (.int x2_s), some (.int x3), some (.int x4_s), some (.int x5_s), l6, l7], [], (h_s.1, f_s, h_s.2.2.1, h_s.2.2.2)) (gI K_s)
theorem w33_s {F_s : Nat} (ih_s : W33 F_s) : W33 (F_s + 1) := by
  intro h_s K_s tk nm n_s a_s x1_s x2_s x3 x4_s x5_s l6 l7 f_s l hk hp h5 hg t_s
  have i69 := (rpar F_s).1.1
  refine sg_176_33 (h_s := (h_s.1, f_s, h_s.2.2.1, h_s.2.2.2)) hk ⟨fun c_s => absurd c_s h5, fun _ => ?_⟩
  refine i69 h_s _ tk nm n_s 0 a_s f_s hk hp (fun v5 f1_s fr1 hr _ => ?_)
  obtain ⟨r_s, hq, hpo⟩ := hr
  match r_s, hq, hpo with
  | .inl e_s, hq, hpo =>
    have hpo : (f1_s 102 18).toInt = (e_s : Int) := hpo
    exact sp_168F hk (by omega) (fun _ => ⟨fun _ => w74F hk (by omega) (t_s x4_s f1_s fr1 ⟨1, .inl e_s, Or.inl ⟨e_s, Or.inl ⟨e_s, hq, rfl⟩, rfl⟩, hpo⟩), fun w_s => absurd rfl w_s⟩)
  | .inr p_s, hq, hpo =>
    obtain ⟨g1, g2, g3_s, g4, g5_s⟩ := hpo
    have hp1 : prR tk nm n_s 0 p_s.1 f1_s := prR_fr fr1 hp g1 g2 g3_s g4 (by omega)
    have fin_s : ∀ (x6 x7 : Int32) (pb : pB) (a1_s : Nat) (f2_s : Nat → Nat → Int32), prR tk nm n_s 0 a1_s f2_s → frR f_s f2_s → pln tk a_s (.inr (a1_s, pb)) → ((x7.toInt = 0 ∧ gvL nm [pb] = none) ∨ (¬ x7.toInt = 0 ∧ gvL nm [pb] = some x6)) → wF F_s 176 (74, [some (.ref 102), some (.int x1_s), some (.int x2_s), some (.int x3), some (.int x4_s), some (.int x5_s), some (.int x6), some (.int x7)], [], (h_s.1, f2_s, h_s.2.2.1, h_s.2.2.2)) (gI K_s) := by
      intro x6 x7 pb a1_s f2_s hp2 fr2 hpl hx
      have q1_s := hp2.1
      have nx : ∀ y3 y4 : Int32, gvi (gvL nm (l ++ [pb])) y3 y4 → wF F_s 168 (0, [some (.ref 102), some (.int 59)], [], (h_s.1, f2_s, h_s.2.2.1, h_s.2.2.2)) (gI (fun v3 h3 => hKn h3 → wF F_s 176 (33, [some (.ref 102), some (.int x1_s), some (.int x2_s), some (.int y3), some (.int y4), some (.int v3), some (.int x6), some (.int x7)], [], h3) (gI K_s))) := by
        intro y3 y4 hg2
        refine sp_168 (x1_s := 59) hk hp2 (by decide) (fun c9_s f3_s b1 b2 _ => ?_) (fun c9_s _ => ?_)
        · have c9_s : tk a1_s = 59 := c9_s
          have hlt := prR_lt hp2 (by omega)
          have fr3 : frR f2_s f3_s := frR_16 b2
          refine ih_s h_s K_s tk nm n_s (a1_s + 1) x1_s x2_s y3 y4 1 _ _ f3_s (l ++ [pb]) hk (prR_fr fr3 hp2 (by rw [b2 _ _ (by omega)]; exact q1_s) b1 hlt (by rw [b2 _ _ (by omega)]; exact hp2.2.2.2.2.2.1) (by omega)) (by decide) hg2 (fun v_s f4_s fr4 hr => ?_)
          obtain ⟨k_s, r_s, hr1, hr2⟩ := hr
          exact t_s v_s f4_s (frR_tr (frR_tr fr2 fr3) fr4) ⟨k_s + 1, r_s, Or.inr ⟨(a1_s, pb), hpl, Or.inr ⟨hlt, Or.inr ⟨c9_s, hr1⟩⟩⟩, hr2⟩
        · have c9_s : ¬ tk a1_s = 59 := c9_s
          refine e33 hk rfl hp2 (fun hl f3_s fr3 b_s => t_s 0 f3_s (frR_tr fr2 fr3) ⟨1, .inl a1_s, Or.inr ⟨(a1_s, pb), hpl, Or.inr ⟨hl, Or.inl ⟨c9_s, rfl⟩⟩⟩, b_s⟩) (fun hl => t_s y4 f2_s fr2 ⟨1, .inr (l ++ [pb]), Or.inr ⟨(a1_s, pb), hpl, Or.inl ⟨hl, rfl⟩⟩, q1_s, gvi_get hg2⟩)
      have ge := gvL_end nm l pb
      refine wF_le (Nat.le_succ F_s) (sg_176_74 (h_s := (h_s.1, f2_s, h_s.2.2.1, h_s.2.2.2)) hk ⟨fun _ => ⟨fun c_s => nx x3 x4_s ?_, fun c_s => ⟨fun c1_s => nx 1 x6 ?_, fun c1_s => nx x3 x4_s ?_⟩⟩, fun (c_s : ¬ (f2_s 102 18).toInt < 0) => absurd q1_s (by omega)⟩)
      · rcases hx with ⟨_, e2_s⟩ | ⟨e1_s, _⟩
        · rw [ge, e2_s]
          cases hgl : gvL nm l with
          | none =>
            rw [hgl] at hg
            exact hg
          | some v_s =>
            rw [hgl] at hg
            exact hg
        · exact absurd c_s e1_s
      · rcases hx with ⟨e1_s, _⟩ | ⟨_, e2_s⟩
        · exact absurd e1_s c_s
        · rw [ge, e2_s]
          cases hgl : gvL nm l with
          | none => exact ⟨by decide, rfl⟩
          | some v_s =>
            rw [hgl] at hg
            exact absurd c1_s hg.1
      · rw [ge]
        cases hgl : gvL nm l with
        | none =>
          rw [hgl] at hg
          exact absurd hg.1 c1_s
        | some v_s =>
          rw [hgl] at hg
          exact hg
    refine sp_168 (x1_s := 63) hk hp1 (by decide) (fun c9_s f2_s b1 b2 _ => ⟨fun w_s => absurd w_s (by decide), fun _ => ?_⟩) (fun c9_s _ => ⟨fun _ => fin_s v5 1 (none, p_s.2) p_s.1 f1_s hp1 fr1 (Or.inr ⟨p_s, hq, Or.inl ⟨c9_s, rfl⟩⟩) (Or.inr ⟨by decide, by rw [g5_s]; rfl⟩), fun w_s => absurd rfl w_s⟩)
    have c9_s : tk p_s.1 = 63 := c9_s
    have hlt := prR_lt hp1 (by omega)
    have fr2 : frR f1_s f2_s := frR_16 b2
    have hp2 : prR tk nm n_s 0 (p_s.1 + 1) f2_s := prR_fr fr2 hp1 (by rw [b2 _ _ (by omega)]; exact g1) b1 hlt (by rw [b2 _ _ (by omega)]; exact g4) (by omega)
    have sec : ∀ y7 : Int32, ((y7.toInt = 0 ∧ p_s.2.2.1 nm = 0) ∨ (¬ y7.toInt = 0 ∧ ¬ p_s.2.2.1 nm = 0)) → wF F_s 169 (0, [some (.ref 102), none, none], [], (h_s.1, f2_s, h_s.2.2.1, h_s.2.2.2)) (gI (fun v9 h9 => hKn h9 → wF F_s 176 (74, [some (.ref 102), some (.int x1_s), some (.int x2_s), some (.int x3), some (.int x4_s), some (.int x5_s), some (.int v9), some (.int y7)], [], h9) (gI K_s))) := by
      intro y7 hy
      refine i69 h_s _ tk nm n_s 0 (p_s.1 + 1) f2_s hk hp2 (fun v9 f3_s fr3 hr _ => ?_)
      obtain ⟨r_s, hq2, hpo⟩ := hr
      match r_s, hq2, hpo with
      | .inl e_s, hq2, hpo =>
        have hpo : (f3_s 102 18).toInt = (e_s : Int) := hpo
        exact w74F hk (by omega) (t_s x4_s f3_s (frR_tr (frR_tr fr1 fr2) fr3) ⟨1, .inl e_s, Or.inl ⟨e_s, Or.inr ⟨p_s, hq, Or.inr ⟨c9_s, Or.inl ⟨e_s, hq2, rfl⟩⟩⟩, rfl⟩, hpo⟩)
      | .inr y_s, hq2, hpo =>
        obtain ⟨y1, y2, y3, y4, y5⟩ := hpo
        refine fin_s v9 y7 (some p_s.2, y_s.2) y_s.1 f3_s (prR_fr (frR_tr (frR_tr fr1 fr2) fr3) hp y1 y2 y3 y4 (by omega)) (frR_tr (frR_tr fr1 fr2) fr3) (Or.inr ⟨p_s, hq, Or.inr ⟨c9_s, Or.inr ⟨y_s, hq2, rfl⟩⟩⟩) ?_
        rcases hy with ⟨e1_s, e2_s⟩ | ⟨e1_s, e2_s⟩
        · refine Or.inl ⟨e1_s, ?_⟩
          show (if p_s.2.2.1 nm = 0 then none else some (y_s.2.2.1 nm)) = none
          rw [if_pos e2_s]
        · refine Or.inr ⟨e1_s, ?_⟩
          show (if p_s.2.2.1 nm = 0 then none else some (y_s.2.2.1 nm)) = some v9
          rw [if_neg e2_s, y5]
    exact ⟨fun e0_s => sec 0 (Or.inl ⟨rfl, by rw [← g5_s]; exact i0_ e0_s⟩), fun e0_s => sec 1 (Or.inr ⟨by decide, by rw [← g5_s]; exact n0_ e0_s⟩)⟩
theorem w33 : ∀ F_s, W33 F_s
  | 0 => by
    intro _ _ _ _ _ _ _
    intros
    exact wF_zero
  | F_s + 1 => w33_s (w33 F_s)
/-- all of it: from base x1, of n bytes -/
theorem sp_176 {F_s : Nat} {h_s : zH} {K_s : Int32 → zH → Prop} {tk : Nat → Int} {n_s : Nat} {x1_s x2_s : Int32} {f_s : Nat → Nat → Int32} (hk : hKn h_s) (hx1 : x1_s.toInt = -1 ∨ x1_s.toInt = 0) (hx2 : x2_s.toInt = (n_s : Int)) (hn : n_s ≤ 120) (htk : ∀ a_s, tk a_s = if (a_s : Int) < (n_s : Int) then (if x1_s.toInt < 0 then (f_s 109 a_s).toInt else (f_s 110 a_s).toInt) else -1) (hpos : ∀ k_s, k_s < n_s → 0 ≤ tk k_s) (t_s : ∀ v_s f1_s, (∀ o k_s, ¬ (o = 102 ∧ 15 ≤ k_s ∧ k_s ≤ 19) → f1_s o k_s = f_s o k_s) → (∃ k_s r_s, ptx tk n_s k_s 0 [] r_s ∧ poW (fun k_s => f_s 111 k_s) f1_s v_s r_s) → K_s v_s (h_s.1, f1_s, h_s.2.2.1, h_s.2.2.2)) : wF F_s 176 (0, [some (.ref 102), some (.int x1_s), some (.int x2_s), none, none, none, none, none], [], (h_s.1, f_s, h_s.2.2.1, h_s.2.2.2)) (gI K_s) := by
  refine wF_le (Nat.le_succ F_s) (sg_176_0 (h_s := (h_s.1, f_s, h_s.2.2.1, h_s.2.2.2)) hk ?_)
  refine w33 F_s h_s K_s tk (fun k_s => f_s 111 k_s) n_s 0 x1_s x2_s 0 0 1 none none (zup (zup (zup (zup (zup f_s 102 15 x1_s) 102 16 0) 102 17 x2_s) 102 18 (-1)) 102 19 0) [] hk ⟨?_, ?_, by omega, ?_, hn, ?_, by omega, ?_, hpos, ?_, fun k_s => ?_⟩ (by decide) ⟨rfl, rfl⟩ (fun v_s f1_s fr1 hr => t_s v_s f1_s (fun o k_s hq => ?_) hr)
  · rw [zne_up (by omega), zsame_up]
    rfl
  · rw [zne_up (by omega), zne_up (by omega), zne_up (by omega), zsame_up]
    rfl
  · rw [zne_up (by omega), zne_up (by omega), zsame_up]
    exact hx2
  · rw [zsame_up]
    rfl
  · rw [zne_up (by omega), zne_up (by omega), zne_up (by omega), zne_up (by omega), zsame_up]
    exact hx1
  · funext a_s
    unfold tkR
    rw [htk a_s]
    simp (disch := omega) only [zne_up, zsame_up]
    rw [hx2]
  · simp (disch := omega) only [zne_up]
  · rw [fr1 o k_s (by omega)]
    simp (disch := omega) only [zne_up]
/-! LAW: class and reference. -/
theorem cp77 {h_s : zH} {K_s : Int32 → zH → Prop} {n_s : Nat} {x1_s x2_s : Int32} {f0_s : Nat → Nat → Int32} (hk : hKn h_s) (hx2 : x2_s.toInt = (n_s : Int)) (hn : n_s ≤ 120) (t_s : ∀ f1_s, (∀ k_s, k_s < n_s → f1_s 110 k_s = f0_s 109 k_s) → f1_s 102 14 = x2_s → (∀ o k_s, ¬ (o = 110 ∧ k_s < n_s) → ¬ (o = 102 ∧ k_s = 14) → f1_s o k_s = f0_s o k_s) → K_s 1 (h_s.1, f1_s, h_s.2.2.1, h_s.2.2.2)) : ∀ (F_s j_s : Nat) (x3 : Int32) (f_s : Nat → Nat → Int32), x3.toInt = (j_s : Int) → j_s ≤ n_s → (∀ k_s, k_s < j_s → f_s 110 k_s = f0_s 109 k_s) → (∀ o k_s, ¬ (o = 110 ∧ k_s < j_s) → f_s o k_s = f0_s o k_s) → wF F_s 177 (37, [some (.ref 102), some (.int x1_s), some (.int x2_s), some (.int x3)], [], (h_s.1, f_s, h_s.2.2.1, h_s.2.2.2)) (gI K_s)
  | 0, _, _, _, _, _, _, _ => wF_zero
  | F_s + 1, j_s, x3, f_s, hx3, hj, g1, g2 => by
    refine sg_177_37 (h_s := (h_s.1, f_s, h_s.2.2.1, h_s.2.2.2)) hk ⟨fun c1_s => fun c2_s => ?_, fun c1_s => ?_⟩
    · have z_s := azix (i := x3) (by omega)
      have ez : zix x3 = j_s := by omega
      refine cp77 hk hx2 hn t_s F_s (j_s + 1) (x3 + 1) _ (by rw [in1_ (by omega)]; omega) (by omega) (fun k_s hq => ?_) (fun o k_s hq => ?_)
      · by_cases e_s : k_s = j_s
        · subst e_s
          rw [ez, zsame_up]
          exact g2 109 k_s (by omega)
        · rw [zne_up (by omega)]
          exact g1 k_s (by omega)
      · rw [zne_up (by omega)]
        exact g2 o k_s (by omega)
    · have ej : j_s = n_s := by omega
      subst ej
      refine t_s _ (fun k_s hq => ?_) zsame_up (fun o k_s h1 h2 => ?_)
      · rw [zne_up (by omega)]
        exact g1 k_s hq
      · rw [zne_up h2]
        exact g2 o k_s h1
theorem sp_177 {F_s : Nat} {h_s : zH} {K_s : Int32 → zH → Prop} {tk : Nat → Int} {n_s : Nat} {f_s : Nat → Nat → Int32} (hk : hKn h_s) (hx2 : (f_s 102 12).toInt = (n_s : Int)) (hn : n_s ≤ 120) (htk : ∀ a_s, tk a_s = if (a_s : Int) < (n_s : Int) then (f_s 109 a_s).toInt else -1) (hpos : ∀ k_s, k_s < n_s → 0 ≤ tk k_s) (t1_s : ∀ (e_s k_s : Nat) (w_s : Int32) f1_s, ptx tk n_s k_s 0 [] (.inl e_s) → w_s.toInt = (e_s : Int) → f1_s 102 12 = 0 → (∀ o k_s, ¬ (o = 102 ∧ (k_s = 12 ∨ 15 ≤ k_s ∧ k_s ≤ 19)) → f1_s o k_s = f_s o k_s) → K_s (-100 - w_s) (h_s.1, f1_s, h_s.2.2.1, h_s.2.2.2)) (t2_s : ∀ (k_s : Nat) (ls : List pB) f1_s, ptx tk n_s k_s 0 [] (.inr ls) → f1_s 102 12 = 0 → (f1_s 102 14).toInt = (n_s : Int) → (∀ k_s, k_s < n_s → f1_s 110 k_s = f_s 109 k_s) → (∀ o k_s, ¬ (o = 102 ∧ 12 ≤ k_s ∧ k_s ≤ 19) → ¬ (o = 110 ∧ k_s < n_s) → f1_s o k_s = f_s o k_s) → K_s 1 (h_s.1, f1_s, h_s.2.2.1, h_s.2.2.2)) : wF F_s 177 (0, [some (.ref 102), none, none, none], [], (h_s.1, f_s, h_s.2.2.1, h_s.2.2.2)) (gI K_s) := by
  refine wF_le (Nat.le_succ F_s) (sg_177_0 (h_s := (h_s.1, f_s, h_s.2.2.1, h_s.2.2.2)) hk ?_)
  refine sp_176 (tk := tk) (n_s := n_s) hk (Or.inl rfl) hx2 hn (fun a_s => by rw [htk a_s, if_pos (show ((-1 : Int32)).toInt < 0 by decide)]) hpos (fun v_s f1_s fr1 hr _ => ?_)
  obtain ⟨k_s, r_s, hr1, hr2⟩ := hr
  have e12_s : f1_s 102 12 = f_s 102 12 := fr1 102 12 (by omega)
  match r_s, hr1, hr2 with
  | .inl e_s, hr1, hr2 =>
    have hr2 : (f1_s 102 18).toInt = (e_s : Int) := hr2
    refine ⟨fun (c_s : (f1_s 102 18).toInt < 0) => absurd c_s (by omega), fun _ => ?_⟩
    refine t1_s e_s k_s (f1_s 102 18) _ hr1 hr2 zsame_up (fun o j_s hq => ?_)
    rw [zne_up (by omega)]
    exact fr1 o j_s (by omega)
  | .inr ls, hr1, hr2 =>
    obtain ⟨g1, g2⟩ := hr2
    refine ⟨fun _ => ?_, fun (c_s : ¬ (f1_s 102 18).toInt < 0) => absurd g1 (by omega)⟩
    show wF F_s 177 (37, [some (.ref 102), some (.int v_s), some (.int (f1_s 102 12)), some (.int 0)], [], (h_s.1, zup f1_s 102 12 0, h_s.2.2.1, h_s.2.2.2)) (gI K_s)
    rw [e12_s]
    refine cp77 (f0_s := zup f1_s 102 12 0) hk hx2 hn (fun f2_s b1 b2 b3 => t2_s k_s ls f2_s hr1 ?_ (by rw [b2]; exact hx2) (fun j_s hq => ?_) (fun o j_s h1 h2 => ?_)) F_s 0 0 _ rfl (by omega) (fun j_s hq => by omega) (fun _ _ _ => rfl)
    · rw [b3 102 12 (by omega) (by omega), zsame_up]
    · rw [b1 j_s hq, zne_up (by omega)]
      exact fr1 109 j_s (by omega)
    · rw [b3 o j_s (by omega) (by omega), zne_up (by omega)]
      exact fr1 o j_s (by omega)
noncomputable def poT (q_s : Nat) (f1_s : Nat → Nat → Int32) (v_s : Int32) : Nat ⊕ List pB → Prop
  | .inl e_s => v_s.toInt = (e_s : Int)
  | .inr ls => v_s.toInt = -1 ∧ (f1_s q_s 2).toInt = ((cTx 0 ls).length : Int) ∧ (cTx 0 ls).length ≤ 241 ∧ (∀ j_s c_s, zget (cTx 0 ls) j_s = some c_s → f1_s (q_s + 1) j_s = c_s) ∧ f1_s q_s 0 = (if mTx ls then 1 else 0)
theorem ln63 {h_s : zH} {K_s : Int32 → zH → Prop} {q_s n_s : Nat} {f0_s : Nat → Nat → Int32} (hm_s : q_s = 14 ∨ q_s = 17) (hk : hKn h_s) : ∀ (F_s i_s a_s : Nat) (x2_s : Int32) (f_s : Nat → Nat → Int32) (l : List pB), x2_s.toInt = (i_s : Int) → 2 * i_s ≤ a_s → prC q_s n_s (cTx 0 l).length a_s f_s → (∀ j_s c_s, zget (cTx 0 l) j_s = some c_s → f_s (q_s + 1) j_s = c_s) → f_s q_s 0 = (if mTx l then 1 else 0) → frC q_s 0 f0_s f_s → (∀ v_s f1_s, frC q_s 0 f0_s f1_s → (∃ k_s r_s, ptx (tkF f0_s) n_s k_s a_s l r_s ∧ poT q_s f1_s v_s r_s) → K_s v_s (h_s.1, f1_s, h_s.2.2.1, h_s.2.2.2)) → wF F_s 63 (11, [some (.ref 40), some (.ref q_s), some (.int x2_s)], [], (h_s.1, f_s, h_s.2.2.1, h_s.2.2.2)) (gI K_s)
  | 0, _, _, _, _, _, _, _, _, _, _, _, _ => wF_zero
  | F_s + 1, i_s, a_s, x2_s, f_s, l, hx, hi2, hp, hc_s, hmw, hf, t_s => by
    obtain ⟨p1_s, p2_s, p3_s, p4_s, p5_s, p6_s⟩ := hp
    have tk0 : tkF f_s = tkF f0_s := frC_tk hm_s hf
    refine sg_63_11 (h_s := (h_s.1, f_s, h_s.2.2.1, h_s.2.2.2)) hm_s hk ⟨fun c_s => absurd c_s (by omega), fun _ => ?_⟩
    refine sp_64 hm_s hk ⟨p1_s, p2_s, p3_s, p4_s, p5_s, p6_s⟩ (fun v_s f1_s fr1 hr _ => ?_)
    obtain ⟨r_s, hpl, hpo⟩ := hr
    rw [tk0] at hpl
    have fr2 : frC q_s 0 f0_s f1_s := fun o k_s u1_s u2_s u3 => by
      rw [fr1 o k_s u1_s u2_s (by omega)]
      exact hf o k_s u1_s u2_s u3
    match r_s, hpl, hpo with
    | .inl e_s, hpl, hpo =>
      obtain ⟨rfl, hpz⟩ := hpo
      exact ⟨fun _ => t_s _ f1_s fr2 ⟨1, .inl e_s, Or.inl ⟨e_s, hpl, rfl⟩, hpz⟩, fun w_s => absurd rfl w_s⟩
    | .inr p_s, hpl, hpo =>
      obtain ⟨rfl, g1, g2, g3_s, g4, g5_s, g6, g7⟩ := hpo
      rw [hmw] at g7
      have fn1 : (f1_s 40 1).toInt = (n_s : Int) := by
        rw [fr1 40 1 (by omega) (by omega) (by omega)]
        exact p3_s
      have tk1 : tkF f1_s = tkF f0_s := frC_tk hm_s fr2
      have ce := cTx_end 0 l p_s.2
      rw [Nat.zero_add] at ce
      have cl_s : (cTx 0 (l ++ [p_s.2])).length = (cTx 0 l).length + (cLn (cTx 0 l).length p_s.2).length := by rw [ce, List.length_append]
      have cc : ∀ j_s c_s, zget (cTx 0 (l ++ [p_s.2])) j_s = some c_s → f1_s (q_s + 1) j_s = c_s := by
        intro j_s c_s hj
        rw [ce] at hj
        rcases zget_apd hj with ⟨j1, j2_s⟩ | ⟨j1, j2_s⟩
        · rw [fr1 _ _ (by omega) (by omega) (by omega)]
          exact hc_s j_s c_s j2_s
        · have u_s := g6 _ c_s j2_s
          rw [show (cTx 0 l).length + (j_s - (cTx 0 l).length) = j_s by omega] at u_s
          exact u_s
      have cm : f1_s q_s 0 = (if mTx (l ++ [p_s.2]) then 1 else 0) := by
        rw [g7, mTx_end]
        cases mTx l <;> cases mLn p_s.2 <;> rfl
      refine ⟨fun w_s => absurd w_s (by decide), fun _ => ⟨fun (c_s : (f1_s 40 2).toInt < (f1_s 40 1).toInt) => ?_, fun (c_s : ¬ (f1_s 40 2).toInt < (f1_s 40 1).toInt) => ?_⟩⟩
      · refine sp_69 (h_s := (h_s.1, f1_s, h_s.2.2.1, h_s.2.2.2)) (a_s := p_s.1) hk g3_s (by omega) (fun c9_s f2_s b1 b2 _ => ⟨fun w_s => absurd w_s (by decide), fun _ => ?_⟩) (fun c9_s _ => ⟨fun _ => ?_, fun w_s => absurd rfl w_s⟩)
        · have c9_s : tkF f1_s p_s.1 = 59 := c9_s
          have b2 : ∀ o k_s, ¬ (o = 40 ∧ k_s = 2) → f2_s o k_s = f1_s o k_s := b2
          refine ln63 (f0_s := f0_s) hm_s hk F_s (i_s + 1) (p_s.1 + 1) (x2_s + 1) f2_s (l ++ [p_s.2]) (by rw [in1_ (by omega)]; omega) (by omega) ⟨b1, by omega, ?_, p4_s, ?_, by omega⟩ (fun j_s c_s hj => ?_) ?_ (fun o k_s u1_s u2_s u3 => ?_) (fun v_s f3_s fr3 hr => ?_)
          · rw [b2 40 1 (by omega)]
            exact fn1
          · rw [b2 q_s 2 (by omega), cl_s]
            exact g4
          · rw [b2 _ _ (by omega)]
            exact cc j_s c_s hj
          · rw [b2 _ _ (by omega)]
            exact cm
          · rw [b2 o k_s u1_s]
            exact fr2 o k_s u1_s u2_s u3
          · obtain ⟨k_s, r_s, hr1, hr2⟩ := hr
            exact t_s v_s f3_s fr3 ⟨k_s + 1, r_s, Or.inr ⟨p_s, hpl, Or.inr ⟨by omega, Or.inr ⟨by rw [← tk1]; exact c9_s, hr1⟩⟩⟩, hr2⟩
        · have c9_s : ¬ tkF f1_s p_s.1 = 59 := c9_s
          exact t_s _ f1_s fr2 ⟨1, .inl p_s.1, Or.inr ⟨p_s, hpl, Or.inr ⟨by omega, Or.inl ⟨by rw [← tk1]; exact c9_s, rfl⟩⟩⟩, g3_s⟩
      · exact t_s _ f1_s fr2 ⟨1, .inr (l ++ [p_s.2]), Or.inr ⟨p_s, hpl, Or.inl ⟨by omega, rfl⟩⟩, rfl, by rw [cl_s]; exact g4, by omega, cc, cm⟩
theorem sp_63 {F_s : Nat} {h_s : zH} {K_s : Int32 → zH → Prop} {q_s n_s : Nat} {f_s : Nat → Nat → Int32} (hm_s : q_s = 14 ∨ q_s = 17) (hk : hKn h_s) (hn : (f_s 40 1).toInt = (n_s : Int)) (hb_s : n_s ≤ 120) (t_s : ∀ v_s f1_s, frC q_s 0 f_s f1_s → (∃ k_s r_s, ptx (tkF f_s) n_s k_s 0 [] r_s ∧ poT q_s f1_s v_s r_s) → K_s v_s (h_s.1, f1_s, h_s.2.2.1, h_s.2.2.2)) : wF F_s 63 (0, [some (.ref 40), some (.ref q_s), none], [], (h_s.1, f_s, h_s.2.2.1, h_s.2.2.2)) (gI K_s) := by
  refine wF_le (Nat.le_succ F_s) (sg_63_0 (h_s := (h_s.1, f_s, h_s.2.2.1, h_s.2.2.2)) hm_s hk ?_)
  refine ln63 (f0_s := f_s) (n_s := n_s) hm_s hk F_s 0 0 0 (zup (zup (zup f_s q_s 2 0) q_s 0 0) 40 2 0) [] rfl (by omega) ⟨?_, by omega, ?_, hb_s, ?_, (by show 0 ≤ 2 * 0; omega)⟩ (fun j_s c_s hj => by cases hj) ?_ (fun o k_s u1_s u2_s u3 => ?_) t_s
  · rw [zsame_up]
    rfl
  · rw [zne_up (by omega), zne_up (by omega), zne_up (by omega)]
    exact hn
  · rw [zne_up (by omega), zne_up (by omega), zsame_up]
    rfl
  · rw [zne_up (by omega), zsame_up]
    rfl
  · rw [zne_up (by omega), zne_up (by omega), zne_up (by omega)]
/-- THE TAPE -/
noncomputable def tT (h_s : zH) : Prop := ∃ n_s : Nat, n_s ≤ 120 ∧ (h_s.2.1 40 1).toInt = (n_s : Int) ∧ h_s.2.1 102 12 = h_s.2.1 40 1 ∧ ∀ k_s, k_s < n_s → h_s.2.1 109 k_s = h_s.2.1 41 k_s ∧ 0 ≤ (h_s.2.1 41 k_s).toInt
section TP
variable {F_s : Nat} {h_s : zH} {x1_s : Int32}
theorem pr_feed (hk : hKn h_s) (hs : tT h_s) : wF F_s 100 (0, [some (.ref 6), some (.int x1_s)], [], h_s) (gI (fun v_s h1 => wF F_s 165 (0, [some (.ref 102), some (.int x1_s)], [], h1) (gI (fun v2 h2 => v_s = v2 ∧ tT h2)))) := by
  obtain ⟨n_s, n1_s, n2_s, n3_s, n4_s⟩ := hs
  have hs : tT h_s := ⟨n_s, n1_s, n2_s, n3_s, n4_s⟩
  have n5_s : (h_s.2.1 102 12).toInt = (n_s : Int) := by
    rw [n3_s]
    exact n2_s
  have z1 := azix (i := h_s.2.1 40 1) (by omega)
  have z2 := azix (i := h_s.2.1 102 12) (by omega)
  have e1_s : zix (h_s.2.1 40 1) = n_s := by omega
  have e2_s : zix (h_s.2.1 102 12) = n_s := by omega
  refine wF_le (Nat.le_succ F_s) (sg_100_0 hk ⟨fun c1_s => ?_, fun c1_s => ⟨fun c2_s => ?_, fun c2_s => ⟨fun c3_s => fun c4_s => ?_, fun c3_s => ?_⟩⟩⟩)
  · exact wF_le (Nat.le_succ F_s) (sg_165_0 hk ⟨fun _ => ⟨rfl, hs⟩, fun c_s => absurd c1_s c_s⟩)
  · exact wF_le (Nat.le_succ F_s) (sg_165_0 hk ⟨fun c_s => absurd c_s c1_s, fun _ => ⟨fun _ => ⟨rfl, hs⟩, fun c_s => absurd c2_s c_s⟩⟩)
  · have q12_s : zup (zup h_s.2.1 41 (zix (h_s.2.1 40 1)) x1_s) 40 1 (h_s.2.1 40 1 + 1) 102 12 = h_s.2.1 102 12 := by rw [zne_up (by omega), zne_up (by omega)]
    refine wF_le (Nat.le_succ F_s) (sg_165_0 (h_s := (h_s.1, zup (zup h_s.2.1 41 (zix (h_s.2.1 40 1)) x1_s) 40 1 (h_s.2.1 40 1 + 1), h_s.2.2.1, h_s.2.2.2)) hk ⟨fun c_s => absurd c_s c1_s, fun _ => ⟨fun c_s => absurd c_s c2_s, fun _ => ⟨fun c_s => ?_, fun c_s => fun c5_s => ⟨?_, ?_⟩⟩⟩⟩)
    · dsimp only at c_s
      rw [q12_s] at c_s
      omega
    · dsimp only
      rw [q12_s, n3_s]
    · dsimp only
      rw [q12_s, e1_s, e2_s]
      refine ⟨n_s + 1, by omega, ?_, ?_, fun k_s hq => ?_⟩
      · dsimp only
        rw [zne_up (by omega), zne_up (by omega), zsame_up, in1_ (by omega)]
        omega
      · dsimp only
        rw [zsame_up, zne_up (by omega), zne_up (by omega), zsame_up, n3_s]
      · dsimp only
        by_cases e_s : k_s = n_s
        · subst e_s
          rw [zne_up (by omega), zsame_up, zne_up (by omega), zne_up (by omega), zne_up (by omega), zsame_up]
          exact ⟨rfl, by omega⟩
        · rw [zne_up (by omega), zne_up (by omega), zne_up (by omega), zne_up (by omega), zne_up (by omega), zne_up (by omega), zne_up (by omega), zne_up (by omega)]
          exact n4_s k_s (by omega)
  · refine wF_le (Nat.le_succ F_s) (sg_165_0 hk ⟨fun c_s => absurd c_s c1_s, fun _ => ⟨fun c_s => absurd c_s c2_s, fun _ => ⟨fun _ => ⟨rfl, hs⟩, fun c_s => ?_⟩⟩⟩)
    omega
theorem pr_law (hk : hKn h_s) (hs : tT h_s) : wF F_s 101 (0, [some (.ref 6), none, none], [], h_s) (gI (fun v_s h1 => wF F_s 177 (0, [some (.ref 102), none, none, none], [], h1) (gI (fun v2 h2 => v_s = v2 ∧ tT h2)))) := by
  obtain ⟨n_s, n1_s, n2_s, n3_s, n4_s⟩ := hs
  have n5_s : (h_s.2.1 102 12).toInt = (n_s : Int) := by
    rw [n3_s]
    exact n2_s
  refine wF_le (Nat.le_succ F_s) (sg_101_0 hk (fun q_s r1_s m1_s => ?_))
  refine sp_63 (f_s := h_s.2.1) (n_s := n_s) m1_s hk n2_s n1_s (fun v_s f1_s fr1 hr hk1 => ?_)
  obtain ⟨k_s, r_s, hr1, hr2⟩ := hr
  have htk : ∀ a_s, tkF h_s.2.1 a_s = if (a_s : Int) < (n_s : Int) then (h_s.2.1 109 a_s).toInt else -1 := by
    intro a_s
    unfold tkF
    rw [n2_s]
    by_cases e_s : (a_s : Int) < (n_s : Int)
    · rw [if_pos e_s, if_pos e_s, (n4_s a_s (by omega)).1]
    · rw [if_neg e_s, if_neg e_s]
  have hpos : ∀ a_s, a_s < n_s → 0 ≤ tkF h_s.2.1 a_s := by
    intro a_s ha_s
    unfold tkF
    rw [if_pos (by omega)]
    exact (n4_s a_s ha_s).2
  have go_s : ∀ (rr : Nat → Nat → Option Nat) (hk2 : hKn (h_s.1, zup f1_s 40 1 0, h_s.2.2.1, rr)) (u_s : Int32), (∀ (e_s k1_s : Nat) (w_s : Int32), ptx (tkF h_s.2.1) n_s k1_s 0 [] (.inl e_s) → w_s.toInt = (e_s : Int) → u_s = -100 - w_s) → (∀ (k1_s : Nat) (ls : List pB), ptx (tkF h_s.2.1) n_s k1_s 0 [] (.inr ls) → u_s = 1) → wF F_s 177 (0, [some (.ref 102), none, none, none], [], (h_s.1, zup f1_s 40 1 0, h_s.2.2.1, rr)) (gI (fun v2 h2 => u_s = v2 ∧ tT h2)) := by
    intro rr hk2 u_s hu1 hu2
    have ff_s : ∀ o k_s, (o = 102 ∨ o = 109) → zup f1_s 40 1 0 o k_s = h_s.2.1 o k_s := fun o k_s ho => by
      rw [zne_up (by omega)]
      exact fr1 o k_s (by omega) (by omega) (by omega)
    refine sp_177 (h_s := (h_s.1, zup f1_s 40 1 0, h_s.2.2.1, rr)) (tk := tkF h_s.2.1) (n_s := n_s) (f_s := zup f1_s 40 1 0) hk2 (by rw [ff_s _ _ (Or.inl rfl)]; exact n5_s) n1_s (fun a_s => by rw [ff_s _ _ (Or.inr rfl)]; exact htk a_s) hpos (fun e_s k1_s w_s f2_s b1 b2 b3 b4 => ⟨hu1 e_s k1_s w_s b1 b2, 0, by omega, ?_, ?_, fun j_s hj => by omega⟩) (fun k1_s ls f2_s b1 b2 b3 b4 b5 => ⟨hu2 k1_s ls b1, 0, by omega, ?_, ?_, fun j_s hj => by omega⟩)
    · dsimp only
      rw [b4 40 1 (by omega), zsame_up]
      rfl
    · dsimp only
      rw [b3, b4 40 1 (by omega), zsame_up]
    · dsimp only
      rw [b5 40 1 (by omega) (by omega), zsame_up]
      rfl
    · dsimp only
      rw [b2, b5 40 1 (by omega) (by omega), zsame_up]
  match r_s, hr1, hr2 with
  | .inl e_s, hr1, hr2 =>
    have hr2 : v_s.toInt = (e_s : Int) := hr2
    refine ⟨fun c_s => absurd c_s (by omega), fun _ => ?_⟩
    refine go_s h_s.2.2.2 hk1 _ (fun e1_s k1_s w_s d1_s d2_s => ?_) (fun k1_s ls d1_s => ?_)
    · have q1_s := ptx_det hr1 d1_s
      cases q1_s
      rw [Int32.toInt_inj.mp (hr2.trans d2_s.symm)]
    · have q1_s := ptx_det hr1 d1_s
      cases q1_s
  | .inr ls, hr1, hr2 =>
    refine ⟨fun _ => fun q4_s r4 m4_s => ?_, fun c_s => absurd hr2.1 c_s⟩
    refine go_s (zup (zup h_s.2.2.2 7 10 (some q4_s)) 7 9 (some q_s)) (show hKn (h_s.1, f1_s, h_s.2.2.1, zup (zup h_s.2.2.2 7 10 (some q4_s)) 7 9 (some q_s)) from hkr9 (h_s := (h_s.1, f1_s, h_s.2.2.1, zup h_s.2.2.2 7 10 (some q4_s))) (hkr10 (h_s := (h_s.1, f1_s, h_s.2.2.1, h_s.2.2.2)) hk1 m4_s) m1_s) 1 (fun e1_s k1_s w_s d1_s d2_s => ?_) (fun _ _ _ => rfl)
    have q1_s := ptx_det hr1 d1_s
    cases q1_s
noncomputable def tTok (W_s : aW) : Bool := (!aWf W_s 40 1 && !aWf W_s 102 12) && (List.range 120).all (fun k_s => !aWf W_s 41 k_s && !aWf W_s 109 k_s)
theorem tT_fr {W_s : aW} (hw : tTok W_s = true) {h_s h1 : zH} (fr_s : aFr (aWf W_s) h_s h1) (hs : tT h_s) : tT h1 := by
  unfold tTok at hw
  rw [Bool.and_eq_true, Bool.and_eq_true, Bool.not_eq_true', Bool.not_eq_true'] at hw
  obtain ⟨⟨w1_s, w2_s⟩, w3_s⟩ := hw
  obtain ⟨n_s, n1_s, n2_s, n3_s, n4_s⟩ := hs
  refine ⟨n_s, n1_s, ?_, ?_, fun k_s hq => ?_⟩
  · rw [fr_s.1 40 1 w1_s]
    exact n2_s
  · rw [fr_s.1 40 1 w1_s, fr_s.1 102 12 w2_s]
    exact n3_s
  · have c_s := List.all_eq_true.mp w3_s k_s (List.mem_range.mpr (by omega))
    rw [Bool.and_eq_true, Bool.not_eq_true', Bool.not_eq_true'] at c_s
    rw [fr_s.1 _ _ c_s.1, fr_s.1 _ _ c_s.2]
    exact n4_s k_s hq
theorem tT_start {E_s : Nat → Int32} {n_s : Nat} {h_s : zH} (hc_s : hcTp h_s = true) : tT (sH E_s n_s [] h_s) := by
  have sv : ∀ o k_s, o ≠ 0 → sov E_s [] h_s.2.1 o k_s = h_s.2.1 o k_s := fun o k_s ho => by rw [sov_nil ho]
  unfold hcTp at hc_s
  rw [Bool.and_eq_true, decide_eq_true_eq, decide_eq_true_eq] at hc_s
  refine ⟨0, by omega, ?_, ?_, fun k_s hq => by omega⟩
  · show (sov E_s [] h_s.2.1 40 1).toInt = 0
    rw [sv _ _ (by omega), hc_s.1]
    rfl
  · show sov E_s [] h_s.2.1 102 12 = sov E_s [] h_s.2.1 40 1
    rw [sv _ _ (by omega), sv _ _ (by omega), hc_s.1, hc_s.2]
end TP
/-! THE LAW, from its loop on, by what ended runs give: printed by a program (wip/fun/sg.py). -/
theorem sg_241_18 {F_s : Nat} {x3 : Int32} {h_s : zH} {K_s : Int32 → zH → Prop} (hk : hKn h_s) (t_s : (∀ n1_s : Nat, (((Int32.ofNat n1_s) - 6).toInt < x3.toInt → K_s 1 h_s) ∧ (¬ ((Int32.ofNat n1_s) - 6).toInt < x3.toInt → ((((h_s.2.1 0 (zix x3)) &&& 63).toInt = 0 → wF F_s 241 (200, [some (.ref 0), some (.ref 6), some (.ref 102), some (.int x3)], [], h_s) (gI K_s)) ∧ (¬ ((h_s.2.1 0 (zix x3)) &&& 63).toInt = 0 → (((h_s.2.1 0 (zix x3)) &&& 63).toInt = 1 → wF F_s 241 (223, [some (.ref 0), some (.ref 6), some (.ref 102), some (.int x3)], [], h_s) (gI K_s)) ∧ (¬ ((h_s.2.1 0 (zix x3)) &&& 63).toInt = 1 → (((h_s.2.1 0 (zix x3)) &&& 63).toInt = 2 → wF F_s 241 (256, [some (.ref 0), some (.ref 6), some (.ref 102), some (.int x3)], [], h_s) (gI K_s)) ∧ (¬ ((h_s.2.1 0 (zix x3)) &&& 63).toInt = 2 → (((h_s.2.1 0 (zix x3)) &&& 63).toInt = 3 → wF F_s 241 (289, [some (.ref 0), some (.ref 6), some (.ref 102), some (.int x3)], [], h_s) (gI K_s)) ∧ (¬ ((h_s.2.1 0 (zix x3)) &&& 63).toInt = 3 → (((h_s.2.1 0 (zix x3)) &&& 63).toInt = 4 → wF F_s 241 (332, [some (.ref 0), some (.ref 6), some (.ref 102), some (.int x3)], [], h_s) (gI K_s)) ∧ (¬ ((h_s.2.1 0 (zix x3)) &&& 63).toInt = 4 → (((h_s.2.1 0 (zix x3)) &&& 63).toInt = 5 → wF F_s 241 (375, [some (.ref 0), some (.ref 6), some (.ref 102), some (.int x3)], [], h_s) (gI K_s)) ∧ (¬ ((h_s.2.1 0 (zix x3)) &&& 63).toInt = 5 → (((h_s.2.1 0 (zix x3)) &&& 63).toInt = 6 → wF F_s 241 (408, [some (.ref 0), some (.ref 6), some (.ref 102), some (.int x3)], [], h_s) (gI K_s)) ∧ (¬ ((h_s.2.1 0 (zix x3)) &&& 63).toInt = 6 → (((h_s.2.1 0 (zix x3)) &&& 63).toInt = 7 → wF F_s 241 (431, [some (.ref 0), some (.ref 6), some (.ref 102), some (.int x3)], [], h_s) (gI K_s)) ∧ (¬ ((h_s.2.1 0 (zix x3)) &&& 63).toInt = 7 → (((h_s.2.1 0 (zix x3)) &&& 63).toInt = 8 → wF F_s 241 (444, [some (.ref 0), some (.ref 6), some (.ref 102), some (.int x3)], [], h_s) (gI K_s)) ∧ (¬ ((h_s.2.1 0 (zix x3)) &&& 63).toInt = 8 → (((h_s.2.1 0 (zix x3)) &&& 63).toInt = 9 → wF F_s 241 (477, [some (.ref 0), some (.ref 6), some (.ref 102), some (.int x3)], [], h_s) (gI K_s)) ∧ (¬ ((h_s.2.1 0 (zix x3)) &&& 63).toInt = 9 → (((h_s.2.1 0 (zix x3)) &&& 63).toInt = 10 → wF F_s 241 (520, [some (.ref 0), some (.ref 6), some (.ref 102), some (.int x3)], [], h_s) (gI K_s)) ∧ (¬ ((h_s.2.1 0 (zix x3)) &&& 63).toInt = 10 → (((h_s.2.1 0 (zix x3)) &&& 63).toInt = 11 → wF F_s 241 (563, [some (.ref 0), some (.ref 6), some (.ref 102), some (.int x3)], [], h_s) (gI K_s)) ∧ (¬ ((h_s.2.1 0 (zix x3)) &&& 63).toInt = 11 → (((h_s.2.1 0 (zix x3)) &&& 63).toInt = 12 → wF F_s 241 (606, [some (.ref 0), some (.ref 6), some (.ref 102), some (.int x3)], [], h_s) (gI K_s)) ∧ (¬ ((h_s.2.1 0 (zix x3)) &&& 63).toInt = 12 → (((h_s.2.1 0 (zix x3)) &&& 63).toInt = 13 → wF F_s 241 (639, [some (.ref 0), some (.ref 6), some (.ref 102), some (.int x3)], [], h_s) (gI K_s)) ∧ (¬ ((h_s.2.1 0 (zix x3)) &&& 63).toInt = 13 → (((h_s.2.1 0 (zix x3)) &&& 63).toInt = 14 → wF F_s 241 (662, [some (.ref 0), some (.ref 6), some (.ref 102), some (.int x3)], [], h_s) (gI K_s)) ∧ (¬ ((h_s.2.1 0 (zix x3)) &&& 63).toInt = 14 → (((h_s.2.1 0 (zix x3)) &&& 63).toInt = 15 → wF F_s 241 (675, [some (.ref 0), some (.ref 6), some (.ref 102), some (.int x3)], [], h_s) (gI K_s)) ∧ (¬ ((h_s.2.1 0 (zix x3)) &&& 63).toInt = 15 → (((h_s.2.1 0 (zix x3)) &&& 63).toInt = 16 → wF F_s 241 (698, [some (.ref 0), some (.ref 6), some (.ref 102), some (.int x3)], [], h_s) (gI K_s)) ∧ (¬ ((h_s.2.1 0 (zix x3)) &&& 63).toInt = 16 → (((h_s.2.1 0 (zix x3)) &&& 63).toInt = 17 → wF F_s 241 (731, [some (.ref 0), some (.ref 6), some (.ref 102), some (.int x3)], [], h_s) (gI K_s)) ∧ (¬ ((h_s.2.1 0 (zix x3)) &&& 63).toInt = 17 → (((h_s.2.1 0 (zix x3)) &&& 63).toInt = 18 → wF F_s 241 (774, [some (.ref 0), some (.ref 6), some (.ref 102), some (.int x3)], [], h_s) (gI K_s)) ∧ (¬ ((h_s.2.1 0 (zix x3)) &&& 63).toInt = 18 → (((h_s.2.1 0 (zix x3)) &&& 63).toInt = 19 → wF F_s 241 (817, [some (.ref 0), some (.ref 6), some (.ref 102), some (.int x3)], [], h_s) (gI K_s)) ∧ (¬ ((h_s.2.1 0 (zix x3)) &&& 63).toInt = 19 → (((h_s.2.1 0 (zix x3)) &&& 63).toInt = 20 → wF F_s 241 (870, [some (.ref 0), some (.ref 6), some (.ref 102), some (.int x3)], [], h_s) (gI K_s)) ∧ (¬ ((h_s.2.1 0 (zix x3)) &&& 63).toInt = 20 → (((h_s.2.1 0 (zix x3)) &&& 63).toInt = 21 → wF F_s 241 (903, [some (.ref 0), some (.ref 6), some (.ref 102), some (.int x3)], [], h_s) (gI K_s)) ∧ (¬ ((h_s.2.1 0 (zix x3)) &&& 63).toInt = 21 → (((h_s.2.1 0 (zix x3)) &&& 63).toInt = 22 → wF F_s 241 (936, [some (.ref 0), some (.ref 6), some (.ref 102), some (.int x3)], [], h_s) (gI K_s)) ∧ (¬ ((h_s.2.1 0 (zix x3)) &&& 63).toInt = 22 → (((h_s.2.1 0 (zix x3)) &&& 63).toInt = 23 → wF F_s 241 (949, [some (.ref 0), some (.ref 6), some (.ref 102), some (.int x3)], [], h_s) (gI K_s)) ∧ (¬ ((h_s.2.1 0 (zix x3)) &&& 63).toInt = 23 → (((h_s.2.1 0 (zix x3)) &&& 63).toInt = 24 → wF F_s 241 (972, [some (.ref 0), some (.ref 6), some (.ref 102), some (.int x3)], [], h_s) (gI K_s)) ∧ (¬ ((h_s.2.1 0 (zix x3)) &&& 63).toInt = 24 → (((h_s.2.1 0 (zix x3)) &&& 63).toInt = 25 → wF F_s 241 (985, [some (.ref 0), some (.ref 6), some (.ref 102), some (.int x3)], [], h_s) (gI K_s)) ∧ (¬ ((h_s.2.1 0 (zix x3)) &&& 63).toInt = 25 → (((h_s.2.1 0 (zix x3)) &&& 63).toInt = 26 → wF F_s 241 (998, [some (.ref 0), some (.ref 6), some (.ref 102), some (.int x3)], [], h_s) (gI K_s)) ∧ (¬ ((h_s.2.1 0 (zix x3)) &&& 63).toInt = 26 → (((h_s.2.1 0 (zix x3)) &&& 63).toInt = 27 → wF F_s 241 (1011, [some (.ref 0), some (.ref 6), some (.ref 102), some (.int x3)], [], h_s) (gI K_s)) ∧ (¬ ((h_s.2.1 0 (zix x3)) &&& 63).toInt = 27 → (((h_s.2.1 0 (zix x3)) &&& 63).toInt = 28 → wF F_s 241 (1024, [some (.ref 0), some (.ref 6), some (.ref 102), some (.int x3)], [], h_s) (gI K_s)) ∧ (¬ ((h_s.2.1 0 (zix x3)) &&& 63).toInt = 28 → (((h_s.2.1 0 (zix x3)) &&& 63).toInt = 29 → wF F_s 241 (1047, [some (.ref 0), some (.ref 6), some (.ref 102), some (.int x3)], [], h_s) (gI K_s)) ∧ (¬ ((h_s.2.1 0 (zix x3)) &&& 63).toInt = 29 → (((h_s.2.1 0 (zix x3)) &&& 63).toInt = 30 → wF F_s 241 (1090, [some (.ref 0), some (.ref 6), some (.ref 102), some (.int x3)], [], h_s) (gI K_s)) ∧ (¬ ((h_s.2.1 0 (zix x3)) &&& 63).toInt = 30 → (((h_s.2.1 0 (zix x3)) &&& 63).toInt = 31 → wF F_s 241 (1113, [some (.ref 0), some (.ref 6), some (.ref 102), some (.int x3)], [], h_s) (gI K_s)) ∧ (¬ ((h_s.2.1 0 (zix x3)) &&& 63).toInt = 31 → (((h_s.2.1 0 (zix x3)) &&& 63).toInt = 32 → wF F_s 241 (1146, [some (.ref 0), some (.ref 6), some (.ref 102), some (.int x3)], [], h_s) (gI K_s)) ∧ (¬ ((h_s.2.1 0 (zix x3)) &&& 63).toInt = 32 → (((h_s.2.1 0 (zix x3)) &&& 63).toInt = 33 → wF F_s 241 (1189, [some (.ref 0), some (.ref 6), some (.ref 102), some (.int x3)], [], h_s) (gI K_s)) ∧ (¬ ((h_s.2.1 0 (zix x3)) &&& 63).toInt = 33 → (((h_s.2.1 0 (zix x3)) &&& 63).toInt = 34 → wF F_s 241 (1262, [some (.ref 0), some (.ref 6), some (.ref 102), some (.int x3)], [], h_s) (gI K_s)) ∧ (¬ ((h_s.2.1 0 (zix x3)) &&& 63).toInt = 34 → (((h_s.2.1 0 (zix x3)) &&& 63).toInt = 35 → wF F_s 241 (1295, [some (.ref 0), some (.ref 6), some (.ref 102), some (.int x3)], [], h_s) (gI K_s)) ∧ (¬ ((h_s.2.1 0 (zix x3)) &&& 63).toInt = 35 → (((h_s.2.1 0 (zix x3)) &&& 63).toInt = 36 → wF F_s 241 (1358, [some (.ref 0), some (.ref 6), some (.ref 102), some (.int x3)], [], h_s) (gI K_s)) ∧ (¬ ((h_s.2.1 0 (zix x3)) &&& 63).toInt = 36 → (((h_s.2.1 0 (zix x3)) &&& 63).toInt = 37 → wF F_s 241 (1391, [some (.ref 0), some (.ref 6), some (.ref 102), some (.int x3)], [], h_s) (gI K_s)) ∧ (¬ ((h_s.2.1 0 (zix x3)) &&& 63).toInt = 37 → wF F_s 241 (18, [some (.ref 0), some (.ref 6), some (.ref 102), some (.int (x3 + 6))], [], h_s) (gI K_s))))))))))))))))))))))))))))))))))))))))))) : wF (F_s + 1) 241 (18, [some (.ref 0), some (.ref 6), some (.ref 102), some (.int x3)], [], h_s) (gI K_s) := by
  refine w_0 (pc := 18) (e_s := (1, 1, 3, 0, 0, .null, [])) (y_s := (19, [some (.ref _), some (.ref _), some (.ref _), some (.int _)], [.int _], _)) rfl (u_ rfl) ?_
  refine w_t (pc := 19) (e_s := (3, 1, 0, 0, 0, .null, [])) (y_s := (20, [some (.ref _), some (.ref _), some (.ref _), some (.int _)], [.ref _, .int _], _)) rfl (u_ rfl) ?_
  refine w28x (pc := 20) (len_s := 1) rfl (fun n1_s => ?_)
  replace t_s := t_s n1_s
  refine w_t (pc := 21) (e_s := (0, 2, 0, 0, 0, .int 6, [])) (y_s := (23, [some (.ref _), some (.ref _), some (.ref _), some (.int _)], [.int _, .int _, .int _], _)) rfl (u_ rfl) ?_
  refine w_t (pc := 23) (e_s := (7, 1, 0, 1, 0, .null, [])) (y_s := (24, [some (.ref _), some (.ref _), some (.ref _), some (.int _)], [.int (_ - _), .int _], _)) rfl (u_ rfl) ?_
  refine wi4 (pc := 24) (len_s := 3) rfl rfl rfl (fun c2_s => ?_) (fun c2_s => ?_)
  · replace t_s := t_s.1 c2_s
    refine w_t (pc := 1420) (e_s := (0, 1, 0, 0, 0, .int 1, [])) (y_s := (1421, [some (.ref _), some (.ref _), some (.ref _), some (.int _)], [.int _], _)) rfl (u_ rfl) ?_
    exact wrI (pc := 1421) (len_s := 1) rfl hk t_s
  · replace t_s := t_s.2 c2_s
    refine w_t (pc := 27) (e_s := (3, 1, 0, 0, 0, .null, [])) (y_s := (28, [some (.ref _), some (.ref _), some (.ref _), some (.int _)], [.ref _], _)) rfl (u_ rfl) ?_
    refine w_t (pc := 28) (e_s := (1, 1, 3, 0, 0, .null, [])) (y_s := (29, [some (.ref _), some (.ref _), some (.ref _), some (.int _)], [.int _, .ref _], _)) rfl (u_ rfl) ?_
    refine w22x (pc := 29) (len_s := 1) rfl ?_
    refine w_t (pc := 30) (e_s := (0, 2, 0, 0, 0, .int 63, [])) (y_s := (32, [some (.ref _), some (.ref _), some (.ref _), some (.int _)], [.int _, .int _], _)) rfl (u_ rfl) ?_
    refine w_t (pc := 32) (e_s := (7, 1, 0, 3, 0, .null, [])) (y_s := (33, [some (.ref _), some (.ref _), some (.ref _), some (.int _)], [.int (_ &&& _)], _)) rfl (u_ rfl) ?_
    refine wsw (pc := 33) (len_s := 167) rfl ?_
    refine wsc (X_s := 0) rfl (by decide) (fun c3_s => ?_) (fun c3_s => ?_)
    · replace t_s := t_s.1 c3_s
      exact t_s
    · replace t_s := t_s.2 c3_s
      refine wsc (X_s := 1) rfl (by decide) (fun c4_s => ?_) (fun c4_s => ?_)
      · replace t_s := t_s.1 c4_s
        exact t_s
      · replace t_s := t_s.2 c4_s
        refine wsc (X_s := 2) rfl (by decide) (fun c5_s => ?_) (fun c5_s => ?_)
        · replace t_s := t_s.1 c5_s
          exact t_s
        · replace t_s := t_s.2 c5_s
          refine wsc (X_s := 3) rfl (by decide) (fun c6_s => ?_) (fun c6_s => ?_)
          · replace t_s := t_s.1 c6_s
            exact t_s
          · replace t_s := t_s.2 c6_s
            refine wsc (X_s := 4) rfl (by decide) (fun c7_s => ?_) (fun c7_s => ?_)
            · replace t_s := t_s.1 c7_s
              exact t_s
            · replace t_s := t_s.2 c7_s
              refine wsc (X_s := 5) rfl (by decide) (fun c8_s => ?_) (fun c8_s => ?_)
              · replace t_s := t_s.1 c8_s
                exact t_s
              · replace t_s := t_s.2 c8_s
                refine wsc (X_s := 6) rfl (by decide) (fun c9_s => ?_) (fun c9_s => ?_)
                · replace t_s := t_s.1 c9_s
                  exact t_s
                · replace t_s := t_s.2 c9_s
                  refine wsc (X_s := 7) rfl (by decide) (fun c10_s => ?_) (fun c10_s => ?_)
                  · replace t_s := t_s.1 c10_s
                    exact t_s
                  · replace t_s := t_s.2 c10_s
                    refine wsc (X_s := 8) rfl (by decide) (fun c11 => ?_) (fun c11 => ?_)
                    · replace t_s := t_s.1 c11
                      exact t_s
                    · replace t_s := t_s.2 c11
                      refine wsc (X_s := 9) rfl (by decide) (fun c12_s => ?_) (fun c12_s => ?_)
                      · replace t_s := t_s.1 c12_s
                        exact t_s
                      · replace t_s := t_s.2 c12_s
                        refine wsc (X_s := 10) rfl (by decide) (fun c13_s => ?_) (fun c13_s => ?_)
                        · replace t_s := t_s.1 c13_s
                          exact t_s
                        · replace t_s := t_s.2 c13_s
                          refine wsc (X_s := 11) rfl (by decide) (fun c14_s => ?_) (fun c14_s => ?_)
                          · replace t_s := t_s.1 c14_s
                            exact t_s
                          · replace t_s := t_s.2 c14_s
                            refine wsc (X_s := 12) rfl (by decide) (fun c15_s => ?_) (fun c15_s => ?_)
                            · replace t_s := t_s.1 c15_s
                              exact t_s
                            · replace t_s := t_s.2 c15_s
                              refine wsc (X_s := 13) rfl (by decide) (fun c16 => ?_) (fun c16 => ?_)
                              · replace t_s := t_s.1 c16
                                exact t_s
                              · replace t_s := t_s.2 c16
                                refine wsc (X_s := 14) rfl (by decide) (fun c17 => ?_) (fun c17 => ?_)
                                · replace t_s := t_s.1 c17
                                  exact t_s
                                · replace t_s := t_s.2 c17
                                  refine wsc (X_s := 15) rfl (by decide) (fun c18_s => ?_) (fun c18_s => ?_)
                                  · replace t_s := t_s.1 c18_s
                                    exact t_s
                                  · replace t_s := t_s.2 c18_s
                                    refine wsc (X_s := 16) rfl (by decide) (fun c19_s => ?_) (fun c19_s => ?_)
                                    · replace t_s := t_s.1 c19_s
                                      exact t_s
                                    · replace t_s := t_s.2 c19_s
                                      refine wsc (X_s := 17) rfl (by decide) (fun c20_s => ?_) (fun c20_s => ?_)
                                      · replace t_s := t_s.1 c20_s
                                        exact t_s
                                      · replace t_s := t_s.2 c20_s
                                        refine wsc (X_s := 18) rfl (by decide) (fun c21 => ?_) (fun c21 => ?_)
                                        · replace t_s := t_s.1 c21
                                          exact t_s
                                        · replace t_s := t_s.2 c21
                                          refine wsc (X_s := 19) rfl (by decide) (fun c22 => ?_) (fun c22 => ?_)
                                          · replace t_s := t_s.1 c22
                                            exact t_s
                                          · replace t_s := t_s.2 c22
                                            refine wsc (X_s := 20) rfl (by decide) (fun c23_s => ?_) (fun c23_s => ?_)
                                            · replace t_s := t_s.1 c23_s
                                              exact t_s
                                            · replace t_s := t_s.2 c23_s
                                              refine wsc (X_s := 21) rfl (by decide) (fun c24_s => ?_) (fun c24_s => ?_)
                                              · replace t_s := t_s.1 c24_s
                                                exact t_s
                                              · replace t_s := t_s.2 c24_s
                                                refine wsc (X_s := 22) rfl (by decide) (fun c25_s => ?_) (fun c25_s => ?_)
                                                · replace t_s := t_s.1 c25_s
                                                  exact t_s
                                                · replace t_s := t_s.2 c25_s
                                                  refine wsc (X_s := 23) rfl (by decide) (fun c26 => ?_) (fun c26 => ?_)
                                                  · replace t_s := t_s.1 c26
                                                    exact t_s
                                                  · replace t_s := t_s.2 c26
                                                    refine wsc (X_s := 24) rfl (by decide) (fun c27_s => ?_) (fun c27_s => ?_)
                                                    · replace t_s := t_s.1 c27_s
                                                      exact t_s
                                                    · replace t_s := t_s.2 c27_s
                                                      refine wsc (X_s := 25) rfl (by decide) (fun c28_s => ?_) (fun c28_s => ?_)
                                                      · replace t_s := t_s.1 c28_s
                                                        exact t_s
                                                      · replace t_s := t_s.2 c28_s
                                                        refine wsc (X_s := 26) rfl (by decide) (fun c29_s => ?_) (fun c29_s => ?_)
                                                        · replace t_s := t_s.1 c29_s
                                                          exact t_s
                                                        · replace t_s := t_s.2 c29_s
                                                          refine wsc (X_s := 27) rfl (by decide) (fun c30_s => ?_) (fun c30_s => ?_)
                                                          · replace t_s := t_s.1 c30_s
                                                            exact t_s
                                                          · replace t_s := t_s.2 c30_s
                                                            refine wsc (X_s := 28) rfl (by decide) (fun c31_s => ?_) (fun c31_s => ?_)
                                                            · replace t_s := t_s.1 c31_s
                                                              exact t_s
                                                            · replace t_s := t_s.2 c31_s
                                                              refine wsc (X_s := 29) rfl (by decide) (fun c32_s => ?_) (fun c32_s => ?_)
                                                              · replace t_s := t_s.1 c32_s
                                                                exact t_s
                                                              · replace t_s := t_s.2 c32_s
                                                                refine wsc (X_s := 30) rfl (by decide) (fun c33_s => ?_) (fun c33_s => ?_)
                                                                · replace t_s := t_s.1 c33_s
                                                                  exact t_s
                                                                · replace t_s := t_s.2 c33_s
                                                                  refine wsc (X_s := 31) rfl (by decide) (fun c34_s => ?_) (fun c34_s => ?_)
                                                                  · replace t_s := t_s.1 c34_s
                                                                    exact t_s
                                                                  · replace t_s := t_s.2 c34_s
                                                                    refine wsc (X_s := 32) rfl (by decide) (fun c35_s => ?_) (fun c35_s => ?_)
                                                                    · replace t_s := t_s.1 c35_s
                                                                      exact t_s
                                                                    · replace t_s := t_s.2 c35_s
                                                                      refine wsc (X_s := 33) rfl (by decide) (fun c36_s => ?_) (fun c36_s => ?_)
                                                                      · replace t_s := t_s.1 c36_s
                                                                        exact t_s
                                                                      · replace t_s := t_s.2 c36_s
                                                                        refine wsc (X_s := 34) rfl (by decide) (fun c37 => ?_) (fun c37 => ?_)
                                                                        · replace t_s := t_s.1 c37
                                                                          exact t_s
                                                                        · replace t_s := t_s.2 c37
                                                                          refine wsc (X_s := 35) rfl (by decide) (fun c38 => ?_) (fun c38 => ?_)
                                                                          · replace t_s := t_s.1 c38
                                                                            exact t_s
                                                                          · replace t_s := t_s.2 c38
                                                                            refine wsc (X_s := 36) rfl (by decide) (fun c39_s => ?_) (fun c39_s => ?_)
                                                                            · replace t_s := t_s.1 c39_s
                                                                              exact t_s
                                                                            · replace t_s := t_s.2 c39_s
                                                                              refine wsc (X_s := 37) rfl (by decide) (fun c40_s => ?_) (fun c40_s => ?_)
                                                                              · replace t_s := t_s.1 c40_s
                                                                                exact t_s
                                                                              · replace t_s := t_s.2 c40_s
                                                                                show wF _ _ (1414, _, _, _) _
                                                                                refine w_t (pc := 1414) (e_s := (19, 3, 3, 0, 0, .int 6, [])) (y_s := (1417, [some (.ref _), some (.ref _), some (.ref _), some (.int _)], [], _)) rfl (u_ rfl) ?_
                                                                                refine w_t (pc := 1417) (e_s := (17, 3, 18, 0, 0, .null, [])) (y_s := (18, [some (.ref _), some (.ref _), some (.ref _), some (.int _)], [], _)) rfl (u_ rfl) ?_
                                                                                exact t_s
theorem sg_241_200 {F_s : Nat} {x3 : Int32} {h_s : zH} {K_s : Int32 → zH → Prop} (hk : hKn h_s) (t_s : wF F_s 93 (0, [some (.ref 6), some (.int (h_s.2.1 0 (zix (x3 + 1))))], [], h_s) (gI (fun v1_s h1 => hKn h1 → wF F_s 155 (0, [some (.ref 102), some (.int (h1.2.1 0 (zix (x3 + 1))))], [], h1) (gI (fun v2 h2 => hKn h2 → wF F_s 241 (18, [some (.ref 0), some (.ref 6), some (.ref 102), some (.int (x3 + 6))], [], h2) (gI K_s)))))) : wF (F_s + 1) 241 (200, [some (.ref 0), some (.ref 6), some (.ref 102), some (.int x3)], [], h_s) (gI K_s) := by
  refine w_0 (pc := 200) (e_s := (3, 1, 1, 0, 0, .null, [])) (y_s := (201, [some (.ref _), some (.ref _), some (.ref _), some (.int _)], [.ref _], _)) rfl (u_ rfl) ?_
  refine w_t (pc := 201) (e_s := (3, 1, 0, 0, 0, .null, [])) (y_s := (202, [some (.ref _), some (.ref _), some (.ref _), some (.int _)], [.ref _, .ref _], _)) rfl (u_ rfl) ?_
  refine w_t (pc := 202) (e_s := (1, 1, 3, 0, 0, .null, [])) (y_s := (203, [some (.ref _), some (.ref _), some (.ref _), some (.int _)], [.int _, .ref _, .ref _], _)) rfl (u_ rfl) ?_
  refine w_t (pc := 203) (e_s := (0, 1, 0, 0, 0, .int 1, [])) (y_s := (204, [some (.ref _), some (.ref _), some (.ref _), some (.int _)], [.int _, .int _, .ref _, .ref _], _)) rfl (u_ rfl) ?_
  refine w_t (pc := 204) (e_s := (7, 1, 0, 0, 0, .null, [])) (y_s := (205, [some (.ref _), some (.ref _), some (.ref _), some (.int _)], [.int (_ + _), .ref _, .ref _], _)) rfl (u_ rfl) ?_
  refine w22x (pc := 205) (len_s := 1) rfl ?_
  refine wcI (pc := 206) (len_s := 3) rfl rfl (l := [some (.ref _), some (.int _)]) rfl (wmI t_s (fun v1_s h1 hk t_s => ?_))
  replace t_s := t_s hk
  refine w_t (pc := 209) (e_s := (42, 1, 0, 0, 0, .null, [])) (y_s := (210, [some (.ref _), some (.ref _), some (.ref _), some (.int _)], [], _)) rfl (u_ rfl) ?_
  refine w_t (pc := 210) (e_s := (3, 1, 2, 0, 0, .null, [])) (y_s := (211, [some (.ref _), some (.ref _), some (.ref _), some (.int _)], [.ref _], _)) rfl (u_ rfl) ?_
  refine w_t (pc := 211) (e_s := (3, 1, 0, 0, 0, .null, [])) (y_s := (212, [some (.ref _), some (.ref _), some (.ref _), some (.int _)], [.ref _, .ref _], _)) rfl (u_ rfl) ?_
  refine w_t (pc := 212) (e_s := (1, 1, 3, 0, 0, .null, [])) (y_s := (213, [some (.ref _), some (.ref _), some (.ref _), some (.int _)], [.int _, .ref _, .ref _], _)) rfl (u_ rfl) ?_
  refine w_t (pc := 213) (e_s := (0, 1, 0, 0, 0, .int 1, [])) (y_s := (214, [some (.ref _), some (.ref _), some (.ref _), some (.int _)], [.int _, .int _, .ref _, .ref _], _)) rfl (u_ rfl) ?_
  refine w_t (pc := 214) (e_s := (7, 1, 0, 0, 0, .null, [])) (y_s := (215, [some (.ref _), some (.ref _), some (.ref _), some (.int _)], [.int (_ + _), .ref _, .ref _], _)) rfl (u_ rfl) ?_
  refine w22x (pc := 215) (len_s := 1) rfl ?_
  refine wcI (pc := 216) (len_s := 3) rfl rfl (l := [some (.ref _), some (.int _)]) rfl (wmI t_s (fun v2 h2 hk t_s => ?_))
  replace t_s := t_s hk
  refine w_t (pc := 219) (e_s := (42, 1, 0, 0, 0, .null, [])) (y_s := (220, [some (.ref _), some (.ref _), some (.ref _), some (.int _)], [], _)) rfl (u_ rfl) ?_
  refine w_t (pc := 220) (e_s := (17, 3, 1414, 0, 0, .null, [])) (y_s := (1414, [some (.ref _), some (.ref _), some (.ref _), some (.int _)], [], _)) rfl (u_ rfl) ?_
  refine w_t (pc := 1414) (e_s := (19, 3, 3, 0, 0, .int 6, [])) (y_s := (1417, [some (.ref _), some (.ref _), some (.ref _), some (.int _)], [], _)) rfl (u_ rfl) ?_
  refine w_t (pc := 1417) (e_s := (17, 3, 18, 0, 0, .null, [])) (y_s := (18, [some (.ref _), some (.ref _), some (.ref _), some (.int _)], [], _)) rfl (u_ rfl) ?_
  exact t_s
theorem sg_241_223 {F_s : Nat} {x3 : Int32} {h_s : zH} {K_s : Int32 → zH → Prop} (hk : hKn h_s) (t_s : wF F_s 94 (0, [some (.ref 6), some (.int (h_s.2.1 0 (zix (x3 + 1)))), some (.int (h_s.2.1 0 (zix (x3 + 2)))), none], [], h_s) (gI (fun v1_s h1 => hKn h1 → wF F_s 156 (0, [some (.ref 102), some (.int (h1.2.1 0 (zix (x3 + 1)))), some (.int (h1.2.1 0 (zix (x3 + 2))))], [], h1) (gI (fun v2 h2 => hKn h2 → wF F_s 241 (18, [some (.ref 0), some (.ref 6), some (.ref 102), some (.int (x3 + 6))], [], h2) (gI K_s)))))) : wF (F_s + 1) 241 (223, [some (.ref 0), some (.ref 6), some (.ref 102), some (.int x3)], [], h_s) (gI K_s) := by
  refine w_0 (pc := 223) (e_s := (3, 1, 1, 0, 0, .null, [])) (y_s := (224, [some (.ref _), some (.ref _), some (.ref _), some (.int _)], [.ref _], _)) rfl (u_ rfl) ?_
  refine w_t (pc := 224) (e_s := (3, 1, 0, 0, 0, .null, [])) (y_s := (225, [some (.ref _), some (.ref _), some (.ref _), some (.int _)], [.ref _, .ref _], _)) rfl (u_ rfl) ?_
  refine w_t (pc := 225) (e_s := (1, 1, 3, 0, 0, .null, [])) (y_s := (226, [some (.ref _), some (.ref _), some (.ref _), some (.int _)], [.int _, .ref _, .ref _], _)) rfl (u_ rfl) ?_
  refine w_t (pc := 226) (e_s := (0, 1, 0, 0, 0, .int 1, [])) (y_s := (227, [some (.ref _), some (.ref _), some (.ref _), some (.int _)], [.int _, .int _, .ref _, .ref _], _)) rfl (u_ rfl) ?_
  refine w_t (pc := 227) (e_s := (7, 1, 0, 0, 0, .null, [])) (y_s := (228, [some (.ref _), some (.ref _), some (.ref _), some (.int _)], [.int (_ + _), .ref _, .ref _], _)) rfl (u_ rfl) ?_
  refine w22x (pc := 228) (len_s := 1) rfl ?_
  refine w_t (pc := 229) (e_s := (3, 1, 0, 0, 0, .null, [])) (y_s := (230, [some (.ref _), some (.ref _), some (.ref _), some (.int _)], [.ref _, .int _, .ref _], _)) rfl (u_ rfl) ?_
  refine w_t (pc := 230) (e_s := (1, 1, 3, 0, 0, .null, [])) (y_s := (231, [some (.ref _), some (.ref _), some (.ref _), some (.int _)], [.int _, .ref _, .int _, .ref _], _)) rfl (u_ rfl) ?_
  refine w_t (pc := 231) (e_s := (0, 1, 0, 0, 0, .int 2, [])) (y_s := (232, [some (.ref _), some (.ref _), some (.ref _), some (.int _)], [.int _, .int _, .ref _, .int _, .ref _], _)) rfl (u_ rfl) ?_
  refine w_t (pc := 232) (e_s := (7, 1, 0, 0, 0, .null, [])) (y_s := (233, [some (.ref _), some (.ref _), some (.ref _), some (.int _)], [.int (_ + _), .ref _, .int _, .ref _], _)) rfl (u_ rfl) ?_
  refine w22x (pc := 233) (len_s := 1) rfl ?_
  refine wcI (pc := 234) (len_s := 3) rfl rfl (l := [some (.ref _), some (.int _), some (.int _), none]) rfl (wmI t_s (fun v1_s h1 hk t_s => ?_))
  replace t_s := t_s hk
  refine w_t (pc := 237) (e_s := (42, 1, 0, 0, 0, .null, [])) (y_s := (238, [some (.ref _), some (.ref _), some (.ref _), some (.int _)], [], _)) rfl (u_ rfl) ?_
  refine w_t (pc := 238) (e_s := (3, 1, 2, 0, 0, .null, [])) (y_s := (239, [some (.ref _), some (.ref _), some (.ref _), some (.int _)], [.ref _], _)) rfl (u_ rfl) ?_
  refine w_t (pc := 239) (e_s := (3, 1, 0, 0, 0, .null, [])) (y_s := (240, [some (.ref _), some (.ref _), some (.ref _), some (.int _)], [.ref _, .ref _], _)) rfl (u_ rfl) ?_
  refine w_t (pc := 240) (e_s := (1, 1, 3, 0, 0, .null, [])) (y_s := (241, [some (.ref _), some (.ref _), some (.ref _), some (.int _)], [.int _, .ref _, .ref _], _)) rfl (u_ rfl) ?_
  refine w_t (pc := 241) (e_s := (0, 1, 0, 0, 0, .int 1, [])) (y_s := (242, [some (.ref _), some (.ref _), some (.ref _), some (.int _)], [.int _, .int _, .ref _, .ref _], _)) rfl (u_ rfl) ?_
  refine w_t (pc := 242) (e_s := (7, 1, 0, 0, 0, .null, [])) (y_s := (243, [some (.ref _), some (.ref _), some (.ref _), some (.int _)], [.int (_ + _), .ref _, .ref _], _)) rfl (u_ rfl) ?_
  refine w22x (pc := 243) (len_s := 1) rfl ?_
  refine w_t (pc := 244) (e_s := (3, 1, 0, 0, 0, .null, [])) (y_s := (245, [some (.ref _), some (.ref _), some (.ref _), some (.int _)], [.ref _, .int _, .ref _], _)) rfl (u_ rfl) ?_
  refine w_t (pc := 245) (e_s := (1, 1, 3, 0, 0, .null, [])) (y_s := (246, [some (.ref _), some (.ref _), some (.ref _), some (.int _)], [.int _, .ref _, .int _, .ref _], _)) rfl (u_ rfl) ?_
  refine w_t (pc := 246) (e_s := (0, 1, 0, 0, 0, .int 2, [])) (y_s := (247, [some (.ref _), some (.ref _), some (.ref _), some (.int _)], [.int _, .int _, .ref _, .int _, .ref _], _)) rfl (u_ rfl) ?_
  refine w_t (pc := 247) (e_s := (7, 1, 0, 0, 0, .null, [])) (y_s := (248, [some (.ref _), some (.ref _), some (.ref _), some (.int _)], [.int (_ + _), .ref _, .int _, .ref _], _)) rfl (u_ rfl) ?_
  refine w22x (pc := 248) (len_s := 1) rfl ?_
  refine wcI (pc := 249) (len_s := 3) rfl rfl (l := [some (.ref _), some (.int _), some (.int _)]) rfl (wmI t_s (fun v2 h2 hk t_s => ?_))
  replace t_s := t_s hk
  refine w_t (pc := 252) (e_s := (42, 1, 0, 0, 0, .null, [])) (y_s := (253, [some (.ref _), some (.ref _), some (.ref _), some (.int _)], [], _)) rfl (u_ rfl) ?_
  refine w_t (pc := 253) (e_s := (17, 3, 1414, 0, 0, .null, [])) (y_s := (1414, [some (.ref _), some (.ref _), some (.ref _), some (.int _)], [], _)) rfl (u_ rfl) ?_
  refine w_t (pc := 1414) (e_s := (19, 3, 3, 0, 0, .int 6, [])) (y_s := (1417, [some (.ref _), some (.ref _), some (.ref _), some (.int _)], [], _)) rfl (u_ rfl) ?_
  refine w_t (pc := 1417) (e_s := (17, 3, 18, 0, 0, .null, [])) (y_s := (18, [some (.ref _), some (.ref _), some (.ref _), some (.int _)], [], _)) rfl (u_ rfl) ?_
  exact t_s
theorem sg_241_256 {F_s : Nat} {x3 : Int32} {h_s : zH} {K_s : Int32 → zH → Prop} (hk : hKn h_s) (t_s : wF F_s 95 (0, [some (.ref 6), some (.int (h_s.2.1 0 (zix (x3 + 1)))), some (.int (h_s.2.1 0 (zix (x3 + 2))))], [], h_s) (gI (fun v1_s h1 => hKn h1 → wF F_s 159 (0, [some (.ref 102), some (.int (h1.2.1 0 (zix (x3 + 1)))), some (.int (h1.2.1 0 (zix (x3 + 2))))], [], h1) (gI (fun v2 h2 => hKn h2 → wF F_s 241 (18, [some (.ref 0), some (.ref 6), some (.ref 102), some (.int (x3 + 6))], [], h2) (gI K_s)))))) : wF (F_s + 1) 241 (256, [some (.ref 0), some (.ref 6), some (.ref 102), some (.int x3)], [], h_s) (gI K_s) := by
  refine w_0 (pc := 256) (e_s := (3, 1, 1, 0, 0, .null, [])) (y_s := (257, [some (.ref _), some (.ref _), some (.ref _), some (.int _)], [.ref _], _)) rfl (u_ rfl) ?_
  refine w_t (pc := 257) (e_s := (3, 1, 0, 0, 0, .null, [])) (y_s := (258, [some (.ref _), some (.ref _), some (.ref _), some (.int _)], [.ref _, .ref _], _)) rfl (u_ rfl) ?_
  refine w_t (pc := 258) (e_s := (1, 1, 3, 0, 0, .null, [])) (y_s := (259, [some (.ref _), some (.ref _), some (.ref _), some (.int _)], [.int _, .ref _, .ref _], _)) rfl (u_ rfl) ?_
  refine w_t (pc := 259) (e_s := (0, 1, 0, 0, 0, .int 1, [])) (y_s := (260, [some (.ref _), some (.ref _), some (.ref _), some (.int _)], [.int _, .int _, .ref _, .ref _], _)) rfl (u_ rfl) ?_
  refine w_t (pc := 260) (e_s := (7, 1, 0, 0, 0, .null, [])) (y_s := (261, [some (.ref _), some (.ref _), some (.ref _), some (.int _)], [.int (_ + _), .ref _, .ref _], _)) rfl (u_ rfl) ?_
  refine w22x (pc := 261) (len_s := 1) rfl ?_
  refine w_t (pc := 262) (e_s := (3, 1, 0, 0, 0, .null, [])) (y_s := (263, [some (.ref _), some (.ref _), some (.ref _), some (.int _)], [.ref _, .int _, .ref _], _)) rfl (u_ rfl) ?_
  refine w_t (pc := 263) (e_s := (1, 1, 3, 0, 0, .null, [])) (y_s := (264, [some (.ref _), some (.ref _), some (.ref _), some (.int _)], [.int _, .ref _, .int _, .ref _], _)) rfl (u_ rfl) ?_
  refine w_t (pc := 264) (e_s := (0, 1, 0, 0, 0, .int 2, [])) (y_s := (265, [some (.ref _), some (.ref _), some (.ref _), some (.int _)], [.int _, .int _, .ref _, .int _, .ref _], _)) rfl (u_ rfl) ?_
  refine w_t (pc := 265) (e_s := (7, 1, 0, 0, 0, .null, [])) (y_s := (266, [some (.ref _), some (.ref _), some (.ref _), some (.int _)], [.int (_ + _), .ref _, .int _, .ref _], _)) rfl (u_ rfl) ?_
  refine w22x (pc := 266) (len_s := 1) rfl ?_
  refine wcI (pc := 267) (len_s := 3) rfl rfl (l := [some (.ref _), some (.int _), some (.int _)]) rfl (wmI t_s (fun v1_s h1 hk t_s => ?_))
  replace t_s := t_s hk
  refine w_t (pc := 270) (e_s := (42, 1, 0, 0, 0, .null, [])) (y_s := (271, [some (.ref _), some (.ref _), some (.ref _), some (.int _)], [], _)) rfl (u_ rfl) ?_
  refine w_t (pc := 271) (e_s := (3, 1, 2, 0, 0, .null, [])) (y_s := (272, [some (.ref _), some (.ref _), some (.ref _), some (.int _)], [.ref _], _)) rfl (u_ rfl) ?_
  refine w_t (pc := 272) (e_s := (3, 1, 0, 0, 0, .null, [])) (y_s := (273, [some (.ref _), some (.ref _), some (.ref _), some (.int _)], [.ref _, .ref _], _)) rfl (u_ rfl) ?_
  refine w_t (pc := 273) (e_s := (1, 1, 3, 0, 0, .null, [])) (y_s := (274, [some (.ref _), some (.ref _), some (.ref _), some (.int _)], [.int _, .ref _, .ref _], _)) rfl (u_ rfl) ?_
  refine w_t (pc := 274) (e_s := (0, 1, 0, 0, 0, .int 1, [])) (y_s := (275, [some (.ref _), some (.ref _), some (.ref _), some (.int _)], [.int _, .int _, .ref _, .ref _], _)) rfl (u_ rfl) ?_
  refine w_t (pc := 275) (e_s := (7, 1, 0, 0, 0, .null, [])) (y_s := (276, [some (.ref _), some (.ref _), some (.ref _), some (.int _)], [.int (_ + _), .ref _, .ref _], _)) rfl (u_ rfl) ?_
  refine w22x (pc := 276) (len_s := 1) rfl ?_
  refine w_t (pc := 277) (e_s := (3, 1, 0, 0, 0, .null, [])) (y_s := (278, [some (.ref _), some (.ref _), some (.ref _), some (.int _)], [.ref _, .int _, .ref _], _)) rfl (u_ rfl) ?_
  refine w_t (pc := 278) (e_s := (1, 1, 3, 0, 0, .null, [])) (y_s := (279, [some (.ref _), some (.ref _), some (.ref _), some (.int _)], [.int _, .ref _, .int _, .ref _], _)) rfl (u_ rfl) ?_
  refine w_t (pc := 279) (e_s := (0, 1, 0, 0, 0, .int 2, [])) (y_s := (280, [some (.ref _), some (.ref _), some (.ref _), some (.int _)], [.int _, .int _, .ref _, .int _, .ref _], _)) rfl (u_ rfl) ?_
  refine w_t (pc := 280) (e_s := (7, 1, 0, 0, 0, .null, [])) (y_s := (281, [some (.ref _), some (.ref _), some (.ref _), some (.int _)], [.int (_ + _), .ref _, .int _, .ref _], _)) rfl (u_ rfl) ?_
  refine w22x (pc := 281) (len_s := 1) rfl ?_
  refine wcI (pc := 282) (len_s := 3) rfl rfl (l := [some (.ref _), some (.int _), some (.int _)]) rfl (wmI t_s (fun v2 h2 hk t_s => ?_))
  replace t_s := t_s hk
  refine w_t (pc := 285) (e_s := (42, 1, 0, 0, 0, .null, [])) (y_s := (286, [some (.ref _), some (.ref _), some (.ref _), some (.int _)], [], _)) rfl (u_ rfl) ?_
  refine w_t (pc := 286) (e_s := (17, 3, 1414, 0, 0, .null, [])) (y_s := (1414, [some (.ref _), some (.ref _), some (.ref _), some (.int _)], [], _)) rfl (u_ rfl) ?_
  refine w_t (pc := 1414) (e_s := (19, 3, 3, 0, 0, .int 6, [])) (y_s := (1417, [some (.ref _), some (.ref _), some (.ref _), some (.int _)], [], _)) rfl (u_ rfl) ?_
  refine w_t (pc := 1417) (e_s := (17, 3, 18, 0, 0, .null, [])) (y_s := (18, [some (.ref _), some (.ref _), some (.ref _), some (.int _)], [], _)) rfl (u_ rfl) ?_
  exact t_s
theorem sg_241_289 {F_s : Nat} {x3 : Int32} {h_s : zH} {K_s : Int32 → zH → Prop} (hk : hKn h_s) (t_s : wF F_s 96 (0, [some (.ref 6), some (.int (h_s.2.1 0 (zix (x3 + 1)))), some (.int (h_s.2.1 0 (zix (x3 + 2)))), some (.int (h_s.2.1 0 (zix (x3 + 3)))), none, none, none], [], h_s) (gI (fun v1_s h1 => hKn h1 → wF F_s 160 (0, [some (.ref 102), some (.int (h1.2.1 0 (zix (x3 + 1)))), some (.int (h1.2.1 0 (zix (x3 + 2)))), some (.int (h1.2.1 0 (zix (x3 + 3)))), none, none, none], [], h1) (gI (fun v2 h2 => hKn h2 → wF F_s 241 (18, [some (.ref 0), some (.ref 6), some (.ref 102), some (.int (x3 + 6))], [], h2) (gI K_s)))))) : wF (F_s + 1) 241 (289, [some (.ref 0), some (.ref 6), some (.ref 102), some (.int x3)], [], h_s) (gI K_s) := by
  refine w_0 (pc := 289) (e_s := (3, 1, 1, 0, 0, .null, [])) (y_s := (290, [some (.ref _), some (.ref _), some (.ref _), some (.int _)], [.ref _], _)) rfl (u_ rfl) ?_
  refine w_t (pc := 290) (e_s := (3, 1, 0, 0, 0, .null, [])) (y_s := (291, [some (.ref _), some (.ref _), some (.ref _), some (.int _)], [.ref _, .ref _], _)) rfl (u_ rfl) ?_
  refine w_t (pc := 291) (e_s := (1, 1, 3, 0, 0, .null, [])) (y_s := (292, [some (.ref _), some (.ref _), some (.ref _), some (.int _)], [.int _, .ref _, .ref _], _)) rfl (u_ rfl) ?_
  refine w_t (pc := 292) (e_s := (0, 1, 0, 0, 0, .int 1, [])) (y_s := (293, [some (.ref _), some (.ref _), some (.ref _), some (.int _)], [.int _, .int _, .ref _, .ref _], _)) rfl (u_ rfl) ?_
  refine w_t (pc := 293) (e_s := (7, 1, 0, 0, 0, .null, [])) (y_s := (294, [some (.ref _), some (.ref _), some (.ref _), some (.int _)], [.int (_ + _), .ref _, .ref _], _)) rfl (u_ rfl) ?_
  refine w22x (pc := 294) (len_s := 1) rfl ?_
  refine w_t (pc := 295) (e_s := (3, 1, 0, 0, 0, .null, [])) (y_s := (296, [some (.ref _), some (.ref _), some (.ref _), some (.int _)], [.ref _, .int _, .ref _], _)) rfl (u_ rfl) ?_
  refine w_t (pc := 296) (e_s := (1, 1, 3, 0, 0, .null, [])) (y_s := (297, [some (.ref _), some (.ref _), some (.ref _), some (.int _)], [.int _, .ref _, .int _, .ref _], _)) rfl (u_ rfl) ?_
  refine w_t (pc := 297) (e_s := (0, 1, 0, 0, 0, .int 2, [])) (y_s := (298, [some (.ref _), some (.ref _), some (.ref _), some (.int _)], [.int _, .int _, .ref _, .int _, .ref _], _)) rfl (u_ rfl) ?_
  refine w_t (pc := 298) (e_s := (7, 1, 0, 0, 0, .null, [])) (y_s := (299, [some (.ref _), some (.ref _), some (.ref _), some (.int _)], [.int (_ + _), .ref _, .int _, .ref _], _)) rfl (u_ rfl) ?_
  refine w22x (pc := 299) (len_s := 1) rfl ?_
  refine w_t (pc := 300) (e_s := (3, 1, 0, 0, 0, .null, [])) (y_s := (301, [some (.ref _), some (.ref _), some (.ref _), some (.int _)], [.ref _, .int _, .int _, .ref _], _)) rfl (u_ rfl) ?_
  refine w_t (pc := 301) (e_s := (1, 1, 3, 0, 0, .null, [])) (y_s := (302, [some (.ref _), some (.ref _), some (.ref _), some (.int _)], [.int _, .ref _, .int _, .int _, .ref _], _)) rfl (u_ rfl) ?_
  refine w_t (pc := 302) (e_s := (0, 1, 0, 0, 0, .int 3, [])) (y_s := (303, [some (.ref _), some (.ref _), some (.ref _), some (.int _)], [.int _, .int _, .ref _, .int _, .int _, .ref _], _)) rfl (u_ rfl) ?_
  refine w_t (pc := 303) (e_s := (7, 1, 0, 0, 0, .null, [])) (y_s := (304, [some (.ref _), some (.ref _), some (.ref _), some (.int _)], [.int (_ + _), .ref _, .int _, .int _, .ref _], _)) rfl (u_ rfl) ?_
  refine w22x (pc := 304) (len_s := 1) rfl ?_
  refine wcI (pc := 305) (len_s := 3) rfl rfl (l := [some (.ref _), some (.int _), some (.int _), some (.int _), none, none, none]) rfl (wmI t_s (fun v1_s h1 hk t_s => ?_))
  replace t_s := t_s hk
  refine w_t (pc := 308) (e_s := (42, 1, 0, 0, 0, .null, [])) (y_s := (309, [some (.ref _), some (.ref _), some (.ref _), some (.int _)], [], _)) rfl (u_ rfl) ?_
  refine w_t (pc := 309) (e_s := (3, 1, 2, 0, 0, .null, [])) (y_s := (310, [some (.ref _), some (.ref _), some (.ref _), some (.int _)], [.ref _], _)) rfl (u_ rfl) ?_
  refine w_t (pc := 310) (e_s := (3, 1, 0, 0, 0, .null, [])) (y_s := (311, [some (.ref _), some (.ref _), some (.ref _), some (.int _)], [.ref _, .ref _], _)) rfl (u_ rfl) ?_
  refine w_t (pc := 311) (e_s := (1, 1, 3, 0, 0, .null, [])) (y_s := (312, [some (.ref _), some (.ref _), some (.ref _), some (.int _)], [.int _, .ref _, .ref _], _)) rfl (u_ rfl) ?_
  refine w_t (pc := 312) (e_s := (0, 1, 0, 0, 0, .int 1, [])) (y_s := (313, [some (.ref _), some (.ref _), some (.ref _), some (.int _)], [.int _, .int _, .ref _, .ref _], _)) rfl (u_ rfl) ?_
  refine w_t (pc := 313) (e_s := (7, 1, 0, 0, 0, .null, [])) (y_s := (314, [some (.ref _), some (.ref _), some (.ref _), some (.int _)], [.int (_ + _), .ref _, .ref _], _)) rfl (u_ rfl) ?_
  refine w22x (pc := 314) (len_s := 1) rfl ?_
  refine w_t (pc := 315) (e_s := (3, 1, 0, 0, 0, .null, [])) (y_s := (316, [some (.ref _), some (.ref _), some (.ref _), some (.int _)], [.ref _, .int _, .ref _], _)) rfl (u_ rfl) ?_
  refine w_t (pc := 316) (e_s := (1, 1, 3, 0, 0, .null, [])) (y_s := (317, [some (.ref _), some (.ref _), some (.ref _), some (.int _)], [.int _, .ref _, .int _, .ref _], _)) rfl (u_ rfl) ?_
  refine w_t (pc := 317) (e_s := (0, 1, 0, 0, 0, .int 2, [])) (y_s := (318, [some (.ref _), some (.ref _), some (.ref _), some (.int _)], [.int _, .int _, .ref _, .int _, .ref _], _)) rfl (u_ rfl) ?_
  refine w_t (pc := 318) (e_s := (7, 1, 0, 0, 0, .null, [])) (y_s := (319, [some (.ref _), some (.ref _), some (.ref _), some (.int _)], [.int (_ + _), .ref _, .int _, .ref _], _)) rfl (u_ rfl) ?_
  refine w22x (pc := 319) (len_s := 1) rfl ?_
  refine w_t (pc := 320) (e_s := (3, 1, 0, 0, 0, .null, [])) (y_s := (321, [some (.ref _), some (.ref _), some (.ref _), some (.int _)], [.ref _, .int _, .int _, .ref _], _)) rfl (u_ rfl) ?_
  refine w_t (pc := 321) (e_s := (1, 1, 3, 0, 0, .null, [])) (y_s := (322, [some (.ref _), some (.ref _), some (.ref _), some (.int _)], [.int _, .ref _, .int _, .int _, .ref _], _)) rfl (u_ rfl) ?_
  refine w_t (pc := 322) (e_s := (0, 1, 0, 0, 0, .int 3, [])) (y_s := (323, [some (.ref _), some (.ref _), some (.ref _), some (.int _)], [.int _, .int _, .ref _, .int _, .int _, .ref _], _)) rfl (u_ rfl) ?_
  refine w_t (pc := 323) (e_s := (7, 1, 0, 0, 0, .null, [])) (y_s := (324, [some (.ref _), some (.ref _), some (.ref _), some (.int _)], [.int (_ + _), .ref _, .int _, .int _, .ref _], _)) rfl (u_ rfl) ?_
  refine w22x (pc := 324) (len_s := 1) rfl ?_
  refine wcI (pc := 325) (len_s := 3) rfl rfl (l := [some (.ref _), some (.int _), some (.int _), some (.int _), none, none, none]) rfl (wmI t_s (fun v2 h2 hk t_s => ?_))
  replace t_s := t_s hk
  refine w_t (pc := 328) (e_s := (42, 1, 0, 0, 0, .null, [])) (y_s := (329, [some (.ref _), some (.ref _), some (.ref _), some (.int _)], [], _)) rfl (u_ rfl) ?_
  refine w_t (pc := 329) (e_s := (17, 3, 1414, 0, 0, .null, [])) (y_s := (1414, [some (.ref _), some (.ref _), some (.ref _), some (.int _)], [], _)) rfl (u_ rfl) ?_
  refine w_t (pc := 1414) (e_s := (19, 3, 3, 0, 0, .int 6, [])) (y_s := (1417, [some (.ref _), some (.ref _), some (.ref _), some (.int _)], [], _)) rfl (u_ rfl) ?_
  refine w_t (pc := 1417) (e_s := (17, 3, 18, 0, 0, .null, [])) (y_s := (18, [some (.ref _), some (.ref _), some (.ref _), some (.int _)], [], _)) rfl (u_ rfl) ?_
  exact t_s
theorem sg_241_332 {F_s : Nat} {x3 : Int32} {h_s : zH} {K_s : Int32 → zH → Prop} (hk : hKn h_s) (t_s : wF F_s 98 (0, [some (.ref 6), some (.int (h_s.2.1 0 (zix (x3 + 1)))), some (.int (h_s.2.1 0 (zix (x3 + 2)))), some (.int (h_s.2.1 0 (zix (x3 + 3)))), none], [], h_s) (gI (fun v1_s h1 => hKn h1 → wF F_s 163 (0, [some (.ref 102), some (.int (h1.2.1 0 (zix (x3 + 1)))), some (.int (h1.2.1 0 (zix (x3 + 2)))), some (.int (h1.2.1 0 (zix (x3 + 3)))), none], [], h1) (gI (fun v2 h2 => hKn h2 → wF F_s 241 (18, [some (.ref 0), some (.ref 6), some (.ref 102), some (.int (x3 + 6))], [], h2) (gI K_s)))))) : wF (F_s + 1) 241 (332, [some (.ref 0), some (.ref 6), some (.ref 102), some (.int x3)], [], h_s) (gI K_s) := by
  refine w_0 (pc := 332) (e_s := (3, 1, 1, 0, 0, .null, [])) (y_s := (333, [some (.ref _), some (.ref _), some (.ref _), some (.int _)], [.ref _], _)) rfl (u_ rfl) ?_
  refine w_t (pc := 333) (e_s := (3, 1, 0, 0, 0, .null, [])) (y_s := (334, [some (.ref _), some (.ref _), some (.ref _), some (.int _)], [.ref _, .ref _], _)) rfl (u_ rfl) ?_
  refine w_t (pc := 334) (e_s := (1, 1, 3, 0, 0, .null, [])) (y_s := (335, [some (.ref _), some (.ref _), some (.ref _), some (.int _)], [.int _, .ref _, .ref _], _)) rfl (u_ rfl) ?_
  refine w_t (pc := 335) (e_s := (0, 1, 0, 0, 0, .int 1, [])) (y_s := (336, [some (.ref _), some (.ref _), some (.ref _), some (.int _)], [.int _, .int _, .ref _, .ref _], _)) rfl (u_ rfl) ?_
  refine w_t (pc := 336) (e_s := (7, 1, 0, 0, 0, .null, [])) (y_s := (337, [some (.ref _), some (.ref _), some (.ref _), some (.int _)], [.int (_ + _), .ref _, .ref _], _)) rfl (u_ rfl) ?_
  refine w22x (pc := 337) (len_s := 1) rfl ?_
  refine w_t (pc := 338) (e_s := (3, 1, 0, 0, 0, .null, [])) (y_s := (339, [some (.ref _), some (.ref _), some (.ref _), some (.int _)], [.ref _, .int _, .ref _], _)) rfl (u_ rfl) ?_
  refine w_t (pc := 339) (e_s := (1, 1, 3, 0, 0, .null, [])) (y_s := (340, [some (.ref _), some (.ref _), some (.ref _), some (.int _)], [.int _, .ref _, .int _, .ref _], _)) rfl (u_ rfl) ?_
  refine w_t (pc := 340) (e_s := (0, 1, 0, 0, 0, .int 2, [])) (y_s := (341, [some (.ref _), some (.ref _), some (.ref _), some (.int _)], [.int _, .int _, .ref _, .int _, .ref _], _)) rfl (u_ rfl) ?_
  refine w_t (pc := 341) (e_s := (7, 1, 0, 0, 0, .null, [])) (y_s := (342, [some (.ref _), some (.ref _), some (.ref _), some (.int _)], [.int (_ + _), .ref _, .int _, .ref _], _)) rfl (u_ rfl) ?_
  refine w22x (pc := 342) (len_s := 1) rfl ?_
  refine w_t (pc := 343) (e_s := (3, 1, 0, 0, 0, .null, [])) (y_s := (344, [some (.ref _), some (.ref _), some (.ref _), some (.int _)], [.ref _, .int _, .int _, .ref _], _)) rfl (u_ rfl) ?_
  refine w_t (pc := 344) (e_s := (1, 1, 3, 0, 0, .null, [])) (y_s := (345, [some (.ref _), some (.ref _), some (.ref _), some (.int _)], [.int _, .ref _, .int _, .int _, .ref _], _)) rfl (u_ rfl) ?_
  refine w_t (pc := 345) (e_s := (0, 1, 0, 0, 0, .int 3, [])) (y_s := (346, [some (.ref _), some (.ref _), some (.ref _), some (.int _)], [.int _, .int _, .ref _, .int _, .int _, .ref _], _)) rfl (u_ rfl) ?_
  refine w_t (pc := 346) (e_s := (7, 1, 0, 0, 0, .null, [])) (y_s := (347, [some (.ref _), some (.ref _), some (.ref _), some (.int _)], [.int (_ + _), .ref _, .int _, .int _, .ref _], _)) rfl (u_ rfl) ?_
  refine w22x (pc := 347) (len_s := 1) rfl ?_
  refine wcI (pc := 348) (len_s := 3) rfl rfl (l := [some (.ref _), some (.int _), some (.int _), some (.int _), none]) rfl (wmI t_s (fun v1_s h1 hk t_s => ?_))
  replace t_s := t_s hk
  refine w_t (pc := 351) (e_s := (42, 1, 0, 0, 0, .null, [])) (y_s := (352, [some (.ref _), some (.ref _), some (.ref _), some (.int _)], [], _)) rfl (u_ rfl) ?_
  refine w_t (pc := 352) (e_s := (3, 1, 2, 0, 0, .null, [])) (y_s := (353, [some (.ref _), some (.ref _), some (.ref _), some (.int _)], [.ref _], _)) rfl (u_ rfl) ?_
  refine w_t (pc := 353) (e_s := (3, 1, 0, 0, 0, .null, [])) (y_s := (354, [some (.ref _), some (.ref _), some (.ref _), some (.int _)], [.ref _, .ref _], _)) rfl (u_ rfl) ?_
  refine w_t (pc := 354) (e_s := (1, 1, 3, 0, 0, .null, [])) (y_s := (355, [some (.ref _), some (.ref _), some (.ref _), some (.int _)], [.int _, .ref _, .ref _], _)) rfl (u_ rfl) ?_
  refine w_t (pc := 355) (e_s := (0, 1, 0, 0, 0, .int 1, [])) (y_s := (356, [some (.ref _), some (.ref _), some (.ref _), some (.int _)], [.int _, .int _, .ref _, .ref _], _)) rfl (u_ rfl) ?_
  refine w_t (pc := 356) (e_s := (7, 1, 0, 0, 0, .null, [])) (y_s := (357, [some (.ref _), some (.ref _), some (.ref _), some (.int _)], [.int (_ + _), .ref _, .ref _], _)) rfl (u_ rfl) ?_
  refine w22x (pc := 357) (len_s := 1) rfl ?_
  refine w_t (pc := 358) (e_s := (3, 1, 0, 0, 0, .null, [])) (y_s := (359, [some (.ref _), some (.ref _), some (.ref _), some (.int _)], [.ref _, .int _, .ref _], _)) rfl (u_ rfl) ?_
  refine w_t (pc := 359) (e_s := (1, 1, 3, 0, 0, .null, [])) (y_s := (360, [some (.ref _), some (.ref _), some (.ref _), some (.int _)], [.int _, .ref _, .int _, .ref _], _)) rfl (u_ rfl) ?_
  refine w_t (pc := 360) (e_s := (0, 1, 0, 0, 0, .int 2, [])) (y_s := (361, [some (.ref _), some (.ref _), some (.ref _), some (.int _)], [.int _, .int _, .ref _, .int _, .ref _], _)) rfl (u_ rfl) ?_
  refine w_t (pc := 361) (e_s := (7, 1, 0, 0, 0, .null, [])) (y_s := (362, [some (.ref _), some (.ref _), some (.ref _), some (.int _)], [.int (_ + _), .ref _, .int _, .ref _], _)) rfl (u_ rfl) ?_
  refine w22x (pc := 362) (len_s := 1) rfl ?_
  refine w_t (pc := 363) (e_s := (3, 1, 0, 0, 0, .null, [])) (y_s := (364, [some (.ref _), some (.ref _), some (.ref _), some (.int _)], [.ref _, .int _, .int _, .ref _], _)) rfl (u_ rfl) ?_
  refine w_t (pc := 364) (e_s := (1, 1, 3, 0, 0, .null, [])) (y_s := (365, [some (.ref _), some (.ref _), some (.ref _), some (.int _)], [.int _, .ref _, .int _, .int _, .ref _], _)) rfl (u_ rfl) ?_
  refine w_t (pc := 365) (e_s := (0, 1, 0, 0, 0, .int 3, [])) (y_s := (366, [some (.ref _), some (.ref _), some (.ref _), some (.int _)], [.int _, .int _, .ref _, .int _, .int _, .ref _], _)) rfl (u_ rfl) ?_
  refine w_t (pc := 366) (e_s := (7, 1, 0, 0, 0, .null, [])) (y_s := (367, [some (.ref _), some (.ref _), some (.ref _), some (.int _)], [.int (_ + _), .ref _, .int _, .int _, .ref _], _)) rfl (u_ rfl) ?_
  refine w22x (pc := 367) (len_s := 1) rfl ?_
  refine wcI (pc := 368) (len_s := 3) rfl rfl (l := [some (.ref _), some (.int _), some (.int _), some (.int _), none]) rfl (wmI t_s (fun v2 h2 hk t_s => ?_))
  replace t_s := t_s hk
  refine w_t (pc := 371) (e_s := (42, 1, 0, 0, 0, .null, [])) (y_s := (372, [some (.ref _), some (.ref _), some (.ref _), some (.int _)], [], _)) rfl (u_ rfl) ?_
  refine w_t (pc := 372) (e_s := (17, 3, 1414, 0, 0, .null, [])) (y_s := (1414, [some (.ref _), some (.ref _), some (.ref _), some (.int _)], [], _)) rfl (u_ rfl) ?_
  refine w_t (pc := 1414) (e_s := (19, 3, 3, 0, 0, .int 6, [])) (y_s := (1417, [some (.ref _), some (.ref _), some (.ref _), some (.int _)], [], _)) rfl (u_ rfl) ?_
  refine w_t (pc := 1417) (e_s := (17, 3, 18, 0, 0, .null, [])) (y_s := (18, [some (.ref _), some (.ref _), some (.ref _), some (.int _)], [], _)) rfl (u_ rfl) ?_
  exact t_s
theorem sg_241_375 {F_s : Nat} {x3 : Int32} {h_s : zH} {K_s : Int32 → zH → Prop} (hk : hKn h_s) (t_s : wF F_s 99 (0, [some (.ref 6), some (.int (h_s.2.1 0 (zix (x3 + 1)))), some (.int (h_s.2.1 0 (zix (x3 + 2))))], [], h_s) (gI (fun v1_s h1 => hKn h1 → wF F_s 164 (0, [some (.ref 102), some (.int (h1.2.1 0 (zix (x3 + 1)))), some (.int (h1.2.1 0 (zix (x3 + 2)))), none], [], h1) (gI (fun v2 h2 => hKn h2 → wF F_s 241 (18, [some (.ref 0), some (.ref 6), some (.ref 102), some (.int (x3 + 6))], [], h2) (gI K_s)))))) : wF (F_s + 1) 241 (375, [some (.ref 0), some (.ref 6), some (.ref 102), some (.int x3)], [], h_s) (gI K_s) := by
  refine w_0 (pc := 375) (e_s := (3, 1, 1, 0, 0, .null, [])) (y_s := (376, [some (.ref _), some (.ref _), some (.ref _), some (.int _)], [.ref _], _)) rfl (u_ rfl) ?_
  refine w_t (pc := 376) (e_s := (3, 1, 0, 0, 0, .null, [])) (y_s := (377, [some (.ref _), some (.ref _), some (.ref _), some (.int _)], [.ref _, .ref _], _)) rfl (u_ rfl) ?_
  refine w_t (pc := 377) (e_s := (1, 1, 3, 0, 0, .null, [])) (y_s := (378, [some (.ref _), some (.ref _), some (.ref _), some (.int _)], [.int _, .ref _, .ref _], _)) rfl (u_ rfl) ?_
  refine w_t (pc := 378) (e_s := (0, 1, 0, 0, 0, .int 1, [])) (y_s := (379, [some (.ref _), some (.ref _), some (.ref _), some (.int _)], [.int _, .int _, .ref _, .ref _], _)) rfl (u_ rfl) ?_
  refine w_t (pc := 379) (e_s := (7, 1, 0, 0, 0, .null, [])) (y_s := (380, [some (.ref _), some (.ref _), some (.ref _), some (.int _)], [.int (_ + _), .ref _, .ref _], _)) rfl (u_ rfl) ?_
  refine w22x (pc := 380) (len_s := 1) rfl ?_
  refine w_t (pc := 381) (e_s := (3, 1, 0, 0, 0, .null, [])) (y_s := (382, [some (.ref _), some (.ref _), some (.ref _), some (.int _)], [.ref _, .int _, .ref _], _)) rfl (u_ rfl) ?_
  refine w_t (pc := 382) (e_s := (1, 1, 3, 0, 0, .null, [])) (y_s := (383, [some (.ref _), some (.ref _), some (.ref _), some (.int _)], [.int _, .ref _, .int _, .ref _], _)) rfl (u_ rfl) ?_
  refine w_t (pc := 383) (e_s := (0, 1, 0, 0, 0, .int 2, [])) (y_s := (384, [some (.ref _), some (.ref _), some (.ref _), some (.int _)], [.int _, .int _, .ref _, .int _, .ref _], _)) rfl (u_ rfl) ?_
  refine w_t (pc := 384) (e_s := (7, 1, 0, 0, 0, .null, [])) (y_s := (385, [some (.ref _), some (.ref _), some (.ref _), some (.int _)], [.int (_ + _), .ref _, .int _, .ref _], _)) rfl (u_ rfl) ?_
  refine w22x (pc := 385) (len_s := 1) rfl ?_
  refine wcI (pc := 386) (len_s := 3) rfl rfl (l := [some (.ref _), some (.int _), some (.int _)]) rfl (wmI t_s (fun v1_s h1 hk t_s => ?_))
  replace t_s := t_s hk
  refine w_t (pc := 389) (e_s := (42, 1, 0, 0, 0, .null, [])) (y_s := (390, [some (.ref _), some (.ref _), some (.ref _), some (.int _)], [], _)) rfl (u_ rfl) ?_
  refine w_t (pc := 390) (e_s := (3, 1, 2, 0, 0, .null, [])) (y_s := (391, [some (.ref _), some (.ref _), some (.ref _), some (.int _)], [.ref _], _)) rfl (u_ rfl) ?_
  refine w_t (pc := 391) (e_s := (3, 1, 0, 0, 0, .null, [])) (y_s := (392, [some (.ref _), some (.ref _), some (.ref _), some (.int _)], [.ref _, .ref _], _)) rfl (u_ rfl) ?_
  refine w_t (pc := 392) (e_s := (1, 1, 3, 0, 0, .null, [])) (y_s := (393, [some (.ref _), some (.ref _), some (.ref _), some (.int _)], [.int _, .ref _, .ref _], _)) rfl (u_ rfl) ?_
  refine w_t (pc := 393) (e_s := (0, 1, 0, 0, 0, .int 1, [])) (y_s := (394, [some (.ref _), some (.ref _), some (.ref _), some (.int _)], [.int _, .int _, .ref _, .ref _], _)) rfl (u_ rfl) ?_
  refine w_t (pc := 394) (e_s := (7, 1, 0, 0, 0, .null, [])) (y_s := (395, [some (.ref _), some (.ref _), some (.ref _), some (.int _)], [.int (_ + _), .ref _, .ref _], _)) rfl (u_ rfl) ?_
  refine w22x (pc := 395) (len_s := 1) rfl ?_
  refine w_t (pc := 396) (e_s := (3, 1, 0, 0, 0, .null, [])) (y_s := (397, [some (.ref _), some (.ref _), some (.ref _), some (.int _)], [.ref _, .int _, .ref _], _)) rfl (u_ rfl) ?_
  refine w_t (pc := 397) (e_s := (1, 1, 3, 0, 0, .null, [])) (y_s := (398, [some (.ref _), some (.ref _), some (.ref _), some (.int _)], [.int _, .ref _, .int _, .ref _], _)) rfl (u_ rfl) ?_
  refine w_t (pc := 398) (e_s := (0, 1, 0, 0, 0, .int 2, [])) (y_s := (399, [some (.ref _), some (.ref _), some (.ref _), some (.int _)], [.int _, .int _, .ref _, .int _, .ref _], _)) rfl (u_ rfl) ?_
  refine w_t (pc := 399) (e_s := (7, 1, 0, 0, 0, .null, [])) (y_s := (400, [some (.ref _), some (.ref _), some (.ref _), some (.int _)], [.int (_ + _), .ref _, .int _, .ref _], _)) rfl (u_ rfl) ?_
  refine w22x (pc := 400) (len_s := 1) rfl ?_
  refine wcI (pc := 401) (len_s := 3) rfl rfl (l := [some (.ref _), some (.int _), some (.int _), none]) rfl (wmI t_s (fun v2 h2 hk t_s => ?_))
  replace t_s := t_s hk
  refine w_t (pc := 404) (e_s := (42, 1, 0, 0, 0, .null, [])) (y_s := (405, [some (.ref _), some (.ref _), some (.ref _), some (.int _)], [], _)) rfl (u_ rfl) ?_
  refine w_t (pc := 405) (e_s := (17, 3, 1414, 0, 0, .null, [])) (y_s := (1414, [some (.ref _), some (.ref _), some (.ref _), some (.int _)], [], _)) rfl (u_ rfl) ?_
  refine w_t (pc := 1414) (e_s := (19, 3, 3, 0, 0, .int 6, [])) (y_s := (1417, [some (.ref _), some (.ref _), some (.ref _), some (.int _)], [], _)) rfl (u_ rfl) ?_
  refine w_t (pc := 1417) (e_s := (17, 3, 18, 0, 0, .null, [])) (y_s := (18, [some (.ref _), some (.ref _), some (.ref _), some (.int _)], [], _)) rfl (u_ rfl) ?_
  exact t_s
theorem sg_241_408 {F_s : Nat} {x3 : Int32} {h_s : zH} {K_s : Int32 → zH → Prop} (hk : hKn h_s) (t_s : wF F_s 100 (0, [some (.ref 6), some (.int (h_s.2.1 0 (zix (x3 + 1))))], [], h_s) (gI (fun v1_s h1 => hKn h1 → wF F_s 165 (0, [some (.ref 102), some (.int (h1.2.1 0 (zix (x3 + 1))))], [], h1) (gI (fun v2 h2 => hKn h2 → wF F_s 241 (18, [some (.ref 0), some (.ref 6), some (.ref 102), some (.int (x3 + 6))], [], h2) (gI K_s)))))) : wF (F_s + 1) 241 (408, [some (.ref 0), some (.ref 6), some (.ref 102), some (.int x3)], [], h_s) (gI K_s) := by
  refine w_0 (pc := 408) (e_s := (3, 1, 1, 0, 0, .null, [])) (y_s := (409, [some (.ref _), some (.ref _), some (.ref _), some (.int _)], [.ref _], _)) rfl (u_ rfl) ?_
  refine w_t (pc := 409) (e_s := (3, 1, 0, 0, 0, .null, [])) (y_s := (410, [some (.ref _), some (.ref _), some (.ref _), some (.int _)], [.ref _, .ref _], _)) rfl (u_ rfl) ?_
  refine w_t (pc := 410) (e_s := (1, 1, 3, 0, 0, .null, [])) (y_s := (411, [some (.ref _), some (.ref _), some (.ref _), some (.int _)], [.int _, .ref _, .ref _], _)) rfl (u_ rfl) ?_
  refine w_t (pc := 411) (e_s := (0, 1, 0, 0, 0, .int 1, [])) (y_s := (412, [some (.ref _), some (.ref _), some (.ref _), some (.int _)], [.int _, .int _, .ref _, .ref _], _)) rfl (u_ rfl) ?_
  refine w_t (pc := 412) (e_s := (7, 1, 0, 0, 0, .null, [])) (y_s := (413, [some (.ref _), some (.ref _), some (.ref _), some (.int _)], [.int (_ + _), .ref _, .ref _], _)) rfl (u_ rfl) ?_
  refine w22x (pc := 413) (len_s := 1) rfl ?_
  refine wcI (pc := 414) (len_s := 3) rfl rfl (l := [some (.ref _), some (.int _)]) rfl (wmI t_s (fun v1_s h1 hk t_s => ?_))
  replace t_s := t_s hk
  refine w_t (pc := 417) (e_s := (42, 1, 0, 0, 0, .null, [])) (y_s := (418, [some (.ref _), some (.ref _), some (.ref _), some (.int _)], [], _)) rfl (u_ rfl) ?_
  refine w_t (pc := 418) (e_s := (3, 1, 2, 0, 0, .null, [])) (y_s := (419, [some (.ref _), some (.ref _), some (.ref _), some (.int _)], [.ref _], _)) rfl (u_ rfl) ?_
  refine w_t (pc := 419) (e_s := (3, 1, 0, 0, 0, .null, [])) (y_s := (420, [some (.ref _), some (.ref _), some (.ref _), some (.int _)], [.ref _, .ref _], _)) rfl (u_ rfl) ?_
  refine w_t (pc := 420) (e_s := (1, 1, 3, 0, 0, .null, [])) (y_s := (421, [some (.ref _), some (.ref _), some (.ref _), some (.int _)], [.int _, .ref _, .ref _], _)) rfl (u_ rfl) ?_
  refine w_t (pc := 421) (e_s := (0, 1, 0, 0, 0, .int 1, [])) (y_s := (422, [some (.ref _), some (.ref _), some (.ref _), some (.int _)], [.int _, .int _, .ref _, .ref _], _)) rfl (u_ rfl) ?_
  refine w_t (pc := 422) (e_s := (7, 1, 0, 0, 0, .null, [])) (y_s := (423, [some (.ref _), some (.ref _), some (.ref _), some (.int _)], [.int (_ + _), .ref _, .ref _], _)) rfl (u_ rfl) ?_
  refine w22x (pc := 423) (len_s := 1) rfl ?_
  refine wcI (pc := 424) (len_s := 3) rfl rfl (l := [some (.ref _), some (.int _)]) rfl (wmI t_s (fun v2 h2 hk t_s => ?_))
  replace t_s := t_s hk
  refine w_t (pc := 427) (e_s := (42, 1, 0, 0, 0, .null, [])) (y_s := (428, [some (.ref _), some (.ref _), some (.ref _), some (.int _)], [], _)) rfl (u_ rfl) ?_
  refine w_t (pc := 428) (e_s := (17, 3, 1414, 0, 0, .null, [])) (y_s := (1414, [some (.ref _), some (.ref _), some (.ref _), some (.int _)], [], _)) rfl (u_ rfl) ?_
  refine w_t (pc := 1414) (e_s := (19, 3, 3, 0, 0, .int 6, [])) (y_s := (1417, [some (.ref _), some (.ref _), some (.ref _), some (.int _)], [], _)) rfl (u_ rfl) ?_
  refine w_t (pc := 1417) (e_s := (17, 3, 18, 0, 0, .null, [])) (y_s := (18, [some (.ref _), some (.ref _), some (.ref _), some (.int _)], [], _)) rfl (u_ rfl) ?_
  exact t_s
theorem sg_241_431 {F_s : Nat} {x3 : Int32} {h_s : zH} {K_s : Int32 → zH → Prop} (hk : hKn h_s) (t_s : wF F_s 101 (0, [some (.ref 6), none, none], [], h_s) (gI (fun v1_s h1 => hKn h1 → wF F_s 177 (0, [some (.ref 102), none, none, none], [], h1) (gI (fun v2 h2 => hKn h2 → wF F_s 241 (18, [some (.ref 0), some (.ref 6), some (.ref 102), some (.int (x3 + 6))], [], h2) (gI K_s)))))) : wF (F_s + 1) 241 (431, [some (.ref 0), some (.ref 6), some (.ref 102), some (.int x3)], [], h_s) (gI K_s) := by
  refine w_0 (pc := 431) (e_s := (3, 1, 1, 0, 0, .null, [])) (y_s := (432, [some (.ref _), some (.ref _), some (.ref _), some (.int _)], [.ref _], _)) rfl (u_ rfl) ?_
  refine wcI (pc := 432) (len_s := 3) rfl rfl (l := [some (.ref _), none, none]) rfl (wmI t_s (fun v1_s h1 hk t_s => ?_))
  replace t_s := t_s hk
  refine w_t (pc := 435) (e_s := (42, 1, 0, 0, 0, .null, [])) (y_s := (436, [some (.ref _), some (.ref _), some (.ref _), some (.int _)], [], _)) rfl (u_ rfl) ?_
  refine w_t (pc := 436) (e_s := (3, 1, 2, 0, 0, .null, [])) (y_s := (437, [some (.ref _), some (.ref _), some (.ref _), some (.int _)], [.ref _], _)) rfl (u_ rfl) ?_
  refine wcI (pc := 437) (len_s := 3) rfl rfl (l := [some (.ref _), none, none, none]) rfl (wmI t_s (fun v2 h2 hk t_s => ?_))
  replace t_s := t_s hk
  refine w_t (pc := 440) (e_s := (42, 1, 0, 0, 0, .null, [])) (y_s := (441, [some (.ref _), some (.ref _), some (.ref _), some (.int _)], [], _)) rfl (u_ rfl) ?_
  refine w_t (pc := 441) (e_s := (17, 3, 1414, 0, 0, .null, [])) (y_s := (1414, [some (.ref _), some (.ref _), some (.ref _), some (.int _)], [], _)) rfl (u_ rfl) ?_
  refine w_t (pc := 1414) (e_s := (19, 3, 3, 0, 0, .int 6, [])) (y_s := (1417, [some (.ref _), some (.ref _), some (.ref _), some (.int _)], [], _)) rfl (u_ rfl) ?_
  refine w_t (pc := 1417) (e_s := (17, 3, 18, 0, 0, .null, [])) (y_s := (18, [some (.ref _), some (.ref _), some (.ref _), some (.int _)], [], _)) rfl (u_ rfl) ?_
  exact t_s
theorem sg_241_444 {F_s : Nat} {x3 : Int32} {h_s : zH} {K_s : Int32 → zH → Prop} (hk : hKn h_s) (t_s : wF F_s 102 (0, [some (.ref 6), some (.int (h_s.2.1 0 (zix (x3 + 1)))), some (.int (h_s.2.1 0 (zix (x3 + 2))))], [], h_s) (gI (fun v1_s h1 => hKn h1 → wF F_s 181 (0, [some (.ref 102), some (.int (h1.2.1 0 (zix (x3 + 1)))), some (.int (h1.2.1 0 (zix (x3 + 2))))], [], h1) (gI (fun v2 h2 => hKn h2 → wF F_s 241 (18, [some (.ref 0), some (.ref 6), some (.ref 102), some (.int (x3 + 6))], [], h2) (gI K_s)))))) : wF (F_s + 1) 241 (444, [some (.ref 0), some (.ref 6), some (.ref 102), some (.int x3)], [], h_s) (gI K_s) := by
  refine w_0 (pc := 444) (e_s := (3, 1, 1, 0, 0, .null, [])) (y_s := (445, [some (.ref _), some (.ref _), some (.ref _), some (.int _)], [.ref _], _)) rfl (u_ rfl) ?_
  refine w_t (pc := 445) (e_s := (3, 1, 0, 0, 0, .null, [])) (y_s := (446, [some (.ref _), some (.ref _), some (.ref _), some (.int _)], [.ref _, .ref _], _)) rfl (u_ rfl) ?_
  refine w_t (pc := 446) (e_s := (1, 1, 3, 0, 0, .null, [])) (y_s := (447, [some (.ref _), some (.ref _), some (.ref _), some (.int _)], [.int _, .ref _, .ref _], _)) rfl (u_ rfl) ?_
  refine w_t (pc := 447) (e_s := (0, 1, 0, 0, 0, .int 1, [])) (y_s := (448, [some (.ref _), some (.ref _), some (.ref _), some (.int _)], [.int _, .int _, .ref _, .ref _], _)) rfl (u_ rfl) ?_
  refine w_t (pc := 448) (e_s := (7, 1, 0, 0, 0, .null, [])) (y_s := (449, [some (.ref _), some (.ref _), some (.ref _), some (.int _)], [.int (_ + _), .ref _, .ref _], _)) rfl (u_ rfl) ?_
  refine w22x (pc := 449) (len_s := 1) rfl ?_
  refine w_t (pc := 450) (e_s := (3, 1, 0, 0, 0, .null, [])) (y_s := (451, [some (.ref _), some (.ref _), some (.ref _), some (.int _)], [.ref _, .int _, .ref _], _)) rfl (u_ rfl) ?_
  refine w_t (pc := 451) (e_s := (1, 1, 3, 0, 0, .null, [])) (y_s := (452, [some (.ref _), some (.ref _), some (.ref _), some (.int _)], [.int _, .ref _, .int _, .ref _], _)) rfl (u_ rfl) ?_
  refine w_t (pc := 452) (e_s := (0, 1, 0, 0, 0, .int 2, [])) (y_s := (453, [some (.ref _), some (.ref _), some (.ref _), some (.int _)], [.int _, .int _, .ref _, .int _, .ref _], _)) rfl (u_ rfl) ?_
  refine w_t (pc := 453) (e_s := (7, 1, 0, 0, 0, .null, [])) (y_s := (454, [some (.ref _), some (.ref _), some (.ref _), some (.int _)], [.int (_ + _), .ref _, .int _, .ref _], _)) rfl (u_ rfl) ?_
  refine w22x (pc := 454) (len_s := 1) rfl ?_
  refine wcI (pc := 455) (len_s := 3) rfl rfl (l := [some (.ref _), some (.int _), some (.int _)]) rfl (wmI t_s (fun v1_s h1 hk t_s => ?_))
  replace t_s := t_s hk
  refine w_t (pc := 458) (e_s := (42, 1, 0, 0, 0, .null, [])) (y_s := (459, [some (.ref _), some (.ref _), some (.ref _), some (.int _)], [], _)) rfl (u_ rfl) ?_
  refine w_t (pc := 459) (e_s := (3, 1, 2, 0, 0, .null, [])) (y_s := (460, [some (.ref _), some (.ref _), some (.ref _), some (.int _)], [.ref _], _)) rfl (u_ rfl) ?_
  refine w_t (pc := 460) (e_s := (3, 1, 0, 0, 0, .null, [])) (y_s := (461, [some (.ref _), some (.ref _), some (.ref _), some (.int _)], [.ref _, .ref _], _)) rfl (u_ rfl) ?_
  refine w_t (pc := 461) (e_s := (1, 1, 3, 0, 0, .null, [])) (y_s := (462, [some (.ref _), some (.ref _), some (.ref _), some (.int _)], [.int _, .ref _, .ref _], _)) rfl (u_ rfl) ?_
  refine w_t (pc := 462) (e_s := (0, 1, 0, 0, 0, .int 1, [])) (y_s := (463, [some (.ref _), some (.ref _), some (.ref _), some (.int _)], [.int _, .int _, .ref _, .ref _], _)) rfl (u_ rfl) ?_
  refine w_t (pc := 463) (e_s := (7, 1, 0, 0, 0, .null, [])) (y_s := (464, [some (.ref _), some (.ref _), some (.ref _), some (.int _)], [.int (_ + _), .ref _, .ref _], _)) rfl (u_ rfl) ?_
  refine w22x (pc := 464) (len_s := 1) rfl ?_
  refine w_t (pc := 465) (e_s := (3, 1, 0, 0, 0, .null, [])) (y_s := (466, [some (.ref _), some (.ref _), some (.ref _), some (.int _)], [.ref _, .int _, .ref _], _)) rfl (u_ rfl) ?_
  refine w_t (pc := 466) (e_s := (1, 1, 3, 0, 0, .null, [])) (y_s := (467, [some (.ref _), some (.ref _), some (.ref _), some (.int _)], [.int _, .ref _, .int _, .ref _], _)) rfl (u_ rfl) ?_
  refine w_t (pc := 467) (e_s := (0, 1, 0, 0, 0, .int 2, [])) (y_s := (468, [some (.ref _), some (.ref _), some (.ref _), some (.int _)], [.int _, .int _, .ref _, .int _, .ref _], _)) rfl (u_ rfl) ?_
  refine w_t (pc := 468) (e_s := (7, 1, 0, 0, 0, .null, [])) (y_s := (469, [some (.ref _), some (.ref _), some (.ref _), some (.int _)], [.int (_ + _), .ref _, .int _, .ref _], _)) rfl (u_ rfl) ?_
  refine w22x (pc := 469) (len_s := 1) rfl ?_
  refine wcI (pc := 470) (len_s := 3) rfl rfl (l := [some (.ref _), some (.int _), some (.int _)]) rfl (wmI t_s (fun v2 h2 hk t_s => ?_))
  replace t_s := t_s hk
  refine w_t (pc := 473) (e_s := (42, 1, 0, 0, 0, .null, [])) (y_s := (474, [some (.ref _), some (.ref _), some (.ref _), some (.int _)], [], _)) rfl (u_ rfl) ?_
  refine w_t (pc := 474) (e_s := (17, 3, 1414, 0, 0, .null, [])) (y_s := (1414, [some (.ref _), some (.ref _), some (.ref _), some (.int _)], [], _)) rfl (u_ rfl) ?_
  refine w_t (pc := 1414) (e_s := (19, 3, 3, 0, 0, .int 6, [])) (y_s := (1417, [some (.ref _), some (.ref _), some (.ref _), some (.int _)], [], _)) rfl (u_ rfl) ?_
  refine w_t (pc := 1417) (e_s := (17, 3, 18, 0, 0, .null, [])) (y_s := (18, [some (.ref _), some (.ref _), some (.ref _), some (.int _)], [], _)) rfl (u_ rfl) ?_
  exact t_s
theorem sg_241_477 {F_s : Nat} {x3 : Int32} {h_s : zH} {K_s : Int32 → zH → Prop} (hk : hKn h_s) (t_s : wF F_s 103 (0, [some (.ref 6), some (.int (h_s.2.1 0 (zix (x3 + 1)))), some (.int (h_s.2.1 0 (zix (x3 + 2)))), some (.int (h_s.2.1 0 (zix (x3 + 3)))), none, none, none], [], h_s) (gI (fun v1_s h1 => hKn h1 → wF F_s 189 (0, [some (.ref 102), some (.int (h1.2.1 0 (zix (x3 + 1)))), some (.int (h1.2.1 0 (zix (x3 + 2)))), some (.int (h1.2.1 0 (zix (x3 + 3))))], [], h1) (gI (fun v2 h2 => hKn h2 → wF F_s 241 (18, [some (.ref 0), some (.ref 6), some (.ref 102), some (.int (x3 + 6))], [], h2) (gI K_s)))))) : wF (F_s + 1) 241 (477, [some (.ref 0), some (.ref 6), some (.ref 102), some (.int x3)], [], h_s) (gI K_s) := by
  refine w_0 (pc := 477) (e_s := (3, 1, 1, 0, 0, .null, [])) (y_s := (478, [some (.ref _), some (.ref _), some (.ref _), some (.int _)], [.ref _], _)) rfl (u_ rfl) ?_
  refine w_t (pc := 478) (e_s := (3, 1, 0, 0, 0, .null, [])) (y_s := (479, [some (.ref _), some (.ref _), some (.ref _), some (.int _)], [.ref _, .ref _], _)) rfl (u_ rfl) ?_
  refine w_t (pc := 479) (e_s := (1, 1, 3, 0, 0, .null, [])) (y_s := (480, [some (.ref _), some (.ref _), some (.ref _), some (.int _)], [.int _, .ref _, .ref _], _)) rfl (u_ rfl) ?_
  refine w_t (pc := 480) (e_s := (0, 1, 0, 0, 0, .int 1, [])) (y_s := (481, [some (.ref _), some (.ref _), some (.ref _), some (.int _)], [.int _, .int _, .ref _, .ref _], _)) rfl (u_ rfl) ?_
  refine w_t (pc := 481) (e_s := (7, 1, 0, 0, 0, .null, [])) (y_s := (482, [some (.ref _), some (.ref _), some (.ref _), some (.int _)], [.int (_ + _), .ref _, .ref _], _)) rfl (u_ rfl) ?_
  refine w22x (pc := 482) (len_s := 1) rfl ?_
  refine w_t (pc := 483) (e_s := (3, 1, 0, 0, 0, .null, [])) (y_s := (484, [some (.ref _), some (.ref _), some (.ref _), some (.int _)], [.ref _, .int _, .ref _], _)) rfl (u_ rfl) ?_
  refine w_t (pc := 484) (e_s := (1, 1, 3, 0, 0, .null, [])) (y_s := (485, [some (.ref _), some (.ref _), some (.ref _), some (.int _)], [.int _, .ref _, .int _, .ref _], _)) rfl (u_ rfl) ?_
  refine w_t (pc := 485) (e_s := (0, 1, 0, 0, 0, .int 2, [])) (y_s := (486, [some (.ref _), some (.ref _), some (.ref _), some (.int _)], [.int _, .int _, .ref _, .int _, .ref _], _)) rfl (u_ rfl) ?_
  refine w_t (pc := 486) (e_s := (7, 1, 0, 0, 0, .null, [])) (y_s := (487, [some (.ref _), some (.ref _), some (.ref _), some (.int _)], [.int (_ + _), .ref _, .int _, .ref _], _)) rfl (u_ rfl) ?_
  refine w22x (pc := 487) (len_s := 1) rfl ?_
  refine w_t (pc := 488) (e_s := (3, 1, 0, 0, 0, .null, [])) (y_s := (489, [some (.ref _), some (.ref _), some (.ref _), some (.int _)], [.ref _, .int _, .int _, .ref _], _)) rfl (u_ rfl) ?_
  refine w_t (pc := 489) (e_s := (1, 1, 3, 0, 0, .null, [])) (y_s := (490, [some (.ref _), some (.ref _), some (.ref _), some (.int _)], [.int _, .ref _, .int _, .int _, .ref _], _)) rfl (u_ rfl) ?_
  refine w_t (pc := 490) (e_s := (0, 1, 0, 0, 0, .int 3, [])) (y_s := (491, [some (.ref _), some (.ref _), some (.ref _), some (.int _)], [.int _, .int _, .ref _, .int _, .int _, .ref _], _)) rfl (u_ rfl) ?_
  refine w_t (pc := 491) (e_s := (7, 1, 0, 0, 0, .null, [])) (y_s := (492, [some (.ref _), some (.ref _), some (.ref _), some (.int _)], [.int (_ + _), .ref _, .int _, .int _, .ref _], _)) rfl (u_ rfl) ?_
  refine w22x (pc := 492) (len_s := 1) rfl ?_
  refine wcI (pc := 493) (len_s := 3) rfl rfl (l := [some (.ref _), some (.int _), some (.int _), some (.int _), none, none, none]) rfl (wmI t_s (fun v1_s h1 hk t_s => ?_))
  replace t_s := t_s hk
  refine w_t (pc := 496) (e_s := (42, 1, 0, 0, 0, .null, [])) (y_s := (497, [some (.ref _), some (.ref _), some (.ref _), some (.int _)], [], _)) rfl (u_ rfl) ?_
  refine w_t (pc := 497) (e_s := (3, 1, 2, 0, 0, .null, [])) (y_s := (498, [some (.ref _), some (.ref _), some (.ref _), some (.int _)], [.ref _], _)) rfl (u_ rfl) ?_
  refine w_t (pc := 498) (e_s := (3, 1, 0, 0, 0, .null, [])) (y_s := (499, [some (.ref _), some (.ref _), some (.ref _), some (.int _)], [.ref _, .ref _], _)) rfl (u_ rfl) ?_
  refine w_t (pc := 499) (e_s := (1, 1, 3, 0, 0, .null, [])) (y_s := (500, [some (.ref _), some (.ref _), some (.ref _), some (.int _)], [.int _, .ref _, .ref _], _)) rfl (u_ rfl) ?_
  refine w_t (pc := 500) (e_s := (0, 1, 0, 0, 0, .int 1, [])) (y_s := (501, [some (.ref _), some (.ref _), some (.ref _), some (.int _)], [.int _, .int _, .ref _, .ref _], _)) rfl (u_ rfl) ?_
  refine w_t (pc := 501) (e_s := (7, 1, 0, 0, 0, .null, [])) (y_s := (502, [some (.ref _), some (.ref _), some (.ref _), some (.int _)], [.int (_ + _), .ref _, .ref _], _)) rfl (u_ rfl) ?_
  refine w22x (pc := 502) (len_s := 1) rfl ?_
  refine w_t (pc := 503) (e_s := (3, 1, 0, 0, 0, .null, [])) (y_s := (504, [some (.ref _), some (.ref _), some (.ref _), some (.int _)], [.ref _, .int _, .ref _], _)) rfl (u_ rfl) ?_
  refine w_t (pc := 504) (e_s := (1, 1, 3, 0, 0, .null, [])) (y_s := (505, [some (.ref _), some (.ref _), some (.ref _), some (.int _)], [.int _, .ref _, .int _, .ref _], _)) rfl (u_ rfl) ?_
  refine w_t (pc := 505) (e_s := (0, 1, 0, 0, 0, .int 2, [])) (y_s := (506, [some (.ref _), some (.ref _), some (.ref _), some (.int _)], [.int _, .int _, .ref _, .int _, .ref _], _)) rfl (u_ rfl) ?_
  refine w_t (pc := 506) (e_s := (7, 1, 0, 0, 0, .null, [])) (y_s := (507, [some (.ref _), some (.ref _), some (.ref _), some (.int _)], [.int (_ + _), .ref _, .int _, .ref _], _)) rfl (u_ rfl) ?_
  refine w22x (pc := 507) (len_s := 1) rfl ?_
  refine w_t (pc := 508) (e_s := (3, 1, 0, 0, 0, .null, [])) (y_s := (509, [some (.ref _), some (.ref _), some (.ref _), some (.int _)], [.ref _, .int _, .int _, .ref _], _)) rfl (u_ rfl) ?_
  refine w_t (pc := 509) (e_s := (1, 1, 3, 0, 0, .null, [])) (y_s := (510, [some (.ref _), some (.ref _), some (.ref _), some (.int _)], [.int _, .ref _, .int _, .int _, .ref _], _)) rfl (u_ rfl) ?_
  refine w_t (pc := 510) (e_s := (0, 1, 0, 0, 0, .int 3, [])) (y_s := (511, [some (.ref _), some (.ref _), some (.ref _), some (.int _)], [.int _, .int _, .ref _, .int _, .int _, .ref _], _)) rfl (u_ rfl) ?_
  refine w_t (pc := 511) (e_s := (7, 1, 0, 0, 0, .null, [])) (y_s := (512, [some (.ref _), some (.ref _), some (.ref _), some (.int _)], [.int (_ + _), .ref _, .int _, .int _, .ref _], _)) rfl (u_ rfl) ?_
  refine w22x (pc := 512) (len_s := 1) rfl ?_
  refine wcI (pc := 513) (len_s := 3) rfl rfl (l := [some (.ref _), some (.int _), some (.int _), some (.int _)]) rfl (wmI t_s (fun v2 h2 hk t_s => ?_))
  replace t_s := t_s hk
  refine w_t (pc := 516) (e_s := (42, 1, 0, 0, 0, .null, [])) (y_s := (517, [some (.ref _), some (.ref _), some (.ref _), some (.int _)], [], _)) rfl (u_ rfl) ?_
  refine w_t (pc := 517) (e_s := (17, 3, 1414, 0, 0, .null, [])) (y_s := (1414, [some (.ref _), some (.ref _), some (.ref _), some (.int _)], [], _)) rfl (u_ rfl) ?_
  refine w_t (pc := 1414) (e_s := (19, 3, 3, 0, 0, .int 6, [])) (y_s := (1417, [some (.ref _), some (.ref _), some (.ref _), some (.int _)], [], _)) rfl (u_ rfl) ?_
  refine w_t (pc := 1417) (e_s := (17, 3, 18, 0, 0, .null, [])) (y_s := (18, [some (.ref _), some (.ref _), some (.ref _), some (.int _)], [], _)) rfl (u_ rfl) ?_
  exact t_s
theorem sg_241_520 {F_s : Nat} {x3 : Int32} {h_s : zH} {K_s : Int32 → zH → Prop} (hk : hKn h_s) (t_s : wF F_s 104 (0, [some (.ref 6), some (.int (h_s.2.1 0 (zix (x3 + 1)))), some (.int (h_s.2.1 0 (zix (x3 + 2)))), some (.int (h_s.2.1 0 (zix (x3 + 3)))), none, none], [], h_s) (gI (fun v1_s h1 => hKn h1 → wF F_s 191 (0, [some (.ref 102), some (.int (h1.2.1 0 (zix (x3 + 1)))), some (.int (h1.2.1 0 (zix (x3 + 2)))), some (.int (h1.2.1 0 (zix (x3 + 3)))), none], [], h1) (gI (fun v2 h2 => hKn h2 → (v1_s.toInt = v2.toInt → wF F_s 241 (18, [some (.ref 0), some (.ref 6), some (.ref 102), some (.int (x3 + 6))], [], h2) (gI K_s)) ∧ (¬ v1_s.toInt = v2.toInt → K_s 0 h2)))))) : wF (F_s + 1) 241 (520, [some (.ref 0), some (.ref 6), some (.ref 102), some (.int x3)], [], h_s) (gI K_s) := by
  refine w_0 (pc := 520) (e_s := (3, 1, 1, 0, 0, .null, [])) (y_s := (521, [some (.ref _), some (.ref _), some (.ref _), some (.int _)], [.ref _], _)) rfl (u_ rfl) ?_
  refine w_t (pc := 521) (e_s := (3, 1, 0, 0, 0, .null, [])) (y_s := (522, [some (.ref _), some (.ref _), some (.ref _), some (.int _)], [.ref _, .ref _], _)) rfl (u_ rfl) ?_
  refine w_t (pc := 522) (e_s := (1, 1, 3, 0, 0, .null, [])) (y_s := (523, [some (.ref _), some (.ref _), some (.ref _), some (.int _)], [.int _, .ref _, .ref _], _)) rfl (u_ rfl) ?_
  refine w_t (pc := 523) (e_s := (0, 1, 0, 0, 0, .int 1, [])) (y_s := (524, [some (.ref _), some (.ref _), some (.ref _), some (.int _)], [.int _, .int _, .ref _, .ref _], _)) rfl (u_ rfl) ?_
  refine w_t (pc := 524) (e_s := (7, 1, 0, 0, 0, .null, [])) (y_s := (525, [some (.ref _), some (.ref _), some (.ref _), some (.int _)], [.int (_ + _), .ref _, .ref _], _)) rfl (u_ rfl) ?_
  refine w22x (pc := 525) (len_s := 1) rfl ?_
  refine w_t (pc := 526) (e_s := (3, 1, 0, 0, 0, .null, [])) (y_s := (527, [some (.ref _), some (.ref _), some (.ref _), some (.int _)], [.ref _, .int _, .ref _], _)) rfl (u_ rfl) ?_
  refine w_t (pc := 527) (e_s := (1, 1, 3, 0, 0, .null, [])) (y_s := (528, [some (.ref _), some (.ref _), some (.ref _), some (.int _)], [.int _, .ref _, .int _, .ref _], _)) rfl (u_ rfl) ?_
  refine w_t (pc := 528) (e_s := (0, 1, 0, 0, 0, .int 2, [])) (y_s := (529, [some (.ref _), some (.ref _), some (.ref _), some (.int _)], [.int _, .int _, .ref _, .int _, .ref _], _)) rfl (u_ rfl) ?_
  refine w_t (pc := 529) (e_s := (7, 1, 0, 0, 0, .null, [])) (y_s := (530, [some (.ref _), some (.ref _), some (.ref _), some (.int _)], [.int (_ + _), .ref _, .int _, .ref _], _)) rfl (u_ rfl) ?_
  refine w22x (pc := 530) (len_s := 1) rfl ?_
  refine w_t (pc := 531) (e_s := (3, 1, 0, 0, 0, .null, [])) (y_s := (532, [some (.ref _), some (.ref _), some (.ref _), some (.int _)], [.ref _, .int _, .int _, .ref _], _)) rfl (u_ rfl) ?_
  refine w_t (pc := 532) (e_s := (1, 1, 3, 0, 0, .null, [])) (y_s := (533, [some (.ref _), some (.ref _), some (.ref _), some (.int _)], [.int _, .ref _, .int _, .int _, .ref _], _)) rfl (u_ rfl) ?_
  refine w_t (pc := 533) (e_s := (0, 1, 0, 0, 0, .int 3, [])) (y_s := (534, [some (.ref _), some (.ref _), some (.ref _), some (.int _)], [.int _, .int _, .ref _, .int _, .int _, .ref _], _)) rfl (u_ rfl) ?_
  refine w_t (pc := 534) (e_s := (7, 1, 0, 0, 0, .null, [])) (y_s := (535, [some (.ref _), some (.ref _), some (.ref _), some (.int _)], [.int (_ + _), .ref _, .int _, .int _, .ref _], _)) rfl (u_ rfl) ?_
  refine w22x (pc := 535) (len_s := 1) rfl ?_
  refine wcI (pc := 536) (len_s := 3) rfl rfl (l := [some (.ref _), some (.int _), some (.int _), some (.int _), none, none]) rfl (wmI t_s (fun v1_s h1 hk t_s => ?_))
  replace t_s := t_s hk
  refine w_t (pc := 539) (e_s := (3, 1, 2, 0, 0, .null, [])) (y_s := (540, [some (.ref _), some (.ref _), some (.ref _), some (.int _)], [.ref _, .int _], _)) rfl (u_ rfl) ?_
  refine w_t (pc := 540) (e_s := (3, 1, 0, 0, 0, .null, [])) (y_s := (541, [some (.ref _), some (.ref _), some (.ref _), some (.int _)], [.ref _, .ref _, .int _], _)) rfl (u_ rfl) ?_
  refine w_t (pc := 541) (e_s := (1, 1, 3, 0, 0, .null, [])) (y_s := (542, [some (.ref _), some (.ref _), some (.ref _), some (.int _)], [.int _, .ref _, .ref _, .int _], _)) rfl (u_ rfl) ?_
  refine w_t (pc := 542) (e_s := (0, 1, 0, 0, 0, .int 1, [])) (y_s := (543, [some (.ref _), some (.ref _), some (.ref _), some (.int _)], [.int _, .int _, .ref _, .ref _, .int _], _)) rfl (u_ rfl) ?_
  refine w_t (pc := 543) (e_s := (7, 1, 0, 0, 0, .null, [])) (y_s := (544, [some (.ref _), some (.ref _), some (.ref _), some (.int _)], [.int (_ + _), .ref _, .ref _, .int _], _)) rfl (u_ rfl) ?_
  refine w22x (pc := 544) (len_s := 1) rfl ?_
  refine w_t (pc := 545) (e_s := (3, 1, 0, 0, 0, .null, [])) (y_s := (546, [some (.ref _), some (.ref _), some (.ref _), some (.int _)], [.ref _, .int _, .ref _, .int _], _)) rfl (u_ rfl) ?_
  refine w_t (pc := 546) (e_s := (1, 1, 3, 0, 0, .null, [])) (y_s := (547, [some (.ref _), some (.ref _), some (.ref _), some (.int _)], [.int _, .ref _, .int _, .ref _, .int _], _)) rfl (u_ rfl) ?_
  refine w_t (pc := 547) (e_s := (0, 1, 0, 0, 0, .int 2, [])) (y_s := (548, [some (.ref _), some (.ref _), some (.ref _), some (.int _)], [.int _, .int _, .ref _, .int _, .ref _, .int _], _)) rfl (u_ rfl) ?_
  refine w_t (pc := 548) (e_s := (7, 1, 0, 0, 0, .null, [])) (y_s := (549, [some (.ref _), some (.ref _), some (.ref _), some (.int _)], [.int (_ + _), .ref _, .int _, .ref _, .int _], _)) rfl (u_ rfl) ?_
  refine w22x (pc := 549) (len_s := 1) rfl ?_
  refine w_t (pc := 550) (e_s := (3, 1, 0, 0, 0, .null, [])) (y_s := (551, [some (.ref _), some (.ref _), some (.ref _), some (.int _)], [.ref _, .int _, .int _, .ref _, .int _], _)) rfl (u_ rfl) ?_
  refine w_t (pc := 551) (e_s := (1, 1, 3, 0, 0, .null, [])) (y_s := (552, [some (.ref _), some (.ref _), some (.ref _), some (.int _)], [.int _, .ref _, .int _, .int _, .ref _, .int _], _)) rfl (u_ rfl) ?_
  refine w_t (pc := 552) (e_s := (0, 1, 0, 0, 0, .int 3, [])) (y_s := (553, [some (.ref _), some (.ref _), some (.ref _), some (.int _)], [.int _, .int _, .ref _, .int _, .int _, .ref _, .int _], _)) rfl (u_ rfl) ?_
  refine w_t (pc := 553) (e_s := (7, 1, 0, 0, 0, .null, [])) (y_s := (554, [some (.ref _), some (.ref _), some (.ref _), some (.int _)], [.int (_ + _), .ref _, .int _, .int _, .ref _, .int _], _)) rfl (u_ rfl) ?_
  refine w22x (pc := 554) (len_s := 1) rfl ?_
  refine wcI (pc := 555) (len_s := 3) rfl rfl (l := [some (.ref _), some (.int _), some (.int _), some (.int _), none]) rfl (wmI t_s (fun v2 h2 hk t_s => ?_))
  replace t_s := t_s hk
  refine wi0 (pc := 558) (len_s := 3) rfl rfl rfl (fun c3_s => ?_) (fun c3_s => ?_)
  · replace t_s := t_s.1 c3_s
    refine w_t (pc := 1414) (e_s := (19, 3, 3, 0, 0, .int 6, [])) (y_s := (1417, [some (.ref _), some (.ref _), some (.ref _), some (.int _)], [], _)) rfl (u_ rfl) ?_
    refine w_t (pc := 1417) (e_s := (17, 3, 18, 0, 0, .null, [])) (y_s := (18, [some (.ref _), some (.ref _), some (.ref _), some (.int _)], [], _)) rfl (u_ rfl) ?_
    exact t_s
  · replace t_s := t_s.2 c3_s
    refine w_t (pc := 561) (e_s := (0, 1, 0, 0, 0, .int 0, [])) (y_s := (562, [some (.ref _), some (.ref _), some (.ref _), some (.int _)], [.int _], _)) rfl (u_ rfl) ?_
    exact wrI (pc := 562) (len_s := 1) rfl hk t_s
theorem sg_241_563 {F_s : Nat} {x3 : Int32} {h_s : zH} {K_s : Int32 → zH → Prop} (hk : hKn h_s) (t_s : wF F_s 105 (0, [some (.ref 6), some (.int (h_s.2.1 0 (zix (x3 + 1)))), some (.int (h_s.2.1 0 (zix (x3 + 2)))), some (.int (h_s.2.1 0 (zix (x3 + 3))))], [], h_s) (gI (fun v1_s h1 => hKn h1 → wF F_s 193 (0, [some (.ref 102), some (.int (h1.2.1 0 (zix (x3 + 1)))), some (.int (h1.2.1 0 (zix (x3 + 2)))), some (.int (h1.2.1 0 (zix (x3 + 3))))], [], h1) (gI (fun v2 h2 => hKn h2 → wF F_s 241 (18, [some (.ref 0), some (.ref 6), some (.ref 102), some (.int (x3 + 6))], [], h2) (gI K_s)))))) : wF (F_s + 1) 241 (563, [some (.ref 0), some (.ref 6), some (.ref 102), some (.int x3)], [], h_s) (gI K_s) := by
  refine w_0 (pc := 563) (e_s := (3, 1, 1, 0, 0, .null, [])) (y_s := (564, [some (.ref _), some (.ref _), some (.ref _), some (.int _)], [.ref _], _)) rfl (u_ rfl) ?_
  refine w_t (pc := 564) (e_s := (3, 1, 0, 0, 0, .null, [])) (y_s := (565, [some (.ref _), some (.ref _), some (.ref _), some (.int _)], [.ref _, .ref _], _)) rfl (u_ rfl) ?_
  refine w_t (pc := 565) (e_s := (1, 1, 3, 0, 0, .null, [])) (y_s := (566, [some (.ref _), some (.ref _), some (.ref _), some (.int _)], [.int _, .ref _, .ref _], _)) rfl (u_ rfl) ?_
  refine w_t (pc := 566) (e_s := (0, 1, 0, 0, 0, .int 1, [])) (y_s := (567, [some (.ref _), some (.ref _), some (.ref _), some (.int _)], [.int _, .int _, .ref _, .ref _], _)) rfl (u_ rfl) ?_
  refine w_t (pc := 567) (e_s := (7, 1, 0, 0, 0, .null, [])) (y_s := (568, [some (.ref _), some (.ref _), some (.ref _), some (.int _)], [.int (_ + _), .ref _, .ref _], _)) rfl (u_ rfl) ?_
  refine w22x (pc := 568) (len_s := 1) rfl ?_
  refine w_t (pc := 569) (e_s := (3, 1, 0, 0, 0, .null, [])) (y_s := (570, [some (.ref _), some (.ref _), some (.ref _), some (.int _)], [.ref _, .int _, .ref _], _)) rfl (u_ rfl) ?_
  refine w_t (pc := 570) (e_s := (1, 1, 3, 0, 0, .null, [])) (y_s := (571, [some (.ref _), some (.ref _), some (.ref _), some (.int _)], [.int _, .ref _, .int _, .ref _], _)) rfl (u_ rfl) ?_
  refine w_t (pc := 571) (e_s := (0, 1, 0, 0, 0, .int 2, [])) (y_s := (572, [some (.ref _), some (.ref _), some (.ref _), some (.int _)], [.int _, .int _, .ref _, .int _, .ref _], _)) rfl (u_ rfl) ?_
  refine w_t (pc := 572) (e_s := (7, 1, 0, 0, 0, .null, [])) (y_s := (573, [some (.ref _), some (.ref _), some (.ref _), some (.int _)], [.int (_ + _), .ref _, .int _, .ref _], _)) rfl (u_ rfl) ?_
  refine w22x (pc := 573) (len_s := 1) rfl ?_
  refine w_t (pc := 574) (e_s := (3, 1, 0, 0, 0, .null, [])) (y_s := (575, [some (.ref _), some (.ref _), some (.ref _), some (.int _)], [.ref _, .int _, .int _, .ref _], _)) rfl (u_ rfl) ?_
  refine w_t (pc := 575) (e_s := (1, 1, 3, 0, 0, .null, [])) (y_s := (576, [some (.ref _), some (.ref _), some (.ref _), some (.int _)], [.int _, .ref _, .int _, .int _, .ref _], _)) rfl (u_ rfl) ?_
  refine w_t (pc := 576) (e_s := (0, 1, 0, 0, 0, .int 3, [])) (y_s := (577, [some (.ref _), some (.ref _), some (.ref _), some (.int _)], [.int _, .int _, .ref _, .int _, .int _, .ref _], _)) rfl (u_ rfl) ?_
  refine w_t (pc := 577) (e_s := (7, 1, 0, 0, 0, .null, [])) (y_s := (578, [some (.ref _), some (.ref _), some (.ref _), some (.int _)], [.int (_ + _), .ref _, .int _, .int _, .ref _], _)) rfl (u_ rfl) ?_
  refine w22x (pc := 578) (len_s := 1) rfl ?_
  refine wcI (pc := 579) (len_s := 3) rfl rfl (l := [some (.ref _), some (.int _), some (.int _), some (.int _)]) rfl (wmI t_s (fun v1_s h1 hk t_s => ?_))
  replace t_s := t_s hk
  refine w_t (pc := 582) (e_s := (42, 1, 0, 0, 0, .null, [])) (y_s := (583, [some (.ref _), some (.ref _), some (.ref _), some (.int _)], [], _)) rfl (u_ rfl) ?_
  refine w_t (pc := 583) (e_s := (3, 1, 2, 0, 0, .null, [])) (y_s := (584, [some (.ref _), some (.ref _), some (.ref _), some (.int _)], [.ref _], _)) rfl (u_ rfl) ?_
  refine w_t (pc := 584) (e_s := (3, 1, 0, 0, 0, .null, [])) (y_s := (585, [some (.ref _), some (.ref _), some (.ref _), some (.int _)], [.ref _, .ref _], _)) rfl (u_ rfl) ?_
  refine w_t (pc := 585) (e_s := (1, 1, 3, 0, 0, .null, [])) (y_s := (586, [some (.ref _), some (.ref _), some (.ref _), some (.int _)], [.int _, .ref _, .ref _], _)) rfl (u_ rfl) ?_
  refine w_t (pc := 586) (e_s := (0, 1, 0, 0, 0, .int 1, [])) (y_s := (587, [some (.ref _), some (.ref _), some (.ref _), some (.int _)], [.int _, .int _, .ref _, .ref _], _)) rfl (u_ rfl) ?_
  refine w_t (pc := 587) (e_s := (7, 1, 0, 0, 0, .null, [])) (y_s := (588, [some (.ref _), some (.ref _), some (.ref _), some (.int _)], [.int (_ + _), .ref _, .ref _], _)) rfl (u_ rfl) ?_
  refine w22x (pc := 588) (len_s := 1) rfl ?_
  refine w_t (pc := 589) (e_s := (3, 1, 0, 0, 0, .null, [])) (y_s := (590, [some (.ref _), some (.ref _), some (.ref _), some (.int _)], [.ref _, .int _, .ref _], _)) rfl (u_ rfl) ?_
  refine w_t (pc := 590) (e_s := (1, 1, 3, 0, 0, .null, [])) (y_s := (591, [some (.ref _), some (.ref _), some (.ref _), some (.int _)], [.int _, .ref _, .int _, .ref _], _)) rfl (u_ rfl) ?_
  refine w_t (pc := 591) (e_s := (0, 1, 0, 0, 0, .int 2, [])) (y_s := (592, [some (.ref _), some (.ref _), some (.ref _), some (.int _)], [.int _, .int _, .ref _, .int _, .ref _], _)) rfl (u_ rfl) ?_
  refine w_t (pc := 592) (e_s := (7, 1, 0, 0, 0, .null, [])) (y_s := (593, [some (.ref _), some (.ref _), some (.ref _), some (.int _)], [.int (_ + _), .ref _, .int _, .ref _], _)) rfl (u_ rfl) ?_
  refine w22x (pc := 593) (len_s := 1) rfl ?_
  refine w_t (pc := 594) (e_s := (3, 1, 0, 0, 0, .null, [])) (y_s := (595, [some (.ref _), some (.ref _), some (.ref _), some (.int _)], [.ref _, .int _, .int _, .ref _], _)) rfl (u_ rfl) ?_
  refine w_t (pc := 595) (e_s := (1, 1, 3, 0, 0, .null, [])) (y_s := (596, [some (.ref _), some (.ref _), some (.ref _), some (.int _)], [.int _, .ref _, .int _, .int _, .ref _], _)) rfl (u_ rfl) ?_
  refine w_t (pc := 596) (e_s := (0, 1, 0, 0, 0, .int 3, [])) (y_s := (597, [some (.ref _), some (.ref _), some (.ref _), some (.int _)], [.int _, .int _, .ref _, .int _, .int _, .ref _], _)) rfl (u_ rfl) ?_
  refine w_t (pc := 597) (e_s := (7, 1, 0, 0, 0, .null, [])) (y_s := (598, [some (.ref _), some (.ref _), some (.ref _), some (.int _)], [.int (_ + _), .ref _, .int _, .int _, .ref _], _)) rfl (u_ rfl) ?_
  refine w22x (pc := 598) (len_s := 1) rfl ?_
  refine wcI (pc := 599) (len_s := 3) rfl rfl (l := [some (.ref _), some (.int _), some (.int _), some (.int _)]) rfl (wmI t_s (fun v2 h2 hk t_s => ?_))
  replace t_s := t_s hk
  refine w_t (pc := 602) (e_s := (42, 1, 0, 0, 0, .null, [])) (y_s := (603, [some (.ref _), some (.ref _), some (.ref _), some (.int _)], [], _)) rfl (u_ rfl) ?_
  refine w_t (pc := 603) (e_s := (17, 3, 1414, 0, 0, .null, [])) (y_s := (1414, [some (.ref _), some (.ref _), some (.ref _), some (.int _)], [], _)) rfl (u_ rfl) ?_
  refine w_t (pc := 1414) (e_s := (19, 3, 3, 0, 0, .int 6, [])) (y_s := (1417, [some (.ref _), some (.ref _), some (.ref _), some (.int _)], [], _)) rfl (u_ rfl) ?_
  refine w_t (pc := 1417) (e_s := (17, 3, 18, 0, 0, .null, [])) (y_s := (18, [some (.ref _), some (.ref _), some (.ref _), some (.int _)], [], _)) rfl (u_ rfl) ?_
  exact t_s
theorem sg_241_606 {F_s : Nat} {x3 : Int32} {h_s : zH} {K_s : Int32 → zH → Prop} (hk : hKn h_s) (t_s : wF F_s 106 (0, [some (.ref 6), some (.int (h_s.2.1 0 (zix (x3 + 1)))), some (.int (h_s.2.1 0 (zix (x3 + 2)))), none, none, none, none, none, none], [], h_s) (gI (fun v1_s h1 => hKn h1 → wF F_s 194 (0, [some (.ref 102), some (.int (h1.2.1 0 (zix (x3 + 1)))), some (.int (h1.2.1 0 (zix (x3 + 2)))), none, none, none], [], h1) (gI (fun v2 h2 => hKn h2 → wF F_s 241 (18, [some (.ref 0), some (.ref 6), some (.ref 102), some (.int (x3 + 6))], [], h2) (gI K_s)))))) : wF (F_s + 1) 241 (606, [some (.ref 0), some (.ref 6), some (.ref 102), some (.int x3)], [], h_s) (gI K_s) := by
  refine w_0 (pc := 606) (e_s := (3, 1, 1, 0, 0, .null, [])) (y_s := (607, [some (.ref _), some (.ref _), some (.ref _), some (.int _)], [.ref _], _)) rfl (u_ rfl) ?_
  refine w_t (pc := 607) (e_s := (3, 1, 0, 0, 0, .null, [])) (y_s := (608, [some (.ref _), some (.ref _), some (.ref _), some (.int _)], [.ref _, .ref _], _)) rfl (u_ rfl) ?_
  refine w_t (pc := 608) (e_s := (1, 1, 3, 0, 0, .null, [])) (y_s := (609, [some (.ref _), some (.ref _), some (.ref _), some (.int _)], [.int _, .ref _, .ref _], _)) rfl (u_ rfl) ?_
  refine w_t (pc := 609) (e_s := (0, 1, 0, 0, 0, .int 1, [])) (y_s := (610, [some (.ref _), some (.ref _), some (.ref _), some (.int _)], [.int _, .int _, .ref _, .ref _], _)) rfl (u_ rfl) ?_
  refine w_t (pc := 610) (e_s := (7, 1, 0, 0, 0, .null, [])) (y_s := (611, [some (.ref _), some (.ref _), some (.ref _), some (.int _)], [.int (_ + _), .ref _, .ref _], _)) rfl (u_ rfl) ?_
  refine w22x (pc := 611) (len_s := 1) rfl ?_
  refine w_t (pc := 612) (e_s := (3, 1, 0, 0, 0, .null, [])) (y_s := (613, [some (.ref _), some (.ref _), some (.ref _), some (.int _)], [.ref _, .int _, .ref _], _)) rfl (u_ rfl) ?_
  refine w_t (pc := 613) (e_s := (1, 1, 3, 0, 0, .null, [])) (y_s := (614, [some (.ref _), some (.ref _), some (.ref _), some (.int _)], [.int _, .ref _, .int _, .ref _], _)) rfl (u_ rfl) ?_
  refine w_t (pc := 614) (e_s := (0, 1, 0, 0, 0, .int 2, [])) (y_s := (615, [some (.ref _), some (.ref _), some (.ref _), some (.int _)], [.int _, .int _, .ref _, .int _, .ref _], _)) rfl (u_ rfl) ?_
  refine w_t (pc := 615) (e_s := (7, 1, 0, 0, 0, .null, [])) (y_s := (616, [some (.ref _), some (.ref _), some (.ref _), some (.int _)], [.int (_ + _), .ref _, .int _, .ref _], _)) rfl (u_ rfl) ?_
  refine w22x (pc := 616) (len_s := 1) rfl ?_
  refine wcI (pc := 617) (len_s := 3) rfl rfl (l := [some (.ref _), some (.int _), some (.int _), none, none, none, none, none, none]) rfl (wmI t_s (fun v1_s h1 hk t_s => ?_))
  replace t_s := t_s hk
  refine w_t (pc := 620) (e_s := (42, 1, 0, 0, 0, .null, [])) (y_s := (621, [some (.ref _), some (.ref _), some (.ref _), some (.int _)], [], _)) rfl (u_ rfl) ?_
  refine w_t (pc := 621) (e_s := (3, 1, 2, 0, 0, .null, [])) (y_s := (622, [some (.ref _), some (.ref _), some (.ref _), some (.int _)], [.ref _], _)) rfl (u_ rfl) ?_
  refine w_t (pc := 622) (e_s := (3, 1, 0, 0, 0, .null, [])) (y_s := (623, [some (.ref _), some (.ref _), some (.ref _), some (.int _)], [.ref _, .ref _], _)) rfl (u_ rfl) ?_
  refine w_t (pc := 623) (e_s := (1, 1, 3, 0, 0, .null, [])) (y_s := (624, [some (.ref _), some (.ref _), some (.ref _), some (.int _)], [.int _, .ref _, .ref _], _)) rfl (u_ rfl) ?_
  refine w_t (pc := 624) (e_s := (0, 1, 0, 0, 0, .int 1, [])) (y_s := (625, [some (.ref _), some (.ref _), some (.ref _), some (.int _)], [.int _, .int _, .ref _, .ref _], _)) rfl (u_ rfl) ?_
  refine w_t (pc := 625) (e_s := (7, 1, 0, 0, 0, .null, [])) (y_s := (626, [some (.ref _), some (.ref _), some (.ref _), some (.int _)], [.int (_ + _), .ref _, .ref _], _)) rfl (u_ rfl) ?_
  refine w22x (pc := 626) (len_s := 1) rfl ?_
  refine w_t (pc := 627) (e_s := (3, 1, 0, 0, 0, .null, [])) (y_s := (628, [some (.ref _), some (.ref _), some (.ref _), some (.int _)], [.ref _, .int _, .ref _], _)) rfl (u_ rfl) ?_
  refine w_t (pc := 628) (e_s := (1, 1, 3, 0, 0, .null, [])) (y_s := (629, [some (.ref _), some (.ref _), some (.ref _), some (.int _)], [.int _, .ref _, .int _, .ref _], _)) rfl (u_ rfl) ?_
  refine w_t (pc := 629) (e_s := (0, 1, 0, 0, 0, .int 2, [])) (y_s := (630, [some (.ref _), some (.ref _), some (.ref _), some (.int _)], [.int _, .int _, .ref _, .int _, .ref _], _)) rfl (u_ rfl) ?_
  refine w_t (pc := 630) (e_s := (7, 1, 0, 0, 0, .null, [])) (y_s := (631, [some (.ref _), some (.ref _), some (.ref _), some (.int _)], [.int (_ + _), .ref _, .int _, .ref _], _)) rfl (u_ rfl) ?_
  refine w22x (pc := 631) (len_s := 1) rfl ?_
  refine wcI (pc := 632) (len_s := 3) rfl rfl (l := [some (.ref _), some (.int _), some (.int _), none, none, none]) rfl (wmI t_s (fun v2 h2 hk t_s => ?_))
  replace t_s := t_s hk
  refine w_t (pc := 635) (e_s := (42, 1, 0, 0, 0, .null, [])) (y_s := (636, [some (.ref _), some (.ref _), some (.ref _), some (.int _)], [], _)) rfl (u_ rfl) ?_
  refine w_t (pc := 636) (e_s := (17, 3, 1414, 0, 0, .null, [])) (y_s := (1414, [some (.ref _), some (.ref _), some (.ref _), some (.int _)], [], _)) rfl (u_ rfl) ?_
  refine w_t (pc := 1414) (e_s := (19, 3, 3, 0, 0, .int 6, [])) (y_s := (1417, [some (.ref _), some (.ref _), some (.ref _), some (.int _)], [], _)) rfl (u_ rfl) ?_
  refine w_t (pc := 1417) (e_s := (17, 3, 18, 0, 0, .null, [])) (y_s := (18, [some (.ref _), some (.ref _), some (.ref _), some (.int _)], [], _)) rfl (u_ rfl) ?_
  exact t_s
theorem sg_241_639 {F_s : Nat} {x3 : Int32} {h_s : zH} {K_s : Int32 → zH → Prop} (hk : hKn h_s) (t_s : wF F_s 107 (0, [some (.ref 6), some (.int (h_s.2.1 0 (zix (x3 + 1))))], [], h_s) (gI (fun v1_s h1 => hKn h1 → wF F_s 199 (0, [some (.ref 102), some (.int (h1.2.1 0 (zix (x3 + 1))))], [], h1) (gI (fun v2 h2 => hKn h2 → wF F_s 241 (18, [some (.ref 0), some (.ref 6), some (.ref 102), some (.int (x3 + 6))], [], h2) (gI K_s)))))) : wF (F_s + 1) 241 (639, [some (.ref 0), some (.ref 6), some (.ref 102), some (.int x3)], [], h_s) (gI K_s) := by
  refine w_0 (pc := 639) (e_s := (3, 1, 1, 0, 0, .null, [])) (y_s := (640, [some (.ref _), some (.ref _), some (.ref _), some (.int _)], [.ref _], _)) rfl (u_ rfl) ?_
  refine w_t (pc := 640) (e_s := (3, 1, 0, 0, 0, .null, [])) (y_s := (641, [some (.ref _), some (.ref _), some (.ref _), some (.int _)], [.ref _, .ref _], _)) rfl (u_ rfl) ?_
  refine w_t (pc := 641) (e_s := (1, 1, 3, 0, 0, .null, [])) (y_s := (642, [some (.ref _), some (.ref _), some (.ref _), some (.int _)], [.int _, .ref _, .ref _], _)) rfl (u_ rfl) ?_
  refine w_t (pc := 642) (e_s := (0, 1, 0, 0, 0, .int 1, [])) (y_s := (643, [some (.ref _), some (.ref _), some (.ref _), some (.int _)], [.int _, .int _, .ref _, .ref _], _)) rfl (u_ rfl) ?_
  refine w_t (pc := 643) (e_s := (7, 1, 0, 0, 0, .null, [])) (y_s := (644, [some (.ref _), some (.ref _), some (.ref _), some (.int _)], [.int (_ + _), .ref _, .ref _], _)) rfl (u_ rfl) ?_
  refine w22x (pc := 644) (len_s := 1) rfl ?_
  refine wcI (pc := 645) (len_s := 3) rfl rfl (l := [some (.ref _), some (.int _)]) rfl (wmI t_s (fun v1_s h1 hk t_s => ?_))
  replace t_s := t_s hk
  refine w_t (pc := 648) (e_s := (42, 1, 0, 0, 0, .null, [])) (y_s := (649, [some (.ref _), some (.ref _), some (.ref _), some (.int _)], [], _)) rfl (u_ rfl) ?_
  refine w_t (pc := 649) (e_s := (3, 1, 2, 0, 0, .null, [])) (y_s := (650, [some (.ref _), some (.ref _), some (.ref _), some (.int _)], [.ref _], _)) rfl (u_ rfl) ?_
  refine w_t (pc := 650) (e_s := (3, 1, 0, 0, 0, .null, [])) (y_s := (651, [some (.ref _), some (.ref _), some (.ref _), some (.int _)], [.ref _, .ref _], _)) rfl (u_ rfl) ?_
  refine w_t (pc := 651) (e_s := (1, 1, 3, 0, 0, .null, [])) (y_s := (652, [some (.ref _), some (.ref _), some (.ref _), some (.int _)], [.int _, .ref _, .ref _], _)) rfl (u_ rfl) ?_
  refine w_t (pc := 652) (e_s := (0, 1, 0, 0, 0, .int 1, [])) (y_s := (653, [some (.ref _), some (.ref _), some (.ref _), some (.int _)], [.int _, .int _, .ref _, .ref _], _)) rfl (u_ rfl) ?_
  refine w_t (pc := 653) (e_s := (7, 1, 0, 0, 0, .null, [])) (y_s := (654, [some (.ref _), some (.ref _), some (.ref _), some (.int _)], [.int (_ + _), .ref _, .ref _], _)) rfl (u_ rfl) ?_
  refine w22x (pc := 654) (len_s := 1) rfl ?_
  refine wcI (pc := 655) (len_s := 3) rfl rfl (l := [some (.ref _), some (.int _)]) rfl (wmI t_s (fun v2 h2 hk t_s => ?_))
  replace t_s := t_s hk
  refine w_t (pc := 658) (e_s := (42, 1, 0, 0, 0, .null, [])) (y_s := (659, [some (.ref _), some (.ref _), some (.ref _), some (.int _)], [], _)) rfl (u_ rfl) ?_
  refine w_t (pc := 659) (e_s := (17, 3, 1414, 0, 0, .null, [])) (y_s := (1414, [some (.ref _), some (.ref _), some (.ref _), some (.int _)], [], _)) rfl (u_ rfl) ?_
  refine w_t (pc := 1414) (e_s := (19, 3, 3, 0, 0, .int 6, [])) (y_s := (1417, [some (.ref _), some (.ref _), some (.ref _), some (.int _)], [], _)) rfl (u_ rfl) ?_
  refine w_t (pc := 1417) (e_s := (17, 3, 18, 0, 0, .null, [])) (y_s := (18, [some (.ref _), some (.ref _), some (.ref _), some (.int _)], [], _)) rfl (u_ rfl) ?_
  exact t_s
theorem sg_241_662 {F_s : Nat} {x3 : Int32} {h_s : zH} {K_s : Int32 → zH → Prop} (hk : hKn h_s) (t_s : wF F_s 108 (0, [some (.ref 6)], [], h_s) (gI (fun v1_s h1 => hKn h1 → wF F_s 200 (0, [some (.ref 102), none, none, none, none, none], [], h1) (gI (fun v2 h2 => hKn h2 → wF F_s 241 (18, [some (.ref 0), some (.ref 6), some (.ref 102), some (.int (x3 + 6))], [], h2) (gI K_s)))))) : wF (F_s + 1) 241 (662, [some (.ref 0), some (.ref 6), some (.ref 102), some (.int x3)], [], h_s) (gI K_s) := by
  refine w_0 (pc := 662) (e_s := (3, 1, 1, 0, 0, .null, [])) (y_s := (663, [some (.ref _), some (.ref _), some (.ref _), some (.int _)], [.ref _], _)) rfl (u_ rfl) ?_
  refine wcI (pc := 663) (len_s := 3) rfl rfl (l := [some (.ref _)]) rfl (wmI t_s (fun v1_s h1 hk t_s => ?_))
  replace t_s := t_s hk
  refine w_t (pc := 666) (e_s := (42, 1, 0, 0, 0, .null, [])) (y_s := (667, [some (.ref _), some (.ref _), some (.ref _), some (.int _)], [], _)) rfl (u_ rfl) ?_
  refine w_t (pc := 667) (e_s := (3, 1, 2, 0, 0, .null, [])) (y_s := (668, [some (.ref _), some (.ref _), some (.ref _), some (.int _)], [.ref _], _)) rfl (u_ rfl) ?_
  refine wcI (pc := 668) (len_s := 3) rfl rfl (l := [some (.ref _), none, none, none, none, none]) rfl (wmI t_s (fun v2 h2 hk t_s => ?_))
  replace t_s := t_s hk
  refine w_t (pc := 671) (e_s := (42, 1, 0, 0, 0, .null, [])) (y_s := (672, [some (.ref _), some (.ref _), some (.ref _), some (.int _)], [], _)) rfl (u_ rfl) ?_
  refine w_t (pc := 672) (e_s := (17, 3, 1414, 0, 0, .null, [])) (y_s := (1414, [some (.ref _), some (.ref _), some (.ref _), some (.int _)], [], _)) rfl (u_ rfl) ?_
  refine w_t (pc := 1414) (e_s := (19, 3, 3, 0, 0, .int 6, [])) (y_s := (1417, [some (.ref _), some (.ref _), some (.ref _), some (.int _)], [], _)) rfl (u_ rfl) ?_
  refine w_t (pc := 1417) (e_s := (17, 3, 18, 0, 0, .null, [])) (y_s := (18, [some (.ref _), some (.ref _), some (.ref _), some (.int _)], [], _)) rfl (u_ rfl) ?_
  exact t_s
theorem sg_241_675 {F_s : Nat} {x3 : Int32} {h_s : zH} {K_s : Int32 → zH → Prop} (hk : hKn h_s) (t_s : wF F_s 109 (0, [some (.ref 6), some (.int (h_s.2.1 0 (zix (x3 + 1)))), none], [], h_s) (gI (fun v1_s h1 => hKn h1 → wF F_s 202 (0, [some (.ref 102), some (.int (h1.2.1 0 (zix (x3 + 1)))), none, none, none, none, none], [], h1) (gI (fun v2 h2 => hKn h2 → wF F_s 241 (18, [some (.ref 0), some (.ref 6), some (.ref 102), some (.int (x3 + 6))], [], h2) (gI K_s)))))) : wF (F_s + 1) 241 (675, [some (.ref 0), some (.ref 6), some (.ref 102), some (.int x3)], [], h_s) (gI K_s) := by
  refine w_0 (pc := 675) (e_s := (3, 1, 1, 0, 0, .null, [])) (y_s := (676, [some (.ref _), some (.ref _), some (.ref _), some (.int _)], [.ref _], _)) rfl (u_ rfl) ?_
  refine w_t (pc := 676) (e_s := (3, 1, 0, 0, 0, .null, [])) (y_s := (677, [some (.ref _), some (.ref _), some (.ref _), some (.int _)], [.ref _, .ref _], _)) rfl (u_ rfl) ?_
  refine w_t (pc := 677) (e_s := (1, 1, 3, 0, 0, .null, [])) (y_s := (678, [some (.ref _), some (.ref _), some (.ref _), some (.int _)], [.int _, .ref _, .ref _], _)) rfl (u_ rfl) ?_
  refine w_t (pc := 678) (e_s := (0, 1, 0, 0, 0, .int 1, [])) (y_s := (679, [some (.ref _), some (.ref _), some (.ref _), some (.int _)], [.int _, .int _, .ref _, .ref _], _)) rfl (u_ rfl) ?_
  refine w_t (pc := 679) (e_s := (7, 1, 0, 0, 0, .null, [])) (y_s := (680, [some (.ref _), some (.ref _), some (.ref _), some (.int _)], [.int (_ + _), .ref _, .ref _], _)) rfl (u_ rfl) ?_
  refine w22x (pc := 680) (len_s := 1) rfl ?_
  refine wcI (pc := 681) (len_s := 3) rfl rfl (l := [some (.ref _), some (.int _), none]) rfl (wmI t_s (fun v1_s h1 hk t_s => ?_))
  replace t_s := t_s hk
  refine w_t (pc := 684) (e_s := (42, 1, 0, 0, 0, .null, [])) (y_s := (685, [some (.ref _), some (.ref _), some (.ref _), some (.int _)], [], _)) rfl (u_ rfl) ?_
  refine w_t (pc := 685) (e_s := (3, 1, 2, 0, 0, .null, [])) (y_s := (686, [some (.ref _), some (.ref _), some (.ref _), some (.int _)], [.ref _], _)) rfl (u_ rfl) ?_
  refine w_t (pc := 686) (e_s := (3, 1, 0, 0, 0, .null, [])) (y_s := (687, [some (.ref _), some (.ref _), some (.ref _), some (.int _)], [.ref _, .ref _], _)) rfl (u_ rfl) ?_
  refine w_t (pc := 687) (e_s := (1, 1, 3, 0, 0, .null, [])) (y_s := (688, [some (.ref _), some (.ref _), some (.ref _), some (.int _)], [.int _, .ref _, .ref _], _)) rfl (u_ rfl) ?_
  refine w_t (pc := 688) (e_s := (0, 1, 0, 0, 0, .int 1, [])) (y_s := (689, [some (.ref _), some (.ref _), some (.ref _), some (.int _)], [.int _, .int _, .ref _, .ref _], _)) rfl (u_ rfl) ?_
  refine w_t (pc := 689) (e_s := (7, 1, 0, 0, 0, .null, [])) (y_s := (690, [some (.ref _), some (.ref _), some (.ref _), some (.int _)], [.int (_ + _), .ref _, .ref _], _)) rfl (u_ rfl) ?_
  refine w22x (pc := 690) (len_s := 1) rfl ?_
  refine wcI (pc := 691) (len_s := 3) rfl rfl (l := [some (.ref _), some (.int _), none, none, none, none, none]) rfl (wmI t_s (fun v2 h2 hk t_s => ?_))
  replace t_s := t_s hk
  refine w_t (pc := 694) (e_s := (42, 1, 0, 0, 0, .null, [])) (y_s := (695, [some (.ref _), some (.ref _), some (.ref _), some (.int _)], [], _)) rfl (u_ rfl) ?_
  refine w_t (pc := 695) (e_s := (17, 3, 1414, 0, 0, .null, [])) (y_s := (1414, [some (.ref _), some (.ref _), some (.ref _), some (.int _)], [], _)) rfl (u_ rfl) ?_
  refine w_t (pc := 1414) (e_s := (19, 3, 3, 0, 0, .int 6, [])) (y_s := (1417, [some (.ref _), some (.ref _), some (.ref _), some (.int _)], [], _)) rfl (u_ rfl) ?_
  refine w_t (pc := 1417) (e_s := (17, 3, 18, 0, 0, .null, [])) (y_s := (18, [some (.ref _), some (.ref _), some (.ref _), some (.int _)], [], _)) rfl (u_ rfl) ?_
  exact t_s
theorem sg_241_698 {F_s : Nat} {x3 : Int32} {h_s : zH} {K_s : Int32 → zH → Prop} (hk : hKn h_s) (t_s : wF F_s 110 (0, [some (.ref 6), some (.int (h_s.2.1 0 (zix (x3 + 1)))), some (.int (h_s.2.1 0 (zix (x3 + 2)))), none], [], h_s) (gI (fun v1_s h1 => hKn h1 → wF F_s 205 (0, [some (.ref 102), some (.int (h1.2.1 0 (zix (x3 + 1)))), some (.int (h1.2.1 0 (zix (x3 + 2))))], [], h1) (gI (fun v2 h2 => hKn h2 → wF F_s 241 (18, [some (.ref 0), some (.ref 6), some (.ref 102), some (.int (x3 + 6))], [], h2) (gI K_s)))))) : wF (F_s + 1) 241 (698, [some (.ref 0), some (.ref 6), some (.ref 102), some (.int x3)], [], h_s) (gI K_s) := by
  refine w_0 (pc := 698) (e_s := (3, 1, 1, 0, 0, .null, [])) (y_s := (699, [some (.ref _), some (.ref _), some (.ref _), some (.int _)], [.ref _], _)) rfl (u_ rfl) ?_
  refine w_t (pc := 699) (e_s := (3, 1, 0, 0, 0, .null, [])) (y_s := (700, [some (.ref _), some (.ref _), some (.ref _), some (.int _)], [.ref _, .ref _], _)) rfl (u_ rfl) ?_
  refine w_t (pc := 700) (e_s := (1, 1, 3, 0, 0, .null, [])) (y_s := (701, [some (.ref _), some (.ref _), some (.ref _), some (.int _)], [.int _, .ref _, .ref _], _)) rfl (u_ rfl) ?_
  refine w_t (pc := 701) (e_s := (0, 1, 0, 0, 0, .int 1, [])) (y_s := (702, [some (.ref _), some (.ref _), some (.ref _), some (.int _)], [.int _, .int _, .ref _, .ref _], _)) rfl (u_ rfl) ?_
  refine w_t (pc := 702) (e_s := (7, 1, 0, 0, 0, .null, [])) (y_s := (703, [some (.ref _), some (.ref _), some (.ref _), some (.int _)], [.int (_ + _), .ref _, .ref _], _)) rfl (u_ rfl) ?_
  refine w22x (pc := 703) (len_s := 1) rfl ?_
  refine w_t (pc := 704) (e_s := (3, 1, 0, 0, 0, .null, [])) (y_s := (705, [some (.ref _), some (.ref _), some (.ref _), some (.int _)], [.ref _, .int _, .ref _], _)) rfl (u_ rfl) ?_
  refine w_t (pc := 705) (e_s := (1, 1, 3, 0, 0, .null, [])) (y_s := (706, [some (.ref _), some (.ref _), some (.ref _), some (.int _)], [.int _, .ref _, .int _, .ref _], _)) rfl (u_ rfl) ?_
  refine w_t (pc := 706) (e_s := (0, 1, 0, 0, 0, .int 2, [])) (y_s := (707, [some (.ref _), some (.ref _), some (.ref _), some (.int _)], [.int _, .int _, .ref _, .int _, .ref _], _)) rfl (u_ rfl) ?_
  refine w_t (pc := 707) (e_s := (7, 1, 0, 0, 0, .null, [])) (y_s := (708, [some (.ref _), some (.ref _), some (.ref _), some (.int _)], [.int (_ + _), .ref _, .int _, .ref _], _)) rfl (u_ rfl) ?_
  refine w22x (pc := 708) (len_s := 1) rfl ?_
  refine wcI (pc := 709) (len_s := 3) rfl rfl (l := [some (.ref _), some (.int _), some (.int _), none]) rfl (wmI t_s (fun v1_s h1 hk t_s => ?_))
  replace t_s := t_s hk
  refine w_t (pc := 712) (e_s := (42, 1, 0, 0, 0, .null, [])) (y_s := (713, [some (.ref _), some (.ref _), some (.ref _), some (.int _)], [], _)) rfl (u_ rfl) ?_
  refine w_t (pc := 713) (e_s := (3, 1, 2, 0, 0, .null, [])) (y_s := (714, [some (.ref _), some (.ref _), some (.ref _), some (.int _)], [.ref _], _)) rfl (u_ rfl) ?_
  refine w_t (pc := 714) (e_s := (3, 1, 0, 0, 0, .null, [])) (y_s := (715, [some (.ref _), some (.ref _), some (.ref _), some (.int _)], [.ref _, .ref _], _)) rfl (u_ rfl) ?_
  refine w_t (pc := 715) (e_s := (1, 1, 3, 0, 0, .null, [])) (y_s := (716, [some (.ref _), some (.ref _), some (.ref _), some (.int _)], [.int _, .ref _, .ref _], _)) rfl (u_ rfl) ?_
  refine w_t (pc := 716) (e_s := (0, 1, 0, 0, 0, .int 1, [])) (y_s := (717, [some (.ref _), some (.ref _), some (.ref _), some (.int _)], [.int _, .int _, .ref _, .ref _], _)) rfl (u_ rfl) ?_
  refine w_t (pc := 717) (e_s := (7, 1, 0, 0, 0, .null, [])) (y_s := (718, [some (.ref _), some (.ref _), some (.ref _), some (.int _)], [.int (_ + _), .ref _, .ref _], _)) rfl (u_ rfl) ?_
  refine w22x (pc := 718) (len_s := 1) rfl ?_
  refine w_t (pc := 719) (e_s := (3, 1, 0, 0, 0, .null, [])) (y_s := (720, [some (.ref _), some (.ref _), some (.ref _), some (.int _)], [.ref _, .int _, .ref _], _)) rfl (u_ rfl) ?_
  refine w_t (pc := 720) (e_s := (1, 1, 3, 0, 0, .null, [])) (y_s := (721, [some (.ref _), some (.ref _), some (.ref _), some (.int _)], [.int _, .ref _, .int _, .ref _], _)) rfl (u_ rfl) ?_
  refine w_t (pc := 721) (e_s := (0, 1, 0, 0, 0, .int 2, [])) (y_s := (722, [some (.ref _), some (.ref _), some (.ref _), some (.int _)], [.int _, .int _, .ref _, .int _, .ref _], _)) rfl (u_ rfl) ?_
  refine w_t (pc := 722) (e_s := (7, 1, 0, 0, 0, .null, [])) (y_s := (723, [some (.ref _), some (.ref _), some (.ref _), some (.int _)], [.int (_ + _), .ref _, .int _, .ref _], _)) rfl (u_ rfl) ?_
  refine w22x (pc := 723) (len_s := 1) rfl ?_
  refine wcI (pc := 724) (len_s := 3) rfl rfl (l := [some (.ref _), some (.int _), some (.int _)]) rfl (wmI t_s (fun v2 h2 hk t_s => ?_))
  replace t_s := t_s hk
  refine w_t (pc := 727) (e_s := (42, 1, 0, 0, 0, .null, [])) (y_s := (728, [some (.ref _), some (.ref _), some (.ref _), some (.int _)], [], _)) rfl (u_ rfl) ?_
  refine w_t (pc := 728) (e_s := (17, 3, 1414, 0, 0, .null, [])) (y_s := (1414, [some (.ref _), some (.ref _), some (.ref _), some (.int _)], [], _)) rfl (u_ rfl) ?_
  refine w_t (pc := 1414) (e_s := (19, 3, 3, 0, 0, .int 6, [])) (y_s := (1417, [some (.ref _), some (.ref _), some (.ref _), some (.int _)], [], _)) rfl (u_ rfl) ?_
  refine w_t (pc := 1417) (e_s := (17, 3, 18, 0, 0, .null, [])) (y_s := (18, [some (.ref _), some (.ref _), some (.ref _), some (.int _)], [], _)) rfl (u_ rfl) ?_
  exact t_s
theorem sg_241_731 {F_s : Nat} {x3 : Int32} {h_s : zH} {K_s : Int32 → zH → Prop} (hk : hKn h_s) (t_s : wF F_s 111 (0, [some (.ref 6), some (.int (h_s.2.1 0 (zix (x3 + 1)))), some (.int (h_s.2.1 0 (zix (x3 + 2)))), some (.int (h_s.2.1 0 (zix (x3 + 3)))), none, none, none, none, none], [], h_s) (gI (fun v1_s h1 => hKn h1 → wF F_s 206 (0, [some (.ref 102), some (.int (h1.2.1 0 (zix (x3 + 1)))), some (.int (h1.2.1 0 (zix (x3 + 2)))), some (.int (h1.2.1 0 (zix (x3 + 3)))), none, none, none, none], [], h1) (gI (fun v2 h2 => hKn h2 → wF F_s 241 (18, [some (.ref 0), some (.ref 6), some (.ref 102), some (.int (x3 + 6))], [], h2) (gI K_s)))))) : wF (F_s + 1) 241 (731, [some (.ref 0), some (.ref 6), some (.ref 102), some (.int x3)], [], h_s) (gI K_s) := by
  refine w_0 (pc := 731) (e_s := (3, 1, 1, 0, 0, .null, [])) (y_s := (732, [some (.ref _), some (.ref _), some (.ref _), some (.int _)], [.ref _], _)) rfl (u_ rfl) ?_
  refine w_t (pc := 732) (e_s := (3, 1, 0, 0, 0, .null, [])) (y_s := (733, [some (.ref _), some (.ref _), some (.ref _), some (.int _)], [.ref _, .ref _], _)) rfl (u_ rfl) ?_
  refine w_t (pc := 733) (e_s := (1, 1, 3, 0, 0, .null, [])) (y_s := (734, [some (.ref _), some (.ref _), some (.ref _), some (.int _)], [.int _, .ref _, .ref _], _)) rfl (u_ rfl) ?_
  refine w_t (pc := 734) (e_s := (0, 1, 0, 0, 0, .int 1, [])) (y_s := (735, [some (.ref _), some (.ref _), some (.ref _), some (.int _)], [.int _, .int _, .ref _, .ref _], _)) rfl (u_ rfl) ?_
  refine w_t (pc := 735) (e_s := (7, 1, 0, 0, 0, .null, [])) (y_s := (736, [some (.ref _), some (.ref _), some (.ref _), some (.int _)], [.int (_ + _), .ref _, .ref _], _)) rfl (u_ rfl) ?_
  refine w22x (pc := 736) (len_s := 1) rfl ?_
  refine w_t (pc := 737) (e_s := (3, 1, 0, 0, 0, .null, [])) (y_s := (738, [some (.ref _), some (.ref _), some (.ref _), some (.int _)], [.ref _, .int _, .ref _], _)) rfl (u_ rfl) ?_
  refine w_t (pc := 738) (e_s := (1, 1, 3, 0, 0, .null, [])) (y_s := (739, [some (.ref _), some (.ref _), some (.ref _), some (.int _)], [.int _, .ref _, .int _, .ref _], _)) rfl (u_ rfl) ?_
  refine w_t (pc := 739) (e_s := (0, 1, 0, 0, 0, .int 2, [])) (y_s := (740, [some (.ref _), some (.ref _), some (.ref _), some (.int _)], [.int _, .int _, .ref _, .int _, .ref _], _)) rfl (u_ rfl) ?_
  refine w_t (pc := 740) (e_s := (7, 1, 0, 0, 0, .null, [])) (y_s := (741, [some (.ref _), some (.ref _), some (.ref _), some (.int _)], [.int (_ + _), .ref _, .int _, .ref _], _)) rfl (u_ rfl) ?_
  refine w22x (pc := 741) (len_s := 1) rfl ?_
  refine w_t (pc := 742) (e_s := (3, 1, 0, 0, 0, .null, [])) (y_s := (743, [some (.ref _), some (.ref _), some (.ref _), some (.int _)], [.ref _, .int _, .int _, .ref _], _)) rfl (u_ rfl) ?_
  refine w_t (pc := 743) (e_s := (1, 1, 3, 0, 0, .null, [])) (y_s := (744, [some (.ref _), some (.ref _), some (.ref _), some (.int _)], [.int _, .ref _, .int _, .int _, .ref _], _)) rfl (u_ rfl) ?_
  refine w_t (pc := 744) (e_s := (0, 1, 0, 0, 0, .int 3, [])) (y_s := (745, [some (.ref _), some (.ref _), some (.ref _), some (.int _)], [.int _, .int _, .ref _, .int _, .int _, .ref _], _)) rfl (u_ rfl) ?_
  refine w_t (pc := 745) (e_s := (7, 1, 0, 0, 0, .null, [])) (y_s := (746, [some (.ref _), some (.ref _), some (.ref _), some (.int _)], [.int (_ + _), .ref _, .int _, .int _, .ref _], _)) rfl (u_ rfl) ?_
  refine w22x (pc := 746) (len_s := 1) rfl ?_
  refine wcI (pc := 747) (len_s := 3) rfl rfl (l := [some (.ref _), some (.int _), some (.int _), some (.int _), none, none, none, none, none]) rfl (wmI t_s (fun v1_s h1 hk t_s => ?_))
  replace t_s := t_s hk
  refine w_t (pc := 750) (e_s := (42, 1, 0, 0, 0, .null, [])) (y_s := (751, [some (.ref _), some (.ref _), some (.ref _), some (.int _)], [], _)) rfl (u_ rfl) ?_
  refine w_t (pc := 751) (e_s := (3, 1, 2, 0, 0, .null, [])) (y_s := (752, [some (.ref _), some (.ref _), some (.ref _), some (.int _)], [.ref _], _)) rfl (u_ rfl) ?_
  refine w_t (pc := 752) (e_s := (3, 1, 0, 0, 0, .null, [])) (y_s := (753, [some (.ref _), some (.ref _), some (.ref _), some (.int _)], [.ref _, .ref _], _)) rfl (u_ rfl) ?_
  refine w_t (pc := 753) (e_s := (1, 1, 3, 0, 0, .null, [])) (y_s := (754, [some (.ref _), some (.ref _), some (.ref _), some (.int _)], [.int _, .ref _, .ref _], _)) rfl (u_ rfl) ?_
  refine w_t (pc := 754) (e_s := (0, 1, 0, 0, 0, .int 1, [])) (y_s := (755, [some (.ref _), some (.ref _), some (.ref _), some (.int _)], [.int _, .int _, .ref _, .ref _], _)) rfl (u_ rfl) ?_
  refine w_t (pc := 755) (e_s := (7, 1, 0, 0, 0, .null, [])) (y_s := (756, [some (.ref _), some (.ref _), some (.ref _), some (.int _)], [.int (_ + _), .ref _, .ref _], _)) rfl (u_ rfl) ?_
  refine w22x (pc := 756) (len_s := 1) rfl ?_
  refine w_t (pc := 757) (e_s := (3, 1, 0, 0, 0, .null, [])) (y_s := (758, [some (.ref _), some (.ref _), some (.ref _), some (.int _)], [.ref _, .int _, .ref _], _)) rfl (u_ rfl) ?_
  refine w_t (pc := 758) (e_s := (1, 1, 3, 0, 0, .null, [])) (y_s := (759, [some (.ref _), some (.ref _), some (.ref _), some (.int _)], [.int _, .ref _, .int _, .ref _], _)) rfl (u_ rfl) ?_
  refine w_t (pc := 759) (e_s := (0, 1, 0, 0, 0, .int 2, [])) (y_s := (760, [some (.ref _), some (.ref _), some (.ref _), some (.int _)], [.int _, .int _, .ref _, .int _, .ref _], _)) rfl (u_ rfl) ?_
  refine w_t (pc := 760) (e_s := (7, 1, 0, 0, 0, .null, [])) (y_s := (761, [some (.ref _), some (.ref _), some (.ref _), some (.int _)], [.int (_ + _), .ref _, .int _, .ref _], _)) rfl (u_ rfl) ?_
  refine w22x (pc := 761) (len_s := 1) rfl ?_
  refine w_t (pc := 762) (e_s := (3, 1, 0, 0, 0, .null, [])) (y_s := (763, [some (.ref _), some (.ref _), some (.ref _), some (.int _)], [.ref _, .int _, .int _, .ref _], _)) rfl (u_ rfl) ?_
  refine w_t (pc := 763) (e_s := (1, 1, 3, 0, 0, .null, [])) (y_s := (764, [some (.ref _), some (.ref _), some (.ref _), some (.int _)], [.int _, .ref _, .int _, .int _, .ref _], _)) rfl (u_ rfl) ?_
  refine w_t (pc := 764) (e_s := (0, 1, 0, 0, 0, .int 3, [])) (y_s := (765, [some (.ref _), some (.ref _), some (.ref _), some (.int _)], [.int _, .int _, .ref _, .int _, .int _, .ref _], _)) rfl (u_ rfl) ?_
  refine w_t (pc := 765) (e_s := (7, 1, 0, 0, 0, .null, [])) (y_s := (766, [some (.ref _), some (.ref _), some (.ref _), some (.int _)], [.int (_ + _), .ref _, .int _, .int _, .ref _], _)) rfl (u_ rfl) ?_
  refine w22x (pc := 766) (len_s := 1) rfl ?_
  refine wcI (pc := 767) (len_s := 3) rfl rfl (l := [some (.ref _), some (.int _), some (.int _), some (.int _), none, none, none, none]) rfl (wmI t_s (fun v2 h2 hk t_s => ?_))
  replace t_s := t_s hk
  refine w_t (pc := 770) (e_s := (42, 1, 0, 0, 0, .null, [])) (y_s := (771, [some (.ref _), some (.ref _), some (.ref _), some (.int _)], [], _)) rfl (u_ rfl) ?_
  refine w_t (pc := 771) (e_s := (17, 3, 1414, 0, 0, .null, [])) (y_s := (1414, [some (.ref _), some (.ref _), some (.ref _), some (.int _)], [], _)) rfl (u_ rfl) ?_
  refine w_t (pc := 1414) (e_s := (19, 3, 3, 0, 0, .int 6, [])) (y_s := (1417, [some (.ref _), some (.ref _), some (.ref _), some (.int _)], [], _)) rfl (u_ rfl) ?_
  refine w_t (pc := 1417) (e_s := (17, 3, 18, 0, 0, .null, [])) (y_s := (18, [some (.ref _), some (.ref _), some (.ref _), some (.int _)], [], _)) rfl (u_ rfl) ?_
  exact t_s
theorem sg_241_774 {F_s : Nat} {x3 : Int32} {h_s : zH} {K_s : Int32 → zH → Prop} (hk : hKn h_s) (t_s : wF F_s 112 (0, [some (.ref 6), some (.int (h_s.2.1 0 (zix (x3 + 1)))), some (.int (h_s.2.1 0 (zix (x3 + 2)))), some (.int (h_s.2.1 0 (zix (x3 + 3)))), none], [], h_s) (gI (fun v1_s h1 => hKn h1 → wF F_s 208 (0, [some (.ref 102), some (.int (h1.2.1 0 (zix (x3 + 1)))), some (.int (h1.2.1 0 (zix (x3 + 2)))), some (.int (h1.2.1 0 (zix (x3 + 3)))), none], [], h1) (gI (fun v2 h2 => hKn h2 → wF F_s 241 (18, [some (.ref 0), some (.ref 6), some (.ref 102), some (.int (x3 + 6))], [], h2) (gI K_s)))))) : wF (F_s + 1) 241 (774, [some (.ref 0), some (.ref 6), some (.ref 102), some (.int x3)], [], h_s) (gI K_s) := by
  refine w_0 (pc := 774) (e_s := (3, 1, 1, 0, 0, .null, [])) (y_s := (775, [some (.ref _), some (.ref _), some (.ref _), some (.int _)], [.ref _], _)) rfl (u_ rfl) ?_
  refine w_t (pc := 775) (e_s := (3, 1, 0, 0, 0, .null, [])) (y_s := (776, [some (.ref _), some (.ref _), some (.ref _), some (.int _)], [.ref _, .ref _], _)) rfl (u_ rfl) ?_
  refine w_t (pc := 776) (e_s := (1, 1, 3, 0, 0, .null, [])) (y_s := (777, [some (.ref _), some (.ref _), some (.ref _), some (.int _)], [.int _, .ref _, .ref _], _)) rfl (u_ rfl) ?_
  refine w_t (pc := 777) (e_s := (0, 1, 0, 0, 0, .int 1, [])) (y_s := (778, [some (.ref _), some (.ref _), some (.ref _), some (.int _)], [.int _, .int _, .ref _, .ref _], _)) rfl (u_ rfl) ?_
  refine w_t (pc := 778) (e_s := (7, 1, 0, 0, 0, .null, [])) (y_s := (779, [some (.ref _), some (.ref _), some (.ref _), some (.int _)], [.int (_ + _), .ref _, .ref _], _)) rfl (u_ rfl) ?_
  refine w22x (pc := 779) (len_s := 1) rfl ?_
  refine w_t (pc := 780) (e_s := (3, 1, 0, 0, 0, .null, [])) (y_s := (781, [some (.ref _), some (.ref _), some (.ref _), some (.int _)], [.ref _, .int _, .ref _], _)) rfl (u_ rfl) ?_
  refine w_t (pc := 781) (e_s := (1, 1, 3, 0, 0, .null, [])) (y_s := (782, [some (.ref _), some (.ref _), some (.ref _), some (.int _)], [.int _, .ref _, .int _, .ref _], _)) rfl (u_ rfl) ?_
  refine w_t (pc := 782) (e_s := (0, 1, 0, 0, 0, .int 2, [])) (y_s := (783, [some (.ref _), some (.ref _), some (.ref _), some (.int _)], [.int _, .int _, .ref _, .int _, .ref _], _)) rfl (u_ rfl) ?_
  refine w_t (pc := 783) (e_s := (7, 1, 0, 0, 0, .null, [])) (y_s := (784, [some (.ref _), some (.ref _), some (.ref _), some (.int _)], [.int (_ + _), .ref _, .int _, .ref _], _)) rfl (u_ rfl) ?_
  refine w22x (pc := 784) (len_s := 1) rfl ?_
  refine w_t (pc := 785) (e_s := (3, 1, 0, 0, 0, .null, [])) (y_s := (786, [some (.ref _), some (.ref _), some (.ref _), some (.int _)], [.ref _, .int _, .int _, .ref _], _)) rfl (u_ rfl) ?_
  refine w_t (pc := 786) (e_s := (1, 1, 3, 0, 0, .null, [])) (y_s := (787, [some (.ref _), some (.ref _), some (.ref _), some (.int _)], [.int _, .ref _, .int _, .int _, .ref _], _)) rfl (u_ rfl) ?_
  refine w_t (pc := 787) (e_s := (0, 1, 0, 0, 0, .int 3, [])) (y_s := (788, [some (.ref _), some (.ref _), some (.ref _), some (.int _)], [.int _, .int _, .ref _, .int _, .int _, .ref _], _)) rfl (u_ rfl) ?_
  refine w_t (pc := 788) (e_s := (7, 1, 0, 0, 0, .null, [])) (y_s := (789, [some (.ref _), some (.ref _), some (.ref _), some (.int _)], [.int (_ + _), .ref _, .int _, .int _, .ref _], _)) rfl (u_ rfl) ?_
  refine w22x (pc := 789) (len_s := 1) rfl ?_
  refine wcI (pc := 790) (len_s := 3) rfl rfl (l := [some (.ref _), some (.int _), some (.int _), some (.int _), none]) rfl (wmI t_s (fun v1_s h1 hk t_s => ?_))
  replace t_s := t_s hk
  refine w_t (pc := 793) (e_s := (42, 1, 0, 0, 0, .null, [])) (y_s := (794, [some (.ref _), some (.ref _), some (.ref _), some (.int _)], [], _)) rfl (u_ rfl) ?_
  refine w_t (pc := 794) (e_s := (3, 1, 2, 0, 0, .null, [])) (y_s := (795, [some (.ref _), some (.ref _), some (.ref _), some (.int _)], [.ref _], _)) rfl (u_ rfl) ?_
  refine w_t (pc := 795) (e_s := (3, 1, 0, 0, 0, .null, [])) (y_s := (796, [some (.ref _), some (.ref _), some (.ref _), some (.int _)], [.ref _, .ref _], _)) rfl (u_ rfl) ?_
  refine w_t (pc := 796) (e_s := (1, 1, 3, 0, 0, .null, [])) (y_s := (797, [some (.ref _), some (.ref _), some (.ref _), some (.int _)], [.int _, .ref _, .ref _], _)) rfl (u_ rfl) ?_
  refine w_t (pc := 797) (e_s := (0, 1, 0, 0, 0, .int 1, [])) (y_s := (798, [some (.ref _), some (.ref _), some (.ref _), some (.int _)], [.int _, .int _, .ref _, .ref _], _)) rfl (u_ rfl) ?_
  refine w_t (pc := 798) (e_s := (7, 1, 0, 0, 0, .null, [])) (y_s := (799, [some (.ref _), some (.ref _), some (.ref _), some (.int _)], [.int (_ + _), .ref _, .ref _], _)) rfl (u_ rfl) ?_
  refine w22x (pc := 799) (len_s := 1) rfl ?_
  refine w_t (pc := 800) (e_s := (3, 1, 0, 0, 0, .null, [])) (y_s := (801, [some (.ref _), some (.ref _), some (.ref _), some (.int _)], [.ref _, .int _, .ref _], _)) rfl (u_ rfl) ?_
  refine w_t (pc := 801) (e_s := (1, 1, 3, 0, 0, .null, [])) (y_s := (802, [some (.ref _), some (.ref _), some (.ref _), some (.int _)], [.int _, .ref _, .int _, .ref _], _)) rfl (u_ rfl) ?_
  refine w_t (pc := 802) (e_s := (0, 1, 0, 0, 0, .int 2, [])) (y_s := (803, [some (.ref _), some (.ref _), some (.ref _), some (.int _)], [.int _, .int _, .ref _, .int _, .ref _], _)) rfl (u_ rfl) ?_
  refine w_t (pc := 803) (e_s := (7, 1, 0, 0, 0, .null, [])) (y_s := (804, [some (.ref _), some (.ref _), some (.ref _), some (.int _)], [.int (_ + _), .ref _, .int _, .ref _], _)) rfl (u_ rfl) ?_
  refine w22x (pc := 804) (len_s := 1) rfl ?_
  refine w_t (pc := 805) (e_s := (3, 1, 0, 0, 0, .null, [])) (y_s := (806, [some (.ref _), some (.ref _), some (.ref _), some (.int _)], [.ref _, .int _, .int _, .ref _], _)) rfl (u_ rfl) ?_
  refine w_t (pc := 806) (e_s := (1, 1, 3, 0, 0, .null, [])) (y_s := (807, [some (.ref _), some (.ref _), some (.ref _), some (.int _)], [.int _, .ref _, .int _, .int _, .ref _], _)) rfl (u_ rfl) ?_
  refine w_t (pc := 807) (e_s := (0, 1, 0, 0, 0, .int 3, [])) (y_s := (808, [some (.ref _), some (.ref _), some (.ref _), some (.int _)], [.int _, .int _, .ref _, .int _, .int _, .ref _], _)) rfl (u_ rfl) ?_
  refine w_t (pc := 808) (e_s := (7, 1, 0, 0, 0, .null, [])) (y_s := (809, [some (.ref _), some (.ref _), some (.ref _), some (.int _)], [.int (_ + _), .ref _, .int _, .int _, .ref _], _)) rfl (u_ rfl) ?_
  refine w22x (pc := 809) (len_s := 1) rfl ?_
  refine wcI (pc := 810) (len_s := 3) rfl rfl (l := [some (.ref _), some (.int _), some (.int _), some (.int _), none]) rfl (wmI t_s (fun v2 h2 hk t_s => ?_))
  replace t_s := t_s hk
  refine w_t (pc := 813) (e_s := (42, 1, 0, 0, 0, .null, [])) (y_s := (814, [some (.ref _), some (.ref _), some (.ref _), some (.int _)], [], _)) rfl (u_ rfl) ?_
  refine w_t (pc := 814) (e_s := (17, 3, 1414, 0, 0, .null, [])) (y_s := (1414, [some (.ref _), some (.ref _), some (.ref _), some (.int _)], [], _)) rfl (u_ rfl) ?_
  refine w_t (pc := 1414) (e_s := (19, 3, 3, 0, 0, .int 6, [])) (y_s := (1417, [some (.ref _), some (.ref _), some (.ref _), some (.int _)], [], _)) rfl (u_ rfl) ?_
  refine w_t (pc := 1417) (e_s := (17, 3, 18, 0, 0, .null, [])) (y_s := (18, [some (.ref _), some (.ref _), some (.ref _), some (.int _)], [], _)) rfl (u_ rfl) ?_
  exact t_s
theorem sg_241_817 {F_s : Nat} {x3 : Int32} {h_s : zH} {K_s : Int32 → zH → Prop} (hk : hKn h_s) (t_s : wF F_s 116 (0, [some (.ref 6), some (.int (h_s.2.1 0 (zix (x3 + 1)))), some (.int (h_s.2.1 0 (zix (x3 + 2)))), some (.int (h_s.2.1 0 (zix (x3 + 3)))), some (.int (h_s.2.1 0 (zix (x3 + 4)))), none, none, none, none, none, none, none, none, none], [], h_s) (gI (fun v1_s h1 => hKn h1 → wF F_s 209 (0, [some (.ref 102), some (.int (h1.2.1 0 (zix (x3 + 1)))), some (.int (h1.2.1 0 (zix (x3 + 2)))), some (.int (h1.2.1 0 (zix (x3 + 3)))), some (.int (h1.2.1 0 (zix (x3 + 4)))), none, none, none, none, none, none], [], h1) (gI (fun v2 h2 => hKn h2 → wF F_s 241 (18, [some (.ref 0), some (.ref 6), some (.ref 102), some (.int (x3 + 6))], [], h2) (gI K_s)))))) : wF (F_s + 1) 241 (817, [some (.ref 0), some (.ref 6), some (.ref 102), some (.int x3)], [], h_s) (gI K_s) := by
  refine w_0 (pc := 817) (e_s := (3, 1, 1, 0, 0, .null, [])) (y_s := (818, [some (.ref _), some (.ref _), some (.ref _), some (.int _)], [.ref _], _)) rfl (u_ rfl) ?_
  refine w_t (pc := 818) (e_s := (3, 1, 0, 0, 0, .null, [])) (y_s := (819, [some (.ref _), some (.ref _), some (.ref _), some (.int _)], [.ref _, .ref _], _)) rfl (u_ rfl) ?_
  refine w_t (pc := 819) (e_s := (1, 1, 3, 0, 0, .null, [])) (y_s := (820, [some (.ref _), some (.ref _), some (.ref _), some (.int _)], [.int _, .ref _, .ref _], _)) rfl (u_ rfl) ?_
  refine w_t (pc := 820) (e_s := (0, 1, 0, 0, 0, .int 1, [])) (y_s := (821, [some (.ref _), some (.ref _), some (.ref _), some (.int _)], [.int _, .int _, .ref _, .ref _], _)) rfl (u_ rfl) ?_
  refine w_t (pc := 821) (e_s := (7, 1, 0, 0, 0, .null, [])) (y_s := (822, [some (.ref _), some (.ref _), some (.ref _), some (.int _)], [.int (_ + _), .ref _, .ref _], _)) rfl (u_ rfl) ?_
  refine w22x (pc := 822) (len_s := 1) rfl ?_
  refine w_t (pc := 823) (e_s := (3, 1, 0, 0, 0, .null, [])) (y_s := (824, [some (.ref _), some (.ref _), some (.ref _), some (.int _)], [.ref _, .int _, .ref _], _)) rfl (u_ rfl) ?_
  refine w_t (pc := 824) (e_s := (1, 1, 3, 0, 0, .null, [])) (y_s := (825, [some (.ref _), some (.ref _), some (.ref _), some (.int _)], [.int _, .ref _, .int _, .ref _], _)) rfl (u_ rfl) ?_
  refine w_t (pc := 825) (e_s := (0, 1, 0, 0, 0, .int 2, [])) (y_s := (826, [some (.ref _), some (.ref _), some (.ref _), some (.int _)], [.int _, .int _, .ref _, .int _, .ref _], _)) rfl (u_ rfl) ?_
  refine w_t (pc := 826) (e_s := (7, 1, 0, 0, 0, .null, [])) (y_s := (827, [some (.ref _), some (.ref _), some (.ref _), some (.int _)], [.int (_ + _), .ref _, .int _, .ref _], _)) rfl (u_ rfl) ?_
  refine w22x (pc := 827) (len_s := 1) rfl ?_
  refine w_t (pc := 828) (e_s := (3, 1, 0, 0, 0, .null, [])) (y_s := (829, [some (.ref _), some (.ref _), some (.ref _), some (.int _)], [.ref _, .int _, .int _, .ref _], _)) rfl (u_ rfl) ?_
  refine w_t (pc := 829) (e_s := (1, 1, 3, 0, 0, .null, [])) (y_s := (830, [some (.ref _), some (.ref _), some (.ref _), some (.int _)], [.int _, .ref _, .int _, .int _, .ref _], _)) rfl (u_ rfl) ?_
  refine w_t (pc := 830) (e_s := (0, 1, 0, 0, 0, .int 3, [])) (y_s := (831, [some (.ref _), some (.ref _), some (.ref _), some (.int _)], [.int _, .int _, .ref _, .int _, .int _, .ref _], _)) rfl (u_ rfl) ?_
  refine w_t (pc := 831) (e_s := (7, 1, 0, 0, 0, .null, [])) (y_s := (832, [some (.ref _), some (.ref _), some (.ref _), some (.int _)], [.int (_ + _), .ref _, .int _, .int _, .ref _], _)) rfl (u_ rfl) ?_
  refine w22x (pc := 832) (len_s := 1) rfl ?_
  refine w_t (pc := 833) (e_s := (3, 1, 0, 0, 0, .null, [])) (y_s := (834, [some (.ref _), some (.ref _), some (.ref _), some (.int _)], [.ref _, .int _, .int _, .int _, .ref _], _)) rfl (u_ rfl) ?_
  refine w_t (pc := 834) (e_s := (1, 1, 3, 0, 0, .null, [])) (y_s := (835, [some (.ref _), some (.ref _), some (.ref _), some (.int _)], [.int _, .ref _, .int _, .int _, .int _, .ref _], _)) rfl (u_ rfl) ?_
  refine w_t (pc := 835) (e_s := (0, 1, 0, 0, 0, .int 4, [])) (y_s := (836, [some (.ref _), some (.ref _), some (.ref _), some (.int _)], [.int _, .int _, .ref _, .int _, .int _, .int _, .ref _], _)) rfl (u_ rfl) ?_
  refine w_t (pc := 836) (e_s := (7, 1, 0, 0, 0, .null, [])) (y_s := (837, [some (.ref _), some (.ref _), some (.ref _), some (.int _)], [.int (_ + _), .ref _, .int _, .int _, .int _, .ref _], _)) rfl (u_ rfl) ?_
  refine w22x (pc := 837) (len_s := 1) rfl ?_
  refine wcI (pc := 838) (len_s := 3) rfl rfl (l := [some (.ref _), some (.int _), some (.int _), some (.int _), some (.int _), none, none, none, none, none, none, none, none, none]) rfl (wmI t_s (fun v1_s h1 hk t_s => ?_))
  replace t_s := t_s hk
  refine w_t (pc := 841) (e_s := (42, 1, 0, 0, 0, .null, [])) (y_s := (842, [some (.ref _), some (.ref _), some (.ref _), some (.int _)], [], _)) rfl (u_ rfl) ?_
  refine w_t (pc := 842) (e_s := (3, 1, 2, 0, 0, .null, [])) (y_s := (843, [some (.ref _), some (.ref _), some (.ref _), some (.int _)], [.ref _], _)) rfl (u_ rfl) ?_
  refine w_t (pc := 843) (e_s := (3, 1, 0, 0, 0, .null, [])) (y_s := (844, [some (.ref _), some (.ref _), some (.ref _), some (.int _)], [.ref _, .ref _], _)) rfl (u_ rfl) ?_
  refine w_t (pc := 844) (e_s := (1, 1, 3, 0, 0, .null, [])) (y_s := (845, [some (.ref _), some (.ref _), some (.ref _), some (.int _)], [.int _, .ref _, .ref _], _)) rfl (u_ rfl) ?_
  refine w_t (pc := 845) (e_s := (0, 1, 0, 0, 0, .int 1, [])) (y_s := (846, [some (.ref _), some (.ref _), some (.ref _), some (.int _)], [.int _, .int _, .ref _, .ref _], _)) rfl (u_ rfl) ?_
  refine w_t (pc := 846) (e_s := (7, 1, 0, 0, 0, .null, [])) (y_s := (847, [some (.ref _), some (.ref _), some (.ref _), some (.int _)], [.int (_ + _), .ref _, .ref _], _)) rfl (u_ rfl) ?_
  refine w22x (pc := 847) (len_s := 1) rfl ?_
  refine w_t (pc := 848) (e_s := (3, 1, 0, 0, 0, .null, [])) (y_s := (849, [some (.ref _), some (.ref _), some (.ref _), some (.int _)], [.ref _, .int _, .ref _], _)) rfl (u_ rfl) ?_
  refine w_t (pc := 849) (e_s := (1, 1, 3, 0, 0, .null, [])) (y_s := (850, [some (.ref _), some (.ref _), some (.ref _), some (.int _)], [.int _, .ref _, .int _, .ref _], _)) rfl (u_ rfl) ?_
  refine w_t (pc := 850) (e_s := (0, 1, 0, 0, 0, .int 2, [])) (y_s := (851, [some (.ref _), some (.ref _), some (.ref _), some (.int _)], [.int _, .int _, .ref _, .int _, .ref _], _)) rfl (u_ rfl) ?_
  refine w_t (pc := 851) (e_s := (7, 1, 0, 0, 0, .null, [])) (y_s := (852, [some (.ref _), some (.ref _), some (.ref _), some (.int _)], [.int (_ + _), .ref _, .int _, .ref _], _)) rfl (u_ rfl) ?_
  refine w22x (pc := 852) (len_s := 1) rfl ?_
  refine w_t (pc := 853) (e_s := (3, 1, 0, 0, 0, .null, [])) (y_s := (854, [some (.ref _), some (.ref _), some (.ref _), some (.int _)], [.ref _, .int _, .int _, .ref _], _)) rfl (u_ rfl) ?_
  refine w_t (pc := 854) (e_s := (1, 1, 3, 0, 0, .null, [])) (y_s := (855, [some (.ref _), some (.ref _), some (.ref _), some (.int _)], [.int _, .ref _, .int _, .int _, .ref _], _)) rfl (u_ rfl) ?_
  refine w_t (pc := 855) (e_s := (0, 1, 0, 0, 0, .int 3, [])) (y_s := (856, [some (.ref _), some (.ref _), some (.ref _), some (.int _)], [.int _, .int _, .ref _, .int _, .int _, .ref _], _)) rfl (u_ rfl) ?_
  refine w_t (pc := 856) (e_s := (7, 1, 0, 0, 0, .null, [])) (y_s := (857, [some (.ref _), some (.ref _), some (.ref _), some (.int _)], [.int (_ + _), .ref _, .int _, .int _, .ref _], _)) rfl (u_ rfl) ?_
  refine w22x (pc := 857) (len_s := 1) rfl ?_
  refine w_t (pc := 858) (e_s := (3, 1, 0, 0, 0, .null, [])) (y_s := (859, [some (.ref _), some (.ref _), some (.ref _), some (.int _)], [.ref _, .int _, .int _, .int _, .ref _], _)) rfl (u_ rfl) ?_
  refine w_t (pc := 859) (e_s := (1, 1, 3, 0, 0, .null, [])) (y_s := (860, [some (.ref _), some (.ref _), some (.ref _), some (.int _)], [.int _, .ref _, .int _, .int _, .int _, .ref _], _)) rfl (u_ rfl) ?_
  refine w_t (pc := 860) (e_s := (0, 1, 0, 0, 0, .int 4, [])) (y_s := (861, [some (.ref _), some (.ref _), some (.ref _), some (.int _)], [.int _, .int _, .ref _, .int _, .int _, .int _, .ref _], _)) rfl (u_ rfl) ?_
  refine w_t (pc := 861) (e_s := (7, 1, 0, 0, 0, .null, [])) (y_s := (862, [some (.ref _), some (.ref _), some (.ref _), some (.int _)], [.int (_ + _), .ref _, .int _, .int _, .int _, .ref _], _)) rfl (u_ rfl) ?_
  refine w22x (pc := 862) (len_s := 1) rfl ?_
  refine wcI (pc := 863) (len_s := 3) rfl rfl (l := [some (.ref _), some (.int _), some (.int _), some (.int _), some (.int _), none, none, none, none, none, none]) rfl (wmI t_s (fun v2 h2 hk t_s => ?_))
  replace t_s := t_s hk
  refine w_t (pc := 866) (e_s := (42, 1, 0, 0, 0, .null, [])) (y_s := (867, [some (.ref _), some (.ref _), some (.ref _), some (.int _)], [], _)) rfl (u_ rfl) ?_
  refine w_t (pc := 867) (e_s := (17, 3, 1414, 0, 0, .null, [])) (y_s := (1414, [some (.ref _), some (.ref _), some (.ref _), some (.int _)], [], _)) rfl (u_ rfl) ?_
  refine w_t (pc := 1414) (e_s := (19, 3, 3, 0, 0, .int 6, [])) (y_s := (1417, [some (.ref _), some (.ref _), some (.ref _), some (.int _)], [], _)) rfl (u_ rfl) ?_
  refine w_t (pc := 1417) (e_s := (17, 3, 18, 0, 0, .null, [])) (y_s := (18, [some (.ref _), some (.ref _), some (.ref _), some (.int _)], [], _)) rfl (u_ rfl) ?_
  exact t_s
theorem sg_241_870 {F_s : Nat} {x3 : Int32} {h_s : zH} {K_s : Int32 → zH → Prop} (hk : hKn h_s) (t_s : wF F_s 117 (0, [some (.ref 6), some (.int (h_s.2.1 0 (zix (x3 + 1)))), some (.int (h_s.2.1 0 (zix (x3 + 2)))), none], [], h_s) (gI (fun v1_s h1 => hKn h1 → wF F_s 211 (0, [some (.ref 102), some (.int (h1.2.1 0 (zix (x3 + 1)))), some (.int (h1.2.1 0 (zix (x3 + 2)))), none], [], h1) (gI (fun v2 h2 => hKn h2 → wF F_s 241 (18, [some (.ref 0), some (.ref 6), some (.ref 102), some (.int (x3 + 6))], [], h2) (gI K_s)))))) : wF (F_s + 1) 241 (870, [some (.ref 0), some (.ref 6), some (.ref 102), some (.int x3)], [], h_s) (gI K_s) := by
  refine w_0 (pc := 870) (e_s := (3, 1, 1, 0, 0, .null, [])) (y_s := (871, [some (.ref _), some (.ref _), some (.ref _), some (.int _)], [.ref _], _)) rfl (u_ rfl) ?_
  refine w_t (pc := 871) (e_s := (3, 1, 0, 0, 0, .null, [])) (y_s := (872, [some (.ref _), some (.ref _), some (.ref _), some (.int _)], [.ref _, .ref _], _)) rfl (u_ rfl) ?_
  refine w_t (pc := 872) (e_s := (1, 1, 3, 0, 0, .null, [])) (y_s := (873, [some (.ref _), some (.ref _), some (.ref _), some (.int _)], [.int _, .ref _, .ref _], _)) rfl (u_ rfl) ?_
  refine w_t (pc := 873) (e_s := (0, 1, 0, 0, 0, .int 1, [])) (y_s := (874, [some (.ref _), some (.ref _), some (.ref _), some (.int _)], [.int _, .int _, .ref _, .ref _], _)) rfl (u_ rfl) ?_
  refine w_t (pc := 874) (e_s := (7, 1, 0, 0, 0, .null, [])) (y_s := (875, [some (.ref _), some (.ref _), some (.ref _), some (.int _)], [.int (_ + _), .ref _, .ref _], _)) rfl (u_ rfl) ?_
  refine w22x (pc := 875) (len_s := 1) rfl ?_
  refine w_t (pc := 876) (e_s := (3, 1, 0, 0, 0, .null, [])) (y_s := (877, [some (.ref _), some (.ref _), some (.ref _), some (.int _)], [.ref _, .int _, .ref _], _)) rfl (u_ rfl) ?_
  refine w_t (pc := 877) (e_s := (1, 1, 3, 0, 0, .null, [])) (y_s := (878, [some (.ref _), some (.ref _), some (.ref _), some (.int _)], [.int _, .ref _, .int _, .ref _], _)) rfl (u_ rfl) ?_
  refine w_t (pc := 878) (e_s := (0, 1, 0, 0, 0, .int 2, [])) (y_s := (879, [some (.ref _), some (.ref _), some (.ref _), some (.int _)], [.int _, .int _, .ref _, .int _, .ref _], _)) rfl (u_ rfl) ?_
  refine w_t (pc := 879) (e_s := (7, 1, 0, 0, 0, .null, [])) (y_s := (880, [some (.ref _), some (.ref _), some (.ref _), some (.int _)], [.int (_ + _), .ref _, .int _, .ref _], _)) rfl (u_ rfl) ?_
  refine w22x (pc := 880) (len_s := 1) rfl ?_
  refine wcI (pc := 881) (len_s := 3) rfl rfl (l := [some (.ref _), some (.int _), some (.int _), none]) rfl (wmI t_s (fun v1_s h1 hk t_s => ?_))
  replace t_s := t_s hk
  refine w_t (pc := 884) (e_s := (42, 1, 0, 0, 0, .null, [])) (y_s := (885, [some (.ref _), some (.ref _), some (.ref _), some (.int _)], [], _)) rfl (u_ rfl) ?_
  refine w_t (pc := 885) (e_s := (3, 1, 2, 0, 0, .null, [])) (y_s := (886, [some (.ref _), some (.ref _), some (.ref _), some (.int _)], [.ref _], _)) rfl (u_ rfl) ?_
  refine w_t (pc := 886) (e_s := (3, 1, 0, 0, 0, .null, [])) (y_s := (887, [some (.ref _), some (.ref _), some (.ref _), some (.int _)], [.ref _, .ref _], _)) rfl (u_ rfl) ?_
  refine w_t (pc := 887) (e_s := (1, 1, 3, 0, 0, .null, [])) (y_s := (888, [some (.ref _), some (.ref _), some (.ref _), some (.int _)], [.int _, .ref _, .ref _], _)) rfl (u_ rfl) ?_
  refine w_t (pc := 888) (e_s := (0, 1, 0, 0, 0, .int 1, [])) (y_s := (889, [some (.ref _), some (.ref _), some (.ref _), some (.int _)], [.int _, .int _, .ref _, .ref _], _)) rfl (u_ rfl) ?_
  refine w_t (pc := 889) (e_s := (7, 1, 0, 0, 0, .null, [])) (y_s := (890, [some (.ref _), some (.ref _), some (.ref _), some (.int _)], [.int (_ + _), .ref _, .ref _], _)) rfl (u_ rfl) ?_
  refine w22x (pc := 890) (len_s := 1) rfl ?_
  refine w_t (pc := 891) (e_s := (3, 1, 0, 0, 0, .null, [])) (y_s := (892, [some (.ref _), some (.ref _), some (.ref _), some (.int _)], [.ref _, .int _, .ref _], _)) rfl (u_ rfl) ?_
  refine w_t (pc := 892) (e_s := (1, 1, 3, 0, 0, .null, [])) (y_s := (893, [some (.ref _), some (.ref _), some (.ref _), some (.int _)], [.int _, .ref _, .int _, .ref _], _)) rfl (u_ rfl) ?_
  refine w_t (pc := 893) (e_s := (0, 1, 0, 0, 0, .int 2, [])) (y_s := (894, [some (.ref _), some (.ref _), some (.ref _), some (.int _)], [.int _, .int _, .ref _, .int _, .ref _], _)) rfl (u_ rfl) ?_
  refine w_t (pc := 894) (e_s := (7, 1, 0, 0, 0, .null, [])) (y_s := (895, [some (.ref _), some (.ref _), some (.ref _), some (.int _)], [.int (_ + _), .ref _, .int _, .ref _], _)) rfl (u_ rfl) ?_
  refine w22x (pc := 895) (len_s := 1) rfl ?_
  refine wcI (pc := 896) (len_s := 3) rfl rfl (l := [some (.ref _), some (.int _), some (.int _), none]) rfl (wmI t_s (fun v2 h2 hk t_s => ?_))
  replace t_s := t_s hk
  refine w_t (pc := 899) (e_s := (42, 1, 0, 0, 0, .null, [])) (y_s := (900, [some (.ref _), some (.ref _), some (.ref _), some (.int _)], [], _)) rfl (u_ rfl) ?_
  refine w_t (pc := 900) (e_s := (17, 3, 1414, 0, 0, .null, [])) (y_s := (1414, [some (.ref _), some (.ref _), some (.ref _), some (.int _)], [], _)) rfl (u_ rfl) ?_
  refine w_t (pc := 1414) (e_s := (19, 3, 3, 0, 0, .int 6, [])) (y_s := (1417, [some (.ref _), some (.ref _), some (.ref _), some (.int _)], [], _)) rfl (u_ rfl) ?_
  refine w_t (pc := 1417) (e_s := (17, 3, 18, 0, 0, .null, [])) (y_s := (18, [some (.ref _), some (.ref _), some (.ref _), some (.int _)], [], _)) rfl (u_ rfl) ?_
  exact t_s
theorem sg_241_903 {F_s : Nat} {x3 : Int32} {h_s : zH} {K_s : Int32 → zH → Prop} (hk : hKn h_s) (t_s : wF F_s 118 (0, [some (.ref 6), some (.int (h_s.2.1 0 (zix (x3 + 1)))), some (.int (h_s.2.1 0 (zix (x3 + 2)))), none, none, none], [], h_s) (gI (fun v1_s h1 => hKn h1 → wF F_s 212 (0, [some (.ref 102), some (.int (h1.2.1 0 (zix (x3 + 1)))), some (.int (h1.2.1 0 (zix (x3 + 2))))], [], h1) (gI (fun v2 h2 => hKn h2 → wF F_s 241 (18, [some (.ref 0), some (.ref 6), some (.ref 102), some (.int (x3 + 6))], [], h2) (gI K_s)))))) : wF (F_s + 1) 241 (903, [some (.ref 0), some (.ref 6), some (.ref 102), some (.int x3)], [], h_s) (gI K_s) := by
  refine w_0 (pc := 903) (e_s := (3, 1, 1, 0, 0, .null, [])) (y_s := (904, [some (.ref _), some (.ref _), some (.ref _), some (.int _)], [.ref _], _)) rfl (u_ rfl) ?_
  refine w_t (pc := 904) (e_s := (3, 1, 0, 0, 0, .null, [])) (y_s := (905, [some (.ref _), some (.ref _), some (.ref _), some (.int _)], [.ref _, .ref _], _)) rfl (u_ rfl) ?_
  refine w_t (pc := 905) (e_s := (1, 1, 3, 0, 0, .null, [])) (y_s := (906, [some (.ref _), some (.ref _), some (.ref _), some (.int _)], [.int _, .ref _, .ref _], _)) rfl (u_ rfl) ?_
  refine w_t (pc := 906) (e_s := (0, 1, 0, 0, 0, .int 1, [])) (y_s := (907, [some (.ref _), some (.ref _), some (.ref _), some (.int _)], [.int _, .int _, .ref _, .ref _], _)) rfl (u_ rfl) ?_
  refine w_t (pc := 907) (e_s := (7, 1, 0, 0, 0, .null, [])) (y_s := (908, [some (.ref _), some (.ref _), some (.ref _), some (.int _)], [.int (_ + _), .ref _, .ref _], _)) rfl (u_ rfl) ?_
  refine w22x (pc := 908) (len_s := 1) rfl ?_
  refine w_t (pc := 909) (e_s := (3, 1, 0, 0, 0, .null, [])) (y_s := (910, [some (.ref _), some (.ref _), some (.ref _), some (.int _)], [.ref _, .int _, .ref _], _)) rfl (u_ rfl) ?_
  refine w_t (pc := 910) (e_s := (1, 1, 3, 0, 0, .null, [])) (y_s := (911, [some (.ref _), some (.ref _), some (.ref _), some (.int _)], [.int _, .ref _, .int _, .ref _], _)) rfl (u_ rfl) ?_
  refine w_t (pc := 911) (e_s := (0, 1, 0, 0, 0, .int 2, [])) (y_s := (912, [some (.ref _), some (.ref _), some (.ref _), some (.int _)], [.int _, .int _, .ref _, .int _, .ref _], _)) rfl (u_ rfl) ?_
  refine w_t (pc := 912) (e_s := (7, 1, 0, 0, 0, .null, [])) (y_s := (913, [some (.ref _), some (.ref _), some (.ref _), some (.int _)], [.int (_ + _), .ref _, .int _, .ref _], _)) rfl (u_ rfl) ?_
  refine w22x (pc := 913) (len_s := 1) rfl ?_
  refine wcI (pc := 914) (len_s := 3) rfl rfl (l := [some (.ref _), some (.int _), some (.int _), none, none, none]) rfl (wmI t_s (fun v1_s h1 hk t_s => ?_))
  replace t_s := t_s hk
  refine w_t (pc := 917) (e_s := (42, 1, 0, 0, 0, .null, [])) (y_s := (918, [some (.ref _), some (.ref _), some (.ref _), some (.int _)], [], _)) rfl (u_ rfl) ?_
  refine w_t (pc := 918) (e_s := (3, 1, 2, 0, 0, .null, [])) (y_s := (919, [some (.ref _), some (.ref _), some (.ref _), some (.int _)], [.ref _], _)) rfl (u_ rfl) ?_
  refine w_t (pc := 919) (e_s := (3, 1, 0, 0, 0, .null, [])) (y_s := (920, [some (.ref _), some (.ref _), some (.ref _), some (.int _)], [.ref _, .ref _], _)) rfl (u_ rfl) ?_
  refine w_t (pc := 920) (e_s := (1, 1, 3, 0, 0, .null, [])) (y_s := (921, [some (.ref _), some (.ref _), some (.ref _), some (.int _)], [.int _, .ref _, .ref _], _)) rfl (u_ rfl) ?_
  refine w_t (pc := 921) (e_s := (0, 1, 0, 0, 0, .int 1, [])) (y_s := (922, [some (.ref _), some (.ref _), some (.ref _), some (.int _)], [.int _, .int _, .ref _, .ref _], _)) rfl (u_ rfl) ?_
  refine w_t (pc := 922) (e_s := (7, 1, 0, 0, 0, .null, [])) (y_s := (923, [some (.ref _), some (.ref _), some (.ref _), some (.int _)], [.int (_ + _), .ref _, .ref _], _)) rfl (u_ rfl) ?_
  refine w22x (pc := 923) (len_s := 1) rfl ?_
  refine w_t (pc := 924) (e_s := (3, 1, 0, 0, 0, .null, [])) (y_s := (925, [some (.ref _), some (.ref _), some (.ref _), some (.int _)], [.ref _, .int _, .ref _], _)) rfl (u_ rfl) ?_
  refine w_t (pc := 925) (e_s := (1, 1, 3, 0, 0, .null, [])) (y_s := (926, [some (.ref _), some (.ref _), some (.ref _), some (.int _)], [.int _, .ref _, .int _, .ref _], _)) rfl (u_ rfl) ?_
  refine w_t (pc := 926) (e_s := (0, 1, 0, 0, 0, .int 2, [])) (y_s := (927, [some (.ref _), some (.ref _), some (.ref _), some (.int _)], [.int _, .int _, .ref _, .int _, .ref _], _)) rfl (u_ rfl) ?_
  refine w_t (pc := 927) (e_s := (7, 1, 0, 0, 0, .null, [])) (y_s := (928, [some (.ref _), some (.ref _), some (.ref _), some (.int _)], [.int (_ + _), .ref _, .int _, .ref _], _)) rfl (u_ rfl) ?_
  refine w22x (pc := 928) (len_s := 1) rfl ?_
  refine wcI (pc := 929) (len_s := 3) rfl rfl (l := [some (.ref _), some (.int _), some (.int _)]) rfl (wmI t_s (fun v2 h2 hk t_s => ?_))
  replace t_s := t_s hk
  refine w_t (pc := 932) (e_s := (42, 1, 0, 0, 0, .null, [])) (y_s := (933, [some (.ref _), some (.ref _), some (.ref _), some (.int _)], [], _)) rfl (u_ rfl) ?_
  refine w_t (pc := 933) (e_s := (17, 3, 1414, 0, 0, .null, [])) (y_s := (1414, [some (.ref _), some (.ref _), some (.ref _), some (.int _)], [], _)) rfl (u_ rfl) ?_
  refine w_t (pc := 1414) (e_s := (19, 3, 3, 0, 0, .int 6, [])) (y_s := (1417, [some (.ref _), some (.ref _), some (.ref _), some (.int _)], [], _)) rfl (u_ rfl) ?_
  refine w_t (pc := 1417) (e_s := (17, 3, 18, 0, 0, .null, [])) (y_s := (18, [some (.ref _), some (.ref _), some (.ref _), some (.int _)], [], _)) rfl (u_ rfl) ?_
  exact t_s
theorem sg_241_936 {F_s : Nat} {x3 : Int32} {h_s : zH} {K_s : Int32 → zH → Prop} (hk : hKn h_s) (t_s : wF F_s 119 (0, [some (.ref 6), none, none], [], h_s) (gI (fun v1_s h1 => hKn h1 → wF F_s 213 (0, [some (.ref 102), none, none], [], h1) (gI (fun v2 h2 => hKn h2 → wF F_s 241 (18, [some (.ref 0), some (.ref 6), some (.ref 102), some (.int (x3 + 6))], [], h2) (gI K_s)))))) : wF (F_s + 1) 241 (936, [some (.ref 0), some (.ref 6), some (.ref 102), some (.int x3)], [], h_s) (gI K_s) := by
  refine w_0 (pc := 936) (e_s := (3, 1, 1, 0, 0, .null, [])) (y_s := (937, [some (.ref _), some (.ref _), some (.ref _), some (.int _)], [.ref _], _)) rfl (u_ rfl) ?_
  refine wcI (pc := 937) (len_s := 3) rfl rfl (l := [some (.ref _), none, none]) rfl (wmI t_s (fun v1_s h1 hk t_s => ?_))
  replace t_s := t_s hk
  refine w_t (pc := 940) (e_s := (42, 1, 0, 0, 0, .null, [])) (y_s := (941, [some (.ref _), some (.ref _), some (.ref _), some (.int _)], [], _)) rfl (u_ rfl) ?_
  refine w_t (pc := 941) (e_s := (3, 1, 2, 0, 0, .null, [])) (y_s := (942, [some (.ref _), some (.ref _), some (.ref _), some (.int _)], [.ref _], _)) rfl (u_ rfl) ?_
  refine wcI (pc := 942) (len_s := 3) rfl rfl (l := [some (.ref _), none, none]) rfl (wmI t_s (fun v2 h2 hk t_s => ?_))
  replace t_s := t_s hk
  refine w_t (pc := 945) (e_s := (42, 1, 0, 0, 0, .null, [])) (y_s := (946, [some (.ref _), some (.ref _), some (.ref _), some (.int _)], [], _)) rfl (u_ rfl) ?_
  refine w_t (pc := 946) (e_s := (17, 3, 1414, 0, 0, .null, [])) (y_s := (1414, [some (.ref _), some (.ref _), some (.ref _), some (.int _)], [], _)) rfl (u_ rfl) ?_
  refine w_t (pc := 1414) (e_s := (19, 3, 3, 0, 0, .int 6, [])) (y_s := (1417, [some (.ref _), some (.ref _), some (.ref _), some (.int _)], [], _)) rfl (u_ rfl) ?_
  refine w_t (pc := 1417) (e_s := (17, 3, 18, 0, 0, .null, [])) (y_s := (18, [some (.ref _), some (.ref _), some (.ref _), some (.int _)], [], _)) rfl (u_ rfl) ?_
  exact t_s
theorem sg_241_949 {F_s : Nat} {x3 : Int32} {h_s : zH} {K_s : Int32 → zH → Prop} (hk : hKn h_s) (t_s : wF F_s 120 (0, [some (.ref 6), some (.int (h_s.2.1 0 (zix (x3 + 1))))], [], h_s) (gI (fun v1_s h1 => hKn h1 → wF F_s 214 (0, [some (.ref 102), some (.int (h1.2.1 0 (zix (x3 + 1))))], [], h1) (gI (fun v2 h2 => hKn h2 → wF F_s 241 (18, [some (.ref 0), some (.ref 6), some (.ref 102), some (.int (x3 + 6))], [], h2) (gI K_s)))))) : wF (F_s + 1) 241 (949, [some (.ref 0), some (.ref 6), some (.ref 102), some (.int x3)], [], h_s) (gI K_s) := by
  refine w_0 (pc := 949) (e_s := (3, 1, 1, 0, 0, .null, [])) (y_s := (950, [some (.ref _), some (.ref _), some (.ref _), some (.int _)], [.ref _], _)) rfl (u_ rfl) ?_
  refine w_t (pc := 950) (e_s := (3, 1, 0, 0, 0, .null, [])) (y_s := (951, [some (.ref _), some (.ref _), some (.ref _), some (.int _)], [.ref _, .ref _], _)) rfl (u_ rfl) ?_
  refine w_t (pc := 951) (e_s := (1, 1, 3, 0, 0, .null, [])) (y_s := (952, [some (.ref _), some (.ref _), some (.ref _), some (.int _)], [.int _, .ref _, .ref _], _)) rfl (u_ rfl) ?_
  refine w_t (pc := 952) (e_s := (0, 1, 0, 0, 0, .int 1, [])) (y_s := (953, [some (.ref _), some (.ref _), some (.ref _), some (.int _)], [.int _, .int _, .ref _, .ref _], _)) rfl (u_ rfl) ?_
  refine w_t (pc := 953) (e_s := (7, 1, 0, 0, 0, .null, [])) (y_s := (954, [some (.ref _), some (.ref _), some (.ref _), some (.int _)], [.int (_ + _), .ref _, .ref _], _)) rfl (u_ rfl) ?_
  refine w22x (pc := 954) (len_s := 1) rfl ?_
  refine wcI (pc := 955) (len_s := 3) rfl rfl (l := [some (.ref _), some (.int _)]) rfl (wmI t_s (fun v1_s h1 hk t_s => ?_))
  replace t_s := t_s hk
  refine w_t (pc := 958) (e_s := (42, 1, 0, 0, 0, .null, [])) (y_s := (959, [some (.ref _), some (.ref _), some (.ref _), some (.int _)], [], _)) rfl (u_ rfl) ?_
  refine w_t (pc := 959) (e_s := (3, 1, 2, 0, 0, .null, [])) (y_s := (960, [some (.ref _), some (.ref _), some (.ref _), some (.int _)], [.ref _], _)) rfl (u_ rfl) ?_
  refine w_t (pc := 960) (e_s := (3, 1, 0, 0, 0, .null, [])) (y_s := (961, [some (.ref _), some (.ref _), some (.ref _), some (.int _)], [.ref _, .ref _], _)) rfl (u_ rfl) ?_
  refine w_t (pc := 961) (e_s := (1, 1, 3, 0, 0, .null, [])) (y_s := (962, [some (.ref _), some (.ref _), some (.ref _), some (.int _)], [.int _, .ref _, .ref _], _)) rfl (u_ rfl) ?_
  refine w_t (pc := 962) (e_s := (0, 1, 0, 0, 0, .int 1, [])) (y_s := (963, [some (.ref _), some (.ref _), some (.ref _), some (.int _)], [.int _, .int _, .ref _, .ref _], _)) rfl (u_ rfl) ?_
  refine w_t (pc := 963) (e_s := (7, 1, 0, 0, 0, .null, [])) (y_s := (964, [some (.ref _), some (.ref _), some (.ref _), some (.int _)], [.int (_ + _), .ref _, .ref _], _)) rfl (u_ rfl) ?_
  refine w22x (pc := 964) (len_s := 1) rfl ?_
  refine wcI (pc := 965) (len_s := 3) rfl rfl (l := [some (.ref _), some (.int _)]) rfl (wmI t_s (fun v2 h2 hk t_s => ?_))
  replace t_s := t_s hk
  refine w_t (pc := 968) (e_s := (42, 1, 0, 0, 0, .null, [])) (y_s := (969, [some (.ref _), some (.ref _), some (.ref _), some (.int _)], [], _)) rfl (u_ rfl) ?_
  refine w_t (pc := 969) (e_s := (17, 3, 1414, 0, 0, .null, [])) (y_s := (1414, [some (.ref _), some (.ref _), some (.ref _), some (.int _)], [], _)) rfl (u_ rfl) ?_
  refine w_t (pc := 1414) (e_s := (19, 3, 3, 0, 0, .int 6, [])) (y_s := (1417, [some (.ref _), some (.ref _), some (.ref _), some (.int _)], [], _)) rfl (u_ rfl) ?_
  refine w_t (pc := 1417) (e_s := (17, 3, 18, 0, 0, .null, [])) (y_s := (18, [some (.ref _), some (.ref _), some (.ref _), some (.int _)], [], _)) rfl (u_ rfl) ?_
  exact t_s
theorem sg_241_972 {F_s : Nat} {x3 : Int32} {h_s : zH} {K_s : Int32 → zH → Prop} (hk : hKn h_s) (t_s : wF F_s 121 (0, [some (.ref 6), none], [], h_s) (gI (fun v1_s h1 => hKn h1 → wF F_s 215 (0, [some (.ref 102), none], [], h1) (gI (fun v2 h2 => hKn h2 → wF F_s 241 (18, [some (.ref 0), some (.ref 6), some (.ref 102), some (.int (x3 + 6))], [], h2) (gI K_s)))))) : wF (F_s + 1) 241 (972, [some (.ref 0), some (.ref 6), some (.ref 102), some (.int x3)], [], h_s) (gI K_s) := by
  refine w_0 (pc := 972) (e_s := (3, 1, 1, 0, 0, .null, [])) (y_s := (973, [some (.ref _), some (.ref _), some (.ref _), some (.int _)], [.ref _], _)) rfl (u_ rfl) ?_
  refine wcI (pc := 973) (len_s := 3) rfl rfl (l := [some (.ref _), none]) rfl (wmI t_s (fun v1_s h1 hk t_s => ?_))
  replace t_s := t_s hk
  refine w_t (pc := 976) (e_s := (42, 1, 0, 0, 0, .null, [])) (y_s := (977, [some (.ref _), some (.ref _), some (.ref _), some (.int _)], [], _)) rfl (u_ rfl) ?_
  refine w_t (pc := 977) (e_s := (3, 1, 2, 0, 0, .null, [])) (y_s := (978, [some (.ref _), some (.ref _), some (.ref _), some (.int _)], [.ref _], _)) rfl (u_ rfl) ?_
  refine wcI (pc := 978) (len_s := 3) rfl rfl (l := [some (.ref _), none]) rfl (wmI t_s (fun v2 h2 hk t_s => ?_))
  replace t_s := t_s hk
  refine w_t (pc := 981) (e_s := (42, 1, 0, 0, 0, .null, [])) (y_s := (982, [some (.ref _), some (.ref _), some (.ref _), some (.int _)], [], _)) rfl (u_ rfl) ?_
  refine w_t (pc := 982) (e_s := (17, 3, 1414, 0, 0, .null, [])) (y_s := (1414, [some (.ref _), some (.ref _), some (.ref _), some (.int _)], [], _)) rfl (u_ rfl) ?_
  refine w_t (pc := 1414) (e_s := (19, 3, 3, 0, 0, .int 6, [])) (y_s := (1417, [some (.ref _), some (.ref _), some (.ref _), some (.int _)], [], _)) rfl (u_ rfl) ?_
  refine w_t (pc := 1417) (e_s := (17, 3, 18, 0, 0, .null, [])) (y_s := (18, [some (.ref _), some (.ref _), some (.ref _), some (.int _)], [], _)) rfl (u_ rfl) ?_
  exact t_s
theorem sg_241_985 {F_s : Nat} {x3 : Int32} {h_s : zH} {K_s : Int32 → zH → Prop} (hk : hKn h_s) (t_s : wF F_s 122 (0, [some (.ref 6), none], [], h_s) (gI (fun v1_s h1 => hKn h1 → wF F_s 216 (0, [some (.ref 102), none], [], h1) (gI (fun v2 h2 => hKn h2 → wF F_s 241 (18, [some (.ref 0), some (.ref 6), some (.ref 102), some (.int (x3 + 6))], [], h2) (gI K_s)))))) : wF (F_s + 1) 241 (985, [some (.ref 0), some (.ref 6), some (.ref 102), some (.int x3)], [], h_s) (gI K_s) := by
  refine w_0 (pc := 985) (e_s := (3, 1, 1, 0, 0, .null, [])) (y_s := (986, [some (.ref _), some (.ref _), some (.ref _), some (.int _)], [.ref _], _)) rfl (u_ rfl) ?_
  refine wcI (pc := 986) (len_s := 3) rfl rfl (l := [some (.ref _), none]) rfl (wmI t_s (fun v1_s h1 hk t_s => ?_))
  replace t_s := t_s hk
  refine w_t (pc := 989) (e_s := (42, 1, 0, 0, 0, .null, [])) (y_s := (990, [some (.ref _), some (.ref _), some (.ref _), some (.int _)], [], _)) rfl (u_ rfl) ?_
  refine w_t (pc := 990) (e_s := (3, 1, 2, 0, 0, .null, [])) (y_s := (991, [some (.ref _), some (.ref _), some (.ref _), some (.int _)], [.ref _], _)) rfl (u_ rfl) ?_
  refine wcI (pc := 991) (len_s := 3) rfl rfl (l := [some (.ref _), none]) rfl (wmI t_s (fun v2 h2 hk t_s => ?_))
  replace t_s := t_s hk
  refine w_t (pc := 994) (e_s := (42, 1, 0, 0, 0, .null, [])) (y_s := (995, [some (.ref _), some (.ref _), some (.ref _), some (.int _)], [], _)) rfl (u_ rfl) ?_
  refine w_t (pc := 995) (e_s := (17, 3, 1414, 0, 0, .null, [])) (y_s := (1414, [some (.ref _), some (.ref _), some (.ref _), some (.int _)], [], _)) rfl (u_ rfl) ?_
  refine w_t (pc := 1414) (e_s := (19, 3, 3, 0, 0, .int 6, [])) (y_s := (1417, [some (.ref _), some (.ref _), some (.ref _), some (.int _)], [], _)) rfl (u_ rfl) ?_
  refine w_t (pc := 1417) (e_s := (17, 3, 18, 0, 0, .null, [])) (y_s := (18, [some (.ref _), some (.ref _), some (.ref _), some (.int _)], [], _)) rfl (u_ rfl) ?_
  exact t_s
theorem sg_241_998 {F_s : Nat} {x3 : Int32} {h_s : zH} {K_s : Int32 → zH → Prop} (hk : hKn h_s) (t_s : wF F_s 123 (0, [some (.ref 6)], [], h_s) (gI (fun v1_s h1 => hKn h1 → wF F_s 149 (0, [some (.ref 102)], [], h1) (gI (fun v2 h2 => hKn h2 → wF F_s 241 (18, [some (.ref 0), some (.ref 6), some (.ref 102), some (.int (x3 + 6))], [], h2) (gI K_s)))))) : wF (F_s + 1) 241 (998, [some (.ref 0), some (.ref 6), some (.ref 102), some (.int x3)], [], h_s) (gI K_s) := by
  refine w_0 (pc := 998) (e_s := (3, 1, 1, 0, 0, .null, [])) (y_s := (999, [some (.ref _), some (.ref _), some (.ref _), some (.int _)], [.ref _], _)) rfl (u_ rfl) ?_
  refine wcI (pc := 999) (len_s := 3) rfl rfl (l := [some (.ref _)]) rfl (wmI t_s (fun v1_s h1 hk t_s => ?_))
  replace t_s := t_s hk
  refine w_t (pc := 1002) (e_s := (42, 1, 0, 0, 0, .null, [])) (y_s := (1003, [some (.ref _), some (.ref _), some (.ref _), some (.int _)], [], _)) rfl (u_ rfl) ?_
  refine w_t (pc := 1003) (e_s := (3, 1, 2, 0, 0, .null, [])) (y_s := (1004, [some (.ref _), some (.ref _), some (.ref _), some (.int _)], [.ref _], _)) rfl (u_ rfl) ?_
  refine wcI (pc := 1004) (len_s := 3) rfl rfl (l := [some (.ref _)]) rfl (wmI t_s (fun v2 h2 hk t_s => ?_))
  replace t_s := t_s hk
  refine w_t (pc := 1007) (e_s := (42, 1, 0, 0, 0, .null, [])) (y_s := (1008, [some (.ref _), some (.ref _), some (.ref _), some (.int _)], [], _)) rfl (u_ rfl) ?_
  refine w_t (pc := 1008) (e_s := (17, 3, 1414, 0, 0, .null, [])) (y_s := (1414, [some (.ref _), some (.ref _), some (.ref _), some (.int _)], [], _)) rfl (u_ rfl) ?_
  refine w_t (pc := 1414) (e_s := (19, 3, 3, 0, 0, .int 6, [])) (y_s := (1417, [some (.ref _), some (.ref _), some (.ref _), some (.int _)], [], _)) rfl (u_ rfl) ?_
  refine w_t (pc := 1417) (e_s := (17, 3, 18, 0, 0, .null, [])) (y_s := (18, [some (.ref _), some (.ref _), some (.ref _), some (.int _)], [], _)) rfl (u_ rfl) ?_
  exact t_s
theorem sg_241_1011 {F_s : Nat} {x3 : Int32} {h_s : zH} {K_s : Int32 → zH → Prop} (hk : hKn h_s) (t_s : wF F_s 124 (0, [some (.ref 6)], [], h_s) (gI (fun v1_s h1 => hKn h1 → wF F_s 150 (0, [some (.ref 102)], [], h1) (gI (fun v2 h2 => hKn h2 → wF F_s 241 (18, [some (.ref 0), some (.ref 6), some (.ref 102), some (.int (x3 + 6))], [], h2) (gI K_s)))))) : wF (F_s + 1) 241 (1011, [some (.ref 0), some (.ref 6), some (.ref 102), some (.int x3)], [], h_s) (gI K_s) := by
  refine w_0 (pc := 1011) (e_s := (3, 1, 1, 0, 0, .null, [])) (y_s := (1012, [some (.ref _), some (.ref _), some (.ref _), some (.int _)], [.ref _], _)) rfl (u_ rfl) ?_
  refine wcI (pc := 1012) (len_s := 3) rfl rfl (l := [some (.ref _)]) rfl (wmI t_s (fun v1_s h1 hk t_s => ?_))
  replace t_s := t_s hk
  refine w_t (pc := 1015) (e_s := (42, 1, 0, 0, 0, .null, [])) (y_s := (1016, [some (.ref _), some (.ref _), some (.ref _), some (.int _)], [], _)) rfl (u_ rfl) ?_
  refine w_t (pc := 1016) (e_s := (3, 1, 2, 0, 0, .null, [])) (y_s := (1017, [some (.ref _), some (.ref _), some (.ref _), some (.int _)], [.ref _], _)) rfl (u_ rfl) ?_
  refine wcI (pc := 1017) (len_s := 3) rfl rfl (l := [some (.ref _)]) rfl (wmI t_s (fun v2 h2 hk t_s => ?_))
  replace t_s := t_s hk
  refine w_t (pc := 1020) (e_s := (42, 1, 0, 0, 0, .null, [])) (y_s := (1021, [some (.ref _), some (.ref _), some (.ref _), some (.int _)], [], _)) rfl (u_ rfl) ?_
  refine w_t (pc := 1021) (e_s := (17, 3, 1414, 0, 0, .null, [])) (y_s := (1414, [some (.ref _), some (.ref _), some (.ref _), some (.int _)], [], _)) rfl (u_ rfl) ?_
  refine w_t (pc := 1414) (e_s := (19, 3, 3, 0, 0, .int 6, [])) (y_s := (1417, [some (.ref _), some (.ref _), some (.ref _), some (.int _)], [], _)) rfl (u_ rfl) ?_
  refine w_t (pc := 1417) (e_s := (17, 3, 18, 0, 0, .null, [])) (y_s := (18, [some (.ref _), some (.ref _), some (.ref _), some (.int _)], [], _)) rfl (u_ rfl) ?_
  exact t_s
theorem sg_241_1024 {F_s : Nat} {x3 : Int32} {h_s : zH} {K_s : Int32 → zH → Prop} (hk : hKn h_s) (t_s : wF F_s 125 (0, [some (.ref 6), some (.int (h_s.2.1 0 (zix (x3 + 1))))], [], h_s) (gI (fun v1_s h1 => hKn h1 → wF F_s 219 (0, [some (.ref 102), some (.int (h1.2.1 0 (zix (x3 + 1))))], [], h1) (gI (fun v2 h2 => hKn h2 → wF F_s 241 (18, [some (.ref 0), some (.ref 6), some (.ref 102), some (.int (x3 + 6))], [], h2) (gI K_s)))))) : wF (F_s + 1) 241 (1024, [some (.ref 0), some (.ref 6), some (.ref 102), some (.int x3)], [], h_s) (gI K_s) := by
  refine w_0 (pc := 1024) (e_s := (3, 1, 1, 0, 0, .null, [])) (y_s := (1025, [some (.ref _), some (.ref _), some (.ref _), some (.int _)], [.ref _], _)) rfl (u_ rfl) ?_
  refine w_t (pc := 1025) (e_s := (3, 1, 0, 0, 0, .null, [])) (y_s := (1026, [some (.ref _), some (.ref _), some (.ref _), some (.int _)], [.ref _, .ref _], _)) rfl (u_ rfl) ?_
  refine w_t (pc := 1026) (e_s := (1, 1, 3, 0, 0, .null, [])) (y_s := (1027, [some (.ref _), some (.ref _), some (.ref _), some (.int _)], [.int _, .ref _, .ref _], _)) rfl (u_ rfl) ?_
  refine w_t (pc := 1027) (e_s := (0, 1, 0, 0, 0, .int 1, [])) (y_s := (1028, [some (.ref _), some (.ref _), some (.ref _), some (.int _)], [.int _, .int _, .ref _, .ref _], _)) rfl (u_ rfl) ?_
  refine w_t (pc := 1028) (e_s := (7, 1, 0, 0, 0, .null, [])) (y_s := (1029, [some (.ref _), some (.ref _), some (.ref _), some (.int _)], [.int (_ + _), .ref _, .ref _], _)) rfl (u_ rfl) ?_
  refine w22x (pc := 1029) (len_s := 1) rfl ?_
  refine wcI (pc := 1030) (len_s := 3) rfl rfl (l := [some (.ref _), some (.int _)]) rfl (wmI t_s (fun v1_s h1 hk t_s => ?_))
  replace t_s := t_s hk
  refine w_t (pc := 1033) (e_s := (42, 1, 0, 0, 0, .null, [])) (y_s := (1034, [some (.ref _), some (.ref _), some (.ref _), some (.int _)], [], _)) rfl (u_ rfl) ?_
  refine w_t (pc := 1034) (e_s := (3, 1, 2, 0, 0, .null, [])) (y_s := (1035, [some (.ref _), some (.ref _), some (.ref _), some (.int _)], [.ref _], _)) rfl (u_ rfl) ?_
  refine w_t (pc := 1035) (e_s := (3, 1, 0, 0, 0, .null, [])) (y_s := (1036, [some (.ref _), some (.ref _), some (.ref _), some (.int _)], [.ref _, .ref _], _)) rfl (u_ rfl) ?_
  refine w_t (pc := 1036) (e_s := (1, 1, 3, 0, 0, .null, [])) (y_s := (1037, [some (.ref _), some (.ref _), some (.ref _), some (.int _)], [.int _, .ref _, .ref _], _)) rfl (u_ rfl) ?_
  refine w_t (pc := 1037) (e_s := (0, 1, 0, 0, 0, .int 1, [])) (y_s := (1038, [some (.ref _), some (.ref _), some (.ref _), some (.int _)], [.int _, .int _, .ref _, .ref _], _)) rfl (u_ rfl) ?_
  refine w_t (pc := 1038) (e_s := (7, 1, 0, 0, 0, .null, [])) (y_s := (1039, [some (.ref _), some (.ref _), some (.ref _), some (.int _)], [.int (_ + _), .ref _, .ref _], _)) rfl (u_ rfl) ?_
  refine w22x (pc := 1039) (len_s := 1) rfl ?_
  refine wcI (pc := 1040) (len_s := 3) rfl rfl (l := [some (.ref _), some (.int _)]) rfl (wmI t_s (fun v2 h2 hk t_s => ?_))
  replace t_s := t_s hk
  refine w_t (pc := 1043) (e_s := (42, 1, 0, 0, 0, .null, [])) (y_s := (1044, [some (.ref _), some (.ref _), some (.ref _), some (.int _)], [], _)) rfl (u_ rfl) ?_
  refine w_t (pc := 1044) (e_s := (17, 3, 1414, 0, 0, .null, [])) (y_s := (1414, [some (.ref _), some (.ref _), some (.ref _), some (.int _)], [], _)) rfl (u_ rfl) ?_
  refine w_t (pc := 1414) (e_s := (19, 3, 3, 0, 0, .int 6, [])) (y_s := (1417, [some (.ref _), some (.ref _), some (.ref _), some (.int _)], [], _)) rfl (u_ rfl) ?_
  refine w_t (pc := 1417) (e_s := (17, 3, 18, 0, 0, .null, [])) (y_s := (18, [some (.ref _), some (.ref _), some (.ref _), some (.int _)], [], _)) rfl (u_ rfl) ?_
  exact t_s
theorem sg_241_1047 {F_s : Nat} {x3 : Int32} {h_s : zH} {K_s : Int32 → zH → Prop} (hk : hKn h_s) (t_s : wF F_s 126 (0, [some (.ref 6), some (.int (h_s.2.1 0 (zix (x3 + 1)))), some (.int (h_s.2.1 0 (zix (x3 + 2)))), some (.int (h_s.2.1 0 (zix (x3 + 3))))], [], h_s) (gI (fun v1_s h1 => hKn h1 → wF F_s 226 (0, [some (.ref 102), some (.int (h1.2.1 0 (zix (x3 + 1)))), some (.int (h1.2.1 0 (zix (x3 + 2)))), some (.int (h1.2.1 0 (zix (x3 + 3))))], [], h1) (gI (fun v2 h2 => hKn h2 → wF F_s 241 (18, [some (.ref 0), some (.ref 6), some (.ref 102), some (.int (x3 + 6))], [], h2) (gI K_s)))))) : wF (F_s + 1) 241 (1047, [some (.ref 0), some (.ref 6), some (.ref 102), some (.int x3)], [], h_s) (gI K_s) := by
  refine w_0 (pc := 1047) (e_s := (3, 1, 1, 0, 0, .null, [])) (y_s := (1048, [some (.ref _), some (.ref _), some (.ref _), some (.int _)], [.ref _], _)) rfl (u_ rfl) ?_
  refine w_t (pc := 1048) (e_s := (3, 1, 0, 0, 0, .null, [])) (y_s := (1049, [some (.ref _), some (.ref _), some (.ref _), some (.int _)], [.ref _, .ref _], _)) rfl (u_ rfl) ?_
  refine w_t (pc := 1049) (e_s := (1, 1, 3, 0, 0, .null, [])) (y_s := (1050, [some (.ref _), some (.ref _), some (.ref _), some (.int _)], [.int _, .ref _, .ref _], _)) rfl (u_ rfl) ?_
  refine w_t (pc := 1050) (e_s := (0, 1, 0, 0, 0, .int 1, [])) (y_s := (1051, [some (.ref _), some (.ref _), some (.ref _), some (.int _)], [.int _, .int _, .ref _, .ref _], _)) rfl (u_ rfl) ?_
  refine w_t (pc := 1051) (e_s := (7, 1, 0, 0, 0, .null, [])) (y_s := (1052, [some (.ref _), some (.ref _), some (.ref _), some (.int _)], [.int (_ + _), .ref _, .ref _], _)) rfl (u_ rfl) ?_
  refine w22x (pc := 1052) (len_s := 1) rfl ?_
  refine w_t (pc := 1053) (e_s := (3, 1, 0, 0, 0, .null, [])) (y_s := (1054, [some (.ref _), some (.ref _), some (.ref _), some (.int _)], [.ref _, .int _, .ref _], _)) rfl (u_ rfl) ?_
  refine w_t (pc := 1054) (e_s := (1, 1, 3, 0, 0, .null, [])) (y_s := (1055, [some (.ref _), some (.ref _), some (.ref _), some (.int _)], [.int _, .ref _, .int _, .ref _], _)) rfl (u_ rfl) ?_
  refine w_t (pc := 1055) (e_s := (0, 1, 0, 0, 0, .int 2, [])) (y_s := (1056, [some (.ref _), some (.ref _), some (.ref _), some (.int _)], [.int _, .int _, .ref _, .int _, .ref _], _)) rfl (u_ rfl) ?_
  refine w_t (pc := 1056) (e_s := (7, 1, 0, 0, 0, .null, [])) (y_s := (1057, [some (.ref _), some (.ref _), some (.ref _), some (.int _)], [.int (_ + _), .ref _, .int _, .ref _], _)) rfl (u_ rfl) ?_
  refine w22x (pc := 1057) (len_s := 1) rfl ?_
  refine w_t (pc := 1058) (e_s := (3, 1, 0, 0, 0, .null, [])) (y_s := (1059, [some (.ref _), some (.ref _), some (.ref _), some (.int _)], [.ref _, .int _, .int _, .ref _], _)) rfl (u_ rfl) ?_
  refine w_t (pc := 1059) (e_s := (1, 1, 3, 0, 0, .null, [])) (y_s := (1060, [some (.ref _), some (.ref _), some (.ref _), some (.int _)], [.int _, .ref _, .int _, .int _, .ref _], _)) rfl (u_ rfl) ?_
  refine w_t (pc := 1060) (e_s := (0, 1, 0, 0, 0, .int 3, [])) (y_s := (1061, [some (.ref _), some (.ref _), some (.ref _), some (.int _)], [.int _, .int _, .ref _, .int _, .int _, .ref _], _)) rfl (u_ rfl) ?_
  refine w_t (pc := 1061) (e_s := (7, 1, 0, 0, 0, .null, [])) (y_s := (1062, [some (.ref _), some (.ref _), some (.ref _), some (.int _)], [.int (_ + _), .ref _, .int _, .int _, .ref _], _)) rfl (u_ rfl) ?_
  refine w22x (pc := 1062) (len_s := 1) rfl ?_
  refine wcI (pc := 1063) (len_s := 3) rfl rfl (l := [some (.ref _), some (.int _), some (.int _), some (.int _)]) rfl (wmI t_s (fun v1_s h1 hk t_s => ?_))
  replace t_s := t_s hk
  refine w_t (pc := 1066) (e_s := (42, 1, 0, 0, 0, .null, [])) (y_s := (1067, [some (.ref _), some (.ref _), some (.ref _), some (.int _)], [], _)) rfl (u_ rfl) ?_
  refine w_t (pc := 1067) (e_s := (3, 1, 2, 0, 0, .null, [])) (y_s := (1068, [some (.ref _), some (.ref _), some (.ref _), some (.int _)], [.ref _], _)) rfl (u_ rfl) ?_
  refine w_t (pc := 1068) (e_s := (3, 1, 0, 0, 0, .null, [])) (y_s := (1069, [some (.ref _), some (.ref _), some (.ref _), some (.int _)], [.ref _, .ref _], _)) rfl (u_ rfl) ?_
  refine w_t (pc := 1069) (e_s := (1, 1, 3, 0, 0, .null, [])) (y_s := (1070, [some (.ref _), some (.ref _), some (.ref _), some (.int _)], [.int _, .ref _, .ref _], _)) rfl (u_ rfl) ?_
  refine w_t (pc := 1070) (e_s := (0, 1, 0, 0, 0, .int 1, [])) (y_s := (1071, [some (.ref _), some (.ref _), some (.ref _), some (.int _)], [.int _, .int _, .ref _, .ref _], _)) rfl (u_ rfl) ?_
  refine w_t (pc := 1071) (e_s := (7, 1, 0, 0, 0, .null, [])) (y_s := (1072, [some (.ref _), some (.ref _), some (.ref _), some (.int _)], [.int (_ + _), .ref _, .ref _], _)) rfl (u_ rfl) ?_
  refine w22x (pc := 1072) (len_s := 1) rfl ?_
  refine w_t (pc := 1073) (e_s := (3, 1, 0, 0, 0, .null, [])) (y_s := (1074, [some (.ref _), some (.ref _), some (.ref _), some (.int _)], [.ref _, .int _, .ref _], _)) rfl (u_ rfl) ?_
  refine w_t (pc := 1074) (e_s := (1, 1, 3, 0, 0, .null, [])) (y_s := (1075, [some (.ref _), some (.ref _), some (.ref _), some (.int _)], [.int _, .ref _, .int _, .ref _], _)) rfl (u_ rfl) ?_
  refine w_t (pc := 1075) (e_s := (0, 1, 0, 0, 0, .int 2, [])) (y_s := (1076, [some (.ref _), some (.ref _), some (.ref _), some (.int _)], [.int _, .int _, .ref _, .int _, .ref _], _)) rfl (u_ rfl) ?_
  refine w_t (pc := 1076) (e_s := (7, 1, 0, 0, 0, .null, [])) (y_s := (1077, [some (.ref _), some (.ref _), some (.ref _), some (.int _)], [.int (_ + _), .ref _, .int _, .ref _], _)) rfl (u_ rfl) ?_
  refine w22x (pc := 1077) (len_s := 1) rfl ?_
  refine w_t (pc := 1078) (e_s := (3, 1, 0, 0, 0, .null, [])) (y_s := (1079, [some (.ref _), some (.ref _), some (.ref _), some (.int _)], [.ref _, .int _, .int _, .ref _], _)) rfl (u_ rfl) ?_
  refine w_t (pc := 1079) (e_s := (1, 1, 3, 0, 0, .null, [])) (y_s := (1080, [some (.ref _), some (.ref _), some (.ref _), some (.int _)], [.int _, .ref _, .int _, .int _, .ref _], _)) rfl (u_ rfl) ?_
  refine w_t (pc := 1080) (e_s := (0, 1, 0, 0, 0, .int 3, [])) (y_s := (1081, [some (.ref _), some (.ref _), some (.ref _), some (.int _)], [.int _, .int _, .ref _, .int _, .int _, .ref _], _)) rfl (u_ rfl) ?_
  refine w_t (pc := 1081) (e_s := (7, 1, 0, 0, 0, .null, [])) (y_s := (1082, [some (.ref _), some (.ref _), some (.ref _), some (.int _)], [.int (_ + _), .ref _, .int _, .int _, .ref _], _)) rfl (u_ rfl) ?_
  refine w22x (pc := 1082) (len_s := 1) rfl ?_
  refine wcI (pc := 1083) (len_s := 3) rfl rfl (l := [some (.ref _), some (.int _), some (.int _), some (.int _)]) rfl (wmI t_s (fun v2 h2 hk t_s => ?_))
  replace t_s := t_s hk
  refine w_t (pc := 1086) (e_s := (42, 1, 0, 0, 0, .null, [])) (y_s := (1087, [some (.ref _), some (.ref _), some (.ref _), some (.int _)], [], _)) rfl (u_ rfl) ?_
  refine w_t (pc := 1087) (e_s := (17, 3, 1414, 0, 0, .null, [])) (y_s := (1414, [some (.ref _), some (.ref _), some (.ref _), some (.int _)], [], _)) rfl (u_ rfl) ?_
  refine w_t (pc := 1414) (e_s := (19, 3, 3, 0, 0, .int 6, [])) (y_s := (1417, [some (.ref _), some (.ref _), some (.ref _), some (.int _)], [], _)) rfl (u_ rfl) ?_
  refine w_t (pc := 1417) (e_s := (17, 3, 18, 0, 0, .null, [])) (y_s := (18, [some (.ref _), some (.ref _), some (.ref _), some (.int _)], [], _)) rfl (u_ rfl) ?_
  exact t_s
theorem sg_241_1090 {F_s : Nat} {x3 : Int32} {h_s : zH} {K_s : Int32 → zH → Prop} (hk : hKn h_s) (t_s : wF F_s 127 (0, [some (.ref 6), some (.int (h_s.2.1 0 (zix (x3 + 1))))], [], h_s) (gI (fun v1_s h1 => hKn h1 → wF F_s 227 (0, [some (.ref 102), some (.int (h1.2.1 0 (zix (x3 + 1))))], [], h1) (gI (fun v2 h2 => hKn h2 → wF F_s 241 (18, [some (.ref 0), some (.ref 6), some (.ref 102), some (.int (x3 + 6))], [], h2) (gI K_s)))))) : wF (F_s + 1) 241 (1090, [some (.ref 0), some (.ref 6), some (.ref 102), some (.int x3)], [], h_s) (gI K_s) := by
  refine w_0 (pc := 1090) (e_s := (3, 1, 1, 0, 0, .null, [])) (y_s := (1091, [some (.ref _), some (.ref _), some (.ref _), some (.int _)], [.ref _], _)) rfl (u_ rfl) ?_
  refine w_t (pc := 1091) (e_s := (3, 1, 0, 0, 0, .null, [])) (y_s := (1092, [some (.ref _), some (.ref _), some (.ref _), some (.int _)], [.ref _, .ref _], _)) rfl (u_ rfl) ?_
  refine w_t (pc := 1092) (e_s := (1, 1, 3, 0, 0, .null, [])) (y_s := (1093, [some (.ref _), some (.ref _), some (.ref _), some (.int _)], [.int _, .ref _, .ref _], _)) rfl (u_ rfl) ?_
  refine w_t (pc := 1093) (e_s := (0, 1, 0, 0, 0, .int 1, [])) (y_s := (1094, [some (.ref _), some (.ref _), some (.ref _), some (.int _)], [.int _, .int _, .ref _, .ref _], _)) rfl (u_ rfl) ?_
  refine w_t (pc := 1094) (e_s := (7, 1, 0, 0, 0, .null, [])) (y_s := (1095, [some (.ref _), some (.ref _), some (.ref _), some (.int _)], [.int (_ + _), .ref _, .ref _], _)) rfl (u_ rfl) ?_
  refine w22x (pc := 1095) (len_s := 1) rfl ?_
  refine wcI (pc := 1096) (len_s := 3) rfl rfl (l := [some (.ref _), some (.int _)]) rfl (wmI t_s (fun v1_s h1 hk t_s => ?_))
  replace t_s := t_s hk
  refine w_t (pc := 1099) (e_s := (42, 1, 0, 0, 0, .null, [])) (y_s := (1100, [some (.ref _), some (.ref _), some (.ref _), some (.int _)], [], _)) rfl (u_ rfl) ?_
  refine w_t (pc := 1100) (e_s := (3, 1, 2, 0, 0, .null, [])) (y_s := (1101, [some (.ref _), some (.ref _), some (.ref _), some (.int _)], [.ref _], _)) rfl (u_ rfl) ?_
  refine w_t (pc := 1101) (e_s := (3, 1, 0, 0, 0, .null, [])) (y_s := (1102, [some (.ref _), some (.ref _), some (.ref _), some (.int _)], [.ref _, .ref _], _)) rfl (u_ rfl) ?_
  refine w_t (pc := 1102) (e_s := (1, 1, 3, 0, 0, .null, [])) (y_s := (1103, [some (.ref _), some (.ref _), some (.ref _), some (.int _)], [.int _, .ref _, .ref _], _)) rfl (u_ rfl) ?_
  refine w_t (pc := 1103) (e_s := (0, 1, 0, 0, 0, .int 1, [])) (y_s := (1104, [some (.ref _), some (.ref _), some (.ref _), some (.int _)], [.int _, .int _, .ref _, .ref _], _)) rfl (u_ rfl) ?_
  refine w_t (pc := 1104) (e_s := (7, 1, 0, 0, 0, .null, [])) (y_s := (1105, [some (.ref _), some (.ref _), some (.ref _), some (.int _)], [.int (_ + _), .ref _, .ref _], _)) rfl (u_ rfl) ?_
  refine w22x (pc := 1105) (len_s := 1) rfl ?_
  refine wcI (pc := 1106) (len_s := 3) rfl rfl (l := [some (.ref _), some (.int _)]) rfl (wmI t_s (fun v2 h2 hk t_s => ?_))
  replace t_s := t_s hk
  refine w_t (pc := 1109) (e_s := (42, 1, 0, 0, 0, .null, [])) (y_s := (1110, [some (.ref _), some (.ref _), some (.ref _), some (.int _)], [], _)) rfl (u_ rfl) ?_
  refine w_t (pc := 1110) (e_s := (17, 3, 1414, 0, 0, .null, [])) (y_s := (1414, [some (.ref _), some (.ref _), some (.ref _), some (.int _)], [], _)) rfl (u_ rfl) ?_
  refine w_t (pc := 1414) (e_s := (19, 3, 3, 0, 0, .int 6, [])) (y_s := (1417, [some (.ref _), some (.ref _), some (.ref _), some (.int _)], [], _)) rfl (u_ rfl) ?_
  refine w_t (pc := 1417) (e_s := (17, 3, 18, 0, 0, .null, [])) (y_s := (18, [some (.ref _), some (.ref _), some (.ref _), some (.int _)], [], _)) rfl (u_ rfl) ?_
  exact t_s
theorem sg_241_1113 {F_s : Nat} {x3 : Int32} {h_s : zH} {K_s : Int32 → zH → Prop} (hk : hKn h_s) (t_s : wF F_s 128 (0, [some (.ref 6), some (.int (h_s.2.1 0 (zix (x3 + 1)))), some (.int (h_s.2.1 0 (zix (x3 + 2))))], [], h_s) (gI (fun v1_s h1 => hKn h1 → wF F_s 229 (0, [some (.ref 102), some (.int (h1.2.1 0 (zix (x3 + 1)))), some (.int (h1.2.1 0 (zix (x3 + 2))))], [], h1) (gI (fun v2 h2 => hKn h2 → wF F_s 241 (18, [some (.ref 0), some (.ref 6), some (.ref 102), some (.int (x3 + 6))], [], h2) (gI K_s)))))) : wF (F_s + 1) 241 (1113, [some (.ref 0), some (.ref 6), some (.ref 102), some (.int x3)], [], h_s) (gI K_s) := by
  refine w_0 (pc := 1113) (e_s := (3, 1, 1, 0, 0, .null, [])) (y_s := (1114, [some (.ref _), some (.ref _), some (.ref _), some (.int _)], [.ref _], _)) rfl (u_ rfl) ?_
  refine w_t (pc := 1114) (e_s := (3, 1, 0, 0, 0, .null, [])) (y_s := (1115, [some (.ref _), some (.ref _), some (.ref _), some (.int _)], [.ref _, .ref _], _)) rfl (u_ rfl) ?_
  refine w_t (pc := 1115) (e_s := (1, 1, 3, 0, 0, .null, [])) (y_s := (1116, [some (.ref _), some (.ref _), some (.ref _), some (.int _)], [.int _, .ref _, .ref _], _)) rfl (u_ rfl) ?_
  refine w_t (pc := 1116) (e_s := (0, 1, 0, 0, 0, .int 1, [])) (y_s := (1117, [some (.ref _), some (.ref _), some (.ref _), some (.int _)], [.int _, .int _, .ref _, .ref _], _)) rfl (u_ rfl) ?_
  refine w_t (pc := 1117) (e_s := (7, 1, 0, 0, 0, .null, [])) (y_s := (1118, [some (.ref _), some (.ref _), some (.ref _), some (.int _)], [.int (_ + _), .ref _, .ref _], _)) rfl (u_ rfl) ?_
  refine w22x (pc := 1118) (len_s := 1) rfl ?_
  refine w_t (pc := 1119) (e_s := (3, 1, 0, 0, 0, .null, [])) (y_s := (1120, [some (.ref _), some (.ref _), some (.ref _), some (.int _)], [.ref _, .int _, .ref _], _)) rfl (u_ rfl) ?_
  refine w_t (pc := 1120) (e_s := (1, 1, 3, 0, 0, .null, [])) (y_s := (1121, [some (.ref _), some (.ref _), some (.ref _), some (.int _)], [.int _, .ref _, .int _, .ref _], _)) rfl (u_ rfl) ?_
  refine w_t (pc := 1121) (e_s := (0, 1, 0, 0, 0, .int 2, [])) (y_s := (1122, [some (.ref _), some (.ref _), some (.ref _), some (.int _)], [.int _, .int _, .ref _, .int _, .ref _], _)) rfl (u_ rfl) ?_
  refine w_t (pc := 1122) (e_s := (7, 1, 0, 0, 0, .null, [])) (y_s := (1123, [some (.ref _), some (.ref _), some (.ref _), some (.int _)], [.int (_ + _), .ref _, .int _, .ref _], _)) rfl (u_ rfl) ?_
  refine w22x (pc := 1123) (len_s := 1) rfl ?_
  refine wcI (pc := 1124) (len_s := 3) rfl rfl (l := [some (.ref _), some (.int _), some (.int _)]) rfl (wmI t_s (fun v1_s h1 hk t_s => ?_))
  replace t_s := t_s hk
  refine w_t (pc := 1127) (e_s := (42, 1, 0, 0, 0, .null, [])) (y_s := (1128, [some (.ref _), some (.ref _), some (.ref _), some (.int _)], [], _)) rfl (u_ rfl) ?_
  refine w_t (pc := 1128) (e_s := (3, 1, 2, 0, 0, .null, [])) (y_s := (1129, [some (.ref _), some (.ref _), some (.ref _), some (.int _)], [.ref _], _)) rfl (u_ rfl) ?_
  refine w_t (pc := 1129) (e_s := (3, 1, 0, 0, 0, .null, [])) (y_s := (1130, [some (.ref _), some (.ref _), some (.ref _), some (.int _)], [.ref _, .ref _], _)) rfl (u_ rfl) ?_
  refine w_t (pc := 1130) (e_s := (1, 1, 3, 0, 0, .null, [])) (y_s := (1131, [some (.ref _), some (.ref _), some (.ref _), some (.int _)], [.int _, .ref _, .ref _], _)) rfl (u_ rfl) ?_
  refine w_t (pc := 1131) (e_s := (0, 1, 0, 0, 0, .int 1, [])) (y_s := (1132, [some (.ref _), some (.ref _), some (.ref _), some (.int _)], [.int _, .int _, .ref _, .ref _], _)) rfl (u_ rfl) ?_
  refine w_t (pc := 1132) (e_s := (7, 1, 0, 0, 0, .null, [])) (y_s := (1133, [some (.ref _), some (.ref _), some (.ref _), some (.int _)], [.int (_ + _), .ref _, .ref _], _)) rfl (u_ rfl) ?_
  refine w22x (pc := 1133) (len_s := 1) rfl ?_
  refine w_t (pc := 1134) (e_s := (3, 1, 0, 0, 0, .null, [])) (y_s := (1135, [some (.ref _), some (.ref _), some (.ref _), some (.int _)], [.ref _, .int _, .ref _], _)) rfl (u_ rfl) ?_
  refine w_t (pc := 1135) (e_s := (1, 1, 3, 0, 0, .null, [])) (y_s := (1136, [some (.ref _), some (.ref _), some (.ref _), some (.int _)], [.int _, .ref _, .int _, .ref _], _)) rfl (u_ rfl) ?_
  refine w_t (pc := 1136) (e_s := (0, 1, 0, 0, 0, .int 2, [])) (y_s := (1137, [some (.ref _), some (.ref _), some (.ref _), some (.int _)], [.int _, .int _, .ref _, .int _, .ref _], _)) rfl (u_ rfl) ?_
  refine w_t (pc := 1137) (e_s := (7, 1, 0, 0, 0, .null, [])) (y_s := (1138, [some (.ref _), some (.ref _), some (.ref _), some (.int _)], [.int (_ + _), .ref _, .int _, .ref _], _)) rfl (u_ rfl) ?_
  refine w22x (pc := 1138) (len_s := 1) rfl ?_
  refine wcI (pc := 1139) (len_s := 3) rfl rfl (l := [some (.ref _), some (.int _), some (.int _)]) rfl (wmI t_s (fun v2 h2 hk t_s => ?_))
  replace t_s := t_s hk
  refine w_t (pc := 1142) (e_s := (42, 1, 0, 0, 0, .null, [])) (y_s := (1143, [some (.ref _), some (.ref _), some (.ref _), some (.int _)], [], _)) rfl (u_ rfl) ?_
  refine w_t (pc := 1143) (e_s := (17, 3, 1414, 0, 0, .null, [])) (y_s := (1414, [some (.ref _), some (.ref _), some (.ref _), some (.int _)], [], _)) rfl (u_ rfl) ?_
  refine w_t (pc := 1414) (e_s := (19, 3, 3, 0, 0, .int 6, [])) (y_s := (1417, [some (.ref _), some (.ref _), some (.ref _), some (.int _)], [], _)) rfl (u_ rfl) ?_
  refine w_t (pc := 1417) (e_s := (17, 3, 18, 0, 0, .null, [])) (y_s := (18, [some (.ref _), some (.ref _), some (.ref _), some (.int _)], [], _)) rfl (u_ rfl) ?_
  exact t_s
theorem sg_241_1146 {F_s : Nat} {x3 : Int32} {h_s : zH} {K_s : Int32 → zH → Prop} (hk : hKn h_s) (t_s : wF F_s 129 (0, [some (.ref 6), some (.int (h_s.2.1 0 (zix (x3 + 1)))), some (.int (h_s.2.1 0 (zix (x3 + 2)))), some (.int (h_s.2.1 0 (zix (x3 + 3))))], [], h_s) (gI (fun v1_s h1 => hKn h1 → wF F_s 230 (0, [some (.ref 102), some (.int (h1.2.1 0 (zix (x3 + 1)))), some (.int (h1.2.1 0 (zix (x3 + 2)))), some (.int (h1.2.1 0 (zix (x3 + 3)))), none], [], h1) (gI (fun v2 h2 => hKn h2 → wF F_s 241 (18, [some (.ref 0), some (.ref 6), some (.ref 102), some (.int (x3 + 6))], [], h2) (gI K_s)))))) : wF (F_s + 1) 241 (1146, [some (.ref 0), some (.ref 6), some (.ref 102), some (.int x3)], [], h_s) (gI K_s) := by
  refine w_0 (pc := 1146) (e_s := (3, 1, 1, 0, 0, .null, [])) (y_s := (1147, [some (.ref _), some (.ref _), some (.ref _), some (.int _)], [.ref _], _)) rfl (u_ rfl) ?_
  refine w_t (pc := 1147) (e_s := (3, 1, 0, 0, 0, .null, [])) (y_s := (1148, [some (.ref _), some (.ref _), some (.ref _), some (.int _)], [.ref _, .ref _], _)) rfl (u_ rfl) ?_
  refine w_t (pc := 1148) (e_s := (1, 1, 3, 0, 0, .null, [])) (y_s := (1149, [some (.ref _), some (.ref _), some (.ref _), some (.int _)], [.int _, .ref _, .ref _], _)) rfl (u_ rfl) ?_
  refine w_t (pc := 1149) (e_s := (0, 1, 0, 0, 0, .int 1, [])) (y_s := (1150, [some (.ref _), some (.ref _), some (.ref _), some (.int _)], [.int _, .int _, .ref _, .ref _], _)) rfl (u_ rfl) ?_
  refine w_t (pc := 1150) (e_s := (7, 1, 0, 0, 0, .null, [])) (y_s := (1151, [some (.ref _), some (.ref _), some (.ref _), some (.int _)], [.int (_ + _), .ref _, .ref _], _)) rfl (u_ rfl) ?_
  refine w22x (pc := 1151) (len_s := 1) rfl ?_
  refine w_t (pc := 1152) (e_s := (3, 1, 0, 0, 0, .null, [])) (y_s := (1153, [some (.ref _), some (.ref _), some (.ref _), some (.int _)], [.ref _, .int _, .ref _], _)) rfl (u_ rfl) ?_
  refine w_t (pc := 1153) (e_s := (1, 1, 3, 0, 0, .null, [])) (y_s := (1154, [some (.ref _), some (.ref _), some (.ref _), some (.int _)], [.int _, .ref _, .int _, .ref _], _)) rfl (u_ rfl) ?_
  refine w_t (pc := 1154) (e_s := (0, 1, 0, 0, 0, .int 2, [])) (y_s := (1155, [some (.ref _), some (.ref _), some (.ref _), some (.int _)], [.int _, .int _, .ref _, .int _, .ref _], _)) rfl (u_ rfl) ?_
  refine w_t (pc := 1155) (e_s := (7, 1, 0, 0, 0, .null, [])) (y_s := (1156, [some (.ref _), some (.ref _), some (.ref _), some (.int _)], [.int (_ + _), .ref _, .int _, .ref _], _)) rfl (u_ rfl) ?_
  refine w22x (pc := 1156) (len_s := 1) rfl ?_
  refine w_t (pc := 1157) (e_s := (3, 1, 0, 0, 0, .null, [])) (y_s := (1158, [some (.ref _), some (.ref _), some (.ref _), some (.int _)], [.ref _, .int _, .int _, .ref _], _)) rfl (u_ rfl) ?_
  refine w_t (pc := 1158) (e_s := (1, 1, 3, 0, 0, .null, [])) (y_s := (1159, [some (.ref _), some (.ref _), some (.ref _), some (.int _)], [.int _, .ref _, .int _, .int _, .ref _], _)) rfl (u_ rfl) ?_
  refine w_t (pc := 1159) (e_s := (0, 1, 0, 0, 0, .int 3, [])) (y_s := (1160, [some (.ref _), some (.ref _), some (.ref _), some (.int _)], [.int _, .int _, .ref _, .int _, .int _, .ref _], _)) rfl (u_ rfl) ?_
  refine w_t (pc := 1160) (e_s := (7, 1, 0, 0, 0, .null, [])) (y_s := (1161, [some (.ref _), some (.ref _), some (.ref _), some (.int _)], [.int (_ + _), .ref _, .int _, .int _, .ref _], _)) rfl (u_ rfl) ?_
  refine w22x (pc := 1161) (len_s := 1) rfl ?_
  refine wcI (pc := 1162) (len_s := 3) rfl rfl (l := [some (.ref _), some (.int _), some (.int _), some (.int _)]) rfl (wmI t_s (fun v1_s h1 hk t_s => ?_))
  replace t_s := t_s hk
  refine w_t (pc := 1165) (e_s := (42, 1, 0, 0, 0, .null, [])) (y_s := (1166, [some (.ref _), some (.ref _), some (.ref _), some (.int _)], [], _)) rfl (u_ rfl) ?_
  refine w_t (pc := 1166) (e_s := (3, 1, 2, 0, 0, .null, [])) (y_s := (1167, [some (.ref _), some (.ref _), some (.ref _), some (.int _)], [.ref _], _)) rfl (u_ rfl) ?_
  refine w_t (pc := 1167) (e_s := (3, 1, 0, 0, 0, .null, [])) (y_s := (1168, [some (.ref _), some (.ref _), some (.ref _), some (.int _)], [.ref _, .ref _], _)) rfl (u_ rfl) ?_
  refine w_t (pc := 1168) (e_s := (1, 1, 3, 0, 0, .null, [])) (y_s := (1169, [some (.ref _), some (.ref _), some (.ref _), some (.int _)], [.int _, .ref _, .ref _], _)) rfl (u_ rfl) ?_
  refine w_t (pc := 1169) (e_s := (0, 1, 0, 0, 0, .int 1, [])) (y_s := (1170, [some (.ref _), some (.ref _), some (.ref _), some (.int _)], [.int _, .int _, .ref _, .ref _], _)) rfl (u_ rfl) ?_
  refine w_t (pc := 1170) (e_s := (7, 1, 0, 0, 0, .null, [])) (y_s := (1171, [some (.ref _), some (.ref _), some (.ref _), some (.int _)], [.int (_ + _), .ref _, .ref _], _)) rfl (u_ rfl) ?_
  refine w22x (pc := 1171) (len_s := 1) rfl ?_
  refine w_t (pc := 1172) (e_s := (3, 1, 0, 0, 0, .null, [])) (y_s := (1173, [some (.ref _), some (.ref _), some (.ref _), some (.int _)], [.ref _, .int _, .ref _], _)) rfl (u_ rfl) ?_
  refine w_t (pc := 1173) (e_s := (1, 1, 3, 0, 0, .null, [])) (y_s := (1174, [some (.ref _), some (.ref _), some (.ref _), some (.int _)], [.int _, .ref _, .int _, .ref _], _)) rfl (u_ rfl) ?_
  refine w_t (pc := 1174) (e_s := (0, 1, 0, 0, 0, .int 2, [])) (y_s := (1175, [some (.ref _), some (.ref _), some (.ref _), some (.int _)], [.int _, .int _, .ref _, .int _, .ref _], _)) rfl (u_ rfl) ?_
  refine w_t (pc := 1175) (e_s := (7, 1, 0, 0, 0, .null, [])) (y_s := (1176, [some (.ref _), some (.ref _), some (.ref _), some (.int _)], [.int (_ + _), .ref _, .int _, .ref _], _)) rfl (u_ rfl) ?_
  refine w22x (pc := 1176) (len_s := 1) rfl ?_
  refine w_t (pc := 1177) (e_s := (3, 1, 0, 0, 0, .null, [])) (y_s := (1178, [some (.ref _), some (.ref _), some (.ref _), some (.int _)], [.ref _, .int _, .int _, .ref _], _)) rfl (u_ rfl) ?_
  refine w_t (pc := 1178) (e_s := (1, 1, 3, 0, 0, .null, [])) (y_s := (1179, [some (.ref _), some (.ref _), some (.ref _), some (.int _)], [.int _, .ref _, .int _, .int _, .ref _], _)) rfl (u_ rfl) ?_
  refine w_t (pc := 1179) (e_s := (0, 1, 0, 0, 0, .int 3, [])) (y_s := (1180, [some (.ref _), some (.ref _), some (.ref _), some (.int _)], [.int _, .int _, .ref _, .int _, .int _, .ref _], _)) rfl (u_ rfl) ?_
  refine w_t (pc := 1180) (e_s := (7, 1, 0, 0, 0, .null, [])) (y_s := (1181, [some (.ref _), some (.ref _), some (.ref _), some (.int _)], [.int (_ + _), .ref _, .int _, .int _, .ref _], _)) rfl (u_ rfl) ?_
  refine w22x (pc := 1181) (len_s := 1) rfl ?_
  refine wcI (pc := 1182) (len_s := 3) rfl rfl (l := [some (.ref _), some (.int _), some (.int _), some (.int _), none]) rfl (wmI t_s (fun v2 h2 hk t_s => ?_))
  replace t_s := t_s hk
  refine w_t (pc := 1185) (e_s := (42, 1, 0, 0, 0, .null, [])) (y_s := (1186, [some (.ref _), some (.ref _), some (.ref _), some (.int _)], [], _)) rfl (u_ rfl) ?_
  refine w_t (pc := 1186) (e_s := (17, 3, 1414, 0, 0, .null, [])) (y_s := (1414, [some (.ref _), some (.ref _), some (.ref _), some (.int _)], [], _)) rfl (u_ rfl) ?_
  refine w_t (pc := 1414) (e_s := (19, 3, 3, 0, 0, .int 6, [])) (y_s := (1417, [some (.ref _), some (.ref _), some (.ref _), some (.int _)], [], _)) rfl (u_ rfl) ?_
  refine w_t (pc := 1417) (e_s := (17, 3, 18, 0, 0, .null, [])) (y_s := (18, [some (.ref _), some (.ref _), some (.ref _), some (.int _)], [], _)) rfl (u_ rfl) ?_
  exact t_s
theorem sg_241_1189 {F_s : Nat} {x3 : Int32} {h_s : zH} {K_s : Int32 → zH → Prop} (hk : hKn h_s) (t_s : wF F_s 130 (0, [some (.ref 6), some (.int (h_s.2.1 0 (zix (x3 + 1)))), some (.int (h_s.2.1 0 (zix (x3 + 2)))), some (.long ((((h_s.2.1 0 (zix (x3 + 3))).toInt64) <<< ((32 : Int32).toInt64 &&& 63)) ||| (((h_s.2.1 0 (zix (x3 + 4))).toInt64) &&& 4294967295))), none, none], [], h_s) (gI (fun v1_s h1 => hKn h1 → wF F_s 233 (0, [some (.ref 102), some (.int (h1.2.1 0 (zix (x3 + 1)))), some (.int (h1.2.1 0 (zix (x3 + 2)))), some (.long ((((h1.2.1 0 (zix (x3 + 3))).toInt64) <<< ((32 : Int32).toInt64 &&& 63)) ||| (((h1.2.1 0 (zix (x3 + 4))).toInt64) &&& 4294967295))), none, none], [], h1) (gI (fun v2 h2 => hKn h2 → wF F_s 241 (18, [some (.ref 0), some (.ref 6), some (.ref 102), some (.int (x3 + 6))], [], h2) (gI K_s)))))) : wF (F_s + 1) 241 (1189, [some (.ref 0), some (.ref 6), some (.ref 102), some (.int x3)], [], h_s) (gI K_s) := by
  refine w_0 (pc := 1189) (e_s := (3, 1, 1, 0, 0, .null, [])) (y_s := (1190, [some (.ref _), some (.ref _), some (.ref _), some (.int _)], [.ref _], _)) rfl (u_ rfl) ?_
  refine w_t (pc := 1190) (e_s := (3, 1, 0, 0, 0, .null, [])) (y_s := (1191, [some (.ref _), some (.ref _), some (.ref _), some (.int _)], [.ref _, .ref _], _)) rfl (u_ rfl) ?_
  refine w_t (pc := 1191) (e_s := (1, 1, 3, 0, 0, .null, [])) (y_s := (1192, [some (.ref _), some (.ref _), some (.ref _), some (.int _)], [.int _, .ref _, .ref _], _)) rfl (u_ rfl) ?_
  refine w_t (pc := 1192) (e_s := (0, 1, 0, 0, 0, .int 1, [])) (y_s := (1193, [some (.ref _), some (.ref _), some (.ref _), some (.int _)], [.int _, .int _, .ref _, .ref _], _)) rfl (u_ rfl) ?_
  refine w_t (pc := 1193) (e_s := (7, 1, 0, 0, 0, .null, [])) (y_s := (1194, [some (.ref _), some (.ref _), some (.ref _), some (.int _)], [.int (_ + _), .ref _, .ref _], _)) rfl (u_ rfl) ?_
  refine w22x (pc := 1194) (len_s := 1) rfl ?_
  refine w_t (pc := 1195) (e_s := (3, 1, 0, 0, 0, .null, [])) (y_s := (1196, [some (.ref _), some (.ref _), some (.ref _), some (.int _)], [.ref _, .int _, .ref _], _)) rfl (u_ rfl) ?_
  refine w_t (pc := 1196) (e_s := (1, 1, 3, 0, 0, .null, [])) (y_s := (1197, [some (.ref _), some (.ref _), some (.ref _), some (.int _)], [.int _, .ref _, .int _, .ref _], _)) rfl (u_ rfl) ?_
  refine w_t (pc := 1197) (e_s := (0, 1, 0, 0, 0, .int 2, [])) (y_s := (1198, [some (.ref _), some (.ref _), some (.ref _), some (.int _)], [.int _, .int _, .ref _, .int _, .ref _], _)) rfl (u_ rfl) ?_
  refine w_t (pc := 1198) (e_s := (7, 1, 0, 0, 0, .null, [])) (y_s := (1199, [some (.ref _), some (.ref _), some (.ref _), some (.int _)], [.int (_ + _), .ref _, .int _, .ref _], _)) rfl (u_ rfl) ?_
  refine w22x (pc := 1199) (len_s := 1) rfl ?_
  refine w_t (pc := 1200) (e_s := (3, 1, 0, 0, 0, .null, [])) (y_s := (1201, [some (.ref _), some (.ref _), some (.ref _), some (.int _)], [.ref _, .int _, .int _, .ref _], _)) rfl (u_ rfl) ?_
  refine w_t (pc := 1201) (e_s := (1, 1, 3, 0, 0, .null, [])) (y_s := (1202, [some (.ref _), some (.ref _), some (.ref _), some (.int _)], [.int _, .ref _, .int _, .int _, .ref _], _)) rfl (u_ rfl) ?_
  refine w_t (pc := 1202) (e_s := (0, 1, 0, 0, 0, .int 3, [])) (y_s := (1203, [some (.ref _), some (.ref _), some (.ref _), some (.int _)], [.int _, .int _, .ref _, .int _, .int _, .ref _], _)) rfl (u_ rfl) ?_
  refine w_t (pc := 1203) (e_s := (7, 1, 0, 0, 0, .null, [])) (y_s := (1204, [some (.ref _), some (.ref _), some (.ref _), some (.int _)], [.int (_ + _), .ref _, .int _, .int _, .ref _], _)) rfl (u_ rfl) ?_
  refine w22x (pc := 1204) (len_s := 1) rfl ?_
  refine w_t (pc := 1205) (e_s := (10, 1, 0, 0, 0, .null, [])) (y_s := (1206, [some (.ref _), some (.ref _), some (.ref _), some (.int _)], [.long (Int32.toInt64 _), .int _, .int _, .ref _], _)) rfl (u_ rfl) ?_
  refine w_t (pc := 1206) (e_s := (0, 2, 0, 0, 0, .int 32, [])) (y_s := (1208, [some (.ref _), some (.ref _), some (.ref _), some (.int _)], [.int _, .long _, .int _, .int _, .ref _], _)) rfl (u_ rfl) ?_
  refine w_t (pc := 1208) (e_s := (13, 1, 0, 0, 0, .null, [])) (y_s := (1209, [some (.ref _), some (.ref _), some (.ref _), some (.int _)], [.long ((_ : Int64) <<< ((_ : Int64) &&& 63)), .int _, .int _, .ref _], _)) rfl (u_ rfl) ?_
  refine w_t (pc := 1209) (e_s := (3, 1, 0, 0, 0, .null, [])) (y_s := (1210, [some (.ref _), some (.ref _), some (.ref _), some (.int _)], [.ref _, .long _, .int _, .int _, .ref _], _)) rfl (u_ rfl) ?_
  refine w_t (pc := 1210) (e_s := (1, 1, 3, 0, 0, .null, [])) (y_s := (1211, [some (.ref _), some (.ref _), some (.ref _), some (.int _)], [.int _, .ref _, .long _, .int _, .int _, .ref _], _)) rfl (u_ rfl) ?_
  refine w_t (pc := 1211) (e_s := (0, 1, 0, 0, 0, .int 4, [])) (y_s := (1212, [some (.ref _), some (.ref _), some (.ref _), some (.int _)], [.int _, .int _, .ref _, .long _, .int _, .int _, .ref _], _)) rfl (u_ rfl) ?_
  refine w_t (pc := 1212) (e_s := (7, 1, 0, 0, 0, .null, [])) (y_s := (1213, [some (.ref _), some (.ref _), some (.ref _), some (.int _)], [.int (_ + _), .ref _, .long _, .int _, .int _, .ref _], _)) rfl (u_ rfl) ?_
  refine w22x (pc := 1213) (len_s := 1) rfl ?_
  refine w_t (pc := 1214) (e_s := (10, 1, 0, 0, 0, .null, [])) (y_s := (1215, [some (.ref _), some (.ref _), some (.ref _), some (.int _)], [.long (Int32.toInt64 _), .long _, .int _, .int _, .ref _], _)) rfl (u_ rfl) ?_
  refine w_t (pc := 1215) (e_s := (0, 3, 0, 0, 0, .long 4294967295, [(0, 1225)])) (y_s := (1218, [some (.ref _), some (.ref _), some (.ref _), some (.int _)], [.long _, .long _, .long _, .int _, .int _, .ref _], _)) rfl (u_ rfl) ?_
  refine w_t (pc := 1218) (e_s := (12, 1, 0, 0, 0, .null, [])) (y_s := (1219, [some (.ref _), some (.ref _), some (.ref _), some (.int _)], [.long ((_ : Int64) &&& (_ : Int64)), .long _, .int _, .int _, .ref _], _)) rfl (u_ rfl) ?_
  refine w_t (pc := 1219) (e_s := (12, 1, 0, 1, 0, .null, [])) (y_s := (1220, [some (.ref _), some (.ref _), some (.ref _), some (.int _)], [.long ((_ : Int64) ||| (_ : Int64)), .int _, .int _, .ref _], _)) rfl (u_ rfl) ?_
  refine wcI (pc := 1220) (len_s := 3) rfl rfl (l := [some (.ref _), some (.int _), some (.int _), some (.long _), none, none]) rfl (wmI t_s (fun v1_s h1 hk t_s => ?_))
  replace t_s := t_s hk
  refine w_t (pc := 1223) (e_s := (42, 1, 0, 0, 0, .null, [])) (y_s := (1224, [some (.ref _), some (.ref _), some (.ref _), some (.int _)], [], _)) rfl (u_ rfl) ?_
  refine w_t (pc := 1224) (e_s := (3, 1, 2, 0, 0, .null, [])) (y_s := (1225, [some (.ref _), some (.ref _), some (.ref _), some (.int _)], [.ref _], _)) rfl (u_ rfl) ?_
  refine w_t (pc := 1225) (e_s := (3, 1, 0, 0, 0, .null, [])) (y_s := (1226, [some (.ref _), some (.ref _), some (.ref _), some (.int _)], [.ref _, .ref _], _)) rfl (u_ rfl) ?_
  refine w_t (pc := 1226) (e_s := (1, 1, 3, 0, 0, .null, [])) (y_s := (1227, [some (.ref _), some (.ref _), some (.ref _), some (.int _)], [.int _, .ref _, .ref _], _)) rfl (u_ rfl) ?_
  refine w_t (pc := 1227) (e_s := (0, 1, 0, 0, 0, .int 1, [])) (y_s := (1228, [some (.ref _), some (.ref _), some (.ref _), some (.int _)], [.int _, .int _, .ref _, .ref _], _)) rfl (u_ rfl) ?_
  refine w_t (pc := 1228) (e_s := (7, 1, 0, 0, 0, .null, [])) (y_s := (1229, [some (.ref _), some (.ref _), some (.ref _), some (.int _)], [.int (_ + _), .ref _, .ref _], _)) rfl (u_ rfl) ?_
  refine w22x (pc := 1229) (len_s := 1) rfl ?_
  refine w_t (pc := 1230) (e_s := (3, 1, 0, 0, 0, .null, [])) (y_s := (1231, [some (.ref _), some (.ref _), some (.ref _), some (.int _)], [.ref _, .int _, .ref _], _)) rfl (u_ rfl) ?_
  refine w_t (pc := 1231) (e_s := (1, 1, 3, 0, 0, .null, [])) (y_s := (1232, [some (.ref _), some (.ref _), some (.ref _), some (.int _)], [.int _, .ref _, .int _, .ref _], _)) rfl (u_ rfl) ?_
  refine w_t (pc := 1232) (e_s := (0, 1, 0, 0, 0, .int 2, [])) (y_s := (1233, [some (.ref _), some (.ref _), some (.ref _), some (.int _)], [.int _, .int _, .ref _, .int _, .ref _], _)) rfl (u_ rfl) ?_
  refine w_t (pc := 1233) (e_s := (7, 1, 0, 0, 0, .null, [])) (y_s := (1234, [some (.ref _), some (.ref _), some (.ref _), some (.int _)], [.int (_ + _), .ref _, .int _, .ref _], _)) rfl (u_ rfl) ?_
  refine w22x (pc := 1234) (len_s := 1) rfl ?_
  refine w_t (pc := 1235) (e_s := (3, 1, 0, 0, 0, .null, [])) (y_s := (1236, [some (.ref _), some (.ref _), some (.ref _), some (.int _)], [.ref _, .int _, .int _, .ref _], _)) rfl (u_ rfl) ?_
  refine w_t (pc := 1236) (e_s := (1, 1, 3, 0, 0, .null, [])) (y_s := (1237, [some (.ref _), some (.ref _), some (.ref _), some (.int _)], [.int _, .ref _, .int _, .int _, .ref _], _)) rfl (u_ rfl) ?_
  refine w_t (pc := 1237) (e_s := (0, 1, 0, 0, 0, .int 3, [])) (y_s := (1238, [some (.ref _), some (.ref _), some (.ref _), some (.int _)], [.int _, .int _, .ref _, .int _, .int _, .ref _], _)) rfl (u_ rfl) ?_
  refine w_t (pc := 1238) (e_s := (7, 1, 0, 0, 0, .null, [])) (y_s := (1239, [some (.ref _), some (.ref _), some (.ref _), some (.int _)], [.int (_ + _), .ref _, .int _, .int _, .ref _], _)) rfl (u_ rfl) ?_
  refine w22x (pc := 1239) (len_s := 1) rfl ?_
  refine w_t (pc := 1240) (e_s := (10, 1, 0, 0, 0, .null, [])) (y_s := (1241, [some (.ref _), some (.ref _), some (.ref _), some (.int _)], [.long (Int32.toInt64 _), .int _, .int _, .ref _], _)) rfl (u_ rfl) ?_
  refine w_t (pc := 1241) (e_s := (0, 2, 0, 0, 0, .int 32, [])) (y_s := (1243, [some (.ref _), some (.ref _), some (.ref _), some (.int _)], [.int _, .long _, .int _, .int _, .ref _], _)) rfl (u_ rfl) ?_
  refine w_t (pc := 1243) (e_s := (13, 1, 0, 0, 0, .null, [])) (y_s := (1244, [some (.ref _), some (.ref _), some (.ref _), some (.int _)], [.long ((_ : Int64) <<< ((_ : Int64) &&& 63)), .int _, .int _, .ref _], _)) rfl (u_ rfl) ?_
  refine w_t (pc := 1244) (e_s := (3, 1, 0, 0, 0, .null, [])) (y_s := (1245, [some (.ref _), some (.ref _), some (.ref _), some (.int _)], [.ref _, .long _, .int _, .int _, .ref _], _)) rfl (u_ rfl) ?_
  refine w_t (pc := 1245) (e_s := (1, 1, 3, 0, 0, .null, [])) (y_s := (1246, [some (.ref _), some (.ref _), some (.ref _), some (.int _)], [.int _, .ref _, .long _, .int _, .int _, .ref _], _)) rfl (u_ rfl) ?_
  refine w_t (pc := 1246) (e_s := (0, 1, 0, 0, 0, .int 4, [])) (y_s := (1247, [some (.ref _), some (.ref _), some (.ref _), some (.int _)], [.int _, .int _, .ref _, .long _, .int _, .int _, .ref _], _)) rfl (u_ rfl) ?_
  refine w_t (pc := 1247) (e_s := (7, 1, 0, 0, 0, .null, [])) (y_s := (1248, [some (.ref _), some (.ref _), some (.ref _), some (.int _)], [.int (_ + _), .ref _, .long _, .int _, .int _, .ref _], _)) rfl (u_ rfl) ?_
  refine w22x (pc := 1248) (len_s := 1) rfl ?_
  refine w_t (pc := 1249) (e_s := (10, 1, 0, 0, 0, .null, [])) (y_s := (1250, [some (.ref _), some (.ref _), some (.ref _), some (.int _)], [.long (Int32.toInt64 _), .long _, .int _, .int _, .ref _], _)) rfl (u_ rfl) ?_
  refine w_t (pc := 1250) (e_s := (0, 3, 0, 0, 0, .long 4294967295, [(0, 1225)])) (y_s := (1253, [some (.ref _), some (.ref _), some (.ref _), some (.int _)], [.long _, .long _, .long _, .int _, .int _, .ref _], _)) rfl (u_ rfl) ?_
  refine w_t (pc := 1253) (e_s := (12, 1, 0, 0, 0, .null, [])) (y_s := (1254, [some (.ref _), some (.ref _), some (.ref _), some (.int _)], [.long ((_ : Int64) &&& (_ : Int64)), .long _, .int _, .int _, .ref _], _)) rfl (u_ rfl) ?_
  refine w_t (pc := 1254) (e_s := (12, 1, 0, 1, 0, .null, [])) (y_s := (1255, [some (.ref _), some (.ref _), some (.ref _), some (.int _)], [.long ((_ : Int64) ||| (_ : Int64)), .int _, .int _, .ref _], _)) rfl (u_ rfl) ?_
  refine wcI (pc := 1255) (len_s := 3) rfl rfl (l := [some (.ref _), some (.int _), some (.int _), some (.long _), none, none]) rfl (wmI t_s (fun v2 h2 hk t_s => ?_))
  replace t_s := t_s hk
  refine w_t (pc := 1258) (e_s := (42, 1, 0, 0, 0, .null, [])) (y_s := (1259, [some (.ref _), some (.ref _), some (.ref _), some (.int _)], [], _)) rfl (u_ rfl) ?_
  refine w_t (pc := 1259) (e_s := (17, 3, 1414, 0, 0, .null, [])) (y_s := (1414, [some (.ref _), some (.ref _), some (.ref _), some (.int _)], [], _)) rfl (u_ rfl) ?_
  refine w_t (pc := 1414) (e_s := (19, 3, 3, 0, 0, .int 6, [])) (y_s := (1417, [some (.ref _), some (.ref _), some (.ref _), some (.int _)], [], _)) rfl (u_ rfl) ?_
  refine w_t (pc := 1417) (e_s := (17, 3, 18, 0, 0, .null, [])) (y_s := (18, [some (.ref _), some (.ref _), some (.ref _), some (.int _)], [], _)) rfl (u_ rfl) ?_
  exact t_s
theorem sg_241_1262 {F_s : Nat} {x3 : Int32} {h_s : zH} {K_s : Int32 → zH → Prop} (hk : hKn h_s) (t_s : wF F_s 131 (0, [some (.ref 6), some (.int (h_s.2.1 0 (zix (x3 + 1)))), some (.int (h_s.2.1 0 (zix (x3 + 2))))], [], h_s) (gJ (fun v1_s h1 => hKn h1 → wF F_s 234 (0, [some (.ref 102), some (.int (h1.2.1 0 (zix (x3 + 1)))), some (.int (h1.2.1 0 (zix (x3 + 2))))], [], h1) (gJ (fun v2 h2 => hKn h2 → wF F_s 241 (18, [some (.ref 0), some (.ref 6), some (.ref 102), some (.int (x3 + 6))], [], h2) (gI K_s)))))) : wF (F_s + 1) 241 (1262, [some (.ref 0), some (.ref 6), some (.ref 102), some (.int x3)], [], h_s) (gI K_s) := by
  refine w_0 (pc := 1262) (e_s := (3, 1, 1, 0, 0, .null, [])) (y_s := (1263, [some (.ref _), some (.ref _), some (.ref _), some (.int _)], [.ref _], _)) rfl (u_ rfl) ?_
  refine w_t (pc := 1263) (e_s := (3, 1, 0, 0, 0, .null, [])) (y_s := (1264, [some (.ref _), some (.ref _), some (.ref _), some (.int _)], [.ref _, .ref _], _)) rfl (u_ rfl) ?_
  refine w_t (pc := 1264) (e_s := (1, 1, 3, 0, 0, .null, [])) (y_s := (1265, [some (.ref _), some (.ref _), some (.ref _), some (.int _)], [.int _, .ref _, .ref _], _)) rfl (u_ rfl) ?_
  refine w_t (pc := 1265) (e_s := (0, 1, 0, 0, 0, .int 1, [])) (y_s := (1266, [some (.ref _), some (.ref _), some (.ref _), some (.int _)], [.int _, .int _, .ref _, .ref _], _)) rfl (u_ rfl) ?_
  refine w_t (pc := 1266) (e_s := (7, 1, 0, 0, 0, .null, [])) (y_s := (1267, [some (.ref _), some (.ref _), some (.ref _), some (.int _)], [.int (_ + _), .ref _, .ref _], _)) rfl (u_ rfl) ?_
  refine w22x (pc := 1267) (len_s := 1) rfl ?_
  refine w_t (pc := 1268) (e_s := (3, 1, 0, 0, 0, .null, [])) (y_s := (1269, [some (.ref _), some (.ref _), some (.ref _), some (.int _)], [.ref _, .int _, .ref _], _)) rfl (u_ rfl) ?_
  refine w_t (pc := 1269) (e_s := (1, 1, 3, 0, 0, .null, [])) (y_s := (1270, [some (.ref _), some (.ref _), some (.ref _), some (.int _)], [.int _, .ref _, .int _, .ref _], _)) rfl (u_ rfl) ?_
  refine w_t (pc := 1270) (e_s := (0, 1, 0, 0, 0, .int 2, [])) (y_s := (1271, [some (.ref _), some (.ref _), some (.ref _), some (.int _)], [.int _, .int _, .ref _, .int _, .ref _], _)) rfl (u_ rfl) ?_
  refine w_t (pc := 1271) (e_s := (7, 1, 0, 0, 0, .null, [])) (y_s := (1272, [some (.ref _), some (.ref _), some (.ref _), some (.int _)], [.int (_ + _), .ref _, .int _, .ref _], _)) rfl (u_ rfl) ?_
  refine w22x (pc := 1272) (len_s := 1) rfl ?_
  refine wcJ (pc := 1273) (len_s := 3) rfl rfl (l := [some (.ref _), some (.int _), some (.int _)]) rfl (wmJ t_s (fun v1_s h1 hk t_s => ?_))
  replace t_s := t_s hk
  refine w_t (pc := 1276) (e_s := (44, 1, 0, 0, 0, .null, [])) (y_s := (1277, [some (.ref _), some (.ref _), some (.ref _), some (.int _)], [], _)) rfl (u_ rfl) ?_
  refine w_t (pc := 1277) (e_s := (3, 1, 2, 0, 0, .null, [])) (y_s := (1278, [some (.ref _), some (.ref _), some (.ref _), some (.int _)], [.ref _], _)) rfl (u_ rfl) ?_
  refine w_t (pc := 1278) (e_s := (3, 1, 0, 0, 0, .null, [])) (y_s := (1279, [some (.ref _), some (.ref _), some (.ref _), some (.int _)], [.ref _, .ref _], _)) rfl (u_ rfl) ?_
  refine w_t (pc := 1279) (e_s := (1, 1, 3, 0, 0, .null, [])) (y_s := (1280, [some (.ref _), some (.ref _), some (.ref _), some (.int _)], [.int _, .ref _, .ref _], _)) rfl (u_ rfl) ?_
  refine w_t (pc := 1280) (e_s := (0, 1, 0, 0, 0, .int 1, [])) (y_s := (1281, [some (.ref _), some (.ref _), some (.ref _), some (.int _)], [.int _, .int _, .ref _, .ref _], _)) rfl (u_ rfl) ?_
  refine w_t (pc := 1281) (e_s := (7, 1, 0, 0, 0, .null, [])) (y_s := (1282, [some (.ref _), some (.ref _), some (.ref _), some (.int _)], [.int (_ + _), .ref _, .ref _], _)) rfl (u_ rfl) ?_
  refine w22x (pc := 1282) (len_s := 1) rfl ?_
  refine w_t (pc := 1283) (e_s := (3, 1, 0, 0, 0, .null, [])) (y_s := (1284, [some (.ref _), some (.ref _), some (.ref _), some (.int _)], [.ref _, .int _, .ref _], _)) rfl (u_ rfl) ?_
  refine w_t (pc := 1284) (e_s := (1, 1, 3, 0, 0, .null, [])) (y_s := (1285, [some (.ref _), some (.ref _), some (.ref _), some (.int _)], [.int _, .ref _, .int _, .ref _], _)) rfl (u_ rfl) ?_
  refine w_t (pc := 1285) (e_s := (0, 1, 0, 0, 0, .int 2, [])) (y_s := (1286, [some (.ref _), some (.ref _), some (.ref _), some (.int _)], [.int _, .int _, .ref _, .int _, .ref _], _)) rfl (u_ rfl) ?_
  refine w_t (pc := 1286) (e_s := (7, 1, 0, 0, 0, .null, [])) (y_s := (1287, [some (.ref _), some (.ref _), some (.ref _), some (.int _)], [.int (_ + _), .ref _, .int _, .ref _], _)) rfl (u_ rfl) ?_
  refine w22x (pc := 1287) (len_s := 1) rfl ?_
  refine wcJ (pc := 1288) (len_s := 3) rfl rfl (l := [some (.ref _), some (.int _), some (.int _)]) rfl (wmJ t_s (fun v2 h2 hk t_s => ?_))
  replace t_s := t_s hk
  refine w_t (pc := 1291) (e_s := (44, 1, 0, 0, 0, .null, [])) (y_s := (1292, [some (.ref _), some (.ref _), some (.ref _), some (.int _)], [], _)) rfl (u_ rfl) ?_
  refine w_t (pc := 1292) (e_s := (17, 3, 1414, 0, 0, .null, [])) (y_s := (1414, [some (.ref _), some (.ref _), some (.ref _), some (.int _)], [], _)) rfl (u_ rfl) ?_
  refine w_t (pc := 1414) (e_s := (19, 3, 3, 0, 0, .int 6, [])) (y_s := (1417, [some (.ref _), some (.ref _), some (.ref _), some (.int _)], [], _)) rfl (u_ rfl) ?_
  refine w_t (pc := 1417) (e_s := (17, 3, 18, 0, 0, .null, [])) (y_s := (18, [some (.ref _), some (.ref _), some (.ref _), some (.int _)], [], _)) rfl (u_ rfl) ?_
  exact t_s
theorem sg_241_1295 {F_s : Nat} {x3 : Int32} {h_s : zH} {K_s : Int32 → zH → Prop} (hk : hKn h_s) (t_s : wF F_s 132 (0, [some (.ref 6), some (.int (h_s.2.1 0 (zix (x3 + 1)))), some (.int (h_s.2.1 0 (zix (x3 + 2)))), some (.int (h_s.2.1 0 (zix (x3 + 3)))), some (.int (h_s.2.1 0 (zix (x3 + 4)))), some (.int (h_s.2.1 0 (zix (x3 + 5)))), none, none], [], h_s) (gI (fun v1_s h1 => hKn h1 → wF F_s 235 (0, [some (.ref 102), some (.int (h1.2.1 0 (zix (x3 + 1)))), some (.int (h1.2.1 0 (zix (x3 + 2)))), some (.int (h1.2.1 0 (zix (x3 + 3)))), some (.int (h1.2.1 0 (zix (x3 + 4)))), some (.int (h1.2.1 0 (zix (x3 + 5)))), none], [], h1) (gI (fun v2 h2 => hKn h2 → wF F_s 241 (18, [some (.ref 0), some (.ref 6), some (.ref 102), some (.int (x3 + 6))], [], h2) (gI K_s)))))) : wF (F_s + 1) 241 (1295, [some (.ref 0), some (.ref 6), some (.ref 102), some (.int x3)], [], h_s) (gI K_s) := by
  refine w_0 (pc := 1295) (e_s := (3, 1, 1, 0, 0, .null, [])) (y_s := (1296, [some (.ref _), some (.ref _), some (.ref _), some (.int _)], [.ref _], _)) rfl (u_ rfl) ?_
  refine w_t (pc := 1296) (e_s := (3, 1, 0, 0, 0, .null, [])) (y_s := (1297, [some (.ref _), some (.ref _), some (.ref _), some (.int _)], [.ref _, .ref _], _)) rfl (u_ rfl) ?_
  refine w_t (pc := 1297) (e_s := (1, 1, 3, 0, 0, .null, [])) (y_s := (1298, [some (.ref _), some (.ref _), some (.ref _), some (.int _)], [.int _, .ref _, .ref _], _)) rfl (u_ rfl) ?_
  refine w_t (pc := 1298) (e_s := (0, 1, 0, 0, 0, .int 1, [])) (y_s := (1299, [some (.ref _), some (.ref _), some (.ref _), some (.int _)], [.int _, .int _, .ref _, .ref _], _)) rfl (u_ rfl) ?_
  refine w_t (pc := 1299) (e_s := (7, 1, 0, 0, 0, .null, [])) (y_s := (1300, [some (.ref _), some (.ref _), some (.ref _), some (.int _)], [.int (_ + _), .ref _, .ref _], _)) rfl (u_ rfl) ?_
  refine w22x (pc := 1300) (len_s := 1) rfl ?_
  refine w_t (pc := 1301) (e_s := (3, 1, 0, 0, 0, .null, [])) (y_s := (1302, [some (.ref _), some (.ref _), some (.ref _), some (.int _)], [.ref _, .int _, .ref _], _)) rfl (u_ rfl) ?_
  refine w_t (pc := 1302) (e_s := (1, 1, 3, 0, 0, .null, [])) (y_s := (1303, [some (.ref _), some (.ref _), some (.ref _), some (.int _)], [.int _, .ref _, .int _, .ref _], _)) rfl (u_ rfl) ?_
  refine w_t (pc := 1303) (e_s := (0, 1, 0, 0, 0, .int 2, [])) (y_s := (1304, [some (.ref _), some (.ref _), some (.ref _), some (.int _)], [.int _, .int _, .ref _, .int _, .ref _], _)) rfl (u_ rfl) ?_
  refine w_t (pc := 1304) (e_s := (7, 1, 0, 0, 0, .null, [])) (y_s := (1305, [some (.ref _), some (.ref _), some (.ref _), some (.int _)], [.int (_ + _), .ref _, .int _, .ref _], _)) rfl (u_ rfl) ?_
  refine w22x (pc := 1305) (len_s := 1) rfl ?_
  refine w_t (pc := 1306) (e_s := (3, 1, 0, 0, 0, .null, [])) (y_s := (1307, [some (.ref _), some (.ref _), some (.ref _), some (.int _)], [.ref _, .int _, .int _, .ref _], _)) rfl (u_ rfl) ?_
  refine w_t (pc := 1307) (e_s := (1, 1, 3, 0, 0, .null, [])) (y_s := (1308, [some (.ref _), some (.ref _), some (.ref _), some (.int _)], [.int _, .ref _, .int _, .int _, .ref _], _)) rfl (u_ rfl) ?_
  refine w_t (pc := 1308) (e_s := (0, 1, 0, 0, 0, .int 3, [])) (y_s := (1309, [some (.ref _), some (.ref _), some (.ref _), some (.int _)], [.int _, .int _, .ref _, .int _, .int _, .ref _], _)) rfl (u_ rfl) ?_
  refine w_t (pc := 1309) (e_s := (7, 1, 0, 0, 0, .null, [])) (y_s := (1310, [some (.ref _), some (.ref _), some (.ref _), some (.int _)], [.int (_ + _), .ref _, .int _, .int _, .ref _], _)) rfl (u_ rfl) ?_
  refine w22x (pc := 1310) (len_s := 1) rfl ?_
  refine w_t (pc := 1311) (e_s := (3, 1, 0, 0, 0, .null, [])) (y_s := (1312, [some (.ref _), some (.ref _), some (.ref _), some (.int _)], [.ref _, .int _, .int _, .int _, .ref _], _)) rfl (u_ rfl) ?_
  refine w_t (pc := 1312) (e_s := (1, 1, 3, 0, 0, .null, [])) (y_s := (1313, [some (.ref _), some (.ref _), some (.ref _), some (.int _)], [.int _, .ref _, .int _, .int _, .int _, .ref _], _)) rfl (u_ rfl) ?_
  refine w_t (pc := 1313) (e_s := (0, 1, 0, 0, 0, .int 4, [])) (y_s := (1314, [some (.ref _), some (.ref _), some (.ref _), some (.int _)], [.int _, .int _, .ref _, .int _, .int _, .int _, .ref _], _)) rfl (u_ rfl) ?_
  refine w_t (pc := 1314) (e_s := (7, 1, 0, 0, 0, .null, [])) (y_s := (1315, [some (.ref _), some (.ref _), some (.ref _), some (.int _)], [.int (_ + _), .ref _, .int _, .int _, .int _, .ref _], _)) rfl (u_ rfl) ?_
  refine w22x (pc := 1315) (len_s := 1) rfl ?_
  refine w_t (pc := 1316) (e_s := (3, 1, 0, 0, 0, .null, [])) (y_s := (1317, [some (.ref _), some (.ref _), some (.ref _), some (.int _)], [.ref _, .int _, .int _, .int _, .int _, .ref _], _)) rfl (u_ rfl) ?_
  refine w_t (pc := 1317) (e_s := (1, 1, 3, 0, 0, .null, [])) (y_s := (1318, [some (.ref _), some (.ref _), some (.ref _), some (.int _)], [.int _, .ref _, .int _, .int _, .int _, .int _, .ref _], _)) rfl (u_ rfl) ?_
  refine w_t (pc := 1318) (e_s := (0, 1, 0, 0, 0, .int 5, [])) (y_s := (1319, [some (.ref _), some (.ref _), some (.ref _), some (.int _)], [.int _, .int _, .ref _, .int _, .int _, .int _, .int _, .ref _], _)) rfl (u_ rfl) ?_
  refine w_t (pc := 1319) (e_s := (7, 1, 0, 0, 0, .null, [])) (y_s := (1320, [some (.ref _), some (.ref _), some (.ref _), some (.int _)], [.int (_ + _), .ref _, .int _, .int _, .int _, .int _, .ref _], _)) rfl (u_ rfl) ?_
  refine w22x (pc := 1320) (len_s := 1) rfl ?_
  refine wcI (pc := 1321) (len_s := 3) rfl rfl (l := [some (.ref _), some (.int _), some (.int _), some (.int _), some (.int _), some (.int _), none, none]) rfl (wmI t_s (fun v1_s h1 hk t_s => ?_))
  replace t_s := t_s hk
  refine w_t (pc := 1324) (e_s := (42, 1, 0, 0, 0, .null, [])) (y_s := (1325, [some (.ref _), some (.ref _), some (.ref _), some (.int _)], [], _)) rfl (u_ rfl) ?_
  refine w_t (pc := 1325) (e_s := (3, 1, 2, 0, 0, .null, [])) (y_s := (1326, [some (.ref _), some (.ref _), some (.ref _), some (.int _)], [.ref _], _)) rfl (u_ rfl) ?_
  refine w_t (pc := 1326) (e_s := (3, 1, 0, 0, 0, .null, [])) (y_s := (1327, [some (.ref _), some (.ref _), some (.ref _), some (.int _)], [.ref _, .ref _], _)) rfl (u_ rfl) ?_
  refine w_t (pc := 1327) (e_s := (1, 1, 3, 0, 0, .null, [])) (y_s := (1328, [some (.ref _), some (.ref _), some (.ref _), some (.int _)], [.int _, .ref _, .ref _], _)) rfl (u_ rfl) ?_
  refine w_t (pc := 1328) (e_s := (0, 1, 0, 0, 0, .int 1, [])) (y_s := (1329, [some (.ref _), some (.ref _), some (.ref _), some (.int _)], [.int _, .int _, .ref _, .ref _], _)) rfl (u_ rfl) ?_
  refine w_t (pc := 1329) (e_s := (7, 1, 0, 0, 0, .null, [])) (y_s := (1330, [some (.ref _), some (.ref _), some (.ref _), some (.int _)], [.int (_ + _), .ref _, .ref _], _)) rfl (u_ rfl) ?_
  refine w22x (pc := 1330) (len_s := 1) rfl ?_
  refine w_t (pc := 1331) (e_s := (3, 1, 0, 0, 0, .null, [])) (y_s := (1332, [some (.ref _), some (.ref _), some (.ref _), some (.int _)], [.ref _, .int _, .ref _], _)) rfl (u_ rfl) ?_
  refine w_t (pc := 1332) (e_s := (1, 1, 3, 0, 0, .null, [])) (y_s := (1333, [some (.ref _), some (.ref _), some (.ref _), some (.int _)], [.int _, .ref _, .int _, .ref _], _)) rfl (u_ rfl) ?_
  refine w_t (pc := 1333) (e_s := (0, 1, 0, 0, 0, .int 2, [])) (y_s := (1334, [some (.ref _), some (.ref _), some (.ref _), some (.int _)], [.int _, .int _, .ref _, .int _, .ref _], _)) rfl (u_ rfl) ?_
  refine w_t (pc := 1334) (e_s := (7, 1, 0, 0, 0, .null, [])) (y_s := (1335, [some (.ref _), some (.ref _), some (.ref _), some (.int _)], [.int (_ + _), .ref _, .int _, .ref _], _)) rfl (u_ rfl) ?_
  refine w22x (pc := 1335) (len_s := 1) rfl ?_
  refine w_t (pc := 1336) (e_s := (3, 1, 0, 0, 0, .null, [])) (y_s := (1337, [some (.ref _), some (.ref _), some (.ref _), some (.int _)], [.ref _, .int _, .int _, .ref _], _)) rfl (u_ rfl) ?_
  refine w_t (pc := 1337) (e_s := (1, 1, 3, 0, 0, .null, [])) (y_s := (1338, [some (.ref _), some (.ref _), some (.ref _), some (.int _)], [.int _, .ref _, .int _, .int _, .ref _], _)) rfl (u_ rfl) ?_
  refine w_t (pc := 1338) (e_s := (0, 1, 0, 0, 0, .int 3, [])) (y_s := (1339, [some (.ref _), some (.ref _), some (.ref _), some (.int _)], [.int _, .int _, .ref _, .int _, .int _, .ref _], _)) rfl (u_ rfl) ?_
  refine w_t (pc := 1339) (e_s := (7, 1, 0, 0, 0, .null, [])) (y_s := (1340, [some (.ref _), some (.ref _), some (.ref _), some (.int _)], [.int (_ + _), .ref _, .int _, .int _, .ref _], _)) rfl (u_ rfl) ?_
  refine w22x (pc := 1340) (len_s := 1) rfl ?_
  refine w_t (pc := 1341) (e_s := (3, 1, 0, 0, 0, .null, [])) (y_s := (1342, [some (.ref _), some (.ref _), some (.ref _), some (.int _)], [.ref _, .int _, .int _, .int _, .ref _], _)) rfl (u_ rfl) ?_
  refine w_t (pc := 1342) (e_s := (1, 1, 3, 0, 0, .null, [])) (y_s := (1343, [some (.ref _), some (.ref _), some (.ref _), some (.int _)], [.int _, .ref _, .int _, .int _, .int _, .ref _], _)) rfl (u_ rfl) ?_
  refine w_t (pc := 1343) (e_s := (0, 1, 0, 0, 0, .int 4, [])) (y_s := (1344, [some (.ref _), some (.ref _), some (.ref _), some (.int _)], [.int _, .int _, .ref _, .int _, .int _, .int _, .ref _], _)) rfl (u_ rfl) ?_
  refine w_t (pc := 1344) (e_s := (7, 1, 0, 0, 0, .null, [])) (y_s := (1345, [some (.ref _), some (.ref _), some (.ref _), some (.int _)], [.int (_ + _), .ref _, .int _, .int _, .int _, .ref _], _)) rfl (u_ rfl) ?_
  refine w22x (pc := 1345) (len_s := 1) rfl ?_
  refine w_t (pc := 1346) (e_s := (3, 1, 0, 0, 0, .null, [])) (y_s := (1347, [some (.ref _), some (.ref _), some (.ref _), some (.int _)], [.ref _, .int _, .int _, .int _, .int _, .ref _], _)) rfl (u_ rfl) ?_
  refine w_t (pc := 1347) (e_s := (1, 1, 3, 0, 0, .null, [])) (y_s := (1348, [some (.ref _), some (.ref _), some (.ref _), some (.int _)], [.int _, .ref _, .int _, .int _, .int _, .int _, .ref _], _)) rfl (u_ rfl) ?_
  refine w_t (pc := 1348) (e_s := (0, 1, 0, 0, 0, .int 5, [])) (y_s := (1349, [some (.ref _), some (.ref _), some (.ref _), some (.int _)], [.int _, .int _, .ref _, .int _, .int _, .int _, .int _, .ref _], _)) rfl (u_ rfl) ?_
  refine w_t (pc := 1349) (e_s := (7, 1, 0, 0, 0, .null, [])) (y_s := (1350, [some (.ref _), some (.ref _), some (.ref _), some (.int _)], [.int (_ + _), .ref _, .int _, .int _, .int _, .int _, .ref _], _)) rfl (u_ rfl) ?_
  refine w22x (pc := 1350) (len_s := 1) rfl ?_
  refine wcI (pc := 1351) (len_s := 3) rfl rfl (l := [some (.ref _), some (.int _), some (.int _), some (.int _), some (.int _), some (.int _), none]) rfl (wmI t_s (fun v2 h2 hk t_s => ?_))
  replace t_s := t_s hk
  refine w_t (pc := 1354) (e_s := (42, 1, 0, 0, 0, .null, [])) (y_s := (1355, [some (.ref _), some (.ref _), some (.ref _), some (.int _)], [], _)) rfl (u_ rfl) ?_
  refine w_t (pc := 1355) (e_s := (17, 3, 1414, 0, 0, .null, [])) (y_s := (1414, [some (.ref _), some (.ref _), some (.ref _), some (.int _)], [], _)) rfl (u_ rfl) ?_
  refine w_t (pc := 1414) (e_s := (19, 3, 3, 0, 0, .int 6, [])) (y_s := (1417, [some (.ref _), some (.ref _), some (.ref _), some (.int _)], [], _)) rfl (u_ rfl) ?_
  refine w_t (pc := 1417) (e_s := (17, 3, 18, 0, 0, .null, [])) (y_s := (18, [some (.ref _), some (.ref _), some (.ref _), some (.int _)], [], _)) rfl (u_ rfl) ?_
  exact t_s
theorem sg_241_1358 {F_s : Nat} {x3 : Int32} {h_s : zH} {K_s : Int32 → zH → Prop} (hk : hKn h_s) (t_s : wF F_s 133 (0, [some (.ref 6), some (.int (h_s.2.1 0 (zix (x3 + 1)))), some (.int (h_s.2.1 0 (zix (x3 + 2)))), none, none], [], h_s) (gI (fun v1_s h1 => hKn h1 → wF F_s 236 (0, [some (.ref 102), some (.int (h1.2.1 0 (zix (x3 + 1)))), some (.int (h1.2.1 0 (zix (x3 + 2)))), none], [], h1) (gI (fun v2 h2 => hKn h2 → wF F_s 241 (18, [some (.ref 0), some (.ref 6), some (.ref 102), some (.int (x3 + 6))], [], h2) (gI K_s)))))) : wF (F_s + 1) 241 (1358, [some (.ref 0), some (.ref 6), some (.ref 102), some (.int x3)], [], h_s) (gI K_s) := by
  refine w_0 (pc := 1358) (e_s := (3, 1, 1, 0, 0, .null, [])) (y_s := (1359, [some (.ref _), some (.ref _), some (.ref _), some (.int _)], [.ref _], _)) rfl (u_ rfl) ?_
  refine w_t (pc := 1359) (e_s := (3, 1, 0, 0, 0, .null, [])) (y_s := (1360, [some (.ref _), some (.ref _), some (.ref _), some (.int _)], [.ref _, .ref _], _)) rfl (u_ rfl) ?_
  refine w_t (pc := 1360) (e_s := (1, 1, 3, 0, 0, .null, [])) (y_s := (1361, [some (.ref _), some (.ref _), some (.ref _), some (.int _)], [.int _, .ref _, .ref _], _)) rfl (u_ rfl) ?_
  refine w_t (pc := 1361) (e_s := (0, 1, 0, 0, 0, .int 1, [])) (y_s := (1362, [some (.ref _), some (.ref _), some (.ref _), some (.int _)], [.int _, .int _, .ref _, .ref _], _)) rfl (u_ rfl) ?_
  refine w_t (pc := 1362) (e_s := (7, 1, 0, 0, 0, .null, [])) (y_s := (1363, [some (.ref _), some (.ref _), some (.ref _), some (.int _)], [.int (_ + _), .ref _, .ref _], _)) rfl (u_ rfl) ?_
  refine w22x (pc := 1363) (len_s := 1) rfl ?_
  refine w_t (pc := 1364) (e_s := (3, 1, 0, 0, 0, .null, [])) (y_s := (1365, [some (.ref _), some (.ref _), some (.ref _), some (.int _)], [.ref _, .int _, .ref _], _)) rfl (u_ rfl) ?_
  refine w_t (pc := 1365) (e_s := (1, 1, 3, 0, 0, .null, [])) (y_s := (1366, [some (.ref _), some (.ref _), some (.ref _), some (.int _)], [.int _, .ref _, .int _, .ref _], _)) rfl (u_ rfl) ?_
  refine w_t (pc := 1366) (e_s := (0, 1, 0, 0, 0, .int 2, [])) (y_s := (1367, [some (.ref _), some (.ref _), some (.ref _), some (.int _)], [.int _, .int _, .ref _, .int _, .ref _], _)) rfl (u_ rfl) ?_
  refine w_t (pc := 1367) (e_s := (7, 1, 0, 0, 0, .null, [])) (y_s := (1368, [some (.ref _), some (.ref _), some (.ref _), some (.int _)], [.int (_ + _), .ref _, .int _, .ref _], _)) rfl (u_ rfl) ?_
  refine w22x (pc := 1368) (len_s := 1) rfl ?_
  refine wcI (pc := 1369) (len_s := 3) rfl rfl (l := [some (.ref _), some (.int _), some (.int _), none, none]) rfl (wmI t_s (fun v1_s h1 hk t_s => ?_))
  replace t_s := t_s hk
  refine w_t (pc := 1372) (e_s := (42, 1, 0, 0, 0, .null, [])) (y_s := (1373, [some (.ref _), some (.ref _), some (.ref _), some (.int _)], [], _)) rfl (u_ rfl) ?_
  refine w_t (pc := 1373) (e_s := (3, 1, 2, 0, 0, .null, [])) (y_s := (1374, [some (.ref _), some (.ref _), some (.ref _), some (.int _)], [.ref _], _)) rfl (u_ rfl) ?_
  refine w_t (pc := 1374) (e_s := (3, 1, 0, 0, 0, .null, [])) (y_s := (1375, [some (.ref _), some (.ref _), some (.ref _), some (.int _)], [.ref _, .ref _], _)) rfl (u_ rfl) ?_
  refine w_t (pc := 1375) (e_s := (1, 1, 3, 0, 0, .null, [])) (y_s := (1376, [some (.ref _), some (.ref _), some (.ref _), some (.int _)], [.int _, .ref _, .ref _], _)) rfl (u_ rfl) ?_
  refine w_t (pc := 1376) (e_s := (0, 1, 0, 0, 0, .int 1, [])) (y_s := (1377, [some (.ref _), some (.ref _), some (.ref _), some (.int _)], [.int _, .int _, .ref _, .ref _], _)) rfl (u_ rfl) ?_
  refine w_t (pc := 1377) (e_s := (7, 1, 0, 0, 0, .null, [])) (y_s := (1378, [some (.ref _), some (.ref _), some (.ref _), some (.int _)], [.int (_ + _), .ref _, .ref _], _)) rfl (u_ rfl) ?_
  refine w22x (pc := 1378) (len_s := 1) rfl ?_
  refine w_t (pc := 1379) (e_s := (3, 1, 0, 0, 0, .null, [])) (y_s := (1380, [some (.ref _), some (.ref _), some (.ref _), some (.int _)], [.ref _, .int _, .ref _], _)) rfl (u_ rfl) ?_
  refine w_t (pc := 1380) (e_s := (1, 1, 3, 0, 0, .null, [])) (y_s := (1381, [some (.ref _), some (.ref _), some (.ref _), some (.int _)], [.int _, .ref _, .int _, .ref _], _)) rfl (u_ rfl) ?_
  refine w_t (pc := 1381) (e_s := (0, 1, 0, 0, 0, .int 2, [])) (y_s := (1382, [some (.ref _), some (.ref _), some (.ref _), some (.int _)], [.int _, .int _, .ref _, .int _, .ref _], _)) rfl (u_ rfl) ?_
  refine w_t (pc := 1382) (e_s := (7, 1, 0, 0, 0, .null, [])) (y_s := (1383, [some (.ref _), some (.ref _), some (.ref _), some (.int _)], [.int (_ + _), .ref _, .int _, .ref _], _)) rfl (u_ rfl) ?_
  refine w22x (pc := 1383) (len_s := 1) rfl ?_
  refine wcI (pc := 1384) (len_s := 3) rfl rfl (l := [some (.ref _), some (.int _), some (.int _), none]) rfl (wmI t_s (fun v2 h2 hk t_s => ?_))
  replace t_s := t_s hk
  refine w_t (pc := 1387) (e_s := (42, 1, 0, 0, 0, .null, [])) (y_s := (1388, [some (.ref _), some (.ref _), some (.ref _), some (.int _)], [], _)) rfl (u_ rfl) ?_
  refine w_t (pc := 1388) (e_s := (17, 3, 1414, 0, 0, .null, [])) (y_s := (1414, [some (.ref _), some (.ref _), some (.ref _), some (.int _)], [], _)) rfl (u_ rfl) ?_
  refine w_t (pc := 1414) (e_s := (19, 3, 3, 0, 0, .int 6, [])) (y_s := (1417, [some (.ref _), some (.ref _), some (.ref _), some (.int _)], [], _)) rfl (u_ rfl) ?_
  refine w_t (pc := 1417) (e_s := (17, 3, 18, 0, 0, .null, [])) (y_s := (18, [some (.ref _), some (.ref _), some (.ref _), some (.int _)], [], _)) rfl (u_ rfl) ?_
  exact t_s
theorem sg_241_1391 {F_s : Nat} {x3 : Int32} {h_s : zH} {K_s : Int32 → zH → Prop} (hk : hKn h_s) (t_s : wF F_s 134 (0, [some (.ref 6), some (.int (h_s.2.1 0 (zix (x3 + 1))))], [], h_s) (gI (fun v1_s h1 => hKn h1 → wF F_s 237 (0, [some (.ref 102), some (.int (h1.2.1 0 (zix (x3 + 1))))], [], h1) (gI (fun v2 h2 => hKn h2 → wF F_s 241 (18, [some (.ref 0), some (.ref 6), some (.ref 102), some (.int (x3 + 6))], [], h2) (gI K_s)))))) : wF (F_s + 1) 241 (1391, [some (.ref 0), some (.ref 6), some (.ref 102), some (.int x3)], [], h_s) (gI K_s) := by
  refine w_0 (pc := 1391) (e_s := (3, 1, 1, 0, 0, .null, [])) (y_s := (1392, [some (.ref _), some (.ref _), some (.ref _), some (.int _)], [.ref _], _)) rfl (u_ rfl) ?_
  refine w_t (pc := 1392) (e_s := (3, 1, 0, 0, 0, .null, [])) (y_s := (1393, [some (.ref _), some (.ref _), some (.ref _), some (.int _)], [.ref _, .ref _], _)) rfl (u_ rfl) ?_
  refine w_t (pc := 1393) (e_s := (1, 1, 3, 0, 0, .null, [])) (y_s := (1394, [some (.ref _), some (.ref _), some (.ref _), some (.int _)], [.int _, .ref _, .ref _], _)) rfl (u_ rfl) ?_
  refine w_t (pc := 1394) (e_s := (0, 1, 0, 0, 0, .int 1, [])) (y_s := (1395, [some (.ref _), some (.ref _), some (.ref _), some (.int _)], [.int _, .int _, .ref _, .ref _], _)) rfl (u_ rfl) ?_
  refine w_t (pc := 1395) (e_s := (7, 1, 0, 0, 0, .null, [])) (y_s := (1396, [some (.ref _), some (.ref _), some (.ref _), some (.int _)], [.int (_ + _), .ref _, .ref _], _)) rfl (u_ rfl) ?_
  refine w22x (pc := 1396) (len_s := 1) rfl ?_
  refine wcI (pc := 1397) (len_s := 3) rfl rfl (l := [some (.ref _), some (.int _)]) rfl (wmI t_s (fun v1_s h1 hk t_s => ?_))
  replace t_s := t_s hk
  refine w_t (pc := 1400) (e_s := (42, 1, 0, 0, 0, .null, [])) (y_s := (1401, [some (.ref _), some (.ref _), some (.ref _), some (.int _)], [], _)) rfl (u_ rfl) ?_
  refine w_t (pc := 1401) (e_s := (3, 1, 2, 0, 0, .null, [])) (y_s := (1402, [some (.ref _), some (.ref _), some (.ref _), some (.int _)], [.ref _], _)) rfl (u_ rfl) ?_
  refine w_t (pc := 1402) (e_s := (3, 1, 0, 0, 0, .null, [])) (y_s := (1403, [some (.ref _), some (.ref _), some (.ref _), some (.int _)], [.ref _, .ref _], _)) rfl (u_ rfl) ?_
  refine w_t (pc := 1403) (e_s := (1, 1, 3, 0, 0, .null, [])) (y_s := (1404, [some (.ref _), some (.ref _), some (.ref _), some (.int _)], [.int _, .ref _, .ref _], _)) rfl (u_ rfl) ?_
  refine w_t (pc := 1404) (e_s := (0, 1, 0, 0, 0, .int 1, [])) (y_s := (1405, [some (.ref _), some (.ref _), some (.ref _), some (.int _)], [.int _, .int _, .ref _, .ref _], _)) rfl (u_ rfl) ?_
  refine w_t (pc := 1405) (e_s := (7, 1, 0, 0, 0, .null, [])) (y_s := (1406, [some (.ref _), some (.ref _), some (.ref _), some (.int _)], [.int (_ + _), .ref _, .ref _], _)) rfl (u_ rfl) ?_
  refine w22x (pc := 1406) (len_s := 1) rfl ?_
  refine wcI (pc := 1407) (len_s := 3) rfl rfl (l := [some (.ref _), some (.int _)]) rfl (wmI t_s (fun v2 h2 hk t_s => ?_))
  replace t_s := t_s hk
  refine w_t (pc := 1410) (e_s := (42, 1, 0, 0, 0, .null, [])) (y_s := (1411, [some (.ref _), some (.ref _), some (.ref _), some (.int _)], [], _)) rfl (u_ rfl) ?_
  refine w_t (pc := 1411) (e_s := (17, 3, 1414, 0, 0, .null, [])) (y_s := (1414, [some (.ref _), some (.ref _), some (.ref _), some (.int _)], [], _)) rfl (u_ rfl) ?_
  refine w_t (pc := 1414) (e_s := (19, 3, 3, 0, 0, .int 6, [])) (y_s := (1417, [some (.ref _), some (.ref _), some (.ref _), some (.int _)], [], _)) rfl (u_ rfl) ?_
  refine w_t (pc := 1417) (e_s := (17, 3, 18, 0, 0, .null, [])) (y_s := (18, [some (.ref _), some (.ref _), some (.ref _), some (.int _)], [], _)) rfl (u_ rfl) ?_
  exact t_s
/-! the checker by recursors, and that it says the same: printed by wip/gen/fast.py -/
noncomputable def lnRqz {α : Type} (l : List α) : Nat := List.rec (motive := fun _ => Nat) 0 (fun _ _ ih => Nat.succ ih) l
noncomputable def apRqz {α : Type} (l m : List α) : List α := List.rec (motive := fun _ => List α) m (fun a _ ih => a :: ih) l
noncomputable def alRqz {α : Type} (l : List α) (f : α → Bool) : Bool := List.rec (motive := fun _ => Bool) true (fun a r ih => List.rec (motive := fun _ => Bool) (f a) (fun _ _ _ => Bool.rec (motive := fun _ => Bool) false ih (f a)) r) l
noncomputable def anRqz {α : Type} (l : List α) (f : α → Bool) : Bool := List.rec (motive := fun _ => Bool) false (fun a _ ih => Bool.rec (motive := fun _ => Bool) ih true (f a)) l
noncomputable def elRqz (o : Nat) (l : List Nat) : Bool := List.rec (motive := fun _ => Bool) false (fun a _ ih => Bool.rec (motive := fun _ => Bool) ih true (Nat.beq o a)) l
noncomputable def mpRqz {α β : Type} (f : α → β) (l : List α) : List β := List.rec (motive := fun _ => List β) [] (fun a _ ih => f a :: ih) l
noncomputable def cnRqz {α : Type} (c : Bool) (a b : α) : α := Bool.rec (motive := fun _ => α) b a c
theorem cnRqz_e : @cnRqz = @cond := by
  funext a_s c_s x_s y_s
  cases c_s <;> rfl

theorem lnRqz_e : @lnRqz = @List.length := by
  funext a_s l_s
  induction l_s with
  | nil => rfl
  | cons a r ih => exact congrArg Nat.succ ih
theorem apRqz_e : @apRqz = @List.append := by
  funext a_s l_s m_s
  induction l_s with
  | nil => rfl
  | cons a r ih => exact congrArg (List.cons a) ih
theorem brq_and {b x : Bool} : Bool.rec (motive := fun _ => Bool) false x b = (b && x) := by cases b <;> rfl
theorem brq_or {b x : Bool} : Bool.rec (motive := fun _ => Bool) x true b = (b || x) := by cases b <;> rfl
theorem brq_if {α : Type} {b : Bool} {x y : α} : Bool.rec (motive := fun _ => α) x y b = (bif b then y else x) := by cases b <;> rfl
theorem alRqz_e : @alRqz = @List.all := by
  funext a_s l_s f_s
  induction l_s with
  | nil => rfl
  | cons a r ih => cases r with
    | nil => exact (Bool.and_true (f_s a)).symm
    | cons b s => exact brq_and.trans (congrArg (f_s a && ·) ih)
theorem anRqz_e : @anRqz = @List.any := by
  funext a_s l_s f_s
  induction l_s with
  | nil => rfl
  | cons a r ih => exact brq_or.trans (congrArg (f_s a || ·) ih)

noncomputable def zgetRq {α : Type} (l : List α) : Nat → Option α := List.rec (motive := fun _ => Nat → Option α) (fun _ => none) (fun a _ ih n => Nat.rec (motive := fun _ => Option α) (some a) (fun m _ => ih m) n) l
theorem zgetRq_e : @zgetRq = @zget := by
  funext a_s l_s n_s
  induction l_s generalizing n_s with
  | nil => cases n_s <;> rfl
  | cons a r ih => cases n_s with
    | zero => rfl
    | succ m => exact ih m
noncomputable def zputRq {α : Type} (l : List α) (i : Nat) (x : α) : List α := List.rec (motive := fun _ => Nat → List α) (fun _ => []) (fun a r ih n => Nat.rec (motive := fun _ => List α) (x :: r) (fun m _ => a :: ih m) n) l i
theorem zputRq_e : @zputRq = @zput := by
  funext a_s l_s n_s x_s
  induction l_s generalizing n_s with
  | nil => cases n_s <;> rfl
  | cons a r ih => cases n_s with
    | zero => rfl
    | succ m => exact congrArg (List.cons a) (ih m)
noncomputable def abdRq (cs : aCs) : aI → Int × Int
  | .inl (k, off) => (match zgetRq cs k with
    | some q => (q.1 + off, q.2 + off)
    | none => (1, 0))
  | .inr n => (n, n)
theorem abdRq_e : @abdRq = @abd := by
  delta abdRq abd
  try rw [zgetRq_e]
  first | done | rfl
noncomputable def afindRq (T : aT) (o k : Nat) : Option aI := List.rec (motive := fun _ => Option aI) none (fun p _ ih => Bool.rec (motive := fun _ => Option aI) ih (Bool.rec (motive := fun _ => Option aI) ih (some p.2.2) (Nat.beq p.2.1 k)) (Nat.beq p.1 o)) T
theorem afindRq_e : @afindRq = @afind := by
  funext t_s o_s k_s
  induction t_s with
  | nil => rfl
  | cons p r ih =>
    show Bool.rec (motive := fun _ => Option aI) (afindRq r o_s k_s) (Bool.rec (motive := fun _ => Option aI) (afindRq r o_s k_s) (some p.2.2) (Nat.beq p.2.1 k_s)) (Nat.beq p.1 o_s) = bif Nat.beq p.1 o_s && Nat.beq p.2.1 k_s then some p.2.2 else afind r o_s k_s
    rw [ih]
    cases Nat.beq p.1 o_s <;> cases Nat.beq p.2.1 k_s <;> rfl
noncomputable def imaxRq (a b : Int) : Int := cnRqz (ile a b) (b) (a)
theorem imaxRq_e : @imaxRq = @imax := by
  delta imaxRq imax
  try rw [cnRqz_e]
  first | done | rfl
noncomputable def iminRq (a b : Int) : Int := cnRqz (ile a b) (a) (b)
theorem iminRq_e : @iminRq = @imin := by
  delta iminRq imin
  try rw [cnRqz_e]
  first | done | rfl
noncomputable def aclipRq (q : Int × Int) : Int × Int := cnRqz (aok32 q) (q) (afull)
theorem aclipRq_e : @aclipRq = @aclip := by
  delta aclipRq aclip
  try rw [cnRqz_e]
  first | done | rfl
noncomputable def anewRq (cs : aCs) (q : Int × Int) : aCs × aI := (apRqz cs [q], .inl ((lnRqz cs), 0))
theorem anewRq_e : @anewRq = @anew := by
  delta anewRq anew
  try rw [lnRqz_e]
  try rw [apRqz_e]
  first | done | rfl
noncomputable def ashiftRq (cs : aCs) (k : Nat) (o d : Int) : aCs × aI := cnRqz (aok32 ((abdRq cs (.inl (k, o))).1 + d, (abdRq cs (.inl (k, o))).2 + d)) ((cs, .inl (k, o + d))) (anewRq cs afull)
theorem ashiftRq_e : @ashiftRq = @ashift := by
  delta ashiftRq ashift
  try rw [abdRq_e]
  try rw [anewRq_e]
  try rw [cnRqz_e]
  first | done | rfl
noncomputable def abinRq (cs : aCs) (b : Nat) (x y : aI) : aCs × aI := match x, y with
  | .inr c, .inr d => (cs, .inr (zbin b (Int32.ofInt c) (Int32.ofInt d)).toInt)
  | x, y => (match b with
    | 0 => (match x, y with
      | .inl (k, o), .inr d => ashiftRq cs k o d
      | .inr c, .inl (k, o) => ashiftRq cs k o c
      | x, y => anewRq cs (aclipRq ((abdRq cs x).1 + (abdRq cs y).1, (abdRq cs x).2 + (abdRq cs y).2)))
    | 1 => (match x, y with
      | .inl (k, o), .inr d => ashiftRq cs k o (-d)
      | x, y => anewRq cs (aclipRq ((abdRq cs x).1 - (abdRq cs y).2, (abdRq cs x).2 - (abdRq cs y).1)))
    | 2 => cnRqz (decide (0 ≤ (abdRq cs x).1) && decide (0 ≤ (abdRq cs y).1)) (anewRq cs (aclipRq ((abdRq cs x).1 * (abdRq cs y).1, (abdRq cs x).2 * (abdRq cs y).2))) (anewRq cs afull)
    | 3 => cnRqz (decide (0 ≤ (abdRq cs y).1)) (anewRq cs (0, (abdRq cs y).2)) (cnRqz (decide (0 ≤ (abdRq cs x).1)) (anewRq cs (0, (abdRq cs x).2)) (anewRq cs afull))
    | 8 => (match y with
      | .inr d => cnRqz (decide (d = 8)) (anewRq cs (0, 16777215)) (cnRqz (decide (d = 16)) (anewRq cs (0, 65535)) (anewRq cs afull))
      | _ => anewRq cs afull)
    | _ => anewRq cs afull)
theorem abinRq_e : @abinRq = @abin := by
  delta abinRq abin
  try rw [abdRq_e]
  try rw [aclipRq_e]
  try rw [anewRq_e]
  try rw [ashiftRq_e]
  try rw [cnRqz_e]
  first | done | rfl
noncomputable def adiv0Rq (cs : aCs) (b : Nat) (x y : aI) : Option (aCs × aI) :=
  cnRqz (decide (0 < (abdRq cs y).1)) (some (match b with
    | 0 => (match y with
      | .inr d => anewRq cs ((abdRq cs x).1.tdiv d, (abdRq cs x).2.tdiv d)
      | _ => anewRq cs afull)
    | _ => cnRqz (decide (0 ≤ (abdRq cs x).1)) (anewRq cs (0, (abdRq cs y).2 - 1)) (anewRq cs (1 - (abdRq cs y).2, (abdRq cs y).2 - 1)))) (cnRqz (decide ((abdRq cs y).2 < 0)) (some (anewRq cs afull)) (none))
theorem adiv0Rq_e : @adiv0Rq = @adiv0 := by
  delta adiv0Rq adiv0
  try rw [abdRq_e]
  try rw [anewRq_e]
  try rw [cnRqz_e]
  first | done | rfl
noncomputable def adivRq (cs : aCs) (b : Nat) (x y : aI) : Option (aCs × aI) := match x, y with
  | .inr c, .inr d => cnRqz (decide (Int32.ofInt d = 0)) (none) (some (cs, .inr (zdv b (Int32.ofInt c) (Int32.ofInt d)).toInt))
  | x, y => adiv0Rq cs b x y
theorem adivRq_e : @adivRq = @adiv := by
  delta adivRq adiv
  try rw [adiv0Rq_e]
  try rw [cnRqz_e]
  first | done | rfl
noncomputable def aunRq (cs : aCs) (b : Nat) (x : aI) : aCs × aI := match b with
  | 0 => cnRqz (decide (-2147483647 ≤ (abdRq cs x).1)) (anewRq cs (-(abdRq cs x).2, -(abdRq cs x).1)) (anewRq cs afull)
  | 1 => anewRq cs (-128, 127)
  | _ => anewRq cs (-32768, 32767)
theorem aunRq_e : @aunRq = @aun := by
  delta aunRq aun
  try rw [abdRq_e]
  try rw [anewRq_e]
  try rw [cnRqz_e]
  first | done | rfl
noncomputable def arf2Rq (cs : aCs) (k : Nat) (l h : Int) : Option aCs := cnRqz (ile l h) (some (zputRq cs k (l, h))) (none)
theorem arf2Rq_e : @arf2Rq = @arf2 := by
  delta arf2Rq arf2
  try rw [zputRq_e]
  try rw [cnRqz_e]
  first | done | rfl
noncomputable def arfRq (cs : aCs) (a : aI) (q : Int × Int) : Option aCs := match a with
  | .inl (k, o) => (match zgetRq cs k with
    | some p => arf2Rq cs k (imaxRq p.1 (q.1 - o)) (iminRq p.2 (q.2 - o))
    | none => none)
  | .inr c => cnRqz (ile q.1 c && ile c q.2) (some cs) (none)
theorem arfRq_e : @arfRq = @arf := by
  delta arfRq arf
  try rw [zgetRq_e]
  try rw [imaxRq_e]
  try rw [iminRq_e]
  try rw [arf2Rq_e]
  try rw [cnRqz_e]
  first | done | rfl
noncomputable def altRq (cs : aCs) (x y : aI) : Option aCs := match arfRq cs x (-abig, (abdRq cs y).2 - 1) with
  | some c1 => arfRq c1 y ((abdRq cs x).1 + 1, abig)
  | none => none
theorem altRq_e : @altRq = @alt := by
  delta altRq alt
  try rw [abdRq_e]
  try rw [arfRq_e]
  first | done | rfl
noncomputable def aleRq (cs : aCs) (x y : aI) : Option aCs := match arfRq cs x (-abig, (abdRq cs y).2) with
  | some c1 => arfRq c1 y ((abdRq cs x).1, abig)
  | none => none
theorem aleRq_e : @aleRq = @ale := by
  delta aleRq ale
  try rw [abdRq_e]
  try rw [arfRq_e]
  first | done | rfl
noncomputable def aeqRq (cs : aCs) (x y : aI) : Option aCs := match arfRq cs x (abdRq cs y) with
  | some c1 => arfRq c1 y (abdRq cs x)
  | none => none
theorem aeqRq_e : @aeqRq = @aeq := by
  delta aeqRq aeq
  try rw [abdRq_e]
  try rw [arfRq_e]
  first | done | rfl
noncomputable def aneRq (cs : aCs) (x y : aI) : Option aCs := cnRqz (ieq (abdRq cs y).1 (abdRq cs y).2) ((cnRqz (ieq (abdRq cs x).1 (abdRq cs y).1) (arfRq cs x ((abdRq cs y).1 + 1, abig)) (cnRqz (ieq (abdRq cs x).2 (abdRq cs y).1) (arfRq cs x (-abig, (abdRq cs y).1 - 1)) (some cs)))) (some cs)
theorem aneRq_e : @aneRq = @ane := by
  delta aneRq ane
  try rw [abdRq_e]
  try rw [arfRq_e]
  try rw [cnRqz_e]
  first | done | rfl
noncomputable def aclrRq (al : List (Option aV)) (i : Nat) : List (Option aV) := match i with
  | 0 => al
  | j + 1 => (match zgetRq al j with
    | some (some (.inl (.inr _))) => zputRq al j none
    | _ => al)
theorem aclrRq_e : @aclrRq = @aclr := by
  delta aclrRq aclr
  try rw [zgetRq_e]
  try rw [zputRq_e]
  first | done | rfl
noncomputable def ast1Rq (al : List (Option aV)) (i : Nat) (a : aV) : List (Option aV) := zputRq (aclrRq al i) i (some a)
theorem ast1Rq_e : @ast1Rq = @ast1 := by
  delta ast1Rq ast1
  try rw [zputRq_e]
  try rw [aclrRq_e]
  first | done | rfl
noncomputable def ast2Rq (al : List (Option aV)) (i : Nat) (a : aV) : List (Option aV) := zputRq (zputRq (aclrRq al i) i (some a)) (i + 1) none
theorem ast2Rq_e : @ast2Rq = @ast2 := by
  delta ast2Rq ast2
  try rw [zputRq_e]
  try rw [aclrRq_e]
  first | done | rfl
noncomputable def aq1Rq (len a : Nat) : aX → Option aR := fun (cs, T, pc, al, st) => match zgetRq al a with
  | some (some (.inl (.inl i))) => ago (cs, T, pc + len, al, .inl (.inl i) :: st)
  | _ => none
theorem aq1Rq_e : @aq1Rq = @aq1 := by
  delta aq1Rq aq1
  try rw [zgetRq_e]
  first | done | rfl
noncomputable def aq2Rq (len a : Nat) : aX → Option aR := fun (cs, T, pc, al, st) => match zgetRq al a with
  | some (some (.inl (.inr i))) => ago (cs, T, pc + len, al, .inl (.inr i) :: st)
  | _ => none
theorem aq2Rq_e : @aq2Rq = @aq2 := by
  delta aq2Rq aq2
  try rw [zgetRq_e]
  first | done | rfl
noncomputable def aq3Rq (len a : Nat) : aX → Option aR := fun (cs, T, pc, al, st) => match zgetRq al a with
  | some (some (.inr l)) => ago (cs, T, pc + len, al, .inr l :: st)
  | _ => none
theorem aq3Rq_e : @aq3Rq = @aq3 := by
  delta aq3Rq aq3
  try rw [zgetRq_e]
  first | done | rfl
noncomputable def aq4Rq (len a : Nat) : aX → Option aR := fun (cs, T, pc, al, st) => match st with
  | .inl (.inl i) :: r => ago (cs, T, pc + len, ast1Rq al a (.inl (.inl i)), r)
  | _ => none
theorem aq4Rq_e : @aq4Rq = @aq4 := by
  delta aq4Rq aq4
  try rw [ast1Rq_e]
  first | done | rfl
noncomputable def aq5Rq (len a : Nat) : aX → Option aR := fun (cs, T, pc, al, st) => match st with
  | .inl (.inr i) :: r => ago (cs, T, pc + len, ast2Rq al a (.inl (.inr i)), r)
  | _ => none
theorem aq5Rq_e : @aq5Rq = @aq5 := by
  delta aq5Rq aq5
  try rw [ast2Rq_e]
  first | done | rfl
noncomputable def aq6Rq (len a : Nat) : aX → Option aR := fun (cs, T, pc, al, st) => match st with
  | .inr l :: r => ago (cs, T, pc + len, ast1Rq al a (.inr l), r)
  | _ => none
theorem aq6Rq_e : @aq6Rq = @aq6 := by
  delta aq6Rq aq6
  try rw [ast1Rq_e]
  first | done | rfl
noncomputable def aq7Rq (len b : Nat) : aX → Option aR := fun (cs, T, pc, al, st) => match st with
  | .inl (.inl y) :: .inl (.inl x) :: r => ago ((abinRq cs b x y).1, T, pc + len, al, .inl (.inl (abinRq cs b x y).2) :: r)
  | _ => none
theorem aq7Rq_e : @aq7Rq = @aq7 := by
  delta aq7Rq aq7
  try rw [abinRq_e]
  first | done | rfl
noncomputable def aq8Rq (len b : Nat) : aX → Option aR := fun (cs, T, pc, al, st) => match st with
  | .inl (.inl y) :: .inl (.inl x) :: r => (match adivRq cs b x y with
    | some q => ago (q.1, T, pc + len, al, .inl (.inl q.2) :: r)
    | none => none)
  | _ => none
theorem aq8Rq_e : @aq8Rq = @aq8 := by
  delta aq8Rq aq8
  try rw [adivRq_e]
  first | done | rfl
noncomputable def aq9Rq (len b : Nat) : aX → Option aR := fun (cs, T, pc, al, st) => match st with
  | .inl (.inl x) :: r => ago ((aunRq cs b x).1, T, pc + len, al, .inl (.inl (aunRq cs b x).2) :: r)
  | _ => none
theorem aq9Rq_e : @aq9Rq = @aq9 := by
  delta aq9Rq aq9
  try rw [aunRq_e]
  first | done | rfl
noncomputable def aq11Rq (len : Nat) : aX → Option aR := fun (cs, T, pc, al, st) => match st with
  | .inl (.inr x) :: r => cnRqz (aok32 (abdRq cs x)) (ago (cs, T, pc + len, al, .inl (.inl x) :: r)) (ago ((anewRq cs afull).1, T, pc + len, al, .inl (.inl (anewRq cs afull).2) :: r))
  | _ => none
theorem aq11Rq_e : @aq11Rq = @aq11 := by
  delta aq11Rq aq11
  try rw [abdRq_e]
  try rw [anewRq_e]
  try rw [cnRqz_e]
  first | done | rfl
noncomputable def aq12Rq (len : Nat) : aX → Option aR := fun (cs, T, pc, al, st) => match st with
  | .inl (.inr _) :: .inl (.inr _) :: r => ago ((anewRq cs alfull).1, T, pc + len, al, .inl (.inr (anewRq cs alfull).2) :: r)
  | _ => none
theorem aq12Rq_e : @aq12Rq = @aq12 := by
  delta aq12Rq aq12
  try rw [anewRq_e]
  first | done | rfl
noncomputable def aq13Rq (len : Nat) : aX → Option aR := fun (cs, T, pc, al, st) => match st with
  | .inl (.inl _) :: .inl (.inr _) :: r => ago ((anewRq cs alfull).1, T, pc + len, al, .inl (.inr (anewRq cs alfull).2) :: r)
  | _ => none
theorem aq13Rq_e : @aq13Rq = @aq13 := by
  delta aq13Rq aq13
  try rw [anewRq_e]
  first | done | rfl
noncomputable def aoptRq (f : aCs → aX) (o : Option aCs) : List aX := Option.rec (motive := fun _ => List aX) [] (fun cs => [f cs]) o
theorem aoptRq_e : @aoptRq = @aopt := by
  funext f_s o_s
  cases o_s <;> rfl
noncomputable def aq14Rq (len : Nat) : aX → Option aR := fun (cs, T, pc, al, st) => match st with
  | .inl (.inr y) :: .inl (.inr x) :: r => some (.inl (aoptRq (fun c => (c, T, pc + len, al, .inl (.inl (.inr (-1))) :: r)) (altRq cs x y) ++ (aoptRq (fun c => (c, T, pc + len, al, .inl (.inl (.inr 0)) :: r)) (aeqRq cs x y) ++ aoptRq (fun c => (c, T, pc + len, al, .inl (.inl (.inr 1)) :: r)) (altRq cs y x))))
  | _ => none
theorem aq14Rq_e : @aq14Rq = @aq14 := by
  delta aq14Rq aq14
  try rw [altRq_e]
  try rw [aeqRq_e]
  try rw [aoptRq_e]
  first | done | rfl
noncomputable def acmpRq (cs : aCs) (b : Nat) (x y : aI) : Option aCs × Option aCs := match b with
  | 0 => (aeqRq cs x y, aneRq cs x y)
  | 1 => (aneRq cs x y, aeqRq cs x y)
  | 2 => (altRq cs x y, aleRq cs y x)
  | 3 => (aleRq cs y x, altRq cs x y)
  | 4 => (altRq cs y x, aleRq cs x y)
  | _ => (aleRq cs x y, altRq cs y x)
theorem acmpRq_e : @acmpRq = @acmp := by
  delta acmpRq acmp
  try rw [altRq_e]
  try rw [aleRq_e]
  try rw [aeqRq_e]
  try rw [aneRq_e]
  first | done | rfl
noncomputable def aq15Rq (len a b : Nat) : aX → Option aR := fun (cs, T, pc, al, st) => match st with
  | .inl (.inl x) :: r => some (.inl (aoptRq (fun c => (c, T, a, al, r)) (acmpRq cs b x (.inr 0)).1 ++ aoptRq (fun c => (c, T, pc + len, al, r)) (acmpRq cs b x (.inr 0)).2))
  | _ => none
theorem aq15Rq_e : @aq15Rq = @aq15 := by
  delta aq15Rq aq15
  try rw [aoptRq_e]
  try rw [acmpRq_e]
  first | done | rfl
noncomputable def aq16Rq (len a b : Nat) : aX → Option aR := fun (cs, T, pc, al, st) => match st with
  | .inl (.inl y) :: .inl (.inl x) :: r => some (.inl (aoptRq (fun c => (c, T, a, al, r)) (acmpRq cs b x y).1 ++ aoptRq (fun c => (c, T, pc + len, al, r)) (acmpRq cs b x y).2))
  | _ => none
theorem aq16Rq_e : @aq16Rq = @aq16 := by
  delta aq16Rq aq16
  try rw [aoptRq_e]
  try rw [acmpRq_e]
  first | done | rfl
noncomputable def aswkRq (cs : aCs) (T : aT) (al : List (Option aV)) (x : aI) (r : List aV) : List (Int32 × Nat) → List aX
  | [] => []
  | (k, t) :: s => aoptRq (fun c => (c, T, t, al, r)) (aeqRq cs x (.inr k.toInt)) ++ aswkRq cs T al x r s
theorem aswkRq_e : @aswkRq = @aswk := by
  funext cs_s T_s al_s x_s r_s l_s
  induction l_s with
  | nil => first | rfl | simp only [aswkRq, aswk]
  | cons p r ih => simp only [aswkRq, aswk, aoptRq_e, aeqRq_e, ih] <;> first | rfl | (split <;> rfl)
noncomputable def aq18Rq (a : Nat) (sw : List (Int32 × Nat)) : aX → Option aR := fun (cs, T, _, al, st) => match st with
  | .inl (.inl x) :: r => some (.inl (aswkRq cs T al x r sw ++ (cnRqz (aswd (abdRq cs x) sw) ([]) ([(cs, T, a, al, r)]))))
  | _ => none
theorem aq18Rq_e : @aq18Rq = @aq18 := by
  delta aq18Rq aq18
  try rw [abdRq_e]
  try rw [aswkRq_e]
  try rw [cnRqz_e]
  first | done | rfl
noncomputable def aq19Rq (len a : Nat) (v : Value) : aX → Option aR := fun (cs, T, pc, al, st) => match zgetRq al a, v with
  | some (some (.inl (.inl i))), .int k => ago ((abinRq cs 0 i (.inr k.toInt)).1, T, pc + len, ast1Rq al a (.inl (.inl (abinRq cs 0 i (.inr k.toInt)).2)), st)
  | _, _ => none
theorem aq19Rq_e : @aq19Rq = @aq19 := by
  delta aq19Rq aq19
  try rw [zgetRq_e]
  try rw [abinRq_e]
  try rw [ast1Rq_e]
  first | done | rfl
noncomputable def aq39Rq (len : Nat) : aX → Option aR := fun (cs, T, pc, al, st) => match st with
  | v :: r => cnRqz (aisL v) (none) (ago (cs, T, pc + len, al, v :: v :: r))
  | _ => none
theorem aq39Rq_e : @aq39Rq = @aq39 := by
  delta aq39Rq aq39
  try rw [cnRqz_e]
  first | done | rfl
noncomputable def aq40Rq (len : Nat) : aX → Option aR := fun (cs, T, pc, al, st) => match st with
  | v :: w :: r => cnRqz (aisL v || aisL w) (none) (ago (cs, T, pc + len, al, v :: w :: v :: r))
  | _ => none
theorem aq40Rq_e : @aq40Rq = @aq40 := by
  delta aq40Rq aq40
  try rw [cnRqz_e]
  first | done | rfl
noncomputable def aq41Rq (len : Nat) : aX → Option aR := fun (cs, T, pc, al, st) => match st with
  | v :: w :: r => cnRqz (aisL v || aisL w) (none) (ago (cs, T, pc + len, al, v :: w :: v :: w :: r))
  | _ => none
theorem aq41Rq_e : @aq41Rq = @aq41 := by
  delta aq41Rq aq41
  try rw [cnRqz_e]
  first | done | rfl
noncomputable def aq42Rq (len : Nat) : aX → Option aR := fun (cs, T, pc, al, st) => match st with
  | v :: r => cnRqz (aisL v) (none) (ago (cs, T, pc + len, al, r))
  | _ => none
theorem aq42Rq_e : @aq42Rq = @aq42 := by
  delta aq42Rq aq42
  try rw [cnRqz_e]
  first | done | rfl
noncomputable def aq44Rq (len : Nat) : aX → Option aR := fun (cs, T, pc, al, st) => match st with
  | v :: r => cnRqz (aisL v) (ago (cs, T, pc + len, al, r)) (none)
  | _ => none
theorem aq44Rq_e : @aq44Rq = @aq44 := by
  delta aq44Rq aq44
  try rw [cnRqz_e]
  first | done | rfl
noncomputable def aivRq (B : aB) (o k : Nat) : Int × Int := match B o with
  | some (.inl q) => q
  | some (.inr l) => (match zgetRq l k with
    | some q => q
    | none => afull)
  | none => afull
theorem aivRq_e : @aivRq = @aiv := by
  delta aivRq aiv
  try rw [zgetRq_e]
  first | done | rfl
noncomputable def aallRq (S : Nat → Option (Nat × Nat)) (l : List Nat) (f : Nat → Nat → Nat → Bool) : Bool := alRqz l (fun o => match S o with
  | some (t, n) => !Nat.beq t 9 && f o t n
  | none => false)
theorem aallRq_e : @aallRq = @aall := by
  delta aallRq aall
  try rw [alRqz_e]
  first | done | rfl
noncomputable def ajoinRq (B : aB) (b : Nat) : List Nat → Int × Int
  | [] => (1, 0)
  | [o] => aivRq B o b
  | o :: s => (min (aivRq B o b).1 (ajoinRq B b s).1, max (aivRq B o b).2 (ajoinRq B b s).2)
theorem ajoinRq_e : @ajoinRq = @ajoin := by
  funext B_s b_s l_s
  induction l_s with
  | nil => rfl
  | cons p r ih => cases r with
    | nil => show aivRq B_s p b_s = aiv B_s p b_s; rw [aivRq_e]
    | cons q s => simp only [ajoinRq, ajoin, aivRq_e] at ih ⊢ <;> rw [ih]
noncomputable def ardRq (B : aB) (cs : aCs) (T : aT) (o k : Nat) : aCs × aT × aI := match afindRq T o k with
  | some i => (cs, T, i)
  | none => (apRqz cs [aivRq B o k], (o, k, .inl ((lnRqz cs), 0)) :: T, .inl ((lnRqz cs), 0))
theorem ardRq_e : @ardRq = @ard := by
  delta ardRq ard
  try rw [afindRq_e]
  try rw [aivRq_e]
  try rw [lnRqz_e]
  try rw [apRqz_e]
  first | done | rfl
noncomputable def aqnRq (B : aB) (cs : aCs) (T : aT) (pc : Nat) (al : List (Option aV)) (r : List aV) (b : Nat) : List Nat → Option aR
  | [] => none
  | [o] => ago ((ardRq B cs T o b).1, (ardRq B cs T o b).2.1, pc, al, .inl (.inl (ardRq B cs T o b).2.2) :: r)
  | o1 :: o2 :: s => ago ((anewRq cs (ajoinRq B b (o1 :: o2 :: s))).1, T, pc, al, .inl (.inl (anewRq cs (ajoinRq B b (o1 :: o2 :: s))).2) :: r)
theorem aqnRq_e : @aqnRq = @aqn := by
  delta aqnRq aqn
  try rw [anewRq_e]
  try rw [ajoinRq_e]
  try rw [ardRq_e]
  first | done | rfl
noncomputable def aq20Rq (S : Nat → Option (Nat × Nat)) (rf : Nat → Nat → List Nat) (B : aB) (len a b c : Nat) : aX → Option aR := fun (cs, T, pc, al, st) => match st with
  | .inr l :: r => cnRqz (aallRq S l (fun _ t n => Nat.beq t (10 + a) && Nat.blt b n)) ((match c with
    | 1 => aqr rf cs T (pc + len) al r b l
    | _ => aqnRq B cs T (pc + len) al r b l)) (none)
  | _ => none
theorem aq20Rq_e : @aq20Rq = @aq20 := by
  delta aq20Rq aq20
  try rw [aallRq_e]
  try rw [aqnRq_e]
  try rw [cnRqz_e]
  first | done | rfl
noncomputable def aq21Rq (S : Nat → Option (Nat × Nat)) (B : aB) (W : Nat → Nat → Bool) (len a b c : Nat) : aX → Option aR := fun (cs, T, pc, al, st) => match st with
  | .inl (.inl x) :: .inr l :: r => cnRqz (aallRq S l (fun o t n => (Nat.beq t (10 + a) && Nat.blt b n) && (W o b && (decide ((aivRq B o b).1 ≤ (abdRq cs x).1) && decide ((abdRq cs x).2 ≤ (aivRq B o b).2)))) && (Nat.beq c 0 || (Nat.beq c 2 && (decide (0 ≤ (abdRq cs x).1) && decide ((abdRq cs x).2 ≤ 1))))) ((match l with
    | [o] => ago (cs, (o, b, x) :: T, pc + len, al, r)
    | l => ago (cs, adrop l b T, pc + len, al, r))) (none)
  | _ => none
theorem aq21Rq_e : @aq21Rq = @aq21 := by
  delta aq21Rq aq21
  try rw [abdRq_e]
  try rw [aivRq_e]
  try rw [aallRq_e]
  try rw [cnRqz_e]
  first | done | rfl
noncomputable def ainRq (S : Nat → Option (Nat × Nat)) (cs : aCs) (i : aI) (l : List Nat) (f : Nat → Nat → Bool) : Bool := decide (0 ≤ (abdRq cs i).1) && aallRq S l (fun o t n => f o t && decide ((abdRq cs i).2 < n))
theorem ainRq_e : @ainRq = @ain := by
  delta ainRq ain
  try rw [abdRq_e]
  try rw [aallRq_e]
  first | done | rfl
noncomputable def ajoinKRq (B : aB) (l : List Nat) : List Nat → Int × Int
  | [] => (1, 0)
  | [k] => ajoinRq B k l
  | k :: k2 :: ks => (min (ajoinRq B k l).1 (ajoinKRq B l (k2 :: ks)).1, max (ajoinRq B k l).2 (ajoinKRq B l (k2 :: ks)).2)
theorem ajoinKRq_e : @ajoinKRq = @ajoinK := by
  funext B_s l_s k_s
  induction k_s with
  | nil => rfl
  | cons p r ih => cases r with
    | nil => show ajoinRq B_s p l_s = ajoin B_s p l_s; rw [ajoinRq_e]
    | cons q s => simp only [ajoinKRq, ajoinK, ajoinRq_e] at ih ⊢ <;> rw [ih]
noncomputable def aq22Rq (S : Nat → Option (Nat × Nat)) (B : aB) (len : Nat) : aX → Option aR := fun (cs, T, pc, al, st) => match st with
  | .inl (.inl i) :: .inr l :: r => cnRqz (ainRq S cs i l (fun _ t => Nat.beq t 0 || Nat.beq t 5)) ((match i with
    | .inr n => aqnRq B cs T (pc + len) al r n.toNat l
    | .inl _ => cnRqz (alRqz l (aisA B)) (ago ((anewRq cs (ajoinRq B 0 l)).1, T, pc + len, al, .inl (.inl (anewRq cs (ajoinRq B 0 l)).2) :: r)) (ago ((anewRq cs (ajoinKRq B l (aixs (abdRq cs i)))).1, T, pc + len, al, .inl (.inl (anewRq cs (ajoinKRq B l (aixs (abdRq cs i)))).2) :: r)))) (none)
  | _ => none
theorem aq22Rq_e : @aq22Rq = @aq22 := by
  delta aq22Rq aq22
  try rw [abdRq_e]
  try rw [anewRq_e]
  try rw [ajoinRq_e]
  try rw [aqnRq_e]
  try rw [ainRq_e]
  try rw [ajoinKRq_e]
  try rw [alRqz_e]
  try rw [cnRqz_e]
  first | done | rfl
noncomputable def aq23Rq (S : Nat → Option (Nat × Nat)) (len : Nat) : aX → Option aR := fun (cs, T, pc, al, st) => match st with
  | .inl (.inl i) :: .inr l :: r => cnRqz (ainRq S cs i l (fun _ t => Nat.beq t 1)) (ago ((anewRq cs afulL).1, T, pc + len, al, .inl (.inr (anewRq cs afulL).2) :: r)) (none)
  | _ => none
theorem aq23Rq_e : @aq23Rq = @aq23 := by
  delta aq23Rq aq23
  try rw [anewRq_e]
  try rw [ainRq_e]
  try rw [cnRqz_e]
  first | done | rfl
noncomputable def aq24Rq (S : Nat → Option (Nat × Nat)) (rf : Nat → Nat → List Nat) (len : Nat) : aX → Option aR := fun (cs, T, pc, al, st) => match st with
  | .inl (.inl i) :: .inr l :: r => cnRqz (ainRq S cs i l (fun _ t => Nat.ble 2 t && Nat.ble t 4)) ((match arows rf l (aixs (abdRq cs i)) with
    | some m => ago (cs, T, pc + len, al, .inr m :: r)
    | none => none)) (none)
  | _ => none
theorem aq24Rq_e : @aq24Rq = @aq24 := by
  delta aq24Rq aq24
  try rw [abdRq_e]
  try rw [ainRq_e]
  try rw [cnRqz_e]
  first | done | rfl
noncomputable def afitRq (B : aB) (q p : Int × Int) (o : Nat) : Bool := cnRqz (aisA B o) (decide ((aivRq B o 0).1 ≤ p.1) && decide (p.2 ≤ (aivRq B o 0).2)) ((aixs q).all (fun k => decide ((aivRq B o k).1 ≤ p.1) && decide (p.2 ≤ (aivRq B o k).2)))
theorem afitRq_e : @afitRq = @afit := by
  delta afitRq afit
  try rw [aivRq_e]
  try rw [cnRqz_e]
  first | done | rfl
noncomputable def aq25Rq (S : Nat → Option (Nat × Nat)) (B : aB) (W : Nat → Nat → Bool) (WA : Nat → Bool) (len : Nat) : aX → Option aR := fun (cs, T, pc, al, st) => match st with
  | .inl (.inl x) :: .inl (.inl i) :: .inr l :: r => cnRqz (ainRq S cs i l (fun o t => Nat.beq t 0 && afitRq B (abdRq cs i) (abdRq cs x) o)) ((match i, l with
    | .inr n, [o] => cnRqz (W o n.toNat) (ago (cs, (o, n.toNat, x) :: T, pc + len, al, r)) (none)
    | _, _ => cnRqz (l.all WA) (ago (cs, adropR l (abdRq cs i) T, pc + len, al, r)) (none))) (none)
  | _ => none
theorem aq25Rq_e : @aq25Rq = @aq25 := by
  delta aq25Rq aq25
  try rw [abdRq_e]
  try rw [ainRq_e]
  try rw [afitRq_e]
  try rw [cnRqz_e]
  first | done | rfl
noncomputable def aq26Rq (S : Nat → Option (Nat × Nat)) (len : Nat) : aX → Option aR := fun (cs, T, pc, al, st) => match st with
  | .inl (.inr _) :: .inl (.inl i) :: .inr l :: r => cnRqz (ainRq S cs i l (fun _ t => Nat.beq t 1)) (ago (cs, T, pc + len, al, r)) (none)
  | _ => none
theorem aq26Rq_e : @aq26Rq = @aq26 := by
  delta aq26Rq aq26
  try rw [ainRq_e]
  try rw [cnRqz_e]
  first | done | rfl
noncomputable def aq28Rq (S : Nat → Option (Nat × Nat)) (len : Nat) : aX → Option aR := fun (cs, T, pc, al, st) => match st with
  | .inr (o1 :: l) :: r => (match S o1 with
    | some (_, n) => cnRqz (aallRq S (o1 :: l) (fun _ t m => Nat.ble t 5 && Nat.beq m n)) (ago (cs, T, pc + len, al, .inl (.inl (.inr (Int32.ofNat n).toInt)) :: r)) (none)
    | none => none)
  | _ => none
theorem aq28Rq_e : @aq28Rq = @aq28 := by
  delta aq28Rq aq28
  try rw [aallRq_e]
  try rw [cnRqz_e]
  first | done | rfl
noncomputable def aq35Rq (c : Nat) : aX → Option aR := fun (cs, _, _, _, st) => match st with
  | [.inl (.inl x)] => (match c with
    | 1 => cnRqz (decide (0 ≤ (abdRq cs x).1) && decide ((abdRq cs x).2 ≤ 1)) (some (.inr (.inr (some (.inl (.inl x)))))) (none)
    | _ => some (.inr (.inr (some (.inl (.inl x))))))
  | _ => none
theorem aq35Rq_e : @aq35Rq = @aq35 := by
  delta aq35Rq aq35
  try rw [abdRq_e]
  try rw [cnRqz_e]
  first | done | rfl
noncomputable def atakeRq (n : Nat) : List aV → List aV → Option (List aV × List aV) := Nat.rec (motive := fun _ => List aV → List aV → Option (List aV × List aV)) (fun acc st => some (acc, st)) (fun _ ih acc st => List.rec (motive := fun _ => Option (List aV × List aV)) none (fun v r _ => ih (v :: acc) r) st) n
theorem atakeRq_e : @atakeRq = @atake := by
  funext n_s acc_s st_s
  induction n_s generalizing acc_s st_s with
  | zero => rfl
  | succ n ih => cases st_s with
    | nil => rfl
    | cons v r => exact ih (v :: acc_s) r
noncomputable def aq32Rq (S : Nat → Option (Nat × Nat)) (len a b c ci : Nat) : aX → Option aR := fun (cs, T, pc, al, st) => match atakeRq b [] st with
  | some (as, r) => cnRqz (Nat.ble (acat r) 8) ((match c with
    | 1 => some (.inr (.inl (a, as, (cs, T, pc + len, al, r))))
    | _ => (match as with
      | .inr l :: _ => cnRqz (aallRq S l (fun _ t _ => Nat.beq t (10 + ci))) (some (.inr (.inl (a, as, (cs, T, pc + len, al, r))))) (none)
      | _ => none))) (none)
  | none => none
theorem aq32Rq_e : @aq32Rq = @aq32 := by
  delta aq32Rq aq32
  try rw [aallRq_e]
  try rw [atakeRq_e]
  try rw [cnRqz_e]
  first | done | rfl
noncomputable def aq31aRq (len : Nat) : aX → Option aR := fun (cs, T, pc, al, st) => match st with
  | .inl (.inl y) :: .inl (.inl x) :: r => cnRqz (Nat.ble (acat r) 8) (ago ((anewRq cs (max (abdRq cs x).1 (abdRq cs y).1, max (abdRq cs x).2 (abdRq cs y).2)).1, T, pc + len, al, .inl (.inl (anewRq cs (max (abdRq cs x).1 (abdRq cs y).1, max (abdRq cs x).2 (abdRq cs y).2)).2) :: r)) (none)
  | _ => none
theorem aq31aRq_e : @aq31aRq = @aq31a := by
  delta aq31aRq aq31a
  try rw [abdRq_e]
  try rw [anewRq_e]
  try rw [cnRqz_e]
  first | done | rfl
noncomputable def aq31bRq (len : Nat) : aX → Option aR := fun (cs, T, pc, al, st) => match st with
  | .inl (.inl y) :: .inl (.inl x) :: r => cnRqz (Nat.ble (acat r) 8) (ago ((anewRq cs (min (abdRq cs x).1 (abdRq cs y).1, min (abdRq cs x).2 (abdRq cs y).2)).1, T, pc + len, al, .inl (.inl (anewRq cs (min (abdRq cs x).1 (abdRq cs y).1, min (abdRq cs x).2 (abdRq cs y).2)).2) :: r)) (none)
  | _ => none
theorem aq31bRq_e : @aq31bRq = @aq31b := by
  delta aq31bRq aq31b
  try rw [abdRq_e]
  try rw [anewRq_e]
  try rw [cnRqz_e]
  first | done | rfl
noncomputable def aq31cRq (len : Nat) : aX → Option aR := fun (cs, T, pc, al, st) => match st with
  | .inl (.inl x) :: r => cnRqz (Nat.ble (acat r) 8 && decide (-2147483647 ≤ (abdRq cs x).1)) (ago ((anewRq cs (0, max (-(abdRq cs x).1) (abdRq cs x).2)).1, T, pc + len, al, .inl (.inl (anewRq cs (0, max (-(abdRq cs x).1) (abdRq cs x).2)).2) :: r)) (none)
  | _ => none
theorem aq31cRq_e : @aq31cRq = @aq31c := by
  delta aq31cRq aq31c
  try rw [abdRq_e]
  try rw [anewRq_e]
  try rw [cnRqz_e]
  first | done | rfl
noncomputable def aq31Rq (len b : Nat) (X : aX) : Option aR := match b with
  | 0 => aq31aRq len X
  | 1 => aq31bRq len X
  | _ => aq31cRq len X
theorem aq31Rq_e : @aq31Rq = @aq31 := by
  delta aq31Rq aq31
  try rw [aq31aRq_e]
  try rw [aq31bRq_e]
  try rw [aq31cRq_e]
  first | done | rfl
noncomputable def aq34iRq (S : Nat → Option (Nat × Nat)) (B : aB) (WA : Nat → Bool) (len : Nat) : aX → Option aR := fun (cs, T, pc, al, st) => match st with
  | .inl (.inl n) :: .inl (.inl dp) :: .inr l1 :: .inl (.inl sp) :: .inr l0 :: r => cnRqz ((Nat.ble (acat r) 8 && ((decide (0 ≤ (abdRq cs n).1) && decide ((abdRq cs n).2 < 100000)) && ((decide (0 ≤ (abdRq cs sp).1) && decide ((abdRq cs sp).2 < 100000)) && (decide (0 ≤ (abdRq cs dp).1) && decide ((abdRq cs dp).2 < 100000))))) && (aallRq S l0 (fun o t m => (Nat.beq t 0 && aisA B o) && decide ((abdRq cs sp).2 + (abdRq cs n).2 ≤ m)) && aallRq S l1 (fun o t m => ((Nat.beq t 0 && aisA B o) && decide ((abdRq cs dp).2 + (abdRq cs n).2 ≤ m)) && (WA o && alRqz l0 (fun q => decide ((aivRq B o 0).1 ≤ (aivRq B q 0).1) && decide ((aivRq B q 0).2 ≤ (aivRq B o 0).2)))))) (ago (cs, adropA l1 T, pc + len, al, r)) (none)
  | _ => none
theorem aq34iRq_e : @aq34iRq = @aq34i := by
  delta aq34iRq aq34i
  try rw [abdRq_e]
  try rw [aivRq_e]
  try rw [aallRq_e]
  try rw [alRqz_e]
  try rw [cnRqz_e]
  first | done | rfl
noncomputable def aq34lRq (S : Nat → Option (Nat × Nat)) (len : Nat) : aX → Option aR := fun (cs, T, pc, al, st) => match st with
  | .inl (.inl n) :: .inl (.inl dp) :: .inr l1 :: .inl (.inl sp) :: .inr l0 :: r => cnRqz ((Nat.ble (acat r) 8 && ((decide (0 ≤ (abdRq cs n).1) && decide ((abdRq cs n).2 < 100000)) && ((decide (0 ≤ (abdRq cs sp).1) && decide ((abdRq cs sp).2 < 100000)) && (decide (0 ≤ (abdRq cs dp).1) && decide ((abdRq cs dp).2 < 100000))))) && (aallRq S l0 (fun _ t m => Nat.beq t 1 && decide ((abdRq cs sp).2 + (abdRq cs n).2 ≤ m)) && aallRq S l1 (fun _ t m => Nat.beq t 1 && decide ((abdRq cs dp).2 + (abdRq cs n).2 ≤ m)))) (ago (cs, T, pc + len, al, r)) (none)
  | _ => none
theorem aq34lRq_e : @aq34lRq = @aq34l := by
  delta aq34lRq aq34l
  try rw [abdRq_e]
  try rw [aallRq_e]
  try rw [cnRqz_e]
  first | done | rfl
noncomputable def aq34Rq (S : Nat → Option (Nat × Nat)) (B : aB) (WA : Nat → Bool) (len : Nat) (X : aX) : Option aR := match aq34iRq S B WA len X with
  | some r => some r
  | none => aq34lRq S len X
theorem aq34Rq_e : @aq34Rq = @aq34 := by
  delta aq34Rq aq34
  try rw [aq34iRq_e]
  try rw [aq34lRq_e]
  first | done | rfl
noncomputable def aq21rRq (S : Nat → Option (Nat × Nat)) (rf : Nat → Nat → List Nat) (len a b c : Nat) : aX → Option aR := fun (cs, T, pc, al, st) => match st with
  | .inr m :: .inr l :: r => cnRqz ((aallRq S l (fun o t n => (Nat.beq t (10 + a) && Nat.blt b n) && alRqz m (fun q => (rf o b).elem q))) && Nat.beq c 1) (ago (cs, T, pc + len, al, r)) (none)
  | _ => none
theorem aq21rRq_e : @aq21rRq = @aq21r := by
  delta aq21rRq aq21r
  try rw [aallRq_e]
  try rw [alRqz_e]
  try rw [cnRqz_e]
  first | done | rfl
noncomputable def aq21xRq (S : Nat → Option (Nat × Nat)) (rf : Nat → Nat → List Nat) (B : aB) (W : Nat → Nat → Bool) (len a b c : Nat) (X : aX) : Option aR := match aq21Rq S B W len a b c X with
  | some r => some r
  | none => aq21rRq S rf len a b c X
theorem aq21xRq_e : @aq21xRq = @aq21x := by
  delta aq21xRq aq21x
  try rw [aq21Rq_e]
  try rw [aq21rRq_e]
  first | done | rfl
noncomputable def astepFRq (S : Nat → Option (Nat × Nat)) (rf : Nat → Nat → List Nat) (B : aB) (W : Nat → Nat → Bool) (WA : Nat → Bool) : zI → aX → Option aR := fun (op, len, a, b, c, v, sw) X => cnRqz (Nat.blt op 45) ((cnRqz (Nat.blt op 22) ((cnRqz (Nat.blt op 11) ((cnRqz (Nat.blt op 5) ((cnRqz (Nat.blt op 2) ((cnRqz (Nat.blt op 1) (aq0 len v X) (aq1Rq len a X))) ((cnRqz (Nat.blt op 3) (aq2Rq len a X) ((cnRqz (Nat.blt op 4) (aq3Rq len a X) (aq4Rq len a X))))))) ((cnRqz (Nat.blt op 8) ((cnRqz (Nat.blt op 6) (aq5Rq len a X) ((cnRqz (Nat.blt op 7) (aq6Rq len a X) (aq7Rq len b X))))) ((cnRqz (Nat.blt op 9) (aq8Rq len b X) ((cnRqz (Nat.blt op 10) (aq9Rq len b X) (aq10 len X))))))))) ((cnRqz (Nat.blt op 16) ((cnRqz (Nat.blt op 13) ((cnRqz (Nat.blt op 12) (aq11Rq len X) (aq12Rq len X))) ((cnRqz (Nat.blt op 14) (aq13Rq len X) ((cnRqz (Nat.blt op 15) (aq14Rq len X) (aq15Rq len a b X))))))) ((cnRqz (Nat.blt op 19) ((cnRqz (Nat.blt op 17) (aq16Rq len a b X) ((cnRqz (Nat.blt op 18) (aq17 a X) (aq18Rq a sw X))))) ((cnRqz (Nat.blt op 20) (aq19Rq len a v X) ((cnRqz (Nat.blt op 21) (aq20Rq S rf B len a b c X) (aq21xRq S rf B W len a b c X))))))))))) ((cnRqz (Nat.blt op 33) ((cnRqz (Nat.blt op 27) ((cnRqz (Nat.blt op 24) ((cnRqz (Nat.blt op 23) (aq22Rq S B len X) (aq23Rq S len X))) ((cnRqz (Nat.blt op 25) (aq24Rq S rf len X) ((cnRqz (Nat.blt op 26) (aq25Rq S B W WA len X) (aq26Rq S len X))))))) ((cnRqz (Nat.blt op 30) ((cnRqz (Nat.blt op 28) (none) ((cnRqz (Nat.blt op 29) (aq28Rq S len X) (none))))) ((cnRqz (Nat.blt op 31) (none) ((cnRqz (Nat.blt op 32) (aq31Rq len b X) (none))))))))) ((cnRqz (Nat.blt op 39) ((cnRqz (Nat.blt op 36) ((cnRqz (Nat.blt op 34) (none) ((cnRqz (Nat.blt op 35) (aq34Rq S B WA len X) (none))))) (none))) ((cnRqz (Nat.blt op 42) ((cnRqz (Nat.blt op 40) (aq39Rq len X) ((cnRqz (Nat.blt op 41) (aq40Rq len X) (aq41Rq len X))))) ((cnRqz (Nat.blt op 43) (aq42Rq len X) ((cnRqz (Nat.blt op 44) (aq43 len a X) (aq44Rq len X))))))))))))) (none)
theorem astepFRq_e : @astepFRq = @astepF := by
  delta astepFRq astepF
  try rw [aq1Rq_e]
  try rw [aq2Rq_e]
  try rw [aq3Rq_e]
  try rw [aq4Rq_e]
  try rw [aq5Rq_e]
  try rw [aq6Rq_e]
  try rw [aq7Rq_e]
  try rw [aq8Rq_e]
  try rw [aq9Rq_e]
  try rw [aq11Rq_e]
  try rw [aq12Rq_e]
  try rw [aq13Rq_e]
  try rw [aq14Rq_e]
  try rw [aq15Rq_e]
  try rw [aq16Rq_e]
  try rw [aq18Rq_e]
  try rw [aq19Rq_e]
  try rw [aq39Rq_e]
  try rw [aq40Rq_e]
  try rw [aq41Rq_e]
  try rw [aq42Rq_e]
  try rw [aq44Rq_e]
  try rw [aq20Rq_e]
  try rw [aq22Rq_e]
  try rw [aq23Rq_e]
  try rw [aq24Rq_e]
  try rw [aq25Rq_e]
  try rw [aq26Rq_e]
  try rw [aq28Rq_e]
  try rw [aq31Rq_e]
  try rw [aq34Rq_e]
  try rw [aq21xRq_e]
  try rw [cnRqz_e]
  first | done | rfl
noncomputable def astepRRq : zI → aX → Option aR := fun (op, _, _, _, c, _, _) X => cnRqz (Nat.blt op 35) (none) (cnRqz (Nat.beq op 35) (aq35Rq c X) (cnRqz (Nat.beq op 36) (aq36 X) (cnRqz (Nat.beq op 37) (aq37 X) (cnRqz (Nat.beq op 38) (aq38 X) (none)))))
theorem astepRRq_e : @astepRRq = @astepR := by
  delta astepRRq astepR
  try rw [aq35Rq_e]
  try rw [cnRqz_e]
  first | done | rfl
noncomputable def astepCRq (S : Nat → Option (Nat × Nat)) : zI → aX → Option aR := fun (op, len, a, b, c, _, _) X => cnRqz (Nat.beq op 32) (aq32Rq S len a b (c % 4) (c / 4) X) (none)
theorem astepCRq_e : @astepCRq = @astepC := by
  delta astepCRq astepC
  try rw [aq32Rq_e]
  try rw [cnRqz_e]
  first | done | rfl
noncomputable def aokRq (cs : aCs) : aI → Bool
  | .inl (k, _) => Nat.blt k (lnRqz cs)
  | .inr _ => true
theorem aokRq_e : @aokRq = @aok := by
  delta aokRq aok
  try rw [lnRqz_e]
  first | done | rfl
noncomputable def amIRq (sg : List aI) (cs : aCs) (a b : aI) : Bool := match a with
  | .inl (k, off) => (match zgetRq sg k with
    | some s => aeqI (aoff off s) b
    | none => false)
  | .inr n => ieq (abdRq cs b).1 n && ieq (abdRq cs b).2 n
theorem amIRq_e : @amIRq = @amI := by
  delta amIRq amI
  try rw [zgetRq_e]
  try rw [abdRq_e]
  first | done | rfl
noncomputable def amVRq (sg : List aI) (cs : aCs) : aV → aV → Bool
  | .inl (.inl a), .inl (.inl b) => amIRq sg cs a b
  | .inl (.inr a), .inl (.inr b) => amIRq sg cs a b
  | .inr l, .inr l' => alRqz l' l.elem
  | _, _ => false
theorem amVRq_e : @amVRq = @amV := by
  delta amVRq amV
  try rw [amIRq_e]
  try rw [alRqz_e]
  first | done | rfl
noncomputable def amSRq (sg : List aI) (cs : aCs) : List aV → List aV → Bool
  | [], [] => true
  | a :: r, b :: s => amVRq sg cs a b && amSRq sg cs r s
  | _, _ => false
theorem amSRq_e : @amSRq = @amS := by
  funext sg_s cs_s A_s s_s
  induction A_s generalizing s_s with
  | nil => cases s_s <;> rfl
  | cons q r ih => cases s_s with
    | nil => rfl
    | cons s0 sr =>
      show (amVRq sg_s cs_s q s0 && amSRq sg_s cs_s r sr) = (amV sg_s cs_s q s0 && amS sg_s cs_s r sr)
      rw [ih, amVRq_e]
noncomputable def amLRq (sg : List aI) (cs : aCs) (A : List (Option aV)) : List (Option aV) → Bool := List.rec (motive := fun _ => List (Option aV) → Bool) (fun s => List.rec (motive := fun _ => Bool) true (fun _ _ _ => false) s) (fun q _ ih s => List.rec (motive := fun _ => Bool) false (fun s0 sr _ => Option.rec (motive := fun _ => Bool) (ih sr) (fun a => Option.rec (motive := fun _ => Bool) false (fun b => Bool.rec (motive := fun _ => Bool) false (ih sr) (amVRq sg cs a b)) s0) q) s) A
theorem amLRq_e : @amLRq = @amL := by
  funext sg_s cs_s A_s s_s
  induction A_s generalizing s_s with
  | nil => cases s_s <;> rfl
  | cons q r ih => cases s_s with
    | nil => cases q <;> rfl
    | cons s0 sr => cases q with
      | none => exact ih sr
      | some a => cases s0 with
        | none => rfl
        | some b =>
          show Bool.rec (motive := fun _ => Bool) false (amLRq sg_s cs_s r sr) (amVRq sg_s cs_s a b) = (amV sg_s cs_s a b && amL sg_s cs_s r sr)
          rw [ih, amVRq_e]
          cases amV sg_s cs_s a b <;> rfl
noncomputable def amTRq (sg : List aI) (cs : aCs) (T : aT) (A : aT) : Bool := List.rec (motive := fun _ => Bool) true (fun p _ ih => Option.rec (motive := fun _ => Bool) false (fun b => Bool.rec (motive := fun _ => Bool) false ih (amIRq sg cs p.2.2 b)) (afindRq T p.1 p.2.1)) A
theorem amTRq_e : @amTRq = @amT := by
  funext sg_s cs_s T_s A_s
  induction A_s with
  | nil => rfl
  | cons p r ih =>
    show Option.rec (motive := fun _ => Bool) false (fun b => Bool.rec (motive := fun _ => Bool) false (amTRq sg_s cs_s T_s r) (amIRq sg_s cs_s p.2.2 b)) (afindRq T_s p.1 p.2.1) = ((match afind T_s p.1 p.2.1 with
      | some b => amI sg_s cs_s p.2.2 b
      | none => false) && amT sg_s cs_s T_s r)
    rw [ih, amIRq_e, afindRq_e]
    cases afind T_s p.1 p.2.1 with
    | none => rfl
    | some b => exact brq_and
noncomputable def amBRq (cs : aCs) (A : aCs) : List aI → Bool := List.rec (motive := fun _ => List aI → Bool) (fun s => List.rec (motive := fun _ => Bool) true (fun _ _ _ => false) s) (fun q _ ih s => List.rec (motive := fun _ => Bool) false (fun s0 sg _ => Bool.rec (motive := fun _ => Bool) false (Bool.rec (motive := fun _ => Bool) false (Bool.rec (motive := fun _ => Bool) false (ih sg) (ile (abdRq cs s0).2 q.2)) (ile q.1 (abdRq cs s0).1)) (aokRq cs s0)) s) A
theorem amBRq_e : @amBRq = @amB := by
  funext cs_s A_s s_s
  induction A_s generalizing s_s with
  | nil => cases s_s <;> rfl
  | cons q r ih => cases s_s with
    | nil => rfl
    | cons s0 sg =>
      show Bool.rec (motive := fun _ => Bool) false (Bool.rec (motive := fun _ => Bool) false (Bool.rec (motive := fun _ => Bool) false (amBRq cs_s r sg) (ile (abdRq cs_s s0).2 q.2)) (ile q.1 (abdRq cs_s s0).1)) (aokRq cs_s s0) = ((aok cs_s s0 && (ile q.1 (abd cs_s s0).1 && ile (abd cs_s s0).2 q.2)) && amB cs_s r sg)
      rw [ih, abdRq_e, aokRq_e]
      cases aok cs_s s0 <;> cases ile q.1 (abd cs_s s0).1 <;> cases ile (abd cs_s s0).2 q.2 <;> rfl
noncomputable def ameetRq (sg : List aI) (A X : aX) : Bool := (amBRq X.1 A.1 sg && Nat.beq A.2.2.1 X.2.2.1) && (amLRq sg X.1 A.2.2.2.1 X.2.2.2.1 && (amSRq sg X.1 A.2.2.2.2 X.2.2.2.2 && amTRq sg X.1 X.2.1 A.2.1))
theorem ameetRq_e : @ameetRq = @ameet := by
  delta ameetRq ameet
  try rw [amSRq_e]
  try rw [amLRq_e]
  try rw [amTRq_e]
  try rw [amBRq_e]
  first | done | rfl
noncomputable def asLRq (A : List (Option aV)) : List (Option aV) → List (Nat × aI) → List (Nat × aI) := List.rec (motive := fun _ => List (Option aV) → List (Nat × aI) → List (Nat × aI)) (fun _ sg => sg) (fun q _ ih s sg => List.rec (motive := fun _ => List (Nat × aI)) sg (fun s0 sr _ => Option.rec (motive := fun _ => List (Nat × aI)) (ih sr sg) (fun a => Option.rec (motive := fun _ => List (Nat × aI)) (ih sr sg) (fun b => asV a b (ih sr sg)) s0) q) s) A
theorem asLRq_e : @asLRq = @asL := by
  funext A_s s_s sg_s
  induction A_s generalizing s_s sg_s with
  | nil => cases s_s <;> rfl
  | cons q r ih => cases s_s with
    | nil => cases q <;> rfl
    | cons s0 sr => cases q with
      | none => exact ih sr sg_s
      | some a => cases s0 with
        | none => exact ih sr sg_s
        | some b => exact congrArg (asV a b) (ih sr sg_s)
noncomputable def asTRq (T : aT) : aT → List (Nat × aI) → List (Nat × aI)
  | (o, k, a) :: r, sg => (match afindRq T o k with
    | some b => asI a b (asTRq T r sg)
    | none => asTRq T r sg)
  | [], sg => sg
theorem asTRq_e : @asTRq = @asT := by
  funext T_s l_s sg_s
  induction l_s generalizing sg_s with
  | nil => first | rfl | simp only [asTRq, asT]
  | cons p r ih => simp only [asTRq, asT, afindRq_e, ih] <;> first | rfl | (split <;> rfl)
noncomputable def asFRq (l : List (Nat × aI)) (k : Nat) : aI := List.rec (motive := fun _ => aI) (.inr 0) (fun p _ ih => Bool.rec (motive := fun _ => aI) ih p.2 (Nat.beq p.1 k)) l
theorem asFRq_e : @asFRq = @asF := by
  funext l_s k_s
  induction l_s with
  | nil => rfl
  | cons p r ih =>
    show Bool.rec (motive := fun _ => aI) (asFRq r k_s) p.2 (Nat.beq p.1 k_s) = bif Nat.beq p.1 k_s then p.2 else asF r k_s
    rw [ih]
    cases Nat.beq p.1 k_s <;> rfl
noncomputable def asgRq (A X : aX) : List aI :=
  let l := asLRq A.2.2.2.1 X.2.2.2.1 (asS A.2.2.2.2 X.2.2.2.2 (asTRq X.2.1 A.2.1 []))
  (List.range (lnRqz A.1)).map (asFRq l)
theorem asgRq_e : @asgRq = @asg := by
  delta asgRq asg
  try rw [asLRq_e]
  try rw [asTRq_e]
  try rw [asFRq_e]
  try rw [lnRqz_e]
  first | done | rfl
noncomputable def almuRq (b : Bool) (x y : Int) : Int := cnRqz (b) (imaxRq 0 (-x)) (imaxRq 0 (iminRq (-x) y))
theorem almuRq_e : @almuRq = @almu := by
  delta almuRq almu
  try rw [imaxRq_e]
  try rw [iminRq_e]
  try rw [cnRqz_e]
  first | done | rfl
noncomputable def alfsRq (b : Bool) : aD → Int × aLn → Int × aLn
  | [], p => p
  | (k, j, c) :: r, p => alfsRq b r (p.1 - almuRq b (alco k p.2) (alco j p.2) * c, alad (almuRq b (alco k p.2) (alco j p.2)) k (alad (-(almuRq b (alco k p.2) (alco j p.2))) j p.2))
theorem alfsRq_e : @alfsRq = @alfs := by
  funext b_s l_s p_s
  induction l_s generalizing p_s with
  | nil => first | rfl | simp only [alfsRq, alfs]
  | cons p r ih => simp only [alfsRq, alfs, almuRq_e, ih] <;> first | rfl | (split <;> rfl)
noncomputable def alupRq (cs : aCs) : aLn → Option Int
  | [] => some 0
  | (c, k) :: r => (match zgetRq cs k, alupRq cs r with
    | some q, some u => some ((bif ile 0 c then c * q.2 else c * q.1) + u)
    | _, _ => none)
theorem alupRq_e : @alupRq = @alup := by
  funext cs_s l_s
  induction l_s with
  | nil => first | rfl | simp only [alupRq, alup]
  | cons p r ih => simp only [alupRq, alup, zgetRq_e, ih] <;> first | rfl | (split <;> rfl)
noncomputable def ale1Rq (b : Bool) (cs : aCs) (ds : aD) (p : Int × aLn) : Bool := match alupRq cs (alfsRq b ds p).2 with
  | some u => ile ((alfsRq b ds p).1 + u) 0
  | none => false
theorem ale1Rq_e : @ale1Rq = @ale1 := by
  delta ale1Rq ale1
  try rw [alfsRq_e]
  try rw [alupRq_e]
  first | done | rfl
noncomputable def ale0Rq (cs : aCs) (ds : aD) (p : Int × aLn) : Bool := ale1Rq false cs ds p || ale1Rq true cs ds p
theorem ale0Rq_e : @ale0Rq = @ale0 := by
  delta ale0Rq ale0
  try rw [ale1Rq_e]
  first | done | rfl
noncomputable def alsgRq (sg : List aI) : aLn → Int × aLn → Int × aLn
  | [], p => p
  | (c, k) :: r, p => alsgRq sg r (match zgetRq sg k with
    | some a => alI c a p
    | none => p)
theorem alsgRq_e : @alsgRq = @alsg := by
  funext sg_s l_s p_s
  induction l_s generalizing p_s with
  | nil => first | rfl | simp only [alsgRq, alsg]
  | cons p r ih => simp only [alsgRq, alsg, zgetRq_e, ih] <;> first | rfl | (split <;> rfl)
noncomputable def adsMRq (sg : List aI) (cs : aCs) (ds : aD) : aD → Bool
  | [] => true
  | (k, j, c) :: r => (match zgetRq sg k, zgetRq sg j with
    | some a, some b => ale0Rq cs ds (alI 1 b (alI (-1) a (c, [])))
    | _, _ => false) && adsMRq sg cs ds r
theorem adsMRq_e : @adsMRq = @adsM := by
  funext sg_s cs_s ds_s l_s
  induction l_s with
  | nil => first | rfl | simp only [adsMRq, adsM]
  | cons p r ih => simp only [adsMRq, adsM, zgetRq_e, ale0Rq_e, ih] <;> first | rfl | (split <;> rfl)
noncomputable def aprRq : aDf → aCs → Option aCs
  | [], cs => some cs
  | (k, a, b) :: r, cs => (match zgetRq cs k with
    | some q => (match arfRq cs b ((abdRq cs a).1 - q.2, (abdRq cs a).2 - q.1) with
      | some c => aprRq r c
      | none => none)
    | none => aprRq r cs)
theorem aprRq_e : @aprRq = @apr := by
  funext l_s cs_s
  induction l_s generalizing cs_s with
  | nil => first | rfl | simp only [aprRq, apr]
  | cons p r ih => simp only [aprRq, apr, zgetRq_e, abdRq_e, arfRq_e, ih] <;> first | rfl | (split <;> rfl)
noncomputable def aprqRq : aDq → aCs → Option aCs
  | [], cs => some cs
  | (k, b, x, d) :: r, cs => bif decide ((abdRq cs x).1 = (abdRq cs x).2) then (match arfRq cs (.inl (k, 0)) ((zdv b (Int32.ofInt (abdRq cs x).1) (Int32.ofInt d)).toInt, (zdv b (Int32.ofInt (abdRq cs x).1) (Int32.ofInt d)).toInt) with
    | some c => aprqRq r c
    | none => none) else bif (Nat.beq b 0 && decide (0 < (Int32.ofInt d).toInt)) && decide (0 ≤ (abdRq cs (.inl (k, 0))).2) then (match arfRq cs x (-abig, (abdRq cs (.inl (k, 0))).2 * (Int32.ofInt d).toInt + (Int32.ofInt d).toInt - 1) with
    | some c => aprqRq r c
    | none => none) else aprqRq r cs
theorem aprqRq_e : @aprqRq = @aprq := by
  funext l_s cs_s
  induction l_s generalizing cs_s with
  | nil => first | rfl | simp only [aprqRq, aprq]
  | cons p r ih => simp only [aprqRq, aprq, abdRq_e, arfRq_e, ih] <;> first | rfl | (split <;> rfl)
noncomputable def aargsRq (l : List aV) : List (Option aV) := List.rec (motive := fun _ => List (Option aV)) [] (fun v _ ih => Bool.rec (motive := fun _ => List (Option aV)) (some v :: ih) (some v :: none :: ih) (aisL v)) l
theorem aargsRq_e : @aargsRq = @aargs := by
  funext l_s
  induction l_s with
  | nil => rfl
  | cons v r ih =>
    show Bool.rec (motive := fun _ => List (Option aV)) (some v :: aargsRq r) (some v :: none :: aargsRq r) (aisL v) = bif aisL v then some v :: none :: aargs r else some v :: aargs r
    rw [ih]
    cases aisL v <;> rfl
noncomputable def apadRq (n : Nat) : List (Option aV) → List (Option aV) := Nat.rec (motive := fun _ => List (Option aV) → List (Option aV)) (fun l => l) (fun _ ih l => List.rec (motive := fun _ => List (Option aV)) (none :: ih []) (fun a r _ => a :: ih r) l) n
theorem apadRq_e : @apadRq = @apad := by
  funext n_s l_s
  induction n_s generalizing l_s with
  | zero => rfl
  | succ n ih => cases l_s with
    | nil => exact congrArg (List.cons none) (ih [])
    | cons a r => exact congrArg (List.cons a) (ih r)
noncomputable def an1Rq (cs : aCs) : aV → aV
  | .inl (.inl (.inl (k, o))) => (match zgetRq cs k with
    | some q => cnRqz (ieq q.1 q.2) (.inl (.inl (.inr (q.1 + o)))) (.inl (.inl (.inl (k, o))))
    | none => .inl (.inl (.inl (k, o))))
  | v => v
theorem an1Rq_e : @an1Rq = @an1 := by
  delta an1Rq an1
  try rw [zgetRq_e]
  try rw [cnRqz_e]
  first | done | rfl
noncomputable def anrmRq (X : aX) : aX := (X.1, X.2.1, X.2.2.1, X.2.2.2.1, X.2.2.2.2.map (an1Rq X.1))
theorem anrmRq_e : @anrmRq = @anrm := by
  delta anrmRq anrm
  try rw [an1Rq_e]
  first | done | rfl
noncomputable def asp2Rq (X : aX) (a : aI) (l h : Int) (w : Nat) : List aX := aoptRq (fun c => (c, X.2)) (arfRq X.1 a (-abig, l - 1)) ++ (aoptRq (fun c => (c, X.2)) (arfRq X.1 a (h + 1, abig)) ++ (List.range ((h - l).toNat / (w + 1) + 1)).flatMap (fun (n : Nat) => aoptRq (fun c => (c, X.2)) (arfRq X.1 a (l + ((n * (w + 1) : Nat) : Int), l + ((n * (w + 1) + w : Nat) : Int)))))
theorem asp2Rq_e : @asp2Rq = @asp2 := by
  delta asp2Rq asp2
  try rw [arfRq_e]
  try rw [aoptRq_e]
  first | done | rfl
noncomputable def asplRq (X : aX) (p : Nat × Int × Int × Nat) : List aX := match zgetRq X.2.2.2.1 p.1 with
  | some (some (.inl (.inl a))) => asp2Rq X a (imaxRq p.2.1 (abdRq X.1 a).1) (iminRq p.2.2.1 (abdRq X.1 a).2) p.2.2.2
  | some (some (.inr l)) => l.map (fun o => (X.1, X.2.1, X.2.2.1, zputRq X.2.2.2.1 p.1 (some (.inr [o])), X.2.2.2.2))
  | _ => [X]
theorem asplRq_e : @asplRq = @aspl := by
  delta asplRq aspl
  try rw [zgetRq_e]
  try rw [zputRq_e]
  try rw [abdRq_e]
  try rw [imaxRq_e]
  try rw [iminRq_e]
  try rw [asp2Rq_e]
  first | done | rfl
noncomputable def awpRq (l : List (Nat × Nat)) (o k : Nat) : Bool := List.rec (motive := fun _ => Bool) false (fun p _ ih => Bool.rec (motive := fun _ => Bool) ih (Bool.rec (motive := fun _ => Bool) ih true (Nat.beq p.2 k)) (Nat.beq p.1 o)) l
theorem awpRq_e : @awpRq = @awp := by
  funext l_s o_s k_s
  induction l_s with
  | nil => rfl
  | cons p r ih =>
    show Bool.rec (motive := fun _ => Bool) (awpRq r o_s k_s) (Bool.rec (motive := fun _ => Bool) (awpRq r o_s k_s) true (Nat.beq p.2 k_s)) (Nat.beq p.1 o_s) = ((Nat.beq p.1 o_s && Nat.beq p.2 k_s) || awp r o_s k_s)
    rw [ih]
    cases Nat.beq p.1 o_s <;> cases Nat.beq p.2 k_s <;> cases awp r o_s k_s <;> rfl
noncomputable def aweRq (l : List Nat) (o : Nat) : Bool := List.rec (motive := fun _ => Bool) false (fun p _ ih => Bool.rec (motive := fun _ => Bool) ih true (Nat.beq p o)) l
theorem aweRq_e : @aweRq = @awe := by
  funext l_s o_s
  induction l_s with
  | nil => rfl
  | cons p r ih =>
    show Bool.rec (motive := fun _ => Bool) (aweRq r o_s) true (Nat.beq p o_s) = (Nat.beq p o_s || awe r o_s)
    rw [ih]
    cases Nat.beq p o_s <;> rfl
noncomputable def aWARq (W : aW) (o : Nat) : Bool := !Nat.beq o 0 && aweRq W.2 o
theorem aWARq_e : @aWARq = @aWA := by
  delta aWARq aWA
  try rw [aweRq_e]
  first | done | rfl
noncomputable def aWfRq (W : aW) (o k : Nat) : Bool := !Nat.beq o 0 && (aweRq W.2 o || awpRq W.1 o k)
theorem aWfRq_e : @aWfRq = @aWf := by
  delta aWfRq aWf
  try rw [awpRq_e]
  try rw [aweRq_e]
  first | done | rfl
noncomputable def awsubRq (V W : aW) : Bool := alRqz V.2 (aWARq W) && alRqz V.1 (fun p => aWfRq W p.1 p.2)
theorem awsubRq_e : @awsubRq = @awsub := by
  delta awsubRq awsub
  try rw [aWARq_e]
  try rw [aWfRq_e]
  try rw [alRqz_e]
  first | done | rfl
noncomputable def awnRq (W : aW) : aW := (W.1.filter (fun p => !aWfRq aJJ p.1 p.2), W.2.filter (fun o => !(aweRq [102, 104, 105, 106] o)))
theorem awnRq_e : @awnRq = @awn := by
  delta awnRq awn
  try rw [aweRq_e]
  try rw [aWfRq_e]
  first | done | rfl
noncomputable def atrRq (sg : List aI) (n : Nat) (a : aI) : aI := match a with
  | .inl (k, o) => (match zgetRq sg k with
    | some s => aoff o s
    | none => .inl (n + (k - (lnRqz sg)), o))
  | .inr c => .inr c
theorem atrRq_e : @atrRq = @atr := by
  delta atrRq atr
  try rw [zgetRq_e]
  try rw [lnRqz_e]
  first | done | rfl
noncomputable def atrVRq (sg : List aI) (n : Nat) : aV → aV
  | .inl (.inl a) => .inl (.inl (atrRq sg n a))
  | .inl (.inr a) => .inl (.inr (atrRq sg n a))
  | .inr l => .inr l
theorem atrVRq_e : @atrVRq = @atrV := by
  delta atrVRq atrV
  try rw [atrRq_e]
  first | done | rfl
noncomputable def atrTRq (sg : List aI) (n : Nat) : aT → aT → aT
  | [], T => T
  | (o, k, a) :: r, T => (o, k, atrRq sg n a) :: atrTRq sg n r T
theorem atrTRq_e : @atrTRq = @atrT := by
  funext sg_s n_s l_s T_s
  induction l_s with
  | nil => first | rfl | simp only [atrTRq, atrT]
  | cons p r ih => simp only [atrTRq, atrT, atrRq_e, ih] <;> first | rfl | (split <;> rfl)
noncomputable def atfRq (W : aW) (T : aT) : aT := List.rec (motive := fun _ => aT) [] (fun p _ ih => Bool.rec (motive := fun _ => aT) (p :: ih) ih (aWfRq W p.1 p.2.1)) T
theorem atfRq_e : @atfRq = @atf := by
  funext W_s l_s
  induction l_s with
  | nil => rfl
  | cons p r ih =>
    show Bool.rec (motive := fun _ => aT) (p :: atfRq W_s r) (atfRq W_s r) (aWfRq W_s p.1 p.2.1) = bif aWf W_s p.1 p.2.1 then atf W_s r else p :: atf W_s r
    rw [ih, aWfRq_e]
    cases aWf W_s p.1 p.2.1 <;> rfl
noncomputable def atrDRq (sg : List aI) (n : Nat) : aD → aD → aD
  | [], ds => ds
  | (k, j, c) :: r, ds => (match atrRq sg n (.inl (k, 0)), atrRq sg n (.inl (j, 0)) with
    | .inl (k', o1), .inl (j', o2) => (k', j', c + o2 - o1) :: atrDRq sg n r ds
    | _, _ => atrDRq sg n r ds)
theorem atrDRq_e : @atrDRq = @atrD := by
  funext sg_s n_s l_s ds_s
  induction l_s with
  | nil => first | rfl | simp only [atrDRq, atrD]
  | cons p r ih => simp only [atrDRq, atrD, atrRq_e, ih] <;> first | rfl | (split <;> rfl)
noncomputable def atrRRq (sg : List aI) (n : Nat) : aDr → aDr → aDr
  | [], dr => dr
  | (lo, a) :: r, dr => (lo, atrRq sg n a) :: atrRRq sg n r dr
theorem atrRRq_e : @atrRRq = @atrR := by
  funext sg_s n_s l_s ds_s
  induction l_s with
  | nil => first | rfl | simp only [atrRRq, atrR]
  | cons p r ih => simp only [atrRRq, atrR, atrRq_e, ih] <;> first | rfl | (split <;> rfl)
noncomputable def acall2Rq (e : aE) (Wl : aW) (d : Nat) (Z X1 : aX) (ds : aD) (hf : aHf) (sg : List aI) : Option (aX × aD × aHf) := cnRqz (((ameetRq sg e.2.2.1 X1 && adsMRq sg Z.1 ds e.2.2.2.1.1) && e.2.2.2.1.2.isNone) && (Nat.ble e.2.1 d && (awsubRq e.2.2.2.2.2 Wl && Nat.beq (lnRqz X1.2.2.2.1) (zL e.1)))) (some ((Z.1 ++ e.2.2.2.2.1.1, atrTRq sg (lnRqz Z.1) e.2.2.2.2.1.2.1 (atfRq e.2.2.2.2.2 Z.2.1), Z.2.2.1, Z.2.2.2.1, (e.2.2.2.2.1.2.2.1.map (atrVRq sg (lnRqz Z.1))).toList ++ Z.2.2.2.2), atrDRq sg (lnRqz Z.1) e.2.2.2.2.1.2.2.2.1 ds, cnRqz (aWfRq e.2.2.2.2.2 1000 0) (([], atrRRq sg (lnRqz Z.1) e.2.2.2.2.1.2.2.2.2 [], hf.2.2)) ((hf.1, atrRRq sg (lnRqz Z.1) e.2.2.2.2.1.2.2.2.2 hf.2.1, hf.2.2)))) (none)
theorem acall2Rq_e : @acall2Rq = @acall2 := by
  delta acall2Rq acall2
  try rw [ameetRq_e]
  try rw [adsMRq_e]
  try rw [aWfRq_e]
  try rw [awsubRq_e]
  try rw [atrVRq_e]
  try rw [atrTRq_e]
  try rw [atfRq_e]
  try rw [atrDRq_e]
  try rw [atrRRq_e]
  try rw [lnRqz_e]
  try rw [cnRqz_e]
  first | done | rfl
noncomputable def aentRq (Z : aX) (m : Nat) (xs : List aV) : aX := (Z.1, Z.2.1, 0, apadRq (zL m) (aargsRq xs), [])
theorem aentRq_e : @aentRq = @aent := by
  delta aentRq aent
  try rw [aargsRq_e]
  try rw [apadRq_e]
  first | done | rfl
noncomputable def acallRq (m : Nat) (Wl : aW) (d : Nat) (Z X1 : aX) (ds : aD) (hf : aHf) (l : List aE) : Option (aX × aD × aHf) := List.rec (motive := fun _ => Option (aX × aD × aHf)) none (fun e _ ih => Bool.rec (motive := fun _ => Option (aX × aD × aHf)) ih (Option.rec (motive := fun _ => Option (aX × aD × aHf)) ih (fun p => some p) (acall2Rq e Wl d Z X1 ds hf (asgRq e.2.2.1 X1))) (Nat.beq e.1 m)) l
theorem acallRq_e : @acallRq = @acall := by
  funext m_s Wl_s d_s Z_s X_s ds_s hf_s l_s
  induction l_s with
  | nil => rfl
  | cons e r ih =>
    show Bool.rec (motive := fun _ => Option (aX × aD × aHf)) (acallRq m_s Wl_s d_s Z_s X_s ds_s hf_s r) (Option.rec (motive := fun _ => Option (aX × aD × aHf)) (acallRq m_s Wl_s d_s Z_s X_s ds_s hf_s r) (fun p => some p) (acall2Rq e Wl_s d_s Z_s X_s ds_s hf_s (asgRq e.2.2.1 X_s))) (Nat.beq e.1 m_s) = bif Nat.beq e.1 m_s then (match acall2 e Wl_s d_s Z_s X_s ds_s hf_s (asg e.2.2.1 X_s) with
      | some p => some p
      | none => acall m_s Wl_s d_s Z_s X_s ds_s hf_s r) else acall m_s Wl_s d_s Z_s X_s ds_s hf_s r
    rw [ih, acall2Rq_e, asgRq_e]
    cases Nat.beq e.1 m_s
    · rfl
    · cases acall2 e Wl_s d_s Z_s X_s ds_s hf_s (asg e.2.2.1 X_s) <;> rfl
noncomputable def aanyRq (m : Nat) (l : List aE) : Bool := List.rec (motive := fun _ => Bool) false (fun e _ ih => Bool.rec (motive := fun _ => Bool) ih true (Nat.beq e.1 m)) l
theorem aanyRq_e : @aanyRq = @aany := by
  funext m_s l_s
  induction l_s with
  | nil => rfl
  | cons p r ih =>
    show Bool.rec (motive := fun _ => Bool) (aanyRq m_s r) true (Nat.beq p.1 m_s) = (Nat.beq p.1 m_s || aany m_s r)
    rw [ih]
    cases Nat.beq p.1 m_s <;> rfl
noncomputable def adf2Rq (X : aX) : aDf := match X.2.2.2.2 with
  | .inl (.inl (.inl y)) :: .inl (.inl (.inl x)) :: _ => cnRqz (aok32 ((abdRq X.1 (.inl x)).1 - (abdRq X.1 (.inl y)).2, (abdRq X.1 (.inl x)).2 - (abdRq X.1 (.inl y)).1)) ([((lnRqz X.1), .inl x, .inl y)]) ([])
  | _ => []
theorem adf2Rq_e : @adf2Rq = @adf2 := by
  delta adf2Rq adf2
  try rw [abdRq_e]
  try rw [lnRqz_e]
  try rw [cnRqz_e]
  first | done | rfl
noncomputable def adf1Rq : zI → aX → aDf := fun (op, _, _, b, _, _, _) X => cnRqz (Nat.beq op 7 && Nat.beq b 1) (adf2Rq X) ([])
theorem adf1Rq_e : @adf1Rq = @adf1 := by
  delta adf1Rq adf1
  try rw [adf2Rq_e]
  try rw [cnRqz_e]
  first | done | rfl
noncomputable def adq2Rq (b : Nat) (X : aX) : aDq := match X.2.2.2.2 with
  | .inl (.inl (.inr d)) :: .inl (.inl (.inl x)) :: _ => cnRqz (decide (0 < d)) ([((lnRqz X.1), b, .inl x, d)]) ([])
  | _ => []
theorem adq2Rq_e : @adq2Rq = @adq2 := by
  delta adq2Rq adq2
  try rw [lnRqz_e]
  try rw [cnRqz_e]
  first | done | rfl
noncomputable def adq1Rq : zI → aX → aDq := fun (op, _, _, b, _, _, _) X => cnRqz (Nat.beq op 8) (adq2Rq b X) ([])
theorem adq1Rq_e : @adq1Rq = @adq1 := by
  delta adq1Rq adq1
  try rw [adq2Rq_e]
  try rw [cnRqz_e]
  first | done | rfl
noncomputable def acs2Rq (len b : Nat) (dq : aDq) (X : aX) : Option aX := match X.2.2.2.2 with
  | .inl (.inl (.inr d)) :: .inl (.inl (.inl x)) :: r => cnRqz (decide (0 < d)) ((match acs3 b (.inl x) d dq with
    | some k => some (X.1, X.2.1, X.2.2.1 + len, X.2.2.2.1, .inl (.inl (.inl (k, 0))) :: r)
    | none => none)) (none)
  | _ => none
theorem acs2Rq_e : @acs2Rq = @acs2 := by
  delta acs2Rq acs2
  try rw [cnRqz_e]
  first | done | rfl
noncomputable def acseRq : zI → aDq → aX → Option aX := fun (op, len, _, b, _, _, _) dq X => cnRqz (Nat.beq op 8) (acs2Rq len b dq X) (none)
theorem acseRq_e : @acseRq = @acse := by
  delta acseRq acse
  try rw [acs2Rq_e]
  try rw [cnRqz_e]
  first | done | rfl
noncomputable def aprsRq (df : aDf) (dq : aDq) (l : List aX) : List aX := List.rec (motive := fun _ => List aX) [] (fun Z _ ih => Option.rec (motive := fun _ => List aX) ih (fun c => Option.rec (motive := fun _ => List aX) ih (fun c2 => (c2, Z.2) :: ih) (aprqRq dq c)) (aprRq df Z.1)) l
theorem aprsRq_e : @aprsRq = @aprs := by
  funext df_s dq_s l_s
  induction l_s with
  | nil => rfl
  | cons Z r ih =>
    show Option.rec (motive := fun _ => List aX) (aprsRq df_s dq_s r) (fun c => Option.rec (motive := fun _ => List aX) (aprsRq df_s dq_s r) (fun c2 => (c2, Z.2) :: aprsRq df_s dq_s r) (aprqRq dq_s c)) (aprRq df_s Z.1) = (match apr df_s Z.1 with
      | some c => (match aprq dq_s c with
        | some c2 => (c2, Z.2) :: aprs df_s dq_s r
        | none => aprs df_s dq_s r)
      | none => aprs df_s dq_s r)
    rw [ih, aprRq_e, aprqRq_e]
    cases apr df_s Z.1 with
    | none => rfl
    | some c => cases hq : aprq dq_s c <;> simp only [hq]
noncomputable def adb3Rq (len a b pc : Nat) (X : aX) : aD := match X.2.2.2.2 with
  | .inl (.inl (.inl (ky, oy))) :: .inl (.inl (.inl (kx, ox))) :: _ => cnRqz (Nat.beq a (X.2.2.1 + len)) ([]) (adb2 b (Nat.beq pc a) kx ky ox oy)
  | _ => []
theorem adb3Rq_e : @adb3Rq = @adb3 := by
  delta adb3Rq adb3
  try rw [cnRqz_e]
  first | done | rfl
noncomputable def adb1Rq (pc : Nat) : zI → aX → aD := fun (op, len, a, b, _, _, _) X => cnRqz (Nat.beq op 16) (adb3Rq len a b pc X) ([])
theorem adb1Rq_e : @adb1Rq = @adb1 := by
  delta adb1Rq adb1
  try rw [adb3Rq_e]
  try rw [cnRqz_e]
  first | done | rfl
noncomputable def ascrRq (ds : aD) (sl : aSc) : zI → aX → Option (aX × aSc) := fun (op, len, _, _, _, _, _) X => match sl.1 with
  | none => none
  | some k => cnRqz (Nat.beq op 28) ((match X.2.2.2.2 with
    | .inr [0] :: r => cnRqz (Nat.blt k (lnRqz X.1)) (some ((X.1, X.2.1, X.2.2.1 + len, X.2.2.2.1, .inl (.inl (.inl (k, 0))) :: r), sl)) (none)
    | _ => none)) (cnRqz (Nat.beq op 22) ((match X.2.2.2.2 with
    | .inl (.inl i) :: .inr [0] :: r => cnRqz (ile 0 (abdRq X.1 i).1 && ale0Rq X.1 ds (alI 1 i (alI (-1) (.inl (k, 0)) (1, [])))) ((match aldf i sl.2 with
      | some j => some ((X.1, X.2.1, X.2.2.1 + len, X.2.2.2.1, .inl (.inl (.inl (j, 0))) :: r), sl)
      | none => some ((apRqz X.1 [afull], X.2.1, X.2.2.1 + len, X.2.2.2.1, .inl (.inl (.inl ((lnRqz X.1), 0))) :: r), (sl.1, (i, (lnRqz X.1)) :: sl.2)))) (none)
    | _ => none)) (none))
theorem ascrRq_e : @ascrRq = @ascr := by
  delta ascrRq ascr
  try rw [abdRq_e]
  try rw [ale0Rq_e]
  try rw [lnRqz_e]
  try rw [apRqz_e]
  try rw [cnRqz_e]
  first | done | rfl
noncomputable def adrnRq (cs : aCs) (ds : aD) (i : aI) : aDr → Bool
  | [] => false
  | (lo, v) :: r => (ale0Rq cs ds (alI (-1) i (lo, [])) && ale0Rq cs ds (alI (-1) v (alI 1 i (1 - lo, [])))) || adrnRq cs ds i r
theorem adrnRq_e : @adrnRq = @adrn := by
  funext cs_s ds_s i_s l_s
  induction l_s with
  | nil => first | rfl | simp only [adrnRq, adrn]
  | cons p r ih => simp only [adrnRq, adrn, ale0Rq_e, ih] <;> first | rfl | (split <;> rfl)
noncomputable def along2Rq (S : Nat → Option (Nat × Nat)) (ds : aD) (hf : aHf) (len : Nat) (X : aX) : Option (aX × aHf) := match X.2.2.2.2 with
  | .inl (.inl i) :: .inr [o] :: r => cnRqz (Nat.beq o 126 && ainRq S X.1 i [126] (fun _ t => Nat.beq t 1)) ((match aldf i hf.1 with
    | some k => cnRqz (Nat.blt k (lnRqz X.1)) (some ((X.1, X.2.1, X.2.2.1 + len, X.2.2.2.1, .inl (.inr (.inl (k, 0))) :: r), hf)) (none)
    | none => some ((apRqz X.1 [cnRqz (adrnRq X.1 ds i hf.2.1) ((0, 11)) (afulL)], X.2.1, X.2.2.1 + len, X.2.2.2.1, .inl (.inr (.inl ((lnRqz X.1), 0))) :: r), ((i, (lnRqz X.1)) :: hf.1, hf.2)))) (none)
  | _ => none
theorem along2Rq_e : @along2Rq = @along2 := by
  delta along2Rq along2
  try rw [ainRq_e]
  try rw [adrnRq_e]
  try rw [lnRqz_e]
  try rw [apRqz_e]
  try rw [cnRqz_e]
  first | done | rfl
noncomputable def alongRq (S : Nat → Option (Nat × Nat)) (ds : aD) (hf : aHf) : zI → aX → Option (aX × aHf) := fun (op, len, _, _, _, _, _) X => cnRqz (Nat.beq op 23) (along2Rq S ds hf len X) (none)
theorem alongRq_e : @alongRq = @along := by
  delta alongRq along
  try rw [along2Rq_e]
  try rw [cnRqz_e]
  first | done | rfl
noncomputable def aspecRq (S : Nat → Option (Nat × Nat)) (e : zI) (G : aG) (X : aX) : Option (aX × aHf) := match acseRq e G.2.2.1 X with
  | some Z => some (Z, G.2.2.2)
  | none => (match ascrRq G.1 G.2.2.2.2.2 e X with
    | some p => some (p.1, (G.2.2.2.1, G.2.2.2.2.1, p.2))
    | none => alongRq S G.1 G.2.2.2 e X)
theorem aspecRq_e : @aspecRq = @aspec := by
  delta aspecRq aspec
  try rw [acseRq_e]
  try rw [ascrRq_e]
  try rw [alongRq_e]
  first | done | rfl
noncomputable def alwRq (Wl : aW) : zI → Bool := fun (op, _, _, _, _, _, _) => !(Nat.beq op 26 || Nat.beq op 34) || aWfRq (awnRq Wl) 1000 0
theorem alwRq_e : @alwRq = @alw := by
  delta alwRq alw
  try rw [aWfRq_e]
  try rw [awnRq_e]
  first | done | rfl
noncomputable def ahkRq (hf : aHf) : zI → aHf := fun (op, _, _, _, _, _, _) => cnRqz (Nat.beq op 26 || Nat.beq op 34) (([], [], hf.2.2)) (hf)
theorem ahkRq_e : @ahkRq = @ahk := by
  delta ahkRq ahk
  try rw [cnRqz_e]
  first | done | rfl
noncomputable def acore2Rq (S : Nat → Option (Nat × Nat)) (rf : Nat → Nat → List Nat) (B : aB) (es : List aE) (Wl : aW) (d : Nat) (X : aX) (G : aG) (mi : Nat) (gs : List aFm) (e : zI) : Option (List (Nat × aY) ⊕ (aX × Option aV)) := (match astepRRq e X with
    | some (.inr (.inr w)) => (match gs with
      | [] => some (.inr (X, w))
      | g :: gs' => some (.inl [(d + 1, ((X.1, X.2.1, g.2.1, g.2.2.1, w.toList ++ g.2.2.2), G, g.1, gs'))]))
    | _ => (match astepCRq S e X with
      | some (.inr (.inl (m, xs, Z))) => (match d with
        | 0 => none
        | d' + 1 => cnRqz (aanyRq m es) ((match acallRq m Wl d' Z (aentRq Z m xs) G.1 G.2.2.2 es with
          | some p => some (.inl [(d' + 1, (p.1, (p.2.1, G.2.1, G.2.2.1, p.2.2), mi, gs))])
          | none => none)) (cnRqz (Nat.beq (apadRq (zL m) (aargsRq xs)).length (zL m)) (some (.inl [(d', (aentRq Z m xs, G, m, (mi, Z.2.2.1, Z.2.2.2.1, Z.2.2.2.2) :: gs))])) (none)))
      | _ => (match aspecRq S e G X with
        | some p => some (.inl [(d, (p.1, (G.1, G.2.1, G.2.2.1, p.2), mi, gs))])
        | none => cnRqz (alwRq Wl e) ((match astepFRq S rf B (aWfRq (awnRq Wl)) (aWARq (awnRq Wl)) e X with
          | some (.inl Ys) => some (.inl ((aprsRq (adf1Rq e X ++ G.2.1) (adq1Rq e X ++ G.2.2.1) Ys).map (fun Z => (d, (Z, (cnRqz (gs.isEmpty) (adb1Rq Z.2.2.1 e X ++ G.1) (G.1), adf1Rq e X ++ G.2.1, adq1Rq e X ++ G.2.2.1, ahkRq G.2.2.2 e), mi, gs)))))
          | _ => none)) (none))))
theorem acore2Rq_e : @acore2Rq = @acore2 := by
  delta acore2Rq acore2
  try rw [astepFRq_e]
  try rw [astepRRq_e]
  try rw [astepCRq_e]
  try rw [aargsRq_e]
  try rw [apadRq_e]
  try rw [aWARq_e]
  try rw [aWfRq_e]
  try rw [awnRq_e]
  try rw [aentRq_e]
  try rw [acallRq_e]
  try rw [aanyRq_e]
  try rw [adf1Rq_e]
  try rw [adq1Rq_e]
  try rw [aprsRq_e]
  try rw [adb1Rq_e]
  try rw [aspecRq_e]
  try rw [alwRq_e]
  try rw [ahkRq_e]
  try rw [cnRqz_e]
  first | done | rfl
noncomputable def acorePRq (S : Nat → Option (Nat × Nat)) (rf : Nat → Nat → List Nat) (B : aB) (Wl : aW) (d : Nat) (X : aX) (G : aG) (mi : Nat) (gs : List aFm) (e : zI) : Option (List (Nat × aY) ⊕ (aX × Option aV)) := match astepFRq S rf B (aWfRq (awnRq Wl)) (aWARq (awnRq Wl)) e X with
  | some (.inl Ys) => some (.inl (Ys.map (fun Z => (d, (Z, G, mi, gs)))))
  | _ => none
theorem acorePRq_e : @acorePRq = @acoreP := by
  delta acorePRq acoreP
  try rw [astepFRq_e]
  try rw [aWARq_e]
  try rw [aWfRq_e]
  try rw [awnRq_e]
  first | done | rfl
noncomputable def alcbRq (X : aX) (len : Nat) : zI → Option (List aX) := fun (op, len2, a2, b2, _, _, _) => cnRqz (Nat.beq op 15) ((match X.2.2.2.2 with
  | .inl (.inr y) :: .inl (.inr x) :: r => some (aoptRq (fun c => (c, X.2.1, a2, X.2.2.2.1, r)) (acmpRq X.1 b2 x y).1 ++ aoptRq (fun c => (c, X.2.1, X.2.2.1 + len + len2, X.2.2.2.1, r)) (acmpRq X.1 b2 x y).2)
  | _ => none)) (none)
theorem alcbRq_e : @alcbRq = @alcb := by
  delta alcbRq alcb
  try rw [aoptRq_e]
  try rw [acmpRq_e]
  try rw [cnRqz_e]
  first | done | rfl
noncomputable def alcxRq (X : aX) (mi : Nat) : zI → Option (List aX) := fun (op, len, _, _, _, _, _) => cnRqz (Nat.beq op 14) ((match zif3 mi (X.2.2.1 + len) with
  | some e2 => alcbRq X len e2
  | none => none)) (none)
theorem alcxRq_e : @alcxRq = @alcx := by
  delta alcxRq alcx
  try rw [alcbRq_e]
  try rw [cnRqz_e]
  first | done | rfl
noncomputable def acore1Rq (S : Nat → Option (Nat × Nat)) (rf : Nat → Nat → List Nat) (B : aB) (es : List aE) (Wl : aW) (d : Nat) (X : aX) (G : aG) (mi : Nat) (gs : List aFm) (e : zI) : Option (List (Nat × aY) ⊕ (aX × Option aV)) := cnRqz (apl e) (acorePRq S rf B Wl d X G mi gs e) ((match alcxRq X mi e with
  | some Ys => some (.inl ((aprsRq G.2.1 G.2.2.1 Ys).map (fun Z => (d, (Z, G, mi, gs)))))
  | none => acore2Rq S rf B es Wl d X G mi gs e))
theorem acore1Rq_e : @acore1Rq = @acore1 := by
  delta acore1Rq acore1
  try rw [aprsRq_e]
  try rw [acore2Rq_e]
  try rw [acorePRq_e]
  try rw [alcxRq_e]
  try rw [cnRqz_e]
  first | done | rfl
noncomputable def anrRq : zI → aX → aX := fun (op, _, _, _, _, _, _) X => cnRqz (Nat.beq op 7 || (Nat.beq op 8 || (Nat.beq op 22 || Nat.beq op 25))) (anrmRq X) (X)
theorem anrRq_e : @anrRq = @anr := by
  delta anrRq anr
  try rw [anrmRq_e]
  try rw [cnRqz_e]
  first | done | rfl
noncomputable def acoreRq (S : Nat → Option (Nat × Nat)) (rf : Nat → Nat → List Nat) (B : aB) (es : List aE) (Wl : aW) (d : Nat) (X : aX) (G : aG) (mi : Nat) (gs : List aFm) : Option (List (Nat × aY) ⊕ (aX × Option aV)) := match zif3 mi X.2.2.1 with
  | none => none
  | some e => acore1Rq S rf B es Wl d (anrRq e X) G mi gs e
theorem acoreRq_e : @acoreRq = @acore := by
  delta acoreRq acore
  try rw [acore1Rq_e]
  try rw [anrRq_e]
  first | done | rfl
noncomputable def arunYRq (S : Nat → Option (Nat × Nat)) (rf : Nat → Nat → List Nat) (B : aB) (es : List aE) (Wl : aW) (sp : Nat → Nat → Option (Nat × Int × Int × Nat)) (mi0 : Nat) (cutp : Nat → Bool) (leafC : Nat → aX → aG → Bool) (leafR : aX → Option aV → aG → Bool) (f : Nat) : Nat → Bool → aY → Bool := Nat.rec (motive := fun _ => Nat → Bool → aY → Bool) (fun _ _ _ => false) (fun _ ih d b Y => bif !b && (Y.2.2.2.isEmpty && (Nat.beq Y.2.2.1 mi0 && cutp Y.1.2.2.1)) then leafC d Y.1 Y.2.1 else alRqz (match sp Y.2.2.1 Y.1.2.2.1 with
    | some i => asplRq Y.1 i
    | none => [Y.1]) (fun Z => match acoreRq S rf B es Wl d Z Y.2.1 Y.2.2.1 Y.2.2.2 with
      | some (.inl Ys) => alRqz Ys (fun p => ih p.1 false p.2)
      | some (.inr p) => leafR p.1 p.2 Y.2.1
      | none => false)) f
theorem arunYRq_e : @arunYRq = @arunY := by
  funext S_s rf_s B_s es_s Wl_s sp_s mi_s cutp_s lc_s lr_s f_s
  induction f_s with
  | zero => rfl
  | succ f ih =>
    funext d_s b_s Y_s
    show (bif !b_s && (Y_s.2.2.2.isEmpty && (Nat.beq Y_s.2.2.1 mi_s && cutp_s Y_s.1.2.2.1)) then lc_s d_s Y_s.1 Y_s.2.1 else alRqz (match sp_s Y_s.2.2.1 Y_s.1.2.2.1 with
      | some i => asplRq Y_s.1 i
      | none => [Y_s.1]) (fun Z => match acoreRq S_s rf_s B_s es_s Wl_s d_s Z Y_s.2.1 Y_s.2.2.1 Y_s.2.2.2 with
        | some (.inl Ys) => alRqz Ys (fun p => arunYRq S_s rf_s B_s es_s Wl_s sp_s mi_s cutp_s lc_s lr_s f p.1 false p.2)
        | some (.inr p) => lr_s p.1 p.2 Y_s.2.1
        | none => false)) = _
    rw [alRqz_e, acoreRq_e, ih, asplRq_e]
    rfl
noncomputable def aidfRq (s n : Nat) : List aI := Nat.rec (motive := fun _ => Nat → List aI) (fun _ => []) (fun _ ih s => .inl (s, 0) :: ih (s + 1)) n s
theorem aidfRq_e : @aidfRq = @aidf := by
  funext s_s n_s
  induction n_s generalizing s_s with
  | zero => rfl
  | succ n ih => exact congrArg (List.cons (.inl (s_s, 0))) (ih (s_s + 1))
noncomputable def adr1Rq (cs : aCs) (hf : aHf) (lo : Int) (v : aI) : Bool := ile (abdRq cs v).2 0 || (anRqz hf.2.1 (fun p => ieq p.1 lo && (aeqI p.2 v || ile (abdRq cs v).2 (abdRq cs p.2).1)) || (anRqz hf.2.1 (fun p => ieq p.1 lo && aeqI p.2 (aoff (-1) v)) && (match aldf (aoff (lo - 1) v) hf.1 with
  | some k => ile 0 (abdRq cs (.inl (k, 0))).1 && (ile (abdRq cs (.inl (k, 0))).2 11 && Nat.blt k (lnRqz cs))
  | none => false)))
theorem adr1Rq_e : @adr1Rq = @adr1 := by
  delta adr1Rq adr1
  try rw [abdRq_e]
  try rw [lnRqz_e]
  try rw [anRqz_e]
  first | done | rfl
noncomputable def adrMRq (sg : List aI) (cs : aCs) (hf : aHf) : aDr → Bool
  | [] => true
  | (lo, a) :: r => (match a with
    | .inl (k, o) => (match zgetRq sg k with
      | some s => aokRq cs s && adr1Rq cs hf lo (aoff o s)
      | none => false)
    | .inr n => ile n 0) && adrMRq sg cs hf r
theorem adrMRq_e : @adrMRq = @adrM := by
  funext sg_s cs_s hf_s l_s
  induction l_s with
  | nil => first | rfl | simp only [adrMRq, adrM]
  | cons p r ih => simp only [adrMRq, adrM, zgetRq_e, aokRq_e, adr1Rq_e, ih] <;> first | rfl | (split <;> rfl)
noncomputable def asgpRq (n0 : Nat) (A X : aX) : List aI :=
  let l := asLRq A.2.2.2.1 X.2.2.2.1 (asS A.2.2.2.2 X.2.2.2.2 (asTRq X.2.1 A.2.1 []))
  aidfRq 0 n0 ++ (List.range' n0 ((lnRqz A.1) - n0)).map (asFRq l)
theorem asgpRq_e : @asgpRq = @asgp := by
  delta asgpRq asgp
  try rw [asLRq_e]
  try rw [asTRq_e]
  try rw [asFRq_e]
  try rw [aidfRq_e]
  try rw [lnRqz_e]
  first | done | rfl
noncomputable def alc1Rq (c : aC) (ms : Option (Int × aLn)) (X : aX) (G : aG) (sg : List aI) : Bool := ((ameetRq sg c.1 X && adsMRq sg X.1 G.1 c.2.1.1) && adrMRq sg X.1 G.2.2.2 c.2.1.2) && (match ms with
  | none => true
  | some m => ale0Rq X.1 G.1 (alng m.2 (alsgRq sg c.2.2.2 (c.2.2.1 + 1 - m.1, []))))
theorem alc1Rq_e : @alc1Rq = @alc1 := by
  delta alc1Rq alc1
  try rw [ameetRq_e]
  try rw [ale0Rq_e]
  try rw [alsgRq_e]
  try rw [adsMRq_e]
  try rw [adrMRq_e]
  first | done | rfl
noncomputable def alfCRq (cuts : List aC) (n0 d0 : Nat) (ms : Option (Int × aLn)) (d : Nat) (X : aX) (G : aG) : Bool := Nat.beq d d0 && anRqz cuts (fun c => Nat.beq c.1.2.2.1 X.2.2.1 && alc1Rq c ms X G (asgpRq n0 c.1 X))
theorem alfCRq_e : @alfCRq = @alfC := by
  delta alfCRq alfC
  try rw [asgpRq_e]
  try rw [alc1Rq_e]
  try rw [anRqz_e]
  first | done | rfl
noncomputable def amWRq (sg : List aI) (cs : aCs) : Option aV → Option aV → Bool
  | some a, some b => amVRq sg cs a b
  | none, none => true
  | _, _ => false
theorem amWRq_e : @amWRq = @amW := by
  delta amWRq amW
  try rw [amVRq_e]
  first | done | rfl
noncomputable def alr1Rq (e : aE) (n0 : Nat) (X : aX) (w : Option aV) (G : aG) (sr : List aI) : Bool := (amBRq X.1 e.2.2.2.2.1.1 sr && amWRq (aidfRq 0 n0 ++ sr) X.1 e.2.2.2.2.1.2.2.1 w) && (amTRq (aidfRq 0 n0 ++ sr) X.1 X.2.1 e.2.2.2.2.1.2.1 && (adsMRq (aidfRq 0 n0 ++ sr) X.1 G.1 e.2.2.2.2.1.2.2.2.1 && adrMRq (aidfRq 0 n0 ++ sr) X.1 G.2.2.2 e.2.2.2.2.1.2.2.2.2))
theorem alr1Rq_e : @alr1Rq = @alr1 := by
  delta alr1Rq alr1
  try rw [amTRq_e]
  try rw [amBRq_e]
  try rw [adsMRq_e]
  try rw [aidfRq_e]
  try rw [adrMRq_e]
  try rw [amWRq_e]
  first | done | rfl
noncomputable def asgrRq (e : aE) (n0 : Nat) (X : aX) (w : Option aV) : List aI :=
  let l := asTRq X.2.1 e.2.2.2.2.1.2.1 (match e.2.2.2.2.1.2.2.1, w with
    | some a, some b => asV a b []
    | _, _ => [])
  (List.range' n0 (lnRqz e.2.2.2.2.1.1)).map (asFRq l)
theorem asgrRq_e : @asgrRq = @asgr := by
  delta asgrRq asgr
  try rw [asTRq_e]
  try rw [asFRq_e]
  try rw [lnRqz_e]
  first | done | rfl
noncomputable def alfRRq (e : aE) (n0 : Nat) (X : aX) (w : Option aV) (G : aG) : Bool := alr1Rq e n0 X w G (asgrRq e n0 X w)
theorem alfRRq_e : @alfRRq = @alfR := by
  delta alfRRq alfR
  try rw [alr1Rq_e]
  try rw [asgrRq_e]
  first | done | rfl
noncomputable def acutpRq (cuts : List aC) (pc : Nat) : Bool := anRqz cuts (fun c => Nat.beq c.1.2.2.1 pc)
theorem acutpRq_e : @acutpRq = @acutp := by
  delta acutpRq acutp
  try rw [anRqz_e]
  first | done | rfl
noncomputable def asegRq (S : Nat → Option (Nat × Nat)) (rf : Nat → Nat → List Nat) (B : aB) (es : List aE) (sp : Nat → Nat → Option (Nat × Int × Int × Nat)) (e : aE) (cuts : List aC) (f : Nat) (c : Option aC) : Bool := match c with
  | none => arunYRq S rf B es e.2.2.2.2.2 sp e.1 (acutpRq cuts) (alfCRq cuts (lnRqz e.2.2.1.1) e.2.1 none) (alfRRq e (lnRqz e.2.2.1.1)) f e.2.1 true (e.2.2.1, (e.2.2.2.1.1, [], [], ([], [], (e.2.2.2.1.2, []))), e.1, [])
  | some c => arunYRq S rf B es e.2.2.2.2.2 sp e.1 (acutpRq cuts) (alfCRq cuts (lnRqz e.2.2.1.1) e.2.1 (some c.2.2)) (alfRRq e (lnRqz e.2.2.1.1)) f e.2.1 true (c.1, (c.2.1.1, [], [], ([], c.2.1.2, (e.2.2.2.1.2, []))), e.1, []) && (ale0Rq c.1.1 c.2.1.1 (alng c.2.2.2 (-c.2.2.1, [])) && alRqz c.2.2.2 (fun p => Nat.blt p.2 (lnRqz c.1.1)))
theorem asegRq_e : @asegRq = @aseg := by
  delta asegRq aseg
  try rw [ale0Rq_e]
  try rw [arunYRq_e]
  try rw [alfCRq_e]
  try rw [alfRRq_e]
  try rw [acutpRq_e]
  try rw [lnRqz_e]
  try rw [alRqz_e]
  first | done | rfl
theorem asgq {S : Nat → Option (Nat × Nat)} {rf : Nat → Nat → List Nat} {B : aB} {es : List aE} {sp : Nat → Nat → Option (Nat × Int × Int × Nat)} {e : aE} {cuts : List aC} {f : Nat} {c : Option aC} (h : asegRq S rf B es sp e cuts f c = true) : aseg S rf B es sp e cuts f c = true := by
  rw [← asegRq_e]
  exact h
/-! the steps of the checker by small functions, and that they say the same: printed by wip/gen/fast2.py -/
noncomputable def fcRqz {α : Type} (n_s : Nat) (k_s : Nat → α) : α := Nat.rec (motive := fun _ => α) (k_s 0) (fun m_s _ => k_s (Nat.succ m_s)) n_s
theorem fcRqz_e {α : Type} {n_s : Nat} {k_s : Nat → α} : fcRqz n_s k_s = k_s n_s := by cases n_s <;> rfl
theorem mpRqz_e : @mpRqz = @List.map := by
  funext a_s b_s f_s l_s
  induction l_s with
  | nil => rfl
  | cons a_s r_s ih_s => exact congrArg (List.cons (f_s a_s)) ih_s
noncomputable def zjN0 (mi : Nat) : Option (List (List (Option zI))) := cnRqz (Nat.ble 241 mi) (some zi_241) (some zi_240)
noncomputable def zjN1 (mi : Nat) : Option (List (List (Option zI))) := cnRqz (Nat.ble 239 mi) (some zi_239) (some zi_238)
noncomputable def zjN2 (mi : Nat) : Option (List (List (Option zI))) := cnRqz (Nat.ble 240 mi) (zjN0 mi) (zjN1 mi)
noncomputable def zjN3 (mi : Nat) : Option (List (List (Option zI))) := cnRqz (Nat.ble 237 mi) (some zi_237) (some zi_236)
noncomputable def zjN4 (mi : Nat) : Option (List (List (Option zI))) := cnRqz (Nat.ble 235 mi) (some zi_235) (some zi_234)
noncomputable def zjN5 (mi : Nat) : Option (List (List (Option zI))) := cnRqz (Nat.ble 236 mi) (zjN3 mi) (zjN4 mi)
noncomputable def zjN6 (mi : Nat) : Option (List (List (Option zI))) := cnRqz (Nat.ble 238 mi) (zjN2 mi) (zjN5 mi)
noncomputable def zjN7 (mi : Nat) : Option (List (List (Option zI))) := cnRqz (Nat.ble 233 mi) (some zi_233) (some zi_232)
noncomputable def zjN8 (mi : Nat) : Option (List (List (Option zI))) := cnRqz (Nat.ble 231 mi) (some zi_231) (some zi_230)
noncomputable def zjN9 (mi : Nat) : Option (List (List (Option zI))) := cnRqz (Nat.ble 232 mi) (zjN7 mi) (zjN8 mi)
noncomputable def zjN10 (mi : Nat) : Option (List (List (Option zI))) := cnRqz (Nat.ble 229 mi) (some zi_229) (some zi_228)
noncomputable def zjN11 (mi : Nat) : Option (List (List (Option zI))) := cnRqz (Nat.ble 227 mi) (some zi_227) (some zi_226)
noncomputable def zjN12 (mi : Nat) : Option (List (List (Option zI))) := cnRqz (Nat.ble 228 mi) (zjN10 mi) (zjN11 mi)
noncomputable def zjN13 (mi : Nat) : Option (List (List (Option zI))) := cnRqz (Nat.ble 230 mi) (zjN9 mi) (zjN12 mi)
noncomputable def zjN14 (mi : Nat) : Option (List (List (Option zI))) := cnRqz (Nat.ble 234 mi) (zjN6 mi) (zjN13 mi)
noncomputable def zjN15 (mi : Nat) : Option (List (List (Option zI))) := cnRqz (Nat.ble 225 mi) (some zi_225) (some zi_224)
noncomputable def zjN16 (mi : Nat) : Option (List (List (Option zI))) := cnRqz (Nat.ble 223 mi) (some zi_223) (some zi_222)
noncomputable def zjN17 (mi : Nat) : Option (List (List (Option zI))) := cnRqz (Nat.ble 224 mi) (zjN15 mi) (zjN16 mi)
noncomputable def zjN18 (mi : Nat) : Option (List (List (Option zI))) := cnRqz (Nat.ble 221 mi) (some zi_221) (some zi_220)
noncomputable def zjN19 (mi : Nat) : Option (List (List (Option zI))) := cnRqz (Nat.ble 219 mi) (some zi_219) (some zi_218)
noncomputable def zjN20 (mi : Nat) : Option (List (List (Option zI))) := cnRqz (Nat.ble 220 mi) (zjN18 mi) (zjN19 mi)
noncomputable def zjN21 (mi : Nat) : Option (List (List (Option zI))) := cnRqz (Nat.ble 222 mi) (zjN17 mi) (zjN20 mi)
noncomputable def zjN22 (mi : Nat) : Option (List (List (Option zI))) := cnRqz (Nat.ble 217 mi) (some zi_217) (some zi_216)
noncomputable def zjN23 (mi : Nat) : Option (List (List (Option zI))) := cnRqz (Nat.ble 215 mi) (some zi_215) (some zi_214)
noncomputable def zjN24 (mi : Nat) : Option (List (List (Option zI))) := cnRqz (Nat.ble 216 mi) (zjN22 mi) (zjN23 mi)
noncomputable def zjN25 (mi : Nat) : Option (List (List (Option zI))) := cnRqz (Nat.ble 213 mi) (some zi_213) (some zi_212)
noncomputable def zjN26 (mi : Nat) : Option (List (List (Option zI))) := cnRqz (Nat.ble 212 mi) (zjN25 mi) (some zi_211)
noncomputable def zjN27 (mi : Nat) : Option (List (List (Option zI))) := cnRqz (Nat.ble 214 mi) (zjN24 mi) (zjN26 mi)
noncomputable def zjN28 (mi : Nat) : Option (List (List (Option zI))) := cnRqz (Nat.ble 218 mi) (zjN21 mi) (zjN27 mi)
noncomputable def zjN29 (mi : Nat) : Option (List (List (Option zI))) := cnRqz (Nat.ble 226 mi) (zjN14 mi) (zjN28 mi)
noncomputable def zjN30 (mi : Nat) : Option (List (List (Option zI))) := cnRqz (Nat.ble 210 mi) (some zi_210) (some zi_209)
noncomputable def zjN31 (mi : Nat) : Option (List (List (Option zI))) := cnRqz (Nat.ble 208 mi) (some zi_208) (some zi_207)
noncomputable def zjN32 (mi : Nat) : Option (List (List (Option zI))) := cnRqz (Nat.ble 209 mi) (zjN30 mi) (zjN31 mi)
noncomputable def zjN33 (mi : Nat) : Option (List (List (Option zI))) := cnRqz (Nat.ble 206 mi) (some zi_206) (some zi_205)
noncomputable def zjN34 (mi : Nat) : Option (List (List (Option zI))) := cnRqz (Nat.ble 204 mi) (some zi_204) (some zi_203)
noncomputable def zjN35 (mi : Nat) : Option (List (List (Option zI))) := cnRqz (Nat.ble 205 mi) (zjN33 mi) (zjN34 mi)
noncomputable def zjN36 (mi : Nat) : Option (List (List (Option zI))) := cnRqz (Nat.ble 207 mi) (zjN32 mi) (zjN35 mi)
noncomputable def zjN37 (mi : Nat) : Option (List (List (Option zI))) := cnRqz (Nat.ble 202 mi) (some zi_202) (some zi_201)
noncomputable def zjN38 (mi : Nat) : Option (List (List (Option zI))) := cnRqz (Nat.ble 200 mi) (some zi_200) (some zi_199)
noncomputable def zjN39 (mi : Nat) : Option (List (List (Option zI))) := cnRqz (Nat.ble 201 mi) (zjN37 mi) (zjN38 mi)
noncomputable def zjN40 (mi : Nat) : Option (List (List (Option zI))) := cnRqz (Nat.ble 198 mi) (some zi_198) (some zi_197)
noncomputable def zjN41 (mi : Nat) : Option (List (List (Option zI))) := cnRqz (Nat.ble 197 mi) (zjN40 mi) (some zi_196)
noncomputable def zjN42 (mi : Nat) : Option (List (List (Option zI))) := cnRqz (Nat.ble 199 mi) (zjN39 mi) (zjN41 mi)
noncomputable def zjN43 (mi : Nat) : Option (List (List (Option zI))) := cnRqz (Nat.ble 203 mi) (zjN36 mi) (zjN42 mi)
noncomputable def zjN44 (mi : Nat) : Option (List (List (Option zI))) := cnRqz (Nat.ble 195 mi) (some zi_195) (some zi_194)
noncomputable def zjN45 (mi : Nat) : Option (List (List (Option zI))) := cnRqz (Nat.ble 193 mi) (some zi_193) (some zi_192)
noncomputable def zjN46 (mi : Nat) : Option (List (List (Option zI))) := cnRqz (Nat.ble 194 mi) (zjN44 mi) (zjN45 mi)
noncomputable def zjN47 (mi : Nat) : Option (List (List (Option zI))) := cnRqz (Nat.ble 191 mi) (some zi_191) (some zi_190)
noncomputable def zjN48 (mi : Nat) : Option (List (List (Option zI))) := cnRqz (Nat.ble 189 mi) (some zi_189) (some zi_188)
noncomputable def zjN49 (mi : Nat) : Option (List (List (Option zI))) := cnRqz (Nat.ble 190 mi) (zjN47 mi) (zjN48 mi)
noncomputable def zjN50 (mi : Nat) : Option (List (List (Option zI))) := cnRqz (Nat.ble 192 mi) (zjN46 mi) (zjN49 mi)
noncomputable def zjN51 (mi : Nat) : Option (List (List (Option zI))) := cnRqz (Nat.ble 187 mi) (some zi_187) (some zi_186)
noncomputable def zjN52 (mi : Nat) : Option (List (List (Option zI))) := cnRqz (Nat.ble 185 mi) (some zi_185) (some zi_184)
noncomputable def zjN53 (mi : Nat) : Option (List (List (Option zI))) := cnRqz (Nat.ble 186 mi) (zjN51 mi) (zjN52 mi)
noncomputable def zjN54 (mi : Nat) : Option (List (List (Option zI))) := cnRqz (Nat.ble 183 mi) (some zi_183) (some zi_182)
noncomputable def zjN55 (mi : Nat) : Option (List (List (Option zI))) := cnRqz (Nat.ble 182 mi) (zjN54 mi) (some zi_181)
noncomputable def zjN56 (mi : Nat) : Option (List (List (Option zI))) := cnRqz (Nat.ble 184 mi) (zjN53 mi) (zjN55 mi)
noncomputable def zjN57 (mi : Nat) : Option (List (List (Option zI))) := cnRqz (Nat.ble 188 mi) (zjN50 mi) (zjN56 mi)
noncomputable def zjN58 (mi : Nat) : Option (List (List (Option zI))) := cnRqz (Nat.ble 196 mi) (zjN43 mi) (zjN57 mi)
noncomputable def zjN59 (mi : Nat) : Option (List (List (Option zI))) := cnRqz (Nat.ble 211 mi) (zjN29 mi) (zjN58 mi)
noncomputable def zjN60 (mi : Nat) : Option (List (List (Option zI))) := cnRqz (Nat.ble 180 mi) (some zi_180) (some zi_179)
noncomputable def zjN61 (mi : Nat) : Option (List (List (Option zI))) := cnRqz (Nat.ble 178 mi) (some zi_178) (some zi_177)
noncomputable def zjN62 (mi : Nat) : Option (List (List (Option zI))) := cnRqz (Nat.ble 179 mi) (zjN60 mi) (zjN61 mi)
noncomputable def zjN63 (mi : Nat) : Option (List (List (Option zI))) := cnRqz (Nat.ble 176 mi) (some zi_176) (some zi_175)
noncomputable def zjN64 (mi : Nat) : Option (List (List (Option zI))) := cnRqz (Nat.ble 174 mi) (some zi_174) (some zi_173)
noncomputable def zjN65 (mi : Nat) : Option (List (List (Option zI))) := cnRqz (Nat.ble 175 mi) (zjN63 mi) (zjN64 mi)
noncomputable def zjN66 (mi : Nat) : Option (List (List (Option zI))) := cnRqz (Nat.ble 177 mi) (zjN62 mi) (zjN65 mi)
noncomputable def zjN67 (mi : Nat) : Option (List (List (Option zI))) := cnRqz (Nat.ble 172 mi) (some zi_172) (some zi_171)
noncomputable def zjN68 (mi : Nat) : Option (List (List (Option zI))) := cnRqz (Nat.ble 170 mi) (some zi_170) (some zi_169)
noncomputable def zjN69 (mi : Nat) : Option (List (List (Option zI))) := cnRqz (Nat.ble 171 mi) (zjN67 mi) (zjN68 mi)
noncomputable def zjN70 (mi : Nat) : Option (List (List (Option zI))) := cnRqz (Nat.ble 168 mi) (some zi_168) (some zi_167)
noncomputable def zjN71 (mi : Nat) : Option (List (List (Option zI))) := cnRqz (Nat.ble 167 mi) (zjN70 mi) (some zi_166)
noncomputable def zjN72 (mi : Nat) : Option (List (List (Option zI))) := cnRqz (Nat.ble 169 mi) (zjN69 mi) (zjN71 mi)
noncomputable def zjN73 (mi : Nat) : Option (List (List (Option zI))) := cnRqz (Nat.ble 173 mi) (zjN66 mi) (zjN72 mi)
noncomputable def zjN74 (mi : Nat) : Option (List (List (Option zI))) := cnRqz (Nat.ble 165 mi) (some zi_165) (some zi_164)
noncomputable def zjN75 (mi : Nat) : Option (List (List (Option zI))) := cnRqz (Nat.ble 163 mi) (some zi_163) (some zi_162)
noncomputable def zjN76 (mi : Nat) : Option (List (List (Option zI))) := cnRqz (Nat.ble 164 mi) (zjN74 mi) (zjN75 mi)
noncomputable def zjN77 (mi : Nat) : Option (List (List (Option zI))) := cnRqz (Nat.ble 161 mi) (some zi_161) (some zi_160)
noncomputable def zjN78 (mi : Nat) : Option (List (List (Option zI))) := cnRqz (Nat.ble 159 mi) (some zi_159) (some zi_158)
noncomputable def zjN79 (mi : Nat) : Option (List (List (Option zI))) := cnRqz (Nat.ble 160 mi) (zjN77 mi) (zjN78 mi)
noncomputable def zjN80 (mi : Nat) : Option (List (List (Option zI))) := cnRqz (Nat.ble 162 mi) (zjN76 mi) (zjN79 mi)
noncomputable def zjN81 (mi : Nat) : Option (List (List (Option zI))) := cnRqz (Nat.ble 157 mi) (some zi_157) (some zi_156)
noncomputable def zjN82 (mi : Nat) : Option (List (List (Option zI))) := cnRqz (Nat.ble 155 mi) (some zi_155) (some zi_154)
noncomputable def zjN83 (mi : Nat) : Option (List (List (Option zI))) := cnRqz (Nat.ble 156 mi) (zjN81 mi) (zjN82 mi)
noncomputable def zjN84 (mi : Nat) : Option (List (List (Option zI))) := cnRqz (Nat.ble 153 mi) (some zi_153) (some zi_152)
noncomputable def zjN85 (mi : Nat) : Option (List (List (Option zI))) := cnRqz (Nat.ble 152 mi) (zjN84 mi) (some zi_151)
noncomputable def zjN86 (mi : Nat) : Option (List (List (Option zI))) := cnRqz (Nat.ble 154 mi) (zjN83 mi) (zjN85 mi)
noncomputable def zjN87 (mi : Nat) : Option (List (List (Option zI))) := cnRqz (Nat.ble 158 mi) (zjN80 mi) (zjN86 mi)
noncomputable def zjN88 (mi : Nat) : Option (List (List (Option zI))) := cnRqz (Nat.ble 166 mi) (zjN73 mi) (zjN87 mi)
noncomputable def zjN89 (mi : Nat) : Option (List (List (Option zI))) := cnRqz (Nat.ble 150 mi) (some zi_150) (some zi_149)
noncomputable def zjN90 (mi : Nat) : Option (List (List (Option zI))) := cnRqz (Nat.ble 148 mi) (some zi_148) (some zi_147)
noncomputable def zjN91 (mi : Nat) : Option (List (List (Option zI))) := cnRqz (Nat.ble 149 mi) (zjN89 mi) (zjN90 mi)
noncomputable def zjN92 (mi : Nat) : Option (List (List (Option zI))) := cnRqz (Nat.ble 146 mi) (some zi_146) (some zi_145)
noncomputable def zjN93 (mi : Nat) : Option (List (List (Option zI))) := cnRqz (Nat.ble 144 mi) (some zi_144) (some zi_143)
noncomputable def zjN94 (mi : Nat) : Option (List (List (Option zI))) := cnRqz (Nat.ble 145 mi) (zjN92 mi) (zjN93 mi)
noncomputable def zjN95 (mi : Nat) : Option (List (List (Option zI))) := cnRqz (Nat.ble 147 mi) (zjN91 mi) (zjN94 mi)
noncomputable def zjN96 (mi : Nat) : Option (List (List (Option zI))) := cnRqz (Nat.ble 142 mi) (some zi_142) (some zi_141)
noncomputable def zjN97 (mi : Nat) : Option (List (List (Option zI))) := cnRqz (Nat.ble 140 mi) (some zi_140) (some zi_139)
noncomputable def zjN98 (mi : Nat) : Option (List (List (Option zI))) := cnRqz (Nat.ble 141 mi) (zjN96 mi) (zjN97 mi)
noncomputable def zjN99 (mi : Nat) : Option (List (List (Option zI))) := cnRqz (Nat.ble 138 mi) (some zi_138) (some zi_137)
noncomputable def zjN100 (mi : Nat) : Option (List (List (Option zI))) := cnRqz (Nat.ble 137 mi) (zjN99 mi) (some zi_136)
noncomputable def zjN101 (mi : Nat) : Option (List (List (Option zI))) := cnRqz (Nat.ble 139 mi) (zjN98 mi) (zjN100 mi)
noncomputable def zjN102 (mi : Nat) : Option (List (List (Option zI))) := cnRqz (Nat.ble 143 mi) (zjN95 mi) (zjN101 mi)
noncomputable def zjN103 (mi : Nat) : Option (List (List (Option zI))) := cnRqz (Nat.ble 135 mi) (some zi_135) (some zi_134)
noncomputable def zjN104 (mi : Nat) : Option (List (List (Option zI))) := cnRqz (Nat.ble 133 mi) (some zi_133) (some zi_132)
noncomputable def zjN105 (mi : Nat) : Option (List (List (Option zI))) := cnRqz (Nat.ble 134 mi) (zjN103 mi) (zjN104 mi)
noncomputable def zjN106 (mi : Nat) : Option (List (List (Option zI))) := cnRqz (Nat.ble 131 mi) (some zi_131) (some zi_130)
noncomputable def zjN107 (mi : Nat) : Option (List (List (Option zI))) := cnRqz (Nat.ble 129 mi) (some zi_129) (some zi_128)
noncomputable def zjN108 (mi : Nat) : Option (List (List (Option zI))) := cnRqz (Nat.ble 130 mi) (zjN106 mi) (zjN107 mi)
noncomputable def zjN109 (mi : Nat) : Option (List (List (Option zI))) := cnRqz (Nat.ble 132 mi) (zjN105 mi) (zjN108 mi)
noncomputable def zjN110 (mi : Nat) : Option (List (List (Option zI))) := cnRqz (Nat.ble 127 mi) (some zi_127) (some zi_126)
noncomputable def zjN111 (mi : Nat) : Option (List (List (Option zI))) := cnRqz (Nat.ble 125 mi) (some zi_125) (some zi_124)
noncomputable def zjN112 (mi : Nat) : Option (List (List (Option zI))) := cnRqz (Nat.ble 126 mi) (zjN110 mi) (zjN111 mi)
noncomputable def zjN113 (mi : Nat) : Option (List (List (Option zI))) := cnRqz (Nat.ble 123 mi) (some zi_123) (some zi_122)
noncomputable def zjN114 (mi : Nat) : Option (List (List (Option zI))) := cnRqz (Nat.ble 122 mi) (zjN113 mi) (some zi_121)
noncomputable def zjN115 (mi : Nat) : Option (List (List (Option zI))) := cnRqz (Nat.ble 124 mi) (zjN112 mi) (zjN114 mi)
noncomputable def zjN116 (mi : Nat) : Option (List (List (Option zI))) := cnRqz (Nat.ble 128 mi) (zjN109 mi) (zjN115 mi)
noncomputable def zjN117 (mi : Nat) : Option (List (List (Option zI))) := cnRqz (Nat.ble 136 mi) (zjN102 mi) (zjN116 mi)
noncomputable def zjN118 (mi : Nat) : Option (List (List (Option zI))) := cnRqz (Nat.ble 151 mi) (zjN88 mi) (zjN117 mi)
noncomputable def zjN119 (mi : Nat) : Option (List (List (Option zI))) := cnRqz (Nat.ble 181 mi) (zjN59 mi) (zjN118 mi)
noncomputable def zjN120 (mi : Nat) : Option (List (List (Option zI))) := cnRqz (Nat.ble 120 mi) (some zi_120) (some zi_119)
noncomputable def zjN121 (mi : Nat) : Option (List (List (Option zI))) := cnRqz (Nat.ble 118 mi) (some zi_118) (some zi_117)
noncomputable def zjN122 (mi : Nat) : Option (List (List (Option zI))) := cnRqz (Nat.ble 119 mi) (zjN120 mi) (zjN121 mi)
noncomputable def zjN123 (mi : Nat) : Option (List (List (Option zI))) := cnRqz (Nat.ble 116 mi) (some zi_116) (some zi_115)
noncomputable def zjN124 (mi : Nat) : Option (List (List (Option zI))) := cnRqz (Nat.ble 114 mi) (some zi_114) (some zi_113)
noncomputable def zjN125 (mi : Nat) : Option (List (List (Option zI))) := cnRqz (Nat.ble 115 mi) (zjN123 mi) (zjN124 mi)
noncomputable def zjN126 (mi : Nat) : Option (List (List (Option zI))) := cnRqz (Nat.ble 117 mi) (zjN122 mi) (zjN125 mi)
noncomputable def zjN127 (mi : Nat) : Option (List (List (Option zI))) := cnRqz (Nat.ble 112 mi) (some zi_112) (some zi_111)
noncomputable def zjN128 (mi : Nat) : Option (List (List (Option zI))) := cnRqz (Nat.ble 110 mi) (some zi_110) (some zi_109)
noncomputable def zjN129 (mi : Nat) : Option (List (List (Option zI))) := cnRqz (Nat.ble 111 mi) (zjN127 mi) (zjN128 mi)
noncomputable def zjN130 (mi : Nat) : Option (List (List (Option zI))) := cnRqz (Nat.ble 108 mi) (some zi_108) (some zi_107)
noncomputable def zjN131 (mi : Nat) : Option (List (List (Option zI))) := cnRqz (Nat.ble 106 mi) (some zi_106) (some zi_105)
noncomputable def zjN132 (mi : Nat) : Option (List (List (Option zI))) := cnRqz (Nat.ble 107 mi) (zjN130 mi) (zjN131 mi)
noncomputable def zjN133 (mi : Nat) : Option (List (List (Option zI))) := cnRqz (Nat.ble 109 mi) (zjN129 mi) (zjN132 mi)
noncomputable def zjN134 (mi : Nat) : Option (List (List (Option zI))) := cnRqz (Nat.ble 113 mi) (zjN126 mi) (zjN133 mi)
noncomputable def zjN135 (mi : Nat) : Option (List (List (Option zI))) := cnRqz (Nat.ble 104 mi) (some zi_104) (some zi_103)
noncomputable def zjN136 (mi : Nat) : Option (List (List (Option zI))) := cnRqz (Nat.ble 102 mi) (some zi_102) (some zi_101)
noncomputable def zjN137 (mi : Nat) : Option (List (List (Option zI))) := cnRqz (Nat.ble 103 mi) (zjN135 mi) (zjN136 mi)
noncomputable def zjN138 (mi : Nat) : Option (List (List (Option zI))) := cnRqz (Nat.ble 100 mi) (some zi_100) (some zi_99)
noncomputable def zjN139 (mi : Nat) : Option (List (List (Option zI))) := cnRqz (Nat.ble 98 mi) (some zi_98) (some zi_97)
noncomputable def zjN140 (mi : Nat) : Option (List (List (Option zI))) := cnRqz (Nat.ble 99 mi) (zjN138 mi) (zjN139 mi)
noncomputable def zjN141 (mi : Nat) : Option (List (List (Option zI))) := cnRqz (Nat.ble 101 mi) (zjN137 mi) (zjN140 mi)
noncomputable def zjN142 (mi : Nat) : Option (List (List (Option zI))) := cnRqz (Nat.ble 96 mi) (some zi_96) (some zi_95)
noncomputable def zjN143 (mi : Nat) : Option (List (List (Option zI))) := cnRqz (Nat.ble 94 mi) (some zi_94) (some zi_93)
noncomputable def zjN144 (mi : Nat) : Option (List (List (Option zI))) := cnRqz (Nat.ble 95 mi) (zjN142 mi) (zjN143 mi)
noncomputable def zjN145 (mi : Nat) : Option (List (List (Option zI))) := cnRqz (Nat.ble 92 mi) (some zi_92) (some zi_91)
noncomputable def zjN146 (mi : Nat) : Option (List (List (Option zI))) := cnRqz (Nat.ble 91 mi) (zjN145 mi) (some zi_90)
noncomputable def zjN147 (mi : Nat) : Option (List (List (Option zI))) := cnRqz (Nat.ble 93 mi) (zjN144 mi) (zjN146 mi)
noncomputable def zjN148 (mi : Nat) : Option (List (List (Option zI))) := cnRqz (Nat.ble 97 mi) (zjN141 mi) (zjN147 mi)
noncomputable def zjN149 (mi : Nat) : Option (List (List (Option zI))) := cnRqz (Nat.ble 105 mi) (zjN134 mi) (zjN148 mi)
noncomputable def zjN150 (mi : Nat) : Option (List (List (Option zI))) := cnRqz (Nat.ble 89 mi) (some zi_89) (some zi_88)
noncomputable def zjN151 (mi : Nat) : Option (List (List (Option zI))) := cnRqz (Nat.ble 87 mi) (some zi_87) (some zi_86)
noncomputable def zjN152 (mi : Nat) : Option (List (List (Option zI))) := cnRqz (Nat.ble 88 mi) (zjN150 mi) (zjN151 mi)
noncomputable def zjN153 (mi : Nat) : Option (List (List (Option zI))) := cnRqz (Nat.ble 85 mi) (some zi_85) (some zi_84)
noncomputable def zjN154 (mi : Nat) : Option (List (List (Option zI))) := cnRqz (Nat.ble 83 mi) (some zi_83) (some zi_82)
noncomputable def zjN155 (mi : Nat) : Option (List (List (Option zI))) := cnRqz (Nat.ble 84 mi) (zjN153 mi) (zjN154 mi)
noncomputable def zjN156 (mi : Nat) : Option (List (List (Option zI))) := cnRqz (Nat.ble 86 mi) (zjN152 mi) (zjN155 mi)
noncomputable def zjN157 (mi : Nat) : Option (List (List (Option zI))) := cnRqz (Nat.ble 81 mi) (some zi_81) (some zi_80)
noncomputable def zjN158 (mi : Nat) : Option (List (List (Option zI))) := cnRqz (Nat.ble 79 mi) (some zi_79) (some zi_78)
noncomputable def zjN159 (mi : Nat) : Option (List (List (Option zI))) := cnRqz (Nat.ble 80 mi) (zjN157 mi) (zjN158 mi)
noncomputable def zjN160 (mi : Nat) : Option (List (List (Option zI))) := cnRqz (Nat.ble 77 mi) (some zi_77) (some zi_76)
noncomputable def zjN161 (mi : Nat) : Option (List (List (Option zI))) := cnRqz (Nat.ble 76 mi) (zjN160 mi) (some zi_75)
noncomputable def zjN162 (mi : Nat) : Option (List (List (Option zI))) := cnRqz (Nat.ble 78 mi) (zjN159 mi) (zjN161 mi)
noncomputable def zjN163 (mi : Nat) : Option (List (List (Option zI))) := cnRqz (Nat.ble 82 mi) (zjN156 mi) (zjN162 mi)
noncomputable def zjN164 (mi : Nat) : Option (List (List (Option zI))) := cnRqz (Nat.ble 74 mi) (some zi_74) (some zi_73)
noncomputable def zjN165 (mi : Nat) : Option (List (List (Option zI))) := cnRqz (Nat.ble 72 mi) (some zi_72) (some zi_71)
noncomputable def zjN166 (mi : Nat) : Option (List (List (Option zI))) := cnRqz (Nat.ble 73 mi) (zjN164 mi) (zjN165 mi)
noncomputable def zjN167 (mi : Nat) : Option (List (List (Option zI))) := cnRqz (Nat.ble 70 mi) (some zi_70) (some zi_69)
noncomputable def zjN168 (mi : Nat) : Option (List (List (Option zI))) := cnRqz (Nat.ble 68 mi) (some zi_68) (some zi_67)
noncomputable def zjN169 (mi : Nat) : Option (List (List (Option zI))) := cnRqz (Nat.ble 69 mi) (zjN167 mi) (zjN168 mi)
noncomputable def zjN170 (mi : Nat) : Option (List (List (Option zI))) := cnRqz (Nat.ble 71 mi) (zjN166 mi) (zjN169 mi)
noncomputable def zjN171 (mi : Nat) : Option (List (List (Option zI))) := cnRqz (Nat.ble 66 mi) (some zi_66) (some zi_65)
noncomputable def zjN172 (mi : Nat) : Option (List (List (Option zI))) := cnRqz (Nat.ble 64 mi) (some zi_64) (some zi_63)
noncomputable def zjN173 (mi : Nat) : Option (List (List (Option zI))) := cnRqz (Nat.ble 65 mi) (zjN171 mi) (zjN172 mi)
noncomputable def zjN174 (mi : Nat) : Option (List (List (Option zI))) := cnRqz (Nat.ble 62 mi) (some zi_62) (some zi_61)
noncomputable def zjN175 (mi : Nat) : Option (List (List (Option zI))) := cnRqz (Nat.ble 61 mi) (zjN174 mi) (some zi_60)
noncomputable def zjN176 (mi : Nat) : Option (List (List (Option zI))) := cnRqz (Nat.ble 63 mi) (zjN173 mi) (zjN175 mi)
noncomputable def zjN177 (mi : Nat) : Option (List (List (Option zI))) := cnRqz (Nat.ble 67 mi) (zjN170 mi) (zjN176 mi)
noncomputable def zjN178 (mi : Nat) : Option (List (List (Option zI))) := cnRqz (Nat.ble 75 mi) (zjN163 mi) (zjN177 mi)
noncomputable def zjN179 (mi : Nat) : Option (List (List (Option zI))) := cnRqz (Nat.ble 90 mi) (zjN149 mi) (zjN178 mi)
noncomputable def zjN180 (mi : Nat) : Option (List (List (Option zI))) := cnRqz (Nat.ble 59 mi) (some zi_59) (some zi_58)
noncomputable def zjN181 (mi : Nat) : Option (List (List (Option zI))) := cnRqz (Nat.ble 57 mi) (some zi_57) (some zi_56)
noncomputable def zjN182 (mi : Nat) : Option (List (List (Option zI))) := cnRqz (Nat.ble 58 mi) (zjN180 mi) (zjN181 mi)
noncomputable def zjN183 (mi : Nat) : Option (List (List (Option zI))) := cnRqz (Nat.ble 55 mi) (some zi_55) (some zi_54)
noncomputable def zjN184 (mi : Nat) : Option (List (List (Option zI))) := cnRqz (Nat.ble 53 mi) (some zi_53) (some zi_52)
noncomputable def zjN185 (mi : Nat) : Option (List (List (Option zI))) := cnRqz (Nat.ble 54 mi) (zjN183 mi) (zjN184 mi)
noncomputable def zjN186 (mi : Nat) : Option (List (List (Option zI))) := cnRqz (Nat.ble 56 mi) (zjN182 mi) (zjN185 mi)
noncomputable def zjN187 (mi : Nat) : Option (List (List (Option zI))) := cnRqz (Nat.ble 51 mi) (some zi_51) (some zi_50)
noncomputable def zjN188 (mi : Nat) : Option (List (List (Option zI))) := cnRqz (Nat.ble 49 mi) (some zi_49) (some zi_48)
noncomputable def zjN189 (mi : Nat) : Option (List (List (Option zI))) := cnRqz (Nat.ble 50 mi) (zjN187 mi) (zjN188 mi)
noncomputable def zjN190 (mi : Nat) : Option (List (List (Option zI))) := cnRqz (Nat.ble 47 mi) (some zi_47) (some zi_46)
noncomputable def zjN191 (mi : Nat) : Option (List (List (Option zI))) := cnRqz (Nat.ble 46 mi) (zjN190 mi) (some zi_45)
noncomputable def zjN192 (mi : Nat) : Option (List (List (Option zI))) := cnRqz (Nat.ble 48 mi) (zjN189 mi) (zjN191 mi)
noncomputable def zjN193 (mi : Nat) : Option (List (List (Option zI))) := cnRqz (Nat.ble 52 mi) (zjN186 mi) (zjN192 mi)
noncomputable def zjN194 (mi : Nat) : Option (List (List (Option zI))) := cnRqz (Nat.ble 44 mi) (some zi_44) (some zi_43)
noncomputable def zjN195 (mi : Nat) : Option (List (List (Option zI))) := cnRqz (Nat.ble 42 mi) (some zi_42) (some zi_41)
noncomputable def zjN196 (mi : Nat) : Option (List (List (Option zI))) := cnRqz (Nat.ble 43 mi) (zjN194 mi) (zjN195 mi)
noncomputable def zjN197 (mi : Nat) : Option (List (List (Option zI))) := cnRqz (Nat.ble 40 mi) (some zi_40) (some zi_39)
noncomputable def zjN198 (mi : Nat) : Option (List (List (Option zI))) := cnRqz (Nat.ble 38 mi) (some zi_38) (some zi_37)
noncomputable def zjN199 (mi : Nat) : Option (List (List (Option zI))) := cnRqz (Nat.ble 39 mi) (zjN197 mi) (zjN198 mi)
noncomputable def zjN200 (mi : Nat) : Option (List (List (Option zI))) := cnRqz (Nat.ble 41 mi) (zjN196 mi) (zjN199 mi)
noncomputable def zjN201 (mi : Nat) : Option (List (List (Option zI))) := cnRqz (Nat.ble 36 mi) (some zi_36) (some zi_35)
noncomputable def zjN202 (mi : Nat) : Option (List (List (Option zI))) := cnRqz (Nat.ble 34 mi) (some zi_34) (some zi_33)
noncomputable def zjN203 (mi : Nat) : Option (List (List (Option zI))) := cnRqz (Nat.ble 35 mi) (zjN201 mi) (zjN202 mi)
noncomputable def zjN204 (mi : Nat) : Option (List (List (Option zI))) := cnRqz (Nat.ble 32 mi) (some zi_32) (some zi_31)
noncomputable def zjN205 (mi : Nat) : Option (List (List (Option zI))) := cnRqz (Nat.ble 31 mi) (zjN204 mi) (some zi_30)
noncomputable def zjN206 (mi : Nat) : Option (List (List (Option zI))) := cnRqz (Nat.ble 33 mi) (zjN203 mi) (zjN205 mi)
noncomputable def zjN207 (mi : Nat) : Option (List (List (Option zI))) := cnRqz (Nat.ble 37 mi) (zjN200 mi) (zjN206 mi)
noncomputable def zjN208 (mi : Nat) : Option (List (List (Option zI))) := cnRqz (Nat.ble 45 mi) (zjN193 mi) (zjN207 mi)
noncomputable def zjN209 (mi : Nat) : Option (List (List (Option zI))) := cnRqz (Nat.ble 29 mi) (some zi_29) (some zi_28)
noncomputable def zjN210 (mi : Nat) : Option (List (List (Option zI))) := cnRqz (Nat.ble 27 mi) (some zi_27) (some zi_26)
noncomputable def zjN211 (mi : Nat) : Option (List (List (Option zI))) := cnRqz (Nat.ble 28 mi) (zjN209 mi) (zjN210 mi)
noncomputable def zjN212 (mi : Nat) : Option (List (List (Option zI))) := cnRqz (Nat.ble 25 mi) (some zi_25) (some zi_24)
noncomputable def zjN213 (mi : Nat) : Option (List (List (Option zI))) := cnRqz (Nat.ble 23 mi) (some zi_23) (some zi_22)
noncomputable def zjN214 (mi : Nat) : Option (List (List (Option zI))) := cnRqz (Nat.ble 24 mi) (zjN212 mi) (zjN213 mi)
noncomputable def zjN215 (mi : Nat) : Option (List (List (Option zI))) := cnRqz (Nat.ble 26 mi) (zjN211 mi) (zjN214 mi)
noncomputable def zjN216 (mi : Nat) : Option (List (List (Option zI))) := cnRqz (Nat.ble 21 mi) (some zi_21) (some zi_20)
noncomputable def zjN217 (mi : Nat) : Option (List (List (Option zI))) := cnRqz (Nat.ble 19 mi) (some zi_19) (some zi_18)
noncomputable def zjN218 (mi : Nat) : Option (List (List (Option zI))) := cnRqz (Nat.ble 20 mi) (zjN216 mi) (zjN217 mi)
noncomputable def zjN219 (mi : Nat) : Option (List (List (Option zI))) := cnRqz (Nat.ble 17 mi) (some zi_17) (some zi_16)
noncomputable def zjN220 (mi : Nat) : Option (List (List (Option zI))) := cnRqz (Nat.ble 16 mi) (zjN219 mi) (some zi_15)
noncomputable def zjN221 (mi : Nat) : Option (List (List (Option zI))) := cnRqz (Nat.ble 18 mi) (zjN218 mi) (zjN220 mi)
noncomputable def zjN222 (mi : Nat) : Option (List (List (Option zI))) := cnRqz (Nat.ble 22 mi) (zjN215 mi) (zjN221 mi)
noncomputable def zjN223 (mi : Nat) : Option (List (List (Option zI))) := cnRqz (Nat.ble 14 mi) (some zi_14) (some zi_13)
noncomputable def zjN224 (mi : Nat) : Option (List (List (Option zI))) := cnRqz (Nat.ble 12 mi) (some zi_12) (some zi_11)
noncomputable def zjN225 (mi : Nat) : Option (List (List (Option zI))) := cnRqz (Nat.ble 13 mi) (zjN223 mi) (zjN224 mi)
noncomputable def zjN226 (mi : Nat) : Option (List (List (Option zI))) := cnRqz (Nat.ble 10 mi) (some zi_10) (some zi_9)
noncomputable def zjN227 (mi : Nat) : Option (List (List (Option zI))) := cnRqz (Nat.ble 8 mi) (some zi_8) (some zi_7)
noncomputable def zjN228 (mi : Nat) : Option (List (List (Option zI))) := cnRqz (Nat.ble 9 mi) (zjN226 mi) (zjN227 mi)
noncomputable def zjN229 (mi : Nat) : Option (List (List (Option zI))) := cnRqz (Nat.ble 11 mi) (zjN225 mi) (zjN228 mi)
noncomputable def zjN230 (mi : Nat) : Option (List (List (Option zI))) := cnRqz (Nat.ble 6 mi) (some zi_6) (some zi_5)
noncomputable def zjN231 (mi : Nat) : Option (List (List (Option zI))) := cnRqz (Nat.ble 4 mi) (some zi_4) (some zi_3)
noncomputable def zjN232 (mi : Nat) : Option (List (List (Option zI))) := cnRqz (Nat.ble 5 mi) (zjN230 mi) (zjN231 mi)
noncomputable def zjN233 (mi : Nat) : Option (List (List (Option zI))) := cnRqz (Nat.ble 2 mi) (some zi_2) (some zi_1)
noncomputable def zjN234 (mi : Nat) : Option (List (List (Option zI))) := cnRqz (Nat.ble 1 mi) (zjN233 mi) (some zi_0)
noncomputable def zjN235 (mi : Nat) : Option (List (List (Option zI))) := cnRqz (Nat.ble 3 mi) (zjN232 mi) (zjN234 mi)
noncomputable def zjN236 (mi : Nat) : Option (List (List (Option zI))) := cnRqz (Nat.ble 7 mi) (zjN229 mi) (zjN235 mi)
noncomputable def zjN237 (mi : Nat) : Option (List (List (Option zI))) := cnRqz (Nat.ble 15 mi) (zjN222 mi) (zjN236 mi)
noncomputable def zjN238 (mi : Nat) : Option (List (List (Option zI))) := cnRqz (Nat.ble 30 mi) (zjN208 mi) (zjN237 mi)
noncomputable def zjN239 (mi : Nat) : Option (List (List (Option zI))) := cnRqz (Nat.ble 60 mi) (zjN179 mi) (zjN238 mi)
noncomputable def zjN240 (mi : Nat) : Option (List (List (Option zI))) := cnRqz (Nat.ble 121 mi) (zjN119 mi) (zjN239 mi)
noncomputable def zjN241 (mi : Nat) : Option (List (List (Option zI))) := cnRqz (Nat.ble 242 mi) (none) (zjN240 mi)
noncomputable def zjmN (mi : Nat) : Option (List (List (Option zI))) := (zjN241 mi)
noncomputable def zif3N (mi pc : Nat) : Option zI := match zjmN mi with
  | some t_s => (match zgf t_s (pc / 16) with
    | some r_s => (match zgf r_s (pc % 16) with
      | some e_s => e_s
      | none => none)
    | none => none)
  | none => none
theorem zjmN_e : @zjmN = @zjm := by
  delta zjmN zjN0 zjN1 zjN2 zjN3 zjN4 zjN5 zjN6 zjN7 zjN8 zjN9 zjN10 zjN11 zjN12 zjN13 zjN14 zjN15 zjN16 zjN17 zjN18 zjN19 zjN20 zjN21 zjN22 zjN23 zjN24 zjN25 zjN26 zjN27 zjN28 zjN29 zjN30 zjN31 zjN32 zjN33 zjN34 zjN35 zjN36 zjN37 zjN38 zjN39 zjN40 zjN41 zjN42 zjN43 zjN44 zjN45 zjN46 zjN47 zjN48 zjN49 zjN50 zjN51 zjN52 zjN53 zjN54 zjN55 zjN56 zjN57 zjN58 zjN59 zjN60 zjN61 zjN62 zjN63 zjN64 zjN65 zjN66 zjN67 zjN68 zjN69 zjN70 zjN71 zjN72 zjN73 zjN74 zjN75 zjN76 zjN77 zjN78 zjN79 zjN80 zjN81 zjN82 zjN83 zjN84 zjN85 zjN86 zjN87 zjN88 zjN89 zjN90 zjN91 zjN92 zjN93 zjN94 zjN95 zjN96 zjN97 zjN98 zjN99 zjN100 zjN101 zjN102 zjN103 zjN104 zjN105 zjN106 zjN107 zjN108 zjN109 zjN110 zjN111 zjN112 zjN113 zjN114 zjN115 zjN116 zjN117 zjN118 zjN119 zjN120 zjN121 zjN122 zjN123 zjN124 zjN125 zjN126 zjN127 zjN128 zjN129 zjN130 zjN131 zjN132 zjN133 zjN134 zjN135 zjN136 zjN137 zjN138 zjN139 zjN140 zjN141 zjN142 zjN143 zjN144 zjN145 zjN146 zjN147 zjN148 zjN149 zjN150 zjN151 zjN152 zjN153 zjN154 zjN155 zjN156 zjN157 zjN158 zjN159 zjN160 zjN161 zjN162 zjN163 zjN164 zjN165 zjN166 zjN167 zjN168 zjN169 zjN170 zjN171 zjN172 zjN173 zjN174 zjN175 zjN176 zjN177 zjN178 zjN179 zjN180 zjN181 zjN182 zjN183 zjN184 zjN185 zjN186 zjN187 zjN188 zjN189 zjN190 zjN191 zjN192 zjN193 zjN194 zjN195 zjN196 zjN197 zjN198 zjN199 zjN200 zjN201 zjN202 zjN203 zjN204 zjN205 zjN206 zjN207 zjN208 zjN209 zjN210 zjN211 zjN212 zjN213 zjN214 zjN215 zjN216 zjN217 zjN218 zjN219 zjN220 zjN221 zjN222 zjN223 zjN224 zjN225 zjN226 zjN227 zjN228 zjN229 zjN230 zjN231 zjN232 zjN233 zjN234 zjN235 zjN236 zjN237 zjN238 zjN239 zjN240 zjN241 zjm
  rw [cnRqz_e]
theorem zif3N_e : @zif3N = @zif3 := by
  delta zif3N zif3
  rw [zjmN_e]
  first | done | rfl
noncomputable def anrmRqw (X_s : aX) : aX := (X_s.1, X_s.2.1, X_s.2.2.1, X_s.2.2.2.1, mpRqz (an1Rq X_s.1) X_s.2.2.2.2)
theorem anrmRqw_e : @anrmRqw = @anrmRq := by
  delta anrmRqw anrmRq
  rw [mpRqz_e]
  first | done | rfl
noncomputable def adf1Rqw (e_s : zI) (X_s : aX) : aDf := cnRqz (Nat.beq e_s.1 7) (cnRqz (Nat.beq e_s.2.2.2.1 1) (adf2Rq X_s) []) []
theorem adf1Rqw_e : @adf1Rqw = @adf1Rq := by
  funext e_s X_s
  rcases e_s with ⟨op_s, len_s, a_s, b_s, c_s, v_s, sw_s⟩
  show cnRqz (Nat.beq op_s 7) (cnRqz (Nat.beq b_s 1) (adf2Rq X_s) []) [] = cnRqz (Nat.beq op_s 7 && Nat.beq b_s 1) (adf2Rq X_s) []
  cases Nat.beq op_s 7 <;> cases Nat.beq b_s 1 <;> rfl
noncomputable def adq1Rqw (e_s : zI) (X_s : aX) : aDq := cnRqz (Nat.beq e_s.1 8) (adq2Rq e_s.2.2.2.1 X_s) []
theorem adq1Rqw_e : @adq1Rqw = @adq1Rq := by
  funext e_s X_s
  rcases e_s with ⟨op_s, len_s, a_s, b_s, c_s, v_s, sw_s⟩
  rfl
noncomputable def adb1Rqw (pc : Nat) (e_s : zI) (X_s : aX) : aD := cnRqz (Nat.beq e_s.1 16) (adb3Rq e_s.2.1 e_s.2.2.1 e_s.2.2.2.1 pc X_s) []
theorem adb1Rqw_e : @adb1Rqw = @adb1Rq := by
  funext pc_s e_s X_s
  rcases e_s with ⟨op_s, len_s, a_s, b_s, c_s, v_s, sw_s⟩
  rfl
noncomputable def ascrRqw (ds : aD) (sl_s : aSc) : zI → aX → Option (aX × aSc) := fun e_s X_s => match sl_s.1 with
  | none => none
  | some k_s => cnRqz (Nat.beq e_s.1 28) ((match X_s.2.2.2.2 with
    | .inr [0] :: r_s => cnRqz (Nat.blt k_s (lnRqz X_s.1)) (some ((X_s.1, X_s.2.1, X_s.2.2.1 + e_s.2.1, X_s.2.2.2.1, .inl (.inl (.inl (k_s, 0))) :: r_s), sl_s)) (none)
    | _ => none)) (cnRqz (Nat.beq e_s.1 22) ((match X_s.2.2.2.2 with
    | .inl (.inl i_s) :: .inr [0] :: r_s => cnRqz (ile 0 (abdRq X_s.1 i_s).1 && ale0Rq X_s.1 ds (alI 1 i_s (alI (-1) (.inl (k_s, 0)) (1, [])))) ((match aldf i_s sl_s.2 with
      | some j_s => some ((X_s.1, X_s.2.1, X_s.2.2.1 + e_s.2.1, X_s.2.2.2.1, .inl (.inl (.inl (j_s, 0))) :: r_s), sl_s)
      | none => some ((apRqz X_s.1 [afull], X_s.2.1, X_s.2.2.1 + e_s.2.1, X_s.2.2.2.1, .inl (.inl (.inl ((lnRqz X_s.1), 0))) :: r_s), (sl_s.1, (i_s, (lnRqz X_s.1)) :: sl_s.2)))) (none)
    | _ => none)) (none))
theorem ascrRqw_e : @ascrRqw = @ascrRq := by
  funext ds_s sl_s e_s X_s
  rcases e_s with ⟨op_s, len_s, a_s, b_s, c_s, v_s, sw_s⟩
  rfl
noncomputable def aspecRqw (S_s : Nat → Option (Nat × Nat)) (e_s : zI) (G_s : aG) (X_s : aX) : Option (aX × aHf) := cnRqz (Nat.beq e_s.1 8) (Option.rec (motive := fun _ => Option (aX × aHf)) none (fun Z_s => some (Z_s, G_s.2.2.2)) (acs2Rq e_s.2.1 e_s.2.2.2.1 G_s.2.2.1 X_s)) (Option.rec (motive := fun _ => Option (aX × aHf)) (cnRqz (Nat.beq e_s.1 23) (along2Rq S_s G_s.1 G_s.2.2.2 e_s.2.1 X_s) none) (fun p_s => some (p_s.1, (G_s.2.2.2.1, G_s.2.2.2.2.1, p_s.2))) (ascrRqw G_s.1 G_s.2.2.2.2.2 e_s X_s))
theorem aspecRqw_e : @aspecRqw = @aspecRq := by
  funext S_s e_s G_s X_s
  rcases e_s with ⟨op_s, len_s, a_s, b_s, c_s, v_s, sw_s⟩
  show cnRqz (Nat.beq op_s 8) (Option.rec (motive := fun _ => Option (aX × aHf)) none (fun Z_s => some (Z_s, G_s.2.2.2)) (acs2Rq len_s b_s G_s.2.2.1 X_s)) (Option.rec (motive := fun _ => Option (aX × aHf)) (cnRqz (Nat.beq op_s 23) (along2Rq S_s G_s.1 G_s.2.2.2 len_s X_s) none) (fun p_s => some (p_s.1, (G_s.2.2.2.1, G_s.2.2.2.2.1, p_s.2))) (ascrRqw G_s.1 G_s.2.2.2.2.2 (op_s, len_s, a_s, b_s, c_s, v_s, sw_s) X_s)) = (match cnRqz (Nat.beq op_s 8) (acs2Rq len_s b_s G_s.2.2.1 X_s) none with
    | some Z_s => some (Z_s, G_s.2.2.2)
    | none => (match ascrRq G_s.1 G_s.2.2.2.2.2 (op_s, len_s, a_s, b_s, c_s, v_s, sw_s) X_s with
      | some p_s => some (p_s.1, (G_s.2.2.2.1, G_s.2.2.2.2.1, p_s.2))
      | none => cnRqz (Nat.beq op_s 23) (along2Rq S_s G_s.1 G_s.2.2.2 len_s X_s) none))
  rw [ascrRqw_e]
  cases hb_s : Nat.beq op_s 8 with
  | true =>
    have ho_s : op_s = 8 := Nat.eq_of_beq_eq_true hb_s
    subst ho_s
    cases acs2Rq len_s b_s G_s.2.2.1 X_s with
    | some Z_s => rfl
    | none =>
      have hn_s : ascrRq G_s.1 G_s.2.2.2.2.2 (8, len_s, a_s, b_s, c_s, v_s, sw_s) X_s = none := by
        unfold ascrRq
        cases G_s.2.2.2.2.2.1 <;> rfl
      rw [hn_s]
      rfl
  | false =>
    cases ascrRq G_s.1 G_s.2.2.2.2.2 (op_s, len_s, a_s, b_s, c_s, v_s, sw_s) X_s <;> rfl
noncomputable def ahkRqw (hf : aHf) (e_s : zI) : aHf := cnRqz (Nat.beq e_s.1 26) (([], [], hf.2.2)) (cnRqz (Nat.beq e_s.1 34) (([], [], hf.2.2)) hf)
theorem ahkRqw_e : @ahkRqw = @ahkRq := by
  funext hf_s e_s
  rcases e_s with ⟨op_s, len_s, a_s, b_s, c_s, v_s, sw_s⟩
  show cnRqz (Nat.beq op_s 26) (([], [], hf_s.2.2)) (cnRqz (Nat.beq op_s 34) (([], [], hf_s.2.2)) hf_s) = cnRqz (Nat.beq op_s 26 || Nat.beq op_s 34) (([], [], hf_s.2.2)) hf_s
  cases Nat.beq op_s 26 <;> cases Nat.beq op_s 34 <;> rfl
noncomputable def acore2eRqw (d_s : Nat) (X_s : aX) (G_s : aG) (mi : Nat) (gs : List aFm) (e_s : zI) (df : aDf) (dq : aDq) (Ys : List aX) : List (Nat × aY) := mpRqz (fun Z_s => (d_s, (Z_s, (cnRqz gs.isEmpty (apRqz (adb1Rqw Z_s.2.2.1 e_s X_s) G_s.1) G_s.1, df, dq, ahkRqw G_s.2.2.2 e_s), mi, gs))) (aprsRq df dq Ys)
noncomputable def zdsp10Rqw (S_s : Nat → Option (Nat × Nat)) (rf : Nat → Nat → List Nat) (B_s : aB) (W_s : Nat → Nat → Bool) (WA : Nat → Bool) (e_s : zI) : (aX → Option aR) × Unit := cnRqz (Nat.blt e_s.1 12) (aq11Rq e_s.2.1, ()) (aq12Rq e_s.2.1, ())
noncomputable def zdsp11Rqw (S_s : Nat → Option (Nat × Nat)) (rf : Nat → Nat → List Nat) (B_s : aB) (W_s : Nat → Nat → Bool) (WA : Nat → Bool) (e_s : zI) : (aX → Option aR) × Unit := cnRqz (Nat.blt e_s.1 15) (aq14Rq e_s.2.1, ()) (aq15Rq e_s.2.1 e_s.2.2.1 e_s.2.2.2.1, ())
noncomputable def zdsp12Rqw (S_s : Nat → Option (Nat × Nat)) (rf : Nat → Nat → List Nat) (B_s : aB) (W_s : Nat → Nat → Bool) (WA : Nat → Bool) (e_s : zI) : (aX → Option aR) × Unit := cnRqz (Nat.blt e_s.1 14) (aq13Rq e_s.2.1, ()) (zdsp11Rqw S_s rf B_s W_s WA e_s)
noncomputable def zdsp13Rqw (S_s : Nat → Option (Nat × Nat)) (rf : Nat → Nat → List Nat) (B_s : aB) (W_s : Nat → Nat → Bool) (WA : Nat → Bool) (e_s : zI) : (aX → Option aR) × Unit := cnRqz (Nat.blt e_s.1 13) (zdsp10Rqw S_s rf B_s W_s WA e_s) (zdsp12Rqw S_s rf B_s W_s WA e_s)
noncomputable def zdsp14Rqw (S_s : Nat → Option (Nat × Nat)) (rf : Nat → Nat → List Nat) (B_s : aB) (W_s : Nat → Nat → Bool) (WA : Nat → Bool) (e_s : zI) : (aX → Option aR) × Unit := cnRqz (Nat.blt e_s.1 18) (aq17 e_s.2.2.1, ()) (aq18Rq e_s.2.2.1 e_s.2.2.2.2.2.2, ())
noncomputable def zdsp15Rqw (S_s : Nat → Option (Nat × Nat)) (rf : Nat → Nat → List Nat) (B_s : aB) (W_s : Nat → Nat → Bool) (WA : Nat → Bool) (e_s : zI) : (aX → Option aR) × Unit := cnRqz (Nat.blt e_s.1 17) (aq16Rq e_s.2.1 e_s.2.2.1 e_s.2.2.2.1, ()) (zdsp14Rqw S_s rf B_s W_s WA e_s)
noncomputable def zdsp16Rqw (S_s : Nat → Option (Nat × Nat)) (rf : Nat → Nat → List Nat) (B_s : aB) (W_s : Nat → Nat → Bool) (WA : Nat → Bool) (e_s : zI) : (aX → Option aR) × Unit := cnRqz (Nat.blt e_s.1 21) (aq20Rq S_s rf B_s e_s.2.1 e_s.2.2.1 e_s.2.2.2.1 e_s.2.2.2.2.1, ()) (aq21xRq S_s rf B_s W_s e_s.2.1 e_s.2.2.1 e_s.2.2.2.1 e_s.2.2.2.2.1, ())
noncomputable def zdsp17Rqw (S_s : Nat → Option (Nat × Nat)) (rf : Nat → Nat → List Nat) (B_s : aB) (W_s : Nat → Nat → Bool) (WA : Nat → Bool) (e_s : zI) : (aX → Option aR) × Unit := cnRqz (Nat.blt e_s.1 20) (aq19Rq e_s.2.1 e_s.2.2.1 e_s.2.2.2.2.2.1, ()) (zdsp16Rqw S_s rf B_s W_s WA e_s)
noncomputable def zdsp18Rqw (S_s : Nat → Option (Nat × Nat)) (rf : Nat → Nat → List Nat) (B_s : aB) (W_s : Nat → Nat → Bool) (WA : Nat → Bool) (e_s : zI) : (aX → Option aR) × Unit := cnRqz (Nat.blt e_s.1 19) (zdsp15Rqw S_s rf B_s W_s WA e_s) (zdsp17Rqw S_s rf B_s W_s WA e_s)
noncomputable def zdsp19Rqw (S_s : Nat → Option (Nat × Nat)) (rf : Nat → Nat → List Nat) (B_s : aB) (W_s : Nat → Nat → Bool) (WA : Nat → Bool) (e_s : zI) : (aX → Option aR) × Unit := cnRqz (Nat.blt e_s.1 16) (zdsp13Rqw S_s rf B_s W_s WA e_s) (zdsp18Rqw S_s rf B_s W_s WA e_s)
noncomputable def zdsp0Rqw (S_s : Nat → Option (Nat × Nat)) (rf : Nat → Nat → List Nat) (B_s : aB) (W_s : Nat → Nat → Bool) (WA : Nat → Bool) (e_s : zI) : (aX → Option aR) × Unit := cnRqz (Nat.blt e_s.1 1) (aq0 e_s.2.1 e_s.2.2.2.2.2.1, ()) (aq1Rq e_s.2.1 e_s.2.2.1, ())
noncomputable def zdsp1Rqw (S_s : Nat → Option (Nat × Nat)) (rf : Nat → Nat → List Nat) (B_s : aB) (W_s : Nat → Nat → Bool) (WA : Nat → Bool) (e_s : zI) : (aX → Option aR) × Unit := cnRqz (Nat.blt e_s.1 4) (aq3Rq e_s.2.1 e_s.2.2.1, ()) (aq4Rq e_s.2.1 e_s.2.2.1, ())
noncomputable def zdsp2Rqw (S_s : Nat → Option (Nat × Nat)) (rf : Nat → Nat → List Nat) (B_s : aB) (W_s : Nat → Nat → Bool) (WA : Nat → Bool) (e_s : zI) : (aX → Option aR) × Unit := cnRqz (Nat.blt e_s.1 3) (aq2Rq e_s.2.1 e_s.2.2.1, ()) (zdsp1Rqw S_s rf B_s W_s WA e_s)
noncomputable def zdsp3Rqw (S_s : Nat → Option (Nat × Nat)) (rf : Nat → Nat → List Nat) (B_s : aB) (W_s : Nat → Nat → Bool) (WA : Nat → Bool) (e_s : zI) : (aX → Option aR) × Unit := cnRqz (Nat.blt e_s.1 2) (zdsp0Rqw S_s rf B_s W_s WA e_s) (zdsp2Rqw S_s rf B_s W_s WA e_s)
noncomputable def zdsp4Rqw (S_s : Nat → Option (Nat × Nat)) (rf : Nat → Nat → List Nat) (B_s : aB) (W_s : Nat → Nat → Bool) (WA : Nat → Bool) (e_s : zI) : (aX → Option aR) × Unit := cnRqz (Nat.blt e_s.1 7) (aq6Rq e_s.2.1 e_s.2.2.1, ()) (aq7Rq e_s.2.1 e_s.2.2.2.1, ())
noncomputable def zdsp5Rqw (S_s : Nat → Option (Nat × Nat)) (rf : Nat → Nat → List Nat) (B_s : aB) (W_s : Nat → Nat → Bool) (WA : Nat → Bool) (e_s : zI) : (aX → Option aR) × Unit := cnRqz (Nat.blt e_s.1 6) (aq5Rq e_s.2.1 e_s.2.2.1, ()) (zdsp4Rqw S_s rf B_s W_s WA e_s)
noncomputable def zdsp6Rqw (S_s : Nat → Option (Nat × Nat)) (rf : Nat → Nat → List Nat) (B_s : aB) (W_s : Nat → Nat → Bool) (WA : Nat → Bool) (e_s : zI) : (aX → Option aR) × Unit := cnRqz (Nat.blt e_s.1 10) (aq9Rq e_s.2.1 e_s.2.2.2.1, ()) (aq10 e_s.2.1, ())
noncomputable def zdsp7Rqw (S_s : Nat → Option (Nat × Nat)) (rf : Nat → Nat → List Nat) (B_s : aB) (W_s : Nat → Nat → Bool) (WA : Nat → Bool) (e_s : zI) : (aX → Option aR) × Unit := cnRqz (Nat.blt e_s.1 9) (aq8Rq e_s.2.1 e_s.2.2.2.1, ()) (zdsp6Rqw S_s rf B_s W_s WA e_s)
noncomputable def zdsp8Rqw (S_s : Nat → Option (Nat × Nat)) (rf : Nat → Nat → List Nat) (B_s : aB) (W_s : Nat → Nat → Bool) (WA : Nat → Bool) (e_s : zI) : (aX → Option aR) × Unit := cnRqz (Nat.blt e_s.1 8) (zdsp5Rqw S_s rf B_s W_s WA e_s) (zdsp7Rqw S_s rf B_s W_s WA e_s)
noncomputable def zdsp9Rqw (S_s : Nat → Option (Nat × Nat)) (rf : Nat → Nat → List Nat) (B_s : aB) (W_s : Nat → Nat → Bool) (WA : Nat → Bool) (e_s : zI) : (aX → Option aR) × Unit := cnRqz (Nat.blt e_s.1 5) (zdsp3Rqw S_s rf B_s W_s WA e_s) (zdsp8Rqw S_s rf B_s W_s WA e_s)
noncomputable def zdsp20Rqw (S_s : Nat → Option (Nat × Nat)) (rf : Nat → Nat → List Nat) (B_s : aB) (W_s : Nat → Nat → Bool) (WA : Nat → Bool) (e_s : zI) : (aX → Option aR) × Unit := cnRqz (Nat.blt e_s.1 11) (zdsp9Rqw S_s rf B_s W_s WA e_s) (zdsp19Rqw S_s rf B_s W_s WA e_s)
noncomputable def zdsp21Rqw (S_s : Nat → Option (Nat × Nat)) (rf : Nat → Nat → List Nat) (B_s : aB) (W_s : Nat → Nat → Bool) (WA : Nat → Bool) (e_s : zI) : (aX → Option aR) × Unit := cnRqz (Nat.blt e_s.1 23) (aq22Rq S_s B_s e_s.2.1, ()) (aq23Rq S_s e_s.2.1, ())
noncomputable def zdsp22Rqw (S_s : Nat → Option (Nat × Nat)) (rf : Nat → Nat → List Nat) (B_s : aB) (W_s : Nat → Nat → Bool) (WA : Nat → Bool) (e_s : zI) : (aX → Option aR) × Unit := cnRqz (Nat.blt e_s.1 26) (aq25Rq S_s B_s W_s WA e_s.2.1, ()) (aq26Rq S_s e_s.2.1, ())
noncomputable def zdsp23Rqw (S_s : Nat → Option (Nat × Nat)) (rf : Nat → Nat → List Nat) (B_s : aB) (W_s : Nat → Nat → Bool) (WA : Nat → Bool) (e_s : zI) : (aX → Option aR) × Unit := cnRqz (Nat.blt e_s.1 25) (aq24Rq S_s rf e_s.2.1, ()) (zdsp22Rqw S_s rf B_s W_s WA e_s)
noncomputable def zdsp24Rqw (S_s : Nat → Option (Nat × Nat)) (rf : Nat → Nat → List Nat) (B_s : aB) (W_s : Nat → Nat → Bool) (WA : Nat → Bool) (e_s : zI) : (aX → Option aR) × Unit := cnRqz (Nat.blt e_s.1 24) (zdsp21Rqw S_s rf B_s W_s WA e_s) (zdsp23Rqw S_s rf B_s W_s WA e_s)
noncomputable def zdsp25Rqw (S_s : Nat → Option (Nat × Nat)) (rf : Nat → Nat → List Nat) (B_s : aB) (W_s : Nat → Nat → Bool) (WA : Nat → Bool) (e_s : zI) : (aX → Option aR) × Unit := cnRqz (Nat.blt e_s.1 29) (aq28Rq S_s e_s.2.1, ()) ((fun _ => none), ())
noncomputable def zdsp26Rqw (S_s : Nat → Option (Nat × Nat)) (rf : Nat → Nat → List Nat) (B_s : aB) (W_s : Nat → Nat → Bool) (WA : Nat → Bool) (e_s : zI) : (aX → Option aR) × Unit := cnRqz (Nat.blt e_s.1 28) ((fun _ => none), ()) (zdsp25Rqw S_s rf B_s W_s WA e_s)
noncomputable def zdsp27Rqw (S_s : Nat → Option (Nat × Nat)) (rf : Nat → Nat → List Nat) (B_s : aB) (W_s : Nat → Nat → Bool) (WA : Nat → Bool) (e_s : zI) : (aX → Option aR) × Unit := cnRqz (Nat.blt e_s.1 32) (aq31Rq e_s.2.1 e_s.2.2.2.1, ()) ((fun _ => none), ())
noncomputable def zdsp28Rqw (S_s : Nat → Option (Nat × Nat)) (rf : Nat → Nat → List Nat) (B_s : aB) (W_s : Nat → Nat → Bool) (WA : Nat → Bool) (e_s : zI) : (aX → Option aR) × Unit := cnRqz (Nat.blt e_s.1 31) ((fun _ => none), ()) (zdsp27Rqw S_s rf B_s W_s WA e_s)
noncomputable def zdsp29Rqw (S_s : Nat → Option (Nat × Nat)) (rf : Nat → Nat → List Nat) (B_s : aB) (W_s : Nat → Nat → Bool) (WA : Nat → Bool) (e_s : zI) : (aX → Option aR) × Unit := cnRqz (Nat.blt e_s.1 30) (zdsp26Rqw S_s rf B_s W_s WA e_s) (zdsp28Rqw S_s rf B_s W_s WA e_s)
noncomputable def zdsp30Rqw (S_s : Nat → Option (Nat × Nat)) (rf : Nat → Nat → List Nat) (B_s : aB) (W_s : Nat → Nat → Bool) (WA : Nat → Bool) (e_s : zI) : (aX → Option aR) × Unit := cnRqz (Nat.blt e_s.1 27) (zdsp24Rqw S_s rf B_s W_s WA e_s) (zdsp29Rqw S_s rf B_s W_s WA e_s)
noncomputable def zdsp31Rqw (S_s : Nat → Option (Nat × Nat)) (rf : Nat → Nat → List Nat) (B_s : aB) (W_s : Nat → Nat → Bool) (WA : Nat → Bool) (e_s : zI) : (aX → Option aR) × Unit := cnRqz (Nat.blt e_s.1 35) (aq34Rq S_s B_s WA e_s.2.1, ()) ((fun _ => none), ())
noncomputable def zdsp32Rqw (S_s : Nat → Option (Nat × Nat)) (rf : Nat → Nat → List Nat) (B_s : aB) (W_s : Nat → Nat → Bool) (WA : Nat → Bool) (e_s : zI) : (aX → Option aR) × Unit := cnRqz (Nat.blt e_s.1 34) ((fun _ => none), ()) (zdsp31Rqw S_s rf B_s W_s WA e_s)
noncomputable def zdsp33Rqw (S_s : Nat → Option (Nat × Nat)) (rf : Nat → Nat → List Nat) (B_s : aB) (W_s : Nat → Nat → Bool) (WA : Nat → Bool) (e_s : zI) : (aX → Option aR) × Unit := cnRqz (Nat.blt e_s.1 36) (zdsp32Rqw S_s rf B_s W_s WA e_s) ((fun _ => none), ())
noncomputable def zdsp34Rqw (S_s : Nat → Option (Nat × Nat)) (rf : Nat → Nat → List Nat) (B_s : aB) (W_s : Nat → Nat → Bool) (WA : Nat → Bool) (e_s : zI) : (aX → Option aR) × Unit := cnRqz (Nat.blt e_s.1 41) (aq40Rq e_s.2.1, ()) (aq41Rq e_s.2.1, ())
noncomputable def zdsp35Rqw (S_s : Nat → Option (Nat × Nat)) (rf : Nat → Nat → List Nat) (B_s : aB) (W_s : Nat → Nat → Bool) (WA : Nat → Bool) (e_s : zI) : (aX → Option aR) × Unit := cnRqz (Nat.blt e_s.1 40) (aq39Rq e_s.2.1, ()) (zdsp34Rqw S_s rf B_s W_s WA e_s)
noncomputable def zdsp36Rqw (S_s : Nat → Option (Nat × Nat)) (rf : Nat → Nat → List Nat) (B_s : aB) (W_s : Nat → Nat → Bool) (WA : Nat → Bool) (e_s : zI) : (aX → Option aR) × Unit := cnRqz (Nat.blt e_s.1 44) (aq43 e_s.2.1 e_s.2.2.1, ()) (aq44Rq e_s.2.1, ())
noncomputable def zdsp37Rqw (S_s : Nat → Option (Nat × Nat)) (rf : Nat → Nat → List Nat) (B_s : aB) (W_s : Nat → Nat → Bool) (WA : Nat → Bool) (e_s : zI) : (aX → Option aR) × Unit := cnRqz (Nat.blt e_s.1 43) (aq42Rq e_s.2.1, ()) (zdsp36Rqw S_s rf B_s W_s WA e_s)
noncomputable def zdsp38Rqw (S_s : Nat → Option (Nat × Nat)) (rf : Nat → Nat → List Nat) (B_s : aB) (W_s : Nat → Nat → Bool) (WA : Nat → Bool) (e_s : zI) : (aX → Option aR) × Unit := cnRqz (Nat.blt e_s.1 42) (zdsp35Rqw S_s rf B_s W_s WA e_s) (zdsp37Rqw S_s rf B_s W_s WA e_s)
noncomputable def zdsp39Rqw (S_s : Nat → Option (Nat × Nat)) (rf : Nat → Nat → List Nat) (B_s : aB) (W_s : Nat → Nat → Bool) (WA : Nat → Bool) (e_s : zI) : (aX → Option aR) × Unit := cnRqz (Nat.blt e_s.1 39) (zdsp33Rqw S_s rf B_s W_s WA e_s) (zdsp38Rqw S_s rf B_s W_s WA e_s)
noncomputable def zdsp40Rqw (S_s : Nat → Option (Nat × Nat)) (rf : Nat → Nat → List Nat) (B_s : aB) (W_s : Nat → Nat → Bool) (WA : Nat → Bool) (e_s : zI) : (aX → Option aR) × Unit := cnRqz (Nat.blt e_s.1 33) (zdsp30Rqw S_s rf B_s W_s WA e_s) (zdsp39Rqw S_s rf B_s W_s WA e_s)
noncomputable def zdsp41Rqw (S_s : Nat → Option (Nat × Nat)) (rf : Nat → Nat → List Nat) (B_s : aB) (W_s : Nat → Nat → Bool) (WA : Nat → Bool) (e_s : zI) : (aX → Option aR) × Unit := cnRqz (Nat.blt e_s.1 22) (zdsp20Rqw S_s rf B_s W_s WA e_s) (zdsp40Rqw S_s rf B_s W_s WA e_s)
noncomputable def zdspRqw (S_s : Nat → Option (Nat × Nat)) (rf : Nat → Nat → List Nat) (B_s : aB) (W_s : Nat → Nat → Bool) (WA : Nat → Bool) (e_s : zI) : (aX → Option aR) × Unit := cnRqz (Nat.blt e_s.1 45) (zdsp41Rqw S_s rf B_s W_s WA e_s) ((fun _ => none), ())
theorem zdcn_e {c_s : Bool} {p_s q_s : (aX → Option aR) × Unit} {X_s : aX} : (cnRqz c_s p_s q_s).1 X_s = cnRqz c_s (p_s.1 X_s) (q_s.1 X_s) := by cases c_s <;> rfl
theorem zdspRqw_e {S_s : Nat → Option (Nat × Nat)} {rf : Nat → Nat → List Nat} {B_s : aB} {W_s : Nat → Nat → Bool} {WA : Nat → Bool} {e_s : zI} {X_s : aX} : (zdspRqw S_s rf B_s W_s WA e_s).1 X_s = astepFRq S_s rf B_s W_s WA e_s X_s := by
  rcases e_s with ⟨op_s, len_s, a_s, b_s, c_s, v_s, sw_s⟩
  delta zdsp0Rqw zdsp1Rqw zdsp2Rqw zdsp3Rqw zdsp4Rqw zdsp5Rqw zdsp6Rqw zdsp7Rqw zdsp8Rqw zdsp9Rqw zdsp10Rqw zdsp11Rqw zdsp12Rqw zdsp13Rqw zdsp14Rqw zdsp15Rqw zdsp16Rqw zdsp17Rqw zdsp18Rqw zdsp19Rqw zdsp20Rqw zdsp21Rqw zdsp22Rqw zdsp23Rqw zdsp24Rqw zdsp25Rqw zdsp26Rqw zdsp27Rqw zdsp28Rqw zdsp29Rqw zdsp30Rqw zdsp31Rqw zdsp32Rqw zdsp33Rqw zdsp34Rqw zdsp35Rqw zdsp36Rqw zdsp37Rqw zdsp38Rqw zdsp39Rqw zdsp40Rqw zdsp41Rqw zdspRqw
  simp only [zdcn_e]
  rfl
noncomputable def acore2dRqw (S_s : Nat → Option (Nat × Nat)) (rf : Nat → Nat → List Nat) (B_s : aB) (Wl_s : aW) (d_s : Nat) (X_s : aX) (G_s : aG) (mi : Nat) (gs : List aFm) (e_s : zI) : Option (List (Nat × aY) ⊕ (aX × Option aV)) := cnRqz (alwRq Wl_s e_s) (Option.rec (motive := fun _ => Option (List (Nat × aY) ⊕ (aX × Option aV))) none (fun r_s => Sum.rec (motive := fun _ => Option (List (Nat × aY) ⊕ (aX × Option aV))) (fun Ys => some (.inl (acore2eRqw d_s X_s G_s mi gs e_s (apRqz (adf1Rqw e_s X_s) G_s.2.1) (apRqz (adq1Rqw e_s X_s) G_s.2.2.1) Ys))) (fun _ => none) r_s) ((zdspRqw S_s rf B_s (aWfRq (awnRq Wl_s)) (aWARq (awnRq Wl_s)) e_s).1 X_s)) none
theorem acore2dRqw_e {S_s : Nat → Option (Nat × Nat)} {rf : Nat → Nat → List Nat} {B_s : aB} {Wl_s : aW} {d_s : Nat} {X_s : aX} {G_s : aG} {mi : Nat} {gs : List aFm} {e_s : zI} : acore2dRqw S_s rf B_s Wl_s d_s X_s G_s mi gs e_s = cnRqz (alwRq Wl_s e_s) ((match astepFRq S_s rf B_s (aWfRq (awnRq Wl_s)) (aWARq (awnRq Wl_s)) e_s X_s with
          | some (.inl Ys) => some (.inl ((aprsRq (adf1Rq e_s X_s ++ G_s.2.1) (adq1Rq e_s X_s ++ G_s.2.2.1) Ys).map (fun Z_s => (d_s, (Z_s, (cnRqz (gs.isEmpty) (adb1Rq Z_s.2.2.1 e_s X_s ++ G_s.1) (G_s.1), adf1Rq e_s X_s ++ G_s.2.1, adq1Rq e_s X_s ++ G_s.2.2.1, ahkRq G_s.2.2.2 e_s), mi, gs)))))
          | _ => none)) (none) := by
  delta acore2dRqw acore2eRqw
  rw [adf1Rqw_e, adq1Rqw_e, adb1Rqw_e, ahkRqw_e, mpRqz_e, apRqz_e]
  simp only [zdspRqw_e]
  rcases astepFRq S_s rf B_s (aWfRq (awnRq Wl_s)) (aWARq (awnRq Wl_s)) e_s X_s with _ | (Y_s | r_s) <;> rfl
noncomputable def acore2cRqw (S_s : Nat → Option (Nat × Nat)) (rf : Nat → Nat → List Nat) (B_s : aB) (es : List aE) (Wl_s : aW) (d_s : Nat) (X_s : aX) (G_s : aG) (mi : Nat) (gs : List aFm) (e_s : zI) : Option (List (Nat × aY) ⊕ (aX × Option aV)) := Option.rec (motive := fun _ => Option (List (Nat × aY) ⊕ (aX × Option aV))) (acore2dRqw S_s rf B_s Wl_s d_s X_s G_s mi gs e_s) (fun p_s => some (.inl [(d_s, (p_s.1, (G_s.1, G_s.2.1, G_s.2.2.1, p_s.2), mi, gs))])) (aspecRqw S_s e_s G_s X_s)
theorem acore2cRqw_e {S_s : Nat → Option (Nat × Nat)} {rf : Nat → Nat → List Nat} {B_s : aB} {es : List aE} {Wl_s : aW} {d_s : Nat} {X_s : aX} {G_s : aG} {mi : Nat} {gs : List aFm} {e_s : zI} : acore2cRqw S_s rf B_s es Wl_s d_s X_s G_s mi gs e_s = (match aspecRq S_s e_s G_s X_s with
        | some p_s => some (.inl [(d_s, (p_s.1, (G_s.1, G_s.2.1, G_s.2.2.1, p_s.2), mi, gs))])
        | none => cnRqz (alwRq Wl_s e_s) ((match astepFRq S_s rf B_s (aWfRq (awnRq Wl_s)) (aWARq (awnRq Wl_s)) e_s X_s with
          | some (.inl Ys) => some (.inl ((aprsRq (adf1Rq e_s X_s ++ G_s.2.1) (adq1Rq e_s X_s ++ G_s.2.2.1) Ys).map (fun Z_s => (d_s, (Z_s, (cnRqz (gs.isEmpty) (adb1Rq Z_s.2.2.1 e_s X_s ++ G_s.1) (G_s.1), adf1Rq e_s X_s ++ G_s.2.1, adq1Rq e_s X_s ++ G_s.2.2.1, ahkRq G_s.2.2.2 e_s), mi, gs)))))
          | _ => none)) (none)) := by
  delta acore2cRqw
  rw [aspecRqw_e]
  cases aspecRq S_s e_s G_s X_s with
  | some p_s => rfl
  | none => exact acore2dRqw_e
noncomputable def acore2kRqw (es : List aE) (Wl_s : aW) (d' : Nat) (G_s : aG) (mi : Nat) (gs : List aFm) (m_s : Nat) (xs : List aV) (Z_s : aX) : Option (List (Nat × aY) ⊕ (aX × Option aV)) := cnRqz (aanyRq m_s es) (Option.rec (motive := fun _ => Option (List (Nat × aY) ⊕ (aX × Option aV))) none (fun p_s => some (.inl [(d' + 1, (p_s.1, (p_s.2.1, G_s.2.1, G_s.2.2.1, p_s.2.2), mi, gs))])) (acallRq m_s Wl_s d' Z_s (aentRq Z_s m_s xs) G_s.1 G_s.2.2.2 es)) (cnRqz (Nat.beq (lnRqz (apadRq (zL m_s) (aargsRq xs))) (zL m_s)) (some (.inl [(d', (aentRq Z_s m_s xs, G_s, m_s, (mi, Z_s.2.2.1, Z_s.2.2.2.1, Z_s.2.2.2.2) :: gs))])) none)
noncomputable def acore2bRqw (S_s : Nat → Option (Nat × Nat)) (rf : Nat → Nat → List Nat) (B_s : aB) (es : List aE) (Wl_s : aW) (d_s : Nat) (X_s : aX) (G_s : aG) (mi : Nat) (gs : List aFm) (e_s : zI) : Option (List (Nat × aY) ⊕ (aX × Option aV)) := Option.rec (motive := fun _ => Option (List (Nat × aY) ⊕ (aX × Option aV))) (acore2cRqw S_s rf B_s es Wl_s d_s X_s G_s mi gs e_s) (fun r_s => Sum.rec (motive := fun _ => Option (List (Nat × aY) ⊕ (aX × Option aV))) (fun _ => acore2cRqw S_s rf B_s es Wl_s d_s X_s G_s mi gs e_s) (fun r2 => Sum.rec (motive := fun _ => Option (List (Nat × aY) ⊕ (aX × Option aV))) (fun q_s => Nat.rec (motive := fun _ => Option (List (Nat × aY) ⊕ (aX × Option aV))) none (fun d' _ => acore2kRqw es Wl_s d' G_s mi gs q_s.1 q_s.2.1 q_s.2.2) d_s) (fun _ => acore2cRqw S_s rf B_s es Wl_s d_s X_s G_s mi gs e_s) r2) r_s) (astepCRq S_s e_s X_s)
theorem acore2bRqw_e {S_s : Nat → Option (Nat × Nat)} {rf : Nat → Nat → List Nat} {B_s : aB} {es : List aE} {Wl_s : aW} {d_s : Nat} {X_s : aX} {G_s : aG} {mi : Nat} {gs : List aFm} {e_s : zI} : acore2bRqw S_s rf B_s es Wl_s d_s X_s G_s mi gs e_s = (match astepCRq S_s e_s X_s with
      | some (.inr (.inl (m_s, xs, Z_s))) => (match d_s with
        | 0 => none
        | d' + 1 => cnRqz (aanyRq m_s es) ((match acallRq m_s Wl_s d' Z_s (aentRq Z_s m_s xs) G_s.1 G_s.2.2.2 es with
          | some p_s => some (.inl [(d' + 1, (p_s.1, (p_s.2.1, G_s.2.1, G_s.2.2.1, p_s.2.2), mi, gs))])
          | none => none)) (cnRqz (Nat.beq (apadRq (zL m_s) (aargsRq xs)).length (zL m_s)) (some (.inl [(d', (aentRq Z_s m_s xs, G_s, m_s, (mi, Z_s.2.2.1, Z_s.2.2.2.1, Z_s.2.2.2.2) :: gs))])) (none)))
      | _ => (match aspecRq S_s e_s G_s X_s with
        | some p_s => some (.inl [(d_s, (p_s.1, (G_s.1, G_s.2.1, G_s.2.2.1, p_s.2), mi, gs))])
        | none => cnRqz (alwRq Wl_s e_s) ((match astepFRq S_s rf B_s (aWfRq (awnRq Wl_s)) (aWARq (awnRq Wl_s)) e_s X_s with
          | some (.inl Ys) => some (.inl ((aprsRq (adf1Rq e_s X_s ++ G_s.2.1) (adq1Rq e_s X_s ++ G_s.2.2.1) Ys).map (fun Z_s => (d_s, (Z_s, (cnRqz (gs.isEmpty) (adb1Rq Z_s.2.2.1 e_s X_s ++ G_s.1) (G_s.1), adf1Rq e_s X_s ++ G_s.2.1, adq1Rq e_s X_s ++ G_s.2.2.1, ahkRq G_s.2.2.2 e_s), mi, gs)))))
          | _ => none)) (none))) := by
  delta acore2bRqw acore2kRqw
  rw [lnRqz_e]
  rcases astepCRq S_s e_s X_s with _ | (Y_s | (⟨m_s, xs_s, Z_s⟩ | r_s))
  · exact acore2cRqw_e
  · exact acore2cRqw_e
  · cases d_s with
    | zero => rfl
    | succ d_s =>
      show cnRqz (aanyRq m_s es) (Option.rec (motive := fun _ => Option (List (Nat × aY) ⊕ (aX × Option aV))) none (fun p_s => some (.inl [(d_s + 1, (p_s.1, (p_s.2.1, G_s.2.1, G_s.2.2.1, p_s.2.2), mi, gs))])) (acallRq m_s Wl_s d_s Z_s (aentRq Z_s m_s xs_s) G_s.1 G_s.2.2.2 es)) (cnRqz (Nat.beq (apadRq (zL m_s) (aargsRq xs_s)).length (zL m_s)) (some (.inl [(d_s, (aentRq Z_s m_s xs_s, G_s, m_s, (mi, Z_s.2.2.1, Z_s.2.2.2.1, Z_s.2.2.2.2) :: gs))])) (none)) = cnRqz (aanyRq m_s es) ((match acallRq m_s Wl_s d_s Z_s (aentRq Z_s m_s xs_s) G_s.1 G_s.2.2.2 es with
          | some p_s => some (.inl [(d_s + 1, (p_s.1, (p_s.2.1, G_s.2.1, G_s.2.2.1, p_s.2.2), mi, gs))])
          | none => none)) (cnRqz (Nat.beq (apadRq (zL m_s) (aargsRq xs_s)).length (zL m_s)) (some (.inl [(d_s, (aentRq Z_s m_s xs_s, G_s, m_s, (mi, Z_s.2.2.1, Z_s.2.2.2.1, Z_s.2.2.2.2) :: gs))])) (none))
      cases acallRq m_s Wl_s d_s Z_s (aentRq Z_s m_s xs_s) G_s.1 G_s.2.2.2 es <;> rfl
  · exact acore2cRqw_e
noncomputable def acore2rRqw (d_s : Nat) (X_s : aX) (G_s : aG) (gs : List aFm) (w_s : Option aV) : Option (List (Nat × aY) ⊕ (aX × Option aV)) := List.rec (motive := fun _ => Option (List (Nat × aY) ⊕ (aX × Option aV))) (some (.inr (X_s, w_s))) (fun g_s gs' _ => some (.inl [(d_s + 1, ((X_s.1, X_s.2.1, g_s.2.1, g_s.2.2.1, w_s.toList ++ g_s.2.2.2), G_s, g_s.1, gs'))])) gs
noncomputable def acore2aRqw (S_s : Nat → Option (Nat × Nat)) (rf : Nat → Nat → List Nat) (B_s : aB) (es : List aE) (Wl_s : aW) (d_s : Nat) (X_s : aX) (G_s : aG) (mi : Nat) (gs : List aFm) (e_s : zI) : Option (List (Nat × aY) ⊕ (aX × Option aV)) := Option.rec (motive := fun _ => Option (List (Nat × aY) ⊕ (aX × Option aV))) (acore2bRqw S_s rf B_s es Wl_s d_s X_s G_s mi gs e_s) (fun r_s => Sum.rec (motive := fun _ => Option (List (Nat × aY) ⊕ (aX × Option aV))) (fun _ => acore2bRqw S_s rf B_s es Wl_s d_s X_s G_s mi gs e_s) (fun r2 => Sum.rec (motive := fun _ => Option (List (Nat × aY) ⊕ (aX × Option aV))) (fun _ => acore2bRqw S_s rf B_s es Wl_s d_s X_s G_s mi gs e_s) (fun w_s => acore2rRqw d_s X_s G_s gs w_s) r2) r_s) (astepRRq e_s X_s)
theorem acore2aRqw_e {S_s : Nat → Option (Nat × Nat)} {rf : Nat → Nat → List Nat} {B_s : aB} {es : List aE} {Wl_s : aW} {d_s : Nat} {X_s : aX} {G_s : aG} {mi : Nat} {gs : List aFm} {e_s : zI} : acore2aRqw S_s rf B_s es Wl_s d_s X_s G_s mi gs e_s = acore2Rq S_s rf B_s es Wl_s d_s X_s G_s mi gs e_s := by
  delta acore2aRqw acore2Rq
  rcases astepRRq e_s X_s with _ | (Y_s | (q_s | w_s))
  · exact acore2bRqw_e
  · exact acore2bRqw_e
  · exact acore2bRqw_e
  · cases gs <;> rfl
noncomputable def acore2Rqw (S_s : Nat → Option (Nat × Nat)) (rf : Nat → Nat → List Nat) (B_s : aB) (es : List aE) (Wl_s : aW) (d_s : Nat) (X_s : aX) (G_s : aG) (mi : Nat) (gs : List aFm) (e_s : zI) : Option (List (Nat × aY) ⊕ (aX × Option aV)) := cnRqz (Nat.blt e_s.1 32) (acore2cRqw S_s rf B_s es Wl_s d_s X_s G_s mi gs e_s) (acore2aRqw S_s rf B_s es Wl_s d_s X_s G_s mi gs e_s)
theorem acore2Rqw_e : @acore2Rqw = @acore2Rq := by
  funext S_s rf_s B_s es_s Wl_s d_s X_s G_s mi_s gs_s e_s
  rcases e_s with ⟨op_s, len_s, a_s, b_s, c_s, v_s, sw_s⟩
  show cnRqz (Nat.blt op_s 32) (acore2cRqw S_s rf_s B_s es_s Wl_s d_s X_s G_s mi_s gs_s (op_s, len_s, a_s, b_s, c_s, v_s, sw_s)) (acore2aRqw S_s rf_s B_s es_s Wl_s d_s X_s G_s mi_s gs_s (op_s, len_s, a_s, b_s, c_s, v_s, sw_s)) = _
  cases ho_s : Nat.blt op_s 32 with
  | false => exact acore2aRqw_e
  | true =>
    have hl_s : op_s < 32 := Nat.le_of_ble_eq_true ho_s
    have h1_s : astepRRq (op_s, len_s, a_s, b_s, c_s, v_s, sw_s) X_s = none := by
      show cnRqz (Nat.blt op_s 35) none _ = none
      have hq_s : Nat.blt op_s 35 = true := Nat.ble_eq_true_of_le (by omega)
      rw [hq_s]
      rfl
    have h2_s : astepCRq S_s (op_s, len_s, a_s, b_s, c_s, v_s, sw_s) X_s = none := by
      show cnRqz (Nat.beq op_s 32) _ none = none
      have hq_s : Nat.beq op_s 32 = false := by
        cases hc_s : Nat.beq op_s 32 with
        | false => rfl
        | true =>
          have := Nat.eq_of_beq_eq_true hc_s
          omega
      rw [hq_s]
      rfl
    delta acore2Rq
    rw [h1_s, h2_s]
    exact acore2cRqw_e (es := es_s)
noncomputable def acorePRqw (S_s : Nat → Option (Nat × Nat)) (rf : Nat → Nat → List Nat) (B_s : aB) (Wl_s : aW) (d_s : Nat) (X_s : aX) (G_s : aG) (mi : Nat) (gs : List aFm) (e_s : zI) : Option (List (Nat × aY) ⊕ (aX × Option aV)) := Option.rec (motive := fun _ => Option (List (Nat × aY) ⊕ (aX × Option aV))) none (fun r_s => Sum.rec (motive := fun _ => Option (List (Nat × aY) ⊕ (aX × Option aV))) (fun Ys => some (.inl (mpRqz (fun Z_s => (d_s, (Z_s, G_s, mi, gs))) Ys))) (fun _ => none) r_s) ((zdspRqw S_s rf B_s (aWfRq (awnRq Wl_s)) (aWARq (awnRq Wl_s)) e_s).1 X_s)
theorem acorePRqw_e : @acorePRqw = @acorePRq := by
  funext S_s rf_s B_s Wl_s d_s X_s G_s mi_s gs_s e_s
  delta acorePRqw acorePRq
  show Option.rec (motive := fun _ => Option (List (Nat × aY) ⊕ (aX × Option aV))) none (fun r_s => Sum.rec (motive := fun _ => Option (List (Nat × aY) ⊕ (aX × Option aV))) (fun Ys => some (.inl (mpRqz (fun Z_s => (d_s, (Z_s, G_s, mi_s, gs_s))) Ys))) (fun _ => none) r_s) ((zdspRqw S_s rf_s B_s (aWfRq (awnRq Wl_s)) (aWARq (awnRq Wl_s)) e_s).1 X_s) = (match astepFRq S_s rf_s B_s (aWfRq (awnRq Wl_s)) (aWARq (awnRq Wl_s)) e_s X_s with
    | some (.inl Ys) => some (.inl (Ys.map (fun Z_s => (d_s, (Z_s, G_s, mi_s, gs_s)))))
    | _ => none)
  rw [zdspRqw_e, mpRqz_e]
  rcases astepFRq S_s rf_s B_s (aWfRq (awnRq Wl_s)) (aWARq (awnRq Wl_s)) e_s X_s with _ | (Y_s | r_s) <;> rfl
noncomputable def alcxRqw (X_s : aX) (mi : Nat) (e_s : zI) : Option (List aX) := cnRqz (Nat.beq e_s.1 14) (Option.rec (motive := fun _ => Option (List aX)) none (fun e2_s => alcbRq X_s e_s.2.1 e2_s) (zif3 mi (X_s.2.2.1 + e_s.2.1))) none
theorem alcxRqw_e : @alcxRqw = @alcxRq := by
  funext X_s mi_s e_s
  rcases e_s with ⟨op_s, len_s, a_s, b_s, c_s, v_s, sw_s⟩
  show cnRqz (Nat.beq op_s 14) (Option.rec (motive := fun _ => Option (List aX)) none (fun e2_s => alcbRq X_s len_s e2_s) (zif3 mi_s (X_s.2.2.1 + len_s))) none = cnRqz (Nat.beq op_s 14) ((match zif3 mi_s (X_s.2.2.1 + len_s) with
    | some e2_s => alcbRq X_s len_s e2_s
    | none => none)) none
  cases zif3 mi_s (X_s.2.2.1 + len_s) <;> rfl
noncomputable def acore1Rqw (S_s : Nat → Option (Nat × Nat)) (rf : Nat → Nat → List Nat) (B_s : aB) (es : List aE) (Wl_s : aW) (d_s : Nat) (X_s : aX) (G_s : aG) (mi : Nat) (gs : List aFm) (e_s : zI) : Option (List (Nat × aY) ⊕ (aX × Option aV)) := cnRqz (apl e_s) (acorePRqw S_s rf B_s Wl_s d_s X_s G_s mi gs e_s) (Option.rec (motive := fun _ => Option (List (Nat × aY) ⊕ (aX × Option aV))) (acore2Rqw S_s rf B_s es Wl_s d_s X_s G_s mi gs e_s) (fun Ys => some (.inl (mpRqz (fun Z_s => (d_s, (Z_s, G_s, mi, gs))) (aprsRq G_s.2.1 G_s.2.2.1 Ys)))) (alcxRqw X_s mi e_s))
theorem acore1Rqw_e : @acore1Rqw = @acore1Rq := by
  funext S_s rf_s B_s es_s Wl_s d_s X_s G_s mi_s gs_s e_s
  delta acore1Rqw acore1Rq
  rw [acorePRqw_e, acore2Rqw_e, alcxRqw_e, mpRqz_e]
  cases alcxRq X_s mi_s e_s <;> rfl
noncomputable def anrRqw (e_s : zI) (X_s : aX) : aX := cnRqz (cnRqz (Nat.beq e_s.1 7) true (cnRqz (Nat.beq e_s.1 8) true (cnRqz (Nat.beq e_s.1 22) true (Nat.beq e_s.1 25)))) (anrmRqw X_s) X_s
theorem anrRqw_e : @anrRqw = @anrRq := by
  funext e_s X_s
  rcases e_s with ⟨op_s, len_s, a_s, b_s, c_s, v_s, sw_s⟩
  show cnRqz (cnRqz (Nat.beq op_s 7) true (cnRqz (Nat.beq op_s 8) true (cnRqz (Nat.beq op_s 22) true (Nat.beq op_s 25)))) (anrmRqw X_s) X_s = cnRqz (Nat.beq op_s 7 || (Nat.beq op_s 8 || (Nat.beq op_s 22 || Nat.beq op_s 25))) (anrmRq X_s) X_s
  rw [anrmRqw_e]
  cases Nat.beq op_s 7 <;> cases Nat.beq op_s 8 <;> cases Nat.beq op_s 22 <;> rfl
noncomputable def acoreRqw (S_s : Nat → Option (Nat × Nat)) (rf : Nat → Nat → List Nat) (B_s : aB) (es : List aE) (Wl_s : aW) (d_s : Nat) (X_s : aX) (G_s : aG) (mi : Nat) (gs : List aFm) (oe : Option zI) : Option (List (Nat × aY) ⊕ (aX × Option aV)) := Option.rec (motive := fun _ => Option (List (Nat × aY) ⊕ (aX × Option aV))) none (fun e_s => acore1Rqw S_s rf B_s es Wl_s d_s (anrRqw e_s X_s) G_s mi gs e_s) oe
theorem acoreRqw_e {S_s : Nat → Option (Nat × Nat)} {rf : Nat → Nat → List Nat} {B_s : aB} {es : List aE} {Wl_s : aW} {d_s : Nat} {X_s : aX} {G_s : aG} {mi : Nat} {gs : List aFm} : acoreRqw S_s rf B_s es Wl_s d_s X_s G_s mi gs (zif3N mi X_s.2.2.1) = acoreRq S_s rf B_s es Wl_s d_s X_s G_s mi gs := by
  delta acoreRqw acoreRq
  rw [acore1Rqw_e, anrRqw_e, zif3N_e]
  cases zif3 mi X_s.2.2.1 <;> rfl
noncomputable def arunYRqw (S_s : Nat → Option (Nat × Nat)) (rf : Nat → Nat → List Nat) (B_s : aB) (es : List aE) (Wl_s : aW) (sp_s : Nat → Nat → Option (Nat × Int × Int × Nat)) (mi0 : Nat) (cutp : Nat → Bool) (leafC : Nat → aX → aG → Bool) (leafR : aX → Option aV → aG → Bool) (f_s : Nat) : Nat → Bool → aY → Bool := Nat.rec (motive := fun _ => Nat → Bool → aY → Bool) (fun _ _ _ => false) (fun _ ih_s d_s b_s Y => fcRqz Y.2.2.1 (fun mi => fcRqz Y.1.2.2.1 (fun pc => cnRqz (cnRqz b_s false (List.rec (motive := fun _ => Bool) (cnRqz (Nat.beq mi mi0) (cutp pc) false) (fun _ _ _ => false) Y.2.2.2)) (leafC d_s Y.1 Y.2.1) (Option.rec (motive := fun _ => Bool) (Option.rec (motive := fun _ => Bool) false (fun r_s => Sum.rec (motive := fun _ => Bool) (fun Ys => alRqz Ys (fun p_s => ih_s p_s.1 false p_s.2)) (fun p_s => leafR p_s.1 p_s.2 Y.2.1) r_s) (acoreRqw S_s rf B_s es Wl_s d_s (Y.1.1, Y.1.2.1, pc, Y.1.2.2.2) Y.2.1 mi Y.2.2.2 (zif3N mi pc))) (fun i_s => alRqz (asplRq Y.1 i_s) (fun Z_s => Option.rec (motive := fun _ => Bool) false (fun r_s => Sum.rec (motive := fun _ => Bool) (fun Ys => alRqz Ys (fun p_s => ih_s p_s.1 false p_s.2)) (fun p_s => leafR p_s.1 p_s.2 Y.2.1) r_s) (acoreRqw S_s rf B_s es Wl_s d_s Z_s Y.2.1 mi Y.2.2.2 (zif3N mi Z_s.2.2.1)))) (sp_s mi pc))))) f_s
theorem arlfRqw_e {o : Option (List (Nat × aY) ⊕ (aX × Option aV))} {kc_s : Nat × aY → Bool} {kr : aX × Option aV → Bool} : Option.rec (motive := fun _ => Bool) false (fun r_s => Sum.rec (motive := fun _ => Bool) (fun Ys => alRqz Ys kc_s) kr r_s) o = (match o with
      | some (.inl Ys) => alRqz Ys kc_s
      | some (.inr p_s) => kr p_s
      | none => false) := by
  rcases o with _ | (Y_s | p_s) <;> rfl
theorem arunYRqw_e : @arunYRqw = @arunYRq := by
  funext S_s rf_s B_s es_s Wl_s sp_s mi_s cutp_s lc_s lr_s f_s
  induction f_s with
  | zero => rfl
  | succ f_s ih_s =>
    funext d_s b_s Y_s
    rcases Y_s with ⟨⟨cs_s, T_s, pc_s, al_s, st_s⟩, G_s, mq_s, gs_s⟩
    show fcRqz mq_s (fun mi => fcRqz pc_s (fun pc => cnRqz (cnRqz b_s false (List.rec (motive := fun _ => Bool) (cnRqz (Nat.beq mi mi_s) (cutp_s pc) false) (fun _ _ _ => false) gs_s)) (lc_s d_s (cs_s, T_s, pc_s, al_s, st_s) G_s) (Option.rec (motive := fun _ => Bool) (Option.rec (motive := fun _ => Bool) false (fun r_s => Sum.rec (motive := fun _ => Bool) (fun Ys => alRqz Ys (fun p_s => arunYRqw S_s rf_s B_s es_s Wl_s sp_s mi_s cutp_s lc_s lr_s f_s p_s.1 false p_s.2)) (fun p_s => lr_s p_s.1 p_s.2 G_s) r_s) (acoreRqw S_s rf_s B_s es_s Wl_s d_s (cs_s, T_s, pc, al_s, st_s) G_s mi gs_s (zif3N mi pc))) (fun i_s => alRqz (asplRq (cs_s, T_s, pc_s, al_s, st_s) i_s) (fun Z_s => Option.rec (motive := fun _ => Bool) false (fun r_s => Sum.rec (motive := fun _ => Bool) (fun Ys => alRqz Ys (fun p_s => arunYRqw S_s rf_s B_s es_s Wl_s sp_s mi_s cutp_s lc_s lr_s f_s p_s.1 false p_s.2)) (fun p_s => lr_s p_s.1 p_s.2 G_s) r_s) (acoreRqw S_s rf_s B_s es_s Wl_s d_s Z_s G_s mi gs_s (zif3N mi Z_s.2.2.1)))) (sp_s mi pc)))) = (bif !b_s && (gs_s.isEmpty && (Nat.beq mq_s mi_s && cutp_s pc_s)) then lc_s d_s (cs_s, T_s, pc_s, al_s, st_s) G_s else alRqz (match sp_s mq_s pc_s with
      | some i_s => asplRq (cs_s, T_s, pc_s, al_s, st_s) i_s
      | none => [(cs_s, T_s, pc_s, al_s, st_s)]) (fun Z_s => match acoreRq S_s rf_s B_s es_s Wl_s d_s Z_s G_s mq_s gs_s with
        | some (.inl Ys) => alRqz Ys (fun p_s => arunYRq S_s rf_s B_s es_s Wl_s sp_s mi_s cutp_s lc_s lr_s f_s p_s.1 false p_s.2)
        | some (.inr p_s) => lr_s p_s.1 p_s.2 G_s
        | none => false))
    have hk_s : ∀ Z_s : aX, Option.rec (motive := fun _ => Bool) false (fun r_s => Sum.rec (motive := fun _ => Bool) (fun Ys => alRqz Ys (fun p_s => arunYRqw S_s rf_s B_s es_s Wl_s sp_s mi_s cutp_s lc_s lr_s f_s p_s.1 false p_s.2)) (fun p_s => lr_s p_s.1 p_s.2 G_s) r_s) (acoreRqw S_s rf_s B_s es_s Wl_s d_s Z_s G_s mq_s gs_s (zif3N mq_s Z_s.2.2.1)) = (match acoreRq S_s rf_s B_s es_s Wl_s d_s Z_s G_s mq_s gs_s with
        | some (.inl Ys) => alRqz Ys (fun p_s => arunYRq S_s rf_s B_s es_s Wl_s sp_s mi_s cutp_s lc_s lr_s f_s p_s.1 false p_s.2)
        | some (.inr p_s) => lr_s p_s.1 p_s.2 G_s
        | none => false) := by
      intro Z_s
      rw [acoreRqw_e, ih_s]
      rcases acoreRq S_s rf_s B_s es_s Wl_s d_s Z_s G_s mq_s gs_s with _ | (Y_s | p_s) <;> rfl
    have hc_s : cnRqz b_s false (List.rec (motive := fun _ => Bool) (cnRqz (Nat.beq mq_s mi_s) (cutp_s pc_s) false) (fun _ _ _ => false) gs_s) = (!b_s && (gs_s.isEmpty && (Nat.beq mq_s mi_s && cutp_s pc_s))) := by
      cases b_s with
      | true => rfl
      | false => cases gs_s with
        | nil => show cnRqz (Nat.beq mq_s mi_s) (cutp_s pc_s) false = (Nat.beq mq_s mi_s && cutp_s pc_s); cases Nat.beq mq_s mi_s <;> rfl
        | cons g_s r_s => rfl
    rw [fcRqz_e, fcRqz_e, hc_s]
    cases (!b_s && (gs_s.isEmpty && (Nat.beq mq_s mi_s && cutp_s pc_s))) with
    | true => rfl
    | false =>
      cases sp_s mq_s pc_s with
      | none => exact hk_s (cs_s, T_s, pc_s, al_s, st_s)
      | some i_s => exact congrArg (alRqz (asplRq (cs_s, T_s, pc_s, al_s, st_s) i_s)) (funext hk_s)
noncomputable def asegRqw (S_s : Nat → Option (Nat × Nat)) (rf : Nat → Nat → List Nat) (B_s : aB) (es : List aE) (sp_s : Nat → Nat → Option (Nat × Int × Int × Nat)) (e_s : aE) (cuts_s : List aC) (f_s : Nat) (c_s : Option aC) : Bool := match c_s with
  | none => arunYRqw S_s rf B_s es e_s.2.2.2.2.2 sp_s e_s.1 (acutpRq cuts_s) (alfCRq cuts_s (lnRqz e_s.2.2.1.1) e_s.2.1 none) (alfRRq e_s (lnRqz e_s.2.2.1.1)) f_s e_s.2.1 true (e_s.2.2.1, (e_s.2.2.2.1.1, [], [], ([], [], (e_s.2.2.2.1.2, []))), e_s.1, [])
  | some c_s => arunYRqw S_s rf B_s es e_s.2.2.2.2.2 sp_s e_s.1 (acutpRq cuts_s) (alfCRq cuts_s (lnRqz e_s.2.2.1.1) e_s.2.1 (some c_s.2.2)) (alfRRq e_s (lnRqz e_s.2.2.1.1)) f_s e_s.2.1 true (c_s.1, (c_s.2.1.1, [], [], ([], c_s.2.1.2, (e_s.2.2.2.1.2, []))), e_s.1, []) && (ale0Rq c_s.1.1 c_s.2.1.1 (alng c_s.2.2.2 (-c_s.2.2.1, [])) && alRqz c_s.2.2.2 (fun p_s => Nat.blt p_s.2 (lnRqz c_s.1.1)))
theorem asegRqw_e : @asegRqw = @asegRq := by
  delta asegRqw asegRq
  rw [arunYRqw_e]
  first | done | rfl
theorem asgqw {S_s : Nat → Option (Nat × Nat)} {rf : Nat → Nat → List Nat} {B_s : aB} {es : List aE} {sp_s : Nat → Nat → Option (Nat × Int × Int × Nat)} {e_s : aE} {cuts_s : List aC} {f_s : Nat} {c_s : Option aC} (h_s : asegRqw S_s rf B_s es sp_s e_s cuts_s f_s c_s = true) : aseg S_s rf B_s es sp_s e_s cuts_s f_s c_s = true := by
  rw [← asegRq_e, ← asegRqw_e]
  exact h_s
/-! the tables of cells by small functions: printed by wip/gen/fast3.py -/
noncomputable def kSn0 (o : Nat) : Option (Nat × Nat) := cnRqz (Nat.blt o 1) (some (9, 0)) (some (5, 12))
noncomputable def kSn1 (o : Nat) : Option (Nat × Nat) := cnRqz (Nat.blt o 3) (some (5, 12)) (some (5, 3))
noncomputable def kSn2 (o : Nat) : Option (Nat × Nat) := cnRqz (Nat.blt o 2) (kSn0 o) (kSn1 o)
noncomputable def kSn3 (o : Nat) : Option (Nat × Nat) := cnRqz (Nat.blt o 5) (some (5, 8)) (some (5, 32))
noncomputable def kSn4 (o : Nat) : Option (Nat × Nat) := cnRqz (Nat.blt o 7) (some (21, 14)) (some (12, 11))
noncomputable def kSn5 (o : Nat) : Option (Nat × Nat) := cnRqz (Nat.blt o 6) (kSn3 o) (kSn4 o)
noncomputable def kSn6 (o : Nat) : Option (Nat × Nat) := cnRqz (Nat.blt o 4) (kSn2 o) (kSn5 o)
noncomputable def kSn7 (o : Nat) : Option (Nat × Nat) := cnRqz (Nat.blt o 11) (some (2, 8)) (some (3, 12))
noncomputable def kSn8 (o : Nat) : Option (Nat × Nat) := cnRqz (Nat.blt o 10) (some (0, 6)) (kSn7 o)
noncomputable def kSn9 (o : Nat) : Option (Nat × Nat) := cnRqz (Nat.blt o 15) (some (15, 4)) (some (0, 242))
noncomputable def kSn10 (o : Nat) : Option (Nat × Nat) := cnRqz (Nat.blt o 14) (some (0, 6)) (kSn9 o)
noncomputable def kSn11 (o : Nat) : Option (Nat × Nat) := cnRqz (Nat.blt o 12) (kSn8 o) (kSn10 o)
noncomputable def kSn12 (o : Nat) : Option (Nat × Nat) := cnRqz (Nat.blt o 8) (kSn6 o) (kSn11 o)
noncomputable def kSn13 (o : Nat) : Option (Nat × Nat) := cnRqz (Nat.blt o 17) (some (0, 64)) (some (15, 4))
noncomputable def kSn14 (o : Nat) : Option (Nat × Nat) := cnRqz (Nat.blt o 19) (some (0, 242)) (some (0, 64))
noncomputable def kSn15 (o : Nat) : Option (Nat × Nat) := cnRqz (Nat.blt o 18) (kSn13 o) (kSn14 o)
noncomputable def kSn16 (o : Nat) : Option (Nat × Nat) := cnRqz (Nat.blt o 20) (kSn15 o) (some (13, 7))
noncomputable def kSn17 (o : Nat) : Option (Nat × Nat) := cnRqz (Nat.blt o 28) (some (13, 7)) (some (17, 5))
noncomputable def kSn18 (o : Nat) : Option (Nat × Nat) := cnRqz (Nat.blt o 24) (kSn16 o) (kSn17 o)
noncomputable def kSn19 (o : Nat) : Option (Nat × Nat) := cnRqz (Nat.blt o 16) (kSn12 o) (kSn18 o)
noncomputable def kSn20 (o : Nat) : Option (Nat × Nat) := cnRqz (Nat.blt o 41) (some (16, 3)) (some (0, 120))
noncomputable def kSn21 (o : Nat) : Option (Nat × Nat) := cnRqz (Nat.blt o 43) (some (11, 6)) (some (0, 40))
noncomputable def kSn22 (o : Nat) : Option (Nat × Nat) := cnRqz (Nat.blt o 42) (kSn20 o) (kSn21 o)
noncomputable def kSn23 (o : Nat) : Option (Nat × Nat) := cnRqz (Nat.blt o 47) (some (0, 40)) (some (10, 6))
noncomputable def kSn24 (o : Nat) : Option (Nat × Nat) := cnRqz (Nat.blt o 46) (some (0, 40)) (kSn23 o)
noncomputable def kSn25 (o : Nat) : Option (Nat × Nat) := cnRqz (Nat.blt o 44) (kSn22 o) (kSn24 o)
noncomputable def kSn26 (o : Nat) : Option (Nat × Nat) := cnRqz (Nat.blt o 40) (some (17, 5)) (kSn25 o)
noncomputable def kSn27 (o : Nat) : Option (Nat × Nat) := cnRqz (Nat.blt o 49) (some (0, 50)) (some (0, 24))
noncomputable def kSn28 (o : Nat) : Option (Nat × Nat) := cnRqz (Nat.blt o 51) (some (14, 4)) (some (0, 20))
noncomputable def kSn29 (o : Nat) : Option (Nat × Nat) := cnRqz (Nat.blt o 50) (kSn27 o) (kSn28 o)
noncomputable def kSn30 (o : Nat) : Option (Nat × Nat) := cnRqz (Nat.blt o 53) (some (19, 7)) (some (0, 4))
noncomputable def kSn31 (o : Nat) : Option (Nat × Nat) := cnRqz (Nat.blt o 54) (kSn30 o) (some (0, 341))
noncomputable def kSn32 (o : Nat) : Option (Nat × Nat) := cnRqz (Nat.blt o 52) (kSn29 o) (kSn31 o)
noncomputable def kSn33 (o : Nat) : Option (Nat × Nat) := cnRqz (Nat.blt o 59) (some (13, 7)) (some (20, 5))
noncomputable def kSn34 (o : Nat) : Option (Nat × Nat) := cnRqz (Nat.blt o 58) (some (0, 341)) (kSn33 o)
noncomputable def kSn35 (o : Nat) : Option (Nat × Nat) := cnRqz (Nat.blt o 63) (some (2, 8)) (some (13, 7))
noncomputable def kSn36 (o : Nat) : Option (Nat × Nat) := cnRqz (Nat.blt o 62) (some (0, 8)) (kSn35 o)
noncomputable def kSn37 (o : Nat) : Option (Nat × Nat) := cnRqz (Nat.blt o 60) (kSn34 o) (kSn36 o)
noncomputable def kSn38 (o : Nat) : Option (Nat × Nat) := cnRqz (Nat.blt o 56) (kSn32 o) (kSn37 o)
noncomputable def kSn39 (o : Nat) : Option (Nat × Nat) := cnRqz (Nat.blt o 48) (kSn26 o) (kSn38 o)
noncomputable def kSn40 (o : Nat) : Option (Nat × Nat) := cnRqz (Nat.blt o 32) (kSn19 o) (kSn39 o)
noncomputable def kSn41 (o : Nat) : Option (Nat × Nat) := cnRqz (Nat.blt o 71) (some (13, 7)) (some (4, 6))
noncomputable def kSn42 (o : Nat) : Option (Nat × Nat) := cnRqz (Nat.blt o 70) (some (13, 7)) (kSn41 o)
noncomputable def kSn43 (o : Nat) : Option (Nat × Nat) := cnRqz (Nat.blt o 68) (some (13, 7)) (kSn42 o)
noncomputable def kSn44 (o : Nat) : Option (Nat × Nat) := cnRqz (Nat.blt o 73) (some (2, 6)) (some (0, 5))
noncomputable def kSn45 (o : Nat) : Option (Nat × Nat) := cnRqz (Nat.blt o 75) (some (2, 8)) (some (0, 5))
noncomputable def kSn46 (o : Nat) : Option (Nat × Nat) := cnRqz (Nat.blt o 74) (kSn44 o) (kSn45 o)
noncomputable def kSn47 (o : Nat) : Option (Nat × Nat) := cnRqz (Nat.blt o 77) (some (18, 5)) (some (1, 60))
noncomputable def kSn48 (o : Nat) : Option (Nat × Nat) := cnRqz (Nat.blt o 79) (some (18, 5)) (some (1, 60))
noncomputable def kSn49 (o : Nat) : Option (Nat × Nat) := cnRqz (Nat.blt o 78) (kSn47 o) (kSn48 o)
noncomputable def kSn50 (o : Nat) : Option (Nat × Nat) := cnRqz (Nat.blt o 76) (kSn46 o) (kSn49 o)
noncomputable def kSn51 (o : Nat) : Option (Nat × Nat) := cnRqz (Nat.blt o 72) (kSn43 o) (kSn50 o)
noncomputable def kSn52 (o : Nat) : Option (Nat × Nat) := cnRqz (Nat.blt o 81) (some (18, 5)) (some (1, 60))
noncomputable def kSn53 (o : Nat) : Option (Nat × Nat) := cnRqz (Nat.blt o 83) (some (18, 5)) (some (1, 60))
noncomputable def kSn54 (o : Nat) : Option (Nat × Nat) := cnRqz (Nat.blt o 82) (kSn52 o) (kSn53 o)
noncomputable def kSn55 (o : Nat) : Option (Nat × Nat) := cnRqz (Nat.blt o 85) (some (18, 5)) (some (1, 60))
noncomputable def kSn56 (o : Nat) : Option (Nat × Nat) := cnRqz (Nat.blt o 87) (some (18, 5)) (some (1, 60))
noncomputable def kSn57 (o : Nat) : Option (Nat × Nat) := cnRqz (Nat.blt o 86) (kSn55 o) (kSn56 o)
noncomputable def kSn58 (o : Nat) : Option (Nat × Nat) := cnRqz (Nat.blt o 84) (kSn54 o) (kSn57 o)
noncomputable def kSn59 (o : Nat) : Option (Nat × Nat) := cnRqz (Nat.blt o 88) (kSn58 o) (some (13, 7))
noncomputable def kSn60 (o : Nat) : Option (Nat × Nat) := cnRqz (Nat.blt o 80) (kSn51 o) (kSn59 o)
noncomputable def kSn61 (o : Nat) : Option (Nat × Nat) := cnRqz (Nat.blt o 103) (some (22, 49)) (some (0, 104))
noncomputable def kSn62 (o : Nat) : Option (Nat × Nat) := cnRqz (Nat.blt o 102) (some (13, 7)) (kSn61 o)
noncomputable def kSn63 (o : Nat) : Option (Nat × Nat) := cnRqz (Nat.blt o 100) (some (13, 7)) (kSn62 o)
noncomputable def kSn64 (o : Nat) : Option (Nat × Nat) := cnRqz (Nat.blt o 107) (some (0, 40)) (some (0, 12))
noncomputable def kSn65 (o : Nat) : Option (Nat × Nat) := cnRqz (Nat.blt o 106) (some (0, 40)) (kSn64 o)
noncomputable def kSn66 (o : Nat) : Option (Nat × Nat) := cnRqz (Nat.blt o 109) (some (0, 12)) (some (0, 120))
noncomputable def kSn67 (o : Nat) : Option (Nat × Nat) := cnRqz (Nat.blt o 111) (some (0, 120)) (some (0, 6))
noncomputable def kSn68 (o : Nat) : Option (Nat × Nat) := cnRqz (Nat.blt o 110) (kSn66 o) (kSn67 o)
noncomputable def kSn69 (o : Nat) : Option (Nat × Nat) := cnRqz (Nat.blt o 108) (kSn65 o) (kSn68 o)
noncomputable def kSn70 (o : Nat) : Option (Nat × Nat) := cnRqz (Nat.blt o 104) (kSn63 o) (kSn69 o)
noncomputable def kSn71 (o : Nat) : Option (Nat × Nat) := cnRqz (Nat.blt o 113) (some (0, 7)) (some (0, 4))
noncomputable def kSn72 (o : Nat) : Option (Nat × Nat) := cnRqz (Nat.blt o 114) (kSn71 o) (some (0, 8))
noncomputable def kSn73 (o : Nat) : Option (Nat × Nat) := cnRqz (Nat.blt o 117) (some (0, 8)) (some (0, 6))
noncomputable def kSn74 (o : Nat) : Option (Nat × Nat) := cnRqz (Nat.blt o 118) (kSn73 o) (some (0, 5))
noncomputable def kSn75 (o : Nat) : Option (Nat × Nat) := cnRqz (Nat.blt o 116) (kSn72 o) (kSn74 o)
noncomputable def kSn76 (o : Nat) : Option (Nat × Nat) := cnRqz (Nat.blt o 121) (some (0, 104)) (some (0, 5))
noncomputable def kSn77 (o : Nat) : Option (Nat × Nat) := cnRqz (Nat.blt o 123) (some (0, 50)) (some (0, 24))
noncomputable def kSn78 (o : Nat) : Option (Nat × Nat) := cnRqz (Nat.blt o 122) (kSn76 o) (kSn77 o)
noncomputable def kSn79 (o : Nat) : Option (Nat × Nat) := cnRqz (Nat.blt o 127) (some (1, 360)) (some (1, 60))
noncomputable def kSn80 (o : Nat) : Option (Nat × Nat) := cnRqz (Nat.blt o 126) (some (0, 6)) (kSn79 o)
noncomputable def kSn81 (o : Nat) : Option (Nat × Nat) := cnRqz (Nat.blt o 124) (kSn78 o) (kSn80 o)
noncomputable def kSn82 (o : Nat) : Option (Nat × Nat) := cnRqz (Nat.blt o 120) (kSn75 o) (kSn81 o)
noncomputable def kSn83 (o : Nat) : Option (Nat × Nat) := cnRqz (Nat.blt o 112) (kSn70 o) (kSn82 o)
noncomputable def kSn84 (o : Nat) : Option (Nat × Nat) := cnRqz (Nat.blt o 96) (kSn60 o) (kSn83 o)
noncomputable def kSn85 (o : Nat) : Option (Nat × Nat) := cnRqz (Nat.blt o 64) (kSn40 o) (kSn84 o)
noncomputable def kSn86 (o : Nat) : Option (Nat × Nat) := cnRqz (Nat.blt o 128) (kSn85 o) (none)
noncomputable def kSN (o : Nat) : Option (Nat × Nat) := (kSn86 o)
noncomputable def kBn0 (o : Nat) : Option ((Int × Int) ⊕ List (Int × Int)) := cnRqz (Nat.blt o 1) (some (.inl (.negSucc 2147483647, .ofNat 2147483647))) (some (.inr [(.ofNat 5, .ofNat 5), (.ofNat 12, .ofNat 12), (.ofNat 3, .ofNat 3), (.ofNat 5, .ofNat 5), (.ofNat 99, .ofNat 99), (.ofNat 9, .ofNat 9), (.ofNat 1, .ofNat 1), (.ofNat 9, .ofNat 9), (.ofNat 5, .ofNat 5), (.ofNat 9, .ofNat 9), (.ofNat 9, .ofNat 9), (.ofNat 2, .ofNat 2)]))
noncomputable def kBn1 (o : Nat) : Option ((Int × Int) ⊕ List (Int × Int)) := cnRqz (Nat.blt o 3) (some (.inr [(.ofNat 0, .ofNat 0), (.ofNat 0, .ofNat 0), (.ofNat 0, .ofNat 0), (.ofNat 0, .ofNat 0), (.ofNat 0, .ofNat 0), (.ofNat 0, .ofNat 0), (.ofNat 0, .ofNat 0), (.ofNat 0, .ofNat 0), (.negSucc 0, .negSucc 0), (.ofNat 1, .ofNat 1), (.ofNat 0, .ofNat 0), (.ofNat 0, .ofNat 0)])) (some (.inr [(.ofNat 4, .ofNat 4), (.ofNat 0, .ofNat 0), (.ofNat 3, .ofNat 3)]))
noncomputable def kBn2 (o : Nat) : Option ((Int × Int) ⊕ List (Int × Int)) := cnRqz (Nat.blt o 2) (kBn0 o) (kBn1 o)
noncomputable def kBn3 (o : Nat) : Option ((Int × Int) ⊕ List (Int × Int)) := cnRqz (Nat.blt o 5) (some (.inr [(.negSucc 0, .negSucc 0), (.ofNat 0, .ofNat 0), (.ofNat 0, .ofNat 0), (.ofNat 2, .ofNat 2), (.ofNat 1, .ofNat 1), (.ofNat 3, .ofNat 3), (.ofNat 0, .ofNat 0), (.ofNat 4, .ofNat 4)])) (some (.inr [(.ofNat 1, .ofNat 1), (.ofNat 10, .ofNat 10), (.ofNat 11, .ofNat 11), (.ofNat 2, .ofNat 2), (.ofNat 20, .ofNat 20), (.ofNat 0, .ofNat 0), (.ofNat 0, .ofNat 0), (.ofNat 0, .ofNat 0), (.ofNat 0, .ofNat 0), (.ofNat 30, .ofNat 30), (.ofNat 0, .ofNat 0), (.ofNat 0, .ofNat 0), (.ofNat 0, .ofNat 0), (.ofNat 41, .ofNat 41), (.ofNat 40, .ofNat 40), (.ofNat 0, .ofNat 0), (.ofNat 0, .ofNat 0), (.ofNat 0, .ofNat 0), (.ofNat 50, .ofNat 50), (.ofNat 0, .ofNat 0), (.ofNat 0, .ofNat 0), (.ofNat 0, .ofNat 0), (.ofNat 0, .ofNat 0), (.ofNat 60, .ofNat 60), (.ofNat 70, .ofNat 70), (.ofNat 0, .ofNat 0), (.ofNat 0, .ofNat 0), (.ofNat 0, .ofNat 0), (.ofNat 0, .ofNat 0), (.ofNat 80, .ofNat 80), (.ofNat 0, .ofNat 0), (.ofNat 81, .ofNat 81)]))
noncomputable def kBn4 (o : Nat) : Option ((Int × Int) ⊕ List (Int × Int)) := cnRqz (Nat.blt o 7) (some (.inr [(.negSucc 2147483647, .ofNat 2147483647), (.negSucc 2147483647, .ofNat 2147483647), (.negSucc 2147483647, .ofNat 2147483647), (.negSucc 2147483647, .ofNat 2147483647), (.negSucc 2147483647, .ofNat 2147483647), (.negSucc 2147483647, .ofNat 2147483647), (.negSucc 2147483647, .ofNat 2147483647), (.negSucc 2147483647, .ofNat 2147483647), (.negSucc 2147483647, .ofNat 2147483647), (.negSucc 2147483647, .ofNat 2147483647), (.negSucc 2147483647, .ofNat 2147483647), (.negSucc 2147483647, .ofNat 2147483647), (.negSucc 0, .ofNat 8), (.ofNat 0, .ofNat 4)])) (some (.inr [(.negSucc 2147483647, .ofNat 2147483647), (.negSucc 2147483647, .ofNat 2147483647), (.negSucc 2147483647, .ofNat 2147483647), (.negSucc 2147483647, .ofNat 2147483647), (.negSucc 2147483647, .ofNat 2147483647), (.negSucc 2147483647, .ofNat 2147483647), (.ofNat 0, .ofNat 6), (.ofNat 0, .ofNat 8), (.ofNat 0, .ofNat 12), (.negSucc 2147483647, .ofNat 2147483647), (.negSucc 2147483647, .ofNat 2147483647)]))
noncomputable def kBn5 (o : Nat) : Option ((Int × Int) ⊕ List (Int × Int)) := cnRqz (Nat.blt o 6) (kBn3 o) (kBn4 o)
noncomputable def kBn6 (o : Nat) : Option ((Int × Int) ⊕ List (Int × Int)) := cnRqz (Nat.blt o 4) (kBn2 o) (kBn5 o)
noncomputable def kBn7 (o : Nat) : Option ((Int × Int) ⊕ List (Int × Int)) := cnRqz (Nat.blt o 10) (some (.inl (.negSucc 1999999999, .ofNat 100000000))) (some (.inl (.negSucc 2147483647, .ofNat 2147483647)))
noncomputable def kBn8 (o : Nat) : Option ((Int × Int) ⊕ List (Int × Int)) := cnRqz (Nat.blt o 15) (some (.inr [(.ofNat 0, .ofNat 1), (.negSucc 2147483647, .ofNat 2147483647), (.ofNat 0, .ofNat 242), (.negSucc 2147483647, .ofNat 2147483647)])) (some (.inl (.negSucc 2147483647, .ofNat 2147483647)))
noncomputable def kBn9 (o : Nat) : Option ((Int × Int) ⊕ List (Int × Int)) := cnRqz (Nat.blt o 14) (some (.inl (.negSucc 2147483647, .ofNat 2147483647))) (kBn8 o)
noncomputable def kBn10 (o : Nat) : Option ((Int × Int) ⊕ List (Int × Int)) := cnRqz (Nat.blt o 12) (kBn7 o) (kBn9 o)
noncomputable def kBn11 (o : Nat) : Option ((Int × Int) ⊕ List (Int × Int)) := cnRqz (Nat.blt o 8) (kBn6 o) (kBn10 o)
noncomputable def kBn12 (o : Nat) : Option ((Int × Int) ⊕ List (Int × Int)) := cnRqz (Nat.blt o 17) (some (.inl (.negSucc 2147483647, .ofNat 2147483647))) (some (.inr [(.ofNat 0, .ofNat 1), (.negSucc 2147483647, .ofNat 2147483647), (.ofNat 0, .ofNat 242), (.negSucc 2147483647, .ofNat 2147483647)]))
noncomputable def kBn13 (o : Nat) : Option ((Int × Int) ⊕ List (Int × Int)) := cnRqz (Nat.blt o 18) (kBn12 o) (some (.inl (.negSucc 2147483647, .ofNat 2147483647)))
noncomputable def kBn14 (o : Nat) : Option ((Int × Int) ⊕ List (Int × Int)) := cnRqz (Nat.blt o 20) (kBn13 o) (some (.inr [(.negSucc 1999999999, .ofNat 100000000), (.negSucc 1999999999, .ofNat 100000000), (.negSucc 1999999999, .ofNat 100000000), (.negSucc 1999999999, .ofNat 100000000), (.negSucc 1999999999, .ofNat 100000000), (.negSucc 1999999999, .ofNat 100000000), (.negSucc 1999999999, .ofNat 100000000)]))
noncomputable def kBn15 (o : Nat) : Option ((Int × Int) ⊕ List (Int × Int)) := cnRqz (Nat.blt o 28) (some (.inr [(.negSucc 1999999999, .ofNat 100000000), (.negSucc 1999999999, .ofNat 100000000), (.negSucc 1999999999, .ofNat 100000000), (.negSucc 1999999999, .ofNat 100000000), (.negSucc 1999999999, .ofNat 100000000), (.negSucc 1999999999, .ofNat 100000000), (.negSucc 1999999999, .ofNat 100000000)])) (some (.inr [(.negSucc 2147483647, .ofNat 2147483647), (.negSucc 2147483647, .ofNat 2147483647), (.negSucc 1999999999, .ofNat 100000000), (.negSucc 1999999999, .ofNat 100000000), (.negSucc 1999999999, .ofNat 100000000)]))
noncomputable def kBn16 (o : Nat) : Option ((Int × Int) ⊕ List (Int × Int)) := cnRqz (Nat.blt o 24) (kBn14 o) (kBn15 o)
noncomputable def kBn17 (o : Nat) : Option ((Int × Int) ⊕ List (Int × Int)) := cnRqz (Nat.blt o 16) (kBn11 o) (kBn16 o)
noncomputable def kBn18 (o : Nat) : Option ((Int × Int) ⊕ List (Int × Int)) := cnRqz (Nat.blt o 41) (some (.inr [(.negSucc 2147483647, .ofNat 2147483647), (.ofNat 0, .ofNat 120), (.ofNat 0, .ofNat 120)])) (some (.inl (.ofNat 0, .ofNat 255)))
noncomputable def kBn19 (o : Nat) : Option ((Int × Int) ⊕ List (Int × Int)) := cnRqz (Nat.blt o 43) (some (.inr [(.ofNat 0, .ofNat 40), (.negSucc 2147483647, .ofNat 2147483647), (.negSucc 2147483647, .ofNat 2147483647), (.negSucc 2147483647, .ofNat 2147483647), (.negSucc 2147483647, .ofNat 2147483647), (.negSucc 2147483647, .ofNat 2147483647)])) (some (.inl (.negSucc 2147483647, .ofNat 2147483647)))
noncomputable def kBn20 (o : Nat) : Option ((Int × Int) ⊕ List (Int × Int)) := cnRqz (Nat.blt o 42) (kBn18 o) (kBn19 o)
noncomputable def kBn21 (o : Nat) : Option ((Int × Int) ⊕ List (Int × Int)) := cnRqz (Nat.blt o 45) (some (.inl (.negSucc 2147483647, .ofNat 2147483647))) (some (.inl (.negSucc 1999999999, .ofNat 100000000)))
noncomputable def kBn22 (o : Nat) : Option ((Int × Int) ⊕ List (Int × Int)) := cnRqz (Nat.blt o 47) (some (.inl (.negSucc 1999999999, .ofNat 100000000))) (some (.inr [(.negSucc 2147483647, .ofNat 2147483647), (.ofNat 0, .ofNat 50), (.ofNat 0, .ofNat 100), (.negSucc 2147483647, .ofNat 2147483647), (.negSucc 2147483647, .ofNat 2147483647), (.ofNat 0, .ofNat 7)]))
noncomputable def kBn23 (o : Nat) : Option ((Int × Int) ⊕ List (Int × Int)) := cnRqz (Nat.blt o 46) (kBn21 o) (kBn22 o)
noncomputable def kBn24 (o : Nat) : Option ((Int × Int) ⊕ List (Int × Int)) := cnRqz (Nat.blt o 44) (kBn20 o) (kBn23 o)
noncomputable def kBn25 (o : Nat) : Option ((Int × Int) ⊕ List (Int × Int)) := cnRqz (Nat.blt o 40) (some (.inr [(.negSucc 2147483647, .ofNat 2147483647), (.negSucc 2147483647, .ofNat 2147483647), (.negSucc 1999999999, .ofNat 100000000), (.negSucc 1999999999, .ofNat 100000000), (.negSucc 1999999999, .ofNat 100000000)])) (kBn24 o)
noncomputable def kBn26 (o : Nat) : Option ((Int × Int) ⊕ List (Int × Int)) := cnRqz (Nat.blt o 49) (some (.inl (.ofNat 0, .ofNat 7))) (some (.inl (.negSucc 2147483647, .ofNat 2147483647)))
noncomputable def kBn27 (o : Nat) : Option ((Int × Int) ⊕ List (Int × Int)) := cnRqz (Nat.blt o 51) (some (.inr [(.negSucc 2147483647, .ofNat 2147483647), (.ofNat 0, .ofNat 20), (.negSucc 2147483647, .ofNat 2147483647), (.negSucc 2147483647, .ofNat 2147483647)])) (some (.inl (.ofNat 0, .ofNat 11)))
noncomputable def kBn28 (o : Nat) : Option ((Int × Int) ⊕ List (Int × Int)) := cnRqz (Nat.blt o 50) (kBn26 o) (kBn27 o)
noncomputable def kBn29 (o : Nat) : Option ((Int × Int) ⊕ List (Int × Int)) := cnRqz (Nat.blt o 53) (some (.inr [(.negSucc 2147483647, .ofNat 2147483647), (.negSucc 2147483647, .ofNat 2147483647), (.negSucc 2147483647, .ofNat 2147483647), (.negSucc 2147483647, .ofNat 2147483647), (.negSucc 2147483647, .ofNat 2147483647), (.negSucc 2147483647, .ofNat 2147483647), (.ofNat 0, .ofNat 341)])) (some (.inl (.negSucc 2147483647, .ofNat 2147483647)))
noncomputable def kBn30 (o : Nat) : Option ((Int × Int) ⊕ List (Int × Int)) := cnRqz (Nat.blt o 55) (some (.inl (.negSucc 2147483647, .ofNat 2147483647))) (some (.inl (.ofNat 0, .ofNat 340)))
noncomputable def kBn31 (o : Nat) : Option ((Int × Int) ⊕ List (Int × Int)) := cnRqz (Nat.blt o 54) (kBn29 o) (kBn30 o)
noncomputable def kBn32 (o : Nat) : Option ((Int × Int) ⊕ List (Int × Int)) := cnRqz (Nat.blt o 52) (kBn28 o) (kBn31 o)
noncomputable def kBn33 (o : Nat) : Option ((Int × Int) ⊕ List (Int × Int)) := cnRqz (Nat.blt o 57) (some (.inl (.negSucc 2147483647, .ofNat 2147483647))) (some (.inl (.ofNat 0, .ofNat 4)))
noncomputable def kBn34 (o : Nat) : Option ((Int × Int) ⊕ List (Int × Int)) := cnRqz (Nat.blt o 59) (some (.inr [(.negSucc 1999999999, .ofNat 100000000), (.negSucc 1999999999, .ofNat 100000000), (.negSucc 1999999999, .ofNat 100000000), (.negSucc 1999999999, .ofNat 100000000), (.negSucc 1999999999, .ofNat 100000000), (.negSucc 1999999999, .ofNat 100000000), (.negSucc 1999999999, .ofNat 100000000)])) (some (.inr [(.negSucc 2147483647, .ofNat 2147483647), (.negSucc 1, .ofNat 8), (.negSucc 2147483647, .ofNat 2147483647), (.negSucc 2147483647, .ofNat 2147483647), (.negSucc 2147483647, .ofNat 2147483647)]))
noncomputable def kBn35 (o : Nat) : Option ((Int × Int) ⊕ List (Int × Int)) := cnRqz (Nat.blt o 58) (kBn33 o) (kBn34 o)
noncomputable def kBn36 (o : Nat) : Option ((Int × Int) ⊕ List (Int × Int)) := cnRqz (Nat.blt o 63) (some (.inl (.negSucc 2147483647, .ofNat 2147483647))) (some (.inr [(.negSucc 1999999999, .ofNat 100000000), (.negSucc 1999999999, .ofNat 100000000), (.negSucc 1999999999, .ofNat 100000000), (.negSucc 1999999999, .ofNat 100000000), (.negSucc 1999999999, .ofNat 100000000), (.negSucc 1999999999, .ofNat 100000000), (.negSucc 1999999999, .ofNat 100000000)]))
noncomputable def kBn37 (o : Nat) : Option ((Int × Int) ⊕ List (Int × Int)) := cnRqz (Nat.blt o 62) (some (.inl (.negSucc 2147483647, .ofNat 2147483647))) (kBn36 o)
noncomputable def kBn38 (o : Nat) : Option ((Int × Int) ⊕ List (Int × Int)) := cnRqz (Nat.blt o 60) (kBn35 o) (kBn37 o)
noncomputable def kBn39 (o : Nat) : Option ((Int × Int) ⊕ List (Int × Int)) := cnRqz (Nat.blt o 56) (kBn32 o) (kBn38 o)
noncomputable def kBn40 (o : Nat) : Option ((Int × Int) ⊕ List (Int × Int)) := cnRqz (Nat.blt o 48) (kBn25 o) (kBn39 o)
noncomputable def kBn41 (o : Nat) : Option ((Int × Int) ⊕ List (Int × Int)) := cnRqz (Nat.blt o 32) (kBn17 o) (kBn40 o)
noncomputable def kBn42 (o : Nat) : Option ((Int × Int) ⊕ List (Int × Int)) := cnRqz (Nat.blt o 71) (some (.inr [(.negSucc 1999999999, .ofNat 100000000), (.negSucc 1999999999, .ofNat 100000000), (.negSucc 1999999999, .ofNat 100000000), (.negSucc 1999999999, .ofNat 100000000), (.negSucc 1999999999, .ofNat 100000000), (.negSucc 1999999999, .ofNat 100000000), (.negSucc 1999999999, .ofNat 100000000)])) (some (.inl (.negSucc 2147483647, .ofNat 2147483647)))
noncomputable def kBn43 (o : Nat) : Option ((Int × Int) ⊕ List (Int × Int)) := cnRqz (Nat.blt o 70) (some (.inr [(.negSucc 1999999999, .ofNat 100000000), (.negSucc 1999999999, .ofNat 100000000), (.negSucc 1999999999, .ofNat 100000000), (.negSucc 1999999999, .ofNat 100000000), (.negSucc 1999999999, .ofNat 100000000), (.negSucc 1999999999, .ofNat 100000000), (.negSucc 1999999999, .ofNat 100000000)])) (kBn42 o)
noncomputable def kBn44 (o : Nat) : Option ((Int × Int) ⊕ List (Int × Int)) := cnRqz (Nat.blt o 68) (some (.inr [(.negSucc 1999999999, .ofNat 100000000), (.negSucc 1999999999, .ofNat 100000000), (.negSucc 1999999999, .ofNat 100000000), (.negSucc 1999999999, .ofNat 100000000), (.negSucc 1999999999, .ofNat 100000000), (.negSucc 1999999999, .ofNat 100000000), (.negSucc 1999999999, .ofNat 100000000)])) (kBn43 o)
noncomputable def kBn45 (o : Nat) : Option ((Int × Int) ⊕ List (Int × Int)) := cnRqz (Nat.blt o 77) (some (.inr [(.ofNat 0, .ofNat 2), (.ofNat 0, .ofNat 49), (.ofNat 0, .ofNat 4), (.ofNat 0, .ofNat 60), (.negSucc 2147483647, .ofNat 2147483647)])) (some (.inl (.negSucc 2147483647, .ofNat 2147483647)))
noncomputable def kBn46 (o : Nat) : Option ((Int × Int) ⊕ List (Int × Int)) := cnRqz (Nat.blt o 79) (some (.inr [(.ofNat 0, .ofNat 2), (.ofNat 0, .ofNat 49), (.ofNat 0, .ofNat 4), (.ofNat 0, .ofNat 60), (.negSucc 2147483647, .ofNat 2147483647)])) (some (.inl (.negSucc 2147483647, .ofNat 2147483647)))
noncomputable def kBn47 (o : Nat) : Option ((Int × Int) ⊕ List (Int × Int)) := cnRqz (Nat.blt o 78) (kBn45 o) (kBn46 o)
noncomputable def kBn48 (o : Nat) : Option ((Int × Int) ⊕ List (Int × Int)) := cnRqz (Nat.blt o 76) (some (.inl (.negSucc 2147483647, .ofNat 2147483647))) (kBn47 o)
noncomputable def kBn49 (o : Nat) : Option ((Int × Int) ⊕ List (Int × Int)) := cnRqz (Nat.blt o 72) (kBn44 o) (kBn48 o)
noncomputable def kBn50 (o : Nat) : Option ((Int × Int) ⊕ List (Int × Int)) := cnRqz (Nat.blt o 81) (some (.inr [(.ofNat 0, .ofNat 2), (.ofNat 0, .ofNat 49), (.ofNat 0, .ofNat 4), (.ofNat 0, .ofNat 60), (.negSucc 2147483647, .ofNat 2147483647)])) (some (.inl (.negSucc 2147483647, .ofNat 2147483647)))
noncomputable def kBn51 (o : Nat) : Option ((Int × Int) ⊕ List (Int × Int)) := cnRqz (Nat.blt o 83) (some (.inr [(.ofNat 0, .ofNat 2), (.ofNat 0, .ofNat 49), (.ofNat 0, .ofNat 4), (.ofNat 0, .ofNat 60), (.negSucc 2147483647, .ofNat 2147483647)])) (some (.inl (.negSucc 2147483647, .ofNat 2147483647)))
noncomputable def kBn52 (o : Nat) : Option ((Int × Int) ⊕ List (Int × Int)) := cnRqz (Nat.blt o 82) (kBn50 o) (kBn51 o)
noncomputable def kBn53 (o : Nat) : Option ((Int × Int) ⊕ List (Int × Int)) := cnRqz (Nat.blt o 85) (some (.inr [(.ofNat 0, .ofNat 2), (.ofNat 0, .ofNat 49), (.ofNat 0, .ofNat 4), (.ofNat 0, .ofNat 60), (.negSucc 2147483647, .ofNat 2147483647)])) (some (.inl (.negSucc 2147483647, .ofNat 2147483647)))
noncomputable def kBn54 (o : Nat) : Option ((Int × Int) ⊕ List (Int × Int)) := cnRqz (Nat.blt o 87) (some (.inr [(.ofNat 0, .ofNat 2), (.ofNat 0, .ofNat 49), (.ofNat 0, .ofNat 4), (.ofNat 0, .ofNat 60), (.negSucc 2147483647, .ofNat 2147483647)])) (some (.inl (.negSucc 2147483647, .ofNat 2147483647)))
noncomputable def kBn55 (o : Nat) : Option ((Int × Int) ⊕ List (Int × Int)) := cnRqz (Nat.blt o 86) (kBn53 o) (kBn54 o)
noncomputable def kBn56 (o : Nat) : Option ((Int × Int) ⊕ List (Int × Int)) := cnRqz (Nat.blt o 84) (kBn52 o) (kBn55 o)
noncomputable def kBn57 (o : Nat) : Option ((Int × Int) ⊕ List (Int × Int)) := cnRqz (Nat.blt o 88) (kBn56 o) (some (.inr [(.negSucc 1999999999, .ofNat 100000000), (.negSucc 1999999999, .ofNat 100000000), (.negSucc 1999999999, .ofNat 100000000), (.negSucc 1999999999, .ofNat 100000000), (.negSucc 1999999999, .ofNat 100000000), (.negSucc 1999999999, .ofNat 100000000), (.negSucc 1999999999, .ofNat 100000000)]))
noncomputable def kBn58 (o : Nat) : Option ((Int × Int) ⊕ List (Int × Int)) := cnRqz (Nat.blt o 80) (kBn49 o) (kBn57 o)
noncomputable def kBn59 (o : Nat) : Option ((Int × Int) ⊕ List (Int × Int)) := cnRqz (Nat.blt o 103) (some (.inr [(.negSucc 2147483647, .ofNat 2147483647), (.negSucc 2147483647, .ofNat 2147483647), (.negSucc 2147483647, .ofNat 2147483647), (.negSucc 2147483647, .ofNat 2147483647), (.ofNat 0, .ofNat 40), (.ofNat 0, .ofNat 40), (.ofNat 0, .ofNat 6), (.ofNat 0, .ofNat 8), (.ofNat 0, .ofNat 12), (.negSucc 2147483647, .ofNat 2147483647), (.negSucc 2147483647, .ofNat 2147483647), (.negSucc 2147483647, .ofNat 2147483647), (.ofNat 0, .ofNat 120), (.negSucc 2147483647, .ofNat 2147483647), (.negSucc 0, .ofNat 120), (.negSucc 0, .ofNat 0), (.ofNat 0, .ofNat 120), (.ofNat 0, .ofNat 120), (.negSucc 0, .ofNat 120), (.ofNat 0, .ofNat 6), (.negSucc 2147483647, .ofNat 2147483647), (.negSucc 2147483647, .ofNat 2147483647), (.ofNat 0, .ofNat 99), (.ofNat 0, .ofNat 1), (.negSucc 2147483647, .ofNat 2147483647), (.ofNat 0, .ofNat 20), (.negSucc 2147483647, .ofNat 2147483647), (.negSucc 2147483647, .ofNat 2147483647), (.negSucc 2147483647, .ofNat 2147483647), (.negSucc 2147483647, .ofNat 2147483647), (.ofNat 0, .ofNat 8), (.negSucc 2147483647, .ofNat 2147483647), (.negSucc 2147483647, .ofNat 2147483647), (.negSucc 2147483647, .ofNat 2147483647), (.negSucc 2147483647, .ofNat 2147483647), (.ofNat 0, .ofNat 1), (.ofNat 0, .ofNat 8), (.negSucc 2147483647, .ofNat 2147483647), (.negSucc 2147483647, .ofNat 2147483647), (.ofNat 0, .ofNat 50), (.negSucc 2147483647, .ofNat 2147483647), (.negSucc 2147483647, .ofNat 2147483647), (.ofNat 0, .ofNat 100), (.ofNat 0, .ofNat 7), (.negSucc 2147483647, .ofNat 2147483647), (.negSucc 2147483647, .ofNat 2147483647), (.negSucc 2147483647, .ofNat 2147483647), (.negSucc 2147483647, .ofNat 2147483647), (.negSucc 2147483647, .ofNat 2147483647)])) (some (.inr [(.negSucc 0, .ofNat 99), (.negSucc 0, .ofNat 99), (.negSucc 0, .ofNat 99), (.negSucc 0, .ofNat 99), (.negSucc 0, .ofNat 99), (.negSucc 0, .ofNat 99), (.negSucc 0, .ofNat 99), (.negSucc 0, .ofNat 99), (.negSucc 0, .ofNat 99), (.negSucc 0, .ofNat 99), (.negSucc 0, .ofNat 99), (.negSucc 0, .ofNat 99), (.negSucc 0, .ofNat 99), (.negSucc 0, .ofNat 99), (.negSucc 0, .ofNat 99), (.negSucc 0, .ofNat 99), (.negSucc 0, .ofNat 99), (.negSucc 0, .ofNat 99), (.negSucc 0, .ofNat 99), (.negSucc 0, .ofNat 99), (.negSucc 0, .ofNat 99), (.negSucc 0, .ofNat 99), (.negSucc 0, .ofNat 99), (.negSucc 0, .ofNat 99), (.negSucc 0, .ofNat 99), (.negSucc 0, .ofNat 99), (.negSucc 0, .ofNat 99), (.negSucc 0, .ofNat 99), (.negSucc 0, .ofNat 99), (.negSucc 0, .ofNat 99), (.negSucc 0, .ofNat 99), (.negSucc 0, .ofNat 99), (.negSucc 0, .ofNat 99), (.negSucc 0, .ofNat 99), (.negSucc 0, .ofNat 99), (.negSucc 0, .ofNat 99), (.negSucc 0, .ofNat 99), (.negSucc 0, .ofNat 99), (.negSucc 0, .ofNat 99), (.negSucc 0, .ofNat 99), (.negSucc 0, .ofNat 99), (.negSucc 0, .ofNat 99), (.negSucc 0, .ofNat 99), (.negSucc 0, .ofNat 99), (.negSucc 0, .ofNat 99), (.negSucc 0, .ofNat 99), (.negSucc 0, .ofNat 99), (.negSucc 0, .ofNat 99), (.negSucc 0, .ofNat 99), (.negSucc 0, .ofNat 99), (.negSucc 0, .ofNat 99), (.negSucc 0, .ofNat 99), (.negSucc 0, .ofNat 99), (.negSucc 0, .ofNat 99), (.negSucc 0, .ofNat 99), (.negSucc 0, .ofNat 99), (.negSucc 0, .ofNat 99), (.negSucc 0, .ofNat 99), (.negSucc 0, .ofNat 99), (.negSucc 0, .ofNat 99), (.negSucc 0, .ofNat 5), (.negSucc 0, .ofNat 5), (.negSucc 0, .ofNat 5), (.negSucc 0, .ofNat 5), (.negSucc 0, .ofNat 5), (.negSucc 0, .ofNat 5), (.negSucc 0, .ofNat 5), (.negSucc 0, .ofNat 5), (.negSucc 0, .ofNat 99), (.negSucc 0, .ofNat 99), (.negSucc 0, .ofNat 99), (.negSucc 0, .ofNat 99), (.negSucc 0, .ofNat 99), (.negSucc 0, .ofNat 99), (.negSucc 0, .ofNat 99), (.negSucc 0, .ofNat 99), (.negSucc 0, .ofNat 99), (.negSucc 0, .ofNat 99), (.negSucc 0, .ofNat 99), (.negSucc 0, .ofNat 99), (.negSucc 0, .ofNat 99), (.negSucc 0, .ofNat 99), (.negSucc 0, .ofNat 99), (.negSucc 0, .ofNat 99), (.negSucc 0, .ofNat 99), (.negSucc 0, .ofNat 99), (.negSucc 0, .ofNat 99), (.negSucc 0, .ofNat 99), (.negSucc 0, .ofNat 99), (.negSucc 0, .ofNat 99), (.negSucc 0, .ofNat 99), (.negSucc 0, .ofNat 99), (.negSucc 0, .ofNat 99), (.negSucc 0, .ofNat 99), (.negSucc 0, .ofNat 99), (.negSucc 0, .ofNat 99), (.negSucc 0, .ofNat 99), (.negSucc 0, .ofNat 99), (.negSucc 0, .ofNat 99), (.negSucc 0, .ofNat 99), (.negSucc 0, .ofNat 99), (.negSucc 0, .ofNat 99), (.negSucc 0, .ofNat 99), (.negSucc 0, .ofNat 99)]))
noncomputable def kBn60 (o : Nat) : Option ((Int × Int) ⊕ List (Int × Int)) := cnRqz (Nat.blt o 102) (some (.inr [(.negSucc 1999999999, .ofNat 100000000), (.negSucc 1999999999, .ofNat 100000000), (.negSucc 1999999999, .ofNat 100000000), (.negSucc 1999999999, .ofNat 100000000), (.negSucc 1999999999, .ofNat 100000000), (.negSucc 1999999999, .ofNat 100000000), (.negSucc 1999999999, .ofNat 100000000)])) (kBn59 o)
noncomputable def kBn61 (o : Nat) : Option ((Int × Int) ⊕ List (Int × Int)) := cnRqz (Nat.blt o 100) (some (.inr [(.negSucc 1999999999, .ofNat 100000000), (.negSucc 1999999999, .ofNat 100000000), (.negSucc 1999999999, .ofNat 100000000), (.negSucc 1999999999, .ofNat 100000000), (.negSucc 1999999999, .ofNat 100000000), (.negSucc 1999999999, .ofNat 100000000), (.negSucc 1999999999, .ofNat 100000000)])) (kBn60 o)
noncomputable def kBn62 (o : Nat) : Option ((Int × Int) ⊕ List (Int × Int)) := cnRqz (Nat.blt o 105) (some (.inl (.ofNat 0, .ofNat 103))) (some (.inl (.negSucc 0, .ofNat 99)))
noncomputable def kBn63 (o : Nat) : Option ((Int × Int) ⊕ List (Int × Int)) := cnRqz (Nat.blt o 107) (some (.inl (.negSucc 0, .ofNat 99))) (some (.inl (.ofNat 0, .ofNat 7)))
noncomputable def kBn64 (o : Nat) : Option ((Int × Int) ⊕ List (Int × Int)) := cnRqz (Nat.blt o 106) (kBn62 o) (kBn63 o)
noncomputable def kBn65 (o : Nat) : Option ((Int × Int) ⊕ List (Int × Int)) := cnRqz (Nat.blt o 109) (some (.inl (.ofNat 0, .ofNat 7))) (some (.inl (.ofNat 0, .ofNat 255)))
noncomputable def kBn66 (o : Nat) : Option ((Int × Int) ⊕ List (Int × Int)) := cnRqz (Nat.blt o 111) (some (.inl (.ofNat 0, .ofNat 255))) (some (.inl (.negSucc 2147483647, .ofNat 2147483647)))
noncomputable def kBn67 (o : Nat) : Option ((Int × Int) ⊕ List (Int × Int)) := cnRqz (Nat.blt o 110) (kBn65 o) (kBn66 o)
noncomputable def kBn68 (o : Nat) : Option ((Int × Int) ⊕ List (Int × Int)) := cnRqz (Nat.blt o 108) (kBn64 o) (kBn67 o)
noncomputable def kBn69 (o : Nat) : Option ((Int × Int) ⊕ List (Int × Int)) := cnRqz (Nat.blt o 104) (kBn61 o) (kBn68 o)
noncomputable def kBn70 (o : Nat) : Option ((Int × Int) ⊕ List (Int × Int)) := cnRqz (Nat.blt o 113) (some (.inl (.negSucc 0, .ofNat 99))) (some (.inl (.ofNat 0, .ofNat 3)))
noncomputable def kBn71 (o : Nat) : Option ((Int × Int) ⊕ List (Int × Int)) := cnRqz (Nat.blt o 114) (kBn70 o) (some (.inl (.ofNat 0, .ofNat 11)))
noncomputable def kBn72 (o : Nat) : Option ((Int × Int) ⊕ List (Int × Int)) := cnRqz (Nat.blt o 117) (some (.inl (.negSucc 0, .ofNat 5))) (some (.inl (.ofNat 0, .ofNat 255)))
noncomputable def kBn73 (o : Nat) : Option ((Int × Int) ⊕ List (Int × Int)) := cnRqz (Nat.blt o 119) (some (.inl (.ofNat 0, .ofNat 2))) (some (.inl (.negSucc 2147483647, .ofNat 2147483647)))
noncomputable def kBn74 (o : Nat) : Option ((Int × Int) ⊕ List (Int × Int)) := cnRqz (Nat.blt o 118) (kBn72 o) (kBn73 o)
noncomputable def kBn75 (o : Nat) : Option ((Int × Int) ⊕ List (Int × Int)) := cnRqz (Nat.blt o 116) (kBn71 o) (kBn74 o)
noncomputable def kBn76 (o : Nat) : Option ((Int × Int) ⊕ List (Int × Int)) := cnRqz (Nat.blt o 121) (some (.inr [(.negSucc 0, .ofNat 99), (.negSucc 0, .ofNat 99), (.negSucc 0, .ofNat 99), (.negSucc 0, .ofNat 99), (.negSucc 0, .ofNat 99), (.negSucc 0, .ofNat 99), (.negSucc 0, .ofNat 99), (.negSucc 0, .ofNat 99), (.negSucc 0, .ofNat 99), (.negSucc 0, .ofNat 99), (.negSucc 0, .ofNat 99), (.negSucc 0, .ofNat 99), (.negSucc 0, .ofNat 99), (.negSucc 0, .ofNat 99), (.negSucc 0, .ofNat 99), (.negSucc 0, .ofNat 99), (.negSucc 0, .ofNat 99), (.negSucc 0, .ofNat 99), (.negSucc 0, .ofNat 99), (.negSucc 0, .ofNat 99), (.negSucc 0, .ofNat 99), (.negSucc 0, .ofNat 99), (.negSucc 0, .ofNat 99), (.negSucc 0, .ofNat 99), (.negSucc 0, .ofNat 99), (.negSucc 0, .ofNat 99), (.negSucc 0, .ofNat 99), (.negSucc 0, .ofNat 99), (.negSucc 0, .ofNat 99), (.negSucc 0, .ofNat 99), (.negSucc 0, .ofNat 99), (.negSucc 0, .ofNat 99), (.negSucc 0, .ofNat 99), (.negSucc 0, .ofNat 99), (.negSucc 0, .ofNat 99), (.negSucc 0, .ofNat 99), (.negSucc 0, .ofNat 99), (.negSucc 0, .ofNat 99), (.negSucc 0, .ofNat 99), (.negSucc 0, .ofNat 99), (.negSucc 0, .ofNat 99), (.negSucc 0, .ofNat 99), (.negSucc 0, .ofNat 99), (.negSucc 0, .ofNat 99), (.negSucc 0, .ofNat 99), (.negSucc 0, .ofNat 99), (.negSucc 0, .ofNat 99), (.negSucc 0, .ofNat 99), (.negSucc 0, .ofNat 99), (.negSucc 0, .ofNat 99), (.negSucc 0, .ofNat 99), (.negSucc 0, .ofNat 99), (.negSucc 0, .ofNat 99), (.negSucc 0, .ofNat 99), (.negSucc 0, .ofNat 99), (.negSucc 0, .ofNat 99), (.negSucc 0, .ofNat 99), (.negSucc 0, .ofNat 99), (.negSucc 0, .ofNat 99), (.negSucc 0, .ofNat 99), (.negSucc 0, .ofNat 5), (.negSucc 0, .ofNat 5), (.negSucc 0, .ofNat 5), (.negSucc 0, .ofNat 5), (.negSucc 0, .ofNat 5), (.negSucc 0, .ofNat 5), (.negSucc 0, .ofNat 5), (.negSucc 0, .ofNat 5), (.negSucc 0, .ofNat 99), (.negSucc 0, .ofNat 99), (.negSucc 0, .ofNat 99), (.negSucc 0, .ofNat 99), (.negSucc 0, .ofNat 99), (.negSucc 0, .ofNat 99), (.negSucc 0, .ofNat 99), (.negSucc 0, .ofNat 99), (.negSucc 0, .ofNat 99), (.negSucc 0, .ofNat 99), (.negSucc 0, .ofNat 99), (.negSucc 0, .ofNat 99), (.negSucc 0, .ofNat 99), (.negSucc 0, .ofNat 99), (.negSucc 0, .ofNat 99), (.negSucc 0, .ofNat 99), (.negSucc 0, .ofNat 99), (.negSucc 0, .ofNat 99), (.negSucc 0, .ofNat 99), (.negSucc 0, .ofNat 99), (.negSucc 0, .ofNat 99), (.negSucc 0, .ofNat 99), (.negSucc 0, .ofNat 99), (.negSucc 0, .ofNat 99), (.negSucc 0, .ofNat 99), (.negSucc 0, .ofNat 99), (.negSucc 0, .ofNat 99), (.negSucc 0, .ofNat 99), (.negSucc 0, .ofNat 99), (.negSucc 0, .ofNat 99), (.negSucc 0, .ofNat 99), (.negSucc 0, .ofNat 99), (.negSucc 0, .ofNat 99), (.negSucc 0, .ofNat 99), (.negSucc 0, .ofNat 99), (.negSucc 0, .ofNat 99)])) (some (.inl (.negSucc 2147483647, .ofNat 2147483647)))
noncomputable def kBn77 (o : Nat) : Option ((Int × Int) ⊕ List (Int × Int)) := cnRqz (Nat.blt o 123) (some (.inl (.ofNat 0, .ofNat 7))) (some (.inl (.negSucc 2147483647, .ofNat 2147483647)))
noncomputable def kBn78 (o : Nat) : Option ((Int × Int) ⊕ List (Int × Int)) := cnRqz (Nat.blt o 122) (kBn76 o) (kBn77 o)
noncomputable def kBn79 (o : Nat) : Option ((Int × Int) ⊕ List (Int × Int)) := cnRqz (Nat.blt o 125) (some (.inl (.negSucc 0, .ofNat 54))) (some (.inl (.ofNat 0, .ofNat 60)))
noncomputable def kBn80 (o : Nat) : Option ((Int × Int) ⊕ List (Int × Int)) := cnRqz (Nat.blt o 126) (kBn79 o) (some (.inl (.negSucc 2147483647, .ofNat 2147483647)))
noncomputable def kBn81 (o : Nat) : Option ((Int × Int) ⊕ List (Int × Int)) := cnRqz (Nat.blt o 124) (kBn78 o) (kBn80 o)
noncomputable def kBn82 (o : Nat) : Option ((Int × Int) ⊕ List (Int × Int)) := cnRqz (Nat.blt o 120) (kBn75 o) (kBn81 o)
noncomputable def kBn83 (o : Nat) : Option ((Int × Int) ⊕ List (Int × Int)) := cnRqz (Nat.blt o 112) (kBn69 o) (kBn82 o)
noncomputable def kBn84 (o : Nat) : Option ((Int × Int) ⊕ List (Int × Int)) := cnRqz (Nat.blt o 96) (kBn58 o) (kBn83 o)
noncomputable def kBn85 (o : Nat) : Option ((Int × Int) ⊕ List (Int × Int)) := cnRqz (Nat.blt o 64) (kBn41 o) (kBn84 o)
noncomputable def kBn86 (o : Nat) : Option ((Int × Int) ⊕ List (Int × Int)) := cnRqz (Nat.blt o 128) (kBn85 o) (none)
noncomputable def kBN (o : Nat) : Option ((Int × Int) ⊕ List (Int × Int)) := (kBn86 o)
noncomputable def krTn0 (o : Nat) : List (Nat × List Nat) := cnRqz (Nat.blt o 7) ([(0, [7]), (1, [40]), (2, [42]), (3, [47]), (4, [50]), (5, [52]), (6, [59]), (7, [71]), (8, [72]), (9, [73]), (10, [74]), (11, [75])]) ([(0, [8]), (1, [9]), (2, [10]), (3, [11]), (4, [12]), (5, [13]), (9, [14, 17]), (10, [14, 17])])
noncomputable def krTn1 (o : Nat) : List (Nat × List Nat) := cnRqz (Nat.blt o 6) ([]) (krTn0 o)
noncomputable def krTn2 (o : Nat) : List (Nat × List Nat) := cnRqz (Nat.blt o 4) ([]) (krTn1 o)
noncomputable def krTn3 (o : Nat) : List (Nat × List Nat) := cnRqz (Nat.blt o 11) ([(0, [20]), (1, [21]), (2, [22]), (3, [23]), (4, [24]), (5, [25]), (6, [26]), (7, [27])]) ([(0, [28]), (1, [29]), (2, [30]), (3, [31]), (4, [32]), (5, [33]), (6, [34]), (7, [35]), (8, [36]), (9, [37]), (10, [38]), (11, [39])])
noncomputable def krTn4 (o : Nat) : List (Nat × List Nat) := cnRqz (Nat.blt o 10) ([]) (krTn3 o)
noncomputable def krTn5 (o : Nat) : List (Nat × List Nat) := cnRqz (Nat.blt o 15) ([(1, [15]), (3, [16])]) ([])
noncomputable def krTn6 (o : Nat) : List (Nat × List Nat) := cnRqz (Nat.blt o 14) ([]) (krTn5 o)
noncomputable def krTn7 (o : Nat) : List (Nat × List Nat) := cnRqz (Nat.blt o 12) (krTn4 o) (krTn6 o)
noncomputable def krTn8 (o : Nat) : List (Nat × List Nat) := cnRqz (Nat.blt o 8) (krTn2 o) (krTn7 o)
noncomputable def krTn9 (o : Nat) : List (Nat × List Nat) := cnRqz (Nat.blt o 17) ([]) ([(1, [18]), (3, [19])])
noncomputable def krTn10 (o : Nat) : List (Nat × List Nat) := cnRqz (Nat.blt o 18) (krTn9 o) ([])
noncomputable def krTn11 (o : Nat) : List (Nat × List Nat) := cnRqz (Nat.blt o 20) (krTn10 o) ([])
noncomputable def krTn12 (o : Nat) : List (Nat × List Nat) := cnRqz (Nat.blt o 24) (krTn11 o) ([])
noncomputable def krTn13 (o : Nat) : List (Nat × List Nat) := cnRqz (Nat.blt o 16) (krTn8 o) (krTn12 o)
noncomputable def krTn14 (o : Nat) : List (Nat × List Nat) := cnRqz (Nat.blt o 41) ([(0, [41])]) ([])
noncomputable def krTn15 (o : Nat) : List (Nat × List Nat) := cnRqz (Nat.blt o 43) ([(2, [43]), (3, [44]), (4, [45]), (5, [46])]) ([])
noncomputable def krTn16 (o : Nat) : List (Nat × List Nat) := cnRqz (Nat.blt o 42) (krTn14 o) (krTn15 o)
noncomputable def krTn17 (o : Nat) : List (Nat × List Nat) := cnRqz (Nat.blt o 47) ([]) ([(0, [48]), (3, [49])])
noncomputable def krTn18 (o : Nat) : List (Nat × List Nat) := cnRqz (Nat.blt o 46) ([]) (krTn17 o)
noncomputable def krTn19 (o : Nat) : List (Nat × List Nat) := cnRqz (Nat.blt o 44) (krTn16 o) (krTn18 o)
noncomputable def krTn20 (o : Nat) : List (Nat × List Nat) := cnRqz (Nat.blt o 40) ([]) (krTn19 o)
noncomputable def krTn21 (o : Nat) : List (Nat × List Nat) := cnRqz (Nat.blt o 51) ([(0, [51])]) ([])
noncomputable def krTn22 (o : Nat) : List (Nat × List Nat) := cnRqz (Nat.blt o 50) ([]) (krTn21 o)
noncomputable def krTn23 (o : Nat) : List (Nat × List Nat) := cnRqz (Nat.blt o 53) ([(0, [53]), (1, [54]), (2, [55]), (3, [56]), (4, [57]), (5, [58])]) ([])
noncomputable def krTn24 (o : Nat) : List (Nat × List Nat) := cnRqz (Nat.blt o 54) (krTn23 o) ([])
noncomputable def krTn25 (o : Nat) : List (Nat × List Nat) := cnRqz (Nat.blt o 52) (krTn22 o) (krTn24 o)
noncomputable def krTn26 (o : Nat) : List (Nat × List Nat) := cnRqz (Nat.blt o 59) ([]) ([(0, [60]), (3, [61]), (4, [62])])
noncomputable def krTn27 (o : Nat) : List (Nat × List Nat) := cnRqz (Nat.blt o 58) ([]) (krTn26 o)
noncomputable def krTn28 (o : Nat) : List (Nat × List Nat) := cnRqz (Nat.blt o 63) ([(0, [63]), (1, [64]), (2, [65]), (3, [66]), (4, [67]), (5, [68]), (6, [69]), (7, [70])]) ([])
noncomputable def krTn29 (o : Nat) : List (Nat × List Nat) := cnRqz (Nat.blt o 62) ([]) (krTn28 o)
noncomputable def krTn30 (o : Nat) : List (Nat × List Nat) := cnRqz (Nat.blt o 60) (krTn27 o) (krTn29 o)
noncomputable def krTn31 (o : Nat) : List (Nat × List Nat) := cnRqz (Nat.blt o 56) (krTn25 o) (krTn30 o)
noncomputable def krTn32 (o : Nat) : List (Nat × List Nat) := cnRqz (Nat.blt o 48) (krTn20 o) (krTn31 o)
noncomputable def krTn33 (o : Nat) : List (Nat × List Nat) := cnRqz (Nat.blt o 32) (krTn13 o) (krTn32 o)
noncomputable def krTn34 (o : Nat) : List (Nat × List Nat) := cnRqz (Nat.blt o 71) ([]) ([(0, [76]), (1, [78]), (2, [80]), (3, [82]), (4, [84]), (5, [86])])
noncomputable def krTn35 (o : Nat) : List (Nat × List Nat) := cnRqz (Nat.blt o 70) ([]) (krTn34 o)
noncomputable def krTn36 (o : Nat) : List (Nat × List Nat) := cnRqz (Nat.blt o 68) ([]) (krTn35 o)
noncomputable def krTn37 (o : Nat) : List (Nat × List Nat) := cnRqz (Nat.blt o 73) ([(0, [88]), (1, [89]), (2, [90]), (3, [91]), (4, [92]), (5, [93])]) ([])
noncomputable def krTn38 (o : Nat) : List (Nat × List Nat) := cnRqz (Nat.blt o 75) ([(0, [94]), (1, [95]), (2, [96]), (3, [97]), (4, [98]), (5, [99]), (6, [100]), (7, [101])]) ([])
noncomputable def krTn39 (o : Nat) : List (Nat × List Nat) := cnRqz (Nat.blt o 74) (krTn37 o) (krTn38 o)
noncomputable def krTn40 (o : Nat) : List (Nat × List Nat) := cnRqz (Nat.blt o 77) ([(4, [77])]) ([])
noncomputable def krTn41 (o : Nat) : List (Nat × List Nat) := cnRqz (Nat.blt o 79) ([(4, [79])]) ([])
noncomputable def krTn42 (o : Nat) : List (Nat × List Nat) := cnRqz (Nat.blt o 78) (krTn40 o) (krTn41 o)
noncomputable def krTn43 (o : Nat) : List (Nat × List Nat) := cnRqz (Nat.blt o 76) (krTn39 o) (krTn42 o)
noncomputable def krTn44 (o : Nat) : List (Nat × List Nat) := cnRqz (Nat.blt o 72) (krTn36 o) (krTn43 o)
noncomputable def krTn45 (o : Nat) : List (Nat × List Nat) := cnRqz (Nat.blt o 81) ([(4, [81])]) ([])
noncomputable def krTn46 (o : Nat) : List (Nat × List Nat) := cnRqz (Nat.blt o 83) ([(4, [83])]) ([])
noncomputable def krTn47 (o : Nat) : List (Nat × List Nat) := cnRqz (Nat.blt o 82) (krTn45 o) (krTn46 o)
noncomputable def krTn48 (o : Nat) : List (Nat × List Nat) := cnRqz (Nat.blt o 85) ([(4, [85])]) ([])
noncomputable def krTn49 (o : Nat) : List (Nat × List Nat) := cnRqz (Nat.blt o 87) ([(4, [87])]) ([])
noncomputable def krTn50 (o : Nat) : List (Nat × List Nat) := cnRqz (Nat.blt o 86) (krTn48 o) (krTn49 o)
noncomputable def krTn51 (o : Nat) : List (Nat × List Nat) := cnRqz (Nat.blt o 84) (krTn47 o) (krTn50 o)
noncomputable def krTn52 (o : Nat) : List (Nat × List Nat) := cnRqz (Nat.blt o 88) (krTn51 o) ([])
noncomputable def krTn53 (o : Nat) : List (Nat × List Nat) := cnRqz (Nat.blt o 80) (krTn44 o) (krTn52 o)
noncomputable def krTn54 (o : Nat) : List (Nat × List Nat) := cnRqz (Nat.blt o 103) ([(0, [103]), (1, [104]), (2, [105]), (3, [106]), (9, [107]), (10, [108]), (11, [109]), (13, [110]), (20, [111]), (21, [112]), (26, [113]), (27, [114]), (28, [115]), (31, [116]), (32, [117]), (33, [118]), (34, [119]), (37, [120]), (38, [121]), (40, [122]), (41, [123]), (45, [124]), (46, [125]), (47, [126]), (48, [127])]) ([])
noncomputable def krTn55 (o : Nat) : List (Nat × List Nat) := cnRqz (Nat.blt o 102) ([]) (krTn54 o)
noncomputable def krTn56 (o : Nat) : List (Nat × List Nat) := cnRqz (Nat.blt o 100) ([]) (krTn55 o)
noncomputable def krTn57 (o : Nat) : List (Nat × List Nat) := cnRqz (Nat.blt o 104) (krTn56 o) ([])
noncomputable def krTn58 (o : Nat) : List (Nat × List Nat) := cnRqz (Nat.blt o 112) (krTn57 o) ([])
noncomputable def krTn59 (o : Nat) : List (Nat × List Nat) := cnRqz (Nat.blt o 96) (krTn53 o) (krTn58 o)
noncomputable def krTn60 (o : Nat) : List (Nat × List Nat) := cnRqz (Nat.blt o 64) (krTn33 o) (krTn59 o)
noncomputable def krTn61 (o : Nat) : List (Nat × List Nat) := cnRqz (Nat.blt o 128) (krTn60 o) ([])
noncomputable def krTN (o : Nat) : List (Nat × List Nat) := (krTn61 o)
theorem kSN_e : @kSN = @kS := by
  delta kSN kSn0 kSn1 kSn2 kSn3 kSn4 kSn5 kSn6 kSn7 kSn8 kSn9 kSn10 kSn11 kSn12 kSn13 kSn14 kSn15 kSn16 kSn17 kSn18 kSn19 kSn20 kSn21 kSn22 kSn23 kSn24 kSn25 kSn26 kSn27 kSn28 kSn29 kSn30 kSn31 kSn32 kSn33 kSn34 kSn35 kSn36 kSn37 kSn38 kSn39 kSn40 kSn41 kSn42 kSn43 kSn44 kSn45 kSn46 kSn47 kSn48 kSn49 kSn50 kSn51 kSn52 kSn53 kSn54 kSn55 kSn56 kSn57 kSn58 kSn59 kSn60 kSn61 kSn62 kSn63 kSn64 kSn65 kSn66 kSn67 kSn68 kSn69 kSn70 kSn71 kSn72 kSn73 kSn74 kSn75 kSn76 kSn77 kSn78 kSn79 kSn80 kSn81 kSn82 kSn83 kSn84 kSn85 kSn86 kS
  rw [cnRqz_e]
theorem kBN_e : @kBN = @kB := by
  delta kBN kBn0 kBn1 kBn2 kBn3 kBn4 kBn5 kBn6 kBn7 kBn8 kBn9 kBn10 kBn11 kBn12 kBn13 kBn14 kBn15 kBn16 kBn17 kBn18 kBn19 kBn20 kBn21 kBn22 kBn23 kBn24 kBn25 kBn26 kBn27 kBn28 kBn29 kBn30 kBn31 kBn32 kBn33 kBn34 kBn35 kBn36 kBn37 kBn38 kBn39 kBn40 kBn41 kBn42 kBn43 kBn44 kBn45 kBn46 kBn47 kBn48 kBn49 kBn50 kBn51 kBn52 kBn53 kBn54 kBn55 kBn56 kBn57 kBn58 kBn59 kBn60 kBn61 kBn62 kBn63 kBn64 kBn65 kBn66 kBn67 kBn68 kBn69 kBn70 kBn71 kBn72 kBn73 kBn74 kBn75 kBn76 kBn77 kBn78 kBn79 kBn80 kBn81 kBn82 kBn83 kBn84 kBn85 kBn86 kB
  rw [cnRqz_e]
theorem krTN_e : @krTN = @krT := by
  delta krTN krTn0 krTn1 krTn2 krTn3 krTn4 krTn5 krTn6 krTn7 krTn8 krTn9 krTn10 krTn11 krTn12 krTn13 krTn14 krTn15 krTn16 krTn17 krTn18 krTn19 krTn20 krTn21 krTn22 krTn23 krTn24 krTn25 krTn26 krTn27 krTn28 krTn29 krTn30 krTn31 krTn32 krTn33 krTn34 krTn35 krTn36 krTn37 krTn38 krTn39 krTn40 krTn41 krTn42 krTn43 krTn44 krTn45 krTn46 krTn47 krTn48 krTn49 krTn50 krTn51 krTn52 krTn53 krTn54 krTn55 krTn56 krTn57 krTn58 krTn59 krTn60 krTn61 krT
  rw [cnRqz_e]
noncomputable def kasN (l_s : List (Nat × List Nat)) (j_s : Nat) : List Nat := List.rec (motive := fun _ => List Nat) [] (fun p_s _ ih_s => cnRqz (Nat.beq p_s.1 j_s) p_s.2 ih_s) l_s
theorem kasN_e : @kasN = @kas := by
  funext l_s j_s
  induction l_s with
  | nil => rfl
  | cons p_s r_s ih_s =>
    show cnRqz (Nat.beq p_s.1 j_s) p_s.2 (kasN r_s j_s) = bif Nat.beq p_s.1 j_s then p_s.2 else kas r_s j_s
    rw [ih_s, cnRqz_e]
noncomputable def krfN (o_s k_s : Nat) : List Nat := kasN (krTN o_s) k_s
theorem krfN_e : @krfN = @krf := by
  delta krfN krf
  rw [kasN_e, krTN_e]
noncomputable def kspN (l_s : List (Nat × Nat × Nat × Int × Int × Nat)) (mi_s pc_s : Nat) : Option (Nat × Int × Int × Nat) := List.rec (motive := fun _ => Option (Nat × Int × Int × Nat)) none (fun q_s _ ih_s => cnRqz (Nat.beq q_s.1 mi_s) (cnRqz (Nat.beq q_s.2.1 pc_s) (some q_s.2.2) ih_s) ih_s) l_s
theorem kspN_e : @kspN = @ksp := by
  funext l_s mi_s pc_s
  induction l_s with
  | nil => rfl
  | cons q_s r_s ih_s =>
    show cnRqz (Nat.beq q_s.1 mi_s) (cnRqz (Nat.beq q_s.2.1 pc_s) (some q_s.2.2) (kspN r_s mi_s pc_s)) (kspN r_s mi_s pc_s) = bif Nat.beq q_s.1 mi_s && Nat.beq q_s.2.1 pc_s then some q_s.2.2 else ksp r_s mi_s pc_s
    rw [ih_s]
    cases Nat.beq q_s.1 mi_s <;> cases Nat.beq q_s.2.1 pc_s <;> rfl
theorem asgqk {es_s : List aE} {l_s : List (Nat × Nat × Nat × Int × Int × Nat)} {e_s : aE} {cu_s : List aC} {f_s : Nat} {c_s : Option aC} (h_s : asegRqw kSN krfN kBN es_s (kspN l_s) e_s cu_s f_s c_s = true) : aseg kS krf kB es_s (ksp l_s) e_s cu_s f_s c_s = true := by
  rw [kSN_e, krfN_e, kBN_e, kspN_e] at h_s
  exact asgqw h_s
