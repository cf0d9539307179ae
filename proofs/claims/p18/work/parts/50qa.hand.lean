/-! A TEXT, read: as a function of its bytes. A piece that was read: its code, its worth (by names), whether it minds WORN. -/
abbrev pA : Type := List Int32 × ((Nat → Int32) → Int32) × Bool
abbrev pR : Type := Nat ⊕ (Nat × pA)
def pz0 : pA := ([], fun _ => 0, false)
def lvl (c_s : Int) : Int := if c_s = 124 then 0 else if c_s = 38 then 1 else if c_s = 60 ∨ c_s = 61 ∨ c_s = 62 then 2 else if c_s = 43 ∨ c_s = 45 then 3 else if c_s = 37 ∨ c_s = 42 ∨ c_s = 47 then 4 else -1
def nmo (c_s : Int) : Int := if c_s = 109 then 0 else if c_s = 119 then 1 else if c_s = 104 then 2 else if c_s = 102 then 3 else if c_s = 115 then 4 else if c_s = 107 then 5 else -1
def jnv (a_s : Int32) (s_s : Int) (b_s : Int32) : Int32 := if s_s = 124 then (if a_s = 0 ∧ b_s = 0 then 0 else 1) else if s_s = 38 then (if a_s = 0 ∨ b_s = 0 then 0 else 1) else if s_s = 60 then (if a_s.toInt < b_s.toInt then 1 else 0) else if s_s = 61 then (if a_s = b_s then 1 else 0) else if s_s = 62 then (if b_s.toInt < a_s.toInt then 1 else 0) else if s_s = 43 then a_s + b_s else if s_s = 45 then a_s - b_s else if s_s = 42 then a_s * b_s else if s_s = 47 then (if b_s = 0 then 0 else a_s / b_s) else if s_s = 37 then (if b_s = 0 then 0 else a_s - a_s / b_s * b_s) else 0
def pjn (x_s : pA) (s_s : Int) (y_s : pA) : pA := (x_s.1 ++ (y_s.1 ++ [Int32.ofInt s_s]), fun n_s => jnv (x_s.2.1 n_s) s_s (y_s.2.1 n_s), x_s.2.2 || y_s.2.2)
def pun (s_s : Int) (x_s : pA) : pA := (x_s.1 ++ [if s_s = 33 then 33 else 126], fun n_s => if s_s = 33 then (if x_s.2.1 n_s = 0 then 1 else 0) else -(x_s.2.1 n_s), x_s.2.2)
def pdg (tk : Nat → Int) : Nat → Nat → Int32 → Nat × Int32
  | 0, a_s, v_s => (a_s, v_s)
  | k_s + 1, a_s, v_s => if 48 ≤ tk a_s ∧ tk a_s ≤ 57 then pdg tk k_s (a_s + 1) (v_s * 10 + Int32.ofInt (tk a_s) - 48) else (a_s, v_s)
/-- modes: 0 .. 4 a level, 5 an O, 6 + n the signs of level n behind what was read -/
def pz (tk : Nat → Int) : Nat → Nat → Nat → Nat → pA → Option pR
  | 0, _, _, _, _ => none
  | f_s + 1, m_s, op_s, a_s, z_s => if m_s < 5 then (match pz tk f_s (m_s + 1) op_s a_s pz0 with
      | some (.inr p_s) => pz tk f_s (m_s + 6) op_s p_s.1 p_s.2
      | r_s => r_s)
    else if m_s = 5 then (if 48 ≤ tk a_s ∧ tk a_s ≤ 57 then some (.inr ((pdg tk 4 a_s 0).1, ([48, (pdg tk 4 a_s 0).2], fun _ => (pdg tk 4 a_s 0).2, false)))
      else if 0 ≤ nmo (tk a_s) then some (.inr (a_s + 1, ([109, Int32.ofInt (nmo (tk a_s))], fun n_s => n_s (nmo (tk a_s)).toNat, decide (nmo (tk a_s) = 1))))
      else if ¬ (tk a_s = 40 ∨ tk a_s = 33 ∨ tk a_s = 45) ∨ 6 ≤ op_s then some (.inl a_s)
      else if tk a_s = 40 then (match pz tk f_s 0 (op_s + 1) (a_s + 1) pz0 with
        | some (.inr p_s) => if tk p_s.1 = 41 then some (.inr (p_s.1 + 1, p_s.2)) else some (.inl p_s.1)
        | r_s => r_s)
      else (match pz tk f_s 5 (op_s + 1) (a_s + 1) pz0 with
        | some (.inr p_s) => some (.inr (p_s.1, pun (tk a_s) p_s.2))
        | r_s => r_s))
    else if lvl (tk a_s) = (m_s : Int) - 6 then (match pz tk f_s (m_s - 5) op_s (a_s + 1) pz0 with
      | some (.inr p_s) => if m_s = 8 then some (.inr (p_s.1, pjn z_s (tk a_s) p_s.2)) else pz tk f_s m_s op_s p_s.1 (pjn z_s (tk a_s) p_s.2)
      | r_s => r_s)
    else some (.inr (a_s, z_s))
theorem pz_more (tk : Nat → Int) : ∀ (f_s m_s op_s a_s : Nat) (z_s : pA) (r_s : pR), pz tk f_s m_s op_s a_s z_s = some r_s → pz tk (f_s + 1) m_s op_s a_s z_s = some r_s
  | 0, _, _, _, _, _, h_s => by cases h_s
  | f_s + 1, m_s, op_s, a_s, z_s, r_s, h_s => by
    have ih_s := pz_more tk f_s
    rw [pz] at h_s ⊢
    split at h_s
    · rename_i c_s
      rw [if_pos c_s]
      split at h_s
      · rename_i p_s hp
        rw [ih_s _ _ _ _ _ hp]
        exact ih_s _ _ _ _ _ h_s
      · rename_i q_s hp
        rw [ih_s _ _ _ _ _ h_s]
        split
        · rename_i p_s hq
          exact absurd h_s (fun w_s => hp p_s (by rw [w_s, hq]))
        · rfl
    · rename_i c_s
      rw [if_neg c_s]
      split at h_s
      · rename_i c1_s
        rw [if_pos c1_s]
        split at h_s
        · rename_i c2_s
          rw [if_pos c2_s]
          exact h_s
        · rename_i c2_s
          rw [if_neg c2_s]
          split at h_s
          · rename_i c3_s
            rw [if_pos c3_s]
            exact h_s
          · rename_i c3_s
            rw [if_neg c3_s]
            split at h_s
            · rename_i c4_s
              rw [if_pos c4_s]
              exact h_s
            · rename_i c4_s
              rw [if_neg c4_s]
              split at h_s
              · rename_i c5_s
                rw [if_pos c5_s]
                split at h_s
                · rename_i p_s hp
                  rw [ih_s _ _ _ _ _ hp]
                  exact h_s
                · rename_i q_s hp
                  rw [ih_s _ _ _ _ _ h_s]
                  split
                  · rename_i p_s hq
                    exact absurd h_s (fun w_s => hp p_s (by rw [w_s, hq]))
                  · rfl
              · rename_i c5_s
                rw [if_neg c5_s]
                split at h_s
                · rename_i p_s hp
                  rw [ih_s _ _ _ _ _ hp]
                  exact h_s
                · rename_i q_s hp
                  rw [ih_s _ _ _ _ _ h_s]
                  split
                  · rename_i p_s hq
                    exact absurd h_s (fun w_s => hp p_s (by rw [w_s, hq]))
                  · rfl
      · rename_i c1_s
        rw [if_neg c1_s]
        split at h_s
        · rename_i c2_s
          rw [if_pos c2_s]
          split at h_s
          · rename_i p_s hp
            rw [ih_s _ _ _ _ _ hp]
            dsimp only
            split at h_s
            · rename_i c3_s
              rw [if_pos c3_s]
              exact h_s
            · rename_i c3_s
              rw [if_neg c3_s]
              exact ih_s _ _ _ _ _ h_s
          · rename_i q_s hp
            rw [ih_s _ _ _ _ _ h_s]
            split
            · rename_i p_s hq
              exact absurd h_s (fun w_s => hp p_s (by rw [w_s, hq]))
            · rfl
        · rename_i c2_s
          rw [if_neg c2_s]
          exact h_s
theorem pz_le {tk : Nat → Int} {f_s f1_s m_s op_s a_s : Nat} {z_s : pA} {r_s : pR} (hl : f_s ≤ f1_s) (h_s : pz tk f_s m_s op_s a_s z_s = some r_s) : pz tk f1_s m_s op_s a_s z_s = some r_s := by
  obtain ⟨k_s, rfl⟩ := Nat.exists_eq_add_of_le hl
  induction k_s with
  | zero => exact h_s
  | succ k_s ih_s => exact pz_more tk _ _ _ _ _ _ (ih_s (by omega))
def pP (tk : Nat → Int) (m_s op_s a_s : Nat) (z_s : pA) (r_s : pR) : Prop := ∃ f_s, pz tk f_s m_s op_s a_s z_s = some r_s
section PZ_s
variable {tk : Nat → Int} {m_s op_s a_s : Nat} {z_s : pA} {r_s r1_s : pR} {p_s : Nat × pA}
theorem pP_det (h_s : pP tk m_s op_s a_s z_s r_s) (h1 : pP tk m_s op_s a_s z_s r1_s) : r_s = r1_s := by
  obtain ⟨f_s, h_s⟩ := h_s
  obtain ⟨f1_s, h1⟩ := h1
  have a1_s := pz_le (Nat.le_max_left f_s f1_s) h_s
  have b1 := pz_le (Nat.le_max_right f_s f1_s) h1
  rw [a1_s] at b1
  cases b1
  rfl
theorem pP_lev (hm_s : m_s < 5) (h_s : pP tk (m_s + 1) op_s a_s pz0 (.inr p_s)) (h1 : pP tk (m_s + 6) op_s p_s.1 p_s.2 r_s) : pP tk m_s op_s a_s z_s r_s := by
  obtain ⟨f_s, h_s⟩ := h_s
  obtain ⟨f1_s, h1⟩ := h1
  refine ⟨max f_s f1_s + 1, ?_⟩
  rw [pz, if_pos hm_s, pz_le (Nat.le_max_left f_s f1_s) h_s]
  exact pz_le (Nat.le_max_right f_s f1_s) h1
theorem pP_levF {e_s : Nat} (hm_s : m_s < 5) (h_s : pP tk (m_s + 1) op_s a_s pz0 (.inl e_s)) : pP tk m_s op_s a_s z_s (.inl e_s) := by
  obtain ⟨f_s, h_s⟩ := h_s
  refine ⟨f_s + 1, ?_⟩
  rw [pz, if_pos hm_s, h_s]
theorem pP_num (h_s : 48 ≤ tk a_s ∧ tk a_s ≤ 57) : pP tk 5 op_s a_s z_s (.inr ((pdg tk 4 a_s 0).1, ([48, (pdg tk 4 a_s 0).2], fun _ => (pdg tk 4 a_s 0).2, false))) := by
  refine ⟨1, ?_⟩
  rw [pz, if_neg (by omega), if_pos rfl, if_pos h_s]
theorem pP_nam (h_s : ¬ (48 ≤ tk a_s ∧ tk a_s ≤ 57)) (h1 : 0 ≤ nmo (tk a_s)) : pP tk 5 op_s a_s z_s (.inr (a_s + 1, ([109, Int32.ofInt (nmo (tk a_s))], fun n_s => n_s (nmo (tk a_s)).toNat, decide (nmo (tk a_s) = 1)))) := by
  refine ⟨1, ?_⟩
  rw [pz, if_neg (by omega), if_pos rfl, if_neg h_s, if_pos h1]
theorem pP_bad (h_s : ¬ (48 ≤ tk a_s ∧ tk a_s ≤ 57)) (h1 : ¬ 0 ≤ nmo (tk a_s)) (h2 : ¬ (tk a_s = 40 ∨ tk a_s = 33 ∨ tk a_s = 45) ∨ 6 ≤ op_s) : pP tk 5 op_s a_s z_s (.inl a_s) := by
  refine ⟨1, ?_⟩
  rw [pz, if_neg (by omega), if_pos rfl, if_neg h_s, if_neg h1, if_pos h2]
theorem nmo_40 : ¬ 0 ≤ nmo 40 := by decide
theorem nmo_33 : ¬ 0 ≤ nmo 33 := by decide
theorem nmo_45 : ¬ 0 ≤ nmo 45 := by decide
theorem pP_par (h_s : tk a_s = 40) (ho : op_s < 6) (h1 : pP tk 0 (op_s + 1) (a_s + 1) pz0 (.inr p_s)) (h2 : tk p_s.1 = 41) : pP tk 5 op_s a_s z_s (.inr (p_s.1 + 1, p_s.2)) := by
  obtain ⟨f_s, h1⟩ := h1
  refine ⟨f_s + 1, ?_⟩
  rw [pz, if_neg (by omega), if_pos rfl, if_neg (by omega), if_neg (by rw [h_s]; exact nmo_40), if_neg (by omega), if_pos h_s, h1]
  exact if_pos h2
theorem pP_parN (h_s : tk a_s = 40) (ho : op_s < 6) (h1 : pP tk 0 (op_s + 1) (a_s + 1) pz0 (.inr p_s)) (h2 : ¬ tk p_s.1 = 41) : pP tk 5 op_s a_s z_s (.inl p_s.1) := by
  obtain ⟨f_s, h1⟩ := h1
  refine ⟨f_s + 1, ?_⟩
  rw [pz, if_neg (by omega), if_pos rfl, if_neg (by omega), if_neg (by rw [h_s]; exact nmo_40), if_neg (by omega), if_pos h_s, h1]
  exact if_neg h2
theorem pP_parF {e_s : Nat} (h_s : tk a_s = 40) (ho : op_s < 6) (h1 : pP tk 0 (op_s + 1) (a_s + 1) pz0 (.inl e_s)) : pP tk 5 op_s a_s z_s (.inl e_s) := by
  obtain ⟨f_s, h1⟩ := h1
  refine ⟨f_s + 1, ?_⟩
  rw [pz, if_neg (by omega), if_pos rfl, if_neg (by omega), if_neg (by rw [h_s]; exact nmo_40), if_neg (by omega), if_pos h_s, h1]
theorem pP_un (h_s : tk a_s = 33 ∨ tk a_s = 45) (ho : op_s < 6) (h1 : pP tk 5 (op_s + 1) (a_s + 1) pz0 (.inr p_s)) : pP tk 5 op_s a_s z_s (.inr (p_s.1, pun (tk a_s) p_s.2)) := by
  obtain ⟨f_s, h1⟩ := h1
  refine ⟨f_s + 1, ?_⟩
  rw [pz, if_neg (by omega), if_pos rfl, if_neg (by omega), if_neg (by rcases h_s with h_s | h_s <;> rw [h_s] <;> decide), if_neg (by omega), if_neg (by omega), h1]
theorem pP_unF {e_s : Nat} (h_s : tk a_s = 33 ∨ tk a_s = 45) (ho : op_s < 6) (h1 : pP tk 5 (op_s + 1) (a_s + 1) pz0 (.inl e_s)) : pP tk 5 op_s a_s z_s (.inl e_s) := by
  obtain ⟨f_s, h1⟩ := h1
  refine ⟨f_s + 1, ?_⟩
  rw [pz, if_neg (by omega), if_pos rfl, if_neg (by omega), if_neg (by rcases h_s with h_s | h_s <;> rw [h_s] <;> decide), if_neg (by omega), if_neg (by omega), h1]
theorem pP_end (hm_s : 6 ≤ m_s) (h_s : ¬ lvl (tk a_s) = (m_s : Int) - 6) : pP tk m_s op_s a_s z_s (.inr (a_s, z_s)) := by
  refine ⟨1, ?_⟩
  rw [pz, if_neg (by omega), if_neg (by omega), if_neg h_s]
theorem pP_sgF {e_s : Nat} (hm_s : 6 ≤ m_s) (h_s : lvl (tk a_s) = (m_s : Int) - 6) (h1 : pP tk (m_s - 5) op_s (a_s + 1) pz0 (.inl e_s)) : pP tk m_s op_s a_s z_s (.inl e_s) := by
  obtain ⟨f_s, h1⟩ := h1
  refine ⟨f_s + 1, ?_⟩
  rw [pz, if_neg (by omega), if_neg (by omega), if_pos h_s, h1]
theorem pP_sg8 (h_s : lvl (tk a_s) = 2) (h1 : pP tk 3 op_s (a_s + 1) pz0 (.inr p_s)) : pP tk 8 op_s a_s z_s (.inr (p_s.1, pjn z_s (tk a_s) p_s.2)) := by
  obtain ⟨f_s, h1⟩ := h1
  refine ⟨f_s + 1, ?_⟩
  rw [pz, if_neg (by omega), if_neg (by omega), if_pos (by rw [h_s]; rfl), h1]
  exact if_pos rfl
theorem pP_sg (hm_s : 6 ≤ m_s) (hm8 : m_s ≠ 8) (h_s : lvl (tk a_s) = (m_s : Int) - 6) (h1 : pP tk (m_s - 5) op_s (a_s + 1) pz0 (.inr p_s)) (h2 : pP tk m_s op_s p_s.1 (pjn z_s (tk a_s) p_s.2) r_s) : pP tk m_s op_s a_s z_s r_s := by
  obtain ⟨f_s, h1⟩ := h1
  obtain ⟨f2_s, h2⟩ := h2
  refine ⟨max f_s f2_s + 1, ?_⟩
  rw [pz, if_neg (by omega), if_neg (by omega), if_pos h_s, pz_le (Nat.le_max_left f_s f2_s) h1]
  dsimp only
  rw [if_neg hm8]
  exact pz_le (Nat.le_max_right f_s f2_s) h2
end PZ_s
theorem lvl_in (c_s : Int) : (lvl c_s = 0 → c_s = 124) ∧ (lvl c_s = 1 → c_s = 38) ∧ (lvl c_s = 2 → c_s = 60 ∨ c_s = 61 ∨ c_s = 62) ∧ (lvl c_s = 3 → c_s = 43 ∨ c_s = 45) ∧ (lvl c_s = 4 → c_s = 37 ∨ c_s = 42 ∨ c_s = 47) := by
  unfold lvl
  by_cases h0 : c_s = 124
  · rw [if_pos h0]
    omega
  · rw [if_neg h0]
    by_cases h1 : c_s = 38
    · rw [if_pos h1]
      omega
    · rw [if_neg h1]
      by_cases h2 : c_s = 60 ∨ c_s = 61 ∨ c_s = 62
      · rw [if_pos h2]
        omega
      · rw [if_neg h2]
        by_cases h3 : c_s = 43 ∨ c_s = 45
        · rw [if_pos h3]
          omega
        · rw [if_neg h3]
          by_cases h4 : c_s = 37 ∨ c_s = 42 ∨ c_s = 47
          · rw [if_pos h4]
            omega
          · rw [if_neg h4]
            omega
