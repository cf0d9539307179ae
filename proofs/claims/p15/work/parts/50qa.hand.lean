/-! A TEXT, read: as a function of its bytes. A piece that was read: its code, its worth (by names), whether it minds WORN. -/
abbrev pA : Type := List Int32 × ((Nat → Int32) → Int32) × Bool
abbrev pR : Type := Nat ⊕ (Nat × pA)
def pz0 : pA := ([], fun _ => 0, false)
def lvl (c_s : Int) : Int := if c_s = 124 then 0 else if c_s = 38 then 1 else if c_s = 60 ∨ c_s = 61 ∨ c_s = 62 then 2 else if c_s = 43 ∨ c_s = 45 then 3 else if c_s = 37 ∨ c_s = 42 ∨ c_s = 47 then 4 else -1
def nmo (c_s : Int) : Int := if c_s = 109 then 0 else if c_s = 119 then 1 else if c_s = 104 then 2 else if c_s = 102 then 3 else if c_s = 115 then 4 else if c_s = 107 then 5 else -1
def jnv (a_s : Int32) (s_s : Int) (b_s : Int32) : Int32 := if s_s = 124 then (if a_s = 0 ∧ b_s = 0 then 0 else 1) else if s_s = 38 then (if a_s = 0 ∨ b_s = 0 then 0 else 1) else if s_s = 60 then (if a_s.toInt < b_s.toInt then 1 else 0) else if s_s = 61 then (if a_s = b_s then 1 else 0) else if s_s = 62 then (if b_s.toInt < a_s.toInt then 1 else 0) else if s_s = 43 then a_s + b_s else if s_s = 45 then a_s - b_s else if s_s = 42 then a_s * b_s else if s_s = 47 then (if b_s = 0 then 0 else a_s / b_s) else if s_s = 37 then (if b_s = 0 then 0 else a_s - a_s / b_s * b_s) else 0
def pjn (x_s : pA) (s_s : Int) (y_s : pA) : pA := (x_s.1 ++ (y_s.1 ++ [Int32.ofInt s_s]), fun n_s => jnv (x_s.2.1 n_s) s_s (y_s.2.1 n_s), x_s.2.2 || y_s.2.2)
def pun (s_s : Int) (x_s : pA) : pA := (x_s.1 ++ [if s_s = 33 then 33 else 126], fun n_s => if s_s = 33 then (if x_s.2.1 n_s = 0 then 1 else 0) else -(x_s.2.1 n_s), x_s.2.2)
def pdg (tk : Nat → Int) : Nat → Nat → Int32 → Nat × Int32
  | 0, a_s, v_s => (a_s, v_s)
  | k_s + 1, a_s, v_s => if 48 ≤ tk a_s ∧ tk a_s ≤ 57 then pdg tk k_s (a_s + 1) (v_s * 10 + Int32.ofInt (tk a_s) - 48) else (a_s, v_s)
/-- modes: 0 .. 4 a level, 5 an O, 6 + n the signs of level n behind what was read -/
def pz (tk : Nat → Int) : Nat → Nat → Nat → Nat → pA → Option pR
  | 0, _, _, _, _ => none
  | f_s + 1, m_s, op_s, a_s, z_s => if m_s < 5 then (match pz tk f_s (m_s + 1) op_s a_s pz0 with
      | some (.inr p_s) => pz tk f_s (m_s + 6) op_s p_s.1 p_s.2
      | r_s => r_s)
    else if m_s = 5 then (if 48 ≤ tk a_s ∧ tk a_s ≤ 57 then some (.inr ((pdg tk 4 a_s 0).1, ([48, (pdg tk 4 a_s 0).2], fun _ => (pdg tk 4 a_s 0).2, false)))
      else if 0 ≤ nmo (tk a_s) then some (.inr (a_s + 1, ([109, Int32.ofInt (nmo (tk a_s))], fun n_s => n_s (nmo (tk a_s)).toNat, decide (nmo (tk a_s) = 1))))
      else if ¬ (tk a_s = 40 ∨ tk a_s = 33 ∨ tk a_s = 45) ∨ 6 ≤ op_s then some (.inl a_s)
      else if tk a_s = 40 then (match pz tk f_s 0 (op_s + 1) (a_s + 1) pz0 with
        | some (.inr p_s) => if tk p_s.1 = 41 then some (.inr (p_s.1 + 1, p_s.2)) else some (.inl p_s.1)
        | r_s => r_s)
      else (match pz tk f_s 5 (op_s + 1) (a_s + 1) pz0 with
        | some (.inr p_s) => some (.inr (p_s.1, pun (tk a_s) p_s.2))
        | r_s => r_s))
    else if lvl (tk a_s) = (m_s : Int) - 6 then (match pz tk f_s (m_s - 5) op_s (a_s + 1) pz0 with
      | some (.inr p_s) => if m_s = 8 then some (.inr (p_s.1, pjn z_s (tk a_s) p_s.2)) else pz tk f_s m_s op_s p_s.1 (pjn z_s (tk a_s) p_s.2)
      | r_s => r_s)
    else some (.inr (a_s, z_s))
theorem pz_more (tk : Nat → Int) : ∀ (f_s m_s op_s a_s : Nat) (z_s : pA) (r_s : pR), pz tk f_s m_s op_s a_s z_s = some r_s → pz tk (f_s + 1) m_s op_s a_s z_s = some r_s
  | 0, _, _, _, _, _, h_s => by cases h_s
  | f_s + 1, m_s, op_s, a_s, z_s, r_s, h_s => by
    have ih_s := pz_more tk f_s
    rw [pz] at h_s ⊢
    split at h_s
    · rename_i c_s
      rw [if_pos c_s]
      split at h_s
      · rename_i p_s hp
        rw [ih_s _ _ _ _ _ hp]
        exact ih_s _ _ _ _ _ h_s
      · rename_i q_s hp
        rw [ih_s _ _ _ _ _ h_s]
        split
        · rename_i p_s hq
          exact absurd h_s (fun w_s => hp p_s (by rw [w_s, hq]))
        · rfl
    · rename_i c_s
      rw [if_neg c_s]
      split at h_s
      · rename_i c1_s
        rw [if_pos c1_s]
        split at h_s
        · rename_i c2_s
          rw [if_pos c2_s]
          exact h_s
        · rename_i c2_s
          rw [if_neg c2_s]
          split at h_s
          · rename_i c3_s
            rw [if_pos c3_s]
            exact h_s
          · rename_i c3_s
            rw [if_neg c3_s]
            split at h_s
            · rename_i c4_s
              rw [if_pos c4_s]
              exact h_s
            · rename_i c4_s
              rw [if_neg c4_s]
              split at h_s
              · rename_i c5_s
                rw [if_pos c5_s]
                split at h_s
                · rename_i p_s hp
                  rw [ih_s _ _ _ _ _ hp]
                  exact h_s
                · rename_i q_s hp
                  rw [ih_s _ _ _ _ _ h_s]
                  split
                  · rename_i p_s hq
                    exact absurd h_s (fun w_s => hp p_s (by rw [w_s, hq]))
                  · rfl
              · rename_i c5_s
                rw [if_neg c5_s]
                split at h_s
                · rename_i p_s hp
                  rw [ih_s _ _ _ _ _ hp]
                  exact h_s
                · rename_i q_s hp
                  rw [ih_s _ _ _ _ _ h_s]
                  split
                  · rename_i p_s hq
                    exact absurd h_s (fun w_s => hp p_s (by rw [w_s, hq]))
                  · rfl
      · rename_i c1_s
        rw [if_neg c1_s]
        split at h_s
        · rename_i c2_s
          rw [if_pos c2_s]
          split at h_s
          · rename_i p_s hp
            rw [ih_s _ _ _ _ _ hp]
            dsimp only
            split at h_s
            · rename_i c3_s
              rw [if_pos c3_s]
              exact h_s
            · rename_i c3_s
              rw [if_neg c3_s]
              exact ih_s _ _ _ _ _ h_s
          · rename_i q_s hp
            rw [ih_s _ _ _ _ _ h_s]
            split
            · rename_i p_s hq
              exact absurd h_s (fun w_s => hp p_s (by rw [w_s, hq]))
            · rfl
        · rename_i c2_s
          rw [if_neg c2_s]
          exact h_s
theorem pz_le {tk : Nat → Int} {f_s f1_s m_s op_s a_s : Nat} {z_s : pA} {r_s : pR} (hl : f_s ≤ f1_s) (h_s : pz tk f_s m_s op_s a_s z_s = some r_s) : pz tk f1_s m_s op_s a_s z_s = some r_s := by
  obtain ⟨k_s, rfl⟩ := Nat.exists_eq_add_of_le hl
  induction k_s with
  | zero => exact h_s
  | succ k_s ih_s => exact pz_more tk _ _ _ _ _ _ (ih_s (by omega))
def pP (tk : Nat → Int) (m_s op_s a_s : Nat) (z_s : pA) (r_s : pR) : Prop := ∃ f_s, pz tk f_s m_s op_s a_s z_s = some r_s
section PZ_s
variable {tk : Nat → Int} {m_s op_s a_s : Nat} {z_s : pA} {r_s r1_s : pR} {p_s : Nat × pA}
theorem pP_det (h_s : pP tk m_s op_s a_s z_s r_s) (h1 : pP tk m_s op_s a_s z_s r1_s) : r_s = r1_s := by
  obtain ⟨f_s, h_s⟩ := h_s
  obtain ⟨f1_s, h1⟩ := h1
  have a1_s := pz_le (Nat.le_max_left f_s f1_s) h_s
  have b1 := pz_le (Nat.le_max_right f_s f1_s) h1
  rw [a1_s] at b1
  cases b1
  rfl
theorem pP_lev (hm_s : m_s < 5) (h_s : pP tk (m_s + 1) op_s a_s pz0 (.inr p_s)) (h1 : pP tk (m_s + 6) op_s p_s.1 p_s.2 r_s) : pP tk m_s op_s a_s z_s r_s := by
  obtain ⟨f_s, h_s⟩ := h_s
  obtain ⟨f1_s, h1⟩ := h1
  refine ⟨max f_s f1_s + 1, ?_⟩
  rw [pz, if_pos hm_s, pz_le (Nat.le_max_left f_s f1_s) h_s]
  exact pz_le (Nat.le_max_right f_s f1_s) h1
theorem pP_levF {e_s : Nat} (hm_s : m_s < 5) (h_s : pP tk (m_s + 1) op_s a_s pz0 (.inl e_s)) : pP tk m_s op_s a_s z_s (.inl e_s) := by
  obtain ⟨f_s, h_s⟩ := h_s
  refine ⟨f_s + 1, ?_⟩
  rw [pz, if_pos hm_s, h_s]
theorem pP_num (h_s : 48 ≤ tk a_s ∧ tk a_s ≤ 57) : pP tk 5 op_s a_s z_s (.inr ((pdg tk 4 a_s 0).1, ([48, (pdg tk 4 a_s 0).2], fun _ => (pdg tk 4 a_s 0).2, false))) := by
  refine ⟨1, ?_⟩
  rw [pz, if_neg (by omega), if_pos rfl, if_pos h_s]
theorem pP_nam (h_s : ¬ (48 ≤ tk a_s ∧ tk a_s ≤ 57)) (h1 : 0 ≤ nmo (tk a_s)) : pP tk 5 op_s a_s z_s (.inr (a_s + 1, ([109, Int32.ofInt (nmo (tk a_s))], fun n_s => n_s (nmo (tk a_s)).toNat, decide (nmo (tk a_s) = 1)))) := by
  refine ⟨1, ?_⟩
  rw [pz, if_neg (by omega), if_pos rfl, if_neg h_s, if_pos h1]
theorem pP_bad (h_s : ¬ (48 ≤ tk a_s ∧ tk a_s ≤ 57)) (h1 : ¬ 0 ≤ nmo (tk a_s)) (h2 : ¬ (tk a_s = 40 ∨ tk a_s = 33 ∨ tk a_s = 45) ∨ 6 ≤ op_s) : pP tk 5 op_s a_s z_s (.inl a_s) := by
  refine ⟨1, ?_⟩
  rw [pz, if_neg (by omega), if_pos rfl, if_neg h_s, if_neg h1, if_pos h2]
theorem nmo_40 : ¬ 0 ≤ nmo 40 := by decide
theorem nmo_33 : ¬ 0 ≤ nmo 33 := by decide
theorem nmo_45 : ¬ 0 ≤ nmo 45 := by decide
theorem pP_par (h_s : tk a_s = 40) (ho : op_s < 6) (h1 : pP tk 0 (op_s + 1) (a_s + 1) pz0 (.inr p_s)) (h2 : tk p_s.1 = 41) : pP tk 5 op_s a_s z_s (.inr (p_s.1 + 1, p_s.2)) := by
  obtain ⟨f_s, h1⟩ := h1
  refine ⟨f_s + 1, ?_⟩
  rw [pz, if_neg (by omega), if_pos rfl, if_neg (by omega), if_neg (by rw [h_s]; exact nmo_40), if_neg (by omega), if_pos h_s, h1]
  exact if_pos h2
theorem pP_parN (h_s : tk a_s = 40) (ho : op_s < 6) (h1 : pP tk 0 (op_s + 1) (a_s + 1) pz0 (.inr p_s)) (h2 : ¬ tk p_s.1 = 41) : pP tk 5 op_s a_s z_s (.inl p_s.1) := by
  obtain ⟨f_s, h1⟩ := h1
  refine ⟨f_s + 1, ?_⟩
  rw [pz, if_neg (by omega), if_pos rfl, if_neg (by omega), if_neg (by rw [h_s]; exact nmo_40), if_neg (by omega), if_pos h_s, h1]
  exact if_neg h2
theorem pP_parF {e_s : Nat} (h_s : tk a_s = 40) (ho : op_s < 6) (h1 : pP tk 0 (op_s + 1) (a_s + 1) pz0 (.inl e_s)) : pP tk 5 op_s a_s z_s (.inl e_s) := by
  obtain ⟨f_s, h1⟩ := h1
  refine ⟨f_s + 1, ?_⟩
  rw [pz, if_neg (by omega), if_pos rfl, if_neg (by omega), if_neg (by rw [h_s]; exact nmo_40), if_neg (by omega), if_pos h_s, h1]
theorem pP_un (h_s : tk a_s = 33 ∨ tk a_s = 45) (ho : op_s < 6) (h1 : pP tk 5 (op_s + 1) (a_s + 1) pz0 (.inr p_s)) : pP tk 5 op_s a_s z_s (.inr (p_s.1, pun (tk a_s) p_s.2)) := by
  obtain ⟨f_s, h1⟩ := h1
  refine ⟨f_s + 1, ?_⟩
  rw [pz, if_neg (by omega), if_pos rfl, if_neg (by omega), if_neg (by rcases h_s with h_s | h_s <;> rw [h_s] <;> decide), if_neg (by omega), if_neg (by omega), h1]
theorem pP_unF {e_s : Nat} (h_s : tk a_s = 33 ∨ tk a_s = 45) (ho : op_s < 6) (h1 : pP tk 5 (op_s + 1) (a_s + 1) pz0 (.inl e_s)) : pP tk 5 op_s a_s z_s (.inl e_s) := by
  obtain ⟨f_s, h1⟩ := h1
  refine ⟨f_s + 1, ?_⟩
  rw [pz, if_neg (by omega), if_pos rfl, if_neg (by omega), if_neg (by rcases h_s with h_s | h_s <;> rw [h_s] <;> decide), if_neg (by omega), if_neg (by omega), h1]
theorem pP_end (hm_s : 6 ≤ m_s) (h_s : ¬ lvl (tk a_s) = (m_s : Int) - 6) : pP tk m_s op_s a_s z_s (.inr (a_s, z_s)) := by
  refine ⟨1, ?_⟩
  rw [pz, if_neg (by omega), if_neg (by omega), if_neg h_s]
theorem pP_sgF {e_s : Nat} (hm_s : 6 ≤ m_s) (h_s : lvl (tk a_s) = (m_s : Int) - 6) (h1 : pP tk (m_s - 5) op_s (a_s + 1) pz0 (.inl e_s)) : pP tk m_s op_s a_s z_s (.inl e_s) := by
  obtain ⟨f_s, h1⟩ := h1
  refine ⟨f_s + 1, ?_⟩
  rw [pz, if_neg (by omega), if_neg (by omega), if_pos h_s, h1]
theorem pP_sg8 (h_s : lvl (tk a_s) = 2) (h1 : pP tk 3 op_s (a_s + 1) pz0 (.inr p_s)) : pP tk 8 op_s a_s z_s (.inr (p_s.1, pjn z_s (tk a_s) p_s.2)) := by
  obtain ⟨f_s, h1⟩ := h1
  refine ⟨f_s + 1, ?_⟩
  rw [pz, if_neg (by omega), if_neg (by omega), if_pos (by rw [h_s]; rfl), h1]
  exact if_pos rfl
theorem pP_sg (hm_s : 6 ≤ m_s) (hm8 : m_s ≠ 8) (h_s : lvl (tk a_s) = (m_s : Int) - 6) (h1 : pP tk (m_s - 5) op_s (a_s + 1) pz0 (.inr p_s)) (h2 : pP tk m_s op_s p_s.1 (pjn z_s (tk a_s) p_s.2) r_s) : pP tk m_s op_s a_s z_s r_s := by
  obtain ⟨f_s, h1⟩ := h1
  obtain ⟨f2_s, h2⟩ := h2
  refine ⟨max f_s f2_s + 1, ?_⟩
  rw [pz, if_neg (by omega), if_neg (by omega), if_pos h_s, pz_le (Nat.le_max_left f_s f2_s) h1]
  dsimp only
  rw [if_neg hm8]
  exact pz_le (Nat.le_max_right f_s f2_s) h2
end PZ_s
theorem lvl_in (c_s : Int) : (lvl c_s = 0 → c_s = 124) ∧ (lvl c_s = 1 → c_s = 38) ∧ (lvl c_s = 2 → c_s = 60 ∨ c_s = 61 ∨ c_s = 62) ∧ (lvl c_s = 3 → c_s = 43 ∨ c_s = 45) ∧ (lvl c_s = 4 → c_s = 37 ∨ c_s = 42 ∨ c_s = 47) := by
  unfold lvl
  by_cases h0 : c_s = 124
  · rw [if_pos h0]
    omega
  · rw [if_neg h0]
    by_cases h1 : c_s = 38
    · rw [if_pos h1]
      omega
    · rw [if_neg h1]
      by_cases h2 : c_s = 60 ∨ c_s = 61 ∨ c_s = 62
      · rw [if_pos h2]
        omega
      · rw [if_neg h2]
        by_cases h3 : c_s = 43 ∨ c_s = 45
        · rw [if_pos h3]
          omega
        · rw [if_neg h3]
          by_cases h4 : c_s = 37 ∨ c_s = 42 ∨ c_s = 47
          · rw [if_pos h4]
            omega
          · rw [if_neg h4]
            omega
/-! THE CLASS READS A TEXT: leaves. -/
def tkF (f_s : Nat → Nat → Int32) (a_s : Nat) : Int := if (a_s : Int) < (f_s 40 1).toInt then (f_s 41 a_s).toInt else -1
theorem tkF_eq {f_s f1_s : Nat → Nat → Int32} (h1 : f1_s 40 1 = f_s 40 1) (h2 : ∀ k_s, f1_s 41 k_s = f_s 41 k_s) : tkF f1_s = tkF f_s := by
  funext a_s
  unfold tkF
  rw [h1, h2]
section LT
variable {F_s : Nat} {h_s : zH} {K_s : Int32 → zH → Prop} {V : zH → Prop} {x1_s x2_s : Int32} {q_s a_s n_s len_s : Nat}
theorem sp_68 (hk : hKn h_s) (ha_s : (h_s.2.1 40 2).toInt = (a_s : Int)) (t_s : ∀ v_s, v_s.toInt = tkF h_s.2.1 a_s → K_s v_s h_s) : wF F_s 68 (0, [some (.ref 40)], [], h_s) (gI K_s) := by
  have z_s := azix (i := h_s.2.1 40 2) (by omega)
  have z1 : zix (h_s.2.1 40 2) = a_s := by omega
  refine wF_le (Nat.le_succ F_s) (sg_68_0 hk ⟨fun c1_s => fun c2_s => ?_, fun c1_s => ?_⟩)
  · rw [z1]
    exact t_s _ (by unfold tkF; rw [if_pos (by omega)])
  · exact t_s _ (by unfold tkF; rw [if_neg (by omega)]; rfl)
theorem sp_69 (hk : hKn h_s) (ha_s : (h_s.2.1 40 2).toInt = (a_s : Int)) (hb_s : a_s ≤ 1000) (t1_s : tkF h_s.2.1 a_s = x1_s.toInt → ∀ f1_s, (f1_s 40 2).toInt = ((a_s + 1 : Nat) : Int) → (∀ o k_s, ¬ (o = 40 ∧ k_s = 2) → f1_s o k_s = h_s.2.1 o k_s) → K_s 1 (h_s.1, f1_s, h_s.2.2.1, h_s.2.2.2)) (t2_s : ¬ tkF h_s.2.1 a_s = x1_s.toInt → K_s 0 h_s) : wF F_s 69 (0, [some (.ref 40), some (.int x1_s)], [], h_s) (gI K_s) := by
  refine wF_le (Nat.le_succ F_s) (sg_69_0 hk (sp_68 hk ha_s (fun v_s hv _ => ⟨fun c_s => t1_s (by omega) _ ?_ ?_, fun c_s => t2_s (by omega)⟩)))
  · rw [zsame_up, in1_ (by omega)]
    omega
  · intro o k_s hq
    rw [zne_up hq]
theorem sp_70 (hk : hKn h_s) (t1_s : ¬ (48 ≤ x1_s.toInt ∧ x1_s.toInt ≤ 57) → K_s 0 h_s) (t2_s : 48 ≤ x1_s.toInt ∧ x1_s.toInt ≤ 57 → K_s 1 h_s) : wF F_s 70 (0, [some (.int x1_s)], [], h_s) (gI K_s) := wF_le (Nat.le_succ F_s) (sg_70_0 hk ⟨fun c1_s => t1_s (by omega), fun c1_s => ⟨fun c2_s => t1_s (by omega), fun c2_s => t2_s (by omega)⟩⟩)
theorem sp_71 (hk : hKn h_s) (t_s : ∀ v_s, v_s.toInt = nmo x1_s.toInt → K_s v_s h_s) : wF F_s 71 (0, [some (.int x1_s)], [], h_s) (gI K_s) := by
  refine wF_le (Nat.le_succ F_s) (sg_71_0 hk ⟨fun c1_s => ?_, fun c1_s => ⟨fun c2_s => ?_, fun c2_s => ⟨fun c3_s => ?_, fun c3_s => ⟨fun c4_s => ?_, fun c4_s => ⟨fun c5_s => ?_, fun c5_s => ⟨fun c6_s => ?_, fun c6_s => ⟨fun c7_s => ?_, fun c7_s => ⟨fun c8_s => ?_, fun c8_s => ⟨fun c9_s => ?_, fun c9_s => ⟨fun c10_s => ?_, fun c10_s => ⟨fun c11_s => ?_, fun c11_s => ⟨fun c12_s => ?_, fun c12_s => ⟨fun c13_s => ?_, fun c13_s => ⟨fun c14_s => ?_, fun c14_s => ⟨fun c15_s => ?_, fun c15_s => ⟨fun c16 => ?_, fun c16 => ⟨fun c17 => ?_, fun c17 => ⟨fun c18_s => ?_, fun c18_s => ?_⟩⟩⟩⟩⟩⟩⟩⟩⟩⟩⟩⟩⟩⟩⟩⟩⟩⟩)
  · exact t_s _ (by rw [c1_s]; decide)
  · exact t_s _ (by rw [c2_s]; decide)
  · exact t_s _ (by rw [c3_s]; decide)
  · exact t_s _ (by rw [c4_s]; decide)
  · exact t_s _ (by rw [c5_s]; decide)
  · exact t_s _ (by rw [c6_s]; decide)
  · exact t_s _ (by rw [c7_s]; decide)
  · exact t_s _ (by rw [c8_s]; decide)
  · exact t_s _ (by rw [c9_s]; decide)
  · exact t_s _ (by rw [c10_s]; decide)
  · exact t_s _ (by rw [c11_s]; decide)
  · exact t_s _ (by rw [c12_s]; decide)
  · exact t_s _ (by rw [c13_s]; decide)
  · exact t_s _ (by rw [c14_s]; decide)
  · exact t_s _ (by rw [c15_s]; decide)
  · exact t_s _ (by rw [c16]; decide)
  · exact t_s _ (by rw [c17]; decide)
  · exact t_s _ (by rw [c18_s]; decide)
  · exact t_s _ (by unfold nmo; rw [if_neg (by omega), if_neg (by omega), if_neg (by omega), if_neg (by omega), if_neg (by omega), if_neg (by omega)]; rfl)
theorem sp_72 (hk : hKn h_s) (t_s : ∀ v_s, v_s.toInt = lvl x1_s.toInt → K_s v_s h_s) : wF F_s 72 (0, [some (.int x1_s)], [], h_s) (gI K_s) := by
  refine wF_le (Nat.le_succ F_s) (sg_72_0 hk ⟨fun c1_s => ?_, fun c1_s => ⟨fun c2_s => ?_, fun c2_s => ⟨fun c3_s => ?_, fun c3_s => ⟨fun c4_s => ?_, fun c4_s => ⟨fun c5_s => ?_, fun c5_s => ⟨fun c6_s => ?_, fun c6_s => ⟨fun c7_s => ?_, fun c7_s => ⟨fun c8_s => ?_, fun c8_s => ⟨fun c9_s => ?_, fun c9_s => ⟨fun c10_s => ?_, fun c10_s => ?_⟩⟩⟩⟩⟩⟩⟩⟩⟩⟩)
  · exact t_s _ (by rw [c1_s]; decide)
  · exact t_s _ (by rw [c2_s]; decide)
  · exact t_s _ (by rw [c3_s]; decide)
  · exact t_s _ (by rw [c4_s]; decide)
  · exact t_s _ (by rw [c5_s]; decide)
  · exact t_s _ (by rw [c6_s]; decide)
  · exact t_s _ (by rw [c7_s]; decide)
  · exact t_s _ (by rw [c8_s]; decide)
  · exact t_s _ (by rw [c9_s]; decide)
  · exact t_s _ (by rw [c10_s]; decide)
  · exact t_s _ (by unfold lvl; rw [if_neg (by omega), if_neg (by omega), if_neg (by omega), if_neg (by omega), if_neg (by omega)]; rfl)
theorem sp_54 (hm_s : q_s = 14 ∨ q_s = 17) (hk : hKn h_s) (hl : (h_s.2.1 q_s 2).toInt = (len_s : Int)) (hb_s : len_s < 242) (t_s : ∀ f1_s, f1_s (q_s + 1) len_s = x1_s → (f1_s q_s 2).toInt = ((len_s + 1 : Nat) : Int) → (∀ o k_s, ¬ (o = q_s + 1 ∧ k_s = len_s) → ¬ (o = q_s ∧ k_s = 2) → f1_s o k_s = h_s.2.1 o k_s) → V (h_s.1, f1_s, h_s.2.2.1, h_s.2.2.2)) : wF F_s 54 (0, [some (.ref q_s), some (.int x1_s)], [], h_s) (gV V) := by
  have z_s := azix (i := h_s.2.1 q_s 2) (by omega)
  have z1 : zix (h_s.2.1 q_s 2) = len_s := by omega
  refine wF_le (Nat.le_succ F_s) (sg_54_0 hm_s hk ⟨fun c1_s => fun c2_s => t_s _ ?_ ?_ ?_, fun c1_s => absurd hb_s (by omega)⟩)
  · rw [z1, zne_up (by omega), zsame_up]
  · rw [zsame_up, zne_up (by omega), in1_ (by omega)]
    omega
  · intro o k_s h1 h2
    rw [zne_up h2, z1, zne_up h1]
theorem sp_55 (hm_s : q_s = 14 ∨ q_s = 17) (hk : hKn h_s) (hl : (h_s.2.1 q_s 2).toInt = (len_s : Int)) (hb_s : len_s + 1 < 242) (t_s : ∀ f1_s, f1_s (q_s + 1) len_s = 109 → f1_s (q_s + 1) (len_s + 1) = x1_s → (f1_s q_s 2).toInt = ((len_s + 2 : Nat) : Int) → f1_s q_s 0 = (if x1_s.toInt = 1 then 1 else h_s.2.1 q_s 0) → (∀ o k_s, ¬ (o = q_s + 1 ∧ len_s ≤ k_s) → ¬ (o = q_s ∧ k_s ≤ 2) → f1_s o k_s = h_s.2.1 o k_s) → V (h_s.1, f1_s, h_s.2.2.1, h_s.2.2.2)) : wF F_s 55 (0, [some (.ref q_s), some (.int x1_s)], [], h_s) (gV V) := by
  refine wF_le (Nat.le_succ F_s) (sg_55_0 hm_s hk (sp_54 (len_s := len_s) hm_s hk hl (by omega) (fun f1_s a1_s a2 a3 hk1 => ?_)))
  refine sp_54 (len_s := len_s + 1) hm_s hk1 a2 hb_s (fun f2_s b1 b2 b3 hk2 => ?_)
  have b3 : ∀ o k_s, ¬ (o = q_s + 1 ∧ k_s = len_s + 1) → ¬ (o = q_s ∧ k_s = 2) → f2_s o k_s = f1_s o k_s := b3
  refine ⟨fun c_s => t_s (zup f2_s q_s 0 1) ?_ ?_ ?_ ?_ ?_, fun c_s => t_s f2_s ?_ ?_ ?_ ?_ ?_⟩
  · rw [zne_up (by omega), b3 _ _ (by omega) (by omega)]
    exact a1_s
  · rw [zne_up (by omega)]
    exact b1
  · rw [zne_up (by omega)]
    omega
  · rw [zsame_up, if_pos c_s]
  · intro o k_s h1 h2
    rw [zne_up (by omega), b3 _ _ (by omega) (by omega)]
    exact a3 _ _ (by omega) (by omega)
  · rw [b3 _ _ (by omega) (by omega)]
    exact a1_s
  · exact b1
  · omega
  · rw [if_neg c_s, b3 _ _ (by omega) (by omega)]
    exact a3 _ _ (by omega) (by omega)
  · intro o k_s h1 h2
    rw [b3 _ _ (by omega) (by omega)]
    exact a3 _ _ (by omega) (by omega)
end LT
/-- digits -/
theorem pdg_le {tk : Nat → Int} {n_s : Nat} (hn : ∀ k_s, n_s ≤ k_s → tk k_s = -1) : ∀ (k_s a_s : Nat) (v_s : Int32), a_s ≤ n_s → a_s ≤ (pdg tk k_s a_s v_s).1 ∧ (pdg tk k_s a_s v_s).1 ≤ n_s
  | 0, a_s, v_s, ha_s => ⟨Nat.le_refl a_s, ha_s⟩
  | k_s + 1, a_s, v_s, ha_s => by
    unfold pdg
    by_cases c_s : 48 ≤ tk a_s ∧ tk a_s ≤ 57
    · rw [if_pos c_s]
      have hl : a_s < n_s := by
        by_cases e_s : n_s ≤ a_s
        · have e1_s := hn a_s e_s
          omega
        · omega
      have ih_s := pdg_le hn k_s (a_s + 1) (v_s * 10 + Int32.ofInt (tk a_s) - 48) hl
      omega
    · rw [if_neg c_s]
      exact ⟨Nat.le_refl a_s, ha_s⟩
theorem pdg_lt {tk : Nat → Int} {n_s a_s k_s : Nat} {v_s : Int32} (hn : ∀ k_s, n_s ≤ k_s → tk k_s = -1) (ha_s : a_s ≤ n_s) (c_s : 48 ≤ tk a_s ∧ tk a_s ≤ 57) : a_s < (pdg tk (k_s + 1) a_s v_s).1 := by
  unfold pdg
  rw [if_pos c_s]
  have hl : a_s < n_s := by
    by_cases e_s : n_s ≤ a_s
    · have e1_s := hn a_s e_s
      omega
    · omega
  have ih_s := pdg_le hn k_s (a_s + 1) (v_s * 10 + Int32.ofInt (tk a_s) - 48) hl
  omega
theorem tkF_out {f_s : Nat → Nat → Int32} {n_s : Nat} (hn : (f_s 40 1).toInt = (n_s : Int)) : ∀ k_s, n_s ≤ k_s → tkF f_s k_s = -1 := by
  intro k_s hk
  unfold tkF
  rw [if_neg (by omega)]
theorem ofI_ {c_s : Int32} {z_s : Int} (hc_s : c_s.toInt = z_s) : Int32.ofInt z_s = c_s := by
  rw [← hc_s]
  exact Int32.ofInt_toInt c_s
theorem fin67 {F_s : Nat} {h_s : zH} {K_s : Int32 → zH → Prop} {q_s len_s a_s : Nat} {f_s f0_s : Nat → Nat → Int32} {v_s : Int32} (hm_s : q_s = 14 ∨ q_s = 17) (hk : hKn h_s) (hb_s : len_s + 1 < 242) (hl : (f_s q_s 2).toInt = (len_s : Int)) (ha_s : (f_s 40 2).toInt = (a_s : Int)) (hf : ∀ o k_s, ¬ (o = 40 ∧ k_s = 2) → f_s o k_s = f0_s o k_s) (t_s : ∀ f1_s, (f1_s 40 2).toInt = (a_s : Int) → f1_s (q_s + 1) len_s = 48 → f1_s (q_s + 1) (len_s + 1) = v_s → (f1_s q_s 2).toInt = ((len_s + 2 : Nat) : Int) → (∀ o k_s, ¬ (o = 40 ∧ k_s = 2) → ¬ (o = q_s + 1 ∧ len_s ≤ k_s) → ¬ (o = q_s ∧ k_s = 2) → f1_s o k_s = f0_s o k_s) → K_s 1 (h_s.1, f1_s, h_s.2.2.1, h_s.2.2.2)) : wF F_s 54 (0, [some (.ref q_s), some (.int 48)], [], (h_s.1, f_s, h_s.2.2.1, h_s.2.2.2)) (gV (fun h5 => hKn h5 → wF F_s 54 (0, [some (.ref q_s), some (.int v_s)], [], h5) (gV (fun h6 => hKn h6 → K_s 1 h6)))) := by
  refine sp_54 (h_s := (h_s.1, f_s, h_s.2.2.1, h_s.2.2.2)) (len_s := len_s) hm_s hk hl (by omega) (fun f1_s b1 b2 b3 hk1 => ?_)
  refine sp_54 (len_s := len_s + 1) hm_s hk1 b2 hb_s (fun f2_s d1_s d2_s d3_s _ => t_s f2_s ?_ ?_ ?_ ?_ ?_)
  · rw [d3_s 40 2 (by omega) (by omega)]
    show (f1_s 40 2).toInt = _
    rw [b3 40 2 (by omega) (by omega)]
    exact ha_s
  · rw [d3_s (q_s + 1) len_s (by omega) (by omega)]
    exact b1
  · exact d1_s
  · omega
  · intro o k_s h1 h2 h3
    rw [d3_s o k_s (by omega) (by omega)]
    show f1_s o k_s = _
    rw [b3 o k_s (by omega) (by omega)]
    exact hf o k_s h1
theorem num67 {h_s : zH} {K_s : Int32 → zH → Prop} {q_s len_s n_s a1_s : Nat} {v1_s : Int32} {tk : Nat → Int} {f0_s : Nat → Nat → Int32} (hm_s : q_s = 14 ∨ q_s = 17) (hk : hKn h_s) (hb_s : len_s + 1 < 242) (hn : n_s ≤ 120) (t_s : ∀ f1_s, (f1_s 40 2).toInt = (a1_s : Int) → f1_s (q_s + 1) len_s = 48 → f1_s (q_s + 1) (len_s + 1) = v1_s → (f1_s q_s 2).toInt = ((len_s + 2 : Nat) : Int) → (∀ o k_s, ¬ (o = 40 ∧ k_s = 2) → ¬ (o = q_s + 1 ∧ len_s ≤ k_s) → ¬ (o = q_s ∧ k_s = 2) → f1_s o k_s = f0_s o k_s) → K_s 1 (h_s.1, f1_s, h_s.2.2.1, h_s.2.2.2)) : ∀ (F_s k_s a_s : Nat) (v_s x3 : Int32) (f_s : Nat → Nat → Int32), x3.toInt = (k_s : Int) → k_s ≤ 4 → (f_s 40 2).toInt = (a_s : Int) → a_s ≤ n_s → (f_s 40 1).toInt = (n_s : Int) → tkF f_s = tk → (f_s q_s 2).toInt = (len_s : Int) → (∀ o k_s, ¬ (o = 40 ∧ k_s = 2) → f_s o k_s = f0_s o k_s) → pdg tk (4 - k_s) a_s v_s = (a1_s, v1_s) → wF F_s 67 (4, [some (.ref 40), some (.ref q_s), some (.int v_s), some (.int x3)], [], (h_s.1, f_s, h_s.2.2.1, h_s.2.2.2)) (gI K_s)
  | 0, _, _, _, _, _, _, _, _, _, _, _, _, _, _ => wF_zero
  | F_s + 1, k_s, a_s, v_s, x3, f_s, hx, h4, ha_s, han, hfn, htk, hl, hf, hp => by
    have ht : tk a_s = tkF f_s a_s := by rw [htk]
    refine sg_67_4 (h_s := (h_s.1, f_s, h_s.2.2.1, h_s.2.2.2)) hm_s hk ⟨fun c1_s => ?_, fun c1_s => ?_⟩
    · have e4_s : 4 - k_s = (4 - (k_s + 1)) + 1 := by omega
      rw [e4_s] at hp
      unfold pdg at hp
      refine sp_68 (h_s := (h_s.1, f_s, h_s.2.2.1, h_s.2.2.2)) hk ha_s (fun c_s hc_s _ => ?_)
      have hc_s : c_s.toInt = tkF f_s a_s := hc_s
      refine sp_70 (h_s := (h_s.1, f_s, h_s.2.2.1, h_s.2.2.2)) hk (fun d_s _ => ⟨fun _ => ?_, fun w_s => absurd rfl w_s⟩) (fun d_s _ => ⟨fun w_s => absurd w_s (by decide), fun _ => ?_⟩)
      · rw [if_neg (by omega)] at hp
        cases hp
        exact fin67 hm_s hk hb_s hl ha_s hf t_s
      · rw [if_pos (by omega)] at hp
        refine sp_68 (h_s := (h_s.1, f_s, h_s.2.2.1, h_s.2.2.2)) hk ha_s (fun c2_s hc2 _ => ?_)
        have hc2 : c2_s.toInt = tkF f_s a_s := hc2
        have hlt : a_s < n_s := by
          by_cases e_s : n_s ≤ a_s
          · have e1_s := tkF_out hfn a_s e_s
            omega
          · omega
        refine num67 (tk := tk) hm_s hk hb_s hn t_s F_s (k_s + 1) (a_s + 1) _ (x3 + 1) (zup f_s 40 2 (f_s 40 2 + 1)) ?_ (by omega) ?_ hlt ?_ ?_ ?_ ?_ ?_
        · rw [in1_ (by omega)]
          omega
        · rw [zsame_up, in1_ (by omega)]
          omega
        · rw [zne_up (by omega)]
          exact hfn
        · rw [← htk]
          exact tkF_eq (zne_up (by omega)) (fun j_s => zne_up (by omega))
        · rw [zne_up (by omega)]
          exact hl
        · intro o j_s hq
          rw [zne_up hq]
          exact hf o j_s hq
        · rw [ht, ofI_ hc2] at hp
          exact hp
    · have e4_s : 4 - k_s = 0 := by omega
      rw [e4_s] at hp
      have hp : (a_s, v_s) = (a1_s, v1_s) := hp
      cases hp
      exact fin67 hm_s hk hb_s hl ha_s hf t_s
/-! THE CLASS READS A TEXT: levels and operands. -/
theorem zget_apd {α : Type} {d_s : α} : ∀ {l1 l2 : List α} {j_s : Nat}, zget (l1 ++ l2) j_s = some d_s → (j_s < l1.length ∧ zget l1 j_s = some d_s) ∨ (l1.length ≤ j_s ∧ zget l2 (j_s - l1.length) = some d_s)
  | [], _, _, hq => Or.inr ⟨Nat.zero_le _, hq⟩
  | a_s :: l1, l2, 0, hq => Or.inl ⟨Nat.zero_lt_succ _, hq⟩
  | a_s :: l1, l2, j_s + 1, hq => by
    rcases zget_apd (l1 := l1) (l2 := l2) (j_s := j_s) hq with ⟨e1_s, e2_s⟩ | ⟨e1_s, e2_s⟩
    · exact Or.inl ⟨Nat.succ_lt_succ e1_s, e2_s⟩
    · refine Or.inr ⟨Nat.succ_le_succ e1_s, ?_⟩
      rw [List.length_cons, Nat.succ_sub_succ]
      exact e2_s
def frC (q_s len_s : Nat) (f_s f1_s : Nat → Nat → Int32) : Prop := ∀ o k_s, ¬ (o = 40 ∧ k_s = 2) → ¬ (o = q_s ∧ k_s ≤ 2) → ¬ (o = q_s + 1 ∧ len_s ≤ k_s) → f1_s o k_s = f_s o k_s
def qC (q_s len_s a0_s : Nat) (m0_s : Int32) (f_s : Nat → Nat → Int32) (z_s : pA) (a_s : Nat) : Prop := (f_s 40 2).toInt = (a_s : Int) ∧ (f_s q_s 2).toInt = ((len_s + z_s.1.length : Nat) : Int) ∧ z_s.1.length + 2 * a0_s ≤ 2 * a_s ∧ (∀ j_s c_s, zget z_s.1 j_s = some c_s → f_s (q_s + 1) (len_s + j_s) = c_s) ∧ f_s q_s 0 = (if z_s.2.2 then 1 else m0_s)
def poC (q_s len_s a0_s n_s : Nat) (m0_s : Int32) (f1_s : Nat → Nat → Int32) (v_s : Int32) : pR → Prop
  | .inl e_s => v_s = 0 ∧ (f1_s 40 2).toInt = (e_s : Int)
  | .inr p_s => v_s = 1 ∧ a0_s < p_s.1 ∧ p_s.1 ≤ n_s ∧ qC q_s len_s a0_s m0_s f1_s p_s.2 p_s.1
def prC (q_s n_s len_s a_s : Nat) (f_s : Nat → Nat → Int32) : Prop := (f_s 40 2).toInt = (a_s : Int) ∧ a_s ≤ n_s ∧ (f_s 40 1).toInt = (n_s : Int) ∧ n_s ≤ 120 ∧ (f_s q_s 2).toInt = (len_s : Int) ∧ len_s ≤ 2 * a_s
def C65 (F_s : Nat) : Prop := ∀ (h_s : zH) (K_s : Int32 → zH → Prop) (q_s n_s len_s m_s op_s a_s : Nat) (x2_s x3 : Int32) (f_s : Nat → Nat → Int32), (q_s = 14 ∨ q_s = 17) → hKn h_s → x2_s.toInt = (m_s : Int) → m_s ≤ 5 → x3.toInt = (op_s : Int) → op_s ≤ 6 → prC q_s n_s len_s a_s f_s → (∀ v_s f1_s, frC q_s len_s f_s f1_s → (∃ r_s, pP (tkF f_s) m_s op_s a_s pz0 r_s ∧ poC q_s len_s a_s n_s (f_s q_s 0) f1_s v_s r_s) → K_s v_s (h_s.1, f1_s, h_s.2.2.1, h_s.2.2.2)) → wF F_s 65 (0, [some (.ref 40), some (.ref q_s), some (.int x2_s), some (.int x3), none, none, none], [], (h_s.1, f_s, h_s.2.2.1, h_s.2.2.2)) (gI K_s)
def C66 (F_s : Nat) : Prop := ∀ (h_s : zH) (K_s : Int32 → zH → Prop) (q_s n_s len_s op_s a_s : Nat) (x3 : Int32) (f_s : Nat → Nat → Int32), (q_s = 14 ∨ q_s = 17) → hKn h_s → x3.toInt = (op_s : Int) → op_s ≤ 6 → prC q_s n_s len_s a_s f_s → (∀ v_s f1_s, frC q_s len_s f_s f1_s → (∃ r_s, pP (tkF f_s) 5 op_s a_s pz0 r_s ∧ poC q_s len_s a_s n_s (f_s q_s 0) f1_s v_s r_s) → K_s v_s (h_s.1, f1_s, h_s.2.2.1, h_s.2.2.2)) → wF F_s 66 (0, [some (.ref 40), some (.ref q_s), some (.int x3), none, none], [], (h_s.1, f_s, h_s.2.2.1, h_s.2.2.2)) (gI K_s)
def C42 (F_s : Nat) : Prop := ∀ (h_s : zH) (K_s : Int32 → zH → Prop) (q_s n_s len_s a0_s m_s op_s a_s s_s : Nat) (x2_s x3 x4_s x5_s m0_s : Int32) (l6 : Option Value) (f0_s f_s : Nat → Nat → Int32) (z_s : pA), (q_s = 14 ∨ q_s = 17) → hKn h_s → x2_s.toInt = (m_s : Int) → m_s < 5 → x3.toInt = (op_s : Int) → op_s ≤ 6 → x4_s.toInt = (if m_s = 2 then 1 else 120) → x5_s.toInt = (s_s : Int) → (m_s = 2 → s_s ≤ 1) → a0_s + 2 * s_s < a_s → a_s ≤ n_s → (f_s 40 1).toInt = (n_s : Int) → n_s ≤ 120 → len_s ≤ 2 * a0_s → frC q_s len_s f0_s f_s → qC q_s len_s a0_s m0_s f_s z_s a_s → (∀ v_s f1_s, frC q_s len_s f0_s f1_s → (∃ r_s, ((m_s = 2 ∧ s_s = 1 ∧ r_s = .inr (a_s, z_s)) ∨ (¬ (m_s = 2 ∧ s_s = 1) ∧ pP (tkF f_s) (m_s + 6) op_s a_s z_s r_s)) ∧ poC q_s len_s a0_s n_s m0_s f1_s v_s r_s) → K_s v_s (h_s.1, f1_s, h_s.2.2.1, h_s.2.2.2)) → wF F_s 65 (42, [some (.ref 40), some (.ref q_s), some (.int x2_s), some (.int x3), some (.int x4_s), some (.int x5_s), l6], [], (h_s.1, f_s, h_s.2.2.1, h_s.2.2.2)) (gI K_s)
theorem frC_tk {q_s len_s : Nat} {f_s f1_s : Nat → Nat → Int32} (hm_s : q_s = 14 ∨ q_s = 17) (hf : frC q_s len_s f_s f1_s) : tkF f1_s = tkF f_s := tkF_eq (hf 40 1 (by omega) (by omega) (by omega)) (fun k_s => hf 41 k_s (by omega) (by omega) (by omega))
theorem up_tk {f_s : Nat → Nat → Int32} {x_s : Int32} : tkF (zup f_s 40 2 x_s) = tkF f_s := tkF_eq (zne_up (by omega)) (fun k_s => zne_up (by omega))
theorem lvl_m1 : lvl (-1) = -1 := rfl
theorem c42_s {F_s : Nat} (i65 : C65 F_s) (i42 : C42 F_s) : C42 (F_s + 1) := by
  intro h_s K_s q_s n_s len_s a0_s m_s op_s a_s s_s x2_s x3 x4_s x5_s m0_s l6 f0_s f_s z_s hm_s hk hx2 m5_s hx3 ho hx4 hx5 hs2 has_s han hfn hn hl0 hf0 qz t_s
  obtain ⟨q1_s, q2_s, q3_s, q4_s, q5_s⟩ := qz
  refine sg_65_42 (h_s := (h_s.1, f_s, h_s.2.2.1, h_s.2.2.2)) hm_s hk ⟨fun c1_s => ?_, fun c1_s => ?_⟩
  · have ns : ¬ (m_s = 2 ∧ s_s = 1) := fun w_s => by
      rw [if_pos w_s.1] at hx4
      omega
    refine sp_68 (h_s := (h_s.1, f_s, h_s.2.2.1, h_s.2.2.2)) hk q1_s (fun c_s hc_s _ => ?_)
    have hc_s : c_s.toInt = tkF f_s a_s := hc_s
    refine sp_72 (h_s := (h_s.1, f_s, h_s.2.2.1, h_s.2.2.2)) hk (fun w_s hw _ => ⟨fun e_s => ?_, fun e_s => ?_⟩)
    · have hlv : lvl (tkF f_s a_s) = (m_s : Int) := by rw [← hc_s, ← hw]; omega
      have hlt : a_s < n_s := by
        by_cases e1_s : n_s ≤ a_s
        · rw [tkF_out hfn a_s e1_s, lvl_m1] at hlv
          omega
        · omega
      have hlv6 : lvl (tkF f_s a_s) = ((m_s + 6 : Nat) : Int) - 6 := by rw [hlv]; omega
      refine i65 h_s _ q_s n_s (len_s + z_s.1.length) (m_s + 1) op_s (a_s + 1) (x2_s + 1) x3 (zup f_s 40 2 (f_s 40 2 + 1)) hm_s hk ?_ (by omega) hx3 ho ⟨?_, hlt, ?_, hn, ?_, by omega⟩ (fun v_s f1_s fr1 hr _ => ?_)
      · rw [in1_ (by omega)]
        omega
      · rw [zsame_up, in1_ (by omega)]
        omega
      · rw [zne_up (by omega)]
        exact hfn
      · rw [zne_up (by omega)]
        exact q2_s
      · obtain ⟨r_s, hp, hpo⟩ := hr
        rw [up_tk] at hp
        have fr2 : frC q_s len_s f0_s f1_s := by
          intro o k_s g1 g2 g3_s
          rw [fr1 o k_s g1 g2 (by omega), zne_up g1]
          exact hf0 o k_s g1 g2 g3_s
        match r_s, hp, hpo with
        | .inl e9_s, hp, hpo =>
          obtain ⟨rfl, hpz⟩ := hpo
          exact ⟨fun _ => t_s 0 f1_s fr2 ⟨.inl e9_s, Or.inr ⟨ns, pP_sgF (by omega) hlv6 (by rw [show m_s + 6 - 5 = m_s + 1 by omega]; exact hp)⟩, rfl, hpz⟩, fun w_s => absurd rfl w_s⟩
        | .inr p_s, hp, hpo =>
          obtain ⟨rfl, p1_s, p2_s, p3_s, p4_s, p5_s, p6_s, p7_s⟩ := hpo
          rw [zne_up (by omega), q5_s] at p7_s
          refine ⟨fun w_s => absurd w_s (by decide), fun _ => ?_⟩
          refine sp_54 (h_s := (h_s.1, f1_s, h_s.2.2.1, h_s.2.2.2)) (len_s := len_s + z_s.1.length + p_s.2.1.length) hm_s hk p4_s (by omega) (fun f2_s b1 b2 b3 _ => ?_)
          have fr3 : frC q_s len_s f0_s f2_s := by
            intro o k_s g1 g2 g3_s
            rw [b3 o k_s (by omega) (by omega)]
            exact fr2 o k_s g1 g2 g3_s
          have tk2 : tkF f2_s = tkF f_s := (frC_tk hm_s fr3).trans (frC_tk hm_s hf0).symm
          refine i42 h_s K_s q_s n_s len_s a0_s m_s op_s p_s.1 (s_s + 1) x2_s x3 x4_s (x5_s + 1) m0_s _ f0_s f2_s (pjn z_s (tkF f_s a_s) p_s.2) hm_s hk hx2 m5_s hx3 ho hx4 ?_ ?_ ?_ p2_s ?_ hn hl0 fr3 ⟨?_, ?_, ?_, ?_, ?_⟩ (fun v_s f3_s fr4 hr => t_s v_s f3_s fr4 ?_)
          · have b120 : x4_s.toInt ≤ 120 := by
              rw [hx4]
              split <;> omega
            rw [in1_ (by omega)]
            omega
          · intro w_s
            rw [if_pos w_s] at hx4
            omega
          · omega
          · rw [fr3 40 1 (by omega) (by omega) (by omega), ← hf0 40 1 (by omega) (by omega) (by omega)]
            exact hfn
          · rw [b3 40 2 (by omega) (by omega)]
            exact p3_s
          · unfold pjn
            simp only [List.length_append, List.length_cons, List.length_nil]
            omega
          · unfold pjn
            simp only [List.length_append, List.length_cons, List.length_nil]
            omega
          · intro j_s d_s hj
            unfold pjn at hj
            rcases zget_apd hj with ⟨j1, j2_s⟩ | ⟨j1, j2_s⟩
            · rw [b3 _ _ (by omega) (by omega)]
              show f1_s (q_s + 1) (len_s + j_s) = d_s
              rw [fr1 _ _ (by omega) (by omega) (by omega), zne_up (by omega)]
              exact q4_s j_s d_s j2_s
            · rcases zget_apd j2_s with ⟨j3_s, j4_s⟩ | ⟨j3_s, j4_s⟩
              · rw [b3 _ _ (by omega) (by omega)]
                have u_s := p6_s (j_s - z_s.1.length) d_s j4_s
                rw [show len_s + z_s.1.length + (j_s - z_s.1.length) = len_s + j_s by omega] at u_s
                exact u_s
              · have e7_s : j_s - z_s.1.length - p_s.2.1.length = 0 := by
                  match h7 : j_s - z_s.1.length - p_s.2.1.length, j4_s with
                  | 0, _ => rfl
                  | _ + 1, j4_s => cases j4_s
                rw [e7_s] at j4_s
                have j5_s : some (Int32.ofInt (tkF f_s a_s)) = some d_s := j4_s
                cases j5_s
                rw [show len_s + j_s = len_s + z_s.1.length + p_s.2.1.length by omega, b1, ofI_ hc_s]
          · rw [b3 _ _ (by omega) (by omega)]
            show f1_s q_s 0 = _
            rw [p7_s]
            unfold pjn
            cases z_s.2.2 <;> cases p_s.2.2.2 <;> rfl
          · obtain ⟨r_s, hr, hpo⟩ := hr
            refine ⟨r_s, Or.inr ⟨ns, ?_⟩, hpo⟩
            rcases hr with ⟨g1, g2, g3_s⟩ | ⟨g1, g2⟩
            · subst g1
              subst g3_s
              exact pP_sg8 hlv hp
            · rw [tk2] at g2
              by_cases e2_s : m_s = 2
              · exact absurd ⟨e2_s, by
                  rw [if_pos e2_s] at hx4
                  omega⟩ g1
              · exact pP_sg (by omega) (by omega) hlv6 (by rw [show m_s + 6 - 5 = m_s + 1 by omega]; exact hp) g2
    · refine t_s 1 f_s hf0 ⟨.inr (a_s, z_s), Or.inr ⟨ns, pP_end (by omega) ?_⟩, rfl, by omega, han, q1_s, q2_s, q3_s, q4_s, q5_s⟩
      rw [← hc_s, ← hw]
      omega
  · have e2_s : m_s = 2 ∧ s_s = 1 := by
      by_cases e2_s : m_s = 2
      · have := hs2 e2_s
        rw [if_pos e2_s] at hx4
        omega
      · rw [if_neg e2_s] at hx4
        omega
    exact t_s 1 f_s hf0 ⟨.inr (a_s, z_s), Or.inl ⟨e2_s.1, e2_s.2, rfl⟩, rfl, by omega, han, q1_s, q2_s, q3_s, q4_s, q5_s⟩
theorem c65_s {F_s : Nat} (i65 : C65 F_s) (i66 : C66 F_s) (i42 : C42 F_s) : C65 (F_s + 1) := by
  intro h_s K_s q_s n_s len_s m_s op_s a_s x2_s x3 f_s hm_s hk hx2 m5_s hx3 ho hp0 t_s
  obtain ⟨p1_s, p2_s, p3_s, p4_s, p5_s, p6_s⟩ := hp0
  refine sg_65_0 (h_s := (h_s.1, f_s, h_s.2.2.1, h_s.2.2.2)) hm_s hk ⟨fun c1_s => ?_, fun c1_s => ?_⟩
  · refine i65 h_s _ q_s n_s len_s (m_s + 1) op_s a_s (x2_s + 1) x3 f_s hm_s hk ?_ (by omega) hx3 ho ⟨p1_s, p2_s, p3_s, p4_s, p5_s, p6_s⟩ (fun v_s f1_s fr1 hr _ => ?_)
    · rw [in1_ (by omega)]
      omega
    · obtain ⟨r_s, hp, hpo⟩ := hr
      match r_s, hp, hpo with
      | .inl e9_s, hp, hpo =>
        obtain ⟨rfl, hpz⟩ := hpo
        exact ⟨fun _ => t_s 0 f1_s fr1 ⟨.inl e9_s, pP_levF (by omega) hp, rfl, hpz⟩, fun w_s => absurd rfl w_s⟩
      | .inr p_s, hp, hpo =>
        obtain ⟨rfl, g1, g2, g3_s⟩ := hpo
        have fn1 : (f1_s 40 1).toInt = (n_s : Int) := by
          rw [fr1 40 1 (by omega) (by omega) (by omega)]
          exact p3_s
        have key_s : ∀ v_s f2_s, frC q_s len_s f_s f2_s → (∃ r_s, ((m_s = 2 ∧ 0 = 1 ∧ r_s = .inr (p_s.1, p_s.2)) ∨ (¬ (m_s = 2 ∧ 0 = 1) ∧ pP (tkF f1_s) (m_s + 6) op_s p_s.1 p_s.2 r_s)) ∧ poC q_s len_s a_s n_s (f_s q_s 0) f2_s v_s r_s) → K_s v_s (h_s.1, f2_s, h_s.2.2.1, h_s.2.2.2) := by
          intro v_s f2_s fr2 hr
          obtain ⟨r_s, hr, hpo⟩ := hr
          refine t_s v_s f2_s fr2 ⟨r_s, ?_, hpo⟩
          rcases hr with ⟨_, w_s, _⟩ | ⟨_, w_s⟩
          · omega
          · rw [frC_tk hm_s fr1] at w_s
            exact pP_lev (by omega) hp w_s
        refine ⟨fun w_s => absurd w_s (by decide), fun _ => ⟨fun e2_s => ?_, fun e2_s => ?_⟩⟩
        · exact i42 h_s K_s q_s n_s len_s a_s m_s op_s p_s.1 0 x2_s x3 1 0 (f_s q_s 0) none f_s f1_s p_s.2 hm_s hk hx2 (by omega) hx3 ho (by rw [if_pos (by omega)]; rfl) rfl (fun _ => by omega) (by omega) g2 fn1 p4_s p6_s fr1 g3_s key_s
        · exact i42 h_s K_s q_s n_s len_s a_s m_s op_s p_s.1 0 x2_s x3 120 0 (f_s q_s 0) none f_s f1_s p_s.2 hm_s hk hx2 (by omega) hx3 ho (by rw [if_neg (by omega)]; rfl) rfl (fun _ => by omega) (by omega) g2 fn1 p4_s p6_s fr1 g3_s key_s
  · have e5_s : m_s = 5 := by omega
    subst e5_s
    exact i66 h_s _ q_s n_s len_s op_s a_s x3 f_s hm_s hk hx3 ho ⟨p1_s, p2_s, p3_s, p4_s, p5_s, p6_s⟩ (fun v_s f1_s fr1 hr _ => t_s v_s f1_s fr1 hr)
/-! THE CLASS READS A TEXT: operands; all of a text. -/
theorem c66_s {F_s : Nat} (i65 : C65 F_s) (i66 : C66 F_s) : C66 (F_s + 1) := by
  intro h_s K_s q_s n_s len_s op_s a_s x3 f_s hm_s hk hx3 ho hp0 t_s
  obtain ⟨p1_s, p2_s, p3_s, p4_s, p5_s, p6_s⟩ := hp0
  refine sg_66_0 (h_s := (h_s.1, f_s, h_s.2.2.1, h_s.2.2.2)) hm_s hk ?_
  refine sp_68 (h_s := (h_s.1, f_s, h_s.2.2.1, h_s.2.2.2)) hk p1_s (fun c_s hc_s _ => ?_)
  have hc_s : c_s.toInt = tkF f_s a_s := hc_s
  have hlt : tkF f_s a_s ≠ -1 → a_s < n_s := fun w_s => by
    by_cases e1_s : n_s ≤ a_s
    · exact absurd (tkF_out p3_s a_s e1_s) w_s
    · omega
  refine sp_70 (h_s := (h_s.1, f_s, h_s.2.2.1, h_s.2.2.2)) hk (fun d_s _ => ⟨fun _ => ?_, fun w_s => absurd rfl w_s⟩) (fun d_s _ => ⟨fun w_s => absurd w_s (by decide), fun _ => ?_⟩)
  · have hd_s : ¬ (48 ≤ tkF f_s a_s ∧ tkF f_s a_s ≤ 57) := by omega
    refine sp_71 (h_s := (h_s.1, f_s, h_s.2.2.1, h_s.2.2.2)) hk (fun kn_s hkn _ => ⟨fun e_s => ?_, fun e_s => ?_⟩)
    · have hn0 : ¬ 0 ≤ nmo (tkF f_s a_s) := by
        rw [← hc_s, ← hkn]
        omega
      have flt_s : (¬ (tkF f_s a_s = 40 ∨ tkF f_s a_s = 33 ∨ tkF f_s a_s = 45) ∨ 6 ≤ op_s) → K_s 0 (h_s.1, f_s, h_s.2.2.1, h_s.2.2.2) := fun w_s => t_s 0 f_s (fun _ _ _ _ _ => rfl) ⟨.inl a_s, pP_bad hd_s hn0 w_s, rfl, p1_s⟩
      have un : ∀ x9 : Int32, (if tkF f_s a_s = 33 then (33 : Int32) else 126) = x9 → (tkF f_s a_s = 33 ∨ tkF f_s a_s = 45) → op_s < 6 → wF F_s 66 (0, [some (.ref 40), some (.ref q_s), some (.int (x3 + 1)), none, none], [], (h_s.1, zup f_s 40 2 (f_s 40 2 + 1), h_s.2.2.1, h_s.2.2.2)) (gI (fun v15 h15 => hKn h15 → (v15.toInt = 0 → K_s 0 h15) ∧ (¬ v15.toInt = 0 → wF F_s 54 (0, [some (.ref q_s), some (.int x9)], [], h15) (gV (fun h18 => hKn h18 → K_s 1 h18))))) := by
        intro x9 hx9 h33 ho6
        have hl1 := hlt (by omega)
        refine i66 h_s _ q_s n_s len_s (op_s + 1) (a_s + 1) (x3 + 1) (zup f_s 40 2 (f_s 40 2 + 1)) hm_s hk ?_ (by omega) ⟨?_, hl1, ?_, p4_s, ?_, by omega⟩ (fun v_s f1_s fr1 hr _ => ?_)
        · rw [in1_ (by omega)]
          omega
        · rw [zsame_up, in1_ (by omega)]
          omega
        · rw [zne_up (by omega)]
          exact p3_s
        · rw [zne_up (by omega)]
          exact p5_s
        · obtain ⟨r_s, hp, hpo⟩ := hr
          rw [up_tk] at hp
          have fr2 : frC q_s len_s f_s f1_s := by
            intro o k_s g1 g2 g3_s
            rw [fr1 o k_s g1 g2 g3_s, zne_up g1]
          match r_s, hp, hpo with
          | .inl e9_s, hp, hpo =>
            obtain ⟨rfl, hpz⟩ := hpo
            exact ⟨fun _ => t_s 0 f1_s fr2 ⟨.inl e9_s, pP_unF h33 ho6 hp, rfl, hpz⟩, fun w_s => absurd rfl w_s⟩
          | .inr p_s, hp, hpo =>
            obtain ⟨rfl, g1, g2, g3_s, g4, g5_s, g6, g7⟩ := hpo
            rw [zne_up (by omega)] at g7
            refine ⟨fun w_s => absurd w_s (by decide), fun _ => ?_⟩
            refine sp_54 (h_s := (h_s.1, f1_s, h_s.2.2.1, h_s.2.2.2)) (len_s := len_s + p_s.2.1.length) hm_s hk g4 (by omega) (fun f2_s b1 b2 b3 _ => ?_)
            refine t_s 1 f2_s ?_ ⟨.inr (p_s.1, pun (tkF f_s a_s) p_s.2), pP_un h33 ho6 hp, rfl, by omega, g2, ?_, ?_, ?_, ?_, ?_⟩
            · intro o k_s u1_s u2_s u3
              rw [b3 o k_s (by omega) (by omega)]
              exact fr2 o k_s u1_s u2_s u3
            · rw [b3 40 2 (by omega) (by omega)]
              exact g3_s
            · unfold pun
              simp only [List.length_append, List.length_cons, List.length_nil]
              omega
            · unfold pun
              simp only [List.length_append, List.length_cons, List.length_nil]
              omega
            · intro j_s d_s hj
              unfold pun at hj
              rcases zget_apd hj with ⟨j1, j2_s⟩ | ⟨j1, j2_s⟩
              · rw [b3 _ _ (by omega) (by omega)]
                exact g6 j_s d_s j2_s
              · have e7_s : j_s - p_s.2.1.length = 0 := by
                  match h7 : j_s - p_s.2.1.length, j2_s with
                  | 0, _ => rfl
                  | _ + 1, j2_s => cases j2_s
                rw [e7_s] at j2_s
                have j5_s : some (if tkF f_s a_s = 33 then (33 : Int32) else 126) = some d_s := j2_s
                rw [hx9] at j5_s
                cases j5_s
                rw [show len_s + j_s = len_s + p_s.2.1.length by omega, b1]
            · rw [b3 _ _ (by omega) (by omega)]
              exact g7
      refine ⟨fun e1_s => ⟨fun e2_s => ?_, fun e2_s => flt_s (by omega)⟩, fun e1_s => ⟨fun e3_s => ⟨fun e2_s => ?_, fun e2_s => flt_s (by omega)⟩, fun e3_s => ⟨fun e4_s => ⟨fun e2_s => ?_, fun e2_s => flt_s (by omega)⟩, fun e4_s => flt_s (by omega)⟩⟩⟩
      · have h40 : tkF f_s a_s = 40 := by omega
        have hl1 := hlt (by omega)
        have ho6 : op_s < 6 := by omega
        refine i65 h_s _ q_s n_s len_s 0 (op_s + 1) (a_s + 1) 0 (x3 + 1) (zup f_s 40 2 (f_s 40 2 + 1)) hm_s hk rfl (by omega) ?_ (by omega) ⟨?_, hl1, ?_, p4_s, ?_, by omega⟩ (fun v_s f1_s fr1 hr _ => ?_)
        · rw [in1_ (by omega)]
          omega
        · rw [zsame_up, in1_ (by omega)]
          omega
        · rw [zne_up (by omega)]
          exact p3_s
        · rw [zne_up (by omega)]
          exact p5_s
        · obtain ⟨r_s, hp, hpo⟩ := hr
          rw [up_tk] at hp
          have fr2 : frC q_s len_s f_s f1_s := by
            intro o k_s g1 g2 g3_s
            rw [fr1 o k_s g1 g2 g3_s, zne_up g1]
          have tk1 : tkF f1_s = tkF f_s := frC_tk hm_s fr2
          have fn1 : (f1_s 40 1).toInt = (n_s : Int) := by
            rw [fr2 40 1 (by omega) (by omega) (by omega)]
            exact p3_s
          match r_s, hp, hpo with
          | .inl e9_s, hp, hpo =>
            obtain ⟨rfl, hpz⟩ := hpo
            exact ⟨fun _ => t_s 0 f1_s fr2 ⟨.inl e9_s, pP_parF h40 ho6 hp, rfl, hpz⟩, fun w_s => absurd rfl w_s⟩
          | .inr p_s, hp, hpo =>
            obtain ⟨rfl, g1, g2, g3_s, g4, g5_s, g6, g7⟩ := hpo
            rw [zne_up (by omega)] at g7
            refine ⟨fun w_s => absurd w_s (by decide), fun _ => ?_⟩
            refine sp_69 (h_s := (h_s.1, f1_s, h_s.2.2.1, h_s.2.2.2)) (a_s := p_s.1) hk g3_s (by omega) (fun c9_s f2_s b1 b2 _ => ⟨fun w_s => absurd w_s (by decide), fun _ => ?_⟩) (fun c9_s _ => ⟨fun _ => ?_, fun w_s => absurd rfl w_s⟩)
            · have c9_s : tkF f1_s p_s.1 = 41 := c9_s
              have b2 : ∀ o k_s, ¬ (o = 40 ∧ k_s = 2) → f2_s o k_s = f1_s o k_s := b2
              have hl2 : p_s.1 < n_s := by
                by_cases e7_s : n_s ≤ p_s.1
                · have := tkF_out fn1 p_s.1 e7_s
                  omega
                · omega
              refine t_s 1 f2_s ?_ ⟨.inr (p_s.1 + 1, p_s.2), pP_par h40 ho6 hp (by rw [← tk1]; exact c9_s), rfl, by omega, hl2, b1, ?_, (by show p_s.2.1.length + 2 * a_s ≤ 2 * (p_s.1 + 1); omega), ?_, ?_⟩
              · intro o k_s u1_s u2_s u3
                rw [b2 o k_s u1_s]
                exact fr2 o k_s u1_s u2_s u3
              · rw [b2 _ _ (by omega)]
                exact g4
              · intro j_s d_s hj
                rw [b2 _ _ (by omega)]
                exact g6 j_s d_s hj
              · rw [b2 _ _ (by omega)]
                exact g7
            · exact t_s 0 f1_s fr2 ⟨.inl p_s.1, pP_parN h40 ho6 hp (by rw [← tk1]; exact c9_s), rfl, g3_s⟩
      · exact un 33 (by rw [if_pos (by omega)]) (by omega) (by omega)
      · exact un 126 (by rw [if_neg (by omega)]) (by omega) (by omega)
    · have hn0 : 0 ≤ nmo (tkF f_s a_s) := by
        rw [← hc_s, ← hkn]
        omega
      have hl1 := hlt (fun w_s => by
        rw [w_s] at hn0
        exact absurd hn0 (by decide))
      refine sp_55 (h_s := (h_s.1, f_s, h_s.2.2.1, h_s.2.2.2)) (len_s := len_s) hm_s hk p5_s (by omega) (fun f1_s b1 b2 b3 b4 b5 _ => ?_)
      have b5 : ∀ o k_s, ¬ (o = q_s + 1 ∧ len_s ≤ k_s) → ¬ (o = q_s ∧ k_s ≤ 2) → f1_s o k_s = f_s o k_s := b5
      have e40 : f1_s 40 2 = f_s 40 2 := b5 40 2 (by omega) (by omega)
      refine t_s 1 (zup f1_s 40 2 (f1_s 40 2 + 1)) ?_ ⟨_, pP_nam hd_s hn0, rfl, by omega, hl1, ?_, ?_, ?_, ?_, ?_⟩
      · intro o k_s u1_s u2_s u3
        rw [zne_up u1_s]
        exact b5 o k_s u3 u2_s
      · rw [zsame_up, e40, in1_ (by omega)]
        omega
      · rw [zne_up (by omega)]
        exact b3
      · show 2 + 2 * a_s ≤ 2 * (a_s + 1)
        omega
      · intro j_s d_s hj
        rw [zne_up (by omega)]
        match j_s, hj with
        | 0, hj =>
          cases hj
          exact b1
        | 1, hj =>
          cases hj
          rw [b2]
          exact (ofI_ (by rw [hkn, hc_s])).symm
        | _ + 2, hj => cases hj
      · rw [zne_up (by omega), b4]
        show (if kn_s.toInt = 1 then (1 : Int32) else f_s q_s 0) = (if decide (nmo (tkF f_s a_s) = 1) = true then 1 else f_s q_s 0)
        rw [hkn, hc_s]
        by_cases e7_s : nmo (tkF f_s a_s) = 1
        · rw [if_pos e7_s, if_pos (by rw [e7_s]; rfl)]
        · rw [if_neg e7_s, if_neg (fun w_s => e7_s (of_decide_eq_true w_s))]
  · have hd_s : 48 ≤ tkF f_s a_s ∧ tkF f_s a_s ≤ 57 := by omega
    have hl1 := hlt (by omega)
    have pl := pdg_le (tkF_out p3_s) 4 a_s 0 p2_s
    have plt : a_s < (pdg (tkF f_s) 4 a_s 0).1 := pdg_lt (k_s := 3) (v_s := 0) (tkF_out p3_s) p2_s hd_s
    cases F_s with
    | zero => exact wF_zero
    | succ F_s =>
      refine sg_67_0 (h_s := (h_s.1, f_s, h_s.2.2.1, h_s.2.2.2)) hm_s hk ?_
      refine num67 (h_s := h_s) (K_s := fun v28 h28 => hKn h28 → K_s v28 h28) (len_s := len_s) (n_s := n_s) (f0_s := f_s) (tk := tkF f_s) (a1_s := (pdg (tkF f_s) 4 a_s 0).1) (v1_s := (pdg (tkF f_s) 4 a_s 0).2) hm_s hk (by omega) p4_s (fun f1_s b1 b2 b3 b4 b5 _ => ?_) F_s 0 a_s 0 0 f_s rfl (by omega) p1_s p2_s p3_s rfl p5_s (fun _ _ _ => rfl) rfl
      refine t_s 1 f1_s ?_ ⟨_, pP_num hd_s, rfl, plt, pl.2, b1, b4, ?_, ?_, ?_⟩
      · intro o k_s u1_s u2_s u3
        exact b5 o k_s u1_s u3 (by omega)
      · show 2 + 2 * a_s ≤ 2 * (pdg (tkF f_s) 4 a_s 0).1
        omega
      · intro j_s d_s hj
        match j_s, hj with
        | 0, hj =>
          cases hj
          exact b2
        | 1, hj =>
          cases hj
          exact b3
        | _ + 2, hj => cases hj
      · exact b5 q_s 0 (by omega) (by omega) (by omega)
theorem cpar : ∀ F_s, C65 F_s ∧ C66 F_s ∧ C42 F_s
  | 0 => by
    refine ⟨?_, ?_, ?_⟩
    · intro _ _ _
      intros
      exact wF_zero
    · intro _ _ _
      intros
      exact wF_zero
    · intro _ _ _
      intros
      exact wF_zero
  | F_s + 1 => by
    obtain ⟨i1_s, i2_s, i3_s⟩ := cpar F_s
    exact ⟨c65_s i1_s i2_s i3_s, c66_s i1_s i2_s, c42_s i1_s i3_s⟩
/-! A TEXT'S LINES. -/
abbrev pB : Type := Option pA × pA
def pln (tk : Nat → Int) (a_s : Nat) (r_s : Nat ⊕ (Nat × pB)) : Prop := (∃ e_s, pP tk 0 0 a_s pz0 (.inl e_s) ∧ r_s = .inl e_s) ∨ ∃ p_s, pP tk 0 0 a_s pz0 (.inr p_s) ∧ ((¬ tk p_s.1 = 63 ∧ r_s = .inr (p_s.1, none, p_s.2)) ∨ (tk p_s.1 = 63 ∧ ((∃ e_s, pP tk 0 0 (p_s.1 + 1) pz0 (.inl e_s) ∧ r_s = .inl e_s) ∨ ∃ p1_s, pP tk 0 0 (p_s.1 + 1) pz0 (.inr p1_s) ∧ r_s = .inr (p1_s.1, some p_s.2, p1_s.2))))
theorem pln_det {tk : Nat → Int} {a_s : Nat} {r_s r1_s : Nat ⊕ (Nat × pB)} (h_s : pln tk a_s r_s) (h1 : pln tk a_s r1_s) : r_s = r1_s := by
  rcases h_s with ⟨e_s, x1_s, rfl⟩ | ⟨p_s, x1_s, x2_s⟩
  · rcases h1 with ⟨e1_s, y1, rfl⟩ | ⟨p1_s, y1, y2⟩
    · have q_s := pP_det x1_s y1
      cases q_s
      rfl
    · have q_s := pP_det x1_s y1
      cases q_s
  · rcases h1 with ⟨e1_s, y1, rfl⟩ | ⟨p1_s, y1, y2⟩
    · have q_s := pP_det x1_s y1
      cases q_s
    · have q_s := pP_det x1_s y1
      cases q_s
      rcases x2_s with ⟨x3, rfl⟩ | ⟨x3, x4_s⟩
      · rcases y2 with ⟨y3, rfl⟩ | ⟨y3, y4⟩
        · rfl
        · exact absurd y3 x3
      · rcases y2 with ⟨y3, rfl⟩ | ⟨y3, y4⟩
        · exact absurd x3 y3
        · rcases x4_s with ⟨e2_s, x5_s, rfl⟩ | ⟨p2_s, x5_s, rfl⟩
          · rcases y4 with ⟨e3_s, y5, rfl⟩ | ⟨p3_s, y5, rfl⟩
            · have q_s := pP_det x5_s y5
              cases q_s
              rfl
            · have q_s := pP_det x5_s y5
              cases q_s
          · rcases y4 with ⟨e3_s, y5, rfl⟩ | ⟨p3_s, y5, rfl⟩
            · have q_s := pP_det x5_s y5
              cases q_s
            · have q_s := pP_det x5_s y5
              cases q_s
              rfl
def ptx (tk : Nat → Int) (n_s : Nat) : Nat → Nat → List pB → Nat ⊕ List pB → Prop
  | 0, _, _, _ => False
  | k_s + 1, a_s, l, r_s => (∃ e_s, pln tk a_s (.inl e_s) ∧ r_s = .inl e_s) ∨ ∃ p_s, pln tk a_s (.inr p_s) ∧ ((n_s ≤ p_s.1 ∧ r_s = .inr (l ++ [p_s.2])) ∨ (p_s.1 < n_s ∧ ((¬ tk p_s.1 = 59 ∧ r_s = .inl p_s.1) ∨ (tk p_s.1 = 59 ∧ ptx tk n_s k_s (p_s.1 + 1) (l ++ [p_s.2]) r_s))))
theorem ptx_det {tk : Nat → Int} {n_s : Nat} : ∀ {k_s k1_s a_s : Nat} {l : List pB} {r_s r1_s : Nat ⊕ List pB}, ptx tk n_s k_s a_s l r_s → ptx tk n_s k1_s a_s l r1_s → r_s = r1_s
  | 0, _, _, _, _, _, h_s, _ => h_s.elim
  | _ + 1, 0, _, _, _, _, _, h_s => h_s.elim
  | k_s + 1, k1_s + 1, a_s, l, r_s, r1_s, h_s, h1 => by
    rcases h_s with ⟨e_s, x1_s, rfl⟩ | ⟨p_s, x1_s, x2_s⟩
    · rcases h1 with ⟨e1_s, y1, rfl⟩ | ⟨p1_s, y1, y2⟩
      · have q_s := pln_det x1_s y1
        cases q_s
        rfl
      · have q_s := pln_det x1_s y1
        cases q_s
    · rcases h1 with ⟨e1_s, y1, rfl⟩ | ⟨p1_s, y1, y2⟩
      · have q_s := pln_det x1_s y1
        cases q_s
      · have q_s := pln_det x1_s y1
        cases q_s
        rcases x2_s with ⟨x3, rfl⟩ | ⟨x3, x4_s⟩
        · rcases y2 with ⟨y3, rfl⟩ | ⟨y3, y4⟩
          · rfl
          · omega
        · rcases y2 with ⟨y3, rfl⟩ | ⟨y3, y4⟩
          · omega
          · rcases x4_s with ⟨x5_s, rfl⟩ | ⟨x5_s, x6⟩
            · rcases y4 with ⟨y5, rfl⟩ | ⟨y5, y6⟩
              · rfl
              · exact absurd y5 x5_s
            · rcases y4 with ⟨y5, rfl⟩ | ⟨y5, y6⟩
              · exact absurd x5_s y5
              · exact ptx_det (k_s := k_s) (k1_s := k1_s) x6 y6
/-- the code of a line that begins at len; of lines -/
def cLn (len_s : Nat) (l : pB) : List Int32 := match l.1 with
  | none => l.2.1 ++ [59]
  | some y_s => y_s.1 ++ ([63, Int32.ofNat (len_s + (y_s.1.length + (l.2.1.length + 3)))] ++ (l.2.1 ++ [59]))
def cTx : Nat → List pB → List Int32
  | _, [] => []
  | len_s, l :: r_s => cLn len_s l ++ cTx (len_s + (cLn len_s l).length) r_s
theorem cTx_end : ∀ (len_s : Nat) (l : List pB) (p_s : pB), cTx len_s (l ++ [p_s]) = cTx len_s l ++ cLn (len_s + (cTx len_s l).length) p_s
  | len_s, [], p_s => by
    show cLn len_s p_s ++ [] = [] ++ cLn (len_s + 0) p_s
    rw [List.append_nil, List.nil_append, Nat.add_zero]
  | len_s, a_s :: l, p_s => by
    show cLn len_s a_s ++ cTx (len_s + (cLn len_s a_s).length) (l ++ [p_s]) = (cLn len_s a_s ++ cTx (len_s + (cLn len_s a_s).length) l) ++ cLn (len_s + (cLn len_s a_s ++ cTx (len_s + (cLn len_s a_s).length) l).length) p_s
    rw [cTx_end, List.append_assoc, List.length_append, Nat.add_assoc]
def mLn (l : pB) : Bool := (match l.1 with
  | none => false
  | some y_s => y_s.2.2) || l.2.2.2
def mTx : List pB → Bool
  | [] => false
  | l :: r_s => mLn l || mTx r_s
theorem mTx_end : ∀ (l : List pB) (p_s : pB), mTx (l ++ [p_s]) = (mTx l || mLn p_s)
  | [], p_s => by
    show (mLn p_s || false) = (false || mLn p_s)
    rw [Bool.or_false, Bool.false_or]
  | a_s :: l, p_s => by
    show (mLn a_s || mTx (l ++ [p_s])) = ((mLn a_s || mTx l) || mLn p_s)
    rw [mTx_end, Bool.or_assoc]
theorem ofN_ {len_s : Nat} {c_s : Int32} (hb_s : len_s ≤ 3072) (hc_s : c_s.toInt = (len_s : Int)) : Int32.ofNat len_s = c_s := Int32.toInt_inj.mp (by rw [na_ofn hb_s, hc_s])
section LN_s
variable {F_s : Nat} {h_s : zH} {K_s : Int32 → zH → Prop} {q_s n_s len_s a_s : Nat} {f_s : Nat → Nat → Int32}
/-- what stands behind a line -/
def poL (q_s len_s a0_s n_s : Nat) (m0_s : Int32) (f1_s : Nat → Nat → Int32) (v_s : Int32) : Nat ⊕ (Nat × pB) → Prop
  | .inl e_s => v_s = 0 ∧ (f1_s 40 2).toInt = (e_s : Int)
  | .inr p_s => v_s = 1 ∧ a0_s < p_s.1 ∧ p_s.1 ≤ n_s ∧ (f1_s 40 2).toInt = (p_s.1 : Int) ∧ (f1_s q_s 2).toInt = ((len_s + (cLn len_s p_s.2).length : Nat) : Int) ∧ (cLn len_s p_s.2).length + 2 * a0_s ≤ 2 * p_s.1 + 1 ∧ (∀ j_s c_s, zget (cLn len_s p_s.2) j_s = some c_s → f1_s (q_s + 1) (len_s + j_s) = c_s) ∧ f1_s q_s 0 = (if mLn p_s.2 then 1 else m0_s)
theorem sp_64 (hm_s : q_s = 14 ∨ q_s = 17) (hk : hKn h_s) (hp0 : prC q_s n_s len_s a_s f_s) (t_s : ∀ v_s f1_s, frC q_s len_s f_s f1_s → (∃ r_s, pln (tkF f_s) a_s r_s ∧ poL q_s len_s a_s n_s (f_s q_s 0) f1_s v_s r_s) → K_s v_s (h_s.1, f1_s, h_s.2.2.1, h_s.2.2.2)) : wF F_s 64 (0, [some (.ref 40), some (.ref q_s), none], [], (h_s.1, f_s, h_s.2.2.1, h_s.2.2.2)) (gI K_s) := by
  obtain ⟨p1_s, p2_s, p3_s, p4_s, p5_s, p6_s⟩ := hp0
  refine wF_le (Nat.le_succ F_s) (sg_64_0 (h_s := (h_s.1, f_s, h_s.2.2.1, h_s.2.2.2)) hm_s hk ?_)
  refine (cpar F_s).1 h_s _ q_s n_s len_s 0 0 a_s 0 0 f_s hm_s hk rfl (by omega) rfl (by omega) ⟨p1_s, p2_s, p3_s, p4_s, p5_s, p6_s⟩ (fun v_s f1_s fr1 hr _ => ?_)
  obtain ⟨r_s, hp, hpo⟩ := hr
  match r_s, hp, hpo with
  | .inl e9_s, hp, hpo =>
    obtain ⟨rfl, hpz⟩ := hpo
    exact ⟨fun _ => t_s 0 f1_s fr1 ⟨.inl e9_s, Or.inl ⟨e9_s, hp, rfl⟩, rfl, hpz⟩, fun w_s => absurd rfl w_s⟩
  | .inr p_s, hp, hpo =>
    obtain ⟨rfl, g1, g2, g3_s, g4, g5_s, g6, g7⟩ := hpo
    have tk1 : tkF f1_s = tkF f_s := frC_tk hm_s fr1
    have fn1 : (f1_s 40 1).toInt = (n_s : Int) := by
      rw [fr1 40 1 (by omega) (by omega) (by omega)]
      exact p3_s
    refine ⟨fun w_s => absurd w_s (by decide), fun _ => ?_⟩
    refine sp_69 (h_s := (h_s.1, f1_s, h_s.2.2.1, h_s.2.2.2)) (a_s := p_s.1) hk g3_s (by omega) (fun c9_s f2_s b1 b2 _ => ⟨fun w_s => absurd w_s (by decide), fun _ => ?_⟩) (fun c9_s _ => ⟨fun _ => ?_, fun w_s => absurd rfl w_s⟩)
    · have c9_s : tkF f1_s p_s.1 = 63 := c9_s
      have b2 : ∀ o k_s, ¬ (o = 40 ∧ k_s = 2) → f2_s o k_s = f1_s o k_s := b2
      have hl2 : p_s.1 < n_s := by
        by_cases e7_s : n_s ≤ p_s.1
        · have := tkF_out fn1 p_s.1 e7_s
          omega
        · omega
      have l2 : (f2_s q_s 2).toInt = ((len_s + p_s.2.1.length : Nat) : Int) := by
        rw [b2 q_s 2 (by omega)]
        exact g4
      refine wF_le (Nat.le_succ F_s) (sg_56_0 (h_s := (h_s.1, f2_s, h_s.2.2.1, h_s.2.2.2)) hm_s hk ?_)
      refine sp_54 (h_s := (h_s.1, f2_s, h_s.2.2.1, h_s.2.2.2)) (len_s := len_s + p_s.2.1.length) hm_s hk l2 (by omega) (fun f3_s d1_s d2_s d3_s _ => ?_)
      refine sp_54 (h_s := (h_s.1, f3_s, h_s.2.2.1, h_s.2.2.2)) (len_s := len_s + p_s.2.1.length + 1) hm_s hk d2_s (by omega) (fun f4_s e1_s e2_s e3_s _ _ => ?_)
      have d3_s : ∀ o k_s, ¬ (o = q_s + 1 ∧ k_s = len_s + p_s.2.1.length) → ¬ (o = q_s ∧ k_s = 2) → f3_s o k_s = f2_s o k_s := d3_s
      have e3_s : ∀ o k_s, ¬ (o = q_s + 1 ∧ k_s = len_s + p_s.2.1.length + 1) → ¬ (o = q_s ∧ k_s = 2) → f4_s o k_s = f3_s o k_s := e3_s
      have fr4 : frC q_s len_s f_s f4_s := by
        intro o k_s u1_s u2_s u3
        rw [e3_s o k_s (by omega) (by omega), d3_s o k_s (by omega) (by omega), b2 o k_s u1_s]
        exact fr1 o k_s u1_s u2_s u3
      have tk4 : tkF f4_s = tkF f_s := frC_tk hm_s fr4
      have m4_s : f4_s q_s 0 = (if p_s.2.2.2 then 1 else f_s q_s 0) := by
        rw [e3_s q_s 0 (by omega) (by omega), d3_s q_s 0 (by omega) (by omega), b2 q_s 0 (by omega)]
        exact g7
      refine (cpar F_s).1 h_s _ q_s n_s (len_s + p_s.2.1.length + 2) 0 0 (p_s.1 + 1) 0 0 f4_s hm_s hk rfl (by omega) rfl (by omega) ⟨?_, hl2, ?_, p4_s, by omega, by omega⟩ (fun v_s f5_s fr5 hr _ => ?_)
      · rw [e3_s 40 2 (by omega) (by omega), d3_s 40 2 (by omega) (by omega)]
        exact b1
      · rw [fr4 40 1 (by omega) (by omega) (by omega)]
        exact p3_s
      · obtain ⟨r_s, hp5, hpo⟩ := hr
        rw [tk4] at hp5
        have fr6 : frC q_s len_s f_s f5_s := by
          intro o k_s u1_s u2_s u3
          rw [fr5 o k_s u1_s u2_s (by omega)]
          exact fr4 o k_s u1_s u2_s u3
        match r_s, hp5, hpo with
        | .inl e9_s, hp5, hpo =>
          obtain ⟨rfl, hpz⟩ := hpo
          exact ⟨fun _ => t_s 0 f5_s fr6 ⟨.inl e9_s, Or.inr ⟨p_s, hp, Or.inr ⟨by rw [← tk1]; exact c9_s, Or.inl ⟨e9_s, hp5, rfl⟩⟩⟩, rfl, hpz⟩, fun w_s => absurd rfl w_s⟩
        | .inr y_s, hp5, hpo =>
          obtain ⟨rfl, y1, y2, y3, y4, y5, y6, y7⟩ := hpo
          rw [m4_s] at y7
          refine ⟨fun w_s => absurd w_s (by decide), fun _ => ?_⟩
          refine sp_54 (h_s := (h_s.1, f5_s, h_s.2.2.1, h_s.2.2.2)) (len_s := len_s + p_s.2.1.length + 2 + y_s.2.1.length) hm_s hk y4 (by omega) (fun f6_s r1_s r2 r3 _ => ?_)
          have r3 : ∀ o k_s, ¬ (o = q_s + 1 ∧ k_s = len_s + p_s.2.1.length + 2 + y_s.2.1.length) → ¬ (o = q_s ∧ k_s = 2) → f6_s o k_s = f5_s o k_s := r3
          have ex_s : (f4_s q_s 2 - 1).toInt = ((len_s + p_s.2.1.length + 1 : Nat) : Int) := by
            rw [na_sub (by rw [n1_]; omega) (by rw [n1_]; omega), n1_]
            omega
          have zx := azix (i := f4_s q_s 2 - 1) (by omega)
          refine wF_le (Nat.le_succ F_s) (sg_57_0 (h_s := (h_s.1, f6_s, h_s.2.2.1, h_s.2.2.2)) (x1_s := f4_s q_s 2 - 1) hm_s hk ⟨fun c_s => absurd c_s (by omega), fun c_s => ⟨fun c1_s => fun c2_s => ?_, fun c1_s => absurd c1_s (by omega)⟩⟩)
          have e8 : zix (f4_s q_s 2 - 1) = len_s + p_s.2.1.length + 1 := by omega
          intro _
          dsimp only
          rw [e8]
          have lnl : (cLn len_s (some p_s.2, y_s.2)).length = p_s.2.1.length + (y_s.2.1.length + 3) := by
            unfold cLn
            simp only [List.length_append, List.length_cons, List.length_nil]
            omega
          refine t_s 1 (zup f6_s (q_s + 1) (len_s + p_s.2.1.length + 1) (f6_s q_s 2)) ?_ ⟨.inr (y_s.1, some p_s.2, y_s.2), Or.inr ⟨p_s, hp, Or.inr ⟨by rw [← tk1]; exact c9_s, Or.inr ⟨y_s, hp5, rfl⟩⟩⟩, rfl, by omega, y2, ?_, ?_, ?_, ?_, ?_⟩
          · intro o k_s u1_s u2_s u3
            rw [zne_up (by omega), r3 o k_s (by omega) (by omega)]
            exact fr6 o k_s u1_s u2_s u3
          · rw [zne_up (by omega), r3 40 2 (by omega) (by omega)]
            exact y3
          · rw [zne_up (by omega), lnl]
            omega
          · rw [lnl]
            omega
          · intro j_s c_s hj
            unfold cLn at hj
            dsimp only at hj
            rcases zget_apd hj with ⟨j1, j2_s⟩ | ⟨j1, j2_s⟩
            · rw [zne_up (by omega), r3 _ _ (by omega) (by omega), fr5 _ _ (by omega) (by omega) (by omega), e3_s _ _ (by omega) (by omega), d3_s _ _ (by omega) (by omega), b2 _ _ (by omega)]
              exact g6 j_s c_s j2_s
            · rcases zget_apd j2_s with ⟨j3_s, j4_s⟩ | ⟨j3_s, j4_s⟩
              · simp only [List.length_cons, List.length_nil] at j3_s
                match h7 : j_s - p_s.2.1.length, j4_s with
                | 0, j4_s =>
                  cases j4_s
                  rw [zne_up (by omega), r3 _ _ (by omega) (by omega), fr5 _ _ (by omega) (by omega) (by omega), e3_s _ _ (by omega) (by omega), show len_s + j_s = len_s + p_s.2.1.length by omega]
                  exact d1_s
                | 1, j4_s =>
                  cases j4_s
                  rw [show len_s + j_s = len_s + p_s.2.1.length + 1 by omega, zsame_up]
                  exact (ofN_ (by omega) (by rw [r2]; omega)).symm
                | k_s + 2, j4_s => omega
              · simp only [List.length_cons, List.length_nil] at j3_s j4_s
                rcases zget_apd j4_s with ⟨j5_s, j6_s⟩ | ⟨j5_s, j6_s⟩
                · rw [zne_up (by omega), r3 _ _ (by omega) (by omega)]
                  have u_s := y6 _ c_s j6_s
                  rw [show len_s + p_s.2.1.length + 2 + (j_s - p_s.2.1.length - (0 + 1 + 1)) = len_s + j_s by omega] at u_s
                  exact u_s
                · match h7 : j_s - p_s.2.1.length - (0 + 1 + 1) - y_s.2.1.length, j6_s with
                  | 0, j6_s =>
                    cases j6_s
                    rw [zne_up (by omega), show len_s + j_s = len_s + p_s.2.1.length + 2 + y_s.2.1.length by omega]
                    exact r1_s
                  | k_s + 1, j6_s => cases j6_s
          · rw [zne_up (by omega), r3 _ _ (by omega) (by omega), y7]
            show _ = (if (p_s.2.2.2 || y_s.2.2.2) = true then 1 else f_s q_s 0)
            generalize p_s.2.2.2 = b8
            generalize y_s.2.2.2 = b9
            cases b8 <;> cases b9 <;> rfl
    · have c9_s : ¬ tkF f1_s p_s.1 = 63 := c9_s
      refine sp_54 (h_s := (h_s.1, f1_s, h_s.2.2.1, h_s.2.2.2)) (len_s := len_s + p_s.2.1.length) hm_s hk g4 (by omega) (fun f2_s d1_s d2_s d3_s _ => ?_)
      have d3_s : ∀ o k_s, ¬ (o = q_s + 1 ∧ k_s = len_s + p_s.2.1.length) → ¬ (o = q_s ∧ k_s = 2) → f2_s o k_s = f1_s o k_s := d3_s
      have lnl : (cLn len_s (none, p_s.2)).length = p_s.2.1.length + 1 := by
        unfold cLn
        simp only [List.length_append, List.length_cons, List.length_nil]
      refine t_s 1 f2_s ?_ ⟨.inr (p_s.1, none, p_s.2), Or.inr ⟨p_s, hp, Or.inl ⟨by rw [← tk1]; exact c9_s, rfl⟩⟩, rfl, g1, g2, ?_, ?_, ?_, ?_, ?_⟩
      · intro o k_s u1_s u2_s u3
        rw [d3_s o k_s (by omega) (by omega)]
        exact fr1 o k_s u1_s u2_s u3
      · rw [d3_s 40 2 (by omega) (by omega)]
        exact g3_s
      · rw [lnl]
        omega
      · rw [lnl]
        omega
      · intro j_s c_s hj
        unfold cLn at hj
        dsimp only at hj
        rcases zget_apd hj with ⟨j1, j2_s⟩ | ⟨j1, j2_s⟩
        · rw [d3_s _ _ (by omega) (by omega)]
          exact g6 j_s c_s j2_s
        · match h7 : j_s - p_s.2.1.length, j2_s with
          | 0, j2_s =>
            cases j2_s
            rw [show len_s + j_s = len_s + p_s.2.1.length by omega]
            exact d1_s
          | k_s + 1, j2_s => cases j2_s
      · rw [d3_s _ _ (by omega) (by omega), g7]
        show _ = (if (false || p_s.2.2.2) = true then 1 else f_s q_s 0)
        generalize p_s.2.2.2 = b8
        cases b8 <;> rfl
end LN_s
/-! THE REFERENCE READS A TEXT: leaves. -/
def tkR (f_s : Nat → Nat → Int32) (a_s : Nat) : Int := if (a_s : Int) < (f_s 102 17).toInt then (if (f_s 102 15).toInt < 0 then (f_s 109 a_s).toInt else (f_s 110 a_s).toInt) else -1
def frR (f_s f1_s : Nat → Nat → Int32) : Prop := ∀ o k_s, ¬ (o = 102 ∧ (k_s = 16 ∨ k_s = 18 ∨ k_s = 19)) → f1_s o k_s = f_s o k_s
theorem frR_tr {f_s f1_s f2_s : Nat → Nat → Int32} (h1 : frR f_s f1_s) (h2 : frR f1_s f2_s) : frR f_s f2_s := fun o k_s hq => (h2 o k_s hq).trans (h1 o k_s hq)
theorem frR_tk {f_s f1_s : Nat → Nat → Int32} (hf : frR f_s f1_s) : tkR f1_s = tkR f_s := by
  funext a_s
  unfold tkR
  rw [hf 102 17 (by omega), hf 102 15 (by omega), hf 109 a_s (by omega), hf 110 a_s (by omega)]
def prR (tk : Nat → Int) (nm : Nat → Int32) (n_s op_s a_s : Nat) (f_s : Nat → Nat → Int32) : Prop := (f_s 102 18).toInt = -1 ∧ (f_s 102 16).toInt = (a_s : Int) ∧ a_s ≤ n_s ∧ (f_s 102 17).toInt = (n_s : Int) ∧ n_s ≤ 120 ∧ (f_s 102 19).toInt = (op_s : Int) ∧ op_s ≤ 6 ∧ ((f_s 102 15).toInt = -1 ∨ (f_s 102 15).toInt = 0) ∧ (∀ k_s, k_s < n_s → 0 ≤ tk k_s) ∧ tkR f_s = tk ∧ ∀ k_s, f_s 111 k_s = nm k_s
theorem prR_fr {tk : Nat → Int} {nm : Nat → Int32} {n_s op_s a_s op1 a1_s : Nat} {f_s f1_s : Nat → Nat → Int32} (hf : frR f_s f1_s) (hp : prR tk nm n_s op_s a_s f_s) (e1_s : (f1_s 102 18).toInt = -1) (e2_s : (f1_s 102 16).toInt = (a1_s : Int)) (e3_s : a1_s ≤ n_s) (e4_s : (f1_s 102 19).toInt = (op1 : Int)) (e5_s : op1 ≤ 6) : prR tk nm n_s op1 a1_s f1_s := by
  obtain ⟨_, _, _, p4_s, p5_s, _, _, p8_s, p9_s, p10, p11⟩ := hp
  refine ⟨e1_s, e2_s, e3_s, ?_, p5_s, e4_s, e5_s, ?_, p9_s, ?_, fun k_s => ?_⟩
  · rw [hf 102 17 (by omega)]
    exact p4_s
  · rw [hf 102 15 (by omega)]
    exact p8_s
  · rw [frR_tk hf]
    exact p10
  · rw [hf 111 k_s (by omega)]
    exact p11 k_s
def poR (n_s op_s : Nat) (nm : Nat → Int32) (f1_s : Nat → Nat → Int32) (v_s : Int32) : pR → Prop
  | .inl e_s => (f1_s 102 18).toInt = (e_s : Int)
  | .inr p_s => (f1_s 102 18).toInt = -1 ∧ (f1_s 102 16).toInt = (p_s.1 : Int) ∧ p_s.1 ≤ n_s ∧ (f1_s 102 19).toInt = (op_s : Int) ∧ v_s = p_s.2.2.1 nm
section RT
variable {F_s : Nat} {h_s : zH} {K_s : Int32 → zH → Prop} {x1_s : Int32} {a_s n_s op_s : Nat} {tk : Nat → Int} {nm : Nat → Int32} {f_s : Nat → Nat → Int32}
theorem sp_166 (hk : hKn h_s) (hp : prR tk nm n_s op_s a_s f_s) (t_s : ∀ v_s, ((tk a_s = -1 ∧ v_s.toInt = 0) ∨ (0 ≤ tk a_s ∧ v_s.toInt = tk a_s)) → K_s v_s (h_s.1, f_s, h_s.2.2.1, h_s.2.2.2)) : wF F_s 166 (0, [some (.ref 102)], [], (h_s.1, f_s, h_s.2.2.1, h_s.2.2.2)) (gI K_s) := by
  obtain ⟨p1_s, p2_s, p3_s, p4_s, p5_s, p6_s, p7_s, p8_s, p9_s, p10, p11⟩ := hp
  have z_s := azix (i := f_s 102 16) (by omega)
  have z1 : zix (f_s 102 16) = a_s := by omega
  have ht : tk a_s = tkR f_s a_s := by rw [p10]
  have b0 : (f_s 102 15).toInt = 0 → zix (f_s 102 15 + f_s 102 16) = a_s := fun e_s => by
    have e1_s : (f_s 102 15 + f_s 102 16).toInt = (f_s 102 16).toInt := by
      rw [na_add (by omega) (by omega)]
      omega
    have z2 := azix (i := f_s 102 15 + f_s 102 16) (by omega)
    omega
  refine wF_le (Nat.le_succ F_s) (sg_166_0 (h_s := (h_s.1, f_s, h_s.2.2.1, h_s.2.2.2)) hk ⟨fun c1_s => ⟨fun c2_s => fun c3_s => ?_, fun c2_s => fun c4_s => ?_⟩, fun c1_s => ?_⟩)
  · have c1_s : (f_s 102 16).toInt < (f_s 102 17).toInt := c1_s
    have c2_s : (f_s 102 15).toInt < 0 := c2_s
    dsimp only
    rw [z1]
    have g_s := p9_s a_s (by omega)
    refine t_s _ (Or.inr ⟨g_s, ?_⟩)
    rw [ht]
    unfold tkR
    rw [if_pos (by omega), if_pos c2_s]
  · have c1_s : (f_s 102 16).toInt < (f_s 102 17).toInt := c1_s
    have c2_s : ¬ (f_s 102 15).toInt < 0 := c2_s
    dsimp only
    rw [b0 (by omega)]
    have g_s := p9_s a_s (by omega)
    refine t_s _ (Or.inr ⟨g_s, ?_⟩)
    rw [ht]
    unfold tkR
    rw [if_pos (by omega), if_neg c2_s]
  · have c1_s : ¬ (f_s 102 16).toInt < (f_s 102 17).toInt := c1_s
    refine t_s _ (Or.inl ⟨?_, rfl⟩)
    rw [ht]
    unfold tkR
    rw [if_neg (by omega)]
theorem sp_167 (hk : hKn h_s) (t1_s : (f_s 102 18).toInt < 0 → ∀ f1_s, f1_s 102 18 = f_s 102 16 → (∀ o k_s, ¬ (o = 102 ∧ k_s = 18) → f1_s o k_s = f_s o k_s) → K_s 0 (h_s.1, f1_s, h_s.2.2.1, h_s.2.2.2)) (t2_s : ¬ (f_s 102 18).toInt < 0 → ∀ f1_s, (∀ o k_s, f1_s o k_s = f_s o k_s) → K_s 0 (h_s.1, f1_s, h_s.2.2.1, h_s.2.2.2)) : wF F_s 167 (0, [some (.ref 102)], [], (h_s.1, f_s, h_s.2.2.1, h_s.2.2.2)) (gI K_s) := by
  refine wF_le (Nat.le_succ F_s) (sg_167_0 (h_s := (h_s.1, f_s, h_s.2.2.1, h_s.2.2.2)) hk ⟨fun c1_s => t1_s c1_s _ ?_ ?_, fun c1_s => t2_s c1_s _ ?_⟩)
  · exact zsame_up
  · intro o k_s hq
    exact zne_up hq
  · intro o k_s
    by_cases e_s : o = 102 ∧ k_s = 18
    · obtain ⟨rfl, rfl⟩ := e_s
      exact zsame_up
    · exact zne_up e_s
theorem sp_168 (hk : hKn h_s) (hp : prR tk nm n_s op_s a_s f_s) (hx : 0 < x1_s.toInt) (t1_s : tk a_s = x1_s.toInt → ∀ f1_s, (f1_s 102 16).toInt = ((a_s + 1 : Nat) : Int) → (∀ o k_s, ¬ (o = 102 ∧ k_s = 16) → f1_s o k_s = f_s o k_s) → K_s 1 (h_s.1, f1_s, h_s.2.2.1, h_s.2.2.2)) (t2_s : ¬ tk a_s = x1_s.toInt → K_s 0 (h_s.1, f_s, h_s.2.2.1, h_s.2.2.2)) : wF F_s 168 (0, [some (.ref 102), some (.int x1_s)], [], (h_s.1, f_s, h_s.2.2.1, h_s.2.2.2)) (gI K_s) := by
  obtain ⟨p1_s, p2_s, p3_s, p4_s, p5_s, pr⟩ := hp
  refine wF_le (Nat.le_succ F_s) (sg_168_0 (h_s := (h_s.1, f_s, h_s.2.2.1, h_s.2.2.2)) hk ⟨fun c1_s => sp_166 hk ⟨p1_s, p2_s, p3_s, p4_s, p5_s, pr⟩ (fun v_s hv _ => ⟨fun c_s => t1_s (by omega) _ ?_ ?_, fun c_s => t2_s (by omega)⟩), fun c1_s => ?_⟩)
  · show (zup f_s 102 16 (f_s 102 16 + 1) 102 16).toInt = _
    rw [zsame_up, in1_ (by omega)]
    omega
  · intro o k_s hq
    exact zne_up hq
  · have c1_s : ¬ (f_s 102 18).toInt < 0 := c1_s
    omega
theorem sp_168F (hk : hKn h_s) (hf : 0 ≤ (f_s 102 18).toInt) (t_s : K_s 0 (h_s.1, f_s, h_s.2.2.1, h_s.2.2.2)) : wF F_s 168 (0, [some (.ref 102), some (.int x1_s)], [], (h_s.1, f_s, h_s.2.2.1, h_s.2.2.2)) (gI K_s) := by
  refine wF_le (Nat.le_succ F_s) (sg_168_0 (h_s := (h_s.1, f_s, h_s.2.2.1, h_s.2.2.2)) hk ⟨fun c1_s => ?_, fun _ => t_s⟩)
  have c1_s : (f_s 102 18).toInt < 0 := c1_s
  omega
theorem sp_174 (hk : hKn h_s) (t_s : ∀ v_s, v_s.toInt = nmo x1_s.toInt → K_s v_s h_s) : wF F_s 174 (0, [some (.int x1_s)], [], h_s) (gI K_s) := by
  refine wF_le (Nat.le_succ F_s) (sg_174_0 hk ⟨fun c1_s => ?_, fun c1_s => ⟨fun c2_s => ?_, fun c2_s => ⟨fun c3_s => ?_, fun c3_s => ⟨fun c4_s => ?_, fun c4_s => ⟨fun c5_s => ?_, fun c5_s => ⟨fun c6_s => ?_, fun c6_s => ⟨fun c7_s => ?_, fun c7_s => ⟨fun c8_s => ?_, fun c8_s => ⟨fun c9_s => ?_, fun c9_s => ⟨fun c10_s => ?_, fun c10_s => ⟨fun c11_s => ?_, fun c11_s => ⟨fun c12_s => ?_, fun c12_s => ⟨fun c13_s => ?_, fun c13_s => ⟨fun c14_s => ?_, fun c14_s => ⟨fun c15_s => ?_, fun c15_s => ⟨fun c16 => ?_, fun c16 => ⟨fun c17 => ?_, fun c17 => ⟨fun c18_s => ?_, fun c18_s => ?_⟩⟩⟩⟩⟩⟩⟩⟩⟩⟩⟩⟩⟩⟩⟩⟩⟩⟩)
  · exact t_s _ (by rw [c1_s]; decide)
  · exact t_s _ (by rw [c2_s]; decide)
  · exact t_s _ (by rw [c3_s]; decide)
  · exact t_s _ (by rw [c4_s]; decide)
  · exact t_s _ (by rw [c5_s]; decide)
  · exact t_s _ (by rw [c6_s]; decide)
  · exact t_s _ (by rw [c7_s]; decide)
  · exact t_s _ (by rw [c8_s]; decide)
  · exact t_s _ (by rw [c9_s]; decide)
  · exact t_s _ (by rw [c10_s]; decide)
  · exact t_s _ (by rw [c11_s]; decide)
  · exact t_s _ (by rw [c12_s]; decide)
  · exact t_s _ (by rw [c13_s]; decide)
  · exact t_s _ (by rw [c14_s]; decide)
  · exact t_s _ (by rw [c15_s]; decide)
  · exact t_s _ (by rw [c16]; decide)
  · exact t_s _ (by rw [c17]; decide)
  · exact t_s _ (by rw [c18_s]; decide)
  · exact t_s _ (by unfold nmo; rw [if_neg (by omega), if_neg (by omega), if_neg (by omega), if_neg (by omega), if_neg (by omega), if_neg (by omega)]; rfl)
end RT
def RS (M_s m_s : Nat) (ns : List (Option Value)) (F_s : Nat) : Prop := ∀ (h_s : zH) (K_s : Int32 → zH → Prop) (tk : Nat → Int) (nm : Nat → Int32) (n_s op_s a_s : Nat) (f_s : Nat → Nat → Int32), hKn h_s → prR tk nm n_s op_s a_s f_s → (∀ v_s f1_s, frR f_s f1_s → (∃ r_s, pP tk m_s op_s a_s pz0 r_s ∧ poR n_s op_s nm f1_s v_s r_s) → K_s v_s (h_s.1, f1_s, h_s.2.2.1, h_s.2.2.2)) → wF F_s M_s (0, some (.ref 102) :: ns, [], (h_s.1, f_s, h_s.2.2.1, h_s.2.2.2)) (gI K_s)
def R69 : Nat → Prop := RS 169 0 [none, none]
def R70 : Nat → Prop := RS 170 1 [none, none]
def R71 : Nat → Prop := RS 171 2 [none, none, none]
def R72 : Nat → Prop := RS 172 3 [none, none, none]
def R73 : Nat → Prop := RS 173 4 [none, none, none]
def R75 : Nat → Prop := RS 175 5 [none, none, none, none]
def RL1 (M_s m_s : Nat) (F_s : Nat) : Prop := ∀ (h_s : zH) (K_s : Int32 → zH → Prop) (tk : Nat → Int) (nm : Nat → Int32) (n_s op_s a_s : Nat) (x1_s : Int32) (l2 : Option Value) (f_s : Nat → Nat → Int32) (z_s : pA), hKn h_s → prR tk nm n_s op_s a_s f_s → x1_s = z_s.2.1 nm → (∀ v_s f1_s, frR f_s f1_s → (∃ r_s, pP tk m_s op_s a_s z_s r_s ∧ poR n_s op_s nm f1_s v_s r_s) → K_s v_s (h_s.1, f1_s, h_s.2.2.1, h_s.2.2.2)) → wF F_s M_s (5, [some (.ref 102), some (.int x1_s), l2], [], (h_s.1, f_s, h_s.2.2.1, h_s.2.2.2)) (gI K_s)
def RL3 (F_s : Nat) : Prop := ∀ (h_s : zH) (K_s : Int32 → zH → Prop) (tk : Nat → Int) (nm : Nat → Int32) (n_s op_s a_s : Nat) (x1_s : Int32) (l2 l3 : Option Value) (f_s : Nat → Nat → Int32) (z_s : pA), hKn h_s → prR tk nm n_s op_s a_s f_s → x1_s = z_s.2.1 nm → (∀ v_s f1_s, frR f_s f1_s → (∃ r_s, pP tk 9 op_s a_s z_s r_s ∧ poR n_s op_s nm f1_s v_s r_s) → K_s v_s (h_s.1, f1_s, h_s.2.2.1, h_s.2.2.2)) → wF F_s 172 (5, [some (.ref 102), some (.int x1_s), l2, l3], [], (h_s.1, f_s, h_s.2.2.1, h_s.2.2.2)) (gI K_s)
def RL4 (F_s : Nat) : Prop := ∀ (h_s : zH) (K_s : Int32 → zH → Prop) (tk : Nat → Int) (nm : Nat → Int32) (n_s op_s a_s : Nat) (x1_s x2_s : Int32) (l3 : Option Value) (f_s : Nat → Nat → Int32) (z_s : pA), hKn h_s → prR tk nm n_s op_s a_s f_s → x1_s = z_s.2.1 nm → ((tk a_s = -1 ∧ x2_s.toInt = 0) ∨ (0 ≤ tk a_s ∧ x2_s.toInt = tk a_s)) → (∀ v_s f1_s, frR f_s f1_s → (∃ r_s, pP tk 10 op_s a_s z_s r_s ∧ poR n_s op_s nm f1_s v_s r_s) → K_s v_s (h_s.1, f1_s, h_s.2.2.1, h_s.2.2.2)) → wF F_s 173 (10, [some (.ref 102), some (.int x1_s), some (.int x2_s), l3], [], (h_s.1, f_s, h_s.2.2.1, h_s.2.2.2)) (gI K_s)
theorem frR_rf {f_s : Nat → Nat → Int32} : frR f_s f_s := fun _ _ _ => rfl
theorem frR_16 {f_s f1_s : Nat → Nat → Int32} (h1 : ∀ o k_s, ¬ (o = 102 ∧ k_s = 16) → f1_s o k_s = f_s o k_s) : frR f_s f1_s := fun o k_s hq => h1 o k_s (by omega)
theorem i0_ {x_s : Int32} (e_s : x_s.toInt = 0) : x_s = 0 := Int32.toInt_inj.mp e_s
theorem n0_ {x_s : Int32} (e_s : ¬ x_s.toInt = 0) : ¬ x_s = 0 := fun w_s => e_s (by rw [w_s]; rfl)
section RF
variable {F_s : Nat} {h_s : zH} {K_s : Int32 → zH → Prop} {x1_s x2_s : Int32} {l2 l3 : Option Value} {f_s : Nat → Nat → Int32}
theorem f69 (hk : hKn h_s) (hf : 0 ≤ (f_s 102 18).toInt) (t_s : K_s x1_s (h_s.1, f_s, h_s.2.2.1, h_s.2.2.2)) : wF F_s 169 (5, [some (.ref 102), some (.int x1_s), l2], [], (h_s.1, f_s, h_s.2.2.1, h_s.2.2.2)) (gI K_s) := wF_le (Nat.le_succ F_s) (sg_169_5 (h_s := (h_s.1, f_s, h_s.2.2.1, h_s.2.2.2)) hk (sp_168F hk hf (fun _ => ⟨fun _ => t_s, fun w_s => absurd rfl w_s⟩)))
theorem f70 (hk : hKn h_s) (hf : 0 ≤ (f_s 102 18).toInt) (t_s : K_s x1_s (h_s.1, f_s, h_s.2.2.1, h_s.2.2.2)) : wF F_s 170 (5, [some (.ref 102), some (.int x1_s), l2], [], (h_s.1, f_s, h_s.2.2.1, h_s.2.2.2)) (gI K_s) := wF_le (Nat.le_succ F_s) (sg_170_5 (h_s := (h_s.1, f_s, h_s.2.2.1, h_s.2.2.2)) hk (sp_168F hk hf (fun _ => ⟨fun _ => t_s, fun w_s => absurd rfl w_s⟩)))
theorem f72 (hk : hKn h_s) (hf : 0 ≤ (f_s 102 18).toInt) (t_s : K_s x1_s (h_s.1, f_s, h_s.2.2.1, h_s.2.2.2)) : wF F_s 172 (5, [some (.ref 102), some (.int x1_s), l2, l3], [], (h_s.1, f_s, h_s.2.2.1, h_s.2.2.2)) (gI K_s) := wF_le (Nat.le_succ F_s) (sg_172_5 (h_s := (h_s.1, f_s, h_s.2.2.1, h_s.2.2.2)) hk ⟨fun (c_s : (f_s 102 18).toInt < 0) => absurd c_s (by omega), fun _ => t_s⟩)
theorem f73 (hk : hKn h_s) (hf : 0 ≤ (f_s 102 18).toInt) (t_s : K_s x1_s (h_s.1, f_s, h_s.2.2.1, h_s.2.2.2)) : wF F_s 173 (10, [some (.ref 102), some (.int x1_s), some (.int x2_s), l3], [], (h_s.1, f_s, h_s.2.2.1, h_s.2.2.2)) (gI K_s) := wF_le (Nat.le_succ F_s) (sg_173_10 (h_s := (h_s.1, f_s, h_s.2.2.1, h_s.2.2.2)) hk ⟨fun (c_s : (f_s 102 18).toInt < 0) => absurd c_s (by omega), fun _ => t_s⟩)
end RF
theorem l69_s {F_s : Nat} (i70 : R70 F_s) (i69 : RL1 169 6 F_s) : RL1 169 6 (F_s + 1) := by
  intro h_s K_s tk nm n_s op_s a_s x1_s l2 f_s z_s hk hp hx t_s
  obtain ⟨p1_s, p2_s, p3_s, p4_s, p5_s, p6_s, p7_s, p8_s, p9_s, p10, p11⟩ := hp
  have hp : prR tk nm n_s op_s a_s f_s := ⟨p1_s, p2_s, p3_s, p4_s, p5_s, p6_s, p7_s, p8_s, p9_s, p10, p11⟩
  refine sg_169_5 (h_s := (h_s.1, f_s, h_s.2.2.1, h_s.2.2.2)) hk ?_
  refine sp_168 (x1_s := 124) hk hp (by decide) (fun c1_s f1_s b1 b2 _ => ⟨fun w_s => absurd w_s (by decide), fun _ => ?_⟩) (fun c1_s _ => ⟨fun _ => ?_, fun w_s => absurd rfl w_s⟩)
  · have c1_s : tk a_s = 124 := c1_s
    have hlv : lvl (tk a_s) = ((6 : Nat) : Int) - 6 := by rw [c1_s]; rfl
    have hlt : a_s < n_s := by
      by_cases e_s : a_s < n_s
      · exact e_s
      · exfalso
        rw [← p10] at c1_s
        unfold tkR at c1_s
        rw [if_neg (by omega)] at c1_s
        omega
    have fr1 : frR f_s f1_s := frR_16 b2
    refine i70 h_s _ tk nm n_s op_s (a_s + 1) f1_s hk (prR_fr fr1 hp (by rw [b2 102 18 (by omega)]; exact p1_s) b1 hlt (by rw [b2 102 19 (by omega)]; exact p6_s) p7_s) (fun v_s f2_s fr2 hr _ => ?_)
    obtain ⟨r_s, hq, hpo⟩ := hr
    match r_s, hq, hpo with
    | .inl e_s, hq, hpo =>
      have hpo : (f2_s 102 18).toInt = (e_s : Int) := hpo
      have tt : ∀ v_s, K_s v_s (h_s.1, f2_s, h_s.2.2.1, h_s.2.2.2) := fun v_s => t_s v_s f2_s (frR_tr fr1 fr2) ⟨.inl e_s, pP_sgF (by omega) hlv hq, hpo⟩
      exact ⟨fun _ => ⟨fun _ => f69 hk (by omega) (tt 0), fun _ => f69 hk (by omega) (tt 1)⟩, fun _ => f69 hk (by omega) (tt 1)⟩
    | .inr p_s, hq, hpo =>
      obtain ⟨g1, g2, g3_s, g4, g5_s⟩ := hpo
      have go_s : ∀ (y_s : Int32) (l : Option Value), y_s = jnv x1_s 124 v_s → wF F_s 169 (5, [some (.ref 102), some (.int y_s), l], [], (h_s.1, f2_s, h_s.2.2.1, h_s.2.2.2)) (gI K_s) := fun y_s l hy => i69 h_s K_s tk nm n_s op_s p_s.1 y_s l f2_s (pjn z_s (tk a_s) p_s.2) hk (prR_fr (frR_tr fr1 fr2) hp g1 g2 g3_s g4 p7_s) (by rw [hy, hx, g5_s, c1_s]; rfl) (fun v1_s f3_s fr3 hr => by
        obtain ⟨r_s, hr1, hr2⟩ := hr
        exact t_s v1_s f3_s (frR_tr (frR_tr fr1 fr2) fr3) ⟨r_s, pP_sg (by omega) (by omega) hlv hq hr1, hr2⟩)
      refine ⟨fun e1_s => ⟨fun e2_s => go_s 0 _ ?_, fun e2_s => go_s 1 _ ?_⟩, fun e1_s => go_s 1 _ ?_⟩
      · unfold jnv
        rw [if_pos rfl, if_pos ⟨i0_ e1_s, i0_ e2_s⟩]
      · unfold jnv
        rw [if_pos rfl, if_neg (fun w_s => n0_ e2_s w_s.2)]
      · unfold jnv
        rw [if_pos rfl, if_neg (fun w_s => n0_ e1_s w_s.1)]
  · have c1_s : ¬ tk a_s = 124 := c1_s
    refine t_s x1_s f_s frR_rf ⟨.inr (a_s, z_s), pP_end (by omega) ?_, p1_s, p2_s, p3_s, p6_s, hx⟩
    have q9_s := lvl_in (tk a_s)
    omega
theorem l70_s {F_s : Nat} (i71 : R71 F_s) (i70 : RL1 170 7 F_s) : RL1 170 7 (F_s + 1) := by
  intro h_s K_s tk nm n_s op_s a_s x1_s l2 f_s z_s hk hp hx t_s
  obtain ⟨p1_s, p2_s, p3_s, p4_s, p5_s, p6_s, p7_s, p8_s, p9_s, p10, p11⟩ := hp
  have hp : prR tk nm n_s op_s a_s f_s := ⟨p1_s, p2_s, p3_s, p4_s, p5_s, p6_s, p7_s, p8_s, p9_s, p10, p11⟩
  refine sg_170_5 (h_s := (h_s.1, f_s, h_s.2.2.1, h_s.2.2.2)) hk ?_
  refine sp_168 (x1_s := 38) hk hp (by decide) (fun c1_s f1_s b1 b2 _ => ⟨fun w_s => absurd w_s (by decide), fun _ => ?_⟩) (fun c1_s _ => ⟨fun _ => ?_, fun w_s => absurd rfl w_s⟩)
  · have c1_s : tk a_s = 38 := c1_s
    have hlv : lvl (tk a_s) = ((7 : Nat) : Int) - 6 := by rw [c1_s]; rfl
    have hlt : a_s < n_s := by
      by_cases e_s : a_s < n_s
      · exact e_s
      · exfalso
        rw [← p10] at c1_s
        unfold tkR at c1_s
        rw [if_neg (by omega)] at c1_s
        omega
    have fr1 : frR f_s f1_s := frR_16 b2
    refine i71 h_s _ tk nm n_s op_s (a_s + 1) f1_s hk (prR_fr fr1 hp (by rw [b2 102 18 (by omega)]; exact p1_s) b1 hlt (by rw [b2 102 19 (by omega)]; exact p6_s) p7_s) (fun v_s f2_s fr2 hr _ => ?_)
    obtain ⟨r_s, hq, hpo⟩ := hr
    match r_s, hq, hpo with
    | .inl e_s, hq, hpo =>
      have hpo : (f2_s 102 18).toInt = (e_s : Int) := hpo
      have tt : ∀ v_s, K_s v_s (h_s.1, f2_s, h_s.2.2.1, h_s.2.2.2) := fun v_s => t_s v_s f2_s (frR_tr fr1 fr2) ⟨.inl e_s, pP_sgF (by omega) hlv hq, hpo⟩
      exact ⟨fun _ => f70 hk (by omega) (tt 0), fun _ => ⟨fun _ => f70 hk (by omega) (tt 0), fun _ => f70 hk (by omega) (tt 1)⟩⟩
    | .inr p_s, hq, hpo =>
      obtain ⟨g1, g2, g3_s, g4, g5_s⟩ := hpo
      have go_s : ∀ (y_s : Int32) (l : Option Value), y_s = jnv x1_s 38 v_s → wF F_s 170 (5, [some (.ref 102), some (.int y_s), l], [], (h_s.1, f2_s, h_s.2.2.1, h_s.2.2.2)) (gI K_s) := fun y_s l hy => i70 h_s K_s tk nm n_s op_s p_s.1 y_s l f2_s (pjn z_s (tk a_s) p_s.2) hk (prR_fr (frR_tr fr1 fr2) hp g1 g2 g3_s g4 p7_s) (by rw [hy, hx, g5_s, c1_s]; rfl) (fun v1_s f3_s fr3 hr => by
        obtain ⟨r_s, hr1, hr2⟩ := hr
        exact t_s v1_s f3_s (frR_tr (frR_tr fr1 fr2) fr3) ⟨r_s, pP_sg (by omega) (by omega) hlv hq hr1, hr2⟩)
      have n124 : ¬ (38 : Int) = 124 := by decide
      refine ⟨fun e1_s => go_s 0 _ ?_, fun e1_s => ⟨fun e2_s => go_s 0 _ ?_, fun e2_s => go_s 1 _ ?_⟩⟩
      · unfold jnv
        rw [if_neg n124, if_pos rfl, if_pos (Or.inl (i0_ e1_s))]
      · unfold jnv
        rw [if_neg n124, if_pos rfl, if_pos (Or.inr (i0_ e2_s))]
      · unfold jnv
        rw [if_neg n124, if_pos rfl, if_neg (fun w_s => by
          rcases w_s with w_s | w_s
          · exact n0_ e1_s w_s
          · exact n0_ e2_s w_s)]
  · have c1_s : ¬ tk a_s = 38 := c1_s
    refine t_s x1_s f_s frR_rf ⟨.inr (a_s, z_s), pP_end (by omega) ?_, p1_s, p2_s, p3_s, p6_s, hx⟩
    have q9_s := lvl_in (tk a_s)
    omega
/-! THE REFERENCE READS A TEXT: comparisons, sums, products. -/
section RX
variable {F_s : Nat} {h_s : zH} {K_s : Int32 → zH → Prop} {f_s : Nat → Nat → Int32}
theorem sp_166x (hk : hKn h_s) (t_s : ∀ v_s, K_s v_s (h_s.1, f_s, h_s.2.2.1, h_s.2.2.2)) : wF F_s 166 (0, [some (.ref 102)], [], (h_s.1, f_s, h_s.2.2.1, h_s.2.2.2)) (gI K_s) := wF_le (Nat.le_succ F_s) (sg_166_0 (h_s := (h_s.1, f_s, h_s.2.2.1, h_s.2.2.2)) hk ⟨fun _ => ⟨fun _ => fun _ => t_s _, fun _ => fun _ => t_s _⟩, fun _ => t_s _⟩)
end RX
theorem prR_up {tk : Nat → Int} {nm : Nat → Int32} {n_s op_s a_s : Nat} {f_s : Nat → Nat → Int32} (hp : prR tk nm n_s op_s a_s f_s) (hl : a_s < n_s) : frR f_s (zup f_s 102 16 (f_s 102 16 + 1)) ∧ prR tk nm n_s op_s (a_s + 1) (zup f_s 102 16 (f_s 102 16 + 1)) := by
  obtain ⟨p1_s, p2_s, p3_s, p4_s, p5_s, p6_s, p7_s, p8_s⟩ := hp
  have fr_s : frR f_s (zup f_s 102 16 (f_s 102 16 + 1)) := frR_16 (fun o k_s hq => zne_up hq)
  refine ⟨fr_s, prR_fr fr_s ⟨p1_s, p2_s, p3_s, p4_s, p5_s, p6_s, p7_s, p8_s⟩ ?_ ?_ hl ?_ p7_s⟩
  · rw [zne_up (by omega)]
    exact p1_s
  · rw [zsame_up, in1_ (by omega)]
    omega
  · rw [zne_up (by omega)]
    exact p6_s
theorem prR_lt {tk : Nat → Int} {nm : Nat → Int32} {n_s op_s a_s : Nat} {f_s : Nat → Nat → Int32} (hp : prR tk nm n_s op_s a_s f_s) (hl : tk a_s ≠ -1) : a_s < n_s := by
  obtain ⟨p1_s, p2_s, p3_s, p4_s, p5_s, p6_s, p7_s, p8_s, p9_s, p10, p11⟩ := hp
  by_cases e_s : a_s < n_s
  · exact e_s
  · exfalso
    rw [← p10] at hl
    unfold tkR at hl
    rw [if_neg (by omega)] at hl
    exact hl rfl
theorem r71_s {F_s : Nat} (i72 : R72 F_s) : R71 (F_s + 1) := by
  intro h_s K_s tk nm n_s op_s a_s f_s hk hp t_s
  have hp7 := hp.2.2.2.2.2.2.1
  refine sg_171_0 (h_s := (h_s.1, f_s, h_s.2.2.1, h_s.2.2.2)) hk ?_
  refine i72 h_s _ tk nm n_s op_s a_s f_s hk hp (fun v1_s f1_s fr1 hr _ => ?_)
  obtain ⟨r_s, hq, hpo⟩ := hr
  match r_s, hq, hpo with
  | .inl e_s, hq, hpo =>
    have hpo : (f1_s 102 18).toInt = (e_s : Int) := hpo
    exact sp_166x hk (fun v2 _ => ⟨fun (c_s : (f1_s 102 18).toInt < 0) => absurd c_s (by omega), fun _ => t_s v1_s f1_s fr1 ⟨.inl e_s, pP_levF (by omega) hq, hpo⟩⟩)
  | .inr p_s, hq, hpo =>
    obtain ⟨g1, g2, g3_s, g4, g5_s⟩ := hpo
    have hp1 : prR tk nm n_s op_s p_s.1 f1_s := prR_fr fr1 hp g1 g2 g3_s g4 hp7
    have don : ¬ lvl (tk p_s.1) = 2 → K_s v1_s (h_s.1, f1_s, h_s.2.2.1, h_s.2.2.2) := fun w_s => t_s v1_s f1_s fr1 ⟨.inr p_s, pP_lev (by omega) hq (pP_end (by omega) (fun u_s => w_s u_s)), g1, g2, g3_s, g4, g5_s⟩
    have cmp_s : ∀ (s_s : Int) (C_s : Int32 → zH → Prop), tk p_s.1 = s_s → lvl s_s = 2 → (∀ v5 f2_s, K_s (jnv v1_s s_s v5) (h_s.1, f2_s, h_s.2.2.1, h_s.2.2.2) → C_s v5 (h_s.1, f2_s, h_s.2.2.1, h_s.2.2.2)) → wF F_s 172 (0, [some (.ref 102), none, none, none], [], (h_s.1, zup f1_s 102 16 (f1_s 102 16 + 1), h_s.2.2.1, h_s.2.2.2)) (gI (fun v5 h5 => hKn h5 → C_s v5 h5)) := by
      intro s_s C_s hs hl hC
      have hlt := prR_lt hp1 (fun w_s => by
        rw [← hs, w_s] at hl
        exact absurd hl (by decide))
      obtain ⟨fr2, hp2⟩ := prR_up hp1 hlt
      refine i72 h_s _ tk nm n_s op_s (p_s.1 + 1) (zup f1_s 102 16 (f1_s 102 16 + 1)) hk hp2 (fun v5 f3_s fr3 hr _ => hC v5 f3_s ?_)
      obtain ⟨r_s, hq2, hpo⟩ := hr
      match r_s, hq2, hpo with
      | .inl e_s, hq2, hpo => exact t_s _ f3_s (frR_tr (frR_tr fr1 fr2) fr3) ⟨.inl e_s, pP_lev (by omega) hq (pP_sgF (by omega) (by rw [hs, hl]; rfl) hq2), hpo⟩
      | .inr y_s, hq2, hpo =>
        obtain ⟨y1, y2, y3, y4, y5⟩ := hpo
        exact t_s _ f3_s (frR_tr (frR_tr fr1 fr2) fr3) ⟨.inr (y_s.1, pjn p_s.2 (tk p_s.1) y_s.2), pP_lev (by omega) hq (pP_sg8 (by rw [hs, hl]) hq2), y1, y2, y3, y4, by rw [hs, g5_s, y5]; rfl⟩
    refine sp_166 hk hp1 (fun v2 hv2 _ => ⟨fun _ => ⟨fun c_s => cmp_s 60 _ (by omega) rfl (fun v5 f2_s hK_s => ?_), fun c_s => ⟨fun c1_s => cmp_s 61 _ (by omega) rfl (fun v5 f2_s hK_s => ?_), fun c1_s => ⟨fun c2_s => cmp_s 62 _ (by omega) rfl (fun v5 f2_s hK_s => ?_), fun c2_s => don ?_⟩⟩⟩, fun (c_s : ¬ (f1_s 102 18).toInt < 0) => absurd g1 (by omega)⟩)
    · unfold jnv at hK_s
      rw [if_neg (by decide), if_neg (by decide), if_pos rfl] at hK_s
      refine ⟨fun e_s => ?_, fun e_s => ?_⟩
      · rw [if_pos e_s] at hK_s
        exact hK_s
      · rw [if_neg e_s] at hK_s
        exact hK_s
    · unfold jnv at hK_s
      rw [if_neg (by decide), if_neg (by decide), if_neg (by decide), if_pos rfl] at hK_s
      refine ⟨fun e_s => ?_, fun e_s => ?_⟩
      · rw [if_pos (Int32.toInt_inj.mp e_s)] at hK_s
        exact hK_s
      · rw [if_neg (fun w_s => e_s (by rw [w_s]))] at hK_s
        exact hK_s
    · unfold jnv at hK_s
      rw [if_neg (by decide), if_neg (by decide), if_neg (by decide), if_neg (by decide), if_pos rfl] at hK_s
      refine ⟨fun e_s => ?_, fun e_s => ?_⟩
      · rw [if_pos e_s] at hK_s
        exact hK_s
      · rw [if_neg e_s] at hK_s
        exact hK_s
    · have q9_s := lvl_in (tk p_s.1)
      omega
theorem l72_s {F_s : Nat} (i73 : R73 F_s) (i72 : RL3 F_s) : RL3 (F_s + 1) := by
  intro h_s K_s tk nm n_s op_s a_s x1_s l2 l3 f_s z_s hk hp hx t_s
  have hp1 := hp.1
  have hp2 := hp.2.1
  have hp3 := hp.2.2.1
  have hp6 := hp.2.2.2.2.2.1
  have hp7 := hp.2.2.2.2.2.2.1
  have sub_s : ∀ (s_s : Int) (g_s : Int32 → Int32) (l : Option Value), tk a_s = s_s → lvl s_s = 3 → (∀ w_s, g_s w_s = jnv x1_s s_s w_s) → wF F_s 173 (0, [some (.ref 102), none, none, none], [], (h_s.1, zup f_s 102 16 (f_s 102 16 + 1), h_s.2.2.1, h_s.2.2.2)) (gI (fun v6 h6 => hKn h6 → wF F_s 172 (5, [some (.ref 102), some (.int (g_s v6)), l, some (.int v6)], [], h6) (gI K_s))) := by
    intro s_s g_s l hs hl hg
    have hlv : lvl (tk a_s) = ((9 : Nat) : Int) - 6 := by rw [hs, hl]; rfl
    have hlt := prR_lt hp (fun w_s => by
      rw [← hs, w_s] at hl
      exact absurd hl (by decide))
    obtain ⟨fr1, hq1⟩ := prR_up hp hlt
    refine i73 h_s _ tk nm n_s op_s (a_s + 1) (zup f_s 102 16 (f_s 102 16 + 1)) hk hq1 (fun v6 f2_s fr2 hr _ => ?_)
    obtain ⟨r_s, hq, hpo⟩ := hr
    match r_s, hq, hpo with
    | .inl e_s, hq, hpo =>
      have hpo : (f2_s 102 18).toInt = (e_s : Int) := hpo
      exact f72 hk (by omega) (t_s _ f2_s (frR_tr fr1 fr2) ⟨.inl e_s, pP_sgF (by omega) hlv hq, hpo⟩)
    | .inr p_s, hq, hpo =>
      obtain ⟨g1, g2, g3_s, g4, g5_s⟩ := hpo
      refine i72 h_s K_s tk nm n_s op_s p_s.1 (g_s v6) l _ f2_s (pjn z_s (tk a_s) p_s.2) hk (prR_fr (frR_tr fr1 fr2) hp g1 g2 g3_s g4 hp7) (by rw [hg, hx, g5_s, hs]; rfl) (fun v1_s f3_s fr3 hr => ?_)
      obtain ⟨r_s, hr1, hr2⟩ := hr
      exact t_s v1_s f3_s (frR_tr (frR_tr fr1 fr2) fr3) ⟨r_s, pP_sg (by omega) (by omega) hlv hq hr1, hr2⟩
  have pl : ∀ w_s, x1_s + w_s = jnv x1_s 43 w_s := fun w_s => by
    unfold jnv
    rw [if_neg (by decide), if_neg (by decide), if_neg (by decide), if_neg (by decide), if_neg (by decide), if_pos rfl]
  have mi_ : ∀ w_s, x1_s - w_s = jnv x1_s 45 w_s := fun w_s => by
    unfold jnv
    rw [if_neg (by decide), if_neg (by decide), if_neg (by decide), if_neg (by decide), if_neg (by decide), if_neg (by decide), if_pos rfl]
  refine sg_172_5 (h_s := (h_s.1, f_s, h_s.2.2.1, h_s.2.2.2)) hk ⟨fun _ => ?_, fun (c_s : ¬ (f_s 102 18).toInt < 0) => absurd hp1 (by omega)⟩
  refine sp_166 hk hp (fun v2 hv2 _ => ⟨fun c1_s => ?_, fun c1_s => ?_⟩)
  · refine sp_166 hk hp (fun v4_s hv4 _ => ⟨fun c2_s => ?_, fun c2_s => absurd c2_s (by omega)⟩)
    exact sub_s 43 (fun w_s => x1_s + w_s) _ (by omega) rfl pl
  · refine sp_166 hk hp (fun v8 hv8 _ => ⟨fun c2_s => ?_, fun c2_s => ?_⟩)
    · refine sp_166 hk hp (fun v9 hv9 _ => ⟨fun c3_s => absurd c3_s (by omega), fun c3_s => ?_⟩)
      exact sub_s 45 (fun w_s => x1_s - w_s) _ (by omega) rfl mi_
    · refine t_s x1_s f_s frR_rf ⟨.inr (a_s, z_s), pP_end (by omega) ?_, hp1, hp2, hp3, hp6, hx⟩
      have q9_s := lvl_in (tk a_s)
      omega
theorem l73_s {F_s : Nat} (i75 : R75 F_s) (i73 : RL4 F_s) : RL4 (F_s + 1) := by
  intro h_s K_s tk nm n_s op_s a_s x1_s x2_s l3 f_s z_s hk hp hx hx2 t_s
  have hp1 := hp.1
  have hp2 := hp.2.1
  have hp3 := hp.2.2.1
  have hp6 := hp.2.2.2.2.2.1
  have hp7 := hp.2.2.2.2.2.2.1
  have sub_s : ∀ (s_s : Int) (C_s : Int32 → zH → Prop), tk a_s = s_s → lvl s_s = 4 → (∀ v3 f2_s, (∀ y_s, y_s = jnv x1_s s_s v3 → wF F_s 166 (0, [some (.ref 102)], [], (h_s.1, f2_s, h_s.2.2.1, h_s.2.2.2)) (gI (fun v5 h5 => hKn h5 → wF F_s 173 (10, [some (.ref 102), some (.int y_s), some (.int v5), some (.int v3)], [], h5) (gI K_s)))) → C_s v3 (h_s.1, f2_s, h_s.2.2.1, h_s.2.2.2)) → wF F_s 175 (0, [some (.ref 102), none, none, none, none], [], (h_s.1, zup f_s 102 16 (f_s 102 16 + 1), h_s.2.2.1, h_s.2.2.2)) (gI (fun v3 h3 => hKn h3 → C_s v3 h3)) := by
    intro s_s C_s hs hl hC
    have hlv : lvl (tk a_s) = ((10 : Nat) : Int) - 6 := by rw [hs, hl]; rfl
    have hlt := prR_lt hp (fun w_s => by
      rw [← hs, w_s] at hl
      exact absurd hl (by decide))
    obtain ⟨fr1, hq1⟩ := prR_up hp hlt
    refine i75 h_s _ tk nm n_s op_s (a_s + 1) (zup f_s 102 16 (f_s 102 16 + 1)) hk hq1 (fun v3 f2_s fr2 hr _ => hC v3 f2_s (fun y_s hy => ?_))
    obtain ⟨r_s, hq, hpo⟩ := hr
    match r_s, hq, hpo with
    | .inl e_s, hq, hpo =>
      have hpo : (f2_s 102 18).toInt = (e_s : Int) := hpo
      exact sp_166x hk (fun v5 _ => f73 hk (by omega) (t_s _ f2_s (frR_tr fr1 fr2) ⟨.inl e_s, pP_sgF (by omega) hlv hq, hpo⟩))
    | .inr p_s, hq, hpo =>
      obtain ⟨g1, g2, g3_s, g4, g5_s⟩ := hpo
      have hq2 : prR tk nm n_s op_s p_s.1 f2_s := prR_fr (frR_tr fr1 fr2) hp g1 g2 g3_s g4 hp7
      refine sp_166 hk hq2 (fun v5 hv5 _ => ?_)
      refine i73 h_s K_s tk nm n_s op_s p_s.1 y_s v5 _ f2_s (pjn z_s (tk a_s) p_s.2) hk hq2 (by rw [hy, hx, g5_s, hs]; rfl) hv5 (fun v1_s f3_s fr3 hr => ?_)
      obtain ⟨r_s, hr1, hr2⟩ := hr
      exact t_s v1_s f3_s (frR_tr (frR_tr fr1 fr2) fr3) ⟨r_s, pP_sg (by omega) (by omega) hlv hq hr1, hr2⟩
  refine sg_173_10 (h_s := (h_s.1, f_s, h_s.2.2.1, h_s.2.2.2)) hk ⟨fun _ => ⟨fun c1_s => sub_s 42 _ (by omega) rfl (fun v3 f2_s go_s => go_s _ ?_), fun c1_s => ⟨fun c2_s => sub_s 47 _ (by omega) rfl (fun v3 f2_s go_s => ⟨fun e_s => go_s _ ?_, fun e_s => go_s _ ?_⟩), fun c2_s => ⟨fun c3_s => sub_s 37 _ (by omega) rfl (fun v3 f2_s go_s => ⟨fun e_s => go_s _ ?_, fun e_s => go_s _ ?_⟩), fun c3_s => ?_⟩⟩⟩, fun (c_s : ¬ (f_s 102 18).toInt < 0) => absurd hp1 (by omega)⟩
  · unfold jnv
    rw [if_neg (by decide), if_neg (by decide), if_neg (by decide), if_neg (by decide), if_neg (by decide), if_neg (by decide), if_neg (by decide), if_pos rfl]
  · unfold jnv
    rw [if_neg (by decide), if_neg (by decide), if_neg (by decide), if_neg (by decide), if_neg (by decide), if_neg (by decide), if_neg (by decide), if_neg (by decide), if_pos rfl, if_pos (i0_ e_s)]
  · unfold jnv
    rw [if_neg (by decide), if_neg (by decide), if_neg (by decide), if_neg (by decide), if_neg (by decide), if_neg (by decide), if_neg (by decide), if_neg (by decide), if_pos rfl, if_neg (n0_ e_s)]
  · unfold jnv
    rw [if_neg (by decide), if_neg (by decide), if_neg (by decide), if_neg (by decide), if_neg (by decide), if_neg (by decide), if_neg (by decide), if_neg (by decide), if_neg (by decide), if_pos rfl, if_pos (i0_ e_s)]
  · unfold jnv
    rw [if_neg (by decide), if_neg (by decide), if_neg (by decide), if_neg (by decide), if_neg (by decide), if_neg (by decide), if_neg (by decide), if_neg (by decide), if_neg (by decide), if_pos rfl, if_neg (n0_ e_s)]
  · refine t_s x1_s f_s frR_rf ⟨.inr (a_s, z_s), pP_end (by omega) ?_, hp1, hp2, hp3, hp6, hx⟩
    have q9_s := lvl_in (tk a_s)
    omega
theorem r69_s {F_s : Nat} (i70 : R70 F_s) (i69 : RL1 169 6 F_s) : R69 (F_s + 1) := by
  intro h_s K_s tk nm n_s op_s a_s f_s hk hp t_s
  refine sg_169_0 (h_s := (h_s.1, f_s, h_s.2.2.1, h_s.2.2.2)) hk ?_
  refine i70 h_s _ tk nm n_s op_s a_s f_s hk hp (fun v1_s f1_s fr1 hr _ => ?_)
  obtain ⟨r_s, hq, hpo⟩ := hr
  match r_s, hq, hpo with
  | .inl e_s, hq, hpo =>
    have hpo : (f1_s 102 18).toInt = (e_s : Int) := hpo
    exact f69 hk (by omega) (t_s v1_s f1_s fr1 ⟨.inl e_s, pP_levF (by omega) hq, hpo⟩)
  | .inr p_s, hq, hpo =>
    obtain ⟨g1, g2, g3_s, g4, g5_s⟩ := hpo
    refine i69 h_s K_s tk nm n_s op_s p_s.1 v1_s none f1_s p_s.2 hk (prR_fr fr1 hp g1 g2 g3_s g4 hp.2.2.2.2.2.2.1) g5_s (fun v2 f2_s fr2 hr => ?_)
    obtain ⟨r_s, hr1, hr2⟩ := hr
    exact t_s v2 f2_s (frR_tr fr1 fr2) ⟨r_s, pP_lev (by omega) hq hr1, hr2⟩
theorem r70_s {F_s : Nat} (i71 : R71 F_s) (i70 : RL1 170 7 F_s) : R70 (F_s + 1) := by
  intro h_s K_s tk nm n_s op_s a_s f_s hk hp t_s
  refine sg_170_0 (h_s := (h_s.1, f_s, h_s.2.2.1, h_s.2.2.2)) hk ?_
  refine i71 h_s _ tk nm n_s op_s a_s f_s hk hp (fun v1_s f1_s fr1 hr _ => ?_)
  obtain ⟨r_s, hq, hpo⟩ := hr
  match r_s, hq, hpo with
  | .inl e_s, hq, hpo =>
    have hpo : (f1_s 102 18).toInt = (e_s : Int) := hpo
    exact f70 hk (by omega) (t_s v1_s f1_s fr1 ⟨.inl e_s, pP_levF (by omega) hq, hpo⟩)
  | .inr p_s, hq, hpo =>
    obtain ⟨g1, g2, g3_s, g4, g5_s⟩ := hpo
    refine i70 h_s K_s tk nm n_s op_s p_s.1 v1_s none f1_s p_s.2 hk (prR_fr fr1 hp g1 g2 g3_s g4 hp.2.2.2.2.2.2.1) g5_s (fun v2 f2_s fr2 hr => ?_)
    obtain ⟨r_s, hr1, hr2⟩ := hr
    exact t_s v2 f2_s (frR_tr fr1 fr2) ⟨r_s, pP_lev (by omega) hq hr1, hr2⟩
theorem r72_s {F_s : Nat} (i73 : R73 F_s) (i72 : RL3 F_s) : R72 (F_s + 1) := by
  intro h_s K_s tk nm n_s op_s a_s f_s hk hp t_s
  refine sg_172_0 (h_s := (h_s.1, f_s, h_s.2.2.1, h_s.2.2.2)) hk ?_
  refine i73 h_s _ tk nm n_s op_s a_s f_s hk hp (fun v1_s f1_s fr1 hr _ => ?_)
  obtain ⟨r_s, hq, hpo⟩ := hr
  match r_s, hq, hpo with
  | .inl e_s, hq, hpo =>
    have hpo : (f1_s 102 18).toInt = (e_s : Int) := hpo
    exact f72 hk (by omega) (t_s v1_s f1_s fr1 ⟨.inl e_s, pP_levF (by omega) hq, hpo⟩)
  | .inr p_s, hq, hpo =>
    obtain ⟨g1, g2, g3_s, g4, g5_s⟩ := hpo
    refine i72 h_s K_s tk nm n_s op_s p_s.1 v1_s none none f1_s p_s.2 hk (prR_fr fr1 hp g1 g2 g3_s g4 hp.2.2.2.2.2.2.1) g5_s (fun v2 f2_s fr2 hr => ?_)
    obtain ⟨r_s, hr1, hr2⟩ := hr
    exact t_s v2 f2_s (frR_tr fr1 fr2) ⟨r_s, pP_lev (by omega) hq hr1, hr2⟩
theorem r73_s {F_s : Nat} (i75 : R75 F_s) (i73 : RL4 F_s) : R73 (F_s + 1) := by
  intro h_s K_s tk nm n_s op_s a_s f_s hk hp t_s
  refine sg_173_0 (h_s := (h_s.1, f_s, h_s.2.2.1, h_s.2.2.2)) hk ?_
  refine i75 h_s _ tk nm n_s op_s a_s f_s hk hp (fun v1_s f1_s fr1 hr _ => ?_)
  obtain ⟨r_s, hq, hpo⟩ := hr
  match r_s, hq, hpo with
  | .inl e_s, hq, hpo =>
    have hpo : (f1_s 102 18).toInt = (e_s : Int) := hpo
    exact sp_166x hk (fun v2 _ => f73 hk (by omega) (t_s v1_s f1_s fr1 ⟨.inl e_s, pP_levF (by omega) hq, hpo⟩))
  | .inr p_s, hq, hpo =>
    obtain ⟨g1, g2, g3_s, g4, g5_s⟩ := hpo
    have hp1 : prR tk nm n_s op_s p_s.1 f1_s := prR_fr fr1 hp g1 g2 g3_s g4 hp.2.2.2.2.2.2.1
    refine sp_166 hk hp1 (fun v2 hv2 _ => ?_)
    refine i73 h_s K_s tk nm n_s op_s p_s.1 v1_s v2 none f1_s p_s.2 hk hp1 g5_s hv2 (fun v3 f2_s fr2 hr => ?_)
    obtain ⟨r_s, hr1, hr2⟩ := hr
    exact t_s v3 f2_s (frR_tr fr1 fr2) ⟨r_s, pP_lev (by omega) hq hr1, hr2⟩
/-! THE REFERENCE READS A TEXT: operands; lines. -/
theorem num75 {h_s : zH} {K_s : Int32 → zH → Prop} {tk : Nat → Int} {nm : Nat → Int32} {n_s op_s a1_s : Nat} {v1_s x1_s x2_s : Int32} {f0_s : Nat → Nat → Int32} (hk : hKn h_s) (t_s : ∀ f1_s, frR f0_s f1_s → (f1_s 102 18).toInt = -1 → (f1_s 102 16).toInt = (a1_s : Int) → a1_s ≤ n_s → (f1_s 102 19).toInt = (op_s : Int) → K_s v1_s (h_s.1, f1_s, h_s.2.2.1, h_s.2.2.2)) : ∀ (F_s k_s a_s : Nat) (v_s x4_s : Int32) (f_s : Nat → Nat → Int32), x4_s.toInt = (k_s : Int) → k_s ≤ 4 → prR tk nm n_s op_s a_s f_s → frR f0_s f_s → (0 < k_s ∨ (48 ≤ tk a_s ∧ tk a_s ≤ 57)) → pdg tk (4 - k_s) a_s v_s = (a1_s, v1_s) → wF F_s 175 (176, [some (.ref 102), some (.int x1_s), some (.int x2_s), some (.int v_s), some (.int x4_s)], [], (h_s.1, f_s, h_s.2.2.1, h_s.2.2.2)) (gI K_s)
  | 0, _, _, _, _, _, _, _, _, _, _, _ => wF_zero
  | F_s + 1, k_s, a_s, v_s, x4_s, f_s, hx, h4, hp, hf, hd_s, hq => by
    have don : (a_s, v_s) = (a1_s, v1_s) → K_s v_s (h_s.1, f_s, h_s.2.2.1, h_s.2.2.2) := fun w_s => by
      cases w_s
      exact t_s f_s hf hp.1 hp.2.1 hp.2.2.1 hp.2.2.2.2.2.1
    refine sg_175_176 (h_s := (h_s.1, f_s, h_s.2.2.1, h_s.2.2.2)) hk ⟨fun c1_s => ?_, fun c1_s => ⟨fun c2_s => absurd c2_s (by omega), fun c2_s => ?_⟩⟩
    · have e4_s : 4 - k_s = (4 - (k_s + 1)) + 1 := by omega
      rw [e4_s] at hq
      unfold pdg at hq
      refine sp_166 hk hp (fun v2 hv2 _ => ⟨fun c_s => ⟨fun c2_s => ?_, fun c2_s => ?_⟩, fun c_s => ?_⟩)
      · omega
      · rw [if_neg (by omega)] at hq
        exact don hq
      · refine sp_166 hk hp (fun v6 hv6 _ => ⟨fun c3_s => ⟨fun c2_s => ?_, fun c2_s => ?_⟩, fun c3_s => ?_⟩)
        · omega
        · rw [if_neg (by omega)] at hq
          exact don hq
        · refine sp_166 hk hp (fun v10 hv10 _ => ?_)
          have hdg : 48 ≤ tk a_s ∧ tk a_s ≤ 57 := by omega
          rw [if_pos hdg] at hq
          have hlt := prR_lt hp (by omega)
          obtain ⟨fr1, hp1⟩ := prR_up hp hlt
          refine num75 hk t_s F_s (k_s + 1) (a_s + 1) _ (x4_s + 1) _ ?_ (by omega) hp1 (frR_tr hf fr1) (by omega) ?_
          · rw [in1_ (by omega)]
            omega
          · have e7_s : v10.toInt = tk a_s := by omega
            rw [ofI_ e7_s, Int32.mul_comm] at hq
            exact hq
    · have e4_s : 4 - k_s = 0 := by omega
      rw [e4_s] at hq
      exact don hq
theorem nd75 {F_s : Nat} {h_s : zH} {K_s : Int32 → zH → Prop} {tk : Nat → Int} {nm : Nat → Int32} {n_s op_s a_s : Nat} {x1_s x2_s v_s : Int32} {f_s : Nat → Nat → Int32} (hk : hKn h_s) (hp : prR tk nm n_s op_s a_s f_s) (hd_s : ¬ (48 ≤ tk a_s ∧ tk a_s ≤ 57)) (t_s : ∀ f1_s, frR f_s f1_s → (f1_s 102 18).toInt = (a_s : Int) → K_s 0 (h_s.1, f1_s, h_s.2.2.1, h_s.2.2.2)) : wF F_s 175 (176, [some (.ref 102), some (.int x1_s), some (.int x2_s), some (.int v_s), some (.int 0)], [], (h_s.1, f_s, h_s.2.2.1, h_s.2.2.2)) (gI K_s) := by
  have hp1 := hp.1
  have hp2 := hp.2.1
  have wr_s : wF F_s 167 (0, [some (.ref 102)], [], (h_s.1, f_s, h_s.2.2.1, h_s.2.2.2)) (gI (fun v5 h5 => hKn h5 → K_s v5 h5)) := sp_167 hk (fun _ f1_s b1 b2 _ => t_s f1_s (fun o k_s hq => b2 o k_s (by omega)) (by rw [b1]; exact hp2)) (fun c_s => absurd c_s (by omega))
  refine wF_le (Nat.le_succ F_s) (sg_175_176 (h_s := (h_s.1, f_s, h_s.2.2.1, h_s.2.2.2)) hk ⟨fun c1_s => ?_, fun c1_s => absurd c1_s (by decide)⟩)
  refine sp_166 hk hp (fun v2 hv2 _ => ⟨fun c_s => ⟨fun c2_s => wr_s, fun c2_s => absurd rfl c2_s⟩, fun c_s => ?_⟩)
  refine sp_166 hk hp (fun v6 hv6 _ => ⟨fun c3_s => ⟨fun c2_s => wr_s, fun c2_s => absurd rfl c2_s⟩, fun c3_s => ?_⟩)
  omega
theorem r75_s {F_s : Nat} (i69 : R69 F_s) (i75 : R75 F_s) : R75 (F_s + 1) := by
  intro h_s K_s tk nm n_s op_s a_s f_s hk hp t_s
  have hp1 := hp.1
  have hp2 := hp.2.1
  have hp3 := hp.2.2.1
  have hp5 := hp.2.2.2.2.1
  have hp6 := hp.2.2.2.2.2.1
  have hp7 := hp.2.2.2.2.2.2.1
  have hp9 := hp.2.2.2.2.2.2.2.2.1
  have hp11 := hp.2.2.2.2.2.2.2.2.2.2
  have tout : ∀ k_s, n_s ≤ k_s → tk k_s = -1 := fun k_s hq => by
    rw [← hp.2.2.2.2.2.2.2.2.2.1]
    unfold tkR
    rw [if_neg (by have := hp.2.2.2.1; omega)]
  have flt_s : (¬ (48 ≤ tk a_s ∧ tk a_s ≤ 57)) → ¬ 0 ≤ nmo (tk a_s) → (¬ (tk a_s = 40 ∨ tk a_s = 33 ∨ tk a_s = 45) ∨ 6 ≤ op_s) → ∀ v_s f1_s, frR f_s f1_s → (f1_s 102 18).toInt = (a_s : Int) → K_s v_s (h_s.1, f1_s, h_s.2.2.1, h_s.2.2.2) := fun c1_s c2_s c3_s v_s f1_s fr1 e_s => t_s v_s f1_s fr1 ⟨.inl a_s, pP_bad c1_s c2_s c3_s, e_s⟩
  have at32 : ∀ x1_s : Int32, x1_s.toInt = tk a_s → (tk a_s = 40 ∨ tk a_s = 33 ∨ tk a_s = 45) → wF F_s 175 (32, [some (.ref 102), some (.int x1_s), none, none, none], [], (h_s.1, f_s, h_s.2.2.1, h_s.2.2.2)) (gI K_s) := by
    intro x1_s hx hs
    have hnm : ¬ 0 ≤ nmo (tk a_s) := by
      rcases hs with e_s | e_s | e_s
      · rw [e_s]
        decide
      · rw [e_s]
        decide
      · rw [e_s]
        decide
    have hlt := prR_lt hp (by omega)
    refine wF_le (Nat.le_succ F_s) (sg_175_32 (h_s := (h_s.1, f_s, h_s.2.2.1, h_s.2.2.2)) hk ⟨fun (c_s : (f_s 102 19).toInt = 6) => ?_, fun (c_s : ¬ (f_s 102 19).toInt = 6) => ?_⟩)
    · exact sp_167 hk (fun _ f1_s b1 b2 _ => flt_s (by omega) hnm (by omega) 0 f1_s (fun o k_s hq => b2 o k_s (by omega)) (by rw [b1]; exact hp2)) (fun c_s => absurd c_s (by omega))
    · have ho6 : op_s < 6 := by omega
      have fr1 : frR f_s (zup (zup f_s 102 19 (f_s 102 19 + 1)) 102 16 (f_s 102 16 + 1)) := fun o k_s hq => by rw [zne_up (by omega), zne_up (by omega)]
      have hq1 : prR tk nm n_s (op_s + 1) (a_s + 1) (zup (zup f_s 102 19 (f_s 102 19 + 1)) 102 16 (f_s 102 16 + 1)) := by
        refine prR_fr fr1 hp ?_ ?_ hlt ?_ (by omega)
        · rw [zne_up (by omega), zne_up (by omega)]
          exact hp1
        · rw [zsame_up, in1_ (by omega)]
          omega
        · rw [zne_up (by omega), zsame_up, in1_ (by omega)]
          omega
      have dn : ∀ (f2_s : Nat → Nat → Int32), (f2_s 102 19).toInt = ((op_s + 1 : Nat) : Int) → (zup f2_s 102 19 (f2_s 102 19 - 1) 102 19).toInt = (op_s : Int) := fun f2_s e_s => by
        rw [zsame_up, na_sub (by rw [n1_]; omega) (by rw [n1_]; omega), n1_]
        omega
      refine ⟨fun e40 => ?_, fun e40 => ?_⟩
      · have h40 : tk a_s = 40 := by omega
        refine i69 h_s _ tk nm n_s (op_s + 1) (a_s + 1) _ hk hq1 (fun v4_s f2_s fr2 hr _ => ?_)
        obtain ⟨r_s, hq, hpo⟩ := hr
        match r_s, hq, hpo with
        | .inl e_s, hq, hpo =>
          have hpo : (f2_s 102 18).toInt = (e_s : Int) := hpo
          refine sp_168F hk (by omega) (fun _ => ⟨fun _ => ?_, fun w_s => absurd rfl w_s⟩)
          refine sp_167 hk (fun c_s => absurd c_s (by omega)) (fun _ f3_s b3 _ => t_s 0 f3_s (fun o k_s hq => ?_) ⟨.inl e_s, pP_parF h40 ho6 hq, ?_⟩)
          · rw [b3]
            exact frR_tr fr1 fr2 o k_s hq
          · show (f3_s 102 18).toInt = _
            rw [b3]
            exact hpo
        | .inr p_s, hq, hpo =>
          obtain ⟨g1, g2, g3_s, g4, g5_s⟩ := hpo
          have hq2 : prR tk nm n_s (op_s + 1) p_s.1 f2_s := prR_fr (frR_tr fr1 fr2) hp g1 g2 g3_s g4 (by omega)
          refine sp_168 (x1_s := 41) hk hq2 (by decide) (fun c9_s f3_s b1 b2 _ => ⟨fun w_s => absurd w_s (by decide), fun _ => ?_⟩) (fun c9_s _ => ⟨fun _ => ?_, fun w_s => absurd rfl w_s⟩)
          · have c9_s : tk p_s.1 = 41 := c9_s
            have hl2 := prR_lt hq2 (by omega)
            refine t_s v4_s (zup f3_s 102 19 (f3_s 102 19 - 1)) (fun o k_s hq => ?_) ⟨.inr (p_s.1 + 1, p_s.2), pP_par h40 ho6 hq c9_s, ?_, ?_, hl2, ?_, g5_s⟩
            · rw [zne_up (by omega), b2 o k_s (by omega)]
              exact frR_tr fr1 fr2 o k_s hq
            · rw [zne_up (by omega), b2 _ _ (by omega)]
              exact g1
            · rw [zne_up (by omega)]
              exact b1
            · exact dn f3_s (by rw [b2 _ _ (by omega)]; exact g4)
          · have c9_s : ¬ tk p_s.1 = 41 := c9_s
            exact sp_167 hk (fun _ f3_s b1 b2 _ => t_s 0 f3_s (fun o k_s hq => (b2 o k_s (by omega)).trans (frR_tr fr1 fr2 o k_s hq)) ⟨.inl p_s.1, pP_parN h40 ho6 hq c9_s, by
              show (f3_s 102 18).toInt = _
              rw [b1]
              exact g2⟩) (fun c_s => absurd c_s (by omega))
      · have h33 : tk a_s = 33 ∨ tk a_s = 45 := by omega
        refine i75 h_s _ tk nm n_s (op_s + 1) (a_s + 1) _ hk hq1 (fun v10 f2_s fr2 hr _ => ?_)
        obtain ⟨r_s, hq, hpo⟩ := hr
        have fr3 : frR f_s (zup f2_s 102 19 (f2_s 102 19 - 1)) := fun o k_s hq => by
          rw [zne_up (by omega)]
          exact frR_tr fr1 fr2 o k_s hq
        match r_s, hq, hpo with
        | .inl e_s, hq, hpo =>
          have hpo : (f2_s 102 18).toInt = (e_s : Int) := hpo
          have tt : ∀ v_s, K_s v_s (h_s.1, zup f2_s 102 19 (f2_s 102 19 - 1), h_s.2.2.1, h_s.2.2.2) := fun v_s => t_s v_s _ fr3 ⟨.inl e_s, pP_unF h33 ho6 hq, by
            show (zup f2_s 102 19 (f2_s 102 19 - 1) 102 18).toInt = _
            rw [zne_up (by omega)]
            exact hpo⟩
          exact ⟨fun _ => tt _, fun _ => ⟨fun _ => tt _, fun _ => tt _⟩⟩
        | .inr p_s, hq, hpo =>
          obtain ⟨g1, g2, g3_s, g4, g5_s⟩ := hpo
          have tt : ∀ v_s, v_s = (pun (tk a_s) p_s.2).2.1 nm → K_s v_s (h_s.1, zup f2_s 102 19 (f2_s 102 19 - 1), h_s.2.2.1, h_s.2.2.2) := fun v_s hv => t_s v_s _ fr3 ⟨.inr (p_s.1, pun (tk a_s) p_s.2), pP_un h33 ho6 hq, by
              rw [zne_up (by omega)]
              exact g1, by
              rw [zne_up (by omega)]
              exact g2, g3_s, dn f2_s g4, hv⟩
          refine ⟨fun e_s => tt _ ?_, fun e_s => ⟨fun e1_s => tt _ ?_, fun e1_s => tt _ ?_⟩⟩
          · show -v10 = (if tk a_s = 33 then (if p_s.2.2.1 nm = 0 then (1 : Int32) else 0) else -(p_s.2.2.1 nm))
            rw [if_neg (by omega), g5_s]
          · show (1 : Int32) = (if tk a_s = 33 then (if p_s.2.2.1 nm = 0 then (1 : Int32) else 0) else -(p_s.2.2.1 nm))
            rw [if_pos (by omega), ← g5_s, if_pos (i0_ e1_s)]
          · show (0 : Int32) = (if tk a_s = 33 then (if p_s.2.2.1 nm = 0 then (1 : Int32) else 0) else -(p_s.2.2.1 nm))
            rw [if_pos (by omega), ← g5_s, if_neg (n0_ e1_s)]
  refine sg_175_0 (h_s := (h_s.1, f_s, h_s.2.2.1, h_s.2.2.2)) hk ⟨fun _ => ?_, fun (c_s : ¬ (f_s 102 18).toInt < 0) => absurd hp1 (by omega)⟩
  refine sp_166 hk hp (fun v2 hv2 _ => ⟨fun c1_s => at32 v2 (by omega) (by omega), fun c1_s => ⟨fun c2_s => at32 v2 (by omega) (by omega), fun c2_s => ⟨fun c3_s => at32 v2 (by omega) (by omega), fun c3_s => ?_⟩⟩⟩)
  have n3_s : ¬ (tk a_s = 40 ∨ tk a_s = 33 ∨ tk a_s = 45) := by omega
  have nme : nmo v2.toInt = nmo (tk a_s) := by
    rcases hv2 with ⟨e1_s, e2_s⟩ | ⟨e1_s, e2_s⟩
    · rw [e1_s, e2_s]
      rfl
    · rw [e2_s]
  refine sp_174 (h_s := (h_s.1, f_s, h_s.2.2.1, h_s.2.2.2)) hk (fun v6 hv6 _ => ⟨fun e_s => ?_, fun e_s => fun e6_s => ?_⟩)
  · have hn0 : ¬ 0 ≤ nmo (tk a_s) := by
      rw [← nme, ← hv6]
      omega
    by_cases hd_s : 48 ≤ tk a_s ∧ tk a_s ≤ 57
    · refine num75 (f0_s := f_s) (a1_s := (pdg tk 4 a_s 0).1) (v1_s := (pdg tk 4 a_s 0).2) hk (fun f1_s fr1 b1 b2 b3 b4 => t_s _ f1_s fr1 ⟨_, pP_num hd_s, b1, b2, b3, b4, rfl⟩) F_s 0 a_s 0 0 f_s rfl (by omega) hp frR_rf (Or.inr hd_s) rfl
    · exact nd75 hk hp hd_s (fun f1_s fr1 b1 => flt_s hd_s hn0 (Or.inl n3_s) 0 f1_s fr1 b1)
  · have hn0 : 0 ≤ nmo (tk a_s) := by
      rw [← nme, ← hv6]
      omega
    have hd_s : ¬ (48 ≤ tk a_s ∧ tk a_s ≤ 57) := fun w_s => by
      have hb_s : nmo (tk a_s) = -1 := by
        unfold nmo
        rw [if_neg (by omega), if_neg (by omega), if_neg (by omega), if_neg (by omega), if_neg (by omega), if_neg (by omega)]
      omega
    have hlt := prR_lt hp (fun w_s => by
      rw [w_s] at hn0
      exact absurd hn0 (by decide))
    obtain ⟨fr1, q1_s⟩ := prR_up hp hlt
    have zz := azix (i := v6) (by omega)
    have ez : zix v6 = (nmo (tk a_s)).toNat := by
      have : v6.toInt = nmo (tk a_s) := by rw [hv6, nme]
      omega
    refine t_s _ _ fr1 ⟨_, pP_nam hd_s hn0, q1_s.1, q1_s.2.1, q1_s.2.2.1, q1_s.2.2.2.2.2.1, ?_⟩
    show f_s 111 (zix v6) = nm (nmo (tk a_s)).toNat
    rw [ez]
    exact hp11 _
theorem rpar : ∀ F_s, (R69 F_s ∧ R70 F_s ∧ R71 F_s) ∧ (R72 F_s ∧ R73 F_s ∧ R75 F_s) ∧ (RL1 169 6 F_s ∧ RL1 170 7 F_s) ∧ RL3 F_s ∧ RL4 F_s
  | 0 => by
    refine ⟨⟨?_, ?_, ?_⟩, ⟨?_, ?_, ?_⟩, ⟨?_, ?_⟩, ?_, ?_⟩ <;> (intro _ _ _ _ _ _ _; intros; exact wF_zero)
  | F_s + 1 => by
    obtain ⟨⟨i1_s, i2_s, i3_s⟩, ⟨i4_s, i5_s, i6_s⟩, ⟨i7_s, i8_s⟩, i9_s, i10_s⟩ := rpar F_s
    exact ⟨⟨r69_s i2_s i7_s, r70_s i3_s i8_s, r71_s i4_s⟩, ⟨r72_s i5_s i9_s, r73_s i6_s i10_s, r75_s i1_s i6_s⟩, ⟨l69_s i2_s i7_s, l70_s i3_s i8_s⟩, l72_s i5_s i9_s, l73_s i6_s i10_s⟩
/-! THE REFERENCE WORKS A TEXT OUT. -/
def gvL (nm : Nat → Int32) : List pB → Option Int32
  | [] => none
  | l :: r_s => (match l.1 with
    | none => some (l.2.2.1 nm)
    | some y_s => if y_s.2.1 nm = 0 then gvL nm r_s else some (l.2.2.1 nm))
def gvo (g_s g1 : Option Int32) : Option Int32 := match g_s with
  | some v_s => some v_s
  | none => g1
theorem gvL_end (nm : Nat → Int32) : ∀ (l : List pB) (p_s : pB), gvL nm (l ++ [p_s]) = gvo (gvL nm l) (gvL nm [p_s])
  | [], p_s => rfl
  | a_s :: l, p_s => by
    have ih_s := gvL_end nm l p_s
    obtain ⟨o, b_s⟩ := a_s
    cases o with
    | none => rfl
    | some y_s =>
      show (if y_s.2.1 nm = 0 then gvL nm (l ++ [p_s]) else some (b_s.2.1 nm)) = gvo (if y_s.2.1 nm = 0 then gvL nm l else some (b_s.2.1 nm)) (gvL nm [p_s])
      by_cases e_s : y_s.2.1 nm = 0
      · rw [if_pos e_s, if_pos e_s]
        exact ih_s
      · rw [if_neg e_s, if_neg e_s]
        rfl
def gvi (g_s : Option Int32) (x3 x4_s : Int32) : Prop := match g_s with
  | none => x3.toInt = 0 ∧ x4_s = 0
  | some v_s => ¬ x3.toInt = 0 ∧ x4_s = v_s
theorem gvi_get {g_s : Option Int32} {x3 x4_s : Int32} (hg : gvi g_s x3 x4_s) : x4_s = g_s.getD 0 := by
  cases g_s with
  | none => exact hg.2
  | some v_s => exact hg.2
def poW (nm : Nat → Int32) (f1_s : Nat → Nat → Int32) (v_s : Int32) : Nat ⊕ List pB → Prop
  | .inl e_s => (f1_s 102 18).toInt = (e_s : Int)
  | .inr ls => (f1_s 102 18).toInt = -1 ∧ v_s = (gvL nm ls).getD 0
section WO
variable {F_s : Nat} {h_s : zH} {K_s : Int32 → zH → Prop} {tk : Nat → Int} {nm : Nat → Int32} {n_s a_s : Nat} {x1_s x2_s x3 x4_s x5_s x6 x7 : Int32} {l6 l7 : Option Value} {f_s : Nat → Nat → Int32}
theorem e33F (hk : hKn h_s) (h5 : x5_s.toInt = 0) (hf : 0 ≤ (f_s 102 18).toInt) (t_s : K_s x4_s (h_s.1, f_s, h_s.2.2.1, h_s.2.2.2)) : wF F_s 176 (33, [some (.ref 102), some (.int x1_s), some (.int x2_s), some (.int x3), some (.int x4_s), some (.int x5_s), l6, l7], [], (h_s.1, f_s, h_s.2.2.1, h_s.2.2.2)) (gI K_s) := wF_le (Nat.le_succ F_s) (sg_176_33 (h_s := (h_s.1, f_s, h_s.2.2.1, h_s.2.2.2)) hk ⟨fun _ => ⟨fun (c_s : (f_s 102 18).toInt < 0) => absurd c_s (by omega), fun _ => t_s⟩, fun c_s => absurd h5 c_s⟩)
theorem e33 (hk : hKn h_s) (h5 : x5_s.toInt = 0) (hp : prR tk nm n_s 0 a_s f_s) (t1_s : a_s < n_s → ∀ f1_s, frR f_s f1_s → (f1_s 102 18).toInt = (a_s : Int) → K_s 0 (h_s.1, f1_s, h_s.2.2.1, h_s.2.2.2)) (t2_s : n_s ≤ a_s → K_s x4_s (h_s.1, f_s, h_s.2.2.1, h_s.2.2.2)) : wF F_s 176 (33, [some (.ref 102), some (.int x1_s), some (.int x2_s), some (.int x3), some (.int x4_s), some (.int x5_s), l6, l7], [], (h_s.1, f_s, h_s.2.2.1, h_s.2.2.2)) (gI K_s) := by
  have p1_s := hp.1
  have p2_s := hp.2.1
  have p4_s := hp.2.2.2.1
  refine wF_le (Nat.le_succ F_s) (sg_176_33 (h_s := (h_s.1, f_s, h_s.2.2.1, h_s.2.2.2)) hk ⟨fun _ => ⟨fun _ => ⟨fun (c_s : (f_s 102 16).toInt < (f_s 102 17).toInt) => ?_, fun (c_s : ¬ (f_s 102 16).toInt < (f_s 102 17).toInt) => t2_s (by omega)⟩, fun (c_s : ¬ (f_s 102 18).toInt < 0) => absurd p1_s (by omega)⟩, fun c_s => absurd h5 c_s⟩)
  exact sp_167 hk (fun _ f1_s b1 b2 _ => t1_s (by omega) f1_s (fun o k_s hq => b2 o k_s (by omega)) (by rw [b1]; exact p2_s)) (fun c_s => absurd c_s (by omega))
theorem w74F (hk : hKn h_s) (hf : 0 ≤ (f_s 102 18).toInt) (t_s : K_s x4_s (h_s.1, f_s, h_s.2.2.1, h_s.2.2.2)) : wF F_s 176 (74, [some (.ref 102), some (.int x1_s), some (.int x2_s), some (.int x3), some (.int x4_s), some (.int x5_s), some (.int x6), some (.int x7)], [], (h_s.1, f_s, h_s.2.2.1, h_s.2.2.2)) (gI K_s) := wF_le (Nat.le_succ F_s) (sg_176_74 (h_s := (h_s.1, f_s, h_s.2.2.1, h_s.2.2.2)) hk ⟨fun (c_s : (f_s 102 18).toInt < 0) => absurd c_s (by omega), fun _ => sp_168F hk hf (fun _ => e33F hk rfl hf t_s)⟩)
end WO
def W33 (F_s : Nat) : Prop := ∀ (h_s : zH) (K_s : Int32 → zH → Prop) (tk : Nat → Int) (nm : Nat → Int32) (n_s a_s : Nat) (x1_s x2_s x3 x4_s x5_s : Int32) (l6 l7 : Option Value) (f_s : Nat → Nat → Int32) (l : List pB), hKn h_s → prR tk nm n_s 0 a_s f_s → ¬ x5_s.toInt = 0 → gvi (gvL nm l) x3 x4_s → (∀ v_s f1_s, frR f_s f1_s → (∃ k_s r_s, ptx tk n_s k_s a_s l r_s ∧ poW nm f1_s v_s r_s) → K_s v_s (h_s.1, f1_s, h_s.2.2.1, h_s.2.2.2)) → wF F_s 176 (33, [some (.ref 102), some (.int x1_s), some (.int x2_s), some (.int x3), some (.int x4_s), some (.int x5_s), l6, l7], [], (h_s.1, f_s, h_s.2.2.1, h_s.2.2.2)) (gI K_s)
theorem w33_s {F_s : Nat} (ih_s : W33 F_s) : W33 (F_s + 1) := by
  intro h_s K_s tk nm n_s a_s x1_s x2_s x3 x4_s x5_s l6 l7 f_s l hk hp h5 hg t_s
  have i69 := (rpar F_s).1.1
  refine sg_176_33 (h_s := (h_s.1, f_s, h_s.2.2.1, h_s.2.2.2)) hk ⟨fun c_s => absurd c_s h5, fun _ => ?_⟩
  refine i69 h_s _ tk nm n_s 0 a_s f_s hk hp (fun v5 f1_s fr1 hr _ => ?_)
  obtain ⟨r_s, hq, hpo⟩ := hr
  match r_s, hq, hpo with
  | .inl e_s, hq, hpo =>
    have hpo : (f1_s 102 18).toInt = (e_s : Int) := hpo
    exact sp_168F hk (by omega) (fun _ => ⟨fun _ => w74F hk (by omega) (t_s x4_s f1_s fr1 ⟨1, .inl e_s, Or.inl ⟨e_s, Or.inl ⟨e_s, hq, rfl⟩, rfl⟩, hpo⟩), fun w_s => absurd rfl w_s⟩)
  | .inr p_s, hq, hpo =>
    obtain ⟨g1, g2, g3_s, g4, g5_s⟩ := hpo
    have hp1 : prR tk nm n_s 0 p_s.1 f1_s := prR_fr fr1 hp g1 g2 g3_s g4 (by omega)
    have fin_s : ∀ (x6 x7 : Int32) (pb : pB) (a1_s : Nat) (f2_s : Nat → Nat → Int32), prR tk nm n_s 0 a1_s f2_s → frR f_s f2_s → pln tk a_s (.inr (a1_s, pb)) → ((x7.toInt = 0 ∧ gvL nm [pb] = none) ∨ (¬ x7.toInt = 0 ∧ gvL nm [pb] = some x6)) → wF F_s 176 (74, [some (.ref 102), some (.int x1_s), some (.int x2_s), some (.int x3), some (.int x4_s), some (.int x5_s), some (.int x6), some (.int x7)], [], (h_s.1, f2_s, h_s.2.2.1, h_s.2.2.2)) (gI K_s) := by
      intro x6 x7 pb a1_s f2_s hp2 fr2 hpl hx
      have q1_s := hp2.1
      have nx : ∀ y3 y4 : Int32, gvi (gvL nm (l ++ [pb])) y3 y4 → wF F_s 168 (0, [some (.ref 102), some (.int 59)], [], (h_s.1, f2_s, h_s.2.2.1, h_s.2.2.2)) (gI (fun v3 h3 => hKn h3 → wF F_s 176 (33, [some (.ref 102), some (.int x1_s), some (.int x2_s), some (.int y3), some (.int y4), some (.int v3), some (.int x6), some (.int x7)], [], h3) (gI K_s))) := by
        intro y3 y4 hg2
        refine sp_168 (x1_s := 59) hk hp2 (by decide) (fun c9_s f3_s b1 b2 _ => ?_) (fun c9_s _ => ?_)
        · have c9_s : tk a1_s = 59 := c9_s
          have hlt := prR_lt hp2 (by omega)
          have fr3 : frR f2_s f3_s := frR_16 b2
          refine ih_s h_s K_s tk nm n_s (a1_s + 1) x1_s x2_s y3 y4 1 _ _ f3_s (l ++ [pb]) hk (prR_fr fr3 hp2 (by rw [b2 _ _ (by omega)]; exact q1_s) b1 hlt (by rw [b2 _ _ (by omega)]; exact hp2.2.2.2.2.2.1) (by omega)) (by decide) hg2 (fun v_s f4_s fr4 hr => ?_)
          obtain ⟨k_s, r_s, hr1, hr2⟩ := hr
          exact t_s v_s f4_s (frR_tr (frR_tr fr2 fr3) fr4) ⟨k_s + 1, r_s, Or.inr ⟨(a1_s, pb), hpl, Or.inr ⟨hlt, Or.inr ⟨c9_s, hr1⟩⟩⟩, hr2⟩
        · have c9_s : ¬ tk a1_s = 59 := c9_s
          refine e33 hk rfl hp2 (fun hl f3_s fr3 b_s => t_s 0 f3_s (frR_tr fr2 fr3) ⟨1, .inl a1_s, Or.inr ⟨(a1_s, pb), hpl, Or.inr ⟨hl, Or.inl ⟨c9_s, rfl⟩⟩⟩, b_s⟩) (fun hl => t_s y4 f2_s fr2 ⟨1, .inr (l ++ [pb]), Or.inr ⟨(a1_s, pb), hpl, Or.inl ⟨hl, rfl⟩⟩, q1_s, gvi_get hg2⟩)
      have ge := gvL_end nm l pb
      refine wF_le (Nat.le_succ F_s) (sg_176_74 (h_s := (h_s.1, f2_s, h_s.2.2.1, h_s.2.2.2)) hk ⟨fun _ => ⟨fun c_s => nx x3 x4_s ?_, fun c_s => ⟨fun c1_s => nx 1 x6 ?_, fun c1_s => nx x3 x4_s ?_⟩⟩, fun (c_s : ¬ (f2_s 102 18).toInt < 0) => absurd q1_s (by omega)⟩)
      · rcases hx with ⟨_, e2_s⟩ | ⟨e1_s, _⟩
        · rw [ge, e2_s]
          cases hgl : gvL nm l with
          | none =>
            rw [hgl] at hg
            exact hg
          | some v_s =>
            rw [hgl] at hg
            exact hg
        · exact absurd c_s e1_s
      · rcases hx with ⟨e1_s, _⟩ | ⟨_, e2_s⟩
        · exact absurd e1_s c_s
        · rw [ge, e2_s]
          cases hgl : gvL nm l with
          | none => exact ⟨by decide, rfl⟩
          | some v_s =>
            rw [hgl] at hg
            exact absurd c1_s hg.1
      · rw [ge]
        cases hgl : gvL nm l with
        | none =>
          rw [hgl] at hg
          exact absurd hg.1 c1_s
        | some v_s =>
          rw [hgl] at hg
          exact hg
    refine sp_168 (x1_s := 63) hk hp1 (by decide) (fun c9_s f2_s b1 b2 _ => ⟨fun w_s => absurd w_s (by decide), fun _ => ?_⟩) (fun c9_s _ => ⟨fun _ => fin_s v5 1 (none, p_s.2) p_s.1 f1_s hp1 fr1 (Or.inr ⟨p_s, hq, Or.inl ⟨c9_s, rfl⟩⟩) (Or.inr ⟨by decide, by rw [g5_s]; rfl⟩), fun w_s => absurd rfl w_s⟩)
    have c9_s : tk p_s.1 = 63 := c9_s
    have hlt := prR_lt hp1 (by omega)
    have fr2 : frR f1_s f2_s := frR_16 b2
    have hp2 : prR tk nm n_s 0 (p_s.1 + 1) f2_s := prR_fr fr2 hp1 (by rw [b2 _ _ (by omega)]; exact g1) b1 hlt (by rw [b2 _ _ (by omega)]; exact g4) (by omega)
    have sec : ∀ y7 : Int32, ((y7.toInt = 0 ∧ p_s.2.2.1 nm = 0) ∨ (¬ y7.toInt = 0 ∧ ¬ p_s.2.2.1 nm = 0)) → wF F_s 169 (0, [some (.ref 102), none, none], [], (h_s.1, f2_s, h_s.2.2.1, h_s.2.2.2)) (gI (fun v9 h9 => hKn h9 → wF F_s 176 (74, [some (.ref 102), some (.int x1_s), some (.int x2_s), some (.int x3), some (.int x4_s), some (.int x5_s), some (.int v9), some (.int y7)], [], h9) (gI K_s))) := by
      intro y7 hy
      refine i69 h_s _ tk nm n_s 0 (p_s.1 + 1) f2_s hk hp2 (fun v9 f3_s fr3 hr _ => ?_)
      obtain ⟨r_s, hq2, hpo⟩ := hr
      match r_s, hq2, hpo with
      | .inl e_s, hq2, hpo =>
        have hpo : (f3_s 102 18).toInt = (e_s : Int) := hpo
        exact w74F hk (by omega) (t_s x4_s f3_s (frR_tr (frR_tr fr1 fr2) fr3) ⟨1, .inl e_s, Or.inl ⟨e_s, Or.inr ⟨p_s, hq, Or.inr ⟨c9_s, Or.inl ⟨e_s, hq2, rfl⟩⟩⟩, rfl⟩, hpo⟩)
      | .inr y_s, hq2, hpo =>
        obtain ⟨y1, y2, y3, y4, y5⟩ := hpo
        refine fin_s v9 y7 (some p_s.2, y_s.2) y_s.1 f3_s (prR_fr (frR_tr (frR_tr fr1 fr2) fr3) hp y1 y2 y3 y4 (by omega)) (frR_tr (frR_tr fr1 fr2) fr3) (Or.inr ⟨p_s, hq, Or.inr ⟨c9_s, Or.inr ⟨y_s, hq2, rfl⟩⟩⟩) ?_
        rcases hy with ⟨e1_s, e2_s⟩ | ⟨e1_s, e2_s⟩
        · refine Or.inl ⟨e1_s, ?_⟩
          show (if p_s.2.2.1 nm = 0 then none else some (y_s.2.2.1 nm)) = none
          rw [if_pos e2_s]
        · refine Or.inr ⟨e1_s, ?_⟩
          show (if p_s.2.2.1 nm = 0 then none else some (y_s.2.2.1 nm)) = some v9
          rw [if_neg e2_s, y5]
    exact ⟨fun e0_s => sec 0 (Or.inl ⟨rfl, by rw [← g5_s]; exact i0_ e0_s⟩), fun e0_s => sec 1 (Or.inr ⟨by decide, by rw [← g5_s]; exact n0_ e0_s⟩)⟩
theorem w33 : ∀ F_s, W33 F_s
  | 0 => by
    intro _ _ _ _ _ _ _
    intros
    exact wF_zero
  | F_s + 1 => w33_s (w33 F_s)
/-- all of it: from base x1, of n bytes -/
theorem sp_176 {F_s : Nat} {h_s : zH} {K_s : Int32 → zH → Prop} {tk : Nat → Int} {n_s : Nat} {x1_s x2_s : Int32} {f_s : Nat → Nat → Int32} (hk : hKn h_s) (hx1 : x1_s.toInt = -1 ∨ x1_s.toInt = 0) (hx2 : x2_s.toInt = (n_s : Int)) (hn : n_s ≤ 120) (htk : ∀ a_s, tk a_s = if (a_s : Int) < (n_s : Int) then (if x1_s.toInt < 0 then (f_s 109 a_s).toInt else (f_s 110 a_s).toInt) else -1) (hpos : ∀ k_s, k_s < n_s → 0 ≤ tk k_s) (t_s : ∀ v_s f1_s, (∀ o k_s, ¬ (o = 102 ∧ 15 ≤ k_s ∧ k_s ≤ 19) → f1_s o k_s = f_s o k_s) → (∃ k_s r_s, ptx tk n_s k_s 0 [] r_s ∧ poW (fun k_s => f_s 111 k_s) f1_s v_s r_s) → K_s v_s (h_s.1, f1_s, h_s.2.2.1, h_s.2.2.2)) : wF F_s 176 (0, [some (.ref 102), some (.int x1_s), some (.int x2_s), none, none, none, none, none], [], (h_s.1, f_s, h_s.2.2.1, h_s.2.2.2)) (gI K_s) := by
  refine wF_le (Nat.le_succ F_s) (sg_176_0 (h_s := (h_s.1, f_s, h_s.2.2.1, h_s.2.2.2)) hk ?_)
  refine w33 F_s h_s K_s tk (fun k_s => f_s 111 k_s) n_s 0 x1_s x2_s 0 0 1 none none (zup (zup (zup (zup (zup f_s 102 15 x1_s) 102 16 0) 102 17 x2_s) 102 18 (-1)) 102 19 0) [] hk ⟨?_, ?_, by omega, ?_, hn, ?_, by omega, ?_, hpos, ?_, fun k_s => ?_⟩ (by decide) ⟨rfl, rfl⟩ (fun v_s f1_s fr1 hr => t_s v_s f1_s (fun o k_s hq => ?_) hr)
  · rw [zne_up (by omega), zsame_up]
    rfl
  · rw [zne_up (by omega), zne_up (by omega), zne_up (by omega), zsame_up]
    rfl
  · rw [zne_up (by omega), zne_up (by omega), zsame_up]
    exact hx2
  · rw [zsame_up]
    rfl
  · rw [zne_up (by omega), zne_up (by omega), zne_up (by omega), zne_up (by omega), zsame_up]
    exact hx1
  · funext a_s
    unfold tkR
    rw [htk a_s]
    simp (disch := omega) only [zne_up, zsame_up]
    rw [hx2]
  · simp (disch := omega) only [zne_up]
  · rw [fr1 o k_s (by omega)]
    simp (disch := omega) only [zne_up]
/-! LAW: class and reference. -/
theorem cp77 {h_s : zH} {K_s : Int32 → zH → Prop} {n_s : Nat} {x1_s x2_s : Int32} {f0_s : Nat → Nat → Int32} (hk : hKn h_s) (hx2 : x2_s.toInt = (n_s : Int)) (hn : n_s ≤ 120) (t_s : ∀ f1_s, (∀ k_s, k_s < n_s → f1_s 110 k_s = f0_s 109 k_s) → f1_s 102 14 = x2_s → (∀ o k_s, ¬ (o = 110 ∧ k_s < n_s) → ¬ (o = 102 ∧ k_s = 14) → f1_s o k_s = f0_s o k_s) → K_s 1 (h_s.1, f1_s, h_s.2.2.1, h_s.2.2.2)) : ∀ (F_s j_s : Nat) (x3 : Int32) (f_s : Nat → Nat → Int32), x3.toInt = (j_s : Int) → j_s ≤ n_s → (∀ k_s, k_s < j_s → f_s 110 k_s = f0_s 109 k_s) → (∀ o k_s, ¬ (o = 110 ∧ k_s < j_s) → f_s o k_s = f0_s o k_s) → wF F_s 177 (37, [some (.ref 102), some (.int x1_s), some (.int x2_s), some (.int x3)], [], (h_s.1, f_s, h_s.2.2.1, h_s.2.2.2)) (gI K_s)
  | 0, _, _, _, _, _, _, _ => wF_zero
  | F_s + 1, j_s, x3, f_s, hx3, hj, g1, g2 => by
    refine sg_177_37 (h_s := (h_s.1, f_s, h_s.2.2.1, h_s.2.2.2)) hk ⟨fun c1_s => fun c2_s => ?_, fun c1_s => ?_⟩
    · have z_s := azix (i := x3) (by omega)
      have ez : zix x3 = j_s := by omega
      refine cp77 hk hx2 hn t_s F_s (j_s + 1) (x3 + 1) _ (by rw [in1_ (by omega)]; omega) (by omega) (fun k_s hq => ?_) (fun o k_s hq => ?_)
      · by_cases e_s : k_s = j_s
        · subst e_s
          rw [ez, zsame_up]
          exact g2 109 k_s (by omega)
        · rw [zne_up (by omega)]
          exact g1 k_s (by omega)
      · rw [zne_up (by omega)]
        exact g2 o k_s (by omega)
    · have ej : j_s = n_s := by omega
      subst ej
      refine t_s _ (fun k_s hq => ?_) zsame_up (fun o k_s h1 h2 => ?_)
      · rw [zne_up (by omega)]
        exact g1 k_s hq
      · rw [zne_up h2]
        exact g2 o k_s h1
theorem sp_177 {F_s : Nat} {h_s : zH} {K_s : Int32 → zH → Prop} {tk : Nat → Int} {n_s : Nat} {f_s : Nat → Nat → Int32} (hk : hKn h_s) (hx2 : (f_s 102 12).toInt = (n_s : Int)) (hn : n_s ≤ 120) (htk : ∀ a_s, tk a_s = if (a_s : Int) < (n_s : Int) then (f_s 109 a_s).toInt else -1) (hpos : ∀ k_s, k_s < n_s → 0 ≤ tk k_s) (t1_s : ∀ (e_s k_s : Nat) (w_s : Int32) f1_s, ptx tk n_s k_s 0 [] (.inl e_s) → w_s.toInt = (e_s : Int) → f1_s 102 12 = 0 → (∀ o k_s, ¬ (o = 102 ∧ (k_s = 12 ∨ 15 ≤ k_s ∧ k_s ≤ 19)) → f1_s o k_s = f_s o k_s) → K_s (-100 - w_s) (h_s.1, f1_s, h_s.2.2.1, h_s.2.2.2)) (t2_s : ∀ (k_s : Nat) (ls : List pB) f1_s, ptx tk n_s k_s 0 [] (.inr ls) → f1_s 102 12 = 0 → (f1_s 102 14).toInt = (n_s : Int) → (∀ k_s, k_s < n_s → f1_s 110 k_s = f_s 109 k_s) → (∀ o k_s, ¬ (o = 102 ∧ 12 ≤ k_s ∧ k_s ≤ 19) → ¬ (o = 110 ∧ k_s < n_s) → f1_s o k_s = f_s o k_s) → K_s 1 (h_s.1, f1_s, h_s.2.2.1, h_s.2.2.2)) : wF F_s 177 (0, [some (.ref 102), none, none, none], [], (h_s.1, f_s, h_s.2.2.1, h_s.2.2.2)) (gI K_s) := by
  refine wF_le (Nat.le_succ F_s) (sg_177_0 (h_s := (h_s.1, f_s, h_s.2.2.1, h_s.2.2.2)) hk ?_)
  refine sp_176 (tk := tk) (n_s := n_s) hk (Or.inl rfl) hx2 hn (fun a_s => by rw [htk a_s, if_pos (show ((-1 : Int32)).toInt < 0 by decide)]) hpos (fun v_s f1_s fr1 hr _ => ?_)
  obtain ⟨k_s, r_s, hr1, hr2⟩ := hr
  have e12_s : f1_s 102 12 = f_s 102 12 := fr1 102 12 (by omega)
  match r_s, hr1, hr2 with
  | .inl e_s, hr1, hr2 =>
    have hr2 : (f1_s 102 18).toInt = (e_s : Int) := hr2
    refine ⟨fun (c_s : (f1_s 102 18).toInt < 0) => absurd c_s (by omega), fun _ => ?_⟩
    refine t1_s e_s k_s (f1_s 102 18) _ hr1 hr2 zsame_up (fun o j_s hq => ?_)
    rw [zne_up (by omega)]
    exact fr1 o j_s (by omega)
  | .inr ls, hr1, hr2 =>
    obtain ⟨g1, g2⟩ := hr2
    refine ⟨fun _ => ?_, fun (c_s : ¬ (f1_s 102 18).toInt < 0) => absurd g1 (by omega)⟩
    show wF F_s 177 (37, [some (.ref 102), some (.int v_s), some (.int (f1_s 102 12)), some (.int 0)], [], (h_s.1, zup f1_s 102 12 0, h_s.2.2.1, h_s.2.2.2)) (gI K_s)
    rw [e12_s]
    refine cp77 (f0_s := zup f1_s 102 12 0) hk hx2 hn (fun f2_s b1 b2 b3 => t2_s k_s ls f2_s hr1 ?_ (by rw [b2]; exact hx2) (fun j_s hq => ?_) (fun o j_s h1 h2 => ?_)) F_s 0 0 _ rfl (by omega) (fun j_s hq => by omega) (fun _ _ _ => rfl)
    · rw [b3 102 12 (by omega) (by omega), zsame_up]
    · rw [b1 j_s hq, zne_up (by omega)]
      exact fr1 109 j_s (by omega)
    · rw [b3 o j_s (by omega) (by omega), zne_up (by omega)]
      exact fr1 o j_s (by omega)
def poT (q_s : Nat) (f1_s : Nat → Nat → Int32) (v_s : Int32) : Nat ⊕ List pB → Prop
  | .inl e_s => v_s.toInt = (e_s : Int)
  | .inr ls => v_s.toInt = -1 ∧ (f1_s q_s 2).toInt = ((cTx 0 ls).length : Int) ∧ (cTx 0 ls).length ≤ 241 ∧ (∀ j_s c_s, zget (cTx 0 ls) j_s = some c_s → f1_s (q_s + 1) j_s = c_s) ∧ f1_s q_s 0 = (if mTx ls then 1 else 0)
theorem ln63 {h_s : zH} {K_s : Int32 → zH → Prop} {q_s n_s : Nat} {f0_s : Nat → Nat → Int32} (hm_s : q_s = 14 ∨ q_s = 17) (hk : hKn h_s) : ∀ (F_s i_s a_s : Nat) (x2_s : Int32) (f_s : Nat → Nat → Int32) (l : List pB), x2_s.toInt = (i_s : Int) → 2 * i_s ≤ a_s → prC q_s n_s (cTx 0 l).length a_s f_s → (∀ j_s c_s, zget (cTx 0 l) j_s = some c_s → f_s (q_s + 1) j_s = c_s) → f_s q_s 0 = (if mTx l then 1 else 0) → frC q_s 0 f0_s f_s → (∀ v_s f1_s, frC q_s 0 f0_s f1_s → (∃ k_s r_s, ptx (tkF f0_s) n_s k_s a_s l r_s ∧ poT q_s f1_s v_s r_s) → K_s v_s (h_s.1, f1_s, h_s.2.2.1, h_s.2.2.2)) → wF F_s 63 (11, [some (.ref 40), some (.ref q_s), some (.int x2_s)], [], (h_s.1, f_s, h_s.2.2.1, h_s.2.2.2)) (gI K_s)
  | 0, _, _, _, _, _, _, _, _, _, _, _, _ => wF_zero
  | F_s + 1, i_s, a_s, x2_s, f_s, l, hx, hi2, hp, hc_s, hmw, hf, t_s => by
    obtain ⟨p1_s, p2_s, p3_s, p4_s, p5_s, p6_s⟩ := hp
    have tk0 : tkF f_s = tkF f0_s := frC_tk hm_s hf
    refine sg_63_11 (h_s := (h_s.1, f_s, h_s.2.2.1, h_s.2.2.2)) hm_s hk ⟨fun c_s => absurd c_s (by omega), fun _ => ?_⟩
    refine sp_64 hm_s hk ⟨p1_s, p2_s, p3_s, p4_s, p5_s, p6_s⟩ (fun v_s f1_s fr1 hr _ => ?_)
    obtain ⟨r_s, hpl, hpo⟩ := hr
    rw [tk0] at hpl
    have fr2 : frC q_s 0 f0_s f1_s := fun o k_s u1_s u2_s u3 => by
      rw [fr1 o k_s u1_s u2_s (by omega)]
      exact hf o k_s u1_s u2_s u3
    match r_s, hpl, hpo with
    | .inl e_s, hpl, hpo =>
      obtain ⟨rfl, hpz⟩ := hpo
      exact ⟨fun _ => t_s _ f1_s fr2 ⟨1, .inl e_s, Or.inl ⟨e_s, hpl, rfl⟩, hpz⟩, fun w_s => absurd rfl w_s⟩
    | .inr p_s, hpl, hpo =>
      obtain ⟨rfl, g1, g2, g3_s, g4, g5_s, g6, g7⟩ := hpo
      rw [hmw] at g7
      have fn1 : (f1_s 40 1).toInt = (n_s : Int) := by
        rw [fr1 40 1 (by omega) (by omega) (by omega)]
        exact p3_s
      have tk1 : tkF f1_s = tkF f0_s := frC_tk hm_s fr2
      have ce := cTx_end 0 l p_s.2
      rw [Nat.zero_add] at ce
      have cl_s : (cTx 0 (l ++ [p_s.2])).length = (cTx 0 l).length + (cLn (cTx 0 l).length p_s.2).length := by rw [ce, List.length_append]
      have cc : ∀ j_s c_s, zget (cTx 0 (l ++ [p_s.2])) j_s = some c_s → f1_s (q_s + 1) j_s = c_s := by
        intro j_s c_s hj
        rw [ce] at hj
        rcases zget_apd hj with ⟨j1, j2_s⟩ | ⟨j1, j2_s⟩
        · rw [fr1 _ _ (by omega) (by omega) (by omega)]
          exact hc_s j_s c_s j2_s
        · have u_s := g6 _ c_s j2_s
          rw [show (cTx 0 l).length + (j_s - (cTx 0 l).length) = j_s by omega] at u_s
          exact u_s
      have cm : f1_s q_s 0 = (if mTx (l ++ [p_s.2]) then 1 else 0) := by
        rw [g7, mTx_end]
        cases mTx l <;> cases mLn p_s.2 <;> rfl
      refine ⟨fun w_s => absurd w_s (by decide), fun _ => ⟨fun (c_s : (f1_s 40 2).toInt < (f1_s 40 1).toInt) => ?_, fun (c_s : ¬ (f1_s 40 2).toInt < (f1_s 40 1).toInt) => ?_⟩⟩
      · refine sp_69 (h_s := (h_s.1, f1_s, h_s.2.2.1, h_s.2.2.2)) (a_s := p_s.1) hk g3_s (by omega) (fun c9_s f2_s b1 b2 _ => ⟨fun w_s => absurd w_s (by decide), fun _ => ?_⟩) (fun c9_s _ => ⟨fun _ => ?_, fun w_s => absurd rfl w_s⟩)
        · have c9_s : tkF f1_s p_s.1 = 59 := c9_s
          have b2 : ∀ o k_s, ¬ (o = 40 ∧ k_s = 2) → f2_s o k_s = f1_s o k_s := b2
          refine ln63 (f0_s := f0_s) hm_s hk F_s (i_s + 1) (p_s.1 + 1) (x2_s + 1) f2_s (l ++ [p_s.2]) (by rw [in1_ (by omega)]; omega) (by omega) ⟨b1, by omega, ?_, p4_s, ?_, by omega⟩ (fun j_s c_s hj => ?_) ?_ (fun o k_s u1_s u2_s u3 => ?_) (fun v_s f3_s fr3 hr => ?_)
          · rw [b2 40 1 (by omega)]
            exact fn1
          · rw [b2 q_s 2 (by omega), cl_s]
            exact g4
          · rw [b2 _ _ (by omega)]
            exact cc j_s c_s hj
          · rw [b2 _ _ (by omega)]
            exact cm
          · rw [b2 o k_s u1_s]
            exact fr2 o k_s u1_s u2_s u3
          · obtain ⟨k_s, r_s, hr1, hr2⟩ := hr
            exact t_s v_s f3_s fr3 ⟨k_s + 1, r_s, Or.inr ⟨p_s, hpl, Or.inr ⟨by omega, Or.inr ⟨by rw [← tk1]; exact c9_s, hr1⟩⟩⟩, hr2⟩
        · have c9_s : ¬ tkF f1_s p_s.1 = 59 := c9_s
          exact t_s _ f1_s fr2 ⟨1, .inl p_s.1, Or.inr ⟨p_s, hpl, Or.inr ⟨by omega, Or.inl ⟨by rw [← tk1]; exact c9_s, rfl⟩⟩⟩, g3_s⟩
      · exact t_s _ f1_s fr2 ⟨1, .inr (l ++ [p_s.2]), Or.inr ⟨p_s, hpl, Or.inl ⟨by omega, rfl⟩⟩, rfl, by rw [cl_s]; exact g4, by omega, cc, cm⟩
theorem sp_63 {F_s : Nat} {h_s : zH} {K_s : Int32 → zH → Prop} {q_s n_s : Nat} {f_s : Nat → Nat → Int32} (hm_s : q_s = 14 ∨ q_s = 17) (hk : hKn h_s) (hn : (f_s 40 1).toInt = (n_s : Int)) (hb_s : n_s ≤ 120) (t_s : ∀ v_s f1_s, frC q_s 0 f_s f1_s → (∃ k_s r_s, ptx (tkF f_s) n_s k_s 0 [] r_s ∧ poT q_s f1_s v_s r_s) → K_s v_s (h_s.1, f1_s, h_s.2.2.1, h_s.2.2.2)) : wF F_s 63 (0, [some (.ref 40), some (.ref q_s), none], [], (h_s.1, f_s, h_s.2.2.1, h_s.2.2.2)) (gI K_s) := by
  refine wF_le (Nat.le_succ F_s) (sg_63_0 (h_s := (h_s.1, f_s, h_s.2.2.1, h_s.2.2.2)) hm_s hk ?_)
  refine ln63 (f0_s := f_s) (n_s := n_s) hm_s hk F_s 0 0 0 (zup (zup (zup f_s q_s 2 0) q_s 0 0) 40 2 0) [] rfl (by omega) ⟨?_, by omega, ?_, hb_s, ?_, (by show 0 ≤ 2 * 0; omega)⟩ (fun j_s c_s hj => by cases hj) ?_ (fun o k_s u1_s u2_s u3 => ?_) t_s
  · rw [zsame_up]
    rfl
  · rw [zne_up (by omega), zne_up (by omega), zne_up (by omega)]
    exact hn
  · rw [zne_up (by omega), zne_up (by omega), zsame_up]
    rfl
  · rw [zne_up (by omega), zsame_up]
    rfl
  · rw [zne_up (by omega), zne_up (by omega), zne_up (by omega)]
/-- THE TAPE -/
def tT (h_s : zH) : Prop := ∃ n_s : Nat, n_s ≤ 120 ∧ (h_s.2.1 40 1).toInt = (n_s : Int) ∧ h_s.2.1 102 12 = h_s.2.1 40 1 ∧ ∀ k_s, k_s < n_s → h_s.2.1 109 k_s = h_s.2.1 41 k_s ∧ 0 ≤ (h_s.2.1 41 k_s).toInt
section TP
variable {F_s : Nat} {h_s : zH} {x1_s : Int32}
theorem pr_feed (hk : hKn h_s) (hs : tT h_s) : wF F_s 100 (0, [some (.ref 6), some (.int x1_s)], [], h_s) (gI (fun v_s h1 => wF F_s 165 (0, [some (.ref 102), some (.int x1_s)], [], h1) (gI (fun v2 h2 => v_s = v2 ∧ tT h2)))) := by
  obtain ⟨n_s, n1_s, n2_s, n3_s, n4_s⟩ := hs
  have hs : tT h_s := ⟨n_s, n1_s, n2_s, n3_s, n4_s⟩
  have n5_s : (h_s.2.1 102 12).toInt = (n_s : Int) := by
    rw [n3_s]
    exact n2_s
  have z1 := azix (i := h_s.2.1 40 1) (by omega)
  have z2 := azix (i := h_s.2.1 102 12) (by omega)
  have e1_s : zix (h_s.2.1 40 1) = n_s := by omega
  have e2_s : zix (h_s.2.1 102 12) = n_s := by omega
  refine wF_le (Nat.le_succ F_s) (sg_100_0 hk ⟨fun c1_s => ?_, fun c1_s => ⟨fun c2_s => ?_, fun c2_s => ⟨fun c3_s => fun c4_s => ?_, fun c3_s => ?_⟩⟩⟩)
  · exact wF_le (Nat.le_succ F_s) (sg_165_0 hk ⟨fun _ => ⟨rfl, hs⟩, fun c_s => absurd c1_s c_s⟩)
  · exact wF_le (Nat.le_succ F_s) (sg_165_0 hk ⟨fun c_s => absurd c_s c1_s, fun _ => ⟨fun _ => ⟨rfl, hs⟩, fun c_s => absurd c2_s c_s⟩⟩)
  · have q12_s : zup (zup h_s.2.1 41 (zix (h_s.2.1 40 1)) x1_s) 40 1 (h_s.2.1 40 1 + 1) 102 12 = h_s.2.1 102 12 := by rw [zne_up (by omega), zne_up (by omega)]
    refine wF_le (Nat.le_succ F_s) (sg_165_0 (h_s := (h_s.1, zup (zup h_s.2.1 41 (zix (h_s.2.1 40 1)) x1_s) 40 1 (h_s.2.1 40 1 + 1), h_s.2.2.1, h_s.2.2.2)) hk ⟨fun c_s => absurd c_s c1_s, fun _ => ⟨fun c_s => absurd c_s c2_s, fun _ => ⟨fun c_s => ?_, fun c_s => fun c5_s => ⟨?_, ?_⟩⟩⟩⟩)
    · dsimp only at c_s
      rw [q12_s] at c_s
      omega
    · dsimp only
      rw [q12_s, n3_s]
    · dsimp only
      rw [q12_s, e1_s, e2_s]
      refine ⟨n_s + 1, by omega, ?_, ?_, fun k_s hq => ?_⟩
      · dsimp only
        rw [zne_up (by omega), zne_up (by omega), zsame_up, in1_ (by omega)]
        omega
      · dsimp only
        rw [zsame_up, zne_up (by omega), zne_up (by omega), zsame_up, n3_s]
      · dsimp only
        by_cases e_s : k_s = n_s
        · subst e_s
          rw [zne_up (by omega), zsame_up, zne_up (by omega), zne_up (by omega), zne_up (by omega), zsame_up]
          exact ⟨rfl, by omega⟩
        · rw [zne_up (by omega), zne_up (by omega), zne_up (by omega), zne_up (by omega), zne_up (by omega), zne_up (by omega), zne_up (by omega), zne_up (by omega)]
          exact n4_s k_s (by omega)
  · refine wF_le (Nat.le_succ F_s) (sg_165_0 hk ⟨fun c_s => absurd c_s c1_s, fun _ => ⟨fun c_s => absurd c_s c2_s, fun _ => ⟨fun _ => ⟨rfl, hs⟩, fun c_s => ?_⟩⟩⟩)
    omega
theorem pr_law (hk : hKn h_s) (hs : tT h_s) : wF F_s 101 (0, [some (.ref 6), none, none], [], h_s) (gI (fun v_s h1 => wF F_s 177 (0, [some (.ref 102), none, none, none], [], h1) (gI (fun v2 h2 => v_s = v2 ∧ tT h2)))) := by
  obtain ⟨n_s, n1_s, n2_s, n3_s, n4_s⟩ := hs
  have n5_s : (h_s.2.1 102 12).toInt = (n_s : Int) := by
    rw [n3_s]
    exact n2_s
  refine wF_le (Nat.le_succ F_s) (sg_101_0 hk (fun q_s r1_s m1_s => ?_))
  refine sp_63 (f_s := h_s.2.1) (n_s := n_s) m1_s hk n2_s n1_s (fun v_s f1_s fr1 hr hk1 => ?_)
  obtain ⟨k_s, r_s, hr1, hr2⟩ := hr
  have htk : ∀ a_s, tkF h_s.2.1 a_s = if (a_s : Int) < (n_s : Int) then (h_s.2.1 109 a_s).toInt else -1 := by
    intro a_s
    unfold tkF
    rw [n2_s]
    by_cases e_s : (a_s : Int) < (n_s : Int)
    · rw [if_pos e_s, if_pos e_s, (n4_s a_s (by omega)).1]
    · rw [if_neg e_s, if_neg e_s]
  have hpos : ∀ a_s, a_s < n_s → 0 ≤ tkF h_s.2.1 a_s := by
    intro a_s ha_s
    unfold tkF
    rw [if_pos (by omega)]
    exact (n4_s a_s ha_s).2
  have go_s : ∀ (rr : Nat → Nat → Option Nat) (hk2 : hKn (h_s.1, zup f1_s 40 1 0, h_s.2.2.1, rr)) (u_s : Int32), (∀ (e_s k1_s : Nat) (w_s : Int32), ptx (tkF h_s.2.1) n_s k1_s 0 [] (.inl e_s) → w_s.toInt = (e_s : Int) → u_s = -100 - w_s) → (∀ (k1_s : Nat) (ls : List pB), ptx (tkF h_s.2.1) n_s k1_s 0 [] (.inr ls) → u_s = 1) → wF F_s 177 (0, [some (.ref 102), none, none, none], [], (h_s.1, zup f1_s 40 1 0, h_s.2.2.1, rr)) (gI (fun v2 h2 => u_s = v2 ∧ tT h2)) := by
    intro rr hk2 u_s hu1 hu2
    have ff_s : ∀ o k_s, (o = 102 ∨ o = 109) → zup f1_s 40 1 0 o k_s = h_s.2.1 o k_s := fun o k_s ho => by
      rw [zne_up (by omega)]
      exact fr1 o k_s (by omega) (by omega) (by omega)
    refine sp_177 (h_s := (h_s.1, zup f1_s 40 1 0, h_s.2.2.1, rr)) (tk := tkF h_s.2.1) (n_s := n_s) (f_s := zup f1_s 40 1 0) hk2 (by rw [ff_s _ _ (Or.inl rfl)]; exact n5_s) n1_s (fun a_s => by rw [ff_s _ _ (Or.inr rfl)]; exact htk a_s) hpos (fun e_s k1_s w_s f2_s b1 b2 b3 b4 => ⟨hu1 e_s k1_s w_s b1 b2, 0, by omega, ?_, ?_, fun j_s hj => by omega⟩) (fun k1_s ls f2_s b1 b2 b3 b4 b5 => ⟨hu2 k1_s ls b1, 0, by omega, ?_, ?_, fun j_s hj => by omega⟩)
    · dsimp only
      rw [b4 40 1 (by omega), zsame_up]
      rfl
    · dsimp only
      rw [b3, b4 40 1 (by omega), zsame_up]
    · dsimp only
      rw [b5 40 1 (by omega) (by omega), zsame_up]
      rfl
    · dsimp only
      rw [b2, b5 40 1 (by omega) (by omega), zsame_up]
  match r_s, hr1, hr2 with
  | .inl e_s, hr1, hr2 =>
    have hr2 : v_s.toInt = (e_s : Int) := hr2
    refine ⟨fun c_s => absurd c_s (by omega), fun _ => ?_⟩
    refine go_s h_s.2.2.2 hk1 _ (fun e1_s k1_s w_s d1_s d2_s => ?_) (fun k1_s ls d1_s => ?_)
    · have q1_s := ptx_det hr1 d1_s
      cases q1_s
      rw [Int32.toInt_inj.mp (hr2.trans d2_s.symm)]
    · have q1_s := ptx_det hr1 d1_s
      cases q1_s
  | .inr ls, hr1, hr2 =>
    refine ⟨fun _ => fun q4_s r4 m4_s => ?_, fun c_s => absurd hr2.1 c_s⟩
    refine go_s (zup (zup h_s.2.2.2 7 10 (some q4_s)) 7 9 (some q_s)) (show hKn (h_s.1, f1_s, h_s.2.2.1, zup (zup h_s.2.2.2 7 10 (some q4_s)) 7 9 (some q_s)) from hkr9 (h_s := (h_s.1, f1_s, h_s.2.2.1, zup h_s.2.2.2 7 10 (some q4_s))) (hkr10 (h_s := (h_s.1, f1_s, h_s.2.2.1, h_s.2.2.2)) hk1 m4_s) m1_s) 1 (fun e1_s k1_s w_s d1_s d2_s => ?_) (fun _ _ _ => rfl)
    have q1_s := ptx_det hr1 d1_s
    cases q1_s
def tTok (W_s : aW) : Bool := (!aWf W_s 40 1 && !aWf W_s 102 12) && (List.range 120).all (fun k_s => !aWf W_s 41 k_s && !aWf W_s 109 k_s)
theorem tT_fr {W_s : aW} (hw : tTok W_s = true) {h_s h1 : zH} (fr_s : aFr (aWf W_s) h_s h1) (hs : tT h_s) : tT h1 := by
  unfold tTok at hw
  rw [Bool.and_eq_true, Bool.and_eq_true, Bool.not_eq_true', Bool.not_eq_true'] at hw
  obtain ⟨⟨w1_s, w2_s⟩, w3_s⟩ := hw
  obtain ⟨n_s, n1_s, n2_s, n3_s, n4_s⟩ := hs
  refine ⟨n_s, n1_s, ?_, ?_, fun k_s hq => ?_⟩
  · rw [fr_s.1 40 1 w1_s]
    exact n2_s
  · rw [fr_s.1 40 1 w1_s, fr_s.1 102 12 w2_s]
    exact n3_s
  · have c_s := List.all_eq_true.mp w3_s k_s (List.mem_range.mpr (by omega))
    rw [Bool.and_eq_true, Bool.not_eq_true', Bool.not_eq_true'] at c_s
    rw [fr_s.1 _ _ c_s.1, fr_s.1 _ _ c_s.2]
    exact n4_s k_s hq
theorem tT_start {E_s : Nat → Int32} {n_s : Nat} {h_s : zH} (hc_s : hcTp h_s = true) : tT (sH E_s n_s [] h_s) := by
  have sv : ∀ o k_s, o ≠ 0 → sov E_s [] h_s.2.1 o k_s = h_s.2.1 o k_s := fun o k_s ho => by rw [sov_nil ho]
  unfold hcTp at hc_s
  rw [Bool.and_eq_true, decide_eq_true_eq, decide_eq_true_eq] at hc_s
  refine ⟨0, by omega, ?_, ?_, fun k_s hq => by omega⟩
  · show (sov E_s [] h_s.2.1 40 1).toInt = 0
    rw [sv _ _ (by omega), hc_s.1]
    rfl
  · show sov E_s [] h_s.2.1 102 12 = sov E_s [] h_s.2.1 40 1
    rw [sv _ _ (by omega), sv _ _ (by omega), hc_s.1, hc_s.2]
end TP
