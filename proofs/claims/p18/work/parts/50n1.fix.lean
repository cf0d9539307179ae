/-! fixed references and shapes, by number -/
theorem kg10 : ∀ j_, j_ < 8 → krf 10 j_ = [20 + j_] := by decide +kernel
theorem kg11 : ∀ j_, j_ < 12 → krf 11 j_ = [28 + j_] := by decide +kernel
theorem kg71 : ∀ j_, j_ < 6 → krf 71 j_ = [76 + 2 * j_] := by decide +kernel
theorem kg72 : ∀ j_, j_ < 6 → krf 72 j_ = [88 + j_] := by decide +kernel
theorem kg74 : ∀ j_, j_ < 8 → krf 74 j_ = [94 + j_] := by decide +kernel
theorem kg62 : ∀ j_, j_ < 8 → krf 62 j_ = [63 + j_] := by decide +kernel
theorem kgsh : ∀ j_, j_ < 6 → krf (76 + 2 * j_) 4 = [76 + 2 * j_ + 1] := by decide +kernel
theorem kgsz : ∀ j_, j_ < 6 → kS (76 + 2 * j_ + 1) = some (1, 60) := by decide +kernel
section W4
variable {h_s : zH} {o b_s j_ q_s q1_s q2_s : Nat}
theorem krm (hk : hKn h_s) (hq : krf o b_s = [q1_s, q2_s]) : ∃ q_s, h_s.2.2.2 o b_s = some q_s ∧ (q_s = q1_s ∨ q_s = q2_s) := by
  obtain ⟨p_s, p1_s, p2_s⟩ := hk.2 o b_s (by rw [hq]; exact List.cons_ne_nil _ _)
  rw [hq] at p2_s
  refine ⟨p_s, p1_s, ?_⟩
  rcases List.mem_cons.mp p2_s with e_s | e_s
  · exact Or.inl e_s
  · exact Or.inr (List.mem_singleton.mp e_s)
theorem kshc (hk : hKn h_s) (hj : j_ < 6) : h_s.2.2.2 (76 + 2 * j_) 4 = some (76 + 2 * j_ + 1) := krq hk (kgsh j_ hj)
theorem kshz (hk : hKn h_s) (hj : j_ < 6) : zget h_s.1 (76 + 2 * j_ + 1) = some (1, 60) := hk.1 _ 1 60 (kgsz j_ hj) rfl
theorem klaw1 (hk : hKn h_s) (hm_s : q_s = 14 ∨ q_s = 17) : h_s.2.2.2 q_s 1 = some (q_s + 1) := by
  rcases hm_s with rfl | rfl
  · exact krq hk rfl
  · exact krq hk rfl
theorem klaw2 (hk : hKn h_s) (hm_s : q_s = 14 ∨ q_s = 17) : h_s.2.2.2 q_s 3 = some (q_s + 2) := by
  rcases hm_s with rfl | rfl
  · exact krq hk rfl
  · exact krq hk rfl
theorem klz1 (hk : hKn h_s) (hm_s : q_s = 14 ∨ q_s = 17) : zget h_s.1 (q_s + 1) = some (0, 242) := by
  rcases hm_s with rfl | rfl
  · exact hk.1 15 0 242 rfl rfl
  · exact hk.1 18 0 242 rfl rfl
theorem klz2 (hk : hKn h_s) (hm_s : q_s = 14 ∨ q_s = 17) : zget h_s.1 (q_s + 2) = some (0, 64) := by
  rcases hm_s with rfl | rfl
  · exact hk.1 16 0 64 rfl rfl
  · exact hk.1 19 0 64 rfl rfl
end W4
theorem hkr_ {h_s : zH} {o b_s q_s q1_s q2_s : Nat} (hk : hKn h_s) (hq : krf o b_s = [q1_s, q2_s]) (hm_s : q_s = q1_s ∨ q_s = q2_s) : hKn (h_s.1, h_s.2.1, h_s.2.2.1, zup h_s.2.2.2 o b_s (some q_s)) := by
  refine ⟨hk.1, fun o1_s k1_s hn_s => ?_⟩
  by_cases e_s : o1_s = o ∧ k1_s = b_s
  · obtain ⟨rfl, rfl⟩ := e_s
    refine ⟨q_s, zsame_up, ?_⟩
    rw [hq]
    rcases hm_s with rfl | rfl
    · exact List.mem_cons_self
    · exact List.mem_cons_of_mem _ List.mem_cons_self
  · show ∃ p_s, zup h_s.2.2.2 o b_s (some q_s) o1_s k1_s = some p_s ∧ p_s ∈ krf o1_s k1_s
    rw [zne_up e_s]
    exact hk.2 o1_s k1_s hn_s
theorem hkr9 {h_s : zH} {q_s : Nat} (hk : hKn h_s) (hm_s : q_s = 14 ∨ q_s = 17) : hKn (h_s.1, h_s.2.1, h_s.2.2.1, zup h_s.2.2.2 7 9 (some q_s)) := hkr_ hk rfl hm_s
theorem hkr10 {h_s : zH} {q_s : Nat} (hk : hKn h_s) (hm_s : q_s = 14 ∨ q_s = 17) : hKn (h_s.1, h_s.2.1, h_s.2.2.1, zup h_s.2.2.2 7 10 (some q_s)) := hkr_ hk rfl hm_s
