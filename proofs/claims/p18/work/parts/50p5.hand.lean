/-! SHELVES: what others' calls leave as it was; the start. -/
def tSok (W_s : aW) : Bool := (!aWf W_s 1000 0 && (!aWf W_s 47 1 && !aWf W_s 102 39)) && (List.range 6).all (fun d_s => (!aWf W_s 124 d_s && !aWf W_s 125 d_s) && (!aWf W_s (76 + 2 * d_s) 0 && (!aWf W_s (76 + 2 * d_s) 2 && !aWf W_s (76 + 2 * d_s) 3)))
theorem tS_fr {W_s : aW} (hw : tSok W_s = true) {h_s h1 : zH} (fr_s : aFr (aWf W_s) h_s h1) (hs : tS h_s) : tS h1 := by
  unfold tSok at hw
  rw [Bool.and_eq_true, Bool.and_eq_true, Bool.and_eq_true, Bool.not_eq_true', Bool.not_eq_true', Bool.not_eq_true'] at hw
  obtain ⟨⟨w1_s, w2_s, w3_s⟩, w4_s⟩ := hw
  have e1_s := fr_s.1 47 1 w2_s
  have e2_s := fr_s.1 102 39 w3_s
  have e3_s := fr_s.2.1 w1_s
  refine ⟨fun d_s hd_s => ?_, ?_, ?_, ?_⟩
  · have c_s := List.all_eq_true.mp w4_s d_s (List.mem_range.mpr hd_s)
    rw [Bool.and_eq_true, Bool.and_eq_true, Bool.and_eq_true, Bool.and_eq_true, Bool.not_eq_true', Bool.not_eq_true', Bool.not_eq_true', Bool.not_eq_true', Bool.not_eq_true'] at c_s
    obtain ⟨⟨c1_s, c2_s⟩, c3_s, c4_s, c5_s⟩ := c_s
    have q_s := hs.1 d_s hd_s
    refine ⟨?_, fun k_s hk => ?_⟩
    · have q1_s := q_s.1
      unfold tS1 at q1_s ⊢
      rw [fr_s.1 _ _ c1_s, fr_s.1 _ _ c2_s, fr_s.1 _ _ c3_s, fr_s.1 _ _ c4_s, fr_s.1 _ _ c5_s]
      exact q1_s
    · rw [e3_s]
      exact q_s.2 k_s hk
  · rw [e1_s, e2_s]
    exact hs.2.1
  · rw [e1_s]
    exact hs.2.2.1
  · rw [e1_s]
    exact hs.2.2.2
theorem tS_start {E_s : Nat → Int32} {n_s : Nat} {h_s : zH} (hc_s : hcSh h_s = true) : tS (sH E_s n_s [] h_s) := by
  have sv : ∀ o k_s, o ≠ 0 → sov E_s [] h_s.2.1 o k_s = h_s.2.1 o k_s := fun o k_s ho => by rw [sov_nil ho]
  unfold hcSh at hc_s
  rw [Bool.and_eq_true, Bool.and_eq_true, decide_eq_true_eq, decide_eq_true_eq] at hc_s
  obtain ⟨c1_s, c2_s, c3_s⟩ := hc_s
  refine ⟨fun d_s hd_s => ?_, ?_, ?_, ?_⟩
  · have c_s := List.all_eq_true.mp c1_s d_s (List.mem_range.mpr hd_s)
    rw [Bool.and_eq_true, Bool.and_eq_true, decide_eq_true_eq, decide_eq_true_eq] at c_s
    refine ⟨Or.inl ⟨?_, ?_⟩, fun k_s hk => ?_⟩
    · show (sov E_s [] h_s.2.1 (76 + 2 * d_s) 0).toInt = 0
      rw [sv _ _ (by omega)]
      exact c_s.1.1
    · show (sov E_s [] h_s.2.1 124 d_s).toInt = -1
      rw [sv _ _ (by omega)]
      exact c_s.1.2
    · exact of_decide_eq_true (List.all_eq_true.mp c_s.2 k_s (List.mem_range.mpr hk))
  · show sov E_s [] h_s.2.1 47 1 = sov E_s [] h_s.2.1 102 39
    rw [sv _ _ (by omega), sv _ _ (by omega), c2_s, c3_s]
  · show 0 ≤ (sov E_s [] h_s.2.1 47 1).toInt
    rw [sv _ _ (by omega), c2_s]
    decide
  · show (sov E_s [] h_s.2.1 47 1).toInt ≤ 50
    rw [sv _ _ (by omega), c2_s]
    decide
