/-! SHELVES, where longs are known to be kept. -/
def tSok2 (W_s : aW) : Bool := (!aWf W_s 47 1 && !aWf W_s 102 39) && (List.range 6).all (fun d_s => (!aWf W_s 124 d_s && !aWf W_s 125 d_s) && (!aWf W_s (76 + 2 * d_s) 0 && (!aWf W_s (76 + 2 * d_s) 2 && !aWf W_s (76 + 2 * d_s) 3)))
theorem tS_fr2 {W_s : aW} (hw : tSok2 W_s = true) {h_s h1 : zH} (fr_s : aFr (aWf W_s) h_s h1) (e3_s : h1.2.2.1 = h_s.2.2.1) (hs : tS h_s) : tS h1 := by
  unfold tSok2 at hw
  rw [Bool.and_eq_true, Bool.and_eq_true, Bool.not_eq_true', Bool.not_eq_true'] at hw
  obtain ⟨⟨w2_s, w3_s⟩, w4_s⟩ := hw
  have e1_s := fr_s.1 47 1 w2_s
  have e2_s := fr_s.1 102 39 w3_s
  refine ⟨fun d_s hd_s => ?_, ?_, ?_, ?_⟩
  · have c_s := List.all_eq_true.mp w4_s d_s (List.mem_range.mpr hd_s)
    rw [Bool.and_eq_true, Bool.and_eq_true, Bool.and_eq_true, Bool.and_eq_true, Bool.not_eq_true', Bool.not_eq_true', Bool.not_eq_true', Bool.not_eq_true', Bool.not_eq_true'] at c_s
    obtain ⟨⟨c1_s, c2_s⟩, c3_s, c4_s, c5_s⟩ := c_s
    have q_s := hs.1 d_s hd_s
    refine ⟨?_, fun k_s hk => ?_⟩
    · have q1_s := q_s.1
      unfold tS1 at q1_s ⊢
      rw [fr_s.1 _ _ c1_s, fr_s.1 _ _ c2_s, fr_s.1 _ _ c3_s, fr_s.1 _ _ c4_s, fr_s.1 _ _ c5_s]
      exact q1_s
    · rw [e3_s]
      exact q_s.2 k_s hk
  · rw [e1_s, e2_s]
    exact hs.2.1
  · rw [e1_s]
    exact hs.2.2.1
  · rw [e1_s]
    exact hs.2.2.2
