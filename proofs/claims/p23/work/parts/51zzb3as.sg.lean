/-! What ended runs give: printed by a program (wip/fun/sg.py). -/
/-- ColdShod.head(I)I, from 0 on -/
theorem sg_93_0 {F_s : Nat} {x1_s : Int32} {h_s : zH} {K_s : Int32 → zH → Prop} (hk : hKn h_s) (t_s : (x1_s.toInt < 0 → K_s (-1) h_s) ∧ (¬ x1_s.toInt < 0 → ((5 < x1_s.toInt → K_s (-1) h_s) ∧ (¬ 5 < x1_s.toInt → (((h_s.2.1 7 6).toInt < 6 → (zix (h_s.2.1 7 6) < 6 → K_s (h_s.2.1 7 6) (h_s.1, zup (zup (zup h_s.2.1 8 (zix (h_s.2.1 7 6)) x1_s) 9 (zix (h_s.2.1 7 6)) 6) 7 6 ((h_s.2.1 7 6) + 1), h_s.2.2.1, h_s.2.2.2))) ∧ (¬ (h_s.2.1 7 6).toInt < 6 → K_s (-3) h_s)))))) : wF (F_s + 1) 93 (0, [some (.ref 6), some (.int x1_s)], [], h_s) (gI K_s) := by
  refine w_0 (pc := 0) (e_s := (1, 1, 1, 0, 0, .null, [])) (y_s := (1, [some (.ref _), some (.int _)], [.int _], _)) rfl (u_ rfl) ?_
  refine wq2 (pc := 1) (len_s := 3) rfl rfl (fun c1_s => ?_) (fun c1_s => ?_)
  · replace t_s := t_s.1 c1_s
    refine w_t (pc := 9) (e_s := (0, 1, 0, 0, 0, .int (-1), [])) (y_s := (10, [some (.ref _), some (.int _)], [.int _], _)) rfl (u_ rfl) ?_
    exact wrI (pc := 10) (len_s := 1) rfl hk t_s
  · replace t_s := t_s.2 c1_s
    refine w_t (pc := 4) (e_s := (1, 1, 1, 0, 0, .null, [])) (y_s := (5, [some (.ref _), some (.int _)], [.int _], _)) rfl (u_ rfl) ?_
    refine w_t (pc := 5) (e_s := (0, 1, 0, 0, 0, .int 5, [])) (y_s := (6, [some (.ref _), some (.int _)], [.int _, .int _], _)) rfl (u_ rfl) ?_
    refine wi5 (pc := 6) (len_s := 3) (Y := 5) rfl rfl (by decide) (fun c2_s => ?_) (fun c2_s => ?_)
    · replace t_s := t_s.1 c2_s
      refine w_t (pc := 9) (e_s := (0, 1, 0, 0, 0, .int (-1), [])) (y_s := (10, [some (.ref _), some (.int _)], [.int _], _)) rfl (u_ rfl) ?_
      exact wrI (pc := 10) (len_s := 1) rfl hk t_s
    · replace t_s := t_s.2 c2_s
      refine w_t (pc := 11) (e_s := (3, 1, 0, 0, 0, .null, [])) (y_s := (12, [some (.ref _), some (.int _)], [.ref _], _)) rfl (u_ rfl) ?_
      refine w20r (pc := 12) (len_s := 3) (q_s := 7) rfl (krq hk rfl) ?_
      refine w20 (pc := 15) (len_s := 3) rfl ?_
      refine w_t (pc := 18) (e_s := (0, 2, 0, 0, 0, .int 6, [])) (y_s := (20, [some (.ref _), some (.int _)], [.int _, .int _], _)) rfl (u_ rfl) ?_
      refine wi2 (pc := 20) (len_s := 3) (Y := 6) rfl rfl (by decide) (fun c3_s => ?_) (fun c3_s => ?_)
      · replace t_s := t_s.1 c3_s
        refine w_t (pc := 26) (e_s := (3, 1, 0, 0, 0, .null, [])) (y_s := (27, [some (.ref _), some (.int _)], [.ref _], _)) rfl (u_ rfl) ?_
        refine w20r (pc := 27) (len_s := 3) (q_s := 7) rfl (krq hk rfl) ?_
        refine w20r (pc := 30) (len_s := 3) (q_s := 8) rfl (krq hk rfl) ?_
        refine w_t (pc := 33) (e_s := (3, 1, 0, 0, 0, .null, [])) (y_s := (34, [some (.ref _), some (.int _)], [.ref _, .ref _], _)) rfl (u_ rfl) ?_
        refine w20r (pc := 34) (len_s := 3) (q_s := 7) rfl (krq hk rfl) ?_
        refine w20 (pc := 37) (len_s := 3) rfl ?_
        refine w_t (pc := 40) (e_s := (1, 1, 1, 0, 0, .null, [])) (y_s := (41, [some (.ref _), some (.int _)], [.int _, .int _, .ref _], _)) rfl (u_ rfl) ?_
        refine w25 (pc := 41) (len_s := 1) rfl (hk.1 8 0 6 rfl rfl) (fun c4_s => ?_)
        replace t_s := t_s c4_s
        refine w_t (pc := 42) (e_s := (3, 1, 0, 0, 0, .null, [])) (y_s := (43, [some (.ref _), some (.int _)], [.ref _], _)) rfl (u_ rfl) ?_
        refine w20r (pc := 43) (len_s := 3) (q_s := 7) rfl (krq hk rfl) ?_
        refine w20r (pc := 46) (len_s := 3) (q_s := 9) rfl (krq hk rfl) ?_
        refine w_t (pc := 49) (e_s := (3, 1, 0, 0, 0, .null, [])) (y_s := (50, [some (.ref _), some (.int _)], [.ref _, .ref _], _)) rfl (u_ rfl) ?_
        refine w20r (pc := 50) (len_s := 3) (q_s := 7) rfl (krq hk rfl) ?_
        refine w20 (pc := 53) (len_s := 3) rfl ?_
        refine w_t (pc := 56) (e_s := (0, 2, 0, 0, 0, .int 6, [])) (y_s := (58, [some (.ref _), some (.int _)], [.int _, .int _, .ref _], _)) rfl (u_ rfl) ?_
        refine w25 (pc := 58) (len_s := 1) rfl (hk.1 9 0 6 rfl rfl) (fun c5_s => ?_)
        refine w_t (pc := 59) (e_s := (3, 1, 0, 0, 0, .null, [])) (y_s := (60, [some (.ref _), some (.int _)], [.ref _], _)) rfl (u_ rfl) ?_
        refine w20r (pc := 60) (len_s := 3) (q_s := 7) rfl (krq hk rfl) ?_
        refine w_t (pc := 63) (e_s := (39, 1, 0, 0, 0, .null, [])) (y_s := (64, [some (.ref _), some (.int _)], [.ref _, .ref _], _)) rfl (u_ rfl) ?_
        refine w20 (pc := 64) (len_s := 3) rfl ?_
        refine w_t (pc := 67) (e_s := (40, 1, 0, 0, 0, .null, [])) (y_s := (68, [some (.ref _), some (.int _)], [.int _, .ref _, .int _], _)) rfl (u_ rfl) ?_
        refine w_t (pc := 68) (e_s := (0, 1, 0, 0, 0, .int 1, [])) (y_s := (69, [some (.ref _), some (.int _)], [.int _, .int _, .ref _, .int _], _)) rfl (u_ rfl) ?_
        refine w_t (pc := 69) (e_s := (7, 1, 0, 0, 0, .null, [])) (y_s := (70, [some (.ref _), some (.int _)], [.int (_ + _), .ref _, .int _], _)) rfl (u_ rfl) ?_
        refine w21 (pc := 70) (len_s := 3) rfl ?_
        exact wrI (pc := 73) (len_s := 1) rfl hk t_s
      · replace t_s := t_s.2 c3_s
        refine w_t (pc := 23) (e_s := (0, 2, 0, 0, 0, .int (-3), [])) (y_s := (25, [some (.ref _), some (.int _)], [.int _], _)) rfl (u_ rfl) ?_
        exact wrI (pc := 25) (len_s := 1) rfl hk t_s
/-- ColdShodModel.head(I)I, from 0 on -/
theorem sg_155_0 {F_s : Nat} {x1_s : Int32} {h_s : zH} {K_s : Int32 → zH → Prop} (hk : hKn h_s) (t_s : (x1_s.toInt < 0 → K_s (-1) h_s) ∧ (¬ x1_s.toInt < 0 → ((5 < x1_s.toInt → K_s (-1) h_s) ∧ (¬ 5 < x1_s.toInt → (((h_s.2.1 102 6).toInt = 6 → K_s (-3) h_s) ∧ (¬ (h_s.2.1 102 6).toInt = 6 → (zix (h_s.2.1 102 6) < 104 → (zix (6 + (h_s.2.1 102 6)) < 104 → K_s (((h_s.2.1 102 6) + 1) - 1) (h_s.1, zup (zup (zup h_s.2.1 103 (zix (h_s.2.1 102 6)) x1_s) 103 (zix (6 + (h_s.2.1 102 6))) 6) 102 6 ((h_s.2.1 102 6) + 1), h_s.2.2.1, h_s.2.2.2))))))))) : wF (F_s + 1) 155 (0, [some (.ref 102), some (.int x1_s)], [], h_s) (gI K_s) := by
  refine w_0 (pc := 0) (e_s := (1, 1, 1, 0, 0, .null, [])) (y_s := (1, [some (.ref _), some (.int _)], [.int _], _)) rfl (u_ rfl) ?_
  refine w_t (pc := 1) (e_s := (10, 1, 0, 0, 0, .null, [])) (y_s := (2, [some (.ref _), some (.int _)], [.long (Int32.toInt64 _)], _)) rfl (u_ rfl) ?_
  refine w_t (pc := 2) (e_s := (0, 1, 0, 0, 0, .long 0, [])) (y_s := (3, [some (.ref _), some (.int _)], [.long _, .long _], _)) rfl (u_ rfl) ?_
  refine w_t (pc := 3) (e_s := (0, 3, 0, 0, 0, .long 5, [(0, 1063)])) (y_s := (6, [some (.ref _), some (.int _)], [.long _, .long _, .long _], _)) rfl (u_ rfl) ?_
  refine wcI (pc := 6) (len_s := 3) rfl rfl (l := [some (.long _), none, some (.long _), none, some (.long _), none]) rfl ?_
  refine w_t (pc := 0) (e_s := (2, 1, 0, 0, 0, .null, [])) (y_s := (1, [some (.long _), none, some (.long _), none, some (.long _), none], [.long _], _)) rfl (u_ rfl) ?_
  refine w_t (pc := 1) (e_s := (2, 1, 2, 0, 0, .null, [])) (y_s := (2, [some (.long _), none, some (.long _), none, some (.long _), none], [.long _, .long _], _)) rfl (u_ rfl) ?_
  refine w_t (pc := 2) (e_s := (14, 1, 0, 0, 0, .null, [])) (y_s := (3, [some (.long _), none, some (.long _), none, some (.long _), none], [.int (lg_cmp _ _)], _)) rfl (u_ rfl) ?_
  refine wl2 (pc := 3) (len_s := 3) (Y := 0) rfl (Int32.toInt_toInt64 _) (by decide) (fun c1_s => ?_) (fun c1_s => ?_)
  · replace t_s := t_s.1 c1_s
    refine w_t (pc := 17) (e_s := (0, 1, 0, 0, 0, .int 0, [])) (y_s := (18, [some (.long _), none, some (.long _), none, some (.long _), none], [.int _], _)) rfl (u_ rfl) ?_
    refine wrI (pc := 18) (len_s := 1) rfl hk ?_
    show wF _ 155 (9, [some (.ref _), some (.int _)], [.int _], _) _
    refine w_t (pc := 9) (e_s := (15, 3, 14, 1, 0, .null, [])) (y_s := (12, [some (.ref _), some (.int _)], [], _)) rfl (u_ rfl) ?_
    refine w_t (pc := 12) (e_s := (0, 1, 0, 0, 0, .int (-1), [])) (y_s := (13, [some (.ref _), some (.int _)], [.int _], _)) rfl (u_ rfl) ?_
    exact wrI (pc := 13) (len_s := 1) rfl hk t_s
  · replace t_s := t_s.2 c1_s
    refine w_t (pc := 6) (e_s := (2, 1, 0, 0, 0, .null, [])) (y_s := (7, [some (.long _), none, some (.long _), none, some (.long _), none], [.long _], _)) rfl (u_ rfl) ?_
    refine w_t (pc := 7) (e_s := (2, 2, 4, 0, 0, .null, [])) (y_s := (9, [some (.long _), none, some (.long _), none, some (.long _), none], [.long _, .long _], _)) rfl (u_ rfl) ?_
    refine w_t (pc := 9) (e_s := (14, 1, 0, 0, 0, .null, [])) (y_s := (10, [some (.long _), none, some (.long _), none, some (.long _), none], [.int (lg_cmp _ _)], _)) rfl (u_ rfl) ?_
    refine wl4 (pc := 10) (len_s := 3) (Y := 5) rfl (Int32.toInt_toInt64 _) (by decide) (fun c2_s => ?_) (fun c2_s => ?_)
    · replace t_s := t_s.1 c2_s
      refine w_t (pc := 17) (e_s := (0, 1, 0, 0, 0, .int 0, [])) (y_s := (18, [some (.long _), none, some (.long _), none, some (.long _), none], [.int _], _)) rfl (u_ rfl) ?_
      refine wrI (pc := 18) (len_s := 1) rfl hk ?_
      show wF _ 155 (9, [some (.ref _), some (.int _)], [.int _], _) _
      refine w_t (pc := 9) (e_s := (15, 3, 14, 1, 0, .null, [])) (y_s := (12, [some (.ref _), some (.int _)], [], _)) rfl (u_ rfl) ?_
      refine w_t (pc := 12) (e_s := (0, 1, 0, 0, 0, .int (-1), [])) (y_s := (13, [some (.ref _), some (.int _)], [.int _], _)) rfl (u_ rfl) ?_
      exact wrI (pc := 13) (len_s := 1) rfl hk t_s
    · replace t_s := t_s.2 c2_s
      refine w_t (pc := 13) (e_s := (0, 1, 0, 0, 0, .int 1, [])) (y_s := (14, [some (.long _), none, some (.long _), none, some (.long _), none], [.int _], _)) rfl (u_ rfl) ?_
      refine w_t (pc := 14) (e_s := (17, 3, 18, 0, 0, .null, [])) (y_s := (18, [some (.long _), none, some (.long _), none, some (.long _), none], [.int _], _)) rfl (u_ rfl) ?_
      refine wrI (pc := 18) (len_s := 1) rfl hk ?_
      show wF _ 155 (9, [some (.ref _), some (.int _)], [.int _], _) _
      refine w_t (pc := 9) (e_s := (15, 3, 14, 1, 0, .null, [])) (y_s := (14, [some (.ref _), some (.int _)], [], _)) rfl (u_ rfl) ?_
      refine w_t (pc := 14) (e_s := (3, 1, 0, 0, 0, .null, [])) (y_s := (15, [some (.ref _), some (.int _)], [.ref _], _)) rfl (u_ rfl) ?_
      refine w20 (pc := 15) (len_s := 3) rfl ?_
      refine w_t (pc := 18) (e_s := (0, 2, 0, 0, 0, .int 6, [])) (y_s := (20, [some (.ref _), some (.int _)], [.int _, .int _], _)) rfl (u_ rfl) ?_
      refine wi1 (pc := 20) (len_s := 3) (Y := 6) rfl rfl (by decide) (fun c3_s => ?_) (fun c3_s => ?_)
      · replace t_s := t_s.1 c3_s
        refine w_t (pc := 23) (e_s := (0, 2, 0, 0, 0, .int (-3), [])) (y_s := (25, [some (.ref _), some (.int _)], [.int _], _)) rfl (u_ rfl) ?_
        exact wrI (pc := 25) (len_s := 1) rfl hk t_s
      · replace t_s := t_s.2 c3_s
        refine w_t (pc := 26) (e_s := (3, 1, 0, 0, 0, .null, [])) (y_s := (27, [some (.ref _), some (.int _)], [.ref _], _)) rfl (u_ rfl) ?_
        refine w20r (pc := 27) (len_s := 3) (q_s := 103) rfl (krq hk rfl) ?_
        refine w_t (pc := 30) (e_s := (3, 1, 0, 0, 0, .null, [])) (y_s := (31, [some (.ref _), some (.int _)], [.ref _, .ref _], _)) rfl (u_ rfl) ?_
        refine w20 (pc := 31) (len_s := 3) rfl ?_
        refine w_t (pc := 34) (e_s := (1, 1, 1, 0, 0, .null, [])) (y_s := (35, [some (.ref _), some (.int _)], [.int _, .int _, .ref _], _)) rfl (u_ rfl) ?_
        refine w25 (pc := 35) (len_s := 1) rfl (hk.1 103 0 104 rfl rfl) (fun c4_s => ?_)
        replace t_s := t_s c4_s
        refine w_t (pc := 36) (e_s := (3, 1, 0, 0, 0, .null, [])) (y_s := (37, [some (.ref _), some (.int _)], [.ref _], _)) rfl (u_ rfl) ?_
        refine w20r (pc := 37) (len_s := 3) (q_s := 103) rfl (krq hk rfl) ?_
        refine w_t (pc := 40) (e_s := (0, 2, 0, 0, 0, .int 6, [])) (y_s := (42, [some (.ref _), some (.int _)], [.int _, .ref _], _)) rfl (u_ rfl) ?_
        refine w_t (pc := 42) (e_s := (3, 1, 0, 0, 0, .null, [])) (y_s := (43, [some (.ref _), some (.int _)], [.ref _, .int _, .ref _], _)) rfl (u_ rfl) ?_
        refine w20 (pc := 43) (len_s := 3) rfl ?_
        refine w_t (pc := 46) (e_s := (7, 1, 0, 0, 0, .null, [])) (y_s := (47, [some (.ref _), some (.int _)], [.int (_ + _), .ref _], _)) rfl (u_ rfl) ?_
        refine w_t (pc := 47) (e_s := (0, 2, 0, 0, 0, .int 6, [])) (y_s := (49, [some (.ref _), some (.int _)], [.int _, .int _, .ref _], _)) rfl (u_ rfl) ?_
        refine w25 (pc := 49) (len_s := 1) rfl (hk.1 103 0 104 rfl rfl) (fun c5_s => ?_)
        replace t_s := t_s c5_s
        refine w_t (pc := 50) (e_s := (3, 1, 0, 0, 0, .null, [])) (y_s := (51, [some (.ref _), some (.int _)], [.ref _], _)) rfl (u_ rfl) ?_
        refine w_t (pc := 51) (e_s := (39, 1, 0, 0, 0, .null, [])) (y_s := (52, [some (.ref _), some (.int _)], [.ref _, .ref _], _)) rfl (u_ rfl) ?_
        refine w20 (pc := 52) (len_s := 3) rfl ?_
        refine w_t (pc := 55) (e_s := (0, 1, 0, 0, 0, .int 1, [])) (y_s := (56, [some (.ref _), some (.int _)], [.int _, .int _, .ref _], _)) rfl (u_ rfl) ?_
        refine w_t (pc := 56) (e_s := (7, 1, 0, 0, 0, .null, [])) (y_s := (57, [some (.ref _), some (.int _)], [.int (_ + _), .ref _], _)) rfl (u_ rfl) ?_
        refine w21 (pc := 57) (len_s := 3) rfl ?_
        refine w_t (pc := 60) (e_s := (3, 1, 0, 0, 0, .null, [])) (y_s := (61, [some (.ref _), some (.int _)], [.ref _], _)) rfl (u_ rfl) ?_
        refine w20 (pc := 61) (len_s := 3) rfl ?_
        refine w_t (pc := 64) (e_s := (0, 1, 0, 0, 0, .int 1, [])) (y_s := (65, [some (.ref _), some (.int _)], [.int _, .int _], _)) rfl (u_ rfl) ?_
        refine w_t (pc := 65) (e_s := (7, 1, 0, 1, 0, .null, [])) (y_s := (66, [some (.ref _), some (.int _)], [.int (_ - _)], _)) rfl (u_ rfl) ?_
        exact wrI (pc := 66) (len_s := 1) rfl hk t_s
/-- ColdShod.idea(II)I, from 0 on -/
theorem sg_94_0 {F_s : Nat} {x1_s : Int32} {x2_s : Int32} {h_s : zH} {K_s : Int32 → zH → Prop} (hk : hKn h_s) (t_s : (x1_s.toInt < 0 → K_s (-1) h_s) ∧ (¬ x1_s.toInt < 0 → ((3 < x1_s.toInt → K_s (-1) h_s) ∧ (¬ 3 < x1_s.toInt → ((x2_s.toInt < 0 → K_s (-1) h_s) ∧ (¬ x2_s.toInt < 0 → ((5 < x2_s.toInt → K_s (-1) h_s) ∧ (¬ 5 < x2_s.toInt → (((h_s.2.1 7 7).toInt < 8 → (zix (h_s.2.1 7 7) < 8 → K_s ((zup (zup h_s.2.1 (20 + (zix (h_s.2.1 7 7))) 0 x1_s) (20 + (zix (h_s.2.1 7 7))) 1 x2_s) 7 7) (h_s.1, zup (zup (zup h_s.2.1 (20 + (zix (h_s.2.1 7 7))) 0 x1_s) (20 + (zix (h_s.2.1 7 7))) 1 x2_s) 7 7 (((zup (zup h_s.2.1 (20 + (zix (h_s.2.1 7 7))) 0 x1_s) (20 + (zix (h_s.2.1 7 7))) 1 x2_s) 7 7) + 1), h_s.2.2.1, h_s.2.2.2))) ∧ (¬ (h_s.2.1 7 7).toInt < 8 → K_s (-3) h_s)))))))))) : wF (F_s + 1) 94 (0, [some (.ref 6), some (.int x1_s), some (.int x2_s), none], [], h_s) (gI K_s) := by
  refine w_0 (pc := 0) (e_s := (1, 1, 1, 0, 0, .null, [])) (y_s := (1, [some (.ref _), some (.int _), some (.int _), none], [.int _], _)) rfl (u_ rfl) ?_
  refine wq2 (pc := 1) (len_s := 3) rfl rfl (fun c1_s => ?_) (fun c1_s => ?_)
  · replace t_s := t_s.1 c1_s
    refine w_t (pc := 18) (e_s := (0, 1, 0, 0, 0, .int (-1), [])) (y_s := (19, [some (.ref _), some (.int _), some (.int _), none], [.int _], _)) rfl (u_ rfl) ?_
    exact wrI (pc := 19) (len_s := 1) rfl hk t_s
  · replace t_s := t_s.2 c1_s
    refine w_t (pc := 4) (e_s := (1, 1, 1, 0, 0, .null, [])) (y_s := (5, [some (.ref _), some (.int _), some (.int _), none], [.int _], _)) rfl (u_ rfl) ?_
    refine w_t (pc := 5) (e_s := (0, 1, 0, 0, 0, .int 3, [])) (y_s := (6, [some (.ref _), some (.int _), some (.int _), none], [.int _, .int _], _)) rfl (u_ rfl) ?_
    refine wi4 (pc := 6) (len_s := 3) (Y := 3) rfl rfl (by decide) (fun c2_s => ?_) (fun c2_s => ?_)
    · replace t_s := t_s.1 c2_s
      refine w_t (pc := 18) (e_s := (0, 1, 0, 0, 0, .int (-1), [])) (y_s := (19, [some (.ref _), some (.int _), some (.int _), none], [.int _], _)) rfl (u_ rfl) ?_
      exact wrI (pc := 19) (len_s := 1) rfl hk t_s
    · replace t_s := t_s.2 c2_s
      refine w_t (pc := 9) (e_s := (1, 1, 2, 0, 0, .null, [])) (y_s := (10, [some (.ref _), some (.int _), some (.int _), none], [.int _], _)) rfl (u_ rfl) ?_
      refine wq2 (pc := 10) (len_s := 3) rfl rfl (fun c3_s => ?_) (fun c3_s => ?_)
      · replace t_s := t_s.1 c3_s
        refine w_t (pc := 18) (e_s := (0, 1, 0, 0, 0, .int (-1), [])) (y_s := (19, [some (.ref _), some (.int _), some (.int _), none], [.int _], _)) rfl (u_ rfl) ?_
        exact wrI (pc := 19) (len_s := 1) rfl hk t_s
      · replace t_s := t_s.2 c3_s
        refine w_t (pc := 13) (e_s := (1, 1, 2, 0, 0, .null, [])) (y_s := (14, [some (.ref _), some (.int _), some (.int _), none], [.int _], _)) rfl (u_ rfl) ?_
        refine w_t (pc := 14) (e_s := (0, 1, 0, 0, 0, .int 5, [])) (y_s := (15, [some (.ref _), some (.int _), some (.int _), none], [.int _, .int _], _)) rfl (u_ rfl) ?_
        refine wi5 (pc := 15) (len_s := 3) (Y := 5) rfl rfl (by decide) (fun c4_s => ?_) (fun c4_s => ?_)
        · replace t_s := t_s.1 c4_s
          refine w_t (pc := 18) (e_s := (0, 1, 0, 0, 0, .int (-1), [])) (y_s := (19, [some (.ref _), some (.int _), some (.int _), none], [.int _], _)) rfl (u_ rfl) ?_
          exact wrI (pc := 19) (len_s := 1) rfl hk t_s
        · replace t_s := t_s.2 c4_s
          refine w_t (pc := 20) (e_s := (3, 1, 0, 0, 0, .null, [])) (y_s := (21, [some (.ref _), some (.int _), some (.int _), none], [.ref _], _)) rfl (u_ rfl) ?_
          refine w20r (pc := 21) (len_s := 3) (q_s := 7) rfl (krq hk rfl) ?_
          refine w20 (pc := 24) (len_s := 3) rfl ?_
          refine w_t (pc := 27) (e_s := (0, 2, 0, 0, 0, .int 8, [])) (y_s := (29, [some (.ref _), some (.int _), some (.int _), none], [.int _, .int _], _)) rfl (u_ rfl) ?_
          refine wi2 (pc := 29) (len_s := 3) (Y := 8) rfl rfl (by decide) (fun c5_s => ?_) (fun c5_s => ?_)
          · replace t_s := t_s.1 c5_s
            refine w_t (pc := 35) (e_s := (3, 1, 0, 0, 0, .null, [])) (y_s := (36, [some (.ref _), some (.int _), some (.int _), none], [.ref _], _)) rfl (u_ rfl) ?_
            refine w20r (pc := 36) (len_s := 3) (q_s := 7) rfl (krq hk rfl) ?_
            refine w20r (pc := 39) (len_s := 3) (q_s := 10) rfl (krq hk rfl) ?_
            refine w_t (pc := 42) (e_s := (3, 1, 0, 0, 0, .null, [])) (y_s := (43, [some (.ref _), some (.int _), some (.int _), none], [.ref _, .ref _], _)) rfl (u_ rfl) ?_
            refine w20r (pc := 43) (len_s := 3) (q_s := 7) rfl (krq hk rfl) ?_
            refine w20 (pc := 46) (len_s := 3) rfl ?_
            refine w24 (g_s := fun j_ => 20 + j_) (pc := 49) (len_s := 1) hk rfl (hk.1 10 2 8 rfl rfl) kg10 (fun c6_s => ?_)
            replace t_s := t_s c6_s
            refine w_t (pc := 50) (e_s := (6, 1, 3, 0, 0, .null, [])) (y_s := (51, [some (.ref _), some (.int _), some (.int _), some (.ref _)], [], _)) rfl (u_ rfl) ?_
            refine w_t (pc := 51) (e_s := (3, 1, 3, 0, 0, .null, [])) (y_s := (52, [some (.ref _), some (.int _), some (.int _), some (.ref _)], [.ref _], _)) rfl (u_ rfl) ?_
            refine w_t (pc := 52) (e_s := (1, 1, 1, 0, 0, .null, [])) (y_s := (53, [some (.ref _), some (.int _), some (.int _), some (.ref _)], [.int _, .ref _], _)) rfl (u_ rfl) ?_
            refine w21 (pc := 53) (len_s := 3) rfl ?_
            refine w_t (pc := 56) (e_s := (3, 1, 3, 0, 0, .null, [])) (y_s := (57, [some (.ref _), some (.int _), some (.int _), some (.ref _)], [.ref _], _)) rfl (u_ rfl) ?_
            refine w_t (pc := 57) (e_s := (1, 1, 2, 0, 0, .null, [])) (y_s := (58, [some (.ref _), some (.int _), some (.int _), some (.ref _)], [.int _, .ref _], _)) rfl (u_ rfl) ?_
            refine w21 (pc := 58) (len_s := 3) rfl ?_
            refine w_t (pc := 61) (e_s := (3, 1, 0, 0, 0, .null, [])) (y_s := (62, [some (.ref _), some (.int _), some (.int _), some (.ref _)], [.ref _], _)) rfl (u_ rfl) ?_
            refine w20r (pc := 62) (len_s := 3) (q_s := 7) rfl (krq hk rfl) ?_
            refine w_t (pc := 65) (e_s := (39, 1, 0, 0, 0, .null, [])) (y_s := (66, [some (.ref _), some (.int _), some (.int _), some (.ref _)], [.ref _, .ref _], _)) rfl (u_ rfl) ?_
            refine w20 (pc := 66) (len_s := 3) rfl ?_
            refine w_t (pc := 69) (e_s := (40, 1, 0, 0, 0, .null, [])) (y_s := (70, [some (.ref _), some (.int _), some (.int _), some (.ref _)], [.int _, .ref _, .int _], _)) rfl (u_ rfl) ?_
            refine w_t (pc := 70) (e_s := (0, 1, 0, 0, 0, .int 1, [])) (y_s := (71, [some (.ref _), some (.int _), some (.int _), some (.ref _)], [.int _, .int _, .ref _, .int _], _)) rfl (u_ rfl) ?_
            refine w_t (pc := 71) (e_s := (7, 1, 0, 0, 0, .null, [])) (y_s := (72, [some (.ref _), some (.int _), some (.int _), some (.ref _)], [.int (_ + _), .ref _, .int _], _)) rfl (u_ rfl) ?_
            refine w21 (pc := 72) (len_s := 3) rfl ?_
            exact wrI (pc := 75) (len_s := 1) rfl hk t_s
          · replace t_s := t_s.2 c5_s
            refine w_t (pc := 32) (e_s := (0, 2, 0, 0, 0, .int (-3), [])) (y_s := (34, [some (.ref _), some (.int _), some (.int _), none], [.int _], _)) rfl (u_ rfl) ?_
            exact wrI (pc := 34) (len_s := 1) rfl hk t_s
/-- ColdShodModel.idea(II)I, from 0 on -/
theorem sg_156_0 {F_s : Nat} {x1_s : Int32} {x2_s : Int32} {h_s : zH} {K_s : Int32 → zH → Prop} (hk : hKn h_s) (t_s : (x1_s.toInt < 0 → K_s (-1) h_s) ∧ (¬ x1_s.toInt < 0 → ((3 < x1_s.toInt → K_s (-1) h_s) ∧ (¬ 3 < x1_s.toInt → ((x2_s.toInt < 0 → K_s (-1) h_s) ∧ (¬ x2_s.toInt < 0 → ((5 < x2_s.toInt → K_s (-1) h_s) ∧ (¬ 5 < x2_s.toInt → (((h_s.2.1 102 7).toInt = 8 → K_s (-3) h_s) ∧ (¬ (h_s.2.1 102 7).toInt = 8 → (zix (12 + (h_s.2.1 102 7)) < 104 → (zix (20 + (h_s.2.1 102 7)) < 104 → (zix (60 + (h_s.2.1 102 7)) < 104 → K_s (((h_s.2.1 102 7) + 1) - 1) (h_s.1, zup (zup (zup (zup h_s.2.1 103 (zix (12 + (h_s.2.1 102 7))) x1_s) 103 (zix (20 + (h_s.2.1 102 7))) x2_s) 103 (zix (60 + (h_s.2.1 102 7))) (-1)) 102 7 ((h_s.2.1 102 7) + 1), h_s.2.2.1, h_s.2.2.2)))))))))))))) : wF (F_s + 1) 156 (0, [some (.ref 102), some (.int x1_s), some (.int x2_s)], [], h_s) (gI K_s) := by
  refine w_0 (pc := 0) (e_s := (1, 1, 1, 0, 0, .null, [])) (y_s := (1, [some (.ref _), some (.int _), some (.int _)], [.int _], _)) rfl (u_ rfl) ?_
  refine w_t (pc := 1) (e_s := (10, 1, 0, 0, 0, .null, [])) (y_s := (2, [some (.ref _), some (.int _), some (.int _)], [.long (Int32.toInt64 _)], _)) rfl (u_ rfl) ?_
  refine w_t (pc := 2) (e_s := (0, 1, 0, 0, 0, .long 0, [])) (y_s := (3, [some (.ref _), some (.int _), some (.int _)], [.long _, .long _], _)) rfl (u_ rfl) ?_
  refine w_t (pc := 3) (e_s := (0, 3, 0, 0, 0, .long 3, [(0, 1064)])) (y_s := (6, [some (.ref _), some (.int _), some (.int _)], [.long _, .long _, .long _], _)) rfl (u_ rfl) ?_
  refine wcI (pc := 6) (len_s := 3) rfl rfl (l := [some (.long _), none, some (.long _), none, some (.long _), none]) rfl ?_
  refine w_t (pc := 0) (e_s := (2, 1, 0, 0, 0, .null, [])) (y_s := (1, [some (.long _), none, some (.long _), none, some (.long _), none], [.long _], _)) rfl (u_ rfl) ?_
  refine w_t (pc := 1) (e_s := (2, 1, 2, 0, 0, .null, [])) (y_s := (2, [some (.long _), none, some (.long _), none, some (.long _), none], [.long _, .long _], _)) rfl (u_ rfl) ?_
  refine w_t (pc := 2) (e_s := (14, 1, 0, 0, 0, .null, [])) (y_s := (3, [some (.long _), none, some (.long _), none, some (.long _), none], [.int (lg_cmp _ _)], _)) rfl (u_ rfl) ?_
  refine wl2 (pc := 3) (len_s := 3) (Y := 0) rfl (Int32.toInt_toInt64 _) (by decide) (fun c1_s => ?_) (fun c1_s => ?_)
  · replace t_s := t_s.1 c1_s
    refine w_t (pc := 17) (e_s := (0, 1, 0, 0, 0, .int 0, [])) (y_s := (18, [some (.long _), none, some (.long _), none, some (.long _), none], [.int _], _)) rfl (u_ rfl) ?_
    refine wrI (pc := 18) (len_s := 1) rfl hk ?_
    show wF _ 156 (9, [some (.ref _), some (.int _), some (.int _)], [.int _], _) _
    refine w_t (pc := 9) (e_s := (15, 3, 24, 0, 0, .null, [])) (y_s := (24, [some (.ref _), some (.int _), some (.int _)], [], _)) rfl (u_ rfl) ?_
    refine w_t (pc := 24) (e_s := (0, 1, 0, 0, 0, .int (-1), [])) (y_s := (25, [some (.ref _), some (.int _), some (.int _)], [.int _], _)) rfl (u_ rfl) ?_
    exact wrI (pc := 25) (len_s := 1) rfl hk t_s
  · replace t_s := t_s.2 c1_s
    refine w_t (pc := 6) (e_s := (2, 1, 0, 0, 0, .null, [])) (y_s := (7, [some (.long _), none, some (.long _), none, some (.long _), none], [.long _], _)) rfl (u_ rfl) ?_
    refine w_t (pc := 7) (e_s := (2, 2, 4, 0, 0, .null, [])) (y_s := (9, [some (.long _), none, some (.long _), none, some (.long _), none], [.long _, .long _], _)) rfl (u_ rfl) ?_
    refine w_t (pc := 9) (e_s := (14, 1, 0, 0, 0, .null, [])) (y_s := (10, [some (.long _), none, some (.long _), none, some (.long _), none], [.int (lg_cmp _ _)], _)) rfl (u_ rfl) ?_
    refine wl4 (pc := 10) (len_s := 3) (Y := 3) rfl (Int32.toInt_toInt64 _) (by decide) (fun c2_s => ?_) (fun c2_s => ?_)
    · replace t_s := t_s.1 c2_s
      refine w_t (pc := 17) (e_s := (0, 1, 0, 0, 0, .int 0, [])) (y_s := (18, [some (.long _), none, some (.long _), none, some (.long _), none], [.int _], _)) rfl (u_ rfl) ?_
      refine wrI (pc := 18) (len_s := 1) rfl hk ?_
      show wF _ 156 (9, [some (.ref _), some (.int _), some (.int _)], [.int _], _) _
      refine w_t (pc := 9) (e_s := (15, 3, 24, 0, 0, .null, [])) (y_s := (24, [some (.ref _), some (.int _), some (.int _)], [], _)) rfl (u_ rfl) ?_
      refine w_t (pc := 24) (e_s := (0, 1, 0, 0, 0, .int (-1), [])) (y_s := (25, [some (.ref _), some (.int _), some (.int _)], [.int _], _)) rfl (u_ rfl) ?_
      exact wrI (pc := 25) (len_s := 1) rfl hk t_s
    · replace t_s := t_s.2 c2_s
      refine w_t (pc := 13) (e_s := (0, 1, 0, 0, 0, .int 1, [])) (y_s := (14, [some (.long _), none, some (.long _), none, some (.long _), none], [.int _], _)) rfl (u_ rfl) ?_
      refine w_t (pc := 14) (e_s := (17, 3, 18, 0, 0, .null, [])) (y_s := (18, [some (.long _), none, some (.long _), none, some (.long _), none], [.int _], _)) rfl (u_ rfl) ?_
      refine wrI (pc := 18) (len_s := 1) rfl hk ?_
      show wF _ 156 (9, [some (.ref _), some (.int _), some (.int _)], [.int _], _) _
      refine w_t (pc := 9) (e_s := (15, 3, 24, 0, 0, .null, [])) (y_s := (12, [some (.ref _), some (.int _), some (.int _)], [], _)) rfl (u_ rfl) ?_
      refine w_t (pc := 12) (e_s := (1, 1, 2, 0, 0, .null, [])) (y_s := (13, [some (.ref _), some (.int _), some (.int _)], [.int _], _)) rfl (u_ rfl) ?_
      refine w_t (pc := 13) (e_s := (10, 1, 0, 0, 0, .null, [])) (y_s := (14, [some (.ref _), some (.int _), some (.int _)], [.long (Int32.toInt64 _)], _)) rfl (u_ rfl) ?_
      refine w_t (pc := 14) (e_s := (0, 1, 0, 0, 0, .long 0, [])) (y_s := (15, [some (.ref _), some (.int _), some (.int _)], [.long _, .long _], _)) rfl (u_ rfl) ?_
      refine w_t (pc := 15) (e_s := (0, 3, 0, 0, 0, .long 5, [(0, 1063)])) (y_s := (18, [some (.ref _), some (.int _), some (.int _)], [.long _, .long _, .long _], _)) rfl (u_ rfl) ?_
      refine wcI (pc := 18) (len_s := 3) rfl rfl (l := [some (.long _), none, some (.long _), none, some (.long _), none]) rfl ?_
      refine w_t (pc := 0) (e_s := (2, 1, 0, 0, 0, .null, [])) (y_s := (1, [some (.long _), none, some (.long _), none, some (.long _), none], [.long _], _)) rfl (u_ rfl) ?_
      refine w_t (pc := 1) (e_s := (2, 1, 2, 0, 0, .null, [])) (y_s := (2, [some (.long _), none, some (.long _), none, some (.long _), none], [.long _, .long _], _)) rfl (u_ rfl) ?_
      refine w_t (pc := 2) (e_s := (14, 1, 0, 0, 0, .null, [])) (y_s := (3, [some (.long _), none, some (.long _), none, some (.long _), none], [.int (lg_cmp _ _)], _)) rfl (u_ rfl) ?_
      refine wl2 (pc := 3) (len_s := 3) (Y := 0) rfl (Int32.toInt_toInt64 _) (by decide) (fun c3_s => ?_) (fun c3_s => ?_)
      · replace t_s := t_s.1 c3_s
        refine w_t (pc := 17) (e_s := (0, 1, 0, 0, 0, .int 0, [])) (y_s := (18, [some (.long _), none, some (.long _), none, some (.long _), none], [.int _], _)) rfl (u_ rfl) ?_
        refine wrI (pc := 18) (len_s := 1) rfl hk ?_
        show wF _ 156 (21, [some (.ref _), some (.int _), some (.int _)], [.int _], _) _
        refine w_t (pc := 21) (e_s := (15, 3, 26, 1, 0, .null, [])) (y_s := (24, [some (.ref _), some (.int _), some (.int _)], [], _)) rfl (u_ rfl) ?_
        refine w_t (pc := 24) (e_s := (0, 1, 0, 0, 0, .int (-1), [])) (y_s := (25, [some (.ref _), some (.int _), some (.int _)], [.int _], _)) rfl (u_ rfl) ?_
        exact wrI (pc := 25) (len_s := 1) rfl hk t_s
      · replace t_s := t_s.2 c3_s
        refine w_t (pc := 6) (e_s := (2, 1, 0, 0, 0, .null, [])) (y_s := (7, [some (.long _), none, some (.long _), none, some (.long _), none], [.long _], _)) rfl (u_ rfl) ?_
        refine w_t (pc := 7) (e_s := (2, 2, 4, 0, 0, .null, [])) (y_s := (9, [some (.long _), none, some (.long _), none, some (.long _), none], [.long _, .long _], _)) rfl (u_ rfl) ?_
        refine w_t (pc := 9) (e_s := (14, 1, 0, 0, 0, .null, [])) (y_s := (10, [some (.long _), none, some (.long _), none, some (.long _), none], [.int (lg_cmp _ _)], _)) rfl (u_ rfl) ?_
        refine wl4 (pc := 10) (len_s := 3) (Y := 5) rfl (Int32.toInt_toInt64 _) (by decide) (fun c4_s => ?_) (fun c4_s => ?_)
        · replace t_s := t_s.1 c4_s
          refine w_t (pc := 17) (e_s := (0, 1, 0, 0, 0, .int 0, [])) (y_s := (18, [some (.long _), none, some (.long _), none, some (.long _), none], [.int _], _)) rfl (u_ rfl) ?_
          refine wrI (pc := 18) (len_s := 1) rfl hk ?_
          show wF _ 156 (21, [some (.ref _), some (.int _), some (.int _)], [.int _], _) _
          refine w_t (pc := 21) (e_s := (15, 3, 26, 1, 0, .null, [])) (y_s := (24, [some (.ref _), some (.int _), some (.int _)], [], _)) rfl (u_ rfl) ?_
          refine w_t (pc := 24) (e_s := (0, 1, 0, 0, 0, .int (-1), [])) (y_s := (25, [some (.ref _), some (.int _), some (.int _)], [.int _], _)) rfl (u_ rfl) ?_
          exact wrI (pc := 25) (len_s := 1) rfl hk t_s
        · replace t_s := t_s.2 c4_s
          refine w_t (pc := 13) (e_s := (0, 1, 0, 0, 0, .int 1, [])) (y_s := (14, [some (.long _), none, some (.long _), none, some (.long _), none], [.int _], _)) rfl (u_ rfl) ?_
          refine w_t (pc := 14) (e_s := (17, 3, 18, 0, 0, .null, [])) (y_s := (18, [some (.long _), none, some (.long _), none, some (.long _), none], [.int _], _)) rfl (u_ rfl) ?_
          refine wrI (pc := 18) (len_s := 1) rfl hk ?_
          show wF _ 156 (21, [some (.ref _), some (.int _), some (.int _)], [.int _], _) _
          refine w_t (pc := 21) (e_s := (15, 3, 26, 1, 0, .null, [])) (y_s := (26, [some (.ref _), some (.int _), some (.int _)], [], _)) rfl (u_ rfl) ?_
          refine w_t (pc := 26) (e_s := (3, 1, 0, 0, 0, .null, [])) (y_s := (27, [some (.ref _), some (.int _), some (.int _)], [.ref _], _)) rfl (u_ rfl) ?_
          refine w20 (pc := 27) (len_s := 3) rfl ?_
          refine w_t (pc := 30) (e_s := (0, 2, 0, 0, 0, .int 8, [])) (y_s := (32, [some (.ref _), some (.int _), some (.int _)], [.int _, .int _], _)) rfl (u_ rfl) ?_
          refine wi1 (pc := 32) (len_s := 3) (Y := 8) rfl rfl (by decide) (fun c5_s => ?_) (fun c5_s => ?_)
          · replace t_s := t_s.1 c5_s
            refine w_t (pc := 35) (e_s := (0, 2, 0, 0, 0, .int (-3), [])) (y_s := (37, [some (.ref _), some (.int _), some (.int _)], [.int _], _)) rfl (u_ rfl) ?_
            exact wrI (pc := 37) (len_s := 1) rfl hk t_s
          · replace t_s := t_s.2 c5_s
            refine w_t (pc := 38) (e_s := (3, 1, 0, 0, 0, .null, [])) (y_s := (39, [some (.ref _), some (.int _), some (.int _)], [.ref _], _)) rfl (u_ rfl) ?_
            refine w20r (pc := 39) (len_s := 3) (q_s := 103) rfl (krq hk rfl) ?_
            refine w_t (pc := 42) (e_s := (0, 2, 0, 0, 0, .int 12, [])) (y_s := (44, [some (.ref _), some (.int _), some (.int _)], [.int _, .ref _], _)) rfl (u_ rfl) ?_
            refine w_t (pc := 44) (e_s := (3, 1, 0, 0, 0, .null, [])) (y_s := (45, [some (.ref _), some (.int _), some (.int _)], [.ref _, .int _, .ref _], _)) rfl (u_ rfl) ?_
            refine w20 (pc := 45) (len_s := 3) rfl ?_
            refine w_t (pc := 48) (e_s := (7, 1, 0, 0, 0, .null, [])) (y_s := (49, [some (.ref _), some (.int _), some (.int _)], [.int (_ + _), .ref _], _)) rfl (u_ rfl) ?_
            refine w_t (pc := 49) (e_s := (1, 1, 1, 0, 0, .null, [])) (y_s := (50, [some (.ref _), some (.int _), some (.int _)], [.int _, .int _, .ref _], _)) rfl (u_ rfl) ?_
            refine w25 (pc := 50) (len_s := 1) rfl (hk.1 103 0 104 rfl rfl) (fun c6_s => ?_)
            replace t_s := t_s c6_s
            refine w_t (pc := 51) (e_s := (3, 1, 0, 0, 0, .null, [])) (y_s := (52, [some (.ref _), some (.int _), some (.int _)], [.ref _], _)) rfl (u_ rfl) ?_
            refine w20r (pc := 52) (len_s := 3) (q_s := 103) rfl (krq hk rfl) ?_
            refine w_t (pc := 55) (e_s := (0, 2, 0, 0, 0, .int 20, [])) (y_s := (57, [some (.ref _), some (.int _), some (.int _)], [.int _, .ref _], _)) rfl (u_ rfl) ?_
            refine w_t (pc := 57) (e_s := (3, 1, 0, 0, 0, .null, [])) (y_s := (58, [some (.ref _), some (.int _), some (.int _)], [.ref _, .int _, .ref _], _)) rfl (u_ rfl) ?_
            refine w20 (pc := 58) (len_s := 3) rfl ?_
            refine w_t (pc := 61) (e_s := (7, 1, 0, 0, 0, .null, [])) (y_s := (62, [some (.ref _), some (.int _), some (.int _)], [.int (_ + _), .ref _], _)) rfl (u_ rfl) ?_
            refine w_t (pc := 62) (e_s := (1, 1, 2, 0, 0, .null, [])) (y_s := (63, [some (.ref _), some (.int _), some (.int _)], [.int _, .int _, .ref _], _)) rfl (u_ rfl) ?_
            refine w25 (pc := 63) (len_s := 1) rfl (hk.1 103 0 104 rfl rfl) (fun c7_s => ?_)
            replace t_s := t_s c7_s
            refine w_t (pc := 64) (e_s := (3, 1, 0, 0, 0, .null, [])) (y_s := (65, [some (.ref _), some (.int _), some (.int _)], [.ref _], _)) rfl (u_ rfl) ?_
            refine w20r (pc := 65) (len_s := 3) (q_s := 103) rfl (krq hk rfl) ?_
            refine w_t (pc := 68) (e_s := (0, 2, 0, 0, 0, .int 60, [])) (y_s := (70, [some (.ref _), some (.int _), some (.int _)], [.int _, .ref _], _)) rfl (u_ rfl) ?_
            refine w_t (pc := 70) (e_s := (3, 1, 0, 0, 0, .null, [])) (y_s := (71, [some (.ref _), some (.int _), some (.int _)], [.ref _, .int _, .ref _], _)) rfl (u_ rfl) ?_
            refine w20 (pc := 71) (len_s := 3) rfl ?_
            refine w_t (pc := 74) (e_s := (7, 1, 0, 0, 0, .null, [])) (y_s := (75, [some (.ref _), some (.int _), some (.int _)], [.int (_ + _), .ref _], _)) rfl (u_ rfl) ?_
            refine w_t (pc := 75) (e_s := (0, 1, 0, 0, 0, .int (-1), [])) (y_s := (76, [some (.ref _), some (.int _), some (.int _)], [.int _, .int _, .ref _], _)) rfl (u_ rfl) ?_
            refine w25 (pc := 76) (len_s := 1) rfl (hk.1 103 0 104 rfl rfl) (fun c8_s => ?_)
            replace t_s := t_s c8_s
            refine w_t (pc := 77) (e_s := (3, 1, 0, 0, 0, .null, [])) (y_s := (78, [some (.ref _), some (.int _), some (.int _)], [.ref _], _)) rfl (u_ rfl) ?_
            refine w_t (pc := 78) (e_s := (39, 1, 0, 0, 0, .null, [])) (y_s := (79, [some (.ref _), some (.int _), some (.int _)], [.ref _, .ref _], _)) rfl (u_ rfl) ?_
            refine w20 (pc := 79) (len_s := 3) rfl ?_
            refine w_t (pc := 82) (e_s := (0, 1, 0, 0, 0, .int 1, [])) (y_s := (83, [some (.ref _), some (.int _), some (.int _)], [.int _, .int _, .ref _], _)) rfl (u_ rfl) ?_
            refine w_t (pc := 83) (e_s := (7, 1, 0, 0, 0, .null, [])) (y_s := (84, [some (.ref _), some (.int _), some (.int _)], [.int (_ + _), .ref _], _)) rfl (u_ rfl) ?_
            refine w21 (pc := 84) (len_s := 3) rfl ?_
            refine w_t (pc := 87) (e_s := (3, 1, 0, 0, 0, .null, [])) (y_s := (88, [some (.ref _), some (.int _), some (.int _)], [.ref _], _)) rfl (u_ rfl) ?_
            refine w20 (pc := 88) (len_s := 3) rfl ?_
            refine w_t (pc := 91) (e_s := (0, 1, 0, 0, 0, .int 1, [])) (y_s := (92, [some (.ref _), some (.int _), some (.int _)], [.int _, .int _], _)) rfl (u_ rfl) ?_
            refine w_t (pc := 92) (e_s := (7, 1, 0, 1, 0, .null, [])) (y_s := (93, [some (.ref _), some (.int _), some (.int _)], [.int (_ - _)], _)) rfl (u_ rfl) ?_
            exact wrI (pc := 93) (len_s := 1) rfl hk t_s
/-- ColdShod$Idea.become(LColdShod$Idea;)V, from 0 on -/
theorem sg_35_0 {F_s : Nat} {d_s e_s : Nat} {h_s : zH} {K_s : zH → Prop} (hk : hKn h_s) (t_s : K_s (h_s.1, zup (zup (zup (zup (zup (zup (zup h_s.2.1 d_s 0 (h_s.2.1 e_s 0)) d_s 4 ((zup h_s.2.1 d_s 0 (h_s.2.1 e_s 0)) e_s 4)) d_s 1 ((zup (zup h_s.2.1 d_s 0 (h_s.2.1 e_s 0)) d_s 4 ((zup h_s.2.1 d_s 0 (h_s.2.1 e_s 0)) e_s 4)) e_s 1)) d_s 2 ((zup (zup (zup h_s.2.1 d_s 0 (h_s.2.1 e_s 0)) d_s 4 ((zup h_s.2.1 d_s 0 (h_s.2.1 e_s 0)) e_s 4)) d_s 1 ((zup (zup h_s.2.1 d_s 0 (h_s.2.1 e_s 0)) d_s 4 ((zup h_s.2.1 d_s 0 (h_s.2.1 e_s 0)) e_s 4)) e_s 1)) e_s 2)) d_s 3 ((zup (zup (zup (zup h_s.2.1 d_s 0 (h_s.2.1 e_s 0)) d_s 4 ((zup h_s.2.1 d_s 0 (h_s.2.1 e_s 0)) e_s 4)) d_s 1 ((zup (zup h_s.2.1 d_s 0 (h_s.2.1 e_s 0)) d_s 4 ((zup h_s.2.1 d_s 0 (h_s.2.1 e_s 0)) e_s 4)) e_s 1)) d_s 2 ((zup (zup (zup h_s.2.1 d_s 0 (h_s.2.1 e_s 0)) d_s 4 ((zup h_s.2.1 d_s 0 (h_s.2.1 e_s 0)) e_s 4)) d_s 1 ((zup (zup h_s.2.1 d_s 0 (h_s.2.1 e_s 0)) d_s 4 ((zup h_s.2.1 d_s 0 (h_s.2.1 e_s 0)) e_s 4)) e_s 1)) e_s 2)) e_s 3)) d_s 5 ((zup (zup (zup (zup (zup h_s.2.1 d_s 0 (h_s.2.1 e_s 0)) d_s 4 ((zup h_s.2.1 d_s 0 (h_s.2.1 e_s 0)) e_s 4)) d_s 1 ((zup (zup h_s.2.1 d_s 0 (h_s.2.1 e_s 0)) d_s 4 ((zup h_s.2.1 d_s 0 (h_s.2.1 e_s 0)) e_s 4)) e_s 1)) d_s 2 ((zup (zup (zup h_s.2.1 d_s 0 (h_s.2.1 e_s 0)) d_s 4 ((zup h_s.2.1 d_s 0 (h_s.2.1 e_s 0)) e_s 4)) d_s 1 ((zup (zup h_s.2.1 d_s 0 (h_s.2.1 e_s 0)) d_s 4 ((zup h_s.2.1 d_s 0 (h_s.2.1 e_s 0)) e_s 4)) e_s 1)) e_s 2)) d_s 3 ((zup (zup (zup (zup h_s.2.1 d_s 0 (h_s.2.1 e_s 0)) d_s 4 ((zup h_s.2.1 d_s 0 (h_s.2.1 e_s 0)) e_s 4)) d_s 1 ((zup (zup h_s.2.1 d_s 0 (h_s.2.1 e_s 0)) d_s 4 ((zup h_s.2.1 d_s 0 (h_s.2.1 e_s 0)) e_s 4)) e_s 1)) d_s 2 ((zup (zup (zup h_s.2.1 d_s 0 (h_s.2.1 e_s 0)) d_s 4 ((zup h_s.2.1 d_s 0 (h_s.2.1 e_s 0)) e_s 4)) d_s 1 ((zup (zup h_s.2.1 d_s 0 (h_s.2.1 e_s 0)) d_s 4 ((zup h_s.2.1 d_s 0 (h_s.2.1 e_s 0)) e_s 4)) e_s 1)) e_s 2)) e_s 3)) e_s 5)) d_s 6 ((zup (zup (zup (zup (zup (zup h_s.2.1 d_s 0 (h_s.2.1 e_s 0)) d_s 4 ((zup h_s.2.1 d_s 0 (h_s.2.1 e_s 0)) e_s 4)) d_s 1 ((zup (zup h_s.2.1 d_s 0 (h_s.2.1 e_s 0)) d_s 4 ((zup h_s.2.1 d_s 0 (h_s.2.1 e_s 0)) e_s 4)) e_s 1)) d_s 2 ((zup (zup (zup h_s.2.1 d_s 0 (h_s.2.1 e_s 0)) d_s 4 ((zup h_s.2.1 d_s 0 (h_s.2.1 e_s 0)) e_s 4)) d_s 1 ((zup (zup h_s.2.1 d_s 0 (h_s.2.1 e_s 0)) d_s 4 ((zup h_s.2.1 d_s 0 (h_s.2.1 e_s 0)) e_s 4)) e_s 1)) e_s 2)) d_s 3 ((zup (zup (zup (zup h_s.2.1 d_s 0 (h_s.2.1 e_s 0)) d_s 4 ((zup h_s.2.1 d_s 0 (h_s.2.1 e_s 0)) e_s 4)) d_s 1 ((zup (zup h_s.2.1 d_s 0 (h_s.2.1 e_s 0)) d_s 4 ((zup h_s.2.1 d_s 0 (h_s.2.1 e_s 0)) e_s 4)) e_s 1)) d_s 2 ((zup (zup (zup h_s.2.1 d_s 0 (h_s.2.1 e_s 0)) d_s 4 ((zup h_s.2.1 d_s 0 (h_s.2.1 e_s 0)) e_s 4)) d_s 1 ((zup (zup h_s.2.1 d_s 0 (h_s.2.1 e_s 0)) d_s 4 ((zup h_s.2.1 d_s 0 (h_s.2.1 e_s 0)) e_s 4)) e_s 1)) e_s 2)) e_s 3)) d_s 5 ((zup (zup (zup (zup (zup h_s.2.1 d_s 0 (h_s.2.1 e_s 0)) d_s 4 ((zup h_s.2.1 d_s 0 (h_s.2.1 e_s 0)) e_s 4)) d_s 1 ((zup (zup h_s.2.1 d_s 0 (h_s.2.1 e_s 0)) d_s 4 ((zup h_s.2.1 d_s 0 (h_s.2.1 e_s 0)) e_s 4)) e_s 1)) d_s 2 ((zup (zup (zup h_s.2.1 d_s 0 (h_s.2.1 e_s 0)) d_s 4 ((zup h_s.2.1 d_s 0 (h_s.2.1 e_s 0)) e_s 4)) d_s 1 ((zup (zup h_s.2.1 d_s 0 (h_s.2.1 e_s 0)) d_s 4 ((zup h_s.2.1 d_s 0 (h_s.2.1 e_s 0)) e_s 4)) e_s 1)) e_s 2)) d_s 3 ((zup (zup (zup (zup h_s.2.1 d_s 0 (h_s.2.1 e_s 0)) d_s 4 ((zup h_s.2.1 d_s 0 (h_s.2.1 e_s 0)) e_s 4)) d_s 1 ((zup (zup h_s.2.1 d_s 0 (h_s.2.1 e_s 0)) d_s 4 ((zup h_s.2.1 d_s 0 (h_s.2.1 e_s 0)) e_s 4)) e_s 1)) d_s 2 ((zup (zup (zup h_s.2.1 d_s 0 (h_s.2.1 e_s 0)) d_s 4 ((zup h_s.2.1 d_s 0 (h_s.2.1 e_s 0)) e_s 4)) d_s 1 ((zup (zup h_s.2.1 d_s 0 (h_s.2.1 e_s 0)) d_s 4 ((zup h_s.2.1 d_s 0 (h_s.2.1 e_s 0)) e_s 4)) e_s 1)) e_s 2)) e_s 3)) e_s 5)) e_s 6), h_s.2.2.1, h_s.2.2.2)) : wF (F_s + 1) 35 (0, [some (.ref d_s), some (.ref e_s)], [], h_s) (gV K_s) := by
  refine w_0 (pc := 0) (e_s := (3, 1, 0, 0, 0, .null, [])) (y_s := (1, [some (.ref _), some (.ref _)], [.ref _], _)) rfl (u_ rfl) ?_
  refine w_t (pc := 1) (e_s := (3, 1, 1, 0, 0, .null, [])) (y_s := (2, [some (.ref _), some (.ref _)], [.ref _, .ref _], _)) rfl (u_ rfl) ?_
  refine w20 (pc := 2) (len_s := 3) rfl ?_
  refine w21 (pc := 5) (len_s := 3) rfl ?_
  refine w_t (pc := 8) (e_s := (3, 1, 0, 0, 0, .null, [])) (y_s := (9, [some (.ref _), some (.ref _)], [.ref _], _)) rfl (u_ rfl) ?_
  refine w_t (pc := 9) (e_s := (3, 1, 1, 0, 0, .null, [])) (y_s := (10, [some (.ref _), some (.ref _)], [.ref _, .ref _], _)) rfl (u_ rfl) ?_
  refine w20 (pc := 10) (len_s := 3) rfl ?_
  refine w21 (pc := 13) (len_s := 3) rfl ?_
  refine w_t (pc := 16) (e_s := (3, 1, 0, 0, 0, .null, [])) (y_s := (17, [some (.ref _), some (.ref _)], [.ref _], _)) rfl (u_ rfl) ?_
  refine w_t (pc := 17) (e_s := (3, 1, 1, 0, 0, .null, [])) (y_s := (18, [some (.ref _), some (.ref _)], [.ref _, .ref _], _)) rfl (u_ rfl) ?_
  refine wcV (pc := 18) (len_s := 3) rfl rfl (l := [some (.ref _), some (.ref _)]) rfl ?_
  refine w_t (pc := 0) (e_s := (3, 1, 0, 0, 0, .null, [])) (y_s := (1, [some (.ref _), some (.ref _)], [.ref _], _)) rfl (u_ rfl) ?_
  refine w_t (pc := 1) (e_s := (3, 1, 1, 0, 0, .null, [])) (y_s := (2, [some (.ref _), some (.ref _)], [.ref _, .ref _], _)) rfl (u_ rfl) ?_
  refine w20 (pc := 2) (len_s := 3) rfl ?_
  refine w21 (pc := 5) (len_s := 3) rfl ?_
  refine w_t (pc := 8) (e_s := (3, 1, 0, 0, 0, .null, [])) (y_s := (9, [some (.ref _), some (.ref _)], [.ref _], _)) rfl (u_ rfl) ?_
  refine w_t (pc := 9) (e_s := (3, 1, 1, 0, 0, .null, [])) (y_s := (10, [some (.ref _), some (.ref _)], [.ref _, .ref _], _)) rfl (u_ rfl) ?_
  refine w20 (pc := 10) (len_s := 3) rfl ?_
  refine w21 (pc := 13) (len_s := 3) rfl ?_
  refine w_t (pc := 16) (e_s := (3, 1, 0, 0, 0, .null, [])) (y_s := (17, [some (.ref _), some (.ref _)], [.ref _], _)) rfl (u_ rfl) ?_
  refine w_t (pc := 17) (e_s := (3, 1, 1, 0, 0, .null, [])) (y_s := (18, [some (.ref _), some (.ref _)], [.ref _, .ref _], _)) rfl (u_ rfl) ?_
  refine w20 (pc := 18) (len_s := 3) rfl ?_
  refine w21 (pc := 21) (len_s := 3) rfl ?_
  refine w_t (pc := 24) (e_s := (3, 1, 0, 0, 0, .null, [])) (y_s := (25, [some (.ref _), some (.ref _)], [.ref _], _)) rfl (u_ rfl) ?_
  refine w_t (pc := 25) (e_s := (3, 1, 1, 0, 0, .null, [])) (y_s := (26, [some (.ref _), some (.ref _)], [.ref _, .ref _], _)) rfl (u_ rfl) ?_
  refine w20 (pc := 26) (len_s := 3) rfl ?_
  refine w21 (pc := 29) (len_s := 3) rfl ?_
  refine w_t (pc := 32) (e_s := (3, 1, 0, 0, 0, .null, [])) (y_s := (33, [some (.ref _), some (.ref _)], [.ref _], _)) rfl (u_ rfl) ?_
  refine w_t (pc := 33) (e_s := (3, 1, 1, 0, 0, .null, [])) (y_s := (34, [some (.ref _), some (.ref _)], [.ref _, .ref _], _)) rfl (u_ rfl) ?_
  refine w20 (pc := 34) (len_s := 3) rfl ?_
  refine w21 (pc := 37) (len_s := 3) rfl ?_
  refine wrV (pc := 40) (len_s := 1) rfl hk ?_
  show wF _ 35 (21, [some (.ref _), some (.ref _)], [], _) _
  exact wrV (pc := 21) (len_s := 1) rfl hk t_s
/-- ColdShod$Idea.becomeByDeeds(LColdShod$Idea;)V, from 0 on -/
theorem sg_36_0 {F_s : Nat} {d_s e_s : Nat} {h_s : zH} {K_s : zH → Prop} (hk : hKn h_s) (t_s : K_s (h_s.1, zup (zup (zup (zup (zup h_s.2.1 d_s 1 (h_s.2.1 e_s 1)) d_s 2 ((zup h_s.2.1 d_s 1 (h_s.2.1 e_s 1)) e_s 2)) d_s 3 ((zup (zup h_s.2.1 d_s 1 (h_s.2.1 e_s 1)) d_s 2 ((zup h_s.2.1 d_s 1 (h_s.2.1 e_s 1)) e_s 2)) e_s 3)) d_s 5 ((zup (zup (zup h_s.2.1 d_s 1 (h_s.2.1 e_s 1)) d_s 2 ((zup h_s.2.1 d_s 1 (h_s.2.1 e_s 1)) e_s 2)) d_s 3 ((zup (zup h_s.2.1 d_s 1 (h_s.2.1 e_s 1)) d_s 2 ((zup h_s.2.1 d_s 1 (h_s.2.1 e_s 1)) e_s 2)) e_s 3)) e_s 5)) d_s 6 ((zup (zup (zup (zup h_s.2.1 d_s 1 (h_s.2.1 e_s 1)) d_s 2 ((zup h_s.2.1 d_s 1 (h_s.2.1 e_s 1)) e_s 2)) d_s 3 ((zup (zup h_s.2.1 d_s 1 (h_s.2.1 e_s 1)) d_s 2 ((zup h_s.2.1 d_s 1 (h_s.2.1 e_s 1)) e_s 2)) e_s 3)) d_s 5 ((zup (zup (zup h_s.2.1 d_s 1 (h_s.2.1 e_s 1)) d_s 2 ((zup h_s.2.1 d_s 1 (h_s.2.1 e_s 1)) e_s 2)) d_s 3 ((zup (zup h_s.2.1 d_s 1 (h_s.2.1 e_s 1)) d_s 2 ((zup h_s.2.1 d_s 1 (h_s.2.1 e_s 1)) e_s 2)) e_s 3)) e_s 5)) e_s 6), h_s.2.2.1, h_s.2.2.2)) : wF (F_s + 1) 36 (0, [some (.ref d_s), some (.ref e_s)], [], h_s) (gV K_s) := by
  refine w_0 (pc := 0) (e_s := (3, 1, 0, 0, 0, .null, [])) (y_s := (1, [some (.ref _), some (.ref _)], [.ref _], _)) rfl (u_ rfl) ?_
  refine w_t (pc := 1) (e_s := (3, 1, 1, 0, 0, .null, [])) (y_s := (2, [some (.ref _), some (.ref _)], [.ref _, .ref _], _)) rfl (u_ rfl) ?_
  refine w20 (pc := 2) (len_s := 3) rfl ?_
  refine w21 (pc := 5) (len_s := 3) rfl ?_
  refine w_t (pc := 8) (e_s := (3, 1, 0, 0, 0, .null, [])) (y_s := (9, [some (.ref _), some (.ref _)], [.ref _], _)) rfl (u_ rfl) ?_
  refine w_t (pc := 9) (e_s := (3, 1, 1, 0, 0, .null, [])) (y_s := (10, [some (.ref _), some (.ref _)], [.ref _, .ref _], _)) rfl (u_ rfl) ?_
  refine w20 (pc := 10) (len_s := 3) rfl ?_
  refine w21 (pc := 13) (len_s := 3) rfl ?_
  refine w_t (pc := 16) (e_s := (3, 1, 0, 0, 0, .null, [])) (y_s := (17, [some (.ref _), some (.ref _)], [.ref _], _)) rfl (u_ rfl) ?_
  refine w_t (pc := 17) (e_s := (3, 1, 1, 0, 0, .null, [])) (y_s := (18, [some (.ref _), some (.ref _)], [.ref _, .ref _], _)) rfl (u_ rfl) ?_
  refine w20 (pc := 18) (len_s := 3) rfl ?_
  refine w21 (pc := 21) (len_s := 3) rfl ?_
  refine w_t (pc := 24) (e_s := (3, 1, 0, 0, 0, .null, [])) (y_s := (25, [some (.ref _), some (.ref _)], [.ref _], _)) rfl (u_ rfl) ?_
  refine w_t (pc := 25) (e_s := (3, 1, 1, 0, 0, .null, [])) (y_s := (26, [some (.ref _), some (.ref _)], [.ref _, .ref _], _)) rfl (u_ rfl) ?_
  refine w20 (pc := 26) (len_s := 3) rfl ?_
  refine w21 (pc := 29) (len_s := 3) rfl ?_
  refine w_t (pc := 32) (e_s := (3, 1, 0, 0, 0, .null, [])) (y_s := (33, [some (.ref _), some (.ref _)], [.ref _], _)) rfl (u_ rfl) ?_
  refine w_t (pc := 33) (e_s := (3, 1, 1, 0, 0, .null, [])) (y_s := (34, [some (.ref _), some (.ref _)], [.ref _, .ref _], _)) rfl (u_ rfl) ?_
  refine w20 (pc := 34) (len_s := 3) rfl ?_
  refine w21 (pc := 37) (len_s := 3) rfl ?_
  exact wrV (pc := 40) (len_s := 1) rfl hk t_s
/-- ColdShodModel.image()I, from 0 on -/
theorem sg_215_0 {F_s : Nat}  {h_s : zH} {K_s : Int32 → zH → Prop} (hk : hKn h_s) (t_s : wF F_s 215 (15, [some (.ref 102), some (.int 0)], [], (h_s.1, zup (zup h_s.2.1 102 35 1) 102 36 (h_s.2.1 102 7), h_s.2.2.1, h_s.2.2.2)) (gI K_s)) : wF (F_s + 1) 215 (0, [some (.ref 102), none], [], h_s) (gI K_s) := by
  refine w_0 (pc := 0) (e_s := (3, 1, 0, 0, 0, .null, [])) (y_s := (1, [some (.ref _), none], [.ref _], _)) rfl (u_ rfl) ?_
  refine w_t (pc := 1) (e_s := (0, 1, 0, 0, 0, .int 1, [])) (y_s := (2, [some (.ref _), none], [.int _, .ref _], _)) rfl (u_ rfl) ?_
  refine w21b (pc := 2) (len_s := 3) rfl ?_
  refine w_t (pc := 5) (e_s := (3, 1, 0, 0, 0, .null, [])) (y_s := (6, [some (.ref _), none], [.ref _], _)) rfl (u_ rfl) ?_
  refine w_t (pc := 6) (e_s := (3, 1, 0, 0, 0, .null, [])) (y_s := (7, [some (.ref _), none], [.ref _, .ref _], _)) rfl (u_ rfl) ?_
  refine w20 (pc := 7) (len_s := 3) rfl ?_
  refine w21 (pc := 10) (len_s := 3) rfl ?_
  refine w_t (pc := 13) (e_s := (0, 1, 0, 0, 0, .int 0, [])) (y_s := (14, [some (.ref _), none], [.int _], _)) rfl (u_ rfl) ?_
  refine w_t (pc := 14) (e_s := (4, 1, 1, 0, 0, .null, [])) (y_s := (15, [some (.ref _), some (.int _)], [], _)) rfl (u_ rfl) ?_
  exact t_s
/-- ColdShodModel.image()I, from 15 on -/
theorem sg_215_15 {F_s : Nat} {x1_s : Int32} {h_s : zH} {K_s : Int32 → zH → Prop} (hk : hKn h_s) (t_s : (x1_s.toInt < 104 → (zix x1_s < 104 → wF F_s 215 (15, [some (.ref 102), some (.int (x1_s + 1))], [], (h_s.1, zup h_s.2.1 120 (zix x1_s) (h_s.2.1 103 (zix x1_s)), h_s.2.2.1, h_s.2.2.2)) (gI K_s))) ∧ (¬ x1_s.toInt < 104 → wF F_s 215 (41, [some (.ref 102), some (.int 0)], [], h_s) (gI K_s))) : wF (F_s + 1) 215 (15, [some (.ref 102), some (.int x1_s)], [], h_s) (gI K_s) := by
  refine w_0 (pc := 15) (e_s := (1, 1, 1, 0, 0, .null, [])) (y_s := (16, [some (.ref _), some (.int _)], [.int _], _)) rfl (u_ rfl) ?_
  refine w_t (pc := 16) (e_s := (0, 2, 0, 0, 0, .int 104, [])) (y_s := (18, [some (.ref _), some (.int _)], [.int _, .int _], _)) rfl (u_ rfl) ?_
  refine wi3 (pc := 18) (len_s := 3) (Y := 104) rfl rfl (by decide) (fun c1_s => ?_) (fun c1_s => ?_)
  · replace t_s := t_s.1 c1_s
    refine w_t (pc := 21) (e_s := (3, 1, 0, 0, 0, .null, [])) (y_s := (22, [some (.ref _), some (.int _)], [.ref _], _)) rfl (u_ rfl) ?_
    refine w20r (pc := 22) (len_s := 3) (q_s := 120) rfl (krq hk rfl) ?_
    refine w_t (pc := 25) (e_s := (1, 1, 1, 0, 0, .null, [])) (y_s := (26, [some (.ref _), some (.int _)], [.int _, .ref _], _)) rfl (u_ rfl) ?_
    refine w_t (pc := 26) (e_s := (3, 1, 0, 0, 0, .null, [])) (y_s := (27, [some (.ref _), some (.int _)], [.ref _, .int _, .ref _], _)) rfl (u_ rfl) ?_
    refine w20r (pc := 27) (len_s := 3) (q_s := 103) rfl (krq hk rfl) ?_
    refine w_t (pc := 30) (e_s := (1, 1, 1, 0, 0, .null, [])) (y_s := (31, [some (.ref _), some (.int _)], [.int _, .ref _, .int _, .ref _], _)) rfl (u_ rfl) ?_
    refine w22 (pc := 31) (len_s := 1) rfl (hk.1 103 0 104 rfl rfl) (fun c2_s => ?_)
    replace t_s := t_s c2_s
    refine w25 (pc := 32) (len_s := 1) rfl (hk.1 120 0 104 rfl rfl) (fun c3_s => ?_)
    refine w_t (pc := 33) (e_s := (19, 3, 1, 0, 0, .int 1, [])) (y_s := (36, [some (.ref _), some (.int _)], [], _)) rfl (u_ rfl) ?_
    refine w_t (pc := 36) (e_s := (17, 3, 15, 0, 0, .null, [])) (y_s := (15, [some (.ref _), some (.int _)], [], _)) rfl (u_ rfl) ?_
    exact t_s
  · replace t_s := t_s.2 c1_s
    refine w_t (pc := 39) (e_s := (0, 1, 0, 0, 0, .int 0, [])) (y_s := (40, [some (.ref _), some (.int _)], [.int _], _)) rfl (u_ rfl) ?_
    refine w_t (pc := 40) (e_s := (4, 1, 1, 0, 0, .null, [])) (y_s := (41, [some (.ref _), some (.int _)], [], _)) rfl (u_ rfl) ?_
    exact t_s
/-- ColdShodModel.image()I, from 41 on -/
theorem sg_215_41 {F_s : Nat} {x1_s : Int32} {h_s : zH} {K_s : Int32 → zH → Prop} (hk : hKn h_s) (t_s : (x1_s.toInt < 5 → (zix x1_s < 5 → wF F_s 215 (41, [some (.ref 102), some (.int (x1_s + 1))], [], (h_s.1, zup h_s.2.1 121 (zix x1_s) (h_s.2.1 119 (zix x1_s)), h_s.2.2.1, h_s.2.2.2)) (gI K_s))) ∧ (¬ x1_s.toInt < 5 → K_s (h_s.2.1 119 3) h_s)) : wF (F_s + 1) 215 (41, [some (.ref 102), some (.int x1_s)], [], h_s) (gI K_s) := by
  refine w_0 (pc := 41) (e_s := (1, 1, 1, 0, 0, .null, [])) (y_s := (42, [some (.ref _), some (.int _)], [.int _], _)) rfl (u_ rfl) ?_
  refine w_t (pc := 42) (e_s := (0, 1, 0, 0, 0, .int 5, [])) (y_s := (43, [some (.ref _), some (.int _)], [.int _, .int _], _)) rfl (u_ rfl) ?_
  refine wi3 (pc := 43) (len_s := 3) (Y := 5) rfl rfl (by decide) (fun c1_s => ?_) (fun c1_s => ?_)
  · replace t_s := t_s.1 c1_s
    refine w_t (pc := 46) (e_s := (3, 1, 0, 0, 0, .null, [])) (y_s := (47, [some (.ref _), some (.int _)], [.ref _], _)) rfl (u_ rfl) ?_
    refine w20r (pc := 47) (len_s := 3) (q_s := 121) rfl (krq hk rfl) ?_
    refine w_t (pc := 50) (e_s := (1, 1, 1, 0, 0, .null, [])) (y_s := (51, [some (.ref _), some (.int _)], [.int _, .ref _], _)) rfl (u_ rfl) ?_
    refine w_t (pc := 51) (e_s := (3, 1, 0, 0, 0, .null, [])) (y_s := (52, [some (.ref _), some (.int _)], [.ref _, .int _, .ref _], _)) rfl (u_ rfl) ?_
    refine w20r (pc := 52) (len_s := 3) (q_s := 119) rfl (krq hk rfl) ?_
    refine w_t (pc := 55) (e_s := (1, 1, 1, 0, 0, .null, [])) (y_s := (56, [some (.ref _), some (.int _)], [.int _, .ref _, .int _, .ref _], _)) rfl (u_ rfl) ?_
    refine w22 (pc := 56) (len_s := 1) rfl (hk.1 119 0 5 rfl rfl) (fun c2_s => ?_)
    replace t_s := t_s c2_s
    refine w25 (pc := 57) (len_s := 1) rfl (hk.1 121 0 5 rfl rfl) (fun c3_s => ?_)
    refine w_t (pc := 58) (e_s := (19, 3, 1, 0, 0, .int 1, [])) (y_s := (61, [some (.ref _), some (.int _)], [], _)) rfl (u_ rfl) ?_
    refine w_t (pc := 61) (e_s := (17, 3, 41, 0, 0, .null, [])) (y_s := (41, [some (.ref _), some (.int _)], [], _)) rfl (u_ rfl) ?_
    exact t_s
  · replace t_s := t_s.2 c1_s
    refine w_t (pc := 64) (e_s := (3, 1, 0, 0, 0, .null, [])) (y_s := (65, [some (.ref _), some (.int _)], [.ref _], _)) rfl (u_ rfl) ?_
    refine w20r (pc := 65) (len_s := 3) (q_s := 119) rfl (krq hk rfl) ?_
    refine w_t (pc := 68) (e_s := (0, 1, 0, 0, 0, .int 3, [])) (y_s := (69, [some (.ref _), some (.int _)], [.int _, .ref _], _)) rfl (u_ rfl) ?_
    refine w22 (pc := 69) (len_s := 1) rfl (hk.1 119 0 5 rfl rfl) (fun c4_s => ?_)
    exact wrI (pc := 70) (len_s := 1) rfl hk t_s
/-- ColdShodModel.back()I, from 0 on -/
theorem sg_216_0 {F_s : Nat}  {h_s : zH} {K_s : Int32 → zH → Prop} (hk : hKn h_s) (t_s : ((h_s.2.1 102 35).toInt = 0 → K_s (-5) h_s) ∧ (¬ (h_s.2.1 102 35).toInt = 0 → wF F_s 216 (12, [some (.ref 102), some (.int 0)], [], h_s) (gI K_s))) : wF (F_s + 1) 216 (0, [some (.ref 102), none], [], h_s) (gI K_s) := by
  refine w_0 (pc := 0) (e_s := (3, 1, 0, 0, 0, .null, [])) (y_s := (1, [some (.ref _), none], [.ref _], _)) rfl (u_ rfl) ?_
  refine w20 (pc := 1) (len_s := 3) rfl ?_
  refine wq1 (pc := 4) (len_s := 3) rfl rfl (fun c1_s => ?_) (fun c1_s => ?_)
  · replace t_s := t_s.1 c1_s
    refine w_t (pc := 7) (e_s := (0, 2, 0, 0, 0, .int (-5), [])) (y_s := (9, [some (.ref _), none], [.int _], _)) rfl (u_ rfl) ?_
    exact wrI (pc := 9) (len_s := 1) rfl hk t_s
  · replace t_s := t_s.2 c1_s
    refine w_t (pc := 10) (e_s := (0, 1, 0, 0, 0, .int 0, [])) (y_s := (11, [some (.ref _), none], [.int _], _)) rfl (u_ rfl) ?_
    refine w_t (pc := 11) (e_s := (4, 1, 1, 0, 0, .null, [])) (y_s := (12, [some (.ref _), some (.int _)], [], _)) rfl (u_ rfl) ?_
    exact t_s
/-- ColdShodModel.back()I, from 12 on -/
theorem sg_216_12 {F_s : Nat} {x1_s : Int32} {h_s : zH} {K_s : Int32 → zH → Prop} (hk : hKn h_s) (t_s : (x1_s.toInt < (h_s.2.1 102 36).toInt → (zix (20 + x1_s) < 104 → (zix (28 + x1_s) < 104 → (zix (36 + x1_s) < 104 → (zix (52 + x1_s) < 104 → (zix (60 + x1_s) < 104 → wF F_s 216 (12, [some (.ref 102), some (.int (x1_s + 1))], [], (h_s.1, zup (zup (zup (zup (zup h_s.2.1 103 (zix (20 + x1_s)) (h_s.2.1 120 (zix (20 + x1_s)))) 103 (zix (28 + x1_s)) (h_s.2.1 120 (zix (28 + x1_s)))) 103 (zix (36 + x1_s)) (h_s.2.1 120 (zix (36 + x1_s)))) 103 (zix (52 + x1_s)) (h_s.2.1 120 (zix (52 + x1_s)))) 103 (zix (60 + x1_s)) (h_s.2.1 120 (zix (60 + x1_s))), h_s.2.2.1, h_s.2.2.2)) (gI K_s))))))) ∧ (¬ x1_s.toInt < (h_s.2.1 102 36).toInt → wF F_s 216 (118, [some (.ref 102), some (.int 0)], [], h_s) (gI K_s))) : wF (F_s + 1) 216 (12, [some (.ref 102), some (.int x1_s)], [], h_s) (gI K_s) := by
  refine w_0 (pc := 12) (e_s := (1, 1, 1, 0, 0, .null, [])) (y_s := (13, [some (.ref _), some (.int _)], [.int _], _)) rfl (u_ rfl) ?_
  refine w_t (pc := 13) (e_s := (3, 1, 0, 0, 0, .null, [])) (y_s := (14, [some (.ref _), some (.int _)], [.ref _, .int _], _)) rfl (u_ rfl) ?_
  refine w20 (pc := 14) (len_s := 3) rfl ?_
  refine wi3 (pc := 17) (len_s := 3) rfl rfl rfl (fun c1_s => ?_) (fun c1_s => ?_)
  · replace t_s := t_s.1 c1_s
    refine w_t (pc := 20) (e_s := (3, 1, 0, 0, 0, .null, [])) (y_s := (21, [some (.ref _), some (.int _)], [.ref _], _)) rfl (u_ rfl) ?_
    refine w20r (pc := 21) (len_s := 3) (q_s := 103) rfl (krq hk rfl) ?_
    refine w_t (pc := 24) (e_s := (0, 2, 0, 0, 0, .int 20, [])) (y_s := (26, [some (.ref _), some (.int _)], [.int _, .ref _], _)) rfl (u_ rfl) ?_
    refine w_t (pc := 26) (e_s := (1, 1, 1, 0, 0, .null, [])) (y_s := (27, [some (.ref _), some (.int _)], [.int _, .int _, .ref _], _)) rfl (u_ rfl) ?_
    refine w_t (pc := 27) (e_s := (7, 1, 0, 0, 0, .null, [])) (y_s := (28, [some (.ref _), some (.int _)], [.int (_ + _), .ref _], _)) rfl (u_ rfl) ?_
    refine w_t (pc := 28) (e_s := (3, 1, 0, 0, 0, .null, [])) (y_s := (29, [some (.ref _), some (.int _)], [.ref _, .int _, .ref _], _)) rfl (u_ rfl) ?_
    refine w20r (pc := 29) (len_s := 3) (q_s := 120) rfl (krq hk rfl) ?_
    refine w_t (pc := 32) (e_s := (0, 2, 0, 0, 0, .int 20, [])) (y_s := (34, [some (.ref _), some (.int _)], [.int _, .ref _, .int _, .ref _], _)) rfl (u_ rfl) ?_
    refine w_t (pc := 34) (e_s := (1, 1, 1, 0, 0, .null, [])) (y_s := (35, [some (.ref _), some (.int _)], [.int _, .int _, .ref _, .int _, .ref _], _)) rfl (u_ rfl) ?_
    refine w_t (pc := 35) (e_s := (7, 1, 0, 0, 0, .null, [])) (y_s := (36, [some (.ref _), some (.int _)], [.int (_ + _), .ref _, .int _, .ref _], _)) rfl (u_ rfl) ?_
    refine w22 (pc := 36) (len_s := 1) rfl (hk.1 120 0 104 rfl rfl) (fun c2_s => ?_)
    replace t_s := t_s c2_s
    refine w25 (pc := 37) (len_s := 1) rfl (hk.1 103 0 104 rfl rfl) (fun c3_s => ?_)
    refine w_t (pc := 38) (e_s := (3, 1, 0, 0, 0, .null, [])) (y_s := (39, [some (.ref _), some (.int _)], [.ref _], _)) rfl (u_ rfl) ?_
    refine w20r (pc := 39) (len_s := 3) (q_s := 103) rfl (krq hk rfl) ?_
    refine w_t (pc := 42) (e_s := (0, 2, 0, 0, 0, .int 28, [])) (y_s := (44, [some (.ref _), some (.int _)], [.int _, .ref _], _)) rfl (u_ rfl) ?_
    refine w_t (pc := 44) (e_s := (1, 1, 1, 0, 0, .null, [])) (y_s := (45, [some (.ref _), some (.int _)], [.int _, .int _, .ref _], _)) rfl (u_ rfl) ?_
    refine w_t (pc := 45) (e_s := (7, 1, 0, 0, 0, .null, [])) (y_s := (46, [some (.ref _), some (.int _)], [.int (_ + _), .ref _], _)) rfl (u_ rfl) ?_
    refine w_t (pc := 46) (e_s := (3, 1, 0, 0, 0, .null, [])) (y_s := (47, [some (.ref _), some (.int _)], [.ref _, .int _, .ref _], _)) rfl (u_ rfl) ?_
    refine w20r (pc := 47) (len_s := 3) (q_s := 120) rfl (krq hk rfl) ?_
    refine w_t (pc := 50) (e_s := (0, 2, 0, 0, 0, .int 28, [])) (y_s := (52, [some (.ref _), some (.int _)], [.int _, .ref _, .int _, .ref _], _)) rfl (u_ rfl) ?_
    refine w_t (pc := 52) (e_s := (1, 1, 1, 0, 0, .null, [])) (y_s := (53, [some (.ref _), some (.int _)], [.int _, .int _, .ref _, .int _, .ref _], _)) rfl (u_ rfl) ?_
    refine w_t (pc := 53) (e_s := (7, 1, 0, 0, 0, .null, [])) (y_s := (54, [some (.ref _), some (.int _)], [.int (_ + _), .ref _, .int _, .ref _], _)) rfl (u_ rfl) ?_
    refine w22 (pc := 54) (len_s := 1) rfl (hk.1 120 0 104 rfl rfl) (fun c4_s => ?_)
    replace t_s := t_s c4_s
    refine w25 (pc := 55) (len_s := 1) rfl (hk.1 103 0 104 rfl rfl) (fun c5_s => ?_)
    refine w_t (pc := 56) (e_s := (3, 1, 0, 0, 0, .null, [])) (y_s := (57, [some (.ref _), some (.int _)], [.ref _], _)) rfl (u_ rfl) ?_
    refine w20r (pc := 57) (len_s := 3) (q_s := 103) rfl (krq hk rfl) ?_
    refine w_t (pc := 60) (e_s := (0, 2, 0, 0, 0, .int 36, [])) (y_s := (62, [some (.ref _), some (.int _)], [.int _, .ref _], _)) rfl (u_ rfl) ?_
    refine w_t (pc := 62) (e_s := (1, 1, 1, 0, 0, .null, [])) (y_s := (63, [some (.ref _), some (.int _)], [.int _, .int _, .ref _], _)) rfl (u_ rfl) ?_
    refine w_t (pc := 63) (e_s := (7, 1, 0, 0, 0, .null, [])) (y_s := (64, [some (.ref _), some (.int _)], [.int (_ + _), .ref _], _)) rfl (u_ rfl) ?_
    refine w_t (pc := 64) (e_s := (3, 1, 0, 0, 0, .null, [])) (y_s := (65, [some (.ref _), some (.int _)], [.ref _, .int _, .ref _], _)) rfl (u_ rfl) ?_
    refine w20r (pc := 65) (len_s := 3) (q_s := 120) rfl (krq hk rfl) ?_
    refine w_t (pc := 68) (e_s := (0, 2, 0, 0, 0, .int 36, [])) (y_s := (70, [some (.ref _), some (.int _)], [.int _, .ref _, .int _, .ref _], _)) rfl (u_ rfl) ?_
    refine w_t (pc := 70) (e_s := (1, 1, 1, 0, 0, .null, [])) (y_s := (71, [some (.ref _), some (.int _)], [.int _, .int _, .ref _, .int _, .ref _], _)) rfl (u_ rfl) ?_
    refine w_t (pc := 71) (e_s := (7, 1, 0, 0, 0, .null, [])) (y_s := (72, [some (.ref _), some (.int _)], [.int (_ + _), .ref _, .int _, .ref _], _)) rfl (u_ rfl) ?_
    refine w22 (pc := 72) (len_s := 1) rfl (hk.1 120 0 104 rfl rfl) (fun c6_s => ?_)
    replace t_s := t_s c6_s
    refine w25 (pc := 73) (len_s := 1) rfl (hk.1 103 0 104 rfl rfl) (fun c7_s => ?_)
    refine w_t (pc := 74) (e_s := (3, 1, 0, 0, 0, .null, [])) (y_s := (75, [some (.ref _), some (.int _)], [.ref _], _)) rfl (u_ rfl) ?_
    refine w20r (pc := 75) (len_s := 3) (q_s := 103) rfl (krq hk rfl) ?_
    refine w_t (pc := 78) (e_s := (0, 2, 0, 0, 0, .int 52, [])) (y_s := (80, [some (.ref _), some (.int _)], [.int _, .ref _], _)) rfl (u_ rfl) ?_
    refine w_t (pc := 80) (e_s := (1, 1, 1, 0, 0, .null, [])) (y_s := (81, [some (.ref _), some (.int _)], [.int _, .int _, .ref _], _)) rfl (u_ rfl) ?_
    refine w_t (pc := 81) (e_s := (7, 1, 0, 0, 0, .null, [])) (y_s := (82, [some (.ref _), some (.int _)], [.int (_ + _), .ref _], _)) rfl (u_ rfl) ?_
    refine w_t (pc := 82) (e_s := (3, 1, 0, 0, 0, .null, [])) (y_s := (83, [some (.ref _), some (.int _)], [.ref _, .int _, .ref _], _)) rfl (u_ rfl) ?_
    refine w20r (pc := 83) (len_s := 3) (q_s := 120) rfl (krq hk rfl) ?_
    refine w_t (pc := 86) (e_s := (0, 2, 0, 0, 0, .int 52, [])) (y_s := (88, [some (.ref _), some (.int _)], [.int _, .ref _, .int _, .ref _], _)) rfl (u_ rfl) ?_
    refine w_t (pc := 88) (e_s := (1, 1, 1, 0, 0, .null, [])) (y_s := (89, [some (.ref _), some (.int _)], [.int _, .int _, .ref _, .int _, .ref _], _)) rfl (u_ rfl) ?_
    refine w_t (pc := 89) (e_s := (7, 1, 0, 0, 0, .null, [])) (y_s := (90, [some (.ref _), some (.int _)], [.int (_ + _), .ref _, .int _, .ref _], _)) rfl (u_ rfl) ?_
    refine w22 (pc := 90) (len_s := 1) rfl (hk.1 120 0 104 rfl rfl) (fun c8_s => ?_)
    replace t_s := t_s c8_s
    refine w25 (pc := 91) (len_s := 1) rfl (hk.1 103 0 104 rfl rfl) (fun c9_s => ?_)
    refine w_t (pc := 92) (e_s := (3, 1, 0, 0, 0, .null, [])) (y_s := (93, [some (.ref _), some (.int _)], [.ref _], _)) rfl (u_ rfl) ?_
    refine w20r (pc := 93) (len_s := 3) (q_s := 103) rfl (krq hk rfl) ?_
    refine w_t (pc := 96) (e_s := (0, 2, 0, 0, 0, .int 60, [])) (y_s := (98, [some (.ref _), some (.int _)], [.int _, .ref _], _)) rfl (u_ rfl) ?_
    refine w_t (pc := 98) (e_s := (1, 1, 1, 0, 0, .null, [])) (y_s := (99, [some (.ref _), some (.int _)], [.int _, .int _, .ref _], _)) rfl (u_ rfl) ?_
    refine w_t (pc := 99) (e_s := (7, 1, 0, 0, 0, .null, [])) (y_s := (100, [some (.ref _), some (.int _)], [.int (_ + _), .ref _], _)) rfl (u_ rfl) ?_
    refine w_t (pc := 100) (e_s := (3, 1, 0, 0, 0, .null, [])) (y_s := (101, [some (.ref _), some (.int _)], [.ref _, .int _, .ref _], _)) rfl (u_ rfl) ?_
    refine w20r (pc := 101) (len_s := 3) (q_s := 120) rfl (krq hk rfl) ?_
    refine w_t (pc := 104) (e_s := (0, 2, 0, 0, 0, .int 60, [])) (y_s := (106, [some (.ref _), some (.int _)], [.int _, .ref _, .int _, .ref _], _)) rfl (u_ rfl) ?_
    refine w_t (pc := 106) (e_s := (1, 1, 1, 0, 0, .null, [])) (y_s := (107, [some (.ref _), some (.int _)], [.int _, .int _, .ref _, .int _, .ref _], _)) rfl (u_ rfl) ?_
    refine w_t (pc := 107) (e_s := (7, 1, 0, 0, 0, .null, [])) (y_s := (108, [some (.ref _), some (.int _)], [.int (_ + _), .ref _, .int _, .ref _], _)) rfl (u_ rfl) ?_
    refine w22 (pc := 108) (len_s := 1) rfl (hk.1 120 0 104 rfl rfl) (fun c10_s => ?_)
    replace t_s := t_s c10_s
    refine w25 (pc := 109) (len_s := 1) rfl (hk.1 103 0 104 rfl rfl) (fun c11_s => ?_)
    refine w_t (pc := 110) (e_s := (19, 3, 1, 0, 0, .int 1, [])) (y_s := (113, [some (.ref _), some (.int _)], [], _)) rfl (u_ rfl) ?_
    refine w_t (pc := 113) (e_s := (17, 3, 12, 0, 0, .null, [])) (y_s := (12, [some (.ref _), some (.int _)], [], _)) rfl (u_ rfl) ?_
    exact t_s
  · replace t_s := t_s.2 c1_s
    refine w_t (pc := 116) (e_s := (0, 1, 0, 0, 0, .int 0, [])) (y_s := (117, [some (.ref _), some (.int _)], [.int _], _)) rfl (u_ rfl) ?_
    refine w_t (pc := 117) (e_s := (4, 1, 1, 0, 0, .null, [])) (y_s := (118, [some (.ref _), some (.int _)], [], _)) rfl (u_ rfl) ?_
    exact t_s
/-- ColdShodModel.back()I, from 118 on -/
theorem sg_216_118 {F_s : Nat} {x1_s : Int32} {h_s : zH} {K_s : Int32 → zH → Prop} (hk : hKn h_s) (t_s : (x1_s.toInt < 5 → (zix x1_s < 5 → wF F_s 216 (118, [some (.ref 102), some (.int (x1_s + 1))], [], (h_s.1, zup h_s.2.1 119 (zix x1_s) (h_s.2.1 121 (zix x1_s)), h_s.2.2.1, h_s.2.2.2)) (gI K_s))) ∧ (¬ x1_s.toInt < 5 → K_s (h_s.2.1 119 3) h_s)) : wF (F_s + 1) 216 (118, [some (.ref 102), some (.int x1_s)], [], h_s) (gI K_s) := by
  refine w_0 (pc := 118) (e_s := (1, 1, 1, 0, 0, .null, [])) (y_s := (119, [some (.ref _), some (.int _)], [.int _], _)) rfl (u_ rfl) ?_
  refine w_t (pc := 119) (e_s := (0, 1, 0, 0, 0, .int 5, [])) (y_s := (120, [some (.ref _), some (.int _)], [.int _, .int _], _)) rfl (u_ rfl) ?_
  refine wi3 (pc := 120) (len_s := 3) (Y := 5) rfl rfl (by decide) (fun c1_s => ?_) (fun c1_s => ?_)
  · replace t_s := t_s.1 c1_s
    refine w_t (pc := 123) (e_s := (3, 1, 0, 0, 0, .null, [])) (y_s := (124, [some (.ref _), some (.int _)], [.ref _], _)) rfl (u_ rfl) ?_
    refine w20r (pc := 124) (len_s := 3) (q_s := 119) rfl (krq hk rfl) ?_
    refine w_t (pc := 127) (e_s := (1, 1, 1, 0, 0, .null, [])) (y_s := (128, [some (.ref _), some (.int _)], [.int _, .ref _], _)) rfl (u_ rfl) ?_
    refine w_t (pc := 128) (e_s := (3, 1, 0, 0, 0, .null, [])) (y_s := (129, [some (.ref _), some (.int _)], [.ref _, .int _, .ref _], _)) rfl (u_ rfl) ?_
    refine w20r (pc := 129) (len_s := 3) (q_s := 121) rfl (krq hk rfl) ?_
    refine w_t (pc := 132) (e_s := (1, 1, 1, 0, 0, .null, [])) (y_s := (133, [some (.ref _), some (.int _)], [.int _, .ref _, .int _, .ref _], _)) rfl (u_ rfl) ?_
    refine w22 (pc := 133) (len_s := 1) rfl (hk.1 121 0 5 rfl rfl) (fun c2_s => ?_)
    replace t_s := t_s c2_s
    refine w25 (pc := 134) (len_s := 1) rfl (hk.1 119 0 5 rfl rfl) (fun c3_s => ?_)
    refine w_t (pc := 135) (e_s := (19, 3, 1, 0, 0, .int 1, [])) (y_s := (138, [some (.ref _), some (.int _)], [], _)) rfl (u_ rfl) ?_
    refine w_t (pc := 138) (e_s := (17, 3, 118, 0, 0, .null, [])) (y_s := (118, [some (.ref _), some (.int _)], [], _)) rfl (u_ rfl) ?_
    exact t_s
  · replace t_s := t_s.2 c1_s
    refine w_t (pc := 141) (e_s := (3, 1, 0, 0, 0, .null, [])) (y_s := (142, [some (.ref _), some (.int _)], [.ref _], _)) rfl (u_ rfl) ?_
    refine w20r (pc := 142) (len_s := 3) (q_s := 119) rfl (krq hk rfl) ?_
    refine w_t (pc := 145) (e_s := (0, 1, 0, 0, 0, .int 3, [])) (y_s := (146, [some (.ref _), some (.int _)], [.int _, .ref _], _)) rfl (u_ rfl) ?_
    refine w22 (pc := 146) (len_s := 1) rfl (hk.1 119 0 5 rfl rfl) (fun c4_s => ?_)
    exact wrI (pc := 147) (len_s := 1) rfl hk t_s
