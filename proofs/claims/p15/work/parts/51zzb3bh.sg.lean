/-! What ended runs give: printed by a program (wip/fun/sg.py). -/
/-- ColdShodModel.firstFalse(II)I, from 0 on -/
theorem sg_204_0 {F_s : Nat} {x1_s : Int32} {x2_s : Int32} {h_s : zH} {K_s : Int32 → zH → Prop} (hk : hKn h_s) (t_s : wF F_s 178 (0, [some (.ref 102), some (.int x2_s), none], [], h_s) (gV (fun h1 => hKn h1 → wF F_s 204 (10, [some (.ref 102), some (.int x1_s), some (.int x2_s), some (.int 1), some (.int 0)], [], h1) (gI K_s)))) : wF (F_s + 1) 204 (0, [some (.ref 102), some (.int x1_s), some (.int x2_s), none, none], [], h_s) (gI K_s) := by
  refine w_0 (pc := 0) (e_s := (3, 1, 0, 0, 0, .null, [])) (y_s := (1, [some (.ref _), some (.int _), some (.int _), none, none], [.ref _], _)) rfl (u_ rfl) ?_
  refine w_t (pc := 1) (e_s := (1, 1, 2, 0, 0, .null, [])) (y_s := (2, [some (.ref _), some (.int _), some (.int _), none, none], [.int _, .ref _], _)) rfl (u_ rfl) ?_
  refine wcV (pc := 2) (len_s := 3) rfl rfl (l := [some (.ref _), some (.int _), none]) rfl (wmV t_s (fun h1 hk t_s => ?_))
  replace t_s := t_s hk
  refine w_t (pc := 5) (e_s := (0, 1, 0, 0, 0, .int 1, [])) (y_s := (6, [some (.ref _), some (.int _), some (.int _), none, none], [.int _], _)) rfl (u_ rfl) ?_
  refine w_t (pc := 6) (e_s := (4, 1, 3, 0, 0, .null, [])) (y_s := (7, [some (.ref _), some (.int _), some (.int _), some (.int _), none], [], _)) rfl (u_ rfl) ?_
  refine w_t (pc := 7) (e_s := (0, 1, 0, 0, 0, .int 0, [])) (y_s := (8, [some (.ref _), some (.int _), some (.int _), some (.int _), none], [.int _], _)) rfl (u_ rfl) ?_
  refine w_t (pc := 8) (e_s := (4, 2, 4, 0, 0, .null, [])) (y_s := (10, [some (.ref _), some (.int _), some (.int _), some (.int _), some (.int _)], [], _)) rfl (u_ rfl) ?_
  exact t_s
/-- ColdShodModel.firstFalse(II)I, from 10 on -/
theorem sg_204_10 {F_s : Nat} {x1_s x2_s x3 x4_s : Int32} {h_s : zH} {K_s : Int32 → zH → Prop} (hk : hKn h_s) (t_s : (zix (x1_s - x1_s / 10 * 10) < 6 → (x4_s.toInt < (h_s.2.1 125 (zix (x1_s - x1_s / 10 * 10))).toInt → ((0 < x4_s.toInt → ((x3.toInt = 0 → wF F_s 204 (52, [some (.ref 102), some (.int x1_s), some (.int x2_s), some (.int 0), some (.int x4_s)], [], h_s) (gI K_s)) ∧ (¬ x3.toInt = 0 → wF F_s 187 (0, [some (.ref 102), some (.int (x1_s / 10)), none], [], h_s) (gI (fun v5 h5 => hKn h5 → (v5.toInt < x4_s.toInt → wF F_s 204 (52, [some (.ref 102), some (.int x1_s), some (.int x2_s), some (.int 0), some (.int x4_s)], [], h5) (gI K_s)) ∧ (¬ v5.toInt < x4_s.toInt → wF F_s 204 (52, [some (.ref 102), some (.int x1_s), some (.int x2_s), some (.int 1), some (.int x4_s)], [], h5) (gI K_s))))))) ∧ (¬ 0 < x4_s.toInt → wF F_s 204 (83, [some (.ref 102), some (.int x1_s), some (.int x2_s), some (.int x3), some (.int x4_s)], [], h_s) (gI K_s)))) ∧ (¬ x4_s.toInt < (h_s.2.1 125 (zix (x1_s - x1_s / 10 * 10))).toInt → K_s (-2) h_s))) : wF (F_s + 1) 204 (10, [some (.ref 102), some (.int x1_s), some (.int x2_s), some (.int x3), some (.int x4_s)], [], h_s) (gI K_s) := by
  refine w_0 (pc := 10) (e_s := (1, 2, 4, 0, 0, .null, [])) (y_s := (12, [some (.ref _), some (.int _), some (.int _), some (.int _), some (.int _)], [.int _], _)) rfl (u_ rfl) ?_
  refine w_t (pc := 12) (e_s := (3, 1, 0, 0, 0, .null, [])) (y_s := (13, [some (.ref _), some (.int _), some (.int _), some (.int _), some (.int _)], [.ref _, .int _], _)) rfl (u_ rfl) ?_
  refine w20r (pc := 13) (len_s := 3) (q_s := 125) rfl (krq hk rfl) ?_
  refine w_t (pc := 16) (e_s := (1, 1, 1, 0, 0, .null, [])) (y_s := (17, [some (.ref _), some (.int _), some (.int _), some (.int _), some (.int _)], [.int _, .ref _, .int _], _)) rfl (u_ rfl) ?_
  refine w_t (pc := 17) (e_s := (0, 2, 0, 0, 0, .int 10, [])) (y_s := (19, [some (.ref _), some (.int _), some (.int _), some (.int _), some (.int _)], [.int _, .int _, .ref _, .int _], _)) rfl (u_ rfl) ?_
  refine w8m (pc := 19) (len_s := 1) rfl ?_
  refine w22 (pc := 20) (len_s := 1) rfl (hk.1 125 0 6 rfl rfl) (fun c1_s => ?_)
  replace t_s := t_s c1_s
  refine wi3 (pc := 21) (len_s := 3) rfl rfl rfl (fun c2_s => ?_) (fun c2_s => ?_)
  · replace t_s := t_s.1 c2_s
    refine w_t (pc := 24) (e_s := (1, 2, 4, 0, 0, .null, [])) (y_s := (26, [some (.ref _), some (.int _), some (.int _), some (.int _), some (.int _)], [.int _], _)) rfl (u_ rfl) ?_
    refine wq5 (pc := 26) (len_s := 3) rfl rfl (fun c3_s => ?_) (fun c3_s => ?_)
    · replace t_s := t_s.1 c3_s
      refine w_t (pc := 29) (e_s := (1, 1, 3, 0, 0, .null, [])) (y_s := (30, [some (.ref _), some (.int _), some (.int _), some (.int _), some (.int _)], [.int _], _)) rfl (u_ rfl) ?_
      refine wq0 (pc := 30) (len_s := 3) rfl rfl (fun c4_s => ?_) (fun c4_s => ?_)
      · replace t_s := t_s.1 c4_s
        refine w_t (pc := 50) (e_s := (0, 1, 0, 0, 0, .int 0, [])) (y_s := (51, [some (.ref _), some (.int _), some (.int _), some (.int _), some (.int _)], [.int _], _)) rfl (u_ rfl) ?_
        refine w_t (pc := 51) (e_s := (4, 1, 3, 0, 0, .null, [])) (y_s := (52, [some (.ref _), some (.int _), some (.int _), some (.int _), some (.int _)], [], _)) rfl (u_ rfl) ?_
        exact t_s
      · replace t_s := t_s.2 c4_s
        refine w_t (pc := 33) (e_s := (1, 2, 4, 0, 0, .null, [])) (y_s := (35, [some (.ref _), some (.int _), some (.int _), some (.int _), some (.int _)], [.int _], _)) rfl (u_ rfl) ?_
        refine w_t (pc := 35) (e_s := (3, 1, 0, 0, 0, .null, [])) (y_s := (36, [some (.ref _), some (.int _), some (.int _), some (.int _), some (.int _)], [.ref _, .int _], _)) rfl (u_ rfl) ?_
        refine w_t (pc := 36) (e_s := (1, 1, 1, 0, 0, .null, [])) (y_s := (37, [some (.ref _), some (.int _), some (.int _), some (.int _), some (.int _)], [.int _, .ref _, .int _], _)) rfl (u_ rfl) ?_
        refine w_t (pc := 37) (e_s := (0, 2, 0, 0, 0, .int 10, [])) (y_s := (39, [some (.ref _), some (.int _), some (.int _), some (.int _), some (.int _)], [.int _, .int _, .ref _, .int _], _)) rfl (u_ rfl) ?_
        refine w8 (pc := 39) (len_s := 1) rfl ?_
        refine wcI (pc := 40) (len_s := 3) rfl rfl (l := [some (.ref _), some (.int _), none]) rfl (wmI t_s (fun v5 h5 hk t_s => ?_))
        replace t_s := t_s hk
        refine wi4 (pc := 43) (len_s := 3) rfl rfl rfl (fun c6_s => ?_) (fun c6_s => ?_)
        · replace t_s := t_s.1 c6_s
          refine w_t (pc := 50) (e_s := (0, 1, 0, 0, 0, .int 0, [])) (y_s := (51, [some (.ref _), some (.int _), some (.int _), some (.int _), some (.int _)], [.int _], _)) rfl (u_ rfl) ?_
          refine w_t (pc := 51) (e_s := (4, 1, 3, 0, 0, .null, [])) (y_s := (52, [some (.ref _), some (.int _), some (.int _), some (.int _), some (.int _)], [], _)) rfl (u_ rfl) ?_
          exact t_s
        · replace t_s := t_s.2 c6_s
          refine w_t (pc := 46) (e_s := (0, 1, 0, 0, 0, .int 1, [])) (y_s := (47, [some (.ref _), some (.int _), some (.int _), some (.int _), some (.int _)], [.int _], _)) rfl (u_ rfl) ?_
          refine w_t (pc := 47) (e_s := (17, 3, 51, 0, 0, .null, [])) (y_s := (51, [some (.ref _), some (.int _), some (.int _), some (.int _), some (.int _)], [.int _], _)) rfl (u_ rfl) ?_
          refine w_t (pc := 51) (e_s := (4, 1, 3, 0, 0, .null, [])) (y_s := (52, [some (.ref _), some (.int _), some (.int _), some (.int _), some (.int _)], [], _)) rfl (u_ rfl) ?_
          exact t_s
    · replace t_s := t_s.2 c3_s
      exact t_s
  · replace t_s := t_s.2 c2_s
    refine w_t (pc := 122) (e_s := (0, 2, 0, 0, 0, .int (-2), [])) (y_s := (124, [some (.ref _), some (.int _), some (.int _), some (.int _), some (.int _)], [.int _], _)) rfl (u_ rfl) ?_
    exact wrI (pc := 124) (len_s := 1) rfl hk t_s
/-- ColdShodModel.firstFalse(II)I, from 52 on -/
theorem sg_204_52 {F_s : Nat} {x1_s x2_s x3 x4_s : Int32} {h_s : zH} {K_s : Int32 → zH → Prop} (hk : hKn h_s) (t_s : (x3.toInt = 0 → wF F_s 204 (83, [some (.ref 102), some (.int x1_s), some (.int x2_s), some (.int x3), some (.int x4_s)], [], h_s) (gI K_s)) ∧ (¬ x3.toInt = 0 → (zix (((60 * (x1_s / 10)) + x4_s) - 1) < 360 → wF F_s 183 (0, [some (.ref 102), some (.int ((h_s.2.2.1 126 (zix (((60 * (x1_s / 10)) + x4_s) - 1))).toInt32)), none], [], h_s) (gV (fun h3 => hKn h3 → wF F_s 204 (83, [some (.ref 102), some (.int x1_s), some (.int x2_s), some (.int (h3.2.1 102 23)), some (.int x4_s)], [], h3) (gI K_s)))))) : wF (F_s + 1) 204 (52, [some (.ref 102), some (.int x1_s), some (.int x2_s), some (.int x3), some (.int x4_s)], [], h_s) (gI K_s) := by
  refine w_0 (pc := 52) (e_s := (1, 1, 3, 0, 0, .null, [])) (y_s := (53, [some (.ref _), some (.int _), some (.int _), some (.int _), some (.int _)], [.int _], _)) rfl (u_ rfl) ?_
  refine wq0 (pc := 53) (len_s := 3) rfl rfl (fun c1_s => ?_) (fun c1_s => ?_)
  · replace t_s := t_s.1 c1_s
    exact t_s
  · replace t_s := t_s.2 c1_s
    refine w_t (pc := 56) (e_s := (3, 1, 0, 0, 0, .null, [])) (y_s := (57, [some (.ref _), some (.int _), some (.int _), some (.int _), some (.int _)], [.ref _], _)) rfl (u_ rfl) ?_
    refine w_t (pc := 57) (e_s := (3, 1, 0, 0, 0, .null, [])) (y_s := (58, [some (.ref _), some (.int _), some (.int _), some (.int _), some (.int _)], [.ref _, .ref _], _)) rfl (u_ rfl) ?_
    refine w20r (pc := 58) (len_s := 3) (q_s := 126) rfl (krq hk rfl) ?_
    refine w_t (pc := 61) (e_s := (0, 2, 0, 0, 0, .int 60, [])) (y_s := (63, [some (.ref _), some (.int _), some (.int _), some (.int _), some (.int _)], [.int _, .ref _, .ref _], _)) rfl (u_ rfl) ?_
    refine w_t (pc := 63) (e_s := (1, 1, 1, 0, 0, .null, [])) (y_s := (64, [some (.ref _), some (.int _), some (.int _), some (.int _), some (.int _)], [.int _, .int _, .ref _, .ref _], _)) rfl (u_ rfl) ?_
    refine w_t (pc := 64) (e_s := (0, 2, 0, 0, 0, .int 10, [])) (y_s := (66, [some (.ref _), some (.int _), some (.int _), some (.int _), some (.int _)], [.int _, .int _, .int _, .ref _, .ref _], _)) rfl (u_ rfl) ?_
    refine w8 (pc := 66) (len_s := 1) rfl ?_
    refine w_t (pc := 67) (e_s := (7, 1, 0, 2, 0, .null, [])) (y_s := (68, [some (.ref _), some (.int _), some (.int _), some (.int _), some (.int _)], [.int (_ * _), .ref _, .ref _], _)) rfl (u_ rfl) ?_
    refine w_t (pc := 68) (e_s := (1, 2, 4, 0, 0, .null, [])) (y_s := (70, [some (.ref _), some (.int _), some (.int _), some (.int _), some (.int _)], [.int _, .int _, .ref _, .ref _], _)) rfl (u_ rfl) ?_
    refine w_t (pc := 70) (e_s := (7, 1, 0, 0, 0, .null, [])) (y_s := (71, [some (.ref _), some (.int _), some (.int _), some (.int _), some (.int _)], [.int (_ + _), .ref _, .ref _], _)) rfl (u_ rfl) ?_
    refine w_t (pc := 71) (e_s := (0, 1, 0, 0, 0, .int 1, [])) (y_s := (72, [some (.ref _), some (.int _), some (.int _), some (.int _), some (.int _)], [.int _, .int _, .ref _, .ref _], _)) rfl (u_ rfl) ?_
    refine w_t (pc := 72) (e_s := (7, 1, 0, 1, 0, .null, [])) (y_s := (73, [some (.ref _), some (.int _), some (.int _), some (.int _), some (.int _)], [.int (_ - _), .ref _, .ref _], _)) rfl (u_ rfl) ?_
    refine w23 (pc := 73) (len_s := 1) rfl (hk.1 126 1 360 rfl rfl) (fun c2_s => ?_)
    replace t_s := t_s c2_s
    refine w_t (pc := 74) (e_s := (11, 1, 0, 0, 0, .null, [])) (y_s := (75, [some (.ref _), some (.int _), some (.int _), some (.int _), some (.int _)], [.int (Int64.toInt32 _), .ref _], _)) rfl (u_ rfl) ?_
    refine wcV (pc := 75) (len_s := 3) rfl rfl (l := [some (.ref _), some (.int _), none]) rfl (wmV t_s (fun h3 hk t_s => ?_))
    replace t_s := t_s hk
    refine w_t (pc := 78) (e_s := (3, 1, 0, 0, 0, .null, [])) (y_s := (79, [some (.ref _), some (.int _), some (.int _), some (.int _), some (.int _)], [.ref _], _)) rfl (u_ rfl) ?_
    refine w20 (pc := 79) (len_s := 3) rfl ?_
    refine w_t (pc := 82) (e_s := (4, 1, 3, 0, 0, .null, [])) (y_s := (83, [some (.ref _), some (.int _), some (.int _), some (.int _), some (.int _)], [], _)) rfl (u_ rfl) ?_
    exact t_s
/-- ColdShodModel.firstFalse(II)I, from 83 on -/
theorem sg_204_83 {F_s : Nat} {x1_s x2_s x3 x4_s : Int32} {h_s : zH} {K_s : Int32 → zH → Prop} (hk : hKn h_s) (t_s : (x3.toInt = 0 → K_s x4_s h_s) ∧ (¬ x3.toInt = 0 → (zix ((60 * (x1_s - x1_s / 10 * 10)) + x4_s) < 360 → ((h_s.2.2.1 126 (zix ((60 * (x1_s - x1_s / 10 * 10)) + x4_s))).toInt = (h_s.2.1 112 2).toInt → wF F_s 204 (10, [some (.ref 102), some (.int x1_s), some (.int x2_s), some (.int x3), some (.int (x4_s + 1))], [], h_s) (gI K_s)) ∧ (¬ (h_s.2.2.1 126 (zix ((60 * (x1_s - x1_s / 10 * 10)) + x4_s))).toInt = (h_s.2.1 112 2).toInt → K_s x4_s h_s)))) : wF (F_s + 1) 204 (83, [some (.ref 102), some (.int x1_s), some (.int x2_s), some (.int x3), some (.int x4_s)], [], h_s) (gI K_s) := by
  refine w_0 (pc := 83) (e_s := (1, 1, 3, 0, 0, .null, [])) (y_s := (84, [some (.ref _), some (.int _), some (.int _), some (.int _), some (.int _)], [.int _], _)) rfl (u_ rfl) ?_
  refine wq0 (pc := 84) (len_s := 3) rfl rfl (fun c1_s => ?_) (fun c1_s => ?_)
  · replace t_s := t_s.1 c1_s
    refine w_t (pc := 113) (e_s := (1, 2, 4, 0, 0, .null, [])) (y_s := (115, [some (.ref _), some (.int _), some (.int _), some (.int _), some (.int _)], [.int _], _)) rfl (u_ rfl) ?_
    exact wrI (pc := 115) (len_s := 1) rfl hk t_s
  · replace t_s := t_s.2 c1_s
    refine w_t (pc := 87) (e_s := (3, 1, 0, 0, 0, .null, [])) (y_s := (88, [some (.ref _), some (.int _), some (.int _), some (.int _), some (.int _)], [.ref _], _)) rfl (u_ rfl) ?_
    refine w20r (pc := 88) (len_s := 3) (q_s := 126) rfl (krq hk rfl) ?_
    refine w_t (pc := 91) (e_s := (0, 2, 0, 0, 0, .int 60, [])) (y_s := (93, [some (.ref _), some (.int _), some (.int _), some (.int _), some (.int _)], [.int _, .ref _], _)) rfl (u_ rfl) ?_
    refine w_t (pc := 93) (e_s := (1, 1, 1, 0, 0, .null, [])) (y_s := (94, [some (.ref _), some (.int _), some (.int _), some (.int _), some (.int _)], [.int _, .int _, .ref _], _)) rfl (u_ rfl) ?_
    refine w_t (pc := 94) (e_s := (0, 2, 0, 0, 0, .int 10, [])) (y_s := (96, [some (.ref _), some (.int _), some (.int _), some (.int _), some (.int _)], [.int _, .int _, .int _, .ref _], _)) rfl (u_ rfl) ?_
    refine w8m (pc := 96) (len_s := 1) rfl ?_
    refine w_t (pc := 97) (e_s := (7, 1, 0, 2, 0, .null, [])) (y_s := (98, [some (.ref _), some (.int _), some (.int _), some (.int _), some (.int _)], [.int (_ * _), .ref _], _)) rfl (u_ rfl) ?_
    refine w_t (pc := 98) (e_s := (1, 2, 4, 0, 0, .null, [])) (y_s := (100, [some (.ref _), some (.int _), some (.int _), some (.int _), some (.int _)], [.int _, .int _, .ref _], _)) rfl (u_ rfl) ?_
    refine w_t (pc := 100) (e_s := (7, 1, 0, 0, 0, .null, [])) (y_s := (101, [some (.ref _), some (.int _), some (.int _), some (.int _), some (.int _)], [.int (_ + _), .ref _], _)) rfl (u_ rfl) ?_
    refine w23 (pc := 101) (len_s := 1) rfl (hk.1 126 1 360 rfl rfl) (fun c2_s => ?_)
    replace t_s := t_s c2_s
    refine w_t (pc := 102) (e_s := (3, 1, 0, 0, 0, .null, [])) (y_s := (103, [some (.ref _), some (.int _), some (.int _), some (.int _), some (.int _)], [.ref _, .long _], _)) rfl (u_ rfl) ?_
    refine w20r (pc := 103) (len_s := 3) (q_s := 112) rfl (krq hk rfl) ?_
    refine w_t (pc := 106) (e_s := (0, 1, 0, 0, 0, .int 2, [])) (y_s := (107, [some (.ref _), some (.int _), some (.int _), some (.int _), some (.int _)], [.int _, .ref _, .long _], _)) rfl (u_ rfl) ?_
    refine w22 (pc := 107) (len_s := 1) rfl (hk.1 112 0 7 rfl rfl) (fun c3_s => ?_)
    refine w_t (pc := 108) (e_s := (10, 1, 0, 0, 0, .null, [])) (y_s := (109, [some (.ref _), some (.int _), some (.int _), some (.int _), some (.int _)], [.long (Int32.toInt64 _), .long _], _)) rfl (u_ rfl) ?_
    refine w_t (pc := 109) (e_s := (14, 1, 0, 0, 0, .null, [])) (y_s := (110, [some (.ref _), some (.int _), some (.int _), some (.int _), some (.int _)], [.int (lg_cmp _ _)], _)) rfl (u_ rfl) ?_
    refine wl0 (pc := 110) (len_s := 3) rfl rfl (Int32.toInt_toInt64 _) (fun c4_s => ?_) (fun c4_s => ?_)
    · replace t_s := t_s.1 c4_s
      refine w_t (pc := 116) (e_s := (19, 3, 4, 0, 0, .int 1, [])) (y_s := (119, [some (.ref _), some (.int _), some (.int _), some (.int _), some (.int _)], [], _)) rfl (u_ rfl) ?_
      refine w_t (pc := 119) (e_s := (17, 3, 10, 0, 0, .null, [])) (y_s := (10, [some (.ref _), some (.int _), some (.int _), some (.int _), some (.int _)], [], _)) rfl (u_ rfl) ?_
      exact t_s
    · replace t_s := t_s.2 c4_s
      refine w_t (pc := 113) (e_s := (1, 2, 4, 0, 0, .null, [])) (y_s := (115, [some (.ref _), some (.int _), some (.int _), some (.int _), some (.int _)], [.int _], _)) rfl (u_ rfl) ?_
      exact wrI (pc := 115) (len_s := 1) rfl hk t_s
/-- ColdShodModel.roadMany(I)I, from 0 on -/
theorem sg_187_0 {F_s : Nat} {x1_s : Int32} {h_s : zH} {K_s : Int32 → zH → Prop} (hk : hKn h_s) (t_s : wF F_s 187 (2, [some (.ref 102), some (.int x1_s), some (.int 0)], [], h_s) (gI K_s)) : wF (F_s + 1) 187 (0, [some (.ref 102), some (.int x1_s), none], [], h_s) (gI K_s) := by
  refine w_0 (pc := 0) (e_s := (0, 1, 0, 0, 0, .int 0, [])) (y_s := (1, [some (.ref _), some (.int _), none], [.int _], _)) rfl (u_ rfl) ?_
  refine w_t (pc := 1) (e_s := (4, 1, 2, 0, 0, .null, [])) (y_s := (2, [some (.ref _), some (.int _), some (.int _)], [], _)) rfl (u_ rfl) ?_
  exact t_s
/-- ColdShodModel.roadMany(I)I, from 2 on -/
theorem sg_187_2 {F_s : Nat} {x1_s x2_s : Int32} {h_s : zH} {K_s : Int32 → zH → Prop} (hk : hKn h_s) (t_s : (x2_s.toInt < 20 → (zix x1_s < 6 → (x2_s.toInt < (h_s.2.1 125 (zix x1_s)).toInt → (zix ((60 * x1_s) + x2_s) < 360 → ((h_s.2.2.1 126 (zix ((60 * x1_s) + x2_s))).toInt < 0 → K_s x2_s h_s) ∧ (¬ (h_s.2.2.1 126 (zix ((60 * x1_s) + x2_s))).toInt < 0 → ((((h_s.2.1 102 8) - 1).toInt < (h_s.2.2.1 126 (zix ((60 * x1_s) + x2_s))).toInt → K_s x2_s h_s) ∧ (¬ ((h_s.2.1 102 8) - 1).toInt < (h_s.2.2.1 126 (zix ((60 * x1_s) + x2_s))).toInt → wF F_s 187 (2, [some (.ref 102), some (.int x1_s), some (.int (x2_s + 1))], [], h_s) (gI K_s)))))) ∧ (¬ x2_s.toInt < (h_s.2.1 125 (zix x1_s)).toInt → K_s x2_s h_s))) ∧ (¬ x2_s.toInt < 20 → K_s x2_s h_s)) : wF (F_s + 1) 187 (2, [some (.ref 102), some (.int x1_s), some (.int x2_s)], [], h_s) (gI K_s) := by
  refine w_0 (pc := 2) (e_s := (1, 1, 2, 0, 0, .null, [])) (y_s := (3, [some (.ref _), some (.int _), some (.int _)], [.int _], _)) rfl (u_ rfl) ?_
  refine w_t (pc := 3) (e_s := (0, 2, 0, 0, 0, .int 20, [])) (y_s := (5, [some (.ref _), some (.int _), some (.int _)], [.int _, .int _], _)) rfl (u_ rfl) ?_
  refine wi3 (pc := 5) (len_s := 3) (Y := 20) rfl rfl (by decide) (fun c1_s => ?_) (fun c1_s => ?_)
  · replace t_s := t_s.1 c1_s
    refine w_t (pc := 8) (e_s := (1, 1, 2, 0, 0, .null, [])) (y_s := (9, [some (.ref _), some (.int _), some (.int _)], [.int _], _)) rfl (u_ rfl) ?_
    refine w_t (pc := 9) (e_s := (3, 1, 0, 0, 0, .null, [])) (y_s := (10, [some (.ref _), some (.int _), some (.int _)], [.ref _, .int _], _)) rfl (u_ rfl) ?_
    refine w20r (pc := 10) (len_s := 3) (q_s := 125) rfl (krq hk rfl) ?_
    refine w_t (pc := 13) (e_s := (1, 1, 1, 0, 0, .null, [])) (y_s := (14, [some (.ref _), some (.int _), some (.int _)], [.int _, .ref _, .int _], _)) rfl (u_ rfl) ?_
    refine w22 (pc := 14) (len_s := 1) rfl (hk.1 125 0 6 rfl rfl) (fun c2_s => ?_)
    replace t_s := t_s c2_s
    refine wi3 (pc := 15) (len_s := 3) rfl rfl rfl (fun c3_s => ?_) (fun c3_s => ?_)
    · replace t_s := t_s.1 c3_s
      refine w_t (pc := 18) (e_s := (3, 1, 0, 0, 0, .null, [])) (y_s := (19, [some (.ref _), some (.int _), some (.int _)], [.ref _], _)) rfl (u_ rfl) ?_
      refine w_t (pc := 19) (e_s := (3, 1, 0, 0, 0, .null, [])) (y_s := (20, [some (.ref _), some (.int _), some (.int _)], [.ref _, .ref _], _)) rfl (u_ rfl) ?_
      refine w20r (pc := 20) (len_s := 3) (q_s := 126) rfl (krq hk rfl) ?_
      refine w_t (pc := 23) (e_s := (0, 2, 0, 0, 0, .int 60, [])) (y_s := (25, [some (.ref _), some (.int _), some (.int _)], [.int _, .ref _, .ref _], _)) rfl (u_ rfl) ?_
      refine w_t (pc := 25) (e_s := (1, 1, 1, 0, 0, .null, [])) (y_s := (26, [some (.ref _), some (.int _), some (.int _)], [.int _, .int _, .ref _, .ref _], _)) rfl (u_ rfl) ?_
      refine w_t (pc := 26) (e_s := (7, 1, 0, 2, 0, .null, [])) (y_s := (27, [some (.ref _), some (.int _), some (.int _)], [.int (_ * _), .ref _, .ref _], _)) rfl (u_ rfl) ?_
      refine w_t (pc := 27) (e_s := (1, 1, 2, 0, 0, .null, [])) (y_s := (28, [some (.ref _), some (.int _), some (.int _)], [.int _, .int _, .ref _, .ref _], _)) rfl (u_ rfl) ?_
      refine w_t (pc := 28) (e_s := (7, 1, 0, 0, 0, .null, [])) (y_s := (29, [some (.ref _), some (.int _), some (.int _)], [.int (_ + _), .ref _, .ref _], _)) rfl (u_ rfl) ?_
      refine w23 (pc := 29) (len_s := 1) rfl (hk.1 126 1 360 rfl rfl) (fun c4_s => ?_)
      replace t_s := t_s c4_s
      refine wcI (pc := 30) (len_s := 3) rfl rfl (l := [some (.ref _), some (.long _), none]) rfl ?_
      refine w_t (pc := 0) (e_s := (2, 1, 1, 0, 0, .null, [])) (y_s := (1, [some (.ref _), some (.long _), none], [.long _], _)) rfl (u_ rfl) ?_
      refine w_t (pc := 1) (e_s := (0, 1, 0, 0, 0, .long 0, [])) (y_s := (2, [some (.ref _), some (.long _), none], [.long _, .long _], _)) rfl (u_ rfl) ?_
      refine w_t (pc := 2) (e_s := (3, 1, 0, 0, 0, .null, [])) (y_s := (3, [some (.ref _), some (.long _), none], [.ref _, .long _, .long _], _)) rfl (u_ rfl) ?_
      refine w20 (pc := 3) (len_s := 3) rfl ?_
      refine w_t (pc := 6) (e_s := (0, 1, 0, 0, 0, .int 1, [])) (y_s := (7, [some (.ref _), some (.long _), none], [.int _, .int _, .long _, .long _], _)) rfl (u_ rfl) ?_
      refine w_t (pc := 7) (e_s := (7, 1, 0, 1, 0, .null, [])) (y_s := (8, [some (.ref _), some (.long _), none], [.int (_ - _), .long _, .long _], _)) rfl (u_ rfl) ?_
      refine w_t (pc := 8) (e_s := (10, 1, 0, 0, 0, .null, [])) (y_s := (9, [some (.ref _), some (.long _), none], [.long (Int32.toInt64 _), .long _, .long _], _)) rfl (u_ rfl) ?_
      refine wcI (pc := 9) (len_s := 3) rfl rfl (l := [some (.long _), none, some (.long _), none, some (.long _), none]) rfl ?_
      refine w_t (pc := 0) (e_s := (2, 1, 0, 0, 0, .null, [])) (y_s := (1, [some (.long _), none, some (.long _), none, some (.long _), none], [.long _], _)) rfl (u_ rfl) ?_
      refine w_t (pc := 1) (e_s := (2, 1, 2, 0, 0, .null, [])) (y_s := (2, [some (.long _), none, some (.long _), none, some (.long _), none], [.long _, .long _], _)) rfl (u_ rfl) ?_
      refine w_t (pc := 2) (e_s := (14, 1, 0, 0, 0, .null, [])) (y_s := (3, [some (.long _), none, some (.long _), none, some (.long _), none], [.int (lg_cmp _ _)], _)) rfl (u_ rfl) ?_
      refine wl2 (pc := 3) (len_s := 3) (Y := 0) rfl rfl (by decide) (fun c5_s => ?_) (fun c5_s => ?_)
      · replace t_s := t_s.1 c5_s
        refine w_t (pc := 17) (e_s := (0, 1, 0, 0, 0, .int 0, [])) (y_s := (18, [some (.long _), none, some (.long _), none, some (.long _), none], [.int _], _)) rfl (u_ rfl) ?_
        refine wrI (pc := 18) (len_s := 1) rfl hk ?_
        show wF _ 153 (12, [some (.ref _), some (.long _), none], [.int _], _) _
        refine wrI (pc := 12) (len_s := 1) rfl hk ?_
        show wF _ 187 (33, [some (.ref _), some (.int _), some (.int _)], [.int _], _) _
        refine w_t (pc := 33) (e_s := (15, 3, 42, 0, 0, .null, [])) (y_s := (42, [some (.ref _), some (.int _), some (.int _)], [], _)) rfl (u_ rfl) ?_
        refine w_t (pc := 42) (e_s := (1, 1, 2, 0, 0, .null, [])) (y_s := (43, [some (.ref _), some (.int _), some (.int _)], [.int _], _)) rfl (u_ rfl) ?_
        exact wrI (pc := 43) (len_s := 1) rfl hk t_s
      · replace t_s := t_s.2 c5_s
        refine w_t (pc := 6) (e_s := (2, 1, 0, 0, 0, .null, [])) (y_s := (7, [some (.long _), none, some (.long _), none, some (.long _), none], [.long _], _)) rfl (u_ rfl) ?_
        refine w_t (pc := 7) (e_s := (2, 2, 4, 0, 0, .null, [])) (y_s := (9, [some (.long _), none, some (.long _), none, some (.long _), none], [.long _, .long _], _)) rfl (u_ rfl) ?_
        refine w_t (pc := 9) (e_s := (14, 1, 0, 0, 0, .null, [])) (y_s := (10, [some (.long _), none, some (.long _), none, some (.long _), none], [.int (lg_cmp _ _)], _)) rfl (u_ rfl) ?_
        refine wl4 (pc := 10) (len_s := 3) rfl rfl (Int32.toInt_toInt64 _) (fun c6_s => ?_) (fun c6_s => ?_)
        · replace t_s := t_s.1 c6_s
          refine w_t (pc := 17) (e_s := (0, 1, 0, 0, 0, .int 0, [])) (y_s := (18, [some (.long _), none, some (.long _), none, some (.long _), none], [.int _], _)) rfl (u_ rfl) ?_
          refine wrI (pc := 18) (len_s := 1) rfl hk ?_
          show wF _ 153 (12, [some (.ref _), some (.long _), none], [.int _], _) _
          refine wrI (pc := 12) (len_s := 1) rfl hk ?_
          show wF _ 187 (33, [some (.ref _), some (.int _), some (.int _)], [.int _], _) _
          refine w_t (pc := 33) (e_s := (15, 3, 42, 0, 0, .null, [])) (y_s := (42, [some (.ref _), some (.int _), some (.int _)], [], _)) rfl (u_ rfl) ?_
          refine w_t (pc := 42) (e_s := (1, 1, 2, 0, 0, .null, [])) (y_s := (43, [some (.ref _), some (.int _), some (.int _)], [.int _], _)) rfl (u_ rfl) ?_
          exact wrI (pc := 43) (len_s := 1) rfl hk t_s
        · replace t_s := t_s.2 c6_s
          refine w_t (pc := 13) (e_s := (0, 1, 0, 0, 0, .int 1, [])) (y_s := (14, [some (.long _), none, some (.long _), none, some (.long _), none], [.int _], _)) rfl (u_ rfl) ?_
          refine w_t (pc := 14) (e_s := (17, 3, 18, 0, 0, .null, [])) (y_s := (18, [some (.long _), none, some (.long _), none, some (.long _), none], [.int _], _)) rfl (u_ rfl) ?_
          refine wrI (pc := 18) (len_s := 1) rfl hk ?_
          show wF _ 153 (12, [some (.ref _), some (.long _), none], [.int _], _) _
          refine wrI (pc := 12) (len_s := 1) rfl hk ?_
          show wF _ 187 (33, [some (.ref _), some (.int _), some (.int _)], [.int _], _) _
          refine w_t (pc := 33) (e_s := (15, 3, 42, 0, 0, .null, [])) (y_s := (36, [some (.ref _), some (.int _), some (.int _)], [], _)) rfl (u_ rfl) ?_
          refine w_t (pc := 36) (e_s := (19, 3, 2, 0, 0, .int 1, [])) (y_s := (39, [some (.ref _), some (.int _), some (.int _)], [], _)) rfl (u_ rfl) ?_
          refine w_t (pc := 39) (e_s := (17, 3, 2, 0, 0, .null, [])) (y_s := (2, [some (.ref _), some (.int _), some (.int _)], [], _)) rfl (u_ rfl) ?_
          exact t_s
    · replace t_s := t_s.2 c3_s
      refine w_t (pc := 42) (e_s := (1, 1, 2, 0, 0, .null, [])) (y_s := (43, [some (.ref _), some (.int _), some (.int _)], [.int _], _)) rfl (u_ rfl) ?_
      exact wrI (pc := 43) (len_s := 1) rfl hk t_s
  · replace t_s := t_s.2 c1_s
    refine w_t (pc := 42) (e_s := (1, 1, 2, 0, 0, .null, [])) (y_s := (43, [some (.ref _), some (.int _), some (.int _)], [.int _], _)) rfl (u_ rfl) ?_
    exact wrI (pc := 43) (len_s := 1) rfl hk t_s
/-- ColdShodModel.rowsAre(I)I, from 0 on -/
theorem sg_203_0 {F_s : Nat} {x1_s : Int32} {h_s : zH} {K_s : Int32 → zH → Prop} (hk : hKn h_s) (t_s : (x1_s.toInt < 0 → K_s (-1) h_s) ∧ (¬ x1_s.toInt < 0 → (((x1_s / 10).toInt < 0 → K_s (-1) h_s) ∧ (¬ (x1_s / 10).toInt < 0 → ((5 < (x1_s / 10).toInt → K_s (-1) h_s) ∧ (¬ 5 < (x1_s / 10).toInt → (((x1_s - x1_s / 10 * 10).toInt < 0 → K_s (-1) h_s) ∧ (¬ (x1_s - x1_s / 10 * 10).toInt < 0 → ((5 < (x1_s - x1_s / 10 * 10).toInt → K_s (-1) h_s) ∧ (¬ 5 < (x1_s - x1_s / 10 * 10).toInt → (zix (x1_s / 10) < 6 → ((h_s.2.1 124 (zix (x1_s / 10))).toInt < 0 → K_s (-11) h_s) ∧ (¬ (h_s.2.1 124 (zix (x1_s / 10))).toInt < 0 → (((h_s.2.1 124 (zix (x1_s / 10))).toInt = 50 → (zix (x1_s - x1_s / 10 * 10) < 6 → ((h_s.2.1 124 (zix (x1_s - x1_s / 10 * 10))).toInt < 0 → K_s (-11) h_s) ∧ (¬ (h_s.2.1 124 (zix (x1_s - x1_s / 10 * 10))).toInt < 0 → (((h_s.2.1 124 (zix (x1_s - x1_s / 10 * 10))).toInt = 50 → K_s 1 h_s) ∧ (¬ (h_s.2.1 124 (zix (x1_s - x1_s / 10 * 10))).toInt = 50 → K_s (-12) h_s))))) ∧ (¬ (h_s.2.1 124 (zix (x1_s / 10))).toInt = 50 → K_s (-12) h_s)))))))))))))) : wF (F_s + 1) 203 (0, [some (.ref 102), some (.int x1_s)], [], h_s) (gI K_s) := by
  refine w_0 (pc := 0) (e_s := (1, 1, 1, 0, 0, .null, [])) (y_s := (1, [some (.ref _), some (.int _)], [.int _], _)) rfl (u_ rfl) ?_
  refine wq2 (pc := 1) (len_s := 3) rfl rfl (fun c1_s => ?_) (fun c1_s => ?_)
  · replace t_s := t_s.1 c1_s
    refine w_t (pc := 24) (e_s := (0, 1, 0, 0, 0, .int (-1), [])) (y_s := (25, [some (.ref _), some (.int _)], [.int _], _)) rfl (u_ rfl) ?_
    exact wrI (pc := 25) (len_s := 1) rfl hk t_s
  · replace t_s := t_s.2 c1_s
    refine w_t (pc := 4) (e_s := (1, 1, 1, 0, 0, .null, [])) (y_s := (5, [some (.ref _), some (.int _)], [.int _], _)) rfl (u_ rfl) ?_
    refine w_t (pc := 5) (e_s := (0, 2, 0, 0, 0, .int 10, [])) (y_s := (7, [some (.ref _), some (.int _)], [.int _, .int _], _)) rfl (u_ rfl) ?_
    refine w8 (pc := 7) (len_s := 1) rfl ?_
    refine wcI (pc := 8) (len_s := 3) rfl rfl (l := [some (.int _)]) rfl ?_
    refine w_t (pc := 0) (e_s := (1, 1, 0, 0, 0, .null, [])) (y_s := (1, [some (.int _)], [.int _], _)) rfl (u_ rfl) ?_
    refine w_t (pc := 1) (e_s := (10, 1, 0, 0, 0, .null, [])) (y_s := (2, [some (.int _)], [.long (Int32.toInt64 _)], _)) rfl (u_ rfl) ?_
    refine w_t (pc := 2) (e_s := (0, 1, 0, 0, 0, .long 0, [])) (y_s := (3, [some (.int _)], [.long _, .long _], _)) rfl (u_ rfl) ?_
    refine w_t (pc := 3) (e_s := (0, 3, 0, 0, 0, .long 5, [(0, 1063)])) (y_s := (6, [some (.int _)], [.long _, .long _, .long _], _)) rfl (u_ rfl) ?_
    refine wcI (pc := 6) (len_s := 3) rfl rfl (l := [some (.long _), none, some (.long _), none, some (.long _), none]) rfl ?_
    refine w_t (pc := 0) (e_s := (2, 1, 0, 0, 0, .null, [])) (y_s := (1, [some (.long _), none, some (.long _), none, some (.long _), none], [.long _], _)) rfl (u_ rfl) ?_
    refine w_t (pc := 1) (e_s := (2, 1, 2, 0, 0, .null, [])) (y_s := (2, [some (.long _), none, some (.long _), none, some (.long _), none], [.long _, .long _], _)) rfl (u_ rfl) ?_
    refine w_t (pc := 2) (e_s := (14, 1, 0, 0, 0, .null, [])) (y_s := (3, [some (.long _), none, some (.long _), none, some (.long _), none], [.int (lg_cmp _ _)], _)) rfl (u_ rfl) ?_
    refine wl2 (pc := 3) (len_s := 3) (Y := 0) rfl (Int32.toInt_toInt64 _) (by decide) (fun c2_s => ?_) (fun c2_s => ?_)
    · replace t_s := t_s.1 c2_s
      refine w_t (pc := 17) (e_s := (0, 1, 0, 0, 0, .int 0, [])) (y_s := (18, [some (.long _), none, some (.long _), none, some (.long _), none], [.int _], _)) rfl (u_ rfl) ?_
      refine wrI (pc := 18) (len_s := 1) rfl hk ?_
      show wF _ 228 (9, [some (.int _)], [.int _], _) _
      refine wrI (pc := 9) (len_s := 1) rfl hk ?_
      show wF _ 203 (11, [some (.ref _), some (.int _)], [.int _], _) _
      refine w_t (pc := 11) (e_s := (15, 3, 24, 0, 0, .null, [])) (y_s := (24, [some (.ref _), some (.int _)], [], _)) rfl (u_ rfl) ?_
      refine w_t (pc := 24) (e_s := (0, 1, 0, 0, 0, .int (-1), [])) (y_s := (25, [some (.ref _), some (.int _)], [.int _], _)) rfl (u_ rfl) ?_
      exact wrI (pc := 25) (len_s := 1) rfl hk t_s
    · replace t_s := t_s.2 c2_s
      refine w_t (pc := 6) (e_s := (2, 1, 0, 0, 0, .null, [])) (y_s := (7, [some (.long _), none, some (.long _), none, some (.long _), none], [.long _], _)) rfl (u_ rfl) ?_
      refine w_t (pc := 7) (e_s := (2, 2, 4, 0, 0, .null, [])) (y_s := (9, [some (.long _), none, some (.long _), none, some (.long _), none], [.long _, .long _], _)) rfl (u_ rfl) ?_
      refine w_t (pc := 9) (e_s := (14, 1, 0, 0, 0, .null, [])) (y_s := (10, [some (.long _), none, some (.long _), none, some (.long _), none], [.int (lg_cmp _ _)], _)) rfl (u_ rfl) ?_
      refine wl4 (pc := 10) (len_s := 3) (Y := 5) rfl (Int32.toInt_toInt64 _) (by decide) (fun c3_s => ?_) (fun c3_s => ?_)
      · replace t_s := t_s.1 c3_s
        refine w_t (pc := 17) (e_s := (0, 1, 0, 0, 0, .int 0, [])) (y_s := (18, [some (.long _), none, some (.long _), none, some (.long _), none], [.int _], _)) rfl (u_ rfl) ?_
        refine wrI (pc := 18) (len_s := 1) rfl hk ?_
        show wF _ 228 (9, [some (.int _)], [.int _], _) _
        refine wrI (pc := 9) (len_s := 1) rfl hk ?_
        show wF _ 203 (11, [some (.ref _), some (.int _)], [.int _], _) _
        refine w_t (pc := 11) (e_s := (15, 3, 24, 0, 0, .null, [])) (y_s := (24, [some (.ref _), some (.int _)], [], _)) rfl (u_ rfl) ?_
        refine w_t (pc := 24) (e_s := (0, 1, 0, 0, 0, .int (-1), [])) (y_s := (25, [some (.ref _), some (.int _)], [.int _], _)) rfl (u_ rfl) ?_
        exact wrI (pc := 25) (len_s := 1) rfl hk t_s
      · replace t_s := t_s.2 c3_s
        refine w_t (pc := 13) (e_s := (0, 1, 0, 0, 0, .int 1, [])) (y_s := (14, [some (.long _), none, some (.long _), none, some (.long _), none], [.int _], _)) rfl (u_ rfl) ?_
        refine w_t (pc := 14) (e_s := (17, 3, 18, 0, 0, .null, [])) (y_s := (18, [some (.long _), none, some (.long _), none, some (.long _), none], [.int _], _)) rfl (u_ rfl) ?_
        refine wrI (pc := 18) (len_s := 1) rfl hk ?_
        show wF _ 228 (9, [some (.int _)], [.int _], _) _
        refine wrI (pc := 9) (len_s := 1) rfl hk ?_
        show wF _ 203 (11, [some (.ref _), some (.int _)], [.int _], _) _
        refine w_t (pc := 11) (e_s := (15, 3, 24, 0, 0, .null, [])) (y_s := (14, [some (.ref _), some (.int _)], [], _)) rfl (u_ rfl) ?_
        refine w_t (pc := 14) (e_s := (1, 1, 1, 0, 0, .null, [])) (y_s := (15, [some (.ref _), some (.int _)], [.int _], _)) rfl (u_ rfl) ?_
        refine w_t (pc := 15) (e_s := (0, 2, 0, 0, 0, .int 10, [])) (y_s := (17, [some (.ref _), some (.int _)], [.int _, .int _], _)) rfl (u_ rfl) ?_
        refine w8m (pc := 17) (len_s := 1) rfl ?_
        refine wcI (pc := 18) (len_s := 3) rfl rfl (l := [some (.int _)]) rfl ?_
        refine w_t (pc := 0) (e_s := (1, 1, 0, 0, 0, .null, [])) (y_s := (1, [some (.int _)], [.int _], _)) rfl (u_ rfl) ?_
        refine w_t (pc := 1) (e_s := (10, 1, 0, 0, 0, .null, [])) (y_s := (2, [some (.int _)], [.long (Int32.toInt64 _)], _)) rfl (u_ rfl) ?_
        refine w_t (pc := 2) (e_s := (0, 1, 0, 0, 0, .long 0, [])) (y_s := (3, [some (.int _)], [.long _, .long _], _)) rfl (u_ rfl) ?_
        refine w_t (pc := 3) (e_s := (0, 3, 0, 0, 0, .long 5, [(0, 1063)])) (y_s := (6, [some (.int _)], [.long _, .long _, .long _], _)) rfl (u_ rfl) ?_
        refine wcI (pc := 6) (len_s := 3) rfl rfl (l := [some (.long _), none, some (.long _), none, some (.long _), none]) rfl ?_
        refine w_t (pc := 0) (e_s := (2, 1, 0, 0, 0, .null, [])) (y_s := (1, [some (.long _), none, some (.long _), none, some (.long _), none], [.long _], _)) rfl (u_ rfl) ?_
        refine w_t (pc := 1) (e_s := (2, 1, 2, 0, 0, .null, [])) (y_s := (2, [some (.long _), none, some (.long _), none, some (.long _), none], [.long _, .long _], _)) rfl (u_ rfl) ?_
        refine w_t (pc := 2) (e_s := (14, 1, 0, 0, 0, .null, [])) (y_s := (3, [some (.long _), none, some (.long _), none, some (.long _), none], [.int (lg_cmp _ _)], _)) rfl (u_ rfl) ?_
        refine wl2 (pc := 3) (len_s := 3) (Y := 0) rfl (Int32.toInt_toInt64 _) (by decide) (fun c4_s => ?_) (fun c4_s => ?_)
        · replace t_s := t_s.1 c4_s
          refine w_t (pc := 17) (e_s := (0, 1, 0, 0, 0, .int 0, [])) (y_s := (18, [some (.long _), none, some (.long _), none, some (.long _), none], [.int _], _)) rfl (u_ rfl) ?_
          refine wrI (pc := 18) (len_s := 1) rfl hk ?_
          show wF _ 228 (9, [some (.int _)], [.int _], _) _
          refine wrI (pc := 9) (len_s := 1) rfl hk ?_
          show wF _ 203 (21, [some (.ref _), some (.int _)], [.int _], _) _
          refine w_t (pc := 21) (e_s := (15, 3, 26, 1, 0, .null, [])) (y_s := (24, [some (.ref _), some (.int _)], [], _)) rfl (u_ rfl) ?_
          refine w_t (pc := 24) (e_s := (0, 1, 0, 0, 0, .int (-1), [])) (y_s := (25, [some (.ref _), some (.int _)], [.int _], _)) rfl (u_ rfl) ?_
          exact wrI (pc := 25) (len_s := 1) rfl hk t_s
        · replace t_s := t_s.2 c4_s
          refine w_t (pc := 6) (e_s := (2, 1, 0, 0, 0, .null, [])) (y_s := (7, [some (.long _), none, some (.long _), none, some (.long _), none], [.long _], _)) rfl (u_ rfl) ?_
          refine w_t (pc := 7) (e_s := (2, 2, 4, 0, 0, .null, [])) (y_s := (9, [some (.long _), none, some (.long _), none, some (.long _), none], [.long _, .long _], _)) rfl (u_ rfl) ?_
          refine w_t (pc := 9) (e_s := (14, 1, 0, 0, 0, .null, [])) (y_s := (10, [some (.long _), none, some (.long _), none, some (.long _), none], [.int (lg_cmp _ _)], _)) rfl (u_ rfl) ?_
          refine wl4 (pc := 10) (len_s := 3) (Y := 5) rfl (Int32.toInt_toInt64 _) (by decide) (fun c5_s => ?_) (fun c5_s => ?_)
          · replace t_s := t_s.1 c5_s
            refine w_t (pc := 17) (e_s := (0, 1, 0, 0, 0, .int 0, [])) (y_s := (18, [some (.long _), none, some (.long _), none, some (.long _), none], [.int _], _)) rfl (u_ rfl) ?_
            refine wrI (pc := 18) (len_s := 1) rfl hk ?_
            show wF _ 228 (9, [some (.int _)], [.int _], _) _
            refine wrI (pc := 9) (len_s := 1) rfl hk ?_
            show wF _ 203 (21, [some (.ref _), some (.int _)], [.int _], _) _
            refine w_t (pc := 21) (e_s := (15, 3, 26, 1, 0, .null, [])) (y_s := (24, [some (.ref _), some (.int _)], [], _)) rfl (u_ rfl) ?_
            refine w_t (pc := 24) (e_s := (0, 1, 0, 0, 0, .int (-1), [])) (y_s := (25, [some (.ref _), some (.int _)], [.int _], _)) rfl (u_ rfl) ?_
            exact wrI (pc := 25) (len_s := 1) rfl hk t_s
          · replace t_s := t_s.2 c5_s
            refine w_t (pc := 13) (e_s := (0, 1, 0, 0, 0, .int 1, [])) (y_s := (14, [some (.long _), none, some (.long _), none, some (.long _), none], [.int _], _)) rfl (u_ rfl) ?_
            refine w_t (pc := 14) (e_s := (17, 3, 18, 0, 0, .null, [])) (y_s := (18, [some (.long _), none, some (.long _), none, some (.long _), none], [.int _], _)) rfl (u_ rfl) ?_
            refine wrI (pc := 18) (len_s := 1) rfl hk ?_
            show wF _ 228 (9, [some (.int _)], [.int _], _) _
            refine wrI (pc := 9) (len_s := 1) rfl hk ?_
            show wF _ 203 (21, [some (.ref _), some (.int _)], [.int _], _) _
            refine w_t (pc := 21) (e_s := (15, 3, 26, 1, 0, .null, [])) (y_s := (26, [some (.ref _), some (.int _)], [], _)) rfl (u_ rfl) ?_
            refine w_t (pc := 26) (e_s := (3, 1, 0, 0, 0, .null, [])) (y_s := (27, [some (.ref _), some (.int _)], [.ref _], _)) rfl (u_ rfl) ?_
            refine w_t (pc := 27) (e_s := (1, 1, 1, 0, 0, .null, [])) (y_s := (28, [some (.ref _), some (.int _)], [.int _, .ref _], _)) rfl (u_ rfl) ?_
            refine w_t (pc := 28) (e_s := (0, 2, 0, 0, 0, .int 10, [])) (y_s := (30, [some (.ref _), some (.int _)], [.int _, .int _, .ref _], _)) rfl (u_ rfl) ?_
            refine w8 (pc := 30) (len_s := 1) rfl ?_
            refine wcI (pc := 31) (len_s := 3) rfl rfl (l := [some (.ref _), some (.int _)]) rfl ?_
            refine w_t (pc := 0) (e_s := (1, 1, 1, 0, 0, .null, [])) (y_s := (1, [some (.ref _), some (.int _)], [.int _], _)) rfl (u_ rfl) ?_
            refine wcI (pc := 1) (len_s := 3) rfl rfl (l := [some (.int _)]) rfl ?_
            refine w_t (pc := 0) (e_s := (1, 1, 0, 0, 0, .null, [])) (y_s := (1, [some (.int _)], [.int _], _)) rfl (u_ rfl) ?_
            refine w_t (pc := 1) (e_s := (10, 1, 0, 0, 0, .null, [])) (y_s := (2, [some (.int _)], [.long (Int32.toInt64 _)], _)) rfl (u_ rfl) ?_
            refine w_t (pc := 2) (e_s := (0, 1, 0, 0, 0, .long 0, [])) (y_s := (3, [some (.int _)], [.long _, .long _], _)) rfl (u_ rfl) ?_
            refine w_t (pc := 3) (e_s := (0, 3, 0, 0, 0, .long 5, [(0, 1063)])) (y_s := (6, [some (.int _)], [.long _, .long _, .long _], _)) rfl (u_ rfl) ?_
            refine wcI (pc := 6) (len_s := 3) rfl rfl (l := [some (.long _), none, some (.long _), none, some (.long _), none]) rfl ?_
            refine w_t (pc := 0) (e_s := (2, 1, 0, 0, 0, .null, [])) (y_s := (1, [some (.long _), none, some (.long _), none, some (.long _), none], [.long _], _)) rfl (u_ rfl) ?_
            refine w_t (pc := 1) (e_s := (2, 1, 2, 0, 0, .null, [])) (y_s := (2, [some (.long _), none, some (.long _), none, some (.long _), none], [.long _, .long _], _)) rfl (u_ rfl) ?_
            refine w_t (pc := 2) (e_s := (14, 1, 0, 0, 0, .null, [])) (y_s := (3, [some (.long _), none, some (.long _), none, some (.long _), none], [.int (lg_cmp _ _)], _)) rfl (u_ rfl) ?_
            refine wl2 (pc := 3) (len_s := 3) (Y := 0) rfl (Int32.toInt_toInt64 _) (by decide) (fun c6_s => ?_) (fun c6_s => ?_)
            · exact absurd c6_s c2_s
            · skip
              refine w_t (pc := 6) (e_s := (2, 1, 0, 0, 0, .null, [])) (y_s := (7, [some (.long _), none, some (.long _), none, some (.long _), none], [.long _], _)) rfl (u_ rfl) ?_
              refine w_t (pc := 7) (e_s := (2, 2, 4, 0, 0, .null, [])) (y_s := (9, [some (.long _), none, some (.long _), none, some (.long _), none], [.long _, .long _], _)) rfl (u_ rfl) ?_
              refine w_t (pc := 9) (e_s := (14, 1, 0, 0, 0, .null, [])) (y_s := (10, [some (.long _), none, some (.long _), none, some (.long _), none], [.int (lg_cmp _ _)], _)) rfl (u_ rfl) ?_
              refine wl4 (pc := 10) (len_s := 3) (Y := 5) rfl (Int32.toInt_toInt64 _) (by decide) (fun c7_s => ?_) (fun c7_s => ?_)
              · exact absurd c7_s c3_s
              · skip
                refine w_t (pc := 13) (e_s := (0, 1, 0, 0, 0, .int 1, [])) (y_s := (14, [some (.long _), none, some (.long _), none, some (.long _), none], [.int _], _)) rfl (u_ rfl) ?_
                refine w_t (pc := 14) (e_s := (17, 3, 18, 0, 0, .null, [])) (y_s := (18, [some (.long _), none, some (.long _), none, some (.long _), none], [.int _], _)) rfl (u_ rfl) ?_
                refine wrI (pc := 18) (len_s := 1) rfl hk ?_
                show wF _ 228 (9, [some (.int _)], [.int _], _) _
                refine wrI (pc := 9) (len_s := 1) rfl hk ?_
                show wF _ 186 (4, [some (.ref _), some (.int _)], [.int _], _) _
                refine w_t (pc := 4) (e_s := (15, 3, 11, 1, 0, .null, [])) (y_s := (11, [some (.ref _), some (.int _)], [], _)) rfl (u_ rfl) ?_
                refine w_t (pc := 11) (e_s := (3, 1, 0, 0, 0, .null, [])) (y_s := (12, [some (.ref _), some (.int _)], [.ref _], _)) rfl (u_ rfl) ?_
                refine w20r (pc := 12) (len_s := 3) (q_s := 124) rfl (krq hk rfl) ?_
                refine w_t (pc := 15) (e_s := (1, 1, 1, 0, 0, .null, [])) (y_s := (16, [some (.ref _), some (.int _)], [.int _, .ref _], _)) rfl (u_ rfl) ?_
                refine w22 (pc := 16) (len_s := 1) rfl (hk.1 124 0 6 rfl rfl) (fun c8_s => ?_)
                replace t_s := t_s c8_s
                refine wq3 (pc := 17) (len_s := 3) rfl rfl (fun c9_s => ?_) (fun c9_s => ?_)
                · replace t_s := t_s.1 c9_s
                  refine w_t (pc := 20) (e_s := (0, 2, 0, 0, 0, .int (-11), [])) (y_s := (22, [some (.ref _), some (.int _)], [.int _], _)) rfl (u_ rfl) ?_
                  refine w_t (pc := 22) (e_s := (17, 3, 42, 0, 0, .null, [])) (y_s := (42, [some (.ref _), some (.int _)], [.int _], _)) rfl (u_ rfl) ?_
                  refine wrI (pc := 42) (len_s := 1) rfl hk ?_
                  show wF _ 203 (34, [some (.ref _), some (.int _)], [.int _], _) _
                  refine w_t (pc := 34) (e_s := (15, 3, 48, 3, 0, .null, [])) (y_s := (37, [some (.ref _), some (.int _)], [], _)) rfl (u_ rfl) ?_
                  refine w_t (pc := 37) (e_s := (3, 1, 0, 0, 0, .null, [])) (y_s := (38, [some (.ref _), some (.int _)], [.ref _], _)) rfl (u_ rfl) ?_
                  refine w_t (pc := 38) (e_s := (1, 1, 1, 0, 0, .null, [])) (y_s := (39, [some (.ref _), some (.int _)], [.int _, .ref _], _)) rfl (u_ rfl) ?_
                  refine w_t (pc := 39) (e_s := (0, 2, 0, 0, 0, .int 10, [])) (y_s := (41, [some (.ref _), some (.int _)], [.int _, .int _, .ref _], _)) rfl (u_ rfl) ?_
                  refine w8 (pc := 41) (len_s := 1) rfl ?_
                  refine wcI (pc := 42) (len_s := 3) rfl rfl (l := [some (.ref _), some (.int _)]) rfl ?_
                  refine w_t (pc := 0) (e_s := (1, 1, 1, 0, 0, .null, [])) (y_s := (1, [some (.ref _), some (.int _)], [.int _], _)) rfl (u_ rfl) ?_
                  refine wcI (pc := 1) (len_s := 3) rfl rfl (l := [some (.int _)]) rfl ?_
                  refine w_t (pc := 0) (e_s := (1, 1, 0, 0, 0, .null, [])) (y_s := (1, [some (.int _)], [.int _], _)) rfl (u_ rfl) ?_
                  refine w_t (pc := 1) (e_s := (10, 1, 0, 0, 0, .null, [])) (y_s := (2, [some (.int _)], [.long (Int32.toInt64 _)], _)) rfl (u_ rfl) ?_
                  refine w_t (pc := 2) (e_s := (0, 1, 0, 0, 0, .long 0, [])) (y_s := (3, [some (.int _)], [.long _, .long _], _)) rfl (u_ rfl) ?_
                  refine w_t (pc := 3) (e_s := (0, 3, 0, 0, 0, .long 5, [(0, 1063)])) (y_s := (6, [some (.int _)], [.long _, .long _, .long _], _)) rfl (u_ rfl) ?_
                  refine wcI (pc := 6) (len_s := 3) rfl rfl (l := [some (.long _), none, some (.long _), none, some (.long _), none]) rfl ?_
                  refine w_t (pc := 0) (e_s := (2, 1, 0, 0, 0, .null, [])) (y_s := (1, [some (.long _), none, some (.long _), none, some (.long _), none], [.long _], _)) rfl (u_ rfl) ?_
                  refine w_t (pc := 1) (e_s := (2, 1, 2, 0, 0, .null, [])) (y_s := (2, [some (.long _), none, some (.long _), none, some (.long _), none], [.long _, .long _], _)) rfl (u_ rfl) ?_
                  refine w_t (pc := 2) (e_s := (14, 1, 0, 0, 0, .null, [])) (y_s := (3, [some (.long _), none, some (.long _), none, some (.long _), none], [.int (lg_cmp _ _)], _)) rfl (u_ rfl) ?_
                  refine wl2 (pc := 3) (len_s := 3) (Y := 0) rfl (Int32.toInt_toInt64 _) (by decide) (fun c10_s => ?_) (fun c10_s => ?_)
                  · exact absurd c10_s c2_s
                  · skip
                    refine w_t (pc := 6) (e_s := (2, 1, 0, 0, 0, .null, [])) (y_s := (7, [some (.long _), none, some (.long _), none, some (.long _), none], [.long _], _)) rfl (u_ rfl) ?_
                    refine w_t (pc := 7) (e_s := (2, 2, 4, 0, 0, .null, [])) (y_s := (9, [some (.long _), none, some (.long _), none, some (.long _), none], [.long _, .long _], _)) rfl (u_ rfl) ?_
                    refine w_t (pc := 9) (e_s := (14, 1, 0, 0, 0, .null, [])) (y_s := (10, [some (.long _), none, some (.long _), none, some (.long _), none], [.int (lg_cmp _ _)], _)) rfl (u_ rfl) ?_
                    refine wl4 (pc := 10) (len_s := 3) (Y := 5) rfl (Int32.toInt_toInt64 _) (by decide) (fun c11_s => ?_) (fun c11_s => ?_)
                    · exact absurd c11_s c3_s
                    · skip
                      refine w_t (pc := 13) (e_s := (0, 1, 0, 0, 0, .int 1, [])) (y_s := (14, [some (.long _), none, some (.long _), none, some (.long _), none], [.int _], _)) rfl (u_ rfl) ?_
                      refine w_t (pc := 14) (e_s := (17, 3, 18, 0, 0, .null, [])) (y_s := (18, [some (.long _), none, some (.long _), none, some (.long _), none], [.int _], _)) rfl (u_ rfl) ?_
                      refine wrI (pc := 18) (len_s := 1) rfl hk ?_
                      show wF _ 228 (9, [some (.int _)], [.int _], _) _
                      refine wrI (pc := 9) (len_s := 1) rfl hk ?_
                      show wF _ 186 (4, [some (.ref _), some (.int _)], [.int _], _) _
                      refine w_t (pc := 4) (e_s := (15, 3, 11, 1, 0, .null, [])) (y_s := (11, [some (.ref _), some (.int _)], [], _)) rfl (u_ rfl) ?_
                      refine w_t (pc := 11) (e_s := (3, 1, 0, 0, 0, .null, [])) (y_s := (12, [some (.ref _), some (.int _)], [.ref _], _)) rfl (u_ rfl) ?_
                      refine w20r (pc := 12) (len_s := 3) (q_s := 124) rfl (krq hk rfl) ?_
                      refine w_t (pc := 15) (e_s := (1, 1, 1, 0, 0, .null, [])) (y_s := (16, [some (.ref _), some (.int _)], [.int _, .ref _], _)) rfl (u_ rfl) ?_
                      refine w22 (pc := 16) (len_s := 1) rfl (hk.1 124 0 6 rfl rfl) (fun c12_s => ?_)
                      refine wq3 (pc := 17) (len_s := 3) rfl rfl (fun c13_s => ?_) (fun c13_s => ?_)
                      · skip
                        refine w_t (pc := 20) (e_s := (0, 2, 0, 0, 0, .int (-11), [])) (y_s := (22, [some (.ref _), some (.int _)], [.int _], _)) rfl (u_ rfl) ?_
                        refine w_t (pc := 22) (e_s := (17, 3, 42, 0, 0, .null, [])) (y_s := (42, [some (.ref _), some (.int _)], [.int _], _)) rfl (u_ rfl) ?_
                        refine wrI (pc := 42) (len_s := 1) rfl hk ?_
                        show wF _ 203 (45, [some (.ref _), some (.int _)], [.int _], _) _
                        refine w_t (pc := 45) (e_s := (17, 3, 56, 0, 0, .null, [])) (y_s := (56, [some (.ref _), some (.int _)], [.int _], _)) rfl (u_ rfl) ?_
                        exact wrI (pc := 56) (len_s := 1) rfl hk t_s
                      · exact absurd c9_s c13_s
                · replace t_s := t_s.2 c9_s
                  refine w_t (pc := 25) (e_s := (3, 1, 0, 0, 0, .null, [])) (y_s := (26, [some (.ref _), some (.int _)], [.ref _], _)) rfl (u_ rfl) ?_
                  refine w20r (pc := 26) (len_s := 3) (q_s := 124) rfl (krq hk rfl) ?_
                  refine w_t (pc := 29) (e_s := (1, 1, 1, 0, 0, .null, [])) (y_s := (30, [some (.ref _), some (.int _)], [.int _, .ref _], _)) rfl (u_ rfl) ?_
                  refine w22 (pc := 30) (len_s := 1) rfl (hk.1 124 0 6 rfl rfl) (fun c14_s => ?_)
                  refine w_t (pc := 31) (e_s := (0, 2, 0, 0, 0, .int 50, [])) (y_s := (33, [some (.ref _), some (.int _)], [.int _, .int _], _)) rfl (u_ rfl) ?_
                  refine wi1 (pc := 33) (len_s := 3) (Y := 50) rfl rfl (by decide) (fun c15_s => ?_) (fun c15_s => ?_)
                  · replace t_s := t_s.1 c15_s
                    refine w_t (pc := 36) (e_s := (0, 1, 0, 0, 0, .int 1, [])) (y_s := (37, [some (.ref _), some (.int _)], [.int _], _)) rfl (u_ rfl) ?_
                    refine w_t (pc := 37) (e_s := (17, 3, 42, 0, 0, .null, [])) (y_s := (42, [some (.ref _), some (.int _)], [.int _], _)) rfl (u_ rfl) ?_
                    refine wrI (pc := 42) (len_s := 1) rfl hk ?_
                    show wF _ 203 (34, [some (.ref _), some (.int _)], [.int _], _) _
                    refine w_t (pc := 34) (e_s := (15, 3, 48, 3, 0, .null, [])) (y_s := (48, [some (.ref _), some (.int _)], [], _)) rfl (u_ rfl) ?_
                    refine w_t (pc := 48) (e_s := (3, 1, 0, 0, 0, .null, [])) (y_s := (49, [some (.ref _), some (.int _)], [.ref _], _)) rfl (u_ rfl) ?_
                    refine w_t (pc := 49) (e_s := (1, 1, 1, 0, 0, .null, [])) (y_s := (50, [some (.ref _), some (.int _)], [.int _, .ref _], _)) rfl (u_ rfl) ?_
                    refine w_t (pc := 50) (e_s := (0, 2, 0, 0, 0, .int 10, [])) (y_s := (52, [some (.ref _), some (.int _)], [.int _, .int _, .ref _], _)) rfl (u_ rfl) ?_
                    refine w8m (pc := 52) (len_s := 1) rfl ?_
                    refine wcI (pc := 53) (len_s := 3) rfl rfl (l := [some (.ref _), some (.int _)]) rfl ?_
                    refine w_t (pc := 0) (e_s := (1, 1, 1, 0, 0, .null, [])) (y_s := (1, [some (.ref _), some (.int _)], [.int _], _)) rfl (u_ rfl) ?_
                    refine wcI (pc := 1) (len_s := 3) rfl rfl (l := [some (.int _)]) rfl ?_
                    refine w_t (pc := 0) (e_s := (1, 1, 0, 0, 0, .null, [])) (y_s := (1, [some (.int _)], [.int _], _)) rfl (u_ rfl) ?_
                    refine w_t (pc := 1) (e_s := (10, 1, 0, 0, 0, .null, [])) (y_s := (2, [some (.int _)], [.long (Int32.toInt64 _)], _)) rfl (u_ rfl) ?_
                    refine w_t (pc := 2) (e_s := (0, 1, 0, 0, 0, .long 0, [])) (y_s := (3, [some (.int _)], [.long _, .long _], _)) rfl (u_ rfl) ?_
                    refine w_t (pc := 3) (e_s := (0, 3, 0, 0, 0, .long 5, [(0, 1063)])) (y_s := (6, [some (.int _)], [.long _, .long _, .long _], _)) rfl (u_ rfl) ?_
                    refine wcI (pc := 6) (len_s := 3) rfl rfl (l := [some (.long _), none, some (.long _), none, some (.long _), none]) rfl ?_
                    refine w_t (pc := 0) (e_s := (2, 1, 0, 0, 0, .null, [])) (y_s := (1, [some (.long _), none, some (.long _), none, some (.long _), none], [.long _], _)) rfl (u_ rfl) ?_
                    refine w_t (pc := 1) (e_s := (2, 1, 2, 0, 0, .null, [])) (y_s := (2, [some (.long _), none, some (.long _), none, some (.long _), none], [.long _, .long _], _)) rfl (u_ rfl) ?_
                    refine w_t (pc := 2) (e_s := (14, 1, 0, 0, 0, .null, [])) (y_s := (3, [some (.long _), none, some (.long _), none, some (.long _), none], [.int (lg_cmp _ _)], _)) rfl (u_ rfl) ?_
                    refine wl2 (pc := 3) (len_s := 3) (Y := 0) rfl (Int32.toInt_toInt64 _) (by decide) (fun c16 => ?_) (fun c16 => ?_)
                    · exact absurd c16 c4_s
                    · skip
                      refine w_t (pc := 6) (e_s := (2, 1, 0, 0, 0, .null, [])) (y_s := (7, [some (.long _), none, some (.long _), none, some (.long _), none], [.long _], _)) rfl (u_ rfl) ?_
                      refine w_t (pc := 7) (e_s := (2, 2, 4, 0, 0, .null, [])) (y_s := (9, [some (.long _), none, some (.long _), none, some (.long _), none], [.long _, .long _], _)) rfl (u_ rfl) ?_
                      refine w_t (pc := 9) (e_s := (14, 1, 0, 0, 0, .null, [])) (y_s := (10, [some (.long _), none, some (.long _), none, some (.long _), none], [.int (lg_cmp _ _)], _)) rfl (u_ rfl) ?_
                      refine wl4 (pc := 10) (len_s := 3) (Y := 5) rfl (Int32.toInt_toInt64 _) (by decide) (fun c17 => ?_) (fun c17 => ?_)
                      · exact absurd c17 c5_s
                      · skip
                        refine w_t (pc := 13) (e_s := (0, 1, 0, 0, 0, .int 1, [])) (y_s := (14, [some (.long _), none, some (.long _), none, some (.long _), none], [.int _], _)) rfl (u_ rfl) ?_
                        refine w_t (pc := 14) (e_s := (17, 3, 18, 0, 0, .null, [])) (y_s := (18, [some (.long _), none, some (.long _), none, some (.long _), none], [.int _], _)) rfl (u_ rfl) ?_
                        refine wrI (pc := 18) (len_s := 1) rfl hk ?_
                        show wF _ 228 (9, [some (.int _)], [.int _], _) _
                        refine wrI (pc := 9) (len_s := 1) rfl hk ?_
                        show wF _ 186 (4, [some (.ref _), some (.int _)], [.int _], _) _
                        refine w_t (pc := 4) (e_s := (15, 3, 11, 1, 0, .null, [])) (y_s := (11, [some (.ref _), some (.int _)], [], _)) rfl (u_ rfl) ?_
                        refine w_t (pc := 11) (e_s := (3, 1, 0, 0, 0, .null, [])) (y_s := (12, [some (.ref _), some (.int _)], [.ref _], _)) rfl (u_ rfl) ?_
                        refine w20r (pc := 12) (len_s := 3) (q_s := 124) rfl (krq hk rfl) ?_
                        refine w_t (pc := 15) (e_s := (1, 1, 1, 0, 0, .null, [])) (y_s := (16, [some (.ref _), some (.int _)], [.int _, .ref _], _)) rfl (u_ rfl) ?_
                        refine w22 (pc := 16) (len_s := 1) rfl (hk.1 124 0 6 rfl rfl) (fun c18_s => ?_)
                        replace t_s := t_s c18_s
                        refine wq3 (pc := 17) (len_s := 3) rfl rfl (fun c19_s => ?_) (fun c19_s => ?_)
                        · replace t_s := t_s.1 c19_s
                          refine w_t (pc := 20) (e_s := (0, 2, 0, 0, 0, .int (-11), [])) (y_s := (22, [some (.ref _), some (.int _)], [.int _], _)) rfl (u_ rfl) ?_
                          refine w_t (pc := 22) (e_s := (17, 3, 42, 0, 0, .null, [])) (y_s := (42, [some (.ref _), some (.int _)], [.int _], _)) rfl (u_ rfl) ?_
                          refine wrI (pc := 42) (len_s := 1) rfl hk ?_
                          show wF _ 203 (56, [some (.ref _), some (.int _)], [.int _], _) _
                          exact wrI (pc := 56) (len_s := 1) rfl hk t_s
                        · replace t_s := t_s.2 c19_s
                          refine w_t (pc := 25) (e_s := (3, 1, 0, 0, 0, .null, [])) (y_s := (26, [some (.ref _), some (.int _)], [.ref _], _)) rfl (u_ rfl) ?_
                          refine w20r (pc := 26) (len_s := 3) (q_s := 124) rfl (krq hk rfl) ?_
                          refine w_t (pc := 29) (e_s := (1, 1, 1, 0, 0, .null, [])) (y_s := (30, [some (.ref _), some (.int _)], [.int _, .ref _], _)) rfl (u_ rfl) ?_
                          refine w22 (pc := 30) (len_s := 1) rfl (hk.1 124 0 6 rfl rfl) (fun c20_s => ?_)
                          refine w_t (pc := 31) (e_s := (0, 2, 0, 0, 0, .int 50, [])) (y_s := (33, [some (.ref _), some (.int _)], [.int _, .int _], _)) rfl (u_ rfl) ?_
                          refine wi1 (pc := 33) (len_s := 3) (Y := 50) rfl rfl (by decide) (fun c21 => ?_) (fun c21 => ?_)
                          · replace t_s := t_s.1 c21
                            refine w_t (pc := 36) (e_s := (0, 1, 0, 0, 0, .int 1, [])) (y_s := (37, [some (.ref _), some (.int _)], [.int _], _)) rfl (u_ rfl) ?_
                            refine w_t (pc := 37) (e_s := (17, 3, 42, 0, 0, .null, [])) (y_s := (42, [some (.ref _), some (.int _)], [.int _], _)) rfl (u_ rfl) ?_
                            refine wrI (pc := 42) (len_s := 1) rfl hk ?_
                            show wF _ 203 (56, [some (.ref _), some (.int _)], [.int _], _) _
                            exact wrI (pc := 56) (len_s := 1) rfl hk t_s
                          · replace t_s := t_s.2 c21
                            refine w_t (pc := 40) (e_s := (0, 2, 0, 0, 0, .int (-12), [])) (y_s := (42, [some (.ref _), some (.int _)], [.int _], _)) rfl (u_ rfl) ?_
                            refine wrI (pc := 42) (len_s := 1) rfl hk ?_
                            show wF _ 203 (56, [some (.ref _), some (.int _)], [.int _], _) _
                            exact wrI (pc := 56) (len_s := 1) rfl hk t_s
                  · replace t_s := t_s.2 c15_s
                    refine w_t (pc := 40) (e_s := (0, 2, 0, 0, 0, .int (-12), [])) (y_s := (42, [some (.ref _), some (.int _)], [.int _], _)) rfl (u_ rfl) ?_
                    refine wrI (pc := 42) (len_s := 1) rfl hk ?_
                    show wF _ 203 (34, [some (.ref _), some (.int _)], [.int _], _) _
                    refine w_t (pc := 34) (e_s := (15, 3, 48, 3, 0, .null, [])) (y_s := (37, [some (.ref _), some (.int _)], [], _)) rfl (u_ rfl) ?_
                    refine w_t (pc := 37) (e_s := (3, 1, 0, 0, 0, .null, [])) (y_s := (38, [some (.ref _), some (.int _)], [.ref _], _)) rfl (u_ rfl) ?_
                    refine w_t (pc := 38) (e_s := (1, 1, 1, 0, 0, .null, [])) (y_s := (39, [some (.ref _), some (.int _)], [.int _, .ref _], _)) rfl (u_ rfl) ?_
                    refine w_t (pc := 39) (e_s := (0, 2, 0, 0, 0, .int 10, [])) (y_s := (41, [some (.ref _), some (.int _)], [.int _, .int _, .ref _], _)) rfl (u_ rfl) ?_
                    refine w8 (pc := 41) (len_s := 1) rfl ?_
                    refine wcI (pc := 42) (len_s := 3) rfl rfl (l := [some (.ref _), some (.int _)]) rfl ?_
                    refine w_t (pc := 0) (e_s := (1, 1, 1, 0, 0, .null, [])) (y_s := (1, [some (.ref _), some (.int _)], [.int _], _)) rfl (u_ rfl) ?_
                    refine wcI (pc := 1) (len_s := 3) rfl rfl (l := [some (.int _)]) rfl ?_
                    refine w_t (pc := 0) (e_s := (1, 1, 0, 0, 0, .null, [])) (y_s := (1, [some (.int _)], [.int _], _)) rfl (u_ rfl) ?_
                    refine w_t (pc := 1) (e_s := (10, 1, 0, 0, 0, .null, [])) (y_s := (2, [some (.int _)], [.long (Int32.toInt64 _)], _)) rfl (u_ rfl) ?_
                    refine w_t (pc := 2) (e_s := (0, 1, 0, 0, 0, .long 0, [])) (y_s := (3, [some (.int _)], [.long _, .long _], _)) rfl (u_ rfl) ?_
                    refine w_t (pc := 3) (e_s := (0, 3, 0, 0, 0, .long 5, [(0, 1063)])) (y_s := (6, [some (.int _)], [.long _, .long _, .long _], _)) rfl (u_ rfl) ?_
                    refine wcI (pc := 6) (len_s := 3) rfl rfl (l := [some (.long _), none, some (.long _), none, some (.long _), none]) rfl ?_
                    refine w_t (pc := 0) (e_s := (2, 1, 0, 0, 0, .null, [])) (y_s := (1, [some (.long _), none, some (.long _), none, some (.long _), none], [.long _], _)) rfl (u_ rfl) ?_
                    refine w_t (pc := 1) (e_s := (2, 1, 2, 0, 0, .null, [])) (y_s := (2, [some (.long _), none, some (.long _), none, some (.long _), none], [.long _, .long _], _)) rfl (u_ rfl) ?_
                    refine w_t (pc := 2) (e_s := (14, 1, 0, 0, 0, .null, [])) (y_s := (3, [some (.long _), none, some (.long _), none, some (.long _), none], [.int (lg_cmp _ _)], _)) rfl (u_ rfl) ?_
                    refine wl2 (pc := 3) (len_s := 3) (Y := 0) rfl (Int32.toInt_toInt64 _) (by decide) (fun c22 => ?_) (fun c22 => ?_)
                    · exact absurd c22 c2_s
                    · skip
                      refine w_t (pc := 6) (e_s := (2, 1, 0, 0, 0, .null, [])) (y_s := (7, [some (.long _), none, some (.long _), none, some (.long _), none], [.long _], _)) rfl (u_ rfl) ?_
                      refine w_t (pc := 7) (e_s := (2, 2, 4, 0, 0, .null, [])) (y_s := (9, [some (.long _), none, some (.long _), none, some (.long _), none], [.long _, .long _], _)) rfl (u_ rfl) ?_
                      refine w_t (pc := 9) (e_s := (14, 1, 0, 0, 0, .null, [])) (y_s := (10, [some (.long _), none, some (.long _), none, some (.long _), none], [.int (lg_cmp _ _)], _)) rfl (u_ rfl) ?_
                      refine wl4 (pc := 10) (len_s := 3) (Y := 5) rfl (Int32.toInt_toInt64 _) (by decide) (fun c23_s => ?_) (fun c23_s => ?_)
                      · exact absurd c23_s c3_s
                      · skip
                        refine w_t (pc := 13) (e_s := (0, 1, 0, 0, 0, .int 1, [])) (y_s := (14, [some (.long _), none, some (.long _), none, some (.long _), none], [.int _], _)) rfl (u_ rfl) ?_
                        refine w_t (pc := 14) (e_s := (17, 3, 18, 0, 0, .null, [])) (y_s := (18, [some (.long _), none, some (.long _), none, some (.long _), none], [.int _], _)) rfl (u_ rfl) ?_
                        refine wrI (pc := 18) (len_s := 1) rfl hk ?_
                        show wF _ 228 (9, [some (.int _)], [.int _], _) _
                        refine wrI (pc := 9) (len_s := 1) rfl hk ?_
                        show wF _ 186 (4, [some (.ref _), some (.int _)], [.int _], _) _
                        refine w_t (pc := 4) (e_s := (15, 3, 11, 1, 0, .null, [])) (y_s := (11, [some (.ref _), some (.int _)], [], _)) rfl (u_ rfl) ?_
                        refine w_t (pc := 11) (e_s := (3, 1, 0, 0, 0, .null, [])) (y_s := (12, [some (.ref _), some (.int _)], [.ref _], _)) rfl (u_ rfl) ?_
                        refine w20r (pc := 12) (len_s := 3) (q_s := 124) rfl (krq hk rfl) ?_
                        refine w_t (pc := 15) (e_s := (1, 1, 1, 0, 0, .null, [])) (y_s := (16, [some (.ref _), some (.int _)], [.int _, .ref _], _)) rfl (u_ rfl) ?_
                        refine w22 (pc := 16) (len_s := 1) rfl (hk.1 124 0 6 rfl rfl) (fun c24_s => ?_)
                        refine wq3 (pc := 17) (len_s := 3) rfl rfl (fun c25_s => ?_) (fun c25_s => ?_)
                        · exact absurd c25_s c9_s
                        · skip
                          refine w_t (pc := 25) (e_s := (3, 1, 0, 0, 0, .null, [])) (y_s := (26, [some (.ref _), some (.int _)], [.ref _], _)) rfl (u_ rfl) ?_
                          refine w20r (pc := 26) (len_s := 3) (q_s := 124) rfl (krq hk rfl) ?_
                          refine w_t (pc := 29) (e_s := (1, 1, 1, 0, 0, .null, [])) (y_s := (30, [some (.ref _), some (.int _)], [.int _, .ref _], _)) rfl (u_ rfl) ?_
                          refine w22 (pc := 30) (len_s := 1) rfl (hk.1 124 0 6 rfl rfl) (fun c26 => ?_)
                          refine w_t (pc := 31) (e_s := (0, 2, 0, 0, 0, .int 50, [])) (y_s := (33, [some (.ref _), some (.int _)], [.int _, .int _], _)) rfl (u_ rfl) ?_
                          refine wi1 (pc := 33) (len_s := 3) (Y := 50) rfl rfl (by decide) (fun c27_s => ?_) (fun c27_s => ?_)
                          · exact absurd c27_s c15_s
                          · skip
                            refine w_t (pc := 40) (e_s := (0, 2, 0, 0, 0, .int (-12), [])) (y_s := (42, [some (.ref _), some (.int _)], [.int _], _)) rfl (u_ rfl) ?_
                            refine wrI (pc := 42) (len_s := 1) rfl hk ?_
                            show wF _ 203 (45, [some (.ref _), some (.int _)], [.int _], _) _
                            refine w_t (pc := 45) (e_s := (17, 3, 56, 0, 0, .null, [])) (y_s := (56, [some (.ref _), some (.int _)], [.int _], _)) rfl (u_ rfl) ?_
                            exact wrI (pc := 56) (len_s := 1) rfl hk t_s
/-- ColdShodModel.edge(III)I, from 0 on -/
theorem sg_206_0 {F_s : Nat} {x1_s : Int32} {x2_s : Int32} {x3 : Int32} {h_s : zH} {K_s : Int32 → zH → Prop} (hk : hKn h_s) (t_s : wF F_s 203 (0, [some (.ref 102), some (.int x1_s)], [], h_s) (gI (fun v1_s h1 => hKn h1 → (v1_s.toInt = -1 → K_s (-1) h1) ∧ (¬ v1_s.toInt = -1 → ((x2_s.toInt < 0 → K_s (-1) h1) ∧ (¬ x2_s.toInt < 0 → ((((h1.2.1 102 7) - 1).toInt < x2_s.toInt → K_s (-1) h1) ∧ (¬ ((h1.2.1 102 7) - 1).toInt < x2_s.toInt → ((x3.toInt < 0 → K_s (-1) h1) ∧ (¬ x3.toInt < 0 → ((1 < x3.toInt → K_s (-1) h1) ∧ (¬ 1 < x3.toInt → wF F_s 203 (0, [some (.ref 102), some (.int x1_s)], [], h1) (gI (fun v7 h7 => hKn h7 → (v7.toInt < 0 → wF F_s 203 (0, [some (.ref 102), some (.int x1_s)], [], h7) (gI (fun v9 h9 => hKn h9 → K_s v9 h9))) ∧ (¬ v7.toInt < 0 → ((x3.toInt = 0 → (zix (12 + x2_s) < 104 → wF F_s 206 (74, [some (.ref 102), some (.int x1_s), some (.int x2_s), some (.int x3), some (.int (12 + x2_s)), some (.int (h7.2.1 103 (zix (12 + x2_s)))), some (.int 0), some (.int 0)], [], h7) (gI K_s))) ∧ (¬ x3.toInt = 0 → (zix (20 + x2_s) < 104 → wF F_s 206 (74, [some (.ref 102), some (.int x1_s), some (.int x2_s), some (.int x3), some (.int (20 + x2_s)), some (.int (h7.2.1 103 (zix (20 + x2_s)))), some (.int 0), some (.int 0)], [], h7) (gI K_s))))))))))))))))))) : wF (F_s + 1) 206 (0, [some (.ref 102), some (.int x1_s), some (.int x2_s), some (.int x3), none, none, none, none], [], h_s) (gI K_s) := by
  refine w_0 (pc := 0) (e_s := (3, 1, 0, 0, 0, .null, [])) (y_s := (1, [some (.ref _), some (.int _), some (.int _), some (.int _), none, none, none, none], [.ref _], _)) rfl (u_ rfl) ?_
  refine w_t (pc := 1) (e_s := (1, 1, 1, 0, 0, .null, [])) (y_s := (2, [some (.ref _), some (.int _), some (.int _), some (.int _), none, none, none, none], [.int _, .ref _], _)) rfl (u_ rfl) ?_
  refine wcI (pc := 2) (len_s := 3) rfl rfl (l := [some (.ref _), some (.int _)]) rfl (wmI t_s (fun v1_s h1 hk t_s => ?_))
  replace t_s := t_s hk
  refine w_t (pc := 5) (e_s := (0, 1, 0, 0, 0, .int (-1), [])) (y_s := (6, [some (.ref _), some (.int _), some (.int _), some (.int _), none, none, none, none], [.int _, .int _], _)) rfl (u_ rfl) ?_
  refine wi0 (pc := 6) (len_s := 3) (Y := -1) rfl rfl (by decide) (fun c2_s => ?_) (fun c2_s => ?_)
  · replace t_s := t_s.1 c2_s
    refine w_t (pc := 28) (e_s := (0, 1, 0, 0, 0, .int (-1), [])) (y_s := (29, [some (.ref _), some (.int _), some (.int _), some (.int _), none, none, none, none], [.int _], _)) rfl (u_ rfl) ?_
    exact wrI (pc := 29) (len_s := 1) rfl hk t_s
  · replace t_s := t_s.2 c2_s
    refine w_t (pc := 9) (e_s := (3, 1, 0, 0, 0, .null, [])) (y_s := (10, [some (.ref _), some (.int _), some (.int _), some (.int _), none, none, none, none], [.ref _], _)) rfl (u_ rfl) ?_
    refine w_t (pc := 10) (e_s := (1, 1, 2, 0, 0, .null, [])) (y_s := (11, [some (.ref _), some (.int _), some (.int _), some (.int _), none, none, none, none], [.int _, .ref _], _)) rfl (u_ rfl) ?_
    refine w_t (pc := 11) (e_s := (10, 1, 0, 0, 0, .null, [])) (y_s := (12, [some (.ref _), some (.int _), some (.int _), some (.int _), none, none, none, none], [.long (Int32.toInt64 _), .ref _], _)) rfl (u_ rfl) ?_
    refine wcI (pc := 12) (len_s := 3) rfl rfl (l := [some (.ref _), some (.long _), none]) rfl ?_
    refine w_t (pc := 0) (e_s := (2, 1, 1, 0, 0, .null, [])) (y_s := (1, [some (.ref _), some (.long _), none], [.long _], _)) rfl (u_ rfl) ?_
    refine w_t (pc := 1) (e_s := (0, 1, 0, 0, 0, .long 0, [])) (y_s := (2, [some (.ref _), some (.long _), none], [.long _, .long _], _)) rfl (u_ rfl) ?_
    refine w_t (pc := 2) (e_s := (3, 1, 0, 0, 0, .null, [])) (y_s := (3, [some (.ref _), some (.long _), none], [.ref _, .long _, .long _], _)) rfl (u_ rfl) ?_
    refine w20 (pc := 3) (len_s := 3) rfl ?_
    refine w_t (pc := 6) (e_s := (0, 1, 0, 0, 0, .int 1, [])) (y_s := (7, [some (.ref _), some (.long _), none], [.int _, .int _, .long _, .long _], _)) rfl (u_ rfl) ?_
    refine w_t (pc := 7) (e_s := (7, 1, 0, 1, 0, .null, [])) (y_s := (8, [some (.ref _), some (.long _), none], [.int (_ - _), .long _, .long _], _)) rfl (u_ rfl) ?_
    refine w_t (pc := 8) (e_s := (10, 1, 0, 0, 0, .null, [])) (y_s := (9, [some (.ref _), some (.long _), none], [.long (Int32.toInt64 _), .long _, .long _], _)) rfl (u_ rfl) ?_
    refine wcI (pc := 9) (len_s := 3) rfl rfl (l := [some (.long _), none, some (.long _), none, some (.long _), none]) rfl ?_
    refine w_t (pc := 0) (e_s := (2, 1, 0, 0, 0, .null, [])) (y_s := (1, [some (.long _), none, some (.long _), none, some (.long _), none], [.long _], _)) rfl (u_ rfl) ?_
    refine w_t (pc := 1) (e_s := (2, 1, 2, 0, 0, .null, [])) (y_s := (2, [some (.long _), none, some (.long _), none, some (.long _), none], [.long _, .long _], _)) rfl (u_ rfl) ?_
    refine w_t (pc := 2) (e_s := (14, 1, 0, 0, 0, .null, [])) (y_s := (3, [some (.long _), none, some (.long _), none, some (.long _), none], [.int (lg_cmp _ _)], _)) rfl (u_ rfl) ?_
    refine wl2 (pc := 3) (len_s := 3) (Y := 0) rfl (Int32.toInt_toInt64 _) (by decide) (fun c3_s => ?_) (fun c3_s => ?_)
    · replace t_s := t_s.1 c3_s
      refine w_t (pc := 17) (e_s := (0, 1, 0, 0, 0, .int 0, [])) (y_s := (18, [some (.long _), none, some (.long _), none, some (.long _), none], [.int _], _)) rfl (u_ rfl) ?_
      refine wrI (pc := 18) (len_s := 1) rfl hk ?_
      show wF _ 152 (12, [some (.ref _), some (.long _), none], [.int _], _) _
      refine wrI (pc := 12) (len_s := 1) rfl hk ?_
      show wF _ 206 (15, [some (.ref _), some (.int _), some (.int _), some (.int _), none, none, none, none], [.int _], _) _
      refine w_t (pc := 15) (e_s := (15, 3, 28, 0, 0, .null, [])) (y_s := (28, [some (.ref _), some (.int _), some (.int _), some (.int _), none, none, none, none], [], _)) rfl (u_ rfl) ?_
      refine w_t (pc := 28) (e_s := (0, 1, 0, 0, 0, .int (-1), [])) (y_s := (29, [some (.ref _), some (.int _), some (.int _), some (.int _), none, none, none, none], [.int _], _)) rfl (u_ rfl) ?_
      exact wrI (pc := 29) (len_s := 1) rfl hk t_s
    · replace t_s := t_s.2 c3_s
      refine w_t (pc := 6) (e_s := (2, 1, 0, 0, 0, .null, [])) (y_s := (7, [some (.long _), none, some (.long _), none, some (.long _), none], [.long _], _)) rfl (u_ rfl) ?_
      refine w_t (pc := 7) (e_s := (2, 2, 4, 0, 0, .null, [])) (y_s := (9, [some (.long _), none, some (.long _), none, some (.long _), none], [.long _, .long _], _)) rfl (u_ rfl) ?_
      refine w_t (pc := 9) (e_s := (14, 1, 0, 0, 0, .null, [])) (y_s := (10, [some (.long _), none, some (.long _), none, some (.long _), none], [.int (lg_cmp _ _)], _)) rfl (u_ rfl) ?_
      refine wl4 (pc := 10) (len_s := 3) rfl (Int32.toInt_toInt64 _) (Int32.toInt_toInt64 _) (fun c4_s => ?_) (fun c4_s => ?_)
      · replace t_s := t_s.1 c4_s
        refine w_t (pc := 17) (e_s := (0, 1, 0, 0, 0, .int 0, [])) (y_s := (18, [some (.long _), none, some (.long _), none, some (.long _), none], [.int _], _)) rfl (u_ rfl) ?_
        refine wrI (pc := 18) (len_s := 1) rfl hk ?_
        show wF _ 152 (12, [some (.ref _), some (.long _), none], [.int _], _) _
        refine wrI (pc := 12) (len_s := 1) rfl hk ?_
        show wF _ 206 (15, [some (.ref _), some (.int _), some (.int _), some (.int _), none, none, none, none], [.int _], _) _
        refine w_t (pc := 15) (e_s := (15, 3, 28, 0, 0, .null, [])) (y_s := (28, [some (.ref _), some (.int _), some (.int _), some (.int _), none, none, none, none], [], _)) rfl (u_ rfl) ?_
        refine w_t (pc := 28) (e_s := (0, 1, 0, 0, 0, .int (-1), [])) (y_s := (29, [some (.ref _), some (.int _), some (.int _), some (.int _), none, none, none, none], [.int _], _)) rfl (u_ rfl) ?_
        exact wrI (pc := 29) (len_s := 1) rfl hk t_s
      · replace t_s := t_s.2 c4_s
        refine w_t (pc := 13) (e_s := (0, 1, 0, 0, 0, .int 1, [])) (y_s := (14, [some (.long _), none, some (.long _), none, some (.long _), none], [.int _], _)) rfl (u_ rfl) ?_
        refine w_t (pc := 14) (e_s := (17, 3, 18, 0, 0, .null, [])) (y_s := (18, [some (.long _), none, some (.long _), none, some (.long _), none], [.int _], _)) rfl (u_ rfl) ?_
        refine wrI (pc := 18) (len_s := 1) rfl hk ?_
        show wF _ 152 (12, [some (.ref _), some (.long _), none], [.int _], _) _
        refine wrI (pc := 12) (len_s := 1) rfl hk ?_
        show wF _ 206 (15, [some (.ref _), some (.int _), some (.int _), some (.int _), none, none, none, none], [.int _], _) _
        refine w_t (pc := 15) (e_s := (15, 3, 28, 0, 0, .null, [])) (y_s := (18, [some (.ref _), some (.int _), some (.int _), some (.int _), none, none, none, none], [], _)) rfl (u_ rfl) ?_
        refine w_t (pc := 18) (e_s := (1, 1, 3, 0, 0, .null, [])) (y_s := (19, [some (.ref _), some (.int _), some (.int _), some (.int _), none, none, none, none], [.int _], _)) rfl (u_ rfl) ?_
        refine w_t (pc := 19) (e_s := (10, 1, 0, 0, 0, .null, [])) (y_s := (20, [some (.ref _), some (.int _), some (.int _), some (.int _), none, none, none, none], [.long (Int32.toInt64 _)], _)) rfl (u_ rfl) ?_
        refine w_t (pc := 20) (e_s := (0, 1, 0, 0, 0, .long 0, [])) (y_s := (21, [some (.ref _), some (.int _), some (.int _), some (.int _), none, none, none, none], [.long _, .long _], _)) rfl (u_ rfl) ?_
        refine w_t (pc := 21) (e_s := (0, 1, 0, 0, 0, .long 1, [])) (y_s := (22, [some (.ref _), some (.int _), some (.int _), some (.int _), none, none, none, none], [.long _, .long _, .long _], _)) rfl (u_ rfl) ?_
        refine wcI (pc := 22) (len_s := 3) rfl rfl (l := [some (.long _), none, some (.long _), none, some (.long _), none]) rfl ?_
        refine w_t (pc := 0) (e_s := (2, 1, 0, 0, 0, .null, [])) (y_s := (1, [some (.long _), none, some (.long _), none, some (.long _), none], [.long _], _)) rfl (u_ rfl) ?_
        refine w_t (pc := 1) (e_s := (2, 1, 2, 0, 0, .null, [])) (y_s := (2, [some (.long _), none, some (.long _), none, some (.long _), none], [.long _, .long _], _)) rfl (u_ rfl) ?_
        refine w_t (pc := 2) (e_s := (14, 1, 0, 0, 0, .null, [])) (y_s := (3, [some (.long _), none, some (.long _), none, some (.long _), none], [.int (lg_cmp _ _)], _)) rfl (u_ rfl) ?_
        refine wl2 (pc := 3) (len_s := 3) (Y := 0) rfl (Int32.toInt_toInt64 _) (by decide) (fun c5_s => ?_) (fun c5_s => ?_)
        · replace t_s := t_s.1 c5_s
          refine w_t (pc := 17) (e_s := (0, 1, 0, 0, 0, .int 0, [])) (y_s := (18, [some (.long _), none, some (.long _), none, some (.long _), none], [.int _], _)) rfl (u_ rfl) ?_
          refine wrI (pc := 18) (len_s := 1) rfl hk ?_
          show wF _ 206 (25, [some (.ref _), some (.int _), some (.int _), some (.int _), none, none, none, none], [.int _], _) _
          refine w_t (pc := 25) (e_s := (15, 3, 30, 1, 0, .null, [])) (y_s := (28, [some (.ref _), some (.int _), some (.int _), some (.int _), none, none, none, none], [], _)) rfl (u_ rfl) ?_
          refine w_t (pc := 28) (e_s := (0, 1, 0, 0, 0, .int (-1), [])) (y_s := (29, [some (.ref _), some (.int _), some (.int _), some (.int _), none, none, none, none], [.int _], _)) rfl (u_ rfl) ?_
          exact wrI (pc := 29) (len_s := 1) rfl hk t_s
        · replace t_s := t_s.2 c5_s
          refine w_t (pc := 6) (e_s := (2, 1, 0, 0, 0, .null, [])) (y_s := (7, [some (.long _), none, some (.long _), none, some (.long _), none], [.long _], _)) rfl (u_ rfl) ?_
          refine w_t (pc := 7) (e_s := (2, 2, 4, 0, 0, .null, [])) (y_s := (9, [some (.long _), none, some (.long _), none, some (.long _), none], [.long _, .long _], _)) rfl (u_ rfl) ?_
          refine w_t (pc := 9) (e_s := (14, 1, 0, 0, 0, .null, [])) (y_s := (10, [some (.long _), none, some (.long _), none, some (.long _), none], [.int (lg_cmp _ _)], _)) rfl (u_ rfl) ?_
          refine wl4 (pc := 10) (len_s := 3) (Y := 1) rfl (Int32.toInt_toInt64 _) (by decide) (fun c6_s => ?_) (fun c6_s => ?_)
          · replace t_s := t_s.1 c6_s
            refine w_t (pc := 17) (e_s := (0, 1, 0, 0, 0, .int 0, [])) (y_s := (18, [some (.long _), none, some (.long _), none, some (.long _), none], [.int _], _)) rfl (u_ rfl) ?_
            refine wrI (pc := 18) (len_s := 1) rfl hk ?_
            show wF _ 206 (25, [some (.ref _), some (.int _), some (.int _), some (.int _), none, none, none, none], [.int _], _) _
            refine w_t (pc := 25) (e_s := (15, 3, 30, 1, 0, .null, [])) (y_s := (28, [some (.ref _), some (.int _), some (.int _), some (.int _), none, none, none, none], [], _)) rfl (u_ rfl) ?_
            refine w_t (pc := 28) (e_s := (0, 1, 0, 0, 0, .int (-1), [])) (y_s := (29, [some (.ref _), some (.int _), some (.int _), some (.int _), none, none, none, none], [.int _], _)) rfl (u_ rfl) ?_
            exact wrI (pc := 29) (len_s := 1) rfl hk t_s
          · replace t_s := t_s.2 c6_s
            refine w_t (pc := 13) (e_s := (0, 1, 0, 0, 0, .int 1, [])) (y_s := (14, [some (.long _), none, some (.long _), none, some (.long _), none], [.int _], _)) rfl (u_ rfl) ?_
            refine w_t (pc := 14) (e_s := (17, 3, 18, 0, 0, .null, [])) (y_s := (18, [some (.long _), none, some (.long _), none, some (.long _), none], [.int _], _)) rfl (u_ rfl) ?_
            refine wrI (pc := 18) (len_s := 1) rfl hk ?_
            show wF _ 206 (25, [some (.ref _), some (.int _), some (.int _), some (.int _), none, none, none, none], [.int _], _) _
            refine w_t (pc := 25) (e_s := (15, 3, 30, 1, 0, .null, [])) (y_s := (30, [some (.ref _), some (.int _), some (.int _), some (.int _), none, none, none, none], [], _)) rfl (u_ rfl) ?_
            refine w_t (pc := 30) (e_s := (3, 1, 0, 0, 0, .null, [])) (y_s := (31, [some (.ref _), some (.int _), some (.int _), some (.int _), none, none, none, none], [.ref _], _)) rfl (u_ rfl) ?_
            refine w_t (pc := 31) (e_s := (1, 1, 1, 0, 0, .null, [])) (y_s := (32, [some (.ref _), some (.int _), some (.int _), some (.int _), none, none, none, none], [.int _, .ref _], _)) rfl (u_ rfl) ?_
            refine wcI (pc := 32) (len_s := 3) rfl rfl (l := [some (.ref _), some (.int _)]) rfl (wmI t_s (fun v7 h7 hk t_s => ?_))
            replace t_s := t_s hk
            refine wq3 (pc := 35) (len_s := 3) rfl rfl (fun c8_s => ?_) (fun c8_s => ?_)
            · replace t_s := t_s.1 c8_s
              refine w_t (pc := 38) (e_s := (3, 1, 0, 0, 0, .null, [])) (y_s := (39, [some (.ref _), some (.int _), some (.int _), some (.int _), none, none, none, none], [.ref _], _)) rfl (u_ rfl) ?_
              refine w_t (pc := 39) (e_s := (1, 1, 1, 0, 0, .null, [])) (y_s := (40, [some (.ref _), some (.int _), some (.int _), some (.int _), none, none, none, none], [.int _, .ref _], _)) rfl (u_ rfl) ?_
              refine wcI (pc := 40) (len_s := 3) rfl rfl (l := [some (.ref _), some (.int _)]) rfl (wmI t_s (fun v9 h9 hk t_s => ?_))
              replace t_s := t_s hk
              exact wrI (pc := 43) (len_s := 1) rfl hk t_s
            · replace t_s := t_s.2 c8_s
              refine w_t (pc := 44) (e_s := (1, 1, 3, 0, 0, .null, [])) (y_s := (45, [some (.ref _), some (.int _), some (.int _), some (.int _), none, none, none, none], [.int _], _)) rfl (u_ rfl) ?_
              refine wq1 (pc := 45) (len_s := 3) rfl rfl (fun c10_s => ?_) (fun c10_s => ?_)
              · replace t_s := t_s.1 c10_s
                refine w_t (pc := 48) (e_s := (0, 2, 0, 0, 0, .int 12, [])) (y_s := (50, [some (.ref _), some (.int _), some (.int _), some (.int _), none, none, none, none], [.int _], _)) rfl (u_ rfl) ?_
                refine w_t (pc := 50) (e_s := (17, 3, 55, 0, 0, .null, [])) (y_s := (55, [some (.ref _), some (.int _), some (.int _), some (.int _), none, none, none, none], [.int _], _)) rfl (u_ rfl) ?_
                refine w_t (pc := 55) (e_s := (1, 1, 2, 0, 0, .null, [])) (y_s := (56, [some (.ref _), some (.int _), some (.int _), some (.int _), none, none, none, none], [.int _, .int _], _)) rfl (u_ rfl) ?_
                refine w_t (pc := 56) (e_s := (7, 1, 0, 0, 0, .null, [])) (y_s := (57, [some (.ref _), some (.int _), some (.int _), some (.int _), none, none, none, none], [.int (_ + _)], _)) rfl (u_ rfl) ?_
                refine w_t (pc := 57) (e_s := (4, 2, 4, 0, 0, .null, [])) (y_s := (59, [some (.ref _), some (.int _), some (.int _), some (.int _), some (.int _), none, none, none], [], _)) rfl (u_ rfl) ?_
                refine w_t (pc := 59) (e_s := (3, 1, 0, 0, 0, .null, [])) (y_s := (60, [some (.ref _), some (.int _), some (.int _), some (.int _), some (.int _), none, none, none], [.ref _], _)) rfl (u_ rfl) ?_
                refine w20r (pc := 60) (len_s := 3) (q_s := 103) rfl (krq hk rfl) ?_
                refine w_t (pc := 63) (e_s := (1, 2, 4, 0, 0, .null, [])) (y_s := (65, [some (.ref _), some (.int _), some (.int _), some (.int _), some (.int _), none, none, none], [.int _, .ref _], _)) rfl (u_ rfl) ?_
                refine w22 (pc := 65) (len_s := 1) rfl (hk.1 103 0 104 rfl rfl) (fun c11_s => ?_)
                replace t_s := t_s c11_s
                refine w_t (pc := 66) (e_s := (4, 2, 5, 0, 0, .null, [])) (y_s := (68, [some (.ref _), some (.int _), some (.int _), some (.int _), some (.int _), some (.int _), none, none], [], _)) rfl (u_ rfl) ?_
                refine w_t (pc := 68) (e_s := (0, 1, 0, 0, 0, .int 0, [])) (y_s := (69, [some (.ref _), some (.int _), some (.int _), some (.int _), some (.int _), some (.int _), none, none], [.int _], _)) rfl (u_ rfl) ?_
                refine w_t (pc := 69) (e_s := (4, 2, 6, 0, 0, .null, [])) (y_s := (71, [some (.ref _), some (.int _), some (.int _), some (.int _), some (.int _), some (.int _), some (.int _), none], [], _)) rfl (u_ rfl) ?_
                refine w_t (pc := 71) (e_s := (0, 1, 0, 0, 0, .int 0, [])) (y_s := (72, [some (.ref _), some (.int _), some (.int _), some (.int _), some (.int _), some (.int _), some (.int _), none], [.int _], _)) rfl (u_ rfl) ?_
                refine w_t (pc := 72) (e_s := (4, 2, 7, 0, 0, .null, [])) (y_s := (74, [some (.ref _), some (.int _), some (.int _), some (.int _), some (.int _), some (.int _), some (.int _), some (.int _)], [], _)) rfl (u_ rfl) ?_
                exact t_s
              · replace t_s := t_s.2 c10_s
                refine w_t (pc := 53) (e_s := (0, 2, 0, 0, 0, .int 20, [])) (y_s := (55, [some (.ref _), some (.int _), some (.int _), some (.int _), none, none, none, none], [.int _], _)) rfl (u_ rfl) ?_
                refine w_t (pc := 55) (e_s := (1, 1, 2, 0, 0, .null, [])) (y_s := (56, [some (.ref _), some (.int _), some (.int _), some (.int _), none, none, none, none], [.int _, .int _], _)) rfl (u_ rfl) ?_
                refine w_t (pc := 56) (e_s := (7, 1, 0, 0, 0, .null, [])) (y_s := (57, [some (.ref _), some (.int _), some (.int _), some (.int _), none, none, none, none], [.int (_ + _)], _)) rfl (u_ rfl) ?_
                refine w_t (pc := 57) (e_s := (4, 2, 4, 0, 0, .null, [])) (y_s := (59, [some (.ref _), some (.int _), some (.int _), some (.int _), some (.int _), none, none, none], [], _)) rfl (u_ rfl) ?_
                refine w_t (pc := 59) (e_s := (3, 1, 0, 0, 0, .null, [])) (y_s := (60, [some (.ref _), some (.int _), some (.int _), some (.int _), some (.int _), none, none, none], [.ref _], _)) rfl (u_ rfl) ?_
                refine w20r (pc := 60) (len_s := 3) (q_s := 103) rfl (krq hk rfl) ?_
                refine w_t (pc := 63) (e_s := (1, 2, 4, 0, 0, .null, [])) (y_s := (65, [some (.ref _), some (.int _), some (.int _), some (.int _), some (.int _), none, none, none], [.int _, .ref _], _)) rfl (u_ rfl) ?_
                refine w22 (pc := 65) (len_s := 1) rfl (hk.1 103 0 104 rfl rfl) (fun c12_s => ?_)
                replace t_s := t_s c12_s
                refine w_t (pc := 66) (e_s := (4, 2, 5, 0, 0, .null, [])) (y_s := (68, [some (.ref _), some (.int _), some (.int _), some (.int _), some (.int _), some (.int _), none, none], [], _)) rfl (u_ rfl) ?_
                refine w_t (pc := 68) (e_s := (0, 1, 0, 0, 0, .int 0, [])) (y_s := (69, [some (.ref _), some (.int _), some (.int _), some (.int _), some (.int _), some (.int _), none, none], [.int _], _)) rfl (u_ rfl) ?_
                refine w_t (pc := 69) (e_s := (4, 2, 6, 0, 0, .null, [])) (y_s := (71, [some (.ref _), some (.int _), some (.int _), some (.int _), some (.int _), some (.int _), some (.int _), none], [], _)) rfl (u_ rfl) ?_
                refine w_t (pc := 71) (e_s := (0, 1, 0, 0, 0, .int 0, [])) (y_s := (72, [some (.ref _), some (.int _), some (.int _), some (.int _), some (.int _), some (.int _), some (.int _), none], [.int _], _)) rfl (u_ rfl) ?_
                refine w_t (pc := 72) (e_s := (4, 2, 7, 0, 0, .null, [])) (y_s := (74, [some (.ref _), some (.int _), some (.int _), some (.int _), some (.int _), some (.int _), some (.int _), some (.int _)], [], _)) rfl (u_ rfl) ?_
                exact t_s
/-- ColdShodModel.edge(III)I, from 74 on -/
theorem sg_206_74 {F_s : Nat} {x1_s x2_s x3 x4_s x5_s x6 x7 : Int32} {h_s : zH} {K_s : Int32 → zH → Prop} (hk : hKn h_s) (t_s : (x3.toInt = 0 → ((3 < x7.toInt → (zix x4_s < 104 → K_s x6 (h_s.1, zup h_s.2.1 103 (zix x4_s) x5_s, h_s.2.2.1, h_s.2.2.2))) ∧ (¬ 3 < x7.toInt → (zix x4_s < 104 → wF F_s 204 (0, [some (.ref 102), some (.int x1_s), some (.int x2_s), none, none], [], (h_s.1, zup h_s.2.1 103 (zix x4_s) x7, h_s.2.2.1, h_s.2.2.2)) (gI (fun v5 h5 => hKn h5 → (v5.toInt = -2 → wF F_s 206 (74, [some (.ref 102), some (.int x1_s), some (.int x2_s), some (.int x3), some (.int x4_s), some (.int x5_s), some (.int (x6 ||| (1 <<< (x7 &&& 31)))), some (.int (x7 + 1))], [], h5) (gI K_s)) ∧ (¬ v5.toInt = -2 → wF F_s 206 (74, [some (.ref 102), some (.int x1_s), some (.int x2_s), some (.int x3), some (.int x4_s), some (.int x5_s), some (.int (x6 ||| 0)), some (.int (x7 + 1))], [], h5) (gI K_s)))))))) ∧ (¬ x3.toInt = 0 → ((5 < x7.toInt → (zix x4_s < 104 → K_s x6 (h_s.1, zup h_s.2.1 103 (zix x4_s) x5_s, h_s.2.2.1, h_s.2.2.2))) ∧ (¬ 5 < x7.toInt → (zix x4_s < 104 → wF F_s 204 (0, [some (.ref 102), some (.int x1_s), some (.int x2_s), none, none], [], (h_s.1, zup h_s.2.1 103 (zix x4_s) x7, h_s.2.2.1, h_s.2.2.2)) (gI (fun v10 h10 => hKn h10 → (v10.toInt = -2 → wF F_s 206 (74, [some (.ref 102), some (.int x1_s), some (.int x2_s), some (.int x3), some (.int x4_s), some (.int x5_s), some (.int (x6 ||| (1 <<< (x7 &&& 31)))), some (.int (x7 + 1))], [], h10) (gI K_s)) ∧ (¬ v10.toInt = -2 → wF F_s 206 (74, [some (.ref 102), some (.int x1_s), some (.int x2_s), some (.int x3), some (.int x4_s), some (.int x5_s), some (.int (x6 ||| 0)), some (.int (x7 + 1))], [], h10) (gI K_s))))))))) : wF (F_s + 1) 206 (74, [some (.ref 102), some (.int x1_s), some (.int x2_s), some (.int x3), some (.int x4_s), some (.int x5_s), some (.int x6), some (.int x7)], [], h_s) (gI K_s) := by
  refine w_0 (pc := 74) (e_s := (1, 2, 7, 0, 0, .null, [])) (y_s := (76, [some (.ref _), some (.int _), some (.int _), some (.int _), some (.int _), some (.int _), some (.int _), some (.int _)], [.int _], _)) rfl (u_ rfl) ?_
  refine w_t (pc := 76) (e_s := (1, 1, 3, 0, 0, .null, [])) (y_s := (77, [some (.ref _), some (.int _), some (.int _), some (.int _), some (.int _), some (.int _), some (.int _), some (.int _)], [.int _, .int _], _)) rfl (u_ rfl) ?_
  refine wq1 (pc := 77) (len_s := 3) rfl rfl (fun c1_s => ?_) (fun c1_s => ?_)
  · replace t_s := t_s.1 c1_s
    refine w_t (pc := 80) (e_s := (0, 1, 0, 0, 0, .int 3, [])) (y_s := (81, [some (.ref _), some (.int _), some (.int _), some (.int _), some (.int _), some (.int _), some (.int _), some (.int _)], [.int _, .int _], _)) rfl (u_ rfl) ?_
    refine w_t (pc := 81) (e_s := (17, 3, 85, 0, 0, .null, [])) (y_s := (85, [some (.ref _), some (.int _), some (.int _), some (.int _), some (.int _), some (.int _), some (.int _), some (.int _)], [.int _, .int _], _)) rfl (u_ rfl) ?_
    refine wi4 (pc := 85) (len_s := 3) (Y := 3) rfl rfl (by decide) (fun c2_s => ?_) (fun c2_s => ?_)
    · replace t_s := t_s.1 c2_s
      refine w_t (pc := 127) (e_s := (3, 1, 0, 0, 0, .null, [])) (y_s := (128, [some (.ref _), some (.int _), some (.int _), some (.int _), some (.int _), some (.int _), some (.int _), some (.int _)], [.ref _], _)) rfl (u_ rfl) ?_
      refine w20r (pc := 128) (len_s := 3) (q_s := 103) rfl (krq hk rfl) ?_
      refine w_t (pc := 131) (e_s := (1, 2, 4, 0, 0, .null, [])) (y_s := (133, [some (.ref _), some (.int _), some (.int _), some (.int _), some (.int _), some (.int _), some (.int _), some (.int _)], [.int _, .ref _], _)) rfl (u_ rfl) ?_
      refine w_t (pc := 133) (e_s := (1, 2, 5, 0, 0, .null, [])) (y_s := (135, [some (.ref _), some (.int _), some (.int _), some (.int _), some (.int _), some (.int _), some (.int _), some (.int _)], [.int _, .int _, .ref _], _)) rfl (u_ rfl) ?_
      refine w25 (pc := 135) (len_s := 1) rfl (hk.1 103 0 104 rfl rfl) (fun c3_s => ?_)
      replace t_s := t_s c3_s
      refine w_t (pc := 136) (e_s := (1, 2, 6, 0, 0, .null, [])) (y_s := (138, [some (.ref _), some (.int _), some (.int _), some (.int _), some (.int _), some (.int _), some (.int _), some (.int _)], [.int _], _)) rfl (u_ rfl) ?_
      exact wrI (pc := 138) (len_s := 1) rfl hk t_s
    · replace t_s := t_s.2 c2_s
      refine w_t (pc := 88) (e_s := (3, 1, 0, 0, 0, .null, [])) (y_s := (89, [some (.ref _), some (.int _), some (.int _), some (.int _), some (.int _), some (.int _), some (.int _), some (.int _)], [.ref _], _)) rfl (u_ rfl) ?_
      refine w20r (pc := 89) (len_s := 3) (q_s := 103) rfl (krq hk rfl) ?_
      refine w_t (pc := 92) (e_s := (1, 2, 4, 0, 0, .null, [])) (y_s := (94, [some (.ref _), some (.int _), some (.int _), some (.int _), some (.int _), some (.int _), some (.int _), some (.int _)], [.int _, .ref _], _)) rfl (u_ rfl) ?_
      refine w_t (pc := 94) (e_s := (1, 2, 7, 0, 0, .null, [])) (y_s := (96, [some (.ref _), some (.int _), some (.int _), some (.int _), some (.int _), some (.int _), some (.int _), some (.int _)], [.int _, .int _, .ref _], _)) rfl (u_ rfl) ?_
      refine w25 (pc := 96) (len_s := 1) rfl (hk.1 103 0 104 rfl rfl) (fun c4_s => ?_)
      replace t_s := t_s c4_s
      refine w_t (pc := 97) (e_s := (1, 2, 6, 0, 0, .null, [])) (y_s := (99, [some (.ref _), some (.int _), some (.int _), some (.int _), some (.int _), some (.int _), some (.int _), some (.int _)], [.int _], _)) rfl (u_ rfl) ?_
      refine w_t (pc := 99) (e_s := (3, 1, 0, 0, 0, .null, [])) (y_s := (100, [some (.ref _), some (.int _), some (.int _), some (.int _), some (.int _), some (.int _), some (.int _), some (.int _)], [.ref _, .int _], _)) rfl (u_ rfl) ?_
      refine w_t (pc := 100) (e_s := (1, 1, 1, 0, 0, .null, [])) (y_s := (101, [some (.ref _), some (.int _), some (.int _), some (.int _), some (.int _), some (.int _), some (.int _), some (.int _)], [.int _, .ref _, .int _], _)) rfl (u_ rfl) ?_
      refine w_t (pc := 101) (e_s := (1, 1, 2, 0, 0, .null, [])) (y_s := (102, [some (.ref _), some (.int _), some (.int _), some (.int _), some (.int _), some (.int _), some (.int _), some (.int _)], [.int _, .int _, .ref _, .int _], _)) rfl (u_ rfl) ?_
      refine wcI (pc := 102) (len_s := 3) rfl rfl (l := [some (.ref _), some (.int _), some (.int _), none, none]) rfl (wmI t_s (fun v5 h5 hk t_s => ?_))
      replace t_s := t_s hk
      refine w_t (pc := 105) (e_s := (0, 2, 0, 0, 0, .int (-2), [])) (y_s := (107, [some (.ref _), some (.int _), some (.int _), some (.int _), some (.int _), some (.int _), some (.int _), some (.int _)], [.int _, .int _, .int _], _)) rfl (u_ rfl) ?_
      refine wi1 (pc := 107) (len_s := 3) (Y := -2) rfl rfl (by decide) (fun c6_s => ?_) (fun c6_s => ?_)
      · replace t_s := t_s.1 c6_s
        refine w_t (pc := 110) (e_s := (0, 1, 0, 0, 0, .int 1, [])) (y_s := (111, [some (.ref _), some (.int _), some (.int _), some (.int _), some (.int _), some (.int _), some (.int _), some (.int _)], [.int _, .int _], _)) rfl (u_ rfl) ?_
        refine w_t (pc := 111) (e_s := (1, 2, 7, 0, 0, .null, [])) (y_s := (113, [some (.ref _), some (.int _), some (.int _), some (.int _), some (.int _), some (.int _), some (.int _), some (.int _)], [.int _, .int _, .int _], _)) rfl (u_ rfl) ?_
        refine w_t (pc := 113) (e_s := (7, 1, 0, 6, 0, .null, [])) (y_s := (114, [some (.ref _), some (.int _), some (.int _), some (.int _), some (.int _), some (.int _), some (.int _), some (.int _)], [.int ((_ : Int32) <<< ((_ : Int32) &&& 31)), .int _], _)) rfl (u_ rfl) ?_
        refine w_t (pc := 114) (e_s := (17, 3, 118, 0, 0, .null, [])) (y_s := (118, [some (.ref _), some (.int _), some (.int _), some (.int _), some (.int _), some (.int _), some (.int _), some (.int _)], [.int _, .int _], _)) rfl (u_ rfl) ?_
        refine w_t (pc := 118) (e_s := (7, 1, 0, 4, 0, .null, [])) (y_s := (119, [some (.ref _), some (.int _), some (.int _), some (.int _), some (.int _), some (.int _), some (.int _), some (.int _)], [.int (_ ||| _)], _)) rfl (u_ rfl) ?_
        refine w_t (pc := 119) (e_s := (4, 2, 6, 0, 0, .null, [])) (y_s := (121, [some (.ref _), some (.int _), some (.int _), some (.int _), some (.int _), some (.int _), some (.int _), some (.int _)], [], _)) rfl (u_ rfl) ?_
        refine w_t (pc := 121) (e_s := (19, 3, 7, 0, 0, .int 1, [])) (y_s := (124, [some (.ref _), some (.int _), some (.int _), some (.int _), some (.int _), some (.int _), some (.int _), some (.int _)], [], _)) rfl (u_ rfl) ?_
        refine w_t (pc := 124) (e_s := (17, 3, 74, 0, 0, .null, [])) (y_s := (74, [some (.ref _), some (.int _), some (.int _), some (.int _), some (.int _), some (.int _), some (.int _), some (.int _)], [], _)) rfl (u_ rfl) ?_
        exact t_s
      · replace t_s := t_s.2 c6_s
        refine w_t (pc := 117) (e_s := (0, 1, 0, 0, 0, .int 0, [])) (y_s := (118, [some (.ref _), some (.int _), some (.int _), some (.int _), some (.int _), some (.int _), some (.int _), some (.int _)], [.int _, .int _], _)) rfl (u_ rfl) ?_
        refine w_t (pc := 118) (e_s := (7, 1, 0, 4, 0, .null, [])) (y_s := (119, [some (.ref _), some (.int _), some (.int _), some (.int _), some (.int _), some (.int _), some (.int _), some (.int _)], [.int (_ ||| _)], _)) rfl (u_ rfl) ?_
        refine w_t (pc := 119) (e_s := (4, 2, 6, 0, 0, .null, [])) (y_s := (121, [some (.ref _), some (.int _), some (.int _), some (.int _), some (.int _), some (.int _), some (.int _), some (.int _)], [], _)) rfl (u_ rfl) ?_
        refine w_t (pc := 121) (e_s := (19, 3, 7, 0, 0, .int 1, [])) (y_s := (124, [some (.ref _), some (.int _), some (.int _), some (.int _), some (.int _), some (.int _), some (.int _), some (.int _)], [], _)) rfl (u_ rfl) ?_
        refine w_t (pc := 124) (e_s := (17, 3, 74, 0, 0, .null, [])) (y_s := (74, [some (.ref _), some (.int _), some (.int _), some (.int _), some (.int _), some (.int _), some (.int _), some (.int _)], [], _)) rfl (u_ rfl) ?_
        exact t_s
  · replace t_s := t_s.2 c1_s
    refine w_t (pc := 84) (e_s := (0, 1, 0, 0, 0, .int 5, [])) (y_s := (85, [some (.ref _), some (.int _), some (.int _), some (.int _), some (.int _), some (.int _), some (.int _), some (.int _)], [.int _, .int _], _)) rfl (u_ rfl) ?_
    refine wi4 (pc := 85) (len_s := 3) (Y := 5) rfl rfl (by decide) (fun c7_s => ?_) (fun c7_s => ?_)
    · replace t_s := t_s.1 c7_s
      refine w_t (pc := 127) (e_s := (3, 1, 0, 0, 0, .null, [])) (y_s := (128, [some (.ref _), some (.int _), some (.int _), some (.int _), some (.int _), some (.int _), some (.int _), some (.int _)], [.ref _], _)) rfl (u_ rfl) ?_
      refine w20r (pc := 128) (len_s := 3) (q_s := 103) rfl (krq hk rfl) ?_
      refine w_t (pc := 131) (e_s := (1, 2, 4, 0, 0, .null, [])) (y_s := (133, [some (.ref _), some (.int _), some (.int _), some (.int _), some (.int _), some (.int _), some (.int _), some (.int _)], [.int _, .ref _], _)) rfl (u_ rfl) ?_
      refine w_t (pc := 133) (e_s := (1, 2, 5, 0, 0, .null, [])) (y_s := (135, [some (.ref _), some (.int _), some (.int _), some (.int _), some (.int _), some (.int _), some (.int _), some (.int _)], [.int _, .int _, .ref _], _)) rfl (u_ rfl) ?_
      refine w25 (pc := 135) (len_s := 1) rfl (hk.1 103 0 104 rfl rfl) (fun c8_s => ?_)
      replace t_s := t_s c8_s
      refine w_t (pc := 136) (e_s := (1, 2, 6, 0, 0, .null, [])) (y_s := (138, [some (.ref _), some (.int _), some (.int _), some (.int _), some (.int _), some (.int _), some (.int _), some (.int _)], [.int _], _)) rfl (u_ rfl) ?_
      exact wrI (pc := 138) (len_s := 1) rfl hk t_s
    · replace t_s := t_s.2 c7_s
      refine w_t (pc := 88) (e_s := (3, 1, 0, 0, 0, .null, [])) (y_s := (89, [some (.ref _), some (.int _), some (.int _), some (.int _), some (.int _), some (.int _), some (.int _), some (.int _)], [.ref _], _)) rfl (u_ rfl) ?_
      refine w20r (pc := 89) (len_s := 3) (q_s := 103) rfl (krq hk rfl) ?_
      refine w_t (pc := 92) (e_s := (1, 2, 4, 0, 0, .null, [])) (y_s := (94, [some (.ref _), some (.int _), some (.int _), some (.int _), some (.int _), some (.int _), some (.int _), some (.int _)], [.int _, .ref _], _)) rfl (u_ rfl) ?_
      refine w_t (pc := 94) (e_s := (1, 2, 7, 0, 0, .null, [])) (y_s := (96, [some (.ref _), some (.int _), some (.int _), some (.int _), some (.int _), some (.int _), some (.int _), some (.int _)], [.int _, .int _, .ref _], _)) rfl (u_ rfl) ?_
      refine w25 (pc := 96) (len_s := 1) rfl (hk.1 103 0 104 rfl rfl) (fun c9_s => ?_)
      replace t_s := t_s c9_s
      refine w_t (pc := 97) (e_s := (1, 2, 6, 0, 0, .null, [])) (y_s := (99, [some (.ref _), some (.int _), some (.int _), some (.int _), some (.int _), some (.int _), some (.int _), some (.int _)], [.int _], _)) rfl (u_ rfl) ?_
      refine w_t (pc := 99) (e_s := (3, 1, 0, 0, 0, .null, [])) (y_s := (100, [some (.ref _), some (.int _), some (.int _), some (.int _), some (.int _), some (.int _), some (.int _), some (.int _)], [.ref _, .int _], _)) rfl (u_ rfl) ?_
      refine w_t (pc := 100) (e_s := (1, 1, 1, 0, 0, .null, [])) (y_s := (101, [some (.ref _), some (.int _), some (.int _), some (.int _), some (.int _), some (.int _), some (.int _), some (.int _)], [.int _, .ref _, .int _], _)) rfl (u_ rfl) ?_
      refine w_t (pc := 101) (e_s := (1, 1, 2, 0, 0, .null, [])) (y_s := (102, [some (.ref _), some (.int _), some (.int _), some (.int _), some (.int _), some (.int _), some (.int _), some (.int _)], [.int _, .int _, .ref _, .int _], _)) rfl (u_ rfl) ?_
      refine wcI (pc := 102) (len_s := 3) rfl rfl (l := [some (.ref _), some (.int _), some (.int _), none, none]) rfl (wmI t_s (fun v10 h10 hk t_s => ?_))
      replace t_s := t_s hk
      refine w_t (pc := 105) (e_s := (0, 2, 0, 0, 0, .int (-2), [])) (y_s := (107, [some (.ref _), some (.int _), some (.int _), some (.int _), some (.int _), some (.int _), some (.int _), some (.int _)], [.int _, .int _, .int _], _)) rfl (u_ rfl) ?_
      refine wi1 (pc := 107) (len_s := 3) (Y := -2) rfl rfl (by decide) (fun c11_s => ?_) (fun c11_s => ?_)
      · replace t_s := t_s.1 c11_s
        refine w_t (pc := 110) (e_s := (0, 1, 0, 0, 0, .int 1, [])) (y_s := (111, [some (.ref _), some (.int _), some (.int _), some (.int _), some (.int _), some (.int _), some (.int _), some (.int _)], [.int _, .int _], _)) rfl (u_ rfl) ?_
        refine w_t (pc := 111) (e_s := (1, 2, 7, 0, 0, .null, [])) (y_s := (113, [some (.ref _), some (.int _), some (.int _), some (.int _), some (.int _), some (.int _), some (.int _), some (.int _)], [.int _, .int _, .int _], _)) rfl (u_ rfl) ?_
        refine w_t (pc := 113) (e_s := (7, 1, 0, 6, 0, .null, [])) (y_s := (114, [some (.ref _), some (.int _), some (.int _), some (.int _), some (.int _), some (.int _), some (.int _), some (.int _)], [.int ((_ : Int32) <<< ((_ : Int32) &&& 31)), .int _], _)) rfl (u_ rfl) ?_
        refine w_t (pc := 114) (e_s := (17, 3, 118, 0, 0, .null, [])) (y_s := (118, [some (.ref _), some (.int _), some (.int _), some (.int _), some (.int _), some (.int _), some (.int _), some (.int _)], [.int _, .int _], _)) rfl (u_ rfl) ?_
        refine w_t (pc := 118) (e_s := (7, 1, 0, 4, 0, .null, [])) (y_s := (119, [some (.ref _), some (.int _), some (.int _), some (.int _), some (.int _), some (.int _), some (.int _), some (.int _)], [.int (_ ||| _)], _)) rfl (u_ rfl) ?_
        refine w_t (pc := 119) (e_s := (4, 2, 6, 0, 0, .null, [])) (y_s := (121, [some (.ref _), some (.int _), some (.int _), some (.int _), some (.int _), some (.int _), some (.int _), some (.int _)], [], _)) rfl (u_ rfl) ?_
        refine w_t (pc := 121) (e_s := (19, 3, 7, 0, 0, .int 1, [])) (y_s := (124, [some (.ref _), some (.int _), some (.int _), some (.int _), some (.int _), some (.int _), some (.int _), some (.int _)], [], _)) rfl (u_ rfl) ?_
        refine w_t (pc := 124) (e_s := (17, 3, 74, 0, 0, .null, [])) (y_s := (74, [some (.ref _), some (.int _), some (.int _), some (.int _), some (.int _), some (.int _), some (.int _), some (.int _)], [], _)) rfl (u_ rfl) ?_
        exact t_s
      · replace t_s := t_s.2 c11_s
        refine w_t (pc := 117) (e_s := (0, 1, 0, 0, 0, .int 0, [])) (y_s := (118, [some (.ref _), some (.int _), some (.int _), some (.int _), some (.int _), some (.int _), some (.int _), some (.int _)], [.int _, .int _], _)) rfl (u_ rfl) ?_
        refine w_t (pc := 118) (e_s := (7, 1, 0, 4, 0, .null, [])) (y_s := (119, [some (.ref _), some (.int _), some (.int _), some (.int _), some (.int _), some (.int _), some (.int _), some (.int _)], [.int (_ ||| _)], _)) rfl (u_ rfl) ?_
        refine w_t (pc := 119) (e_s := (4, 2, 6, 0, 0, .null, [])) (y_s := (121, [some (.ref _), some (.int _), some (.int _), some (.int _), some (.int _), some (.int _), some (.int _), some (.int _)], [], _)) rfl (u_ rfl) ?_
        refine w_t (pc := 121) (e_s := (19, 3, 7, 0, 0, .int 1, [])) (y_s := (124, [some (.ref _), some (.int _), some (.int _), some (.int _), some (.int _), some (.int _), some (.int _), some (.int _)], [], _)) rfl (u_ rfl) ?_
        refine w_t (pc := 124) (e_s := (17, 3, 74, 0, 0, .null, [])) (y_s := (74, [some (.ref _), some (.int _), some (.int _), some (.int _), some (.int _), some (.int _), some (.int _), some (.int _)], [], _)) rfl (u_ rfl) ?_
        exact t_s
/-! THE EDGE, the reference: it thinks on a place of the country's row and puts that place back. -/
def isRm (g_s : Nat → Nat → Int64) (nr : Nat) (x_s v_s : Int32) : Prop := ∀ k_s : Int32, 0 ≤ k_s.toInt → k_s.toInt < v_s.toInt → 0 ≤ (g_s 126 (zix (60 * x_s + k_s))).toInt ∧ (g_s 126 (zix (60 * x_s + k_s))).toInt < (nr : Int)
theorem sub1_as (x_s y_s : Int32) : x_s + y_s - 1 = x_s + (y_s - 1) := by
  rw [Int32.sub_eq_add_neg, Int32.sub_eq_add_neg, Int32.add_assoc]
theorem frG_tr {f_s f1_s f2_s : Nat → Nat → Int32} (h1 : frG f_s f1_s) (h2 : frG f1_s f2_s) : frG f_s f2_s := fun a_s k_s q1_s q2_s q3_s => by
  rw [h2 a_s k_s q1_s q2_s q3_s]
  exact h1 a_s k_s q1_s q2_s q3_s
section ED_s
variable {h_s : zH} {K_s : Int32 → zH → Prop} {nh ni nr : Nat} {lw : Option (List pB)} {x1_s x2_s : Int32} {f0_s : Nat → Nat → Int32}
theorem rm187 (hk : hKn h_s) (c8_s : (h_s.2.1 102 8).toInt = (nr : Int)) (t_s : ∀ v_s, isRm h_s.2.2.1 nr x1_s v_s → K_s v_s h_s) : ∀ (F_s n_s : Nat) (x2_s : Int32), x2_s.toInt = (n_s : Int) → isRm h_s.2.2.1 nr x1_s x2_s → wF F_s 187 (2, [some (.ref 102), some (.int x1_s), some (.int x2_s)], [], h_s) (gI K_s)
  | 0, _, _, _, _ => wF_zero
  | F_s + 1, n_s, x2_s, e2_s, r_s => by
    have e8 := sb1 c8_s
    refine sg_187_2 (h_s := h_s) hk ?_
    rw [e8]
    refine ⟨fun c1_s => fun c2_s => ⟨fun c3_s => fun c4_s => ⟨fun c5_s => t_s x2_s r_s, fun c5_s => ⟨fun c6_s => t_s x2_s r_s, fun c6_s => ?_⟩⟩, fun c3_s => t_s x2_s r_s⟩, fun c1_s => t_s x2_s r_s⟩
    have e3_s : (x2_s + 1).toInt = ((n_s + 1 : Nat) : Int) := by
      rw [in1_ (by omega), e2_s]
      omega
    refine rm187 hk c8_s t_s F_s (n_s + 1) (x2_s + 1) e3_s (fun k_s k0_s k1_s => ?_)
    by_cases e_s : k_s.toInt = x2_s.toInt
    · have ek : k_s = x2_s := Int32.toInt_inj.mp e_s
      rw [ek]
      omega
    · exact r_s k_s k0_s (by omega)
theorem fr_187 {F_s : Nat} (hk : hKn h_s) (c8_s : (h_s.2.1 102 8).toInt = (nr : Int)) (t_s : ∀ v_s, isRm h_s.2.2.1 nr x1_s v_s → K_s v_s h_s) : wF F_s 187 (0, [some (.ref 102), some (.int x1_s), none], [], h_s) (gI K_s) := wF_le (Nat.le_succ F_s) (sg_187_0 (h_s := h_s) hk (rm187 hk c8_s t_s F_s 0 0 rfl (fun k_s k0_s k1_s => absurd (show k_s.toInt < 0 from k1_s) (by omega))))
def Q4 (f0_s f_s : Nat → Nat → Int32) : Prop := frG f0_s f_s ∧ ∃ o : oI, oB o ∧ ∀ k_s, k_s < 7 → f_s 112 k_s = o k_s
def B10 (h_s : zH) (K_s : Int32 → zH → Prop) (f0_s : Nat → Nat → Int32) (x1_s x2_s : Int32) (F_s : Nat) : Prop := ∀ (x3 x4_s : Int32) (n_s : Nat) (f_s : Nat → Nat → Int32), Q4 f0_s f_s → x4_s.toInt = (n_s : Int) → wF F_s 204 (10, [some (.ref 102), some (.int x1_s), some (.int x2_s), some (.int x3), some (.int x4_s)], [], (h_s.1, f_s, h_s.2.2.1, h_s.2.2.2)) (gI K_s)
def B52 (h_s : zH) (K_s : Int32 → zH → Prop) (f0_s : Nat → Nat → Int32) (x1_s x2_s : Int32) (nr F_s : Nat) : Prop := ∀ (x3 x4_s : Int32) (n_s : Nat) (f_s : Nat → Nat → Int32), Q4 f0_s f_s → x4_s.toInt = (n_s : Int) → 0 < n_s → x4_s.toInt < 2147483647 → (¬ x3.toInt = 0 → isRm h_s.2.2.1 nr (x1_s / 10) x4_s) → wF F_s 204 (52, [some (.ref 102), some (.int x1_s), some (.int x2_s), some (.int x3), some (.int x4_s)], [], (h_s.1, f_s, h_s.2.2.1, h_s.2.2.2)) (gI K_s)
def B83 (h_s : zH) (K_s : Int32 → zH → Prop) (f0_s : Nat → Nat → Int32) (x1_s x2_s : Int32) (F_s : Nat) : Prop := ∀ (x3 x4_s : Int32) (n_s : Nat) (f_s : Nat → Nat → Int32), Q4 f0_s f_s → x4_s.toInt = (n_s : Int) → x4_s.toInt < 2147483647 → wF F_s 204 (83, [some (.ref 102), some (.int x1_s), some (.int x2_s), some (.int x3), some (.int x4_s)], [], (h_s.1, f_s, h_s.2.2.1, h_s.2.2.2)) (gI K_s)
theorem b10_s {F_s : Nat} (hk : hKn h_s) (hc_s : tM nh ni nr f0_s) (t_s : ∀ v_s f1_s, frG f0_s f1_s → K_s v_s (h_s.1, f1_s, h_s.2.2.1, h_s.2.2.2)) (i5_s : B52 h_s K_s f0_s x1_s x2_s nr F_s) (i8_s : B83 h_s K_s f0_s x1_s x2_s F_s) : B10 h_s K_s f0_s x1_s x2_s (F_s + 1) := by
  intro x3 x4_s n_s f_s q_s e4_s
  have r125 := na_rng (f_s 125 (zix (x1_s - x1_s / 10 * 10)))
  have c8_s : (f_s 102 8).toInt = (nr : Int) := by
    rw [q_s.1 102 8 (by omega) (by omega) (by omega)]
    exact hc_s.2.1.2.2
  refine sg_204_10 (h_s := (h_s.1, f_s, h_s.2.2.1, h_s.2.2.2)) hk ?_
  dsimp only
  refine fun c1_s => ⟨fun c2_s => ⟨fun c3_s => ⟨fun c4_s => i5_s 0 x4_s n_s f_s q_s e4_s (by omega) (by omega) (fun c_s => absurd rfl c_s), fun c4_s => ?_⟩, fun c3_s => i8_s x3 x4_s n_s f_s q_s e4_s (by omega)⟩, fun c2_s => t_s (-2) f_s q_s.1⟩
  refine fr_187 (h_s := (h_s.1, f_s, h_s.2.2.1, h_s.2.2.2)) (nr := nr) hk c8_s (fun v_s rv_s hk5 => ⟨fun _ => i5_s 0 x4_s n_s f_s q_s e4_s (by omega) (by omega) (fun c_s => absurd rfl c_s), fun c_s => i5_s 1 x4_s n_s f_s q_s e4_s (by omega) (by omega) (fun _ k_s k0_s k1_s => rv_s k_s k0_s (by omega))⟩)
theorem b52_s {F_s : Nat} (hk : hKn h_s) (hc_s : tM nh ni nr f0_s) (hl : lawR f0_s lw) (hp : lwP lw) (i8_s : B83 h_s K_s f0_s x1_s x2_s F_s) : B52 h_s K_s f0_s x1_s x2_s nr (F_s + 1) := by
  intro x3 x4_s n_s f_s q_s e4_s hn hb_s hr
  obtain ⟨g_s, o, hB_s, ho⟩ := q_s
  have b_s := hc_s.1
  have e1_s : (x4_s - 1).toInt = (n_s : Int) - 1 := sb1 e4_s
  refine sg_204_52 (h_s := (h_s.1, f_s, h_s.2.2.1, h_s.2.2.2)) hk ?_
  dsimp only
  refine ⟨fun c1_s => i8_s x3 x4_s n_s f_s ⟨g_s, o, hB_s, ho⟩ e4_s hb_s, fun c1_s => fun c2_s => ?_⟩
  have ir := hr c1_s (x4_s - 1) (by omega) (by omega)
  rw [sub1_as]
  generalize h_s.2.2.1 126 (zix (60 * (x1_s / 10) + (x4_s - 1))) = l at ir
  have t3_s := t32_ (x_s := l) (by omega) (by omega)
  have er : l.toInt = (l.toInt.toNat : Int) := by omega
  have hr1 : l.toInt.toNat < nr := by omega
  have m0_s : tM nh ni nr f_s := tM_fr (fun k_s _ _ => g_s _ _ (by omega) (by omega) (by omega)) (fun k_s _ => g_s _ _ (by omega) (by omega) (by omega)) hc_s
  obtain ⟨m1_s, m2_s, m3_s⟩ := tM_ml m0_s hr1
  have l1 : lawR f_s lw := lawR_fr (g_s _ _ (by omega) (by omega) (by omega)) (fun k_s _ => g_s _ _ (by omega) (by omega) (by omega)) hl
  refine sp_183 (h_s := (h_s.1, f_s, h_s.2.2.1, h_s.2.2.2)) (o := o) (r_s := l.toInt.toNat) (m_s := zix (f_s 103 (68 + l.toInt.toNat))) hk l1 hp (by rw [t3_s]; exact er) (by omega) m1_s m2_s ho hB_s (fun f1_s p1_s p2_s p3_s p4_s hk2 => ?_)
  exact i8_s _ x4_s n_s f1_s ⟨frG_tr g_s p4_s, _, go_B hB_s, p3_s⟩ e4_s hb_s
theorem b83_s {F_s : Nat} (hk : hKn h_s) (t_s : ∀ v_s f1_s, frG f0_s f1_s → K_s v_s (h_s.1, f1_s, h_s.2.2.1, h_s.2.2.2)) (i1_s : B10 h_s K_s f0_s x1_s x2_s F_s) : B83 h_s K_s f0_s x1_s x2_s (F_s + 1) := by
  intro x3 x4_s n_s f_s q_s e4_s hb_s
  exact sg_204_83 (h_s := (h_s.1, f_s, h_s.2.2.1, h_s.2.2.2)) hk ⟨fun c1_s => t_s x4_s f_s q_s.1, fun c1_s => fun c2_s => ⟨fun c4_s => i1_s x3 (x4_s + 1) (n_s + 1) f_s q_s (by rw [in1_ (by omega)]; omega), fun c4_s => t_s x4_s f_s q_s.1⟩⟩
theorem b_all (hk : hKn h_s) (hc_s : tM nh ni nr f0_s) (hl : lawR f0_s lw) (hp : lwP lw) (t_s : ∀ v_s f1_s, frG f0_s f1_s → K_s v_s (h_s.1, f1_s, h_s.2.2.1, h_s.2.2.2)) : ∀ F_s, B10 h_s K_s f0_s x1_s x2_s F_s ∧ B52 h_s K_s f0_s x1_s x2_s nr F_s ∧ B83 h_s K_s f0_s x1_s x2_s F_s
  | 0 => ⟨fun _ _ _ _ _ _ => wF_zero, fun _ _ _ _ _ _ _ _ _ => wF_zero, fun _ _ _ _ _ _ _ => wF_zero⟩
  | F_s + 1 => by
    obtain ⟨i1_s, i5_s, i8_s⟩ := b_all hk hc_s hl hp t_s F_s
    exact ⟨b10_s hk hc_s t_s i5_s i8_s, b52_s hk hc_s hl hp i8_s, b83_s hk t_s i1_s⟩
theorem fr_204 {F_s i_s : Nat} (hk : hKn h_s) (hc_s : tM nh ni nr f0_s) (hl : lawR f0_s lw) (hp : lwP lw) (e2_s : x2_s.toInt = (i_s : Int)) (hi_s : i_s < ni) (t_s : ∀ v_s f1_s, frG f0_s f1_s → K_s v_s (h_s.1, f1_s, h_s.2.2.1, h_s.2.2.2)) : wF F_s 204 (0, [some (.ref 102), some (.int x1_s), some (.int x2_s), none, none], [], (h_s.1, f0_s, h_s.2.2.1, h_s.2.2.2)) (gI K_s) := by
  have b_s := hc_s.1
  refine wF_le (Nat.le_succ F_s) (sg_204_0 (h_s := (h_s.1, f0_s, h_s.2.2.1, h_s.2.2.2)) hk ?_)
  refine sp_178 hk e2_s (by omega) (tM_hd hc_s hi_s).1 (fun f1_s g1 g2 hk1 => ?_)
  exact (b_all hk hc_s hl hp t_s F_s).1 1 0 0 f1_s ⟨fun a_s k_s q1_s q2_s q3_s => g2 a_s k_s q2_s, owI f0_s i_s, tM_oB hc_s hi_s, g1⟩ rfl
theorem fr_203 {F_s : Nat} (hk : hKn h_s) (t_s : ∀ v_s, K_s v_s h_s) : wF F_s 203 (0, [some (.ref 102), some (.int x1_s)], [], h_s) (gI K_s) := wF_le (Nat.le_succ F_s) (sg_203_0 (h_s := h_s) hk (by repeat (first | exact t_s _ | refine ⟨?_, ?_⟩ | intro _)))
/-- a thought's place -/
theorem tM_at {f2_s : Nat → Nat → Int32} {j_s i_s : Nat} (hc_s : tM nh ni nr f0_s) (hj : j_s < 2) (hi_s : i_s < 8) (v0_s : 0 ≤ (f2_s 103 (12 + 8 * j_s + i_s)).toInt) (v1_s : (f2_s 103 (12 + 8 * j_s + i_s)).toInt ≤ mxw (j_s + 2)) (h2 : ∀ k_s, 6 ≤ k_s → k_s ≤ 8 → f2_s 102 k_s = f0_s 102 k_s) (h3 : ∀ k_s, k_s < 104 → ¬ k_s = 12 + 8 * j_s + i_s → f2_s 103 k_s = f0_s 103 k_s) : tM nh ni nr f2_s := by
  obtain ⟨b_s, ⟨a4, a5, a6⟩, a7⟩ := hc_s
  refine ⟨b_s, ⟨?_, ?_, ?_⟩, fun n_s w_s hw hn hni => ?_⟩
  · rw [h2 6 (by omega) (by omega)]
    exact a4
  · rw [h2 7 (by omega) (by omega)]
    exact a5
  · rw [h2 8 (by omega) (by omega)]
    exact a6
  · by_cases e_s : plc n_s w_s = 12 + 8 * j_s + i_s
    · have ew : w_s = j_s + 2 := by
        by_cases v2 : w_s < 2
        · rw [cap_h v2] at hn
          rw [plc_h v2] at e_s
          omega
        · by_cases v9 : w_s < 9
          · rw [cap_i (by omega) v9] at hn
            rw [plc_i (by omega) v9] at e_s
            omega
          · rw [cap_r (by omega)] at hn
            rw [plc_r (by omega)] at e_s
            omega
      rw [e_s]
      unfold vB
      rw [if_neg (by omega), ew]
      exact ⟨v0_s, v1_s, fun e9_s => absurd e9_s (by omega)⟩
    · rw [h3 _ (plc_lt hw hn) e_s]
      exact a7 n_s w_s hw hn hni
theorem ed206 {x5_s : Int32} {j_s i_s : Nat} (hk : hKn h_s) (hc_s : tM nh ni nr f0_s) (hl : lawR f0_s lw) (hp : lwP lw) (hj : j_s < 2) (e2_s : x2_s.toInt = (i_s : Int)) (hi_s : i_s < ni) (x3 x4_s : Int32) (e3_s : x3.toInt = (j_s : Int)) (e4_s : zix x4_s = 12 + 8 * j_s + i_s) (e5_s : x5_s = f0_s 103 (12 + 8 * j_s + i_s)) (t_s : ∀ v_s f1_s, frG f0_s f1_s → K_s v_s (h_s.1, f1_s, h_s.2.2.1, h_s.2.2.2)) : ∀ (F_s n_s : Nat) (x6 x7 : Int32) (f_s : Nat → Nat → Int32), x7.toInt = (n_s : Int) → n_s ≤ 6 → (∀ a_s k_s, ¬ a_s = 111 → ¬ a_s = 112 → ¬ (a_s = 102 ∧ (15 ≤ k_s ∧ k_s ≤ 19 ∨ k_s = 22 ∨ k_s = 23)) → ¬ (a_s = 103 ∧ k_s = 12 + 8 * j_s + i_s) → f_s a_s k_s = f0_s a_s k_s) → wF F_s 206 (74, [some (.ref 102), some (.int x1_s), some (.int x2_s), some (.int x3), some (.int x4_s), some (.int x5_s), some (.int x6), some (.int x7)], [], (h_s.1, f_s, h_s.2.2.1, h_s.2.2.2)) (gI K_s)
  | 0, _, _, _, _, _, _, _ => wF_zero
  | F_s + 1, n_s, x6, x7, f_s, e7_s, hn, g_s => by
    have b_s := hc_s.1
    have nx : ∀ (x61 : Int32), x7.toInt ≤ 5 → (x7.toInt ≤ mxw (j_s + 2)) → wF F_s 204 (0, [some (.ref 102), some (.int x1_s), some (.int x2_s), none, none], [], (h_s.1, zup f_s 103 (12 + 8 * j_s + i_s) x7, h_s.2.2.1, h_s.2.2.2)) (gI (fun v5 h5 => hKn h5 → (v5.toInt = -2 → wF F_s 206 (74, [some (.ref 102), some (.int x1_s), some (.int x2_s), some (.int x3), some (.int x4_s), some (.int x5_s), some (.int (x6 ||| (1 <<< (x7 &&& 31)))), some (.int (x7 + 1))], [], h5) (gI K_s)) ∧ (¬ v5.toInt = -2 → wF F_s 206 (74, [some (.ref 102), some (.int x1_s), some (.int x2_s), some (.int x3), some (.int x4_s), some (.int x5_s), some (.int (x6 ||| 0)), some (.int (x7 + 1))], [], h5) (gI K_s)))) := fun _ u5 um => by
      have m1_s : tM nh ni nr (zup f_s 103 (12 + 8 * j_s + i_s) x7) := by
        refine tM_at (i_s := i_s) hc_s hj (by omega) (by rw [zsame_up]; omega) (by rw [zsame_up]; exact um) (fun k_s k6_s k8_s => ?_) (fun k_s _ hk1 => ?_)
        · rw [zne_up (by omega)]
          exact g_s _ _ (by omega) (by omega) (by omega) (by omega)
        · rw [zne_up (by omega)]
          exact g_s _ _ (by omega) (by omega) (by omega) (by omega)
      have l1 : lawR (zup f_s 103 (12 + 8 * j_s + i_s) x7) lw := lawR_fr (by rw [zne_up (by omega)]; exact g_s _ _ (by omega) (by omega) (by omega) (by omega)) (fun k_s _ => by rw [zne_up (by omega)]; exact g_s _ _ (by omega) (by omega) (by omega) (by omega)) hl
      refine fr_204 (i_s := i_s) hk m1_s l1 hp e2_s hi_s (fun v5 f5_s g5_s hk5 => ?_)
      have g6 : ∀ a_s k_s, ¬ a_s = 111 → ¬ a_s = 112 → ¬ (a_s = 102 ∧ (15 ≤ k_s ∧ k_s ≤ 19 ∨ k_s = 22 ∨ k_s = 23)) → ¬ (a_s = 103 ∧ k_s = 12 + 8 * j_s + i_s) → f5_s a_s k_s = f0_s a_s k_s := fun a_s k_s q1_s q2_s q3_s q4_s => by
        rw [g5_s a_s k_s q1_s q2_s q3_s, zne_up (by omega)]
        exact g_s a_s k_s q1_s q2_s q3_s q4_s
      have e8 : (x7 + 1).toInt = ((n_s + 1 : Nat) : Int) := by
        rw [in1_ (by omega), e7_s]
        omega
      exact ⟨fun _ => ed206 hk hc_s hl hp hj e2_s hi_s x3 x4_s e3_s e4_s e5_s t_s F_s (n_s + 1) _ (x7 + 1) f5_s e8 (by omega) g6, fun _ => ed206 hk hc_s hl hp hj e2_s hi_s x3 x4_s e3_s e4_s e5_s t_s F_s (n_s + 1) _ (x7 + 1) f5_s e8 (by omega) g6⟩
    have fin_s : K_s x6 (h_s.1, zup f_s 103 (12 + 8 * j_s + i_s) x5_s, h_s.2.2.1, h_s.2.2.2) := t_s x6 _ (fun a_s k_s q1_s q2_s q3_s => by
      by_cases e_s : a_s = 103 ∧ k_s = 12 + 8 * j_s + i_s
      · rw [e_s.1, e_s.2, zsame_up]
        exact e5_s
      · rw [zne_up e_s]
        exact g_s a_s k_s q1_s q2_s q3_s e_s)
    have mx_s : (j_s = 0 → mxw (j_s + 2) = 3) ∧ (j_s = 1 → mxw (j_s + 2) = 5) := ⟨fun e_s => by rw [e_s]; rfl, fun e_s => by rw [e_s]; rfl⟩
    refine sg_206_74 (h_s := (h_s.1, f_s, h_s.2.2.1, h_s.2.2.2)) hk ?_
    dsimp only
    rw [e4_s]
    refine ⟨fun c1_s => ⟨fun c2_s => fun c3_s => fin_s, fun c2_s => fun c4_s => nx 0 (by omega) (by have := mx_s.1 (by omega); omega)⟩, fun c1_s => ⟨fun c7_s => fun c8_s => fin_s, fun c7_s => fun c9_s => nx 0 (by omega) (by have := mx_s.2 (by omega); omega)⟩⟩
theorem fr_206 {F_s : Nat} {x3 : Int32} (hk : hKn h_s) (hc_s : tM nh ni nr f0_s) (hl : lawR f0_s lw) (hp : lwP lw) (t_s : ∀ v_s f1_s, frG f0_s f1_s → K_s v_s (h_s.1, f1_s, h_s.2.2.1, h_s.2.2.2)) : wF F_s 206 (0, [some (.ref 102), some (.int x1_s), some (.int x2_s), some (.int x3), none, none, none, none], [], (h_s.1, f0_s, h_s.2.2.1, h_s.2.2.2)) (gI K_s) := by
  have b_s := hc_s.1
  have e7_s := sb1 hc_s.2.1.2.1
  have t0_s : ∀ v_s, K_s v_s (h_s.1, f0_s, h_s.2.2.1, h_s.2.2.2) := fun v_s => t_s v_s f0_s (fun _ _ _ _ _ => rfl)
  refine wF_le (Nat.le_succ F_s) (sg_206_0 (h_s := (h_s.1, f0_s, h_s.2.2.1, h_s.2.2.2)) hk ?_)
  refine fr_203 hk (fun v1_s hk1 => ⟨fun _ => t0_s _, fun _ => ?_⟩)
  dsimp only
  rw [e7_s]
  refine ⟨fun _ => t0_s _, fun c2_s => ⟨fun _ => t0_s _, fun c3_s => ⟨fun _ => t0_s _, fun c4_s => ⟨fun _ => t0_s _, fun c5_s => ?_⟩⟩⟩⟩
  refine fr_203 hk (fun v7 hk7 => ⟨fun _ => fr_203 hk (fun v9 _ => t0_s v9), fun _ => ?_⟩)
  have er : x2_s.toInt = (x2_s.toInt.toNat : Int) := by omega
  have hi_s : x2_s.toInt.toNat < ni := by omega
  have z12 : zix (12 + x2_s) = 12 + x2_s.toInt.toNat := zxa (c_s := 12) (a_s := 12) rfl er (by omega)
  have z20 : zix (20 + x2_s) = 20 + x2_s.toInt.toNat := zxa (c_s := 20) (a_s := 20) rfl er (by omega)
  generalize x2_s.toInt.toNat = i_s at er hi_s z12 z20
  refine ⟨fun c_s => fun _ => ?_, fun c_s => fun _ => ?_⟩
  · exact ed206 (j_s := 0) (i_s := i_s) hk hc_s hl hp (by omega) er hi_s x3 _ c_s z12 (by rw [z12]) t_s F_s 0 0 0 f0_s rfl (by omega) (fun _ _ _ _ _ _ => rfl)
  · exact ed206 (j_s := 1) (i_s := i_s) hk hc_s hl hp (by omega) er hi_s x3 _ (by omega) z20 (by rw [z20]) t_s F_s 0 0 0 f0_s rfl (by omega) (fun _ _ _ _ _ _ => rfl)
end ED_s
/-! THE START keeps the state's tie; the edge keeps it. -/
theorem hcX1_fr {f_s g_s : Nat → Nat → Int32} (e_s : ∀ o k_s, o ≠ 0 → g_s o k_s = f_s o k_s) (hc_s : hcX1 f_s = true) : hcX1 g_s = true := by
  have e20 : ∀ i_s k_s, g_s (20 + i_s) k_s = f_s (20 + i_s) k_s := fun i_s k_s => e_s _ _ (by omega)
  have e28_s : ∀ i_s k_s, g_s (28 + i_s) k_s = f_s (28 + i_s) k_s := fun i_s k_s => e_s _ _ (by omega)
  have e8 : ∀ i_s k_s, g_s (8 + i_s) k_s = f_s (8 + i_s) k_s := fun i_s k_s => e_s _ _ (by omega)
  unfold hcX1 at hc_s ⊢
  simp only [e20, e28_s, e8, e_s 7 _ (by omega), e_s 102 _ (by omega), e_s 103 _ (by omega), e_s 107 _ (by omega), e_s 108 _ (by omega)]
  exact hc_s
theorem hcX2_fr {f_s g_s : Nat → Nat → Int32} (e_s : ∀ o k_s, o ≠ 0 → g_s o k_s = f_s o k_s) (hc_s : hcX2 f_s = true) : hcX2 g_s = true := by
  unfold hcX2 at hc_s ⊢
  simp only [e_s 42 _ (by omega), e_s 102 _ (by omega), e_s 6 _ (by omega), e_s 73 _ (by omega), e_s 119 _ (by omega), e_s 1 _ (by omega), e_s 2 _ (by omega), e_s 3 _ (by omega), e_s 14 _ (by omega)]
  exact hc_s
theorem mxw_0 (w_s : Nat) : 0 ≤ mxw w_s := by
  unfold mxw
  repeat' split
  all_goals decide
theorem mx0_ : ∀ k_s, k_s < 12 → mx0.getD k_s 0 = msW k_s ∧ ls0.getD k_s 0 = lsW k_s := by decide
theorem tC_0 {f_s : Nat → Nat → Int32} (hc_s : hcX1 f_s = true) : tC 0 0 0 f_s := by
  unfold hcX1 at hc_s
  simp only [Bool.and_eq_true, List.all_eq_true, List.mem_range, decide_eq_true_eq] at hc_s
  obtain ⟨⟨a_s, b_s⟩, c_s, d_s, e_s, g_s⟩ := hc_s
  have z0 : (0 : Int32).toInt = 0 := rfl
  refine ⟨⟨by omega, by omega, by omega⟩, ⟨?_, ?_, ?_⟩, ⟨?_, ?_, ?_⟩, fun n_s w_s hw hn hi_s => ?_, fun i_s h1 h2 => e_s i_s h2, fun r_s hr => ?_⟩
  · rw [(a_s 0 (by omega)).1]
    rfl
  · rw [(a_s 1 (by omega)).1]
    rfl
  · rw [(a_s 2 (by omega)).1]
    rfl
  · rw [(a_s 0 (by omega)).2]
    rfl
  · rw [(a_s 1 (by omega)).2]
    rfl
  · rw [(a_s 2 (by omega)).2]
    rfl
  · have w8 : ¬ w_s = 8 := fun e_s => Nat.not_lt_zero _ (hi_s e_s)
    have v0_s : vB 0 0 n_s w_s (0 : Int32).toInt := by
      unfold vB
      rw [if_neg w8, z0]
      exact ⟨Int.le_refl _, mxw_0 w_s, fun _ q_s => absurd q_s (Nat.not_lt_zero _)⟩
    by_cases w2_s : w_s < 2
    · rw [cap_h w2_s] at hn
      rw [cO_h w2_s, cF_h w2_s, plc_h w2_s]
      obtain ⟨q1_s, q2_s⟩ := b_s w_s w2_s n_s hn
      rw [q1_s, q2_s]
      exact ⟨rfl, v0_s⟩
    · by_cases w9 : w_s < 9
      · rw [cap_i (by omega) w9] at hn
        rw [cO_i (by omega) w9, cF_i (by omega) w9, plc_i (by omega) w9]
        obtain ⟨q1_s, q2_s⟩ := c_s (w_s - 2) (by omega) n_s hn
        rw [q1_s, q2_s]
        exact ⟨rfl, v0_s⟩
      · rw [cap_r (by omega)] at hn
        rw [cO_r (by omega), cF_r (by omega), plc_r (by omega)]
        obtain ⟨q1_s, q2_s⟩ := d_s (w_s - 9) (by omega) n_s hn
        rw [show 2 + (w_s - 9) = w_s - 7 by omega] at q1_s
        rw [q1_s, q2_s]
        exact ⟨rfl, v0_s⟩
  · obtain ⟨⟨q1_s, q2_s⟩, q3_s, q4_s⟩ := g_s r_s hr
    rw [q1_s, q2_s, q3_s, q4_s]
    exact ⟨⟨rfl, rfl⟩, by decide, by decide, fun w_s => absurd w_s (Nat.not_lt_zero _)⟩
theorem tX_0 {h_s : zH} (r9 : h_s.2.2.2 7 9 = some 14) (r10 : h_s.2.2.2 7 10 = some 17) (h1 : hcX1 h_s.2.1 = true) (h2 : hcX2 h_s.2.1 = true) : tX h_s := by
  have c0_s := tC_0 h1
  unfold hcX2 at h2
  simp only [Bool.and_eq_true, List.all_eq_true, List.mem_range, decide_eq_true_eq] at h2
  obtain ⟨⟨⟨b1, b2⟩, b3, b4⟩, ⟨⟨d1_s, d2_s⟩, d3_s⟩, g_s, ⟨k0_s, k1_s, k2_s⟩, ⟨l1, l2⟩, l3⟩ := h2
  refine ⟨0, 0, 0, c0_s, ⟨0, 0, by omega, ?_, ?_, ?_, ?_, fun k_s q_s => absurd q_s (Nat.not_lt_zero _)⟩, Or.inl ⟨?_, ?_⟩, fun k_s q1_s q2_s => ?_, ⟨fun k_s q_s => ?_, ?_, ?_, ?_⟩, 14, 17, none, r9, r10, Or.inl ⟨rfl, rfl⟩, ⟨?_, l2⟩, ?_⟩
  · rw [b1]
    rfl
  · rw [b2]
    rfl
  · rw [b3]
    rfl
  · rw [b4]
    rfl
  · rw [d1_s]
    rfl
  · rw [d2_s]
    rfl
  · have u_s := d3_s (k_s - 2) (by omega)
    rw [show 2 + (k_s - 2) = k_s by omega] at u_s
    exact u_s
  · obtain ⟨m1_s, m2_s⟩ := mx0_ k_s q_s
    rw [← m1_s, ← m2_s]
    exact g_s k_s q_s
  · rw [k0_s]
    rfl
  · rw [k1_s]
    rfl
  · rw [k2_s]
    rfl
  · rw [l1]
    rfl
  · show (h_s.2.1 102 14).toInt = -1
    rw [l3]
    rfl
theorem tX_start {E_s : Nat → Int32} {n_s : Nat} {h_s : zH} (hc_s : hcX h_s = true) : tX (sH E_s n_s [] h_s) := by
  have sv : ∀ o k_s, o ≠ 0 → sov E_s [] h_s.2.1 o k_s = h_s.2.1 o k_s := fun o k_s ho => by rw [sov_nil ho]
  unfold hcX at hc_s
  rw [Bool.and_eq_true, Bool.and_eq_true, Bool.and_eq_true, decide_eq_true_eq, decide_eq_true_eq] at hc_s
  obtain ⟨⟨r1_s, r2⟩, c1_s, c2_s⟩ := hc_s
  exact tX_0 (h_s := sH E_s n_s [] h_s) r1_s r2 (hcX1_fr sv c1_s) (hcX2_fr sv c2_s)
section ET_s
variable {F_s : Nat} {h_s : zH} {x1_s x2_s x3 : Int32}
theorem ed_206 (hk : hKn h_s) (hx : tX h_s) : wF F_s 206 (0, [some (.ref 102), some (.int x1_s), some (.int x2_s), some (.int x3), none, none, none, none], [], h_s) (gI (fun _ h1 => tX h1)) := by
  obtain ⟨nh, ni, nr, hc_s, hh, hi_, hd_s, hz, hl⟩ := hx
  have hx : tX h_s := ⟨nh, ni, nr, hc_s, hh, hi_, hd_s, hz, hl⟩
  obtain ⟨q_s, q2_s, lw, l1, l2, l3, l4, l5⟩ := hl
  refine fr_206 (f0_s := h_s.2.1) hk (tC_M hc_s) l5 (lawR_P l5) (fun v_s f1_s g_s => ?_)
  refine tX_fr (h_s := h_s) (h1 := (h_s.1, f1_s, h_s.2.2.1, h_s.2.2.2)) (fun _ => rfl) (fun o k_s w_s => ?_) hx
  have n_s : ¬ o = 111 ∧ ¬ o = 112 ∧ ¬ (o = 102 ∧ (15 ≤ k_s ∧ k_s ≤ 19 ∨ k_s = 22 ∨ k_s = 23)) := by
    unfold inX inC inH inI inD inZ inW at w_s
    omega
  exact g_s o k_s n_s.1 n_s.2.1 n_s.2.2
theorem pr_wears (hk : hKn h_s) (hx : tX h_s) : wF F_s 102 (0, [some (.ref 6), some (.int x1_s), some (.int x2_s)], [], h_s) (gI (fun v_s h1 => wF F_s 181 (0, [some (.ref 102), some (.int x1_s), some (.int x2_s)], [], h1) (gI (fun v2 _ => v_s = v2)))) := by
  obtain ⟨nh, ni, nr, hc_s, _, _, _, _, hl⟩ := hx
  obtain ⟨q_s, q2_s, lw, l1, l2, l3, l4, l5⟩ := hl
  have hm_s : q_s = 14 ∨ q_s = 17 := by omega
  have m0_s := tC_M hc_s
  refine sp_102 (f_s := h_s.2.1) hk l1 hm_s l4 (lawR_P l5) hc_s (fun w_s => ?_) (fun i_s r_s e1_s e2_s hi_s hr f1_s g_s => ?_)
  · refine sp_181 (f_s := h_s.2.1) hk l5 (lawR_P l5) m0_s (fun _ => rfl) (fun i_s r_s e1_s e2_s hi_s hr => ?_)
    exact absurd ⟨by omega, by omega, by omega, by omega⟩ w_s
  · have g3_s : ∀ a_s k_s, 100 ≤ a_s → f1_s a_s k_s = h_s.2.1 a_s k_s := fun a_s k_s ha_s => g_s a_s k_s (by omega) (by omega) (by omega)
    have m1_s : tM nh ni nr f1_s := tM_fr (fun k_s _ _ => g3_s _ _ (by omega)) (fun k_s _ => g3_s _ _ (by omega)) m0_s
    have l6 : lawR f1_s lw := lawR_fr (g3_s _ _ (by omega)) (fun k_s _ => g3_s _ _ (by omega)) l5
    refine sp_181 (h_s := (h_s.1, f1_s, h_s.2.2.1, h_s.2.2.2)) (f_s := f1_s) hk l6 (lawR_P l6) m1_s (fun w_s => absurd ⟨by omega, by omega, by omega, by omega⟩ w_s) (fun i1_s r1_s d1_s d2_s hi1 hr1 f2_s _ => ?_)
    have ei : i1_s = i_s := by omega
    have er : r1_s = r_s := by omega
    subst ei er
    have eo : owI f1_s i1_s = owI h_s.2.1 i1_s := by
      funext k_s
      unfold owI
      rw [g3_s 103 _ (by omega), g3_s 103 _ (by omega), g3_s 103 _ (by omega)]
    rw [eo, g3_s 103 _ (by omega), g3_s 103 _ (by omega)]
end ET_s
