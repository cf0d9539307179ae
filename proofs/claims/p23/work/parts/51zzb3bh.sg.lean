/-! What ended runs give: printed by a program (wip/fun/sg.py). -/
/-- ColdShodModel.firstFalse(II)I, from 0 on -/
theorem sg_204_0 {F_s : Nat} {x1_s : Int32} {x2_s : Int32} {h_s : zH} {K_s : Int32 → zH → Prop} (hk : hKn h_s) (t_s : wF F_s 178 (0, [some (.ref 102), some (.int x2_s), none], [], h_s) (gV (fun h1 => hKn h1 → wF F_s 204 (10, [some (.ref 102), some (.int x1_s), some (.int x2_s), some (.int 1), some (.int 0)], [], h1) (gI K_s)))) : wF (F_s + 1) 204 (0, [some (.ref 102), some (.int x1_s), some (.int x2_s), none, none], [], h_s) (gI K_s) := by
  refine w_0 (pc := 0) (e_s := (3, 1, 0, 0, 0, .null, [])) (y_s := (1, [some (.ref _), some (.int _), some (.int _), none, none], [.ref _], _)) rfl (u_ rfl) ?_
  refine w_t (pc := 1) (e_s := (1, 1, 2, 0, 0, .null, [])) (y_s := (2, [some (.ref _), some (.int _), some (.int _), none, none], [.int _, .ref _], _)) rfl (u_ rfl) ?_
  refine wcV (pc := 2) (len_s := 3) rfl rfl (l := [some (.ref _), some (.int _), none]) rfl (wmV t_s (fun h1 hk t_s => ?_))
  replace t_s := t_s hk
  refine w_t (pc := 5) (e_s := (0, 1, 0, 0, 0, .int 1, [])) (y_s := (6, [some (.ref _), some (.int _), some (.int _), none, none], [.int _], _)) rfl (u_ rfl) ?_
  refine w_t (pc := 6) (e_s := (4, 1, 3, 0, 0, .null, [])) (y_s := (7, [some (.ref _), some (.int _), some (.int _), some (.int _), none], [], _)) rfl (u_ rfl) ?_
  refine w_t (pc := 7) (e_s := (0, 1, 0, 0, 0, .int 0, [])) (y_s := (8, [some (.ref _), some (.int _), some (.int _), some (.int _), none], [.int _], _)) rfl (u_ rfl) ?_
  refine w_t (pc := 8) (e_s := (4, 2, 4, 0, 0, .null, [])) (y_s := (10, [some (.ref _), some (.int _), some (.int _), some (.int _), some (.int _)], [], _)) rfl (u_ rfl) ?_
  exact t_s
/-- ColdShodModel.firstFalse(II)I, from 10 on -/
theorem sg_204_10 {F_s : Nat} {x1_s x2_s x3 x4_s : Int32} {h_s : zH} {K_s : Int32 → zH → Prop} (hk : hKn h_s) (t_s : (zix (x1_s - x1_s / 10 * 10) < 6 → (x4_s.toInt < (h_s.2.1 125 (zix (x1_s - x1_s / 10 * 10))).toInt → ((0 < x4_s.toInt → ((x3.toInt = 0 → wF F_s 204 (52, [some (.ref 102), some (.int x1_s), some (.int x2_s), some (.int 0), some (.int x4_s)], [], h_s) (gI K_s)) ∧ (¬ x3.toInt = 0 → wF F_s 187 (0, [some (.ref 102), some (.int (x1_s / 10)), none], [], h_s) (gI (fun v5 h5 => hKn h5 → (v5.toInt < x4_s.toInt → wF F_s 204 (52, [some (.ref 102), some (.int x1_s), some (.int x2_s), some (.int 0), some (.int x4_s)], [], h5) (gI K_s)) ∧ (¬ v5.toInt < x4_s.toInt → wF F_s 204 (52, [some (.ref 102), some (.int x1_s), some (.int x2_s), some (.int 1), some (.int x4_s)], [], h5) (gI K_s))))))) ∧ (¬ 0 < x4_s.toInt → wF F_s 204 (83, [some (.ref 102), some (.int x1_s), some (.int x2_s), some (.int x3), some (.int x4_s)], [], h_s) (gI K_s)))) ∧ (¬ x4_s.toInt < (h_s.2.1 125 (zix (x1_s - x1_s / 10 * 10))).toInt → K_s (-2) h_s))) : wF (F_s + 1) 204 (10, [some (.ref 102), some (.int x1_s), some (.int x2_s), some (.int x3), some (.int x4_s)], [], h_s) (gI K_s) := by
  refine w_0 (pc := 10) (e_s := (1, 2, 4, 0, 0, .null, [])) (y_s := (12, [some (.ref _), some (.int _), some (.int _), some (.int _), some (.int _)], [.int _], _)) rfl (u_ rfl) ?_
  refine w_t (pc := 12) (e_s := (3, 1, 0, 0, 0, .null, [])) (y_s := (13, [some (.ref _), some (.int _), some (.int _), some (.int _), some (.int _)], [.ref _, .int _], _)) rfl (u_ rfl) ?_
  refine w20r (pc := 13) (len_s := 3) (q_s := 125) rfl (krq hk rfl) ?_
  refine w_t (pc := 16) (e_s := (1, 1, 1, 0, 0, .null, [])) (y_s := (17, [some (.ref _), some (.int _), some (.int _), some (.int _), some (.int _)], [.int _, .ref _, .int _], _)) rfl (u_ rfl) ?_
  refine w_t (pc := 17) (e_s := (0, 2, 0, 0, 0, .int 10, [])) (y_s := (19, [some (.ref _), some (.int _), some (.int _), some (.int _), some (.int _)], [.int _, .int _, .ref _, .int _], _)) rfl (u_ rfl) ?_
  refine w8m (pc := 19) (len_s := 1) rfl ?_
  refine w22 (pc := 20) (len_s := 1) rfl (hk.1 125 0 6 rfl rfl) (fun c1_s => ?_)
  replace t_s := t_s c1_s
  refine wi3 (pc := 21) (len_s := 3) rfl rfl rfl (fun c2_s => ?_) (fun c2_s => ?_)
  · replace t_s := t_s.1 c2_s
    refine w_t (pc := 24) (e_s := (1, 2, 4, 0, 0, .null, [])) (y_s := (26, [some (.ref _), some (.int _), some (.int _), some (.int _), some (.int _)], [.int _], _)) rfl (u_ rfl) ?_
    refine wq5 (pc := 26) (len_s := 3) rfl rfl (fun c3_s => ?_) (fun c3_s => ?_)
    · replace t_s := t_s.1 c3_s
      refine w_t (pc := 29) (e_s := (1, 1, 3, 0, 0, .null, [])) (y_s := (30, [some (.ref _), some (.int _), some (.int _), some (.int _), some (.int _)], [.int _], _)) rfl (u_ rfl) ?_
      refine wq0 (pc := 30) (len_s := 3) rfl rfl (fun c4_s => ?_) (fun c4_s => ?_)
      · replace t_s := t_s.1 c4_s
        refine w_t (pc := 50) (e_s := (0, 1, 0, 0, 0, .int 0, [])) (y_s := (51, [some (.ref _), some (.int _), some (.int _), some (.int _), some (.int _)], [.int _], _)) rfl (u_ rfl) ?_
        refine w_t (pc := 51) (e_s := (4, 1, 3, 0, 0, .null, [])) (y_s := (52, [some (.ref _), some (.int _), some (.int _), some (.int _), some (.int _)], [], _)) rfl (u_ rfl) ?_
        exact t_s
      · replace t_s := t_s.2 c4_s
        refine w_t (pc := 33) (e_s := (1, 2, 4, 0, 0, .null, [])) (y_s := (35, [some (.ref _), some (.int _), some (.int _), some (.int _), some (.int _)], [.int _], _)) rfl (u_ rfl) ?_
        refine w_t (pc := 35) (e_s := (3, 1, 0, 0, 0, .null, [])) (y_s := (36, [some (.ref _), some (.int _), some (.int _), some (.int _), some (.int _)], [.ref _, .int _], _)) rfl (u_ rfl) ?_
        refine w_t (pc := 36) (e_s := (1, 1, 1, 0, 0, .null, [])) (y_s := (37, [some (.ref _), some (.int _), some (.int _), some (.int _), some (.int _)], [.int _, .ref _, .int _], _)) rfl (u_ rfl) ?_
        refine w_t (pc := 37) (e_s := (0, 2, 0, 0, 0, .int 10, [])) (y_s := (39, [some (.ref _), some (.int _), some (.int _), some (.int _), some (.int _)], [.int _, .int _, .ref _, .int _], _)) rfl (u_ rfl) ?_
        refine w8 (pc := 39) (len_s := 1) rfl ?_
        refine wcI (pc := 40) (len_s := 3) rfl rfl (l := [some (.ref _), some (.int _), none]) rfl (wmI t_s (fun v5 h5 hk t_s => ?_))
        replace t_s := t_s hk
        refine wi4 (pc := 43) (len_s := 3) rfl rfl rfl (fun c6_s => ?_) (fun c6_s => ?_)
        · replace t_s := t_s.1 c6_s
          refine w_t (pc := 50) (e_s := (0, 1, 0, 0, 0, .int 0, [])) (y_s := (51, [some (.ref _), some (.int _), some (.int _), some (.int _), some (.int _)], [.int _], _)) rfl (u_ rfl) ?_
          refine w_t (pc := 51) (e_s := (4, 1, 3, 0, 0, .null, [])) (y_s := (52, [some (.ref _), some (.int _), some (.int _), some (.int _), some (.int _)], [], _)) rfl (u_ rfl) ?_
          exact t_s
        · replace t_s := t_s.2 c6_s
          refine w_t (pc := 46) (e_s := (0, 1, 0, 0, 0, .int 1, [])) (y_s := (47, [some (.ref _), some (.int _), some (.int _), some (.int _), some (.int _)], [.int _], _)) rfl (u_ rfl) ?_
          refine w_t (pc := 47) (e_s := (17, 3, 51, 0, 0, .null, [])) (y_s := (51, [some (.ref _), some (.int _), some (.int _), some (.int _), some (.int _)], [.int _], _)) rfl (u_ rfl) ?_
          refine w_t (pc := 51) (e_s := (4, 1, 3, 0, 0, .null, [])) (y_s := (52, [some (.ref _), some (.int _), some (.int _), some (.int _), some (.int _)], [], _)) rfl (u_ rfl) ?_
          exact t_s
    · replace t_s := t_s.2 c3_s
      exact t_s
  · replace t_s := t_s.2 c2_s
    refine w_t (pc := 122) (e_s := (0, 2, 0, 0, 0, .int (-2), [])) (y_s := (124, [some (.ref _), some (.int _), some (.int _), some (.int _), some (.int _)], [.int _], _)) rfl (u_ rfl) ?_
    exact wrI (pc := 124) (len_s := 1) rfl hk t_s
/-- ColdShodModel.firstFalse(II)I, from 52 on -/
theorem sg_204_52 {F_s : Nat} {x1_s x2_s x3 x4_s : Int32} {h_s : zH} {K_s : Int32 → zH → Prop} (hk : hKn h_s) (t_s : (x3.toInt = 0 → wF F_s 204 (83, [some (.ref 102), some (.int x1_s), some (.int x2_s), some (.int x3), some (.int x4_s)], [], h_s) (gI K_s)) ∧ (¬ x3.toInt = 0 → (zix (((60 * (x1_s / 10)) + x4_s) - 1) < 360 → wF F_s 183 (0, [some (.ref 102), some (.int ((h_s.2.2.1 126 (zix (((60 * (x1_s / 10)) + x4_s) - 1))).toInt32)), none], [], h_s) (gV (fun h3 => hKn h3 → wF F_s 204 (83, [some (.ref 102), some (.int x1_s), some (.int x2_s), some (.int (h3.2.1 102 23)), some (.int x4_s)], [], h3) (gI K_s)))))) : wF (F_s + 1) 204 (52, [some (.ref 102), some (.int x1_s), some (.int x2_s), some (.int x3), some (.int x4_s)], [], h_s) (gI K_s) := by
  refine w_0 (pc := 52) (e_s := (1, 1, 3, 0, 0, .null, [])) (y_s := (53, [some (.ref _), some (.int _), some (.int _), some (.int _), some (.int _)], [.int _], _)) rfl (u_ rfl) ?_
  refine wq0 (pc := 53) (len_s := 3) rfl rfl (fun c1_s => ?_) (fun c1_s => ?_)
  · replace t_s := t_s.1 c1_s
    exact t_s
  · replace t_s := t_s.2 c1_s
    refine w_t (pc := 56) (e_s := (3, 1, 0, 0, 0, .null, [])) (y_s := (57, [some (.ref _), some (.int _), some (.int _), some (.int _), some (.int _)], [.ref _], _)) rfl (u_ rfl) ?_
    refine w_t (pc := 57) (e_s := (3, 1, 0, 0, 0, .null, [])) (y_s := (58, [some (.ref _), some (.int _), some (.int _), some (.int _), some (.int _)], [.ref _, .ref _], _)) rfl (u_ rfl) ?_
    refine w20r (pc := 58) (len_s := 3) (q_s := 126) rfl (krq hk rfl) ?_
    refine w_t (pc := 61) (e_s := (0, 2, 0, 0, 0, .int 60, [])) (y_s := (63, [some (.ref _), some (.int _), some (.int _), some (.int _), some (.int _)], [.int _, .ref _, .ref _], _)) rfl (u_ rfl) ?_
    refine w_t (pc := 63) (e_s := (1, 1, 1, 0, 0, .null, [])) (y_s := (64, [some (.ref _), some (.int _), some (.int _), some (.int _), some (.int _)], [.int _, .int _, .ref _, .ref _], _)) rfl (u_ rfl) ?_
    refine w_t (pc := 64) (e_s := (0, 2, 0, 0, 0, .int 10, [])) (y_s := (66, [some (.ref _), some (.int _), some (.int _), some (.int _), some (.int _)], [.int _, .int _, .int _, .ref _, .ref _], _)) rfl (u_ rfl) ?_
    refine w8 (pc := 66) (len_s := 1) rfl ?_
    refine w_t (pc := 67) (e_s := (7, 1, 0, 2, 0, .null, [])) (y_s := (68, [some (.ref _), some (.int _), some (.int _), some (.int _), some (.int _)], [.int (_ * _), .ref _, .ref _], _)) rfl (u_ rfl) ?_
    refine w_t (pc := 68) (e_s := (1, 2, 4, 0, 0, .null, [])) (y_s := (70, [some (.ref _), some (.int _), some (.int _), some (.int _), some (.int _)], [.int _, .int _, .ref _, .ref _], _)) rfl (u_ rfl) ?_
    refine w_t (pc := 70) (e_s := (7, 1, 0, 0, 0, .null, [])) (y_s := (71, [some (.ref _), some (.int _), some (.int _), some (.int _), some (.int _)], [.int (_ + _), .ref _, .ref _], _)) rfl (u_ rfl) ?_
    refine w_t (pc := 71) (e_s := (0, 1, 0, 0, 0, .int 1, [])) (y_s := (72, [some (.ref _), some (.int _), some (.int _), some (.int _), some (.int _)], [.int _, .int _, .ref _, .ref _], _)) rfl (u_ rfl) ?_
    refine w_t (pc := 72) (e_s := (7, 1, 0, 1, 0, .null, [])) (y_s := (73, [some (.ref _), some (.int _), some (.int _), some (.int _), some (.int _)], [.int (_ - _), .ref _, .ref _], _)) rfl (u_ rfl) ?_
    refine w23 (pc := 73) (len_s := 1) rfl (hk.1 126 1 360 rfl rfl) (fun c2_s => ?_)
    replace t_s := t_s c2_s
    refine w_t (pc := 74) (e_s := (11, 1, 0, 0, 0, .null, [])) (y_s := (75, [some (.ref _), some (.int _), some (.int _), some (.int _), some (.int _)], [.int (Int64.toInt32 _), .ref _], _)) rfl (u_ rfl) ?_
    refine wcV (pc := 75) (len_s := 3) rfl rfl (l := [some (.ref _), some (.int _), none]) rfl (wmV t_s (fun h3 hk t_s => ?_))
    replace t_s := t_s hk
    refine w_t (pc := 78) (e_s := (3, 1, 0, 0, 0, .null, [])) (y_s := (79, [some (.ref _), some (.int _), some (.int _), some (.int _), some (.int _)], [.ref _], _)) rfl (u_ rfl) ?_
    refine w20 (pc := 79) (len_s := 3) rfl ?_
    refine w_t (pc := 82) (e_s := (4, 1, 3, 0, 0, .null, [])) (y_s := (83, [some (.ref _), some (.int _), some (.int _), some (.int _), some (.int _)], [], _)) rfl (u_ rfl) ?_
    exact t_s
/-- ColdShodModel.firstFalse(II)I, from 83 on -/
theorem sg_204_83 {F_s : Nat} {x1_s x2_s x3 x4_s : Int32} {h_s : zH} {K_s : Int32 → zH → Prop} (hk : hKn h_s) (t_s : (x3.toInt = 0 → K_s x4_s h_s) ∧ (¬ x3.toInt = 0 → (zix ((60 * (x1_s - x1_s / 10 * 10)) + x4_s) < 360 → ((h_s.2.2.1 126 (zix ((60 * (x1_s - x1_s / 10 * 10)) + x4_s))).toInt = (h_s.2.1 112 2).toInt → wF F_s 204 (10, [some (.ref 102), some (.int x1_s), some (.int x2_s), some (.int x3), some (.int (x4_s + 1))], [], h_s) (gI K_s)) ∧ (¬ (h_s.2.2.1 126 (zix ((60 * (x1_s - x1_s / 10 * 10)) + x4_s))).toInt = (h_s.2.1 112 2).toInt → K_s x4_s h_s)))) : wF (F_s + 1) 204 (83, [some (.ref 102), some (.int x1_s), some (.int x2_s), some (.int x3), some (.int x4_s)], [], h_s) (gI K_s) := by
  refine w_0 (pc := 83) (e_s := (1, 1, 3, 0, 0, .null, [])) (y_s := (84, [some (.ref _), some (.int _), some (.int _), some (.int _), some (.int _)], [.int _], _)) rfl (u_ rfl) ?_
  refine wq0 (pc := 84) (len_s := 3) rfl rfl (fun c1_s => ?_) (fun c1_s => ?_)
  · replace t_s := t_s.1 c1_s
    refine w_t (pc := 113) (e_s := (1, 2, 4, 0, 0, .null, [])) (y_s := (115, [some (.ref _), some (.int _), some (.int _), some (.int _), some (.int _)], [.int _], _)) rfl (u_ rfl) ?_
    exact wrI (pc := 115) (len_s := 1) rfl hk t_s
  · replace t_s := t_s.2 c1_s
    refine w_t (pc := 87) (e_s := (3, 1, 0, 0, 0, .null, [])) (y_s := (88, [some (.ref _), some (.int _), some (.int _), some (.int _), some (.int _)], [.ref _], _)) rfl (u_ rfl) ?_
    refine w20r (pc := 88) (len_s := 3) (q_s := 126) rfl (krq hk rfl) ?_
    refine w_t (pc := 91) (e_s := (0, 2, 0, 0, 0, .int 60, [])) (y_s := (93, [some (.ref _), some (.int _), some (.int _), some (.int _), some (.int _)], [.int _, .ref _], _)) rfl (u_ rfl) ?_
    refine w_t (pc := 93) (e_s := (1, 1, 1, 0, 0, .null, [])) (y_s := (94, [some (.ref _), some (.int _), some (.int _), some (.int _), some (.int _)], [.int _, .int _, .ref _], _)) rfl (u_ rfl) ?_
    refine w_t (pc := 94) (e_s := (0, 2, 0, 0, 0, .int 10, [])) (y_s := (96, [some (.ref _), some (.int _), some (.int _), some (.int _), some (.int _)], [.int _, .int _, .int _, .ref _], _)) rfl (u_ rfl) ?_
    refine w8m (pc := 96) (len_s := 1) rfl ?_
    refine w_t (pc := 97) (e_s := (7, 1, 0, 2, 0, .null, [])) (y_s := (98, [some (.ref _), some (.int _), some (.int _), some (.int _), some (.int _)], [.int (_ * _), .ref _], _)) rfl (u_ rfl) ?_
    refine w_t (pc := 98) (e_s := (1, 2, 4, 0, 0, .null, [])) (y_s := (100, [some (.ref _), some (.int _), some (.int _), some (.int _), some (.int _)], [.int _, .int _, .ref _], _)) rfl (u_ rfl) ?_
    refine w_t (pc := 100) (e_s := (7, 1, 0, 0, 0, .null, [])) (y_s := (101, [some (.ref _), some (.int _), some (.int _), some (.int _), some (.int _)], [.int (_ + _), .ref _], _)) rfl (u_ rfl) ?_
    refine w23 (pc := 101) (len_s := 1) rfl (hk.1 126 1 360 rfl rfl) (fun c2_s => ?_)
    replace t_s := t_s c2_s
    refine w_t (pc := 102) (e_s := (3, 1, 0, 0, 0, .null, [])) (y_s := (103, [some (.ref _), some (.int _), some (.int _), some (.int _), some (.int _)], [.ref _, .long _], _)) rfl (u_ rfl) ?_
    refine w20r (pc := 103) (len_s := 3) (q_s := 112) rfl (krq hk rfl) ?_
    refine w_t (pc := 106) (e_s := (0, 1, 0, 0, 0, .int 2, [])) (y_s := (107, [some (.ref _), some (.int _), some (.int _), some (.int _), some (.int _)], [.int _, .ref _, .long _], _)) rfl (u_ rfl) ?_
    refine w22 (pc := 107) (len_s := 1) rfl (hk.1 112 0 7 rfl rfl) (fun c3_s => ?_)
    refine w_t (pc := 108) (e_s := (10, 1, 0, 0, 0, .null, [])) (y_s := (109, [some (.ref _), some (.int _), some (.int _), some (.int _), some (.int _)], [.long (Int32.toInt64 _), .long _], _)) rfl (u_ rfl) ?_
    refine w_t (pc := 109) (e_s := (14, 1, 0, 0, 0, .null, [])) (y_s := (110, [some (.ref _), some (.int _), some (.int _), some (.int _), some (.int _)], [.int (lg_cmp _ _)], _)) rfl (u_ rfl) ?_
    refine wl0 (pc := 110) (len_s := 3) rfl rfl (Int32.toInt_toInt64 _) (fun c4_s => ?_) (fun c4_s => ?_)
    · replace t_s := t_s.1 c4_s
      refine w_t (pc := 116) (e_s := (19, 3, 4, 0, 0, .int 1, [])) (y_s := (119, [some (.ref _), some (.int _), some (.int _), some (.int _), some (.int _)], [], _)) rfl (u_ rfl) ?_
      refine w_t (pc := 119) (e_s := (17, 3, 10, 0, 0, .null, [])) (y_s := (10, [some (.ref _), some (.int _), some (.int _), some (.int _), some (.int _)], [], _)) rfl (u_ rfl) ?_
      exact t_s
    · replace t_s := t_s.2 c4_s
      refine w_t (pc := 113) (e_s := (1, 2, 4, 0, 0, .null, [])) (y_s := (115, [some (.ref _), some (.int _), some (.int _), some (.int _), some (.int _)], [.int _], _)) rfl (u_ rfl) ?_
      exact wrI (pc := 115) (len_s := 1) rfl hk t_s
/-- ColdShodModel.roadMany(I)I, from 0 on -/
theorem sg_187_0 {F_s : Nat} {x1_s : Int32} {h_s : zH} {K_s : Int32 → zH → Prop} (hk : hKn h_s) (t_s : wF F_s 187 (2, [some (.ref 102), some (.int x1_s), some (.int 0)], [], h_s) (gI K_s)) : wF (F_s + 1) 187 (0, [some (.ref 102), some (.int x1_s), none], [], h_s) (gI K_s) := by
  refine w_0 (pc := 0) (e_s := (0, 1, 0, 0, 0, .int 0, [])) (y_s := (1, [some (.ref _), some (.int _), none], [.int _], _)) rfl (u_ rfl) ?_
  refine w_t (pc := 1) (e_s := (4, 1, 2, 0, 0, .null, [])) (y_s := (2, [some (.ref _), some (.int _), some (.int _)], [], _)) rfl (u_ rfl) ?_
  exact t_s
/-- ColdShodModel.roadMany(I)I, from 2 on -/
theorem sg_187_2 {F_s : Nat} {x1_s x2_s : Int32} {h_s : zH} {K_s : Int32 → zH → Prop} (hk : hKn h_s) (t_s : (x2_s.toInt < 20 → (zix x1_s < 6 → (x2_s.toInt < (h_s.2.1 125 (zix x1_s)).toInt → (zix ((60 * x1_s) + x2_s) < 360 → ((h_s.2.2.1 126 (zix ((60 * x1_s) + x2_s))).toInt < 0 → K_s x2_s h_s) ∧ (¬ (h_s.2.2.1 126 (zix ((60 * x1_s) + x2_s))).toInt < 0 → ((((h_s.2.1 102 8) - 1).toInt < (h_s.2.2.1 126 (zix ((60 * x1_s) + x2_s))).toInt → K_s x2_s h_s) ∧ (¬ ((h_s.2.1 102 8) - 1).toInt < (h_s.2.2.1 126 (zix ((60 * x1_s) + x2_s))).toInt → wF F_s 187 (2, [some (.ref 102), some (.int x1_s), some (.int (x2_s + 1))], [], h_s) (gI K_s)))))) ∧ (¬ x2_s.toInt < (h_s.2.1 125 (zix x1_s)).toInt → K_s x2_s h_s))) ∧ (¬ x2_s.toInt < 20 → K_s x2_s h_s)) : wF (F_s + 1) 187 (2, [some (.ref 102), some (.int x1_s), some (.int x2_s)], [], h_s) (gI K_s) := by
  refine w_0 (pc := 2) (e_s := (1, 1, 2, 0, 0, .null, [])) (y_s := (3, [some (.ref _), some (.int _), some (.int _)], [.int _], _)) rfl (u_ rfl) ?_
  refine w_t (pc := 3) (e_s := (0, 2, 0, 0, 0, .int 20, [])) (y_s := (5, [some (.ref _), some (.int _), some (.int _)], [.int _, .int _], _)) rfl (u_ rfl) ?_
  refine wi3 (pc := 5) (len_s := 3) (Y := 20) rfl rfl (by decide) (fun c1_s => ?_) (fun c1_s => ?_)
  · replace t_s := t_s.1 c1_s
    refine w_t (pc := 8) (e_s := (1, 1, 2, 0, 0, .null, [])) (y_s := (9, [some (.ref _), some (.int _), some (.int _)], [.int _], _)) rfl (u_ rfl) ?_
    refine w_t (pc := 9) (e_s := (3, 1, 0, 0, 0, .null, [])) (y_s := (10, [some (.ref _), some (.int _), some (.int _)], [.ref _, .int _], _)) rfl (u_ rfl) ?_
    refine w20r (pc := 10) (len_s := 3) (q_s := 125) rfl (krq hk rfl) ?_
    refine w_t (pc := 13) (e_s := (1, 1, 1, 0, 0, .null, [])) (y_s := (14, [some (.ref _), some (.int _), some (.int _)], [.int _, .ref _, .int _], _)) rfl (u_ rfl) ?_
    refine w22 (pc := 14) (len_s := 1) rfl (hk.1 125 0 6 rfl rfl) (fun c2_s => ?_)
    replace t_s := t_s c2_s
    refine wi3 (pc := 15) (len_s := 3) rfl rfl rfl (fun c3_s => ?_) (fun c3_s => ?_)
    · replace t_s := t_s.1 c3_s
      refine w_t (pc := 18) (e_s := (3, 1, 0, 0, 0, .null, [])) (y_s := (19, [some (.ref _), some (.int _), some (.int _)], [.ref _], _)) rfl (u_ rfl) ?_
      refine w_t (pc := 19) (e_s := (3, 1, 0, 0, 0, .null, [])) (y_s := (20, [some (.ref _), some (.int _), some (.int _)], [.ref _, .ref _], _)) rfl (u_ rfl) ?_
      refine w20r (pc := 20) (len_s := 3) (q_s := 126) rfl (krq hk rfl) ?_
      refine w_t (pc := 23) (e_s := (0, 2, 0, 0, 0, .int 60, [])) (y_s := (25, [some (.ref _), some (.int _), some (.int _)], [.int _, .ref _, .ref _], _)) rfl (u_ rfl) ?_
      refine w_t (pc := 25) (e_s := (1, 1, 1, 0, 0, .null, [])) (y_s := (26, [some (.ref _), some (.int _), some (.int _)], [.int _, .int _, .ref _, .ref _], _)) rfl (u_ rfl) ?_
      refine w_t (pc := 26) (e_s := (7, 1, 0, 2, 0, .null, [])) (y_s := (27, [some (.ref _), some (.int _), some (.int _)], [.int (_ * _), .ref _, .ref _], _)) rfl (u_ rfl) ?_
      refine w_t (pc := 27) (e_s := (1, 1, 2, 0, 0, .null, [])) (y_s := (28, [some (.ref _), some (.int _), some (.int _)], [.int _, .int _, .ref _, .ref _], _)) rfl (u_ rfl) ?_
      refine w_t (pc := 28) (e_s := (7, 1, 0, 0, 0, .null, [])) (y_s := (29, [some (.ref _), some (.int _), some (.int _)], [.int (_ + _), .ref _, .ref _], _)) rfl (u_ rfl) ?_
      refine w23 (pc := 29) (len_s := 1) rfl (hk.1 126 1 360 rfl rfl) (fun c4_s => ?_)
      replace t_s := t_s c4_s
      refine wcI (pc := 30) (len_s := 3) rfl rfl (l := [some (.ref _), some (.long _), none]) rfl ?_
      refine w_t (pc := 0) (e_s := (2, 1, 1, 0, 0, .null, [])) (y_s := (1, [some (.ref _), some (.long _), none], [.long _], _)) rfl (u_ rfl) ?_
      refine w_t (pc := 1) (e_s := (0, 1, 0, 0, 0, .long 0, [])) (y_s := (2, [some (.ref _), some (.long _), none], [.long _, .long _], _)) rfl (u_ rfl) ?_
      refine w_t (pc := 2) (e_s := (3, 1, 0, 0, 0, .null, [])) (y_s := (3, [some (.ref _), some (.long _), none], [.ref _, .long _, .long _], _)) rfl (u_ rfl) ?_
      refine w20 (pc := 3) (len_s := 3) rfl ?_
      refine w_t (pc := 6) (e_s := (0, 1, 0, 0, 0, .int 1, [])) (y_s := (7, [some (.ref _), some (.long _), none], [.int _, .int _, .long _, .long _], _)) rfl (u_ rfl) ?_
      refine w_t (pc := 7) (e_s := (7, 1, 0, 1, 0, .null, [])) (y_s := (8, [some (.ref _), some (.long _), none], [.int (_ - _), .long _, .long _], _)) rfl (u_ rfl) ?_
      refine w_t (pc := 8) (e_s := (10, 1, 0, 0, 0, .null, [])) (y_s := (9, [some (.ref _), some (.long _), none], [.long (Int32.toInt64 _), .long _, .long _], _)) rfl (u_ rfl) ?_
      refine wcI (pc := 9) (len_s := 3) rfl rfl (l := [some (.long _), none, some (.long _), none, some (.long _), none]) rfl ?_
      refine w_t (pc := 0) (e_s := (2, 1, 0, 0, 0, .null, [])) (y_s := (1, [some (.long _), none, some (.long _), none, some (.long _), none], [.long _], _)) rfl (u_ rfl) ?_
      refine w_t (pc := 1) (e_s := (2, 1, 2, 0, 0, .null, [])) (y_s := (2, [some (.long _), none, some (.long _), none, some (.long _), none], [.long _, .long _], _)) rfl (u_ rfl) ?_
      refine w_t (pc := 2) (e_s := (14, 1, 0, 0, 0, .null, [])) (y_s := (3, [some (.long _), none, some (.long _), none, some (.long _), none], [.int (lg_cmp _ _)], _)) rfl (u_ rfl) ?_
      refine wl2 (pc := 3) (len_s := 3) (Y := 0) rfl rfl (by decide) (fun c5_s => ?_) (fun c5_s => ?_)
      · replace t_s := t_s.1 c5_s
        refine w_t (pc := 17) (e_s := (0, 1, 0, 0, 0, .int 0, [])) (y_s := (18, [some (.long _), none, some (.long _), none, some (.long _), none], [.int _], _)) rfl (u_ rfl) ?_
        refine wrI (pc := 18) (len_s := 1) rfl hk ?_
        show wF _ 153 (12, [some (.ref _), some (.long _), none], [.int _], _) _
        refine wrI (pc := 12) (len_s := 1) rfl hk ?_
        show wF _ 187 (33, [some (.ref _), some (.int _), some (.int _)], [.int _], _) _
        refine w_t (pc := 33) (e_s := (15, 3, 42, 0, 0, .null, [])) (y_s := (42, [some (.ref _), some (.int _), some (.int _)], [], _)) rfl (u_ rfl) ?_
        refine w_t (pc := 42) (e_s := (1, 1, 2, 0, 0, .null, [])) (y_s := (43, [some (.ref _), some (.int _), some (.int _)], [.int _], _)) rfl (u_ rfl) ?_
        exact wrI (pc := 43) (len_s := 1) rfl hk t_s
      · replace t_s := t_s.2 c5_s
        refine w_t (pc := 6) (e_s := (2, 1, 0, 0, 0, .null, [])) (y_s := (7, [some (.long _), none, some (.long _), none, some (.long _), none], [.long _], _)) rfl (u_ rfl) ?_
        refine w_t (pc := 7) (e_s := (2, 2, 4, 0, 0, .null, [])) (y_s := (9, [some (.long _), none, some (.long _), none, some (.long _), none], [.long _, .long _], _)) rfl (u_ rfl) ?_
        refine w_t (pc := 9) (e_s := (14, 1, 0, 0, 0, .null, [])) (y_s := (10, [some (.long _), none, some (.long _), none, some (.long _), none], [.int (lg_cmp _ _)], _)) rfl (u_ rfl) ?_
        refine wl4 (pc := 10) (len_s := 3) rfl rfl (Int32.toInt_toInt64 _) (fun c6_s => ?_) (fun c6_s => ?_)
        · replace t_s := t_s.1 c6_s
          refine w_t (pc := 17) (e_s := (0, 1, 0, 0, 0, .int 0, [])) (y_s := (18, [some (.long _), none, some (.long _), none, some (.long _), none], [.int _], _)) rfl (u_ rfl) ?_
          refine wrI (pc := 18) (len_s := 1) rfl hk ?_
          show wF _ 153 (12, [some (.ref _), some (.long _), none], [.int _], _) _
          refine wrI (pc := 12) (len_s := 1) rfl hk ?_
          show wF _ 187 (33, [some (.ref _), some (.int _), some (.int _)], [.int _], _) _
          refine w_t (pc := 33) (e_s := (15, 3, 42, 0, 0, .null, [])) (y_s := (42, [some (.ref _), some (.int _), some (.int _)], [], _)) rfl (u_ rfl) ?_
          refine w_t (pc := 42) (e_s := (1, 1, 2, 0, 0, .null, [])) (y_s := (43, [some (.ref _), some (.int _), some (.int _)], [.int _], _)) rfl (u_ rfl) ?_
          exact wrI (pc := 43) (len_s := 1) rfl hk t_s
        · replace t_s := t_s.2 c6_s
          refine w_t (pc := 13) (e_s := (0, 1, 0, 0, 0, .int 1, [])) (y_s := (14, [some (.long _), none, some (.long _), none, some (.long _), none], [.int _], _)) rfl (u_ rfl) ?_
          refine w_t (pc := 14) (e_s := (17, 3, 18, 0, 0, .null, [])) (y_s := (18, [some (.long _), none, some (.long _), none, some (.long _), none], [.int _], _)) rfl (u_ rfl) ?_
          refine wrI (pc := 18) (len_s := 1) rfl hk ?_
          show wF _ 153 (12, [some (.ref _), some (.long _), none], [.int _], _) _
          refine wrI (pc := 12) (len_s := 1) rfl hk ?_
          show wF _ 187 (33, [some (.ref _), some (.int _), some (.int _)], [.int _], _) _
          refine w_t (pc := 33) (e_s := (15, 3, 42, 0, 0, .null, [])) (y_s := (36, [some (.ref _), some (.int _), some (.int _)], [], _)) rfl (u_ rfl) ?_
          refine w_t (pc := 36) (e_s := (19, 3, 2, 0, 0, .int 1, [])) (y_s := (39, [some (.ref _), some (.int _), some (.int _)], [], _)) rfl (u_ rfl) ?_
          refine w_t (pc := 39) (e_s := (17, 3, 2, 0, 0, .null, [])) (y_s := (2, [some (.ref _), some (.int _), some (.int _)], [], _)) rfl (u_ rfl) ?_
          exact t_s
    · replace t_s := t_s.2 c3_s
      refine w_t (pc := 42) (e_s := (1, 1, 2, 0, 0, .null, [])) (y_s := (43, [some (.ref _), some (.int _), some (.int _)], [.int _], _)) rfl (u_ rfl) ?_
      exact wrI (pc := 43) (len_s := 1) rfl hk t_s
  · replace t_s := t_s.2 c1_s
    refine w_t (pc := 42) (e_s := (1, 1, 2, 0, 0, .null, [])) (y_s := (43, [some (.ref _), some (.int _), some (.int _)], [.int _], _)) rfl (u_ rfl) ?_
    exact wrI (pc := 43) (len_s := 1) rfl hk t_s
/-- ColdShodModel.rowsAre(I)I, from 0 on -/
theorem sg_203_0 {F_s : Nat} {x1_s : Int32} {h_s : zH} {K_s : Int32 → zH → Prop} (hk : hKn h_s) (t_s : (x1_s.toInt < 0 → K_s (-1) h_s) ∧ (¬ x1_s.toInt < 0 → (((x1_s / 10).toInt < 0 → K_s (-1) h_s) ∧ (¬ (x1_s / 10).toInt < 0 → ((5 < (x1_s / 10).toInt → K_s (-1) h_s) ∧ (¬ 5 < (x1_s / 10).toInt → (((x1_s - x1_s / 10 * 10).toInt < 0 → K_s (-1) h_s) ∧ (¬ (x1_s - x1_s / 10 * 10).toInt < 0 → ((5 < (x1_s - x1_s / 10 * 10).toInt → K_s (-1) h_s) ∧ (¬ 5 < (x1_s - x1_s / 10 * 10).toInt → (zix (x1_s / 10) < 6 → ((h_s.2.1 124 (zix (x1_s / 10))).toInt < 0 → K_s (-11) h_s) ∧ (¬ (h_s.2.1 124 (zix (x1_s / 10))).toInt < 0 → (((h_s.2.1 124 (zix (x1_s / 10))).toInt = 50 → (zix (x1_s - x1_s / 10 * 10) < 6 → ((h_s.2.1 124 (zix (x1_s - x1_s / 10 * 10))).toInt < 0 → K_s (-11) h_s) ∧ (¬ (h_s.2.1 124 (zix (x1_s - x1_s / 10 * 10))).toInt < 0 → (((h_s.2.1 124 (zix (x1_s - x1_s / 10 * 10))).toInt = 50 → K_s 1 h_s) ∧ (¬ (h_s.2.1 124 (zix (x1_s - x1_s / 10 * 10))).toInt = 50 → K_s (-12) h_s))))) ∧ (¬ (h_s.2.1 124 (zix (x1_s / 10))).toInt = 50 → K_s (-12) h_s)))))))))))))) : wF (F_s + 1) 203 (0, [some (.ref 102), some (.int x1_s)], [], h_s) (gI K_s) := by
  refine w_0 (pc := 0) (e_s := (1, 1, 1, 0, 0, .null, [])) (y_s := (1, [some (.ref _), some (.int _)], [.int _], _)) rfl (u_ rfl) ?_
  refine wq2 (pc := 1) (len_s := 3) rfl rfl (fun c1_s => ?_) (fun c1_s => ?_)
  · replace t_s := t_s.1 c1_s
    refine w_t (pc := 24) (e_s := (0, 1, 0, 0, 0, .int (-1), [])) (y_s := (25, [some (.ref _), some (.int _)], [.int _], _)) rfl (u_ rfl) ?_
    exact wrI (pc := 25) (len_s := 1) rfl hk t_s
  · replace t_s := t_s.2 c1_s
    refine w_t (pc := 4) (e_s := (1, 1, 1, 0, 0, .null, [])) (y_s := (5, [some (.ref _), some (.int _)], [.int _], _)) rfl (u_ rfl) ?_
    refine w_t (pc := 5) (e_s := (0, 2, 0, 0, 0, .int 10, [])) (y_s := (7, [some (.ref _), some (.int _)], [.int _, .int _], _)) rfl (u_ rfl) ?_
    refine w8 (pc := 7) (len_s := 1) rfl ?_
    refine wcI (pc := 8) (len_s := 3) rfl rfl (l := [some (.int _)]) rfl ?_
    refine w_t (pc := 0) (e_s := (1, 1, 0, 0, 0, .null, [])) (y_s := (1, [some (.int _)], [.int _], _)) rfl (u_ rfl) ?_
    refine w_t (pc := 1) (e_s := (10, 1, 0, 0, 0, .null, [])) (y_s := (2, [some (.int _)], [.long (Int32.toInt64 _)], _)) rfl (u_ rfl) ?_
    refine w_t (pc := 2) (e_s := (0, 1, 0, 0, 0, .long 0, [])) (y_s := (3, [some (.int _)], [.long _, .long _], _)) rfl (u_ rfl) ?_
    refine w_t (pc := 3) (e_s := (0, 3, 0, 0, 0, .long 5, [(0, 1063)])) (y_s := (6, [some (.int _)], [.long _, .long _, .long _], _)) rfl (u_ rfl) ?_
    refine wcI (pc := 6) (len_s := 3) rfl rfl (l := [some (.long _), none, some (.long _), none, some (.long _), none]) rfl ?_
    refine w_t (pc := 0) (e_s := (2, 1, 0, 0, 0, .null, [])) (y_s := (1, [some (.long _), none, some (.long _), none, some (.long _), none], [.long _], _)) rfl (u_ rfl) ?_
    refine w_t (pc := 1) (e_s := (2, 1, 2, 0, 0, .null, [])) (y_s := (2, [some (.long _), none, some (.long _), none, some (.long _), none], [.long _, .long _], _)) rfl (u_ rfl) ?_
    refine w_t (pc := 2) (e_s := (14, 1, 0, 0, 0, .null, [])) (y_s := (3, [some (.long _), none, some (.long _), none, some (.long _), none], [.int (lg_cmp _ _)], _)) rfl (u_ rfl) ?_
    refine wl2 (pc := 3) (len_s := 3) (Y := 0) rfl (Int32.toInt_toInt64 _) (by decide) (fun c2_s => ?_) (fun c2_s => ?_)
    · replace t_s := t_s.1 c2_s
      refine w_t (pc := 17) (e_s := (0, 1, 0, 0, 0, .int 0, [])) (y_s := (18, [some (.long _), none, some (.long _), none, some (.long _), none], [.int _], _)) rfl (u_ rfl) ?_
      refine wrI (pc := 18) (len_s := 1) rfl hk ?_
      show wF _ 228 (9, [some (.int _)], [.int _], _) _
      refine wrI (pc := 9) (len_s := 1) rfl hk ?_
      show wF _ 203 (11, [some (.ref _), some (.int _)], [.int _], _) _
      refine w_t (pc := 11) (e_s := (15, 3, 24, 0, 0, .null, [])) (y_s := (24, [some (.ref _), some (.int _)], [], _)) rfl (u_ rfl) ?_
      refine w_t (pc := 24) (e_s := (0, 1, 0, 0, 0, .int (-1), [])) (y_s := (25, [some (.ref _), some (.int _)], [.int _], _)) rfl (u_ rfl) ?_
      exact wrI (pc := 25) (len_s := 1) rfl hk t_s
    · replace t_s := t_s.2 c2_s
      refine w_t (pc := 6) (e_s := (2, 1, 0, 0, 0, .null, [])) (y_s := (7, [some (.long _), none, some (.long _), none, some (.long _), none], [.long _], _)) rfl (u_ rfl) ?_
      refine w_t (pc := 7) (e_s := (2, 2, 4, 0, 0, .null, [])) (y_s := (9, [some (.long _), none, some (.long _), none, some (.long _), none], [.long _, .long _], _)) rfl (u_ rfl) ?_
      refine w_t (pc := 9) (e_s := (14, 1, 0, 0, 0, .null, [])) (y_s := (10, [some (.long _), none, some (.long _), none, some (.long _), none], [.int (lg_cmp _ _)], _)) rfl (u_ rfl) ?_
      refine wl4 (pc := 10) (len_s := 3) (Y := 5) rfl (Int32.toInt_toInt64 _) (by decide) (fun c3_s => ?_) (fun c3_s => ?_)
      · replace t_s := t_s.1 c3_s
        refine w_t (pc := 17) (e_s := (0, 1, 0, 0, 0, .int 0, [])) (y_s := (18, [some (.long _), none, some (.long _), none, some (.long _), none], [.int _], _)) rfl (u_ rfl) ?_
        refine wrI (pc := 18) (len_s := 1) rfl hk ?_
        show wF _ 228 (9, [some (.int _)], [.int _], _) _
        refine wrI (pc := 9) (len_s := 1) rfl hk ?_
        show wF _ 203 (11, [some (.ref _), some (.int _)], [.int _], _) _
        refine w_t (pc := 11) (e_s := (15, 3, 24, 0, 0, .null, [])) (y_s := (24, [some (.ref _), some (.int _)], [], _)) rfl (u_ rfl) ?_
        refine w_t (pc := 24) (e_s := (0, 1, 0, 0, 0, .int (-1), [])) (y_s := (25, [some (.ref _), some (.int _)], [.int _], _)) rfl (u_ rfl) ?_
        exact wrI (pc := 25) (len_s := 1) rfl hk t_s
      · replace t_s := t_s.2 c3_s
        refine w_t (pc := 13) (e_s := (0, 1, 0, 0, 0, .int 1, [])) (y_s := (14, [some (.long _), none, some (.long _), none, some (.long _), none], [.int _], _)) rfl (u_ rfl) ?_
        refine w_t (pc := 14) (e_s := (17, 3, 18, 0, 0, .null, [])) (y_s := (18, [some (.long _), none, some (.long _), none, some (.long _), none], [.int _], _)) rfl (u_ rfl) ?_
        refine wrI (pc := 18) (len_s := 1) rfl hk ?_
        show wF _ 228 (9, [some (.int _)], [.int _], _) _
        refine wrI (pc := 9) (len_s := 1) rfl hk ?_
        show wF _ 203 (11, [some (.ref _), some (.int _)], [.int _], _) _
        refine w_t (pc := 11) (e_s := (15, 3, 24, 0, 0, .null, [])) (y_s := (14, [some (.ref _), some (.int _)], [], _)) rfl (u_ rfl) ?_
        refine w_t (pc := 14) (e_s := (1, 1, 1, 0, 0, .null, [])) (y_s := (15, [some (.ref _), some (.int _)], [.int _], _)) rfl (u_ rfl) ?_
        refine w_t (pc := 15) (e_s := (0, 2, 0, 0, 0, .int 10, [])) (y_s := (17, [some (.ref _), some (.int _)], [.int _, .int _], _)) rfl (u_ rfl) ?_
        refine w8m (pc := 17) (len_s := 1) rfl ?_
        refine wcI (pc := 18) (len_s := 3) rfl rfl (l := [some (.int _)]) rfl ?_
        refine w_t (pc := 0) (e_s := (1, 1, 0, 0, 0, .null, [])) (y_s := (1, [some (.int _)], [.int _], _)) rfl (u_ rfl) ?_
        refine w_t (pc := 1) (e_s := (10, 1, 0, 0, 0, .null, [])) (y_s := (2, [some (.int _)], [.long (Int32.toInt64 _)], _)) rfl (u_ rfl) ?_
        refine w_t (pc := 2) (e_s := (0, 1, 0, 0, 0, .long 0, [])) (y_s := (3, [some (.int _)], [.long _, .long _], _)) rfl (u_ rfl) ?_
        refine w_t (pc := 3) (e_s := (0, 3, 0, 0, 0, .long 5, [(0, 1063)])) (y_s := (6, [some (.int _)], [.long _, .long _, .long _], _)) rfl (u_ rfl) ?_
        refine wcI (pc := 6) (len_s := 3) rfl rfl (l := [some (.long _), none, some (.long _), none, some (.long _), none]) rfl ?_
        refine w_t (pc := 0) (e_s := (2, 1, 0, 0, 0, .null, [])) (y_s := (1, [some (.long _), none, some (.long _), none, some (.long _), none], [.long _], _)) rfl (u_ rfl) ?_
        refine w_t (pc := 1) (e_s := (2, 1, 2, 0, 0, .null, [])) (y_s := (2, [some (.long _), none, some (.long _), none, some (.long _), none], [.long _, .long _], _)) rfl (u_ rfl) ?_
        refine w_t (pc := 2) (e_s := (14, 1, 0, 0, 0, .null, [])) (y_s := (3, [some (.long _), none, some (.long _), none, some (.long _), none], [.int (lg_cmp _ _)], _)) rfl (u_ rfl) ?_
        refine wl2 (pc := 3) (len_s := 3) (Y := 0) rfl (Int32.toInt_toInt64 _) (by decide) (fun c4_s => ?_) (fun c4_s => ?_)
        · replace t_s := t_s.1 c4_s
          refine w_t (pc := 17) (e_s := (0, 1, 0, 0, 0, .int 0, [])) (y_s := (18, [some (.long _), none, some (.long _), none, some (.long _), none], [.int _], _)) rfl (u_ rfl) ?_
          refine wrI (pc := 18) (len_s := 1) rfl hk ?_
          show wF _ 228 (9, [some (.int _)], [.int _], _) _
          refine wrI (pc := 9) (len_s := 1) rfl hk ?_
          show wF _ 203 (21, [some (.ref _), some (.int _)], [.int _], _) _
          refine w_t (pc := 21) (e_s := (15, 3, 26, 1, 0, .null, [])) (y_s := (24, [some (.ref _), some (.int _)], [], _)) rfl (u_ rfl) ?_
          refine w_t (pc := 24) (e_s := (0, 1, 0, 0, 0, .int (-1), [])) (y_s := (25, [some (.ref _), some (.int _)], [.int _], _)) rfl (u_ rfl) ?_
          exact wrI (pc := 25) (len_s := 1) rfl hk t_s
        · replace t_s := t_s.2 c4_s
          refine w_t (pc := 6) (e_s := (2, 1, 0, 0, 0, .null, [])) (y_s := (7, [some (.long _), none, some (.long _), none, some (.long _), none], [.long _], _)) rfl (u_ rfl) ?_
          refine w_t (pc := 7) (e_s := (2, 2, 4, 0, 0, .null, [])) (y_s := (9, [some (.long _), none, some (.long _), none, some (.long _), none], [.long _, .long _], _)) rfl (u_ rfl) ?_
          refine w_t (pc := 9) (e_s := (14, 1, 0, 0, 0, .null, [])) (y_s := (10, [some (.long _), none, some (.long _), none, some (.long _), none], [.int (lg_cmp _ _)], _)) rfl (u_ rfl) ?_
          refine wl4 (pc := 10) (len_s := 3) (Y := 5) rfl (Int32.toInt_toInt64 _) (by decide) (fun c5_s => ?_) (fun c5_s => ?_)
          · replace t_s := t_s.1 c5_s
            refine w_t (pc := 17) (e_s := (0, 1, 0, 0, 0, .int 0, [])) (y_s := (18, [some (.long _), none, some (.long _), none, some (.long _), none], [.int _], _)) rfl (u_ rfl) ?_
            refine wrI (pc := 18) (len_s := 1) rfl hk ?_
            show wF _ 228 (9, [some (.int _)], [.int _], _) _
            refine wrI (pc := 9) (len_s := 1) rfl hk ?_
            show wF _ 203 (21, [some (.ref _), some (.int _)], [.int _], _) _
            refine w_t (pc := 21) (e_s := (15, 3, 26, 1, 0, .null, [])) (y_s := (24, [some (.ref _), some (.int _)], [], _)) rfl (u_ rfl) ?_
            refine w_t (pc := 24) (e_s := (0, 1, 0, 0, 0, .int (-1), [])) (y_s := (25, [some (.ref _), some (.int _)], [.int _], _)) rfl (u_ rfl) ?_
            exact wrI (pc := 25) (len_s := 1) rfl hk t_s
          · replace t_s := t_s.2 c5_s
            refine w_t (pc := 13) (e_s := (0, 1, 0, 0, 0, .int 1, [])) (y_s := (14, [some (.long _), none, some (.long _), none, some (.long _), none], [.int _], _)) rfl (u_ rfl) ?_
            refine w_t (pc := 14) (e_s := (17, 3, 18, 0, 0, .null, [])) (y_s := (18, [some (.long _), none, some (.long _), none, some (.long _), none], [.int _], _)) rfl (u_ rfl) ?_
            refine wrI (pc := 18) (len_s := 1) rfl hk ?_
            show wF _ 228 (9, [some (.int _)], [.int _], _) _
            refine wrI (pc := 9) (len_s := 1) rfl hk ?_
            show wF _ 203 (21, [some (.ref _), some (.int _)], [.int _], _) _
            refine w_t (pc := 21) (e_s := (15, 3, 26, 1, 0, .null, [])) (y_s := (26, [some (.ref _), some (.int _)], [], _)) rfl (u_ rfl) ?_
            refine w_t (pc := 26) (e_s := (3, 1, 0, 0, 0, .null, [])) (y_s := (27, [some (.ref _), some (.int _)], [.ref _], _)) rfl (u_ rfl) ?_
            refine w_t (pc := 27) (e_s := (1, 1, 1, 0, 0, .null, [])) (y_s := (28, [some (.ref _), some (.int _)], [.int _, .ref _], _)) rfl (u_ rfl) ?_
            refine w_t (pc := 28) (e_s := (0, 2, 0, 0, 0, .int 10, [])) (y_s := (30, [some (.ref _), some (.int _)], [.int _, .int _, .ref _], _)) rfl (u_ rfl) ?_
            refine w8 (pc := 30) (len_s := 1) rfl ?_
            refine wcI (pc := 31) (len_s := 3) rfl rfl (l := [some (.ref _), some (.int _)]) rfl ?_
            refine w_t (pc := 0) (e_s := (1, 1, 1, 0, 0, .null, [])) (y_s := (1, [some (.ref _), some (.int _)], [.int _], _)) rfl (u_ rfl) ?_
            refine wcI (pc := 1) (len_s := 3) rfl rfl (l := [some (.int _)]) rfl ?_
            refine w_t (pc := 0) (e_s := (1, 1, 0, 0, 0, .null, [])) (y_s := (1, [some (.int _)], [.int _], _)) rfl (u_ rfl) ?_
            refine w_t (pc := 1) (e_s := (10, 1, 0, 0, 0, .null, [])) (y_s := (2, [some (.int _)], [.long (Int32.toInt64 _)], _)) rfl (u_ rfl) ?_
            refine w_t (pc := 2) (e_s := (0, 1, 0, 0, 0, .long 0, [])) (y_s := (3, [some (.int _)], [.long _, .long _], _)) rfl (u_ rfl) ?_
            refine w_t (pc := 3) (e_s := (0, 3, 0, 0, 0, .long 5, [(0, 1063)])) (y_s := (6, [some (.int _)], [.long _, .long _, .long _], _)) rfl (u_ rfl) ?_
            refine wcI (pc := 6) (len_s := 3) rfl rfl (l := [some (.long _), none, some (.long _), none, some (.long _), none]) rfl ?_
            refine w_t (pc := 0) (e_s := (2, 1, 0, 0, 0, .null, [])) (y_s := (1, [some (.long _), none, some (.long _), none, some (.long _), none], [.long _], _)) rfl (u_ rfl) ?_
            refine w_t (pc := 1) (e_s := (2, 1, 2, 0, 0, .null, [])) (y_s := (2, [some (.long _), none, some (.long _), none, some (.long _), none], [.long _, .long _], _)) rfl (u_ rfl) ?_
            refine w_t (pc := 2) (e_s := (14, 1, 0, 0, 0, .null, [])) (y_s := (3, [some (.long _), none, some (.long _), none, some (.long _), none], [.int (lg_cmp _ _)], _)) rfl (u_ rfl) ?_
            refine wl2 (pc := 3) (len_s := 3) (Y := 0) rfl (Int32.toInt_toInt64 _) (by decide) (fun c6_s => ?_) (fun c6_s => ?_)
            · exact absurd c6_s c2_s
            · skip
              refine w_t (pc := 6) (e_s := (2, 1, 0, 0, 0, .null, [])) (y_s := (7, [some (.long _), none, some (.long _), none, some (.long _), none], [.long _], _)) rfl (u_ rfl) ?_
              refine w_t (pc := 7) (e_s := (2, 2, 4, 0, 0, .null, [])) (y_s := (9, [some (.long _), none, some (.long _), none, some (.long _), none], [.long _, .long _], _)) rfl (u_ rfl) ?_
              refine w_t (pc := 9) (e_s := (14, 1, 0, 0, 0, .null, [])) (y_s := (10, [some (.long _), none, some (.long _), none, some (.long _), none], [.int (lg_cmp _ _)], _)) rfl (u_ rfl) ?_
              refine wl4 (pc := 10) (len_s := 3) (Y := 5) rfl (Int32.toInt_toInt64 _) (by decide) (fun c7_s => ?_) (fun c7_s => ?_)
              · exact absurd c7_s c3_s
              · skip
                refine w_t (pc := 13) (e_s := (0, 1, 0, 0, 0, .int 1, [])) (y_s := (14, [some (.long _), none, some (.long _), none, some (.long _), none], [.int _], _)) rfl (u_ rfl) ?_
                refine w_t (pc := 14) (e_s := (17, 3, 18, 0, 0, .null, [])) (y_s := (18, [some (.long _), none, some (.long _), none, some (.long _), none], [.int _], _)) rfl (u_ rfl) ?_
                refine wrI (pc := 18) (len_s := 1) rfl hk ?_
                show wF _ 228 (9, [some (.int _)], [.int _], _) _
                refine wrI (pc := 9) (len_s := 1) rfl hk ?_
                show wF _ 186 (4, [some (.ref _), some (.int _)], [.int _], _) _
                refine w_t (pc := 4) (e_s := (15, 3, 11, 1, 0, .null, [])) (y_s := (11, [some (.ref _), some (.int _)], [], _)) rfl (u_ rfl) ?_
                refine w_t (pc := 11) (e_s := (3, 1, 0, 0, 0, .null, [])) (y_s := (12, [some (.ref _), some (.int _)], [.ref _], _)) rfl (u_ rfl) ?_
                refine w20r (pc := 12) (len_s := 3) (q_s := 124) rfl (krq hk rfl) ?_
                refine w_t (pc := 15) (e_s := (1, 1, 1, 0, 0, .null, [])) (y_s := (16, [some (.ref _), some (.int _)], [.int _, .ref _], _)) rfl (u_ rfl) ?_
                refine w22 (pc := 16) (len_s := 1) rfl (hk.1 124 0 6 rfl rfl) (fun c8_s => ?_)
                replace t_s := t_s c8_s
                refine wq3 (pc := 17) (len_s := 3) rfl rfl (fun c9_s => ?_) (fun c9_s => ?_)
                · replace t_s := t_s.1 c9_s
                  refine w_t (pc := 20) (e_s := (0, 2, 0, 0, 0, .int (-11), [])) (y_s := (22, [some (.ref _), some (.int _)], [.int _], _)) rfl (u_ rfl) ?_
                  refine w_t (pc := 22) (e_s := (17, 3, 42, 0, 0, .null, [])) (y_s := (42, [some (.ref _), some (.int _)], [.int _], _)) rfl (u_ rfl) ?_
                  refine wrI (pc := 42) (len_s := 1) rfl hk ?_
                  show wF _ 203 (34, [some (.ref _), some (.int _)], [.int _], _) _
                  refine w_t (pc := 34) (e_s := (15, 3, 48, 3, 0, .null, [])) (y_s := (37, [some (.ref _), some (.int _)], [], _)) rfl (u_ rfl) ?_
                  refine w_t (pc := 37) (e_s := (3, 1, 0, 0, 0, .null, [])) (y_s := (38, [some (.ref _), some (.int _)], [.ref _], _)) rfl (u_ rfl) ?_
                  refine w_t (pc := 38) (e_s := (1, 1, 1, 0, 0, .null, [])) (y_s := (39, [some (.ref _), some (.int _)], [.int _, .ref _], _)) rfl (u_ rfl) ?_
                  refine w_t (pc := 39) (e_s := (0, 2, 0, 0, 0, .int 10, [])) (y_s := (41, [some (.ref _), some (.int _)], [.int _, .int _, .ref _], _)) rfl (u_ rfl) ?_
                  refine w8 (pc := 41) (len_s := 1) rfl ?_
                  refine wcI (pc := 42) (len_s := 3) rfl rfl (l := [some (.ref _), some (.int _)]) rfl ?_
                  refine w_t (pc := 0) (e_s := (1, 1, 1, 0, 0, .null, [])) (y_s := (1, [some (.ref _), some (.int _)], [.int _], _)) rfl (u_ rfl) ?_
                  refine wcI (pc := 1) (len_s := 3) rfl rfl (l := [some (.int _)]) rfl ?_
                  refine w_t (pc := 0) (e_s := (1, 1, 0, 0, 0, .null, [])) (y_s := (1, [some (.int _)], [.int _], _)) rfl (u_ rfl) ?_
                  refine w_t (pc := 1) (e_s := (10, 1, 0, 0, 0, .null, [])) (y_s := (2, [some (.int _)], [.long (Int32.toInt64 _)], _)) rfl (u_ rfl) ?_
                  refine w_t (pc := 2) (e_s := (0, 1, 0, 0, 0, .long 0, [])) (y_s := (3, [some (.int _)], [.long _, .long _], _)) rfl (u_ rfl) ?_
                  refine w_t (pc := 3) (e_s := (0, 3, 0, 0, 0, .long 5, [(0, 1063)])) (y_s := (6, [some (.int _)], [.long _, .long _, .long _], _)) rfl (u_ rfl) ?_
                  refine wcI (pc := 6) (len_s := 3) rfl rfl (l := [some (.long _), none, some (.long _), none, some (.long _), none]) rfl ?_
                  refine w_t (pc := 0) (e_s := (2, 1, 0, 0, 0, .null, [])) (y_s := (1, [some (.long _), none, some (.long _), none, some (.long _), none], [.long _], _)) rfl (u_ rfl) ?_
                  refine w_t (pc := 1) (e_s := (2, 1, 2, 0, 0, .null, [])) (y_s := (2, [some (.long _), none, some (.long _), none, some (.long _), none], [.long _, .long _], _)) rfl (u_ rfl) ?_
                  refine w_t (pc := 2) (e_s := (14, 1, 0, 0, 0, .null, [])) (y_s := (3, [some (.long _), none, some (.long _), none, some (.long _), none], [.int (lg_cmp _ _)], _)) rfl (u_ rfl) ?_
                  refine wl2 (pc := 3) (len_s := 3) (Y := 0) rfl (Int32.toInt_toInt64 _) (by decide) (fun c10_s => ?_) (fun c10_s => ?_)
                  · exact absurd c10_s c2_s
                  · skip
                    refine w_t (pc := 6) (e_s := (2, 1, 0, 0, 0, .null, [])) (y_s := (7, [some (.long _), none, some (.long _), none, some (.long _), none], [.long _], _)) rfl (u_ rfl) ?_
                    refine w_t (pc := 7) (e_s := (2, 2, 4, 0, 0, .null, [])) (y_s := (9, [some (.long _), none, some (.long _), none, some (.long _), none], [.long _, .long _], _)) rfl (u_ rfl) ?_
                    refine w_t (pc := 9) (e_s := (14, 1, 0, 0, 0, .null, [])) (y_s := (10, [some (.long _), none, some (.long _), none, some (.long _), none], [.int (lg_cmp _ _)], _)) rfl (u_ rfl) ?_
                    refine wl4 (pc := 10) (len_s := 3) (Y := 5) rfl (Int32.toInt_toInt64 _) (by decide) (fun c11_s => ?_) (fun c11_s => ?_)
                    · exact absurd c11_s c3_s
                    · skip
                      refine w_t (pc := 13) (e_s := (0, 1, 0, 0, 0, .int 1, [])) (y_s := (14, [some (.long _), none, some (.long _), none, some (.long _), none], [.int _], _)) rfl (u_ rfl) ?_
                      refine w_t (pc := 14) (e_s := (17, 3, 18, 0, 0, .null, [])) (y_s := (18, [some (.long _), none, some (.long _), none, some (.long _), none], [.int _], _)) rfl (u_ rfl) ?_
                      refine wrI (pc := 18) (len_s := 1) rfl hk ?_
                      show wF _ 228 (9, [some (.int _)], [.int _], _) _
                      refine wrI (pc := 9) (len_s := 1) rfl hk ?_
                      show wF _ 186 (4, [some (.ref _), some (.int _)], [.int _], _) _
                      refine w_t (pc := 4) (e_s := (15, 3, 11, 1, 0, .null, [])) (y_s := (11, [some (.ref _), some (.int _)], [], _)) rfl (u_ rfl) ?_
                      refine w_t (pc := 11) (e_s := (3, 1, 0, 0, 0, .null, [])) (y_s := (12, [some (.ref _), some (.int _)], [.ref _], _)) rfl (u_ rfl) ?_
                      refine w20r (pc := 12) (len_s := 3) (q_s := 124) rfl (krq hk rfl) ?_
                      refine w_t (pc := 15) (e_s := (1, 1, 1, 0, 0, .null, [])) (y_s := (16, [some (.ref _), some (.int _)], [.int _, .ref _], _)) rfl (u_ rfl) ?_
                      refine w22 (pc := 16) (len_s := 1) rfl (hk.1 124 0 6 rfl rfl) (fun c12_s => ?_)
                      refine wq3 (pc := 17) (len_s := 3) rfl rfl (fun c13_s => ?_) (fun c13_s => ?_)
                      · skip
                        refine w_t (pc := 20) (e_s := (0, 2, 0, 0, 0, .int (-11), [])) (y_s := (22, [some (.ref _), some (.int _)], [.int _], _)) rfl (u_ rfl) ?_
                        refine w_t (pc := 22) (e_s := (17, 3, 42, 0, 0, .null, [])) (y_s := (42, [some (.ref _), some (.int _)], [.int _], _)) rfl (u_ rfl) ?_
                        refine wrI (pc := 42) (len_s := 1) rfl hk ?_
                        show wF _ 203 (45, [some (.ref _), some (.int _)], [.int _], _) _
                        refine w_t (pc := 45) (e_s := (17, 3, 56, 0, 0, .null, [])) (y_s := (56, [some (.ref _), some (.int _)], [.int _], _)) rfl (u_ rfl) ?_
                        exact wrI (pc := 56) (len_s := 1) rfl hk t_s
                      · exact absurd c9_s c13_s
                · replace t_s := t_s.2 c9_s
                  refine w_t (pc := 25) (e_s := (3, 1, 0, 0, 0, .null, [])) (y_s := (26, [some (.ref _), some (.int _)], [.ref _], _)) rfl (u_ rfl) ?_
                  refine w20r (pc := 26) (len_s := 3) (q_s := 124) rfl (krq hk rfl) ?_
                  refine w_t (pc := 29) (e_s := (1, 1, 1, 0, 0, .null, [])) (y_s := (30, [some (.ref _), some (.int _)], [.int _, .ref _], _)) rfl (u_ rfl) ?_
                  refine w22 (pc := 30) (len_s := 1) rfl (hk.1 124 0 6 rfl rfl) (fun c14_s => ?_)
                  refine w_t (pc := 31) (e_s := (0, 2, 0, 0, 0, .int 50, [])) (y_s := (33, [some (.ref _), some (.int _)], [.int _, .int _], _)) rfl (u_ rfl) ?_
                  refine wi1 (pc := 33) (len_s := 3) (Y := 50) rfl rfl (by decide) (fun c15_s => ?_) (fun c15_s => ?_)
                  · replace t_s := t_s.1 c15_s
                    refine w_t (pc := 36) (e_s := (0, 1, 0, 0, 0, .int 1, [])) (y_s := (37, [some (.ref _), some (.int _)], [.int _], _)) rfl (u_ rfl) ?_
                    refine w_t (pc := 37) (e_s := (17, 3, 42, 0, 0, .null, [])) (y_s := (42, [some (.ref _), some (.int _)], [.int _], _)) rfl (u_ rfl) ?_
                    refine wrI (pc := 42) (len_s := 1) rfl hk ?_
                    show wF _ 203 (34, [some (.ref _), some (.int _)], [.int _], _) _
                    refine w_t (pc := 34) (e_s := (15, 3, 48, 3, 0, .null, [])) (y_s := (48, [some (.ref _), some (.int _)], [], _)) rfl (u_ rfl) ?_
                    refine w_t (pc := 48) (e_s := (3, 1, 0, 0, 0, .null, [])) (y_s := (49, [some (.ref _), some (.int _)], [.ref _], _)) rfl (u_ rfl) ?_
                    refine w_t (pc := 49) (e_s := (1, 1, 1, 0, 0, .null, [])) (y_s := (50, [some (.ref _), some (.int _)], [.int _, .ref _], _)) rfl (u_ rfl) ?_
                    refine w_t (pc := 50) (e_s := (0, 2, 0, 0, 0, .int 10, [])) (y_s := (52, [some (.ref _), some (.int _)], [.int _, .int _, .ref _], _)) rfl (u_ rfl) ?_
                    refine w8m (pc := 52) (len_s := 1) rfl ?_
                    refine wcI (pc := 53) (len_s := 3) rfl rfl (l := [some (.ref _), some (.int _)]) rfl ?_
                    refine w_t (pc := 0) (e_s := (1, 1, 1, 0, 0, .null, [])) (y_s := (1, [some (.ref _), some (.int _)], [.int _], _)) rfl (u_ rfl) ?_
                    refine wcI (pc := 1) (len_s := 3) rfl rfl (l := [some (.int _)]) rfl ?_
                    refine w_t (pc := 0) (e_s := (1, 1, 0, 0, 0, .null, [])) (y_s := (1, [some (.int _)], [.int _], _)) rfl (u_ rfl) ?_
                    refine w_t (pc := 1) (e_s := (10, 1, 0, 0, 0, .null, [])) (y_s := (2, [some (.int _)], [.long (Int32.toInt64 _)], _)) rfl (u_ rfl) ?_
                    refine w_t (pc := 2) (e_s := (0, 1, 0, 0, 0, .long 0, [])) (y_s := (3, [some (.int _)], [.long _, .long _], _)) rfl (u_ rfl) ?_
                    refine w_t (pc := 3) (e_s := (0, 3, 0, 0, 0, .long 5, [(0, 1063)])) (y_s := (6, [some (.int _)], [.long _, .long _, .long _], _)) rfl (u_ rfl) ?_
                    refine wcI (pc := 6) (len_s := 3) rfl rfl (l := [some (.long _), none, some (.long _), none, some (.long _), none]) rfl ?_
                    refine w_t (pc := 0) (e_s := (2, 1, 0, 0, 0, .null, [])) (y_s := (1, [some (.long _), none, some (.long _), none, some (.long _), none], [.long _], _)) rfl (u_ rfl) ?_
                    refine w_t (pc := 1) (e_s := (2, 1, 2, 0, 0, .null, [])) (y_s := (2, [some (.long _), none, some (.long _), none, some (.long _), none], [.long _, .long _], _)) rfl (u_ rfl) ?_
                    refine w_t (pc := 2) (e_s := (14, 1, 0, 0, 0, .null, [])) (y_s := (3, [some (.long _), none, some (.long _), none, some (.long _), none], [.int (lg_cmp _ _)], _)) rfl (u_ rfl) ?_
                    refine wl2 (pc := 3) (len_s := 3) (Y := 0) rfl (Int32.toInt_toInt64 _) (by decide) (fun c16 => ?_) (fun c16 => ?_)
                    · exact absurd c16 c4_s
                    · skip
                      refine w_t (pc := 6) (e_s := (2, 1, 0, 0, 0, .null, [])) (y_s := (7, [some (.long _), none, some (.long _), none, some (.long _), none], [.long _], _)) rfl (u_ rfl) ?_
                      refine w_t (pc := 7) (e_s := (2, 2, 4, 0, 0, .null, [])) (y_s := (9, [some (.long _), none, some (.long _), none, some (.long _), none], [.long _, .long _], _)) rfl (u_ rfl) ?_
                      refine w_t (pc := 9) (e_s := (14, 1, 0, 0, 0, .null, [])) (y_s := (10, [some (.long _), none, some (.long _), none, some (.long _), none], [.int (lg_cmp _ _)], _)) rfl (u_ rfl) ?_
                      refine wl4 (pc := 10) (len_s := 3) (Y := 5) rfl (Int32.toInt_toInt64 _) (by decide) (fun c17 => ?_) (fun c17 => ?_)
                      · exact absurd c17 c5_s
                      · skip
                        refine w_t (pc := 13) (e_s := (0, 1, 0, 0, 0, .int 1, [])) (y_s := (14, [some (.long _), none, some (.long _), none, some (.long _), none], [.int _], _)) rfl (u_ rfl) ?_
                        refine w_t (pc := 14) (e_s := (17, 3, 18, 0, 0, .null, [])) (y_s := (18, [some (.long _), none, some (.long _), none, some (.long _), none], [.int _], _)) rfl (u_ rfl) ?_
                        refine wrI (pc := 18) (len_s := 1) rfl hk ?_
                        show wF _ 228 (9, [some (.int _)], [.int _], _) _
                        refine wrI (pc := 9) (len_s := 1) rfl hk ?_
                        show wF _ 186 (4, [some (.ref _), some (.int _)], [.int _], _) _
                        refine w_t (pc := 4) (e_s := (15, 3, 11, 1, 0, .null, [])) (y_s := (11, [some (.ref _), some (.int _)], [], _)) rfl (u_ rfl) ?_
                        refine w_t (pc := 11) (e_s := (3, 1, 0, 0, 0, .null, [])) (y_s := (12, [some (.ref _), some (.int _)], [.ref _], _)) rfl (u_ rfl) ?_
                        refine w20r (pc := 12) (len_s := 3) (q_s := 124) rfl (krq hk rfl) ?_
                        refine w_t (pc := 15) (e_s := (1, 1, 1, 0, 0, .null, [])) (y_s := (16, [some (.ref _), some (.int _)], [.int _, .ref _], _)) rfl (u_ rfl) ?_
                        refine w22 (pc := 16) (len_s := 1) rfl (hk.1 124 0 6 rfl rfl) (fun c18_s => ?_)
                        replace t_s := t_s c18_s
                        refine wq3 (pc := 17) (len_s := 3) rfl rfl (fun c19_s => ?_) (fun c19_s => ?_)
                        · replace t_s := t_s.1 c19_s
                          refine w_t (pc := 20) (e_s := (0, 2, 0, 0, 0, .int (-11), [])) (y_s := (22, [some (.ref _), some (.int _)], [.int _], _)) rfl (u_ rfl) ?_
                          refine w_t (pc := 22) (e_s := (17, 3, 42, 0, 0, .null, [])) (y_s := (42, [some (.ref _), some (.int _)], [.int _], _)) rfl (u_ rfl) ?_
                          refine wrI (pc := 42) (len_s := 1) rfl hk ?_
                          show wF _ 203 (56, [some (.ref _), some (.int _)], [.int _], _) _
                          exact wrI (pc := 56) (len_s := 1) rfl hk t_s
                        · replace t_s := t_s.2 c19_s
                          refine w_t (pc := 25) (e_s := (3, 1, 0, 0, 0, .null, [])) (y_s := (26, [some (.ref _), some (.int _)], [.ref _], _)) rfl (u_ rfl) ?_
                          refine w20r (pc := 26) (len_s := 3) (q_s := 124) rfl (krq hk rfl) ?_
                          refine w_t (pc := 29) (e_s := (1, 1, 1, 0, 0, .null, [])) (y_s := (30, [some (.ref _), some (.int _)], [.int _, .ref _], _)) rfl (u_ rfl) ?_
                          refine w22 (pc := 30) (len_s := 1) rfl (hk.1 124 0 6 rfl rfl) (fun c20_s => ?_)
                          refine w_t (pc := 31) (e_s := (0, 2, 0, 0, 0, .int 50, [])) (y_s := (33, [some (.ref _), some (.int _)], [.int _, .int _], _)) rfl (u_ rfl) ?_
                          refine wi1 (pc := 33) (len_s := 3) (Y := 50) rfl rfl (by decide) (fun c21 => ?_) (fun c21 => ?_)
                          · replace t_s := t_s.1 c21
                            refine w_t (pc := 36) (e_s := (0, 1, 0, 0, 0, .int 1, [])) (y_s := (37, [some (.ref _), some (.int _)], [.int _], _)) rfl (u_ rfl) ?_
                            refine w_t (pc := 37) (e_s := (17, 3, 42, 0, 0, .null, [])) (y_s := (42, [some (.ref _), some (.int _)], [.int _], _)) rfl (u_ rfl) ?_
                            refine wrI (pc := 42) (len_s := 1) rfl hk ?_
                            show wF _ 203 (56, [some (.ref _), some (.int _)], [.int _], _) _
                            exact wrI (pc := 56) (len_s := 1) rfl hk t_s
                          · replace t_s := t_s.2 c21
                            refine w_t (pc := 40) (e_s := (0, 2, 0, 0, 0, .int (-12), [])) (y_s := (42, [some (.ref _), some (.int _)], [.int _], _)) rfl (u_ rfl) ?_
                            refine wrI (pc := 42) (len_s := 1) rfl hk ?_
                            show wF _ 203 (56, [some (.ref _), some (.int _)], [.int _], _) _
                            exact wrI (pc := 56) (len_s := 1) rfl hk t_s
                  · replace t_s := t_s.2 c15_s
                    refine w_t (pc := 40) (e_s := (0, 2, 0, 0, 0, .int (-12), [])) (y_s := (42, [some (.ref _), some (.int _)], [.int _], _)) rfl (u_ rfl) ?_
                    refine wrI (pc := 42) (len_s := 1) rfl hk ?_
                    show wF _ 203 (34, [some (.ref _), some (.int _)], [.int _], _) _
                    refine w_t (pc := 34) (e_s := (15, 3, 48, 3, 0, .null, [])) (y_s := (37, [some (.ref _), some (.int _)], [], _)) rfl (u_ rfl) ?_
                    refine w_t (pc := 37) (e_s := (3, 1, 0, 0, 0, .null, [])) (y_s := (38, [some (.ref _), some (.int _)], [.ref _], _)) rfl (u_ rfl) ?_
                    refine w_t (pc := 38) (e_s := (1, 1, 1, 0, 0, .null, [])) (y_s := (39, [some (.ref _), some (.int _)], [.int _, .ref _], _)) rfl (u_ rfl) ?_
                    refine w_t (pc := 39) (e_s := (0, 2, 0, 0, 0, .int 10, [])) (y_s := (41, [some (.ref _), some (.int _)], [.int _, .int _, .ref _], _)) rfl (u_ rfl) ?_
                    refine w8 (pc := 41) (len_s := 1) rfl ?_
                    refine wcI (pc := 42) (len_s := 3) rfl rfl (l := [some (.ref _), some (.int _)]) rfl ?_
                    refine w_t (pc := 0) (e_s := (1, 1, 1, 0, 0, .null, [])) (y_s := (1, [some (.ref _), some (.int _)], [.int _], _)) rfl (u_ rfl) ?_
                    refine wcI (pc := 1) (len_s := 3) rfl rfl (l := [some (.int _)]) rfl ?_
                    refine w_t (pc := 0) (e_s := (1, 1, 0, 0, 0, .null, [])) (y_s := (1, [some (.int _)], [.int _], _)) rfl (u_ rfl) ?_
                    refine w_t (pc := 1) (e_s := (10, 1, 0, 0, 0, .null, [])) (y_s := (2, [some (.int _)], [.long (Int32.toInt64 _)], _)) rfl (u_ rfl) ?_
                    refine w_t (pc := 2) (e_s := (0, 1, 0, 0, 0, .long 0, [])) (y_s := (3, [some (.int _)], [.long _, .long _], _)) rfl (u_ rfl) ?_
                    refine w_t (pc := 3) (e_s := (0, 3, 0, 0, 0, .long 5, [(0, 1063)])) (y_s := (6, [some (.int _)], [.long _, .long _, .long _], _)) rfl (u_ rfl) ?_
                    refine wcI (pc := 6) (len_s := 3) rfl rfl (l := [some (.long _), none, some (.long _), none, some (.long _), none]) rfl ?_
                    refine w_t (pc := 0) (e_s := (2, 1, 0, 0, 0, .null, [])) (y_s := (1, [some (.long _), none, some (.long _), none, some (.long _), none], [.long _], _)) rfl (u_ rfl) ?_
                    refine w_t (pc := 1) (e_s := (2, 1, 2, 0, 0, .null, [])) (y_s := (2, [some (.long _), none, some (.long _), none, some (.long _), none], [.long _, .long _], _)) rfl (u_ rfl) ?_
                    refine w_t (pc := 2) (e_s := (14, 1, 0, 0, 0, .null, [])) (y_s := (3, [some (.long _), none, some (.long _), none, some (.long _), none], [.int (lg_cmp _ _)], _)) rfl (u_ rfl) ?_
                    refine wl2 (pc := 3) (len_s := 3) (Y := 0) rfl (Int32.toInt_toInt64 _) (by decide) (fun c22 => ?_) (fun c22 => ?_)
                    · exact absurd c22 c2_s
                    · skip
                      refine w_t (pc := 6) (e_s := (2, 1, 0, 0, 0, .null, [])) (y_s := (7, [some (.long _), none, some (.long _), none, some (.long _), none], [.long _], _)) rfl (u_ rfl) ?_
                      refine w_t (pc := 7) (e_s := (2, 2, 4, 0, 0, .null, [])) (y_s := (9, [some (.long _), none, some (.long _), none, some (.long _), none], [.long _, .long _], _)) rfl (u_ rfl) ?_
                      refine w_t (pc := 9) (e_s := (14, 1, 0, 0, 0, .null, [])) (y_s := (10, [some (.long _), none, some (.long _), none, some (.long _), none], [.int (lg_cmp _ _)], _)) rfl (u_ rfl) ?_
                      refine wl4 (pc := 10) (len_s := 3) (Y := 5) rfl (Int32.toInt_toInt64 _) (by decide) (fun c23_s => ?_) (fun c23_s => ?_)
                      · exact absurd c23_s c3_s
                      · skip
                        refine w_t (pc := 13) (e_s := (0, 1, 0, 0, 0, .int 1, [])) (y_s := (14, [some (.long _), none, some (.long _), none, some (.long _), none], [.int _], _)) rfl (u_ rfl) ?_
                        refine w_t (pc := 14) (e_s := (17, 3, 18, 0, 0, .null, [])) (y_s := (18, [some (.long _), none, some (.long _), none, some (.long _), none], [.int _], _)) rfl (u_ rfl) ?_
                        refine wrI (pc := 18) (len_s := 1) rfl hk ?_
                        show wF _ 228 (9, [some (.int _)], [.int _], _) _
                        refine wrI (pc := 9) (len_s := 1) rfl hk ?_
                        show wF _ 186 (4, [some (.ref _), some (.int _)], [.int _], _) _
                        refine w_t (pc := 4) (e_s := (15, 3, 11, 1, 0, .null, [])) (y_s := (11, [some (.ref _), some (.int _)], [], _)) rfl (u_ rfl) ?_
                        refine w_t (pc := 11) (e_s := (3, 1, 0, 0, 0, .null, [])) (y_s := (12, [some (.ref _), some (.int _)], [.ref _], _)) rfl (u_ rfl) ?_
                        refine w20r (pc := 12) (len_s := 3) (q_s := 124) rfl (krq hk rfl) ?_
                        refine w_t (pc := 15) (e_s := (1, 1, 1, 0, 0, .null, [])) (y_s := (16, [some (.ref _), some (.int _)], [.int _, .ref _], _)) rfl (u_ rfl) ?_
                        refine w22 (pc := 16) (len_s := 1) rfl (hk.1 124 0 6 rfl rfl) (fun c24_s => ?_)
                        refine wq3 (pc := 17) (len_s := 3) rfl rfl (fun c25_s => ?_) (fun c25_s => ?_)
                        · exact absurd c25_s c9_s
                        · skip
                          refine w_t (pc := 25) (e_s := (3, 1, 0, 0, 0, .null, [])) (y_s := (26, [some (.ref _), some (.int _)], [.ref _], _)) rfl (u_ rfl) ?_
                          refine w20r (pc := 26) (len_s := 3) (q_s := 124) rfl (krq hk rfl) ?_
                          refine w_t (pc := 29) (e_s := (1, 1, 1, 0, 0, .null, [])) (y_s := (30, [some (.ref _), some (.int _)], [.int _, .ref _], _)) rfl (u_ rfl) ?_
                          refine w22 (pc := 30) (len_s := 1) rfl (hk.1 124 0 6 rfl rfl) (fun c26 => ?_)
                          refine w_t (pc := 31) (e_s := (0, 2, 0, 0, 0, .int 50, [])) (y_s := (33, [some (.ref _), some (.int _)], [.int _, .int _], _)) rfl (u_ rfl) ?_
                          refine wi1 (pc := 33) (len_s := 3) (Y := 50) rfl rfl (by decide) (fun c27_s => ?_) (fun c27_s => ?_)
                          · exact absurd c27_s c15_s
                          · skip
                            refine w_t (pc := 40) (e_s := (0, 2, 0, 0, 0, .int (-12), [])) (y_s := (42, [some (.ref _), some (.int _)], [.int _], _)) rfl (u_ rfl) ?_
                            refine wrI (pc := 42) (len_s := 1) rfl hk ?_
                            show wF _ 203 (45, [some (.ref _), some (.int _)], [.int _], _) _
                            refine w_t (pc := 45) (e_s := (17, 3, 56, 0, 0, .null, [])) (y_s := (56, [some (.ref _), some (.int _)], [.int _], _)) rfl (u_ rfl) ?_
                            exact wrI (pc := 56) (len_s := 1) rfl hk t_s
/-- ColdShodModel.edge(III)I, from 0 on -/
theorem sg_206_0 {F_s : Nat} {x1_s : Int32} {x2_s : Int32} {x3 : Int32} {h_s : zH} {K_s : Int32 → zH → Prop} (hk : hKn h_s) (t_s : wF F_s 203 (0, [some (.ref 102), some (.int x1_s)], [], h_s) (gI (fun v1_s h1 => hKn h1 → (v1_s.toInt = -1 → K_s (-1) h1) ∧ (¬ v1_s.toInt = -1 → ((x2_s.toInt < 0 → K_s (-1) h1) ∧ (¬ x2_s.toInt < 0 → ((((h1.2.1 102 7) - 1).toInt < x2_s.toInt → K_s (-1) h1) ∧ (¬ ((h1.2.1 102 7) - 1).toInt < x2_s.toInt → ((x3.toInt < 0 → K_s (-1) h1) ∧ (¬ x3.toInt < 0 → ((1 < x3.toInt → K_s (-1) h1) ∧ (¬ 1 < x3.toInt → wF F_s 203 (0, [some (.ref 102), some (.int x1_s)], [], h1) (gI (fun v7 h7 => hKn h7 → (v7.toInt < 0 → wF F_s 203 (0, [some (.ref 102), some (.int x1_s)], [], h7) (gI (fun v9 h9 => hKn h9 → K_s v9 h9))) ∧ (¬ v7.toInt < 0 → ((x3.toInt = 0 → (zix (12 + x2_s) < 104 → wF F_s 206 (74, [some (.ref 102), some (.int x1_s), some (.int x2_s), some (.int x3), some (.int (12 + x2_s)), some (.int (h7.2.1 103 (zix (12 + x2_s)))), some (.int 0), some (.int 0)], [], h7) (gI K_s))) ∧ (¬ x3.toInt = 0 → (zix (20 + x2_s) < 104 → wF F_s 206 (74, [some (.ref 102), some (.int x1_s), some (.int x2_s), some (.int x3), some (.int (20 + x2_s)), some (.int (h7.2.1 103 (zix (20 + x2_s)))), some (.int 0), some (.int 0)], [], h7) (gI K_s))))))))))))))))))) : wF (F_s + 1) 206 (0, [some (.ref 102), some (.int x1_s), some (.int x2_s), some (.int x3), none, none, none, none], [], h_s) (gI K_s) := by
  refine w_0 (pc := 0) (e_s := (3, 1, 0, 0, 0, .null, [])) (y_s := (1, [some (.ref _), some (.int _), some (.int _), some (.int _), none, none, none, none], [.ref _], _)) rfl (u_ rfl) ?_
  refine w_t (pc := 1) (e_s := (1, 1, 1, 0, 0, .null, [])) (y_s := (2, [some (.ref _), some (.int _), some (.int _), some (.int _), none, none, none, none], [.int _, .ref _], _)) rfl (u_ rfl) ?_
  refine wcI (pc := 2) (len_s := 3) rfl rfl (l := [some (.ref _), some (.int _)]) rfl (wmI t_s (fun v1_s h1 hk t_s => ?_))
  replace t_s := t_s hk
  refine w_t (pc := 5) (e_s := (0, 1, 0, 0, 0, .int (-1), [])) (y_s := (6, [some (.ref _), some (.int _), some (.int _), some (.int _), none, none, none, none], [.int _, .int _], _)) rfl (u_ rfl) ?_
  refine wi0 (pc := 6) (len_s := 3) (Y := -1) rfl rfl (by decide) (fun c2_s => ?_) (fun c2_s => ?_)
  · replace t_s := t_s.1 c2_s
    refine w_t (pc := 28) (e_s := (0, 1, 0, 0, 0, .int (-1), [])) (y_s := (29, [some (.ref _), some (.int _), some (.int _), some (.int _), none, none, none, none], [.int _], _)) rfl (u_ rfl) ?_
    exact wrI (pc := 29) (len_s := 1) rfl hk t_s
  · replace t_s := t_s.2 c2_s
    refine w_t (pc := 9) (e_s := (3, 1, 0, 0, 0, .null, [])) (y_s := (10, [some (.ref _), some (.int _), some (.int _), some (.int _), none, none, none, none], [.ref _], _)) rfl (u_ rfl) ?_
    refine w_t (pc := 10) (e_s := (1, 1, 2, 0, 0, .null, [])) (y_s := (11, [some (.ref _), some (.int _), some (.int _), some (.int _), none, none, none, none], [.int _, .ref _], _)) rfl (u_ rfl) ?_
    refine w_t (pc := 11) (e_s := (10, 1, 0, 0, 0, .null, [])) (y_s := (12, [some (.ref _), some (.int _), some (.int _), some (.int _), none, none, none, none], [.long (Int32.toInt64 _), .ref _], _)) rfl (u_ rfl) ?_
    refine wcI (pc := 12) (len_s := 3) rfl rfl (l := [some (.ref _), some (.long _), none]) rfl ?_
    refine w_t (pc := 0) (e_s := (2, 1, 1, 0, 0, .null, [])) (y_s := (1, [some (.ref _), some (.long _), none], [.long _], _)) rfl (u_ rfl) ?_
    refine w_t (pc := 1) (e_s := (0, 1, 0, 0, 0, .long 0, [])) (y_s := (2, [some (.ref _), some (.long _), none], [.long _, .long _], _)) rfl (u_ rfl) ?_
    refine w_t (pc := 2) (e_s := (3, 1, 0, 0, 0, .null, [])) (y_s := (3, [some (.ref _), some (.long _), none], [.ref _, .long _, .long _], _)) rfl (u_ rfl) ?_
    refine w20 (pc := 3) (len_s := 3) rfl ?_
    refine w_t (pc := 6) (e_s := (0, 1, 0, 0, 0, .int 1, [])) (y_s := (7, [some (.ref _), some (.long _), none], [.int _, .int _, .long _, .long _], _)) rfl (u_ rfl) ?_
    refine w_t (pc := 7) (e_s := (7, 1, 0, 1, 0, .null, [])) (y_s := (8, [some (.ref _), some (.long _), none], [.int (_ - _), .long _, .long _], _)) rfl (u_ rfl) ?_
    refine w_t (pc := 8) (e_s := (10, 1, 0, 0, 0, .null, [])) (y_s := (9, [some (.ref _), some (.long _), none], [.long (Int32.toInt64 _), .long _, .long _], _)) rfl (u_ rfl) ?_
    refine wcI (pc := 9) (len_s := 3) rfl rfl (l := [some (.long _), none, some (.long _), none, some (.long _), none]) rfl ?_
    refine w_t (pc := 0) (e_s := (2, 1, 0, 0, 0, .null, [])) (y_s := (1, [some (.long _), none, some (.long _), none, some (.long _), none], [.long _], _)) rfl (u_ rfl) ?_
    refine w_t (pc := 1) (e_s := (2, 1, 2, 0, 0, .null, [])) (y_s := (2, [some (.long _), none, some (.long _), none, some (.long _), none], [.long _, .long _], _)) rfl (u_ rfl) ?_
    refine w_t (pc := 2) (e_s := (14, 1, 0, 0, 0, .null, [])) (y_s := (3, [some (.long _), none, some (.long _), none, some (.long _), none], [.int (lg_cmp _ _)], _)) rfl (u_ rfl) ?_
    refine wl2 (pc := 3) (len_s := 3) (Y := 0) rfl (Int32.toInt_toInt64 _) (by decide) (fun c3_s => ?_) (fun c3_s => ?_)
    · replace t_s := t_s.1 c3_s
      refine w_t (pc := 17) (e_s := (0, 1, 0, 0, 0, .int 0, [])) (y_s := (18, [some (.long _), none, some (.long _), none, some (.long _), none], [.int _], _)) rfl (u_ rfl) ?_
      refine wrI (pc := 18) (len_s := 1) rfl hk ?_
      show wF _ 152 (12, [some (.ref _), some (.long _), none], [.int _], _) _
      refine wrI (pc := 12) (len_s := 1) rfl hk ?_
      show wF _ 206 (15, [some (.ref _), some (.int _), some (.int _), some (.int _), none, none, none, none], [.int _], _) _
      refine w_t (pc := 15) (e_s := (15, 3, 28, 0, 0, .null, [])) (y_s := (28, [some (.ref _), some (.int _), some (.int _), some (.int _), none, none, none, none], [], _)) rfl (u_ rfl) ?_
      refine w_t (pc := 28) (e_s := (0, 1, 0, 0, 0, .int (-1), [])) (y_s := (29, [some (.ref _), some (.int _), some (.int _), some (.int _), none, none, none, none], [.int _], _)) rfl (u_ rfl) ?_
      exact wrI (pc := 29) (len_s := 1) rfl hk t_s
    · replace t_s := t_s.2 c3_s
      refine w_t (pc := 6) (e_s := (2, 1, 0, 0, 0, .null, [])) (y_s := (7, [some (.long _), none, some (.long _), none, some (.long _), none], [.long _], _)) rfl (u_ rfl) ?_
      refine w_t (pc := 7) (e_s := (2, 2, 4, 0, 0, .null, [])) (y_s := (9, [some (.long _), none, some (.long _), none, some (.long _), none], [.long _, .long _], _)) rfl (u_ rfl) ?_
      refine w_t (pc := 9) (e_s := (14, 1, 0, 0, 0, .null, [])) (y_s := (10, [some (.long _), none, some (.long _), none, some (.long _), none], [.int (lg_cmp _ _)], _)) rfl (u_ rfl) ?_
      refine wl4 (pc := 10) (len_s := 3) rfl (Int32.toInt_toInt64 _) (Int32.toInt_toInt64 _) (fun c4_s => ?_) (fun c4_s => ?_)
      · replace t_s := t_s.1 c4_s
        refine w_t (pc := 17) (e_s := (0, 1, 0, 0, 0, .int 0, [])) (y_s := (18, [some (.long _), none, some (.long _), none, some (.long _), none], [.int _], _)) rfl (u_ rfl) ?_
        refine wrI (pc := 18) (len_s := 1) rfl hk ?_
        show wF _ 152 (12, [some (.ref _), some (.long _), none], [.int _], _) _
        refine wrI (pc := 12) (len_s := 1) rfl hk ?_
        show wF _ 206 (15, [some (.ref _), some (.int _), some (.int _), some (.int _), none, none, none, none], [.int _], _) _
        refine w_t (pc := 15) (e_s := (15, 3, 28, 0, 0, .null, [])) (y_s := (28, [some (.ref _), some (.int _), some (.int _), some (.int _), none, none, none, none], [], _)) rfl (u_ rfl) ?_
        refine w_t (pc := 28) (e_s := (0, 1, 0, 0, 0, .int (-1), [])) (y_s := (29, [some (.ref _), some (.int _), some (.int _), some (.int _), none, none, none, none], [.int _], _)) rfl (u_ rfl) ?_
        exact wrI (pc := 29) (len_s := 1) rfl hk t_s
      · replace t_s := t_s.2 c4_s
        refine w_t (pc := 13) (e_s := (0, 1, 0, 0, 0, .int 1, [])) (y_s := (14, [some (.long _), none, some (.long _), none, some (.long _), none], [.int _], _)) rfl (u_ rfl) ?_
        refine w_t (pc := 14) (e_s := (17, 3, 18, 0, 0, .null, [])) (y_s := (18, [some (.long _), none, some (.long _), none, some (.long _), none], [.int _], _)) rfl (u_ rfl) ?_
        refine wrI (pc := 18) (len_s := 1) rfl hk ?_
        show wF _ 152 (12, [some (.ref _), some (.long _), none], [.int _], _) _
        refine wrI (pc := 12) (len_s := 1) rfl hk ?_
        show wF _ 206 (15, [some (.ref _), some (.int _), some (.int _), some (.int _), none, none, none, none], [.int _], _) _
        refine w_t (pc := 15) (e_s := (15, 3, 28, 0, 0, .null, [])) (y_s := (18, [some (.ref _), some (.int _), some (.int _), some (.int _), none, none, none, none], [], _)) rfl (u_ rfl) ?_
        refine w_t (pc := 18) (e_s := (1, 1, 3, 0, 0, .null, [])) (y_s := (19, [some (.ref _), some (.int _), some (.int _), some (.int _), none, none, none, none], [.int _], _)) rfl (u_ rfl) ?_
        refine w_t (pc := 19) (e_s := (10, 1, 0, 0, 0, .null, [])) (y_s := (20, [some (.ref _), some (.int _), some (.int _), some (.int _), none, none, none, none], [.long (Int32.toInt64 _)], _)) rfl (u_ rfl) ?_
        refine w_t (pc := 20) (e_s := (0, 1, 0, 0, 0, .long 0, [])) (y_s := (21, [some (.ref _), some (.int _), some (.int _), some (.int _), none, none, none, none], [.long _, .long _], _)) rfl (u_ rfl) ?_
        refine w_t (pc := 21) (e_s := (0, 1, 0, 0, 0, .long 1, [])) (y_s := (22, [some (.ref _), some (.int _), some (.int _), some (.int _), none, none, none, none], [.long _, .long _, .long _], _)) rfl (u_ rfl) ?_
        refine wcI (pc := 22) (len_s := 3) rfl rfl (l := [some (.long _), none, some (.long _), none, some (.long _), none]) rfl ?_
        refine w_t (pc := 0) (e_s := (2, 1, 0, 0, 0, .null, [])) (y_s := (1, [some (.long _), none, some (.long _), none, some (.long _), none], [.long _], _)) rfl (u_ rfl) ?_
        refine w_t (pc := 1) (e_s := (2, 1, 2, 0, 0, .null, [])) (y_s := (2, [some (.long _), none, some (.long _), none, some (.long _), none], [.long _, .long _], _)) rfl (u_ rfl) ?_
        refine w_t (pc := 2) (e_s := (14, 1, 0, 0, 0, .null, [])) (y_s := (3, [some (.long _), none, some (.long _), none, some (.long _), none], [.int (lg_cmp _ _)], _)) rfl (u_ rfl) ?_
        refine wl2 (pc := 3) (len_s := 3) (Y := 0) rfl (Int32.toInt_toInt64 _) (by decide) (fun c5_s => ?_) (fun c5_s => ?_)
        · replace t_s := t_s.1 c5_s
          refine w_t (pc := 17) (e_s := (0, 1, 0, 0, 0, .int 0, [])) (y_s := (18, [some (.long _), none, some (.long _), none, some (.long _), none], [.int _], _)) rfl (u_ rfl) ?_
          refine wrI (pc := 18) (len_s := 1) rfl hk ?_
          show wF _ 206 (25, [some (.ref _), some (.int _), some (.int _), some (.int _), none, none, none, none], [.int _], _) _
          refine w_t (pc := 25) (e_s := (15, 3, 30, 1, 0, .null, [])) (y_s := (28, [some (.ref _), some (.int _), some (.int _), some (.int _), none, none, none, none], [], _)) rfl (u_ rfl) ?_
          refine w_t (pc := 28) (e_s := (0, 1, 0, 0, 0, .int (-1), [])) (y_s := (29, [some (.ref _), some (.int _), some (.int _), some (.int _), none, none, none, none], [.int _], _)) rfl (u_ rfl) ?_
          exact wrI (pc := 29) (len_s := 1) rfl hk t_s
        · replace t_s := t_s.2 c5_s
          refine w_t (pc := 6) (e_s := (2, 1, 0, 0, 0, .null, [])) (y_s := (7, [some (.long _), none, some (.long _), none, some (.long _), none], [.long _], _)) rfl (u_ rfl) ?_
          refine w_t (pc := 7) (e_s := (2, 2, 4, 0, 0, .null, [])) (y_s := (9, [some (.long _), none, some (.long _), none, some (.long _), none], [.long _, .long _], _)) rfl (u_ rfl) ?_
          refine w_t (pc := 9) (e_s := (14, 1, 0, 0, 0, .null, [])) (y_s := (10, [some (.long _), none, some (.long _), none, some (.long _), none], [.int (lg_cmp _ _)], _)) rfl (u_ rfl) ?_
          refine wl4 (pc := 10) (len_s := 3) (Y := 1) rfl (Int32.toInt_toInt64 _) (by decide) (fun c6_s => ?_) (fun c6_s => ?_)
          · replace t_s := t_s.1 c6_s
            refine w_t (pc := 17) (e_s := (0, 1, 0, 0, 0, .int 0, [])) (y_s := (18, [some (.long _), none, some (.long _), none, some (.long _), none], [.int _], _)) rfl (u_ rfl) ?_
            refine wrI (pc := 18) (len_s := 1) rfl hk ?_
            show wF _ 206 (25, [some (.ref _), some (.int _), some (.int _), some (.int _), none, none, none, none], [.int _], _) _
            refine w_t (pc := 25) (e_s := (15, 3, 30, 1, 0, .null, [])) (y_s := (28, [some (.ref _), some (.int _), some (.int _), some (.int _), none, none, none, none], [], _)) rfl (u_ rfl) ?_
            refine w_t (pc := 28) (e_s := (0, 1, 0, 0, 0, .int (-1), [])) (y_s := (29, [some (.ref _), some (.int _), some (.int _), some (.int _), none, none, none, none], [.int _], _)) rfl (u_ rfl) ?_
            exact wrI (pc := 29) (len_s := 1) rfl hk t_s
          · replace t_s := t_s.2 c6_s
            refine w_t (pc := 13) (e_s := (0, 1, 0, 0, 0, .int 1, [])) (y_s := (14, [some (.long _), none, some (.long _), none, some (.long _), none], [.int _], _)) rfl (u_ rfl) ?_
            refine w_t (pc := 14) (e_s := (17, 3, 18, 0, 0, .null, [])) (y_s := (18, [some (.long _), none, some (.long _), none, some (.long _), none], [.int _], _)) rfl (u_ rfl) ?_
            refine wrI (pc := 18) (len_s := 1) rfl hk ?_
            show wF _ 206 (25, [some (.ref _), some (.int _), some (.int _), some (.int _), none, none, none, none], [.int _], _) _
            refine w_t (pc := 25) (e_s := (15, 3, 30, 1, 0, .null, [])) (y_s := (30, [some (.ref _), some (.int _), some (.int _), some (.int _), none, none, none, none], [], _)) rfl (u_ rfl) ?_
            refine w_t (pc := 30) (e_s := (3, 1, 0, 0, 0, .null, [])) (y_s := (31, [some (.ref _), some (.int _), some (.int _), some (.int _), none, none, none, none], [.ref _], _)) rfl (u_ rfl) ?_
            refine w_t (pc := 31) (e_s := (1, 1, 1, 0, 0, .null, [])) (y_s := (32, [some (.ref _), some (.int _), some (.int _), some (.int _), none, none, none, none], [.int _, .ref _], _)) rfl (u_ rfl) ?_
            refine wcI (pc := 32) (len_s := 3) rfl rfl (l := [some (.ref _), some (.int _)]) rfl (wmI t_s (fun v7 h7 hk t_s => ?_))
            replace t_s := t_s hk
            refine wq3 (pc := 35) (len_s := 3) rfl rfl (fun c8_s => ?_) (fun c8_s => ?_)
            · replace t_s := t_s.1 c8_s
              refine w_t (pc := 38) (e_s := (3, 1, 0, 0, 0, .null, [])) (y_s := (39, [some (.ref _), some (.int _), some (.int _), some (.int _), none, none, none, none], [.ref _], _)) rfl (u_ rfl) ?_
              refine w_t (pc := 39) (e_s := (1, 1, 1, 0, 0, .null, [])) (y_s := (40, [some (.ref _), some (.int _), some (.int _), some (.int _), none, none, none, none], [.int _, .ref _], _)) rfl (u_ rfl) ?_
              refine wcI (pc := 40) (len_s := 3) rfl rfl (l := [some (.ref _), some (.int _)]) rfl (wmI t_s (fun v9 h9 hk t_s => ?_))
              replace t_s := t_s hk
              exact wrI (pc := 43) (len_s := 1) rfl hk t_s
            · replace t_s := t_s.2 c8_s
              refine w_t (pc := 44) (e_s := (1, 1, 3, 0, 0, .null, [])) (y_s := (45, [some (.ref _), some (.int _), some (.int _), some (.int _), none, none, none, none], [.int _], _)) rfl (u_ rfl) ?_
              refine wq1 (pc := 45) (len_s := 3) rfl rfl (fun c10_s => ?_) (fun c10_s => ?_)
              · replace t_s := t_s.1 c10_s
                refine w_t (pc := 48) (e_s := (0, 2, 0, 0, 0, .int 12, [])) (y_s := (50, [some (.ref _), some (.int _), some (.int _), some (.int _), none, none, none, none], [.int _], _)) rfl (u_ rfl) ?_
                refine w_t (pc := 50) (e_s := (17, 3, 55, 0, 0, .null, [])) (y_s := (55, [some (.ref _), some (.int _), some (.int _), some (.int _), none, none, none, none], [.int _], _)) rfl (u_ rfl) ?_
                refine w_t (pc := 55) (e_s := (1, 1, 2, 0, 0, .null, [])) (y_s := (56, [some (.ref _), some (.int _), some (.int _), some (.int _), none, none, none, none], [.int _, .int _], _)) rfl (u_ rfl) ?_
                refine w_t (pc := 56) (e_s := (7, 1, 0, 0, 0, .null, [])) (y_s := (57, [some (.ref _), some (.int _), some (.int _), some (.int _), none, none, none, none], [.int (_ + _)], _)) rfl (u_ rfl) ?_
                refine w_t (pc := 57) (e_s := (4, 2, 4, 0, 0, .null, [])) (y_s := (59, [some (.ref _), some (.int _), some (.int _), some (.int _), some (.int _), none, none, none], [], _)) rfl (u_ rfl) ?_
                refine w_t (pc := 59) (e_s := (3, 1, 0, 0, 0, .null, [])) (y_s := (60, [some (.ref _), some (.int _), some (.int _), some (.int _), some (.int _), none, none, none], [.ref _], _)) rfl (u_ rfl) ?_
                refine w20r (pc := 60) (len_s := 3) (q_s := 103) rfl (krq hk rfl) ?_
                refine w_t (pc := 63) (e_s := (1, 2, 4, 0, 0, .null, [])) (y_s := (65, [some (.ref _), some (.int _), some (.int _), some (.int _), some (.int _), none, none, none], [.int _, .ref _], _)) rfl (u_ rfl) ?_
                refine w22 (pc := 65) (len_s := 1) rfl (hk.1 103 0 104 rfl rfl) (fun c11_s => ?_)
                replace t_s := t_s c11_s
                refine w_t (pc := 66) (e_s := (4, 2, 5, 0, 0, .null, [])) (y_s := (68, [some (.ref _), some (.int _), some (.int _), some (.int _), some (.int _), some (.int _), none, none], [], _)) rfl (u_ rfl) ?_
                refine w_t (pc := 68) (e_s := (0, 1, 0, 0, 0, .int 0, [])) (y_s := (69, [some (.ref _), some (.int _), some (.int _), some (.int _), some (.int _), some (.int _), none, none], [.int _], _)) rfl (u_ rfl) ?_
                refine w_t (pc := 69) (e_s := (4, 2, 6, 0, 0, .null, [])) (y_s := (71, [some (.ref _), some (.int _), some (.int _), some (.int _), some (.int _), some (.int _), some (.int _), none], [], _)) rfl (u_ rfl) ?_
                refine w_t (pc := 71) (e_s := (0, 1, 0, 0, 0, .int 0, [])) (y_s := (72, [some (.ref _), some (.int _), some (.int _), some (.int _), some (.int _), some (.int _), some (.int _), none], [.int _], _)) rfl (u_ rfl) ?_
                refine w_t (pc := 72) (e_s := (4, 2, 7, 0, 0, .null, [])) (y_s := (74, [some (.ref _), some (.int _), some (.int _), some (.int _), some (.int _), some (.int _), some (.int _), some (.int _)], [], _)) rfl (u_ rfl) ?_
                exact t_s
              · replace t_s := t_s.2 c10_s
                refine w_t (pc := 53) (e_s := (0, 2, 0, 0, 0, .int 20, [])) (y_s := (55, [some (.ref _), some (.int _), some (.int _), some (.int _), none, none, none, none], [.int _], _)) rfl (u_ rfl) ?_
                refine w_t (pc := 55) (e_s := (1, 1, 2, 0, 0, .null, [])) (y_s := (56, [some (.ref _), some (.int _), some (.int _), some (.int _), none, none, none, none], [.int _, .int _], _)) rfl (u_ rfl) ?_
                refine w_t (pc := 56) (e_s := (7, 1, 0, 0, 0, .null, [])) (y_s := (57, [some (.ref _), some (.int _), some (.int _), some (.int _), none, none, none, none], [.int (_ + _)], _)) rfl (u_ rfl) ?_
                refine w_t (pc := 57) (e_s := (4, 2, 4, 0, 0, .null, [])) (y_s := (59, [some (.ref _), some (.int _), some (.int _), some (.int _), some (.int _), none, none, none], [], _)) rfl (u_ rfl) ?_
                refine w_t (pc := 59) (e_s := (3, 1, 0, 0, 0, .null, [])) (y_s := (60, [some (.ref _), some (.int _), some (.int _), some (.int _), some (.int _), none, none, none], [.ref _], _)) rfl (u_ rfl) ?_
                refine w20r (pc := 60) (len_s := 3) (q_s := 103) rfl (krq hk rfl) ?_
                refine w_t (pc := 63) (e_s := (1, 2, 4, 0, 0, .null, [])) (y_s := (65, [some (.ref _), some (.int _), some (.int _), some (.int _), some (.int _), none, none, none], [.int _, .ref _], _)) rfl (u_ rfl) ?_
                refine w22 (pc := 65) (len_s := 1) rfl (hk.1 103 0 104 rfl rfl) (fun c12_s => ?_)
                replace t_s := t_s c12_s
                refine w_t (pc := 66) (e_s := (4, 2, 5, 0, 0, .null, [])) (y_s := (68, [some (.ref _), some (.int _), some (.int _), some (.int _), some (.int _), some (.int _), none, none], [], _)) rfl (u_ rfl) ?_
                refine w_t (pc := 68) (e_s := (0, 1, 0, 0, 0, .int 0, [])) (y_s := (69, [some (.ref _), some (.int _), some (.int _), some (.int _), some (.int _), some (.int _), none, none], [.int _], _)) rfl (u_ rfl) ?_
                refine w_t (pc := 69) (e_s := (4, 2, 6, 0, 0, .null, [])) (y_s := (71, [some (.ref _), some (.int _), some (.int _), some (.int _), some (.int _), some (.int _), some (.int _), none], [], _)) rfl (u_ rfl) ?_
                refine w_t (pc := 71) (e_s := (0, 1, 0, 0, 0, .int 0, [])) (y_s := (72, [some (.ref _), some (.int _), some (.int _), some (.int _), some (.int _), some (.int _), some (.int _), none], [.int _], _)) rfl (u_ rfl) ?_
                refine w_t (pc := 72) (e_s := (4, 2, 7, 0, 0, .null, [])) (y_s := (74, [some (.ref _), some (.int _), some (.int _), some (.int _), some (.int _), some (.int _), some (.int _), some (.int _)], [], _)) rfl (u_ rfl) ?_
                exact t_s
/-- ColdShodModel.edge(III)I, from 74 on -/
theorem sg_206_74 {F_s : Nat} {x1_s x2_s x3 x4_s x5_s x6 x7 : Int32} {h_s : zH} {K_s : Int32 → zH → Prop} (hk : hKn h_s) (t_s : (x3.toInt = 0 → ((3 < x7.toInt → (zix x4_s < 104 → K_s x6 (h_s.1, zup h_s.2.1 103 (zix x4_s) x5_s, h_s.2.2.1, h_s.2.2.2))) ∧ (¬ 3 < x7.toInt → (zix x4_s < 104 → wF F_s 204 (0, [some (.ref 102), some (.int x1_s), some (.int x2_s), none, none], [], (h_s.1, zup h_s.2.1 103 (zix x4_s) x7, h_s.2.2.1, h_s.2.2.2)) (gI (fun v5 h5 => hKn h5 → (v5.toInt = -2 → wF F_s 206 (74, [some (.ref 102), some (.int x1_s), some (.int x2_s), some (.int x3), some (.int x4_s), some (.int x5_s), some (.int (x6 ||| (1 <<< (x7 &&& 31)))), some (.int (x7 + 1))], [], h5) (gI K_s)) ∧ (¬ v5.toInt = -2 → wF F_s 206 (74, [some (.ref 102), some (.int x1_s), some (.int x2_s), some (.int x3), some (.int x4_s), some (.int x5_s), some (.int (x6 ||| 0)), some (.int (x7 + 1))], [], h5) (gI K_s)))))))) ∧ (¬ x3.toInt = 0 → ((5 < x7.toInt → (zix x4_s < 104 → K_s x6 (h_s.1, zup h_s.2.1 103 (zix x4_s) x5_s, h_s.2.2.1, h_s.2.2.2))) ∧ (¬ 5 < x7.toInt → (zix x4_s < 104 → wF F_s 204 (0, [some (.ref 102), some (.int x1_s), some (.int x2_s), none, none], [], (h_s.1, zup h_s.2.1 103 (zix x4_s) x7, h_s.2.2.1, h_s.2.2.2)) (gI (fun v10 h10 => hKn h10 → (v10.toInt = -2 → wF F_s 206 (74, [some (.ref 102), some (.int x1_s), some (.int x2_s), some (.int x3), some (.int x4_s), some (.int x5_s), some (.int (x6 ||| (1 <<< (x7 &&& 31)))), some (.int (x7 + 1))], [], h10) (gI K_s)) ∧ (¬ v10.toInt = -2 → wF F_s 206 (74, [some (.ref 102), some (.int x1_s), some (.int x2_s), some (.int x3), some (.int x4_s), some (.int x5_s), some (.int (x6 ||| 0)), some (.int (x7 + 1))], [], h10) (gI K_s))))))))) : wF (F_s + 1) 206 (74, [some (.ref 102), some (.int x1_s), some (.int x2_s), some (.int x3), some (.int x4_s), some (.int x5_s), some (.int x6), some (.int x7)], [], h_s) (gI K_s) := by
  refine w_0 (pc := 74) (e_s := (1, 2, 7, 0, 0, .null, [])) (y_s := (76, [some (.ref _), some (.int _), some (.int _), some (.int _), some (.int _), some (.int _), some (.int _), some (.int _)], [.int _], _)) rfl (u_ rfl) ?_
  refine w_t (pc := 76) (e_s := (1, 1, 3, 0, 0, .null, [])) (y_s := (77, [some (.ref _), some (.int _), some (.int _), some (.int _), some (.int _), some (.int _), some (.int _), some (.int _)], [.int _, .int _], _)) rfl (u_ rfl) ?_
  refine wq1 (pc := 77) (len_s := 3) rfl rfl (fun c1_s => ?_) (fun c1_s => ?_)
  · replace t_s := t_s.1 c1_s
    refine w_t (pc := 80) (e_s := (0, 1, 0, 0, 0, .int 3, [])) (y_s := (81, [some (.ref _), some (.int _), some (.int _), some (.int _), some (.int _), some (.int _), some (.int _), some (.int _)], [.int _, .int _], _)) rfl (u_ rfl) ?_
    refine w_t (pc := 81) (e_s := (17, 3, 85, 0, 0, .null, [])) (y_s := (85, [some (.ref _), some (.int _), some (.int _), some (.int _), some (.int _), some (.int _), some (.int _), some (.int _)], [.int _, .int _], _)) rfl (u_ rfl) ?_
    refine wi4 (pc := 85) (len_s := 3) (Y := 3) rfl rfl (by decide) (fun c2_s => ?_) (fun c2_s => ?_)
    · replace t_s := t_s.1 c2_s
      refine w_t (pc := 127) (e_s := (3, 1, 0, 0, 0, .null, [])) (y_s := (128, [some (.ref _), some (.int _), some (.int _), some (.int _), some (.int _), some (.int _), some (.int _), some (.int _)], [.ref _], _)) rfl (u_ rfl) ?_
      refine w20r (pc := 128) (len_s := 3) (q_s := 103) rfl (krq hk rfl) ?_
      refine w_t (pc := 131) (e_s := (1, 2, 4, 0, 0, .null, [])) (y_s := (133, [some (.ref _), some (.int _), some (.int _), some (.int _), some (.int _), some (.int _), some (.int _), some (.int _)], [.int _, .ref _], _)) rfl (u_ rfl) ?_
      refine w_t (pc := 133) (e_s := (1, 2, 5, 0, 0, .null, [])) (y_s := (135, [some (.ref _), some (.int _), some (.int _), some (.int _), some (.int _), some (.int _), some (.int _), some (.int _)], [.int _, .int _, .ref _], _)) rfl (u_ rfl) ?_
      refine w25 (pc := 135) (len_s := 1) rfl (hk.1 103 0 104 rfl rfl) (fun c3_s => ?_)
      replace t_s := t_s c3_s
      refine w_t (pc := 136) (e_s := (1, 2, 6, 0, 0, .null, [])) (y_s := (138, [some (.ref _), some (.int _), some (.int _), some (.int _), some (.int _), some (.int _), some (.int _), some (.int _)], [.int _], _)) rfl (u_ rfl) ?_
      exact wrI (pc := 138) (len_s := 1) rfl hk t_s
    · replace t_s := t_s.2 c2_s
      refine w_t (pc := 88) (e_s := (3, 1, 0, 0, 0, .null, [])) (y_s := (89, [some (.ref _), some (.int _), some (.int _), some (.int _), some (.int _), some (.int _), some (.int _), some (.int _)], [.ref _], _)) rfl (u_ rfl) ?_
      refine w20r (pc := 89) (len_s := 3) (q_s := 103) rfl (krq hk rfl) ?_
      refine w_t (pc := 92) (e_s := (1, 2, 4, 0, 0, .null, [])) (y_s := (94, [some (.ref _), some (.int _), some (.int _), some (.int _), some (.int _), some (.int _), some (.int _), some (.int _)], [.int _, .ref _], _)) rfl (u_ rfl) ?_
      refine w_t (pc := 94) (e_s := (1, 2, 7, 0, 0, .null, [])) (y_s := (96, [some (.ref _), some (.int _), some (.int _), some (.int _), some (.int _), some (.int _), some (.int _), some (.int _)], [.int _, .int _, .ref _], _)) rfl (u_ rfl) ?_
      refine w25 (pc := 96) (len_s := 1) rfl (hk.1 103 0 104 rfl rfl) (fun c4_s => ?_)
      replace t_s := t_s c4_s
      refine w_t (pc := 97) (e_s := (1, 2, 6, 0, 0, .null, [])) (y_s := (99, [some (.ref _), some (.int _), some (.int _), some (.int _), some (.int _), some (.int _), some (.int _), some (.int _)], [.int _], _)) rfl (u_ rfl) ?_
      refine w_t (pc := 99) (e_s := (3, 1, 0, 0, 0, .null, [])) (y_s := (100, [some (.ref _), some (.int _), some (.int _), some (.int _), some (.int _), some (.int _), some (.int _), some (.int _)], [.ref _, .int _], _)) rfl (u_ rfl) ?_
      refine w_t (pc := 100) (e_s := (1, 1, 1, 0, 0, .null, [])) (y_s := (101, [some (.ref _), some (.int _), some (.int _), some (.int _), some (.int _), some (.int _), some (.int _), some (.int _)], [.int _, .ref _, .int _], _)) rfl (u_ rfl) ?_
      refine w_t (pc := 101) (e_s := (1, 1, 2, 0, 0, .null, [])) (y_s := (102, [some (.ref _), some (.int _), some (.int _), some (.int _), some (.int _), some (.int _), some (.int _), some (.int _)], [.int _, .int _, .ref _, .int _], _)) rfl (u_ rfl) ?_
      refine wcI (pc := 102) (len_s := 3) rfl rfl (l := [some (.ref _), some (.int _), some (.int _), none, none]) rfl (wmI t_s (fun v5 h5 hk t_s => ?_))
      replace t_s := t_s hk
      refine w_t (pc := 105) (e_s := (0, 2, 0, 0, 0, .int (-2), [])) (y_s := (107, [some (.ref _), some (.int _), some (.int _), some (.int _), some (.int _), some (.int _), some (.int _), some (.int _)], [.int _, .int _, .int _], _)) rfl (u_ rfl) ?_
      refine wi1 (pc := 107) (len_s := 3) (Y := -2) rfl rfl (by decide) (fun c6_s => ?_) (fun c6_s => ?_)
      · replace t_s := t_s.1 c6_s
        refine w_t (pc := 110) (e_s := (0, 1, 0, 0, 0, .int 1, [])) (y_s := (111, [some (.ref _), some (.int _), some (.int _), some (.int _), some (.int _), some (.int _), some (.int _), some (.int _)], [.int _, .int _], _)) rfl (u_ rfl) ?_
        refine w_t (pc := 111) (e_s := (1, 2, 7, 0, 0, .null, [])) (y_s := (113, [some (.ref _), some (.int _), some (.int _), some (.int _), some (.int _), some (.int _), some (.int _), some (.int _)], [.int _, .int _, .int _], _)) rfl (u_ rfl) ?_
        refine w_t (pc := 113) (e_s := (7, 1, 0, 6, 0, .null, [])) (y_s := (114, [some (.ref _), some (.int _), some (.int _), some (.int _), some (.int _), some (.int _), some (.int _), some (.int _)], [.int ((_ : Int32) <<< ((_ : Int32) &&& 31)), .int _], _)) rfl (u_ rfl) ?_
        refine w_t (pc := 114) (e_s := (17, 3, 118, 0, 0, .null, [])) (y_s := (118, [some (.ref _), some (.int _), some (.int _), some (.int _), some (.int _), some (.int _), some (.int _), some (.int _)], [.int _, .int _], _)) rfl (u_ rfl) ?_
        refine w_t (pc := 118) (e_s := (7, 1, 0, 4, 0, .null, [])) (y_s := (119, [some (.ref _), some (.int _), some (.int _), some (.int _), some (.int _), some (.int _), some (.int _), some (.int _)], [.int (_ ||| _)], _)) rfl (u_ rfl) ?_
        refine w_t (pc := 119) (e_s := (4, 2, 6, 0, 0, .null, [])) (y_s := (121, [some (.ref _), some (.int _), some (.int _), some (.int _), some (.int _), some (.int _), some (.int _), some (.int _)], [], _)) rfl (u_ rfl) ?_
        refine w_t (pc := 121) (e_s := (19, 3, 7, 0, 0, .int 1, [])) (y_s := (124, [some (.ref _), some (.int _), some (.int _), some (.int _), some (.int _), some (.int _), some (.int _), some (.int _)], [], _)) rfl (u_ rfl) ?_
        refine w_t (pc := 124) (e_s := (17, 3, 74, 0, 0, .null, [])) (y_s := (74, [some (.ref _), some (.int _), some (.int _), some (.int _), some (.int _), some (.int _), some (.int _), some (.int _)], [], _)) rfl (u_ rfl) ?_
        exact t_s
      · replace t_s := t_s.2 c6_s
        refine w_t (pc := 117) (e_s := (0, 1, 0, 0, 0, .int 0, [])) (y_s := (118, [some (.ref _), some (.int _), some (.int _), some (.int _), some (.int _), some (.int _), some (.int _), some (.int _)], [.int _, .int _], _)) rfl (u_ rfl) ?_
        refine w_t (pc := 118) (e_s := (7, 1, 0, 4, 0, .null, [])) (y_s := (119, [some (.ref _), some (.int _), some (.int _), some (.int _), some (.int _), some (.int _), some (.int _), some (.int _)], [.int (_ ||| _)], _)) rfl (u_ rfl) ?_
        refine w_t (pc := 119) (e_s := (4, 2, 6, 0, 0, .null, [])) (y_s := (121, [some (.ref _), some (.int _), some (.int _), some (.int _), some (.int _), some (.int _), some (.int _), some (.int _)], [], _)) rfl (u_ rfl) ?_
        refine w_t (pc := 121) (e_s := (19, 3, 7, 0, 0, .int 1, [])) (y_s := (124, [some (.ref _), some (.int _), some (.int _), some (.int _), some (.int _), some (.int _), some (.int _), some (.int _)], [], _)) rfl (u_ rfl) ?_
        refine w_t (pc := 124) (e_s := (17, 3, 74, 0, 0, .null, [])) (y_s := (74, [some (.ref _), some (.int _), some (.int _), some (.int _), some (.int _), some (.int _), some (.int _), some (.int _)], [], _)) rfl (u_ rfl) ?_
        exact t_s
  · replace t_s := t_s.2 c1_s
    refine w_t (pc := 84) (e_s := (0, 1, 0, 0, 0, .int 5, [])) (y_s := (85, [some (.ref _), some (.int _), some (.int _), some (.int _), some (.int _), some (.int _), some (.int _), some (.int _)], [.int _, .int _], _)) rfl (u_ rfl) ?_
    refine wi4 (pc := 85) (len_s := 3) (Y := 5) rfl rfl (by decide) (fun c7_s => ?_) (fun c7_s => ?_)
    · replace t_s := t_s.1 c7_s
      refine w_t (pc := 127) (e_s := (3, 1, 0, 0, 0, .null, [])) (y_s := (128, [some (.ref _), some (.int _), some (.int _), some (.int _), some (.int _), some (.int _), some (.int _), some (.int _)], [.ref _], _)) rfl (u_ rfl) ?_
      refine w20r (pc := 128) (len_s := 3) (q_s := 103) rfl (krq hk rfl) ?_
      refine w_t (pc := 131) (e_s := (1, 2, 4, 0, 0, .null, [])) (y_s := (133, [some (.ref _), some (.int _), some (.int _), some (.int _), some (.int _), some (.int _), some (.int _), some (.int _)], [.int _, .ref _], _)) rfl (u_ rfl) ?_
      refine w_t (pc := 133) (e_s := (1, 2, 5, 0, 0, .null, [])) (y_s := (135, [some (.ref _), some (.int _), some (.int _), some (.int _), some (.int _), some (.int _), some (.int _), some (.int _)], [.int _, .int _, .ref _], _)) rfl (u_ rfl) ?_
      refine w25 (pc := 135) (len_s := 1) rfl (hk.1 103 0 104 rfl rfl) (fun c8_s => ?_)
      replace t_s := t_s c8_s
      refine w_t (pc := 136) (e_s := (1, 2, 6, 0, 0, .null, [])) (y_s := (138, [some (.ref _), some (.int _), some (.int _), some (.int _), some (.int _), some (.int _), some (.int _), some (.int _)], [.int _], _)) rfl (u_ rfl) ?_
      exact wrI (pc := 138) (len_s := 1) rfl hk t_s
    · replace t_s := t_s.2 c7_s
      refine w_t (pc := 88) (e_s := (3, 1, 0, 0, 0, .null, [])) (y_s := (89, [some (.ref _), some (.int _), some (.int _), some (.int _), some (.int _), some (.int _), some (.int _), some (.int _)], [.ref _], _)) rfl (u_ rfl) ?_
      refine w20r (pc := 89) (len_s := 3) (q_s := 103) rfl (krq hk rfl) ?_
      refine w_t (pc := 92) (e_s := (1, 2, 4, 0, 0, .null, [])) (y_s := (94, [some (.ref _), some (.int _), some (.int _), some (.int _), some (.int _), some (.int _), some (.int _), some (.int _)], [.int _, .ref _], _)) rfl (u_ rfl) ?_
      refine w_t (pc := 94) (e_s := (1, 2, 7, 0, 0, .null, [])) (y_s := (96, [some (.ref _), some (.int _), some (.int _), some (.int _), some (.int _), some (.int _), some (.int _), some (.int _)], [.int _, .int _, .ref _], _)) rfl (u_ rfl) ?_
      refine w25 (pc := 96) (len_s := 1) rfl (hk.1 103 0 104 rfl rfl) (fun c9_s => ?_)
      replace t_s := t_s c9_s
      refine w_t (pc := 97) (e_s := (1, 2, 6, 0, 0, .null, [])) (y_s := (99, [some (.ref _), some (.int _), some (.int _), some (.int _), some (.int _), some (.int _), some (.int _), some (.int _)], [.int _], _)) rfl (u_ rfl) ?_
      refine w_t (pc := 99) (e_s := (3, 1, 0, 0, 0, .null, [])) (y_s := (100, [some (.ref _), some (.int _), some (.int _), some (.int _), some (.int _), some (.int _), some (.int _), some (.int _)], [.ref _, .int _], _)) rfl (u_ rfl) ?_
      refine w_t (pc := 100) (e_s := (1, 1, 1, 0, 0, .null, [])) (y_s := (101, [some (.ref _), some (.int _), some (.int _), some (.int _), some (.int _), some (.int _), some (.int _), some (.int _)], [.int _, .ref _, .int _], _)) rfl (u_ rfl) ?_
      refine w_t (pc := 101) (e_s := (1, 1, 2, 0, 0, .null, [])) (y_s := (102, [some (.ref _), some (.int _), some (.int _), some (.int _), some (.int _), some (.int _), some (.int _), some (.int _)], [.int _, .int _, .ref _, .int _], _)) rfl (u_ rfl) ?_
      refine wcI (pc := 102) (len_s := 3) rfl rfl (l := [some (.ref _), some (.int _), some (.int _), none, none]) rfl (wmI t_s (fun v10 h10 hk t_s => ?_))
      replace t_s := t_s hk
      refine w_t (pc := 105) (e_s := (0, 2, 0, 0, 0, .int (-2), [])) (y_s := (107, [some (.ref _), some (.int _), some (.int _), some (.int _), some (.int _), some (.int _), some (.int _), some (.int _)], [.int _, .int _, .int _], _)) rfl (u_ rfl) ?_
      refine wi1 (pc := 107) (len_s := 3) (Y := -2) rfl rfl (by decide) (fun c11_s => ?_) (fun c11_s => ?_)
      · replace t_s := t_s.1 c11_s
        refine w_t (pc := 110) (e_s := (0, 1, 0, 0, 0, .int 1, [])) (y_s := (111, [some (.ref _), some (.int _), some (.int _), some (.int _), some (.int _), some (.int _), some (.int _), some (.int _)], [.int _, .int _], _)) rfl (u_ rfl) ?_
        refine w_t (pc := 111) (e_s := (1, 2, 7, 0, 0, .null, [])) (y_s := (113, [some (.ref _), some (.int _), some (.int _), some (.int _), some (.int _), some (.int _), some (.int _), some (.int _)], [.int _, .int _, .int _], _)) rfl (u_ rfl) ?_
        refine w_t (pc := 113) (e_s := (7, 1, 0, 6, 0, .null, [])) (y_s := (114, [some (.ref _), some (.int _), some (.int _), some (.int _), some (.int _), some (.int _), some (.int _), some (.int _)], [.int ((_ : Int32) <<< ((_ : Int32) &&& 31)), .int _], _)) rfl (u_ rfl) ?_
        refine w_t (pc := 114) (e_s := (17, 3, 118, 0, 0, .null, [])) (y_s := (118, [some (.ref _), some (.int _), some (.int _), some (.int _), some (.int _), some (.int _), some (.int _), some (.int _)], [.int _, .int _], _)) rfl (u_ rfl) ?_
        refine w_t (pc := 118) (e_s := (7, 1, 0, 4, 0, .null, [])) (y_s := (119, [some (.ref _), some (.int _), some (.int _), some (.int _), some (.int _), some (.int _), some (.int _), some (.int _)], [.int (_ ||| _)], _)) rfl (u_ rfl) ?_
        refine w_t (pc := 119) (e_s := (4, 2, 6, 0, 0, .null, [])) (y_s := (121, [some (.ref _), some (.int _), some (.int _), some (.int _), some (.int _), some (.int _), some (.int _), some (.int _)], [], _)) rfl (u_ rfl) ?_
        refine w_t (pc := 121) (e_s := (19, 3, 7, 0, 0, .int 1, [])) (y_s := (124, [some (.ref _), some (.int _), some (.int _), some (.int _), some (.int _), some (.int _), some (.int _), some (.int _)], [], _)) rfl (u_ rfl) ?_
        refine w_t (pc := 124) (e_s := (17, 3, 74, 0, 0, .null, [])) (y_s := (74, [some (.ref _), some (.int _), some (.int _), some (.int _), some (.int _), some (.int _), some (.int _), some (.int _)], [], _)) rfl (u_ rfl) ?_
        exact t_s
      · replace t_s := t_s.2 c11_s
        refine w_t (pc := 117) (e_s := (0, 1, 0, 0, 0, .int 0, [])) (y_s := (118, [some (.ref _), some (.int _), some (.int _), some (.int _), some (.int _), some (.int _), some (.int _), some (.int _)], [.int _, .int _], _)) rfl (u_ rfl) ?_
        refine w_t (pc := 118) (e_s := (7, 1, 0, 4, 0, .null, [])) (y_s := (119, [some (.ref _), some (.int _), some (.int _), some (.int _), some (.int _), some (.int _), some (.int _), some (.int _)], [.int (_ ||| _)], _)) rfl (u_ rfl) ?_
        refine w_t (pc := 119) (e_s := (4, 2, 6, 0, 0, .null, [])) (y_s := (121, [some (.ref _), some (.int _), some (.int _), some (.int _), some (.int _), some (.int _), some (.int _), some (.int _)], [], _)) rfl (u_ rfl) ?_
        refine w_t (pc := 121) (e_s := (19, 3, 7, 0, 0, .int 1, [])) (y_s := (124, [some (.ref _), some (.int _), some (.int _), some (.int _), some (.int _), some (.int _), some (.int _), some (.int _)], [], _)) rfl (u_ rfl) ?_
        refine w_t (pc := 124) (e_s := (17, 3, 74, 0, 0, .null, [])) (y_s := (74, [some (.ref _), some (.int _), some (.int _), some (.int _), some (.int _), some (.int _), some (.int _), some (.int _)], [], _)) rfl (u_ rfl) ?_
        exact t_s
