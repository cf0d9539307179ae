/-! What ended runs of worth give: printed by a program (wip/fun/sg.py). -/
/-- ColdShod$LawCode.worth([I)I, from 0 on -/
theorem sg_58_0 {F_s : Nat} {q_s : Nat} {h_s : zH} {K_s : Int32 → zH → Prop} (hm_s : q_s = 14 ∨ q_s = 17) (hk : hKn h_s) (t_s : ((h_s.2.1 q_s 2).toInt = 0 → K_s (((1 + (h_s.2.1 13 5)) + ((h_s.2.1 13 3) / 3)) - ((h_s.2.1 13 0) / 2)) h_s) ∧ (¬ (h_s.2.1 q_s 2).toInt = 0 → wF F_s 58 (32, [some (.ref q_s), some (.ref 13), some (.int 0), some (.int 0), some (.int 0), none, none, none], [], h_s) (gI K_s))) : wF (F_s + 1) 58 (0, [some (.ref q_s), some (.ref 13), none, none, none, none, none, none], [], h_s) (gI K_s) := by
  refine w_0 (pc := 0) (e_s := (3, 1, 0, 0, 0, .null, [])) (y_s := (1, [some (.ref _), some (.ref _), none, none, none, none, none, none], [.ref _], _)) rfl (u_ rfl) ?_
  refine w20 (pc := 1) (len_s := 3) rfl ?_
  refine wq1 (pc := 4) (len_s := 3) rfl rfl (fun c1_s => ?_) (fun c1_s => ?_)
  · replace t_s := t_s.1 c1_s
    refine w_t (pc := 7) (e_s := (0, 1, 0, 0, 0, .int 1, [])) (y_s := (8, [some (.ref _), some (.ref _), none, none, none, none, none, none], [.int _], _)) rfl (u_ rfl) ?_
    refine w_t (pc := 8) (e_s := (3, 1, 1, 0, 0, .null, [])) (y_s := (9, [some (.ref _), some (.ref _), none, none, none, none, none, none], [.ref _, .int _], _)) rfl (u_ rfl) ?_
    refine w_t (pc := 9) (e_s := (0, 1, 0, 0, 0, .int 5, [])) (y_s := (10, [some (.ref _), some (.ref _), none, none, none, none, none, none], [.int _, .ref _, .int _], _)) rfl (u_ rfl) ?_
    refine w22 (pc := 10) (len_s := 1) rfl (hk.1 13 0 6 rfl rfl) (fun c2_s => ?_)
    refine w_t (pc := 11) (e_s := (7, 1, 0, 0, 0, .null, [])) (y_s := (12, [some (.ref _), some (.ref _), none, none, none, none, none, none], [.int (_ + _)], _)) rfl (u_ rfl) ?_
    refine w_t (pc := 12) (e_s := (3, 1, 1, 0, 0, .null, [])) (y_s := (13, [some (.ref _), some (.ref _), none, none, none, none, none, none], [.ref _, .int _], _)) rfl (u_ rfl) ?_
    refine w_t (pc := 13) (e_s := (0, 1, 0, 0, 0, .int 3, [])) (y_s := (14, [some (.ref _), some (.ref _), none, none, none, none, none, none], [.int _, .ref _, .int _], _)) rfl (u_ rfl) ?_
    refine w22 (pc := 14) (len_s := 1) rfl (hk.1 13 0 6 rfl rfl) (fun c3_s => ?_)
    refine w_t (pc := 15) (e_s := (0, 1, 0, 0, 0, .int 3, [])) (y_s := (16, [some (.ref _), some (.ref _), none, none, none, none, none, none], [.int _, .int _, .int _], _)) rfl (u_ rfl) ?_
    refine w8 (pc := 16) (len_s := 1) rfl ?_
    refine w_t (pc := 17) (e_s := (7, 1, 0, 0, 0, .null, [])) (y_s := (18, [some (.ref _), some (.ref _), none, none, none, none, none, none], [.int (_ + _)], _)) rfl (u_ rfl) ?_
    refine w_t (pc := 18) (e_s := (3, 1, 1, 0, 0, .null, [])) (y_s := (19, [some (.ref _), some (.ref _), none, none, none, none, none, none], [.ref _, .int _], _)) rfl (u_ rfl) ?_
    refine w_t (pc := 19) (e_s := (0, 1, 0, 0, 0, .int 0, [])) (y_s := (20, [some (.ref _), some (.ref _), none, none, none, none, none, none], [.int _, .ref _, .int _], _)) rfl (u_ rfl) ?_
    refine w22 (pc := 20) (len_s := 1) rfl (hk.1 13 0 6 rfl rfl) (fun c4_s => ?_)
    refine w_t (pc := 21) (e_s := (0, 1, 0, 0, 0, .int 2, [])) (y_s := (22, [some (.ref _), some (.ref _), none, none, none, none, none, none], [.int _, .int _, .int _], _)) rfl (u_ rfl) ?_
    refine w8 (pc := 22) (len_s := 1) rfl ?_
    refine w_t (pc := 23) (e_s := (7, 1, 0, 1, 0, .null, [])) (y_s := (24, [some (.ref _), some (.ref _), none, none, none, none, none, none], [.int (_ - _)], _)) rfl (u_ rfl) ?_
    exact wrI (pc := 24) (len_s := 1) rfl hk t_s
  · replace t_s := t_s.2 c1_s
    refine w_t (pc := 25) (e_s := (0, 1, 0, 0, 0, .int 0, [])) (y_s := (26, [some (.ref _), some (.ref _), none, none, none, none, none, none], [.int _], _)) rfl (u_ rfl) ?_
    refine w_t (pc := 26) (e_s := (4, 1, 2, 0, 0, .null, [])) (y_s := (27, [some (.ref _), some (.ref _), some (.int _), none, none, none, none, none], [], _)) rfl (u_ rfl) ?_
    refine w_t (pc := 27) (e_s := (0, 1, 0, 0, 0, .int 0, [])) (y_s := (28, [some (.ref _), some (.ref _), some (.int _), none, none, none, none, none], [.int _], _)) rfl (u_ rfl) ?_
    refine w_t (pc := 28) (e_s := (4, 1, 3, 0, 0, .null, [])) (y_s := (29, [some (.ref _), some (.ref _), some (.int _), some (.int _), none, none, none, none], [], _)) rfl (u_ rfl) ?_
    refine w_t (pc := 29) (e_s := (0, 1, 0, 0, 0, .int 0, [])) (y_s := (30, [some (.ref _), some (.ref _), some (.int _), some (.int _), none, none, none, none], [.int _], _)) rfl (u_ rfl) ?_
    refine w_t (pc := 30) (e_s := (4, 2, 4, 0, 0, .null, [])) (y_s := (32, [some (.ref _), some (.ref _), some (.int _), some (.int _), some (.int _), none, none, none], [], _)) rfl (u_ rfl) ?_
    exact t_s
/-- ColdShod$LawCode.worth([I)I, from 32 on -/
theorem sg_58_32 {F_s : Nat} {q_s : Nat} {x2_s x3 x4_s : Int32} {l5 l6 l7 : Option Value} {h_s : zH} {K_s : Int32 → zH → Prop} (hm_s : q_s = 14 ∨ q_s = 17) (hk : hKn h_s) (t_s : (x4_s.toInt < 242 → ((x3.toInt < (h_s.2.1 q_s 2).toInt → (zix x3 < 242 → ((x3 + 1).toInt < (h_s.2.1 q_s 2).toInt → (zix (x3 + 1) < 242 → wF F_s 58 (83, [some (.ref q_s), some (.ref 13), some (.int x2_s), some (.int (x3 + 1)), some (.int x4_s), some (.int (h_s.2.1 (q_s + 1) (zix x3))), some (.int (h_s.2.1 (q_s + 1) (zix (x3 + 1)))), l7], [], h_s) (gI K_s))) ∧ (¬ (x3 + 1).toInt < (h_s.2.1 q_s 2).toInt → wF F_s 58 (83, [some (.ref q_s), some (.ref 13), some (.int x2_s), some (.int (x3 + 1)), some (.int x4_s), some (.int (h_s.2.1 (q_s + 1) (zix x3))), some (.int 0), l7], [], h_s) (gI K_s)))) ∧ (¬ x3.toInt < (h_s.2.1 q_s 2).toInt → K_s 0 h_s))) ∧ (¬ x4_s.toInt < 242 → K_s 0 h_s)) : wF (F_s + 1) 58 (32, [some (.ref q_s), some (.ref 13), some (.int x2_s), some (.int x3), some (.int x4_s), l5, l6, l7], [], h_s) (gI K_s) := by
  refine w_0 (pc := 32) (e_s := (1, 2, 4, 0, 0, .null, [])) (y_s := (34, [some (.ref _), some (.ref _), some (.int _), some (.int _), some (.int _), _, _, _], [.int _], _)) rfl (u_ rfl) ?_
  refine w_t (pc := 34) (e_s := (0, 3, 0, 0, 0, .int 242, [])) (y_s := (37, [some (.ref _), some (.ref _), some (.int _), some (.int _), some (.int _), _, _, _], [.int _, .int _], _)) rfl (u_ rfl) ?_
  refine wi3 (pc := 37) (len_s := 3) (Y := 242) rfl rfl (by decide) (fun c1_s => ?_) (fun c1_s => ?_)
  · replace t_s := t_s.1 c1_s
    refine w_t (pc := 40) (e_s := (1, 1, 3, 0, 0, .null, [])) (y_s := (41, [some (.ref _), some (.ref _), some (.int _), some (.int _), some (.int _), _, _, _], [.int _], _)) rfl (u_ rfl) ?_
    refine w_t (pc := 41) (e_s := (3, 1, 0, 0, 0, .null, [])) (y_s := (42, [some (.ref _), some (.ref _), some (.int _), some (.int _), some (.int _), _, _, _], [.ref _, .int _], _)) rfl (u_ rfl) ?_
    refine w20 (pc := 42) (len_s := 3) rfl ?_
    refine wi3 (pc := 45) (len_s := 3) rfl rfl rfl (fun c2_s => ?_) (fun c2_s => ?_)
    · replace t_s := t_s.1 c2_s
      refine w_t (pc := 48) (e_s := (3, 1, 0, 0, 0, .null, [])) (y_s := (49, [some (.ref _), some (.ref _), some (.int _), some (.int _), some (.int _), _, _, _], [.ref _], _)) rfl (u_ rfl) ?_
      refine w20r (pc := 49) (len_s := 3) (q_s := q_s + 1) rfl (klaw1 hk hm_s) ?_
      refine w_t (pc := 52) (e_s := (1, 1, 3, 0, 0, .null, [])) (y_s := (53, [some (.ref _), some (.ref _), some (.int _), some (.int _), some (.int _), _, _, _], [.int _, .ref _], _)) rfl (u_ rfl) ?_
      refine w22 (pc := 53) (len_s := 1) rfl (klz1 hk hm_s) (fun c3_s => ?_)
      replace t_s := t_s c3_s
      refine w_t (pc := 54) (e_s := (4, 2, 5, 0, 0, .null, [])) (y_s := (56, [some (.ref _), some (.ref _), some (.int _), some (.int _), some (.int _), some (.int _), _, _], [], _)) rfl (u_ rfl) ?_
      refine w_t (pc := 56) (e_s := (1, 1, 3, 0, 0, .null, [])) (y_s := (57, [some (.ref _), some (.ref _), some (.int _), some (.int _), some (.int _), some (.int _), _, _], [.int _], _)) rfl (u_ rfl) ?_
      refine w_t (pc := 57) (e_s := (0, 1, 0, 0, 0, .int 1, [])) (y_s := (58, [some (.ref _), some (.ref _), some (.int _), some (.int _), some (.int _), some (.int _), _, _], [.int _, .int _], _)) rfl (u_ rfl) ?_
      refine w_t (pc := 58) (e_s := (7, 1, 0, 0, 0, .null, [])) (y_s := (59, [some (.ref _), some (.ref _), some (.int _), some (.int _), some (.int _), some (.int _), _, _], [.int (_ + _)], _)) rfl (u_ rfl) ?_
      refine w_t (pc := 59) (e_s := (3, 1, 0, 0, 0, .null, [])) (y_s := (60, [some (.ref _), some (.ref _), some (.int _), some (.int _), some (.int _), some (.int _), _, _], [.ref _, .int _], _)) rfl (u_ rfl) ?_
      refine w20 (pc := 60) (len_s := 3) rfl ?_
      refine wi3 (pc := 63) (len_s := 3) rfl rfl rfl (fun c4_s => ?_) (fun c4_s => ?_)
      · replace t_s := t_s.1 c4_s
        refine w_t (pc := 66) (e_s := (3, 1, 0, 0, 0, .null, [])) (y_s := (67, [some (.ref _), some (.ref _), some (.int _), some (.int _), some (.int _), some (.int _), _, _], [.ref _], _)) rfl (u_ rfl) ?_
        refine w20r (pc := 67) (len_s := 3) (q_s := q_s + 1) rfl (klaw1 hk hm_s) ?_
        refine w_t (pc := 70) (e_s := (1, 1, 3, 0, 0, .null, [])) (y_s := (71, [some (.ref _), some (.ref _), some (.int _), some (.int _), some (.int _), some (.int _), _, _], [.int _, .ref _], _)) rfl (u_ rfl) ?_
        refine w_t (pc := 71) (e_s := (0, 1, 0, 0, 0, .int 1, [])) (y_s := (72, [some (.ref _), some (.ref _), some (.int _), some (.int _), some (.int _), some (.int _), _, _], [.int _, .int _, .ref _], _)) rfl (u_ rfl) ?_
        refine w_t (pc := 72) (e_s := (7, 1, 0, 0, 0, .null, [])) (y_s := (73, [some (.ref _), some (.ref _), some (.int _), some (.int _), some (.int _), some (.int _), _, _], [.int (_ + _), .ref _], _)) rfl (u_ rfl) ?_
        refine w22 (pc := 73) (len_s := 1) rfl (klz1 hk hm_s) (fun c5_s => ?_)
        replace t_s := t_s c5_s
        refine w_t (pc := 74) (e_s := (17, 3, 78, 0, 0, .null, [])) (y_s := (78, [some (.ref _), some (.ref _), some (.int _), some (.int _), some (.int _), some (.int _), _, _], [.int _], _)) rfl (u_ rfl) ?_
        refine w_t (pc := 78) (e_s := (4, 2, 6, 0, 0, .null, [])) (y_s := (80, [some (.ref _), some (.ref _), some (.int _), some (.int _), some (.int _), some (.int _), some (.int _), _], [], _)) rfl (u_ rfl) ?_
        refine w_t (pc := 80) (e_s := (19, 3, 3, 0, 0, .int 1, [])) (y_s := (83, [some (.ref _), some (.ref _), some (.int _), some (.int _), some (.int _), some (.int _), some (.int _), _], [], _)) rfl (u_ rfl) ?_
        exact t_s
      · replace t_s := t_s.2 c4_s
        refine w_t (pc := 77) (e_s := (0, 1, 0, 0, 0, .int 0, [])) (y_s := (78, [some (.ref _), some (.ref _), some (.int _), some (.int _), some (.int _), some (.int _), _, _], [.int _], _)) rfl (u_ rfl) ?_
        refine w_t (pc := 78) (e_s := (4, 2, 6, 0, 0, .null, [])) (y_s := (80, [some (.ref _), some (.ref _), some (.int _), some (.int _), some (.int _), some (.int _), some (.int _), _], [], _)) rfl (u_ rfl) ?_
        refine w_t (pc := 80) (e_s := (19, 3, 3, 0, 0, .int 1, [])) (y_s := (83, [some (.ref _), some (.ref _), some (.int _), some (.int _), some (.int _), some (.int _), some (.int _), _], [], _)) rfl (u_ rfl) ?_
        exact t_s
    · replace t_s := t_s.2 c2_s
      refine w_t (pc := 313) (e_s := (0, 1, 0, 0, 0, .int 0, [])) (y_s := (314, [some (.ref _), some (.ref _), some (.int _), some (.int _), some (.int _), _, _, _], [.int _], _)) rfl (u_ rfl) ?_
      exact wrI (pc := 314) (len_s := 1) rfl hk t_s
  · replace t_s := t_s.2 c1_s
    refine w_t (pc := 313) (e_s := (0, 1, 0, 0, 0, .int 0, [])) (y_s := (314, [some (.ref _), some (.ref _), some (.int _), some (.int _), some (.int _), _, _, _], [.int _], _)) rfl (u_ rfl) ?_
    exact wrI (pc := 314) (len_s := 1) rfl hk t_s
/-- ColdShod$LawCode.worth([I)I, from 83 on -/
theorem sg_58_83 {F_s : Nat} {q_s : Nat} {x2_s x3 x4_s x5_s x6 : Int32} {l7 : Option Value} {h_s : zH} {K_s : Int32 → zH → Prop} (hm_s : q_s = 14 ∨ q_s = 17) (hk : hKn h_s) (t_s : (x5_s.toInt = 48 → ((x2_s.toInt < 64 → ((x5_s.toInt = 109 → ((x6.toInt < 0 → K_s 0 h_s) ∧ (¬ x6.toInt < 0 → ((x6.toInt < 6 → (zix x2_s < 64 → wF F_s 58 (32, [some (.ref q_s), some (.ref 13), some (.int (x2_s + 1)), some (.int (x3 + 1)), some (.int (x4_s + 1)), some (.int x5_s), some (.int x6), l7], [], (h_s.1, zup h_s.2.1 (q_s + 2) (zix x2_s) x6, h_s.2.2.1, h_s.2.2.2)) (gI K_s))) ∧ (¬ x6.toInt < 6 → K_s 0 h_s))))) ∧ (¬ x5_s.toInt = 109 → (zix x2_s < 64 → wF F_s 58 (32, [some (.ref q_s), some (.ref 13), some (.int (x2_s + 1)), some (.int (x3 + 1)), some (.int (x4_s + 1)), some (.int x5_s), some (.int x6), l7], [], (h_s.1, zup h_s.2.1 (q_s + 2) (zix x2_s) x6, h_s.2.2.1, h_s.2.2.2)) (gI K_s))))) ∧ (¬ x2_s.toInt < 64 → K_s 0 h_s))) ∧ (¬ x5_s.toInt = 48 → ((x5_s.toInt = 109 → ((x2_s.toInt < 64 → ((x6.toInt < 0 → K_s 0 h_s) ∧ (¬ x6.toInt < 0 → ((x6.toInt < 6 → (zix x6 < 6 → (zix x2_s < 64 → wF F_s 58 (32, [some (.ref q_s), some (.ref 13), some (.int (x2_s + 1)), some (.int (x3 + 1)), some (.int (x4_s + 1)), some (.int x5_s), some (.int x6), l7], [], (h_s.1, zup h_s.2.1 (q_s + 2) (zix x2_s) (h_s.2.1 13 (zix x6)), h_s.2.2.1, h_s.2.2.2)) (gI K_s)))) ∧ (¬ x6.toInt < 6 → K_s 0 h_s))))) ∧ (¬ x2_s.toInt < 64 → K_s 0 h_s))) ∧ (¬ x5_s.toInt = 109 → ((x2_s.toInt < 1 → K_s 0 h_s) ∧ (¬ x2_s.toInt < 1 → (zix (x2_s - 1) < 64 → (x5_s.toInt = 33 → (((h_s.2.1 (q_s + 2) (zix (x2_s - 1))).toInt = 0 → wF F_s 58 (32, [some (.ref q_s), some (.ref 13), some (.int x2_s), some (.int x3), some (.int (x4_s + 1)), some (.int x5_s), some (.int x6), some (.int (h_s.2.1 (q_s + 2) (zix (x2_s - 1))))], [], (h_s.1, zup h_s.2.1 (q_s + 2) (zix (x2_s - 1)) 1, h_s.2.2.1, h_s.2.2.2)) (gI K_s)) ∧ (¬ (h_s.2.1 (q_s + 2) (zix (x2_s - 1))).toInt = 0 → wF F_s 58 (32, [some (.ref q_s), some (.ref 13), some (.int x2_s), some (.int x3), some (.int (x4_s + 1)), some (.int x5_s), some (.int x6), some (.int (h_s.2.1 (q_s + 2) (zix (x2_s - 1))))], [], (h_s.1, zup h_s.2.1 (q_s + 2) (zix (x2_s - 1)) 0, h_s.2.2.1, h_s.2.2.2)) (gI K_s)))) ∧ (¬ x5_s.toInt = 33 → (x5_s.toInt = 59 → K_s (h_s.2.1 (q_s + 2) (zix (x2_s - 1))) h_s) ∧ (¬ x5_s.toInt = 59 → (x5_s.toInt = 63 → (((h_s.2.1 (q_s + 2) (zix (x2_s - 1))).toInt = 0 → wF F_s 58 (32, [some (.ref q_s), some (.ref 13), some (.int (x2_s + (-1))), some (.int (if x3 < x6 then x6 else x3)), some (.int (x4_s + 1)), some (.int x5_s), some (.int x6), some (.int (h_s.2.1 (q_s + 2) (zix (x2_s - 1))))], [], h_s) (gI K_s)) ∧ (¬ (h_s.2.1 (q_s + 2) (zix (x2_s - 1))).toInt = 0 → wF F_s 58 (32, [some (.ref q_s), some (.ref 13), some (.int (x2_s + (-1))), some (.int (x3 + 1)), some (.int (x4_s + 1)), some (.int x5_s), some (.int x6), some (.int (h_s.2.1 (q_s + 2) (zix (x2_s - 1))))], [], h_s) (gI K_s)))) ∧ (¬ x5_s.toInt = 63 → (x5_s.toInt = 126 → wF F_s 58 (32, [some (.ref q_s), some (.ref 13), some (.int x2_s), some (.int x3), some (.int (x4_s + 1)), some (.int x5_s), some (.int x6), some (.int (h_s.2.1 (q_s + 2) (zix (x2_s - 1))))], [], (h_s.1, zup h_s.2.1 (q_s + 2) (zix (x2_s - 1)) (-(h_s.2.1 (q_s + 2) (zix (x2_s - 1)))), h_s.2.2.1, h_s.2.2.2)) (gI K_s)) ∧ (¬ x5_s.toInt = 126 → ((x2_s.toInt < 2 → K_s 0 h_s) ∧ (¬ x2_s.toInt < 2 → (zix ((x2_s + (-1)) - 1) < 64 → wF F_s 60 (0, [some (.int (h_s.2.1 (q_s + 2) (zix ((x2_s + (-1)) - 1)))), some (.int x5_s), some (.int (h_s.2.1 (q_s + 2) (zix (x2_s - 1))))], [], h_s) (gI (fun v31 h31 => hKn h31 → wF F_s 58 (32, [some (.ref q_s), some (.ref 13), some (.int (x2_s + (-1))), some (.int x3), some (.int (x4_s + 1)), some (.int x5_s), some (.int x6), some (.int (h_s.2.1 (q_s + 2) (zix (x2_s - 1))))], [], (h31.1, zup h31.2.1 (q_s + 2) (zix ((x2_s + (-1)) - 1)) v31, h31.2.2.1, h31.2.2.2)) (gI K_s))))))))))))))))) : wF (F_s + 1) 58 (83, [some (.ref q_s), some (.ref 13), some (.int x2_s), some (.int x3), some (.int x4_s), some (.int x5_s), some (.int x6), l7], [], h_s) (gI K_s) := by
  refine w_0 (pc := 83) (e_s := (1, 2, 5, 0, 0, .null, [])) (y_s := (85, [some (.ref _), some (.ref _), some (.int _), some (.int _), some (.int _), some (.int _), some (.int _), _], [.int _], _)) rfl (u_ rfl) ?_
  refine w_t (pc := 85) (e_s := (0, 2, 0, 0, 0, .int 48, [])) (y_s := (87, [some (.ref _), some (.ref _), some (.int _), some (.int _), some (.int _), some (.int _), some (.int _), _], [.int _, .int _], _)) rfl (u_ rfl) ?_
  refine wi0 (pc := 87) (len_s := 3) (Y := 48) rfl rfl (by decide) (fun c1_s => ?_) (fun c1_s => ?_)
  · replace t_s := t_s.1 c1_s
    refine w_t (pc := 97) (e_s := (1, 1, 2, 0, 0, .null, [])) (y_s := (98, [some (.ref _), some (.ref _), some (.int _), some (.int _), some (.int _), some (.int _), some (.int _), _], [.int _], _)) rfl (u_ rfl) ?_
    refine w_t (pc := 98) (e_s := (0, 2, 0, 0, 0, .int 64, [])) (y_s := (100, [some (.ref _), some (.ref _), some (.int _), some (.int _), some (.int _), some (.int _), some (.int _), _], [.int _, .int _], _)) rfl (u_ rfl) ?_
    refine wi3 (pc := 100) (len_s := 3) (Y := 64) rfl rfl (by decide) (fun c2_s => ?_) (fun c2_s => ?_)
    · replace t_s := t_s.1 c2_s
      refine w_t (pc := 103) (e_s := (1, 2, 5, 0, 0, .null, [])) (y_s := (105, [some (.ref _), some (.ref _), some (.int _), some (.int _), some (.int _), some (.int _), some (.int _), _], [.int _], _)) rfl (u_ rfl) ?_
      refine w_t (pc := 105) (e_s := (0, 2, 0, 0, 0, .int 109, [])) (y_s := (107, [some (.ref _), some (.ref _), some (.int _), some (.int _), some (.int _), some (.int _), some (.int _), _], [.int _, .int _], _)) rfl (u_ rfl) ?_
      refine wi1 (pc := 107) (len_s := 3) (Y := 109) rfl rfl (by decide) (fun c3_s => ?_) (fun c3_s => ?_)
      · replace t_s := t_s.1 c3_s
        refine w_t (pc := 110) (e_s := (1, 2, 6, 0, 0, .null, [])) (y_s := (112, [some (.ref _), some (.ref _), some (.int _), some (.int _), some (.int _), some (.int _), some (.int _), _], [.int _], _)) rfl (u_ rfl) ?_
        refine wcI (pc := 112) (len_s := 3) rfl rfl (l := [some (.int _)]) rfl ?_
        refine w_t (pc := 0) (e_s := (1, 1, 0, 0, 0, .null, [])) (y_s := (1, [some (.int _)], [.int _], _)) rfl (u_ rfl) ?_
        refine wq2 (pc := 1) (len_s := 3) rfl rfl (fun c4_s => ?_) (fun c4_s => ?_)
        · replace t_s := t_s.1 c4_s
          refine w_t (pc := 14) (e_s := (0, 1, 0, 0, 0, .int 0, [])) (y_s := (15, [some (.int _)], [.int _], _)) rfl (u_ rfl) ?_
          refine wrI (pc := 15) (len_s := 1) rfl hk ?_
          show wF _ 58 (115, [some (.ref _), some (.ref _), some (.int _), some (.int _), some (.int _), some (.int _), some (.int _), _], [.int _], _) _
          refine w_t (pc := 115) (e_s := (15, 3, 120, 1, 0, .null, [])) (y_s := (118, [some (.ref _), some (.ref _), some (.int _), some (.int _), some (.int _), some (.int _), some (.int _), _], [], _)) rfl (u_ rfl) ?_
          refine w_t (pc := 118) (e_s := (0, 1, 0, 0, 0, .int 0, [])) (y_s := (119, [some (.ref _), some (.ref _), some (.int _), some (.int _), some (.int _), some (.int _), some (.int _), _], [.int _], _)) rfl (u_ rfl) ?_
          exact wrI (pc := 119) (len_s := 1) rfl hk t_s
        · replace t_s := t_s.2 c4_s
          refine w_t (pc := 4) (e_s := (1, 1, 0, 0, 0, .null, [])) (y_s := (5, [some (.int _)], [.int _], _)) rfl (u_ rfl) ?_
          refine w_t (pc := 5) (e_s := (0, 2, 0, 0, 0, .int 6, [])) (y_s := (7, [some (.int _)], [.int _, .int _], _)) rfl (u_ rfl) ?_
          refine wi3 (pc := 7) (len_s := 3) (Y := 6) rfl rfl (by decide) (fun c5_s => ?_) (fun c5_s => ?_)
          · replace t_s := t_s.1 c5_s
            refine w_t (pc := 10) (e_s := (0, 1, 0, 0, 0, .int 1, [])) (y_s := (11, [some (.int _)], [.int _], _)) rfl (u_ rfl) ?_
            refine w_t (pc := 11) (e_s := (17, 3, 15, 0, 0, .null, [])) (y_s := (15, [some (.int _)], [.int _], _)) rfl (u_ rfl) ?_
            refine wrI (pc := 15) (len_s := 1) rfl hk ?_
            show wF _ 58 (115, [some (.ref _), some (.ref _), some (.int _), some (.int _), some (.int _), some (.int _), some (.int _), _], [.int _], _) _
            refine w_t (pc := 115) (e_s := (15, 3, 120, 1, 0, .null, [])) (y_s := (120, [some (.ref _), some (.ref _), some (.int _), some (.int _), some (.int _), some (.int _), some (.int _), _], [], _)) rfl (u_ rfl) ?_
            refine w_t (pc := 120) (e_s := (3, 1, 0, 0, 0, .null, [])) (y_s := (121, [some (.ref _), some (.ref _), some (.int _), some (.int _), some (.int _), some (.int _), some (.int _), _], [.ref _], _)) rfl (u_ rfl) ?_
            refine w20r (pc := 121) (len_s := 3) (q_s := q_s + 2) rfl (klaw2 hk hm_s) ?_
            refine w_t (pc := 124) (e_s := (1, 1, 2, 0, 0, .null, [])) (y_s := (125, [some (.ref _), some (.ref _), some (.int _), some (.int _), some (.int _), some (.int _), some (.int _), _], [.int _, .ref _], _)) rfl (u_ rfl) ?_
            refine w_t (pc := 125) (e_s := (1, 2, 5, 0, 0, .null, [])) (y_s := (127, [some (.ref _), some (.ref _), some (.int _), some (.int _), some (.int _), some (.int _), some (.int _), _], [.int _, .int _, .ref _], _)) rfl (u_ rfl) ?_
            refine w_t (pc := 127) (e_s := (0, 2, 0, 0, 0, .int 48, [])) (y_s := (129, [some (.ref _), some (.ref _), some (.int _), some (.int _), some (.int _), some (.int _), some (.int _), _], [.int _, .int _, .int _, .ref _], _)) rfl (u_ rfl) ?_
            refine wi1 (pc := 129) (len_s := 3) (Y := 48) rfl rfl (by decide) (fun c6_s => ?_) (fun c6_s => ?_)
            · skip
              refine w_t (pc := 132) (e_s := (1, 2, 6, 0, 0, .null, [])) (y_s := (134, [some (.ref _), some (.ref _), some (.int _), some (.int _), some (.int _), some (.int _), some (.int _), _], [.int _, .int _, .ref _], _)) rfl (u_ rfl) ?_
              refine w_t (pc := 134) (e_s := (17, 3, 141, 0, 0, .null, [])) (y_s := (141, [some (.ref _), some (.ref _), some (.int _), some (.int _), some (.int _), some (.int _), some (.int _), _], [.int _, .int _, .ref _], _)) rfl (u_ rfl) ?_
              refine w25 (pc := 141) (len_s := 1) rfl (klz2 hk hm_s) (fun c7_s => ?_)
              replace t_s := t_s c7_s
              refine w_t (pc := 142) (e_s := (19, 3, 2, 0, 0, .int 1, [])) (y_s := (145, [some (.ref _), some (.ref _), some (.int _), some (.int _), some (.int _), some (.int _), some (.int _), _], [], _)) rfl (u_ rfl) ?_
              refine w_t (pc := 145) (e_s := (19, 3, 3, 0, 0, .int 1, [])) (y_s := (148, [some (.ref _), some (.ref _), some (.int _), some (.int _), some (.int _), some (.int _), some (.int _), _], [], _)) rfl (u_ rfl) ?_
              refine w_t (pc := 148) (e_s := (17, 3, 307, 0, 0, .null, [])) (y_s := (307, [some (.ref _), some (.ref _), some (.int _), some (.int _), some (.int _), some (.int _), some (.int _), _], [], _)) rfl (u_ rfl) ?_
              refine w_t (pc := 307) (e_s := (19, 3, 4, 0, 0, .int 1, [])) (y_s := (310, [some (.ref _), some (.ref _), some (.int _), some (.int _), some (.int _), some (.int _), some (.int _), _], [], _)) rfl (u_ rfl) ?_
              refine w_t (pc := 310) (e_s := (17, 3, 32, 0, 0, .null, [])) (y_s := (32, [some (.ref _), some (.ref _), some (.int _), some (.int _), some (.int _), some (.int _), some (.int _), _], [], _)) rfl (u_ rfl) ?_
              exact t_s
            · exact absurd c1_s c6_s
          · replace t_s := t_s.2 c5_s
            refine w_t (pc := 14) (e_s := (0, 1, 0, 0, 0, .int 0, [])) (y_s := (15, [some (.int _)], [.int _], _)) rfl (u_ rfl) ?_
            refine wrI (pc := 15) (len_s := 1) rfl hk ?_
            show wF _ 58 (115, [some (.ref _), some (.ref _), some (.int _), some (.int _), some (.int _), some (.int _), some (.int _), _], [.int _], _) _
            refine w_t (pc := 115) (e_s := (15, 3, 120, 1, 0, .null, [])) (y_s := (118, [some (.ref _), some (.ref _), some (.int _), some (.int _), some (.int _), some (.int _), some (.int _), _], [], _)) rfl (u_ rfl) ?_
            refine w_t (pc := 118) (e_s := (0, 1, 0, 0, 0, .int 0, [])) (y_s := (119, [some (.ref _), some (.ref _), some (.int _), some (.int _), some (.int _), some (.int _), some (.int _), _], [.int _], _)) rfl (u_ rfl) ?_
            exact wrI (pc := 119) (len_s := 1) rfl hk t_s
      · replace t_s := t_s.2 c3_s
        refine w_t (pc := 120) (e_s := (3, 1, 0, 0, 0, .null, [])) (y_s := (121, [some (.ref _), some (.ref _), some (.int _), some (.int _), some (.int _), some (.int _), some (.int _), _], [.ref _], _)) rfl (u_ rfl) ?_
        refine w20r (pc := 121) (len_s := 3) (q_s := q_s + 2) rfl (klaw2 hk hm_s) ?_
        refine w_t (pc := 124) (e_s := (1, 1, 2, 0, 0, .null, [])) (y_s := (125, [some (.ref _), some (.ref _), some (.int _), some (.int _), some (.int _), some (.int _), some (.int _), _], [.int _, .ref _], _)) rfl (u_ rfl) ?_
        refine w_t (pc := 125) (e_s := (1, 2, 5, 0, 0, .null, [])) (y_s := (127, [some (.ref _), some (.ref _), some (.int _), some (.int _), some (.int _), some (.int _), some (.int _), _], [.int _, .int _, .ref _], _)) rfl (u_ rfl) ?_
        refine w_t (pc := 127) (e_s := (0, 2, 0, 0, 0, .int 48, [])) (y_s := (129, [some (.ref _), some (.ref _), some (.int _), some (.int _), some (.int _), some (.int _), some (.int _), _], [.int _, .int _, .int _, .ref _], _)) rfl (u_ rfl) ?_
        refine wi1 (pc := 129) (len_s := 3) (Y := 48) rfl rfl (by decide) (fun c8_s => ?_) (fun c8_s => ?_)
        · skip
          refine w_t (pc := 132) (e_s := (1, 2, 6, 0, 0, .null, [])) (y_s := (134, [some (.ref _), some (.ref _), some (.int _), some (.int _), some (.int _), some (.int _), some (.int _), _], [.int _, .int _, .ref _], _)) rfl (u_ rfl) ?_
          refine w_t (pc := 134) (e_s := (17, 3, 141, 0, 0, .null, [])) (y_s := (141, [some (.ref _), some (.ref _), some (.int _), some (.int _), some (.int _), some (.int _), some (.int _), _], [.int _, .int _, .ref _], _)) rfl (u_ rfl) ?_
          refine w25 (pc := 141) (len_s := 1) rfl (klz2 hk hm_s) (fun c9_s => ?_)
          replace t_s := t_s c9_s
          refine w_t (pc := 142) (e_s := (19, 3, 2, 0, 0, .int 1, [])) (y_s := (145, [some (.ref _), some (.ref _), some (.int _), some (.int _), some (.int _), some (.int _), some (.int _), _], [], _)) rfl (u_ rfl) ?_
          refine w_t (pc := 145) (e_s := (19, 3, 3, 0, 0, .int 1, [])) (y_s := (148, [some (.ref _), some (.ref _), some (.int _), some (.int _), some (.int _), some (.int _), some (.int _), _], [], _)) rfl (u_ rfl) ?_
          refine w_t (pc := 148) (e_s := (17, 3, 307, 0, 0, .null, [])) (y_s := (307, [some (.ref _), some (.ref _), some (.int _), some (.int _), some (.int _), some (.int _), some (.int _), _], [], _)) rfl (u_ rfl) ?_
          refine w_t (pc := 307) (e_s := (19, 3, 4, 0, 0, .int 1, [])) (y_s := (310, [some (.ref _), some (.ref _), some (.int _), some (.int _), some (.int _), some (.int _), some (.int _), _], [], _)) rfl (u_ rfl) ?_
          refine w_t (pc := 310) (e_s := (17, 3, 32, 0, 0, .null, [])) (y_s := (32, [some (.ref _), some (.ref _), some (.int _), some (.int _), some (.int _), some (.int _), some (.int _), _], [], _)) rfl (u_ rfl) ?_
          exact t_s
        · exact absurd c1_s c8_s
    · replace t_s := t_s.2 c2_s
      refine w_t (pc := 118) (e_s := (0, 1, 0, 0, 0, .int 0, [])) (y_s := (119, [some (.ref _), some (.ref _), some (.int _), some (.int _), some (.int _), some (.int _), some (.int _), _], [.int _], _)) rfl (u_ rfl) ?_
      exact wrI (pc := 119) (len_s := 1) rfl hk t_s
  · replace t_s := t_s.2 c1_s
    refine w_t (pc := 90) (e_s := (1, 2, 5, 0, 0, .null, [])) (y_s := (92, [some (.ref _), some (.ref _), some (.int _), some (.int _), some (.int _), some (.int _), some (.int _), _], [.int _], _)) rfl (u_ rfl) ?_
    refine w_t (pc := 92) (e_s := (0, 2, 0, 0, 0, .int 109, [])) (y_s := (94, [some (.ref _), some (.ref _), some (.int _), some (.int _), some (.int _), some (.int _), some (.int _), _], [.int _, .int _], _)) rfl (u_ rfl) ?_
    refine wi1 (pc := 94) (len_s := 3) (Y := 109) rfl rfl (by decide) (fun c10_s => ?_) (fun c10_s => ?_)
    · replace t_s := t_s.1 c10_s
      refine w_t (pc := 97) (e_s := (1, 1, 2, 0, 0, .null, [])) (y_s := (98, [some (.ref _), some (.ref _), some (.int _), some (.int _), some (.int _), some (.int _), some (.int _), _], [.int _], _)) rfl (u_ rfl) ?_
      refine w_t (pc := 98) (e_s := (0, 2, 0, 0, 0, .int 64, [])) (y_s := (100, [some (.ref _), some (.ref _), some (.int _), some (.int _), some (.int _), some (.int _), some (.int _), _], [.int _, .int _], _)) rfl (u_ rfl) ?_
      refine wi3 (pc := 100) (len_s := 3) (Y := 64) rfl rfl (by decide) (fun c11_s => ?_) (fun c11_s => ?_)
      · replace t_s := t_s.1 c11_s
        refine w_t (pc := 103) (e_s := (1, 2, 5, 0, 0, .null, [])) (y_s := (105, [some (.ref _), some (.ref _), some (.int _), some (.int _), some (.int _), some (.int _), some (.int _), _], [.int _], _)) rfl (u_ rfl) ?_
        refine w_t (pc := 105) (e_s := (0, 2, 0, 0, 0, .int 109, [])) (y_s := (107, [some (.ref _), some (.ref _), some (.int _), some (.int _), some (.int _), some (.int _), some (.int _), _], [.int _, .int _], _)) rfl (u_ rfl) ?_
        refine wi1 (pc := 107) (len_s := 3) (Y := 109) rfl rfl (by decide) (fun c12_s => ?_) (fun c12_s => ?_)
        · skip
          refine w_t (pc := 110) (e_s := (1, 2, 6, 0, 0, .null, [])) (y_s := (112, [some (.ref _), some (.ref _), some (.int _), some (.int _), some (.int _), some (.int _), some (.int _), _], [.int _], _)) rfl (u_ rfl) ?_
          refine wcI (pc := 112) (len_s := 3) rfl rfl (l := [some (.int _)]) rfl ?_
          refine w_t (pc := 0) (e_s := (1, 1, 0, 0, 0, .null, [])) (y_s := (1, [some (.int _)], [.int _], _)) rfl (u_ rfl) ?_
          refine wq2 (pc := 1) (len_s := 3) rfl rfl (fun c13_s => ?_) (fun c13_s => ?_)
          · replace t_s := t_s.1 c13_s
            refine w_t (pc := 14) (e_s := (0, 1, 0, 0, 0, .int 0, [])) (y_s := (15, [some (.int _)], [.int _], _)) rfl (u_ rfl) ?_
            refine wrI (pc := 15) (len_s := 1) rfl hk ?_
            show wF _ 58 (115, [some (.ref _), some (.ref _), some (.int _), some (.int _), some (.int _), some (.int _), some (.int _), _], [.int _], _) _
            refine w_t (pc := 115) (e_s := (15, 3, 120, 1, 0, .null, [])) (y_s := (118, [some (.ref _), some (.ref _), some (.int _), some (.int _), some (.int _), some (.int _), some (.int _), _], [], _)) rfl (u_ rfl) ?_
            refine w_t (pc := 118) (e_s := (0, 1, 0, 0, 0, .int 0, [])) (y_s := (119, [some (.ref _), some (.ref _), some (.int _), some (.int _), some (.int _), some (.int _), some (.int _), _], [.int _], _)) rfl (u_ rfl) ?_
            exact wrI (pc := 119) (len_s := 1) rfl hk t_s
          · replace t_s := t_s.2 c13_s
            refine w_t (pc := 4) (e_s := (1, 1, 0, 0, 0, .null, [])) (y_s := (5, [some (.int _)], [.int _], _)) rfl (u_ rfl) ?_
            refine w_t (pc := 5) (e_s := (0, 2, 0, 0, 0, .int 6, [])) (y_s := (7, [some (.int _)], [.int _, .int _], _)) rfl (u_ rfl) ?_
            refine wi3 (pc := 7) (len_s := 3) (Y := 6) rfl rfl (by decide) (fun c14_s => ?_) (fun c14_s => ?_)
            · replace t_s := t_s.1 c14_s
              refine w_t (pc := 10) (e_s := (0, 1, 0, 0, 0, .int 1, [])) (y_s := (11, [some (.int _)], [.int _], _)) rfl (u_ rfl) ?_
              refine w_t (pc := 11) (e_s := (17, 3, 15, 0, 0, .null, [])) (y_s := (15, [some (.int _)], [.int _], _)) rfl (u_ rfl) ?_
              refine wrI (pc := 15) (len_s := 1) rfl hk ?_
              show wF _ 58 (115, [some (.ref _), some (.ref _), some (.int _), some (.int _), some (.int _), some (.int _), some (.int _), _], [.int _], _) _
              refine w_t (pc := 115) (e_s := (15, 3, 120, 1, 0, .null, [])) (y_s := (120, [some (.ref _), some (.ref _), some (.int _), some (.int _), some (.int _), some (.int _), some (.int _), _], [], _)) rfl (u_ rfl) ?_
              refine w_t (pc := 120) (e_s := (3, 1, 0, 0, 0, .null, [])) (y_s := (121, [some (.ref _), some (.ref _), some (.int _), some (.int _), some (.int _), some (.int _), some (.int _), _], [.ref _], _)) rfl (u_ rfl) ?_
              refine w20r (pc := 121) (len_s := 3) (q_s := q_s + 2) rfl (klaw2 hk hm_s) ?_
              refine w_t (pc := 124) (e_s := (1, 1, 2, 0, 0, .null, [])) (y_s := (125, [some (.ref _), some (.ref _), some (.int _), some (.int _), some (.int _), some (.int _), some (.int _), _], [.int _, .ref _], _)) rfl (u_ rfl) ?_
              refine w_t (pc := 125) (e_s := (1, 2, 5, 0, 0, .null, [])) (y_s := (127, [some (.ref _), some (.ref _), some (.int _), some (.int _), some (.int _), some (.int _), some (.int _), _], [.int _, .int _, .ref _], _)) rfl (u_ rfl) ?_
              refine w_t (pc := 127) (e_s := (0, 2, 0, 0, 0, .int 48, [])) (y_s := (129, [some (.ref _), some (.ref _), some (.int _), some (.int _), some (.int _), some (.int _), some (.int _), _], [.int _, .int _, .int _, .ref _], _)) rfl (u_ rfl) ?_
              refine wi1 (pc := 129) (len_s := 3) (Y := 48) rfl rfl (by decide) (fun c15_s => ?_) (fun c15_s => ?_)
              · exact absurd c15_s c1_s
              · skip
                refine w_t (pc := 137) (e_s := (3, 1, 1, 0, 0, .null, [])) (y_s := (138, [some (.ref _), some (.ref _), some (.int _), some (.int _), some (.int _), some (.int _), some (.int _), _], [.ref _, .int _, .ref _], _)) rfl (u_ rfl) ?_
                refine w_t (pc := 138) (e_s := (1, 2, 6, 0, 0, .null, [])) (y_s := (140, [some (.ref _), some (.ref _), some (.int _), some (.int _), some (.int _), some (.int _), some (.int _), _], [.int _, .ref _, .int _, .ref _], _)) rfl (u_ rfl) ?_
                refine w22 (pc := 140) (len_s := 1) rfl (hk.1 13 0 6 rfl rfl) (fun c16 => ?_)
                replace t_s := t_s c16
                refine w25 (pc := 141) (len_s := 1) rfl (klz2 hk hm_s) (fun c17 => ?_)
                replace t_s := t_s c17
                refine w_t (pc := 142) (e_s := (19, 3, 2, 0, 0, .int 1, [])) (y_s := (145, [some (.ref _), some (.ref _), some (.int _), some (.int _), some (.int _), some (.int _), some (.int _), _], [], _)) rfl (u_ rfl) ?_
                refine w_t (pc := 145) (e_s := (19, 3, 3, 0, 0, .int 1, [])) (y_s := (148, [some (.ref _), some (.ref _), some (.int _), some (.int _), some (.int _), some (.int _), some (.int _), _], [], _)) rfl (u_ rfl) ?_
                refine w_t (pc := 148) (e_s := (17, 3, 307, 0, 0, .null, [])) (y_s := (307, [some (.ref _), some (.ref _), some (.int _), some (.int _), some (.int _), some (.int _), some (.int _), _], [], _)) rfl (u_ rfl) ?_
                refine w_t (pc := 307) (e_s := (19, 3, 4, 0, 0, .int 1, [])) (y_s := (310, [some (.ref _), some (.ref _), some (.int _), some (.int _), some (.int _), some (.int _), some (.int _), _], [], _)) rfl (u_ rfl) ?_
                refine w_t (pc := 310) (e_s := (17, 3, 32, 0, 0, .null, [])) (y_s := (32, [some (.ref _), some (.ref _), some (.int _), some (.int _), some (.int _), some (.int _), some (.int _), _], [], _)) rfl (u_ rfl) ?_
                exact t_s
            · replace t_s := t_s.2 c14_s
              refine w_t (pc := 14) (e_s := (0, 1, 0, 0, 0, .int 0, [])) (y_s := (15, [some (.int _)], [.int _], _)) rfl (u_ rfl) ?_
              refine wrI (pc := 15) (len_s := 1) rfl hk ?_
              show wF _ 58 (115, [some (.ref _), some (.ref _), some (.int _), some (.int _), some (.int _), some (.int _), some (.int _), _], [.int _], _) _
              refine w_t (pc := 115) (e_s := (15, 3, 120, 1, 0, .null, [])) (y_s := (118, [some (.ref _), some (.ref _), some (.int _), some (.int _), some (.int _), some (.int _), some (.int _), _], [], _)) rfl (u_ rfl) ?_
              refine w_t (pc := 118) (e_s := (0, 1, 0, 0, 0, .int 0, [])) (y_s := (119, [some (.ref _), some (.ref _), some (.int _), some (.int _), some (.int _), some (.int _), some (.int _), _], [.int _], _)) rfl (u_ rfl) ?_
              exact wrI (pc := 119) (len_s := 1) rfl hk t_s
        · exact absurd c10_s c12_s
      · replace t_s := t_s.2 c11_s
        refine w_t (pc := 118) (e_s := (0, 1, 0, 0, 0, .int 0, [])) (y_s := (119, [some (.ref _), some (.ref _), some (.int _), some (.int _), some (.int _), some (.int _), some (.int _), _], [.int _], _)) rfl (u_ rfl) ?_
        exact wrI (pc := 119) (len_s := 1) rfl hk t_s
    · replace t_s := t_s.2 c10_s
      refine w_t (pc := 151) (e_s := (1, 1, 2, 0, 0, .null, [])) (y_s := (152, [some (.ref _), some (.ref _), some (.int _), some (.int _), some (.int _), some (.int _), some (.int _), _], [.int _], _)) rfl (u_ rfl) ?_
      refine w_t (pc := 152) (e_s := (0, 1, 0, 0, 0, .int 1, [])) (y_s := (153, [some (.ref _), some (.ref _), some (.int _), some (.int _), some (.int _), some (.int _), some (.int _), _], [.int _, .int _], _)) rfl (u_ rfl) ?_
      refine wi3 (pc := 153) (len_s := 3) (Y := 1) rfl rfl (by decide) (fun c18_s => ?_) (fun c18_s => ?_)
      · replace t_s := t_s.1 c18_s
        refine w_t (pc := 156) (e_s := (0, 1, 0, 0, 0, .int 0, [])) (y_s := (157, [some (.ref _), some (.ref _), some (.int _), some (.int _), some (.int _), some (.int _), some (.int _), _], [.int _], _)) rfl (u_ rfl) ?_
        exact wrI (pc := 157) (len_s := 1) rfl hk t_s
      · replace t_s := t_s.2 c18_s
        refine w_t (pc := 158) (e_s := (3, 1, 0, 0, 0, .null, [])) (y_s := (159, [some (.ref _), some (.ref _), some (.int _), some (.int _), some (.int _), some (.int _), some (.int _), _], [.ref _], _)) rfl (u_ rfl) ?_
        refine w20r (pc := 159) (len_s := 3) (q_s := q_s + 2) rfl (klaw2 hk hm_s) ?_
        refine w_t (pc := 162) (e_s := (1, 1, 2, 0, 0, .null, [])) (y_s := (163, [some (.ref _), some (.ref _), some (.int _), some (.int _), some (.int _), some (.int _), some (.int _), _], [.int _, .ref _], _)) rfl (u_ rfl) ?_
        refine w_t (pc := 163) (e_s := (0, 1, 0, 0, 0, .int 1, [])) (y_s := (164, [some (.ref _), some (.ref _), some (.int _), some (.int _), some (.int _), some (.int _), some (.int _), _], [.int _, .int _, .ref _], _)) rfl (u_ rfl) ?_
        refine w_t (pc := 164) (e_s := (7, 1, 0, 1, 0, .null, [])) (y_s := (165, [some (.ref _), some (.ref _), some (.int _), some (.int _), some (.int _), some (.int _), some (.int _), _], [.int (_ - _), .ref _], _)) rfl (u_ rfl) ?_
        refine w22 (pc := 165) (len_s := 1) rfl (klz2 hk hm_s) (fun c19_s => ?_)
        replace t_s := t_s c19_s
        refine w_t (pc := 166) (e_s := (4, 2, 7, 0, 0, .null, [])) (y_s := (168, [some (.ref _), some (.ref _), some (.int _), some (.int _), some (.int _), some (.int _), some (.int _), some (.int _)], [], _)) rfl (u_ rfl) ?_
        refine w_t (pc := 168) (e_s := (1, 2, 5, 0, 0, .null, [])) (y_s := (170, [some (.ref _), some (.ref _), some (.int _), some (.int _), some (.int _), some (.int _), some (.int _), some (.int _)], [.int _], _)) rfl (u_ rfl) ?_
        refine wsw (pc := 170) (len_s := 42) rfl ?_
        refine wsc (X_s := 33) rfl (by decide) (fun c20_s => ?_) (fun c20_s => ?_)
        · replace t_s := t_s.1 c20_s
          refine w_t (pc := 212) (e_s := (3, 1, 0, 0, 0, .null, [])) (y_s := (213, [some (.ref _), some (.ref _), some (.int _), some (.int _), some (.int _), some (.int _), some (.int _), some (.int _)], [.ref _], _)) rfl (u_ rfl) ?_
          refine w20r (pc := 213) (len_s := 3) (q_s := q_s + 2) rfl (klaw2 hk hm_s) ?_
          refine w_t (pc := 216) (e_s := (1, 1, 2, 0, 0, .null, [])) (y_s := (217, [some (.ref _), some (.ref _), some (.int _), some (.int _), some (.int _), some (.int _), some (.int _), some (.int _)], [.int _, .ref _], _)) rfl (u_ rfl) ?_
          refine w_t (pc := 217) (e_s := (0, 1, 0, 0, 0, .int 1, [])) (y_s := (218, [some (.ref _), some (.ref _), some (.int _), some (.int _), some (.int _), some (.int _), some (.int _), some (.int _)], [.int _, .int _, .ref _], _)) rfl (u_ rfl) ?_
          refine w_t (pc := 218) (e_s := (7, 1, 0, 1, 0, .null, [])) (y_s := (219, [some (.ref _), some (.ref _), some (.int _), some (.int _), some (.int _), some (.int _), some (.int _), some (.int _)], [.int (_ - _), .ref _], _)) rfl (u_ rfl) ?_
          refine w_t (pc := 219) (e_s := (1, 2, 7, 0, 0, .null, [])) (y_s := (221, [some (.ref _), some (.ref _), some (.int _), some (.int _), some (.int _), some (.int _), some (.int _), some (.int _)], [.int _, .int _, .ref _], _)) rfl (u_ rfl) ?_
          refine wq1 (pc := 221) (len_s := 3) rfl rfl (fun c21 => ?_) (fun c21 => ?_)
          · replace t_s := t_s.1 c21
            refine w_t (pc := 224) (e_s := (0, 1, 0, 0, 0, .int 1, [])) (y_s := (225, [some (.ref _), some (.ref _), some (.int _), some (.int _), some (.int _), some (.int _), some (.int _), some (.int _)], [.int _, .int _, .ref _], _)) rfl (u_ rfl) ?_
            refine w_t (pc := 225) (e_s := (17, 3, 229, 0, 0, .null, [])) (y_s := (229, [some (.ref _), some (.ref _), some (.int _), some (.int _), some (.int _), some (.int _), some (.int _), some (.int _)], [.int _, .int _, .ref _], _)) rfl (u_ rfl) ?_
            refine w25 (pc := 229) (len_s := 1) rfl (klz2 hk hm_s) (fun c22 => ?_)
            refine w_t (pc := 230) (e_s := (17, 3, 307, 0, 0, .null, [])) (y_s := (307, [some (.ref _), some (.ref _), some (.int _), some (.int _), some (.int _), some (.int _), some (.int _), some (.int _)], [], _)) rfl (u_ rfl) ?_
            refine w_t (pc := 307) (e_s := (19, 3, 4, 0, 0, .int 1, [])) (y_s := (310, [some (.ref _), some (.ref _), some (.int _), some (.int _), some (.int _), some (.int _), some (.int _), some (.int _)], [], _)) rfl (u_ rfl) ?_
            refine w_t (pc := 310) (e_s := (17, 3, 32, 0, 0, .null, [])) (y_s := (32, [some (.ref _), some (.ref _), some (.int _), some (.int _), some (.int _), some (.int _), some (.int _), some (.int _)], [], _)) rfl (u_ rfl) ?_
            exact t_s
          · replace t_s := t_s.2 c21
            refine w_t (pc := 228) (e_s := (0, 1, 0, 0, 0, .int 0, [])) (y_s := (229, [some (.ref _), some (.ref _), some (.int _), some (.int _), some (.int _), some (.int _), some (.int _), some (.int _)], [.int _, .int _, .ref _], _)) rfl (u_ rfl) ?_
            refine w25 (pc := 229) (len_s := 1) rfl (klz2 hk hm_s) (fun c23_s => ?_)
            refine w_t (pc := 230) (e_s := (17, 3, 307, 0, 0, .null, [])) (y_s := (307, [some (.ref _), some (.ref _), some (.int _), some (.int _), some (.int _), some (.int _), some (.int _), some (.int _)], [], _)) rfl (u_ rfl) ?_
            refine w_t (pc := 307) (e_s := (19, 3, 4, 0, 0, .int 1, [])) (y_s := (310, [some (.ref _), some (.ref _), some (.int _), some (.int _), some (.int _), some (.int _), some (.int _), some (.int _)], [], _)) rfl (u_ rfl) ?_
            refine w_t (pc := 310) (e_s := (17, 3, 32, 0, 0, .null, [])) (y_s := (32, [some (.ref _), some (.ref _), some (.int _), some (.int _), some (.int _), some (.int _), some (.int _), some (.int _)], [], _)) rfl (u_ rfl) ?_
            exact t_s
        · replace t_s := t_s.2 c20_s
          refine wsc (X_s := 59) rfl (by decide) (fun c24_s => ?_) (fun c24_s => ?_)
          · replace t_s := t_s.1 c24_s
            refine w_t (pc := 271) (e_s := (1, 2, 7, 0, 0, .null, [])) (y_s := (273, [some (.ref _), some (.ref _), some (.int _), some (.int _), some (.int _), some (.int _), some (.int _), some (.int _)], [.int _], _)) rfl (u_ rfl) ?_
            exact wrI (pc := 273) (len_s := 1) rfl hk t_s
          · replace t_s := t_s.2 c24_s
            refine wsc (X_s := 63) rfl (by decide) (fun c25_s => ?_) (fun c25_s => ?_)
            · replace t_s := t_s.1 c25_s
              refine w_t (pc := 247) (e_s := (19, 3, 2, 0, 0, .int (-1), [])) (y_s := (250, [some (.ref _), some (.ref _), some (.int _), some (.int _), some (.int _), some (.int _), some (.int _), some (.int _)], [], _)) rfl (u_ rfl) ?_
              refine w_t (pc := 250) (e_s := (1, 2, 7, 0, 0, .null, [])) (y_s := (252, [some (.ref _), some (.ref _), some (.int _), some (.int _), some (.int _), some (.int _), some (.int _), some (.int _)], [.int _], _)) rfl (u_ rfl) ?_
              refine wq1 (pc := 252) (len_s := 3) rfl rfl (fun c26 => ?_) (fun c26 => ?_)
              · replace t_s := t_s.1 c26
                refine w_t (pc := 255) (e_s := (1, 1, 3, 0, 0, .null, [])) (y_s := (256, [some (.ref _), some (.ref _), some (.int _), some (.int _), some (.int _), some (.int _), some (.int _), some (.int _)], [.int _], _)) rfl (u_ rfl) ?_
                refine w_t (pc := 256) (e_s := (1, 2, 6, 0, 0, .null, [])) (y_s := (258, [some (.ref _), some (.ref _), some (.int _), some (.int _), some (.int _), some (.int _), some (.int _), some (.int _)], [.int _, .int _], _)) rfl (u_ rfl) ?_
                refine w_t (pc := 258) (e_s := (31, 3, 0, 0, 0, .null, [(0, 836), (0, 783), (0, 784), (0, 777)])) (y_s := (261, [some (.ref _), some (.ref _), some (.int _), some (.int _), some (.int _), some (.int _), some (.int _), some (.int _)], [.int _], _)) rfl (u_ rfl) ?_
                refine w_t (pc := 261) (e_s := (17, 3, 267, 0, 0, .null, [])) (y_s := (267, [some (.ref _), some (.ref _), some (.int _), some (.int _), some (.int _), some (.int _), some (.int _), some (.int _)], [.int _], _)) rfl (u_ rfl) ?_
                refine w_t (pc := 267) (e_s := (4, 1, 3, 0, 0, .null, [])) (y_s := (268, [some (.ref _), some (.ref _), some (.int _), some (.int _), some (.int _), some (.int _), some (.int _), some (.int _)], [], _)) rfl (u_ rfl) ?_
                refine w_t (pc := 268) (e_s := (17, 3, 307, 0, 0, .null, [])) (y_s := (307, [some (.ref _), some (.ref _), some (.int _), some (.int _), some (.int _), some (.int _), some (.int _), some (.int _)], [], _)) rfl (u_ rfl) ?_
                refine w_t (pc := 307) (e_s := (19, 3, 4, 0, 0, .int 1, [])) (y_s := (310, [some (.ref _), some (.ref _), some (.int _), some (.int _), some (.int _), some (.int _), some (.int _), some (.int _)], [], _)) rfl (u_ rfl) ?_
                refine w_t (pc := 310) (e_s := (17, 3, 32, 0, 0, .null, [])) (y_s := (32, [some (.ref _), some (.ref _), some (.int _), some (.int _), some (.int _), some (.int _), some (.int _), some (.int _)], [], _)) rfl (u_ rfl) ?_
                exact t_s
              · replace t_s := t_s.2 c26
                refine w_t (pc := 264) (e_s := (1, 1, 3, 0, 0, .null, [])) (y_s := (265, [some (.ref _), some (.ref _), some (.int _), some (.int _), some (.int _), some (.int _), some (.int _), some (.int _)], [.int _], _)) rfl (u_ rfl) ?_
                refine w_t (pc := 265) (e_s := (0, 1, 0, 0, 0, .int 1, [])) (y_s := (266, [some (.ref _), some (.ref _), some (.int _), some (.int _), some (.int _), some (.int _), some (.int _), some (.int _)], [.int _, .int _], _)) rfl (u_ rfl) ?_
                refine w_t (pc := 266) (e_s := (7, 1, 0, 0, 0, .null, [])) (y_s := (267, [some (.ref _), some (.ref _), some (.int _), some (.int _), some (.int _), some (.int _), some (.int _), some (.int _)], [.int (_ + _)], _)) rfl (u_ rfl) ?_
                refine w_t (pc := 267) (e_s := (4, 1, 3, 0, 0, .null, [])) (y_s := (268, [some (.ref _), some (.ref _), some (.int _), some (.int _), some (.int _), some (.int _), some (.int _), some (.int _)], [], _)) rfl (u_ rfl) ?_
                refine w_t (pc := 268) (e_s := (17, 3, 307, 0, 0, .null, [])) (y_s := (307, [some (.ref _), some (.ref _), some (.int _), some (.int _), some (.int _), some (.int _), some (.int _), some (.int _)], [], _)) rfl (u_ rfl) ?_
                refine w_t (pc := 307) (e_s := (19, 3, 4, 0, 0, .int 1, [])) (y_s := (310, [some (.ref _), some (.ref _), some (.int _), some (.int _), some (.int _), some (.int _), some (.int _), some (.int _)], [], _)) rfl (u_ rfl) ?_
                refine w_t (pc := 310) (e_s := (17, 3, 32, 0, 0, .null, [])) (y_s := (32, [some (.ref _), some (.ref _), some (.int _), some (.int _), some (.int _), some (.int _), some (.int _), some (.int _)], [], _)) rfl (u_ rfl) ?_
                exact t_s
            · replace t_s := t_s.2 c25_s
              refine wsc (X_s := 126) rfl (by decide) (fun c27_s => ?_) (fun c27_s => ?_)
              · replace t_s := t_s.1 c27_s
                refine w_t (pc := 233) (e_s := (3, 1, 0, 0, 0, .null, [])) (y_s := (234, [some (.ref _), some (.ref _), some (.int _), some (.int _), some (.int _), some (.int _), some (.int _), some (.int _)], [.ref _], _)) rfl (u_ rfl) ?_
                refine w20r (pc := 234) (len_s := 3) (q_s := q_s + 2) rfl (klaw2 hk hm_s) ?_
                refine w_t (pc := 237) (e_s := (1, 1, 2, 0, 0, .null, [])) (y_s := (238, [some (.ref _), some (.ref _), some (.int _), some (.int _), some (.int _), some (.int _), some (.int _), some (.int _)], [.int _, .ref _], _)) rfl (u_ rfl) ?_
                refine w_t (pc := 238) (e_s := (0, 1, 0, 0, 0, .int 1, [])) (y_s := (239, [some (.ref _), some (.ref _), some (.int _), some (.int _), some (.int _), some (.int _), some (.int _), some (.int _)], [.int _, .int _, .ref _], _)) rfl (u_ rfl) ?_
                refine w_t (pc := 239) (e_s := (7, 1, 0, 1, 0, .null, [])) (y_s := (240, [some (.ref _), some (.ref _), some (.int _), some (.int _), some (.int _), some (.int _), some (.int _), some (.int _)], [.int (_ - _), .ref _], _)) rfl (u_ rfl) ?_
                refine w_t (pc := 240) (e_s := (1, 2, 7, 0, 0, .null, [])) (y_s := (242, [some (.ref _), some (.ref _), some (.int _), some (.int _), some (.int _), some (.int _), some (.int _), some (.int _)], [.int _, .int _, .ref _], _)) rfl (u_ rfl) ?_
                refine w_t (pc := 242) (e_s := (9, 1, 0, 0, 0, .null, [])) (y_s := (243, [some (.ref _), some (.ref _), some (.int _), some (.int _), some (.int _), some (.int _), some (.int _), some (.int _)], [.int (-_), .int _, .ref _], _)) rfl (u_ rfl) ?_
                refine w25 (pc := 243) (len_s := 1) rfl (klz2 hk hm_s) (fun c28_s => ?_)
                refine w_t (pc := 244) (e_s := (17, 3, 307, 0, 0, .null, [])) (y_s := (307, [some (.ref _), some (.ref _), some (.int _), some (.int _), some (.int _), some (.int _), some (.int _), some (.int _)], [], _)) rfl (u_ rfl) ?_
                refine w_t (pc := 307) (e_s := (19, 3, 4, 0, 0, .int 1, [])) (y_s := (310, [some (.ref _), some (.ref _), some (.int _), some (.int _), some (.int _), some (.int _), some (.int _), some (.int _)], [], _)) rfl (u_ rfl) ?_
                refine w_t (pc := 310) (e_s := (17, 3, 32, 0, 0, .null, [])) (y_s := (32, [some (.ref _), some (.ref _), some (.int _), some (.int _), some (.int _), some (.int _), some (.int _), some (.int _)], [], _)) rfl (u_ rfl) ?_
                exact t_s
              · replace t_s := t_s.2 c27_s
                show wF _ _ (274, _, _, _) _
                refine w_t (pc := 274) (e_s := (1, 1, 2, 0, 0, .null, [])) (y_s := (275, [some (.ref _), some (.ref _), some (.int _), some (.int _), some (.int _), some (.int _), some (.int _), some (.int _)], [.int _], _)) rfl (u_ rfl) ?_
                refine w_t (pc := 275) (e_s := (0, 1, 0, 0, 0, .int 2, [])) (y_s := (276, [some (.ref _), some (.ref _), some (.int _), some (.int _), some (.int _), some (.int _), some (.int _), some (.int _)], [.int _, .int _], _)) rfl (u_ rfl) ?_
                refine wi3 (pc := 276) (len_s := 3) (Y := 2) rfl rfl (by decide) (fun c29_s => ?_) (fun c29_s => ?_)
                · replace t_s := t_s.1 c29_s
                  refine w_t (pc := 279) (e_s := (0, 1, 0, 0, 0, .int 0, [])) (y_s := (280, [some (.ref _), some (.ref _), some (.int _), some (.int _), some (.int _), some (.int _), some (.int _), some (.int _)], [.int _], _)) rfl (u_ rfl) ?_
                  exact wrI (pc := 280) (len_s := 1) rfl hk t_s
                · replace t_s := t_s.2 c29_s
                  refine w_t (pc := 281) (e_s := (19, 3, 2, 0, 0, .int (-1), [])) (y_s := (284, [some (.ref _), some (.ref _), some (.int _), some (.int _), some (.int _), some (.int _), some (.int _), some (.int _)], [], _)) rfl (u_ rfl) ?_
                  refine w_t (pc := 284) (e_s := (3, 1, 0, 0, 0, .null, [])) (y_s := (285, [some (.ref _), some (.ref _), some (.int _), some (.int _), some (.int _), some (.int _), some (.int _), some (.int _)], [.ref _], _)) rfl (u_ rfl) ?_
                  refine w20r (pc := 285) (len_s := 3) (q_s := q_s + 2) rfl (klaw2 hk hm_s) ?_
                  refine w_t (pc := 288) (e_s := (1, 1, 2, 0, 0, .null, [])) (y_s := (289, [some (.ref _), some (.ref _), some (.int _), some (.int _), some (.int _), some (.int _), some (.int _), some (.int _)], [.int _, .ref _], _)) rfl (u_ rfl) ?_
                  refine w_t (pc := 289) (e_s := (0, 1, 0, 0, 0, .int 1, [])) (y_s := (290, [some (.ref _), some (.ref _), some (.int _), some (.int _), some (.int _), some (.int _), some (.int _), some (.int _)], [.int _, .int _, .ref _], _)) rfl (u_ rfl) ?_
                  refine w_t (pc := 290) (e_s := (7, 1, 0, 1, 0, .null, [])) (y_s := (291, [some (.ref _), some (.ref _), some (.int _), some (.int _), some (.int _), some (.int _), some (.int _), some (.int _)], [.int (_ - _), .ref _], _)) rfl (u_ rfl) ?_
                  refine w_t (pc := 291) (e_s := (3, 1, 0, 0, 0, .null, [])) (y_s := (292, [some (.ref _), some (.ref _), some (.int _), some (.int _), some (.int _), some (.int _), some (.int _), some (.int _)], [.ref _, .int _, .ref _], _)) rfl (u_ rfl) ?_
                  refine w20r (pc := 292) (len_s := 3) (q_s := q_s + 2) rfl (klaw2 hk hm_s) ?_
                  refine w_t (pc := 295) (e_s := (1, 1, 2, 0, 0, .null, [])) (y_s := (296, [some (.ref _), some (.ref _), some (.int _), some (.int _), some (.int _), some (.int _), some (.int _), some (.int _)], [.int _, .ref _, .int _, .ref _], _)) rfl (u_ rfl) ?_
                  refine w_t (pc := 296) (e_s := (0, 1, 0, 0, 0, .int 1, [])) (y_s := (297, [some (.ref _), some (.ref _), some (.int _), some (.int _), some (.int _), some (.int _), some (.int _), some (.int _)], [.int _, .int _, .ref _, .int _, .ref _], _)) rfl (u_ rfl) ?_
                  refine w_t (pc := 297) (e_s := (7, 1, 0, 1, 0, .null, [])) (y_s := (298, [some (.ref _), some (.ref _), some (.int _), some (.int _), some (.int _), some (.int _), some (.int _), some (.int _)], [.int (_ - _), .ref _, .int _, .ref _], _)) rfl (u_ rfl) ?_
                  refine w22 (pc := 298) (len_s := 1) rfl (klz2 hk hm_s) (fun c30_s => ?_)
                  replace t_s := t_s c30_s
                  refine w_t (pc := 299) (e_s := (1, 2, 5, 0, 0, .null, [])) (y_s := (301, [some (.ref _), some (.ref _), some (.int _), some (.int _), some (.int _), some (.int _), some (.int _), some (.int _)], [.int _, .int _, .int _, .ref _], _)) rfl (u_ rfl) ?_
                  refine w_t (pc := 301) (e_s := (1, 2, 7, 0, 0, .null, [])) (y_s := (303, [some (.ref _), some (.ref _), some (.int _), some (.int _), some (.int _), some (.int _), some (.int _), some (.int _)], [.int _, .int _, .int _, .int _, .ref _], _)) rfl (u_ rfl) ?_
                  refine wcI (pc := 303) (len_s := 3) rfl rfl (l := [some (.int _), some (.int _), some (.int _)]) rfl (wmI t_s (fun v31 h31 hk t_s => ?_))
                  replace t_s := t_s hk
                  refine w25 (pc := 306) (len_s := 1) rfl (klz2 hk hm_s) (fun c32_s => ?_)
                  refine w_t (pc := 307) (e_s := (19, 3, 4, 0, 0, .int 1, [])) (y_s := (310, [some (.ref _), some (.ref _), some (.int _), some (.int _), some (.int _), some (.int _), some (.int _), some (.int _)], [], _)) rfl (u_ rfl) ?_
                  refine w_t (pc := 310) (e_s := (17, 3, 32, 0, 0, .null, [])) (y_s := (32, [some (.ref _), some (.ref _), some (.int _), some (.int _), some (.int _), some (.int _), some (.int _), some (.int _)], [], _)) rfl (u_ rfl) ?_
                  exact t_s
/-- ColdShod$LawCode.joined(III)I, from 0 on -/
theorem sg_60_0 {F_s : Nat} {x1_s : Int32} {x2_s : Int32} {x3 : Int32} {h_s : zH} {K_s : Int32 → zH → Prop} (hk : hKn h_s) (t_s : (x2_s.toInt = 37 → ((x3.toInt = 0 → K_s 0 h_s) ∧ (¬ x3.toInt = 0 → K_s (x1_s - x1_s / x3 * x3) h_s))) ∧ (¬ x2_s.toInt = 37 → (x2_s.toInt = 38 → ((x1_s.toInt = 0 → K_s 0 h_s) ∧ (¬ x1_s.toInt = 0 → ((x3.toInt = 0 → K_s 0 h_s) ∧ (¬ x3.toInt = 0 → K_s 1 h_s))))) ∧ (¬ x2_s.toInt = 38 → (x2_s.toInt = 42 → K_s (x1_s * x3) h_s) ∧ (¬ x2_s.toInt = 42 → (x2_s.toInt = 43 → K_s (x1_s + x3) h_s) ∧ (¬ x2_s.toInt = 43 → (x2_s.toInt = 45 → K_s (x1_s - x3) h_s) ∧ (¬ x2_s.toInt = 45 → (x2_s.toInt = 47 → ((x3.toInt = 0 → K_s 0 h_s) ∧ (¬ x3.toInt = 0 → K_s (x1_s / x3) h_s))) ∧ (¬ x2_s.toInt = 47 → (x2_s.toInt = 60 → ((x1_s.toInt < x3.toInt → K_s 1 h_s) ∧ (¬ x1_s.toInt < x3.toInt → K_s 0 h_s))) ∧ (¬ x2_s.toInt = 60 → (x2_s.toInt = 61 → ((x1_s.toInt = x3.toInt → K_s 1 h_s) ∧ (¬ x1_s.toInt = x3.toInt → K_s 0 h_s))) ∧ (¬ x2_s.toInt = 61 → (x2_s.toInt = 62 → ((x3.toInt < x1_s.toInt → K_s 1 h_s) ∧ (¬ x3.toInt < x1_s.toInt → K_s 0 h_s))) ∧ (¬ x2_s.toInt = 62 → (x2_s.toInt = 124 → ((x1_s.toInt = 0 → ((x3.toInt = 0 → K_s 0 h_s) ∧ (¬ x3.toInt = 0 → K_s 1 h_s))) ∧ (¬ x1_s.toInt = 0 → K_s 1 h_s))) ∧ (¬ x2_s.toInt = 124 → K_s 0 h_s))))))))))) : wF (F_s + 1) 60 (0, [some (.int x1_s), some (.int x2_s), some (.int x3)], [], h_s) (gI K_s) := by
  refine w_0 (pc := 0) (e_s := (1, 1, 1, 0, 0, .null, [])) (y_s := (1, [some (.int _), some (.int _), some (.int _)], [.int _], _)) rfl (u_ rfl) ?_
  refine wsw (pc := 1) (len_s := 91) rfl ?_
  refine wsc (X_s := 37) rfl (by decide) (fun c1_s => ?_) (fun c1_s => ?_)
  · replace t_s := t_s.1 c1_s
    refine w_t (pc := 177) (e_s := (1, 1, 2, 0, 0, .null, [])) (y_s := (178, [some (.int _), some (.int _), some (.int _)], [.int _], _)) rfl (u_ rfl) ?_
    refine wq1 (pc := 178) (len_s := 3) rfl rfl (fun c2_s => ?_) (fun c2_s => ?_)
    · replace t_s := t_s.1 c2_s
      refine w_t (pc := 181) (e_s := (0, 1, 0, 0, 0, .int 0, [])) (y_s := (182, [some (.int _), some (.int _), some (.int _)], [.int _], _)) rfl (u_ rfl) ?_
      refine w_t (pc := 182) (e_s := (17, 3, 188, 0, 0, .null, [])) (y_s := (188, [some (.int _), some (.int _), some (.int _)], [.int _], _)) rfl (u_ rfl) ?_
      exact wrI (pc := 188) (len_s := 1) rfl hk t_s
    · replace t_s := t_s.2 c2_s
      refine w_t (pc := 185) (e_s := (1, 1, 0, 0, 0, .null, [])) (y_s := (186, [some (.int _), some (.int _), some (.int _)], [.int _], _)) rfl (u_ rfl) ?_
      refine w_t (pc := 186) (e_s := (1, 1, 2, 0, 0, .null, [])) (y_s := (187, [some (.int _), some (.int _), some (.int _)], [.int _, .int _], _)) rfl (u_ rfl) ?_
      refine w8m (pc := 187) (len_s := 1) rfl ?_
      exact wrI (pc := 188) (len_s := 1) rfl hk t_s
  · replace t_s := t_s.2 c1_s
    refine wsc (X_s := 38) rfl (by decide) (fun c3_s => ?_) (fun c3_s => ?_)
    · replace t_s := t_s.1 c3_s
      refine w_t (pc := 106) (e_s := (1, 1, 0, 0, 0, .null, [])) (y_s := (107, [some (.int _), some (.int _), some (.int _)], [.int _], _)) rfl (u_ rfl) ?_
      refine wq0 (pc := 107) (len_s := 3) rfl rfl (fun c4_s => ?_) (fun c4_s => ?_)
      · replace t_s := t_s.1 c4_s
        refine w_t (pc := 118) (e_s := (0, 1, 0, 0, 0, .int 0, [])) (y_s := (119, [some (.int _), some (.int _), some (.int _)], [.int _], _)) rfl (u_ rfl) ?_
        exact wrI (pc := 119) (len_s := 1) rfl hk t_s
      · replace t_s := t_s.2 c4_s
        refine w_t (pc := 110) (e_s := (1, 1, 2, 0, 0, .null, [])) (y_s := (111, [some (.int _), some (.int _), some (.int _)], [.int _], _)) rfl (u_ rfl) ?_
        refine wq0 (pc := 111) (len_s := 3) rfl rfl (fun c5_s => ?_) (fun c5_s => ?_)
        · replace t_s := t_s.1 c5_s
          refine w_t (pc := 118) (e_s := (0, 1, 0, 0, 0, .int 0, [])) (y_s := (119, [some (.int _), some (.int _), some (.int _)], [.int _], _)) rfl (u_ rfl) ?_
          exact wrI (pc := 119) (len_s := 1) rfl hk t_s
        · replace t_s := t_s.2 c5_s
          refine w_t (pc := 114) (e_s := (0, 1, 0, 0, 0, .int 1, [])) (y_s := (115, [some (.int _), some (.int _), some (.int _)], [.int _], _)) rfl (u_ rfl) ?_
          refine w_t (pc := 115) (e_s := (17, 3, 119, 0, 0, .null, [])) (y_s := (119, [some (.int _), some (.int _), some (.int _)], [.int _], _)) rfl (u_ rfl) ?_
          exact wrI (pc := 119) (len_s := 1) rfl hk t_s
    · replace t_s := t_s.2 c3_s
      refine wsc (X_s := 42) rfl (by decide) (fun c6_s => ?_) (fun c6_s => ?_)
      · replace t_s := t_s.1 c6_s
        refine w_t (pc := 161) (e_s := (1, 1, 0, 0, 0, .null, [])) (y_s := (162, [some (.int _), some (.int _), some (.int _)], [.int _], _)) rfl (u_ rfl) ?_
        refine w_t (pc := 162) (e_s := (1, 1, 2, 0, 0, .null, [])) (y_s := (163, [some (.int _), some (.int _), some (.int _)], [.int _, .int _], _)) rfl (u_ rfl) ?_
        refine w_t (pc := 163) (e_s := (7, 1, 0, 2, 0, .null, [])) (y_s := (164, [some (.int _), some (.int _), some (.int _)], [.int (_ * _)], _)) rfl (u_ rfl) ?_
        exact wrI (pc := 164) (len_s := 1) rfl hk t_s
      · replace t_s := t_s.2 c6_s
        refine wsc (X_s := 43) rfl (by decide) (fun c7_s => ?_) (fun c7_s => ?_)
        · replace t_s := t_s.1 c7_s
          refine w_t (pc := 153) (e_s := (1, 1, 0, 0, 0, .null, [])) (y_s := (154, [some (.int _), some (.int _), some (.int _)], [.int _], _)) rfl (u_ rfl) ?_
          refine w_t (pc := 154) (e_s := (1, 1, 2, 0, 0, .null, [])) (y_s := (155, [some (.int _), some (.int _), some (.int _)], [.int _, .int _], _)) rfl (u_ rfl) ?_
          refine w_t (pc := 155) (e_s := (7, 1, 0, 0, 0, .null, [])) (y_s := (156, [some (.int _), some (.int _), some (.int _)], [.int (_ + _)], _)) rfl (u_ rfl) ?_
          exact wrI (pc := 156) (len_s := 1) rfl hk t_s
        · replace t_s := t_s.2 c7_s
          refine wsc (X_s := 45) rfl (by decide) (fun c8_s => ?_) (fun c8_s => ?_)
          · replace t_s := t_s.1 c8_s
            refine w_t (pc := 157) (e_s := (1, 1, 0, 0, 0, .null, [])) (y_s := (158, [some (.int _), some (.int _), some (.int _)], [.int _], _)) rfl (u_ rfl) ?_
            refine w_t (pc := 158) (e_s := (1, 1, 2, 0, 0, .null, [])) (y_s := (159, [some (.int _), some (.int _), some (.int _)], [.int _, .int _], _)) rfl (u_ rfl) ?_
            refine w_t (pc := 159) (e_s := (7, 1, 0, 1, 0, .null, [])) (y_s := (160, [some (.int _), some (.int _), some (.int _)], [.int (_ - _)], _)) rfl (u_ rfl) ?_
            exact wrI (pc := 160) (len_s := 1) rfl hk t_s
          · replace t_s := t_s.2 c8_s
            refine wsc (X_s := 47) rfl (by decide) (fun c9_s => ?_) (fun c9_s => ?_)
            · replace t_s := t_s.1 c9_s
              refine w_t (pc := 165) (e_s := (1, 1, 2, 0, 0, .null, [])) (y_s := (166, [some (.int _), some (.int _), some (.int _)], [.int _], _)) rfl (u_ rfl) ?_
              refine wq1 (pc := 166) (len_s := 3) rfl rfl (fun c10_s => ?_) (fun c10_s => ?_)
              · replace t_s := t_s.1 c10_s
                refine w_t (pc := 169) (e_s := (0, 1, 0, 0, 0, .int 0, [])) (y_s := (170, [some (.int _), some (.int _), some (.int _)], [.int _], _)) rfl (u_ rfl) ?_
                refine w_t (pc := 170) (e_s := (17, 3, 176, 0, 0, .null, [])) (y_s := (176, [some (.int _), some (.int _), some (.int _)], [.int _], _)) rfl (u_ rfl) ?_
                exact wrI (pc := 176) (len_s := 1) rfl hk t_s
              · replace t_s := t_s.2 c10_s
                refine w_t (pc := 173) (e_s := (1, 1, 0, 0, 0, .null, [])) (y_s := (174, [some (.int _), some (.int _), some (.int _)], [.int _], _)) rfl (u_ rfl) ?_
                refine w_t (pc := 174) (e_s := (1, 1, 2, 0, 0, .null, [])) (y_s := (175, [some (.int _), some (.int _), some (.int _)], [.int _, .int _], _)) rfl (u_ rfl) ?_
                refine w8 (pc := 175) (len_s := 1) rfl ?_
                exact wrI (pc := 176) (len_s := 1) rfl hk t_s
            · replace t_s := t_s.2 c9_s
              refine wsc (X_s := 60) rfl (by decide) (fun c11_s => ?_) (fun c11_s => ?_)
              · replace t_s := t_s.1 c11_s
                refine w_t (pc := 120) (e_s := (1, 1, 0, 0, 0, .null, [])) (y_s := (121, [some (.int _), some (.int _), some (.int _)], [.int _], _)) rfl (u_ rfl) ?_
                refine w_t (pc := 121) (e_s := (1, 1, 2, 0, 0, .null, [])) (y_s := (122, [some (.int _), some (.int _), some (.int _)], [.int _, .int _], _)) rfl (u_ rfl) ?_
                refine wi3 (pc := 122) (len_s := 3) rfl rfl rfl (fun c12_s => ?_) (fun c12_s => ?_)
                · replace t_s := t_s.1 c12_s
                  refine w_t (pc := 125) (e_s := (0, 1, 0, 0, 0, .int 1, [])) (y_s := (126, [some (.int _), some (.int _), some (.int _)], [.int _], _)) rfl (u_ rfl) ?_
                  refine w_t (pc := 126) (e_s := (17, 3, 130, 0, 0, .null, [])) (y_s := (130, [some (.int _), some (.int _), some (.int _)], [.int _], _)) rfl (u_ rfl) ?_
                  exact wrI (pc := 130) (len_s := 1) rfl hk t_s
                · replace t_s := t_s.2 c12_s
                  refine w_t (pc := 129) (e_s := (0, 1, 0, 0, 0, .int 0, [])) (y_s := (130, [some (.int _), some (.int _), some (.int _)], [.int _], _)) rfl (u_ rfl) ?_
                  exact wrI (pc := 130) (len_s := 1) rfl hk t_s
              · replace t_s := t_s.2 c11_s
                refine wsc (X_s := 61) rfl (by decide) (fun c13_s => ?_) (fun c13_s => ?_)
                · replace t_s := t_s.1 c13_s
                  refine w_t (pc := 131) (e_s := (1, 1, 0, 0, 0, .null, [])) (y_s := (132, [some (.int _), some (.int _), some (.int _)], [.int _], _)) rfl (u_ rfl) ?_
                  refine w_t (pc := 132) (e_s := (1, 1, 2, 0, 0, .null, [])) (y_s := (133, [some (.int _), some (.int _), some (.int _)], [.int _, .int _], _)) rfl (u_ rfl) ?_
                  refine wi1 (pc := 133) (len_s := 3) rfl rfl rfl (fun c14_s => ?_) (fun c14_s => ?_)
                  · replace t_s := t_s.1 c14_s
                    refine w_t (pc := 136) (e_s := (0, 1, 0, 0, 0, .int 1, [])) (y_s := (137, [some (.int _), some (.int _), some (.int _)], [.int _], _)) rfl (u_ rfl) ?_
                    refine w_t (pc := 137) (e_s := (17, 3, 141, 0, 0, .null, [])) (y_s := (141, [some (.int _), some (.int _), some (.int _)], [.int _], _)) rfl (u_ rfl) ?_
                    exact wrI (pc := 141) (len_s := 1) rfl hk t_s
                  · replace t_s := t_s.2 c14_s
                    refine w_t (pc := 140) (e_s := (0, 1, 0, 0, 0, .int 0, [])) (y_s := (141, [some (.int _), some (.int _), some (.int _)], [.int _], _)) rfl (u_ rfl) ?_
                    exact wrI (pc := 141) (len_s := 1) rfl hk t_s
                · replace t_s := t_s.2 c13_s
                  refine wsc (X_s := 62) rfl (by decide) (fun c15_s => ?_) (fun c15_s => ?_)
                  · replace t_s := t_s.1 c15_s
                    refine w_t (pc := 142) (e_s := (1, 1, 0, 0, 0, .null, [])) (y_s := (143, [some (.int _), some (.int _), some (.int _)], [.int _], _)) rfl (u_ rfl) ?_
                    refine w_t (pc := 143) (e_s := (1, 1, 2, 0, 0, .null, [])) (y_s := (144, [some (.int _), some (.int _), some (.int _)], [.int _, .int _], _)) rfl (u_ rfl) ?_
                    refine wi5 (pc := 144) (len_s := 3) rfl rfl rfl (fun c16 => ?_) (fun c16 => ?_)
                    · replace t_s := t_s.1 c16
                      refine w_t (pc := 147) (e_s := (0, 1, 0, 0, 0, .int 1, [])) (y_s := (148, [some (.int _), some (.int _), some (.int _)], [.int _], _)) rfl (u_ rfl) ?_
                      refine w_t (pc := 148) (e_s := (17, 3, 152, 0, 0, .null, [])) (y_s := (152, [some (.int _), some (.int _), some (.int _)], [.int _], _)) rfl (u_ rfl) ?_
                      exact wrI (pc := 152) (len_s := 1) rfl hk t_s
                    · replace t_s := t_s.2 c16
                      refine w_t (pc := 151) (e_s := (0, 1, 0, 0, 0, .int 0, [])) (y_s := (152, [some (.int _), some (.int _), some (.int _)], [.int _], _)) rfl (u_ rfl) ?_
                      exact wrI (pc := 152) (len_s := 1) rfl hk t_s
                  · replace t_s := t_s.2 c15_s
                    refine wsc (X_s := 124) rfl (by decide) (fun c17 => ?_) (fun c17 => ?_)
                    · replace t_s := t_s.1 c17
                      refine w_t (pc := 92) (e_s := (1, 1, 0, 0, 0, .null, [])) (y_s := (93, [some (.int _), some (.int _), some (.int _)], [.int _], _)) rfl (u_ rfl) ?_
                      refine wq1 (pc := 93) (len_s := 3) rfl rfl (fun c18_s => ?_) (fun c18_s => ?_)
                      · replace t_s := t_s.1 c18_s
                        refine w_t (pc := 96) (e_s := (1, 1, 2, 0, 0, .null, [])) (y_s := (97, [some (.int _), some (.int _), some (.int _)], [.int _], _)) rfl (u_ rfl) ?_
                        refine wq0 (pc := 97) (len_s := 3) rfl rfl (fun c19_s => ?_) (fun c19_s => ?_)
                        · replace t_s := t_s.1 c19_s
                          refine w_t (pc := 104) (e_s := (0, 1, 0, 0, 0, .int 0, [])) (y_s := (105, [some (.int _), some (.int _), some (.int _)], [.int _], _)) rfl (u_ rfl) ?_
                          exact wrI (pc := 105) (len_s := 1) rfl hk t_s
                        · replace t_s := t_s.2 c19_s
                          refine w_t (pc := 100) (e_s := (0, 1, 0, 0, 0, .int 1, [])) (y_s := (101, [some (.int _), some (.int _), some (.int _)], [.int _], _)) rfl (u_ rfl) ?_
                          refine w_t (pc := 101) (e_s := (17, 3, 105, 0, 0, .null, [])) (y_s := (105, [some (.int _), some (.int _), some (.int _)], [.int _], _)) rfl (u_ rfl) ?_
                          exact wrI (pc := 105) (len_s := 1) rfl hk t_s
                      · replace t_s := t_s.2 c18_s
                        refine w_t (pc := 100) (e_s := (0, 1, 0, 0, 0, .int 1, [])) (y_s := (101, [some (.int _), some (.int _), some (.int _)], [.int _], _)) rfl (u_ rfl) ?_
                        refine w_t (pc := 101) (e_s := (17, 3, 105, 0, 0, .null, [])) (y_s := (105, [some (.int _), some (.int _), some (.int _)], [.int _], _)) rfl (u_ rfl) ?_
                        exact wrI (pc := 105) (len_s := 1) rfl hk t_s
                    · replace t_s := t_s.2 c17
                      show wF _ _ (189, _, _, _) _
                      refine w_t (pc := 189) (e_s := (0, 1, 0, 0, 0, .int 0, [])) (y_s := (190, [some (.int _), some (.int _), some (.int _)], [.int _], _)) rfl (u_ rfl) ?_
                      exact wrI (pc := 190) (len_s := 1) rfl hk t_s
