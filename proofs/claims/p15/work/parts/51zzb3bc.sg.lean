/-! What ended runs give: printed by a program (wip/fun/sg.py). -/
/-- ColdShod$Country.isRatherHead(II)Z, from 0 on -/
theorem sg_28_0 {F_s : Nat} {x1_s x2_s : Int32} {h_s : zH} {K_s : Int32 → zH → Prop} (hk : hKn h_s) (t_s : (x2_s.toInt < 0 → K_s 1 h_s) ∧ (¬ x2_s.toInt < 0 → ((x2_s.toInt < (h_s.2.1 7 6).toInt → (zix x1_s < 6 → (zix x2_s < 6 → ((h_s.2.1 9 (zix x1_s)).toInt = (h_s.2.1 9 (zix x2_s)).toInt → ((x1_s.toInt < x2_s.toInt → K_s 1 h_s) ∧ (¬ x1_s.toInt < x2_s.toInt → K_s 0 h_s))) ∧ (¬ (h_s.2.1 9 (zix x1_s)).toInt = (h_s.2.1 9 (zix x2_s)).toInt → (((h_s.2.1 9 (zix x2_s)).toInt < (h_s.2.1 9 (zix x1_s)).toInt → K_s 1 h_s) ∧ (¬ (h_s.2.1 9 (zix x2_s)).toInt < (h_s.2.1 9 (zix x1_s)).toInt → K_s 0 h_s)))))) ∧ (¬ x2_s.toInt < (h_s.2.1 7 6).toInt → K_s 1 h_s)))) : wF (F_s + 1) 28 (0, [some (.ref 7), some (.int x1_s), some (.int x2_s)], [], h_s) (gI K_s) := by
  refine w_0 (pc := 0) (e_s := (3, 1, 0, 0, 0, .null, [])) (y_s := (1, [some (.ref _), some (.int _), some (.int _)], [.ref _], _)) rfl (u_ rfl) ?_
  refine w_t (pc := 1) (e_s := (1, 1, 2, 0, 0, .null, [])) (y_s := (2, [some (.ref _), some (.int _), some (.int _)], [.int _, .ref _], _)) rfl (u_ rfl) ?_
  refine wcI (pc := 2) (len_s := 3) rfl rfl (l := [some (.ref _), some (.int _)]) rfl ?_
  refine w_t (pc := 0) (e_s := (1, 1, 1, 0, 0, .null, [])) (y_s := (1, [some (.ref _), some (.int _)], [.int _], _)) rfl (u_ rfl) ?_
  refine wq2 (pc := 1) (len_s := 3) rfl rfl (fun c1_s => ?_) (fun c1_s => ?_)
  · replace t_s := t_s.1 c1_s
    refine w_t (pc := 16) (e_s := (0, 1, 0, 0, 0, .int 0, [])) (y_s := (17, [some (.ref _), some (.int _)], [.int _], _)) rfl (u_ rfl) ?_
    refine wrI (pc := 17) (len_s := 1) rfl hk ?_
    show wF _ 28 (5, [some (.ref _), some (.int _), some (.int _)], [.int _], _) _
    refine w_t (pc := 5) (e_s := (15, 3, 10, 1, 0, .null, [])) (y_s := (8, [some (.ref _), some (.int _), some (.int _)], [], _)) rfl (u_ rfl) ?_
    refine w_t (pc := 8) (e_s := (0, 1, 0, 0, 0, .int 1, [])) (y_s := (9, [some (.ref _), some (.int _), some (.int _)], [.int _], _)) rfl (u_ rfl) ?_
    exact wrI (pc := 9) (len_s := 1) rfl hk t_s
  · replace t_s := t_s.2 c1_s
    refine w_t (pc := 4) (e_s := (1, 1, 1, 0, 0, .null, [])) (y_s := (5, [some (.ref _), some (.int _)], [.int _], _)) rfl (u_ rfl) ?_
    refine w_t (pc := 5) (e_s := (3, 1, 0, 0, 0, .null, [])) (y_s := (6, [some (.ref _), some (.int _)], [.ref _, .int _], _)) rfl (u_ rfl) ?_
    refine w20 (pc := 6) (len_s := 3) rfl ?_
    refine wi3 (pc := 9) (len_s := 3) rfl rfl rfl (fun c2_s => ?_) (fun c2_s => ?_)
    · replace t_s := t_s.1 c2_s
      refine w_t (pc := 12) (e_s := (0, 1, 0, 0, 0, .int 1, [])) (y_s := (13, [some (.ref _), some (.int _)], [.int _], _)) rfl (u_ rfl) ?_
      refine w_t (pc := 13) (e_s := (17, 3, 17, 0, 0, .null, [])) (y_s := (17, [some (.ref _), some (.int _)], [.int _], _)) rfl (u_ rfl) ?_
      refine wrI (pc := 17) (len_s := 1) rfl hk ?_
      show wF _ 28 (5, [some (.ref _), some (.int _), some (.int _)], [.int _], _) _
      refine w_t (pc := 5) (e_s := (15, 3, 10, 1, 0, .null, [])) (y_s := (10, [some (.ref _), some (.int _), some (.int _)], [], _)) rfl (u_ rfl) ?_
      refine w_t (pc := 10) (e_s := (3, 1, 0, 0, 0, .null, [])) (y_s := (11, [some (.ref _), some (.int _), some (.int _)], [.ref _], _)) rfl (u_ rfl) ?_
      refine w20r (pc := 11) (len_s := 3) (q_s := 9) rfl (krq hk rfl) ?_
      refine w_t (pc := 14) (e_s := (1, 1, 1, 0, 0, .null, [])) (y_s := (15, [some (.ref _), some (.int _), some (.int _)], [.int _, .ref _], _)) rfl (u_ rfl) ?_
      refine w22 (pc := 15) (len_s := 1) rfl (hk.1 9 0 6 rfl rfl) (fun c3_s => ?_)
      replace t_s := t_s c3_s
      refine w_t (pc := 16) (e_s := (3, 1, 0, 0, 0, .null, [])) (y_s := (17, [some (.ref _), some (.int _), some (.int _)], [.ref _, .int _], _)) rfl (u_ rfl) ?_
      refine w20r (pc := 17) (len_s := 3) (q_s := 9) rfl (krq hk rfl) ?_
      refine w_t (pc := 20) (e_s := (1, 1, 2, 0, 0, .null, [])) (y_s := (21, [some (.ref _), some (.int _), some (.int _)], [.int _, .ref _, .int _], _)) rfl (u_ rfl) ?_
      refine w22 (pc := 21) (len_s := 1) rfl (hk.1 9 0 6 rfl rfl) (fun c4_s => ?_)
      replace t_s := t_s c4_s
      refine wi0 (pc := 22) (len_s := 3) rfl rfl rfl (fun c5_s => ?_) (fun c5_s => ?_)
      · replace t_s := t_s.1 c5_s
        refine w_t (pc := 48) (e_s := (1, 1, 1, 0, 0, .null, [])) (y_s := (49, [some (.ref _), some (.int _), some (.int _)], [.int _], _)) rfl (u_ rfl) ?_
        refine w_t (pc := 49) (e_s := (1, 1, 2, 0, 0, .null, [])) (y_s := (50, [some (.ref _), some (.int _), some (.int _)], [.int _, .int _], _)) rfl (u_ rfl) ?_
        refine wi3 (pc := 50) (len_s := 3) rfl rfl rfl (fun c6_s => ?_) (fun c6_s => ?_)
        · replace t_s := t_s.1 c6_s
          refine w_t (pc := 53) (e_s := (0, 1, 0, 0, 0, .int 1, [])) (y_s := (54, [some (.ref _), some (.int _), some (.int _)], [.int _], _)) rfl (u_ rfl) ?_
          refine w_t (pc := 54) (e_s := (17, 3, 58, 0, 0, .null, [])) (y_s := (58, [some (.ref _), some (.int _), some (.int _)], [.int _], _)) rfl (u_ rfl) ?_
          exact wrI (pc := 58) (len_s := 1) rfl hk t_s
        · replace t_s := t_s.2 c6_s
          refine w_t (pc := 57) (e_s := (0, 1, 0, 0, 0, .int 0, [])) (y_s := (58, [some (.ref _), some (.int _), some (.int _)], [.int _], _)) rfl (u_ rfl) ?_
          exact wrI (pc := 58) (len_s := 1) rfl hk t_s
      · replace t_s := t_s.2 c5_s
        refine w_t (pc := 25) (e_s := (3, 1, 0, 0, 0, .null, [])) (y_s := (26, [some (.ref _), some (.int _), some (.int _)], [.ref _], _)) rfl (u_ rfl) ?_
        refine w20r (pc := 26) (len_s := 3) (q_s := 9) rfl (krq hk rfl) ?_
        refine w_t (pc := 29) (e_s := (1, 1, 1, 0, 0, .null, [])) (y_s := (30, [some (.ref _), some (.int _), some (.int _)], [.int _, .ref _], _)) rfl (u_ rfl) ?_
        refine w22 (pc := 30) (len_s := 1) rfl (hk.1 9 0 6 rfl rfl) (fun c7_s => ?_)
        refine w_t (pc := 31) (e_s := (3, 1, 0, 0, 0, .null, [])) (y_s := (32, [some (.ref _), some (.int _), some (.int _)], [.ref _, .int _], _)) rfl (u_ rfl) ?_
        refine w20r (pc := 32) (len_s := 3) (q_s := 9) rfl (krq hk rfl) ?_
        refine w_t (pc := 35) (e_s := (1, 1, 2, 0, 0, .null, [])) (y_s := (36, [some (.ref _), some (.int _), some (.int _)], [.int _, .ref _, .int _], _)) rfl (u_ rfl) ?_
        refine w22 (pc := 36) (len_s := 1) rfl (hk.1 9 0 6 rfl rfl) (fun c8_s => ?_)
        refine wi5 (pc := 37) (len_s := 3) rfl rfl rfl (fun c9_s => ?_) (fun c9_s => ?_)
        · replace t_s := t_s.1 c9_s
          refine w_t (pc := 40) (e_s := (0, 1, 0, 0, 0, .int 1, [])) (y_s := (41, [some (.ref _), some (.int _), some (.int _)], [.int _], _)) rfl (u_ rfl) ?_
          refine w_t (pc := 41) (e_s := (17, 3, 58, 0, 0, .null, [])) (y_s := (58, [some (.ref _), some (.int _), some (.int _)], [.int _], _)) rfl (u_ rfl) ?_
          exact wrI (pc := 58) (len_s := 1) rfl hk t_s
        · replace t_s := t_s.2 c9_s
          refine w_t (pc := 44) (e_s := (0, 1, 0, 0, 0, .int 0, [])) (y_s := (45, [some (.ref _), some (.int _), some (.int _)], [.int _], _)) rfl (u_ rfl) ?_
          refine w_t (pc := 45) (e_s := (17, 3, 58, 0, 0, .null, [])) (y_s := (58, [some (.ref _), some (.int _), some (.int _)], [.int _], _)) rfl (u_ rfl) ?_
          exact wrI (pc := 58) (len_s := 1) rfl hk t_s
    · replace t_s := t_s.2 c2_s
      refine w_t (pc := 16) (e_s := (0, 1, 0, 0, 0, .int 0, [])) (y_s := (17, [some (.ref _), some (.int _)], [.int _], _)) rfl (u_ rfl) ?_
      refine wrI (pc := 17) (len_s := 1) rfl hk ?_
      show wF _ 28 (5, [some (.ref _), some (.int _), some (.int _)], [.int _], _) _
      refine w_t (pc := 5) (e_s := (15, 3, 10, 1, 0, .null, [])) (y_s := (8, [some (.ref _), some (.int _), some (.int _)], [], _)) rfl (u_ rfl) ?_
      refine w_t (pc := 8) (e_s := (0, 1, 0, 0, 0, .int 1, [])) (y_s := (9, [some (.ref _), some (.int _), some (.int _)], [.int _], _)) rfl (u_ rfl) ?_
      exact wrI (pc := 9) (len_s := 1) rfl hk t_s
/-- ColdShod$Country.isRatherIdea(III)Z, from 0 on -/
theorem sg_29_0 {F_s : Nat} {x1_s x2_s x3 : Int32} {h_s : zH} {K_s : Int32 → zH → Prop} (hk : hKn h_s) (t_s : (x3.toInt < 0 → K_s 1 h_s) ∧ (¬ x3.toInt < 0 → ((x3.toInt < (h_s.2.1 7 7).toInt → (zix x2_s < 8 → (zix x1_s < 6 → (zix x3 < 8 → ((if ((h_s.2.1 (20 + (zix x2_s)) 1) - (h_s.2.1 8 (zix x1_s))) < 0 then -((h_s.2.1 (20 + (zix x2_s)) 1) - (h_s.2.1 8 (zix x1_s))) else ((h_s.2.1 (20 + (zix x2_s)) 1) - (h_s.2.1 8 (zix x1_s)))).toInt = (if ((h_s.2.1 (20 + (zix x3)) 1) - (h_s.2.1 8 (zix x1_s))) < 0 then -((h_s.2.1 (20 + (zix x3)) 1) - (h_s.2.1 8 (zix x1_s))) else ((h_s.2.1 (20 + (zix x3)) 1) - (h_s.2.1 8 (zix x1_s)))).toInt → (((h_s.2.1 (20 + (zix x2_s)) 2).toInt = (h_s.2.1 (20 + (zix x3)) 2).toInt → ((x2_s.toInt < x3.toInt → K_s 1 h_s) ∧ (¬ x2_s.toInt < x3.toInt → K_s 0 h_s))) ∧ (¬ (h_s.2.1 (20 + (zix x2_s)) 2).toInt = (h_s.2.1 (20 + (zix x3)) 2).toInt → (((h_s.2.1 (20 + (zix x2_s)) 2).toInt < (h_s.2.1 (20 + (zix x3)) 2).toInt → K_s 1 h_s) ∧ (¬ (h_s.2.1 (20 + (zix x2_s)) 2).toInt < (h_s.2.1 (20 + (zix x3)) 2).toInt → K_s 0 h_s))))) ∧ (¬ (if ((h_s.2.1 (20 + (zix x2_s)) 1) - (h_s.2.1 8 (zix x1_s))) < 0 then -((h_s.2.1 (20 + (zix x2_s)) 1) - (h_s.2.1 8 (zix x1_s))) else ((h_s.2.1 (20 + (zix x2_s)) 1) - (h_s.2.1 8 (zix x1_s)))).toInt = (if ((h_s.2.1 (20 + (zix x3)) 1) - (h_s.2.1 8 (zix x1_s))) < 0 then -((h_s.2.1 (20 + (zix x3)) 1) - (h_s.2.1 8 (zix x1_s))) else ((h_s.2.1 (20 + (zix x3)) 1) - (h_s.2.1 8 (zix x1_s)))).toInt → (((if ((h_s.2.1 (20 + (zix x2_s)) 1) - (h_s.2.1 8 (zix x1_s))) < 0 then -((h_s.2.1 (20 + (zix x2_s)) 1) - (h_s.2.1 8 (zix x1_s))) else ((h_s.2.1 (20 + (zix x2_s)) 1) - (h_s.2.1 8 (zix x1_s)))).toInt < (if ((h_s.2.1 (20 + (zix x3)) 1) - (h_s.2.1 8 (zix x1_s))) < 0 then -((h_s.2.1 (20 + (zix x3)) 1) - (h_s.2.1 8 (zix x1_s))) else ((h_s.2.1 (20 + (zix x3)) 1) - (h_s.2.1 8 (zix x1_s)))).toInt → K_s 1 h_s) ∧ (¬ (if ((h_s.2.1 (20 + (zix x2_s)) 1) - (h_s.2.1 8 (zix x1_s))) < 0 then -((h_s.2.1 (20 + (zix x2_s)) 1) - (h_s.2.1 8 (zix x1_s))) else ((h_s.2.1 (20 + (zix x2_s)) 1) - (h_s.2.1 8 (zix x1_s)))).toInt < (if ((h_s.2.1 (20 + (zix x3)) 1) - (h_s.2.1 8 (zix x1_s))) < 0 then -((h_s.2.1 (20 + (zix x3)) 1) - (h_s.2.1 8 (zix x1_s))) else ((h_s.2.1 (20 + (zix x3)) 1) - (h_s.2.1 8 (zix x1_s)))).toInt → K_s 0 h_s))))))) ∧ (¬ x3.toInt < (h_s.2.1 7 7).toInt → K_s 1 h_s)))) : wF (F_s + 1) 29 (0, [some (.ref 7), some (.int x1_s), some (.int x2_s), some (.int x3), none, none], [], h_s) (gI K_s) := by
  refine w_0 (pc := 0) (e_s := (3, 1, 0, 0, 0, .null, [])) (y_s := (1, [some (.ref _), some (.int _), some (.int _), some (.int _), none, none], [.ref _], _)) rfl (u_ rfl) ?_
  refine w_t (pc := 1) (e_s := (1, 1, 3, 0, 0, .null, [])) (y_s := (2, [some (.ref _), some (.int _), some (.int _), some (.int _), none, none], [.int _, .ref _], _)) rfl (u_ rfl) ?_
  refine wcI (pc := 2) (len_s := 3) rfl rfl (l := [some (.ref _), some (.int _)]) rfl ?_
  refine w_t (pc := 0) (e_s := (1, 1, 1, 0, 0, .null, [])) (y_s := (1, [some (.ref _), some (.int _)], [.int _], _)) rfl (u_ rfl) ?_
  refine wq2 (pc := 1) (len_s := 3) rfl rfl (fun c1_s => ?_) (fun c1_s => ?_)
  · replace t_s := t_s.1 c1_s
    refine w_t (pc := 16) (e_s := (0, 1, 0, 0, 0, .int 0, [])) (y_s := (17, [some (.ref _), some (.int _)], [.int _], _)) rfl (u_ rfl) ?_
    refine wrI (pc := 17) (len_s := 1) rfl hk ?_
    show wF _ 29 (5, [some (.ref _), some (.int _), some (.int _), some (.int _), none, none], [.int _], _) _
    refine w_t (pc := 5) (e_s := (15, 3, 10, 1, 0, .null, [])) (y_s := (8, [some (.ref _), some (.int _), some (.int _), some (.int _), none, none], [], _)) rfl (u_ rfl) ?_
    refine w_t (pc := 8) (e_s := (0, 1, 0, 0, 0, .int 1, [])) (y_s := (9, [some (.ref _), some (.int _), some (.int _), some (.int _), none, none], [.int _], _)) rfl (u_ rfl) ?_
    exact wrI (pc := 9) (len_s := 1) rfl hk t_s
  · replace t_s := t_s.2 c1_s
    refine w_t (pc := 4) (e_s := (1, 1, 1, 0, 0, .null, [])) (y_s := (5, [some (.ref _), some (.int _)], [.int _], _)) rfl (u_ rfl) ?_
    refine w_t (pc := 5) (e_s := (3, 1, 0, 0, 0, .null, [])) (y_s := (6, [some (.ref _), some (.int _)], [.ref _, .int _], _)) rfl (u_ rfl) ?_
    refine w20 (pc := 6) (len_s := 3) rfl ?_
    refine wi3 (pc := 9) (len_s := 3) rfl rfl rfl (fun c2_s => ?_) (fun c2_s => ?_)
    · replace t_s := t_s.1 c2_s
      refine w_t (pc := 12) (e_s := (0, 1, 0, 0, 0, .int 1, [])) (y_s := (13, [some (.ref _), some (.int _)], [.int _], _)) rfl (u_ rfl) ?_
      refine w_t (pc := 13) (e_s := (17, 3, 17, 0, 0, .null, [])) (y_s := (17, [some (.ref _), some (.int _)], [.int _], _)) rfl (u_ rfl) ?_
      refine wrI (pc := 17) (len_s := 1) rfl hk ?_
      show wF _ 29 (5, [some (.ref _), some (.int _), some (.int _), some (.int _), none, none], [.int _], _) _
      refine w_t (pc := 5) (e_s := (15, 3, 10, 1, 0, .null, [])) (y_s := (10, [some (.ref _), some (.int _), some (.int _), some (.int _), none, none], [], _)) rfl (u_ rfl) ?_
      refine w_t (pc := 10) (e_s := (3, 1, 0, 0, 0, .null, [])) (y_s := (11, [some (.ref _), some (.int _), some (.int _), some (.int _), none, none], [.ref _], _)) rfl (u_ rfl) ?_
      refine w20r (pc := 11) (len_s := 3) (q_s := 10) rfl (krq hk rfl) ?_
      refine w_t (pc := 14) (e_s := (1, 1, 2, 0, 0, .null, [])) (y_s := (15, [some (.ref _), some (.int _), some (.int _), some (.int _), none, none], [.int _, .ref _], _)) rfl (u_ rfl) ?_
      refine w24 (g_s := fun j_ => 20 + j_) (pc := 15) (len_s := 1) hk rfl (hk.1 10 2 8 rfl rfl) kg10 (fun c3_s => ?_)
      replace t_s := t_s c3_s
      refine w20 (pc := 16) (len_s := 3) rfl ?_
      refine w_t (pc := 19) (e_s := (3, 1, 0, 0, 0, .null, [])) (y_s := (20, [some (.ref _), some (.int _), some (.int _), some (.int _), none, none], [.ref _, .int _], _)) rfl (u_ rfl) ?_
      refine w20r (pc := 20) (len_s := 3) (q_s := 8) rfl (krq hk rfl) ?_
      refine w_t (pc := 23) (e_s := (1, 1, 1, 0, 0, .null, [])) (y_s := (24, [some (.ref _), some (.int _), some (.int _), some (.int _), none, none], [.int _, .ref _, .int _], _)) rfl (u_ rfl) ?_
      refine w22 (pc := 24) (len_s := 1) rfl (hk.1 8 0 6 rfl rfl) (fun c4_s => ?_)
      replace t_s := t_s c4_s
      refine w_t (pc := 25) (e_s := (7, 1, 0, 1, 0, .null, [])) (y_s := (26, [some (.ref _), some (.int _), some (.int _), some (.int _), none, none], [.int (_ - _)], _)) rfl (u_ rfl) ?_
      refine w_t (pc := 26) (e_s := (31, 3, 0, 2, 0, .null, [(0, 774), (0, 775), (0, 776), (0, 777)])) (y_s := (29, [some (.ref _), some (.int _), some (.int _), some (.int _), none, none], [.int _], _)) rfl (u_ rfl) ?_
      refine w_t (pc := 29) (e_s := (4, 2, 4, 0, 0, .null, [])) (y_s := (31, [some (.ref _), some (.int _), some (.int _), some (.int _), some (.int _), none], [], _)) rfl (u_ rfl) ?_
      refine w_t (pc := 31) (e_s := (3, 1, 0, 0, 0, .null, [])) (y_s := (32, [some (.ref _), some (.int _), some (.int _), some (.int _), some (.int _), none], [.ref _], _)) rfl (u_ rfl) ?_
      refine w20r (pc := 32) (len_s := 3) (q_s := 10) rfl (krq hk rfl) ?_
      refine w_t (pc := 35) (e_s := (1, 1, 3, 0, 0, .null, [])) (y_s := (36, [some (.ref _), some (.int _), some (.int _), some (.int _), some (.int _), none], [.int _, .ref _], _)) rfl (u_ rfl) ?_
      refine w24 (g_s := fun j_ => 20 + j_) (pc := 36) (len_s := 1) hk rfl (hk.1 10 2 8 rfl rfl) kg10 (fun c5_s => ?_)
      replace t_s := t_s c5_s
      refine w20 (pc := 37) (len_s := 3) rfl ?_
      refine w_t (pc := 40) (e_s := (3, 1, 0, 0, 0, .null, [])) (y_s := (41, [some (.ref _), some (.int _), some (.int _), some (.int _), some (.int _), none], [.ref _, .int _], _)) rfl (u_ rfl) ?_
      refine w20r (pc := 41) (len_s := 3) (q_s := 8) rfl (krq hk rfl) ?_
      refine w_t (pc := 44) (e_s := (1, 1, 1, 0, 0, .null, [])) (y_s := (45, [some (.ref _), some (.int _), some (.int _), some (.int _), some (.int _), none], [.int _, .ref _, .int _], _)) rfl (u_ rfl) ?_
      refine w22 (pc := 45) (len_s := 1) rfl (hk.1 8 0 6 rfl rfl) (fun c6_s => ?_)
      refine w_t (pc := 46) (e_s := (7, 1, 0, 1, 0, .null, [])) (y_s := (47, [some (.ref _), some (.int _), some (.int _), some (.int _), some (.int _), none], [.int (_ - _)], _)) rfl (u_ rfl) ?_
      refine w_t (pc := 47) (e_s := (31, 3, 0, 2, 0, .null, [(0, 774), (0, 775), (0, 776), (0, 777)])) (y_s := (50, [some (.ref _), some (.int _), some (.int _), some (.int _), some (.int _), none], [.int _], _)) rfl (u_ rfl) ?_
      refine w_t (pc := 50) (e_s := (4, 2, 5, 0, 0, .null, [])) (y_s := (52, [some (.ref _), some (.int _), some (.int _), some (.int _), some (.int _), some (.int _)], [], _)) rfl (u_ rfl) ?_
      refine w_t (pc := 52) (e_s := (1, 2, 4, 0, 0, .null, [])) (y_s := (54, [some (.ref _), some (.int _), some (.int _), some (.int _), some (.int _), some (.int _)], [.int _], _)) rfl (u_ rfl) ?_
      refine w_t (pc := 54) (e_s := (1, 2, 5, 0, 0, .null, [])) (y_s := (56, [some (.ref _), some (.int _), some (.int _), some (.int _), some (.int _), some (.int _)], [.int _, .int _], _)) rfl (u_ rfl) ?_
      refine wi0 (pc := 56) (len_s := 3) rfl rfl rfl (fun c7_s => ?_) (fun c7_s => ?_)
      · replace t_s := t_s.1 c7_s
        refine w_t (pc := 72) (e_s := (3, 1, 0, 0, 0, .null, [])) (y_s := (73, [some (.ref _), some (.int _), some (.int _), some (.int _), some (.int _), some (.int _)], [.ref _], _)) rfl (u_ rfl) ?_
        refine w20r (pc := 73) (len_s := 3) (q_s := 10) rfl (krq hk rfl) ?_
        refine w_t (pc := 76) (e_s := (1, 1, 2, 0, 0, .null, [])) (y_s := (77, [some (.ref _), some (.int _), some (.int _), some (.int _), some (.int _), some (.int _)], [.int _, .ref _], _)) rfl (u_ rfl) ?_
        refine w24 (g_s := fun j_ => 20 + j_) (pc := 77) (len_s := 1) hk rfl (hk.1 10 2 8 rfl rfl) kg10 (fun c8_s => ?_)
        refine w20 (pc := 78) (len_s := 3) rfl ?_
        refine w_t (pc := 81) (e_s := (3, 1, 0, 0, 0, .null, [])) (y_s := (82, [some (.ref _), some (.int _), some (.int _), some (.int _), some (.int _), some (.int _)], [.ref _, .int _], _)) rfl (u_ rfl) ?_
        refine w20r (pc := 82) (len_s := 3) (q_s := 10) rfl (krq hk rfl) ?_
        refine w_t (pc := 85) (e_s := (1, 1, 3, 0, 0, .null, [])) (y_s := (86, [some (.ref _), some (.int _), some (.int _), some (.int _), some (.int _), some (.int _)], [.int _, .ref _, .int _], _)) rfl (u_ rfl) ?_
        refine w24 (g_s := fun j_ => 20 + j_) (pc := 86) (len_s := 1) hk rfl (hk.1 10 2 8 rfl rfl) kg10 (fun c9_s => ?_)
        refine w20 (pc := 87) (len_s := 3) rfl ?_
        refine wi0 (pc := 90) (len_s := 3) rfl rfl rfl (fun c10_s => ?_) (fun c10_s => ?_)
        · replace t_s := t_s.1 c10_s
          refine w_t (pc := 120) (e_s := (1, 1, 2, 0, 0, .null, [])) (y_s := (121, [some (.ref _), some (.int _), some (.int _), some (.int _), some (.int _), some (.int _)], [.int _], _)) rfl (u_ rfl) ?_
          refine w_t (pc := 121) (e_s := (1, 1, 3, 0, 0, .null, [])) (y_s := (122, [some (.ref _), some (.int _), some (.int _), some (.int _), some (.int _), some (.int _)], [.int _, .int _], _)) rfl (u_ rfl) ?_
          refine wi3 (pc := 122) (len_s := 3) rfl rfl rfl (fun c11_s => ?_) (fun c11_s => ?_)
          · replace t_s := t_s.1 c11_s
            refine w_t (pc := 125) (e_s := (0, 1, 0, 0, 0, .int 1, [])) (y_s := (126, [some (.ref _), some (.int _), some (.int _), some (.int _), some (.int _), some (.int _)], [.int _], _)) rfl (u_ rfl) ?_
            refine w_t (pc := 126) (e_s := (17, 3, 130, 0, 0, .null, [])) (y_s := (130, [some (.ref _), some (.int _), some (.int _), some (.int _), some (.int _), some (.int _)], [.int _], _)) rfl (u_ rfl) ?_
            exact wrI (pc := 130) (len_s := 1) rfl hk t_s
          · replace t_s := t_s.2 c11_s
            refine w_t (pc := 129) (e_s := (0, 1, 0, 0, 0, .int 0, [])) (y_s := (130, [some (.ref _), some (.int _), some (.int _), some (.int _), some (.int _), some (.int _)], [.int _], _)) rfl (u_ rfl) ?_
            exact wrI (pc := 130) (len_s := 1) rfl hk t_s
        · replace t_s := t_s.2 c10_s
          refine w_t (pc := 93) (e_s := (3, 1, 0, 0, 0, .null, [])) (y_s := (94, [some (.ref _), some (.int _), some (.int _), some (.int _), some (.int _), some (.int _)], [.ref _], _)) rfl (u_ rfl) ?_
          refine w20r (pc := 94) (len_s := 3) (q_s := 10) rfl (krq hk rfl) ?_
          refine w_t (pc := 97) (e_s := (1, 1, 2, 0, 0, .null, [])) (y_s := (98, [some (.ref _), some (.int _), some (.int _), some (.int _), some (.int _), some (.int _)], [.int _, .ref _], _)) rfl (u_ rfl) ?_
          refine w24 (g_s := fun j_ => 20 + j_) (pc := 98) (len_s := 1) hk rfl (hk.1 10 2 8 rfl rfl) kg10 (fun c12_s => ?_)
          refine w20 (pc := 99) (len_s := 3) rfl ?_
          refine w_t (pc := 102) (e_s := (3, 1, 0, 0, 0, .null, [])) (y_s := (103, [some (.ref _), some (.int _), some (.int _), some (.int _), some (.int _), some (.int _)], [.ref _, .int _], _)) rfl (u_ rfl) ?_
          refine w20r (pc := 103) (len_s := 3) (q_s := 10) rfl (krq hk rfl) ?_
          refine w_t (pc := 106) (e_s := (1, 1, 3, 0, 0, .null, [])) (y_s := (107, [some (.ref _), some (.int _), some (.int _), some (.int _), some (.int _), some (.int _)], [.int _, .ref _, .int _], _)) rfl (u_ rfl) ?_
          refine w24 (g_s := fun j_ => 20 + j_) (pc := 107) (len_s := 1) hk rfl (hk.1 10 2 8 rfl rfl) kg10 (fun c13_s => ?_)
          refine w20 (pc := 108) (len_s := 3) rfl ?_
          refine wi3 (pc := 111) (len_s := 3) rfl rfl rfl (fun c14_s => ?_) (fun c14_s => ?_)
          · replace t_s := t_s.1 c14_s
            refine w_t (pc := 114) (e_s := (0, 1, 0, 0, 0, .int 1, [])) (y_s := (115, [some (.ref _), some (.int _), some (.int _), some (.int _), some (.int _), some (.int _)], [.int _], _)) rfl (u_ rfl) ?_
            refine w_t (pc := 115) (e_s := (17, 3, 119, 0, 0, .null, [])) (y_s := (119, [some (.ref _), some (.int _), some (.int _), some (.int _), some (.int _), some (.int _)], [.int _], _)) rfl (u_ rfl) ?_
            exact wrI (pc := 119) (len_s := 1) rfl hk t_s
          · replace t_s := t_s.2 c14_s
            refine w_t (pc := 118) (e_s := (0, 1, 0, 0, 0, .int 0, [])) (y_s := (119, [some (.ref _), some (.int _), some (.int _), some (.int _), some (.int _), some (.int _)], [.int _], _)) rfl (u_ rfl) ?_
            exact wrI (pc := 119) (len_s := 1) rfl hk t_s
      · replace t_s := t_s.2 c7_s
        refine w_t (pc := 59) (e_s := (1, 2, 4, 0, 0, .null, [])) (y_s := (61, [some (.ref _), some (.int _), some (.int _), some (.int _), some (.int _), some (.int _)], [.int _], _)) rfl (u_ rfl) ?_
        refine w_t (pc := 61) (e_s := (1, 2, 5, 0, 0, .null, [])) (y_s := (63, [some (.ref _), some (.int _), some (.int _), some (.int _), some (.int _), some (.int _)], [.int _, .int _], _)) rfl (u_ rfl) ?_
        refine wi3 (pc := 63) (len_s := 3) rfl rfl rfl (fun c15_s => ?_) (fun c15_s => ?_)
        · replace t_s := t_s.1 c15_s
          refine w_t (pc := 66) (e_s := (0, 1, 0, 0, 0, .int 1, [])) (y_s := (67, [some (.ref _), some (.int _), some (.int _), some (.int _), some (.int _), some (.int _)], [.int _], _)) rfl (u_ rfl) ?_
          refine w_t (pc := 67) (e_s := (17, 3, 71, 0, 0, .null, [])) (y_s := (71, [some (.ref _), some (.int _), some (.int _), some (.int _), some (.int _), some (.int _)], [.int _], _)) rfl (u_ rfl) ?_
          exact wrI (pc := 71) (len_s := 1) rfl hk t_s
        · replace t_s := t_s.2 c15_s
          refine w_t (pc := 70) (e_s := (0, 1, 0, 0, 0, .int 0, [])) (y_s := (71, [some (.ref _), some (.int _), some (.int _), some (.int _), some (.int _), some (.int _)], [.int _], _)) rfl (u_ rfl) ?_
          exact wrI (pc := 71) (len_s := 1) rfl hk t_s
    · replace t_s := t_s.2 c2_s
      refine w_t (pc := 16) (e_s := (0, 1, 0, 0, 0, .int 0, [])) (y_s := (17, [some (.ref _), some (.int _)], [.int _], _)) rfl (u_ rfl) ?_
      refine wrI (pc := 17) (len_s := 1) rfl hk ?_
      show wF _ 29 (5, [some (.ref _), some (.int _), some (.int _), some (.int _), none, none], [.int _], _) _
      refine w_t (pc := 5) (e_s := (15, 3, 10, 1, 0, .null, [])) (y_s := (8, [some (.ref _), some (.int _), some (.int _), some (.int _), none, none], [], _)) rfl (u_ rfl) ?_
      refine w_t (pc := 8) (e_s := (0, 1, 0, 0, 0, .int 1, [])) (y_s := (9, [some (.ref _), some (.int _), some (.int _), some (.int _), none, none], [.int _], _)) rfl (u_ rfl) ?_
      exact wrI (pc := 9) (len_s := 1) rfl hk t_s
/-- ColdShod$Country.firstOfOthers(I)I, from 0 on -/
theorem sg_26_0 {F_s : Nat} {x1_s : Int32} {h_s : zH} {K_s : Int32 → zH → Prop} (hk : hKn h_s) (t_s : wF F_s 26 (4, [some (.ref 7), some (.int x1_s), some (.int (-1)), some (.int 0)], [], h_s) (gI K_s)) : wF (F_s + 1) 26 (0, [some (.ref 7), some (.int x1_s), none, none], [], h_s) (gI K_s) := by
  refine w_0 (pc := 0) (e_s := (0, 1, 0, 0, 0, .int (-1), [])) (y_s := (1, [some (.ref _), some (.int _), none, none], [.int _], _)) rfl (u_ rfl) ?_
  refine w_t (pc := 1) (e_s := (4, 1, 2, 0, 0, .null, [])) (y_s := (2, [some (.ref _), some (.int _), some (.int _), none], [], _)) rfl (u_ rfl) ?_
  refine w_t (pc := 2) (e_s := (0, 1, 0, 0, 0, .int 0, [])) (y_s := (3, [some (.ref _), some (.int _), some (.int _), none], [.int _], _)) rfl (u_ rfl) ?_
  refine w_t (pc := 3) (e_s := (4, 1, 3, 0, 0, .null, [])) (y_s := (4, [some (.ref _), some (.int _), some (.int _), some (.int _)], [], _)) rfl (u_ rfl) ?_
  exact t_s
/-- ColdShod$Country.firstOfOthers(I)I, from 4 on -/
theorem sg_26_4 {F_s : Nat} {x1_s x2_s x3 : Int32} {h_s : zH} {K_s : Int32 → zH → Prop} (hk : hKn h_s) (t_s : (x3.toInt < (h_s.2.1 7 6).toInt → ((((x1_s >>> (x3 &&& 31)) &&& 1).toInt = 0 → wF F_s 28 (0, [some (.ref 7), some (.int x3), some (.int x2_s)], [], h_s) (gI (fun v3 h3 => hKn h3 → (v3.toInt = 0 → wF F_s 26 (4, [some (.ref 7), some (.int x1_s), some (.int x2_s), some (.int (x3 + 1))], [], h3) (gI K_s)) ∧ (¬ v3.toInt = 0 → wF F_s 26 (4, [some (.ref 7), some (.int x1_s), some (.int x3), some (.int (x3 + 1))], [], h3) (gI K_s))))) ∧ (¬ ((x1_s >>> (x3 &&& 31)) &&& 1).toInt = 0 → wF F_s 26 (4, [some (.ref 7), some (.int x1_s), some (.int x2_s), some (.int (x3 + 1))], [], h_s) (gI K_s)))) ∧ (¬ x3.toInt < (h_s.2.1 7 6).toInt → K_s x2_s h_s)) : wF (F_s + 1) 26 (4, [some (.ref 7), some (.int x1_s), some (.int x2_s), some (.int x3)], [], h_s) (gI K_s) := by
  refine w_0 (pc := 4) (e_s := (1, 1, 3, 0, 0, .null, [])) (y_s := (5, [some (.ref _), some (.int _), some (.int _), some (.int _)], [.int _], _)) rfl (u_ rfl) ?_
  refine w_t (pc := 5) (e_s := (3, 1, 0, 0, 0, .null, [])) (y_s := (6, [some (.ref _), some (.int _), some (.int _), some (.int _)], [.ref _, .int _], _)) rfl (u_ rfl) ?_
  refine w20 (pc := 6) (len_s := 3) rfl ?_
  refine wi3 (pc := 9) (len_s := 3) rfl rfl rfl (fun c1_s => ?_) (fun c1_s => ?_)
  · replace t_s := t_s.1 c1_s
    refine w_t (pc := 12) (e_s := (1, 1, 1, 0, 0, .null, [])) (y_s := (13, [some (.ref _), some (.int _), some (.int _), some (.int _)], [.int _], _)) rfl (u_ rfl) ?_
    refine w_t (pc := 13) (e_s := (1, 1, 3, 0, 0, .null, [])) (y_s := (14, [some (.ref _), some (.int _), some (.int _), some (.int _)], [.int _, .int _], _)) rfl (u_ rfl) ?_
    refine w_t (pc := 14) (e_s := (7, 1, 0, 7, 0, .null, [])) (y_s := (15, [some (.ref _), some (.int _), some (.int _), some (.int _)], [.int ((_ : Int32) >>> ((_ : Int32) &&& 31))], _)) rfl (u_ rfl) ?_
    refine w_t (pc := 15) (e_s := (0, 1, 0, 0, 0, .int 1, [])) (y_s := (16, [some (.ref _), some (.int _), some (.int _), some (.int _)], [.int _, .int _], _)) rfl (u_ rfl) ?_
    refine w_t (pc := 16) (e_s := (7, 1, 0, 3, 0, .null, [])) (y_s := (17, [some (.ref _), some (.int _), some (.int _), some (.int _)], [.int (_ &&& _)], _)) rfl (u_ rfl) ?_
    refine wq1 (pc := 17) (len_s := 3) rfl rfl (fun c2_s => ?_) (fun c2_s => ?_)
    · replace t_s := t_s.1 c2_s
      refine w_t (pc := 20) (e_s := (3, 1, 0, 0, 0, .null, [])) (y_s := (21, [some (.ref _), some (.int _), some (.int _), some (.int _)], [.ref _], _)) rfl (u_ rfl) ?_
      refine w_t (pc := 21) (e_s := (1, 1, 3, 0, 0, .null, [])) (y_s := (22, [some (.ref _), some (.int _), some (.int _), some (.int _)], [.int _, .ref _], _)) rfl (u_ rfl) ?_
      refine w_t (pc := 22) (e_s := (1, 1, 2, 0, 0, .null, [])) (y_s := (23, [some (.ref _), some (.int _), some (.int _), some (.int _)], [.int _, .int _, .ref _], _)) rfl (u_ rfl) ?_
      refine wcI (pc := 23) (len_s := 3) rfl rfl (l := [some (.ref _), some (.int _), some (.int _)]) rfl (wmI t_s (fun v3 h3 hk t_s => ?_))
      replace t_s := t_s hk
      refine wq0 (pc := 26) (len_s := 3) rfl rfl (fun c4_s => ?_) (fun c4_s => ?_)
      · replace t_s := t_s.1 c4_s
        refine w_t (pc := 31) (e_s := (19, 3, 3, 0, 0, .int 1, [])) (y_s := (34, [some (.ref _), some (.int _), some (.int _), some (.int _)], [], _)) rfl (u_ rfl) ?_
        refine w_t (pc := 34) (e_s := (17, 3, 4, 0, 0, .null, [])) (y_s := (4, [some (.ref _), some (.int _), some (.int _), some (.int _)], [], _)) rfl (u_ rfl) ?_
        exact t_s
      · replace t_s := t_s.2 c4_s
        refine w_t (pc := 29) (e_s := (1, 1, 3, 0, 0, .null, [])) (y_s := (30, [some (.ref _), some (.int _), some (.int _), some (.int _)], [.int _], _)) rfl (u_ rfl) ?_
        refine w_t (pc := 30) (e_s := (4, 1, 2, 0, 0, .null, [])) (y_s := (31, [some (.ref _), some (.int _), some (.int _), some (.int _)], [], _)) rfl (u_ rfl) ?_
        refine w_t (pc := 31) (e_s := (19, 3, 3, 0, 0, .int 1, [])) (y_s := (34, [some (.ref _), some (.int _), some (.int _), some (.int _)], [], _)) rfl (u_ rfl) ?_
        refine w_t (pc := 34) (e_s := (17, 3, 4, 0, 0, .null, [])) (y_s := (4, [some (.ref _), some (.int _), some (.int _), some (.int _)], [], _)) rfl (u_ rfl) ?_
        exact t_s
    · replace t_s := t_s.2 c2_s
      refine w_t (pc := 31) (e_s := (19, 3, 3, 0, 0, .int 1, [])) (y_s := (34, [some (.ref _), some (.int _), some (.int _), some (.int _)], [], _)) rfl (u_ rfl) ?_
      refine w_t (pc := 34) (e_s := (17, 3, 4, 0, 0, .null, [])) (y_s := (4, [some (.ref _), some (.int _), some (.int _), some (.int _)], [], _)) rfl (u_ rfl) ?_
      exact t_s
  · replace t_s := t_s.2 c1_s
    refine w_t (pc := 37) (e_s := (1, 1, 2, 0, 0, .null, [])) (y_s := (38, [some (.ref _), some (.int _), some (.int _), some (.int _)], [.int _], _)) rfl (u_ rfl) ?_
    exact wrI (pc := 38) (len_s := 1) rfl hk t_s
/-- ColdShod$Country.nearestOfOthers(II)I, from 0 on -/
theorem sg_27_0 {F_s : Nat} {x1_s x2_s : Int32} {h_s : zH} {K_s : Int32 → zH → Prop} (hk : hKn h_s) (t_s : wF F_s 27 (6, [some (.ref 7), some (.int x1_s), some (.int x2_s), some (.int (-2)), some (.int 0)], [], h_s) (gI K_s)) : wF (F_s + 1) 27 (0, [some (.ref 7), some (.int x1_s), some (.int x2_s), none, none], [], h_s) (gI K_s) := by
  refine w_0 (pc := 0) (e_s := (0, 2, 0, 0, 0, .int (-2), [])) (y_s := (2, [some (.ref _), some (.int _), some (.int _), none, none], [.int _], _)) rfl (u_ rfl) ?_
  refine w_t (pc := 2) (e_s := (4, 1, 3, 0, 0, .null, [])) (y_s := (3, [some (.ref _), some (.int _), some (.int _), some (.int _), none], [], _)) rfl (u_ rfl) ?_
  refine w_t (pc := 3) (e_s := (0, 1, 0, 0, 0, .int 0, [])) (y_s := (4, [some (.ref _), some (.int _), some (.int _), some (.int _), none], [.int _], _)) rfl (u_ rfl) ?_
  refine w_t (pc := 4) (e_s := (4, 2, 4, 0, 0, .null, [])) (y_s := (6, [some (.ref _), some (.int _), some (.int _), some (.int _), some (.int _)], [], _)) rfl (u_ rfl) ?_
  exact t_s
/-- ColdShod$Country.nearestOfOthers(II)I, from 6 on -/
theorem sg_27_6 {F_s : Nat} {x1_s x2_s x3 x4_s : Int32} {h_s : zH} {K_s : Int32 → zH → Prop} (hk : hKn h_s) (t_s : (x4_s.toInt < (h_s.2.1 7 7).toInt → ((((x2_s >>> (x4_s &&& 31)) &&& 1).toInt = 0 → wF F_s 29 (0, [some (.ref 7), some (.int x1_s), some (.int x4_s), some (.int x3), none, none], [], h_s) (gI (fun v3 h3 => hKn h3 → (v3.toInt = 0 → wF F_s 27 (6, [some (.ref 7), some (.int x1_s), some (.int x2_s), some (.int x3), some (.int (x4_s + 1))], [], h3) (gI K_s)) ∧ (¬ v3.toInt = 0 → wF F_s 27 (6, [some (.ref 7), some (.int x1_s), some (.int x2_s), some (.int x4_s), some (.int (x4_s + 1))], [], h3) (gI K_s))))) ∧ (¬ ((x2_s >>> (x4_s &&& 31)) &&& 1).toInt = 0 → wF F_s 27 (6, [some (.ref 7), some (.int x1_s), some (.int x2_s), some (.int x3), some (.int (x4_s + 1))], [], h_s) (gI K_s)))) ∧ (¬ x4_s.toInt < (h_s.2.1 7 7).toInt → K_s x3 h_s)) : wF (F_s + 1) 27 (6, [some (.ref 7), some (.int x1_s), some (.int x2_s), some (.int x3), some (.int x4_s)], [], h_s) (gI K_s) := by
  refine w_0 (pc := 6) (e_s := (1, 2, 4, 0, 0, .null, [])) (y_s := (8, [some (.ref _), some (.int _), some (.int _), some (.int _), some (.int _)], [.int _], _)) rfl (u_ rfl) ?_
  refine w_t (pc := 8) (e_s := (3, 1, 0, 0, 0, .null, [])) (y_s := (9, [some (.ref _), some (.int _), some (.int _), some (.int _), some (.int _)], [.ref _, .int _], _)) rfl (u_ rfl) ?_
  refine w20 (pc := 9) (len_s := 3) rfl ?_
  refine wi3 (pc := 12) (len_s := 3) rfl rfl rfl (fun c1_s => ?_) (fun c1_s => ?_)
  · replace t_s := t_s.1 c1_s
    refine w_t (pc := 15) (e_s := (1, 1, 2, 0, 0, .null, [])) (y_s := (16, [some (.ref _), some (.int _), some (.int _), some (.int _), some (.int _)], [.int _], _)) rfl (u_ rfl) ?_
    refine w_t (pc := 16) (e_s := (1, 2, 4, 0, 0, .null, [])) (y_s := (18, [some (.ref _), some (.int _), some (.int _), some (.int _), some (.int _)], [.int _, .int _], _)) rfl (u_ rfl) ?_
    refine w_t (pc := 18) (e_s := (7, 1, 0, 7, 0, .null, [])) (y_s := (19, [some (.ref _), some (.int _), some (.int _), some (.int _), some (.int _)], [.int ((_ : Int32) >>> ((_ : Int32) &&& 31))], _)) rfl (u_ rfl) ?_
    refine w_t (pc := 19) (e_s := (0, 1, 0, 0, 0, .int 1, [])) (y_s := (20, [some (.ref _), some (.int _), some (.int _), some (.int _), some (.int _)], [.int _, .int _], _)) rfl (u_ rfl) ?_
    refine w_t (pc := 20) (e_s := (7, 1, 0, 3, 0, .null, [])) (y_s := (21, [some (.ref _), some (.int _), some (.int _), some (.int _), some (.int _)], [.int (_ &&& _)], _)) rfl (u_ rfl) ?_
    refine wq1 (pc := 21) (len_s := 3) rfl rfl (fun c2_s => ?_) (fun c2_s => ?_)
    · replace t_s := t_s.1 c2_s
      refine w_t (pc := 24) (e_s := (3, 1, 0, 0, 0, .null, [])) (y_s := (25, [some (.ref _), some (.int _), some (.int _), some (.int _), some (.int _)], [.ref _], _)) rfl (u_ rfl) ?_
      refine w_t (pc := 25) (e_s := (1, 1, 1, 0, 0, .null, [])) (y_s := (26, [some (.ref _), some (.int _), some (.int _), some (.int _), some (.int _)], [.int _, .ref _], _)) rfl (u_ rfl) ?_
      refine w_t (pc := 26) (e_s := (1, 2, 4, 0, 0, .null, [])) (y_s := (28, [some (.ref _), some (.int _), some (.int _), some (.int _), some (.int _)], [.int _, .int _, .ref _], _)) rfl (u_ rfl) ?_
      refine w_t (pc := 28) (e_s := (1, 1, 3, 0, 0, .null, [])) (y_s := (29, [some (.ref _), some (.int _), some (.int _), some (.int _), some (.int _)], [.int _, .int _, .int _, .ref _], _)) rfl (u_ rfl) ?_
      refine wcI (pc := 29) (len_s := 3) rfl rfl (l := [some (.ref _), some (.int _), some (.int _), some (.int _), none, none]) rfl (wmI t_s (fun v3 h3 hk t_s => ?_))
      replace t_s := t_s hk
      refine wq0 (pc := 32) (len_s := 3) rfl rfl (fun c4_s => ?_) (fun c4_s => ?_)
      · replace t_s := t_s.1 c4_s
        refine w_t (pc := 38) (e_s := (19, 3, 4, 0, 0, .int 1, [])) (y_s := (41, [some (.ref _), some (.int _), some (.int _), some (.int _), some (.int _)], [], _)) rfl (u_ rfl) ?_
        refine w_t (pc := 41) (e_s := (17, 3, 6, 0, 0, .null, [])) (y_s := (6, [some (.ref _), some (.int _), some (.int _), some (.int _), some (.int _)], [], _)) rfl (u_ rfl) ?_
        exact t_s
      · replace t_s := t_s.2 c4_s
        refine w_t (pc := 35) (e_s := (1, 2, 4, 0, 0, .null, [])) (y_s := (37, [some (.ref _), some (.int _), some (.int _), some (.int _), some (.int _)], [.int _], _)) rfl (u_ rfl) ?_
        refine w_t (pc := 37) (e_s := (4, 1, 3, 0, 0, .null, [])) (y_s := (38, [some (.ref _), some (.int _), some (.int _), some (.int _), some (.int _)], [], _)) rfl (u_ rfl) ?_
        refine w_t (pc := 38) (e_s := (19, 3, 4, 0, 0, .int 1, [])) (y_s := (41, [some (.ref _), some (.int _), some (.int _), some (.int _), some (.int _)], [], _)) rfl (u_ rfl) ?_
        refine w_t (pc := 41) (e_s := (17, 3, 6, 0, 0, .null, [])) (y_s := (6, [some (.ref _), some (.int _), some (.int _), some (.int _), some (.int _)], [], _)) rfl (u_ rfl) ?_
        exact t_s
    · replace t_s := t_s.2 c2_s
      refine w_t (pc := 38) (e_s := (19, 3, 4, 0, 0, .int 1, [])) (y_s := (41, [some (.ref _), some (.int _), some (.int _), some (.int _), some (.int _)], [], _)) rfl (u_ rfl) ?_
      refine w_t (pc := 41) (e_s := (17, 3, 6, 0, 0, .null, [])) (y_s := (6, [some (.ref _), some (.int _), some (.int _), some (.int _), some (.int _)], [], _)) rfl (u_ rfl) ?_
      exact t_s
  · replace t_s := t_s.2 c1_s
    refine w_t (pc := 44) (e_s := (1, 1, 3, 0, 0, .null, [])) (y_s := (45, [some (.ref _), some (.int _), some (.int _), some (.int _), some (.int _)], [.int _], _)) rfl (u_ rfl) ?_
    exact wrI (pc := 45) (len_s := 1) rfl hk t_s
/-- java/util/Arrays.fill([II)V, from 0 on -/
theorem sg_240_0 {F_s : Nat} {y1 : Int32} {h_s : zH} {K_s : zH → Prop} (hk : hKn h_s) (t_s : wF F_s 240 (5, [some (.ref 12), some (.int y1), some (.int 0), some (.int (Int32.ofNat 6))], [], h_s) (gV K_s)) : wF (F_s + 1) 240 (0, [some (.ref 12), some (.int y1), none, none], [], h_s) (gV K_s) := by
  refine w_0 (pc := 0) (e_s := (0, 1, 0, 0, 0, .int 0, [])) (y_s := (1, [some (.ref _), some (.int _), none, none], [.int _], _)) rfl (u_ rfl) ?_
  refine w_t (pc := 1) (e_s := (4, 1, 2, 0, 0, .null, [])) (y_s := (2, [some (.ref _), some (.int _), some (.int _), none], [], _)) rfl (u_ rfl) ?_
  refine w_t (pc := 2) (e_s := (3, 1, 0, 0, 0, .null, [])) (y_s := (3, [some (.ref _), some (.int _), some (.int _), none], [.ref _], _)) rfl (u_ rfl) ?_
  refine w28 (pc := 3) (len_s := 1) rfl (hk.1 12 0 6 rfl rfl) ?_
  refine w_t (pc := 4) (e_s := (4, 1, 3, 0, 0, .null, [])) (y_s := (5, [some (.ref _), some (.int _), some (.int _), some (.int _)], [], _)) rfl (u_ rfl) ?_
  exact t_s
/-- java/util/Arrays.fill([II)V, from 5 on -/
theorem sg_240_5 {F_s : Nat} {y1 x2_s x3 : Int32} {h_s : zH} {K_s : zH → Prop} (hk : hKn h_s) (t_s : (x2_s.toInt < x3.toInt → (zix x2_s < 6 → wF F_s 240 (5, [some (.ref 12), some (.int y1), some (.int (x2_s + 1)), some (.int x3)], [], (h_s.1, zup h_s.2.1 12 (zix x2_s) y1, h_s.2.2.1, h_s.2.2.2)) (gV K_s))) ∧ (¬ x2_s.toInt < x3.toInt → K_s h_s)) : wF (F_s + 1) 240 (5, [some (.ref 12), some (.int y1), some (.int x2_s), some (.int x3)], [], h_s) (gV K_s) := by
  refine w_0 (pc := 5) (e_s := (1, 1, 2, 0, 0, .null, [])) (y_s := (6, [some (.ref _), some (.int _), some (.int _), some (.int _)], [.int _], _)) rfl (u_ rfl) ?_
  refine w_t (pc := 6) (e_s := (1, 1, 3, 0, 0, .null, [])) (y_s := (7, [some (.ref _), some (.int _), some (.int _), some (.int _)], [.int _, .int _], _)) rfl (u_ rfl) ?_
  refine wi3 (pc := 7) (len_s := 3) rfl rfl rfl (fun c1_s => ?_) (fun c1_s => ?_)
  · replace t_s := t_s.1 c1_s
    refine w_t (pc := 10) (e_s := (3, 1, 0, 0, 0, .null, [])) (y_s := (11, [some (.ref _), some (.int _), some (.int _), some (.int _)], [.ref _], _)) rfl (u_ rfl) ?_
    refine w_t (pc := 11) (e_s := (1, 1, 2, 0, 0, .null, [])) (y_s := (12, [some (.ref _), some (.int _), some (.int _), some (.int _)], [.int _, .ref _], _)) rfl (u_ rfl) ?_
    refine w_t (pc := 12) (e_s := (1, 1, 1, 0, 0, .null, [])) (y_s := (13, [some (.ref _), some (.int _), some (.int _), some (.int _)], [.int _, .int _, .ref _], _)) rfl (u_ rfl) ?_
    refine w25 (pc := 13) (len_s := 1) rfl (hk.1 12 0 6 rfl rfl) (fun c2_s => ?_)
    replace t_s := t_s c2_s
    refine w_t (pc := 14) (e_s := (19, 3, 2, 0, 0, .int 1, [])) (y_s := (17, [some (.ref _), some (.int _), some (.int _), some (.int _)], [], _)) rfl (u_ rfl) ?_
    refine w_t (pc := 17) (e_s := (17, 3, 5, 0, 0, .null, [])) (y_s := (5, [some (.ref _), some (.int _), some (.int _), some (.int _)], [], _)) rfl (u_ rfl) ?_
    exact t_s
  · replace t_s := t_s.2 c1_s
    exact wrV (pc := 20) (len_s := 1) rfl hk t_s
/-- ColdShod$Country.letAllAsk()V, from 0 on -/
theorem sg_25_0 {F_s : Nat}  {h_s : zH} {K_s : zH → Prop} (hk : hKn h_s) (t_s : wF F_s 240 (0, [some (.ref 12), some (.int (-2)), none, none], [], h_s) (gV (fun h1 => hKn h1 → wF F_s 25 (15, [some (.ref 7), some (.int 0), some (.int 0), some (.int 0), none], [], h1) (gV K_s)))) : wF (F_s + 1) 25 (0, [some (.ref 7), none, none, none, none], [], h_s) (gV K_s) := by
  refine w_0 (pc := 0) (e_s := (3, 1, 0, 0, 0, .null, [])) (y_s := (1, [some (.ref _), none, none, none, none], [.ref _], _)) rfl (u_ rfl) ?_
  refine w20r (pc := 1) (len_s := 3) (q_s := 12) rfl (krq hk rfl) ?_
  refine w_t (pc := 4) (e_s := (0, 2, 0, 0, 0, .int (-2), [])) (y_s := (6, [some (.ref _), none, none, none, none], [.int _, .ref _], _)) rfl (u_ rfl) ?_
  refine wcV (pc := 6) (len_s := 3) rfl rfl (l := [some (.ref _), some (.int _), none, none]) rfl (wmV t_s (fun h1 hk t_s => ?_))
  replace t_s := t_s hk
  refine w_t (pc := 9) (e_s := (0, 1, 0, 0, 0, .int 0, [])) (y_s := (10, [some (.ref _), none, none, none, none], [.int _], _)) rfl (u_ rfl) ?_
  refine w_t (pc := 10) (e_s := (4, 1, 1, 0, 0, .null, [])) (y_s := (11, [some (.ref _), some (.int _), none, none, none], [], _)) rfl (u_ rfl) ?_
  refine w_t (pc := 11) (e_s := (0, 1, 0, 0, 0, .int 0, [])) (y_s := (12, [some (.ref _), some (.int _), none, none, none], [.int _], _)) rfl (u_ rfl) ?_
  refine w_t (pc := 12) (e_s := (4, 1, 2, 0, 0, .null, [])) (y_s := (13, [some (.ref _), some (.int _), some (.int _), none, none], [], _)) rfl (u_ rfl) ?_
  refine w_t (pc := 13) (e_s := (0, 1, 0, 0, 0, .int 0, [])) (y_s := (14, [some (.ref _), some (.int _), some (.int _), none, none], [.int _], _)) rfl (u_ rfl) ?_
  refine w_t (pc := 14) (e_s := (4, 1, 3, 0, 0, .null, [])) (y_s := (15, [some (.ref _), some (.int _), some (.int _), some (.int _), none], [], _)) rfl (u_ rfl) ?_
  exact t_s
/-- ColdShod$Country.letAllAsk()V, from 15 on -/
theorem sg_25_15 {F_s : Nat} {x1_s x2_s x3 : Int32} {l4 : Option Value} {h_s : zH} {K_s : zH → Prop} (hk : hKn h_s) (t_s : (x3.toInt < (h_s.2.1 7 6).toInt → wF F_s 26 (0, [some (.ref 7), some (.int x1_s), none, none], [], h_s) (gI (fun v2 h2 => hKn h2 → (v2.toInt < 0 → K_s h2) ∧ (¬ v2.toInt < 0 → ((v2.toInt < (h2.2.1 7 6).toInt → wF F_s 27 (0, [some (.ref 7), some (.int v2), some (.int x2_s), none, none], [], h2) (gI (fun v5 h5 => hKn h5 → (zix v2 < 6 → (((zup h5.2.1 12 (zix v2) v5) 12 (zix v2)).toInt = -2 → wF F_s 25 (15, [some (.ref 7), some (.int (x1_s ||| (1 <<< (v2 &&& 31)))), some (.int x2_s), some (.int (x3 + 1)), some (.int v2)], [], (h5.1, zup h5.2.1 12 (zix v2) v5, h5.2.2.1, h5.2.2.2)) (gV K_s)) ∧ (¬ ((zup h5.2.1 12 (zix v2) v5) 12 (zix v2)).toInt = -2 → wF F_s 25 (15, [some (.ref 7), some (.int (x1_s ||| (1 <<< (v2 &&& 31)))), some (.int (x2_s ||| (1 <<< (((zup h5.2.1 12 (zix v2) v5) 12 (zix v2)) &&& 31)))), some (.int (x3 + 1)), some (.int v2)], [], (h5.1, zup h5.2.1 12 (zix v2) v5, h5.2.2.1, h5.2.2.2)) (gV K_s)))))) ∧ (¬ v2.toInt < (h2.2.1 7 6).toInt → K_s h2)))))) ∧ (¬ x3.toInt < (h_s.2.1 7 6).toInt → K_s h_s)) : wF (F_s + 1) 25 (15, [some (.ref 7), some (.int x1_s), some (.int x2_s), some (.int x3), l4], [], h_s) (gV K_s) := by
  refine w_0 (pc := 15) (e_s := (1, 1, 3, 0, 0, .null, [])) (y_s := (16, [some (.ref _), some (.int _), some (.int _), some (.int _), _], [.int _], _)) rfl (u_ rfl) ?_
  refine w_t (pc := 16) (e_s := (3, 1, 0, 0, 0, .null, [])) (y_s := (17, [some (.ref _), some (.int _), some (.int _), some (.int _), _], [.ref _, .int _], _)) rfl (u_ rfl) ?_
  refine w20 (pc := 17) (len_s := 3) rfl ?_
  refine wi3 (pc := 20) (len_s := 3) rfl rfl rfl (fun c1_s => ?_) (fun c1_s => ?_)
  · replace t_s := t_s.1 c1_s
    refine w_t (pc := 23) (e_s := (3, 1, 0, 0, 0, .null, [])) (y_s := (24, [some (.ref _), some (.int _), some (.int _), some (.int _), _], [.ref _], _)) rfl (u_ rfl) ?_
    refine w_t (pc := 24) (e_s := (1, 1, 1, 0, 0, .null, [])) (y_s := (25, [some (.ref _), some (.int _), some (.int _), some (.int _), _], [.int _, .ref _], _)) rfl (u_ rfl) ?_
    refine wcI (pc := 25) (len_s := 3) rfl rfl (l := [some (.ref _), some (.int _), none, none]) rfl (wmI t_s (fun v2 h2 hk t_s => ?_))
    replace t_s := t_s hk
    refine w_t (pc := 28) (e_s := (4, 2, 4, 0, 0, .null, [])) (y_s := (30, [some (.ref _), some (.int _), some (.int _), some (.int _), some (.int _)], [], _)) rfl (u_ rfl) ?_
    refine w_t (pc := 30) (e_s := (3, 1, 0, 0, 0, .null, [])) (y_s := (31, [some (.ref _), some (.int _), some (.int _), some (.int _), some (.int _)], [.ref _], _)) rfl (u_ rfl) ?_
    refine w_t (pc := 31) (e_s := (1, 2, 4, 0, 0, .null, [])) (y_s := (33, [some (.ref _), some (.int _), some (.int _), some (.int _), some (.int _)], [.int _, .ref _], _)) rfl (u_ rfl) ?_
    refine wcI (pc := 33) (len_s := 3) rfl rfl (l := [some (.ref _), some (.int _)]) rfl ?_
    refine w_t (pc := 0) (e_s := (1, 1, 1, 0, 0, .null, [])) (y_s := (1, [some (.ref _), some (.int _)], [.int _], _)) rfl (u_ rfl) ?_
    refine wq2 (pc := 1) (len_s := 3) rfl rfl (fun c3_s => ?_) (fun c3_s => ?_)
    · replace t_s := t_s.1 c3_s
      refine w_t (pc := 16) (e_s := (0, 1, 0, 0, 0, .int 0, [])) (y_s := (17, [some (.ref _), some (.int _)], [.int _], _)) rfl (u_ rfl) ?_
      refine wrI (pc := 17) (len_s := 1) rfl hk ?_
      show wF _ 25 (36, [some (.ref _), some (.int _), some (.int _), some (.int _), some (.int _)], [.int _], _) _
      refine w_t (pc := 36) (e_s := (15, 3, 40, 1, 0, .null, [])) (y_s := (39, [some (.ref _), some (.int _), some (.int _), some (.int _), some (.int _)], [], _)) rfl (u_ rfl) ?_
      exact wrV (pc := 39) (len_s := 1) rfl hk t_s
    · replace t_s := t_s.2 c3_s
      refine w_t (pc := 4) (e_s := (1, 1, 1, 0, 0, .null, [])) (y_s := (5, [some (.ref _), some (.int _)], [.int _], _)) rfl (u_ rfl) ?_
      refine w_t (pc := 5) (e_s := (3, 1, 0, 0, 0, .null, [])) (y_s := (6, [some (.ref _), some (.int _)], [.ref _, .int _], _)) rfl (u_ rfl) ?_
      refine w20 (pc := 6) (len_s := 3) rfl ?_
      refine wi3 (pc := 9) (len_s := 3) rfl rfl rfl (fun c4_s => ?_) (fun c4_s => ?_)
      · replace t_s := t_s.1 c4_s
        refine w_t (pc := 12) (e_s := (0, 1, 0, 0, 0, .int 1, [])) (y_s := (13, [some (.ref _), some (.int _)], [.int _], _)) rfl (u_ rfl) ?_
        refine w_t (pc := 13) (e_s := (17, 3, 17, 0, 0, .null, [])) (y_s := (17, [some (.ref _), some (.int _)], [.int _], _)) rfl (u_ rfl) ?_
        refine wrI (pc := 17) (len_s := 1) rfl hk ?_
        show wF _ 25 (36, [some (.ref _), some (.int _), some (.int _), some (.int _), some (.int _)], [.int _], _) _
        refine w_t (pc := 36) (e_s := (15, 3, 40, 1, 0, .null, [])) (y_s := (40, [some (.ref _), some (.int _), some (.int _), some (.int _), some (.int _)], [], _)) rfl (u_ rfl) ?_
        refine w_t (pc := 40) (e_s := (1, 1, 1, 0, 0, .null, [])) (y_s := (41, [some (.ref _), some (.int _), some (.int _), some (.int _), some (.int _)], [.int _], _)) rfl (u_ rfl) ?_
        refine w_t (pc := 41) (e_s := (0, 1, 0, 0, 0, .int 1, [])) (y_s := (42, [some (.ref _), some (.int _), some (.int _), some (.int _), some (.int _)], [.int _, .int _], _)) rfl (u_ rfl) ?_
        refine w_t (pc := 42) (e_s := (1, 2, 4, 0, 0, .null, [])) (y_s := (44, [some (.ref _), some (.int _), some (.int _), some (.int _), some (.int _)], [.int _, .int _, .int _], _)) rfl (u_ rfl) ?_
        refine w_t (pc := 44) (e_s := (7, 1, 0, 6, 0, .null, [])) (y_s := (45, [some (.ref _), some (.int _), some (.int _), some (.int _), some (.int _)], [.int ((_ : Int32) <<< ((_ : Int32) &&& 31)), .int _], _)) rfl (u_ rfl) ?_
        refine w_t (pc := 45) (e_s := (7, 1, 0, 4, 0, .null, [])) (y_s := (46, [some (.ref _), some (.int _), some (.int _), some (.int _), some (.int _)], [.int (_ ||| _)], _)) rfl (u_ rfl) ?_
        refine w_t (pc := 46) (e_s := (4, 1, 1, 0, 0, .null, [])) (y_s := (47, [some (.ref _), some (.int _), some (.int _), some (.int _), some (.int _)], [], _)) rfl (u_ rfl) ?_
        refine w_t (pc := 47) (e_s := (3, 1, 0, 0, 0, .null, [])) (y_s := (48, [some (.ref _), some (.int _), some (.int _), some (.int _), some (.int _)], [.ref _], _)) rfl (u_ rfl) ?_
        refine w20r (pc := 48) (len_s := 3) (q_s := 12) rfl (krq hk rfl) ?_
        refine w_t (pc := 51) (e_s := (1, 2, 4, 0, 0, .null, [])) (y_s := (53, [some (.ref _), some (.int _), some (.int _), some (.int _), some (.int _)], [.int _, .ref _], _)) rfl (u_ rfl) ?_
        refine w_t (pc := 53) (e_s := (3, 1, 0, 0, 0, .null, [])) (y_s := (54, [some (.ref _), some (.int _), some (.int _), some (.int _), some (.int _)], [.ref _, .int _, .ref _], _)) rfl (u_ rfl) ?_
        refine w_t (pc := 54) (e_s := (1, 2, 4, 0, 0, .null, [])) (y_s := (56, [some (.ref _), some (.int _), some (.int _), some (.int _), some (.int _)], [.int _, .ref _, .int _, .ref _], _)) rfl (u_ rfl) ?_
        refine w_t (pc := 56) (e_s := (1, 1, 2, 0, 0, .null, [])) (y_s := (57, [some (.ref _), some (.int _), some (.int _), some (.int _), some (.int _)], [.int _, .int _, .ref _, .int _, .ref _], _)) rfl (u_ rfl) ?_
        refine wcI (pc := 57) (len_s := 3) rfl rfl (l := [some (.ref _), some (.int _), some (.int _), none, none]) rfl (wmI t_s (fun v5 h5 hk t_s => ?_))
        replace t_s := t_s hk
        refine w25 (pc := 60) (len_s := 1) rfl (hk.1 12 0 6 rfl rfl) (fun c6_s => ?_)
        replace t_s := t_s c6_s
        refine w_t (pc := 61) (e_s := (3, 1, 0, 0, 0, .null, [])) (y_s := (62, [some (.ref _), some (.int _), some (.int _), some (.int _), some (.int _)], [.ref _], _)) rfl (u_ rfl) ?_
        refine w20r (pc := 62) (len_s := 3) (q_s := 12) rfl (krq hk rfl) ?_
        refine w_t (pc := 65) (e_s := (1, 2, 4, 0, 0, .null, [])) (y_s := (67, [some (.ref _), some (.int _), some (.int _), some (.int _), some (.int _)], [.int _, .ref _], _)) rfl (u_ rfl) ?_
        refine w22 (pc := 67) (len_s := 1) rfl (hk.1 12 0 6 rfl rfl) (fun c7_s => ?_)
        refine w_t (pc := 68) (e_s := (0, 2, 0, 0, 0, .int (-2), [])) (y_s := (70, [some (.ref _), some (.int _), some (.int _), some (.int _), some (.int _)], [.int _, .int _], _)) rfl (u_ rfl) ?_
        refine wi0 (pc := 70) (len_s := 3) (Y := -2) rfl rfl (by decide) (fun c8_s => ?_) (fun c8_s => ?_)
        · replace t_s := t_s.1 c8_s
          refine w_t (pc := 85) (e_s := (19, 3, 3, 0, 0, .int 1, [])) (y_s := (88, [some (.ref _), some (.int _), some (.int _), some (.int _), some (.int _)], [], _)) rfl (u_ rfl) ?_
          refine w_t (pc := 88) (e_s := (17, 3, 15, 0, 0, .null, [])) (y_s := (15, [some (.ref _), some (.int _), some (.int _), some (.int _), some (.int _)], [], _)) rfl (u_ rfl) ?_
          exact t_s
        · replace t_s := t_s.2 c8_s
          refine w_t (pc := 73) (e_s := (1, 1, 2, 0, 0, .null, [])) (y_s := (74, [some (.ref _), some (.int _), some (.int _), some (.int _), some (.int _)], [.int _], _)) rfl (u_ rfl) ?_
          refine w_t (pc := 74) (e_s := (0, 1, 0, 0, 0, .int 1, [])) (y_s := (75, [some (.ref _), some (.int _), some (.int _), some (.int _), some (.int _)], [.int _, .int _], _)) rfl (u_ rfl) ?_
          refine w_t (pc := 75) (e_s := (3, 1, 0, 0, 0, .null, [])) (y_s := (76, [some (.ref _), some (.int _), some (.int _), some (.int _), some (.int _)], [.ref _, .int _, .int _], _)) rfl (u_ rfl) ?_
          refine w20r (pc := 76) (len_s := 3) (q_s := 12) rfl (krq hk rfl) ?_
          refine w_t (pc := 79) (e_s := (1, 2, 4, 0, 0, .null, [])) (y_s := (81, [some (.ref _), some (.int _), some (.int _), some (.int _), some (.int _)], [.int _, .ref _, .int _, .int _], _)) rfl (u_ rfl) ?_
          refine w22 (pc := 81) (len_s := 1) rfl (hk.1 12 0 6 rfl rfl) (fun c9_s => ?_)
          refine w_t (pc := 82) (e_s := (7, 1, 0, 6, 0, .null, [])) (y_s := (83, [some (.ref _), some (.int _), some (.int _), some (.int _), some (.int _)], [.int ((_ : Int32) <<< ((_ : Int32) &&& 31)), .int _], _)) rfl (u_ rfl) ?_
          refine w_t (pc := 83) (e_s := (7, 1, 0, 4, 0, .null, [])) (y_s := (84, [some (.ref _), some (.int _), some (.int _), some (.int _), some (.int _)], [.int (_ ||| _)], _)) rfl (u_ rfl) ?_
          refine w_t (pc := 84) (e_s := (4, 1, 2, 0, 0, .null, [])) (y_s := (85, [some (.ref _), some (.int _), some (.int _), some (.int _), some (.int _)], [], _)) rfl (u_ rfl) ?_
          refine w_t (pc := 85) (e_s := (19, 3, 3, 0, 0, .int 1, [])) (y_s := (88, [some (.ref _), some (.int _), some (.int _), some (.int _), some (.int _)], [], _)) rfl (u_ rfl) ?_
          refine w_t (pc := 88) (e_s := (17, 3, 15, 0, 0, .null, [])) (y_s := (15, [some (.ref _), some (.int _), some (.int _), some (.int _), some (.int _)], [], _)) rfl (u_ rfl) ?_
          exact t_s
      · replace t_s := t_s.2 c4_s
        refine w_t (pc := 16) (e_s := (0, 1, 0, 0, 0, .int 0, [])) (y_s := (17, [some (.ref _), some (.int _)], [.int _], _)) rfl (u_ rfl) ?_
        refine wrI (pc := 17) (len_s := 1) rfl hk ?_
        show wF _ 25 (36, [some (.ref _), some (.int _), some (.int _), some (.int _), some (.int _)], [.int _], _) _
        refine w_t (pc := 36) (e_s := (15, 3, 40, 1, 0, .null, [])) (y_s := (39, [some (.ref _), some (.int _), some (.int _), some (.int _), some (.int _)], [], _)) rfl (u_ rfl) ?_
        exact wrV (pc := 39) (len_s := 1) rfl hk t_s
  · replace t_s := t_s.2 c1_s
    exact wrV (pc := 91) (len_s := 1) rfl hk t_s
/-- ColdShod.deal()I, from 0 on -/
theorem sg_119_0 {F_s : Nat}  {h_s : zH} {K_s : Int32 → zH → Prop} (hk : hKn h_s) (t_s : wF F_s 25 (0, [some (.ref 7), none, none, none, none], [], h_s) (gV (fun h1 => hKn h1 → wF F_s 119 (9, [some (.ref 6), some (.int 0), none], [], h1) (gI K_s)))) : wF (F_s + 1) 119 (0, [some (.ref 6), none, none], [], h_s) (gI K_s) := by
  refine w_0 (pc := 0) (e_s := (3, 1, 0, 0, 0, .null, [])) (y_s := (1, [some (.ref _), none, none], [.ref _], _)) rfl (u_ rfl) ?_
  refine w20r (pc := 1) (len_s := 3) (q_s := 7) rfl (krq hk rfl) ?_
  refine wcV (pc := 4) (len_s := 3) rfl rfl (l := [some (.ref _), none, none, none, none]) rfl (wmV t_s (fun h1 hk t_s => ?_))
  replace t_s := t_s hk
  refine w_t (pc := 7) (e_s := (0, 1, 0, 0, 0, .int 0, [])) (y_s := (8, [some (.ref _), none, none], [.int _], _)) rfl (u_ rfl) ?_
  refine w_t (pc := 8) (e_s := (4, 1, 1, 0, 0, .null, [])) (y_s := (9, [some (.ref _), some (.int _), none], [], _)) rfl (u_ rfl) ?_
  exact t_s
/-- ColdShod.deal()I, from 9 on -/
theorem sg_119_9 {F_s : Nat} {x1_s : Int32} {l2 : Option Value} {h_s : zH} {K_s : Int32 → zH → Prop} (hk : hKn h_s) (t_s : (x1_s.toInt < (h_s.2.1 7 7).toInt → (zix x1_s < 8 → wF F_s 119 (9, [some (.ref 6), some (.int (x1_s + 1)), l2], [], (h_s.1, zup h_s.2.1 (20 + (zix x1_s)) 6 (-1), h_s.2.2.1, h_s.2.2.2)) (gI K_s))) ∧ (¬ x1_s.toInt < (h_s.2.1 7 7).toInt → wF F_s 119 (43, [some (.ref 6), some (.int 0), some (.int 0)], [], h_s) (gI K_s))) : wF (F_s + 1) 119 (9, [some (.ref 6), some (.int x1_s), l2], [], h_s) (gI K_s) := by
  refine w_0 (pc := 9) (e_s := (1, 1, 1, 0, 0, .null, [])) (y_s := (10, [some (.ref _), some (.int _), _], [.int _], _)) rfl (u_ rfl) ?_
  refine w_t (pc := 10) (e_s := (3, 1, 0, 0, 0, .null, [])) (y_s := (11, [some (.ref _), some (.int _), _], [.ref _, .int _], _)) rfl (u_ rfl) ?_
  refine w20r (pc := 11) (len_s := 3) (q_s := 7) rfl (krq hk rfl) ?_
  refine w20 (pc := 14) (len_s := 3) rfl ?_
  refine wi3 (pc := 17) (len_s := 3) rfl rfl rfl (fun c1_s => ?_) (fun c1_s => ?_)
  · replace t_s := t_s.1 c1_s
    refine w_t (pc := 20) (e_s := (3, 1, 0, 0, 0, .null, [])) (y_s := (21, [some (.ref _), some (.int _), _], [.ref _], _)) rfl (u_ rfl) ?_
    refine w20r (pc := 21) (len_s := 3) (q_s := 7) rfl (krq hk rfl) ?_
    refine w20r (pc := 24) (len_s := 3) (q_s := 10) rfl (krq hk rfl) ?_
    refine w_t (pc := 27) (e_s := (1, 1, 1, 0, 0, .null, [])) (y_s := (28, [some (.ref _), some (.int _), _], [.int _, .ref _], _)) rfl (u_ rfl) ?_
    refine w24 (g_s := fun j_ => 20 + j_) (pc := 28) (len_s := 1) hk rfl (hk.1 10 2 8 rfl rfl) kg10 (fun c2_s => ?_)
    replace t_s := t_s c2_s
    refine w_t (pc := 29) (e_s := (0, 1, 0, 0, 0, .int (-1), [])) (y_s := (30, [some (.ref _), some (.int _), _], [.int _, .ref _], _)) rfl (u_ rfl) ?_
    refine w21 (pc := 30) (len_s := 3) rfl ?_
    refine w_t (pc := 33) (e_s := (19, 3, 1, 0, 0, .int 1, [])) (y_s := (36, [some (.ref _), some (.int _), _], [], _)) rfl (u_ rfl) ?_
    refine w_t (pc := 36) (e_s := (17, 3, 9, 0, 0, .null, [])) (y_s := (9, [some (.ref _), some (.int _), _], [], _)) rfl (u_ rfl) ?_
    exact t_s
  · replace t_s := t_s.2 c1_s
    refine w_t (pc := 39) (e_s := (0, 1, 0, 0, 0, .int 0, [])) (y_s := (40, [some (.ref _), some (.int _), _], [.int _], _)) rfl (u_ rfl) ?_
    refine w_t (pc := 40) (e_s := (4, 1, 1, 0, 0, .null, [])) (y_s := (41, [some (.ref _), some (.int _), _], [], _)) rfl (u_ rfl) ?_
    refine w_t (pc := 41) (e_s := (0, 1, 0, 0, 0, .int 0, [])) (y_s := (42, [some (.ref _), some (.int _), _], [.int _], _)) rfl (u_ rfl) ?_
    refine w_t (pc := 42) (e_s := (4, 1, 2, 0, 0, .null, [])) (y_s := (43, [some (.ref _), some (.int _), some (.int _)], [], _)) rfl (u_ rfl) ?_
    exact t_s
/-- ColdShod.deal()I, from 43 on -/
theorem sg_119_43 {F_s : Nat} {x1_s x2_s : Int32} {h_s : zH} {K_s : Int32 → zH → Prop} (hk : hKn h_s) (t_s : (x2_s.toInt < (h_s.2.1 7 6).toInt → (zix x2_s < 6 → ((h_s.2.1 12 (zix x2_s)).toInt < 0 → wF F_s 119 (43, [some (.ref 6), some (.int x1_s), some (.int (x2_s + 1))], [], h_s) (gI K_s)) ∧ (¬ (h_s.2.1 12 (zix x2_s)).toInt < 0 → (((h_s.2.1 12 (zix x2_s)).toInt < (h_s.2.1 7 7).toInt → (zix (h_s.2.1 12 (zix x2_s)) < 8 → wF F_s 119 (43, [some (.ref 6), some (.int (x1_s + 1)), some (.int (x2_s + 1))], [], (h_s.1, zup h_s.2.1 (20 + (zix (h_s.2.1 12 (zix x2_s)))) 6 x2_s, h_s.2.2.1, h_s.2.2.2)) (gI K_s))) ∧ (¬ (h_s.2.1 12 (zix x2_s)).toInt < (h_s.2.1 7 7).toInt → wF F_s 119 (43, [some (.ref 6), some (.int x1_s), some (.int (x2_s + 1))], [], h_s) (gI K_s)))))) ∧ (¬ x2_s.toInt < (h_s.2.1 7 6).toInt → K_s x1_s h_s)) : wF (F_s + 1) 119 (43, [some (.ref 6), some (.int x1_s), some (.int x2_s)], [], h_s) (gI K_s) := by
  refine w_0 (pc := 43) (e_s := (1, 1, 2, 0, 0, .null, [])) (y_s := (44, [some (.ref _), some (.int _), some (.int _)], [.int _], _)) rfl (u_ rfl) ?_
  refine w_t (pc := 44) (e_s := (3, 1, 0, 0, 0, .null, [])) (y_s := (45, [some (.ref _), some (.int _), some (.int _)], [.ref _, .int _], _)) rfl (u_ rfl) ?_
  refine w20r (pc := 45) (len_s := 3) (q_s := 7) rfl (krq hk rfl) ?_
  refine w20 (pc := 48) (len_s := 3) rfl ?_
  refine wi3 (pc := 51) (len_s := 3) rfl rfl rfl (fun c1_s => ?_) (fun c1_s => ?_)
  · replace t_s := t_s.1 c1_s
    refine w_t (pc := 54) (e_s := (3, 1, 0, 0, 0, .null, [])) (y_s := (55, [some (.ref _), some (.int _), some (.int _)], [.ref _], _)) rfl (u_ rfl) ?_
    refine w20r (pc := 55) (len_s := 3) (q_s := 7) rfl (krq hk rfl) ?_
    refine w_t (pc := 58) (e_s := (3, 1, 0, 0, 0, .null, [])) (y_s := (59, [some (.ref _), some (.int _), some (.int _)], [.ref _, .ref _], _)) rfl (u_ rfl) ?_
    refine w20r (pc := 59) (len_s := 3) (q_s := 7) rfl (krq hk rfl) ?_
    refine w20r (pc := 62) (len_s := 3) (q_s := 12) rfl (krq hk rfl) ?_
    refine w_t (pc := 65) (e_s := (1, 1, 2, 0, 0, .null, [])) (y_s := (66, [some (.ref _), some (.int _), some (.int _)], [.int _, .ref _, .ref _], _)) rfl (u_ rfl) ?_
    refine w22 (pc := 66) (len_s := 1) rfl (hk.1 12 0 6 rfl rfl) (fun c2_s => ?_)
    replace t_s := t_s c2_s
    refine wcI (pc := 67) (len_s := 3) rfl rfl (l := [some (.ref _), some (.int _)]) rfl ?_
    refine w_t (pc := 0) (e_s := (1, 1, 1, 0, 0, .null, [])) (y_s := (1, [some (.ref _), some (.int _)], [.int _], _)) rfl (u_ rfl) ?_
    refine wq2 (pc := 1) (len_s := 3) rfl rfl (fun c3_s => ?_) (fun c3_s => ?_)
    · replace t_s := t_s.1 c3_s
      refine w_t (pc := 16) (e_s := (0, 1, 0, 0, 0, .int 0, [])) (y_s := (17, [some (.ref _), some (.int _)], [.int _], _)) rfl (u_ rfl) ?_
      refine wrI (pc := 17) (len_s := 1) rfl hk ?_
      show wF _ 119 (70, [some (.ref _), some (.int _), some (.int _)], [.int _], _) _
      refine w_t (pc := 70) (e_s := (15, 3, 76, 1, 0, .null, [])) (y_s := (73, [some (.ref _), some (.int _), some (.int _)], [], _)) rfl (u_ rfl) ?_
      refine w_t (pc := 73) (e_s := (17, 3, 100, 0, 0, .null, [])) (y_s := (100, [some (.ref _), some (.int _), some (.int _)], [], _)) rfl (u_ rfl) ?_
      refine w_t (pc := 100) (e_s := (19, 3, 2, 0, 0, .int 1, [])) (y_s := (103, [some (.ref _), some (.int _), some (.int _)], [], _)) rfl (u_ rfl) ?_
      refine w_t (pc := 103) (e_s := (17, 3, 43, 0, 0, .null, [])) (y_s := (43, [some (.ref _), some (.int _), some (.int _)], [], _)) rfl (u_ rfl) ?_
      exact t_s
    · replace t_s := t_s.2 c3_s
      refine w_t (pc := 4) (e_s := (1, 1, 1, 0, 0, .null, [])) (y_s := (5, [some (.ref _), some (.int _)], [.int _], _)) rfl (u_ rfl) ?_
      refine w_t (pc := 5) (e_s := (3, 1, 0, 0, 0, .null, [])) (y_s := (6, [some (.ref _), some (.int _)], [.ref _, .int _], _)) rfl (u_ rfl) ?_
      refine w20 (pc := 6) (len_s := 3) rfl ?_
      refine wi3 (pc := 9) (len_s := 3) rfl rfl rfl (fun c4_s => ?_) (fun c4_s => ?_)
      · replace t_s := t_s.1 c4_s
        refine w_t (pc := 12) (e_s := (0, 1, 0, 0, 0, .int 1, [])) (y_s := (13, [some (.ref _), some (.int _)], [.int _], _)) rfl (u_ rfl) ?_
        refine w_t (pc := 13) (e_s := (17, 3, 17, 0, 0, .null, [])) (y_s := (17, [some (.ref _), some (.int _)], [.int _], _)) rfl (u_ rfl) ?_
        refine wrI (pc := 17) (len_s := 1) rfl hk ?_
        show wF _ 119 (70, [some (.ref _), some (.int _), some (.int _)], [.int _], _) _
        refine w_t (pc := 70) (e_s := (15, 3, 76, 1, 0, .null, [])) (y_s := (76, [some (.ref _), some (.int _), some (.int _)], [], _)) rfl (u_ rfl) ?_
        refine w_t (pc := 76) (e_s := (3, 1, 0, 0, 0, .null, [])) (y_s := (77, [some (.ref _), some (.int _), some (.int _)], [.ref _], _)) rfl (u_ rfl) ?_
        refine w20r (pc := 77) (len_s := 3) (q_s := 7) rfl (krq hk rfl) ?_
        refine w20r (pc := 80) (len_s := 3) (q_s := 10) rfl (krq hk rfl) ?_
        refine w_t (pc := 83) (e_s := (3, 1, 0, 0, 0, .null, [])) (y_s := (84, [some (.ref _), some (.int _), some (.int _)], [.ref _, .ref _], _)) rfl (u_ rfl) ?_
        refine w20r (pc := 84) (len_s := 3) (q_s := 7) rfl (krq hk rfl) ?_
        refine w20r (pc := 87) (len_s := 3) (q_s := 12) rfl (krq hk rfl) ?_
        refine w_t (pc := 90) (e_s := (1, 1, 2, 0, 0, .null, [])) (y_s := (91, [some (.ref _), some (.int _), some (.int _)], [.int _, .ref _, .ref _], _)) rfl (u_ rfl) ?_
        refine w22 (pc := 91) (len_s := 1) rfl (hk.1 12 0 6 rfl rfl) (fun c5_s => ?_)
        refine w24 (g_s := fun j_ => 20 + j_) (pc := 92) (len_s := 1) hk rfl (hk.1 10 2 8 rfl rfl) kg10 (fun c6_s => ?_)
        replace t_s := t_s c6_s
        refine w_t (pc := 93) (e_s := (1, 1, 2, 0, 0, .null, [])) (y_s := (94, [some (.ref _), some (.int _), some (.int _)], [.int _, .ref _], _)) rfl (u_ rfl) ?_
        refine w21 (pc := 94) (len_s := 3) rfl ?_
        refine w_t (pc := 97) (e_s := (19, 3, 1, 0, 0, .int 1, [])) (y_s := (100, [some (.ref _), some (.int _), some (.int _)], [], _)) rfl (u_ rfl) ?_
        refine w_t (pc := 100) (e_s := (19, 3, 2, 0, 0, .int 1, [])) (y_s := (103, [some (.ref _), some (.int _), some (.int _)], [], _)) rfl (u_ rfl) ?_
        refine w_t (pc := 103) (e_s := (17, 3, 43, 0, 0, .null, [])) (y_s := (43, [some (.ref _), some (.int _), some (.int _)], [], _)) rfl (u_ rfl) ?_
        exact t_s
      · replace t_s := t_s.2 c4_s
        refine w_t (pc := 16) (e_s := (0, 1, 0, 0, 0, .int 0, [])) (y_s := (17, [some (.ref _), some (.int _)], [.int _], _)) rfl (u_ rfl) ?_
        refine wrI (pc := 17) (len_s := 1) rfl hk ?_
        show wF _ 119 (70, [some (.ref _), some (.int _), some (.int _)], [.int _], _) _
        refine w_t (pc := 70) (e_s := (15, 3, 76, 1, 0, .null, [])) (y_s := (73, [some (.ref _), some (.int _), some (.int _)], [], _)) rfl (u_ rfl) ?_
        refine w_t (pc := 73) (e_s := (17, 3, 100, 0, 0, .null, [])) (y_s := (100, [some (.ref _), some (.int _), some (.int _)], [], _)) rfl (u_ rfl) ?_
        refine w_t (pc := 100) (e_s := (19, 3, 2, 0, 0, .int 1, [])) (y_s := (103, [some (.ref _), some (.int _), some (.int _)], [], _)) rfl (u_ rfl) ?_
        refine w_t (pc := 103) (e_s := (17, 3, 43, 0, 0, .null, [])) (y_s := (43, [some (.ref _), some (.int _), some (.int _)], [], _)) rfl (u_ rfl) ?_
        exact t_s
  · replace t_s := t_s.2 c1_s
    refine w_t (pc := 106) (e_s := (1, 1, 1, 0, 0, .null, [])) (y_s := (107, [some (.ref _), some (.int _), some (.int _)], [.int _], _)) rfl (u_ rfl) ?_
    exact wrI (pc := 107) (len_s := 1) rfl hk t_s
/-- ColdShodModel.headRather(III)Z, from 0 on -/
theorem sg_195_0 {F_s : Nat} {x1_s : Int32} {x2_s : Int32} {x3 : Int32} {h_s : zH} {K_s : Int32 → zH → Prop} (hk : hKn h_s) (t_s : (zix (20 + x2_s) < 104 → (zix x1_s < 104 → (((h_s.2.1 103 (zix (20 + x2_s))) - (h_s.2.1 103 (zix x1_s))).toInt < 0 → (zix (20 + x3) < 104 → (((h_s.2.1 103 (zix (20 + x3))) - (h_s.2.1 103 (zix x1_s))).toInt < 0 → (((-((h_s.2.1 103 (zix (20 + x2_s))) - (h_s.2.1 103 (zix x1_s)))).toInt = (-((h_s.2.1 103 (zix (20 + x3))) - (h_s.2.1 103 (zix x1_s)))).toInt → (zix (28 + x2_s) < 104 → (zix (28 + x3) < 104 → ((h_s.2.1 103 (zix (28 + x2_s))).toInt = (h_s.2.1 103 (zix (28 + x3))).toInt → ((x2_s.toInt < x3.toInt → K_s 1 h_s) ∧ (¬ x2_s.toInt < x3.toInt → K_s 0 h_s))) ∧ (¬ (h_s.2.1 103 (zix (28 + x2_s))).toInt = (h_s.2.1 103 (zix (28 + x3))).toInt → (((h_s.2.1 103 (zix (28 + x2_s))).toInt < (h_s.2.1 103 (zix (28 + x3))).toInt → K_s 1 h_s) ∧ (¬ (h_s.2.1 103 (zix (28 + x2_s))).toInt < (h_s.2.1 103 (zix (28 + x3))).toInt → K_s 0 h_s)))))) ∧ (¬ (-((h_s.2.1 103 (zix (20 + x2_s))) - (h_s.2.1 103 (zix x1_s)))).toInt = (-((h_s.2.1 103 (zix (20 + x3))) - (h_s.2.1 103 (zix x1_s)))).toInt → (((-((h_s.2.1 103 (zix (20 + x2_s))) - (h_s.2.1 103 (zix x1_s)))).toInt < (-((h_s.2.1 103 (zix (20 + x3))) - (h_s.2.1 103 (zix x1_s)))).toInt → K_s 1 h_s) ∧ (¬ (-((h_s.2.1 103 (zix (20 + x2_s))) - (h_s.2.1 103 (zix x1_s)))).toInt < (-((h_s.2.1 103 (zix (20 + x3))) - (h_s.2.1 103 (zix x1_s)))).toInt → K_s 0 h_s))))) ∧ (¬ ((h_s.2.1 103 (zix (20 + x3))) - (h_s.2.1 103 (zix x1_s))).toInt < 0 → (((-((h_s.2.1 103 (zix (20 + x2_s))) - (h_s.2.1 103 (zix x1_s)))).toInt = ((h_s.2.1 103 (zix (20 + x3))) - (h_s.2.1 103 (zix x1_s))).toInt → (zix (28 + x2_s) < 104 → (zix (28 + x3) < 104 → ((h_s.2.1 103 (zix (28 + x2_s))).toInt = (h_s.2.1 103 (zix (28 + x3))).toInt → ((x2_s.toInt < x3.toInt → K_s 1 h_s) ∧ (¬ x2_s.toInt < x3.toInt → K_s 0 h_s))) ∧ (¬ (h_s.2.1 103 (zix (28 + x2_s))).toInt = (h_s.2.1 103 (zix (28 + x3))).toInt → (((h_s.2.1 103 (zix (28 + x2_s))).toInt < (h_s.2.1 103 (zix (28 + x3))).toInt → K_s 1 h_s) ∧ (¬ (h_s.2.1 103 (zix (28 + x2_s))).toInt < (h_s.2.1 103 (zix (28 + x3))).toInt → K_s 0 h_s)))))) ∧ (¬ (-((h_s.2.1 103 (zix (20 + x2_s))) - (h_s.2.1 103 (zix x1_s)))).toInt = ((h_s.2.1 103 (zix (20 + x3))) - (h_s.2.1 103 (zix x1_s))).toInt → (((-((h_s.2.1 103 (zix (20 + x2_s))) - (h_s.2.1 103 (zix x1_s)))).toInt < ((h_s.2.1 103 (zix (20 + x3))) - (h_s.2.1 103 (zix x1_s))).toInt → K_s 1 h_s) ∧ (¬ (-((h_s.2.1 103 (zix (20 + x2_s))) - (h_s.2.1 103 (zix x1_s)))).toInt < ((h_s.2.1 103 (zix (20 + x3))) - (h_s.2.1 103 (zix x1_s))).toInt → K_s 0 h_s))))))) ∧ (¬ ((h_s.2.1 103 (zix (20 + x2_s))) - (h_s.2.1 103 (zix x1_s))).toInt < 0 → (zix (20 + x3) < 104 → (((h_s.2.1 103 (zix (20 + x3))) - (h_s.2.1 103 (zix x1_s))).toInt < 0 → ((((h_s.2.1 103 (zix (20 + x2_s))) - (h_s.2.1 103 (zix x1_s))).toInt = (-((h_s.2.1 103 (zix (20 + x3))) - (h_s.2.1 103 (zix x1_s)))).toInt → (zix (28 + x2_s) < 104 → (zix (28 + x3) < 104 → ((h_s.2.1 103 (zix (28 + x2_s))).toInt = (h_s.2.1 103 (zix (28 + x3))).toInt → ((x2_s.toInt < x3.toInt → K_s 1 h_s) ∧ (¬ x2_s.toInt < x3.toInt → K_s 0 h_s))) ∧ (¬ (h_s.2.1 103 (zix (28 + x2_s))).toInt = (h_s.2.1 103 (zix (28 + x3))).toInt → (((h_s.2.1 103 (zix (28 + x2_s))).toInt < (h_s.2.1 103 (zix (28 + x3))).toInt → K_s 1 h_s) ∧ (¬ (h_s.2.1 103 (zix (28 + x2_s))).toInt < (h_s.2.1 103 (zix (28 + x3))).toInt → K_s 0 h_s)))))) ∧ (¬ ((h_s.2.1 103 (zix (20 + x2_s))) - (h_s.2.1 103 (zix x1_s))).toInt = (-((h_s.2.1 103 (zix (20 + x3))) - (h_s.2.1 103 (zix x1_s)))).toInt → ((((h_s.2.1 103 (zix (20 + x2_s))) - (h_s.2.1 103 (zix x1_s))).toInt < (-((h_s.2.1 103 (zix (20 + x3))) - (h_s.2.1 103 (zix x1_s)))).toInt → K_s 1 h_s) ∧ (¬ ((h_s.2.1 103 (zix (20 + x2_s))) - (h_s.2.1 103 (zix x1_s))).toInt < (-((h_s.2.1 103 (zix (20 + x3))) - (h_s.2.1 103 (zix x1_s)))).toInt → K_s 0 h_s))))) ∧ (¬ ((h_s.2.1 103 (zix (20 + x3))) - (h_s.2.1 103 (zix x1_s))).toInt < 0 → ((((h_s.2.1 103 (zix (20 + x2_s))) - (h_s.2.1 103 (zix x1_s))).toInt = ((h_s.2.1 103 (zix (20 + x3))) - (h_s.2.1 103 (zix x1_s))).toInt → (zix (28 + x2_s) < 104 → (zix (28 + x3) < 104 → ((h_s.2.1 103 (zix (28 + x2_s))).toInt = (h_s.2.1 103 (zix (28 + x3))).toInt → ((x2_s.toInt < x3.toInt → K_s 1 h_s) ∧ (¬ x2_s.toInt < x3.toInt → K_s 0 h_s))) ∧ (¬ (h_s.2.1 103 (zix (28 + x2_s))).toInt = (h_s.2.1 103 (zix (28 + x3))).toInt → (((h_s.2.1 103 (zix (28 + x2_s))).toInt < (h_s.2.1 103 (zix (28 + x3))).toInt → K_s 1 h_s) ∧ (¬ (h_s.2.1 103 (zix (28 + x2_s))).toInt < (h_s.2.1 103 (zix (28 + x3))).toInt → K_s 0 h_s)))))) ∧ (¬ ((h_s.2.1 103 (zix (20 + x2_s))) - (h_s.2.1 103 (zix x1_s))).toInt = ((h_s.2.1 103 (zix (20 + x3))) - (h_s.2.1 103 (zix x1_s))).toInt → ((((h_s.2.1 103 (zix (20 + x2_s))) - (h_s.2.1 103 (zix x1_s))).toInt < ((h_s.2.1 103 (zix (20 + x3))) - (h_s.2.1 103 (zix x1_s))).toInt → K_s 1 h_s) ∧ (¬ ((h_s.2.1 103 (zix (20 + x2_s))) - (h_s.2.1 103 (zix x1_s))).toInt < ((h_s.2.1 103 (zix (20 + x3))) - (h_s.2.1 103 (zix x1_s))).toInt → K_s 0 h_s)))))))))) : wF (F_s + 1) 195 (0, [some (.ref 102), some (.int x1_s), some (.int x2_s), some (.int x3), none, none], [], h_s) (gI K_s) := by
  refine w_0 (pc := 0) (e_s := (3, 1, 0, 0, 0, .null, [])) (y_s := (1, [some (.ref _), some (.int _), some (.int _), some (.int _), none, none], [.ref _], _)) rfl (u_ rfl) ?_
  refine w20r (pc := 1) (len_s := 3) (q_s := 103) rfl (krq hk rfl) ?_
  refine w_t (pc := 4) (e_s := (0, 2, 0, 0, 0, .int 20, [])) (y_s := (6, [some (.ref _), some (.int _), some (.int _), some (.int _), none, none], [.int _, .ref _], _)) rfl (u_ rfl) ?_
  refine w_t (pc := 6) (e_s := (1, 1, 2, 0, 0, .null, [])) (y_s := (7, [some (.ref _), some (.int _), some (.int _), some (.int _), none, none], [.int _, .int _, .ref _], _)) rfl (u_ rfl) ?_
  refine w_t (pc := 7) (e_s := (7, 1, 0, 0, 0, .null, [])) (y_s := (8, [some (.ref _), some (.int _), some (.int _), some (.int _), none, none], [.int (_ + _), .ref _], _)) rfl (u_ rfl) ?_
  refine w22 (pc := 8) (len_s := 1) rfl (hk.1 103 0 104 rfl rfl) (fun c1_s => ?_)
  replace t_s := t_s c1_s
  refine w_t (pc := 9) (e_s := (3, 1, 0, 0, 0, .null, [])) (y_s := (10, [some (.ref _), some (.int _), some (.int _), some (.int _), none, none], [.ref _, .int _], _)) rfl (u_ rfl) ?_
  refine w20r (pc := 10) (len_s := 3) (q_s := 103) rfl (krq hk rfl) ?_
  refine w_t (pc := 13) (e_s := (1, 1, 1, 0, 0, .null, [])) (y_s := (14, [some (.ref _), some (.int _), some (.int _), some (.int _), none, none], [.int _, .ref _, .int _], _)) rfl (u_ rfl) ?_
  refine w22 (pc := 14) (len_s := 1) rfl (hk.1 103 0 104 rfl rfl) (fun c2_s => ?_)
  replace t_s := t_s c2_s
  refine w_t (pc := 15) (e_s := (7, 1, 0, 1, 0, .null, [])) (y_s := (16, [some (.ref _), some (.int _), some (.int _), some (.int _), none, none], [.int (_ - _)], _)) rfl (u_ rfl) ?_
  refine wcI (pc := 16) (len_s := 3) rfl rfl (l := [some (.int _)]) rfl ?_
  refine w_t (pc := 0) (e_s := (1, 1, 0, 0, 0, .null, [])) (y_s := (1, [some (.int _)], [.int _], _)) rfl (u_ rfl) ?_
  refine wq3 (pc := 1) (len_s := 3) rfl rfl (fun c3_s => ?_) (fun c3_s => ?_)
  · replace t_s := t_s.1 c3_s
    refine w_t (pc := 4) (e_s := (1, 1, 0, 0, 0, .null, [])) (y_s := (5, [some (.int _)], [.int _], _)) rfl (u_ rfl) ?_
    refine w_t (pc := 5) (e_s := (9, 1, 0, 0, 0, .null, [])) (y_s := (6, [some (.int _)], [.int (-_)], _)) rfl (u_ rfl) ?_
    refine w_t (pc := 6) (e_s := (17, 3, 10, 0, 0, .null, [])) (y_s := (10, [some (.int _)], [.int _], _)) rfl (u_ rfl) ?_
    refine wrI (pc := 10) (len_s := 1) rfl hk ?_
    show wF _ 195 (19, [some (.ref _), some (.int _), some (.int _), some (.int _), none, none], [.int _], _) _
    refine w_t (pc := 19) (e_s := (4, 2, 4, 0, 0, .null, [])) (y_s := (21, [some (.ref _), some (.int _), some (.int _), some (.int _), some (.int _), none], [], _)) rfl (u_ rfl) ?_
    refine w_t (pc := 21) (e_s := (3, 1, 0, 0, 0, .null, [])) (y_s := (22, [some (.ref _), some (.int _), some (.int _), some (.int _), some (.int _), none], [.ref _], _)) rfl (u_ rfl) ?_
    refine w20r (pc := 22) (len_s := 3) (q_s := 103) rfl (krq hk rfl) ?_
    refine w_t (pc := 25) (e_s := (0, 2, 0, 0, 0, .int 20, [])) (y_s := (27, [some (.ref _), some (.int _), some (.int _), some (.int _), some (.int _), none], [.int _, .ref _], _)) rfl (u_ rfl) ?_
    refine w_t (pc := 27) (e_s := (1, 1, 3, 0, 0, .null, [])) (y_s := (28, [some (.ref _), some (.int _), some (.int _), some (.int _), some (.int _), none], [.int _, .int _, .ref _], _)) rfl (u_ rfl) ?_
    refine w_t (pc := 28) (e_s := (7, 1, 0, 0, 0, .null, [])) (y_s := (29, [some (.ref _), some (.int _), some (.int _), some (.int _), some (.int _), none], [.int (_ + _), .ref _], _)) rfl (u_ rfl) ?_
    refine w22 (pc := 29) (len_s := 1) rfl (hk.1 103 0 104 rfl rfl) (fun c4_s => ?_)
    replace t_s := t_s c4_s
    refine w_t (pc := 30) (e_s := (3, 1, 0, 0, 0, .null, [])) (y_s := (31, [some (.ref _), some (.int _), some (.int _), some (.int _), some (.int _), none], [.ref _, .int _], _)) rfl (u_ rfl) ?_
    refine w20r (pc := 31) (len_s := 3) (q_s := 103) rfl (krq hk rfl) ?_
    refine w_t (pc := 34) (e_s := (1, 1, 1, 0, 0, .null, [])) (y_s := (35, [some (.ref _), some (.int _), some (.int _), some (.int _), some (.int _), none], [.int _, .ref _, .int _], _)) rfl (u_ rfl) ?_
    refine w22 (pc := 35) (len_s := 1) rfl (hk.1 103 0 104 rfl rfl) (fun c5_s => ?_)
    refine w_t (pc := 36) (e_s := (7, 1, 0, 1, 0, .null, [])) (y_s := (37, [some (.ref _), some (.int _), some (.int _), some (.int _), some (.int _), none], [.int (_ - _)], _)) rfl (u_ rfl) ?_
    refine wcI (pc := 37) (len_s := 3) rfl rfl (l := [some (.int _)]) rfl ?_
    refine w_t (pc := 0) (e_s := (1, 1, 0, 0, 0, .null, [])) (y_s := (1, [some (.int _)], [.int _], _)) rfl (u_ rfl) ?_
    refine wq3 (pc := 1) (len_s := 3) rfl rfl (fun c6_s => ?_) (fun c6_s => ?_)
    · replace t_s := t_s.1 c6_s
      refine w_t (pc := 4) (e_s := (1, 1, 0, 0, 0, .null, [])) (y_s := (5, [some (.int _)], [.int _], _)) rfl (u_ rfl) ?_
      refine w_t (pc := 5) (e_s := (9, 1, 0, 0, 0, .null, [])) (y_s := (6, [some (.int _)], [.int (-_)], _)) rfl (u_ rfl) ?_
      refine w_t (pc := 6) (e_s := (17, 3, 10, 0, 0, .null, [])) (y_s := (10, [some (.int _)], [.int _], _)) rfl (u_ rfl) ?_
      refine wrI (pc := 10) (len_s := 1) rfl hk ?_
      show wF _ 195 (40, [some (.ref _), some (.int _), some (.int _), some (.int _), some (.int _), none], [.int _], _) _
      refine w_t (pc := 40) (e_s := (4, 2, 5, 0, 0, .null, [])) (y_s := (42, [some (.ref _), some (.int _), some (.int _), some (.int _), some (.int _), some (.int _)], [], _)) rfl (u_ rfl) ?_
      refine w_t (pc := 42) (e_s := (1, 2, 4, 0, 0, .null, [])) (y_s := (44, [some (.ref _), some (.int _), some (.int _), some (.int _), some (.int _), some (.int _)], [.int _], _)) rfl (u_ rfl) ?_
      refine w_t (pc := 44) (e_s := (1, 2, 5, 0, 0, .null, [])) (y_s := (46, [some (.ref _), some (.int _), some (.int _), some (.int _), some (.int _), some (.int _)], [.int _, .int _], _)) rfl (u_ rfl) ?_
      refine wi0 (pc := 46) (len_s := 3) rfl rfl rfl (fun c7_s => ?_) (fun c7_s => ?_)
      · replace t_s := t_s.1 c7_s
        refine w_t (pc := 62) (e_s := (3, 1, 0, 0, 0, .null, [])) (y_s := (63, [some (.ref _), some (.int _), some (.int _), some (.int _), some (.int _), some (.int _)], [.ref _], _)) rfl (u_ rfl) ?_
        refine w20r (pc := 63) (len_s := 3) (q_s := 103) rfl (krq hk rfl) ?_
        refine w_t (pc := 66) (e_s := (0, 2, 0, 0, 0, .int 28, [])) (y_s := (68, [some (.ref _), some (.int _), some (.int _), some (.int _), some (.int _), some (.int _)], [.int _, .ref _], _)) rfl (u_ rfl) ?_
        refine w_t (pc := 68) (e_s := (1, 1, 2, 0, 0, .null, [])) (y_s := (69, [some (.ref _), some (.int _), some (.int _), some (.int _), some (.int _), some (.int _)], [.int _, .int _, .ref _], _)) rfl (u_ rfl) ?_
        refine w_t (pc := 69) (e_s := (7, 1, 0, 0, 0, .null, [])) (y_s := (70, [some (.ref _), some (.int _), some (.int _), some (.int _), some (.int _), some (.int _)], [.int (_ + _), .ref _], _)) rfl (u_ rfl) ?_
        refine w22 (pc := 70) (len_s := 1) rfl (hk.1 103 0 104 rfl rfl) (fun c8_s => ?_)
        replace t_s := t_s c8_s
        refine w_t (pc := 71) (e_s := (3, 1, 0, 0, 0, .null, [])) (y_s := (72, [some (.ref _), some (.int _), some (.int _), some (.int _), some (.int _), some (.int _)], [.ref _, .int _], _)) rfl (u_ rfl) ?_
        refine w20r (pc := 72) (len_s := 3) (q_s := 103) rfl (krq hk rfl) ?_
        refine w_t (pc := 75) (e_s := (0, 2, 0, 0, 0, .int 28, [])) (y_s := (77, [some (.ref _), some (.int _), some (.int _), some (.int _), some (.int _), some (.int _)], [.int _, .ref _, .int _], _)) rfl (u_ rfl) ?_
        refine w_t (pc := 77) (e_s := (1, 1, 3, 0, 0, .null, [])) (y_s := (78, [some (.ref _), some (.int _), some (.int _), some (.int _), some (.int _), some (.int _)], [.int _, .int _, .ref _, .int _], _)) rfl (u_ rfl) ?_
        refine w_t (pc := 78) (e_s := (7, 1, 0, 0, 0, .null, [])) (y_s := (79, [some (.ref _), some (.int _), some (.int _), some (.int _), some (.int _), some (.int _)], [.int (_ + _), .ref _, .int _], _)) rfl (u_ rfl) ?_
        refine w22 (pc := 79) (len_s := 1) rfl (hk.1 103 0 104 rfl rfl) (fun c9_s => ?_)
        replace t_s := t_s c9_s
        refine wi0 (pc := 80) (len_s := 3) rfl rfl rfl (fun c10_s => ?_) (fun c10_s => ?_)
        · replace t_s := t_s.1 c10_s
          refine w_t (pc := 112) (e_s := (1, 1, 2, 0, 0, .null, [])) (y_s := (113, [some (.ref _), some (.int _), some (.int _), some (.int _), some (.int _), some (.int _)], [.int _], _)) rfl (u_ rfl) ?_
          refine w_t (pc := 113) (e_s := (1, 1, 3, 0, 0, .null, [])) (y_s := (114, [some (.ref _), some (.int _), some (.int _), some (.int _), some (.int _), some (.int _)], [.int _, .int _], _)) rfl (u_ rfl) ?_
          refine wi3 (pc := 114) (len_s := 3) rfl rfl rfl (fun c11_s => ?_) (fun c11_s => ?_)
          · replace t_s := t_s.1 c11_s
            refine w_t (pc := 117) (e_s := (0, 1, 0, 0, 0, .int 1, [])) (y_s := (118, [some (.ref _), some (.int _), some (.int _), some (.int _), some (.int _), some (.int _)], [.int _], _)) rfl (u_ rfl) ?_
            refine w_t (pc := 118) (e_s := (17, 3, 122, 0, 0, .null, [])) (y_s := (122, [some (.ref _), some (.int _), some (.int _), some (.int _), some (.int _), some (.int _)], [.int _], _)) rfl (u_ rfl) ?_
            exact wrI (pc := 122) (len_s := 1) rfl hk t_s
          · replace t_s := t_s.2 c11_s
            refine w_t (pc := 121) (e_s := (0, 1, 0, 0, 0, .int 0, [])) (y_s := (122, [some (.ref _), some (.int _), some (.int _), some (.int _), some (.int _), some (.int _)], [.int _], _)) rfl (u_ rfl) ?_
            exact wrI (pc := 122) (len_s := 1) rfl hk t_s
        · replace t_s := t_s.2 c10_s
          refine w_t (pc := 83) (e_s := (3, 1, 0, 0, 0, .null, [])) (y_s := (84, [some (.ref _), some (.int _), some (.int _), some (.int _), some (.int _), some (.int _)], [.ref _], _)) rfl (u_ rfl) ?_
          refine w20r (pc := 84) (len_s := 3) (q_s := 103) rfl (krq hk rfl) ?_
          refine w_t (pc := 87) (e_s := (0, 2, 0, 0, 0, .int 28, [])) (y_s := (89, [some (.ref _), some (.int _), some (.int _), some (.int _), some (.int _), some (.int _)], [.int _, .ref _], _)) rfl (u_ rfl) ?_
          refine w_t (pc := 89) (e_s := (1, 1, 2, 0, 0, .null, [])) (y_s := (90, [some (.ref _), some (.int _), some (.int _), some (.int _), some (.int _), some (.int _)], [.int _, .int _, .ref _], _)) rfl (u_ rfl) ?_
          refine w_t (pc := 90) (e_s := (7, 1, 0, 0, 0, .null, [])) (y_s := (91, [some (.ref _), some (.int _), some (.int _), some (.int _), some (.int _), some (.int _)], [.int (_ + _), .ref _], _)) rfl (u_ rfl) ?_
          refine w22 (pc := 91) (len_s := 1) rfl (hk.1 103 0 104 rfl rfl) (fun c12_s => ?_)
          refine w_t (pc := 92) (e_s := (3, 1, 0, 0, 0, .null, [])) (y_s := (93, [some (.ref _), some (.int _), some (.int _), some (.int _), some (.int _), some (.int _)], [.ref _, .int _], _)) rfl (u_ rfl) ?_
          refine w20r (pc := 93) (len_s := 3) (q_s := 103) rfl (krq hk rfl) ?_
          refine w_t (pc := 96) (e_s := (0, 2, 0, 0, 0, .int 28, [])) (y_s := (98, [some (.ref _), some (.int _), some (.int _), some (.int _), some (.int _), some (.int _)], [.int _, .ref _, .int _], _)) rfl (u_ rfl) ?_
          refine w_t (pc := 98) (e_s := (1, 1, 3, 0, 0, .null, [])) (y_s := (99, [some (.ref _), some (.int _), some (.int _), some (.int _), some (.int _), some (.int _)], [.int _, .int _, .ref _, .int _], _)) rfl (u_ rfl) ?_
          refine w_t (pc := 99) (e_s := (7, 1, 0, 0, 0, .null, [])) (y_s := (100, [some (.ref _), some (.int _), some (.int _), some (.int _), some (.int _), some (.int _)], [.int (_ + _), .ref _, .int _], _)) rfl (u_ rfl) ?_
          refine w22 (pc := 100) (len_s := 1) rfl (hk.1 103 0 104 rfl rfl) (fun c13_s => ?_)
          refine wi3 (pc := 101) (len_s := 3) rfl rfl rfl (fun c14_s => ?_) (fun c14_s => ?_)
          · replace t_s := t_s.1 c14_s
            refine w_t (pc := 104) (e_s := (0, 1, 0, 0, 0, .int 1, [])) (y_s := (105, [some (.ref _), some (.int _), some (.int _), some (.int _), some (.int _), some (.int _)], [.int _], _)) rfl (u_ rfl) ?_
            refine w_t (pc := 105) (e_s := (17, 3, 122, 0, 0, .null, [])) (y_s := (122, [some (.ref _), some (.int _), some (.int _), some (.int _), some (.int _), some (.int _)], [.int _], _)) rfl (u_ rfl) ?_
            exact wrI (pc := 122) (len_s := 1) rfl hk t_s
          · replace t_s := t_s.2 c14_s
            refine w_t (pc := 108) (e_s := (0, 1, 0, 0, 0, .int 0, [])) (y_s := (109, [some (.ref _), some (.int _), some (.int _), some (.int _), some (.int _), some (.int _)], [.int _], _)) rfl (u_ rfl) ?_
            refine w_t (pc := 109) (e_s := (17, 3, 122, 0, 0, .null, [])) (y_s := (122, [some (.ref _), some (.int _), some (.int _), some (.int _), some (.int _), some (.int _)], [.int _], _)) rfl (u_ rfl) ?_
            exact wrI (pc := 122) (len_s := 1) rfl hk t_s
      · replace t_s := t_s.2 c7_s
        refine w_t (pc := 49) (e_s := (1, 2, 4, 0, 0, .null, [])) (y_s := (51, [some (.ref _), some (.int _), some (.int _), some (.int _), some (.int _), some (.int _)], [.int _], _)) rfl (u_ rfl) ?_
        refine w_t (pc := 51) (e_s := (1, 2, 5, 0, 0, .null, [])) (y_s := (53, [some (.ref _), some (.int _), some (.int _), some (.int _), some (.int _), some (.int _)], [.int _, .int _], _)) rfl (u_ rfl) ?_
        refine wi3 (pc := 53) (len_s := 3) rfl rfl rfl (fun c15_s => ?_) (fun c15_s => ?_)
        · replace t_s := t_s.1 c15_s
          refine w_t (pc := 56) (e_s := (0, 1, 0, 0, 0, .int 1, [])) (y_s := (57, [some (.ref _), some (.int _), some (.int _), some (.int _), some (.int _), some (.int _)], [.int _], _)) rfl (u_ rfl) ?_
          refine w_t (pc := 57) (e_s := (17, 3, 61, 0, 0, .null, [])) (y_s := (61, [some (.ref _), some (.int _), some (.int _), some (.int _), some (.int _), some (.int _)], [.int _], _)) rfl (u_ rfl) ?_
          exact wrI (pc := 61) (len_s := 1) rfl hk t_s
        · replace t_s := t_s.2 c15_s
          refine w_t (pc := 60) (e_s := (0, 1, 0, 0, 0, .int 0, [])) (y_s := (61, [some (.ref _), some (.int _), some (.int _), some (.int _), some (.int _), some (.int _)], [.int _], _)) rfl (u_ rfl) ?_
          exact wrI (pc := 61) (len_s := 1) rfl hk t_s
    · replace t_s := t_s.2 c6_s
      refine w_t (pc := 9) (e_s := (1, 1, 0, 0, 0, .null, [])) (y_s := (10, [some (.int _)], [.int _], _)) rfl (u_ rfl) ?_
      refine wrI (pc := 10) (len_s := 1) rfl hk ?_
      show wF _ 195 (40, [some (.ref _), some (.int _), some (.int _), some (.int _), some (.int _), none], [.int _], _) _
      refine w_t (pc := 40) (e_s := (4, 2, 5, 0, 0, .null, [])) (y_s := (42, [some (.ref _), some (.int _), some (.int _), some (.int _), some (.int _), some (.int _)], [], _)) rfl (u_ rfl) ?_
      refine w_t (pc := 42) (e_s := (1, 2, 4, 0, 0, .null, [])) (y_s := (44, [some (.ref _), some (.int _), some (.int _), some (.int _), some (.int _), some (.int _)], [.int _], _)) rfl (u_ rfl) ?_
      refine w_t (pc := 44) (e_s := (1, 2, 5, 0, 0, .null, [])) (y_s := (46, [some (.ref _), some (.int _), some (.int _), some (.int _), some (.int _), some (.int _)], [.int _, .int _], _)) rfl (u_ rfl) ?_
      refine wi0 (pc := 46) (len_s := 3) rfl rfl rfl (fun c16 => ?_) (fun c16 => ?_)
      · replace t_s := t_s.1 c16
        refine w_t (pc := 62) (e_s := (3, 1, 0, 0, 0, .null, [])) (y_s := (63, [some (.ref _), some (.int _), some (.int _), some (.int _), some (.int _), some (.int _)], [.ref _], _)) rfl (u_ rfl) ?_
        refine w20r (pc := 63) (len_s := 3) (q_s := 103) rfl (krq hk rfl) ?_
        refine w_t (pc := 66) (e_s := (0, 2, 0, 0, 0, .int 28, [])) (y_s := (68, [some (.ref _), some (.int _), some (.int _), some (.int _), some (.int _), some (.int _)], [.int _, .ref _], _)) rfl (u_ rfl) ?_
        refine w_t (pc := 68) (e_s := (1, 1, 2, 0, 0, .null, [])) (y_s := (69, [some (.ref _), some (.int _), some (.int _), some (.int _), some (.int _), some (.int _)], [.int _, .int _, .ref _], _)) rfl (u_ rfl) ?_
        refine w_t (pc := 69) (e_s := (7, 1, 0, 0, 0, .null, [])) (y_s := (70, [some (.ref _), some (.int _), some (.int _), some (.int _), some (.int _), some (.int _)], [.int (_ + _), .ref _], _)) rfl (u_ rfl) ?_
        refine w22 (pc := 70) (len_s := 1) rfl (hk.1 103 0 104 rfl rfl) (fun c17 => ?_)
        replace t_s := t_s c17
        refine w_t (pc := 71) (e_s := (3, 1, 0, 0, 0, .null, [])) (y_s := (72, [some (.ref _), some (.int _), some (.int _), some (.int _), some (.int _), some (.int _)], [.ref _, .int _], _)) rfl (u_ rfl) ?_
        refine w20r (pc := 72) (len_s := 3) (q_s := 103) rfl (krq hk rfl) ?_
        refine w_t (pc := 75) (e_s := (0, 2, 0, 0, 0, .int 28, [])) (y_s := (77, [some (.ref _), some (.int _), some (.int _), some (.int _), some (.int _), some (.int _)], [.int _, .ref _, .int _], _)) rfl (u_ rfl) ?_
        refine w_t (pc := 77) (e_s := (1, 1, 3, 0, 0, .null, [])) (y_s := (78, [some (.ref _), some (.int _), some (.int _), some (.int _), some (.int _), some (.int _)], [.int _, .int _, .ref _, .int _], _)) rfl (u_ rfl) ?_
        refine w_t (pc := 78) (e_s := (7, 1, 0, 0, 0, .null, [])) (y_s := (79, [some (.ref _), some (.int _), some (.int _), some (.int _), some (.int _), some (.int _)], [.int (_ + _), .ref _, .int _], _)) rfl (u_ rfl) ?_
        refine w22 (pc := 79) (len_s := 1) rfl (hk.1 103 0 104 rfl rfl) (fun c18_s => ?_)
        replace t_s := t_s c18_s
        refine wi0 (pc := 80) (len_s := 3) rfl rfl rfl (fun c19_s => ?_) (fun c19_s => ?_)
        · replace t_s := t_s.1 c19_s
          refine w_t (pc := 112) (e_s := (1, 1, 2, 0, 0, .null, [])) (y_s := (113, [some (.ref _), some (.int _), some (.int _), some (.int _), some (.int _), some (.int _)], [.int _], _)) rfl (u_ rfl) ?_
          refine w_t (pc := 113) (e_s := (1, 1, 3, 0, 0, .null, [])) (y_s := (114, [some (.ref _), some (.int _), some (.int _), some (.int _), some (.int _), some (.int _)], [.int _, .int _], _)) rfl (u_ rfl) ?_
          refine wi3 (pc := 114) (len_s := 3) rfl rfl rfl (fun c20_s => ?_) (fun c20_s => ?_)
          · replace t_s := t_s.1 c20_s
            refine w_t (pc := 117) (e_s := (0, 1, 0, 0, 0, .int 1, [])) (y_s := (118, [some (.ref _), some (.int _), some (.int _), some (.int _), some (.int _), some (.int _)], [.int _], _)) rfl (u_ rfl) ?_
            refine w_t (pc := 118) (e_s := (17, 3, 122, 0, 0, .null, [])) (y_s := (122, [some (.ref _), some (.int _), some (.int _), some (.int _), some (.int _), some (.int _)], [.int _], _)) rfl (u_ rfl) ?_
            exact wrI (pc := 122) (len_s := 1) rfl hk t_s
          · replace t_s := t_s.2 c20_s
            refine w_t (pc := 121) (e_s := (0, 1, 0, 0, 0, .int 0, [])) (y_s := (122, [some (.ref _), some (.int _), some (.int _), some (.int _), some (.int _), some (.int _)], [.int _], _)) rfl (u_ rfl) ?_
            exact wrI (pc := 122) (len_s := 1) rfl hk t_s
        · replace t_s := t_s.2 c19_s
          refine w_t (pc := 83) (e_s := (3, 1, 0, 0, 0, .null, [])) (y_s := (84, [some (.ref _), some (.int _), some (.int _), some (.int _), some (.int _), some (.int _)], [.ref _], _)) rfl (u_ rfl) ?_
          refine w20r (pc := 84) (len_s := 3) (q_s := 103) rfl (krq hk rfl) ?_
          refine w_t (pc := 87) (e_s := (0, 2, 0, 0, 0, .int 28, [])) (y_s := (89, [some (.ref _), some (.int _), some (.int _), some (.int _), some (.int _), some (.int _)], [.int _, .ref _], _)) rfl (u_ rfl) ?_
          refine w_t (pc := 89) (e_s := (1, 1, 2, 0, 0, .null, [])) (y_s := (90, [some (.ref _), some (.int _), some (.int _), some (.int _), some (.int _), some (.int _)], [.int _, .int _, .ref _], _)) rfl (u_ rfl) ?_
          refine w_t (pc := 90) (e_s := (7, 1, 0, 0, 0, .null, [])) (y_s := (91, [some (.ref _), some (.int _), some (.int _), some (.int _), some (.int _), some (.int _)], [.int (_ + _), .ref _], _)) rfl (u_ rfl) ?_
          refine w22 (pc := 91) (len_s := 1) rfl (hk.1 103 0 104 rfl rfl) (fun c21 => ?_)
          refine w_t (pc := 92) (e_s := (3, 1, 0, 0, 0, .null, [])) (y_s := (93, [some (.ref _), some (.int _), some (.int _), some (.int _), some (.int _), some (.int _)], [.ref _, .int _], _)) rfl (u_ rfl) ?_
          refine w20r (pc := 93) (len_s := 3) (q_s := 103) rfl (krq hk rfl) ?_
          refine w_t (pc := 96) (e_s := (0, 2, 0, 0, 0, .int 28, [])) (y_s := (98, [some (.ref _), some (.int _), some (.int _), some (.int _), some (.int _), some (.int _)], [.int _, .ref _, .int _], _)) rfl (u_ rfl) ?_
          refine w_t (pc := 98) (e_s := (1, 1, 3, 0, 0, .null, [])) (y_s := (99, [some (.ref _), some (.int _), some (.int _), some (.int _), some (.int _), some (.int _)], [.int _, .int _, .ref _, .int _], _)) rfl (u_ rfl) ?_
          refine w_t (pc := 99) (e_s := (7, 1, 0, 0, 0, .null, [])) (y_s := (100, [some (.ref _), some (.int _), some (.int _), some (.int _), some (.int _), some (.int _)], [.int (_ + _), .ref _, .int _], _)) rfl (u_ rfl) ?_
          refine w22 (pc := 100) (len_s := 1) rfl (hk.1 103 0 104 rfl rfl) (fun c22 => ?_)
          refine wi3 (pc := 101) (len_s := 3) rfl rfl rfl (fun c23_s => ?_) (fun c23_s => ?_)
          · replace t_s := t_s.1 c23_s
            refine w_t (pc := 104) (e_s := (0, 1, 0, 0, 0, .int 1, [])) (y_s := (105, [some (.ref _), some (.int _), some (.int _), some (.int _), some (.int _), some (.int _)], [.int _], _)) rfl (u_ rfl) ?_
            refine w_t (pc := 105) (e_s := (17, 3, 122, 0, 0, .null, [])) (y_s := (122, [some (.ref _), some (.int _), some (.int _), some (.int _), some (.int _), some (.int _)], [.int _], _)) rfl (u_ rfl) ?_
            exact wrI (pc := 122) (len_s := 1) rfl hk t_s
          · replace t_s := t_s.2 c23_s
            refine w_t (pc := 108) (e_s := (0, 1, 0, 0, 0, .int 0, [])) (y_s := (109, [some (.ref _), some (.int _), some (.int _), some (.int _), some (.int _), some (.int _)], [.int _], _)) rfl (u_ rfl) ?_
            refine w_t (pc := 109) (e_s := (17, 3, 122, 0, 0, .null, [])) (y_s := (122, [some (.ref _), some (.int _), some (.int _), some (.int _), some (.int _), some (.int _)], [.int _], _)) rfl (u_ rfl) ?_
            exact wrI (pc := 122) (len_s := 1) rfl hk t_s
      · replace t_s := t_s.2 c16
        refine w_t (pc := 49) (e_s := (1, 2, 4, 0, 0, .null, [])) (y_s := (51, [some (.ref _), some (.int _), some (.int _), some (.int _), some (.int _), some (.int _)], [.int _], _)) rfl (u_ rfl) ?_
        refine w_t (pc := 51) (e_s := (1, 2, 5, 0, 0, .null, [])) (y_s := (53, [some (.ref _), some (.int _), some (.int _), some (.int _), some (.int _), some (.int _)], [.int _, .int _], _)) rfl (u_ rfl) ?_
        refine wi3 (pc := 53) (len_s := 3) rfl rfl rfl (fun c24_s => ?_) (fun c24_s => ?_)
        · replace t_s := t_s.1 c24_s
          refine w_t (pc := 56) (e_s := (0, 1, 0, 0, 0, .int 1, [])) (y_s := (57, [some (.ref _), some (.int _), some (.int _), some (.int _), some (.int _), some (.int _)], [.int _], _)) rfl (u_ rfl) ?_
          refine w_t (pc := 57) (e_s := (17, 3, 61, 0, 0, .null, [])) (y_s := (61, [some (.ref _), some (.int _), some (.int _), some (.int _), some (.int _), some (.int _)], [.int _], _)) rfl (u_ rfl) ?_
          exact wrI (pc := 61) (len_s := 1) rfl hk t_s
        · replace t_s := t_s.2 c24_s
          refine w_t (pc := 60) (e_s := (0, 1, 0, 0, 0, .int 0, [])) (y_s := (61, [some (.ref _), some (.int _), some (.int _), some (.int _), some (.int _), some (.int _)], [.int _], _)) rfl (u_ rfl) ?_
          exact wrI (pc := 61) (len_s := 1) rfl hk t_s
  · replace t_s := t_s.2 c3_s
    refine w_t (pc := 9) (e_s := (1, 1, 0, 0, 0, .null, [])) (y_s := (10, [some (.int _)], [.int _], _)) rfl (u_ rfl) ?_
    refine wrI (pc := 10) (len_s := 1) rfl hk ?_
    show wF _ 195 (19, [some (.ref _), some (.int _), some (.int _), some (.int _), none, none], [.int _], _) _
    refine w_t (pc := 19) (e_s := (4, 2, 4, 0, 0, .null, [])) (y_s := (21, [some (.ref _), some (.int _), some (.int _), some (.int _), some (.int _), none], [], _)) rfl (u_ rfl) ?_
    refine w_t (pc := 21) (e_s := (3, 1, 0, 0, 0, .null, [])) (y_s := (22, [some (.ref _), some (.int _), some (.int _), some (.int _), some (.int _), none], [.ref _], _)) rfl (u_ rfl) ?_
    refine w20r (pc := 22) (len_s := 3) (q_s := 103) rfl (krq hk rfl) ?_
    refine w_t (pc := 25) (e_s := (0, 2, 0, 0, 0, .int 20, [])) (y_s := (27, [some (.ref _), some (.int _), some (.int _), some (.int _), some (.int _), none], [.int _, .ref _], _)) rfl (u_ rfl) ?_
    refine w_t (pc := 27) (e_s := (1, 1, 3, 0, 0, .null, [])) (y_s := (28, [some (.ref _), some (.int _), some (.int _), some (.int _), some (.int _), none], [.int _, .int _, .ref _], _)) rfl (u_ rfl) ?_
    refine w_t (pc := 28) (e_s := (7, 1, 0, 0, 0, .null, [])) (y_s := (29, [some (.ref _), some (.int _), some (.int _), some (.int _), some (.int _), none], [.int (_ + _), .ref _], _)) rfl (u_ rfl) ?_
    refine w22 (pc := 29) (len_s := 1) rfl (hk.1 103 0 104 rfl rfl) (fun c25_s => ?_)
    replace t_s := t_s c25_s
    refine w_t (pc := 30) (e_s := (3, 1, 0, 0, 0, .null, [])) (y_s := (31, [some (.ref _), some (.int _), some (.int _), some (.int _), some (.int _), none], [.ref _, .int _], _)) rfl (u_ rfl) ?_
    refine w20r (pc := 31) (len_s := 3) (q_s := 103) rfl (krq hk rfl) ?_
    refine w_t (pc := 34) (e_s := (1, 1, 1, 0, 0, .null, [])) (y_s := (35, [some (.ref _), some (.int _), some (.int _), some (.int _), some (.int _), none], [.int _, .ref _, .int _], _)) rfl (u_ rfl) ?_
    refine w22 (pc := 35) (len_s := 1) rfl (hk.1 103 0 104 rfl rfl) (fun c26 => ?_)
    refine w_t (pc := 36) (e_s := (7, 1, 0, 1, 0, .null, [])) (y_s := (37, [some (.ref _), some (.int _), some (.int _), some (.int _), some (.int _), none], [.int (_ - _)], _)) rfl (u_ rfl) ?_
    refine wcI (pc := 37) (len_s := 3) rfl rfl (l := [some (.int _)]) rfl ?_
    refine w_t (pc := 0) (e_s := (1, 1, 0, 0, 0, .null, [])) (y_s := (1, [some (.int _)], [.int _], _)) rfl (u_ rfl) ?_
    refine wq3 (pc := 1) (len_s := 3) rfl rfl (fun c27_s => ?_) (fun c27_s => ?_)
    · replace t_s := t_s.1 c27_s
      refine w_t (pc := 4) (e_s := (1, 1, 0, 0, 0, .null, [])) (y_s := (5, [some (.int _)], [.int _], _)) rfl (u_ rfl) ?_
      refine w_t (pc := 5) (e_s := (9, 1, 0, 0, 0, .null, [])) (y_s := (6, [some (.int _)], [.int (-_)], _)) rfl (u_ rfl) ?_
      refine w_t (pc := 6) (e_s := (17, 3, 10, 0, 0, .null, [])) (y_s := (10, [some (.int _)], [.int _], _)) rfl (u_ rfl) ?_
      refine wrI (pc := 10) (len_s := 1) rfl hk ?_
      show wF _ 195 (40, [some (.ref _), some (.int _), some (.int _), some (.int _), some (.int _), none], [.int _], _) _
      refine w_t (pc := 40) (e_s := (4, 2, 5, 0, 0, .null, [])) (y_s := (42, [some (.ref _), some (.int _), some (.int _), some (.int _), some (.int _), some (.int _)], [], _)) rfl (u_ rfl) ?_
      refine w_t (pc := 42) (e_s := (1, 2, 4, 0, 0, .null, [])) (y_s := (44, [some (.ref _), some (.int _), some (.int _), some (.int _), some (.int _), some (.int _)], [.int _], _)) rfl (u_ rfl) ?_
      refine w_t (pc := 44) (e_s := (1, 2, 5, 0, 0, .null, [])) (y_s := (46, [some (.ref _), some (.int _), some (.int _), some (.int _), some (.int _), some (.int _)], [.int _, .int _], _)) rfl (u_ rfl) ?_
      refine wi0 (pc := 46) (len_s := 3) rfl rfl rfl (fun c28_s => ?_) (fun c28_s => ?_)
      · replace t_s := t_s.1 c28_s
        refine w_t (pc := 62) (e_s := (3, 1, 0, 0, 0, .null, [])) (y_s := (63, [some (.ref _), some (.int _), some (.int _), some (.int _), some (.int _), some (.int _)], [.ref _], _)) rfl (u_ rfl) ?_
        refine w20r (pc := 63) (len_s := 3) (q_s := 103) rfl (krq hk rfl) ?_
        refine w_t (pc := 66) (e_s := (0, 2, 0, 0, 0, .int 28, [])) (y_s := (68, [some (.ref _), some (.int _), some (.int _), some (.int _), some (.int _), some (.int _)], [.int _, .ref _], _)) rfl (u_ rfl) ?_
        refine w_t (pc := 68) (e_s := (1, 1, 2, 0, 0, .null, [])) (y_s := (69, [some (.ref _), some (.int _), some (.int _), some (.int _), some (.int _), some (.int _)], [.int _, .int _, .ref _], _)) rfl (u_ rfl) ?_
        refine w_t (pc := 69) (e_s := (7, 1, 0, 0, 0, .null, [])) (y_s := (70, [some (.ref _), some (.int _), some (.int _), some (.int _), some (.int _), some (.int _)], [.int (_ + _), .ref _], _)) rfl (u_ rfl) ?_
        refine w22 (pc := 70) (len_s := 1) rfl (hk.1 103 0 104 rfl rfl) (fun c29_s => ?_)
        replace t_s := t_s c29_s
        refine w_t (pc := 71) (e_s := (3, 1, 0, 0, 0, .null, [])) (y_s := (72, [some (.ref _), some (.int _), some (.int _), some (.int _), some (.int _), some (.int _)], [.ref _, .int _], _)) rfl (u_ rfl) ?_
        refine w20r (pc := 72) (len_s := 3) (q_s := 103) rfl (krq hk rfl) ?_
        refine w_t (pc := 75) (e_s := (0, 2, 0, 0, 0, .int 28, [])) (y_s := (77, [some (.ref _), some (.int _), some (.int _), some (.int _), some (.int _), some (.int _)], [.int _, .ref _, .int _], _)) rfl (u_ rfl) ?_
        refine w_t (pc := 77) (e_s := (1, 1, 3, 0, 0, .null, [])) (y_s := (78, [some (.ref _), some (.int _), some (.int _), some (.int _), some (.int _), some (.int _)], [.int _, .int _, .ref _, .int _], _)) rfl (u_ rfl) ?_
        refine w_t (pc := 78) (e_s := (7, 1, 0, 0, 0, .null, [])) (y_s := (79, [some (.ref _), some (.int _), some (.int _), some (.int _), some (.int _), some (.int _)], [.int (_ + _), .ref _, .int _], _)) rfl (u_ rfl) ?_
        refine w22 (pc := 79) (len_s := 1) rfl (hk.1 103 0 104 rfl rfl) (fun c30_s => ?_)
        replace t_s := t_s c30_s
        refine wi0 (pc := 80) (len_s := 3) rfl rfl rfl (fun c31_s => ?_) (fun c31_s => ?_)
        · replace t_s := t_s.1 c31_s
          refine w_t (pc := 112) (e_s := (1, 1, 2, 0, 0, .null, [])) (y_s := (113, [some (.ref _), some (.int _), some (.int _), some (.int _), some (.int _), some (.int _)], [.int _], _)) rfl (u_ rfl) ?_
          refine w_t (pc := 113) (e_s := (1, 1, 3, 0, 0, .null, [])) (y_s := (114, [some (.ref _), some (.int _), some (.int _), some (.int _), some (.int _), some (.int _)], [.int _, .int _], _)) rfl (u_ rfl) ?_
          refine wi3 (pc := 114) (len_s := 3) rfl rfl rfl (fun c32_s => ?_) (fun c32_s => ?_)
          · replace t_s := t_s.1 c32_s
            refine w_t (pc := 117) (e_s := (0, 1, 0, 0, 0, .int 1, [])) (y_s := (118, [some (.ref _), some (.int _), some (.int _), some (.int _), some (.int _), some (.int _)], [.int _], _)) rfl (u_ rfl) ?_
            refine w_t (pc := 118) (e_s := (17, 3, 122, 0, 0, .null, [])) (y_s := (122, [some (.ref _), some (.int _), some (.int _), some (.int _), some (.int _), some (.int _)], [.int _], _)) rfl (u_ rfl) ?_
            exact wrI (pc := 122) (len_s := 1) rfl hk t_s
          · replace t_s := t_s.2 c32_s
            refine w_t (pc := 121) (e_s := (0, 1, 0, 0, 0, .int 0, [])) (y_s := (122, [some (.ref _), some (.int _), some (.int _), some (.int _), some (.int _), some (.int _)], [.int _], _)) rfl (u_ rfl) ?_
            exact wrI (pc := 122) (len_s := 1) rfl hk t_s
        · replace t_s := t_s.2 c31_s
          refine w_t (pc := 83) (e_s := (3, 1, 0, 0, 0, .null, [])) (y_s := (84, [some (.ref _), some (.int _), some (.int _), some (.int _), some (.int _), some (.int _)], [.ref _], _)) rfl (u_ rfl) ?_
          refine w20r (pc := 84) (len_s := 3) (q_s := 103) rfl (krq hk rfl) ?_
          refine w_t (pc := 87) (e_s := (0, 2, 0, 0, 0, .int 28, [])) (y_s := (89, [some (.ref _), some (.int _), some (.int _), some (.int _), some (.int _), some (.int _)], [.int _, .ref _], _)) rfl (u_ rfl) ?_
          refine w_t (pc := 89) (e_s := (1, 1, 2, 0, 0, .null, [])) (y_s := (90, [some (.ref _), some (.int _), some (.int _), some (.int _), some (.int _), some (.int _)], [.int _, .int _, .ref _], _)) rfl (u_ rfl) ?_
          refine w_t (pc := 90) (e_s := (7, 1, 0, 0, 0, .null, [])) (y_s := (91, [some (.ref _), some (.int _), some (.int _), some (.int _), some (.int _), some (.int _)], [.int (_ + _), .ref _], _)) rfl (u_ rfl) ?_
          refine w22 (pc := 91) (len_s := 1) rfl (hk.1 103 0 104 rfl rfl) (fun c33_s => ?_)
          refine w_t (pc := 92) (e_s := (3, 1, 0, 0, 0, .null, [])) (y_s := (93, [some (.ref _), some (.int _), some (.int _), some (.int _), some (.int _), some (.int _)], [.ref _, .int _], _)) rfl (u_ rfl) ?_
          refine w20r (pc := 93) (len_s := 3) (q_s := 103) rfl (krq hk rfl) ?_
          refine w_t (pc := 96) (e_s := (0, 2, 0, 0, 0, .int 28, [])) (y_s := (98, [some (.ref _), some (.int _), some (.int _), some (.int _), some (.int _), some (.int _)], [.int _, .ref _, .int _], _)) rfl (u_ rfl) ?_
          refine w_t (pc := 98) (e_s := (1, 1, 3, 0, 0, .null, [])) (y_s := (99, [some (.ref _), some (.int _), some (.int _), some (.int _), some (.int _), some (.int _)], [.int _, .int _, .ref _, .int _], _)) rfl (u_ rfl) ?_
          refine w_t (pc := 99) (e_s := (7, 1, 0, 0, 0, .null, [])) (y_s := (100, [some (.ref _), some (.int _), some (.int _), some (.int _), some (.int _), some (.int _)], [.int (_ + _), .ref _, .int _], _)) rfl (u_ rfl) ?_
          refine w22 (pc := 100) (len_s := 1) rfl (hk.1 103 0 104 rfl rfl) (fun c34_s => ?_)
          refine wi3 (pc := 101) (len_s := 3) rfl rfl rfl (fun c35_s => ?_) (fun c35_s => ?_)
          · replace t_s := t_s.1 c35_s
            refine w_t (pc := 104) (e_s := (0, 1, 0, 0, 0, .int 1, [])) (y_s := (105, [some (.ref _), some (.int _), some (.int _), some (.int _), some (.int _), some (.int _)], [.int _], _)) rfl (u_ rfl) ?_
            refine w_t (pc := 105) (e_s := (17, 3, 122, 0, 0, .null, [])) (y_s := (122, [some (.ref _), some (.int _), some (.int _), some (.int _), some (.int _), some (.int _)], [.int _], _)) rfl (u_ rfl) ?_
            exact wrI (pc := 122) (len_s := 1) rfl hk t_s
          · replace t_s := t_s.2 c35_s
            refine w_t (pc := 108) (e_s := (0, 1, 0, 0, 0, .int 0, [])) (y_s := (109, [some (.ref _), some (.int _), some (.int _), some (.int _), some (.int _), some (.int _)], [.int _], _)) rfl (u_ rfl) ?_
            refine w_t (pc := 109) (e_s := (17, 3, 122, 0, 0, .null, [])) (y_s := (122, [some (.ref _), some (.int _), some (.int _), some (.int _), some (.int _), some (.int _)], [.int _], _)) rfl (u_ rfl) ?_
            exact wrI (pc := 122) (len_s := 1) rfl hk t_s
      · replace t_s := t_s.2 c28_s
        refine w_t (pc := 49) (e_s := (1, 2, 4, 0, 0, .null, [])) (y_s := (51, [some (.ref _), some (.int _), some (.int _), some (.int _), some (.int _), some (.int _)], [.int _], _)) rfl (u_ rfl) ?_
        refine w_t (pc := 51) (e_s := (1, 2, 5, 0, 0, .null, [])) (y_s := (53, [some (.ref _), some (.int _), some (.int _), some (.int _), some (.int _), some (.int _)], [.int _, .int _], _)) rfl (u_ rfl) ?_
        refine wi3 (pc := 53) (len_s := 3) rfl rfl rfl (fun c36_s => ?_) (fun c36_s => ?_)
        · replace t_s := t_s.1 c36_s
          refine w_t (pc := 56) (e_s := (0, 1, 0, 0, 0, .int 1, [])) (y_s := (57, [some (.ref _), some (.int _), some (.int _), some (.int _), some (.int _), some (.int _)], [.int _], _)) rfl (u_ rfl) ?_
          refine w_t (pc := 57) (e_s := (17, 3, 61, 0, 0, .null, [])) (y_s := (61, [some (.ref _), some (.int _), some (.int _), some (.int _), some (.int _), some (.int _)], [.int _], _)) rfl (u_ rfl) ?_
          exact wrI (pc := 61) (len_s := 1) rfl hk t_s
        · replace t_s := t_s.2 c36_s
          refine w_t (pc := 60) (e_s := (0, 1, 0, 0, 0, .int 0, [])) (y_s := (61, [some (.ref _), some (.int _), some (.int _), some (.int _), some (.int _), some (.int _)], [.int _], _)) rfl (u_ rfl) ?_
          exact wrI (pc := 61) (len_s := 1) rfl hk t_s
    · replace t_s := t_s.2 c27_s
      refine w_t (pc := 9) (e_s := (1, 1, 0, 0, 0, .null, [])) (y_s := (10, [some (.int _)], [.int _], _)) rfl (u_ rfl) ?_
      refine wrI (pc := 10) (len_s := 1) rfl hk ?_
      show wF _ 195 (40, [some (.ref _), some (.int _), some (.int _), some (.int _), some (.int _), none], [.int _], _) _
      refine w_t (pc := 40) (e_s := (4, 2, 5, 0, 0, .null, [])) (y_s := (42, [some (.ref _), some (.int _), some (.int _), some (.int _), some (.int _), some (.int _)], [], _)) rfl (u_ rfl) ?_
      refine w_t (pc := 42) (e_s := (1, 2, 4, 0, 0, .null, [])) (y_s := (44, [some (.ref _), some (.int _), some (.int _), some (.int _), some (.int _), some (.int _)], [.int _], _)) rfl (u_ rfl) ?_
      refine w_t (pc := 44) (e_s := (1, 2, 5, 0, 0, .null, [])) (y_s := (46, [some (.ref _), some (.int _), some (.int _), some (.int _), some (.int _), some (.int _)], [.int _, .int _], _)) rfl (u_ rfl) ?_
      refine wi0 (pc := 46) (len_s := 3) rfl rfl rfl (fun c37 => ?_) (fun c37 => ?_)
      · replace t_s := t_s.1 c37
        refine w_t (pc := 62) (e_s := (3, 1, 0, 0, 0, .null, [])) (y_s := (63, [some (.ref _), some (.int _), some (.int _), some (.int _), some (.int _), some (.int _)], [.ref _], _)) rfl (u_ rfl) ?_
        refine w20r (pc := 63) (len_s := 3) (q_s := 103) rfl (krq hk rfl) ?_
        refine w_t (pc := 66) (e_s := (0, 2, 0, 0, 0, .int 28, [])) (y_s := (68, [some (.ref _), some (.int _), some (.int _), some (.int _), some (.int _), some (.int _)], [.int _, .ref _], _)) rfl (u_ rfl) ?_
        refine w_t (pc := 68) (e_s := (1, 1, 2, 0, 0, .null, [])) (y_s := (69, [some (.ref _), some (.int _), some (.int _), some (.int _), some (.int _), some (.int _)], [.int _, .int _, .ref _], _)) rfl (u_ rfl) ?_
        refine w_t (pc := 69) (e_s := (7, 1, 0, 0, 0, .null, [])) (y_s := (70, [some (.ref _), some (.int _), some (.int _), some (.int _), some (.int _), some (.int _)], [.int (_ + _), .ref _], _)) rfl (u_ rfl) ?_
        refine w22 (pc := 70) (len_s := 1) rfl (hk.1 103 0 104 rfl rfl) (fun c38 => ?_)
        replace t_s := t_s c38
        refine w_t (pc := 71) (e_s := (3, 1, 0, 0, 0, .null, [])) (y_s := (72, [some (.ref _), some (.int _), some (.int _), some (.int _), some (.int _), some (.int _)], [.ref _, .int _], _)) rfl (u_ rfl) ?_
        refine w20r (pc := 72) (len_s := 3) (q_s := 103) rfl (krq hk rfl) ?_
        refine w_t (pc := 75) (e_s := (0, 2, 0, 0, 0, .int 28, [])) (y_s := (77, [some (.ref _), some (.int _), some (.int _), some (.int _), some (.int _), some (.int _)], [.int _, .ref _, .int _], _)) rfl (u_ rfl) ?_
        refine w_t (pc := 77) (e_s := (1, 1, 3, 0, 0, .null, [])) (y_s := (78, [some (.ref _), some (.int _), some (.int _), some (.int _), some (.int _), some (.int _)], [.int _, .int _, .ref _, .int _], _)) rfl (u_ rfl) ?_
        refine w_t (pc := 78) (e_s := (7, 1, 0, 0, 0, .null, [])) (y_s := (79, [some (.ref _), some (.int _), some (.int _), some (.int _), some (.int _), some (.int _)], [.int (_ + _), .ref _, .int _], _)) rfl (u_ rfl) ?_
        refine w22 (pc := 79) (len_s := 1) rfl (hk.1 103 0 104 rfl rfl) (fun c39_s => ?_)
        replace t_s := t_s c39_s
        refine wi0 (pc := 80) (len_s := 3) rfl rfl rfl (fun c40_s => ?_) (fun c40_s => ?_)
        · replace t_s := t_s.1 c40_s
          refine w_t (pc := 112) (e_s := (1, 1, 2, 0, 0, .null, [])) (y_s := (113, [some (.ref _), some (.int _), some (.int _), some (.int _), some (.int _), some (.int _)], [.int _], _)) rfl (u_ rfl) ?_
          refine w_t (pc := 113) (e_s := (1, 1, 3, 0, 0, .null, [])) (y_s := (114, [some (.ref _), some (.int _), some (.int _), some (.int _), some (.int _), some (.int _)], [.int _, .int _], _)) rfl (u_ rfl) ?_
          refine wi3 (pc := 114) (len_s := 3) rfl rfl rfl (fun c41 => ?_) (fun c41 => ?_)
          · replace t_s := t_s.1 c41
            refine w_t (pc := 117) (e_s := (0, 1, 0, 0, 0, .int 1, [])) (y_s := (118, [some (.ref _), some (.int _), some (.int _), some (.int _), some (.int _), some (.int _)], [.int _], _)) rfl (u_ rfl) ?_
            refine w_t (pc := 118) (e_s := (17, 3, 122, 0, 0, .null, [])) (y_s := (122, [some (.ref _), some (.int _), some (.int _), some (.int _), some (.int _), some (.int _)], [.int _], _)) rfl (u_ rfl) ?_
            exact wrI (pc := 122) (len_s := 1) rfl hk t_s
          · replace t_s := t_s.2 c41
            refine w_t (pc := 121) (e_s := (0, 1, 0, 0, 0, .int 0, [])) (y_s := (122, [some (.ref _), some (.int _), some (.int _), some (.int _), some (.int _), some (.int _)], [.int _], _)) rfl (u_ rfl) ?_
            exact wrI (pc := 122) (len_s := 1) rfl hk t_s
        · replace t_s := t_s.2 c40_s
          refine w_t (pc := 83) (e_s := (3, 1, 0, 0, 0, .null, [])) (y_s := (84, [some (.ref _), some (.int _), some (.int _), some (.int _), some (.int _), some (.int _)], [.ref _], _)) rfl (u_ rfl) ?_
          refine w20r (pc := 84) (len_s := 3) (q_s := 103) rfl (krq hk rfl) ?_
          refine w_t (pc := 87) (e_s := (0, 2, 0, 0, 0, .int 28, [])) (y_s := (89, [some (.ref _), some (.int _), some (.int _), some (.int _), some (.int _), some (.int _)], [.int _, .ref _], _)) rfl (u_ rfl) ?_
          refine w_t (pc := 89) (e_s := (1, 1, 2, 0, 0, .null, [])) (y_s := (90, [some (.ref _), some (.int _), some (.int _), some (.int _), some (.int _), some (.int _)], [.int _, .int _, .ref _], _)) rfl (u_ rfl) ?_
          refine w_t (pc := 90) (e_s := (7, 1, 0, 0, 0, .null, [])) (y_s := (91, [some (.ref _), some (.int _), some (.int _), some (.int _), some (.int _), some (.int _)], [.int (_ + _), .ref _], _)) rfl (u_ rfl) ?_
          refine w22 (pc := 91) (len_s := 1) rfl (hk.1 103 0 104 rfl rfl) (fun c42 => ?_)
          refine w_t (pc := 92) (e_s := (3, 1, 0, 0, 0, .null, [])) (y_s := (93, [some (.ref _), some (.int _), some (.int _), some (.int _), some (.int _), some (.int _)], [.ref _, .int _], _)) rfl (u_ rfl) ?_
          refine w20r (pc := 93) (len_s := 3) (q_s := 103) rfl (krq hk rfl) ?_
          refine w_t (pc := 96) (e_s := (0, 2, 0, 0, 0, .int 28, [])) (y_s := (98, [some (.ref _), some (.int _), some (.int _), some (.int _), some (.int _), some (.int _)], [.int _, .ref _, .int _], _)) rfl (u_ rfl) ?_
          refine w_t (pc := 98) (e_s := (1, 1, 3, 0, 0, .null, [])) (y_s := (99, [some (.ref _), some (.int _), some (.int _), some (.int _), some (.int _), some (.int _)], [.int _, .int _, .ref _, .int _], _)) rfl (u_ rfl) ?_
          refine w_t (pc := 99) (e_s := (7, 1, 0, 0, 0, .null, [])) (y_s := (100, [some (.ref _), some (.int _), some (.int _), some (.int _), some (.int _), some (.int _)], [.int (_ + _), .ref _, .int _], _)) rfl (u_ rfl) ?_
          refine w22 (pc := 100) (len_s := 1) rfl (hk.1 103 0 104 rfl rfl) (fun c43_s => ?_)
          refine wi3 (pc := 101) (len_s := 3) rfl rfl rfl (fun c44_s => ?_) (fun c44_s => ?_)
          · replace t_s := t_s.1 c44_s
            refine w_t (pc := 104) (e_s := (0, 1, 0, 0, 0, .int 1, [])) (y_s := (105, [some (.ref _), some (.int _), some (.int _), some (.int _), some (.int _), some (.int _)], [.int _], _)) rfl (u_ rfl) ?_
            refine w_t (pc := 105) (e_s := (17, 3, 122, 0, 0, .null, [])) (y_s := (122, [some (.ref _), some (.int _), some (.int _), some (.int _), some (.int _), some (.int _)], [.int _], _)) rfl (u_ rfl) ?_
            exact wrI (pc := 122) (len_s := 1) rfl hk t_s
          · replace t_s := t_s.2 c44_s
            refine w_t (pc := 108) (e_s := (0, 1, 0, 0, 0, .int 0, [])) (y_s := (109, [some (.ref _), some (.int _), some (.int _), some (.int _), some (.int _), some (.int _)], [.int _], _)) rfl (u_ rfl) ?_
            refine w_t (pc := 109) (e_s := (17, 3, 122, 0, 0, .null, [])) (y_s := (122, [some (.ref _), some (.int _), some (.int _), some (.int _), some (.int _), some (.int _)], [.int _], _)) rfl (u_ rfl) ?_
            exact wrI (pc := 122) (len_s := 1) rfl hk t_s
      · replace t_s := t_s.2 c37
        refine w_t (pc := 49) (e_s := (1, 2, 4, 0, 0, .null, [])) (y_s := (51, [some (.ref _), some (.int _), some (.int _), some (.int _), some (.int _), some (.int _)], [.int _], _)) rfl (u_ rfl) ?_
        refine w_t (pc := 51) (e_s := (1, 2, 5, 0, 0, .null, [])) (y_s := (53, [some (.ref _), some (.int _), some (.int _), some (.int _), some (.int _), some (.int _)], [.int _, .int _], _)) rfl (u_ rfl) ?_
        refine wi3 (pc := 53) (len_s := 3) rfl rfl rfl (fun c45 => ?_) (fun c45 => ?_)
        · replace t_s := t_s.1 c45
          refine w_t (pc := 56) (e_s := (0, 1, 0, 0, 0, .int 1, [])) (y_s := (57, [some (.ref _), some (.int _), some (.int _), some (.int _), some (.int _), some (.int _)], [.int _], _)) rfl (u_ rfl) ?_
          refine w_t (pc := 57) (e_s := (17, 3, 61, 0, 0, .null, [])) (y_s := (61, [some (.ref _), some (.int _), some (.int _), some (.int _), some (.int _), some (.int _)], [.int _], _)) rfl (u_ rfl) ?_
          exact wrI (pc := 61) (len_s := 1) rfl hk t_s
        · replace t_s := t_s.2 c45
          refine w_t (pc := 60) (e_s := (0, 1, 0, 0, 0, .int 0, [])) (y_s := (61, [some (.ref _), some (.int _), some (.int _), some (.int _), some (.int _), some (.int _)], [.int _], _)) rfl (u_ rfl) ?_
          exact wrI (pc := 61) (len_s := 1) rfl hk t_s
/-- ColdShodModel.ideaRather(II)Z, from 0 on -/
theorem sg_196_0 {F_s : Nat} {x1_s : Int32} {x2_s : Int32} {h_s : zH} {K_s : Int32 → zH → Prop} (hk : hKn h_s) (t_s : (zix (6 + x1_s) < 104 → (zix (6 + x2_s) < 104 → ((h_s.2.1 103 (zix (6 + x1_s))).toInt = (h_s.2.1 103 (zix (6 + x2_s))).toInt → ((x1_s.toInt < x2_s.toInt → K_s 1 h_s) ∧ (¬ x1_s.toInt < x2_s.toInt → K_s 0 h_s))) ∧ (¬ (h_s.2.1 103 (zix (6 + x1_s))).toInt = (h_s.2.1 103 (zix (6 + x2_s))).toInt → (((h_s.2.1 103 (zix (6 + x2_s))).toInt < (h_s.2.1 103 (zix (6 + x1_s))).toInt → K_s 1 h_s) ∧ (¬ (h_s.2.1 103 (zix (6 + x2_s))).toInt < (h_s.2.1 103 (zix (6 + x1_s))).toInt → K_s 0 h_s)))))) : wF (F_s + 1) 196 (0, [some (.ref 102), some (.int x1_s), some (.int x2_s)], [], h_s) (gI K_s) := by
  refine w_0 (pc := 0) (e_s := (3, 1, 0, 0, 0, .null, [])) (y_s := (1, [some (.ref _), some (.int _), some (.int _)], [.ref _], _)) rfl (u_ rfl) ?_
  refine w20r (pc := 1) (len_s := 3) (q_s := 103) rfl (krq hk rfl) ?_
  refine w_t (pc := 4) (e_s := (0, 2, 0, 0, 0, .int 6, [])) (y_s := (6, [some (.ref _), some (.int _), some (.int _)], [.int _, .ref _], _)) rfl (u_ rfl) ?_
  refine w_t (pc := 6) (e_s := (1, 1, 1, 0, 0, .null, [])) (y_s := (7, [some (.ref _), some (.int _), some (.int _)], [.int _, .int _, .ref _], _)) rfl (u_ rfl) ?_
  refine w_t (pc := 7) (e_s := (7, 1, 0, 0, 0, .null, [])) (y_s := (8, [some (.ref _), some (.int _), some (.int _)], [.int (_ + _), .ref _], _)) rfl (u_ rfl) ?_
  refine w22 (pc := 8) (len_s := 1) rfl (hk.1 103 0 104 rfl rfl) (fun c1_s => ?_)
  replace t_s := t_s c1_s
  refine w_t (pc := 9) (e_s := (3, 1, 0, 0, 0, .null, [])) (y_s := (10, [some (.ref _), some (.int _), some (.int _)], [.ref _, .int _], _)) rfl (u_ rfl) ?_
  refine w20r (pc := 10) (len_s := 3) (q_s := 103) rfl (krq hk rfl) ?_
  refine w_t (pc := 13) (e_s := (0, 2, 0, 0, 0, .int 6, [])) (y_s := (15, [some (.ref _), some (.int _), some (.int _)], [.int _, .ref _, .int _], _)) rfl (u_ rfl) ?_
  refine w_t (pc := 15) (e_s := (1, 1, 2, 0, 0, .null, [])) (y_s := (16, [some (.ref _), some (.int _), some (.int _)], [.int _, .int _, .ref _, .int _], _)) rfl (u_ rfl) ?_
  refine w_t (pc := 16) (e_s := (7, 1, 0, 0, 0, .null, [])) (y_s := (17, [some (.ref _), some (.int _), some (.int _)], [.int (_ + _), .ref _, .int _], _)) rfl (u_ rfl) ?_
  refine w22 (pc := 17) (len_s := 1) rfl (hk.1 103 0 104 rfl rfl) (fun c2_s => ?_)
  replace t_s := t_s c2_s
  refine wi0 (pc := 18) (len_s := 3) rfl rfl rfl (fun c3_s => ?_) (fun c3_s => ?_)
  · replace t_s := t_s.1 c3_s
    refine w_t (pc := 50) (e_s := (1, 1, 1, 0, 0, .null, [])) (y_s := (51, [some (.ref _), some (.int _), some (.int _)], [.int _], _)) rfl (u_ rfl) ?_
    refine w_t (pc := 51) (e_s := (1, 1, 2, 0, 0, .null, [])) (y_s := (52, [some (.ref _), some (.int _), some (.int _)], [.int _, .int _], _)) rfl (u_ rfl) ?_
    refine wi3 (pc := 52) (len_s := 3) rfl rfl rfl (fun c4_s => ?_) (fun c4_s => ?_)
    · replace t_s := t_s.1 c4_s
      refine w_t (pc := 55) (e_s := (0, 1, 0, 0, 0, .int 1, [])) (y_s := (56, [some (.ref _), some (.int _), some (.int _)], [.int _], _)) rfl (u_ rfl) ?_
      refine w_t (pc := 56) (e_s := (17, 3, 60, 0, 0, .null, [])) (y_s := (60, [some (.ref _), some (.int _), some (.int _)], [.int _], _)) rfl (u_ rfl) ?_
      exact wrI (pc := 60) (len_s := 1) rfl hk t_s
    · replace t_s := t_s.2 c4_s
      refine w_t (pc := 59) (e_s := (0, 1, 0, 0, 0, .int 0, [])) (y_s := (60, [some (.ref _), some (.int _), some (.int _)], [.int _], _)) rfl (u_ rfl) ?_
      exact wrI (pc := 60) (len_s := 1) rfl hk t_s
  · replace t_s := t_s.2 c3_s
    refine w_t (pc := 21) (e_s := (3, 1, 0, 0, 0, .null, [])) (y_s := (22, [some (.ref _), some (.int _), some (.int _)], [.ref _], _)) rfl (u_ rfl) ?_
    refine w20r (pc := 22) (len_s := 3) (q_s := 103) rfl (krq hk rfl) ?_
    refine w_t (pc := 25) (e_s := (0, 2, 0, 0, 0, .int 6, [])) (y_s := (27, [some (.ref _), some (.int _), some (.int _)], [.int _, .ref _], _)) rfl (u_ rfl) ?_
    refine w_t (pc := 27) (e_s := (1, 1, 1, 0, 0, .null, [])) (y_s := (28, [some (.ref _), some (.int _), some (.int _)], [.int _, .int _, .ref _], _)) rfl (u_ rfl) ?_
    refine w_t (pc := 28) (e_s := (7, 1, 0, 0, 0, .null, [])) (y_s := (29, [some (.ref _), some (.int _), some (.int _)], [.int (_ + _), .ref _], _)) rfl (u_ rfl) ?_
    refine w22 (pc := 29) (len_s := 1) rfl (hk.1 103 0 104 rfl rfl) (fun c5_s => ?_)
    refine w_t (pc := 30) (e_s := (3, 1, 0, 0, 0, .null, [])) (y_s := (31, [some (.ref _), some (.int _), some (.int _)], [.ref _, .int _], _)) rfl (u_ rfl) ?_
    refine w20r (pc := 31) (len_s := 3) (q_s := 103) rfl (krq hk rfl) ?_
    refine w_t (pc := 34) (e_s := (0, 2, 0, 0, 0, .int 6, [])) (y_s := (36, [some (.ref _), some (.int _), some (.int _)], [.int _, .ref _, .int _], _)) rfl (u_ rfl) ?_
    refine w_t (pc := 36) (e_s := (1, 1, 2, 0, 0, .null, [])) (y_s := (37, [some (.ref _), some (.int _), some (.int _)], [.int _, .int _, .ref _, .int _], _)) rfl (u_ rfl) ?_
    refine w_t (pc := 37) (e_s := (7, 1, 0, 0, 0, .null, [])) (y_s := (38, [some (.ref _), some (.int _), some (.int _)], [.int (_ + _), .ref _, .int _], _)) rfl (u_ rfl) ?_
    refine w22 (pc := 38) (len_s := 1) rfl (hk.1 103 0 104 rfl rfl) (fun c6_s => ?_)
    refine wi5 (pc := 39) (len_s := 3) rfl rfl rfl (fun c7_s => ?_) (fun c7_s => ?_)
    · replace t_s := t_s.1 c7_s
      refine w_t (pc := 42) (e_s := (0, 1, 0, 0, 0, .int 1, [])) (y_s := (43, [some (.ref _), some (.int _), some (.int _)], [.int _], _)) rfl (u_ rfl) ?_
      refine w_t (pc := 43) (e_s := (17, 3, 60, 0, 0, .null, [])) (y_s := (60, [some (.ref _), some (.int _), some (.int _)], [.int _], _)) rfl (u_ rfl) ?_
      exact wrI (pc := 60) (len_s := 1) rfl hk t_s
    · replace t_s := t_s.2 c7_s
      refine w_t (pc := 46) (e_s := (0, 1, 0, 0, 0, .int 0, [])) (y_s := (47, [some (.ref _), some (.int _), some (.int _)], [.int _], _)) rfl (u_ rfl) ?_
      refine w_t (pc := 47) (e_s := (17, 3, 60, 0, 0, .null, [])) (y_s := (60, [some (.ref _), some (.int _), some (.int _)], [.int _], _)) rfl (u_ rfl) ?_
      exact wrI (pc := 60) (len_s := 1) rfl hk t_s
/-- ColdShodModel.ideaOf(I)I, from 0 on -/
theorem sg_197_0 {F_s : Nat} {x1_s : Int32} {h_s : zH} {K_s : Int32 → zH → Prop} (hk : hKn h_s) (t_s : wF F_s 197 (2, [some (.ref 102), some (.int x1_s), some (.int 0)], [], h_s) (gI K_s)) : wF (F_s + 1) 197 (0, [some (.ref 102), some (.int x1_s), none], [], h_s) (gI K_s) := by
  refine w_0 (pc := 0) (e_s := (0, 1, 0, 0, 0, .int 0, [])) (y_s := (1, [some (.ref _), some (.int _), none], [.int _], _)) rfl (u_ rfl) ?_
  refine w_t (pc := 1) (e_s := (4, 1, 2, 0, 0, .null, [])) (y_s := (2, [some (.ref _), some (.int _), some (.int _)], [], _)) rfl (u_ rfl) ?_
  exact t_s
/-- ColdShodModel.ideaOf(I)I, from 2 on -/
theorem sg_197_2 {F_s : Nat} {x1_s x2_s : Int32} {h_s : zH} {K_s : Int32 → zH → Prop} (hk : hKn h_s) (t_s : (x2_s.toInt < (h_s.2.1 102 7).toInt → (zix x2_s < 8 → ((h_s.2.1 116 (zix x2_s)).toInt = x1_s.toInt → K_s x2_s h_s) ∧ (¬ (h_s.2.1 116 (zix x2_s)).toInt = x1_s.toInt → wF F_s 197 (2, [some (.ref 102), some (.int x1_s), some (.int (x2_s + 1))], [], h_s) (gI K_s)))) ∧ (¬ x2_s.toInt < (h_s.2.1 102 7).toInt → K_s (-1) h_s)) : wF (F_s + 1) 197 (2, [some (.ref 102), some (.int x1_s), some (.int x2_s)], [], h_s) (gI K_s) := by
  refine w_0 (pc := 2) (e_s := (1, 1, 2, 0, 0, .null, [])) (y_s := (3, [some (.ref _), some (.int _), some (.int _)], [.int _], _)) rfl (u_ rfl) ?_
  refine w_t (pc := 3) (e_s := (3, 1, 0, 0, 0, .null, [])) (y_s := (4, [some (.ref _), some (.int _), some (.int _)], [.ref _, .int _], _)) rfl (u_ rfl) ?_
  refine w20 (pc := 4) (len_s := 3) rfl ?_
  refine wi3 (pc := 7) (len_s := 3) rfl rfl rfl (fun c1_s => ?_) (fun c1_s => ?_)
  · replace t_s := t_s.1 c1_s
    refine w_t (pc := 10) (e_s := (3, 1, 0, 0, 0, .null, [])) (y_s := (11, [some (.ref _), some (.int _), some (.int _)], [.ref _], _)) rfl (u_ rfl) ?_
    refine w20r (pc := 11) (len_s := 3) (q_s := 116) rfl (krq hk rfl) ?_
    refine w_t (pc := 14) (e_s := (1, 1, 2, 0, 0, .null, [])) (y_s := (15, [some (.ref _), some (.int _), some (.int _)], [.int _, .ref _], _)) rfl (u_ rfl) ?_
    refine w22 (pc := 15) (len_s := 1) rfl (hk.1 116 0 8 rfl rfl) (fun c2_s => ?_)
    replace t_s := t_s c2_s
    refine w_t (pc := 16) (e_s := (1, 1, 1, 0, 0, .null, [])) (y_s := (17, [some (.ref _), some (.int _), some (.int _)], [.int _, .int _], _)) rfl (u_ rfl) ?_
    refine wi1 (pc := 17) (len_s := 3) rfl rfl rfl (fun c3_s => ?_) (fun c3_s => ?_)
    · replace t_s := t_s.1 c3_s
      refine w_t (pc := 20) (e_s := (1, 1, 2, 0, 0, .null, [])) (y_s := (21, [some (.ref _), some (.int _), some (.int _)], [.int _], _)) rfl (u_ rfl) ?_
      exact wrI (pc := 21) (len_s := 1) rfl hk t_s
    · replace t_s := t_s.2 c3_s
      refine w_t (pc := 22) (e_s := (19, 3, 2, 0, 0, .int 1, [])) (y_s := (25, [some (.ref _), some (.int _), some (.int _)], [], _)) rfl (u_ rfl) ?_
      refine w_t (pc := 25) (e_s := (17, 3, 2, 0, 0, .null, [])) (y_s := (2, [some (.ref _), some (.int _), some (.int _)], [], _)) rfl (u_ rfl) ?_
      exact t_s
  · replace t_s := t_s.2 c1_s
    refine w_t (pc := 28) (e_s := (0, 1, 0, 0, 0, .int (-1), [])) (y_s := (29, [some (.ref _), some (.int _), some (.int _)], [.int _], _)) rfl (u_ rfl) ?_
    exact wrI (pc := 29) (len_s := 1) rfl hk t_s
/-- ColdShodModel.allAsk()V, from 0 on -/
theorem sg_198_0 {F_s : Nat}  {h_s : zH} {K_s : zH → Prop} (hk : hKn h_s) (t_s : wF F_s 198 (2, [some (.ref 102), some (.int 0), none, none, none], [], h_s) (gV K_s)) : wF (F_s + 1) 198 (0, [some (.ref 102), none, none, none, none], [], h_s) (gV K_s) := by
  refine w_0 (pc := 0) (e_s := (0, 1, 0, 0, 0, .int 0, [])) (y_s := (1, [some (.ref _), none, none, none, none], [.int _], _)) rfl (u_ rfl) ?_
  refine w_t (pc := 1) (e_s := (4, 1, 1, 0, 0, .null, [])) (y_s := (2, [some (.ref _), some (.int _), none, none, none], [], _)) rfl (u_ rfl) ?_
  exact t_s
/-- ColdShodModel.allAsk()V, from 2 on -/
theorem sg_198_2 {F_s : Nat} {x1_s : Int32} {l2 l3 l4 : Option Value} {h_s : zH} {K_s : zH → Prop} (hk : hKn h_s) (t_s : (x1_s.toInt < (h_s.2.1 102 7).toInt → (zix x1_s < 8 → wF F_s 198 (2, [some (.ref 102), some (.int (x1_s + 1)), l2, l3, l4], [], (h_s.1, zup h_s.2.1 116 (zix x1_s) (-1), h_s.2.2.1, h_s.2.2.2)) (gV K_s))) ∧ (¬ x1_s.toInt < (h_s.2.1 102 7).toInt → wF F_s 198 (25, [some (.ref 102), some (.int 0), l2, l3, l4], [], h_s) (gV K_s))) : wF (F_s + 1) 198 (2, [some (.ref 102), some (.int x1_s), l2, l3, l4], [], h_s) (gV K_s) := by
  refine w_0 (pc := 2) (e_s := (1, 1, 1, 0, 0, .null, [])) (y_s := (3, [some (.ref _), some (.int _), _, _, _], [.int _], _)) rfl (u_ rfl) ?_
  refine w_t (pc := 3) (e_s := (3, 1, 0, 0, 0, .null, [])) (y_s := (4, [some (.ref _), some (.int _), _, _, _], [.ref _, .int _], _)) rfl (u_ rfl) ?_
  refine w20 (pc := 4) (len_s := 3) rfl ?_
  refine wi3 (pc := 7) (len_s := 3) rfl rfl rfl (fun c1_s => ?_) (fun c1_s => ?_)
  · replace t_s := t_s.1 c1_s
    refine w_t (pc := 10) (e_s := (3, 1, 0, 0, 0, .null, [])) (y_s := (11, [some (.ref _), some (.int _), _, _, _], [.ref _], _)) rfl (u_ rfl) ?_
    refine w20r (pc := 11) (len_s := 3) (q_s := 116) rfl (krq hk rfl) ?_
    refine w_t (pc := 14) (e_s := (1, 1, 1, 0, 0, .null, [])) (y_s := (15, [some (.ref _), some (.int _), _, _, _], [.int _, .ref _], _)) rfl (u_ rfl) ?_
    refine w_t (pc := 15) (e_s := (0, 1, 0, 0, 0, .int (-1), [])) (y_s := (16, [some (.ref _), some (.int _), _, _, _], [.int _, .int _, .ref _], _)) rfl (u_ rfl) ?_
    refine w25 (pc := 16) (len_s := 1) rfl (hk.1 116 0 8 rfl rfl) (fun c2_s => ?_)
    replace t_s := t_s c2_s
    refine w_t (pc := 17) (e_s := (19, 3, 1, 0, 0, .int 1, [])) (y_s := (20, [some (.ref _), some (.int _), _, _, _], [], _)) rfl (u_ rfl) ?_
    refine w_t (pc := 20) (e_s := (17, 3, 2, 0, 0, .null, [])) (y_s := (2, [some (.ref _), some (.int _), _, _, _], [], _)) rfl (u_ rfl) ?_
    exact t_s
  · replace t_s := t_s.2 c1_s
    refine w_t (pc := 23) (e_s := (0, 1, 0, 0, 0, .int 0, [])) (y_s := (24, [some (.ref _), some (.int _), _, _, _], [.int _], _)) rfl (u_ rfl) ?_
    refine w_t (pc := 24) (e_s := (4, 1, 1, 0, 0, .null, [])) (y_s := (25, [some (.ref _), some (.int _), _, _, _], [], _)) rfl (u_ rfl) ?_
    exact t_s
/-- ColdShodModel.allAsk()V, from 25 on -/
theorem sg_198_25 {F_s : Nat} {x1_s : Int32} {l2 l3 l4 : Option Value} {h_s : zH} {K_s : zH → Prop} (hk : hKn h_s) (t_s : (x1_s.toInt < (h_s.2.1 102 6).toInt → (zix x1_s < 6 → wF F_s 198 (25, [some (.ref 102), some (.int (x1_s + 1)), l2, l3, l4], [], (h_s.1, zup h_s.2.1 117 (zix x1_s) 0, h_s.2.2.1, h_s.2.2.2)) (gV K_s))) ∧ (¬ x1_s.toInt < (h_s.2.1 102 6).toInt → wF F_s 198 (48, [some (.ref 102), some (.int 1), l2, l3, l4], [], h_s) (gV K_s))) : wF (F_s + 1) 198 (25, [some (.ref 102), some (.int x1_s), l2, l3, l4], [], h_s) (gV K_s) := by
  refine w_0 (pc := 25) (e_s := (1, 1, 1, 0, 0, .null, [])) (y_s := (26, [some (.ref _), some (.int _), _, _, _], [.int _], _)) rfl (u_ rfl) ?_
  refine w_t (pc := 26) (e_s := (3, 1, 0, 0, 0, .null, [])) (y_s := (27, [some (.ref _), some (.int _), _, _, _], [.ref _, .int _], _)) rfl (u_ rfl) ?_
  refine w20 (pc := 27) (len_s := 3) rfl ?_
  refine wi3 (pc := 30) (len_s := 3) rfl rfl rfl (fun c1_s => ?_) (fun c1_s => ?_)
  · replace t_s := t_s.1 c1_s
    refine w_t (pc := 33) (e_s := (3, 1, 0, 0, 0, .null, [])) (y_s := (34, [some (.ref _), some (.int _), _, _, _], [.ref _], _)) rfl (u_ rfl) ?_
    refine w20r (pc := 34) (len_s := 3) (q_s := 117) rfl (krq hk rfl) ?_
    refine w_t (pc := 37) (e_s := (1, 1, 1, 0, 0, .null, [])) (y_s := (38, [some (.ref _), some (.int _), _, _, _], [.int _, .ref _], _)) rfl (u_ rfl) ?_
    refine w_t (pc := 38) (e_s := (0, 1, 0, 0, 0, .int 0, [])) (y_s := (39, [some (.ref _), some (.int _), _, _, _], [.int _, .int _, .ref _], _)) rfl (u_ rfl) ?_
    refine w25 (pc := 39) (len_s := 1) rfl (hk.1 117 0 6 rfl rfl) (fun c2_s => ?_)
    replace t_s := t_s c2_s
    refine w_t (pc := 40) (e_s := (19, 3, 1, 0, 0, .int 1, [])) (y_s := (43, [some (.ref _), some (.int _), _, _, _], [], _)) rfl (u_ rfl) ?_
    refine w_t (pc := 43) (e_s := (17, 3, 25, 0, 0, .null, [])) (y_s := (25, [some (.ref _), some (.int _), _, _, _], [], _)) rfl (u_ rfl) ?_
    exact t_s
  · replace t_s := t_s.2 c1_s
    refine w_t (pc := 46) (e_s := (0, 1, 0, 0, 0, .int 1, [])) (y_s := (47, [some (.ref _), some (.int _), _, _, _], [.int _], _)) rfl (u_ rfl) ?_
    refine w_t (pc := 47) (e_s := (4, 1, 1, 0, 0, .null, [])) (y_s := (48, [some (.ref _), some (.int _), _, _, _], [], _)) rfl (u_ rfl) ?_
    exact t_s
/-- ColdShodModel.allAsk()V, from 48 on -/
theorem sg_198_48 {F_s : Nat} {x1_s : Int32} {l2 l3 l4 : Option Value} {h_s : zH} {K_s : zH → Prop} (hk : hKn h_s) (t_s : (x1_s.toInt = 0 → K_s h_s) ∧ (¬ x1_s.toInt = 0 → wF F_s 198 (56, [some (.ref 102), some (.int 0), some (.int 0), l3, l4], [], h_s) (gV K_s))) : wF (F_s + 1) 198 (48, [some (.ref 102), some (.int x1_s), l2, l3, l4], [], h_s) (gV K_s) := by
  refine w_0 (pc := 48) (e_s := (1, 1, 1, 0, 0, .null, [])) (y_s := (49, [some (.ref _), some (.int _), _, _, _], [.int _], _)) rfl (u_ rfl) ?_
  refine wq0 (pc := 49) (len_s := 3) rfl rfl (fun c1_s => ?_) (fun c1_s => ?_)
  · replace t_s := t_s.1 c1_s
    exact wrV (pc := 194) (len_s := 1) rfl hk t_s
  · replace t_s := t_s.2 c1_s
    refine w_t (pc := 52) (e_s := (0, 1, 0, 0, 0, .int 0, [])) (y_s := (53, [some (.ref _), some (.int _), _, _, _], [.int _], _)) rfl (u_ rfl) ?_
    refine w_t (pc := 53) (e_s := (4, 1, 1, 0, 0, .null, [])) (y_s := (54, [some (.ref _), some (.int _), _, _, _], [], _)) rfl (u_ rfl) ?_
    refine w_t (pc := 54) (e_s := (0, 1, 0, 0, 0, .int 0, [])) (y_s := (55, [some (.ref _), some (.int _), _, _, _], [.int _], _)) rfl (u_ rfl) ?_
    refine w_t (pc := 55) (e_s := (4, 1, 2, 0, 0, .null, [])) (y_s := (56, [some (.ref _), some (.int _), some (.int _), _, _], [], _)) rfl (u_ rfl) ?_
    exact t_s
/-- ColdShodModel.allAsk()V, from 56 on -/
theorem sg_198_56 {F_s : Nat} {x1_s x2_s : Int32} {l3 l4 : Option Value} {h_s : zH} {K_s : zH → Prop} (hk : hKn h_s) (t_s : (x2_s.toInt < (h_s.2.1 102 6).toInt → wF F_s 198 (69, [some (.ref 102), some (.int x1_s), some (.int x2_s), some (.int (-1)), some (.int 0)], [], h_s) (gV K_s)) ∧ (¬ x2_s.toInt < (h_s.2.1 102 6).toInt → wF F_s 198 (48, [some (.ref 102), some (.int x1_s), some (.int x2_s), l3, l4], [], h_s) (gV K_s))) : wF (F_s + 1) 198 (56, [some (.ref 102), some (.int x1_s), some (.int x2_s), l3, l4], [], h_s) (gV K_s) := by
  refine w_0 (pc := 56) (e_s := (1, 1, 2, 0, 0, .null, [])) (y_s := (57, [some (.ref _), some (.int _), some (.int _), _, _], [.int _], _)) rfl (u_ rfl) ?_
  refine w_t (pc := 57) (e_s := (3, 1, 0, 0, 0, .null, [])) (y_s := (58, [some (.ref _), some (.int _), some (.int _), _, _], [.ref _, .int _], _)) rfl (u_ rfl) ?_
  refine w20 (pc := 58) (len_s := 3) rfl ?_
  refine wi3 (pc := 61) (len_s := 3) rfl rfl rfl (fun c1_s => ?_) (fun c1_s => ?_)
  · replace t_s := t_s.1 c1_s
    refine w_t (pc := 64) (e_s := (0, 1, 0, 0, 0, .int (-1), [])) (y_s := (65, [some (.ref _), some (.int _), some (.int _), _, _], [.int _], _)) rfl (u_ rfl) ?_
    refine w_t (pc := 65) (e_s := (4, 1, 3, 0, 0, .null, [])) (y_s := (66, [some (.ref _), some (.int _), some (.int _), some (.int _), _], [], _)) rfl (u_ rfl) ?_
    refine w_t (pc := 66) (e_s := (0, 1, 0, 0, 0, .int 0, [])) (y_s := (67, [some (.ref _), some (.int _), some (.int _), some (.int _), _], [.int _], _)) rfl (u_ rfl) ?_
    refine w_t (pc := 67) (e_s := (4, 2, 4, 0, 0, .null, [])) (y_s := (69, [some (.ref _), some (.int _), some (.int _), some (.int _), some (.int _)], [], _)) rfl (u_ rfl) ?_
    exact t_s
  · replace t_s := t_s.2 c1_s
    refine w_t (pc := 191) (e_s := (17, 3, 48, 0, 0, .null, [])) (y_s := (48, [some (.ref _), some (.int _), some (.int _), _, _], [], _)) rfl (u_ rfl) ?_
    exact t_s
/-- ColdShodModel.allAsk()V, from 69 on -/
theorem sg_198_69 {F_s : Nat} {x1_s x2_s x3 x4_s : Int32} {h_s : zH} {K_s : zH → Prop} (hk : hKn h_s) (t_s : (x4_s.toInt < (h_s.2.1 102 7).toInt → (zix x2_s < 6 → ((((h_s.2.1 117 (zix x2_s)) >>> (x4_s &&& 31)) &&& 1).toInt = 1 → wF F_s 198 (69, [some (.ref 102), some (.int x1_s), some (.int x2_s), some (.int x3), some (.int (x4_s + 1))], [], h_s) (gV K_s)) ∧ (¬ (((h_s.2.1 117 (zix x2_s)) >>> (x4_s &&& 31)) &&& 1).toInt = 1 → ((x3.toInt < 0 → wF F_s 198 (69, [some (.ref 102), some (.int x1_s), some (.int x2_s), some (.int x4_s), some (.int (x4_s + 1))], [], h_s) (gV K_s)) ∧ (¬ x3.toInt < 0 → wF F_s 195 (0, [some (.ref 102), some (.int x2_s), some (.int x4_s), some (.int x3), none, none], [], h_s) (gI (fun v5 h5 => hKn h5 → (v5.toInt = 0 → wF F_s 198 (69, [some (.ref 102), some (.int x1_s), some (.int x2_s), some (.int x3), some (.int (x4_s + 1))], [], h5) (gV K_s)) ∧ (¬ v5.toInt = 0 → wF F_s 198 (69, [some (.ref 102), some (.int x1_s), some (.int x2_s), some (.int x4_s), some (.int (x4_s + 1))], [], h5) (gV K_s))))))))) ∧ (¬ x4_s.toInt < (h_s.2.1 102 7).toInt → wF F_s 198 (120, [some (.ref 102), some (.int x1_s), some (.int x2_s), some (.int x3), some (.int x4_s)], [], h_s) (gV K_s))) : wF (F_s + 1) 198 (69, [some (.ref 102), some (.int x1_s), some (.int x2_s), some (.int x3), some (.int x4_s)], [], h_s) (gV K_s) := by
  refine w_0 (pc := 69) (e_s := (1, 2, 4, 0, 0, .null, [])) (y_s := (71, [some (.ref _), some (.int _), some (.int _), some (.int _), some (.int _)], [.int _], _)) rfl (u_ rfl) ?_
  refine w_t (pc := 71) (e_s := (3, 1, 0, 0, 0, .null, [])) (y_s := (72, [some (.ref _), some (.int _), some (.int _), some (.int _), some (.int _)], [.ref _, .int _], _)) rfl (u_ rfl) ?_
  refine w20 (pc := 72) (len_s := 3) rfl ?_
  refine wi3 (pc := 75) (len_s := 3) rfl rfl rfl (fun c1_s => ?_) (fun c1_s => ?_)
  · replace t_s := t_s.1 c1_s
    refine w_t (pc := 78) (e_s := (3, 1, 0, 0, 0, .null, [])) (y_s := (79, [some (.ref _), some (.int _), some (.int _), some (.int _), some (.int _)], [.ref _], _)) rfl (u_ rfl) ?_
    refine w20r (pc := 79) (len_s := 3) (q_s := 117) rfl (krq hk rfl) ?_
    refine w_t (pc := 82) (e_s := (1, 1, 2, 0, 0, .null, [])) (y_s := (83, [some (.ref _), some (.int _), some (.int _), some (.int _), some (.int _)], [.int _, .ref _], _)) rfl (u_ rfl) ?_
    refine w22 (pc := 83) (len_s := 1) rfl (hk.1 117 0 6 rfl rfl) (fun c2_s => ?_)
    replace t_s := t_s c2_s
    refine w_t (pc := 84) (e_s := (1, 2, 4, 0, 0, .null, [])) (y_s := (86, [some (.ref _), some (.int _), some (.int _), some (.int _), some (.int _)], [.int _, .int _], _)) rfl (u_ rfl) ?_
    refine wcI (pc := 86) (len_s := 3) rfl rfl (l := [some (.int _), some (.int _)]) rfl ?_
    refine w_t (pc := 0) (e_s := (1, 1, 0, 0, 0, .null, [])) (y_s := (1, [some (.int _), some (.int _)], [.int _], _)) rfl (u_ rfl) ?_
    refine w_t (pc := 1) (e_s := (1, 1, 1, 0, 0, .null, [])) (y_s := (2, [some (.int _), some (.int _)], [.int _, .int _], _)) rfl (u_ rfl) ?_
    refine w_t (pc := 2) (e_s := (7, 1, 0, 7, 0, .null, [])) (y_s := (3, [some (.int _), some (.int _)], [.int ((_ : Int32) >>> ((_ : Int32) &&& 31))], _)) rfl (u_ rfl) ?_
    refine w_t (pc := 3) (e_s := (0, 1, 0, 0, 0, .int 1, [])) (y_s := (4, [some (.int _), some (.int _)], [.int _, .int _], _)) rfl (u_ rfl) ?_
    refine w_t (pc := 4) (e_s := (7, 1, 0, 3, 0, .null, [])) (y_s := (5, [some (.int _), some (.int _)], [.int (_ &&& _)], _)) rfl (u_ rfl) ?_
    refine w_t (pc := 5) (e_s := (0, 1, 0, 0, 0, .int 1, [])) (y_s := (6, [some (.int _), some (.int _)], [.int _, .int _], _)) rfl (u_ rfl) ?_
    refine wi1 (pc := 6) (len_s := 3) (Y := 1) rfl rfl (by decide) (fun c3_s => ?_) (fun c3_s => ?_)
    · replace t_s := t_s.1 c3_s
      refine w_t (pc := 9) (e_s := (0, 1, 0, 0, 0, .int 1, [])) (y_s := (10, [some (.int _), some (.int _)], [.int _], _)) rfl (u_ rfl) ?_
      refine w_t (pc := 10) (e_s := (17, 3, 14, 0, 0, .null, [])) (y_s := (14, [some (.int _), some (.int _)], [.int _], _)) rfl (u_ rfl) ?_
      refine wrI (pc := 14) (len_s := 1) rfl hk ?_
      show wF _ 198 (89, [some (.ref _), some (.int _), some (.int _), some (.int _), some (.int _)], [.int _], _) _
      refine w_t (pc := 89) (e_s := (15, 3, 112, 1, 0, .null, [])) (y_s := (112, [some (.ref _), some (.int _), some (.int _), some (.int _), some (.int _)], [], _)) rfl (u_ rfl) ?_
      refine w_t (pc := 112) (e_s := (1, 1, 3, 0, 0, .null, [])) (y_s := (113, [some (.ref _), some (.int _), some (.int _), some (.int _), some (.int _)], [.int _], _)) rfl (u_ rfl) ?_
      refine w_t (pc := 113) (e_s := (4, 1, 3, 0, 0, .null, [])) (y_s := (114, [some (.ref _), some (.int _), some (.int _), some (.int _), some (.int _)], [], _)) rfl (u_ rfl) ?_
      refine w_t (pc := 114) (e_s := (19, 3, 4, 0, 0, .int 1, [])) (y_s := (117, [some (.ref _), some (.int _), some (.int _), some (.int _), some (.int _)], [], _)) rfl (u_ rfl) ?_
      refine w_t (pc := 117) (e_s := (17, 3, 69, 0, 0, .null, [])) (y_s := (69, [some (.ref _), some (.int _), some (.int _), some (.int _), some (.int _)], [], _)) rfl (u_ rfl) ?_
      exact t_s
    · replace t_s := t_s.2 c3_s
      refine w_t (pc := 13) (e_s := (0, 1, 0, 0, 0, .int 0, [])) (y_s := (14, [some (.int _), some (.int _)], [.int _], _)) rfl (u_ rfl) ?_
      refine wrI (pc := 14) (len_s := 1) rfl hk ?_
      show wF _ 198 (89, [some (.ref _), some (.int _), some (.int _), some (.int _), some (.int _)], [.int _], _) _
      refine w_t (pc := 89) (e_s := (15, 3, 112, 1, 0, .null, [])) (y_s := (92, [some (.ref _), some (.int _), some (.int _), some (.int _), some (.int _)], [], _)) rfl (u_ rfl) ?_
      refine w_t (pc := 92) (e_s := (1, 1, 3, 0, 0, .null, [])) (y_s := (93, [some (.ref _), some (.int _), some (.int _), some (.int _), some (.int _)], [.int _], _)) rfl (u_ rfl) ?_
      refine wq2 (pc := 93) (len_s := 3) rfl rfl (fun c4_s => ?_) (fun c4_s => ?_)
      · replace t_s := t_s.1 c4_s
        refine w_t (pc := 107) (e_s := (1, 2, 4, 0, 0, .null, [])) (y_s := (109, [some (.ref _), some (.int _), some (.int _), some (.int _), some (.int _)], [.int _], _)) rfl (u_ rfl) ?_
        refine w_t (pc := 109) (e_s := (17, 3, 113, 0, 0, .null, [])) (y_s := (113, [some (.ref _), some (.int _), some (.int _), some (.int _), some (.int _)], [.int _], _)) rfl (u_ rfl) ?_
        refine w_t (pc := 113) (e_s := (4, 1, 3, 0, 0, .null, [])) (y_s := (114, [some (.ref _), some (.int _), some (.int _), some (.int _), some (.int _)], [], _)) rfl (u_ rfl) ?_
        refine w_t (pc := 114) (e_s := (19, 3, 4, 0, 0, .int 1, [])) (y_s := (117, [some (.ref _), some (.int _), some (.int _), some (.int _), some (.int _)], [], _)) rfl (u_ rfl) ?_
        refine w_t (pc := 117) (e_s := (17, 3, 69, 0, 0, .null, [])) (y_s := (69, [some (.ref _), some (.int _), some (.int _), some (.int _), some (.int _)], [], _)) rfl (u_ rfl) ?_
        exact t_s
      · replace t_s := t_s.2 c4_s
        refine w_t (pc := 96) (e_s := (3, 1, 0, 0, 0, .null, [])) (y_s := (97, [some (.ref _), some (.int _), some (.int _), some (.int _), some (.int _)], [.ref _], _)) rfl (u_ rfl) ?_
        refine w_t (pc := 97) (e_s := (1, 1, 2, 0, 0, .null, [])) (y_s := (98, [some (.ref _), some (.int _), some (.int _), some (.int _), some (.int _)], [.int _, .ref _], _)) rfl (u_ rfl) ?_
        refine w_t (pc := 98) (e_s := (1, 2, 4, 0, 0, .null, [])) (y_s := (100, [some (.ref _), some (.int _), some (.int _), some (.int _), some (.int _)], [.int _, .int _, .ref _], _)) rfl (u_ rfl) ?_
        refine w_t (pc := 100) (e_s := (1, 1, 3, 0, 0, .null, [])) (y_s := (101, [some (.ref _), some (.int _), some (.int _), some (.int _), some (.int _)], [.int _, .int _, .int _, .ref _], _)) rfl (u_ rfl) ?_
        refine wcI (pc := 101) (len_s := 3) rfl rfl (l := [some (.ref _), some (.int _), some (.int _), some (.int _), none, none]) rfl (wmI t_s (fun v5 h5 hk t_s => ?_))
        replace t_s := t_s hk
        refine wq0 (pc := 104) (len_s := 3) rfl rfl (fun c6_s => ?_) (fun c6_s => ?_)
        · replace t_s := t_s.1 c6_s
          refine w_t (pc := 112) (e_s := (1, 1, 3, 0, 0, .null, [])) (y_s := (113, [some (.ref _), some (.int _), some (.int _), some (.int _), some (.int _)], [.int _], _)) rfl (u_ rfl) ?_
          refine w_t (pc := 113) (e_s := (4, 1, 3, 0, 0, .null, [])) (y_s := (114, [some (.ref _), some (.int _), some (.int _), some (.int _), some (.int _)], [], _)) rfl (u_ rfl) ?_
          refine w_t (pc := 114) (e_s := (19, 3, 4, 0, 0, .int 1, [])) (y_s := (117, [some (.ref _), some (.int _), some (.int _), some (.int _), some (.int _)], [], _)) rfl (u_ rfl) ?_
          refine w_t (pc := 117) (e_s := (17, 3, 69, 0, 0, .null, [])) (y_s := (69, [some (.ref _), some (.int _), some (.int _), some (.int _), some (.int _)], [], _)) rfl (u_ rfl) ?_
          exact t_s
        · replace t_s := t_s.2 c6_s
          refine w_t (pc := 107) (e_s := (1, 2, 4, 0, 0, .null, [])) (y_s := (109, [some (.ref _), some (.int _), some (.int _), some (.int _), some (.int _)], [.int _], _)) rfl (u_ rfl) ?_
          refine w_t (pc := 109) (e_s := (17, 3, 113, 0, 0, .null, [])) (y_s := (113, [some (.ref _), some (.int _), some (.int _), some (.int _), some (.int _)], [.int _], _)) rfl (u_ rfl) ?_
          refine w_t (pc := 113) (e_s := (4, 1, 3, 0, 0, .null, [])) (y_s := (114, [some (.ref _), some (.int _), some (.int _), some (.int _), some (.int _)], [], _)) rfl (u_ rfl) ?_
          refine w_t (pc := 114) (e_s := (19, 3, 4, 0, 0, .int 1, [])) (y_s := (117, [some (.ref _), some (.int _), some (.int _), some (.int _), some (.int _)], [], _)) rfl (u_ rfl) ?_
          refine w_t (pc := 117) (e_s := (17, 3, 69, 0, 0, .null, [])) (y_s := (69, [some (.ref _), some (.int _), some (.int _), some (.int _), some (.int _)], [], _)) rfl (u_ rfl) ?_
          exact t_s
  · replace t_s := t_s.2 c1_s
    exact t_s
/-- ColdShodModel.allAsk()V, from 120 on -/
theorem sg_198_120 {F_s : Nat} {x1_s x2_s x3 x4_s : Int32} {h_s : zH} {K_s : zH → Prop} (hk : hKn h_s) (t_s : wF F_s 197 (0, [some (.ref 102), some (.int x2_s), none], [], h_s) (gI (fun v1_s h1 => hKn h1 → (v1_s.toInt < 0 → ((x3.toInt < 0 → wF F_s 198 (56, [some (.ref 102), some (.int x1_s), some (.int (x2_s + 1)), some (.int x3), some (.int x4_s)], [], h1) (gV K_s)) ∧ (¬ x3.toInt < 0 → (zix x2_s < 6 → (zix x3 < 8 → ((h1.2.1 116 (zix x3)).toInt < 0 → wF F_s 198 (56, [some (.ref 102), some (.int 1), some (.int (x2_s + 1)), some (.int x3), some (.int x4_s)], [], (h1.1, zup (zup h1.2.1 117 (zix x2_s) ((h1.2.1 117 (zix x2_s)) ||| (1 <<< (x3 &&& 31)))) 116 (zix x3) x2_s, h1.2.2.1, h1.2.2.2)) (gV K_s)) ∧ (¬ (h1.2.1 116 (zix x3)).toInt < 0 → wF F_s 196 (0, [some (.ref 102), some (.int x2_s), some (.int (h1.2.1 116 (zix x3)))], [], (h1.1, zup h1.2.1 117 (zix x2_s) ((h1.2.1 117 (zix x2_s)) ||| (1 <<< (x3 &&& 31))), h1.2.2.1, h1.2.2.2)) (gI (fun v10 h10 => hKn h10 → (v10.toInt = 0 → wF F_s 198 (56, [some (.ref 102), some (.int 1), some (.int (x2_s + 1)), some (.int x3), some (.int x4_s)], [], (h10.1, zup h10.2.1 116 (zix x3) (h10.2.1 116 (zix x3)), h10.2.2.1, h10.2.2.2)) (gV K_s)) ∧ (¬ v10.toInt = 0 → wF F_s 198 (56, [some (.ref 102), some (.int 1), some (.int (x2_s + 1)), some (.int x3), some (.int x4_s)], [], (h10.1, zup h10.2.1 116 (zix x3) x2_s, h10.2.2.1, h10.2.2.2)) (gV K_s)))))))))) ∧ (¬ v1_s.toInt < 0 → wF F_s 198 (56, [some (.ref 102), some (.int x1_s), some (.int (x2_s + 1)), some (.int x3), some (.int x4_s)], [], h1) (gV K_s))))) : wF (F_s + 1) 198 (120, [some (.ref 102), some (.int x1_s), some (.int x2_s), some (.int x3), some (.int x4_s)], [], h_s) (gV K_s) := by
  refine w_0 (pc := 120) (e_s := (3, 1, 0, 0, 0, .null, [])) (y_s := (121, [some (.ref _), some (.int _), some (.int _), some (.int _), some (.int _)], [.ref _], _)) rfl (u_ rfl) ?_
  refine w_t (pc := 121) (e_s := (1, 1, 2, 0, 0, .null, [])) (y_s := (122, [some (.ref _), some (.int _), some (.int _), some (.int _), some (.int _)], [.int _, .ref _], _)) rfl (u_ rfl) ?_
  refine wcI (pc := 122) (len_s := 3) rfl rfl (l := [some (.ref _), some (.int _), none]) rfl (wmI t_s (fun v1_s h1 hk t_s => ?_))
  replace t_s := t_s hk
  refine wq3 (pc := 125) (len_s := 3) rfl rfl (fun c2_s => ?_) (fun c2_s => ?_)
  · replace t_s := t_s.1 c2_s
    refine w_t (pc := 128) (e_s := (1, 1, 3, 0, 0, .null, [])) (y_s := (129, [some (.ref _), some (.int _), some (.int _), some (.int _), some (.int _)], [.int _], _)) rfl (u_ rfl) ?_
    refine wq2 (pc := 129) (len_s := 3) rfl rfl (fun c3_s => ?_) (fun c3_s => ?_)
    · replace t_s := t_s.1 c3_s
      refine w_t (pc := 185) (e_s := (19, 3, 2, 0, 0, .int 1, [])) (y_s := (188, [some (.ref _), some (.int _), some (.int _), some (.int _), some (.int _)], [], _)) rfl (u_ rfl) ?_
      refine w_t (pc := 188) (e_s := (17, 3, 56, 0, 0, .null, [])) (y_s := (56, [some (.ref _), some (.int _), some (.int _), some (.int _), some (.int _)], [], _)) rfl (u_ rfl) ?_
      exact t_s
    · replace t_s := t_s.2 c3_s
      refine w_t (pc := 132) (e_s := (0, 1, 0, 0, 0, .int 1, [])) (y_s := (133, [some (.ref _), some (.int _), some (.int _), some (.int _), some (.int _)], [.int _], _)) rfl (u_ rfl) ?_
      refine w_t (pc := 133) (e_s := (4, 1, 1, 0, 0, .null, [])) (y_s := (134, [some (.ref _), some (.int _), some (.int _), some (.int _), some (.int _)], [], _)) rfl (u_ rfl) ?_
      refine w_t (pc := 134) (e_s := (3, 1, 0, 0, 0, .null, [])) (y_s := (135, [some (.ref _), some (.int _), some (.int _), some (.int _), some (.int _)], [.ref _], _)) rfl (u_ rfl) ?_
      refine w20r (pc := 135) (len_s := 3) (q_s := 117) rfl (krq hk rfl) ?_
      refine w_t (pc := 138) (e_s := (1, 1, 2, 0, 0, .null, [])) (y_s := (139, [some (.ref _), some (.int _), some (.int _), some (.int _), some (.int _)], [.int _, .ref _], _)) rfl (u_ rfl) ?_
      refine w_t (pc := 139) (e_s := (41, 1, 0, 0, 0, .null, [])) (y_s := (140, [some (.ref _), some (.int _), some (.int _), some (.int _), some (.int _)], [.int _, .ref _, .int _, .ref _], _)) rfl (u_ rfl) ?_
      refine w22 (pc := 140) (len_s := 1) rfl (hk.1 117 0 6 rfl rfl) (fun c4_s => ?_)
      replace t_s := t_s c4_s
      refine w_t (pc := 141) (e_s := (0, 1, 0, 0, 0, .int 1, [])) (y_s := (142, [some (.ref _), some (.int _), some (.int _), some (.int _), some (.int _)], [.int _, .int _, .int _, .ref _], _)) rfl (u_ rfl) ?_
      refine w_t (pc := 142) (e_s := (1, 1, 3, 0, 0, .null, [])) (y_s := (143, [some (.ref _), some (.int _), some (.int _), some (.int _), some (.int _)], [.int _, .int _, .int _, .int _, .ref _], _)) rfl (u_ rfl) ?_
      refine w_t (pc := 143) (e_s := (7, 1, 0, 6, 0, .null, [])) (y_s := (144, [some (.ref _), some (.int _), some (.int _), some (.int _), some (.int _)], [.int ((_ : Int32) <<< ((_ : Int32) &&& 31)), .int _, .int _, .ref _], _)) rfl (u_ rfl) ?_
      refine w_t (pc := 144) (e_s := (7, 1, 0, 4, 0, .null, [])) (y_s := (145, [some (.ref _), some (.int _), some (.int _), some (.int _), some (.int _)], [.int (_ ||| _), .int _, .ref _], _)) rfl (u_ rfl) ?_
      refine w25 (pc := 145) (len_s := 1) rfl (hk.1 117 0 6 rfl rfl) (fun c5_s => ?_)
      refine w_t (pc := 146) (e_s := (3, 1, 0, 0, 0, .null, [])) (y_s := (147, [some (.ref _), some (.int _), some (.int _), some (.int _), some (.int _)], [.ref _], _)) rfl (u_ rfl) ?_
      refine w20r (pc := 147) (len_s := 3) (q_s := 116) rfl (krq hk rfl) ?_
      refine w_t (pc := 150) (e_s := (1, 1, 3, 0, 0, .null, [])) (y_s := (151, [some (.ref _), some (.int _), some (.int _), some (.int _), some (.int _)], [.int _, .ref _], _)) rfl (u_ rfl) ?_
      refine w_t (pc := 151) (e_s := (3, 1, 0, 0, 0, .null, [])) (y_s := (152, [some (.ref _), some (.int _), some (.int _), some (.int _), some (.int _)], [.ref _, .int _, .ref _], _)) rfl (u_ rfl) ?_
      refine w20r (pc := 152) (len_s := 3) (q_s := 116) rfl (krq hk rfl) ?_
      refine w_t (pc := 155) (e_s := (1, 1, 3, 0, 0, .null, [])) (y_s := (156, [some (.ref _), some (.int _), some (.int _), some (.int _), some (.int _)], [.int _, .ref _, .int _, .ref _], _)) rfl (u_ rfl) ?_
      refine w22 (pc := 156) (len_s := 1) rfl (hk.1 116 0 8 rfl rfl) (fun c6_s => ?_)
      replace t_s := t_s c6_s
      refine wq2 (pc := 157) (len_s := 3) rfl rfl (fun c7_s => ?_) (fun c7_s => ?_)
      · replace t_s := t_s.1 c7_s
        refine w_t (pc := 174) (e_s := (1, 1, 2, 0, 0, .null, [])) (y_s := (175, [some (.ref _), some (.int _), some (.int _), some (.int _), some (.int _)], [.int _, .int _, .ref _], _)) rfl (u_ rfl) ?_
        refine w_t (pc := 175) (e_s := (17, 3, 184, 0, 0, .null, [])) (y_s := (184, [some (.ref _), some (.int _), some (.int _), some (.int _), some (.int _)], [.int _, .int _, .ref _], _)) rfl (u_ rfl) ?_
        refine w25 (pc := 184) (len_s := 1) rfl (hk.1 116 0 8 rfl rfl) (fun c8_s => ?_)
        refine w_t (pc := 185) (e_s := (19, 3, 2, 0, 0, .int 1, [])) (y_s := (188, [some (.ref _), some (.int _), some (.int _), some (.int _), some (.int _)], [], _)) rfl (u_ rfl) ?_
        refine w_t (pc := 188) (e_s := (17, 3, 56, 0, 0, .null, [])) (y_s := (56, [some (.ref _), some (.int _), some (.int _), some (.int _), some (.int _)], [], _)) rfl (u_ rfl) ?_
        exact t_s
      · replace t_s := t_s.2 c7_s
        refine w_t (pc := 160) (e_s := (3, 1, 0, 0, 0, .null, [])) (y_s := (161, [some (.ref _), some (.int _), some (.int _), some (.int _), some (.int _)], [.ref _, .int _, .ref _], _)) rfl (u_ rfl) ?_
        refine w_t (pc := 161) (e_s := (1, 1, 2, 0, 0, .null, [])) (y_s := (162, [some (.ref _), some (.int _), some (.int _), some (.int _), some (.int _)], [.int _, .ref _, .int _, .ref _], _)) rfl (u_ rfl) ?_
        refine w_t (pc := 162) (e_s := (3, 1, 0, 0, 0, .null, [])) (y_s := (163, [some (.ref _), some (.int _), some (.int _), some (.int _), some (.int _)], [.ref _, .int _, .ref _, .int _, .ref _], _)) rfl (u_ rfl) ?_
        refine w20r (pc := 163) (len_s := 3) (q_s := 116) rfl (krq hk rfl) ?_
        refine w_t (pc := 166) (e_s := (1, 1, 3, 0, 0, .null, [])) (y_s := (167, [some (.ref _), some (.int _), some (.int _), some (.int _), some (.int _)], [.int _, .ref _, .int _, .ref _, .int _, .ref _], _)) rfl (u_ rfl) ?_
        refine w22 (pc := 167) (len_s := 1) rfl (hk.1 116 0 8 rfl rfl) (fun c9_s => ?_)
        refine wcI (pc := 168) (len_s := 3) rfl rfl (l := [some (.ref _), some (.int _), some (.int _)]) rfl (wmI t_s (fun v10 h10 hk t_s => ?_))
        replace t_s := t_s hk
        refine wq0 (pc := 171) (len_s := 3) rfl rfl (fun c11_s => ?_) (fun c11_s => ?_)
        · replace t_s := t_s.1 c11_s
          refine w_t (pc := 178) (e_s := (3, 1, 0, 0, 0, .null, [])) (y_s := (179, [some (.ref _), some (.int _), some (.int _), some (.int _), some (.int _)], [.ref _, .int _, .ref _], _)) rfl (u_ rfl) ?_
          refine w20r (pc := 179) (len_s := 3) (q_s := 116) rfl (krq hk rfl) ?_
          refine w_t (pc := 182) (e_s := (1, 1, 3, 0, 0, .null, [])) (y_s := (183, [some (.ref _), some (.int _), some (.int _), some (.int _), some (.int _)], [.int _, .ref _, .int _, .ref _], _)) rfl (u_ rfl) ?_
          refine w22 (pc := 183) (len_s := 1) rfl (hk.1 116 0 8 rfl rfl) (fun c12_s => ?_)
          refine w25 (pc := 184) (len_s := 1) rfl (hk.1 116 0 8 rfl rfl) (fun c13_s => ?_)
          refine w_t (pc := 185) (e_s := (19, 3, 2, 0, 0, .int 1, [])) (y_s := (188, [some (.ref _), some (.int _), some (.int _), some (.int _), some (.int _)], [], _)) rfl (u_ rfl) ?_
          refine w_t (pc := 188) (e_s := (17, 3, 56, 0, 0, .null, [])) (y_s := (56, [some (.ref _), some (.int _), some (.int _), some (.int _), some (.int _)], [], _)) rfl (u_ rfl) ?_
          exact t_s
        · replace t_s := t_s.2 c11_s
          refine w_t (pc := 174) (e_s := (1, 1, 2, 0, 0, .null, [])) (y_s := (175, [some (.ref _), some (.int _), some (.int _), some (.int _), some (.int _)], [.int _, .int _, .ref _], _)) rfl (u_ rfl) ?_
          refine w_t (pc := 175) (e_s := (17, 3, 184, 0, 0, .null, [])) (y_s := (184, [some (.ref _), some (.int _), some (.int _), some (.int _), some (.int _)], [.int _, .int _, .ref _], _)) rfl (u_ rfl) ?_
          refine w25 (pc := 184) (len_s := 1) rfl (hk.1 116 0 8 rfl rfl) (fun c14_s => ?_)
          refine w_t (pc := 185) (e_s := (19, 3, 2, 0, 0, .int 1, [])) (y_s := (188, [some (.ref _), some (.int _), some (.int _), some (.int _), some (.int _)], [], _)) rfl (u_ rfl) ?_
          refine w_t (pc := 188) (e_s := (17, 3, 56, 0, 0, .null, [])) (y_s := (56, [some (.ref _), some (.int _), some (.int _), some (.int _), some (.int _)], [], _)) rfl (u_ rfl) ?_
          exact t_s
  · replace t_s := t_s.2 c2_s
    refine w_t (pc := 185) (e_s := (19, 3, 2, 0, 0, .int 1, [])) (y_s := (188, [some (.ref _), some (.int _), some (.int _), some (.int _), some (.int _)], [], _)) rfl (u_ rfl) ?_
    refine w_t (pc := 188) (e_s := (17, 3, 56, 0, 0, .null, [])) (y_s := (56, [some (.ref _), some (.int _), some (.int _), some (.int _), some (.int _)], [], _)) rfl (u_ rfl) ?_
    exact t_s
/-- ColdShodModel.deal()I, from 0 on -/
theorem sg_213_0 {F_s : Nat}  {h_s : zH} {K_s : Int32 → zH → Prop} (hk : hKn h_s) (t_s : wF F_s 198 (0, [some (.ref 102), none, none, none, none], [], h_s) (gV (fun h1 => hKn h1 → wF F_s 213 (8, [some (.ref 102), some (.int 0), some (.int 0)], [], h1) (gI K_s)))) : wF (F_s + 1) 213 (0, [some (.ref 102), none, none], [], h_s) (gI K_s) := by
  refine w_0 (pc := 0) (e_s := (3, 1, 0, 0, 0, .null, [])) (y_s := (1, [some (.ref _), none, none], [.ref _], _)) rfl (u_ rfl) ?_
  refine wcV (pc := 1) (len_s := 3) rfl rfl (l := [some (.ref _), none, none, none, none]) rfl (wmV t_s (fun h1 hk t_s => ?_))
  replace t_s := t_s hk
  refine w_t (pc := 4) (e_s := (0, 1, 0, 0, 0, .int 0, [])) (y_s := (5, [some (.ref _), none, none], [.int _], _)) rfl (u_ rfl) ?_
  refine w_t (pc := 5) (e_s := (4, 1, 1, 0, 0, .null, [])) (y_s := (6, [some (.ref _), some (.int _), none], [], _)) rfl (u_ rfl) ?_
  refine w_t (pc := 6) (e_s := (0, 1, 0, 0, 0, .int 0, [])) (y_s := (7, [some (.ref _), some (.int _), none], [.int _], _)) rfl (u_ rfl) ?_
  refine w_t (pc := 7) (e_s := (4, 1, 2, 0, 0, .null, [])) (y_s := (8, [some (.ref _), some (.int _), some (.int _)], [], _)) rfl (u_ rfl) ?_
  exact t_s
/-- ColdShodModel.deal()I, from 8 on -/
theorem sg_213_8 {F_s : Nat} {x1_s x2_s : Int32} {h_s : zH} {K_s : Int32 → zH → Prop} (hk : hKn h_s) (t_s : (x2_s.toInt < (h_s.2.1 102 7).toInt → (zix x2_s < 8 → (zix (60 + x2_s) < 104 → ((h_s.2.1 116 (zix x2_s)).toInt < 0 → wF F_s 213 (8, [some (.ref 102), some (.int (x1_s + 0)), some (.int (x2_s + 1))], [], (h_s.1, zup h_s.2.1 103 (zix (60 + x2_s)) (h_s.2.1 116 (zix x2_s)), h_s.2.2.1, h_s.2.2.2)) (gI K_s)) ∧ (¬ (h_s.2.1 116 (zix x2_s)).toInt < 0 → wF F_s 213 (8, [some (.ref 102), some (.int (x1_s + 1)), some (.int (x2_s + 1))], [], (h_s.1, zup h_s.2.1 103 (zix (60 + x2_s)) (h_s.2.1 116 (zix x2_s)), h_s.2.2.1, h_s.2.2.2)) (gI K_s))))) ∧ (¬ x2_s.toInt < (h_s.2.1 102 7).toInt → K_s x1_s h_s)) : wF (F_s + 1) 213 (8, [some (.ref 102), some (.int x1_s), some (.int x2_s)], [], h_s) (gI K_s) := by
  refine w_0 (pc := 8) (e_s := (1, 1, 2, 0, 0, .null, [])) (y_s := (9, [some (.ref _), some (.int _), some (.int _)], [.int _], _)) rfl (u_ rfl) ?_
  refine w_t (pc := 9) (e_s := (3, 1, 0, 0, 0, .null, [])) (y_s := (10, [some (.ref _), some (.int _), some (.int _)], [.ref _, .int _], _)) rfl (u_ rfl) ?_
  refine w20 (pc := 10) (len_s := 3) rfl ?_
  refine wi3 (pc := 13) (len_s := 3) rfl rfl rfl (fun c1_s => ?_) (fun c1_s => ?_)
  · replace t_s := t_s.1 c1_s
    refine w_t (pc := 16) (e_s := (3, 1, 0, 0, 0, .null, [])) (y_s := (17, [some (.ref _), some (.int _), some (.int _)], [.ref _], _)) rfl (u_ rfl) ?_
    refine w20r (pc := 17) (len_s := 3) (q_s := 103) rfl (krq hk rfl) ?_
    refine w_t (pc := 20) (e_s := (0, 2, 0, 0, 0, .int 60, [])) (y_s := (22, [some (.ref _), some (.int _), some (.int _)], [.int _, .ref _], _)) rfl (u_ rfl) ?_
    refine w_t (pc := 22) (e_s := (1, 1, 2, 0, 0, .null, [])) (y_s := (23, [some (.ref _), some (.int _), some (.int _)], [.int _, .int _, .ref _], _)) rfl (u_ rfl) ?_
    refine w_t (pc := 23) (e_s := (7, 1, 0, 0, 0, .null, [])) (y_s := (24, [some (.ref _), some (.int _), some (.int _)], [.int (_ + _), .ref _], _)) rfl (u_ rfl) ?_
    refine w_t (pc := 24) (e_s := (3, 1, 0, 0, 0, .null, [])) (y_s := (25, [some (.ref _), some (.int _), some (.int _)], [.ref _, .int _, .ref _], _)) rfl (u_ rfl) ?_
    refine w20r (pc := 25) (len_s := 3) (q_s := 116) rfl (krq hk rfl) ?_
    refine w_t (pc := 28) (e_s := (1, 1, 2, 0, 0, .null, [])) (y_s := (29, [some (.ref _), some (.int _), some (.int _)], [.int _, .ref _, .int _, .ref _], _)) rfl (u_ rfl) ?_
    refine w22 (pc := 29) (len_s := 1) rfl (hk.1 116 0 8 rfl rfl) (fun c2_s => ?_)
    replace t_s := t_s c2_s
    refine w25 (pc := 30) (len_s := 1) rfl (hk.1 103 0 104 rfl rfl) (fun c3_s => ?_)
    replace t_s := t_s c3_s
    refine w_t (pc := 31) (e_s := (1, 1, 1, 0, 0, .null, [])) (y_s := (32, [some (.ref _), some (.int _), some (.int _)], [.int _], _)) rfl (u_ rfl) ?_
    refine w_t (pc := 32) (e_s := (3, 1, 0, 0, 0, .null, [])) (y_s := (33, [some (.ref _), some (.int _), some (.int _)], [.ref _, .int _], _)) rfl (u_ rfl) ?_
    refine w20r (pc := 33) (len_s := 3) (q_s := 116) rfl (krq hk rfl) ?_
    refine w_t (pc := 36) (e_s := (1, 1, 2, 0, 0, .null, [])) (y_s := (37, [some (.ref _), some (.int _), some (.int _)], [.int _, .ref _, .int _], _)) rfl (u_ rfl) ?_
    refine w22 (pc := 37) (len_s := 1) rfl (hk.1 116 0 8 rfl rfl) (fun c4_s => ?_)
    refine wq2 (pc := 38) (len_s := 3) rfl rfl (fun c5_s => ?_) (fun c5_s => ?_)
    · replace t_s := t_s.1 c5_s
      refine w_t (pc := 45) (e_s := (0, 1, 0, 0, 0, .int 0, [])) (y_s := (46, [some (.ref _), some (.int _), some (.int _)], [.int _, .int _], _)) rfl (u_ rfl) ?_
      refine w_t (pc := 46) (e_s := (7, 1, 0, 0, 0, .null, [])) (y_s := (47, [some (.ref _), some (.int _), some (.int _)], [.int (_ + _)], _)) rfl (u_ rfl) ?_
      refine w_t (pc := 47) (e_s := (4, 1, 1, 0, 0, .null, [])) (y_s := (48, [some (.ref _), some (.int _), some (.int _)], [], _)) rfl (u_ rfl) ?_
      refine w_t (pc := 48) (e_s := (19, 3, 2, 0, 0, .int 1, [])) (y_s := (51, [some (.ref _), some (.int _), some (.int _)], [], _)) rfl (u_ rfl) ?_
      refine w_t (pc := 51) (e_s := (17, 3, 8, 0, 0, .null, [])) (y_s := (8, [some (.ref _), some (.int _), some (.int _)], [], _)) rfl (u_ rfl) ?_
      exact t_s
    · replace t_s := t_s.2 c5_s
      refine w_t (pc := 41) (e_s := (0, 1, 0, 0, 0, .int 1, [])) (y_s := (42, [some (.ref _), some (.int _), some (.int _)], [.int _, .int _], _)) rfl (u_ rfl) ?_
      refine w_t (pc := 42) (e_s := (17, 3, 46, 0, 0, .null, [])) (y_s := (46, [some (.ref _), some (.int _), some (.int _)], [.int _, .int _], _)) rfl (u_ rfl) ?_
      refine w_t (pc := 46) (e_s := (7, 1, 0, 0, 0, .null, [])) (y_s := (47, [some (.ref _), some (.int _), some (.int _)], [.int (_ + _)], _)) rfl (u_ rfl) ?_
      refine w_t (pc := 47) (e_s := (4, 1, 1, 0, 0, .null, [])) (y_s := (48, [some (.ref _), some (.int _), some (.int _)], [], _)) rfl (u_ rfl) ?_
      refine w_t (pc := 48) (e_s := (19, 3, 2, 0, 0, .int 1, [])) (y_s := (51, [some (.ref _), some (.int _), some (.int _)], [], _)) rfl (u_ rfl) ?_
      refine w_t (pc := 51) (e_s := (17, 3, 8, 0, 0, .null, [])) (y_s := (8, [some (.ref _), some (.int _), some (.int _)], [], _)) rfl (u_ rfl) ?_
      exact t_s
  · replace t_s := t_s.2 c1_s
    refine w_t (pc := 54) (e_s := (1, 1, 1, 0, 0, .null, [])) (y_s := (55, [some (.ref _), some (.int _), some (.int _)], [.int _], _)) rfl (u_ rfl) ?_
    exact wrI (pc := 55) (len_s := 1) rfl hk t_s
