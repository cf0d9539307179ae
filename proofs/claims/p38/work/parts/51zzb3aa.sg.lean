/-! What ended runs give: printed by a program (wip/fun/sg.py). -/
/-- ColdShod.act(III)I, from 0 on -/
theorem sg_126_0 {F_s : Nat} {x1_s : Int32} {x2_s : Int32} {x3 : Int32} {h_s : zH} {K_s : Int32 → zH → Prop} (hk : hKn h_s) (t_s : wF F_s 5 (0, [some (.ref 47), some (.int x1_s), some (.int x2_s), some (.int x3)], [], h_s) (gI (fun v1_s h1 => hKn h1 → K_s v1_s h1))) : wF (F_s + 1) 126 (0, [some (.ref 6), some (.int x1_s), some (.int x2_s), some (.int x3)], [], h_s) (gI K_s) := by
  refine w_0 (pc := 0) (e_s := (3, 1, 0, 0, 0, .null, [])) (y_s := (1, [some (.ref _), some (.int _), some (.int _), some (.int _)], [.ref _], _)) rfl (u_ rfl) ?_
  refine w20r (pc := 1) (len_s := 3) (q_s := 47) rfl (krq hk rfl) ?_
  refine w_t (pc := 4) (e_s := (1, 1, 1, 0, 0, .null, [])) (y_s := (5, [some (.ref _), some (.int _), some (.int _), some (.int _)], [.int _, .ref _], _)) rfl (u_ rfl) ?_
  refine w_t (pc := 5) (e_s := (1, 1, 2, 0, 0, .null, [])) (y_s := (6, [some (.ref _), some (.int _), some (.int _), some (.int _)], [.int _, .int _, .ref _], _)) rfl (u_ rfl) ?_
  refine w_t (pc := 6) (e_s := (1, 1, 3, 0, 0, .null, [])) (y_s := (7, [some (.ref _), some (.int _), some (.int _), some (.int _)], [.int _, .int _, .int _, .ref _], _)) rfl (u_ rfl) ?_
  refine wcI (pc := 7) (len_s := 3) rfl rfl (l := [some (.ref _), some (.int _), some (.int _), some (.int _)]) rfl (wmI t_s (fun v1_s h1 hk t_s => ?_))
  replace t_s := t_s hk
  exact wrI (pc := 10) (len_s := 1) rfl hk t_s
/-- ColdShod$Acts.perform(III)I, from 0 on -/
theorem sg_5_0 {F_s : Nat} {x1_s x2_s x3 : Int32} {h_s : zH} {K_s : Int32 → zH → Prop} (hk : hKn h_s) (t_s : (x1_s.toInt < 0 → K_s 0 (h_s.1, zup h_s.2.1 47 2 0, h_s.2.2.1, h_s.2.2.2)) ∧ (¬ x1_s.toInt < 0 → ((x1_s.toInt < (h_s.2.1 47 1).toInt → ((x2_s.toInt < 0 → K_s 0 (h_s.1, zup h_s.2.1 47 2 0, h_s.2.2.1, h_s.2.2.2)) ∧ (¬ x2_s.toInt < 0 → ((3 < x2_s.toInt → K_s 0 (h_s.1, zup h_s.2.1 47 2 0, h_s.2.2.1, h_s.2.2.2)) ∧ (¬ 3 < x2_s.toInt → (zix x1_s < 50 → wF F_s 6 (0, [some (.ref 47), some (.int (h_s.2.1 48 (zix x1_s))), some (.int x2_s), some (.int x3), some (.int 0), none, none], [], (h_s.1, zup (zup (zup h_s.2.1 47 2 0) 47 4 x1_s) 47 5 (h_s.2.1 48 (zix x1_s)), h_s.2.2.1, h_s.2.2.2)) (gI (fun v6 h6 => hKn h6 → K_s v6 h6)))))))) ∧ (¬ x1_s.toInt < (h_s.2.1 47 1).toInt → K_s 0 (h_s.1, zup h_s.2.1 47 2 0, h_s.2.2.1, h_s.2.2.2))))) : wF (F_s + 1) 5 (0, [some (.ref 47), some (.int x1_s), some (.int x2_s), some (.int x3)], [], h_s) (gI K_s) := by
  refine w_0 (pc := 0) (e_s := (3, 1, 0, 0, 0, .null, [])) (y_s := (1, [some (.ref _), some (.int _), some (.int _), some (.int _)], [.ref _], _)) rfl (u_ rfl) ?_
  refine w_t (pc := 1) (e_s := (0, 1, 0, 0, 0, .int 0, [])) (y_s := (2, [some (.ref _), some (.int _), some (.int _), some (.int _)], [.int _, .ref _], _)) rfl (u_ rfl) ?_
  refine w21 (pc := 2) (len_s := 3) rfl ?_
  refine w_t (pc := 5) (e_s := (3, 1, 0, 0, 0, .null, [])) (y_s := (6, [some (.ref _), some (.int _), some (.int _), some (.int _)], [.ref _], _)) rfl (u_ rfl) ?_
  refine w_t (pc := 6) (e_s := (1, 1, 1, 0, 0, .null, [])) (y_s := (7, [some (.ref _), some (.int _), some (.int _), some (.int _)], [.int _, .ref _], _)) rfl (u_ rfl) ?_
  refine wcI (pc := 7) (len_s := 3) rfl rfl (l := [some (.ref _), some (.int _)]) rfl ?_
  refine w_t (pc := 0) (e_s := (1, 1, 1, 0, 0, .null, [])) (y_s := (1, [some (.ref _), some (.int _)], [.int _], _)) rfl (u_ rfl) ?_
  refine wq2 (pc := 1) (len_s := 3) rfl rfl (fun c1_s => ?_) (fun c1_s => ?_)
  · replace t_s := t_s.1 c1_s
    refine w_t (pc := 16) (e_s := (0, 1, 0, 0, 0, .int 0, [])) (y_s := (17, [some (.ref _), some (.int _)], [.int _], _)) rfl (u_ rfl) ?_
    refine wrI (pc := 17) (len_s := 1) rfl hk ?_
    show wF _ 5 (10, [some (.ref _), some (.int _), some (.int _), some (.int _)], [.int _], _) _
    refine w_t (pc := 10) (e_s := (15, 3, 22, 0, 0, .null, [])) (y_s := (22, [some (.ref _), some (.int _), some (.int _), some (.int _)], [], _)) rfl (u_ rfl) ?_
    refine w_t (pc := 22) (e_s := (0, 1, 0, 0, 0, .int 0, [])) (y_s := (23, [some (.ref _), some (.int _), some (.int _), some (.int _)], [.int _], _)) rfl (u_ rfl) ?_
    exact wrI (pc := 23) (len_s := 1) rfl hk t_s
  · replace t_s := t_s.2 c1_s
    refine w_t (pc := 4) (e_s := (1, 1, 1, 0, 0, .null, [])) (y_s := (5, [some (.ref _), some (.int _)], [.int _], _)) rfl (u_ rfl) ?_
    refine w_t (pc := 5) (e_s := (3, 1, 0, 0, 0, .null, [])) (y_s := (6, [some (.ref _), some (.int _)], [.ref _, .int _], _)) rfl (u_ rfl) ?_
    refine w20 (pc := 6) (len_s := 3) rfl ?_
    refine wi3 (pc := 9) (len_s := 3) rfl rfl rfl (fun c2_s => ?_) (fun c2_s => ?_)
    · replace t_s := t_s.1 c2_s
      refine w_t (pc := 12) (e_s := (0, 1, 0, 0, 0, .int 1, [])) (y_s := (13, [some (.ref _), some (.int _)], [.int _], _)) rfl (u_ rfl) ?_
      refine w_t (pc := 13) (e_s := (17, 3, 17, 0, 0, .null, [])) (y_s := (17, [some (.ref _), some (.int _)], [.int _], _)) rfl (u_ rfl) ?_
      refine wrI (pc := 17) (len_s := 1) rfl hk ?_
      show wF _ 5 (10, [some (.ref _), some (.int _), some (.int _), some (.int _)], [.int _], _) _
      refine w_t (pc := 10) (e_s := (15, 3, 22, 0, 0, .null, [])) (y_s := (13, [some (.ref _), some (.int _), some (.int _), some (.int _)], [], _)) rfl (u_ rfl) ?_
      refine w_t (pc := 13) (e_s := (1, 1, 2, 0, 0, .null, [])) (y_s := (14, [some (.ref _), some (.int _), some (.int _), some (.int _)], [.int _], _)) rfl (u_ rfl) ?_
      refine wq2 (pc := 14) (len_s := 3) rfl rfl (fun c3_s => ?_) (fun c3_s => ?_)
      · replace t_s := t_s.1 c3_s
        refine w_t (pc := 22) (e_s := (0, 1, 0, 0, 0, .int 0, [])) (y_s := (23, [some (.ref _), some (.int _), some (.int _), some (.int _)], [.int _], _)) rfl (u_ rfl) ?_
        exact wrI (pc := 23) (len_s := 1) rfl hk t_s
      · replace t_s := t_s.2 c3_s
        refine w_t (pc := 17) (e_s := (1, 1, 2, 0, 0, .null, [])) (y_s := (18, [some (.ref _), some (.int _), some (.int _), some (.int _)], [.int _], _)) rfl (u_ rfl) ?_
        refine w_t (pc := 18) (e_s := (0, 1, 0, 0, 0, .int 3, [])) (y_s := (19, [some (.ref _), some (.int _), some (.int _), some (.int _)], [.int _, .int _], _)) rfl (u_ rfl) ?_
        refine wi5 (pc := 19) (len_s := 3) (Y := 3) rfl rfl (by decide) (fun c4_s => ?_) (fun c4_s => ?_)
        · replace t_s := t_s.1 c4_s
          refine w_t (pc := 22) (e_s := (0, 1, 0, 0, 0, .int 0, [])) (y_s := (23, [some (.ref _), some (.int _), some (.int _), some (.int _)], [.int _], _)) rfl (u_ rfl) ?_
          exact wrI (pc := 23) (len_s := 1) rfl hk t_s
        · replace t_s := t_s.2 c4_s
          refine w_t (pc := 24) (e_s := (3, 1, 0, 0, 0, .null, [])) (y_s := (25, [some (.ref _), some (.int _), some (.int _), some (.int _)], [.ref _], _)) rfl (u_ rfl) ?_
          refine w_t (pc := 25) (e_s := (1, 1, 1, 0, 0, .null, [])) (y_s := (26, [some (.ref _), some (.int _), some (.int _), some (.int _)], [.int _, .ref _], _)) rfl (u_ rfl) ?_
          refine w21 (pc := 26) (len_s := 3) rfl ?_
          refine w_t (pc := 29) (e_s := (3, 1, 0, 0, 0, .null, [])) (y_s := (30, [some (.ref _), some (.int _), some (.int _), some (.int _)], [.ref _], _)) rfl (u_ rfl) ?_
          refine w_t (pc := 30) (e_s := (3, 1, 0, 0, 0, .null, [])) (y_s := (31, [some (.ref _), some (.int _), some (.int _), some (.int _)], [.ref _, .ref _], _)) rfl (u_ rfl) ?_
          refine w20r (pc := 31) (len_s := 3) (q_s := 48) rfl (krq hk rfl) ?_
          refine w_t (pc := 34) (e_s := (1, 1, 1, 0, 0, .null, [])) (y_s := (35, [some (.ref _), some (.int _), some (.int _), some (.int _)], [.int _, .ref _, .ref _], _)) rfl (u_ rfl) ?_
          refine w22 (pc := 35) (len_s := 1) rfl (hk.1 48 0 50 rfl rfl) (fun c5_s => ?_)
          replace t_s := t_s c5_s
          refine w21 (pc := 36) (len_s := 3) rfl ?_
          refine w_t (pc := 39) (e_s := (3, 1, 0, 0, 0, .null, [])) (y_s := (40, [some (.ref _), some (.int _), some (.int _), some (.int _)], [.ref _], _)) rfl (u_ rfl) ?_
          refine w_t (pc := 40) (e_s := (3, 1, 0, 0, 0, .null, [])) (y_s := (41, [some (.ref _), some (.int _), some (.int _), some (.int _)], [.ref _, .ref _], _)) rfl (u_ rfl) ?_
          refine w20 (pc := 41) (len_s := 3) rfl ?_
          refine w_t (pc := 44) (e_s := (1, 1, 2, 0, 0, .null, [])) (y_s := (45, [some (.ref _), some (.int _), some (.int _), some (.int _)], [.int _, .int _, .ref _], _)) rfl (u_ rfl) ?_
          refine w_t (pc := 45) (e_s := (1, 1, 3, 0, 0, .null, [])) (y_s := (46, [some (.ref _), some (.int _), some (.int _), some (.int _)], [.int _, .int _, .int _, .ref _], _)) rfl (u_ rfl) ?_
          refine w_t (pc := 46) (e_s := (0, 1, 0, 0, 0, .int 0, [])) (y_s := (47, [some (.ref _), some (.int _), some (.int _), some (.int _)], [.int _, .int _, .int _, .int _, .ref _], _)) rfl (u_ rfl) ?_
          refine wcI (pc := 47) (len_s := 3) rfl rfl (l := [some (.ref _), some (.int _), some (.int _), some (.int _), some (.int _), none, none]) rfl (wmI t_s (fun v6 h6 hk t_s => ?_))
          replace t_s := t_s hk
          exact wrI (pc := 50) (len_s := 1) rfl hk t_s
    · replace t_s := t_s.2 c2_s
      refine w_t (pc := 16) (e_s := (0, 1, 0, 0, 0, .int 0, [])) (y_s := (17, [some (.ref _), some (.int _)], [.int _], _)) rfl (u_ rfl) ?_
      refine wrI (pc := 17) (len_s := 1) rfl hk ?_
      show wF _ 5 (10, [some (.ref _), some (.int _), some (.int _), some (.int _)], [.int _], _) _
      refine w_t (pc := 10) (e_s := (15, 3, 22, 0, 0, .null, [])) (y_s := (22, [some (.ref _), some (.int _), some (.int _), some (.int _)], [], _)) rfl (u_ rfl) ?_
      refine w_t (pc := 22) (e_s := (0, 1, 0, 0, 0, .int 0, [])) (y_s := (23, [some (.ref _), some (.int _), some (.int _), some (.int _)], [.int _], _)) rfl (u_ rfl) ?_
      exact wrI (pc := 23) (len_s := 1) rfl hk t_s
/-- ColdShod$Acts.run(IIII)I, from 0 on -/
theorem sg_6_0 {F_s : Nat} {x1_s x2_s x3 x4_s : Int32} {h_s : zH} {K_s : Int32 → zH → Prop} (hk : hKn h_s) (t_s : wF F_s 6 (6, [some (.ref 47), some (.int x1_s), some (.int x2_s), some (.int x3), some (.int x4_s), some (.int x1_s), some (.int 0)], [], h_s) (gI K_s)) : wF (F_s + 1) 6 (0, [some (.ref 47), some (.int x1_s), some (.int x2_s), some (.int x3), some (.int x4_s), none, none], [], h_s) (gI K_s) := by
  refine w_0 (pc := 0) (e_s := (1, 1, 1, 0, 0, .null, [])) (y_s := (1, [some (.ref _), some (.int _), some (.int _), some (.int _), some (.int _), none, none], [.int _], _)) rfl (u_ rfl) ?_
  refine w_t (pc := 1) (e_s := (4, 2, 5, 0, 0, .null, [])) (y_s := (3, [some (.ref _), some (.int _), some (.int _), some (.int _), some (.int _), some (.int _), none], [], _)) rfl (u_ rfl) ?_
  refine w_t (pc := 3) (e_s := (0, 1, 0, 0, 0, .int 0, [])) (y_s := (4, [some (.ref _), some (.int _), some (.int _), some (.int _), some (.int _), some (.int _), none], [.int _], _)) rfl (u_ rfl) ?_
  refine w_t (pc := 4) (e_s := (4, 2, 6, 0, 0, .null, [])) (y_s := (6, [some (.ref _), some (.int _), some (.int _), some (.int _), some (.int _), some (.int _), some (.int _)], [], _)) rfl (u_ rfl) ?_
  exact t_s
/-- ColdShod$Acts.run(IIII)I, from 6 on -/
theorem sg_6_6 {F_s : Nat} {x1_s x2_s x3 x4_s x5_s x6 : Int32} {h_s : zH} {K_s : Int32 → zH → Prop} (hk : hKn h_s) (t_s : (x6.toInt < 8 → ((0 < x5_s.toInt → (zix ((x5_s * 4) + x2_s) < 32 → ((h_s.2.1 5 (zix ((x5_s * 4) + x2_s))).toInt = 0 → (zix x5_s < 8 → wF F_s 6 (6, [some (.ref 47), some (.int x1_s), some (.int x2_s), some (.int x3), some (.int x4_s), some (.int (h_s.2.1 4 (zix x5_s))), some (.int (x6 + 1))], [], h_s) (gI K_s))) ∧ (¬ (h_s.2.1 5 (zix ((x5_s * 4) + x2_s))).toInt = 0 → ((x5_s.toInt < 0 → K_s 0 h_s) ∧ (¬ x5_s.toInt < 0 → ((30 < x4_s.toInt → K_s 0 h_s) ∧ (¬ 30 < x4_s.toInt → (((h_s.2.1 47 2).toInt < 24 → (zix (h_s.2.1 47 2) < 24 → (zix x5_s < 8 → wF F_s 7 (0, [some (.ref 47), some (.int (h_s.2.1 5 (zix ((x5_s * 4) + x2_s)))), some (.int (h_s.2.1 4 (zix x5_s))), some (.int x3), some (.int (x4_s + 1))], [], (h_s.1, zup (zup h_s.2.1 49 (zix (h_s.2.1 47 2)) (h_s.2.1 5 (zix ((x5_s * 4) + x2_s)))) 47 2 ((h_s.2.1 47 2) + 1), h_s.2.2.1, h_s.2.2.2)) (gI (fun v12 h12 => hKn h12 → K_s v12 h12))))) ∧ (¬ (h_s.2.1 47 2).toInt < 24 → (zix x5_s < 8 → wF F_s 7 (0, [some (.ref 47), some (.int (h_s.2.1 5 (zix ((x5_s * 4) + x2_s)))), some (.int (h_s.2.1 4 (zix x5_s))), some (.int x3), some (.int (x4_s + 1))], [], (h_s.1, zup h_s.2.1 47 2 ((h_s.2.1 47 2) + 1), h_s.2.2.1, h_s.2.2.2)) (gI (fun v14 h14 => hKn h14 → K_s v14 h14)))))))))))) ∧ (¬ 0 < x5_s.toInt → ((x5_s.toInt < 0 → K_s 0 h_s) ∧ (¬ x5_s.toInt < 0 → ((30 < x4_s.toInt → K_s 0 h_s) ∧ (¬ 30 < x4_s.toInt → (zix ((x5_s * 4) + x2_s) < 32 → ((h_s.2.1 47 2).toInt < 24 → (zix (h_s.2.1 47 2) < 24 → (zix x5_s < 8 → wF F_s 7 (0, [some (.ref 47), some (.int (h_s.2.1 5 (zix ((x5_s * 4) + x2_s)))), some (.int (h_s.2.1 4 (zix x5_s))), some (.int x3), some (.int (x4_s + 1))], [], (h_s.1, zup (zup h_s.2.1 49 (zix (h_s.2.1 47 2)) (h_s.2.1 5 (zix ((x5_s * 4) + x2_s)))) 47 2 ((h_s.2.1 47 2) + 1), h_s.2.2.1, h_s.2.2.2)) (gI (fun v21 h21 => hKn h21 → K_s v21 h21))))) ∧ (¬ (h_s.2.1 47 2).toInt < 24 → (zix x5_s < 8 → wF F_s 7 (0, [some (.ref 47), some (.int (h_s.2.1 5 (zix ((x5_s * 4) + x2_s)))), some (.int (h_s.2.1 4 (zix x5_s))), some (.int x3), some (.int (x4_s + 1))], [], (h_s.1, zup h_s.2.1 47 2 ((h_s.2.1 47 2) + 1), h_s.2.2.1, h_s.2.2.2)) (gI (fun v23 h23 => hKn h23 → K_s v23 h23)))))))))))) ∧ (¬ x6.toInt < 8 → ((x5_s.toInt < 0 → K_s 0 h_s) ∧ (¬ x5_s.toInt < 0 → ((30 < x4_s.toInt → K_s 0 h_s) ∧ (¬ 30 < x4_s.toInt → (zix ((x5_s * 4) + x2_s) < 32 → ((h_s.2.1 47 2).toInt < 24 → (zix (h_s.2.1 47 2) < 24 → (zix x5_s < 8 → wF F_s 7 (0, [some (.ref 47), some (.int (h_s.2.1 5 (zix ((x5_s * 4) + x2_s)))), some (.int (h_s.2.1 4 (zix x5_s))), some (.int x3), some (.int (x4_s + 1))], [], (h_s.1, zup (zup h_s.2.1 49 (zix (h_s.2.1 47 2)) (h_s.2.1 5 (zix ((x5_s * 4) + x2_s)))) 47 2 ((h_s.2.1 47 2) + 1), h_s.2.2.1, h_s.2.2.2)) (gI (fun v30 h30 => hKn h30 → K_s v30 h30))))) ∧ (¬ (h_s.2.1 47 2).toInt < 24 → (zix x5_s < 8 → wF F_s 7 (0, [some (.ref 47), some (.int (h_s.2.1 5 (zix ((x5_s * 4) + x2_s)))), some (.int (h_s.2.1 4 (zix x5_s))), some (.int x3), some (.int (x4_s + 1))], [], (h_s.1, zup h_s.2.1 47 2 ((h_s.2.1 47 2) + 1), h_s.2.2.1, h_s.2.2.2)) (gI (fun v32 h32 => hKn h32 → K_s v32 h32))))))))))) : wF (F_s + 1) 6 (6, [some (.ref 47), some (.int x1_s), some (.int x2_s), some (.int x3), some (.int x4_s), some (.int x5_s), some (.int x6)], [], h_s) (gI K_s) := by
  refine w_0 (pc := 6) (e_s := (1, 2, 6, 0, 0, .null, [])) (y_s := (8, [some (.ref _), some (.int _), some (.int _), some (.int _), some (.int _), some (.int _), some (.int _)], [.int _], _)) rfl (u_ rfl) ?_
  refine w_t (pc := 8) (e_s := (0, 2, 0, 0, 0, .int 8, [])) (y_s := (10, [some (.ref _), some (.int _), some (.int _), some (.int _), some (.int _), some (.int _), some (.int _)], [.int _, .int _], _)) rfl (u_ rfl) ?_
  refine wi3 (pc := 10) (len_s := 3) (Y := 8) rfl rfl (by decide) (fun c1_s => ?_) (fun c1_s => ?_)
  · replace t_s := t_s.1 c1_s
    refine w_t (pc := 13) (e_s := (1, 2, 5, 0, 0, .null, [])) (y_s := (15, [some (.ref _), some (.int _), some (.int _), some (.int _), some (.int _), some (.int _), some (.int _)], [.int _], _)) rfl (u_ rfl) ?_
    refine wq5 (pc := 15) (len_s := 3) rfl rfl (fun c2_s => ?_) (fun c2_s => ?_)
    · replace t_s := t_s.1 c2_s
      refine w_t (pc := 18) (e_s := (43, 3, 5, 0, 0, .null, [(0, 729)])) (y_s := (21, [some (.ref _), some (.int _), some (.int _), some (.int _), some (.int _), some (.int _), some (.int _)], [.ref _], _)) rfl (u_ rfl) ?_
      refine w_t (pc := 21) (e_s := (1, 2, 5, 0, 0, .null, [])) (y_s := (23, [some (.ref _), some (.int _), some (.int _), some (.int _), some (.int _), some (.int _), some (.int _)], [.int _, .ref _], _)) rfl (u_ rfl) ?_
      refine w_t (pc := 23) (e_s := (0, 1, 0, 0, 0, .int 4, [])) (y_s := (24, [some (.ref _), some (.int _), some (.int _), some (.int _), some (.int _), some (.int _), some (.int _)], [.int _, .int _, .ref _], _)) rfl (u_ rfl) ?_
      refine w_t (pc := 24) (e_s := (7, 1, 0, 2, 0, .null, [])) (y_s := (25, [some (.ref _), some (.int _), some (.int _), some (.int _), some (.int _), some (.int _), some (.int _)], [.int (_ * _), .ref _], _)) rfl (u_ rfl) ?_
      refine w_t (pc := 25) (e_s := (1, 1, 2, 0, 0, .null, [])) (y_s := (26, [some (.ref _), some (.int _), some (.int _), some (.int _), some (.int _), some (.int _), some (.int _)], [.int _, .int _, .ref _], _)) rfl (u_ rfl) ?_
      refine w_t (pc := 26) (e_s := (7, 1, 0, 0, 0, .null, [])) (y_s := (27, [some (.ref _), some (.int _), some (.int _), some (.int _), some (.int _), some (.int _), some (.int _)], [.int (_ + _), .ref _], _)) rfl (u_ rfl) ?_
      refine w22 (pc := 27) (len_s := 1) rfl (hk.1 5 5 32 rfl rfl) (fun c3_s => ?_)
      replace t_s := t_s c3_s
      refine wq1 (pc := 28) (len_s := 3) rfl rfl (fun c4_s => ?_) (fun c4_s => ?_)
      · replace t_s := t_s.1 c4_s
        refine w_t (pc := 31) (e_s := (43, 3, 4, 0, 0, .null, [(0, 723)])) (y_s := (34, [some (.ref _), some (.int _), some (.int _), some (.int _), some (.int _), some (.int _), some (.int _)], [.ref _], _)) rfl (u_ rfl) ?_
        refine w_t (pc := 34) (e_s := (1, 2, 5, 0, 0, .null, [])) (y_s := (36, [some (.ref _), some (.int _), some (.int _), some (.int _), some (.int _), some (.int _), some (.int _)], [.int _, .ref _], _)) rfl (u_ rfl) ?_
        refine w22 (pc := 36) (len_s := 1) rfl (hk.1 4 5 8 rfl rfl) (fun c5_s => ?_)
        replace t_s := t_s c5_s
        refine w_t (pc := 37) (e_s := (4, 2, 5, 0, 0, .null, [])) (y_s := (39, [some (.ref _), some (.int _), some (.int _), some (.int _), some (.int _), some (.int _), some (.int _)], [], _)) rfl (u_ rfl) ?_
        refine w_t (pc := 39) (e_s := (19, 3, 6, 0, 0, .int 1, [])) (y_s := (42, [some (.ref _), some (.int _), some (.int _), some (.int _), some (.int _), some (.int _), some (.int _)], [], _)) rfl (u_ rfl) ?_
        refine w_t (pc := 42) (e_s := (17, 3, 6, 0, 0, .null, [])) (y_s := (6, [some (.ref _), some (.int _), some (.int _), some (.int _), some (.int _), some (.int _), some (.int _)], [], _)) rfl (u_ rfl) ?_
        exact t_s
      · replace t_s := t_s.2 c4_s
        refine w_t (pc := 45) (e_s := (1, 2, 5, 0, 0, .null, [])) (y_s := (47, [some (.ref _), some (.int _), some (.int _), some (.int _), some (.int _), some (.int _), some (.int _)], [.int _], _)) rfl (u_ rfl) ?_
        refine wq2 (pc := 47) (len_s := 3) rfl rfl (fun c6_s => ?_) (fun c6_s => ?_)
        · replace t_s := t_s.1 c6_s
          refine w_t (pc := 57) (e_s := (0, 1, 0, 0, 0, .int 0, [])) (y_s := (58, [some (.ref _), some (.int _), some (.int _), some (.int _), some (.int _), some (.int _), some (.int _)], [.int _], _)) rfl (u_ rfl) ?_
          exact wrI (pc := 58) (len_s := 1) rfl hk t_s
        · replace t_s := t_s.2 c6_s
          refine w_t (pc := 50) (e_s := (1, 2, 4, 0, 0, .null, [])) (y_s := (52, [some (.ref _), some (.int _), some (.int _), some (.int _), some (.int _), some (.int _), some (.int _)], [.int _], _)) rfl (u_ rfl) ?_
          refine w_t (pc := 52) (e_s := (0, 2, 0, 0, 0, .int 30, [])) (y_s := (54, [some (.ref _), some (.int _), some (.int _), some (.int _), some (.int _), some (.int _), some (.int _)], [.int _, .int _], _)) rfl (u_ rfl) ?_
          refine wi5 (pc := 54) (len_s := 3) (Y := 30) rfl rfl (by decide) (fun c7_s => ?_) (fun c7_s => ?_)
          · replace t_s := t_s.1 c7_s
            refine w_t (pc := 57) (e_s := (0, 1, 0, 0, 0, .int 0, [])) (y_s := (58, [some (.ref _), some (.int _), some (.int _), some (.int _), some (.int _), some (.int _), some (.int _)], [.int _], _)) rfl (u_ rfl) ?_
            exact wrI (pc := 58) (len_s := 1) rfl hk t_s
          · replace t_s := t_s.2 c7_s
            refine w_t (pc := 59) (e_s := (43, 3, 5, 0, 0, .null, [(0, 729)])) (y_s := (62, [some (.ref _), some (.int _), some (.int _), some (.int _), some (.int _), some (.int _), some (.int _)], [.ref _], _)) rfl (u_ rfl) ?_
            refine w_t (pc := 62) (e_s := (1, 2, 5, 0, 0, .null, [])) (y_s := (64, [some (.ref _), some (.int _), some (.int _), some (.int _), some (.int _), some (.int _), some (.int _)], [.int _, .ref _], _)) rfl (u_ rfl) ?_
            refine w_t (pc := 64) (e_s := (0, 1, 0, 0, 0, .int 4, [])) (y_s := (65, [some (.ref _), some (.int _), some (.int _), some (.int _), some (.int _), some (.int _), some (.int _)], [.int _, .int _, .ref _], _)) rfl (u_ rfl) ?_
            refine w_t (pc := 65) (e_s := (7, 1, 0, 2, 0, .null, [])) (y_s := (66, [some (.ref _), some (.int _), some (.int _), some (.int _), some (.int _), some (.int _), some (.int _)], [.int (_ * _), .ref _], _)) rfl (u_ rfl) ?_
            refine w_t (pc := 66) (e_s := (1, 1, 2, 0, 0, .null, [])) (y_s := (67, [some (.ref _), some (.int _), some (.int _), some (.int _), some (.int _), some (.int _), some (.int _)], [.int _, .int _, .ref _], _)) rfl (u_ rfl) ?_
            refine w_t (pc := 67) (e_s := (7, 1, 0, 0, 0, .null, [])) (y_s := (68, [some (.ref _), some (.int _), some (.int _), some (.int _), some (.int _), some (.int _), some (.int _)], [.int (_ + _), .ref _], _)) rfl (u_ rfl) ?_
            refine w22 (pc := 68) (len_s := 1) rfl (hk.1 5 5 32 rfl rfl) (fun c8_s => ?_)
            refine w_t (pc := 69) (e_s := (4, 2, 6, 0, 0, .null, [])) (y_s := (71, [some (.ref _), some (.int _), some (.int _), some (.int _), some (.int _), some (.int _), some (.int _)], [], _)) rfl (u_ rfl) ?_
            refine w_t (pc := 71) (e_s := (3, 1, 0, 0, 0, .null, [])) (y_s := (72, [some (.ref _), some (.int _), some (.int _), some (.int _), some (.int _), some (.int _), some (.int _)], [.ref _], _)) rfl (u_ rfl) ?_
            refine w20 (pc := 72) (len_s := 3) rfl ?_
            refine w_t (pc := 75) (e_s := (0, 2, 0, 0, 0, .int 24, [])) (y_s := (77, [some (.ref _), some (.int _), some (.int _), some (.int _), some (.int _), some (.int _), some (.int _)], [.int _, .int _], _)) rfl (u_ rfl) ?_
            refine wi3 (pc := 77) (len_s := 3) (Y := 24) rfl rfl (by decide) (fun c9_s => ?_) (fun c9_s => ?_)
            · replace t_s := t_s.1 c9_s
              refine w_t (pc := 80) (e_s := (3, 1, 0, 0, 0, .null, [])) (y_s := (81, [some (.ref _), some (.int _), some (.int _), some (.int _), some (.int _), some (.int _), some (.int _)], [.ref _], _)) rfl (u_ rfl) ?_
              refine w20r (pc := 81) (len_s := 3) (q_s := 49) rfl (krq hk rfl) ?_
              refine w_t (pc := 84) (e_s := (3, 1, 0, 0, 0, .null, [])) (y_s := (85, [some (.ref _), some (.int _), some (.int _), some (.int _), some (.int _), some (.int _), some (.int _)], [.ref _, .ref _], _)) rfl (u_ rfl) ?_
              refine w20 (pc := 85) (len_s := 3) rfl ?_
              refine w_t (pc := 88) (e_s := (1, 2, 6, 0, 0, .null, [])) (y_s := (90, [some (.ref _), some (.int _), some (.int _), some (.int _), some (.int _), some (.int _), some (.int _)], [.int _, .int _, .ref _], _)) rfl (u_ rfl) ?_
              refine w25 (pc := 90) (len_s := 1) rfl (hk.1 49 0 24 rfl rfl) (fun c10_s => ?_)
              replace t_s := t_s c10_s
              refine w_t (pc := 91) (e_s := (3, 1, 0, 0, 0, .null, [])) (y_s := (92, [some (.ref _), some (.int _), some (.int _), some (.int _), some (.int _), some (.int _), some (.int _)], [.ref _], _)) rfl (u_ rfl) ?_
              refine w_t (pc := 92) (e_s := (39, 1, 0, 0, 0, .null, [])) (y_s := (93, [some (.ref _), some (.int _), some (.int _), some (.int _), some (.int _), some (.int _), some (.int _)], [.ref _, .ref _], _)) rfl (u_ rfl) ?_
              refine w20 (pc := 93) (len_s := 3) rfl ?_
              refine w_t (pc := 96) (e_s := (0, 1, 0, 0, 0, .int 1, [])) (y_s := (97, [some (.ref _), some (.int _), some (.int _), some (.int _), some (.int _), some (.int _), some (.int _)], [.int _, .int _, .ref _], _)) rfl (u_ rfl) ?_
              refine w_t (pc := 97) (e_s := (7, 1, 0, 0, 0, .null, [])) (y_s := (98, [some (.ref _), some (.int _), some (.int _), some (.int _), some (.int _), some (.int _), some (.int _)], [.int (_ + _), .ref _], _)) rfl (u_ rfl) ?_
              refine w21 (pc := 98) (len_s := 3) rfl ?_
              refine w_t (pc := 101) (e_s := (3, 1, 0, 0, 0, .null, [])) (y_s := (102, [some (.ref _), some (.int _), some (.int _), some (.int _), some (.int _), some (.int _), some (.int _)], [.ref _], _)) rfl (u_ rfl) ?_
              refine w_t (pc := 102) (e_s := (1, 2, 6, 0, 0, .null, [])) (y_s := (104, [some (.ref _), some (.int _), some (.int _), some (.int _), some (.int _), some (.int _), some (.int _)], [.int _, .ref _], _)) rfl (u_ rfl) ?_
              refine w_t (pc := 104) (e_s := (43, 3, 4, 0, 0, .null, [(0, 723)])) (y_s := (107, [some (.ref _), some (.int _), some (.int _), some (.int _), some (.int _), some (.int _), some (.int _)], [.ref _, .int _, .ref _], _)) rfl (u_ rfl) ?_
              refine w_t (pc := 107) (e_s := (1, 2, 5, 0, 0, .null, [])) (y_s := (109, [some (.ref _), some (.int _), some (.int _), some (.int _), some (.int _), some (.int _), some (.int _)], [.int _, .ref _, .int _, .ref _], _)) rfl (u_ rfl) ?_
              refine w22 (pc := 109) (len_s := 1) rfl (hk.1 4 5 8 rfl rfl) (fun c11 => ?_)
              replace t_s := t_s c11
              refine w_t (pc := 110) (e_s := (1, 1, 3, 0, 0, .null, [])) (y_s := (111, [some (.ref _), some (.int _), some (.int _), some (.int _), some (.int _), some (.int _), some (.int _)], [.int _, .int _, .int _, .ref _], _)) rfl (u_ rfl) ?_
              refine w_t (pc := 111) (e_s := (1, 2, 4, 0, 0, .null, [])) (y_s := (113, [some (.ref _), some (.int _), some (.int _), some (.int _), some (.int _), some (.int _), some (.int _)], [.int _, .int _, .int _, .int _, .ref _], _)) rfl (u_ rfl) ?_
              refine w_t (pc := 113) (e_s := (0, 1, 0, 0, 0, .int 1, [])) (y_s := (114, [some (.ref _), some (.int _), some (.int _), some (.int _), some (.int _), some (.int _), some (.int _)], [.int _, .int _, .int _, .int _, .int _, .ref _], _)) rfl (u_ rfl) ?_
              refine w_t (pc := 114) (e_s := (7, 1, 0, 0, 0, .null, [])) (y_s := (115, [some (.ref _), some (.int _), some (.int _), some (.int _), some (.int _), some (.int _), some (.int _)], [.int (_ + _), .int _, .int _, .int _, .ref _], _)) rfl (u_ rfl) ?_
              refine wcI (pc := 115) (len_s := 3) rfl rfl (l := [some (.ref _), some (.int _), some (.int _), some (.int _), some (.int _)]) rfl (wmI t_s (fun v12 h12 hk t_s => ?_))
              replace t_s := t_s hk
              exact wrI (pc := 118) (len_s := 1) rfl hk t_s
            · replace t_s := t_s.2 c9_s
              refine w_t (pc := 91) (e_s := (3, 1, 0, 0, 0, .null, [])) (y_s := (92, [some (.ref _), some (.int _), some (.int _), some (.int _), some (.int _), some (.int _), some (.int _)], [.ref _], _)) rfl (u_ rfl) ?_
              refine w_t (pc := 92) (e_s := (39, 1, 0, 0, 0, .null, [])) (y_s := (93, [some (.ref _), some (.int _), some (.int _), some (.int _), some (.int _), some (.int _), some (.int _)], [.ref _, .ref _], _)) rfl (u_ rfl) ?_
              refine w20 (pc := 93) (len_s := 3) rfl ?_
              refine w_t (pc := 96) (e_s := (0, 1, 0, 0, 0, .int 1, [])) (y_s := (97, [some (.ref _), some (.int _), some (.int _), some (.int _), some (.int _), some (.int _), some (.int _)], [.int _, .int _, .ref _], _)) rfl (u_ rfl) ?_
              refine w_t (pc := 97) (e_s := (7, 1, 0, 0, 0, .null, [])) (y_s := (98, [some (.ref _), some (.int _), some (.int _), some (.int _), some (.int _), some (.int _), some (.int _)], [.int (_ + _), .ref _], _)) rfl (u_ rfl) ?_
              refine w21 (pc := 98) (len_s := 3) rfl ?_
              refine w_t (pc := 101) (e_s := (3, 1, 0, 0, 0, .null, [])) (y_s := (102, [some (.ref _), some (.int _), some (.int _), some (.int _), some (.int _), some (.int _), some (.int _)], [.ref _], _)) rfl (u_ rfl) ?_
              refine w_t (pc := 102) (e_s := (1, 2, 6, 0, 0, .null, [])) (y_s := (104, [some (.ref _), some (.int _), some (.int _), some (.int _), some (.int _), some (.int _), some (.int _)], [.int _, .ref _], _)) rfl (u_ rfl) ?_
              refine w_t (pc := 104) (e_s := (43, 3, 4, 0, 0, .null, [(0, 723)])) (y_s := (107, [some (.ref _), some (.int _), some (.int _), some (.int _), some (.int _), some (.int _), some (.int _)], [.ref _, .int _, .ref _], _)) rfl (u_ rfl) ?_
              refine w_t (pc := 107) (e_s := (1, 2, 5, 0, 0, .null, [])) (y_s := (109, [some (.ref _), some (.int _), some (.int _), some (.int _), some (.int _), some (.int _), some (.int _)], [.int _, .ref _, .int _, .ref _], _)) rfl (u_ rfl) ?_
              refine w22 (pc := 109) (len_s := 1) rfl (hk.1 4 5 8 rfl rfl) (fun c13_s => ?_)
              replace t_s := t_s c13_s
              refine w_t (pc := 110) (e_s := (1, 1, 3, 0, 0, .null, [])) (y_s := (111, [some (.ref _), some (.int _), some (.int _), some (.int _), some (.int _), some (.int _), some (.int _)], [.int _, .int _, .int _, .ref _], _)) rfl (u_ rfl) ?_
              refine w_t (pc := 111) (e_s := (1, 2, 4, 0, 0, .null, [])) (y_s := (113, [some (.ref _), some (.int _), some (.int _), some (.int _), some (.int _), some (.int _), some (.int _)], [.int _, .int _, .int _, .int _, .ref _], _)) rfl (u_ rfl) ?_
              refine w_t (pc := 113) (e_s := (0, 1, 0, 0, 0, .int 1, [])) (y_s := (114, [some (.ref _), some (.int _), some (.int _), some (.int _), some (.int _), some (.int _), some (.int _)], [.int _, .int _, .int _, .int _, .int _, .ref _], _)) rfl (u_ rfl) ?_
              refine w_t (pc := 114) (e_s := (7, 1, 0, 0, 0, .null, [])) (y_s := (115, [some (.ref _), some (.int _), some (.int _), some (.int _), some (.int _), some (.int _), some (.int _)], [.int (_ + _), .int _, .int _, .int _, .ref _], _)) rfl (u_ rfl) ?_
              refine wcI (pc := 115) (len_s := 3) rfl rfl (l := [some (.ref _), some (.int _), some (.int _), some (.int _), some (.int _)]) rfl (wmI t_s (fun v14 h14 hk t_s => ?_))
              replace t_s := t_s hk
              exact wrI (pc := 118) (len_s := 1) rfl hk t_s
    · replace t_s := t_s.2 c2_s
      refine w_t (pc := 45) (e_s := (1, 2, 5, 0, 0, .null, [])) (y_s := (47, [some (.ref _), some (.int _), some (.int _), some (.int _), some (.int _), some (.int _), some (.int _)], [.int _], _)) rfl (u_ rfl) ?_
      refine wq2 (pc := 47) (len_s := 3) rfl rfl (fun c15_s => ?_) (fun c15_s => ?_)
      · replace t_s := t_s.1 c15_s
        refine w_t (pc := 57) (e_s := (0, 1, 0, 0, 0, .int 0, [])) (y_s := (58, [some (.ref _), some (.int _), some (.int _), some (.int _), some (.int _), some (.int _), some (.int _)], [.int _], _)) rfl (u_ rfl) ?_
        exact wrI (pc := 58) (len_s := 1) rfl hk t_s
      · replace t_s := t_s.2 c15_s
        refine w_t (pc := 50) (e_s := (1, 2, 4, 0, 0, .null, [])) (y_s := (52, [some (.ref _), some (.int _), some (.int _), some (.int _), some (.int _), some (.int _), some (.int _)], [.int _], _)) rfl (u_ rfl) ?_
        refine w_t (pc := 52) (e_s := (0, 2, 0, 0, 0, .int 30, [])) (y_s := (54, [some (.ref _), some (.int _), some (.int _), some (.int _), some (.int _), some (.int _), some (.int _)], [.int _, .int _], _)) rfl (u_ rfl) ?_
        refine wi5 (pc := 54) (len_s := 3) (Y := 30) rfl rfl (by decide) (fun c16 => ?_) (fun c16 => ?_)
        · replace t_s := t_s.1 c16
          refine w_t (pc := 57) (e_s := (0, 1, 0, 0, 0, .int 0, [])) (y_s := (58, [some (.ref _), some (.int _), some (.int _), some (.int _), some (.int _), some (.int _), some (.int _)], [.int _], _)) rfl (u_ rfl) ?_
          exact wrI (pc := 58) (len_s := 1) rfl hk t_s
        · replace t_s := t_s.2 c16
          refine w_t (pc := 59) (e_s := (43, 3, 5, 0, 0, .null, [(0, 729)])) (y_s := (62, [some (.ref _), some (.int _), some (.int _), some (.int _), some (.int _), some (.int _), some (.int _)], [.ref _], _)) rfl (u_ rfl) ?_
          refine w_t (pc := 62) (e_s := (1, 2, 5, 0, 0, .null, [])) (y_s := (64, [some (.ref _), some (.int _), some (.int _), some (.int _), some (.int _), some (.int _), some (.int _)], [.int _, .ref _], _)) rfl (u_ rfl) ?_
          refine w_t (pc := 64) (e_s := (0, 1, 0, 0, 0, .int 4, [])) (y_s := (65, [some (.ref _), some (.int _), some (.int _), some (.int _), some (.int _), some (.int _), some (.int _)], [.int _, .int _, .ref _], _)) rfl (u_ rfl) ?_
          refine w_t (pc := 65) (e_s := (7, 1, 0, 2, 0, .null, [])) (y_s := (66, [some (.ref _), some (.int _), some (.int _), some (.int _), some (.int _), some (.int _), some (.int _)], [.int (_ * _), .ref _], _)) rfl (u_ rfl) ?_
          refine w_t (pc := 66) (e_s := (1, 1, 2, 0, 0, .null, [])) (y_s := (67, [some (.ref _), some (.int _), some (.int _), some (.int _), some (.int _), some (.int _), some (.int _)], [.int _, .int _, .ref _], _)) rfl (u_ rfl) ?_
          refine w_t (pc := 67) (e_s := (7, 1, 0, 0, 0, .null, [])) (y_s := (68, [some (.ref _), some (.int _), some (.int _), some (.int _), some (.int _), some (.int _), some (.int _)], [.int (_ + _), .ref _], _)) rfl (u_ rfl) ?_
          refine w22 (pc := 68) (len_s := 1) rfl (hk.1 5 5 32 rfl rfl) (fun c17 => ?_)
          replace t_s := t_s c17
          refine w_t (pc := 69) (e_s := (4, 2, 6, 0, 0, .null, [])) (y_s := (71, [some (.ref _), some (.int _), some (.int _), some (.int _), some (.int _), some (.int _), some (.int _)], [], _)) rfl (u_ rfl) ?_
          refine w_t (pc := 71) (e_s := (3, 1, 0, 0, 0, .null, [])) (y_s := (72, [some (.ref _), some (.int _), some (.int _), some (.int _), some (.int _), some (.int _), some (.int _)], [.ref _], _)) rfl (u_ rfl) ?_
          refine w20 (pc := 72) (len_s := 3) rfl ?_
          refine w_t (pc := 75) (e_s := (0, 2, 0, 0, 0, .int 24, [])) (y_s := (77, [some (.ref _), some (.int _), some (.int _), some (.int _), some (.int _), some (.int _), some (.int _)], [.int _, .int _], _)) rfl (u_ rfl) ?_
          refine wi3 (pc := 77) (len_s := 3) (Y := 24) rfl rfl (by decide) (fun c18_s => ?_) (fun c18_s => ?_)
          · replace t_s := t_s.1 c18_s
            refine w_t (pc := 80) (e_s := (3, 1, 0, 0, 0, .null, [])) (y_s := (81, [some (.ref _), some (.int _), some (.int _), some (.int _), some (.int _), some (.int _), some (.int _)], [.ref _], _)) rfl (u_ rfl) ?_
            refine w20r (pc := 81) (len_s := 3) (q_s := 49) rfl (krq hk rfl) ?_
            refine w_t (pc := 84) (e_s := (3, 1, 0, 0, 0, .null, [])) (y_s := (85, [some (.ref _), some (.int _), some (.int _), some (.int _), some (.int _), some (.int _), some (.int _)], [.ref _, .ref _], _)) rfl (u_ rfl) ?_
            refine w20 (pc := 85) (len_s := 3) rfl ?_
            refine w_t (pc := 88) (e_s := (1, 2, 6, 0, 0, .null, [])) (y_s := (90, [some (.ref _), some (.int _), some (.int _), some (.int _), some (.int _), some (.int _), some (.int _)], [.int _, .int _, .ref _], _)) rfl (u_ rfl) ?_
            refine w25 (pc := 90) (len_s := 1) rfl (hk.1 49 0 24 rfl rfl) (fun c19_s => ?_)
            replace t_s := t_s c19_s
            refine w_t (pc := 91) (e_s := (3, 1, 0, 0, 0, .null, [])) (y_s := (92, [some (.ref _), some (.int _), some (.int _), some (.int _), some (.int _), some (.int _), some (.int _)], [.ref _], _)) rfl (u_ rfl) ?_
            refine w_t (pc := 92) (e_s := (39, 1, 0, 0, 0, .null, [])) (y_s := (93, [some (.ref _), some (.int _), some (.int _), some (.int _), some (.int _), some (.int _), some (.int _)], [.ref _, .ref _], _)) rfl (u_ rfl) ?_
            refine w20 (pc := 93) (len_s := 3) rfl ?_
            refine w_t (pc := 96) (e_s := (0, 1, 0, 0, 0, .int 1, [])) (y_s := (97, [some (.ref _), some (.int _), some (.int _), some (.int _), some (.int _), some (.int _), some (.int _)], [.int _, .int _, .ref _], _)) rfl (u_ rfl) ?_
            refine w_t (pc := 97) (e_s := (7, 1, 0, 0, 0, .null, [])) (y_s := (98, [some (.ref _), some (.int _), some (.int _), some (.int _), some (.int _), some (.int _), some (.int _)], [.int (_ + _), .ref _], _)) rfl (u_ rfl) ?_
            refine w21 (pc := 98) (len_s := 3) rfl ?_
            refine w_t (pc := 101) (e_s := (3, 1, 0, 0, 0, .null, [])) (y_s := (102, [some (.ref _), some (.int _), some (.int _), some (.int _), some (.int _), some (.int _), some (.int _)], [.ref _], _)) rfl (u_ rfl) ?_
            refine w_t (pc := 102) (e_s := (1, 2, 6, 0, 0, .null, [])) (y_s := (104, [some (.ref _), some (.int _), some (.int _), some (.int _), some (.int _), some (.int _), some (.int _)], [.int _, .ref _], _)) rfl (u_ rfl) ?_
            refine w_t (pc := 104) (e_s := (43, 3, 4, 0, 0, .null, [(0, 723)])) (y_s := (107, [some (.ref _), some (.int _), some (.int _), some (.int _), some (.int _), some (.int _), some (.int _)], [.ref _, .int _, .ref _], _)) rfl (u_ rfl) ?_
            refine w_t (pc := 107) (e_s := (1, 2, 5, 0, 0, .null, [])) (y_s := (109, [some (.ref _), some (.int _), some (.int _), some (.int _), some (.int _), some (.int _), some (.int _)], [.int _, .ref _, .int _, .ref _], _)) rfl (u_ rfl) ?_
            refine w22 (pc := 109) (len_s := 1) rfl (hk.1 4 5 8 rfl rfl) (fun c20_s => ?_)
            replace t_s := t_s c20_s
            refine w_t (pc := 110) (e_s := (1, 1, 3, 0, 0, .null, [])) (y_s := (111, [some (.ref _), some (.int _), some (.int _), some (.int _), some (.int _), some (.int _), some (.int _)], [.int _, .int _, .int _, .ref _], _)) rfl (u_ rfl) ?_
            refine w_t (pc := 111) (e_s := (1, 2, 4, 0, 0, .null, [])) (y_s := (113, [some (.ref _), some (.int _), some (.int _), some (.int _), some (.int _), some (.int _), some (.int _)], [.int _, .int _, .int _, .int _, .ref _], _)) rfl (u_ rfl) ?_
            refine w_t (pc := 113) (e_s := (0, 1, 0, 0, 0, .int 1, [])) (y_s := (114, [some (.ref _), some (.int _), some (.int _), some (.int _), some (.int _), some (.int _), some (.int _)], [.int _, .int _, .int _, .int _, .int _, .ref _], _)) rfl (u_ rfl) ?_
            refine w_t (pc := 114) (e_s := (7, 1, 0, 0, 0, .null, [])) (y_s := (115, [some (.ref _), some (.int _), some (.int _), some (.int _), some (.int _), some (.int _), some (.int _)], [.int (_ + _), .int _, .int _, .int _, .ref _], _)) rfl (u_ rfl) ?_
            refine wcI (pc := 115) (len_s := 3) rfl rfl (l := [some (.ref _), some (.int _), some (.int _), some (.int _), some (.int _)]) rfl (wmI t_s (fun v21 h21 hk t_s => ?_))
            replace t_s := t_s hk
            exact wrI (pc := 118) (len_s := 1) rfl hk t_s
          · replace t_s := t_s.2 c18_s
            refine w_t (pc := 91) (e_s := (3, 1, 0, 0, 0, .null, [])) (y_s := (92, [some (.ref _), some (.int _), some (.int _), some (.int _), some (.int _), some (.int _), some (.int _)], [.ref _], _)) rfl (u_ rfl) ?_
            refine w_t (pc := 92) (e_s := (39, 1, 0, 0, 0, .null, [])) (y_s := (93, [some (.ref _), some (.int _), some (.int _), some (.int _), some (.int _), some (.int _), some (.int _)], [.ref _, .ref _], _)) rfl (u_ rfl) ?_
            refine w20 (pc := 93) (len_s := 3) rfl ?_
            refine w_t (pc := 96) (e_s := (0, 1, 0, 0, 0, .int 1, [])) (y_s := (97, [some (.ref _), some (.int _), some (.int _), some (.int _), some (.int _), some (.int _), some (.int _)], [.int _, .int _, .ref _], _)) rfl (u_ rfl) ?_
            refine w_t (pc := 97) (e_s := (7, 1, 0, 0, 0, .null, [])) (y_s := (98, [some (.ref _), some (.int _), some (.int _), some (.int _), some (.int _), some (.int _), some (.int _)], [.int (_ + _), .ref _], _)) rfl (u_ rfl) ?_
            refine w21 (pc := 98) (len_s := 3) rfl ?_
            refine w_t (pc := 101) (e_s := (3, 1, 0, 0, 0, .null, [])) (y_s := (102, [some (.ref _), some (.int _), some (.int _), some (.int _), some (.int _), some (.int _), some (.int _)], [.ref _], _)) rfl (u_ rfl) ?_
            refine w_t (pc := 102) (e_s := (1, 2, 6, 0, 0, .null, [])) (y_s := (104, [some (.ref _), some (.int _), some (.int _), some (.int _), some (.int _), some (.int _), some (.int _)], [.int _, .ref _], _)) rfl (u_ rfl) ?_
            refine w_t (pc := 104) (e_s := (43, 3, 4, 0, 0, .null, [(0, 723)])) (y_s := (107, [some (.ref _), some (.int _), some (.int _), some (.int _), some (.int _), some (.int _), some (.int _)], [.ref _, .int _, .ref _], _)) rfl (u_ rfl) ?_
            refine w_t (pc := 107) (e_s := (1, 2, 5, 0, 0, .null, [])) (y_s := (109, [some (.ref _), some (.int _), some (.int _), some (.int _), some (.int _), some (.int _), some (.int _)], [.int _, .ref _, .int _, .ref _], _)) rfl (u_ rfl) ?_
            refine w22 (pc := 109) (len_s := 1) rfl (hk.1 4 5 8 rfl rfl) (fun c22 => ?_)
            replace t_s := t_s c22
            refine w_t (pc := 110) (e_s := (1, 1, 3, 0, 0, .null, [])) (y_s := (111, [some (.ref _), some (.int _), some (.int _), some (.int _), some (.int _), some (.int _), some (.int _)], [.int _, .int _, .int _, .ref _], _)) rfl (u_ rfl) ?_
            refine w_t (pc := 111) (e_s := (1, 2, 4, 0, 0, .null, [])) (y_s := (113, [some (.ref _), some (.int _), some (.int _), some (.int _), some (.int _), some (.int _), some (.int _)], [.int _, .int _, .int _, .int _, .ref _], _)) rfl (u_ rfl) ?_
            refine w_t (pc := 113) (e_s := (0, 1, 0, 0, 0, .int 1, [])) (y_s := (114, [some (.ref _), some (.int _), some (.int _), some (.int _), some (.int _), some (.int _), some (.int _)], [.int _, .int _, .int _, .int _, .int _, .ref _], _)) rfl (u_ rfl) ?_
            refine w_t (pc := 114) (e_s := (7, 1, 0, 0, 0, .null, [])) (y_s := (115, [some (.ref _), some (.int _), some (.int _), some (.int _), some (.int _), some (.int _), some (.int _)], [.int (_ + _), .int _, .int _, .int _, .ref _], _)) rfl (u_ rfl) ?_
            refine wcI (pc := 115) (len_s := 3) rfl rfl (l := [some (.ref _), some (.int _), some (.int _), some (.int _), some (.int _)]) rfl (wmI t_s (fun v23 h23 hk t_s => ?_))
            replace t_s := t_s hk
            exact wrI (pc := 118) (len_s := 1) rfl hk t_s
  · replace t_s := t_s.2 c1_s
    refine w_t (pc := 45) (e_s := (1, 2, 5, 0, 0, .null, [])) (y_s := (47, [some (.ref _), some (.int _), some (.int _), some (.int _), some (.int _), some (.int _), some (.int _)], [.int _], _)) rfl (u_ rfl) ?_
    refine wq2 (pc := 47) (len_s := 3) rfl rfl (fun c24_s => ?_) (fun c24_s => ?_)
    · replace t_s := t_s.1 c24_s
      refine w_t (pc := 57) (e_s := (0, 1, 0, 0, 0, .int 0, [])) (y_s := (58, [some (.ref _), some (.int _), some (.int _), some (.int _), some (.int _), some (.int _), some (.int _)], [.int _], _)) rfl (u_ rfl) ?_
      exact wrI (pc := 58) (len_s := 1) rfl hk t_s
    · replace t_s := t_s.2 c24_s
      refine w_t (pc := 50) (e_s := (1, 2, 4, 0, 0, .null, [])) (y_s := (52, [some (.ref _), some (.int _), some (.int _), some (.int _), some (.int _), some (.int _), some (.int _)], [.int _], _)) rfl (u_ rfl) ?_
      refine w_t (pc := 52) (e_s := (0, 2, 0, 0, 0, .int 30, [])) (y_s := (54, [some (.ref _), some (.int _), some (.int _), some (.int _), some (.int _), some (.int _), some (.int _)], [.int _, .int _], _)) rfl (u_ rfl) ?_
      refine wi5 (pc := 54) (len_s := 3) (Y := 30) rfl rfl (by decide) (fun c25_s => ?_) (fun c25_s => ?_)
      · replace t_s := t_s.1 c25_s
        refine w_t (pc := 57) (e_s := (0, 1, 0, 0, 0, .int 0, [])) (y_s := (58, [some (.ref _), some (.int _), some (.int _), some (.int _), some (.int _), some (.int _), some (.int _)], [.int _], _)) rfl (u_ rfl) ?_
        exact wrI (pc := 58) (len_s := 1) rfl hk t_s
      · replace t_s := t_s.2 c25_s
        refine w_t (pc := 59) (e_s := (43, 3, 5, 0, 0, .null, [(0, 729)])) (y_s := (62, [some (.ref _), some (.int _), some (.int _), some (.int _), some (.int _), some (.int _), some (.int _)], [.ref _], _)) rfl (u_ rfl) ?_
        refine w_t (pc := 62) (e_s := (1, 2, 5, 0, 0, .null, [])) (y_s := (64, [some (.ref _), some (.int _), some (.int _), some (.int _), some (.int _), some (.int _), some (.int _)], [.int _, .ref _], _)) rfl (u_ rfl) ?_
        refine w_t (pc := 64) (e_s := (0, 1, 0, 0, 0, .int 4, [])) (y_s := (65, [some (.ref _), some (.int _), some (.int _), some (.int _), some (.int _), some (.int _), some (.int _)], [.int _, .int _, .ref _], _)) rfl (u_ rfl) ?_
        refine w_t (pc := 65) (e_s := (7, 1, 0, 2, 0, .null, [])) (y_s := (66, [some (.ref _), some (.int _), some (.int _), some (.int _), some (.int _), some (.int _), some (.int _)], [.int (_ * _), .ref _], _)) rfl (u_ rfl) ?_
        refine w_t (pc := 66) (e_s := (1, 1, 2, 0, 0, .null, [])) (y_s := (67, [some (.ref _), some (.int _), some (.int _), some (.int _), some (.int _), some (.int _), some (.int _)], [.int _, .int _, .ref _], _)) rfl (u_ rfl) ?_
        refine w_t (pc := 67) (e_s := (7, 1, 0, 0, 0, .null, [])) (y_s := (68, [some (.ref _), some (.int _), some (.int _), some (.int _), some (.int _), some (.int _), some (.int _)], [.int (_ + _), .ref _], _)) rfl (u_ rfl) ?_
        refine w22 (pc := 68) (len_s := 1) rfl (hk.1 5 5 32 rfl rfl) (fun c26 => ?_)
        replace t_s := t_s c26
        refine w_t (pc := 69) (e_s := (4, 2, 6, 0, 0, .null, [])) (y_s := (71, [some (.ref _), some (.int _), some (.int _), some (.int _), some (.int _), some (.int _), some (.int _)], [], _)) rfl (u_ rfl) ?_
        refine w_t (pc := 71) (e_s := (3, 1, 0, 0, 0, .null, [])) (y_s := (72, [some (.ref _), some (.int _), some (.int _), some (.int _), some (.int _), some (.int _), some (.int _)], [.ref _], _)) rfl (u_ rfl) ?_
        refine w20 (pc := 72) (len_s := 3) rfl ?_
        refine w_t (pc := 75) (e_s := (0, 2, 0, 0, 0, .int 24, [])) (y_s := (77, [some (.ref _), some (.int _), some (.int _), some (.int _), some (.int _), some (.int _), some (.int _)], [.int _, .int _], _)) rfl (u_ rfl) ?_
        refine wi3 (pc := 77) (len_s := 3) (Y := 24) rfl rfl (by decide) (fun c27_s => ?_) (fun c27_s => ?_)
        · replace t_s := t_s.1 c27_s
          refine w_t (pc := 80) (e_s := (3, 1, 0, 0, 0, .null, [])) (y_s := (81, [some (.ref _), some (.int _), some (.int _), some (.int _), some (.int _), some (.int _), some (.int _)], [.ref _], _)) rfl (u_ rfl) ?_
          refine w20r (pc := 81) (len_s := 3) (q_s := 49) rfl (krq hk rfl) ?_
          refine w_t (pc := 84) (e_s := (3, 1, 0, 0, 0, .null, [])) (y_s := (85, [some (.ref _), some (.int _), some (.int _), some (.int _), some (.int _), some (.int _), some (.int _)], [.ref _, .ref _], _)) rfl (u_ rfl) ?_
          refine w20 (pc := 85) (len_s := 3) rfl ?_
          refine w_t (pc := 88) (e_s := (1, 2, 6, 0, 0, .null, [])) (y_s := (90, [some (.ref _), some (.int _), some (.int _), some (.int _), some (.int _), some (.int _), some (.int _)], [.int _, .int _, .ref _], _)) rfl (u_ rfl) ?_
          refine w25 (pc := 90) (len_s := 1) rfl (hk.1 49 0 24 rfl rfl) (fun c28_s => ?_)
          replace t_s := t_s c28_s
          refine w_t (pc := 91) (e_s := (3, 1, 0, 0, 0, .null, [])) (y_s := (92, [some (.ref _), some (.int _), some (.int _), some (.int _), some (.int _), some (.int _), some (.int _)], [.ref _], _)) rfl (u_ rfl) ?_
          refine w_t (pc := 92) (e_s := (39, 1, 0, 0, 0, .null, [])) (y_s := (93, [some (.ref _), some (.int _), some (.int _), some (.int _), some (.int _), some (.int _), some (.int _)], [.ref _, .ref _], _)) rfl (u_ rfl) ?_
          refine w20 (pc := 93) (len_s := 3) rfl ?_
          refine w_t (pc := 96) (e_s := (0, 1, 0, 0, 0, .int 1, [])) (y_s := (97, [some (.ref _), some (.int _), some (.int _), some (.int _), some (.int _), some (.int _), some (.int _)], [.int _, .int _, .ref _], _)) rfl (u_ rfl) ?_
          refine w_t (pc := 97) (e_s := (7, 1, 0, 0, 0, .null, [])) (y_s := (98, [some (.ref _), some (.int _), some (.int _), some (.int _), some (.int _), some (.int _), some (.int _)], [.int (_ + _), .ref _], _)) rfl (u_ rfl) ?_
          refine w21 (pc := 98) (len_s := 3) rfl ?_
          refine w_t (pc := 101) (e_s := (3, 1, 0, 0, 0, .null, [])) (y_s := (102, [some (.ref _), some (.int _), some (.int _), some (.int _), some (.int _), some (.int _), some (.int _)], [.ref _], _)) rfl (u_ rfl) ?_
          refine w_t (pc := 102) (e_s := (1, 2, 6, 0, 0, .null, [])) (y_s := (104, [some (.ref _), some (.int _), some (.int _), some (.int _), some (.int _), some (.int _), some (.int _)], [.int _, .ref _], _)) rfl (u_ rfl) ?_
          refine w_t (pc := 104) (e_s := (43, 3, 4, 0, 0, .null, [(0, 723)])) (y_s := (107, [some (.ref _), some (.int _), some (.int _), some (.int _), some (.int _), some (.int _), some (.int _)], [.ref _, .int _, .ref _], _)) rfl (u_ rfl) ?_
          refine w_t (pc := 107) (e_s := (1, 2, 5, 0, 0, .null, [])) (y_s := (109, [some (.ref _), some (.int _), some (.int _), some (.int _), some (.int _), some (.int _), some (.int _)], [.int _, .ref _, .int _, .ref _], _)) rfl (u_ rfl) ?_
          refine w22 (pc := 109) (len_s := 1) rfl (hk.1 4 5 8 rfl rfl) (fun c29_s => ?_)
          replace t_s := t_s c29_s
          refine w_t (pc := 110) (e_s := (1, 1, 3, 0, 0, .null, [])) (y_s := (111, [some (.ref _), some (.int _), some (.int _), some (.int _), some (.int _), some (.int _), some (.int _)], [.int _, .int _, .int _, .ref _], _)) rfl (u_ rfl) ?_
          refine w_t (pc := 111) (e_s := (1, 2, 4, 0, 0, .null, [])) (y_s := (113, [some (.ref _), some (.int _), some (.int _), some (.int _), some (.int _), some (.int _), some (.int _)], [.int _, .int _, .int _, .int _, .ref _], _)) rfl (u_ rfl) ?_
          refine w_t (pc := 113) (e_s := (0, 1, 0, 0, 0, .int 1, [])) (y_s := (114, [some (.ref _), some (.int _), some (.int _), some (.int _), some (.int _), some (.int _), some (.int _)], [.int _, .int _, .int _, .int _, .int _, .ref _], _)) rfl (u_ rfl) ?_
          refine w_t (pc := 114) (e_s := (7, 1, 0, 0, 0, .null, [])) (y_s := (115, [some (.ref _), some (.int _), some (.int _), some (.int _), some (.int _), some (.int _), some (.int _)], [.int (_ + _), .int _, .int _, .int _, .ref _], _)) rfl (u_ rfl) ?_
          refine wcI (pc := 115) (len_s := 3) rfl rfl (l := [some (.ref _), some (.int _), some (.int _), some (.int _), some (.int _)]) rfl (wmI t_s (fun v30 h30 hk t_s => ?_))
          replace t_s := t_s hk
          exact wrI (pc := 118) (len_s := 1) rfl hk t_s
        · replace t_s := t_s.2 c27_s
          refine w_t (pc := 91) (e_s := (3, 1, 0, 0, 0, .null, [])) (y_s := (92, [some (.ref _), some (.int _), some (.int _), some (.int _), some (.int _), some (.int _), some (.int _)], [.ref _], _)) rfl (u_ rfl) ?_
          refine w_t (pc := 92) (e_s := (39, 1, 0, 0, 0, .null, [])) (y_s := (93, [some (.ref _), some (.int _), some (.int _), some (.int _), some (.int _), some (.int _), some (.int _)], [.ref _, .ref _], _)) rfl (u_ rfl) ?_
          refine w20 (pc := 93) (len_s := 3) rfl ?_
          refine w_t (pc := 96) (e_s := (0, 1, 0, 0, 0, .int 1, [])) (y_s := (97, [some (.ref _), some (.int _), some (.int _), some (.int _), some (.int _), some (.int _), some (.int _)], [.int _, .int _, .ref _], _)) rfl (u_ rfl) ?_
          refine w_t (pc := 97) (e_s := (7, 1, 0, 0, 0, .null, [])) (y_s := (98, [some (.ref _), some (.int _), some (.int _), some (.int _), some (.int _), some (.int _), some (.int _)], [.int (_ + _), .ref _], _)) rfl (u_ rfl) ?_
          refine w21 (pc := 98) (len_s := 3) rfl ?_
          refine w_t (pc := 101) (e_s := (3, 1, 0, 0, 0, .null, [])) (y_s := (102, [some (.ref _), some (.int _), some (.int _), some (.int _), some (.int _), some (.int _), some (.int _)], [.ref _], _)) rfl (u_ rfl) ?_
          refine w_t (pc := 102) (e_s := (1, 2, 6, 0, 0, .null, [])) (y_s := (104, [some (.ref _), some (.int _), some (.int _), some (.int _), some (.int _), some (.int _), some (.int _)], [.int _, .ref _], _)) rfl (u_ rfl) ?_
          refine w_t (pc := 104) (e_s := (43, 3, 4, 0, 0, .null, [(0, 723)])) (y_s := (107, [some (.ref _), some (.int _), some (.int _), some (.int _), some (.int _), some (.int _), some (.int _)], [.ref _, .int _, .ref _], _)) rfl (u_ rfl) ?_
          refine w_t (pc := 107) (e_s := (1, 2, 5, 0, 0, .null, [])) (y_s := (109, [some (.ref _), some (.int _), some (.int _), some (.int _), some (.int _), some (.int _), some (.int _)], [.int _, .ref _, .int _, .ref _], _)) rfl (u_ rfl) ?_
          refine w22 (pc := 109) (len_s := 1) rfl (hk.1 4 5 8 rfl rfl) (fun c31_s => ?_)
          replace t_s := t_s c31_s
          refine w_t (pc := 110) (e_s := (1, 1, 3, 0, 0, .null, [])) (y_s := (111, [some (.ref _), some (.int _), some (.int _), some (.int _), some (.int _), some (.int _), some (.int _)], [.int _, .int _, .int _, .ref _], _)) rfl (u_ rfl) ?_
          refine w_t (pc := 111) (e_s := (1, 2, 4, 0, 0, .null, [])) (y_s := (113, [some (.ref _), some (.int _), some (.int _), some (.int _), some (.int _), some (.int _), some (.int _)], [.int _, .int _, .int _, .int _, .ref _], _)) rfl (u_ rfl) ?_
          refine w_t (pc := 113) (e_s := (0, 1, 0, 0, 0, .int 1, [])) (y_s := (114, [some (.ref _), some (.int _), some (.int _), some (.int _), some (.int _), some (.int _), some (.int _)], [.int _, .int _, .int _, .int _, .int _, .ref _], _)) rfl (u_ rfl) ?_
          refine w_t (pc := 114) (e_s := (7, 1, 0, 0, 0, .null, [])) (y_s := (115, [some (.ref _), some (.int _), some (.int _), some (.int _), some (.int _), some (.int _), some (.int _)], [.int (_ + _), .int _, .int _, .int _, .ref _], _)) rfl (u_ rfl) ?_
          refine wcI (pc := 115) (len_s := 3) rfl rfl (l := [some (.ref _), some (.int _), some (.int _), some (.int _), some (.int _)]) rfl (wmI t_s (fun v32 h32 hk t_s => ?_))
          replace t_s := t_s hk
          exact wrI (pc := 118) (len_s := 1) rfl hk t_s
/-- ColdShod$Acts.work(IIII)I, from 0 on -/
theorem sg_7_0 {F_s : Nat} {x1_s x2_s x3 x4_s : Int32} {h_s : zH} {K_s : Int32 → zH → Prop} (hk : hKn h_s) (t_s : (x1_s.toInt = 1 → K_s (x3 + (h_s.2.1 47 4)) h_s) ∧ (¬ x1_s.toInt = 1 → (x1_s.toInt = 2 → wF F_s 6 (0, [some (.ref 47), some (.int (h_s.2.1 47 5)), some (.int 1), some (.int x3), some (.int x4_s), none, none], [], h_s) (gI (fun v3 h3 => hKn h3 → wF F_s 6 (0, [some (.ref 47), some (.int (h3.2.1 47 5)), some (.int 2), some (.int 1), some (.int x4_s), none, none], [], h3) (gI (fun v4_s h4 => hKn h4 → K_s (v3 - v4_s) h4))))) ∧ (¬ x1_s.toInt = 2 → (x1_s.toInt = 10 → wF F_s 6 (0, [some (.ref 47), some (.int (h_s.2.1 47 5)), some (.int 0), some (.int x3), some (.int x4_s), none, none], [], h_s) (gI (fun v6 h6 => hKn h6 → K_s (v6 * 2) h6))) ∧ (¬ x1_s.toInt = 10 → (x1_s.toInt = 11 → K_s (x3 ^^^ (h_s.2.1 47 4)) h_s) ∧ (¬ x1_s.toInt = 11 → (x1_s.toInt = 20 → wF F_s 6 (0, [some (.ref 47), some (.int x2_s), some (.int 0), some (.int x3), some (.int x4_s), none, none], [], h_s) (gI (fun v9 h9 => hKn h9 → K_s (v9 + 3) h9))) ∧ (¬ x1_s.toInt = 20 → (x1_s.toInt = 30 → wF F_s 6 (0, [some (.ref 47), some (.int x2_s), some (.int 1), some (.int x3), some (.int x4_s), none, none], [], h_s) (gI (fun v11 h11 => hKn h11 → K_s (-v11) h11))) ∧ (¬ x1_s.toInt = 30 → (x1_s.toInt = 40 → wF F_s 6 (0, [some (.ref 47), some (.int x2_s), some (.int 2), some (.int x3), some (.int x4_s), none, none], [], h_s) (gI (fun v13 h13 => hKn h13 → K_s (v13 * 3) h13))) ∧ (¬ x1_s.toInt = 40 → (x1_s.toInt = 41 → wF F_s 6 (0, [some (.ref 47), some (.int x2_s), some (.int 1), some (.int (x3 + 1)), some (.int x4_s), none, none], [], h_s) (gI (fun v15 h15 => hKn h15 → K_s v15 h15))) ∧ (¬ x1_s.toInt = 41 → (x1_s.toInt = 50 → wF F_s 6 (0, [some (.ref 47), some (.int x2_s), some (.int 2), some (.int x3), some (.int x4_s), none, none], [], h_s) (gI (fun v17 h17 => hKn h17 → wF F_s 6 (0, [some (.ref 47), some (.int (h17.2.1 47 5)), some (.int 0), some (.int 2), some (.int x4_s), none, none], [], h17) (gI (fun v18 h18 => hKn h18 → K_s (v17 - v18) h18))))) ∧ (¬ x1_s.toInt = 50 → (x1_s.toInt = 60 → wF F_s 6 (0, [some (.ref 47), some (.int x2_s), some (.int 3), some (.int x3), some (.int x4_s), none, none], [], h_s) (gI (fun v20 h20 => hKn h20 → K_s (v20 ^^^ 5) h20))) ∧ (¬ x1_s.toInt = 60 → (x1_s.toInt = 70 → wF F_s 6 (0, [some (.ref 47), some (.int x2_s), some (.int 0), some (.int x3), some (.int x4_s), none, none], [], h_s) (gI (fun v22 h22 => hKn h22 → K_s (v22 * 2) h22))) ∧ (¬ x1_s.toInt = 70 → (x1_s.toInt = 80 → wF F_s 6 (0, [some (.ref 47), some (.int x2_s), some (.int 1), some (.int x3), some (.int x4_s), none, none], [], h_s) (gI (fun v24 h24 => hKn h24 → wF F_s 6 (0, [some (.ref 47), some (.int (h24.2.1 47 5)), some (.int 2), some (.int 2), some (.int x4_s), none, none], [], h24) (gI (fun v25 h25 => hKn h25 → K_s (v24 + v25) h25))))) ∧ (¬ x1_s.toInt = 80 → (x1_s.toInt = 81 → wF F_s 6 (0, [some (.ref 47), some (.int x2_s), some (.int 3), some (.int x3), some (.int x4_s), none, none], [], h_s) (gI (fun v27 h27 => hKn h27 → K_s (v27 - 1) h27))) ∧ (¬ x1_s.toInt = 81 → K_s 0 h_s)))))))))))))) : wF (F_s + 1) 7 (0, [some (.ref 47), some (.int x1_s), some (.int x2_s), some (.int x3), some (.int x4_s)], [], h_s) (gI K_s) := by
  refine w_0 (pc := 0) (e_s := (1, 1, 1, 0, 0, .null, [])) (y_s := (1, [some (.ref _), some (.int _), some (.int _), some (.int _), some (.int _)], [.int _], _)) rfl (u_ rfl) ?_
  refine wsw (pc := 1) (len_s := 115) rfl ?_
  refine wsc (X_s := 1) rfl (by decide) (fun c1_s => ?_) (fun c1_s => ?_)
  · replace t_s := t_s.1 c1_s
    refine w_t (pc := 116) (e_s := (1, 1, 3, 0, 0, .null, [])) (y_s := (117, [some (.ref _), some (.int _), some (.int _), some (.int _), some (.int _)], [.int _], _)) rfl (u_ rfl) ?_
    refine w_t (pc := 117) (e_s := (3, 1, 0, 0, 0, .null, [])) (y_s := (118, [some (.ref _), some (.int _), some (.int _), some (.int _), some (.int _)], [.ref _, .int _], _)) rfl (u_ rfl) ?_
    refine w20 (pc := 118) (len_s := 3) rfl ?_
    refine w_t (pc := 121) (e_s := (7, 1, 0, 0, 0, .null, [])) (y_s := (122, [some (.ref _), some (.int _), some (.int _), some (.int _), some (.int _)], [.int (_ + _)], _)) rfl (u_ rfl) ?_
    exact wrI (pc := 122) (len_s := 1) rfl hk t_s
  · replace t_s := t_s.2 c1_s
    refine wsc (X_s := 2) rfl (by decide) (fun c2_s => ?_) (fun c2_s => ?_)
    · replace t_s := t_s.1 c2_s
      refine w_t (pc := 123) (e_s := (3, 1, 0, 0, 0, .null, [])) (y_s := (124, [some (.ref _), some (.int _), some (.int _), some (.int _), some (.int _)], [.ref _], _)) rfl (u_ rfl) ?_
      refine w_t (pc := 124) (e_s := (3, 1, 0, 0, 0, .null, [])) (y_s := (125, [some (.ref _), some (.int _), some (.int _), some (.int _), some (.int _)], [.ref _, .ref _], _)) rfl (u_ rfl) ?_
      refine w20 (pc := 125) (len_s := 3) rfl ?_
      refine w_t (pc := 128) (e_s := (0, 1, 0, 0, 0, .int 1, [])) (y_s := (129, [some (.ref _), some (.int _), some (.int _), some (.int _), some (.int _)], [.int _, .int _, .ref _], _)) rfl (u_ rfl) ?_
      refine w_t (pc := 129) (e_s := (1, 1, 3, 0, 0, .null, [])) (y_s := (130, [some (.ref _), some (.int _), some (.int _), some (.int _), some (.int _)], [.int _, .int _, .int _, .ref _], _)) rfl (u_ rfl) ?_
      refine w_t (pc := 130) (e_s := (1, 2, 4, 0, 0, .null, [])) (y_s := (132, [some (.ref _), some (.int _), some (.int _), some (.int _), some (.int _)], [.int _, .int _, .int _, .int _, .ref _], _)) rfl (u_ rfl) ?_
      refine wcI (pc := 132) (len_s := 3) rfl rfl (l := [some (.ref _), some (.int _), some (.int _), some (.int _), some (.int _), none, none]) rfl (wmI t_s (fun v3 h3 hk t_s => ?_))
      replace t_s := t_s hk
      refine w_t (pc := 135) (e_s := (3, 1, 0, 0, 0, .null, [])) (y_s := (136, [some (.ref _), some (.int _), some (.int _), some (.int _), some (.int _)], [.ref _, .int _], _)) rfl (u_ rfl) ?_
      refine w_t (pc := 136) (e_s := (3, 1, 0, 0, 0, .null, [])) (y_s := (137, [some (.ref _), some (.int _), some (.int _), some (.int _), some (.int _)], [.ref _, .ref _, .int _], _)) rfl (u_ rfl) ?_
      refine w20 (pc := 137) (len_s := 3) rfl ?_
      refine w_t (pc := 140) (e_s := (0, 1, 0, 0, 0, .int 2, [])) (y_s := (141, [some (.ref _), some (.int _), some (.int _), some (.int _), some (.int _)], [.int _, .int _, .ref _, .int _], _)) rfl (u_ rfl) ?_
      refine w_t (pc := 141) (e_s := (0, 1, 0, 0, 0, .int 1, [])) (y_s := (142, [some (.ref _), some (.int _), some (.int _), some (.int _), some (.int _)], [.int _, .int _, .int _, .ref _, .int _], _)) rfl (u_ rfl) ?_
      refine w_t (pc := 142) (e_s := (1, 2, 4, 0, 0, .null, [])) (y_s := (144, [some (.ref _), some (.int _), some (.int _), some (.int _), some (.int _)], [.int _, .int _, .int _, .int _, .ref _, .int _], _)) rfl (u_ rfl) ?_
      refine wcI (pc := 144) (len_s := 3) rfl rfl (l := [some (.ref _), some (.int _), some (.int _), some (.int _), some (.int _), none, none]) rfl (wmI t_s (fun v4_s h4 hk t_s => ?_))
      replace t_s := t_s hk
      refine w_t (pc := 147) (e_s := (7, 1, 0, 1, 0, .null, [])) (y_s := (148, [some (.ref _), some (.int _), some (.int _), some (.int _), some (.int _)], [.int (_ - _)], _)) rfl (u_ rfl) ?_
      exact wrI (pc := 148) (len_s := 1) rfl hk t_s
    · replace t_s := t_s.2 c2_s
      refine wsc (X_s := 10) rfl (by decide) (fun c5_s => ?_) (fun c5_s => ?_)
      · replace t_s := t_s.1 c5_s
        refine w_t (pc := 149) (e_s := (3, 1, 0, 0, 0, .null, [])) (y_s := (150, [some (.ref _), some (.int _), some (.int _), some (.int _), some (.int _)], [.ref _], _)) rfl (u_ rfl) ?_
        refine w_t (pc := 150) (e_s := (3, 1, 0, 0, 0, .null, [])) (y_s := (151, [some (.ref _), some (.int _), some (.int _), some (.int _), some (.int _)], [.ref _, .ref _], _)) rfl (u_ rfl) ?_
        refine w20 (pc := 151) (len_s := 3) rfl ?_
        refine w_t (pc := 154) (e_s := (0, 1, 0, 0, 0, .int 0, [])) (y_s := (155, [some (.ref _), some (.int _), some (.int _), some (.int _), some (.int _)], [.int _, .int _, .ref _], _)) rfl (u_ rfl) ?_
        refine w_t (pc := 155) (e_s := (1, 1, 3, 0, 0, .null, [])) (y_s := (156, [some (.ref _), some (.int _), some (.int _), some (.int _), some (.int _)], [.int _, .int _, .int _, .ref _], _)) rfl (u_ rfl) ?_
        refine w_t (pc := 156) (e_s := (1, 2, 4, 0, 0, .null, [])) (y_s := (158, [some (.ref _), some (.int _), some (.int _), some (.int _), some (.int _)], [.int _, .int _, .int _, .int _, .ref _], _)) rfl (u_ rfl) ?_
        refine wcI (pc := 158) (len_s := 3) rfl rfl (l := [some (.ref _), some (.int _), some (.int _), some (.int _), some (.int _), none, none]) rfl (wmI t_s (fun v6 h6 hk t_s => ?_))
        replace t_s := t_s hk
        refine w_t (pc := 161) (e_s := (0, 1, 0, 0, 0, .int 2, [])) (y_s := (162, [some (.ref _), some (.int _), some (.int _), some (.int _), some (.int _)], [.int _, .int _], _)) rfl (u_ rfl) ?_
        refine w_t (pc := 162) (e_s := (7, 1, 0, 2, 0, .null, [])) (y_s := (163, [some (.ref _), some (.int _), some (.int _), some (.int _), some (.int _)], [.int (_ * _)], _)) rfl (u_ rfl) ?_
        exact wrI (pc := 163) (len_s := 1) rfl hk t_s
      · replace t_s := t_s.2 c5_s
        refine wsc (X_s := 11) rfl (by decide) (fun c7_s => ?_) (fun c7_s => ?_)
        · replace t_s := t_s.1 c7_s
          refine w_t (pc := 164) (e_s := (1, 1, 3, 0, 0, .null, [])) (y_s := (165, [some (.ref _), some (.int _), some (.int _), some (.int _), some (.int _)], [.int _], _)) rfl (u_ rfl) ?_
          refine w_t (pc := 165) (e_s := (3, 1, 0, 0, 0, .null, [])) (y_s := (166, [some (.ref _), some (.int _), some (.int _), some (.int _), some (.int _)], [.ref _, .int _], _)) rfl (u_ rfl) ?_
          refine w20 (pc := 166) (len_s := 3) rfl ?_
          refine w_t (pc := 169) (e_s := (7, 1, 0, 5, 0, .null, [])) (y_s := (170, [some (.ref _), some (.int _), some (.int _), some (.int _), some (.int _)], [.int (_ ^^^ _)], _)) rfl (u_ rfl) ?_
          exact wrI (pc := 170) (len_s := 1) rfl hk t_s
        · replace t_s := t_s.2 c7_s
          refine wsc (X_s := 20) rfl (by decide) (fun c8_s => ?_) (fun c8_s => ?_)
          · replace t_s := t_s.1 c8_s
            refine w_t (pc := 171) (e_s := (3, 1, 0, 0, 0, .null, [])) (y_s := (172, [some (.ref _), some (.int _), some (.int _), some (.int _), some (.int _)], [.ref _], _)) rfl (u_ rfl) ?_
            refine w_t (pc := 172) (e_s := (1, 1, 2, 0, 0, .null, [])) (y_s := (173, [some (.ref _), some (.int _), some (.int _), some (.int _), some (.int _)], [.int _, .ref _], _)) rfl (u_ rfl) ?_
            refine w_t (pc := 173) (e_s := (0, 1, 0, 0, 0, .int 0, [])) (y_s := (174, [some (.ref _), some (.int _), some (.int _), some (.int _), some (.int _)], [.int _, .int _, .ref _], _)) rfl (u_ rfl) ?_
            refine w_t (pc := 174) (e_s := (1, 1, 3, 0, 0, .null, [])) (y_s := (175, [some (.ref _), some (.int _), some (.int _), some (.int _), some (.int _)], [.int _, .int _, .int _, .ref _], _)) rfl (u_ rfl) ?_
            refine w_t (pc := 175) (e_s := (1, 2, 4, 0, 0, .null, [])) (y_s := (177, [some (.ref _), some (.int _), some (.int _), some (.int _), some (.int _)], [.int _, .int _, .int _, .int _, .ref _], _)) rfl (u_ rfl) ?_
            refine wcI (pc := 177) (len_s := 3) rfl rfl (l := [some (.ref _), some (.int _), some (.int _), some (.int _), some (.int _), none, none]) rfl (wmI t_s (fun v9 h9 hk t_s => ?_))
            replace t_s := t_s hk
            refine w_t (pc := 180) (e_s := (0, 1, 0, 0, 0, .int 3, [])) (y_s := (181, [some (.ref _), some (.int _), some (.int _), some (.int _), some (.int _)], [.int _, .int _], _)) rfl (u_ rfl) ?_
            refine w_t (pc := 181) (e_s := (7, 1, 0, 0, 0, .null, [])) (y_s := (182, [some (.ref _), some (.int _), some (.int _), some (.int _), some (.int _)], [.int (_ + _)], _)) rfl (u_ rfl) ?_
            exact wrI (pc := 182) (len_s := 1) rfl hk t_s
          · replace t_s := t_s.2 c8_s
            refine wsc (X_s := 30) rfl (by decide) (fun c10_s => ?_) (fun c10_s => ?_)
            · replace t_s := t_s.1 c10_s
              refine w_t (pc := 183) (e_s := (3, 1, 0, 0, 0, .null, [])) (y_s := (184, [some (.ref _), some (.int _), some (.int _), some (.int _), some (.int _)], [.ref _], _)) rfl (u_ rfl) ?_
              refine w_t (pc := 184) (e_s := (1, 1, 2, 0, 0, .null, [])) (y_s := (185, [some (.ref _), some (.int _), some (.int _), some (.int _), some (.int _)], [.int _, .ref _], _)) rfl (u_ rfl) ?_
              refine w_t (pc := 185) (e_s := (0, 1, 0, 0, 0, .int 1, [])) (y_s := (186, [some (.ref _), some (.int _), some (.int _), some (.int _), some (.int _)], [.int _, .int _, .ref _], _)) rfl (u_ rfl) ?_
              refine w_t (pc := 186) (e_s := (1, 1, 3, 0, 0, .null, [])) (y_s := (187, [some (.ref _), some (.int _), some (.int _), some (.int _), some (.int _)], [.int _, .int _, .int _, .ref _], _)) rfl (u_ rfl) ?_
              refine w_t (pc := 187) (e_s := (1, 2, 4, 0, 0, .null, [])) (y_s := (189, [some (.ref _), some (.int _), some (.int _), some (.int _), some (.int _)], [.int _, .int _, .int _, .int _, .ref _], _)) rfl (u_ rfl) ?_
              refine wcI (pc := 189) (len_s := 3) rfl rfl (l := [some (.ref _), some (.int _), some (.int _), some (.int _), some (.int _), none, none]) rfl (wmI t_s (fun v11 h11 hk t_s => ?_))
              replace t_s := t_s hk
              refine w_t (pc := 192) (e_s := (9, 1, 0, 0, 0, .null, [])) (y_s := (193, [some (.ref _), some (.int _), some (.int _), some (.int _), some (.int _)], [.int (-_)], _)) rfl (u_ rfl) ?_
              exact wrI (pc := 193) (len_s := 1) rfl hk t_s
            · replace t_s := t_s.2 c10_s
              refine wsc (X_s := 40) rfl (by decide) (fun c12_s => ?_) (fun c12_s => ?_)
              · replace t_s := t_s.1 c12_s
                refine w_t (pc := 194) (e_s := (3, 1, 0, 0, 0, .null, [])) (y_s := (195, [some (.ref _), some (.int _), some (.int _), some (.int _), some (.int _)], [.ref _], _)) rfl (u_ rfl) ?_
                refine w_t (pc := 195) (e_s := (1, 1, 2, 0, 0, .null, [])) (y_s := (196, [some (.ref _), some (.int _), some (.int _), some (.int _), some (.int _)], [.int _, .ref _], _)) rfl (u_ rfl) ?_
                refine w_t (pc := 196) (e_s := (0, 1, 0, 0, 0, .int 2, [])) (y_s := (197, [some (.ref _), some (.int _), some (.int _), some (.int _), some (.int _)], [.int _, .int _, .ref _], _)) rfl (u_ rfl) ?_
                refine w_t (pc := 197) (e_s := (1, 1, 3, 0, 0, .null, [])) (y_s := (198, [some (.ref _), some (.int _), some (.int _), some (.int _), some (.int _)], [.int _, .int _, .int _, .ref _], _)) rfl (u_ rfl) ?_
                refine w_t (pc := 198) (e_s := (1, 2, 4, 0, 0, .null, [])) (y_s := (200, [some (.ref _), some (.int _), some (.int _), some (.int _), some (.int _)], [.int _, .int _, .int _, .int _, .ref _], _)) rfl (u_ rfl) ?_
                refine wcI (pc := 200) (len_s := 3) rfl rfl (l := [some (.ref _), some (.int _), some (.int _), some (.int _), some (.int _), none, none]) rfl (wmI t_s (fun v13 h13 hk t_s => ?_))
                replace t_s := t_s hk
                refine w_t (pc := 203) (e_s := (0, 1, 0, 0, 0, .int 3, [])) (y_s := (204, [some (.ref _), some (.int _), some (.int _), some (.int _), some (.int _)], [.int _, .int _], _)) rfl (u_ rfl) ?_
                refine w_t (pc := 204) (e_s := (7, 1, 0, 2, 0, .null, [])) (y_s := (205, [some (.ref _), some (.int _), some (.int _), some (.int _), some (.int _)], [.int (_ * _)], _)) rfl (u_ rfl) ?_
                exact wrI (pc := 205) (len_s := 1) rfl hk t_s
              · replace t_s := t_s.2 c12_s
                refine wsc (X_s := 41) rfl (by decide) (fun c14_s => ?_) (fun c14_s => ?_)
                · replace t_s := t_s.1 c14_s
                  refine w_t (pc := 206) (e_s := (3, 1, 0, 0, 0, .null, [])) (y_s := (207, [some (.ref _), some (.int _), some (.int _), some (.int _), some (.int _)], [.ref _], _)) rfl (u_ rfl) ?_
                  refine w_t (pc := 207) (e_s := (1, 1, 2, 0, 0, .null, [])) (y_s := (208, [some (.ref _), some (.int _), some (.int _), some (.int _), some (.int _)], [.int _, .ref _], _)) rfl (u_ rfl) ?_
                  refine w_t (pc := 208) (e_s := (0, 1, 0, 0, 0, .int 1, [])) (y_s := (209, [some (.ref _), some (.int _), some (.int _), some (.int _), some (.int _)], [.int _, .int _, .ref _], _)) rfl (u_ rfl) ?_
                  refine w_t (pc := 209) (e_s := (1, 1, 3, 0, 0, .null, [])) (y_s := (210, [some (.ref _), some (.int _), some (.int _), some (.int _), some (.int _)], [.int _, .int _, .int _, .ref _], _)) rfl (u_ rfl) ?_
                  refine w_t (pc := 210) (e_s := (0, 1, 0, 0, 0, .int 1, [])) (y_s := (211, [some (.ref _), some (.int _), some (.int _), some (.int _), some (.int _)], [.int _, .int _, .int _, .int _, .ref _], _)) rfl (u_ rfl) ?_
                  refine w_t (pc := 211) (e_s := (7, 1, 0, 0, 0, .null, [])) (y_s := (212, [some (.ref _), some (.int _), some (.int _), some (.int _), some (.int _)], [.int (_ + _), .int _, .int _, .ref _], _)) rfl (u_ rfl) ?_
                  refine w_t (pc := 212) (e_s := (1, 2, 4, 0, 0, .null, [])) (y_s := (214, [some (.ref _), some (.int _), some (.int _), some (.int _), some (.int _)], [.int _, .int _, .int _, .int _, .ref _], _)) rfl (u_ rfl) ?_
                  refine wcI (pc := 214) (len_s := 3) rfl rfl (l := [some (.ref _), some (.int _), some (.int _), some (.int _), some (.int _), none, none]) rfl (wmI t_s (fun v15 h15 hk t_s => ?_))
                  replace t_s := t_s hk
                  exact wrI (pc := 217) (len_s := 1) rfl hk t_s
                · replace t_s := t_s.2 c14_s
                  refine wsc (X_s := 50) rfl (by decide) (fun c16 => ?_) (fun c16 => ?_)
                  · replace t_s := t_s.1 c16
                    refine w_t (pc := 218) (e_s := (3, 1, 0, 0, 0, .null, [])) (y_s := (219, [some (.ref _), some (.int _), some (.int _), some (.int _), some (.int _)], [.ref _], _)) rfl (u_ rfl) ?_
                    refine w_t (pc := 219) (e_s := (1, 1, 2, 0, 0, .null, [])) (y_s := (220, [some (.ref _), some (.int _), some (.int _), some (.int _), some (.int _)], [.int _, .ref _], _)) rfl (u_ rfl) ?_
                    refine w_t (pc := 220) (e_s := (0, 1, 0, 0, 0, .int 2, [])) (y_s := (221, [some (.ref _), some (.int _), some (.int _), some (.int _), some (.int _)], [.int _, .int _, .ref _], _)) rfl (u_ rfl) ?_
                    refine w_t (pc := 221) (e_s := (1, 1, 3, 0, 0, .null, [])) (y_s := (222, [some (.ref _), some (.int _), some (.int _), some (.int _), some (.int _)], [.int _, .int _, .int _, .ref _], _)) rfl (u_ rfl) ?_
                    refine w_t (pc := 222) (e_s := (1, 2, 4, 0, 0, .null, [])) (y_s := (224, [some (.ref _), some (.int _), some (.int _), some (.int _), some (.int _)], [.int _, .int _, .int _, .int _, .ref _], _)) rfl (u_ rfl) ?_
                    refine wcI (pc := 224) (len_s := 3) rfl rfl (l := [some (.ref _), some (.int _), some (.int _), some (.int _), some (.int _), none, none]) rfl (wmI t_s (fun v17 h17 hk t_s => ?_))
                    replace t_s := t_s hk
                    refine w_t (pc := 227) (e_s := (3, 1, 0, 0, 0, .null, [])) (y_s := (228, [some (.ref _), some (.int _), some (.int _), some (.int _), some (.int _)], [.ref _, .int _], _)) rfl (u_ rfl) ?_
                    refine w_t (pc := 228) (e_s := (3, 1, 0, 0, 0, .null, [])) (y_s := (229, [some (.ref _), some (.int _), some (.int _), some (.int _), some (.int _)], [.ref _, .ref _, .int _], _)) rfl (u_ rfl) ?_
                    refine w20 (pc := 229) (len_s := 3) rfl ?_
                    refine w_t (pc := 232) (e_s := (0, 1, 0, 0, 0, .int 0, [])) (y_s := (233, [some (.ref _), some (.int _), some (.int _), some (.int _), some (.int _)], [.int _, .int _, .ref _, .int _], _)) rfl (u_ rfl) ?_
                    refine w_t (pc := 233) (e_s := (0, 1, 0, 0, 0, .int 2, [])) (y_s := (234, [some (.ref _), some (.int _), some (.int _), some (.int _), some (.int _)], [.int _, .int _, .int _, .ref _, .int _], _)) rfl (u_ rfl) ?_
                    refine w_t (pc := 234) (e_s := (1, 2, 4, 0, 0, .null, [])) (y_s := (236, [some (.ref _), some (.int _), some (.int _), some (.int _), some (.int _)], [.int _, .int _, .int _, .int _, .ref _, .int _], _)) rfl (u_ rfl) ?_
                    refine wcI (pc := 236) (len_s := 3) rfl rfl (l := [some (.ref _), some (.int _), some (.int _), some (.int _), some (.int _), none, none]) rfl (wmI t_s (fun v18 h18 hk t_s => ?_))
                    replace t_s := t_s hk
                    refine w_t (pc := 239) (e_s := (7, 1, 0, 1, 0, .null, [])) (y_s := (240, [some (.ref _), some (.int _), some (.int _), some (.int _), some (.int _)], [.int (_ - _)], _)) rfl (u_ rfl) ?_
                    exact wrI (pc := 240) (len_s := 1) rfl hk t_s
                  · replace t_s := t_s.2 c16
                    refine wsc (X_s := 60) rfl (by decide) (fun c19_s => ?_) (fun c19_s => ?_)
                    · replace t_s := t_s.1 c19_s
                      refine w_t (pc := 241) (e_s := (3, 1, 0, 0, 0, .null, [])) (y_s := (242, [some (.ref _), some (.int _), some (.int _), some (.int _), some (.int _)], [.ref _], _)) rfl (u_ rfl) ?_
                      refine w_t (pc := 242) (e_s := (1, 1, 2, 0, 0, .null, [])) (y_s := (243, [some (.ref _), some (.int _), some (.int _), some (.int _), some (.int _)], [.int _, .ref _], _)) rfl (u_ rfl) ?_
                      refine w_t (pc := 243) (e_s := (0, 1, 0, 0, 0, .int 3, [])) (y_s := (244, [some (.ref _), some (.int _), some (.int _), some (.int _), some (.int _)], [.int _, .int _, .ref _], _)) rfl (u_ rfl) ?_
                      refine w_t (pc := 244) (e_s := (1, 1, 3, 0, 0, .null, [])) (y_s := (245, [some (.ref _), some (.int _), some (.int _), some (.int _), some (.int _)], [.int _, .int _, .int _, .ref _], _)) rfl (u_ rfl) ?_
                      refine w_t (pc := 245) (e_s := (1, 2, 4, 0, 0, .null, [])) (y_s := (247, [some (.ref _), some (.int _), some (.int _), some (.int _), some (.int _)], [.int _, .int _, .int _, .int _, .ref _], _)) rfl (u_ rfl) ?_
                      refine wcI (pc := 247) (len_s := 3) rfl rfl (l := [some (.ref _), some (.int _), some (.int _), some (.int _), some (.int _), none, none]) rfl (wmI t_s (fun v20 h20 hk t_s => ?_))
                      replace t_s := t_s hk
                      refine w_t (pc := 250) (e_s := (0, 1, 0, 0, 0, .int 5, [])) (y_s := (251, [some (.ref _), some (.int _), some (.int _), some (.int _), some (.int _)], [.int _, .int _], _)) rfl (u_ rfl) ?_
                      refine w_t (pc := 251) (e_s := (7, 1, 0, 5, 0, .null, [])) (y_s := (252, [some (.ref _), some (.int _), some (.int _), some (.int _), some (.int _)], [.int (_ ^^^ _)], _)) rfl (u_ rfl) ?_
                      exact wrI (pc := 252) (len_s := 1) rfl hk t_s
                    · replace t_s := t_s.2 c19_s
                      refine wsc (X_s := 70) rfl (by decide) (fun c21 => ?_) (fun c21 => ?_)
                      · replace t_s := t_s.1 c21
                        refine w_t (pc := 253) (e_s := (3, 1, 0, 0, 0, .null, [])) (y_s := (254, [some (.ref _), some (.int _), some (.int _), some (.int _), some (.int _)], [.ref _], _)) rfl (u_ rfl) ?_
                        refine w_t (pc := 254) (e_s := (1, 1, 2, 0, 0, .null, [])) (y_s := (255, [some (.ref _), some (.int _), some (.int _), some (.int _), some (.int _)], [.int _, .ref _], _)) rfl (u_ rfl) ?_
                        refine w_t (pc := 255) (e_s := (0, 1, 0, 0, 0, .int 0, [])) (y_s := (256, [some (.ref _), some (.int _), some (.int _), some (.int _), some (.int _)], [.int _, .int _, .ref _], _)) rfl (u_ rfl) ?_
                        refine w_t (pc := 256) (e_s := (1, 1, 3, 0, 0, .null, [])) (y_s := (257, [some (.ref _), some (.int _), some (.int _), some (.int _), some (.int _)], [.int _, .int _, .int _, .ref _], _)) rfl (u_ rfl) ?_
                        refine w_t (pc := 257) (e_s := (1, 2, 4, 0, 0, .null, [])) (y_s := (259, [some (.ref _), some (.int _), some (.int _), some (.int _), some (.int _)], [.int _, .int _, .int _, .int _, .ref _], _)) rfl (u_ rfl) ?_
                        refine wcI (pc := 259) (len_s := 3) rfl rfl (l := [some (.ref _), some (.int _), some (.int _), some (.int _), some (.int _), none, none]) rfl (wmI t_s (fun v22 h22 hk t_s => ?_))
                        replace t_s := t_s hk
                        refine w_t (pc := 262) (e_s := (0, 1, 0, 0, 0, .int 2, [])) (y_s := (263, [some (.ref _), some (.int _), some (.int _), some (.int _), some (.int _)], [.int _, .int _], _)) rfl (u_ rfl) ?_
                        refine w_t (pc := 263) (e_s := (7, 1, 0, 2, 0, .null, [])) (y_s := (264, [some (.ref _), some (.int _), some (.int _), some (.int _), some (.int _)], [.int (_ * _)], _)) rfl (u_ rfl) ?_
                        exact wrI (pc := 264) (len_s := 1) rfl hk t_s
                      · replace t_s := t_s.2 c21
                        refine wsc (X_s := 80) rfl (by decide) (fun c23_s => ?_) (fun c23_s => ?_)
                        · replace t_s := t_s.1 c23_s
                          refine w_t (pc := 265) (e_s := (3, 1, 0, 0, 0, .null, [])) (y_s := (266, [some (.ref _), some (.int _), some (.int _), some (.int _), some (.int _)], [.ref _], _)) rfl (u_ rfl) ?_
                          refine w_t (pc := 266) (e_s := (1, 1, 2, 0, 0, .null, [])) (y_s := (267, [some (.ref _), some (.int _), some (.int _), some (.int _), some (.int _)], [.int _, .ref _], _)) rfl (u_ rfl) ?_
                          refine w_t (pc := 267) (e_s := (0, 1, 0, 0, 0, .int 1, [])) (y_s := (268, [some (.ref _), some (.int _), some (.int _), some (.int _), some (.int _)], [.int _, .int _, .ref _], _)) rfl (u_ rfl) ?_
                          refine w_t (pc := 268) (e_s := (1, 1, 3, 0, 0, .null, [])) (y_s := (269, [some (.ref _), some (.int _), some (.int _), some (.int _), some (.int _)], [.int _, .int _, .int _, .ref _], _)) rfl (u_ rfl) ?_
                          refine w_t (pc := 269) (e_s := (1, 2, 4, 0, 0, .null, [])) (y_s := (271, [some (.ref _), some (.int _), some (.int _), some (.int _), some (.int _)], [.int _, .int _, .int _, .int _, .ref _], _)) rfl (u_ rfl) ?_
                          refine wcI (pc := 271) (len_s := 3) rfl rfl (l := [some (.ref _), some (.int _), some (.int _), some (.int _), some (.int _), none, none]) rfl (wmI t_s (fun v24 h24 hk t_s => ?_))
                          replace t_s := t_s hk
                          refine w_t (pc := 274) (e_s := (3, 1, 0, 0, 0, .null, [])) (y_s := (275, [some (.ref _), some (.int _), some (.int _), some (.int _), some (.int _)], [.ref _, .int _], _)) rfl (u_ rfl) ?_
                          refine w_t (pc := 275) (e_s := (3, 1, 0, 0, 0, .null, [])) (y_s := (276, [some (.ref _), some (.int _), some (.int _), some (.int _), some (.int _)], [.ref _, .ref _, .int _], _)) rfl (u_ rfl) ?_
                          refine w20 (pc := 276) (len_s := 3) rfl ?_
                          refine w_t (pc := 279) (e_s := (0, 1, 0, 0, 0, .int 2, [])) (y_s := (280, [some (.ref _), some (.int _), some (.int _), some (.int _), some (.int _)], [.int _, .int _, .ref _, .int _], _)) rfl (u_ rfl) ?_
                          refine w_t (pc := 280) (e_s := (0, 1, 0, 0, 0, .int 2, [])) (y_s := (281, [some (.ref _), some (.int _), some (.int _), some (.int _), some (.int _)], [.int _, .int _, .int _, .ref _, .int _], _)) rfl (u_ rfl) ?_
                          refine w_t (pc := 281) (e_s := (1, 2, 4, 0, 0, .null, [])) (y_s := (283, [some (.ref _), some (.int _), some (.int _), some (.int _), some (.int _)], [.int _, .int _, .int _, .int _, .ref _, .int _], _)) rfl (u_ rfl) ?_
                          refine wcI (pc := 283) (len_s := 3) rfl rfl (l := [some (.ref _), some (.int _), some (.int _), some (.int _), some (.int _), none, none]) rfl (wmI t_s (fun v25 h25 hk t_s => ?_))
                          replace t_s := t_s hk
                          refine w_t (pc := 286) (e_s := (7, 1, 0, 0, 0, .null, [])) (y_s := (287, [some (.ref _), some (.int _), some (.int _), some (.int _), some (.int _)], [.int (_ + _)], _)) rfl (u_ rfl) ?_
                          exact wrI (pc := 287) (len_s := 1) rfl hk t_s
                        · replace t_s := t_s.2 c23_s
                          refine wsc (X_s := 81) rfl (by decide) (fun c26 => ?_) (fun c26 => ?_)
                          · replace t_s := t_s.1 c26
                            refine w_t (pc := 288) (e_s := (3, 1, 0, 0, 0, .null, [])) (y_s := (289, [some (.ref _), some (.int _), some (.int _), some (.int _), some (.int _)], [.ref _], _)) rfl (u_ rfl) ?_
                            refine w_t (pc := 289) (e_s := (1, 1, 2, 0, 0, .null, [])) (y_s := (290, [some (.ref _), some (.int _), some (.int _), some (.int _), some (.int _)], [.int _, .ref _], _)) rfl (u_ rfl) ?_
                            refine w_t (pc := 290) (e_s := (0, 1, 0, 0, 0, .int 3, [])) (y_s := (291, [some (.ref _), some (.int _), some (.int _), some (.int _), some (.int _)], [.int _, .int _, .ref _], _)) rfl (u_ rfl) ?_
                            refine w_t (pc := 291) (e_s := (1, 1, 3, 0, 0, .null, [])) (y_s := (292, [some (.ref _), some (.int _), some (.int _), some (.int _), some (.int _)], [.int _, .int _, .int _, .ref _], _)) rfl (u_ rfl) ?_
                            refine w_t (pc := 292) (e_s := (1, 2, 4, 0, 0, .null, [])) (y_s := (294, [some (.ref _), some (.int _), some (.int _), some (.int _), some (.int _)], [.int _, .int _, .int _, .int _, .ref _], _)) rfl (u_ rfl) ?_
                            refine wcI (pc := 294) (len_s := 3) rfl rfl (l := [some (.ref _), some (.int _), some (.int _), some (.int _), some (.int _), none, none]) rfl (wmI t_s (fun v27 h27 hk t_s => ?_))
                            replace t_s := t_s hk
                            refine w_t (pc := 297) (e_s := (0, 1, 0, 0, 0, .int 1, [])) (y_s := (298, [some (.ref _), some (.int _), some (.int _), some (.int _), some (.int _)], [.int _, .int _], _)) rfl (u_ rfl) ?_
                            refine w_t (pc := 298) (e_s := (7, 1, 0, 1, 0, .null, [])) (y_s := (299, [some (.ref _), some (.int _), some (.int _), some (.int _), some (.int _)], [.int (_ - _)], _)) rfl (u_ rfl) ?_
                            exact wrI (pc := 299) (len_s := 1) rfl hk t_s
                          · replace t_s := t_s.2 c26
                            show wF _ _ (300, _, _, _) _
                            refine w_t (pc := 300) (e_s := (0, 1, 0, 0, 0, .int 0, [])) (y_s := (301, [some (.ref _), some (.int _), some (.int _), some (.int _), some (.int _)], [.int _], _)) rfl (u_ rfl) ?_
                            exact wrI (pc := 301) (len_s := 1) rfl hk t_s
/-- ColdShodModel.act(III)I, from 0 on -/
theorem sg_226_0 {F_s : Nat} {x1_s : Int32} {x2_s : Int32} {x3 : Int32} {h_s : zH} {K_s : Int32 → zH → Prop} (hk : hKn h_s) (t_s : (x1_s.toInt < 0 → K_s 0 (h_s.1, zup h_s.2.1 102 42 0, h_s.2.2.1, h_s.2.2.2)) ∧ (¬ x1_s.toInt < 0 → ((((h_s.2.1 102 39) - 1).toInt < x1_s.toInt → K_s 0 (h_s.1, zup h_s.2.1 102 42 0, h_s.2.2.1, h_s.2.2.2)) ∧ (¬ ((h_s.2.1 102 39) - 1).toInt < x1_s.toInt → (zix x1_s < 50 → (x2_s.toInt = 0 → wF F_s 222 (0, [some (.ref 102), some (.int (h_s.2.1 122 (zix x1_s))), some (.int x3)], [], (h_s.1, zup (zup (zup h_s.2.1 102 42 0) 102 43 (h_s.2.1 122 (zix x1_s))) 102 44 x1_s, h_s.2.2.1, h_s.2.2.2)) (gI (fun v5 h5 => hKn h5 → K_s v5 h5))) ∧ (¬ x2_s.toInt = 0 → (x2_s.toInt = 1 → wF F_s 223 (0, [some (.ref 102), some (.int (h_s.2.1 122 (zix x1_s))), some (.int x3), none], [], (h_s.1, zup (zup (zup h_s.2.1 102 42 0) 102 43 (h_s.2.1 122 (zix x1_s))) 102 44 x1_s, h_s.2.2.1, h_s.2.2.2)) (gI (fun v7 h7 => hKn h7 → K_s v7 h7))) ∧ (¬ x2_s.toInt = 1 → (x2_s.toInt = 2 → wF F_s 224 (0, [some (.ref 102), some (.int (h_s.2.1 122 (zix x1_s))), some (.int x3), none], [], (h_s.1, zup (zup (zup h_s.2.1 102 42 0) 102 43 (h_s.2.1 122 (zix x1_s))) 102 44 x1_s, h_s.2.2.1, h_s.2.2.2)) (gI (fun v9 h9 => hKn h9 → K_s v9 h9))) ∧ (¬ x2_s.toInt = 2 → (x2_s.toInt = 3 → wF F_s 225 (0, [some (.ref 102), some (.int (h_s.2.1 122 (zix x1_s))), some (.int x3), none], [], (h_s.1, zup (zup (zup h_s.2.1 102 42 0) 102 43 (h_s.2.1 122 (zix x1_s))) 102 44 x1_s, h_s.2.2.1, h_s.2.2.2)) (gI (fun v11 h11 => hKn h11 → K_s v11 h11))) ∧ (¬ x2_s.toInt = 3 → K_s 0 (h_s.1, zup (zup (zup h_s.2.1 102 42 0) 102 43 (h_s.2.1 122 (zix x1_s))) 102 44 x1_s, h_s.2.2.1, h_s.2.2.2)))))))))) : wF (F_s + 1) 226 (0, [some (.ref 102), some (.int x1_s), some (.int x2_s), some (.int x3)], [], h_s) (gI K_s) := by
  refine w_0 (pc := 0) (e_s := (3, 1, 0, 0, 0, .null, [])) (y_s := (1, [some (.ref _), some (.int _), some (.int _), some (.int _)], [.ref _], _)) rfl (u_ rfl) ?_
  refine w_t (pc := 1) (e_s := (0, 1, 0, 0, 0, .int 0, [])) (y_s := (2, [some (.ref _), some (.int _), some (.int _), some (.int _)], [.int _, .ref _], _)) rfl (u_ rfl) ?_
  refine w21 (pc := 2) (len_s := 3) rfl ?_
  refine w_t (pc := 5) (e_s := (3, 1, 0, 0, 0, .null, [])) (y_s := (6, [some (.ref _), some (.int _), some (.int _), some (.int _)], [.ref _], _)) rfl (u_ rfl) ?_
  refine w_t (pc := 6) (e_s := (1, 1, 1, 0, 0, .null, [])) (y_s := (7, [some (.ref _), some (.int _), some (.int _), some (.int _)], [.int _, .ref _], _)) rfl (u_ rfl) ?_
  refine wcI (pc := 7) (len_s := 3) rfl rfl (l := [some (.ref _), some (.int _)]) rfl ?_
  refine w_t (pc := 0) (e_s := (1, 1, 1, 0, 0, .null, [])) (y_s := (1, [some (.ref _), some (.int _)], [.int _], _)) rfl (u_ rfl) ?_
  refine w_t (pc := 1) (e_s := (10, 1, 0, 0, 0, .null, [])) (y_s := (2, [some (.ref _), some (.int _)], [.long (Int32.toInt64 _)], _)) rfl (u_ rfl) ?_
  refine w_t (pc := 2) (e_s := (0, 1, 0, 0, 0, .long 0, [])) (y_s := (3, [some (.ref _), some (.int _)], [.long _, .long _], _)) rfl (u_ rfl) ?_
  refine w_t (pc := 3) (e_s := (3, 1, 0, 0, 0, .null, [])) (y_s := (4, [some (.ref _), some (.int _)], [.ref _, .long _, .long _], _)) rfl (u_ rfl) ?_
  refine w20 (pc := 4) (len_s := 3) rfl ?_
  refine w_t (pc := 7) (e_s := (0, 1, 0, 0, 0, .int 1, [])) (y_s := (8, [some (.ref _), some (.int _)], [.int _, .int _, .long _, .long _], _)) rfl (u_ rfl) ?_
  refine w_t (pc := 8) (e_s := (7, 1, 0, 1, 0, .null, [])) (y_s := (9, [some (.ref _), some (.int _)], [.int (_ - _), .long _, .long _], _)) rfl (u_ rfl) ?_
  refine w_t (pc := 9) (e_s := (10, 1, 0, 0, 0, .null, [])) (y_s := (10, [some (.ref _), some (.int _)], [.long (Int32.toInt64 _), .long _, .long _], _)) rfl (u_ rfl) ?_
  refine wcI (pc := 10) (len_s := 3) rfl rfl (l := [some (.long _), none, some (.long _), none, some (.long _), none]) rfl ?_
  refine w_t (pc := 0) (e_s := (2, 1, 0, 0, 0, .null, [])) (y_s := (1, [some (.long _), none, some (.long _), none, some (.long _), none], [.long _], _)) rfl (u_ rfl) ?_
  refine w_t (pc := 1) (e_s := (2, 1, 2, 0, 0, .null, [])) (y_s := (2, [some (.long _), none, some (.long _), none, some (.long _), none], [.long _, .long _], _)) rfl (u_ rfl) ?_
  refine w_t (pc := 2) (e_s := (14, 1, 0, 0, 0, .null, [])) (y_s := (3, [some (.long _), none, some (.long _), none, some (.long _), none], [.int (lg_cmp _ _)], _)) rfl (u_ rfl) ?_
  refine wl2 (pc := 3) (len_s := 3) (Y := 0) rfl (Int32.toInt_toInt64 _) (by decide) (fun c1_s => ?_) (fun c1_s => ?_)
  · replace t_s := t_s.1 c1_s
    refine w_t (pc := 17) (e_s := (0, 1, 0, 0, 0, .int 0, [])) (y_s := (18, [some (.long _), none, some (.long _), none, some (.long _), none], [.int _], _)) rfl (u_ rfl) ?_
    refine wrI (pc := 18) (len_s := 1) rfl hk ?_
    show wF _ 217 (13, [some (.ref _), some (.int _)], [.int _], _) _
    refine wrI (pc := 13) (len_s := 1) rfl hk ?_
    show wF _ 226 (10, [some (.ref _), some (.int _), some (.int _), some (.int _)], [.int _], _) _
    refine w_t (pc := 10) (e_s := (15, 3, 15, 1, 0, .null, [])) (y_s := (13, [some (.ref _), some (.int _), some (.int _), some (.int _)], [], _)) rfl (u_ rfl) ?_
    refine w_t (pc := 13) (e_s := (0, 1, 0, 0, 0, .int 0, [])) (y_s := (14, [some (.ref _), some (.int _), some (.int _), some (.int _)], [.int _], _)) rfl (u_ rfl) ?_
    exact wrI (pc := 14) (len_s := 1) rfl hk t_s
  · replace t_s := t_s.2 c1_s
    refine w_t (pc := 6) (e_s := (2, 1, 0, 0, 0, .null, [])) (y_s := (7, [some (.long _), none, some (.long _), none, some (.long _), none], [.long _], _)) rfl (u_ rfl) ?_
    refine w_t (pc := 7) (e_s := (2, 2, 4, 0, 0, .null, [])) (y_s := (9, [some (.long _), none, some (.long _), none, some (.long _), none], [.long _, .long _], _)) rfl (u_ rfl) ?_
    refine w_t (pc := 9) (e_s := (14, 1, 0, 0, 0, .null, [])) (y_s := (10, [some (.long _), none, some (.long _), none, some (.long _), none], [.int (lg_cmp _ _)], _)) rfl (u_ rfl) ?_
    refine wl4 (pc := 10) (len_s := 3) rfl (Int32.toInt_toInt64 _) (Int32.toInt_toInt64 _) (fun c2_s => ?_) (fun c2_s => ?_)
    · replace t_s := t_s.1 c2_s
      refine w_t (pc := 17) (e_s := (0, 1, 0, 0, 0, .int 0, [])) (y_s := (18, [some (.long _), none, some (.long _), none, some (.long _), none], [.int _], _)) rfl (u_ rfl) ?_
      refine wrI (pc := 18) (len_s := 1) rfl hk ?_
      show wF _ 217 (13, [some (.ref _), some (.int _)], [.int _], _) _
      refine wrI (pc := 13) (len_s := 1) rfl hk ?_
      show wF _ 226 (10, [some (.ref _), some (.int _), some (.int _), some (.int _)], [.int _], _) _
      refine w_t (pc := 10) (e_s := (15, 3, 15, 1, 0, .null, [])) (y_s := (13, [some (.ref _), some (.int _), some (.int _), some (.int _)], [], _)) rfl (u_ rfl) ?_
      refine w_t (pc := 13) (e_s := (0, 1, 0, 0, 0, .int 0, [])) (y_s := (14, [some (.ref _), some (.int _), some (.int _), some (.int _)], [.int _], _)) rfl (u_ rfl) ?_
      exact wrI (pc := 14) (len_s := 1) rfl hk t_s
    · replace t_s := t_s.2 c2_s
      refine w_t (pc := 13) (e_s := (0, 1, 0, 0, 0, .int 1, [])) (y_s := (14, [some (.long _), none, some (.long _), none, some (.long _), none], [.int _], _)) rfl (u_ rfl) ?_
      refine w_t (pc := 14) (e_s := (17, 3, 18, 0, 0, .null, [])) (y_s := (18, [some (.long _), none, some (.long _), none, some (.long _), none], [.int _], _)) rfl (u_ rfl) ?_
      refine wrI (pc := 18) (len_s := 1) rfl hk ?_
      show wF _ 217 (13, [some (.ref _), some (.int _)], [.int _], _) _
      refine wrI (pc := 13) (len_s := 1) rfl hk ?_
      show wF _ 226 (10, [some (.ref _), some (.int _), some (.int _), some (.int _)], [.int _], _) _
      refine w_t (pc := 10) (e_s := (15, 3, 15, 1, 0, .null, [])) (y_s := (15, [some (.ref _), some (.int _), some (.int _), some (.int _)], [], _)) rfl (u_ rfl) ?_
      refine w_t (pc := 15) (e_s := (3, 1, 0, 0, 0, .null, [])) (y_s := (16, [some (.ref _), some (.int _), some (.int _), some (.int _)], [.ref _], _)) rfl (u_ rfl) ?_
      refine w_t (pc := 16) (e_s := (3, 1, 0, 0, 0, .null, [])) (y_s := (17, [some (.ref _), some (.int _), some (.int _), some (.int _)], [.ref _, .ref _], _)) rfl (u_ rfl) ?_
      refine w20r (pc := 17) (len_s := 3) (q_s := 122) rfl (krq hk rfl) ?_
      refine w_t (pc := 20) (e_s := (1, 1, 1, 0, 0, .null, [])) (y_s := (21, [some (.ref _), some (.int _), some (.int _), some (.int _)], [.int _, .ref _, .ref _], _)) rfl (u_ rfl) ?_
      refine w22 (pc := 21) (len_s := 1) rfl (hk.1 122 0 50 rfl rfl) (fun c3_s => ?_)
      replace t_s := t_s c3_s
      refine w21 (pc := 22) (len_s := 3) rfl ?_
      refine w_t (pc := 25) (e_s := (3, 1, 0, 0, 0, .null, [])) (y_s := (26, [some (.ref _), some (.int _), some (.int _), some (.int _)], [.ref _], _)) rfl (u_ rfl) ?_
      refine w_t (pc := 26) (e_s := (1, 1, 1, 0, 0, .null, [])) (y_s := (27, [some (.ref _), some (.int _), some (.int _), some (.int _)], [.int _, .ref _], _)) rfl (u_ rfl) ?_
      refine w21 (pc := 27) (len_s := 3) rfl ?_
      refine w_t (pc := 30) (e_s := (1, 1, 2, 0, 0, .null, [])) (y_s := (31, [some (.ref _), some (.int _), some (.int _), some (.int _)], [.int _], _)) rfl (u_ rfl) ?_
      refine wsw (pc := 31) (len_s := 29) rfl ?_
      refine wsc (X_s := 0) rfl (by decide) (fun c4_s => ?_) (fun c4_s => ?_)
      · replace t_s := t_s.1 c4_s
        refine w_t (pc := 60) (e_s := (3, 1, 0, 0, 0, .null, [])) (y_s := (61, [some (.ref _), some (.int _), some (.int _), some (.int _)], [.ref _], _)) rfl (u_ rfl) ?_
        refine w_t (pc := 61) (e_s := (3, 1, 0, 0, 0, .null, [])) (y_s := (62, [some (.ref _), some (.int _), some (.int _), some (.int _)], [.ref _, .ref _], _)) rfl (u_ rfl) ?_
        refine w20 (pc := 62) (len_s := 3) rfl ?_
        refine w_t (pc := 65) (e_s := (1, 1, 3, 0, 0, .null, [])) (y_s := (66, [some (.ref _), some (.int _), some (.int _), some (.int _)], [.int _, .int _, .ref _], _)) rfl (u_ rfl) ?_
        refine wcI (pc := 66) (len_s := 3) rfl rfl (l := [some (.ref _), some (.int _), some (.int _)]) rfl (wmI t_s (fun v5 h5 hk t_s => ?_))
        replace t_s := t_s hk
        exact wrI (pc := 69) (len_s := 1) rfl hk t_s
      · replace t_s := t_s.2 c4_s
        refine wsc (X_s := 1) rfl (by decide) (fun c6_s => ?_) (fun c6_s => ?_)
        · replace t_s := t_s.1 c6_s
          refine w_t (pc := 70) (e_s := (3, 1, 0, 0, 0, .null, [])) (y_s := (71, [some (.ref _), some (.int _), some (.int _), some (.int _)], [.ref _], _)) rfl (u_ rfl) ?_
          refine w_t (pc := 71) (e_s := (3, 1, 0, 0, 0, .null, [])) (y_s := (72, [some (.ref _), some (.int _), some (.int _), some (.int _)], [.ref _, .ref _], _)) rfl (u_ rfl) ?_
          refine w20 (pc := 72) (len_s := 3) rfl ?_
          refine w_t (pc := 75) (e_s := (1, 1, 3, 0, 0, .null, [])) (y_s := (76, [some (.ref _), some (.int _), some (.int _), some (.int _)], [.int _, .int _, .ref _], _)) rfl (u_ rfl) ?_
          refine wcI (pc := 76) (len_s := 3) rfl rfl (l := [some (.ref _), some (.int _), some (.int _), none]) rfl (wmI t_s (fun v7 h7 hk t_s => ?_))
          replace t_s := t_s hk
          exact wrI (pc := 79) (len_s := 1) rfl hk t_s
        · replace t_s := t_s.2 c6_s
          refine wsc (X_s := 2) rfl (by decide) (fun c8_s => ?_) (fun c8_s => ?_)
          · replace t_s := t_s.1 c8_s
            refine w_t (pc := 80) (e_s := (3, 1, 0, 0, 0, .null, [])) (y_s := (81, [some (.ref _), some (.int _), some (.int _), some (.int _)], [.ref _], _)) rfl (u_ rfl) ?_
            refine w_t (pc := 81) (e_s := (3, 1, 0, 0, 0, .null, [])) (y_s := (82, [some (.ref _), some (.int _), some (.int _), some (.int _)], [.ref _, .ref _], _)) rfl (u_ rfl) ?_
            refine w20 (pc := 82) (len_s := 3) rfl ?_
            refine w_t (pc := 85) (e_s := (1, 1, 3, 0, 0, .null, [])) (y_s := (86, [some (.ref _), some (.int _), some (.int _), some (.int _)], [.int _, .int _, .ref _], _)) rfl (u_ rfl) ?_
            refine wcI (pc := 86) (len_s := 3) rfl rfl (l := [some (.ref _), some (.int _), some (.int _), none]) rfl (wmI t_s (fun v9 h9 hk t_s => ?_))
            replace t_s := t_s hk
            exact wrI (pc := 89) (len_s := 1) rfl hk t_s
          · replace t_s := t_s.2 c8_s
            refine wsc (X_s := 3) rfl (by decide) (fun c10_s => ?_) (fun c10_s => ?_)
            · replace t_s := t_s.1 c10_s
              refine w_t (pc := 90) (e_s := (3, 1, 0, 0, 0, .null, [])) (y_s := (91, [some (.ref _), some (.int _), some (.int _), some (.int _)], [.ref _], _)) rfl (u_ rfl) ?_
              refine w_t (pc := 91) (e_s := (3, 1, 0, 0, 0, .null, [])) (y_s := (92, [some (.ref _), some (.int _), some (.int _), some (.int _)], [.ref _, .ref _], _)) rfl (u_ rfl) ?_
              refine w20 (pc := 92) (len_s := 3) rfl ?_
              refine w_t (pc := 95) (e_s := (1, 1, 3, 0, 0, .null, [])) (y_s := (96, [some (.ref _), some (.int _), some (.int _), some (.int _)], [.int _, .int _, .ref _], _)) rfl (u_ rfl) ?_
              refine wcI (pc := 96) (len_s := 3) rfl rfl (l := [some (.ref _), some (.int _), some (.int _), none]) rfl (wmI t_s (fun v11 h11 hk t_s => ?_))
              replace t_s := t_s hk
              exact wrI (pc := 99) (len_s := 1) rfl hk t_s
            · replace t_s := t_s.2 c10_s
              show wF _ _ (100, _, _, _) _
              refine w_t (pc := 100) (e_s := (0, 1, 0, 0, 0, .int 0, [])) (y_s := (101, [some (.ref _), some (.int _), some (.int _), some (.int _)], [.int _], _)) rfl (u_ rfl) ?_
              exact wrI (pc := 101) (len_s := 1) rfl hk t_s
/-- ColdShodModel.runs(I)V, from 0 on -/
theorem sg_221_0 {F_s : Nat} {x1_s : Int32} {h_s : zH} {K_s : zH → Prop} (hk : hKn h_s) (t_s : ((h_s.2.1 102 42).toInt < 24 → (zix (h_s.2.1 102 42) < 24 → K_s (h_s.1, zup (zup h_s.2.1 123 (zix (h_s.2.1 102 42)) x1_s) 102 42 ((h_s.2.1 102 42) + 1), h_s.2.2.1, h_s.2.2.2))) ∧ (¬ (h_s.2.1 102 42).toInt < 24 → K_s (h_s.1, zup h_s.2.1 102 42 ((h_s.2.1 102 42) + 1), h_s.2.2.1, h_s.2.2.2))) : wF (F_s + 1) 221 (0, [some (.ref 102), some (.int x1_s)], [], h_s) (gV K_s) := by
  refine w_0 (pc := 0) (e_s := (3, 1, 0, 0, 0, .null, [])) (y_s := (1, [some (.ref _), some (.int _)], [.ref _], _)) rfl (u_ rfl) ?_
  refine w20 (pc := 1) (len_s := 3) rfl ?_
  refine w_t (pc := 4) (e_s := (0, 2, 0, 0, 0, .int 24, [])) (y_s := (6, [some (.ref _), some (.int _)], [.int _, .int _], _)) rfl (u_ rfl) ?_
  refine wi3 (pc := 6) (len_s := 3) (Y := 24) rfl rfl (by decide) (fun c1_s => ?_) (fun c1_s => ?_)
  · replace t_s := t_s.1 c1_s
    refine w_t (pc := 9) (e_s := (3, 1, 0, 0, 0, .null, [])) (y_s := (10, [some (.ref _), some (.int _)], [.ref _], _)) rfl (u_ rfl) ?_
    refine w20r (pc := 10) (len_s := 3) (q_s := 123) rfl (krq hk rfl) ?_
    refine w_t (pc := 13) (e_s := (3, 1, 0, 0, 0, .null, [])) (y_s := (14, [some (.ref _), some (.int _)], [.ref _, .ref _], _)) rfl (u_ rfl) ?_
    refine w20 (pc := 14) (len_s := 3) rfl ?_
    refine w_t (pc := 17) (e_s := (1, 1, 1, 0, 0, .null, [])) (y_s := (18, [some (.ref _), some (.int _)], [.int _, .int _, .ref _], _)) rfl (u_ rfl) ?_
    refine w25 (pc := 18) (len_s := 1) rfl (hk.1 123 0 24 rfl rfl) (fun c2_s => ?_)
    replace t_s := t_s c2_s
    refine w_t (pc := 19) (e_s := (3, 1, 0, 0, 0, .null, [])) (y_s := (20, [some (.ref _), some (.int _)], [.ref _], _)) rfl (u_ rfl) ?_
    refine w_t (pc := 20) (e_s := (39, 1, 0, 0, 0, .null, [])) (y_s := (21, [some (.ref _), some (.int _)], [.ref _, .ref _], _)) rfl (u_ rfl) ?_
    refine w20 (pc := 21) (len_s := 3) rfl ?_
    refine w_t (pc := 24) (e_s := (0, 1, 0, 0, 0, .int 1, [])) (y_s := (25, [some (.ref _), some (.int _)], [.int _, .int _, .ref _], _)) rfl (u_ rfl) ?_
    refine w_t (pc := 25) (e_s := (7, 1, 0, 0, 0, .null, [])) (y_s := (26, [some (.ref _), some (.int _)], [.int (_ + _), .ref _], _)) rfl (u_ rfl) ?_
    refine w21 (pc := 26) (len_s := 3) rfl ?_
    exact wrV (pc := 29) (len_s := 1) rfl hk t_s
  · replace t_s := t_s.2 c1_s
    refine w_t (pc := 19) (e_s := (3, 1, 0, 0, 0, .null, [])) (y_s := (20, [some (.ref _), some (.int _)], [.ref _], _)) rfl (u_ rfl) ?_
    refine w_t (pc := 20) (e_s := (39, 1, 0, 0, 0, .null, [])) (y_s := (21, [some (.ref _), some (.int _)], [.ref _, .ref _], _)) rfl (u_ rfl) ?_
    refine w20 (pc := 21) (len_s := 3) rfl ?_
    refine w_t (pc := 24) (e_s := (0, 1, 0, 0, 0, .int 1, [])) (y_s := (25, [some (.ref _), some (.int _)], [.int _, .int _, .ref _], _)) rfl (u_ rfl) ?_
    refine w_t (pc := 25) (e_s := (7, 1, 0, 0, 0, .null, [])) (y_s := (26, [some (.ref _), some (.int _)], [.int (_ + _), .ref _], _)) rfl (u_ rfl) ?_
    refine w21 (pc := 26) (len_s := 3) rfl ?_
    exact wrV (pc := 29) (len_s := 1) rfl hk t_s
/-- ColdShodModel.heatsAs(II)I, from 0 on -/
theorem sg_222_0 {F_s : Nat} {x1_s : Int32} {x2_s : Int32} {h_s : zH} {K_s : Int32 → zH → Prop} (hk : hKn h_s) (t_s : (x1_s.toInt = 1 → wF F_s 221 (0, [some (.ref 102), some (.int 20)], [], h_s) (gV (fun h2 => hKn h2 → wF F_s 222 (0, [some (.ref 102), some (.int 0), some (.int x2_s)], [], h2) (gI (fun v3 h3 => hKn h3 → K_s (v3 + 3) h3))))) ∧ (¬ x1_s.toInt = 1 → ((x1_s.toInt = 4 → wF F_s 221 (0, [some (.ref 102), some (.int 20)], [], h_s) (gV (fun h5 => hKn h5 → wF F_s 222 (0, [some (.ref 102), some (.int 0), some (.int x2_s)], [], h5) (gI (fun v6 h6 => hKn h6 → K_s (v6 + 3) h6))))) ∧ (¬ x1_s.toInt = 4 → ((x1_s.toInt = 7 → wF F_s 221 (0, [some (.ref 102), some (.int 20)], [], h_s) (gV (fun h8 => hKn h8 → wF F_s 222 (0, [some (.ref 102), some (.int 0), some (.int x2_s)], [], h8) (gI (fun v9 h9 => hKn h9 → K_s (v9 + 3) h9))))) ∧ (¬ x1_s.toInt = 7 → ((x1_s.toInt = 6 → wF F_s 221 (0, [some (.ref 102), some (.int 70)], [], h_s) (gV (fun h11 => hKn h11 → wF F_s 222 (0, [some (.ref 102), some (.int 0), some (.int x2_s)], [], h11) (gI (fun v12 h12 => hKn h12 → K_s (v12 * 2) h12))))) ∧ (¬ x1_s.toInt = 6 → wF F_s 221 (0, [some (.ref 102), some (.int 1)], [], h_s) (gV (fun h13 => hKn h13 → K_s (x2_s + (h13.2.1 102 44)) h13)))))))))) : wF (F_s + 1) 222 (0, [some (.ref 102), some (.int x1_s), some (.int x2_s)], [], h_s) (gI K_s) := by
  refine w_0 (pc := 0) (e_s := (1, 1, 1, 0, 0, .null, [])) (y_s := (1, [some (.ref _), some (.int _), some (.int _)], [.int _], _)) rfl (u_ rfl) ?_
  refine w_t (pc := 1) (e_s := (0, 1, 0, 0, 0, .int 1, [])) (y_s := (2, [some (.ref _), some (.int _), some (.int _)], [.int _, .int _], _)) rfl (u_ rfl) ?_
  refine wi0 (pc := 2) (len_s := 3) (Y := 1) rfl rfl (by decide) (fun c1_s => ?_) (fun c1_s => ?_)
  · replace t_s := t_s.1 c1_s
    refine w_t (pc := 16) (e_s := (3, 1, 0, 0, 0, .null, [])) (y_s := (17, [some (.ref _), some (.int _), some (.int _)], [.ref _], _)) rfl (u_ rfl) ?_
    refine w_t (pc := 17) (e_s := (0, 2, 0, 0, 0, .int 20, [])) (y_s := (19, [some (.ref _), some (.int _), some (.int _)], [.int _, .ref _], _)) rfl (u_ rfl) ?_
    refine wcV (pc := 19) (len_s := 3) rfl rfl (l := [some (.ref _), some (.int _)]) rfl (wmV t_s (fun h2 hk t_s => ?_))
    replace t_s := t_s hk
    refine w_t (pc := 22) (e_s := (3, 1, 0, 0, 0, .null, [])) (y_s := (23, [some (.ref _), some (.int _), some (.int _)], [.ref _], _)) rfl (u_ rfl) ?_
    refine w_t (pc := 23) (e_s := (0, 1, 0, 0, 0, .int 0, [])) (y_s := (24, [some (.ref _), some (.int _), some (.int _)], [.int _, .ref _], _)) rfl (u_ rfl) ?_
    refine w_t (pc := 24) (e_s := (1, 1, 2, 0, 0, .null, [])) (y_s := (25, [some (.ref _), some (.int _), some (.int _)], [.int _, .int _, .ref _], _)) rfl (u_ rfl) ?_
    refine wcI (pc := 25) (len_s := 3) rfl rfl (l := [some (.ref _), some (.int _), some (.int _)]) rfl (wmI t_s (fun v3 h3 hk t_s => ?_))
    replace t_s := t_s hk
    refine w_t (pc := 28) (e_s := (0, 1, 0, 0, 0, .int 3, [])) (y_s := (29, [some (.ref _), some (.int _), some (.int _)], [.int _, .int _], _)) rfl (u_ rfl) ?_
    refine w_t (pc := 29) (e_s := (7, 1, 0, 0, 0, .null, [])) (y_s := (30, [some (.ref _), some (.int _), some (.int _)], [.int (_ + _)], _)) rfl (u_ rfl) ?_
    exact wrI (pc := 30) (len_s := 1) rfl hk t_s
  · replace t_s := t_s.2 c1_s
    refine w_t (pc := 5) (e_s := (1, 1, 1, 0, 0, .null, [])) (y_s := (6, [some (.ref _), some (.int _), some (.int _)], [.int _], _)) rfl (u_ rfl) ?_
    refine w_t (pc := 6) (e_s := (0, 1, 0, 0, 0, .int 4, [])) (y_s := (7, [some (.ref _), some (.int _), some (.int _)], [.int _, .int _], _)) rfl (u_ rfl) ?_
    refine wi0 (pc := 7) (len_s := 3) (Y := 4) rfl rfl (by decide) (fun c4_s => ?_) (fun c4_s => ?_)
    · replace t_s := t_s.1 c4_s
      refine w_t (pc := 16) (e_s := (3, 1, 0, 0, 0, .null, [])) (y_s := (17, [some (.ref _), some (.int _), some (.int _)], [.ref _], _)) rfl (u_ rfl) ?_
      refine w_t (pc := 17) (e_s := (0, 2, 0, 0, 0, .int 20, [])) (y_s := (19, [some (.ref _), some (.int _), some (.int _)], [.int _, .ref _], _)) rfl (u_ rfl) ?_
      refine wcV (pc := 19) (len_s := 3) rfl rfl (l := [some (.ref _), some (.int _)]) rfl (wmV t_s (fun h5 hk t_s => ?_))
      replace t_s := t_s hk
      refine w_t (pc := 22) (e_s := (3, 1, 0, 0, 0, .null, [])) (y_s := (23, [some (.ref _), some (.int _), some (.int _)], [.ref _], _)) rfl (u_ rfl) ?_
      refine w_t (pc := 23) (e_s := (0, 1, 0, 0, 0, .int 0, [])) (y_s := (24, [some (.ref _), some (.int _), some (.int _)], [.int _, .ref _], _)) rfl (u_ rfl) ?_
      refine w_t (pc := 24) (e_s := (1, 1, 2, 0, 0, .null, [])) (y_s := (25, [some (.ref _), some (.int _), some (.int _)], [.int _, .int _, .ref _], _)) rfl (u_ rfl) ?_
      refine wcI (pc := 25) (len_s := 3) rfl rfl (l := [some (.ref _), some (.int _), some (.int _)]) rfl (wmI t_s (fun v6 h6 hk t_s => ?_))
      replace t_s := t_s hk
      refine w_t (pc := 28) (e_s := (0, 1, 0, 0, 0, .int 3, [])) (y_s := (29, [some (.ref _), some (.int _), some (.int _)], [.int _, .int _], _)) rfl (u_ rfl) ?_
      refine w_t (pc := 29) (e_s := (7, 1, 0, 0, 0, .null, [])) (y_s := (30, [some (.ref _), some (.int _), some (.int _)], [.int (_ + _)], _)) rfl (u_ rfl) ?_
      exact wrI (pc := 30) (len_s := 1) rfl hk t_s
    · replace t_s := t_s.2 c4_s
      refine w_t (pc := 10) (e_s := (1, 1, 1, 0, 0, .null, [])) (y_s := (11, [some (.ref _), some (.int _), some (.int _)], [.int _], _)) rfl (u_ rfl) ?_
      refine w_t (pc := 11) (e_s := (0, 2, 0, 0, 0, .int 7, [])) (y_s := (13, [some (.ref _), some (.int _), some (.int _)], [.int _, .int _], _)) rfl (u_ rfl) ?_
      refine wi1 (pc := 13) (len_s := 3) (Y := 7) rfl rfl (by decide) (fun c7_s => ?_) (fun c7_s => ?_)
      · replace t_s := t_s.1 c7_s
        refine w_t (pc := 16) (e_s := (3, 1, 0, 0, 0, .null, [])) (y_s := (17, [some (.ref _), some (.int _), some (.int _)], [.ref _], _)) rfl (u_ rfl) ?_
        refine w_t (pc := 17) (e_s := (0, 2, 0, 0, 0, .int 20, [])) (y_s := (19, [some (.ref _), some (.int _), some (.int _)], [.int _, .ref _], _)) rfl (u_ rfl) ?_
        refine wcV (pc := 19) (len_s := 3) rfl rfl (l := [some (.ref _), some (.int _)]) rfl (wmV t_s (fun h8 hk t_s => ?_))
        replace t_s := t_s hk
        refine w_t (pc := 22) (e_s := (3, 1, 0, 0, 0, .null, [])) (y_s := (23, [some (.ref _), some (.int _), some (.int _)], [.ref _], _)) rfl (u_ rfl) ?_
        refine w_t (pc := 23) (e_s := (0, 1, 0, 0, 0, .int 0, [])) (y_s := (24, [some (.ref _), some (.int _), some (.int _)], [.int _, .ref _], _)) rfl (u_ rfl) ?_
        refine w_t (pc := 24) (e_s := (1, 1, 2, 0, 0, .null, [])) (y_s := (25, [some (.ref _), some (.int _), some (.int _)], [.int _, .int _, .ref _], _)) rfl (u_ rfl) ?_
        refine wcI (pc := 25) (len_s := 3) rfl rfl (l := [some (.ref _), some (.int _), some (.int _)]) rfl (wmI t_s (fun v9 h9 hk t_s => ?_))
        replace t_s := t_s hk
        refine w_t (pc := 28) (e_s := (0, 1, 0, 0, 0, .int 3, [])) (y_s := (29, [some (.ref _), some (.int _), some (.int _)], [.int _, .int _], _)) rfl (u_ rfl) ?_
        refine w_t (pc := 29) (e_s := (7, 1, 0, 0, 0, .null, [])) (y_s := (30, [some (.ref _), some (.int _), some (.int _)], [.int (_ + _)], _)) rfl (u_ rfl) ?_
        exact wrI (pc := 30) (len_s := 1) rfl hk t_s
      · replace t_s := t_s.2 c7_s
        refine w_t (pc := 31) (e_s := (1, 1, 1, 0, 0, .null, [])) (y_s := (32, [some (.ref _), some (.int _), some (.int _)], [.int _], _)) rfl (u_ rfl) ?_
        refine w_t (pc := 32) (e_s := (0, 2, 0, 0, 0, .int 6, [])) (y_s := (34, [some (.ref _), some (.int _), some (.int _)], [.int _, .int _], _)) rfl (u_ rfl) ?_
        refine wi1 (pc := 34) (len_s := 3) (Y := 6) rfl rfl (by decide) (fun c10_s => ?_) (fun c10_s => ?_)
        · replace t_s := t_s.1 c10_s
          refine w_t (pc := 37) (e_s := (3, 1, 0, 0, 0, .null, [])) (y_s := (38, [some (.ref _), some (.int _), some (.int _)], [.ref _], _)) rfl (u_ rfl) ?_
          refine w_t (pc := 38) (e_s := (0, 2, 0, 0, 0, .int 70, [])) (y_s := (40, [some (.ref _), some (.int _), some (.int _)], [.int _, .ref _], _)) rfl (u_ rfl) ?_
          refine wcV (pc := 40) (len_s := 3) rfl rfl (l := [some (.ref _), some (.int _)]) rfl (wmV t_s (fun h11 hk t_s => ?_))
          replace t_s := t_s hk
          refine w_t (pc := 43) (e_s := (3, 1, 0, 0, 0, .null, [])) (y_s := (44, [some (.ref _), some (.int _), some (.int _)], [.ref _], _)) rfl (u_ rfl) ?_
          refine w_t (pc := 44) (e_s := (0, 1, 0, 0, 0, .int 0, [])) (y_s := (45, [some (.ref _), some (.int _), some (.int _)], [.int _, .ref _], _)) rfl (u_ rfl) ?_
          refine w_t (pc := 45) (e_s := (1, 1, 2, 0, 0, .null, [])) (y_s := (46, [some (.ref _), some (.int _), some (.int _)], [.int _, .int _, .ref _], _)) rfl (u_ rfl) ?_
          refine wcI (pc := 46) (len_s := 3) rfl rfl (l := [some (.ref _), some (.int _), some (.int _)]) rfl (wmI t_s (fun v12 h12 hk t_s => ?_))
          replace t_s := t_s hk
          refine w_t (pc := 49) (e_s := (0, 1, 0, 0, 0, .int 2, [])) (y_s := (50, [some (.ref _), some (.int _), some (.int _)], [.int _, .int _], _)) rfl (u_ rfl) ?_
          refine w_t (pc := 50) (e_s := (7, 1, 0, 2, 0, .null, [])) (y_s := (51, [some (.ref _), some (.int _), some (.int _)], [.int (_ * _)], _)) rfl (u_ rfl) ?_
          exact wrI (pc := 51) (len_s := 1) rfl hk t_s
        · replace t_s := t_s.2 c10_s
          refine w_t (pc := 52) (e_s := (3, 1, 0, 0, 0, .null, [])) (y_s := (53, [some (.ref _), some (.int _), some (.int _)], [.ref _], _)) rfl (u_ rfl) ?_
          refine w_t (pc := 53) (e_s := (0, 1, 0, 0, 0, .int 1, [])) (y_s := (54, [some (.ref _), some (.int _), some (.int _)], [.int _, .ref _], _)) rfl (u_ rfl) ?_
          refine wcV (pc := 54) (len_s := 3) rfl rfl (l := [some (.ref _), some (.int _)]) rfl (wmV t_s (fun h13 hk t_s => ?_))
          replace t_s := t_s hk
          refine w_t (pc := 57) (e_s := (1, 1, 2, 0, 0, .null, [])) (y_s := (58, [some (.ref _), some (.int _), some (.int _)], [.int _], _)) rfl (u_ rfl) ?_
          refine w_t (pc := 58) (e_s := (3, 1, 0, 0, 0, .null, [])) (y_s := (59, [some (.ref _), some (.int _), some (.int _)], [.ref _, .int _], _)) rfl (u_ rfl) ?_
          refine w20 (pc := 59) (len_s := 3) rfl ?_
          refine w_t (pc := 62) (e_s := (7, 1, 0, 0, 0, .null, [])) (y_s := (63, [some (.ref _), some (.int _), some (.int _)], [.int (_ + _)], _)) rfl (u_ rfl) ?_
          exact wrI (pc := 63) (len_s := 1) rfl hk t_s
/-- ColdShodModel.drawsAs(II)I, from 0 on -/
theorem sg_223_0 {F_s : Nat} {x1_s x2_s : Int32} {h_s : zH} {K_s : Int32 → zH → Prop} (hk : hKn h_s) (t_s : (x1_s.toInt = 3 → wF F_s 221 (0, [some (.ref 102), some (.int 41)], [], h_s) (gV (fun h2 => hKn h2 → wF F_s 223 (0, [some (.ref 102), some (.int 2), some (.int (x2_s + 1)), none], [], h2) (gI (fun v3 h3 => hKn h3 → K_s v3 h3))))) ∧ (¬ x1_s.toInt = 3 → ((x1_s.toInt = 5 → wF F_s 221 (0, [some (.ref 102), some (.int 41)], [], h_s) (gV (fun h5 => hKn h5 → wF F_s 223 (0, [some (.ref 102), some (.int 2), some (.int (x2_s + 1)), none], [], h5) (gI (fun v6 h6 => hKn h6 → K_s v6 h6))))) ∧ (¬ x1_s.toInt = 5 → ((x1_s.toInt = 2 → wF F_s 221 (0, [some (.ref 102), some (.int 30)], [], h_s) (gV (fun h8 => hKn h8 → wF F_s 223 (0, [some (.ref 102), some (.int 0), some (.int x2_s), none], [], h8) (gI (fun v9 h9 => hKn h9 → K_s (-v9) h9))))) ∧ (¬ x1_s.toInt = 2 → ((x1_s.toInt = 7 → wF F_s 221 (0, [some (.ref 102), some (.int 80)], [], h_s) (gV (fun h11 => hKn h11 → wF F_s 223 (0, [some (.ref 102), some (.int 4), some (.int x2_s), none], [], h11) (gI (fun v12 h12 => hKn h12 → wF F_s 224 (0, [some (.ref 102), some (.int (h12.2.1 102 43)), some (.int 2), none], [], h12) (gI (fun v13 h13 => hKn h13 → K_s (v12 + v13) h13))))))) ∧ (¬ x1_s.toInt = 7 → wF F_s 221 (0, [some (.ref 102), some (.int 10)], [], h_s) (gV (fun h14 => hKn h14 → wF F_s 222 (0, [some (.ref 102), some (.int (h14.2.1 102 43)), some (.int x2_s)], [], h14) (gI (fun v15 h15 => hKn h15 → K_s (v15 * 2) h15)))))))))))) : wF (F_s + 1) 223 (0, [some (.ref 102), some (.int x1_s), some (.int x2_s), none], [], h_s) (gI K_s) := by
  refine w_0 (pc := 0) (e_s := (1, 1, 1, 0, 0, .null, [])) (y_s := (1, [some (.ref _), some (.int _), some (.int _), none], [.int _], _)) rfl (u_ rfl) ?_
  refine w_t (pc := 1) (e_s := (0, 1, 0, 0, 0, .int 3, [])) (y_s := (2, [some (.ref _), some (.int _), some (.int _), none], [.int _, .int _], _)) rfl (u_ rfl) ?_
  refine wi0 (pc := 2) (len_s := 3) (Y := 3) rfl rfl (by decide) (fun c1_s => ?_) (fun c1_s => ?_)
  · replace t_s := t_s.1 c1_s
    refine w_t (pc := 10) (e_s := (3, 1, 0, 0, 0, .null, [])) (y_s := (11, [some (.ref _), some (.int _), some (.int _), none], [.ref _], _)) rfl (u_ rfl) ?_
    refine w_t (pc := 11) (e_s := (0, 2, 0, 0, 0, .int 41, [])) (y_s := (13, [some (.ref _), some (.int _), some (.int _), none], [.int _, .ref _], _)) rfl (u_ rfl) ?_
    refine wcV (pc := 13) (len_s := 3) rfl rfl (l := [some (.ref _), some (.int _)]) rfl (wmV t_s (fun h2 hk t_s => ?_))
    replace t_s := t_s hk
    refine w_t (pc := 16) (e_s := (3, 1, 0, 0, 0, .null, [])) (y_s := (17, [some (.ref _), some (.int _), some (.int _), none], [.ref _], _)) rfl (u_ rfl) ?_
    refine w_t (pc := 17) (e_s := (0, 1, 0, 0, 0, .int 2, [])) (y_s := (18, [some (.ref _), some (.int _), some (.int _), none], [.int _, .ref _], _)) rfl (u_ rfl) ?_
    refine w_t (pc := 18) (e_s := (1, 1, 2, 0, 0, .null, [])) (y_s := (19, [some (.ref _), some (.int _), some (.int _), none], [.int _, .int _, .ref _], _)) rfl (u_ rfl) ?_
    refine w_t (pc := 19) (e_s := (0, 1, 0, 0, 0, .int 1, [])) (y_s := (20, [some (.ref _), some (.int _), some (.int _), none], [.int _, .int _, .int _, .ref _], _)) rfl (u_ rfl) ?_
    refine w_t (pc := 20) (e_s := (7, 1, 0, 0, 0, .null, [])) (y_s := (21, [some (.ref _), some (.int _), some (.int _), none], [.int (_ + _), .int _, .ref _], _)) rfl (u_ rfl) ?_
    refine wcI (pc := 21) (len_s := 3) rfl rfl (l := [some (.ref _), some (.int _), some (.int _), none]) rfl (wmI t_s (fun v3 h3 hk t_s => ?_))
    replace t_s := t_s hk
    exact wrI (pc := 24) (len_s := 1) rfl hk t_s
  · replace t_s := t_s.2 c1_s
    refine w_t (pc := 5) (e_s := (1, 1, 1, 0, 0, .null, [])) (y_s := (6, [some (.ref _), some (.int _), some (.int _), none], [.int _], _)) rfl (u_ rfl) ?_
    refine w_t (pc := 6) (e_s := (0, 1, 0, 0, 0, .int 5, [])) (y_s := (7, [some (.ref _), some (.int _), some (.int _), none], [.int _, .int _], _)) rfl (u_ rfl) ?_
    refine wi1 (pc := 7) (len_s := 3) (Y := 5) rfl rfl (by decide) (fun c4_s => ?_) (fun c4_s => ?_)
    · replace t_s := t_s.1 c4_s
      refine w_t (pc := 10) (e_s := (3, 1, 0, 0, 0, .null, [])) (y_s := (11, [some (.ref _), some (.int _), some (.int _), none], [.ref _], _)) rfl (u_ rfl) ?_
      refine w_t (pc := 11) (e_s := (0, 2, 0, 0, 0, .int 41, [])) (y_s := (13, [some (.ref _), some (.int _), some (.int _), none], [.int _, .ref _], _)) rfl (u_ rfl) ?_
      refine wcV (pc := 13) (len_s := 3) rfl rfl (l := [some (.ref _), some (.int _)]) rfl (wmV t_s (fun h5 hk t_s => ?_))
      replace t_s := t_s hk
      refine w_t (pc := 16) (e_s := (3, 1, 0, 0, 0, .null, [])) (y_s := (17, [some (.ref _), some (.int _), some (.int _), none], [.ref _], _)) rfl (u_ rfl) ?_
      refine w_t (pc := 17) (e_s := (0, 1, 0, 0, 0, .int 2, [])) (y_s := (18, [some (.ref _), some (.int _), some (.int _), none], [.int _, .ref _], _)) rfl (u_ rfl) ?_
      refine w_t (pc := 18) (e_s := (1, 1, 2, 0, 0, .null, [])) (y_s := (19, [some (.ref _), some (.int _), some (.int _), none], [.int _, .int _, .ref _], _)) rfl (u_ rfl) ?_
      refine w_t (pc := 19) (e_s := (0, 1, 0, 0, 0, .int 1, [])) (y_s := (20, [some (.ref _), some (.int _), some (.int _), none], [.int _, .int _, .int _, .ref _], _)) rfl (u_ rfl) ?_
      refine w_t (pc := 20) (e_s := (7, 1, 0, 0, 0, .null, [])) (y_s := (21, [some (.ref _), some (.int _), some (.int _), none], [.int (_ + _), .int _, .ref _], _)) rfl (u_ rfl) ?_
      refine wcI (pc := 21) (len_s := 3) rfl rfl (l := [some (.ref _), some (.int _), some (.int _), none]) rfl (wmI t_s (fun v6 h6 hk t_s => ?_))
      replace t_s := t_s hk
      exact wrI (pc := 24) (len_s := 1) rfl hk t_s
    · replace t_s := t_s.2 c4_s
      refine w_t (pc := 25) (e_s := (1, 1, 1, 0, 0, .null, [])) (y_s := (26, [some (.ref _), some (.int _), some (.int _), none], [.int _], _)) rfl (u_ rfl) ?_
      refine w_t (pc := 26) (e_s := (0, 1, 0, 0, 0, .int 2, [])) (y_s := (27, [some (.ref _), some (.int _), some (.int _), none], [.int _, .int _], _)) rfl (u_ rfl) ?_
      refine wi1 (pc := 27) (len_s := 3) (Y := 2) rfl rfl (by decide) (fun c7_s => ?_) (fun c7_s => ?_)
      · replace t_s := t_s.1 c7_s
        refine w_t (pc := 30) (e_s := (3, 1, 0, 0, 0, .null, [])) (y_s := (31, [some (.ref _), some (.int _), some (.int _), none], [.ref _], _)) rfl (u_ rfl) ?_
        refine w_t (pc := 31) (e_s := (0, 2, 0, 0, 0, .int 30, [])) (y_s := (33, [some (.ref _), some (.int _), some (.int _), none], [.int _, .ref _], _)) rfl (u_ rfl) ?_
        refine wcV (pc := 33) (len_s := 3) rfl rfl (l := [some (.ref _), some (.int _)]) rfl (wmV t_s (fun h8 hk t_s => ?_))
        replace t_s := t_s hk
        refine w_t (pc := 36) (e_s := (3, 1, 0, 0, 0, .null, [])) (y_s := (37, [some (.ref _), some (.int _), some (.int _), none], [.ref _], _)) rfl (u_ rfl) ?_
        refine w_t (pc := 37) (e_s := (0, 1, 0, 0, 0, .int 0, [])) (y_s := (38, [some (.ref _), some (.int _), some (.int _), none], [.int _, .ref _], _)) rfl (u_ rfl) ?_
        refine w_t (pc := 38) (e_s := (1, 1, 2, 0, 0, .null, [])) (y_s := (39, [some (.ref _), some (.int _), some (.int _), none], [.int _, .int _, .ref _], _)) rfl (u_ rfl) ?_
        refine wcI (pc := 39) (len_s := 3) rfl rfl (l := [some (.ref _), some (.int _), some (.int _), none]) rfl (wmI t_s (fun v9 h9 hk t_s => ?_))
        replace t_s := t_s hk
        refine w_t (pc := 42) (e_s := (9, 1, 0, 0, 0, .null, [])) (y_s := (43, [some (.ref _), some (.int _), some (.int _), none], [.int (-_)], _)) rfl (u_ rfl) ?_
        exact wrI (pc := 43) (len_s := 1) rfl hk t_s
      · replace t_s := t_s.2 c7_s
        refine w_t (pc := 44) (e_s := (1, 1, 1, 0, 0, .null, [])) (y_s := (45, [some (.ref _), some (.int _), some (.int _), none], [.int _], _)) rfl (u_ rfl) ?_
        refine w_t (pc := 45) (e_s := (0, 2, 0, 0, 0, .int 7, [])) (y_s := (47, [some (.ref _), some (.int _), some (.int _), none], [.int _, .int _], _)) rfl (u_ rfl) ?_
        refine wi1 (pc := 47) (len_s := 3) (Y := 7) rfl rfl (by decide) (fun c10_s => ?_) (fun c10_s => ?_)
        · replace t_s := t_s.1 c10_s
          refine w_t (pc := 50) (e_s := (3, 1, 0, 0, 0, .null, [])) (y_s := (51, [some (.ref _), some (.int _), some (.int _), none], [.ref _], _)) rfl (u_ rfl) ?_
          refine w_t (pc := 51) (e_s := (0, 2, 0, 0, 0, .int 80, [])) (y_s := (53, [some (.ref _), some (.int _), some (.int _), none], [.int _, .ref _], _)) rfl (u_ rfl) ?_
          refine wcV (pc := 53) (len_s := 3) rfl rfl (l := [some (.ref _), some (.int _)]) rfl (wmV t_s (fun h11 hk t_s => ?_))
          replace t_s := t_s hk
          refine w_t (pc := 56) (e_s := (3, 1, 0, 0, 0, .null, [])) (y_s := (57, [some (.ref _), some (.int _), some (.int _), none], [.ref _], _)) rfl (u_ rfl) ?_
          refine w_t (pc := 57) (e_s := (0, 1, 0, 0, 0, .int 4, [])) (y_s := (58, [some (.ref _), some (.int _), some (.int _), none], [.int _, .ref _], _)) rfl (u_ rfl) ?_
          refine w_t (pc := 58) (e_s := (1, 1, 2, 0, 0, .null, [])) (y_s := (59, [some (.ref _), some (.int _), some (.int _), none], [.int _, .int _, .ref _], _)) rfl (u_ rfl) ?_
          refine wcI (pc := 59) (len_s := 3) rfl rfl (l := [some (.ref _), some (.int _), some (.int _), none]) rfl (wmI t_s (fun v12 h12 hk t_s => ?_))
          replace t_s := t_s hk
          refine w_t (pc := 62) (e_s := (4, 1, 3, 0, 0, .null, [])) (y_s := (63, [some (.ref _), some (.int _), some (.int _), some (.int _)], [], _)) rfl (u_ rfl) ?_
          refine w_t (pc := 63) (e_s := (1, 1, 3, 0, 0, .null, [])) (y_s := (64, [some (.ref _), some (.int _), some (.int _), some (.int _)], [.int _], _)) rfl (u_ rfl) ?_
          refine w_t (pc := 64) (e_s := (3, 1, 0, 0, 0, .null, [])) (y_s := (65, [some (.ref _), some (.int _), some (.int _), some (.int _)], [.ref _, .int _], _)) rfl (u_ rfl) ?_
          refine w_t (pc := 65) (e_s := (3, 1, 0, 0, 0, .null, [])) (y_s := (66, [some (.ref _), some (.int _), some (.int _), some (.int _)], [.ref _, .ref _, .int _], _)) rfl (u_ rfl) ?_
          refine w20 (pc := 66) (len_s := 3) rfl ?_
          refine w_t (pc := 69) (e_s := (0, 1, 0, 0, 0, .int 2, [])) (y_s := (70, [some (.ref _), some (.int _), some (.int _), some (.int _)], [.int _, .int _, .ref _, .int _], _)) rfl (u_ rfl) ?_
          refine wcI (pc := 70) (len_s := 3) rfl rfl (l := [some (.ref _), some (.int _), some (.int _), none]) rfl (wmI t_s (fun v13 h13 hk t_s => ?_))
          replace t_s := t_s hk
          refine w_t (pc := 73) (e_s := (7, 1, 0, 0, 0, .null, [])) (y_s := (74, [some (.ref _), some (.int _), some (.int _), some (.int _)], [.int (_ + _)], _)) rfl (u_ rfl) ?_
          exact wrI (pc := 74) (len_s := 1) rfl hk t_s
        · replace t_s := t_s.2 c10_s
          refine w_t (pc := 75) (e_s := (3, 1, 0, 0, 0, .null, [])) (y_s := (76, [some (.ref _), some (.int _), some (.int _), none], [.ref _], _)) rfl (u_ rfl) ?_
          refine w_t (pc := 76) (e_s := (0, 2, 0, 0, 0, .int 10, [])) (y_s := (78, [some (.ref _), some (.int _), some (.int _), none], [.int _, .ref _], _)) rfl (u_ rfl) ?_
          refine wcV (pc := 78) (len_s := 3) rfl rfl (l := [some (.ref _), some (.int _)]) rfl (wmV t_s (fun h14 hk t_s => ?_))
          replace t_s := t_s hk
          refine w_t (pc := 81) (e_s := (3, 1, 0, 0, 0, .null, [])) (y_s := (82, [some (.ref _), some (.int _), some (.int _), none], [.ref _], _)) rfl (u_ rfl) ?_
          refine w_t (pc := 82) (e_s := (3, 1, 0, 0, 0, .null, [])) (y_s := (83, [some (.ref _), some (.int _), some (.int _), none], [.ref _, .ref _], _)) rfl (u_ rfl) ?_
          refine w20 (pc := 83) (len_s := 3) rfl ?_
          refine w_t (pc := 86) (e_s := (1, 1, 2, 0, 0, .null, [])) (y_s := (87, [some (.ref _), some (.int _), some (.int _), none], [.int _, .int _, .ref _], _)) rfl (u_ rfl) ?_
          refine wcI (pc := 87) (len_s := 3) rfl rfl (l := [some (.ref _), some (.int _), some (.int _)]) rfl (wmI t_s (fun v15 h15 hk t_s => ?_))
          replace t_s := t_s hk
          refine w_t (pc := 90) (e_s := (0, 1, 0, 0, 0, .int 2, [])) (y_s := (91, [some (.ref _), some (.int _), some (.int _), none], [.int _, .int _], _)) rfl (u_ rfl) ?_
          refine w_t (pc := 91) (e_s := (7, 1, 0, 2, 0, .null, [])) (y_s := (92, [some (.ref _), some (.int _), some (.int _), none], [.int (_ * _)], _)) rfl (u_ rfl) ?_
          exact wrI (pc := 92) (len_s := 1) rfl hk t_s
/-- ColdShodModel.nailsAs(II)I, from 0 on -/
theorem sg_224_0 {F_s : Nat} {x1_s x2_s : Int32} {h_s : zH} {K_s : Int32 → zH → Prop} (hk : hKn h_s) (t_s : (x1_s.toInt = 3 → wF F_s 221 (0, [some (.ref 102), some (.int 40)], [], h_s) (gV (fun h2 => hKn h2 → wF F_s 224 (0, [some (.ref 102), some (.int 2), some (.int x2_s), none], [], h2) (gI (fun v3 h3 => hKn h3 → K_s (v3 * 3) h3))))) ∧ (¬ x1_s.toInt = 3 → ((x1_s.toInt = 5 → wF F_s 221 (0, [some (.ref 102), some (.int 40)], [], h_s) (gV (fun h5 => hKn h5 → wF F_s 224 (0, [some (.ref 102), some (.int 2), some (.int x2_s), none], [], h5) (gI (fun v6 h6 => hKn h6 → K_s (v6 * 3) h6))))) ∧ (¬ x1_s.toInt = 5 → ((x1_s.toInt = 4 → wF F_s 221 (0, [some (.ref 102), some (.int 50)], [], h_s) (gV (fun h8 => hKn h8 → wF F_s 224 (0, [some (.ref 102), some (.int 1), some (.int x2_s), none], [], h8) (gI (fun v9 h9 => hKn h9 → wF F_s 222 (0, [some (.ref 102), some (.int (h9.2.1 102 43)), some (.int 2)], [], h9) (gI (fun v10 h10 => hKn h10 → K_s (v9 - v10) h10))))))) ∧ (¬ x1_s.toInt = 4 → ((x1_s.toInt = 7 → wF F_s 221 (0, [some (.ref 102), some (.int 50)], [], h_s) (gV (fun h12 => hKn h12 → wF F_s 224 (0, [some (.ref 102), some (.int 1), some (.int x2_s), none], [], h12) (gI (fun v13 h13 => hKn h13 → wF F_s 222 (0, [some (.ref 102), some (.int (h13.2.1 102 43)), some (.int 2)], [], h13) (gI (fun v14 h14 => hKn h14 → K_s (v13 - v14) h14))))))) ∧ (¬ x1_s.toInt = 7 → wF F_s 221 (0, [some (.ref 102), some (.int 11)], [], h_s) (gV (fun h15 => hKn h15 → K_s (x2_s ^^^ (h15.2.1 102 44)) h15)))))))))) : wF (F_s + 1) 224 (0, [some (.ref 102), some (.int x1_s), some (.int x2_s), none], [], h_s) (gI K_s) := by
  refine w_0 (pc := 0) (e_s := (1, 1, 1, 0, 0, .null, [])) (y_s := (1, [some (.ref _), some (.int _), some (.int _), none], [.int _], _)) rfl (u_ rfl) ?_
  refine w_t (pc := 1) (e_s := (0, 1, 0, 0, 0, .int 3, [])) (y_s := (2, [some (.ref _), some (.int _), some (.int _), none], [.int _, .int _], _)) rfl (u_ rfl) ?_
  refine wi0 (pc := 2) (len_s := 3) (Y := 3) rfl rfl (by decide) (fun c1_s => ?_) (fun c1_s => ?_)
  · replace t_s := t_s.1 c1_s
    refine w_t (pc := 10) (e_s := (3, 1, 0, 0, 0, .null, [])) (y_s := (11, [some (.ref _), some (.int _), some (.int _), none], [.ref _], _)) rfl (u_ rfl) ?_
    refine w_t (pc := 11) (e_s := (0, 2, 0, 0, 0, .int 40, [])) (y_s := (13, [some (.ref _), some (.int _), some (.int _), none], [.int _, .ref _], _)) rfl (u_ rfl) ?_
    refine wcV (pc := 13) (len_s := 3) rfl rfl (l := [some (.ref _), some (.int _)]) rfl (wmV t_s (fun h2 hk t_s => ?_))
    replace t_s := t_s hk
    refine w_t (pc := 16) (e_s := (3, 1, 0, 0, 0, .null, [])) (y_s := (17, [some (.ref _), some (.int _), some (.int _), none], [.ref _], _)) rfl (u_ rfl) ?_
    refine w_t (pc := 17) (e_s := (0, 1, 0, 0, 0, .int 2, [])) (y_s := (18, [some (.ref _), some (.int _), some (.int _), none], [.int _, .ref _], _)) rfl (u_ rfl) ?_
    refine w_t (pc := 18) (e_s := (1, 1, 2, 0, 0, .null, [])) (y_s := (19, [some (.ref _), some (.int _), some (.int _), none], [.int _, .int _, .ref _], _)) rfl (u_ rfl) ?_
    refine wcI (pc := 19) (len_s := 3) rfl rfl (l := [some (.ref _), some (.int _), some (.int _), none]) rfl (wmI t_s (fun v3 h3 hk t_s => ?_))
    replace t_s := t_s hk
    refine w_t (pc := 22) (e_s := (0, 1, 0, 0, 0, .int 3, [])) (y_s := (23, [some (.ref _), some (.int _), some (.int _), none], [.int _, .int _], _)) rfl (u_ rfl) ?_
    refine w_t (pc := 23) (e_s := (7, 1, 0, 2, 0, .null, [])) (y_s := (24, [some (.ref _), some (.int _), some (.int _), none], [.int (_ * _)], _)) rfl (u_ rfl) ?_
    exact wrI (pc := 24) (len_s := 1) rfl hk t_s
  · replace t_s := t_s.2 c1_s
    refine w_t (pc := 5) (e_s := (1, 1, 1, 0, 0, .null, [])) (y_s := (6, [some (.ref _), some (.int _), some (.int _), none], [.int _], _)) rfl (u_ rfl) ?_
    refine w_t (pc := 6) (e_s := (0, 1, 0, 0, 0, .int 5, [])) (y_s := (7, [some (.ref _), some (.int _), some (.int _), none], [.int _, .int _], _)) rfl (u_ rfl) ?_
    refine wi1 (pc := 7) (len_s := 3) (Y := 5) rfl rfl (by decide) (fun c4_s => ?_) (fun c4_s => ?_)
    · replace t_s := t_s.1 c4_s
      refine w_t (pc := 10) (e_s := (3, 1, 0, 0, 0, .null, [])) (y_s := (11, [some (.ref _), some (.int _), some (.int _), none], [.ref _], _)) rfl (u_ rfl) ?_
      refine w_t (pc := 11) (e_s := (0, 2, 0, 0, 0, .int 40, [])) (y_s := (13, [some (.ref _), some (.int _), some (.int _), none], [.int _, .ref _], _)) rfl (u_ rfl) ?_
      refine wcV (pc := 13) (len_s := 3) rfl rfl (l := [some (.ref _), some (.int _)]) rfl (wmV t_s (fun h5 hk t_s => ?_))
      replace t_s := t_s hk
      refine w_t (pc := 16) (e_s := (3, 1, 0, 0, 0, .null, [])) (y_s := (17, [some (.ref _), some (.int _), some (.int _), none], [.ref _], _)) rfl (u_ rfl) ?_
      refine w_t (pc := 17) (e_s := (0, 1, 0, 0, 0, .int 2, [])) (y_s := (18, [some (.ref _), some (.int _), some (.int _), none], [.int _, .ref _], _)) rfl (u_ rfl) ?_
      refine w_t (pc := 18) (e_s := (1, 1, 2, 0, 0, .null, [])) (y_s := (19, [some (.ref _), some (.int _), some (.int _), none], [.int _, .int _, .ref _], _)) rfl (u_ rfl) ?_
      refine wcI (pc := 19) (len_s := 3) rfl rfl (l := [some (.ref _), some (.int _), some (.int _), none]) rfl (wmI t_s (fun v6 h6 hk t_s => ?_))
      replace t_s := t_s hk
      refine w_t (pc := 22) (e_s := (0, 1, 0, 0, 0, .int 3, [])) (y_s := (23, [some (.ref _), some (.int _), some (.int _), none], [.int _, .int _], _)) rfl (u_ rfl) ?_
      refine w_t (pc := 23) (e_s := (7, 1, 0, 2, 0, .null, [])) (y_s := (24, [some (.ref _), some (.int _), some (.int _), none], [.int (_ * _)], _)) rfl (u_ rfl) ?_
      exact wrI (pc := 24) (len_s := 1) rfl hk t_s
    · replace t_s := t_s.2 c4_s
      refine w_t (pc := 25) (e_s := (1, 1, 1, 0, 0, .null, [])) (y_s := (26, [some (.ref _), some (.int _), some (.int _), none], [.int _], _)) rfl (u_ rfl) ?_
      refine w_t (pc := 26) (e_s := (0, 1, 0, 0, 0, .int 4, [])) (y_s := (27, [some (.ref _), some (.int _), some (.int _), none], [.int _, .int _], _)) rfl (u_ rfl) ?_
      refine wi0 (pc := 27) (len_s := 3) (Y := 4) rfl rfl (by decide) (fun c7_s => ?_) (fun c7_s => ?_)
      · replace t_s := t_s.1 c7_s
        refine w_t (pc := 36) (e_s := (3, 1, 0, 0, 0, .null, [])) (y_s := (37, [some (.ref _), some (.int _), some (.int _), none], [.ref _], _)) rfl (u_ rfl) ?_
        refine w_t (pc := 37) (e_s := (0, 2, 0, 0, 0, .int 50, [])) (y_s := (39, [some (.ref _), some (.int _), some (.int _), none], [.int _, .ref _], _)) rfl (u_ rfl) ?_
        refine wcV (pc := 39) (len_s := 3) rfl rfl (l := [some (.ref _), some (.int _)]) rfl (wmV t_s (fun h8 hk t_s => ?_))
        replace t_s := t_s hk
        refine w_t (pc := 42) (e_s := (3, 1, 0, 0, 0, .null, [])) (y_s := (43, [some (.ref _), some (.int _), some (.int _), none], [.ref _], _)) rfl (u_ rfl) ?_
        refine w_t (pc := 43) (e_s := (0, 1, 0, 0, 0, .int 1, [])) (y_s := (44, [some (.ref _), some (.int _), some (.int _), none], [.int _, .ref _], _)) rfl (u_ rfl) ?_
        refine w_t (pc := 44) (e_s := (1, 1, 2, 0, 0, .null, [])) (y_s := (45, [some (.ref _), some (.int _), some (.int _), none], [.int _, .int _, .ref _], _)) rfl (u_ rfl) ?_
        refine wcI (pc := 45) (len_s := 3) rfl rfl (l := [some (.ref _), some (.int _), some (.int _), none]) rfl (wmI t_s (fun v9 h9 hk t_s => ?_))
        replace t_s := t_s hk
        refine w_t (pc := 48) (e_s := (4, 1, 3, 0, 0, .null, [])) (y_s := (49, [some (.ref _), some (.int _), some (.int _), some (.int _)], [], _)) rfl (u_ rfl) ?_
        refine w_t (pc := 49) (e_s := (1, 1, 3, 0, 0, .null, [])) (y_s := (50, [some (.ref _), some (.int _), some (.int _), some (.int _)], [.int _], _)) rfl (u_ rfl) ?_
        refine w_t (pc := 50) (e_s := (3, 1, 0, 0, 0, .null, [])) (y_s := (51, [some (.ref _), some (.int _), some (.int _), some (.int _)], [.ref _, .int _], _)) rfl (u_ rfl) ?_
        refine w_t (pc := 51) (e_s := (3, 1, 0, 0, 0, .null, [])) (y_s := (52, [some (.ref _), some (.int _), some (.int _), some (.int _)], [.ref _, .ref _, .int _], _)) rfl (u_ rfl) ?_
        refine w20 (pc := 52) (len_s := 3) rfl ?_
        refine w_t (pc := 55) (e_s := (0, 1, 0, 0, 0, .int 2, [])) (y_s := (56, [some (.ref _), some (.int _), some (.int _), some (.int _)], [.int _, .int _, .ref _, .int _], _)) rfl (u_ rfl) ?_
        refine wcI (pc := 56) (len_s := 3) rfl rfl (l := [some (.ref _), some (.int _), some (.int _)]) rfl (wmI t_s (fun v10 h10 hk t_s => ?_))
        replace t_s := t_s hk
        refine w_t (pc := 59) (e_s := (7, 1, 0, 1, 0, .null, [])) (y_s := (60, [some (.ref _), some (.int _), some (.int _), some (.int _)], [.int (_ - _)], _)) rfl (u_ rfl) ?_
        exact wrI (pc := 60) (len_s := 1) rfl hk t_s
      · replace t_s := t_s.2 c7_s
        refine w_t (pc := 30) (e_s := (1, 1, 1, 0, 0, .null, [])) (y_s := (31, [some (.ref _), some (.int _), some (.int _), none], [.int _], _)) rfl (u_ rfl) ?_
        refine w_t (pc := 31) (e_s := (0, 2, 0, 0, 0, .int 7, [])) (y_s := (33, [some (.ref _), some (.int _), some (.int _), none], [.int _, .int _], _)) rfl (u_ rfl) ?_
        refine wi1 (pc := 33) (len_s := 3) (Y := 7) rfl rfl (by decide) (fun c11 => ?_) (fun c11 => ?_)
        · replace t_s := t_s.1 c11
          refine w_t (pc := 36) (e_s := (3, 1, 0, 0, 0, .null, [])) (y_s := (37, [some (.ref _), some (.int _), some (.int _), none], [.ref _], _)) rfl (u_ rfl) ?_
          refine w_t (pc := 37) (e_s := (0, 2, 0, 0, 0, .int 50, [])) (y_s := (39, [some (.ref _), some (.int _), some (.int _), none], [.int _, .ref _], _)) rfl (u_ rfl) ?_
          refine wcV (pc := 39) (len_s := 3) rfl rfl (l := [some (.ref _), some (.int _)]) rfl (wmV t_s (fun h12 hk t_s => ?_))
          replace t_s := t_s hk
          refine w_t (pc := 42) (e_s := (3, 1, 0, 0, 0, .null, [])) (y_s := (43, [some (.ref _), some (.int _), some (.int _), none], [.ref _], _)) rfl (u_ rfl) ?_
          refine w_t (pc := 43) (e_s := (0, 1, 0, 0, 0, .int 1, [])) (y_s := (44, [some (.ref _), some (.int _), some (.int _), none], [.int _, .ref _], _)) rfl (u_ rfl) ?_
          refine w_t (pc := 44) (e_s := (1, 1, 2, 0, 0, .null, [])) (y_s := (45, [some (.ref _), some (.int _), some (.int _), none], [.int _, .int _, .ref _], _)) rfl (u_ rfl) ?_
          refine wcI (pc := 45) (len_s := 3) rfl rfl (l := [some (.ref _), some (.int _), some (.int _), none]) rfl (wmI t_s (fun v13 h13 hk t_s => ?_))
          replace t_s := t_s hk
          refine w_t (pc := 48) (e_s := (4, 1, 3, 0, 0, .null, [])) (y_s := (49, [some (.ref _), some (.int _), some (.int _), some (.int _)], [], _)) rfl (u_ rfl) ?_
          refine w_t (pc := 49) (e_s := (1, 1, 3, 0, 0, .null, [])) (y_s := (50, [some (.ref _), some (.int _), some (.int _), some (.int _)], [.int _], _)) rfl (u_ rfl) ?_
          refine w_t (pc := 50) (e_s := (3, 1, 0, 0, 0, .null, [])) (y_s := (51, [some (.ref _), some (.int _), some (.int _), some (.int _)], [.ref _, .int _], _)) rfl (u_ rfl) ?_
          refine w_t (pc := 51) (e_s := (3, 1, 0, 0, 0, .null, [])) (y_s := (52, [some (.ref _), some (.int _), some (.int _), some (.int _)], [.ref _, .ref _, .int _], _)) rfl (u_ rfl) ?_
          refine w20 (pc := 52) (len_s := 3) rfl ?_
          refine w_t (pc := 55) (e_s := (0, 1, 0, 0, 0, .int 2, [])) (y_s := (56, [some (.ref _), some (.int _), some (.int _), some (.int _)], [.int _, .int _, .ref _, .int _], _)) rfl (u_ rfl) ?_
          refine wcI (pc := 56) (len_s := 3) rfl rfl (l := [some (.ref _), some (.int _), some (.int _)]) rfl (wmI t_s (fun v14 h14 hk t_s => ?_))
          replace t_s := t_s hk
          refine w_t (pc := 59) (e_s := (7, 1, 0, 1, 0, .null, [])) (y_s := (60, [some (.ref _), some (.int _), some (.int _), some (.int _)], [.int (_ - _)], _)) rfl (u_ rfl) ?_
          exact wrI (pc := 60) (len_s := 1) rfl hk t_s
        · replace t_s := t_s.2 c11
          refine w_t (pc := 61) (e_s := (3, 1, 0, 0, 0, .null, [])) (y_s := (62, [some (.ref _), some (.int _), some (.int _), none], [.ref _], _)) rfl (u_ rfl) ?_
          refine w_t (pc := 62) (e_s := (0, 2, 0, 0, 0, .int 11, [])) (y_s := (64, [some (.ref _), some (.int _), some (.int _), none], [.int _, .ref _], _)) rfl (u_ rfl) ?_
          refine wcV (pc := 64) (len_s := 3) rfl rfl (l := [some (.ref _), some (.int _)]) rfl (wmV t_s (fun h15 hk t_s => ?_))
          replace t_s := t_s hk
          refine w_t (pc := 67) (e_s := (1, 1, 2, 0, 0, .null, [])) (y_s := (68, [some (.ref _), some (.int _), some (.int _), none], [.int _], _)) rfl (u_ rfl) ?_
          refine w_t (pc := 68) (e_s := (3, 1, 0, 0, 0, .null, [])) (y_s := (69, [some (.ref _), some (.int _), some (.int _), none], [.ref _, .int _], _)) rfl (u_ rfl) ?_
          refine w20 (pc := 69) (len_s := 3) rfl ?_
          refine w_t (pc := 72) (e_s := (7, 1, 0, 5, 0, .null, [])) (y_s := (73, [some (.ref _), some (.int _), some (.int _), none], [.int (_ ^^^ _)], _)) rfl (u_ rfl) ?_
          exact wrI (pc := 73) (len_s := 1) rfl hk t_s
/-- ColdShodModel.tellsAs(II)I, from 0 on -/
theorem sg_225_0 {F_s : Nat} {x1_s x2_s : Int32} {h_s : zH} {K_s : Int32 → zH → Prop} (hk : hKn h_s) (t_s : (x1_s.toInt = 5 → wF F_s 221 (0, [some (.ref 102), some (.int 60)], [], h_s) (gV (fun h2 => hKn h2 → wF F_s 225 (0, [some (.ref 102), some (.int 3), some (.int x2_s), none], [], h2) (gI (fun v3 h3 => hKn h3 → K_s (v3 ^^^ 5) h3))))) ∧ (¬ x1_s.toInt = 5 → ((x1_s.toInt = 7 → wF F_s 221 (0, [some (.ref 102), some (.int 81)], [], h_s) (gV (fun h5 => hKn h5 → wF F_s 225 (0, [some (.ref 102), some (.int 4), some (.int x2_s), none], [], h5) (gI (fun v6 h6 => hKn h6 → K_s (v6 - 1) h6))))) ∧ (¬ x1_s.toInt = 7 → wF F_s 221 (0, [some (.ref 102), some (.int 2)], [], h_s) (gV (fun h7 => hKn h7 → wF F_s 223 (0, [some (.ref 102), some (.int (h7.2.1 102 43)), some (.int x2_s), none], [], h7) (gI (fun v8 h8 => hKn h8 → wF F_s 224 (0, [some (.ref 102), some (.int (h8.2.1 102 43)), some (.int 1), none], [], h8) (gI (fun v9 h9 => hKn h9 → K_s (v8 - v9) h9)))))))))) : wF (F_s + 1) 225 (0, [some (.ref 102), some (.int x1_s), some (.int x2_s), none], [], h_s) (gI K_s) := by
  refine w_0 (pc := 0) (e_s := (1, 1, 1, 0, 0, .null, [])) (y_s := (1, [some (.ref _), some (.int _), some (.int _), none], [.int _], _)) rfl (u_ rfl) ?_
  refine w_t (pc := 1) (e_s := (0, 1, 0, 0, 0, .int 5, [])) (y_s := (2, [some (.ref _), some (.int _), some (.int _), none], [.int _, .int _], _)) rfl (u_ rfl) ?_
  refine wi1 (pc := 2) (len_s := 3) (Y := 5) rfl rfl (by decide) (fun c1_s => ?_) (fun c1_s => ?_)
  · replace t_s := t_s.1 c1_s
    refine w_t (pc := 5) (e_s := (3, 1, 0, 0, 0, .null, [])) (y_s := (6, [some (.ref _), some (.int _), some (.int _), none], [.ref _], _)) rfl (u_ rfl) ?_
    refine w_t (pc := 6) (e_s := (0, 2, 0, 0, 0, .int 60, [])) (y_s := (8, [some (.ref _), some (.int _), some (.int _), none], [.int _, .ref _], _)) rfl (u_ rfl) ?_
    refine wcV (pc := 8) (len_s := 3) rfl rfl (l := [some (.ref _), some (.int _)]) rfl (wmV t_s (fun h2 hk t_s => ?_))
    replace t_s := t_s hk
    refine w_t (pc := 11) (e_s := (3, 1, 0, 0, 0, .null, [])) (y_s := (12, [some (.ref _), some (.int _), some (.int _), none], [.ref _], _)) rfl (u_ rfl) ?_
    refine w_t (pc := 12) (e_s := (0, 1, 0, 0, 0, .int 3, [])) (y_s := (13, [some (.ref _), some (.int _), some (.int _), none], [.int _, .ref _], _)) rfl (u_ rfl) ?_
    refine w_t (pc := 13) (e_s := (1, 1, 2, 0, 0, .null, [])) (y_s := (14, [some (.ref _), some (.int _), some (.int _), none], [.int _, .int _, .ref _], _)) rfl (u_ rfl) ?_
    refine wcI (pc := 14) (len_s := 3) rfl rfl (l := [some (.ref _), some (.int _), some (.int _), none]) rfl (wmI t_s (fun v3 h3 hk t_s => ?_))
    replace t_s := t_s hk
    refine w_t (pc := 17) (e_s := (0, 1, 0, 0, 0, .int 5, [])) (y_s := (18, [some (.ref _), some (.int _), some (.int _), none], [.int _, .int _], _)) rfl (u_ rfl) ?_
    refine w_t (pc := 18) (e_s := (7, 1, 0, 5, 0, .null, [])) (y_s := (19, [some (.ref _), some (.int _), some (.int _), none], [.int (_ ^^^ _)], _)) rfl (u_ rfl) ?_
    exact wrI (pc := 19) (len_s := 1) rfl hk t_s
  · replace t_s := t_s.2 c1_s
    refine w_t (pc := 20) (e_s := (1, 1, 1, 0, 0, .null, [])) (y_s := (21, [some (.ref _), some (.int _), some (.int _), none], [.int _], _)) rfl (u_ rfl) ?_
    refine w_t (pc := 21) (e_s := (0, 2, 0, 0, 0, .int 7, [])) (y_s := (23, [some (.ref _), some (.int _), some (.int _), none], [.int _, .int _], _)) rfl (u_ rfl) ?_
    refine wi1 (pc := 23) (len_s := 3) (Y := 7) rfl rfl (by decide) (fun c4_s => ?_) (fun c4_s => ?_)
    · replace t_s := t_s.1 c4_s
      refine w_t (pc := 26) (e_s := (3, 1, 0, 0, 0, .null, [])) (y_s := (27, [some (.ref _), some (.int _), some (.int _), none], [.ref _], _)) rfl (u_ rfl) ?_
      refine w_t (pc := 27) (e_s := (0, 2, 0, 0, 0, .int 81, [])) (y_s := (29, [some (.ref _), some (.int _), some (.int _), none], [.int _, .ref _], _)) rfl (u_ rfl) ?_
      refine wcV (pc := 29) (len_s := 3) rfl rfl (l := [some (.ref _), some (.int _)]) rfl (wmV t_s (fun h5 hk t_s => ?_))
      replace t_s := t_s hk
      refine w_t (pc := 32) (e_s := (3, 1, 0, 0, 0, .null, [])) (y_s := (33, [some (.ref _), some (.int _), some (.int _), none], [.ref _], _)) rfl (u_ rfl) ?_
      refine w_t (pc := 33) (e_s := (0, 1, 0, 0, 0, .int 4, [])) (y_s := (34, [some (.ref _), some (.int _), some (.int _), none], [.int _, .ref _], _)) rfl (u_ rfl) ?_
      refine w_t (pc := 34) (e_s := (1, 1, 2, 0, 0, .null, [])) (y_s := (35, [some (.ref _), some (.int _), some (.int _), none], [.int _, .int _, .ref _], _)) rfl (u_ rfl) ?_
      refine wcI (pc := 35) (len_s := 3) rfl rfl (l := [some (.ref _), some (.int _), some (.int _), none]) rfl (wmI t_s (fun v6 h6 hk t_s => ?_))
      replace t_s := t_s hk
      refine w_t (pc := 38) (e_s := (0, 1, 0, 0, 0, .int 1, [])) (y_s := (39, [some (.ref _), some (.int _), some (.int _), none], [.int _, .int _], _)) rfl (u_ rfl) ?_
      refine w_t (pc := 39) (e_s := (7, 1, 0, 1, 0, .null, [])) (y_s := (40, [some (.ref _), some (.int _), some (.int _), none], [.int (_ - _)], _)) rfl (u_ rfl) ?_
      exact wrI (pc := 40) (len_s := 1) rfl hk t_s
    · replace t_s := t_s.2 c4_s
      refine w_t (pc := 41) (e_s := (3, 1, 0, 0, 0, .null, [])) (y_s := (42, [some (.ref _), some (.int _), some (.int _), none], [.ref _], _)) rfl (u_ rfl) ?_
      refine w_t (pc := 42) (e_s := (0, 1, 0, 0, 0, .int 2, [])) (y_s := (43, [some (.ref _), some (.int _), some (.int _), none], [.int _, .ref _], _)) rfl (u_ rfl) ?_
      refine wcV (pc := 43) (len_s := 3) rfl rfl (l := [some (.ref _), some (.int _)]) rfl (wmV t_s (fun h7 hk t_s => ?_))
      replace t_s := t_s hk
      refine w_t (pc := 46) (e_s := (3, 1, 0, 0, 0, .null, [])) (y_s := (47, [some (.ref _), some (.int _), some (.int _), none], [.ref _], _)) rfl (u_ rfl) ?_
      refine w_t (pc := 47) (e_s := (3, 1, 0, 0, 0, .null, [])) (y_s := (48, [some (.ref _), some (.int _), some (.int _), none], [.ref _, .ref _], _)) rfl (u_ rfl) ?_
      refine w20 (pc := 48) (len_s := 3) rfl ?_
      refine w_t (pc := 51) (e_s := (1, 1, 2, 0, 0, .null, [])) (y_s := (52, [some (.ref _), some (.int _), some (.int _), none], [.int _, .int _, .ref _], _)) rfl (u_ rfl) ?_
      refine wcI (pc := 52) (len_s := 3) rfl rfl (l := [some (.ref _), some (.int _), some (.int _), none]) rfl (wmI t_s (fun v8 h8 hk t_s => ?_))
      replace t_s := t_s hk
      refine w_t (pc := 55) (e_s := (4, 1, 3, 0, 0, .null, [])) (y_s := (56, [some (.ref _), some (.int _), some (.int _), some (.int _)], [], _)) rfl (u_ rfl) ?_
      refine w_t (pc := 56) (e_s := (1, 1, 3, 0, 0, .null, [])) (y_s := (57, [some (.ref _), some (.int _), some (.int _), some (.int _)], [.int _], _)) rfl (u_ rfl) ?_
      refine w_t (pc := 57) (e_s := (3, 1, 0, 0, 0, .null, [])) (y_s := (58, [some (.ref _), some (.int _), some (.int _), some (.int _)], [.ref _, .int _], _)) rfl (u_ rfl) ?_
      refine w_t (pc := 58) (e_s := (3, 1, 0, 0, 0, .null, [])) (y_s := (59, [some (.ref _), some (.int _), some (.int _), some (.int _)], [.ref _, .ref _, .int _], _)) rfl (u_ rfl) ?_
      refine w20 (pc := 59) (len_s := 3) rfl ?_
      refine w_t (pc := 62) (e_s := (0, 1, 0, 0, 0, .int 1, [])) (y_s := (63, [some (.ref _), some (.int _), some (.int _), some (.int _)], [.int _, .int _, .ref _, .int _], _)) rfl (u_ rfl) ?_
      refine wcI (pc := 63) (len_s := 3) rfl rfl (l := [some (.ref _), some (.int _), some (.int _), none]) rfl (wmI t_s (fun v9 h9 hk t_s => ?_))
      replace t_s := t_s hk
      refine w_t (pc := 66) (e_s := (7, 1, 0, 1, 0, .null, [])) (y_s := (67, [some (.ref _), some (.int _), some (.int _), some (.int _)], [.int (_ - _)], _)) rfl (u_ rfl) ?_
      exact wrI (pc := 67) (len_s := 1) rfl hk t_s
/-- ColdShod.count(I)I, from 0 on -/
theorem sg_134_0 {F_s : Nat} {x1_s : Int32} {h_s : zH} {K_s : Int32 → zH → Prop} (hk : hKn h_s) (t_s : (x1_s.toInt = 0 → K_s (h_s.2.1 7 6) h_s) ∧ (¬ x1_s.toInt = 0 → (x1_s.toInt = 1 → K_s (h_s.2.1 7 7) h_s) ∧ (¬ x1_s.toInt = 1 → (x1_s.toInt = 2 → K_s (h_s.2.1 7 8) h_s) ∧ (¬ x1_s.toInt = 2 → (x1_s.toInt = 3 → K_s (h_s.2.1 40 1) h_s) ∧ (¬ x1_s.toInt = 3 → (x1_s.toInt = 4 → K_s (h_s.2.1 42 0) h_s) ∧ (¬ x1_s.toInt = 4 → (x1_s.toInt = 5 → K_s (h_s.2.1 47 1) h_s) ∧ (¬ x1_s.toInt = 5 → (x1_s.toInt = 6 → K_s (h_s.2.1 47 2) h_s) ∧ (¬ x1_s.toInt = 6 → K_s (-1) h_s)))))))) : wF (F_s + 1) 134 (0, [some (.ref 6), some (.int x1_s)], [], h_s) (gI K_s) := by
  refine w_0 (pc := 0) (e_s := (1, 1, 1, 0, 0, .null, [])) (y_s := (1, [some (.ref _), some (.int _)], [.int _], _)) rfl (u_ rfl) ?_
  refine wsw (pc := 1) (len_s := 43) rfl ?_
  refine wsc (X_s := 0) rfl (by decide) (fun c1_s => ?_) (fun c1_s => ?_)
  · replace t_s := t_s.1 c1_s
    refine w_t (pc := 44) (e_s := (3, 1, 0, 0, 0, .null, [])) (y_s := (45, [some (.ref _), some (.int _)], [.ref _], _)) rfl (u_ rfl) ?_
    refine w20r (pc := 45) (len_s := 3) (q_s := 7) rfl (krq hk rfl) ?_
    refine w20 (pc := 48) (len_s := 3) rfl ?_
    exact wrI (pc := 51) (len_s := 1) rfl hk t_s
  · replace t_s := t_s.2 c1_s
    refine wsc (X_s := 1) rfl (by decide) (fun c2_s => ?_) (fun c2_s => ?_)
    · replace t_s := t_s.1 c2_s
      refine w_t (pc := 52) (e_s := (3, 1, 0, 0, 0, .null, [])) (y_s := (53, [some (.ref _), some (.int _)], [.ref _], _)) rfl (u_ rfl) ?_
      refine w20r (pc := 53) (len_s := 3) (q_s := 7) rfl (krq hk rfl) ?_
      refine w20 (pc := 56) (len_s := 3) rfl ?_
      exact wrI (pc := 59) (len_s := 1) rfl hk t_s
    · replace t_s := t_s.2 c2_s
      refine wsc (X_s := 2) rfl (by decide) (fun c3_s => ?_) (fun c3_s => ?_)
      · replace t_s := t_s.1 c3_s
        refine w_t (pc := 60) (e_s := (3, 1, 0, 0, 0, .null, [])) (y_s := (61, [some (.ref _), some (.int _)], [.ref _], _)) rfl (u_ rfl) ?_
        refine w20r (pc := 61) (len_s := 3) (q_s := 7) rfl (krq hk rfl) ?_
        refine w20 (pc := 64) (len_s := 3) rfl ?_
        exact wrI (pc := 67) (len_s := 1) rfl hk t_s
      · replace t_s := t_s.2 c3_s
        refine wsc (X_s := 3) rfl (by decide) (fun c4_s => ?_) (fun c4_s => ?_)
        · replace t_s := t_s.1 c4_s
          refine w_t (pc := 68) (e_s := (3, 1, 0, 0, 0, .null, [])) (y_s := (69, [some (.ref _), some (.int _)], [.ref _], _)) rfl (u_ rfl) ?_
          refine w20r (pc := 69) (len_s := 3) (q_s := 40) rfl (krq hk rfl) ?_
          refine w20 (pc := 72) (len_s := 3) rfl ?_
          exact wrI (pc := 75) (len_s := 1) rfl hk t_s
        · replace t_s := t_s.2 c4_s
          refine wsc (X_s := 4) rfl (by decide) (fun c5_s => ?_) (fun c5_s => ?_)
          · replace t_s := t_s.1 c5_s
            refine w_t (pc := 76) (e_s := (3, 1, 0, 0, 0, .null, [])) (y_s := (77, [some (.ref _), some (.int _)], [.ref _], _)) rfl (u_ rfl) ?_
            refine w20r (pc := 77) (len_s := 3) (q_s := 42) rfl (krq hk rfl) ?_
            refine w20 (pc := 80) (len_s := 3) rfl ?_
            exact wrI (pc := 83) (len_s := 1) rfl hk t_s
          · replace t_s := t_s.2 c5_s
            refine wsc (X_s := 5) rfl (by decide) (fun c6_s => ?_) (fun c6_s => ?_)
            · replace t_s := t_s.1 c6_s
              refine w_t (pc := 84) (e_s := (3, 1, 0, 0, 0, .null, [])) (y_s := (85, [some (.ref _), some (.int _)], [.ref _], _)) rfl (u_ rfl) ?_
              refine w20r (pc := 85) (len_s := 3) (q_s := 47) rfl (krq hk rfl) ?_
              refine w20 (pc := 88) (len_s := 3) rfl ?_
              exact wrI (pc := 91) (len_s := 1) rfl hk t_s
            · replace t_s := t_s.2 c6_s
              refine wsc (X_s := 6) rfl (by decide) (fun c7_s => ?_) (fun c7_s => ?_)
              · replace t_s := t_s.1 c7_s
                refine w_t (pc := 92) (e_s := (3, 1, 0, 0, 0, .null, [])) (y_s := (93, [some (.ref _), some (.int _)], [.ref _], _)) rfl (u_ rfl) ?_
                refine w20r (pc := 93) (len_s := 3) (q_s := 47) rfl (krq hk rfl) ?_
                refine w20 (pc := 96) (len_s := 3) rfl ?_
                exact wrI (pc := 99) (len_s := 1) rfl hk t_s
              · replace t_s := t_s.2 c7_s
                show wF _ _ (100, _, _, _) _
                refine w_t (pc := 100) (e_s := (0, 1, 0, 0, 0, .int (-1), [])) (y_s := (101, [some (.ref _), some (.int _)], [.int _], _)) rfl (u_ rfl) ?_
                exact wrI (pc := 101) (len_s := 1) rfl hk t_s
/-- ColdShodModel.count(I)I, from 0 on -/
theorem sg_237_0 {F_s : Nat} {x1_s : Int32} {h_s : zH} {K_s : Int32 → zH → Prop} (hk : hKn h_s) (t_s : (x1_s.toInt = 0 → K_s (h_s.2.1 102 6) h_s) ∧ (¬ x1_s.toInt = 0 → (x1_s.toInt = 1 → K_s (h_s.2.1 102 7) h_s) ∧ (¬ x1_s.toInt = 1 → (x1_s.toInt = 2 → K_s (h_s.2.1 102 8) h_s) ∧ (¬ x1_s.toInt = 2 → (x1_s.toInt = 3 → K_s (h_s.2.1 102 12) h_s) ∧ (¬ x1_s.toInt = 3 → (x1_s.toInt = 4 → K_s (h_s.2.1 102 5) h_s) ∧ (¬ x1_s.toInt = 4 → (x1_s.toInt = 5 → K_s (h_s.2.1 102 39) h_s) ∧ (¬ x1_s.toInt = 5 → (x1_s.toInt = 6 → K_s (h_s.2.1 102 42) h_s) ∧ (¬ x1_s.toInt = 6 → K_s (-1) h_s)))))))) : wF (F_s + 1) 237 (0, [some (.ref 102), some (.int x1_s)], [], h_s) (gI K_s) := by
  refine w_0 (pc := 0) (e_s := (1, 1, 1, 0, 0, .null, [])) (y_s := (1, [some (.ref _), some (.int _)], [.int _], _)) rfl (u_ rfl) ?_
  refine wsw (pc := 1) (len_s := 43) rfl ?_
  refine wsc (X_s := 0) rfl (by decide) (fun c1_s => ?_) (fun c1_s => ?_)
  · replace t_s := t_s.1 c1_s
    refine w_t (pc := 44) (e_s := (3, 1, 0, 0, 0, .null, [])) (y_s := (45, [some (.ref _), some (.int _)], [.ref _], _)) rfl (u_ rfl) ?_
    refine w20 (pc := 45) (len_s := 3) rfl ?_
    exact wrI (pc := 48) (len_s := 1) rfl hk t_s
  · replace t_s := t_s.2 c1_s
    refine wsc (X_s := 1) rfl (by decide) (fun c2_s => ?_) (fun c2_s => ?_)
    · replace t_s := t_s.1 c2_s
      refine w_t (pc := 49) (e_s := (3, 1, 0, 0, 0, .null, [])) (y_s := (50, [some (.ref _), some (.int _)], [.ref _], _)) rfl (u_ rfl) ?_
      refine w20 (pc := 50) (len_s := 3) rfl ?_
      exact wrI (pc := 53) (len_s := 1) rfl hk t_s
    · replace t_s := t_s.2 c2_s
      refine wsc (X_s := 2) rfl (by decide) (fun c3_s => ?_) (fun c3_s => ?_)
      · replace t_s := t_s.1 c3_s
        refine w_t (pc := 54) (e_s := (3, 1, 0, 0, 0, .null, [])) (y_s := (55, [some (.ref _), some (.int _)], [.ref _], _)) rfl (u_ rfl) ?_
        refine w20 (pc := 55) (len_s := 3) rfl ?_
        exact wrI (pc := 58) (len_s := 1) rfl hk t_s
      · replace t_s := t_s.2 c3_s
        refine wsc (X_s := 3) rfl (by decide) (fun c4_s => ?_) (fun c4_s => ?_)
        · replace t_s := t_s.1 c4_s
          refine w_t (pc := 59) (e_s := (3, 1, 0, 0, 0, .null, [])) (y_s := (60, [some (.ref _), some (.int _)], [.ref _], _)) rfl (u_ rfl) ?_
          refine w20 (pc := 60) (len_s := 3) rfl ?_
          exact wrI (pc := 63) (len_s := 1) rfl hk t_s
        · replace t_s := t_s.2 c4_s
          refine wsc (X_s := 4) rfl (by decide) (fun c5_s => ?_) (fun c5_s => ?_)
          · replace t_s := t_s.1 c5_s
            refine w_t (pc := 64) (e_s := (3, 1, 0, 0, 0, .null, [])) (y_s := (65, [some (.ref _), some (.int _)], [.ref _], _)) rfl (u_ rfl) ?_
            refine w20 (pc := 65) (len_s := 3) rfl ?_
            exact wrI (pc := 68) (len_s := 1) rfl hk t_s
          · replace t_s := t_s.2 c5_s
            refine wsc (X_s := 5) rfl (by decide) (fun c6_s => ?_) (fun c6_s => ?_)
            · replace t_s := t_s.1 c6_s
              refine w_t (pc := 69) (e_s := (3, 1, 0, 0, 0, .null, [])) (y_s := (70, [some (.ref _), some (.int _)], [.ref _], _)) rfl (u_ rfl) ?_
              refine w20 (pc := 70) (len_s := 3) rfl ?_
              exact wrI (pc := 73) (len_s := 1) rfl hk t_s
            · replace t_s := t_s.2 c6_s
              refine wsc (X_s := 6) rfl (by decide) (fun c7_s => ?_) (fun c7_s => ?_)
              · replace t_s := t_s.1 c7_s
                refine w_t (pc := 74) (e_s := (3, 1, 0, 0, 0, .null, [])) (y_s := (75, [some (.ref _), some (.int _)], [.ref _], _)) rfl (u_ rfl) ?_
                refine w20 (pc := 75) (len_s := 3) rfl ?_
                exact wrI (pc := 78) (len_s := 1) rfl hk t_s
              · replace t_s := t_s.2 c7_s
                show wF _ _ (79, _, _, _) _
                refine w_t (pc := 79) (e_s := (0, 1, 0, 0, 0, .int (-1), [])) (y_s := (80, [some (.ref _), some (.int _)], [.int _], _)) rfl (u_ rfl) ?_
                exact wrI (pc := 80) (len_s := 1) rfl hk t_s
/-- ColdShod.trace(I)I, from 0 on -/
theorem sg_127_0 {F_s : Nat} {x1_s : Int32} {h_s : zH} {K_s : Int32 → zH → Prop} (hk : hKn h_s) (t_s : (x1_s.toInt < 0 → K_s (-1) h_s) ∧ (¬ x1_s.toInt < 0 → ((x1_s.toInt < (h_s.2.1 47 2).toInt → ((x1_s.toInt < 24 → (zix x1_s < 24 → K_s (h_s.2.1 49 (zix x1_s)) h_s)) ∧ (¬ x1_s.toInt < 24 → K_s (-1) h_s))) ∧ (¬ x1_s.toInt < (h_s.2.1 47 2).toInt → K_s (-1) h_s)))) : wF (F_s + 1) 127 (0, [some (.ref 6), some (.int x1_s)], [], h_s) (gI K_s) := by
  refine w_0 (pc := 0) (e_s := (3, 1, 0, 0, 0, .null, [])) (y_s := (1, [some (.ref _), some (.int _)], [.ref _], _)) rfl (u_ rfl) ?_
  refine w20r (pc := 1) (len_s := 3) (q_s := 47) rfl (krq hk rfl) ?_
  refine w_t (pc := 4) (e_s := (1, 1, 1, 0, 0, .null, [])) (y_s := (5, [some (.ref _), some (.int _)], [.int _, .ref _], _)) rfl (u_ rfl) ?_
  refine wcI (pc := 5) (len_s := 3) rfl rfl (l := [some (.ref _), some (.int _)]) rfl ?_
  refine w_t (pc := 0) (e_s := (1, 1, 1, 0, 0, .null, [])) (y_s := (1, [some (.ref _), some (.int _)], [.int _], _)) rfl (u_ rfl) ?_
  refine wq2 (pc := 1) (len_s := 3) rfl rfl (fun c1_s => ?_) (fun c1_s => ?_)
  · replace t_s := t_s.1 c1_s
    refine w_t (pc := 18) (e_s := (0, 1, 0, 0, 0, .int (-1), [])) (y_s := (19, [some (.ref _), some (.int _)], [.int _], _)) rfl (u_ rfl) ?_
    refine w_t (pc := 19) (e_s := (17, 3, 28, 0, 0, .null, [])) (y_s := (28, [some (.ref _), some (.int _)], [.int _], _)) rfl (u_ rfl) ?_
    refine wrI (pc := 28) (len_s := 1) rfl hk ?_
    show wF _ 127 (8, [some (.ref _), some (.int _)], [.int _], _) _
    exact wrI (pc := 8) (len_s := 1) rfl hk t_s
  · replace t_s := t_s.2 c1_s
    refine w_t (pc := 4) (e_s := (1, 1, 1, 0, 0, .null, [])) (y_s := (5, [some (.ref _), some (.int _)], [.int _], _)) rfl (u_ rfl) ?_
    refine w_t (pc := 5) (e_s := (3, 1, 0, 0, 0, .null, [])) (y_s := (6, [some (.ref _), some (.int _)], [.ref _, .int _], _)) rfl (u_ rfl) ?_
    refine w20 (pc := 6) (len_s := 3) rfl ?_
    refine wi3 (pc := 9) (len_s := 3) rfl rfl rfl (fun c2_s => ?_) (fun c2_s => ?_)
    · replace t_s := t_s.1 c2_s
      refine w_t (pc := 12) (e_s := (1, 1, 1, 0, 0, .null, [])) (y_s := (13, [some (.ref _), some (.int _)], [.int _], _)) rfl (u_ rfl) ?_
      refine w_t (pc := 13) (e_s := (0, 2, 0, 0, 0, .int 24, [])) (y_s := (15, [some (.ref _), some (.int _)], [.int _, .int _], _)) rfl (u_ rfl) ?_
      refine wi2 (pc := 15) (len_s := 3) (Y := 24) rfl rfl (by decide) (fun c3_s => ?_) (fun c3_s => ?_)
      · replace t_s := t_s.1 c3_s
        refine w_t (pc := 22) (e_s := (3, 1, 0, 0, 0, .null, [])) (y_s := (23, [some (.ref _), some (.int _)], [.ref _], _)) rfl (u_ rfl) ?_
        refine w20r (pc := 23) (len_s := 3) (q_s := 49) rfl (krq hk rfl) ?_
        refine w_t (pc := 26) (e_s := (1, 1, 1, 0, 0, .null, [])) (y_s := (27, [some (.ref _), some (.int _)], [.int _, .ref _], _)) rfl (u_ rfl) ?_
        refine w22 (pc := 27) (len_s := 1) rfl (hk.1 49 0 24 rfl rfl) (fun c4_s => ?_)
        replace t_s := t_s c4_s
        refine wrI (pc := 28) (len_s := 1) rfl hk ?_
        show wF _ 127 (8, [some (.ref _), some (.int _)], [.int _], _) _
        exact wrI (pc := 8) (len_s := 1) rfl hk t_s
      · replace t_s := t_s.2 c3_s
        refine w_t (pc := 18) (e_s := (0, 1, 0, 0, 0, .int (-1), [])) (y_s := (19, [some (.ref _), some (.int _)], [.int _], _)) rfl (u_ rfl) ?_
        refine w_t (pc := 19) (e_s := (17, 3, 28, 0, 0, .null, [])) (y_s := (28, [some (.ref _), some (.int _)], [.int _], _)) rfl (u_ rfl) ?_
        refine wrI (pc := 28) (len_s := 1) rfl hk ?_
        show wF _ 127 (8, [some (.ref _), some (.int _)], [.int _], _) _
        exact wrI (pc := 8) (len_s := 1) rfl hk t_s
    · replace t_s := t_s.2 c2_s
      refine w_t (pc := 18) (e_s := (0, 1, 0, 0, 0, .int (-1), [])) (y_s := (19, [some (.ref _), some (.int _)], [.int _], _)) rfl (u_ rfl) ?_
      refine w_t (pc := 19) (e_s := (17, 3, 28, 0, 0, .null, [])) (y_s := (28, [some (.ref _), some (.int _)], [.int _], _)) rfl (u_ rfl) ?_
      refine wrI (pc := 28) (len_s := 1) rfl hk ?_
      show wF _ 127 (8, [some (.ref _), some (.int _)], [.int _], _) _
      exact wrI (pc := 8) (len_s := 1) rfl hk t_s
/-- ColdShodModel.trace(I)I, from 0 on -/
theorem sg_227_0 {F_s : Nat} {x1_s : Int32} {h_s : zH} {K_s : Int32 → zH → Prop} (hk : hKn h_s) (t_s : (x1_s.toInt < 0 → K_s (-1) h_s) ∧ (¬ x1_s.toInt < 0 → ((x1_s.toInt < (h_s.2.1 102 42).toInt → ((x1_s.toInt < 24 → (zix x1_s < 24 → K_s (h_s.2.1 123 (zix x1_s)) h_s)) ∧ (¬ x1_s.toInt < 24 → K_s (-1) h_s))) ∧ (¬ x1_s.toInt < (h_s.2.1 102 42).toInt → K_s (-1) h_s)))) : wF (F_s + 1) 227 (0, [some (.ref 102), some (.int x1_s)], [], h_s) (gI K_s) := by
  refine w_0 (pc := 0) (e_s := (1, 1, 1, 0, 0, .null, [])) (y_s := (1, [some (.ref _), some (.int _)], [.int _], _)) rfl (u_ rfl) ?_
  refine wq2 (pc := 1) (len_s := 3) rfl rfl (fun c1_s => ?_) (fun c1_s => ?_)
  · replace t_s := t_s.1 c1_s
    refine w_t (pc := 27) (e_s := (0, 1, 0, 0, 0, .int (-1), [])) (y_s := (28, [some (.ref _), some (.int _)], [.int _], _)) rfl (u_ rfl) ?_
    exact wrI (pc := 28) (len_s := 1) rfl hk t_s
  · replace t_s := t_s.2 c1_s
    refine w_t (pc := 4) (e_s := (1, 1, 1, 0, 0, .null, [])) (y_s := (5, [some (.ref _), some (.int _)], [.int _], _)) rfl (u_ rfl) ?_
    refine w_t (pc := 5) (e_s := (3, 1, 0, 0, 0, .null, [])) (y_s := (6, [some (.ref _), some (.int _)], [.ref _, .int _], _)) rfl (u_ rfl) ?_
    refine w20 (pc := 6) (len_s := 3) rfl ?_
    refine wi3 (pc := 9) (len_s := 3) rfl rfl rfl (fun c2_s => ?_) (fun c2_s => ?_)
    · replace t_s := t_s.1 c2_s
      refine w_t (pc := 12) (e_s := (1, 1, 1, 0, 0, .null, [])) (y_s := (13, [some (.ref _), some (.int _)], [.int _], _)) rfl (u_ rfl) ?_
      refine w_t (pc := 13) (e_s := (0, 2, 0, 0, 0, .int 24, [])) (y_s := (15, [some (.ref _), some (.int _)], [.int _, .int _], _)) rfl (u_ rfl) ?_
      refine wi3 (pc := 15) (len_s := 3) (Y := 24) rfl rfl (by decide) (fun c3_s => ?_) (fun c3_s => ?_)
      · replace t_s := t_s.1 c3_s
        refine w_t (pc := 18) (e_s := (3, 1, 0, 0, 0, .null, [])) (y_s := (19, [some (.ref _), some (.int _)], [.ref _], _)) rfl (u_ rfl) ?_
        refine w20r (pc := 19) (len_s := 3) (q_s := 123) rfl (krq hk rfl) ?_
        refine w_t (pc := 22) (e_s := (1, 1, 1, 0, 0, .null, [])) (y_s := (23, [some (.ref _), some (.int _)], [.int _, .ref _], _)) rfl (u_ rfl) ?_
        refine w22 (pc := 23) (len_s := 1) rfl (hk.1 123 0 24 rfl rfl) (fun c4_s => ?_)
        replace t_s := t_s c4_s
        refine w_t (pc := 24) (e_s := (17, 3, 28, 0, 0, .null, [])) (y_s := (28, [some (.ref _), some (.int _)], [.int _], _)) rfl (u_ rfl) ?_
        exact wrI (pc := 28) (len_s := 1) rfl hk t_s
      · replace t_s := t_s.2 c3_s
        refine w_t (pc := 27) (e_s := (0, 1, 0, 0, 0, .int (-1), [])) (y_s := (28, [some (.ref _), some (.int _)], [.int _], _)) rfl (u_ rfl) ?_
        exact wrI (pc := 28) (len_s := 1) rfl hk t_s
    · replace t_s := t_s.2 c2_s
      refine w_t (pc := 27) (e_s := (0, 1, 0, 0, 0, .int (-1), [])) (y_s := (28, [some (.ref _), some (.int _)], [.int _], _)) rfl (u_ rfl) ?_
      exact wrI (pc := 28) (len_s := 1) rfl hk t_s
