/-! What ended runs give: printed by a program (wip/fun/sg.py). -/
/-- ColdShod.goes(II)I, from 0 on -/
theorem sg_118_0 {F_s : Nat} {x1_s : Int32} {x2_s : Int32} {h_s : zH} {K_s : Int32 → zH → Prop} (hk : hKn h_s) (t_s : (x1_s.toInt < 0 → K_s (-1) h_s) ∧ (¬ x1_s.toInt < 0 → ((x1_s.toInt < (h_s.2.1 7 7).toInt → ((x2_s.toInt < 0 → K_s (-1) h_s) ∧ (¬ x2_s.toInt < 0 → ((x2_s.toInt < (h_s.2.1 7 8).toInt → (zix x1_s < 8 → (zix x2_s < 12 → ((h_s.2.1 (20 + (zix x1_s)) 2).toInt < 99 → (((9 - ((h_s.2.1 (20 + (zix x1_s)) 2) / 11)).toInt < (h_s.2.1 (28 + (zix x2_s)) 3).toInt → K_s (-5) h_s) ∧ (¬ (9 - ((h_s.2.1 (20 + (zix x1_s)) 2) / 11)).toInt < (h_s.2.1 (28 + (zix x2_s)) 3).toInt → wF F_s 24 (0, [some (.ref 7), some (.ref (20 + (zix x1_s))), some (.ref (28 + (zix x2_s))), none, none], [], h_s) (gI (fun v9 h9 => hKn h9 → (v9.toInt = ((zup h9.2.1 73 3 ((h9.2.1 73 3) + v9)) (28 + (zix x2_s)) 2).toInt → ((((zup (zup h9.2.1 73 3 ((h9.2.1 73 3) + v9)) 73 2 ((h9.2.1 73 2) + 1)) (20 + (zix x1_s)) 2).toInt < 99 → K_s v9 (h9.1, zup (zup h9.2.1 73 3 ((h9.2.1 73 3) + v9)) 73 2 ((h9.2.1 73 2) + 1), h9.2.2.1, h9.2.2.2)) ∧ (¬ ((zup (zup h9.2.1 73 3 ((h9.2.1 73 3) + v9)) 73 2 ((h9.2.1 73 2) + 1)) (20 + (zix x1_s)) 2).toInt < 99 → K_s v9 (h9.1, zup (zup (zup h9.2.1 73 3 ((h9.2.1 73 3) + v9)) 73 2 ((h9.2.1 73 2) + 1)) 73 4 ((h9.2.1 73 4) + 1), h9.2.2.1, h9.2.2.2)))) ∧ (¬ v9.toInt = ((zup h9.2.1 73 3 ((h9.2.1 73 3) + v9)) (28 + (zix x2_s)) 2).toInt → ((((zup h9.2.1 73 3 ((h9.2.1 73 3) + v9)) (20 + (zix x1_s)) 2).toInt < 99 → K_s v9 (h9.1, zup h9.2.1 73 3 ((h9.2.1 73 3) + v9), h9.2.2.1, h9.2.2.2)) ∧ (¬ ((zup h9.2.1 73 3 ((h9.2.1 73 3) + v9)) (20 + (zix x1_s)) 2).toInt < 99 → K_s v9 (h9.1, zup (zup h9.2.1 73 3 ((h9.2.1 73 3) + v9)) 73 4 ((h9.2.1 73 4) + 1), h9.2.2.1, h9.2.2.2))))))))) ∧ (¬ (h_s.2.1 (20 + (zix x1_s)) 2).toInt < 99 → K_s (-5) h_s)))) ∧ (¬ x2_s.toInt < (h_s.2.1 7 8).toInt → K_s (-1) h_s))))) ∧ (¬ x1_s.toInt < (h_s.2.1 7 7).toInt → K_s (-1) h_s)))) : wF (F_s + 1) 118 (0, [some (.ref 6), some (.int x1_s), some (.int x2_s), none, none, none], [], h_s) (gI K_s) := by
  refine w_0 (pc := 0) (e_s := (3, 1, 0, 0, 0, .null, [])) (y_s := (1, [some (.ref _), some (.int _), some (.int _), none, none, none], [.ref _], _)) rfl (u_ rfl) ?_
  refine w20r (pc := 1) (len_s := 3) (q_s := 7) rfl (krq hk rfl) ?_
  refine w_t (pc := 4) (e_s := (1, 1, 1, 0, 0, .null, [])) (y_s := (5, [some (.ref _), some (.int _), some (.int _), none, none, none], [.int _, .ref _], _)) rfl (u_ rfl) ?_
  refine wcI (pc := 5) (len_s := 3) rfl rfl (l := [some (.ref _), some (.int _)]) rfl ?_
  refine w_t (pc := 0) (e_s := (1, 1, 1, 0, 0, .null, [])) (y_s := (1, [some (.ref _), some (.int _)], [.int _], _)) rfl (u_ rfl) ?_
  refine wq2 (pc := 1) (len_s := 3) rfl rfl (fun c1_s => ?_) (fun c1_s => ?_)
  · replace t_s := t_s.1 c1_s
    refine w_t (pc := 16) (e_s := (0, 1, 0, 0, 0, .int 0, [])) (y_s := (17, [some (.ref _), some (.int _)], [.int _], _)) rfl (u_ rfl) ?_
    refine wrI (pc := 17) (len_s := 1) rfl hk ?_
    show wF _ 118 (8, [some (.ref _), some (.int _), some (.int _), none, none, none], [.int _], _) _
    refine w_t (pc := 8) (e_s := (15, 3, 22, 0, 0, .null, [])) (y_s := (22, [some (.ref _), some (.int _), some (.int _), none, none, none], [], _)) rfl (u_ rfl) ?_
    refine w_t (pc := 22) (e_s := (0, 1, 0, 0, 0, .int (-1), [])) (y_s := (23, [some (.ref _), some (.int _), some (.int _), none, none, none], [.int _], _)) rfl (u_ rfl) ?_
    exact wrI (pc := 23) (len_s := 1) rfl hk t_s
  · replace t_s := t_s.2 c1_s
    refine w_t (pc := 4) (e_s := (1, 1, 1, 0, 0, .null, [])) (y_s := (5, [some (.ref _), some (.int _)], [.int _], _)) rfl (u_ rfl) ?_
    refine w_t (pc := 5) (e_s := (3, 1, 0, 0, 0, .null, [])) (y_s := (6, [some (.ref _), some (.int _)], [.ref _, .int _], _)) rfl (u_ rfl) ?_
    refine w20 (pc := 6) (len_s := 3) rfl ?_
    refine wi3 (pc := 9) (len_s := 3) rfl rfl rfl (fun c2_s => ?_) (fun c2_s => ?_)
    · replace t_s := t_s.1 c2_s
      refine w_t (pc := 12) (e_s := (0, 1, 0, 0, 0, .int 1, [])) (y_s := (13, [some (.ref _), some (.int _)], [.int _], _)) rfl (u_ rfl) ?_
      refine w_t (pc := 13) (e_s := (17, 3, 17, 0, 0, .null, [])) (y_s := (17, [some (.ref _), some (.int _)], [.int _], _)) rfl (u_ rfl) ?_
      refine wrI (pc := 17) (len_s := 1) rfl hk ?_
      show wF _ 118 (8, [some (.ref _), some (.int _), some (.int _), none, none, none], [.int _], _) _
      refine w_t (pc := 8) (e_s := (15, 3, 22, 0, 0, .null, [])) (y_s := (11, [some (.ref _), some (.int _), some (.int _), none, none, none], [], _)) rfl (u_ rfl) ?_
      refine w_t (pc := 11) (e_s := (3, 1, 0, 0, 0, .null, [])) (y_s := (12, [some (.ref _), some (.int _), some (.int _), none, none, none], [.ref _], _)) rfl (u_ rfl) ?_
      refine w20r (pc := 12) (len_s := 3) (q_s := 7) rfl (krq hk rfl) ?_
      refine w_t (pc := 15) (e_s := (1, 1, 2, 0, 0, .null, [])) (y_s := (16, [some (.ref _), some (.int _), some (.int _), none, none, none], [.int _, .ref _], _)) rfl (u_ rfl) ?_
      refine wcI (pc := 16) (len_s := 3) rfl rfl (l := [some (.ref _), some (.int _)]) rfl ?_
      refine w_t (pc := 0) (e_s := (1, 1, 1, 0, 0, .null, [])) (y_s := (1, [some (.ref _), some (.int _)], [.int _], _)) rfl (u_ rfl) ?_
      refine wq2 (pc := 1) (len_s := 3) rfl rfl (fun c3_s => ?_) (fun c3_s => ?_)
      · replace t_s := t_s.1 c3_s
        refine w_t (pc := 16) (e_s := (0, 1, 0, 0, 0, .int 0, [])) (y_s := (17, [some (.ref _), some (.int _)], [.int _], _)) rfl (u_ rfl) ?_
        refine wrI (pc := 17) (len_s := 1) rfl hk ?_
        show wF _ 118 (19, [some (.ref _), some (.int _), some (.int _), none, none, none], [.int _], _) _
        refine w_t (pc := 19) (e_s := (15, 3, 24, 1, 0, .null, [])) (y_s := (22, [some (.ref _), some (.int _), some (.int _), none, none, none], [], _)) rfl (u_ rfl) ?_
        refine w_t (pc := 22) (e_s := (0, 1, 0, 0, 0, .int (-1), [])) (y_s := (23, [some (.ref _), some (.int _), some (.int _), none, none, none], [.int _], _)) rfl (u_ rfl) ?_
        exact wrI (pc := 23) (len_s := 1) rfl hk t_s
      · replace t_s := t_s.2 c3_s
        refine w_t (pc := 4) (e_s := (1, 1, 1, 0, 0, .null, [])) (y_s := (5, [some (.ref _), some (.int _)], [.int _], _)) rfl (u_ rfl) ?_
        refine w_t (pc := 5) (e_s := (3, 1, 0, 0, 0, .null, [])) (y_s := (6, [some (.ref _), some (.int _)], [.ref _, .int _], _)) rfl (u_ rfl) ?_
        refine w20 (pc := 6) (len_s := 3) rfl ?_
        refine wi3 (pc := 9) (len_s := 3) rfl rfl rfl (fun c4_s => ?_) (fun c4_s => ?_)
        · replace t_s := t_s.1 c4_s
          refine w_t (pc := 12) (e_s := (0, 1, 0, 0, 0, .int 1, [])) (y_s := (13, [some (.ref _), some (.int _)], [.int _], _)) rfl (u_ rfl) ?_
          refine w_t (pc := 13) (e_s := (17, 3, 17, 0, 0, .null, [])) (y_s := (17, [some (.ref _), some (.int _)], [.int _], _)) rfl (u_ rfl) ?_
          refine wrI (pc := 17) (len_s := 1) rfl hk ?_
          show wF _ 118 (19, [some (.ref _), some (.int _), some (.int _), none, none, none], [.int _], _) _
          refine w_t (pc := 19) (e_s := (15, 3, 24, 1, 0, .null, [])) (y_s := (24, [some (.ref _), some (.int _), some (.int _), none, none, none], [], _)) rfl (u_ rfl) ?_
          refine w_t (pc := 24) (e_s := (3, 1, 0, 0, 0, .null, [])) (y_s := (25, [some (.ref _), some (.int _), some (.int _), none, none, none], [.ref _], _)) rfl (u_ rfl) ?_
          refine w20r (pc := 25) (len_s := 3) (q_s := 7) rfl (krq hk rfl) ?_
          refine w20r (pc := 28) (len_s := 3) (q_s := 10) rfl (krq hk rfl) ?_
          refine w_t (pc := 31) (e_s := (1, 1, 1, 0, 0, .null, [])) (y_s := (32, [some (.ref _), some (.int _), some (.int _), none, none, none], [.int _, .ref _], _)) rfl (u_ rfl) ?_
          refine w24 (g_s := fun j_ => 20 + j_) (pc := 32) (len_s := 1) hk rfl (hk.1 10 2 8 rfl rfl) kg10 (fun c5_s => ?_)
          replace t_s := t_s c5_s
          refine w_t (pc := 33) (e_s := (6, 1, 3, 0, 0, .null, [])) (y_s := (34, [some (.ref _), some (.int _), some (.int _), some (.ref _), none, none], [], _)) rfl (u_ rfl) ?_
          refine w_t (pc := 34) (e_s := (3, 1, 0, 0, 0, .null, [])) (y_s := (35, [some (.ref _), some (.int _), some (.int _), some (.ref _), none, none], [.ref _], _)) rfl (u_ rfl) ?_
          refine w20r (pc := 35) (len_s := 3) (q_s := 7) rfl (krq hk rfl) ?_
          refine w20r (pc := 38) (len_s := 3) (q_s := 11) rfl (krq hk rfl) ?_
          refine w_t (pc := 41) (e_s := (1, 1, 2, 0, 0, .null, [])) (y_s := (42, [some (.ref _), some (.int _), some (.int _), some (.ref _), none, none], [.int _, .ref _], _)) rfl (u_ rfl) ?_
          refine w24 (g_s := fun j_ => 28 + j_) (pc := 42) (len_s := 1) hk rfl (hk.1 11 3 12 rfl rfl) kg11 (fun c6_s => ?_)
          replace t_s := t_s c6_s
          refine w_t (pc := 43) (e_s := (6, 2, 4, 0, 0, .null, [])) (y_s := (45, [some (.ref _), some (.int _), some (.int _), some (.ref _), some (.ref _), none], [], _)) rfl (u_ rfl) ?_
          refine w_t (pc := 45) (e_s := (3, 1, 3, 0, 0, .null, [])) (y_s := (46, [some (.ref _), some (.int _), some (.int _), some (.ref _), some (.ref _), none], [.ref _], _)) rfl (u_ rfl) ?_
          refine w_t (pc := 46) (e_s := (3, 2, 4, 0, 0, .null, [])) (y_s := (48, [some (.ref _), some (.int _), some (.int _), some (.ref _), some (.ref _), none], [.ref _, .ref _], _)) rfl (u_ rfl) ?_
          refine wcI (pc := 48) (len_s := 3) rfl rfl (l := [some (.ref _), some (.ref _)]) rfl ?_
          refine w_t (pc := 0) (e_s := (3, 1, 0, 0, 0, .null, [])) (y_s := (1, [some (.ref _), some (.ref _)], [.ref _], _)) rfl (u_ rfl) ?_
          refine wcI (pc := 1) (len_s := 3) rfl rfl (l := [some (.ref _)]) rfl ?_
          refine w_t (pc := 0) (e_s := (3, 1, 0, 0, 0, .null, [])) (y_s := (1, [some (.ref _)], [.ref _], _)) rfl (u_ rfl) ?_
          refine w20 (pc := 1) (len_s := 3) rfl ?_
          refine w_t (pc := 4) (e_s := (0, 2, 0, 0, 0, .int 99, [])) (y_s := (6, [some (.ref _)], [.int _, .int _], _)) rfl (u_ rfl) ?_
          refine wi2 (pc := 6) (len_s := 3) (Y := 99) rfl rfl (by decide) (fun c7_s => ?_) (fun c7_s => ?_)
          · replace t_s := t_s.1 c7_s
            refine w_t (pc := 13) (e_s := (0, 1, 0, 0, 0, .int 0, [])) (y_s := (14, [some (.ref _)], [.int _], _)) rfl (u_ rfl) ?_
            refine wrI (pc := 14) (len_s := 1) rfl hk ?_
            show wF _ 40 (4, [some (.ref _), some (.ref _)], [.int _], _) _
            refine w_t (pc := 4) (e_s := (15, 3, 19, 1, 0, .null, [])) (y_s := (7, [some (.ref _), some (.ref _)], [], _)) rfl (u_ rfl) ?_
            refine w_t (pc := 7) (e_s := (3, 1, 0, 0, 0, .null, [])) (y_s := (8, [some (.ref _), some (.ref _)], [.ref _], _)) rfl (u_ rfl) ?_
            refine w_t (pc := 8) (e_s := (3, 1, 1, 0, 0, .null, [])) (y_s := (9, [some (.ref _), some (.ref _)], [.ref _, .ref _], _)) rfl (u_ rfl) ?_
            refine wcI (pc := 9) (len_s := 3) rfl rfl (l := [some (.ref _), some (.ref _)]) rfl ?_
            refine w_t (pc := 0) (e_s := (3, 1, 1, 0, 0, .null, [])) (y_s := (1, [some (.ref _), some (.ref _)], [.ref _], _)) rfl (u_ rfl) ?_
            refine w20 (pc := 1) (len_s := 3) rfl ?_
            refine w_t (pc := 4) (e_s := (3, 1, 0, 0, 0, .null, [])) (y_s := (5, [some (.ref _), some (.ref _)], [.ref _, .int _], _)) rfl (u_ rfl) ?_
            refine wcI (pc := 5) (len_s := 3) rfl rfl (l := [some (.ref _)]) rfl ?_
            refine w_t (pc := 0) (e_s := (0, 2, 0, 0, 0, .int 9, [])) (y_s := (2, [some (.ref _)], [.int _], _)) rfl (u_ rfl) ?_
            refine w_t (pc := 2) (e_s := (3, 1, 0, 0, 0, .null, [])) (y_s := (3, [some (.ref _)], [.ref _, .int _], _)) rfl (u_ rfl) ?_
            refine w20 (pc := 3) (len_s := 3) rfl ?_
            refine w_t (pc := 6) (e_s := (0, 2, 0, 0, 0, .int 11, [])) (y_s := (8, [some (.ref _)], [.int _, .int _, .int _], _)) rfl (u_ rfl) ?_
            refine w8 (pc := 8) (len_s := 1) rfl ?_
            refine w_t (pc := 9) (e_s := (7, 1, 0, 1, 0, .null, [])) (y_s := (10, [some (.ref _)], [.int (_ - _)], _)) rfl (u_ rfl) ?_
            refine wrI (pc := 10) (len_s := 1) rfl hk ?_
            show wF _ 39 (8, [some (.ref _), some (.ref _)], [.int _, .int _], _) _
            refine wi4 (pc := 8) (len_s := 3) rfl rfl rfl (fun c8_s => ?_) (fun c8_s => ?_)
            · replace t_s := t_s.1 c8_s
              refine w_t (pc := 15) (e_s := (0, 1, 0, 0, 0, .int 0, [])) (y_s := (16, [some (.ref _), some (.ref _)], [.int _], _)) rfl (u_ rfl) ?_
              refine wrI (pc := 16) (len_s := 1) rfl hk ?_
              show wF _ 40 (12, [some (.ref _), some (.ref _)], [.int _], _) _
              refine w_t (pc := 12) (e_s := (15, 3, 19, 0, 0, .null, [])) (y_s := (19, [some (.ref _), some (.ref _)], [], _)) rfl (u_ rfl) ?_
              refine w_t (pc := 19) (e_s := (0, 1, 0, 0, 0, .int 0, [])) (y_s := (20, [some (.ref _), some (.ref _)], [.int _], _)) rfl (u_ rfl) ?_
              refine wrI (pc := 20) (len_s := 1) rfl hk ?_
              show wF _ 118 (51, [some (.ref _), some (.int _), some (.int _), some (.ref _), some (.ref _), none], [.int _], _) _
              refine w_t (pc := 51) (e_s := (15, 3, 57, 1, 0, .null, [])) (y_s := (54, [some (.ref _), some (.int _), some (.int _), some (.ref _), some (.ref _), none], [], _)) rfl (u_ rfl) ?_
              refine w_t (pc := 54) (e_s := (0, 2, 0, 0, 0, .int (-5), [])) (y_s := (56, [some (.ref _), some (.int _), some (.int _), some (.ref _), some (.ref _), none], [.int _], _)) rfl (u_ rfl) ?_
              exact wrI (pc := 56) (len_s := 1) rfl hk t_s
            · replace t_s := t_s.2 c8_s
              refine w_t (pc := 11) (e_s := (0, 1, 0, 0, 0, .int 1, [])) (y_s := (12, [some (.ref _), some (.ref _)], [.int _], _)) rfl (u_ rfl) ?_
              refine w_t (pc := 12) (e_s := (17, 3, 16, 0, 0, .null, [])) (y_s := (16, [some (.ref _), some (.ref _)], [.int _], _)) rfl (u_ rfl) ?_
              refine wrI (pc := 16) (len_s := 1) rfl hk ?_
              show wF _ 40 (12, [some (.ref _), some (.ref _)], [.int _], _) _
              refine w_t (pc := 12) (e_s := (15, 3, 19, 0, 0, .null, [])) (y_s := (15, [some (.ref _), some (.ref _)], [], _)) rfl (u_ rfl) ?_
              refine w_t (pc := 15) (e_s := (0, 1, 0, 0, 0, .int 1, [])) (y_s := (16, [some (.ref _), some (.ref _)], [.int _], _)) rfl (u_ rfl) ?_
              refine w_t (pc := 16) (e_s := (17, 3, 20, 0, 0, .null, [])) (y_s := (20, [some (.ref _), some (.ref _)], [.int _], _)) rfl (u_ rfl) ?_
              refine wrI (pc := 20) (len_s := 1) rfl hk ?_
              show wF _ 118 (51, [some (.ref _), some (.int _), some (.int _), some (.ref _), some (.ref _), none], [.int _], _) _
              refine w_t (pc := 51) (e_s := (15, 3, 57, 1, 0, .null, [])) (y_s := (57, [some (.ref _), some (.int _), some (.int _), some (.ref _), some (.ref _), none], [], _)) rfl (u_ rfl) ?_
              refine w_t (pc := 57) (e_s := (3, 1, 0, 0, 0, .null, [])) (y_s := (58, [some (.ref _), some (.int _), some (.int _), some (.ref _), some (.ref _), none], [.ref _], _)) rfl (u_ rfl) ?_
              refine w20r (pc := 58) (len_s := 3) (q_s := 7) rfl (krq hk rfl) ?_
              refine w_t (pc := 61) (e_s := (3, 1, 3, 0, 0, .null, [])) (y_s := (62, [some (.ref _), some (.int _), some (.int _), some (.ref _), some (.ref _), none], [.ref _, .ref _], _)) rfl (u_ rfl) ?_
              refine w_t (pc := 62) (e_s := (3, 2, 4, 0, 0, .null, [])) (y_s := (64, [some (.ref _), some (.int _), some (.int _), some (.ref _), some (.ref _), none], [.ref _, .ref _, .ref _], _)) rfl (u_ rfl) ?_
              refine wcI (pc := 64) (len_s := 3) rfl rfl (l := [some (.ref _), some (.ref _), some (.ref _), none, none]) rfl (wmI t_s (fun v9 h9 hk t_s => ?_))
              replace t_s := t_s hk
              refine w_t (pc := 67) (e_s := (4, 2, 5, 0, 0, .null, [])) (y_s := (69, [some (.ref _), some (.int _), some (.int _), some (.ref _), some (.ref _), some (.int _)], [], _)) rfl (u_ rfl) ?_
              refine w_t (pc := 69) (e_s := (3, 1, 0, 0, 0, .null, [])) (y_s := (70, [some (.ref _), some (.int _), some (.int _), some (.ref _), some (.ref _), some (.int _)], [.ref _], _)) rfl (u_ rfl) ?_
              refine w20r (pc := 70) (len_s := 3) (q_s := 73) rfl (krq hk rfl) ?_
              refine w_t (pc := 73) (e_s := (0, 1, 0, 0, 0, .int 3, [])) (y_s := (74, [some (.ref _), some (.int _), some (.int _), some (.ref _), some (.ref _), some (.int _)], [.int _, .ref _], _)) rfl (u_ rfl) ?_
              refine w_t (pc := 74) (e_s := (41, 1, 0, 0, 0, .null, [])) (y_s := (75, [some (.ref _), some (.int _), some (.int _), some (.ref _), some (.ref _), some (.int _)], [.int _, .ref _, .int _, .ref _], _)) rfl (u_ rfl) ?_
              refine w22 (pc := 75) (len_s := 1) rfl (hk.1 73 0 5 rfl rfl) (fun c10_s => ?_)
              refine w_t (pc := 76) (e_s := (1, 2, 5, 0, 0, .null, [])) (y_s := (78, [some (.ref _), some (.int _), some (.int _), some (.ref _), some (.ref _), some (.int _)], [.int _, .int _, .int _, .ref _], _)) rfl (u_ rfl) ?_
              refine w_t (pc := 78) (e_s := (7, 1, 0, 0, 0, .null, [])) (y_s := (79, [some (.ref _), some (.int _), some (.int _), some (.ref _), some (.ref _), some (.int _)], [.int (_ + _), .int _, .ref _], _)) rfl (u_ rfl) ?_
              refine w25 (pc := 79) (len_s := 1) rfl (hk.1 73 0 5 rfl rfl) (fun c11_s => ?_)
              refine w_t (pc := 80) (e_s := (1, 2, 5, 0, 0, .null, [])) (y_s := (82, [some (.ref _), some (.int _), some (.int _), some (.ref _), some (.ref _), some (.int _)], [.int _], _)) rfl (u_ rfl) ?_
              refine w_t (pc := 82) (e_s := (3, 2, 4, 0, 0, .null, [])) (y_s := (84, [some (.ref _), some (.int _), some (.int _), some (.ref _), some (.ref _), some (.int _)], [.ref _, .int _], _)) rfl (u_ rfl) ?_
              refine w20 (pc := 84) (len_s := 3) rfl ?_
              refine wi1 (pc := 87) (len_s := 3) rfl rfl rfl (fun c12_s => ?_) (fun c12_s => ?_)
              · replace t_s := t_s.1 c12_s
                refine w_t (pc := 90) (e_s := (3, 1, 0, 0, 0, .null, [])) (y_s := (91, [some (.ref _), some (.int _), some (.int _), some (.ref _), some (.ref _), some (.int _)], [.ref _], _)) rfl (u_ rfl) ?_
                refine w20r (pc := 91) (len_s := 3) (q_s := 73) rfl (krq hk rfl) ?_
                refine w_t (pc := 94) (e_s := (0, 1, 0, 0, 0, .int 2, [])) (y_s := (95, [some (.ref _), some (.int _), some (.int _), some (.ref _), some (.ref _), some (.int _)], [.int _, .ref _], _)) rfl (u_ rfl) ?_
                refine w_t (pc := 95) (e_s := (41, 1, 0, 0, 0, .null, [])) (y_s := (96, [some (.ref _), some (.int _), some (.int _), some (.ref _), some (.ref _), some (.int _)], [.int _, .ref _, .int _, .ref _], _)) rfl (u_ rfl) ?_
                refine w22 (pc := 96) (len_s := 1) rfl (hk.1 73 0 5 rfl rfl) (fun c13_s => ?_)
                refine w_t (pc := 97) (e_s := (0, 1, 0, 0, 0, .int 1, [])) (y_s := (98, [some (.ref _), some (.int _), some (.int _), some (.ref _), some (.ref _), some (.int _)], [.int _, .int _, .int _, .ref _], _)) rfl (u_ rfl) ?_
                refine w_t (pc := 98) (e_s := (7, 1, 0, 0, 0, .null, [])) (y_s := (99, [some (.ref _), some (.int _), some (.int _), some (.ref _), some (.ref _), some (.int _)], [.int (_ + _), .int _, .ref _], _)) rfl (u_ rfl) ?_
                refine w25 (pc := 99) (len_s := 1) rfl (hk.1 73 0 5 rfl rfl) (fun c14_s => ?_)
                refine w_t (pc := 100) (e_s := (3, 1, 3, 0, 0, .null, [])) (y_s := (101, [some (.ref _), some (.int _), some (.int _), some (.ref _), some (.ref _), some (.int _)], [.ref _], _)) rfl (u_ rfl) ?_
                refine wcI (pc := 101) (len_s := 3) rfl rfl (l := [some (.ref _)]) rfl ?_
                refine w_t (pc := 0) (e_s := (3, 1, 0, 0, 0, .null, [])) (y_s := (1, [some (.ref _)], [.ref _], _)) rfl (u_ rfl) ?_
                refine w20 (pc := 1) (len_s := 3) rfl ?_
                refine w_t (pc := 4) (e_s := (0, 2, 0, 0, 0, .int 99, [])) (y_s := (6, [some (.ref _)], [.int _, .int _], _)) rfl (u_ rfl) ?_
                refine wi2 (pc := 6) (len_s := 3) (Y := 99) rfl rfl (by decide) (fun c15_s => ?_) (fun c15_s => ?_)
                · replace t_s := t_s.1 c15_s
                  refine w_t (pc := 13) (e_s := (0, 1, 0, 0, 0, .int 0, [])) (y_s := (14, [some (.ref _)], [.int _], _)) rfl (u_ rfl) ?_
                  refine wrI (pc := 14) (len_s := 1) rfl hk ?_
                  show wF _ 118 (104, [some (.ref _), some (.int _), some (.int _), some (.ref _), some (.ref _), some (.int _)], [.int _], _) _
                  refine w_t (pc := 104) (e_s := (15, 3, 117, 0, 0, .null, [])) (y_s := (117, [some (.ref _), some (.int _), some (.int _), some (.ref _), some (.ref _), some (.int _)], [], _)) rfl (u_ rfl) ?_
                  refine w_t (pc := 117) (e_s := (1, 2, 5, 0, 0, .null, [])) (y_s := (119, [some (.ref _), some (.int _), some (.int _), some (.ref _), some (.ref _), some (.int _)], [.int _], _)) rfl (u_ rfl) ?_
                  exact wrI (pc := 119) (len_s := 1) rfl hk t_s
                · replace t_s := t_s.2 c15_s
                  refine w_t (pc := 9) (e_s := (0, 1, 0, 0, 0, .int 1, [])) (y_s := (10, [some (.ref _)], [.int _], _)) rfl (u_ rfl) ?_
                  refine w_t (pc := 10) (e_s := (17, 3, 14, 0, 0, .null, [])) (y_s := (14, [some (.ref _)], [.int _], _)) rfl (u_ rfl) ?_
                  refine wrI (pc := 14) (len_s := 1) rfl hk ?_
                  show wF _ 118 (104, [some (.ref _), some (.int _), some (.int _), some (.ref _), some (.ref _), some (.int _)], [.int _], _) _
                  refine w_t (pc := 104) (e_s := (15, 3, 117, 0, 0, .null, [])) (y_s := (107, [some (.ref _), some (.int _), some (.int _), some (.ref _), some (.ref _), some (.int _)], [], _)) rfl (u_ rfl) ?_
                  refine w_t (pc := 107) (e_s := (3, 1, 0, 0, 0, .null, [])) (y_s := (108, [some (.ref _), some (.int _), some (.int _), some (.ref _), some (.ref _), some (.int _)], [.ref _], _)) rfl (u_ rfl) ?_
                  refine w20r (pc := 108) (len_s := 3) (q_s := 73) rfl (krq hk rfl) ?_
                  refine w_t (pc := 111) (e_s := (0, 1, 0, 0, 0, .int 4, [])) (y_s := (112, [some (.ref _), some (.int _), some (.int _), some (.ref _), some (.ref _), some (.int _)], [.int _, .ref _], _)) rfl (u_ rfl) ?_
                  refine w_t (pc := 112) (e_s := (41, 1, 0, 0, 0, .null, [])) (y_s := (113, [some (.ref _), some (.int _), some (.int _), some (.ref _), some (.ref _), some (.int _)], [.int _, .ref _, .int _, .ref _], _)) rfl (u_ rfl) ?_
                  refine w22 (pc := 113) (len_s := 1) rfl (hk.1 73 0 5 rfl rfl) (fun c16 => ?_)
                  refine w_t (pc := 114) (e_s := (0, 1, 0, 0, 0, .int 1, [])) (y_s := (115, [some (.ref _), some (.int _), some (.int _), some (.ref _), some (.ref _), some (.int _)], [.int _, .int _, .int _, .ref _], _)) rfl (u_ rfl) ?_
                  refine w_t (pc := 115) (e_s := (7, 1, 0, 0, 0, .null, [])) (y_s := (116, [some (.ref _), some (.int _), some (.int _), some (.ref _), some (.ref _), some (.int _)], [.int (_ + _), .int _, .ref _], _)) rfl (u_ rfl) ?_
                  refine w25 (pc := 116) (len_s := 1) rfl (hk.1 73 0 5 rfl rfl) (fun c17 => ?_)
                  refine w_t (pc := 117) (e_s := (1, 2, 5, 0, 0, .null, [])) (y_s := (119, [some (.ref _), some (.int _), some (.int _), some (.ref _), some (.ref _), some (.int _)], [.int _], _)) rfl (u_ rfl) ?_
                  exact wrI (pc := 119) (len_s := 1) rfl hk t_s
              · replace t_s := t_s.2 c12_s
                refine w_t (pc := 100) (e_s := (3, 1, 3, 0, 0, .null, [])) (y_s := (101, [some (.ref _), some (.int _), some (.int _), some (.ref _), some (.ref _), some (.int _)], [.ref _], _)) rfl (u_ rfl) ?_
                refine wcI (pc := 101) (len_s := 3) rfl rfl (l := [some (.ref _)]) rfl ?_
                refine w_t (pc := 0) (e_s := (3, 1, 0, 0, 0, .null, [])) (y_s := (1, [some (.ref _)], [.ref _], _)) rfl (u_ rfl) ?_
                refine w20 (pc := 1) (len_s := 3) rfl ?_
                refine w_t (pc := 4) (e_s := (0, 2, 0, 0, 0, .int 99, [])) (y_s := (6, [some (.ref _)], [.int _, .int _], _)) rfl (u_ rfl) ?_
                refine wi2 (pc := 6) (len_s := 3) (Y := 99) rfl rfl (by decide) (fun c18_s => ?_) (fun c18_s => ?_)
                · replace t_s := t_s.1 c18_s
                  refine w_t (pc := 13) (e_s := (0, 1, 0, 0, 0, .int 0, [])) (y_s := (14, [some (.ref _)], [.int _], _)) rfl (u_ rfl) ?_
                  refine wrI (pc := 14) (len_s := 1) rfl hk ?_
                  show wF _ 118 (104, [some (.ref _), some (.int _), some (.int _), some (.ref _), some (.ref _), some (.int _)], [.int _], _) _
                  refine w_t (pc := 104) (e_s := (15, 3, 117, 0, 0, .null, [])) (y_s := (117, [some (.ref _), some (.int _), some (.int _), some (.ref _), some (.ref _), some (.int _)], [], _)) rfl (u_ rfl) ?_
                  refine w_t (pc := 117) (e_s := (1, 2, 5, 0, 0, .null, [])) (y_s := (119, [some (.ref _), some (.int _), some (.int _), some (.ref _), some (.ref _), some (.int _)], [.int _], _)) rfl (u_ rfl) ?_
                  exact wrI (pc := 119) (len_s := 1) rfl hk t_s
                · replace t_s := t_s.2 c18_s
                  refine w_t (pc := 9) (e_s := (0, 1, 0, 0, 0, .int 1, [])) (y_s := (10, [some (.ref _)], [.int _], _)) rfl (u_ rfl) ?_
                  refine w_t (pc := 10) (e_s := (17, 3, 14, 0, 0, .null, [])) (y_s := (14, [some (.ref _)], [.int _], _)) rfl (u_ rfl) ?_
                  refine wrI (pc := 14) (len_s := 1) rfl hk ?_
                  show wF _ 118 (104, [some (.ref _), some (.int _), some (.int _), some (.ref _), some (.ref _), some (.int _)], [.int _], _) _
                  refine w_t (pc := 104) (e_s := (15, 3, 117, 0, 0, .null, [])) (y_s := (107, [some (.ref _), some (.int _), some (.int _), some (.ref _), some (.ref _), some (.int _)], [], _)) rfl (u_ rfl) ?_
                  refine w_t (pc := 107) (e_s := (3, 1, 0, 0, 0, .null, [])) (y_s := (108, [some (.ref _), some (.int _), some (.int _), some (.ref _), some (.ref _), some (.int _)], [.ref _], _)) rfl (u_ rfl) ?_
                  refine w20r (pc := 108) (len_s := 3) (q_s := 73) rfl (krq hk rfl) ?_
                  refine w_t (pc := 111) (e_s := (0, 1, 0, 0, 0, .int 4, [])) (y_s := (112, [some (.ref _), some (.int _), some (.int _), some (.ref _), some (.ref _), some (.int _)], [.int _, .ref _], _)) rfl (u_ rfl) ?_
                  refine w_t (pc := 112) (e_s := (41, 1, 0, 0, 0, .null, [])) (y_s := (113, [some (.ref _), some (.int _), some (.int _), some (.ref _), some (.ref _), some (.int _)], [.int _, .ref _, .int _, .ref _], _)) rfl (u_ rfl) ?_
                  refine w22 (pc := 113) (len_s := 1) rfl (hk.1 73 0 5 rfl rfl) (fun c19_s => ?_)
                  refine w_t (pc := 114) (e_s := (0, 1, 0, 0, 0, .int 1, [])) (y_s := (115, [some (.ref _), some (.int _), some (.int _), some (.ref _), some (.ref _), some (.int _)], [.int _, .int _, .int _, .ref _], _)) rfl (u_ rfl) ?_
                  refine w_t (pc := 115) (e_s := (7, 1, 0, 0, 0, .null, [])) (y_s := (116, [some (.ref _), some (.int _), some (.int _), some (.ref _), some (.ref _), some (.int _)], [.int (_ + _), .int _, .ref _], _)) rfl (u_ rfl) ?_
                  refine w25 (pc := 116) (len_s := 1) rfl (hk.1 73 0 5 rfl rfl) (fun c20_s => ?_)
                  refine w_t (pc := 117) (e_s := (1, 2, 5, 0, 0, .null, [])) (y_s := (119, [some (.ref _), some (.int _), some (.int _), some (.ref _), some (.ref _), some (.int _)], [.int _], _)) rfl (u_ rfl) ?_
                  exact wrI (pc := 119) (len_s := 1) rfl hk t_s
          · replace t_s := t_s.2 c7_s
            refine w_t (pc := 9) (e_s := (0, 1, 0, 0, 0, .int 1, [])) (y_s := (10, [some (.ref _)], [.int _], _)) rfl (u_ rfl) ?_
            refine w_t (pc := 10) (e_s := (17, 3, 14, 0, 0, .null, [])) (y_s := (14, [some (.ref _)], [.int _], _)) rfl (u_ rfl) ?_
            refine wrI (pc := 14) (len_s := 1) rfl hk ?_
            show wF _ 40 (4, [some (.ref _), some (.ref _)], [.int _], _) _
            refine w_t (pc := 4) (e_s := (15, 3, 19, 1, 0, .null, [])) (y_s := (19, [some (.ref _), some (.ref _)], [], _)) rfl (u_ rfl) ?_
            refine w_t (pc := 19) (e_s := (0, 1, 0, 0, 0, .int 0, [])) (y_s := (20, [some (.ref _), some (.ref _)], [.int _], _)) rfl (u_ rfl) ?_
            refine wrI (pc := 20) (len_s := 1) rfl hk ?_
            show wF _ 118 (51, [some (.ref _), some (.int _), some (.int _), some (.ref _), some (.ref _), none], [.int _], _) _
            refine w_t (pc := 51) (e_s := (15, 3, 57, 1, 0, .null, [])) (y_s := (54, [some (.ref _), some (.int _), some (.int _), some (.ref _), some (.ref _), none], [], _)) rfl (u_ rfl) ?_
            refine w_t (pc := 54) (e_s := (0, 2, 0, 0, 0, .int (-5), [])) (y_s := (56, [some (.ref _), some (.int _), some (.int _), some (.ref _), some (.ref _), none], [.int _], _)) rfl (u_ rfl) ?_
            exact wrI (pc := 56) (len_s := 1) rfl hk t_s
        · replace t_s := t_s.2 c4_s
          refine w_t (pc := 16) (e_s := (0, 1, 0, 0, 0, .int 0, [])) (y_s := (17, [some (.ref _), some (.int _)], [.int _], _)) rfl (u_ rfl) ?_
          refine wrI (pc := 17) (len_s := 1) rfl hk ?_
          show wF _ 118 (19, [some (.ref _), some (.int _), some (.int _), none, none, none], [.int _], _) _
          refine w_t (pc := 19) (e_s := (15, 3, 24, 1, 0, .null, [])) (y_s := (22, [some (.ref _), some (.int _), some (.int _), none, none, none], [], _)) rfl (u_ rfl) ?_
          refine w_t (pc := 22) (e_s := (0, 1, 0, 0, 0, .int (-1), [])) (y_s := (23, [some (.ref _), some (.int _), some (.int _), none, none, none], [.int _], _)) rfl (u_ rfl) ?_
          exact wrI (pc := 23) (len_s := 1) rfl hk t_s
    · replace t_s := t_s.2 c2_s
      refine w_t (pc := 16) (e_s := (0, 1, 0, 0, 0, .int 0, [])) (y_s := (17, [some (.ref _), some (.int _)], [.int _], _)) rfl (u_ rfl) ?_
      refine wrI (pc := 17) (len_s := 1) rfl hk ?_
      show wF _ 118 (8, [some (.ref _), some (.int _), some (.int _), none, none, none], [.int _], _) _
      refine w_t (pc := 8) (e_s := (15, 3, 22, 0, 0, .null, [])) (y_s := (22, [some (.ref _), some (.int _), some (.int _), none, none, none], [], _)) rfl (u_ rfl) ?_
      refine w_t (pc := 22) (e_s := (0, 1, 0, 0, 0, .int (-1), [])) (y_s := (23, [some (.ref _), some (.int _), some (.int _), none, none, none], [.int _], _)) rfl (u_ rfl) ?_
      exact wrI (pc := 23) (len_s := 1) rfl hk t_s
/-- ColdShodModel.keepsOwn(I)V, from 0 on -/
theorem sg_210_0 {F_s : Nat} {x1_s : Int32} {h_s : zH} {K_s : zH → Prop} (hk : hKn h_s) (t_s : wF F_s 210 (2, [some (.ref 102), some (.int x1_s), some (.int 0)], [], h_s) (gV K_s)) : wF (F_s + 1) 210 (0, [some (.ref 102), some (.int x1_s), none], [], h_s) (gV K_s) := by
  refine w_0 (pc := 0) (e_s := (0, 1, 0, 0, 0, .int 0, [])) (y_s := (1, [some (.ref _), some (.int _), none], [.int _], _)) rfl (u_ rfl) ?_
  refine w_t (pc := 1) (e_s := (4, 1, 2, 0, 0, .null, [])) (y_s := (2, [some (.ref _), some (.int _), some (.int _)], [], _)) rfl (u_ rfl) ?_
  exact t_s
/-- ColdShodModel.keepsOwn(I)V, from 2 on -/
theorem sg_210_2 {F_s : Nat} {x1_s x2_s : Int32} {h_s : zH} {K_s : zH → Prop} (hk : hKn h_s) (t_s : (x2_s.toInt < 6 → (zix x2_s < 7 → (zix ((12 + (8 * x2_s)) + x1_s) < 104 → wF F_s 210 (2, [some (.ref 102), some (.int x1_s), some (.int (x2_s + 1))], [], (h_s.1, zup h_s.2.1 103 (zix ((12 + (8 * x2_s)) + x1_s)) (h_s.2.1 112 (zix x2_s)), h_s.2.2.1, h_s.2.2.2)) (gV K_s)))) ∧ (¬ x2_s.toInt < 6 → K_s h_s)) : wF (F_s + 1) 210 (2, [some (.ref 102), some (.int x1_s), some (.int x2_s)], [], h_s) (gV K_s) := by
  refine w_0 (pc := 2) (e_s := (1, 1, 2, 0, 0, .null, [])) (y_s := (3, [some (.ref _), some (.int _), some (.int _)], [.int _], _)) rfl (u_ rfl) ?_
  refine w_t (pc := 3) (e_s := (0, 2, 0, 0, 0, .int 6, [])) (y_s := (5, [some (.ref _), some (.int _), some (.int _)], [.int _, .int _], _)) rfl (u_ rfl) ?_
  refine wi3 (pc := 5) (len_s := 3) (Y := 6) rfl rfl (by decide) (fun c1_s => ?_) (fun c1_s => ?_)
  · replace t_s := t_s.1 c1_s
    refine w_t (pc := 8) (e_s := (3, 1, 0, 0, 0, .null, [])) (y_s := (9, [some (.ref _), some (.int _), some (.int _)], [.ref _], _)) rfl (u_ rfl) ?_
    refine w20r (pc := 9) (len_s := 3) (q_s := 103) rfl (krq hk rfl) ?_
    refine w_t (pc := 12) (e_s := (0, 2, 0, 0, 0, .int 12, [])) (y_s := (14, [some (.ref _), some (.int _), some (.int _)], [.int _, .ref _], _)) rfl (u_ rfl) ?_
    refine w_t (pc := 14) (e_s := (0, 2, 0, 0, 0, .int 8, [])) (y_s := (16, [some (.ref _), some (.int _), some (.int _)], [.int _, .int _, .ref _], _)) rfl (u_ rfl) ?_
    refine w_t (pc := 16) (e_s := (1, 1, 2, 0, 0, .null, [])) (y_s := (17, [some (.ref _), some (.int _), some (.int _)], [.int _, .int _, .int _, .ref _], _)) rfl (u_ rfl) ?_
    refine w_t (pc := 17) (e_s := (7, 1, 0, 2, 0, .null, [])) (y_s := (18, [some (.ref _), some (.int _), some (.int _)], [.int (_ * _), .int _, .ref _], _)) rfl (u_ rfl) ?_
    refine w_t (pc := 18) (e_s := (7, 1, 0, 0, 0, .null, [])) (y_s := (19, [some (.ref _), some (.int _), some (.int _)], [.int (_ + _), .ref _], _)) rfl (u_ rfl) ?_
    refine w_t (pc := 19) (e_s := (1, 1, 1, 0, 0, .null, [])) (y_s := (20, [some (.ref _), some (.int _), some (.int _)], [.int _, .int _, .ref _], _)) rfl (u_ rfl) ?_
    refine w_t (pc := 20) (e_s := (7, 1, 0, 0, 0, .null, [])) (y_s := (21, [some (.ref _), some (.int _), some (.int _)], [.int (_ + _), .ref _], _)) rfl (u_ rfl) ?_
    refine w_t (pc := 21) (e_s := (3, 1, 0, 0, 0, .null, [])) (y_s := (22, [some (.ref _), some (.int _), some (.int _)], [.ref _, .int _, .ref _], _)) rfl (u_ rfl) ?_
    refine w20r (pc := 22) (len_s := 3) (q_s := 112) rfl (krq hk rfl) ?_
    refine w_t (pc := 25) (e_s := (1, 1, 2, 0, 0, .null, [])) (y_s := (26, [some (.ref _), some (.int _), some (.int _)], [.int _, .ref _, .int _, .ref _], _)) rfl (u_ rfl) ?_
    refine w22 (pc := 26) (len_s := 1) rfl (hk.1 112 0 7 rfl rfl) (fun c2_s => ?_)
    replace t_s := t_s c2_s
    refine w25 (pc := 27) (len_s := 1) rfl (hk.1 103 0 104 rfl rfl) (fun c3_s => ?_)
    replace t_s := t_s c3_s
    refine w_t (pc := 28) (e_s := (19, 3, 2, 0, 0, .int 1, [])) (y_s := (31, [some (.ref _), some (.int _), some (.int _)], [], _)) rfl (u_ rfl) ?_
    refine w_t (pc := 31) (e_s := (17, 3, 2, 0, 0, .null, [])) (y_s := (2, [some (.ref _), some (.int _), some (.int _)], [], _)) rfl (u_ rfl) ?_
    exact t_s
  · replace t_s := t_s.2 c1_s
    exact wrV (pc := 34) (len_s := 1) rfl hk t_s
/-- ColdShodModel.goes(II)I, from 0 on -/
theorem sg_212_0 {F_s : Nat} {x1_s : Int32} {x2_s : Int32} {h_s : zH} {K_s : Int32 → zH → Prop} (hk : hKn h_s) (t_s : (x1_s.toInt < 0 → K_s (-1) h_s) ∧ (¬ x1_s.toInt < 0 → ((((h_s.2.1 102 7) - 1).toInt < x1_s.toInt → K_s (-1) h_s) ∧ (¬ ((h_s.2.1 102 7) - 1).toInt < x1_s.toInt → ((x2_s.toInt < 0 → K_s (-1) h_s) ∧ (¬ x2_s.toInt < 0 → ((((h_s.2.1 102 8) - 1).toInt < x2_s.toInt → K_s (-1) h_s) ∧ (¬ ((h_s.2.1 102 8) - 1).toInt < x2_s.toInt → wF F_s 178 (0, [some (.ref 102), some (.int x1_s), none], [], h_s) (gV (fun h5 => hKn h5 → ((h5.2.1 112 2).toInt < 99 → (zix (80 + x2_s) < 104 → ((9 - ((h5.2.1 112 2) / 11)).toInt < (h5.2.1 103 (zix (80 + x2_s))).toInt → K_s (-5) h5) ∧ (¬ (9 - ((h5.2.1 112 2) / 11)).toInt < (h5.2.1 103 (zix (80 + x2_s))).toInt → wF F_s 183 (0, [some (.ref 102), some (.int x2_s), none], [], h5) (gV (fun h11 => hKn h11 → wF F_s 210 (0, [some (.ref 102), some (.int x1_s), none], [], h11) (gV (fun h12 => hKn h12 → ((h12.2.1 102 23).toInt = 0 → (((h12.2.1 112 2).toInt = 99 → K_s (h12.2.1 102 22) (h12.1, zup (zup (zup h12.2.1 119 2 ((h12.2.1 119 2) + 0)) 119 3 ((h12.2.1 119 3) + (h12.2.1 102 22))) 119 4 ((h12.2.1 119 4) + 1), h12.2.2.1, h12.2.2.2)) ∧ (¬ (h12.2.1 112 2).toInt = 99 → K_s (h12.2.1 102 22) (h12.1, zup (zup (zup h12.2.1 119 2 ((h12.2.1 119 2) + 0)) 119 3 ((h12.2.1 119 3) + (h12.2.1 102 22))) 119 4 ((h12.2.1 119 4) + 0), h12.2.2.1, h12.2.2.2)))) ∧ (¬ (h12.2.1 102 23).toInt = 0 → (((h12.2.1 112 2).toInt = 99 → K_s (h12.2.1 102 22) (h12.1, zup (zup (zup h12.2.1 119 2 ((h12.2.1 119 2) + 1)) 119 3 ((h12.2.1 119 3) + (h12.2.1 102 22))) 119 4 ((h12.2.1 119 4) + 1), h12.2.2.1, h12.2.2.2)) ∧ (¬ (h12.2.1 112 2).toInt = 99 → K_s (h12.2.1 102 22) (h12.1, zup (zup (zup h12.2.1 119 2 ((h12.2.1 119 2) + 1)) 119 3 ((h12.2.1 119 3) + (h12.2.1 102 22))) 119 4 ((h12.2.1 119 4) + 0), h12.2.2.1, h12.2.2.2))))))))))) ∧ (¬ (h5.2.1 112 2).toInt < 99 → K_s (-5) h5))))))))))) : wF (F_s + 1) 212 (0, [some (.ref 102), some (.int x1_s), some (.int x2_s)], [], h_s) (gI K_s) := by
  refine w_0 (pc := 0) (e_s := (3, 1, 0, 0, 0, .null, [])) (y_s := (1, [some (.ref _), some (.int _), some (.int _)], [.ref _], _)) rfl (u_ rfl) ?_
  refine w_t (pc := 1) (e_s := (1, 1, 1, 0, 0, .null, [])) (y_s := (2, [some (.ref _), some (.int _), some (.int _)], [.int _, .ref _], _)) rfl (u_ rfl) ?_
  refine w_t (pc := 2) (e_s := (10, 1, 0, 0, 0, .null, [])) (y_s := (3, [some (.ref _), some (.int _), some (.int _)], [.long (Int32.toInt64 _), .ref _], _)) rfl (u_ rfl) ?_
  refine wcI (pc := 3) (len_s := 3) rfl rfl (l := [some (.ref _), some (.long _), none]) rfl ?_
  refine w_t (pc := 0) (e_s := (2, 1, 1, 0, 0, .null, [])) (y_s := (1, [some (.ref _), some (.long _), none], [.long _], _)) rfl (u_ rfl) ?_
  refine w_t (pc := 1) (e_s := (0, 1, 0, 0, 0, .long 0, [])) (y_s := (2, [some (.ref _), some (.long _), none], [.long _, .long _], _)) rfl (u_ rfl) ?_
  refine w_t (pc := 2) (e_s := (3, 1, 0, 0, 0, .null, [])) (y_s := (3, [some (.ref _), some (.long _), none], [.ref _, .long _, .long _], _)) rfl (u_ rfl) ?_
  refine w20 (pc := 3) (len_s := 3) rfl ?_
  refine w_t (pc := 6) (e_s := (0, 1, 0, 0, 0, .int 1, [])) (y_s := (7, [some (.ref _), some (.long _), none], [.int _, .int _, .long _, .long _], _)) rfl (u_ rfl) ?_
  refine w_t (pc := 7) (e_s := (7, 1, 0, 1, 0, .null, [])) (y_s := (8, [some (.ref _), some (.long _), none], [.int (_ - _), .long _, .long _], _)) rfl (u_ rfl) ?_
  refine w_t (pc := 8) (e_s := (10, 1, 0, 0, 0, .null, [])) (y_s := (9, [some (.ref _), some (.long _), none], [.long (Int32.toInt64 _), .long _, .long _], _)) rfl (u_ rfl) ?_
  refine wcI (pc := 9) (len_s := 3) rfl rfl (l := [some (.long _), none, some (.long _), none, some (.long _), none]) rfl ?_
  refine w_t (pc := 0) (e_s := (2, 1, 0, 0, 0, .null, [])) (y_s := (1, [some (.long _), none, some (.long _), none, some (.long _), none], [.long _], _)) rfl (u_ rfl) ?_
  refine w_t (pc := 1) (e_s := (2, 1, 2, 0, 0, .null, [])) (y_s := (2, [some (.long _), none, some (.long _), none, some (.long _), none], [.long _, .long _], _)) rfl (u_ rfl) ?_
  refine w_t (pc := 2) (e_s := (14, 1, 0, 0, 0, .null, [])) (y_s := (3, [some (.long _), none, some (.long _), none, some (.long _), none], [.int (lg_cmp _ _)], _)) rfl (u_ rfl) ?_
  refine wl2 (pc := 3) (len_s := 3) (Y := 0) rfl (Int32.toInt_toInt64 _) (by decide) (fun c1_s => ?_) (fun c1_s => ?_)
  · replace t_s := t_s.1 c1_s
    refine w_t (pc := 17) (e_s := (0, 1, 0, 0, 0, .int 0, [])) (y_s := (18, [some (.long _), none, some (.long _), none, some (.long _), none], [.int _], _)) rfl (u_ rfl) ?_
    refine wrI (pc := 18) (len_s := 1) rfl hk ?_
    show wF _ 152 (12, [some (.ref _), some (.long _), none], [.int _], _) _
    refine wrI (pc := 12) (len_s := 1) rfl hk ?_
    show wF _ 212 (6, [some (.ref _), some (.int _), some (.int _)], [.int _], _) _
    refine w_t (pc := 6) (e_s := (15, 3, 18, 0, 0, .null, [])) (y_s := (18, [some (.ref _), some (.int _), some (.int _)], [], _)) rfl (u_ rfl) ?_
    refine w_t (pc := 18) (e_s := (0, 1, 0, 0, 0, .int (-1), [])) (y_s := (19, [some (.ref _), some (.int _), some (.int _)], [.int _], _)) rfl (u_ rfl) ?_
    exact wrI (pc := 19) (len_s := 1) rfl hk t_s
  · replace t_s := t_s.2 c1_s
    refine w_t (pc := 6) (e_s := (2, 1, 0, 0, 0, .null, [])) (y_s := (7, [some (.long _), none, some (.long _), none, some (.long _), none], [.long _], _)) rfl (u_ rfl) ?_
    refine w_t (pc := 7) (e_s := (2, 2, 4, 0, 0, .null, [])) (y_s := (9, [some (.long _), none, some (.long _), none, some (.long _), none], [.long _, .long _], _)) rfl (u_ rfl) ?_
    refine w_t (pc := 9) (e_s := (14, 1, 0, 0, 0, .null, [])) (y_s := (10, [some (.long _), none, some (.long _), none, some (.long _), none], [.int (lg_cmp _ _)], _)) rfl (u_ rfl) ?_
    refine wl4 (pc := 10) (len_s := 3) rfl (Int32.toInt_toInt64 _) (Int32.toInt_toInt64 _) (fun c2_s => ?_) (fun c2_s => ?_)
    · replace t_s := t_s.1 c2_s
      refine w_t (pc := 17) (e_s := (0, 1, 0, 0, 0, .int 0, [])) (y_s := (18, [some (.long _), none, some (.long _), none, some (.long _), none], [.int _], _)) rfl (u_ rfl) ?_
      refine wrI (pc := 18) (len_s := 1) rfl hk ?_
      show wF _ 152 (12, [some (.ref _), some (.long _), none], [.int _], _) _
      refine wrI (pc := 12) (len_s := 1) rfl hk ?_
      show wF _ 212 (6, [some (.ref _), some (.int _), some (.int _)], [.int _], _) _
      refine w_t (pc := 6) (e_s := (15, 3, 18, 0, 0, .null, [])) (y_s := (18, [some (.ref _), some (.int _), some (.int _)], [], _)) rfl (u_ rfl) ?_
      refine w_t (pc := 18) (e_s := (0, 1, 0, 0, 0, .int (-1), [])) (y_s := (19, [some (.ref _), some (.int _), some (.int _)], [.int _], _)) rfl (u_ rfl) ?_
      exact wrI (pc := 19) (len_s := 1) rfl hk t_s
    · replace t_s := t_s.2 c2_s
      refine w_t (pc := 13) (e_s := (0, 1, 0, 0, 0, .int 1, [])) (y_s := (14, [some (.long _), none, some (.long _), none, some (.long _), none], [.int _], _)) rfl (u_ rfl) ?_
      refine w_t (pc := 14) (e_s := (17, 3, 18, 0, 0, .null, [])) (y_s := (18, [some (.long _), none, some (.long _), none, some (.long _), none], [.int _], _)) rfl (u_ rfl) ?_
      refine wrI (pc := 18) (len_s := 1) rfl hk ?_
      show wF _ 152 (12, [some (.ref _), some (.long _), none], [.int _], _) _
      refine wrI (pc := 12) (len_s := 1) rfl hk ?_
      show wF _ 212 (6, [some (.ref _), some (.int _), some (.int _)], [.int _], _) _
      refine w_t (pc := 6) (e_s := (15, 3, 18, 0, 0, .null, [])) (y_s := (9, [some (.ref _), some (.int _), some (.int _)], [], _)) rfl (u_ rfl) ?_
      refine w_t (pc := 9) (e_s := (3, 1, 0, 0, 0, .null, [])) (y_s := (10, [some (.ref _), some (.int _), some (.int _)], [.ref _], _)) rfl (u_ rfl) ?_
      refine w_t (pc := 10) (e_s := (1, 1, 2, 0, 0, .null, [])) (y_s := (11, [some (.ref _), some (.int _), some (.int _)], [.int _, .ref _], _)) rfl (u_ rfl) ?_
      refine w_t (pc := 11) (e_s := (10, 1, 0, 0, 0, .null, [])) (y_s := (12, [some (.ref _), some (.int _), some (.int _)], [.long (Int32.toInt64 _), .ref _], _)) rfl (u_ rfl) ?_
      refine wcI (pc := 12) (len_s := 3) rfl rfl (l := [some (.ref _), some (.long _), none]) rfl ?_
      refine w_t (pc := 0) (e_s := (2, 1, 1, 0, 0, .null, [])) (y_s := (1, [some (.ref _), some (.long _), none], [.long _], _)) rfl (u_ rfl) ?_
      refine w_t (pc := 1) (e_s := (0, 1, 0, 0, 0, .long 0, [])) (y_s := (2, [some (.ref _), some (.long _), none], [.long _, .long _], _)) rfl (u_ rfl) ?_
      refine w_t (pc := 2) (e_s := (3, 1, 0, 0, 0, .null, [])) (y_s := (3, [some (.ref _), some (.long _), none], [.ref _, .long _, .long _], _)) rfl (u_ rfl) ?_
      refine w20 (pc := 3) (len_s := 3) rfl ?_
      refine w_t (pc := 6) (e_s := (0, 1, 0, 0, 0, .int 1, [])) (y_s := (7, [some (.ref _), some (.long _), none], [.int _, .int _, .long _, .long _], _)) rfl (u_ rfl) ?_
      refine w_t (pc := 7) (e_s := (7, 1, 0, 1, 0, .null, [])) (y_s := (8, [some (.ref _), some (.long _), none], [.int (_ - _), .long _, .long _], _)) rfl (u_ rfl) ?_
      refine w_t (pc := 8) (e_s := (10, 1, 0, 0, 0, .null, [])) (y_s := (9, [some (.ref _), some (.long _), none], [.long (Int32.toInt64 _), .long _, .long _], _)) rfl (u_ rfl) ?_
      refine wcI (pc := 9) (len_s := 3) rfl rfl (l := [some (.long _), none, some (.long _), none, some (.long _), none]) rfl ?_
      refine w_t (pc := 0) (e_s := (2, 1, 0, 0, 0, .null, [])) (y_s := (1, [some (.long _), none, some (.long _), none, some (.long _), none], [.long _], _)) rfl (u_ rfl) ?_
      refine w_t (pc := 1) (e_s := (2, 1, 2, 0, 0, .null, [])) (y_s := (2, [some (.long _), none, some (.long _), none, some (.long _), none], [.long _, .long _], _)) rfl (u_ rfl) ?_
      refine w_t (pc := 2) (e_s := (14, 1, 0, 0, 0, .null, [])) (y_s := (3, [some (.long _), none, some (.long _), none, some (.long _), none], [.int (lg_cmp _ _)], _)) rfl (u_ rfl) ?_
      refine wl2 (pc := 3) (len_s := 3) (Y := 0) rfl (Int32.toInt_toInt64 _) (by decide) (fun c3_s => ?_) (fun c3_s => ?_)
      · replace t_s := t_s.1 c3_s
        refine w_t (pc := 17) (e_s := (0, 1, 0, 0, 0, .int 0, [])) (y_s := (18, [some (.long _), none, some (.long _), none, some (.long _), none], [.int _], _)) rfl (u_ rfl) ?_
        refine wrI (pc := 18) (len_s := 1) rfl hk ?_
        show wF _ 153 (12, [some (.ref _), some (.long _), none], [.int _], _) _
        refine wrI (pc := 12) (len_s := 1) rfl hk ?_
        show wF _ 212 (15, [some (.ref _), some (.int _), some (.int _)], [.int _], _) _
        refine w_t (pc := 15) (e_s := (15, 3, 20, 1, 0, .null, [])) (y_s := (18, [some (.ref _), some (.int _), some (.int _)], [], _)) rfl (u_ rfl) ?_
        refine w_t (pc := 18) (e_s := (0, 1, 0, 0, 0, .int (-1), [])) (y_s := (19, [some (.ref _), some (.int _), some (.int _)], [.int _], _)) rfl (u_ rfl) ?_
        exact wrI (pc := 19) (len_s := 1) rfl hk t_s
      · replace t_s := t_s.2 c3_s
        refine w_t (pc := 6) (e_s := (2, 1, 0, 0, 0, .null, [])) (y_s := (7, [some (.long _), none, some (.long _), none, some (.long _), none], [.long _], _)) rfl (u_ rfl) ?_
        refine w_t (pc := 7) (e_s := (2, 2, 4, 0, 0, .null, [])) (y_s := (9, [some (.long _), none, some (.long _), none, some (.long _), none], [.long _, .long _], _)) rfl (u_ rfl) ?_
        refine w_t (pc := 9) (e_s := (14, 1, 0, 0, 0, .null, [])) (y_s := (10, [some (.long _), none, some (.long _), none, some (.long _), none], [.int (lg_cmp _ _)], _)) rfl (u_ rfl) ?_
        refine wl4 (pc := 10) (len_s := 3) rfl (Int32.toInt_toInt64 _) (Int32.toInt_toInt64 _) (fun c4_s => ?_) (fun c4_s => ?_)
        · replace t_s := t_s.1 c4_s
          refine w_t (pc := 17) (e_s := (0, 1, 0, 0, 0, .int 0, [])) (y_s := (18, [some (.long _), none, some (.long _), none, some (.long _), none], [.int _], _)) rfl (u_ rfl) ?_
          refine wrI (pc := 18) (len_s := 1) rfl hk ?_
          show wF _ 153 (12, [some (.ref _), some (.long _), none], [.int _], _) _
          refine wrI (pc := 12) (len_s := 1) rfl hk ?_
          show wF _ 212 (15, [some (.ref _), some (.int _), some (.int _)], [.int _], _) _
          refine w_t (pc := 15) (e_s := (15, 3, 20, 1, 0, .null, [])) (y_s := (18, [some (.ref _), some (.int _), some (.int _)], [], _)) rfl (u_ rfl) ?_
          refine w_t (pc := 18) (e_s := (0, 1, 0, 0, 0, .int (-1), [])) (y_s := (19, [some (.ref _), some (.int _), some (.int _)], [.int _], _)) rfl (u_ rfl) ?_
          exact wrI (pc := 19) (len_s := 1) rfl hk t_s
        · replace t_s := t_s.2 c4_s
          refine w_t (pc := 13) (e_s := (0, 1, 0, 0, 0, .int 1, [])) (y_s := (14, [some (.long _), none, some (.long _), none, some (.long _), none], [.int _], _)) rfl (u_ rfl) ?_
          refine w_t (pc := 14) (e_s := (17, 3, 18, 0, 0, .null, [])) (y_s := (18, [some (.long _), none, some (.long _), none, some (.long _), none], [.int _], _)) rfl (u_ rfl) ?_
          refine wrI (pc := 18) (len_s := 1) rfl hk ?_
          show wF _ 153 (12, [some (.ref _), some (.long _), none], [.int _], _) _
          refine wrI (pc := 12) (len_s := 1) rfl hk ?_
          show wF _ 212 (15, [some (.ref _), some (.int _), some (.int _)], [.int _], _) _
          refine w_t (pc := 15) (e_s := (15, 3, 20, 1, 0, .null, [])) (y_s := (20, [some (.ref _), some (.int _), some (.int _)], [], _)) rfl (u_ rfl) ?_
          refine w_t (pc := 20) (e_s := (3, 1, 0, 0, 0, .null, [])) (y_s := (21, [some (.ref _), some (.int _), some (.int _)], [.ref _], _)) rfl (u_ rfl) ?_
          refine w_t (pc := 21) (e_s := (1, 1, 1, 0, 0, .null, [])) (y_s := (22, [some (.ref _), some (.int _), some (.int _)], [.int _, .ref _], _)) rfl (u_ rfl) ?_
          refine wcV (pc := 22) (len_s := 3) rfl rfl (l := [some (.ref _), some (.int _), none]) rfl (wmV t_s (fun h5 hk t_s => ?_))
          replace t_s := t_s hk
          refine w_t (pc := 25) (e_s := (3, 1, 0, 0, 0, .null, [])) (y_s := (26, [some (.ref _), some (.int _), some (.int _)], [.ref _], _)) rfl (u_ rfl) ?_
          refine w_t (pc := 26) (e_s := (1, 1, 2, 0, 0, .null, [])) (y_s := (27, [some (.ref _), some (.int _), some (.int _)], [.int _, .ref _], _)) rfl (u_ rfl) ?_
          refine wcI (pc := 27) (len_s := 3) rfl rfl (l := [some (.ref _), some (.int _)]) rfl ?_
          refine w_t (pc := 0) (e_s := (3, 1, 0, 0, 0, .null, [])) (y_s := (1, [some (.ref _), some (.int _)], [.ref _], _)) rfl (u_ rfl) ?_
          refine w20r (pc := 1) (len_s := 3) (q_s := 112) rfl (krq hk rfl) ?_
          refine w_t (pc := 4) (e_s := (0, 1, 0, 0, 0, .int 2, [])) (y_s := (5, [some (.ref _), some (.int _)], [.int _, .ref _], _)) rfl (u_ rfl) ?_
          refine w22 (pc := 5) (len_s := 1) rfl (hk.1 112 0 7 rfl rfl) (fun c6_s => ?_)
          refine w_t (pc := 6) (e_s := (0, 2, 0, 0, 0, .int 99, [])) (y_s := (8, [some (.ref _), some (.int _)], [.int _, .int _], _)) rfl (u_ rfl) ?_
          refine wi3 (pc := 8) (len_s := 3) (Y := 99) rfl rfl (by decide) (fun c7_s => ?_) (fun c7_s => ?_)
          · replace t_s := t_s.1 c7_s
            refine w_t (pc := 11) (e_s := (3, 1, 0, 0, 0, .null, [])) (y_s := (12, [some (.ref _), some (.int _)], [.ref _], _)) rfl (u_ rfl) ?_
            refine w20r (pc := 12) (len_s := 3) (q_s := 103) rfl (krq hk rfl) ?_
            refine w_t (pc := 15) (e_s := (0, 2, 0, 0, 0, .int 80, [])) (y_s := (17, [some (.ref _), some (.int _)], [.int _, .ref _], _)) rfl (u_ rfl) ?_
            refine w_t (pc := 17) (e_s := (1, 1, 1, 0, 0, .null, [])) (y_s := (18, [some (.ref _), some (.int _)], [.int _, .int _, .ref _], _)) rfl (u_ rfl) ?_
            refine w_t (pc := 18) (e_s := (7, 1, 0, 0, 0, .null, [])) (y_s := (19, [some (.ref _), some (.int _)], [.int (_ + _), .ref _], _)) rfl (u_ rfl) ?_
            refine w22 (pc := 19) (len_s := 1) rfl (hk.1 103 0 104 rfl rfl) (fun c8_s => ?_)
            replace t_s := t_s c8_s
            refine w_t (pc := 20) (e_s := (3, 1, 0, 0, 0, .null, [])) (y_s := (21, [some (.ref _), some (.int _)], [.ref _, .int _], _)) rfl (u_ rfl) ?_
            refine w20r (pc := 21) (len_s := 3) (q_s := 112) rfl (krq hk rfl) ?_
            refine w_t (pc := 24) (e_s := (0, 1, 0, 0, 0, .int 2, [])) (y_s := (25, [some (.ref _), some (.int _)], [.int _, .ref _, .int _], _)) rfl (u_ rfl) ?_
            refine w22 (pc := 25) (len_s := 1) rfl (hk.1 112 0 7 rfl rfl) (fun c9_s => ?_)
            refine wcI (pc := 26) (len_s := 3) rfl rfl (l := [some (.int _)]) rfl ?_
            refine w_t (pc := 0) (e_s := (0, 2, 0, 0, 0, .int 9, [])) (y_s := (2, [some (.int _)], [.int _], _)) rfl (u_ rfl) ?_
            refine w_t (pc := 2) (e_s := (1, 1, 0, 0, 0, .null, [])) (y_s := (3, [some (.int _)], [.int _, .int _], _)) rfl (u_ rfl) ?_
            refine w_t (pc := 3) (e_s := (0, 2, 0, 0, 0, .int 11, [])) (y_s := (5, [some (.int _)], [.int _, .int _, .int _], _)) rfl (u_ rfl) ?_
            refine w8 (pc := 5) (len_s := 1) rfl ?_
            refine w_t (pc := 6) (e_s := (7, 1, 0, 1, 0, .null, [])) (y_s := (7, [some (.int _)], [.int (_ - _)], _)) rfl (u_ rfl) ?_
            refine wrI (pc := 7) (len_s := 1) rfl hk ?_
            show wF _ 182 (29, [some (.ref _), some (.int _)], [.int _, .int _], _) _
            refine wi4 (pc := 29) (len_s := 3) rfl rfl rfl (fun c10_s => ?_) (fun c10_s => ?_)
            · replace t_s := t_s.1 c10_s
              refine w_t (pc := 36) (e_s := (0, 1, 0, 0, 0, .int 0, [])) (y_s := (37, [some (.ref _), some (.int _)], [.int _], _)) rfl (u_ rfl) ?_
              refine wrI (pc := 37) (len_s := 1) rfl hk ?_
              show wF _ 212 (30, [some (.ref _), some (.int _), some (.int _)], [.int _], _) _
              refine w_t (pc := 30) (e_s := (15, 3, 36, 1, 0, .null, [])) (y_s := (33, [some (.ref _), some (.int _), some (.int _)], [], _)) rfl (u_ rfl) ?_
              refine w_t (pc := 33) (e_s := (0, 2, 0, 0, 0, .int (-5), [])) (y_s := (35, [some (.ref _), some (.int _), some (.int _)], [.int _], _)) rfl (u_ rfl) ?_
              exact wrI (pc := 35) (len_s := 1) rfl hk t_s
            · replace t_s := t_s.2 c10_s
              refine w_t (pc := 32) (e_s := (0, 1, 0, 0, 0, .int 1, [])) (y_s := (33, [some (.ref _), some (.int _)], [.int _], _)) rfl (u_ rfl) ?_
              refine w_t (pc := 33) (e_s := (17, 3, 37, 0, 0, .null, [])) (y_s := (37, [some (.ref _), some (.int _)], [.int _], _)) rfl (u_ rfl) ?_
              refine wrI (pc := 37) (len_s := 1) rfl hk ?_
              show wF _ 212 (30, [some (.ref _), some (.int _), some (.int _)], [.int _], _) _
              refine w_t (pc := 30) (e_s := (15, 3, 36, 1, 0, .null, [])) (y_s := (36, [some (.ref _), some (.int _), some (.int _)], [], _)) rfl (u_ rfl) ?_
              refine w_t (pc := 36) (e_s := (3, 1, 0, 0, 0, .null, [])) (y_s := (37, [some (.ref _), some (.int _), some (.int _)], [.ref _], _)) rfl (u_ rfl) ?_
              refine w_t (pc := 37) (e_s := (1, 1, 2, 0, 0, .null, [])) (y_s := (38, [some (.ref _), some (.int _), some (.int _)], [.int _, .ref _], _)) rfl (u_ rfl) ?_
              refine wcV (pc := 38) (len_s := 3) rfl rfl (l := [some (.ref _), some (.int _), none]) rfl (wmV t_s (fun h11 hk t_s => ?_))
              replace t_s := t_s hk
              refine w_t (pc := 41) (e_s := (3, 1, 0, 0, 0, .null, [])) (y_s := (42, [some (.ref _), some (.int _), some (.int _)], [.ref _], _)) rfl (u_ rfl) ?_
              refine w_t (pc := 42) (e_s := (1, 1, 1, 0, 0, .null, [])) (y_s := (43, [some (.ref _), some (.int _), some (.int _)], [.int _, .ref _], _)) rfl (u_ rfl) ?_
              refine wcV (pc := 43) (len_s := 3) rfl rfl (l := [some (.ref _), some (.int _), none]) rfl (wmV t_s (fun h12 hk t_s => ?_))
              replace t_s := t_s hk
              refine w_t (pc := 46) (e_s := (3, 1, 0, 0, 0, .null, [])) (y_s := (47, [some (.ref _), some (.int _), some (.int _)], [.ref _], _)) rfl (u_ rfl) ?_
              refine w20r (pc := 47) (len_s := 3) (q_s := 119) rfl (krq hk rfl) ?_
              refine w_t (pc := 50) (e_s := (0, 1, 0, 0, 0, .int 2, [])) (y_s := (51, [some (.ref _), some (.int _), some (.int _)], [.int _, .ref _], _)) rfl (u_ rfl) ?_
              refine w_t (pc := 51) (e_s := (41, 1, 0, 0, 0, .null, [])) (y_s := (52, [some (.ref _), some (.int _), some (.int _)], [.int _, .ref _, .int _, .ref _], _)) rfl (u_ rfl) ?_
              refine w22 (pc := 52) (len_s := 1) rfl (hk.1 119 0 5 rfl rfl) (fun c13_s => ?_)
              refine w_t (pc := 53) (e_s := (3, 1, 0, 0, 0, .null, [])) (y_s := (54, [some (.ref _), some (.int _), some (.int _)], [.ref _, .int _, .int _, .ref _], _)) rfl (u_ rfl) ?_
              refine w20 (pc := 54) (len_s := 3) rfl ?_
              refine wq0 (pc := 57) (len_s := 3) rfl rfl (fun c14_s => ?_) (fun c14_s => ?_)
              · replace t_s := t_s.1 c14_s
                refine w_t (pc := 64) (e_s := (0, 1, 0, 0, 0, .int 0, [])) (y_s := (65, [some (.ref _), some (.int _), some (.int _)], [.int _, .int _, .int _, .ref _], _)) rfl (u_ rfl) ?_
                refine w_t (pc := 65) (e_s := (7, 1, 0, 0, 0, .null, [])) (y_s := (66, [some (.ref _), some (.int _), some (.int _)], [.int (_ + _), .int _, .ref _], _)) rfl (u_ rfl) ?_
                refine w25 (pc := 66) (len_s := 1) rfl (hk.1 119 0 5 rfl rfl) (fun c15_s => ?_)
                refine w_t (pc := 67) (e_s := (3, 1, 0, 0, 0, .null, [])) (y_s := (68, [some (.ref _), some (.int _), some (.int _)], [.ref _], _)) rfl (u_ rfl) ?_
                refine w20r (pc := 68) (len_s := 3) (q_s := 119) rfl (krq hk rfl) ?_
                refine w_t (pc := 71) (e_s := (0, 1, 0, 0, 0, .int 3, [])) (y_s := (72, [some (.ref _), some (.int _), some (.int _)], [.int _, .ref _], _)) rfl (u_ rfl) ?_
                refine w_t (pc := 72) (e_s := (41, 1, 0, 0, 0, .null, [])) (y_s := (73, [some (.ref _), some (.int _), some (.int _)], [.int _, .ref _, .int _, .ref _], _)) rfl (u_ rfl) ?_
                refine w22 (pc := 73) (len_s := 1) rfl (hk.1 119 0 5 rfl rfl) (fun c16 => ?_)
                refine w_t (pc := 74) (e_s := (3, 1, 0, 0, 0, .null, [])) (y_s := (75, [some (.ref _), some (.int _), some (.int _)], [.ref _, .int _, .int _, .ref _], _)) rfl (u_ rfl) ?_
                refine w20 (pc := 75) (len_s := 3) rfl ?_
                refine w_t (pc := 78) (e_s := (7, 1, 0, 0, 0, .null, [])) (y_s := (79, [some (.ref _), some (.int _), some (.int _)], [.int (_ + _), .int _, .ref _], _)) rfl (u_ rfl) ?_
                refine w25 (pc := 79) (len_s := 1) rfl (hk.1 119 0 5 rfl rfl) (fun c17 => ?_)
                refine w_t (pc := 80) (e_s := (3, 1, 0, 0, 0, .null, [])) (y_s := (81, [some (.ref _), some (.int _), some (.int _)], [.ref _], _)) rfl (u_ rfl) ?_
                refine w20r (pc := 81) (len_s := 3) (q_s := 119) rfl (krq hk rfl) ?_
                refine w_t (pc := 84) (e_s := (0, 1, 0, 0, 0, .int 4, [])) (y_s := (85, [some (.ref _), some (.int _), some (.int _)], [.int _, .ref _], _)) rfl (u_ rfl) ?_
                refine w_t (pc := 85) (e_s := (41, 1, 0, 0, 0, .null, [])) (y_s := (86, [some (.ref _), some (.int _), some (.int _)], [.int _, .ref _, .int _, .ref _], _)) rfl (u_ rfl) ?_
                refine w22 (pc := 86) (len_s := 1) rfl (hk.1 119 0 5 rfl rfl) (fun c18_s => ?_)
                refine w_t (pc := 87) (e_s := (3, 1, 0, 0, 0, .null, [])) (y_s := (88, [some (.ref _), some (.int _), some (.int _)], [.ref _, .int _, .int _, .ref _], _)) rfl (u_ rfl) ?_
                refine w20r (pc := 88) (len_s := 3) (q_s := 112) rfl (krq hk rfl) ?_
                refine w_t (pc := 91) (e_s := (0, 1, 0, 0, 0, .int 2, [])) (y_s := (92, [some (.ref _), some (.int _), some (.int _)], [.int _, .ref _, .int _, .int _, .ref _], _)) rfl (u_ rfl) ?_
                refine w22 (pc := 92) (len_s := 1) rfl (hk.1 112 0 7 rfl rfl) (fun c19_s => ?_)
                refine w_t (pc := 93) (e_s := (0, 2, 0, 0, 0, .int 99, [])) (y_s := (95, [some (.ref _), some (.int _), some (.int _)], [.int _, .int _, .int _, .int _, .ref _], _)) rfl (u_ rfl) ?_
                refine wi1 (pc := 95) (len_s := 3) (Y := 99) rfl rfl (by decide) (fun c20_s => ?_) (fun c20_s => ?_)
                · replace t_s := t_s.1 c20_s
                  refine w_t (pc := 98) (e_s := (0, 1, 0, 0, 0, .int 1, [])) (y_s := (99, [some (.ref _), some (.int _), some (.int _)], [.int _, .int _, .int _, .ref _], _)) rfl (u_ rfl) ?_
                  refine w_t (pc := 99) (e_s := (17, 3, 103, 0, 0, .null, [])) (y_s := (103, [some (.ref _), some (.int _), some (.int _)], [.int _, .int _, .int _, .ref _], _)) rfl (u_ rfl) ?_
                  refine w_t (pc := 103) (e_s := (7, 1, 0, 0, 0, .null, [])) (y_s := (104, [some (.ref _), some (.int _), some (.int _)], [.int (_ + _), .int _, .ref _], _)) rfl (u_ rfl) ?_
                  refine w25 (pc := 104) (len_s := 1) rfl (hk.1 119 0 5 rfl rfl) (fun c21 => ?_)
                  refine w_t (pc := 105) (e_s := (3, 1, 0, 0, 0, .null, [])) (y_s := (106, [some (.ref _), some (.int _), some (.int _)], [.ref _], _)) rfl (u_ rfl) ?_
                  refine w20 (pc := 106) (len_s := 3) rfl ?_
                  exact wrI (pc := 109) (len_s := 1) rfl hk t_s
                · replace t_s := t_s.2 c20_s
                  refine w_t (pc := 102) (e_s := (0, 1, 0, 0, 0, .int 0, [])) (y_s := (103, [some (.ref _), some (.int _), some (.int _)], [.int _, .int _, .int _, .ref _], _)) rfl (u_ rfl) ?_
                  refine w_t (pc := 103) (e_s := (7, 1, 0, 0, 0, .null, [])) (y_s := (104, [some (.ref _), some (.int _), some (.int _)], [.int (_ + _), .int _, .ref _], _)) rfl (u_ rfl) ?_
                  refine w25 (pc := 104) (len_s := 1) rfl (hk.1 119 0 5 rfl rfl) (fun c22 => ?_)
                  refine w_t (pc := 105) (e_s := (3, 1, 0, 0, 0, .null, [])) (y_s := (106, [some (.ref _), some (.int _), some (.int _)], [.ref _], _)) rfl (u_ rfl) ?_
                  refine w20 (pc := 106) (len_s := 3) rfl ?_
                  exact wrI (pc := 109) (len_s := 1) rfl hk t_s
              · replace t_s := t_s.2 c14_s
                refine w_t (pc := 60) (e_s := (0, 1, 0, 0, 0, .int 1, [])) (y_s := (61, [some (.ref _), some (.int _), some (.int _)], [.int _, .int _, .int _, .ref _], _)) rfl (u_ rfl) ?_
                refine w_t (pc := 61) (e_s := (17, 3, 65, 0, 0, .null, [])) (y_s := (65, [some (.ref _), some (.int _), some (.int _)], [.int _, .int _, .int _, .ref _], _)) rfl (u_ rfl) ?_
                refine w_t (pc := 65) (e_s := (7, 1, 0, 0, 0, .null, [])) (y_s := (66, [some (.ref _), some (.int _), some (.int _)], [.int (_ + _), .int _, .ref _], _)) rfl (u_ rfl) ?_
                refine w25 (pc := 66) (len_s := 1) rfl (hk.1 119 0 5 rfl rfl) (fun c23_s => ?_)
                refine w_t (pc := 67) (e_s := (3, 1, 0, 0, 0, .null, [])) (y_s := (68, [some (.ref _), some (.int _), some (.int _)], [.ref _], _)) rfl (u_ rfl) ?_
                refine w20r (pc := 68) (len_s := 3) (q_s := 119) rfl (krq hk rfl) ?_
                refine w_t (pc := 71) (e_s := (0, 1, 0, 0, 0, .int 3, [])) (y_s := (72, [some (.ref _), some (.int _), some (.int _)], [.int _, .ref _], _)) rfl (u_ rfl) ?_
                refine w_t (pc := 72) (e_s := (41, 1, 0, 0, 0, .null, [])) (y_s := (73, [some (.ref _), some (.int _), some (.int _)], [.int _, .ref _, .int _, .ref _], _)) rfl (u_ rfl) ?_
                refine w22 (pc := 73) (len_s := 1) rfl (hk.1 119 0 5 rfl rfl) (fun c24_s => ?_)
                refine w_t (pc := 74) (e_s := (3, 1, 0, 0, 0, .null, [])) (y_s := (75, [some (.ref _), some (.int _), some (.int _)], [.ref _, .int _, .int _, .ref _], _)) rfl (u_ rfl) ?_
                refine w20 (pc := 75) (len_s := 3) rfl ?_
                refine w_t (pc := 78) (e_s := (7, 1, 0, 0, 0, .null, [])) (y_s := (79, [some (.ref _), some (.int _), some (.int _)], [.int (_ + _), .int _, .ref _], _)) rfl (u_ rfl) ?_
                refine w25 (pc := 79) (len_s := 1) rfl (hk.1 119 0 5 rfl rfl) (fun c25_s => ?_)
                refine w_t (pc := 80) (e_s := (3, 1, 0, 0, 0, .null, [])) (y_s := (81, [some (.ref _), some (.int _), some (.int _)], [.ref _], _)) rfl (u_ rfl) ?_
                refine w20r (pc := 81) (len_s := 3) (q_s := 119) rfl (krq hk rfl) ?_
                refine w_t (pc := 84) (e_s := (0, 1, 0, 0, 0, .int 4, [])) (y_s := (85, [some (.ref _), some (.int _), some (.int _)], [.int _, .ref _], _)) rfl (u_ rfl) ?_
                refine w_t (pc := 85) (e_s := (41, 1, 0, 0, 0, .null, [])) (y_s := (86, [some (.ref _), some (.int _), some (.int _)], [.int _, .ref _, .int _, .ref _], _)) rfl (u_ rfl) ?_
                refine w22 (pc := 86) (len_s := 1) rfl (hk.1 119 0 5 rfl rfl) (fun c26 => ?_)
                refine w_t (pc := 87) (e_s := (3, 1, 0, 0, 0, .null, [])) (y_s := (88, [some (.ref _), some (.int _), some (.int _)], [.ref _, .int _, .int _, .ref _], _)) rfl (u_ rfl) ?_
                refine w20r (pc := 88) (len_s := 3) (q_s := 112) rfl (krq hk rfl) ?_
                refine w_t (pc := 91) (e_s := (0, 1, 0, 0, 0, .int 2, [])) (y_s := (92, [some (.ref _), some (.int _), some (.int _)], [.int _, .ref _, .int _, .int _, .ref _], _)) rfl (u_ rfl) ?_
                refine w22 (pc := 92) (len_s := 1) rfl (hk.1 112 0 7 rfl rfl) (fun c27_s => ?_)
                refine w_t (pc := 93) (e_s := (0, 2, 0, 0, 0, .int 99, [])) (y_s := (95, [some (.ref _), some (.int _), some (.int _)], [.int _, .int _, .int _, .int _, .ref _], _)) rfl (u_ rfl) ?_
                refine wi1 (pc := 95) (len_s := 3) (Y := 99) rfl rfl (by decide) (fun c28_s => ?_) (fun c28_s => ?_)
                · replace t_s := t_s.1 c28_s
                  refine w_t (pc := 98) (e_s := (0, 1, 0, 0, 0, .int 1, [])) (y_s := (99, [some (.ref _), some (.int _), some (.int _)], [.int _, .int _, .int _, .ref _], _)) rfl (u_ rfl) ?_
                  refine w_t (pc := 99) (e_s := (17, 3, 103, 0, 0, .null, [])) (y_s := (103, [some (.ref _), some (.int _), some (.int _)], [.int _, .int _, .int _, .ref _], _)) rfl (u_ rfl) ?_
                  refine w_t (pc := 103) (e_s := (7, 1, 0, 0, 0, .null, [])) (y_s := (104, [some (.ref _), some (.int _), some (.int _)], [.int (_ + _), .int _, .ref _], _)) rfl (u_ rfl) ?_
                  refine w25 (pc := 104) (len_s := 1) rfl (hk.1 119 0 5 rfl rfl) (fun c29_s => ?_)
                  refine w_t (pc := 105) (e_s := (3, 1, 0, 0, 0, .null, [])) (y_s := (106, [some (.ref _), some (.int _), some (.int _)], [.ref _], _)) rfl (u_ rfl) ?_
                  refine w20 (pc := 106) (len_s := 3) rfl ?_
                  exact wrI (pc := 109) (len_s := 1) rfl hk t_s
                · replace t_s := t_s.2 c28_s
                  refine w_t (pc := 102) (e_s := (0, 1, 0, 0, 0, .int 0, [])) (y_s := (103, [some (.ref _), some (.int _), some (.int _)], [.int _, .int _, .int _, .ref _], _)) rfl (u_ rfl) ?_
                  refine w_t (pc := 103) (e_s := (7, 1, 0, 0, 0, .null, [])) (y_s := (104, [some (.ref _), some (.int _), some (.int _)], [.int (_ + _), .int _, .ref _], _)) rfl (u_ rfl) ?_
                  refine w25 (pc := 104) (len_s := 1) rfl (hk.1 119 0 5 rfl rfl) (fun c30_s => ?_)
                  refine w_t (pc := 105) (e_s := (3, 1, 0, 0, 0, .null, [])) (y_s := (106, [some (.ref _), some (.int _), some (.int _)], [.ref _], _)) rfl (u_ rfl) ?_
                  refine w20 (pc := 106) (len_s := 3) rfl ?_
                  exact wrI (pc := 109) (len_s := 1) rfl hk t_s
          · replace t_s := t_s.2 c7_s
            refine w_t (pc := 36) (e_s := (0, 1, 0, 0, 0, .int 0, [])) (y_s := (37, [some (.ref _), some (.int _)], [.int _], _)) rfl (u_ rfl) ?_
            refine wrI (pc := 37) (len_s := 1) rfl hk ?_
            show wF _ 212 (30, [some (.ref _), some (.int _), some (.int _)], [.int _], _) _
            refine w_t (pc := 30) (e_s := (15, 3, 36, 1, 0, .null, [])) (y_s := (33, [some (.ref _), some (.int _), some (.int _)], [], _)) rfl (u_ rfl) ?_
            refine w_t (pc := 33) (e_s := (0, 2, 0, 0, 0, .int (-5), [])) (y_s := (35, [some (.ref _), some (.int _), some (.int _)], [.int _], _)) rfl (u_ rfl) ?_
            exact wrI (pc := 35) (len_s := 1) rfl hk t_s
/-! IN DEED: an idea goes a road, a stroke. -/
section UP_s
variable {nh ni nr i_s : Nat} {f_s f2_s : Nat → Nat → Int32} {o : oI}
theorem tC_setI (hc_s : tC nh ni nr f_s) (hi_s : i_s < 8) (h1 : ∀ k_s, k_s < 6 → f2_s (20 + i_s) k_s = o k_s ∧ f2_s 103 (12 + 8 * k_s + i_s) = o k_s) (hB_s : oB o) (hf : ∀ a_s k_s, inC a_s k_s → ¬ (a_s = 20 + i_s ∧ k_s < 6) → ¬ (a_s = 103 ∧ 12 ≤ k_s ∧ k_s < 60 ∧ (k_s - 12) % 8 = i_s) → f2_s a_s k_s = f_s a_s k_s) : tC nh ni nr f2_s := by
  obtain ⟨a0_s, ⟨a1_s, a2, a3⟩, ⟨a4, a5, a6⟩, a7, a8, a9⟩ := hc_s
  have fr_s : ∀ a_s k_s, (a_s = 7 ∧ 6 ≤ k_s ∧ k_s ≤ 8) ∨ (a_s = 102 ∧ 6 ≤ k_s ∧ k_s ≤ 8) ∨ (28 ≤ a_s ∧ a_s < 40 ∧ k_s < 5) ∨ ((a_s = 107 ∨ a_s = 108) ∧ k_s < 12) → f2_s a_s k_s = f_s a_s k_s := fun a_s k_s q_s => hf a_s k_s (by unfold inC; omega) (by omega) (by omega)
  refine ⟨a0_s, ⟨?_, ?_, ?_⟩, ⟨?_, ?_, ?_⟩, fun n_s w_s hw hn h8 => ?_, fun j_s j1 j2_s => ?_, fun r_s hr => ?_⟩
  · rw [fr_s 7 6 (by omega)]
    exact a1_s
  · rw [fr_s 7 7 (by omega)]
    exact a2
  · rw [fr_s 7 8 (by omega)]
    exact a3
  · rw [fr_s 102 6 (by omega)]
    exact a4
  · rw [fr_s 102 7 (by omega)]
    exact a5
  · rw [fr_s 102 8 (by omega)]
    exact a6
  · have u_s := a7 n_s w_s hw hn h8
    have ci := cell_in hw hn
    have pl := plc_lt hw hn
    by_cases w2_s : w_s < 2
    · rw [cap_h w2_s] at hn
      rw [cO_h w2_s, cF_h w2_s, plc_h w2_s] at u_s ⊢
      rw [hf (8 + w_s) n_s (by unfold inC; omega) (by omega) (by omega), hf 103 (6 * w_s + n_s) (by unfold inC; omega) (by omega) (by omega)]
      exact u_s
    · by_cases w9 : w_s < 9
      · rw [cap_i (by omega) w9] at hn
        rw [cO_i (by omega) w9, cF_i (by omega) w9, plc_i (by omega) w9] at u_s ⊢
        by_cases e_s : n_s = i_s ∧ w_s < 8
        · obtain ⟨rfl, e8⟩ := e_s
          have q_s := h1 (w_s - 2) (by omega)
          rw [q_s.1, q_s.2]
          refine ⟨rfl, ?_⟩
          rw [vB_n (by omega)]
          obtain ⟨b0, b1, b2, b3, b4, b5, b6⟩ := hB_s
          have hw6 : w_s = 2 ∨ w_s = 3 ∨ w_s = 4 ∨ w_s = 5 ∨ w_s = 6 ∨ w_s = 7 := by omega
          rcases hw6 with e_s | e_s | e_s | e_s | e_s | e_s
          · subst e_s
            exact ⟨b0.1, b0.2, fun e9_s => absurd e9_s (by omega)⟩
          · subst e_s
            exact ⟨b1.1, b1.2, fun e9_s => absurd e9_s (by omega)⟩
          · subst e_s
            exact ⟨b2.1, b2.2, fun e9_s => absurd e9_s (by omega)⟩
          · subst e_s
            exact ⟨b3.1, b3.2, fun e9_s => absurd e9_s (by omega)⟩
          · subst e_s
            exact ⟨b4.1, b4.2, fun e9_s => absurd e9_s (by omega)⟩
          · subst e_s
            exact ⟨b5.1, b5.2, fun e9_s => absurd e9_s (by omega)⟩
        · rw [hf (20 + n_s) (w_s - 2) (by unfold inC; omega) (by omega) (by omega), hf 103 (12 + 8 * (w_s - 2) + n_s) (by unfold inC; omega) (by omega) (by omega)]
          exact u_s
      · rw [cap_r (by omega)] at hn
        rw [cO_r (by omega), cF_r (by omega), plc_r (by omega)] at u_s ⊢
        rw [hf (28 + n_s) (w_s - 7) (by unfold inC; omega) (by omega) (by omega), hf 103 (68 + 12 * (w_s - 9) + n_s) (by unfold inC; omega) (by omega) (by omega)]
        exact u_s
  · rw [hf (20 + j_s) 6 (by unfold inC; omega) (by omega) (by omega)]
    exact a8 j_s j1 j2_s
  · rw [fr_s (28 + r_s) 0 (by omega), fr_s (28 + r_s) 1 (by omega), fr_s 107 r_s (by omega), fr_s 108 r_s (by omega)]
    exact a9 r_s hr
end UP_s
theorem tX_upI {nh ni nr i_s : Nat} {h_s h2 : zH} {o : oI} (hc_s : tC nh ni nr h_s.2.1) (hh : tH nh ni nr h_s.2.1) (hi_ : tI nh ni nr h_s.2.1) (hz : tZ h_s.2.1) (hl : tLw h_s) (hi_s : i_s < 8) (h1 : ∀ k_s, k_s < 6 → h2.2.1 (20 + i_s) k_s = o k_s ∧ h2.2.1 103 (12 + 8 * k_s + i_s) = o k_s) (hB_s : oB o) (hD : tD h2.2.1) (hr : ∀ k_s, h2.2.2.2 7 k_s = h_s.2.2.2 7 k_s) (hf : ∀ a_s k_s, inX a_s k_s → ¬ (a_s = 20 + i_s ∧ k_s < 6) → ¬ (a_s = 103 ∧ 12 ≤ k_s ∧ k_s < 60 ∧ (k_s - 12) % 8 = i_s) → ¬ inD a_s k_s → h2.2.1 a_s k_s = h_s.2.1 a_s k_s) : tX h2 := by
  refine ⟨nh, ni, nr, tC_setI hc_s hi_s h1 hB_s (fun a_s k_s q_s g1 g2 => hf a_s k_s (Or.inl q_s) g1 g2 (by unfold inC at q_s; unfold inD; omega)), tH_fr (fun a_s k_s q_s => hf a_s k_s (Or.inr (Or.inl q_s)) ?_ ?_ ?_) hh, tI_fr (fun a_s k_s q_s => hf a_s k_s (Or.inr (Or.inr (Or.inl q_s))) ?_ ?_ ?_) hi_ hc_s.1.2.1, hD, tZ_fr (fun a_s k_s q_s => hf a_s k_s (Or.inr (Or.inr (Or.inr (Or.inr (Or.inl q_s))))) ?_ ?_ ?_) hz, tLw_fr hr (fun a_s k_s q_s => hf a_s k_s (Or.inr (Or.inr (Or.inr (Or.inr (Or.inr q_s))))) ?_ ?_ ?_) hl⟩
  · unfold inH at q_s
    omega
  · unfold inH at q_s
    omega
  · unfold inH at q_s
    unfold inD
    omega
  · unfold inI at q_s
    omega
  · unfold inI at q_s
    omega
  · unfold inI at q_s
    unfold inD
    omega
  · unfold inZ at q_s
    omega
  · unfold inZ at q_s
    omega
  · unfold inZ at q_s
    unfold inD
    omega
  · unfold inW at q_s
    omega
  · unfold inW at q_s
    omega
  · unfold inW at q_s
    unfold inD
    omega
section GS
variable {h_s : zH} {K_s : Int32 → zH → Prop} {V : zH → Prop} {nh ni nr : Nat} {lw : Option (List pB)} {x1_s x2_s : Int32} {f_s : Nat → Nat → Int32}
theorem ko210 {i_s : Nat} {f0_s : Nat → Nat → Int32} (hk : hKn h_s) (hx : x1_s.toInt = (i_s : Int)) (hi_s : i_s < 8) (t_s : ∀ f1_s, (∀ k_s, k_s < 6 → f1_s 103 (12 + 8 * k_s + i_s) = f0_s 112 k_s) → (∀ a_s k_s, ¬ (a_s = 103 ∧ 12 ≤ k_s ∧ k_s < 60 ∧ (k_s - 12) % 8 = i_s) → f1_s a_s k_s = f0_s a_s k_s) → V (h_s.1, f1_s, h_s.2.2.1, h_s.2.2.2)) : ∀ (F_s j_s : Nat) (x2_s : Int32) (f_s : Nat → Nat → Int32), x2_s.toInt = (j_s : Int) → j_s ≤ 6 → (∀ k_s, k_s < j_s → f_s 103 (12 + 8 * k_s + i_s) = f0_s 112 k_s) → (∀ a_s k_s, ¬ (a_s = 103 ∧ 12 ≤ k_s ∧ k_s < 60 ∧ (k_s - 12) % 8 = i_s) → f_s a_s k_s = f0_s a_s k_s) → wF F_s 210 (2, [some (.ref 102), some (.int x1_s), some (.int x2_s)], [], (h_s.1, f_s, h_s.2.2.1, h_s.2.2.2)) (gV V)
  | 0, _, _, _, _, _, _, _ => wF_zero
  | F_s + 1, j_s, x2_s, f_s, h2, hj, hf, hg => by
    have m8_s : (8 * x2_s).toInt = 8 * (j_s : Int) := by rw [na_mul (by rw [i8_]; omega) (by rw [i8_]; omega), i8_, h2]
    have m12_s : (12 + 8 * x2_s).toInt = ((12 + 8 * j_s : Nat) : Int) := by
      rw [na_add (by rw [i12_]; omega) (by rw [i12_]; omega), i12_, m8_s]
      omega
    have za : zix (12 + 8 * x2_s + x1_s) = 12 + 8 * j_s + i_s := zxa m12_s hx (by omega)
    have zj := azix (i := x2_s) (by omega)
    have ej : zix x2_s = j_s := by omega
    refine sg_210_2 (h_s := (h_s.1, f_s, h_s.2.2.1, h_s.2.2.2)) hk ?_
    dsimp only
    rw [za, ej, hg 112 j_s (by omega)]
    refine ⟨fun c1_s _ _ => ?_, fun c1_s => ?_⟩
    · refine ko210 hk hx hi_s t_s F_s (j_s + 1) (x2_s + 1) _ (by rw [in1_ (by omega)]; omega) (by omega) (fun k_s hk1 => ?_) (fun a_s k_s ha_s => ?_)
      · by_cases e_s : k_s = j_s
        · rw [e_s, zsame_up]
        · rw [zne_up (by omega)]
          exact hf k_s (by omega)
      · rw [zne_up (by omega)]
        exact hg a_s k_s ha_s
    · have e6_s : j_s = 6 := by omega
      subst e6_s
      exact t_s f_s hf hg
theorem sp_210 {F_s i_s : Nat} (hk : hKn h_s) (hx : x1_s.toInt = (i_s : Int)) (hi_s : i_s < 8) (t_s : ∀ f1_s, (∀ k_s, k_s < 6 → f1_s 103 (12 + 8 * k_s + i_s) = f_s 112 k_s) → (∀ a_s k_s, ¬ (a_s = 103 ∧ 12 ≤ k_s ∧ k_s < 60 ∧ (k_s - 12) % 8 = i_s) → f1_s a_s k_s = f_s a_s k_s) → V (h_s.1, f1_s, h_s.2.2.1, h_s.2.2.2)) : wF F_s 210 (0, [some (.ref 102), some (.int x1_s), none], [], (h_s.1, f_s, h_s.2.2.1, h_s.2.2.2)) (gV V) := wF_le (Nat.le_succ F_s) (sg_210_0 (h_s := (h_s.1, f_s, h_s.2.2.1, h_s.2.2.2)) hk (ko210 hk hx hi_s t_s F_s 0 0 f_s rfl (by omega) (fun k_s hq => absurd hq (Nat.not_lt_zero k_s)) (fun _ _ _ => rfl)))
def okG (ni nr : Nat) (x1_s x2_s : Int32) : Prop := 0 ≤ x1_s.toInt ∧ x1_s.toInt < (ni : Int) ∧ 0 ≤ x2_s.toInt ∧ x2_s.toInt < (nr : Int)
def goF (lw : Option (List pB)) (f_s : Nat → Nat → Int32) (o : oI) (r_s : Nat) : Nat × Bool × oI := goO lw (zix (f_s 103 (68 + r_s))) (f_s 103 (80 + r_s)) (f_s 103 (92 + r_s)) o
def bI_ (b_s : Bool) : Int32 := if b_s = true then 1 else 0
def lmI (o : oI) : Int32 := if (o 2).toInt < 99 then 0 else 1
theorem tM_ml {r_s : Nat} (hc_s : tM nh ni nr f_s) (hr : r_s < nr) : (f_s 103 (68 + r_s)).toInt = (zix (f_s 103 (68 + r_s)) : Int) ∧ zix (f_s 103 (68 + r_s)) ≤ 9 ∧ 1 ≤ zix (f_s 103 (68 + r_s)) := by
  have b_s := hc_s.1.2.2
  have u_s := tM_road (r_s := r_s) (j_s := 0) hc_s (by omega) (by omega)
  have u_s : 0 ≤ (f_s 103 (68 + r_s)).toInt ∧ (f_s 103 (68 + r_s)).toInt ≤ 9 ∧ (0 = 0 → r_s < nr → 1 ≤ (f_s 103 (68 + r_s)).toInt) := u_s
  have z_s := azix (i := f_s 103 (68 + r_s)) u_s.1
  have u4_s := u_s.2.2 rfl hr
  have u3 := u_s.2.1
  omega
theorem tC_rd {r_s : Nat} (hc_s : tC nh ni nr f_s) (hr : r_s < nr) : f_s (28 + r_s) 2 = f_s 103 (68 + r_s) ∧ f_s (28 + r_s) 3 = f_s 103 (80 + r_s) ∧ f_s (28 + r_s) 4 = f_s 103 (92 + r_s) := by
  have b_s := hc_s.1.2.2
  exact ⟨(tC_road (r_s := r_s) (j_s := 0) hc_s (by omega) (by omega)).1, (tC_road (r_s := r_s) (j_s := 1) hc_s (by omega) (by omega)).1, (tC_road (r_s := r_s) (j_s := 2) hc_s (by omega) (by omega)).1⟩
/-- goes, the class -/
theorem sp_118 {F_s q_s : Nat} (hk : hKn h_s) (hr9 : h_s.2.2.2 7 9 = some q_s) (hm_s : q_s = 14 ∨ q_s = 17) (hl : lawC q_s f_s lw) (hp : lwP lw) (hc_s : tC nh ni nr f_s) (t1_s : ¬ okG ni nr x1_s x2_s → K_s (-1) (h_s.1, f_s, h_s.2.2.1, h_s.2.2.2)) (t2_s : ∀ i_s r_s : Nat, x1_s.toInt = (i_s : Int) → x2_s.toInt = (r_s : Int) → i_s < ni → r_s < nr → ¬ ((owI f_s i_s 2).toInt < 99 ∧ ¬ (9 - owI f_s i_s 2 / 11).toInt < (f_s 103 (80 + r_s)).toInt) → K_s (-5) (h_s.1, f_s, h_s.2.2.1, h_s.2.2.2)) (t3_s : ∀ i_s r_s : Nat, x1_s.toInt = (i_s : Int) → x2_s.toInt = (r_s : Int) → i_s < ni → r_s < nr → (owI f_s i_s 2).toInt < 99 ∧ ¬ (9 - owI f_s i_s 2 / 11).toInt < (f_s 103 (80 + r_s)).toInt → ∀ v_s f1_s, v_s.toInt = ((goF lw f_s (owI f_s i_s) r_s).1 : Int) → (∀ k_s, k_s < 6 → f1_s (20 + i_s) k_s = (goF lw f_s (owI f_s i_s) r_s).2.2 k_s) → f1_s 73 2 = f_s 73 2 + bI_ (goF lw f_s (owI f_s i_s) r_s).2.1 → f1_s 73 3 = f_s 73 3 + v_s → f1_s 73 4 = f_s 73 4 + lmI (goF lw f_s (owI f_s i_s) r_s).2.2 → (∀ a_s k_s, ¬ a_s = 13 → ¬ a_s = 16 → ¬ a_s = 19 → ¬ (a_s = 20 + i_s ∧ (k_s = 2 ∨ k_s = 3)) → ¬ (a_s = 73 ∧ 2 ≤ k_s ∧ k_s ≤ 4) → f1_s a_s k_s = f_s a_s k_s) → K_s v_s (h_s.1, f1_s, h_s.2.2.1, h_s.2.2.2)) : wF F_s 118 (0, [some (.ref 6), some (.int x1_s), some (.int x2_s), none, none, none], [], (h_s.1, f_s, h_s.2.2.1, h_s.2.2.2)) (gI K_s) := by
  have e7_s := hc_s.2.1.2.1
  have e8 := hc_s.2.1.2.2
  have b_s := hc_s.1
  unfold okG at t1_s
  refine wF_le (Nat.le_succ F_s) (sg_118_0 (h_s := (h_s.1, f_s, h_s.2.2.1, h_s.2.2.2)) hk ?_)
  dsimp only
  rw [e7_s, e8]
  refine ⟨fun c_s => t1_s (by omega), fun c1_s => ⟨fun c2_s => ⟨fun c_s => t1_s (by omega), fun c3_s => ⟨fun c4_s => fun _ _ => ?_, fun c_s => t1_s (by omega)⟩⟩, fun c_s => t1_s (by omega)⟩⟩
  have z1 := azix (i := x1_s) (by omega)
  have z2 := azix (i := x2_s) (by omega)
  have hi_s : zix x1_s < ni := by omega
  have hr : zix x2_s < nr := by omega
  generalize zix x1_s = i_s at hi_s z1
  generalize zix x2_s = r_s at hr z2
  have hcw := tC_cw hc_s hi_s
  have hB_s := tC_oB hc_s hi_s
  obtain ⟨r2, r3, r4⟩ := tC_rd hc_s hr
  obtain ⟨m1_s, m2_s, m3_s⟩ := tM_ml (tC_M hc_s) hr
  have t2_s := t2_s i_s r_s z1.symm z2.symm hi_s hr
  have t3_s := t3_s i_s r_s z1.symm z2.symm hi_s hr
  rw [hcw.1 2 (by omega), r3]
  refine ⟨fun c7_s => ⟨fun c8_s => t2_s (fun w_s => w_s.2 c8_s), fun c8_s => ?_⟩, fun c7_s => t2_s (fun w_s => c7_s w_s.1)⟩
  have t3_s := t3_s ⟨c7_s, c8_s⟩
  refine sp_24 (m_s := zix (f_s 103 (68 + r_s))) hk hr9 hm_s hl hp (show dRo (20 + i_s) (28 + r_s) by unfold dRo; omega) (by rw [r2]; exact m1_s) m2_s hcw hB_s (fun v_s f1_s g1 g2 g3_s _ => ?_)
  rw [r3, r4] at g1 g2
  have g1 : v_s.toInt = ((goF lw f_s (owI f_s i_s) r_s).1 : Int) := g1
  have g2 : ∀ k_s, k_s < 6 → f1_s (20 + i_s) k_s = (goF lw f_s (owI f_s i_s) r_s).2.2 k_s := g2
  have eml : f1_s (28 + r_s) 2 = f_s 103 (68 + r_s) := by rw [g3_s _ _ (by omega) (by omega) (by omega) (by omega)]; exact r2
  have ew : f1_s (20 + i_s) 2 = (goF lw f_s (owI f_s i_s) r_s).2.2 2 := g2 2 (by omega)
  have l2 : f1_s 73 2 = f_s 73 2 := g3_s _ _ (by omega) (by omega) (by omega) (by omega)
  have l3 : f1_s 73 3 = f_s 73 3 := g3_s _ _ (by omega) (by omega) (by omega) (by omega)
  have l4 : f1_s 73 4 = f_s 73 4 := g3_s _ _ (by omega) (by omega) (by omega) (by omega)
  have gall : (goF lw f_s (owI f_s i_s) r_s).2.1 = true ↔ (goF lw f_s (owI f_s i_s) r_s).1 = zix (f_s 103 (68 + r_s)) := go_all m3_s
  dsimp only
  rw [zne_up (show ¬ (28 + r_s = 73 ∧ 2 = 3) by omega), eml, m1_s, g1, l2, l3, l4]
  have n2_s : ∀ v1_s v2, zup (zup f1_s 73 3 v1_s) 73 2 v2 (20 + i_s) 2 = (goF lw f_s (owI f_s i_s) r_s).2.2 2 := fun v1_s v2 => by rw [zne_up (by omega), zne_up (by omega)]; exact ew
  have n1_s : ∀ v1_s, zup f1_s 73 3 v1_s (20 + i_s) 2 = (goF lw f_s (owI f_s i_s) r_s).2.2 2 := fun v1_s => by rw [zne_up (by omega)]; exact ew
  rw [n2_s, n1_s]
  have fin_s : ∀ f2_s, (∀ a_s k_s, ¬ (a_s = 73 ∧ 2 ≤ k_s ∧ k_s ≤ 4) → f2_s a_s k_s = f1_s a_s k_s) → f2_s 73 2 = f_s 73 2 + bI_ (goF lw f_s (owI f_s i_s) r_s).2.1 → f2_s 73 3 = f_s 73 3 + v_s → f2_s 73 4 = f_s 73 4 + lmI (goF lw f_s (owI f_s i_s) r_s).2.2 → K_s v_s (h_s.1, f2_s, h_s.2.2.1, h_s.2.2.2) := fun f2_s q1_s q2_s q3_s q4_s => t3_s v_s f2_s g1 (fun k_s hk6 => by rw [q1_s _ _ (by omega)]; exact g2 k_s hk6) q2_s q3_s q4_s (fun a_s k_s p1_s p2_s p3_s p4_s p5_s => by rw [q1_s a_s k_s p5_s]; exact g3_s a_s k_s p1_s p2_s p3_s p4_s)
  have fr3 : ∀ (v1_s v2 v3 : Int32) a_s k_s, ¬ (a_s = 73 ∧ 2 ≤ k_s ∧ k_s ≤ 4) → zup (zup (zup f1_s 73 3 v1_s) 73 2 v2) 73 4 v3 a_s k_s = f1_s a_s k_s := fun v1_s v2 v3 a_s k_s q_s => by rw [zne_up (by omega), zne_up (by omega), zne_up (by omega)]
  refine ⟨fun c10_s => ⟨fun c11_s => fin_s _ (fun a_s k_s q_s => by rw [zne_up (by omega), zne_up (by omega)]) ?_ ?_ ?_, fun c11_s => fin_s _ (fr3 _ _ _) ?_ ?_ ?_⟩, fun c10_s => ⟨fun c11_s => fin_s _ (fun a_s k_s q_s => by rw [zne_up (by omega)]) ?_ ?_ ?_, fun c11_s => fin_s _ (fun a_s k_s q_s => by rw [zne_up (by omega), zne_up (by omega)]) ?_ ?_ ?_⟩⟩
  · rw [zsame_up, gall.mpr (by omega)]
    rfl
  · rw [zne_up (by omega), zsame_up]
  · rw [zne_up (by omega), zne_up (by omega), l4]
    unfold lmI
    rw [if_pos c11_s, iadd0]
  · rw [zne_up (by omega), zsame_up, gall.mpr (by omega)]
    rfl
  · rw [zne_up (by omega), zne_up (by omega), zsame_up]
  · rw [zsame_up]
    unfold lmI
    rw [if_neg c11_s]
  · rw [zne_up (by omega), l2]
    unfold bI_
    rw [if_neg (fun w_s => c10_s (by rw [gall.mp w_s])), iadd0]
  · rw [zsame_up]
  · rw [zne_up (by omega), l4]
    unfold lmI
    rw [if_pos c11_s, iadd0]
  · rw [zne_up (by omega), zne_up (by omega), l2]
    unfold bI_
    rw [if_neg (fun w_s => c10_s (by rw [gall.mp w_s])), iadd0]
  · rw [zne_up (by omega), zsame_up]
  · rw [zsame_up]
    unfold lmI
    rw [if_neg c11_s]
/-- goes, the reference -/
theorem sp_212 {F_s : Nat} (hk : hKn h_s) (hl : lawR f_s lw) (hp : lwP lw) (hc_s : tM nh ni nr f_s) (t1_s : ¬ okG ni nr x1_s x2_s → K_s (-1) (h_s.1, f_s, h_s.2.2.1, h_s.2.2.2)) (t2_s : ∀ i_s r_s : Nat, x1_s.toInt = (i_s : Int) → x2_s.toInt = (r_s : Int) → i_s < ni → r_s < nr → ¬ ((owI f_s i_s 2).toInt < 99 ∧ ¬ (9 - owI f_s i_s 2 / 11).toInt < (f_s 103 (80 + r_s)).toInt) → ∀ f1_s, (∀ a_s k_s, ¬ a_s = 112 → f1_s a_s k_s = f_s a_s k_s) → K_s (-5) (h_s.1, f1_s, h_s.2.2.1, h_s.2.2.2)) (t3_s : ∀ i_s r_s : Nat, x1_s.toInt = (i_s : Int) → x2_s.toInt = (r_s : Int) → i_s < ni → r_s < nr → (owI f_s i_s 2).toInt < 99 ∧ ¬ (9 - owI f_s i_s 2 / 11).toInt < (f_s 103 (80 + r_s)).toInt → ∀ v_s f1_s, v_s.toInt = ((goF lw f_s (owI f_s i_s) r_s).1 : Int) → (∀ k_s, k_s < 6 → f1_s 103 (12 + 8 * k_s + i_s) = (goF lw f_s (owI f_s i_s) r_s).2.2 k_s) → f1_s 119 2 = f_s 119 2 + bI_ (goF lw f_s (owI f_s i_s) r_s).2.1 → f1_s 119 3 = f_s 119 3 + v_s → f1_s 119 4 = f_s 119 4 + lmI (goF lw f_s (owI f_s i_s) r_s).2.2 → (∀ a_s k_s, ¬ a_s = 111 → ¬ a_s = 112 → ¬ (a_s = 102 ∧ (15 ≤ k_s ∧ k_s ≤ 19 ∨ k_s = 22 ∨ k_s = 23)) → ¬ (a_s = 103 ∧ 12 ≤ k_s ∧ k_s < 60 ∧ (k_s - 12) % 8 = i_s) → ¬ (a_s = 119 ∧ 2 ≤ k_s ∧ k_s ≤ 4) → f1_s a_s k_s = f_s a_s k_s) → K_s v_s (h_s.1, f1_s, h_s.2.2.1, h_s.2.2.2)) : wF F_s 212 (0, [some (.ref 102), some (.int x1_s), some (.int x2_s)], [], (h_s.1, f_s, h_s.2.2.1, h_s.2.2.2)) (gI K_s) := by
  have e7_s := sb1 hc_s.2.1.2.1
  have e8 := sb1 hc_s.2.1.2.2
  have b_s := hc_s.1
  unfold okG at t1_s
  refine wF_le (Nat.le_succ F_s) (sg_212_0 (h_s := (h_s.1, f_s, h_s.2.2.1, h_s.2.2.2)) hk ?_)
  dsimp only
  rw [e7_s, e8]
  refine ⟨fun c_s => t1_s (by omega), fun c1_s => ⟨fun c_s => t1_s (by omega), fun c2_s => ⟨fun c_s => t1_s (by omega), fun c3_s => ⟨fun c_s => t1_s (by omega), fun c4_s => ?_⟩⟩⟩⟩
  have hi_s : x1_s.toInt.toNat < ni := by omega
  have hr : x2_s.toInt.toNat < nr := by omega
  have h1 : x1_s.toInt = (x1_s.toInt.toNat : Int) := by omega
  have h2 : x2_s.toInt = (x2_s.toInt.toNat : Int) := by omega
  generalize x1_s.toInt.toNat = i_s at hi_s h1
  generalize x2_s.toInt.toNat = r_s at hr h2
  have t2_s := t2_s i_s r_s h1 h2 hi_s hr
  have t3_s := t3_s i_s r_s h1 h2 hi_s hr
  obtain ⟨m1_s, m2_s, m3_s⟩ := tM_ml hc_s hr
  have hB_s := tM_oB hc_s hi_s
  refine sp_178 hk h1 (by omega) (tM_hd hc_s hi_s).1 (fun f1_s g1 g2 hk1 => ?_)
  have z80 : zix (80 + x2_s) = 80 + r_s := zxa (c_s := 80) (a_s := 80) rfl h2 (by omega)
  have o2 : f1_s 112 2 = owI f_s i_s 2 := g1 2 (by omega)
  dsimp only
  rw [z80, o2, g2 103 (80 + r_s) (by omega)]
  refine ⟨fun c7_s _ => ⟨fun c8_s => t2_s (fun w_s => w_s.2 c8_s) f1_s g2, fun c8_s => ?_⟩, fun c7_s => t2_s (fun w_s => c7_s w_s.1) f1_s g2⟩
  have t3_s := t3_s ⟨c7_s, c8_s⟩
  have l1 : lawR f1_s lw := lawR_fr (g2 _ _ (by omega)) (fun k_s _ => g2 _ _ (by omega)) hl
  refine sp_183 (h_s := (h_s.1, f1_s, h_s.2.2.1, h_s.2.2.2)) (o := owI f_s i_s) (m_s := zix (f_s 103 (68 + r_s))) hk1 l1 hp h2 (by omega) (by rw [g2 103 _ (by omega)]; exact m1_s) m2_s g1 hB_s (fun f2_s p1_s p2_s p3_s p4_s hk2 => ?_)
  rw [g2 103 (80 + r_s) (by omega), g2 103 (92 + r_s) (by omega)] at p1_s p2_s p3_s
  have p1_s : (f2_s 102 22).toInt = ((goF lw f_s (owI f_s i_s) r_s).1 : Int) := p1_s
  have p2_s : (f2_s 102 23).toInt = (if (goF lw f_s (owI f_s i_s) r_s).2.1 = true then 1 else 0) := p2_s
  have p3_s : ∀ k_s, k_s < 7 → f2_s 112 k_s = (goF lw f_s (owI f_s i_s) r_s).2.2 k_s := p3_s
  refine sp_210 (h_s := (h_s.1, f2_s, h_s.2.2.1, h_s.2.2.2)) hk2 h1 (by omega) (fun f3_s s1_s s2_s _ => ?_)
  have l2 : ∀ k_s, f3_s 119 k_s = f_s 119 k_s := fun k_s => by rw [s2_s _ _ (by omega), p4_s _ _ (by omega) (by omega) (by omega), g2 _ _ (by omega)]
  have w2_s : f3_s 112 2 = (goF lw f_s (owI f_s i_s) r_s).2.2 2 := by rw [s2_s _ _ (by omega)]; exact p3_s 2 (by omega)
  have v22 : (f3_s 102 22).toInt = ((goF lw f_s (owI f_s i_s) r_s).1 : Int) := by rw [s2_s _ _ (by omega)]; exact p1_s
  have v23 : (f3_s 102 23).toInt = (if (goF lw f_s (owI f_s i_s) r_s).2.1 = true then 1 else 0) := by rw [s2_s _ _ (by omega)]; exact p2_s
  have hB2 : oB (goF lw f_s (owI f_s i_s) r_s).2.2 := go_B hB_s
  have lame : ((goF lw f_s (owI f_s i_s) r_s).2.2 2).toInt = 99 ↔ ¬ ((goF lw f_s (owI f_s i_s) r_s).2.2 2).toInt < 99 := by
    have u_s := hB2.2.2.1
    omega
  dsimp only
  rw [l2 2, l2 3, l2 4, w2_s]
  have fin_s : ∀ u2_s u4_s : Int32, u2_s = bI_ (goF lw f_s (owI f_s i_s) r_s).2.1 → u4_s = lmI (goF lw f_s (owI f_s i_s) r_s).2.2 → K_s (f3_s 102 22) (h_s.1, zup (zup (zup f3_s 119 2 (f_s 119 2 + u2_s)) 119 3 (f_s 119 3 + f3_s 102 22)) 119 4 (f_s 119 4 + u4_s), h_s.2.2.1, h_s.2.2.2) := fun u2_s u4_s e2_s e4_s => by
    refine t3_s (f3_s 102 22) _ v22 (fun k_s hk6 => ?_) ?_ ?_ ?_ (fun a_s k_s q1_s q2_s q3_s q4_s q5_s => ?_)
    · rw [zne_up (by omega), zne_up (by omega), zne_up (by omega), s1_s k_s hk6]
      exact p3_s k_s (by omega)
    · rw [zne_up (by omega), zne_up (by omega), zsame_up, e2_s]
    · rw [zne_up (by omega), zsame_up]
    · rw [zsame_up, e4_s]
    · rw [zne_up (by omega), zne_up (by omega), zne_up (by omega), s2_s a_s k_s q4_s, p4_s a_s k_s q1_s q2_s q3_s, g2 a_s k_s q2_s]
  have bb : (f3_s 102 23).toInt = 0 → bI_ (goF lw f_s (owI f_s i_s) r_s).2.1 = 0 := fun w_s => by
    rw [v23] at w_s
    unfold bI_
    split at w_s
    · exact absurd w_s (by decide)
    · rename_i c_s
      rw [if_neg c_s]
  have bc : ¬ (f3_s 102 23).toInt = 0 → bI_ (goF lw f_s (owI f_s i_s) r_s).2.1 = 1 := fun w_s => by
    rw [v23] at w_s
    unfold bI_
    split at w_s
    · rename_i c_s
      rw [if_pos c_s]
    · exact absurd rfl w_s
  refine ⟨fun c10_s => ⟨fun c11_s => fin_s 0 1 (bb c10_s).symm ?_, fun c11_s => fin_s 0 0 (bb c10_s).symm ?_⟩, fun c10_s => ⟨fun c11_s => fin_s 1 1 (bc c10_s).symm ?_, fun c11_s => fin_s 1 0 (bc c10_s).symm ?_⟩⟩
  · unfold lmI
    rw [if_neg (lame.mp c11_s)]
  · unfold lmI
    rw [if_pos (by omega)]
  · unfold lmI
    rw [if_neg (lame.mp c11_s)]
  · unfold lmI
    rw [if_pos (by omega)]
theorem pr_goes {F_s : Nat} (hk : hKn h_s) (hx : tX h_s) : wF F_s 118 (0, [some (.ref 6), some (.int x1_s), some (.int x2_s), none, none, none], [], h_s) (gI (fun v_s h1 => wF F_s 212 (0, [some (.ref 102), some (.int x1_s), some (.int x2_s)], [], h1) (gI (fun v2 h2 => v_s = v2 ∧ tX h2)))) := by
  obtain ⟨nh, ni, nr, hc_s, hh, hi_, hd_s, hz, hl⟩ := hx
  have hx : tX h_s := ⟨nh, ni, nr, hc_s, hh, hi_, hd_s, hz, hl⟩
  obtain ⟨q_s, q2_s, lw, a1_s, a2, a3, a4, a5⟩ := hl
  have hl : tLw h_s := ⟨q_s, q2_s, lw, a1_s, a2, a3, a4, a5⟩
  have hp := lawR_P a5
  have b_s := hc_s.1
  refine sp_118 (f_s := h_s.2.1) hk a1_s (by omega) a4 hp hc_s (fun w_s => ?_) (fun i_s r_s e1_s e2_s hi_s hr w_s => ?_) (fun i_s r_s e1_s e2_s hi_s hr w_s v_s f1_s g1 g2 g3_s g4 g5_s g6 => ?_)
  · refine sp_212 (f_s := h_s.2.1) hk a5 hp (tC_M hc_s) (fun _ => ⟨rfl, hx⟩) (fun i_s r_s e1_s e2_s hi_s hr _ => ?_) (fun i_s r_s e1_s e2_s hi_s hr _ => ?_)
    · exact absurd (show okG ni nr x1_s x2_s by unfold okG; omega) w_s
    · exact absurd (show okG ni nr x1_s x2_s by unfold okG; omega) w_s
  · refine sp_212 (f_s := h_s.2.1) hk a5 hp (tC_M hc_s) (fun u_s => absurd (show okG ni nr x1_s x2_s by unfold okG; omega) u_s) (fun i1_s r1_s d1_s d2_s hi1 hr1 _ f1_s g_s => ⟨rfl, tX_fr (h_s := h_s) (fun _ => rfl) (fun a_s k_s qx => g_s a_s k_s (fun w_s => (inX_no qx).2.2.2.2.1 (by omega))) hx⟩) (fun i1_s r1_s d1_s d2_s hi1 hr1 w1_s => ?_)
    have ei : i1_s = i_s := by omega
    have er : r1_s = r_s := by omega
    subst ei
    subst er
    exact absurd w1_s w_s
  · have f1X : ∀ a_s k_s, ¬ a_s = 13 → ¬ a_s = 16 → ¬ a_s = 19 → ¬ (a_s = 20 + i_s ∧ (k_s = 2 ∨ k_s = 3)) → ¬ (a_s = 73 ∧ 2 ≤ k_s ∧ k_s ≤ 4) → f1_s a_s k_s = h_s.2.1 a_s k_s := g6
    have ho : ∀ a_s k_s, 100 ≤ a_s → f1_s a_s k_s = h_s.2.1 a_s k_s := fun a_s k_s ha_s => g6 a_s k_s (by omega) (by omega) (by omega) (by omega) (by omega)
    have eo : owI f1_s i_s = owI h_s.2.1 i_s := by
      funext k_s
      unfold owI
      rw [ho 103 _ (by omega), ho 103 _ (by omega), ho 103 _ (by omega)]
    have eg : goF lw f1_s (owI f1_s i_s) r_s = goF lw h_s.2.1 (owI h_s.2.1 i_s) r_s := by
      unfold goF
      rw [eo, ho 103 _ (by omega), ho 103 _ (by omega), ho 103 _ (by omega)]
    have a5' : lawR f1_s lw := lawR_fr (ho _ _ (by omega)) (fun k_s _ => ho _ _ (by omega)) a5
    have m1_s : tM nh ni nr f1_s := tM_fr (fun k_s _ _ => ho _ _ (by omega)) (fun k_s _ => ho _ _ (by omega)) (tC_M hc_s)
    have e80 : f1_s 103 (80 + r_s) = h_s.2.1 103 (80 + r_s) := ho _ _ (by omega)
    refine sp_212 (h_s := (h_s.1, f1_s, h_s.2.2.1, h_s.2.2.2)) (f_s := f1_s) hk a5' hp m1_s (fun u_s => absurd (show okG ni nr x1_s x2_s by unfold okG; omega) u_s) (fun i1_s r1_s d1_s d2_s hi1 hr1 w1_s => ?_) (fun i1_s r1_s d1_s d2_s hi1 hr1 w1_s v2 f2_s p1_s p2_s p3_s p4_s p5_s p6_s => ?_)
    · have ei : i1_s = i_s := by omega
      have er : r1_s = r_s := by omega
      subst ei
      subst er
      rw [eo, e80] at w1_s
      exact absurd w_s w1_s
    · have ei : i1_s = i_s := by omega
      have er : r1_s = r_s := by omega
      subst ei
      subst er
      rw [eg] at p1_s p2_s p3_s p5_s
      have ev_s : v_s = v2 := Int32.toInt_inj.mp (g1.trans p1_s.symm)
      refine ⟨ev_s, tX_upI (o := (goF lw h_s.2.1 (owI h_s.2.1 i1_s) r1_s).2.2) hc_s hh hi_ hz hl (by omega) (fun k_s hk6 => ⟨?_, p2_s k_s hk6⟩) (go_B (tC_oB hc_s hi_s)) (fun k_s k2_s k4_s => ?_) (fun _ => rfl) (fun a_s k_s qx s1_s s2_s s3_s => ?_)⟩
      · show f2_s (20 + i1_s) k_s = _
        rw [p6_s _ _ (by omega) (by omega) (by omega) (by omega) (by omega)]
        exact g2 k_s hk6
      · have hd2 : h_s.2.1 73 2 = h_s.2.1 119 2 := hd_s 2 (by omega) (by omega)
        have hd3 : h_s.2.1 73 3 = h_s.2.1 119 3 := hd_s 3 (by omega) (by omega)
        have hd4 : h_s.2.1 73 4 = h_s.2.1 119 4 := hd_s 4 (by omega) (by omega)
        have q73 : ∀ j_s, f2_s 73 j_s = f1_s 73 j_s := fun j_s => p6_s 73 j_s (by omega) (by omega) (by omega) (by omega) (by omega)
        have q119 : ∀ j_s, f1_s 119 j_s = h_s.2.1 119 j_s := fun j_s => ho 119 j_s (by omega)
        show f2_s 73 k_s = f2_s 119 k_s
        have ek : k_s = 2 ∨ k_s = 3 ∨ k_s = 4 := by omega
        rcases ek with e_s | e_s | e_s
        · rw [e_s, q73, g3_s, p3_s, q119, hd2]
        · rw [e_s, q73, g4, p4_s, q119, hd3, ev_s]
        · rw [e_s, q73, g5_s, p5_s, q119, hd4]
      · show f2_s a_s k_s = h_s.2.1 a_s k_s
        have qy : (¬ a_s = 111 ∧ ¬ a_s = 112 ∧ ¬ (a_s = 102 ∧ (15 ≤ k_s ∧ k_s ≤ 19 ∨ k_s = 22 ∨ k_s = 23))) ∧ (¬ a_s = 13 ∧ ¬ a_s = 16 ∧ ¬ a_s = 19) ∧ (a_s = 20 + i1_s → k_s < 7) := by
          unfold inX inC inH inI inD inZ inW at qx
          omega
        unfold inD at s3_s
        rw [p6_s a_s k_s qy.1.1 qy.1.2.1 qy.1.2.2 s2_s (by omega)]
        exact g6 a_s k_s qy.2.1.1 qy.2.1.2.1 qy.2.1.2.2 (by omega) (by omega)
end GS
/-! What ended runs give: printed by a program (wip/fun/sg.py). -/
/-- ColdShod.head(I)I, from 0 on -/
theorem sg_93_0 {F_s : Nat} {x1_s : Int32} {h_s : zH} {K_s : Int32 → zH → Prop} (hk : hKn h_s) (t_s : (x1_s.toInt < 0 → K_s (-1) h_s) ∧ (¬ x1_s.toInt < 0 → ((5 < x1_s.toInt → K_s (-1) h_s) ∧ (¬ 5 < x1_s.toInt → (((h_s.2.1 7 6).toInt < 6 → (zix (h_s.2.1 7 6) < 6 → K_s (h_s.2.1 7 6) (h_s.1, zup (zup (zup h_s.2.1 8 (zix (h_s.2.1 7 6)) x1_s) 9 (zix (h_s.2.1 7 6)) 6) 7 6 ((h_s.2.1 7 6) + 1), h_s.2.2.1, h_s.2.2.2))) ∧ (¬ (h_s.2.1 7 6).toInt < 6 → K_s (-3) h_s)))))) : wF (F_s + 1) 93 (0, [some (.ref 6), some (.int x1_s)], [], h_s) (gI K_s) := by
  refine w_0 (pc := 0) (e_s := (1, 1, 1, 0, 0, .null, [])) (y_s := (1, [some (.ref _), some (.int _)], [.int _], _)) rfl (u_ rfl) ?_
  refine wq2 (pc := 1) (len_s := 3) rfl rfl (fun c1_s => ?_) (fun c1_s => ?_)
  · replace t_s := t_s.1 c1_s
    refine w_t (pc := 9) (e_s := (0, 1, 0, 0, 0, .int (-1), [])) (y_s := (10, [some (.ref _), some (.int _)], [.int _], _)) rfl (u_ rfl) ?_
    exact wrI (pc := 10) (len_s := 1) rfl hk t_s
  · replace t_s := t_s.2 c1_s
    refine w_t (pc := 4) (e_s := (1, 1, 1, 0, 0, .null, [])) (y_s := (5, [some (.ref _), some (.int _)], [.int _], _)) rfl (u_ rfl) ?_
    refine w_t (pc := 5) (e_s := (0, 1, 0, 0, 0, .int 5, [])) (y_s := (6, [some (.ref _), some (.int _)], [.int _, .int _], _)) rfl (u_ rfl) ?_
    refine wi5 (pc := 6) (len_s := 3) (Y := 5) rfl rfl (by decide) (fun c2_s => ?_) (fun c2_s => ?_)
    · replace t_s := t_s.1 c2_s
      refine w_t (pc := 9) (e_s := (0, 1, 0, 0, 0, .int (-1), [])) (y_s := (10, [some (.ref _), some (.int _)], [.int _], _)) rfl (u_ rfl) ?_
      exact wrI (pc := 10) (len_s := 1) rfl hk t_s
    · replace t_s := t_s.2 c2_s
      refine w_t (pc := 11) (e_s := (3, 1, 0, 0, 0, .null, [])) (y_s := (12, [some (.ref _), some (.int _)], [.ref _], _)) rfl (u_ rfl) ?_
      refine w20r (pc := 12) (len_s := 3) (q_s := 7) rfl (krq hk rfl) ?_
      refine w20 (pc := 15) (len_s := 3) rfl ?_
      refine w_t (pc := 18) (e_s := (0, 2, 0, 0, 0, .int 6, [])) (y_s := (20, [some (.ref _), some (.int _)], [.int _, .int _], _)) rfl (u_ rfl) ?_
      refine wi2 (pc := 20) (len_s := 3) (Y := 6) rfl rfl (by decide) (fun c3_s => ?_) (fun c3_s => ?_)
      · replace t_s := t_s.1 c3_s
        refine w_t (pc := 26) (e_s := (3, 1, 0, 0, 0, .null, [])) (y_s := (27, [some (.ref _), some (.int _)], [.ref _], _)) rfl (u_ rfl) ?_
        refine w20r (pc := 27) (len_s := 3) (q_s := 7) rfl (krq hk rfl) ?_
        refine w20r (pc := 30) (len_s := 3) (q_s := 8) rfl (krq hk rfl) ?_
        refine w_t (pc := 33) (e_s := (3, 1, 0, 0, 0, .null, [])) (y_s := (34, [some (.ref _), some (.int _)], [.ref _, .ref _], _)) rfl (u_ rfl) ?_
        refine w20r (pc := 34) (len_s := 3) (q_s := 7) rfl (krq hk rfl) ?_
        refine w20 (pc := 37) (len_s := 3) rfl ?_
        refine w_t (pc := 40) (e_s := (1, 1, 1, 0, 0, .null, [])) (y_s := (41, [some (.ref _), some (.int _)], [.int _, .int _, .ref _], _)) rfl (u_ rfl) ?_
        refine w25 (pc := 41) (len_s := 1) rfl (hk.1 8 0 6 rfl rfl) (fun c4_s => ?_)
        replace t_s := t_s c4_s
        refine w_t (pc := 42) (e_s := (3, 1, 0, 0, 0, .null, [])) (y_s := (43, [some (.ref _), some (.int _)], [.ref _], _)) rfl (u_ rfl) ?_
        refine w20r (pc := 43) (len_s := 3) (q_s := 7) rfl (krq hk rfl) ?_
        refine w20r (pc := 46) (len_s := 3) (q_s := 9) rfl (krq hk rfl) ?_
        refine w_t (pc := 49) (e_s := (3, 1, 0, 0, 0, .null, [])) (y_s := (50, [some (.ref _), some (.int _)], [.ref _, .ref _], _)) rfl (u_ rfl) ?_
        refine w20r (pc := 50) (len_s := 3) (q_s := 7) rfl (krq hk rfl) ?_
        refine w20 (pc := 53) (len_s := 3) rfl ?_
        refine w_t (pc := 56) (e_s := (0, 2, 0, 0, 0, .int 6, [])) (y_s := (58, [some (.ref _), some (.int _)], [.int _, .int _, .ref _], _)) rfl (u_ rfl) ?_
        refine w25 (pc := 58) (len_s := 1) rfl (hk.1 9 0 6 rfl rfl) (fun c5_s => ?_)
        refine w_t (pc := 59) (e_s := (3, 1, 0, 0, 0, .null, [])) (y_s := (60, [some (.ref _), some (.int _)], [.ref _], _)) rfl (u_ rfl) ?_
        refine w20r (pc := 60) (len_s := 3) (q_s := 7) rfl (krq hk rfl) ?_
        refine w_t (pc := 63) (e_s := (39, 1, 0, 0, 0, .null, [])) (y_s := (64, [some (.ref _), some (.int _)], [.ref _, .ref _], _)) rfl (u_ rfl) ?_
        refine w20 (pc := 64) (len_s := 3) rfl ?_
        refine w_t (pc := 67) (e_s := (40, 1, 0, 0, 0, .null, [])) (y_s := (68, [some (.ref _), some (.int _)], [.int _, .ref _, .int _], _)) rfl (u_ rfl) ?_
        refine w_t (pc := 68) (e_s := (0, 1, 0, 0, 0, .int 1, [])) (y_s := (69, [some (.ref _), some (.int _)], [.int _, .int _, .ref _, .int _], _)) rfl (u_ rfl) ?_
        refine w_t (pc := 69) (e_s := (7, 1, 0, 0, 0, .null, [])) (y_s := (70, [some (.ref _), some (.int _)], [.int (_ + _), .ref _, .int _], _)) rfl (u_ rfl) ?_
        refine w21 (pc := 70) (len_s := 3) rfl ?_
        exact wrI (pc := 73) (len_s := 1) rfl hk t_s
      · replace t_s := t_s.2 c3_s
        refine w_t (pc := 23) (e_s := (0, 2, 0, 0, 0, .int (-3), [])) (y_s := (25, [some (.ref _), some (.int _)], [.int _], _)) rfl (u_ rfl) ?_
        exact wrI (pc := 25) (len_s := 1) rfl hk t_s
/-- ColdShodModel.head(I)I, from 0 on -/
theorem sg_155_0 {F_s : Nat} {x1_s : Int32} {h_s : zH} {K_s : Int32 → zH → Prop} (hk : hKn h_s) (t_s : (x1_s.toInt < 0 → K_s (-1) h_s) ∧ (¬ x1_s.toInt < 0 → ((5 < x1_s.toInt → K_s (-1) h_s) ∧ (¬ 5 < x1_s.toInt → (((h_s.2.1 102 6).toInt = 6 → K_s (-3) h_s) ∧ (¬ (h_s.2.1 102 6).toInt = 6 → (zix (h_s.2.1 102 6) < 104 → (zix (6 + (h_s.2.1 102 6)) < 104 → K_s (((h_s.2.1 102 6) + 1) - 1) (h_s.1, zup (zup (zup h_s.2.1 103 (zix (h_s.2.1 102 6)) x1_s) 103 (zix (6 + (h_s.2.1 102 6))) 6) 102 6 ((h_s.2.1 102 6) + 1), h_s.2.2.1, h_s.2.2.2))))))))) : wF (F_s + 1) 155 (0, [some (.ref 102), some (.int x1_s)], [], h_s) (gI K_s) := by
  refine w_0 (pc := 0) (e_s := (1, 1, 1, 0, 0, .null, [])) (y_s := (1, [some (.ref _), some (.int _)], [.int _], _)) rfl (u_ rfl) ?_
  refine w_t (pc := 1) (e_s := (10, 1, 0, 0, 0, .null, [])) (y_s := (2, [some (.ref _), some (.int _)], [.long (Int32.toInt64 _)], _)) rfl (u_ rfl) ?_
  refine w_t (pc := 2) (e_s := (0, 1, 0, 0, 0, .long 0, [])) (y_s := (3, [some (.ref _), some (.int _)], [.long _, .long _], _)) rfl (u_ rfl) ?_
  refine w_t (pc := 3) (e_s := (0, 3, 0, 0, 0, .long 5, [(0, 1063)])) (y_s := (6, [some (.ref _), some (.int _)], [.long _, .long _, .long _], _)) rfl (u_ rfl) ?_
  refine wcI (pc := 6) (len_s := 3) rfl rfl (l := [some (.long _), none, some (.long _), none, some (.long _), none]) rfl ?_
  refine w_t (pc := 0) (e_s := (2, 1, 0, 0, 0, .null, [])) (y_s := (1, [some (.long _), none, some (.long _), none, some (.long _), none], [.long _], _)) rfl (u_ rfl) ?_
  refine w_t (pc := 1) (e_s := (2, 1, 2, 0, 0, .null, [])) (y_s := (2, [some (.long _), none, some (.long _), none, some (.long _), none], [.long _, .long _], _)) rfl (u_ rfl) ?_
  refine w_t (pc := 2) (e_s := (14, 1, 0, 0, 0, .null, [])) (y_s := (3, [some (.long _), none, some (.long _), none, some (.long _), none], [.int (lg_cmp _ _)], _)) rfl (u_ rfl) ?_
  refine wl2 (pc := 3) (len_s := 3) (Y := 0) rfl (Int32.toInt_toInt64 _) (by decide) (fun c1_s => ?_) (fun c1_s => ?_)
  · replace t_s := t_s.1 c1_s
    refine w_t (pc := 17) (e_s := (0, 1, 0, 0, 0, .int 0, [])) (y_s := (18, [some (.long _), none, some (.long _), none, some (.long _), none], [.int _], _)) rfl (u_ rfl) ?_
    refine wrI (pc := 18) (len_s := 1) rfl hk ?_
    show wF _ 155 (9, [some (.ref _), some (.int _)], [.int _], _) _
    refine w_t (pc := 9) (e_s := (15, 3, 14, 1, 0, .null, [])) (y_s := (12, [some (.ref _), some (.int _)], [], _)) rfl (u_ rfl) ?_
    refine w_t (pc := 12) (e_s := (0, 1, 0, 0, 0, .int (-1), [])) (y_s := (13, [some (.ref _), some (.int _)], [.int _], _)) rfl (u_ rfl) ?_
    exact wrI (pc := 13) (len_s := 1) rfl hk t_s
  · replace t_s := t_s.2 c1_s
    refine w_t (pc := 6) (e_s := (2, 1, 0, 0, 0, .null, [])) (y_s := (7, [some (.long _), none, some (.long _), none, some (.long _), none], [.long _], _)) rfl (u_ rfl) ?_
    refine w_t (pc := 7) (e_s := (2, 2, 4, 0, 0, .null, [])) (y_s := (9, [some (.long _), none, some (.long _), none, some (.long _), none], [.long _, .long _], _)) rfl (u_ rfl) ?_
    refine w_t (pc := 9) (e_s := (14, 1, 0, 0, 0, .null, [])) (y_s := (10, [some (.long _), none, some (.long _), none, some (.long _), none], [.int (lg_cmp _ _)], _)) rfl (u_ rfl) ?_
    refine wl4 (pc := 10) (len_s := 3) (Y := 5) rfl (Int32.toInt_toInt64 _) (by decide) (fun c2_s => ?_) (fun c2_s => ?_)
    · replace t_s := t_s.1 c2_s
      refine w_t (pc := 17) (e_s := (0, 1, 0, 0, 0, .int 0, [])) (y_s := (18, [some (.long _), none, some (.long _), none, some (.long _), none], [.int _], _)) rfl (u_ rfl) ?_
      refine wrI (pc := 18) (len_s := 1) rfl hk ?_
      show wF _ 155 (9, [some (.ref _), some (.int _)], [.int _], _) _
      refine w_t (pc := 9) (e_s := (15, 3, 14, 1, 0, .null, [])) (y_s := (12, [some (.ref _), some (.int _)], [], _)) rfl (u_ rfl) ?_
      refine w_t (pc := 12) (e_s := (0, 1, 0, 0, 0, .int (-1), [])) (y_s := (13, [some (.ref _), some (.int _)], [.int _], _)) rfl (u_ rfl) ?_
      exact wrI (pc := 13) (len_s := 1) rfl hk t_s
    · replace t_s := t_s.2 c2_s
      refine w_t (pc := 13) (e_s := (0, 1, 0, 0, 0, .int 1, [])) (y_s := (14, [some (.long _), none, some (.long _), none, some (.long _), none], [.int _], _)) rfl (u_ rfl) ?_
      refine w_t (pc := 14) (e_s := (17, 3, 18, 0, 0, .null, [])) (y_s := (18, [some (.long _), none, some (.long _), none, some (.long _), none], [.int _], _)) rfl (u_ rfl) ?_
      refine wrI (pc := 18) (len_s := 1) rfl hk ?_
      show wF _ 155 (9, [some (.ref _), some (.int _)], [.int _], _) _
      refine w_t (pc := 9) (e_s := (15, 3, 14, 1, 0, .null, [])) (y_s := (14, [some (.ref _), some (.int _)], [], _)) rfl (u_ rfl) ?_
      refine w_t (pc := 14) (e_s := (3, 1, 0, 0, 0, .null, [])) (y_s := (15, [some (.ref _), some (.int _)], [.ref _], _)) rfl (u_ rfl) ?_
      refine w20 (pc := 15) (len_s := 3) rfl ?_
      refine w_t (pc := 18) (e_s := (0, 2, 0, 0, 0, .int 6, [])) (y_s := (20, [some (.ref _), some (.int _)], [.int _, .int _], _)) rfl (u_ rfl) ?_
      refine wi1 (pc := 20) (len_s := 3) (Y := 6) rfl rfl (by decide) (fun c3_s => ?_) (fun c3_s => ?_)
      · replace t_s := t_s.1 c3_s
        refine w_t (pc := 23) (e_s := (0, 2, 0, 0, 0, .int (-3), [])) (y_s := (25, [some (.ref _), some (.int _)], [.int _], _)) rfl (u_ rfl) ?_
        exact wrI (pc := 25) (len_s := 1) rfl hk t_s
      · replace t_s := t_s.2 c3_s
        refine w_t (pc := 26) (e_s := (3, 1, 0, 0, 0, .null, [])) (y_s := (27, [some (.ref _), some (.int _)], [.ref _], _)) rfl (u_ rfl) ?_
        refine w20r (pc := 27) (len_s := 3) (q_s := 103) rfl (krq hk rfl) ?_
        refine w_t (pc := 30) (e_s := (3, 1, 0, 0, 0, .null, [])) (y_s := (31, [some (.ref _), some (.int _)], [.ref _, .ref _], _)) rfl (u_ rfl) ?_
        refine w20 (pc := 31) (len_s := 3) rfl ?_
        refine w_t (pc := 34) (e_s := (1, 1, 1, 0, 0, .null, [])) (y_s := (35, [some (.ref _), some (.int _)], [.int _, .int _, .ref _], _)) rfl (u_ rfl) ?_
        refine w25 (pc := 35) (len_s := 1) rfl (hk.1 103 0 104 rfl rfl) (fun c4_s => ?_)
        replace t_s := t_s c4_s
        refine w_t (pc := 36) (e_s := (3, 1, 0, 0, 0, .null, [])) (y_s := (37, [some (.ref _), some (.int _)], [.ref _], _)) rfl (u_ rfl) ?_
        refine w20r (pc := 37) (len_s := 3) (q_s := 103) rfl (krq hk rfl) ?_
        refine w_t (pc := 40) (e_s := (0, 2, 0, 0, 0, .int 6, [])) (y_s := (42, [some (.ref _), some (.int _)], [.int _, .ref _], _)) rfl (u_ rfl) ?_
        refine w_t (pc := 42) (e_s := (3, 1, 0, 0, 0, .null, [])) (y_s := (43, [some (.ref _), some (.int _)], [.ref _, .int _, .ref _], _)) rfl (u_ rfl) ?_
        refine w20 (pc := 43) (len_s := 3) rfl ?_
        refine w_t (pc := 46) (e_s := (7, 1, 0, 0, 0, .null, [])) (y_s := (47, [some (.ref _), some (.int _)], [.int (_ + _), .ref _], _)) rfl (u_ rfl) ?_
        refine w_t (pc := 47) (e_s := (0, 2, 0, 0, 0, .int 6, [])) (y_s := (49, [some (.ref _), some (.int _)], [.int _, .int _, .ref _], _)) rfl (u_ rfl) ?_
        refine w25 (pc := 49) (len_s := 1) rfl (hk.1 103 0 104 rfl rfl) (fun c5_s => ?_)
        replace t_s := t_s c5_s
        refine w_t (pc := 50) (e_s := (3, 1, 0, 0, 0, .null, [])) (y_s := (51, [some (.ref _), some (.int _)], [.ref _], _)) rfl (u_ rfl) ?_
        refine w_t (pc := 51) (e_s := (39, 1, 0, 0, 0, .null, [])) (y_s := (52, [some (.ref _), some (.int _)], [.ref _, .ref _], _)) rfl (u_ rfl) ?_
        refine w20 (pc := 52) (len_s := 3) rfl ?_
        refine w_t (pc := 55) (e_s := (0, 1, 0, 0, 0, .int 1, [])) (y_s := (56, [some (.ref _), some (.int _)], [.int _, .int _, .ref _], _)) rfl (u_ rfl) ?_
        refine w_t (pc := 56) (e_s := (7, 1, 0, 0, 0, .null, [])) (y_s := (57, [some (.ref _), some (.int _)], [.int (_ + _), .ref _], _)) rfl (u_ rfl) ?_
        refine w21 (pc := 57) (len_s := 3) rfl ?_
        refine w_t (pc := 60) (e_s := (3, 1, 0, 0, 0, .null, [])) (y_s := (61, [some (.ref _), some (.int _)], [.ref _], _)) rfl (u_ rfl) ?_
        refine w20 (pc := 61) (len_s := 3) rfl ?_
        refine w_t (pc := 64) (e_s := (0, 1, 0, 0, 0, .int 1, [])) (y_s := (65, [some (.ref _), some (.int _)], [.int _, .int _], _)) rfl (u_ rfl) ?_
        refine w_t (pc := 65) (e_s := (7, 1, 0, 1, 0, .null, [])) (y_s := (66, [some (.ref _), some (.int _)], [.int (_ - _)], _)) rfl (u_ rfl) ?_
        exact wrI (pc := 66) (len_s := 1) rfl hk t_s
/-- ColdShod.idea(II)I, from 0 on -/
theorem sg_94_0 {F_s : Nat} {x1_s : Int32} {x2_s : Int32} {h_s : zH} {K_s : Int32 → zH → Prop} (hk : hKn h_s) (t_s : (x1_s.toInt < 0 → K_s (-1) h_s) ∧ (¬ x1_s.toInt < 0 → ((3 < x1_s.toInt → K_s (-1) h_s) ∧ (¬ 3 < x1_s.toInt → ((x2_s.toInt < 0 → K_s (-1) h_s) ∧ (¬ x2_s.toInt < 0 → ((5 < x2_s.toInt → K_s (-1) h_s) ∧ (¬ 5 < x2_s.toInt → (((h_s.2.1 7 7).toInt < 8 → (zix (h_s.2.1 7 7) < 8 → K_s ((zup (zup h_s.2.1 (20 + (zix (h_s.2.1 7 7))) 0 x1_s) (20 + (zix (h_s.2.1 7 7))) 1 x2_s) 7 7) (h_s.1, zup (zup (zup h_s.2.1 (20 + (zix (h_s.2.1 7 7))) 0 x1_s) (20 + (zix (h_s.2.1 7 7))) 1 x2_s) 7 7 (((zup (zup h_s.2.1 (20 + (zix (h_s.2.1 7 7))) 0 x1_s) (20 + (zix (h_s.2.1 7 7))) 1 x2_s) 7 7) + 1), h_s.2.2.1, h_s.2.2.2))) ∧ (¬ (h_s.2.1 7 7).toInt < 8 → K_s (-3) h_s)))))))))) : wF (F_s + 1) 94 (0, [some (.ref 6), some (.int x1_s), some (.int x2_s), none], [], h_s) (gI K_s) := by
  refine w_0 (pc := 0) (e_s := (1, 1, 1, 0, 0, .null, [])) (y_s := (1, [some (.ref _), some (.int _), some (.int _), none], [.int _], _)) rfl (u_ rfl) ?_
  refine wq2 (pc := 1) (len_s := 3) rfl rfl (fun c1_s => ?_) (fun c1_s => ?_)
  · replace t_s := t_s.1 c1_s
    refine w_t (pc := 18) (e_s := (0, 1, 0, 0, 0, .int (-1), [])) (y_s := (19, [some (.ref _), some (.int _), some (.int _), none], [.int _], _)) rfl (u_ rfl) ?_
    exact wrI (pc := 19) (len_s := 1) rfl hk t_s
  · replace t_s := t_s.2 c1_s
    refine w_t (pc := 4) (e_s := (1, 1, 1, 0, 0, .null, [])) (y_s := (5, [some (.ref _), some (.int _), some (.int _), none], [.int _], _)) rfl (u_ rfl) ?_
    refine w_t (pc := 5) (e_s := (0, 1, 0, 0, 0, .int 3, [])) (y_s := (6, [some (.ref _), some (.int _), some (.int _), none], [.int _, .int _], _)) rfl (u_ rfl) ?_
    refine wi4 (pc := 6) (len_s := 3) (Y := 3) rfl rfl (by decide) (fun c2_s => ?_) (fun c2_s => ?_)
    · replace t_s := t_s.1 c2_s
      refine w_t (pc := 18) (e_s := (0, 1, 0, 0, 0, .int (-1), [])) (y_s := (19, [some (.ref _), some (.int _), some (.int _), none], [.int _], _)) rfl (u_ rfl) ?_
      exact wrI (pc := 19) (len_s := 1) rfl hk t_s
    · replace t_s := t_s.2 c2_s
      refine w_t (pc := 9) (e_s := (1, 1, 2, 0, 0, .null, [])) (y_s := (10, [some (.ref _), some (.int _), some (.int _), none], [.int _], _)) rfl (u_ rfl) ?_
      refine wq2 (pc := 10) (len_s := 3) rfl rfl (fun c3_s => ?_) (fun c3_s => ?_)
      · replace t_s := t_s.1 c3_s
        refine w_t (pc := 18) (e_s := (0, 1, 0, 0, 0, .int (-1), [])) (y_s := (19, [some (.ref _), some (.int _), some (.int _), none], [.int _], _)) rfl (u_ rfl) ?_
        exact wrI (pc := 19) (len_s := 1) rfl hk t_s
      · replace t_s := t_s.2 c3_s
        refine w_t (pc := 13) (e_s := (1, 1, 2, 0, 0, .null, [])) (y_s := (14, [some (.ref _), some (.int _), some (.int _), none], [.int _], _)) rfl (u_ rfl) ?_
        refine w_t (pc := 14) (e_s := (0, 1, 0, 0, 0, .int 5, [])) (y_s := (15, [some (.ref _), some (.int _), some (.int _), none], [.int _, .int _], _)) rfl (u_ rfl) ?_
        refine wi5 (pc := 15) (len_s := 3) (Y := 5) rfl rfl (by decide) (fun c4_s => ?_) (fun c4_s => ?_)
        · replace t_s := t_s.1 c4_s
          refine w_t (pc := 18) (e_s := (0, 1, 0, 0, 0, .int (-1), [])) (y_s := (19, [some (.ref _), some (.int _), some (.int _), none], [.int _], _)) rfl (u_ rfl) ?_
          exact wrI (pc := 19) (len_s := 1) rfl hk t_s
        · replace t_s := t_s.2 c4_s
          refine w_t (pc := 20) (e_s := (3, 1, 0, 0, 0, .null, [])) (y_s := (21, [some (.ref _), some (.int _), some (.int _), none], [.ref _], _)) rfl (u_ rfl) ?_
          refine w20r (pc := 21) (len_s := 3) (q_s := 7) rfl (krq hk rfl) ?_
          refine w20 (pc := 24) (len_s := 3) rfl ?_
          refine w_t (pc := 27) (e_s := (0, 2, 0, 0, 0, .int 8, [])) (y_s := (29, [some (.ref _), some (.int _), some (.int _), none], [.int _, .int _], _)) rfl (u_ rfl) ?_
          refine wi2 (pc := 29) (len_s := 3) (Y := 8) rfl rfl (by decide) (fun c5_s => ?_) (fun c5_s => ?_)
          · replace t_s := t_s.1 c5_s
            refine w_t (pc := 35) (e_s := (3, 1, 0, 0, 0, .null, [])) (y_s := (36, [some (.ref _), some (.int _), some (.int _), none], [.ref _], _)) rfl (u_ rfl) ?_
            refine w20r (pc := 36) (len_s := 3) (q_s := 7) rfl (krq hk rfl) ?_
            refine w20r (pc := 39) (len_s := 3) (q_s := 10) rfl (krq hk rfl) ?_
            refine w_t (pc := 42) (e_s := (3, 1, 0, 0, 0, .null, [])) (y_s := (43, [some (.ref _), some (.int _), some (.int _), none], [.ref _, .ref _], _)) rfl (u_ rfl) ?_
            refine w20r (pc := 43) (len_s := 3) (q_s := 7) rfl (krq hk rfl) ?_
            refine w20 (pc := 46) (len_s := 3) rfl ?_
            refine w24 (g_s := fun j_ => 20 + j_) (pc := 49) (len_s := 1) hk rfl (hk.1 10 2 8 rfl rfl) kg10 (fun c6_s => ?_)
            replace t_s := t_s c6_s
            refine w_t (pc := 50) (e_s := (6, 1, 3, 0, 0, .null, [])) (y_s := (51, [some (.ref _), some (.int _), some (.int _), some (.ref _)], [], _)) rfl (u_ rfl) ?_
            refine w_t (pc := 51) (e_s := (3, 1, 3, 0, 0, .null, [])) (y_s := (52, [some (.ref _), some (.int _), some (.int _), some (.ref _)], [.ref _], _)) rfl (u_ rfl) ?_
            refine w_t (pc := 52) (e_s := (1, 1, 1, 0, 0, .null, [])) (y_s := (53, [some (.ref _), some (.int _), some (.int _), some (.ref _)], [.int _, .ref _], _)) rfl (u_ rfl) ?_
            refine w21 (pc := 53) (len_s := 3) rfl ?_
            refine w_t (pc := 56) (e_s := (3, 1, 3, 0, 0, .null, [])) (y_s := (57, [some (.ref _), some (.int _), some (.int _), some (.ref _)], [.ref _], _)) rfl (u_ rfl) ?_
            refine w_t (pc := 57) (e_s := (1, 1, 2, 0, 0, .null, [])) (y_s := (58, [some (.ref _), some (.int _), some (.int _), some (.ref _)], [.int _, .ref _], _)) rfl (u_ rfl) ?_
            refine w21 (pc := 58) (len_s := 3) rfl ?_
            refine w_t (pc := 61) (e_s := (3, 1, 0, 0, 0, .null, [])) (y_s := (62, [some (.ref _), some (.int _), some (.int _), some (.ref _)], [.ref _], _)) rfl (u_ rfl) ?_
            refine w20r (pc := 62) (len_s := 3) (q_s := 7) rfl (krq hk rfl) ?_
            refine w_t (pc := 65) (e_s := (39, 1, 0, 0, 0, .null, [])) (y_s := (66, [some (.ref _), some (.int _), some (.int _), some (.ref _)], [.ref _, .ref _], _)) rfl (u_ rfl) ?_
            refine w20 (pc := 66) (len_s := 3) rfl ?_
            refine w_t (pc := 69) (e_s := (40, 1, 0, 0, 0, .null, [])) (y_s := (70, [some (.ref _), some (.int _), some (.int _), some (.ref _)], [.int _, .ref _, .int _], _)) rfl (u_ rfl) ?_
            refine w_t (pc := 70) (e_s := (0, 1, 0, 0, 0, .int 1, [])) (y_s := (71, [some (.ref _), some (.int _), some (.int _), some (.ref _)], [.int _, .int _, .ref _, .int _], _)) rfl (u_ rfl) ?_
            refine w_t (pc := 71) (e_s := (7, 1, 0, 0, 0, .null, [])) (y_s := (72, [some (.ref _), some (.int _), some (.int _), some (.ref _)], [.int (_ + _), .ref _, .int _], _)) rfl (u_ rfl) ?_
            refine w21 (pc := 72) (len_s := 3) rfl ?_
            exact wrI (pc := 75) (len_s := 1) rfl hk t_s
          · replace t_s := t_s.2 c5_s
            refine w_t (pc := 32) (e_s := (0, 2, 0, 0, 0, .int (-3), [])) (y_s := (34, [some (.ref _), some (.int _), some (.int _), none], [.int _], _)) rfl (u_ rfl) ?_
            exact wrI (pc := 34) (len_s := 1) rfl hk t_s
/-- ColdShodModel.idea(II)I, from 0 on -/
theorem sg_156_0 {F_s : Nat} {x1_s : Int32} {x2_s : Int32} {h_s : zH} {K_s : Int32 → zH → Prop} (hk : hKn h_s) (t_s : (x1_s.toInt < 0 → K_s (-1) h_s) ∧ (¬ x1_s.toInt < 0 → ((3 < x1_s.toInt → K_s (-1) h_s) ∧ (¬ 3 < x1_s.toInt → ((x2_s.toInt < 0 → K_s (-1) h_s) ∧ (¬ x2_s.toInt < 0 → ((5 < x2_s.toInt → K_s (-1) h_s) ∧ (¬ 5 < x2_s.toInt → (((h_s.2.1 102 7).toInt = 8 → K_s (-3) h_s) ∧ (¬ (h_s.2.1 102 7).toInt = 8 → (zix (12 + (h_s.2.1 102 7)) < 104 → (zix (20 + (h_s.2.1 102 7)) < 104 → (zix (60 + (h_s.2.1 102 7)) < 104 → K_s (((h_s.2.1 102 7) + 1) - 1) (h_s.1, zup (zup (zup (zup h_s.2.1 103 (zix (12 + (h_s.2.1 102 7))) x1_s) 103 (zix (20 + (h_s.2.1 102 7))) x2_s) 103 (zix (60 + (h_s.2.1 102 7))) (-1)) 102 7 ((h_s.2.1 102 7) + 1), h_s.2.2.1, h_s.2.2.2)))))))))))))) : wF (F_s + 1) 156 (0, [some (.ref 102), some (.int x1_s), some (.int x2_s)], [], h_s) (gI K_s) := by
  refine w_0 (pc := 0) (e_s := (1, 1, 1, 0, 0, .null, [])) (y_s := (1, [some (.ref _), some (.int _), some (.int _)], [.int _], _)) rfl (u_ rfl) ?_
  refine w_t (pc := 1) (e_s := (10, 1, 0, 0, 0, .null, [])) (y_s := (2, [some (.ref _), some (.int _), some (.int _)], [.long (Int32.toInt64 _)], _)) rfl (u_ rfl) ?_
  refine w_t (pc := 2) (e_s := (0, 1, 0, 0, 0, .long 0, [])) (y_s := (3, [some (.ref _), some (.int _), some (.int _)], [.long _, .long _], _)) rfl (u_ rfl) ?_
  refine w_t (pc := 3) (e_s := (0, 3, 0, 0, 0, .long 3, [(0, 1064)])) (y_s := (6, [some (.ref _), some (.int _), some (.int _)], [.long _, .long _, .long _], _)) rfl (u_ rfl) ?_
  refine wcI (pc := 6) (len_s := 3) rfl rfl (l := [some (.long _), none, some (.long _), none, some (.long _), none]) rfl ?_
  refine w_t (pc := 0) (e_s := (2, 1, 0, 0, 0, .null, [])) (y_s := (1, [some (.long _), none, some (.long _), none, some (.long _), none], [.long _], _)) rfl (u_ rfl) ?_
  refine w_t (pc := 1) (e_s := (2, 1, 2, 0, 0, .null, [])) (y_s := (2, [some (.long _), none, some (.long _), none, some (.long _), none], [.long _, .long _], _)) rfl (u_ rfl) ?_
  refine w_t (pc := 2) (e_s := (14, 1, 0, 0, 0, .null, [])) (y_s := (3, [some (.long _), none, some (.long _), none, some (.long _), none], [.int (lg_cmp _ _)], _)) rfl (u_ rfl) ?_
  refine wl2 (pc := 3) (len_s := 3) (Y := 0) rfl (Int32.toInt_toInt64 _) (by decide) (fun c1_s => ?_) (fun c1_s => ?_)
  · replace t_s := t_s.1 c1_s
    refine w_t (pc := 17) (e_s := (0, 1, 0, 0, 0, .int 0, [])) (y_s := (18, [some (.long _), none, some (.long _), none, some (.long _), none], [.int _], _)) rfl (u_ rfl) ?_
    refine wrI (pc := 18) (len_s := 1) rfl hk ?_
    show wF _ 156 (9, [some (.ref _), some (.int _), some (.int _)], [.int _], _) _
    refine w_t (pc := 9) (e_s := (15, 3, 24, 0, 0, .null, [])) (y_s := (24, [some (.ref _), some (.int _), some (.int _)], [], _)) rfl (u_ rfl) ?_
    refine w_t (pc := 24) (e_s := (0, 1, 0, 0, 0, .int (-1), [])) (y_s := (25, [some (.ref _), some (.int _), some (.int _)], [.int _], _)) rfl (u_ rfl) ?_
    exact wrI (pc := 25) (len_s := 1) rfl hk t_s
  · replace t_s := t_s.2 c1_s
    refine w_t (pc := 6) (e_s := (2, 1, 0, 0, 0, .null, [])) (y_s := (7, [some (.long _), none, some (.long _), none, some (.long _), none], [.long _], _)) rfl (u_ rfl) ?_
    refine w_t (pc := 7) (e_s := (2, 2, 4, 0, 0, .null, [])) (y_s := (9, [some (.long _), none, some (.long _), none, some (.long _), none], [.long _, .long _], _)) rfl (u_ rfl) ?_
    refine w_t (pc := 9) (e_s := (14, 1, 0, 0, 0, .null, [])) (y_s := (10, [some (.long _), none, some (.long _), none, some (.long _), none], [.int (lg_cmp _ _)], _)) rfl (u_ rfl) ?_
    refine wl4 (pc := 10) (len_s := 3) (Y := 3) rfl (Int32.toInt_toInt64 _) (by decide) (fun c2_s => ?_) (fun c2_s => ?_)
    · replace t_s := t_s.1 c2_s
      refine w_t (pc := 17) (e_s := (0, 1, 0, 0, 0, .int 0, [])) (y_s := (18, [some (.long _), none, some (.long _), none, some (.long _), none], [.int _], _)) rfl (u_ rfl) ?_
      refine wrI (pc := 18) (len_s := 1) rfl hk ?_
      show wF _ 156 (9, [some (.ref _), some (.int _), some (.int _)], [.int _], _) _
      refine w_t (pc := 9) (e_s := (15, 3, 24, 0, 0, .null, [])) (y_s := (24, [some (.ref _), some (.int _), some (.int _)], [], _)) rfl (u_ rfl) ?_
      refine w_t (pc := 24) (e_s := (0, 1, 0, 0, 0, .int (-1), [])) (y_s := (25, [some (.ref _), some (.int _), some (.int _)], [.int _], _)) rfl (u_ rfl) ?_
      exact wrI (pc := 25) (len_s := 1) rfl hk t_s
    · replace t_s := t_s.2 c2_s
      refine w_t (pc := 13) (e_s := (0, 1, 0, 0, 0, .int 1, [])) (y_s := (14, [some (.long _), none, some (.long _), none, some (.long _), none], [.int _], _)) rfl (u_ rfl) ?_
      refine w_t (pc := 14) (e_s := (17, 3, 18, 0, 0, .null, [])) (y_s := (18, [some (.long _), none, some (.long _), none, some (.long _), none], [.int _], _)) rfl (u_ rfl) ?_
      refine wrI (pc := 18) (len_s := 1) rfl hk ?_
      show wF _ 156 (9, [some (.ref _), some (.int _), some (.int _)], [.int _], _) _
      refine w_t (pc := 9) (e_s := (15, 3, 24, 0, 0, .null, [])) (y_s := (12, [some (.ref _), some (.int _), some (.int _)], [], _)) rfl (u_ rfl) ?_
      refine w_t (pc := 12) (e_s := (1, 1, 2, 0, 0, .null, [])) (y_s := (13, [some (.ref _), some (.int _), some (.int _)], [.int _], _)) rfl (u_ rfl) ?_
      refine w_t (pc := 13) (e_s := (10, 1, 0, 0, 0, .null, [])) (y_s := (14, [some (.ref _), some (.int _), some (.int _)], [.long (Int32.toInt64 _)], _)) rfl (u_ rfl) ?_
      refine w_t (pc := 14) (e_s := (0, 1, 0, 0, 0, .long 0, [])) (y_s := (15, [some (.ref _), some (.int _), some (.int _)], [.long _, .long _], _)) rfl (u_ rfl) ?_
      refine w_t (pc := 15) (e_s := (0, 3, 0, 0, 0, .long 5, [(0, 1063)])) (y_s := (18, [some (.ref _), some (.int _), some (.int _)], [.long _, .long _, .long _], _)) rfl (u_ rfl) ?_
      refine wcI (pc := 18) (len_s := 3) rfl rfl (l := [some (.long _), none, some (.long _), none, some (.long _), none]) rfl ?_
      refine w_t (pc := 0) (e_s := (2, 1, 0, 0, 0, .null, [])) (y_s := (1, [some (.long _), none, some (.long _), none, some (.long _), none], [.long _], _)) rfl (u_ rfl) ?_
      refine w_t (pc := 1) (e_s := (2, 1, 2, 0, 0, .null, [])) (y_s := (2, [some (.long _), none, some (.long _), none, some (.long _), none], [.long _, .long _], _)) rfl (u_ rfl) ?_
      refine w_t (pc := 2) (e_s := (14, 1, 0, 0, 0, .null, [])) (y_s := (3, [some (.long _), none, some (.long _), none, some (.long _), none], [.int (lg_cmp _ _)], _)) rfl (u_ rfl) ?_
      refine wl2 (pc := 3) (len_s := 3) (Y := 0) rfl (Int32.toInt_toInt64 _) (by decide) (fun c3_s => ?_) (fun c3_s => ?_)
      · replace t_s := t_s.1 c3_s
        refine w_t (pc := 17) (e_s := (0, 1, 0, 0, 0, .int 0, [])) (y_s := (18, [some (.long _), none, some (.long _), none, some (.long _), none], [.int _], _)) rfl (u_ rfl) ?_
        refine wrI (pc := 18) (len_s := 1) rfl hk ?_
        show wF _ 156 (21, [some (.ref _), some (.int _), some (.int _)], [.int _], _) _
        refine w_t (pc := 21) (e_s := (15, 3, 26, 1, 0, .null, [])) (y_s := (24, [some (.ref _), some (.int _), some (.int _)], [], _)) rfl (u_ rfl) ?_
        refine w_t (pc := 24) (e_s := (0, 1, 0, 0, 0, .int (-1), [])) (y_s := (25, [some (.ref _), some (.int _), some (.int _)], [.int _], _)) rfl (u_ rfl) ?_
        exact wrI (pc := 25) (len_s := 1) rfl hk t_s
      · replace t_s := t_s.2 c3_s
        refine w_t (pc := 6) (e_s := (2, 1, 0, 0, 0, .null, [])) (y_s := (7, [some (.long _), none, some (.long _), none, some (.long _), none], [.long _], _)) rfl (u_ rfl) ?_
        refine w_t (pc := 7) (e_s := (2, 2, 4, 0, 0, .null, [])) (y_s := (9, [some (.long _), none, some (.long _), none, some (.long _), none], [.long _, .long _], _)) rfl (u_ rfl) ?_
        refine w_t (pc := 9) (e_s := (14, 1, 0, 0, 0, .null, [])) (y_s := (10, [some (.long _), none, some (.long _), none, some (.long _), none], [.int (lg_cmp _ _)], _)) rfl (u_ rfl) ?_
        refine wl4 (pc := 10) (len_s := 3) (Y := 5) rfl (Int32.toInt_toInt64 _) (by decide) (fun c4_s => ?_) (fun c4_s => ?_)
        · replace t_s := t_s.1 c4_s
          refine w_t (pc := 17) (e_s := (0, 1, 0, 0, 0, .int 0, [])) (y_s := (18, [some (.long _), none, some (.long _), none, some (.long _), none], [.int _], _)) rfl (u_ rfl) ?_
          refine wrI (pc := 18) (len_s := 1) rfl hk ?_
          show wF _ 156 (21, [some (.ref _), some (.int _), some (.int _)], [.int _], _) _
          refine w_t (pc := 21) (e_s := (15, 3, 26, 1, 0, .null, [])) (y_s := (24, [some (.ref _), some (.int _), some (.int _)], [], _)) rfl (u_ rfl) ?_
          refine w_t (pc := 24) (e_s := (0, 1, 0, 0, 0, .int (-1), [])) (y_s := (25, [some (.ref _), some (.int _), some (.int _)], [.int _], _)) rfl (u_ rfl) ?_
          exact wrI (pc := 25) (len_s := 1) rfl hk t_s
        · replace t_s := t_s.2 c4_s
          refine w_t (pc := 13) (e_s := (0, 1, 0, 0, 0, .int 1, [])) (y_s := (14, [some (.long _), none, some (.long _), none, some (.long _), none], [.int _], _)) rfl (u_ rfl) ?_
          refine w_t (pc := 14) (e_s := (17, 3, 18, 0, 0, .null, [])) (y_s := (18, [some (.long _), none, some (.long _), none, some (.long _), none], [.int _], _)) rfl (u_ rfl) ?_
          refine wrI (pc := 18) (len_s := 1) rfl hk ?_
          show wF _ 156 (21, [some (.ref _), some (.int _), some (.int _)], [.int _], _) _
          refine w_t (pc := 21) (e_s := (15, 3, 26, 1, 0, .null, [])) (y_s := (26, [some (.ref _), some (.int _), some (.int _)], [], _)) rfl (u_ rfl) ?_
          refine w_t (pc := 26) (e_s := (3, 1, 0, 0, 0, .null, [])) (y_s := (27, [some (.ref _), some (.int _), some (.int _)], [.ref _], _)) rfl (u_ rfl) ?_
          refine w20 (pc := 27) (len_s := 3) rfl ?_
          refine w_t (pc := 30) (e_s := (0, 2, 0, 0, 0, .int 8, [])) (y_s := (32, [some (.ref _), some (.int _), some (.int _)], [.int _, .int _], _)) rfl (u_ rfl) ?_
          refine wi1 (pc := 32) (len_s := 3) (Y := 8) rfl rfl (by decide) (fun c5_s => ?_) (fun c5_s => ?_)
          · replace t_s := t_s.1 c5_s
            refine w_t (pc := 35) (e_s := (0, 2, 0, 0, 0, .int (-3), [])) (y_s := (37, [some (.ref _), some (.int _), some (.int _)], [.int _], _)) rfl (u_ rfl) ?_
            exact wrI (pc := 37) (len_s := 1) rfl hk t_s
          · replace t_s := t_s.2 c5_s
            refine w_t (pc := 38) (e_s := (3, 1, 0, 0, 0, .null, [])) (y_s := (39, [some (.ref _), some (.int _), some (.int _)], [.ref _], _)) rfl (u_ rfl) ?_
            refine w20r (pc := 39) (len_s := 3) (q_s := 103) rfl (krq hk rfl) ?_
            refine w_t (pc := 42) (e_s := (0, 2, 0, 0, 0, .int 12, [])) (y_s := (44, [some (.ref _), some (.int _), some (.int _)], [.int _, .ref _], _)) rfl (u_ rfl) ?_
            refine w_t (pc := 44) (e_s := (3, 1, 0, 0, 0, .null, [])) (y_s := (45, [some (.ref _), some (.int _), some (.int _)], [.ref _, .int _, .ref _], _)) rfl (u_ rfl) ?_
            refine w20 (pc := 45) (len_s := 3) rfl ?_
            refine w_t (pc := 48) (e_s := (7, 1, 0, 0, 0, .null, [])) (y_s := (49, [some (.ref _), some (.int _), some (.int _)], [.int (_ + _), .ref _], _)) rfl (u_ rfl) ?_
            refine w_t (pc := 49) (e_s := (1, 1, 1, 0, 0, .null, [])) (y_s := (50, [some (.ref _), some (.int _), some (.int _)], [.int _, .int _, .ref _], _)) rfl (u_ rfl) ?_
            refine w25 (pc := 50) (len_s := 1) rfl (hk.1 103 0 104 rfl rfl) (fun c6_s => ?_)
            replace t_s := t_s c6_s
            refine w_t (pc := 51) (e_s := (3, 1, 0, 0, 0, .null, [])) (y_s := (52, [some (.ref _), some (.int _), some (.int _)], [.ref _], _)) rfl (u_ rfl) ?_
            refine w20r (pc := 52) (len_s := 3) (q_s := 103) rfl (krq hk rfl) ?_
            refine w_t (pc := 55) (e_s := (0, 2, 0, 0, 0, .int 20, [])) (y_s := (57, [some (.ref _), some (.int _), some (.int _)], [.int _, .ref _], _)) rfl (u_ rfl) ?_
            refine w_t (pc := 57) (e_s := (3, 1, 0, 0, 0, .null, [])) (y_s := (58, [some (.ref _), some (.int _), some (.int _)], [.ref _, .int _, .ref _], _)) rfl (u_ rfl) ?_
            refine w20 (pc := 58) (len_s := 3) rfl ?_
            refine w_t (pc := 61) (e_s := (7, 1, 0, 0, 0, .null, [])) (y_s := (62, [some (.ref _), some (.int _), some (.int _)], [.int (_ + _), .ref _], _)) rfl (u_ rfl) ?_
            refine w_t (pc := 62) (e_s := (1, 1, 2, 0, 0, .null, [])) (y_s := (63, [some (.ref _), some (.int _), some (.int _)], [.int _, .int _, .ref _], _)) rfl (u_ rfl) ?_
            refine w25 (pc := 63) (len_s := 1) rfl (hk.1 103 0 104 rfl rfl) (fun c7_s => ?_)
            replace t_s := t_s c7_s
            refine w_t (pc := 64) (e_s := (3, 1, 0, 0, 0, .null, [])) (y_s := (65, [some (.ref _), some (.int _), some (.int _)], [.ref _], _)) rfl (u_ rfl) ?_
            refine w20r (pc := 65) (len_s := 3) (q_s := 103) rfl (krq hk rfl) ?_
            refine w_t (pc := 68) (e_s := (0, 2, 0, 0, 0, .int 60, [])) (y_s := (70, [some (.ref _), some (.int _), some (.int _)], [.int _, .ref _], _)) rfl (u_ rfl) ?_
            refine w_t (pc := 70) (e_s := (3, 1, 0, 0, 0, .null, [])) (y_s := (71, [some (.ref _), some (.int _), some (.int _)], [.ref _, .int _, .ref _], _)) rfl (u_ rfl) ?_
            refine w20 (pc := 71) (len_s := 3) rfl ?_
            refine w_t (pc := 74) (e_s := (7, 1, 0, 0, 0, .null, [])) (y_s := (75, [some (.ref _), some (.int _), some (.int _)], [.int (_ + _), .ref _], _)) rfl (u_ rfl) ?_
            refine w_t (pc := 75) (e_s := (0, 1, 0, 0, 0, .int (-1), [])) (y_s := (76, [some (.ref _), some (.int _), some (.int _)], [.int _, .int _, .ref _], _)) rfl (u_ rfl) ?_
            refine w25 (pc := 76) (len_s := 1) rfl (hk.1 103 0 104 rfl rfl) (fun c8_s => ?_)
            replace t_s := t_s c8_s
            refine w_t (pc := 77) (e_s := (3, 1, 0, 0, 0, .null, [])) (y_s := (78, [some (.ref _), some (.int _), some (.int _)], [.ref _], _)) rfl (u_ rfl) ?_
            refine w_t (pc := 78) (e_s := (39, 1, 0, 0, 0, .null, [])) (y_s := (79, [some (.ref _), some (.int _), some (.int _)], [.ref _, .ref _], _)) rfl (u_ rfl) ?_
            refine w20 (pc := 79) (len_s := 3) rfl ?_
            refine w_t (pc := 82) (e_s := (0, 1, 0, 0, 0, .int 1, [])) (y_s := (83, [some (.ref _), some (.int _), some (.int _)], [.int _, .int _, .ref _], _)) rfl (u_ rfl) ?_
            refine w_t (pc := 83) (e_s := (7, 1, 0, 0, 0, .null, [])) (y_s := (84, [some (.ref _), some (.int _), some (.int _)], [.int (_ + _), .ref _], _)) rfl (u_ rfl) ?_
            refine w21 (pc := 84) (len_s := 3) rfl ?_
            refine w_t (pc := 87) (e_s := (3, 1, 0, 0, 0, .null, [])) (y_s := (88, [some (.ref _), some (.int _), some (.int _)], [.ref _], _)) rfl (u_ rfl) ?_
            refine w20 (pc := 88) (len_s := 3) rfl ?_
            refine w_t (pc := 91) (e_s := (0, 1, 0, 0, 0, .int 1, [])) (y_s := (92, [some (.ref _), some (.int _), some (.int _)], [.int _, .int _], _)) rfl (u_ rfl) ?_
            refine w_t (pc := 92) (e_s := (7, 1, 0, 1, 0, .null, [])) (y_s := (93, [some (.ref _), some (.int _), some (.int _)], [.int (_ - _)], _)) rfl (u_ rfl) ?_
            exact wrI (pc := 93) (len_s := 1) rfl hk t_s
/-- ColdShod$Idea.become(LColdShod$Idea;)V, from 0 on -/
theorem sg_35_0 {F_s : Nat} {d_s e_s : Nat} {h_s : zH} {K_s : zH → Prop} (hk : hKn h_s) (t_s : K_s (h_s.1, zup (zup (zup (zup (zup (zup (zup h_s.2.1 d_s 0 (h_s.2.1 e_s 0)) d_s 4 ((zup h_s.2.1 d_s 0 (h_s.2.1 e_s 0)) e_s 4)) d_s 1 ((zup (zup h_s.2.1 d_s 0 (h_s.2.1 e_s 0)) d_s 4 ((zup h_s.2.1 d_s 0 (h_s.2.1 e_s 0)) e_s 4)) e_s 1)) d_s 2 ((zup (zup (zup h_s.2.1 d_s 0 (h_s.2.1 e_s 0)) d_s 4 ((zup h_s.2.1 d_s 0 (h_s.2.1 e_s 0)) e_s 4)) d_s 1 ((zup (zup h_s.2.1 d_s 0 (h_s.2.1 e_s 0)) d_s 4 ((zup h_s.2.1 d_s 0 (h_s.2.1 e_s 0)) e_s 4)) e_s 1)) e_s 2)) d_s 3 ((zup (zup (zup (zup h_s.2.1 d_s 0 (h_s.2.1 e_s 0)) d_s 4 ((zup h_s.2.1 d_s 0 (h_s.2.1 e_s 0)) e_s 4)) d_s 1 ((zup (zup h_s.2.1 d_s 0 (h_s.2.1 e_s 0)) d_s 4 ((zup h_s.2.1 d_s 0 (h_s.2.1 e_s 0)) e_s 4)) e_s 1)) d_s 2 ((zup (zup (zup h_s.2.1 d_s 0 (h_s.2.1 e_s 0)) d_s 4 ((zup h_s.2.1 d_s 0 (h_s.2.1 e_s 0)) e_s 4)) d_s 1 ((zup (zup h_s.2.1 d_s 0 (h_s.2.1 e_s 0)) d_s 4 ((zup h_s.2.1 d_s 0 (h_s.2.1 e_s 0)) e_s 4)) e_s 1)) e_s 2)) e_s 3)) d_s 5 ((zup (zup (zup (zup (zup h_s.2.1 d_s 0 (h_s.2.1 e_s 0)) d_s 4 ((zup h_s.2.1 d_s 0 (h_s.2.1 e_s 0)) e_s 4)) d_s 1 ((zup (zup h_s.2.1 d_s 0 (h_s.2.1 e_s 0)) d_s 4 ((zup h_s.2.1 d_s 0 (h_s.2.1 e_s 0)) e_s 4)) e_s 1)) d_s 2 ((zup (zup (zup h_s.2.1 d_s 0 (h_s.2.1 e_s 0)) d_s 4 ((zup h_s.2.1 d_s 0 (h_s.2.1 e_s 0)) e_s 4)) d_s 1 ((zup (zup h_s.2.1 d_s 0 (h_s.2.1 e_s 0)) d_s 4 ((zup h_s.2.1 d_s 0 (h_s.2.1 e_s 0)) e_s 4)) e_s 1)) e_s 2)) d_s 3 ((zup (zup (zup (zup h_s.2.1 d_s 0 (h_s.2.1 e_s 0)) d_s 4 ((zup h_s.2.1 d_s 0 (h_s.2.1 e_s 0)) e_s 4)) d_s 1 ((zup (zup h_s.2.1 d_s 0 (h_s.2.1 e_s 0)) d_s 4 ((zup h_s.2.1 d_s 0 (h_s.2.1 e_s 0)) e_s 4)) e_s 1)) d_s 2 ((zup (zup (zup h_s.2.1 d_s 0 (h_s.2.1 e_s 0)) d_s 4 ((zup h_s.2.1 d_s 0 (h_s.2.1 e_s 0)) e_s 4)) d_s 1 ((zup (zup h_s.2.1 d_s 0 (h_s.2.1 e_s 0)) d_s 4 ((zup h_s.2.1 d_s 0 (h_s.2.1 e_s 0)) e_s 4)) e_s 1)) e_s 2)) e_s 3)) e_s 5)) d_s 6 ((zup (zup (zup (zup (zup (zup h_s.2.1 d_s 0 (h_s.2.1 e_s 0)) d_s 4 ((zup h_s.2.1 d_s 0 (h_s.2.1 e_s 0)) e_s 4)) d_s 1 ((zup (zup h_s.2.1 d_s 0 (h_s.2.1 e_s 0)) d_s 4 ((zup h_s.2.1 d_s 0 (h_s.2.1 e_s 0)) e_s 4)) e_s 1)) d_s 2 ((zup (zup (zup h_s.2.1 d_s 0 (h_s.2.1 e_s 0)) d_s 4 ((zup h_s.2.1 d_s 0 (h_s.2.1 e_s 0)) e_s 4)) d_s 1 ((zup (zup h_s.2.1 d_s 0 (h_s.2.1 e_s 0)) d_s 4 ((zup h_s.2.1 d_s 0 (h_s.2.1 e_s 0)) e_s 4)) e_s 1)) e_s 2)) d_s 3 ((zup (zup (zup (zup h_s.2.1 d_s 0 (h_s.2.1 e_s 0)) d_s 4 ((zup h_s.2.1 d_s 0 (h_s.2.1 e_s 0)) e_s 4)) d_s 1 ((zup (zup h_s.2.1 d_s 0 (h_s.2.1 e_s 0)) d_s 4 ((zup h_s.2.1 d_s 0 (h_s.2.1 e_s 0)) e_s 4)) e_s 1)) d_s 2 ((zup (zup (zup h_s.2.1 d_s 0 (h_s.2.1 e_s 0)) d_s 4 ((zup h_s.2.1 d_s 0 (h_s.2.1 e_s 0)) e_s 4)) d_s 1 ((zup (zup h_s.2.1 d_s 0 (h_s.2.1 e_s 0)) d_s 4 ((zup h_s.2.1 d_s 0 (h_s.2.1 e_s 0)) e_s 4)) e_s 1)) e_s 2)) e_s 3)) d_s 5 ((zup (zup (zup (zup (zup h_s.2.1 d_s 0 (h_s.2.1 e_s 0)) d_s 4 ((zup h_s.2.1 d_s 0 (h_s.2.1 e_s 0)) e_s 4)) d_s 1 ((zup (zup h_s.2.1 d_s 0 (h_s.2.1 e_s 0)) d_s 4 ((zup h_s.2.1 d_s 0 (h_s.2.1 e_s 0)) e_s 4)) e_s 1)) d_s 2 ((zup (zup (zup h_s.2.1 d_s 0 (h_s.2.1 e_s 0)) d_s 4 ((zup h_s.2.1 d_s 0 (h_s.2.1 e_s 0)) e_s 4)) d_s 1 ((zup (zup h_s.2.1 d_s 0 (h_s.2.1 e_s 0)) d_s 4 ((zup h_s.2.1 d_s 0 (h_s.2.1 e_s 0)) e_s 4)) e_s 1)) e_s 2)) d_s 3 ((zup (zup (zup (zup h_s.2.1 d_s 0 (h_s.2.1 e_s 0)) d_s 4 ((zup h_s.2.1 d_s 0 (h_s.2.1 e_s 0)) e_s 4)) d_s 1 ((zup (zup h_s.2.1 d_s 0 (h_s.2.1 e_s 0)) d_s 4 ((zup h_s.2.1 d_s 0 (h_s.2.1 e_s 0)) e_s 4)) e_s 1)) d_s 2 ((zup (zup (zup h_s.2.1 d_s 0 (h_s.2.1 e_s 0)) d_s 4 ((zup h_s.2.1 d_s 0 (h_s.2.1 e_s 0)) e_s 4)) d_s 1 ((zup (zup h_s.2.1 d_s 0 (h_s.2.1 e_s 0)) d_s 4 ((zup h_s.2.1 d_s 0 (h_s.2.1 e_s 0)) e_s 4)) e_s 1)) e_s 2)) e_s 3)) e_s 5)) e_s 6), h_s.2.2.1, h_s.2.2.2)) : wF (F_s + 1) 35 (0, [some (.ref d_s), some (.ref e_s)], [], h_s) (gV K_s) := by
  refine w_0 (pc := 0) (e_s := (3, 1, 0, 0, 0, .null, [])) (y_s := (1, [some (.ref _), some (.ref _)], [.ref _], _)) rfl (u_ rfl) ?_
  refine w_t (pc := 1) (e_s := (3, 1, 1, 0, 0, .null, [])) (y_s := (2, [some (.ref _), some (.ref _)], [.ref _, .ref _], _)) rfl (u_ rfl) ?_
  refine w20 (pc := 2) (len_s := 3) rfl ?_
  refine w21 (pc := 5) (len_s := 3) rfl ?_
  refine w_t (pc := 8) (e_s := (3, 1, 0, 0, 0, .null, [])) (y_s := (9, [some (.ref _), some (.ref _)], [.ref _], _)) rfl (u_ rfl) ?_
  refine w_t (pc := 9) (e_s := (3, 1, 1, 0, 0, .null, [])) (y_s := (10, [some (.ref _), some (.ref _)], [.ref _, .ref _], _)) rfl (u_ rfl) ?_
  refine w20 (pc := 10) (len_s := 3) rfl ?_
  refine w21 (pc := 13) (len_s := 3) rfl ?_
  refine w_t (pc := 16) (e_s := (3, 1, 0, 0, 0, .null, [])) (y_s := (17, [some (.ref _), some (.ref _)], [.ref _], _)) rfl (u_ rfl) ?_
  refine w_t (pc := 17) (e_s := (3, 1, 1, 0, 0, .null, [])) (y_s := (18, [some (.ref _), some (.ref _)], [.ref _, .ref _], _)) rfl (u_ rfl) ?_
  refine wcV (pc := 18) (len_s := 3) rfl rfl (l := [some (.ref _), some (.ref _)]) rfl ?_
  refine w_t (pc := 0) (e_s := (3, 1, 0, 0, 0, .null, [])) (y_s := (1, [some (.ref _), some (.ref _)], [.ref _], _)) rfl (u_ rfl) ?_
  refine w_t (pc := 1) (e_s := (3, 1, 1, 0, 0, .null, [])) (y_s := (2, [some (.ref _), some (.ref _)], [.ref _, .ref _], _)) rfl (u_ rfl) ?_
  refine w20 (pc := 2) (len_s := 3) rfl ?_
  refine w21 (pc := 5) (len_s := 3) rfl ?_
  refine w_t (pc := 8) (e_s := (3, 1, 0, 0, 0, .null, [])) (y_s := (9, [some (.ref _), some (.ref _)], [.ref _], _)) rfl (u_ rfl) ?_
  refine w_t (pc := 9) (e_s := (3, 1, 1, 0, 0, .null, [])) (y_s := (10, [some (.ref _), some (.ref _)], [.ref _, .ref _], _)) rfl (u_ rfl) ?_
  refine w20 (pc := 10) (len_s := 3) rfl ?_
  refine w21 (pc := 13) (len_s := 3) rfl ?_
  refine w_t (pc := 16) (e_s := (3, 1, 0, 0, 0, .null, [])) (y_s := (17, [some (.ref _), some (.ref _)], [.ref _], _)) rfl (u_ rfl) ?_
  refine w_t (pc := 17) (e_s := (3, 1, 1, 0, 0, .null, [])) (y_s := (18, [some (.ref _), some (.ref _)], [.ref _, .ref _], _)) rfl (u_ rfl) ?_
  refine w20 (pc := 18) (len_s := 3) rfl ?_
  refine w21 (pc := 21) (len_s := 3) rfl ?_
  refine w_t (pc := 24) (e_s := (3, 1, 0, 0, 0, .null, [])) (y_s := (25, [some (.ref _), some (.ref _)], [.ref _], _)) rfl (u_ rfl) ?_
  refine w_t (pc := 25) (e_s := (3, 1, 1, 0, 0, .null, [])) (y_s := (26, [some (.ref _), some (.ref _)], [.ref _, .ref _], _)) rfl (u_ rfl) ?_
  refine w20 (pc := 26) (len_s := 3) rfl ?_
  refine w21 (pc := 29) (len_s := 3) rfl ?_
  refine w_t (pc := 32) (e_s := (3, 1, 0, 0, 0, .null, [])) (y_s := (33, [some (.ref _), some (.ref _)], [.ref _], _)) rfl (u_ rfl) ?_
  refine w_t (pc := 33) (e_s := (3, 1, 1, 0, 0, .null, [])) (y_s := (34, [some (.ref _), some (.ref _)], [.ref _, .ref _], _)) rfl (u_ rfl) ?_
  refine w20 (pc := 34) (len_s := 3) rfl ?_
  refine w21 (pc := 37) (len_s := 3) rfl ?_
  refine wrV (pc := 40) (len_s := 1) rfl hk ?_
  show wF _ 35 (21, [some (.ref _), some (.ref _)], [], _) _
  exact wrV (pc := 21) (len_s := 1) rfl hk t_s
/-- ColdShod$Idea.becomeByDeeds(LColdShod$Idea;)V, from 0 on -/
theorem sg_36_0 {F_s : Nat} {d_s e_s : Nat} {h_s : zH} {K_s : zH → Prop} (hk : hKn h_s) (t_s : K_s (h_s.1, zup (zup (zup (zup (zup h_s.2.1 d_s 1 (h_s.2.1 e_s 1)) d_s 2 ((zup h_s.2.1 d_s 1 (h_s.2.1 e_s 1)) e_s 2)) d_s 3 ((zup (zup h_s.2.1 d_s 1 (h_s.2.1 e_s 1)) d_s 2 ((zup h_s.2.1 d_s 1 (h_s.2.1 e_s 1)) e_s 2)) e_s 3)) d_s 5 ((zup (zup (zup h_s.2.1 d_s 1 (h_s.2.1 e_s 1)) d_s 2 ((zup h_s.2.1 d_s 1 (h_s.2.1 e_s 1)) e_s 2)) d_s 3 ((zup (zup h_s.2.1 d_s 1 (h_s.2.1 e_s 1)) d_s 2 ((zup h_s.2.1 d_s 1 (h_s.2.1 e_s 1)) e_s 2)) e_s 3)) e_s 5)) d_s 6 ((zup (zup (zup (zup h_s.2.1 d_s 1 (h_s.2.1 e_s 1)) d_s 2 ((zup h_s.2.1 d_s 1 (h_s.2.1 e_s 1)) e_s 2)) d_s 3 ((zup (zup h_s.2.1 d_s 1 (h_s.2.1 e_s 1)) d_s 2 ((zup h_s.2.1 d_s 1 (h_s.2.1 e_s 1)) e_s 2)) e_s 3)) d_s 5 ((zup (zup (zup h_s.2.1 d_s 1 (h_s.2.1 e_s 1)) d_s 2 ((zup h_s.2.1 d_s 1 (h_s.2.1 e_s 1)) e_s 2)) d_s 3 ((zup (zup h_s.2.1 d_s 1 (h_s.2.1 e_s 1)) d_s 2 ((zup h_s.2.1 d_s 1 (h_s.2.1 e_s 1)) e_s 2)) e_s 3)) e_s 5)) e_s 6), h_s.2.2.1, h_s.2.2.2)) : wF (F_s + 1) 36 (0, [some (.ref d_s), some (.ref e_s)], [], h_s) (gV K_s) := by
  refine w_0 (pc := 0) (e_s := (3, 1, 0, 0, 0, .null, [])) (y_s := (1, [some (.ref _), some (.ref _)], [.ref _], _)) rfl (u_ rfl) ?_
  refine w_t (pc := 1) (e_s := (3, 1, 1, 0, 0, .null, [])) (y_s := (2, [some (.ref _), some (.ref _)], [.ref _, .ref _], _)) rfl (u_ rfl) ?_
  refine w20 (pc := 2) (len_s := 3) rfl ?_
  refine w21 (pc := 5) (len_s := 3) rfl ?_
  refine w_t (pc := 8) (e_s := (3, 1, 0, 0, 0, .null, [])) (y_s := (9, [some (.ref _), some (.ref _)], [.ref _], _)) rfl (u_ rfl) ?_
  refine w_t (pc := 9) (e_s := (3, 1, 1, 0, 0, .null, [])) (y_s := (10, [some (.ref _), some (.ref _)], [.ref _, .ref _], _)) rfl (u_ rfl) ?_
  refine w20 (pc := 10) (len_s := 3) rfl ?_
  refine w21 (pc := 13) (len_s := 3) rfl ?_
  refine w_t (pc := 16) (e_s := (3, 1, 0, 0, 0, .null, [])) (y_s := (17, [some (.ref _), some (.ref _)], [.ref _], _)) rfl (u_ rfl) ?_
  refine w_t (pc := 17) (e_s := (3, 1, 1, 0, 0, .null, [])) (y_s := (18, [some (.ref _), some (.ref _)], [.ref _, .ref _], _)) rfl (u_ rfl) ?_
  refine w20 (pc := 18) (len_s := 3) rfl ?_
  refine w21 (pc := 21) (len_s := 3) rfl ?_
  refine w_t (pc := 24) (e_s := (3, 1, 0, 0, 0, .null, [])) (y_s := (25, [some (.ref _), some (.ref _)], [.ref _], _)) rfl (u_ rfl) ?_
  refine w_t (pc := 25) (e_s := (3, 1, 1, 0, 0, .null, [])) (y_s := (26, [some (.ref _), some (.ref _)], [.ref _, .ref _], _)) rfl (u_ rfl) ?_
  refine w20 (pc := 26) (len_s := 3) rfl ?_
  refine w21 (pc := 29) (len_s := 3) rfl ?_
  refine w_t (pc := 32) (e_s := (3, 1, 0, 0, 0, .null, [])) (y_s := (33, [some (.ref _), some (.ref _)], [.ref _], _)) rfl (u_ rfl) ?_
  refine w_t (pc := 33) (e_s := (3, 1, 1, 0, 0, .null, [])) (y_s := (34, [some (.ref _), some (.ref _)], [.ref _, .ref _], _)) rfl (u_ rfl) ?_
  refine w20 (pc := 34) (len_s := 3) rfl ?_
  refine w21 (pc := 37) (len_s := 3) rfl ?_
  exact wrV (pc := 40) (len_s := 1) rfl hk t_s
/-- ColdShodModel.image()I, from 0 on -/
theorem sg_215_0 {F_s : Nat}  {h_s : zH} {K_s : Int32 → zH → Prop} (hk : hKn h_s) (t_s : wF F_s 215 (15, [some (.ref 102), some (.int 0)], [], (h_s.1, zup (zup h_s.2.1 102 35 1) 102 36 (h_s.2.1 102 7), h_s.2.2.1, h_s.2.2.2)) (gI K_s)) : wF (F_s + 1) 215 (0, [some (.ref 102), none], [], h_s) (gI K_s) := by
  refine w_0 (pc := 0) (e_s := (3, 1, 0, 0, 0, .null, [])) (y_s := (1, [some (.ref _), none], [.ref _], _)) rfl (u_ rfl) ?_
  refine w_t (pc := 1) (e_s := (0, 1, 0, 0, 0, .int 1, [])) (y_s := (2, [some (.ref _), none], [.int _, .ref _], _)) rfl (u_ rfl) ?_
  refine w21b (pc := 2) (len_s := 3) rfl ?_
  refine w_t (pc := 5) (e_s := (3, 1, 0, 0, 0, .null, [])) (y_s := (6, [some (.ref _), none], [.ref _], _)) rfl (u_ rfl) ?_
  refine w_t (pc := 6) (e_s := (3, 1, 0, 0, 0, .null, [])) (y_s := (7, [some (.ref _), none], [.ref _, .ref _], _)) rfl (u_ rfl) ?_
  refine w20 (pc := 7) (len_s := 3) rfl ?_
  refine w21 (pc := 10) (len_s := 3) rfl ?_
  refine w_t (pc := 13) (e_s := (0, 1, 0, 0, 0, .int 0, [])) (y_s := (14, [some (.ref _), none], [.int _], _)) rfl (u_ rfl) ?_
  refine w_t (pc := 14) (e_s := (4, 1, 1, 0, 0, .null, [])) (y_s := (15, [some (.ref _), some (.int _)], [], _)) rfl (u_ rfl) ?_
  exact t_s
/-- ColdShodModel.image()I, from 15 on -/
theorem sg_215_15 {F_s : Nat} {x1_s : Int32} {h_s : zH} {K_s : Int32 → zH → Prop} (hk : hKn h_s) (t_s : (x1_s.toInt < 104 → (zix x1_s < 104 → wF F_s 215 (15, [some (.ref 102), some (.int (x1_s + 1))], [], (h_s.1, zup h_s.2.1 120 (zix x1_s) (h_s.2.1 103 (zix x1_s)), h_s.2.2.1, h_s.2.2.2)) (gI K_s))) ∧ (¬ x1_s.toInt < 104 → wF F_s 215 (41, [some (.ref 102), some (.int 0)], [], h_s) (gI K_s))) : wF (F_s + 1) 215 (15, [some (.ref 102), some (.int x1_s)], [], h_s) (gI K_s) := by
  refine w_0 (pc := 15) (e_s := (1, 1, 1, 0, 0, .null, [])) (y_s := (16, [some (.ref _), some (.int _)], [.int _], _)) rfl (u_ rfl) ?_
  refine w_t (pc := 16) (e_s := (0, 2, 0, 0, 0, .int 104, [])) (y_s := (18, [some (.ref _), some (.int _)], [.int _, .int _], _)) rfl (u_ rfl) ?_
  refine wi3 (pc := 18) (len_s := 3) (Y := 104) rfl rfl (by decide) (fun c1_s => ?_) (fun c1_s => ?_)
  · replace t_s := t_s.1 c1_s
    refine w_t (pc := 21) (e_s := (3, 1, 0, 0, 0, .null, [])) (y_s := (22, [some (.ref _), some (.int _)], [.ref _], _)) rfl (u_ rfl) ?_
    refine w20r (pc := 22) (len_s := 3) (q_s := 120) rfl (krq hk rfl) ?_
    refine w_t (pc := 25) (e_s := (1, 1, 1, 0, 0, .null, [])) (y_s := (26, [some (.ref _), some (.int _)], [.int _, .ref _], _)) rfl (u_ rfl) ?_
    refine w_t (pc := 26) (e_s := (3, 1, 0, 0, 0, .null, [])) (y_s := (27, [some (.ref _), some (.int _)], [.ref _, .int _, .ref _], _)) rfl (u_ rfl) ?_
    refine w20r (pc := 27) (len_s := 3) (q_s := 103) rfl (krq hk rfl) ?_
    refine w_t (pc := 30) (e_s := (1, 1, 1, 0, 0, .null, [])) (y_s := (31, [some (.ref _), some (.int _)], [.int _, .ref _, .int _, .ref _], _)) rfl (u_ rfl) ?_
    refine w22 (pc := 31) (len_s := 1) rfl (hk.1 103 0 104 rfl rfl) (fun c2_s => ?_)
    replace t_s := t_s c2_s
    refine w25 (pc := 32) (len_s := 1) rfl (hk.1 120 0 104 rfl rfl) (fun c3_s => ?_)
    refine w_t (pc := 33) (e_s := (19, 3, 1, 0, 0, .int 1, [])) (y_s := (36, [some (.ref _), some (.int _)], [], _)) rfl (u_ rfl) ?_
    refine w_t (pc := 36) (e_s := (17, 3, 15, 0, 0, .null, [])) (y_s := (15, [some (.ref _), some (.int _)], [], _)) rfl (u_ rfl) ?_
    exact t_s
  · replace t_s := t_s.2 c1_s
    refine w_t (pc := 39) (e_s := (0, 1, 0, 0, 0, .int 0, [])) (y_s := (40, [some (.ref _), some (.int _)], [.int _], _)) rfl (u_ rfl) ?_
    refine w_t (pc := 40) (e_s := (4, 1, 1, 0, 0, .null, [])) (y_s := (41, [some (.ref _), some (.int _)], [], _)) rfl (u_ rfl) ?_
    exact t_s
/-- ColdShodModel.image()I, from 41 on -/
theorem sg_215_41 {F_s : Nat} {x1_s : Int32} {h_s : zH} {K_s : Int32 → zH → Prop} (hk : hKn h_s) (t_s : (x1_s.toInt < 5 → (zix x1_s < 5 → wF F_s 215 (41, [some (.ref 102), some (.int (x1_s + 1))], [], (h_s.1, zup h_s.2.1 121 (zix x1_s) (h_s.2.1 119 (zix x1_s)), h_s.2.2.1, h_s.2.2.2)) (gI K_s))) ∧ (¬ x1_s.toInt < 5 → K_s (h_s.2.1 119 3) h_s)) : wF (F_s + 1) 215 (41, [some (.ref 102), some (.int x1_s)], [], h_s) (gI K_s) := by
  refine w_0 (pc := 41) (e_s := (1, 1, 1, 0, 0, .null, [])) (y_s := (42, [some (.ref _), some (.int _)], [.int _], _)) rfl (u_ rfl) ?_
  refine w_t (pc := 42) (e_s := (0, 1, 0, 0, 0, .int 5, [])) (y_s := (43, [some (.ref _), some (.int _)], [.int _, .int _], _)) rfl (u_ rfl) ?_
  refine wi3 (pc := 43) (len_s := 3) (Y := 5) rfl rfl (by decide) (fun c1_s => ?_) (fun c1_s => ?_)
  · replace t_s := t_s.1 c1_s
    refine w_t (pc := 46) (e_s := (3, 1, 0, 0, 0, .null, [])) (y_s := (47, [some (.ref _), some (.int _)], [.ref _], _)) rfl (u_ rfl) ?_
    refine w20r (pc := 47) (len_s := 3) (q_s := 121) rfl (krq hk rfl) ?_
    refine w_t (pc := 50) (e_s := (1, 1, 1, 0, 0, .null, [])) (y_s := (51, [some (.ref _), some (.int _)], [.int _, .ref _], _)) rfl (u_ rfl) ?_
    refine w_t (pc := 51) (e_s := (3, 1, 0, 0, 0, .null, [])) (y_s := (52, [some (.ref _), some (.int _)], [.ref _, .int _, .ref _], _)) rfl (u_ rfl) ?_
    refine w20r (pc := 52) (len_s := 3) (q_s := 119) rfl (krq hk rfl) ?_
    refine w_t (pc := 55) (e_s := (1, 1, 1, 0, 0, .null, [])) (y_s := (56, [some (.ref _), some (.int _)], [.int _, .ref _, .int _, .ref _], _)) rfl (u_ rfl) ?_
    refine w22 (pc := 56) (len_s := 1) rfl (hk.1 119 0 5 rfl rfl) (fun c2_s => ?_)
    replace t_s := t_s c2_s
    refine w25 (pc := 57) (len_s := 1) rfl (hk.1 121 0 5 rfl rfl) (fun c3_s => ?_)
    refine w_t (pc := 58) (e_s := (19, 3, 1, 0, 0, .int 1, [])) (y_s := (61, [some (.ref _), some (.int _)], [], _)) rfl (u_ rfl) ?_
    refine w_t (pc := 61) (e_s := (17, 3, 41, 0, 0, .null, [])) (y_s := (41, [some (.ref _), some (.int _)], [], _)) rfl (u_ rfl) ?_
    exact t_s
  · replace t_s := t_s.2 c1_s
    refine w_t (pc := 64) (e_s := (3, 1, 0, 0, 0, .null, [])) (y_s := (65, [some (.ref _), some (.int _)], [.ref _], _)) rfl (u_ rfl) ?_
    refine w20r (pc := 65) (len_s := 3) (q_s := 119) rfl (krq hk rfl) ?_
    refine w_t (pc := 68) (e_s := (0, 1, 0, 0, 0, .int 3, [])) (y_s := (69, [some (.ref _), some (.int _)], [.int _, .ref _], _)) rfl (u_ rfl) ?_
    refine w22 (pc := 69) (len_s := 1) rfl (hk.1 119 0 5 rfl rfl) (fun c4_s => ?_)
    exact wrI (pc := 70) (len_s := 1) rfl hk t_s
/-- ColdShodModel.back()I, from 0 on -/
theorem sg_216_0 {F_s : Nat}  {h_s : zH} {K_s : Int32 → zH → Prop} (hk : hKn h_s) (t_s : ((h_s.2.1 102 35).toInt = 0 → K_s (-5) h_s) ∧ (¬ (h_s.2.1 102 35).toInt = 0 → wF F_s 216 (12, [some (.ref 102), some (.int 0)], [], h_s) (gI K_s))) : wF (F_s + 1) 216 (0, [some (.ref 102), none], [], h_s) (gI K_s) := by
  refine w_0 (pc := 0) (e_s := (3, 1, 0, 0, 0, .null, [])) (y_s := (1, [some (.ref _), none], [.ref _], _)) rfl (u_ rfl) ?_
  refine w20 (pc := 1) (len_s := 3) rfl ?_
  refine wq1 (pc := 4) (len_s := 3) rfl rfl (fun c1_s => ?_) (fun c1_s => ?_)
  · replace t_s := t_s.1 c1_s
    refine w_t (pc := 7) (e_s := (0, 2, 0, 0, 0, .int (-5), [])) (y_s := (9, [some (.ref _), none], [.int _], _)) rfl (u_ rfl) ?_
    exact wrI (pc := 9) (len_s := 1) rfl hk t_s
  · replace t_s := t_s.2 c1_s
    refine w_t (pc := 10) (e_s := (0, 1, 0, 0, 0, .int 0, [])) (y_s := (11, [some (.ref _), none], [.int _], _)) rfl (u_ rfl) ?_
    refine w_t (pc := 11) (e_s := (4, 1, 1, 0, 0, .null, [])) (y_s := (12, [some (.ref _), some (.int _)], [], _)) rfl (u_ rfl) ?_
    exact t_s
/-- ColdShodModel.back()I, from 12 on -/
theorem sg_216_12 {F_s : Nat} {x1_s : Int32} {h_s : zH} {K_s : Int32 → zH → Prop} (hk : hKn h_s) (t_s : (x1_s.toInt < (h_s.2.1 102 36).toInt → (zix (20 + x1_s) < 104 → (zix (28 + x1_s) < 104 → (zix (36 + x1_s) < 104 → (zix (52 + x1_s) < 104 → (zix (60 + x1_s) < 104 → wF F_s 216 (12, [some (.ref 102), some (.int (x1_s + 1))], [], (h_s.1, zup (zup (zup (zup (zup h_s.2.1 103 (zix (20 + x1_s)) (h_s.2.1 120 (zix (20 + x1_s)))) 103 (zix (28 + x1_s)) (h_s.2.1 120 (zix (28 + x1_s)))) 103 (zix (36 + x1_s)) (h_s.2.1 120 (zix (36 + x1_s)))) 103 (zix (52 + x1_s)) (h_s.2.1 120 (zix (52 + x1_s)))) 103 (zix (60 + x1_s)) (h_s.2.1 120 (zix (60 + x1_s))), h_s.2.2.1, h_s.2.2.2)) (gI K_s))))))) ∧ (¬ x1_s.toInt < (h_s.2.1 102 36).toInt → wF F_s 216 (118, [some (.ref 102), some (.int 0)], [], h_s) (gI K_s))) : wF (F_s + 1) 216 (12, [some (.ref 102), some (.int x1_s)], [], h_s) (gI K_s) := by
  refine w_0 (pc := 12) (e_s := (1, 1, 1, 0, 0, .null, [])) (y_s := (13, [some (.ref _), some (.int _)], [.int _], _)) rfl (u_ rfl) ?_
  refine w_t (pc := 13) (e_s := (3, 1, 0, 0, 0, .null, [])) (y_s := (14, [some (.ref _), some (.int _)], [.ref _, .int _], _)) rfl (u_ rfl) ?_
  refine w20 (pc := 14) (len_s := 3) rfl ?_
  refine wi3 (pc := 17) (len_s := 3) rfl rfl rfl (fun c1_s => ?_) (fun c1_s => ?_)
  · replace t_s := t_s.1 c1_s
    refine w_t (pc := 20) (e_s := (3, 1, 0, 0, 0, .null, [])) (y_s := (21, [some (.ref _), some (.int _)], [.ref _], _)) rfl (u_ rfl) ?_
    refine w20r (pc := 21) (len_s := 3) (q_s := 103) rfl (krq hk rfl) ?_
    refine w_t (pc := 24) (e_s := (0, 2, 0, 0, 0, .int 20, [])) (y_s := (26, [some (.ref _), some (.int _)], [.int _, .ref _], _)) rfl (u_ rfl) ?_
    refine w_t (pc := 26) (e_s := (1, 1, 1, 0, 0, .null, [])) (y_s := (27, [some (.ref _), some (.int _)], [.int _, .int _, .ref _], _)) rfl (u_ rfl) ?_
    refine w_t (pc := 27) (e_s := (7, 1, 0, 0, 0, .null, [])) (y_s := (28, [some (.ref _), some (.int _)], [.int (_ + _), .ref _], _)) rfl (u_ rfl) ?_
    refine w_t (pc := 28) (e_s := (3, 1, 0, 0, 0, .null, [])) (y_s := (29, [some (.ref _), some (.int _)], [.ref _, .int _, .ref _], _)) rfl (u_ rfl) ?_
    refine w20r (pc := 29) (len_s := 3) (q_s := 120) rfl (krq hk rfl) ?_
    refine w_t (pc := 32) (e_s := (0, 2, 0, 0, 0, .int 20, [])) (y_s := (34, [some (.ref _), some (.int _)], [.int _, .ref _, .int _, .ref _], _)) rfl (u_ rfl) ?_
    refine w_t (pc := 34) (e_s := (1, 1, 1, 0, 0, .null, [])) (y_s := (35, [some (.ref _), some (.int _)], [.int _, .int _, .ref _, .int _, .ref _], _)) rfl (u_ rfl) ?_
    refine w_t (pc := 35) (e_s := (7, 1, 0, 0, 0, .null, [])) (y_s := (36, [some (.ref _), some (.int _)], [.int (_ + _), .ref _, .int _, .ref _], _)) rfl (u_ rfl) ?_
    refine w22 (pc := 36) (len_s := 1) rfl (hk.1 120 0 104 rfl rfl) (fun c2_s => ?_)
    replace t_s := t_s c2_s
    refine w25 (pc := 37) (len_s := 1) rfl (hk.1 103 0 104 rfl rfl) (fun c3_s => ?_)
    refine w_t (pc := 38) (e_s := (3, 1, 0, 0, 0, .null, [])) (y_s := (39, [some (.ref _), some (.int _)], [.ref _], _)) rfl (u_ rfl) ?_
    refine w20r (pc := 39) (len_s := 3) (q_s := 103) rfl (krq hk rfl) ?_
    refine w_t (pc := 42) (e_s := (0, 2, 0, 0, 0, .int 28, [])) (y_s := (44, [some (.ref _), some (.int _)], [.int _, .ref _], _)) rfl (u_ rfl) ?_
    refine w_t (pc := 44) (e_s := (1, 1, 1, 0, 0, .null, [])) (y_s := (45, [some (.ref _), some (.int _)], [.int _, .int _, .ref _], _)) rfl (u_ rfl) ?_
    refine w_t (pc := 45) (e_s := (7, 1, 0, 0, 0, .null, [])) (y_s := (46, [some (.ref _), some (.int _)], [.int (_ + _), .ref _], _)) rfl (u_ rfl) ?_
    refine w_t (pc := 46) (e_s := (3, 1, 0, 0, 0, .null, [])) (y_s := (47, [some (.ref _), some (.int _)], [.ref _, .int _, .ref _], _)) rfl (u_ rfl) ?_
    refine w20r (pc := 47) (len_s := 3) (q_s := 120) rfl (krq hk rfl) ?_
    refine w_t (pc := 50) (e_s := (0, 2, 0, 0, 0, .int 28, [])) (y_s := (52, [some (.ref _), some (.int _)], [.int _, .ref _, .int _, .ref _], _)) rfl (u_ rfl) ?_
    refine w_t (pc := 52) (e_s := (1, 1, 1, 0, 0, .null, [])) (y_s := (53, [some (.ref _), some (.int _)], [.int _, .int _, .ref _, .int _, .ref _], _)) rfl (u_ rfl) ?_
    refine w_t (pc := 53) (e_s := (7, 1, 0, 0, 0, .null, [])) (y_s := (54, [some (.ref _), some (.int _)], [.int (_ + _), .ref _, .int _, .ref _], _)) rfl (u_ rfl) ?_
    refine w22 (pc := 54) (len_s := 1) rfl (hk.1 120 0 104 rfl rfl) (fun c4_s => ?_)
    replace t_s := t_s c4_s
    refine w25 (pc := 55) (len_s := 1) rfl (hk.1 103 0 104 rfl rfl) (fun c5_s => ?_)
    refine w_t (pc := 56) (e_s := (3, 1, 0, 0, 0, .null, [])) (y_s := (57, [some (.ref _), some (.int _)], [.ref _], _)) rfl (u_ rfl) ?_
    refine w20r (pc := 57) (len_s := 3) (q_s := 103) rfl (krq hk rfl) ?_
    refine w_t (pc := 60) (e_s := (0, 2, 0, 0, 0, .int 36, [])) (y_s := (62, [some (.ref _), some (.int _)], [.int _, .ref _], _)) rfl (u_ rfl) ?_
    refine w_t (pc := 62) (e_s := (1, 1, 1, 0, 0, .null, [])) (y_s := (63, [some (.ref _), some (.int _)], [.int _, .int _, .ref _], _)) rfl (u_ rfl) ?_
    refine w_t (pc := 63) (e_s := (7, 1, 0, 0, 0, .null, [])) (y_s := (64, [some (.ref _), some (.int _)], [.int (_ + _), .ref _], _)) rfl (u_ rfl) ?_
    refine w_t (pc := 64) (e_s := (3, 1, 0, 0, 0, .null, [])) (y_s := (65, [some (.ref _), some (.int _)], [.ref _, .int _, .ref _], _)) rfl (u_ rfl) ?_
    refine w20r (pc := 65) (len_s := 3) (q_s := 120) rfl (krq hk rfl) ?_
    refine w_t (pc := 68) (e_s := (0, 2, 0, 0, 0, .int 36, [])) (y_s := (70, [some (.ref _), some (.int _)], [.int _, .ref _, .int _, .ref _], _)) rfl (u_ rfl) ?_
    refine w_t (pc := 70) (e_s := (1, 1, 1, 0, 0, .null, [])) (y_s := (71, [some (.ref _), some (.int _)], [.int _, .int _, .ref _, .int _, .ref _], _)) rfl (u_ rfl) ?_
    refine w_t (pc := 71) (e_s := (7, 1, 0, 0, 0, .null, [])) (y_s := (72, [some (.ref _), some (.int _)], [.int (_ + _), .ref _, .int _, .ref _], _)) rfl (u_ rfl) ?_
    refine w22 (pc := 72) (len_s := 1) rfl (hk.1 120 0 104 rfl rfl) (fun c6_s => ?_)
    replace t_s := t_s c6_s
    refine w25 (pc := 73) (len_s := 1) rfl (hk.1 103 0 104 rfl rfl) (fun c7_s => ?_)
    refine w_t (pc := 74) (e_s := (3, 1, 0, 0, 0, .null, [])) (y_s := (75, [some (.ref _), some (.int _)], [.ref _], _)) rfl (u_ rfl) ?_
    refine w20r (pc := 75) (len_s := 3) (q_s := 103) rfl (krq hk rfl) ?_
    refine w_t (pc := 78) (e_s := (0, 2, 0, 0, 0, .int 52, [])) (y_s := (80, [some (.ref _), some (.int _)], [.int _, .ref _], _)) rfl (u_ rfl) ?_
    refine w_t (pc := 80) (e_s := (1, 1, 1, 0, 0, .null, [])) (y_s := (81, [some (.ref _), some (.int _)], [.int _, .int _, .ref _], _)) rfl (u_ rfl) ?_
    refine w_t (pc := 81) (e_s := (7, 1, 0, 0, 0, .null, [])) (y_s := (82, [some (.ref _), some (.int _)], [.int (_ + _), .ref _], _)) rfl (u_ rfl) ?_
    refine w_t (pc := 82) (e_s := (3, 1, 0, 0, 0, .null, [])) (y_s := (83, [some (.ref _), some (.int _)], [.ref _, .int _, .ref _], _)) rfl (u_ rfl) ?_
    refine w20r (pc := 83) (len_s := 3) (q_s := 120) rfl (krq hk rfl) ?_
    refine w_t (pc := 86) (e_s := (0, 2, 0, 0, 0, .int 52, [])) (y_s := (88, [some (.ref _), some (.int _)], [.int _, .ref _, .int _, .ref _], _)) rfl (u_ rfl) ?_
    refine w_t (pc := 88) (e_s := (1, 1, 1, 0, 0, .null, [])) (y_s := (89, [some (.ref _), some (.int _)], [.int _, .int _, .ref _, .int _, .ref _], _)) rfl (u_ rfl) ?_
    refine w_t (pc := 89) (e_s := (7, 1, 0, 0, 0, .null, [])) (y_s := (90, [some (.ref _), some (.int _)], [.int (_ + _), .ref _, .int _, .ref _], _)) rfl (u_ rfl) ?_
    refine w22 (pc := 90) (len_s := 1) rfl (hk.1 120 0 104 rfl rfl) (fun c8_s => ?_)
    replace t_s := t_s c8_s
    refine w25 (pc := 91) (len_s := 1) rfl (hk.1 103 0 104 rfl rfl) (fun c9_s => ?_)
    refine w_t (pc := 92) (e_s := (3, 1, 0, 0, 0, .null, [])) (y_s := (93, [some (.ref _), some (.int _)], [.ref _], _)) rfl (u_ rfl) ?_
    refine w20r (pc := 93) (len_s := 3) (q_s := 103) rfl (krq hk rfl) ?_
    refine w_t (pc := 96) (e_s := (0, 2, 0, 0, 0, .int 60, [])) (y_s := (98, [some (.ref _), some (.int _)], [.int _, .ref _], _)) rfl (u_ rfl) ?_
    refine w_t (pc := 98) (e_s := (1, 1, 1, 0, 0, .null, [])) (y_s := (99, [some (.ref _), some (.int _)], [.int _, .int _, .ref _], _)) rfl (u_ rfl) ?_
    refine w_t (pc := 99) (e_s := (7, 1, 0, 0, 0, .null, [])) (y_s := (100, [some (.ref _), some (.int _)], [.int (_ + _), .ref _], _)) rfl (u_ rfl) ?_
    refine w_t (pc := 100) (e_s := (3, 1, 0, 0, 0, .null, [])) (y_s := (101, [some (.ref _), some (.int _)], [.ref _, .int _, .ref _], _)) rfl (u_ rfl) ?_
    refine w20r (pc := 101) (len_s := 3) (q_s := 120) rfl (krq hk rfl) ?_
    refine w_t (pc := 104) (e_s := (0, 2, 0, 0, 0, .int 60, [])) (y_s := (106, [some (.ref _), some (.int _)], [.int _, .ref _, .int _, .ref _], _)) rfl (u_ rfl) ?_
    refine w_t (pc := 106) (e_s := (1, 1, 1, 0, 0, .null, [])) (y_s := (107, [some (.ref _), some (.int _)], [.int _, .int _, .ref _, .int _, .ref _], _)) rfl (u_ rfl) ?_
    refine w_t (pc := 107) (e_s := (7, 1, 0, 0, 0, .null, [])) (y_s := (108, [some (.ref _), some (.int _)], [.int (_ + _), .ref _, .int _, .ref _], _)) rfl (u_ rfl) ?_
    refine w22 (pc := 108) (len_s := 1) rfl (hk.1 120 0 104 rfl rfl) (fun c10_s => ?_)
    replace t_s := t_s c10_s
    refine w25 (pc := 109) (len_s := 1) rfl (hk.1 103 0 104 rfl rfl) (fun c11_s => ?_)
    refine w_t (pc := 110) (e_s := (19, 3, 1, 0, 0, .int 1, [])) (y_s := (113, [some (.ref _), some (.int _)], [], _)) rfl (u_ rfl) ?_
    refine w_t (pc := 113) (e_s := (17, 3, 12, 0, 0, .null, [])) (y_s := (12, [some (.ref _), some (.int _)], [], _)) rfl (u_ rfl) ?_
    exact t_s
  · replace t_s := t_s.2 c1_s
    refine w_t (pc := 116) (e_s := (0, 1, 0, 0, 0, .int 0, [])) (y_s := (117, [some (.ref _), some (.int _)], [.int _], _)) rfl (u_ rfl) ?_
    refine w_t (pc := 117) (e_s := (4, 1, 1, 0, 0, .null, [])) (y_s := (118, [some (.ref _), some (.int _)], [], _)) rfl (u_ rfl) ?_
    exact t_s
/-- ColdShodModel.back()I, from 118 on -/
theorem sg_216_118 {F_s : Nat} {x1_s : Int32} {h_s : zH} {K_s : Int32 → zH → Prop} (hk : hKn h_s) (t_s : (x1_s.toInt < 5 → (zix x1_s < 5 → wF F_s 216 (118, [some (.ref 102), some (.int (x1_s + 1))], [], (h_s.1, zup h_s.2.1 119 (zix x1_s) (h_s.2.1 121 (zix x1_s)), h_s.2.2.1, h_s.2.2.2)) (gI K_s))) ∧ (¬ x1_s.toInt < 5 → K_s (h_s.2.1 119 3) h_s)) : wF (F_s + 1) 216 (118, [some (.ref 102), some (.int x1_s)], [], h_s) (gI K_s) := by
  refine w_0 (pc := 118) (e_s := (1, 1, 1, 0, 0, .null, [])) (y_s := (119, [some (.ref _), some (.int _)], [.int _], _)) rfl (u_ rfl) ?_
  refine w_t (pc := 119) (e_s := (0, 1, 0, 0, 0, .int 5, [])) (y_s := (120, [some (.ref _), some (.int _)], [.int _, .int _], _)) rfl (u_ rfl) ?_
  refine wi3 (pc := 120) (len_s := 3) (Y := 5) rfl rfl (by decide) (fun c1_s => ?_) (fun c1_s => ?_)
  · replace t_s := t_s.1 c1_s
    refine w_t (pc := 123) (e_s := (3, 1, 0, 0, 0, .null, [])) (y_s := (124, [some (.ref _), some (.int _)], [.ref _], _)) rfl (u_ rfl) ?_
    refine w20r (pc := 124) (len_s := 3) (q_s := 119) rfl (krq hk rfl) ?_
    refine w_t (pc := 127) (e_s := (1, 1, 1, 0, 0, .null, [])) (y_s := (128, [some (.ref _), some (.int _)], [.int _, .ref _], _)) rfl (u_ rfl) ?_
    refine w_t (pc := 128) (e_s := (3, 1, 0, 0, 0, .null, [])) (y_s := (129, [some (.ref _), some (.int _)], [.ref _, .int _, .ref _], _)) rfl (u_ rfl) ?_
    refine w20r (pc := 129) (len_s := 3) (q_s := 121) rfl (krq hk rfl) ?_
    refine w_t (pc := 132) (e_s := (1, 1, 1, 0, 0, .null, [])) (y_s := (133, [some (.ref _), some (.int _)], [.int _, .ref _, .int _, .ref _], _)) rfl (u_ rfl) ?_
    refine w22 (pc := 133) (len_s := 1) rfl (hk.1 121 0 5 rfl rfl) (fun c2_s => ?_)
    replace t_s := t_s c2_s
    refine w25 (pc := 134) (len_s := 1) rfl (hk.1 119 0 5 rfl rfl) (fun c3_s => ?_)
    refine w_t (pc := 135) (e_s := (19, 3, 1, 0, 0, .int 1, [])) (y_s := (138, [some (.ref _), some (.int _)], [], _)) rfl (u_ rfl) ?_
    refine w_t (pc := 138) (e_s := (17, 3, 118, 0, 0, .null, [])) (y_s := (118, [some (.ref _), some (.int _)], [], _)) rfl (u_ rfl) ?_
    exact t_s
  · replace t_s := t_s.2 c1_s
    refine w_t (pc := 141) (e_s := (3, 1, 0, 0, 0, .null, [])) (y_s := (142, [some (.ref _), some (.int _)], [.ref _], _)) rfl (u_ rfl) ?_
    refine w20r (pc := 142) (len_s := 3) (q_s := 119) rfl (krq hk rfl) ?_
    refine w_t (pc := 145) (e_s := (0, 1, 0, 0, 0, .int 3, [])) (y_s := (146, [some (.ref _), some (.int _)], [.int _, .ref _], _)) rfl (u_ rfl) ?_
    refine w22 (pc := 146) (len_s := 1) rfl (hk.1 119 0 5 rfl rfl) (fun c4_s => ?_)
    exact wrI (pc := 147) (len_s := 1) rfl hk t_s
