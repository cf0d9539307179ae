/-! What ended runs give: printed by a program (wip/fun/sg.py). -/
/-- ColdShod.goes(II)I, from 0 on -/
theorem sg_118_0 {F_s : Nat} {x1_s : Int32} {x2_s : Int32} {h_s : zH} {K_s : Int32 → zH → Prop} (hk : hKn h_s) (t_s : (x1_s.toInt < 0 → K_s (-1) h_s) ∧ (¬ x1_s.toInt < 0 → ((x1_s.toInt < (h_s.2.1 7 7).toInt → ((x2_s.toInt < 0 → K_s (-1) h_s) ∧ (¬ x2_s.toInt < 0 → ((x2_s.toInt < (h_s.2.1 7 8).toInt → (zix x1_s < 8 → (zix x2_s < 12 → ((h_s.2.1 (20 + (zix x1_s)) 2).toInt < 99 → (((9 - ((h_s.2.1 (20 + (zix x1_s)) 2) / 11)).toInt < (h_s.2.1 (28 + (zix x2_s)) 3).toInt → K_s (-5) h_s) ∧ (¬ (9 - ((h_s.2.1 (20 + (zix x1_s)) 2) / 11)).toInt < (h_s.2.1 (28 + (zix x2_s)) 3).toInt → wF F_s 24 (0, [some (.ref 7), some (.ref (20 + (zix x1_s))), some (.ref (28 + (zix x2_s))), none, none], [], h_s) (gI (fun v9 h9 => hKn h9 → (v9.toInt = ((zup h9.2.1 73 3 ((h9.2.1 73 3) + v9)) (28 + (zix x2_s)) 2).toInt → ((((zup (zup h9.2.1 73 3 ((h9.2.1 73 3) + v9)) 73 2 ((h9.2.1 73 2) + 1)) (20 + (zix x1_s)) 2).toInt < 99 → K_s v9 (h9.1, zup (zup h9.2.1 73 3 ((h9.2.1 73 3) + v9)) 73 2 ((h9.2.1 73 2) + 1), h9.2.2.1, h9.2.2.2)) ∧ (¬ ((zup (zup h9.2.1 73 3 ((h9.2.1 73 3) + v9)) 73 2 ((h9.2.1 73 2) + 1)) (20 + (zix x1_s)) 2).toInt < 99 → K_s v9 (h9.1, zup (zup (zup h9.2.1 73 3 ((h9.2.1 73 3) + v9)) 73 2 ((h9.2.1 73 2) + 1)) 73 4 ((h9.2.1 73 4) + 1), h9.2.2.1, h9.2.2.2)))) ∧ (¬ v9.toInt = ((zup h9.2.1 73 3 ((h9.2.1 73 3) + v9)) (28 + (zix x2_s)) 2).toInt → ((((zup h9.2.1 73 3 ((h9.2.1 73 3) + v9)) (20 + (zix x1_s)) 2).toInt < 99 → K_s v9 (h9.1, zup h9.2.1 73 3 ((h9.2.1 73 3) + v9), h9.2.2.1, h9.2.2.2)) ∧ (¬ ((zup h9.2.1 73 3 ((h9.2.1 73 3) + v9)) (20 + (zix x1_s)) 2).toInt < 99 → K_s v9 (h9.1, zup (zup h9.2.1 73 3 ((h9.2.1 73 3) + v9)) 73 4 ((h9.2.1 73 4) + 1), h9.2.2.1, h9.2.2.2))))))))) ∧ (¬ (h_s.2.1 (20 + (zix x1_s)) 2).toInt < 99 → K_s (-5) h_s)))) ∧ (¬ x2_s.toInt < (h_s.2.1 7 8).toInt → K_s (-1) h_s))))) ∧ (¬ x1_s.toInt < (h_s.2.1 7 7).toInt → K_s (-1) h_s)))) : wF (F_s + 1) 118 (0, [some (.ref 6), some (.int x1_s), some (.int x2_s), none, none, none], [], h_s) (gI K_s) := by
  refine w_0 (pc := 0) (e_s := (3, 1, 0, 0, 0, .null, [])) (y_s := (1, [some (.ref _), some (.int _), some (.int _), none, none, none], [.ref _], _)) rfl (u_ rfl) ?_
  refine w20r (pc := 1) (len_s := 3) (q_s := 7) rfl (krq hk rfl) ?_
  refine w_t (pc := 4) (e_s := (1, 1, 1, 0, 0, .null, [])) (y_s := (5, [some (.ref _), some (.int _), some (.int _), none, none, none], [.int _, .ref _], _)) rfl (u_ rfl) ?_
  refine wcI (pc := 5) (len_s := 3) rfl rfl (l := [some (.ref _), some (.int _)]) rfl ?_
  refine w_t (pc := 0) (e_s := (1, 1, 1, 0, 0, .null, [])) (y_s := (1, [some (.ref _), some (.int _)], [.int _], _)) rfl (u_ rfl) ?_
  refine wq2 (pc := 1) (len_s := 3) rfl rfl (fun c1_s => ?_) (fun c1_s => ?_)
  · replace t_s := t_s.1 c1_s
    refine w_t (pc := 16) (e_s := (0, 1, 0, 0, 0, .int 0, [])) (y_s := (17, [some (.ref _), some (.int _)], [.int _], _)) rfl (u_ rfl) ?_
    refine wrI (pc := 17) (len_s := 1) rfl hk ?_
    show wF _ 118 (8, [some (.ref _), some (.int _), some (.int _), none, none, none], [.int _], _) _
    refine w_t (pc := 8) (e_s := (15, 3, 22, 0, 0, .null, [])) (y_s := (22, [some (.ref _), some (.int _), some (.int _), none, none, none], [], _)) rfl (u_ rfl) ?_
    refine w_t (pc := 22) (e_s := (0, 1, 0, 0, 0, .int (-1), [])) (y_s := (23, [some (.ref _), some (.int _), some (.int _), none, none, none], [.int _], _)) rfl (u_ rfl) ?_
    exact wrI (pc := 23) (len_s := 1) rfl hk t_s
  · replace t_s := t_s.2 c1_s
    refine w_t (pc := 4) (e_s := (1, 1, 1, 0, 0, .null, [])) (y_s := (5, [some (.ref _), some (.int _)], [.int _], _)) rfl (u_ rfl) ?_
    refine w_t (pc := 5) (e_s := (3, 1, 0, 0, 0, .null, [])) (y_s := (6, [some (.ref _), some (.int _)], [.ref _, .int _], _)) rfl (u_ rfl) ?_
    refine w20 (pc := 6) (len_s := 3) rfl ?_
    refine wi3 (pc := 9) (len_s := 3) rfl rfl rfl (fun c2_s => ?_) (fun c2_s => ?_)
    · replace t_s := t_s.1 c2_s
      refine w_t (pc := 12) (e_s := (0, 1, 0, 0, 0, .int 1, [])) (y_s := (13, [some (.ref _), some (.int _)], [.int _], _)) rfl (u_ rfl) ?_
      refine w_t (pc := 13) (e_s := (17, 3, 17, 0, 0, .null, [])) (y_s := (17, [some (.ref _), some (.int _)], [.int _], _)) rfl (u_ rfl) ?_
      refine wrI (pc := 17) (len_s := 1) rfl hk ?_
      show wF _ 118 (8, [some (.ref _), some (.int _), some (.int _), none, none, none], [.int _], _) _
      refine w_t (pc := 8) (e_s := (15, 3, 22, 0, 0, .null, [])) (y_s := (11, [some (.ref _), some (.int _), some (.int _), none, none, none], [], _)) rfl (u_ rfl) ?_
      refine w_t (pc := 11) (e_s := (3, 1, 0, 0, 0, .null, [])) (y_s := (12, [some (.ref _), some (.int _), some (.int _), none, none, none], [.ref _], _)) rfl (u_ rfl) ?_
      refine w20r (pc := 12) (len_s := 3) (q_s := 7) rfl (krq hk rfl) ?_
      refine w_t (pc := 15) (e_s := (1, 1, 2, 0, 0, .null, [])) (y_s := (16, [some (.ref _), some (.int _), some (.int _), none, none, none], [.int _, .ref _], _)) rfl (u_ rfl) ?_
      refine wcI (pc := 16) (len_s := 3) rfl rfl (l := [some (.ref _), some (.int _)]) rfl ?_
      refine w_t (pc := 0) (e_s := (1, 1, 1, 0, 0, .null, [])) (y_s := (1, [some (.ref _), some (.int _)], [.int _], _)) rfl (u_ rfl) ?_
      refine wq2 (pc := 1) (len_s := 3) rfl rfl (fun c3_s => ?_) (fun c3_s => ?_)
      · replace t_s := t_s.1 c3_s
        refine w_t (pc := 16) (e_s := (0, 1, 0, 0, 0, .int 0, [])) (y_s := (17, [some (.ref _), some (.int _)], [.int _], _)) rfl (u_ rfl) ?_
        refine wrI (pc := 17) (len_s := 1) rfl hk ?_
        show wF _ 118 (19, [some (.ref _), some (.int _), some (.int _), none, none, none], [.int _], _) _
        refine w_t (pc := 19) (e_s := (15, 3, 24, 1, 0, .null, [])) (y_s := (22, [some (.ref _), some (.int _), some (.int _), none, none, none], [], _)) rfl (u_ rfl) ?_
        refine w_t (pc := 22) (e_s := (0, 1, 0, 0, 0, .int (-1), [])) (y_s := (23, [some (.ref _), some (.int _), some (.int _), none, none, none], [.int _], _)) rfl (u_ rfl) ?_
        exact wrI (pc := 23) (len_s := 1) rfl hk t_s
      · replace t_s := t_s.2 c3_s
        refine w_t (pc := 4) (e_s := (1, 1, 1, 0, 0, .null, [])) (y_s := (5, [some (.ref _), some (.int _)], [.int _], _)) rfl (u_ rfl) ?_
        refine w_t (pc := 5) (e_s := (3, 1, 0, 0, 0, .null, [])) (y_s := (6, [some (.ref _), some (.int _)], [.ref _, .int _], _)) rfl (u_ rfl) ?_
        refine w20 (pc := 6) (len_s := 3) rfl ?_
        refine wi3 (pc := 9) (len_s := 3) rfl rfl rfl (fun c4_s => ?_) (fun c4_s => ?_)
        · replace t_s := t_s.1 c4_s
          refine w_t (pc := 12) (e_s := (0, 1, 0, 0, 0, .int 1, [])) (y_s := (13, [some (.ref _), some (.int _)], [.int _], _)) rfl (u_ rfl) ?_
          refine w_t (pc := 13) (e_s := (17, 3, 17, 0, 0, .null, [])) (y_s := (17, [some (.ref _), some (.int _)], [.int _], _)) rfl (u_ rfl) ?_
          refine wrI (pc := 17) (len_s := 1) rfl hk ?_
          show wF _ 118 (19, [some (.ref _), some (.int _), some (.int _), none, none, none], [.int _], _) _
          refine w_t (pc := 19) (e_s := (15, 3, 24, 1, 0, .null, [])) (y_s := (24, [some (.ref _), some (.int _), some (.int _), none, none, none], [], _)) rfl (u_ rfl) ?_
          refine w_t (pc := 24) (e_s := (3, 1, 0, 0, 0, .null, [])) (y_s := (25, [some (.ref _), some (.int _), some (.int _), none, none, none], [.ref _], _)) rfl (u_ rfl) ?_
          refine w20r (pc := 25) (len_s := 3) (q_s := 7) rfl (krq hk rfl) ?_
          refine w20r (pc := 28) (len_s := 3) (q_s := 10) rfl (krq hk rfl) ?_
          refine w_t (pc := 31) (e_s := (1, 1, 1, 0, 0, .null, [])) (y_s := (32, [some (.ref _), some (.int _), some (.int _), none, none, none], [.int _, .ref _], _)) rfl (u_ rfl) ?_
          refine w24 (g_s := fun j_ => 20 + j_) (pc := 32) (len_s := 1) hk rfl (hk.1 10 2 8 rfl rfl) kg10 (fun c5_s => ?_)
          replace t_s := t_s c5_s
          refine w_t (pc := 33) (e_s := (6, 1, 3, 0, 0, .null, [])) (y_s := (34, [some (.ref _), some (.int _), some (.int _), some (.ref _), none, none], [], _)) rfl (u_ rfl) ?_
          refine w_t (pc := 34) (e_s := (3, 1, 0, 0, 0, .null, [])) (y_s := (35, [some (.ref _), some (.int _), some (.int _), some (.ref _), none, none], [.ref _], _)) rfl (u_ rfl) ?_
          refine w20r (pc := 35) (len_s := 3) (q_s := 7) rfl (krq hk rfl) ?_
          refine w20r (pc := 38) (len_s := 3) (q_s := 11) rfl (krq hk rfl) ?_
          refine w_t (pc := 41) (e_s := (1, 1, 2, 0, 0, .null, [])) (y_s := (42, [some (.ref _), some (.int _), some (.int _), some (.ref _), none, none], [.int _, .ref _], _)) rfl (u_ rfl) ?_
          refine w24 (g_s := fun j_ => 28 + j_) (pc := 42) (len_s := 1) hk rfl (hk.1 11 3 12 rfl rfl) kg11 (fun c6_s => ?_)
          replace t_s := t_s c6_s
          refine w_t (pc := 43) (e_s := (6, 2, 4, 0, 0, .null, [])) (y_s := (45, [some (.ref _), some (.int _), some (.int _), some (.ref _), some (.ref _), none], [], _)) rfl (u_ rfl) ?_
          refine w_t (pc := 45) (e_s := (3, 1, 3, 0, 0, .null, [])) (y_s := (46, [some (.ref _), some (.int _), some (.int _), some (.ref _), some (.ref _), none], [.ref _], _)) rfl (u_ rfl) ?_
          refine w_t (pc := 46) (e_s := (3, 2, 4, 0, 0, .null, [])) (y_s := (48, [some (.ref _), some (.int _), some (.int _), some (.ref _), some (.ref _), none], [.ref _, .ref _], _)) rfl (u_ rfl) ?_
          refine wcI (pc := 48) (len_s := 3) rfl rfl (l := [some (.ref _), some (.ref _)]) rfl ?_
          refine w_t (pc := 0) (e_s := (3, 1, 0, 0, 0, .null, [])) (y_s := (1, [some (.ref _), some (.ref _)], [.ref _], _)) rfl (u_ rfl) ?_
          refine wcI (pc := 1) (len_s := 3) rfl rfl (l := [some (.ref _)]) rfl ?_
          refine w_t (pc := 0) (e_s := (3, 1, 0, 0, 0, .null, [])) (y_s := (1, [some (.ref _)], [.ref _], _)) rfl (u_ rfl) ?_
          refine w20 (pc := 1) (len_s := 3) rfl ?_
          refine w_t (pc := 4) (e_s := (0, 2, 0, 0, 0, .int 99, [])) (y_s := (6, [some (.ref _)], [.int _, .int _], _)) rfl (u_ rfl) ?_
          refine wi2 (pc := 6) (len_s := 3) (Y := 99) rfl rfl (by decide) (fun c7_s => ?_) (fun c7_s => ?_)
          · replace t_s := t_s.1 c7_s
            refine w_t (pc := 13) (e_s := (0, 1, 0, 0, 0, .int 0, [])) (y_s := (14, [some (.ref _)], [.int _], _)) rfl (u_ rfl) ?_
            refine wrI (pc := 14) (len_s := 1) rfl hk ?_
            show wF _ 40 (4, [some (.ref _), some (.ref _)], [.int _], _) _
            refine w_t (pc := 4) (e_s := (15, 3, 19, 1, 0, .null, [])) (y_s := (7, [some (.ref _), some (.ref _)], [], _)) rfl (u_ rfl) ?_
            refine w_t (pc := 7) (e_s := (3, 1, 0, 0, 0, .null, [])) (y_s := (8, [some (.ref _), some (.ref _)], [.ref _], _)) rfl (u_ rfl) ?_
            refine w_t (pc := 8) (e_s := (3, 1, 1, 0, 0, .null, [])) (y_s := (9, [some (.ref _), some (.ref _)], [.ref _, .ref _], _)) rfl (u_ rfl) ?_
            refine wcI (pc := 9) (len_s := 3) rfl rfl (l := [some (.ref _), some (.ref _)]) rfl ?_
            refine w_t (pc := 0) (e_s := (3, 1, 1, 0, 0, .null, [])) (y_s := (1, [some (.ref _), some (.ref _)], [.ref _], _)) rfl (u_ rfl) ?_
            refine w20 (pc := 1) (len_s := 3) rfl ?_
            refine w_t (pc := 4) (e_s := (3, 1, 0, 0, 0, .null, [])) (y_s := (5, [some (.ref _), some (.ref _)], [.ref _, .int _], _)) rfl (u_ rfl) ?_
            refine wcI (pc := 5) (len_s := 3) rfl rfl (l := [some (.ref _)]) rfl ?_
            refine w_t (pc := 0) (e_s := (0, 2, 0, 0, 0, .int 9, [])) (y_s := (2, [some (.ref _)], [.int _], _)) rfl (u_ rfl) ?_
            refine w_t (pc := 2) (e_s := (3, 1, 0, 0, 0, .null, [])) (y_s := (3, [some (.ref _)], [.ref _, .int _], _)) rfl (u_ rfl) ?_
            refine w20 (pc := 3) (len_s := 3) rfl ?_
            refine w_t (pc := 6) (e_s := (0, 2, 0, 0, 0, .int 11, [])) (y_s := (8, [some (.ref _)], [.int _, .int _, .int _], _)) rfl (u_ rfl) ?_
            refine w8 (pc := 8) (len_s := 1) rfl ?_
            refine w_t (pc := 9) (e_s := (7, 1, 0, 1, 0, .null, [])) (y_s := (10, [some (.ref _)], [.int (_ - _)], _)) rfl (u_ rfl) ?_
            refine wrI (pc := 10) (len_s := 1) rfl hk ?_
            show wF _ 39 (8, [some (.ref _), some (.ref _)], [.int _, .int _], _) _
            refine wi4 (pc := 8) (len_s := 3) rfl rfl rfl (fun c8_s => ?_) (fun c8_s => ?_)
            · replace t_s := t_s.1 c8_s
              refine w_t (pc := 15) (e_s := (0, 1, 0, 0, 0, .int 0, [])) (y_s := (16, [some (.ref _), some (.ref _)], [.int _], _)) rfl (u_ rfl) ?_
              refine wrI (pc := 16) (len_s := 1) rfl hk ?_
              show wF _ 40 (12, [some (.ref _), some (.ref _)], [.int _], _) _
              refine w_t (pc := 12) (e_s := (15, 3, 19, 0, 0, .null, [])) (y_s := (19, [some (.ref _), some (.ref _)], [], _)) rfl (u_ rfl) ?_
              refine w_t (pc := 19) (e_s := (0, 1, 0, 0, 0, .int 0, [])) (y_s := (20, [some (.ref _), some (.ref _)], [.int _], _)) rfl (u_ rfl) ?_
              refine wrI (pc := 20) (len_s := 1) rfl hk ?_
              show wF _ 118 (51, [some (.ref _), some (.int _), some (.int _), some (.ref _), some (.ref _), none], [.int _], _) _
              refine w_t (pc := 51) (e_s := (15, 3, 57, 1, 0, .null, [])) (y_s := (54, [some (.ref _), some (.int _), some (.int _), some (.ref _), some (.ref _), none], [], _)) rfl (u_ rfl) ?_
              refine w_t (pc := 54) (e_s := (0, 2, 0, 0, 0, .int (-5), [])) (y_s := (56, [some (.ref _), some (.int _), some (.int _), some (.ref _), some (.ref _), none], [.int _], _)) rfl (u_ rfl) ?_
              exact wrI (pc := 56) (len_s := 1) rfl hk t_s
            · replace t_s := t_s.2 c8_s
              refine w_t (pc := 11) (e_s := (0, 1, 0, 0, 0, .int 1, [])) (y_s := (12, [some (.ref _), some (.ref _)], [.int _], _)) rfl (u_ rfl) ?_
              refine w_t (pc := 12) (e_s := (17, 3, 16, 0, 0, .null, [])) (y_s := (16, [some (.ref _), some (.ref _)], [.int _], _)) rfl (u_ rfl) ?_
              refine wrI (pc := 16) (len_s := 1) rfl hk ?_
              show wF _ 40 (12, [some (.ref _), some (.ref _)], [.int _], _) _
              refine w_t (pc := 12) (e_s := (15, 3, 19, 0, 0, .null, [])) (y_s := (15, [some (.ref _), some (.ref _)], [], _)) rfl (u_ rfl) ?_
              refine w_t (pc := 15) (e_s := (0, 1, 0, 0, 0, .int 1, [])) (y_s := (16, [some (.ref _), some (.ref _)], [.int _], _)) rfl (u_ rfl) ?_
              refine w_t (pc := 16) (e_s := (17, 3, 20, 0, 0, .null, [])) (y_s := (20, [some (.ref _), some (.ref _)], [.int _], _)) rfl (u_ rfl) ?_
              refine wrI (pc := 20) (len_s := 1) rfl hk ?_
              show wF _ 118 (51, [some (.ref _), some (.int _), some (.int _), some (.ref _), some (.ref _), none], [.int _], _) _
              refine w_t (pc := 51) (e_s := (15, 3, 57, 1, 0, .null, [])) (y_s := (57, [some (.ref _), some (.int _), some (.int _), some (.ref _), some (.ref _), none], [], _)) rfl (u_ rfl) ?_
              refine w_t (pc := 57) (e_s := (3, 1, 0, 0, 0, .null, [])) (y_s := (58, [some (.ref _), some (.int _), some (.int _), some (.ref _), some (.ref _), none], [.ref _], _)) rfl (u_ rfl) ?_
              refine w20r (pc := 58) (len_s := 3) (q_s := 7) rfl (krq hk rfl) ?_
              refine w_t (pc := 61) (e_s := (3, 1, 3, 0, 0, .null, [])) (y_s := (62, [some (.ref _), some (.int _), some (.int _), some (.ref _), some (.ref _), none], [.ref _, .ref _], _)) rfl (u_ rfl) ?_
              refine w_t (pc := 62) (e_s := (3, 2, 4, 0, 0, .null, [])) (y_s := (64, [some (.ref _), some (.int _), some (.int _), some (.ref _), some (.ref _), none], [.ref _, .ref _, .ref _], _)) rfl (u_ rfl) ?_
              refine wcI (pc := 64) (len_s := 3) rfl rfl (l := [some (.ref _), some (.ref _), some (.ref _), none, none]) rfl (wmI t_s (fun v9 h9 hk t_s => ?_))
              replace t_s := t_s hk
              refine w_t (pc := 67) (e_s := (4, 2, 5, 0, 0, .null, [])) (y_s := (69, [some (.ref _), some (.int _), some (.int _), some (.ref _), some (.ref _), some (.int _)], [], _)) rfl (u_ rfl) ?_
              refine w_t (pc := 69) (e_s := (3, 1, 0, 0, 0, .null, [])) (y_s := (70, [some (.ref _), some (.int _), some (.int _), some (.ref _), some (.ref _), some (.int _)], [.ref _], _)) rfl (u_ rfl) ?_
              refine w20r (pc := 70) (len_s := 3) (q_s := 73) rfl (krq hk rfl) ?_
              refine w_t (pc := 73) (e_s := (0, 1, 0, 0, 0, .int 3, [])) (y_s := (74, [some (.ref _), some (.int _), some (.int _), some (.ref _), some (.ref _), some (.int _)], [.int _, .ref _], _)) rfl (u_ rfl) ?_
              refine w_t (pc := 74) (e_s := (41, 1, 0, 0, 0, .null, [])) (y_s := (75, [some (.ref _), some (.int _), some (.int _), some (.ref _), some (.ref _), some (.int _)], [.int _, .ref _, .int _, .ref _], _)) rfl (u_ rfl) ?_
              refine w22 (pc := 75) (len_s := 1) rfl (hk.1 73 0 5 rfl rfl) (fun c10_s => ?_)
              refine w_t (pc := 76) (e_s := (1, 2, 5, 0, 0, .null, [])) (y_s := (78, [some (.ref _), some (.int _), some (.int _), some (.ref _), some (.ref _), some (.int _)], [.int _, .int _, .int _, .ref _], _)) rfl (u_ rfl) ?_
              refine w_t (pc := 78) (e_s := (7, 1, 0, 0, 0, .null, [])) (y_s := (79, [some (.ref _), some (.int _), some (.int _), some (.ref _), some (.ref _), some (.int _)], [.int (_ + _), .int _, .ref _], _)) rfl (u_ rfl) ?_
              refine w25 (pc := 79) (len_s := 1) rfl (hk.1 73 0 5 rfl rfl) (fun c11_s => ?_)
              refine w_t (pc := 80) (e_s := (1, 2, 5, 0, 0, .null, [])) (y_s := (82, [some (.ref _), some (.int _), some (.int _), some (.ref _), some (.ref _), some (.int _)], [.int _], _)) rfl (u_ rfl) ?_
              refine w_t (pc := 82) (e_s := (3, 2, 4, 0, 0, .null, [])) (y_s := (84, [some (.ref _), some (.int _), some (.int _), some (.ref _), some (.ref _), some (.int _)], [.ref _, .int _], _)) rfl (u_ rfl) ?_
              refine w20 (pc := 84) (len_s := 3) rfl ?_
              refine wi1 (pc := 87) (len_s := 3) rfl rfl rfl (fun c12_s => ?_) (fun c12_s => ?_)
              · replace t_s := t_s.1 c12_s
                refine w_t (pc := 90) (e_s := (3, 1, 0, 0, 0, .null, [])) (y_s := (91, [some (.ref _), some (.int _), some (.int _), some (.ref _), some (.ref _), some (.int _)], [.ref _], _)) rfl (u_ rfl) ?_
                refine w20r (pc := 91) (len_s := 3) (q_s := 73) rfl (krq hk rfl) ?_
                refine w_t (pc := 94) (e_s := (0, 1, 0, 0, 0, .int 2, [])) (y_s := (95, [some (.ref _), some (.int _), some (.int _), some (.ref _), some (.ref _), some (.int _)], [.int _, .ref _], _)) rfl (u_ rfl) ?_
                refine w_t (pc := 95) (e_s := (41, 1, 0, 0, 0, .null, [])) (y_s := (96, [some (.ref _), some (.int _), some (.int _), some (.ref _), some (.ref _), some (.int _)], [.int _, .ref _, .int _, .ref _], _)) rfl (u_ rfl) ?_
                refine w22 (pc := 96) (len_s := 1) rfl (hk.1 73 0 5 rfl rfl) (fun c13_s => ?_)
                refine w_t (pc := 97) (e_s := (0, 1, 0, 0, 0, .int 1, [])) (y_s := (98, [some (.ref _), some (.int _), some (.int _), some (.ref _), some (.ref _), some (.int _)], [.int _, .int _, .int _, .ref _], _)) rfl (u_ rfl) ?_
                refine w_t (pc := 98) (e_s := (7, 1, 0, 0, 0, .null, [])) (y_s := (99, [some (.ref _), some (.int _), some (.int _), some (.ref _), some (.ref _), some (.int _)], [.int (_ + _), .int _, .ref _], _)) rfl (u_ rfl) ?_
                refine w25 (pc := 99) (len_s := 1) rfl (hk.1 73 0 5 rfl rfl) (fun c14_s => ?_)
                refine w_t (pc := 100) (e_s := (3, 1, 3, 0, 0, .null, [])) (y_s := (101, [some (.ref _), some (.int _), some (.int _), some (.ref _), some (.ref _), some (.int _)], [.ref _], _)) rfl (u_ rfl) ?_
                refine wcI (pc := 101) (len_s := 3) rfl rfl (l := [some (.ref _)]) rfl ?_
                refine w_t (pc := 0) (e_s := (3, 1, 0, 0, 0, .null, [])) (y_s := (1, [some (.ref _)], [.ref _], _)) rfl (u_ rfl) ?_
                refine w20 (pc := 1) (len_s := 3) rfl ?_
                refine w_t (pc := 4) (e_s := (0, 2, 0, 0, 0, .int 99, [])) (y_s := (6, [some (.ref _)], [.int _, .int _], _)) rfl (u_ rfl) ?_
                refine wi2 (pc := 6) (len_s := 3) (Y := 99) rfl rfl (by decide) (fun c15_s => ?_) (fun c15_s => ?_)
                · replace t_s := t_s.1 c15_s
                  refine w_t (pc := 13) (e_s := (0, 1, 0, 0, 0, .int 0, [])) (y_s := (14, [some (.ref _)], [.int _], _)) rfl (u_ rfl) ?_
                  refine wrI (pc := 14) (len_s := 1) rfl hk ?_
                  show wF _ 118 (104, [some (.ref _), some (.int _), some (.int _), some (.ref _), some (.ref _), some (.int _)], [.int _], _) _
                  refine w_t (pc := 104) (e_s := (15, 3, 117, 0, 0, .null, [])) (y_s := (117, [some (.ref _), some (.int _), some (.int _), some (.ref _), some (.ref _), some (.int _)], [], _)) rfl (u_ rfl) ?_
                  refine w_t (pc := 117) (e_s := (1, 2, 5, 0, 0, .null, [])) (y_s := (119, [some (.ref _), some (.int _), some (.int _), some (.ref _), some (.ref _), some (.int _)], [.int _], _)) rfl (u_ rfl) ?_
                  exact wrI (pc := 119) (len_s := 1) rfl hk t_s
                · replace t_s := t_s.2 c15_s
                  refine w_t (pc := 9) (e_s := (0, 1, 0, 0, 0, .int 1, [])) (y_s := (10, [some (.ref _)], [.int _], _)) rfl (u_ rfl) ?_
                  refine w_t (pc := 10) (e_s := (17, 3, 14, 0, 0, .null, [])) (y_s := (14, [some (.ref _)], [.int _], _)) rfl (u_ rfl) ?_
                  refine wrI (pc := 14) (len_s := 1) rfl hk ?_
                  show wF _ 118 (104, [some (.ref _), some (.int _), some (.int _), some (.ref _), some (.ref _), some (.int _)], [.int _], _) _
                  refine w_t (pc := 104) (e_s := (15, 3, 117, 0, 0, .null, [])) (y_s := (107, [some (.ref _), some (.int _), some (.int _), some (.ref _), some (.ref _), some (.int _)], [], _)) rfl (u_ rfl) ?_
                  refine w_t (pc := 107) (e_s := (3, 1, 0, 0, 0, .null, [])) (y_s := (108, [some (.ref _), some (.int _), some (.int _), some (.ref _), some (.ref _), some (.int _)], [.ref _], _)) rfl (u_ rfl) ?_
                  refine w20r (pc := 108) (len_s := 3) (q_s := 73) rfl (krq hk rfl) ?_
                  refine w_t (pc := 111) (e_s := (0, 1, 0, 0, 0, .int 4, [])) (y_s := (112, [some (.ref _), some (.int _), some (.int _), some (.ref _), some (.ref _), some (.int _)], [.int _, .ref _], _)) rfl (u_ rfl) ?_
                  refine w_t (pc := 112) (e_s := (41, 1, 0, 0, 0, .null, [])) (y_s := (113, [some (.ref _), some (.int _), some (.int _), some (.ref _), some (.ref _), some (.int _)], [.int _, .ref _, .int _, .ref _], _)) rfl (u_ rfl) ?_
                  refine w22 (pc := 113) (len_s := 1) rfl (hk.1 73 0 5 rfl rfl) (fun c16 => ?_)
                  refine w_t (pc := 114) (e_s := (0, 1, 0, 0, 0, .int 1, [])) (y_s := (115, [some (.ref _), some (.int _), some (.int _), some (.ref _), some (.ref _), some (.int _)], [.int _, .int _, .int _, .ref _], _)) rfl (u_ rfl) ?_
                  refine w_t (pc := 115) (e_s := (7, 1, 0, 0, 0, .null, [])) (y_s := (116, [some (.ref _), some (.int _), some (.int _), some (.ref _), some (.ref _), some (.int _)], [.int (_ + _), .int _, .ref _], _)) rfl (u_ rfl) ?_
                  refine w25 (pc := 116) (len_s := 1) rfl (hk.1 73 0 5 rfl rfl) (fun c17 => ?_)
                  refine w_t (pc := 117) (e_s := (1, 2, 5, 0, 0, .null, [])) (y_s := (119, [some (.ref _), some (.int _), some (.int _), some (.ref _), some (.ref _), some (.int _)], [.int _], _)) rfl (u_ rfl) ?_
                  exact wrI (pc := 119) (len_s := 1) rfl hk t_s
              · replace t_s := t_s.2 c12_s
                refine w_t (pc := 100) (e_s := (3, 1, 3, 0, 0, .null, [])) (y_s := (101, [some (.ref _), some (.int _), some (.int _), some (.ref _), some (.ref _), some (.int _)], [.ref _], _)) rfl (u_ rfl) ?_
                refine wcI (pc := 101) (len_s := 3) rfl rfl (l := [some (.ref _)]) rfl ?_
                refine w_t (pc := 0) (e_s := (3, 1, 0, 0, 0, .null, [])) (y_s := (1, [some (.ref _)], [.ref _], _)) rfl (u_ rfl) ?_
                refine w20 (pc := 1) (len_s := 3) rfl ?_
                refine w_t (pc := 4) (e_s := (0, 2, 0, 0, 0, .int 99, [])) (y_s := (6, [some (.ref _)], [.int _, .int _], _)) rfl (u_ rfl) ?_
                refine wi2 (pc := 6) (len_s := 3) (Y := 99) rfl rfl (by decide) (fun c18_s => ?_) (fun c18_s => ?_)
                · replace t_s := t_s.1 c18_s
                  refine w_t (pc := 13) (e_s := (0, 1, 0, 0, 0, .int 0, [])) (y_s := (14, [some (.ref _)], [.int _], _)) rfl (u_ rfl) ?_
                  refine wrI (pc := 14) (len_s := 1) rfl hk ?_
                  show wF _ 118 (104, [some (.ref _), some (.int _), some (.int _), some (.ref _), some (.ref _), some (.int _)], [.int _], _) _
                  refine w_t (pc := 104) (e_s := (15, 3, 117, 0, 0, .null, [])) (y_s := (117, [some (.ref _), some (.int _), some (.int _), some (.ref _), some (.ref _), some (.int _)], [], _)) rfl (u_ rfl) ?_
                  refine w_t (pc := 117) (e_s := (1, 2, 5, 0, 0, .null, [])) (y_s := (119, [some (.ref _), some (.int _), some (.int _), some (.ref _), some (.ref _), some (.int _)], [.int _], _)) rfl (u_ rfl) ?_
                  exact wrI (pc := 119) (len_s := 1) rfl hk t_s
                · replace t_s := t_s.2 c18_s
                  refine w_t (pc := 9) (e_s := (0, 1, 0, 0, 0, .int 1, [])) (y_s := (10, [some (.ref _)], [.int _], _)) rfl (u_ rfl) ?_
                  refine w_t (pc := 10) (e_s := (17, 3, 14, 0, 0, .null, [])) (y_s := (14, [some (.ref _)], [.int _], _)) rfl (u_ rfl) ?_
                  refine wrI (pc := 14) (len_s := 1) rfl hk ?_
                  show wF _ 118 (104, [some (.ref _), some (.int _), some (.int _), some (.ref _), some (.ref _), some (.int _)], [.int _], _) _
                  refine w_t (pc := 104) (e_s := (15, 3, 117, 0, 0, .null, [])) (y_s := (107, [some (.ref _), some (.int _), some (.int _), some (.ref _), some (.ref _), some (.int _)], [], _)) rfl (u_ rfl) ?_
                  refine w_t (pc := 107) (e_s := (3, 1, 0, 0, 0, .null, [])) (y_s := (108, [some (.ref _), some (.int _), some (.int _), some (.ref _), some (.ref _), some (.int _)], [.ref _], _)) rfl (u_ rfl) ?_
                  refine w20r (pc := 108) (len_s := 3) (q_s := 73) rfl (krq hk rfl) ?_
                  refine w_t (pc := 111) (e_s := (0, 1, 0, 0, 0, .int 4, [])) (y_s := (112, [some (.ref _), some (.int _), some (.int _), some (.ref _), some (.ref _), some (.int _)], [.int _, .ref _], _)) rfl (u_ rfl) ?_
                  refine w_t (pc := 112) (e_s := (41, 1, 0, 0, 0, .null, [])) (y_s := (113, [some (.ref _), some (.int _), some (.int _), some (.ref _), some (.ref _), some (.int _)], [.int _, .ref _, .int _, .ref _], _)) rfl (u_ rfl) ?_
                  refine w22 (pc := 113) (len_s := 1) rfl (hk.1 73 0 5 rfl rfl) (fun c19_s => ?_)
                  refine w_t (pc := 114) (e_s := (0, 1, 0, 0, 0, .int 1, [])) (y_s := (115, [some (.ref _), some (.int _), some (.int _), some (.ref _), some (.ref _), some (.int _)], [.int _, .int _, .int _, .ref _], _)) rfl (u_ rfl) ?_
                  refine w_t (pc := 115) (e_s := (7, 1, 0, 0, 0, .null, [])) (y_s := (116, [some (.ref _), some (.int _), some (.int _), some (.ref _), some (.ref _), some (.int _)], [.int (_ + _), .int _, .ref _], _)) rfl (u_ rfl) ?_
                  refine w25 (pc := 116) (len_s := 1) rfl (hk.1 73 0 5 rfl rfl) (fun c20_s => ?_)
                  refine w_t (pc := 117) (e_s := (1, 2, 5, 0, 0, .null, [])) (y_s := (119, [some (.ref _), some (.int _), some (.int _), some (.ref _), some (.ref _), some (.int _)], [.int _], _)) rfl (u_ rfl) ?_
                  exact wrI (pc := 119) (len_s := 1) rfl hk t_s
          · replace t_s := t_s.2 c7_s
            refine w_t (pc := 9) (e_s := (0, 1, 0, 0, 0, .int 1, [])) (y_s := (10, [some (.ref _)], [.int _], _)) rfl (u_ rfl) ?_
            refine w_t (pc := 10) (e_s := (17, 3, 14, 0, 0, .null, [])) (y_s := (14, [some (.ref _)], [.int _], _)) rfl (u_ rfl) ?_
            refine wrI (pc := 14) (len_s := 1) rfl hk ?_
            show wF _ 40 (4, [some (.ref _), some (.ref _)], [.int _], _) _
            refine w_t (pc := 4) (e_s := (15, 3, 19, 1, 0, .null, [])) (y_s := (19, [some (.ref _), some (.ref _)], [], _)) rfl (u_ rfl) ?_
            refine w_t (pc := 19) (e_s := (0, 1, 0, 0, 0, .int 0, [])) (y_s := (20, [some (.ref _), some (.ref _)], [.int _], _)) rfl (u_ rfl) ?_
            refine wrI (pc := 20) (len_s := 1) rfl hk ?_
            show wF _ 118 (51, [some (.ref _), some (.int _), some (.int _), some (.ref _), some (.ref _), none], [.int _], _) _
            refine w_t (pc := 51) (e_s := (15, 3, 57, 1, 0, .null, [])) (y_s := (54, [some (.ref _), some (.int _), some (.int _), some (.ref _), some (.ref _), none], [], _)) rfl (u_ rfl) ?_
            refine w_t (pc := 54) (e_s := (0, 2, 0, 0, 0, .int (-5), [])) (y_s := (56, [some (.ref _), some (.int _), some (.int _), some (.ref _), some (.ref _), none], [.int _], _)) rfl (u_ rfl) ?_
            exact wrI (pc := 56) (len_s := 1) rfl hk t_s
        · replace t_s := t_s.2 c4_s
          refine w_t (pc := 16) (e_s := (0, 1, 0, 0, 0, .int 0, [])) (y_s := (17, [some (.ref _), some (.int _)], [.int _], _)) rfl (u_ rfl) ?_
          refine wrI (pc := 17) (len_s := 1) rfl hk ?_
          show wF _ 118 (19, [some (.ref _), some (.int _), some (.int _), none, none, none], [.int _], _) _
          refine w_t (pc := 19) (e_s := (15, 3, 24, 1, 0, .null, [])) (y_s := (22, [some (.ref _), some (.int _), some (.int _), none, none, none], [], _)) rfl (u_ rfl) ?_
          refine w_t (pc := 22) (e_s := (0, 1, 0, 0, 0, .int (-1), [])) (y_s := (23, [some (.ref _), some (.int _), some (.int _), none, none, none], [.int _], _)) rfl (u_ rfl) ?_
          exact wrI (pc := 23) (len_s := 1) rfl hk t_s
    · replace t_s := t_s.2 c2_s
      refine w_t (pc := 16) (e_s := (0, 1, 0, 0, 0, .int 0, [])) (y_s := (17, [some (.ref _), some (.int _)], [.int _], _)) rfl (u_ rfl) ?_
      refine wrI (pc := 17) (len_s := 1) rfl hk ?_
      show wF _ 118 (8, [some (.ref _), some (.int _), some (.int _), none, none, none], [.int _], _) _
      refine w_t (pc := 8) (e_s := (15, 3, 22, 0, 0, .null, [])) (y_s := (22, [some (.ref _), some (.int _), some (.int _), none, none, none], [], _)) rfl (u_ rfl) ?_
      refine w_t (pc := 22) (e_s := (0, 1, 0, 0, 0, .int (-1), [])) (y_s := (23, [some (.ref _), some (.int _), some (.int _), none, none, none], [.int _], _)) rfl (u_ rfl) ?_
      exact wrI (pc := 23) (len_s := 1) rfl hk t_s
/-- ColdShodModel.keepsOwn(I)V, from 0 on -/
theorem sg_210_0 {F_s : Nat} {x1_s : Int32} {h_s : zH} {K_s : zH → Prop} (hk : hKn h_s) (t_s : wF F_s 210 (2, [some (.ref 102), some (.int x1_s), some (.int 0)], [], h_s) (gV K_s)) : wF (F_s + 1) 210 (0, [some (.ref 102), some (.int x1_s), none], [], h_s) (gV K_s) := by
  refine w_0 (pc := 0) (e_s := (0, 1, 0, 0, 0, .int 0, [])) (y_s := (1, [some (.ref _), some (.int _), none], [.int _], _)) rfl (u_ rfl) ?_
  refine w_t (pc := 1) (e_s := (4, 1, 2, 0, 0, .null, [])) (y_s := (2, [some (.ref _), some (.int _), some (.int _)], [], _)) rfl (u_ rfl) ?_
  exact t_s
/-- ColdShodModel.keepsOwn(I)V, from 2 on -/
theorem sg_210_2 {F_s : Nat} {x1_s x2_s : Int32} {h_s : zH} {K_s : zH → Prop} (hk : hKn h_s) (t_s : (x2_s.toInt < 6 → (zix x2_s < 7 → (zix ((12 + (8 * x2_s)) + x1_s) < 104 → wF F_s 210 (2, [some (.ref 102), some (.int x1_s), some (.int (x2_s + 1))], [], (h_s.1, zup h_s.2.1 103 (zix ((12 + (8 * x2_s)) + x1_s)) (h_s.2.1 112 (zix x2_s)), h_s.2.2.1, h_s.2.2.2)) (gV K_s)))) ∧ (¬ x2_s.toInt < 6 → K_s h_s)) : wF (F_s + 1) 210 (2, [some (.ref 102), some (.int x1_s), some (.int x2_s)], [], h_s) (gV K_s) := by
  refine w_0 (pc := 2) (e_s := (1, 1, 2, 0, 0, .null, [])) (y_s := (3, [some (.ref _), some (.int _), some (.int _)], [.int _], _)) rfl (u_ rfl) ?_
  refine w_t (pc := 3) (e_s := (0, 2, 0, 0, 0, .int 6, [])) (y_s := (5, [some (.ref _), some (.int _), some (.int _)], [.int _, .int _], _)) rfl (u_ rfl) ?_
  refine wi3 (pc := 5) (len_s := 3) (Y := 6) rfl rfl (by decide) (fun c1_s => ?_) (fun c1_s => ?_)
  · replace t_s := t_s.1 c1_s
    refine w_t (pc := 8) (e_s := (3, 1, 0, 0, 0, .null, [])) (y_s := (9, [some (.ref _), some (.int _), some (.int _)], [.ref _], _)) rfl (u_ rfl) ?_
    refine w20r (pc := 9) (len_s := 3) (q_s := 103) rfl (krq hk rfl) ?_
    refine w_t (pc := 12) (e_s := (0, 2, 0, 0, 0, .int 12, [])) (y_s := (14, [some (.ref _), some (.int _), some (.int _)], [.int _, .ref _], _)) rfl (u_ rfl) ?_
    refine w_t (pc := 14) (e_s := (0, 2, 0, 0, 0, .int 8, [])) (y_s := (16, [some (.ref _), some (.int _), some (.int _)], [.int _, .int _, .ref _], _)) rfl (u_ rfl) ?_
    refine w_t (pc := 16) (e_s := (1, 1, 2, 0, 0, .null, [])) (y_s := (17, [some (.ref _), some (.int _), some (.int _)], [.int _, .int _, .int _, .ref _], _)) rfl (u_ rfl) ?_
    refine w_t (pc := 17) (e_s := (7, 1, 0, 2, 0, .null, [])) (y_s := (18, [some (.ref _), some (.int _), some (.int _)], [.int (_ * _), .int _, .ref _], _)) rfl (u_ rfl) ?_
    refine w_t (pc := 18) (e_s := (7, 1, 0, 0, 0, .null, [])) (y_s := (19, [some (.ref _), some (.int _), some (.int _)], [.int (_ + _), .ref _], _)) rfl (u_ rfl) ?_
    refine w_t (pc := 19) (e_s := (1, 1, 1, 0, 0, .null, [])) (y_s := (20, [some (.ref _), some (.int _), some (.int _)], [.int _, .int _, .ref _], _)) rfl (u_ rfl) ?_
    refine w_t (pc := 20) (e_s := (7, 1, 0, 0, 0, .null, [])) (y_s := (21, [some (.ref _), some (.int _), some (.int _)], [.int (_ + _), .ref _], _)) rfl (u_ rfl) ?_
    refine w_t (pc := 21) (e_s := (3, 1, 0, 0, 0, .null, [])) (y_s := (22, [some (.ref _), some (.int _), some (.int _)], [.ref _, .int _, .ref _], _)) rfl (u_ rfl) ?_
    refine w20r (pc := 22) (len_s := 3) (q_s := 112) rfl (krq hk rfl) ?_
    refine w_t (pc := 25) (e_s := (1, 1, 2, 0, 0, .null, [])) (y_s := (26, [some (.ref _), some (.int _), some (.int _)], [.int _, .ref _, .int _, .ref _], _)) rfl (u_ rfl) ?_
    refine w22 (pc := 26) (len_s := 1) rfl (hk.1 112 0 7 rfl rfl) (fun c2_s => ?_)
    replace t_s := t_s c2_s
    refine w25 (pc := 27) (len_s := 1) rfl (hk.1 103 0 104 rfl rfl) (fun c3_s => ?_)
    replace t_s := t_s c3_s
    refine w_t (pc := 28) (e_s := (19, 3, 2, 0, 0, .int 1, [])) (y_s := (31, [some (.ref _), some (.int _), some (.int _)], [], _)) rfl (u_ rfl) ?_
    refine w_t (pc := 31) (e_s := (17, 3, 2, 0, 0, .null, [])) (y_s := (2, [some (.ref _), some (.int _), some (.int _)], [], _)) rfl (u_ rfl) ?_
    exact t_s
  · replace t_s := t_s.2 c1_s
    exact wrV (pc := 34) (len_s := 1) rfl hk t_s
/-- ColdShodModel.goes(II)I, from 0 on -/
theorem sg_212_0 {F_s : Nat} {x1_s : Int32} {x2_s : Int32} {h_s : zH} {K_s : Int32 → zH → Prop} (hk : hKn h_s) (t_s : (x1_s.toInt < 0 → K_s (-1) h_s) ∧ (¬ x1_s.toInt < 0 → ((((h_s.2.1 102 7) - 1).toInt < x1_s.toInt → K_s (-1) h_s) ∧ (¬ ((h_s.2.1 102 7) - 1).toInt < x1_s.toInt → ((x2_s.toInt < 0 → K_s (-1) h_s) ∧ (¬ x2_s.toInt < 0 → ((((h_s.2.1 102 8) - 1).toInt < x2_s.toInt → K_s (-1) h_s) ∧ (¬ ((h_s.2.1 102 8) - 1).toInt < x2_s.toInt → wF F_s 178 (0, [some (.ref 102), some (.int x1_s), none], [], h_s) (gV (fun h5 => hKn h5 → ((h5.2.1 112 2).toInt < 99 → (zix (80 + x2_s) < 104 → ((9 - ((h5.2.1 112 2) / 11)).toInt < (h5.2.1 103 (zix (80 + x2_s))).toInt → K_s (-5) h5) ∧ (¬ (9 - ((h5.2.1 112 2) / 11)).toInt < (h5.2.1 103 (zix (80 + x2_s))).toInt → wF F_s 183 (0, [some (.ref 102), some (.int x2_s), none], [], h5) (gV (fun h11 => hKn h11 → wF F_s 210 (0, [some (.ref 102), some (.int x1_s), none], [], h11) (gV (fun h12 => hKn h12 → ((h12.2.1 102 23).toInt = 0 → (((h12.2.1 112 2).toInt = 99 → K_s (h12.2.1 102 22) (h12.1, zup (zup (zup h12.2.1 119 2 ((h12.2.1 119 2) + 0)) 119 3 ((h12.2.1 119 3) + (h12.2.1 102 22))) 119 4 ((h12.2.1 119 4) + 1), h12.2.2.1, h12.2.2.2)) ∧ (¬ (h12.2.1 112 2).toInt = 99 → K_s (h12.2.1 102 22) (h12.1, zup (zup (zup h12.2.1 119 2 ((h12.2.1 119 2) + 0)) 119 3 ((h12.2.1 119 3) + (h12.2.1 102 22))) 119 4 ((h12.2.1 119 4) + 0), h12.2.2.1, h12.2.2.2)))) ∧ (¬ (h12.2.1 102 23).toInt = 0 → (((h12.2.1 112 2).toInt = 99 → K_s (h12.2.1 102 22) (h12.1, zup (zup (zup h12.2.1 119 2 ((h12.2.1 119 2) + 1)) 119 3 ((h12.2.1 119 3) + (h12.2.1 102 22))) 119 4 ((h12.2.1 119 4) + 1), h12.2.2.1, h12.2.2.2)) ∧ (¬ (h12.2.1 112 2).toInt = 99 → K_s (h12.2.1 102 22) (h12.1, zup (zup (zup h12.2.1 119 2 ((h12.2.1 119 2) + 1)) 119 3 ((h12.2.1 119 3) + (h12.2.1 102 22))) 119 4 ((h12.2.1 119 4) + 0), h12.2.2.1, h12.2.2.2))))))))))) ∧ (¬ (h5.2.1 112 2).toInt < 99 → K_s (-5) h5))))))))))) : wF (F_s + 1) 212 (0, [some (.ref 102), some (.int x1_s), some (.int x2_s)], [], h_s) (gI K_s) := by
  refine w_0 (pc := 0) (e_s := (3, 1, 0, 0, 0, .null, [])) (y_s := (1, [some (.ref _), some (.int _), some (.int _)], [.ref _], _)) rfl (u_ rfl) ?_
  refine w_t (pc := 1) (e_s := (1, 1, 1, 0, 0, .null, [])) (y_s := (2, [some (.ref _), some (.int _), some (.int _)], [.int _, .ref _], _)) rfl (u_ rfl) ?_
  refine w_t (pc := 2) (e_s := (10, 1, 0, 0, 0, .null, [])) (y_s := (3, [some (.ref _), some (.int _), some (.int _)], [.long (Int32.toInt64 _), .ref _], _)) rfl (u_ rfl) ?_
  refine wcI (pc := 3) (len_s := 3) rfl rfl (l := [some (.ref _), some (.long _), none]) rfl ?_
  refine w_t (pc := 0) (e_s := (2, 1, 1, 0, 0, .null, [])) (y_s := (1, [some (.ref _), some (.long _), none], [.long _], _)) rfl (u_ rfl) ?_
  refine w_t (pc := 1) (e_s := (0, 1, 0, 0, 0, .long 0, [])) (y_s := (2, [some (.ref _), some (.long _), none], [.long _, .long _], _)) rfl (u_ rfl) ?_
  refine w_t (pc := 2) (e_s := (3, 1, 0, 0, 0, .null, [])) (y_s := (3, [some (.ref _), some (.long _), none], [.ref _, .long _, .long _], _)) rfl (u_ rfl) ?_
  refine w20 (pc := 3) (len_s := 3) rfl ?_
  refine w_t (pc := 6) (e_s := (0, 1, 0, 0, 0, .int 1, [])) (y_s := (7, [some (.ref _), some (.long _), none], [.int _, .int _, .long _, .long _], _)) rfl (u_ rfl) ?_
  refine w_t (pc := 7) (e_s := (7, 1, 0, 1, 0, .null, [])) (y_s := (8, [some (.ref _), some (.long _), none], [.int (_ - _), .long _, .long _], _)) rfl (u_ rfl) ?_
  refine w_t (pc := 8) (e_s := (10, 1, 0, 0, 0, .null, [])) (y_s := (9, [some (.ref _), some (.long _), none], [.long (Int32.toInt64 _), .long _, .long _], _)) rfl (u_ rfl) ?_
  refine wcI (pc := 9) (len_s := 3) rfl rfl (l := [some (.long _), none, some (.long _), none, some (.long _), none]) rfl ?_
  refine w_t (pc := 0) (e_s := (2, 1, 0, 0, 0, .null, [])) (y_s := (1, [some (.long _), none, some (.long _), none, some (.long _), none], [.long _], _)) rfl (u_ rfl) ?_
  refine w_t (pc := 1) (e_s := (2, 1, 2, 0, 0, .null, [])) (y_s := (2, [some (.long _), none, some (.long _), none, some (.long _), none], [.long _, .long _], _)) rfl (u_ rfl) ?_
  refine w_t (pc := 2) (e_s := (14, 1, 0, 0, 0, .null, [])) (y_s := (3, [some (.long _), none, some (.long _), none, some (.long _), none], [.int (lg_cmp _ _)], _)) rfl (u_ rfl) ?_
  refine wl2 (pc := 3) (len_s := 3) (Y := 0) rfl (Int32.toInt_toInt64 _) (by decide) (fun c1_s => ?_) (fun c1_s => ?_)
  · replace t_s := t_s.1 c1_s
    refine w_t (pc := 17) (e_s := (0, 1, 0, 0, 0, .int 0, [])) (y_s := (18, [some (.long _), none, some (.long _), none, some (.long _), none], [.int _], _)) rfl (u_ rfl) ?_
    refine wrI (pc := 18) (len_s := 1) rfl hk ?_
    show wF _ 152 (12, [some (.ref _), some (.long _), none], [.int _], _) _
    refine wrI (pc := 12) (len_s := 1) rfl hk ?_
    show wF _ 212 (6, [some (.ref _), some (.int _), some (.int _)], [.int _], _) _
    refine w_t (pc := 6) (e_s := (15, 3, 18, 0, 0, .null, [])) (y_s := (18, [some (.ref _), some (.int _), some (.int _)], [], _)) rfl (u_ rfl) ?_
    refine w_t (pc := 18) (e_s := (0, 1, 0, 0, 0, .int (-1), [])) (y_s := (19, [some (.ref _), some (.int _), some (.int _)], [.int _], _)) rfl (u_ rfl) ?_
    exact wrI (pc := 19) (len_s := 1) rfl hk t_s
  · replace t_s := t_s.2 c1_s
    refine w_t (pc := 6) (e_s := (2, 1, 0, 0, 0, .null, [])) (y_s := (7, [some (.long _), none, some (.long _), none, some (.long _), none], [.long _], _)) rfl (u_ rfl) ?_
    refine w_t (pc := 7) (e_s := (2, 2, 4, 0, 0, .null, [])) (y_s := (9, [some (.long _), none, some (.long _), none, some (.long _), none], [.long _, .long _], _)) rfl (u_ rfl) ?_
    refine w_t (pc := 9) (e_s := (14, 1, 0, 0, 0, .null, [])) (y_s := (10, [some (.long _), none, some (.long _), none, some (.long _), none], [.int (lg_cmp _ _)], _)) rfl (u_ rfl) ?_
    refine wl4 (pc := 10) (len_s := 3) rfl (Int32.toInt_toInt64 _) (Int32.toInt_toInt64 _) (fun c2_s => ?_) (fun c2_s => ?_)
    · replace t_s := t_s.1 c2_s
      refine w_t (pc := 17) (e_s := (0, 1, 0, 0, 0, .int 0, [])) (y_s := (18, [some (.long _), none, some (.long _), none, some (.long _), none], [.int _], _)) rfl (u_ rfl) ?_
      refine wrI (pc := 18) (len_s := 1) rfl hk ?_
      show wF _ 152 (12, [some (.ref _), some (.long _), none], [.int _], _) _
      refine wrI (pc := 12) (len_s := 1) rfl hk ?_
      show wF _ 212 (6, [some (.ref _), some (.int _), some (.int _)], [.int _], _) _
      refine w_t (pc := 6) (e_s := (15, 3, 18, 0, 0, .null, [])) (y_s := (18, [some (.ref _), some (.int _), some (.int _)], [], _)) rfl (u_ rfl) ?_
      refine w_t (pc := 18) (e_s := (0, 1, 0, 0, 0, .int (-1), [])) (y_s := (19, [some (.ref _), some (.int _), some (.int _)], [.int _], _)) rfl (u_ rfl) ?_
      exact wrI (pc := 19) (len_s := 1) rfl hk t_s
    · replace t_s := t_s.2 c2_s
      refine w_t (pc := 13) (e_s := (0, 1, 0, 0, 0, .int 1, [])) (y_s := (14, [some (.long _), none, some (.long _), none, some (.long _), none], [.int _], _)) rfl (u_ rfl) ?_
      refine w_t (pc := 14) (e_s := (17, 3, 18, 0, 0, .null, [])) (y_s := (18, [some (.long _), none, some (.long _), none, some (.long _), none], [.int _], _)) rfl (u_ rfl) ?_
      refine wrI (pc := 18) (len_s := 1) rfl hk ?_
      show wF _ 152 (12, [some (.ref _), some (.long _), none], [.int _], _) _
      refine wrI (pc := 12) (len_s := 1) rfl hk ?_
      show wF _ 212 (6, [some (.ref _), some (.int _), some (.int _)], [.int _], _) _
      refine w_t (pc := 6) (e_s := (15, 3, 18, 0, 0, .null, [])) (y_s := (9, [some (.ref _), some (.int _), some (.int _)], [], _)) rfl (u_ rfl) ?_
      refine w_t (pc := 9) (e_s := (3, 1, 0, 0, 0, .null, [])) (y_s := (10, [some (.ref _), some (.int _), some (.int _)], [.ref _], _)) rfl (u_ rfl) ?_
      refine w_t (pc := 10) (e_s := (1, 1, 2, 0, 0, .null, [])) (y_s := (11, [some (.ref _), some (.int _), some (.int _)], [.int _, .ref _], _)) rfl (u_ rfl) ?_
      refine w_t (pc := 11) (e_s := (10, 1, 0, 0, 0, .null, [])) (y_s := (12, [some (.ref _), some (.int _), some (.int _)], [.long (Int32.toInt64 _), .ref _], _)) rfl (u_ rfl) ?_
      refine wcI (pc := 12) (len_s := 3) rfl rfl (l := [some (.ref _), some (.long _), none]) rfl ?_
      refine w_t (pc := 0) (e_s := (2, 1, 1, 0, 0, .null, [])) (y_s := (1, [some (.ref _), some (.long _), none], [.long _], _)) rfl (u_ rfl) ?_
      refine w_t (pc := 1) (e_s := (0, 1, 0, 0, 0, .long 0, [])) (y_s := (2, [some (.ref _), some (.long _), none], [.long _, .long _], _)) rfl (u_ rfl) ?_
      refine w_t (pc := 2) (e_s := (3, 1, 0, 0, 0, .null, [])) (y_s := (3, [some (.ref _), some (.long _), none], [.ref _, .long _, .long _], _)) rfl (u_ rfl) ?_
      refine w20 (pc := 3) (len_s := 3) rfl ?_
      refine w_t (pc := 6) (e_s := (0, 1, 0, 0, 0, .int 1, [])) (y_s := (7, [some (.ref _), some (.long _), none], [.int _, .int _, .long _, .long _], _)) rfl (u_ rfl) ?_
      refine w_t (pc := 7) (e_s := (7, 1, 0, 1, 0, .null, [])) (y_s := (8, [some (.ref _), some (.long _), none], [.int (_ - _), .long _, .long _], _)) rfl (u_ rfl) ?_
      refine w_t (pc := 8) (e_s := (10, 1, 0, 0, 0, .null, [])) (y_s := (9, [some (.ref _), some (.long _), none], [.long (Int32.toInt64 _), .long _, .long _], _)) rfl (u_ rfl) ?_
      refine wcI (pc := 9) (len_s := 3) rfl rfl (l := [some (.long _), none, some (.long _), none, some (.long _), none]) rfl ?_
      refine w_t (pc := 0) (e_s := (2, 1, 0, 0, 0, .null, [])) (y_s := (1, [some (.long _), none, some (.long _), none, some (.long _), none], [.long _], _)) rfl (u_ rfl) ?_
      refine w_t (pc := 1) (e_s := (2, 1, 2, 0, 0, .null, [])) (y_s := (2, [some (.long _), none, some (.long _), none, some (.long _), none], [.long _, .long _], _)) rfl (u_ rfl) ?_
      refine w_t (pc := 2) (e_s := (14, 1, 0, 0, 0, .null, [])) (y_s := (3, [some (.long _), none, some (.long _), none, some (.long _), none], [.int (lg_cmp _ _)], _)) rfl (u_ rfl) ?_
      refine wl2 (pc := 3) (len_s := 3) (Y := 0) rfl (Int32.toInt_toInt64 _) (by decide) (fun c3_s => ?_) (fun c3_s => ?_)
      · replace t_s := t_s.1 c3_s
        refine w_t (pc := 17) (e_s := (0, 1, 0, 0, 0, .int 0, [])) (y_s := (18, [some (.long _), none, some (.long _), none, some (.long _), none], [.int _], _)) rfl (u_ rfl) ?_
        refine wrI (pc := 18) (len_s := 1) rfl hk ?_
        show wF _ 153 (12, [some (.ref _), some (.long _), none], [.int _], _) _
        refine wrI (pc := 12) (len_s := 1) rfl hk ?_
        show wF _ 212 (15, [some (.ref _), some (.int _), some (.int _)], [.int _], _) _
        refine w_t (pc := 15) (e_s := (15, 3, 20, 1, 0, .null, [])) (y_s := (18, [some (.ref _), some (.int _), some (.int _)], [], _)) rfl (u_ rfl) ?_
        refine w_t (pc := 18) (e_s := (0, 1, 0, 0, 0, .int (-1), [])) (y_s := (19, [some (.ref _), some (.int _), some (.int _)], [.int _], _)) rfl (u_ rfl) ?_
        exact wrI (pc := 19) (len_s := 1) rfl hk t_s
      · replace t_s := t_s.2 c3_s
        refine w_t (pc := 6) (e_s := (2, 1, 0, 0, 0, .null, [])) (y_s := (7, [some (.long _), none, some (.long _), none, some (.long _), none], [.long _], _)) rfl (u_ rfl) ?_
        refine w_t (pc := 7) (e_s := (2, 2, 4, 0, 0, .null, [])) (y_s := (9, [some (.long _), none, some (.long _), none, some (.long _), none], [.long _, .long _], _)) rfl (u_ rfl) ?_
        refine w_t (pc := 9) (e_s := (14, 1, 0, 0, 0, .null, [])) (y_s := (10, [some (.long _), none, some (.long _), none, some (.long _), none], [.int (lg_cmp _ _)], _)) rfl (u_ rfl) ?_
        refine wl4 (pc := 10) (len_s := 3) rfl (Int32.toInt_toInt64 _) (Int32.toInt_toInt64 _) (fun c4_s => ?_) (fun c4_s => ?_)
        · replace t_s := t_s.1 c4_s
          refine w_t (pc := 17) (e_s := (0, 1, 0, 0, 0, .int 0, [])) (y_s := (18, [some (.long _), none, some (.long _), none, some (.long _), none], [.int _], _)) rfl (u_ rfl) ?_
          refine wrI (pc := 18) (len_s := 1) rfl hk ?_
          show wF _ 153 (12, [some (.ref _), some (.long _), none], [.int _], _) _
          refine wrI (pc := 12) (len_s := 1) rfl hk ?_
          show wF _ 212 (15, [some (.ref _), some (.int _), some (.int _)], [.int _], _) _
          refine w_t (pc := 15) (e_s := (15, 3, 20, 1, 0, .null, [])) (y_s := (18, [some (.ref _), some (.int _), some (.int _)], [], _)) rfl (u_ rfl) ?_
          refine w_t (pc := 18) (e_s := (0, 1, 0, 0, 0, .int (-1), [])) (y_s := (19, [some (.ref _), some (.int _), some (.int _)], [.int _], _)) rfl (u_ rfl) ?_
          exact wrI (pc := 19) (len_s := 1) rfl hk t_s
        · replace t_s := t_s.2 c4_s
          refine w_t (pc := 13) (e_s := (0, 1, 0, 0, 0, .int 1, [])) (y_s := (14, [some (.long _), none, some (.long _), none, some (.long _), none], [.int _], _)) rfl (u_ rfl) ?_
          refine w_t (pc := 14) (e_s := (17, 3, 18, 0, 0, .null, [])) (y_s := (18, [some (.long _), none, some (.long _), none, some (.long _), none], [.int _], _)) rfl (u_ rfl) ?_
          refine wrI (pc := 18) (len_s := 1) rfl hk ?_
          show wF _ 153 (12, [some (.ref _), some (.long _), none], [.int _], _) _
          refine wrI (pc := 12) (len_s := 1) rfl hk ?_
          show wF _ 212 (15, [some (.ref _), some (.int _), some (.int _)], [.int _], _) _
          refine w_t (pc := 15) (e_s := (15, 3, 20, 1, 0, .null, [])) (y_s := (20, [some (.ref _), some (.int _), some (.int _)], [], _)) rfl (u_ rfl) ?_
          refine w_t (pc := 20) (e_s := (3, 1, 0, 0, 0, .null, [])) (y_s := (21, [some (.ref _), some (.int _), some (.int _)], [.ref _], _)) rfl (u_ rfl) ?_
          refine w_t (pc := 21) (e_s := (1, 1, 1, 0, 0, .null, [])) (y_s := (22, [some (.ref _), some (.int _), some (.int _)], [.int _, .ref _], _)) rfl (u_ rfl) ?_
          refine wcV (pc := 22) (len_s := 3) rfl rfl (l := [some (.ref _), some (.int _), none]) rfl (wmV t_s (fun h5 hk t_s => ?_))
          replace t_s := t_s hk
          refine w_t (pc := 25) (e_s := (3, 1, 0, 0, 0, .null, [])) (y_s := (26, [some (.ref _), some (.int _), some (.int _)], [.ref _], _)) rfl (u_ rfl) ?_
          refine w_t (pc := 26) (e_s := (1, 1, 2, 0, 0, .null, [])) (y_s := (27, [some (.ref _), some (.int _), some (.int _)], [.int _, .ref _], _)) rfl (u_ rfl) ?_
          refine wcI (pc := 27) (len_s := 3) rfl rfl (l := [some (.ref _), some (.int _)]) rfl ?_
          refine w_t (pc := 0) (e_s := (3, 1, 0, 0, 0, .null, [])) (y_s := (1, [some (.ref _), some (.int _)], [.ref _], _)) rfl (u_ rfl) ?_
          refine w20r (pc := 1) (len_s := 3) (q_s := 112) rfl (krq hk rfl) ?_
          refine w_t (pc := 4) (e_s := (0, 1, 0, 0, 0, .int 2, [])) (y_s := (5, [some (.ref _), some (.int _)], [.int _, .ref _], _)) rfl (u_ rfl) ?_
          refine w22 (pc := 5) (len_s := 1) rfl (hk.1 112 0 7 rfl rfl) (fun c6_s => ?_)
          refine w_t (pc := 6) (e_s := (0, 2, 0, 0, 0, .int 99, [])) (y_s := (8, [some (.ref _), some (.int _)], [.int _, .int _], _)) rfl (u_ rfl) ?_
          refine wi3 (pc := 8) (len_s := 3) (Y := 99) rfl rfl (by decide) (fun c7_s => ?_) (fun c7_s => ?_)
          · replace t_s := t_s.1 c7_s
            refine w_t (pc := 11) (e_s := (3, 1, 0, 0, 0, .null, [])) (y_s := (12, [some (.ref _), some (.int _)], [.ref _], _)) rfl (u_ rfl) ?_
            refine w20r (pc := 12) (len_s := 3) (q_s := 103) rfl (krq hk rfl) ?_
            refine w_t (pc := 15) (e_s := (0, 2, 0, 0, 0, .int 80, [])) (y_s := (17, [some (.ref _), some (.int _)], [.int _, .ref _], _)) rfl (u_ rfl) ?_
            refine w_t (pc := 17) (e_s := (1, 1, 1, 0, 0, .null, [])) (y_s := (18, [some (.ref _), some (.int _)], [.int _, .int _, .ref _], _)) rfl (u_ rfl) ?_
            refine w_t (pc := 18) (e_s := (7, 1, 0, 0, 0, .null, [])) (y_s := (19, [some (.ref _), some (.int _)], [.int (_ + _), .ref _], _)) rfl (u_ rfl) ?_
            refine w22 (pc := 19) (len_s := 1) rfl (hk.1 103 0 104 rfl rfl) (fun c8_s => ?_)
            replace t_s := t_s c8_s
            refine w_t (pc := 20) (e_s := (3, 1, 0, 0, 0, .null, [])) (y_s := (21, [some (.ref _), some (.int _)], [.ref _, .int _], _)) rfl (u_ rfl) ?_
            refine w20r (pc := 21) (len_s := 3) (q_s := 112) rfl (krq hk rfl) ?_
            refine w_t (pc := 24) (e_s := (0, 1, 0, 0, 0, .int 2, [])) (y_s := (25, [some (.ref _), some (.int _)], [.int _, .ref _, .int _], _)) rfl (u_ rfl) ?_
            refine w22 (pc := 25) (len_s := 1) rfl (hk.1 112 0 7 rfl rfl) (fun c9_s => ?_)
            refine wcI (pc := 26) (len_s := 3) rfl rfl (l := [some (.int _)]) rfl ?_
            refine w_t (pc := 0) (e_s := (0, 2, 0, 0, 0, .int 9, [])) (y_s := (2, [some (.int _)], [.int _], _)) rfl (u_ rfl) ?_
            refine w_t (pc := 2) (e_s := (1, 1, 0, 0, 0, .null, [])) (y_s := (3, [some (.int _)], [.int _, .int _], _)) rfl (u_ rfl) ?_
            refine w_t (pc := 3) (e_s := (0, 2, 0, 0, 0, .int 11, [])) (y_s := (5, [some (.int _)], [.int _, .int _, .int _], _)) rfl (u_ rfl) ?_
            refine w8 (pc := 5) (len_s := 1) rfl ?_
            refine w_t (pc := 6) (e_s := (7, 1, 0, 1, 0, .null, [])) (y_s := (7, [some (.int _)], [.int (_ - _)], _)) rfl (u_ rfl) ?_
            refine wrI (pc := 7) (len_s := 1) rfl hk ?_
            show wF _ 182 (29, [some (.ref _), some (.int _)], [.int _, .int _], _) _
            refine wi4 (pc := 29) (len_s := 3) rfl rfl rfl (fun c10_s => ?_) (fun c10_s => ?_)
            · replace t_s := t_s.1 c10_s
              refine w_t (pc := 36) (e_s := (0, 1, 0, 0, 0, .int 0, [])) (y_s := (37, [some (.ref _), some (.int _)], [.int _], _)) rfl (u_ rfl) ?_
              refine wrI (pc := 37) (len_s := 1) rfl hk ?_
              show wF _ 212 (30, [some (.ref _), some (.int _), some (.int _)], [.int _], _) _
              refine w_t (pc := 30) (e_s := (15, 3, 36, 1, 0, .null, [])) (y_s := (33, [some (.ref _), some (.int _), some (.int _)], [], _)) rfl (u_ rfl) ?_
              refine w_t (pc := 33) (e_s := (0, 2, 0, 0, 0, .int (-5), [])) (y_s := (35, [some (.ref _), some (.int _), some (.int _)], [.int _], _)) rfl (u_ rfl) ?_
              exact wrI (pc := 35) (len_s := 1) rfl hk t_s
            · replace t_s := t_s.2 c10_s
              refine w_t (pc := 32) (e_s := (0, 1, 0, 0, 0, .int 1, [])) (y_s := (33, [some (.ref _), some (.int _)], [.int _], _)) rfl (u_ rfl) ?_
              refine w_t (pc := 33) (e_s := (17, 3, 37, 0, 0, .null, [])) (y_s := (37, [some (.ref _), some (.int _)], [.int _], _)) rfl (u_ rfl) ?_
              refine wrI (pc := 37) (len_s := 1) rfl hk ?_
              show wF _ 212 (30, [some (.ref _), some (.int _), some (.int _)], [.int _], _) _
              refine w_t (pc := 30) (e_s := (15, 3, 36, 1, 0, .null, [])) (y_s := (36, [some (.ref _), some (.int _), some (.int _)], [], _)) rfl (u_ rfl) ?_
              refine w_t (pc := 36) (e_s := (3, 1, 0, 0, 0, .null, [])) (y_s := (37, [some (.ref _), some (.int _), some (.int _)], [.ref _], _)) rfl (u_ rfl) ?_
              refine w_t (pc := 37) (e_s := (1, 1, 2, 0, 0, .null, [])) (y_s := (38, [some (.ref _), some (.int _), some (.int _)], [.int _, .ref _], _)) rfl (u_ rfl) ?_
              refine wcV (pc := 38) (len_s := 3) rfl rfl (l := [some (.ref _), some (.int _), none]) rfl (wmV t_s (fun h11 hk t_s => ?_))
              replace t_s := t_s hk
              refine w_t (pc := 41) (e_s := (3, 1, 0, 0, 0, .null, [])) (y_s := (42, [some (.ref _), some (.int _), some (.int _)], [.ref _], _)) rfl (u_ rfl) ?_
              refine w_t (pc := 42) (e_s := (1, 1, 1, 0, 0, .null, [])) (y_s := (43, [some (.ref _), some (.int _), some (.int _)], [.int _, .ref _], _)) rfl (u_ rfl) ?_
              refine wcV (pc := 43) (len_s := 3) rfl rfl (l := [some (.ref _), some (.int _), none]) rfl (wmV t_s (fun h12 hk t_s => ?_))
              replace t_s := t_s hk
              refine w_t (pc := 46) (e_s := (3, 1, 0, 0, 0, .null, [])) (y_s := (47, [some (.ref _), some (.int _), some (.int _)], [.ref _], _)) rfl (u_ rfl) ?_
              refine w20r (pc := 47) (len_s := 3) (q_s := 119) rfl (krq hk rfl) ?_
              refine w_t (pc := 50) (e_s := (0, 1, 0, 0, 0, .int 2, [])) (y_s := (51, [some (.ref _), some (.int _), some (.int _)], [.int _, .ref _], _)) rfl (u_ rfl) ?_
              refine w_t (pc := 51) (e_s := (41, 1, 0, 0, 0, .null, [])) (y_s := (52, [some (.ref _), some (.int _), some (.int _)], [.int _, .ref _, .int _, .ref _], _)) rfl (u_ rfl) ?_
              refine w22 (pc := 52) (len_s := 1) rfl (hk.1 119 0 5 rfl rfl) (fun c13_s => ?_)
              refine w_t (pc := 53) (e_s := (3, 1, 0, 0, 0, .null, [])) (y_s := (54, [some (.ref _), some (.int _), some (.int _)], [.ref _, .int _, .int _, .ref _], _)) rfl (u_ rfl) ?_
              refine w20 (pc := 54) (len_s := 3) rfl ?_
              refine wq0 (pc := 57) (len_s := 3) rfl rfl (fun c14_s => ?_) (fun c14_s => ?_)
              · replace t_s := t_s.1 c14_s
                refine w_t (pc := 64) (e_s := (0, 1, 0, 0, 0, .int 0, [])) (y_s := (65, [some (.ref _), some (.int _), some (.int _)], [.int _, .int _, .int _, .ref _], _)) rfl (u_ rfl) ?_
                refine w_t (pc := 65) (e_s := (7, 1, 0, 0, 0, .null, [])) (y_s := (66, [some (.ref _), some (.int _), some (.int _)], [.int (_ + _), .int _, .ref _], _)) rfl (u_ rfl) ?_
                refine w25 (pc := 66) (len_s := 1) rfl (hk.1 119 0 5 rfl rfl) (fun c15_s => ?_)
                refine w_t (pc := 67) (e_s := (3, 1, 0, 0, 0, .null, [])) (y_s := (68, [some (.ref _), some (.int _), some (.int _)], [.ref _], _)) rfl (u_ rfl) ?_
                refine w20r (pc := 68) (len_s := 3) (q_s := 119) rfl (krq hk rfl) ?_
                refine w_t (pc := 71) (e_s := (0, 1, 0, 0, 0, .int 3, [])) (y_s := (72, [some (.ref _), some (.int _), some (.int _)], [.int _, .ref _], _)) rfl (u_ rfl) ?_
                refine w_t (pc := 72) (e_s := (41, 1, 0, 0, 0, .null, [])) (y_s := (73, [some (.ref _), some (.int _), some (.int _)], [.int _, .ref _, .int _, .ref _], _)) rfl (u_ rfl) ?_
                refine w22 (pc := 73) (len_s := 1) rfl (hk.1 119 0 5 rfl rfl) (fun c16 => ?_)
                refine w_t (pc := 74) (e_s := (3, 1, 0, 0, 0, .null, [])) (y_s := (75, [some (.ref _), some (.int _), some (.int _)], [.ref _, .int _, .int _, .ref _], _)) rfl (u_ rfl) ?_
                refine w20 (pc := 75) (len_s := 3) rfl ?_
                refine w_t (pc := 78) (e_s := (7, 1, 0, 0, 0, .null, [])) (y_s := (79, [some (.ref _), some (.int _), some (.int _)], [.int (_ + _), .int _, .ref _], _)) rfl (u_ rfl) ?_
                refine w25 (pc := 79) (len_s := 1) rfl (hk.1 119 0 5 rfl rfl) (fun c17 => ?_)
                refine w_t (pc := 80) (e_s := (3, 1, 0, 0, 0, .null, [])) (y_s := (81, [some (.ref _), some (.int _), some (.int _)], [.ref _], _)) rfl (u_ rfl) ?_
                refine w20r (pc := 81) (len_s := 3) (q_s := 119) rfl (krq hk rfl) ?_
                refine w_t (pc := 84) (e_s := (0, 1, 0, 0, 0, .int 4, [])) (y_s := (85, [some (.ref _), some (.int _), some (.int _)], [.int _, .ref _], _)) rfl (u_ rfl) ?_
                refine w_t (pc := 85) (e_s := (41, 1, 0, 0, 0, .null, [])) (y_s := (86, [some (.ref _), some (.int _), some (.int _)], [.int _, .ref _, .int _, .ref _], _)) rfl (u_ rfl) ?_
                refine w22 (pc := 86) (len_s := 1) rfl (hk.1 119 0 5 rfl rfl) (fun c18_s => ?_)
                refine w_t (pc := 87) (e_s := (3, 1, 0, 0, 0, .null, [])) (y_s := (88, [some (.ref _), some (.int _), some (.int _)], [.ref _, .int _, .int _, .ref _], _)) rfl (u_ rfl) ?_
                refine w20r (pc := 88) (len_s := 3) (q_s := 112) rfl (krq hk rfl) ?_
                refine w_t (pc := 91) (e_s := (0, 1, 0, 0, 0, .int 2, [])) (y_s := (92, [some (.ref _), some (.int _), some (.int _)], [.int _, .ref _, .int _, .int _, .ref _], _)) rfl (u_ rfl) ?_
                refine w22 (pc := 92) (len_s := 1) rfl (hk.1 112 0 7 rfl rfl) (fun c19_s => ?_)
                refine w_t (pc := 93) (e_s := (0, 2, 0, 0, 0, .int 99, [])) (y_s := (95, [some (.ref _), some (.int _), some (.int _)], [.int _, .int _, .int _, .int _, .ref _], _)) rfl (u_ rfl) ?_
                refine wi1 (pc := 95) (len_s := 3) (Y := 99) rfl rfl (by decide) (fun c20_s => ?_) (fun c20_s => ?_)
                · replace t_s := t_s.1 c20_s
                  refine w_t (pc := 98) (e_s := (0, 1, 0, 0, 0, .int 1, [])) (y_s := (99, [some (.ref _), some (.int _), some (.int _)], [.int _, .int _, .int _, .ref _], _)) rfl (u_ rfl) ?_
                  refine w_t (pc := 99) (e_s := (17, 3, 103, 0, 0, .null, [])) (y_s := (103, [some (.ref _), some (.int _), some (.int _)], [.int _, .int _, .int _, .ref _], _)) rfl (u_ rfl) ?_
                  refine w_t (pc := 103) (e_s := (7, 1, 0, 0, 0, .null, [])) (y_s := (104, [some (.ref _), some (.int _), some (.int _)], [.int (_ + _), .int _, .ref _], _)) rfl (u_ rfl) ?_
                  refine w25 (pc := 104) (len_s := 1) rfl (hk.1 119 0 5 rfl rfl) (fun c21 => ?_)
                  refine w_t (pc := 105) (e_s := (3, 1, 0, 0, 0, .null, [])) (y_s := (106, [some (.ref _), some (.int _), some (.int _)], [.ref _], _)) rfl (u_ rfl) ?_
                  refine w20 (pc := 106) (len_s := 3) rfl ?_
                  exact wrI (pc := 109) (len_s := 1) rfl hk t_s
                · replace t_s := t_s.2 c20_s
                  refine w_t (pc := 102) (e_s := (0, 1, 0, 0, 0, .int 0, [])) (y_s := (103, [some (.ref _), some (.int _), some (.int _)], [.int _, .int _, .int _, .ref _], _)) rfl (u_ rfl) ?_
                  refine w_t (pc := 103) (e_s := (7, 1, 0, 0, 0, .null, [])) (y_s := (104, [some (.ref _), some (.int _), some (.int _)], [.int (_ + _), .int _, .ref _], _)) rfl (u_ rfl) ?_
                  refine w25 (pc := 104) (len_s := 1) rfl (hk.1 119 0 5 rfl rfl) (fun c22 => ?_)
                  refine w_t (pc := 105) (e_s := (3, 1, 0, 0, 0, .null, [])) (y_s := (106, [some (.ref _), some (.int _), some (.int _)], [.ref _], _)) rfl (u_ rfl) ?_
                  refine w20 (pc := 106) (len_s := 3) rfl ?_
                  exact wrI (pc := 109) (len_s := 1) rfl hk t_s
              · replace t_s := t_s.2 c14_s
                refine w_t (pc := 60) (e_s := (0, 1, 0, 0, 0, .int 1, [])) (y_s := (61, [some (.ref _), some (.int _), some (.int _)], [.int _, .int _, .int _, .ref _], _)) rfl (u_ rfl) ?_
                refine w_t (pc := 61) (e_s := (17, 3, 65, 0, 0, .null, [])) (y_s := (65, [some (.ref _), some (.int _), some (.int _)], [.int _, .int _, .int _, .ref _], _)) rfl (u_ rfl) ?_
                refine w_t (pc := 65) (e_s := (7, 1, 0, 0, 0, .null, [])) (y_s := (66, [some (.ref _), some (.int _), some (.int _)], [.int (_ + _), .int _, .ref _], _)) rfl (u_ rfl) ?_
                refine w25 (pc := 66) (len_s := 1) rfl (hk.1 119 0 5 rfl rfl) (fun c23_s => ?_)
                refine w_t (pc := 67) (e_s := (3, 1, 0, 0, 0, .null, [])) (y_s := (68, [some (.ref _), some (.int _), some (.int _)], [.ref _], _)) rfl (u_ rfl) ?_
                refine w20r (pc := 68) (len_s := 3) (q_s := 119) rfl (krq hk rfl) ?_
                refine w_t (pc := 71) (e_s := (0, 1, 0, 0, 0, .int 3, [])) (y_s := (72, [some (.ref _), some (.int _), some (.int _)], [.int _, .ref _], _)) rfl (u_ rfl) ?_
                refine w_t (pc := 72) (e_s := (41, 1, 0, 0, 0, .null, [])) (y_s := (73, [some (.ref _), some (.int _), some (.int _)], [.int _, .ref _, .int _, .ref _], _)) rfl (u_ rfl) ?_
                refine w22 (pc := 73) (len_s := 1) rfl (hk.1 119 0 5 rfl rfl) (fun c24_s => ?_)
                refine w_t (pc := 74) (e_s := (3, 1, 0, 0, 0, .null, [])) (y_s := (75, [some (.ref _), some (.int _), some (.int _)], [.ref _, .int _, .int _, .ref _], _)) rfl (u_ rfl) ?_
                refine w20 (pc := 75) (len_s := 3) rfl ?_
                refine w_t (pc := 78) (e_s := (7, 1, 0, 0, 0, .null, [])) (y_s := (79, [some (.ref _), some (.int _), some (.int _)], [.int (_ + _), .int _, .ref _], _)) rfl (u_ rfl) ?_
                refine w25 (pc := 79) (len_s := 1) rfl (hk.1 119 0 5 rfl rfl) (fun c25_s => ?_)
                refine w_t (pc := 80) (e_s := (3, 1, 0, 0, 0, .null, [])) (y_s := (81, [some (.ref _), some (.int _), some (.int _)], [.ref _], _)) rfl (u_ rfl) ?_
                refine w20r (pc := 81) (len_s := 3) (q_s := 119) rfl (krq hk rfl) ?_
                refine w_t (pc := 84) (e_s := (0, 1, 0, 0, 0, .int 4, [])) (y_s := (85, [some (.ref _), some (.int _), some (.int _)], [.int _, .ref _], _)) rfl (u_ rfl) ?_
                refine w_t (pc := 85) (e_s := (41, 1, 0, 0, 0, .null, [])) (y_s := (86, [some (.ref _), some (.int _), some (.int _)], [.int _, .ref _, .int _, .ref _], _)) rfl (u_ rfl) ?_
                refine w22 (pc := 86) (len_s := 1) rfl (hk.1 119 0 5 rfl rfl) (fun c26 => ?_)
                refine w_t (pc := 87) (e_s := (3, 1, 0, 0, 0, .null, [])) (y_s := (88, [some (.ref _), some (.int _), some (.int _)], [.ref _, .int _, .int _, .ref _], _)) rfl (u_ rfl) ?_
                refine w20r (pc := 88) (len_s := 3) (q_s := 112) rfl (krq hk rfl) ?_
                refine w_t (pc := 91) (e_s := (0, 1, 0, 0, 0, .int 2, [])) (y_s := (92, [some (.ref _), some (.int _), some (.int _)], [.int _, .ref _, .int _, .int _, .ref _], _)) rfl (u_ rfl) ?_
                refine w22 (pc := 92) (len_s := 1) rfl (hk.1 112 0 7 rfl rfl) (fun c27_s => ?_)
                refine w_t (pc := 93) (e_s := (0, 2, 0, 0, 0, .int 99, [])) (y_s := (95, [some (.ref _), some (.int _), some (.int _)], [.int _, .int _, .int _, .int _, .ref _], _)) rfl (u_ rfl) ?_
                refine wi1 (pc := 95) (len_s := 3) (Y := 99) rfl rfl (by decide) (fun c28_s => ?_) (fun c28_s => ?_)
                · replace t_s := t_s.1 c28_s
                  refine w_t (pc := 98) (e_s := (0, 1, 0, 0, 0, .int 1, [])) (y_s := (99, [some (.ref _), some (.int _), some (.int _)], [.int _, .int _, .int _, .ref _], _)) rfl (u_ rfl) ?_
                  refine w_t (pc := 99) (e_s := (17, 3, 103, 0, 0, .null, [])) (y_s := (103, [some (.ref _), some (.int _), some (.int _)], [.int _, .int _, .int _, .ref _], _)) rfl (u_ rfl) ?_
                  refine w_t (pc := 103) (e_s := (7, 1, 0, 0, 0, .null, [])) (y_s := (104, [some (.ref _), some (.int _), some (.int _)], [.int (_ + _), .int _, .ref _], _)) rfl (u_ rfl) ?_
                  refine w25 (pc := 104) (len_s := 1) rfl (hk.1 119 0 5 rfl rfl) (fun c29_s => ?_)
                  refine w_t (pc := 105) (e_s := (3, 1, 0, 0, 0, .null, [])) (y_s := (106, [some (.ref _), some (.int _), some (.int _)], [.ref _], _)) rfl (u_ rfl) ?_
                  refine w20 (pc := 106) (len_s := 3) rfl ?_
                  exact wrI (pc := 109) (len_s := 1) rfl hk t_s
                · replace t_s := t_s.2 c28_s
                  refine w_t (pc := 102) (e_s := (0, 1, 0, 0, 0, .int 0, [])) (y_s := (103, [some (.ref _), some (.int _), some (.int _)], [.int _, .int _, .int _, .ref _], _)) rfl (u_ rfl) ?_
                  refine w_t (pc := 103) (e_s := (7, 1, 0, 0, 0, .null, [])) (y_s := (104, [some (.ref _), some (.int _), some (.int _)], [.int (_ + _), .int _, .ref _], _)) rfl (u_ rfl) ?_
                  refine w25 (pc := 104) (len_s := 1) rfl (hk.1 119 0 5 rfl rfl) (fun c30_s => ?_)
                  refine w_t (pc := 105) (e_s := (3, 1, 0, 0, 0, .null, [])) (y_s := (106, [some (.ref _), some (.int _), some (.int _)], [.ref _], _)) rfl (u_ rfl) ?_
                  refine w20 (pc := 106) (len_s := 3) rfl ?_
                  exact wrI (pc := 109) (len_s := 1) rfl hk t_s
          · replace t_s := t_s.2 c7_s
            refine w_t (pc := 36) (e_s := (0, 1, 0, 0, 0, .int 0, [])) (y_s := (37, [some (.ref _), some (.int _)], [.int _], _)) rfl (u_ rfl) ?_
            refine wrI (pc := 37) (len_s := 1) rfl hk ?_
            show wF _ 212 (30, [some (.ref _), some (.int _), some (.int _)], [.int _], _) _
            refine w_t (pc := 30) (e_s := (15, 3, 36, 1, 0, .null, [])) (y_s := (33, [some (.ref _), some (.int _), some (.int _)], [], _)) rfl (u_ rfl) ?_
            refine w_t (pc := 33) (e_s := (0, 2, 0, 0, 0, .int (-5), [])) (y_s := (35, [some (.ref _), some (.int _), some (.int _)], [.int _], _)) rfl (u_ rfl) ?_
            exact wrI (pc := 35) (len_s := 1) rfl hk t_s
