/-! What ended runs give: printed by a program (wip/fun/sg.py). -/
/-- ColdShod$Idea.strike(I)Z, from 0 on -/
theorem sg_43_0 {F_s : Nat} {d_s : Nat} {x1_s : Int32} {h_s : zH} {K_s : Int32 → zH → Prop} (hk : hKn h_s) (t_s : (x1_s.toInt = 0 → (((h_s.2.1 d_s 4).toInt = 1 → (((h_s.2.1 d_s 5).toInt < 1 → (((h_s.2.1 d_s 3).toInt = 9 → (((h_s.2.1 d_s 5).toInt = 9 → K_s 0 h_s) ∧ (¬ (h_s.2.1 d_s 5).toInt = 9 → K_s 1 (h_s.1, zup (zup h_s.2.1 d_s 3 (if ((h_s.2.1 d_s 3) + 3) < 9 then ((h_s.2.1 d_s 3) + 3) else 9)) d_s 5 (if (((zup h_s.2.1 d_s 3 (if ((h_s.2.1 d_s 3) + 3) < 9 then ((h_s.2.1 d_s 3) + 3) else 9)) d_s 5) + 1) < 9 then (((zup h_s.2.1 d_s 3 (if ((h_s.2.1 d_s 3) + 3) < 9 then ((h_s.2.1 d_s 3) + 3) else 9)) d_s 5) + 1) else 9), h_s.2.2.1, h_s.2.2.2)))) ∧ (¬ (h_s.2.1 d_s 3).toInt = 9 → K_s 1 (h_s.1, zup (zup h_s.2.1 d_s 3 (if ((h_s.2.1 d_s 3) + 3) < 9 then ((h_s.2.1 d_s 3) + 3) else 9)) d_s 5 (if (((zup h_s.2.1 d_s 3 (if ((h_s.2.1 d_s 3) + 3) < 9 then ((h_s.2.1 d_s 3) + 3) else 9)) d_s 5) + 1) < 9 then (((zup h_s.2.1 d_s 3 (if ((h_s.2.1 d_s 3) + 3) < 9 then ((h_s.2.1 d_s 3) + 3) else 9)) d_s 5) + 1) else 9), h_s.2.2.1, h_s.2.2.2)))) ∧ (¬ (h_s.2.1 d_s 5).toInt < 1 → K_s 0 h_s))) ∧ (¬ (h_s.2.1 d_s 4).toInt = 1 → (((h_s.2.1 d_s 3).toInt = 9 → (((h_s.2.1 d_s 5).toInt = 9 → K_s 0 h_s) ∧ (¬ (h_s.2.1 d_s 5).toInt = 9 → K_s 1 (h_s.1, zup (zup h_s.2.1 d_s 3 (if ((h_s.2.1 d_s 3) + 3) < 9 then ((h_s.2.1 d_s 3) + 3) else 9)) d_s 5 (if (((zup h_s.2.1 d_s 3 (if ((h_s.2.1 d_s 3) + 3) < 9 then ((h_s.2.1 d_s 3) + 3) else 9)) d_s 5) + 1) < 9 then (((zup h_s.2.1 d_s 3 (if ((h_s.2.1 d_s 3) + 3) < 9 then ((h_s.2.1 d_s 3) + 3) else 9)) d_s 5) + 1) else 9), h_s.2.2.1, h_s.2.2.2)))) ∧ (¬ (h_s.2.1 d_s 3).toInt = 9 → K_s 1 (h_s.1, zup (zup h_s.2.1 d_s 3 (if ((h_s.2.1 d_s 3) + 3) < 9 then ((h_s.2.1 d_s 3) + 3) else 9)) d_s 5 (if (((zup h_s.2.1 d_s 3 (if ((h_s.2.1 d_s 3) + 3) < 9 then ((h_s.2.1 d_s 3) + 3) else 9)) d_s 5) + 1) < 9 then (((zup h_s.2.1 d_s 3 (if ((h_s.2.1 d_s 3) + 3) < 9 then ((h_s.2.1 d_s 3) + 3) else 9)) d_s 5) + 1) else 9), h_s.2.2.1, h_s.2.2.2)))))) ∧ (¬ x1_s.toInt = 0 → (x1_s.toInt = 1 → (((h_s.2.1 d_s 3).toInt < 2 → K_s 0 h_s) ∧ (¬ (h_s.2.1 d_s 3).toInt < 2 → ((((h_s.2.1 d_s 1) + 1).toInt < 0 → K_s 0 h_s) ∧ (¬ ((h_s.2.1 d_s 1) + 1).toInt < 0 → ((5 < ((h_s.2.1 d_s 1) + 1).toInt → K_s 0 h_s) ∧ (¬ 5 < ((h_s.2.1 d_s 1) + 1).toInt → K_s 1 (h_s.1, zup (zup h_s.2.1 d_s 1 ((h_s.2.1 d_s 1) + 1)) d_s 3 (if 0 < (((zup h_s.2.1 d_s 1 ((h_s.2.1 d_s 1) + 1)) d_s 3) - 2) then (((zup h_s.2.1 d_s 1 ((h_s.2.1 d_s 1) + 1)) d_s 3) - 2) else 0), h_s.2.2.1, h_s.2.2.2)))))))) ∧ (¬ x1_s.toInt = 1 → (x1_s.toInt = 2 → (((h_s.2.1 d_s 3).toInt < 2 → K_s 0 h_s) ∧ (¬ (h_s.2.1 d_s 3).toInt < 2 → ((((h_s.2.1 d_s 1) - 1).toInt < 0 → K_s 0 h_s) ∧ (¬ ((h_s.2.1 d_s 1) - 1).toInt < 0 → ((5 < ((h_s.2.1 d_s 1) - 1).toInt → K_s 0 h_s) ∧ (¬ 5 < ((h_s.2.1 d_s 1) - 1).toInt → K_s 1 (h_s.1, zup (zup h_s.2.1 d_s 1 ((h_s.2.1 d_s 1) - 1)) d_s 3 (if 0 < (((zup h_s.2.1 d_s 1 ((h_s.2.1 d_s 1) - 1)) d_s 3) - 2) then (((zup h_s.2.1 d_s 1 ((h_s.2.1 d_s 1) - 1)) d_s 3) - 2) else 0), h_s.2.2.1, h_s.2.2.2)))))))) ∧ (¬ x1_s.toInt = 2 → (x1_s.toInt = 3 → (((h_s.2.1 d_s 3).toInt < 1 → K_s 0 h_s) ∧ (¬ (h_s.2.1 d_s 3).toInt < 1 → K_s 1 (h_s.1, zup (zup h_s.2.1 d_s 2 (if 0 < ((h_s.2.1 d_s 2) - 10) then ((h_s.2.1 d_s 2) - 10) else 0)) d_s 3 (if 0 < (((zup h_s.2.1 d_s 2 (if 0 < ((h_s.2.1 d_s 2) - 10) then ((h_s.2.1 d_s 2) - 10) else 0)) d_s 3) - 1) then (((zup h_s.2.1 d_s 2 (if 0 < ((h_s.2.1 d_s 2) - 10) then ((h_s.2.1 d_s 2) - 10) else 0)) d_s 3) - 1) else 0), h_s.2.2.1, h_s.2.2.2)))) ∧ (¬ x1_s.toInt = 3 → K_s 0 h_s))))) : wF (F_s + 1) 43 (0, [some (.ref d_s), some (.int x1_s)], [], h_s) (gI K_s) := by
  refine w_0 (pc := 0) (e_s := (1, 1, 1, 0, 0, .null, [])) (y_s := (1, [some (.ref _), some (.int _)], [.int _], _)) rfl (u_ rfl) ?_
  refine wsw (pc := 1) (len_s := 31) rfl ?_
  refine wsc (X_s := 0) rfl (by decide) (fun c1_s => ?_) (fun c1_s => ?_)
  · replace t_s := t_s.1 c1_s
    refine w_t (pc := 32) (e_s := (3, 1, 0, 0, 0, .null, [])) (y_s := (33, [some (.ref _), some (.int _)], [.ref _], _)) rfl (u_ rfl) ?_
    refine wcI (pc := 33) (len_s := 3) rfl rfl (l := [some (.ref _), none]) rfl ?_
    refine w_t (pc := 0) (e_s := (3, 1, 0, 0, 0, .null, [])) (y_s := (1, [some (.ref _), none], [.ref _], _)) rfl (u_ rfl) ?_
    refine w20 (pc := 1) (len_s := 3) rfl ?_
    refine w_t (pc := 4) (e_s := (0, 1, 0, 0, 0, .int 1, [])) (y_s := (5, [some (.ref _), none], [.int _, .int _], _)) rfl (u_ rfl) ?_
    refine wi1 (pc := 5) (len_s := 3) (Y := 1) rfl rfl (by decide) (fun c2_s => ?_) (fun c2_s => ?_)
    · replace t_s := t_s.1 c2_s
      refine w_t (pc := 8) (e_s := (3, 1, 0, 0, 0, .null, [])) (y_s := (9, [some (.ref _), none], [.ref _], _)) rfl (u_ rfl) ?_
      refine w20 (pc := 9) (len_s := 3) rfl ?_
      refine w_t (pc := 12) (e_s := (0, 1, 0, 0, 0, .int 1, [])) (y_s := (13, [some (.ref _), none], [.int _, .int _], _)) rfl (u_ rfl) ?_
      refine wi2 (pc := 13) (len_s := 3) (Y := 1) rfl rfl (by decide) (fun c3_s => ?_) (fun c3_s => ?_)
      · replace t_s := t_s.1 c3_s
        refine w_t (pc := 20) (e_s := (0, 1, 0, 0, 0, .int 0, [])) (y_s := (21, [some (.ref _), none], [.int _], _)) rfl (u_ rfl) ?_
        refine w_t (pc := 21) (e_s := (4, 1, 1, 0, 0, .null, [])) (y_s := (22, [some (.ref _), some (.int _)], [], _)) rfl (u_ rfl) ?_
        refine w_t (pc := 22) (e_s := (1, 1, 1, 0, 0, .null, [])) (y_s := (23, [some (.ref _), some (.int _)], [.int _], _)) rfl (u_ rfl) ?_
        refine w_t (pc := 23) (e_s := (15, 3, 44, 1, 0, .null, [])) (y_s := (26, [some (.ref _), some (.int _)], [], _)) rfl (u_ rfl) ?_
        refine w_t (pc := 26) (e_s := (3, 1, 0, 0, 0, .null, [])) (y_s := (27, [some (.ref _), some (.int _)], [.ref _], _)) rfl (u_ rfl) ?_
        refine w20 (pc := 27) (len_s := 3) rfl ?_
        refine w_t (pc := 30) (e_s := (0, 2, 0, 0, 0, .int 9, [])) (y_s := (32, [some (.ref _), some (.int _)], [.int _, .int _], _)) rfl (u_ rfl) ?_
        refine wi1 (pc := 32) (len_s := 3) (Y := 9) rfl rfl (by decide) (fun c4_s => ?_) (fun c4_s => ?_)
        · replace t_s := t_s.1 c4_s
          refine w_t (pc := 35) (e_s := (3, 1, 0, 0, 0, .null, [])) (y_s := (36, [some (.ref _), some (.int _)], [.ref _], _)) rfl (u_ rfl) ?_
          refine w20 (pc := 36) (len_s := 3) rfl ?_
          refine w_t (pc := 39) (e_s := (0, 2, 0, 0, 0, .int 9, [])) (y_s := (41, [some (.ref _), some (.int _)], [.int _, .int _], _)) rfl (u_ rfl) ?_
          refine wi1 (pc := 41) (len_s := 3) (Y := 9) rfl rfl (by decide) (fun c5_s => ?_) (fun c5_s => ?_)
          · replace t_s := t_s.1 c5_s
            refine w_t (pc := 44) (e_s := (0, 1, 0, 0, 0, .int 0, [])) (y_s := (45, [some (.ref _), some (.int _)], [.int _], _)) rfl (u_ rfl) ?_
            refine wrI (pc := 45) (len_s := 1) rfl hk ?_
            show wF _ 43 (36, [some (.ref _), some (.int _)], [.int _], _) _
            exact wrI (pc := 36) (len_s := 1) rfl hk t_s
          · replace t_s := t_s.2 c5_s
            refine w_t (pc := 46) (e_s := (3, 1, 0, 0, 0, .null, [])) (y_s := (47, [some (.ref _), some (.int _)], [.ref _], _)) rfl (u_ rfl) ?_
            refine w_t (pc := 47) (e_s := (0, 2, 0, 0, 0, .int 9, [])) (y_s := (49, [some (.ref _), some (.int _)], [.int _, .ref _], _)) rfl (u_ rfl) ?_
            refine w_t (pc := 49) (e_s := (3, 1, 0, 0, 0, .null, [])) (y_s := (50, [some (.ref _), some (.int _)], [.ref _, .int _, .ref _], _)) rfl (u_ rfl) ?_
            refine w20 (pc := 50) (len_s := 3) rfl ?_
            refine w_t (pc := 53) (e_s := (0, 1, 0, 0, 0, .int 3, [])) (y_s := (54, [some (.ref _), some (.int _)], [.int _, .int _, .int _, .ref _], _)) rfl (u_ rfl) ?_
            refine w_t (pc := 54) (e_s := (7, 1, 0, 0, 0, .null, [])) (y_s := (55, [some (.ref _), some (.int _)], [.int (_ + _), .int _, .ref _], _)) rfl (u_ rfl) ?_
            refine w_t (pc := 55) (e_s := (31, 3, 0, 1, 0, .null, [(0, 811), (0, 780), (0, 781), (0, 777)])) (y_s := (58, [some (.ref _), some (.int _)], [.int _, .ref _], _)) rfl (u_ rfl) ?_
            refine w21 (pc := 58) (len_s := 3) rfl ?_
            refine w_t (pc := 61) (e_s := (3, 1, 0, 0, 0, .null, [])) (y_s := (62, [some (.ref _), some (.int _)], [.ref _], _)) rfl (u_ rfl) ?_
            refine w_t (pc := 62) (e_s := (0, 2, 0, 0, 0, .int 9, [])) (y_s := (64, [some (.ref _), some (.int _)], [.int _, .ref _], _)) rfl (u_ rfl) ?_
            refine w_t (pc := 64) (e_s := (3, 1, 0, 0, 0, .null, [])) (y_s := (65, [some (.ref _), some (.int _)], [.ref _, .int _, .ref _], _)) rfl (u_ rfl) ?_
            refine w20 (pc := 65) (len_s := 3) rfl ?_
            refine w_t (pc := 68) (e_s := (0, 1, 0, 0, 0, .int 1, [])) (y_s := (69, [some (.ref _), some (.int _)], [.int _, .int _, .int _, .ref _], _)) rfl (u_ rfl) ?_
            refine w_t (pc := 69) (e_s := (7, 1, 0, 0, 0, .null, [])) (y_s := (70, [some (.ref _), some (.int _)], [.int (_ + _), .int _, .ref _], _)) rfl (u_ rfl) ?_
            refine w_t (pc := 70) (e_s := (31, 3, 0, 1, 0, .null, [(0, 811), (0, 780), (0, 781), (0, 777)])) (y_s := (73, [some (.ref _), some (.int _)], [.int _, .ref _], _)) rfl (u_ rfl) ?_
            refine w21 (pc := 73) (len_s := 3) rfl ?_
            refine w_t (pc := 76) (e_s := (0, 1, 0, 0, 0, .int 1, [])) (y_s := (77, [some (.ref _), some (.int _)], [.int _], _)) rfl (u_ rfl) ?_
            refine wrI (pc := 77) (len_s := 1) rfl hk ?_
            show wF _ 43 (36, [some (.ref _), some (.int _)], [.int _], _) _
            exact wrI (pc := 36) (len_s := 1) rfl hk t_s
        · replace t_s := t_s.2 c4_s
          refine w_t (pc := 46) (e_s := (3, 1, 0, 0, 0, .null, [])) (y_s := (47, [some (.ref _), some (.int _)], [.ref _], _)) rfl (u_ rfl) ?_
          refine w_t (pc := 47) (e_s := (0, 2, 0, 0, 0, .int 9, [])) (y_s := (49, [some (.ref _), some (.int _)], [.int _, .ref _], _)) rfl (u_ rfl) ?_
          refine w_t (pc := 49) (e_s := (3, 1, 0, 0, 0, .null, [])) (y_s := (50, [some (.ref _), some (.int _)], [.ref _, .int _, .ref _], _)) rfl (u_ rfl) ?_
          refine w20 (pc := 50) (len_s := 3) rfl ?_
          refine w_t (pc := 53) (e_s := (0, 1, 0, 0, 0, .int 3, [])) (y_s := (54, [some (.ref _), some (.int _)], [.int _, .int _, .int _, .ref _], _)) rfl (u_ rfl) ?_
          refine w_t (pc := 54) (e_s := (7, 1, 0, 0, 0, .null, [])) (y_s := (55, [some (.ref _), some (.int _)], [.int (_ + _), .int _, .ref _], _)) rfl (u_ rfl) ?_
          refine w_t (pc := 55) (e_s := (31, 3, 0, 1, 0, .null, [(0, 811), (0, 780), (0, 781), (0, 777)])) (y_s := (58, [some (.ref _), some (.int _)], [.int _, .ref _], _)) rfl (u_ rfl) ?_
          refine w21 (pc := 58) (len_s := 3) rfl ?_
          refine w_t (pc := 61) (e_s := (3, 1, 0, 0, 0, .null, [])) (y_s := (62, [some (.ref _), some (.int _)], [.ref _], _)) rfl (u_ rfl) ?_
          refine w_t (pc := 62) (e_s := (0, 2, 0, 0, 0, .int 9, [])) (y_s := (64, [some (.ref _), some (.int _)], [.int _, .ref _], _)) rfl (u_ rfl) ?_
          refine w_t (pc := 64) (e_s := (3, 1, 0, 0, 0, .null, [])) (y_s := (65, [some (.ref _), some (.int _)], [.ref _, .int _, .ref _], _)) rfl (u_ rfl) ?_
          refine w20 (pc := 65) (len_s := 3) rfl ?_
          refine w_t (pc := 68) (e_s := (0, 1, 0, 0, 0, .int 1, [])) (y_s := (69, [some (.ref _), some (.int _)], [.int _, .int _, .int _, .ref _], _)) rfl (u_ rfl) ?_
          refine w_t (pc := 69) (e_s := (7, 1, 0, 0, 0, .null, [])) (y_s := (70, [some (.ref _), some (.int _)], [.int (_ + _), .int _, .ref _], _)) rfl (u_ rfl) ?_
          refine w_t (pc := 70) (e_s := (31, 3, 0, 1, 0, .null, [(0, 811), (0, 780), (0, 781), (0, 777)])) (y_s := (73, [some (.ref _), some (.int _)], [.int _, .ref _], _)) rfl (u_ rfl) ?_
          refine w21 (pc := 73) (len_s := 3) rfl ?_
          refine w_t (pc := 76) (e_s := (0, 1, 0, 0, 0, .int 1, [])) (y_s := (77, [some (.ref _), some (.int _)], [.int _], _)) rfl (u_ rfl) ?_
          refine wrI (pc := 77) (len_s := 1) rfl hk ?_
          show wF _ 43 (36, [some (.ref _), some (.int _)], [.int _], _) _
          exact wrI (pc := 36) (len_s := 1) rfl hk t_s
      · replace t_s := t_s.2 c3_s
        refine w_t (pc := 16) (e_s := (0, 1, 0, 0, 0, .int 1, [])) (y_s := (17, [some (.ref _), none], [.int _], _)) rfl (u_ rfl) ?_
        refine w_t (pc := 17) (e_s := (17, 3, 21, 0, 0, .null, [])) (y_s := (21, [some (.ref _), none], [.int _], _)) rfl (u_ rfl) ?_
        refine w_t (pc := 21) (e_s := (4, 1, 1, 0, 0, .null, [])) (y_s := (22, [some (.ref _), some (.int _)], [], _)) rfl (u_ rfl) ?_
        refine w_t (pc := 22) (e_s := (1, 1, 1, 0, 0, .null, [])) (y_s := (23, [some (.ref _), some (.int _)], [.int _], _)) rfl (u_ rfl) ?_
        refine w_t (pc := 23) (e_s := (15, 3, 44, 1, 0, .null, [])) (y_s := (44, [some (.ref _), some (.int _)], [], _)) rfl (u_ rfl) ?_
        refine w_t (pc := 44) (e_s := (0, 1, 0, 0, 0, .int 0, [])) (y_s := (45, [some (.ref _), some (.int _)], [.int _], _)) rfl (u_ rfl) ?_
        refine wrI (pc := 45) (len_s := 1) rfl hk ?_
        show wF _ 43 (36, [some (.ref _), some (.int _)], [.int _], _) _
        exact wrI (pc := 36) (len_s := 1) rfl hk t_s
    · replace t_s := t_s.2 c2_s
      refine w_t (pc := 20) (e_s := (0, 1, 0, 0, 0, .int 0, [])) (y_s := (21, [some (.ref _), none], [.int _], _)) rfl (u_ rfl) ?_
      refine w_t (pc := 21) (e_s := (4, 1, 1, 0, 0, .null, [])) (y_s := (22, [some (.ref _), some (.int _)], [], _)) rfl (u_ rfl) ?_
      refine w_t (pc := 22) (e_s := (1, 1, 1, 0, 0, .null, [])) (y_s := (23, [some (.ref _), some (.int _)], [.int _], _)) rfl (u_ rfl) ?_
      refine w_t (pc := 23) (e_s := (15, 3, 44, 1, 0, .null, [])) (y_s := (26, [some (.ref _), some (.int _)], [], _)) rfl (u_ rfl) ?_
      refine w_t (pc := 26) (e_s := (3, 1, 0, 0, 0, .null, [])) (y_s := (27, [some (.ref _), some (.int _)], [.ref _], _)) rfl (u_ rfl) ?_
      refine w20 (pc := 27) (len_s := 3) rfl ?_
      refine w_t (pc := 30) (e_s := (0, 2, 0, 0, 0, .int 9, [])) (y_s := (32, [some (.ref _), some (.int _)], [.int _, .int _], _)) rfl (u_ rfl) ?_
      refine wi1 (pc := 32) (len_s := 3) (Y := 9) rfl rfl (by decide) (fun c6_s => ?_) (fun c6_s => ?_)
      · replace t_s := t_s.1 c6_s
        refine w_t (pc := 35) (e_s := (3, 1, 0, 0, 0, .null, [])) (y_s := (36, [some (.ref _), some (.int _)], [.ref _], _)) rfl (u_ rfl) ?_
        refine w20 (pc := 36) (len_s := 3) rfl ?_
        refine w_t (pc := 39) (e_s := (0, 2, 0, 0, 0, .int 9, [])) (y_s := (41, [some (.ref _), some (.int _)], [.int _, .int _], _)) rfl (u_ rfl) ?_
        refine wi1 (pc := 41) (len_s := 3) (Y := 9) rfl rfl (by decide) (fun c7_s => ?_) (fun c7_s => ?_)
        · replace t_s := t_s.1 c7_s
          refine w_t (pc := 44) (e_s := (0, 1, 0, 0, 0, .int 0, [])) (y_s := (45, [some (.ref _), some (.int _)], [.int _], _)) rfl (u_ rfl) ?_
          refine wrI (pc := 45) (len_s := 1) rfl hk ?_
          show wF _ 43 (36, [some (.ref _), some (.int _)], [.int _], _) _
          exact wrI (pc := 36) (len_s := 1) rfl hk t_s
        · replace t_s := t_s.2 c7_s
          refine w_t (pc := 46) (e_s := (3, 1, 0, 0, 0, .null, [])) (y_s := (47, [some (.ref _), some (.int _)], [.ref _], _)) rfl (u_ rfl) ?_
          refine w_t (pc := 47) (e_s := (0, 2, 0, 0, 0, .int 9, [])) (y_s := (49, [some (.ref _), some (.int _)], [.int _, .ref _], _)) rfl (u_ rfl) ?_
          refine w_t (pc := 49) (e_s := (3, 1, 0, 0, 0, .null, [])) (y_s := (50, [some (.ref _), some (.int _)], [.ref _, .int _, .ref _], _)) rfl (u_ rfl) ?_
          refine w20 (pc := 50) (len_s := 3) rfl ?_
          refine w_t (pc := 53) (e_s := (0, 1, 0, 0, 0, .int 3, [])) (y_s := (54, [some (.ref _), some (.int _)], [.int _, .int _, .int _, .ref _], _)) rfl (u_ rfl) ?_
          refine w_t (pc := 54) (e_s := (7, 1, 0, 0, 0, .null, [])) (y_s := (55, [some (.ref _), some (.int _)], [.int (_ + _), .int _, .ref _], _)) rfl (u_ rfl) ?_
          refine w_t (pc := 55) (e_s := (31, 3, 0, 1, 0, .null, [(0, 811), (0, 780), (0, 781), (0, 777)])) (y_s := (58, [some (.ref _), some (.int _)], [.int _, .ref _], _)) rfl (u_ rfl) ?_
          refine w21 (pc := 58) (len_s := 3) rfl ?_
          refine w_t (pc := 61) (e_s := (3, 1, 0, 0, 0, .null, [])) (y_s := (62, [some (.ref _), some (.int _)], [.ref _], _)) rfl (u_ rfl) ?_
          refine w_t (pc := 62) (e_s := (0, 2, 0, 0, 0, .int 9, [])) (y_s := (64, [some (.ref _), some (.int _)], [.int _, .ref _], _)) rfl (u_ rfl) ?_
          refine w_t (pc := 64) (e_s := (3, 1, 0, 0, 0, .null, [])) (y_s := (65, [some (.ref _), some (.int _)], [.ref _, .int _, .ref _], _)) rfl (u_ rfl) ?_
          refine w20 (pc := 65) (len_s := 3) rfl ?_
          refine w_t (pc := 68) (e_s := (0, 1, 0, 0, 0, .int 1, [])) (y_s := (69, [some (.ref _), some (.int _)], [.int _, .int _, .int _, .ref _], _)) rfl (u_ rfl) ?_
          refine w_t (pc := 69) (e_s := (7, 1, 0, 0, 0, .null, [])) (y_s := (70, [some (.ref _), some (.int _)], [.int (_ + _), .int _, .ref _], _)) rfl (u_ rfl) ?_
          refine w_t (pc := 70) (e_s := (31, 3, 0, 1, 0, .null, [(0, 811), (0, 780), (0, 781), (0, 777)])) (y_s := (73, [some (.ref _), some (.int _)], [.int _, .ref _], _)) rfl (u_ rfl) ?_
          refine w21 (pc := 73) (len_s := 3) rfl ?_
          refine w_t (pc := 76) (e_s := (0, 1, 0, 0, 0, .int 1, [])) (y_s := (77, [some (.ref _), some (.int _)], [.int _], _)) rfl (u_ rfl) ?_
          refine wrI (pc := 77) (len_s := 1) rfl hk ?_
          show wF _ 43 (36, [some (.ref _), some (.int _)], [.int _], _) _
          exact wrI (pc := 36) (len_s := 1) rfl hk t_s
      · replace t_s := t_s.2 c6_s
        refine w_t (pc := 46) (e_s := (3, 1, 0, 0, 0, .null, [])) (y_s := (47, [some (.ref _), some (.int _)], [.ref _], _)) rfl (u_ rfl) ?_
        refine w_t (pc := 47) (e_s := (0, 2, 0, 0, 0, .int 9, [])) (y_s := (49, [some (.ref _), some (.int _)], [.int _, .ref _], _)) rfl (u_ rfl) ?_
        refine w_t (pc := 49) (e_s := (3, 1, 0, 0, 0, .null, [])) (y_s := (50, [some (.ref _), some (.int _)], [.ref _, .int _, .ref _], _)) rfl (u_ rfl) ?_
        refine w20 (pc := 50) (len_s := 3) rfl ?_
        refine w_t (pc := 53) (e_s := (0, 1, 0, 0, 0, .int 3, [])) (y_s := (54, [some (.ref _), some (.int _)], [.int _, .int _, .int _, .ref _], _)) rfl (u_ rfl) ?_
        refine w_t (pc := 54) (e_s := (7, 1, 0, 0, 0, .null, [])) (y_s := (55, [some (.ref _), some (.int _)], [.int (_ + _), .int _, .ref _], _)) rfl (u_ rfl) ?_
        refine w_t (pc := 55) (e_s := (31, 3, 0, 1, 0, .null, [(0, 811), (0, 780), (0, 781), (0, 777)])) (y_s := (58, [some (.ref _), some (.int _)], [.int _, .ref _], _)) rfl (u_ rfl) ?_
        refine w21 (pc := 58) (len_s := 3) rfl ?_
        refine w_t (pc := 61) (e_s := (3, 1, 0, 0, 0, .null, [])) (y_s := (62, [some (.ref _), some (.int _)], [.ref _], _)) rfl (u_ rfl) ?_
        refine w_t (pc := 62) (e_s := (0, 2, 0, 0, 0, .int 9, [])) (y_s := (64, [some (.ref _), some (.int _)], [.int _, .ref _], _)) rfl (u_ rfl) ?_
        refine w_t (pc := 64) (e_s := (3, 1, 0, 0, 0, .null, [])) (y_s := (65, [some (.ref _), some (.int _)], [.ref _, .int _, .ref _], _)) rfl (u_ rfl) ?_
        refine w20 (pc := 65) (len_s := 3) rfl ?_
        refine w_t (pc := 68) (e_s := (0, 1, 0, 0, 0, .int 1, [])) (y_s := (69, [some (.ref _), some (.int _)], [.int _, .int _, .int _, .ref _], _)) rfl (u_ rfl) ?_
        refine w_t (pc := 69) (e_s := (7, 1, 0, 0, 0, .null, [])) (y_s := (70, [some (.ref _), some (.int _)], [.int (_ + _), .int _, .ref _], _)) rfl (u_ rfl) ?_
        refine w_t (pc := 70) (e_s := (31, 3, 0, 1, 0, .null, [(0, 811), (0, 780), (0, 781), (0, 777)])) (y_s := (73, [some (.ref _), some (.int _)], [.int _, .ref _], _)) rfl (u_ rfl) ?_
        refine w21 (pc := 73) (len_s := 3) rfl ?_
        refine w_t (pc := 76) (e_s := (0, 1, 0, 0, 0, .int 1, [])) (y_s := (77, [some (.ref _), some (.int _)], [.int _], _)) rfl (u_ rfl) ?_
        refine wrI (pc := 77) (len_s := 1) rfl hk ?_
        show wF _ 43 (36, [some (.ref _), some (.int _)], [.int _], _) _
        exact wrI (pc := 36) (len_s := 1) rfl hk t_s
  · replace t_s := t_s.2 c1_s
    refine wsc (X_s := 1) rfl (by decide) (fun c8_s => ?_) (fun c8_s => ?_)
    · replace t_s := t_s.1 c8_s
      refine w_t (pc := 37) (e_s := (3, 1, 0, 0, 0, .null, [])) (y_s := (38, [some (.ref _), some (.int _)], [.ref _], _)) rfl (u_ rfl) ?_
      refine w_t (pc := 38) (e_s := (3, 1, 0, 0, 0, .null, [])) (y_s := (39, [some (.ref _), some (.int _)], [.ref _, .ref _], _)) rfl (u_ rfl) ?_
      refine w20 (pc := 39) (len_s := 3) rfl ?_
      refine w_t (pc := 42) (e_s := (0, 1, 0, 0, 0, .int 1, [])) (y_s := (43, [some (.ref _), some (.int _)], [.int _, .int _, .ref _], _)) rfl (u_ rfl) ?_
      refine w_t (pc := 43) (e_s := (7, 1, 0, 0, 0, .null, [])) (y_s := (44, [some (.ref _), some (.int _)], [.int (_ + _), .ref _], _)) rfl (u_ rfl) ?_
      refine wcI (pc := 44) (len_s := 3) rfl rfl (l := [some (.ref _), some (.int _)]) rfl ?_
      refine w_t (pc := 0) (e_s := (3, 1, 0, 0, 0, .null, [])) (y_s := (1, [some (.ref _), some (.int _)], [.ref _], _)) rfl (u_ rfl) ?_
      refine w20 (pc := 1) (len_s := 3) rfl ?_
      refine w_t (pc := 4) (e_s := (0, 1, 0, 0, 0, .int 2, [])) (y_s := (5, [some (.ref _), some (.int _)], [.int _, .int _], _)) rfl (u_ rfl) ?_
      refine wi2 (pc := 5) (len_s := 3) (Y := 2) rfl rfl (by decide) (fun c9_s => ?_) (fun c9_s => ?_)
      · replace t_s := t_s.1 c9_s
        refine w_t (pc := 17) (e_s := (0, 1, 0, 0, 0, .int 0, [])) (y_s := (18, [some (.ref _), some (.int _)], [.int _], _)) rfl (u_ rfl) ?_
        refine wrI (pc := 18) (len_s := 1) rfl hk ?_
        show wF _ 43 (47, [some (.ref _), some (.int _)], [.int _], _) _
        exact wrI (pc := 47) (len_s := 1) rfl hk t_s
      · replace t_s := t_s.2 c9_s
        refine w_t (pc := 8) (e_s := (1, 1, 1, 0, 0, .null, [])) (y_s := (9, [some (.ref _), some (.int _)], [.int _], _)) rfl (u_ rfl) ?_
        refine wq2 (pc := 9) (len_s := 3) rfl rfl (fun c10_s => ?_) (fun c10_s => ?_)
        · replace t_s := t_s.1 c10_s
          refine w_t (pc := 17) (e_s := (0, 1, 0, 0, 0, .int 0, [])) (y_s := (18, [some (.ref _), some (.int _)], [.int _], _)) rfl (u_ rfl) ?_
          refine wrI (pc := 18) (len_s := 1) rfl hk ?_
          show wF _ 43 (47, [some (.ref _), some (.int _)], [.int _], _) _
          exact wrI (pc := 47) (len_s := 1) rfl hk t_s
        · replace t_s := t_s.2 c10_s
          refine w_t (pc := 12) (e_s := (1, 1, 1, 0, 0, .null, [])) (y_s := (13, [some (.ref _), some (.int _)], [.int _], _)) rfl (u_ rfl) ?_
          refine w_t (pc := 13) (e_s := (0, 1, 0, 0, 0, .int 5, [])) (y_s := (14, [some (.ref _), some (.int _)], [.int _, .int _], _)) rfl (u_ rfl) ?_
          refine wi5 (pc := 14) (len_s := 3) (Y := 5) rfl rfl (by decide) (fun c11_s => ?_) (fun c11_s => ?_)
          · replace t_s := t_s.1 c11_s
            refine w_t (pc := 17) (e_s := (0, 1, 0, 0, 0, .int 0, [])) (y_s := (18, [some (.ref _), some (.int _)], [.int _], _)) rfl (u_ rfl) ?_
            refine wrI (pc := 18) (len_s := 1) rfl hk ?_
            show wF _ 43 (47, [some (.ref _), some (.int _)], [.int _], _) _
            exact wrI (pc := 47) (len_s := 1) rfl hk t_s
          · replace t_s := t_s.2 c11_s
            refine w_t (pc := 19) (e_s := (3, 1, 0, 0, 0, .null, [])) (y_s := (20, [some (.ref _), some (.int _)], [.ref _], _)) rfl (u_ rfl) ?_
            refine w_t (pc := 20) (e_s := (1, 1, 1, 0, 0, .null, [])) (y_s := (21, [some (.ref _), some (.int _)], [.int _, .ref _], _)) rfl (u_ rfl) ?_
            refine w21 (pc := 21) (len_s := 3) rfl ?_
            refine w_t (pc := 24) (e_s := (3, 1, 0, 0, 0, .null, [])) (y_s := (25, [some (.ref _), some (.int _)], [.ref _], _)) rfl (u_ rfl) ?_
            refine w_t (pc := 25) (e_s := (0, 1, 0, 0, 0, .int 2, [])) (y_s := (26, [some (.ref _), some (.int _)], [.int _, .ref _], _)) rfl (u_ rfl) ?_
            refine wcV (pc := 26) (len_s := 3) rfl rfl (l := [some (.ref _), some (.int _)]) rfl ?_
            refine w_t (pc := 0) (e_s := (3, 1, 0, 0, 0, .null, [])) (y_s := (1, [some (.ref _), some (.int _)], [.ref _], _)) rfl (u_ rfl) ?_
            refine w_t (pc := 1) (e_s := (0, 1, 0, 0, 0, .int 0, [])) (y_s := (2, [some (.ref _), some (.int _)], [.int _, .ref _], _)) rfl (u_ rfl) ?_
            refine w_t (pc := 2) (e_s := (3, 1, 0, 0, 0, .null, [])) (y_s := (3, [some (.ref _), some (.int _)], [.ref _, .int _, .ref _], _)) rfl (u_ rfl) ?_
            refine w20 (pc := 3) (len_s := 3) rfl ?_
            refine w_t (pc := 6) (e_s := (1, 1, 1, 0, 0, .null, [])) (y_s := (7, [some (.ref _), some (.int _)], [.int _, .int _, .int _, .ref _], _)) rfl (u_ rfl) ?_
            refine w_t (pc := 7) (e_s := (7, 1, 0, 1, 0, .null, [])) (y_s := (8, [some (.ref _), some (.int _)], [.int (_ - _), .int _, .ref _], _)) rfl (u_ rfl) ?_
            refine w_t (pc := 8) (e_s := (31, 3, 0, 0, 0, .null, [(0, 812), (0, 783), (0, 784), (0, 777)])) (y_s := (11, [some (.ref _), some (.int _)], [.int _, .ref _], _)) rfl (u_ rfl) ?_
            refine w21 (pc := 11) (len_s := 3) rfl ?_
            refine wrV (pc := 14) (len_s := 1) rfl hk ?_
            show wF _ 45 (29, [some (.ref _), some (.int _)], [], _) _
            refine w_t (pc := 29) (e_s := (0, 1, 0, 0, 0, .int 1, [])) (y_s := (30, [some (.ref _), some (.int _)], [.int _], _)) rfl (u_ rfl) ?_
            refine wrI (pc := 30) (len_s := 1) rfl hk ?_
            show wF _ 43 (47, [some (.ref _), some (.int _)], [.int _], _) _
            exact wrI (pc := 47) (len_s := 1) rfl hk t_s
    · replace t_s := t_s.2 c8_s
      refine wsc (X_s := 2) rfl (by decide) (fun c12_s => ?_) (fun c12_s => ?_)
      · replace t_s := t_s.1 c12_s
        refine w_t (pc := 48) (e_s := (3, 1, 0, 0, 0, .null, [])) (y_s := (49, [some (.ref _), some (.int _)], [.ref _], _)) rfl (u_ rfl) ?_
        refine w_t (pc := 49) (e_s := (3, 1, 0, 0, 0, .null, [])) (y_s := (50, [some (.ref _), some (.int _)], [.ref _, .ref _], _)) rfl (u_ rfl) ?_
        refine w20 (pc := 50) (len_s := 3) rfl ?_
        refine w_t (pc := 53) (e_s := (0, 1, 0, 0, 0, .int 1, [])) (y_s := (54, [some (.ref _), some (.int _)], [.int _, .int _, .ref _], _)) rfl (u_ rfl) ?_
        refine w_t (pc := 54) (e_s := (7, 1, 0, 1, 0, .null, [])) (y_s := (55, [some (.ref _), some (.int _)], [.int (_ - _), .ref _], _)) rfl (u_ rfl) ?_
        refine wcI (pc := 55) (len_s := 3) rfl rfl (l := [some (.ref _), some (.int _)]) rfl ?_
        refine w_t (pc := 0) (e_s := (3, 1, 0, 0, 0, .null, [])) (y_s := (1, [some (.ref _), some (.int _)], [.ref _], _)) rfl (u_ rfl) ?_
        refine w20 (pc := 1) (len_s := 3) rfl ?_
        refine w_t (pc := 4) (e_s := (0, 1, 0, 0, 0, .int 2, [])) (y_s := (5, [some (.ref _), some (.int _)], [.int _, .int _], _)) rfl (u_ rfl) ?_
        refine wi2 (pc := 5) (len_s := 3) (Y := 2) rfl rfl (by decide) (fun c13_s => ?_) (fun c13_s => ?_)
        · replace t_s := t_s.1 c13_s
          refine w_t (pc := 17) (e_s := (0, 1, 0, 0, 0, .int 0, [])) (y_s := (18, [some (.ref _), some (.int _)], [.int _], _)) rfl (u_ rfl) ?_
          refine wrI (pc := 18) (len_s := 1) rfl hk ?_
          show wF _ 43 (58, [some (.ref _), some (.int _)], [.int _], _) _
          exact wrI (pc := 58) (len_s := 1) rfl hk t_s
        · replace t_s := t_s.2 c13_s
          refine w_t (pc := 8) (e_s := (1, 1, 1, 0, 0, .null, [])) (y_s := (9, [some (.ref _), some (.int _)], [.int _], _)) rfl (u_ rfl) ?_
          refine wq2 (pc := 9) (len_s := 3) rfl rfl (fun c14_s => ?_) (fun c14_s => ?_)
          · replace t_s := t_s.1 c14_s
            refine w_t (pc := 17) (e_s := (0, 1, 0, 0, 0, .int 0, [])) (y_s := (18, [some (.ref _), some (.int _)], [.int _], _)) rfl (u_ rfl) ?_
            refine wrI (pc := 18) (len_s := 1) rfl hk ?_
            show wF _ 43 (58, [some (.ref _), some (.int _)], [.int _], _) _
            exact wrI (pc := 58) (len_s := 1) rfl hk t_s
          · replace t_s := t_s.2 c14_s
            refine w_t (pc := 12) (e_s := (1, 1, 1, 0, 0, .null, [])) (y_s := (13, [some (.ref _), some (.int _)], [.int _], _)) rfl (u_ rfl) ?_
            refine w_t (pc := 13) (e_s := (0, 1, 0, 0, 0, .int 5, [])) (y_s := (14, [some (.ref _), some (.int _)], [.int _, .int _], _)) rfl (u_ rfl) ?_
            refine wi5 (pc := 14) (len_s := 3) (Y := 5) rfl rfl (by decide) (fun c15_s => ?_) (fun c15_s => ?_)
            · replace t_s := t_s.1 c15_s
              refine w_t (pc := 17) (e_s := (0, 1, 0, 0, 0, .int 0, [])) (y_s := (18, [some (.ref _), some (.int _)], [.int _], _)) rfl (u_ rfl) ?_
              refine wrI (pc := 18) (len_s := 1) rfl hk ?_
              show wF _ 43 (58, [some (.ref _), some (.int _)], [.int _], _) _
              exact wrI (pc := 58) (len_s := 1) rfl hk t_s
            · replace t_s := t_s.2 c15_s
              refine w_t (pc := 19) (e_s := (3, 1, 0, 0, 0, .null, [])) (y_s := (20, [some (.ref _), some (.int _)], [.ref _], _)) rfl (u_ rfl) ?_
              refine w_t (pc := 20) (e_s := (1, 1, 1, 0, 0, .null, [])) (y_s := (21, [some (.ref _), some (.int _)], [.int _, .ref _], _)) rfl (u_ rfl) ?_
              refine w21 (pc := 21) (len_s := 3) rfl ?_
              refine w_t (pc := 24) (e_s := (3, 1, 0, 0, 0, .null, [])) (y_s := (25, [some (.ref _), some (.int _)], [.ref _], _)) rfl (u_ rfl) ?_
              refine w_t (pc := 25) (e_s := (0, 1, 0, 0, 0, .int 2, [])) (y_s := (26, [some (.ref _), some (.int _)], [.int _, .ref _], _)) rfl (u_ rfl) ?_
              refine wcV (pc := 26) (len_s := 3) rfl rfl (l := [some (.ref _), some (.int _)]) rfl ?_
              refine w_t (pc := 0) (e_s := (3, 1, 0, 0, 0, .null, [])) (y_s := (1, [some (.ref _), some (.int _)], [.ref _], _)) rfl (u_ rfl) ?_
              refine w_t (pc := 1) (e_s := (0, 1, 0, 0, 0, .int 0, [])) (y_s := (2, [some (.ref _), some (.int _)], [.int _, .ref _], _)) rfl (u_ rfl) ?_
              refine w_t (pc := 2) (e_s := (3, 1, 0, 0, 0, .null, [])) (y_s := (3, [some (.ref _), some (.int _)], [.ref _, .int _, .ref _], _)) rfl (u_ rfl) ?_
              refine w20 (pc := 3) (len_s := 3) rfl ?_
              refine w_t (pc := 6) (e_s := (1, 1, 1, 0, 0, .null, [])) (y_s := (7, [some (.ref _), some (.int _)], [.int _, .int _, .int _, .ref _], _)) rfl (u_ rfl) ?_
              refine w_t (pc := 7) (e_s := (7, 1, 0, 1, 0, .null, [])) (y_s := (8, [some (.ref _), some (.int _)], [.int (_ - _), .int _, .ref _], _)) rfl (u_ rfl) ?_
              refine w_t (pc := 8) (e_s := (31, 3, 0, 0, 0, .null, [(0, 812), (0, 783), (0, 784), (0, 777)])) (y_s := (11, [some (.ref _), some (.int _)], [.int _, .ref _], _)) rfl (u_ rfl) ?_
              refine w21 (pc := 11) (len_s := 3) rfl ?_
              refine wrV (pc := 14) (len_s := 1) rfl hk ?_
              show wF _ 45 (29, [some (.ref _), some (.int _)], [], _) _
              refine w_t (pc := 29) (e_s := (0, 1, 0, 0, 0, .int 1, [])) (y_s := (30, [some (.ref _), some (.int _)], [.int _], _)) rfl (u_ rfl) ?_
              refine wrI (pc := 30) (len_s := 1) rfl hk ?_
              show wF _ 43 (58, [some (.ref _), some (.int _)], [.int _], _) _
              exact wrI (pc := 58) (len_s := 1) rfl hk t_s
      · replace t_s := t_s.2 c12_s
        refine wsc (X_s := 3) rfl (by decide) (fun c16 => ?_) (fun c16 => ?_)
        · replace t_s := t_s.1 c16
          refine w_t (pc := 59) (e_s := (3, 1, 0, 0, 0, .null, [])) (y_s := (60, [some (.ref _), some (.int _)], [.ref _], _)) rfl (u_ rfl) ?_
          refine wcI (pc := 60) (len_s := 3) rfl rfl (l := [some (.ref _)]) rfl ?_
          refine w_t (pc := 0) (e_s := (3, 1, 0, 0, 0, .null, [])) (y_s := (1, [some (.ref _)], [.ref _], _)) rfl (u_ rfl) ?_
          refine w20 (pc := 1) (len_s := 3) rfl ?_
          refine w_t (pc := 4) (e_s := (0, 1, 0, 0, 0, .int 1, [])) (y_s := (5, [some (.ref _)], [.int _, .int _], _)) rfl (u_ rfl) ?_
          refine wi3 (pc := 5) (len_s := 3) (Y := 1) rfl rfl (by decide) (fun c17 => ?_) (fun c17 => ?_)
          · replace t_s := t_s.1 c17
            refine w_t (pc := 8) (e_s := (0, 1, 0, 0, 0, .int 0, [])) (y_s := (9, [some (.ref _)], [.int _], _)) rfl (u_ rfl) ?_
            refine wrI (pc := 9) (len_s := 1) rfl hk ?_
            show wF _ 43 (63, [some (.ref _), some (.int _)], [.int _], _) _
            exact wrI (pc := 63) (len_s := 1) rfl hk t_s
          · replace t_s := t_s.2 c17
            refine w_t (pc := 10) (e_s := (3, 1, 0, 0, 0, .null, [])) (y_s := (11, [some (.ref _)], [.ref _], _)) rfl (u_ rfl) ?_
            refine w_t (pc := 11) (e_s := (0, 1, 0, 0, 0, .int 0, [])) (y_s := (12, [some (.ref _)], [.int _, .ref _], _)) rfl (u_ rfl) ?_
            refine w_t (pc := 12) (e_s := (3, 1, 0, 0, 0, .null, [])) (y_s := (13, [some (.ref _)], [.ref _, .int _, .ref _], _)) rfl (u_ rfl) ?_
            refine w20 (pc := 13) (len_s := 3) rfl ?_
            refine w_t (pc := 16) (e_s := (0, 2, 0, 0, 0, .int 10, [])) (y_s := (18, [some (.ref _)], [.int _, .int _, .int _, .ref _], _)) rfl (u_ rfl) ?_
            refine w_t (pc := 18) (e_s := (7, 1, 0, 1, 0, .null, [])) (y_s := (19, [some (.ref _)], [.int (_ - _), .int _, .ref _], _)) rfl (u_ rfl) ?_
            refine w_t (pc := 19) (e_s := (31, 3, 0, 0, 0, .null, [(0, 812), (0, 783), (0, 784), (0, 777)])) (y_s := (22, [some (.ref _)], [.int _, .ref _], _)) rfl (u_ rfl) ?_
            refine w21 (pc := 22) (len_s := 3) rfl ?_
            refine w_t (pc := 25) (e_s := (3, 1, 0, 0, 0, .null, [])) (y_s := (26, [some (.ref _)], [.ref _], _)) rfl (u_ rfl) ?_
            refine w_t (pc := 26) (e_s := (0, 1, 0, 0, 0, .int 1, [])) (y_s := (27, [some (.ref _)], [.int _, .ref _], _)) rfl (u_ rfl) ?_
            refine wcV (pc := 27) (len_s := 3) rfl rfl (l := [some (.ref _), some (.int _)]) rfl ?_
            refine w_t (pc := 0) (e_s := (3, 1, 0, 0, 0, .null, [])) (y_s := (1, [some (.ref _), some (.int _)], [.ref _], _)) rfl (u_ rfl) ?_
            refine w_t (pc := 1) (e_s := (0, 1, 0, 0, 0, .int 0, [])) (y_s := (2, [some (.ref _), some (.int _)], [.int _, .ref _], _)) rfl (u_ rfl) ?_
            refine w_t (pc := 2) (e_s := (3, 1, 0, 0, 0, .null, [])) (y_s := (3, [some (.ref _), some (.int _)], [.ref _, .int _, .ref _], _)) rfl (u_ rfl) ?_
            refine w20 (pc := 3) (len_s := 3) rfl ?_
            refine w_t (pc := 6) (e_s := (1, 1, 1, 0, 0, .null, [])) (y_s := (7, [some (.ref _), some (.int _)], [.int _, .int _, .int _, .ref _], _)) rfl (u_ rfl) ?_
            refine w_t (pc := 7) (e_s := (7, 1, 0, 1, 0, .null, [])) (y_s := (8, [some (.ref _), some (.int _)], [.int (_ - _), .int _, .ref _], _)) rfl (u_ rfl) ?_
            refine w_t (pc := 8) (e_s := (31, 3, 0, 0, 0, .null, [(0, 812), (0, 783), (0, 784), (0, 777)])) (y_s := (11, [some (.ref _), some (.int _)], [.int _, .ref _], _)) rfl (u_ rfl) ?_
            refine w21 (pc := 11) (len_s := 3) rfl ?_
            refine wrV (pc := 14) (len_s := 1) rfl hk ?_
            show wF _ 46 (30, [some (.ref _)], [], _) _
            refine w_t (pc := 30) (e_s := (0, 1, 0, 0, 0, .int 1, [])) (y_s := (31, [some (.ref _)], [.int _], _)) rfl (u_ rfl) ?_
            refine wrI (pc := 31) (len_s := 1) rfl hk ?_
            show wF _ 43 (63, [some (.ref _), some (.int _)], [.int _], _) _
            exact wrI (pc := 63) (len_s := 1) rfl hk t_s
        · replace t_s := t_s.2 c16
          show wF _ _ (64, _, _, _) _
          refine w_t (pc := 64) (e_s := (0, 1, 0, 0, 0, .int 0, [])) (y_s := (65, [some (.ref _), some (.int _)], [.int _], _)) rfl (u_ rfl) ?_
          exact wrI (pc := 65) (len_s := 1) rfl hk t_s
/-- ColdShodModel.strikes(I)Z, from 0 on -/
theorem sg_184_0 {F_s : Nat} {x1_s : Int32} {h_s : zH} {K_s : Int32 → zH → Prop} (hk : hKn h_s) (t_s : (x1_s.toInt = 0 → (((h_s.2.1 112 4).toInt = 1 → ((0 < (h_s.2.1 112 5).toInt → K_s 0 h_s) ∧ (¬ 0 < (h_s.2.1 112 5).toInt → ((6 < (h_s.2.1 112 3).toInt → ((8 < (h_s.2.1 112 5).toInt → K_s 1 (h_s.1, zup (zup h_s.2.1 112 3 9) 112 5 9, h_s.2.2.1, h_s.2.2.2)) ∧ (¬ 8 < (h_s.2.1 112 5).toInt → K_s 1 (h_s.1, zup (zup h_s.2.1 112 3 9) 112 5 ((h_s.2.1 112 5) + 1), h_s.2.2.1, h_s.2.2.2)))) ∧ (¬ 6 < (h_s.2.1 112 3).toInt → ((8 < (h_s.2.1 112 5).toInt → K_s 1 (h_s.1, zup (zup h_s.2.1 112 3 ((h_s.2.1 112 3) + 3)) 112 5 9, h_s.2.2.1, h_s.2.2.2)) ∧ (¬ 8 < (h_s.2.1 112 5).toInt → K_s 1 (h_s.1, zup (zup h_s.2.1 112 3 ((h_s.2.1 112 3) + 3)) 112 5 ((h_s.2.1 112 5) + 1), h_s.2.2.1, h_s.2.2.2)))))))) ∧ (¬ (h_s.2.1 112 4).toInt = 1 → ((6 < (h_s.2.1 112 3).toInt → ((8 < (h_s.2.1 112 5).toInt → K_s 1 (h_s.1, zup (zup h_s.2.1 112 3 9) 112 5 9, h_s.2.2.1, h_s.2.2.2)) ∧ (¬ 8 < (h_s.2.1 112 5).toInt → K_s 1 (h_s.1, zup (zup h_s.2.1 112 3 9) 112 5 ((h_s.2.1 112 5) + 1), h_s.2.2.1, h_s.2.2.2)))) ∧ (¬ 6 < (h_s.2.1 112 3).toInt → ((8 < (h_s.2.1 112 5).toInt → K_s 1 (h_s.1, zup (zup h_s.2.1 112 3 ((h_s.2.1 112 3) + 3)) 112 5 9, h_s.2.2.1, h_s.2.2.2)) ∧ (¬ 8 < (h_s.2.1 112 5).toInt → K_s 1 (h_s.1, zup (zup h_s.2.1 112 3 ((h_s.2.1 112 3) + 3)) 112 5 ((h_s.2.1 112 5) + 1), h_s.2.2.1, h_s.2.2.2)))))))) ∧ (¬ x1_s.toInt = 0 → (x1_s.toInt = 3 → (((h_s.2.1 112 3).toInt < 1 → K_s 0 h_s) ∧ (¬ (h_s.2.1 112 3).toInt < 1 → (((h_s.2.1 112 2).toInt < 10 → K_s 1 (h_s.1, zup (zup h_s.2.1 112 3 ((h_s.2.1 112 3) - 1)) 112 2 0, h_s.2.2.1, h_s.2.2.2)) ∧ (¬ (h_s.2.1 112 2).toInt < 10 → K_s 1 (h_s.1, zup (zup h_s.2.1 112 3 ((h_s.2.1 112 3) - 1)) 112 2 ((h_s.2.1 112 2) - 10), h_s.2.2.1, h_s.2.2.2)))))) ∧ (¬ x1_s.toInt = 3 → ((x1_s.toInt = 1 → (((h_s.2.1 112 3).toInt < 2 → K_s 0 h_s) ∧ (¬ (h_s.2.1 112 3).toInt < 2 → ((((h_s.2.1 112 1) + 1).toInt < 0 → K_s 0 h_s) ∧ (¬ ((h_s.2.1 112 1) + 1).toInt < 0 → ((5 < ((h_s.2.1 112 1) + 1).toInt → K_s 0 h_s) ∧ (¬ 5 < ((h_s.2.1 112 1) + 1).toInt → K_s 1 (h_s.1, zup (zup h_s.2.1 112 3 ((h_s.2.1 112 3) - 2)) 112 1 ((h_s.2.1 112 1) + 1), h_s.2.2.1, h_s.2.2.2)))))))) ∧ (¬ x1_s.toInt = 1 → (((h_s.2.1 112 3).toInt < 2 → K_s 0 h_s) ∧ (¬ (h_s.2.1 112 3).toInt < 2 → ((((h_s.2.1 112 1) + (-1)).toInt < 0 → K_s 0 h_s) ∧ (¬ ((h_s.2.1 112 1) + (-1)).toInt < 0 → ((5 < ((h_s.2.1 112 1) + (-1)).toInt → K_s 0 h_s) ∧ (¬ 5 < ((h_s.2.1 112 1) + (-1)).toInt → K_s 1 (h_s.1, zup (zup h_s.2.1 112 3 ((h_s.2.1 112 3) - 2)) 112 1 ((h_s.2.1 112 1) + (-1)), h_s.2.2.1, h_s.2.2.2)))))))))))) : wF (F_s + 1) 184 (0, [some (.ref 102), some (.int x1_s)], [], h_s) (gI K_s) := by
  refine w_0 (pc := 0) (e_s := (1, 1, 1, 0, 0, .null, [])) (y_s := (1, [some (.ref _), some (.int _)], [.int _], _)) rfl (u_ rfl) ?_
  refine wsw (pc := 1) (len_s := 27) rfl ?_
  refine wsc (X_s := 0) rfl (by decide) (fun c1_s => ?_) (fun c1_s => ?_)
  · replace t_s := t_s.1 c1_s
    refine w_t (pc := 28) (e_s := (3, 1, 0, 0, 0, .null, [])) (y_s := (29, [some (.ref _), some (.int _)], [.ref _], _)) rfl (u_ rfl) ?_
    refine w20r (pc := 29) (len_s := 3) (q_s := 112) rfl (krq hk rfl) ?_
    refine w_t (pc := 32) (e_s := (0, 1, 0, 0, 0, .int 4, [])) (y_s := (33, [some (.ref _), some (.int _)], [.int _, .ref _], _)) rfl (u_ rfl) ?_
    refine w22 (pc := 33) (len_s := 1) rfl (hk.1 112 0 7 rfl rfl) (fun c2_s => ?_)
    refine w_t (pc := 34) (e_s := (0, 1, 0, 0, 0, .int 1, [])) (y_s := (35, [some (.ref _), some (.int _)], [.int _, .int _], _)) rfl (u_ rfl) ?_
    refine wi1 (pc := 35) (len_s := 3) (Y := 1) rfl rfl (by decide) (fun c3_s => ?_) (fun c3_s => ?_)
    · replace t_s := t_s.1 c3_s
      refine w_t (pc := 38) (e_s := (3, 1, 0, 0, 0, .null, [])) (y_s := (39, [some (.ref _), some (.int _)], [.ref _], _)) rfl (u_ rfl) ?_
      refine w20r (pc := 39) (len_s := 3) (q_s := 112) rfl (krq hk rfl) ?_
      refine w_t (pc := 42) (e_s := (0, 1, 0, 0, 0, .int 5, [])) (y_s := (43, [some (.ref _), some (.int _)], [.int _, .ref _], _)) rfl (u_ rfl) ?_
      refine w22 (pc := 43) (len_s := 1) rfl (hk.1 112 0 7 rfl rfl) (fun c4_s => ?_)
      refine wq5 (pc := 44) (len_s := 3) rfl rfl (fun c5_s => ?_) (fun c5_s => ?_)
      · replace t_s := t_s.1 c5_s
        refine w_t (pc := 47) (e_s := (0, 1, 0, 0, 0, .int 0, [])) (y_s := (48, [some (.ref _), some (.int _)], [.int _], _)) rfl (u_ rfl) ?_
        exact wrI (pc := 48) (len_s := 1) rfl hk t_s
      · replace t_s := t_s.2 c5_s
        refine w_t (pc := 49) (e_s := (3, 1, 0, 0, 0, .null, [])) (y_s := (50, [some (.ref _), some (.int _)], [.ref _], _)) rfl (u_ rfl) ?_
        refine w20r (pc := 50) (len_s := 3) (q_s := 112) rfl (krq hk rfl) ?_
        refine w_t (pc := 53) (e_s := (0, 1, 0, 0, 0, .int 3, [])) (y_s := (54, [some (.ref _), some (.int _)], [.int _, .ref _], _)) rfl (u_ rfl) ?_
        refine w_t (pc := 54) (e_s := (3, 1, 0, 0, 0, .null, [])) (y_s := (55, [some (.ref _), some (.int _)], [.ref _, .int _, .ref _], _)) rfl (u_ rfl) ?_
        refine w20r (pc := 55) (len_s := 3) (q_s := 112) rfl (krq hk rfl) ?_
        refine w_t (pc := 58) (e_s := (0, 1, 0, 0, 0, .int 3, [])) (y_s := (59, [some (.ref _), some (.int _)], [.int _, .ref _, .int _, .ref _], _)) rfl (u_ rfl) ?_
        refine w22 (pc := 59) (len_s := 1) rfl (hk.1 112 0 7 rfl rfl) (fun c6_s => ?_)
        refine w_t (pc := 60) (e_s := (0, 2, 0, 0, 0, .int 6, [])) (y_s := (62, [some (.ref _), some (.int _)], [.int _, .int _, .int _, .ref _], _)) rfl (u_ rfl) ?_
        refine wi5 (pc := 62) (len_s := 3) (Y := 6) rfl rfl (by decide) (fun c7_s => ?_) (fun c7_s => ?_)
        · replace t_s := t_s.1 c7_s
          refine w_t (pc := 65) (e_s := (0, 2, 0, 0, 0, .int 9, [])) (y_s := (67, [some (.ref _), some (.int _)], [.int _, .int _, .ref _], _)) rfl (u_ rfl) ?_
          refine w_t (pc := 67) (e_s := (17, 3, 78, 0, 0, .null, [])) (y_s := (78, [some (.ref _), some (.int _)], [.int _, .int _, .ref _], _)) rfl (u_ rfl) ?_
          refine w25 (pc := 78) (len_s := 1) rfl (hk.1 112 0 7 rfl rfl) (fun c8_s => ?_)
          refine w_t (pc := 79) (e_s := (3, 1, 0, 0, 0, .null, [])) (y_s := (80, [some (.ref _), some (.int _)], [.ref _], _)) rfl (u_ rfl) ?_
          refine w20r (pc := 80) (len_s := 3) (q_s := 112) rfl (krq hk rfl) ?_
          refine w_t (pc := 83) (e_s := (0, 1, 0, 0, 0, .int 5, [])) (y_s := (84, [some (.ref _), some (.int _)], [.int _, .ref _], _)) rfl (u_ rfl) ?_
          refine w_t (pc := 84) (e_s := (3, 1, 0, 0, 0, .null, [])) (y_s := (85, [some (.ref _), some (.int _)], [.ref _, .int _, .ref _], _)) rfl (u_ rfl) ?_
          refine w20r (pc := 85) (len_s := 3) (q_s := 112) rfl (krq hk rfl) ?_
          refine w_t (pc := 88) (e_s := (0, 1, 0, 0, 0, .int 5, [])) (y_s := (89, [some (.ref _), some (.int _)], [.int _, .ref _, .int _, .ref _], _)) rfl (u_ rfl) ?_
          refine w22 (pc := 89) (len_s := 1) rfl (hk.1 112 0 7 rfl rfl) (fun c9_s => ?_)
          refine w_t (pc := 90) (e_s := (0, 2, 0, 0, 0, .int 8, [])) (y_s := (92, [some (.ref _), some (.int _)], [.int _, .int _, .int _, .ref _], _)) rfl (u_ rfl) ?_
          refine wi5 (pc := 92) (len_s := 3) (Y := 8) rfl rfl (by decide) (fun c10_s => ?_) (fun c10_s => ?_)
          · replace t_s := t_s.1 c10_s
            refine w_t (pc := 95) (e_s := (0, 2, 0, 0, 0, .int 9, [])) (y_s := (97, [some (.ref _), some (.int _)], [.int _, .int _, .ref _], _)) rfl (u_ rfl) ?_
            refine w_t (pc := 97) (e_s := (17, 3, 108, 0, 0, .null, [])) (y_s := (108, [some (.ref _), some (.int _)], [.int _, .int _, .ref _], _)) rfl (u_ rfl) ?_
            refine w25 (pc := 108) (len_s := 1) rfl (hk.1 112 0 7 rfl rfl) (fun c11_s => ?_)
            refine w_t (pc := 109) (e_s := (0, 1, 0, 0, 0, .int 1, [])) (y_s := (110, [some (.ref _), some (.int _)], [.int _], _)) rfl (u_ rfl) ?_
            exact wrI (pc := 110) (len_s := 1) rfl hk t_s
          · replace t_s := t_s.2 c10_s
            refine w_t (pc := 100) (e_s := (3, 1, 0, 0, 0, .null, [])) (y_s := (101, [some (.ref _), some (.int _)], [.ref _, .int _, .ref _], _)) rfl (u_ rfl) ?_
            refine w20r (pc := 101) (len_s := 3) (q_s := 112) rfl (krq hk rfl) ?_
            refine w_t (pc := 104) (e_s := (0, 1, 0, 0, 0, .int 5, [])) (y_s := (105, [some (.ref _), some (.int _)], [.int _, .ref _, .int _, .ref _], _)) rfl (u_ rfl) ?_
            refine w22 (pc := 105) (len_s := 1) rfl (hk.1 112 0 7 rfl rfl) (fun c12_s => ?_)
            refine w_t (pc := 106) (e_s := (0, 1, 0, 0, 0, .int 1, [])) (y_s := (107, [some (.ref _), some (.int _)], [.int _, .int _, .int _, .ref _], _)) rfl (u_ rfl) ?_
            refine w_t (pc := 107) (e_s := (7, 1, 0, 0, 0, .null, [])) (y_s := (108, [some (.ref _), some (.int _)], [.int (_ + _), .int _, .ref _], _)) rfl (u_ rfl) ?_
            refine w25 (pc := 108) (len_s := 1) rfl (hk.1 112 0 7 rfl rfl) (fun c13_s => ?_)
            refine w_t (pc := 109) (e_s := (0, 1, 0, 0, 0, .int 1, [])) (y_s := (110, [some (.ref _), some (.int _)], [.int _], _)) rfl (u_ rfl) ?_
            exact wrI (pc := 110) (len_s := 1) rfl hk t_s
        · replace t_s := t_s.2 c7_s
          refine w_t (pc := 70) (e_s := (3, 1, 0, 0, 0, .null, [])) (y_s := (71, [some (.ref _), some (.int _)], [.ref _, .int _, .ref _], _)) rfl (u_ rfl) ?_
          refine w20r (pc := 71) (len_s := 3) (q_s := 112) rfl (krq hk rfl) ?_
          refine w_t (pc := 74) (e_s := (0, 1, 0, 0, 0, .int 3, [])) (y_s := (75, [some (.ref _), some (.int _)], [.int _, .ref _, .int _, .ref _], _)) rfl (u_ rfl) ?_
          refine w22 (pc := 75) (len_s := 1) rfl (hk.1 112 0 7 rfl rfl) (fun c14_s => ?_)
          refine w_t (pc := 76) (e_s := (0, 1, 0, 0, 0, .int 3, [])) (y_s := (77, [some (.ref _), some (.int _)], [.int _, .int _, .int _, .ref _], _)) rfl (u_ rfl) ?_
          refine w_t (pc := 77) (e_s := (7, 1, 0, 0, 0, .null, [])) (y_s := (78, [some (.ref _), some (.int _)], [.int (_ + _), .int _, .ref _], _)) rfl (u_ rfl) ?_
          refine w25 (pc := 78) (len_s := 1) rfl (hk.1 112 0 7 rfl rfl) (fun c15_s => ?_)
          refine w_t (pc := 79) (e_s := (3, 1, 0, 0, 0, .null, [])) (y_s := (80, [some (.ref _), some (.int _)], [.ref _], _)) rfl (u_ rfl) ?_
          refine w20r (pc := 80) (len_s := 3) (q_s := 112) rfl (krq hk rfl) ?_
          refine w_t (pc := 83) (e_s := (0, 1, 0, 0, 0, .int 5, [])) (y_s := (84, [some (.ref _), some (.int _)], [.int _, .ref _], _)) rfl (u_ rfl) ?_
          refine w_t (pc := 84) (e_s := (3, 1, 0, 0, 0, .null, [])) (y_s := (85, [some (.ref _), some (.int _)], [.ref _, .int _, .ref _], _)) rfl (u_ rfl) ?_
          refine w20r (pc := 85) (len_s := 3) (q_s := 112) rfl (krq hk rfl) ?_
          refine w_t (pc := 88) (e_s := (0, 1, 0, 0, 0, .int 5, [])) (y_s := (89, [some (.ref _), some (.int _)], [.int _, .ref _, .int _, .ref _], _)) rfl (u_ rfl) ?_
          refine w22 (pc := 89) (len_s := 1) rfl (hk.1 112 0 7 rfl rfl) (fun c16 => ?_)
          refine w_t (pc := 90) (e_s := (0, 2, 0, 0, 0, .int 8, [])) (y_s := (92, [some (.ref _), some (.int _)], [.int _, .int _, .int _, .ref _], _)) rfl (u_ rfl) ?_
          refine wi5 (pc := 92) (len_s := 3) (Y := 8) rfl rfl (by decide) (fun c17 => ?_) (fun c17 => ?_)
          · replace t_s := t_s.1 c17
            refine w_t (pc := 95) (e_s := (0, 2, 0, 0, 0, .int 9, [])) (y_s := (97, [some (.ref _), some (.int _)], [.int _, .int _, .ref _], _)) rfl (u_ rfl) ?_
            refine w_t (pc := 97) (e_s := (17, 3, 108, 0, 0, .null, [])) (y_s := (108, [some (.ref _), some (.int _)], [.int _, .int _, .ref _], _)) rfl (u_ rfl) ?_
            refine w25 (pc := 108) (len_s := 1) rfl (hk.1 112 0 7 rfl rfl) (fun c18_s => ?_)
            refine w_t (pc := 109) (e_s := (0, 1, 0, 0, 0, .int 1, [])) (y_s := (110, [some (.ref _), some (.int _)], [.int _], _)) rfl (u_ rfl) ?_
            exact wrI (pc := 110) (len_s := 1) rfl hk t_s
          · replace t_s := t_s.2 c17
            refine w_t (pc := 100) (e_s := (3, 1, 0, 0, 0, .null, [])) (y_s := (101, [some (.ref _), some (.int _)], [.ref _, .int _, .ref _], _)) rfl (u_ rfl) ?_
            refine w20r (pc := 101) (len_s := 3) (q_s := 112) rfl (krq hk rfl) ?_
            refine w_t (pc := 104) (e_s := (0, 1, 0, 0, 0, .int 5, [])) (y_s := (105, [some (.ref _), some (.int _)], [.int _, .ref _, .int _, .ref _], _)) rfl (u_ rfl) ?_
            refine w22 (pc := 105) (len_s := 1) rfl (hk.1 112 0 7 rfl rfl) (fun c19_s => ?_)
            refine w_t (pc := 106) (e_s := (0, 1, 0, 0, 0, .int 1, [])) (y_s := (107, [some (.ref _), some (.int _)], [.int _, .int _, .int _, .ref _], _)) rfl (u_ rfl) ?_
            refine w_t (pc := 107) (e_s := (7, 1, 0, 0, 0, .null, [])) (y_s := (108, [some (.ref _), some (.int _)], [.int (_ + _), .int _, .ref _], _)) rfl (u_ rfl) ?_
            refine w25 (pc := 108) (len_s := 1) rfl (hk.1 112 0 7 rfl rfl) (fun c20_s => ?_)
            refine w_t (pc := 109) (e_s := (0, 1, 0, 0, 0, .int 1, [])) (y_s := (110, [some (.ref _), some (.int _)], [.int _], _)) rfl (u_ rfl) ?_
            exact wrI (pc := 110) (len_s := 1) rfl hk t_s
    · replace t_s := t_s.2 c3_s
      refine w_t (pc := 49) (e_s := (3, 1, 0, 0, 0, .null, [])) (y_s := (50, [some (.ref _), some (.int _)], [.ref _], _)) rfl (u_ rfl) ?_
      refine w20r (pc := 50) (len_s := 3) (q_s := 112) rfl (krq hk rfl) ?_
      refine w_t (pc := 53) (e_s := (0, 1, 0, 0, 0, .int 3, [])) (y_s := (54, [some (.ref _), some (.int _)], [.int _, .ref _], _)) rfl (u_ rfl) ?_
      refine w_t (pc := 54) (e_s := (3, 1, 0, 0, 0, .null, [])) (y_s := (55, [some (.ref _), some (.int _)], [.ref _, .int _, .ref _], _)) rfl (u_ rfl) ?_
      refine w20r (pc := 55) (len_s := 3) (q_s := 112) rfl (krq hk rfl) ?_
      refine w_t (pc := 58) (e_s := (0, 1, 0, 0, 0, .int 3, [])) (y_s := (59, [some (.ref _), some (.int _)], [.int _, .ref _, .int _, .ref _], _)) rfl (u_ rfl) ?_
      refine w22 (pc := 59) (len_s := 1) rfl (hk.1 112 0 7 rfl rfl) (fun c21 => ?_)
      refine w_t (pc := 60) (e_s := (0, 2, 0, 0, 0, .int 6, [])) (y_s := (62, [some (.ref _), some (.int _)], [.int _, .int _, .int _, .ref _], _)) rfl (u_ rfl) ?_
      refine wi5 (pc := 62) (len_s := 3) (Y := 6) rfl rfl (by decide) (fun c22 => ?_) (fun c22 => ?_)
      · replace t_s := t_s.1 c22
        refine w_t (pc := 65) (e_s := (0, 2, 0, 0, 0, .int 9, [])) (y_s := (67, [some (.ref _), some (.int _)], [.int _, .int _, .ref _], _)) rfl (u_ rfl) ?_
        refine w_t (pc := 67) (e_s := (17, 3, 78, 0, 0, .null, [])) (y_s := (78, [some (.ref _), some (.int _)], [.int _, .int _, .ref _], _)) rfl (u_ rfl) ?_
        refine w25 (pc := 78) (len_s := 1) rfl (hk.1 112 0 7 rfl rfl) (fun c23_s => ?_)
        refine w_t (pc := 79) (e_s := (3, 1, 0, 0, 0, .null, [])) (y_s := (80, [some (.ref _), some (.int _)], [.ref _], _)) rfl (u_ rfl) ?_
        refine w20r (pc := 80) (len_s := 3) (q_s := 112) rfl (krq hk rfl) ?_
        refine w_t (pc := 83) (e_s := (0, 1, 0, 0, 0, .int 5, [])) (y_s := (84, [some (.ref _), some (.int _)], [.int _, .ref _], _)) rfl (u_ rfl) ?_
        refine w_t (pc := 84) (e_s := (3, 1, 0, 0, 0, .null, [])) (y_s := (85, [some (.ref _), some (.int _)], [.ref _, .int _, .ref _], _)) rfl (u_ rfl) ?_
        refine w20r (pc := 85) (len_s := 3) (q_s := 112) rfl (krq hk rfl) ?_
        refine w_t (pc := 88) (e_s := (0, 1, 0, 0, 0, .int 5, [])) (y_s := (89, [some (.ref _), some (.int _)], [.int _, .ref _, .int _, .ref _], _)) rfl (u_ rfl) ?_
        refine w22 (pc := 89) (len_s := 1) rfl (hk.1 112 0 7 rfl rfl) (fun c24_s => ?_)
        refine w_t (pc := 90) (e_s := (0, 2, 0, 0, 0, .int 8, [])) (y_s := (92, [some (.ref _), some (.int _)], [.int _, .int _, .int _, .ref _], _)) rfl (u_ rfl) ?_
        refine wi5 (pc := 92) (len_s := 3) (Y := 8) rfl rfl (by decide) (fun c25_s => ?_) (fun c25_s => ?_)
        · replace t_s := t_s.1 c25_s
          refine w_t (pc := 95) (e_s := (0, 2, 0, 0, 0, .int 9, [])) (y_s := (97, [some (.ref _), some (.int _)], [.int _, .int _, .ref _], _)) rfl (u_ rfl) ?_
          refine w_t (pc := 97) (e_s := (17, 3, 108, 0, 0, .null, [])) (y_s := (108, [some (.ref _), some (.int _)], [.int _, .int _, .ref _], _)) rfl (u_ rfl) ?_
          refine w25 (pc := 108) (len_s := 1) rfl (hk.1 112 0 7 rfl rfl) (fun c26 => ?_)
          refine w_t (pc := 109) (e_s := (0, 1, 0, 0, 0, .int 1, [])) (y_s := (110, [some (.ref _), some (.int _)], [.int _], _)) rfl (u_ rfl) ?_
          exact wrI (pc := 110) (len_s := 1) rfl hk t_s
        · replace t_s := t_s.2 c25_s
          refine w_t (pc := 100) (e_s := (3, 1, 0, 0, 0, .null, [])) (y_s := (101, [some (.ref _), some (.int _)], [.ref _, .int _, .ref _], _)) rfl (u_ rfl) ?_
          refine w20r (pc := 101) (len_s := 3) (q_s := 112) rfl (krq hk rfl) ?_
          refine w_t (pc := 104) (e_s := (0, 1, 0, 0, 0, .int 5, [])) (y_s := (105, [some (.ref _), some (.int _)], [.int _, .ref _, .int _, .ref _], _)) rfl (u_ rfl) ?_
          refine w22 (pc := 105) (len_s := 1) rfl (hk.1 112 0 7 rfl rfl) (fun c27_s => ?_)
          refine w_t (pc := 106) (e_s := (0, 1, 0, 0, 0, .int 1, [])) (y_s := (107, [some (.ref _), some (.int _)], [.int _, .int _, .int _, .ref _], _)) rfl (u_ rfl) ?_
          refine w_t (pc := 107) (e_s := (7, 1, 0, 0, 0, .null, [])) (y_s := (108, [some (.ref _), some (.int _)], [.int (_ + _), .int _, .ref _], _)) rfl (u_ rfl) ?_
          refine w25 (pc := 108) (len_s := 1) rfl (hk.1 112 0 7 rfl rfl) (fun c28_s => ?_)
          refine w_t (pc := 109) (e_s := (0, 1, 0, 0, 0, .int 1, [])) (y_s := (110, [some (.ref _), some (.int _)], [.int _], _)) rfl (u_ rfl) ?_
          exact wrI (pc := 110) (len_s := 1) rfl hk t_s
      · replace t_s := t_s.2 c22
        refine w_t (pc := 70) (e_s := (3, 1, 0, 0, 0, .null, [])) (y_s := (71, [some (.ref _), some (.int _)], [.ref _, .int _, .ref _], _)) rfl (u_ rfl) ?_
        refine w20r (pc := 71) (len_s := 3) (q_s := 112) rfl (krq hk rfl) ?_
        refine w_t (pc := 74) (e_s := (0, 1, 0, 0, 0, .int 3, [])) (y_s := (75, [some (.ref _), some (.int _)], [.int _, .ref _, .int _, .ref _], _)) rfl (u_ rfl) ?_
        refine w22 (pc := 75) (len_s := 1) rfl (hk.1 112 0 7 rfl rfl) (fun c29_s => ?_)
        refine w_t (pc := 76) (e_s := (0, 1, 0, 0, 0, .int 3, [])) (y_s := (77, [some (.ref _), some (.int _)], [.int _, .int _, .int _, .ref _], _)) rfl (u_ rfl) ?_
        refine w_t (pc := 77) (e_s := (7, 1, 0, 0, 0, .null, [])) (y_s := (78, [some (.ref _), some (.int _)], [.int (_ + _), .int _, .ref _], _)) rfl (u_ rfl) ?_
        refine w25 (pc := 78) (len_s := 1) rfl (hk.1 112 0 7 rfl rfl) (fun c30_s => ?_)
        refine w_t (pc := 79) (e_s := (3, 1, 0, 0, 0, .null, [])) (y_s := (80, [some (.ref _), some (.int _)], [.ref _], _)) rfl (u_ rfl) ?_
        refine w20r (pc := 80) (len_s := 3) (q_s := 112) rfl (krq hk rfl) ?_
        refine w_t (pc := 83) (e_s := (0, 1, 0, 0, 0, .int 5, [])) (y_s := (84, [some (.ref _), some (.int _)], [.int _, .ref _], _)) rfl (u_ rfl) ?_
        refine w_t (pc := 84) (e_s := (3, 1, 0, 0, 0, .null, [])) (y_s := (85, [some (.ref _), some (.int _)], [.ref _, .int _, .ref _], _)) rfl (u_ rfl) ?_
        refine w20r (pc := 85) (len_s := 3) (q_s := 112) rfl (krq hk rfl) ?_
        refine w_t (pc := 88) (e_s := (0, 1, 0, 0, 0, .int 5, [])) (y_s := (89, [some (.ref _), some (.int _)], [.int _, .ref _, .int _, .ref _], _)) rfl (u_ rfl) ?_
        refine w22 (pc := 89) (len_s := 1) rfl (hk.1 112 0 7 rfl rfl) (fun c31_s => ?_)
        refine w_t (pc := 90) (e_s := (0, 2, 0, 0, 0, .int 8, [])) (y_s := (92, [some (.ref _), some (.int _)], [.int _, .int _, .int _, .ref _], _)) rfl (u_ rfl) ?_
        refine wi5 (pc := 92) (len_s := 3) (Y := 8) rfl rfl (by decide) (fun c32_s => ?_) (fun c32_s => ?_)
        · replace t_s := t_s.1 c32_s
          refine w_t (pc := 95) (e_s := (0, 2, 0, 0, 0, .int 9, [])) (y_s := (97, [some (.ref _), some (.int _)], [.int _, .int _, .ref _], _)) rfl (u_ rfl) ?_
          refine w_t (pc := 97) (e_s := (17, 3, 108, 0, 0, .null, [])) (y_s := (108, [some (.ref _), some (.int _)], [.int _, .int _, .ref _], _)) rfl (u_ rfl) ?_
          refine w25 (pc := 108) (len_s := 1) rfl (hk.1 112 0 7 rfl rfl) (fun c33_s => ?_)
          refine w_t (pc := 109) (e_s := (0, 1, 0, 0, 0, .int 1, [])) (y_s := (110, [some (.ref _), some (.int _)], [.int _], _)) rfl (u_ rfl) ?_
          exact wrI (pc := 110) (len_s := 1) rfl hk t_s
        · replace t_s := t_s.2 c32_s
          refine w_t (pc := 100) (e_s := (3, 1, 0, 0, 0, .null, [])) (y_s := (101, [some (.ref _), some (.int _)], [.ref _, .int _, .ref _], _)) rfl (u_ rfl) ?_
          refine w20r (pc := 101) (len_s := 3) (q_s := 112) rfl (krq hk rfl) ?_
          refine w_t (pc := 104) (e_s := (0, 1, 0, 0, 0, .int 5, [])) (y_s := (105, [some (.ref _), some (.int _)], [.int _, .ref _, .int _, .ref _], _)) rfl (u_ rfl) ?_
          refine w22 (pc := 105) (len_s := 1) rfl (hk.1 112 0 7 rfl rfl) (fun c34_s => ?_)
          refine w_t (pc := 106) (e_s := (0, 1, 0, 0, 0, .int 1, [])) (y_s := (107, [some (.ref _), some (.int _)], [.int _, .int _, .int _, .ref _], _)) rfl (u_ rfl) ?_
          refine w_t (pc := 107) (e_s := (7, 1, 0, 0, 0, .null, [])) (y_s := (108, [some (.ref _), some (.int _)], [.int (_ + _), .int _, .ref _], _)) rfl (u_ rfl) ?_
          refine w25 (pc := 108) (len_s := 1) rfl (hk.1 112 0 7 rfl rfl) (fun c35_s => ?_)
          refine w_t (pc := 109) (e_s := (0, 1, 0, 0, 0, .int 1, [])) (y_s := (110, [some (.ref _), some (.int _)], [.int _], _)) rfl (u_ rfl) ?_
          exact wrI (pc := 110) (len_s := 1) rfl hk t_s
  · replace t_s := t_s.2 c1_s
    refine wsc (X_s := 3) rfl (by decide) (fun c36_s => ?_) (fun c36_s => ?_)
    · replace t_s := t_s.1 c36_s
      refine w_t (pc := 111) (e_s := (3, 1, 0, 0, 0, .null, [])) (y_s := (112, [some (.ref _), some (.int _)], [.ref _], _)) rfl (u_ rfl) ?_
      refine w20r (pc := 112) (len_s := 3) (q_s := 112) rfl (krq hk rfl) ?_
      refine w_t (pc := 115) (e_s := (0, 1, 0, 0, 0, .int 3, [])) (y_s := (116, [some (.ref _), some (.int _)], [.int _, .ref _], _)) rfl (u_ rfl) ?_
      refine w22 (pc := 116) (len_s := 1) rfl (hk.1 112 0 7 rfl rfl) (fun c37 => ?_)
      refine w_t (pc := 117) (e_s := (0, 1, 0, 0, 0, .int 1, [])) (y_s := (118, [some (.ref _), some (.int _)], [.int _, .int _], _)) rfl (u_ rfl) ?_
      refine wi3 (pc := 118) (len_s := 3) (Y := 1) rfl rfl (by decide) (fun c38 => ?_) (fun c38 => ?_)
      · replace t_s := t_s.1 c38
        refine w_t (pc := 121) (e_s := (0, 1, 0, 0, 0, .int 0, [])) (y_s := (122, [some (.ref _), some (.int _)], [.int _], _)) rfl (u_ rfl) ?_
        exact wrI (pc := 122) (len_s := 1) rfl hk t_s
      · replace t_s := t_s.2 c38
        refine w_t (pc := 123) (e_s := (3, 1, 0, 0, 0, .null, [])) (y_s := (124, [some (.ref _), some (.int _)], [.ref _], _)) rfl (u_ rfl) ?_
        refine w20r (pc := 124) (len_s := 3) (q_s := 112) rfl (krq hk rfl) ?_
        refine w_t (pc := 127) (e_s := (0, 1, 0, 0, 0, .int 3, [])) (y_s := (128, [some (.ref _), some (.int _)], [.int _, .ref _], _)) rfl (u_ rfl) ?_
        refine w_t (pc := 128) (e_s := (41, 1, 0, 0, 0, .null, [])) (y_s := (129, [some (.ref _), some (.int _)], [.int _, .ref _, .int _, .ref _], _)) rfl (u_ rfl) ?_
        refine w22 (pc := 129) (len_s := 1) rfl (hk.1 112 0 7 rfl rfl) (fun c39_s => ?_)
        refine w_t (pc := 130) (e_s := (0, 1, 0, 0, 0, .int 1, [])) (y_s := (131, [some (.ref _), some (.int _)], [.int _, .int _, .int _, .ref _], _)) rfl (u_ rfl) ?_
        refine w_t (pc := 131) (e_s := (7, 1, 0, 1, 0, .null, [])) (y_s := (132, [some (.ref _), some (.int _)], [.int (_ - _), .int _, .ref _], _)) rfl (u_ rfl) ?_
        refine w25 (pc := 132) (len_s := 1) rfl (hk.1 112 0 7 rfl rfl) (fun c40_s => ?_)
        refine w_t (pc := 133) (e_s := (3, 1, 0, 0, 0, .null, [])) (y_s := (134, [some (.ref _), some (.int _)], [.ref _], _)) rfl (u_ rfl) ?_
        refine w20r (pc := 134) (len_s := 3) (q_s := 112) rfl (krq hk rfl) ?_
        refine w_t (pc := 137) (e_s := (0, 1, 0, 0, 0, .int 2, [])) (y_s := (138, [some (.ref _), some (.int _)], [.int _, .ref _], _)) rfl (u_ rfl) ?_
        refine w_t (pc := 138) (e_s := (3, 1, 0, 0, 0, .null, [])) (y_s := (139, [some (.ref _), some (.int _)], [.ref _, .int _, .ref _], _)) rfl (u_ rfl) ?_
        refine w20r (pc := 139) (len_s := 3) (q_s := 112) rfl (krq hk rfl) ?_
        refine w_t (pc := 142) (e_s := (0, 1, 0, 0, 0, .int 2, [])) (y_s := (143, [some (.ref _), some (.int _)], [.int _, .ref _, .int _, .ref _], _)) rfl (u_ rfl) ?_
        refine w22 (pc := 143) (len_s := 1) rfl (hk.1 112 0 7 rfl rfl) (fun c41 => ?_)
        refine w_t (pc := 144) (e_s := (0, 2, 0, 0, 0, .int 10, [])) (y_s := (146, [some (.ref _), some (.int _)], [.int _, .int _, .int _, .ref _], _)) rfl (u_ rfl) ?_
        refine wi3 (pc := 146) (len_s := 3) (Y := 10) rfl rfl (by decide) (fun c42 => ?_) (fun c42 => ?_)
        · replace t_s := t_s.1 c42
          refine w_t (pc := 149) (e_s := (0, 1, 0, 0, 0, .int 0, [])) (y_s := (150, [some (.ref _), some (.int _)], [.int _, .int _, .ref _], _)) rfl (u_ rfl) ?_
          refine w_t (pc := 150) (e_s := (17, 3, 162, 0, 0, .null, [])) (y_s := (162, [some (.ref _), some (.int _)], [.int _, .int _, .ref _], _)) rfl (u_ rfl) ?_
          refine w25 (pc := 162) (len_s := 1) rfl (hk.1 112 0 7 rfl rfl) (fun c43_s => ?_)
          refine w_t (pc := 163) (e_s := (0, 1, 0, 0, 0, .int 1, [])) (y_s := (164, [some (.ref _), some (.int _)], [.int _], _)) rfl (u_ rfl) ?_
          exact wrI (pc := 164) (len_s := 1) rfl hk t_s
        · replace t_s := t_s.2 c42
          refine w_t (pc := 153) (e_s := (3, 1, 0, 0, 0, .null, [])) (y_s := (154, [some (.ref _), some (.int _)], [.ref _, .int _, .ref _], _)) rfl (u_ rfl) ?_
          refine w20r (pc := 154) (len_s := 3) (q_s := 112) rfl (krq hk rfl) ?_
          refine w_t (pc := 157) (e_s := (0, 1, 0, 0, 0, .int 2, [])) (y_s := (158, [some (.ref _), some (.int _)], [.int _, .ref _, .int _, .ref _], _)) rfl (u_ rfl) ?_
          refine w22 (pc := 158) (len_s := 1) rfl (hk.1 112 0 7 rfl rfl) (fun c44_s => ?_)
          refine w_t (pc := 159) (e_s := (0, 2, 0, 0, 0, .int 10, [])) (y_s := (161, [some (.ref _), some (.int _)], [.int _, .int _, .int _, .ref _], _)) rfl (u_ rfl) ?_
          refine w_t (pc := 161) (e_s := (7, 1, 0, 1, 0, .null, [])) (y_s := (162, [some (.ref _), some (.int _)], [.int (_ - _), .int _, .ref _], _)) rfl (u_ rfl) ?_
          refine w25 (pc := 162) (len_s := 1) rfl (hk.1 112 0 7 rfl rfl) (fun c45 => ?_)
          refine w_t (pc := 163) (e_s := (0, 1, 0, 0, 0, .int 1, [])) (y_s := (164, [some (.ref _), some (.int _)], [.int _], _)) rfl (u_ rfl) ?_
          exact wrI (pc := 164) (len_s := 1) rfl hk t_s
    · replace t_s := t_s.2 c36_s
      show wF _ _ (165, _, _, _) _
      refine w_t (pc := 165) (e_s := (3, 1, 0, 0, 0, .null, [])) (y_s := (166, [some (.ref _), some (.int _)], [.ref _], _)) rfl (u_ rfl) ?_
      refine w_t (pc := 166) (e_s := (1, 1, 1, 0, 0, .null, [])) (y_s := (167, [some (.ref _), some (.int _)], [.int _, .ref _], _)) rfl (u_ rfl) ?_
      refine w_t (pc := 167) (e_s := (0, 1, 0, 0, 0, .int 1, [])) (y_s := (168, [some (.ref _), some (.int _)], [.int _, .int _, .ref _], _)) rfl (u_ rfl) ?_
      refine wi1 (pc := 168) (len_s := 3) (Y := 1) rfl rfl (by decide) (fun c46_s => ?_) (fun c46_s => ?_)
      · replace t_s := t_s.1 c46_s
        refine w_t (pc := 171) (e_s := (0, 1, 0, 0, 0, .int 1, [])) (y_s := (172, [some (.ref _), some (.int _)], [.int _, .ref _], _)) rfl (u_ rfl) ?_
        refine w_t (pc := 172) (e_s := (17, 3, 176, 0, 0, .null, [])) (y_s := (176, [some (.ref _), some (.int _)], [.int _, .ref _], _)) rfl (u_ rfl) ?_
        refine wcI (pc := 176) (len_s := 3) rfl rfl (l := [some (.ref _), some (.int _)]) rfl ?_
        refine w_t (pc := 0) (e_s := (3, 1, 0, 0, 0, .null, [])) (y_s := (1, [some (.ref _), some (.int _)], [.ref _], _)) rfl (u_ rfl) ?_
        refine w20r (pc := 1) (len_s := 3) (q_s := 112) rfl (krq hk rfl) ?_
        refine w_t (pc := 4) (e_s := (0, 1, 0, 0, 0, .int 3, [])) (y_s := (5, [some (.ref _), some (.int _)], [.int _, .ref _], _)) rfl (u_ rfl) ?_
        refine w22 (pc := 5) (len_s := 1) rfl (hk.1 112 0 7 rfl rfl) (fun c47_s => ?_)
        refine w_t (pc := 6) (e_s := (0, 1, 0, 0, 0, .int 2, [])) (y_s := (7, [some (.ref _), some (.int _)], [.int _, .int _], _)) rfl (u_ rfl) ?_
        refine wi2 (pc := 7) (len_s := 3) (Y := 2) rfl rfl (by decide) (fun c48_s => ?_) (fun c48_s => ?_)
        · replace t_s := t_s.1 c48_s
          refine w_t (pc := 29) (e_s := (0, 1, 0, 0, 0, .int 0, [])) (y_s := (30, [some (.ref _), some (.int _)], [.int _], _)) rfl (u_ rfl) ?_
          refine wrI (pc := 30) (len_s := 1) rfl hk ?_
          show wF _ 184 (179, [some (.ref _), some (.int _)], [.int _], _) _
          exact wrI (pc := 179) (len_s := 1) rfl hk t_s
        · replace t_s := t_s.2 c48_s
          refine w_t (pc := 10) (e_s := (3, 1, 0, 0, 0, .null, [])) (y_s := (11, [some (.ref _), some (.int _)], [.ref _], _)) rfl (u_ rfl) ?_
          refine w20r (pc := 11) (len_s := 3) (q_s := 112) rfl (krq hk rfl) ?_
          refine w_t (pc := 14) (e_s := (0, 1, 0, 0, 0, .int 1, [])) (y_s := (15, [some (.ref _), some (.int _)], [.int _, .ref _], _)) rfl (u_ rfl) ?_
          refine w22 (pc := 15) (len_s := 1) rfl (hk.1 112 0 7 rfl rfl) (fun c49 => ?_)
          refine w_t (pc := 16) (e_s := (1, 1, 1, 0, 0, .null, [])) (y_s := (17, [some (.ref _), some (.int _)], [.int _, .int _], _)) rfl (u_ rfl) ?_
          refine w_t (pc := 17) (e_s := (7, 1, 0, 0, 0, .null, [])) (y_s := (18, [some (.ref _), some (.int _)], [.int (_ + _)], _)) rfl (u_ rfl) ?_
          refine w_t (pc := 18) (e_s := (10, 1, 0, 0, 0, .null, [])) (y_s := (19, [some (.ref _), some (.int _)], [.long (Int32.toInt64 _)], _)) rfl (u_ rfl) ?_
          refine w_t (pc := 19) (e_s := (0, 1, 0, 0, 0, .long 0, [])) (y_s := (20, [some (.ref _), some (.int _)], [.long _, .long _], _)) rfl (u_ rfl) ?_
          refine w_t (pc := 20) (e_s := (0, 3, 0, 0, 0, .long 5, [(0, 1063)])) (y_s := (23, [some (.ref _), some (.int _)], [.long _, .long _, .long _], _)) rfl (u_ rfl) ?_
          refine wcI (pc := 23) (len_s := 3) rfl rfl (l := [some (.long _), none, some (.long _), none, some (.long _), none]) rfl ?_
          refine w_t (pc := 0) (e_s := (2, 1, 0, 0, 0, .null, [])) (y_s := (1, [some (.long _), none, some (.long _), none, some (.long _), none], [.long _], _)) rfl (u_ rfl) ?_
          refine w_t (pc := 1) (e_s := (2, 1, 2, 0, 0, .null, [])) (y_s := (2, [some (.long _), none, some (.long _), none, some (.long _), none], [.long _, .long _], _)) rfl (u_ rfl) ?_
          refine w_t (pc := 2) (e_s := (14, 1, 0, 0, 0, .null, [])) (y_s := (3, [some (.long _), none, some (.long _), none, some (.long _), none], [.int (lg_cmp _ _)], _)) rfl (u_ rfl) ?_
          refine wl2 (pc := 3) (len_s := 3) (Y := 0) rfl (Int32.toInt_toInt64 _) (by decide) (fun c50 => ?_) (fun c50 => ?_)
          · replace t_s := t_s.1 c50
            refine w_t (pc := 17) (e_s := (0, 1, 0, 0, 0, .int 0, [])) (y_s := (18, [some (.long _), none, some (.long _), none, some (.long _), none], [.int _], _)) rfl (u_ rfl) ?_
            refine wrI (pc := 18) (len_s := 1) rfl hk ?_
            show wF _ 185 (26, [some (.ref _), some (.int _)], [.int _], _) _
            refine w_t (pc := 26) (e_s := (15, 3, 31, 1, 0, .null, [])) (y_s := (29, [some (.ref _), some (.int _)], [], _)) rfl (u_ rfl) ?_
            refine w_t (pc := 29) (e_s := (0, 1, 0, 0, 0, .int 0, [])) (y_s := (30, [some (.ref _), some (.int _)], [.int _], _)) rfl (u_ rfl) ?_
            refine wrI (pc := 30) (len_s := 1) rfl hk ?_
            show wF _ 184 (179, [some (.ref _), some (.int _)], [.int _], _) _
            exact wrI (pc := 179) (len_s := 1) rfl hk t_s
          · replace t_s := t_s.2 c50
            refine w_t (pc := 6) (e_s := (2, 1, 0, 0, 0, .null, [])) (y_s := (7, [some (.long _), none, some (.long _), none, some (.long _), none], [.long _], _)) rfl (u_ rfl) ?_
            refine w_t (pc := 7) (e_s := (2, 2, 4, 0, 0, .null, [])) (y_s := (9, [some (.long _), none, some (.long _), none, some (.long _), none], [.long _, .long _], _)) rfl (u_ rfl) ?_
            refine w_t (pc := 9) (e_s := (14, 1, 0, 0, 0, .null, [])) (y_s := (10, [some (.long _), none, some (.long _), none, some (.long _), none], [.int (lg_cmp _ _)], _)) rfl (u_ rfl) ?_
            refine wl4 (pc := 10) (len_s := 3) (Y := 5) rfl (Int32.toInt_toInt64 _) (by decide) (fun c51_s => ?_) (fun c51_s => ?_)
            · replace t_s := t_s.1 c51_s
              refine w_t (pc := 17) (e_s := (0, 1, 0, 0, 0, .int 0, [])) (y_s := (18, [some (.long _), none, some (.long _), none, some (.long _), none], [.int _], _)) rfl (u_ rfl) ?_
              refine wrI (pc := 18) (len_s := 1) rfl hk ?_
              show wF _ 185 (26, [some (.ref _), some (.int _)], [.int _], _) _
              refine w_t (pc := 26) (e_s := (15, 3, 31, 1, 0, .null, [])) (y_s := (29, [some (.ref _), some (.int _)], [], _)) rfl (u_ rfl) ?_
              refine w_t (pc := 29) (e_s := (0, 1, 0, 0, 0, .int 0, [])) (y_s := (30, [some (.ref _), some (.int _)], [.int _], _)) rfl (u_ rfl) ?_
              refine wrI (pc := 30) (len_s := 1) rfl hk ?_
              show wF _ 184 (179, [some (.ref _), some (.int _)], [.int _], _) _
              exact wrI (pc := 179) (len_s := 1) rfl hk t_s
            · replace t_s := t_s.2 c51_s
              refine w_t (pc := 13) (e_s := (0, 1, 0, 0, 0, .int 1, [])) (y_s := (14, [some (.long _), none, some (.long _), none, some (.long _), none], [.int _], _)) rfl (u_ rfl) ?_
              refine w_t (pc := 14) (e_s := (17, 3, 18, 0, 0, .null, [])) (y_s := (18, [some (.long _), none, some (.long _), none, some (.long _), none], [.int _], _)) rfl (u_ rfl) ?_
              refine wrI (pc := 18) (len_s := 1) rfl hk ?_
              show wF _ 185 (26, [some (.ref _), some (.int _)], [.int _], _) _
              refine w_t (pc := 26) (e_s := (15, 3, 31, 1, 0, .null, [])) (y_s := (31, [some (.ref _), some (.int _)], [], _)) rfl (u_ rfl) ?_
              refine w_t (pc := 31) (e_s := (3, 1, 0, 0, 0, .null, [])) (y_s := (32, [some (.ref _), some (.int _)], [.ref _], _)) rfl (u_ rfl) ?_
              refine w20r (pc := 32) (len_s := 3) (q_s := 112) rfl (krq hk rfl) ?_
              refine w_t (pc := 35) (e_s := (0, 1, 0, 0, 0, .int 3, [])) (y_s := (36, [some (.ref _), some (.int _)], [.int _, .ref _], _)) rfl (u_ rfl) ?_
              refine w_t (pc := 36) (e_s := (41, 1, 0, 0, 0, .null, [])) (y_s := (37, [some (.ref _), some (.int _)], [.int _, .ref _, .int _, .ref _], _)) rfl (u_ rfl) ?_
              refine w22 (pc := 37) (len_s := 1) rfl (hk.1 112 0 7 rfl rfl) (fun c52_s => ?_)
              refine w_t (pc := 38) (e_s := (0, 1, 0, 0, 0, .int 2, [])) (y_s := (39, [some (.ref _), some (.int _)], [.int _, .int _, .int _, .ref _], _)) rfl (u_ rfl) ?_
              refine w_t (pc := 39) (e_s := (7, 1, 0, 1, 0, .null, [])) (y_s := (40, [some (.ref _), some (.int _)], [.int (_ - _), .int _, .ref _], _)) rfl (u_ rfl) ?_
              refine w25 (pc := 40) (len_s := 1) rfl (hk.1 112 0 7 rfl rfl) (fun c53 => ?_)
              refine w_t (pc := 41) (e_s := (3, 1, 0, 0, 0, .null, [])) (y_s := (42, [some (.ref _), some (.int _)], [.ref _], _)) rfl (u_ rfl) ?_
              refine w20r (pc := 42) (len_s := 3) (q_s := 112) rfl (krq hk rfl) ?_
              refine w_t (pc := 45) (e_s := (0, 1, 0, 0, 0, .int 1, [])) (y_s := (46, [some (.ref _), some (.int _)], [.int _, .ref _], _)) rfl (u_ rfl) ?_
              refine w_t (pc := 46) (e_s := (41, 1, 0, 0, 0, .null, [])) (y_s := (47, [some (.ref _), some (.int _)], [.int _, .ref _, .int _, .ref _], _)) rfl (u_ rfl) ?_
              refine w22 (pc := 47) (len_s := 1) rfl (hk.1 112 0 7 rfl rfl) (fun c54 => ?_)
              refine w_t (pc := 48) (e_s := (1, 1, 1, 0, 0, .null, [])) (y_s := (49, [some (.ref _), some (.int _)], [.int _, .int _, .int _, .ref _], _)) rfl (u_ rfl) ?_
              refine w_t (pc := 49) (e_s := (7, 1, 0, 0, 0, .null, [])) (y_s := (50, [some (.ref _), some (.int _)], [.int (_ + _), .int _, .ref _], _)) rfl (u_ rfl) ?_
              refine w25 (pc := 50) (len_s := 1) rfl (hk.1 112 0 7 rfl rfl) (fun c55 => ?_)
              refine w_t (pc := 51) (e_s := (0, 1, 0, 0, 0, .int 1, [])) (y_s := (52, [some (.ref _), some (.int _)], [.int _], _)) rfl (u_ rfl) ?_
              refine wrI (pc := 52) (len_s := 1) rfl hk ?_
              show wF _ 184 (179, [some (.ref _), some (.int _)], [.int _], _) _
              exact wrI (pc := 179) (len_s := 1) rfl hk t_s
      · replace t_s := t_s.2 c46_s
        refine w_t (pc := 175) (e_s := (0, 1, 0, 0, 0, .int (-1), [])) (y_s := (176, [some (.ref _), some (.int _)], [.int _, .ref _], _)) rfl (u_ rfl) ?_
        refine wcI (pc := 176) (len_s := 3) rfl rfl (l := [some (.ref _), some (.int _)]) rfl ?_
        refine w_t (pc := 0) (e_s := (3, 1, 0, 0, 0, .null, [])) (y_s := (1, [some (.ref _), some (.int _)], [.ref _], _)) rfl (u_ rfl) ?_
        refine w20r (pc := 1) (len_s := 3) (q_s := 112) rfl (krq hk rfl) ?_
        refine w_t (pc := 4) (e_s := (0, 1, 0, 0, 0, .int 3, [])) (y_s := (5, [some (.ref _), some (.int _)], [.int _, .ref _], _)) rfl (u_ rfl) ?_
        refine w22 (pc := 5) (len_s := 1) rfl (hk.1 112 0 7 rfl rfl) (fun c56 => ?_)
        refine w_t (pc := 6) (e_s := (0, 1, 0, 0, 0, .int 2, [])) (y_s := (7, [some (.ref _), some (.int _)], [.int _, .int _], _)) rfl (u_ rfl) ?_
        refine wi2 (pc := 7) (len_s := 3) (Y := 2) rfl rfl (by decide) (fun c57 => ?_) (fun c57 => ?_)
        · replace t_s := t_s.1 c57
          refine w_t (pc := 29) (e_s := (0, 1, 0, 0, 0, .int 0, [])) (y_s := (30, [some (.ref _), some (.int _)], [.int _], _)) rfl (u_ rfl) ?_
          refine wrI (pc := 30) (len_s := 1) rfl hk ?_
          show wF _ 184 (179, [some (.ref _), some (.int _)], [.int _], _) _
          exact wrI (pc := 179) (len_s := 1) rfl hk t_s
        · replace t_s := t_s.2 c57
          refine w_t (pc := 10) (e_s := (3, 1, 0, 0, 0, .null, [])) (y_s := (11, [some (.ref _), some (.int _)], [.ref _], _)) rfl (u_ rfl) ?_
          refine w20r (pc := 11) (len_s := 3) (q_s := 112) rfl (krq hk rfl) ?_
          refine w_t (pc := 14) (e_s := (0, 1, 0, 0, 0, .int 1, [])) (y_s := (15, [some (.ref _), some (.int _)], [.int _, .ref _], _)) rfl (u_ rfl) ?_
          refine w22 (pc := 15) (len_s := 1) rfl (hk.1 112 0 7 rfl rfl) (fun c58 => ?_)
          refine w_t (pc := 16) (e_s := (1, 1, 1, 0, 0, .null, [])) (y_s := (17, [some (.ref _), some (.int _)], [.int _, .int _], _)) rfl (u_ rfl) ?_
          refine w_t (pc := 17) (e_s := (7, 1, 0, 0, 0, .null, [])) (y_s := (18, [some (.ref _), some (.int _)], [.int (_ + _)], _)) rfl (u_ rfl) ?_
          refine w_t (pc := 18) (e_s := (10, 1, 0, 0, 0, .null, [])) (y_s := (19, [some (.ref _), some (.int _)], [.long (Int32.toInt64 _)], _)) rfl (u_ rfl) ?_
          refine w_t (pc := 19) (e_s := (0, 1, 0, 0, 0, .long 0, [])) (y_s := (20, [some (.ref _), some (.int _)], [.long _, .long _], _)) rfl (u_ rfl) ?_
          refine w_t (pc := 20) (e_s := (0, 3, 0, 0, 0, .long 5, [(0, 1063)])) (y_s := (23, [some (.ref _), some (.int _)], [.long _, .long _, .long _], _)) rfl (u_ rfl) ?_
          refine wcI (pc := 23) (len_s := 3) rfl rfl (l := [some (.long _), none, some (.long _), none, some (.long _), none]) rfl ?_
          refine w_t (pc := 0) (e_s := (2, 1, 0, 0, 0, .null, [])) (y_s := (1, [some (.long _), none, some (.long _), none, some (.long _), none], [.long _], _)) rfl (u_ rfl) ?_
          refine w_t (pc := 1) (e_s := (2, 1, 2, 0, 0, .null, [])) (y_s := (2, [some (.long _), none, some (.long _), none, some (.long _), none], [.long _, .long _], _)) rfl (u_ rfl) ?_
          refine w_t (pc := 2) (e_s := (14, 1, 0, 0, 0, .null, [])) (y_s := (3, [some (.long _), none, some (.long _), none, some (.long _), none], [.int (lg_cmp _ _)], _)) rfl (u_ rfl) ?_
          refine wl2 (pc := 3) (len_s := 3) (Y := 0) rfl (Int32.toInt_toInt64 _) (by decide) (fun c59 => ?_) (fun c59 => ?_)
          · replace t_s := t_s.1 c59
            refine w_t (pc := 17) (e_s := (0, 1, 0, 0, 0, .int 0, [])) (y_s := (18, [some (.long _), none, some (.long _), none, some (.long _), none], [.int _], _)) rfl (u_ rfl) ?_
            refine wrI (pc := 18) (len_s := 1) rfl hk ?_
            show wF _ 185 (26, [some (.ref _), some (.int _)], [.int _], _) _
            refine w_t (pc := 26) (e_s := (15, 3, 31, 1, 0, .null, [])) (y_s := (29, [some (.ref _), some (.int _)], [], _)) rfl (u_ rfl) ?_
            refine w_t (pc := 29) (e_s := (0, 1, 0, 0, 0, .int 0, [])) (y_s := (30, [some (.ref _), some (.int _)], [.int _], _)) rfl (u_ rfl) ?_
            refine wrI (pc := 30) (len_s := 1) rfl hk ?_
            show wF _ 184 (179, [some (.ref _), some (.int _)], [.int _], _) _
            exact wrI (pc := 179) (len_s := 1) rfl hk t_s
          · replace t_s := t_s.2 c59
            refine w_t (pc := 6) (e_s := (2, 1, 0, 0, 0, .null, [])) (y_s := (7, [some (.long _), none, some (.long _), none, some (.long _), none], [.long _], _)) rfl (u_ rfl) ?_
            refine w_t (pc := 7) (e_s := (2, 2, 4, 0, 0, .null, [])) (y_s := (9, [some (.long _), none, some (.long _), none, some (.long _), none], [.long _, .long _], _)) rfl (u_ rfl) ?_
            refine w_t (pc := 9) (e_s := (14, 1, 0, 0, 0, .null, [])) (y_s := (10, [some (.long _), none, some (.long _), none, some (.long _), none], [.int (lg_cmp _ _)], _)) rfl (u_ rfl) ?_
            refine wl4 (pc := 10) (len_s := 3) (Y := 5) rfl (Int32.toInt_toInt64 _) (by decide) (fun c60 => ?_) (fun c60 => ?_)
            · replace t_s := t_s.1 c60
              refine w_t (pc := 17) (e_s := (0, 1, 0, 0, 0, .int 0, [])) (y_s := (18, [some (.long _), none, some (.long _), none, some (.long _), none], [.int _], _)) rfl (u_ rfl) ?_
              refine wrI (pc := 18) (len_s := 1) rfl hk ?_
              show wF _ 185 (26, [some (.ref _), some (.int _)], [.int _], _) _
              refine w_t (pc := 26) (e_s := (15, 3, 31, 1, 0, .null, [])) (y_s := (29, [some (.ref _), some (.int _)], [], _)) rfl (u_ rfl) ?_
              refine w_t (pc := 29) (e_s := (0, 1, 0, 0, 0, .int 0, [])) (y_s := (30, [some (.ref _), some (.int _)], [.int _], _)) rfl (u_ rfl) ?_
              refine wrI (pc := 30) (len_s := 1) rfl hk ?_
              show wF _ 184 (179, [some (.ref _), some (.int _)], [.int _], _) _
              exact wrI (pc := 179) (len_s := 1) rfl hk t_s
            · replace t_s := t_s.2 c60
              refine w_t (pc := 13) (e_s := (0, 1, 0, 0, 0, .int 1, [])) (y_s := (14, [some (.long _), none, some (.long _), none, some (.long _), none], [.int _], _)) rfl (u_ rfl) ?_
              refine w_t (pc := 14) (e_s := (17, 3, 18, 0, 0, .null, [])) (y_s := (18, [some (.long _), none, some (.long _), none, some (.long _), none], [.int _], _)) rfl (u_ rfl) ?_
              refine wrI (pc := 18) (len_s := 1) rfl hk ?_
              show wF _ 185 (26, [some (.ref _), some (.int _)], [.int _], _) _
              refine w_t (pc := 26) (e_s := (15, 3, 31, 1, 0, .null, [])) (y_s := (31, [some (.ref _), some (.int _)], [], _)) rfl (u_ rfl) ?_
              refine w_t (pc := 31) (e_s := (3, 1, 0, 0, 0, .null, [])) (y_s := (32, [some (.ref _), some (.int _)], [.ref _], _)) rfl (u_ rfl) ?_
              refine w20r (pc := 32) (len_s := 3) (q_s := 112) rfl (krq hk rfl) ?_
              refine w_t (pc := 35) (e_s := (0, 1, 0, 0, 0, .int 3, [])) (y_s := (36, [some (.ref _), some (.int _)], [.int _, .ref _], _)) rfl (u_ rfl) ?_
              refine w_t (pc := 36) (e_s := (41, 1, 0, 0, 0, .null, [])) (y_s := (37, [some (.ref _), some (.int _)], [.int _, .ref _, .int _, .ref _], _)) rfl (u_ rfl) ?_
              refine w22 (pc := 37) (len_s := 1) rfl (hk.1 112 0 7 rfl rfl) (fun c61 => ?_)
              refine w_t (pc := 38) (e_s := (0, 1, 0, 0, 0, .int 2, [])) (y_s := (39, [some (.ref _), some (.int _)], [.int _, .int _, .int _, .ref _], _)) rfl (u_ rfl) ?_
              refine w_t (pc := 39) (e_s := (7, 1, 0, 1, 0, .null, [])) (y_s := (40, [some (.ref _), some (.int _)], [.int (_ - _), .int _, .ref _], _)) rfl (u_ rfl) ?_
              refine w25 (pc := 40) (len_s := 1) rfl (hk.1 112 0 7 rfl rfl) (fun c62 => ?_)
              refine w_t (pc := 41) (e_s := (3, 1, 0, 0, 0, .null, [])) (y_s := (42, [some (.ref _), some (.int _)], [.ref _], _)) rfl (u_ rfl) ?_
              refine w20r (pc := 42) (len_s := 3) (q_s := 112) rfl (krq hk rfl) ?_
              refine w_t (pc := 45) (e_s := (0, 1, 0, 0, 0, .int 1, [])) (y_s := (46, [some (.ref _), some (.int _)], [.int _, .ref _], _)) rfl (u_ rfl) ?_
              refine w_t (pc := 46) (e_s := (41, 1, 0, 0, 0, .null, [])) (y_s := (47, [some (.ref _), some (.int _)], [.int _, .ref _, .int _, .ref _], _)) rfl (u_ rfl) ?_
              refine w22 (pc := 47) (len_s := 1) rfl (hk.1 112 0 7 rfl rfl) (fun c63 => ?_)
              refine w_t (pc := 48) (e_s := (1, 1, 1, 0, 0, .null, [])) (y_s := (49, [some (.ref _), some (.int _)], [.int _, .int _, .int _, .ref _], _)) rfl (u_ rfl) ?_
              refine w_t (pc := 49) (e_s := (7, 1, 0, 0, 0, .null, [])) (y_s := (50, [some (.ref _), some (.int _)], [.int (_ + _), .int _, .ref _], _)) rfl (u_ rfl) ?_
              refine w25 (pc := 50) (len_s := 1) rfl (hk.1 112 0 7 rfl rfl) (fun c64 => ?_)
              refine w_t (pc := 51) (e_s := (0, 1, 0, 0, 0, .int 1, [])) (y_s := (52, [some (.ref _), some (.int _)], [.int _], _)) rfl (u_ rfl) ?_
              refine wrI (pc := 52) (len_s := 1) rfl hk ?_
              show wF _ 184 (179, [some (.ref _), some (.int _)], [.int _], _) _
              exact wrI (pc := 179) (len_s := 1) rfl hk t_s
/-- ColdShod.stroke(II)I, from 0 on -/
theorem sg_117_0 {F_s : Nat} {x1_s : Int32} {x2_s : Int32} {h_s : zH} {K_s : Int32 → zH → Prop} (hk : hKn h_s) (t_s : (x1_s.toInt < 0 → K_s (-1) h_s) ∧ (¬ x1_s.toInt < 0 → ((x1_s.toInt < (h_s.2.1 7 7).toInt → ((x2_s.toInt < 0 → K_s (-1) h_s) ∧ (¬ x2_s.toInt < 0 → ((3 < x2_s.toInt → K_s (-1) h_s) ∧ (¬ 3 < x2_s.toInt → (zix x1_s < 8 → wF F_s 43 (0, [some (.ref (20 + (zix x1_s))), some (.int x2_s)], [], h_s) (gI (fun v6 h6 => hKn h6 → (v6.toInt = 0 → K_s 0 (h6.1, zup h6.2.1 73 1 ((h6.2.1 73 1) + 1), h6.2.2.1, h6.2.2.2)) ∧ (¬ v6.toInt = 0 → K_s 1 (h6.1, zup h6.2.1 73 0 ((h6.2.1 73 0) + 1), h6.2.2.1, h6.2.2.2)))))))))) ∧ (¬ x1_s.toInt < (h_s.2.1 7 7).toInt → K_s (-1) h_s)))) : wF (F_s + 1) 117 (0, [some (.ref 6), some (.int x1_s), some (.int x2_s), none], [], h_s) (gI K_s) := by
  refine w_0 (pc := 0) (e_s := (3, 1, 0, 0, 0, .null, [])) (y_s := (1, [some (.ref _), some (.int _), some (.int _), none], [.ref _], _)) rfl (u_ rfl) ?_
  refine w20r (pc := 1) (len_s := 3) (q_s := 7) rfl (krq hk rfl) ?_
  refine w_t (pc := 4) (e_s := (1, 1, 1, 0, 0, .null, [])) (y_s := (5, [some (.ref _), some (.int _), some (.int _), none], [.int _, .ref _], _)) rfl (u_ rfl) ?_
  refine wcI (pc := 5) (len_s := 3) rfl rfl (l := [some (.ref _), some (.int _)]) rfl ?_
  refine w_t (pc := 0) (e_s := (1, 1, 1, 0, 0, .null, [])) (y_s := (1, [some (.ref _), some (.int _)], [.int _], _)) rfl (u_ rfl) ?_
  refine wq2 (pc := 1) (len_s := 3) rfl rfl (fun c1_s => ?_) (fun c1_s => ?_)
  · replace t_s := t_s.1 c1_s
    refine w_t (pc := 16) (e_s := (0, 1, 0, 0, 0, .int 0, [])) (y_s := (17, [some (.ref _), some (.int _)], [.int _], _)) rfl (u_ rfl) ?_
    refine wrI (pc := 17) (len_s := 1) rfl hk ?_
    show wF _ 117 (8, [some (.ref _), some (.int _), some (.int _), none], [.int _], _) _
    refine w_t (pc := 8) (e_s := (15, 3, 20, 0, 0, .null, [])) (y_s := (20, [some (.ref _), some (.int _), some (.int _), none], [], _)) rfl (u_ rfl) ?_
    refine w_t (pc := 20) (e_s := (0, 1, 0, 0, 0, .int (-1), [])) (y_s := (21, [some (.ref _), some (.int _), some (.int _), none], [.int _], _)) rfl (u_ rfl) ?_
    exact wrI (pc := 21) (len_s := 1) rfl hk t_s
  · replace t_s := t_s.2 c1_s
    refine w_t (pc := 4) (e_s := (1, 1, 1, 0, 0, .null, [])) (y_s := (5, [some (.ref _), some (.int _)], [.int _], _)) rfl (u_ rfl) ?_
    refine w_t (pc := 5) (e_s := (3, 1, 0, 0, 0, .null, [])) (y_s := (6, [some (.ref _), some (.int _)], [.ref _, .int _], _)) rfl (u_ rfl) ?_
    refine w20 (pc := 6) (len_s := 3) rfl ?_
    refine wi3 (pc := 9) (len_s := 3) rfl rfl rfl (fun c2_s => ?_) (fun c2_s => ?_)
    · replace t_s := t_s.1 c2_s
      refine w_t (pc := 12) (e_s := (0, 1, 0, 0, 0, .int 1, [])) (y_s := (13, [some (.ref _), some (.int _)], [.int _], _)) rfl (u_ rfl) ?_
      refine w_t (pc := 13) (e_s := (17, 3, 17, 0, 0, .null, [])) (y_s := (17, [some (.ref _), some (.int _)], [.int _], _)) rfl (u_ rfl) ?_
      refine wrI (pc := 17) (len_s := 1) rfl hk ?_
      show wF _ 117 (8, [some (.ref _), some (.int _), some (.int _), none], [.int _], _) _
      refine w_t (pc := 8) (e_s := (15, 3, 20, 0, 0, .null, [])) (y_s := (11, [some (.ref _), some (.int _), some (.int _), none], [], _)) rfl (u_ rfl) ?_
      refine w_t (pc := 11) (e_s := (1, 1, 2, 0, 0, .null, [])) (y_s := (12, [some (.ref _), some (.int _), some (.int _), none], [.int _], _)) rfl (u_ rfl) ?_
      refine wq2 (pc := 12) (len_s := 3) rfl rfl (fun c3_s => ?_) (fun c3_s => ?_)
      · replace t_s := t_s.1 c3_s
        refine w_t (pc := 20) (e_s := (0, 1, 0, 0, 0, .int (-1), [])) (y_s := (21, [some (.ref _), some (.int _), some (.int _), none], [.int _], _)) rfl (u_ rfl) ?_
        exact wrI (pc := 21) (len_s := 1) rfl hk t_s
      · replace t_s := t_s.2 c3_s
        refine w_t (pc := 15) (e_s := (1, 1, 2, 0, 0, .null, [])) (y_s := (16, [some (.ref _), some (.int _), some (.int _), none], [.int _], _)) rfl (u_ rfl) ?_
        refine w_t (pc := 16) (e_s := (0, 1, 0, 0, 0, .int 3, [])) (y_s := (17, [some (.ref _), some (.int _), some (.int _), none], [.int _, .int _], _)) rfl (u_ rfl) ?_
        refine wi5 (pc := 17) (len_s := 3) (Y := 3) rfl rfl (by decide) (fun c4_s => ?_) (fun c4_s => ?_)
        · replace t_s := t_s.1 c4_s
          refine w_t (pc := 20) (e_s := (0, 1, 0, 0, 0, .int (-1), [])) (y_s := (21, [some (.ref _), some (.int _), some (.int _), none], [.int _], _)) rfl (u_ rfl) ?_
          exact wrI (pc := 21) (len_s := 1) rfl hk t_s
        · replace t_s := t_s.2 c4_s
          refine w_t (pc := 22) (e_s := (3, 1, 0, 0, 0, .null, [])) (y_s := (23, [some (.ref _), some (.int _), some (.int _), none], [.ref _], _)) rfl (u_ rfl) ?_
          refine w20r (pc := 23) (len_s := 3) (q_s := 7) rfl (krq hk rfl) ?_
          refine w20r (pc := 26) (len_s := 3) (q_s := 10) rfl (krq hk rfl) ?_
          refine w_t (pc := 29) (e_s := (1, 1, 1, 0, 0, .null, [])) (y_s := (30, [some (.ref _), some (.int _), some (.int _), none], [.int _, .ref _], _)) rfl (u_ rfl) ?_
          refine w24 (g_s := fun j_ => 20 + j_) (pc := 30) (len_s := 1) hk rfl (hk.1 10 2 8 rfl rfl) kg10 (fun c5_s => ?_)
          replace t_s := t_s c5_s
          refine w_t (pc := 31) (e_s := (1, 1, 2, 0, 0, .null, [])) (y_s := (32, [some (.ref _), some (.int _), some (.int _), none], [.int _, .ref _], _)) rfl (u_ rfl) ?_
          refine wcI (pc := 32) (len_s := 3) rfl rfl (l := [some (.ref _), some (.int _)]) rfl (wmI t_s (fun v6 h6 hk t_s => ?_))
          replace t_s := t_s hk
          refine w_t (pc := 35) (e_s := (4, 1, 3, 0, 0, .null, [])) (y_s := (36, [some (.ref _), some (.int _), some (.int _), some (.int _)], [], _)) rfl (u_ rfl) ?_
          refine w_t (pc := 36) (e_s := (3, 1, 0, 0, 0, .null, [])) (y_s := (37, [some (.ref _), some (.int _), some (.int _), some (.int _)], [.ref _], _)) rfl (u_ rfl) ?_
          refine w20r (pc := 37) (len_s := 3) (q_s := 73) rfl (krq hk rfl) ?_
          refine w_t (pc := 40) (e_s := (1, 1, 3, 0, 0, .null, [])) (y_s := (41, [some (.ref _), some (.int _), some (.int _), some (.int _)], [.int _, .ref _], _)) rfl (u_ rfl) ?_
          refine wq0 (pc := 41) (len_s := 3) rfl rfl (fun c7_s => ?_) (fun c7_s => ?_)
          · replace t_s := t_s.1 c7_s
            refine w_t (pc := 48) (e_s := (0, 1, 0, 0, 0, .int 1, [])) (y_s := (49, [some (.ref _), some (.int _), some (.int _), some (.int _)], [.int _, .ref _], _)) rfl (u_ rfl) ?_
            refine w_t (pc := 49) (e_s := (41, 1, 0, 0, 0, .null, [])) (y_s := (50, [some (.ref _), some (.int _), some (.int _), some (.int _)], [.int _, .ref _, .int _, .ref _], _)) rfl (u_ rfl) ?_
            refine w22 (pc := 50) (len_s := 1) rfl (hk.1 73 0 5 rfl rfl) (fun c8_s => ?_)
            refine w_t (pc := 51) (e_s := (0, 1, 0, 0, 0, .int 1, [])) (y_s := (52, [some (.ref _), some (.int _), some (.int _), some (.int _)], [.int _, .int _, .int _, .ref _], _)) rfl (u_ rfl) ?_
            refine w_t (pc := 52) (e_s := (7, 1, 0, 0, 0, .null, [])) (y_s := (53, [some (.ref _), some (.int _), some (.int _), some (.int _)], [.int (_ + _), .int _, .ref _], _)) rfl (u_ rfl) ?_
            refine w25 (pc := 53) (len_s := 1) rfl (hk.1 73 0 5 rfl rfl) (fun c9_s => ?_)
            refine w_t (pc := 54) (e_s := (1, 1, 3, 0, 0, .null, [])) (y_s := (55, [some (.ref _), some (.int _), some (.int _), some (.int _)], [.int _], _)) rfl (u_ rfl) ?_
            refine wq0 (pc := 55) (len_s := 3) rfl rfl (fun c10_s => ?_) (fun c10_s => ?_)
            · skip
              refine w_t (pc := 62) (e_s := (0, 1, 0, 0, 0, .int 0, [])) (y_s := (63, [some (.ref _), some (.int _), some (.int _), some (.int _)], [.int _], _)) rfl (u_ rfl) ?_
              exact wrI (pc := 63) (len_s := 1) rfl hk t_s
            · exact absurd c7_s c10_s
          · replace t_s := t_s.2 c7_s
            refine w_t (pc := 44) (e_s := (0, 1, 0, 0, 0, .int 0, [])) (y_s := (45, [some (.ref _), some (.int _), some (.int _), some (.int _)], [.int _, .ref _], _)) rfl (u_ rfl) ?_
            refine w_t (pc := 45) (e_s := (17, 3, 49, 0, 0, .null, [])) (y_s := (49, [some (.ref _), some (.int _), some (.int _), some (.int _)], [.int _, .ref _], _)) rfl (u_ rfl) ?_
            refine w_t (pc := 49) (e_s := (41, 1, 0, 0, 0, .null, [])) (y_s := (50, [some (.ref _), some (.int _), some (.int _), some (.int _)], [.int _, .ref _, .int _, .ref _], _)) rfl (u_ rfl) ?_
            refine w22 (pc := 50) (len_s := 1) rfl (hk.1 73 0 5 rfl rfl) (fun c11_s => ?_)
            refine w_t (pc := 51) (e_s := (0, 1, 0, 0, 0, .int 1, [])) (y_s := (52, [some (.ref _), some (.int _), some (.int _), some (.int _)], [.int _, .int _, .int _, .ref _], _)) rfl (u_ rfl) ?_
            refine w_t (pc := 52) (e_s := (7, 1, 0, 0, 0, .null, [])) (y_s := (53, [some (.ref _), some (.int _), some (.int _), some (.int _)], [.int (_ + _), .int _, .ref _], _)) rfl (u_ rfl) ?_
            refine w25 (pc := 53) (len_s := 1) rfl (hk.1 73 0 5 rfl rfl) (fun c12_s => ?_)
            refine w_t (pc := 54) (e_s := (1, 1, 3, 0, 0, .null, [])) (y_s := (55, [some (.ref _), some (.int _), some (.int _), some (.int _)], [.int _], _)) rfl (u_ rfl) ?_
            refine wq0 (pc := 55) (len_s := 3) rfl rfl (fun c13_s => ?_) (fun c13_s => ?_)
            · exact absurd c13_s c7_s
            · skip
              refine w_t (pc := 58) (e_s := (0, 1, 0, 0, 0, .int 1, [])) (y_s := (59, [some (.ref _), some (.int _), some (.int _), some (.int _)], [.int _], _)) rfl (u_ rfl) ?_
              refine w_t (pc := 59) (e_s := (17, 3, 63, 0, 0, .null, [])) (y_s := (63, [some (.ref _), some (.int _), some (.int _), some (.int _)], [.int _], _)) rfl (u_ rfl) ?_
              exact wrI (pc := 63) (len_s := 1) rfl hk t_s
    · replace t_s := t_s.2 c2_s
      refine w_t (pc := 16) (e_s := (0, 1, 0, 0, 0, .int 0, [])) (y_s := (17, [some (.ref _), some (.int _)], [.int _], _)) rfl (u_ rfl) ?_
      refine wrI (pc := 17) (len_s := 1) rfl hk ?_
      show wF _ 117 (8, [some (.ref _), some (.int _), some (.int _), none], [.int _], _) _
      refine w_t (pc := 8) (e_s := (15, 3, 20, 0, 0, .null, [])) (y_s := (20, [some (.ref _), some (.int _), some (.int _), none], [], _)) rfl (u_ rfl) ?_
      refine w_t (pc := 20) (e_s := (0, 1, 0, 0, 0, .int (-1), [])) (y_s := (21, [some (.ref _), some (.int _), some (.int _), none], [.int _], _)) rfl (u_ rfl) ?_
      exact wrI (pc := 21) (len_s := 1) rfl hk t_s
/-- ColdShodModel.stroke(II)I, from 0 on -/
theorem sg_211_0 {F_s : Nat} {x1_s : Int32} {x2_s : Int32} {h_s : zH} {K_s : Int32 → zH → Prop} (hk : hKn h_s) (t_s : (x1_s.toInt < 0 → K_s (-1) h_s) ∧ (¬ x1_s.toInt < 0 → ((((h_s.2.1 102 7) - 1).toInt < x1_s.toInt → K_s (-1) h_s) ∧ (¬ ((h_s.2.1 102 7) - 1).toInt < x1_s.toInt → ((x2_s.toInt < 0 → K_s (-1) h_s) ∧ (¬ x2_s.toInt < 0 → ((3 < x2_s.toInt → K_s (-1) h_s) ∧ (¬ 3 < x2_s.toInt → wF F_s 178 (0, [some (.ref 102), some (.int x1_s), none], [], h_s) (gV (fun h5 => hKn h5 → wF F_s 184 (0, [some (.ref 102), some (.int x2_s)], [], h5) (gI (fun v6 h6 => hKn h6 → wF F_s 210 (0, [some (.ref 102), some (.int x1_s), none], [], h6) (gV (fun h7 => hKn h7 → (v6.toInt = 0 → K_s 0 (h7.1, zup h7.2.1 119 1 ((h7.2.1 119 1) + 1), h7.2.2.1, h7.2.2.2)) ∧ (¬ v6.toInt = 0 → K_s 1 (h7.1, zup h7.2.1 119 0 ((h7.2.1 119 0) + 1), h7.2.2.1, h7.2.2.2)))))))))))))))) : wF (F_s + 1) 211 (0, [some (.ref 102), some (.int x1_s), some (.int x2_s), none], [], h_s) (gI K_s) := by
  refine w_0 (pc := 0) (e_s := (3, 1, 0, 0, 0, .null, [])) (y_s := (1, [some (.ref _), some (.int _), some (.int _), none], [.ref _], _)) rfl (u_ rfl) ?_
  refine w_t (pc := 1) (e_s := (1, 1, 1, 0, 0, .null, [])) (y_s := (2, [some (.ref _), some (.int _), some (.int _), none], [.int _, .ref _], _)) rfl (u_ rfl) ?_
  refine w_t (pc := 2) (e_s := (10, 1, 0, 0, 0, .null, [])) (y_s := (3, [some (.ref _), some (.int _), some (.int _), none], [.long (Int32.toInt64 _), .ref _], _)) rfl (u_ rfl) ?_
  refine wcI (pc := 3) (len_s := 3) rfl rfl (l := [some (.ref _), some (.long _), none]) rfl ?_
  refine w_t (pc := 0) (e_s := (2, 1, 1, 0, 0, .null, [])) (y_s := (1, [some (.ref _), some (.long _), none], [.long _], _)) rfl (u_ rfl) ?_
  refine w_t (pc := 1) (e_s := (0, 1, 0, 0, 0, .long 0, [])) (y_s := (2, [some (.ref _), some (.long _), none], [.long _, .long _], _)) rfl (u_ rfl) ?_
  refine w_t (pc := 2) (e_s := (3, 1, 0, 0, 0, .null, [])) (y_s := (3, [some (.ref _), some (.long _), none], [.ref _, .long _, .long _], _)) rfl (u_ rfl) ?_
  refine w20 (pc := 3) (len_s := 3) rfl ?_
  refine w_t (pc := 6) (e_s := (0, 1, 0, 0, 0, .int 1, [])) (y_s := (7, [some (.ref _), some (.long _), none], [.int _, .int _, .long _, .long _], _)) rfl (u_ rfl) ?_
  refine w_t (pc := 7) (e_s := (7, 1, 0, 1, 0, .null, [])) (y_s := (8, [some (.ref _), some (.long _), none], [.int (_ - _), .long _, .long _], _)) rfl (u_ rfl) ?_
  refine w_t (pc := 8) (e_s := (10, 1, 0, 0, 0, .null, [])) (y_s := (9, [some (.ref _), some (.long _), none], [.long (Int32.toInt64 _), .long _, .long _], _)) rfl (u_ rfl) ?_
  refine wcI (pc := 9) (len_s := 3) rfl rfl (l := [some (.long _), none, some (.long _), none, some (.long _), none]) rfl ?_
  refine w_t (pc := 0) (e_s := (2, 1, 0, 0, 0, .null, [])) (y_s := (1, [some (.long _), none, some (.long _), none, some (.long _), none], [.long _], _)) rfl (u_ rfl) ?_
  refine w_t (pc := 1) (e_s := (2, 1, 2, 0, 0, .null, [])) (y_s := (2, [some (.long _), none, some (.long _), none, some (.long _), none], [.long _, .long _], _)) rfl (u_ rfl) ?_
  refine w_t (pc := 2) (e_s := (14, 1, 0, 0, 0, .null, [])) (y_s := (3, [some (.long _), none, some (.long _), none, some (.long _), none], [.int (lg_cmp _ _)], _)) rfl (u_ rfl) ?_
  refine wl2 (pc := 3) (len_s := 3) (Y := 0) rfl (Int32.toInt_toInt64 _) (by decide) (fun c1_s => ?_) (fun c1_s => ?_)
  · replace t_s := t_s.1 c1_s
    refine w_t (pc := 17) (e_s := (0, 1, 0, 0, 0, .int 0, [])) (y_s := (18, [some (.long _), none, some (.long _), none, some (.long _), none], [.int _], _)) rfl (u_ rfl) ?_
    refine wrI (pc := 18) (len_s := 1) rfl hk ?_
    show wF _ 152 (12, [some (.ref _), some (.long _), none], [.int _], _) _
    refine wrI (pc := 12) (len_s := 1) rfl hk ?_
    show wF _ 211 (6, [some (.ref _), some (.int _), some (.int _), none], [.int _], _) _
    refine w_t (pc := 6) (e_s := (15, 3, 21, 0, 0, .null, [])) (y_s := (21, [some (.ref _), some (.int _), some (.int _), none], [], _)) rfl (u_ rfl) ?_
    refine w_t (pc := 21) (e_s := (0, 1, 0, 0, 0, .int (-1), [])) (y_s := (22, [some (.ref _), some (.int _), some (.int _), none], [.int _], _)) rfl (u_ rfl) ?_
    exact wrI (pc := 22) (len_s := 1) rfl hk t_s
  · replace t_s := t_s.2 c1_s
    refine w_t (pc := 6) (e_s := (2, 1, 0, 0, 0, .null, [])) (y_s := (7, [some (.long _), none, some (.long _), none, some (.long _), none], [.long _], _)) rfl (u_ rfl) ?_
    refine w_t (pc := 7) (e_s := (2, 2, 4, 0, 0, .null, [])) (y_s := (9, [some (.long _), none, some (.long _), none, some (.long _), none], [.long _, .long _], _)) rfl (u_ rfl) ?_
    refine w_t (pc := 9) (e_s := (14, 1, 0, 0, 0, .null, [])) (y_s := (10, [some (.long _), none, some (.long _), none, some (.long _), none], [.int (lg_cmp _ _)], _)) rfl (u_ rfl) ?_
    refine wl4 (pc := 10) (len_s := 3) rfl (Int32.toInt_toInt64 _) (Int32.toInt_toInt64 _) (fun c2_s => ?_) (fun c2_s => ?_)
    · replace t_s := t_s.1 c2_s
      refine w_t (pc := 17) (e_s := (0, 1, 0, 0, 0, .int 0, [])) (y_s := (18, [some (.long _), none, some (.long _), none, some (.long _), none], [.int _], _)) rfl (u_ rfl) ?_
      refine wrI (pc := 18) (len_s := 1) rfl hk ?_
      show wF _ 152 (12, [some (.ref _), some (.long _), none], [.int _], _) _
      refine wrI (pc := 12) (len_s := 1) rfl hk ?_
      show wF _ 211 (6, [some (.ref _), some (.int _), some (.int _), none], [.int _], _) _
      refine w_t (pc := 6) (e_s := (15, 3, 21, 0, 0, .null, [])) (y_s := (21, [some (.ref _), some (.int _), some (.int _), none], [], _)) rfl (u_ rfl) ?_
      refine w_t (pc := 21) (e_s := (0, 1, 0, 0, 0, .int (-1), [])) (y_s := (22, [some (.ref _), some (.int _), some (.int _), none], [.int _], _)) rfl (u_ rfl) ?_
      exact wrI (pc := 22) (len_s := 1) rfl hk t_s
    · replace t_s := t_s.2 c2_s
      refine w_t (pc := 13) (e_s := (0, 1, 0, 0, 0, .int 1, [])) (y_s := (14, [some (.long _), none, some (.long _), none, some (.long _), none], [.int _], _)) rfl (u_ rfl) ?_
      refine w_t (pc := 14) (e_s := (17, 3, 18, 0, 0, .null, [])) (y_s := (18, [some (.long _), none, some (.long _), none, some (.long _), none], [.int _], _)) rfl (u_ rfl) ?_
      refine wrI (pc := 18) (len_s := 1) rfl hk ?_
      show wF _ 152 (12, [some (.ref _), some (.long _), none], [.int _], _) _
      refine wrI (pc := 12) (len_s := 1) rfl hk ?_
      show wF _ 211 (6, [some (.ref _), some (.int _), some (.int _), none], [.int _], _) _
      refine w_t (pc := 6) (e_s := (15, 3, 21, 0, 0, .null, [])) (y_s := (9, [some (.ref _), some (.int _), some (.int _), none], [], _)) rfl (u_ rfl) ?_
      refine w_t (pc := 9) (e_s := (1, 1, 2, 0, 0, .null, [])) (y_s := (10, [some (.ref _), some (.int _), some (.int _), none], [.int _], _)) rfl (u_ rfl) ?_
      refine w_t (pc := 10) (e_s := (10, 1, 0, 0, 0, .null, [])) (y_s := (11, [some (.ref _), some (.int _), some (.int _), none], [.long (Int32.toInt64 _)], _)) rfl (u_ rfl) ?_
      refine w_t (pc := 11) (e_s := (0, 1, 0, 0, 0, .long 0, [])) (y_s := (12, [some (.ref _), some (.int _), some (.int _), none], [.long _, .long _], _)) rfl (u_ rfl) ?_
      refine w_t (pc := 12) (e_s := (0, 3, 0, 0, 0, .long 3, [(0, 1064)])) (y_s := (15, [some (.ref _), some (.int _), some (.int _), none], [.long _, .long _, .long _], _)) rfl (u_ rfl) ?_
      refine wcI (pc := 15) (len_s := 3) rfl rfl (l := [some (.long _), none, some (.long _), none, some (.long _), none]) rfl ?_
      refine w_t (pc := 0) (e_s := (2, 1, 0, 0, 0, .null, [])) (y_s := (1, [some (.long _), none, some (.long _), none, some (.long _), none], [.long _], _)) rfl (u_ rfl) ?_
      refine w_t (pc := 1) (e_s := (2, 1, 2, 0, 0, .null, [])) (y_s := (2, [some (.long _), none, some (.long _), none, some (.long _), none], [.long _, .long _], _)) rfl (u_ rfl) ?_
      refine w_t (pc := 2) (e_s := (14, 1, 0, 0, 0, .null, [])) (y_s := (3, [some (.long _), none, some (.long _), none, some (.long _), none], [.int (lg_cmp _ _)], _)) rfl (u_ rfl) ?_
      refine wl2 (pc := 3) (len_s := 3) (Y := 0) rfl (Int32.toInt_toInt64 _) (by decide) (fun c3_s => ?_) (fun c3_s => ?_)
      · replace t_s := t_s.1 c3_s
        refine w_t (pc := 17) (e_s := (0, 1, 0, 0, 0, .int 0, [])) (y_s := (18, [some (.long _), none, some (.long _), none, some (.long _), none], [.int _], _)) rfl (u_ rfl) ?_
        refine wrI (pc := 18) (len_s := 1) rfl hk ?_
        show wF _ 211 (18, [some (.ref _), some (.int _), some (.int _), none], [.int _], _) _
        refine w_t (pc := 18) (e_s := (15, 3, 23, 1, 0, .null, [])) (y_s := (21, [some (.ref _), some (.int _), some (.int _), none], [], _)) rfl (u_ rfl) ?_
        refine w_t (pc := 21) (e_s := (0, 1, 0, 0, 0, .int (-1), [])) (y_s := (22, [some (.ref _), some (.int _), some (.int _), none], [.int _], _)) rfl (u_ rfl) ?_
        exact wrI (pc := 22) (len_s := 1) rfl hk t_s
      · replace t_s := t_s.2 c3_s
        refine w_t (pc := 6) (e_s := (2, 1, 0, 0, 0, .null, [])) (y_s := (7, [some (.long _), none, some (.long _), none, some (.long _), none], [.long _], _)) rfl (u_ rfl) ?_
        refine w_t (pc := 7) (e_s := (2, 2, 4, 0, 0, .null, [])) (y_s := (9, [some (.long _), none, some (.long _), none, some (.long _), none], [.long _, .long _], _)) rfl (u_ rfl) ?_
        refine w_t (pc := 9) (e_s := (14, 1, 0, 0, 0, .null, [])) (y_s := (10, [some (.long _), none, some (.long _), none, some (.long _), none], [.int (lg_cmp _ _)], _)) rfl (u_ rfl) ?_
        refine wl4 (pc := 10) (len_s := 3) (Y := 3) rfl (Int32.toInt_toInt64 _) (by decide) (fun c4_s => ?_) (fun c4_s => ?_)
        · replace t_s := t_s.1 c4_s
          refine w_t (pc := 17) (e_s := (0, 1, 0, 0, 0, .int 0, [])) (y_s := (18, [some (.long _), none, some (.long _), none, some (.long _), none], [.int _], _)) rfl (u_ rfl) ?_
          refine wrI (pc := 18) (len_s := 1) rfl hk ?_
          show wF _ 211 (18, [some (.ref _), some (.int _), some (.int _), none], [.int _], _) _
          refine w_t (pc := 18) (e_s := (15, 3, 23, 1, 0, .null, [])) (y_s := (21, [some (.ref _), some (.int _), some (.int _), none], [], _)) rfl (u_ rfl) ?_
          refine w_t (pc := 21) (e_s := (0, 1, 0, 0, 0, .int (-1), [])) (y_s := (22, [some (.ref _), some (.int _), some (.int _), none], [.int _], _)) rfl (u_ rfl) ?_
          exact wrI (pc := 22) (len_s := 1) rfl hk t_s
        · replace t_s := t_s.2 c4_s
          refine w_t (pc := 13) (e_s := (0, 1, 0, 0, 0, .int 1, [])) (y_s := (14, [some (.long _), none, some (.long _), none, some (.long _), none], [.int _], _)) rfl (u_ rfl) ?_
          refine w_t (pc := 14) (e_s := (17, 3, 18, 0, 0, .null, [])) (y_s := (18, [some (.long _), none, some (.long _), none, some (.long _), none], [.int _], _)) rfl (u_ rfl) ?_
          refine wrI (pc := 18) (len_s := 1) rfl hk ?_
          show wF _ 211 (18, [some (.ref _), some (.int _), some (.int _), none], [.int _], _) _
          refine w_t (pc := 18) (e_s := (15, 3, 23, 1, 0, .null, [])) (y_s := (23, [some (.ref _), some (.int _), some (.int _), none], [], _)) rfl (u_ rfl) ?_
          refine w_t (pc := 23) (e_s := (3, 1, 0, 0, 0, .null, [])) (y_s := (24, [some (.ref _), some (.int _), some (.int _), none], [.ref _], _)) rfl (u_ rfl) ?_
          refine w_t (pc := 24) (e_s := (1, 1, 1, 0, 0, .null, [])) (y_s := (25, [some (.ref _), some (.int _), some (.int _), none], [.int _, .ref _], _)) rfl (u_ rfl) ?_
          refine wcV (pc := 25) (len_s := 3) rfl rfl (l := [some (.ref _), some (.int _), none]) rfl (wmV t_s (fun h5 hk t_s => ?_))
          replace t_s := t_s hk
          refine w_t (pc := 28) (e_s := (3, 1, 0, 0, 0, .null, [])) (y_s := (29, [some (.ref _), some (.int _), some (.int _), none], [.ref _], _)) rfl (u_ rfl) ?_
          refine w_t (pc := 29) (e_s := (1, 1, 2, 0, 0, .null, [])) (y_s := (30, [some (.ref _), some (.int _), some (.int _), none], [.int _, .ref _], _)) rfl (u_ rfl) ?_
          refine wcI (pc := 30) (len_s := 3) rfl rfl (l := [some (.ref _), some (.int _)]) rfl (wmI t_s (fun v6 h6 hk t_s => ?_))
          replace t_s := t_s hk
          refine w_t (pc := 33) (e_s := (4, 1, 3, 0, 0, .null, [])) (y_s := (34, [some (.ref _), some (.int _), some (.int _), some (.int _)], [], _)) rfl (u_ rfl) ?_
          refine w_t (pc := 34) (e_s := (3, 1, 0, 0, 0, .null, [])) (y_s := (35, [some (.ref _), some (.int _), some (.int _), some (.int _)], [.ref _], _)) rfl (u_ rfl) ?_
          refine w_t (pc := 35) (e_s := (1, 1, 1, 0, 0, .null, [])) (y_s := (36, [some (.ref _), some (.int _), some (.int _), some (.int _)], [.int _, .ref _], _)) rfl (u_ rfl) ?_
          refine wcV (pc := 36) (len_s := 3) rfl rfl (l := [some (.ref _), some (.int _), none]) rfl (wmV t_s (fun h7 hk t_s => ?_))
          replace t_s := t_s hk
          refine w_t (pc := 39) (e_s := (3, 1, 0, 0, 0, .null, [])) (y_s := (40, [some (.ref _), some (.int _), some (.int _), some (.int _)], [.ref _], _)) rfl (u_ rfl) ?_
          refine w20r (pc := 40) (len_s := 3) (q_s := 119) rfl (krq hk rfl) ?_
          refine w_t (pc := 43) (e_s := (1, 1, 3, 0, 0, .null, [])) (y_s := (44, [some (.ref _), some (.int _), some (.int _), some (.int _)], [.int _, .ref _], _)) rfl (u_ rfl) ?_
          refine wq0 (pc := 44) (len_s := 3) rfl rfl (fun c8_s => ?_) (fun c8_s => ?_)
          · replace t_s := t_s.1 c8_s
            refine w_t (pc := 51) (e_s := (0, 1, 0, 0, 0, .int 1, [])) (y_s := (52, [some (.ref _), some (.int _), some (.int _), some (.int _)], [.int _, .ref _], _)) rfl (u_ rfl) ?_
            refine w_t (pc := 52) (e_s := (41, 1, 0, 0, 0, .null, [])) (y_s := (53, [some (.ref _), some (.int _), some (.int _), some (.int _)], [.int _, .ref _, .int _, .ref _], _)) rfl (u_ rfl) ?_
            refine w22 (pc := 53) (len_s := 1) rfl (hk.1 119 0 5 rfl rfl) (fun c9_s => ?_)
            refine w_t (pc := 54) (e_s := (0, 1, 0, 0, 0, .int 1, [])) (y_s := (55, [some (.ref _), some (.int _), some (.int _), some (.int _)], [.int _, .int _, .int _, .ref _], _)) rfl (u_ rfl) ?_
            refine w_t (pc := 55) (e_s := (7, 1, 0, 0, 0, .null, [])) (y_s := (56, [some (.ref _), some (.int _), some (.int _), some (.int _)], [.int (_ + _), .int _, .ref _], _)) rfl (u_ rfl) ?_
            refine w25 (pc := 56) (len_s := 1) rfl (hk.1 119 0 5 rfl rfl) (fun c10_s => ?_)
            refine w_t (pc := 57) (e_s := (1, 1, 3, 0, 0, .null, [])) (y_s := (58, [some (.ref _), some (.int _), some (.int _), some (.int _)], [.int _], _)) rfl (u_ rfl) ?_
            refine wq0 (pc := 58) (len_s := 3) rfl rfl (fun c11_s => ?_) (fun c11_s => ?_)
            · skip
              refine w_t (pc := 65) (e_s := (0, 1, 0, 0, 0, .int 0, [])) (y_s := (66, [some (.ref _), some (.int _), some (.int _), some (.int _)], [.int _], _)) rfl (u_ rfl) ?_
              exact wrI (pc := 66) (len_s := 1) rfl hk t_s
            · exact absurd c8_s c11_s
          · replace t_s := t_s.2 c8_s
            refine w_t (pc := 47) (e_s := (0, 1, 0, 0, 0, .int 0, [])) (y_s := (48, [some (.ref _), some (.int _), some (.int _), some (.int _)], [.int _, .ref _], _)) rfl (u_ rfl) ?_
            refine w_t (pc := 48) (e_s := (17, 3, 52, 0, 0, .null, [])) (y_s := (52, [some (.ref _), some (.int _), some (.int _), some (.int _)], [.int _, .ref _], _)) rfl (u_ rfl) ?_
            refine w_t (pc := 52) (e_s := (41, 1, 0, 0, 0, .null, [])) (y_s := (53, [some (.ref _), some (.int _), some (.int _), some (.int _)], [.int _, .ref _, .int _, .ref _], _)) rfl (u_ rfl) ?_
            refine w22 (pc := 53) (len_s := 1) rfl (hk.1 119 0 5 rfl rfl) (fun c12_s => ?_)
            refine w_t (pc := 54) (e_s := (0, 1, 0, 0, 0, .int 1, [])) (y_s := (55, [some (.ref _), some (.int _), some (.int _), some (.int _)], [.int _, .int _, .int _, .ref _], _)) rfl (u_ rfl) ?_
            refine w_t (pc := 55) (e_s := (7, 1, 0, 0, 0, .null, [])) (y_s := (56, [some (.ref _), some (.int _), some (.int _), some (.int _)], [.int (_ + _), .int _, .ref _], _)) rfl (u_ rfl) ?_
            refine w25 (pc := 56) (len_s := 1) rfl (hk.1 119 0 5 rfl rfl) (fun c13_s => ?_)
            refine w_t (pc := 57) (e_s := (1, 1, 3, 0, 0, .null, [])) (y_s := (58, [some (.ref _), some (.int _), some (.int _), some (.int _)], [.int _], _)) rfl (u_ rfl) ?_
            refine wq0 (pc := 58) (len_s := 3) rfl rfl (fun c14_s => ?_) (fun c14_s => ?_)
            · exact absurd c14_s c8_s
            · skip
              refine w_t (pc := 61) (e_s := (0, 1, 0, 0, 0, .int 1, [])) (y_s := (62, [some (.ref _), some (.int _), some (.int _), some (.int _)], [.int _], _)) rfl (u_ rfl) ?_
              refine w_t (pc := 62) (e_s := (17, 3, 66, 0, 0, .null, [])) (y_s := (66, [some (.ref _), some (.int _), some (.int _), some (.int _)], [.int _], _)) rfl (u_ rfl) ?_
              exact wrI (pc := 66) (len_s := 1) rfl hk t_s
/-! STROKES: as told of numbers; class and reference. -/
def hetO (o : oI) : oI := if (o 4).toInt = 1 ∧ 0 < (o 5).toInt then o else oset (oset o 3 (if 6 < (o 3).toInt then 9 else o 3 + 3)) 5 (if 8 < (o 5).toInt then 9 else o 5 + 1)
def naiO (o : oI) : oI := if (o 3).toInt < 1 then o else oset (oset o 3 (o 3 - 1)) 2 (if (o 2).toInt < 10 then 0 else o 2 - 10)
def drwO (o : oI) (e_s : Int32) : oI := if (o 3).toInt < 2 ∨ (o 1 + e_s).toInt < 0 ∨ 5 < (o 1 + e_s).toInt then o else oset (oset o 3 (o 3 - 2)) 1 (o 1 + e_s)
def stO (w_s : Int) (o : oI) : oI := if w_s = 0 then hetO o else if w_s = 3 then naiO o else if w_s = 1 then drwO o 1 else if w_s = 2 then drwO o (-1) else o
section SO
variable {o : oI}
theorem stO_0 {w_s : Int} (e_s : w_s = 0) : stO w_s o = hetO o := by
  unfold stO
  rw [if_pos e_s]
theorem stO_3 {w_s : Int} (e_s : w_s = 3) : stO w_s o = naiO o := by
  unfold stO
  rw [if_neg (by omega), if_pos e_s]
theorem stO_1 {w_s : Int} (e_s : w_s = 1) : stO w_s o = drwO o 1 := by
  unfold stO
  rw [if_neg (by omega), if_neg (by omega), if_pos e_s]
theorem stO_2 {w_s : Int} (e_s : w_s = 2) : stO w_s o = drwO o (-1) := by
  unfold stO
  rw [if_neg (by omega), if_neg (by omega), if_neg (by omega), if_pos e_s]
theorem stO_n {w_s : Int} (e_s : ¬ (w_s = 0 ∨ w_s = 3 ∨ w_s = 1 ∨ w_s = 2)) : stO w_s o = o := by
  unfold stO
  rw [if_neg (by omega), if_neg (by omega), if_neg (by omega), if_neg (by omega)]
theorem sub_i {x_s c_s : Int32} (h0 : 0 ≤ x_s.toInt) (h1 : 0 ≤ c_s.toInt) : (x_s - c_s).toInt = x_s.toInt - c_s.toInt := by
  have r_s := na_rng x_s
  have s_s := na_rng c_s
  exact na_sub (by omega) (by omega)
theorem add_i {x_s c_s : Int32} (h0 : 0 ≤ x_s.toInt) (h1 : x_s.toInt ≤ 1000) (h2 : -1 ≤ c_s.toInt) (h3 : c_s.toInt ≤ 1000) : (x_s + c_s).toInt = x_s.toInt + c_s.toInt := na_add (by omega) (by omega)
theorem mx_sub {x_s c_s : Int32} (h0 : 0 ≤ x_s.toInt) (h1 : 0 ≤ c_s.toInt) : (if 0 < x_s - c_s then x_s - c_s else 0) = if x_s.toInt < c_s.toInt then 0 else x_s - c_s := by
  have e_s := sub_i h0 h1
  by_cases w_s : 0 < x_s - c_s
  · have w1_s := (iq4 _).mp w_s
    rw [if_pos w_s, if_neg (by omega)]
  · have w1_s : ¬ 0 < (x_s - c_s).toInt := fun u_s => w_s ((iq4 _).mpr u_s)
    rw [if_neg w_s]
    by_cases w2_s : x_s.toInt < c_s.toInt
    · rw [if_pos w2_s]
    · rw [if_neg w2_s]
      exact (i0_ (by omega)).symm
theorem mn_add9 {x_s c_s : Int32} (h0 : 0 ≤ x_s.toInt) (h1 : x_s.toInt ≤ 9) (h2 : 0 ≤ c_s.toInt) (h3 : c_s.toInt ≤ 9) : (if x_s + c_s < 9 then x_s + c_s else 9) = if 9 - c_s.toInt < x_s.toInt then 9 else x_s + c_s := by
  have e_s := add_i (c_s := c_s) h0 (by omega) (by omega) (by omega)
  by_cases w_s : x_s + c_s < 9
  · have w1_s := (il_ _ _).mp w_s
    rw [i9_] at w1_s
    rw [if_pos w_s, if_neg (by omega)]
  · have w1_s : ¬ (x_s + c_s).toInt < 9 := fun u_s => w_s ((il_ _ _).mpr (by rw [i9_]; exact u_s))
    rw [if_neg w_s]
    by_cases w2_s : 9 - c_s.toInt < x_s.toInt
    · rw [if_pos w2_s]
    · rw [if_neg w2_s]
      exact Int32.toInt_inj.mp (by rw [i9_]; omega)
theorem i10_ : (10 : Int32).toInt = 10 := rfl
theorem m1_ : (-1 : Int32).toInt = -1 := rfl
theorem sb_ad {x_s : Int32} (h0 : 0 ≤ x_s.toInt) : x_s - 1 = x_s + -1 := by
  have r_s := na_rng x_s
  refine Int32.toInt_inj.mp ?_
  rw [sub_i h0 (by decide), n1_, na_add (by rw [m1_]; omega) (by rw [m1_]; omega), m1_]
  omega
theorem st_B {w_s : Int} (hB_s : oB o) : oB (stO w_s o) := by
  obtain ⟨b0, b1, b2, b3, b4, b5, b6⟩ := hB_s
  have hB_s : oB o := ⟨b0, b1, b2, b3, b4, b5, b6⟩
  have hh : oB (hetO o) := by
    unfold hetO
    split
    · exact hB_s
    · refine ⟨b0, b1, b2, ?_, b4, ?_, b6⟩
      · show 0 ≤ (if 6 < (o 3).toInt then 9 else o 3 + 3).toInt ∧ (if 6 < (o 3).toInt then 9 else o 3 + 3).toInt ≤ 9
        split
        · decide
        · rw [add_i b3.1 (by omega) (by decide) (by decide), i3_]
          omega
      · show 0 ≤ (if 8 < (o 5).toInt then 9 else o 5 + 1).toInt ∧ (if 8 < (o 5).toInt then 9 else o 5 + 1).toInt ≤ 9
        split
        · decide
        · rw [add_i b5.1 (by omega) (by decide) (by decide), n1_]
          omega
  have hn : oB (naiO o) := by
    unfold naiO
    split
    · exact hB_s
    · refine ⟨b0, b1, ?_, ?_, b4, b5, b6⟩
      · show 0 ≤ (if (o 2).toInt < 10 then 0 else o 2 - 10).toInt ∧ (if (o 2).toInt < 10 then 0 else o 2 - 10).toInt ≤ 99
        split
        · decide
        · rw [sub_i b2.1 (by decide), i10_]
          omega
      · show 0 ≤ (o 3 - 1).toInt ∧ (o 3 - 1).toInt ≤ 9
        rw [sub_i b3.1 (by decide), n1_]
        omega
  have hd_s : ∀ e_s : Int32, oB (drwO o e_s) := fun e_s => by
    unfold drwO
    split
    · exact hB_s
    · refine ⟨b0, ?_, b2, ?_, b4, b5, b6⟩
      · show 0 ≤ (o 1 + e_s).toInt ∧ (o 1 + e_s).toInt ≤ 5
        omega
      · show 0 ≤ (o 3 - 2).toInt ∧ (o 3 - 2).toInt ≤ 9
        rw [sub_i b3.1 (by decide), i2_]
        omega
  unfold stO
  split
  · exact hh
  · split
    · exact hn
    · split
      · exact hd_s 1
      · split
        · exact hd_s (-1)
        · exact hB_s
end SO
/-- what a stroke of the class may write -/
def frS (d_s : Nat) (f_s f1_s : Nat → Nat → Int32) : Prop := ∀ a_s k_s, ¬ (a_s = d_s ∧ (k_s = 1 ∨ k_s = 2 ∨ k_s = 3 ∨ k_s = 5)) → f1_s a_s k_s = f_s a_s k_s
section SK_
variable {F_s : Nat} {h_s : zH} {K_s : Int32 → zH → Prop} {d_s : Nat} {x1_s : Int32} {f_s : Nat → Nat → Int32} {o : oI}
theorem set2 {j1 j2_s : Nat} {v1_s v2 : Int32} (hc_s : ∀ k_s, k_s < 6 → f_s d_s k_s = o k_s) (k_s : Nat) (hk : k_s < 6) : zup (zup f_s d_s j1 v1_s) d_s j2_s v2 d_s k_s = oset (oset o j1 v1_s) j2_s v2 k_s := by
  by_cases e_s : k_s = j2_s
  · rw [e_s, zsame_up, os_eq]
  · rw [zne_up (by omega), os_ne e_s]
    by_cases e1_s : k_s = j1
    · rw [e1_s, zsame_up, os_eq]
    · rw [zne_up (by omega), os_ne e1_s]
      exact hc_s k_s hk
theorem oset_sw {j1 j2_s : Nat} {v1_s v2 : Int32} (h_s : ¬ j1 = j2_s) : oset (oset o j1 v1_s) j2_s v2 = oset (oset o j2_s v2) j1 v1_s := by
  funext k_s
  by_cases e_s : k_s = j2_s
  · rw [e_s, os_eq, os_ne (fun w_s => h_s w_s.symm), os_eq]
  · rw [os_ne e_s]
    by_cases e1_s : k_s = j1
    · rw [e1_s, os_eq, os_eq]
    · rw [os_ne e1_s, os_ne e1_s, os_ne e_s]
theorem sp_43 (hk : hKn h_s) (hc_s : ∀ k_s, k_s < 6 → f_s d_s k_s = o k_s) (hB_s : oB o) (t_s : ∀ v_s f1_s, (∀ k_s, k_s < 6 → f1_s d_s k_s = stO x1_s.toInt o k_s) → frS d_s f_s f1_s → (v_s.toInt = 0 ∧ (∀ k_s, stO x1_s.toInt o k_s = o k_s) ∨ v_s.toInt = 1) → K_s v_s (h_s.1, f1_s, h_s.2.2.1, h_s.2.2.2)) : wF F_s 43 (0, [some (.ref d_s), some (.int x1_s)], [], (h_s.1, f_s, h_s.2.2.1, h_s.2.2.2)) (gI K_s) := by
  obtain ⟨b0, b1, b2, b3, b4, b5, b6⟩ := hB_s
  have c1_ : f_s d_s 1 = o 1 := hc_s 1 (by omega)
  have c2_ : f_s d_s 2 = o 2 := hc_s 2 (by omega)
  have c3_ : f_s d_s 3 = o 3 := hc_s 3 (by omega)
  have c4_ : f_s d_s 4 = o 4 := hc_s 4 (by omega)
  have c5_ : f_s d_s 5 = o 5 := hc_s 5 (by omega)
  have nop_s : (∀ k_s, stO x1_s.toInt o k_s = o k_s) → K_s 0 (h_s.1, f_s, h_s.2.2.1, h_s.2.2.2) := fun w_s => t_s 0 f_s (fun k_s hk6 => by rw [w_s k_s]; exact hc_s k_s hk6) (fun _ _ _ => rfl) (Or.inl ⟨rfl, w_s⟩)
  have heat : x1_s.toInt = 0 → ¬ ((o 4).toInt = 1 ∧ 0 < (o 5).toInt) → K_s 1 (h_s.1, zup (zup f_s d_s 3 (if o 3 + 3 < 9 then o 3 + 3 else 9)) d_s 5 (if o 5 + 1 < 9 then o 5 + 1 else 9), h_s.2.2.1, h_s.2.2.2) := fun w_s w1_s => by
    refine t_s 1 _ (fun k_s hk6 => ?_) (fun a_s k_s q_s => by rw [zne_up (by omega), zne_up (by omega)]) (Or.inr rfl)
    rw [set2 hc_s k_s hk6, stO_0 w_s, mn_add9 b3.1 b3.2 (by decide) (by decide), mn_add9 b5.1 b5.2 (by decide) (by decide)]
    unfold hetO
    rw [if_neg w1_s]
    rfl
  have draw_s : ∀ e_s : Int32, stO x1_s.toInt o = drwO o e_s → ¬ ((o 3).toInt < 2 ∨ (o 1 + e_s).toInt < 0 ∨ 5 < (o 1 + e_s).toInt) → K_s 1 (h_s.1, zup (zup f_s d_s 1 (o 1 + e_s)) d_s 3 (if 0 < o 3 - 2 then o 3 - 2 else 0), h_s.2.2.1, h_s.2.2.2) := fun e_s w_s w1_s => by
    refine t_s 1 _ (fun k_s hk6 => ?_) (fun a_s k_s q_s => by rw [zne_up (by omega), zne_up (by omega)]) (Or.inr rfl)
    rw [set2 hc_s k_s hk6, w_s, mx_sub b3.1 (by decide), if_neg (show ¬ (o 3).toInt < (2 : Int32).toInt by rw [i2_]; omega)]
    unfold drwO
    rw [if_neg w1_s, oset_sw (by omega)]
  have nod : ∀ e_s : Int32, stO x1_s.toInt o = drwO o e_s → ((o 3).toInt < 2 ∨ (o 1 + e_s).toInt < 0 ∨ 5 < (o 1 + e_s).toInt) → K_s 0 (h_s.1, f_s, h_s.2.2.1, h_s.2.2.2) := fun e_s w_s w1_s => nop_s (fun k_s => by
    rw [w_s]
    unfold drwO
    rw [if_pos w1_s])
  refine wF_le (Nat.le_succ F_s) (sg_43_0 (h_s := (h_s.1, f_s, h_s.2.2.1, h_s.2.2.2)) hk ?_)
  dsimp only
  have z35 : ∀ v_s, zup f_s d_s 3 v_s d_s 5 = o 5 := fun v_s => by rw [zne_up (by omega)]; exact c5_
  simp only [c1_, c2_, c3_, c4_, c5_, z35, sb_ad b1.1]
  have z11 : ∀ v_s, zup f_s d_s 1 v_s d_s 3 = o 3 := fun v_s => by rw [zne_up (by omega)]; exact c3_
  have z21 : ∀ v_s, zup f_s d_s 2 v_s d_s 3 = o 3 := fun v_s => by rw [zne_up (by omega)]; exact c3_
  simp only [z11, z21]
  refine ⟨fun c1_s => ⟨fun c2_s => ⟨fun c3_s => ⟨fun c4_s => ⟨fun c5_s => ?_, fun c5_s => ?_⟩, fun c4_s => ?_⟩, fun c3_s => ?_⟩, fun c2_s => ⟨fun c6_s => ⟨fun c7_s => ?_, fun c7_s => ?_⟩, fun c6_s => ?_⟩⟩, fun c1_s => ⟨fun c8_s => ⟨fun c9_s => ?_, fun c9_s => ⟨fun c10_s => ?_, fun c10_s => ⟨fun c11_s => ?_, fun c11_s => ?_⟩⟩⟩, fun c8_s => ⟨fun c12_s => ⟨fun c13_s => ?_, fun c13_s => ⟨fun c14_s => ?_, fun c14_s => ⟨fun c15_s => ?_, fun c15_s => ?_⟩⟩⟩, fun c12_s => ⟨fun c16 => ⟨fun c17 => ?_, fun c17 => ?_⟩, fun c16 => ?_⟩⟩⟩⟩
  · refine nop_s (fun k_s => ?_)
    rw [stO_0 c1_s]
    unfold hetO
    rw [if_neg (by omega), if_pos (by omega), if_pos (by omega)]
    by_cases e_s : k_s = 5
    · rw [e_s, os_eq]
      exact Int32.toInt_inj.mp (by rw [i9_]; omega)
    · rw [os_ne e_s]
      by_cases e1_s : k_s = 3
      · rw [e1_s, os_eq]
        exact Int32.toInt_inj.mp (by rw [i9_]; omega)
      · rw [os_ne e1_s]
  · exact heat c1_s (by omega)
  · exact heat c1_s (by omega)
  · refine nop_s (fun k_s => ?_)
    rw [stO_0 c1_s]
    unfold hetO
    rw [if_pos (by omega)]
  · refine nop_s (fun k_s => ?_)
    rw [stO_0 c1_s]
    unfold hetO
    rw [if_neg (by omega), if_pos (by omega), if_pos (by omega)]
    by_cases e_s : k_s = 5
    · rw [e_s, os_eq]
      exact Int32.toInt_inj.mp (by rw [i9_]; omega)
    · rw [os_ne e_s]
      by_cases e1_s : k_s = 3
      · rw [e1_s, os_eq]
        exact Int32.toInt_inj.mp (by rw [i9_]; omega)
      · rw [os_ne e1_s]
  · exact heat c1_s (by omega)
  · exact heat c1_s (by omega)
  · exact nod 1 (stO_1 (by omega)) (Or.inl c9_s)
  · exact nod 1 (stO_1 (by omega)) (Or.inr (Or.inl c10_s))
  · exact nod 1 (stO_1 (by omega)) (Or.inr (Or.inr c11_s))
  · exact draw_s 1 (stO_1 (by omega)) (by omega)
  · exact nod (-1) (stO_2 (by omega)) (Or.inl c13_s)
  · exact nod (-1) (stO_2 (by omega)) (Or.inr (Or.inl c14_s))
  · exact nod (-1) (stO_2 (by omega)) (Or.inr (Or.inr c15_s))
  · exact draw_s (-1) (stO_2 (by omega)) (by omega)
  · refine nop_s (fun k_s => ?_)
    rw [stO_3 (by omega)]
    unfold naiO
    rw [if_pos c17]
  · refine t_s 1 _ (fun k_s hk6 => ?_) (fun a_s k_s q_s => by rw [zne_up (by omega), zne_up (by omega)]) (Or.inr rfl)
    rw [set2 hc_s k_s hk6, stO_3 (by omega), mx_sub b3.1 (by decide), mx_sub b2.1 (by decide), if_neg (show ¬ (o 3).toInt < (1 : Int32).toInt by rw [n1_]; omega)]
    unfold naiO
    rw [if_neg c17, oset_sw (by omega)]
    rfl
  · exact nop_s (fun k_s => by rw [stO_n (by omega)])
/-- the reference -/
theorem sp_184 (hk : hKn h_s) (hx : 0 ≤ x1_s.toInt ∧ x1_s.toInt ≤ 3) (hc_s : ∀ k_s, k_s < 7 → f_s 112 k_s = o k_s) (hB_s : oB o) (t_s : ∀ v_s f1_s, (∀ k_s, k_s < 7 → f1_s 112 k_s = stO x1_s.toInt o k_s) → (∀ a_s k_s, ¬ a_s = 112 → f1_s a_s k_s = f_s a_s k_s) → K_s v_s (h_s.1, f1_s, h_s.2.2.1, h_s.2.2.2)) : wF F_s 184 (0, [some (.ref 102), some (.int x1_s)], [], (h_s.1, f_s, h_s.2.2.1, h_s.2.2.2)) (gI K_s) := by
  obtain ⟨b0, b1, b2, b3, b4, b5, b6⟩ := hB_s
  have c1_ : f_s 112 1 = o 1 := hc_s 1 (by omega)
  have c2_ : f_s 112 2 = o 2 := hc_s 2 (by omega)
  have c3_ : f_s 112 3 = o 3 := hc_s 3 (by omega)
  have c4_ : f_s 112 4 = o 4 := hc_s 4 (by omega)
  have c5_ : f_s 112 5 = o 5 := hc_s 5 (by omega)
  have nop_s : (∀ k_s, stO x1_s.toInt o k_s = o k_s) → K_s 0 (h_s.1, f_s, h_s.2.2.1, h_s.2.2.2) := fun w_s => t_s 0 f_s (fun k_s hk6 => by rw [w_s k_s]; exact hc_s k_s hk6) (fun _ _ _ => rfl)
  have two_s : ∀ (j1 j2_s : Nat) (v1_s v2 : Int32), stO x1_s.toInt o = oset (oset o j1 v1_s) j2_s v2 → K_s 1 (h_s.1, zup (zup f_s 112 j1 v1_s) 112 j2_s v2, h_s.2.2.1, h_s.2.2.2) := fun j1 j2_s v1_s v2 w_s => by
    refine t_s 1 _ (fun k_s hk7 => ?_) (fun a_s k_s q_s => by rw [zne_up (by omega), zne_up (by omega)])
    rw [w_s]
    by_cases e_s : k_s = j2_s
    · rw [e_s, zsame_up, os_eq]
    · rw [zne_up (by omega), os_ne e_s]
      by_cases e1_s : k_s = j1
      · rw [e1_s, zsame_up, os_eq]
      · rw [zne_up (by omega), os_ne e1_s]
        exact hc_s k_s hk7
  have heat : x1_s.toInt = 0 → ¬ ((o 4).toInt = 1 ∧ 0 < (o 5).toInt) → ∀ u_s v_s : Int32, u_s = (if 6 < (o 3).toInt then 9 else o 3 + 3) → v_s = (if 8 < (o 5).toInt then 9 else o 5 + 1) → K_s 1 (h_s.1, zup (zup f_s 112 3 u_s) 112 5 v_s, h_s.2.2.1, h_s.2.2.2) := fun w_s w1_s u_s v_s hu hv => two_s 3 5 u_s v_s (by
    rw [stO_0 w_s, hu, hv]
    unfold hetO
    rw [if_neg w1_s])
  have nod : ∀ e_s : Int32, stO x1_s.toInt o = drwO o e_s → ((o 3).toInt < 2 ∨ (o 1 + e_s).toInt < 0 ∨ 5 < (o 1 + e_s).toInt) → K_s 0 (h_s.1, f_s, h_s.2.2.1, h_s.2.2.2) := fun e_s w_s w1_s => nop_s (fun k_s => by
    rw [w_s]
    unfold drwO
    rw [if_pos w1_s])
  have draw_s : ∀ e_s : Int32, stO x1_s.toInt o = drwO o e_s → ¬ ((o 3).toInt < 2 ∨ (o 1 + e_s).toInt < 0 ∨ 5 < (o 1 + e_s).toInt) → K_s 1 (h_s.1, zup (zup f_s 112 3 (o 3 - 2)) 112 1 (o 1 + e_s), h_s.2.2.1, h_s.2.2.2) := fun e_s w_s w1_s => two_s 3 1 _ _ (by
    rw [w_s]
    unfold drwO
    rw [if_neg w1_s])
  refine wF_le (Nat.le_succ F_s) (sg_184_0 (h_s := (h_s.1, f_s, h_s.2.2.1, h_s.2.2.2)) hk ?_)
  dsimp only
  rw [c1_, c2_, c3_, c4_, c5_]
  refine ⟨fun c1_s => ⟨fun c3_s => ⟨fun c5_s => ?_, fun c5_s => ⟨fun c7_s => ⟨fun c10_s => ?_, fun c10_s => ?_⟩, fun c7_s => ⟨fun c17 => ?_, fun c17 => ?_⟩⟩⟩, fun c3_s => ⟨fun c22 => ⟨fun c25_s => ?_, fun c25_s => ?_⟩, fun c22 => ⟨fun c32_s => ?_, fun c32_s => ?_⟩⟩⟩, fun c1_s => ⟨fun c36_s => ⟨fun c38 => ?_, fun c38 => ⟨fun c42 => ?_, fun c42 => ?_⟩⟩, fun c36_s => ⟨fun c46_s => ⟨fun c48_s => ?_, fun c48_s => ⟨fun c50 => ?_, fun c50 => ⟨fun c51_s => ?_, fun c51_s => ?_⟩⟩⟩, fun c46_s => ⟨fun c57 => ?_, fun c57 => ⟨fun c59 => ?_, fun c59 => ⟨fun c60 => ?_, fun c60 => ?_⟩⟩⟩⟩⟩⟩
  · refine nop_s (fun k_s => ?_)
    rw [stO_0 c1_s]
    unfold hetO
    rw [if_pos (by omega)]
  · exact heat c1_s (by omega) _ _ (by rw [if_pos c7_s]) (by rw [if_pos c10_s])
  · exact heat c1_s (by omega) _ _ (by rw [if_pos c7_s]) (by rw [if_neg c10_s])
  · exact heat c1_s (by omega) _ _ (by rw [if_neg c7_s]) (by rw [if_pos c17])
  · exact heat c1_s (by omega) _ _ (by rw [if_neg c7_s]) (by rw [if_neg c17])
  · exact heat c1_s (by omega) _ _ (by rw [if_pos c22]) (by rw [if_pos c25_s])
  · exact heat c1_s (by omega) _ _ (by rw [if_pos c22]) (by rw [if_neg c25_s])
  · exact heat c1_s (by omega) _ _ (by rw [if_neg c22]) (by rw [if_pos c32_s])
  · exact heat c1_s (by omega) _ _ (by rw [if_neg c22]) (by rw [if_neg c32_s])
  · refine nop_s (fun k_s => ?_)
    rw [stO_3 c36_s]
    unfold naiO
    rw [if_pos c38]
  · refine two_s 3 2 _ _ ?_
    rw [stO_3 c36_s]
    unfold naiO
    rw [if_neg c38, if_pos c42]
  · refine two_s 3 2 _ _ ?_
    rw [stO_3 c36_s]
    unfold naiO
    rw [if_neg c38, if_neg c42]
  · exact nod 1 (stO_1 c46_s) (Or.inl c48_s)
  · exact nod 1 (stO_1 c46_s) (Or.inr (Or.inl c50))
  · exact nod 1 (stO_1 c46_s) (Or.inr (Or.inr c51_s))
  · exact draw_s 1 (stO_1 c46_s) (by omega)
  · exact nod (-1) (stO_2 (by omega)) (Or.inl c57)
  · exact nod (-1) (stO_2 (by omega)) (Or.inr (Or.inl c59))
  · exact nod (-1) (stO_2 (by omega)) (Or.inr (Or.inr c60))
  · exact draw_s (-1) (stO_2 (by omega)) (by omega)
end SK_
/-! THE WHOLE STATE: what class and reference have in common; what leaves it as it is. -/
def okN (nh ni nr n_s w_s : Nat) : Prop := n_s < (if w_s < 2 then nh else if w_s < 9 then ni else nr)
/-- a change that is kept: number n of what w -/
def chT (nh ni nr : Nat) (f_s : Nat → Nat → Int32) (k_s : Nat) : Prop := ∃ n_s w_s : Nat, w_s < 12 ∧ okN nh ni nr n_s w_s ∧ (f_s 43 k_s).toInt = (n_s : Int) ∧ (f_s 44 k_s).toInt = (w_s : Int) ∧ (f_s 104 k_s).toInt = (plc n_s w_s : Int) ∧ f_s 105 k_s = f_s 45 k_s ∧ f_s 106 k_s = f_s 46 k_s ∧ vB nh nr n_s w_s (f_s 45 k_s).toInt ∧ vB nh nr n_s w_s (f_s 46 k_s).toInt
def tH (nh ni nr : Nat) (f_s : Nat → Nat → Int32) : Prop := ∃ u_s r_s : Nat, u_s + r_s ≤ 40 ∧ (f_s 42 0).toInt = (u_s : Int) ∧ (f_s 42 1).toInt = (r_s : Int) ∧ (f_s 102 5).toInt = (u_s : Int) ∧ (f_s 102 4).toInt = ((u_s + r_s : Nat) : Int) ∧ ∀ k_s, k_s < u_s + r_s → chT nh ni nr f_s k_s
def tI (nh ni nr : Nat) (f_s : Nat → Nat → Int32) : Prop := ((f_s 6 12).toInt = -1 ∧ (f_s 102 35).toInt = 0) ∨ (∃ ic : Nat, ic ≤ ni ∧ (f_s 6 12).toInt = (ic : Int) ∧ (f_s 102 36).toInt = (ic : Int) ∧ ¬ (f_s 102 35).toInt = 0 ∧ (∀ i_s k_s, i_s < ic → k_s < 7 → ¬ k_s = 0 → ¬ k_s = 4 → f_s (94 + i_s) k_s = f_s 120 (12 + 8 * k_s + i_s) ∧ vB nh nr i_s (k_s + 2) (f_s 120 (12 + 8 * k_s + i_s)).toInt) ∧ (∀ k_s, 2 ≤ k_s → k_s ≤ 4 → f_s 75 k_s = f_s 121 k_s))
def tD (f_s : Nat → Nat → Int32) : Prop := ∀ k_s, 2 ≤ k_s → k_s ≤ 4 → f_s 73 k_s = f_s 119 k_s
def lsW (w_s : Nat) : Int := if w_s = 8 then -1 else if w_s = 9 then 1 else 0
def msW (w_s : Nat) : Int := if w_s = 8 then 5 else mxw w_s
def tZ (f_s : Nat → Nat → Int32) : Prop := (∀ k_s, k_s < 12 → (f_s 1 k_s).toInt = msW k_s ∧ (f_s 2 k_s).toInt = lsW k_s) ∧ ((f_s 3 0).toInt = 4 ∧ (f_s 3 1).toInt = 0 ∧ (f_s 3 2).toInt = 3)
def tX (h_s : zH) : Prop := ∃ nh ni nr : Nat, tC nh ni nr h_s.2.1 ∧ tH nh ni nr h_s.2.1 ∧ tI nh ni nr h_s.2.1 ∧ tD h_s.2.1 ∧ tZ h_s.2.1 ∧ tLw h_s
def inH (o k_s : Nat) : Prop := (o = 42 ∧ k_s < 2) ∨ (43 ≤ o ∧ o ≤ 46 ∧ k_s < 40) ∨ (o = 102 ∧ (k_s = 4 ∨ k_s = 5)) ∨ (104 ≤ o ∧ o ≤ 106 ∧ k_s < 40)
def inI (o k_s : Nat) : Prop := (o = 6 ∧ k_s = 12) ∨ (94 ≤ o ∧ o < 102 ∧ k_s < 7) ∨ (o = 75 ∧ k_s < 5) ∨ (o = 102 ∧ (k_s = 35 ∨ k_s = 36)) ∨ (o = 120 ∧ k_s < 104) ∨ (o = 121 ∧ k_s < 5)
def inD (o k_s : Nat) : Prop := (o = 73 ∨ o = 119) ∧ 2 ≤ k_s ∧ k_s ≤ 4
def inZ (o k_s : Nat) : Prop := (o = 1 ∧ k_s < 12) ∨ (o = 2 ∧ k_s < 12) ∨ (o = 3 ∧ k_s < 3)
def inW (o k_s : Nat) : Prop := ((o = 14 ∨ o = 17) ∧ k_s < 3) ∨ ((o = 15 ∨ o = 18) ∧ k_s < 242) ∨ (o = 102 ∧ k_s = 14) ∨ (o = 110 ∧ k_s < 120)
section TXF
variable {nh ni nr : Nat} {f_s f1_s : Nat → Nat → Int32}
theorem chT_fr {k_s : Nat} (hf : ∀ o, (43 ≤ o ∧ o ≤ 46) ∨ (104 ≤ o ∧ o ≤ 106) → f1_s o k_s = f_s o k_s) (h_s : chT nh ni nr f_s k_s) : chT nh ni nr f1_s k_s := by
  obtain ⟨n_s, w_s, a1_s, a2, a3, a4, a5, a6, a7, a8, a9⟩ := h_s
  refine ⟨n_s, w_s, a1_s, a2, ?_, ?_, ?_, ?_, ?_, ?_, ?_⟩
  · rw [hf 43 (by omega)]
    exact a3
  · rw [hf 44 (by omega)]
    exact a4
  · rw [hf 104 (by omega)]
    exact a5
  · rw [hf 105 (by omega), hf 45 (by omega)]
    exact a6
  · rw [hf 106 (by omega), hf 46 (by omega)]
    exact a7
  · rw [hf 45 (by omega)]
    exact a8
  · rw [hf 46 (by omega)]
    exact a9
theorem tH_fr (hf : ∀ o k_s, inH o k_s → f1_s o k_s = f_s o k_s) (h_s : tH nh ni nr f_s) : tH nh ni nr f1_s := by
  obtain ⟨u_s, r_s, a1_s, a2, a3, a4, a5, a6⟩ := h_s
  refine ⟨u_s, r_s, a1_s, ?_, ?_, ?_, ?_, fun k_s hk => chT_fr (fun o ho => hf o k_s (by unfold inH; omega)) (a6 k_s hk)⟩
  · rw [hf 42 0 (by unfold inH; omega)]
    exact a2
  · rw [hf 42 1 (by unfold inH; omega)]
    exact a3
  · rw [hf 102 5 (by unfold inH; omega)]
    exact a4
  · rw [hf 102 4 (by unfold inH; omega)]
    exact a5
theorem tI_fr (hf : ∀ o k_s, inI o k_s → f1_s o k_s = f_s o k_s) (h_s : tI nh ni nr f_s) (h8 : ni ≤ 8) : tI nh ni nr f1_s := by
  rcases h_s with ⟨a1_s, a2⟩ | ⟨ic, a1_s, a2, a3, a4, a5, a6⟩
  · refine Or.inl ⟨?_, ?_⟩
    · rw [hf 6 12 (by unfold inI; omega)]
      exact a1_s
    · rw [hf 102 35 (by unfold inI; omega)]
      exact a2
  · refine Or.inr ⟨ic, a1_s, ?_, ?_, ?_, fun i_s k_s hi_s hk h0 h4 => ?_, fun k_s h0 h4 => ?_⟩
    · rw [hf 6 12 (by unfold inI; omega)]
      exact a2
    · rw [hf 102 36 (by unfold inI; omega)]
      exact a3
    · rw [hf 102 35 (by unfold inI; omega)]
      exact a4
    · rw [hf (94 + i_s) k_s (by unfold inI; omega), hf 120 (12 + 8 * k_s + i_s) (by unfold inI; omega)]
      exact a5 i_s k_s hi_s hk h0 h4
    · rw [hf 75 k_s (by unfold inI; omega), hf 121 k_s (by unfold inI; omega)]
      exact a6 k_s h0 h4
theorem tD_fr (hf : ∀ o k_s, inD o k_s → f1_s o k_s = f_s o k_s) (h_s : tD f_s) : tD f1_s := fun k_s h0 h4 => by
  rw [hf 73 k_s (by unfold inD; omega), hf 119 k_s (by unfold inD; omega)]
  exact h_s k_s h0 h4
theorem tZ_fr (hf : ∀ o k_s, inZ o k_s → f1_s o k_s = f_s o k_s) (h_s : tZ f_s) : tZ f1_s := by
  obtain ⟨a1_s, a2, a3, a4⟩ := h_s
  refine ⟨fun k_s hk => ?_, ?_, ?_, ?_⟩
  · rw [hf 1 k_s (by unfold inZ; omega), hf 2 k_s (by unfold inZ; omega)]
    exact a1_s k_s hk
  · rw [hf 3 0 (by unfold inZ; omega)]
    exact a2
  · rw [hf 3 1 (by unfold inZ; omega)]
    exact a3
  · rw [hf 3 2 (by unfold inZ; omega)]
    exact a4
theorem lawC_w {q_s : Nat} {lw : Option (List pB)} (hm_s : q_s = 14 ∨ q_s = 17) (hf : ∀ o k_s, inW o k_s → f1_s o k_s = f_s o k_s) (hl : lawC q_s f_s lw) : lawC q_s f1_s lw := by
  match lw, hl with
  | none, hl => exact ⟨by rw [hf q_s 2 (by unfold inW; omega)]; exact hl.1, by rw [hf q_s 0 (by unfold inW; omega)]; exact hl.2⟩
  | some ls, hl =>
    obtain ⟨a1_s, a2, a3, a4, a5, a6⟩ := hl
    refine ⟨by rw [hf q_s 2 (by unfold inW; omega)]; exact a1_s, a2, fun j_s c_s hj => ?_, by rw [hf q_s 0 (by unfold inW; omega)]; exact a4, a5, a6⟩
    have hl := zget_lt hj
    rw [hf (q_s + 1) j_s (by unfold inW; omega)]
    exact a3 j_s c_s hj
theorem tLw_fr {h_s h1 : zH} (hr : ∀ k_s, h1.2.2.2 7 k_s = h_s.2.2.2 7 k_s) (hf : ∀ o k_s, inW o k_s → h1.2.1 o k_s = h_s.2.1 o k_s) (hl : tLw h_s) : tLw h1 := by
  obtain ⟨q_s, q2_s, lw, a1_s, a2, a3, a4, a5⟩ := hl
  exact ⟨q_s, q2_s, lw, by rw [hr]; exact a1_s, by rw [hr]; exact a2, a3, lawC_w (by omega) hf a4, lawR_fr (hf _ _ (by unfold inW; omega)) (fun k_s hk => hf _ _ (by unfold inW; omega)) a5⟩
theorem vB_mono {nh1 nr1 n_s w_s : Nat} {v_s : Int} (h1 : nh ≤ nh1) (h2 : nr ≤ nr1) (h3 : w_s = 9 → n_s < nr) (h_s : vB nh nr n_s w_s v_s) : vB nh1 nr1 n_s w_s v_s := by
  by_cases e_s : w_s = 8
  · subst e_s
    rw [vB_8] at h_s ⊢
    omega
  · rw [vB_n e_s] at h_s ⊢
    exact ⟨h_s.1, h_s.2.1, fun e9_s _ => h_s.2.2 e9_s (h3 e9_s)⟩
theorem okN_mono {nh1 ni1 nr1 n_s w_s : Nat} (h1 : nh ≤ nh1) (h2 : nr ≤ nr1) (h3 : ni ≤ ni1) (h_s : okN nh ni nr n_s w_s) : okN nh1 ni1 nr1 n_s w_s := by
  unfold okN at h_s ⊢
  by_cases a_s : w_s < 2
  · rw [if_pos a_s] at h_s ⊢
    omega
  · rw [if_neg a_s] at h_s ⊢
    by_cases b_s : w_s < 9
    · rw [if_pos b_s] at h_s ⊢
      omega
    · rw [if_neg b_s] at h_s ⊢
      omega
theorem tH_mono {nh1 ni1 nr1 : Nat} (h1 : nh ≤ nh1) (h2 : nr ≤ nr1) (h3 : ni ≤ ni1) (h_s : tH nh ni nr f_s) : tH nh1 ni1 nr1 f_s := by
  obtain ⟨u_s, r_s, a1_s, a2, a3, a4, a5, a6⟩ := h_s
  refine ⟨u_s, r_s, a1_s, a2, a3, a4, a5, fun k_s hk => ?_⟩
  obtain ⟨n_s, w_s, b1, b2, b3, b4, b5, b6, b7, b8, b9⟩ := a6 k_s hk
  have h9 : w_s = 9 → n_s < nr := fun e_s => by
    rw [e_s] at b2
    exact b2
  exact ⟨n_s, w_s, b1, okN_mono h1 h2 h3 b2, b3, b4, b5, b6, b7, vB_mono h1 h2 h9 b8, vB_mono h1 h2 h9 b9⟩
theorem tI_mono {nh1 ni1 nr1 : Nat} (h1 : nh ≤ nh1) (h2 : nr ≤ nr1) (h3 : ni ≤ ni1) (h_s : tI nh ni nr f_s) : tI nh1 ni1 nr1 f_s := by
  rcases h_s with h_s | ⟨ic, a1_s, a2, a3, a4, a5, a6⟩
  · exact Or.inl h_s
  · exact Or.inr ⟨ic, by omega, a2, a3, a4, fun i_s k_s hi_s hk h0 h4 => ⟨(a5 i_s k_s hi_s hk h0 h4).1, vB_mono h1 h2 (fun e_s => absurd e_s (by omega)) (a5 i_s k_s hi_s hk h0 h4).2⟩, a6⟩
end TXF
/-- all of the cells -/
def inX (o k_s : Nat) : Prop := inC o k_s ∨ inH o k_s ∨ inI o k_s ∨ inD o k_s ∨ inZ o k_s ∨ inW o k_s
theorem inX_no {o k_s : Nat} (h_s : inX o k_s) : (¬ o = 12 ∧ ¬ o = 13 ∧ ¬ o = 16 ∧ ¬ o = 19) ∧ ¬ (47 ≤ o ∧ o ≤ 72) ∧ ¬ (76 ≤ o ∧ o ≤ 93) ∧ ¬ o = 109 ∧ ¬ (111 ≤ o ∧ o ≤ 118) ∧ ¬ 122 ≤ o := by
  unfold inX inC inH inI inD inZ inW at h_s
  omega
theorem tX_fr {h_s h1 : zH} (hr : ∀ k_s, h1.2.2.2 7 k_s = h_s.2.2.2 7 k_s) (hf : ∀ o k_s, inX o k_s → h1.2.1 o k_s = h_s.2.1 o k_s) (hx : tX h_s) : tX h1 := by
  obtain ⟨nh, ni, nr, a1_s, a2, a3, a4, a5, a6⟩ := hx
  exact ⟨nh, ni, nr, tC_fr (fun o k_s q_s => hf o k_s (Or.inl q_s)) a1_s, tH_fr (fun o k_s q_s => hf o k_s (Or.inr (Or.inl q_s))) a2, tI_fr (fun o k_s q_s => hf o k_s (Or.inr (Or.inr (Or.inl q_s)))) a3 a1_s.1.2.1, tD_fr (fun o k_s q_s => hf o k_s (Or.inr (Or.inr (Or.inr (Or.inl q_s))))) a4, tZ_fr (fun o k_s q_s => hf o k_s (Or.inr (Or.inr (Or.inr (Or.inr (Or.inl q_s)))))) a5, tLw_fr hr (fun o k_s q_s => hf o k_s (Or.inr (Or.inr (Or.inr (Or.inr (Or.inr q_s)))))) a6⟩
/-- the cells as rows: (from, to, how many places from which on) -/
def xRows : List (Nat × Nat × Nat × Nat) := [(7, 7, 6, 9), (8, 9, 0, 6), (20, 27, 0, 7), (28, 39, 0, 5), (102, 102, 4, 9), (103, 103, 0, 104), (107, 108, 0, 12), (42, 42, 0, 2), (43, 46, 0, 40), (104, 106, 0, 40), (6, 6, 12, 13), (94, 101, 0, 7), (75, 75, 0, 5), (102, 102, 35, 37), (120, 120, 0, 104), (121, 121, 0, 5), (73, 73, 2, 5), (119, 119, 2, 5), (1, 2, 0, 12), (3, 3, 0, 3), (14, 14, 0, 3), (17, 17, 0, 3), (15, 15, 0, 242), (18, 18, 0, 242), (102, 102, 14, 15), (110, 110, 0, 120)]
/-- a write set that leaves them alone -/
def tXok (W_s : aW) : Bool := W_s.2.all (fun o => xRows.all (fun r_s => Nat.blt o r_s.1 || Nat.blt r_s.2.1 o)) && W_s.1.all (fun p_s => xRows.all (fun r_s => (Nat.blt p_s.1 r_s.1 || Nat.blt r_s.2.1 p_s.1) || (Nat.blt p_s.2 r_s.2.2.1 || Nat.ble r_s.2.2.2 p_s.2)))
theorem tXok_row {W_s : aW} (hw : tXok W_s = true) {r_s : Nat × Nat × Nat × Nat} (hr : r_s ∈ xRows) {o k_s : Nat} (h1 : r_s.1 ≤ o) (h2 : o ≤ r_s.2.1) (h3 : r_s.2.2.1 ≤ k_s) (h4 : k_s < r_s.2.2.2) : aWf W_s o k_s = false := by
  unfold tXok at hw
  rw [Bool.and_eq_true] at hw
  cases e_s : aWf W_s o k_s with
  | false => rfl
  | true =>
    exfalso
    unfold aWf at e_s
    rw [Bool.and_eq_true, Bool.or_eq_true] at e_s
    rcases e_s.2 with e_s | e_s
    · have u_s := List.all_eq_true.mp (List.all_eq_true.mp hw.1 o (awe_mem e_s)) r_s hr
      rw [Bool.or_eq_true, Nat.blt_eq, Nat.blt_eq] at u_s
      omega
    · have u_s := List.all_eq_true.mp (List.all_eq_true.mp hw.2 (o, k_s) (awp_mem e_s)) r_s hr
      rw [Bool.or_eq_true, Bool.or_eq_true, Bool.or_eq_true, Nat.blt_eq, Nat.blt_eq, Nat.blt_eq, Nat.ble_eq] at u_s
      dsimp only at u_s
      omega
theorem tXok_in {W_s : aW} (hw : tXok W_s = true) {o k_s : Nat} (h_s : inX o k_s) : aWf W_s o k_s = false := by
  have go_s : ∀ (a_s b_s c_s d_s : Nat), (a_s, b_s, c_s, d_s) ∈ xRows → a_s ≤ o → o ≤ b_s → c_s ≤ k_s → k_s < d_s → aWf W_s o k_s = false := fun _ _ _ _ hr h1 h2 h3 h4 => tXok_row hw hr h1 h2 h3 h4
  rcases h_s with h_s | h_s | h_s | h_s | h_s | h_s
  · rcases h_s with h_s | h_s | h_s | h_s | h_s | h_s | h_s
    · exact go_s 7 7 6 9 (by decide) (by omega) (by omega) (by omega) (by omega)
    · exact go_s 8 9 0 6 (by decide) (by omega) (by omega) (by omega) (by omega)
    · exact go_s 20 27 0 7 (by decide) (by omega) (by omega) (by omega) (by omega)
    · exact go_s 28 39 0 5 (by decide) (by omega) (by omega) (by omega) (by omega)
    · exact go_s 102 102 4 9 (by decide) (by omega) (by omega) (by omega) (by omega)
    · exact go_s 103 103 0 104 (by decide) (by omega) (by omega) (by omega) (by omega)
    · exact go_s 107 108 0 12 (by decide) (by omega) (by omega) (by omega) (by omega)
  · rcases h_s with h_s | h_s | h_s | h_s
    · exact go_s 42 42 0 2 (by decide) (by omega) (by omega) (by omega) (by omega)
    · exact go_s 43 46 0 40 (by decide) (by omega) (by omega) (by omega) (by omega)
    · exact go_s 102 102 4 9 (by decide) (by omega) (by omega) (by omega) (by omega)
    · exact go_s 104 106 0 40 (by decide) (by omega) (by omega) (by omega) (by omega)
  · rcases h_s with h_s | h_s | h_s | h_s | h_s | h_s
    · exact go_s 6 6 12 13 (by decide) (by omega) (by omega) (by omega) (by omega)
    · exact go_s 94 101 0 7 (by decide) (by omega) (by omega) (by omega) (by omega)
    · exact go_s 75 75 0 5 (by decide) (by omega) (by omega) (by omega) (by omega)
    · exact go_s 102 102 35 37 (by decide) (by omega) (by omega) (by omega) (by omega)
    · exact go_s 120 120 0 104 (by decide) (by omega) (by omega) (by omega) (by omega)
    · exact go_s 121 121 0 5 (by decide) (by omega) (by omega) (by omega) (by omega)
  · obtain ⟨h_s | h_s, h2, h4⟩ := h_s
    · exact go_s 73 73 2 5 (by decide) (by omega) (by omega) (by omega) (by omega)
    · exact go_s 119 119 2 5 (by decide) (by omega) (by omega) (by omega) (by omega)
  · rcases h_s with h_s | h_s | h_s
    · exact go_s 1 2 0 12 (by decide) (by omega) (by omega) (by omega) (by omega)
    · exact go_s 1 2 0 12 (by decide) (by omega) (by omega) (by omega) (by omega)
    · exact go_s 3 3 0 3 (by decide) (by omega) (by omega) (by omega) (by omega)
  · rcases h_s with ⟨h_s | h_s, h3⟩ | ⟨h_s | h_s, h3⟩ | h_s | h_s
    · exact go_s 14 14 0 3 (by decide) (by omega) (by omega) (by omega) (by omega)
    · exact go_s 17 17 0 3 (by decide) (by omega) (by omega) (by omega) (by omega)
    · exact go_s 15 15 0 242 (by decide) (by omega) (by omega) (by omega) (by omega)
    · exact go_s 18 18 0 242 (by decide) (by omega) (by omega) (by omega) (by omega)
    · exact go_s 102 102 14 15 (by decide) (by omega) (by omega) (by omega) (by omega)
    · exact go_s 110 110 0 120 (by decide) (by omega) (by omega) (by omega) (by omega)
/-- calls that leave all that alone -/
theorem tX_call {W_s : aW} (hw : tXok W_s = true) {h_s h1 : zH} (fr_s : aFr (aWf W_s) h_s h1) (hr : h1.2.2.2 = h_s.2.2.2) (hx : tX h_s) : tX h1 := tX_fr (fun k_s => by rw [hr]) (fun o k_s q_s => fr_s.1 o k_s (tXok_in hw q_s)) hx
theorem wRf {F_s mi : Nat} {x_s : zC} (hm_s : rfX mi = false) : wF F_s mi x_s (fun _ h1 => h1.2.2.2 = x_s.2.2.2.2.2.2) := fun f_s d_s r_s h1 _ hr => (rf_run f_s d_s mi x_s r_s h1 hm_s hr).1.2
theorem wrI_ {F_s mi : Nat} {x_s : zC} {K_s : Int32 → zH → Prop} (hm_s : rfX mi = false) (a_s : wF F_s mi x_s (gI K_s)) : wF F_s mi x_s (gI (fun v_s h_s => K_s v_s h_s ∧ h_s.2.2.2 = x_s.2.2.2.2.2.2)) := by
  intro f_s d_s r_s h1 hf hr
  obtain ⟨v_s, e1_s, k1_s, p1_s⟩ := a_s f_s d_s r_s h1 hf hr
  exact ⟨v_s, e1_s, k1_s, p1_s, (rf_run f_s d_s mi x_s r_s h1 hm_s hr).1.2⟩
theorem wrJ_ {F_s mi : Nat} {x_s : zC} {K_s : Int64 → zH → Prop} (hm_s : rfX mi = false) (a_s : wF F_s mi x_s (gJ K_s)) : wF F_s mi x_s (gJ (fun v_s h_s => K_s v_s h_s ∧ h_s.2.2.2 = x_s.2.2.2.2.2.2)) := by
  intro f_s d_s r_s h1 hf hr
  obtain ⟨v_s, e1_s, k1_s, p1_s⟩ := a_s f_s d_s r_s h1 hf hr
  exact ⟨v_s, e1_s, k1_s, p1_s, (rf_run f_s d_s mi x_s r_s h1 hm_s hr).1.2⟩
