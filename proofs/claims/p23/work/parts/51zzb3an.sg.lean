/-! What ended runs give: printed by a program (wip/fun/sg.py). -/
/-- ColdShod$Idea.strike(I)Z, from 0 on -/
theorem sg_43_0 {F_s : Nat} {d_s : Nat} {x1_s : Int32} {h_s : zH} {K_s : Int32 → zH → Prop} (hk : hKn h_s) (t_s : (x1_s.toInt = 0 → (((h_s.2.1 d_s 4).toInt = 1 → (((h_s.2.1 d_s 5).toInt < 1 → (((h_s.2.1 d_s 3).toInt = 9 → (((h_s.2.1 d_s 5).toInt = 9 → K_s 0 h_s) ∧ (¬ (h_s.2.1 d_s 5).toInt = 9 → K_s 1 (h_s.1, zup (zup h_s.2.1 d_s 3 (if ((h_s.2.1 d_s 3) + 3) < 9 then ((h_s.2.1 d_s 3) + 3) else 9)) d_s 5 (if (((zup h_s.2.1 d_s 3 (if ((h_s.2.1 d_s 3) + 3) < 9 then ((h_s.2.1 d_s 3) + 3) else 9)) d_s 5) + 1) < 9 then (((zup h_s.2.1 d_s 3 (if ((h_s.2.1 d_s 3) + 3) < 9 then ((h_s.2.1 d_s 3) + 3) else 9)) d_s 5) + 1) else 9), h_s.2.2.1, h_s.2.2.2)))) ∧ (¬ (h_s.2.1 d_s 3).toInt = 9 → K_s 1 (h_s.1, zup (zup h_s.2.1 d_s 3 (if ((h_s.2.1 d_s 3) + 3) < 9 then ((h_s.2.1 d_s 3) + 3) else 9)) d_s 5 (if (((zup h_s.2.1 d_s 3 (if ((h_s.2.1 d_s 3) + 3) < 9 then ((h_s.2.1 d_s 3) + 3) else 9)) d_s 5) + 1) < 9 then (((zup h_s.2.1 d_s 3 (if ((h_s.2.1 d_s 3) + 3) < 9 then ((h_s.2.1 d_s 3) + 3) else 9)) d_s 5) + 1) else 9), h_s.2.2.1, h_s.2.2.2)))) ∧ (¬ (h_s.2.1 d_s 5).toInt < 1 → K_s 0 h_s))) ∧ (¬ (h_s.2.1 d_s 4).toInt = 1 → (((h_s.2.1 d_s 3).toInt = 9 → (((h_s.2.1 d_s 5).toInt = 9 → K_s 0 h_s) ∧ (¬ (h_s.2.1 d_s 5).toInt = 9 → K_s 1 (h_s.1, zup (zup h_s.2.1 d_s 3 (if ((h_s.2.1 d_s 3) + 3) < 9 then ((h_s.2.1 d_s 3) + 3) else 9)) d_s 5 (if (((zup h_s.2.1 d_s 3 (if ((h_s.2.1 d_s 3) + 3) < 9 then ((h_s.2.1 d_s 3) + 3) else 9)) d_s 5) + 1) < 9 then (((zup h_s.2.1 d_s 3 (if ((h_s.2.1 d_s 3) + 3) < 9 then ((h_s.2.1 d_s 3) + 3) else 9)) d_s 5) + 1) else 9), h_s.2.2.1, h_s.2.2.2)))) ∧ (¬ (h_s.2.1 d_s 3).toInt = 9 → K_s 1 (h_s.1, zup (zup h_s.2.1 d_s 3 (if ((h_s.2.1 d_s 3) + 3) < 9 then ((h_s.2.1 d_s 3) + 3) else 9)) d_s 5 (if (((zup h_s.2.1 d_s 3 (if ((h_s.2.1 d_s 3) + 3) < 9 then ((h_s.2.1 d_s 3) + 3) else 9)) d_s 5) + 1) < 9 then (((zup h_s.2.1 d_s 3 (if ((h_s.2.1 d_s 3) + 3) < 9 then ((h_s.2.1 d_s 3) + 3) else 9)) d_s 5) + 1) else 9), h_s.2.2.1, h_s.2.2.2)))))) ∧ (¬ x1_s.toInt = 0 → (x1_s.toInt = 1 → (((h_s.2.1 d_s 3).toInt < 2 → K_s 0 h_s) ∧ (¬ (h_s.2.1 d_s 3).toInt < 2 → ((((h_s.2.1 d_s 1) + 1).toInt < 0 → K_s 0 h_s) ∧ (¬ ((h_s.2.1 d_s 1) + 1).toInt < 0 → ((5 < ((h_s.2.1 d_s 1) + 1).toInt → K_s 0 h_s) ∧ (¬ 5 < ((h_s.2.1 d_s 1) + 1).toInt → K_s 1 (h_s.1, zup (zup h_s.2.1 d_s 1 ((h_s.2.1 d_s 1) + 1)) d_s 3 (if 0 < (((zup h_s.2.1 d_s 1 ((h_s.2.1 d_s 1) + 1)) d_s 3) - 2) then (((zup h_s.2.1 d_s 1 ((h_s.2.1 d_s 1) + 1)) d_s 3) - 2) else 0), h_s.2.2.1, h_s.2.2.2)))))))) ∧ (¬ x1_s.toInt = 1 → (x1_s.toInt = 2 → (((h_s.2.1 d_s 3).toInt < 2 → K_s 0 h_s) ∧ (¬ (h_s.2.1 d_s 3).toInt < 2 → ((((h_s.2.1 d_s 1) - 1).toInt < 0 → K_s 0 h_s) ∧ (¬ ((h_s.2.1 d_s 1) - 1).toInt < 0 → ((5 < ((h_s.2.1 d_s 1) - 1).toInt → K_s 0 h_s) ∧ (¬ 5 < ((h_s.2.1 d_s 1) - 1).toInt → K_s 1 (h_s.1, zup (zup h_s.2.1 d_s 1 ((h_s.2.1 d_s 1) - 1)) d_s 3 (if 0 < (((zup h_s.2.1 d_s 1 ((h_s.2.1 d_s 1) - 1)) d_s 3) - 2) then (((zup h_s.2.1 d_s 1 ((h_s.2.1 d_s 1) - 1)) d_s 3) - 2) else 0), h_s.2.2.1, h_s.2.2.2)))))))) ∧ (¬ x1_s.toInt = 2 → (x1_s.toInt = 3 → (((h_s.2.1 d_s 3).toInt < 1 → K_s 0 h_s) ∧ (¬ (h_s.2.1 d_s 3).toInt < 1 → K_s 1 (h_s.1, zup (zup h_s.2.1 d_s 2 (if 0 < ((h_s.2.1 d_s 2) - 10) then ((h_s.2.1 d_s 2) - 10) else 0)) d_s 3 (if 0 < (((zup h_s.2.1 d_s 2 (if 0 < ((h_s.2.1 d_s 2) - 10) then ((h_s.2.1 d_s 2) - 10) else 0)) d_s 3) - 1) then (((zup h_s.2.1 d_s 2 (if 0 < ((h_s.2.1 d_s 2) - 10) then ((h_s.2.1 d_s 2) - 10) else 0)) d_s 3) - 1) else 0), h_s.2.2.1, h_s.2.2.2)))) ∧ (¬ x1_s.toInt = 3 → K_s 0 h_s))))) : wF (F_s + 1) 43 (0, [some (.ref d_s), some (.int x1_s)], [], h_s) (gI K_s) := by
  refine w_0 (pc := 0) (e_s := (1, 1, 1, 0, 0, .null, [])) (y_s := (1, [some (.ref _), some (.int _)], [.int _], _)) rfl (u_ rfl) ?_
  refine wsw (pc := 1) (len_s := 31) rfl ?_
  refine wsc (X_s := 0) rfl (by decide) (fun c1_s => ?_) (fun c1_s => ?_)
  · replace t_s := t_s.1 c1_s
    refine w_t (pc := 32) (e_s := (3, 1, 0, 0, 0, .null, [])) (y_s := (33, [some (.ref _), some (.int _)], [.ref _], _)) rfl (u_ rfl) ?_
    refine wcI (pc := 33) (len_s := 3) rfl rfl (l := [some (.ref _), none]) rfl ?_
    refine w_t (pc := 0) (e_s := (3, 1, 0, 0, 0, .null, [])) (y_s := (1, [some (.ref _), none], [.ref _], _)) rfl (u_ rfl) ?_
    refine w20 (pc := 1) (len_s := 3) rfl ?_
    refine w_t (pc := 4) (e_s := (0, 1, 0, 0, 0, .int 1, [])) (y_s := (5, [some (.ref _), none], [.int _, .int _], _)) rfl (u_ rfl) ?_
    refine wi1 (pc := 5) (len_s := 3) (Y := 1) rfl rfl (by decide) (fun c2_s => ?_) (fun c2_s => ?_)
    · replace t_s := t_s.1 c2_s
      refine w_t (pc := 8) (e_s := (3, 1, 0, 0, 0, .null, [])) (y_s := (9, [some (.ref _), none], [.ref _], _)) rfl (u_ rfl) ?_
      refine w20 (pc := 9) (len_s := 3) rfl ?_
      refine w_t (pc := 12) (e_s := (0, 1, 0, 0, 0, .int 1, [])) (y_s := (13, [some (.ref _), none], [.int _, .int _], _)) rfl (u_ rfl) ?_
      refine wi2 (pc := 13) (len_s := 3) (Y := 1) rfl rfl (by decide) (fun c3_s => ?_) (fun c3_s => ?_)
      · replace t_s := t_s.1 c3_s
        refine w_t (pc := 20) (e_s := (0, 1, 0, 0, 0, .int 0, [])) (y_s := (21, [some (.ref _), none], [.int _], _)) rfl (u_ rfl) ?_
        refine w_t (pc := 21) (e_s := (4, 1, 1, 0, 0, .null, [])) (y_s := (22, [some (.ref _), some (.int _)], [], _)) rfl (u_ rfl) ?_
        refine w_t (pc := 22) (e_s := (1, 1, 1, 0, 0, .null, [])) (y_s := (23, [some (.ref _), some (.int _)], [.int _], _)) rfl (u_ rfl) ?_
        refine w_t (pc := 23) (e_s := (15, 3, 44, 1, 0, .null, [])) (y_s := (26, [some (.ref _), some (.int _)], [], _)) rfl (u_ rfl) ?_
        refine w_t (pc := 26) (e_s := (3, 1, 0, 0, 0, .null, [])) (y_s := (27, [some (.ref _), some (.int _)], [.ref _], _)) rfl (u_ rfl) ?_
        refine w20 (pc := 27) (len_s := 3) rfl ?_
        refine w_t (pc := 30) (e_s := (0, 2, 0, 0, 0, .int 9, [])) (y_s := (32, [some (.ref _), some (.int _)], [.int _, .int _], _)) rfl (u_ rfl) ?_
        refine wi1 (pc := 32) (len_s := 3) (Y := 9) rfl rfl (by decide) (fun c4_s => ?_) (fun c4_s => ?_)
        · replace t_s := t_s.1 c4_s
          refine w_t (pc := 35) (e_s := (3, 1, 0, 0, 0, .null, [])) (y_s := (36, [some (.ref _), some (.int _)], [.ref _], _)) rfl (u_ rfl) ?_
          refine w20 (pc := 36) (len_s := 3) rfl ?_
          refine w_t (pc := 39) (e_s := (0, 2, 0, 0, 0, .int 9, [])) (y_s := (41, [some (.ref _), some (.int _)], [.int _, .int _], _)) rfl (u_ rfl) ?_
          refine wi1 (pc := 41) (len_s := 3) (Y := 9) rfl rfl (by decide) (fun c5_s => ?_) (fun c5_s => ?_)
          · replace t_s := t_s.1 c5_s
            refine w_t (pc := 44) (e_s := (0, 1, 0, 0, 0, .int 0, [])) (y_s := (45, [some (.ref _), some (.int _)], [.int _], _)) rfl (u_ rfl) ?_
            refine wrI (pc := 45) (len_s := 1) rfl hk ?_
            show wF _ 43 (36, [some (.ref _), some (.int _)], [.int _], _) _
            exact wrI (pc := 36) (len_s := 1) rfl hk t_s
          · replace t_s := t_s.2 c5_s
            refine w_t (pc := 46) (e_s := (3, 1, 0, 0, 0, .null, [])) (y_s := (47, [some (.ref _), some (.int _)], [.ref _], _)) rfl (u_ rfl) ?_
            refine w_t (pc := 47) (e_s := (0, 2, 0, 0, 0, .int 9, [])) (y_s := (49, [some (.ref _), some (.int _)], [.int _, .ref _], _)) rfl (u_ rfl) ?_
            refine w_t (pc := 49) (e_s := (3, 1, 0, 0, 0, .null, [])) (y_s := (50, [some (.ref _), some (.int _)], [.ref _, .int _, .ref _], _)) rfl (u_ rfl) ?_
            refine w20 (pc := 50) (len_s := 3) rfl ?_
            refine w_t (pc := 53) (e_s := (0, 1, 0, 0, 0, .int 3, [])) (y_s := (54, [some (.ref _), some (.int _)], [.int _, .int _, .int _, .ref _], _)) rfl (u_ rfl) ?_
            refine w_t (pc := 54) (e_s := (7, 1, 0, 0, 0, .null, [])) (y_s := (55, [some (.ref _), some (.int _)], [.int (_ + _), .int _, .ref _], _)) rfl (u_ rfl) ?_
            refine w_t (pc := 55) (e_s := (31, 3, 0, 1, 0, .null, [(0, 811), (0, 780), (0, 781), (0, 777)])) (y_s := (58, [some (.ref _), some (.int _)], [.int _, .ref _], _)) rfl (u_ rfl) ?_
            refine w21 (pc := 58) (len_s := 3) rfl ?_
            refine w_t (pc := 61) (e_s := (3, 1, 0, 0, 0, .null, [])) (y_s := (62, [some (.ref _), some (.int _)], [.ref _], _)) rfl (u_ rfl) ?_
            refine w_t (pc := 62) (e_s := (0, 2, 0, 0, 0, .int 9, [])) (y_s := (64, [some (.ref _), some (.int _)], [.int _, .ref _], _)) rfl (u_ rfl) ?_
            refine w_t (pc := 64) (e_s := (3, 1, 0, 0, 0, .null, [])) (y_s := (65, [some (.ref _), some (.int _)], [.ref _, .int _, .ref _], _)) rfl (u_ rfl) ?_
            refine w20 (pc := 65) (len_s := 3) rfl ?_
            refine w_t (pc := 68) (e_s := (0, 1, 0, 0, 0, .int 1, [])) (y_s := (69, [some (.ref _), some (.int _)], [.int _, .int _, .int _, .ref _], _)) rfl (u_ rfl) ?_
            refine w_t (pc := 69) (e_s := (7, 1, 0, 0, 0, .null, [])) (y_s := (70, [some (.ref _), some (.int _)], [.int (_ + _), .int _, .ref _], _)) rfl (u_ rfl) ?_
            refine w_t (pc := 70) (e_s := (31, 3, 0, 1, 0, .null, [(0, 811), (0, 780), (0, 781), (0, 777)])) (y_s := (73, [some (.ref _), some (.int _)], [.int _, .ref _], _)) rfl (u_ rfl) ?_
            refine w21 (pc := 73) (len_s := 3) rfl ?_
            refine w_t (pc := 76) (e_s := (0, 1, 0, 0, 0, .int 1, [])) (y_s := (77, [some (.ref _), some (.int _)], [.int _], _)) rfl (u_ rfl) ?_
            refine wrI (pc := 77) (len_s := 1) rfl hk ?_
            show wF _ 43 (36, [some (.ref _), some (.int _)], [.int _], _) _
            exact wrI (pc := 36) (len_s := 1) rfl hk t_s
        · replace t_s := t_s.2 c4_s
          refine w_t (pc := 46) (e_s := (3, 1, 0, 0, 0, .null, [])) (y_s := (47, [some (.ref _), some (.int _)], [.ref _], _)) rfl (u_ rfl) ?_
          refine w_t (pc := 47) (e_s := (0, 2, 0, 0, 0, .int 9, [])) (y_s := (49, [some (.ref _), some (.int _)], [.int _, .ref _], _)) rfl (u_ rfl) ?_
          refine w_t (pc := 49) (e_s := (3, 1, 0, 0, 0, .null, [])) (y_s := (50, [some (.ref _), some (.int _)], [.ref _, .int _, .ref _], _)) rfl (u_ rfl) ?_
          refine w20 (pc := 50) (len_s := 3) rfl ?_
          refine w_t (pc := 53) (e_s := (0, 1, 0, 0, 0, .int 3, [])) (y_s := (54, [some (.ref _), some (.int _)], [.int _, .int _, .int _, .ref _], _)) rfl (u_ rfl) ?_
          refine w_t (pc := 54) (e_s := (7, 1, 0, 0, 0, .null, [])) (y_s := (55, [some (.ref _), some (.int _)], [.int (_ + _), .int _, .ref _], _)) rfl (u_ rfl) ?_
          refine w_t (pc := 55) (e_s := (31, 3, 0, 1, 0, .null, [(0, 811), (0, 780), (0, 781), (0, 777)])) (y_s := (58, [some (.ref _), some (.int _)], [.int _, .ref _], _)) rfl (u_ rfl) ?_
          refine w21 (pc := 58) (len_s := 3) rfl ?_
          refine w_t (pc := 61) (e_s := (3, 1, 0, 0, 0, .null, [])) (y_s := (62, [some (.ref _), some (.int _)], [.ref _], _)) rfl (u_ rfl) ?_
          refine w_t (pc := 62) (e_s := (0, 2, 0, 0, 0, .int 9, [])) (y_s := (64, [some (.ref _), some (.int _)], [.int _, .ref _], _)) rfl (u_ rfl) ?_
          refine w_t (pc := 64) (e_s := (3, 1, 0, 0, 0, .null, [])) (y_s := (65, [some (.ref _), some (.int _)], [.ref _, .int _, .ref _], _)) rfl (u_ rfl) ?_
          refine w20 (pc := 65) (len_s := 3) rfl ?_
          refine w_t (pc := 68) (e_s := (0, 1, 0, 0, 0, .int 1, [])) (y_s := (69, [some (.ref _), some (.int _)], [.int _, .int _, .int _, .ref _], _)) rfl (u_ rfl) ?_
          refine w_t (pc := 69) (e_s := (7, 1, 0, 0, 0, .null, [])) (y_s := (70, [some (.ref _), some (.int _)], [.int (_ + _), .int _, .ref _], _)) rfl (u_ rfl) ?_
          refine w_t (pc := 70) (e_s := (31, 3, 0, 1, 0, .null, [(0, 811), (0, 780), (0, 781), (0, 777)])) (y_s := (73, [some (.ref _), some (.int _)], [.int _, .ref _], _)) rfl (u_ rfl) ?_
          refine w21 (pc := 73) (len_s := 3) rfl ?_
          refine w_t (pc := 76) (e_s := (0, 1, 0, 0, 0, .int 1, [])) (y_s := (77, [some (.ref _), some (.int _)], [.int _], _)) rfl (u_ rfl) ?_
          refine wrI (pc := 77) (len_s := 1) rfl hk ?_
          show wF _ 43 (36, [some (.ref _), some (.int _)], [.int _], _) _
          exact wrI (pc := 36) (len_s := 1) rfl hk t_s
      · replace t_s := t_s.2 c3_s
        refine w_t (pc := 16) (e_s := (0, 1, 0, 0, 0, .int 1, [])) (y_s := (17, [some (.ref _), none], [.int _], _)) rfl (u_ rfl) ?_
        refine w_t (pc := 17) (e_s := (17, 3, 21, 0, 0, .null, [])) (y_s := (21, [some (.ref _), none], [.int _], _)) rfl (u_ rfl) ?_
        refine w_t (pc := 21) (e_s := (4, 1, 1, 0, 0, .null, [])) (y_s := (22, [some (.ref _), some (.int _)], [], _)) rfl (u_ rfl) ?_
        refine w_t (pc := 22) (e_s := (1, 1, 1, 0, 0, .null, [])) (y_s := (23, [some (.ref _), some (.int _)], [.int _], _)) rfl (u_ rfl) ?_
        refine w_t (pc := 23) (e_s := (15, 3, 44, 1, 0, .null, [])) (y_s := (44, [some (.ref _), some (.int _)], [], _)) rfl (u_ rfl) ?_
        refine w_t (pc := 44) (e_s := (0, 1, 0, 0, 0, .int 0, [])) (y_s := (45, [some (.ref _), some (.int _)], [.int _], _)) rfl (u_ rfl) ?_
        refine wrI (pc := 45) (len_s := 1) rfl hk ?_
        show wF _ 43 (36, [some (.ref _), some (.int _)], [.int _], _) _
        exact wrI (pc := 36) (len_s := 1) rfl hk t_s
    · replace t_s := t_s.2 c2_s
      refine w_t (pc := 20) (e_s := (0, 1, 0, 0, 0, .int 0, [])) (y_s := (21, [some (.ref _), none], [.int _], _)) rfl (u_ rfl) ?_
      refine w_t (pc := 21) (e_s := (4, 1, 1, 0, 0, .null, [])) (y_s := (22, [some (.ref _), some (.int _)], [], _)) rfl (u_ rfl) ?_
      refine w_t (pc := 22) (e_s := (1, 1, 1, 0, 0, .null, [])) (y_s := (23, [some (.ref _), some (.int _)], [.int _], _)) rfl (u_ rfl) ?_
      refine w_t (pc := 23) (e_s := (15, 3, 44, 1, 0, .null, [])) (y_s := (26, [some (.ref _), some (.int _)], [], _)) rfl (u_ rfl) ?_
      refine w_t (pc := 26) (e_s := (3, 1, 0, 0, 0, .null, [])) (y_s := (27, [some (.ref _), some (.int _)], [.ref _], _)) rfl (u_ rfl) ?_
      refine w20 (pc := 27) (len_s := 3) rfl ?_
      refine w_t (pc := 30) (e_s := (0, 2, 0, 0, 0, .int 9, [])) (y_s := (32, [some (.ref _), some (.int _)], [.int _, .int _], _)) rfl (u_ rfl) ?_
      refine wi1 (pc := 32) (len_s := 3) (Y := 9) rfl rfl (by decide) (fun c6_s => ?_) (fun c6_s => ?_)
      · replace t_s := t_s.1 c6_s
        refine w_t (pc := 35) (e_s := (3, 1, 0, 0, 0, .null, [])) (y_s := (36, [some (.ref _), some (.int _)], [.ref _], _)) rfl (u_ rfl) ?_
        refine w20 (pc := 36) (len_s := 3) rfl ?_
        refine w_t (pc := 39) (e_s := (0, 2, 0, 0, 0, .int 9, [])) (y_s := (41, [some (.ref _), some (.int _)], [.int _, .int _], _)) rfl (u_ rfl) ?_
        refine wi1 (pc := 41) (len_s := 3) (Y := 9) rfl rfl (by decide) (fun c7_s => ?_) (fun c7_s => ?_)
        · replace t_s := t_s.1 c7_s
          refine w_t (pc := 44) (e_s := (0, 1, 0, 0, 0, .int 0, [])) (y_s := (45, [some (.ref _), some (.int _)], [.int _], _)) rfl (u_ rfl) ?_
          refine wrI (pc := 45) (len_s := 1) rfl hk ?_
          show wF _ 43 (36, [some (.ref _), some (.int _)], [.int _], _) _
          exact wrI (pc := 36) (len_s := 1) rfl hk t_s
        · replace t_s := t_s.2 c7_s
          refine w_t (pc := 46) (e_s := (3, 1, 0, 0, 0, .null, [])) (y_s := (47, [some (.ref _), some (.int _)], [.ref _], _)) rfl (u_ rfl) ?_
          refine w_t (pc := 47) (e_s := (0, 2, 0, 0, 0, .int 9, [])) (y_s := (49, [some (.ref _), some (.int _)], [.int _, .ref _], _)) rfl (u_ rfl) ?_
          refine w_t (pc := 49) (e_s := (3, 1, 0, 0, 0, .null, [])) (y_s := (50, [some (.ref _), some (.int _)], [.ref _, .int _, .ref _], _)) rfl (u_ rfl) ?_
          refine w20 (pc := 50) (len_s := 3) rfl ?_
          refine w_t (pc := 53) (e_s := (0, 1, 0, 0, 0, .int 3, [])) (y_s := (54, [some (.ref _), some (.int _)], [.int _, .int _, .int _, .ref _], _)) rfl (u_ rfl) ?_
          refine w_t (pc := 54) (e_s := (7, 1, 0, 0, 0, .null, [])) (y_s := (55, [some (.ref _), some (.int _)], [.int (_ + _), .int _, .ref _], _)) rfl (u_ rfl) ?_
          refine w_t (pc := 55) (e_s := (31, 3, 0, 1, 0, .null, [(0, 811), (0, 780), (0, 781), (0, 777)])) (y_s := (58, [some (.ref _), some (.int _)], [.int _, .ref _], _)) rfl (u_ rfl) ?_
          refine w21 (pc := 58) (len_s := 3) rfl ?_
          refine w_t (pc := 61) (e_s := (3, 1, 0, 0, 0, .null, [])) (y_s := (62, [some (.ref _), some (.int _)], [.ref _], _)) rfl (u_ rfl) ?_
          refine w_t (pc := 62) (e_s := (0, 2, 0, 0, 0, .int 9, [])) (y_s := (64, [some (.ref _), some (.int _)], [.int _, .ref _], _)) rfl (u_ rfl) ?_
          refine w_t (pc := 64) (e_s := (3, 1, 0, 0, 0, .null, [])) (y_s := (65, [some (.ref _), some (.int _)], [.ref _, .int _, .ref _], _)) rfl (u_ rfl) ?_
          refine w20 (pc := 65) (len_s := 3) rfl ?_
          refine w_t (pc := 68) (e_s := (0, 1, 0, 0, 0, .int 1, [])) (y_s := (69, [some (.ref _), some (.int _)], [.int _, .int _, .int _, .ref _], _)) rfl (u_ rfl) ?_
          refine w_t (pc := 69) (e_s := (7, 1, 0, 0, 0, .null, [])) (y_s := (70, [some (.ref _), some (.int _)], [.int (_ + _), .int _, .ref _], _)) rfl (u_ rfl) ?_
          refine w_t (pc := 70) (e_s := (31, 3, 0, 1, 0, .null, [(0, 811), (0, 780), (0, 781), (0, 777)])) (y_s := (73, [some (.ref _), some (.int _)], [.int _, .ref _], _)) rfl (u_ rfl) ?_
          refine w21 (pc := 73) (len_s := 3) rfl ?_
          refine w_t (pc := 76) (e_s := (0, 1, 0, 0, 0, .int 1, [])) (y_s := (77, [some (.ref _), some (.int _)], [.int _], _)) rfl (u_ rfl) ?_
          refine wrI (pc := 77) (len_s := 1) rfl hk ?_
          show wF _ 43 (36, [some (.ref _), some (.int _)], [.int _], _) _
          exact wrI (pc := 36) (len_s := 1) rfl hk t_s
      · replace t_s := t_s.2 c6_s
        refine w_t (pc := 46) (e_s := (3, 1, 0, 0, 0, .null, [])) (y_s := (47, [some (.ref _), some (.int _)], [.ref _], _)) rfl (u_ rfl) ?_
        refine w_t (pc := 47) (e_s := (0, 2, 0, 0, 0, .int 9, [])) (y_s := (49, [some (.ref _), some (.int _)], [.int _, .ref _], _)) rfl (u_ rfl) ?_
        refine w_t (pc := 49) (e_s := (3, 1, 0, 0, 0, .null, [])) (y_s := (50, [some (.ref _), some (.int _)], [.ref _, .int _, .ref _], _)) rfl (u_ rfl) ?_
        refine w20 (pc := 50) (len_s := 3) rfl ?_
        refine w_t (pc := 53) (e_s := (0, 1, 0, 0, 0, .int 3, [])) (y_s := (54, [some (.ref _), some (.int _)], [.int _, .int _, .int _, .ref _], _)) rfl (u_ rfl) ?_
        refine w_t (pc := 54) (e_s := (7, 1, 0, 0, 0, .null, [])) (y_s := (55, [some (.ref _), some (.int _)], [.int (_ + _), .int _, .ref _], _)) rfl (u_ rfl) ?_
        refine w_t (pc := 55) (e_s := (31, 3, 0, 1, 0, .null, [(0, 811), (0, 780), (0, 781), (0, 777)])) (y_s := (58, [some (.ref _), some (.int _)], [.int _, .ref _], _)) rfl (u_ rfl) ?_
        refine w21 (pc := 58) (len_s := 3) rfl ?_
        refine w_t (pc := 61) (e_s := (3, 1, 0, 0, 0, .null, [])) (y_s := (62, [some (.ref _), some (.int _)], [.ref _], _)) rfl (u_ rfl) ?_
        refine w_t (pc := 62) (e_s := (0, 2, 0, 0, 0, .int 9, [])) (y_s := (64, [some (.ref _), some (.int _)], [.int _, .ref _], _)) rfl (u_ rfl) ?_
        refine w_t (pc := 64) (e_s := (3, 1, 0, 0, 0, .null, [])) (y_s := (65, [some (.ref _), some (.int _)], [.ref _, .int _, .ref _], _)) rfl (u_ rfl) ?_
        refine w20 (pc := 65) (len_s := 3) rfl ?_
        refine w_t (pc := 68) (e_s := (0, 1, 0, 0, 0, .int 1, [])) (y_s := (69, [some (.ref _), some (.int _)], [.int _, .int _, .int _, .ref _], _)) rfl (u_ rfl) ?_
        refine w_t (pc := 69) (e_s := (7, 1, 0, 0, 0, .null, [])) (y_s := (70, [some (.ref _), some (.int _)], [.int (_ + _), .int _, .ref _], _)) rfl (u_ rfl) ?_
        refine w_t (pc := 70) (e_s := (31, 3, 0, 1, 0, .null, [(0, 811), (0, 780), (0, 781), (0, 777)])) (y_s := (73, [some (.ref _), some (.int _)], [.int _, .ref _], _)) rfl (u_ rfl) ?_
        refine w21 (pc := 73) (len_s := 3) rfl ?_
        refine w_t (pc := 76) (e_s := (0, 1, 0, 0, 0, .int 1, [])) (y_s := (77, [some (.ref _), some (.int _)], [.int _], _)) rfl (u_ rfl) ?_
        refine wrI (pc := 77) (len_s := 1) rfl hk ?_
        show wF _ 43 (36, [some (.ref _), some (.int _)], [.int _], _) _
        exact wrI (pc := 36) (len_s := 1) rfl hk t_s
  · replace t_s := t_s.2 c1_s
    refine wsc (X_s := 1) rfl (by decide) (fun c8_s => ?_) (fun c8_s => ?_)
    · replace t_s := t_s.1 c8_s
      refine w_t (pc := 37) (e_s := (3, 1, 0, 0, 0, .null, [])) (y_s := (38, [some (.ref _), some (.int _)], [.ref _], _)) rfl (u_ rfl) ?_
      refine w_t (pc := 38) (e_s := (3, 1, 0, 0, 0, .null, [])) (y_s := (39, [some (.ref _), some (.int _)], [.ref _, .ref _], _)) rfl (u_ rfl) ?_
      refine w20 (pc := 39) (len_s := 3) rfl ?_
      refine w_t (pc := 42) (e_s := (0, 1, 0, 0, 0, .int 1, [])) (y_s := (43, [some (.ref _), some (.int _)], [.int _, .int _, .ref _], _)) rfl (u_ rfl) ?_
      refine w_t (pc := 43) (e_s := (7, 1, 0, 0, 0, .null, [])) (y_s := (44, [some (.ref _), some (.int _)], [.int (_ + _), .ref _], _)) rfl (u_ rfl) ?_
      refine wcI (pc := 44) (len_s := 3) rfl rfl (l := [some (.ref _), some (.int _)]) rfl ?_
      refine w_t (pc := 0) (e_s := (3, 1, 0, 0, 0, .null, [])) (y_s := (1, [some (.ref _), some (.int _)], [.ref _], _)) rfl (u_ rfl) ?_
      refine w20 (pc := 1) (len_s := 3) rfl ?_
      refine w_t (pc := 4) (e_s := (0, 1, 0, 0, 0, .int 2, [])) (y_s := (5, [some (.ref _), some (.int _)], [.int _, .int _], _)) rfl (u_ rfl) ?_
      refine wi2 (pc := 5) (len_s := 3) (Y := 2) rfl rfl (by decide) (fun c9_s => ?_) (fun c9_s => ?_)
      · replace t_s := t_s.1 c9_s
        refine w_t (pc := 17) (e_s := (0, 1, 0, 0, 0, .int 0, [])) (y_s := (18, [some (.ref _), some (.int _)], [.int _], _)) rfl (u_ rfl) ?_
        refine wrI (pc := 18) (len_s := 1) rfl hk ?_
        show wF _ 43 (47, [some (.ref _), some (.int _)], [.int _], _) _
        exact wrI (pc := 47) (len_s := 1) rfl hk t_s
      · replace t_s := t_s.2 c9_s
        refine w_t (pc := 8) (e_s := (1, 1, 1, 0, 0, .null, [])) (y_s := (9, [some (.ref _), some (.int _)], [.int _], _)) rfl (u_ rfl) ?_
        refine wq2 (pc := 9) (len_s := 3) rfl rfl (fun c10_s => ?_) (fun c10_s => ?_)
        · replace t_s := t_s.1 c10_s
          refine w_t (pc := 17) (e_s := (0, 1, 0, 0, 0, .int 0, [])) (y_s := (18, [some (.ref _), some (.int _)], [.int _], _)) rfl (u_ rfl) ?_
          refine wrI (pc := 18) (len_s := 1) rfl hk ?_
          show wF _ 43 (47, [some (.ref _), some (.int _)], [.int _], _) _
          exact wrI (pc := 47) (len_s := 1) rfl hk t_s
        · replace t_s := t_s.2 c10_s
          refine w_t (pc := 12) (e_s := (1, 1, 1, 0, 0, .null, [])) (y_s := (13, [some (.ref _), some (.int _)], [.int _], _)) rfl (u_ rfl) ?_
          refine w_t (pc := 13) (e_s := (0, 1, 0, 0, 0, .int 5, [])) (y_s := (14, [some (.ref _), some (.int _)], [.int _, .int _], _)) rfl (u_ rfl) ?_
          refine wi5 (pc := 14) (len_s := 3) (Y := 5) rfl rfl (by decide) (fun c11_s => ?_) (fun c11_s => ?_)
          · replace t_s := t_s.1 c11_s
            refine w_t (pc := 17) (e_s := (0, 1, 0, 0, 0, .int 0, [])) (y_s := (18, [some (.ref _), some (.int _)], [.int _], _)) rfl (u_ rfl) ?_
            refine wrI (pc := 18) (len_s := 1) rfl hk ?_
            show wF _ 43 (47, [some (.ref _), some (.int _)], [.int _], _) _
            exact wrI (pc := 47) (len_s := 1) rfl hk t_s
          · replace t_s := t_s.2 c11_s
            refine w_t (pc := 19) (e_s := (3, 1, 0, 0, 0, .null, [])) (y_s := (20, [some (.ref _), some (.int _)], [.ref _], _)) rfl (u_ rfl) ?_
            refine w_t (pc := 20) (e_s := (1, 1, 1, 0, 0, .null, [])) (y_s := (21, [some (.ref _), some (.int _)], [.int _, .ref _], _)) rfl (u_ rfl) ?_
            refine w21 (pc := 21) (len_s := 3) rfl ?_
            refine w_t (pc := 24) (e_s := (3, 1, 0, 0, 0, .null, [])) (y_s := (25, [some (.ref _), some (.int _)], [.ref _], _)) rfl (u_ rfl) ?_
            refine w_t (pc := 25) (e_s := (0, 1, 0, 0, 0, .int 2, [])) (y_s := (26, [some (.ref _), some (.int _)], [.int _, .ref _], _)) rfl (u_ rfl) ?_
            refine wcV (pc := 26) (len_s := 3) rfl rfl (l := [some (.ref _), some (.int _)]) rfl ?_
            refine w_t (pc := 0) (e_s := (3, 1, 0, 0, 0, .null, [])) (y_s := (1, [some (.ref _), some (.int _)], [.ref _], _)) rfl (u_ rfl) ?_
            refine w_t (pc := 1) (e_s := (0, 1, 0, 0, 0, .int 0, [])) (y_s := (2, [some (.ref _), some (.int _)], [.int _, .ref _], _)) rfl (u_ rfl) ?_
            refine w_t (pc := 2) (e_s := (3, 1, 0, 0, 0, .null, [])) (y_s := (3, [some (.ref _), some (.int _)], [.ref _, .int _, .ref _], _)) rfl (u_ rfl) ?_
            refine w20 (pc := 3) (len_s := 3) rfl ?_
            refine w_t (pc := 6) (e_s := (1, 1, 1, 0, 0, .null, [])) (y_s := (7, [some (.ref _), some (.int _)], [.int _, .int _, .int _, .ref _], _)) rfl (u_ rfl) ?_
            refine w_t (pc := 7) (e_s := (7, 1, 0, 1, 0, .null, [])) (y_s := (8, [some (.ref _), some (.int _)], [.int (_ - _), .int _, .ref _], _)) rfl (u_ rfl) ?_
            refine w_t (pc := 8) (e_s := (31, 3, 0, 0, 0, .null, [(0, 812), (0, 783), (0, 784), (0, 777)])) (y_s := (11, [some (.ref _), some (.int _)], [.int _, .ref _], _)) rfl (u_ rfl) ?_
            refine w21 (pc := 11) (len_s := 3) rfl ?_
            refine wrV (pc := 14) (len_s := 1) rfl hk ?_
            show wF _ 45 (29, [some (.ref _), some (.int _)], [], _) _
            refine w_t (pc := 29) (e_s := (0, 1, 0, 0, 0, .int 1, [])) (y_s := (30, [some (.ref _), some (.int _)], [.int _], _)) rfl (u_ rfl) ?_
            refine wrI (pc := 30) (len_s := 1) rfl hk ?_
            show wF _ 43 (47, [some (.ref _), some (.int _)], [.int _], _) _
            exact wrI (pc := 47) (len_s := 1) rfl hk t_s
    · replace t_s := t_s.2 c8_s
      refine wsc (X_s := 2) rfl (by decide) (fun c12_s => ?_) (fun c12_s => ?_)
      · replace t_s := t_s.1 c12_s
        refine w_t (pc := 48) (e_s := (3, 1, 0, 0, 0, .null, [])) (y_s := (49, [some (.ref _), some (.int _)], [.ref _], _)) rfl (u_ rfl) ?_
        refine w_t (pc := 49) (e_s := (3, 1, 0, 0, 0, .null, [])) (y_s := (50, [some (.ref _), some (.int _)], [.ref _, .ref _], _)) rfl (u_ rfl) ?_
        refine w20 (pc := 50) (len_s := 3) rfl ?_
        refine w_t (pc := 53) (e_s := (0, 1, 0, 0, 0, .int 1, [])) (y_s := (54, [some (.ref _), some (.int _)], [.int _, .int _, .ref _], _)) rfl (u_ rfl) ?_
        refine w_t (pc := 54) (e_s := (7, 1, 0, 1, 0, .null, [])) (y_s := (55, [some (.ref _), some (.int _)], [.int (_ - _), .ref _], _)) rfl (u_ rfl) ?_
        refine wcI (pc := 55) (len_s := 3) rfl rfl (l := [some (.ref _), some (.int _)]) rfl ?_
        refine w_t (pc := 0) (e_s := (3, 1, 0, 0, 0, .null, [])) (y_s := (1, [some (.ref _), some (.int _)], [.ref _], _)) rfl (u_ rfl) ?_
        refine w20 (pc := 1) (len_s := 3) rfl ?_
        refine w_t (pc := 4) (e_s := (0, 1, 0, 0, 0, .int 2, [])) (y_s := (5, [some (.ref _), some (.int _)], [.int _, .int _], _)) rfl (u_ rfl) ?_
        refine wi2 (pc := 5) (len_s := 3) (Y := 2) rfl rfl (by decide) (fun c13_s => ?_) (fun c13_s => ?_)
        · replace t_s := t_s.1 c13_s
          refine w_t (pc := 17) (e_s := (0, 1, 0, 0, 0, .int 0, [])) (y_s := (18, [some (.ref _), some (.int _)], [.int _], _)) rfl (u_ rfl) ?_
          refine wrI (pc := 18) (len_s := 1) rfl hk ?_
          show wF _ 43 (58, [some (.ref _), some (.int _)], [.int _], _) _
          exact wrI (pc := 58) (len_s := 1) rfl hk t_s
        · replace t_s := t_s.2 c13_s
          refine w_t (pc := 8) (e_s := (1, 1, 1, 0, 0, .null, [])) (y_s := (9, [some (.ref _), some (.int _)], [.int _], _)) rfl (u_ rfl) ?_
          refine wq2 (pc := 9) (len_s := 3) rfl rfl (fun c14_s => ?_) (fun c14_s => ?_)
          · replace t_s := t_s.1 c14_s
            refine w_t (pc := 17) (e_s := (0, 1, 0, 0, 0, .int 0, [])) (y_s := (18, [some (.ref _), some (.int _)], [.int _], _)) rfl (u_ rfl) ?_
            refine wrI (pc := 18) (len_s := 1) rfl hk ?_
            show wF _ 43 (58, [some (.ref _), some (.int _)], [.int _], _) _
            exact wrI (pc := 58) (len_s := 1) rfl hk t_s
          · replace t_s := t_s.2 c14_s
            refine w_t (pc := 12) (e_s := (1, 1, 1, 0, 0, .null, [])) (y_s := (13, [some (.ref _), some (.int _)], [.int _], _)) rfl (u_ rfl) ?_
            refine w_t (pc := 13) (e_s := (0, 1, 0, 0, 0, .int 5, [])) (y_s := (14, [some (.ref _), some (.int _)], [.int _, .int _], _)) rfl (u_ rfl) ?_
            refine wi5 (pc := 14) (len_s := 3) (Y := 5) rfl rfl (by decide) (fun c15_s => ?_) (fun c15_s => ?_)
            · replace t_s := t_s.1 c15_s
              refine w_t (pc := 17) (e_s := (0, 1, 0, 0, 0, .int 0, [])) (y_s := (18, [some (.ref _), some (.int _)], [.int _], _)) rfl (u_ rfl) ?_
              refine wrI (pc := 18) (len_s := 1) rfl hk ?_
              show wF _ 43 (58, [some (.ref _), some (.int _)], [.int _], _) _
              exact wrI (pc := 58) (len_s := 1) rfl hk t_s
            · replace t_s := t_s.2 c15_s
              refine w_t (pc := 19) (e_s := (3, 1, 0, 0, 0, .null, [])) (y_s := (20, [some (.ref _), some (.int _)], [.ref _], _)) rfl (u_ rfl) ?_
              refine w_t (pc := 20) (e_s := (1, 1, 1, 0, 0, .null, [])) (y_s := (21, [some (.ref _), some (.int _)], [.int _, .ref _], _)) rfl (u_ rfl) ?_
              refine w21 (pc := 21) (len_s := 3) rfl ?_
              refine w_t (pc := 24) (e_s := (3, 1, 0, 0, 0, .null, [])) (y_s := (25, [some (.ref _), some (.int _)], [.ref _], _)) rfl (u_ rfl) ?_
              refine w_t (pc := 25) (e_s := (0, 1, 0, 0, 0, .int 2, [])) (y_s := (26, [some (.ref _), some (.int _)], [.int _, .ref _], _)) rfl (u_ rfl) ?_
              refine wcV (pc := 26) (len_s := 3) rfl rfl (l := [some (.ref _), some (.int _)]) rfl ?_
              refine w_t (pc := 0) (e_s := (3, 1, 0, 0, 0, .null, [])) (y_s := (1, [some (.ref _), some (.int _)], [.ref _], _)) rfl (u_ rfl) ?_
              refine w_t (pc := 1) (e_s := (0, 1, 0, 0, 0, .int 0, [])) (y_s := (2, [some (.ref _), some (.int _)], [.int _, .ref _], _)) rfl (u_ rfl) ?_
              refine w_t (pc := 2) (e_s := (3, 1, 0, 0, 0, .null, [])) (y_s := (3, [some (.ref _), some (.int _)], [.ref _, .int _, .ref _], _)) rfl (u_ rfl) ?_
              refine w20 (pc := 3) (len_s := 3) rfl ?_
              refine w_t (pc := 6) (e_s := (1, 1, 1, 0, 0, .null, [])) (y_s := (7, [some (.ref _), some (.int _)], [.int _, .int _, .int _, .ref _], _)) rfl (u_ rfl) ?_
              refine w_t (pc := 7) (e_s := (7, 1, 0, 1, 0, .null, [])) (y_s := (8, [some (.ref _), some (.int _)], [.int (_ - _), .int _, .ref _], _)) rfl (u_ rfl) ?_
              refine w_t (pc := 8) (e_s := (31, 3, 0, 0, 0, .null, [(0, 812), (0, 783), (0, 784), (0, 777)])) (y_s := (11, [some (.ref _), some (.int _)], [.int _, .ref _], _)) rfl (u_ rfl) ?_
              refine w21 (pc := 11) (len_s := 3) rfl ?_
              refine wrV (pc := 14) (len_s := 1) rfl hk ?_
              show wF _ 45 (29, [some (.ref _), some (.int _)], [], _) _
              refine w_t (pc := 29) (e_s := (0, 1, 0, 0, 0, .int 1, [])) (y_s := (30, [some (.ref _), some (.int _)], [.int _], _)) rfl (u_ rfl) ?_
              refine wrI (pc := 30) (len_s := 1) rfl hk ?_
              show wF _ 43 (58, [some (.ref _), some (.int _)], [.int _], _) _
              exact wrI (pc := 58) (len_s := 1) rfl hk t_s
      · replace t_s := t_s.2 c12_s
        refine wsc (X_s := 3) rfl (by decide) (fun c16 => ?_) (fun c16 => ?_)
        · replace t_s := t_s.1 c16
          refine w_t (pc := 59) (e_s := (3, 1, 0, 0, 0, .null, [])) (y_s := (60, [some (.ref _), some (.int _)], [.ref _], _)) rfl (u_ rfl) ?_
          refine wcI (pc := 60) (len_s := 3) rfl rfl (l := [some (.ref _)]) rfl ?_
          refine w_t (pc := 0) (e_s := (3, 1, 0, 0, 0, .null, [])) (y_s := (1, [some (.ref _)], [.ref _], _)) rfl (u_ rfl) ?_
          refine w20 (pc := 1) (len_s := 3) rfl ?_
          refine w_t (pc := 4) (e_s := (0, 1, 0, 0, 0, .int 1, [])) (y_s := (5, [some (.ref _)], [.int _, .int _], _)) rfl (u_ rfl) ?_
          refine wi3 (pc := 5) (len_s := 3) (Y := 1) rfl rfl (by decide) (fun c17 => ?_) (fun c17 => ?_)
          · replace t_s := t_s.1 c17
            refine w_t (pc := 8) (e_s := (0, 1, 0, 0, 0, .int 0, [])) (y_s := (9, [some (.ref _)], [.int _], _)) rfl (u_ rfl) ?_
            refine wrI (pc := 9) (len_s := 1) rfl hk ?_
            show wF _ 43 (63, [some (.ref _), some (.int _)], [.int _], _) _
            exact wrI (pc := 63) (len_s := 1) rfl hk t_s
          · replace t_s := t_s.2 c17
            refine w_t (pc := 10) (e_s := (3, 1, 0, 0, 0, .null, [])) (y_s := (11, [some (.ref _)], [.ref _], _)) rfl (u_ rfl) ?_
            refine w_t (pc := 11) (e_s := (0, 1, 0, 0, 0, .int 0, [])) (y_s := (12, [some (.ref _)], [.int _, .ref _], _)) rfl (u_ rfl) ?_
            refine w_t (pc := 12) (e_s := (3, 1, 0, 0, 0, .null, [])) (y_s := (13, [some (.ref _)], [.ref _, .int _, .ref _], _)) rfl (u_ rfl) ?_
            refine w20 (pc := 13) (len_s := 3) rfl ?_
            refine w_t (pc := 16) (e_s := (0, 2, 0, 0, 0, .int 10, [])) (y_s := (18, [some (.ref _)], [.int _, .int _, .int _, .ref _], _)) rfl (u_ rfl) ?_
            refine w_t (pc := 18) (e_s := (7, 1, 0, 1, 0, .null, [])) (y_s := (19, [some (.ref _)], [.int (_ - _), .int _, .ref _], _)) rfl (u_ rfl) ?_
            refine w_t (pc := 19) (e_s := (31, 3, 0, 0, 0, .null, [(0, 812), (0, 783), (0, 784), (0, 777)])) (y_s := (22, [some (.ref _)], [.int _, .ref _], _)) rfl (u_ rfl) ?_
            refine w21 (pc := 22) (len_s := 3) rfl ?_
            refine w_t (pc := 25) (e_s := (3, 1, 0, 0, 0, .null, [])) (y_s := (26, [some (.ref _)], [.ref _], _)) rfl (u_ rfl) ?_
            refine w_t (pc := 26) (e_s := (0, 1, 0, 0, 0, .int 1, [])) (y_s := (27, [some (.ref _)], [.int _, .ref _], _)) rfl (u_ rfl) ?_
            refine wcV (pc := 27) (len_s := 3) rfl rfl (l := [some (.ref _), some (.int _)]) rfl ?_
            refine w_t (pc := 0) (e_s := (3, 1, 0, 0, 0, .null, [])) (y_s := (1, [some (.ref _), some (.int _)], [.ref _], _)) rfl (u_ rfl) ?_
            refine w_t (pc := 1) (e_s := (0, 1, 0, 0, 0, .int 0, [])) (y_s := (2, [some (.ref _), some (.int _)], [.int _, .ref _], _)) rfl (u_ rfl) ?_
            refine w_t (pc := 2) (e_s := (3, 1, 0, 0, 0, .null, [])) (y_s := (3, [some (.ref _), some (.int _)], [.ref _, .int _, .ref _], _)) rfl (u_ rfl) ?_
            refine w20 (pc := 3) (len_s := 3) rfl ?_
            refine w_t (pc := 6) (e_s := (1, 1, 1, 0, 0, .null, [])) (y_s := (7, [some (.ref _), some (.int _)], [.int _, .int _, .int _, .ref _], _)) rfl (u_ rfl) ?_
            refine w_t (pc := 7) (e_s := (7, 1, 0, 1, 0, .null, [])) (y_s := (8, [some (.ref _), some (.int _)], [.int (_ - _), .int _, .ref _], _)) rfl (u_ rfl) ?_
            refine w_t (pc := 8) (e_s := (31, 3, 0, 0, 0, .null, [(0, 812), (0, 783), (0, 784), (0, 777)])) (y_s := (11, [some (.ref _), some (.int _)], [.int _, .ref _], _)) rfl (u_ rfl) ?_
            refine w21 (pc := 11) (len_s := 3) rfl ?_
            refine wrV (pc := 14) (len_s := 1) rfl hk ?_
            show wF _ 46 (30, [some (.ref _)], [], _) _
            refine w_t (pc := 30) (e_s := (0, 1, 0, 0, 0, .int 1, [])) (y_s := (31, [some (.ref _)], [.int _], _)) rfl (u_ rfl) ?_
            refine wrI (pc := 31) (len_s := 1) rfl hk ?_
            show wF _ 43 (63, [some (.ref _), some (.int _)], [.int _], _) _
            exact wrI (pc := 63) (len_s := 1) rfl hk t_s
        · replace t_s := t_s.2 c16
          show wF _ _ (64, _, _, _) _
          refine w_t (pc := 64) (e_s := (0, 1, 0, 0, 0, .int 0, [])) (y_s := (65, [some (.ref _), some (.int _)], [.int _], _)) rfl (u_ rfl) ?_
          exact wrI (pc := 65) (len_s := 1) rfl hk t_s
/-- ColdShodModel.strikes(I)Z, from 0 on -/
theorem sg_184_0 {F_s : Nat} {x1_s : Int32} {h_s : zH} {K_s : Int32 → zH → Prop} (hk : hKn h_s) (t_s : (x1_s.toInt = 0 → (((h_s.2.1 112 4).toInt = 1 → ((0 < (h_s.2.1 112 5).toInt → K_s 0 h_s) ∧ (¬ 0 < (h_s.2.1 112 5).toInt → ((6 < (h_s.2.1 112 3).toInt → ((8 < (h_s.2.1 112 5).toInt → K_s 1 (h_s.1, zup (zup h_s.2.1 112 3 9) 112 5 9, h_s.2.2.1, h_s.2.2.2)) ∧ (¬ 8 < (h_s.2.1 112 5).toInt → K_s 1 (h_s.1, zup (zup h_s.2.1 112 3 9) 112 5 ((h_s.2.1 112 5) + 1), h_s.2.2.1, h_s.2.2.2)))) ∧ (¬ 6 < (h_s.2.1 112 3).toInt → ((8 < (h_s.2.1 112 5).toInt → K_s 1 (h_s.1, zup (zup h_s.2.1 112 3 ((h_s.2.1 112 3) + 3)) 112 5 9, h_s.2.2.1, h_s.2.2.2)) ∧ (¬ 8 < (h_s.2.1 112 5).toInt → K_s 1 (h_s.1, zup (zup h_s.2.1 112 3 ((h_s.2.1 112 3) + 3)) 112 5 ((h_s.2.1 112 5) + 1), h_s.2.2.1, h_s.2.2.2)))))))) ∧ (¬ (h_s.2.1 112 4).toInt = 1 → ((6 < (h_s.2.1 112 3).toInt → ((8 < (h_s.2.1 112 5).toInt → K_s 1 (h_s.1, zup (zup h_s.2.1 112 3 9) 112 5 9, h_s.2.2.1, h_s.2.2.2)) ∧ (¬ 8 < (h_s.2.1 112 5).toInt → K_s 1 (h_s.1, zup (zup h_s.2.1 112 3 9) 112 5 ((h_s.2.1 112 5) + 1), h_s.2.2.1, h_s.2.2.2)))) ∧ (¬ 6 < (h_s.2.1 112 3).toInt → ((8 < (h_s.2.1 112 5).toInt → K_s 1 (h_s.1, zup (zup h_s.2.1 112 3 ((h_s.2.1 112 3) + 3)) 112 5 9, h_s.2.2.1, h_s.2.2.2)) ∧ (¬ 8 < (h_s.2.1 112 5).toInt → K_s 1 (h_s.1, zup (zup h_s.2.1 112 3 ((h_s.2.1 112 3) + 3)) 112 5 ((h_s.2.1 112 5) + 1), h_s.2.2.1, h_s.2.2.2)))))))) ∧ (¬ x1_s.toInt = 0 → (x1_s.toInt = 3 → (((h_s.2.1 112 3).toInt < 1 → K_s 0 h_s) ∧ (¬ (h_s.2.1 112 3).toInt < 1 → (((h_s.2.1 112 2).toInt < 10 → K_s 1 (h_s.1, zup (zup h_s.2.1 112 3 ((h_s.2.1 112 3) - 1)) 112 2 0, h_s.2.2.1, h_s.2.2.2)) ∧ (¬ (h_s.2.1 112 2).toInt < 10 → K_s 1 (h_s.1, zup (zup h_s.2.1 112 3 ((h_s.2.1 112 3) - 1)) 112 2 ((h_s.2.1 112 2) - 10), h_s.2.2.1, h_s.2.2.2)))))) ∧ (¬ x1_s.toInt = 3 → ((x1_s.toInt = 1 → (((h_s.2.1 112 3).toInt < 2 → K_s 0 h_s) ∧ (¬ (h_s.2.1 112 3).toInt < 2 → ((((h_s.2.1 112 1) + 1).toInt < 0 → K_s 0 h_s) ∧ (¬ ((h_s.2.1 112 1) + 1).toInt < 0 → ((5 < ((h_s.2.1 112 1) + 1).toInt → K_s 0 h_s) ∧ (¬ 5 < ((h_s.2.1 112 1) + 1).toInt → K_s 1 (h_s.1, zup (zup h_s.2.1 112 3 ((h_s.2.1 112 3) - 2)) 112 1 ((h_s.2.1 112 1) + 1), h_s.2.2.1, h_s.2.2.2)))))))) ∧ (¬ x1_s.toInt = 1 → (((h_s.2.1 112 3).toInt < 2 → K_s 0 h_s) ∧ (¬ (h_s.2.1 112 3).toInt < 2 → ((((h_s.2.1 112 1) + (-1)).toInt < 0 → K_s 0 h_s) ∧ (¬ ((h_s.2.1 112 1) + (-1)).toInt < 0 → ((5 < ((h_s.2.1 112 1) + (-1)).toInt → K_s 0 h_s) ∧ (¬ 5 < ((h_s.2.1 112 1) + (-1)).toInt → K_s 1 (h_s.1, zup (zup h_s.2.1 112 3 ((h_s.2.1 112 3) - 2)) 112 1 ((h_s.2.1 112 1) + (-1)), h_s.2.2.1, h_s.2.2.2)))))))))))) : wF (F_s + 1) 184 (0, [some (.ref 102), some (.int x1_s)], [], h_s) (gI K_s) := by
  refine w_0 (pc := 0) (e_s := (1, 1, 1, 0, 0, .null, [])) (y_s := (1, [some (.ref _), some (.int _)], [.int _], _)) rfl (u_ rfl) ?_
  refine wsw (pc := 1) (len_s := 27) rfl ?_
  refine wsc (X_s := 0) rfl (by decide) (fun c1_s => ?_) (fun c1_s => ?_)
  · replace t_s := t_s.1 c1_s
    refine w_t (pc := 28) (e_s := (3, 1, 0, 0, 0, .null, [])) (y_s := (29, [some (.ref _), some (.int _)], [.ref _], _)) rfl (u_ rfl) ?_
    refine w20r (pc := 29) (len_s := 3) (q_s := 112) rfl (krq hk rfl) ?_
    refine w_t (pc := 32) (e_s := (0, 1, 0, 0, 0, .int 4, [])) (y_s := (33, [some (.ref _), some (.int _)], [.int _, .ref _], _)) rfl (u_ rfl) ?_
    refine w22 (pc := 33) (len_s := 1) rfl (hk.1 112 0 7 rfl rfl) (fun c2_s => ?_)
    refine w_t (pc := 34) (e_s := (0, 1, 0, 0, 0, .int 1, [])) (y_s := (35, [some (.ref _), some (.int _)], [.int _, .int _], _)) rfl (u_ rfl) ?_
    refine wi1 (pc := 35) (len_s := 3) (Y := 1) rfl rfl (by decide) (fun c3_s => ?_) (fun c3_s => ?_)
    · replace t_s := t_s.1 c3_s
      refine w_t (pc := 38) (e_s := (3, 1, 0, 0, 0, .null, [])) (y_s := (39, [some (.ref _), some (.int _)], [.ref _], _)) rfl (u_ rfl) ?_
      refine w20r (pc := 39) (len_s := 3) (q_s := 112) rfl (krq hk rfl) ?_
      refine w_t (pc := 42) (e_s := (0, 1, 0, 0, 0, .int 5, [])) (y_s := (43, [some (.ref _), some (.int _)], [.int _, .ref _], _)) rfl (u_ rfl) ?_
      refine w22 (pc := 43) (len_s := 1) rfl (hk.1 112 0 7 rfl rfl) (fun c4_s => ?_)
      refine wq5 (pc := 44) (len_s := 3) rfl rfl (fun c5_s => ?_) (fun c5_s => ?_)
      · replace t_s := t_s.1 c5_s
        refine w_t (pc := 47) (e_s := (0, 1, 0, 0, 0, .int 0, [])) (y_s := (48, [some (.ref _), some (.int _)], [.int _], _)) rfl (u_ rfl) ?_
        exact wrI (pc := 48) (len_s := 1) rfl hk t_s
      · replace t_s := t_s.2 c5_s
        refine w_t (pc := 49) (e_s := (3, 1, 0, 0, 0, .null, [])) (y_s := (50, [some (.ref _), some (.int _)], [.ref _], _)) rfl (u_ rfl) ?_
        refine w20r (pc := 50) (len_s := 3) (q_s := 112) rfl (krq hk rfl) ?_
        refine w_t (pc := 53) (e_s := (0, 1, 0, 0, 0, .int 3, [])) (y_s := (54, [some (.ref _), some (.int _)], [.int _, .ref _], _)) rfl (u_ rfl) ?_
        refine w_t (pc := 54) (e_s := (3, 1, 0, 0, 0, .null, [])) (y_s := (55, [some (.ref _), some (.int _)], [.ref _, .int _, .ref _], _)) rfl (u_ rfl) ?_
        refine w20r (pc := 55) (len_s := 3) (q_s := 112) rfl (krq hk rfl) ?_
        refine w_t (pc := 58) (e_s := (0, 1, 0, 0, 0, .int 3, [])) (y_s := (59, [some (.ref _), some (.int _)], [.int _, .ref _, .int _, .ref _], _)) rfl (u_ rfl) ?_
        refine w22 (pc := 59) (len_s := 1) rfl (hk.1 112 0 7 rfl rfl) (fun c6_s => ?_)
        refine w_t (pc := 60) (e_s := (0, 2, 0, 0, 0, .int 6, [])) (y_s := (62, [some (.ref _), some (.int _)], [.int _, .int _, .int _, .ref _], _)) rfl (u_ rfl) ?_
        refine wi5 (pc := 62) (len_s := 3) (Y := 6) rfl rfl (by decide) (fun c7_s => ?_) (fun c7_s => ?_)
        · replace t_s := t_s.1 c7_s
          refine w_t (pc := 65) (e_s := (0, 2, 0, 0, 0, .int 9, [])) (y_s := (67, [some (.ref _), some (.int _)], [.int _, .int _, .ref _], _)) rfl (u_ rfl) ?_
          refine w_t (pc := 67) (e_s := (17, 3, 78, 0, 0, .null, [])) (y_s := (78, [some (.ref _), some (.int _)], [.int _, .int _, .ref _], _)) rfl (u_ rfl) ?_
          refine w25 (pc := 78) (len_s := 1) rfl (hk.1 112 0 7 rfl rfl) (fun c8_s => ?_)
          refine w_t (pc := 79) (e_s := (3, 1, 0, 0, 0, .null, [])) (y_s := (80, [some (.ref _), some (.int _)], [.ref _], _)) rfl (u_ rfl) ?_
          refine w20r (pc := 80) (len_s := 3) (q_s := 112) rfl (krq hk rfl) ?_
          refine w_t (pc := 83) (e_s := (0, 1, 0, 0, 0, .int 5, [])) (y_s := (84, [some (.ref _), some (.int _)], [.int _, .ref _], _)) rfl (u_ rfl) ?_
          refine w_t (pc := 84) (e_s := (3, 1, 0, 0, 0, .null, [])) (y_s := (85, [some (.ref _), some (.int _)], [.ref _, .int _, .ref _], _)) rfl (u_ rfl) ?_
          refine w20r (pc := 85) (len_s := 3) (q_s := 112) rfl (krq hk rfl) ?_
          refine w_t (pc := 88) (e_s := (0, 1, 0, 0, 0, .int 5, [])) (y_s := (89, [some (.ref _), some (.int _)], [.int _, .ref _, .int _, .ref _], _)) rfl (u_ rfl) ?_
          refine w22 (pc := 89) (len_s := 1) rfl (hk.1 112 0 7 rfl rfl) (fun c9_s => ?_)
          refine w_t (pc := 90) (e_s := (0, 2, 0, 0, 0, .int 8, [])) (y_s := (92, [some (.ref _), some (.int _)], [.int _, .int _, .int _, .ref _], _)) rfl (u_ rfl) ?_
          refine wi5 (pc := 92) (len_s := 3) (Y := 8) rfl rfl (by decide) (fun c10_s => ?_) (fun c10_s => ?_)
          · replace t_s := t_s.1 c10_s
            refine w_t (pc := 95) (e_s := (0, 2, 0, 0, 0, .int 9, [])) (y_s := (97, [some (.ref _), some (.int _)], [.int _, .int _, .ref _], _)) rfl (u_ rfl) ?_
            refine w_t (pc := 97) (e_s := (17, 3, 108, 0, 0, .null, [])) (y_s := (108, [some (.ref _), some (.int _)], [.int _, .int _, .ref _], _)) rfl (u_ rfl) ?_
            refine w25 (pc := 108) (len_s := 1) rfl (hk.1 112 0 7 rfl rfl) (fun c11_s => ?_)
            refine w_t (pc := 109) (e_s := (0, 1, 0, 0, 0, .int 1, [])) (y_s := (110, [some (.ref _), some (.int _)], [.int _], _)) rfl (u_ rfl) ?_
            exact wrI (pc := 110) (len_s := 1) rfl hk t_s
          · replace t_s := t_s.2 c10_s
            refine w_t (pc := 100) (e_s := (3, 1, 0, 0, 0, .null, [])) (y_s := (101, [some (.ref _), some (.int _)], [.ref _, .int _, .ref _], _)) rfl (u_ rfl) ?_
            refine w20r (pc := 101) (len_s := 3) (q_s := 112) rfl (krq hk rfl) ?_
            refine w_t (pc := 104) (e_s := (0, 1, 0, 0, 0, .int 5, [])) (y_s := (105, [some (.ref _), some (.int _)], [.int _, .ref _, .int _, .ref _], _)) rfl (u_ rfl) ?_
            refine w22 (pc := 105) (len_s := 1) rfl (hk.1 112 0 7 rfl rfl) (fun c12_s => ?_)
            refine w_t (pc := 106) (e_s := (0, 1, 0, 0, 0, .int 1, [])) (y_s := (107, [some (.ref _), some (.int _)], [.int _, .int _, .int _, .ref _], _)) rfl (u_ rfl) ?_
            refine w_t (pc := 107) (e_s := (7, 1, 0, 0, 0, .null, [])) (y_s := (108, [some (.ref _), some (.int _)], [.int (_ + _), .int _, .ref _], _)) rfl (u_ rfl) ?_
            refine w25 (pc := 108) (len_s := 1) rfl (hk.1 112 0 7 rfl rfl) (fun c13_s => ?_)
            refine w_t (pc := 109) (e_s := (0, 1, 0, 0, 0, .int 1, [])) (y_s := (110, [some (.ref _), some (.int _)], [.int _], _)) rfl (u_ rfl) ?_
            exact wrI (pc := 110) (len_s := 1) rfl hk t_s
        · replace t_s := t_s.2 c7_s
          refine w_t (pc := 70) (e_s := (3, 1, 0, 0, 0, .null, [])) (y_s := (71, [some (.ref _), some (.int _)], [.ref _, .int _, .ref _], _)) rfl (u_ rfl) ?_
          refine w20r (pc := 71) (len_s := 3) (q_s := 112) rfl (krq hk rfl) ?_
          refine w_t (pc := 74) (e_s := (0, 1, 0, 0, 0, .int 3, [])) (y_s := (75, [some (.ref _), some (.int _)], [.int _, .ref _, .int _, .ref _], _)) rfl (u_ rfl) ?_
          refine w22 (pc := 75) (len_s := 1) rfl (hk.1 112 0 7 rfl rfl) (fun c14_s => ?_)
          refine w_t (pc := 76) (e_s := (0, 1, 0, 0, 0, .int 3, [])) (y_s := (77, [some (.ref _), some (.int _)], [.int _, .int _, .int _, .ref _], _)) rfl (u_ rfl) ?_
          refine w_t (pc := 77) (e_s := (7, 1, 0, 0, 0, .null, [])) (y_s := (78, [some (.ref _), some (.int _)], [.int (_ + _), .int _, .ref _], _)) rfl (u_ rfl) ?_
          refine w25 (pc := 78) (len_s := 1) rfl (hk.1 112 0 7 rfl rfl) (fun c15_s => ?_)
          refine w_t (pc := 79) (e_s := (3, 1, 0, 0, 0, .null, [])) (y_s := (80, [some (.ref _), some (.int _)], [.ref _], _)) rfl (u_ rfl) ?_
          refine w20r (pc := 80) (len_s := 3) (q_s := 112) rfl (krq hk rfl) ?_
          refine w_t (pc := 83) (e_s := (0, 1, 0, 0, 0, .int 5, [])) (y_s := (84, [some (.ref _), some (.int _)], [.int _, .ref _], _)) rfl (u_ rfl) ?_
          refine w_t (pc := 84) (e_s := (3, 1, 0, 0, 0, .null, [])) (y_s := (85, [some (.ref _), some (.int _)], [.ref _, .int _, .ref _], _)) rfl (u_ rfl) ?_
          refine w20r (pc := 85) (len_s := 3) (q_s := 112) rfl (krq hk rfl) ?_
          refine w_t (pc := 88) (e_s := (0, 1, 0, 0, 0, .int 5, [])) (y_s := (89, [some (.ref _), some (.int _)], [.int _, .ref _, .int _, .ref _], _)) rfl (u_ rfl) ?_
          refine w22 (pc := 89) (len_s := 1) rfl (hk.1 112 0 7 rfl rfl) (fun c16 => ?_)
          refine w_t (pc := 90) (e_s := (0, 2, 0, 0, 0, .int 8, [])) (y_s := (92, [some (.ref _), some (.int _)], [.int _, .int _, .int _, .ref _], _)) rfl (u_ rfl) ?_
          refine wi5 (pc := 92) (len_s := 3) (Y := 8) rfl rfl (by decide) (fun c17 => ?_) (fun c17 => ?_)
          · replace t_s := t_s.1 c17
            refine w_t (pc := 95) (e_s := (0, 2, 0, 0, 0, .int 9, [])) (y_s := (97, [some (.ref _), some (.int _)], [.int _, .int _, .ref _], _)) rfl (u_ rfl) ?_
            refine w_t (pc := 97) (e_s := (17, 3, 108, 0, 0, .null, [])) (y_s := (108, [some (.ref _), some (.int _)], [.int _, .int _, .ref _], _)) rfl (u_ rfl) ?_
            refine w25 (pc := 108) (len_s := 1) rfl (hk.1 112 0 7 rfl rfl) (fun c18_s => ?_)
            refine w_t (pc := 109) (e_s := (0, 1, 0, 0, 0, .int 1, [])) (y_s := (110, [some (.ref _), some (.int _)], [.int _], _)) rfl (u_ rfl) ?_
            exact wrI (pc := 110) (len_s := 1) rfl hk t_s
          · replace t_s := t_s.2 c17
            refine w_t (pc := 100) (e_s := (3, 1, 0, 0, 0, .null, [])) (y_s := (101, [some (.ref _), some (.int _)], [.ref _, .int _, .ref _], _)) rfl (u_ rfl) ?_
            refine w20r (pc := 101) (len_s := 3) (q_s := 112) rfl (krq hk rfl) ?_
            refine w_t (pc := 104) (e_s := (0, 1, 0, 0, 0, .int 5, [])) (y_s := (105, [some (.ref _), some (.int _)], [.int _, .ref _, .int _, .ref _], _)) rfl (u_ rfl) ?_
            refine w22 (pc := 105) (len_s := 1) rfl (hk.1 112 0 7 rfl rfl) (fun c19_s => ?_)
            refine w_t (pc := 106) (e_s := (0, 1, 0, 0, 0, .int 1, [])) (y_s := (107, [some (.ref _), some (.int _)], [.int _, .int _, .int _, .ref _], _)) rfl (u_ rfl) ?_
            refine w_t (pc := 107) (e_s := (7, 1, 0, 0, 0, .null, [])) (y_s := (108, [some (.ref _), some (.int _)], [.int (_ + _), .int _, .ref _], _)) rfl (u_ rfl) ?_
            refine w25 (pc := 108) (len_s := 1) rfl (hk.1 112 0 7 rfl rfl) (fun c20_s => ?_)
            refine w_t (pc := 109) (e_s := (0, 1, 0, 0, 0, .int 1, [])) (y_s := (110, [some (.ref _), some (.int _)], [.int _], _)) rfl (u_ rfl) ?_
            exact wrI (pc := 110) (len_s := 1) rfl hk t_s
    · replace t_s := t_s.2 c3_s
      refine w_t (pc := 49) (e_s := (3, 1, 0, 0, 0, .null, [])) (y_s := (50, [some (.ref _), some (.int _)], [.ref _], _)) rfl (u_ rfl) ?_
      refine w20r (pc := 50) (len_s := 3) (q_s := 112) rfl (krq hk rfl) ?_
      refine w_t (pc := 53) (e_s := (0, 1, 0, 0, 0, .int 3, [])) (y_s := (54, [some (.ref _), some (.int _)], [.int _, .ref _], _)) rfl (u_ rfl) ?_
      refine w_t (pc := 54) (e_s := (3, 1, 0, 0, 0, .null, [])) (y_s := (55, [some (.ref _), some (.int _)], [.ref _, .int _, .ref _], _)) rfl (u_ rfl) ?_
      refine w20r (pc := 55) (len_s := 3) (q_s := 112) rfl (krq hk rfl) ?_
      refine w_t (pc := 58) (e_s := (0, 1, 0, 0, 0, .int 3, [])) (y_s := (59, [some (.ref _), some (.int _)], [.int _, .ref _, .int _, .ref _], _)) rfl (u_ rfl) ?_
      refine w22 (pc := 59) (len_s := 1) rfl (hk.1 112 0 7 rfl rfl) (fun c21 => ?_)
      refine w_t (pc := 60) (e_s := (0, 2, 0, 0, 0, .int 6, [])) (y_s := (62, [some (.ref _), some (.int _)], [.int _, .int _, .int _, .ref _], _)) rfl (u_ rfl) ?_
      refine wi5 (pc := 62) (len_s := 3) (Y := 6) rfl rfl (by decide) (fun c22 => ?_) (fun c22 => ?_)
      · replace t_s := t_s.1 c22
        refine w_t (pc := 65) (e_s := (0, 2, 0, 0, 0, .int 9, [])) (y_s := (67, [some (.ref _), some (.int _)], [.int _, .int _, .ref _], _)) rfl (u_ rfl) ?_
        refine w_t (pc := 67) (e_s := (17, 3, 78, 0, 0, .null, [])) (y_s := (78, [some (.ref _), some (.int _)], [.int _, .int _, .ref _], _)) rfl (u_ rfl) ?_
        refine w25 (pc := 78) (len_s := 1) rfl (hk.1 112 0 7 rfl rfl) (fun c23_s => ?_)
        refine w_t (pc := 79) (e_s := (3, 1, 0, 0, 0, .null, [])) (y_s := (80, [some (.ref _), some (.int _)], [.ref _], _)) rfl (u_ rfl) ?_
        refine w20r (pc := 80) (len_s := 3) (q_s := 112) rfl (krq hk rfl) ?_
        refine w_t (pc := 83) (e_s := (0, 1, 0, 0, 0, .int 5, [])) (y_s := (84, [some (.ref _), some (.int _)], [.int _, .ref _], _)) rfl (u_ rfl) ?_
        refine w_t (pc := 84) (e_s := (3, 1, 0, 0, 0, .null, [])) (y_s := (85, [some (.ref _), some (.int _)], [.ref _, .int _, .ref _], _)) rfl (u_ rfl) ?_
        refine w20r (pc := 85) (len_s := 3) (q_s := 112) rfl (krq hk rfl) ?_
        refine w_t (pc := 88) (e_s := (0, 1, 0, 0, 0, .int 5, [])) (y_s := (89, [some (.ref _), some (.int _)], [.int _, .ref _, .int _, .ref _], _)) rfl (u_ rfl) ?_
        refine w22 (pc := 89) (len_s := 1) rfl (hk.1 112 0 7 rfl rfl) (fun c24_s => ?_)
        refine w_t (pc := 90) (e_s := (0, 2, 0, 0, 0, .int 8, [])) (y_s := (92, [some (.ref _), some (.int _)], [.int _, .int _, .int _, .ref _], _)) rfl (u_ rfl) ?_
        refine wi5 (pc := 92) (len_s := 3) (Y := 8) rfl rfl (by decide) (fun c25_s => ?_) (fun c25_s => ?_)
        · replace t_s := t_s.1 c25_s
          refine w_t (pc := 95) (e_s := (0, 2, 0, 0, 0, .int 9, [])) (y_s := (97, [some (.ref _), some (.int _)], [.int _, .int _, .ref _], _)) rfl (u_ rfl) ?_
          refine w_t (pc := 97) (e_s := (17, 3, 108, 0, 0, .null, [])) (y_s := (108, [some (.ref _), some (.int _)], [.int _, .int _, .ref _], _)) rfl (u_ rfl) ?_
          refine w25 (pc := 108) (len_s := 1) rfl (hk.1 112 0 7 rfl rfl) (fun c26 => ?_)
          refine w_t (pc := 109) (e_s := (0, 1, 0, 0, 0, .int 1, [])) (y_s := (110, [some (.ref _), some (.int _)], [.int _], _)) rfl (u_ rfl) ?_
          exact wrI (pc := 110) (len_s := 1) rfl hk t_s
        · replace t_s := t_s.2 c25_s
          refine w_t (pc := 100) (e_s := (3, 1, 0, 0, 0, .null, [])) (y_s := (101, [some (.ref _), some (.int _)], [.ref _, .int _, .ref _], _)) rfl (u_ rfl) ?_
          refine w20r (pc := 101) (len_s := 3) (q_s := 112) rfl (krq hk rfl) ?_
          refine w_t (pc := 104) (e_s := (0, 1, 0, 0, 0, .int 5, [])) (y_s := (105, [some (.ref _), some (.int _)], [.int _, .ref _, .int _, .ref _], _)) rfl (u_ rfl) ?_
          refine w22 (pc := 105) (len_s := 1) rfl (hk.1 112 0 7 rfl rfl) (fun c27_s => ?_)
          refine w_t (pc := 106) (e_s := (0, 1, 0, 0, 0, .int 1, [])) (y_s := (107, [some (.ref _), some (.int _)], [.int _, .int _, .int _, .ref _], _)) rfl (u_ rfl) ?_
          refine w_t (pc := 107) (e_s := (7, 1, 0, 0, 0, .null, [])) (y_s := (108, [some (.ref _), some (.int _)], [.int (_ + _), .int _, .ref _], _)) rfl (u_ rfl) ?_
          refine w25 (pc := 108) (len_s := 1) rfl (hk.1 112 0 7 rfl rfl) (fun c28_s => ?_)
          refine w_t (pc := 109) (e_s := (0, 1, 0, 0, 0, .int 1, [])) (y_s := (110, [some (.ref _), some (.int _)], [.int _], _)) rfl (u_ rfl) ?_
          exact wrI (pc := 110) (len_s := 1) rfl hk t_s
      · replace t_s := t_s.2 c22
        refine w_t (pc := 70) (e_s := (3, 1, 0, 0, 0, .null, [])) (y_s := (71, [some (.ref _), some (.int _)], [.ref _, .int _, .ref _], _)) rfl (u_ rfl) ?_
        refine w20r (pc := 71) (len_s := 3) (q_s := 112) rfl (krq hk rfl) ?_
        refine w_t (pc := 74) (e_s := (0, 1, 0, 0, 0, .int 3, [])) (y_s := (75, [some (.ref _), some (.int _)], [.int _, .ref _, .int _, .ref _], _)) rfl (u_ rfl) ?_
        refine w22 (pc := 75) (len_s := 1) rfl (hk.1 112 0 7 rfl rfl) (fun c29_s => ?_)
        refine w_t (pc := 76) (e_s := (0, 1, 0, 0, 0, .int 3, [])) (y_s := (77, [some (.ref _), some (.int _)], [.int _, .int _, .int _, .ref _], _)) rfl (u_ rfl) ?_
        refine w_t (pc := 77) (e_s := (7, 1, 0, 0, 0, .null, [])) (y_s := (78, [some (.ref _), some (.int _)], [.int (_ + _), .int _, .ref _], _)) rfl (u_ rfl) ?_
        refine w25 (pc := 78) (len_s := 1) rfl (hk.1 112 0 7 rfl rfl) (fun c30_s => ?_)
        refine w_t (pc := 79) (e_s := (3, 1, 0, 0, 0, .null, [])) (y_s := (80, [some (.ref _), some (.int _)], [.ref _], _)) rfl (u_ rfl) ?_
        refine w20r (pc := 80) (len_s := 3) (q_s := 112) rfl (krq hk rfl) ?_
        refine w_t (pc := 83) (e_s := (0, 1, 0, 0, 0, .int 5, [])) (y_s := (84, [some (.ref _), some (.int _)], [.int _, .ref _], _)) rfl (u_ rfl) ?_
        refine w_t (pc := 84) (e_s := (3, 1, 0, 0, 0, .null, [])) (y_s := (85, [some (.ref _), some (.int _)], [.ref _, .int _, .ref _], _)) rfl (u_ rfl) ?_
        refine w20r (pc := 85) (len_s := 3) (q_s := 112) rfl (krq hk rfl) ?_
        refine w_t (pc := 88) (e_s := (0, 1, 0, 0, 0, .int 5, [])) (y_s := (89, [some (.ref _), some (.int _)], [.int _, .ref _, .int _, .ref _], _)) rfl (u_ rfl) ?_
        refine w22 (pc := 89) (len_s := 1) rfl (hk.1 112 0 7 rfl rfl) (fun c31_s => ?_)
        refine w_t (pc := 90) (e_s := (0, 2, 0, 0, 0, .int 8, [])) (y_s := (92, [some (.ref _), some (.int _)], [.int _, .int _, .int _, .ref _], _)) rfl (u_ rfl) ?_
        refine wi5 (pc := 92) (len_s := 3) (Y := 8) rfl rfl (by decide) (fun c32_s => ?_) (fun c32_s => ?_)
        · replace t_s := t_s.1 c32_s
          refine w_t (pc := 95) (e_s := (0, 2, 0, 0, 0, .int 9, [])) (y_s := (97, [some (.ref _), some (.int _)], [.int _, .int _, .ref _], _)) rfl (u_ rfl) ?_
          refine w_t (pc := 97) (e_s := (17, 3, 108, 0, 0, .null, [])) (y_s := (108, [some (.ref _), some (.int _)], [.int _, .int _, .ref _], _)) rfl (u_ rfl) ?_
          refine w25 (pc := 108) (len_s := 1) rfl (hk.1 112 0 7 rfl rfl) (fun c33_s => ?_)
          refine w_t (pc := 109) (e_s := (0, 1, 0, 0, 0, .int 1, [])) (y_s := (110, [some (.ref _), some (.int _)], [.int _], _)) rfl (u_ rfl) ?_
          exact wrI (pc := 110) (len_s := 1) rfl hk t_s
        · replace t_s := t_s.2 c32_s
          refine w_t (pc := 100) (e_s := (3, 1, 0, 0, 0, .null, [])) (y_s := (101, [some (.ref _), some (.int _)], [.ref _, .int _, .ref _], _)) rfl (u_ rfl) ?_
          refine w20r (pc := 101) (len_s := 3) (q_s := 112) rfl (krq hk rfl) ?_
          refine w_t (pc := 104) (e_s := (0, 1, 0, 0, 0, .int 5, [])) (y_s := (105, [some (.ref _), some (.int _)], [.int _, .ref _, .int _, .ref _], _)) rfl (u_ rfl) ?_
          refine w22 (pc := 105) (len_s := 1) rfl (hk.1 112 0 7 rfl rfl) (fun c34_s => ?_)
          refine w_t (pc := 106) (e_s := (0, 1, 0, 0, 0, .int 1, [])) (y_s := (107, [some (.ref _), some (.int _)], [.int _, .int _, .int _, .ref _], _)) rfl (u_ rfl) ?_
          refine w_t (pc := 107) (e_s := (7, 1, 0, 0, 0, .null, [])) (y_s := (108, [some (.ref _), some (.int _)], [.int (_ + _), .int _, .ref _], _)) rfl (u_ rfl) ?_
          refine w25 (pc := 108) (len_s := 1) rfl (hk.1 112 0 7 rfl rfl) (fun c35_s => ?_)
          refine w_t (pc := 109) (e_s := (0, 1, 0, 0, 0, .int 1, [])) (y_s := (110, [some (.ref _), some (.int _)], [.int _], _)) rfl (u_ rfl) ?_
          exact wrI (pc := 110) (len_s := 1) rfl hk t_s
  · replace t_s := t_s.2 c1_s
    refine wsc (X_s := 3) rfl (by decide) (fun c36_s => ?_) (fun c36_s => ?_)
    · replace t_s := t_s.1 c36_s
      refine w_t (pc := 111) (e_s := (3, 1, 0, 0, 0, .null, [])) (y_s := (112, [some (.ref _), some (.int _)], [.ref _], _)) rfl (u_ rfl) ?_
      refine w20r (pc := 112) (len_s := 3) (q_s := 112) rfl (krq hk rfl) ?_
      refine w_t (pc := 115) (e_s := (0, 1, 0, 0, 0, .int 3, [])) (y_s := (116, [some (.ref _), some (.int _)], [.int _, .ref _], _)) rfl (u_ rfl) ?_
      refine w22 (pc := 116) (len_s := 1) rfl (hk.1 112 0 7 rfl rfl) (fun c37 => ?_)
      refine w_t (pc := 117) (e_s := (0, 1, 0, 0, 0, .int 1, [])) (y_s := (118, [some (.ref _), some (.int _)], [.int _, .int _], _)) rfl (u_ rfl) ?_
      refine wi3 (pc := 118) (len_s := 3) (Y := 1) rfl rfl (by decide) (fun c38 => ?_) (fun c38 => ?_)
      · replace t_s := t_s.1 c38
        refine w_t (pc := 121) (e_s := (0, 1, 0, 0, 0, .int 0, [])) (y_s := (122, [some (.ref _), some (.int _)], [.int _], _)) rfl (u_ rfl) ?_
        exact wrI (pc := 122) (len_s := 1) rfl hk t_s
      · replace t_s := t_s.2 c38
        refine w_t (pc := 123) (e_s := (3, 1, 0, 0, 0, .null, [])) (y_s := (124, [some (.ref _), some (.int _)], [.ref _], _)) rfl (u_ rfl) ?_
        refine w20r (pc := 124) (len_s := 3) (q_s := 112) rfl (krq hk rfl) ?_
        refine w_t (pc := 127) (e_s := (0, 1, 0, 0, 0, .int 3, [])) (y_s := (128, [some (.ref _), some (.int _)], [.int _, .ref _], _)) rfl (u_ rfl) ?_
        refine w_t (pc := 128) (e_s := (41, 1, 0, 0, 0, .null, [])) (y_s := (129, [some (.ref _), some (.int _)], [.int _, .ref _, .int _, .ref _], _)) rfl (u_ rfl) ?_
        refine w22 (pc := 129) (len_s := 1) rfl (hk.1 112 0 7 rfl rfl) (fun c39_s => ?_)
        refine w_t (pc := 130) (e_s := (0, 1, 0, 0, 0, .int 1, [])) (y_s := (131, [some (.ref _), some (.int _)], [.int _, .int _, .int _, .ref _], _)) rfl (u_ rfl) ?_
        refine w_t (pc := 131) (e_s := (7, 1, 0, 1, 0, .null, [])) (y_s := (132, [some (.ref _), some (.int _)], [.int (_ - _), .int _, .ref _], _)) rfl (u_ rfl) ?_
        refine w25 (pc := 132) (len_s := 1) rfl (hk.1 112 0 7 rfl rfl) (fun c40_s => ?_)
        refine w_t (pc := 133) (e_s := (3, 1, 0, 0, 0, .null, [])) (y_s := (134, [some (.ref _), some (.int _)], [.ref _], _)) rfl (u_ rfl) ?_
        refine w20r (pc := 134) (len_s := 3) (q_s := 112) rfl (krq hk rfl) ?_
        refine w_t (pc := 137) (e_s := (0, 1, 0, 0, 0, .int 2, [])) (y_s := (138, [some (.ref _), some (.int _)], [.int _, .ref _], _)) rfl (u_ rfl) ?_
        refine w_t (pc := 138) (e_s := (3, 1, 0, 0, 0, .null, [])) (y_s := (139, [some (.ref _), some (.int _)], [.ref _, .int _, .ref _], _)) rfl (u_ rfl) ?_
        refine w20r (pc := 139) (len_s := 3) (q_s := 112) rfl (krq hk rfl) ?_
        refine w_t (pc := 142) (e_s := (0, 1, 0, 0, 0, .int 2, [])) (y_s := (143, [some (.ref _), some (.int _)], [.int _, .ref _, .int _, .ref _], _)) rfl (u_ rfl) ?_
        refine w22 (pc := 143) (len_s := 1) rfl (hk.1 112 0 7 rfl rfl) (fun c41 => ?_)
        refine w_t (pc := 144) (e_s := (0, 2, 0, 0, 0, .int 10, [])) (y_s := (146, [some (.ref _), some (.int _)], [.int _, .int _, .int _, .ref _], _)) rfl (u_ rfl) ?_
        refine wi3 (pc := 146) (len_s := 3) (Y := 10) rfl rfl (by decide) (fun c42 => ?_) (fun c42 => ?_)
        · replace t_s := t_s.1 c42
          refine w_t (pc := 149) (e_s := (0, 1, 0, 0, 0, .int 0, [])) (y_s := (150, [some (.ref _), some (.int _)], [.int _, .int _, .ref _], _)) rfl (u_ rfl) ?_
          refine w_t (pc := 150) (e_s := (17, 3, 162, 0, 0, .null, [])) (y_s := (162, [some (.ref _), some (.int _)], [.int _, .int _, .ref _], _)) rfl (u_ rfl) ?_
          refine w25 (pc := 162) (len_s := 1) rfl (hk.1 112 0 7 rfl rfl) (fun c43_s => ?_)
          refine w_t (pc := 163) (e_s := (0, 1, 0, 0, 0, .int 1, [])) (y_s := (164, [some (.ref _), some (.int _)], [.int _], _)) rfl (u_ rfl) ?_
          exact wrI (pc := 164) (len_s := 1) rfl hk t_s
        · replace t_s := t_s.2 c42
          refine w_t (pc := 153) (e_s := (3, 1, 0, 0, 0, .null, [])) (y_s := (154, [some (.ref _), some (.int _)], [.ref _, .int _, .ref _], _)) rfl (u_ rfl) ?_
          refine w20r (pc := 154) (len_s := 3) (q_s := 112) rfl (krq hk rfl) ?_
          refine w_t (pc := 157) (e_s := (0, 1, 0, 0, 0, .int 2, [])) (y_s := (158, [some (.ref _), some (.int _)], [.int _, .ref _, .int _, .ref _], _)) rfl (u_ rfl) ?_
          refine w22 (pc := 158) (len_s := 1) rfl (hk.1 112 0 7 rfl rfl) (fun c44_s => ?_)
          refine w_t (pc := 159) (e_s := (0, 2, 0, 0, 0, .int 10, [])) (y_s := (161, [some (.ref _), some (.int _)], [.int _, .int _, .int _, .ref _], _)) rfl (u_ rfl) ?_
          refine w_t (pc := 161) (e_s := (7, 1, 0, 1, 0, .null, [])) (y_s := (162, [some (.ref _), some (.int _)], [.int (_ - _), .int _, .ref _], _)) rfl (u_ rfl) ?_
          refine w25 (pc := 162) (len_s := 1) rfl (hk.1 112 0 7 rfl rfl) (fun c45 => ?_)
          refine w_t (pc := 163) (e_s := (0, 1, 0, 0, 0, .int 1, [])) (y_s := (164, [some (.ref _), some (.int _)], [.int _], _)) rfl (u_ rfl) ?_
          exact wrI (pc := 164) (len_s := 1) rfl hk t_s
    · replace t_s := t_s.2 c36_s
      show wF _ _ (165, _, _, _) _
      refine w_t (pc := 165) (e_s := (3, 1, 0, 0, 0, .null, [])) (y_s := (166, [some (.ref _), some (.int _)], [.ref _], _)) rfl (u_ rfl) ?_
      refine w_t (pc := 166) (e_s := (1, 1, 1, 0, 0, .null, [])) (y_s := (167, [some (.ref _), some (.int _)], [.int _, .ref _], _)) rfl (u_ rfl) ?_
      refine w_t (pc := 167) (e_s := (0, 1, 0, 0, 0, .int 1, [])) (y_s := (168, [some (.ref _), some (.int _)], [.int _, .int _, .ref _], _)) rfl (u_ rfl) ?_
      refine wi1 (pc := 168) (len_s := 3) (Y := 1) rfl rfl (by decide) (fun c46_s => ?_) (fun c46_s => ?_)
      · replace t_s := t_s.1 c46_s
        refine w_t (pc := 171) (e_s := (0, 1, 0, 0, 0, .int 1, [])) (y_s := (172, [some (.ref _), some (.int _)], [.int _, .ref _], _)) rfl (u_ rfl) ?_
        refine w_t (pc := 172) (e_s := (17, 3, 176, 0, 0, .null, [])) (y_s := (176, [some (.ref _), some (.int _)], [.int _, .ref _], _)) rfl (u_ rfl) ?_
        refine wcI (pc := 176) (len_s := 3) rfl rfl (l := [some (.ref _), some (.int _)]) rfl ?_
        refine w_t (pc := 0) (e_s := (3, 1, 0, 0, 0, .null, [])) (y_s := (1, [some (.ref _), some (.int _)], [.ref _], _)) rfl (u_ rfl) ?_
        refine w20r (pc := 1) (len_s := 3) (q_s := 112) rfl (krq hk rfl) ?_
        refine w_t (pc := 4) (e_s := (0, 1, 0, 0, 0, .int 3, [])) (y_s := (5, [some (.ref _), some (.int _)], [.int _, .ref _], _)) rfl (u_ rfl) ?_
        refine w22 (pc := 5) (len_s := 1) rfl (hk.1 112 0 7 rfl rfl) (fun c47_s => ?_)
        refine w_t (pc := 6) (e_s := (0, 1, 0, 0, 0, .int 2, [])) (y_s := (7, [some (.ref _), some (.int _)], [.int _, .int _], _)) rfl (u_ rfl) ?_
        refine wi2 (pc := 7) (len_s := 3) (Y := 2) rfl rfl (by decide) (fun c48_s => ?_) (fun c48_s => ?_)
        · replace t_s := t_s.1 c48_s
          refine w_t (pc := 29) (e_s := (0, 1, 0, 0, 0, .int 0, [])) (y_s := (30, [some (.ref _), some (.int _)], [.int _], _)) rfl (u_ rfl) ?_
          refine wrI (pc := 30) (len_s := 1) rfl hk ?_
          show wF _ 184 (179, [some (.ref _), some (.int _)], [.int _], _) _
          exact wrI (pc := 179) (len_s := 1) rfl hk t_s
        · replace t_s := t_s.2 c48_s
          refine w_t (pc := 10) (e_s := (3, 1, 0, 0, 0, .null, [])) (y_s := (11, [some (.ref _), some (.int _)], [.ref _], _)) rfl (u_ rfl) ?_
          refine w20r (pc := 11) (len_s := 3) (q_s := 112) rfl (krq hk rfl) ?_
          refine w_t (pc := 14) (e_s := (0, 1, 0, 0, 0, .int 1, [])) (y_s := (15, [some (.ref _), some (.int _)], [.int _, .ref _], _)) rfl (u_ rfl) ?_
          refine w22 (pc := 15) (len_s := 1) rfl (hk.1 112 0 7 rfl rfl) (fun c49 => ?_)
          refine w_t (pc := 16) (e_s := (1, 1, 1, 0, 0, .null, [])) (y_s := (17, [some (.ref _), some (.int _)], [.int _, .int _], _)) rfl (u_ rfl) ?_
          refine w_t (pc := 17) (e_s := (7, 1, 0, 0, 0, .null, [])) (y_s := (18, [some (.ref _), some (.int _)], [.int (_ + _)], _)) rfl (u_ rfl) ?_
          refine w_t (pc := 18) (e_s := (10, 1, 0, 0, 0, .null, [])) (y_s := (19, [some (.ref _), some (.int _)], [.long (Int32.toInt64 _)], _)) rfl (u_ rfl) ?_
          refine w_t (pc := 19) (e_s := (0, 1, 0, 0, 0, .long 0, [])) (y_s := (20, [some (.ref _), some (.int _)], [.long _, .long _], _)) rfl (u_ rfl) ?_
          refine w_t (pc := 20) (e_s := (0, 3, 0, 0, 0, .long 5, [(0, 1063)])) (y_s := (23, [some (.ref _), some (.int _)], [.long _, .long _, .long _], _)) rfl (u_ rfl) ?_
          refine wcI (pc := 23) (len_s := 3) rfl rfl (l := [some (.long _), none, some (.long _), none, some (.long _), none]) rfl ?_
          refine w_t (pc := 0) (e_s := (2, 1, 0, 0, 0, .null, [])) (y_s := (1, [some (.long _), none, some (.long _), none, some (.long _), none], [.long _], _)) rfl (u_ rfl) ?_
          refine w_t (pc := 1) (e_s := (2, 1, 2, 0, 0, .null, [])) (y_s := (2, [some (.long _), none, some (.long _), none, some (.long _), none], [.long _, .long _], _)) rfl (u_ rfl) ?_
          refine w_t (pc := 2) (e_s := (14, 1, 0, 0, 0, .null, [])) (y_s := (3, [some (.long _), none, some (.long _), none, some (.long _), none], [.int (lg_cmp _ _)], _)) rfl (u_ rfl) ?_
          refine wl2 (pc := 3) (len_s := 3) (Y := 0) rfl (Int32.toInt_toInt64 _) (by decide) (fun c50 => ?_) (fun c50 => ?_)
          · replace t_s := t_s.1 c50
            refine w_t (pc := 17) (e_s := (0, 1, 0, 0, 0, .int 0, [])) (y_s := (18, [some (.long _), none, some (.long _), none, some (.long _), none], [.int _], _)) rfl (u_ rfl) ?_
            refine wrI (pc := 18) (len_s := 1) rfl hk ?_
            show wF _ 185 (26, [some (.ref _), some (.int _)], [.int _], _) _
            refine w_t (pc := 26) (e_s := (15, 3, 31, 1, 0, .null, [])) (y_s := (29, [some (.ref _), some (.int _)], [], _)) rfl (u_ rfl) ?_
            refine w_t (pc := 29) (e_s := (0, 1, 0, 0, 0, .int 0, [])) (y_s := (30, [some (.ref _), some (.int _)], [.int _], _)) rfl (u_ rfl) ?_
            refine wrI (pc := 30) (len_s := 1) rfl hk ?_
            show wF _ 184 (179, [some (.ref _), some (.int _)], [.int _], _) _
            exact wrI (pc := 179) (len_s := 1) rfl hk t_s
          · replace t_s := t_s.2 c50
            refine w_t (pc := 6) (e_s := (2, 1, 0, 0, 0, .null, [])) (y_s := (7, [some (.long _), none, some (.long _), none, some (.long _), none], [.long _], _)) rfl (u_ rfl) ?_
            refine w_t (pc := 7) (e_s := (2, 2, 4, 0, 0, .null, [])) (y_s := (9, [some (.long _), none, some (.long _), none, some (.long _), none], [.long _, .long _], _)) rfl (u_ rfl) ?_
            refine w_t (pc := 9) (e_s := (14, 1, 0, 0, 0, .null, [])) (y_s := (10, [some (.long _), none, some (.long _), none, some (.long _), none], [.int (lg_cmp _ _)], _)) rfl (u_ rfl) ?_
            refine wl4 (pc := 10) (len_s := 3) (Y := 5) rfl (Int32.toInt_toInt64 _) (by decide) (fun c51_s => ?_) (fun c51_s => ?_)
            · replace t_s := t_s.1 c51_s
              refine w_t (pc := 17) (e_s := (0, 1, 0, 0, 0, .int 0, [])) (y_s := (18, [some (.long _), none, some (.long _), none, some (.long _), none], [.int _], _)) rfl (u_ rfl) ?_
              refine wrI (pc := 18) (len_s := 1) rfl hk ?_
              show wF _ 185 (26, [some (.ref _), some (.int _)], [.int _], _) _
              refine w_t (pc := 26) (e_s := (15, 3, 31, 1, 0, .null, [])) (y_s := (29, [some (.ref _), some (.int _)], [], _)) rfl (u_ rfl) ?_
              refine w_t (pc := 29) (e_s := (0, 1, 0, 0, 0, .int 0, [])) (y_s := (30, [some (.ref _), some (.int _)], [.int _], _)) rfl (u_ rfl) ?_
              refine wrI (pc := 30) (len_s := 1) rfl hk ?_
              show wF _ 184 (179, [some (.ref _), some (.int _)], [.int _], _) _
              exact wrI (pc := 179) (len_s := 1) rfl hk t_s
            · replace t_s := t_s.2 c51_s
              refine w_t (pc := 13) (e_s := (0, 1, 0, 0, 0, .int 1, [])) (y_s := (14, [some (.long _), none, some (.long _), none, some (.long _), none], [.int _], _)) rfl (u_ rfl) ?_
              refine w_t (pc := 14) (e_s := (17, 3, 18, 0, 0, .null, [])) (y_s := (18, [some (.long _), none, some (.long _), none, some (.long _), none], [.int _], _)) rfl (u_ rfl) ?_
              refine wrI (pc := 18) (len_s := 1) rfl hk ?_
              show wF _ 185 (26, [some (.ref _), some (.int _)], [.int _], _) _
              refine w_t (pc := 26) (e_s := (15, 3, 31, 1, 0, .null, [])) (y_s := (31, [some (.ref _), some (.int _)], [], _)) rfl (u_ rfl) ?_
              refine w_t (pc := 31) (e_s := (3, 1, 0, 0, 0, .null, [])) (y_s := (32, [some (.ref _), some (.int _)], [.ref _], _)) rfl (u_ rfl) ?_
              refine w20r (pc := 32) (len_s := 3) (q_s := 112) rfl (krq hk rfl) ?_
              refine w_t (pc := 35) (e_s := (0, 1, 0, 0, 0, .int 3, [])) (y_s := (36, [some (.ref _), some (.int _)], [.int _, .ref _], _)) rfl (u_ rfl) ?_
              refine w_t (pc := 36) (e_s := (41, 1, 0, 0, 0, .null, [])) (y_s := (37, [some (.ref _), some (.int _)], [.int _, .ref _, .int _, .ref _], _)) rfl (u_ rfl) ?_
              refine w22 (pc := 37) (len_s := 1) rfl (hk.1 112 0 7 rfl rfl) (fun c52_s => ?_)
              refine w_t (pc := 38) (e_s := (0, 1, 0, 0, 0, .int 2, [])) (y_s := (39, [some (.ref _), some (.int _)], [.int _, .int _, .int _, .ref _], _)) rfl (u_ rfl) ?_
              refine w_t (pc := 39) (e_s := (7, 1, 0, 1, 0, .null, [])) (y_s := (40, [some (.ref _), some (.int _)], [.int (_ - _), .int _, .ref _], _)) rfl (u_ rfl) ?_
              refine w25 (pc := 40) (len_s := 1) rfl (hk.1 112 0 7 rfl rfl) (fun c53 => ?_)
              refine w_t (pc := 41) (e_s := (3, 1, 0, 0, 0, .null, [])) (y_s := (42, [some (.ref _), some (.int _)], [.ref _], _)) rfl (u_ rfl) ?_
              refine w20r (pc := 42) (len_s := 3) (q_s := 112) rfl (krq hk rfl) ?_
              refine w_t (pc := 45) (e_s := (0, 1, 0, 0, 0, .int 1, [])) (y_s := (46, [some (.ref _), some (.int _)], [.int _, .ref _], _)) rfl (u_ rfl) ?_
              refine w_t (pc := 46) (e_s := (41, 1, 0, 0, 0, .null, [])) (y_s := (47, [some (.ref _), some (.int _)], [.int _, .ref _, .int _, .ref _], _)) rfl (u_ rfl) ?_
              refine w22 (pc := 47) (len_s := 1) rfl (hk.1 112 0 7 rfl rfl) (fun c54 => ?_)
              refine w_t (pc := 48) (e_s := (1, 1, 1, 0, 0, .null, [])) (y_s := (49, [some (.ref _), some (.int _)], [.int _, .int _, .int _, .ref _], _)) rfl (u_ rfl) ?_
              refine w_t (pc := 49) (e_s := (7, 1, 0, 0, 0, .null, [])) (y_s := (50, [some (.ref _), some (.int _)], [.int (_ + _), .int _, .ref _], _)) rfl (u_ rfl) ?_
              refine w25 (pc := 50) (len_s := 1) rfl (hk.1 112 0 7 rfl rfl) (fun c55 => ?_)
              refine w_t (pc := 51) (e_s := (0, 1, 0, 0, 0, .int 1, [])) (y_s := (52, [some (.ref _), some (.int _)], [.int _], _)) rfl (u_ rfl) ?_
              refine wrI (pc := 52) (len_s := 1) rfl hk ?_
              show wF _ 184 (179, [some (.ref _), some (.int _)], [.int _], _) _
              exact wrI (pc := 179) (len_s := 1) rfl hk t_s
      · replace t_s := t_s.2 c46_s
        refine w_t (pc := 175) (e_s := (0, 1, 0, 0, 0, .int (-1), [])) (y_s := (176, [some (.ref _), some (.int _)], [.int _, .ref _], _)) rfl (u_ rfl) ?_
        refine wcI (pc := 176) (len_s := 3) rfl rfl (l := [some (.ref _), some (.int _)]) rfl ?_
        refine w_t (pc := 0) (e_s := (3, 1, 0, 0, 0, .null, [])) (y_s := (1, [some (.ref _), some (.int _)], [.ref _], _)) rfl (u_ rfl) ?_
        refine w20r (pc := 1) (len_s := 3) (q_s := 112) rfl (krq hk rfl) ?_
        refine w_t (pc := 4) (e_s := (0, 1, 0, 0, 0, .int 3, [])) (y_s := (5, [some (.ref _), some (.int _)], [.int _, .ref _], _)) rfl (u_ rfl) ?_
        refine w22 (pc := 5) (len_s := 1) rfl (hk.1 112 0 7 rfl rfl) (fun c56 => ?_)
        refine w_t (pc := 6) (e_s := (0, 1, 0, 0, 0, .int 2, [])) (y_s := (7, [some (.ref _), some (.int _)], [.int _, .int _], _)) rfl (u_ rfl) ?_
        refine wi2 (pc := 7) (len_s := 3) (Y := 2) rfl rfl (by decide) (fun c57 => ?_) (fun c57 => ?_)
        · replace t_s := t_s.1 c57
          refine w_t (pc := 29) (e_s := (0, 1, 0, 0, 0, .int 0, [])) (y_s := (30, [some (.ref _), some (.int _)], [.int _], _)) rfl (u_ rfl) ?_
          refine wrI (pc := 30) (len_s := 1) rfl hk ?_
          show wF _ 184 (179, [some (.ref _), some (.int _)], [.int _], _) _
          exact wrI (pc := 179) (len_s := 1) rfl hk t_s
        · replace t_s := t_s.2 c57
          refine w_t (pc := 10) (e_s := (3, 1, 0, 0, 0, .null, [])) (y_s := (11, [some (.ref _), some (.int _)], [.ref _], _)) rfl (u_ rfl) ?_
          refine w20r (pc := 11) (len_s := 3) (q_s := 112) rfl (krq hk rfl) ?_
          refine w_t (pc := 14) (e_s := (0, 1, 0, 0, 0, .int 1, [])) (y_s := (15, [some (.ref _), some (.int _)], [.int _, .ref _], _)) rfl (u_ rfl) ?_
          refine w22 (pc := 15) (len_s := 1) rfl (hk.1 112 0 7 rfl rfl) (fun c58 => ?_)
          refine w_t (pc := 16) (e_s := (1, 1, 1, 0, 0, .null, [])) (y_s := (17, [some (.ref _), some (.int _)], [.int _, .int _], _)) rfl (u_ rfl) ?_
          refine w_t (pc := 17) (e_s := (7, 1, 0, 0, 0, .null, [])) (y_s := (18, [some (.ref _), some (.int _)], [.int (_ + _)], _)) rfl (u_ rfl) ?_
          refine w_t (pc := 18) (e_s := (10, 1, 0, 0, 0, .null, [])) (y_s := (19, [some (.ref _), some (.int _)], [.long (Int32.toInt64 _)], _)) rfl (u_ rfl) ?_
          refine w_t (pc := 19) (e_s := (0, 1, 0, 0, 0, .long 0, [])) (y_s := (20, [some (.ref _), some (.int _)], [.long _, .long _], _)) rfl (u_ rfl) ?_
          refine w_t (pc := 20) (e_s := (0, 3, 0, 0, 0, .long 5, [(0, 1063)])) (y_s := (23, [some (.ref _), some (.int _)], [.long _, .long _, .long _], _)) rfl (u_ rfl) ?_
          refine wcI (pc := 23) (len_s := 3) rfl rfl (l := [some (.long _), none, some (.long _), none, some (.long _), none]) rfl ?_
          refine w_t (pc := 0) (e_s := (2, 1, 0, 0, 0, .null, [])) (y_s := (1, [some (.long _), none, some (.long _), none, some (.long _), none], [.long _], _)) rfl (u_ rfl) ?_
          refine w_t (pc := 1) (e_s := (2, 1, 2, 0, 0, .null, [])) (y_s := (2, [some (.long _), none, some (.long _), none, some (.long _), none], [.long _, .long _], _)) rfl (u_ rfl) ?_
          refine w_t (pc := 2) (e_s := (14, 1, 0, 0, 0, .null, [])) (y_s := (3, [some (.long _), none, some (.long _), none, some (.long _), none], [.int (lg_cmp _ _)], _)) rfl (u_ rfl) ?_
          refine wl2 (pc := 3) (len_s := 3) (Y := 0) rfl (Int32.toInt_toInt64 _) (by decide) (fun c59 => ?_) (fun c59 => ?_)
          · replace t_s := t_s.1 c59
            refine w_t (pc := 17) (e_s := (0, 1, 0, 0, 0, .int 0, [])) (y_s := (18, [some (.long _), none, some (.long _), none, some (.long _), none], [.int _], _)) rfl (u_ rfl) ?_
            refine wrI (pc := 18) (len_s := 1) rfl hk ?_
            show wF _ 185 (26, [some (.ref _), some (.int _)], [.int _], _) _
            refine w_t (pc := 26) (e_s := (15, 3, 31, 1, 0, .null, [])) (y_s := (29, [some (.ref _), some (.int _)], [], _)) rfl (u_ rfl) ?_
            refine w_t (pc := 29) (e_s := (0, 1, 0, 0, 0, .int 0, [])) (y_s := (30, [some (.ref _), some (.int _)], [.int _], _)) rfl (u_ rfl) ?_
            refine wrI (pc := 30) (len_s := 1) rfl hk ?_
            show wF _ 184 (179, [some (.ref _), some (.int _)], [.int _], _) _
            exact wrI (pc := 179) (len_s := 1) rfl hk t_s
          · replace t_s := t_s.2 c59
            refine w_t (pc := 6) (e_s := (2, 1, 0, 0, 0, .null, [])) (y_s := (7, [some (.long _), none, some (.long _), none, some (.long _), none], [.long _], _)) rfl (u_ rfl) ?_
            refine w_t (pc := 7) (e_s := (2, 2, 4, 0, 0, .null, [])) (y_s := (9, [some (.long _), none, some (.long _), none, some (.long _), none], [.long _, .long _], _)) rfl (u_ rfl) ?_
            refine w_t (pc := 9) (e_s := (14, 1, 0, 0, 0, .null, [])) (y_s := (10, [some (.long _), none, some (.long _), none, some (.long _), none], [.int (lg_cmp _ _)], _)) rfl (u_ rfl) ?_
            refine wl4 (pc := 10) (len_s := 3) (Y := 5) rfl (Int32.toInt_toInt64 _) (by decide) (fun c60 => ?_) (fun c60 => ?_)
            · replace t_s := t_s.1 c60
              refine w_t (pc := 17) (e_s := (0, 1, 0, 0, 0, .int 0, [])) (y_s := (18, [some (.long _), none, some (.long _), none, some (.long _), none], [.int _], _)) rfl (u_ rfl) ?_
              refine wrI (pc := 18) (len_s := 1) rfl hk ?_
              show wF _ 185 (26, [some (.ref _), some (.int _)], [.int _], _) _
              refine w_t (pc := 26) (e_s := (15, 3, 31, 1, 0, .null, [])) (y_s := (29, [some (.ref _), some (.int _)], [], _)) rfl (u_ rfl) ?_
              refine w_t (pc := 29) (e_s := (0, 1, 0, 0, 0, .int 0, [])) (y_s := (30, [some (.ref _), some (.int _)], [.int _], _)) rfl (u_ rfl) ?_
              refine wrI (pc := 30) (len_s := 1) rfl hk ?_
              show wF _ 184 (179, [some (.ref _), some (.int _)], [.int _], _) _
              exact wrI (pc := 179) (len_s := 1) rfl hk t_s
            · replace t_s := t_s.2 c60
              refine w_t (pc := 13) (e_s := (0, 1, 0, 0, 0, .int 1, [])) (y_s := (14, [some (.long _), none, some (.long _), none, some (.long _), none], [.int _], _)) rfl (u_ rfl) ?_
              refine w_t (pc := 14) (e_s := (17, 3, 18, 0, 0, .null, [])) (y_s := (18, [some (.long _), none, some (.long _), none, some (.long _), none], [.int _], _)) rfl (u_ rfl) ?_
              refine wrI (pc := 18) (len_s := 1) rfl hk ?_
              show wF _ 185 (26, [some (.ref _), some (.int _)], [.int _], _) _
              refine w_t (pc := 26) (e_s := (15, 3, 31, 1, 0, .null, [])) (y_s := (31, [some (.ref _), some (.int _)], [], _)) rfl (u_ rfl) ?_
              refine w_t (pc := 31) (e_s := (3, 1, 0, 0, 0, .null, [])) (y_s := (32, [some (.ref _), some (.int _)], [.ref _], _)) rfl (u_ rfl) ?_
              refine w20r (pc := 32) (len_s := 3) (q_s := 112) rfl (krq hk rfl) ?_
              refine w_t (pc := 35) (e_s := (0, 1, 0, 0, 0, .int 3, [])) (y_s := (36, [some (.ref _), some (.int _)], [.int _, .ref _], _)) rfl (u_ rfl) ?_
              refine w_t (pc := 36) (e_s := (41, 1, 0, 0, 0, .null, [])) (y_s := (37, [some (.ref _), some (.int _)], [.int _, .ref _, .int _, .ref _], _)) rfl (u_ rfl) ?_
              refine w22 (pc := 37) (len_s := 1) rfl (hk.1 112 0 7 rfl rfl) (fun c61 => ?_)
              refine w_t (pc := 38) (e_s := (0, 1, 0, 0, 0, .int 2, [])) (y_s := (39, [some (.ref _), some (.int _)], [.int _, .int _, .int _, .ref _], _)) rfl (u_ rfl) ?_
              refine w_t (pc := 39) (e_s := (7, 1, 0, 1, 0, .null, [])) (y_s := (40, [some (.ref _), some (.int _)], [.int (_ - _), .int _, .ref _], _)) rfl (u_ rfl) ?_
              refine w25 (pc := 40) (len_s := 1) rfl (hk.1 112 0 7 rfl rfl) (fun c62 => ?_)
              refine w_t (pc := 41) (e_s := (3, 1, 0, 0, 0, .null, [])) (y_s := (42, [some (.ref _), some (.int _)], [.ref _], _)) rfl (u_ rfl) ?_
              refine w20r (pc := 42) (len_s := 3) (q_s := 112) rfl (krq hk rfl) ?_
              refine w_t (pc := 45) (e_s := (0, 1, 0, 0, 0, .int 1, [])) (y_s := (46, [some (.ref _), some (.int _)], [.int _, .ref _], _)) rfl (u_ rfl) ?_
              refine w_t (pc := 46) (e_s := (41, 1, 0, 0, 0, .null, [])) (y_s := (47, [some (.ref _), some (.int _)], [.int _, .ref _, .int _, .ref _], _)) rfl (u_ rfl) ?_
              refine w22 (pc := 47) (len_s := 1) rfl (hk.1 112 0 7 rfl rfl) (fun c63 => ?_)
              refine w_t (pc := 48) (e_s := (1, 1, 1, 0, 0, .null, [])) (y_s := (49, [some (.ref _), some (.int _)], [.int _, .int _, .int _, .ref _], _)) rfl (u_ rfl) ?_
              refine w_t (pc := 49) (e_s := (7, 1, 0, 0, 0, .null, [])) (y_s := (50, [some (.ref _), some (.int _)], [.int (_ + _), .int _, .ref _], _)) rfl (u_ rfl) ?_
              refine w25 (pc := 50) (len_s := 1) rfl (hk.1 112 0 7 rfl rfl) (fun c64 => ?_)
              refine w_t (pc := 51) (e_s := (0, 1, 0, 0, 0, .int 1, [])) (y_s := (52, [some (.ref _), some (.int _)], [.int _], _)) rfl (u_ rfl) ?_
              refine wrI (pc := 52) (len_s := 1) rfl hk ?_
              show wF _ 184 (179, [some (.ref _), some (.int _)], [.int _], _) _
              exact wrI (pc := 179) (len_s := 1) rfl hk t_s
/-- ColdShod.stroke(II)I, from 0 on -/
theorem sg_117_0 {F_s : Nat} {x1_s : Int32} {x2_s : Int32} {h_s : zH} {K_s : Int32 → zH → Prop} (hk : hKn h_s) (t_s : (x1_s.toInt < 0 → K_s (-1) h_s) ∧ (¬ x1_s.toInt < 0 → ((x1_s.toInt < (h_s.2.1 7 7).toInt → ((x2_s.toInt < 0 → K_s (-1) h_s) ∧ (¬ x2_s.toInt < 0 → ((3 < x2_s.toInt → K_s (-1) h_s) ∧ (¬ 3 < x2_s.toInt → (zix x1_s < 8 → wF F_s 43 (0, [some (.ref (20 + (zix x1_s))), some (.int x2_s)], [], h_s) (gI (fun v6 h6 => hKn h6 → (v6.toInt = 0 → K_s 0 (h6.1, zup h6.2.1 73 1 ((h6.2.1 73 1) + 1), h6.2.2.1, h6.2.2.2)) ∧ (¬ v6.toInt = 0 → K_s 1 (h6.1, zup h6.2.1 73 0 ((h6.2.1 73 0) + 1), h6.2.2.1, h6.2.2.2)))))))))) ∧ (¬ x1_s.toInt < (h_s.2.1 7 7).toInt → K_s (-1) h_s)))) : wF (F_s + 1) 117 (0, [some (.ref 6), some (.int x1_s), some (.int x2_s), none], [], h_s) (gI K_s) := by
  refine w_0 (pc := 0) (e_s := (3, 1, 0, 0, 0, .null, [])) (y_s := (1, [some (.ref _), some (.int _), some (.int _), none], [.ref _], _)) rfl (u_ rfl) ?_
  refine w20r (pc := 1) (len_s := 3) (q_s := 7) rfl (krq hk rfl) ?_
  refine w_t (pc := 4) (e_s := (1, 1, 1, 0, 0, .null, [])) (y_s := (5, [some (.ref _), some (.int _), some (.int _), none], [.int _, .ref _], _)) rfl (u_ rfl) ?_
  refine wcI (pc := 5) (len_s := 3) rfl rfl (l := [some (.ref _), some (.int _)]) rfl ?_
  refine w_t (pc := 0) (e_s := (1, 1, 1, 0, 0, .null, [])) (y_s := (1, [some (.ref _), some (.int _)], [.int _], _)) rfl (u_ rfl) ?_
  refine wq2 (pc := 1) (len_s := 3) rfl rfl (fun c1_s => ?_) (fun c1_s => ?_)
  · replace t_s := t_s.1 c1_s
    refine w_t (pc := 16) (e_s := (0, 1, 0, 0, 0, .int 0, [])) (y_s := (17, [some (.ref _), some (.int _)], [.int _], _)) rfl (u_ rfl) ?_
    refine wrI (pc := 17) (len_s := 1) rfl hk ?_
    show wF _ 117 (8, [some (.ref _), some (.int _), some (.int _), none], [.int _], _) _
    refine w_t (pc := 8) (e_s := (15, 3, 20, 0, 0, .null, [])) (y_s := (20, [some (.ref _), some (.int _), some (.int _), none], [], _)) rfl (u_ rfl) ?_
    refine w_t (pc := 20) (e_s := (0, 1, 0, 0, 0, .int (-1), [])) (y_s := (21, [some (.ref _), some (.int _), some (.int _), none], [.int _], _)) rfl (u_ rfl) ?_
    exact wrI (pc := 21) (len_s := 1) rfl hk t_s
  · replace t_s := t_s.2 c1_s
    refine w_t (pc := 4) (e_s := (1, 1, 1, 0, 0, .null, [])) (y_s := (5, [some (.ref _), some (.int _)], [.int _], _)) rfl (u_ rfl) ?_
    refine w_t (pc := 5) (e_s := (3, 1, 0, 0, 0, .null, [])) (y_s := (6, [some (.ref _), some (.int _)], [.ref _, .int _], _)) rfl (u_ rfl) ?_
    refine w20 (pc := 6) (len_s := 3) rfl ?_
    refine wi3 (pc := 9) (len_s := 3) rfl rfl rfl (fun c2_s => ?_) (fun c2_s => ?_)
    · replace t_s := t_s.1 c2_s
      refine w_t (pc := 12) (e_s := (0, 1, 0, 0, 0, .int 1, [])) (y_s := (13, [some (.ref _), some (.int _)], [.int _], _)) rfl (u_ rfl) ?_
      refine w_t (pc := 13) (e_s := (17, 3, 17, 0, 0, .null, [])) (y_s := (17, [some (.ref _), some (.int _)], [.int _], _)) rfl (u_ rfl) ?_
      refine wrI (pc := 17) (len_s := 1) rfl hk ?_
      show wF _ 117 (8, [some (.ref _), some (.int _), some (.int _), none], [.int _], _) _
      refine w_t (pc := 8) (e_s := (15, 3, 20, 0, 0, .null, [])) (y_s := (11, [some (.ref _), some (.int _), some (.int _), none], [], _)) rfl (u_ rfl) ?_
      refine w_t (pc := 11) (e_s := (1, 1, 2, 0, 0, .null, [])) (y_s := (12, [some (.ref _), some (.int _), some (.int _), none], [.int _], _)) rfl (u_ rfl) ?_
      refine wq2 (pc := 12) (len_s := 3) rfl rfl (fun c3_s => ?_) (fun c3_s => ?_)
      · replace t_s := t_s.1 c3_s
        refine w_t (pc := 20) (e_s := (0, 1, 0, 0, 0, .int (-1), [])) (y_s := (21, [some (.ref _), some (.int _), some (.int _), none], [.int _], _)) rfl (u_ rfl) ?_
        exact wrI (pc := 21) (len_s := 1) rfl hk t_s
      · replace t_s := t_s.2 c3_s
        refine w_t (pc := 15) (e_s := (1, 1, 2, 0, 0, .null, [])) (y_s := (16, [some (.ref _), some (.int _), some (.int _), none], [.int _], _)) rfl (u_ rfl) ?_
        refine w_t (pc := 16) (e_s := (0, 1, 0, 0, 0, .int 3, [])) (y_s := (17, [some (.ref _), some (.int _), some (.int _), none], [.int _, .int _], _)) rfl (u_ rfl) ?_
        refine wi5 (pc := 17) (len_s := 3) (Y := 3) rfl rfl (by decide) (fun c4_s => ?_) (fun c4_s => ?_)
        · replace t_s := t_s.1 c4_s
          refine w_t (pc := 20) (e_s := (0, 1, 0, 0, 0, .int (-1), [])) (y_s := (21, [some (.ref _), some (.int _), some (.int _), none], [.int _], _)) rfl (u_ rfl) ?_
          exact wrI (pc := 21) (len_s := 1) rfl hk t_s
        · replace t_s := t_s.2 c4_s
          refine w_t (pc := 22) (e_s := (3, 1, 0, 0, 0, .null, [])) (y_s := (23, [some (.ref _), some (.int _), some (.int _), none], [.ref _], _)) rfl (u_ rfl) ?_
          refine w20r (pc := 23) (len_s := 3) (q_s := 7) rfl (krq hk rfl) ?_
          refine w20r (pc := 26) (len_s := 3) (q_s := 10) rfl (krq hk rfl) ?_
          refine w_t (pc := 29) (e_s := (1, 1, 1, 0, 0, .null, [])) (y_s := (30, [some (.ref _), some (.int _), some (.int _), none], [.int _, .ref _], _)) rfl (u_ rfl) ?_
          refine w24 (g_s := fun j_ => 20 + j_) (pc := 30) (len_s := 1) hk rfl (hk.1 10 2 8 rfl rfl) kg10 (fun c5_s => ?_)
          replace t_s := t_s c5_s
          refine w_t (pc := 31) (e_s := (1, 1, 2, 0, 0, .null, [])) (y_s := (32, [some (.ref _), some (.int _), some (.int _), none], [.int _, .ref _], _)) rfl (u_ rfl) ?_
          refine wcI (pc := 32) (len_s := 3) rfl rfl (l := [some (.ref _), some (.int _)]) rfl (wmI t_s (fun v6 h6 hk t_s => ?_))
          replace t_s := t_s hk
          refine w_t (pc := 35) (e_s := (4, 1, 3, 0, 0, .null, [])) (y_s := (36, [some (.ref _), some (.int _), some (.int _), some (.int _)], [], _)) rfl (u_ rfl) ?_
          refine w_t (pc := 36) (e_s := (3, 1, 0, 0, 0, .null, [])) (y_s := (37, [some (.ref _), some (.int _), some (.int _), some (.int _)], [.ref _], _)) rfl (u_ rfl) ?_
          refine w20r (pc := 37) (len_s := 3) (q_s := 73) rfl (krq hk rfl) ?_
          refine w_t (pc := 40) (e_s := (1, 1, 3, 0, 0, .null, [])) (y_s := (41, [some (.ref _), some (.int _), some (.int _), some (.int _)], [.int _, .ref _], _)) rfl (u_ rfl) ?_
          refine wq0 (pc := 41) (len_s := 3) rfl rfl (fun c7_s => ?_) (fun c7_s => ?_)
          · replace t_s := t_s.1 c7_s
            refine w_t (pc := 48) (e_s := (0, 1, 0, 0, 0, .int 1, [])) (y_s := (49, [some (.ref _), some (.int _), some (.int _), some (.int _)], [.int _, .ref _], _)) rfl (u_ rfl) ?_
            refine w_t (pc := 49) (e_s := (41, 1, 0, 0, 0, .null, [])) (y_s := (50, [some (.ref _), some (.int _), some (.int _), some (.int _)], [.int _, .ref _, .int _, .ref _], _)) rfl (u_ rfl) ?_
            refine w22 (pc := 50) (len_s := 1) rfl (hk.1 73 0 5 rfl rfl) (fun c8_s => ?_)
            refine w_t (pc := 51) (e_s := (0, 1, 0, 0, 0, .int 1, [])) (y_s := (52, [some (.ref _), some (.int _), some (.int _), some (.int _)], [.int _, .int _, .int _, .ref _], _)) rfl (u_ rfl) ?_
            refine w_t (pc := 52) (e_s := (7, 1, 0, 0, 0, .null, [])) (y_s := (53, [some (.ref _), some (.int _), some (.int _), some (.int _)], [.int (_ + _), .int _, .ref _], _)) rfl (u_ rfl) ?_
            refine w25 (pc := 53) (len_s := 1) rfl (hk.1 73 0 5 rfl rfl) (fun c9_s => ?_)
            refine w_t (pc := 54) (e_s := (1, 1, 3, 0, 0, .null, [])) (y_s := (55, [some (.ref _), some (.int _), some (.int _), some (.int _)], [.int _], _)) rfl (u_ rfl) ?_
            refine wq0 (pc := 55) (len_s := 3) rfl rfl (fun c10_s => ?_) (fun c10_s => ?_)
            · skip
              refine w_t (pc := 62) (e_s := (0, 1, 0, 0, 0, .int 0, [])) (y_s := (63, [some (.ref _), some (.int _), some (.int _), some (.int _)], [.int _], _)) rfl (u_ rfl) ?_
              exact wrI (pc := 63) (len_s := 1) rfl hk t_s
            · exact absurd c7_s c10_s
          · replace t_s := t_s.2 c7_s
            refine w_t (pc := 44) (e_s := (0, 1, 0, 0, 0, .int 0, [])) (y_s := (45, [some (.ref _), some (.int _), some (.int _), some (.int _)], [.int _, .ref _], _)) rfl (u_ rfl) ?_
            refine w_t (pc := 45) (e_s := (17, 3, 49, 0, 0, .null, [])) (y_s := (49, [some (.ref _), some (.int _), some (.int _), some (.int _)], [.int _, .ref _], _)) rfl (u_ rfl) ?_
            refine w_t (pc := 49) (e_s := (41, 1, 0, 0, 0, .null, [])) (y_s := (50, [some (.ref _), some (.int _), some (.int _), some (.int _)], [.int _, .ref _, .int _, .ref _], _)) rfl (u_ rfl) ?_
            refine w22 (pc := 50) (len_s := 1) rfl (hk.1 73 0 5 rfl rfl) (fun c11_s => ?_)
            refine w_t (pc := 51) (e_s := (0, 1, 0, 0, 0, .int 1, [])) (y_s := (52, [some (.ref _), some (.int _), some (.int _), some (.int _)], [.int _, .int _, .int _, .ref _], _)) rfl (u_ rfl) ?_
            refine w_t (pc := 52) (e_s := (7, 1, 0, 0, 0, .null, [])) (y_s := (53, [some (.ref _), some (.int _), some (.int _), some (.int _)], [.int (_ + _), .int _, .ref _], _)) rfl (u_ rfl) ?_
            refine w25 (pc := 53) (len_s := 1) rfl (hk.1 73 0 5 rfl rfl) (fun c12_s => ?_)
            refine w_t (pc := 54) (e_s := (1, 1, 3, 0, 0, .null, [])) (y_s := (55, [some (.ref _), some (.int _), some (.int _), some (.int _)], [.int _], _)) rfl (u_ rfl) ?_
            refine wq0 (pc := 55) (len_s := 3) rfl rfl (fun c13_s => ?_) (fun c13_s => ?_)
            · exact absurd c13_s c7_s
            · skip
              refine w_t (pc := 58) (e_s := (0, 1, 0, 0, 0, .int 1, [])) (y_s := (59, [some (.ref _), some (.int _), some (.int _), some (.int _)], [.int _], _)) rfl (u_ rfl) ?_
              refine w_t (pc := 59) (e_s := (17, 3, 63, 0, 0, .null, [])) (y_s := (63, [some (.ref _), some (.int _), some (.int _), some (.int _)], [.int _], _)) rfl (u_ rfl) ?_
              exact wrI (pc := 63) (len_s := 1) rfl hk t_s
    · replace t_s := t_s.2 c2_s
      refine w_t (pc := 16) (e_s := (0, 1, 0, 0, 0, .int 0, [])) (y_s := (17, [some (.ref _), some (.int _)], [.int _], _)) rfl (u_ rfl) ?_
      refine wrI (pc := 17) (len_s := 1) rfl hk ?_
      show wF _ 117 (8, [some (.ref _), some (.int _), some (.int _), none], [.int _], _) _
      refine w_t (pc := 8) (e_s := (15, 3, 20, 0, 0, .null, [])) (y_s := (20, [some (.ref _), some (.int _), some (.int _), none], [], _)) rfl (u_ rfl) ?_
      refine w_t (pc := 20) (e_s := (0, 1, 0, 0, 0, .int (-1), [])) (y_s := (21, [some (.ref _), some (.int _), some (.int _), none], [.int _], _)) rfl (u_ rfl) ?_
      exact wrI (pc := 21) (len_s := 1) rfl hk t_s
/-- ColdShodModel.stroke(II)I, from 0 on -/
theorem sg_211_0 {F_s : Nat} {x1_s : Int32} {x2_s : Int32} {h_s : zH} {K_s : Int32 → zH → Prop} (hk : hKn h_s) (t_s : (x1_s.toInt < 0 → K_s (-1) h_s) ∧ (¬ x1_s.toInt < 0 → ((((h_s.2.1 102 7) - 1).toInt < x1_s.toInt → K_s (-1) h_s) ∧ (¬ ((h_s.2.1 102 7) - 1).toInt < x1_s.toInt → ((x2_s.toInt < 0 → K_s (-1) h_s) ∧ (¬ x2_s.toInt < 0 → ((3 < x2_s.toInt → K_s (-1) h_s) ∧ (¬ 3 < x2_s.toInt → wF F_s 178 (0, [some (.ref 102), some (.int x1_s), none], [], h_s) (gV (fun h5 => hKn h5 → wF F_s 184 (0, [some (.ref 102), some (.int x2_s)], [], h5) (gI (fun v6 h6 => hKn h6 → wF F_s 210 (0, [some (.ref 102), some (.int x1_s), none], [], h6) (gV (fun h7 => hKn h7 → (v6.toInt = 0 → K_s 0 (h7.1, zup h7.2.1 119 1 ((h7.2.1 119 1) + 1), h7.2.2.1, h7.2.2.2)) ∧ (¬ v6.toInt = 0 → K_s 1 (h7.1, zup h7.2.1 119 0 ((h7.2.1 119 0) + 1), h7.2.2.1, h7.2.2.2)))))))))))))))) : wF (F_s + 1) 211 (0, [some (.ref 102), some (.int x1_s), some (.int x2_s), none], [], h_s) (gI K_s) := by
  refine w_0 (pc := 0) (e_s := (3, 1, 0, 0, 0, .null, [])) (y_s := (1, [some (.ref _), some (.int _), some (.int _), none], [.ref _], _)) rfl (u_ rfl) ?_
  refine w_t (pc := 1) (e_s := (1, 1, 1, 0, 0, .null, [])) (y_s := (2, [some (.ref _), some (.int _), some (.int _), none], [.int _, .ref _], _)) rfl (u_ rfl) ?_
  refine w_t (pc := 2) (e_s := (10, 1, 0, 0, 0, .null, [])) (y_s := (3, [some (.ref _), some (.int _), some (.int _), none], [.long (Int32.toInt64 _), .ref _], _)) rfl (u_ rfl) ?_
  refine wcI (pc := 3) (len_s := 3) rfl rfl (l := [some (.ref _), some (.long _), none]) rfl ?_
  refine w_t (pc := 0) (e_s := (2, 1, 1, 0, 0, .null, [])) (y_s := (1, [some (.ref _), some (.long _), none], [.long _], _)) rfl (u_ rfl) ?_
  refine w_t (pc := 1) (e_s := (0, 1, 0, 0, 0, .long 0, [])) (y_s := (2, [some (.ref _), some (.long _), none], [.long _, .long _], _)) rfl (u_ rfl) ?_
  refine w_t (pc := 2) (e_s := (3, 1, 0, 0, 0, .null, [])) (y_s := (3, [some (.ref _), some (.long _), none], [.ref _, .long _, .long _], _)) rfl (u_ rfl) ?_
  refine w20 (pc := 3) (len_s := 3) rfl ?_
  refine w_t (pc := 6) (e_s := (0, 1, 0, 0, 0, .int 1, [])) (y_s := (7, [some (.ref _), some (.long _), none], [.int _, .int _, .long _, .long _], _)) rfl (u_ rfl) ?_
  refine w_t (pc := 7) (e_s := (7, 1, 0, 1, 0, .null, [])) (y_s := (8, [some (.ref _), some (.long _), none], [.int (_ - _), .long _, .long _], _)) rfl (u_ rfl) ?_
  refine w_t (pc := 8) (e_s := (10, 1, 0, 0, 0, .null, [])) (y_s := (9, [some (.ref _), some (.long _), none], [.long (Int32.toInt64 _), .long _, .long _], _)) rfl (u_ rfl) ?_
  refine wcI (pc := 9) (len_s := 3) rfl rfl (l := [some (.long _), none, some (.long _), none, some (.long _), none]) rfl ?_
  refine w_t (pc := 0) (e_s := (2, 1, 0, 0, 0, .null, [])) (y_s := (1, [some (.long _), none, some (.long _), none, some (.long _), none], [.long _], _)) rfl (u_ rfl) ?_
  refine w_t (pc := 1) (e_s := (2, 1, 2, 0, 0, .null, [])) (y_s := (2, [some (.long _), none, some (.long _), none, some (.long _), none], [.long _, .long _], _)) rfl (u_ rfl) ?_
  refine w_t (pc := 2) (e_s := (14, 1, 0, 0, 0, .null, [])) (y_s := (3, [some (.long _), none, some (.long _), none, some (.long _), none], [.int (lg_cmp _ _)], _)) rfl (u_ rfl) ?_
  refine wl2 (pc := 3) (len_s := 3) (Y := 0) rfl (Int32.toInt_toInt64 _) (by decide) (fun c1_s => ?_) (fun c1_s => ?_)
  · replace t_s := t_s.1 c1_s
    refine w_t (pc := 17) (e_s := (0, 1, 0, 0, 0, .int 0, [])) (y_s := (18, [some (.long _), none, some (.long _), none, some (.long _), none], [.int _], _)) rfl (u_ rfl) ?_
    refine wrI (pc := 18) (len_s := 1) rfl hk ?_
    show wF _ 152 (12, [some (.ref _), some (.long _), none], [.int _], _) _
    refine wrI (pc := 12) (len_s := 1) rfl hk ?_
    show wF _ 211 (6, [some (.ref _), some (.int _), some (.int _), none], [.int _], _) _
    refine w_t (pc := 6) (e_s := (15, 3, 21, 0, 0, .null, [])) (y_s := (21, [some (.ref _), some (.int _), some (.int _), none], [], _)) rfl (u_ rfl) ?_
    refine w_t (pc := 21) (e_s := (0, 1, 0, 0, 0, .int (-1), [])) (y_s := (22, [some (.ref _), some (.int _), some (.int _), none], [.int _], _)) rfl (u_ rfl) ?_
    exact wrI (pc := 22) (len_s := 1) rfl hk t_s
  · replace t_s := t_s.2 c1_s
    refine w_t (pc := 6) (e_s := (2, 1, 0, 0, 0, .null, [])) (y_s := (7, [some (.long _), none, some (.long _), none, some (.long _), none], [.long _], _)) rfl (u_ rfl) ?_
    refine w_t (pc := 7) (e_s := (2, 2, 4, 0, 0, .null, [])) (y_s := (9, [some (.long _), none, some (.long _), none, some (.long _), none], [.long _, .long _], _)) rfl (u_ rfl) ?_
    refine w_t (pc := 9) (e_s := (14, 1, 0, 0, 0, .null, [])) (y_s := (10, [some (.long _), none, some (.long _), none, some (.long _), none], [.int (lg_cmp _ _)], _)) rfl (u_ rfl) ?_
    refine wl4 (pc := 10) (len_s := 3) rfl (Int32.toInt_toInt64 _) (Int32.toInt_toInt64 _) (fun c2_s => ?_) (fun c2_s => ?_)
    · replace t_s := t_s.1 c2_s
      refine w_t (pc := 17) (e_s := (0, 1, 0, 0, 0, .int 0, [])) (y_s := (18, [some (.long _), none, some (.long _), none, some (.long _), none], [.int _], _)) rfl (u_ rfl) ?_
      refine wrI (pc := 18) (len_s := 1) rfl hk ?_
      show wF _ 152 (12, [some (.ref _), some (.long _), none], [.int _], _) _
      refine wrI (pc := 12) (len_s := 1) rfl hk ?_
      show wF _ 211 (6, [some (.ref _), some (.int _), some (.int _), none], [.int _], _) _
      refine w_t (pc := 6) (e_s := (15, 3, 21, 0, 0, .null, [])) (y_s := (21, [some (.ref _), some (.int _), some (.int _), none], [], _)) rfl (u_ rfl) ?_
      refine w_t (pc := 21) (e_s := (0, 1, 0, 0, 0, .int (-1), [])) (y_s := (22, [some (.ref _), some (.int _), some (.int _), none], [.int _], _)) rfl (u_ rfl) ?_
      exact wrI (pc := 22) (len_s := 1) rfl hk t_s
    · replace t_s := t_s.2 c2_s
      refine w_t (pc := 13) (e_s := (0, 1, 0, 0, 0, .int 1, [])) (y_s := (14, [some (.long _), none, some (.long _), none, some (.long _), none], [.int _], _)) rfl (u_ rfl) ?_
      refine w_t (pc := 14) (e_s := (17, 3, 18, 0, 0, .null, [])) (y_s := (18, [some (.long _), none, some (.long _), none, some (.long _), none], [.int _], _)) rfl (u_ rfl) ?_
      refine wrI (pc := 18) (len_s := 1) rfl hk ?_
      show wF _ 152 (12, [some (.ref _), some (.long _), none], [.int _], _) _
      refine wrI (pc := 12) (len_s := 1) rfl hk ?_
      show wF _ 211 (6, [some (.ref _), some (.int _), some (.int _), none], [.int _], _) _
      refine w_t (pc := 6) (e_s := (15, 3, 21, 0, 0, .null, [])) (y_s := (9, [some (.ref _), some (.int _), some (.int _), none], [], _)) rfl (u_ rfl) ?_
      refine w_t (pc := 9) (e_s := (1, 1, 2, 0, 0, .null, [])) (y_s := (10, [some (.ref _), some (.int _), some (.int _), none], [.int _], _)) rfl (u_ rfl) ?_
      refine w_t (pc := 10) (e_s := (10, 1, 0, 0, 0, .null, [])) (y_s := (11, [some (.ref _), some (.int _), some (.int _), none], [.long (Int32.toInt64 _)], _)) rfl (u_ rfl) ?_
      refine w_t (pc := 11) (e_s := (0, 1, 0, 0, 0, .long 0, [])) (y_s := (12, [some (.ref _), some (.int _), some (.int _), none], [.long _, .long _], _)) rfl (u_ rfl) ?_
      refine w_t (pc := 12) (e_s := (0, 3, 0, 0, 0, .long 3, [(0, 1064)])) (y_s := (15, [some (.ref _), some (.int _), some (.int _), none], [.long _, .long _, .long _], _)) rfl (u_ rfl) ?_
      refine wcI (pc := 15) (len_s := 3) rfl rfl (l := [some (.long _), none, some (.long _), none, some (.long _), none]) rfl ?_
      refine w_t (pc := 0) (e_s := (2, 1, 0, 0, 0, .null, [])) (y_s := (1, [some (.long _), none, some (.long _), none, some (.long _), none], [.long _], _)) rfl (u_ rfl) ?_
      refine w_t (pc := 1) (e_s := (2, 1, 2, 0, 0, .null, [])) (y_s := (2, [some (.long _), none, some (.long _), none, some (.long _), none], [.long _, .long _], _)) rfl (u_ rfl) ?_
      refine w_t (pc := 2) (e_s := (14, 1, 0, 0, 0, .null, [])) (y_s := (3, [some (.long _), none, some (.long _), none, some (.long _), none], [.int (lg_cmp _ _)], _)) rfl (u_ rfl) ?_
      refine wl2 (pc := 3) (len_s := 3) (Y := 0) rfl (Int32.toInt_toInt64 _) (by decide) (fun c3_s => ?_) (fun c3_s => ?_)
      · replace t_s := t_s.1 c3_s
        refine w_t (pc := 17) (e_s := (0, 1, 0, 0, 0, .int 0, [])) (y_s := (18, [some (.long _), none, some (.long _), none, some (.long _), none], [.int _], _)) rfl (u_ rfl) ?_
        refine wrI (pc := 18) (len_s := 1) rfl hk ?_
        show wF _ 211 (18, [some (.ref _), some (.int _), some (.int _), none], [.int _], _) _
        refine w_t (pc := 18) (e_s := (15, 3, 23, 1, 0, .null, [])) (y_s := (21, [some (.ref _), some (.int _), some (.int _), none], [], _)) rfl (u_ rfl) ?_
        refine w_t (pc := 21) (e_s := (0, 1, 0, 0, 0, .int (-1), [])) (y_s := (22, [some (.ref _), some (.int _), some (.int _), none], [.int _], _)) rfl (u_ rfl) ?_
        exact wrI (pc := 22) (len_s := 1) rfl hk t_s
      · replace t_s := t_s.2 c3_s
        refine w_t (pc := 6) (e_s := (2, 1, 0, 0, 0, .null, [])) (y_s := (7, [some (.long _), none, some (.long _), none, some (.long _), none], [.long _], _)) rfl (u_ rfl) ?_
        refine w_t (pc := 7) (e_s := (2, 2, 4, 0, 0, .null, [])) (y_s := (9, [some (.long _), none, some (.long _), none, some (.long _), none], [.long _, .long _], _)) rfl (u_ rfl) ?_
        refine w_t (pc := 9) (e_s := (14, 1, 0, 0, 0, .null, [])) (y_s := (10, [some (.long _), none, some (.long _), none, some (.long _), none], [.int (lg_cmp _ _)], _)) rfl (u_ rfl) ?_
        refine wl4 (pc := 10) (len_s := 3) (Y := 3) rfl (Int32.toInt_toInt64 _) (by decide) (fun c4_s => ?_) (fun c4_s => ?_)
        · replace t_s := t_s.1 c4_s
          refine w_t (pc := 17) (e_s := (0, 1, 0, 0, 0, .int 0, [])) (y_s := (18, [some (.long _), none, some (.long _), none, some (.long _), none], [.int _], _)) rfl (u_ rfl) ?_
          refine wrI (pc := 18) (len_s := 1) rfl hk ?_
          show wF _ 211 (18, [some (.ref _), some (.int _), some (.int _), none], [.int _], _) _
          refine w_t (pc := 18) (e_s := (15, 3, 23, 1, 0, .null, [])) (y_s := (21, [some (.ref _), some (.int _), some (.int _), none], [], _)) rfl (u_ rfl) ?_
          refine w_t (pc := 21) (e_s := (0, 1, 0, 0, 0, .int (-1), [])) (y_s := (22, [some (.ref _), some (.int _), some (.int _), none], [.int _], _)) rfl (u_ rfl) ?_
          exact wrI (pc := 22) (len_s := 1) rfl hk t_s
        · replace t_s := t_s.2 c4_s
          refine w_t (pc := 13) (e_s := (0, 1, 0, 0, 0, .int 1, [])) (y_s := (14, [some (.long _), none, some (.long _), none, some (.long _), none], [.int _], _)) rfl (u_ rfl) ?_
          refine w_t (pc := 14) (e_s := (17, 3, 18, 0, 0, .null, [])) (y_s := (18, [some (.long _), none, some (.long _), none, some (.long _), none], [.int _], _)) rfl (u_ rfl) ?_
          refine wrI (pc := 18) (len_s := 1) rfl hk ?_
          show wF _ 211 (18, [some (.ref _), some (.int _), some (.int _), none], [.int _], _) _
          refine w_t (pc := 18) (e_s := (15, 3, 23, 1, 0, .null, [])) (y_s := (23, [some (.ref _), some (.int _), some (.int _), none], [], _)) rfl (u_ rfl) ?_
          refine w_t (pc := 23) (e_s := (3, 1, 0, 0, 0, .null, [])) (y_s := (24, [some (.ref _), some (.int _), some (.int _), none], [.ref _], _)) rfl (u_ rfl) ?_
          refine w_t (pc := 24) (e_s := (1, 1, 1, 0, 0, .null, [])) (y_s := (25, [some (.ref _), some (.int _), some (.int _), none], [.int _, .ref _], _)) rfl (u_ rfl) ?_
          refine wcV (pc := 25) (len_s := 3) rfl rfl (l := [some (.ref _), some (.int _), none]) rfl (wmV t_s (fun h5 hk t_s => ?_))
          replace t_s := t_s hk
          refine w_t (pc := 28) (e_s := (3, 1, 0, 0, 0, .null, [])) (y_s := (29, [some (.ref _), some (.int _), some (.int _), none], [.ref _], _)) rfl (u_ rfl) ?_
          refine w_t (pc := 29) (e_s := (1, 1, 2, 0, 0, .null, [])) (y_s := (30, [some (.ref _), some (.int _), some (.int _), none], [.int _, .ref _], _)) rfl (u_ rfl) ?_
          refine wcI (pc := 30) (len_s := 3) rfl rfl (l := [some (.ref _), some (.int _)]) rfl (wmI t_s (fun v6 h6 hk t_s => ?_))
          replace t_s := t_s hk
          refine w_t (pc := 33) (e_s := (4, 1, 3, 0, 0, .null, [])) (y_s := (34, [some (.ref _), some (.int _), some (.int _), some (.int _)], [], _)) rfl (u_ rfl) ?_
          refine w_t (pc := 34) (e_s := (3, 1, 0, 0, 0, .null, [])) (y_s := (35, [some (.ref _), some (.int _), some (.int _), some (.int _)], [.ref _], _)) rfl (u_ rfl) ?_
          refine w_t (pc := 35) (e_s := (1, 1, 1, 0, 0, .null, [])) (y_s := (36, [some (.ref _), some (.int _), some (.int _), some (.int _)], [.int _, .ref _], _)) rfl (u_ rfl) ?_
          refine wcV (pc := 36) (len_s := 3) rfl rfl (l := [some (.ref _), some (.int _), none]) rfl (wmV t_s (fun h7 hk t_s => ?_))
          replace t_s := t_s hk
          refine w_t (pc := 39) (e_s := (3, 1, 0, 0, 0, .null, [])) (y_s := (40, [some (.ref _), some (.int _), some (.int _), some (.int _)], [.ref _], _)) rfl (u_ rfl) ?_
          refine w20r (pc := 40) (len_s := 3) (q_s := 119) rfl (krq hk rfl) ?_
          refine w_t (pc := 43) (e_s := (1, 1, 3, 0, 0, .null, [])) (y_s := (44, [some (.ref _), some (.int _), some (.int _), some (.int _)], [.int _, .ref _], _)) rfl (u_ rfl) ?_
          refine wq0 (pc := 44) (len_s := 3) rfl rfl (fun c8_s => ?_) (fun c8_s => ?_)
          · replace t_s := t_s.1 c8_s
            refine w_t (pc := 51) (e_s := (0, 1, 0, 0, 0, .int 1, [])) (y_s := (52, [some (.ref _), some (.int _), some (.int _), some (.int _)], [.int _, .ref _], _)) rfl (u_ rfl) ?_
            refine w_t (pc := 52) (e_s := (41, 1, 0, 0, 0, .null, [])) (y_s := (53, [some (.ref _), some (.int _), some (.int _), some (.int _)], [.int _, .ref _, .int _, .ref _], _)) rfl (u_ rfl) ?_
            refine w22 (pc := 53) (len_s := 1) rfl (hk.1 119 0 5 rfl rfl) (fun c9_s => ?_)
            refine w_t (pc := 54) (e_s := (0, 1, 0, 0, 0, .int 1, [])) (y_s := (55, [some (.ref _), some (.int _), some (.int _), some (.int _)], [.int _, .int _, .int _, .ref _], _)) rfl (u_ rfl) ?_
            refine w_t (pc := 55) (e_s := (7, 1, 0, 0, 0, .null, [])) (y_s := (56, [some (.ref _), some (.int _), some (.int _), some (.int _)], [.int (_ + _), .int _, .ref _], _)) rfl (u_ rfl) ?_
            refine w25 (pc := 56) (len_s := 1) rfl (hk.1 119 0 5 rfl rfl) (fun c10_s => ?_)
            refine w_t (pc := 57) (e_s := (1, 1, 3, 0, 0, .null, [])) (y_s := (58, [some (.ref _), some (.int _), some (.int _), some (.int _)], [.int _], _)) rfl (u_ rfl) ?_
            refine wq0 (pc := 58) (len_s := 3) rfl rfl (fun c11_s => ?_) (fun c11_s => ?_)
            · skip
              refine w_t (pc := 65) (e_s := (0, 1, 0, 0, 0, .int 0, [])) (y_s := (66, [some (.ref _), some (.int _), some (.int _), some (.int _)], [.int _], _)) rfl (u_ rfl) ?_
              exact wrI (pc := 66) (len_s := 1) rfl hk t_s
            · exact absurd c8_s c11_s
          · replace t_s := t_s.2 c8_s
            refine w_t (pc := 47) (e_s := (0, 1, 0, 0, 0, .int 0, [])) (y_s := (48, [some (.ref _), some (.int _), some (.int _), some (.int _)], [.int _, .ref _], _)) rfl (u_ rfl) ?_
            refine w_t (pc := 48) (e_s := (17, 3, 52, 0, 0, .null, [])) (y_s := (52, [some (.ref _), some (.int _), some (.int _), some (.int _)], [.int _, .ref _], _)) rfl (u_ rfl) ?_
            refine w_t (pc := 52) (e_s := (41, 1, 0, 0, 0, .null, [])) (y_s := (53, [some (.ref _), some (.int _), some (.int _), some (.int _)], [.int _, .ref _, .int _, .ref _], _)) rfl (u_ rfl) ?_
            refine w22 (pc := 53) (len_s := 1) rfl (hk.1 119 0 5 rfl rfl) (fun c12_s => ?_)
            refine w_t (pc := 54) (e_s := (0, 1, 0, 0, 0, .int 1, [])) (y_s := (55, [some (.ref _), some (.int _), some (.int _), some (.int _)], [.int _, .int _, .int _, .ref _], _)) rfl (u_ rfl) ?_
            refine w_t (pc := 55) (e_s := (7, 1, 0, 0, 0, .null, [])) (y_s := (56, [some (.ref _), some (.int _), some (.int _), some (.int _)], [.int (_ + _), .int _, .ref _], _)) rfl (u_ rfl) ?_
            refine w25 (pc := 56) (len_s := 1) rfl (hk.1 119 0 5 rfl rfl) (fun c13_s => ?_)
            refine w_t (pc := 57) (e_s := (1, 1, 3, 0, 0, .null, [])) (y_s := (58, [some (.ref _), some (.int _), some (.int _), some (.int _)], [.int _], _)) rfl (u_ rfl) ?_
            refine wq0 (pc := 58) (len_s := 3) rfl rfl (fun c14_s => ?_) (fun c14_s => ?_)
            · exact absurd c14_s c8_s
            · skip
              refine w_t (pc := 61) (e_s := (0, 1, 0, 0, 0, .int 1, [])) (y_s := (62, [some (.ref _), some (.int _), some (.int _), some (.int _)], [.int _], _)) rfl (u_ rfl) ?_
              refine w_t (pc := 62) (e_s := (17, 3, 66, 0, 0, .null, [])) (y_s := (66, [some (.ref _), some (.int _), some (.int _), some (.int _)], [.int _], _)) rfl (u_ rfl) ?_
              exact wrI (pc := 66) (len_s := 1) rfl hk t_s
