/-! What ended runs give: printed by a program (wip/fun/sg.py). -/
/-- ColdShod$Country.isThere(II)Z, from 0 on -/
theorem sg_18_0 {F_s : Nat} {x1_s x2_s : Int32} {h_s : zH} {K_s : Int32 → zH → Prop} (hk : hKn h_s) (t_s : (x2_s.toInt < 0 → K_s 0 h_s) ∧ (¬ x2_s.toInt < 0 → ((14 < x2_s.toInt → K_s 0 h_s) ∧ (¬ 14 < x2_s.toInt → ((1 < x2_s.toInt → ((8 < x2_s.toInt → ((x2_s.toInt = 14 → ((x1_s.toInt < 0 → K_s 0 h_s) ∧ (¬ x1_s.toInt < 0 → ((x1_s.toInt < (h_s.2.1 7 7).toInt → K_s 1 h_s) ∧ (¬ x1_s.toInt < (h_s.2.1 7 7).toInt → K_s 0 h_s))))) ∧ (¬ x2_s.toInt = 14 → ((x1_s.toInt < 0 → K_s 0 h_s) ∧ (¬ x1_s.toInt < 0 → ((x1_s.toInt < (h_s.2.1 7 8).toInt → K_s 1 h_s) ∧ (¬ x1_s.toInt < (h_s.2.1 7 8).toInt → K_s 0 h_s))))))) ∧ (¬ 8 < x2_s.toInt → ((x1_s.toInt < 0 → K_s 0 h_s) ∧ (¬ x1_s.toInt < 0 → ((x1_s.toInt < (h_s.2.1 7 7).toInt → K_s 1 h_s) ∧ (¬ x1_s.toInt < (h_s.2.1 7 7).toInt → K_s 0 h_s))))))) ∧ (¬ 1 < x2_s.toInt → ((x1_s.toInt < 0 → K_s 0 h_s) ∧ (¬ x1_s.toInt < 0 → ((x1_s.toInt < (h_s.2.1 7 6).toInt → K_s 1 h_s) ∧ (¬ x1_s.toInt < (h_s.2.1 7 6).toInt → K_s 0 h_s)))))))))) : wF (F_s + 1) 18 (0, [some (.ref 7), some (.int x1_s), some (.int x2_s)], [], h_s) (gI K_s) := by
  refine w_0 (pc := 0) (e_s := (1, 1, 2, 0, 0, .null, [])) (y_s := (1, [some (.ref _), some (.int _), some (.int _)], [.int _], _)) rfl (u_ rfl) ?_
  refine wq2 (pc := 1) (len_s := 3) rfl rfl (fun c1_s => ?_) (fun c1_s => ?_)
  · replace t_s := t_s.1 c1_s
    refine w_t (pc := 10) (e_s := (0, 1, 0, 0, 0, .int 0, [])) (y_s := (11, [some (.ref _), some (.int _), some (.int _)], [.int _], _)) rfl (u_ rfl) ?_
    exact wrI (pc := 11) (len_s := 1) rfl hk t_s
  · replace t_s := t_s.2 c1_s
    refine w_t (pc := 4) (e_s := (1, 1, 2, 0, 0, .null, [])) (y_s := (5, [some (.ref _), some (.int _), some (.int _)], [.int _], _)) rfl (u_ rfl) ?_
    refine w_t (pc := 5) (e_s := (0, 2, 0, 0, 0, .int 14, [])) (y_s := (7, [some (.ref _), some (.int _), some (.int _)], [.int _, .int _], _)) rfl (u_ rfl) ?_
    refine wi5 (pc := 7) (len_s := 3) (Y := 14) rfl rfl (by decide) (fun c2_s => ?_) (fun c2_s => ?_)
    · replace t_s := t_s.1 c2_s
      refine w_t (pc := 10) (e_s := (0, 1, 0, 0, 0, .int 0, [])) (y_s := (11, [some (.ref _), some (.int _), some (.int _)], [.int _], _)) rfl (u_ rfl) ?_
      exact wrI (pc := 11) (len_s := 1) rfl hk t_s
    · replace t_s := t_s.2 c2_s
      refine w_t (pc := 12) (e_s := (1, 1, 2, 0, 0, .null, [])) (y_s := (13, [some (.ref _), some (.int _), some (.int _)], [.int _], _)) rfl (u_ rfl) ?_
      refine w_t (pc := 13) (e_s := (0, 1, 0, 0, 0, .int 1, [])) (y_s := (14, [some (.ref _), some (.int _), some (.int _)], [.int _, .int _], _)) rfl (u_ rfl) ?_
      refine wi4 (pc := 14) (len_s := 3) (Y := 1) rfl rfl (by decide) (fun c3_s => ?_) (fun c3_s => ?_)
      · replace t_s := t_s.1 c3_s
        refine w_t (pc := 23) (e_s := (1, 1, 2, 0, 0, .null, [])) (y_s := (24, [some (.ref _), some (.int _), some (.int _)], [.int _], _)) rfl (u_ rfl) ?_
        refine w_t (pc := 24) (e_s := (0, 2, 0, 0, 0, .int 8, [])) (y_s := (26, [some (.ref _), some (.int _), some (.int _)], [.int _, .int _], _)) rfl (u_ rfl) ?_
        refine wi5 (pc := 26) (len_s := 3) (Y := 8) rfl rfl (by decide) (fun c4_s => ?_) (fun c4_s => ?_)
        · replace t_s := t_s.1 c4_s
          refine w_t (pc := 29) (e_s := (1, 1, 2, 0, 0, .null, [])) (y_s := (30, [some (.ref _), some (.int _), some (.int _)], [.int _], _)) rfl (u_ rfl) ?_
          refine w_t (pc := 30) (e_s := (0, 2, 0, 0, 0, .int 14, [])) (y_s := (32, [some (.ref _), some (.int _), some (.int _)], [.int _, .int _], _)) rfl (u_ rfl) ?_
          refine wi1 (pc := 32) (len_s := 3) (Y := 14) rfl rfl (by decide) (fun c5_s => ?_) (fun c5_s => ?_)
          · replace t_s := t_s.1 c5_s
            refine w_t (pc := 35) (e_s := (3, 1, 0, 0, 0, .null, [])) (y_s := (36, [some (.ref _), some (.int _), some (.int _)], [.ref _], _)) rfl (u_ rfl) ?_
            refine w_t (pc := 36) (e_s := (1, 1, 1, 0, 0, .null, [])) (y_s := (37, [some (.ref _), some (.int _), some (.int _)], [.int _, .ref _], _)) rfl (u_ rfl) ?_
            refine wcI (pc := 37) (len_s := 3) rfl rfl (l := [some (.ref _), some (.int _)]) rfl ?_
            refine w_t (pc := 0) (e_s := (1, 1, 1, 0, 0, .null, [])) (y_s := (1, [some (.ref _), some (.int _)], [.int _], _)) rfl (u_ rfl) ?_
            refine wq2 (pc := 1) (len_s := 3) rfl rfl (fun c6_s => ?_) (fun c6_s => ?_)
            · replace t_s := t_s.1 c6_s
              refine w_t (pc := 16) (e_s := (0, 1, 0, 0, 0, .int 0, [])) (y_s := (17, [some (.ref _), some (.int _)], [.int _], _)) rfl (u_ rfl) ?_
              refine wrI (pc := 17) (len_s := 1) rfl hk ?_
              show wF _ 18 (40, [some (.ref _), some (.int _), some (.int _)], [.int _], _) _
              refine w_t (pc := 40) (e_s := (17, 3, 48, 0, 0, .null, [])) (y_s := (48, [some (.ref _), some (.int _), some (.int _)], [.int _], _)) rfl (u_ rfl) ?_
              exact wrI (pc := 48) (len_s := 1) rfl hk t_s
            · replace t_s := t_s.2 c6_s
              refine w_t (pc := 4) (e_s := (1, 1, 1, 0, 0, .null, [])) (y_s := (5, [some (.ref _), some (.int _)], [.int _], _)) rfl (u_ rfl) ?_
              refine w_t (pc := 5) (e_s := (3, 1, 0, 0, 0, .null, [])) (y_s := (6, [some (.ref _), some (.int _)], [.ref _, .int _], _)) rfl (u_ rfl) ?_
              refine w20 (pc := 6) (len_s := 3) rfl ?_
              refine wi3 (pc := 9) (len_s := 3) rfl rfl rfl (fun c7_s => ?_) (fun c7_s => ?_)
              · replace t_s := t_s.1 c7_s
                refine w_t (pc := 12) (e_s := (0, 1, 0, 0, 0, .int 1, [])) (y_s := (13, [some (.ref _), some (.int _)], [.int _], _)) rfl (u_ rfl) ?_
                refine w_t (pc := 13) (e_s := (17, 3, 17, 0, 0, .null, [])) (y_s := (17, [some (.ref _), some (.int _)], [.int _], _)) rfl (u_ rfl) ?_
                refine wrI (pc := 17) (len_s := 1) rfl hk ?_
                show wF _ 18 (40, [some (.ref _), some (.int _), some (.int _)], [.int _], _) _
                refine w_t (pc := 40) (e_s := (17, 3, 48, 0, 0, .null, [])) (y_s := (48, [some (.ref _), some (.int _), some (.int _)], [.int _], _)) rfl (u_ rfl) ?_
                exact wrI (pc := 48) (len_s := 1) rfl hk t_s
              · replace t_s := t_s.2 c7_s
                refine w_t (pc := 16) (e_s := (0, 1, 0, 0, 0, .int 0, [])) (y_s := (17, [some (.ref _), some (.int _)], [.int _], _)) rfl (u_ rfl) ?_
                refine wrI (pc := 17) (len_s := 1) rfl hk ?_
                show wF _ 18 (40, [some (.ref _), some (.int _), some (.int _)], [.int _], _) _
                refine w_t (pc := 40) (e_s := (17, 3, 48, 0, 0, .null, [])) (y_s := (48, [some (.ref _), some (.int _), some (.int _)], [.int _], _)) rfl (u_ rfl) ?_
                exact wrI (pc := 48) (len_s := 1) rfl hk t_s
          · replace t_s := t_s.2 c5_s
            refine w_t (pc := 43) (e_s := (3, 1, 0, 0, 0, .null, [])) (y_s := (44, [some (.ref _), some (.int _), some (.int _)], [.ref _], _)) rfl (u_ rfl) ?_
            refine w_t (pc := 44) (e_s := (1, 1, 1, 0, 0, .null, [])) (y_s := (45, [some (.ref _), some (.int _), some (.int _)], [.int _, .ref _], _)) rfl (u_ rfl) ?_
            refine wcI (pc := 45) (len_s := 3) rfl rfl (l := [some (.ref _), some (.int _)]) rfl ?_
            refine w_t (pc := 0) (e_s := (1, 1, 1, 0, 0, .null, [])) (y_s := (1, [some (.ref _), some (.int _)], [.int _], _)) rfl (u_ rfl) ?_
            refine wq2 (pc := 1) (len_s := 3) rfl rfl (fun c8_s => ?_) (fun c8_s => ?_)
            · replace t_s := t_s.1 c8_s
              refine w_t (pc := 16) (e_s := (0, 1, 0, 0, 0, .int 0, [])) (y_s := (17, [some (.ref _), some (.int _)], [.int _], _)) rfl (u_ rfl) ?_
              refine wrI (pc := 17) (len_s := 1) rfl hk ?_
              show wF _ 18 (48, [some (.ref _), some (.int _), some (.int _)], [.int _], _) _
              exact wrI (pc := 48) (len_s := 1) rfl hk t_s
            · replace t_s := t_s.2 c8_s
              refine w_t (pc := 4) (e_s := (1, 1, 1, 0, 0, .null, [])) (y_s := (5, [some (.ref _), some (.int _)], [.int _], _)) rfl (u_ rfl) ?_
              refine w_t (pc := 5) (e_s := (3, 1, 0, 0, 0, .null, [])) (y_s := (6, [some (.ref _), some (.int _)], [.ref _, .int _], _)) rfl (u_ rfl) ?_
              refine w20 (pc := 6) (len_s := 3) rfl ?_
              refine wi3 (pc := 9) (len_s := 3) rfl rfl rfl (fun c9_s => ?_) (fun c9_s => ?_)
              · replace t_s := t_s.1 c9_s
                refine w_t (pc := 12) (e_s := (0, 1, 0, 0, 0, .int 1, [])) (y_s := (13, [some (.ref _), some (.int _)], [.int _], _)) rfl (u_ rfl) ?_
                refine w_t (pc := 13) (e_s := (17, 3, 17, 0, 0, .null, [])) (y_s := (17, [some (.ref _), some (.int _)], [.int _], _)) rfl (u_ rfl) ?_
                refine wrI (pc := 17) (len_s := 1) rfl hk ?_
                show wF _ 18 (48, [some (.ref _), some (.int _), some (.int _)], [.int _], _) _
                exact wrI (pc := 48) (len_s := 1) rfl hk t_s
              · replace t_s := t_s.2 c9_s
                refine w_t (pc := 16) (e_s := (0, 1, 0, 0, 0, .int 0, [])) (y_s := (17, [some (.ref _), some (.int _)], [.int _], _)) rfl (u_ rfl) ?_
                refine wrI (pc := 17) (len_s := 1) rfl hk ?_
                show wF _ 18 (48, [some (.ref _), some (.int _), some (.int _)], [.int _], _) _
                exact wrI (pc := 48) (len_s := 1) rfl hk t_s
        · replace t_s := t_s.2 c4_s
          refine w_t (pc := 35) (e_s := (3, 1, 0, 0, 0, .null, [])) (y_s := (36, [some (.ref _), some (.int _), some (.int _)], [.ref _], _)) rfl (u_ rfl) ?_
          refine w_t (pc := 36) (e_s := (1, 1, 1, 0, 0, .null, [])) (y_s := (37, [some (.ref _), some (.int _), some (.int _)], [.int _, .ref _], _)) rfl (u_ rfl) ?_
          refine wcI (pc := 37) (len_s := 3) rfl rfl (l := [some (.ref _), some (.int _)]) rfl ?_
          refine w_t (pc := 0) (e_s := (1, 1, 1, 0, 0, .null, [])) (y_s := (1, [some (.ref _), some (.int _)], [.int _], _)) rfl (u_ rfl) ?_
          refine wq2 (pc := 1) (len_s := 3) rfl rfl (fun c10_s => ?_) (fun c10_s => ?_)
          · replace t_s := t_s.1 c10_s
            refine w_t (pc := 16) (e_s := (0, 1, 0, 0, 0, .int 0, [])) (y_s := (17, [some (.ref _), some (.int _)], [.int _], _)) rfl (u_ rfl) ?_
            refine wrI (pc := 17) (len_s := 1) rfl hk ?_
            show wF _ 18 (40, [some (.ref _), some (.int _), some (.int _)], [.int _], _) _
            refine w_t (pc := 40) (e_s := (17, 3, 48, 0, 0, .null, [])) (y_s := (48, [some (.ref _), some (.int _), some (.int _)], [.int _], _)) rfl (u_ rfl) ?_
            exact wrI (pc := 48) (len_s := 1) rfl hk t_s
          · replace t_s := t_s.2 c10_s
            refine w_t (pc := 4) (e_s := (1, 1, 1, 0, 0, .null, [])) (y_s := (5, [some (.ref _), some (.int _)], [.int _], _)) rfl (u_ rfl) ?_
            refine w_t (pc := 5) (e_s := (3, 1, 0, 0, 0, .null, [])) (y_s := (6, [some (.ref _), some (.int _)], [.ref _, .int _], _)) rfl (u_ rfl) ?_
            refine w20 (pc := 6) (len_s := 3) rfl ?_
            refine wi3 (pc := 9) (len_s := 3) rfl rfl rfl (fun c11_s => ?_) (fun c11_s => ?_)
            · replace t_s := t_s.1 c11_s
              refine w_t (pc := 12) (e_s := (0, 1, 0, 0, 0, .int 1, [])) (y_s := (13, [some (.ref _), some (.int _)], [.int _], _)) rfl (u_ rfl) ?_
              refine w_t (pc := 13) (e_s := (17, 3, 17, 0, 0, .null, [])) (y_s := (17, [some (.ref _), some (.int _)], [.int _], _)) rfl (u_ rfl) ?_
              refine wrI (pc := 17) (len_s := 1) rfl hk ?_
              show wF _ 18 (40, [some (.ref _), some (.int _), some (.int _)], [.int _], _) _
              refine w_t (pc := 40) (e_s := (17, 3, 48, 0, 0, .null, [])) (y_s := (48, [some (.ref _), some (.int _), some (.int _)], [.int _], _)) rfl (u_ rfl) ?_
              exact wrI (pc := 48) (len_s := 1) rfl hk t_s
            · replace t_s := t_s.2 c11_s
              refine w_t (pc := 16) (e_s := (0, 1, 0, 0, 0, .int 0, [])) (y_s := (17, [some (.ref _), some (.int _)], [.int _], _)) rfl (u_ rfl) ?_
              refine wrI (pc := 17) (len_s := 1) rfl hk ?_
              show wF _ 18 (40, [some (.ref _), some (.int _), some (.int _)], [.int _], _) _
              refine w_t (pc := 40) (e_s := (17, 3, 48, 0, 0, .null, [])) (y_s := (48, [some (.ref _), some (.int _), some (.int _)], [.int _], _)) rfl (u_ rfl) ?_
              exact wrI (pc := 48) (len_s := 1) rfl hk t_s
      · replace t_s := t_s.2 c3_s
        refine w_t (pc := 17) (e_s := (3, 1, 0, 0, 0, .null, [])) (y_s := (18, [some (.ref _), some (.int _), some (.int _)], [.ref _], _)) rfl (u_ rfl) ?_
        refine w_t (pc := 18) (e_s := (1, 1, 1, 0, 0, .null, [])) (y_s := (19, [some (.ref _), some (.int _), some (.int _)], [.int _, .ref _], _)) rfl (u_ rfl) ?_
        refine wcI (pc := 19) (len_s := 3) rfl rfl (l := [some (.ref _), some (.int _)]) rfl ?_
        refine w_t (pc := 0) (e_s := (1, 1, 1, 0, 0, .null, [])) (y_s := (1, [some (.ref _), some (.int _)], [.int _], _)) rfl (u_ rfl) ?_
        refine wq2 (pc := 1) (len_s := 3) rfl rfl (fun c12_s => ?_) (fun c12_s => ?_)
        · replace t_s := t_s.1 c12_s
          refine w_t (pc := 16) (e_s := (0, 1, 0, 0, 0, .int 0, [])) (y_s := (17, [some (.ref _), some (.int _)], [.int _], _)) rfl (u_ rfl) ?_
          refine wrI (pc := 17) (len_s := 1) rfl hk ?_
          show wF _ 18 (22, [some (.ref _), some (.int _), some (.int _)], [.int _], _) _
          exact wrI (pc := 22) (len_s := 1) rfl hk t_s
        · replace t_s := t_s.2 c12_s
          refine w_t (pc := 4) (e_s := (1, 1, 1, 0, 0, .null, [])) (y_s := (5, [some (.ref _), some (.int _)], [.int _], _)) rfl (u_ rfl) ?_
          refine w_t (pc := 5) (e_s := (3, 1, 0, 0, 0, .null, [])) (y_s := (6, [some (.ref _), some (.int _)], [.ref _, .int _], _)) rfl (u_ rfl) ?_
          refine w20 (pc := 6) (len_s := 3) rfl ?_
          refine wi3 (pc := 9) (len_s := 3) rfl rfl rfl (fun c13_s => ?_) (fun c13_s => ?_)
          · replace t_s := t_s.1 c13_s
            refine w_t (pc := 12) (e_s := (0, 1, 0, 0, 0, .int 1, [])) (y_s := (13, [some (.ref _), some (.int _)], [.int _], _)) rfl (u_ rfl) ?_
            refine w_t (pc := 13) (e_s := (17, 3, 17, 0, 0, .null, [])) (y_s := (17, [some (.ref _), some (.int _)], [.int _], _)) rfl (u_ rfl) ?_
            refine wrI (pc := 17) (len_s := 1) rfl hk ?_
            show wF _ 18 (22, [some (.ref _), some (.int _), some (.int _)], [.int _], _) _
            exact wrI (pc := 22) (len_s := 1) rfl hk t_s
          · replace t_s := t_s.2 c13_s
            refine w_t (pc := 16) (e_s := (0, 1, 0, 0, 0, .int 0, [])) (y_s := (17, [some (.ref _), some (.int _)], [.int _], _)) rfl (u_ rfl) ?_
            refine wrI (pc := 17) (len_s := 1) rfl hk ?_
            show wF _ 18 (22, [some (.ref _), some (.int _), some (.int _)], [.int _], _) _
            exact wrI (pc := 22) (len_s := 1) rfl hk t_s
/-- ColdShod$Country.canBe(II)Z, from 0 on -/
theorem sg_19_0 {F_s : Nat} {x1_s x2_s : Int32} {h_s : zH} {K_s : Int32 → zH → Prop} (hk : hKn h_s) (t_s : (x1_s.toInt < 0 → K_s 0 h_s) ∧ (¬ x1_s.toInt < 0 → ((11 < x1_s.toInt → K_s 0 h_s) ∧ (¬ 11 < x1_s.toInt → ((x1_s.toInt = 8 → (zix x1_s < 12 → (x2_s.toInt < (h_s.2.1 2 (zix x1_s)).toInt → K_s 0 h_s) ∧ (¬ x2_s.toInt < (h_s.2.1 2 (zix x1_s)).toInt → ((((h_s.2.1 7 6) - 1).toInt < x2_s.toInt → K_s 0 h_s) ∧ (¬ ((h_s.2.1 7 6) - 1).toInt < x2_s.toInt → K_s 1 h_s))))) ∧ (¬ x1_s.toInt = 8 → (zix x1_s < 12 → (x2_s.toInt < (h_s.2.1 2 (zix x1_s)).toInt → K_s 0 h_s) ∧ (¬ x2_s.toInt < (h_s.2.1 2 (zix x1_s)).toInt → (((h_s.2.1 1 (zix x1_s)).toInt < x2_s.toInt → K_s 0 h_s) ∧ (¬ (h_s.2.1 1 (zix x1_s)).toInt < x2_s.toInt → K_s 1 h_s)))))))))) : wF (F_s + 1) 19 (0, [some (.ref 7), some (.int x1_s), some (.int x2_s), none], [], h_s) (gI K_s) := by
  refine w_0 (pc := 0) (e_s := (1, 1, 1, 0, 0, .null, [])) (y_s := (1, [some (.ref _), some (.int _), some (.int _), none], [.int _], _)) rfl (u_ rfl) ?_
  refine wq2 (pc := 1) (len_s := 3) rfl rfl (fun c1_s => ?_) (fun c1_s => ?_)
  · replace t_s := t_s.1 c1_s
    refine w_t (pc := 10) (e_s := (0, 1, 0, 0, 0, .int 0, [])) (y_s := (11, [some (.ref _), some (.int _), some (.int _), none], [.int _], _)) rfl (u_ rfl) ?_
    exact wrI (pc := 11) (len_s := 1) rfl hk t_s
  · replace t_s := t_s.2 c1_s
    refine w_t (pc := 4) (e_s := (1, 1, 1, 0, 0, .null, [])) (y_s := (5, [some (.ref _), some (.int _), some (.int _), none], [.int _], _)) rfl (u_ rfl) ?_
    refine w_t (pc := 5) (e_s := (0, 2, 0, 0, 0, .int 11, [])) (y_s := (7, [some (.ref _), some (.int _), some (.int _), none], [.int _, .int _], _)) rfl (u_ rfl) ?_
    refine wi5 (pc := 7) (len_s := 3) (Y := 11) rfl rfl (by decide) (fun c2_s => ?_) (fun c2_s => ?_)
    · replace t_s := t_s.1 c2_s
      refine w_t (pc := 10) (e_s := (0, 1, 0, 0, 0, .int 0, [])) (y_s := (11, [some (.ref _), some (.int _), some (.int _), none], [.int _], _)) rfl (u_ rfl) ?_
      exact wrI (pc := 11) (len_s := 1) rfl hk t_s
    · replace t_s := t_s.2 c2_s
      refine w_t (pc := 12) (e_s := (1, 1, 1, 0, 0, .null, [])) (y_s := (13, [some (.ref _), some (.int _), some (.int _), none], [.int _], _)) rfl (u_ rfl) ?_
      refine w_t (pc := 13) (e_s := (0, 2, 0, 0, 0, .int 8, [])) (y_s := (15, [some (.ref _), some (.int _), some (.int _), none], [.int _, .int _], _)) rfl (u_ rfl) ?_
      refine wi1 (pc := 15) (len_s := 3) (Y := 8) rfl rfl (by decide) (fun c3_s => ?_) (fun c3_s => ?_)
      · replace t_s := t_s.1 c3_s
        refine w_t (pc := 18) (e_s := (3, 1, 0, 0, 0, .null, [])) (y_s := (19, [some (.ref _), some (.int _), some (.int _), none], [.ref _], _)) rfl (u_ rfl) ?_
        refine w20 (pc := 19) (len_s := 3) rfl ?_
        refine w_t (pc := 22) (e_s := (0, 1, 0, 0, 0, .int 1, [])) (y_s := (23, [some (.ref _), some (.int _), some (.int _), none], [.int _, .int _], _)) rfl (u_ rfl) ?_
        refine w_t (pc := 23) (e_s := (7, 1, 0, 1, 0, .null, [])) (y_s := (24, [some (.ref _), some (.int _), some (.int _), none], [.int (_ - _)], _)) rfl (u_ rfl) ?_
        refine w_t (pc := 24) (e_s := (17, 3, 32, 0, 0, .null, [])) (y_s := (32, [some (.ref _), some (.int _), some (.int _), none], [.int _], _)) rfl (u_ rfl) ?_
        refine w_t (pc := 32) (e_s := (4, 1, 3, 0, 0, .null, [])) (y_s := (33, [some (.ref _), some (.int _), some (.int _), some (.int _)], [], _)) rfl (u_ rfl) ?_
        refine w_t (pc := 33) (e_s := (1, 1, 2, 0, 0, .null, [])) (y_s := (34, [some (.ref _), some (.int _), some (.int _), some (.int _)], [.int _], _)) rfl (u_ rfl) ?_
        refine w_t (pc := 34) (e_s := (43, 3, 2, 0, 1, .null, [(0, 4)])) (y_s := (37, [some (.ref _), some (.int _), some (.int _), some (.int _)], [.ref _, .int _], _)) rfl (u_ rfl) ?_
        refine w_t (pc := 37) (e_s := (1, 1, 1, 0, 0, .null, [])) (y_s := (38, [some (.ref _), some (.int _), some (.int _), some (.int _)], [.int _, .ref _, .int _], _)) rfl (u_ rfl) ?_
        refine w22 (pc := 38) (len_s := 1) rfl (hk.1 2 5 12 rfl rfl) (fun c4_s => ?_)
        replace t_s := t_s c4_s
        refine wi2 (pc := 39) (len_s := 3) rfl rfl rfl (fun c5_s => ?_) (fun c5_s => ?_)
        · replace t_s := t_s.1 c5_s
          refine w_t (pc := 51) (e_s := (0, 1, 0, 0, 0, .int 0, [])) (y_s := (52, [some (.ref _), some (.int _), some (.int _), some (.int _)], [.int _], _)) rfl (u_ rfl) ?_
          exact wrI (pc := 52) (len_s := 1) rfl hk t_s
        · replace t_s := t_s.2 c5_s
          refine w_t (pc := 42) (e_s := (1, 1, 2, 0, 0, .null, [])) (y_s := (43, [some (.ref _), some (.int _), some (.int _), some (.int _)], [.int _], _)) rfl (u_ rfl) ?_
          refine w_t (pc := 43) (e_s := (1, 1, 3, 0, 0, .null, [])) (y_s := (44, [some (.ref _), some (.int _), some (.int _), some (.int _)], [.int _, .int _], _)) rfl (u_ rfl) ?_
          refine wi4 (pc := 44) (len_s := 3) rfl rfl rfl (fun c6_s => ?_) (fun c6_s => ?_)
          · replace t_s := t_s.1 c6_s
            refine w_t (pc := 51) (e_s := (0, 1, 0, 0, 0, .int 0, [])) (y_s := (52, [some (.ref _), some (.int _), some (.int _), some (.int _)], [.int _], _)) rfl (u_ rfl) ?_
            exact wrI (pc := 52) (len_s := 1) rfl hk t_s
          · replace t_s := t_s.2 c6_s
            refine w_t (pc := 47) (e_s := (0, 1, 0, 0, 0, .int 1, [])) (y_s := (48, [some (.ref _), some (.int _), some (.int _), some (.int _)], [.int _], _)) rfl (u_ rfl) ?_
            refine w_t (pc := 48) (e_s := (17, 3, 52, 0, 0, .null, [])) (y_s := (52, [some (.ref _), some (.int _), some (.int _), some (.int _)], [.int _], _)) rfl (u_ rfl) ?_
            exact wrI (pc := 52) (len_s := 1) rfl hk t_s
      · replace t_s := t_s.2 c3_s
        refine w_t (pc := 27) (e_s := (43, 3, 1, 0, 1, .null, [(0, 3)])) (y_s := (30, [some (.ref _), some (.int _), some (.int _), none], [.ref _], _)) rfl (u_ rfl) ?_
        refine w_t (pc := 30) (e_s := (1, 1, 1, 0, 0, .null, [])) (y_s := (31, [some (.ref _), some (.int _), some (.int _), none], [.int _, .ref _], _)) rfl (u_ rfl) ?_
        refine w22 (pc := 31) (len_s := 1) rfl (hk.1 1 5 12 rfl rfl) (fun c7_s => ?_)
        replace t_s := t_s c7_s
        refine w_t (pc := 32) (e_s := (4, 1, 3, 0, 0, .null, [])) (y_s := (33, [some (.ref _), some (.int _), some (.int _), some (.int _)], [], _)) rfl (u_ rfl) ?_
        refine w_t (pc := 33) (e_s := (1, 1, 2, 0, 0, .null, [])) (y_s := (34, [some (.ref _), some (.int _), some (.int _), some (.int _)], [.int _], _)) rfl (u_ rfl) ?_
        refine w_t (pc := 34) (e_s := (43, 3, 2, 0, 1, .null, [(0, 4)])) (y_s := (37, [some (.ref _), some (.int _), some (.int _), some (.int _)], [.ref _, .int _], _)) rfl (u_ rfl) ?_
        refine w_t (pc := 37) (e_s := (1, 1, 1, 0, 0, .null, [])) (y_s := (38, [some (.ref _), some (.int _), some (.int _), some (.int _)], [.int _, .ref _, .int _], _)) rfl (u_ rfl) ?_
        refine w22 (pc := 38) (len_s := 1) rfl (hk.1 2 5 12 rfl rfl) (fun c8_s => ?_)
        refine wi2 (pc := 39) (len_s := 3) rfl rfl rfl (fun c9_s => ?_) (fun c9_s => ?_)
        · replace t_s := t_s.1 c9_s
          refine w_t (pc := 51) (e_s := (0, 1, 0, 0, 0, .int 0, [])) (y_s := (52, [some (.ref _), some (.int _), some (.int _), some (.int _)], [.int _], _)) rfl (u_ rfl) ?_
          exact wrI (pc := 52) (len_s := 1) rfl hk t_s
        · replace t_s := t_s.2 c9_s
          refine w_t (pc := 42) (e_s := (1, 1, 2, 0, 0, .null, [])) (y_s := (43, [some (.ref _), some (.int _), some (.int _), some (.int _)], [.int _], _)) rfl (u_ rfl) ?_
          refine w_t (pc := 43) (e_s := (1, 1, 3, 0, 0, .null, [])) (y_s := (44, [some (.ref _), some (.int _), some (.int _), some (.int _)], [.int _, .int _], _)) rfl (u_ rfl) ?_
          refine wi4 (pc := 44) (len_s := 3) rfl rfl rfl (fun c10_s => ?_) (fun c10_s => ?_)
          · replace t_s := t_s.1 c10_s
            refine w_t (pc := 51) (e_s := (0, 1, 0, 0, 0, .int 0, [])) (y_s := (52, [some (.ref _), some (.int _), some (.int _), some (.int _)], [.int _], _)) rfl (u_ rfl) ?_
            exact wrI (pc := 52) (len_s := 1) rfl hk t_s
          · replace t_s := t_s.2 c10_s
            refine w_t (pc := 47) (e_s := (0, 1, 0, 0, 0, .int 1, [])) (y_s := (48, [some (.ref _), some (.int _), some (.int _), some (.int _)], [.int _], _)) rfl (u_ rfl) ?_
            refine w_t (pc := 48) (e_s := (17, 3, 52, 0, 0, .null, [])) (y_s := (52, [some (.ref _), some (.int _), some (.int _), some (.int _)], [.int _], _)) rfl (u_ rfl) ?_
            exact wrI (pc := 52) (len_s := 1) rfl hk t_s
/-- ColdShod$Country.numberOf(II)I, from 0 on -/
theorem sg_20_0 {F_s : Nat} {x1_s x2_s : Int32} {h_s : zH} {K_s : Int32 → zH → Prop} (hk : hKn h_s) (t_s : wF F_s 18 (0, [some (.ref 7), some (.int x1_s), some (.int x2_s)], [], h_s) (gI (fun v1_s h1 => hKn h1 → (v1_s.toInt = 0 → K_s (-2000000000) h1) ∧ (¬ v1_s.toInt = 0 → ((x2_s.toInt = 0 → (zix x1_s < 6 → K_s (h1.2.1 8 (zix x1_s)) h1)) ∧ (¬ x2_s.toInt = 0 → (x2_s.toInt = 1 → (zix x1_s < 6 → K_s (h1.2.1 9 (zix x1_s)) h1)) ∧ (¬ x2_s.toInt = 1 → (x2_s.toInt = 2 → (zix x1_s < 8 → K_s (h1.2.1 (20 + (zix x1_s)) 0) h1)) ∧ (¬ x2_s.toInt = 2 → (x2_s.toInt = 3 → (zix x1_s < 8 → K_s (h1.2.1 (20 + (zix x1_s)) 1) h1)) ∧ (¬ x2_s.toInt = 3 → (x2_s.toInt = 4 → (zix x1_s < 8 → K_s (h1.2.1 (20 + (zix x1_s)) 2) h1)) ∧ (¬ x2_s.toInt = 4 → (x2_s.toInt = 5 → (zix x1_s < 8 → K_s (h1.2.1 (20 + (zix x1_s)) 3) h1)) ∧ (¬ x2_s.toInt = 5 → (x2_s.toInt = 6 → (zix x1_s < 8 → K_s (h1.2.1 (20 + (zix x1_s)) 4) h1)) ∧ (¬ x2_s.toInt = 6 → (x2_s.toInt = 7 → (zix x1_s < 8 → K_s (h1.2.1 (20 + (zix x1_s)) 5) h1)) ∧ (¬ x2_s.toInt = 7 → (x2_s.toInt = 8 → (zix x1_s < 8 → K_s (h1.2.1 (20 + (zix x1_s)) 6) h1)) ∧ (¬ x2_s.toInt = 8 → (x2_s.toInt = 9 → (zix x1_s < 12 → K_s (h1.2.1 (28 + (zix x1_s)) 2) h1)) ∧ (¬ x2_s.toInt = 9 → (x2_s.toInt = 10 → (zix x1_s < 12 → K_s (h1.2.1 (28 + (zix x1_s)) 3) h1)) ∧ (¬ x2_s.toInt = 10 → (x2_s.toInt = 11 → (zix x1_s < 12 → K_s (h1.2.1 (28 + (zix x1_s)) 4) h1)) ∧ (¬ x2_s.toInt = 11 → (x2_s.toInt = 12 → (zix x1_s < 12 → K_s (h1.2.1 (28 + (zix x1_s)) 0) h1)) ∧ (¬ x2_s.toInt = 12 → (x2_s.toInt = 13 → (zix x1_s < 12 → K_s (h1.2.1 (28 + (zix x1_s)) 1) h1)) ∧ (¬ x2_s.toInt = 13 → (x2_s.toInt = 14 → (zix x1_s < 8 → K_s (9 - ((h1.2.1 (20 + (zix x1_s)) 2) / 11)) h1)) ∧ (¬ x2_s.toInt = 14 → K_s (-2000000000) h1)))))))))))))))))))) : wF (F_s + 1) 20 (0, [some (.ref 7), some (.int x1_s), some (.int x2_s)], [], h_s) (gI K_s) := by
  refine w_0 (pc := 0) (e_s := (3, 1, 0, 0, 0, .null, [])) (y_s := (1, [some (.ref _), some (.int _), some (.int _)], [.ref _], _)) rfl (u_ rfl) ?_
  refine w_t (pc := 1) (e_s := (1, 1, 1, 0, 0, .null, [])) (y_s := (2, [some (.ref _), some (.int _), some (.int _)], [.int _, .ref _], _)) rfl (u_ rfl) ?_
  refine w_t (pc := 2) (e_s := (1, 1, 2, 0, 0, .null, [])) (y_s := (3, [some (.ref _), some (.int _), some (.int _)], [.int _, .int _, .ref _], _)) rfl (u_ rfl) ?_
  refine wcI (pc := 3) (len_s := 3) rfl rfl (l := [some (.ref _), some (.int _), some (.int _)]) rfl (wmI t_s (fun v1_s h1 hk t_s => ?_))
  replace t_s := t_s hk
  refine wq1 (pc := 6) (len_s := 3) rfl rfl (fun c2_s => ?_) (fun c2_s => ?_)
  · replace t_s := t_s.1 c2_s
    refine w_t (pc := 9) (e_s := (0, 2, 0, 0, 0, .int (-2000000000), [(0, 763)])) (y_s := (11, [some (.ref _), some (.int _), some (.int _)], [.int _], _)) rfl (u_ rfl) ?_
    exact wrI (pc := 11) (len_s := 1) rfl hk t_s
  · replace t_s := t_s.2 c2_s
    refine w_t (pc := 12) (e_s := (1, 1, 2, 0, 0, .null, [])) (y_s := (13, [some (.ref _), some (.int _), some (.int _)], [.int _], _)) rfl (u_ rfl) ?_
    refine wsw (pc := 13) (len_s := 75) rfl ?_
    refine wsc (X_s := 0) rfl (by decide) (fun c3_s => ?_) (fun c3_s => ?_)
    · replace t_s := t_s.1 c3_s
      refine w_t (pc := 88) (e_s := (3, 1, 0, 0, 0, .null, [])) (y_s := (89, [some (.ref _), some (.int _), some (.int _)], [.ref _], _)) rfl (u_ rfl) ?_
      refine w20r (pc := 89) (len_s := 3) (q_s := 8) rfl (krq hk rfl) ?_
      refine w_t (pc := 92) (e_s := (1, 1, 1, 0, 0, .null, [])) (y_s := (93, [some (.ref _), some (.int _), some (.int _)], [.int _, .ref _], _)) rfl (u_ rfl) ?_
      refine w22 (pc := 93) (len_s := 1) rfl (hk.1 8 0 6 rfl rfl) (fun c4_s => ?_)
      replace t_s := t_s c4_s
      exact wrI (pc := 94) (len_s := 1) rfl hk t_s
    · replace t_s := t_s.2 c3_s
      refine wsc (X_s := 1) rfl (by decide) (fun c5_s => ?_) (fun c5_s => ?_)
      · replace t_s := t_s.1 c5_s
        refine w_t (pc := 95) (e_s := (3, 1, 0, 0, 0, .null, [])) (y_s := (96, [some (.ref _), some (.int _), some (.int _)], [.ref _], _)) rfl (u_ rfl) ?_
        refine w20r (pc := 96) (len_s := 3) (q_s := 9) rfl (krq hk rfl) ?_
        refine w_t (pc := 99) (e_s := (1, 1, 1, 0, 0, .null, [])) (y_s := (100, [some (.ref _), some (.int _), some (.int _)], [.int _, .ref _], _)) rfl (u_ rfl) ?_
        refine w22 (pc := 100) (len_s := 1) rfl (hk.1 9 0 6 rfl rfl) (fun c6_s => ?_)
        replace t_s := t_s c6_s
        exact wrI (pc := 101) (len_s := 1) rfl hk t_s
      · replace t_s := t_s.2 c5_s
        refine wsc (X_s := 2) rfl (by decide) (fun c7_s => ?_) (fun c7_s => ?_)
        · replace t_s := t_s.1 c7_s
          refine w_t (pc := 102) (e_s := (3, 1, 0, 0, 0, .null, [])) (y_s := (103, [some (.ref _), some (.int _), some (.int _)], [.ref _], _)) rfl (u_ rfl) ?_
          refine w20r (pc := 103) (len_s := 3) (q_s := 10) rfl (krq hk rfl) ?_
          refine w_t (pc := 106) (e_s := (1, 1, 1, 0, 0, .null, [])) (y_s := (107, [some (.ref _), some (.int _), some (.int _)], [.int _, .ref _], _)) rfl (u_ rfl) ?_
          refine w24 (g_s := fun j_ => 20 + j_) (pc := 107) (len_s := 1) hk rfl (hk.1 10 2 8 rfl rfl) kg10 (fun c8_s => ?_)
          replace t_s := t_s c8_s
          refine w20 (pc := 108) (len_s := 3) rfl ?_
          exact wrI (pc := 111) (len_s := 1) rfl hk t_s
        · replace t_s := t_s.2 c7_s
          refine wsc (X_s := 3) rfl (by decide) (fun c9_s => ?_) (fun c9_s => ?_)
          · replace t_s := t_s.1 c9_s
            refine w_t (pc := 112) (e_s := (3, 1, 0, 0, 0, .null, [])) (y_s := (113, [some (.ref _), some (.int _), some (.int _)], [.ref _], _)) rfl (u_ rfl) ?_
            refine w20r (pc := 113) (len_s := 3) (q_s := 10) rfl (krq hk rfl) ?_
            refine w_t (pc := 116) (e_s := (1, 1, 1, 0, 0, .null, [])) (y_s := (117, [some (.ref _), some (.int _), some (.int _)], [.int _, .ref _], _)) rfl (u_ rfl) ?_
            refine w24 (g_s := fun j_ => 20 + j_) (pc := 117) (len_s := 1) hk rfl (hk.1 10 2 8 rfl rfl) kg10 (fun c10_s => ?_)
            replace t_s := t_s c10_s
            refine w20 (pc := 118) (len_s := 3) rfl ?_
            exact wrI (pc := 121) (len_s := 1) rfl hk t_s
          · replace t_s := t_s.2 c9_s
            refine wsc (X_s := 4) rfl (by decide) (fun c11_s => ?_) (fun c11_s => ?_)
            · replace t_s := t_s.1 c11_s
              refine w_t (pc := 122) (e_s := (3, 1, 0, 0, 0, .null, [])) (y_s := (123, [some (.ref _), some (.int _), some (.int _)], [.ref _], _)) rfl (u_ rfl) ?_
              refine w20r (pc := 123) (len_s := 3) (q_s := 10) rfl (krq hk rfl) ?_
              refine w_t (pc := 126) (e_s := (1, 1, 1, 0, 0, .null, [])) (y_s := (127, [some (.ref _), some (.int _), some (.int _)], [.int _, .ref _], _)) rfl (u_ rfl) ?_
              refine w24 (g_s := fun j_ => 20 + j_) (pc := 127) (len_s := 1) hk rfl (hk.1 10 2 8 rfl rfl) kg10 (fun c12_s => ?_)
              replace t_s := t_s c12_s
              refine w20 (pc := 128) (len_s := 3) rfl ?_
              exact wrI (pc := 131) (len_s := 1) rfl hk t_s
            · replace t_s := t_s.2 c11_s
              refine wsc (X_s := 5) rfl (by decide) (fun c13_s => ?_) (fun c13_s => ?_)
              · replace t_s := t_s.1 c13_s
                refine w_t (pc := 132) (e_s := (3, 1, 0, 0, 0, .null, [])) (y_s := (133, [some (.ref _), some (.int _), some (.int _)], [.ref _], _)) rfl (u_ rfl) ?_
                refine w20r (pc := 133) (len_s := 3) (q_s := 10) rfl (krq hk rfl) ?_
                refine w_t (pc := 136) (e_s := (1, 1, 1, 0, 0, .null, [])) (y_s := (137, [some (.ref _), some (.int _), some (.int _)], [.int _, .ref _], _)) rfl (u_ rfl) ?_
                refine w24 (g_s := fun j_ => 20 + j_) (pc := 137) (len_s := 1) hk rfl (hk.1 10 2 8 rfl rfl) kg10 (fun c14_s => ?_)
                replace t_s := t_s c14_s
                refine w20 (pc := 138) (len_s := 3) rfl ?_
                exact wrI (pc := 141) (len_s := 1) rfl hk t_s
              · replace t_s := t_s.2 c13_s
                refine wsc (X_s := 6) rfl (by decide) (fun c15_s => ?_) (fun c15_s => ?_)
                · replace t_s := t_s.1 c15_s
                  refine w_t (pc := 142) (e_s := (3, 1, 0, 0, 0, .null, [])) (y_s := (143, [some (.ref _), some (.int _), some (.int _)], [.ref _], _)) rfl (u_ rfl) ?_
                  refine w20r (pc := 143) (len_s := 3) (q_s := 10) rfl (krq hk rfl) ?_
                  refine w_t (pc := 146) (e_s := (1, 1, 1, 0, 0, .null, [])) (y_s := (147, [some (.ref _), some (.int _), some (.int _)], [.int _, .ref _], _)) rfl (u_ rfl) ?_
                  refine w24 (g_s := fun j_ => 20 + j_) (pc := 147) (len_s := 1) hk rfl (hk.1 10 2 8 rfl rfl) kg10 (fun c16 => ?_)
                  replace t_s := t_s c16
                  refine w20 (pc := 148) (len_s := 3) rfl ?_
                  exact wrI (pc := 151) (len_s := 1) rfl hk t_s
                · replace t_s := t_s.2 c15_s
                  refine wsc (X_s := 7) rfl (by decide) (fun c17 => ?_) (fun c17 => ?_)
                  · replace t_s := t_s.1 c17
                    refine w_t (pc := 152) (e_s := (3, 1, 0, 0, 0, .null, [])) (y_s := (153, [some (.ref _), some (.int _), some (.int _)], [.ref _], _)) rfl (u_ rfl) ?_
                    refine w20r (pc := 153) (len_s := 3) (q_s := 10) rfl (krq hk rfl) ?_
                    refine w_t (pc := 156) (e_s := (1, 1, 1, 0, 0, .null, [])) (y_s := (157, [some (.ref _), some (.int _), some (.int _)], [.int _, .ref _], _)) rfl (u_ rfl) ?_
                    refine w24 (g_s := fun j_ => 20 + j_) (pc := 157) (len_s := 1) hk rfl (hk.1 10 2 8 rfl rfl) kg10 (fun c18_s => ?_)
                    replace t_s := t_s c18_s
                    refine w20 (pc := 158) (len_s := 3) rfl ?_
                    exact wrI (pc := 161) (len_s := 1) rfl hk t_s
                  · replace t_s := t_s.2 c17
                    refine wsc (X_s := 8) rfl (by decide) (fun c19_s => ?_) (fun c19_s => ?_)
                    · replace t_s := t_s.1 c19_s
                      refine w_t (pc := 162) (e_s := (3, 1, 0, 0, 0, .null, [])) (y_s := (163, [some (.ref _), some (.int _), some (.int _)], [.ref _], _)) rfl (u_ rfl) ?_
                      refine w20r (pc := 163) (len_s := 3) (q_s := 10) rfl (krq hk rfl) ?_
                      refine w_t (pc := 166) (e_s := (1, 1, 1, 0, 0, .null, [])) (y_s := (167, [some (.ref _), some (.int _), some (.int _)], [.int _, .ref _], _)) rfl (u_ rfl) ?_
                      refine w24 (g_s := fun j_ => 20 + j_) (pc := 167) (len_s := 1) hk rfl (hk.1 10 2 8 rfl rfl) kg10 (fun c20_s => ?_)
                      replace t_s := t_s c20_s
                      refine w20 (pc := 168) (len_s := 3) rfl ?_
                      exact wrI (pc := 171) (len_s := 1) rfl hk t_s
                    · replace t_s := t_s.2 c19_s
                      refine wsc (X_s := 9) rfl (by decide) (fun c21 => ?_) (fun c21 => ?_)
                      · replace t_s := t_s.1 c21
                        refine w_t (pc := 172) (e_s := (3, 1, 0, 0, 0, .null, [])) (y_s := (173, [some (.ref _), some (.int _), some (.int _)], [.ref _], _)) rfl (u_ rfl) ?_
                        refine w20r (pc := 173) (len_s := 3) (q_s := 11) rfl (krq hk rfl) ?_
                        refine w_t (pc := 176) (e_s := (1, 1, 1, 0, 0, .null, [])) (y_s := (177, [some (.ref _), some (.int _), some (.int _)], [.int _, .ref _], _)) rfl (u_ rfl) ?_
                        refine w24 (g_s := fun j_ => 28 + j_) (pc := 177) (len_s := 1) hk rfl (hk.1 11 3 12 rfl rfl) kg11 (fun c22 => ?_)
                        replace t_s := t_s c22
                        refine w20 (pc := 178) (len_s := 3) rfl ?_
                        exact wrI (pc := 181) (len_s := 1) rfl hk t_s
                      · replace t_s := t_s.2 c21
                        refine wsc (X_s := 10) rfl (by decide) (fun c23_s => ?_) (fun c23_s => ?_)
                        · replace t_s := t_s.1 c23_s
                          refine w_t (pc := 182) (e_s := (3, 1, 0, 0, 0, .null, [])) (y_s := (183, [some (.ref _), some (.int _), some (.int _)], [.ref _], _)) rfl (u_ rfl) ?_
                          refine w20r (pc := 183) (len_s := 3) (q_s := 11) rfl (krq hk rfl) ?_
                          refine w_t (pc := 186) (e_s := (1, 1, 1, 0, 0, .null, [])) (y_s := (187, [some (.ref _), some (.int _), some (.int _)], [.int _, .ref _], _)) rfl (u_ rfl) ?_
                          refine w24 (g_s := fun j_ => 28 + j_) (pc := 187) (len_s := 1) hk rfl (hk.1 11 3 12 rfl rfl) kg11 (fun c24_s => ?_)
                          replace t_s := t_s c24_s
                          refine w20 (pc := 188) (len_s := 3) rfl ?_
                          exact wrI (pc := 191) (len_s := 1) rfl hk t_s
                        · replace t_s := t_s.2 c23_s
                          refine wsc (X_s := 11) rfl (by decide) (fun c25_s => ?_) (fun c25_s => ?_)
                          · replace t_s := t_s.1 c25_s
                            refine w_t (pc := 192) (e_s := (3, 1, 0, 0, 0, .null, [])) (y_s := (193, [some (.ref _), some (.int _), some (.int _)], [.ref _], _)) rfl (u_ rfl) ?_
                            refine w20r (pc := 193) (len_s := 3) (q_s := 11) rfl (krq hk rfl) ?_
                            refine w_t (pc := 196) (e_s := (1, 1, 1, 0, 0, .null, [])) (y_s := (197, [some (.ref _), some (.int _), some (.int _)], [.int _, .ref _], _)) rfl (u_ rfl) ?_
                            refine w24 (g_s := fun j_ => 28 + j_) (pc := 197) (len_s := 1) hk rfl (hk.1 11 3 12 rfl rfl) kg11 (fun c26 => ?_)
                            replace t_s := t_s c26
                            refine w20 (pc := 198) (len_s := 3) rfl ?_
                            exact wrI (pc := 201) (len_s := 1) rfl hk t_s
                          · replace t_s := t_s.2 c25_s
                            refine wsc (X_s := 12) rfl (by decide) (fun c27_s => ?_) (fun c27_s => ?_)
                            · replace t_s := t_s.1 c27_s
                              refine w_t (pc := 202) (e_s := (3, 1, 0, 0, 0, .null, [])) (y_s := (203, [some (.ref _), some (.int _), some (.int _)], [.ref _], _)) rfl (u_ rfl) ?_
                              refine w20r (pc := 203) (len_s := 3) (q_s := 11) rfl (krq hk rfl) ?_
                              refine w_t (pc := 206) (e_s := (1, 1, 1, 0, 0, .null, [])) (y_s := (207, [some (.ref _), some (.int _), some (.int _)], [.int _, .ref _], _)) rfl (u_ rfl) ?_
                              refine w24 (g_s := fun j_ => 28 + j_) (pc := 207) (len_s := 1) hk rfl (hk.1 11 3 12 rfl rfl) kg11 (fun c28_s => ?_)
                              replace t_s := t_s c28_s
                              refine w20 (pc := 208) (len_s := 3) rfl ?_
                              exact wrI (pc := 211) (len_s := 1) rfl hk t_s
                            · replace t_s := t_s.2 c27_s
                              refine wsc (X_s := 13) rfl (by decide) (fun c29_s => ?_) (fun c29_s => ?_)
                              · replace t_s := t_s.1 c29_s
                                refine w_t (pc := 212) (e_s := (3, 1, 0, 0, 0, .null, [])) (y_s := (213, [some (.ref _), some (.int _), some (.int _)], [.ref _], _)) rfl (u_ rfl) ?_
                                refine w20r (pc := 213) (len_s := 3) (q_s := 11) rfl (krq hk rfl) ?_
                                refine w_t (pc := 216) (e_s := (1, 1, 1, 0, 0, .null, [])) (y_s := (217, [some (.ref _), some (.int _), some (.int _)], [.int _, .ref _], _)) rfl (u_ rfl) ?_
                                refine w24 (g_s := fun j_ => 28 + j_) (pc := 217) (len_s := 1) hk rfl (hk.1 11 3 12 rfl rfl) kg11 (fun c30_s => ?_)
                                replace t_s := t_s c30_s
                                refine w20 (pc := 218) (len_s := 3) rfl ?_
                                exact wrI (pc := 221) (len_s := 1) rfl hk t_s
                              · replace t_s := t_s.2 c29_s
                                refine wsc (X_s := 14) rfl (by decide) (fun c31_s => ?_) (fun c31_s => ?_)
                                · replace t_s := t_s.1 c31_s
                                  refine w_t (pc := 222) (e_s := (3, 1, 0, 0, 0, .null, [])) (y_s := (223, [some (.ref _), some (.int _), some (.int _)], [.ref _], _)) rfl (u_ rfl) ?_
                                  refine w20r (pc := 223) (len_s := 3) (q_s := 10) rfl (krq hk rfl) ?_
                                  refine w_t (pc := 226) (e_s := (1, 1, 1, 0, 0, .null, [])) (y_s := (227, [some (.ref _), some (.int _), some (.int _)], [.int _, .ref _], _)) rfl (u_ rfl) ?_
                                  refine w24 (g_s := fun j_ => 20 + j_) (pc := 227) (len_s := 1) hk rfl (hk.1 10 2 8 rfl rfl) kg10 (fun c32_s => ?_)
                                  replace t_s := t_s c32_s
                                  refine wcI (pc := 228) (len_s := 3) rfl rfl (l := [some (.ref _)]) rfl ?_
                                  refine w_t (pc := 0) (e_s := (0, 2, 0, 0, 0, .int 9, [])) (y_s := (2, [some (.ref _)], [.int _], _)) rfl (u_ rfl) ?_
                                  refine w_t (pc := 2) (e_s := (3, 1, 0, 0, 0, .null, [])) (y_s := (3, [some (.ref _)], [.ref _, .int _], _)) rfl (u_ rfl) ?_
                                  refine w20 (pc := 3) (len_s := 3) rfl ?_
                                  refine w_t (pc := 6) (e_s := (0, 2, 0, 0, 0, .int 11, [])) (y_s := (8, [some (.ref _)], [.int _, .int _, .int _], _)) rfl (u_ rfl) ?_
                                  refine w8 (pc := 8) (len_s := 1) rfl ?_
                                  refine w_t (pc := 9) (e_s := (7, 1, 0, 1, 0, .null, [])) (y_s := (10, [some (.ref _)], [.int (_ - _)], _)) rfl (u_ rfl) ?_
                                  refine wrI (pc := 10) (len_s := 1) rfl hk ?_
                                  show wF _ 20 (231, [some (.ref _), some (.int _), some (.int _)], [.int _], _) _
                                  exact wrI (pc := 231) (len_s := 1) rfl hk t_s
                                · replace t_s := t_s.2 c31_s
                                  show wF _ _ (232, _, _, _) _
                                  refine w_t (pc := 232) (e_s := (0, 2, 0, 0, 0, .int (-2000000000), [(0, 763)])) (y_s := (234, [some (.ref _), some (.int _), some (.int _)], [.int _], _)) rfl (u_ rfl) ?_
                                  exact wrI (pc := 234) (len_s := 1) rfl hk t_s
/-- ColdShod$Country.setNumber(III)V, from 0 on -/
theorem sg_21_0 {F_s : Nat} {x1_s x2_s x3 : Int32} {h_s : zH} {K_s : zH → Prop} (hk : hKn h_s) (t_s : wF F_s 18 (0, [some (.ref 7), some (.int x1_s), some (.int x2_s)], [], h_s) (gI (fun v1_s h1 => hKn h1 → (v1_s.toInt = 0 → K_s h1) ∧ (¬ v1_s.toInt = 0 → ((x2_s.toInt = 0 → (zix x1_s < 6 → K_s (h1.1, zup h1.2.1 8 (zix x1_s) x3, h1.2.2.1, h1.2.2.2))) ∧ (¬ x2_s.toInt = 0 → (x2_s.toInt = 1 → (zix x1_s < 6 → K_s (h1.1, zup h1.2.1 9 (zix x1_s) x3, h1.2.2.1, h1.2.2.2))) ∧ (¬ x2_s.toInt = 1 → (x2_s.toInt = 2 → (zix x1_s < 8 → K_s (h1.1, zup h1.2.1 (20 + (zix x1_s)) 0 x3, h1.2.2.1, h1.2.2.2))) ∧ (¬ x2_s.toInt = 2 → (x2_s.toInt = 3 → (zix x1_s < 8 → K_s (h1.1, zup h1.2.1 (20 + (zix x1_s)) 1 x3, h1.2.2.1, h1.2.2.2))) ∧ (¬ x2_s.toInt = 3 → (x2_s.toInt = 4 → (zix x1_s < 8 → K_s (h1.1, zup h1.2.1 (20 + (zix x1_s)) 2 x3, h1.2.2.1, h1.2.2.2))) ∧ (¬ x2_s.toInt = 4 → (x2_s.toInt = 5 → (zix x1_s < 8 → K_s (h1.1, zup h1.2.1 (20 + (zix x1_s)) 3 x3, h1.2.2.1, h1.2.2.2))) ∧ (¬ x2_s.toInt = 5 → (x2_s.toInt = 6 → (zix x1_s < 8 → K_s (h1.1, zup h1.2.1 (20 + (zix x1_s)) 4 x3, h1.2.2.1, h1.2.2.2))) ∧ (¬ x2_s.toInt = 6 → (x2_s.toInt = 7 → (zix x1_s < 8 → K_s (h1.1, zup h1.2.1 (20 + (zix x1_s)) 5 x3, h1.2.2.1, h1.2.2.2))) ∧ (¬ x2_s.toInt = 7 → (x2_s.toInt = 8 → (zix x1_s < 8 → K_s (h1.1, zup h1.2.1 (20 + (zix x1_s)) 6 x3, h1.2.2.1, h1.2.2.2))) ∧ (¬ x2_s.toInt = 8 → (x2_s.toInt = 9 → (zix x1_s < 12 → K_s (h1.1, zup h1.2.1 (28 + (zix x1_s)) 2 x3, h1.2.2.1, h1.2.2.2))) ∧ (¬ x2_s.toInt = 9 → (x2_s.toInt = 10 → (zix x1_s < 12 → K_s (h1.1, zup h1.2.1 (28 + (zix x1_s)) 3 x3, h1.2.2.1, h1.2.2.2))) ∧ (¬ x2_s.toInt = 10 → (x2_s.toInt = 11 → (zix x1_s < 12 → K_s (h1.1, zup h1.2.1 (28 + (zix x1_s)) 4 x3, h1.2.2.1, h1.2.2.2))) ∧ (¬ x2_s.toInt = 11 → K_s h1))))))))))))))))) : wF (F_s + 1) 21 (0, [some (.ref 7), some (.int x1_s), some (.int x2_s), some (.int x3)], [], h_s) (gV K_s) := by
  refine w_0 (pc := 0) (e_s := (3, 1, 0, 0, 0, .null, [])) (y_s := (1, [some (.ref _), some (.int _), some (.int _), some (.int _)], [.ref _], _)) rfl (u_ rfl) ?_
  refine w_t (pc := 1) (e_s := (1, 1, 1, 0, 0, .null, [])) (y_s := (2, [some (.ref _), some (.int _), some (.int _), some (.int _)], [.int _, .ref _], _)) rfl (u_ rfl) ?_
  refine w_t (pc := 2) (e_s := (1, 1, 2, 0, 0, .null, [])) (y_s := (3, [some (.ref _), some (.int _), some (.int _), some (.int _)], [.int _, .int _, .ref _], _)) rfl (u_ rfl) ?_
  refine wcI (pc := 3) (len_s := 3) rfl rfl (l := [some (.ref _), some (.int _), some (.int _)]) rfl (wmI t_s (fun v1_s h1 hk t_s => ?_))
  replace t_s := t_s hk
  refine wq1 (pc := 6) (len_s := 3) rfl rfl (fun c2_s => ?_) (fun c2_s => ?_)
  · replace t_s := t_s.1 c2_s
    exact wrV (pc := 9) (len_s := 1) rfl hk t_s
  · replace t_s := t_s.2 c2_s
    refine w_t (pc := 10) (e_s := (1, 1, 2, 0, 0, .null, [])) (y_s := (11, [some (.ref _), some (.int _), some (.int _), some (.int _)], [.int _], _)) rfl (u_ rfl) ?_
    refine wsw (pc := 11) (len_s := 61) rfl ?_
    refine wsc (X_s := 0) rfl (by decide) (fun c3_s => ?_) (fun c3_s => ?_)
    · replace t_s := t_s.1 c3_s
      refine w_t (pc := 72) (e_s := (3, 1, 0, 0, 0, .null, [])) (y_s := (73, [some (.ref _), some (.int _), some (.int _), some (.int _)], [.ref _], _)) rfl (u_ rfl) ?_
      refine w20r (pc := 73) (len_s := 3) (q_s := 8) rfl (krq hk rfl) ?_
      refine w_t (pc := 76) (e_s := (1, 1, 1, 0, 0, .null, [])) (y_s := (77, [some (.ref _), some (.int _), some (.int _), some (.int _)], [.int _, .ref _], _)) rfl (u_ rfl) ?_
      refine w_t (pc := 77) (e_s := (1, 1, 3, 0, 0, .null, [])) (y_s := (78, [some (.ref _), some (.int _), some (.int _), some (.int _)], [.int _, .int _, .ref _], _)) rfl (u_ rfl) ?_
      refine w25 (pc := 78) (len_s := 1) rfl (hk.1 8 0 6 rfl rfl) (fun c4_s => ?_)
      replace t_s := t_s c4_s
      refine w_t (pc := 79) (e_s := (17, 3, 222, 0, 0, .null, [])) (y_s := (222, [some (.ref _), some (.int _), some (.int _), some (.int _)], [], _)) rfl (u_ rfl) ?_
      exact wrV (pc := 222) (len_s := 1) rfl hk t_s
    · replace t_s := t_s.2 c3_s
      refine wsc (X_s := 1) rfl (by decide) (fun c5_s => ?_) (fun c5_s => ?_)
      · replace t_s := t_s.1 c5_s
        refine w_t (pc := 82) (e_s := (3, 1, 0, 0, 0, .null, [])) (y_s := (83, [some (.ref _), some (.int _), some (.int _), some (.int _)], [.ref _], _)) rfl (u_ rfl) ?_
        refine w20r (pc := 83) (len_s := 3) (q_s := 9) rfl (krq hk rfl) ?_
        refine w_t (pc := 86) (e_s := (1, 1, 1, 0, 0, .null, [])) (y_s := (87, [some (.ref _), some (.int _), some (.int _), some (.int _)], [.int _, .ref _], _)) rfl (u_ rfl) ?_
        refine w_t (pc := 87) (e_s := (1, 1, 3, 0, 0, .null, [])) (y_s := (88, [some (.ref _), some (.int _), some (.int _), some (.int _)], [.int _, .int _, .ref _], _)) rfl (u_ rfl) ?_
        refine w25 (pc := 88) (len_s := 1) rfl (hk.1 9 0 6 rfl rfl) (fun c6_s => ?_)
        replace t_s := t_s c6_s
        refine w_t (pc := 89) (e_s := (17, 3, 222, 0, 0, .null, [])) (y_s := (222, [some (.ref _), some (.int _), some (.int _), some (.int _)], [], _)) rfl (u_ rfl) ?_
        exact wrV (pc := 222) (len_s := 1) rfl hk t_s
      · replace t_s := t_s.2 c5_s
        refine wsc (X_s := 2) rfl (by decide) (fun c7_s => ?_) (fun c7_s => ?_)
        · replace t_s := t_s.1 c7_s
          refine w_t (pc := 92) (e_s := (3, 1, 0, 0, 0, .null, [])) (y_s := (93, [some (.ref _), some (.int _), some (.int _), some (.int _)], [.ref _], _)) rfl (u_ rfl) ?_
          refine w20r (pc := 93) (len_s := 3) (q_s := 10) rfl (krq hk rfl) ?_
          refine w_t (pc := 96) (e_s := (1, 1, 1, 0, 0, .null, [])) (y_s := (97, [some (.ref _), some (.int _), some (.int _), some (.int _)], [.int _, .ref _], _)) rfl (u_ rfl) ?_
          refine w24 (g_s := fun j_ => 20 + j_) (pc := 97) (len_s := 1) hk rfl (hk.1 10 2 8 rfl rfl) kg10 (fun c8_s => ?_)
          replace t_s := t_s c8_s
          refine w_t (pc := 98) (e_s := (1, 1, 3, 0, 0, .null, [])) (y_s := (99, [some (.ref _), some (.int _), some (.int _), some (.int _)], [.int _, .ref _], _)) rfl (u_ rfl) ?_
          refine w21 (pc := 99) (len_s := 3) rfl ?_
          refine w_t (pc := 102) (e_s := (17, 3, 222, 0, 0, .null, [])) (y_s := (222, [some (.ref _), some (.int _), some (.int _), some (.int _)], [], _)) rfl (u_ rfl) ?_
          exact wrV (pc := 222) (len_s := 1) rfl hk t_s
        · replace t_s := t_s.2 c7_s
          refine wsc (X_s := 3) rfl (by decide) (fun c9_s => ?_) (fun c9_s => ?_)
          · replace t_s := t_s.1 c9_s
            refine w_t (pc := 105) (e_s := (3, 1, 0, 0, 0, .null, [])) (y_s := (106, [some (.ref _), some (.int _), some (.int _), some (.int _)], [.ref _], _)) rfl (u_ rfl) ?_
            refine w20r (pc := 106) (len_s := 3) (q_s := 10) rfl (krq hk rfl) ?_
            refine w_t (pc := 109) (e_s := (1, 1, 1, 0, 0, .null, [])) (y_s := (110, [some (.ref _), some (.int _), some (.int _), some (.int _)], [.int _, .ref _], _)) rfl (u_ rfl) ?_
            refine w24 (g_s := fun j_ => 20 + j_) (pc := 110) (len_s := 1) hk rfl (hk.1 10 2 8 rfl rfl) kg10 (fun c10_s => ?_)
            replace t_s := t_s c10_s
            refine w_t (pc := 111) (e_s := (1, 1, 3, 0, 0, .null, [])) (y_s := (112, [some (.ref _), some (.int _), some (.int _), some (.int _)], [.int _, .ref _], _)) rfl (u_ rfl) ?_
            refine w21 (pc := 112) (len_s := 3) rfl ?_
            refine w_t (pc := 115) (e_s := (17, 3, 222, 0, 0, .null, [])) (y_s := (222, [some (.ref _), some (.int _), some (.int _), some (.int _)], [], _)) rfl (u_ rfl) ?_
            exact wrV (pc := 222) (len_s := 1) rfl hk t_s
          · replace t_s := t_s.2 c9_s
            refine wsc (X_s := 4) rfl (by decide) (fun c11_s => ?_) (fun c11_s => ?_)
            · replace t_s := t_s.1 c11_s
              refine w_t (pc := 118) (e_s := (3, 1, 0, 0, 0, .null, [])) (y_s := (119, [some (.ref _), some (.int _), some (.int _), some (.int _)], [.ref _], _)) rfl (u_ rfl) ?_
              refine w20r (pc := 119) (len_s := 3) (q_s := 10) rfl (krq hk rfl) ?_
              refine w_t (pc := 122) (e_s := (1, 1, 1, 0, 0, .null, [])) (y_s := (123, [some (.ref _), some (.int _), some (.int _), some (.int _)], [.int _, .ref _], _)) rfl (u_ rfl) ?_
              refine w24 (g_s := fun j_ => 20 + j_) (pc := 123) (len_s := 1) hk rfl (hk.1 10 2 8 rfl rfl) kg10 (fun c12_s => ?_)
              replace t_s := t_s c12_s
              refine w_t (pc := 124) (e_s := (1, 1, 3, 0, 0, .null, [])) (y_s := (125, [some (.ref _), some (.int _), some (.int _), some (.int _)], [.int _, .ref _], _)) rfl (u_ rfl) ?_
              refine w21 (pc := 125) (len_s := 3) rfl ?_
              refine w_t (pc := 128) (e_s := (17, 3, 222, 0, 0, .null, [])) (y_s := (222, [some (.ref _), some (.int _), some (.int _), some (.int _)], [], _)) rfl (u_ rfl) ?_
              exact wrV (pc := 222) (len_s := 1) rfl hk t_s
            · replace t_s := t_s.2 c11_s
              refine wsc (X_s := 5) rfl (by decide) (fun c13_s => ?_) (fun c13_s => ?_)
              · replace t_s := t_s.1 c13_s
                refine w_t (pc := 131) (e_s := (3, 1, 0, 0, 0, .null, [])) (y_s := (132, [some (.ref _), some (.int _), some (.int _), some (.int _)], [.ref _], _)) rfl (u_ rfl) ?_
                refine w20r (pc := 132) (len_s := 3) (q_s := 10) rfl (krq hk rfl) ?_
                refine w_t (pc := 135) (e_s := (1, 1, 1, 0, 0, .null, [])) (y_s := (136, [some (.ref _), some (.int _), some (.int _), some (.int _)], [.int _, .ref _], _)) rfl (u_ rfl) ?_
                refine w24 (g_s := fun j_ => 20 + j_) (pc := 136) (len_s := 1) hk rfl (hk.1 10 2 8 rfl rfl) kg10 (fun c14_s => ?_)
                replace t_s := t_s c14_s
                refine w_t (pc := 137) (e_s := (1, 1, 3, 0, 0, .null, [])) (y_s := (138, [some (.ref _), some (.int _), some (.int _), some (.int _)], [.int _, .ref _], _)) rfl (u_ rfl) ?_
                refine w21 (pc := 138) (len_s := 3) rfl ?_
                refine w_t (pc := 141) (e_s := (17, 3, 222, 0, 0, .null, [])) (y_s := (222, [some (.ref _), some (.int _), some (.int _), some (.int _)], [], _)) rfl (u_ rfl) ?_
                exact wrV (pc := 222) (len_s := 1) rfl hk t_s
              · replace t_s := t_s.2 c13_s
                refine wsc (X_s := 6) rfl (by decide) (fun c15_s => ?_) (fun c15_s => ?_)
                · replace t_s := t_s.1 c15_s
                  refine w_t (pc := 144) (e_s := (3, 1, 0, 0, 0, .null, [])) (y_s := (145, [some (.ref _), some (.int _), some (.int _), some (.int _)], [.ref _], _)) rfl (u_ rfl) ?_
                  refine w20r (pc := 145) (len_s := 3) (q_s := 10) rfl (krq hk rfl) ?_
                  refine w_t (pc := 148) (e_s := (1, 1, 1, 0, 0, .null, [])) (y_s := (149, [some (.ref _), some (.int _), some (.int _), some (.int _)], [.int _, .ref _], _)) rfl (u_ rfl) ?_
                  refine w24 (g_s := fun j_ => 20 + j_) (pc := 149) (len_s := 1) hk rfl (hk.1 10 2 8 rfl rfl) kg10 (fun c16 => ?_)
                  replace t_s := t_s c16
                  refine w_t (pc := 150) (e_s := (1, 1, 3, 0, 0, .null, [])) (y_s := (151, [some (.ref _), some (.int _), some (.int _), some (.int _)], [.int _, .ref _], _)) rfl (u_ rfl) ?_
                  refine w21 (pc := 151) (len_s := 3) rfl ?_
                  refine w_t (pc := 154) (e_s := (17, 3, 222, 0, 0, .null, [])) (y_s := (222, [some (.ref _), some (.int _), some (.int _), some (.int _)], [], _)) rfl (u_ rfl) ?_
                  exact wrV (pc := 222) (len_s := 1) rfl hk t_s
                · replace t_s := t_s.2 c15_s
                  refine wsc (X_s := 7) rfl (by decide) (fun c17 => ?_) (fun c17 => ?_)
                  · replace t_s := t_s.1 c17
                    refine w_t (pc := 157) (e_s := (3, 1, 0, 0, 0, .null, [])) (y_s := (158, [some (.ref _), some (.int _), some (.int _), some (.int _)], [.ref _], _)) rfl (u_ rfl) ?_
                    refine w20r (pc := 158) (len_s := 3) (q_s := 10) rfl (krq hk rfl) ?_
                    refine w_t (pc := 161) (e_s := (1, 1, 1, 0, 0, .null, [])) (y_s := (162, [some (.ref _), some (.int _), some (.int _), some (.int _)], [.int _, .ref _], _)) rfl (u_ rfl) ?_
                    refine w24 (g_s := fun j_ => 20 + j_) (pc := 162) (len_s := 1) hk rfl (hk.1 10 2 8 rfl rfl) kg10 (fun c18_s => ?_)
                    replace t_s := t_s c18_s
                    refine w_t (pc := 163) (e_s := (1, 1, 3, 0, 0, .null, [])) (y_s := (164, [some (.ref _), some (.int _), some (.int _), some (.int _)], [.int _, .ref _], _)) rfl (u_ rfl) ?_
                    refine w21 (pc := 164) (len_s := 3) rfl ?_
                    refine w_t (pc := 167) (e_s := (17, 3, 222, 0, 0, .null, [])) (y_s := (222, [some (.ref _), some (.int _), some (.int _), some (.int _)], [], _)) rfl (u_ rfl) ?_
                    exact wrV (pc := 222) (len_s := 1) rfl hk t_s
                  · replace t_s := t_s.2 c17
                    refine wsc (X_s := 8) rfl (by decide) (fun c19_s => ?_) (fun c19_s => ?_)
                    · replace t_s := t_s.1 c19_s
                      refine w_t (pc := 170) (e_s := (3, 1, 0, 0, 0, .null, [])) (y_s := (171, [some (.ref _), some (.int _), some (.int _), some (.int _)], [.ref _], _)) rfl (u_ rfl) ?_
                      refine w20r (pc := 171) (len_s := 3) (q_s := 10) rfl (krq hk rfl) ?_
                      refine w_t (pc := 174) (e_s := (1, 1, 1, 0, 0, .null, [])) (y_s := (175, [some (.ref _), some (.int _), some (.int _), some (.int _)], [.int _, .ref _], _)) rfl (u_ rfl) ?_
                      refine w24 (g_s := fun j_ => 20 + j_) (pc := 175) (len_s := 1) hk rfl (hk.1 10 2 8 rfl rfl) kg10 (fun c20_s => ?_)
                      replace t_s := t_s c20_s
                      refine w_t (pc := 176) (e_s := (1, 1, 3, 0, 0, .null, [])) (y_s := (177, [some (.ref _), some (.int _), some (.int _), some (.int _)], [.int _, .ref _], _)) rfl (u_ rfl) ?_
                      refine w21 (pc := 177) (len_s := 3) rfl ?_
                      refine w_t (pc := 180) (e_s := (17, 3, 222, 0, 0, .null, [])) (y_s := (222, [some (.ref _), some (.int _), some (.int _), some (.int _)], [], _)) rfl (u_ rfl) ?_
                      exact wrV (pc := 222) (len_s := 1) rfl hk t_s
                    · replace t_s := t_s.2 c19_s
                      refine wsc (X_s := 9) rfl (by decide) (fun c21 => ?_) (fun c21 => ?_)
                      · replace t_s := t_s.1 c21
                        refine w_t (pc := 183) (e_s := (3, 1, 0, 0, 0, .null, [])) (y_s := (184, [some (.ref _), some (.int _), some (.int _), some (.int _)], [.ref _], _)) rfl (u_ rfl) ?_
                        refine w20r (pc := 184) (len_s := 3) (q_s := 11) rfl (krq hk rfl) ?_
                        refine w_t (pc := 187) (e_s := (1, 1, 1, 0, 0, .null, [])) (y_s := (188, [some (.ref _), some (.int _), some (.int _), some (.int _)], [.int _, .ref _], _)) rfl (u_ rfl) ?_
                        refine w24 (g_s := fun j_ => 28 + j_) (pc := 188) (len_s := 1) hk rfl (hk.1 11 3 12 rfl rfl) kg11 (fun c22 => ?_)
                        replace t_s := t_s c22
                        refine w_t (pc := 189) (e_s := (1, 1, 3, 0, 0, .null, [])) (y_s := (190, [some (.ref _), some (.int _), some (.int _), some (.int _)], [.int _, .ref _], _)) rfl (u_ rfl) ?_
                        refine w21 (pc := 190) (len_s := 3) rfl ?_
                        refine w_t (pc := 193) (e_s := (17, 3, 222, 0, 0, .null, [])) (y_s := (222, [some (.ref _), some (.int _), some (.int _), some (.int _)], [], _)) rfl (u_ rfl) ?_
                        exact wrV (pc := 222) (len_s := 1) rfl hk t_s
                      · replace t_s := t_s.2 c21
                        refine wsc (X_s := 10) rfl (by decide) (fun c23_s => ?_) (fun c23_s => ?_)
                        · replace t_s := t_s.1 c23_s
                          refine w_t (pc := 196) (e_s := (3, 1, 0, 0, 0, .null, [])) (y_s := (197, [some (.ref _), some (.int _), some (.int _), some (.int _)], [.ref _], _)) rfl (u_ rfl) ?_
                          refine w20r (pc := 197) (len_s := 3) (q_s := 11) rfl (krq hk rfl) ?_
                          refine w_t (pc := 200) (e_s := (1, 1, 1, 0, 0, .null, [])) (y_s := (201, [some (.ref _), some (.int _), some (.int _), some (.int _)], [.int _, .ref _], _)) rfl (u_ rfl) ?_
                          refine w24 (g_s := fun j_ => 28 + j_) (pc := 201) (len_s := 1) hk rfl (hk.1 11 3 12 rfl rfl) kg11 (fun c24_s => ?_)
                          replace t_s := t_s c24_s
                          refine w_t (pc := 202) (e_s := (1, 1, 3, 0, 0, .null, [])) (y_s := (203, [some (.ref _), some (.int _), some (.int _), some (.int _)], [.int _, .ref _], _)) rfl (u_ rfl) ?_
                          refine w21 (pc := 203) (len_s := 3) rfl ?_
                          refine w_t (pc := 206) (e_s := (17, 3, 222, 0, 0, .null, [])) (y_s := (222, [some (.ref _), some (.int _), some (.int _), some (.int _)], [], _)) rfl (u_ rfl) ?_
                          exact wrV (pc := 222) (len_s := 1) rfl hk t_s
                        · replace t_s := t_s.2 c23_s
                          refine wsc (X_s := 11) rfl (by decide) (fun c25_s => ?_) (fun c25_s => ?_)
                          · replace t_s := t_s.1 c25_s
                            refine w_t (pc := 209) (e_s := (3, 1, 0, 0, 0, .null, [])) (y_s := (210, [some (.ref _), some (.int _), some (.int _), some (.int _)], [.ref _], _)) rfl (u_ rfl) ?_
                            refine w20r (pc := 210) (len_s := 3) (q_s := 11) rfl (krq hk rfl) ?_
                            refine w_t (pc := 213) (e_s := (1, 1, 1, 0, 0, .null, [])) (y_s := (214, [some (.ref _), some (.int _), some (.int _), some (.int _)], [.int _, .ref _], _)) rfl (u_ rfl) ?_
                            refine w24 (g_s := fun j_ => 28 + j_) (pc := 214) (len_s := 1) hk rfl (hk.1 11 3 12 rfl rfl) kg11 (fun c26 => ?_)
                            replace t_s := t_s c26
                            refine w_t (pc := 215) (e_s := (1, 1, 3, 0, 0, .null, [])) (y_s := (216, [some (.ref _), some (.int _), some (.int _), some (.int _)], [.int _, .ref _], _)) rfl (u_ rfl) ?_
                            refine w21 (pc := 216) (len_s := 3) rfl ?_
                            refine w_t (pc := 219) (e_s := (17, 3, 222, 0, 0, .null, [])) (y_s := (222, [some (.ref _), some (.int _), some (.int _), some (.int _)], [], _)) rfl (u_ rfl) ?_
                            exact wrV (pc := 222) (len_s := 1) rfl hk t_s
                          · replace t_s := t_s.2 c25_s
                            show wF _ _ (222, _, _, _) _
                            exact wrV (pc := 222) (len_s := 1) rfl hk t_s
/-- ColdShod.of(II)I, from 0 on -/
theorem sg_99_0 {F_s : Nat} {x1_s : Int32} {x2_s : Int32} {h_s : zH} {K_s : Int32 → zH → Prop} (hk : hKn h_s) (t_s : wF F_s 20 (0, [some (.ref 7), some (.int x1_s), some (.int x2_s)], [], h_s) (gI (fun v1_s h1 => hKn h1 → K_s v1_s h1))) : wF (F_s + 1) 99 (0, [some (.ref 6), some (.int x1_s), some (.int x2_s)], [], h_s) (gI K_s) := by
  refine w_0 (pc := 0) (e_s := (3, 1, 0, 0, 0, .null, [])) (y_s := (1, [some (.ref _), some (.int _), some (.int _)], [.ref _], _)) rfl (u_ rfl) ?_
  refine w20r (pc := 1) (len_s := 3) (q_s := 7) rfl (krq hk rfl) ?_
  refine w_t (pc := 4) (e_s := (1, 1, 1, 0, 0, .null, [])) (y_s := (5, [some (.ref _), some (.int _), some (.int _)], [.int _, .ref _], _)) rfl (u_ rfl) ?_
  refine w_t (pc := 5) (e_s := (1, 1, 2, 0, 0, .null, [])) (y_s := (6, [some (.ref _), some (.int _), some (.int _)], [.int _, .int _, .ref _], _)) rfl (u_ rfl) ?_
  refine wcI (pc := 6) (len_s := 3) rfl rfl (l := [some (.ref _), some (.int _), some (.int _)]) rfl (wmI t_s (fun v1_s h1 hk t_s => ?_))
  replace t_s := t_s hk
  exact wrI (pc := 9) (len_s := 1) rfl hk t_s
/-- ColdShod$Changes.takeBack(LColdShod$Country;)V, from 0 on -/
theorem sg_11_0 {F_s : Nat}  {h_s : zH} {K_s : zH → Prop} (hk : hKn h_s) (t_s : (0 < (h_s.2.1 42 0).toInt → (zix ((h_s.2.1 42 0) - 1) < 40 → wF F_s 21 (0, [some (.ref 7), some (.int (h_s.2.1 43 (zix ((h_s.2.1 42 0) - 1)))), some (.int (h_s.2.1 44 (zix ((h_s.2.1 42 0) - 1)))), some (.int (h_s.2.1 45 (zix ((h_s.2.1 42 0) - 1))))], [], (h_s.1, zup (zup h_s.2.1 42 0 ((h_s.2.1 42 0) - 1)) 42 1 ((h_s.2.1 42 1) + 1), h_s.2.2.1, h_s.2.2.2)) (gV (fun h5 => hKn h5 → K_s h5)))) ∧ (¬ 0 < (h_s.2.1 42 0).toInt → K_s h_s)) : wF (F_s + 1) 11 (0, [some (.ref 42), some (.ref 7)], [], h_s) (gV K_s) := by
  refine w_0 (pc := 0) (e_s := (3, 1, 0, 0, 0, .null, [])) (y_s := (1, [some (.ref _), some (.ref _)], [.ref _], _)) rfl (u_ rfl) ?_
  refine w20 (pc := 1) (len_s := 3) rfl ?_
  refine wq4 (pc := 4) (len_s := 3) rfl rfl (fun c1_s => ?_) (fun c1_s => ?_)
  · replace t_s := t_s.1 c1_s
    refine w_t (pc := 8) (e_s := (3, 1, 0, 0, 0, .null, [])) (y_s := (9, [some (.ref _), some (.ref _)], [.ref _], _)) rfl (u_ rfl) ?_
    refine w_t (pc := 9) (e_s := (39, 1, 0, 0, 0, .null, [])) (y_s := (10, [some (.ref _), some (.ref _)], [.ref _, .ref _], _)) rfl (u_ rfl) ?_
    refine w20 (pc := 10) (len_s := 3) rfl ?_
    refine w_t (pc := 13) (e_s := (0, 1, 0, 0, 0, .int 1, [])) (y_s := (14, [some (.ref _), some (.ref _)], [.int _, .int _, .ref _], _)) rfl (u_ rfl) ?_
    refine w_t (pc := 14) (e_s := (7, 1, 0, 1, 0, .null, [])) (y_s := (15, [some (.ref _), some (.ref _)], [.int (_ - _), .ref _], _)) rfl (u_ rfl) ?_
    refine w21 (pc := 15) (len_s := 3) rfl ?_
    refine w_t (pc := 18) (e_s := (3, 1, 0, 0, 0, .null, [])) (y_s := (19, [some (.ref _), some (.ref _)], [.ref _], _)) rfl (u_ rfl) ?_
    refine w_t (pc := 19) (e_s := (39, 1, 0, 0, 0, .null, [])) (y_s := (20, [some (.ref _), some (.ref _)], [.ref _, .ref _], _)) rfl (u_ rfl) ?_
    refine w20 (pc := 20) (len_s := 3) rfl ?_
    refine w_t (pc := 23) (e_s := (0, 1, 0, 0, 0, .int 1, [])) (y_s := (24, [some (.ref _), some (.ref _)], [.int _, .int _, .ref _], _)) rfl (u_ rfl) ?_
    refine w_t (pc := 24) (e_s := (7, 1, 0, 0, 0, .null, [])) (y_s := (25, [some (.ref _), some (.ref _)], [.int (_ + _), .ref _], _)) rfl (u_ rfl) ?_
    refine w21 (pc := 25) (len_s := 3) rfl ?_
    refine w_t (pc := 28) (e_s := (3, 1, 1, 0, 0, .null, [])) (y_s := (29, [some (.ref _), some (.ref _)], [.ref _], _)) rfl (u_ rfl) ?_
    refine w_t (pc := 29) (e_s := (3, 1, 0, 0, 0, .null, [])) (y_s := (30, [some (.ref _), some (.ref _)], [.ref _, .ref _], _)) rfl (u_ rfl) ?_
    refine w20r (pc := 30) (len_s := 3) (q_s := 43) rfl (krq hk rfl) ?_
    refine w_t (pc := 33) (e_s := (3, 1, 0, 0, 0, .null, [])) (y_s := (34, [some (.ref _), some (.ref _)], [.ref _, .ref _, .ref _], _)) rfl (u_ rfl) ?_
    refine w20 (pc := 34) (len_s := 3) rfl ?_
    refine w22 (pc := 37) (len_s := 1) rfl (hk.1 43 0 40 rfl rfl) (fun c2_s => ?_)
    replace t_s := t_s c2_s
    refine w_t (pc := 38) (e_s := (3, 1, 0, 0, 0, .null, [])) (y_s := (39, [some (.ref _), some (.ref _)], [.ref _, .int _, .ref _], _)) rfl (u_ rfl) ?_
    refine w20r (pc := 39) (len_s := 3) (q_s := 44) rfl (krq hk rfl) ?_
    refine w_t (pc := 42) (e_s := (3, 1, 0, 0, 0, .null, [])) (y_s := (43, [some (.ref _), some (.ref _)], [.ref _, .ref _, .int _, .ref _], _)) rfl (u_ rfl) ?_
    refine w20 (pc := 43) (len_s := 3) rfl ?_
    refine w22 (pc := 46) (len_s := 1) rfl (hk.1 44 0 40 rfl rfl) (fun c3_s => ?_)
    refine w_t (pc := 47) (e_s := (3, 1, 0, 0, 0, .null, [])) (y_s := (48, [some (.ref _), some (.ref _)], [.ref _, .int _, .int _, .ref _], _)) rfl (u_ rfl) ?_
    refine w20r (pc := 48) (len_s := 3) (q_s := 45) rfl (krq hk rfl) ?_
    refine w_t (pc := 51) (e_s := (3, 1, 0, 0, 0, .null, [])) (y_s := (52, [some (.ref _), some (.ref _)], [.ref _, .ref _, .int _, .int _, .ref _], _)) rfl (u_ rfl) ?_
    refine w20 (pc := 52) (len_s := 3) rfl ?_
    refine w22 (pc := 55) (len_s := 1) rfl (hk.1 45 0 40 rfl rfl) (fun c4_s => ?_)
    refine wcV (pc := 56) (len_s := 3) rfl rfl (l := [some (.ref _), some (.int _), some (.int _), some (.int _)]) rfl (wmV t_s (fun h5 hk t_s => ?_))
    replace t_s := t_s hk
    exact wrV (pc := 59) (len_s := 1) rfl hk t_s
  · replace t_s := t_s.2 c1_s
    exact wrV (pc := 7) (len_s := 1) rfl hk t_s
/-- ColdShod$Changes.doAgain(LColdShod$Country;)V, from 0 on -/
theorem sg_12_0 {F_s : Nat}  {h_s : zH} {K_s : zH → Prop} (hk : hKn h_s) (t_s : (0 < (h_s.2.1 42 1).toInt → (((h_s.2.1 42 0).toInt < 40 → (zix (h_s.2.1 42 0) < 40 → wF F_s 21 (0, [some (.ref 7), some (.int (h_s.2.1 43 (zix (h_s.2.1 42 0)))), some (.int (h_s.2.1 44 (zix (h_s.2.1 42 0)))), some (.int (h_s.2.1 46 (zix (h_s.2.1 42 0))))], [], h_s) (gV (fun h6 => hKn h6 → K_s (h6.1, zup (zup h6.2.1 42 0 ((h6.2.1 42 0) + 1)) 42 1 ((h6.2.1 42 1) - 1), h6.2.2.1, h6.2.2.2))))) ∧ (¬ (h_s.2.1 42 0).toInt < 40 → K_s h_s))) ∧ (¬ 0 < (h_s.2.1 42 1).toInt → K_s h_s)) : wF (F_s + 1) 12 (0, [some (.ref 42), some (.ref 7)], [], h_s) (gV K_s) := by
  refine w_0 (pc := 0) (e_s := (3, 1, 0, 0, 0, .null, [])) (y_s := (1, [some (.ref _), some (.ref _)], [.ref _], _)) rfl (u_ rfl) ?_
  refine w20 (pc := 1) (len_s := 3) rfl ?_
  refine wq5 (pc := 4) (len_s := 3) rfl rfl (fun c1_s => ?_) (fun c1_s => ?_)
  · replace t_s := t_s.1 c1_s
    refine w_t (pc := 7) (e_s := (3, 1, 0, 0, 0, .null, [])) (y_s := (8, [some (.ref _), some (.ref _)], [.ref _], _)) rfl (u_ rfl) ?_
    refine w20 (pc := 8) (len_s := 3) rfl ?_
    refine w_t (pc := 11) (e_s := (0, 2, 0, 0, 0, .int 40, [])) (y_s := (13, [some (.ref _), some (.ref _)], [.int _, .int _], _)) rfl (u_ rfl) ?_
    refine wi2 (pc := 13) (len_s := 3) (Y := 40) rfl rfl (by decide) (fun c2_s => ?_) (fun c2_s => ?_)
    · replace t_s := t_s.1 c2_s
      refine w_t (pc := 17) (e_s := (3, 1, 1, 0, 0, .null, [])) (y_s := (18, [some (.ref _), some (.ref _)], [.ref _], _)) rfl (u_ rfl) ?_
      refine w_t (pc := 18) (e_s := (3, 1, 0, 0, 0, .null, [])) (y_s := (19, [some (.ref _), some (.ref _)], [.ref _, .ref _], _)) rfl (u_ rfl) ?_
      refine w20r (pc := 19) (len_s := 3) (q_s := 43) rfl (krq hk rfl) ?_
      refine w_t (pc := 22) (e_s := (3, 1, 0, 0, 0, .null, [])) (y_s := (23, [some (.ref _), some (.ref _)], [.ref _, .ref _, .ref _], _)) rfl (u_ rfl) ?_
      refine w20 (pc := 23) (len_s := 3) rfl ?_
      refine w22 (pc := 26) (len_s := 1) rfl (hk.1 43 0 40 rfl rfl) (fun c3_s => ?_)
      replace t_s := t_s c3_s
      refine w_t (pc := 27) (e_s := (3, 1, 0, 0, 0, .null, [])) (y_s := (28, [some (.ref _), some (.ref _)], [.ref _, .int _, .ref _], _)) rfl (u_ rfl) ?_
      refine w20r (pc := 28) (len_s := 3) (q_s := 44) rfl (krq hk rfl) ?_
      refine w_t (pc := 31) (e_s := (3, 1, 0, 0, 0, .null, [])) (y_s := (32, [some (.ref _), some (.ref _)], [.ref _, .ref _, .int _, .ref _], _)) rfl (u_ rfl) ?_
      refine w20 (pc := 32) (len_s := 3) rfl ?_
      refine w22 (pc := 35) (len_s := 1) rfl (hk.1 44 0 40 rfl rfl) (fun c4_s => ?_)
      refine w_t (pc := 36) (e_s := (3, 1, 0, 0, 0, .null, [])) (y_s := (37, [some (.ref _), some (.ref _)], [.ref _, .int _, .int _, .ref _], _)) rfl (u_ rfl) ?_
      refine w20r (pc := 37) (len_s := 3) (q_s := 46) rfl (krq hk rfl) ?_
      refine w_t (pc := 40) (e_s := (3, 1, 0, 0, 0, .null, [])) (y_s := (41, [some (.ref _), some (.ref _)], [.ref _, .ref _, .int _, .int _, .ref _], _)) rfl (u_ rfl) ?_
      refine w20 (pc := 41) (len_s := 3) rfl ?_
      refine w22 (pc := 44) (len_s := 1) rfl (hk.1 46 0 40 rfl rfl) (fun c5_s => ?_)
      refine wcV (pc := 45) (len_s := 3) rfl rfl (l := [some (.ref _), some (.int _), some (.int _), some (.int _)]) rfl (wmV t_s (fun h6 hk t_s => ?_))
      replace t_s := t_s hk
      refine w_t (pc := 48) (e_s := (3, 1, 0, 0, 0, .null, [])) (y_s := (49, [some (.ref _), some (.ref _)], [.ref _], _)) rfl (u_ rfl) ?_
      refine w_t (pc := 49) (e_s := (39, 1, 0, 0, 0, .null, [])) (y_s := (50, [some (.ref _), some (.ref _)], [.ref _, .ref _], _)) rfl (u_ rfl) ?_
      refine w20 (pc := 50) (len_s := 3) rfl ?_
      refine w_t (pc := 53) (e_s := (0, 1, 0, 0, 0, .int 1, [])) (y_s := (54, [some (.ref _), some (.ref _)], [.int _, .int _, .ref _], _)) rfl (u_ rfl) ?_
      refine w_t (pc := 54) (e_s := (7, 1, 0, 0, 0, .null, [])) (y_s := (55, [some (.ref _), some (.ref _)], [.int (_ + _), .ref _], _)) rfl (u_ rfl) ?_
      refine w21 (pc := 55) (len_s := 3) rfl ?_
      refine w_t (pc := 58) (e_s := (3, 1, 0, 0, 0, .null, [])) (y_s := (59, [some (.ref _), some (.ref _)], [.ref _], _)) rfl (u_ rfl) ?_
      refine w_t (pc := 59) (e_s := (39, 1, 0, 0, 0, .null, [])) (y_s := (60, [some (.ref _), some (.ref _)], [.ref _, .ref _], _)) rfl (u_ rfl) ?_
      refine w20 (pc := 60) (len_s := 3) rfl ?_
      refine w_t (pc := 63) (e_s := (0, 1, 0, 0, 0, .int 1, [])) (y_s := (64, [some (.ref _), some (.ref _)], [.int _, .int _, .ref _], _)) rfl (u_ rfl) ?_
      refine w_t (pc := 64) (e_s := (7, 1, 0, 1, 0, .null, [])) (y_s := (65, [some (.ref _), some (.ref _)], [.int (_ - _), .ref _], _)) rfl (u_ rfl) ?_
      refine w21 (pc := 65) (len_s := 3) rfl ?_
      exact wrV (pc := 68) (len_s := 1) rfl hk t_s
    · replace t_s := t_s.2 c2_s
      exact wrV (pc := 16) (len_s := 1) rfl hk t_s
  · replace t_s := t_s.2 c1_s
    exact wrV (pc := 16) (len_s := 1) rfl hk t_s
/-- ColdShod.undo()I, from 0 on -/
theorem sg_123_0 {F_s : Nat}  {h_s : zH} {K_s : Int32 → zH → Prop} (hk : hKn h_s) (t_s : ((h_s.2.1 42 0).toInt = 0 → K_s (-5) h_s) ∧ (¬ (h_s.2.1 42 0).toInt = 0 → wF F_s 11 (0, [some (.ref 42), some (.ref 7)], [], h_s) (gV (fun h2 => hKn h2 → K_s (h2.2.1 42 0) h2)))) : wF (F_s + 1) 123 (0, [some (.ref 6)], [], h_s) (gI K_s) := by
  refine w_0 (pc := 0) (e_s := (3, 1, 0, 0, 0, .null, [])) (y_s := (1, [some (.ref _)], [.ref _], _)) rfl (u_ rfl) ?_
  refine w20r (pc := 1) (len_s := 3) (q_s := 42) rfl (krq hk rfl) ?_
  refine w20 (pc := 4) (len_s := 3) rfl ?_
  refine wq1 (pc := 7) (len_s := 3) rfl rfl (fun c1_s => ?_) (fun c1_s => ?_)
  · replace t_s := t_s.1 c1_s
    refine w_t (pc := 10) (e_s := (0, 2, 0, 0, 0, .int (-5), [])) (y_s := (12, [some (.ref _)], [.int _], _)) rfl (u_ rfl) ?_
    exact wrI (pc := 12) (len_s := 1) rfl hk t_s
  · replace t_s := t_s.2 c1_s
    refine w_t (pc := 13) (e_s := (3, 1, 0, 0, 0, .null, [])) (y_s := (14, [some (.ref _)], [.ref _], _)) rfl (u_ rfl) ?_
    refine w20r (pc := 14) (len_s := 3) (q_s := 42) rfl (krq hk rfl) ?_
    refine w_t (pc := 17) (e_s := (3, 1, 0, 0, 0, .null, [])) (y_s := (18, [some (.ref _)], [.ref _, .ref _], _)) rfl (u_ rfl) ?_
    refine w20r (pc := 18) (len_s := 3) (q_s := 7) rfl (krq hk rfl) ?_
    refine wcV (pc := 21) (len_s := 3) rfl rfl (l := [some (.ref _), some (.ref _)]) rfl (wmV t_s (fun h2 hk t_s => ?_))
    replace t_s := t_s hk
    refine w_t (pc := 24) (e_s := (3, 1, 0, 0, 0, .null, [])) (y_s := (25, [some (.ref _)], [.ref _], _)) rfl (u_ rfl) ?_
    refine w20r (pc := 25) (len_s := 3) (q_s := 42) rfl (krq hk rfl) ?_
    refine w20 (pc := 28) (len_s := 3) rfl ?_
    exact wrI (pc := 31) (len_s := 1) rfl hk t_s
/-- ColdShod.redo()I, from 0 on -/
theorem sg_124_0 {F_s : Nat}  {h_s : zH} {K_s : Int32 → zH → Prop} (hk : hKn h_s) (t_s : ((h_s.2.1 42 1).toInt = 0 → K_s (-5) h_s) ∧ (¬ (h_s.2.1 42 1).toInt = 0 → wF F_s 12 (0, [some (.ref 42), some (.ref 7)], [], h_s) (gV (fun h2 => hKn h2 → K_s (h2.2.1 42 1) h2)))) : wF (F_s + 1) 124 (0, [some (.ref 6)], [], h_s) (gI K_s) := by
  refine w_0 (pc := 0) (e_s := (3, 1, 0, 0, 0, .null, [])) (y_s := (1, [some (.ref _)], [.ref _], _)) rfl (u_ rfl) ?_
  refine w20r (pc := 1) (len_s := 3) (q_s := 42) rfl (krq hk rfl) ?_
  refine w20 (pc := 4) (len_s := 3) rfl ?_
  refine wq1 (pc := 7) (len_s := 3) rfl rfl (fun c1_s => ?_) (fun c1_s => ?_)
  · replace t_s := t_s.1 c1_s
    refine w_t (pc := 10) (e_s := (0, 2, 0, 0, 0, .int (-5), [])) (y_s := (12, [some (.ref _)], [.int _], _)) rfl (u_ rfl) ?_
    exact wrI (pc := 12) (len_s := 1) rfl hk t_s
  · replace t_s := t_s.2 c1_s
    refine w_t (pc := 13) (e_s := (3, 1, 0, 0, 0, .null, [])) (y_s := (14, [some (.ref _)], [.ref _], _)) rfl (u_ rfl) ?_
    refine w20r (pc := 14) (len_s := 3) (q_s := 42) rfl (krq hk rfl) ?_
    refine w_t (pc := 17) (e_s := (3, 1, 0, 0, 0, .null, [])) (y_s := (18, [some (.ref _)], [.ref _, .ref _], _)) rfl (u_ rfl) ?_
    refine w20r (pc := 18) (len_s := 3) (q_s := 7) rfl (krq hk rfl) ?_
    refine wcV (pc := 21) (len_s := 3) rfl rfl (l := [some (.ref _), some (.ref _)]) rfl (wmV t_s (fun h2 hk t_s => ?_))
    replace t_s := t_s hk
    refine w_t (pc := 24) (e_s := (3, 1, 0, 0, 0, .null, [])) (y_s := (25, [some (.ref _)], [.ref _], _)) rfl (u_ rfl) ?_
    refine w20r (pc := 25) (len_s := 3) (q_s := 42) rfl (krq hk rfl) ?_
    refine w20 (pc := 28) (len_s := 3) rfl ?_
    exact wrI (pc := 31) (len_s := 1) rfl hk t_s
/-- ColdShodModel.placeOf(II)I, from 0 on -/
theorem sg_161_0 {F_s : Nat} {x1_s : Int32} {x2_s : Int32} {h_s : zH} {K_s : Int32 → zH → Prop} (hk : hKn h_s) (t_s : (x2_s.toInt < 0 → ((x2_s.toInt < 2 → ((x2_s.toInt < 9 → K_s (-1) h_s) ∧ (¬ x2_s.toInt < 9 → ((11 < x2_s.toInt → K_s (-1) h_s) ∧ (¬ 11 < x2_s.toInt → ((x1_s.toInt < 0 → K_s (-1) h_s) ∧ (¬ x1_s.toInt < 0 → ((((h_s.2.1 102 8) - 1).toInt < x1_s.toInt → K_s (-1) h_s) ∧ (¬ ((h_s.2.1 102 8) - 1).toInt < x1_s.toInt → K_s ((68 + (12 * (x2_s - 9))) + x1_s) h_s))))))))) ∧ (¬ x2_s.toInt < 2 → ((8 < x2_s.toInt → ((x2_s.toInt < 9 → K_s (-1) h_s) ∧ (¬ x2_s.toInt < 9 → ((11 < x2_s.toInt → K_s (-1) h_s) ∧ (¬ 11 < x2_s.toInt → ((x1_s.toInt < 0 → K_s (-1) h_s) ∧ (¬ x1_s.toInt < 0 → ((((h_s.2.1 102 8) - 1).toInt < x1_s.toInt → K_s (-1) h_s) ∧ (¬ ((h_s.2.1 102 8) - 1).toInt < x1_s.toInt → K_s ((68 + (12 * (x2_s - 9))) + x1_s) h_s))))))))) ∧ (¬ 8 < x2_s.toInt → ((x1_s.toInt < 0 → K_s (-1) h_s) ∧ (¬ x1_s.toInt < 0 → ((((h_s.2.1 102 7) - 1).toInt < x1_s.toInt → K_s (-1) h_s) ∧ (¬ ((h_s.2.1 102 7) - 1).toInt < x1_s.toInt → K_s ((12 + (8 * (x2_s - 2))) + x1_s) h_s))))))))) ∧ (¬ x2_s.toInt < 0 → ((1 < x2_s.toInt → ((x2_s.toInt < 2 → ((x2_s.toInt < 9 → K_s (-1) h_s) ∧ (¬ x2_s.toInt < 9 → ((11 < x2_s.toInt → K_s (-1) h_s) ∧ (¬ 11 < x2_s.toInt → ((x1_s.toInt < 0 → K_s (-1) h_s) ∧ (¬ x1_s.toInt < 0 → ((((h_s.2.1 102 8) - 1).toInt < x1_s.toInt → K_s (-1) h_s) ∧ (¬ ((h_s.2.1 102 8) - 1).toInt < x1_s.toInt → K_s ((68 + (12 * (x2_s - 9))) + x1_s) h_s))))))))) ∧ (¬ x2_s.toInt < 2 → ((8 < x2_s.toInt → ((x2_s.toInt < 9 → K_s (-1) h_s) ∧ (¬ x2_s.toInt < 9 → ((11 < x2_s.toInt → K_s (-1) h_s) ∧ (¬ 11 < x2_s.toInt → ((x1_s.toInt < 0 → K_s (-1) h_s) ∧ (¬ x1_s.toInt < 0 → ((((h_s.2.1 102 8) - 1).toInt < x1_s.toInt → K_s (-1) h_s) ∧ (¬ ((h_s.2.1 102 8) - 1).toInt < x1_s.toInt → K_s ((68 + (12 * (x2_s - 9))) + x1_s) h_s))))))))) ∧ (¬ 8 < x2_s.toInt → ((x1_s.toInt < 0 → K_s (-1) h_s) ∧ (¬ x1_s.toInt < 0 → ((((h_s.2.1 102 7) - 1).toInt < x1_s.toInt → K_s (-1) h_s) ∧ (¬ ((h_s.2.1 102 7) - 1).toInt < x1_s.toInt → K_s ((12 + (8 * (x2_s - 2))) + x1_s) h_s))))))))) ∧ (¬ 1 < x2_s.toInt → ((x1_s.toInt < 0 → K_s (-1) h_s) ∧ (¬ x1_s.toInt < 0 → ((((h_s.2.1 102 6) - 1).toInt < x1_s.toInt → K_s (-1) h_s) ∧ (¬ ((h_s.2.1 102 6) - 1).toInt < x1_s.toInt → K_s ((6 * x2_s) + x1_s) h_s)))))))) : wF (F_s + 1) 161 (0, [some (.ref 102), some (.int x1_s), some (.int x2_s)], [], h_s) (gI K_s) := by
  refine w_0 (pc := 0) (e_s := (1, 1, 2, 0, 0, .null, [])) (y_s := (1, [some (.ref _), some (.int _), some (.int _)], [.int _], _)) rfl (u_ rfl) ?_
  refine w_t (pc := 1) (e_s := (10, 1, 0, 0, 0, .null, [])) (y_s := (2, [some (.ref _), some (.int _), some (.int _)], [.long (Int32.toInt64 _)], _)) rfl (u_ rfl) ?_
  refine w_t (pc := 2) (e_s := (0, 1, 0, 0, 0, .long 0, [])) (y_s := (3, [some (.ref _), some (.int _), some (.int _)], [.long _, .long _], _)) rfl (u_ rfl) ?_
  refine w_t (pc := 3) (e_s := (0, 1, 0, 0, 0, .long 1, [])) (y_s := (4, [some (.ref _), some (.int _), some (.int _)], [.long _, .long _, .long _], _)) rfl (u_ rfl) ?_
  refine wcI (pc := 4) (len_s := 3) rfl rfl (l := [some (.long _), none, some (.long _), none, some (.long _), none]) rfl ?_
  refine w_t (pc := 0) (e_s := (2, 1, 0, 0, 0, .null, [])) (y_s := (1, [some (.long _), none, some (.long _), none, some (.long _), none], [.long _], _)) rfl (u_ rfl) ?_
  refine w_t (pc := 1) (e_s := (2, 1, 2, 0, 0, .null, [])) (y_s := (2, [some (.long _), none, some (.long _), none, some (.long _), none], [.long _, .long _], _)) rfl (u_ rfl) ?_
  refine w_t (pc := 2) (e_s := (14, 1, 0, 0, 0, .null, [])) (y_s := (3, [some (.long _), none, some (.long _), none, some (.long _), none], [.int (lg_cmp _ _)], _)) rfl (u_ rfl) ?_
  refine wl2 (pc := 3) (len_s := 3) (Y := 0) rfl (Int32.toInt_toInt64 _) (by decide) (fun c1_s => ?_) (fun c1_s => ?_)
  · replace t_s := t_s.1 c1_s
    refine w_t (pc := 17) (e_s := (0, 1, 0, 0, 0, .int 0, [])) (y_s := (18, [some (.long _), none, some (.long _), none, some (.long _), none], [.int _], _)) rfl (u_ rfl) ?_
    refine wrI (pc := 18) (len_s := 1) rfl hk ?_
    show wF _ 161 (7, [some (.ref _), some (.int _), some (.int _)], [.int _], _) _
    refine w_t (pc := 7) (e_s := (15, 3, 30, 0, 0, .null, [])) (y_s := (30, [some (.ref _), some (.int _), some (.int _)], [], _)) rfl (u_ rfl) ?_
    refine w_t (pc := 30) (e_s := (1, 1, 2, 0, 0, .null, [])) (y_s := (31, [some (.ref _), some (.int _), some (.int _)], [.int _], _)) rfl (u_ rfl) ?_
    refine w_t (pc := 31) (e_s := (10, 1, 0, 0, 0, .null, [])) (y_s := (32, [some (.ref _), some (.int _), some (.int _)], [.long (Int32.toInt64 _)], _)) rfl (u_ rfl) ?_
    refine w_t (pc := 32) (e_s := (0, 3, 0, 0, 0, .long 2, [(0, 1072)])) (y_s := (35, [some (.ref _), some (.int _), some (.int _)], [.long _, .long _], _)) rfl (u_ rfl) ?_
    refine w_t (pc := 35) (e_s := (0, 3, 0, 0, 0, .long 8, [(0, 1073)])) (y_s := (38, [some (.ref _), some (.int _), some (.int _)], [.long _, .long _, .long _], _)) rfl (u_ rfl) ?_
    refine wcI (pc := 38) (len_s := 3) rfl rfl (l := [some (.long _), none, some (.long _), none, some (.long _), none]) rfl ?_
    refine w_t (pc := 0) (e_s := (2, 1, 0, 0, 0, .null, [])) (y_s := (1, [some (.long _), none, some (.long _), none, some (.long _), none], [.long _], _)) rfl (u_ rfl) ?_
    refine w_t (pc := 1) (e_s := (2, 1, 2, 0, 0, .null, [])) (y_s := (2, [some (.long _), none, some (.long _), none, some (.long _), none], [.long _, .long _], _)) rfl (u_ rfl) ?_
    refine w_t (pc := 2) (e_s := (14, 1, 0, 0, 0, .null, [])) (y_s := (3, [some (.long _), none, some (.long _), none, some (.long _), none], [.int (lg_cmp _ _)], _)) rfl (u_ rfl) ?_
    refine wl2 (pc := 3) (len_s := 3) (Y := 2) rfl (Int32.toInt_toInt64 _) (by decide) (fun c2_s => ?_) (fun c2_s => ?_)
    · replace t_s := t_s.1 c2_s
      refine w_t (pc := 17) (e_s := (0, 1, 0, 0, 0, .int 0, [])) (y_s := (18, [some (.long _), none, some (.long _), none, some (.long _), none], [.int _], _)) rfl (u_ rfl) ?_
      refine wrI (pc := 18) (len_s := 1) rfl hk ?_
      show wF _ 161 (41, [some (.ref _), some (.int _), some (.int _)], [.int _], _) _
      refine w_t (pc := 41) (e_s := (15, 3, 69, 0, 0, .null, [])) (y_s := (69, [some (.ref _), some (.int _), some (.int _)], [], _)) rfl (u_ rfl) ?_
      refine w_t (pc := 69) (e_s := (1, 1, 2, 0, 0, .null, [])) (y_s := (70, [some (.ref _), some (.int _), some (.int _)], [.int _], _)) rfl (u_ rfl) ?_
      refine w_t (pc := 70) (e_s := (10, 1, 0, 0, 0, .null, [])) (y_s := (71, [some (.ref _), some (.int _), some (.int _)], [.long (Int32.toInt64 _)], _)) rfl (u_ rfl) ?_
      refine w_t (pc := 71) (e_s := (0, 3, 0, 0, 0, .long 9, [(0, 1066)])) (y_s := (74, [some (.ref _), some (.int _), some (.int _)], [.long _, .long _], _)) rfl (u_ rfl) ?_
      refine w_t (pc := 74) (e_s := (0, 3, 0, 0, 0, .long 11, [(0, 1075)])) (y_s := (77, [some (.ref _), some (.int _), some (.int _)], [.long _, .long _, .long _], _)) rfl (u_ rfl) ?_
      refine wcI (pc := 77) (len_s := 3) rfl rfl (l := [some (.long _), none, some (.long _), none, some (.long _), none]) rfl ?_
      refine w_t (pc := 0) (e_s := (2, 1, 0, 0, 0, .null, [])) (y_s := (1, [some (.long _), none, some (.long _), none, some (.long _), none], [.long _], _)) rfl (u_ rfl) ?_
      refine w_t (pc := 1) (e_s := (2, 1, 2, 0, 0, .null, [])) (y_s := (2, [some (.long _), none, some (.long _), none, some (.long _), none], [.long _, .long _], _)) rfl (u_ rfl) ?_
      refine w_t (pc := 2) (e_s := (14, 1, 0, 0, 0, .null, [])) (y_s := (3, [some (.long _), none, some (.long _), none, some (.long _), none], [.int (lg_cmp _ _)], _)) rfl (u_ rfl) ?_
      refine wl2 (pc := 3) (len_s := 3) (Y := 9) rfl (Int32.toInt_toInt64 _) (by decide) (fun c3_s => ?_) (fun c3_s => ?_)
      · replace t_s := t_s.1 c3_s
        refine w_t (pc := 17) (e_s := (0, 1, 0, 0, 0, .int 0, [])) (y_s := (18, [some (.long _), none, some (.long _), none, some (.long _), none], [.int _], _)) rfl (u_ rfl) ?_
        refine wrI (pc := 18) (len_s := 1) rfl hk ?_
        show wF _ 161 (80, [some (.ref _), some (.int _), some (.int _)], [.int _], _) _
        refine w_t (pc := 80) (e_s := (15, 3, 107, 0, 0, .null, [])) (y_s := (107, [some (.ref _), some (.int _), some (.int _)], [], _)) rfl (u_ rfl) ?_
        refine w_t (pc := 107) (e_s := (0, 1, 0, 0, 0, .int (-1), [])) (y_s := (108, [some (.ref _), some (.int _), some (.int _)], [.int _], _)) rfl (u_ rfl) ?_
        exact wrI (pc := 108) (len_s := 1) rfl hk t_s
      · replace t_s := t_s.2 c3_s
        refine w_t (pc := 6) (e_s := (2, 1, 0, 0, 0, .null, [])) (y_s := (7, [some (.long _), none, some (.long _), none, some (.long _), none], [.long _], _)) rfl (u_ rfl) ?_
        refine w_t (pc := 7) (e_s := (2, 2, 4, 0, 0, .null, [])) (y_s := (9, [some (.long _), none, some (.long _), none, some (.long _), none], [.long _, .long _], _)) rfl (u_ rfl) ?_
        refine w_t (pc := 9) (e_s := (14, 1, 0, 0, 0, .null, [])) (y_s := (10, [some (.long _), none, some (.long _), none, some (.long _), none], [.int (lg_cmp _ _)], _)) rfl (u_ rfl) ?_
        refine wl4 (pc := 10) (len_s := 3) (Y := 11) rfl (Int32.toInt_toInt64 _) (by decide) (fun c4_s => ?_) (fun c4_s => ?_)
        · replace t_s := t_s.1 c4_s
          refine w_t (pc := 17) (e_s := (0, 1, 0, 0, 0, .int 0, [])) (y_s := (18, [some (.long _), none, some (.long _), none, some (.long _), none], [.int _], _)) rfl (u_ rfl) ?_
          refine wrI (pc := 18) (len_s := 1) rfl hk ?_
          show wF _ 161 (80, [some (.ref _), some (.int _), some (.int _)], [.int _], _) _
          refine w_t (pc := 80) (e_s := (15, 3, 107, 0, 0, .null, [])) (y_s := (107, [some (.ref _), some (.int _), some (.int _)], [], _)) rfl (u_ rfl) ?_
          refine w_t (pc := 107) (e_s := (0, 1, 0, 0, 0, .int (-1), [])) (y_s := (108, [some (.ref _), some (.int _), some (.int _)], [.int _], _)) rfl (u_ rfl) ?_
          exact wrI (pc := 108) (len_s := 1) rfl hk t_s
        · replace t_s := t_s.2 c4_s
          refine w_t (pc := 13) (e_s := (0, 1, 0, 0, 0, .int 1, [])) (y_s := (14, [some (.long _), none, some (.long _), none, some (.long _), none], [.int _], _)) rfl (u_ rfl) ?_
          refine w_t (pc := 14) (e_s := (17, 3, 18, 0, 0, .null, [])) (y_s := (18, [some (.long _), none, some (.long _), none, some (.long _), none], [.int _], _)) rfl (u_ rfl) ?_
          refine wrI (pc := 18) (len_s := 1) rfl hk ?_
          show wF _ 161 (80, [some (.ref _), some (.int _), some (.int _)], [.int _], _) _
          refine w_t (pc := 80) (e_s := (15, 3, 107, 0, 0, .null, [])) (y_s := (83, [some (.ref _), some (.int _), some (.int _)], [], _)) rfl (u_ rfl) ?_
          refine w_t (pc := 83) (e_s := (3, 1, 0, 0, 0, .null, [])) (y_s := (84, [some (.ref _), some (.int _), some (.int _)], [.ref _], _)) rfl (u_ rfl) ?_
          refine w_t (pc := 84) (e_s := (1, 1, 1, 0, 0, .null, [])) (y_s := (85, [some (.ref _), some (.int _), some (.int _)], [.int _, .ref _], _)) rfl (u_ rfl) ?_
          refine w_t (pc := 85) (e_s := (10, 1, 0, 0, 0, .null, [])) (y_s := (86, [some (.ref _), some (.int _), some (.int _)], [.long (Int32.toInt64 _), .ref _], _)) rfl (u_ rfl) ?_
          refine wcI (pc := 86) (len_s := 3) rfl rfl (l := [some (.ref _), some (.long _), none]) rfl ?_
          refine w_t (pc := 0) (e_s := (2, 1, 1, 0, 0, .null, [])) (y_s := (1, [some (.ref _), some (.long _), none], [.long _], _)) rfl (u_ rfl) ?_
          refine w_t (pc := 1) (e_s := (0, 1, 0, 0, 0, .long 0, [])) (y_s := (2, [some (.ref _), some (.long _), none], [.long _, .long _], _)) rfl (u_ rfl) ?_
          refine w_t (pc := 2) (e_s := (3, 1, 0, 0, 0, .null, [])) (y_s := (3, [some (.ref _), some (.long _), none], [.ref _, .long _, .long _], _)) rfl (u_ rfl) ?_
          refine w20 (pc := 3) (len_s := 3) rfl ?_
          refine w_t (pc := 6) (e_s := (0, 1, 0, 0, 0, .int 1, [])) (y_s := (7, [some (.ref _), some (.long _), none], [.int _, .int _, .long _, .long _], _)) rfl (u_ rfl) ?_
          refine w_t (pc := 7) (e_s := (7, 1, 0, 1, 0, .null, [])) (y_s := (8, [some (.ref _), some (.long _), none], [.int (_ - _), .long _, .long _], _)) rfl (u_ rfl) ?_
          refine w_t (pc := 8) (e_s := (10, 1, 0, 0, 0, .null, [])) (y_s := (9, [some (.ref _), some (.long _), none], [.long (Int32.toInt64 _), .long _, .long _], _)) rfl (u_ rfl) ?_
          refine wcI (pc := 9) (len_s := 3) rfl rfl (l := [some (.long _), none, some (.long _), none, some (.long _), none]) rfl ?_
          refine w_t (pc := 0) (e_s := (2, 1, 0, 0, 0, .null, [])) (y_s := (1, [some (.long _), none, some (.long _), none, some (.long _), none], [.long _], _)) rfl (u_ rfl) ?_
          refine w_t (pc := 1) (e_s := (2, 1, 2, 0, 0, .null, [])) (y_s := (2, [some (.long _), none, some (.long _), none, some (.long _), none], [.long _, .long _], _)) rfl (u_ rfl) ?_
          refine w_t (pc := 2) (e_s := (14, 1, 0, 0, 0, .null, [])) (y_s := (3, [some (.long _), none, some (.long _), none, some (.long _), none], [.int (lg_cmp _ _)], _)) rfl (u_ rfl) ?_
          refine wl2 (pc := 3) (len_s := 3) (Y := 0) rfl (Int32.toInt_toInt64 _) (by decide) (fun c5_s => ?_) (fun c5_s => ?_)
          · replace t_s := t_s.1 c5_s
            refine w_t (pc := 17) (e_s := (0, 1, 0, 0, 0, .int 0, [])) (y_s := (18, [some (.long _), none, some (.long _), none, some (.long _), none], [.int _], _)) rfl (u_ rfl) ?_
            refine wrI (pc := 18) (len_s := 1) rfl hk ?_
            show wF _ 153 (12, [some (.ref _), some (.long _), none], [.int _], _) _
            refine wrI (pc := 12) (len_s := 1) rfl hk ?_
            show wF _ 161 (89, [some (.ref _), some (.int _), some (.int _)], [.int _], _) _
            refine w_t (pc := 89) (e_s := (15, 3, 107, 0, 0, .null, [])) (y_s := (107, [some (.ref _), some (.int _), some (.int _)], [], _)) rfl (u_ rfl) ?_
            refine w_t (pc := 107) (e_s := (0, 1, 0, 0, 0, .int (-1), [])) (y_s := (108, [some (.ref _), some (.int _), some (.int _)], [.int _], _)) rfl (u_ rfl) ?_
            exact wrI (pc := 108) (len_s := 1) rfl hk t_s
          · replace t_s := t_s.2 c5_s
            refine w_t (pc := 6) (e_s := (2, 1, 0, 0, 0, .null, [])) (y_s := (7, [some (.long _), none, some (.long _), none, some (.long _), none], [.long _], _)) rfl (u_ rfl) ?_
            refine w_t (pc := 7) (e_s := (2, 2, 4, 0, 0, .null, [])) (y_s := (9, [some (.long _), none, some (.long _), none, some (.long _), none], [.long _, .long _], _)) rfl (u_ rfl) ?_
            refine w_t (pc := 9) (e_s := (14, 1, 0, 0, 0, .null, [])) (y_s := (10, [some (.long _), none, some (.long _), none, some (.long _), none], [.int (lg_cmp _ _)], _)) rfl (u_ rfl) ?_
            refine wl4 (pc := 10) (len_s := 3) rfl (Int32.toInt_toInt64 _) (Int32.toInt_toInt64 _) (fun c6_s => ?_) (fun c6_s => ?_)
            · replace t_s := t_s.1 c6_s
              refine w_t (pc := 17) (e_s := (0, 1, 0, 0, 0, .int 0, [])) (y_s := (18, [some (.long _), none, some (.long _), none, some (.long _), none], [.int _], _)) rfl (u_ rfl) ?_
              refine wrI (pc := 18) (len_s := 1) rfl hk ?_
              show wF _ 153 (12, [some (.ref _), some (.long _), none], [.int _], _) _
              refine wrI (pc := 12) (len_s := 1) rfl hk ?_
              show wF _ 161 (89, [some (.ref _), some (.int _), some (.int _)], [.int _], _) _
              refine w_t (pc := 89) (e_s := (15, 3, 107, 0, 0, .null, [])) (y_s := (107, [some (.ref _), some (.int _), some (.int _)], [], _)) rfl (u_ rfl) ?_
              refine w_t (pc := 107) (e_s := (0, 1, 0, 0, 0, .int (-1), [])) (y_s := (108, [some (.ref _), some (.int _), some (.int _)], [.int _], _)) rfl (u_ rfl) ?_
              exact wrI (pc := 108) (len_s := 1) rfl hk t_s
            · replace t_s := t_s.2 c6_s
              refine w_t (pc := 13) (e_s := (0, 1, 0, 0, 0, .int 1, [])) (y_s := (14, [some (.long _), none, some (.long _), none, some (.long _), none], [.int _], _)) rfl (u_ rfl) ?_
              refine w_t (pc := 14) (e_s := (17, 3, 18, 0, 0, .null, [])) (y_s := (18, [some (.long _), none, some (.long _), none, some (.long _), none], [.int _], _)) rfl (u_ rfl) ?_
              refine wrI (pc := 18) (len_s := 1) rfl hk ?_
              show wF _ 153 (12, [some (.ref _), some (.long _), none], [.int _], _) _
              refine wrI (pc := 12) (len_s := 1) rfl hk ?_
              show wF _ 161 (89, [some (.ref _), some (.int _), some (.int _)], [.int _], _) _
              refine w_t (pc := 89) (e_s := (15, 3, 107, 0, 0, .null, [])) (y_s := (92, [some (.ref _), some (.int _), some (.int _)], [], _)) rfl (u_ rfl) ?_
              refine w_t (pc := 92) (e_s := (0, 2, 0, 0, 0, .int 68, [])) (y_s := (94, [some (.ref _), some (.int _), some (.int _)], [.int _], _)) rfl (u_ rfl) ?_
              refine w_t (pc := 94) (e_s := (0, 2, 0, 0, 0, .int 12, [])) (y_s := (96, [some (.ref _), some (.int _), some (.int _)], [.int _, .int _], _)) rfl (u_ rfl) ?_
              refine w_t (pc := 96) (e_s := (1, 1, 2, 0, 0, .null, [])) (y_s := (97, [some (.ref _), some (.int _), some (.int _)], [.int _, .int _, .int _], _)) rfl (u_ rfl) ?_
              refine w_t (pc := 97) (e_s := (0, 2, 0, 0, 0, .int 9, [])) (y_s := (99, [some (.ref _), some (.int _), some (.int _)], [.int _, .int _, .int _, .int _], _)) rfl (u_ rfl) ?_
              refine w_t (pc := 99) (e_s := (7, 1, 0, 1, 0, .null, [])) (y_s := (100, [some (.ref _), some (.int _), some (.int _)], [.int (_ - _), .int _, .int _], _)) rfl (u_ rfl) ?_
              refine w_t (pc := 100) (e_s := (7, 1, 0, 2, 0, .null, [])) (y_s := (101, [some (.ref _), some (.int _), some (.int _)], [.int (_ * _), .int _], _)) rfl (u_ rfl) ?_
              refine w_t (pc := 101) (e_s := (7, 1, 0, 0, 0, .null, [])) (y_s := (102, [some (.ref _), some (.int _), some (.int _)], [.int (_ + _)], _)) rfl (u_ rfl) ?_
              refine w_t (pc := 102) (e_s := (1, 1, 1, 0, 0, .null, [])) (y_s := (103, [some (.ref _), some (.int _), some (.int _)], [.int _, .int _], _)) rfl (u_ rfl) ?_
              refine w_t (pc := 103) (e_s := (7, 1, 0, 0, 0, .null, [])) (y_s := (104, [some (.ref _), some (.int _), some (.int _)], [.int (_ + _)], _)) rfl (u_ rfl) ?_
              refine w_t (pc := 104) (e_s := (17, 3, 108, 0, 0, .null, [])) (y_s := (108, [some (.ref _), some (.int _), some (.int _)], [.int _], _)) rfl (u_ rfl) ?_
              exact wrI (pc := 108) (len_s := 1) rfl hk t_s
    · replace t_s := t_s.2 c2_s
      refine w_t (pc := 6) (e_s := (2, 1, 0, 0, 0, .null, [])) (y_s := (7, [some (.long _), none, some (.long _), none, some (.long _), none], [.long _], _)) rfl (u_ rfl) ?_
      refine w_t (pc := 7) (e_s := (2, 2, 4, 0, 0, .null, [])) (y_s := (9, [some (.long _), none, some (.long _), none, some (.long _), none], [.long _, .long _], _)) rfl (u_ rfl) ?_
      refine w_t (pc := 9) (e_s := (14, 1, 0, 0, 0, .null, [])) (y_s := (10, [some (.long _), none, some (.long _), none, some (.long _), none], [.int (lg_cmp _ _)], _)) rfl (u_ rfl) ?_
      refine wl4 (pc := 10) (len_s := 3) (Y := 8) rfl (Int32.toInt_toInt64 _) (by decide) (fun c7_s => ?_) (fun c7_s => ?_)
      · replace t_s := t_s.1 c7_s
        refine w_t (pc := 17) (e_s := (0, 1, 0, 0, 0, .int 0, [])) (y_s := (18, [some (.long _), none, some (.long _), none, some (.long _), none], [.int _], _)) rfl (u_ rfl) ?_
        refine wrI (pc := 18) (len_s := 1) rfl hk ?_
        show wF _ 161 (41, [some (.ref _), some (.int _), some (.int _)], [.int _], _) _
        refine w_t (pc := 41) (e_s := (15, 3, 69, 0, 0, .null, [])) (y_s := (69, [some (.ref _), some (.int _), some (.int _)], [], _)) rfl (u_ rfl) ?_
        refine w_t (pc := 69) (e_s := (1, 1, 2, 0, 0, .null, [])) (y_s := (70, [some (.ref _), some (.int _), some (.int _)], [.int _], _)) rfl (u_ rfl) ?_
        refine w_t (pc := 70) (e_s := (10, 1, 0, 0, 0, .null, [])) (y_s := (71, [some (.ref _), some (.int _), some (.int _)], [.long (Int32.toInt64 _)], _)) rfl (u_ rfl) ?_
        refine w_t (pc := 71) (e_s := (0, 3, 0, 0, 0, .long 9, [(0, 1066)])) (y_s := (74, [some (.ref _), some (.int _), some (.int _)], [.long _, .long _], _)) rfl (u_ rfl) ?_
        refine w_t (pc := 74) (e_s := (0, 3, 0, 0, 0, .long 11, [(0, 1075)])) (y_s := (77, [some (.ref _), some (.int _), some (.int _)], [.long _, .long _, .long _], _)) rfl (u_ rfl) ?_
        refine wcI (pc := 77) (len_s := 3) rfl rfl (l := [some (.long _), none, some (.long _), none, some (.long _), none]) rfl ?_
        refine w_t (pc := 0) (e_s := (2, 1, 0, 0, 0, .null, [])) (y_s := (1, [some (.long _), none, some (.long _), none, some (.long _), none], [.long _], _)) rfl (u_ rfl) ?_
        refine w_t (pc := 1) (e_s := (2, 1, 2, 0, 0, .null, [])) (y_s := (2, [some (.long _), none, some (.long _), none, some (.long _), none], [.long _, .long _], _)) rfl (u_ rfl) ?_
        refine w_t (pc := 2) (e_s := (14, 1, 0, 0, 0, .null, [])) (y_s := (3, [some (.long _), none, some (.long _), none, some (.long _), none], [.int (lg_cmp _ _)], _)) rfl (u_ rfl) ?_
        refine wl2 (pc := 3) (len_s := 3) (Y := 9) rfl (Int32.toInt_toInt64 _) (by decide) (fun c8_s => ?_) (fun c8_s => ?_)
        · replace t_s := t_s.1 c8_s
          refine w_t (pc := 17) (e_s := (0, 1, 0, 0, 0, .int 0, [])) (y_s := (18, [some (.long _), none, some (.long _), none, some (.long _), none], [.int _], _)) rfl (u_ rfl) ?_
          refine wrI (pc := 18) (len_s := 1) rfl hk ?_
          show wF _ 161 (80, [some (.ref _), some (.int _), some (.int _)], [.int _], _) _
          refine w_t (pc := 80) (e_s := (15, 3, 107, 0, 0, .null, [])) (y_s := (107, [some (.ref _), some (.int _), some (.int _)], [], _)) rfl (u_ rfl) ?_
          refine w_t (pc := 107) (e_s := (0, 1, 0, 0, 0, .int (-1), [])) (y_s := (108, [some (.ref _), some (.int _), some (.int _)], [.int _], _)) rfl (u_ rfl) ?_
          exact wrI (pc := 108) (len_s := 1) rfl hk t_s
        · replace t_s := t_s.2 c8_s
          refine w_t (pc := 6) (e_s := (2, 1, 0, 0, 0, .null, [])) (y_s := (7, [some (.long _), none, some (.long _), none, some (.long _), none], [.long _], _)) rfl (u_ rfl) ?_
          refine w_t (pc := 7) (e_s := (2, 2, 4, 0, 0, .null, [])) (y_s := (9, [some (.long _), none, some (.long _), none, some (.long _), none], [.long _, .long _], _)) rfl (u_ rfl) ?_
          refine w_t (pc := 9) (e_s := (14, 1, 0, 0, 0, .null, [])) (y_s := (10, [some (.long _), none, some (.long _), none, some (.long _), none], [.int (lg_cmp _ _)], _)) rfl (u_ rfl) ?_
          refine wl4 (pc := 10) (len_s := 3) (Y := 11) rfl (Int32.toInt_toInt64 _) (by decide) (fun c9_s => ?_) (fun c9_s => ?_)
          · replace t_s := t_s.1 c9_s
            refine w_t (pc := 17) (e_s := (0, 1, 0, 0, 0, .int 0, [])) (y_s := (18, [some (.long _), none, some (.long _), none, some (.long _), none], [.int _], _)) rfl (u_ rfl) ?_
            refine wrI (pc := 18) (len_s := 1) rfl hk ?_
            show wF _ 161 (80, [some (.ref _), some (.int _), some (.int _)], [.int _], _) _
            refine w_t (pc := 80) (e_s := (15, 3, 107, 0, 0, .null, [])) (y_s := (107, [some (.ref _), some (.int _), some (.int _)], [], _)) rfl (u_ rfl) ?_
            refine w_t (pc := 107) (e_s := (0, 1, 0, 0, 0, .int (-1), [])) (y_s := (108, [some (.ref _), some (.int _), some (.int _)], [.int _], _)) rfl (u_ rfl) ?_
            exact wrI (pc := 108) (len_s := 1) rfl hk t_s
          · replace t_s := t_s.2 c9_s
            refine w_t (pc := 13) (e_s := (0, 1, 0, 0, 0, .int 1, [])) (y_s := (14, [some (.long _), none, some (.long _), none, some (.long _), none], [.int _], _)) rfl (u_ rfl) ?_
            refine w_t (pc := 14) (e_s := (17, 3, 18, 0, 0, .null, [])) (y_s := (18, [some (.long _), none, some (.long _), none, some (.long _), none], [.int _], _)) rfl (u_ rfl) ?_
            refine wrI (pc := 18) (len_s := 1) rfl hk ?_
            show wF _ 161 (80, [some (.ref _), some (.int _), some (.int _)], [.int _], _) _
            refine w_t (pc := 80) (e_s := (15, 3, 107, 0, 0, .null, [])) (y_s := (83, [some (.ref _), some (.int _), some (.int _)], [], _)) rfl (u_ rfl) ?_
            refine w_t (pc := 83) (e_s := (3, 1, 0, 0, 0, .null, [])) (y_s := (84, [some (.ref _), some (.int _), some (.int _)], [.ref _], _)) rfl (u_ rfl) ?_
            refine w_t (pc := 84) (e_s := (1, 1, 1, 0, 0, .null, [])) (y_s := (85, [some (.ref _), some (.int _), some (.int _)], [.int _, .ref _], _)) rfl (u_ rfl) ?_
            refine w_t (pc := 85) (e_s := (10, 1, 0, 0, 0, .null, [])) (y_s := (86, [some (.ref _), some (.int _), some (.int _)], [.long (Int32.toInt64 _), .ref _], _)) rfl (u_ rfl) ?_
            refine wcI (pc := 86) (len_s := 3) rfl rfl (l := [some (.ref _), some (.long _), none]) rfl ?_
            refine w_t (pc := 0) (e_s := (2, 1, 1, 0, 0, .null, [])) (y_s := (1, [some (.ref _), some (.long _), none], [.long _], _)) rfl (u_ rfl) ?_
            refine w_t (pc := 1) (e_s := (0, 1, 0, 0, 0, .long 0, [])) (y_s := (2, [some (.ref _), some (.long _), none], [.long _, .long _], _)) rfl (u_ rfl) ?_
            refine w_t (pc := 2) (e_s := (3, 1, 0, 0, 0, .null, [])) (y_s := (3, [some (.ref _), some (.long _), none], [.ref _, .long _, .long _], _)) rfl (u_ rfl) ?_
            refine w20 (pc := 3) (len_s := 3) rfl ?_
            refine w_t (pc := 6) (e_s := (0, 1, 0, 0, 0, .int 1, [])) (y_s := (7, [some (.ref _), some (.long _), none], [.int _, .int _, .long _, .long _], _)) rfl (u_ rfl) ?_
            refine w_t (pc := 7) (e_s := (7, 1, 0, 1, 0, .null, [])) (y_s := (8, [some (.ref _), some (.long _), none], [.int (_ - _), .long _, .long _], _)) rfl (u_ rfl) ?_
            refine w_t (pc := 8) (e_s := (10, 1, 0, 0, 0, .null, [])) (y_s := (9, [some (.ref _), some (.long _), none], [.long (Int32.toInt64 _), .long _, .long _], _)) rfl (u_ rfl) ?_
            refine wcI (pc := 9) (len_s := 3) rfl rfl (l := [some (.long _), none, some (.long _), none, some (.long _), none]) rfl ?_
            refine w_t (pc := 0) (e_s := (2, 1, 0, 0, 0, .null, [])) (y_s := (1, [some (.long _), none, some (.long _), none, some (.long _), none], [.long _], _)) rfl (u_ rfl) ?_
            refine w_t (pc := 1) (e_s := (2, 1, 2, 0, 0, .null, [])) (y_s := (2, [some (.long _), none, some (.long _), none, some (.long _), none], [.long _, .long _], _)) rfl (u_ rfl) ?_
            refine w_t (pc := 2) (e_s := (14, 1, 0, 0, 0, .null, [])) (y_s := (3, [some (.long _), none, some (.long _), none, some (.long _), none], [.int (lg_cmp _ _)], _)) rfl (u_ rfl) ?_
            refine wl2 (pc := 3) (len_s := 3) (Y := 0) rfl (Int32.toInt_toInt64 _) (by decide) (fun c10_s => ?_) (fun c10_s => ?_)
            · replace t_s := t_s.1 c10_s
              refine w_t (pc := 17) (e_s := (0, 1, 0, 0, 0, .int 0, [])) (y_s := (18, [some (.long _), none, some (.long _), none, some (.long _), none], [.int _], _)) rfl (u_ rfl) ?_
              refine wrI (pc := 18) (len_s := 1) rfl hk ?_
              show wF _ 153 (12, [some (.ref _), some (.long _), none], [.int _], _) _
              refine wrI (pc := 12) (len_s := 1) rfl hk ?_
              show wF _ 161 (89, [some (.ref _), some (.int _), some (.int _)], [.int _], _) _
              refine w_t (pc := 89) (e_s := (15, 3, 107, 0, 0, .null, [])) (y_s := (107, [some (.ref _), some (.int _), some (.int _)], [], _)) rfl (u_ rfl) ?_
              refine w_t (pc := 107) (e_s := (0, 1, 0, 0, 0, .int (-1), [])) (y_s := (108, [some (.ref _), some (.int _), some (.int _)], [.int _], _)) rfl (u_ rfl) ?_
              exact wrI (pc := 108) (len_s := 1) rfl hk t_s
            · replace t_s := t_s.2 c10_s
              refine w_t (pc := 6) (e_s := (2, 1, 0, 0, 0, .null, [])) (y_s := (7, [some (.long _), none, some (.long _), none, some (.long _), none], [.long _], _)) rfl (u_ rfl) ?_
              refine w_t (pc := 7) (e_s := (2, 2, 4, 0, 0, .null, [])) (y_s := (9, [some (.long _), none, some (.long _), none, some (.long _), none], [.long _, .long _], _)) rfl (u_ rfl) ?_
              refine w_t (pc := 9) (e_s := (14, 1, 0, 0, 0, .null, [])) (y_s := (10, [some (.long _), none, some (.long _), none, some (.long _), none], [.int (lg_cmp _ _)], _)) rfl (u_ rfl) ?_
              refine wl4 (pc := 10) (len_s := 3) rfl (Int32.toInt_toInt64 _) (Int32.toInt_toInt64 _) (fun c11_s => ?_) (fun c11_s => ?_)
              · replace t_s := t_s.1 c11_s
                refine w_t (pc := 17) (e_s := (0, 1, 0, 0, 0, .int 0, [])) (y_s := (18, [some (.long _), none, some (.long _), none, some (.long _), none], [.int _], _)) rfl (u_ rfl) ?_
                refine wrI (pc := 18) (len_s := 1) rfl hk ?_
                show wF _ 153 (12, [some (.ref _), some (.long _), none], [.int _], _) _
                refine wrI (pc := 12) (len_s := 1) rfl hk ?_
                show wF _ 161 (89, [some (.ref _), some (.int _), some (.int _)], [.int _], _) _
                refine w_t (pc := 89) (e_s := (15, 3, 107, 0, 0, .null, [])) (y_s := (107, [some (.ref _), some (.int _), some (.int _)], [], _)) rfl (u_ rfl) ?_
                refine w_t (pc := 107) (e_s := (0, 1, 0, 0, 0, .int (-1), [])) (y_s := (108, [some (.ref _), some (.int _), some (.int _)], [.int _], _)) rfl (u_ rfl) ?_
                exact wrI (pc := 108) (len_s := 1) rfl hk t_s
              · replace t_s := t_s.2 c11_s
                refine w_t (pc := 13) (e_s := (0, 1, 0, 0, 0, .int 1, [])) (y_s := (14, [some (.long _), none, some (.long _), none, some (.long _), none], [.int _], _)) rfl (u_ rfl) ?_
                refine w_t (pc := 14) (e_s := (17, 3, 18, 0, 0, .null, [])) (y_s := (18, [some (.long _), none, some (.long _), none, some (.long _), none], [.int _], _)) rfl (u_ rfl) ?_
                refine wrI (pc := 18) (len_s := 1) rfl hk ?_
                show wF _ 153 (12, [some (.ref _), some (.long _), none], [.int _], _) _
                refine wrI (pc := 12) (len_s := 1) rfl hk ?_
                show wF _ 161 (89, [some (.ref _), some (.int _), some (.int _)], [.int _], _) _
                refine w_t (pc := 89) (e_s := (15, 3, 107, 0, 0, .null, [])) (y_s := (92, [some (.ref _), some (.int _), some (.int _)], [], _)) rfl (u_ rfl) ?_
                refine w_t (pc := 92) (e_s := (0, 2, 0, 0, 0, .int 68, [])) (y_s := (94, [some (.ref _), some (.int _), some (.int _)], [.int _], _)) rfl (u_ rfl) ?_
                refine w_t (pc := 94) (e_s := (0, 2, 0, 0, 0, .int 12, [])) (y_s := (96, [some (.ref _), some (.int _), some (.int _)], [.int _, .int _], _)) rfl (u_ rfl) ?_
                refine w_t (pc := 96) (e_s := (1, 1, 2, 0, 0, .null, [])) (y_s := (97, [some (.ref _), some (.int _), some (.int _)], [.int _, .int _, .int _], _)) rfl (u_ rfl) ?_
                refine w_t (pc := 97) (e_s := (0, 2, 0, 0, 0, .int 9, [])) (y_s := (99, [some (.ref _), some (.int _), some (.int _)], [.int _, .int _, .int _, .int _], _)) rfl (u_ rfl) ?_
                refine w_t (pc := 99) (e_s := (7, 1, 0, 1, 0, .null, [])) (y_s := (100, [some (.ref _), some (.int _), some (.int _)], [.int (_ - _), .int _, .int _], _)) rfl (u_ rfl) ?_
                refine w_t (pc := 100) (e_s := (7, 1, 0, 2, 0, .null, [])) (y_s := (101, [some (.ref _), some (.int _), some (.int _)], [.int (_ * _), .int _], _)) rfl (u_ rfl) ?_
                refine w_t (pc := 101) (e_s := (7, 1, 0, 0, 0, .null, [])) (y_s := (102, [some (.ref _), some (.int _), some (.int _)], [.int (_ + _)], _)) rfl (u_ rfl) ?_
                refine w_t (pc := 102) (e_s := (1, 1, 1, 0, 0, .null, [])) (y_s := (103, [some (.ref _), some (.int _), some (.int _)], [.int _, .int _], _)) rfl (u_ rfl) ?_
                refine w_t (pc := 103) (e_s := (7, 1, 0, 0, 0, .null, [])) (y_s := (104, [some (.ref _), some (.int _), some (.int _)], [.int (_ + _)], _)) rfl (u_ rfl) ?_
                refine w_t (pc := 104) (e_s := (17, 3, 108, 0, 0, .null, [])) (y_s := (108, [some (.ref _), some (.int _), some (.int _)], [.int _], _)) rfl (u_ rfl) ?_
                exact wrI (pc := 108) (len_s := 1) rfl hk t_s
      · replace t_s := t_s.2 c7_s
        refine w_t (pc := 13) (e_s := (0, 1, 0, 0, 0, .int 1, [])) (y_s := (14, [some (.long _), none, some (.long _), none, some (.long _), none], [.int _], _)) rfl (u_ rfl) ?_
        refine w_t (pc := 14) (e_s := (17, 3, 18, 0, 0, .null, [])) (y_s := (18, [some (.long _), none, some (.long _), none, some (.long _), none], [.int _], _)) rfl (u_ rfl) ?_
        refine wrI (pc := 18) (len_s := 1) rfl hk ?_
        show wF _ 161 (41, [some (.ref _), some (.int _), some (.int _)], [.int _], _) _
        refine w_t (pc := 41) (e_s := (15, 3, 69, 0, 0, .null, [])) (y_s := (44, [some (.ref _), some (.int _), some (.int _)], [], _)) rfl (u_ rfl) ?_
        refine w_t (pc := 44) (e_s := (3, 1, 0, 0, 0, .null, [])) (y_s := (45, [some (.ref _), some (.int _), some (.int _)], [.ref _], _)) rfl (u_ rfl) ?_
        refine w_t (pc := 45) (e_s := (1, 1, 1, 0, 0, .null, [])) (y_s := (46, [some (.ref _), some (.int _), some (.int _)], [.int _, .ref _], _)) rfl (u_ rfl) ?_
        refine w_t (pc := 46) (e_s := (10, 1, 0, 0, 0, .null, [])) (y_s := (47, [some (.ref _), some (.int _), some (.int _)], [.long (Int32.toInt64 _), .ref _], _)) rfl (u_ rfl) ?_
        refine wcI (pc := 47) (len_s := 3) rfl rfl (l := [some (.ref _), some (.long _), none]) rfl ?_
        refine w_t (pc := 0) (e_s := (2, 1, 1, 0, 0, .null, [])) (y_s := (1, [some (.ref _), some (.long _), none], [.long _], _)) rfl (u_ rfl) ?_
        refine w_t (pc := 1) (e_s := (0, 1, 0, 0, 0, .long 0, [])) (y_s := (2, [some (.ref _), some (.long _), none], [.long _, .long _], _)) rfl (u_ rfl) ?_
        refine w_t (pc := 2) (e_s := (3, 1, 0, 0, 0, .null, [])) (y_s := (3, [some (.ref _), some (.long _), none], [.ref _, .long _, .long _], _)) rfl (u_ rfl) ?_
        refine w20 (pc := 3) (len_s := 3) rfl ?_
        refine w_t (pc := 6) (e_s := (0, 1, 0, 0, 0, .int 1, [])) (y_s := (7, [some (.ref _), some (.long _), none], [.int _, .int _, .long _, .long _], _)) rfl (u_ rfl) ?_
        refine w_t (pc := 7) (e_s := (7, 1, 0, 1, 0, .null, [])) (y_s := (8, [some (.ref _), some (.long _), none], [.int (_ - _), .long _, .long _], _)) rfl (u_ rfl) ?_
        refine w_t (pc := 8) (e_s := (10, 1, 0, 0, 0, .null, [])) (y_s := (9, [some (.ref _), some (.long _), none], [.long (Int32.toInt64 _), .long _, .long _], _)) rfl (u_ rfl) ?_
        refine wcI (pc := 9) (len_s := 3) rfl rfl (l := [some (.long _), none, some (.long _), none, some (.long _), none]) rfl ?_
        refine w_t (pc := 0) (e_s := (2, 1, 0, 0, 0, .null, [])) (y_s := (1, [some (.long _), none, some (.long _), none, some (.long _), none], [.long _], _)) rfl (u_ rfl) ?_
        refine w_t (pc := 1) (e_s := (2, 1, 2, 0, 0, .null, [])) (y_s := (2, [some (.long _), none, some (.long _), none, some (.long _), none], [.long _, .long _], _)) rfl (u_ rfl) ?_
        refine w_t (pc := 2) (e_s := (14, 1, 0, 0, 0, .null, [])) (y_s := (3, [some (.long _), none, some (.long _), none, some (.long _), none], [.int (lg_cmp _ _)], _)) rfl (u_ rfl) ?_
        refine wl2 (pc := 3) (len_s := 3) (Y := 0) rfl (Int32.toInt_toInt64 _) (by decide) (fun c12_s => ?_) (fun c12_s => ?_)
        · replace t_s := t_s.1 c12_s
          refine w_t (pc := 17) (e_s := (0, 1, 0, 0, 0, .int 0, [])) (y_s := (18, [some (.long _), none, some (.long _), none, some (.long _), none], [.int _], _)) rfl (u_ rfl) ?_
          refine wrI (pc := 18) (len_s := 1) rfl hk ?_
          show wF _ 152 (12, [some (.ref _), some (.long _), none], [.int _], _) _
          refine wrI (pc := 12) (len_s := 1) rfl hk ?_
          show wF _ 161 (50, [some (.ref _), some (.int _), some (.int _)], [.int _], _) _
          refine w_t (pc := 50) (e_s := (15, 3, 67, 0, 0, .null, [])) (y_s := (67, [some (.ref _), some (.int _), some (.int _)], [], _)) rfl (u_ rfl) ?_
          refine w_t (pc := 67) (e_s := (0, 1, 0, 0, 0, .int (-1), [])) (y_s := (68, [some (.ref _), some (.int _), some (.int _)], [.int _], _)) rfl (u_ rfl) ?_
          exact wrI (pc := 68) (len_s := 1) rfl hk t_s
        · replace t_s := t_s.2 c12_s
          refine w_t (pc := 6) (e_s := (2, 1, 0, 0, 0, .null, [])) (y_s := (7, [some (.long _), none, some (.long _), none, some (.long _), none], [.long _], _)) rfl (u_ rfl) ?_
          refine w_t (pc := 7) (e_s := (2, 2, 4, 0, 0, .null, [])) (y_s := (9, [some (.long _), none, some (.long _), none, some (.long _), none], [.long _, .long _], _)) rfl (u_ rfl) ?_
          refine w_t (pc := 9) (e_s := (14, 1, 0, 0, 0, .null, [])) (y_s := (10, [some (.long _), none, some (.long _), none, some (.long _), none], [.int (lg_cmp _ _)], _)) rfl (u_ rfl) ?_
          refine wl4 (pc := 10) (len_s := 3) rfl (Int32.toInt_toInt64 _) (Int32.toInt_toInt64 _) (fun c13_s => ?_) (fun c13_s => ?_)
          · replace t_s := t_s.1 c13_s
            refine w_t (pc := 17) (e_s := (0, 1, 0, 0, 0, .int 0, [])) (y_s := (18, [some (.long _), none, some (.long _), none, some (.long _), none], [.int _], _)) rfl (u_ rfl) ?_
            refine wrI (pc := 18) (len_s := 1) rfl hk ?_
            show wF _ 152 (12, [some (.ref _), some (.long _), none], [.int _], _) _
            refine wrI (pc := 12) (len_s := 1) rfl hk ?_
            show wF _ 161 (50, [some (.ref _), some (.int _), some (.int _)], [.int _], _) _
            refine w_t (pc := 50) (e_s := (15, 3, 67, 0, 0, .null, [])) (y_s := (67, [some (.ref _), some (.int _), some (.int _)], [], _)) rfl (u_ rfl) ?_
            refine w_t (pc := 67) (e_s := (0, 1, 0, 0, 0, .int (-1), [])) (y_s := (68, [some (.ref _), some (.int _), some (.int _)], [.int _], _)) rfl (u_ rfl) ?_
            exact wrI (pc := 68) (len_s := 1) rfl hk t_s
          · replace t_s := t_s.2 c13_s
            refine w_t (pc := 13) (e_s := (0, 1, 0, 0, 0, .int 1, [])) (y_s := (14, [some (.long _), none, some (.long _), none, some (.long _), none], [.int _], _)) rfl (u_ rfl) ?_
            refine w_t (pc := 14) (e_s := (17, 3, 18, 0, 0, .null, [])) (y_s := (18, [some (.long _), none, some (.long _), none, some (.long _), none], [.int _], _)) rfl (u_ rfl) ?_
            refine wrI (pc := 18) (len_s := 1) rfl hk ?_
            show wF _ 152 (12, [some (.ref _), some (.long _), none], [.int _], _) _
            refine wrI (pc := 12) (len_s := 1) rfl hk ?_
            show wF _ 161 (50, [some (.ref _), some (.int _), some (.int _)], [.int _], _) _
            refine w_t (pc := 50) (e_s := (15, 3, 67, 0, 0, .null, [])) (y_s := (53, [some (.ref _), some (.int _), some (.int _)], [], _)) rfl (u_ rfl) ?_
            refine w_t (pc := 53) (e_s := (0, 2, 0, 0, 0, .int 12, [])) (y_s := (55, [some (.ref _), some (.int _), some (.int _)], [.int _], _)) rfl (u_ rfl) ?_
            refine w_t (pc := 55) (e_s := (0, 2, 0, 0, 0, .int 8, [])) (y_s := (57, [some (.ref _), some (.int _), some (.int _)], [.int _, .int _], _)) rfl (u_ rfl) ?_
            refine w_t (pc := 57) (e_s := (1, 1, 2, 0, 0, .null, [])) (y_s := (58, [some (.ref _), some (.int _), some (.int _)], [.int _, .int _, .int _], _)) rfl (u_ rfl) ?_
            refine w_t (pc := 58) (e_s := (0, 1, 0, 0, 0, .int 2, [])) (y_s := (59, [some (.ref _), some (.int _), some (.int _)], [.int _, .int _, .int _, .int _], _)) rfl (u_ rfl) ?_
            refine w_t (pc := 59) (e_s := (7, 1, 0, 1, 0, .null, [])) (y_s := (60, [some (.ref _), some (.int _), some (.int _)], [.int (_ - _), .int _, .int _], _)) rfl (u_ rfl) ?_
            refine w_t (pc := 60) (e_s := (7, 1, 0, 2, 0, .null, [])) (y_s := (61, [some (.ref _), some (.int _), some (.int _)], [.int (_ * _), .int _], _)) rfl (u_ rfl) ?_
            refine w_t (pc := 61) (e_s := (7, 1, 0, 0, 0, .null, [])) (y_s := (62, [some (.ref _), some (.int _), some (.int _)], [.int (_ + _)], _)) rfl (u_ rfl) ?_
            refine w_t (pc := 62) (e_s := (1, 1, 1, 0, 0, .null, [])) (y_s := (63, [some (.ref _), some (.int _), some (.int _)], [.int _, .int _], _)) rfl (u_ rfl) ?_
            refine w_t (pc := 63) (e_s := (7, 1, 0, 0, 0, .null, [])) (y_s := (64, [some (.ref _), some (.int _), some (.int _)], [.int (_ + _)], _)) rfl (u_ rfl) ?_
            refine w_t (pc := 64) (e_s := (17, 3, 68, 0, 0, .null, [])) (y_s := (68, [some (.ref _), some (.int _), some (.int _)], [.int _], _)) rfl (u_ rfl) ?_
            exact wrI (pc := 68) (len_s := 1) rfl hk t_s
  · replace t_s := t_s.2 c1_s
    refine w_t (pc := 6) (e_s := (2, 1, 0, 0, 0, .null, [])) (y_s := (7, [some (.long _), none, some (.long _), none, some (.long _), none], [.long _], _)) rfl (u_ rfl) ?_
    refine w_t (pc := 7) (e_s := (2, 2, 4, 0, 0, .null, [])) (y_s := (9, [some (.long _), none, some (.long _), none, some (.long _), none], [.long _, .long _], _)) rfl (u_ rfl) ?_
    refine w_t (pc := 9) (e_s := (14, 1, 0, 0, 0, .null, [])) (y_s := (10, [some (.long _), none, some (.long _), none, some (.long _), none], [.int (lg_cmp _ _)], _)) rfl (u_ rfl) ?_
    refine wl4 (pc := 10) (len_s := 3) (Y := 1) rfl (Int32.toInt_toInt64 _) (by decide) (fun c14_s => ?_) (fun c14_s => ?_)
    · replace t_s := t_s.1 c14_s
      refine w_t (pc := 17) (e_s := (0, 1, 0, 0, 0, .int 0, [])) (y_s := (18, [some (.long _), none, some (.long _), none, some (.long _), none], [.int _], _)) rfl (u_ rfl) ?_
      refine wrI (pc := 18) (len_s := 1) rfl hk ?_
      show wF _ 161 (7, [some (.ref _), some (.int _), some (.int _)], [.int _], _) _
      refine w_t (pc := 7) (e_s := (15, 3, 30, 0, 0, .null, [])) (y_s := (30, [some (.ref _), some (.int _), some (.int _)], [], _)) rfl (u_ rfl) ?_
      refine w_t (pc := 30) (e_s := (1, 1, 2, 0, 0, .null, [])) (y_s := (31, [some (.ref _), some (.int _), some (.int _)], [.int _], _)) rfl (u_ rfl) ?_
      refine w_t (pc := 31) (e_s := (10, 1, 0, 0, 0, .null, [])) (y_s := (32, [some (.ref _), some (.int _), some (.int _)], [.long (Int32.toInt64 _)], _)) rfl (u_ rfl) ?_
      refine w_t (pc := 32) (e_s := (0, 3, 0, 0, 0, .long 2, [(0, 1072)])) (y_s := (35, [some (.ref _), some (.int _), some (.int _)], [.long _, .long _], _)) rfl (u_ rfl) ?_
      refine w_t (pc := 35) (e_s := (0, 3, 0, 0, 0, .long 8, [(0, 1073)])) (y_s := (38, [some (.ref _), some (.int _), some (.int _)], [.long _, .long _, .long _], _)) rfl (u_ rfl) ?_
      refine wcI (pc := 38) (len_s := 3) rfl rfl (l := [some (.long _), none, some (.long _), none, some (.long _), none]) rfl ?_
      refine w_t (pc := 0) (e_s := (2, 1, 0, 0, 0, .null, [])) (y_s := (1, [some (.long _), none, some (.long _), none, some (.long _), none], [.long _], _)) rfl (u_ rfl) ?_
      refine w_t (pc := 1) (e_s := (2, 1, 2, 0, 0, .null, [])) (y_s := (2, [some (.long _), none, some (.long _), none, some (.long _), none], [.long _, .long _], _)) rfl (u_ rfl) ?_
      refine w_t (pc := 2) (e_s := (14, 1, 0, 0, 0, .null, [])) (y_s := (3, [some (.long _), none, some (.long _), none, some (.long _), none], [.int (lg_cmp _ _)], _)) rfl (u_ rfl) ?_
      refine wl2 (pc := 3) (len_s := 3) (Y := 2) rfl (Int32.toInt_toInt64 _) (by decide) (fun c15_s => ?_) (fun c15_s => ?_)
      · replace t_s := t_s.1 c15_s
        refine w_t (pc := 17) (e_s := (0, 1, 0, 0, 0, .int 0, [])) (y_s := (18, [some (.long _), none, some (.long _), none, some (.long _), none], [.int _], _)) rfl (u_ rfl) ?_
        refine wrI (pc := 18) (len_s := 1) rfl hk ?_
        show wF _ 161 (41, [some (.ref _), some (.int _), some (.int _)], [.int _], _) _
        refine w_t (pc := 41) (e_s := (15, 3, 69, 0, 0, .null, [])) (y_s := (69, [some (.ref _), some (.int _), some (.int _)], [], _)) rfl (u_ rfl) ?_
        refine w_t (pc := 69) (e_s := (1, 1, 2, 0, 0, .null, [])) (y_s := (70, [some (.ref _), some (.int _), some (.int _)], [.int _], _)) rfl (u_ rfl) ?_
        refine w_t (pc := 70) (e_s := (10, 1, 0, 0, 0, .null, [])) (y_s := (71, [some (.ref _), some (.int _), some (.int _)], [.long (Int32.toInt64 _)], _)) rfl (u_ rfl) ?_
        refine w_t (pc := 71) (e_s := (0, 3, 0, 0, 0, .long 9, [(0, 1066)])) (y_s := (74, [some (.ref _), some (.int _), some (.int _)], [.long _, .long _], _)) rfl (u_ rfl) ?_
        refine w_t (pc := 74) (e_s := (0, 3, 0, 0, 0, .long 11, [(0, 1075)])) (y_s := (77, [some (.ref _), some (.int _), some (.int _)], [.long _, .long _, .long _], _)) rfl (u_ rfl) ?_
        refine wcI (pc := 77) (len_s := 3) rfl rfl (l := [some (.long _), none, some (.long _), none, some (.long _), none]) rfl ?_
        refine w_t (pc := 0) (e_s := (2, 1, 0, 0, 0, .null, [])) (y_s := (1, [some (.long _), none, some (.long _), none, some (.long _), none], [.long _], _)) rfl (u_ rfl) ?_
        refine w_t (pc := 1) (e_s := (2, 1, 2, 0, 0, .null, [])) (y_s := (2, [some (.long _), none, some (.long _), none, some (.long _), none], [.long _, .long _], _)) rfl (u_ rfl) ?_
        refine w_t (pc := 2) (e_s := (14, 1, 0, 0, 0, .null, [])) (y_s := (3, [some (.long _), none, some (.long _), none, some (.long _), none], [.int (lg_cmp _ _)], _)) rfl (u_ rfl) ?_
        refine wl2 (pc := 3) (len_s := 3) (Y := 9) rfl (Int32.toInt_toInt64 _) (by decide) (fun c16 => ?_) (fun c16 => ?_)
        · replace t_s := t_s.1 c16
          refine w_t (pc := 17) (e_s := (0, 1, 0, 0, 0, .int 0, [])) (y_s := (18, [some (.long _), none, some (.long _), none, some (.long _), none], [.int _], _)) rfl (u_ rfl) ?_
          refine wrI (pc := 18) (len_s := 1) rfl hk ?_
          show wF _ 161 (80, [some (.ref _), some (.int _), some (.int _)], [.int _], _) _
          refine w_t (pc := 80) (e_s := (15, 3, 107, 0, 0, .null, [])) (y_s := (107, [some (.ref _), some (.int _), some (.int _)], [], _)) rfl (u_ rfl) ?_
          refine w_t (pc := 107) (e_s := (0, 1, 0, 0, 0, .int (-1), [])) (y_s := (108, [some (.ref _), some (.int _), some (.int _)], [.int _], _)) rfl (u_ rfl) ?_
          exact wrI (pc := 108) (len_s := 1) rfl hk t_s
        · replace t_s := t_s.2 c16
          refine w_t (pc := 6) (e_s := (2, 1, 0, 0, 0, .null, [])) (y_s := (7, [some (.long _), none, some (.long _), none, some (.long _), none], [.long _], _)) rfl (u_ rfl) ?_
          refine w_t (pc := 7) (e_s := (2, 2, 4, 0, 0, .null, [])) (y_s := (9, [some (.long _), none, some (.long _), none, some (.long _), none], [.long _, .long _], _)) rfl (u_ rfl) ?_
          refine w_t (pc := 9) (e_s := (14, 1, 0, 0, 0, .null, [])) (y_s := (10, [some (.long _), none, some (.long _), none, some (.long _), none], [.int (lg_cmp _ _)], _)) rfl (u_ rfl) ?_
          refine wl4 (pc := 10) (len_s := 3) (Y := 11) rfl (Int32.toInt_toInt64 _) (by decide) (fun c17 => ?_) (fun c17 => ?_)
          · replace t_s := t_s.1 c17
            refine w_t (pc := 17) (e_s := (0, 1, 0, 0, 0, .int 0, [])) (y_s := (18, [some (.long _), none, some (.long _), none, some (.long _), none], [.int _], _)) rfl (u_ rfl) ?_
            refine wrI (pc := 18) (len_s := 1) rfl hk ?_
            show wF _ 161 (80, [some (.ref _), some (.int _), some (.int _)], [.int _], _) _
            refine w_t (pc := 80) (e_s := (15, 3, 107, 0, 0, .null, [])) (y_s := (107, [some (.ref _), some (.int _), some (.int _)], [], _)) rfl (u_ rfl) ?_
            refine w_t (pc := 107) (e_s := (0, 1, 0, 0, 0, .int (-1), [])) (y_s := (108, [some (.ref _), some (.int _), some (.int _)], [.int _], _)) rfl (u_ rfl) ?_
            exact wrI (pc := 108) (len_s := 1) rfl hk t_s
          · replace t_s := t_s.2 c17
            refine w_t (pc := 13) (e_s := (0, 1, 0, 0, 0, .int 1, [])) (y_s := (14, [some (.long _), none, some (.long _), none, some (.long _), none], [.int _], _)) rfl (u_ rfl) ?_
            refine w_t (pc := 14) (e_s := (17, 3, 18, 0, 0, .null, [])) (y_s := (18, [some (.long _), none, some (.long _), none, some (.long _), none], [.int _], _)) rfl (u_ rfl) ?_
            refine wrI (pc := 18) (len_s := 1) rfl hk ?_
            show wF _ 161 (80, [some (.ref _), some (.int _), some (.int _)], [.int _], _) _
            refine w_t (pc := 80) (e_s := (15, 3, 107, 0, 0, .null, [])) (y_s := (83, [some (.ref _), some (.int _), some (.int _)], [], _)) rfl (u_ rfl) ?_
            refine w_t (pc := 83) (e_s := (3, 1, 0, 0, 0, .null, [])) (y_s := (84, [some (.ref _), some (.int _), some (.int _)], [.ref _], _)) rfl (u_ rfl) ?_
            refine w_t (pc := 84) (e_s := (1, 1, 1, 0, 0, .null, [])) (y_s := (85, [some (.ref _), some (.int _), some (.int _)], [.int _, .ref _], _)) rfl (u_ rfl) ?_
            refine w_t (pc := 85) (e_s := (10, 1, 0, 0, 0, .null, [])) (y_s := (86, [some (.ref _), some (.int _), some (.int _)], [.long (Int32.toInt64 _), .ref _], _)) rfl (u_ rfl) ?_
            refine wcI (pc := 86) (len_s := 3) rfl rfl (l := [some (.ref _), some (.long _), none]) rfl ?_
            refine w_t (pc := 0) (e_s := (2, 1, 1, 0, 0, .null, [])) (y_s := (1, [some (.ref _), some (.long _), none], [.long _], _)) rfl (u_ rfl) ?_
            refine w_t (pc := 1) (e_s := (0, 1, 0, 0, 0, .long 0, [])) (y_s := (2, [some (.ref _), some (.long _), none], [.long _, .long _], _)) rfl (u_ rfl) ?_
            refine w_t (pc := 2) (e_s := (3, 1, 0, 0, 0, .null, [])) (y_s := (3, [some (.ref _), some (.long _), none], [.ref _, .long _, .long _], _)) rfl (u_ rfl) ?_
            refine w20 (pc := 3) (len_s := 3) rfl ?_
            refine w_t (pc := 6) (e_s := (0, 1, 0, 0, 0, .int 1, [])) (y_s := (7, [some (.ref _), some (.long _), none], [.int _, .int _, .long _, .long _], _)) rfl (u_ rfl) ?_
            refine w_t (pc := 7) (e_s := (7, 1, 0, 1, 0, .null, [])) (y_s := (8, [some (.ref _), some (.long _), none], [.int (_ - _), .long _, .long _], _)) rfl (u_ rfl) ?_
            refine w_t (pc := 8) (e_s := (10, 1, 0, 0, 0, .null, [])) (y_s := (9, [some (.ref _), some (.long _), none], [.long (Int32.toInt64 _), .long _, .long _], _)) rfl (u_ rfl) ?_
            refine wcI (pc := 9) (len_s := 3) rfl rfl (l := [some (.long _), none, some (.long _), none, some (.long _), none]) rfl ?_
            refine w_t (pc := 0) (e_s := (2, 1, 0, 0, 0, .null, [])) (y_s := (1, [some (.long _), none, some (.long _), none, some (.long _), none], [.long _], _)) rfl (u_ rfl) ?_
            refine w_t (pc := 1) (e_s := (2, 1, 2, 0, 0, .null, [])) (y_s := (2, [some (.long _), none, some (.long _), none, some (.long _), none], [.long _, .long _], _)) rfl (u_ rfl) ?_
            refine w_t (pc := 2) (e_s := (14, 1, 0, 0, 0, .null, [])) (y_s := (3, [some (.long _), none, some (.long _), none, some (.long _), none], [.int (lg_cmp _ _)], _)) rfl (u_ rfl) ?_
            refine wl2 (pc := 3) (len_s := 3) (Y := 0) rfl (Int32.toInt_toInt64 _) (by decide) (fun c18_s => ?_) (fun c18_s => ?_)
            · replace t_s := t_s.1 c18_s
              refine w_t (pc := 17) (e_s := (0, 1, 0, 0, 0, .int 0, [])) (y_s := (18, [some (.long _), none, some (.long _), none, some (.long _), none], [.int _], _)) rfl (u_ rfl) ?_
              refine wrI (pc := 18) (len_s := 1) rfl hk ?_
              show wF _ 153 (12, [some (.ref _), some (.long _), none], [.int _], _) _
              refine wrI (pc := 12) (len_s := 1) rfl hk ?_
              show wF _ 161 (89, [some (.ref _), some (.int _), some (.int _)], [.int _], _) _
              refine w_t (pc := 89) (e_s := (15, 3, 107, 0, 0, .null, [])) (y_s := (107, [some (.ref _), some (.int _), some (.int _)], [], _)) rfl (u_ rfl) ?_
              refine w_t (pc := 107) (e_s := (0, 1, 0, 0, 0, .int (-1), [])) (y_s := (108, [some (.ref _), some (.int _), some (.int _)], [.int _], _)) rfl (u_ rfl) ?_
              exact wrI (pc := 108) (len_s := 1) rfl hk t_s
            · replace t_s := t_s.2 c18_s
              refine w_t (pc := 6) (e_s := (2, 1, 0, 0, 0, .null, [])) (y_s := (7, [some (.long _), none, some (.long _), none, some (.long _), none], [.long _], _)) rfl (u_ rfl) ?_
              refine w_t (pc := 7) (e_s := (2, 2, 4, 0, 0, .null, [])) (y_s := (9, [some (.long _), none, some (.long _), none, some (.long _), none], [.long _, .long _], _)) rfl (u_ rfl) ?_
              refine w_t (pc := 9) (e_s := (14, 1, 0, 0, 0, .null, [])) (y_s := (10, [some (.long _), none, some (.long _), none, some (.long _), none], [.int (lg_cmp _ _)], _)) rfl (u_ rfl) ?_
              refine wl4 (pc := 10) (len_s := 3) rfl (Int32.toInt_toInt64 _) (Int32.toInt_toInt64 _) (fun c19_s => ?_) (fun c19_s => ?_)
              · replace t_s := t_s.1 c19_s
                refine w_t (pc := 17) (e_s := (0, 1, 0, 0, 0, .int 0, [])) (y_s := (18, [some (.long _), none, some (.long _), none, some (.long _), none], [.int _], _)) rfl (u_ rfl) ?_
                refine wrI (pc := 18) (len_s := 1) rfl hk ?_
                show wF _ 153 (12, [some (.ref _), some (.long _), none], [.int _], _) _
                refine wrI (pc := 12) (len_s := 1) rfl hk ?_
                show wF _ 161 (89, [some (.ref _), some (.int _), some (.int _)], [.int _], _) _
                refine w_t (pc := 89) (e_s := (15, 3, 107, 0, 0, .null, [])) (y_s := (107, [some (.ref _), some (.int _), some (.int _)], [], _)) rfl (u_ rfl) ?_
                refine w_t (pc := 107) (e_s := (0, 1, 0, 0, 0, .int (-1), [])) (y_s := (108, [some (.ref _), some (.int _), some (.int _)], [.int _], _)) rfl (u_ rfl) ?_
                exact wrI (pc := 108) (len_s := 1) rfl hk t_s
              · replace t_s := t_s.2 c19_s
                refine w_t (pc := 13) (e_s := (0, 1, 0, 0, 0, .int 1, [])) (y_s := (14, [some (.long _), none, some (.long _), none, some (.long _), none], [.int _], _)) rfl (u_ rfl) ?_
                refine w_t (pc := 14) (e_s := (17, 3, 18, 0, 0, .null, [])) (y_s := (18, [some (.long _), none, some (.long _), none, some (.long _), none], [.int _], _)) rfl (u_ rfl) ?_
                refine wrI (pc := 18) (len_s := 1) rfl hk ?_
                show wF _ 153 (12, [some (.ref _), some (.long _), none], [.int _], _) _
                refine wrI (pc := 12) (len_s := 1) rfl hk ?_
                show wF _ 161 (89, [some (.ref _), some (.int _), some (.int _)], [.int _], _) _
                refine w_t (pc := 89) (e_s := (15, 3, 107, 0, 0, .null, [])) (y_s := (92, [some (.ref _), some (.int _), some (.int _)], [], _)) rfl (u_ rfl) ?_
                refine w_t (pc := 92) (e_s := (0, 2, 0, 0, 0, .int 68, [])) (y_s := (94, [some (.ref _), some (.int _), some (.int _)], [.int _], _)) rfl (u_ rfl) ?_
                refine w_t (pc := 94) (e_s := (0, 2, 0, 0, 0, .int 12, [])) (y_s := (96, [some (.ref _), some (.int _), some (.int _)], [.int _, .int _], _)) rfl (u_ rfl) ?_
                refine w_t (pc := 96) (e_s := (1, 1, 2, 0, 0, .null, [])) (y_s := (97, [some (.ref _), some (.int _), some (.int _)], [.int _, .int _, .int _], _)) rfl (u_ rfl) ?_
                refine w_t (pc := 97) (e_s := (0, 2, 0, 0, 0, .int 9, [])) (y_s := (99, [some (.ref _), some (.int _), some (.int _)], [.int _, .int _, .int _, .int _], _)) rfl (u_ rfl) ?_
                refine w_t (pc := 99) (e_s := (7, 1, 0, 1, 0, .null, [])) (y_s := (100, [some (.ref _), some (.int _), some (.int _)], [.int (_ - _), .int _, .int _], _)) rfl (u_ rfl) ?_
                refine w_t (pc := 100) (e_s := (7, 1, 0, 2, 0, .null, [])) (y_s := (101, [some (.ref _), some (.int _), some (.int _)], [.int (_ * _), .int _], _)) rfl (u_ rfl) ?_
                refine w_t (pc := 101) (e_s := (7, 1, 0, 0, 0, .null, [])) (y_s := (102, [some (.ref _), some (.int _), some (.int _)], [.int (_ + _)], _)) rfl (u_ rfl) ?_
                refine w_t (pc := 102) (e_s := (1, 1, 1, 0, 0, .null, [])) (y_s := (103, [some (.ref _), some (.int _), some (.int _)], [.int _, .int _], _)) rfl (u_ rfl) ?_
                refine w_t (pc := 103) (e_s := (7, 1, 0, 0, 0, .null, [])) (y_s := (104, [some (.ref _), some (.int _), some (.int _)], [.int (_ + _)], _)) rfl (u_ rfl) ?_
                refine w_t (pc := 104) (e_s := (17, 3, 108, 0, 0, .null, [])) (y_s := (108, [some (.ref _), some (.int _), some (.int _)], [.int _], _)) rfl (u_ rfl) ?_
                exact wrI (pc := 108) (len_s := 1) rfl hk t_s
      · replace t_s := t_s.2 c15_s
        refine w_t (pc := 6) (e_s := (2, 1, 0, 0, 0, .null, [])) (y_s := (7, [some (.long _), none, some (.long _), none, some (.long _), none], [.long _], _)) rfl (u_ rfl) ?_
        refine w_t (pc := 7) (e_s := (2, 2, 4, 0, 0, .null, [])) (y_s := (9, [some (.long _), none, some (.long _), none, some (.long _), none], [.long _, .long _], _)) rfl (u_ rfl) ?_
        refine w_t (pc := 9) (e_s := (14, 1, 0, 0, 0, .null, [])) (y_s := (10, [some (.long _), none, some (.long _), none, some (.long _), none], [.int (lg_cmp _ _)], _)) rfl (u_ rfl) ?_
        refine wl4 (pc := 10) (len_s := 3) (Y := 8) rfl (Int32.toInt_toInt64 _) (by decide) (fun c20_s => ?_) (fun c20_s => ?_)
        · replace t_s := t_s.1 c20_s
          refine w_t (pc := 17) (e_s := (0, 1, 0, 0, 0, .int 0, [])) (y_s := (18, [some (.long _), none, some (.long _), none, some (.long _), none], [.int _], _)) rfl (u_ rfl) ?_
          refine wrI (pc := 18) (len_s := 1) rfl hk ?_
          show wF _ 161 (41, [some (.ref _), some (.int _), some (.int _)], [.int _], _) _
          refine w_t (pc := 41) (e_s := (15, 3, 69, 0, 0, .null, [])) (y_s := (69, [some (.ref _), some (.int _), some (.int _)], [], _)) rfl (u_ rfl) ?_
          refine w_t (pc := 69) (e_s := (1, 1, 2, 0, 0, .null, [])) (y_s := (70, [some (.ref _), some (.int _), some (.int _)], [.int _], _)) rfl (u_ rfl) ?_
          refine w_t (pc := 70) (e_s := (10, 1, 0, 0, 0, .null, [])) (y_s := (71, [some (.ref _), some (.int _), some (.int _)], [.long (Int32.toInt64 _)], _)) rfl (u_ rfl) ?_
          refine w_t (pc := 71) (e_s := (0, 3, 0, 0, 0, .long 9, [(0, 1066)])) (y_s := (74, [some (.ref _), some (.int _), some (.int _)], [.long _, .long _], _)) rfl (u_ rfl) ?_
          refine w_t (pc := 74) (e_s := (0, 3, 0, 0, 0, .long 11, [(0, 1075)])) (y_s := (77, [some (.ref _), some (.int _), some (.int _)], [.long _, .long _, .long _], _)) rfl (u_ rfl) ?_
          refine wcI (pc := 77) (len_s := 3) rfl rfl (l := [some (.long _), none, some (.long _), none, some (.long _), none]) rfl ?_
          refine w_t (pc := 0) (e_s := (2, 1, 0, 0, 0, .null, [])) (y_s := (1, [some (.long _), none, some (.long _), none, some (.long _), none], [.long _], _)) rfl (u_ rfl) ?_
          refine w_t (pc := 1) (e_s := (2, 1, 2, 0, 0, .null, [])) (y_s := (2, [some (.long _), none, some (.long _), none, some (.long _), none], [.long _, .long _], _)) rfl (u_ rfl) ?_
          refine w_t (pc := 2) (e_s := (14, 1, 0, 0, 0, .null, [])) (y_s := (3, [some (.long _), none, some (.long _), none, some (.long _), none], [.int (lg_cmp _ _)], _)) rfl (u_ rfl) ?_
          refine wl2 (pc := 3) (len_s := 3) (Y := 9) rfl (Int32.toInt_toInt64 _) (by decide) (fun c21 => ?_) (fun c21 => ?_)
          · replace t_s := t_s.1 c21
            refine w_t (pc := 17) (e_s := (0, 1, 0, 0, 0, .int 0, [])) (y_s := (18, [some (.long _), none, some (.long _), none, some (.long _), none], [.int _], _)) rfl (u_ rfl) ?_
            refine wrI (pc := 18) (len_s := 1) rfl hk ?_
            show wF _ 161 (80, [some (.ref _), some (.int _), some (.int _)], [.int _], _) _
            refine w_t (pc := 80) (e_s := (15, 3, 107, 0, 0, .null, [])) (y_s := (107, [some (.ref _), some (.int _), some (.int _)], [], _)) rfl (u_ rfl) ?_
            refine w_t (pc := 107) (e_s := (0, 1, 0, 0, 0, .int (-1), [])) (y_s := (108, [some (.ref _), some (.int _), some (.int _)], [.int _], _)) rfl (u_ rfl) ?_
            exact wrI (pc := 108) (len_s := 1) rfl hk t_s
          · replace t_s := t_s.2 c21
            refine w_t (pc := 6) (e_s := (2, 1, 0, 0, 0, .null, [])) (y_s := (7, [some (.long _), none, some (.long _), none, some (.long _), none], [.long _], _)) rfl (u_ rfl) ?_
            refine w_t (pc := 7) (e_s := (2, 2, 4, 0, 0, .null, [])) (y_s := (9, [some (.long _), none, some (.long _), none, some (.long _), none], [.long _, .long _], _)) rfl (u_ rfl) ?_
            refine w_t (pc := 9) (e_s := (14, 1, 0, 0, 0, .null, [])) (y_s := (10, [some (.long _), none, some (.long _), none, some (.long _), none], [.int (lg_cmp _ _)], _)) rfl (u_ rfl) ?_
            refine wl4 (pc := 10) (len_s := 3) (Y := 11) rfl (Int32.toInt_toInt64 _) (by decide) (fun c22 => ?_) (fun c22 => ?_)
            · replace t_s := t_s.1 c22
              refine w_t (pc := 17) (e_s := (0, 1, 0, 0, 0, .int 0, [])) (y_s := (18, [some (.long _), none, some (.long _), none, some (.long _), none], [.int _], _)) rfl (u_ rfl) ?_
              refine wrI (pc := 18) (len_s := 1) rfl hk ?_
              show wF _ 161 (80, [some (.ref _), some (.int _), some (.int _)], [.int _], _) _
              refine w_t (pc := 80) (e_s := (15, 3, 107, 0, 0, .null, [])) (y_s := (107, [some (.ref _), some (.int _), some (.int _)], [], _)) rfl (u_ rfl) ?_
              refine w_t (pc := 107) (e_s := (0, 1, 0, 0, 0, .int (-1), [])) (y_s := (108, [some (.ref _), some (.int _), some (.int _)], [.int _], _)) rfl (u_ rfl) ?_
              exact wrI (pc := 108) (len_s := 1) rfl hk t_s
            · replace t_s := t_s.2 c22
              refine w_t (pc := 13) (e_s := (0, 1, 0, 0, 0, .int 1, [])) (y_s := (14, [some (.long _), none, some (.long _), none, some (.long _), none], [.int _], _)) rfl (u_ rfl) ?_
              refine w_t (pc := 14) (e_s := (17, 3, 18, 0, 0, .null, [])) (y_s := (18, [some (.long _), none, some (.long _), none, some (.long _), none], [.int _], _)) rfl (u_ rfl) ?_
              refine wrI (pc := 18) (len_s := 1) rfl hk ?_
              show wF _ 161 (80, [some (.ref _), some (.int _), some (.int _)], [.int _], _) _
              refine w_t (pc := 80) (e_s := (15, 3, 107, 0, 0, .null, [])) (y_s := (83, [some (.ref _), some (.int _), some (.int _)], [], _)) rfl (u_ rfl) ?_
              refine w_t (pc := 83) (e_s := (3, 1, 0, 0, 0, .null, [])) (y_s := (84, [some (.ref _), some (.int _), some (.int _)], [.ref _], _)) rfl (u_ rfl) ?_
              refine w_t (pc := 84) (e_s := (1, 1, 1, 0, 0, .null, [])) (y_s := (85, [some (.ref _), some (.int _), some (.int _)], [.int _, .ref _], _)) rfl (u_ rfl) ?_
              refine w_t (pc := 85) (e_s := (10, 1, 0, 0, 0, .null, [])) (y_s := (86, [some (.ref _), some (.int _), some (.int _)], [.long (Int32.toInt64 _), .ref _], _)) rfl (u_ rfl) ?_
              refine wcI (pc := 86) (len_s := 3) rfl rfl (l := [some (.ref _), some (.long _), none]) rfl ?_
              refine w_t (pc := 0) (e_s := (2, 1, 1, 0, 0, .null, [])) (y_s := (1, [some (.ref _), some (.long _), none], [.long _], _)) rfl (u_ rfl) ?_
              refine w_t (pc := 1) (e_s := (0, 1, 0, 0, 0, .long 0, [])) (y_s := (2, [some (.ref _), some (.long _), none], [.long _, .long _], _)) rfl (u_ rfl) ?_
              refine w_t (pc := 2) (e_s := (3, 1, 0, 0, 0, .null, [])) (y_s := (3, [some (.ref _), some (.long _), none], [.ref _, .long _, .long _], _)) rfl (u_ rfl) ?_
              refine w20 (pc := 3) (len_s := 3) rfl ?_
              refine w_t (pc := 6) (e_s := (0, 1, 0, 0, 0, .int 1, [])) (y_s := (7, [some (.ref _), some (.long _), none], [.int _, .int _, .long _, .long _], _)) rfl (u_ rfl) ?_
              refine w_t (pc := 7) (e_s := (7, 1, 0, 1, 0, .null, [])) (y_s := (8, [some (.ref _), some (.long _), none], [.int (_ - _), .long _, .long _], _)) rfl (u_ rfl) ?_
              refine w_t (pc := 8) (e_s := (10, 1, 0, 0, 0, .null, [])) (y_s := (9, [some (.ref _), some (.long _), none], [.long (Int32.toInt64 _), .long _, .long _], _)) rfl (u_ rfl) ?_
              refine wcI (pc := 9) (len_s := 3) rfl rfl (l := [some (.long _), none, some (.long _), none, some (.long _), none]) rfl ?_
              refine w_t (pc := 0) (e_s := (2, 1, 0, 0, 0, .null, [])) (y_s := (1, [some (.long _), none, some (.long _), none, some (.long _), none], [.long _], _)) rfl (u_ rfl) ?_
              refine w_t (pc := 1) (e_s := (2, 1, 2, 0, 0, .null, [])) (y_s := (2, [some (.long _), none, some (.long _), none, some (.long _), none], [.long _, .long _], _)) rfl (u_ rfl) ?_
              refine w_t (pc := 2) (e_s := (14, 1, 0, 0, 0, .null, [])) (y_s := (3, [some (.long _), none, some (.long _), none, some (.long _), none], [.int (lg_cmp _ _)], _)) rfl (u_ rfl) ?_
              refine wl2 (pc := 3) (len_s := 3) (Y := 0) rfl (Int32.toInt_toInt64 _) (by decide) (fun c23_s => ?_) (fun c23_s => ?_)
              · replace t_s := t_s.1 c23_s
                refine w_t (pc := 17) (e_s := (0, 1, 0, 0, 0, .int 0, [])) (y_s := (18, [some (.long _), none, some (.long _), none, some (.long _), none], [.int _], _)) rfl (u_ rfl) ?_
                refine wrI (pc := 18) (len_s := 1) rfl hk ?_
                show wF _ 153 (12, [some (.ref _), some (.long _), none], [.int _], _) _
                refine wrI (pc := 12) (len_s := 1) rfl hk ?_
                show wF _ 161 (89, [some (.ref _), some (.int _), some (.int _)], [.int _], _) _
                refine w_t (pc := 89) (e_s := (15, 3, 107, 0, 0, .null, [])) (y_s := (107, [some (.ref _), some (.int _), some (.int _)], [], _)) rfl (u_ rfl) ?_
                refine w_t (pc := 107) (e_s := (0, 1, 0, 0, 0, .int (-1), [])) (y_s := (108, [some (.ref _), some (.int _), some (.int _)], [.int _], _)) rfl (u_ rfl) ?_
                exact wrI (pc := 108) (len_s := 1) rfl hk t_s
              · replace t_s := t_s.2 c23_s
                refine w_t (pc := 6) (e_s := (2, 1, 0, 0, 0, .null, [])) (y_s := (7, [some (.long _), none, some (.long _), none, some (.long _), none], [.long _], _)) rfl (u_ rfl) ?_
                refine w_t (pc := 7) (e_s := (2, 2, 4, 0, 0, .null, [])) (y_s := (9, [some (.long _), none, some (.long _), none, some (.long _), none], [.long _, .long _], _)) rfl (u_ rfl) ?_
                refine w_t (pc := 9) (e_s := (14, 1, 0, 0, 0, .null, [])) (y_s := (10, [some (.long _), none, some (.long _), none, some (.long _), none], [.int (lg_cmp _ _)], _)) rfl (u_ rfl) ?_
                refine wl4 (pc := 10) (len_s := 3) rfl (Int32.toInt_toInt64 _) (Int32.toInt_toInt64 _) (fun c24_s => ?_) (fun c24_s => ?_)
                · replace t_s := t_s.1 c24_s
                  refine w_t (pc := 17) (e_s := (0, 1, 0, 0, 0, .int 0, [])) (y_s := (18, [some (.long _), none, some (.long _), none, some (.long _), none], [.int _], _)) rfl (u_ rfl) ?_
                  refine wrI (pc := 18) (len_s := 1) rfl hk ?_
                  show wF _ 153 (12, [some (.ref _), some (.long _), none], [.int _], _) _
                  refine wrI (pc := 12) (len_s := 1) rfl hk ?_
                  show wF _ 161 (89, [some (.ref _), some (.int _), some (.int _)], [.int _], _) _
                  refine w_t (pc := 89) (e_s := (15, 3, 107, 0, 0, .null, [])) (y_s := (107, [some (.ref _), some (.int _), some (.int _)], [], _)) rfl (u_ rfl) ?_
                  refine w_t (pc := 107) (e_s := (0, 1, 0, 0, 0, .int (-1), [])) (y_s := (108, [some (.ref _), some (.int _), some (.int _)], [.int _], _)) rfl (u_ rfl) ?_
                  exact wrI (pc := 108) (len_s := 1) rfl hk t_s
                · replace t_s := t_s.2 c24_s
                  refine w_t (pc := 13) (e_s := (0, 1, 0, 0, 0, .int 1, [])) (y_s := (14, [some (.long _), none, some (.long _), none, some (.long _), none], [.int _], _)) rfl (u_ rfl) ?_
                  refine w_t (pc := 14) (e_s := (17, 3, 18, 0, 0, .null, [])) (y_s := (18, [some (.long _), none, some (.long _), none, some (.long _), none], [.int _], _)) rfl (u_ rfl) ?_
                  refine wrI (pc := 18) (len_s := 1) rfl hk ?_
                  show wF _ 153 (12, [some (.ref _), some (.long _), none], [.int _], _) _
                  refine wrI (pc := 12) (len_s := 1) rfl hk ?_
                  show wF _ 161 (89, [some (.ref _), some (.int _), some (.int _)], [.int _], _) _
                  refine w_t (pc := 89) (e_s := (15, 3, 107, 0, 0, .null, [])) (y_s := (92, [some (.ref _), some (.int _), some (.int _)], [], _)) rfl (u_ rfl) ?_
                  refine w_t (pc := 92) (e_s := (0, 2, 0, 0, 0, .int 68, [])) (y_s := (94, [some (.ref _), some (.int _), some (.int _)], [.int _], _)) rfl (u_ rfl) ?_
                  refine w_t (pc := 94) (e_s := (0, 2, 0, 0, 0, .int 12, [])) (y_s := (96, [some (.ref _), some (.int _), some (.int _)], [.int _, .int _], _)) rfl (u_ rfl) ?_
                  refine w_t (pc := 96) (e_s := (1, 1, 2, 0, 0, .null, [])) (y_s := (97, [some (.ref _), some (.int _), some (.int _)], [.int _, .int _, .int _], _)) rfl (u_ rfl) ?_
                  refine w_t (pc := 97) (e_s := (0, 2, 0, 0, 0, .int 9, [])) (y_s := (99, [some (.ref _), some (.int _), some (.int _)], [.int _, .int _, .int _, .int _], _)) rfl (u_ rfl) ?_
                  refine w_t (pc := 99) (e_s := (7, 1, 0, 1, 0, .null, [])) (y_s := (100, [some (.ref _), some (.int _), some (.int _)], [.int (_ - _), .int _, .int _], _)) rfl (u_ rfl) ?_
                  refine w_t (pc := 100) (e_s := (7, 1, 0, 2, 0, .null, [])) (y_s := (101, [some (.ref _), some (.int _), some (.int _)], [.int (_ * _), .int _], _)) rfl (u_ rfl) ?_
                  refine w_t (pc := 101) (e_s := (7, 1, 0, 0, 0, .null, [])) (y_s := (102, [some (.ref _), some (.int _), some (.int _)], [.int (_ + _)], _)) rfl (u_ rfl) ?_
                  refine w_t (pc := 102) (e_s := (1, 1, 1, 0, 0, .null, [])) (y_s := (103, [some (.ref _), some (.int _), some (.int _)], [.int _, .int _], _)) rfl (u_ rfl) ?_
                  refine w_t (pc := 103) (e_s := (7, 1, 0, 0, 0, .null, [])) (y_s := (104, [some (.ref _), some (.int _), some (.int _)], [.int (_ + _)], _)) rfl (u_ rfl) ?_
                  refine w_t (pc := 104) (e_s := (17, 3, 108, 0, 0, .null, [])) (y_s := (108, [some (.ref _), some (.int _), some (.int _)], [.int _], _)) rfl (u_ rfl) ?_
                  exact wrI (pc := 108) (len_s := 1) rfl hk t_s
        · replace t_s := t_s.2 c20_s
          refine w_t (pc := 13) (e_s := (0, 1, 0, 0, 0, .int 1, [])) (y_s := (14, [some (.long _), none, some (.long _), none, some (.long _), none], [.int _], _)) rfl (u_ rfl) ?_
          refine w_t (pc := 14) (e_s := (17, 3, 18, 0, 0, .null, [])) (y_s := (18, [some (.long _), none, some (.long _), none, some (.long _), none], [.int _], _)) rfl (u_ rfl) ?_
          refine wrI (pc := 18) (len_s := 1) rfl hk ?_
          show wF _ 161 (41, [some (.ref _), some (.int _), some (.int _)], [.int _], _) _
          refine w_t (pc := 41) (e_s := (15, 3, 69, 0, 0, .null, [])) (y_s := (44, [some (.ref _), some (.int _), some (.int _)], [], _)) rfl (u_ rfl) ?_
          refine w_t (pc := 44) (e_s := (3, 1, 0, 0, 0, .null, [])) (y_s := (45, [some (.ref _), some (.int _), some (.int _)], [.ref _], _)) rfl (u_ rfl) ?_
          refine w_t (pc := 45) (e_s := (1, 1, 1, 0, 0, .null, [])) (y_s := (46, [some (.ref _), some (.int _), some (.int _)], [.int _, .ref _], _)) rfl (u_ rfl) ?_
          refine w_t (pc := 46) (e_s := (10, 1, 0, 0, 0, .null, [])) (y_s := (47, [some (.ref _), some (.int _), some (.int _)], [.long (Int32.toInt64 _), .ref _], _)) rfl (u_ rfl) ?_
          refine wcI (pc := 47) (len_s := 3) rfl rfl (l := [some (.ref _), some (.long _), none]) rfl ?_
          refine w_t (pc := 0) (e_s := (2, 1, 1, 0, 0, .null, [])) (y_s := (1, [some (.ref _), some (.long _), none], [.long _], _)) rfl (u_ rfl) ?_
          refine w_t (pc := 1) (e_s := (0, 1, 0, 0, 0, .long 0, [])) (y_s := (2, [some (.ref _), some (.long _), none], [.long _, .long _], _)) rfl (u_ rfl) ?_
          refine w_t (pc := 2) (e_s := (3, 1, 0, 0, 0, .null, [])) (y_s := (3, [some (.ref _), some (.long _), none], [.ref _, .long _, .long _], _)) rfl (u_ rfl) ?_
          refine w20 (pc := 3) (len_s := 3) rfl ?_
          refine w_t (pc := 6) (e_s := (0, 1, 0, 0, 0, .int 1, [])) (y_s := (7, [some (.ref _), some (.long _), none], [.int _, .int _, .long _, .long _], _)) rfl (u_ rfl) ?_
          refine w_t (pc := 7) (e_s := (7, 1, 0, 1, 0, .null, [])) (y_s := (8, [some (.ref _), some (.long _), none], [.int (_ - _), .long _, .long _], _)) rfl (u_ rfl) ?_
          refine w_t (pc := 8) (e_s := (10, 1, 0, 0, 0, .null, [])) (y_s := (9, [some (.ref _), some (.long _), none], [.long (Int32.toInt64 _), .long _, .long _], _)) rfl (u_ rfl) ?_
          refine wcI (pc := 9) (len_s := 3) rfl rfl (l := [some (.long _), none, some (.long _), none, some (.long _), none]) rfl ?_
          refine w_t (pc := 0) (e_s := (2, 1, 0, 0, 0, .null, [])) (y_s := (1, [some (.long _), none, some (.long _), none, some (.long _), none], [.long _], _)) rfl (u_ rfl) ?_
          refine w_t (pc := 1) (e_s := (2, 1, 2, 0, 0, .null, [])) (y_s := (2, [some (.long _), none, some (.long _), none, some (.long _), none], [.long _, .long _], _)) rfl (u_ rfl) ?_
          refine w_t (pc := 2) (e_s := (14, 1, 0, 0, 0, .null, [])) (y_s := (3, [some (.long _), none, some (.long _), none, some (.long _), none], [.int (lg_cmp _ _)], _)) rfl (u_ rfl) ?_
          refine wl2 (pc := 3) (len_s := 3) (Y := 0) rfl (Int32.toInt_toInt64 _) (by decide) (fun c25_s => ?_) (fun c25_s => ?_)
          · replace t_s := t_s.1 c25_s
            refine w_t (pc := 17) (e_s := (0, 1, 0, 0, 0, .int 0, [])) (y_s := (18, [some (.long _), none, some (.long _), none, some (.long _), none], [.int _], _)) rfl (u_ rfl) ?_
            refine wrI (pc := 18) (len_s := 1) rfl hk ?_
            show wF _ 152 (12, [some (.ref _), some (.long _), none], [.int _], _) _
            refine wrI (pc := 12) (len_s := 1) rfl hk ?_
            show wF _ 161 (50, [some (.ref _), some (.int _), some (.int _)], [.int _], _) _
            refine w_t (pc := 50) (e_s := (15, 3, 67, 0, 0, .null, [])) (y_s := (67, [some (.ref _), some (.int _), some (.int _)], [], _)) rfl (u_ rfl) ?_
            refine w_t (pc := 67) (e_s := (0, 1, 0, 0, 0, .int (-1), [])) (y_s := (68, [some (.ref _), some (.int _), some (.int _)], [.int _], _)) rfl (u_ rfl) ?_
            exact wrI (pc := 68) (len_s := 1) rfl hk t_s
          · replace t_s := t_s.2 c25_s
            refine w_t (pc := 6) (e_s := (2, 1, 0, 0, 0, .null, [])) (y_s := (7, [some (.long _), none, some (.long _), none, some (.long _), none], [.long _], _)) rfl (u_ rfl) ?_
            refine w_t (pc := 7) (e_s := (2, 2, 4, 0, 0, .null, [])) (y_s := (9, [some (.long _), none, some (.long _), none, some (.long _), none], [.long _, .long _], _)) rfl (u_ rfl) ?_
            refine w_t (pc := 9) (e_s := (14, 1, 0, 0, 0, .null, [])) (y_s := (10, [some (.long _), none, some (.long _), none, some (.long _), none], [.int (lg_cmp _ _)], _)) rfl (u_ rfl) ?_
            refine wl4 (pc := 10) (len_s := 3) rfl (Int32.toInt_toInt64 _) (Int32.toInt_toInt64 _) (fun c26 => ?_) (fun c26 => ?_)
            · replace t_s := t_s.1 c26
              refine w_t (pc := 17) (e_s := (0, 1, 0, 0, 0, .int 0, [])) (y_s := (18, [some (.long _), none, some (.long _), none, some (.long _), none], [.int _], _)) rfl (u_ rfl) ?_
              refine wrI (pc := 18) (len_s := 1) rfl hk ?_
              show wF _ 152 (12, [some (.ref _), some (.long _), none], [.int _], _) _
              refine wrI (pc := 12) (len_s := 1) rfl hk ?_
              show wF _ 161 (50, [some (.ref _), some (.int _), some (.int _)], [.int _], _) _
              refine w_t (pc := 50) (e_s := (15, 3, 67, 0, 0, .null, [])) (y_s := (67, [some (.ref _), some (.int _), some (.int _)], [], _)) rfl (u_ rfl) ?_
              refine w_t (pc := 67) (e_s := (0, 1, 0, 0, 0, .int (-1), [])) (y_s := (68, [some (.ref _), some (.int _), some (.int _)], [.int _], _)) rfl (u_ rfl) ?_
              exact wrI (pc := 68) (len_s := 1) rfl hk t_s
            · replace t_s := t_s.2 c26
              refine w_t (pc := 13) (e_s := (0, 1, 0, 0, 0, .int 1, [])) (y_s := (14, [some (.long _), none, some (.long _), none, some (.long _), none], [.int _], _)) rfl (u_ rfl) ?_
              refine w_t (pc := 14) (e_s := (17, 3, 18, 0, 0, .null, [])) (y_s := (18, [some (.long _), none, some (.long _), none, some (.long _), none], [.int _], _)) rfl (u_ rfl) ?_
              refine wrI (pc := 18) (len_s := 1) rfl hk ?_
              show wF _ 152 (12, [some (.ref _), some (.long _), none], [.int _], _) _
              refine wrI (pc := 12) (len_s := 1) rfl hk ?_
              show wF _ 161 (50, [some (.ref _), some (.int _), some (.int _)], [.int _], _) _
              refine w_t (pc := 50) (e_s := (15, 3, 67, 0, 0, .null, [])) (y_s := (53, [some (.ref _), some (.int _), some (.int _)], [], _)) rfl (u_ rfl) ?_
              refine w_t (pc := 53) (e_s := (0, 2, 0, 0, 0, .int 12, [])) (y_s := (55, [some (.ref _), some (.int _), some (.int _)], [.int _], _)) rfl (u_ rfl) ?_
              refine w_t (pc := 55) (e_s := (0, 2, 0, 0, 0, .int 8, [])) (y_s := (57, [some (.ref _), some (.int _), some (.int _)], [.int _, .int _], _)) rfl (u_ rfl) ?_
              refine w_t (pc := 57) (e_s := (1, 1, 2, 0, 0, .null, [])) (y_s := (58, [some (.ref _), some (.int _), some (.int _)], [.int _, .int _, .int _], _)) rfl (u_ rfl) ?_
              refine w_t (pc := 58) (e_s := (0, 1, 0, 0, 0, .int 2, [])) (y_s := (59, [some (.ref _), some (.int _), some (.int _)], [.int _, .int _, .int _, .int _], _)) rfl (u_ rfl) ?_
              refine w_t (pc := 59) (e_s := (7, 1, 0, 1, 0, .null, [])) (y_s := (60, [some (.ref _), some (.int _), some (.int _)], [.int (_ - _), .int _, .int _], _)) rfl (u_ rfl) ?_
              refine w_t (pc := 60) (e_s := (7, 1, 0, 2, 0, .null, [])) (y_s := (61, [some (.ref _), some (.int _), some (.int _)], [.int (_ * _), .int _], _)) rfl (u_ rfl) ?_
              refine w_t (pc := 61) (e_s := (7, 1, 0, 0, 0, .null, [])) (y_s := (62, [some (.ref _), some (.int _), some (.int _)], [.int (_ + _)], _)) rfl (u_ rfl) ?_
              refine w_t (pc := 62) (e_s := (1, 1, 1, 0, 0, .null, [])) (y_s := (63, [some (.ref _), some (.int _), some (.int _)], [.int _, .int _], _)) rfl (u_ rfl) ?_
              refine w_t (pc := 63) (e_s := (7, 1, 0, 0, 0, .null, [])) (y_s := (64, [some (.ref _), some (.int _), some (.int _)], [.int (_ + _)], _)) rfl (u_ rfl) ?_
              refine w_t (pc := 64) (e_s := (17, 3, 68, 0, 0, .null, [])) (y_s := (68, [some (.ref _), some (.int _), some (.int _)], [.int _], _)) rfl (u_ rfl) ?_
              exact wrI (pc := 68) (len_s := 1) rfl hk t_s
    · replace t_s := t_s.2 c14_s
      refine w_t (pc := 13) (e_s := (0, 1, 0, 0, 0, .int 1, [])) (y_s := (14, [some (.long _), none, some (.long _), none, some (.long _), none], [.int _], _)) rfl (u_ rfl) ?_
      refine w_t (pc := 14) (e_s := (17, 3, 18, 0, 0, .null, [])) (y_s := (18, [some (.long _), none, some (.long _), none, some (.long _), none], [.int _], _)) rfl (u_ rfl) ?_
      refine wrI (pc := 18) (len_s := 1) rfl hk ?_
      show wF _ 161 (7, [some (.ref _), some (.int _), some (.int _)], [.int _], _) _
      refine w_t (pc := 7) (e_s := (15, 3, 30, 0, 0, .null, [])) (y_s := (10, [some (.ref _), some (.int _), some (.int _)], [], _)) rfl (u_ rfl) ?_
      refine w_t (pc := 10) (e_s := (3, 1, 0, 0, 0, .null, [])) (y_s := (11, [some (.ref _), some (.int _), some (.int _)], [.ref _], _)) rfl (u_ rfl) ?_
      refine w_t (pc := 11) (e_s := (1, 1, 1, 0, 0, .null, [])) (y_s := (12, [some (.ref _), some (.int _), some (.int _)], [.int _, .ref _], _)) rfl (u_ rfl) ?_
      refine w_t (pc := 12) (e_s := (10, 1, 0, 0, 0, .null, [])) (y_s := (13, [some (.ref _), some (.int _), some (.int _)], [.long (Int32.toInt64 _), .ref _], _)) rfl (u_ rfl) ?_
      refine wcI (pc := 13) (len_s := 3) rfl rfl (l := [some (.ref _), some (.long _), none]) rfl ?_
      refine w_t (pc := 0) (e_s := (2, 1, 1, 0, 0, .null, [])) (y_s := (1, [some (.ref _), some (.long _), none], [.long _], _)) rfl (u_ rfl) ?_
      refine w_t (pc := 1) (e_s := (0, 1, 0, 0, 0, .long 0, [])) (y_s := (2, [some (.ref _), some (.long _), none], [.long _, .long _], _)) rfl (u_ rfl) ?_
      refine w_t (pc := 2) (e_s := (3, 1, 0, 0, 0, .null, [])) (y_s := (3, [some (.ref _), some (.long _), none], [.ref _, .long _, .long _], _)) rfl (u_ rfl) ?_
      refine w20 (pc := 3) (len_s := 3) rfl ?_
      refine w_t (pc := 6) (e_s := (0, 1, 0, 0, 0, .int 1, [])) (y_s := (7, [some (.ref _), some (.long _), none], [.int _, .int _, .long _, .long _], _)) rfl (u_ rfl) ?_
      refine w_t (pc := 7) (e_s := (7, 1, 0, 1, 0, .null, [])) (y_s := (8, [some (.ref _), some (.long _), none], [.int (_ - _), .long _, .long _], _)) rfl (u_ rfl) ?_
      refine w_t (pc := 8) (e_s := (10, 1, 0, 0, 0, .null, [])) (y_s := (9, [some (.ref _), some (.long _), none], [.long (Int32.toInt64 _), .long _, .long _], _)) rfl (u_ rfl) ?_
      refine wcI (pc := 9) (len_s := 3) rfl rfl (l := [some (.long _), none, some (.long _), none, some (.long _), none]) rfl ?_
      refine w_t (pc := 0) (e_s := (2, 1, 0, 0, 0, .null, [])) (y_s := (1, [some (.long _), none, some (.long _), none, some (.long _), none], [.long _], _)) rfl (u_ rfl) ?_
      refine w_t (pc := 1) (e_s := (2, 1, 2, 0, 0, .null, [])) (y_s := (2, [some (.long _), none, some (.long _), none, some (.long _), none], [.long _, .long _], _)) rfl (u_ rfl) ?_
      refine w_t (pc := 2) (e_s := (14, 1, 0, 0, 0, .null, [])) (y_s := (3, [some (.long _), none, some (.long _), none, some (.long _), none], [.int (lg_cmp _ _)], _)) rfl (u_ rfl) ?_
      refine wl2 (pc := 3) (len_s := 3) (Y := 0) rfl (Int32.toInt_toInt64 _) (by decide) (fun c27_s => ?_) (fun c27_s => ?_)
      · replace t_s := t_s.1 c27_s
        refine w_t (pc := 17) (e_s := (0, 1, 0, 0, 0, .int 0, [])) (y_s := (18, [some (.long _), none, some (.long _), none, some (.long _), none], [.int _], _)) rfl (u_ rfl) ?_
        refine wrI (pc := 18) (len_s := 1) rfl hk ?_
        show wF _ 151 (12, [some (.ref _), some (.long _), none], [.int _], _) _
        refine wrI (pc := 12) (len_s := 1) rfl hk ?_
        show wF _ 161 (16, [some (.ref _), some (.int _), some (.int _)], [.int _], _) _
        refine w_t (pc := 16) (e_s := (15, 3, 28, 0, 0, .null, [])) (y_s := (28, [some (.ref _), some (.int _), some (.int _)], [], _)) rfl (u_ rfl) ?_
        refine w_t (pc := 28) (e_s := (0, 1, 0, 0, 0, .int (-1), [])) (y_s := (29, [some (.ref _), some (.int _), some (.int _)], [.int _], _)) rfl (u_ rfl) ?_
        exact wrI (pc := 29) (len_s := 1) rfl hk t_s
      · replace t_s := t_s.2 c27_s
        refine w_t (pc := 6) (e_s := (2, 1, 0, 0, 0, .null, [])) (y_s := (7, [some (.long _), none, some (.long _), none, some (.long _), none], [.long _], _)) rfl (u_ rfl) ?_
        refine w_t (pc := 7) (e_s := (2, 2, 4, 0, 0, .null, [])) (y_s := (9, [some (.long _), none, some (.long _), none, some (.long _), none], [.long _, .long _], _)) rfl (u_ rfl) ?_
        refine w_t (pc := 9) (e_s := (14, 1, 0, 0, 0, .null, [])) (y_s := (10, [some (.long _), none, some (.long _), none, some (.long _), none], [.int (lg_cmp _ _)], _)) rfl (u_ rfl) ?_
        refine wl4 (pc := 10) (len_s := 3) rfl (Int32.toInt_toInt64 _) (Int32.toInt_toInt64 _) (fun c28_s => ?_) (fun c28_s => ?_)
        · replace t_s := t_s.1 c28_s
          refine w_t (pc := 17) (e_s := (0, 1, 0, 0, 0, .int 0, [])) (y_s := (18, [some (.long _), none, some (.long _), none, some (.long _), none], [.int _], _)) rfl (u_ rfl) ?_
          refine wrI (pc := 18) (len_s := 1) rfl hk ?_
          show wF _ 151 (12, [some (.ref _), some (.long _), none], [.int _], _) _
          refine wrI (pc := 12) (len_s := 1) rfl hk ?_
          show wF _ 161 (16, [some (.ref _), some (.int _), some (.int _)], [.int _], _) _
          refine w_t (pc := 16) (e_s := (15, 3, 28, 0, 0, .null, [])) (y_s := (28, [some (.ref _), some (.int _), some (.int _)], [], _)) rfl (u_ rfl) ?_
          refine w_t (pc := 28) (e_s := (0, 1, 0, 0, 0, .int (-1), [])) (y_s := (29, [some (.ref _), some (.int _), some (.int _)], [.int _], _)) rfl (u_ rfl) ?_
          exact wrI (pc := 29) (len_s := 1) rfl hk t_s
        · replace t_s := t_s.2 c28_s
          refine w_t (pc := 13) (e_s := (0, 1, 0, 0, 0, .int 1, [])) (y_s := (14, [some (.long _), none, some (.long _), none, some (.long _), none], [.int _], _)) rfl (u_ rfl) ?_
          refine w_t (pc := 14) (e_s := (17, 3, 18, 0, 0, .null, [])) (y_s := (18, [some (.long _), none, some (.long _), none, some (.long _), none], [.int _], _)) rfl (u_ rfl) ?_
          refine wrI (pc := 18) (len_s := 1) rfl hk ?_
          show wF _ 151 (12, [some (.ref _), some (.long _), none], [.int _], _) _
          refine wrI (pc := 12) (len_s := 1) rfl hk ?_
          show wF _ 161 (16, [some (.ref _), some (.int _), some (.int _)], [.int _], _) _
          refine w_t (pc := 16) (e_s := (15, 3, 28, 0, 0, .null, [])) (y_s := (19, [some (.ref _), some (.int _), some (.int _)], [], _)) rfl (u_ rfl) ?_
          refine w_t (pc := 19) (e_s := (0, 2, 0, 0, 0, .int 6, [])) (y_s := (21, [some (.ref _), some (.int _), some (.int _)], [.int _], _)) rfl (u_ rfl) ?_
          refine w_t (pc := 21) (e_s := (1, 1, 2, 0, 0, .null, [])) (y_s := (22, [some (.ref _), some (.int _), some (.int _)], [.int _, .int _], _)) rfl (u_ rfl) ?_
          refine w_t (pc := 22) (e_s := (7, 1, 0, 2, 0, .null, [])) (y_s := (23, [some (.ref _), some (.int _), some (.int _)], [.int (_ * _)], _)) rfl (u_ rfl) ?_
          refine w_t (pc := 23) (e_s := (1, 1, 1, 0, 0, .null, [])) (y_s := (24, [some (.ref _), some (.int _), some (.int _)], [.int _, .int _], _)) rfl (u_ rfl) ?_
          refine w_t (pc := 24) (e_s := (7, 1, 0, 0, 0, .null, [])) (y_s := (25, [some (.ref _), some (.int _), some (.int _)], [.int (_ + _)], _)) rfl (u_ rfl) ?_
          refine w_t (pc := 25) (e_s := (17, 3, 29, 0, 0, .null, [])) (y_s := (29, [some (.ref _), some (.int _), some (.int _)], [.int _], _)) rfl (u_ rfl) ?_
          exact wrI (pc := 29) (len_s := 1) rfl hk t_s
/-- ColdShodModel.mayBecome(II)Z, from 0 on -/
theorem sg_162_0 {F_s : Nat} {x1_s : Int32} {x2_s : Int32} {h_s : zH} {K_s : Int32 → zH → Prop} (hk : hKn h_s) (t_s : (x1_s.toInt = 0 → ((x2_s.toInt < 0 → K_s 0 h_s) ∧ (¬ x2_s.toInt < 0 → ((5 < x2_s.toInt → K_s 0 h_s) ∧ (¬ 5 < x2_s.toInt → K_s 1 h_s))))) ∧ (¬ x1_s.toInt = 0 → (x1_s.toInt = 1 → ((x2_s.toInt < 0 → K_s 0 h_s) ∧ (¬ x2_s.toInt < 0 → ((12 < x2_s.toInt → K_s 0 h_s) ∧ (¬ 12 < x2_s.toInt → K_s 1 h_s))))) ∧ (¬ x1_s.toInt = 1 → (x1_s.toInt = 2 → ((x2_s.toInt < 0 → K_s 0 h_s) ∧ (¬ x2_s.toInt < 0 → ((3 < x2_s.toInt → K_s 0 h_s) ∧ (¬ 3 < x2_s.toInt → K_s 1 h_s))))) ∧ (¬ x1_s.toInt = 2 → (x1_s.toInt = 3 → ((x2_s.toInt < 0 → K_s 0 h_s) ∧ (¬ x2_s.toInt < 0 → ((5 < x2_s.toInt → K_s 0 h_s) ∧ (¬ 5 < x2_s.toInt → K_s 1 h_s))))) ∧ (¬ x1_s.toInt = 3 → (x1_s.toInt = 4 → ((x2_s.toInt < 0 → K_s 0 h_s) ∧ (¬ x2_s.toInt < 0 → ((99 < x2_s.toInt → K_s 0 h_s) ∧ (¬ 99 < x2_s.toInt → K_s 1 h_s))))) ∧ (¬ x1_s.toInt = 4 → (x1_s.toInt = 5 → ((x2_s.toInt < 0 → K_s 0 h_s) ∧ (¬ x2_s.toInt < 0 → ((9 < x2_s.toInt → K_s 0 h_s) ∧ (¬ 9 < x2_s.toInt → K_s 1 h_s))))) ∧ (¬ x1_s.toInt = 5 → (x1_s.toInt = 6 → ((x2_s.toInt < 0 → K_s 0 h_s) ∧ (¬ x2_s.toInt < 0 → ((1 < x2_s.toInt → K_s 0 h_s) ∧ (¬ 1 < x2_s.toInt → K_s 1 h_s))))) ∧ (¬ x1_s.toInt = 6 → (x1_s.toInt = 7 → ((x2_s.toInt < 0 → K_s 0 h_s) ∧ (¬ x2_s.toInt < 0 → ((9 < x2_s.toInt → K_s 0 h_s) ∧ (¬ 9 < x2_s.toInt → K_s 1 h_s))))) ∧ (¬ x1_s.toInt = 7 → (x1_s.toInt = 8 → ((x2_s.toInt = -1 → K_s 1 h_s) ∧ (¬ x2_s.toInt = -1 → ((x2_s.toInt < 0 → K_s 0 h_s) ∧ (¬ x2_s.toInt < 0 → ((((h_s.2.1 102 6) - 1).toInt < x2_s.toInt → K_s 0 h_s) ∧ (¬ ((h_s.2.1 102 6) - 1).toInt < x2_s.toInt → K_s 1 h_s))))))) ∧ (¬ x1_s.toInt = 8 → (x1_s.toInt = 9 → ((x2_s.toInt < 1 → K_s 0 h_s) ∧ (¬ x2_s.toInt < 1 → ((9 < x2_s.toInt → K_s 0 h_s) ∧ (¬ 9 < x2_s.toInt → K_s 1 h_s))))) ∧ (¬ x1_s.toInt = 9 → (x1_s.toInt = 10 → ((x2_s.toInt < 0 → K_s 0 h_s) ∧ (¬ x2_s.toInt < 0 → ((9 < x2_s.toInt → K_s 0 h_s) ∧ (¬ 9 < x2_s.toInt → K_s 1 h_s))))) ∧ (¬ x1_s.toInt = 10 → (x1_s.toInt = 11 → ((x2_s.toInt < 0 → K_s 0 h_s) ∧ (¬ x2_s.toInt < 0 → ((2 < x2_s.toInt → K_s 0 h_s) ∧ (¬ 2 < x2_s.toInt → K_s 1 h_s))))) ∧ (¬ x1_s.toInt = 11 → ((x2_s.toInt < 0 → K_s 0 h_s) ∧ (¬ x2_s.toInt < 0 → ((9 < x2_s.toInt → K_s 0 h_s) ∧ (¬ 9 < x2_s.toInt → K_s 1 h_s))))))))))))))))) : wF (F_s + 1) 162 (0, [some (.ref 102), some (.int x1_s), some (.int x2_s)], [], h_s) (gI K_s) := by
  refine w_0 (pc := 0) (e_s := (1, 1, 1, 0, 0, .null, [])) (y_s := (1, [some (.ref _), some (.int _), some (.int _)], [.int _], _)) rfl (u_ rfl) ?_
  refine wsw (pc := 1) (len_s := 63) rfl ?_
  refine wsc (X_s := 0) rfl (by decide) (fun c1_s => ?_) (fun c1_s => ?_)
  · replace t_s := t_s.1 c1_s
    refine w_t (pc := 64) (e_s := (1, 1, 2, 0, 0, .null, [])) (y_s := (65, [some (.ref _), some (.int _), some (.int _)], [.int _], _)) rfl (u_ rfl) ?_
    refine w_t (pc := 65) (e_s := (10, 1, 0, 0, 0, .null, [])) (y_s := (66, [some (.ref _), some (.int _), some (.int _)], [.long (Int32.toInt64 _)], _)) rfl (u_ rfl) ?_
    refine w_t (pc := 66) (e_s := (0, 1, 0, 0, 0, .long 0, [])) (y_s := (67, [some (.ref _), some (.int _), some (.int _)], [.long _, .long _], _)) rfl (u_ rfl) ?_
    refine w_t (pc := 67) (e_s := (0, 3, 0, 0, 0, .long 5, [(0, 1063)])) (y_s := (70, [some (.ref _), some (.int _), some (.int _)], [.long _, .long _, .long _], _)) rfl (u_ rfl) ?_
    refine wcI (pc := 70) (len_s := 3) rfl rfl (l := [some (.long _), none, some (.long _), none, some (.long _), none]) rfl ?_
    refine w_t (pc := 0) (e_s := (2, 1, 0, 0, 0, .null, [])) (y_s := (1, [some (.long _), none, some (.long _), none, some (.long _), none], [.long _], _)) rfl (u_ rfl) ?_
    refine w_t (pc := 1) (e_s := (2, 1, 2, 0, 0, .null, [])) (y_s := (2, [some (.long _), none, some (.long _), none, some (.long _), none], [.long _, .long _], _)) rfl (u_ rfl) ?_
    refine w_t (pc := 2) (e_s := (14, 1, 0, 0, 0, .null, [])) (y_s := (3, [some (.long _), none, some (.long _), none, some (.long _), none], [.int (lg_cmp _ _)], _)) rfl (u_ rfl) ?_
    refine wl2 (pc := 3) (len_s := 3) (Y := 0) rfl (Int32.toInt_toInt64 _) (by decide) (fun c2_s => ?_) (fun c2_s => ?_)
    · replace t_s := t_s.1 c2_s
      refine w_t (pc := 17) (e_s := (0, 1, 0, 0, 0, .int 0, [])) (y_s := (18, [some (.long _), none, some (.long _), none, some (.long _), none], [.int _], _)) rfl (u_ rfl) ?_
      refine wrI (pc := 18) (len_s := 1) rfl hk ?_
      show wF _ 162 (73, [some (.ref _), some (.int _), some (.int _)], [.int _], _) _
      exact wrI (pc := 73) (len_s := 1) rfl hk t_s
    · replace t_s := t_s.2 c2_s
      refine w_t (pc := 6) (e_s := (2, 1, 0, 0, 0, .null, [])) (y_s := (7, [some (.long _), none, some (.long _), none, some (.long _), none], [.long _], _)) rfl (u_ rfl) ?_
      refine w_t (pc := 7) (e_s := (2, 2, 4, 0, 0, .null, [])) (y_s := (9, [some (.long _), none, some (.long _), none, some (.long _), none], [.long _, .long _], _)) rfl (u_ rfl) ?_
      refine w_t (pc := 9) (e_s := (14, 1, 0, 0, 0, .null, [])) (y_s := (10, [some (.long _), none, some (.long _), none, some (.long _), none], [.int (lg_cmp _ _)], _)) rfl (u_ rfl) ?_
      refine wl4 (pc := 10) (len_s := 3) (Y := 5) rfl (Int32.toInt_toInt64 _) (by decide) (fun c3_s => ?_) (fun c3_s => ?_)
      · replace t_s := t_s.1 c3_s
        refine w_t (pc := 17) (e_s := (0, 1, 0, 0, 0, .int 0, [])) (y_s := (18, [some (.long _), none, some (.long _), none, some (.long _), none], [.int _], _)) rfl (u_ rfl) ?_
        refine wrI (pc := 18) (len_s := 1) rfl hk ?_
        show wF _ 162 (73, [some (.ref _), some (.int _), some (.int _)], [.int _], _) _
        exact wrI (pc := 73) (len_s := 1) rfl hk t_s
      · replace t_s := t_s.2 c3_s
        refine w_t (pc := 13) (e_s := (0, 1, 0, 0, 0, .int 1, [])) (y_s := (14, [some (.long _), none, some (.long _), none, some (.long _), none], [.int _], _)) rfl (u_ rfl) ?_
        refine w_t (pc := 14) (e_s := (17, 3, 18, 0, 0, .null, [])) (y_s := (18, [some (.long _), none, some (.long _), none, some (.long _), none], [.int _], _)) rfl (u_ rfl) ?_
        refine wrI (pc := 18) (len_s := 1) rfl hk ?_
        show wF _ 162 (73, [some (.ref _), some (.int _), some (.int _)], [.int _], _) _
        exact wrI (pc := 73) (len_s := 1) rfl hk t_s
  · replace t_s := t_s.2 c1_s
    refine wsc (X_s := 1) rfl (by decide) (fun c4_s => ?_) (fun c4_s => ?_)
    · replace t_s := t_s.1 c4_s
      refine w_t (pc := 74) (e_s := (1, 1, 2, 0, 0, .null, [])) (y_s := (75, [some (.ref _), some (.int _), some (.int _)], [.int _], _)) rfl (u_ rfl) ?_
      refine w_t (pc := 75) (e_s := (10, 1, 0, 0, 0, .null, [])) (y_s := (76, [some (.ref _), some (.int _), some (.int _)], [.long (Int32.toInt64 _)], _)) rfl (u_ rfl) ?_
      refine w_t (pc := 76) (e_s := (0, 1, 0, 0, 0, .long 0, [])) (y_s := (77, [some (.ref _), some (.int _), some (.int _)], [.long _, .long _], _)) rfl (u_ rfl) ?_
      refine w_t (pc := 77) (e_s := (0, 3, 0, 0, 0, .long 12, [(0, 1070)])) (y_s := (80, [some (.ref _), some (.int _), some (.int _)], [.long _, .long _, .long _], _)) rfl (u_ rfl) ?_
      refine wcI (pc := 80) (len_s := 3) rfl rfl (l := [some (.long _), none, some (.long _), none, some (.long _), none]) rfl ?_
      refine w_t (pc := 0) (e_s := (2, 1, 0, 0, 0, .null, [])) (y_s := (1, [some (.long _), none, some (.long _), none, some (.long _), none], [.long _], _)) rfl (u_ rfl) ?_
      refine w_t (pc := 1) (e_s := (2, 1, 2, 0, 0, .null, [])) (y_s := (2, [some (.long _), none, some (.long _), none, some (.long _), none], [.long _, .long _], _)) rfl (u_ rfl) ?_
      refine w_t (pc := 2) (e_s := (14, 1, 0, 0, 0, .null, [])) (y_s := (3, [some (.long _), none, some (.long _), none, some (.long _), none], [.int (lg_cmp _ _)], _)) rfl (u_ rfl) ?_
      refine wl2 (pc := 3) (len_s := 3) (Y := 0) rfl (Int32.toInt_toInt64 _) (by decide) (fun c5_s => ?_) (fun c5_s => ?_)
      · replace t_s := t_s.1 c5_s
        refine w_t (pc := 17) (e_s := (0, 1, 0, 0, 0, .int 0, [])) (y_s := (18, [some (.long _), none, some (.long _), none, some (.long _), none], [.int _], _)) rfl (u_ rfl) ?_
        refine wrI (pc := 18) (len_s := 1) rfl hk ?_
        show wF _ 162 (83, [some (.ref _), some (.int _), some (.int _)], [.int _], _) _
        exact wrI (pc := 83) (len_s := 1) rfl hk t_s
      · replace t_s := t_s.2 c5_s
        refine w_t (pc := 6) (e_s := (2, 1, 0, 0, 0, .null, [])) (y_s := (7, [some (.long _), none, some (.long _), none, some (.long _), none], [.long _], _)) rfl (u_ rfl) ?_
        refine w_t (pc := 7) (e_s := (2, 2, 4, 0, 0, .null, [])) (y_s := (9, [some (.long _), none, some (.long _), none, some (.long _), none], [.long _, .long _], _)) rfl (u_ rfl) ?_
        refine w_t (pc := 9) (e_s := (14, 1, 0, 0, 0, .null, [])) (y_s := (10, [some (.long _), none, some (.long _), none, some (.long _), none], [.int (lg_cmp _ _)], _)) rfl (u_ rfl) ?_
        refine wl4 (pc := 10) (len_s := 3) (Y := 12) rfl (Int32.toInt_toInt64 _) (by decide) (fun c6_s => ?_) (fun c6_s => ?_)
        · replace t_s := t_s.1 c6_s
          refine w_t (pc := 17) (e_s := (0, 1, 0, 0, 0, .int 0, [])) (y_s := (18, [some (.long _), none, some (.long _), none, some (.long _), none], [.int _], _)) rfl (u_ rfl) ?_
          refine wrI (pc := 18) (len_s := 1) rfl hk ?_
          show wF _ 162 (83, [some (.ref _), some (.int _), some (.int _)], [.int _], _) _
          exact wrI (pc := 83) (len_s := 1) rfl hk t_s
        · replace t_s := t_s.2 c6_s
          refine w_t (pc := 13) (e_s := (0, 1, 0, 0, 0, .int 1, [])) (y_s := (14, [some (.long _), none, some (.long _), none, some (.long _), none], [.int _], _)) rfl (u_ rfl) ?_
          refine w_t (pc := 14) (e_s := (17, 3, 18, 0, 0, .null, [])) (y_s := (18, [some (.long _), none, some (.long _), none, some (.long _), none], [.int _], _)) rfl (u_ rfl) ?_
          refine wrI (pc := 18) (len_s := 1) rfl hk ?_
          show wF _ 162 (83, [some (.ref _), some (.int _), some (.int _)], [.int _], _) _
          exact wrI (pc := 83) (len_s := 1) rfl hk t_s
    · replace t_s := t_s.2 c4_s
      refine wsc (X_s := 2) rfl (by decide) (fun c7_s => ?_) (fun c7_s => ?_)
      · replace t_s := t_s.1 c7_s
        refine w_t (pc := 84) (e_s := (1, 1, 2, 0, 0, .null, [])) (y_s := (85, [some (.ref _), some (.int _), some (.int _)], [.int _], _)) rfl (u_ rfl) ?_
        refine w_t (pc := 85) (e_s := (10, 1, 0, 0, 0, .null, [])) (y_s := (86, [some (.ref _), some (.int _), some (.int _)], [.long (Int32.toInt64 _)], _)) rfl (u_ rfl) ?_
        refine w_t (pc := 86) (e_s := (0, 1, 0, 0, 0, .long 0, [])) (y_s := (87, [some (.ref _), some (.int _), some (.int _)], [.long _, .long _], _)) rfl (u_ rfl) ?_
        refine w_t (pc := 87) (e_s := (0, 3, 0, 0, 0, .long 3, [(0, 1064)])) (y_s := (90, [some (.ref _), some (.int _), some (.int _)], [.long _, .long _, .long _], _)) rfl (u_ rfl) ?_
        refine wcI (pc := 90) (len_s := 3) rfl rfl (l := [some (.long _), none, some (.long _), none, some (.long _), none]) rfl ?_
        refine w_t (pc := 0) (e_s := (2, 1, 0, 0, 0, .null, [])) (y_s := (1, [some (.long _), none, some (.long _), none, some (.long _), none], [.long _], _)) rfl (u_ rfl) ?_
        refine w_t (pc := 1) (e_s := (2, 1, 2, 0, 0, .null, [])) (y_s := (2, [some (.long _), none, some (.long _), none, some (.long _), none], [.long _, .long _], _)) rfl (u_ rfl) ?_
        refine w_t (pc := 2) (e_s := (14, 1, 0, 0, 0, .null, [])) (y_s := (3, [some (.long _), none, some (.long _), none, some (.long _), none], [.int (lg_cmp _ _)], _)) rfl (u_ rfl) ?_
        refine wl2 (pc := 3) (len_s := 3) (Y := 0) rfl (Int32.toInt_toInt64 _) (by decide) (fun c8_s => ?_) (fun c8_s => ?_)
        · replace t_s := t_s.1 c8_s
          refine w_t (pc := 17) (e_s := (0, 1, 0, 0, 0, .int 0, [])) (y_s := (18, [some (.long _), none, some (.long _), none, some (.long _), none], [.int _], _)) rfl (u_ rfl) ?_
          refine wrI (pc := 18) (len_s := 1) rfl hk ?_
          show wF _ 162 (93, [some (.ref _), some (.int _), some (.int _)], [.int _], _) _
          exact wrI (pc := 93) (len_s := 1) rfl hk t_s
        · replace t_s := t_s.2 c8_s
          refine w_t (pc := 6) (e_s := (2, 1, 0, 0, 0, .null, [])) (y_s := (7, [some (.long _), none, some (.long _), none, some (.long _), none], [.long _], _)) rfl (u_ rfl) ?_
          refine w_t (pc := 7) (e_s := (2, 2, 4, 0, 0, .null, [])) (y_s := (9, [some (.long _), none, some (.long _), none, some (.long _), none], [.long _, .long _], _)) rfl (u_ rfl) ?_
          refine w_t (pc := 9) (e_s := (14, 1, 0, 0, 0, .null, [])) (y_s := (10, [some (.long _), none, some (.long _), none, some (.long _), none], [.int (lg_cmp _ _)], _)) rfl (u_ rfl) ?_
          refine wl4 (pc := 10) (len_s := 3) (Y := 3) rfl (Int32.toInt_toInt64 _) (by decide) (fun c9_s => ?_) (fun c9_s => ?_)
          · replace t_s := t_s.1 c9_s
            refine w_t (pc := 17) (e_s := (0, 1, 0, 0, 0, .int 0, [])) (y_s := (18, [some (.long _), none, some (.long _), none, some (.long _), none], [.int _], _)) rfl (u_ rfl) ?_
            refine wrI (pc := 18) (len_s := 1) rfl hk ?_
            show wF _ 162 (93, [some (.ref _), some (.int _), some (.int _)], [.int _], _) _
            exact wrI (pc := 93) (len_s := 1) rfl hk t_s
          · replace t_s := t_s.2 c9_s
            refine w_t (pc := 13) (e_s := (0, 1, 0, 0, 0, .int 1, [])) (y_s := (14, [some (.long _), none, some (.long _), none, some (.long _), none], [.int _], _)) rfl (u_ rfl) ?_
            refine w_t (pc := 14) (e_s := (17, 3, 18, 0, 0, .null, [])) (y_s := (18, [some (.long _), none, some (.long _), none, some (.long _), none], [.int _], _)) rfl (u_ rfl) ?_
            refine wrI (pc := 18) (len_s := 1) rfl hk ?_
            show wF _ 162 (93, [some (.ref _), some (.int _), some (.int _)], [.int _], _) _
            exact wrI (pc := 93) (len_s := 1) rfl hk t_s
      · replace t_s := t_s.2 c7_s
        refine wsc (X_s := 3) rfl (by decide) (fun c10_s => ?_) (fun c10_s => ?_)
        · replace t_s := t_s.1 c10_s
          refine w_t (pc := 64) (e_s := (1, 1, 2, 0, 0, .null, [])) (y_s := (65, [some (.ref _), some (.int _), some (.int _)], [.int _], _)) rfl (u_ rfl) ?_
          refine w_t (pc := 65) (e_s := (10, 1, 0, 0, 0, .null, [])) (y_s := (66, [some (.ref _), some (.int _), some (.int _)], [.long (Int32.toInt64 _)], _)) rfl (u_ rfl) ?_
          refine w_t (pc := 66) (e_s := (0, 1, 0, 0, 0, .long 0, [])) (y_s := (67, [some (.ref _), some (.int _), some (.int _)], [.long _, .long _], _)) rfl (u_ rfl) ?_
          refine w_t (pc := 67) (e_s := (0, 3, 0, 0, 0, .long 5, [(0, 1063)])) (y_s := (70, [some (.ref _), some (.int _), some (.int _)], [.long _, .long _, .long _], _)) rfl (u_ rfl) ?_
          refine wcI (pc := 70) (len_s := 3) rfl rfl (l := [some (.long _), none, some (.long _), none, some (.long _), none]) rfl ?_
          refine w_t (pc := 0) (e_s := (2, 1, 0, 0, 0, .null, [])) (y_s := (1, [some (.long _), none, some (.long _), none, some (.long _), none], [.long _], _)) rfl (u_ rfl) ?_
          refine w_t (pc := 1) (e_s := (2, 1, 2, 0, 0, .null, [])) (y_s := (2, [some (.long _), none, some (.long _), none, some (.long _), none], [.long _, .long _], _)) rfl (u_ rfl) ?_
          refine w_t (pc := 2) (e_s := (14, 1, 0, 0, 0, .null, [])) (y_s := (3, [some (.long _), none, some (.long _), none, some (.long _), none], [.int (lg_cmp _ _)], _)) rfl (u_ rfl) ?_
          refine wl2 (pc := 3) (len_s := 3) (Y := 0) rfl (Int32.toInt_toInt64 _) (by decide) (fun c11_s => ?_) (fun c11_s => ?_)
          · replace t_s := t_s.1 c11_s
            refine w_t (pc := 17) (e_s := (0, 1, 0, 0, 0, .int 0, [])) (y_s := (18, [some (.long _), none, some (.long _), none, some (.long _), none], [.int _], _)) rfl (u_ rfl) ?_
            refine wrI (pc := 18) (len_s := 1) rfl hk ?_
            show wF _ 162 (73, [some (.ref _), some (.int _), some (.int _)], [.int _], _) _
            exact wrI (pc := 73) (len_s := 1) rfl hk t_s
          · replace t_s := t_s.2 c11_s
            refine w_t (pc := 6) (e_s := (2, 1, 0, 0, 0, .null, [])) (y_s := (7, [some (.long _), none, some (.long _), none, some (.long _), none], [.long _], _)) rfl (u_ rfl) ?_
            refine w_t (pc := 7) (e_s := (2, 2, 4, 0, 0, .null, [])) (y_s := (9, [some (.long _), none, some (.long _), none, some (.long _), none], [.long _, .long _], _)) rfl (u_ rfl) ?_
            refine w_t (pc := 9) (e_s := (14, 1, 0, 0, 0, .null, [])) (y_s := (10, [some (.long _), none, some (.long _), none, some (.long _), none], [.int (lg_cmp _ _)], _)) rfl (u_ rfl) ?_
            refine wl4 (pc := 10) (len_s := 3) (Y := 5) rfl (Int32.toInt_toInt64 _) (by decide) (fun c12_s => ?_) (fun c12_s => ?_)
            · replace t_s := t_s.1 c12_s
              refine w_t (pc := 17) (e_s := (0, 1, 0, 0, 0, .int 0, [])) (y_s := (18, [some (.long _), none, some (.long _), none, some (.long _), none], [.int _], _)) rfl (u_ rfl) ?_
              refine wrI (pc := 18) (len_s := 1) rfl hk ?_
              show wF _ 162 (73, [some (.ref _), some (.int _), some (.int _)], [.int _], _) _
              exact wrI (pc := 73) (len_s := 1) rfl hk t_s
            · replace t_s := t_s.2 c12_s
              refine w_t (pc := 13) (e_s := (0, 1, 0, 0, 0, .int 1, [])) (y_s := (14, [some (.long _), none, some (.long _), none, some (.long _), none], [.int _], _)) rfl (u_ rfl) ?_
              refine w_t (pc := 14) (e_s := (17, 3, 18, 0, 0, .null, [])) (y_s := (18, [some (.long _), none, some (.long _), none, some (.long _), none], [.int _], _)) rfl (u_ rfl) ?_
              refine wrI (pc := 18) (len_s := 1) rfl hk ?_
              show wF _ 162 (73, [some (.ref _), some (.int _), some (.int _)], [.int _], _) _
              exact wrI (pc := 73) (len_s := 1) rfl hk t_s
        · replace t_s := t_s.2 c10_s
          refine wsc (X_s := 4) rfl (by decide) (fun c13_s => ?_) (fun c13_s => ?_)
          · replace t_s := t_s.1 c13_s
            refine w_t (pc := 94) (e_s := (1, 1, 2, 0, 0, .null, [])) (y_s := (95, [some (.ref _), some (.int _), some (.int _)], [.int _], _)) rfl (u_ rfl) ?_
            refine w_t (pc := 95) (e_s := (10, 1, 0, 0, 0, .null, [])) (y_s := (96, [some (.ref _), some (.int _), some (.int _)], [.long (Int32.toInt64 _)], _)) rfl (u_ rfl) ?_
            refine w_t (pc := 96) (e_s := (0, 1, 0, 0, 0, .long 0, [])) (y_s := (97, [some (.ref _), some (.int _), some (.int _)], [.long _, .long _], _)) rfl (u_ rfl) ?_
            refine w_t (pc := 97) (e_s := (0, 3, 0, 0, 0, .long 99, [(0, 1077)])) (y_s := (100, [some (.ref _), some (.int _), some (.int _)], [.long _, .long _, .long _], _)) rfl (u_ rfl) ?_
            refine wcI (pc := 100) (len_s := 3) rfl rfl (l := [some (.long _), none, some (.long _), none, some (.long _), none]) rfl ?_
            refine w_t (pc := 0) (e_s := (2, 1, 0, 0, 0, .null, [])) (y_s := (1, [some (.long _), none, some (.long _), none, some (.long _), none], [.long _], _)) rfl (u_ rfl) ?_
            refine w_t (pc := 1) (e_s := (2, 1, 2, 0, 0, .null, [])) (y_s := (2, [some (.long _), none, some (.long _), none, some (.long _), none], [.long _, .long _], _)) rfl (u_ rfl) ?_
            refine w_t (pc := 2) (e_s := (14, 1, 0, 0, 0, .null, [])) (y_s := (3, [some (.long _), none, some (.long _), none, some (.long _), none], [.int (lg_cmp _ _)], _)) rfl (u_ rfl) ?_
            refine wl2 (pc := 3) (len_s := 3) (Y := 0) rfl (Int32.toInt_toInt64 _) (by decide) (fun c14_s => ?_) (fun c14_s => ?_)
            · replace t_s := t_s.1 c14_s
              refine w_t (pc := 17) (e_s := (0, 1, 0, 0, 0, .int 0, [])) (y_s := (18, [some (.long _), none, some (.long _), none, some (.long _), none], [.int _], _)) rfl (u_ rfl) ?_
              refine wrI (pc := 18) (len_s := 1) rfl hk ?_
              show wF _ 162 (103, [some (.ref _), some (.int _), some (.int _)], [.int _], _) _
              exact wrI (pc := 103) (len_s := 1) rfl hk t_s
            · replace t_s := t_s.2 c14_s
              refine w_t (pc := 6) (e_s := (2, 1, 0, 0, 0, .null, [])) (y_s := (7, [some (.long _), none, some (.long _), none, some (.long _), none], [.long _], _)) rfl (u_ rfl) ?_
              refine w_t (pc := 7) (e_s := (2, 2, 4, 0, 0, .null, [])) (y_s := (9, [some (.long _), none, some (.long _), none, some (.long _), none], [.long _, .long _], _)) rfl (u_ rfl) ?_
              refine w_t (pc := 9) (e_s := (14, 1, 0, 0, 0, .null, [])) (y_s := (10, [some (.long _), none, some (.long _), none, some (.long _), none], [.int (lg_cmp _ _)], _)) rfl (u_ rfl) ?_
              refine wl4 (pc := 10) (len_s := 3) (Y := 99) rfl (Int32.toInt_toInt64 _) (by decide) (fun c15_s => ?_) (fun c15_s => ?_)
              · replace t_s := t_s.1 c15_s
                refine w_t (pc := 17) (e_s := (0, 1, 0, 0, 0, .int 0, [])) (y_s := (18, [some (.long _), none, some (.long _), none, some (.long _), none], [.int _], _)) rfl (u_ rfl) ?_
                refine wrI (pc := 18) (len_s := 1) rfl hk ?_
                show wF _ 162 (103, [some (.ref _), some (.int _), some (.int _)], [.int _], _) _
                exact wrI (pc := 103) (len_s := 1) rfl hk t_s
              · replace t_s := t_s.2 c15_s
                refine w_t (pc := 13) (e_s := (0, 1, 0, 0, 0, .int 1, [])) (y_s := (14, [some (.long _), none, some (.long _), none, some (.long _), none], [.int _], _)) rfl (u_ rfl) ?_
                refine w_t (pc := 14) (e_s := (17, 3, 18, 0, 0, .null, [])) (y_s := (18, [some (.long _), none, some (.long _), none, some (.long _), none], [.int _], _)) rfl (u_ rfl) ?_
                refine wrI (pc := 18) (len_s := 1) rfl hk ?_
                show wF _ 162 (103, [some (.ref _), some (.int _), some (.int _)], [.int _], _) _
                exact wrI (pc := 103) (len_s := 1) rfl hk t_s
          · replace t_s := t_s.2 c13_s
            refine wsc (X_s := 5) rfl (by decide) (fun c16 => ?_) (fun c16 => ?_)
            · replace t_s := t_s.1 c16
              refine w_t (pc := 152) (e_s := (1, 1, 2, 0, 0, .null, [])) (y_s := (153, [some (.ref _), some (.int _), some (.int _)], [.int _], _)) rfl (u_ rfl) ?_
              refine w_t (pc := 153) (e_s := (10, 1, 0, 0, 0, .null, [])) (y_s := (154, [some (.ref _), some (.int _), some (.int _)], [.long (Int32.toInt64 _)], _)) rfl (u_ rfl) ?_
              refine w_t (pc := 154) (e_s := (0, 1, 0, 0, 0, .long 0, [])) (y_s := (155, [some (.ref _), some (.int _), some (.int _)], [.long _, .long _], _)) rfl (u_ rfl) ?_
              refine w_t (pc := 155) (e_s := (0, 3, 0, 0, 0, .long 9, [(0, 1066)])) (y_s := (158, [some (.ref _), some (.int _), some (.int _)], [.long _, .long _, .long _], _)) rfl (u_ rfl) ?_
              refine wcI (pc := 158) (len_s := 3) rfl rfl (l := [some (.long _), none, some (.long _), none, some (.long _), none]) rfl ?_
              refine w_t (pc := 0) (e_s := (2, 1, 0, 0, 0, .null, [])) (y_s := (1, [some (.long _), none, some (.long _), none, some (.long _), none], [.long _], _)) rfl (u_ rfl) ?_
              refine w_t (pc := 1) (e_s := (2, 1, 2, 0, 0, .null, [])) (y_s := (2, [some (.long _), none, some (.long _), none, some (.long _), none], [.long _, .long _], _)) rfl (u_ rfl) ?_
              refine w_t (pc := 2) (e_s := (14, 1, 0, 0, 0, .null, [])) (y_s := (3, [some (.long _), none, some (.long _), none, some (.long _), none], [.int (lg_cmp _ _)], _)) rfl (u_ rfl) ?_
              refine wl2 (pc := 3) (len_s := 3) (Y := 0) rfl (Int32.toInt_toInt64 _) (by decide) (fun c17 => ?_) (fun c17 => ?_)
              · replace t_s := t_s.1 c17
                refine w_t (pc := 17) (e_s := (0, 1, 0, 0, 0, .int 0, [])) (y_s := (18, [some (.long _), none, some (.long _), none, some (.long _), none], [.int _], _)) rfl (u_ rfl) ?_
                refine wrI (pc := 18) (len_s := 1) rfl hk ?_
                show wF _ 162 (161, [some (.ref _), some (.int _), some (.int _)], [.int _], _) _
                exact wrI (pc := 161) (len_s := 1) rfl hk t_s
              · replace t_s := t_s.2 c17
                refine w_t (pc := 6) (e_s := (2, 1, 0, 0, 0, .null, [])) (y_s := (7, [some (.long _), none, some (.long _), none, some (.long _), none], [.long _], _)) rfl (u_ rfl) ?_
                refine w_t (pc := 7) (e_s := (2, 2, 4, 0, 0, .null, [])) (y_s := (9, [some (.long _), none, some (.long _), none, some (.long _), none], [.long _, .long _], _)) rfl (u_ rfl) ?_
                refine w_t (pc := 9) (e_s := (14, 1, 0, 0, 0, .null, [])) (y_s := (10, [some (.long _), none, some (.long _), none, some (.long _), none], [.int (lg_cmp _ _)], _)) rfl (u_ rfl) ?_
                refine wl4 (pc := 10) (len_s := 3) (Y := 9) rfl (Int32.toInt_toInt64 _) (by decide) (fun c18_s => ?_) (fun c18_s => ?_)
                · replace t_s := t_s.1 c18_s
                  refine w_t (pc := 17) (e_s := (0, 1, 0, 0, 0, .int 0, [])) (y_s := (18, [some (.long _), none, some (.long _), none, some (.long _), none], [.int _], _)) rfl (u_ rfl) ?_
                  refine wrI (pc := 18) (len_s := 1) rfl hk ?_
                  show wF _ 162 (161, [some (.ref _), some (.int _), some (.int _)], [.int _], _) _
                  exact wrI (pc := 161) (len_s := 1) rfl hk t_s
                · replace t_s := t_s.2 c18_s
                  refine w_t (pc := 13) (e_s := (0, 1, 0, 0, 0, .int 1, [])) (y_s := (14, [some (.long _), none, some (.long _), none, some (.long _), none], [.int _], _)) rfl (u_ rfl) ?_
                  refine w_t (pc := 14) (e_s := (17, 3, 18, 0, 0, .null, [])) (y_s := (18, [some (.long _), none, some (.long _), none, some (.long _), none], [.int _], _)) rfl (u_ rfl) ?_
                  refine wrI (pc := 18) (len_s := 1) rfl hk ?_
                  show wF _ 162 (161, [some (.ref _), some (.int _), some (.int _)], [.int _], _) _
                  exact wrI (pc := 161) (len_s := 1) rfl hk t_s
            · replace t_s := t_s.2 c16
              refine wsc (X_s := 6) rfl (by decide) (fun c19_s => ?_) (fun c19_s => ?_)
              · replace t_s := t_s.1 c19_s
                refine w_t (pc := 104) (e_s := (1, 1, 2, 0, 0, .null, [])) (y_s := (105, [some (.ref _), some (.int _), some (.int _)], [.int _], _)) rfl (u_ rfl) ?_
                refine w_t (pc := 105) (e_s := (10, 1, 0, 0, 0, .null, [])) (y_s := (106, [some (.ref _), some (.int _), some (.int _)], [.long (Int32.toInt64 _)], _)) rfl (u_ rfl) ?_
                refine w_t (pc := 106) (e_s := (0, 1, 0, 0, 0, .long 0, [])) (y_s := (107, [some (.ref _), some (.int _), some (.int _)], [.long _, .long _], _)) rfl (u_ rfl) ?_
                refine w_t (pc := 107) (e_s := (0, 1, 0, 0, 0, .long 1, [])) (y_s := (108, [some (.ref _), some (.int _), some (.int _)], [.long _, .long _, .long _], _)) rfl (u_ rfl) ?_
                refine wcI (pc := 108) (len_s := 3) rfl rfl (l := [some (.long _), none, some (.long _), none, some (.long _), none]) rfl ?_
                refine w_t (pc := 0) (e_s := (2, 1, 0, 0, 0, .null, [])) (y_s := (1, [some (.long _), none, some (.long _), none, some (.long _), none], [.long _], _)) rfl (u_ rfl) ?_
                refine w_t (pc := 1) (e_s := (2, 1, 2, 0, 0, .null, [])) (y_s := (2, [some (.long _), none, some (.long _), none, some (.long _), none], [.long _, .long _], _)) rfl (u_ rfl) ?_
                refine w_t (pc := 2) (e_s := (14, 1, 0, 0, 0, .null, [])) (y_s := (3, [some (.long _), none, some (.long _), none, some (.long _), none], [.int (lg_cmp _ _)], _)) rfl (u_ rfl) ?_
                refine wl2 (pc := 3) (len_s := 3) (Y := 0) rfl (Int32.toInt_toInt64 _) (by decide) (fun c20_s => ?_) (fun c20_s => ?_)
                · replace t_s := t_s.1 c20_s
                  refine w_t (pc := 17) (e_s := (0, 1, 0, 0, 0, .int 0, [])) (y_s := (18, [some (.long _), none, some (.long _), none, some (.long _), none], [.int _], _)) rfl (u_ rfl) ?_
                  refine wrI (pc := 18) (len_s := 1) rfl hk ?_
                  show wF _ 162 (111, [some (.ref _), some (.int _), some (.int _)], [.int _], _) _
                  exact wrI (pc := 111) (len_s := 1) rfl hk t_s
                · replace t_s := t_s.2 c20_s
                  refine w_t (pc := 6) (e_s := (2, 1, 0, 0, 0, .null, [])) (y_s := (7, [some (.long _), none, some (.long _), none, some (.long _), none], [.long _], _)) rfl (u_ rfl) ?_
                  refine w_t (pc := 7) (e_s := (2, 2, 4, 0, 0, .null, [])) (y_s := (9, [some (.long _), none, some (.long _), none, some (.long _), none], [.long _, .long _], _)) rfl (u_ rfl) ?_
                  refine w_t (pc := 9) (e_s := (14, 1, 0, 0, 0, .null, [])) (y_s := (10, [some (.long _), none, some (.long _), none, some (.long _), none], [.int (lg_cmp _ _)], _)) rfl (u_ rfl) ?_
                  refine wl4 (pc := 10) (len_s := 3) (Y := 1) rfl (Int32.toInt_toInt64 _) (by decide) (fun c21 => ?_) (fun c21 => ?_)
                  · replace t_s := t_s.1 c21
                    refine w_t (pc := 17) (e_s := (0, 1, 0, 0, 0, .int 0, [])) (y_s := (18, [some (.long _), none, some (.long _), none, some (.long _), none], [.int _], _)) rfl (u_ rfl) ?_
                    refine wrI (pc := 18) (len_s := 1) rfl hk ?_
                    show wF _ 162 (111, [some (.ref _), some (.int _), some (.int _)], [.int _], _) _
                    exact wrI (pc := 111) (len_s := 1) rfl hk t_s
                  · replace t_s := t_s.2 c21
                    refine w_t (pc := 13) (e_s := (0, 1, 0, 0, 0, .int 1, [])) (y_s := (14, [some (.long _), none, some (.long _), none, some (.long _), none], [.int _], _)) rfl (u_ rfl) ?_
                    refine w_t (pc := 14) (e_s := (17, 3, 18, 0, 0, .null, [])) (y_s := (18, [some (.long _), none, some (.long _), none, some (.long _), none], [.int _], _)) rfl (u_ rfl) ?_
                    refine wrI (pc := 18) (len_s := 1) rfl hk ?_
                    show wF _ 162 (111, [some (.ref _), some (.int _), some (.int _)], [.int _], _) _
                    exact wrI (pc := 111) (len_s := 1) rfl hk t_s
              · replace t_s := t_s.2 c19_s
                refine wsc (X_s := 7) rfl (by decide) (fun c22 => ?_) (fun c22 => ?_)
                · replace t_s := t_s.1 c22
                  refine w_t (pc := 152) (e_s := (1, 1, 2, 0, 0, .null, [])) (y_s := (153, [some (.ref _), some (.int _), some (.int _)], [.int _], _)) rfl (u_ rfl) ?_
                  refine w_t (pc := 153) (e_s := (10, 1, 0, 0, 0, .null, [])) (y_s := (154, [some (.ref _), some (.int _), some (.int _)], [.long (Int32.toInt64 _)], _)) rfl (u_ rfl) ?_
                  refine w_t (pc := 154) (e_s := (0, 1, 0, 0, 0, .long 0, [])) (y_s := (155, [some (.ref _), some (.int _), some (.int _)], [.long _, .long _], _)) rfl (u_ rfl) ?_
                  refine w_t (pc := 155) (e_s := (0, 3, 0, 0, 0, .long 9, [(0, 1066)])) (y_s := (158, [some (.ref _), some (.int _), some (.int _)], [.long _, .long _, .long _], _)) rfl (u_ rfl) ?_
                  refine wcI (pc := 158) (len_s := 3) rfl rfl (l := [some (.long _), none, some (.long _), none, some (.long _), none]) rfl ?_
                  refine w_t (pc := 0) (e_s := (2, 1, 0, 0, 0, .null, [])) (y_s := (1, [some (.long _), none, some (.long _), none, some (.long _), none], [.long _], _)) rfl (u_ rfl) ?_
                  refine w_t (pc := 1) (e_s := (2, 1, 2, 0, 0, .null, [])) (y_s := (2, [some (.long _), none, some (.long _), none, some (.long _), none], [.long _, .long _], _)) rfl (u_ rfl) ?_
                  refine w_t (pc := 2) (e_s := (14, 1, 0, 0, 0, .null, [])) (y_s := (3, [some (.long _), none, some (.long _), none, some (.long _), none], [.int (lg_cmp _ _)], _)) rfl (u_ rfl) ?_
                  refine wl2 (pc := 3) (len_s := 3) (Y := 0) rfl (Int32.toInt_toInt64 _) (by decide) (fun c23_s => ?_) (fun c23_s => ?_)
                  · replace t_s := t_s.1 c23_s
                    refine w_t (pc := 17) (e_s := (0, 1, 0, 0, 0, .int 0, [])) (y_s := (18, [some (.long _), none, some (.long _), none, some (.long _), none], [.int _], _)) rfl (u_ rfl) ?_
                    refine wrI (pc := 18) (len_s := 1) rfl hk ?_
                    show wF _ 162 (161, [some (.ref _), some (.int _), some (.int _)], [.int _], _) _
                    exact wrI (pc := 161) (len_s := 1) rfl hk t_s
                  · replace t_s := t_s.2 c23_s
                    refine w_t (pc := 6) (e_s := (2, 1, 0, 0, 0, .null, [])) (y_s := (7, [some (.long _), none, some (.long _), none, some (.long _), none], [.long _], _)) rfl (u_ rfl) ?_
                    refine w_t (pc := 7) (e_s := (2, 2, 4, 0, 0, .null, [])) (y_s := (9, [some (.long _), none, some (.long _), none, some (.long _), none], [.long _, .long _], _)) rfl (u_ rfl) ?_
                    refine w_t (pc := 9) (e_s := (14, 1, 0, 0, 0, .null, [])) (y_s := (10, [some (.long _), none, some (.long _), none, some (.long _), none], [.int (lg_cmp _ _)], _)) rfl (u_ rfl) ?_
                    refine wl4 (pc := 10) (len_s := 3) (Y := 9) rfl (Int32.toInt_toInt64 _) (by decide) (fun c24_s => ?_) (fun c24_s => ?_)
                    · replace t_s := t_s.1 c24_s
                      refine w_t (pc := 17) (e_s := (0, 1, 0, 0, 0, .int 0, [])) (y_s := (18, [some (.long _), none, some (.long _), none, some (.long _), none], [.int _], _)) rfl (u_ rfl) ?_
                      refine wrI (pc := 18) (len_s := 1) rfl hk ?_
                      show wF _ 162 (161, [some (.ref _), some (.int _), some (.int _)], [.int _], _) _
                      exact wrI (pc := 161) (len_s := 1) rfl hk t_s
                    · replace t_s := t_s.2 c24_s
                      refine w_t (pc := 13) (e_s := (0, 1, 0, 0, 0, .int 1, [])) (y_s := (14, [some (.long _), none, some (.long _), none, some (.long _), none], [.int _], _)) rfl (u_ rfl) ?_
                      refine w_t (pc := 14) (e_s := (17, 3, 18, 0, 0, .null, [])) (y_s := (18, [some (.long _), none, some (.long _), none, some (.long _), none], [.int _], _)) rfl (u_ rfl) ?_
                      refine wrI (pc := 18) (len_s := 1) rfl hk ?_
                      show wF _ 162 (161, [some (.ref _), some (.int _), some (.int _)], [.int _], _) _
                      exact wrI (pc := 161) (len_s := 1) rfl hk t_s
                · replace t_s := t_s.2 c22
                  refine wsc (X_s := 8) rfl (by decide) (fun c25_s => ?_) (fun c25_s => ?_)
                  · replace t_s := t_s.1 c25_s
                    refine w_t (pc := 112) (e_s := (1, 1, 2, 0, 0, .null, [])) (y_s := (113, [some (.ref _), some (.int _), some (.int _)], [.int _], _)) rfl (u_ rfl) ?_
                    refine w_t (pc := 113) (e_s := (0, 1, 0, 0, 0, .int (-1), [])) (y_s := (114, [some (.ref _), some (.int _), some (.int _)], [.int _, .int _], _)) rfl (u_ rfl) ?_
                    refine wi0 (pc := 114) (len_s := 3) (Y := -1) rfl rfl (by decide) (fun c26 => ?_) (fun c26 => ?_)
                    · replace t_s := t_s.1 c26
                      refine w_t (pc := 126) (e_s := (0, 1, 0, 0, 0, .int 1, [])) (y_s := (127, [some (.ref _), some (.int _), some (.int _)], [.int _], _)) rfl (u_ rfl) ?_
                      refine w_t (pc := 127) (e_s := (17, 3, 131, 0, 0, .null, [])) (y_s := (131, [some (.ref _), some (.int _), some (.int _)], [.int _], _)) rfl (u_ rfl) ?_
                      exact wrI (pc := 131) (len_s := 1) rfl hk t_s
                    · replace t_s := t_s.2 c26
                      refine w_t (pc := 117) (e_s := (3, 1, 0, 0, 0, .null, [])) (y_s := (118, [some (.ref _), some (.int _), some (.int _)], [.ref _], _)) rfl (u_ rfl) ?_
                      refine w_t (pc := 118) (e_s := (1, 1, 2, 0, 0, .null, [])) (y_s := (119, [some (.ref _), some (.int _), some (.int _)], [.int _, .ref _], _)) rfl (u_ rfl) ?_
                      refine w_t (pc := 119) (e_s := (10, 1, 0, 0, 0, .null, [])) (y_s := (120, [some (.ref _), some (.int _), some (.int _)], [.long (Int32.toInt64 _), .ref _], _)) rfl (u_ rfl) ?_
                      refine wcI (pc := 120) (len_s := 3) rfl rfl (l := [some (.ref _), some (.long _), none]) rfl ?_
                      refine w_t (pc := 0) (e_s := (2, 1, 1, 0, 0, .null, [])) (y_s := (1, [some (.ref _), some (.long _), none], [.long _], _)) rfl (u_ rfl) ?_
                      refine w_t (pc := 1) (e_s := (0, 1, 0, 0, 0, .long 0, [])) (y_s := (2, [some (.ref _), some (.long _), none], [.long _, .long _], _)) rfl (u_ rfl) ?_
                      refine w_t (pc := 2) (e_s := (3, 1, 0, 0, 0, .null, [])) (y_s := (3, [some (.ref _), some (.long _), none], [.ref _, .long _, .long _], _)) rfl (u_ rfl) ?_
                      refine w20 (pc := 3) (len_s := 3) rfl ?_
                      refine w_t (pc := 6) (e_s := (0, 1, 0, 0, 0, .int 1, [])) (y_s := (7, [some (.ref _), some (.long _), none], [.int _, .int _, .long _, .long _], _)) rfl (u_ rfl) ?_
                      refine w_t (pc := 7) (e_s := (7, 1, 0, 1, 0, .null, [])) (y_s := (8, [some (.ref _), some (.long _), none], [.int (_ - _), .long _, .long _], _)) rfl (u_ rfl) ?_
                      refine w_t (pc := 8) (e_s := (10, 1, 0, 0, 0, .null, [])) (y_s := (9, [some (.ref _), some (.long _), none], [.long (Int32.toInt64 _), .long _, .long _], _)) rfl (u_ rfl) ?_
                      refine wcI (pc := 9) (len_s := 3) rfl rfl (l := [some (.long _), none, some (.long _), none, some (.long _), none]) rfl ?_
                      refine w_t (pc := 0) (e_s := (2, 1, 0, 0, 0, .null, [])) (y_s := (1, [some (.long _), none, some (.long _), none, some (.long _), none], [.long _], _)) rfl (u_ rfl) ?_
                      refine w_t (pc := 1) (e_s := (2, 1, 2, 0, 0, .null, [])) (y_s := (2, [some (.long _), none, some (.long _), none, some (.long _), none], [.long _, .long _], _)) rfl (u_ rfl) ?_
                      refine w_t (pc := 2) (e_s := (14, 1, 0, 0, 0, .null, [])) (y_s := (3, [some (.long _), none, some (.long _), none, some (.long _), none], [.int (lg_cmp _ _)], _)) rfl (u_ rfl) ?_
                      refine wl2 (pc := 3) (len_s := 3) (Y := 0) rfl (Int32.toInt_toInt64 _) (by decide) (fun c27_s => ?_) (fun c27_s => ?_)
                      · replace t_s := t_s.1 c27_s
                        refine w_t (pc := 17) (e_s := (0, 1, 0, 0, 0, .int 0, [])) (y_s := (18, [some (.long _), none, some (.long _), none, some (.long _), none], [.int _], _)) rfl (u_ rfl) ?_
                        refine wrI (pc := 18) (len_s := 1) rfl hk ?_
                        show wF _ 151 (12, [some (.ref _), some (.long _), none], [.int _], _) _
                        refine wrI (pc := 12) (len_s := 1) rfl hk ?_
                        show wF _ 162 (123, [some (.ref _), some (.int _), some (.int _)], [.int _], _) _
                        refine w_t (pc := 123) (e_s := (15, 3, 130, 0, 0, .null, [])) (y_s := (130, [some (.ref _), some (.int _), some (.int _)], [], _)) rfl (u_ rfl) ?_
                        refine w_t (pc := 130) (e_s := (0, 1, 0, 0, 0, .int 0, [])) (y_s := (131, [some (.ref _), some (.int _), some (.int _)], [.int _], _)) rfl (u_ rfl) ?_
                        exact wrI (pc := 131) (len_s := 1) rfl hk t_s
                      · replace t_s := t_s.2 c27_s
                        refine w_t (pc := 6) (e_s := (2, 1, 0, 0, 0, .null, [])) (y_s := (7, [some (.long _), none, some (.long _), none, some (.long _), none], [.long _], _)) rfl (u_ rfl) ?_
                        refine w_t (pc := 7) (e_s := (2, 2, 4, 0, 0, .null, [])) (y_s := (9, [some (.long _), none, some (.long _), none, some (.long _), none], [.long _, .long _], _)) rfl (u_ rfl) ?_
                        refine w_t (pc := 9) (e_s := (14, 1, 0, 0, 0, .null, [])) (y_s := (10, [some (.long _), none, some (.long _), none, some (.long _), none], [.int (lg_cmp _ _)], _)) rfl (u_ rfl) ?_
                        refine wl4 (pc := 10) (len_s := 3) rfl (Int32.toInt_toInt64 _) (Int32.toInt_toInt64 _) (fun c28_s => ?_) (fun c28_s => ?_)
                        · replace t_s := t_s.1 c28_s
                          refine w_t (pc := 17) (e_s := (0, 1, 0, 0, 0, .int 0, [])) (y_s := (18, [some (.long _), none, some (.long _), none, some (.long _), none], [.int _], _)) rfl (u_ rfl) ?_
                          refine wrI (pc := 18) (len_s := 1) rfl hk ?_
                          show wF _ 151 (12, [some (.ref _), some (.long _), none], [.int _], _) _
                          refine wrI (pc := 12) (len_s := 1) rfl hk ?_
                          show wF _ 162 (123, [some (.ref _), some (.int _), some (.int _)], [.int _], _) _
                          refine w_t (pc := 123) (e_s := (15, 3, 130, 0, 0, .null, [])) (y_s := (130, [some (.ref _), some (.int _), some (.int _)], [], _)) rfl (u_ rfl) ?_
                          refine w_t (pc := 130) (e_s := (0, 1, 0, 0, 0, .int 0, [])) (y_s := (131, [some (.ref _), some (.int _), some (.int _)], [.int _], _)) rfl (u_ rfl) ?_
                          exact wrI (pc := 131) (len_s := 1) rfl hk t_s
                        · replace t_s := t_s.2 c28_s
                          refine w_t (pc := 13) (e_s := (0, 1, 0, 0, 0, .int 1, [])) (y_s := (14, [some (.long _), none, some (.long _), none, some (.long _), none], [.int _], _)) rfl (u_ rfl) ?_
                          refine w_t (pc := 14) (e_s := (17, 3, 18, 0, 0, .null, [])) (y_s := (18, [some (.long _), none, some (.long _), none, some (.long _), none], [.int _], _)) rfl (u_ rfl) ?_
                          refine wrI (pc := 18) (len_s := 1) rfl hk ?_
                          show wF _ 151 (12, [some (.ref _), some (.long _), none], [.int _], _) _
                          refine wrI (pc := 12) (len_s := 1) rfl hk ?_
                          show wF _ 162 (123, [some (.ref _), some (.int _), some (.int _)], [.int _], _) _
                          refine w_t (pc := 123) (e_s := (15, 3, 130, 0, 0, .null, [])) (y_s := (126, [some (.ref _), some (.int _), some (.int _)], [], _)) rfl (u_ rfl) ?_
                          refine w_t (pc := 126) (e_s := (0, 1, 0, 0, 0, .int 1, [])) (y_s := (127, [some (.ref _), some (.int _), some (.int _)], [.int _], _)) rfl (u_ rfl) ?_
                          refine w_t (pc := 127) (e_s := (17, 3, 131, 0, 0, .null, [])) (y_s := (131, [some (.ref _), some (.int _), some (.int _)], [.int _], _)) rfl (u_ rfl) ?_
                          exact wrI (pc := 131) (len_s := 1) rfl hk t_s
                  · replace t_s := t_s.2 c25_s
                    refine wsc (X_s := 9) rfl (by decide) (fun c29_s => ?_) (fun c29_s => ?_)
                    · replace t_s := t_s.1 c29_s
                      refine w_t (pc := 132) (e_s := (1, 1, 2, 0, 0, .null, [])) (y_s := (133, [some (.ref _), some (.int _), some (.int _)], [.int _], _)) rfl (u_ rfl) ?_
                      refine w_t (pc := 133) (e_s := (10, 1, 0, 0, 0, .null, [])) (y_s := (134, [some (.ref _), some (.int _), some (.int _)], [.long (Int32.toInt64 _)], _)) rfl (u_ rfl) ?_
                      refine w_t (pc := 134) (e_s := (0, 1, 0, 0, 0, .long 1, [])) (y_s := (135, [some (.ref _), some (.int _), some (.int _)], [.long _, .long _], _)) rfl (u_ rfl) ?_
                      refine w_t (pc := 135) (e_s := (0, 3, 0, 0, 0, .long 9, [(0, 1066)])) (y_s := (138, [some (.ref _), some (.int _), some (.int _)], [.long _, .long _, .long _], _)) rfl (u_ rfl) ?_
                      refine wcI (pc := 138) (len_s := 3) rfl rfl (l := [some (.long _), none, some (.long _), none, some (.long _), none]) rfl ?_
                      refine w_t (pc := 0) (e_s := (2, 1, 0, 0, 0, .null, [])) (y_s := (1, [some (.long _), none, some (.long _), none, some (.long _), none], [.long _], _)) rfl (u_ rfl) ?_
                      refine w_t (pc := 1) (e_s := (2, 1, 2, 0, 0, .null, [])) (y_s := (2, [some (.long _), none, some (.long _), none, some (.long _), none], [.long _, .long _], _)) rfl (u_ rfl) ?_
                      refine w_t (pc := 2) (e_s := (14, 1, 0, 0, 0, .null, [])) (y_s := (3, [some (.long _), none, some (.long _), none, some (.long _), none], [.int (lg_cmp _ _)], _)) rfl (u_ rfl) ?_
                      refine wl2 (pc := 3) (len_s := 3) (Y := 1) rfl (Int32.toInt_toInt64 _) (by decide) (fun c30_s => ?_) (fun c30_s => ?_)
                      · replace t_s := t_s.1 c30_s
                        refine w_t (pc := 17) (e_s := (0, 1, 0, 0, 0, .int 0, [])) (y_s := (18, [some (.long _), none, some (.long _), none, some (.long _), none], [.int _], _)) rfl (u_ rfl) ?_
                        refine wrI (pc := 18) (len_s := 1) rfl hk ?_
                        show wF _ 162 (141, [some (.ref _), some (.int _), some (.int _)], [.int _], _) _
                        exact wrI (pc := 141) (len_s := 1) rfl hk t_s
                      · replace t_s := t_s.2 c30_s
                        refine w_t (pc := 6) (e_s := (2, 1, 0, 0, 0, .null, [])) (y_s := (7, [some (.long _), none, some (.long _), none, some (.long _), none], [.long _], _)) rfl (u_ rfl) ?_
                        refine w_t (pc := 7) (e_s := (2, 2, 4, 0, 0, .null, [])) (y_s := (9, [some (.long _), none, some (.long _), none, some (.long _), none], [.long _, .long _], _)) rfl (u_ rfl) ?_
                        refine w_t (pc := 9) (e_s := (14, 1, 0, 0, 0, .null, [])) (y_s := (10, [some (.long _), none, some (.long _), none, some (.long _), none], [.int (lg_cmp _ _)], _)) rfl (u_ rfl) ?_
                        refine wl4 (pc := 10) (len_s := 3) (Y := 9) rfl (Int32.toInt_toInt64 _) (by decide) (fun c31_s => ?_) (fun c31_s => ?_)
                        · replace t_s := t_s.1 c31_s
                          refine w_t (pc := 17) (e_s := (0, 1, 0, 0, 0, .int 0, [])) (y_s := (18, [some (.long _), none, some (.long _), none, some (.long _), none], [.int _], _)) rfl (u_ rfl) ?_
                          refine wrI (pc := 18) (len_s := 1) rfl hk ?_
                          show wF _ 162 (141, [some (.ref _), some (.int _), some (.int _)], [.int _], _) _
                          exact wrI (pc := 141) (len_s := 1) rfl hk t_s
                        · replace t_s := t_s.2 c31_s
                          refine w_t (pc := 13) (e_s := (0, 1, 0, 0, 0, .int 1, [])) (y_s := (14, [some (.long _), none, some (.long _), none, some (.long _), none], [.int _], _)) rfl (u_ rfl) ?_
                          refine w_t (pc := 14) (e_s := (17, 3, 18, 0, 0, .null, [])) (y_s := (18, [some (.long _), none, some (.long _), none, some (.long _), none], [.int _], _)) rfl (u_ rfl) ?_
                          refine wrI (pc := 18) (len_s := 1) rfl hk ?_
                          show wF _ 162 (141, [some (.ref _), some (.int _), some (.int _)], [.int _], _) _
                          exact wrI (pc := 141) (len_s := 1) rfl hk t_s
                    · replace t_s := t_s.2 c29_s
                      refine wsc (X_s := 10) rfl (by decide) (fun c32_s => ?_) (fun c32_s => ?_)
                      · replace t_s := t_s.1 c32_s
                        refine w_t (pc := 152) (e_s := (1, 1, 2, 0, 0, .null, [])) (y_s := (153, [some (.ref _), some (.int _), some (.int _)], [.int _], _)) rfl (u_ rfl) ?_
                        refine w_t (pc := 153) (e_s := (10, 1, 0, 0, 0, .null, [])) (y_s := (154, [some (.ref _), some (.int _), some (.int _)], [.long (Int32.toInt64 _)], _)) rfl (u_ rfl) ?_
                        refine w_t (pc := 154) (e_s := (0, 1, 0, 0, 0, .long 0, [])) (y_s := (155, [some (.ref _), some (.int _), some (.int _)], [.long _, .long _], _)) rfl (u_ rfl) ?_
                        refine w_t (pc := 155) (e_s := (0, 3, 0, 0, 0, .long 9, [(0, 1066)])) (y_s := (158, [some (.ref _), some (.int _), some (.int _)], [.long _, .long _, .long _], _)) rfl (u_ rfl) ?_
                        refine wcI (pc := 158) (len_s := 3) rfl rfl (l := [some (.long _), none, some (.long _), none, some (.long _), none]) rfl ?_
                        refine w_t (pc := 0) (e_s := (2, 1, 0, 0, 0, .null, [])) (y_s := (1, [some (.long _), none, some (.long _), none, some (.long _), none], [.long _], _)) rfl (u_ rfl) ?_
                        refine w_t (pc := 1) (e_s := (2, 1, 2, 0, 0, .null, [])) (y_s := (2, [some (.long _), none, some (.long _), none, some (.long _), none], [.long _, .long _], _)) rfl (u_ rfl) ?_
                        refine w_t (pc := 2) (e_s := (14, 1, 0, 0, 0, .null, [])) (y_s := (3, [some (.long _), none, some (.long _), none, some (.long _), none], [.int (lg_cmp _ _)], _)) rfl (u_ rfl) ?_
                        refine wl2 (pc := 3) (len_s := 3) (Y := 0) rfl (Int32.toInt_toInt64 _) (by decide) (fun c33_s => ?_) (fun c33_s => ?_)
                        · replace t_s := t_s.1 c33_s
                          refine w_t (pc := 17) (e_s := (0, 1, 0, 0, 0, .int 0, [])) (y_s := (18, [some (.long _), none, some (.long _), none, some (.long _), none], [.int _], _)) rfl (u_ rfl) ?_
                          refine wrI (pc := 18) (len_s := 1) rfl hk ?_
                          show wF _ 162 (161, [some (.ref _), some (.int _), some (.int _)], [.int _], _) _
                          exact wrI (pc := 161) (len_s := 1) rfl hk t_s
                        · replace t_s := t_s.2 c33_s
                          refine w_t (pc := 6) (e_s := (2, 1, 0, 0, 0, .null, [])) (y_s := (7, [some (.long _), none, some (.long _), none, some (.long _), none], [.long _], _)) rfl (u_ rfl) ?_
                          refine w_t (pc := 7) (e_s := (2, 2, 4, 0, 0, .null, [])) (y_s := (9, [some (.long _), none, some (.long _), none, some (.long _), none], [.long _, .long _], _)) rfl (u_ rfl) ?_
                          refine w_t (pc := 9) (e_s := (14, 1, 0, 0, 0, .null, [])) (y_s := (10, [some (.long _), none, some (.long _), none, some (.long _), none], [.int (lg_cmp _ _)], _)) rfl (u_ rfl) ?_
                          refine wl4 (pc := 10) (len_s := 3) (Y := 9) rfl (Int32.toInt_toInt64 _) (by decide) (fun c34_s => ?_) (fun c34_s => ?_)
                          · replace t_s := t_s.1 c34_s
                            refine w_t (pc := 17) (e_s := (0, 1, 0, 0, 0, .int 0, [])) (y_s := (18, [some (.long _), none, some (.long _), none, some (.long _), none], [.int _], _)) rfl (u_ rfl) ?_
                            refine wrI (pc := 18) (len_s := 1) rfl hk ?_
                            show wF _ 162 (161, [some (.ref _), some (.int _), some (.int _)], [.int _], _) _
                            exact wrI (pc := 161) (len_s := 1) rfl hk t_s
                          · replace t_s := t_s.2 c34_s
                            refine w_t (pc := 13) (e_s := (0, 1, 0, 0, 0, .int 1, [])) (y_s := (14, [some (.long _), none, some (.long _), none, some (.long _), none], [.int _], _)) rfl (u_ rfl) ?_
                            refine w_t (pc := 14) (e_s := (17, 3, 18, 0, 0, .null, [])) (y_s := (18, [some (.long _), none, some (.long _), none, some (.long _), none], [.int _], _)) rfl (u_ rfl) ?_
                            refine wrI (pc := 18) (len_s := 1) rfl hk ?_
                            show wF _ 162 (161, [some (.ref _), some (.int _), some (.int _)], [.int _], _) _
                            exact wrI (pc := 161) (len_s := 1) rfl hk t_s
                      · replace t_s := t_s.2 c32_s
                        refine wsc (X_s := 11) rfl (by decide) (fun c35_s => ?_) (fun c35_s => ?_)
                        · replace t_s := t_s.1 c35_s
                          refine w_t (pc := 142) (e_s := (1, 1, 2, 0, 0, .null, [])) (y_s := (143, [some (.ref _), some (.int _), some (.int _)], [.int _], _)) rfl (u_ rfl) ?_
                          refine w_t (pc := 143) (e_s := (10, 1, 0, 0, 0, .null, [])) (y_s := (144, [some (.ref _), some (.int _), some (.int _)], [.long (Int32.toInt64 _)], _)) rfl (u_ rfl) ?_
                          refine w_t (pc := 144) (e_s := (0, 1, 0, 0, 0, .long 0, [])) (y_s := (145, [some (.ref _), some (.int _), some (.int _)], [.long _, .long _], _)) rfl (u_ rfl) ?_
                          refine w_t (pc := 145) (e_s := (0, 3, 0, 0, 0, .long 2, [(0, 1072)])) (y_s := (148, [some (.ref _), some (.int _), some (.int _)], [.long _, .long _, .long _], _)) rfl (u_ rfl) ?_
                          refine wcI (pc := 148) (len_s := 3) rfl rfl (l := [some (.long _), none, some (.long _), none, some (.long _), none]) rfl ?_
                          refine w_t (pc := 0) (e_s := (2, 1, 0, 0, 0, .null, [])) (y_s := (1, [some (.long _), none, some (.long _), none, some (.long _), none], [.long _], _)) rfl (u_ rfl) ?_
                          refine w_t (pc := 1) (e_s := (2, 1, 2, 0, 0, .null, [])) (y_s := (2, [some (.long _), none, some (.long _), none, some (.long _), none], [.long _, .long _], _)) rfl (u_ rfl) ?_
                          refine w_t (pc := 2) (e_s := (14, 1, 0, 0, 0, .null, [])) (y_s := (3, [some (.long _), none, some (.long _), none, some (.long _), none], [.int (lg_cmp _ _)], _)) rfl (u_ rfl) ?_
                          refine wl2 (pc := 3) (len_s := 3) (Y := 0) rfl (Int32.toInt_toInt64 _) (by decide) (fun c36_s => ?_) (fun c36_s => ?_)
                          · replace t_s := t_s.1 c36_s
                            refine w_t (pc := 17) (e_s := (0, 1, 0, 0, 0, .int 0, [])) (y_s := (18, [some (.long _), none, some (.long _), none, some (.long _), none], [.int _], _)) rfl (u_ rfl) ?_
                            refine wrI (pc := 18) (len_s := 1) rfl hk ?_
                            show wF _ 162 (151, [some (.ref _), some (.int _), some (.int _)], [.int _], _) _
                            exact wrI (pc := 151) (len_s := 1) rfl hk t_s
                          · replace t_s := t_s.2 c36_s
                            refine w_t (pc := 6) (e_s := (2, 1, 0, 0, 0, .null, [])) (y_s := (7, [some (.long _), none, some (.long _), none, some (.long _), none], [.long _], _)) rfl (u_ rfl) ?_
                            refine w_t (pc := 7) (e_s := (2, 2, 4, 0, 0, .null, [])) (y_s := (9, [some (.long _), none, some (.long _), none, some (.long _), none], [.long _, .long _], _)) rfl (u_ rfl) ?_
                            refine w_t (pc := 9) (e_s := (14, 1, 0, 0, 0, .null, [])) (y_s := (10, [some (.long _), none, some (.long _), none, some (.long _), none], [.int (lg_cmp _ _)], _)) rfl (u_ rfl) ?_
                            refine wl4 (pc := 10) (len_s := 3) (Y := 2) rfl (Int32.toInt_toInt64 _) (by decide) (fun c37 => ?_) (fun c37 => ?_)
                            · replace t_s := t_s.1 c37
                              refine w_t (pc := 17) (e_s := (0, 1, 0, 0, 0, .int 0, [])) (y_s := (18, [some (.long _), none, some (.long _), none, some (.long _), none], [.int _], _)) rfl (u_ rfl) ?_
                              refine wrI (pc := 18) (len_s := 1) rfl hk ?_
                              show wF _ 162 (151, [some (.ref _), some (.int _), some (.int _)], [.int _], _) _
                              exact wrI (pc := 151) (len_s := 1) rfl hk t_s
                            · replace t_s := t_s.2 c37
                              refine w_t (pc := 13) (e_s := (0, 1, 0, 0, 0, .int 1, [])) (y_s := (14, [some (.long _), none, some (.long _), none, some (.long _), none], [.int _], _)) rfl (u_ rfl) ?_
                              refine w_t (pc := 14) (e_s := (17, 3, 18, 0, 0, .null, [])) (y_s := (18, [some (.long _), none, some (.long _), none, some (.long _), none], [.int _], _)) rfl (u_ rfl) ?_
                              refine wrI (pc := 18) (len_s := 1) rfl hk ?_
                              show wF _ 162 (151, [some (.ref _), some (.int _), some (.int _)], [.int _], _) _
                              exact wrI (pc := 151) (len_s := 1) rfl hk t_s
                        · replace t_s := t_s.2 c35_s
                          show wF _ _ (152, _, _, _) _
                          refine w_t (pc := 152) (e_s := (1, 1, 2, 0, 0, .null, [])) (y_s := (153, [some (.ref _), some (.int _), some (.int _)], [.int _], _)) rfl (u_ rfl) ?_
                          refine w_t (pc := 153) (e_s := (10, 1, 0, 0, 0, .null, [])) (y_s := (154, [some (.ref _), some (.int _), some (.int _)], [.long (Int32.toInt64 _)], _)) rfl (u_ rfl) ?_
                          refine w_t (pc := 154) (e_s := (0, 1, 0, 0, 0, .long 0, [])) (y_s := (155, [some (.ref _), some (.int _), some (.int _)], [.long _, .long _], _)) rfl (u_ rfl) ?_
                          refine w_t (pc := 155) (e_s := (0, 3, 0, 0, 0, .long 9, [(0, 1066)])) (y_s := (158, [some (.ref _), some (.int _), some (.int _)], [.long _, .long _, .long _], _)) rfl (u_ rfl) ?_
                          refine wcI (pc := 158) (len_s := 3) rfl rfl (l := [some (.long _), none, some (.long _), none, some (.long _), none]) rfl ?_
                          refine w_t (pc := 0) (e_s := (2, 1, 0, 0, 0, .null, [])) (y_s := (1, [some (.long _), none, some (.long _), none, some (.long _), none], [.long _], _)) rfl (u_ rfl) ?_
                          refine w_t (pc := 1) (e_s := (2, 1, 2, 0, 0, .null, [])) (y_s := (2, [some (.long _), none, some (.long _), none, some (.long _), none], [.long _, .long _], _)) rfl (u_ rfl) ?_
                          refine w_t (pc := 2) (e_s := (14, 1, 0, 0, 0, .null, [])) (y_s := (3, [some (.long _), none, some (.long _), none, some (.long _), none], [.int (lg_cmp _ _)], _)) rfl (u_ rfl) ?_
                          refine wl2 (pc := 3) (len_s := 3) (Y := 0) rfl (Int32.toInt_toInt64 _) (by decide) (fun c38 => ?_) (fun c38 => ?_)
                          · replace t_s := t_s.1 c38
                            refine w_t (pc := 17) (e_s := (0, 1, 0, 0, 0, .int 0, [])) (y_s := (18, [some (.long _), none, some (.long _), none, some (.long _), none], [.int _], _)) rfl (u_ rfl) ?_
                            refine wrI (pc := 18) (len_s := 1) rfl hk ?_
                            show wF _ 162 (161, [some (.ref _), some (.int _), some (.int _)], [.int _], _) _
                            exact wrI (pc := 161) (len_s := 1) rfl hk t_s
                          · replace t_s := t_s.2 c38
                            refine w_t (pc := 6) (e_s := (2, 1, 0, 0, 0, .null, [])) (y_s := (7, [some (.long _), none, some (.long _), none, some (.long _), none], [.long _], _)) rfl (u_ rfl) ?_
                            refine w_t (pc := 7) (e_s := (2, 2, 4, 0, 0, .null, [])) (y_s := (9, [some (.long _), none, some (.long _), none, some (.long _), none], [.long _, .long _], _)) rfl (u_ rfl) ?_
                            refine w_t (pc := 9) (e_s := (14, 1, 0, 0, 0, .null, [])) (y_s := (10, [some (.long _), none, some (.long _), none, some (.long _), none], [.int (lg_cmp _ _)], _)) rfl (u_ rfl) ?_
                            refine wl4 (pc := 10) (len_s := 3) (Y := 9) rfl (Int32.toInt_toInt64 _) (by decide) (fun c39_s => ?_) (fun c39_s => ?_)
                            · replace t_s := t_s.1 c39_s
                              refine w_t (pc := 17) (e_s := (0, 1, 0, 0, 0, .int 0, [])) (y_s := (18, [some (.long _), none, some (.long _), none, some (.long _), none], [.int _], _)) rfl (u_ rfl) ?_
                              refine wrI (pc := 18) (len_s := 1) rfl hk ?_
                              show wF _ 162 (161, [some (.ref _), some (.int _), some (.int _)], [.int _], _) _
                              exact wrI (pc := 161) (len_s := 1) rfl hk t_s
                            · replace t_s := t_s.2 c39_s
                              refine w_t (pc := 13) (e_s := (0, 1, 0, 0, 0, .int 1, [])) (y_s := (14, [some (.long _), none, some (.long _), none, some (.long _), none], [.int _], _)) rfl (u_ rfl) ?_
                              refine w_t (pc := 14) (e_s := (17, 3, 18, 0, 0, .null, [])) (y_s := (18, [some (.long _), none, some (.long _), none, some (.long _), none], [.int _], _)) rfl (u_ rfl) ?_
                              refine wrI (pc := 18) (len_s := 1) rfl hk ?_
                              show wF _ 162 (161, [some (.ref _), some (.int _), some (.int _)], [.int _], _) _
                              exact wrI (pc := 161) (len_s := 1) rfl hk t_s
/-- ColdShodModel.becomes(II)I, from 0 on -/
theorem sg_148_0 {F_s : Nat} {x1_s : Int32} {x2_s : Int32} {h_s : zH} {K_s : Int32 → zH → Prop} (hk : hKn h_s) (t_s : (zix x1_s < 104 → ((h_s.2.1 103 (zix x1_s)).toInt = x2_s.toInt → K_s (h_s.2.1 103 (zix x1_s)) h_s) ∧ (¬ (h_s.2.1 103 (zix x1_s)).toInt = x2_s.toInt → (((h_s.2.1 102 5).toInt = 40 → wF F_s 148 (26, [some (.ref 102), some (.int x1_s), some (.int x2_s), some (.int (h_s.2.1 103 (zix x1_s))), some (.int 1)], [], h_s) (gI K_s)) ∧ (¬ (h_s.2.1 102 5).toInt = 40 → (zix (h_s.2.1 102 5) < 40 → K_s (h_s.2.1 103 (zix x1_s)) (h_s.1, zup (zup (zup (zup (zup (zup h_s.2.1 104 (zix (h_s.2.1 102 5)) x1_s) 105 (zix (h_s.2.1 102 5)) (h_s.2.1 103 (zix x1_s))) 106 (zix (h_s.2.1 102 5)) x2_s) 102 5 ((h_s.2.1 102 5) + 1)) 102 4 ((h_s.2.1 102 5) + 1)) 103 (zix x1_s) x2_s, h_s.2.2.1, h_s.2.2.2))))))) : wF (F_s + 1) 148 (0, [some (.ref 102), some (.int x1_s), some (.int x2_s), none, none], [], h_s) (gI K_s) := by
  refine w_0 (pc := 0) (e_s := (3, 1, 0, 0, 0, .null, [])) (y_s := (1, [some (.ref _), some (.int _), some (.int _), none, none], [.ref _], _)) rfl (u_ rfl) ?_
  refine w20r (pc := 1) (len_s := 3) (q_s := 103) rfl (krq hk rfl) ?_
  refine w_t (pc := 4) (e_s := (1, 1, 1, 0, 0, .null, [])) (y_s := (5, [some (.ref _), some (.int _), some (.int _), none, none], [.int _, .ref _], _)) rfl (u_ rfl) ?_
  refine w22 (pc := 5) (len_s := 1) rfl (hk.1 103 0 104 rfl rfl) (fun c1_s => ?_)
  replace t_s := t_s c1_s
  refine w_t (pc := 6) (e_s := (4, 1, 3, 0, 0, .null, [])) (y_s := (7, [some (.ref _), some (.int _), some (.int _), some (.int _), none], [], _)) rfl (u_ rfl) ?_
  refine w_t (pc := 7) (e_s := (1, 1, 3, 0, 0, .null, [])) (y_s := (8, [some (.ref _), some (.int _), some (.int _), some (.int _), none], [.int _], _)) rfl (u_ rfl) ?_
  refine w_t (pc := 8) (e_s := (1, 1, 2, 0, 0, .null, [])) (y_s := (9, [some (.ref _), some (.int _), some (.int _), some (.int _), none], [.int _, .int _], _)) rfl (u_ rfl) ?_
  refine wi1 (pc := 9) (len_s := 3) rfl rfl rfl (fun c2_s => ?_) (fun c2_s => ?_)
  · replace t_s := t_s.1 c2_s
    refine w_t (pc := 12) (e_s := (1, 1, 3, 0, 0, .null, [])) (y_s := (13, [some (.ref _), some (.int _), some (.int _), some (.int _), none], [.int _], _)) rfl (u_ rfl) ?_
    exact wrI (pc := 13) (len_s := 1) rfl hk t_s
  · replace t_s := t_s.2 c2_s
    refine w_t (pc := 14) (e_s := (3, 1, 0, 0, 0, .null, [])) (y_s := (15, [some (.ref _), some (.int _), some (.int _), some (.int _), none], [.ref _], _)) rfl (u_ rfl) ?_
    refine w20 (pc := 15) (len_s := 3) rfl ?_
    refine w_t (pc := 18) (e_s := (0, 2, 0, 0, 0, .int 40, [])) (y_s := (20, [some (.ref _), some (.int _), some (.int _), some (.int _), none], [.int _, .int _], _)) rfl (u_ rfl) ?_
    refine wi1 (pc := 20) (len_s := 3) (Y := 40) rfl rfl (by decide) (fun c3_s => ?_) (fun c3_s => ?_)
    · replace t_s := t_s.1 c3_s
      refine w_t (pc := 23) (e_s := (0, 1, 0, 0, 0, .int 1, [])) (y_s := (24, [some (.ref _), some (.int _), some (.int _), some (.int _), none], [.int _], _)) rfl (u_ rfl) ?_
      refine w_t (pc := 24) (e_s := (4, 2, 4, 0, 0, .null, [])) (y_s := (26, [some (.ref _), some (.int _), some (.int _), some (.int _), some (.int _)], [], _)) rfl (u_ rfl) ?_
      exact t_s
    · replace t_s := t_s.2 c3_s
      refine w_t (pc := 97) (e_s := (3, 1, 0, 0, 0, .null, [])) (y_s := (98, [some (.ref _), some (.int _), some (.int _), some (.int _), none], [.ref _], _)) rfl (u_ rfl) ?_
      refine w20r (pc := 98) (len_s := 3) (q_s := 104) rfl (krq hk rfl) ?_
      refine w_t (pc := 101) (e_s := (3, 1, 0, 0, 0, .null, [])) (y_s := (102, [some (.ref _), some (.int _), some (.int _), some (.int _), none], [.ref _, .ref _], _)) rfl (u_ rfl) ?_
      refine w20 (pc := 102) (len_s := 3) rfl ?_
      refine w_t (pc := 105) (e_s := (1, 1, 1, 0, 0, .null, [])) (y_s := (106, [some (.ref _), some (.int _), some (.int _), some (.int _), none], [.int _, .int _, .ref _], _)) rfl (u_ rfl) ?_
      refine w25 (pc := 106) (len_s := 1) rfl (hk.1 104 0 40 rfl rfl) (fun c4_s => ?_)
      replace t_s := t_s c4_s
      refine w_t (pc := 107) (e_s := (3, 1, 0, 0, 0, .null, [])) (y_s := (108, [some (.ref _), some (.int _), some (.int _), some (.int _), none], [.ref _], _)) rfl (u_ rfl) ?_
      refine w20r (pc := 108) (len_s := 3) (q_s := 105) rfl (krq hk rfl) ?_
      refine w_t (pc := 111) (e_s := (3, 1, 0, 0, 0, .null, [])) (y_s := (112, [some (.ref _), some (.int _), some (.int _), some (.int _), none], [.ref _, .ref _], _)) rfl (u_ rfl) ?_
      refine w20 (pc := 112) (len_s := 3) rfl ?_
      refine w_t (pc := 115) (e_s := (1, 1, 3, 0, 0, .null, [])) (y_s := (116, [some (.ref _), some (.int _), some (.int _), some (.int _), none], [.int _, .int _, .ref _], _)) rfl (u_ rfl) ?_
      refine w25 (pc := 116) (len_s := 1) rfl (hk.1 105 0 40 rfl rfl) (fun c5_s => ?_)
      refine w_t (pc := 117) (e_s := (3, 1, 0, 0, 0, .null, [])) (y_s := (118, [some (.ref _), some (.int _), some (.int _), some (.int _), none], [.ref _], _)) rfl (u_ rfl) ?_
      refine w20r (pc := 118) (len_s := 3) (q_s := 106) rfl (krq hk rfl) ?_
      refine w_t (pc := 121) (e_s := (3, 1, 0, 0, 0, .null, [])) (y_s := (122, [some (.ref _), some (.int _), some (.int _), some (.int _), none], [.ref _, .ref _], _)) rfl (u_ rfl) ?_
      refine w20 (pc := 122) (len_s := 3) rfl ?_
      refine w_t (pc := 125) (e_s := (1, 1, 2, 0, 0, .null, [])) (y_s := (126, [some (.ref _), some (.int _), some (.int _), some (.int _), none], [.int _, .int _, .ref _], _)) rfl (u_ rfl) ?_
      refine w25 (pc := 126) (len_s := 1) rfl (hk.1 106 0 40 rfl rfl) (fun c6_s => ?_)
      refine w_t (pc := 127) (e_s := (3, 1, 0, 0, 0, .null, [])) (y_s := (128, [some (.ref _), some (.int _), some (.int _), some (.int _), none], [.ref _], _)) rfl (u_ rfl) ?_
      refine w_t (pc := 128) (e_s := (39, 1, 0, 0, 0, .null, [])) (y_s := (129, [some (.ref _), some (.int _), some (.int _), some (.int _), none], [.ref _, .ref _], _)) rfl (u_ rfl) ?_
      refine w20 (pc := 129) (len_s := 3) rfl ?_
      refine w_t (pc := 132) (e_s := (0, 1, 0, 0, 0, .int 1, [])) (y_s := (133, [some (.ref _), some (.int _), some (.int _), some (.int _), none], [.int _, .int _, .ref _], _)) rfl (u_ rfl) ?_
      refine w_t (pc := 133) (e_s := (7, 1, 0, 0, 0, .null, [])) (y_s := (134, [some (.ref _), some (.int _), some (.int _), some (.int _), none], [.int (_ + _), .ref _], _)) rfl (u_ rfl) ?_
      refine w21 (pc := 134) (len_s := 3) rfl ?_
      refine w_t (pc := 137) (e_s := (3, 1, 0, 0, 0, .null, [])) (y_s := (138, [some (.ref _), some (.int _), some (.int _), some (.int _), none], [.ref _], _)) rfl (u_ rfl) ?_
      refine w_t (pc := 138) (e_s := (3, 1, 0, 0, 0, .null, [])) (y_s := (139, [some (.ref _), some (.int _), some (.int _), some (.int _), none], [.ref _, .ref _], _)) rfl (u_ rfl) ?_
      refine w20 (pc := 139) (len_s := 3) rfl ?_
      refine w21 (pc := 142) (len_s := 3) rfl ?_
      refine w_t (pc := 145) (e_s := (3, 1, 0, 0, 0, .null, [])) (y_s := (146, [some (.ref _), some (.int _), some (.int _), some (.int _), none], [.ref _], _)) rfl (u_ rfl) ?_
      refine w20r (pc := 146) (len_s := 3) (q_s := 103) rfl (krq hk rfl) ?_
      refine w_t (pc := 149) (e_s := (1, 1, 1, 0, 0, .null, [])) (y_s := (150, [some (.ref _), some (.int _), some (.int _), some (.int _), none], [.int _, .ref _], _)) rfl (u_ rfl) ?_
      refine w_t (pc := 150) (e_s := (1, 1, 2, 0, 0, .null, [])) (y_s := (151, [some (.ref _), some (.int _), some (.int _), some (.int _), none], [.int _, .int _, .ref _], _)) rfl (u_ rfl) ?_
      refine w25 (pc := 151) (len_s := 1) rfl (hk.1 103 0 104 rfl rfl) (fun c7_s => ?_)
      refine w_t (pc := 152) (e_s := (1, 1, 3, 0, 0, .null, [])) (y_s := (153, [some (.ref _), some (.int _), some (.int _), some (.int _), none], [.int _], _)) rfl (u_ rfl) ?_
      exact wrI (pc := 153) (len_s := 1) rfl hk t_s
/-- ColdShodModel.becomes(II)I, from 26 on -/
theorem sg_148_26 {F_s : Nat} {x1_s x2_s x3 x4_s : Int32} {h_s : zH} {K_s : Int32 → zH → Prop} (hk : hKn h_s) (t_s : (x4_s.toInt < 40 → (zix x4_s < 40 → (zix (x4_s - 1) < 40 → wF F_s 148 (26, [some (.ref 102), some (.int x1_s), some (.int x2_s), some (.int x3), some (.int (x4_s + 1))], [], (h_s.1, zup (zup (zup h_s.2.1 104 (zix (x4_s - 1)) (h_s.2.1 104 (zix x4_s))) 105 (zix (x4_s - 1)) (h_s.2.1 105 (zix x4_s))) 106 (zix (x4_s - 1)) (h_s.2.1 106 (zix x4_s)), h_s.2.2.1, h_s.2.2.2)) (gI K_s)))) ∧ (¬ x4_s.toInt < 40 → (zix ((h_s.2.1 102 5) - 1) < 40 → (zix x1_s < 104 → K_s x3 (h_s.1, zup (zup (zup (zup (zup (zup (zup h_s.2.1 102 5 ((h_s.2.1 102 5) - 1)) 104 (zix ((h_s.2.1 102 5) - 1)) x1_s) 105 (zix ((h_s.2.1 102 5) - 1)) x3) 106 (zix ((h_s.2.1 102 5) - 1)) x2_s) 102 5 (((h_s.2.1 102 5) - 1) + 1)) 102 4 (((h_s.2.1 102 5) - 1) + 1)) 103 (zix x1_s) x2_s, h_s.2.2.1, h_s.2.2.2))))) : wF (F_s + 1) 148 (26, [some (.ref 102), some (.int x1_s), some (.int x2_s), some (.int x3), some (.int x4_s)], [], h_s) (gI K_s) := by
  refine w_0 (pc := 26) (e_s := (1, 2, 4, 0, 0, .null, [])) (y_s := (28, [some (.ref _), some (.int _), some (.int _), some (.int _), some (.int _)], [.int _], _)) rfl (u_ rfl) ?_
  refine w_t (pc := 28) (e_s := (0, 2, 0, 0, 0, .int 40, [])) (y_s := (30, [some (.ref _), some (.int _), some (.int _), some (.int _), some (.int _)], [.int _, .int _], _)) rfl (u_ rfl) ?_
  refine wi3 (pc := 30) (len_s := 3) (Y := 40) rfl rfl (by decide) (fun c1_s => ?_) (fun c1_s => ?_)
  · replace t_s := t_s.1 c1_s
    refine w_t (pc := 33) (e_s := (3, 1, 0, 0, 0, .null, [])) (y_s := (34, [some (.ref _), some (.int _), some (.int _), some (.int _), some (.int _)], [.ref _], _)) rfl (u_ rfl) ?_
    refine w20r (pc := 34) (len_s := 3) (q_s := 104) rfl (krq hk rfl) ?_
    refine w_t (pc := 37) (e_s := (1, 2, 4, 0, 0, .null, [])) (y_s := (39, [some (.ref _), some (.int _), some (.int _), some (.int _), some (.int _)], [.int _, .ref _], _)) rfl (u_ rfl) ?_
    refine w_t (pc := 39) (e_s := (0, 1, 0, 0, 0, .int 1, [])) (y_s := (40, [some (.ref _), some (.int _), some (.int _), some (.int _), some (.int _)], [.int _, .int _, .ref _], _)) rfl (u_ rfl) ?_
    refine w_t (pc := 40) (e_s := (7, 1, 0, 1, 0, .null, [])) (y_s := (41, [some (.ref _), some (.int _), some (.int _), some (.int _), some (.int _)], [.int (_ - _), .ref _], _)) rfl (u_ rfl) ?_
    refine w_t (pc := 41) (e_s := (3, 1, 0, 0, 0, .null, [])) (y_s := (42, [some (.ref _), some (.int _), some (.int _), some (.int _), some (.int _)], [.ref _, .int _, .ref _], _)) rfl (u_ rfl) ?_
    refine w20r (pc := 42) (len_s := 3) (q_s := 104) rfl (krq hk rfl) ?_
    refine w_t (pc := 45) (e_s := (1, 2, 4, 0, 0, .null, [])) (y_s := (47, [some (.ref _), some (.int _), some (.int _), some (.int _), some (.int _)], [.int _, .ref _, .int _, .ref _], _)) rfl (u_ rfl) ?_
    refine w22 (pc := 47) (len_s := 1) rfl (hk.1 104 0 40 rfl rfl) (fun c2_s => ?_)
    replace t_s := t_s c2_s
    refine w25 (pc := 48) (len_s := 1) rfl (hk.1 104 0 40 rfl rfl) (fun c3_s => ?_)
    replace t_s := t_s c3_s
    refine w_t (pc := 49) (e_s := (3, 1, 0, 0, 0, .null, [])) (y_s := (50, [some (.ref _), some (.int _), some (.int _), some (.int _), some (.int _)], [.ref _], _)) rfl (u_ rfl) ?_
    refine w20r (pc := 50) (len_s := 3) (q_s := 105) rfl (krq hk rfl) ?_
    refine w_t (pc := 53) (e_s := (1, 2, 4, 0, 0, .null, [])) (y_s := (55, [some (.ref _), some (.int _), some (.int _), some (.int _), some (.int _)], [.int _, .ref _], _)) rfl (u_ rfl) ?_
    refine w_t (pc := 55) (e_s := (0, 1, 0, 0, 0, .int 1, [])) (y_s := (56, [some (.ref _), some (.int _), some (.int _), some (.int _), some (.int _)], [.int _, .int _, .ref _], _)) rfl (u_ rfl) ?_
    refine w_t (pc := 56) (e_s := (7, 1, 0, 1, 0, .null, [])) (y_s := (57, [some (.ref _), some (.int _), some (.int _), some (.int _), some (.int _)], [.int (_ - _), .ref _], _)) rfl (u_ rfl) ?_
    refine w_t (pc := 57) (e_s := (3, 1, 0, 0, 0, .null, [])) (y_s := (58, [some (.ref _), some (.int _), some (.int _), some (.int _), some (.int _)], [.ref _, .int _, .ref _], _)) rfl (u_ rfl) ?_
    refine w20r (pc := 58) (len_s := 3) (q_s := 105) rfl (krq hk rfl) ?_
    refine w_t (pc := 61) (e_s := (1, 2, 4, 0, 0, .null, [])) (y_s := (63, [some (.ref _), some (.int _), some (.int _), some (.int _), some (.int _)], [.int _, .ref _, .int _, .ref _], _)) rfl (u_ rfl) ?_
    refine w22 (pc := 63) (len_s := 1) rfl (hk.1 105 0 40 rfl rfl) (fun c4_s => ?_)
    refine w25 (pc := 64) (len_s := 1) rfl (hk.1 105 0 40 rfl rfl) (fun c5_s => ?_)
    refine w_t (pc := 65) (e_s := (3, 1, 0, 0, 0, .null, [])) (y_s := (66, [some (.ref _), some (.int _), some (.int _), some (.int _), some (.int _)], [.ref _], _)) rfl (u_ rfl) ?_
    refine w20r (pc := 66) (len_s := 3) (q_s := 106) rfl (krq hk rfl) ?_
    refine w_t (pc := 69) (e_s := (1, 2, 4, 0, 0, .null, [])) (y_s := (71, [some (.ref _), some (.int _), some (.int _), some (.int _), some (.int _)], [.int _, .ref _], _)) rfl (u_ rfl) ?_
    refine w_t (pc := 71) (e_s := (0, 1, 0, 0, 0, .int 1, [])) (y_s := (72, [some (.ref _), some (.int _), some (.int _), some (.int _), some (.int _)], [.int _, .int _, .ref _], _)) rfl (u_ rfl) ?_
    refine w_t (pc := 72) (e_s := (7, 1, 0, 1, 0, .null, [])) (y_s := (73, [some (.ref _), some (.int _), some (.int _), some (.int _), some (.int _)], [.int (_ - _), .ref _], _)) rfl (u_ rfl) ?_
    refine w_t (pc := 73) (e_s := (3, 1, 0, 0, 0, .null, [])) (y_s := (74, [some (.ref _), some (.int _), some (.int _), some (.int _), some (.int _)], [.ref _, .int _, .ref _], _)) rfl (u_ rfl) ?_
    refine w20r (pc := 74) (len_s := 3) (q_s := 106) rfl (krq hk rfl) ?_
    refine w_t (pc := 77) (e_s := (1, 2, 4, 0, 0, .null, [])) (y_s := (79, [some (.ref _), some (.int _), some (.int _), some (.int _), some (.int _)], [.int _, .ref _, .int _, .ref _], _)) rfl (u_ rfl) ?_
    refine w22 (pc := 79) (len_s := 1) rfl (hk.1 106 0 40 rfl rfl) (fun c6_s => ?_)
    refine w25 (pc := 80) (len_s := 1) rfl (hk.1 106 0 40 rfl rfl) (fun c7_s => ?_)
    refine w_t (pc := 81) (e_s := (19, 3, 4, 0, 0, .int 1, [])) (y_s := (84, [some (.ref _), some (.int _), some (.int _), some (.int _), some (.int _)], [], _)) rfl (u_ rfl) ?_
    refine w_t (pc := 84) (e_s := (17, 3, 26, 0, 0, .null, [])) (y_s := (26, [some (.ref _), some (.int _), some (.int _), some (.int _), some (.int _)], [], _)) rfl (u_ rfl) ?_
    exact t_s
  · replace t_s := t_s.2 c1_s
    refine w_t (pc := 87) (e_s := (3, 1, 0, 0, 0, .null, [])) (y_s := (88, [some (.ref _), some (.int _), some (.int _), some (.int _), some (.int _)], [.ref _], _)) rfl (u_ rfl) ?_
    refine w_t (pc := 88) (e_s := (39, 1, 0, 0, 0, .null, [])) (y_s := (89, [some (.ref _), some (.int _), some (.int _), some (.int _), some (.int _)], [.ref _, .ref _], _)) rfl (u_ rfl) ?_
    refine w20 (pc := 89) (len_s := 3) rfl ?_
    refine w_t (pc := 92) (e_s := (0, 1, 0, 0, 0, .int 1, [])) (y_s := (93, [some (.ref _), some (.int _), some (.int _), some (.int _), some (.int _)], [.int _, .int _, .ref _], _)) rfl (u_ rfl) ?_
    refine w_t (pc := 93) (e_s := (7, 1, 0, 1, 0, .null, [])) (y_s := (94, [some (.ref _), some (.int _), some (.int _), some (.int _), some (.int _)], [.int (_ - _), .ref _], _)) rfl (u_ rfl) ?_
    refine w21 (pc := 94) (len_s := 3) rfl ?_
    refine w_t (pc := 97) (e_s := (3, 1, 0, 0, 0, .null, [])) (y_s := (98, [some (.ref _), some (.int _), some (.int _), some (.int _), some (.int _)], [.ref _], _)) rfl (u_ rfl) ?_
    refine w20r (pc := 98) (len_s := 3) (q_s := 104) rfl (krq hk rfl) ?_
    refine w_t (pc := 101) (e_s := (3, 1, 0, 0, 0, .null, [])) (y_s := (102, [some (.ref _), some (.int _), some (.int _), some (.int _), some (.int _)], [.ref _, .ref _], _)) rfl (u_ rfl) ?_
    refine w20 (pc := 102) (len_s := 3) rfl ?_
    refine w_t (pc := 105) (e_s := (1, 1, 1, 0, 0, .null, [])) (y_s := (106, [some (.ref _), some (.int _), some (.int _), some (.int _), some (.int _)], [.int _, .int _, .ref _], _)) rfl (u_ rfl) ?_
    refine w25 (pc := 106) (len_s := 1) rfl (hk.1 104 0 40 rfl rfl) (fun c8_s => ?_)
    replace t_s := t_s c8_s
    refine w_t (pc := 107) (e_s := (3, 1, 0, 0, 0, .null, [])) (y_s := (108, [some (.ref _), some (.int _), some (.int _), some (.int _), some (.int _)], [.ref _], _)) rfl (u_ rfl) ?_
    refine w20r (pc := 108) (len_s := 3) (q_s := 105) rfl (krq hk rfl) ?_
    refine w_t (pc := 111) (e_s := (3, 1, 0, 0, 0, .null, [])) (y_s := (112, [some (.ref _), some (.int _), some (.int _), some (.int _), some (.int _)], [.ref _, .ref _], _)) rfl (u_ rfl) ?_
    refine w20 (pc := 112) (len_s := 3) rfl ?_
    refine w_t (pc := 115) (e_s := (1, 1, 3, 0, 0, .null, [])) (y_s := (116, [some (.ref _), some (.int _), some (.int _), some (.int _), some (.int _)], [.int _, .int _, .ref _], _)) rfl (u_ rfl) ?_
    refine w25 (pc := 116) (len_s := 1) rfl (hk.1 105 0 40 rfl rfl) (fun c9_s => ?_)
    refine w_t (pc := 117) (e_s := (3, 1, 0, 0, 0, .null, [])) (y_s := (118, [some (.ref _), some (.int _), some (.int _), some (.int _), some (.int _)], [.ref _], _)) rfl (u_ rfl) ?_
    refine w20r (pc := 118) (len_s := 3) (q_s := 106) rfl (krq hk rfl) ?_
    refine w_t (pc := 121) (e_s := (3, 1, 0, 0, 0, .null, [])) (y_s := (122, [some (.ref _), some (.int _), some (.int _), some (.int _), some (.int _)], [.ref _, .ref _], _)) rfl (u_ rfl) ?_
    refine w20 (pc := 122) (len_s := 3) rfl ?_
    refine w_t (pc := 125) (e_s := (1, 1, 2, 0, 0, .null, [])) (y_s := (126, [some (.ref _), some (.int _), some (.int _), some (.int _), some (.int _)], [.int _, .int _, .ref _], _)) rfl (u_ rfl) ?_
    refine w25 (pc := 126) (len_s := 1) rfl (hk.1 106 0 40 rfl rfl) (fun c10_s => ?_)
    refine w_t (pc := 127) (e_s := (3, 1, 0, 0, 0, .null, [])) (y_s := (128, [some (.ref _), some (.int _), some (.int _), some (.int _), some (.int _)], [.ref _], _)) rfl (u_ rfl) ?_
    refine w_t (pc := 128) (e_s := (39, 1, 0, 0, 0, .null, [])) (y_s := (129, [some (.ref _), some (.int _), some (.int _), some (.int _), some (.int _)], [.ref _, .ref _], _)) rfl (u_ rfl) ?_
    refine w20 (pc := 129) (len_s := 3) rfl ?_
    refine w_t (pc := 132) (e_s := (0, 1, 0, 0, 0, .int 1, [])) (y_s := (133, [some (.ref _), some (.int _), some (.int _), some (.int _), some (.int _)], [.int _, .int _, .ref _], _)) rfl (u_ rfl) ?_
    refine w_t (pc := 133) (e_s := (7, 1, 0, 0, 0, .null, [])) (y_s := (134, [some (.ref _), some (.int _), some (.int _), some (.int _), some (.int _)], [.int (_ + _), .ref _], _)) rfl (u_ rfl) ?_
    refine w21 (pc := 134) (len_s := 3) rfl ?_
    refine w_t (pc := 137) (e_s := (3, 1, 0, 0, 0, .null, [])) (y_s := (138, [some (.ref _), some (.int _), some (.int _), some (.int _), some (.int _)], [.ref _], _)) rfl (u_ rfl) ?_
    refine w_t (pc := 138) (e_s := (3, 1, 0, 0, 0, .null, [])) (y_s := (139, [some (.ref _), some (.int _), some (.int _), some (.int _), some (.int _)], [.ref _, .ref _], _)) rfl (u_ rfl) ?_
    refine w20 (pc := 139) (len_s := 3) rfl ?_
    refine w21 (pc := 142) (len_s := 3) rfl ?_
    refine w_t (pc := 145) (e_s := (3, 1, 0, 0, 0, .null, [])) (y_s := (146, [some (.ref _), some (.int _), some (.int _), some (.int _), some (.int _)], [.ref _], _)) rfl (u_ rfl) ?_
    refine w20r (pc := 146) (len_s := 3) (q_s := 103) rfl (krq hk rfl) ?_
    refine w_t (pc := 149) (e_s := (1, 1, 1, 0, 0, .null, [])) (y_s := (150, [some (.ref _), some (.int _), some (.int _), some (.int _), some (.int _)], [.int _, .ref _], _)) rfl (u_ rfl) ?_
    refine w_t (pc := 150) (e_s := (1, 1, 2, 0, 0, .null, [])) (y_s := (151, [some (.ref _), some (.int _), some (.int _), some (.int _), some (.int _)], [.int _, .int _, .ref _], _)) rfl (u_ rfl) ?_
    refine w25 (pc := 151) (len_s := 1) rfl (hk.1 103 0 104 rfl rfl) (fun c11_s => ?_)
    replace t_s := t_s c11_s
    refine w_t (pc := 152) (e_s := (1, 1, 3, 0, 0, .null, [])) (y_s := (153, [some (.ref _), some (.int _), some (.int _), some (.int _), some (.int _)], [.int _], _)) rfl (u_ rfl) ?_
    exact wrI (pc := 153) (len_s := 1) rfl hk t_s
/-- ColdShodModel.mend(III)I, from 0 on -/
theorem sg_163_0 {F_s : Nat} {x1_s : Int32} {x2_s : Int32} {x3 : Int32} {h_s : zH} {K_s : Int32 → zH → Prop} (hk : hKn h_s) (t_s : wF F_s 161 (0, [some (.ref 102), some (.int x1_s), some (.int x2_s)], [], h_s) (gI (fun v1_s h1 => hKn h1 → (v1_s.toInt < 0 → K_s (-2000000000) h1) ∧ (¬ v1_s.toInt < 0 → wF F_s 162 (0, [some (.ref 102), some (.int x2_s), some (.int x3)], [], h1) (gI (fun v3 h3 => hKn h3 → (v3.toInt = 0 → K_s (-2000000000) h3) ∧ (¬ v3.toInt = 0 → wF F_s 148 (0, [some (.ref 102), some (.int v1_s), some (.int x3), none, none], [], h3) (gI (fun v5 h5 => hKn h5 → K_s v5 h5))))))))) : wF (F_s + 1) 163 (0, [some (.ref 102), some (.int x1_s), some (.int x2_s), some (.int x3), none], [], h_s) (gI K_s) := by
  refine w_0 (pc := 0) (e_s := (3, 1, 0, 0, 0, .null, [])) (y_s := (1, [some (.ref _), some (.int _), some (.int _), some (.int _), none], [.ref _], _)) rfl (u_ rfl) ?_
  refine w_t (pc := 1) (e_s := (1, 1, 1, 0, 0, .null, [])) (y_s := (2, [some (.ref _), some (.int _), some (.int _), some (.int _), none], [.int _, .ref _], _)) rfl (u_ rfl) ?_
  refine w_t (pc := 2) (e_s := (1, 1, 2, 0, 0, .null, [])) (y_s := (3, [some (.ref _), some (.int _), some (.int _), some (.int _), none], [.int _, .int _, .ref _], _)) rfl (u_ rfl) ?_
  refine wcI (pc := 3) (len_s := 3) rfl rfl (l := [some (.ref _), some (.int _), some (.int _)]) rfl (wmI t_s (fun v1_s h1 hk t_s => ?_))
  replace t_s := t_s hk
  refine w_t (pc := 6) (e_s := (4, 2, 4, 0, 0, .null, [])) (y_s := (8, [some (.ref _), some (.int _), some (.int _), some (.int _), some (.int _)], [], _)) rfl (u_ rfl) ?_
  refine w_t (pc := 8) (e_s := (1, 2, 4, 0, 0, .null, [])) (y_s := (10, [some (.ref _), some (.int _), some (.int _), some (.int _), some (.int _)], [.int _], _)) rfl (u_ rfl) ?_
  refine wq2 (pc := 10) (len_s := 3) rfl rfl (fun c2_s => ?_) (fun c2_s => ?_)
  · replace t_s := t_s.1 c2_s
    refine w_t (pc := 32) (e_s := (0, 2, 0, 0, 0, .int (-2000000000), [(0, 1081)])) (y_s := (34, [some (.ref _), some (.int _), some (.int _), some (.int _), some (.int _)], [.int _], _)) rfl (u_ rfl) ?_
    exact wrI (pc := 34) (len_s := 1) rfl hk t_s
  · replace t_s := t_s.2 c2_s
    refine w_t (pc := 13) (e_s := (3, 1, 0, 0, 0, .null, [])) (y_s := (14, [some (.ref _), some (.int _), some (.int _), some (.int _), some (.int _)], [.ref _], _)) rfl (u_ rfl) ?_
    refine w_t (pc := 14) (e_s := (1, 1, 2, 0, 0, .null, [])) (y_s := (15, [some (.ref _), some (.int _), some (.int _), some (.int _), some (.int _)], [.int _, .ref _], _)) rfl (u_ rfl) ?_
    refine w_t (pc := 15) (e_s := (1, 1, 3, 0, 0, .null, [])) (y_s := (16, [some (.ref _), some (.int _), some (.int _), some (.int _), some (.int _)], [.int _, .int _, .ref _], _)) rfl (u_ rfl) ?_
    refine wcI (pc := 16) (len_s := 3) rfl rfl (l := [some (.ref _), some (.int _), some (.int _)]) rfl (wmI t_s (fun v3 h3 hk t_s => ?_))
    replace t_s := t_s hk
    refine wq0 (pc := 19) (len_s := 3) rfl rfl (fun c4_s => ?_) (fun c4_s => ?_)
    · replace t_s := t_s.1 c4_s
      refine w_t (pc := 32) (e_s := (0, 2, 0, 0, 0, .int (-2000000000), [(0, 1081)])) (y_s := (34, [some (.ref _), some (.int _), some (.int _), some (.int _), some (.int _)], [.int _], _)) rfl (u_ rfl) ?_
      exact wrI (pc := 34) (len_s := 1) rfl hk t_s
    · replace t_s := t_s.2 c4_s
      refine w_t (pc := 22) (e_s := (3, 1, 0, 0, 0, .null, [])) (y_s := (23, [some (.ref _), some (.int _), some (.int _), some (.int _), some (.int _)], [.ref _], _)) rfl (u_ rfl) ?_
      refine w_t (pc := 23) (e_s := (1, 2, 4, 0, 0, .null, [])) (y_s := (25, [some (.ref _), some (.int _), some (.int _), some (.int _), some (.int _)], [.int _, .ref _], _)) rfl (u_ rfl) ?_
      refine w_t (pc := 25) (e_s := (1, 1, 3, 0, 0, .null, [])) (y_s := (26, [some (.ref _), some (.int _), some (.int _), some (.int _), some (.int _)], [.int _, .int _, .ref _], _)) rfl (u_ rfl) ?_
      refine wcI (pc := 26) (len_s := 3) rfl rfl (l := [some (.ref _), some (.int _), some (.int _), none, none]) rfl (wmI t_s (fun v5 h5 hk t_s => ?_))
      replace t_s := t_s hk
      refine w_t (pc := 29) (e_s := (17, 3, 34, 0, 0, .null, [])) (y_s := (34, [some (.ref _), some (.int _), some (.int _), some (.int _), some (.int _)], [.int _], _)) rfl (u_ rfl) ?_
      exact wrI (pc := 34) (len_s := 1) rfl hk t_s
/-- ColdShodModel.of(II)I, from 0 on -/
theorem sg_164_0 {F_s : Nat} {x1_s : Int32} {x2_s : Int32} {h_s : zH} {K_s : Int32 → zH → Prop} (hk : hKn h_s) (t_s : wF F_s 161 (0, [some (.ref 102), some (.int x1_s), some (.int x2_s)], [], h_s) (gI (fun v1_s h1 => hKn h1 → (v1_s.toInt < 0 → ((x2_s.toInt = 14 → ((x1_s.toInt < 0 → K_s (-2000000000) h1) ∧ (¬ x1_s.toInt < 0 → ((((h1.2.1 102 7) - 1).toInt < x1_s.toInt → ((((h1.2.1 102 8) - 1).toInt < x1_s.toInt → K_s (-2000000000) h1) ∧ (¬ ((h1.2.1 102 8) - 1).toInt < x1_s.toInt → ((x2_s.toInt = 12 → (zix x1_s < 12 → K_s (h1.2.1 107 (zix x1_s)) h1)) ∧ (¬ x2_s.toInt = 12 → ((x2_s.toInt = 13 → (zix x1_s < 12 → K_s (h1.2.1 108 (zix x1_s)) h1)) ∧ (¬ x2_s.toInt = 13 → K_s (-2000000000) h1))))))) ∧ (¬ ((h1.2.1 102 7) - 1).toInt < x1_s.toInt → (zix (28 + x1_s) < 104 → K_s (9 - ((h1.2.1 103 (zix (28 + x1_s))) / 11)) h1)))))) ∧ (¬ x2_s.toInt = 14 → ((x1_s.toInt < 0 → K_s (-2000000000) h1) ∧ (¬ x1_s.toInt < 0 → ((((h1.2.1 102 8) - 1).toInt < x1_s.toInt → K_s (-2000000000) h1) ∧ (¬ ((h1.2.1 102 8) - 1).toInt < x1_s.toInt → ((x2_s.toInt = 12 → (zix x1_s < 12 → K_s (h1.2.1 107 (zix x1_s)) h1)) ∧ (¬ x2_s.toInt = 12 → ((x2_s.toInt = 13 → (zix x1_s < 12 → K_s (h1.2.1 108 (zix x1_s)) h1)) ∧ (¬ x2_s.toInt = 13 → K_s (-2000000000) h1))))))))))) ∧ (¬ v1_s.toInt < 0 → (zix v1_s < 104 → K_s (h1.2.1 103 (zix v1_s)) h1))))) : wF (F_s + 1) 164 (0, [some (.ref 102), some (.int x1_s), some (.int x2_s), none], [], h_s) (gI K_s) := by
  refine w_0 (pc := 0) (e_s := (3, 1, 0, 0, 0, .null, [])) (y_s := (1, [some (.ref _), some (.int _), some (.int _), none], [.ref _], _)) rfl (u_ rfl) ?_
  refine w_t (pc := 1) (e_s := (1, 1, 1, 0, 0, .null, [])) (y_s := (2, [some (.ref _), some (.int _), some (.int _), none], [.int _, .ref _], _)) rfl (u_ rfl) ?_
  refine w_t (pc := 2) (e_s := (1, 1, 2, 0, 0, .null, [])) (y_s := (3, [some (.ref _), some (.int _), some (.int _), none], [.int _, .int _, .ref _], _)) rfl (u_ rfl) ?_
  refine wcI (pc := 3) (len_s := 3) rfl rfl (l := [some (.ref _), some (.int _), some (.int _)]) rfl (wmI t_s (fun v1_s h1 hk t_s => ?_))
  replace t_s := t_s hk
  refine w_t (pc := 6) (e_s := (4, 1, 3, 0, 0, .null, [])) (y_s := (7, [some (.ref _), some (.int _), some (.int _), some (.int _)], [], _)) rfl (u_ rfl) ?_
  refine w_t (pc := 7) (e_s := (1, 1, 3, 0, 0, .null, [])) (y_s := (8, [some (.ref _), some (.int _), some (.int _), some (.int _)], [.int _], _)) rfl (u_ rfl) ?_
  refine wq2 (pc := 8) (len_s := 3) rfl rfl (fun c2_s => ?_) (fun c2_s => ?_)
  · replace t_s := t_s.1 c2_s
    refine w_t (pc := 18) (e_s := (1, 1, 2, 0, 0, .null, [])) (y_s := (19, [some (.ref _), some (.int _), some (.int _), some (.int _)], [.int _], _)) rfl (u_ rfl) ?_
    refine w_t (pc := 19) (e_s := (0, 2, 0, 0, 0, .int 14, [])) (y_s := (21, [some (.ref _), some (.int _), some (.int _), some (.int _)], [.int _, .int _], _)) rfl (u_ rfl) ?_
    refine wi1 (pc := 21) (len_s := 3) (Y := 14) rfl rfl (by decide) (fun c3_s => ?_) (fun c3_s => ?_)
    · replace t_s := t_s.1 c3_s
      refine w_t (pc := 24) (e_s := (3, 1, 0, 0, 0, .null, [])) (y_s := (25, [some (.ref _), some (.int _), some (.int _), some (.int _)], [.ref _], _)) rfl (u_ rfl) ?_
      refine w_t (pc := 25) (e_s := (1, 1, 1, 0, 0, .null, [])) (y_s := (26, [some (.ref _), some (.int _), some (.int _), some (.int _)], [.int _, .ref _], _)) rfl (u_ rfl) ?_
      refine w_t (pc := 26) (e_s := (10, 1, 0, 0, 0, .null, [])) (y_s := (27, [some (.ref _), some (.int _), some (.int _), some (.int _)], [.long (Int32.toInt64 _), .ref _], _)) rfl (u_ rfl) ?_
      refine wcI (pc := 27) (len_s := 3) rfl rfl (l := [some (.ref _), some (.long _), none]) rfl ?_
      refine w_t (pc := 0) (e_s := (2, 1, 1, 0, 0, .null, [])) (y_s := (1, [some (.ref _), some (.long _), none], [.long _], _)) rfl (u_ rfl) ?_
      refine w_t (pc := 1) (e_s := (0, 1, 0, 0, 0, .long 0, [])) (y_s := (2, [some (.ref _), some (.long _), none], [.long _, .long _], _)) rfl (u_ rfl) ?_
      refine w_t (pc := 2) (e_s := (3, 1, 0, 0, 0, .null, [])) (y_s := (3, [some (.ref _), some (.long _), none], [.ref _, .long _, .long _], _)) rfl (u_ rfl) ?_
      refine w20 (pc := 3) (len_s := 3) rfl ?_
      refine w_t (pc := 6) (e_s := (0, 1, 0, 0, 0, .int 1, [])) (y_s := (7, [some (.ref _), some (.long _), none], [.int _, .int _, .long _, .long _], _)) rfl (u_ rfl) ?_
      refine w_t (pc := 7) (e_s := (7, 1, 0, 1, 0, .null, [])) (y_s := (8, [some (.ref _), some (.long _), none], [.int (_ - _), .long _, .long _], _)) rfl (u_ rfl) ?_
      refine w_t (pc := 8) (e_s := (10, 1, 0, 0, 0, .null, [])) (y_s := (9, [some (.ref _), some (.long _), none], [.long (Int32.toInt64 _), .long _, .long _], _)) rfl (u_ rfl) ?_
      refine wcI (pc := 9) (len_s := 3) rfl rfl (l := [some (.long _), none, some (.long _), none, some (.long _), none]) rfl ?_
      refine w_t (pc := 0) (e_s := (2, 1, 0, 0, 0, .null, [])) (y_s := (1, [some (.long _), none, some (.long _), none, some (.long _), none], [.long _], _)) rfl (u_ rfl) ?_
      refine w_t (pc := 1) (e_s := (2, 1, 2, 0, 0, .null, [])) (y_s := (2, [some (.long _), none, some (.long _), none, some (.long _), none], [.long _, .long _], _)) rfl (u_ rfl) ?_
      refine w_t (pc := 2) (e_s := (14, 1, 0, 0, 0, .null, [])) (y_s := (3, [some (.long _), none, some (.long _), none, some (.long _), none], [.int (lg_cmp _ _)], _)) rfl (u_ rfl) ?_
      refine wl2 (pc := 3) (len_s := 3) (Y := 0) rfl (Int32.toInt_toInt64 _) (by decide) (fun c4_s => ?_) (fun c4_s => ?_)
      · replace t_s := t_s.1 c4_s
        refine w_t (pc := 17) (e_s := (0, 1, 0, 0, 0, .int 0, [])) (y_s := (18, [some (.long _), none, some (.long _), none, some (.long _), none], [.int _], _)) rfl (u_ rfl) ?_
        refine wrI (pc := 18) (len_s := 1) rfl hk ?_
        show wF _ 152 (12, [some (.ref _), some (.long _), none], [.int _], _) _
        refine wrI (pc := 12) (len_s := 1) rfl hk ?_
        show wF _ 164 (30, [some (.ref _), some (.int _), some (.int _), some (.int _)], [.int _], _) _
        refine w_t (pc := 30) (e_s := (15, 3, 46, 0, 0, .null, [])) (y_s := (46, [some (.ref _), some (.int _), some (.int _), some (.int _)], [], _)) rfl (u_ rfl) ?_
        refine w_t (pc := 46) (e_s := (3, 1, 0, 0, 0, .null, [])) (y_s := (47, [some (.ref _), some (.int _), some (.int _), some (.int _)], [.ref _], _)) rfl (u_ rfl) ?_
        refine w_t (pc := 47) (e_s := (1, 1, 1, 0, 0, .null, [])) (y_s := (48, [some (.ref _), some (.int _), some (.int _), some (.int _)], [.int _, .ref _], _)) rfl (u_ rfl) ?_
        refine w_t (pc := 48) (e_s := (10, 1, 0, 0, 0, .null, [])) (y_s := (49, [some (.ref _), some (.int _), some (.int _), some (.int _)], [.long (Int32.toInt64 _), .ref _], _)) rfl (u_ rfl) ?_
        refine wcI (pc := 49) (len_s := 3) rfl rfl (l := [some (.ref _), some (.long _), none]) rfl ?_
        refine w_t (pc := 0) (e_s := (2, 1, 1, 0, 0, .null, [])) (y_s := (1, [some (.ref _), some (.long _), none], [.long _], _)) rfl (u_ rfl) ?_
        refine w_t (pc := 1) (e_s := (0, 1, 0, 0, 0, .long 0, [])) (y_s := (2, [some (.ref _), some (.long _), none], [.long _, .long _], _)) rfl (u_ rfl) ?_
        refine w_t (pc := 2) (e_s := (3, 1, 0, 0, 0, .null, [])) (y_s := (3, [some (.ref _), some (.long _), none], [.ref _, .long _, .long _], _)) rfl (u_ rfl) ?_
        refine w20 (pc := 3) (len_s := 3) rfl ?_
        refine w_t (pc := 6) (e_s := (0, 1, 0, 0, 0, .int 1, [])) (y_s := (7, [some (.ref _), some (.long _), none], [.int _, .int _, .long _, .long _], _)) rfl (u_ rfl) ?_
        refine w_t (pc := 7) (e_s := (7, 1, 0, 1, 0, .null, [])) (y_s := (8, [some (.ref _), some (.long _), none], [.int (_ - _), .long _, .long _], _)) rfl (u_ rfl) ?_
        refine w_t (pc := 8) (e_s := (10, 1, 0, 0, 0, .null, [])) (y_s := (9, [some (.ref _), some (.long _), none], [.long (Int32.toInt64 _), .long _, .long _], _)) rfl (u_ rfl) ?_
        refine wcI (pc := 9) (len_s := 3) rfl rfl (l := [some (.long _), none, some (.long _), none, some (.long _), none]) rfl ?_
        refine w_t (pc := 0) (e_s := (2, 1, 0, 0, 0, .null, [])) (y_s := (1, [some (.long _), none, some (.long _), none, some (.long _), none], [.long _], _)) rfl (u_ rfl) ?_
        refine w_t (pc := 1) (e_s := (2, 1, 2, 0, 0, .null, [])) (y_s := (2, [some (.long _), none, some (.long _), none, some (.long _), none], [.long _, .long _], _)) rfl (u_ rfl) ?_
        refine w_t (pc := 2) (e_s := (14, 1, 0, 0, 0, .null, [])) (y_s := (3, [some (.long _), none, some (.long _), none, some (.long _), none], [.int (lg_cmp _ _)], _)) rfl (u_ rfl) ?_
        refine wl2 (pc := 3) (len_s := 3) (Y := 0) rfl (Int32.toInt_toInt64 _) (by decide) (fun c5_s => ?_) (fun c5_s => ?_)
        · skip
          refine w_t (pc := 17) (e_s := (0, 1, 0, 0, 0, .int 0, [])) (y_s := (18, [some (.long _), none, some (.long _), none, some (.long _), none], [.int _], _)) rfl (u_ rfl) ?_
          refine wrI (pc := 18) (len_s := 1) rfl hk ?_
          show wF _ 153 (12, [some (.ref _), some (.long _), none], [.int _], _) _
          refine wrI (pc := 12) (len_s := 1) rfl hk ?_
          show wF _ 164 (52, [some (.ref _), some (.int _), some (.int _), some (.int _)], [.int _], _) _
          refine w_t (pc := 52) (e_s := (15, 3, 60, 1, 0, .null, [])) (y_s := (55, [some (.ref _), some (.int _), some (.int _), some (.int _)], [], _)) rfl (u_ rfl) ?_
          refine w_t (pc := 55) (e_s := (0, 2, 0, 0, 0, .int (-2000000000), [(0, 1081)])) (y_s := (57, [some (.ref _), some (.int _), some (.int _), some (.int _)], [.int _], _)) rfl (u_ rfl) ?_
          refine w_t (pc := 57) (e_s := (17, 3, 92, 0, 0, .null, [])) (y_s := (92, [some (.ref _), some (.int _), some (.int _), some (.int _)], [.int _], _)) rfl (u_ rfl) ?_
          exact wrI (pc := 92) (len_s := 1) rfl hk t_s
        · exact absurd c4_s c5_s
      · replace t_s := t_s.2 c4_s
        refine w_t (pc := 6) (e_s := (2, 1, 0, 0, 0, .null, [])) (y_s := (7, [some (.long _), none, some (.long _), none, some (.long _), none], [.long _], _)) rfl (u_ rfl) ?_
        refine w_t (pc := 7) (e_s := (2, 2, 4, 0, 0, .null, [])) (y_s := (9, [some (.long _), none, some (.long _), none, some (.long _), none], [.long _, .long _], _)) rfl (u_ rfl) ?_
        refine w_t (pc := 9) (e_s := (14, 1, 0, 0, 0, .null, [])) (y_s := (10, [some (.long _), none, some (.long _), none, some (.long _), none], [.int (lg_cmp _ _)], _)) rfl (u_ rfl) ?_
        refine wl4 (pc := 10) (len_s := 3) rfl (Int32.toInt_toInt64 _) (Int32.toInt_toInt64 _) (fun c6_s => ?_) (fun c6_s => ?_)
        · replace t_s := t_s.1 c6_s
          refine w_t (pc := 17) (e_s := (0, 1, 0, 0, 0, .int 0, [])) (y_s := (18, [some (.long _), none, some (.long _), none, some (.long _), none], [.int _], _)) rfl (u_ rfl) ?_
          refine wrI (pc := 18) (len_s := 1) rfl hk ?_
          show wF _ 152 (12, [some (.ref _), some (.long _), none], [.int _], _) _
          refine wrI (pc := 12) (len_s := 1) rfl hk ?_
          show wF _ 164 (30, [some (.ref _), some (.int _), some (.int _), some (.int _)], [.int _], _) _
          refine w_t (pc := 30) (e_s := (15, 3, 46, 0, 0, .null, [])) (y_s := (46, [some (.ref _), some (.int _), some (.int _), some (.int _)], [], _)) rfl (u_ rfl) ?_
          refine w_t (pc := 46) (e_s := (3, 1, 0, 0, 0, .null, [])) (y_s := (47, [some (.ref _), some (.int _), some (.int _), some (.int _)], [.ref _], _)) rfl (u_ rfl) ?_
          refine w_t (pc := 47) (e_s := (1, 1, 1, 0, 0, .null, [])) (y_s := (48, [some (.ref _), some (.int _), some (.int _), some (.int _)], [.int _, .ref _], _)) rfl (u_ rfl) ?_
          refine w_t (pc := 48) (e_s := (10, 1, 0, 0, 0, .null, [])) (y_s := (49, [some (.ref _), some (.int _), some (.int _), some (.int _)], [.long (Int32.toInt64 _), .ref _], _)) rfl (u_ rfl) ?_
          refine wcI (pc := 49) (len_s := 3) rfl rfl (l := [some (.ref _), some (.long _), none]) rfl ?_
          refine w_t (pc := 0) (e_s := (2, 1, 1, 0, 0, .null, [])) (y_s := (1, [some (.ref _), some (.long _), none], [.long _], _)) rfl (u_ rfl) ?_
          refine w_t (pc := 1) (e_s := (0, 1, 0, 0, 0, .long 0, [])) (y_s := (2, [some (.ref _), some (.long _), none], [.long _, .long _], _)) rfl (u_ rfl) ?_
          refine w_t (pc := 2) (e_s := (3, 1, 0, 0, 0, .null, [])) (y_s := (3, [some (.ref _), some (.long _), none], [.ref _, .long _, .long _], _)) rfl (u_ rfl) ?_
          refine w20 (pc := 3) (len_s := 3) rfl ?_
          refine w_t (pc := 6) (e_s := (0, 1, 0, 0, 0, .int 1, [])) (y_s := (7, [some (.ref _), some (.long _), none], [.int _, .int _, .long _, .long _], _)) rfl (u_ rfl) ?_
          refine w_t (pc := 7) (e_s := (7, 1, 0, 1, 0, .null, [])) (y_s := (8, [some (.ref _), some (.long _), none], [.int (_ - _), .long _, .long _], _)) rfl (u_ rfl) ?_
          refine w_t (pc := 8) (e_s := (10, 1, 0, 0, 0, .null, [])) (y_s := (9, [some (.ref _), some (.long _), none], [.long (Int32.toInt64 _), .long _, .long _], _)) rfl (u_ rfl) ?_
          refine wcI (pc := 9) (len_s := 3) rfl rfl (l := [some (.long _), none, some (.long _), none, some (.long _), none]) rfl ?_
          refine w_t (pc := 0) (e_s := (2, 1, 0, 0, 0, .null, [])) (y_s := (1, [some (.long _), none, some (.long _), none, some (.long _), none], [.long _], _)) rfl (u_ rfl) ?_
          refine w_t (pc := 1) (e_s := (2, 1, 2, 0, 0, .null, [])) (y_s := (2, [some (.long _), none, some (.long _), none, some (.long _), none], [.long _, .long _], _)) rfl (u_ rfl) ?_
          refine w_t (pc := 2) (e_s := (14, 1, 0, 0, 0, .null, [])) (y_s := (3, [some (.long _), none, some (.long _), none, some (.long _), none], [.int (lg_cmp _ _)], _)) rfl (u_ rfl) ?_
          refine wl2 (pc := 3) (len_s := 3) (Y := 0) rfl (Int32.toInt_toInt64 _) (by decide) (fun c7_s => ?_) (fun c7_s => ?_)
          · exact absurd c7_s c4_s
          · skip
            refine w_t (pc := 6) (e_s := (2, 1, 0, 0, 0, .null, [])) (y_s := (7, [some (.long _), none, some (.long _), none, some (.long _), none], [.long _], _)) rfl (u_ rfl) ?_
            refine w_t (pc := 7) (e_s := (2, 2, 4, 0, 0, .null, [])) (y_s := (9, [some (.long _), none, some (.long _), none, some (.long _), none], [.long _, .long _], _)) rfl (u_ rfl) ?_
            refine w_t (pc := 9) (e_s := (14, 1, 0, 0, 0, .null, [])) (y_s := (10, [some (.long _), none, some (.long _), none, some (.long _), none], [.int (lg_cmp _ _)], _)) rfl (u_ rfl) ?_
            refine wl4 (pc := 10) (len_s := 3) rfl (Int32.toInt_toInt64 _) (Int32.toInt_toInt64 _) (fun c8_s => ?_) (fun c8_s => ?_)
            · replace t_s := t_s.1 c8_s
              refine w_t (pc := 17) (e_s := (0, 1, 0, 0, 0, .int 0, [])) (y_s := (18, [some (.long _), none, some (.long _), none, some (.long _), none], [.int _], _)) rfl (u_ rfl) ?_
              refine wrI (pc := 18) (len_s := 1) rfl hk ?_
              show wF _ 153 (12, [some (.ref _), some (.long _), none], [.int _], _) _
              refine wrI (pc := 12) (len_s := 1) rfl hk ?_
              show wF _ 164 (52, [some (.ref _), some (.int _), some (.int _), some (.int _)], [.int _], _) _
              refine w_t (pc := 52) (e_s := (15, 3, 60, 1, 0, .null, [])) (y_s := (55, [some (.ref _), some (.int _), some (.int _), some (.int _)], [], _)) rfl (u_ rfl) ?_
              refine w_t (pc := 55) (e_s := (0, 2, 0, 0, 0, .int (-2000000000), [(0, 1081)])) (y_s := (57, [some (.ref _), some (.int _), some (.int _), some (.int _)], [.int _], _)) rfl (u_ rfl) ?_
              refine w_t (pc := 57) (e_s := (17, 3, 92, 0, 0, .null, [])) (y_s := (92, [some (.ref _), some (.int _), some (.int _), some (.int _)], [.int _], _)) rfl (u_ rfl) ?_
              exact wrI (pc := 92) (len_s := 1) rfl hk t_s
            · replace t_s := t_s.2 c8_s
              refine w_t (pc := 13) (e_s := (0, 1, 0, 0, 0, .int 1, [])) (y_s := (14, [some (.long _), none, some (.long _), none, some (.long _), none], [.int _], _)) rfl (u_ rfl) ?_
              refine w_t (pc := 14) (e_s := (17, 3, 18, 0, 0, .null, [])) (y_s := (18, [some (.long _), none, some (.long _), none, some (.long _), none], [.int _], _)) rfl (u_ rfl) ?_
              refine wrI (pc := 18) (len_s := 1) rfl hk ?_
              show wF _ 153 (12, [some (.ref _), some (.long _), none], [.int _], _) _
              refine wrI (pc := 12) (len_s := 1) rfl hk ?_
              show wF _ 164 (52, [some (.ref _), some (.int _), some (.int _), some (.int _)], [.int _], _) _
              refine w_t (pc := 52) (e_s := (15, 3, 60, 1, 0, .null, [])) (y_s := (60, [some (.ref _), some (.int _), some (.int _), some (.int _)], [], _)) rfl (u_ rfl) ?_
              refine w_t (pc := 60) (e_s := (1, 1, 2, 0, 0, .null, [])) (y_s := (61, [some (.ref _), some (.int _), some (.int _), some (.int _)], [.int _], _)) rfl (u_ rfl) ?_
              refine w_t (pc := 61) (e_s := (0, 2, 0, 0, 0, .int 12, [])) (y_s := (63, [some (.ref _), some (.int _), some (.int _), some (.int _)], [.int _, .int _], _)) rfl (u_ rfl) ?_
              refine wi1 (pc := 63) (len_s := 3) (Y := 12) rfl rfl (by decide) (fun c9_s => ?_) (fun c9_s => ?_)
              · replace t_s := t_s.1 c9_s
                refine w_t (pc := 66) (e_s := (3, 1, 0, 0, 0, .null, [])) (y_s := (67, [some (.ref _), some (.int _), some (.int _), some (.int _)], [.ref _], _)) rfl (u_ rfl) ?_
                refine w20r (pc := 67) (len_s := 3) (q_s := 107) rfl (krq hk rfl) ?_
                refine w_t (pc := 70) (e_s := (1, 1, 1, 0, 0, .null, [])) (y_s := (71, [some (.ref _), some (.int _), some (.int _), some (.int _)], [.int _, .ref _], _)) rfl (u_ rfl) ?_
                refine w22 (pc := 71) (len_s := 1) rfl (hk.1 107 0 12 rfl rfl) (fun c10_s => ?_)
                replace t_s := t_s c10_s
                refine w_t (pc := 72) (e_s := (17, 3, 92, 0, 0, .null, [])) (y_s := (92, [some (.ref _), some (.int _), some (.int _), some (.int _)], [.int _], _)) rfl (u_ rfl) ?_
                exact wrI (pc := 92) (len_s := 1) rfl hk t_s
              · replace t_s := t_s.2 c9_s
                refine w_t (pc := 75) (e_s := (1, 1, 2, 0, 0, .null, [])) (y_s := (76, [some (.ref _), some (.int _), some (.int _), some (.int _)], [.int _], _)) rfl (u_ rfl) ?_
                refine w_t (pc := 76) (e_s := (0, 2, 0, 0, 0, .int 13, [])) (y_s := (78, [some (.ref _), some (.int _), some (.int _), some (.int _)], [.int _, .int _], _)) rfl (u_ rfl) ?_
                refine wi1 (pc := 78) (len_s := 3) (Y := 13) rfl rfl (by decide) (fun c11_s => ?_) (fun c11_s => ?_)
                · replace t_s := t_s.1 c11_s
                  refine w_t (pc := 81) (e_s := (3, 1, 0, 0, 0, .null, [])) (y_s := (82, [some (.ref _), some (.int _), some (.int _), some (.int _)], [.ref _], _)) rfl (u_ rfl) ?_
                  refine w20r (pc := 82) (len_s := 3) (q_s := 108) rfl (krq hk rfl) ?_
                  refine w_t (pc := 85) (e_s := (1, 1, 1, 0, 0, .null, [])) (y_s := (86, [some (.ref _), some (.int _), some (.int _), some (.int _)], [.int _, .ref _], _)) rfl (u_ rfl) ?_
                  refine w22 (pc := 86) (len_s := 1) rfl (hk.1 108 0 12 rfl rfl) (fun c12_s => ?_)
                  replace t_s := t_s c12_s
                  refine w_t (pc := 87) (e_s := (17, 3, 92, 0, 0, .null, [])) (y_s := (92, [some (.ref _), some (.int _), some (.int _), some (.int _)], [.int _], _)) rfl (u_ rfl) ?_
                  exact wrI (pc := 92) (len_s := 1) rfl hk t_s
                · replace t_s := t_s.2 c11_s
                  refine w_t (pc := 90) (e_s := (0, 2, 0, 0, 0, .int (-2000000000), [(0, 1081)])) (y_s := (92, [some (.ref _), some (.int _), some (.int _), some (.int _)], [.int _], _)) rfl (u_ rfl) ?_
                  exact wrI (pc := 92) (len_s := 1) rfl hk t_s
        · replace t_s := t_s.2 c6_s
          refine w_t (pc := 13) (e_s := (0, 1, 0, 0, 0, .int 1, [])) (y_s := (14, [some (.long _), none, some (.long _), none, some (.long _), none], [.int _], _)) rfl (u_ rfl) ?_
          refine w_t (pc := 14) (e_s := (17, 3, 18, 0, 0, .null, [])) (y_s := (18, [some (.long _), none, some (.long _), none, some (.long _), none], [.int _], _)) rfl (u_ rfl) ?_
          refine wrI (pc := 18) (len_s := 1) rfl hk ?_
          show wF _ 152 (12, [some (.ref _), some (.long _), none], [.int _], _) _
          refine wrI (pc := 12) (len_s := 1) rfl hk ?_
          show wF _ 164 (30, [some (.ref _), some (.int _), some (.int _), some (.int _)], [.int _], _) _
          refine w_t (pc := 30) (e_s := (15, 3, 46, 0, 0, .null, [])) (y_s := (33, [some (.ref _), some (.int _), some (.int _), some (.int _)], [], _)) rfl (u_ rfl) ?_
          refine w_t (pc := 33) (e_s := (3, 1, 0, 0, 0, .null, [])) (y_s := (34, [some (.ref _), some (.int _), some (.int _), some (.int _)], [.ref _], _)) rfl (u_ rfl) ?_
          refine w20r (pc := 34) (len_s := 3) (q_s := 103) rfl (krq hk rfl) ?_
          refine w_t (pc := 37) (e_s := (0, 2, 0, 0, 0, .int 28, [])) (y_s := (39, [some (.ref _), some (.int _), some (.int _), some (.int _)], [.int _, .ref _], _)) rfl (u_ rfl) ?_
          refine w_t (pc := 39) (e_s := (1, 1, 1, 0, 0, .null, [])) (y_s := (40, [some (.ref _), some (.int _), some (.int _), some (.int _)], [.int _, .int _, .ref _], _)) rfl (u_ rfl) ?_
          refine w_t (pc := 40) (e_s := (7, 1, 0, 0, 0, .null, [])) (y_s := (41, [some (.ref _), some (.int _), some (.int _), some (.int _)], [.int (_ + _), .ref _], _)) rfl (u_ rfl) ?_
          refine w22 (pc := 41) (len_s := 1) rfl (hk.1 103 0 104 rfl rfl) (fun c13_s => ?_)
          replace t_s := t_s c13_s
          refine wcI (pc := 42) (len_s := 3) rfl rfl (l := [some (.int _)]) rfl ?_
          refine w_t (pc := 0) (e_s := (0, 2, 0, 0, 0, .int 9, [])) (y_s := (2, [some (.int _)], [.int _], _)) rfl (u_ rfl) ?_
          refine w_t (pc := 2) (e_s := (1, 1, 0, 0, 0, .null, [])) (y_s := (3, [some (.int _)], [.int _, .int _], _)) rfl (u_ rfl) ?_
          refine w_t (pc := 3) (e_s := (0, 2, 0, 0, 0, .int 11, [])) (y_s := (5, [some (.int _)], [.int _, .int _, .int _], _)) rfl (u_ rfl) ?_
          refine w8 (pc := 5) (len_s := 1) rfl ?_
          refine w_t (pc := 6) (e_s := (7, 1, 0, 1, 0, .null, [])) (y_s := (7, [some (.int _)], [.int (_ - _)], _)) rfl (u_ rfl) ?_
          refine wrI (pc := 7) (len_s := 1) rfl hk ?_
          show wF _ 164 (45, [some (.ref _), some (.int _), some (.int _), some (.int _)], [.int _], _) _
          exact wrI (pc := 45) (len_s := 1) rfl hk t_s
    · replace t_s := t_s.2 c3_s
      refine w_t (pc := 46) (e_s := (3, 1, 0, 0, 0, .null, [])) (y_s := (47, [some (.ref _), some (.int _), some (.int _), some (.int _)], [.ref _], _)) rfl (u_ rfl) ?_
      refine w_t (pc := 47) (e_s := (1, 1, 1, 0, 0, .null, [])) (y_s := (48, [some (.ref _), some (.int _), some (.int _), some (.int _)], [.int _, .ref _], _)) rfl (u_ rfl) ?_
      refine w_t (pc := 48) (e_s := (10, 1, 0, 0, 0, .null, [])) (y_s := (49, [some (.ref _), some (.int _), some (.int _), some (.int _)], [.long (Int32.toInt64 _), .ref _], _)) rfl (u_ rfl) ?_
      refine wcI (pc := 49) (len_s := 3) rfl rfl (l := [some (.ref _), some (.long _), none]) rfl ?_
      refine w_t (pc := 0) (e_s := (2, 1, 1, 0, 0, .null, [])) (y_s := (1, [some (.ref _), some (.long _), none], [.long _], _)) rfl (u_ rfl) ?_
      refine w_t (pc := 1) (e_s := (0, 1, 0, 0, 0, .long 0, [])) (y_s := (2, [some (.ref _), some (.long _), none], [.long _, .long _], _)) rfl (u_ rfl) ?_
      refine w_t (pc := 2) (e_s := (3, 1, 0, 0, 0, .null, [])) (y_s := (3, [some (.ref _), some (.long _), none], [.ref _, .long _, .long _], _)) rfl (u_ rfl) ?_
      refine w20 (pc := 3) (len_s := 3) rfl ?_
      refine w_t (pc := 6) (e_s := (0, 1, 0, 0, 0, .int 1, [])) (y_s := (7, [some (.ref _), some (.long _), none], [.int _, .int _, .long _, .long _], _)) rfl (u_ rfl) ?_
      refine w_t (pc := 7) (e_s := (7, 1, 0, 1, 0, .null, [])) (y_s := (8, [some (.ref _), some (.long _), none], [.int (_ - _), .long _, .long _], _)) rfl (u_ rfl) ?_
      refine w_t (pc := 8) (e_s := (10, 1, 0, 0, 0, .null, [])) (y_s := (9, [some (.ref _), some (.long _), none], [.long (Int32.toInt64 _), .long _, .long _], _)) rfl (u_ rfl) ?_
      refine wcI (pc := 9) (len_s := 3) rfl rfl (l := [some (.long _), none, some (.long _), none, some (.long _), none]) rfl ?_
      refine w_t (pc := 0) (e_s := (2, 1, 0, 0, 0, .null, [])) (y_s := (1, [some (.long _), none, some (.long _), none, some (.long _), none], [.long _], _)) rfl (u_ rfl) ?_
      refine w_t (pc := 1) (e_s := (2, 1, 2, 0, 0, .null, [])) (y_s := (2, [some (.long _), none, some (.long _), none, some (.long _), none], [.long _, .long _], _)) rfl (u_ rfl) ?_
      refine w_t (pc := 2) (e_s := (14, 1, 0, 0, 0, .null, [])) (y_s := (3, [some (.long _), none, some (.long _), none, some (.long _), none], [.int (lg_cmp _ _)], _)) rfl (u_ rfl) ?_
      refine wl2 (pc := 3) (len_s := 3) (Y := 0) rfl (Int32.toInt_toInt64 _) (by decide) (fun c14_s => ?_) (fun c14_s => ?_)
      · replace t_s := t_s.1 c14_s
        refine w_t (pc := 17) (e_s := (0, 1, 0, 0, 0, .int 0, [])) (y_s := (18, [some (.long _), none, some (.long _), none, some (.long _), none], [.int _], _)) rfl (u_ rfl) ?_
        refine wrI (pc := 18) (len_s := 1) rfl hk ?_
        show wF _ 153 (12, [some (.ref _), some (.long _), none], [.int _], _) _
        refine wrI (pc := 12) (len_s := 1) rfl hk ?_
        show wF _ 164 (52, [some (.ref _), some (.int _), some (.int _), some (.int _)], [.int _], _) _
        refine w_t (pc := 52) (e_s := (15, 3, 60, 1, 0, .null, [])) (y_s := (55, [some (.ref _), some (.int _), some (.int _), some (.int _)], [], _)) rfl (u_ rfl) ?_
        refine w_t (pc := 55) (e_s := (0, 2, 0, 0, 0, .int (-2000000000), [(0, 1081)])) (y_s := (57, [some (.ref _), some (.int _), some (.int _), some (.int _)], [.int _], _)) rfl (u_ rfl) ?_
        refine w_t (pc := 57) (e_s := (17, 3, 92, 0, 0, .null, [])) (y_s := (92, [some (.ref _), some (.int _), some (.int _), some (.int _)], [.int _], _)) rfl (u_ rfl) ?_
        exact wrI (pc := 92) (len_s := 1) rfl hk t_s
      · replace t_s := t_s.2 c14_s
        refine w_t (pc := 6) (e_s := (2, 1, 0, 0, 0, .null, [])) (y_s := (7, [some (.long _), none, some (.long _), none, some (.long _), none], [.long _], _)) rfl (u_ rfl) ?_
        refine w_t (pc := 7) (e_s := (2, 2, 4, 0, 0, .null, [])) (y_s := (9, [some (.long _), none, some (.long _), none, some (.long _), none], [.long _, .long _], _)) rfl (u_ rfl) ?_
        refine w_t (pc := 9) (e_s := (14, 1, 0, 0, 0, .null, [])) (y_s := (10, [some (.long _), none, some (.long _), none, some (.long _), none], [.int (lg_cmp _ _)], _)) rfl (u_ rfl) ?_
        refine wl4 (pc := 10) (len_s := 3) rfl (Int32.toInt_toInt64 _) (Int32.toInt_toInt64 _) (fun c15_s => ?_) (fun c15_s => ?_)
        · replace t_s := t_s.1 c15_s
          refine w_t (pc := 17) (e_s := (0, 1, 0, 0, 0, .int 0, [])) (y_s := (18, [some (.long _), none, some (.long _), none, some (.long _), none], [.int _], _)) rfl (u_ rfl) ?_
          refine wrI (pc := 18) (len_s := 1) rfl hk ?_
          show wF _ 153 (12, [some (.ref _), some (.long _), none], [.int _], _) _
          refine wrI (pc := 12) (len_s := 1) rfl hk ?_
          show wF _ 164 (52, [some (.ref _), some (.int _), some (.int _), some (.int _)], [.int _], _) _
          refine w_t (pc := 52) (e_s := (15, 3, 60, 1, 0, .null, [])) (y_s := (55, [some (.ref _), some (.int _), some (.int _), some (.int _)], [], _)) rfl (u_ rfl) ?_
          refine w_t (pc := 55) (e_s := (0, 2, 0, 0, 0, .int (-2000000000), [(0, 1081)])) (y_s := (57, [some (.ref _), some (.int _), some (.int _), some (.int _)], [.int _], _)) rfl (u_ rfl) ?_
          refine w_t (pc := 57) (e_s := (17, 3, 92, 0, 0, .null, [])) (y_s := (92, [some (.ref _), some (.int _), some (.int _), some (.int _)], [.int _], _)) rfl (u_ rfl) ?_
          exact wrI (pc := 92) (len_s := 1) rfl hk t_s
        · replace t_s := t_s.2 c15_s
          refine w_t (pc := 13) (e_s := (0, 1, 0, 0, 0, .int 1, [])) (y_s := (14, [some (.long _), none, some (.long _), none, some (.long _), none], [.int _], _)) rfl (u_ rfl) ?_
          refine w_t (pc := 14) (e_s := (17, 3, 18, 0, 0, .null, [])) (y_s := (18, [some (.long _), none, some (.long _), none, some (.long _), none], [.int _], _)) rfl (u_ rfl) ?_
          refine wrI (pc := 18) (len_s := 1) rfl hk ?_
          show wF _ 153 (12, [some (.ref _), some (.long _), none], [.int _], _) _
          refine wrI (pc := 12) (len_s := 1) rfl hk ?_
          show wF _ 164 (52, [some (.ref _), some (.int _), some (.int _), some (.int _)], [.int _], _) _
          refine w_t (pc := 52) (e_s := (15, 3, 60, 1, 0, .null, [])) (y_s := (60, [some (.ref _), some (.int _), some (.int _), some (.int _)], [], _)) rfl (u_ rfl) ?_
          refine w_t (pc := 60) (e_s := (1, 1, 2, 0, 0, .null, [])) (y_s := (61, [some (.ref _), some (.int _), some (.int _), some (.int _)], [.int _], _)) rfl (u_ rfl) ?_
          refine w_t (pc := 61) (e_s := (0, 2, 0, 0, 0, .int 12, [])) (y_s := (63, [some (.ref _), some (.int _), some (.int _), some (.int _)], [.int _, .int _], _)) rfl (u_ rfl) ?_
          refine wi1 (pc := 63) (len_s := 3) (Y := 12) rfl rfl (by decide) (fun c16 => ?_) (fun c16 => ?_)
          · replace t_s := t_s.1 c16
            refine w_t (pc := 66) (e_s := (3, 1, 0, 0, 0, .null, [])) (y_s := (67, [some (.ref _), some (.int _), some (.int _), some (.int _)], [.ref _], _)) rfl (u_ rfl) ?_
            refine w20r (pc := 67) (len_s := 3) (q_s := 107) rfl (krq hk rfl) ?_
            refine w_t (pc := 70) (e_s := (1, 1, 1, 0, 0, .null, [])) (y_s := (71, [some (.ref _), some (.int _), some (.int _), some (.int _)], [.int _, .ref _], _)) rfl (u_ rfl) ?_
            refine w22 (pc := 71) (len_s := 1) rfl (hk.1 107 0 12 rfl rfl) (fun c17 => ?_)
            replace t_s := t_s c17
            refine w_t (pc := 72) (e_s := (17, 3, 92, 0, 0, .null, [])) (y_s := (92, [some (.ref _), some (.int _), some (.int _), some (.int _)], [.int _], _)) rfl (u_ rfl) ?_
            exact wrI (pc := 92) (len_s := 1) rfl hk t_s
          · replace t_s := t_s.2 c16
            refine w_t (pc := 75) (e_s := (1, 1, 2, 0, 0, .null, [])) (y_s := (76, [some (.ref _), some (.int _), some (.int _), some (.int _)], [.int _], _)) rfl (u_ rfl) ?_
            refine w_t (pc := 76) (e_s := (0, 2, 0, 0, 0, .int 13, [])) (y_s := (78, [some (.ref _), some (.int _), some (.int _), some (.int _)], [.int _, .int _], _)) rfl (u_ rfl) ?_
            refine wi1 (pc := 78) (len_s := 3) (Y := 13) rfl rfl (by decide) (fun c18_s => ?_) (fun c18_s => ?_)
            · replace t_s := t_s.1 c18_s
              refine w_t (pc := 81) (e_s := (3, 1, 0, 0, 0, .null, [])) (y_s := (82, [some (.ref _), some (.int _), some (.int _), some (.int _)], [.ref _], _)) rfl (u_ rfl) ?_
              refine w20r (pc := 82) (len_s := 3) (q_s := 108) rfl (krq hk rfl) ?_
              refine w_t (pc := 85) (e_s := (1, 1, 1, 0, 0, .null, [])) (y_s := (86, [some (.ref _), some (.int _), some (.int _), some (.int _)], [.int _, .ref _], _)) rfl (u_ rfl) ?_
              refine w22 (pc := 86) (len_s := 1) rfl (hk.1 108 0 12 rfl rfl) (fun c19_s => ?_)
              replace t_s := t_s c19_s
              refine w_t (pc := 87) (e_s := (17, 3, 92, 0, 0, .null, [])) (y_s := (92, [some (.ref _), some (.int _), some (.int _), some (.int _)], [.int _], _)) rfl (u_ rfl) ?_
              exact wrI (pc := 92) (len_s := 1) rfl hk t_s
            · replace t_s := t_s.2 c18_s
              refine w_t (pc := 90) (e_s := (0, 2, 0, 0, 0, .int (-2000000000), [(0, 1081)])) (y_s := (92, [some (.ref _), some (.int _), some (.int _), some (.int _)], [.int _], _)) rfl (u_ rfl) ?_
              exact wrI (pc := 92) (len_s := 1) rfl hk t_s
  · replace t_s := t_s.2 c2_s
    refine w_t (pc := 11) (e_s := (3, 1, 0, 0, 0, .null, [])) (y_s := (12, [some (.ref _), some (.int _), some (.int _), some (.int _)], [.ref _], _)) rfl (u_ rfl) ?_
    refine w20r (pc := 12) (len_s := 3) (q_s := 103) rfl (krq hk rfl) ?_
    refine w_t (pc := 15) (e_s := (1, 1, 3, 0, 0, .null, [])) (y_s := (16, [some (.ref _), some (.int _), some (.int _), some (.int _)], [.int _, .ref _], _)) rfl (u_ rfl) ?_
    refine w22 (pc := 16) (len_s := 1) rfl (hk.1 103 0 104 rfl rfl) (fun c20_s => ?_)
    replace t_s := t_s c20_s
    exact wrI (pc := 17) (len_s := 1) rfl hk t_s
/-- ColdShodModel.undo()I, from 0 on -/
theorem sg_149_0 {F_s : Nat}  {h_s : zH} {K_s : Int32 → zH → Prop} (hk : hKn h_s) (t_s : ((h_s.2.1 102 5).toInt = 0 → K_s (-5) h_s) ∧ (¬ (h_s.2.1 102 5).toInt = 0 → (zix ((h_s.2.1 102 5) - 1) < 40 → (zix (h_s.2.1 104 (zix ((h_s.2.1 102 5) - 1))) < 104 → K_s ((h_s.2.1 102 5) - 1) (h_s.1, zup (zup h_s.2.1 102 5 ((h_s.2.1 102 5) - 1)) 103 (zix (h_s.2.1 104 (zix ((h_s.2.1 102 5) - 1)))) (h_s.2.1 105 (zix ((h_s.2.1 102 5) - 1))), h_s.2.2.1, h_s.2.2.2))))) : wF (F_s + 1) 149 (0, [some (.ref 102)], [], h_s) (gI K_s) := by
  refine w_0 (pc := 0) (e_s := (3, 1, 0, 0, 0, .null, [])) (y_s := (1, [some (.ref _)], [.ref _], _)) rfl (u_ rfl) ?_
  refine w20 (pc := 1) (len_s := 3) rfl ?_
  refine wq1 (pc := 4) (len_s := 3) rfl rfl (fun c1_s => ?_) (fun c1_s => ?_)
  · replace t_s := t_s.1 c1_s
    refine w_t (pc := 7) (e_s := (0, 2, 0, 0, 0, .int (-5), [])) (y_s := (9, [some (.ref _)], [.int _], _)) rfl (u_ rfl) ?_
    exact wrI (pc := 9) (len_s := 1) rfl hk t_s
  · replace t_s := t_s.2 c1_s
    refine w_t (pc := 10) (e_s := (3, 1, 0, 0, 0, .null, [])) (y_s := (11, [some (.ref _)], [.ref _], _)) rfl (u_ rfl) ?_
    refine w_t (pc := 11) (e_s := (39, 1, 0, 0, 0, .null, [])) (y_s := (12, [some (.ref _)], [.ref _, .ref _], _)) rfl (u_ rfl) ?_
    refine w20 (pc := 12) (len_s := 3) rfl ?_
    refine w_t (pc := 15) (e_s := (0, 1, 0, 0, 0, .int 1, [])) (y_s := (16, [some (.ref _)], [.int _, .int _, .ref _], _)) rfl (u_ rfl) ?_
    refine w_t (pc := 16) (e_s := (7, 1, 0, 1, 0, .null, [])) (y_s := (17, [some (.ref _)], [.int (_ - _), .ref _], _)) rfl (u_ rfl) ?_
    refine w21 (pc := 17) (len_s := 3) rfl ?_
    refine w_t (pc := 20) (e_s := (3, 1, 0, 0, 0, .null, [])) (y_s := (21, [some (.ref _)], [.ref _], _)) rfl (u_ rfl) ?_
    refine w20r (pc := 21) (len_s := 3) (q_s := 103) rfl (krq hk rfl) ?_
    refine w_t (pc := 24) (e_s := (3, 1, 0, 0, 0, .null, [])) (y_s := (25, [some (.ref _)], [.ref _, .ref _], _)) rfl (u_ rfl) ?_
    refine w20r (pc := 25) (len_s := 3) (q_s := 104) rfl (krq hk rfl) ?_
    refine w_t (pc := 28) (e_s := (3, 1, 0, 0, 0, .null, [])) (y_s := (29, [some (.ref _)], [.ref _, .ref _, .ref _], _)) rfl (u_ rfl) ?_
    refine w20 (pc := 29) (len_s := 3) rfl ?_
    refine w22 (pc := 32) (len_s := 1) rfl (hk.1 104 0 40 rfl rfl) (fun c2_s => ?_)
    replace t_s := t_s c2_s
    refine w_t (pc := 33) (e_s := (3, 1, 0, 0, 0, .null, [])) (y_s := (34, [some (.ref _)], [.ref _, .int _, .ref _], _)) rfl (u_ rfl) ?_
    refine w20r (pc := 34) (len_s := 3) (q_s := 105) rfl (krq hk rfl) ?_
    refine w_t (pc := 37) (e_s := (3, 1, 0, 0, 0, .null, [])) (y_s := (38, [some (.ref _)], [.ref _, .ref _, .int _, .ref _], _)) rfl (u_ rfl) ?_
    refine w20 (pc := 38) (len_s := 3) rfl ?_
    refine w22 (pc := 41) (len_s := 1) rfl (hk.1 105 0 40 rfl rfl) (fun c3_s => ?_)
    refine w25 (pc := 42) (len_s := 1) rfl (hk.1 103 0 104 rfl rfl) (fun c4_s => ?_)
    replace t_s := t_s c4_s
    refine w_t (pc := 43) (e_s := (3, 1, 0, 0, 0, .null, [])) (y_s := (44, [some (.ref _)], [.ref _], _)) rfl (u_ rfl) ?_
    refine w20 (pc := 44) (len_s := 3) rfl ?_
    exact wrI (pc := 47) (len_s := 1) rfl hk t_s
/-- ColdShodModel.redo()I, from 0 on -/
theorem sg_150_0 {F_s : Nat}  {h_s : zH} {K_s : Int32 → zH → Prop} (hk : hKn h_s) (t_s : ((h_s.2.1 102 5).toInt = (h_s.2.1 102 4).toInt → K_s (-5) h_s) ∧ (¬ (h_s.2.1 102 5).toInt = (h_s.2.1 102 4).toInt → (zix (h_s.2.1 102 5) < 40 → (zix (h_s.2.1 104 (zix (h_s.2.1 102 5))) < 104 → K_s ((h_s.2.1 102 4) - ((h_s.2.1 102 5) + 1)) (h_s.1, zup (zup h_s.2.1 103 (zix (h_s.2.1 104 (zix (h_s.2.1 102 5)))) (h_s.2.1 106 (zix (h_s.2.1 102 5)))) 102 5 ((h_s.2.1 102 5) + 1), h_s.2.2.1, h_s.2.2.2))))) : wF (F_s + 1) 150 (0, [some (.ref 102)], [], h_s) (gI K_s) := by
  refine w_0 (pc := 0) (e_s := (3, 1, 0, 0, 0, .null, [])) (y_s := (1, [some (.ref _)], [.ref _], _)) rfl (u_ rfl) ?_
  refine w20 (pc := 1) (len_s := 3) rfl ?_
  refine w_t (pc := 4) (e_s := (3, 1, 0, 0, 0, .null, [])) (y_s := (5, [some (.ref _)], [.ref _, .int _], _)) rfl (u_ rfl) ?_
  refine w20 (pc := 5) (len_s := 3) rfl ?_
  refine wi1 (pc := 8) (len_s := 3) rfl rfl rfl (fun c1_s => ?_) (fun c1_s => ?_)
  · replace t_s := t_s.1 c1_s
    refine w_t (pc := 11) (e_s := (0, 2, 0, 0, 0, .int (-5), [])) (y_s := (13, [some (.ref _)], [.int _], _)) rfl (u_ rfl) ?_
    exact wrI (pc := 13) (len_s := 1) rfl hk t_s
  · replace t_s := t_s.2 c1_s
    refine w_t (pc := 14) (e_s := (3, 1, 0, 0, 0, .null, [])) (y_s := (15, [some (.ref _)], [.ref _], _)) rfl (u_ rfl) ?_
    refine w20r (pc := 15) (len_s := 3) (q_s := 103) rfl (krq hk rfl) ?_
    refine w_t (pc := 18) (e_s := (3, 1, 0, 0, 0, .null, [])) (y_s := (19, [some (.ref _)], [.ref _, .ref _], _)) rfl (u_ rfl) ?_
    refine w20r (pc := 19) (len_s := 3) (q_s := 104) rfl (krq hk rfl) ?_
    refine w_t (pc := 22) (e_s := (3, 1, 0, 0, 0, .null, [])) (y_s := (23, [some (.ref _)], [.ref _, .ref _, .ref _], _)) rfl (u_ rfl) ?_
    refine w20 (pc := 23) (len_s := 3) rfl ?_
    refine w22 (pc := 26) (len_s := 1) rfl (hk.1 104 0 40 rfl rfl) (fun c2_s => ?_)
    replace t_s := t_s c2_s
    refine w_t (pc := 27) (e_s := (3, 1, 0, 0, 0, .null, [])) (y_s := (28, [some (.ref _)], [.ref _, .int _, .ref _], _)) rfl (u_ rfl) ?_
    refine w20r (pc := 28) (len_s := 3) (q_s := 106) rfl (krq hk rfl) ?_
    refine w_t (pc := 31) (e_s := (3, 1, 0, 0, 0, .null, [])) (y_s := (32, [some (.ref _)], [.ref _, .ref _, .int _, .ref _], _)) rfl (u_ rfl) ?_
    refine w20 (pc := 32) (len_s := 3) rfl ?_
    refine w22 (pc := 35) (len_s := 1) rfl (hk.1 106 0 40 rfl rfl) (fun c3_s => ?_)
    refine w25 (pc := 36) (len_s := 1) rfl (hk.1 103 0 104 rfl rfl) (fun c4_s => ?_)
    replace t_s := t_s c4_s
    refine w_t (pc := 37) (e_s := (3, 1, 0, 0, 0, .null, [])) (y_s := (38, [some (.ref _)], [.ref _], _)) rfl (u_ rfl) ?_
    refine w_t (pc := 38) (e_s := (39, 1, 0, 0, 0, .null, [])) (y_s := (39, [some (.ref _)], [.ref _, .ref _], _)) rfl (u_ rfl) ?_
    refine w20 (pc := 39) (len_s := 3) rfl ?_
    refine w_t (pc := 42) (e_s := (0, 1, 0, 0, 0, .int 1, [])) (y_s := (43, [some (.ref _)], [.int _, .int _, .ref _], _)) rfl (u_ rfl) ?_
    refine w_t (pc := 43) (e_s := (7, 1, 0, 0, 0, .null, [])) (y_s := (44, [some (.ref _)], [.int (_ + _), .ref _], _)) rfl (u_ rfl) ?_
    refine w21 (pc := 44) (len_s := 3) rfl ?_
    refine w_t (pc := 47) (e_s := (3, 1, 0, 0, 0, .null, [])) (y_s := (48, [some (.ref _)], [.ref _], _)) rfl (u_ rfl) ?_
    refine w20 (pc := 48) (len_s := 3) rfl ?_
    refine w_t (pc := 51) (e_s := (3, 1, 0, 0, 0, .null, [])) (y_s := (52, [some (.ref _)], [.ref _, .int _], _)) rfl (u_ rfl) ?_
    refine w20 (pc := 52) (len_s := 3) rfl ?_
    refine w_t (pc := 55) (e_s := (7, 1, 0, 1, 0, .null, [])) (y_s := (56, [some (.ref _)], [.int (_ - _)], _)) rfl (u_ rfl) ?_
    exact wrI (pc := 56) (len_s := 1) rfl hk t_s
/-! NUMBERS that are told, undone, done again: what is there, what it may become. -/
noncomputable def isT (nh ni nr : Nat) (n_s w_s : Int) : Prop := ((0 ≤ w_s ∧ w_s ≤ 1) ∧ 0 ≤ n_s ∧ n_s < (nh : Int)) ∨ (((2 ≤ w_s ∧ w_s ≤ 8) ∨ w_s = 14) ∧ 0 ≤ n_s ∧ n_s < (ni : Int)) ∨ ((9 ≤ w_s ∧ w_s ≤ 13) ∧ 0 ≤ n_s ∧ n_s < (nr : Int))
noncomputable def isV (nh ni nr : Nat) (n_s w_s : Int) : Prop := ((0 ≤ w_s ∧ w_s ≤ 1) ∧ 0 ≤ n_s ∧ n_s < (nh : Int)) ∨ ((2 ≤ w_s ∧ w_s ≤ 8) ∧ 0 ≤ n_s ∧ n_s < (ni : Int)) ∨ ((9 ≤ w_s ∧ w_s ≤ 11) ∧ 0 ≤ n_s ∧ n_s < (nr : Int))
noncomputable def vCI (nh : Nat) (w_s v_s : Int) : Prop := ((w_s = 0 ∨ w_s = 3) ∧ 0 ≤ v_s ∧ v_s ≤ 5) ∨ (w_s = 1 ∧ 0 ≤ v_s ∧ v_s ≤ 12) ∨ (w_s = 2 ∧ 0 ≤ v_s ∧ v_s ≤ 3) ∨ (w_s = 4 ∧ 0 ≤ v_s ∧ v_s ≤ 99) ∨ ((w_s = 5 ∨ w_s = 7 ∨ w_s = 10) ∧ 0 ≤ v_s ∧ v_s ≤ 9) ∨ (w_s = 6 ∧ 0 ≤ v_s ∧ v_s ≤ 1) ∨ (w_s = 8 ∧ -1 ≤ v_s ∧ v_s < (nh : Int)) ∨ (w_s = 9 ∧ 1 ≤ v_s ∧ v_s ≤ 9) ∨ (w_s = 11 ∧ 0 ≤ v_s ∧ v_s ≤ 2)
noncomputable def valC (f_s : Nat → Nat → Int32) (n_s w_s : Nat) : Int32 := if w_s < 12 then f_s (cO n_s w_s) (cF n_s w_s) else if w_s = 12 then f_s (28 + n_s) 0 else if w_s = 13 then f_s (28 + n_s) 1 else 9 - f_s (20 + n_s) 2 / 11
theorem isV_N {nh ni nr : Nat} {n_s w_s : Int} (h_s : isV nh ni nr n_s w_s) : ∃ n1_s w1_s : Nat, n_s = (n1_s : Int) ∧ w_s = (w1_s : Int) ∧ w1_s < 12 ∧ okN nh ni nr n1_s w1_s := by
  unfold isV at h_s
  refine ⟨n_s.toNat, w_s.toNat, by omega, by omega, by omega, ?_⟩
  unfold okN
  by_cases a_s : w_s.toNat < 2
  · rw [if_pos a_s]
    omega
  · rw [if_neg a_s]
    by_cases b_s : w_s.toNat < 9
    · rw [if_pos b_s]
      omega
    · rw [if_neg b_s]
      omega
theorem isV_T {nh ni nr : Nat} {n_s w_s : Int} : isV nh ni nr n_s w_s ↔ isT nh ni nr n_s w_s ∧ w_s ≤ 11 := by
  unfold isV isT
  omega
theorem vCI_B {nh nr n_s w_s : Nat} {v_s : Int} (h_s : vCI nh (w_s : Int) v_s) : vB nh nr n_s w_s v_s := by
  unfold vCI at h_s
  have hw : w_s = 0 ∨ w_s = 1 ∨ w_s = 2 ∨ w_s = 3 ∨ w_s = 4 ∨ w_s = 5 ∨ w_s = 6 ∨ w_s = 7 ∨ w_s = 8 ∨ w_s = 9 ∨ w_s = 10 ∨ w_s = 11 := by omega
  rcases hw with e_s | e_s | e_s | e_s | e_s | e_s | e_s | e_s | e_s | e_s | e_s | e_s
  · subst e_s
    exact ⟨by omega, show v_s ≤ 5 by omega, fun e9_s => absurd e9_s (by omega)⟩
  · subst e_s
    exact ⟨by omega, show v_s ≤ 12 by omega, fun e9_s => absurd e9_s (by omega)⟩
  · subst e_s
    exact ⟨by omega, show v_s ≤ 3 by omega, fun e9_s => absurd e9_s (by omega)⟩
  · subst e_s
    exact ⟨by omega, show v_s ≤ 5 by omega, fun e9_s => absurd e9_s (by omega)⟩
  · subst e_s
    exact ⟨by omega, show v_s ≤ 99 by omega, fun e9_s => absurd e9_s (by omega)⟩
  · subst e_s
    exact ⟨by omega, show v_s ≤ 9 by omega, fun e9_s => absurd e9_s (by omega)⟩
  · subst e_s
    exact ⟨by omega, show v_s ≤ 1 by omega, fun e9_s => absurd e9_s (by omega)⟩
  · subst e_s
    exact ⟨by omega, show v_s ≤ 9 by omega, fun e9_s => absurd e9_s (by omega)⟩
  · subst e_s
    exact ⟨by omega, by omega⟩
  · subst e_s
    exact ⟨by omega, show v_s ≤ 9 by omega, fun _ _ => by omega⟩
  · subst e_s
    exact ⟨by omega, show v_s ≤ 9 by omega, fun e9_s => absurd e9_s (by omega)⟩
  · subst e_s
    exact ⟨by omega, show v_s ≤ 2 by omega, fun e9_s => absurd e9_s (by omega)⟩
section M6_s
variable {F_s : Nat} {h_s : zH} {K_s : Int32 → zH → Prop} {V : zH → Prop} {nh ni nr n_s w_s : Nat} {x1_s x2_s x3 : Int32} {f_s : Nat → Nat → Int32}
theorem sp_18 (hk : hKn h_s) (c6_s : (f_s 7 6).toInt = (nh : Int)) (c7_s : (f_s 7 7).toInt = (ni : Int)) (c8_s : (f_s 7 8).toInt = (nr : Int)) (t1_s : isT nh ni nr x1_s.toInt x2_s.toInt → K_s 1 (h_s.1, f_s, h_s.2.2.1, h_s.2.2.2)) (t0_s : ¬ isT nh ni nr x1_s.toInt x2_s.toInt → K_s 0 (h_s.1, f_s, h_s.2.2.1, h_s.2.2.2)) : wF F_s 18 (0, [some (.ref 7), some (.int x1_s), some (.int x2_s)], [], (h_s.1, f_s, h_s.2.2.1, h_s.2.2.2)) (gI K_s) := by
  refine wF_le (Nat.le_succ F_s) (sg_18_0 (h_s := (h_s.1, f_s, h_s.2.2.1, h_s.2.2.2)) hk ?_)
  dsimp only
  rw [c6_s, c7_s, c8_s]
  unfold isT at t0_s t1_s
  refine ⟨fun c1_s => ?_, fun c1_s => ⟨fun c2_s => ?_, fun c2_s => ⟨fun c3_s => ⟨fun c4_s => ⟨fun c5_s => ⟨fun c6_s => ?_, fun c6_s => ⟨fun c7_s => ?_, fun c7_s => ?_⟩⟩, fun c5_s => ⟨fun c8_s => ?_, fun c8_s => ⟨fun c9_s => ?_, fun c9_s => ?_⟩⟩⟩, fun c4_s => ⟨fun c10_s => ?_, fun c10_s => ⟨fun c11_s => ?_, fun c11_s => ?_⟩⟩⟩, fun c3_s => ⟨fun c12_s => ?_, fun c12_s => ⟨fun c13_s => ?_, fun c13_s => ?_⟩⟩⟩⟩⟩
  all_goals first | exact t0_s (by omega) | exact t1_s (by omega)
theorem sp_19 (hk : hKn h_s) (c6' : (f_s 7 6).toInt = (nh : Int)) (hz : tZ f_s) (t1_s : vCI nh x1_s.toInt x2_s.toInt → K_s 1 (h_s.1, f_s, h_s.2.2.1, h_s.2.2.2)) (t0_s : ¬ vCI nh x1_s.toInt x2_s.toInt → K_s 0 (h_s.1, f_s, h_s.2.2.1, h_s.2.2.2)) : wF F_s 19 (0, [some (.ref 7), some (.int x1_s), some (.int x2_s), none], [], (h_s.1, f_s, h_s.2.2.1, h_s.2.2.2)) (gI K_s) := by
  refine wF_le (Nat.le_succ F_s) (sg_19_0 (h_s := (h_s.1, f_s, h_s.2.2.1, h_s.2.2.2)) hk ?_)
  dsimp only
  rw [sb1 c6']
  by_cases b_s : 0 ≤ x1_s.toInt ∧ x1_s.toInt ≤ 11
  · have z_s := azix (i := x1_s) b_s.1
    have hz1 := hz.1 (zix x1_s) (by omega)
    rw [hz1.1, hz1.2]
    generalize zix x1_s = w_s at z_s
    have tb_s : ∀ lo_s hi_s : Int, lsW w_s = lo_s → msW w_s = hi_s → (w_s ≠ 8 → (vCI nh x1_s.toInt x2_s.toInt ↔ lo_s ≤ x2_s.toInt ∧ x2_s.toInt ≤ hi_s)) ∧ (w_s = 8 → (vCI nh x1_s.toInt x2_s.toInt ↔ lo_s ≤ x2_s.toInt ∧ x2_s.toInt < (nh : Int))) := by
      intro lo_s hi_s hl hh
      subst hl
      subst hh
      rw [← z_s]
      unfold vCI
      have hw : w_s = 0 ∨ w_s = 1 ∨ w_s = 2 ∨ w_s = 3 ∨ w_s = 4 ∨ w_s = 5 ∨ w_s = 6 ∨ w_s = 7 ∨ w_s = 8 ∨ w_s = 9 ∨ w_s = 10 ∨ w_s = 11 := by omega
      rcases hw with e_s | e_s | e_s | e_s | e_s | e_s | e_s | e_s | e_s | e_s | e_s | e_s <;> (subst e_s; refine ⟨fun e8 => ?_, fun e8 => ?_⟩ <;> first | (exact absurd e8 (by decide)) | (exact absurd rfl e8) | (show _ ↔ (0 : Int) ≤ x2_s.toInt ∧ x2_s.toInt ≤ 5; omega) | (show _ ↔ (0 : Int) ≤ x2_s.toInt ∧ x2_s.toInt ≤ 12; omega) | (show _ ↔ (0 : Int) ≤ x2_s.toInt ∧ x2_s.toInt ≤ 3; omega) | (show _ ↔ (0 : Int) ≤ x2_s.toInt ∧ x2_s.toInt ≤ 99; omega) | (show _ ↔ (0 : Int) ≤ x2_s.toInt ∧ x2_s.toInt ≤ 9; omega) | (show _ ↔ (0 : Int) ≤ x2_s.toInt ∧ x2_s.toInt ≤ 1; omega) | (show _ ↔ (1 : Int) ≤ x2_s.toInt ∧ x2_s.toInt ≤ 9; omega) | (show _ ↔ (0 : Int) ≤ x2_s.toInt ∧ x2_s.toInt ≤ 2; omega) | (show _ ↔ (-1 : Int) ≤ x2_s.toInt ∧ x2_s.toInt < (nh : Int); omega))
    obtain ⟨tn_s, t8⟩ := tb_s _ _ rfl rfl
    generalize lsW w_s = lo_s at tn_s t8
    generalize msW w_s = hi_s at tn_s t8
    refine ⟨fun c_s => absurd c_s (by omega), fun _ => ⟨fun c_s => absurd c_s (by omega), fun _ => ⟨fun c3_s _ => ?_, fun c3_s _ => ?_⟩⟩⟩
    · have t8 := t8 (by omega)
      refine ⟨fun c_s => t0_s (fun q_s => ?_), fun c1_s => ⟨fun c_s => t0_s (fun q_s => ?_), fun c2_s => t1_s (t8.mpr (by omega))⟩⟩
      · have := t8.mp q_s
        omega
      · have := t8.mp q_s
        omega
    · have tn_s := tn_s (by omega)
      refine ⟨fun c_s => t0_s (fun q_s => ?_), fun c1_s => ⟨fun c_s => t0_s (fun q_s => ?_), fun c2_s => t1_s (tn_s.mpr (by omega))⟩⟩
      · have := tn_s.mp q_s
        omega
      · have := tn_s.mp q_s
        omega
  · have no_s : ¬ vCI nh x1_s.toInt x2_s.toInt := fun q_s => by
      unfold vCI at q_s
      omega
    exact ⟨fun _ => t0_s no_s, fun c1_s => ⟨fun _ => t0_s no_s, fun c2_s => absurd (show 0 ≤ x1_s.toInt ∧ x1_s.toInt ≤ 11 by omega) b_s⟩⟩
theorem sp_20 (hk : hKn h_s) (c6_s : (f_s 7 6).toInt = (nh : Int)) (c7_s : (f_s 7 7).toInt = (ni : Int)) (c8_s : (f_s 7 8).toInt = (nr : Int)) (t0_s : ¬ isT nh ni nr x1_s.toInt x2_s.toInt → K_s (-2000000000) (h_s.1, f_s, h_s.2.2.1, h_s.2.2.2)) (t1_s : isT nh ni nr x1_s.toInt x2_s.toInt → ∀ n_s w_s : Nat, x1_s.toInt = (n_s : Int) → x2_s.toInt = (w_s : Int) → K_s (valC f_s n_s w_s) (h_s.1, f_s, h_s.2.2.1, h_s.2.2.2)) : wF F_s 20 (0, [some (.ref 7), some (.int x1_s), some (.int x2_s)], [], (h_s.1, f_s, h_s.2.2.1, h_s.2.2.2)) (gI K_s) := by
  refine wF_le (Nat.le_succ F_s) (sg_20_0 (h_s := (h_s.1, f_s, h_s.2.2.1, h_s.2.2.2)) hk ?_)
  refine sp_18 hk c6_s c7_s c8_s (fun q_s _ => ⟨fun c_s => absurd c_s (by decide), fun _ => ?_⟩) (fun q_s _ => ⟨fun _ => t0_s q_s, fun c_s => absurd rfl c_s⟩)
  have b_s : 0 ≤ x1_s.toInt ∧ 0 ≤ x2_s.toInt ∧ x2_s.toInt ≤ 14 := by
    unfold isT at q_s
    omega
  have z_s := azix (i := x1_s) b_s.1
  have t1_s := t1_s q_s (zix x1_s)
  generalize zix x1_s = n_s at z_s t1_s
  have go_s : ∀ w_s : Nat, x2_s.toInt = (w_s : Int) → K_s (valC f_s n_s w_s) (h_s.1, f_s, h_s.2.2.1, h_s.2.2.2) := fun w_s e_s => t1_s w_s z_s.symm e_s
  dsimp only
  exact ⟨fun c0_s => fun _ => go_s 0 c0_s, fun c0_s => ⟨fun c1_s => fun _ => go_s 1 c1_s, fun c1_s => ⟨fun c2_s => fun _ => go_s 2 c2_s, fun c2_s => ⟨fun c3_s => fun _ => go_s 3 c3_s, fun c3_s => ⟨fun c4_s => fun _ => go_s 4 c4_s, fun c4_s => ⟨fun c5_s => fun _ => go_s 5 c5_s, fun c5_s => ⟨fun c6_s => fun _ => go_s 6 c6_s, fun c6_s => ⟨fun c7_s => fun _ => go_s 7 c7_s, fun c7_s => ⟨fun c8_s => fun _ => go_s 8 c8_s, fun c8_s => ⟨fun c9_s => fun _ => go_s 9 c9_s, fun c9_s => ⟨fun c10_s => fun _ => go_s 10 c10_s, fun c10_s => ⟨fun c11_s => fun _ => go_s 11 c11_s, fun c11_s => ⟨fun c12_s => fun _ => go_s 12 c12_s, fun c12_s => ⟨fun c13_s => fun _ => go_s 13 c13_s, fun c13_s => ⟨fun c14_s => fun _ => go_s 14 c14_s, fun c14_s => absurd b_s (by omega)⟩⟩⟩⟩⟩⟩⟩⟩⟩⟩⟩⟩⟩⟩⟩
theorem sp_21 (hk : hKn h_s) (c6_s : (f_s 7 6).toInt = (nh : Int)) (c7_s : (f_s 7 7).toInt = (ni : Int)) (c8_s : (f_s 7 8).toInt = (nr : Int)) (q_s : isV nh ni nr x1_s.toInt x2_s.toInt) (t_s : ∀ n_s w_s : Nat, x1_s.toInt = (n_s : Int) → x2_s.toInt = (w_s : Int) → V (h_s.1, zup f_s (cO n_s w_s) (cF n_s w_s) x3, h_s.2.2.1, h_s.2.2.2)) : wF F_s 21 (0, [some (.ref 7), some (.int x1_s), some (.int x2_s), some (.int x3)], [], (h_s.1, f_s, h_s.2.2.1, h_s.2.2.2)) (gV V) := by
  refine wF_le (Nat.le_succ F_s) (sg_21_0 (h_s := (h_s.1, f_s, h_s.2.2.1, h_s.2.2.2)) hk ?_)
  refine sp_18 hk c6_s c7_s c8_s (fun _ _ => ⟨fun c_s => absurd c_s (by decide), fun _ => ?_⟩) (fun p_s _ => absurd (isV_T.mp q_s).1 p_s)
  have b_s : 0 ≤ x1_s.toInt ∧ 0 ≤ x2_s.toInt ∧ x2_s.toInt ≤ 11 := by
    unfold isV at q_s
    omega
  have z_s := azix (i := x1_s) b_s.1
  have t_s := t_s (zix x1_s)
  generalize zix x1_s = n_s at z_s t_s
  have go_s : ∀ w_s : Nat, x2_s.toInt = (w_s : Int) → V (h_s.1, zup f_s (cO n_s w_s) (cF n_s w_s) x3, h_s.2.2.1, h_s.2.2.2) := fun w_s e_s => t_s w_s z_s.symm e_s
  dsimp only
  exact ⟨fun c0_s => fun _ => go_s 0 c0_s, fun c0_s => ⟨fun c1_s => fun _ => go_s 1 c1_s, fun c1_s => ⟨fun c2_s => fun _ => go_s 2 c2_s, fun c2_s => ⟨fun c3_s => fun _ => go_s 3 c3_s, fun c3_s => ⟨fun c4_s => fun _ => go_s 4 c4_s, fun c4_s => ⟨fun c5_s => fun _ => go_s 5 c5_s, fun c5_s => ⟨fun c6_s => fun _ => go_s 6 c6_s, fun c6_s => ⟨fun c7_s => fun _ => go_s 7 c7_s, fun c7_s => ⟨fun c8_s => fun _ => go_s 8 c8_s, fun c8_s => ⟨fun c9_s => fun _ => go_s 9 c9_s, fun c9_s => ⟨fun c10_s => fun _ => go_s 10 c10_s, fun c10_s => ⟨fun c11_s => fun _ => go_s 11 c11_s, fun c11_s => absurd b_s (by omega)⟩⟩⟩⟩⟩⟩⟩⟩⟩⟩⟩⟩
theorem i68p {n_s w_s : Nat} (e1_s : x1_s.toInt = (n_s : Int)) (e2_s : x2_s.toInt = (w_s : Int)) (hw : 9 ≤ w_s ∧ w_s ≤ 11) (hn : n_s < 12) : (68 + 12 * (x2_s - 9) + x1_s).toInt = ((68 + 12 * (w_s - 9) + n_s : Nat) : Int) := by
  have a1_s : (x2_s - 9).toInt = (w_s : Int) - 9 := by rw [sub_i (by omega) (by decide), i9_, e2_s]
  have a2 : (12 * (x2_s - 9)).toInt = 12 * ((w_s : Int) - 9) := by rw [na_mul (by rw [i12_]; omega) (by rw [i12_]; omega), i12_, a1_s]
  have a3 : (68 + 12 * (x2_s - 9)).toInt = 68 + 12 * ((w_s : Int) - 9) := by rw [na_add (by rw [i68_]; omega) (by rw [i68_]; omega), i68_, a2]
  rw [na_add (by omega) (by omega), a3, e1_s]
  omega
theorem i12p {n_s w_s : Nat} (e1_s : x1_s.toInt = (n_s : Int)) (e2_s : x2_s.toInt = (w_s : Int)) (hw : 2 ≤ w_s ∧ w_s ≤ 8) (hn : n_s < 12) : (12 + 8 * (x2_s - 2) + x1_s).toInt = ((12 + 8 * (w_s - 2) + n_s : Nat) : Int) := by
  have a1_s : (x2_s - 2).toInt = (w_s : Int) - 2 := by rw [sub_i (by omega) (by decide), i2_, e2_s]
  have a2 : (8 * (x2_s - 2)).toInt = 8 * ((w_s : Int) - 2) := by rw [na_mul (by rw [i8_]; omega) (by rw [i8_]; omega), i8_, a1_s]
  have a3 : (12 + 8 * (x2_s - 2)).toInt = 12 + 8 * ((w_s : Int) - 2) := by rw [na_add (by rw [i12_]; omega) (by rw [i12_]; omega), i12_, a2]
  rw [na_add (by omega) (by omega), a3, e1_s]
  omega
theorem i6_ : (6 : Int32).toInt = 6 := rfl
theorem i6p {n_s w_s : Nat} (e1_s : x1_s.toInt = (n_s : Int)) (e2_s : x2_s.toInt = (w_s : Int)) (hw : w_s ≤ 1) (hn : n_s < 12) : (6 * x2_s + x1_s).toInt = ((6 * w_s + n_s : Nat) : Int) := by
  have a2 : (6 * x2_s).toInt = 6 * (w_s : Int) := by rw [na_mul (by rw [i6_]; omega) (by rw [i6_]; omega), i6_, e2_s]
  rw [na_add (by omega) (by omega), a2, e1_s]
  omega
/-- placeOf -/
theorem sp_161 (hk : hKn h_s) (b_s : nh ≤ 6 ∧ ni ≤ 8 ∧ nr ≤ 12) (c6_s : (f_s 102 6).toInt = (nh : Int)) (c7_s : (f_s 102 7).toInt = (ni : Int)) (c8_s : (f_s 102 8).toInt = (nr : Int)) (t0_s : ¬ isV nh ni nr x1_s.toInt x2_s.toInt → K_s (-1) (h_s.1, f_s, h_s.2.2.1, h_s.2.2.2)) (t1_s : isV nh ni nr x1_s.toInt x2_s.toInt → ∀ (n_s w_s : Nat) (v_s : Int32), x1_s.toInt = (n_s : Int) → x2_s.toInt = (w_s : Int) → v_s.toInt = (plc n_s w_s : Int) → K_s v_s (h_s.1, f_s, h_s.2.2.1, h_s.2.2.2)) : wF F_s 161 (0, [some (.ref 102), some (.int x1_s), some (.int x2_s)], [], (h_s.1, f_s, h_s.2.2.1, h_s.2.2.2)) (gI K_s) := by
  refine wF_le (Nat.le_succ F_s) (sg_161_0 (h_s := (h_s.1, f_s, h_s.2.2.1, h_s.2.2.2)) hk ?_)
  dsimp only
  rw [sb1 c6_s, sb1 c7_s, sb1 c8_s]
  have g68 : 0 ≤ x1_s.toInt → x1_s.toInt < (nr : Int) → 9 ≤ x2_s.toInt → x2_s.toInt ≤ 11 → K_s (68 + 12 * (x2_s - 9) + x1_s) (h_s.1, f_s, h_s.2.2.1, h_s.2.2.2) := fun q1_s q2_s q3_s q4_s => by
    have e1_s : x1_s.toInt = (x1_s.toInt.toNat : Int) := by omega
    have e2_s : x2_s.toInt = (x2_s.toInt.toNat : Int) := by omega
    refine t1_s (by unfold isV; omega) _ _ _ e1_s e2_s ?_
    rw [plc_r (by omega)]
    exact i68p e1_s e2_s (by omega) (by omega)
  have g12 : 0 ≤ x1_s.toInt → x1_s.toInt < (ni : Int) → 2 ≤ x2_s.toInt → x2_s.toInt ≤ 8 → K_s (12 + 8 * (x2_s - 2) + x1_s) (h_s.1, f_s, h_s.2.2.1, h_s.2.2.2) := fun q1_s q2_s q3_s q4_s => by
    have e1_s : x1_s.toInt = (x1_s.toInt.toNat : Int) := by omega
    have e2_s : x2_s.toInt = (x2_s.toInt.toNat : Int) := by omega
    refine t1_s (by unfold isV; omega) _ _ _ e1_s e2_s ?_
    rw [plc_i (by omega) (by omega)]
    exact i12p e1_s e2_s (by omega) (by omega)
  have g6 : 0 ≤ x1_s.toInt → x1_s.toInt < (nh : Int) → 0 ≤ x2_s.toInt → x2_s.toInt ≤ 1 → K_s (6 * x2_s + x1_s) (h_s.1, f_s, h_s.2.2.1, h_s.2.2.2) := fun q1_s q2_s q3_s q4_s => by
    have e1_s : x1_s.toInt = (x1_s.toInt.toNat : Int) := by omega
    have e2_s : x2_s.toInt = (x2_s.toInt.toNat : Int) := by omega
    refine t1_s (by unfold isV; omega) _ _ _ e1_s e2_s ?_
    rw [plc_h (by omega)]
    exact i6p e1_s e2_s (by omega) (by omega)
  unfold isV at t0_s
  refine ⟨fun c1_s => ⟨fun c2_s => ⟨fun c3_s => ?_, fun c3_s => ⟨fun c4_s => ?_, fun c4_s => ⟨fun c5_s => ?_, fun c5_s => ⟨fun c6_s => ?_, fun c6_s => ?_⟩⟩⟩⟩, fun c2_s => ⟨fun c7_s => ⟨fun c8_s => ?_, fun c8_s => ⟨fun c9_s => ?_, fun c9_s => ⟨fun c10_s => ?_, fun c10_s => ⟨fun c11_s => ?_, fun c11_s => ?_⟩⟩⟩⟩, fun c7_s => ⟨fun c12_s => ?_, fun c12_s => ⟨fun c13_s => ?_, fun c13_s => ?_⟩⟩⟩⟩, fun c1_s => ⟨fun c14_s => ⟨fun c15_s => ⟨fun c16 => ?_, fun c16 => ⟨fun c17 => ?_, fun c17 => ⟨fun c18_s => ?_, fun c18_s => ⟨fun c19_s => ?_, fun c19_s => ?_⟩⟩⟩⟩, fun c15_s => ⟨fun c20_s => ⟨fun c21 => ?_, fun c21 => ⟨fun c22 => ?_, fun c22 => ⟨fun c23_s => ?_, fun c23_s => ⟨fun c24_s => ?_, fun c24_s => ?_⟩⟩⟩⟩, fun c20_s => ⟨fun c25_s => ?_, fun c25_s => ⟨fun c26 => ?_, fun c26 => ?_⟩⟩⟩⟩, fun c14_s => ⟨fun c27_s => ?_, fun c27_s => ⟨fun c28_s => ?_, fun c28_s => ?_⟩⟩⟩⟩
  all_goals first | exact t0_s (by omega) | exact g68 (by omega) (by omega) (by omega) (by omega) | exact g12 (by omega) (by omega) (by omega) (by omega) | exact g6 (by omega) (by omega) (by omega) (by omega)
/-- mayBecome -/
theorem sp_162 (hk : hKn h_s) (c6_s : (f_s 102 6).toInt = (nh : Int)) (hx : 0 ≤ x1_s.toInt ∧ x1_s.toInt ≤ 11) (t1_s : vCI nh x1_s.toInt x2_s.toInt → K_s 1 (h_s.1, f_s, h_s.2.2.1, h_s.2.2.2)) (t0_s : ¬ vCI nh x1_s.toInt x2_s.toInt → K_s 0 (h_s.1, f_s, h_s.2.2.1, h_s.2.2.2)) : wF F_s 162 (0, [some (.ref 102), some (.int x1_s), some (.int x2_s)], [], (h_s.1, f_s, h_s.2.2.1, h_s.2.2.2)) (gI K_s) := by
  refine wF_le (Nat.le_succ F_s) (sg_162_0 (h_s := (h_s.1, f_s, h_s.2.2.1, h_s.2.2.2)) hk ?_)
  dsimp only
  rw [sb1 c6_s]
  unfold vCI at t0_s t1_s
  refine ⟨fun c1_s => ⟨fun c2_s => ?_, fun c2_s => ⟨fun c3_s => ?_, fun c3_s => ?_⟩⟩, fun c1_s => ⟨fun c4_s => ⟨fun c5_s => ?_, fun c5_s => ⟨fun c6_s => ?_, fun c6_s => ?_⟩⟩, fun c4_s => ⟨fun c7_s => ⟨fun c8_s => ?_, fun c8_s => ⟨fun c9_s => ?_, fun c9_s => ?_⟩⟩, fun c7_s => ⟨fun c10_s => ⟨fun c11_s => ?_, fun c11_s => ⟨fun c12_s => ?_, fun c12_s => ?_⟩⟩, fun c10_s => ⟨fun c13_s => ⟨fun c14_s => ?_, fun c14_s => ⟨fun c15_s => ?_, fun c15_s => ?_⟩⟩, fun c13_s => ⟨fun c16 => ⟨fun c17 => ?_, fun c17 => ⟨fun c18_s => ?_, fun c18_s => ?_⟩⟩, fun c16 => ⟨fun c19_s => ⟨fun c20_s => ?_, fun c20_s => ⟨fun c21 => ?_, fun c21 => ?_⟩⟩, fun c19_s => ⟨fun c22 => ⟨fun c23_s => ?_, fun c23_s => ⟨fun c24_s => ?_, fun c24_s => ?_⟩⟩, fun c22 => ⟨fun c25_s => ⟨fun c26 => ?_, fun c26 => ⟨fun c27_s => ?_, fun c27_s => ⟨fun c28_s => ?_, fun c28_s => ?_⟩⟩⟩, fun c25_s => ⟨fun c29_s => ⟨fun c30_s => ?_, fun c30_s => ⟨fun c31_s => ?_, fun c31_s => ?_⟩⟩, fun c29_s => ⟨fun c32_s => ⟨fun c33_s => ?_, fun c33_s => ⟨fun c34_s => ?_, fun c34_s => ?_⟩⟩, fun c32_s => ⟨fun c35_s => ⟨fun c36_s => ?_, fun c36_s => ⟨fun c37 => ?_, fun c37 => ?_⟩⟩, fun c35_s => ⟨fun c38 => ?_, fun c38 => ⟨fun c39_s => ?_, fun c39_s => ?_⟩⟩⟩⟩⟩⟩⟩⟩⟩⟩⟩⟩⟩⟩
  all_goals first | exact t0_s (by omega) | exact t1_s (by omega)
end M6_s
/-! NUMBERS told, UNDONE, DONE AGAIN: class and reference. -/
section N7
variable {F_s : Nat} {h_s : zH} {K_s : Int32 → zH → Prop} {V : zH → Prop} {nh ni nr : Nat} {x1_s x2_s x3 x4_s : Int32} {f_s : Nat → Nat → Int32}
theorem tC_set {f2_s : Nat → Nat → Int32} {n_s w_s : Nat} {v_s : Int32} (hc_s : tC nh ni nr f_s) (hw : w_s < 12) (ok_s : okN nh ni nr n_s w_s) (hB_s : vB nh nr n_s w_s v_s.toInt) (e1_s : f2_s (cO n_s w_s) (cF n_s w_s) = v_s) (e2_s : f2_s 103 (plc n_s w_s) = v_s) (hf : ∀ a_s k_s, inC a_s k_s → ¬ (a_s = cO n_s w_s ∧ k_s = cF n_s w_s) → ¬ (a_s = 103 ∧ k_s = plc n_s w_s) → f2_s a_s k_s = f_s a_s k_s) : tC nh ni nr f2_s := by
  obtain ⟨a0_s, ⟨a1_s, a2, a3⟩, ⟨a4, a5, a6⟩, a7, a8, a9⟩ := hc_s
  have pos_s : (8 ≤ cO n_s w_s ∧ cO n_s w_s < 40) ∧ plc n_s w_s < 104 ∧ (28 ≤ cO n_s w_s → 2 ≤ cF n_s w_s) ∧ (20 ≤ cO n_s w_s → cO n_s w_s < 28 → cO n_s w_s = 20 + n_s ∧ n_s < ni) := by
    unfold okN at ok_s
    by_cases w2_s : w_s < 2
    · rw [if_pos w2_s] at ok_s
      rw [cO_h w2_s, cF_h w2_s, plc_h w2_s]
      omega
    · rw [if_neg w2_s] at ok_s
      by_cases w9 : w_s < 9
      · rw [if_pos w9] at ok_s
        rw [cO_i (by omega) w9, cF_i (by omega) w9, plc_i (by omega) w9]
        omega
      · rw [if_neg w9] at ok_s
        rw [cO_r (by omega), cF_r (by omega), plc_r (by omega)]
        omega
  obtain ⟨q1_s, q2_s, q3_s, q4_s⟩ := pos_s
  have f7_s : ∀ a_s k_s, (a_s = 7 ∨ a_s = 102) ∧ 6 ≤ k_s ∧ k_s ≤ 8 → f2_s a_s k_s = f_s a_s k_s := fun a_s k_s q_s => hf a_s k_s (by unfold inC; omega) (by omega) (by omega)
  have inj : ∀ n1_s w1_s, w1_s < 12 → n1_s < cap w1_s → ¬ (n1_s = n_s ∧ w1_s = w_s) → ¬ (cO n1_s w1_s = cO n_s w_s ∧ cF n1_s w1_s = cF n_s w_s) ∧ ¬ plc n1_s w1_s = plc n_s w_s := by
    intro n1_s w1_s hw1 hn1 hne
    unfold okN at ok_s
    by_cases w2_s : w_s < 2
    · rw [if_pos w2_s] at ok_s
      rw [cO_h w2_s, cF_h w2_s, plc_h w2_s]
      by_cases v2 : w1_s < 2
      · rw [cap_h v2] at hn1
        rw [cO_h v2, cF_h v2, plc_h v2]
        omega
      · by_cases v9 : w1_s < 9
        · rw [cap_i (by omega) v9] at hn1
          rw [cO_i (by omega) v9, cF_i (by omega) v9, plc_i (by omega) v9]
          omega
        · rw [cap_r (by omega)] at hn1
          rw [cO_r (by omega), cF_r (by omega), plc_r (by omega)]
          omega
    · rw [if_neg w2_s] at ok_s
      by_cases w9 : w_s < 9
      · rw [if_pos w9] at ok_s
        rw [cO_i (by omega) w9, cF_i (by omega) w9, plc_i (by omega) w9]
        by_cases v2 : w1_s < 2
        · rw [cap_h v2] at hn1
          rw [cO_h v2, cF_h v2, plc_h v2]
          omega
        · by_cases v9 : w1_s < 9
          · rw [cap_i (by omega) v9] at hn1
            rw [cO_i (by omega) v9, cF_i (by omega) v9, plc_i (by omega) v9]
            omega
          · rw [cap_r (by omega)] at hn1
            rw [cO_r (by omega), cF_r (by omega), plc_r (by omega)]
            omega
      · rw [if_neg w9] at ok_s
        rw [cO_r (n_s := n_s) (w_s := w_s) (by omega), cF_r (n_s := n_s) (w_s := w_s) (by omega), plc_r (n_s := n_s) (w_s := w_s) (by omega)]
        by_cases v2 : w1_s < 2
        · rw [cap_h v2] at hn1
          rw [cO_h v2, cF_h v2, plc_h v2]
          omega
        · by_cases v9 : w1_s < 9
          · rw [cap_i (by omega) v9] at hn1
            rw [cO_i (by omega) v9, cF_i (by omega) v9, plc_i (by omega) v9]
            omega
          · rw [cap_r (by omega)] at hn1
            rw [cO_r (by omega), cF_r (by omega), plc_r (by omega)]
            omega
  refine ⟨a0_s, ⟨?_, ?_, ?_⟩, ⟨?_, ?_, ?_⟩, fun n1_s w1_s hw1 hn1 h8 => ?_, fun j_s j1 j2_s => ?_, fun r_s hr => ?_⟩
  · rw [f7_s 7 6 (by omega)]
    exact a1_s
  · rw [f7_s 7 7 (by omega)]
    exact a2
  · rw [f7_s 7 8 (by omega)]
    exact a3
  · rw [f7_s 102 6 (by omega)]
    exact a4
  · rw [f7_s 102 7 (by omega)]
    exact a5
  · rw [f7_s 102 8 (by omega)]
    exact a6
  · by_cases e_s : n1_s = n_s ∧ w1_s = w_s
    · obtain ⟨rfl, rfl⟩ := e_s
      rw [e1_s, e2_s]
      exact ⟨rfl, hB_s⟩
    · obtain ⟨i1_s, i2_s⟩ := inj n1_s w1_s hw1 hn1 e_s
      have lt_s := plc_lt hw1 hn1
      have c3_s : ¬ cO n1_s w1_s = 103 := by
        have ci := cell_in hw1 hn1
        intro c_s
        rw [c_s] at ci
        by_cases v2 : w1_s < 2
        · rw [cO_h v2] at c_s
          omega
        · by_cases v9 : w1_s < 9
          · rw [cap_i (by omega) v9] at hn1
            rw [cO_i (by omega) v9] at c_s
            omega
          · rw [cap_r (by omega)] at hn1
            rw [cO_r (by omega)] at c_s
            omega
      rw [hf _ _ (cell_in hw1 hn1) i1_s (fun c_s => c3_s c_s.1), hf 103 _ (by unfold inC; omega) (fun c_s => absurd c_s.1 (by omega)) (fun c_s => i2_s c_s.2)]
      exact a7 n1_s w1_s hw1 hn1 h8
  · rw [hf (20 + j_s) 6 (by unfold inC; omega) (fun c_s => by have := q4_s (by omega) (by omega); omega) (by omega)]
    exact a8 j_s j1 j2_s
  · have q_s := fun a_s k_s (qa : (a_s = 28 + r_s ∧ k_s < 2) ∨ ((a_s = 107 ∨ a_s = 108) ∧ k_s = r_s)) => hf a_s k_s (by unfold inC; omega) (by omega) (by omega)
    rw [q_s (28 + r_s) 0 (by omega), q_s (28 + r_s) 1 (by omega), q_s 107 r_s (by omega), q_s 108 r_s (by omega)]
    exact a9 r_s hr
/-- forgetFirst, note -/
theorem sp_10 (hk : hKn h_s) (t_s : ∀ f1_s, (f1_s 42 0).toInt = 39 → (∀ o k_s, 43 ≤ o → o ≤ 46 → k_s < 39 → f1_s o k_s = f_s o (k_s + 1)) → (∀ a_s k_s, ¬ (43 ≤ a_s ∧ a_s ≤ 46 ∧ k_s < 39) → ¬ (a_s = 42 ∧ k_s = 0) → f1_s a_s k_s = f_s a_s k_s) → V (h_s.1, f1_s, h_s.2.2.1, h_s.2.2.2)) : wF F_s 10 (0, [some (.ref 42)], [], (h_s.1, f_s, h_s.2.2.1, h_s.2.2.2)) (gV V) := by
  refine wF_le (Nat.le_succ F_s) (sg_10_0 (h_s := (h_s.1, f_s, h_s.2.2.1, h_s.2.2.2)) hk (fun _ _ _ _ => ?_))
  dsimp only
  refine t_s _ ?_ (fun o k_s h1 h2 h3 => ?_) (fun a_s k_s q1_s q2_s => ?_)
  · simp (disch := omega) only [zrw_n, zsame_up]
    rfl
  · have e_s : o = 43 ∨ o = 44 ∨ o = 45 ∨ o = 46 := by omega
    have e1_s : 1 + (k_s - 0) = k_s + 1 := by omega
    rcases e_s with e_s | e_s | e_s | e_s <;> (subst e_s; simp (disch := omega) only [zrw_s, zrw_n, zcp_i, zne_up, e1_s])
  · by_cases e_s : a_s = 43 ∨ a_s = 44 ∨ a_s = 45 ∨ a_s = 46
    · rcases e_s with e_s | e_s | e_s | e_s <;> (subst e_s; simp (disch := omega) only [zrw_s, zrw_n, zcp_o, zne_up])
    · simp (disch := omega) only [zrw_n, zne_up]
theorem sp_9 {u_s : Nat} (hk : hKn h_s) (hu : (f_s 42 0).toInt = (u_s : Int)) (hb_s : u_s ≤ 40) (t_s : ∀ f1_s u0 s_s, u0 + s_s = u_s → (s_s = 0 ∧ u_s < 40 ∨ s_s = 1 ∧ u_s = 40) → (∀ o k_s, 43 ≤ o → o ≤ 46 → k_s < u0 → f1_s o k_s = f_s o (k_s + s_s)) → f1_s 43 u0 = x1_s → f1_s 44 u0 = x2_s → f1_s 45 u0 = x3 → f1_s 46 u0 = x4_s → (f1_s 42 0).toInt = ((u0 + 1 : Nat) : Int) → (f1_s 42 1).toInt = 0 → (∀ a_s k_s, ¬ (43 ≤ a_s ∧ a_s ≤ 46 ∧ k_s < 40) → ¬ (a_s = 42 ∧ k_s < 2) → f1_s a_s k_s = f_s a_s k_s) → V (h_s.1, f1_s, h_s.2.2.1, h_s.2.2.2)) : wF F_s 9 (0, [some (.ref 42), some (.int x1_s), some (.int x2_s), some (.int x3), some (.int x4_s)], [], (h_s.1, f_s, h_s.2.2.1, h_s.2.2.2)) (gV V) := by
  refine wF_le (Nat.le_succ F_s) (sg_9_0 (h_s := (h_s.1, f_s, h_s.2.2.1, h_s.2.2.2)) hk ⟨fun (c1_s : (f_s 42 0).toInt < 40) => fun _ => ?_, fun (c1_s : ¬ (f_s 42 0).toInt < 40) => ?_⟩)
  · obtain ⟨p1_s, p2_s, _⟩ := ic1 hu (by omega)
    dsimp only
    rw [p2_s]
    refine t_s _ u_s 0 rfl (Or.inl ⟨rfl, by omega⟩) (fun o k_s h1 h2 h3 => ?_) ?_ ?_ ?_ ?_ ?_ ?_ (fun a_s k_s q1_s q2_s => ?_)
    · simp (disch := omega) only [zne_up]
      rfl
    · simp (disch := omega) only [zne_up, zsame_up]
    · simp (disch := omega) only [zne_up, zsame_up]
    · simp (disch := omega) only [zne_up, zsame_up]
    · simp (disch := omega) only [zne_up, zsame_up]
    · rw [zsame_up]
      exact p1_s
    · simp (disch := omega) only [zne_up, zsame_up]
      rfl
    · simp (disch := omega) only [zne_up]
  · have hu4 : u_s = 40 := by omega
    refine sp_10 (h_s := (h_s.1, zup f_s 42 1 0, h_s.2.2.1, h_s.2.2.2)) (f_s := zup f_s 42 1 0) hk (fun f1_s g1 g2 g3_s _ => fun _ => ?_)
    obtain ⟨p1_s, p2_s, _⟩ := ic1 (n_s := 39) g1 (by omega)
    have g2' : ∀ o k_s, 43 ≤ o → o ≤ 46 → k_s < 39 → f1_s o k_s = f_s o (k_s + 1) := fun o k_s h1 h2 h3 => by
      rw [g2 o k_s h1 h2 h3, zne_up (by omega)]
    have g3' : ∀ a_s k_s, ¬ (43 ≤ a_s ∧ a_s ≤ 46 ∧ k_s < 39) → ¬ (a_s = 42 ∧ k_s < 2) → f1_s a_s k_s = f_s a_s k_s := fun a_s k_s q1_s q2_s => by
      rw [g3_s a_s k_s q1_s (by omega), zne_up (by omega)]
    have g421 : f1_s 42 1 = 0 := by rw [g3_s 42 1 (by omega) (by omega), zsame_up]
    dsimp only
    rw [p2_s]
    refine t_s _ 39 1 (by omega) (Or.inr ⟨rfl, hu4⟩) (fun o k_s h1 h2 h3 => ?_) ?_ ?_ ?_ ?_ ?_ ?_ (fun a_s k_s q1_s q2_s => ?_)
    · simp (disch := omega) only [zne_up]
      exact g2' o k_s h1 h2 h3
    · simp (disch := omega) only [zne_up, zsame_up]
    · simp (disch := omega) only [zne_up, zsame_up]
    · simp (disch := omega) only [zne_up, zsame_up]
    · simp (disch := omega) only [zne_up, zsame_up]
    · rw [zsame_up]
      exact p1_s
    · simp (disch := omega) only [zne_up]
      rw [g421]
      rfl
    · simp (disch := omega) only [zne_up]
      exact g3' a_s k_s (by omega) q2_s
/-- mend, the class -/
theorem sp_98 {u_s : Nat} (hk : hKn h_s) (c6_s : (f_s 7 6).toInt = (nh : Int)) (c7_s : (f_s 7 7).toInt = (ni : Int)) (c8_s : (f_s 7 8).toInt = (nr : Int)) (b_s : nh ≤ 6 ∧ ni ≤ 8 ∧ nr ≤ 12) (hz : tZ f_s) (hu : (f_s 42 0).toInt = (u_s : Int)) (hb_s : u_s ≤ 40) (t0_s : ¬ (isV nh ni nr x1_s.toInt x2_s.toInt ∧ vCI nh x2_s.toInt x3.toInt) → K_s (-2000000000) (h_s.1, f_s, h_s.2.2.1, h_s.2.2.2)) (t1_s : isV nh ni nr x1_s.toInt x2_s.toInt → vCI nh x2_s.toInt x3.toInt → ∀ n_s w_s : Nat, x1_s.toInt = (n_s : Int) → x2_s.toInt = (w_s : Int) → f_s (cO n_s w_s) (cF n_s w_s) = x3 → K_s (f_s (cO n_s w_s) (cF n_s w_s)) (h_s.1, f_s, h_s.2.2.1, h_s.2.2.2)) (t2_s : isV nh ni nr x1_s.toInt x2_s.toInt → vCI nh x2_s.toInt x3.toInt → ∀ n_s w_s : Nat, x1_s.toInt = (n_s : Int) → x2_s.toInt = (w_s : Int) → ¬ f_s (cO n_s w_s) (cF n_s w_s) = x3 → ∀ f1_s u0 s_s, u0 + s_s = u_s → (s_s = 0 ∧ u_s < 40 ∨ s_s = 1 ∧ u_s = 40) → (∀ o k_s, 43 ≤ o → o ≤ 46 → k_s < u0 → f1_s o k_s = f_s o (k_s + s_s)) → f1_s 43 u0 = x1_s → f1_s 44 u0 = x2_s → f1_s 45 u0 = f_s (cO n_s w_s) (cF n_s w_s) → f1_s 46 u0 = x3 → (f1_s 42 0).toInt = ((u0 + 1 : Nat) : Int) → (f1_s 42 1).toInt = 0 → f1_s (cO n_s w_s) (cF n_s w_s) = x3 → (∀ a_s k_s, ¬ (43 ≤ a_s ∧ a_s ≤ 46 ∧ k_s < 40) → ¬ (a_s = 42 ∧ k_s < 2) → ¬ (a_s = cO n_s w_s ∧ k_s = cF n_s w_s) → f1_s a_s k_s = f_s a_s k_s) → K_s (f_s (cO n_s w_s) (cF n_s w_s)) (h_s.1, f1_s, h_s.2.2.1, h_s.2.2.2)) : wF F_s 98 (0, [some (.ref 6), some (.int x1_s), some (.int x2_s), some (.int x3), none], [], (h_s.1, f_s, h_s.2.2.1, h_s.2.2.2)) (gI K_s) := by
  refine wF_le (Nat.le_succ F_s) (sg_98_0 (h_s := (h_s.1, f_s, h_s.2.2.1, h_s.2.2.2)) hk ?_)
  refine sp_18 hk c6_s c7_s c8_s (fun q_s _ => ⟨fun c_s => absurd c_s (by decide), fun _ => ?_⟩) (fun q_s _ => ⟨fun _ => t0_s (fun p_s => q_s (isV_T.mp p_s.1).1), fun c_s => absurd rfl c_s⟩)
  refine sp_19 hk c6_s hz (fun q2_s _ => ⟨fun c_s => absurd c_s (by decide), fun _ => ?_⟩) (fun q2_s _ => ⟨fun _ => t0_s (fun p_s => q2_s p_s.2), fun c_s => absurd rfl c_s⟩)
  have w11_s : x2_s.toInt ≤ 11 := by
    unfold vCI at q2_s
    omega
  have qv : isV nh ni nr x1_s.toInt x2_s.toInt := isV_T.mpr ⟨q_s, w11_s⟩
  refine sp_20 hk c6_s c7_s c8_s (fun p_s => absurd q_s p_s) (fun _ n_s w_s e1_s e2_s _ => ?_)
  have hw : w_s < 12 := by omega
  have ev_s : valC f_s n_s w_s = f_s (cO n_s w_s) (cF n_s w_s) := by
    unfold valC
    rw [if_pos hw]
  rw [ev_s]
  have cc : (cO n_s w_s = 8 ∨ cO n_s w_s = 9 ∨ 20 ≤ cO n_s w_s) ∧ cO n_s w_s < 40 := by
    unfold isV at qv
    by_cases w2_s : w_s < 2
    · rw [cO_h w2_s]
      omega
    · by_cases w9 : w_s < 9
      · rw [cO_i (by omega) w9]
        omega
      · rw [cO_r (by omega)]
        omega
  refine ⟨fun c_s => t1_s qv q2_s n_s w_s e1_s e2_s (Int32.toInt_inj.mp c_s), fun c_s => ?_⟩
  refine sp_21 hk c6_s c7_s c8_s qv (fun n1_s w1_s d1_s d2_s _ => ?_)
  have en : n1_s = n_s := by omega
  have ew : w1_s = w_s := by omega
  subst en
  subst ew
  refine sp_9 (h_s := (h_s.1, zup f_s (cO n1_s w1_s) (cF n1_s w1_s) x3, h_s.2.2.1, h_s.2.2.2)) (f_s := zup f_s (cO n1_s w1_s) (cF n1_s w1_s) x3) (u_s := u_s) hk (by rw [zne_up (by omega)]; exact hu) hb_s (fun f1_s u0 s_s g1 g2 g3_s g4 g5_s g6 g7 g8 g9 g10 _ => ?_)
  refine t2_s qv q2_s n1_s w1_s e1_s e2_s (fun w_s => c_s (by rw [w_s])) f1_s u0 s_s g1 g2 (fun o k_s h1 h2 h3 => ?_) g4 g5_s g6 g7 g8 g9 ?_ (fun a_s k_s p1_s p2_s p3_s => ?_)
  · rw [g3_s o k_s h1 h2 h3, zne_up (by omega)]
  · rw [g10 _ _ (by omega) (by omega), zsame_up]
  · rw [g10 a_s k_s p1_s p2_s, zne_up p3_s]
/-- becomes -/
theorem bc148 {p_s : Nat} {f0_s : Nat → Nat → Int32} (hk : hKn h_s) (hx : x1_s.toInt = (p_s : Int)) (hp : p_s < 104) (hu : (f0_s 102 5).toInt = 40) (t_s : ∀ f1_s, (∀ o k_s, 104 ≤ o → o ≤ 106 → k_s < 39 → f1_s o k_s = f0_s o (k_s + 1)) → f1_s 104 39 = x1_s → f1_s 105 39 = x3 → f1_s 106 39 = x2_s → (f1_s 102 5).toInt = 40 → (f1_s 102 4).toInt = 40 → f1_s 103 p_s = x2_s → (∀ a_s k_s, ¬ (104 ≤ a_s ∧ a_s ≤ 106 ∧ k_s < 40) → ¬ (a_s = 102 ∧ (k_s = 4 ∨ k_s = 5)) → ¬ (a_s = 103 ∧ k_s = p_s) → f1_s a_s k_s = f0_s a_s k_s) → K_s x3 (h_s.1, f1_s, h_s.2.2.1, h_s.2.2.2)) : ∀ (F_s j_s : Nat) (x4_s : Int32) (f_s : Nat → Nat → Int32), x4_s.toInt = ((j_s + 1 : Nat) : Int) → j_s ≤ 39 → (∀ o k_s, 104 ≤ o → o ≤ 106 → k_s < j_s → f_s o k_s = f0_s o (k_s + 1)) → (∀ a_s k_s, ¬ (104 ≤ a_s ∧ a_s ≤ 106 ∧ k_s < j_s) → f_s a_s k_s = f0_s a_s k_s) → wF F_s 148 (26, [some (.ref 102), some (.int x1_s), some (.int x2_s), some (.int x3), some (.int x4_s)], [], (h_s.1, f_s, h_s.2.2.1, h_s.2.2.2)) (gI K_s)
  | 0, _, _, _, _, _, _, _ => wF_zero
  | F_s + 1, j_s, x4_s, f_s, h4, hj, hf, hg => by
    have z_s := azix (i := x4_s) (by omega)
    have ez : zix x4_s = j_s + 1 := by omega
    have e4_s : (x4_s - 1).toInt = (j_s : Int) := by rw [sub_i (by omega) (by decide), n1_]; omega
    have z1 := azix (i := x4_s - 1) (by omega)
    have ez1 : zix (x4_s - 1) = j_s := by omega
    have e5_s : (f_s 102 5).toInt = 40 := by rw [hg 102 5 (by omega)]; exact hu
    have e51 : (f_s 102 5 - 1).toInt = 39 := by rw [sub_i (by omega) (by decide), n1_]; omega
    have z5 := azix (i := f_s 102 5 - 1) (by omega)
    have ez5 : zix (f_s 102 5 - 1) = 39 := by omega
    have zp := azix (i := x1_s) (by omega)
    have ezp : zix x1_s = p_s := by omega
    have e52 : (f_s 102 5 - 1 + 1).toInt = 40 := by rw [in1_ (by omega)]; omega
    refine sg_148_26 (h_s := (h_s.1, f_s, h_s.2.2.1, h_s.2.2.2)) hk ?_
    dsimp only
    rw [ez, ez1, ez5, ezp]
    refine ⟨fun c1_s _ _ => ?_, fun c1_s _ _ => ?_⟩
    · refine bc148 (f0_s := f0_s) hk hx hp hu t_s F_s (j_s + 1) (x4_s + 1) _ (by rw [in1_ (by omega)]; omega) (by omega) (fun o k_s h1 h2 h3 => ?_) (fun a_s k_s q_s => ?_)
      · by_cases e_s : k_s = j_s
        · subst e_s
          have eo : o = 104 ∨ o = 105 ∨ o = 106 := by omega
          rcases eo with eo | eo | eo <;> (subst eo; simp (disch := omega) only [zne_up, zsame_up]; exact hg _ _ (by omega))
        · simp (disch := omega) only [zne_up]
          exact hf o k_s h1 h2 (by omega)
      · simp (disch := omega) only [zne_up]
        exact hg a_s k_s (by omega)
    · have ej : j_s = 39 := by omega
      subst ej
      refine t_s _ (fun o k_s h1 h2 h3 => ?_) ?_ ?_ ?_ ?_ ?_ ?_ (fun a_s k_s q1_s q2_s q3_s => ?_)
      · simp (disch := omega) only [zne_up]
        exact hf o k_s h1 h2 h3
      · simp (disch := omega) only [zne_up, zsame_up]
      · simp (disch := omega) only [zne_up, zsame_up]
      · simp (disch := omega) only [zne_up, zsame_up]
      · simp (disch := omega) only [zne_up, zsame_up]
        exact e52
      · simp (disch := omega) only [zne_up, zsame_up]
        exact e52
      · rw [zsame_up]
      · simp (disch := omega) only [zne_up]
        exact hg a_s k_s (by omega)
theorem sp_148 {p_s u_s : Nat} (hk : hKn h_s) (hx : x1_s.toInt = (p_s : Int)) (hp : p_s < 104) (hu : (f_s 102 5).toInt = (u_s : Int)) (hb_s : u_s ≤ 40) (t1_s : f_s 103 p_s = x2_s → K_s (f_s 103 p_s) (h_s.1, f_s, h_s.2.2.1, h_s.2.2.2)) (t2_s : ¬ f_s 103 p_s = x2_s → ∀ f1_s u0 s_s, u0 + s_s = u_s → (s_s = 0 ∧ u_s < 40 ∨ s_s = 1 ∧ u_s = 40) → (∀ o k_s, 104 ≤ o → o ≤ 106 → k_s < u0 → f1_s o k_s = f_s o (k_s + s_s)) → f1_s 104 u0 = x1_s → f1_s 105 u0 = f_s 103 p_s → f1_s 106 u0 = x2_s → (f1_s 102 5).toInt = ((u0 + 1 : Nat) : Int) → (f1_s 102 4).toInt = ((u0 + 1 : Nat) : Int) → f1_s 103 p_s = x2_s → (∀ a_s k_s, ¬ (104 ≤ a_s ∧ a_s ≤ 106 ∧ k_s < 40) → ¬ (a_s = 102 ∧ (k_s = 4 ∨ k_s = 5)) → ¬ (a_s = 103 ∧ k_s = p_s) → f1_s a_s k_s = f_s a_s k_s) → K_s (f_s 103 p_s) (h_s.1, f1_s, h_s.2.2.1, h_s.2.2.2)) : wF F_s 148 (0, [some (.ref 102), some (.int x1_s), some (.int x2_s), none, none], [], (h_s.1, f_s, h_s.2.2.1, h_s.2.2.2)) (gI K_s) := by
  have zp := azix (i := x1_s) (by omega)
  have ezp : zix x1_s = p_s := by omega
  obtain ⟨p1_s, p2_s, _⟩ := ic1 hu (by omega)
  refine wF_le (Nat.le_succ F_s) (sg_148_0 (h_s := (h_s.1, f_s, h_s.2.2.1, h_s.2.2.2)) hk ?_)
  dsimp only
  rw [ezp, p2_s, hu]
  refine fun _ => ⟨fun c_s => t1_s (Int32.toInt_inj.mp c_s), fun c_s => ⟨fun c3_s => ?_, fun c3_s _ => ?_⟩⟩
  · refine bc148 (f0_s := f_s) hk hx hp (by omega) (fun f1_s g1 g2 g3_s g4 g5_s g6 g7 g8 => ?_) F_s 0 1 f_s rfl (by omega) (fun o k_s _ _ hq => absurd hq (Nat.not_lt_zero k_s)) (fun _ _ _ => rfl)
    exact t2_s (fun w_s => c_s (by rw [w_s])) f1_s 39 1 (by omega) (Or.inr ⟨rfl, by omega⟩) g1 g2 g3_s g4 g5_s g6 g7 g8
  · refine t2_s (fun w_s => c_s (by rw [w_s])) _ u_s 0 rfl (Or.inl ⟨rfl, by omega⟩) (fun o k_s h1 h2 h3 => ?_) ?_ ?_ ?_ ?_ ?_ ?_ (fun a_s k_s q1_s q2_s q3_s => ?_)
    · simp (disch := omega) only [zne_up]
      rfl
    · simp (disch := omega) only [zne_up, zsame_up]
    · simp (disch := omega) only [zne_up, zsame_up]
    · simp (disch := omega) only [zne_up, zsame_up]
    · simp (disch := omega) only [zne_up, zsame_up]
      exact p1_s
    · simp (disch := omega) only [zne_up, zsame_up]
      exact p1_s
    · rw [zsame_up]
    · simp (disch := omega) only [zne_up]
theorem sp_163 {u_s : Nat} (hk : hKn h_s) (hc_s : tM nh ni nr f_s) (hu : (f_s 102 5).toInt = (u_s : Int)) (hb_s : u_s ≤ 40) (t0_s : ¬ (isV nh ni nr x1_s.toInt x2_s.toInt ∧ vCI nh x2_s.toInt x3.toInt) → K_s (-2000000000) (h_s.1, f_s, h_s.2.2.1, h_s.2.2.2)) (t1_s : isV nh ni nr x1_s.toInt x2_s.toInt → vCI nh x2_s.toInt x3.toInt → ∀ n_s w_s : Nat, x1_s.toInt = (n_s : Int) → x2_s.toInt = (w_s : Int) → f_s 103 (plc n_s w_s) = x3 → K_s (f_s 103 (plc n_s w_s)) (h_s.1, f_s, h_s.2.2.1, h_s.2.2.2)) (t2_s : isV nh ni nr x1_s.toInt x2_s.toInt → vCI nh x2_s.toInt x3.toInt → ∀ n_s w_s : Nat, x1_s.toInt = (n_s : Int) → x2_s.toInt = (w_s : Int) → ¬ f_s 103 (plc n_s w_s) = x3 → ∀ f1_s u0 s_s, u0 + s_s = u_s → (s_s = 0 ∧ u_s < 40 ∨ s_s = 1 ∧ u_s = 40) → (∀ o k_s, 104 ≤ o → o ≤ 106 → k_s < u0 → f1_s o k_s = f_s o (k_s + s_s)) → (f1_s 104 u0).toInt = (plc n_s w_s : Int) → f1_s 105 u0 = f_s 103 (plc n_s w_s) → f1_s 106 u0 = x3 → (f1_s 102 5).toInt = ((u0 + 1 : Nat) : Int) → (f1_s 102 4).toInt = ((u0 + 1 : Nat) : Int) → f1_s 103 (plc n_s w_s) = x3 → (∀ a_s k_s, ¬ (104 ≤ a_s ∧ a_s ≤ 106 ∧ k_s < 40) → ¬ (a_s = 102 ∧ (k_s = 4 ∨ k_s = 5)) → ¬ (a_s = 103 ∧ k_s = plc n_s w_s) → f1_s a_s k_s = f_s a_s k_s) → K_s (f_s 103 (plc n_s w_s)) (h_s.1, f1_s, h_s.2.2.1, h_s.2.2.2)) : wF F_s 163 (0, [some (.ref 102), some (.int x1_s), some (.int x2_s), some (.int x3), none], [], (h_s.1, f_s, h_s.2.2.1, h_s.2.2.2)) (gI K_s) := by
  refine wF_le (Nat.le_succ F_s) (sg_163_0 (h_s := (h_s.1, f_s, h_s.2.2.1, h_s.2.2.2)) hk ?_)
  refine sp_161 hk hc_s.1 hc_s.2.1.1 hc_s.2.1.2.1 hc_s.2.1.2.2 (fun q_s _ => ⟨fun _ => t0_s (fun p_s => q_s p_s.1), fun c_s => absurd (show (-1 : Int32).toInt < 0 by decide) c_s⟩) (fun q_s n_s w_s v_s e1_s e2_s e3_s _ => ⟨fun c_s => absurd c_s (by omega), fun _ => ?_⟩)
  obtain ⟨n1_s, w1_s, d1_s, d2_s, hw1, ok_s⟩ := isV_N q_s
  have en : n1_s = n_s := by omega
  have ew : w1_s = w_s := by omega
  subst en
  subst ew
  have hcap : n1_s < cap w1_s := by
    have b_s := hc_s.1
    unfold okN at ok_s
    unfold cap
    by_cases w2_s : w1_s < 2
    · rw [if_pos w2_s] at ok_s ⊢
      omega
    · rw [if_neg w2_s] at ok_s ⊢
      by_cases w9 : w1_s < 9
      · rw [if_pos w9] at ok_s ⊢
        omega
      · rw [if_neg w9] at ok_s ⊢
        omega
  have lt_s := plc_lt hw1 hcap
  refine sp_162 hk hc_s.2.1.1 (by omega) (fun q2_s _ => ⟨fun c_s => absurd c_s (by decide), fun _ => ?_⟩) (fun q2_s _ => ⟨fun _ => t0_s (fun p_s => q2_s p_s.2), fun c_s => absurd rfl c_s⟩)
  exact sp_148 hk e3_s lt_s hu hb_s (fun c_s _ => t1_s q_s q2_s n1_s w1_s e1_s e2_s c_s) (fun c_s f1_s u0 s_s g1 g2 g3_s g4 g5_s g6 g7 g8 g9 g10 _ => t2_s q_s q2_s n1_s w1_s e1_s e2_s c_s f1_s u0 s_s g1 g2 g3_s (by rw [g4]; exact e3_s) g5_s g6 g7 g8 g9 g10)
theorem pr_mend (hk : hKn h_s) (hx : tX h_s) : wF F_s 98 (0, [some (.ref 6), some (.int x1_s), some (.int x2_s), some (.int x3), none], [], h_s) (gI (fun v_s h1 => wF F_s 163 (0, [some (.ref 102), some (.int x1_s), some (.int x2_s), some (.int x3), none], [], h1) (gI (fun v2 h2 => v_s = v2 ∧ tX h2)))) := by
  obtain ⟨nh, ni, nr, hc_s, hh, hi_, hd_s, hz, hl⟩ := hx
  have hx : tX h_s := ⟨nh, ni, nr, hc_s, hh, hi_, hd_s, hz, hl⟩
  obtain ⟨u_s, r_s, u1_s, u2_s, u3, u4_s, u5, u6⟩ := hh
  have same_s : ∀ n_s w_s : Nat, x1_s.toInt = (n_s : Int) → x2_s.toInt = (w_s : Int) → isV nh ni nr x1_s.toInt x2_s.toInt → w_s < 12 ∧ okN nh ni nr n_s w_s ∧ h_s.2.1 (cO n_s w_s) (cF n_s w_s) = h_s.2.1 103 (plc n_s w_s) ∧ vB nh nr n_s w_s (h_s.2.1 103 (plc n_s w_s)).toInt := by
    intro n_s w_s e1_s e2_s q_s
    obtain ⟨n1_s, w1_s, d1_s, d2_s, hw1, ok_s⟩ := isV_N q_s
    have en : n1_s = n_s := by omega
    have ew : w1_s = w_s := by omega
    subst en
    subst ew
    have hcap : n1_s < cap w1_s ∧ (w1_s = 8 → n1_s < ni) := by
      have b_s := hc_s.1
      unfold okN at ok_s
      unfold cap
      by_cases w2_s : w1_s < 2
      · rw [if_pos w2_s] at ok_s ⊢
        omega
      · rw [if_neg w2_s] at ok_s ⊢
        by_cases w9 : w1_s < 9
        · rw [if_pos w9] at ok_s ⊢
          omega
        · rw [if_neg w9] at ok_s ⊢
          omega
    have u_s := hc_s.2.2.2.1 n1_s w1_s hw1 hcap.1 hcap.2
    exact ⟨hw1, ok_s, u_s.1, u_s.2⟩
  refine sp_98 (f_s := h_s.2.1) (u_s := u_s) hk hc_s.2.1.1 hc_s.2.1.2.1 hc_s.2.1.2.2 hc_s.1 hz u2_s (by omega) (fun q_s => ?_) (fun q1_s q2_s n_s w_s e1_s e2_s e3_s => ?_) (fun q1_s q2_s n_s w_s e1_s e2_s e3_s f1_s u0 s_s g1 g2 g3_s g4 g5_s g6 g7 g8 g9 g10 g11 => ?_)
  · exact sp_163 (f_s := h_s.2.1) (u_s := u_s) hk (tC_M hc_s) u4_s (by omega) (fun _ => ⟨rfl, hx⟩) (fun p1_s p2_s => absurd ⟨p1_s, p2_s⟩ q_s) (fun p1_s p2_s => absurd ⟨p1_s, p2_s⟩ q_s)
  · obtain ⟨hw, ok_s, es, _⟩ := same_s n_s w_s e1_s e2_s q1_s
    refine sp_163 (f_s := h_s.2.1) (u_s := u_s) hk (tC_M hc_s) u4_s (by omega) (fun p_s => absurd ⟨q1_s, q2_s⟩ p_s) (fun _ _ n1_s w1_s d1_s d2_s _ => ?_) (fun _ _ n1_s w1_s d1_s d2_s d3_s => ?_)
    · have en : n1_s = n_s := by omega
      have ew : w1_s = w_s := by omega
      subst en
      subst ew
      exact ⟨es, hx⟩
    · have en : n1_s = n_s := by omega
      have ew : w1_s = w_s := by omega
      subst en
      subst ew
      exact absurd (es.symm.trans e3_s) d3_s
  · obtain ⟨hw, ok_s, es, eB⟩ := same_s n_s w_s e1_s e2_s q1_s
    have cc : (cO n_s w_s = 8 ∨ cO n_s w_s = 9 ∨ 20 ≤ cO n_s w_s) ∧ cO n_s w_s < 40 := by
      unfold isV at q1_s
      by_cases w2_s : w_s < 2
      · rw [cO_h w2_s]
        omega
      · by_cases w9 : w_s < 9
        · rw [cO_i (by omega) w9]
          have b_s := hc_s.1
          omega
        · rw [cO_r (by omega)]
          have b_s := hc_s.1
          omega
    have ho : ∀ a_s k_s, 100 ≤ a_s → f1_s a_s k_s = h_s.2.1 a_s k_s := fun a_s k_s ha_s => g11 a_s k_s (by omega) (by omega) (by omega)
    have m1_s : tM nh ni nr f1_s := tM_fr (fun k_s _ _ => ho _ _ (by omega)) (fun k_s _ => ho _ _ (by omega)) (tC_M hc_s)
    refine sp_163 (h_s := (h_s.1, f1_s, h_s.2.2.1, h_s.2.2.2)) (f_s := f1_s) (u_s := u_s) hk m1_s (by rw [ho 102 5 (by omega)]; exact u4_s) (by omega) (fun p_s => absurd ⟨q1_s, q2_s⟩ p_s) (fun _ _ n1_s w1_s d1_s d2_s d3_s => ?_) (fun _ _ n1_s w1_s d1_s d2_s d3_s f2_s v0_s s2_s p1_s p2_s p3_s p4_s p5_s p6_s p7_s p8_s p9_s p10 => ?_)
    · have en : n1_s = n_s := by omega
      have ew : w1_s = w_s := by omega
      subst en
      subst ew
      rw [ho 103 _ (by omega)] at d3_s
      exact absurd (es.trans d3_s) e3_s
    · have en : n1_s = n_s := by omega
      have ew : w1_s = w_s := by omega
      subst en
      subst ew
      have ev_s : v0_s = u0 := by omega
      have esx : s2_s = s_s := by omega
      subst ev_s
      subst esx
      rw [ho 103 _ (by omega)] at p5_s
      have fin_s : ∀ a_s k_s, ¬ (104 ≤ a_s ∧ a_s ≤ 106 ∧ k_s < 40) → ¬ (a_s = 102 ∧ (k_s = 4 ∨ k_s = 5)) → ¬ (a_s = 103 ∧ k_s = plc n1_s w1_s) → ¬ (43 ≤ a_s ∧ a_s ≤ 46 ∧ k_s < 40) → ¬ (a_s = 42 ∧ k_s < 2) → ¬ (a_s = cO n1_s w1_s ∧ k_s = cF n1_s w1_s) → f2_s a_s k_s = h_s.2.1 a_s k_s := fun a_s k_s s1_s s2_s s3_s s4_s s5 s6_s => (p10 a_s k_s s1_s s2_s s3_s).trans (g11 a_s k_s s4_s s5 s6_s)
      have lo_s : ∀ a_s k_s, a_s < 100 → f2_s a_s k_s = f1_s a_s k_s := fun a_s k_s ha_s => p10 a_s k_s (by omega) (by omega) (by omega)
      have hi2 : ∀ o k_s, 104 ≤ o → o ≤ 106 → k_s < v0_s → f2_s o k_s = h_s.2.1 o (k_s + s2_s) := fun o k_s h1 h2 h3 => by
        rw [p3_s o k_s h1 h2 h3]
        exact ho o _ (by omega)
      have lo2 : ∀ o k_s, 43 ≤ o → o ≤ 46 → k_s < v0_s → f2_s o k_s = h_s.2.1 o (k_s + s2_s) := fun o k_s h1 h2 h3 => by
        rw [lo_s o k_s (by omega)]
        exact g3_s o k_s h1 h2 h3
      have nB_s : vB nh nr n1_s w1_s x3.toInt := vCI_B (by rw [← e2_s]; exact q2_s)
      refine ⟨by rw [ho 103 _ (by omega)]; exact es, nh, ni, nr, tC_set (v_s := x3) hc_s hw ok_s nB_s ?_ p9_s (fun a_s k_s qc s1_s s2_s => ?_), ⟨v0_s + 1, 0, by omega, ?_, ?_, p7_s, p8_s, fun k_s hk1 => ?_⟩, tI_fr (fun a_s k_s q_s => ?_) hi_ hc_s.1.2.1, tD_fr (fun a_s k_s q_s => ?_) hd_s, tZ_fr (fun a_s k_s q_s => ?_) hz, tLw_fr (h_s := h_s) (fun _ => rfl) (fun a_s k_s q_s => ?_) hl⟩
      · show f2_s (cO n1_s w1_s) (cF n1_s w1_s) = x3
        rw [lo_s _ _ (by omega)]
        exact g10
      · unfold inC at qc
        exact fin_s a_s k_s (by omega) (by omega) s2_s (by omega) (by omega) s1_s
      · show (f2_s 42 0).toInt = ((v0_s + 1 : Nat) : Int)
        rw [lo_s _ _ (by omega)]
        exact g8
      · show (f2_s 42 1).toInt = ((0 : Nat) : Int)
        rw [lo_s _ _ (by omega)]
        exact g9
      · by_cases e_s : k_s = v0_s
        · subst e_s
          refine ⟨n1_s, w1_s, hw, ok_s, ?_, ?_, p4_s, ?_, ?_, ?_, ?_⟩
          · show (f2_s 43 k_s).toInt = (n1_s : Int)
            rw [lo_s _ _ (by omega), g4]
            exact e1_s
          · show (f2_s 44 k_s).toInt = (w1_s : Int)
            rw [lo_s _ _ (by omega), g5_s]
            exact e2_s
          · show f2_s 105 k_s = f2_s 45 k_s
            rw [lo_s 45 k_s (by omega), g6, p5_s, es]
          · show f2_s 106 k_s = f2_s 46 k_s
            rw [lo_s 46 k_s (by omega), g7, p6_s]
          · show vB nh nr n1_s w1_s (f2_s 45 k_s).toInt
            rw [lo_s 45 k_s (by omega), g6, es]
            exact eB
          · show vB nh nr n1_s w1_s (f2_s 46 k_s).toInt
            rw [lo_s 46 k_s (by omega), g7]
            exact nB_s
        · obtain ⟨n2_s, w2_s, b1, b2, b3, b4, b5, b6, b7, b8, b9⟩ := u6 (k_s + s2_s) (by omega)
          have kv : k_s < v0_s := by omega
          refine ⟨n2_s, w2_s, b1, b2, ?_, ?_, ?_, ?_, ?_, ?_, ?_⟩
          · show (f2_s 43 k_s).toInt = (n2_s : Int)
            rw [lo2 43 k_s (by omega) (by omega) kv]
            exact b3
          · show (f2_s 44 k_s).toInt = (w2_s : Int)
            rw [lo2 44 k_s (by omega) (by omega) kv]
            exact b4
          · show (f2_s 104 k_s).toInt = (plc n2_s w2_s : Int)
            rw [hi2 104 k_s (by omega) (by omega) kv]
            exact b5
          · show f2_s 105 k_s = f2_s 45 k_s
            rw [hi2 105 k_s (by omega) (by omega) kv, lo2 45 k_s (by omega) (by omega) kv]
            exact b6
          · show f2_s 106 k_s = f2_s 46 k_s
            rw [hi2 106 k_s (by omega) (by omega) kv, lo2 46 k_s (by omega) (by omega) kv]
            exact b7
          · show vB nh nr n2_s w2_s (f2_s 45 k_s).toInt
            rw [lo2 45 k_s (by omega) (by omega) kv]
            exact b8
          · show vB nh nr n2_s w2_s (f2_s 46 k_s).toInt
            rw [lo2 46 k_s (by omega) (by omega) kv]
            exact b9
      · show f2_s a_s k_s = h_s.2.1 a_s k_s
        unfold inI at q_s
        exact fin_s a_s k_s (by omega) (by omega) (by omega) (by omega) (by omega) (by omega)
      · show f2_s a_s k_s = h_s.2.1 a_s k_s
        unfold inD at q_s
        exact fin_s a_s k_s (by omega) (by omega) (by omega) (by omega) (by omega) (by omega)
      · show f2_s a_s k_s = h_s.2.1 a_s k_s
        unfold inZ at q_s
        exact fin_s a_s k_s (by omega) (by omega) (by omega) (by omega) (by omega) (by omega)
      · show f2_s a_s k_s = h_s.2.1 a_s k_s
        unfold inW at q_s
        exact fin_s a_s k_s (by omega) (by omega) (by omega) (by omega) (by omega) (by omega)
end N7
/-! UNDONE, DONE AGAIN; what numbers are. -/
section U8
variable {F_s : Nat} {h_s : zH} {K_s : Int32 → zH → Prop} {V : zH → Prop} {nh ni nr : Nat} {x1_s x2_s x3 : Int32} {f_s : Nat → Nat → Int32}
theorem okN_V {n_s w_s : Nat} (hw : w_s < 12) (ok_s : okN nh ni nr n_s w_s) : isV nh ni nr (n_s : Int) (w_s : Int) := by
  unfold okN at ok_s
  unfold isV
  by_cases w2_s : w_s < 2
  · rw [if_pos w2_s] at ok_s
    omega
  · rw [if_neg w2_s] at ok_s
    by_cases w9 : w_s < 9
    · rw [if_pos w9] at ok_s
      omega
    · rw [if_neg w9] at ok_s
      omega
theorem cO_r8 {n_s w_s : Nat} (b_s : nh ≤ 6 ∧ ni ≤ 8 ∧ nr ≤ 12) (hw : w_s < 12) (ok_s : okN nh ni nr n_s w_s) : (cO n_s w_s = 8 ∨ cO n_s w_s = 9 ∨ 20 ≤ cO n_s w_s) ∧ cO n_s w_s < 40 ∧ plc n_s w_s < 104 := by
  unfold okN at ok_s
  by_cases w2_s : w_s < 2
  · rw [if_pos w2_s] at ok_s
    rw [cO_h w2_s, plc_h w2_s]
    omega
  · rw [if_neg w2_s] at ok_s
    by_cases w9 : w_s < 9
    · rw [if_pos w9] at ok_s
      rw [cO_i (by omega) w9, plc_i (by omega) w9]
      omega
    · rw [if_neg w9] at ok_s
      rw [cO_r (by omega), plc_r (by omega)]
      omega
/-- what undo and redo leave of the state -/
theorem tX_move {u_s r_s u1_s r1_s n_s w_s : Nat} {v_s : Int32} {h2 : zH} (hc_s : tC nh ni nr h_s.2.1) (hi_ : tI nh ni nr h_s.2.1) (hd_s : tD h_s.2.1) (hz : tZ h_s.2.1) (hl : tLw h_s) (hall : ∀ k_s, k_s < u_s + r_s → chT nh ni nr h_s.2.1 k_s) (hs : u1_s + r1_s = u_s + r_s) (hb_s : u_s + r_s ≤ 40) (hw : w_s < 12) (ok_s : okN nh ni nr n_s w_s) (hB_s : vB nh nr n_s w_s v_s.toInt) (e1_s : h2.2.1 (cO n_s w_s) (cF n_s w_s) = v_s) (e2_s : h2.2.1 103 (plc n_s w_s) = v_s) (e3_s : (h2.2.1 42 0).toInt = (u1_s : Int)) (e4_s : (h2.2.1 42 1).toInt = (r1_s : Int)) (e5_s : (h2.2.1 102 5).toInt = (u1_s : Int)) (e6_s : h2.2.1 102 4 = h_s.2.1 102 4) (e7_s : (h_s.2.1 102 4).toInt = ((u_s + r_s : Nat) : Int)) (hr : ∀ k_s, h2.2.2.2 7 k_s = h_s.2.2.2 7 k_s) (hf : ∀ a_s k_s, ¬ (a_s = 42 ∧ k_s < 2) → ¬ (a_s = 102 ∧ k_s = 5) → ¬ (a_s = cO n_s w_s ∧ k_s = cF n_s w_s) → ¬ (a_s = 103 ∧ k_s = plc n_s w_s) → h2.2.1 a_s k_s = h_s.2.1 a_s k_s) : tX h2 := by
  obtain ⟨q1_s, q2_s, q3_s⟩ := cO_r8 hc_s.1 hw ok_s
  refine ⟨nh, ni, nr, tC_set hc_s hw ok_s hB_s e1_s e2_s (fun a_s k_s qc s1_s s2_s => hf a_s k_s ?_ ?_ s1_s s2_s), ⟨u1_s, r1_s, by omega, e3_s, e4_s, e5_s, by rw [e6_s, e7_s, hs], fun k_s hk => chT_fr (fun o ho => hf o k_s ?_ ?_ ?_ ?_) (hall k_s (by omega))⟩, tI_fr (fun a_s k_s q_s => hf a_s k_s ?_ ?_ ?_ ?_) hi_ hc_s.1.2.1, tD_fr (fun a_s k_s q_s => hf a_s k_s ?_ ?_ ?_ ?_) hd_s, tZ_fr (fun a_s k_s q_s => hf a_s k_s ?_ ?_ ?_ ?_) hz, tLw_fr hr (fun a_s k_s q_s => hf a_s k_s ?_ ?_ ?_ ?_) hl⟩
  · unfold inC at qc
    omega
  · unfold inC at qc
    omega
  · omega
  · omega
  · omega
  · omega
  · unfold inI at q_s
    omega
  · unfold inI at q_s
    omega
  · unfold inI at q_s
    omega
  · unfold inI at q_s
    omega
  · unfold inD at q_s
    omega
  · unfold inD at q_s
    omega
  · unfold inD at q_s
    omega
  · unfold inD at q_s
    omega
  · unfold inZ at q_s
    omega
  · unfold inZ at q_s
    omega
  · unfold inZ at q_s
    omega
  · unfold inZ at q_s
    omega
  · unfold inW at q_s
    omega
  · unfold inW at q_s
    omega
  · unfold inW at q_s
    omega
  · unfold inW at q_s
    omega
theorem pr_undo (hk : hKn h_s) (hx : tX h_s) : wF F_s 123 (0, [some (.ref 6)], [], h_s) (gI (fun v_s h1 => wF F_s 149 (0, [some (.ref 102)], [], h1) (gI (fun v2 h2 => v_s = v2 ∧ tX h2)))) := by
  obtain ⟨nh, ni, nr, hc_s, hh, hi_, hd_s, hz, hl⟩ := hx
  have hx : tX h_s := ⟨nh, ni, nr, hc_s, hh, hi_, hd_s, hz, hl⟩
  obtain ⟨u_s, r_s, u1_s, u2_s, u3, u4_s, u5, u6⟩ := hh
  have ee : h_s.2.1 42 0 = h_s.2.1 102 5 := Int32.toInt_inj.mp (u2_s.trans u4_s.symm)
  refine wF_le (Nat.le_succ F_s) (sg_123_0 hk ⟨fun c_s => ?_, fun c_s => ?_⟩)
  · exact wF_le (Nat.le_succ F_s) (sg_149_0 hk ⟨fun _ => ⟨rfl, hx⟩, fun c1_s => absurd (show (h_s.2.1 102 5).toInt = 0 by omega) c1_s⟩)
  · have u0 : 0 < u_s := by omega
    have em : (h_s.2.1 42 0 - 1).toInt = ((u_s - 1 : Nat) : Int) := by rw [sub_i (by omega) (by decide), n1_]; omega
    have z_s := azix (i := h_s.2.1 42 0 - 1) (by omega)
    have ez : zix (h_s.2.1 42 0 - 1) = u_s - 1 := by omega
    have ez5 : zix (h_s.2.1 102 5 - 1) = u_s - 1 := by rw [← ee]; exact ez
    obtain ⟨n_s, w_s, hw, ok_s, b3, b4, b5, b6, b7, b8, b9⟩ := u6 (u_s - 1) (by omega)
    have cc := cO_r8 hc_s.1 hw ok_s
    have z4 := azix (i := h_s.2.1 104 (u_s - 1)) (by omega)
    have ez4 : zix (h_s.2.1 104 (u_s - 1)) = plc n_s w_s := by omega
    refine wF_le (Nat.le_succ F_s) (sg_11_0 hk ⟨fun _ _ => ?_, fun c1_s => absurd (show 0 < (h_s.2.1 42 0).toInt by omega) c1_s⟩)
    rw [ez]
    generalize hg : zup (zup h_s.2.1 42 0 (h_s.2.1 42 0 - 1)) 42 1 (h_s.2.1 42 1 + 1) = g_s
    have gf : ∀ a_s k_s, ¬ (a_s = 42 ∧ k_s < 2) → g_s a_s k_s = h_s.2.1 a_s k_s := fun a_s k_s q_s => by rw [← hg, zne_up (by omega), zne_up (by omega)]
    have g0 : g_s 42 0 = h_s.2.1 42 0 - 1 := by rw [← hg, zne_up (by omega), zsame_up]
    have g1 : g_s 42 1 = h_s.2.1 42 1 + 1 := by rw [← hg, zsame_up]
    refine sp_21 (h_s := (h_s.1, g_s, h_s.2.2.1, h_s.2.2.2)) (f_s := g_s) (nh := nh) (ni := ni) (nr := nr) hk (by rw [gf _ _ (by omega)]; exact hc_s.2.1.1) (by rw [gf _ _ (by omega)]; exact hc_s.2.1.2.1) (by rw [gf _ _ (by omega)]; exact hc_s.2.1.2.2) (by rw [b3, b4]; exact okN_V hw ok_s) (fun n1_s w1_s d1_s d2_s _ => fun _ => ?_)
    have en : n1_s = n_s := by omega
    have ew : w1_s = w_s := by omega
    subst en
    subst ew
    have k0_s : zup g_s (cO n1_s w1_s) (cF n1_s w1_s) (h_s.2.1 45 (u_s - 1)) 42 0 = h_s.2.1 42 0 - 1 := by rw [zne_up (by omega)]; exact g0
    dsimp only
    rw [k0_s]
    have f2_s : ∀ a_s k_s, 41 ≤ a_s → ¬ (a_s = 42 ∧ k_s < 2) → zup g_s (cO n1_s w1_s) (cF n1_s w1_s) (h_s.2.1 45 (u_s - 1)) a_s k_s = h_s.2.1 a_s k_s := fun a_s k_s h1 h2 => by rw [zne_up (by omega), gf a_s k_s h2]
    refine wF_le (Nat.le_succ F_s) (sg_149_0 (h_s := (h_s.1, zup g_s (cO n1_s w1_s) (cF n1_s w1_s) (h_s.2.1 45 (u_s - 1)), h_s.2.2.1, h_s.2.2.2)) hk ?_)
    dsimp only
    rw [f2_s 102 5 (by omega) (by omega), ez5, f2_s 104 _ (by omega) (by omega), f2_s 105 _ (by omega) (by omega), ez4]
    refine ⟨fun c1_s => absurd c1_s (by omega), fun _ _ _ => ⟨by rw [ee], ?_⟩⟩
    refine tX_move (h_s := h_s) (u_s := u_s) (r_s := r_s) (u1_s := u_s - 1) (r1_s := r_s + 1) (n_s := n1_s) (w_s := w1_s) (v_s := h_s.2.1 45 (u_s - 1)) hc_s hi_ hd_s hz hl u6 (by omega) u1_s hw ok_s b8 ?_ ?_ ?_ ?_ ?_ ?_ u5 (fun _ => rfl) (fun a_s k_s s1_s s2_s s3_s s4_s => ?_)
    · dsimp only
      rw [zne_up (by omega), zne_up (by omega), zsame_up]
    · dsimp only
      rw [zsame_up]
      exact b6
    · dsimp only
      rw [zne_up (by omega), zne_up (by omega), k0_s]
      exact em
    · dsimp only
      rw [zne_up (by omega), zne_up (by omega), zne_up (by omega), g1, in1_ (by omega), u3]
      omega
    · dsimp only
      rw [zne_up (by omega), zsame_up, ← ee]
      exact em
    · dsimp only
      rw [zne_up (by omega), zne_up (by omega)]
      exact f2_s 102 4 (by omega) (by omega)
    · dsimp only
      rw [zne_up s4_s, zne_up s2_s, zne_up s3_s]
      exact gf a_s k_s s1_s
theorem pr_redo (hk : hKn h_s) (hx : tX h_s) : wF F_s 124 (0, [some (.ref 6)], [], h_s) (gI (fun v_s h1 => wF F_s 150 (0, [some (.ref 102)], [], h1) (gI (fun v2 h2 => v_s = v2 ∧ tX h2)))) := by
  obtain ⟨nh, ni, nr, hc_s, hh, hi_, hd_s, hz, hl⟩ := hx
  have hx : tX h_s := ⟨nh, ni, nr, hc_s, hh, hi_, hd_s, hz, hl⟩
  obtain ⟨u_s, r_s, u1_s, u2_s, u3, u4_s, u5, u6⟩ := hh
  have ee : h_s.2.1 42 0 = h_s.2.1 102 5 := Int32.toInt_inj.mp (u2_s.trans u4_s.symm)
  refine wF_le (Nat.le_succ F_s) (sg_124_0 hk ⟨fun c_s => ?_, fun c_s => ?_⟩)
  · exact wF_le (Nat.le_succ F_s) (sg_150_0 hk ⟨fun _ => ⟨rfl, hx⟩, fun c1_s => absurd (show (h_s.2.1 102 5).toInt = (h_s.2.1 102 4).toInt by omega) c1_s⟩)
  · have r0 : 0 < r_s := by omega
    obtain ⟨p1_s, p2_s, _⟩ := ic1 u2_s (by omega)
    obtain ⟨p5_s, p6_s, _⟩ := ic1 u4_s (by omega)
    obtain ⟨n_s, w_s, hw, ok_s, b3, b4, b5, b6, b7, b8, b9⟩ := u6 u_s (by omega)
    have cc := cO_r8 hc_s.1 hw ok_s
    have z4 := azix (i := h_s.2.1 104 u_s) (by omega)
    have ez4 : zix (h_s.2.1 104 u_s) = plc n_s w_s := by omega
    refine wF_le (Nat.le_succ F_s) (sg_12_0 hk ⟨fun _ => ⟨fun _ _ => ?_, fun c1_s => absurd (show (h_s.2.1 42 0).toInt < 40 by omega) c1_s⟩, fun c1_s => absurd (show 0 < (h_s.2.1 42 1).toInt by omega) c1_s⟩)
    rw [p2_s]
    refine sp_21 (h_s := h_s) (f_s := h_s.2.1) (nh := nh) (ni := ni) (nr := nr) hk hc_s.2.1.1 hc_s.2.1.2.1 hc_s.2.1.2.2 (by rw [b3, b4]; exact okN_V hw ok_s) (fun n1_s w1_s d1_s d2_s _ => fun _ => ?_)
    have en : n1_s = n_s := by omega
    have ew : w1_s = w_s := by omega
    subst en
    subst ew
    dsimp only
    generalize hg : zup h_s.2.1 (cO n1_s w1_s) (cF n1_s w1_s) (h_s.2.1 46 u_s) = g_s
    have gf : ∀ a_s k_s, ¬ (a_s = cO n1_s w1_s ∧ k_s = cF n1_s w1_s) → g_s a_s k_s = h_s.2.1 a_s k_s := fun a_s k_s q_s => by rw [← hg, zne_up q_s]
    have ge : g_s (cO n1_s w1_s) (cF n1_s w1_s) = h_s.2.1 46 u_s := by rw [← hg, zsame_up]
    have q0 : g_s 42 0 = h_s.2.1 42 0 := gf 42 0 (by omega)
    have q1_s : g_s 42 1 = h_s.2.1 42 1 := gf 42 1 (by omega)
    rw [q0, q1_s, zsame_up]
    have f2_s : ∀ a_s k_s, 47 ≤ a_s → zup (zup g_s 42 0 (h_s.2.1 42 0 + 1)) 42 1 (h_s.2.1 42 1 - 1) a_s k_s = h_s.2.1 a_s k_s := fun a_s k_s h1 => by rw [zne_up (by omega), zne_up (by omega), gf a_s k_s (by omega)]
    have em : (h_s.2.1 42 1 - 1).toInt = ((r_s - 1 : Nat) : Int) := by rw [sub_i (by omega) (by decide), n1_]; omega
    have ek : (h_s.2.1 102 4 - (h_s.2.1 102 5 + 1)).toInt = ((r_s - 1 : Nat) : Int) := by
      rw [na_sub (by omega) (by omega), u5, p5_s]
      omega
    refine wF_le (Nat.le_succ F_s) (sg_150_0 (h_s := (h_s.1, zup (zup g_s 42 0 (h_s.2.1 42 0 + 1)) 42 1 (h_s.2.1 42 1 - 1), h_s.2.2.1, h_s.2.2.2)) hk ?_)
    dsimp only
    rw [f2_s 102 5 (by omega), f2_s 102 4 (by omega), p6_s, f2_s 104 _ (by omega), f2_s 106 _ (by omega), ez4]
    refine ⟨fun c1_s => absurd c1_s (by omega), fun _ _ _ => ⟨Int32.toInt_inj.mp (em.trans ek.symm), ?_⟩⟩
    refine tX_move (h_s := h_s) (u_s := u_s) (r_s := r_s) (u1_s := u_s + 1) (r1_s := r_s - 1) (n_s := n1_s) (w_s := w1_s) (v_s := h_s.2.1 46 u_s) hc_s hi_ hd_s hz hl u6 (by omega) u1_s hw ok_s b9 ?_ ?_ ?_ ?_ ?_ ?_ u5 (fun _ => rfl) (fun a_s k_s s1_s s2_s s3_s s4_s => ?_)
    · dsimp only
      rw [zne_up (by omega), zne_up (by omega), zne_up (by omega), zne_up (by omega)]
      exact ge
    · dsimp only
      rw [zne_up (by omega), zsame_up]
      exact b7
    · dsimp only
      rw [zne_up (by omega), zne_up (by omega), zne_up (by omega), zsame_up]
      exact p1_s
    · dsimp only
      rw [zne_up (by omega), zne_up (by omega), zsame_up]
      exact em
    · dsimp only
      rw [zsame_up]
      exact p5_s
    · dsimp only
      rw [zne_up (by omega), zne_up (by omega)]
      exact f2_s 102 4 (by omega)
    · dsimp only
      rw [zne_up s2_s, zne_up s4_s, zne_up (by omega), zne_up (by omega)]
      exact gf a_s k_s s3_s
/-- of -/
noncomputable def valM (f_s : Nat → Nat → Int32) (n_s w_s : Nat) : Int32 := if w_s < 12 then f_s 103 (plc n_s w_s) else if w_s = 12 then f_s 107 n_s else if w_s = 13 then f_s 108 n_s else 9 - f_s 103 (28 + n_s) / 11
theorem sp_164 (hk : hKn h_s) (hc_s : tM nh ni nr f_s) (t0_s : ¬ isT nh ni nr x1_s.toInt x2_s.toInt → K_s (-2000000000) (h_s.1, f_s, h_s.2.2.1, h_s.2.2.2)) (t1_s : isT nh ni nr x1_s.toInt x2_s.toInt → ∀ n_s w_s : Nat, x1_s.toInt = (n_s : Int) → x2_s.toInt = (w_s : Int) → K_s (valM f_s n_s w_s) (h_s.1, f_s, h_s.2.2.1, h_s.2.2.2)) : wF F_s 164 (0, [some (.ref 102), some (.int x1_s), some (.int x2_s), none], [], (h_s.1, f_s, h_s.2.2.1, h_s.2.2.2)) (gI K_s) := by
  have b_s := hc_s.1
  refine wF_le (Nat.le_succ F_s) (sg_164_0 (h_s := (h_s.1, f_s, h_s.2.2.1, h_s.2.2.2)) hk ?_)
  refine sp_161 hk hc_s.1 hc_s.2.1.1 hc_s.2.1.2.1 hc_s.2.1.2.2 (fun q_s _ => ⟨fun _ => ?_, fun c_s => absurd (show (-1 : Int32).toInt < 0 by decide) c_s⟩) (fun q_s n_s w_s v_s e1_s e2_s e3_s _ => ⟨fun c_s => absurd c_s (by omega), fun _ _ => ?_⟩)
  · have nq : isT nh ni nr x1_s.toInt x2_s.toInt → 12 ≤ x2_s.toInt := fun p_s => by
      by_cases c_s : x2_s.toInt ≤ 11
      · exact absurd (isV_T.mpr ⟨p_s, c_s⟩) q_s
      · omega
    have t0_s : ¬ isT nh ni nr x1_s.toInt x2_s.toInt → K_s (-2000000000) (h_s.1, f_s, h_s.2.2.1, h_s.2.2.2) := t0_s
    have g12 : x2_s.toInt = 12 → 0 ≤ x1_s.toInt → x1_s.toInt < (nr : Int) → K_s (f_s 107 (zix x1_s)) (h_s.1, f_s, h_s.2.2.1, h_s.2.2.2) := fun q1_s q2_s q3_s => t1_s (by unfold isT; omega) (zix x1_s) 12 (azix q2_s).symm q1_s
    have g13 : x2_s.toInt = 13 → 0 ≤ x1_s.toInt → x1_s.toInt < (nr : Int) → K_s (f_s 108 (zix x1_s)) (h_s.1, f_s, h_s.2.2.1, h_s.2.2.2) := fun q1_s q2_s q3_s => t1_s (by unfold isT; omega) (zix x1_s) 13 (azix q2_s).symm q1_s
    have g14 : x2_s.toInt = 14 → 0 ≤ x1_s.toInt → x1_s.toInt < (ni : Int) → K_s (9 - f_s 103 (zix (28 + x1_s)) / 11) (h_s.1, f_s, h_s.2.2.1, h_s.2.2.2) := fun q1_s q2_s q3_s => by
      have z_s := azix (i := x1_s) q2_s
      have z28_s : zix (28 + x1_s) = 28 + zix x1_s := zxa (c_s := 28) (a_s := 28) rfl z_s.symm (by omega)
      rw [z28_s]
      exact t1_s (by unfold isT; omega) (zix x1_s) 14 z_s.symm q1_s
    dsimp only
    rw [sb1 hc_s.2.1.2.1, sb1 hc_s.2.1.2.2]
    unfold isT at t0_s nq
    refine ⟨fun c3_s => ⟨fun c4_s => ?_, fun c4_s => ⟨fun c6_s => ⟨fun c8_s => ?_, fun c8_s => ⟨fun c9_s => fun c10_s => ?_, fun c9_s => ⟨fun c11_s => fun c12_s => ?_, fun c11_s => ?_⟩⟩⟩, fun c6_s => fun c13_s => ?_⟩⟩, fun c3_s => ⟨fun c14_s => ?_, fun c14_s => ⟨fun c15_s => ?_, fun c15_s => ⟨fun c16 => fun c17 => ?_, fun c16 => ⟨fun c18_s => fun c19_s => ?_, fun c18_s => ?_⟩⟩⟩⟩⟩
    all_goals first | exact t0_s (by omega) | exact g12 (by omega) (by omega) (by omega) | exact g13 (by omega) (by omega) (by omega) | exact g14 (by omega) (by omega) (by omega) | (exfalso; omega)
  · have hw : w_s < 12 := by
      have p_s := (isV_T.mp q_s).2
      omega
    have z_s := azix (i := v_s) (by omega)
    have ez : zix v_s = plc n_s w_s := by omega
    dsimp only
    rw [ez]
    have u_s := t1_s (isV_T.mp q_s).1 n_s w_s e1_s e2_s
    unfold valM at u_s
    rw [if_pos hw] at u_s
    exact u_s
theorem pr_of (hk : hKn h_s) (hx : tX h_s) : wF F_s 99 (0, [some (.ref 6), some (.int x1_s), some (.int x2_s)], [], h_s) (gI (fun v_s h1 => wF F_s 164 (0, [some (.ref 102), some (.int x1_s), some (.int x2_s), none], [], h1) (gI (fun v2 _ => v_s = v2)))) := by
  obtain ⟨nh, ni, nr, hc_s, hh, hi_, hd_s, hz, hl⟩ := hx
  have b_s := hc_s.1
  refine wF_le (Nat.le_succ F_s) (sg_99_0 hk ?_)
  refine sp_20 (f_s := h_s.2.1) hk hc_s.2.1.1 hc_s.2.1.2.1 hc_s.2.1.2.2 (fun q_s _ => ?_) (fun q_s n_s w_s e1_s e2_s _ => ?_)
  · exact sp_164 (f_s := h_s.2.1) hk (tC_M hc_s) (fun _ => rfl) (fun p_s => absurd p_s q_s)
  · refine sp_164 (f_s := h_s.2.1) hk (tC_M hc_s) (fun p_s => absurd q_s p_s) (fun _ n1_s w1_s d1_s d2_s => ?_)
    have en : n1_s = n_s := by omega
    have ew : w1_s = w_s := by omega
    subst en
    subst ew
    unfold isT at q_s
    unfold valC valM
    by_cases c_s : w1_s < 12
    · rw [if_pos c_s, if_pos c_s]
      have hcap : n1_s < cap w1_s ∧ (w1_s = 8 → n1_s < ni) := by
        unfold cap
        by_cases w2_s : w1_s < 2
        · rw [if_pos w2_s]
          omega
        · rw [if_neg w2_s]
          by_cases w9 : w1_s < 9
          · rw [if_pos w9]
            omega
          · rw [if_neg w9]
            omega
      exact (hc_s.2.2.2.1 n1_s w1_s c_s hcap.1 hcap.2).1
    · rw [if_neg c_s, if_neg c_s]
      by_cases c2_s : w1_s = 12
      · rw [if_pos c2_s, if_pos c2_s]
        exact (hc_s.2.2.2.2.2 n1_s (by omega)).1.1
      · rw [if_neg c2_s, if_neg c2_s]
        by_cases c3_s : w1_s = 13
        · rw [if_pos c3_s, if_pos c3_s]
          exact (hc_s.2.2.2.2.2 n1_s (by omega)).1.2
        · rw [if_neg c3_s, if_neg c3_s]
          have u_s := (tC_own (i_s := n1_s) (k_s := 2) hc_s (by omega) (by omega)).1
          have u_s : h_s.2.1 (20 + n1_s) 2 = h_s.2.1 103 (28 + n1_s) := u_s
          rw [u_s]
end U8
/-! ROADS that come; THE LAW that comes: the whole state. -/
section R9
variable {F_s : Nat} {h_s : zH} {K_s : Int32 → zH → Prop} {nh ni nr R_s : Nat} {x1_s x2_s x3 : Int32} {f_s : Nat → Nat → Int32}
theorem tC_roads {f2_s : Nat → Nat → Int32} {k_s : Nat} {A_s B_s C_s : Nat → Int32} (hc_s : tC nh ni R_s f_s) (hR : R_s + k_s ≤ 12) (hv : ∀ m_s, m_s < k_s → (0 ≤ (A_s m_s).toInt ∧ (A_s m_s).toInt ≤ 7) ∧ (0 ≤ (B_s m_s).toInt ∧ (B_s m_s).toInt ≤ 7) ∧ ¬ (A_s m_s).toInt = (B_s m_s).toInt ∧ 1 ≤ (C_s m_s).toInt ∧ (C_s m_s).toInt ≤ 9) (e1_s : (f2_s 7 8).toInt = ((R_s + k_s : Nat) : Int)) (e2_s : (f2_s 102 8).toInt = ((R_s + k_s : Nat) : Int)) (h1 : ∀ m_s, m_s < k_s → f2_s (28 + (R_s + m_s)) 0 = A_s m_s ∧ f2_s (28 + (R_s + m_s)) 1 = B_s m_s ∧ f2_s (28 + (R_s + m_s)) 2 = C_s m_s) (h2 : ∀ m_s, m_s < k_s → f2_s 107 (R_s + m_s) = A_s m_s ∧ f2_s 108 (R_s + m_s) = B_s m_s ∧ f2_s 103 (68 + (R_s + m_s)) = C_s m_s) (hf : ∀ a_s j_s, inC a_s j_s → ¬ (a_s = 7 ∧ j_s = 8) → ¬ (28 + R_s ≤ a_s ∧ a_s < 28 + R_s + k_s ∧ j_s ≤ 2) → ¬ (a_s = 102 ∧ j_s = 8) → ¬ ((a_s = 107 ∨ a_s = 108) ∧ R_s ≤ j_s ∧ j_s < R_s + k_s) → ¬ (a_s = 103 ∧ 68 + R_s ≤ j_s ∧ j_s < 68 + R_s + k_s) → f2_s a_s j_s = f_s a_s j_s) : tC nh ni (R_s + k_s) f2_s := by
  obtain ⟨a0_s, ⟨a1_s, a2, a3⟩, ⟨a4, a5, a6⟩, a7, a8, a9⟩ := hc_s
  have f7_s : ∀ a_s j_s, (a_s = 7 ∨ a_s = 102) → 6 ≤ j_s → j_s < 8 → f2_s a_s j_s = f_s a_s j_s := fun a_s j_s q1_s q2_s q3_s => hf a_s j_s (by unfold inC; omega) (by omega) (by omega) (by omega) (by omega) (by omega)
  refine ⟨⟨a0_s.1, a0_s.2.1, hR⟩, ⟨?_, ?_, e1_s⟩, ⟨?_, ?_, e2_s⟩, fun n_s w_s hw hnc h8 => ?_, fun j_s j1 j2_s => ?_, fun r_s hr => ?_⟩
  · rw [f7_s 7 6 (by omega) (by omega) (by omega)]
    exact a1_s
  · rw [f7_s 7 7 (by omega) (by omega) (by omega)]
    exact a2
  · rw [f7_s 102 6 (by omega) (by omega) (by omega)]
    exact a4
  · rw [f7_s 102 7 (by omega) (by omega) (by omega)]
    exact a5
  · have u_s := a7 n_s w_s hw hnc h8
    by_cases w2_s : w_s < 2
    · rw [cap_h w2_s] at hnc
      rw [cO_h w2_s, cF_h w2_s, plc_h w2_s] at u_s ⊢
      rw [hf (8 + w_s) n_s (by unfold inC; omega) (by omega) (by omega) (by omega) (by omega) (by omega), hf 103 (6 * w_s + n_s) (by unfold inC; omega) (by omega) (by omega) (by omega) (by omega) (by omega)]
      refine ⟨u_s.1, ?_⟩
      have u2_s := u_s.2
      rw [vB_n (by omega)] at u2_s ⊢
      exact ⟨u2_s.1, u2_s.2.1, fun e9_s => absurd e9_s (by omega)⟩
    · by_cases w9 : w_s < 9
      · rw [cap_i (by omega) w9] at hnc
        rw [cO_i (by omega) w9, cF_i (by omega) w9, plc_i (by omega) w9] at u_s ⊢
        rw [hf (20 + n_s) (w_s - 2) (by unfold inC; omega) (by omega) (by omega) (by omega) (by omega) (by omega), hf 103 (12 + 8 * (w_s - 2) + n_s) (by unfold inC; omega) (by omega) (by omega) (by omega) (by omega) (by omega)]
        refine ⟨u_s.1, ?_⟩
        have u2_s := u_s.2
        by_cases e8 : w_s = 8
        · subst e8
          exact u2_s
        · rw [vB_n e8] at u2_s ⊢
          exact ⟨u2_s.1, u2_s.2.1, fun e9_s => absurd e9_s (by omega)⟩
      · rw [cap_r (by omega)] at hnc
        rw [cO_r (by omega), cF_r (by omega), plc_r (by omega)] at u_s ⊢
        by_cases e_s : w_s = 9 ∧ R_s ≤ n_s ∧ n_s < R_s + k_s
        · obtain ⟨rfl, e3_s, e4_s⟩ := e_s
          have q1_s := (h1 (n_s - R_s) (by omega)).2.2
          have q2_s := (h2 (n_s - R_s) (by omega)).2.2
          have q3_s := hv (n_s - R_s) (by omega)
          rw [show R_s + (n_s - R_s) = n_s by omega] at q1_s q2_s
          have q1_s : f2_s (28 + n_s) (9 - 7) = C_s (n_s - R_s) := q1_s
          have q2_s : f2_s 103 (68 + 12 * (9 - 9) + n_s) = C_s (n_s - R_s) := q2_s
          rw [q1_s, q2_s, vB_n (by omega)]
          exact ⟨rfl, by omega, show (C_s (n_s - R_s)).toInt ≤ 9 by omega, fun _ _ => q3_s.2.2.2.1⟩
        · rw [hf (28 + n_s) (w_s - 7) (by unfold inC; omega) (by omega) (by omega) (by omega) (by omega) (by omega), hf 103 (68 + 12 * (w_s - 9) + n_s) (by unfold inC; omega) (by omega) (by omega) (by omega) (by omega) (by omega)]
          refine ⟨u_s.1, ?_⟩
          have u2_s := u_s.2
          rw [vB_n (by omega)] at u2_s ⊢
          exact ⟨u2_s.1, u2_s.2.1, fun e9_s hn => u2_s.2.2 e9_s (by omega)⟩
  · rw [hf (20 + j_s) 6 (by unfold inC; omega) (by omega) (by omega) (by omega) (by omega) (by omega)]
    exact a8 j_s j1 j2_s
  · by_cases e_s : R_s ≤ r_s ∧ r_s < R_s + k_s
    · have q1_s := h1 (r_s - R_s) (by omega)
      have q2_s := h2 (r_s - R_s) (by omega)
      have q3_s := hv (r_s - R_s) (by omega)
      rw [show R_s + (r_s - R_s) = r_s by omega] at q1_s q2_s
      rw [q1_s.1, q1_s.2.1, q2_s.1, q2_s.2.1]
      exact ⟨⟨rfl, rfl⟩, q3_s.1, q3_s.2.1, fun _ => q3_s.2.2.1⟩
    · have q_s := fun a_s j_s (qa : (a_s = 28 + r_s ∧ j_s < 2) ∨ ((a_s = 107 ∨ a_s = 108) ∧ j_s = r_s)) => hf a_s j_s (by unfold inC; omega) (by omega) (by omega) (by omega) (by omega) (by omega)
      rw [q_s (28 + r_s) 0 (by omega), q_s (28 + r_s) 1 (by omega), q_s 107 r_s (by omega), q_s 108 r_s (by omega)]
      have u_s := a9 r_s hr
      exact ⟨u_s.1, u_s.2.1, u_s.2.2.1, fun hr2 => u_s.2.2.2 (by omega)⟩
theorem pr_road2 (hk : hKn h_s) (hx : tX h_s) : wF F_s 95 (0, [some (.ref 6), some (.int x1_s), some (.int x2_s)], [], h_s) (gI (fun v_s h1 => wF F_s 159 (0, [some (.ref 102), some (.int x1_s), some (.int x2_s)], [], h1) (gI (fun v2 h2 => v_s = v2 ∧ tX h2)))) := by
  obtain ⟨nh, ni, R_s, hc_s, hh, hi_, hd_s, hz, hl⟩ := hx
  have hx : tX h_s := ⟨nh, ni, R_s, hc_s, hh, hi_, hd_s, hz, hl⟩
  have hR := hc_s.2.1.2.2
  have hR2 := hc_s.2.2.1.2.2
  have hR12 := hc_s.1.2.2
  have r1_s : h_s.2.1 7 8 = h_s.2.1 102 8 := Int32.toInt_inj.mp (hR.trans hR2.symm)
  refine sp_95 hk hR (fun c_s => ?_) (fun c_s c1_s f1_s b1 b2 b3 b4 b5 => ?_) (fun c_s c1_s => ?_)
  · exact sp_159 hk hR2 hR12 (fun _ => ⟨rfl, hx⟩) (fun w_s => absurd c_s w_s) (fun w_s => absurd c_s w_s)
  · have e8 : f1_s 102 8 = h_s.2.1 102 8 := b5 102 8 (by omega) (by omega)
    refine sp_159 (h_s := (h_s.1, f1_s, h_s.2.2.1, h_s.2.2.2)) hk (by rw [← hR2]; exact congrArg _ e8) hR12 (fun w_s => absurd w_s c_s) (fun _ _ f2_s d1_s d2_s d3_s d4_s d5_s => ⟨?_, ?_⟩) (fun _ w_s => by omega)
    · dsimp only
      rw [e8, (ic1 hR2 (by omega)).2.2]
      exact r1_s
    · have d5_s : ∀ o k_s, ¬ (o = 102 ∧ k_s = 8) → ¬ ((o = 107 ∨ o = 108) ∧ k_s = R_s) → ¬ (o = 103 ∧ k_s = 68 + R_s) → f2_s o k_s = f1_s o k_s := d5_s
      have d1_s : f2_s 102 8 = f1_s 102 8 + 1 := d1_s
      have q_s : (f2_s 7 8).toInt = ((R_s + 1 : Nat) : Int) := by
        rw [d5_s 7 8 (by omega) (by omega) (by omega), b1]
        exact (ic1 hR (by omega)).1
      have q2_s : (f2_s 102 8).toInt = ((R_s + 1 : Nat) : Int) := by
        rw [d1_s, e8]
        exact (ic1 hR2 (by omega)).1
      unfold badR at c_s
      refine tX_rest (h_s := h_s) (nr1 := R_s + 1) (Nat.le_refl nh) (Nat.le_refl ni) (Nat.le_succ R_s) (tC_roads (k_s := 1) (A_s := fun _ => x1_s / 10) (B_s := fun _ => x1_s - x1_s / 10 * 10) (C_s := fun _ => x2_s) hc_s (by omega) (fun m_s hm_s => by omega) q_s q2_s (fun m_s hm_s => ?_) (fun m_s hm_s => ?_) (fun a_s j_s qc s1_s s2_s s3_s s4_s s5 => ?_)) hh hi_ hd_s hz hl (fun _ => rfl) (fun a_s j_s w_s => ?_)
      · have em : m_s = 0 := by omega
        subst em
        refine ⟨?_, ?_, ?_⟩
        · show f2_s (28 + R_s) 0 = x1_s / 10
          rw [d5_s _ _ (by omega) (by omega) (by omega)]
          exact b2
        · show f2_s (28 + R_s) 1 = x1_s - x1_s / 10 * 10
          rw [d5_s _ _ (by omega) (by omega) (by omega)]
          exact b3
        · show f2_s (28 + R_s) 2 = x2_s
          rw [d5_s _ _ (by omega) (by omega) (by omega)]
          exact b4
      · have em : m_s = 0 := by omega
        subst em
        exact ⟨d2_s, d3_s, d4_s⟩
      · show f2_s a_s j_s = h_s.2.1 a_s j_s
        rw [d5_s a_s j_s s3_s (by omega) (by omega)]
        exact b5 a_s j_s s1_s (by omega)
      · show f2_s a_s j_s = h_s.2.1 a_s j_s
        unfold inH inI inD inZ inW at w_s
        rw [d5_s a_s j_s (by omega) (by omega) (by omega)]
        exact b5 a_s j_s (by omega) (by omega)
  · exact sp_159 hk hR2 hR12 (fun w_s => absurd w_s c_s) (fun _ w_s => by omega) (fun _ _ => ⟨rfl, hx⟩)
theorem t32_ {x_s : Int64} (h0 : 0 ≤ x_s.toInt) (h1 : x_s.toInt ≤ 100) : x_s.toInt32.toInt = x_s.toInt := by
  rw [Int64.toInt_toInt32]
  exact na_bmod (by omega) (by omega)
theorem pr_roads2 (hk : hKn h_s) (hs : tS h_s) (hx : tX h_s) : wF F_s 96 (0, [some (.ref 6), some (.int x1_s), some (.int x2_s), some (.int x3), none, none, none], [], h_s) (gI (fun v_s h1 => wF F_s 160 (0, [some (.ref 102), some (.int x1_s), some (.int x2_s), some (.int x3), none, none, none], [], h1) (gI (fun v2 h2 => v_s = v2 ∧ tX h2)))) := by
  obtain ⟨nh, ni, R_s, hc_s, hh, hi_, hd_s, hz, hl⟩ := hx
  have hx : tX h_s := ⟨nh, ni, R_s, hc_s, hh, hi_, hd_s, hz, hl⟩
  have hR := hc_s.2.1.2.2
  have hR2 := hc_s.2.2.1.2.2
  have hR12 := hc_s.1.2.2
  have hl1 : ∀ d_s, d_s < 6 → (h_s.2.1 (76 + 2 * d_s) 0).toInt = 2 → 0 ≤ (h_s.2.1 (76 + 2 * d_s) 3).toInt ∧ (h_s.2.1 (76 + 2 * d_s) 3).toInt ≤ 60 := fun d_s hd_s hq => by
    have q_s := (hs.1 d_s hd_s).1
    unfold tS1 at q_s
    omega
  have hl2 : ∀ d_s, d_s < 6 → 50 ≤ (h_s.2.1 124 d_s).toInt → 0 ≤ (h_s.2.1 125 d_s).toInt ∧ (h_s.2.1 125 d_s).toInt ≤ 60 := fun d_s hd_s hq => by
    have q_s := (hs.1 d_s hd_s).1
    unfold tS1 at q_s
    omega
  refine sp_96 hk hR hR12 hl1 (fun c_s => ?_) (fun c1_s c2_s c3_s c4_s c5_s c6_s => ?_) (fun c1_s c2_s c3_s c4_s c5_s c6_s c7_s => ?_) (fun c1_s c2_s c3_s c4_s c5_s c6_s c7_s c8_s k_s v_s f1_s g1 g2 g3_s g4 g5_s g6 => ?_)
  · exact sp_160 hk hR2 hR12 hl2 (fun _ => ⟨rfl, hx⟩) (fun _ _ _ _ _ _ => by omega) (fun _ _ _ _ _ _ _ => by omega) (fun _ _ _ _ _ _ _ _ _ _ _ _ _ _ _ _ => by omega)
  · have q_s := (hs.1 _ c5_s).1
    unfold tS1 at q_s
    exact sp_160 hk hR2 hR12 hl2 (fun _ => by omega) (fun _ _ _ _ _ _ => ⟨rfl, hx⟩) (fun _ _ _ _ _ w1_s w2_s => by omega) (fun _ _ _ _ _ w1_s w2_s _ _ _ _ _ _ _ _ _ => by omega)
  · have q_s := (hs.1 _ c5_s).1
    unfold tS1 at q_s
    exact sp_160 hk hR2 hR12 hl2 (fun _ => by omega) (fun _ _ _ _ _ w_s => by omega) (fun _ _ _ _ _ _ _ => ⟨rfl, hx⟩) (fun _ _ _ _ _ w1_s w2_s _ _ _ _ _ _ _ _ _ => by omega)
  · have q_s := (hs.1 _ c5_s).1
    unfold tS1 at q_s
    have u_s : ∀ o j_s, (o = 102 ∨ o = 124 ∨ o = 125) → f1_s o j_s = h_s.2.1 o j_s := fun o j_s ho => g6 o j_s (by omega) (by omega)
    have l60 := hl1 _ c5_s c6_s
    have e5_s : (h_s.2.1 125 (zix x1_s)).toInt = (h_s.2.1 (76 + 2 * zix x1_s) 3).toInt := by omega
    refine sp_160 (h_s := (h_s.1, f1_s, h_s.2.2.1, h_s.2.2.2)) hk (by rw [← hR2]; exact congrArg _ (u_s 102 8 (by omega))) hR12 (fun d_s hd_s hq => ?_) (fun _ => by omega) (fun _ _ _ _ _ w_s => ?_) (fun _ _ _ _ _ w1_s w2_s => ?_) (fun _ _ _ _ _ w1_s w2_s k2_s v2 f2_s d1_s d2_s d3_s d4_s d5_s d6_s => ?_)
    · dsimp only at hq ⊢
      rw [u_s 124 _ (by omega)] at hq
      rw [u_s 125 _ (by omega)]
      exact hl2 d_s hd_s hq
    · dsimp only at w_s
      rw [u_s 124 _ (by omega)] at w_s
      omega
    · dsimp only at w1_s w2_s
      rw [u_s 124 _ (by omega)] at w1_s w2_s
      omega
    · dsimp only at d2_s
      rw [u_s 125 _ (by omega), e5_s] at d2_s
      have l1 := lstR_eq (by omega) (fun j_s hj => (hs.1 _ c5_s).2 j_s hj) g2
      have ek := lstR_det l1 d2_s
      subst ek
      refine ⟨Int32.toInt_inj.mp (by omega), ?_⟩
      have hv := d2_s.2.1
      have d6_s : fr60 R_s k_s f1_s f2_s := d6_s
      unfold fr60 at d6_s
      unfold fr96 at g6
      clear q_s w1_s w2_s c6_s c7_s
      refine tX_rest (h_s := h_s) (nr1 := R_s + k_s) (Nat.le_refl nh) (Nat.le_refl ni) (Nat.le_add_right R_s k_s) (tC_roads (k_s := k_s) (A_s := fun m_s => (h_s.2.2.1 126 (60 * zix x1_s + (x2_s.toInt.toNat + 3 * m_s))).toInt32) (B_s := fun m_s => (h_s.2.2.1 126 (60 * zix x1_s + (x2_s.toInt.toNat + 3 * m_s + 1))).toInt32) (C_s := fun m_s => (h_s.2.2.1 126 (60 * zix x1_s + (x2_s.toInt.toNat + 3 * m_s + 2))).toInt32) hc_s g4 (fun m_s hm_s => ?_) ?_ d3_s (fun m_s hm_s => ?_) (fun m_s hm_s => d5_s m_s hm_s) (fun a_s j_s qc s1_s s2_s s3_s s4_s s5 => ?_)) hh hi_ hd_s hz hl (fun _ => rfl) (fun a_s j_s w_s => ?_)
      · have o := (hv m_s hm_s).2.2
        unfold vld at o
        dsimp only at o ⊢
        rw [t32_ (by omega) (by omega), t32_ (by omega) (by omega), t32_ (by omega) (by omega)]
        omega
      · show (f2_s 7 8).toInt = ((R_s + k_s : Nat) : Int)
        rw [d6_s 7 8 (by omega) (by omega) (by omega)]
        exact g3_s
      · have o := (hv m_s hm_s).1
        have p_s := g5_s m_s hm_s
        have e0_s := (hs.1 _ c5_s).2 (x2_s.toInt.toNat + 3 * m_s) (by omega)
        have e1_s := (hs.1 _ c5_s).2 (x2_s.toInt.toNat + 3 * m_s + 1) (by omega)
        have e2_s := (hs.1 _ c5_s).2 (x2_s.toInt.toNat + 3 * m_s + 2) (by omega)
        rw [e0_s, e1_s, e2_s] at p_s
        refine ⟨?_, ?_, ?_⟩
        · show f2_s (28 + (R_s + m_s)) 0 = _
          rw [d6_s _ _ (by omega) (by omega) (by omega)]
          exact p_s.1
        · show f2_s (28 + (R_s + m_s)) 1 = _
          rw [d6_s _ _ (by omega) (by omega) (by omega)]
          exact p_s.2.1
        · show f2_s (28 + (R_s + m_s)) 2 = _
          rw [d6_s _ _ (by omega) (by omega) (by omega)]
          exact p_s.2.2
      · show f2_s a_s j_s = h_s.2.1 a_s j_s
        rw [d6_s a_s j_s s3_s s4_s s5]
        exact g6 a_s j_s s1_s s2_s
      · show f2_s a_s j_s = h_s.2.1 a_s j_s
        unfold inH inI inD inZ inW at w_s
        rw [d6_s a_s j_s (by omega) (by omega) (by omega)]
        exact g6 a_s j_s (by omega) (by omega)
/-- law -/
theorem tX_law {q_s n_s : Nat} {h2 : zH} (hc_s : tC nh ni nr h_s.2.1) (hh : tH nh ni nr h_s.2.1) (hi_ : tI nh ni nr h_s.2.1) (hd_s : tD h_s.2.1) (hz : tZ h_s.2.1) (hm_s : q_s = 14 ∨ q_s = 17) (hl : tLw h2) (hf : ∀ o k_s, ¬ o = 40 → ¬ (o = q_s ∨ o = q_s + 1) → ¬ (o = 102 ∧ 12 ≤ k_s ∧ k_s ≤ 19) → ¬ o = 110 → h2.2.1 o k_s = h_s.2.1 o k_s) : tX h2 := by
  refine ⟨nh, ni, nr, tC_fr (fun a_s k_s w_s => hf a_s k_s ?_ ?_ ?_ ?_) hc_s, tH_fr (fun a_s k_s w_s => hf a_s k_s ?_ ?_ ?_ ?_) hh, tI_fr (fun a_s k_s w_s => hf a_s k_s ?_ ?_ ?_ ?_) hi_ hc_s.1.2.1, tD_fr (fun a_s k_s w_s => hf a_s k_s ?_ ?_ ?_ ?_) hd_s, tZ_fr (fun a_s k_s w_s => hf a_s k_s ?_ ?_ ?_ ?_) hz, hl⟩
  all_goals (simp only [inC, inH, inI, inD, inZ] at w_s; omega)
theorem lawC_q {q_s : Nat} {lw : Option (List pB)} {f1_s : Nat → Nat → Int32} (hf : ∀ a_s k_s, (a_s = q_s ∨ a_s = q_s + 1) → f1_s a_s k_s = f_s a_s k_s) (hl : lawC q_s f_s lw) : lawC q_s f1_s lw := by
  match lw, hl with
  | none, hl => exact ⟨by rw [hf q_s 2 (Or.inl rfl)]; exact hl.1, by rw [hf q_s 0 (Or.inl rfl)]; exact hl.2⟩
  | some ls, hl =>
    obtain ⟨a1_s, a2, a3, a4, a5, a6⟩ := hl
    exact ⟨by rw [hf q_s 2 (Or.inl rfl)]; exact a1_s, a2, fun j_s c_s hj => by rw [hf (q_s + 1) j_s (Or.inr rfl)]; exact a3 j_s c_s hj, by rw [hf q_s 0 (Or.inl rfl)]; exact a4, a5, a6⟩
theorem pr_law2 (hk : hKn h_s) (hs : tT h_s) (hx : tX h_s) : wF F_s 101 (0, [some (.ref 6), none, none], [], h_s) (gI (fun v_s h1 => wF F_s 177 (0, [some (.ref 102), none, none, none], [], h1) (gI (fun v2 h2 => v_s = v2 ∧ tT h2 ∧ tX h2)))) := by
  obtain ⟨n_s, n1_s, n2_s, n3_s, n4_s⟩ := hs
  have n5_s : (h_s.2.1 102 12).toInt = (n_s : Int) := by
    rw [n3_s]
    exact n2_s
  obtain ⟨nh, ni, nr, hc_s, hh, hi_, hd_s, hz, hl⟩ := hx
  obtain ⟨qa, qb, lw, l1, l2, l3, l4, l5⟩ := hl
  refine wF_le (Nat.le_succ F_s) (sg_101_0 hk (fun q_s r1_s m1_s => ?_))
  have eq_s : qb = q_s := Option.some.inj (l2.symm.trans r1_s)
  subst eq_s
  refine sp_63 (f_s := h_s.2.1) (n_s := n_s) m1_s hk n2_s n1_s (fun v_s f1_s fr1 hr hk1 => ?_)
  obtain ⟨k_s, r_s, hr1, hr2⟩ := hr
  have htk : ∀ a_s, tkF h_s.2.1 a_s = if (a_s : Int) < (n_s : Int) then (h_s.2.1 109 a_s).toInt else -1 := by
    intro a_s
    unfold tkF
    rw [n2_s]
    by_cases e_s : (a_s : Int) < (n_s : Int)
    · rw [if_pos e_s, if_pos e_s, (n4_s a_s (by omega)).1]
    · rw [if_neg e_s, if_neg e_s]
  have hpos : ∀ a_s, a_s < n_s → 0 ≤ tkF h_s.2.1 a_s := by
    intro a_s ha_s
    unfold tkF
    rw [if_pos (by omega)]
    exact (n4_s a_s ha_s).2
  have fq : ∀ o k_s, ¬ o = 40 → ¬ (o = qb ∨ o = qb + 1) → f1_s o k_s = h_s.2.1 o k_s := fun o k_s q1_s q2_s => fr1 o k_s (by omega) (by omega) (by omega)
  have go_s : ∀ (rr : Nat → Nat → Option Nat) (hk2 : hKn (h_s.1, zup f1_s 40 1 0, h_s.2.2.1, rr)) (u_s : Int32), (∀ (e_s k1_s : Nat) (w_s : Int32) f2_s, ptx (tkF h_s.2.1) n_s k1_s 0 [] (.inl e_s) → w_s.toInt = (e_s : Int) → (∀ o k_s, ¬ o = 40 → ¬ (o = 102 ∧ (k_s = 12 ∨ 15 ≤ k_s ∧ k_s ≤ 19)) → f2_s o k_s = f1_s o k_s) → u_s = -100 - w_s ∧ tLw (h_s.1, f2_s, h_s.2.2.1, rr)) → (∀ (k1_s : Nat) (ls : List pB) f2_s, ptx (tkF h_s.2.1) n_s k1_s 0 [] (.inr ls) → (f2_s 102 14).toInt = (n_s : Int) → (∀ k_s, k_s < n_s → f2_s 110 k_s = h_s.2.1 109 k_s) → (∀ o k_s, ¬ o = 40 → ¬ (o = 102 ∧ 12 ≤ k_s ∧ k_s ≤ 19) → ¬ o = 110 → f2_s o k_s = f1_s o k_s) → u_s = 1 ∧ tLw (h_s.1, f2_s, h_s.2.2.1, rr)) → wF F_s 177 (0, [some (.ref 102), none, none, none], [], (h_s.1, zup f1_s 40 1 0, h_s.2.2.1, rr)) (gI (fun v2 h2 => u_s = v2 ∧ tT h2 ∧ tX h2)) := by
    intro rr hk2 u_s hu1 hu2
    have ff_s : ∀ o k_s, (o = 102 ∨ o = 109) → zup f1_s 40 1 0 o k_s = h_s.2.1 o k_s := fun o k_s ho => by
      rw [zne_up (by omega)]
      exact fq o k_s (by omega) (by omega)
    refine sp_177 (h_s := (h_s.1, zup f1_s 40 1 0, h_s.2.2.1, rr)) (tk := tkF h_s.2.1) (n_s := n_s) (f_s := zup f1_s 40 1 0) hk2 (by rw [ff_s _ _ (Or.inl rfl)]; exact n5_s) n1_s (fun a_s => by rw [ff_s _ _ (Or.inr rfl)]; exact htk a_s) hpos (fun e_s k1_s w_s f2_s b1 b2 b3 b4 => ?_) (fun k1_s ls f2_s b1 b2 b3 b4 b5 => ?_)
    · have q0 : ∀ o k_s, ¬ o = 40 → ¬ (o = 102 ∧ (k_s = 12 ∨ 15 ≤ k_s ∧ k_s ≤ 19)) → f2_s o k_s = f1_s o k_s := fun o k_s s1_s s2_s => by
        rw [b4 o k_s s2_s, zne_up (by omega)]
      obtain ⟨p1_s, p2_s⟩ := hu1 e_s k1_s w_s f2_s b1 b2 q0
      refine ⟨p1_s, ⟨0, by omega, ?_, ?_, fun j_s hj => by omega⟩, tX_law (h_s := h_s) (q_s := qb) (n_s := n_s) hc_s hh hi_ hd_s hz m1_s p2_s (fun o k_s s1_s s2_s s3_s s4_s => ?_)⟩
      · dsimp only
        rw [b4 40 1 (by omega), zsame_up]
        rfl
      · dsimp only
        rw [b3, b4 40 1 (by omega), zsame_up]
      · show f2_s o k_s = h_s.2.1 o k_s
        rw [q0 o k_s s1_s (by omega)]
        exact fq o k_s s1_s s2_s
    · have q0 : ∀ o k_s, ¬ o = 40 → ¬ (o = 102 ∧ 12 ≤ k_s ∧ k_s ≤ 19) → ¬ o = 110 → f2_s o k_s = f1_s o k_s := fun o k_s s1_s s2_s s3_s => by
        rw [b5 o k_s s2_s (by omega), zne_up (by omega)]
      obtain ⟨p1_s, p2_s⟩ := hu2 k1_s ls f2_s b1 b3 (fun k_s hkn => by rw [b4 k_s hkn, ff_s 109 k_s (Or.inr rfl)]) q0
      refine ⟨p1_s, ⟨0, by omega, ?_, ?_, fun j_s hj => by omega⟩, tX_law (h_s := h_s) (q_s := qb) (n_s := n_s) hc_s hh hi_ hd_s hz m1_s p2_s (fun o k_s s1_s s2_s s3_s s4_s => ?_)⟩
      · dsimp only
        rw [b5 40 1 (by omega) (by omega), zsame_up]
        rfl
      · dsimp only
        rw [b2, b5 40 1 (by omega) (by omega), zsame_up]
      · show f2_s o k_s = h_s.2.1 o k_s
        rw [q0 o k_s s1_s s3_s s4_s]
        exact fq o k_s s1_s s2_s
  match r_s, hr1, hr2 with
  | .inl e_s, hr1, hr2 =>
    have hr2 : v_s.toInt = (e_s : Int) := hr2
    refine ⟨fun c_s => absurd c_s (by omega), fun _ => ?_⟩
    refine go_s h_s.2.2.2 hk1 _ (fun e1_s k1_s w_s f2_s d1_s d2_s d3_s => ?_) (fun k1_s ls f2_s d1_s d2_s d3_s d4_s => ?_)
    · have q1_s := ptx_det hr1 d1_s
      cases q1_s
      refine ⟨by rw [Int32.toInt_inj.mp (hr2.trans d2_s.symm)], qa, qb, lw, l1, l2, l3, lawC_q (f_s := h_s.2.1) (fun a_s k_s ha_s => ?_) l4, lawR_fr (f_s := h_s.2.1) ?_ (fun k_s hk1 => ?_) l5⟩
      · show f2_s a_s k_s = h_s.2.1 a_s k_s
        rw [d3_s a_s k_s (by omega) (by omega)]
        exact fq a_s k_s (by omega) (by omega)
      · show f2_s 102 14 = h_s.2.1 102 14
        rw [d3_s 102 14 (by omega) (by omega)]
        exact fq 102 14 (by omega) (by omega)
      · show f2_s 110 k_s = h_s.2.1 110 k_s
        rw [d3_s 110 k_s (by omega) (by omega)]
        exact fq 110 k_s (by omega) (by omega)
    · have q1_s := ptx_det hr1 d1_s
      cases q1_s
  | .inr ls, hr1, hr2 =>
    obtain ⟨s1_s, s2_s, s3_s, s4_s, s5⟩ := hr2
    refine ⟨fun _ => fun q4_s r4 m4_s => ?_, fun c_s => absurd s1_s c_s⟩
    have e4_s : qa = q4_s := Option.some.inj (l1.symm.trans r4)
    subst e4_s
    refine go_s (zup (zup h_s.2.2.2 7 10 (some qa)) 7 9 (some qb)) (show hKn (h_s.1, f1_s, h_s.2.2.1, zup (zup h_s.2.2.2 7 10 (some qa)) 7 9 (some qb)) from hkr9 (h_s := (h_s.1, f1_s, h_s.2.2.1, zup h_s.2.2.2 7 10 (some qa))) (hkr10 (h_s := (h_s.1, f1_s, h_s.2.2.1, h_s.2.2.2)) hk1 m4_s) m1_s) 1 (fun e1_s k1_s w_s f2_s d1_s d2_s d3_s => ?_) (fun k1_s ls1 f2_s d1_s d2_s d3_s d4_s => ?_)
    · have q1_s := ptx_det hr1 d1_s
      cases q1_s
    · have q1_s := ptx_det hr1 d1_s
      cases q1_s
      have c2_s : ∀ a_s k_s, (a_s = qb ∨ a_s = qb + 1) → f2_s a_s k_s = f1_s a_s k_s := fun a_s k_s ha_s => d4_s a_s k_s (by omega) (by omega) (by omega)
      refine ⟨rfl, qb, qa, some ls, ?_, ?_, by omega, ⟨?_, s3_s, fun j_s c_s hj => ?_, ?_, ptx_OK hr1 (fun p_s hp => by cases hp), ptx_ne hr1⟩, n_s, k_s, d2_s, n1_s, fun a_s ha_s => ?_, ?_⟩
      · show zup (zup h_s.2.2.2 7 10 (some qa)) 7 9 (some qb) 7 9 = some qb
        exact zsame_up
      · show zup (zup h_s.2.2.2 7 10 (some qa)) 7 9 (some qb) 7 10 = some qa
        rw [zne_up (by omega), zsame_up]
      · show (f2_s qb 2).toInt = _
        rw [c2_s qb 2 (Or.inl rfl)]
        exact s2_s
      · show f2_s (qb + 1) j_s = c_s
        rw [c2_s (qb + 1) j_s (Or.inr rfl)]
        exact s4_s j_s c_s hj
      · show f2_s qb 0 = _
        rw [c2_s qb 0 (Or.inl rfl)]
        exact s5
      · show 0 ≤ (f2_s 110 a_s).toInt
        have p_s := hpos a_s ha_s
        rw [htk a_s, if_pos (by omega)] at p_s
        rw [d3_s a_s ha_s]
        exact p_s
      · have ef : (fun a_s : Nat => if (a_s : Int) < (n_s : Int) then (f2_s 110 a_s).toInt else -1) = tkF h_s.2.1 := by
          funext a_s
          rw [htk a_s]
          by_cases e_s : (a_s : Int) < (n_s : Int)
          · rw [if_pos e_s, if_pos e_s, d3_s a_s (by omega)]
          · rw [if_neg e_s, if_neg e_s]
        show ptx (fun a_s : Nat => if (a_s : Int) < (n_s : Int) then (f2_s 110 a_s).toInt else -1) n_s k_s 0 [] (.inr ls)
        rw [ef]
        exact hr1
end R9
/-! BITS of a number. -/
noncomputable def btv (x_s : Int32) (k_s : Nat) : Bool := x_s.toBitVec.getLsbD k_s
theorem sh_ix : ∀ k_s, k_s < 32 → (((Int32.ofNat k_s) &&& 31).toBitVec.smod 32).toNat = k_s := by decide
theorem y_of {y_s : Int32} {k_s : Nat} (hy : y_s.toInt = (k_s : Int)) (hk : k_s < 32) : y_s = Int32.ofNat k_s := Int32.toInt_inj.mp (by rw [na_ofn (by omega), hy])
theorem bt_or (x_s z_s : Int32) (k_s : Nat) : btv (x_s ||| z_s) k_s = (btv x_s k_s || btv z_s k_s) := by
  unfold btv
  show (x_s.toBitVec ||| z_s.toBitVec).getLsbD k_s = _
  rw [BitVec.getLsbD_or]
theorem bt_and (x_s z_s : Int32) (k_s : Nat) : btv (x_s &&& z_s) k_s = (btv x_s k_s && btv z_s k_s) := by
  unfold btv
  show (x_s.toBitVec &&& z_s.toBitVec).getLsbD k_s = _
  rw [BitVec.getLsbD_and]
theorem bt_0 (k_s : Nat) : btv 0 k_s = false := by
  unfold btv
  show (0#32).getLsbD k_s = false
  exact BitVec.getLsbD_zero
theorem bt_1 {k_s : Nat} : btv 1 k_s = decide (k_s = 0) := by
  unfold btv
  show (1#32).getLsbD k_s = decide (k_s = 0)
  rw [BitVec.getLsbD_one]
  simp
theorem bt_ext {x_s z_s : Int32} (h_s : ∀ k_s, k_s < 32 → btv x_s k_s = btv z_s k_s) : x_s = z_s := by
  have e_s : x_s.toBitVec = z_s.toBitVec := BitVec.eq_of_getLsbD_eq (fun k_s hk => h_s k_s hk)
  exact Int32.toBitVec_inj.mp e_s
theorem bt_shl {y_s : Int32} {j_s k_s : Nat} (hy : y_s.toInt = (j_s : Int)) (hj : j_s < 32) (hk : k_s < 32) : btv (1 <<< (y_s &&& 31)) k_s = decide (k_s = j_s) := by
  rw [y_of hy hj]
  unfold btv
  show ((1#32) <<< (((Int32.ofNat j_s) &&& 31).toBitVec.smod 32)).getLsbD k_s = decide (k_s = j_s)
  rw [BitVec.shiftLeft_eq', sh_ix j_s hj, BitVec.getLsbD_shiftLeft, BitVec.getLsbD_one]
  by_cases e_s : k_s = j_s
  · subst e_s
    simp [hk]
  · by_cases e1_s : k_s < j_s
    · simp [e_s, e1_s]
    · have e2_s : ¬ k_s - j_s = 0 := by omega
      simp [e_s, e2_s]
theorem bt_shr {x_s y_s : Int32} {k_s : Nat} (hy : y_s.toInt = (k_s : Int)) (hk : k_s < 32) : ((x_s >>> (y_s &&& 31)) &&& 1) = if btv x_s k_s = true then 1 else 0 := by
  have e_s : ∀ j_s, j_s < 32 → btv ((x_s >>> (y_s &&& 31)) &&& 1) j_s = (decide (j_s = 0) && btv x_s k_s) := by
    intro j_s hj
    rw [bt_and, bt_1]
    by_cases e0_s : j_s = 0
    · subst e0_s
      rw [decide_eq_true rfl, Bool.true_and, Bool.and_true, y_of hy hk]
      unfold btv
      show (x_s.toBitVec.sshiftRight (((Int32.ofNat k_s) &&& 31).toBitVec.smod 32).toNat).getLsbD 0 = x_s.toBitVec.getLsbD k_s
      rw [sh_ix k_s hk, BitVec.getLsbD_sshiftRight]
      simp [hk]
    · rw [decide_eq_false e0_s, Bool.false_and, Bool.and_false]
  refine bt_ext (fun j_s hj => ?_)
  rw [e_s j_s hj]
  cases h_s : btv x_s k_s with
  | false => rw [if_neg Bool.false_ne_true, bt_0, Bool.and_false]
  | true => rw [if_pos rfl, bt_1, Bool.and_true]
theorem bt_tst {x_s y_s : Int32} {k_s : Nat} (hy : y_s.toInt = (k_s : Int)) (hk : k_s < 32) : (((x_s >>> (y_s &&& 31)) &&& 1).toInt = 0 ↔ btv x_s k_s = false) ∧ (((x_s >>> (y_s &&& 31)) &&& 1).toInt = 1 ↔ btv x_s k_s = true) := by
  rw [bt_shr hy hk]
  cases h_s : btv x_s k_s with
  | false =>
    rw [if_neg Bool.false_ne_true]
    exact ⟨⟨fun _ => rfl, fun _ => rfl⟩, ⟨fun w_s => absurd w_s (by decide), fun w_s => absurd w_s Bool.false_ne_true⟩⟩
  | true =>
    rw [if_pos rfl]
    exact ⟨⟨fun w_s => absurd w_s (by decide), fun w_s => absurd w_s.symm Bool.false_ne_true⟩, ⟨fun _ => rfl, fun _ => rfl⟩⟩
/-! ALL ASK: that the heads' asking ends as if they chose by rank, one after the other. -/
noncomputable def GSI (nh ni : Nat) (ky : Nat → Nat → Int) (hk : Nat → Int) (hb_s : Nat → Int) (ak : Nat → Nat → Bool) : Prop := (∀ i_s, i_s < ni → hb_s i_s = -1 ∨ ∃ p_s : Nat, p_s < nh ∧ hb_s i_s = (p_s : Int)) ∧ (∀ i_s p_s, i_s < ni → p_s < nh → hb_s i_s = (p_s : Int) → ak p_s i_s = true) ∧ (∀ i_s p_s, i_s < ni → p_s < nh → ak p_s i_s = true → ∃ q_s : Nat, q_s < nh ∧ hb_s i_s = (q_s : Int) ∧ hk q_s ≤ hk p_s) ∧ (∀ i_s o p_s, i_s < ni → o < ni → p_s < nh → ak p_s i_s = true → ak p_s o = false → ky p_s i_s < ky p_s o) ∧ (∀ i_s j_s p_s, i_s < ni → j_s < ni → p_s < nh → hb_s i_s = (p_s : Int) → hb_s j_s = (p_s : Int) → i_s = j_s)
noncomputable def SDp (nh ni : Nat) (ky : Nat → Nat → Int) (hk : Nat → Int) (hd_s : Nat → Int) (p_s : Nat) : Prop := (hd_s p_s = -2 ∧ ∀ i_s : Nat, i_s < ni → ∃ q_s : Nat, q_s < nh ∧ hk q_s < hk p_s ∧ hd_s q_s = (i_s : Int)) ∨ (∃ i_s : Nat, i_s < ni ∧ hd_s p_s = (i_s : Int) ∧ (∀ q_s : Nat, q_s < nh → hk q_s < hk p_s → ¬ hd_s q_s = (i_s : Int)) ∧ ∀ o : Nat, o < ni → ¬ o = i_s → (∃ q_s : Nat, q_s < nh ∧ hk q_s < hk p_s ∧ hd_s q_s = (o : Int)) ∨ ky p_s i_s < ky p_s o)
section GA
variable {nh ni : Nat} {ky : Nat → Nat → Int} {hk : Nat → Int} {hb_s hb1 : Nat → Int} {ak ak1 : Nat → Nat → Bool} {hd_s : Nat → Int} {p_s b_s : Nat}
theorem GS_take (G_s : GSI nh ni ky hk hb_s ak) (hp : p_s < nh) (h0 : ∀ i_s, i_s < ni → ¬ hb_s i_s = (p_s : Int)) (hb_ : b_s < ni) (hm_s : ∀ o, o < ni → ak p_s o = false → o = b_s ∨ ky p_s b_s < ky p_s o) (h1 : hb_s b_s = -1 ∨ ∃ q_s : Nat, q_s < nh ∧ hb_s b_s = (q_s : Int) ∧ hk p_s < hk q_s) (e1_s : hb1 b_s = (p_s : Int)) (e2_s : ∀ i_s, ¬ i_s = b_s → hb1 i_s = hb_s i_s) (e3_s : ak1 p_s b_s = true) (e4_s : ∀ q_s i_s, ¬ (q_s = p_s ∧ i_s = b_s) → ak1 q_s i_s = ak q_s i_s) : GSI nh ni ky hk hb1 ak1 := by
  obtain ⟨g1, g2, g3_s, g4, g5_s⟩ := G_s
  refine ⟨fun i_s hi_s => ?_, fun i_s q_s hi_s hq w_s => ?_, fun i_s q_s hi_s hq w_s => ?_, fun i_s o q_s hi_s ho hq w1_s w2_s => ?_, fun i_s j_s q_s hi_s hj hq w1_s w2_s => ?_⟩
  · by_cases e_s : i_s = b_s
    · rw [e_s, e1_s]
      exact Or.inr ⟨p_s, hp, rfl⟩
    · rw [e2_s i_s e_s]
      exact g1 i_s hi_s
  · by_cases e_s : i_s = b_s
    · rw [e_s, e1_s] at w_s
      have eq_s : q_s = p_s := by omega
      rw [eq_s, e_s]
      exact e3_s
    · rw [e2_s i_s e_s] at w_s
      rw [e4_s q_s i_s (fun u_s => e_s u_s.2)]
      exact g2 i_s q_s hi_s hq w_s
  · by_cases e_s : i_s = b_s
    · subst e_s
      refine ⟨p_s, hp, e1_s, ?_⟩
      by_cases eq_s : q_s = p_s
      · rw [eq_s]
        exact Int.le_refl _
      · rw [e4_s q_s i_s (fun u_s => eq_s u_s.1)] at w_s
        obtain ⟨r_s, r1_s, r2, r3⟩ := g3_s i_s q_s hi_s hq w_s
        rcases h1 with h1 | ⟨r', s1_s, s2_s, s3_s⟩
        · omega
        · have er : r_s = r' := by omega
          subst er
          omega
    · rw [e4_s q_s i_s (fun u_s => e_s u_s.2)] at w_s
      rw [e2_s i_s e_s]
      exact g3_s i_s q_s hi_s hq w_s
  · have w2' : ak q_s o = false := by
      by_cases eo : q_s = p_s ∧ o = b_s
      · rw [eo.1, eo.2, e3_s] at w2_s
        cases w2_s
      · rw [e4_s q_s o eo] at w2_s
        exact w2_s
    by_cases e_s : q_s = p_s ∧ i_s = b_s
    · obtain ⟨rfl, rfl⟩ := e_s
      rcases hm_s o ho w2' with u_s | u_s
      · subst u_s
        rw [e3_s] at w2_s
        cases w2_s
      · exact u_s
    · rw [e4_s q_s i_s e_s] at w1_s
      exact g4 i_s o q_s hi_s ho hq w1_s w2'
  · by_cases e_s : i_s = b_s
    · rw [e_s, e1_s] at w1_s
      have eq_s : q_s = p_s := by omega
      by_cases f_s : j_s = b_s
      · rw [e_s, f_s]
      · rw [e2_s j_s f_s, eq_s] at w2_s
        exact absurd w2_s (h0 j_s hj)
    · rw [e2_s i_s e_s] at w1_s
      by_cases f_s : j_s = b_s
      · rw [f_s, e1_s] at w2_s
        have eq_s : q_s = p_s := by omega
        rw [eq_s] at w1_s
        exact absurd w1_s (h0 i_s hi_s)
      · rw [e2_s j_s f_s] at w2_s
        exact g5_s i_s j_s q_s hi_s hj hq w1_s w2_s
theorem GS_leave (G_s : GSI nh ni ky hk hb_s ak) (hp : p_s < nh) (hb_ : b_s < ni) (hm_s : ∀ o, o < ni → ak p_s o = false → o = b_s ∨ ky p_s b_s < ky p_s o) (h1 : ∃ q_s : Nat, q_s < nh ∧ hb_s b_s = (q_s : Int) ∧ hk q_s ≤ hk p_s) (e3_s : ak1 p_s b_s = true) (e4_s : ∀ q_s i_s, ¬ (q_s = p_s ∧ i_s = b_s) → ak1 q_s i_s = ak q_s i_s) : GSI nh ni ky hk hb_s ak1 := by
  obtain ⟨g1, g2, g3_s, g4, g5_s⟩ := G_s
  refine ⟨g1, fun i_s q_s hi_s hq w_s => ?_, fun i_s q_s hi_s hq w_s => ?_, fun i_s o q_s hi_s ho hq w1_s w2_s => ?_, g5_s⟩
  · by_cases e_s : q_s = p_s ∧ i_s = b_s
    · rw [e_s.1, e_s.2]
      exact e3_s
    · rw [e4_s q_s i_s e_s]
      exact g2 i_s q_s hi_s hq w_s
  · by_cases e_s : q_s = p_s ∧ i_s = b_s
    · rw [e_s.1, e_s.2]
      exact h1
    · rw [e4_s q_s i_s e_s] at w_s
      exact g3_s i_s q_s hi_s hq w_s
  · have w2' : ak q_s o = false := by
      by_cases eo : q_s = p_s ∧ o = b_s
      · rw [eo.1, eo.2, e3_s] at w2_s
        cases w2_s
      · rw [e4_s q_s o eo] at w2_s
        exact w2_s
    by_cases e_s : q_s = p_s ∧ i_s = b_s
    · obtain ⟨rfl, rfl⟩ := e_s
      rcases hm_s o ho w2' with u_s | u_s
      · subst u_s
        rw [e3_s] at w2_s
        cases w2_s
      · exact u_s
    · rw [e4_s q_s i_s e_s] at w1_s
      exact g4 i_s o q_s hi_s ho hq w1_s w2'
theorem GS_start (h1 : ∀ i_s, i_s < ni → hb_s i_s = -1) (h2 : ∀ p_s i_s, p_s < nh → i_s < ni → ak p_s i_s = false) : GSI nh ni ky hk hb_s ak := by
  refine ⟨fun i_s hi_s => Or.inl (h1 i_s hi_s), fun i_s q_s hi_s hq w_s => ?_, fun i_s q_s hi_s hq w_s => ?_, fun i_s o q_s hi_s ho hq w1_s w2_s => ?_, fun i_s j_s q_s hi_s hj hq w1_s w2_s => ?_⟩
  · rw [h1 i_s hi_s] at w_s
    omega
  · rw [h2 q_s i_s hq hi_s] at w_s
    cases w_s
  · rw [h2 q_s i_s hq hi_s] at w1_s
    cases w1_s
  · rw [h1 i_s hi_s] at w1_s
    omega
theorem GS_SD (hinj : ∀ p_s q_s, p_s < nh → q_s < nh → hk p_s = hk q_s → p_s = q_s) (hk0 : ∀ p_s, p_s < nh → 0 ≤ hk p_s) (G_s : GSI nh ni ky hk hb_s ak) (dn : ∀ p_s, p_s < nh → (∃ i_s, i_s < ni ∧ hb_s i_s = (p_s : Int)) ∨ ∀ i_s, i_s < ni → ak p_s i_s = true) (S_s : ∀ p_s, p_s < nh → SDp nh ni ky hk hd_s p_s) : ∀ (n_s p_s : Nat), p_s < nh → hk p_s < (n_s : Int) → ∀ i_s, i_s < ni → (hd_s p_s = (i_s : Int) ↔ hb_s i_s = (p_s : Int))
  | 0, p_s, hp, hn, _, _ => by
    have := hk0 p_s hp
    omega
  | n_s + 1, p_s, hp, hn, i_s, hi_s => by
    obtain ⟨g1, g2, g3_s, g4, g5_s⟩ := G_s
    have ih_s : ∀ q_s, q_s < nh → hk q_s < hk p_s → ∀ j_s, j_s < ni → (hd_s q_s = (j_s : Int) ↔ hb_s j_s = (q_s : Int)) := fun q_s hq hl j_s hj => GS_SD hinj hk0 ⟨g1, g2, g3_s, g4, g5_s⟩ dn S_s n_s q_s hq (by omega) j_s hj
    have fw : ∀ i_s, i_s < ni → hd_s p_s = (i_s : Int) → hb_s i_s = (p_s : Int) := by
      intro i_s hi_s w_s
      rcases S_s p_s hp with ⟨s1_s, _⟩ | ⟨i1_s, s1_s, s2_s, s3_s, s4_s⟩
      · omega
      · have ei : i1_s = i_s := by omega
        subst ei
        have fin_s : ak p_s i1_s = true → hb_s i1_s = (p_s : Int) := fun a_s => by
          obtain ⟨q_s, q1_s, q2_s, q3_s⟩ := g3_s i1_s p_s hi_s hp a_s
          by_cases l : hk q_s < hk p_s
          · exact absurd ((ih_s q_s q1_s l i1_s hi_s).mpr q2_s) (s3_s q_s q1_s l)
          · have eq_s : q_s = p_s := hinj q_s p_s q1_s hp (by omega)
            rw [eq_s] at q2_s
            exact q2_s
        rcases dn p_s hp with ⟨j_s, j1, j2_s⟩ | d_s
        · by_cases e_s : j_s = i1_s
          · rw [← e_s]
            exact j2_s
          · cases ea : ak p_s i1_s with
            | true => exact fin_s ea
            | false =>
              exfalso
              have l := g4 j_s i1_s p_s j1 hi_s hp (g2 j_s p_s j1 hp j2_s) ea
              rcases s4_s j_s j1 e_s with ⟨q_s, q1_s, q2_s, q3_s⟩ | u_s
              · have := (ih_s q_s q1_s q2_s j_s j1).mp q3_s
                have eq_s : q_s = p_s := by omega
                rw [eq_s] at q2_s
                omega
              · omega
        · exact fin_s (d_s i1_s hi_s)
    refine ⟨fw i_s hi_s, fun w_s => ?_⟩
    rcases S_s p_s hp with ⟨_, s2_s⟩ | ⟨i1_s, s1_s, s2_s, s3_s, s4_s⟩
    · obtain ⟨q_s, q1_s, q2_s, q3_s⟩ := s2_s i_s hi_s
      have := (ih_s q_s q1_s q2_s i_s hi_s).mp q3_s
      have eq_s : q_s = p_s := by omega
      rw [eq_s] at q2_s
      omega
    · have u_s := fw i1_s s1_s s2_s
      rw [g5_s i_s i1_s p_s hi_s s1_s hp w_s u_s]
      exact s2_s
end GA
/-- how many bits ahead of n are set -/
noncomputable def cnB (s_s : Int32) : Nat → Nat
  | 0 => 0
  | n_s + 1 => cnB s_s n_s + (if btv s_s n_s = true then 1 else 0)
theorem cnB_le (s_s : Int32) : ∀ n_s, cnB s_s n_s ≤ n_s
  | 0 => Nat.le_refl 0
  | n_s + 1 => by
    have := cnB_le s_s n_s
    show cnB s_s n_s + (if btv s_s n_s = true then 1 else 0) ≤ n_s + 1
    split <;> omega
theorem cnB_all (s_s : Int32) : ∀ n_s, cnB s_s n_s = n_s → ∀ k_s, k_s < n_s → btv s_s k_s = true
  | 0, _, k_s, hk => absurd hk (Nat.not_lt_zero k_s)
  | n_s + 1, h_s, k_s, hk => by
    have l := cnB_le s_s n_s
    have h_s : cnB s_s n_s + (if btv s_s n_s = true then 1 else 0) = n_s + 1 := h_s
    split at h_s
    · rename_i c_s
      by_cases e_s : k_s = n_s
      · rw [e_s]
        exact c_s
      · exact cnB_all s_s n_s (by omega) k_s (by omega)
    · omega
theorem cnB_set {s_s s1_s : Int32} {v_s : Nat} (h1 : btv s_s v_s = false) (h2 : btv s1_s v_s = true) (h3 : ∀ k_s, k_s < 32 → ¬ k_s = v_s → btv s1_s k_s = btv s_s k_s) : ∀ n_s, n_s ≤ 32 → cnB s1_s n_s = cnB s_s n_s + (if v_s < n_s then 1 else 0)
  | 0, _ => rfl
  | n_s + 1, hn => by
    have ih_s := cnB_set h1 h2 h3 n_s (by omega)
    show cnB s1_s n_s + (if btv s1_s n_s = true then 1 else 0) = cnB s_s n_s + (if btv s_s n_s = true then 1 else 0) + (if v_s < n_s + 1 then 1 else 0)
    rw [ih_s]
    by_cases e_s : n_s = v_s
    · subst e_s
      rw [h1, h2, if_neg (by omega), if_pos rfl, if_neg Bool.false_ne_true, if_pos (by omega)]
    · rw [h3 n_s (by omega) e_s]
      by_cases l : v_s < n_s
      · rw [if_pos l, if_pos (show v_s < n_s + 1 by omega)]
        omega
      · rw [if_neg l, if_neg (show ¬ v_s < n_s + 1 by omega)]
        omega
/-! What ended runs give: printed by a program (wip/fun/sg.py). -/
/-- ColdShod$Country.isRatherHead(II)Z, from 0 on -/
theorem sg_28_0 {F_s : Nat} {x1_s x2_s : Int32} {h_s : zH} {K_s : Int32 → zH → Prop} (hk : hKn h_s) (t_s : (x2_s.toInt < 0 → K_s 1 h_s) ∧ (¬ x2_s.toInt < 0 → ((x2_s.toInt < (h_s.2.1 7 6).toInt → (zix x1_s < 6 → (zix x2_s < 6 → ((h_s.2.1 9 (zix x1_s)).toInt = (h_s.2.1 9 (zix x2_s)).toInt → ((x1_s.toInt < x2_s.toInt → K_s 1 h_s) ∧ (¬ x1_s.toInt < x2_s.toInt → K_s 0 h_s))) ∧ (¬ (h_s.2.1 9 (zix x1_s)).toInt = (h_s.2.1 9 (zix x2_s)).toInt → (((h_s.2.1 9 (zix x2_s)).toInt < (h_s.2.1 9 (zix x1_s)).toInt → K_s 1 h_s) ∧ (¬ (h_s.2.1 9 (zix x2_s)).toInt < (h_s.2.1 9 (zix x1_s)).toInt → K_s 0 h_s)))))) ∧ (¬ x2_s.toInt < (h_s.2.1 7 6).toInt → K_s 1 h_s)))) : wF (F_s + 1) 28 (0, [some (.ref 7), some (.int x1_s), some (.int x2_s)], [], h_s) (gI K_s) := by
  refine w_0 (pc := 0) (e_s := (3, 1, 0, 0, 0, .null, [])) (y_s := (1, [some (.ref _), some (.int _), some (.int _)], [.ref _], _)) rfl (u_ rfl) ?_
  refine w_t (pc := 1) (e_s := (1, 1, 2, 0, 0, .null, [])) (y_s := (2, [some (.ref _), some (.int _), some (.int _)], [.int _, .ref _], _)) rfl (u_ rfl) ?_
  refine wcI (pc := 2) (len_s := 3) rfl rfl (l := [some (.ref _), some (.int _)]) rfl ?_
  refine w_t (pc := 0) (e_s := (1, 1, 1, 0, 0, .null, [])) (y_s := (1, [some (.ref _), some (.int _)], [.int _], _)) rfl (u_ rfl) ?_
  refine wq2 (pc := 1) (len_s := 3) rfl rfl (fun c1_s => ?_) (fun c1_s => ?_)
  · replace t_s := t_s.1 c1_s
    refine w_t (pc := 16) (e_s := (0, 1, 0, 0, 0, .int 0, [])) (y_s := (17, [some (.ref _), some (.int _)], [.int _], _)) rfl (u_ rfl) ?_
    refine wrI (pc := 17) (len_s := 1) rfl hk ?_
    show wF _ 28 (5, [some (.ref _), some (.int _), some (.int _)], [.int _], _) _
    refine w_t (pc := 5) (e_s := (15, 3, 10, 1, 0, .null, [])) (y_s := (8, [some (.ref _), some (.int _), some (.int _)], [], _)) rfl (u_ rfl) ?_
    refine w_t (pc := 8) (e_s := (0, 1, 0, 0, 0, .int 1, [])) (y_s := (9, [some (.ref _), some (.int _), some (.int _)], [.int _], _)) rfl (u_ rfl) ?_
    exact wrI (pc := 9) (len_s := 1) rfl hk t_s
  · replace t_s := t_s.2 c1_s
    refine w_t (pc := 4) (e_s := (1, 1, 1, 0, 0, .null, [])) (y_s := (5, [some (.ref _), some (.int _)], [.int _], _)) rfl (u_ rfl) ?_
    refine w_t (pc := 5) (e_s := (3, 1, 0, 0, 0, .null, [])) (y_s := (6, [some (.ref _), some (.int _)], [.ref _, .int _], _)) rfl (u_ rfl) ?_
    refine w20 (pc := 6) (len_s := 3) rfl ?_
    refine wi3 (pc := 9) (len_s := 3) rfl rfl rfl (fun c2_s => ?_) (fun c2_s => ?_)
    · replace t_s := t_s.1 c2_s
      refine w_t (pc := 12) (e_s := (0, 1, 0, 0, 0, .int 1, [])) (y_s := (13, [some (.ref _), some (.int _)], [.int _], _)) rfl (u_ rfl) ?_
      refine w_t (pc := 13) (e_s := (17, 3, 17, 0, 0, .null, [])) (y_s := (17, [some (.ref _), some (.int _)], [.int _], _)) rfl (u_ rfl) ?_
      refine wrI (pc := 17) (len_s := 1) rfl hk ?_
      show wF _ 28 (5, [some (.ref _), some (.int _), some (.int _)], [.int _], _) _
      refine w_t (pc := 5) (e_s := (15, 3, 10, 1, 0, .null, [])) (y_s := (10, [some (.ref _), some (.int _), some (.int _)], [], _)) rfl (u_ rfl) ?_
      refine w_t (pc := 10) (e_s := (3, 1, 0, 0, 0, .null, [])) (y_s := (11, [some (.ref _), some (.int _), some (.int _)], [.ref _], _)) rfl (u_ rfl) ?_
      refine w20r (pc := 11) (len_s := 3) (q_s := 9) rfl (krq hk rfl) ?_
      refine w_t (pc := 14) (e_s := (1, 1, 1, 0, 0, .null, [])) (y_s := (15, [some (.ref _), some (.int _), some (.int _)], [.int _, .ref _], _)) rfl (u_ rfl) ?_
      refine w22 (pc := 15) (len_s := 1) rfl (hk.1 9 0 6 rfl rfl) (fun c3_s => ?_)
      replace t_s := t_s c3_s
      refine w_t (pc := 16) (e_s := (3, 1, 0, 0, 0, .null, [])) (y_s := (17, [some (.ref _), some (.int _), some (.int _)], [.ref _, .int _], _)) rfl (u_ rfl) ?_
      refine w20r (pc := 17) (len_s := 3) (q_s := 9) rfl (krq hk rfl) ?_
      refine w_t (pc := 20) (e_s := (1, 1, 2, 0, 0, .null, [])) (y_s := (21, [some (.ref _), some (.int _), some (.int _)], [.int _, .ref _, .int _], _)) rfl (u_ rfl) ?_
      refine w22 (pc := 21) (len_s := 1) rfl (hk.1 9 0 6 rfl rfl) (fun c4_s => ?_)
      replace t_s := t_s c4_s
      refine wi0 (pc := 22) (len_s := 3) rfl rfl rfl (fun c5_s => ?_) (fun c5_s => ?_)
      · replace t_s := t_s.1 c5_s
        refine w_t (pc := 48) (e_s := (1, 1, 1, 0, 0, .null, [])) (y_s := (49, [some (.ref _), some (.int _), some (.int _)], [.int _], _)) rfl (u_ rfl) ?_
        refine w_t (pc := 49) (e_s := (1, 1, 2, 0, 0, .null, [])) (y_s := (50, [some (.ref _), some (.int _), some (.int _)], [.int _, .int _], _)) rfl (u_ rfl) ?_
        refine wi3 (pc := 50) (len_s := 3) rfl rfl rfl (fun c6_s => ?_) (fun c6_s => ?_)
        · replace t_s := t_s.1 c6_s
          refine w_t (pc := 53) (e_s := (0, 1, 0, 0, 0, .int 1, [])) (y_s := (54, [some (.ref _), some (.int _), some (.int _)], [.int _], _)) rfl (u_ rfl) ?_
          refine w_t (pc := 54) (e_s := (17, 3, 58, 0, 0, .null, [])) (y_s := (58, [some (.ref _), some (.int _), some (.int _)], [.int _], _)) rfl (u_ rfl) ?_
          exact wrI (pc := 58) (len_s := 1) rfl hk t_s
        · replace t_s := t_s.2 c6_s
          refine w_t (pc := 57) (e_s := (0, 1, 0, 0, 0, .int 0, [])) (y_s := (58, [some (.ref _), some (.int _), some (.int _)], [.int _], _)) rfl (u_ rfl) ?_
          exact wrI (pc := 58) (len_s := 1) rfl hk t_s
      · replace t_s := t_s.2 c5_s
        refine w_t (pc := 25) (e_s := (3, 1, 0, 0, 0, .null, [])) (y_s := (26, [some (.ref _), some (.int _), some (.int _)], [.ref _], _)) rfl (u_ rfl) ?_
        refine w20r (pc := 26) (len_s := 3) (q_s := 9) rfl (krq hk rfl) ?_
        refine w_t (pc := 29) (e_s := (1, 1, 1, 0, 0, .null, [])) (y_s := (30, [some (.ref _), some (.int _), some (.int _)], [.int _, .ref _], _)) rfl (u_ rfl) ?_
        refine w22 (pc := 30) (len_s := 1) rfl (hk.1 9 0 6 rfl rfl) (fun c7_s => ?_)
        refine w_t (pc := 31) (e_s := (3, 1, 0, 0, 0, .null, [])) (y_s := (32, [some (.ref _), some (.int _), some (.int _)], [.ref _, .int _], _)) rfl (u_ rfl) ?_
        refine w20r (pc := 32) (len_s := 3) (q_s := 9) rfl (krq hk rfl) ?_
        refine w_t (pc := 35) (e_s := (1, 1, 2, 0, 0, .null, [])) (y_s := (36, [some (.ref _), some (.int _), some (.int _)], [.int _, .ref _, .int _], _)) rfl (u_ rfl) ?_
        refine w22 (pc := 36) (len_s := 1) rfl (hk.1 9 0 6 rfl rfl) (fun c8_s => ?_)
        refine wi5 (pc := 37) (len_s := 3) rfl rfl rfl (fun c9_s => ?_) (fun c9_s => ?_)
        · replace t_s := t_s.1 c9_s
          refine w_t (pc := 40) (e_s := (0, 1, 0, 0, 0, .int 1, [])) (y_s := (41, [some (.ref _), some (.int _), some (.int _)], [.int _], _)) rfl (u_ rfl) ?_
          refine w_t (pc := 41) (e_s := (17, 3, 58, 0, 0, .null, [])) (y_s := (58, [some (.ref _), some (.int _), some (.int _)], [.int _], _)) rfl (u_ rfl) ?_
          exact wrI (pc := 58) (len_s := 1) rfl hk t_s
        · replace t_s := t_s.2 c9_s
          refine w_t (pc := 44) (e_s := (0, 1, 0, 0, 0, .int 0, [])) (y_s := (45, [some (.ref _), some (.int _), some (.int _)], [.int _], _)) rfl (u_ rfl) ?_
          refine w_t (pc := 45) (e_s := (17, 3, 58, 0, 0, .null, [])) (y_s := (58, [some (.ref _), some (.int _), some (.int _)], [.int _], _)) rfl (u_ rfl) ?_
          exact wrI (pc := 58) (len_s := 1) rfl hk t_s
    · replace t_s := t_s.2 c2_s
      refine w_t (pc := 16) (e_s := (0, 1, 0, 0, 0, .int 0, [])) (y_s := (17, [some (.ref _), some (.int _)], [.int _], _)) rfl (u_ rfl) ?_
      refine wrI (pc := 17) (len_s := 1) rfl hk ?_
      show wF _ 28 (5, [some (.ref _), some (.int _), some (.int _)], [.int _], _) _
      refine w_t (pc := 5) (e_s := (15, 3, 10, 1, 0, .null, [])) (y_s := (8, [some (.ref _), some (.int _), some (.int _)], [], _)) rfl (u_ rfl) ?_
      refine w_t (pc := 8) (e_s := (0, 1, 0, 0, 0, .int 1, [])) (y_s := (9, [some (.ref _), some (.int _), some (.int _)], [.int _], _)) rfl (u_ rfl) ?_
      exact wrI (pc := 9) (len_s := 1) rfl hk t_s
/-- ColdShod$Country.isRatherIdea(III)Z, from 0 on -/
theorem sg_29_0 {F_s : Nat} {x1_s x2_s x3 : Int32} {h_s : zH} {K_s : Int32 → zH → Prop} (hk : hKn h_s) (t_s : (x3.toInt < 0 → K_s 1 h_s) ∧ (¬ x3.toInt < 0 → ((x3.toInt < (h_s.2.1 7 7).toInt → (zix x2_s < 8 → (zix x1_s < 6 → (zix x3 < 8 → ((if ((h_s.2.1 (20 + (zix x2_s)) 1) - (h_s.2.1 8 (zix x1_s))) < 0 then -((h_s.2.1 (20 + (zix x2_s)) 1) - (h_s.2.1 8 (zix x1_s))) else ((h_s.2.1 (20 + (zix x2_s)) 1) - (h_s.2.1 8 (zix x1_s)))).toInt = (if ((h_s.2.1 (20 + (zix x3)) 1) - (h_s.2.1 8 (zix x1_s))) < 0 then -((h_s.2.1 (20 + (zix x3)) 1) - (h_s.2.1 8 (zix x1_s))) else ((h_s.2.1 (20 + (zix x3)) 1) - (h_s.2.1 8 (zix x1_s)))).toInt → (((h_s.2.1 (20 + (zix x2_s)) 2).toInt = (h_s.2.1 (20 + (zix x3)) 2).toInt → ((x2_s.toInt < x3.toInt → K_s 1 h_s) ∧ (¬ x2_s.toInt < x3.toInt → K_s 0 h_s))) ∧ (¬ (h_s.2.1 (20 + (zix x2_s)) 2).toInt = (h_s.2.1 (20 + (zix x3)) 2).toInt → (((h_s.2.1 (20 + (zix x2_s)) 2).toInt < (h_s.2.1 (20 + (zix x3)) 2).toInt → K_s 1 h_s) ∧ (¬ (h_s.2.1 (20 + (zix x2_s)) 2).toInt < (h_s.2.1 (20 + (zix x3)) 2).toInt → K_s 0 h_s))))) ∧ (¬ (if ((h_s.2.1 (20 + (zix x2_s)) 1) - (h_s.2.1 8 (zix x1_s))) < 0 then -((h_s.2.1 (20 + (zix x2_s)) 1) - (h_s.2.1 8 (zix x1_s))) else ((h_s.2.1 (20 + (zix x2_s)) 1) - (h_s.2.1 8 (zix x1_s)))).toInt = (if ((h_s.2.1 (20 + (zix x3)) 1) - (h_s.2.1 8 (zix x1_s))) < 0 then -((h_s.2.1 (20 + (zix x3)) 1) - (h_s.2.1 8 (zix x1_s))) else ((h_s.2.1 (20 + (zix x3)) 1) - (h_s.2.1 8 (zix x1_s)))).toInt → (((if ((h_s.2.1 (20 + (zix x2_s)) 1) - (h_s.2.1 8 (zix x1_s))) < 0 then -((h_s.2.1 (20 + (zix x2_s)) 1) - (h_s.2.1 8 (zix x1_s))) else ((h_s.2.1 (20 + (zix x2_s)) 1) - (h_s.2.1 8 (zix x1_s)))).toInt < (if ((h_s.2.1 (20 + (zix x3)) 1) - (h_s.2.1 8 (zix x1_s))) < 0 then -((h_s.2.1 (20 + (zix x3)) 1) - (h_s.2.1 8 (zix x1_s))) else ((h_s.2.1 (20 + (zix x3)) 1) - (h_s.2.1 8 (zix x1_s)))).toInt → K_s 1 h_s) ∧ (¬ (if ((h_s.2.1 (20 + (zix x2_s)) 1) - (h_s.2.1 8 (zix x1_s))) < 0 then -((h_s.2.1 (20 + (zix x2_s)) 1) - (h_s.2.1 8 (zix x1_s))) else ((h_s.2.1 (20 + (zix x2_s)) 1) - (h_s.2.1 8 (zix x1_s)))).toInt < (if ((h_s.2.1 (20 + (zix x3)) 1) - (h_s.2.1 8 (zix x1_s))) < 0 then -((h_s.2.1 (20 + (zix x3)) 1) - (h_s.2.1 8 (zix x1_s))) else ((h_s.2.1 (20 + (zix x3)) 1) - (h_s.2.1 8 (zix x1_s)))).toInt → K_s 0 h_s))))))) ∧ (¬ x3.toInt < (h_s.2.1 7 7).toInt → K_s 1 h_s)))) : wF (F_s + 1) 29 (0, [some (.ref 7), some (.int x1_s), some (.int x2_s), some (.int x3), none, none], [], h_s) (gI K_s) := by
  refine w_0 (pc := 0) (e_s := (3, 1, 0, 0, 0, .null, [])) (y_s := (1, [some (.ref _), some (.int _), some (.int _), some (.int _), none, none], [.ref _], _)) rfl (u_ rfl) ?_
  refine w_t (pc := 1) (e_s := (1, 1, 3, 0, 0, .null, [])) (y_s := (2, [some (.ref _), some (.int _), some (.int _), some (.int _), none, none], [.int _, .ref _], _)) rfl (u_ rfl) ?_
  refine wcI (pc := 2) (len_s := 3) rfl rfl (l := [some (.ref _), some (.int _)]) rfl ?_
  refine w_t (pc := 0) (e_s := (1, 1, 1, 0, 0, .null, [])) (y_s := (1, [some (.ref _), some (.int _)], [.int _], _)) rfl (u_ rfl) ?_
  refine wq2 (pc := 1) (len_s := 3) rfl rfl (fun c1_s => ?_) (fun c1_s => ?_)
  · replace t_s := t_s.1 c1_s
    refine w_t (pc := 16) (e_s := (0, 1, 0, 0, 0, .int 0, [])) (y_s := (17, [some (.ref _), some (.int _)], [.int _], _)) rfl (u_ rfl) ?_
    refine wrI (pc := 17) (len_s := 1) rfl hk ?_
    show wF _ 29 (5, [some (.ref _), some (.int _), some (.int _), some (.int _), none, none], [.int _], _) _
    refine w_t (pc := 5) (e_s := (15, 3, 10, 1, 0, .null, [])) (y_s := (8, [some (.ref _), some (.int _), some (.int _), some (.int _), none, none], [], _)) rfl (u_ rfl) ?_
    refine w_t (pc := 8) (e_s := (0, 1, 0, 0, 0, .int 1, [])) (y_s := (9, [some (.ref _), some (.int _), some (.int _), some (.int _), none, none], [.int _], _)) rfl (u_ rfl) ?_
    exact wrI (pc := 9) (len_s := 1) rfl hk t_s
  · replace t_s := t_s.2 c1_s
    refine w_t (pc := 4) (e_s := (1, 1, 1, 0, 0, .null, [])) (y_s := (5, [some (.ref _), some (.int _)], [.int _], _)) rfl (u_ rfl) ?_
    refine w_t (pc := 5) (e_s := (3, 1, 0, 0, 0, .null, [])) (y_s := (6, [some (.ref _), some (.int _)], [.ref _, .int _], _)) rfl (u_ rfl) ?_
    refine w20 (pc := 6) (len_s := 3) rfl ?_
    refine wi3 (pc := 9) (len_s := 3) rfl rfl rfl (fun c2_s => ?_) (fun c2_s => ?_)
    · replace t_s := t_s.1 c2_s
      refine w_t (pc := 12) (e_s := (0, 1, 0, 0, 0, .int 1, [])) (y_s := (13, [some (.ref _), some (.int _)], [.int _], _)) rfl (u_ rfl) ?_
      refine w_t (pc := 13) (e_s := (17, 3, 17, 0, 0, .null, [])) (y_s := (17, [some (.ref _), some (.int _)], [.int _], _)) rfl (u_ rfl) ?_
      refine wrI (pc := 17) (len_s := 1) rfl hk ?_
      show wF _ 29 (5, [some (.ref _), some (.int _), some (.int _), some (.int _), none, none], [.int _], _) _
      refine w_t (pc := 5) (e_s := (15, 3, 10, 1, 0, .null, [])) (y_s := (10, [some (.ref _), some (.int _), some (.int _), some (.int _), none, none], [], _)) rfl (u_ rfl) ?_
      refine w_t (pc := 10) (e_s := (3, 1, 0, 0, 0, .null, [])) (y_s := (11, [some (.ref _), some (.int _), some (.int _), some (.int _), none, none], [.ref _], _)) rfl (u_ rfl) ?_
      refine w20r (pc := 11) (len_s := 3) (q_s := 10) rfl (krq hk rfl) ?_
      refine w_t (pc := 14) (e_s := (1, 1, 2, 0, 0, .null, [])) (y_s := (15, [some (.ref _), some (.int _), some (.int _), some (.int _), none, none], [.int _, .ref _], _)) rfl (u_ rfl) ?_
      refine w24 (g_s := fun j_ => 20 + j_) (pc := 15) (len_s := 1) hk rfl (hk.1 10 2 8 rfl rfl) kg10 (fun c3_s => ?_)
      replace t_s := t_s c3_s
      refine w20 (pc := 16) (len_s := 3) rfl ?_
      refine w_t (pc := 19) (e_s := (3, 1, 0, 0, 0, .null, [])) (y_s := (20, [some (.ref _), some (.int _), some (.int _), some (.int _), none, none], [.ref _, .int _], _)) rfl (u_ rfl) ?_
      refine w20r (pc := 20) (len_s := 3) (q_s := 8) rfl (krq hk rfl) ?_
      refine w_t (pc := 23) (e_s := (1, 1, 1, 0, 0, .null, [])) (y_s := (24, [some (.ref _), some (.int _), some (.int _), some (.int _), none, none], [.int _, .ref _, .int _], _)) rfl (u_ rfl) ?_
      refine w22 (pc := 24) (len_s := 1) rfl (hk.1 8 0 6 rfl rfl) (fun c4_s => ?_)
      replace t_s := t_s c4_s
      refine w_t (pc := 25) (e_s := (7, 1, 0, 1, 0, .null, [])) (y_s := (26, [some (.ref _), some (.int _), some (.int _), some (.int _), none, none], [.int (_ - _)], _)) rfl (u_ rfl) ?_
      refine w_t (pc := 26) (e_s := (31, 3, 0, 2, 0, .null, [(0, 774), (0, 775), (0, 776), (0, 777)])) (y_s := (29, [some (.ref _), some (.int _), some (.int _), some (.int _), none, none], [.int _], _)) rfl (u_ rfl) ?_
      refine w_t (pc := 29) (e_s := (4, 2, 4, 0, 0, .null, [])) (y_s := (31, [some (.ref _), some (.int _), some (.int _), some (.int _), some (.int _), none], [], _)) rfl (u_ rfl) ?_
      refine w_t (pc := 31) (e_s := (3, 1, 0, 0, 0, .null, [])) (y_s := (32, [some (.ref _), some (.int _), some (.int _), some (.int _), some (.int _), none], [.ref _], _)) rfl (u_ rfl) ?_
      refine w20r (pc := 32) (len_s := 3) (q_s := 10) rfl (krq hk rfl) ?_
      refine w_t (pc := 35) (e_s := (1, 1, 3, 0, 0, .null, [])) (y_s := (36, [some (.ref _), some (.int _), some (.int _), some (.int _), some (.int _), none], [.int _, .ref _], _)) rfl (u_ rfl) ?_
      refine w24 (g_s := fun j_ => 20 + j_) (pc := 36) (len_s := 1) hk rfl (hk.1 10 2 8 rfl rfl) kg10 (fun c5_s => ?_)
      replace t_s := t_s c5_s
      refine w20 (pc := 37) (len_s := 3) rfl ?_
      refine w_t (pc := 40) (e_s := (3, 1, 0, 0, 0, .null, [])) (y_s := (41, [some (.ref _), some (.int _), some (.int _), some (.int _), some (.int _), none], [.ref _, .int _], _)) rfl (u_ rfl) ?_
      refine w20r (pc := 41) (len_s := 3) (q_s := 8) rfl (krq hk rfl) ?_
      refine w_t (pc := 44) (e_s := (1, 1, 1, 0, 0, .null, [])) (y_s := (45, [some (.ref _), some (.int _), some (.int _), some (.int _), some (.int _), none], [.int _, .ref _, .int _], _)) rfl (u_ rfl) ?_
      refine w22 (pc := 45) (len_s := 1) rfl (hk.1 8 0 6 rfl rfl) (fun c6_s => ?_)
      refine w_t (pc := 46) (e_s := (7, 1, 0, 1, 0, .null, [])) (y_s := (47, [some (.ref _), some (.int _), some (.int _), some (.int _), some (.int _), none], [.int (_ - _)], _)) rfl (u_ rfl) ?_
      refine w_t (pc := 47) (e_s := (31, 3, 0, 2, 0, .null, [(0, 774), (0, 775), (0, 776), (0, 777)])) (y_s := (50, [some (.ref _), some (.int _), some (.int _), some (.int _), some (.int _), none], [.int _], _)) rfl (u_ rfl) ?_
      refine w_t (pc := 50) (e_s := (4, 2, 5, 0, 0, .null, [])) (y_s := (52, [some (.ref _), some (.int _), some (.int _), some (.int _), some (.int _), some (.int _)], [], _)) rfl (u_ rfl) ?_
      refine w_t (pc := 52) (e_s := (1, 2, 4, 0, 0, .null, [])) (y_s := (54, [some (.ref _), some (.int _), some (.int _), some (.int _), some (.int _), some (.int _)], [.int _], _)) rfl (u_ rfl) ?_
      refine w_t (pc := 54) (e_s := (1, 2, 5, 0, 0, .null, [])) (y_s := (56, [some (.ref _), some (.int _), some (.int _), some (.int _), some (.int _), some (.int _)], [.int _, .int _], _)) rfl (u_ rfl) ?_
      refine wi0 (pc := 56) (len_s := 3) rfl rfl rfl (fun c7_s => ?_) (fun c7_s => ?_)
      · replace t_s := t_s.1 c7_s
        refine w_t (pc := 72) (e_s := (3, 1, 0, 0, 0, .null, [])) (y_s := (73, [some (.ref _), some (.int _), some (.int _), some (.int _), some (.int _), some (.int _)], [.ref _], _)) rfl (u_ rfl) ?_
        refine w20r (pc := 73) (len_s := 3) (q_s := 10) rfl (krq hk rfl) ?_
        refine w_t (pc := 76) (e_s := (1, 1, 2, 0, 0, .null, [])) (y_s := (77, [some (.ref _), some (.int _), some (.int _), some (.int _), some (.int _), some (.int _)], [.int _, .ref _], _)) rfl (u_ rfl) ?_
        refine w24 (g_s := fun j_ => 20 + j_) (pc := 77) (len_s := 1) hk rfl (hk.1 10 2 8 rfl rfl) kg10 (fun c8_s => ?_)
        refine w20 (pc := 78) (len_s := 3) rfl ?_
        refine w_t (pc := 81) (e_s := (3, 1, 0, 0, 0, .null, [])) (y_s := (82, [some (.ref _), some (.int _), some (.int _), some (.int _), some (.int _), some (.int _)], [.ref _, .int _], _)) rfl (u_ rfl) ?_
        refine w20r (pc := 82) (len_s := 3) (q_s := 10) rfl (krq hk rfl) ?_
        refine w_t (pc := 85) (e_s := (1, 1, 3, 0, 0, .null, [])) (y_s := (86, [some (.ref _), some (.int _), some (.int _), some (.int _), some (.int _), some (.int _)], [.int _, .ref _, .int _], _)) rfl (u_ rfl) ?_
        refine w24 (g_s := fun j_ => 20 + j_) (pc := 86) (len_s := 1) hk rfl (hk.1 10 2 8 rfl rfl) kg10 (fun c9_s => ?_)
        refine w20 (pc := 87) (len_s := 3) rfl ?_
        refine wi0 (pc := 90) (len_s := 3) rfl rfl rfl (fun c10_s => ?_) (fun c10_s => ?_)
        · replace t_s := t_s.1 c10_s
          refine w_t (pc := 120) (e_s := (1, 1, 2, 0, 0, .null, [])) (y_s := (121, [some (.ref _), some (.int _), some (.int _), some (.int _), some (.int _), some (.int _)], [.int _], _)) rfl (u_ rfl) ?_
          refine w_t (pc := 121) (e_s := (1, 1, 3, 0, 0, .null, [])) (y_s := (122, [some (.ref _), some (.int _), some (.int _), some (.int _), some (.int _), some (.int _)], [.int _, .int _], _)) rfl (u_ rfl) ?_
          refine wi3 (pc := 122) (len_s := 3) rfl rfl rfl (fun c11_s => ?_) (fun c11_s => ?_)
          · replace t_s := t_s.1 c11_s
            refine w_t (pc := 125) (e_s := (0, 1, 0, 0, 0, .int 1, [])) (y_s := (126, [some (.ref _), some (.int _), some (.int _), some (.int _), some (.int _), some (.int _)], [.int _], _)) rfl (u_ rfl) ?_
            refine w_t (pc := 126) (e_s := (17, 3, 130, 0, 0, .null, [])) (y_s := (130, [some (.ref _), some (.int _), some (.int _), some (.int _), some (.int _), some (.int _)], [.int _], _)) rfl (u_ rfl) ?_
            exact wrI (pc := 130) (len_s := 1) rfl hk t_s
          · replace t_s := t_s.2 c11_s
            refine w_t (pc := 129) (e_s := (0, 1, 0, 0, 0, .int 0, [])) (y_s := (130, [some (.ref _), some (.int _), some (.int _), some (.int _), some (.int _), some (.int _)], [.int _], _)) rfl (u_ rfl) ?_
            exact wrI (pc := 130) (len_s := 1) rfl hk t_s
        · replace t_s := t_s.2 c10_s
          refine w_t (pc := 93) (e_s := (3, 1, 0, 0, 0, .null, [])) (y_s := (94, [some (.ref _), some (.int _), some (.int _), some (.int _), some (.int _), some (.int _)], [.ref _], _)) rfl (u_ rfl) ?_
          refine w20r (pc := 94) (len_s := 3) (q_s := 10) rfl (krq hk rfl) ?_
          refine w_t (pc := 97) (e_s := (1, 1, 2, 0, 0, .null, [])) (y_s := (98, [some (.ref _), some (.int _), some (.int _), some (.int _), some (.int _), some (.int _)], [.int _, .ref _], _)) rfl (u_ rfl) ?_
          refine w24 (g_s := fun j_ => 20 + j_) (pc := 98) (len_s := 1) hk rfl (hk.1 10 2 8 rfl rfl) kg10 (fun c12_s => ?_)
          refine w20 (pc := 99) (len_s := 3) rfl ?_
          refine w_t (pc := 102) (e_s := (3, 1, 0, 0, 0, .null, [])) (y_s := (103, [some (.ref _), some (.int _), some (.int _), some (.int _), some (.int _), some (.int _)], [.ref _, .int _], _)) rfl (u_ rfl) ?_
          refine w20r (pc := 103) (len_s := 3) (q_s := 10) rfl (krq hk rfl) ?_
          refine w_t (pc := 106) (e_s := (1, 1, 3, 0, 0, .null, [])) (y_s := (107, [some (.ref _), some (.int _), some (.int _), some (.int _), some (.int _), some (.int _)], [.int _, .ref _, .int _], _)) rfl (u_ rfl) ?_
          refine w24 (g_s := fun j_ => 20 + j_) (pc := 107) (len_s := 1) hk rfl (hk.1 10 2 8 rfl rfl) kg10 (fun c13_s => ?_)
          refine w20 (pc := 108) (len_s := 3) rfl ?_
          refine wi3 (pc := 111) (len_s := 3) rfl rfl rfl (fun c14_s => ?_) (fun c14_s => ?_)
          · replace t_s := t_s.1 c14_s
            refine w_t (pc := 114) (e_s := (0, 1, 0, 0, 0, .int 1, [])) (y_s := (115, [some (.ref _), some (.int _), some (.int _), some (.int _), some (.int _), some (.int _)], [.int _], _)) rfl (u_ rfl) ?_
            refine w_t (pc := 115) (e_s := (17, 3, 119, 0, 0, .null, [])) (y_s := (119, [some (.ref _), some (.int _), some (.int _), some (.int _), some (.int _), some (.int _)], [.int _], _)) rfl (u_ rfl) ?_
            exact wrI (pc := 119) (len_s := 1) rfl hk t_s
          · replace t_s := t_s.2 c14_s
            refine w_t (pc := 118) (e_s := (0, 1, 0, 0, 0, .int 0, [])) (y_s := (119, [some (.ref _), some (.int _), some (.int _), some (.int _), some (.int _), some (.int _)], [.int _], _)) rfl (u_ rfl) ?_
            exact wrI (pc := 119) (len_s := 1) rfl hk t_s
      · replace t_s := t_s.2 c7_s
        refine w_t (pc := 59) (e_s := (1, 2, 4, 0, 0, .null, [])) (y_s := (61, [some (.ref _), some (.int _), some (.int _), some (.int _), some (.int _), some (.int _)], [.int _], _)) rfl (u_ rfl) ?_
        refine w_t (pc := 61) (e_s := (1, 2, 5, 0, 0, .null, [])) (y_s := (63, [some (.ref _), some (.int _), some (.int _), some (.int _), some (.int _), some (.int _)], [.int _, .int _], _)) rfl (u_ rfl) ?_
        refine wi3 (pc := 63) (len_s := 3) rfl rfl rfl (fun c15_s => ?_) (fun c15_s => ?_)
        · replace t_s := t_s.1 c15_s
          refine w_t (pc := 66) (e_s := (0, 1, 0, 0, 0, .int 1, [])) (y_s := (67, [some (.ref _), some (.int _), some (.int _), some (.int _), some (.int _), some (.int _)], [.int _], _)) rfl (u_ rfl) ?_
          refine w_t (pc := 67) (e_s := (17, 3, 71, 0, 0, .null, [])) (y_s := (71, [some (.ref _), some (.int _), some (.int _), some (.int _), some (.int _), some (.int _)], [.int _], _)) rfl (u_ rfl) ?_
          exact wrI (pc := 71) (len_s := 1) rfl hk t_s
        · replace t_s := t_s.2 c15_s
          refine w_t (pc := 70) (e_s := (0, 1, 0, 0, 0, .int 0, [])) (y_s := (71, [some (.ref _), some (.int _), some (.int _), some (.int _), some (.int _), some (.int _)], [.int _], _)) rfl (u_ rfl) ?_
          exact wrI (pc := 71) (len_s := 1) rfl hk t_s
    · replace t_s := t_s.2 c2_s
      refine w_t (pc := 16) (e_s := (0, 1, 0, 0, 0, .int 0, [])) (y_s := (17, [some (.ref _), some (.int _)], [.int _], _)) rfl (u_ rfl) ?_
      refine wrI (pc := 17) (len_s := 1) rfl hk ?_
      show wF _ 29 (5, [some (.ref _), some (.int _), some (.int _), some (.int _), none, none], [.int _], _) _
      refine w_t (pc := 5) (e_s := (15, 3, 10, 1, 0, .null, [])) (y_s := (8, [some (.ref _), some (.int _), some (.int _), some (.int _), none, none], [], _)) rfl (u_ rfl) ?_
      refine w_t (pc := 8) (e_s := (0, 1, 0, 0, 0, .int 1, [])) (y_s := (9, [some (.ref _), some (.int _), some (.int _), some (.int _), none, none], [.int _], _)) rfl (u_ rfl) ?_
      exact wrI (pc := 9) (len_s := 1) rfl hk t_s
/-- ColdShod$Country.firstOfOthers(I)I, from 0 on -/
theorem sg_26_0 {F_s : Nat} {x1_s : Int32} {h_s : zH} {K_s : Int32 → zH → Prop} (hk : hKn h_s) (t_s : wF F_s 26 (4, [some (.ref 7), some (.int x1_s), some (.int (-1)), some (.int 0)], [], h_s) (gI K_s)) : wF (F_s + 1) 26 (0, [some (.ref 7), some (.int x1_s), none, none], [], h_s) (gI K_s) := by
  refine w_0 (pc := 0) (e_s := (0, 1, 0, 0, 0, .int (-1), [])) (y_s := (1, [some (.ref _), some (.int _), none, none], [.int _], _)) rfl (u_ rfl) ?_
  refine w_t (pc := 1) (e_s := (4, 1, 2, 0, 0, .null, [])) (y_s := (2, [some (.ref _), some (.int _), some (.int _), none], [], _)) rfl (u_ rfl) ?_
  refine w_t (pc := 2) (e_s := (0, 1, 0, 0, 0, .int 0, [])) (y_s := (3, [some (.ref _), some (.int _), some (.int _), none], [.int _], _)) rfl (u_ rfl) ?_
  refine w_t (pc := 3) (e_s := (4, 1, 3, 0, 0, .null, [])) (y_s := (4, [some (.ref _), some (.int _), some (.int _), some (.int _)], [], _)) rfl (u_ rfl) ?_
  exact t_s
/-- ColdShod$Country.firstOfOthers(I)I, from 4 on -/
theorem sg_26_4 {F_s : Nat} {x1_s x2_s x3 : Int32} {h_s : zH} {K_s : Int32 → zH → Prop} (hk : hKn h_s) (t_s : (x3.toInt < (h_s.2.1 7 6).toInt → ((((x1_s >>> (x3 &&& 31)) &&& 1).toInt = 0 → wF F_s 28 (0, [some (.ref 7), some (.int x3), some (.int x2_s)], [], h_s) (gI (fun v3 h3 => hKn h3 → (v3.toInt = 0 → wF F_s 26 (4, [some (.ref 7), some (.int x1_s), some (.int x2_s), some (.int (x3 + 1))], [], h3) (gI K_s)) ∧ (¬ v3.toInt = 0 → wF F_s 26 (4, [some (.ref 7), some (.int x1_s), some (.int x3), some (.int (x3 + 1))], [], h3) (gI K_s))))) ∧ (¬ ((x1_s >>> (x3 &&& 31)) &&& 1).toInt = 0 → wF F_s 26 (4, [some (.ref 7), some (.int x1_s), some (.int x2_s), some (.int (x3 + 1))], [], h_s) (gI K_s)))) ∧ (¬ x3.toInt < (h_s.2.1 7 6).toInt → K_s x2_s h_s)) : wF (F_s + 1) 26 (4, [some (.ref 7), some (.int x1_s), some (.int x2_s), some (.int x3)], [], h_s) (gI K_s) := by
  refine w_0 (pc := 4) (e_s := (1, 1, 3, 0, 0, .null, [])) (y_s := (5, [some (.ref _), some (.int _), some (.int _), some (.int _)], [.int _], _)) rfl (u_ rfl) ?_
  refine w_t (pc := 5) (e_s := (3, 1, 0, 0, 0, .null, [])) (y_s := (6, [some (.ref _), some (.int _), some (.int _), some (.int _)], [.ref _, .int _], _)) rfl (u_ rfl) ?_
  refine w20 (pc := 6) (len_s := 3) rfl ?_
  refine wi3 (pc := 9) (len_s := 3) rfl rfl rfl (fun c1_s => ?_) (fun c1_s => ?_)
  · replace t_s := t_s.1 c1_s
    refine w_t (pc := 12) (e_s := (1, 1, 1, 0, 0, .null, [])) (y_s := (13, [some (.ref _), some (.int _), some (.int _), some (.int _)], [.int _], _)) rfl (u_ rfl) ?_
    refine w_t (pc := 13) (e_s := (1, 1, 3, 0, 0, .null, [])) (y_s := (14, [some (.ref _), some (.int _), some (.int _), some (.int _)], [.int _, .int _], _)) rfl (u_ rfl) ?_
    refine w_t (pc := 14) (e_s := (7, 1, 0, 7, 0, .null, [])) (y_s := (15, [some (.ref _), some (.int _), some (.int _), some (.int _)], [.int ((_ : Int32) >>> ((_ : Int32) &&& 31))], _)) rfl (u_ rfl) ?_
    refine w_t (pc := 15) (e_s := (0, 1, 0, 0, 0, .int 1, [])) (y_s := (16, [some (.ref _), some (.int _), some (.int _), some (.int _)], [.int _, .int _], _)) rfl (u_ rfl) ?_
    refine w_t (pc := 16) (e_s := (7, 1, 0, 3, 0, .null, [])) (y_s := (17, [some (.ref _), some (.int _), some (.int _), some (.int _)], [.int (_ &&& _)], _)) rfl (u_ rfl) ?_
    refine wq1 (pc := 17) (len_s := 3) rfl rfl (fun c2_s => ?_) (fun c2_s => ?_)
    · replace t_s := t_s.1 c2_s
      refine w_t (pc := 20) (e_s := (3, 1, 0, 0, 0, .null, [])) (y_s := (21, [some (.ref _), some (.int _), some (.int _), some (.int _)], [.ref _], _)) rfl (u_ rfl) ?_
      refine w_t (pc := 21) (e_s := (1, 1, 3, 0, 0, .null, [])) (y_s := (22, [some (.ref _), some (.int _), some (.int _), some (.int _)], [.int _, .ref _], _)) rfl (u_ rfl) ?_
      refine w_t (pc := 22) (e_s := (1, 1, 2, 0, 0, .null, [])) (y_s := (23, [some (.ref _), some (.int _), some (.int _), some (.int _)], [.int _, .int _, .ref _], _)) rfl (u_ rfl) ?_
      refine wcI (pc := 23) (len_s := 3) rfl rfl (l := [some (.ref _), some (.int _), some (.int _)]) rfl (wmI t_s (fun v3 h3 hk t_s => ?_))
      replace t_s := t_s hk
      refine wq0 (pc := 26) (len_s := 3) rfl rfl (fun c4_s => ?_) (fun c4_s => ?_)
      · replace t_s := t_s.1 c4_s
        refine w_t (pc := 31) (e_s := (19, 3, 3, 0, 0, .int 1, [])) (y_s := (34, [some (.ref _), some (.int _), some (.int _), some (.int _)], [], _)) rfl (u_ rfl) ?_
        refine w_t (pc := 34) (e_s := (17, 3, 4, 0, 0, .null, [])) (y_s := (4, [some (.ref _), some (.int _), some (.int _), some (.int _)], [], _)) rfl (u_ rfl) ?_
        exact t_s
      · replace t_s := t_s.2 c4_s
        refine w_t (pc := 29) (e_s := (1, 1, 3, 0, 0, .null, [])) (y_s := (30, [some (.ref _), some (.int _), some (.int _), some (.int _)], [.int _], _)) rfl (u_ rfl) ?_
        refine w_t (pc := 30) (e_s := (4, 1, 2, 0, 0, .null, [])) (y_s := (31, [some (.ref _), some (.int _), some (.int _), some (.int _)], [], _)) rfl (u_ rfl) ?_
        refine w_t (pc := 31) (e_s := (19, 3, 3, 0, 0, .int 1, [])) (y_s := (34, [some (.ref _), some (.int _), some (.int _), some (.int _)], [], _)) rfl (u_ rfl) ?_
        refine w_t (pc := 34) (e_s := (17, 3, 4, 0, 0, .null, [])) (y_s := (4, [some (.ref _), some (.int _), some (.int _), some (.int _)], [], _)) rfl (u_ rfl) ?_
        exact t_s
    · replace t_s := t_s.2 c2_s
      refine w_t (pc := 31) (e_s := (19, 3, 3, 0, 0, .int 1, [])) (y_s := (34, [some (.ref _), some (.int _), some (.int _), some (.int _)], [], _)) rfl (u_ rfl) ?_
      refine w_t (pc := 34) (e_s := (17, 3, 4, 0, 0, .null, [])) (y_s := (4, [some (.ref _), some (.int _), some (.int _), some (.int _)], [], _)) rfl (u_ rfl) ?_
      exact t_s
  · replace t_s := t_s.2 c1_s
    refine w_t (pc := 37) (e_s := (1, 1, 2, 0, 0, .null, [])) (y_s := (38, [some (.ref _), some (.int _), some (.int _), some (.int _)], [.int _], _)) rfl (u_ rfl) ?_
    exact wrI (pc := 38) (len_s := 1) rfl hk t_s
/-- ColdShod$Country.nearestOfOthers(II)I, from 0 on -/
theorem sg_27_0 {F_s : Nat} {x1_s x2_s : Int32} {h_s : zH} {K_s : Int32 → zH → Prop} (hk : hKn h_s) (t_s : wF F_s 27 (6, [some (.ref 7), some (.int x1_s), some (.int x2_s), some (.int (-2)), some (.int 0)], [], h_s) (gI K_s)) : wF (F_s + 1) 27 (0, [some (.ref 7), some (.int x1_s), some (.int x2_s), none, none], [], h_s) (gI K_s) := by
  refine w_0 (pc := 0) (e_s := (0, 2, 0, 0, 0, .int (-2), [])) (y_s := (2, [some (.ref _), some (.int _), some (.int _), none, none], [.int _], _)) rfl (u_ rfl) ?_
  refine w_t (pc := 2) (e_s := (4, 1, 3, 0, 0, .null, [])) (y_s := (3, [some (.ref _), some (.int _), some (.int _), some (.int _), none], [], _)) rfl (u_ rfl) ?_
  refine w_t (pc := 3) (e_s := (0, 1, 0, 0, 0, .int 0, [])) (y_s := (4, [some (.ref _), some (.int _), some (.int _), some (.int _), none], [.int _], _)) rfl (u_ rfl) ?_
  refine w_t (pc := 4) (e_s := (4, 2, 4, 0, 0, .null, [])) (y_s := (6, [some (.ref _), some (.int _), some (.int _), some (.int _), some (.int _)], [], _)) rfl (u_ rfl) ?_
  exact t_s
/-- ColdShod$Country.nearestOfOthers(II)I, from 6 on -/
theorem sg_27_6 {F_s : Nat} {x1_s x2_s x3 x4_s : Int32} {h_s : zH} {K_s : Int32 → zH → Prop} (hk : hKn h_s) (t_s : (x4_s.toInt < (h_s.2.1 7 7).toInt → ((((x2_s >>> (x4_s &&& 31)) &&& 1).toInt = 0 → wF F_s 29 (0, [some (.ref 7), some (.int x1_s), some (.int x4_s), some (.int x3), none, none], [], h_s) (gI (fun v3 h3 => hKn h3 → (v3.toInt = 0 → wF F_s 27 (6, [some (.ref 7), some (.int x1_s), some (.int x2_s), some (.int x3), some (.int (x4_s + 1))], [], h3) (gI K_s)) ∧ (¬ v3.toInt = 0 → wF F_s 27 (6, [some (.ref 7), some (.int x1_s), some (.int x2_s), some (.int x4_s), some (.int (x4_s + 1))], [], h3) (gI K_s))))) ∧ (¬ ((x2_s >>> (x4_s &&& 31)) &&& 1).toInt = 0 → wF F_s 27 (6, [some (.ref 7), some (.int x1_s), some (.int x2_s), some (.int x3), some (.int (x4_s + 1))], [], h_s) (gI K_s)))) ∧ (¬ x4_s.toInt < (h_s.2.1 7 7).toInt → K_s x3 h_s)) : wF (F_s + 1) 27 (6, [some (.ref 7), some (.int x1_s), some (.int x2_s), some (.int x3), some (.int x4_s)], [], h_s) (gI K_s) := by
  refine w_0 (pc := 6) (e_s := (1, 2, 4, 0, 0, .null, [])) (y_s := (8, [some (.ref _), some (.int _), some (.int _), some (.int _), some (.int _)], [.int _], _)) rfl (u_ rfl) ?_
  refine w_t (pc := 8) (e_s := (3, 1, 0, 0, 0, .null, [])) (y_s := (9, [some (.ref _), some (.int _), some (.int _), some (.int _), some (.int _)], [.ref _, .int _], _)) rfl (u_ rfl) ?_
  refine w20 (pc := 9) (len_s := 3) rfl ?_
  refine wi3 (pc := 12) (len_s := 3) rfl rfl rfl (fun c1_s => ?_) (fun c1_s => ?_)
  · replace t_s := t_s.1 c1_s
    refine w_t (pc := 15) (e_s := (1, 1, 2, 0, 0, .null, [])) (y_s := (16, [some (.ref _), some (.int _), some (.int _), some (.int _), some (.int _)], [.int _], _)) rfl (u_ rfl) ?_
    refine w_t (pc := 16) (e_s := (1, 2, 4, 0, 0, .null, [])) (y_s := (18, [some (.ref _), some (.int _), some (.int _), some (.int _), some (.int _)], [.int _, .int _], _)) rfl (u_ rfl) ?_
    refine w_t (pc := 18) (e_s := (7, 1, 0, 7, 0, .null, [])) (y_s := (19, [some (.ref _), some (.int _), some (.int _), some (.int _), some (.int _)], [.int ((_ : Int32) >>> ((_ : Int32) &&& 31))], _)) rfl (u_ rfl) ?_
    refine w_t (pc := 19) (e_s := (0, 1, 0, 0, 0, .int 1, [])) (y_s := (20, [some (.ref _), some (.int _), some (.int _), some (.int _), some (.int _)], [.int _, .int _], _)) rfl (u_ rfl) ?_
    refine w_t (pc := 20) (e_s := (7, 1, 0, 3, 0, .null, [])) (y_s := (21, [some (.ref _), some (.int _), some (.int _), some (.int _), some (.int _)], [.int (_ &&& _)], _)) rfl (u_ rfl) ?_
    refine wq1 (pc := 21) (len_s := 3) rfl rfl (fun c2_s => ?_) (fun c2_s => ?_)
    · replace t_s := t_s.1 c2_s
      refine w_t (pc := 24) (e_s := (3, 1, 0, 0, 0, .null, [])) (y_s := (25, [some (.ref _), some (.int _), some (.int _), some (.int _), some (.int _)], [.ref _], _)) rfl (u_ rfl) ?_
      refine w_t (pc := 25) (e_s := (1, 1, 1, 0, 0, .null, [])) (y_s := (26, [some (.ref _), some (.int _), some (.int _), some (.int _), some (.int _)], [.int _, .ref _], _)) rfl (u_ rfl) ?_
      refine w_t (pc := 26) (e_s := (1, 2, 4, 0, 0, .null, [])) (y_s := (28, [some (.ref _), some (.int _), some (.int _), some (.int _), some (.int _)], [.int _, .int _, .ref _], _)) rfl (u_ rfl) ?_
      refine w_t (pc := 28) (e_s := (1, 1, 3, 0, 0, .null, [])) (y_s := (29, [some (.ref _), some (.int _), some (.int _), some (.int _), some (.int _)], [.int _, .int _, .int _, .ref _], _)) rfl (u_ rfl) ?_
      refine wcI (pc := 29) (len_s := 3) rfl rfl (l := [some (.ref _), some (.int _), some (.int _), some (.int _), none, none]) rfl (wmI t_s (fun v3 h3 hk t_s => ?_))
      replace t_s := t_s hk
      refine wq0 (pc := 32) (len_s := 3) rfl rfl (fun c4_s => ?_) (fun c4_s => ?_)
      · replace t_s := t_s.1 c4_s
        refine w_t (pc := 38) (e_s := (19, 3, 4, 0, 0, .int 1, [])) (y_s := (41, [some (.ref _), some (.int _), some (.int _), some (.int _), some (.int _)], [], _)) rfl (u_ rfl) ?_
        refine w_t (pc := 41) (e_s := (17, 3, 6, 0, 0, .null, [])) (y_s := (6, [some (.ref _), some (.int _), some (.int _), some (.int _), some (.int _)], [], _)) rfl (u_ rfl) ?_
        exact t_s
      · replace t_s := t_s.2 c4_s
        refine w_t (pc := 35) (e_s := (1, 2, 4, 0, 0, .null, [])) (y_s := (37, [some (.ref _), some (.int _), some (.int _), some (.int _), some (.int _)], [.int _], _)) rfl (u_ rfl) ?_
        refine w_t (pc := 37) (e_s := (4, 1, 3, 0, 0, .null, [])) (y_s := (38, [some (.ref _), some (.int _), some (.int _), some (.int _), some (.int _)], [], _)) rfl (u_ rfl) ?_
        refine w_t (pc := 38) (e_s := (19, 3, 4, 0, 0, .int 1, [])) (y_s := (41, [some (.ref _), some (.int _), some (.int _), some (.int _), some (.int _)], [], _)) rfl (u_ rfl) ?_
        refine w_t (pc := 41) (e_s := (17, 3, 6, 0, 0, .null, [])) (y_s := (6, [some (.ref _), some (.int _), some (.int _), some (.int _), some (.int _)], [], _)) rfl (u_ rfl) ?_
        exact t_s
    · replace t_s := t_s.2 c2_s
      refine w_t (pc := 38) (e_s := (19, 3, 4, 0, 0, .int 1, [])) (y_s := (41, [some (.ref _), some (.int _), some (.int _), some (.int _), some (.int _)], [], _)) rfl (u_ rfl) ?_
      refine w_t (pc := 41) (e_s := (17, 3, 6, 0, 0, .null, [])) (y_s := (6, [some (.ref _), some (.int _), some (.int _), some (.int _), some (.int _)], [], _)) rfl (u_ rfl) ?_
      exact t_s
  · replace t_s := t_s.2 c1_s
    refine w_t (pc := 44) (e_s := (1, 1, 3, 0, 0, .null, [])) (y_s := (45, [some (.ref _), some (.int _), some (.int _), some (.int _), some (.int _)], [.int _], _)) rfl (u_ rfl) ?_
    exact wrI (pc := 45) (len_s := 1) rfl hk t_s
/-- java/util/Arrays.fill([II)V, from 0 on -/
theorem sg_240_0 {F_s : Nat} {y1 : Int32} {h_s : zH} {K_s : zH → Prop} (hk : hKn h_s) (t_s : wF F_s 240 (5, [some (.ref 12), some (.int y1), some (.int 0), some (.int (Int32.ofNat 6))], [], h_s) (gV K_s)) : wF (F_s + 1) 240 (0, [some (.ref 12), some (.int y1), none, none], [], h_s) (gV K_s) := by
  refine w_0 (pc := 0) (e_s := (0, 1, 0, 0, 0, .int 0, [])) (y_s := (1, [some (.ref _), some (.int _), none, none], [.int _], _)) rfl (u_ rfl) ?_
  refine w_t (pc := 1) (e_s := (4, 1, 2, 0, 0, .null, [])) (y_s := (2, [some (.ref _), some (.int _), some (.int _), none], [], _)) rfl (u_ rfl) ?_
  refine w_t (pc := 2) (e_s := (3, 1, 0, 0, 0, .null, [])) (y_s := (3, [some (.ref _), some (.int _), some (.int _), none], [.ref _], _)) rfl (u_ rfl) ?_
  refine w28 (pc := 3) (len_s := 1) rfl (hk.1 12 0 6 rfl rfl) ?_
  refine w_t (pc := 4) (e_s := (4, 1, 3, 0, 0, .null, [])) (y_s := (5, [some (.ref _), some (.int _), some (.int _), some (.int _)], [], _)) rfl (u_ rfl) ?_
  exact t_s
/-- java/util/Arrays.fill([II)V, from 5 on -/
theorem sg_240_5 {F_s : Nat} {y1 x2_s x3 : Int32} {h_s : zH} {K_s : zH → Prop} (hk : hKn h_s) (t_s : (x2_s.toInt < x3.toInt → (zix x2_s < 6 → wF F_s 240 (5, [some (.ref 12), some (.int y1), some (.int (x2_s + 1)), some (.int x3)], [], (h_s.1, zup h_s.2.1 12 (zix x2_s) y1, h_s.2.2.1, h_s.2.2.2)) (gV K_s))) ∧ (¬ x2_s.toInt < x3.toInt → K_s h_s)) : wF (F_s + 1) 240 (5, [some (.ref 12), some (.int y1), some (.int x2_s), some (.int x3)], [], h_s) (gV K_s) := by
  refine w_0 (pc := 5) (e_s := (1, 1, 2, 0, 0, .null, [])) (y_s := (6, [some (.ref _), some (.int _), some (.int _), some (.int _)], [.int _], _)) rfl (u_ rfl) ?_
  refine w_t (pc := 6) (e_s := (1, 1, 3, 0, 0, .null, [])) (y_s := (7, [some (.ref _), some (.int _), some (.int _), some (.int _)], [.int _, .int _], _)) rfl (u_ rfl) ?_
  refine wi3 (pc := 7) (len_s := 3) rfl rfl rfl (fun c1_s => ?_) (fun c1_s => ?_)
  · replace t_s := t_s.1 c1_s
    refine w_t (pc := 10) (e_s := (3, 1, 0, 0, 0, .null, [])) (y_s := (11, [some (.ref _), some (.int _), some (.int _), some (.int _)], [.ref _], _)) rfl (u_ rfl) ?_
    refine w_t (pc := 11) (e_s := (1, 1, 2, 0, 0, .null, [])) (y_s := (12, [some (.ref _), some (.int _), some (.int _), some (.int _)], [.int _, .ref _], _)) rfl (u_ rfl) ?_
    refine w_t (pc := 12) (e_s := (1, 1, 1, 0, 0, .null, [])) (y_s := (13, [some (.ref _), some (.int _), some (.int _), some (.int _)], [.int _, .int _, .ref _], _)) rfl (u_ rfl) ?_
    refine w25 (pc := 13) (len_s := 1) rfl (hk.1 12 0 6 rfl rfl) (fun c2_s => ?_)
    replace t_s := t_s c2_s
    refine w_t (pc := 14) (e_s := (19, 3, 2, 0, 0, .int 1, [])) (y_s := (17, [some (.ref _), some (.int _), some (.int _), some (.int _)], [], _)) rfl (u_ rfl) ?_
    refine w_t (pc := 17) (e_s := (17, 3, 5, 0, 0, .null, [])) (y_s := (5, [some (.ref _), some (.int _), some (.int _), some (.int _)], [], _)) rfl (u_ rfl) ?_
    exact t_s
  · replace t_s := t_s.2 c1_s
    exact wrV (pc := 20) (len_s := 1) rfl hk t_s
/-- ColdShod$Country.letAllAsk()V, from 0 on -/
theorem sg_25_0 {F_s : Nat}  {h_s : zH} {K_s : zH → Prop} (hk : hKn h_s) (t_s : wF F_s 240 (0, [some (.ref 12), some (.int (-2)), none, none], [], h_s) (gV (fun h1 => hKn h1 → wF F_s 25 (15, [some (.ref 7), some (.int 0), some (.int 0), some (.int 0), none], [], h1) (gV K_s)))) : wF (F_s + 1) 25 (0, [some (.ref 7), none, none, none, none], [], h_s) (gV K_s) := by
  refine w_0 (pc := 0) (e_s := (3, 1, 0, 0, 0, .null, [])) (y_s := (1, [some (.ref _), none, none, none, none], [.ref _], _)) rfl (u_ rfl) ?_
  refine w20r (pc := 1) (len_s := 3) (q_s := 12) rfl (krq hk rfl) ?_
  refine w_t (pc := 4) (e_s := (0, 2, 0, 0, 0, .int (-2), [])) (y_s := (6, [some (.ref _), none, none, none, none], [.int _, .ref _], _)) rfl (u_ rfl) ?_
  refine wcV (pc := 6) (len_s := 3) rfl rfl (l := [some (.ref _), some (.int _), none, none]) rfl (wmV t_s (fun h1 hk t_s => ?_))
  replace t_s := t_s hk
  refine w_t (pc := 9) (e_s := (0, 1, 0, 0, 0, .int 0, [])) (y_s := (10, [some (.ref _), none, none, none, none], [.int _], _)) rfl (u_ rfl) ?_
  refine w_t (pc := 10) (e_s := (4, 1, 1, 0, 0, .null, [])) (y_s := (11, [some (.ref _), some (.int _), none, none, none], [], _)) rfl (u_ rfl) ?_
  refine w_t (pc := 11) (e_s := (0, 1, 0, 0, 0, .int 0, [])) (y_s := (12, [some (.ref _), some (.int _), none, none, none], [.int _], _)) rfl (u_ rfl) ?_
  refine w_t (pc := 12) (e_s := (4, 1, 2, 0, 0, .null, [])) (y_s := (13, [some (.ref _), some (.int _), some (.int _), none, none], [], _)) rfl (u_ rfl) ?_
  refine w_t (pc := 13) (e_s := (0, 1, 0, 0, 0, .int 0, [])) (y_s := (14, [some (.ref _), some (.int _), some (.int _), none, none], [.int _], _)) rfl (u_ rfl) ?_
  refine w_t (pc := 14) (e_s := (4, 1, 3, 0, 0, .null, [])) (y_s := (15, [some (.ref _), some (.int _), some (.int _), some (.int _), none], [], _)) rfl (u_ rfl) ?_
  exact t_s
/-- ColdShod$Country.letAllAsk()V, from 15 on -/
theorem sg_25_15 {F_s : Nat} {x1_s x2_s x3 : Int32} {l4 : Option Value} {h_s : zH} {K_s : zH → Prop} (hk : hKn h_s) (t_s : (x3.toInt < (h_s.2.1 7 6).toInt → wF F_s 26 (0, [some (.ref 7), some (.int x1_s), none, none], [], h_s) (gI (fun v2 h2 => hKn h2 → (v2.toInt < 0 → K_s h2) ∧ (¬ v2.toInt < 0 → ((v2.toInt < (h2.2.1 7 6).toInt → wF F_s 27 (0, [some (.ref 7), some (.int v2), some (.int x2_s), none, none], [], h2) (gI (fun v5 h5 => hKn h5 → (zix v2 < 6 → (((zup h5.2.1 12 (zix v2) v5) 12 (zix v2)).toInt = -2 → wF F_s 25 (15, [some (.ref 7), some (.int (x1_s ||| (1 <<< (v2 &&& 31)))), some (.int x2_s), some (.int (x3 + 1)), some (.int v2)], [], (h5.1, zup h5.2.1 12 (zix v2) v5, h5.2.2.1, h5.2.2.2)) (gV K_s)) ∧ (¬ ((zup h5.2.1 12 (zix v2) v5) 12 (zix v2)).toInt = -2 → wF F_s 25 (15, [some (.ref 7), some (.int (x1_s ||| (1 <<< (v2 &&& 31)))), some (.int (x2_s ||| (1 <<< (((zup h5.2.1 12 (zix v2) v5) 12 (zix v2)) &&& 31)))), some (.int (x3 + 1)), some (.int v2)], [], (h5.1, zup h5.2.1 12 (zix v2) v5, h5.2.2.1, h5.2.2.2)) (gV K_s)))))) ∧ (¬ v2.toInt < (h2.2.1 7 6).toInt → K_s h2)))))) ∧ (¬ x3.toInt < (h_s.2.1 7 6).toInt → K_s h_s)) : wF (F_s + 1) 25 (15, [some (.ref 7), some (.int x1_s), some (.int x2_s), some (.int x3), l4], [], h_s) (gV K_s) := by
  refine w_0 (pc := 15) (e_s := (1, 1, 3, 0, 0, .null, [])) (y_s := (16, [some (.ref _), some (.int _), some (.int _), some (.int _), _], [.int _], _)) rfl (u_ rfl) ?_
  refine w_t (pc := 16) (e_s := (3, 1, 0, 0, 0, .null, [])) (y_s := (17, [some (.ref _), some (.int _), some (.int _), some (.int _), _], [.ref _, .int _], _)) rfl (u_ rfl) ?_
  refine w20 (pc := 17) (len_s := 3) rfl ?_
  refine wi3 (pc := 20) (len_s := 3) rfl rfl rfl (fun c1_s => ?_) (fun c1_s => ?_)
  · replace t_s := t_s.1 c1_s
    refine w_t (pc := 23) (e_s := (3, 1, 0, 0, 0, .null, [])) (y_s := (24, [some (.ref _), some (.int _), some (.int _), some (.int _), _], [.ref _], _)) rfl (u_ rfl) ?_
    refine w_t (pc := 24) (e_s := (1, 1, 1, 0, 0, .null, [])) (y_s := (25, [some (.ref _), some (.int _), some (.int _), some (.int _), _], [.int _, .ref _], _)) rfl (u_ rfl) ?_
    refine wcI (pc := 25) (len_s := 3) rfl rfl (l := [some (.ref _), some (.int _), none, none]) rfl (wmI t_s (fun v2 h2 hk t_s => ?_))
    replace t_s := t_s hk
    refine w_t (pc := 28) (e_s := (4, 2, 4, 0, 0, .null, [])) (y_s := (30, [some (.ref _), some (.int _), some (.int _), some (.int _), some (.int _)], [], _)) rfl (u_ rfl) ?_
    refine w_t (pc := 30) (e_s := (3, 1, 0, 0, 0, .null, [])) (y_s := (31, [some (.ref _), some (.int _), some (.int _), some (.int _), some (.int _)], [.ref _], _)) rfl (u_ rfl) ?_
    refine w_t (pc := 31) (e_s := (1, 2, 4, 0, 0, .null, [])) (y_s := (33, [some (.ref _), some (.int _), some (.int _), some (.int _), some (.int _)], [.int _, .ref _], _)) rfl (u_ rfl) ?_
    refine wcI (pc := 33) (len_s := 3) rfl rfl (l := [some (.ref _), some (.int _)]) rfl ?_
    refine w_t (pc := 0) (e_s := (1, 1, 1, 0, 0, .null, [])) (y_s := (1, [some (.ref _), some (.int _)], [.int _], _)) rfl (u_ rfl) ?_
    refine wq2 (pc := 1) (len_s := 3) rfl rfl (fun c3_s => ?_) (fun c3_s => ?_)
    · replace t_s := t_s.1 c3_s
      refine w_t (pc := 16) (e_s := (0, 1, 0, 0, 0, .int 0, [])) (y_s := (17, [some (.ref _), some (.int _)], [.int _], _)) rfl (u_ rfl) ?_
      refine wrI (pc := 17) (len_s := 1) rfl hk ?_
      show wF _ 25 (36, [some (.ref _), some (.int _), some (.int _), some (.int _), some (.int _)], [.int _], _) _
      refine w_t (pc := 36) (e_s := (15, 3, 40, 1, 0, .null, [])) (y_s := (39, [some (.ref _), some (.int _), some (.int _), some (.int _), some (.int _)], [], _)) rfl (u_ rfl) ?_
      exact wrV (pc := 39) (len_s := 1) rfl hk t_s
    · replace t_s := t_s.2 c3_s
      refine w_t (pc := 4) (e_s := (1, 1, 1, 0, 0, .null, [])) (y_s := (5, [some (.ref _), some (.int _)], [.int _], _)) rfl (u_ rfl) ?_
      refine w_t (pc := 5) (e_s := (3, 1, 0, 0, 0, .null, [])) (y_s := (6, [some (.ref _), some (.int _)], [.ref _, .int _], _)) rfl (u_ rfl) ?_
      refine w20 (pc := 6) (len_s := 3) rfl ?_
      refine wi3 (pc := 9) (len_s := 3) rfl rfl rfl (fun c4_s => ?_) (fun c4_s => ?_)
      · replace t_s := t_s.1 c4_s
        refine w_t (pc := 12) (e_s := (0, 1, 0, 0, 0, .int 1, [])) (y_s := (13, [some (.ref _), some (.int _)], [.int _], _)) rfl (u_ rfl) ?_
        refine w_t (pc := 13) (e_s := (17, 3, 17, 0, 0, .null, [])) (y_s := (17, [some (.ref _), some (.int _)], [.int _], _)) rfl (u_ rfl) ?_
        refine wrI (pc := 17) (len_s := 1) rfl hk ?_
        show wF _ 25 (36, [some (.ref _), some (.int _), some (.int _), some (.int _), some (.int _)], [.int _], _) _
        refine w_t (pc := 36) (e_s := (15, 3, 40, 1, 0, .null, [])) (y_s := (40, [some (.ref _), some (.int _), some (.int _), some (.int _), some (.int _)], [], _)) rfl (u_ rfl) ?_
        refine w_t (pc := 40) (e_s := (1, 1, 1, 0, 0, .null, [])) (y_s := (41, [some (.ref _), some (.int _), some (.int _), some (.int _), some (.int _)], [.int _], _)) rfl (u_ rfl) ?_
        refine w_t (pc := 41) (e_s := (0, 1, 0, 0, 0, .int 1, [])) (y_s := (42, [some (.ref _), some (.int _), some (.int _), some (.int _), some (.int _)], [.int _, .int _], _)) rfl (u_ rfl) ?_
        refine w_t (pc := 42) (e_s := (1, 2, 4, 0, 0, .null, [])) (y_s := (44, [some (.ref _), some (.int _), some (.int _), some (.int _), some (.int _)], [.int _, .int _, .int _], _)) rfl (u_ rfl) ?_
        refine w_t (pc := 44) (e_s := (7, 1, 0, 6, 0, .null, [])) (y_s := (45, [some (.ref _), some (.int _), some (.int _), some (.int _), some (.int _)], [.int ((_ : Int32) <<< ((_ : Int32) &&& 31)), .int _], _)) rfl (u_ rfl) ?_
        refine w_t (pc := 45) (e_s := (7, 1, 0, 4, 0, .null, [])) (y_s := (46, [some (.ref _), some (.int _), some (.int _), some (.int _), some (.int _)], [.int (_ ||| _)], _)) rfl (u_ rfl) ?_
        refine w_t (pc := 46) (e_s := (4, 1, 1, 0, 0, .null, [])) (y_s := (47, [some (.ref _), some (.int _), some (.int _), some (.int _), some (.int _)], [], _)) rfl (u_ rfl) ?_
        refine w_t (pc := 47) (e_s := (3, 1, 0, 0, 0, .null, [])) (y_s := (48, [some (.ref _), some (.int _), some (.int _), some (.int _), some (.int _)], [.ref _], _)) rfl (u_ rfl) ?_
        refine w20r (pc := 48) (len_s := 3) (q_s := 12) rfl (krq hk rfl) ?_
        refine w_t (pc := 51) (e_s := (1, 2, 4, 0, 0, .null, [])) (y_s := (53, [some (.ref _), some (.int _), some (.int _), some (.int _), some (.int _)], [.int _, .ref _], _)) rfl (u_ rfl) ?_
        refine w_t (pc := 53) (e_s := (3, 1, 0, 0, 0, .null, [])) (y_s := (54, [some (.ref _), some (.int _), some (.int _), some (.int _), some (.int _)], [.ref _, .int _, .ref _], _)) rfl (u_ rfl) ?_
        refine w_t (pc := 54) (e_s := (1, 2, 4, 0, 0, .null, [])) (y_s := (56, [some (.ref _), some (.int _), some (.int _), some (.int _), some (.int _)], [.int _, .ref _, .int _, .ref _], _)) rfl (u_ rfl) ?_
        refine w_t (pc := 56) (e_s := (1, 1, 2, 0, 0, .null, [])) (y_s := (57, [some (.ref _), some (.int _), some (.int _), some (.int _), some (.int _)], [.int _, .int _, .ref _, .int _, .ref _], _)) rfl (u_ rfl) ?_
        refine wcI (pc := 57) (len_s := 3) rfl rfl (l := [some (.ref _), some (.int _), some (.int _), none, none]) rfl (wmI t_s (fun v5 h5 hk t_s => ?_))
        replace t_s := t_s hk
        refine w25 (pc := 60) (len_s := 1) rfl (hk.1 12 0 6 rfl rfl) (fun c6_s => ?_)
        replace t_s := t_s c6_s
        refine w_t (pc := 61) (e_s := (3, 1, 0, 0, 0, .null, [])) (y_s := (62, [some (.ref _), some (.int _), some (.int _), some (.int _), some (.int _)], [.ref _], _)) rfl (u_ rfl) ?_
        refine w20r (pc := 62) (len_s := 3) (q_s := 12) rfl (krq hk rfl) ?_
        refine w_t (pc := 65) (e_s := (1, 2, 4, 0, 0, .null, [])) (y_s := (67, [some (.ref _), some (.int _), some (.int _), some (.int _), some (.int _)], [.int _, .ref _], _)) rfl (u_ rfl) ?_
        refine w22 (pc := 67) (len_s := 1) rfl (hk.1 12 0 6 rfl rfl) (fun c7_s => ?_)
        refine w_t (pc := 68) (e_s := (0, 2, 0, 0, 0, .int (-2), [])) (y_s := (70, [some (.ref _), some (.int _), some (.int _), some (.int _), some (.int _)], [.int _, .int _], _)) rfl (u_ rfl) ?_
        refine wi0 (pc := 70) (len_s := 3) (Y := -2) rfl rfl (by decide) (fun c8_s => ?_) (fun c8_s => ?_)
        · replace t_s := t_s.1 c8_s
          refine w_t (pc := 85) (e_s := (19, 3, 3, 0, 0, .int 1, [])) (y_s := (88, [some (.ref _), some (.int _), some (.int _), some (.int _), some (.int _)], [], _)) rfl (u_ rfl) ?_
          refine w_t (pc := 88) (e_s := (17, 3, 15, 0, 0, .null, [])) (y_s := (15, [some (.ref _), some (.int _), some (.int _), some (.int _), some (.int _)], [], _)) rfl (u_ rfl) ?_
          exact t_s
        · replace t_s := t_s.2 c8_s
          refine w_t (pc := 73) (e_s := (1, 1, 2, 0, 0, .null, [])) (y_s := (74, [some (.ref _), some (.int _), some (.int _), some (.int _), some (.int _)], [.int _], _)) rfl (u_ rfl) ?_
          refine w_t (pc := 74) (e_s := (0, 1, 0, 0, 0, .int 1, [])) (y_s := (75, [some (.ref _), some (.int _), some (.int _), some (.int _), some (.int _)], [.int _, .int _], _)) rfl (u_ rfl) ?_
          refine w_t (pc := 75) (e_s := (3, 1, 0, 0, 0, .null, [])) (y_s := (76, [some (.ref _), some (.int _), some (.int _), some (.int _), some (.int _)], [.ref _, .int _, .int _], _)) rfl (u_ rfl) ?_
          refine w20r (pc := 76) (len_s := 3) (q_s := 12) rfl (krq hk rfl) ?_
          refine w_t (pc := 79) (e_s := (1, 2, 4, 0, 0, .null, [])) (y_s := (81, [some (.ref _), some (.int _), some (.int _), some (.int _), some (.int _)], [.int _, .ref _, .int _, .int _], _)) rfl (u_ rfl) ?_
          refine w22 (pc := 81) (len_s := 1) rfl (hk.1 12 0 6 rfl rfl) (fun c9_s => ?_)
          refine w_t (pc := 82) (e_s := (7, 1, 0, 6, 0, .null, [])) (y_s := (83, [some (.ref _), some (.int _), some (.int _), some (.int _), some (.int _)], [.int ((_ : Int32) <<< ((_ : Int32) &&& 31)), .int _], _)) rfl (u_ rfl) ?_
          refine w_t (pc := 83) (e_s := (7, 1, 0, 4, 0, .null, [])) (y_s := (84, [some (.ref _), some (.int _), some (.int _), some (.int _), some (.int _)], [.int (_ ||| _)], _)) rfl (u_ rfl) ?_
          refine w_t (pc := 84) (e_s := (4, 1, 2, 0, 0, .null, [])) (y_s := (85, [some (.ref _), some (.int _), some (.int _), some (.int _), some (.int _)], [], _)) rfl (u_ rfl) ?_
          refine w_t (pc := 85) (e_s := (19, 3, 3, 0, 0, .int 1, [])) (y_s := (88, [some (.ref _), some (.int _), some (.int _), some (.int _), some (.int _)], [], _)) rfl (u_ rfl) ?_
          refine w_t (pc := 88) (e_s := (17, 3, 15, 0, 0, .null, [])) (y_s := (15, [some (.ref _), some (.int _), some (.int _), some (.int _), some (.int _)], [], _)) rfl (u_ rfl) ?_
          exact t_s
      · replace t_s := t_s.2 c4_s
        refine w_t (pc := 16) (e_s := (0, 1, 0, 0, 0, .int 0, [])) (y_s := (17, [some (.ref _), some (.int _)], [.int _], _)) rfl (u_ rfl) ?_
        refine wrI (pc := 17) (len_s := 1) rfl hk ?_
        show wF _ 25 (36, [some (.ref _), some (.int _), some (.int _), some (.int _), some (.int _)], [.int _], _) _
        refine w_t (pc := 36) (e_s := (15, 3, 40, 1, 0, .null, [])) (y_s := (39, [some (.ref _), some (.int _), some (.int _), some (.int _), some (.int _)], [], _)) rfl (u_ rfl) ?_
        exact wrV (pc := 39) (len_s := 1) rfl hk t_s
  · replace t_s := t_s.2 c1_s
    exact wrV (pc := 91) (len_s := 1) rfl hk t_s
/-- ColdShod.deal()I, from 0 on -/
theorem sg_119_0 {F_s : Nat}  {h_s : zH} {K_s : Int32 → zH → Prop} (hk : hKn h_s) (t_s : wF F_s 25 (0, [some (.ref 7), none, none, none, none], [], h_s) (gV (fun h1 => hKn h1 → wF F_s 119 (9, [some (.ref 6), some (.int 0), none], [], h1) (gI K_s)))) : wF (F_s + 1) 119 (0, [some (.ref 6), none, none], [], h_s) (gI K_s) := by
  refine w_0 (pc := 0) (e_s := (3, 1, 0, 0, 0, .null, [])) (y_s := (1, [some (.ref _), none, none], [.ref _], _)) rfl (u_ rfl) ?_
  refine w20r (pc := 1) (len_s := 3) (q_s := 7) rfl (krq hk rfl) ?_
  refine wcV (pc := 4) (len_s := 3) rfl rfl (l := [some (.ref _), none, none, none, none]) rfl (wmV t_s (fun h1 hk t_s => ?_))
  replace t_s := t_s hk
  refine w_t (pc := 7) (e_s := (0, 1, 0, 0, 0, .int 0, [])) (y_s := (8, [some (.ref _), none, none], [.int _], _)) rfl (u_ rfl) ?_
  refine w_t (pc := 8) (e_s := (4, 1, 1, 0, 0, .null, [])) (y_s := (9, [some (.ref _), some (.int _), none], [], _)) rfl (u_ rfl) ?_
  exact t_s
/-- ColdShod.deal()I, from 9 on -/
theorem sg_119_9 {F_s : Nat} {x1_s : Int32} {l2 : Option Value} {h_s : zH} {K_s : Int32 → zH → Prop} (hk : hKn h_s) (t_s : (x1_s.toInt < (h_s.2.1 7 7).toInt → (zix x1_s < 8 → wF F_s 119 (9, [some (.ref 6), some (.int (x1_s + 1)), l2], [], (h_s.1, zup h_s.2.1 (20 + (zix x1_s)) 6 (-1), h_s.2.2.1, h_s.2.2.2)) (gI K_s))) ∧ (¬ x1_s.toInt < (h_s.2.1 7 7).toInt → wF F_s 119 (43, [some (.ref 6), some (.int 0), some (.int 0)], [], h_s) (gI K_s))) : wF (F_s + 1) 119 (9, [some (.ref 6), some (.int x1_s), l2], [], h_s) (gI K_s) := by
  refine w_0 (pc := 9) (e_s := (1, 1, 1, 0, 0, .null, [])) (y_s := (10, [some (.ref _), some (.int _), _], [.int _], _)) rfl (u_ rfl) ?_
  refine w_t (pc := 10) (e_s := (3, 1, 0, 0, 0, .null, [])) (y_s := (11, [some (.ref _), some (.int _), _], [.ref _, .int _], _)) rfl (u_ rfl) ?_
  refine w20r (pc := 11) (len_s := 3) (q_s := 7) rfl (krq hk rfl) ?_
  refine w20 (pc := 14) (len_s := 3) rfl ?_
  refine wi3 (pc := 17) (len_s := 3) rfl rfl rfl (fun c1_s => ?_) (fun c1_s => ?_)
  · replace t_s := t_s.1 c1_s
    refine w_t (pc := 20) (e_s := (3, 1, 0, 0, 0, .null, [])) (y_s := (21, [some (.ref _), some (.int _), _], [.ref _], _)) rfl (u_ rfl) ?_
    refine w20r (pc := 21) (len_s := 3) (q_s := 7) rfl (krq hk rfl) ?_
    refine w20r (pc := 24) (len_s := 3) (q_s := 10) rfl (krq hk rfl) ?_
    refine w_t (pc := 27) (e_s := (1, 1, 1, 0, 0, .null, [])) (y_s := (28, [some (.ref _), some (.int _), _], [.int _, .ref _], _)) rfl (u_ rfl) ?_
    refine w24 (g_s := fun j_ => 20 + j_) (pc := 28) (len_s := 1) hk rfl (hk.1 10 2 8 rfl rfl) kg10 (fun c2_s => ?_)
    replace t_s := t_s c2_s
    refine w_t (pc := 29) (e_s := (0, 1, 0, 0, 0, .int (-1), [])) (y_s := (30, [some (.ref _), some (.int _), _], [.int _, .ref _], _)) rfl (u_ rfl) ?_
    refine w21 (pc := 30) (len_s := 3) rfl ?_
    refine w_t (pc := 33) (e_s := (19, 3, 1, 0, 0, .int 1, [])) (y_s := (36, [some (.ref _), some (.int _), _], [], _)) rfl (u_ rfl) ?_
    refine w_t (pc := 36) (e_s := (17, 3, 9, 0, 0, .null, [])) (y_s := (9, [some (.ref _), some (.int _), _], [], _)) rfl (u_ rfl) ?_
    exact t_s
  · replace t_s := t_s.2 c1_s
    refine w_t (pc := 39) (e_s := (0, 1, 0, 0, 0, .int 0, [])) (y_s := (40, [some (.ref _), some (.int _), _], [.int _], _)) rfl (u_ rfl) ?_
    refine w_t (pc := 40) (e_s := (4, 1, 1, 0, 0, .null, [])) (y_s := (41, [some (.ref _), some (.int _), _], [], _)) rfl (u_ rfl) ?_
    refine w_t (pc := 41) (e_s := (0, 1, 0, 0, 0, .int 0, [])) (y_s := (42, [some (.ref _), some (.int _), _], [.int _], _)) rfl (u_ rfl) ?_
    refine w_t (pc := 42) (e_s := (4, 1, 2, 0, 0, .null, [])) (y_s := (43, [some (.ref _), some (.int _), some (.int _)], [], _)) rfl (u_ rfl) ?_
    exact t_s
/-- ColdShod.deal()I, from 43 on -/
theorem sg_119_43 {F_s : Nat} {x1_s x2_s : Int32} {h_s : zH} {K_s : Int32 → zH → Prop} (hk : hKn h_s) (t_s : (x2_s.toInt < (h_s.2.1 7 6).toInt → (zix x2_s < 6 → ((h_s.2.1 12 (zix x2_s)).toInt < 0 → wF F_s 119 (43, [some (.ref 6), some (.int x1_s), some (.int (x2_s + 1))], [], h_s) (gI K_s)) ∧ (¬ (h_s.2.1 12 (zix x2_s)).toInt < 0 → (((h_s.2.1 12 (zix x2_s)).toInt < (h_s.2.1 7 7).toInt → (zix (h_s.2.1 12 (zix x2_s)) < 8 → wF F_s 119 (43, [some (.ref 6), some (.int (x1_s + 1)), some (.int (x2_s + 1))], [], (h_s.1, zup h_s.2.1 (20 + (zix (h_s.2.1 12 (zix x2_s)))) 6 x2_s, h_s.2.2.1, h_s.2.2.2)) (gI K_s))) ∧ (¬ (h_s.2.1 12 (zix x2_s)).toInt < (h_s.2.1 7 7).toInt → wF F_s 119 (43, [some (.ref 6), some (.int x1_s), some (.int (x2_s + 1))], [], h_s) (gI K_s)))))) ∧ (¬ x2_s.toInt < (h_s.2.1 7 6).toInt → K_s x1_s h_s)) : wF (F_s + 1) 119 (43, [some (.ref 6), some (.int x1_s), some (.int x2_s)], [], h_s) (gI K_s) := by
  refine w_0 (pc := 43) (e_s := (1, 1, 2, 0, 0, .null, [])) (y_s := (44, [some (.ref _), some (.int _), some (.int _)], [.int _], _)) rfl (u_ rfl) ?_
  refine w_t (pc := 44) (e_s := (3, 1, 0, 0, 0, .null, [])) (y_s := (45, [some (.ref _), some (.int _), some (.int _)], [.ref _, .int _], _)) rfl (u_ rfl) ?_
  refine w20r (pc := 45) (len_s := 3) (q_s := 7) rfl (krq hk rfl) ?_
  refine w20 (pc := 48) (len_s := 3) rfl ?_
  refine wi3 (pc := 51) (len_s := 3) rfl rfl rfl (fun c1_s => ?_) (fun c1_s => ?_)
  · replace t_s := t_s.1 c1_s
    refine w_t (pc := 54) (e_s := (3, 1, 0, 0, 0, .null, [])) (y_s := (55, [some (.ref _), some (.int _), some (.int _)], [.ref _], _)) rfl (u_ rfl) ?_
    refine w20r (pc := 55) (len_s := 3) (q_s := 7) rfl (krq hk rfl) ?_
    refine w_t (pc := 58) (e_s := (3, 1, 0, 0, 0, .null, [])) (y_s := (59, [some (.ref _), some (.int _), some (.int _)], [.ref _, .ref _], _)) rfl (u_ rfl) ?_
    refine w20r (pc := 59) (len_s := 3) (q_s := 7) rfl (krq hk rfl) ?_
    refine w20r (pc := 62) (len_s := 3) (q_s := 12) rfl (krq hk rfl) ?_
    refine w_t (pc := 65) (e_s := (1, 1, 2, 0, 0, .null, [])) (y_s := (66, [some (.ref _), some (.int _), some (.int _)], [.int _, .ref _, .ref _], _)) rfl (u_ rfl) ?_
    refine w22 (pc := 66) (len_s := 1) rfl (hk.1 12 0 6 rfl rfl) (fun c2_s => ?_)
    replace t_s := t_s c2_s
    refine wcI (pc := 67) (len_s := 3) rfl rfl (l := [some (.ref _), some (.int _)]) rfl ?_
    refine w_t (pc := 0) (e_s := (1, 1, 1, 0, 0, .null, [])) (y_s := (1, [some (.ref _), some (.int _)], [.int _], _)) rfl (u_ rfl) ?_
    refine wq2 (pc := 1) (len_s := 3) rfl rfl (fun c3_s => ?_) (fun c3_s => ?_)
    · replace t_s := t_s.1 c3_s
      refine w_t (pc := 16) (e_s := (0, 1, 0, 0, 0, .int 0, [])) (y_s := (17, [some (.ref _), some (.int _)], [.int _], _)) rfl (u_ rfl) ?_
      refine wrI (pc := 17) (len_s := 1) rfl hk ?_
      show wF _ 119 (70, [some (.ref _), some (.int _), some (.int _)], [.int _], _) _
      refine w_t (pc := 70) (e_s := (15, 3, 76, 1, 0, .null, [])) (y_s := (73, [some (.ref _), some (.int _), some (.int _)], [], _)) rfl (u_ rfl) ?_
      refine w_t (pc := 73) (e_s := (17, 3, 100, 0, 0, .null, [])) (y_s := (100, [some (.ref _), some (.int _), some (.int _)], [], _)) rfl (u_ rfl) ?_
      refine w_t (pc := 100) (e_s := (19, 3, 2, 0, 0, .int 1, [])) (y_s := (103, [some (.ref _), some (.int _), some (.int _)], [], _)) rfl (u_ rfl) ?_
      refine w_t (pc := 103) (e_s := (17, 3, 43, 0, 0, .null, [])) (y_s := (43, [some (.ref _), some (.int _), some (.int _)], [], _)) rfl (u_ rfl) ?_
      exact t_s
    · replace t_s := t_s.2 c3_s
      refine w_t (pc := 4) (e_s := (1, 1, 1, 0, 0, .null, [])) (y_s := (5, [some (.ref _), some (.int _)], [.int _], _)) rfl (u_ rfl) ?_
      refine w_t (pc := 5) (e_s := (3, 1, 0, 0, 0, .null, [])) (y_s := (6, [some (.ref _), some (.int _)], [.ref _, .int _], _)) rfl (u_ rfl) ?_
      refine w20 (pc := 6) (len_s := 3) rfl ?_
      refine wi3 (pc := 9) (len_s := 3) rfl rfl rfl (fun c4_s => ?_) (fun c4_s => ?_)
      · replace t_s := t_s.1 c4_s
        refine w_t (pc := 12) (e_s := (0, 1, 0, 0, 0, .int 1, [])) (y_s := (13, [some (.ref _), some (.int _)], [.int _], _)) rfl (u_ rfl) ?_
        refine w_t (pc := 13) (e_s := (17, 3, 17, 0, 0, .null, [])) (y_s := (17, [some (.ref _), some (.int _)], [.int _], _)) rfl (u_ rfl) ?_
        refine wrI (pc := 17) (len_s := 1) rfl hk ?_
        show wF _ 119 (70, [some (.ref _), some (.int _), some (.int _)], [.int _], _) _
        refine w_t (pc := 70) (e_s := (15, 3, 76, 1, 0, .null, [])) (y_s := (76, [some (.ref _), some (.int _), some (.int _)], [], _)) rfl (u_ rfl) ?_
        refine w_t (pc := 76) (e_s := (3, 1, 0, 0, 0, .null, [])) (y_s := (77, [some (.ref _), some (.int _), some (.int _)], [.ref _], _)) rfl (u_ rfl) ?_
        refine w20r (pc := 77) (len_s := 3) (q_s := 7) rfl (krq hk rfl) ?_
        refine w20r (pc := 80) (len_s := 3) (q_s := 10) rfl (krq hk rfl) ?_
        refine w_t (pc := 83) (e_s := (3, 1, 0, 0, 0, .null, [])) (y_s := (84, [some (.ref _), some (.int _), some (.int _)], [.ref _, .ref _], _)) rfl (u_ rfl) ?_
        refine w20r (pc := 84) (len_s := 3) (q_s := 7) rfl (krq hk rfl) ?_
        refine w20r (pc := 87) (len_s := 3) (q_s := 12) rfl (krq hk rfl) ?_
        refine w_t (pc := 90) (e_s := (1, 1, 2, 0, 0, .null, [])) (y_s := (91, [some (.ref _), some (.int _), some (.int _)], [.int _, .ref _, .ref _], _)) rfl (u_ rfl) ?_
        refine w22 (pc := 91) (len_s := 1) rfl (hk.1 12 0 6 rfl rfl) (fun c5_s => ?_)
        refine w24 (g_s := fun j_ => 20 + j_) (pc := 92) (len_s := 1) hk rfl (hk.1 10 2 8 rfl rfl) kg10 (fun c6_s => ?_)
        replace t_s := t_s c6_s
        refine w_t (pc := 93) (e_s := (1, 1, 2, 0, 0, .null, [])) (y_s := (94, [some (.ref _), some (.int _), some (.int _)], [.int _, .ref _], _)) rfl (u_ rfl) ?_
        refine w21 (pc := 94) (len_s := 3) rfl ?_
        refine w_t (pc := 97) (e_s := (19, 3, 1, 0, 0, .int 1, [])) (y_s := (100, [some (.ref _), some (.int _), some (.int _)], [], _)) rfl (u_ rfl) ?_
        refine w_t (pc := 100) (e_s := (19, 3, 2, 0, 0, .int 1, [])) (y_s := (103, [some (.ref _), some (.int _), some (.int _)], [], _)) rfl (u_ rfl) ?_
        refine w_t (pc := 103) (e_s := (17, 3, 43, 0, 0, .null, [])) (y_s := (43, [some (.ref _), some (.int _), some (.int _)], [], _)) rfl (u_ rfl) ?_
        exact t_s
      · replace t_s := t_s.2 c4_s
        refine w_t (pc := 16) (e_s := (0, 1, 0, 0, 0, .int 0, [])) (y_s := (17, [some (.ref _), some (.int _)], [.int _], _)) rfl (u_ rfl) ?_
        refine wrI (pc := 17) (len_s := 1) rfl hk ?_
        show wF _ 119 (70, [some (.ref _), some (.int _), some (.int _)], [.int _], _) _
        refine w_t (pc := 70) (e_s := (15, 3, 76, 1, 0, .null, [])) (y_s := (73, [some (.ref _), some (.int _), some (.int _)], [], _)) rfl (u_ rfl) ?_
        refine w_t (pc := 73) (e_s := (17, 3, 100, 0, 0, .null, [])) (y_s := (100, [some (.ref _), some (.int _), some (.int _)], [], _)) rfl (u_ rfl) ?_
        refine w_t (pc := 100) (e_s := (19, 3, 2, 0, 0, .int 1, [])) (y_s := (103, [some (.ref _), some (.int _), some (.int _)], [], _)) rfl (u_ rfl) ?_
        refine w_t (pc := 103) (e_s := (17, 3, 43, 0, 0, .null, [])) (y_s := (43, [some (.ref _), some (.int _), some (.int _)], [], _)) rfl (u_ rfl) ?_
        exact t_s
  · replace t_s := t_s.2 c1_s
    refine w_t (pc := 106) (e_s := (1, 1, 1, 0, 0, .null, [])) (y_s := (107, [some (.ref _), some (.int _), some (.int _)], [.int _], _)) rfl (u_ rfl) ?_
    exact wrI (pc := 107) (len_s := 1) rfl hk t_s
/-- ColdShodModel.headRather(III)Z, from 0 on -/
theorem sg_195_0 {F_s : Nat} {x1_s : Int32} {x2_s : Int32} {x3 : Int32} {h_s : zH} {K_s : Int32 → zH → Prop} (hk : hKn h_s) (t_s : (zix (20 + x2_s) < 104 → (zix x1_s < 104 → (((h_s.2.1 103 (zix (20 + x2_s))) - (h_s.2.1 103 (zix x1_s))).toInt < 0 → (zix (20 + x3) < 104 → (((h_s.2.1 103 (zix (20 + x3))) - (h_s.2.1 103 (zix x1_s))).toInt < 0 → (((-((h_s.2.1 103 (zix (20 + x2_s))) - (h_s.2.1 103 (zix x1_s)))).toInt = (-((h_s.2.1 103 (zix (20 + x3))) - (h_s.2.1 103 (zix x1_s)))).toInt → (zix (28 + x2_s) < 104 → (zix (28 + x3) < 104 → ((h_s.2.1 103 (zix (28 + x2_s))).toInt = (h_s.2.1 103 (zix (28 + x3))).toInt → ((x2_s.toInt < x3.toInt → K_s 1 h_s) ∧ (¬ x2_s.toInt < x3.toInt → K_s 0 h_s))) ∧ (¬ (h_s.2.1 103 (zix (28 + x2_s))).toInt = (h_s.2.1 103 (zix (28 + x3))).toInt → (((h_s.2.1 103 (zix (28 + x2_s))).toInt < (h_s.2.1 103 (zix (28 + x3))).toInt → K_s 1 h_s) ∧ (¬ (h_s.2.1 103 (zix (28 + x2_s))).toInt < (h_s.2.1 103 (zix (28 + x3))).toInt → K_s 0 h_s)))))) ∧ (¬ (-((h_s.2.1 103 (zix (20 + x2_s))) - (h_s.2.1 103 (zix x1_s)))).toInt = (-((h_s.2.1 103 (zix (20 + x3))) - (h_s.2.1 103 (zix x1_s)))).toInt → (((-((h_s.2.1 103 (zix (20 + x2_s))) - (h_s.2.1 103 (zix x1_s)))).toInt < (-((h_s.2.1 103 (zix (20 + x3))) - (h_s.2.1 103 (zix x1_s)))).toInt → K_s 1 h_s) ∧ (¬ (-((h_s.2.1 103 (zix (20 + x2_s))) - (h_s.2.1 103 (zix x1_s)))).toInt < (-((h_s.2.1 103 (zix (20 + x3))) - (h_s.2.1 103 (zix x1_s)))).toInt → K_s 0 h_s))))) ∧ (¬ ((h_s.2.1 103 (zix (20 + x3))) - (h_s.2.1 103 (zix x1_s))).toInt < 0 → (((-((h_s.2.1 103 (zix (20 + x2_s))) - (h_s.2.1 103 (zix x1_s)))).toInt = ((h_s.2.1 103 (zix (20 + x3))) - (h_s.2.1 103 (zix x1_s))).toInt → (zix (28 + x2_s) < 104 → (zix (28 + x3) < 104 → ((h_s.2.1 103 (zix (28 + x2_s))).toInt = (h_s.2.1 103 (zix (28 + x3))).toInt → ((x2_s.toInt < x3.toInt → K_s 1 h_s) ∧ (¬ x2_s.toInt < x3.toInt → K_s 0 h_s))) ∧ (¬ (h_s.2.1 103 (zix (28 + x2_s))).toInt = (h_s.2.1 103 (zix (28 + x3))).toInt → (((h_s.2.1 103 (zix (28 + x2_s))).toInt < (h_s.2.1 103 (zix (28 + x3))).toInt → K_s 1 h_s) ∧ (¬ (h_s.2.1 103 (zix (28 + x2_s))).toInt < (h_s.2.1 103 (zix (28 + x3))).toInt → K_s 0 h_s)))))) ∧ (¬ (-((h_s.2.1 103 (zix (20 + x2_s))) - (h_s.2.1 103 (zix x1_s)))).toInt = ((h_s.2.1 103 (zix (20 + x3))) - (h_s.2.1 103 (zix x1_s))).toInt → (((-((h_s.2.1 103 (zix (20 + x2_s))) - (h_s.2.1 103 (zix x1_s)))).toInt < ((h_s.2.1 103 (zix (20 + x3))) - (h_s.2.1 103 (zix x1_s))).toInt → K_s 1 h_s) ∧ (¬ (-((h_s.2.1 103 (zix (20 + x2_s))) - (h_s.2.1 103 (zix x1_s)))).toInt < ((h_s.2.1 103 (zix (20 + x3))) - (h_s.2.1 103 (zix x1_s))).toInt → K_s 0 h_s))))))) ∧ (¬ ((h_s.2.1 103 (zix (20 + x2_s))) - (h_s.2.1 103 (zix x1_s))).toInt < 0 → (zix (20 + x3) < 104 → (((h_s.2.1 103 (zix (20 + x3))) - (h_s.2.1 103 (zix x1_s))).toInt < 0 → ((((h_s.2.1 103 (zix (20 + x2_s))) - (h_s.2.1 103 (zix x1_s))).toInt = (-((h_s.2.1 103 (zix (20 + x3))) - (h_s.2.1 103 (zix x1_s)))).toInt → (zix (28 + x2_s) < 104 → (zix (28 + x3) < 104 → ((h_s.2.1 103 (zix (28 + x2_s))).toInt = (h_s.2.1 103 (zix (28 + x3))).toInt → ((x2_s.toInt < x3.toInt → K_s 1 h_s) ∧ (¬ x2_s.toInt < x3.toInt → K_s 0 h_s))) ∧ (¬ (h_s.2.1 103 (zix (28 + x2_s))).toInt = (h_s.2.1 103 (zix (28 + x3))).toInt → (((h_s.2.1 103 (zix (28 + x2_s))).toInt < (h_s.2.1 103 (zix (28 + x3))).toInt → K_s 1 h_s) ∧ (¬ (h_s.2.1 103 (zix (28 + x2_s))).toInt < (h_s.2.1 103 (zix (28 + x3))).toInt → K_s 0 h_s)))))) ∧ (¬ ((h_s.2.1 103 (zix (20 + x2_s))) - (h_s.2.1 103 (zix x1_s))).toInt = (-((h_s.2.1 103 (zix (20 + x3))) - (h_s.2.1 103 (zix x1_s)))).toInt → ((((h_s.2.1 103 (zix (20 + x2_s))) - (h_s.2.1 103 (zix x1_s))).toInt < (-((h_s.2.1 103 (zix (20 + x3))) - (h_s.2.1 103 (zix x1_s)))).toInt → K_s 1 h_s) ∧ (¬ ((h_s.2.1 103 (zix (20 + x2_s))) - (h_s.2.1 103 (zix x1_s))).toInt < (-((h_s.2.1 103 (zix (20 + x3))) - (h_s.2.1 103 (zix x1_s)))).toInt → K_s 0 h_s))))) ∧ (¬ ((h_s.2.1 103 (zix (20 + x3))) - (h_s.2.1 103 (zix x1_s))).toInt < 0 → ((((h_s.2.1 103 (zix (20 + x2_s))) - (h_s.2.1 103 (zix x1_s))).toInt = ((h_s.2.1 103 (zix (20 + x3))) - (h_s.2.1 103 (zix x1_s))).toInt → (zix (28 + x2_s) < 104 → (zix (28 + x3) < 104 → ((h_s.2.1 103 (zix (28 + x2_s))).toInt = (h_s.2.1 103 (zix (28 + x3))).toInt → ((x2_s.toInt < x3.toInt → K_s 1 h_s) ∧ (¬ x2_s.toInt < x3.toInt → K_s 0 h_s))) ∧ (¬ (h_s.2.1 103 (zix (28 + x2_s))).toInt = (h_s.2.1 103 (zix (28 + x3))).toInt → (((h_s.2.1 103 (zix (28 + x2_s))).toInt < (h_s.2.1 103 (zix (28 + x3))).toInt → K_s 1 h_s) ∧ (¬ (h_s.2.1 103 (zix (28 + x2_s))).toInt < (h_s.2.1 103 (zix (28 + x3))).toInt → K_s 0 h_s)))))) ∧ (¬ ((h_s.2.1 103 (zix (20 + x2_s))) - (h_s.2.1 103 (zix x1_s))).toInt = ((h_s.2.1 103 (zix (20 + x3))) - (h_s.2.1 103 (zix x1_s))).toInt → ((((h_s.2.1 103 (zix (20 + x2_s))) - (h_s.2.1 103 (zix x1_s))).toInt < ((h_s.2.1 103 (zix (20 + x3))) - (h_s.2.1 103 (zix x1_s))).toInt → K_s 1 h_s) ∧ (¬ ((h_s.2.1 103 (zix (20 + x2_s))) - (h_s.2.1 103 (zix x1_s))).toInt < ((h_s.2.1 103 (zix (20 + x3))) - (h_s.2.1 103 (zix x1_s))).toInt → K_s 0 h_s)))))))))) : wF (F_s + 1) 195 (0, [some (.ref 102), some (.int x1_s), some (.int x2_s), some (.int x3), none, none], [], h_s) (gI K_s) := by
  refine w_0 (pc := 0) (e_s := (3, 1, 0, 0, 0, .null, [])) (y_s := (1, [some (.ref _), some (.int _), some (.int _), some (.int _), none, none], [.ref _], _)) rfl (u_ rfl) ?_
  refine w20r (pc := 1) (len_s := 3) (q_s := 103) rfl (krq hk rfl) ?_
  refine w_t (pc := 4) (e_s := (0, 2, 0, 0, 0, .int 20, [])) (y_s := (6, [some (.ref _), some (.int _), some (.int _), some (.int _), none, none], [.int _, .ref _], _)) rfl (u_ rfl) ?_
  refine w_t (pc := 6) (e_s := (1, 1, 2, 0, 0, .null, [])) (y_s := (7, [some (.ref _), some (.int _), some (.int _), some (.int _), none, none], [.int _, .int _, .ref _], _)) rfl (u_ rfl) ?_
  refine w_t (pc := 7) (e_s := (7, 1, 0, 0, 0, .null, [])) (y_s := (8, [some (.ref _), some (.int _), some (.int _), some (.int _), none, none], [.int (_ + _), .ref _], _)) rfl (u_ rfl) ?_
  refine w22 (pc := 8) (len_s := 1) rfl (hk.1 103 0 104 rfl rfl) (fun c1_s => ?_)
  replace t_s := t_s c1_s
  refine w_t (pc := 9) (e_s := (3, 1, 0, 0, 0, .null, [])) (y_s := (10, [some (.ref _), some (.int _), some (.int _), some (.int _), none, none], [.ref _, .int _], _)) rfl (u_ rfl) ?_
  refine w20r (pc := 10) (len_s := 3) (q_s := 103) rfl (krq hk rfl) ?_
  refine w_t (pc := 13) (e_s := (1, 1, 1, 0, 0, .null, [])) (y_s := (14, [some (.ref _), some (.int _), some (.int _), some (.int _), none, none], [.int _, .ref _, .int _], _)) rfl (u_ rfl) ?_
  refine w22 (pc := 14) (len_s := 1) rfl (hk.1 103 0 104 rfl rfl) (fun c2_s => ?_)
  replace t_s := t_s c2_s
  refine w_t (pc := 15) (e_s := (7, 1, 0, 1, 0, .null, [])) (y_s := (16, [some (.ref _), some (.int _), some (.int _), some (.int _), none, none], [.int (_ - _)], _)) rfl (u_ rfl) ?_
  refine wcI (pc := 16) (len_s := 3) rfl rfl (l := [some (.int _)]) rfl ?_
  refine w_t (pc := 0) (e_s := (1, 1, 0, 0, 0, .null, [])) (y_s := (1, [some (.int _)], [.int _], _)) rfl (u_ rfl) ?_
  refine wq3 (pc := 1) (len_s := 3) rfl rfl (fun c3_s => ?_) (fun c3_s => ?_)
  · replace t_s := t_s.1 c3_s
    refine w_t (pc := 4) (e_s := (1, 1, 0, 0, 0, .null, [])) (y_s := (5, [some (.int _)], [.int _], _)) rfl (u_ rfl) ?_
    refine w_t (pc := 5) (e_s := (9, 1, 0, 0, 0, .null, [])) (y_s := (6, [some (.int _)], [.int (-_)], _)) rfl (u_ rfl) ?_
    refine w_t (pc := 6) (e_s := (17, 3, 10, 0, 0, .null, [])) (y_s := (10, [some (.int _)], [.int _], _)) rfl (u_ rfl) ?_
    refine wrI (pc := 10) (len_s := 1) rfl hk ?_
    show wF _ 195 (19, [some (.ref _), some (.int _), some (.int _), some (.int _), none, none], [.int _], _) _
    refine w_t (pc := 19) (e_s := (4, 2, 4, 0, 0, .null, [])) (y_s := (21, [some (.ref _), some (.int _), some (.int _), some (.int _), some (.int _), none], [], _)) rfl (u_ rfl) ?_
    refine w_t (pc := 21) (e_s := (3, 1, 0, 0, 0, .null, [])) (y_s := (22, [some (.ref _), some (.int _), some (.int _), some (.int _), some (.int _), none], [.ref _], _)) rfl (u_ rfl) ?_
    refine w20r (pc := 22) (len_s := 3) (q_s := 103) rfl (krq hk rfl) ?_
    refine w_t (pc := 25) (e_s := (0, 2, 0, 0, 0, .int 20, [])) (y_s := (27, [some (.ref _), some (.int _), some (.int _), some (.int _), some (.int _), none], [.int _, .ref _], _)) rfl (u_ rfl) ?_
    refine w_t (pc := 27) (e_s := (1, 1, 3, 0, 0, .null, [])) (y_s := (28, [some (.ref _), some (.int _), some (.int _), some (.int _), some (.int _), none], [.int _, .int _, .ref _], _)) rfl (u_ rfl) ?_
    refine w_t (pc := 28) (e_s := (7, 1, 0, 0, 0, .null, [])) (y_s := (29, [some (.ref _), some (.int _), some (.int _), some (.int _), some (.int _), none], [.int (_ + _), .ref _], _)) rfl (u_ rfl) ?_
    refine w22 (pc := 29) (len_s := 1) rfl (hk.1 103 0 104 rfl rfl) (fun c4_s => ?_)
    replace t_s := t_s c4_s
    refine w_t (pc := 30) (e_s := (3, 1, 0, 0, 0, .null, [])) (y_s := (31, [some (.ref _), some (.int _), some (.int _), some (.int _), some (.int _), none], [.ref _, .int _], _)) rfl (u_ rfl) ?_
    refine w20r (pc := 31) (len_s := 3) (q_s := 103) rfl (krq hk rfl) ?_
    refine w_t (pc := 34) (e_s := (1, 1, 1, 0, 0, .null, [])) (y_s := (35, [some (.ref _), some (.int _), some (.int _), some (.int _), some (.int _), none], [.int _, .ref _, .int _], _)) rfl (u_ rfl) ?_
    refine w22 (pc := 35) (len_s := 1) rfl (hk.1 103 0 104 rfl rfl) (fun c5_s => ?_)
    refine w_t (pc := 36) (e_s := (7, 1, 0, 1, 0, .null, [])) (y_s := (37, [some (.ref _), some (.int _), some (.int _), some (.int _), some (.int _), none], [.int (_ - _)], _)) rfl (u_ rfl) ?_
    refine wcI (pc := 37) (len_s := 3) rfl rfl (l := [some (.int _)]) rfl ?_
    refine w_t (pc := 0) (e_s := (1, 1, 0, 0, 0, .null, [])) (y_s := (1, [some (.int _)], [.int _], _)) rfl (u_ rfl) ?_
    refine wq3 (pc := 1) (len_s := 3) rfl rfl (fun c6_s => ?_) (fun c6_s => ?_)
    · replace t_s := t_s.1 c6_s
      refine w_t (pc := 4) (e_s := (1, 1, 0, 0, 0, .null, [])) (y_s := (5, [some (.int _)], [.int _], _)) rfl (u_ rfl) ?_
      refine w_t (pc := 5) (e_s := (9, 1, 0, 0, 0, .null, [])) (y_s := (6, [some (.int _)], [.int (-_)], _)) rfl (u_ rfl) ?_
      refine w_t (pc := 6) (e_s := (17, 3, 10, 0, 0, .null, [])) (y_s := (10, [some (.int _)], [.int _], _)) rfl (u_ rfl) ?_
      refine wrI (pc := 10) (len_s := 1) rfl hk ?_
      show wF _ 195 (40, [some (.ref _), some (.int _), some (.int _), some (.int _), some (.int _), none], [.int _], _) _
      refine w_t (pc := 40) (e_s := (4, 2, 5, 0, 0, .null, [])) (y_s := (42, [some (.ref _), some (.int _), some (.int _), some (.int _), some (.int _), some (.int _)], [], _)) rfl (u_ rfl) ?_
      refine w_t (pc := 42) (e_s := (1, 2, 4, 0, 0, .null, [])) (y_s := (44, [some (.ref _), some (.int _), some (.int _), some (.int _), some (.int _), some (.int _)], [.int _], _)) rfl (u_ rfl) ?_
      refine w_t (pc := 44) (e_s := (1, 2, 5, 0, 0, .null, [])) (y_s := (46, [some (.ref _), some (.int _), some (.int _), some (.int _), some (.int _), some (.int _)], [.int _, .int _], _)) rfl (u_ rfl) ?_
      refine wi0 (pc := 46) (len_s := 3) rfl rfl rfl (fun c7_s => ?_) (fun c7_s => ?_)
      · replace t_s := t_s.1 c7_s
        refine w_t (pc := 62) (e_s := (3, 1, 0, 0, 0, .null, [])) (y_s := (63, [some (.ref _), some (.int _), some (.int _), some (.int _), some (.int _), some (.int _)], [.ref _], _)) rfl (u_ rfl) ?_
        refine w20r (pc := 63) (len_s := 3) (q_s := 103) rfl (krq hk rfl) ?_
        refine w_t (pc := 66) (e_s := (0, 2, 0, 0, 0, .int 28, [])) (y_s := (68, [some (.ref _), some (.int _), some (.int _), some (.int _), some (.int _), some (.int _)], [.int _, .ref _], _)) rfl (u_ rfl) ?_
        refine w_t (pc := 68) (e_s := (1, 1, 2, 0, 0, .null, [])) (y_s := (69, [some (.ref _), some (.int _), some (.int _), some (.int _), some (.int _), some (.int _)], [.int _, .int _, .ref _], _)) rfl (u_ rfl) ?_
        refine w_t (pc := 69) (e_s := (7, 1, 0, 0, 0, .null, [])) (y_s := (70, [some (.ref _), some (.int _), some (.int _), some (.int _), some (.int _), some (.int _)], [.int (_ + _), .ref _], _)) rfl (u_ rfl) ?_
        refine w22 (pc := 70) (len_s := 1) rfl (hk.1 103 0 104 rfl rfl) (fun c8_s => ?_)
        replace t_s := t_s c8_s
        refine w_t (pc := 71) (e_s := (3, 1, 0, 0, 0, .null, [])) (y_s := (72, [some (.ref _), some (.int _), some (.int _), some (.int _), some (.int _), some (.int _)], [.ref _, .int _], _)) rfl (u_ rfl) ?_
        refine w20r (pc := 72) (len_s := 3) (q_s := 103) rfl (krq hk rfl) ?_
        refine w_t (pc := 75) (e_s := (0, 2, 0, 0, 0, .int 28, [])) (y_s := (77, [some (.ref _), some (.int _), some (.int _), some (.int _), some (.int _), some (.int _)], [.int _, .ref _, .int _], _)) rfl (u_ rfl) ?_
        refine w_t (pc := 77) (e_s := (1, 1, 3, 0, 0, .null, [])) (y_s := (78, [some (.ref _), some (.int _), some (.int _), some (.int _), some (.int _), some (.int _)], [.int _, .int _, .ref _, .int _], _)) rfl (u_ rfl) ?_
        refine w_t (pc := 78) (e_s := (7, 1, 0, 0, 0, .null, [])) (y_s := (79, [some (.ref _), some (.int _), some (.int _), some (.int _), some (.int _), some (.int _)], [.int (_ + _), .ref _, .int _], _)) rfl (u_ rfl) ?_
        refine w22 (pc := 79) (len_s := 1) rfl (hk.1 103 0 104 rfl rfl) (fun c9_s => ?_)
        replace t_s := t_s c9_s
        refine wi0 (pc := 80) (len_s := 3) rfl rfl rfl (fun c10_s => ?_) (fun c10_s => ?_)
        · replace t_s := t_s.1 c10_s
          refine w_t (pc := 112) (e_s := (1, 1, 2, 0, 0, .null, [])) (y_s := (113, [some (.ref _), some (.int _), some (.int _), some (.int _), some (.int _), some (.int _)], [.int _], _)) rfl (u_ rfl) ?_
          refine w_t (pc := 113) (e_s := (1, 1, 3, 0, 0, .null, [])) (y_s := (114, [some (.ref _), some (.int _), some (.int _), some (.int _), some (.int _), some (.int _)], [.int _, .int _], _)) rfl (u_ rfl) ?_
          refine wi3 (pc := 114) (len_s := 3) rfl rfl rfl (fun c11_s => ?_) (fun c11_s => ?_)
          · replace t_s := t_s.1 c11_s
            refine w_t (pc := 117) (e_s := (0, 1, 0, 0, 0, .int 1, [])) (y_s := (118, [some (.ref _), some (.int _), some (.int _), some (.int _), some (.int _), some (.int _)], [.int _], _)) rfl (u_ rfl) ?_
            refine w_t (pc := 118) (e_s := (17, 3, 122, 0, 0, .null, [])) (y_s := (122, [some (.ref _), some (.int _), some (.int _), some (.int _), some (.int _), some (.int _)], [.int _], _)) rfl (u_ rfl) ?_
            exact wrI (pc := 122) (len_s := 1) rfl hk t_s
          · replace t_s := t_s.2 c11_s
            refine w_t (pc := 121) (e_s := (0, 1, 0, 0, 0, .int 0, [])) (y_s := (122, [some (.ref _), some (.int _), some (.int _), some (.int _), some (.int _), some (.int _)], [.int _], _)) rfl (u_ rfl) ?_
            exact wrI (pc := 122) (len_s := 1) rfl hk t_s
        · replace t_s := t_s.2 c10_s
          refine w_t (pc := 83) (e_s := (3, 1, 0, 0, 0, .null, [])) (y_s := (84, [some (.ref _), some (.int _), some (.int _), some (.int _), some (.int _), some (.int _)], [.ref _], _)) rfl (u_ rfl) ?_
          refine w20r (pc := 84) (len_s := 3) (q_s := 103) rfl (krq hk rfl) ?_
          refine w_t (pc := 87) (e_s := (0, 2, 0, 0, 0, .int 28, [])) (y_s := (89, [some (.ref _), some (.int _), some (.int _), some (.int _), some (.int _), some (.int _)], [.int _, .ref _], _)) rfl (u_ rfl) ?_
          refine w_t (pc := 89) (e_s := (1, 1, 2, 0, 0, .null, [])) (y_s := (90, [some (.ref _), some (.int _), some (.int _), some (.int _), some (.int _), some (.int _)], [.int _, .int _, .ref _], _)) rfl (u_ rfl) ?_
          refine w_t (pc := 90) (e_s := (7, 1, 0, 0, 0, .null, [])) (y_s := (91, [some (.ref _), some (.int _), some (.int _), some (.int _), some (.int _), some (.int _)], [.int (_ + _), .ref _], _)) rfl (u_ rfl) ?_
          refine w22 (pc := 91) (len_s := 1) rfl (hk.1 103 0 104 rfl rfl) (fun c12_s => ?_)
          refine w_t (pc := 92) (e_s := (3, 1, 0, 0, 0, .null, [])) (y_s := (93, [some (.ref _), some (.int _), some (.int _), some (.int _), some (.int _), some (.int _)], [.ref _, .int _], _)) rfl (u_ rfl) ?_
          refine w20r (pc := 93) (len_s := 3) (q_s := 103) rfl (krq hk rfl) ?_
          refine w_t (pc := 96) (e_s := (0, 2, 0, 0, 0, .int 28, [])) (y_s := (98, [some (.ref _), some (.int _), some (.int _), some (.int _), some (.int _), some (.int _)], [.int _, .ref _, .int _], _)) rfl (u_ rfl) ?_
          refine w_t (pc := 98) (e_s := (1, 1, 3, 0, 0, .null, [])) (y_s := (99, [some (.ref _), some (.int _), some (.int _), some (.int _), some (.int _), some (.int _)], [.int _, .int _, .ref _, .int _], _)) rfl (u_ rfl) ?_
          refine w_t (pc := 99) (e_s := (7, 1, 0, 0, 0, .null, [])) (y_s := (100, [some (.ref _), some (.int _), some (.int _), some (.int _), some (.int _), some (.int _)], [.int (_ + _), .ref _, .int _], _)) rfl (u_ rfl) ?_
          refine w22 (pc := 100) (len_s := 1) rfl (hk.1 103 0 104 rfl rfl) (fun c13_s => ?_)
          refine wi3 (pc := 101) (len_s := 3) rfl rfl rfl (fun c14_s => ?_) (fun c14_s => ?_)
          · replace t_s := t_s.1 c14_s
            refine w_t (pc := 104) (e_s := (0, 1, 0, 0, 0, .int 1, [])) (y_s := (105, [some (.ref _), some (.int _), some (.int _), some (.int _), some (.int _), some (.int _)], [.int _], _)) rfl (u_ rfl) ?_
            refine w_t (pc := 105) (e_s := (17, 3, 122, 0, 0, .null, [])) (y_s := (122, [some (.ref _), some (.int _), some (.int _), some (.int _), some (.int _), some (.int _)], [.int _], _)) rfl (u_ rfl) ?_
            exact wrI (pc := 122) (len_s := 1) rfl hk t_s
          · replace t_s := t_s.2 c14_s
            refine w_t (pc := 108) (e_s := (0, 1, 0, 0, 0, .int 0, [])) (y_s := (109, [some (.ref _), some (.int _), some (.int _), some (.int _), some (.int _), some (.int _)], [.int _], _)) rfl (u_ rfl) ?_
            refine w_t (pc := 109) (e_s := (17, 3, 122, 0, 0, .null, [])) (y_s := (122, [some (.ref _), some (.int _), some (.int _), some (.int _), some (.int _), some (.int _)], [.int _], _)) rfl (u_ rfl) ?_
            exact wrI (pc := 122) (len_s := 1) rfl hk t_s
      · replace t_s := t_s.2 c7_s
        refine w_t (pc := 49) (e_s := (1, 2, 4, 0, 0, .null, [])) (y_s := (51, [some (.ref _), some (.int _), some (.int _), some (.int _), some (.int _), some (.int _)], [.int _], _)) rfl (u_ rfl) ?_
        refine w_t (pc := 51) (e_s := (1, 2, 5, 0, 0, .null, [])) (y_s := (53, [some (.ref _), some (.int _), some (.int _), some (.int _), some (.int _), some (.int _)], [.int _, .int _], _)) rfl (u_ rfl) ?_
        refine wi3 (pc := 53) (len_s := 3) rfl rfl rfl (fun c15_s => ?_) (fun c15_s => ?_)
        · replace t_s := t_s.1 c15_s
          refine w_t (pc := 56) (e_s := (0, 1, 0, 0, 0, .int 1, [])) (y_s := (57, [some (.ref _), some (.int _), some (.int _), some (.int _), some (.int _), some (.int _)], [.int _], _)) rfl (u_ rfl) ?_
          refine w_t (pc := 57) (e_s := (17, 3, 61, 0, 0, .null, [])) (y_s := (61, [some (.ref _), some (.int _), some (.int _), some (.int _), some (.int _), some (.int _)], [.int _], _)) rfl (u_ rfl) ?_
          exact wrI (pc := 61) (len_s := 1) rfl hk t_s
        · replace t_s := t_s.2 c15_s
          refine w_t (pc := 60) (e_s := (0, 1, 0, 0, 0, .int 0, [])) (y_s := (61, [some (.ref _), some (.int _), some (.int _), some (.int _), some (.int _), some (.int _)], [.int _], _)) rfl (u_ rfl) ?_
          exact wrI (pc := 61) (len_s := 1) rfl hk t_s
    · replace t_s := t_s.2 c6_s
      refine w_t (pc := 9) (e_s := (1, 1, 0, 0, 0, .null, [])) (y_s := (10, [some (.int _)], [.int _], _)) rfl (u_ rfl) ?_
      refine wrI (pc := 10) (len_s := 1) rfl hk ?_
      show wF _ 195 (40, [some (.ref _), some (.int _), some (.int _), some (.int _), some (.int _), none], [.int _], _) _
      refine w_t (pc := 40) (e_s := (4, 2, 5, 0, 0, .null, [])) (y_s := (42, [some (.ref _), some (.int _), some (.int _), some (.int _), some (.int _), some (.int _)], [], _)) rfl (u_ rfl) ?_
      refine w_t (pc := 42) (e_s := (1, 2, 4, 0, 0, .null, [])) (y_s := (44, [some (.ref _), some (.int _), some (.int _), some (.int _), some (.int _), some (.int _)], [.int _], _)) rfl (u_ rfl) ?_
      refine w_t (pc := 44) (e_s := (1, 2, 5, 0, 0, .null, [])) (y_s := (46, [some (.ref _), some (.int _), some (.int _), some (.int _), some (.int _), some (.int _)], [.int _, .int _], _)) rfl (u_ rfl) ?_
      refine wi0 (pc := 46) (len_s := 3) rfl rfl rfl (fun c16 => ?_) (fun c16 => ?_)
      · replace t_s := t_s.1 c16
        refine w_t (pc := 62) (e_s := (3, 1, 0, 0, 0, .null, [])) (y_s := (63, [some (.ref _), some (.int _), some (.int _), some (.int _), some (.int _), some (.int _)], [.ref _], _)) rfl (u_ rfl) ?_
        refine w20r (pc := 63) (len_s := 3) (q_s := 103) rfl (krq hk rfl) ?_
        refine w_t (pc := 66) (e_s := (0, 2, 0, 0, 0, .int 28, [])) (y_s := (68, [some (.ref _), some (.int _), some (.int _), some (.int _), some (.int _), some (.int _)], [.int _, .ref _], _)) rfl (u_ rfl) ?_
        refine w_t (pc := 68) (e_s := (1, 1, 2, 0, 0, .null, [])) (y_s := (69, [some (.ref _), some (.int _), some (.int _), some (.int _), some (.int _), some (.int _)], [.int _, .int _, .ref _], _)) rfl (u_ rfl) ?_
        refine w_t (pc := 69) (e_s := (7, 1, 0, 0, 0, .null, [])) (y_s := (70, [some (.ref _), some (.int _), some (.int _), some (.int _), some (.int _), some (.int _)], [.int (_ + _), .ref _], _)) rfl (u_ rfl) ?_
        refine w22 (pc := 70) (len_s := 1) rfl (hk.1 103 0 104 rfl rfl) (fun c17 => ?_)
        replace t_s := t_s c17
        refine w_t (pc := 71) (e_s := (3, 1, 0, 0, 0, .null, [])) (y_s := (72, [some (.ref _), some (.int _), some (.int _), some (.int _), some (.int _), some (.int _)], [.ref _, .int _], _)) rfl (u_ rfl) ?_
        refine w20r (pc := 72) (len_s := 3) (q_s := 103) rfl (krq hk rfl) ?_
        refine w_t (pc := 75) (e_s := (0, 2, 0, 0, 0, .int 28, [])) (y_s := (77, [some (.ref _), some (.int _), some (.int _), some (.int _), some (.int _), some (.int _)], [.int _, .ref _, .int _], _)) rfl (u_ rfl) ?_
        refine w_t (pc := 77) (e_s := (1, 1, 3, 0, 0, .null, [])) (y_s := (78, [some (.ref _), some (.int _), some (.int _), some (.int _), some (.int _), some (.int _)], [.int _, .int _, .ref _, .int _], _)) rfl (u_ rfl) ?_
        refine w_t (pc := 78) (e_s := (7, 1, 0, 0, 0, .null, [])) (y_s := (79, [some (.ref _), some (.int _), some (.int _), some (.int _), some (.int _), some (.int _)], [.int (_ + _), .ref _, .int _], _)) rfl (u_ rfl) ?_
        refine w22 (pc := 79) (len_s := 1) rfl (hk.1 103 0 104 rfl rfl) (fun c18_s => ?_)
        replace t_s := t_s c18_s
        refine wi0 (pc := 80) (len_s := 3) rfl rfl rfl (fun c19_s => ?_) (fun c19_s => ?_)
        · replace t_s := t_s.1 c19_s
          refine w_t (pc := 112) (e_s := (1, 1, 2, 0, 0, .null, [])) (y_s := (113, [some (.ref _), some (.int _), some (.int _), some (.int _), some (.int _), some (.int _)], [.int _], _)) rfl (u_ rfl) ?_
          refine w_t (pc := 113) (e_s := (1, 1, 3, 0, 0, .null, [])) (y_s := (114, [some (.ref _), some (.int _), some (.int _), some (.int _), some (.int _), some (.int _)], [.int _, .int _], _)) rfl (u_ rfl) ?_
          refine wi3 (pc := 114) (len_s := 3) rfl rfl rfl (fun c20_s => ?_) (fun c20_s => ?_)
          · replace t_s := t_s.1 c20_s
            refine w_t (pc := 117) (e_s := (0, 1, 0, 0, 0, .int 1, [])) (y_s := (118, [some (.ref _), some (.int _), some (.int _), some (.int _), some (.int _), some (.int _)], [.int _], _)) rfl (u_ rfl) ?_
            refine w_t (pc := 118) (e_s := (17, 3, 122, 0, 0, .null, [])) (y_s := (122, [some (.ref _), some (.int _), some (.int _), some (.int _), some (.int _), some (.int _)], [.int _], _)) rfl (u_ rfl) ?_
            exact wrI (pc := 122) (len_s := 1) rfl hk t_s
          · replace t_s := t_s.2 c20_s
            refine w_t (pc := 121) (e_s := (0, 1, 0, 0, 0, .int 0, [])) (y_s := (122, [some (.ref _), some (.int _), some (.int _), some (.int _), some (.int _), some (.int _)], [.int _], _)) rfl (u_ rfl) ?_
            exact wrI (pc := 122) (len_s := 1) rfl hk t_s
        · replace t_s := t_s.2 c19_s
          refine w_t (pc := 83) (e_s := (3, 1, 0, 0, 0, .null, [])) (y_s := (84, [some (.ref _), some (.int _), some (.int _), some (.int _), some (.int _), some (.int _)], [.ref _], _)) rfl (u_ rfl) ?_
          refine w20r (pc := 84) (len_s := 3) (q_s := 103) rfl (krq hk rfl) ?_
          refine w_t (pc := 87) (e_s := (0, 2, 0, 0, 0, .int 28, [])) (y_s := (89, [some (.ref _), some (.int _), some (.int _), some (.int _), some (.int _), some (.int _)], [.int _, .ref _], _)) rfl (u_ rfl) ?_
          refine w_t (pc := 89) (e_s := (1, 1, 2, 0, 0, .null, [])) (y_s := (90, [some (.ref _), some (.int _), some (.int _), some (.int _), some (.int _), some (.int _)], [.int _, .int _, .ref _], _)) rfl (u_ rfl) ?_
          refine w_t (pc := 90) (e_s := (7, 1, 0, 0, 0, .null, [])) (y_s := (91, [some (.ref _), some (.int _), some (.int _), some (.int _), some (.int _), some (.int _)], [.int (_ + _), .ref _], _)) rfl (u_ rfl) ?_
          refine w22 (pc := 91) (len_s := 1) rfl (hk.1 103 0 104 rfl rfl) (fun c21 => ?_)
          refine w_t (pc := 92) (e_s := (3, 1, 0, 0, 0, .null, [])) (y_s := (93, [some (.ref _), some (.int _), some (.int _), some (.int _), some (.int _), some (.int _)], [.ref _, .int _], _)) rfl (u_ rfl) ?_
          refine w20r (pc := 93) (len_s := 3) (q_s := 103) rfl (krq hk rfl) ?_
          refine w_t (pc := 96) (e_s := (0, 2, 0, 0, 0, .int 28, [])) (y_s := (98, [some (.ref _), some (.int _), some (.int _), some (.int _), some (.int _), some (.int _)], [.int _, .ref _, .int _], _)) rfl (u_ rfl) ?_
          refine w_t (pc := 98) (e_s := (1, 1, 3, 0, 0, .null, [])) (y_s := (99, [some (.ref _), some (.int _), some (.int _), some (.int _), some (.int _), some (.int _)], [.int _, .int _, .ref _, .int _], _)) rfl (u_ rfl) ?_
          refine w_t (pc := 99) (e_s := (7, 1, 0, 0, 0, .null, [])) (y_s := (100, [some (.ref _), some (.int _), some (.int _), some (.int _), some (.int _), some (.int _)], [.int (_ + _), .ref _, .int _], _)) rfl (u_ rfl) ?_
          refine w22 (pc := 100) (len_s := 1) rfl (hk.1 103 0 104 rfl rfl) (fun c22 => ?_)
          refine wi3 (pc := 101) (len_s := 3) rfl rfl rfl (fun c23_s => ?_) (fun c23_s => ?_)
          · replace t_s := t_s.1 c23_s
            refine w_t (pc := 104) (e_s := (0, 1, 0, 0, 0, .int 1, [])) (y_s := (105, [some (.ref _), some (.int _), some (.int _), some (.int _), some (.int _), some (.int _)], [.int _], _)) rfl (u_ rfl) ?_
            refine w_t (pc := 105) (e_s := (17, 3, 122, 0, 0, .null, [])) (y_s := (122, [some (.ref _), some (.int _), some (.int _), some (.int _), some (.int _), some (.int _)], [.int _], _)) rfl (u_ rfl) ?_
            exact wrI (pc := 122) (len_s := 1) rfl hk t_s
          · replace t_s := t_s.2 c23_s
            refine w_t (pc := 108) (e_s := (0, 1, 0, 0, 0, .int 0, [])) (y_s := (109, [some (.ref _), some (.int _), some (.int _), some (.int _), some (.int _), some (.int _)], [.int _], _)) rfl (u_ rfl) ?_
            refine w_t (pc := 109) (e_s := (17, 3, 122, 0, 0, .null, [])) (y_s := (122, [some (.ref _), some (.int _), some (.int _), some (.int _), some (.int _), some (.int _)], [.int _], _)) rfl (u_ rfl) ?_
            exact wrI (pc := 122) (len_s := 1) rfl hk t_s
      · replace t_s := t_s.2 c16
        refine w_t (pc := 49) (e_s := (1, 2, 4, 0, 0, .null, [])) (y_s := (51, [some (.ref _), some (.int _), some (.int _), some (.int _), some (.int _), some (.int _)], [.int _], _)) rfl (u_ rfl) ?_
        refine w_t (pc := 51) (e_s := (1, 2, 5, 0, 0, .null, [])) (y_s := (53, [some (.ref _), some (.int _), some (.int _), some (.int _), some (.int _), some (.int _)], [.int _, .int _], _)) rfl (u_ rfl) ?_
        refine wi3 (pc := 53) (len_s := 3) rfl rfl rfl (fun c24_s => ?_) (fun c24_s => ?_)
        · replace t_s := t_s.1 c24_s
          refine w_t (pc := 56) (e_s := (0, 1, 0, 0, 0, .int 1, [])) (y_s := (57, [some (.ref _), some (.int _), some (.int _), some (.int _), some (.int _), some (.int _)], [.int _], _)) rfl (u_ rfl) ?_
          refine w_t (pc := 57) (e_s := (17, 3, 61, 0, 0, .null, [])) (y_s := (61, [some (.ref _), some (.int _), some (.int _), some (.int _), some (.int _), some (.int _)], [.int _], _)) rfl (u_ rfl) ?_
          exact wrI (pc := 61) (len_s := 1) rfl hk t_s
        · replace t_s := t_s.2 c24_s
          refine w_t (pc := 60) (e_s := (0, 1, 0, 0, 0, .int 0, [])) (y_s := (61, [some (.ref _), some (.int _), some (.int _), some (.int _), some (.int _), some (.int _)], [.int _], _)) rfl (u_ rfl) ?_
          exact wrI (pc := 61) (len_s := 1) rfl hk t_s
  · replace t_s := t_s.2 c3_s
    refine w_t (pc := 9) (e_s := (1, 1, 0, 0, 0, .null, [])) (y_s := (10, [some (.int _)], [.int _], _)) rfl (u_ rfl) ?_
    refine wrI (pc := 10) (len_s := 1) rfl hk ?_
    show wF _ 195 (19, [some (.ref _), some (.int _), some (.int _), some (.int _), none, none], [.int _], _) _
    refine w_t (pc := 19) (e_s := (4, 2, 4, 0, 0, .null, [])) (y_s := (21, [some (.ref _), some (.int _), some (.int _), some (.int _), some (.int _), none], [], _)) rfl (u_ rfl) ?_
    refine w_t (pc := 21) (e_s := (3, 1, 0, 0, 0, .null, [])) (y_s := (22, [some (.ref _), some (.int _), some (.int _), some (.int _), some (.int _), none], [.ref _], _)) rfl (u_ rfl) ?_
    refine w20r (pc := 22) (len_s := 3) (q_s := 103) rfl (krq hk rfl) ?_
    refine w_t (pc := 25) (e_s := (0, 2, 0, 0, 0, .int 20, [])) (y_s := (27, [some (.ref _), some (.int _), some (.int _), some (.int _), some (.int _), none], [.int _, .ref _], _)) rfl (u_ rfl) ?_
    refine w_t (pc := 27) (e_s := (1, 1, 3, 0, 0, .null, [])) (y_s := (28, [some (.ref _), some (.int _), some (.int _), some (.int _), some (.int _), none], [.int _, .int _, .ref _], _)) rfl (u_ rfl) ?_
    refine w_t (pc := 28) (e_s := (7, 1, 0, 0, 0, .null, [])) (y_s := (29, [some (.ref _), some (.int _), some (.int _), some (.int _), some (.int _), none], [.int (_ + _), .ref _], _)) rfl (u_ rfl) ?_
    refine w22 (pc := 29) (len_s := 1) rfl (hk.1 103 0 104 rfl rfl) (fun c25_s => ?_)
    replace t_s := t_s c25_s
    refine w_t (pc := 30) (e_s := (3, 1, 0, 0, 0, .null, [])) (y_s := (31, [some (.ref _), some (.int _), some (.int _), some (.int _), some (.int _), none], [.ref _, .int _], _)) rfl (u_ rfl) ?_
    refine w20r (pc := 31) (len_s := 3) (q_s := 103) rfl (krq hk rfl) ?_
    refine w_t (pc := 34) (e_s := (1, 1, 1, 0, 0, .null, [])) (y_s := (35, [some (.ref _), some (.int _), some (.int _), some (.int _), some (.int _), none], [.int _, .ref _, .int _], _)) rfl (u_ rfl) ?_
    refine w22 (pc := 35) (len_s := 1) rfl (hk.1 103 0 104 rfl rfl) (fun c26 => ?_)
    refine w_t (pc := 36) (e_s := (7, 1, 0, 1, 0, .null, [])) (y_s := (37, [some (.ref _), some (.int _), some (.int _), some (.int _), some (.int _), none], [.int (_ - _)], _)) rfl (u_ rfl) ?_
    refine wcI (pc := 37) (len_s := 3) rfl rfl (l := [some (.int _)]) rfl ?_
    refine w_t (pc := 0) (e_s := (1, 1, 0, 0, 0, .null, [])) (y_s := (1, [some (.int _)], [.int _], _)) rfl (u_ rfl) ?_
    refine wq3 (pc := 1) (len_s := 3) rfl rfl (fun c27_s => ?_) (fun c27_s => ?_)
    · replace t_s := t_s.1 c27_s
      refine w_t (pc := 4) (e_s := (1, 1, 0, 0, 0, .null, [])) (y_s := (5, [some (.int _)], [.int _], _)) rfl (u_ rfl) ?_
      refine w_t (pc := 5) (e_s := (9, 1, 0, 0, 0, .null, [])) (y_s := (6, [some (.int _)], [.int (-_)], _)) rfl (u_ rfl) ?_
      refine w_t (pc := 6) (e_s := (17, 3, 10, 0, 0, .null, [])) (y_s := (10, [some (.int _)], [.int _], _)) rfl (u_ rfl) ?_
      refine wrI (pc := 10) (len_s := 1) rfl hk ?_
      show wF _ 195 (40, [some (.ref _), some (.int _), some (.int _), some (.int _), some (.int _), none], [.int _], _) _
      refine w_t (pc := 40) (e_s := (4, 2, 5, 0, 0, .null, [])) (y_s := (42, [some (.ref _), some (.int _), some (.int _), some (.int _), some (.int _), some (.int _)], [], _)) rfl (u_ rfl) ?_
      refine w_t (pc := 42) (e_s := (1, 2, 4, 0, 0, .null, [])) (y_s := (44, [some (.ref _), some (.int _), some (.int _), some (.int _), some (.int _), some (.int _)], [.int _], _)) rfl (u_ rfl) ?_
      refine w_t (pc := 44) (e_s := (1, 2, 5, 0, 0, .null, [])) (y_s := (46, [some (.ref _), some (.int _), some (.int _), some (.int _), some (.int _), some (.int _)], [.int _, .int _], _)) rfl (u_ rfl) ?_
      refine wi0 (pc := 46) (len_s := 3) rfl rfl rfl (fun c28_s => ?_) (fun c28_s => ?_)
      · replace t_s := t_s.1 c28_s
        refine w_t (pc := 62) (e_s := (3, 1, 0, 0, 0, .null, [])) (y_s := (63, [some (.ref _), some (.int _), some (.int _), some (.int _), some (.int _), some (.int _)], [.ref _], _)) rfl (u_ rfl) ?_
        refine w20r (pc := 63) (len_s := 3) (q_s := 103) rfl (krq hk rfl) ?_
        refine w_t (pc := 66) (e_s := (0, 2, 0, 0, 0, .int 28, [])) (y_s := (68, [some (.ref _), some (.int _), some (.int _), some (.int _), some (.int _), some (.int _)], [.int _, .ref _], _)) rfl (u_ rfl) ?_
        refine w_t (pc := 68) (e_s := (1, 1, 2, 0, 0, .null, [])) (y_s := (69, [some (.ref _), some (.int _), some (.int _), some (.int _), some (.int _), some (.int _)], [.int _, .int _, .ref _], _)) rfl (u_ rfl) ?_
        refine w_t (pc := 69) (e_s := (7, 1, 0, 0, 0, .null, [])) (y_s := (70, [some (.ref _), some (.int _), some (.int _), some (.int _), some (.int _), some (.int _)], [.int (_ + _), .ref _], _)) rfl (u_ rfl) ?_
        refine w22 (pc := 70) (len_s := 1) rfl (hk.1 103 0 104 rfl rfl) (fun c29_s => ?_)
        replace t_s := t_s c29_s
        refine w_t (pc := 71) (e_s := (3, 1, 0, 0, 0, .null, [])) (y_s := (72, [some (.ref _), some (.int _), some (.int _), some (.int _), some (.int _), some (.int _)], [.ref _, .int _], _)) rfl (u_ rfl) ?_
        refine w20r (pc := 72) (len_s := 3) (q_s := 103) rfl (krq hk rfl) ?_
        refine w_t (pc := 75) (e_s := (0, 2, 0, 0, 0, .int 28, [])) (y_s := (77, [some (.ref _), some (.int _), some (.int _), some (.int _), some (.int _), some (.int _)], [.int _, .ref _, .int _], _)) rfl (u_ rfl) ?_
        refine w_t (pc := 77) (e_s := (1, 1, 3, 0, 0, .null, [])) (y_s := (78, [some (.ref _), some (.int _), some (.int _), some (.int _), some (.int _), some (.int _)], [.int _, .int _, .ref _, .int _], _)) rfl (u_ rfl) ?_
        refine w_t (pc := 78) (e_s := (7, 1, 0, 0, 0, .null, [])) (y_s := (79, [some (.ref _), some (.int _), some (.int _), some (.int _), some (.int _), some (.int _)], [.int (_ + _), .ref _, .int _], _)) rfl (u_ rfl) ?_
        refine w22 (pc := 79) (len_s := 1) rfl (hk.1 103 0 104 rfl rfl) (fun c30_s => ?_)
        replace t_s := t_s c30_s
        refine wi0 (pc := 80) (len_s := 3) rfl rfl rfl (fun c31_s => ?_) (fun c31_s => ?_)
        · replace t_s := t_s.1 c31_s
          refine w_t (pc := 112) (e_s := (1, 1, 2, 0, 0, .null, [])) (y_s := (113, [some (.ref _), some (.int _), some (.int _), some (.int _), some (.int _), some (.int _)], [.int _], _)) rfl (u_ rfl) ?_
          refine w_t (pc := 113) (e_s := (1, 1, 3, 0, 0, .null, [])) (y_s := (114, [some (.ref _), some (.int _), some (.int _), some (.int _), some (.int _), some (.int _)], [.int _, .int _], _)) rfl (u_ rfl) ?_
          refine wi3 (pc := 114) (len_s := 3) rfl rfl rfl (fun c32_s => ?_) (fun c32_s => ?_)
          · replace t_s := t_s.1 c32_s
            refine w_t (pc := 117) (e_s := (0, 1, 0, 0, 0, .int 1, [])) (y_s := (118, [some (.ref _), some (.int _), some (.int _), some (.int _), some (.int _), some (.int _)], [.int _], _)) rfl (u_ rfl) ?_
            refine w_t (pc := 118) (e_s := (17, 3, 122, 0, 0, .null, [])) (y_s := (122, [some (.ref _), some (.int _), some (.int _), some (.int _), some (.int _), some (.int _)], [.int _], _)) rfl (u_ rfl) ?_
            exact wrI (pc := 122) (len_s := 1) rfl hk t_s
          · replace t_s := t_s.2 c32_s
            refine w_t (pc := 121) (e_s := (0, 1, 0, 0, 0, .int 0, [])) (y_s := (122, [some (.ref _), some (.int _), some (.int _), some (.int _), some (.int _), some (.int _)], [.int _], _)) rfl (u_ rfl) ?_
            exact wrI (pc := 122) (len_s := 1) rfl hk t_s
        · replace t_s := t_s.2 c31_s
          refine w_t (pc := 83) (e_s := (3, 1, 0, 0, 0, .null, [])) (y_s := (84, [some (.ref _), some (.int _), some (.int _), some (.int _), some (.int _), some (.int _)], [.ref _], _)) rfl (u_ rfl) ?_
          refine w20r (pc := 84) (len_s := 3) (q_s := 103) rfl (krq hk rfl) ?_
          refine w_t (pc := 87) (e_s := (0, 2, 0, 0, 0, .int 28, [])) (y_s := (89, [some (.ref _), some (.int _), some (.int _), some (.int _), some (.int _), some (.int _)], [.int _, .ref _], _)) rfl (u_ rfl) ?_
          refine w_t (pc := 89) (e_s := (1, 1, 2, 0, 0, .null, [])) (y_s := (90, [some (.ref _), some (.int _), some (.int _), some (.int _), some (.int _), some (.int _)], [.int _, .int _, .ref _], _)) rfl (u_ rfl) ?_
          refine w_t (pc := 90) (e_s := (7, 1, 0, 0, 0, .null, [])) (y_s := (91, [some (.ref _), some (.int _), some (.int _), some (.int _), some (.int _), some (.int _)], [.int (_ + _), .ref _], _)) rfl (u_ rfl) ?_
          refine w22 (pc := 91) (len_s := 1) rfl (hk.1 103 0 104 rfl rfl) (fun c33_s => ?_)
          refine w_t (pc := 92) (e_s := (3, 1, 0, 0, 0, .null, [])) (y_s := (93, [some (.ref _), some (.int _), some (.int _), some (.int _), some (.int _), some (.int _)], [.ref _, .int _], _)) rfl (u_ rfl) ?_
          refine w20r (pc := 93) (len_s := 3) (q_s := 103) rfl (krq hk rfl) ?_
          refine w_t (pc := 96) (e_s := (0, 2, 0, 0, 0, .int 28, [])) (y_s := (98, [some (.ref _), some (.int _), some (.int _), some (.int _), some (.int _), some (.int _)], [.int _, .ref _, .int _], _)) rfl (u_ rfl) ?_
          refine w_t (pc := 98) (e_s := (1, 1, 3, 0, 0, .null, [])) (y_s := (99, [some (.ref _), some (.int _), some (.int _), some (.int _), some (.int _), some (.int _)], [.int _, .int _, .ref _, .int _], _)) rfl (u_ rfl) ?_
          refine w_t (pc := 99) (e_s := (7, 1, 0, 0, 0, .null, [])) (y_s := (100, [some (.ref _), some (.int _), some (.int _), some (.int _), some (.int _), some (.int _)], [.int (_ + _), .ref _, .int _], _)) rfl (u_ rfl) ?_
          refine w22 (pc := 100) (len_s := 1) rfl (hk.1 103 0 104 rfl rfl) (fun c34_s => ?_)
          refine wi3 (pc := 101) (len_s := 3) rfl rfl rfl (fun c35_s => ?_) (fun c35_s => ?_)
          · replace t_s := t_s.1 c35_s
            refine w_t (pc := 104) (e_s := (0, 1, 0, 0, 0, .int 1, [])) (y_s := (105, [some (.ref _), some (.int _), some (.int _), some (.int _), some (.int _), some (.int _)], [.int _], _)) rfl (u_ rfl) ?_
            refine w_t (pc := 105) (e_s := (17, 3, 122, 0, 0, .null, [])) (y_s := (122, [some (.ref _), some (.int _), some (.int _), some (.int _), some (.int _), some (.int _)], [.int _], _)) rfl (u_ rfl) ?_
            exact wrI (pc := 122) (len_s := 1) rfl hk t_s
          · replace t_s := t_s.2 c35_s
            refine w_t (pc := 108) (e_s := (0, 1, 0, 0, 0, .int 0, [])) (y_s := (109, [some (.ref _), some (.int _), some (.int _), some (.int _), some (.int _), some (.int _)], [.int _], _)) rfl (u_ rfl) ?_
            refine w_t (pc := 109) (e_s := (17, 3, 122, 0, 0, .null, [])) (y_s := (122, [some (.ref _), some (.int _), some (.int _), some (.int _), some (.int _), some (.int _)], [.int _], _)) rfl (u_ rfl) ?_
            exact wrI (pc := 122) (len_s := 1) rfl hk t_s
      · replace t_s := t_s.2 c28_s
        refine w_t (pc := 49) (e_s := (1, 2, 4, 0, 0, .null, [])) (y_s := (51, [some (.ref _), some (.int _), some (.int _), some (.int _), some (.int _), some (.int _)], [.int _], _)) rfl (u_ rfl) ?_
        refine w_t (pc := 51) (e_s := (1, 2, 5, 0, 0, .null, [])) (y_s := (53, [some (.ref _), some (.int _), some (.int _), some (.int _), some (.int _), some (.int _)], [.int _, .int _], _)) rfl (u_ rfl) ?_
        refine wi3 (pc := 53) (len_s := 3) rfl rfl rfl (fun c36_s => ?_) (fun c36_s => ?_)
        · replace t_s := t_s.1 c36_s
          refine w_t (pc := 56) (e_s := (0, 1, 0, 0, 0, .int 1, [])) (y_s := (57, [some (.ref _), some (.int _), some (.int _), some (.int _), some (.int _), some (.int _)], [.int _], _)) rfl (u_ rfl) ?_
          refine w_t (pc := 57) (e_s := (17, 3, 61, 0, 0, .null, [])) (y_s := (61, [some (.ref _), some (.int _), some (.int _), some (.int _), some (.int _), some (.int _)], [.int _], _)) rfl (u_ rfl) ?_
          exact wrI (pc := 61) (len_s := 1) rfl hk t_s
        · replace t_s := t_s.2 c36_s
          refine w_t (pc := 60) (e_s := (0, 1, 0, 0, 0, .int 0, [])) (y_s := (61, [some (.ref _), some (.int _), some (.int _), some (.int _), some (.int _), some (.int _)], [.int _], _)) rfl (u_ rfl) ?_
          exact wrI (pc := 61) (len_s := 1) rfl hk t_s
    · replace t_s := t_s.2 c27_s
      refine w_t (pc := 9) (e_s := (1, 1, 0, 0, 0, .null, [])) (y_s := (10, [some (.int _)], [.int _], _)) rfl (u_ rfl) ?_
      refine wrI (pc := 10) (len_s := 1) rfl hk ?_
      show wF _ 195 (40, [some (.ref _), some (.int _), some (.int _), some (.int _), some (.int _), none], [.int _], _) _
      refine w_t (pc := 40) (e_s := (4, 2, 5, 0, 0, .null, [])) (y_s := (42, [some (.ref _), some (.int _), some (.int _), some (.int _), some (.int _), some (.int _)], [], _)) rfl (u_ rfl) ?_
      refine w_t (pc := 42) (e_s := (1, 2, 4, 0, 0, .null, [])) (y_s := (44, [some (.ref _), some (.int _), some (.int _), some (.int _), some (.int _), some (.int _)], [.int _], _)) rfl (u_ rfl) ?_
      refine w_t (pc := 44) (e_s := (1, 2, 5, 0, 0, .null, [])) (y_s := (46, [some (.ref _), some (.int _), some (.int _), some (.int _), some (.int _), some (.int _)], [.int _, .int _], _)) rfl (u_ rfl) ?_
      refine wi0 (pc := 46) (len_s := 3) rfl rfl rfl (fun c37 => ?_) (fun c37 => ?_)
      · replace t_s := t_s.1 c37
        refine w_t (pc := 62) (e_s := (3, 1, 0, 0, 0, .null, [])) (y_s := (63, [some (.ref _), some (.int _), some (.int _), some (.int _), some (.int _), some (.int _)], [.ref _], _)) rfl (u_ rfl) ?_
        refine w20r (pc := 63) (len_s := 3) (q_s := 103) rfl (krq hk rfl) ?_
        refine w_t (pc := 66) (e_s := (0, 2, 0, 0, 0, .int 28, [])) (y_s := (68, [some (.ref _), some (.int _), some (.int _), some (.int _), some (.int _), some (.int _)], [.int _, .ref _], _)) rfl (u_ rfl) ?_
        refine w_t (pc := 68) (e_s := (1, 1, 2, 0, 0, .null, [])) (y_s := (69, [some (.ref _), some (.int _), some (.int _), some (.int _), some (.int _), some (.int _)], [.int _, .int _, .ref _], _)) rfl (u_ rfl) ?_
        refine w_t (pc := 69) (e_s := (7, 1, 0, 0, 0, .null, [])) (y_s := (70, [some (.ref _), some (.int _), some (.int _), some (.int _), some (.int _), some (.int _)], [.int (_ + _), .ref _], _)) rfl (u_ rfl) ?_
        refine w22 (pc := 70) (len_s := 1) rfl (hk.1 103 0 104 rfl rfl) (fun c38 => ?_)
        replace t_s := t_s c38
        refine w_t (pc := 71) (e_s := (3, 1, 0, 0, 0, .null, [])) (y_s := (72, [some (.ref _), some (.int _), some (.int _), some (.int _), some (.int _), some (.int _)], [.ref _, .int _], _)) rfl (u_ rfl) ?_
        refine w20r (pc := 72) (len_s := 3) (q_s := 103) rfl (krq hk rfl) ?_
        refine w_t (pc := 75) (e_s := (0, 2, 0, 0, 0, .int 28, [])) (y_s := (77, [some (.ref _), some (.int _), some (.int _), some (.int _), some (.int _), some (.int _)], [.int _, .ref _, .int _], _)) rfl (u_ rfl) ?_
        refine w_t (pc := 77) (e_s := (1, 1, 3, 0, 0, .null, [])) (y_s := (78, [some (.ref _), some (.int _), some (.int _), some (.int _), some (.int _), some (.int _)], [.int _, .int _, .ref _, .int _], _)) rfl (u_ rfl) ?_
        refine w_t (pc := 78) (e_s := (7, 1, 0, 0, 0, .null, [])) (y_s := (79, [some (.ref _), some (.int _), some (.int _), some (.int _), some (.int _), some (.int _)], [.int (_ + _), .ref _, .int _], _)) rfl (u_ rfl) ?_
        refine w22 (pc := 79) (len_s := 1) rfl (hk.1 103 0 104 rfl rfl) (fun c39_s => ?_)
        replace t_s := t_s c39_s
        refine wi0 (pc := 80) (len_s := 3) rfl rfl rfl (fun c40_s => ?_) (fun c40_s => ?_)
        · replace t_s := t_s.1 c40_s
          refine w_t (pc := 112) (e_s := (1, 1, 2, 0, 0, .null, [])) (y_s := (113, [some (.ref _), some (.int _), some (.int _), some (.int _), some (.int _), some (.int _)], [.int _], _)) rfl (u_ rfl) ?_
          refine w_t (pc := 113) (e_s := (1, 1, 3, 0, 0, .null, [])) (y_s := (114, [some (.ref _), some (.int _), some (.int _), some (.int _), some (.int _), some (.int _)], [.int _, .int _], _)) rfl (u_ rfl) ?_
          refine wi3 (pc := 114) (len_s := 3) rfl rfl rfl (fun c41 => ?_) (fun c41 => ?_)
          · replace t_s := t_s.1 c41
            refine w_t (pc := 117) (e_s := (0, 1, 0, 0, 0, .int 1, [])) (y_s := (118, [some (.ref _), some (.int _), some (.int _), some (.int _), some (.int _), some (.int _)], [.int _], _)) rfl (u_ rfl) ?_
            refine w_t (pc := 118) (e_s := (17, 3, 122, 0, 0, .null, [])) (y_s := (122, [some (.ref _), some (.int _), some (.int _), some (.int _), some (.int _), some (.int _)], [.int _], _)) rfl (u_ rfl) ?_
            exact wrI (pc := 122) (len_s := 1) rfl hk t_s
          · replace t_s := t_s.2 c41
            refine w_t (pc := 121) (e_s := (0, 1, 0, 0, 0, .int 0, [])) (y_s := (122, [some (.ref _), some (.int _), some (.int _), some (.int _), some (.int _), some (.int _)], [.int _], _)) rfl (u_ rfl) ?_
            exact wrI (pc := 122) (len_s := 1) rfl hk t_s
        · replace t_s := t_s.2 c40_s
          refine w_t (pc := 83) (e_s := (3, 1, 0, 0, 0, .null, [])) (y_s := (84, [some (.ref _), some (.int _), some (.int _), some (.int _), some (.int _), some (.int _)], [.ref _], _)) rfl (u_ rfl) ?_
          refine w20r (pc := 84) (len_s := 3) (q_s := 103) rfl (krq hk rfl) ?_
          refine w_t (pc := 87) (e_s := (0, 2, 0, 0, 0, .int 28, [])) (y_s := (89, [some (.ref _), some (.int _), some (.int _), some (.int _), some (.int _), some (.int _)], [.int _, .ref _], _)) rfl (u_ rfl) ?_
          refine w_t (pc := 89) (e_s := (1, 1, 2, 0, 0, .null, [])) (y_s := (90, [some (.ref _), some (.int _), some (.int _), some (.int _), some (.int _), some (.int _)], [.int _, .int _, .ref _], _)) rfl (u_ rfl) ?_
          refine w_t (pc := 90) (e_s := (7, 1, 0, 0, 0, .null, [])) (y_s := (91, [some (.ref _), some (.int _), some (.int _), some (.int _), some (.int _), some (.int _)], [.int (_ + _), .ref _], _)) rfl (u_ rfl) ?_
          refine w22 (pc := 91) (len_s := 1) rfl (hk.1 103 0 104 rfl rfl) (fun c42 => ?_)
          refine w_t (pc := 92) (e_s := (3, 1, 0, 0, 0, .null, [])) (y_s := (93, [some (.ref _), some (.int _), some (.int _), some (.int _), some (.int _), some (.int _)], [.ref _, .int _], _)) rfl (u_ rfl) ?_
          refine w20r (pc := 93) (len_s := 3) (q_s := 103) rfl (krq hk rfl) ?_
          refine w_t (pc := 96) (e_s := (0, 2, 0, 0, 0, .int 28, [])) (y_s := (98, [some (.ref _), some (.int _), some (.int _), some (.int _), some (.int _), some (.int _)], [.int _, .ref _, .int _], _)) rfl (u_ rfl) ?_
          refine w_t (pc := 98) (e_s := (1, 1, 3, 0, 0, .null, [])) (y_s := (99, [some (.ref _), some (.int _), some (.int _), some (.int _), some (.int _), some (.int _)], [.int _, .int _, .ref _, .int _], _)) rfl (u_ rfl) ?_
          refine w_t (pc := 99) (e_s := (7, 1, 0, 0, 0, .null, [])) (y_s := (100, [some (.ref _), some (.int _), some (.int _), some (.int _), some (.int _), some (.int _)], [.int (_ + _), .ref _, .int _], _)) rfl (u_ rfl) ?_
          refine w22 (pc := 100) (len_s := 1) rfl (hk.1 103 0 104 rfl rfl) (fun c43_s => ?_)
          refine wi3 (pc := 101) (len_s := 3) rfl rfl rfl (fun c44_s => ?_) (fun c44_s => ?_)
          · replace t_s := t_s.1 c44_s
            refine w_t (pc := 104) (e_s := (0, 1, 0, 0, 0, .int 1, [])) (y_s := (105, [some (.ref _), some (.int _), some (.int _), some (.int _), some (.int _), some (.int _)], [.int _], _)) rfl (u_ rfl) ?_
            refine w_t (pc := 105) (e_s := (17, 3, 122, 0, 0, .null, [])) (y_s := (122, [some (.ref _), some (.int _), some (.int _), some (.int _), some (.int _), some (.int _)], [.int _], _)) rfl (u_ rfl) ?_
            exact wrI (pc := 122) (len_s := 1) rfl hk t_s
          · replace t_s := t_s.2 c44_s
            refine w_t (pc := 108) (e_s := (0, 1, 0, 0, 0, .int 0, [])) (y_s := (109, [some (.ref _), some (.int _), some (.int _), some (.int _), some (.int _), some (.int _)], [.int _], _)) rfl (u_ rfl) ?_
            refine w_t (pc := 109) (e_s := (17, 3, 122, 0, 0, .null, [])) (y_s := (122, [some (.ref _), some (.int _), some (.int _), some (.int _), some (.int _), some (.int _)], [.int _], _)) rfl (u_ rfl) ?_
            exact wrI (pc := 122) (len_s := 1) rfl hk t_s
      · replace t_s := t_s.2 c37
        refine w_t (pc := 49) (e_s := (1, 2, 4, 0, 0, .null, [])) (y_s := (51, [some (.ref _), some (.int _), some (.int _), some (.int _), some (.int _), some (.int _)], [.int _], _)) rfl (u_ rfl) ?_
        refine w_t (pc := 51) (e_s := (1, 2, 5, 0, 0, .null, [])) (y_s := (53, [some (.ref _), some (.int _), some (.int _), some (.int _), some (.int _), some (.int _)], [.int _, .int _], _)) rfl (u_ rfl) ?_
        refine wi3 (pc := 53) (len_s := 3) rfl rfl rfl (fun c45 => ?_) (fun c45 => ?_)
        · replace t_s := t_s.1 c45
          refine w_t (pc := 56) (e_s := (0, 1, 0, 0, 0, .int 1, [])) (y_s := (57, [some (.ref _), some (.int _), some (.int _), some (.int _), some (.int _), some (.int _)], [.int _], _)) rfl (u_ rfl) ?_
          refine w_t (pc := 57) (e_s := (17, 3, 61, 0, 0, .null, [])) (y_s := (61, [some (.ref _), some (.int _), some (.int _), some (.int _), some (.int _), some (.int _)], [.int _], _)) rfl (u_ rfl) ?_
          exact wrI (pc := 61) (len_s := 1) rfl hk t_s
        · replace t_s := t_s.2 c45
          refine w_t (pc := 60) (e_s := (0, 1, 0, 0, 0, .int 0, [])) (y_s := (61, [some (.ref _), some (.int _), some (.int _), some (.int _), some (.int _), some (.int _)], [.int _], _)) rfl (u_ rfl) ?_
          exact wrI (pc := 61) (len_s := 1) rfl hk t_s
/-- ColdShodModel.ideaRather(II)Z, from 0 on -/
theorem sg_196_0 {F_s : Nat} {x1_s : Int32} {x2_s : Int32} {h_s : zH} {K_s : Int32 → zH → Prop} (hk : hKn h_s) (t_s : (zix (6 + x1_s) < 104 → (zix (6 + x2_s) < 104 → ((h_s.2.1 103 (zix (6 + x1_s))).toInt = (h_s.2.1 103 (zix (6 + x2_s))).toInt → ((x1_s.toInt < x2_s.toInt → K_s 1 h_s) ∧ (¬ x1_s.toInt < x2_s.toInt → K_s 0 h_s))) ∧ (¬ (h_s.2.1 103 (zix (6 + x1_s))).toInt = (h_s.2.1 103 (zix (6 + x2_s))).toInt → (((h_s.2.1 103 (zix (6 + x2_s))).toInt < (h_s.2.1 103 (zix (6 + x1_s))).toInt → K_s 1 h_s) ∧ (¬ (h_s.2.1 103 (zix (6 + x2_s))).toInt < (h_s.2.1 103 (zix (6 + x1_s))).toInt → K_s 0 h_s)))))) : wF (F_s + 1) 196 (0, [some (.ref 102), some (.int x1_s), some (.int x2_s)], [], h_s) (gI K_s) := by
  refine w_0 (pc := 0) (e_s := (3, 1, 0, 0, 0, .null, [])) (y_s := (1, [some (.ref _), some (.int _), some (.int _)], [.ref _], _)) rfl (u_ rfl) ?_
  refine w20r (pc := 1) (len_s := 3) (q_s := 103) rfl (krq hk rfl) ?_
  refine w_t (pc := 4) (e_s := (0, 2, 0, 0, 0, .int 6, [])) (y_s := (6, [some (.ref _), some (.int _), some (.int _)], [.int _, .ref _], _)) rfl (u_ rfl) ?_
  refine w_t (pc := 6) (e_s := (1, 1, 1, 0, 0, .null, [])) (y_s := (7, [some (.ref _), some (.int _), some (.int _)], [.int _, .int _, .ref _], _)) rfl (u_ rfl) ?_
  refine w_t (pc := 7) (e_s := (7, 1, 0, 0, 0, .null, [])) (y_s := (8, [some (.ref _), some (.int _), some (.int _)], [.int (_ + _), .ref _], _)) rfl (u_ rfl) ?_
  refine w22 (pc := 8) (len_s := 1) rfl (hk.1 103 0 104 rfl rfl) (fun c1_s => ?_)
  replace t_s := t_s c1_s
  refine w_t (pc := 9) (e_s := (3, 1, 0, 0, 0, .null, [])) (y_s := (10, [some (.ref _), some (.int _), some (.int _)], [.ref _, .int _], _)) rfl (u_ rfl) ?_
  refine w20r (pc := 10) (len_s := 3) (q_s := 103) rfl (krq hk rfl) ?_
  refine w_t (pc := 13) (e_s := (0, 2, 0, 0, 0, .int 6, [])) (y_s := (15, [some (.ref _), some (.int _), some (.int _)], [.int _, .ref _, .int _], _)) rfl (u_ rfl) ?_
  refine w_t (pc := 15) (e_s := (1, 1, 2, 0, 0, .null, [])) (y_s := (16, [some (.ref _), some (.int _), some (.int _)], [.int _, .int _, .ref _, .int _], _)) rfl (u_ rfl) ?_
  refine w_t (pc := 16) (e_s := (7, 1, 0, 0, 0, .null, [])) (y_s := (17, [some (.ref _), some (.int _), some (.int _)], [.int (_ + _), .ref _, .int _], _)) rfl (u_ rfl) ?_
  refine w22 (pc := 17) (len_s := 1) rfl (hk.1 103 0 104 rfl rfl) (fun c2_s => ?_)
  replace t_s := t_s c2_s
  refine wi0 (pc := 18) (len_s := 3) rfl rfl rfl (fun c3_s => ?_) (fun c3_s => ?_)
  · replace t_s := t_s.1 c3_s
    refine w_t (pc := 50) (e_s := (1, 1, 1, 0, 0, .null, [])) (y_s := (51, [some (.ref _), some (.int _), some (.int _)], [.int _], _)) rfl (u_ rfl) ?_
    refine w_t (pc := 51) (e_s := (1, 1, 2, 0, 0, .null, [])) (y_s := (52, [some (.ref _), some (.int _), some (.int _)], [.int _, .int _], _)) rfl (u_ rfl) ?_
    refine wi3 (pc := 52) (len_s := 3) rfl rfl rfl (fun c4_s => ?_) (fun c4_s => ?_)
    · replace t_s := t_s.1 c4_s
      refine w_t (pc := 55) (e_s := (0, 1, 0, 0, 0, .int 1, [])) (y_s := (56, [some (.ref _), some (.int _), some (.int _)], [.int _], _)) rfl (u_ rfl) ?_
      refine w_t (pc := 56) (e_s := (17, 3, 60, 0, 0, .null, [])) (y_s := (60, [some (.ref _), some (.int _), some (.int _)], [.int _], _)) rfl (u_ rfl) ?_
      exact wrI (pc := 60) (len_s := 1) rfl hk t_s
    · replace t_s := t_s.2 c4_s
      refine w_t (pc := 59) (e_s := (0, 1, 0, 0, 0, .int 0, [])) (y_s := (60, [some (.ref _), some (.int _), some (.int _)], [.int _], _)) rfl (u_ rfl) ?_
      exact wrI (pc := 60) (len_s := 1) rfl hk t_s
  · replace t_s := t_s.2 c3_s
    refine w_t (pc := 21) (e_s := (3, 1, 0, 0, 0, .null, [])) (y_s := (22, [some (.ref _), some (.int _), some (.int _)], [.ref _], _)) rfl (u_ rfl) ?_
    refine w20r (pc := 22) (len_s := 3) (q_s := 103) rfl (krq hk rfl) ?_
    refine w_t (pc := 25) (e_s := (0, 2, 0, 0, 0, .int 6, [])) (y_s := (27, [some (.ref _), some (.int _), some (.int _)], [.int _, .ref _], _)) rfl (u_ rfl) ?_
    refine w_t (pc := 27) (e_s := (1, 1, 1, 0, 0, .null, [])) (y_s := (28, [some (.ref _), some (.int _), some (.int _)], [.int _, .int _, .ref _], _)) rfl (u_ rfl) ?_
    refine w_t (pc := 28) (e_s := (7, 1, 0, 0, 0, .null, [])) (y_s := (29, [some (.ref _), some (.int _), some (.int _)], [.int (_ + _), .ref _], _)) rfl (u_ rfl) ?_
    refine w22 (pc := 29) (len_s := 1) rfl (hk.1 103 0 104 rfl rfl) (fun c5_s => ?_)
    refine w_t (pc := 30) (e_s := (3, 1, 0, 0, 0, .null, [])) (y_s := (31, [some (.ref _), some (.int _), some (.int _)], [.ref _, .int _], _)) rfl (u_ rfl) ?_
    refine w20r (pc := 31) (len_s := 3) (q_s := 103) rfl (krq hk rfl) ?_
    refine w_t (pc := 34) (e_s := (0, 2, 0, 0, 0, .int 6, [])) (y_s := (36, [some (.ref _), some (.int _), some (.int _)], [.int _, .ref _, .int _], _)) rfl (u_ rfl) ?_
    refine w_t (pc := 36) (e_s := (1, 1, 2, 0, 0, .null, [])) (y_s := (37, [some (.ref _), some (.int _), some (.int _)], [.int _, .int _, .ref _, .int _], _)) rfl (u_ rfl) ?_
    refine w_t (pc := 37) (e_s := (7, 1, 0, 0, 0, .null, [])) (y_s := (38, [some (.ref _), some (.int _), some (.int _)], [.int (_ + _), .ref _, .int _], _)) rfl (u_ rfl) ?_
    refine w22 (pc := 38) (len_s := 1) rfl (hk.1 103 0 104 rfl rfl) (fun c6_s => ?_)
    refine wi5 (pc := 39) (len_s := 3) rfl rfl rfl (fun c7_s => ?_) (fun c7_s => ?_)
    · replace t_s := t_s.1 c7_s
      refine w_t (pc := 42) (e_s := (0, 1, 0, 0, 0, .int 1, [])) (y_s := (43, [some (.ref _), some (.int _), some (.int _)], [.int _], _)) rfl (u_ rfl) ?_
      refine w_t (pc := 43) (e_s := (17, 3, 60, 0, 0, .null, [])) (y_s := (60, [some (.ref _), some (.int _), some (.int _)], [.int _], _)) rfl (u_ rfl) ?_
      exact wrI (pc := 60) (len_s := 1) rfl hk t_s
    · replace t_s := t_s.2 c7_s
      refine w_t (pc := 46) (e_s := (0, 1, 0, 0, 0, .int 0, [])) (y_s := (47, [some (.ref _), some (.int _), some (.int _)], [.int _], _)) rfl (u_ rfl) ?_
      refine w_t (pc := 47) (e_s := (17, 3, 60, 0, 0, .null, [])) (y_s := (60, [some (.ref _), some (.int _), some (.int _)], [.int _], _)) rfl (u_ rfl) ?_
      exact wrI (pc := 60) (len_s := 1) rfl hk t_s
/-- ColdShodModel.ideaOf(I)I, from 0 on -/
theorem sg_197_0 {F_s : Nat} {x1_s : Int32} {h_s : zH} {K_s : Int32 → zH → Prop} (hk : hKn h_s) (t_s : wF F_s 197 (2, [some (.ref 102), some (.int x1_s), some (.int 0)], [], h_s) (gI K_s)) : wF (F_s + 1) 197 (0, [some (.ref 102), some (.int x1_s), none], [], h_s) (gI K_s) := by
  refine w_0 (pc := 0) (e_s := (0, 1, 0, 0, 0, .int 0, [])) (y_s := (1, [some (.ref _), some (.int _), none], [.int _], _)) rfl (u_ rfl) ?_
  refine w_t (pc := 1) (e_s := (4, 1, 2, 0, 0, .null, [])) (y_s := (2, [some (.ref _), some (.int _), some (.int _)], [], _)) rfl (u_ rfl) ?_
  exact t_s
/-- ColdShodModel.ideaOf(I)I, from 2 on -/
theorem sg_197_2 {F_s : Nat} {x1_s x2_s : Int32} {h_s : zH} {K_s : Int32 → zH → Prop} (hk : hKn h_s) (t_s : (x2_s.toInt < (h_s.2.1 102 7).toInt → (zix x2_s < 8 → ((h_s.2.1 116 (zix x2_s)).toInt = x1_s.toInt → K_s x2_s h_s) ∧ (¬ (h_s.2.1 116 (zix x2_s)).toInt = x1_s.toInt → wF F_s 197 (2, [some (.ref 102), some (.int x1_s), some (.int (x2_s + 1))], [], h_s) (gI K_s)))) ∧ (¬ x2_s.toInt < (h_s.2.1 102 7).toInt → K_s (-1) h_s)) : wF (F_s + 1) 197 (2, [some (.ref 102), some (.int x1_s), some (.int x2_s)], [], h_s) (gI K_s) := by
  refine w_0 (pc := 2) (e_s := (1, 1, 2, 0, 0, .null, [])) (y_s := (3, [some (.ref _), some (.int _), some (.int _)], [.int _], _)) rfl (u_ rfl) ?_
  refine w_t (pc := 3) (e_s := (3, 1, 0, 0, 0, .null, [])) (y_s := (4, [some (.ref _), some (.int _), some (.int _)], [.ref _, .int _], _)) rfl (u_ rfl) ?_
  refine w20 (pc := 4) (len_s := 3) rfl ?_
  refine wi3 (pc := 7) (len_s := 3) rfl rfl rfl (fun c1_s => ?_) (fun c1_s => ?_)
  · replace t_s := t_s.1 c1_s
    refine w_t (pc := 10) (e_s := (3, 1, 0, 0, 0, .null, [])) (y_s := (11, [some (.ref _), some (.int _), some (.int _)], [.ref _], _)) rfl (u_ rfl) ?_
    refine w20r (pc := 11) (len_s := 3) (q_s := 116) rfl (krq hk rfl) ?_
    refine w_t (pc := 14) (e_s := (1, 1, 2, 0, 0, .null, [])) (y_s := (15, [some (.ref _), some (.int _), some (.int _)], [.int _, .ref _], _)) rfl (u_ rfl) ?_
    refine w22 (pc := 15) (len_s := 1) rfl (hk.1 116 0 8 rfl rfl) (fun c2_s => ?_)
    replace t_s := t_s c2_s
    refine w_t (pc := 16) (e_s := (1, 1, 1, 0, 0, .null, [])) (y_s := (17, [some (.ref _), some (.int _), some (.int _)], [.int _, .int _], _)) rfl (u_ rfl) ?_
    refine wi1 (pc := 17) (len_s := 3) rfl rfl rfl (fun c3_s => ?_) (fun c3_s => ?_)
    · replace t_s := t_s.1 c3_s
      refine w_t (pc := 20) (e_s := (1, 1, 2, 0, 0, .null, [])) (y_s := (21, [some (.ref _), some (.int _), some (.int _)], [.int _], _)) rfl (u_ rfl) ?_
      exact wrI (pc := 21) (len_s := 1) rfl hk t_s
    · replace t_s := t_s.2 c3_s
      refine w_t (pc := 22) (e_s := (19, 3, 2, 0, 0, .int 1, [])) (y_s := (25, [some (.ref _), some (.int _), some (.int _)], [], _)) rfl (u_ rfl) ?_
      refine w_t (pc := 25) (e_s := (17, 3, 2, 0, 0, .null, [])) (y_s := (2, [some (.ref _), some (.int _), some (.int _)], [], _)) rfl (u_ rfl) ?_
      exact t_s
  · replace t_s := t_s.2 c1_s
    refine w_t (pc := 28) (e_s := (0, 1, 0, 0, 0, .int (-1), [])) (y_s := (29, [some (.ref _), some (.int _), some (.int _)], [.int _], _)) rfl (u_ rfl) ?_
    exact wrI (pc := 29) (len_s := 1) rfl hk t_s
/-- ColdShodModel.allAsk()V, from 0 on -/
theorem sg_198_0 {F_s : Nat}  {h_s : zH} {K_s : zH → Prop} (hk : hKn h_s) (t_s : wF F_s 198 (2, [some (.ref 102), some (.int 0), none, none, none], [], h_s) (gV K_s)) : wF (F_s + 1) 198 (0, [some (.ref 102), none, none, none, none], [], h_s) (gV K_s) := by
  refine w_0 (pc := 0) (e_s := (0, 1, 0, 0, 0, .int 0, [])) (y_s := (1, [some (.ref _), none, none, none, none], [.int _], _)) rfl (u_ rfl) ?_
  refine w_t (pc := 1) (e_s := (4, 1, 1, 0, 0, .null, [])) (y_s := (2, [some (.ref _), some (.int _), none, none, none], [], _)) rfl (u_ rfl) ?_
  exact t_s
/-- ColdShodModel.allAsk()V, from 2 on -/
theorem sg_198_2 {F_s : Nat} {x1_s : Int32} {l2 l3 l4 : Option Value} {h_s : zH} {K_s : zH → Prop} (hk : hKn h_s) (t_s : (x1_s.toInt < (h_s.2.1 102 7).toInt → (zix x1_s < 8 → wF F_s 198 (2, [some (.ref 102), some (.int (x1_s + 1)), l2, l3, l4], [], (h_s.1, zup h_s.2.1 116 (zix x1_s) (-1), h_s.2.2.1, h_s.2.2.2)) (gV K_s))) ∧ (¬ x1_s.toInt < (h_s.2.1 102 7).toInt → wF F_s 198 (25, [some (.ref 102), some (.int 0), l2, l3, l4], [], h_s) (gV K_s))) : wF (F_s + 1) 198 (2, [some (.ref 102), some (.int x1_s), l2, l3, l4], [], h_s) (gV K_s) := by
  refine w_0 (pc := 2) (e_s := (1, 1, 1, 0, 0, .null, [])) (y_s := (3, [some (.ref _), some (.int _), _, _, _], [.int _], _)) rfl (u_ rfl) ?_
  refine w_t (pc := 3) (e_s := (3, 1, 0, 0, 0, .null, [])) (y_s := (4, [some (.ref _), some (.int _), _, _, _], [.ref _, .int _], _)) rfl (u_ rfl) ?_
  refine w20 (pc := 4) (len_s := 3) rfl ?_
  refine wi3 (pc := 7) (len_s := 3) rfl rfl rfl (fun c1_s => ?_) (fun c1_s => ?_)
  · replace t_s := t_s.1 c1_s
    refine w_t (pc := 10) (e_s := (3, 1, 0, 0, 0, .null, [])) (y_s := (11, [some (.ref _), some (.int _), _, _, _], [.ref _], _)) rfl (u_ rfl) ?_
    refine w20r (pc := 11) (len_s := 3) (q_s := 116) rfl (krq hk rfl) ?_
    refine w_t (pc := 14) (e_s := (1, 1, 1, 0, 0, .null, [])) (y_s := (15, [some (.ref _), some (.int _), _, _, _], [.int _, .ref _], _)) rfl (u_ rfl) ?_
    refine w_t (pc := 15) (e_s := (0, 1, 0, 0, 0, .int (-1), [])) (y_s := (16, [some (.ref _), some (.int _), _, _, _], [.int _, .int _, .ref _], _)) rfl (u_ rfl) ?_
    refine w25 (pc := 16) (len_s := 1) rfl (hk.1 116 0 8 rfl rfl) (fun c2_s => ?_)
    replace t_s := t_s c2_s
    refine w_t (pc := 17) (e_s := (19, 3, 1, 0, 0, .int 1, [])) (y_s := (20, [some (.ref _), some (.int _), _, _, _], [], _)) rfl (u_ rfl) ?_
    refine w_t (pc := 20) (e_s := (17, 3, 2, 0, 0, .null, [])) (y_s := (2, [some (.ref _), some (.int _), _, _, _], [], _)) rfl (u_ rfl) ?_
    exact t_s
  · replace t_s := t_s.2 c1_s
    refine w_t (pc := 23) (e_s := (0, 1, 0, 0, 0, .int 0, [])) (y_s := (24, [some (.ref _), some (.int _), _, _, _], [.int _], _)) rfl (u_ rfl) ?_
    refine w_t (pc := 24) (e_s := (4, 1, 1, 0, 0, .null, [])) (y_s := (25, [some (.ref _), some (.int _), _, _, _], [], _)) rfl (u_ rfl) ?_
    exact t_s
/-- ColdShodModel.allAsk()V, from 25 on -/
theorem sg_198_25 {F_s : Nat} {x1_s : Int32} {l2 l3 l4 : Option Value} {h_s : zH} {K_s : zH → Prop} (hk : hKn h_s) (t_s : (x1_s.toInt < (h_s.2.1 102 6).toInt → (zix x1_s < 6 → wF F_s 198 (25, [some (.ref 102), some (.int (x1_s + 1)), l2, l3, l4], [], (h_s.1, zup h_s.2.1 117 (zix x1_s) 0, h_s.2.2.1, h_s.2.2.2)) (gV K_s))) ∧ (¬ x1_s.toInt < (h_s.2.1 102 6).toInt → wF F_s 198 (48, [some (.ref 102), some (.int 1), l2, l3, l4], [], h_s) (gV K_s))) : wF (F_s + 1) 198 (25, [some (.ref 102), some (.int x1_s), l2, l3, l4], [], h_s) (gV K_s) := by
  refine w_0 (pc := 25) (e_s := (1, 1, 1, 0, 0, .null, [])) (y_s := (26, [some (.ref _), some (.int _), _, _, _], [.int _], _)) rfl (u_ rfl) ?_
  refine w_t (pc := 26) (e_s := (3, 1, 0, 0, 0, .null, [])) (y_s := (27, [some (.ref _), some (.int _), _, _, _], [.ref _, .int _], _)) rfl (u_ rfl) ?_
  refine w20 (pc := 27) (len_s := 3) rfl ?_
  refine wi3 (pc := 30) (len_s := 3) rfl rfl rfl (fun c1_s => ?_) (fun c1_s => ?_)
  · replace t_s := t_s.1 c1_s
    refine w_t (pc := 33) (e_s := (3, 1, 0, 0, 0, .null, [])) (y_s := (34, [some (.ref _), some (.int _), _, _, _], [.ref _], _)) rfl (u_ rfl) ?_
    refine w20r (pc := 34) (len_s := 3) (q_s := 117) rfl (krq hk rfl) ?_
    refine w_t (pc := 37) (e_s := (1, 1, 1, 0, 0, .null, [])) (y_s := (38, [some (.ref _), some (.int _), _, _, _], [.int _, .ref _], _)) rfl (u_ rfl) ?_
    refine w_t (pc := 38) (e_s := (0, 1, 0, 0, 0, .int 0, [])) (y_s := (39, [some (.ref _), some (.int _), _, _, _], [.int _, .int _, .ref _], _)) rfl (u_ rfl) ?_
    refine w25 (pc := 39) (len_s := 1) rfl (hk.1 117 0 6 rfl rfl) (fun c2_s => ?_)
    replace t_s := t_s c2_s
    refine w_t (pc := 40) (e_s := (19, 3, 1, 0, 0, .int 1, [])) (y_s := (43, [some (.ref _), some (.int _), _, _, _], [], _)) rfl (u_ rfl) ?_
    refine w_t (pc := 43) (e_s := (17, 3, 25, 0, 0, .null, [])) (y_s := (25, [some (.ref _), some (.int _), _, _, _], [], _)) rfl (u_ rfl) ?_
    exact t_s
  · replace t_s := t_s.2 c1_s
    refine w_t (pc := 46) (e_s := (0, 1, 0, 0, 0, .int 1, [])) (y_s := (47, [some (.ref _), some (.int _), _, _, _], [.int _], _)) rfl (u_ rfl) ?_
    refine w_t (pc := 47) (e_s := (4, 1, 1, 0, 0, .null, [])) (y_s := (48, [some (.ref _), some (.int _), _, _, _], [], _)) rfl (u_ rfl) ?_
    exact t_s
/-- ColdShodModel.allAsk()V, from 48 on -/
theorem sg_198_48 {F_s : Nat} {x1_s : Int32} {l2 l3 l4 : Option Value} {h_s : zH} {K_s : zH → Prop} (hk : hKn h_s) (t_s : (x1_s.toInt = 0 → K_s h_s) ∧ (¬ x1_s.toInt = 0 → wF F_s 198 (56, [some (.ref 102), some (.int 0), some (.int 0), l3, l4], [], h_s) (gV K_s))) : wF (F_s + 1) 198 (48, [some (.ref 102), some (.int x1_s), l2, l3, l4], [], h_s) (gV K_s) := by
  refine w_0 (pc := 48) (e_s := (1, 1, 1, 0, 0, .null, [])) (y_s := (49, [some (.ref _), some (.int _), _, _, _], [.int _], _)) rfl (u_ rfl) ?_
  refine wq0 (pc := 49) (len_s := 3) rfl rfl (fun c1_s => ?_) (fun c1_s => ?_)
  · replace t_s := t_s.1 c1_s
    exact wrV (pc := 194) (len_s := 1) rfl hk t_s
  · replace t_s := t_s.2 c1_s
    refine w_t (pc := 52) (e_s := (0, 1, 0, 0, 0, .int 0, [])) (y_s := (53, [some (.ref _), some (.int _), _, _, _], [.int _], _)) rfl (u_ rfl) ?_
    refine w_t (pc := 53) (e_s := (4, 1, 1, 0, 0, .null, [])) (y_s := (54, [some (.ref _), some (.int _), _, _, _], [], _)) rfl (u_ rfl) ?_
    refine w_t (pc := 54) (e_s := (0, 1, 0, 0, 0, .int 0, [])) (y_s := (55, [some (.ref _), some (.int _), _, _, _], [.int _], _)) rfl (u_ rfl) ?_
    refine w_t (pc := 55) (e_s := (4, 1, 2, 0, 0, .null, [])) (y_s := (56, [some (.ref _), some (.int _), some (.int _), _, _], [], _)) rfl (u_ rfl) ?_
    exact t_s
/-- ColdShodModel.allAsk()V, from 56 on -/
theorem sg_198_56 {F_s : Nat} {x1_s x2_s : Int32} {l3 l4 : Option Value} {h_s : zH} {K_s : zH → Prop} (hk : hKn h_s) (t_s : (x2_s.toInt < (h_s.2.1 102 6).toInt → wF F_s 198 (69, [some (.ref 102), some (.int x1_s), some (.int x2_s), some (.int (-1)), some (.int 0)], [], h_s) (gV K_s)) ∧ (¬ x2_s.toInt < (h_s.2.1 102 6).toInt → wF F_s 198 (48, [some (.ref 102), some (.int x1_s), some (.int x2_s), l3, l4], [], h_s) (gV K_s))) : wF (F_s + 1) 198 (56, [some (.ref 102), some (.int x1_s), some (.int x2_s), l3, l4], [], h_s) (gV K_s) := by
  refine w_0 (pc := 56) (e_s := (1, 1, 2, 0, 0, .null, [])) (y_s := (57, [some (.ref _), some (.int _), some (.int _), _, _], [.int _], _)) rfl (u_ rfl) ?_
  refine w_t (pc := 57) (e_s := (3, 1, 0, 0, 0, .null, [])) (y_s := (58, [some (.ref _), some (.int _), some (.int _), _, _], [.ref _, .int _], _)) rfl (u_ rfl) ?_
  refine w20 (pc := 58) (len_s := 3) rfl ?_
  refine wi3 (pc := 61) (len_s := 3) rfl rfl rfl (fun c1_s => ?_) (fun c1_s => ?_)
  · replace t_s := t_s.1 c1_s
    refine w_t (pc := 64) (e_s := (0, 1, 0, 0, 0, .int (-1), [])) (y_s := (65, [some (.ref _), some (.int _), some (.int _), _, _], [.int _], _)) rfl (u_ rfl) ?_
    refine w_t (pc := 65) (e_s := (4, 1, 3, 0, 0, .null, [])) (y_s := (66, [some (.ref _), some (.int _), some (.int _), some (.int _), _], [], _)) rfl (u_ rfl) ?_
    refine w_t (pc := 66) (e_s := (0, 1, 0, 0, 0, .int 0, [])) (y_s := (67, [some (.ref _), some (.int _), some (.int _), some (.int _), _], [.int _], _)) rfl (u_ rfl) ?_
    refine w_t (pc := 67) (e_s := (4, 2, 4, 0, 0, .null, [])) (y_s := (69, [some (.ref _), some (.int _), some (.int _), some (.int _), some (.int _)], [], _)) rfl (u_ rfl) ?_
    exact t_s
  · replace t_s := t_s.2 c1_s
    refine w_t (pc := 191) (e_s := (17, 3, 48, 0, 0, .null, [])) (y_s := (48, [some (.ref _), some (.int _), some (.int _), _, _], [], _)) rfl (u_ rfl) ?_
    exact t_s
/-- ColdShodModel.allAsk()V, from 69 on -/
theorem sg_198_69 {F_s : Nat} {x1_s x2_s x3 x4_s : Int32} {h_s : zH} {K_s : zH → Prop} (hk : hKn h_s) (t_s : (x4_s.toInt < (h_s.2.1 102 7).toInt → (zix x2_s < 6 → ((((h_s.2.1 117 (zix x2_s)) >>> (x4_s &&& 31)) &&& 1).toInt = 1 → wF F_s 198 (69, [some (.ref 102), some (.int x1_s), some (.int x2_s), some (.int x3), some (.int (x4_s + 1))], [], h_s) (gV K_s)) ∧ (¬ (((h_s.2.1 117 (zix x2_s)) >>> (x4_s &&& 31)) &&& 1).toInt = 1 → ((x3.toInt < 0 → wF F_s 198 (69, [some (.ref 102), some (.int x1_s), some (.int x2_s), some (.int x4_s), some (.int (x4_s + 1))], [], h_s) (gV K_s)) ∧ (¬ x3.toInt < 0 → wF F_s 195 (0, [some (.ref 102), some (.int x2_s), some (.int x4_s), some (.int x3), none, none], [], h_s) (gI (fun v5 h5 => hKn h5 → (v5.toInt = 0 → wF F_s 198 (69, [some (.ref 102), some (.int x1_s), some (.int x2_s), some (.int x3), some (.int (x4_s + 1))], [], h5) (gV K_s)) ∧ (¬ v5.toInt = 0 → wF F_s 198 (69, [some (.ref 102), some (.int x1_s), some (.int x2_s), some (.int x4_s), some (.int (x4_s + 1))], [], h5) (gV K_s))))))))) ∧ (¬ x4_s.toInt < (h_s.2.1 102 7).toInt → wF F_s 198 (120, [some (.ref 102), some (.int x1_s), some (.int x2_s), some (.int x3), some (.int x4_s)], [], h_s) (gV K_s))) : wF (F_s + 1) 198 (69, [some (.ref 102), some (.int x1_s), some (.int x2_s), some (.int x3), some (.int x4_s)], [], h_s) (gV K_s) := by
  refine w_0 (pc := 69) (e_s := (1, 2, 4, 0, 0, .null, [])) (y_s := (71, [some (.ref _), some (.int _), some (.int _), some (.int _), some (.int _)], [.int _], _)) rfl (u_ rfl) ?_
  refine w_t (pc := 71) (e_s := (3, 1, 0, 0, 0, .null, [])) (y_s := (72, [some (.ref _), some (.int _), some (.int _), some (.int _), some (.int _)], [.ref _, .int _], _)) rfl (u_ rfl) ?_
  refine w20 (pc := 72) (len_s := 3) rfl ?_
  refine wi3 (pc := 75) (len_s := 3) rfl rfl rfl (fun c1_s => ?_) (fun c1_s => ?_)
  · replace t_s := t_s.1 c1_s
    refine w_t (pc := 78) (e_s := (3, 1, 0, 0, 0, .null, [])) (y_s := (79, [some (.ref _), some (.int _), some (.int _), some (.int _), some (.int _)], [.ref _], _)) rfl (u_ rfl) ?_
    refine w20r (pc := 79) (len_s := 3) (q_s := 117) rfl (krq hk rfl) ?_
    refine w_t (pc := 82) (e_s := (1, 1, 2, 0, 0, .null, [])) (y_s := (83, [some (.ref _), some (.int _), some (.int _), some (.int _), some (.int _)], [.int _, .ref _], _)) rfl (u_ rfl) ?_
    refine w22 (pc := 83) (len_s := 1) rfl (hk.1 117 0 6 rfl rfl) (fun c2_s => ?_)
    replace t_s := t_s c2_s
    refine w_t (pc := 84) (e_s := (1, 2, 4, 0, 0, .null, [])) (y_s := (86, [some (.ref _), some (.int _), some (.int _), some (.int _), some (.int _)], [.int _, .int _], _)) rfl (u_ rfl) ?_
    refine wcI (pc := 86) (len_s := 3) rfl rfl (l := [some (.int _), some (.int _)]) rfl ?_
    refine w_t (pc := 0) (e_s := (1, 1, 0, 0, 0, .null, [])) (y_s := (1, [some (.int _), some (.int _)], [.int _], _)) rfl (u_ rfl) ?_
    refine w_t (pc := 1) (e_s := (1, 1, 1, 0, 0, .null, [])) (y_s := (2, [some (.int _), some (.int _)], [.int _, .int _], _)) rfl (u_ rfl) ?_
    refine w_t (pc := 2) (e_s := (7, 1, 0, 7, 0, .null, [])) (y_s := (3, [some (.int _), some (.int _)], [.int ((_ : Int32) >>> ((_ : Int32) &&& 31))], _)) rfl (u_ rfl) ?_
    refine w_t (pc := 3) (e_s := (0, 1, 0, 0, 0, .int 1, [])) (y_s := (4, [some (.int _), some (.int _)], [.int _, .int _], _)) rfl (u_ rfl) ?_
    refine w_t (pc := 4) (e_s := (7, 1, 0, 3, 0, .null, [])) (y_s := (5, [some (.int _), some (.int _)], [.int (_ &&& _)], _)) rfl (u_ rfl) ?_
    refine w_t (pc := 5) (e_s := (0, 1, 0, 0, 0, .int 1, [])) (y_s := (6, [some (.int _), some (.int _)], [.int _, .int _], _)) rfl (u_ rfl) ?_
    refine wi1 (pc := 6) (len_s := 3) (Y := 1) rfl rfl (by decide) (fun c3_s => ?_) (fun c3_s => ?_)
    · replace t_s := t_s.1 c3_s
      refine w_t (pc := 9) (e_s := (0, 1, 0, 0, 0, .int 1, [])) (y_s := (10, [some (.int _), some (.int _)], [.int _], _)) rfl (u_ rfl) ?_
      refine w_t (pc := 10) (e_s := (17, 3, 14, 0, 0, .null, [])) (y_s := (14, [some (.int _), some (.int _)], [.int _], _)) rfl (u_ rfl) ?_
      refine wrI (pc := 14) (len_s := 1) rfl hk ?_
      show wF _ 198 (89, [some (.ref _), some (.int _), some (.int _), some (.int _), some (.int _)], [.int _], _) _
      refine w_t (pc := 89) (e_s := (15, 3, 112, 1, 0, .null, [])) (y_s := (112, [some (.ref _), some (.int _), some (.int _), some (.int _), some (.int _)], [], _)) rfl (u_ rfl) ?_
      refine w_t (pc := 112) (e_s := (1, 1, 3, 0, 0, .null, [])) (y_s := (113, [some (.ref _), some (.int _), some (.int _), some (.int _), some (.int _)], [.int _], _)) rfl (u_ rfl) ?_
      refine w_t (pc := 113) (e_s := (4, 1, 3, 0, 0, .null, [])) (y_s := (114, [some (.ref _), some (.int _), some (.int _), some (.int _), some (.int _)], [], _)) rfl (u_ rfl) ?_
      refine w_t (pc := 114) (e_s := (19, 3, 4, 0, 0, .int 1, [])) (y_s := (117, [some (.ref _), some (.int _), some (.int _), some (.int _), some (.int _)], [], _)) rfl (u_ rfl) ?_
      refine w_t (pc := 117) (e_s := (17, 3, 69, 0, 0, .null, [])) (y_s := (69, [some (.ref _), some (.int _), some (.int _), some (.int _), some (.int _)], [], _)) rfl (u_ rfl) ?_
      exact t_s
    · replace t_s := t_s.2 c3_s
      refine w_t (pc := 13) (e_s := (0, 1, 0, 0, 0, .int 0, [])) (y_s := (14, [some (.int _), some (.int _)], [.int _], _)) rfl (u_ rfl) ?_
      refine wrI (pc := 14) (len_s := 1) rfl hk ?_
      show wF _ 198 (89, [some (.ref _), some (.int _), some (.int _), some (.int _), some (.int _)], [.int _], _) _
      refine w_t (pc := 89) (e_s := (15, 3, 112, 1, 0, .null, [])) (y_s := (92, [some (.ref _), some (.int _), some (.int _), some (.int _), some (.int _)], [], _)) rfl (u_ rfl) ?_
      refine w_t (pc := 92) (e_s := (1, 1, 3, 0, 0, .null, [])) (y_s := (93, [some (.ref _), some (.int _), some (.int _), some (.int _), some (.int _)], [.int _], _)) rfl (u_ rfl) ?_
      refine wq2 (pc := 93) (len_s := 3) rfl rfl (fun c4_s => ?_) (fun c4_s => ?_)
      · replace t_s := t_s.1 c4_s
        refine w_t (pc := 107) (e_s := (1, 2, 4, 0, 0, .null, [])) (y_s := (109, [some (.ref _), some (.int _), some (.int _), some (.int _), some (.int _)], [.int _], _)) rfl (u_ rfl) ?_
        refine w_t (pc := 109) (e_s := (17, 3, 113, 0, 0, .null, [])) (y_s := (113, [some (.ref _), some (.int _), some (.int _), some (.int _), some (.int _)], [.int _], _)) rfl (u_ rfl) ?_
        refine w_t (pc := 113) (e_s := (4, 1, 3, 0, 0, .null, [])) (y_s := (114, [some (.ref _), some (.int _), some (.int _), some (.int _), some (.int _)], [], _)) rfl (u_ rfl) ?_
        refine w_t (pc := 114) (e_s := (19, 3, 4, 0, 0, .int 1, [])) (y_s := (117, [some (.ref _), some (.int _), some (.int _), some (.int _), some (.int _)], [], _)) rfl (u_ rfl) ?_
        refine w_t (pc := 117) (e_s := (17, 3, 69, 0, 0, .null, [])) (y_s := (69, [some (.ref _), some (.int _), some (.int _), some (.int _), some (.int _)], [], _)) rfl (u_ rfl) ?_
        exact t_s
      · replace t_s := t_s.2 c4_s
        refine w_t (pc := 96) (e_s := (3, 1, 0, 0, 0, .null, [])) (y_s := (97, [some (.ref _), some (.int _), some (.int _), some (.int _), some (.int _)], [.ref _], _)) rfl (u_ rfl) ?_
        refine w_t (pc := 97) (e_s := (1, 1, 2, 0, 0, .null, [])) (y_s := (98, [some (.ref _), some (.int _), some (.int _), some (.int _), some (.int _)], [.int _, .ref _], _)) rfl (u_ rfl) ?_
        refine w_t (pc := 98) (e_s := (1, 2, 4, 0, 0, .null, [])) (y_s := (100, [some (.ref _), some (.int _), some (.int _), some (.int _), some (.int _)], [.int _, .int _, .ref _], _)) rfl (u_ rfl) ?_
        refine w_t (pc := 100) (e_s := (1, 1, 3, 0, 0, .null, [])) (y_s := (101, [some (.ref _), some (.int _), some (.int _), some (.int _), some (.int _)], [.int _, .int _, .int _, .ref _], _)) rfl (u_ rfl) ?_
        refine wcI (pc := 101) (len_s := 3) rfl rfl (l := [some (.ref _), some (.int _), some (.int _), some (.int _), none, none]) rfl (wmI t_s (fun v5 h5 hk t_s => ?_))
        replace t_s := t_s hk
        refine wq0 (pc := 104) (len_s := 3) rfl rfl (fun c6_s => ?_) (fun c6_s => ?_)
        · replace t_s := t_s.1 c6_s
          refine w_t (pc := 112) (e_s := (1, 1, 3, 0, 0, .null, [])) (y_s := (113, [some (.ref _), some (.int _), some (.int _), some (.int _), some (.int _)], [.int _], _)) rfl (u_ rfl) ?_
          refine w_t (pc := 113) (e_s := (4, 1, 3, 0, 0, .null, [])) (y_s := (114, [some (.ref _), some (.int _), some (.int _), some (.int _), some (.int _)], [], _)) rfl (u_ rfl) ?_
          refine w_t (pc := 114) (e_s := (19, 3, 4, 0, 0, .int 1, [])) (y_s := (117, [some (.ref _), some (.int _), some (.int _), some (.int _), some (.int _)], [], _)) rfl (u_ rfl) ?_
          refine w_t (pc := 117) (e_s := (17, 3, 69, 0, 0, .null, [])) (y_s := (69, [some (.ref _), some (.int _), some (.int _), some (.int _), some (.int _)], [], _)) rfl (u_ rfl) ?_
          exact t_s
        · replace t_s := t_s.2 c6_s
          refine w_t (pc := 107) (e_s := (1, 2, 4, 0, 0, .null, [])) (y_s := (109, [some (.ref _), some (.int _), some (.int _), some (.int _), some (.int _)], [.int _], _)) rfl (u_ rfl) ?_
          refine w_t (pc := 109) (e_s := (17, 3, 113, 0, 0, .null, [])) (y_s := (113, [some (.ref _), some (.int _), some (.int _), some (.int _), some (.int _)], [.int _], _)) rfl (u_ rfl) ?_
          refine w_t (pc := 113) (e_s := (4, 1, 3, 0, 0, .null, [])) (y_s := (114, [some (.ref _), some (.int _), some (.int _), some (.int _), some (.int _)], [], _)) rfl (u_ rfl) ?_
          refine w_t (pc := 114) (e_s := (19, 3, 4, 0, 0, .int 1, [])) (y_s := (117, [some (.ref _), some (.int _), some (.int _), some (.int _), some (.int _)], [], _)) rfl (u_ rfl) ?_
          refine w_t (pc := 117) (e_s := (17, 3, 69, 0, 0, .null, [])) (y_s := (69, [some (.ref _), some (.int _), some (.int _), some (.int _), some (.int _)], [], _)) rfl (u_ rfl) ?_
          exact t_s
  · replace t_s := t_s.2 c1_s
    exact t_s
/-- ColdShodModel.allAsk()V, from 120 on -/
theorem sg_198_120 {F_s : Nat} {x1_s x2_s x3 x4_s : Int32} {h_s : zH} {K_s : zH → Prop} (hk : hKn h_s) (t_s : wF F_s 197 (0, [some (.ref 102), some (.int x2_s), none], [], h_s) (gI (fun v1_s h1 => hKn h1 → (v1_s.toInt < 0 → ((x3.toInt < 0 → wF F_s 198 (56, [some (.ref 102), some (.int x1_s), some (.int (x2_s + 1)), some (.int x3), some (.int x4_s)], [], h1) (gV K_s)) ∧ (¬ x3.toInt < 0 → (zix x2_s < 6 → (zix x3 < 8 → ((h1.2.1 116 (zix x3)).toInt < 0 → wF F_s 198 (56, [some (.ref 102), some (.int 1), some (.int (x2_s + 1)), some (.int x3), some (.int x4_s)], [], (h1.1, zup (zup h1.2.1 117 (zix x2_s) ((h1.2.1 117 (zix x2_s)) ||| (1 <<< (x3 &&& 31)))) 116 (zix x3) x2_s, h1.2.2.1, h1.2.2.2)) (gV K_s)) ∧ (¬ (h1.2.1 116 (zix x3)).toInt < 0 → wF F_s 196 (0, [some (.ref 102), some (.int x2_s), some (.int (h1.2.1 116 (zix x3)))], [], (h1.1, zup h1.2.1 117 (zix x2_s) ((h1.2.1 117 (zix x2_s)) ||| (1 <<< (x3 &&& 31))), h1.2.2.1, h1.2.2.2)) (gI (fun v10 h10 => hKn h10 → (v10.toInt = 0 → wF F_s 198 (56, [some (.ref 102), some (.int 1), some (.int (x2_s + 1)), some (.int x3), some (.int x4_s)], [], (h10.1, zup h10.2.1 116 (zix x3) (h10.2.1 116 (zix x3)), h10.2.2.1, h10.2.2.2)) (gV K_s)) ∧ (¬ v10.toInt = 0 → wF F_s 198 (56, [some (.ref 102), some (.int 1), some (.int (x2_s + 1)), some (.int x3), some (.int x4_s)], [], (h10.1, zup h10.2.1 116 (zix x3) x2_s, h10.2.2.1, h10.2.2.2)) (gV K_s)))))))))) ∧ (¬ v1_s.toInt < 0 → wF F_s 198 (56, [some (.ref 102), some (.int x1_s), some (.int (x2_s + 1)), some (.int x3), some (.int x4_s)], [], h1) (gV K_s))))) : wF (F_s + 1) 198 (120, [some (.ref 102), some (.int x1_s), some (.int x2_s), some (.int x3), some (.int x4_s)], [], h_s) (gV K_s) := by
  refine w_0 (pc := 120) (e_s := (3, 1, 0, 0, 0, .null, [])) (y_s := (121, [some (.ref _), some (.int _), some (.int _), some (.int _), some (.int _)], [.ref _], _)) rfl (u_ rfl) ?_
  refine w_t (pc := 121) (e_s := (1, 1, 2, 0, 0, .null, [])) (y_s := (122, [some (.ref _), some (.int _), some (.int _), some (.int _), some (.int _)], [.int _, .ref _], _)) rfl (u_ rfl) ?_
  refine wcI (pc := 122) (len_s := 3) rfl rfl (l := [some (.ref _), some (.int _), none]) rfl (wmI t_s (fun v1_s h1 hk t_s => ?_))
  replace t_s := t_s hk
  refine wq3 (pc := 125) (len_s := 3) rfl rfl (fun c2_s => ?_) (fun c2_s => ?_)
  · replace t_s := t_s.1 c2_s
    refine w_t (pc := 128) (e_s := (1, 1, 3, 0, 0, .null, [])) (y_s := (129, [some (.ref _), some (.int _), some (.int _), some (.int _), some (.int _)], [.int _], _)) rfl (u_ rfl) ?_
    refine wq2 (pc := 129) (len_s := 3) rfl rfl (fun c3_s => ?_) (fun c3_s => ?_)
    · replace t_s := t_s.1 c3_s
      refine w_t (pc := 185) (e_s := (19, 3, 2, 0, 0, .int 1, [])) (y_s := (188, [some (.ref _), some (.int _), some (.int _), some (.int _), some (.int _)], [], _)) rfl (u_ rfl) ?_
      refine w_t (pc := 188) (e_s := (17, 3, 56, 0, 0, .null, [])) (y_s := (56, [some (.ref _), some (.int _), some (.int _), some (.int _), some (.int _)], [], _)) rfl (u_ rfl) ?_
      exact t_s
    · replace t_s := t_s.2 c3_s
      refine w_t (pc := 132) (e_s := (0, 1, 0, 0, 0, .int 1, [])) (y_s := (133, [some (.ref _), some (.int _), some (.int _), some (.int _), some (.int _)], [.int _], _)) rfl (u_ rfl) ?_
      refine w_t (pc := 133) (e_s := (4, 1, 1, 0, 0, .null, [])) (y_s := (134, [some (.ref _), some (.int _), some (.int _), some (.int _), some (.int _)], [], _)) rfl (u_ rfl) ?_
      refine w_t (pc := 134) (e_s := (3, 1, 0, 0, 0, .null, [])) (y_s := (135, [some (.ref _), some (.int _), some (.int _), some (.int _), some (.int _)], [.ref _], _)) rfl (u_ rfl) ?_
      refine w20r (pc := 135) (len_s := 3) (q_s := 117) rfl (krq hk rfl) ?_
      refine w_t (pc := 138) (e_s := (1, 1, 2, 0, 0, .null, [])) (y_s := (139, [some (.ref _), some (.int _), some (.int _), some (.int _), some (.int _)], [.int _, .ref _], _)) rfl (u_ rfl) ?_
      refine w_t (pc := 139) (e_s := (41, 1, 0, 0, 0, .null, [])) (y_s := (140, [some (.ref _), some (.int _), some (.int _), some (.int _), some (.int _)], [.int _, .ref _, .int _, .ref _], _)) rfl (u_ rfl) ?_
      refine w22 (pc := 140) (len_s := 1) rfl (hk.1 117 0 6 rfl rfl) (fun c4_s => ?_)
      replace t_s := t_s c4_s
      refine w_t (pc := 141) (e_s := (0, 1, 0, 0, 0, .int 1, [])) (y_s := (142, [some (.ref _), some (.int _), some (.int _), some (.int _), some (.int _)], [.int _, .int _, .int _, .ref _], _)) rfl (u_ rfl) ?_
      refine w_t (pc := 142) (e_s := (1, 1, 3, 0, 0, .null, [])) (y_s := (143, [some (.ref _), some (.int _), some (.int _), some (.int _), some (.int _)], [.int _, .int _, .int _, .int _, .ref _], _)) rfl (u_ rfl) ?_
      refine w_t (pc := 143) (e_s := (7, 1, 0, 6, 0, .null, [])) (y_s := (144, [some (.ref _), some (.int _), some (.int _), some (.int _), some (.int _)], [.int ((_ : Int32) <<< ((_ : Int32) &&& 31)), .int _, .int _, .ref _], _)) rfl (u_ rfl) ?_
      refine w_t (pc := 144) (e_s := (7, 1, 0, 4, 0, .null, [])) (y_s := (145, [some (.ref _), some (.int _), some (.int _), some (.int _), some (.int _)], [.int (_ ||| _), .int _, .ref _], _)) rfl (u_ rfl) ?_
      refine w25 (pc := 145) (len_s := 1) rfl (hk.1 117 0 6 rfl rfl) (fun c5_s => ?_)
      refine w_t (pc := 146) (e_s := (3, 1, 0, 0, 0, .null, [])) (y_s := (147, [some (.ref _), some (.int _), some (.int _), some (.int _), some (.int _)], [.ref _], _)) rfl (u_ rfl) ?_
      refine w20r (pc := 147) (len_s := 3) (q_s := 116) rfl (krq hk rfl) ?_
      refine w_t (pc := 150) (e_s := (1, 1, 3, 0, 0, .null, [])) (y_s := (151, [some (.ref _), some (.int _), some (.int _), some (.int _), some (.int _)], [.int _, .ref _], _)) rfl (u_ rfl) ?_
      refine w_t (pc := 151) (e_s := (3, 1, 0, 0, 0, .null, [])) (y_s := (152, [some (.ref _), some (.int _), some (.int _), some (.int _), some (.int _)], [.ref _, .int _, .ref _], _)) rfl (u_ rfl) ?_
      refine w20r (pc := 152) (len_s := 3) (q_s := 116) rfl (krq hk rfl) ?_
      refine w_t (pc := 155) (e_s := (1, 1, 3, 0, 0, .null, [])) (y_s := (156, [some (.ref _), some (.int _), some (.int _), some (.int _), some (.int _)], [.int _, .ref _, .int _, .ref _], _)) rfl (u_ rfl) ?_
      refine w22 (pc := 156) (len_s := 1) rfl (hk.1 116 0 8 rfl rfl) (fun c6_s => ?_)
      replace t_s := t_s c6_s
      refine wq2 (pc := 157) (len_s := 3) rfl rfl (fun c7_s => ?_) (fun c7_s => ?_)
      · replace t_s := t_s.1 c7_s
        refine w_t (pc := 174) (e_s := (1, 1, 2, 0, 0, .null, [])) (y_s := (175, [some (.ref _), some (.int _), some (.int _), some (.int _), some (.int _)], [.int _, .int _, .ref _], _)) rfl (u_ rfl) ?_
        refine w_t (pc := 175) (e_s := (17, 3, 184, 0, 0, .null, [])) (y_s := (184, [some (.ref _), some (.int _), some (.int _), some (.int _), some (.int _)], [.int _, .int _, .ref _], _)) rfl (u_ rfl) ?_
        refine w25 (pc := 184) (len_s := 1) rfl (hk.1 116 0 8 rfl rfl) (fun c8_s => ?_)
        refine w_t (pc := 185) (e_s := (19, 3, 2, 0, 0, .int 1, [])) (y_s := (188, [some (.ref _), some (.int _), some (.int _), some (.int _), some (.int _)], [], _)) rfl (u_ rfl) ?_
        refine w_t (pc := 188) (e_s := (17, 3, 56, 0, 0, .null, [])) (y_s := (56, [some (.ref _), some (.int _), some (.int _), some (.int _), some (.int _)], [], _)) rfl (u_ rfl) ?_
        exact t_s
      · replace t_s := t_s.2 c7_s
        refine w_t (pc := 160) (e_s := (3, 1, 0, 0, 0, .null, [])) (y_s := (161, [some (.ref _), some (.int _), some (.int _), some (.int _), some (.int _)], [.ref _, .int _, .ref _], _)) rfl (u_ rfl) ?_
        refine w_t (pc := 161) (e_s := (1, 1, 2, 0, 0, .null, [])) (y_s := (162, [some (.ref _), some (.int _), some (.int _), some (.int _), some (.int _)], [.int _, .ref _, .int _, .ref _], _)) rfl (u_ rfl) ?_
        refine w_t (pc := 162) (e_s := (3, 1, 0, 0, 0, .null, [])) (y_s := (163, [some (.ref _), some (.int _), some (.int _), some (.int _), some (.int _)], [.ref _, .int _, .ref _, .int _, .ref _], _)) rfl (u_ rfl) ?_
        refine w20r (pc := 163) (len_s := 3) (q_s := 116) rfl (krq hk rfl) ?_
        refine w_t (pc := 166) (e_s := (1, 1, 3, 0, 0, .null, [])) (y_s := (167, [some (.ref _), some (.int _), some (.int _), some (.int _), some (.int _)], [.int _, .ref _, .int _, .ref _, .int _, .ref _], _)) rfl (u_ rfl) ?_
        refine w22 (pc := 167) (len_s := 1) rfl (hk.1 116 0 8 rfl rfl) (fun c9_s => ?_)
        refine wcI (pc := 168) (len_s := 3) rfl rfl (l := [some (.ref _), some (.int _), some (.int _)]) rfl (wmI t_s (fun v10 h10 hk t_s => ?_))
        replace t_s := t_s hk
        refine wq0 (pc := 171) (len_s := 3) rfl rfl (fun c11_s => ?_) (fun c11_s => ?_)
        · replace t_s := t_s.1 c11_s
          refine w_t (pc := 178) (e_s := (3, 1, 0, 0, 0, .null, [])) (y_s := (179, [some (.ref _), some (.int _), some (.int _), some (.int _), some (.int _)], [.ref _, .int _, .ref _], _)) rfl (u_ rfl) ?_
          refine w20r (pc := 179) (len_s := 3) (q_s := 116) rfl (krq hk rfl) ?_
          refine w_t (pc := 182) (e_s := (1, 1, 3, 0, 0, .null, [])) (y_s := (183, [some (.ref _), some (.int _), some (.int _), some (.int _), some (.int _)], [.int _, .ref _, .int _, .ref _], _)) rfl (u_ rfl) ?_
          refine w22 (pc := 183) (len_s := 1) rfl (hk.1 116 0 8 rfl rfl) (fun c12_s => ?_)
          refine w25 (pc := 184) (len_s := 1) rfl (hk.1 116 0 8 rfl rfl) (fun c13_s => ?_)
          refine w_t (pc := 185) (e_s := (19, 3, 2, 0, 0, .int 1, [])) (y_s := (188, [some (.ref _), some (.int _), some (.int _), some (.int _), some (.int _)], [], _)) rfl (u_ rfl) ?_
          refine w_t (pc := 188) (e_s := (17, 3, 56, 0, 0, .null, [])) (y_s := (56, [some (.ref _), some (.int _), some (.int _), some (.int _), some (.int _)], [], _)) rfl (u_ rfl) ?_
          exact t_s
        · replace t_s := t_s.2 c11_s
          refine w_t (pc := 174) (e_s := (1, 1, 2, 0, 0, .null, [])) (y_s := (175, [some (.ref _), some (.int _), some (.int _), some (.int _), some (.int _)], [.int _, .int _, .ref _], _)) rfl (u_ rfl) ?_
          refine w_t (pc := 175) (e_s := (17, 3, 184, 0, 0, .null, [])) (y_s := (184, [some (.ref _), some (.int _), some (.int _), some (.int _), some (.int _)], [.int _, .int _, .ref _], _)) rfl (u_ rfl) ?_
          refine w25 (pc := 184) (len_s := 1) rfl (hk.1 116 0 8 rfl rfl) (fun c14_s => ?_)
          refine w_t (pc := 185) (e_s := (19, 3, 2, 0, 0, .int 1, [])) (y_s := (188, [some (.ref _), some (.int _), some (.int _), some (.int _), some (.int _)], [], _)) rfl (u_ rfl) ?_
          refine w_t (pc := 188) (e_s := (17, 3, 56, 0, 0, .null, [])) (y_s := (56, [some (.ref _), some (.int _), some (.int _), some (.int _), some (.int _)], [], _)) rfl (u_ rfl) ?_
          exact t_s
  · replace t_s := t_s.2 c2_s
    refine w_t (pc := 185) (e_s := (19, 3, 2, 0, 0, .int 1, [])) (y_s := (188, [some (.ref _), some (.int _), some (.int _), some (.int _), some (.int _)], [], _)) rfl (u_ rfl) ?_
    refine w_t (pc := 188) (e_s := (17, 3, 56, 0, 0, .null, [])) (y_s := (56, [some (.ref _), some (.int _), some (.int _), some (.int _), some (.int _)], [], _)) rfl (u_ rfl) ?_
    exact t_s
/-- ColdShodModel.deal()I, from 0 on -/
theorem sg_213_0 {F_s : Nat}  {h_s : zH} {K_s : Int32 → zH → Prop} (hk : hKn h_s) (t_s : wF F_s 198 (0, [some (.ref 102), none, none, none, none], [], h_s) (gV (fun h1 => hKn h1 → wF F_s 213 (8, [some (.ref 102), some (.int 0), some (.int 0)], [], h1) (gI K_s)))) : wF (F_s + 1) 213 (0, [some (.ref 102), none, none], [], h_s) (gI K_s) := by
  refine w_0 (pc := 0) (e_s := (3, 1, 0, 0, 0, .null, [])) (y_s := (1, [some (.ref _), none, none], [.ref _], _)) rfl (u_ rfl) ?_
  refine wcV (pc := 1) (len_s := 3) rfl rfl (l := [some (.ref _), none, none, none, none]) rfl (wmV t_s (fun h1 hk t_s => ?_))
  replace t_s := t_s hk
  refine w_t (pc := 4) (e_s := (0, 1, 0, 0, 0, .int 0, [])) (y_s := (5, [some (.ref _), none, none], [.int _], _)) rfl (u_ rfl) ?_
  refine w_t (pc := 5) (e_s := (4, 1, 1, 0, 0, .null, [])) (y_s := (6, [some (.ref _), some (.int _), none], [], _)) rfl (u_ rfl) ?_
  refine w_t (pc := 6) (e_s := (0, 1, 0, 0, 0, .int 0, [])) (y_s := (7, [some (.ref _), some (.int _), none], [.int _], _)) rfl (u_ rfl) ?_
  refine w_t (pc := 7) (e_s := (4, 1, 2, 0, 0, .null, [])) (y_s := (8, [some (.ref _), some (.int _), some (.int _)], [], _)) rfl (u_ rfl) ?_
  exact t_s
/-- ColdShodModel.deal()I, from 8 on -/
theorem sg_213_8 {F_s : Nat} {x1_s x2_s : Int32} {h_s : zH} {K_s : Int32 → zH → Prop} (hk : hKn h_s) (t_s : (x2_s.toInt < (h_s.2.1 102 7).toInt → (zix x2_s < 8 → (zix (60 + x2_s) < 104 → ((h_s.2.1 116 (zix x2_s)).toInt < 0 → wF F_s 213 (8, [some (.ref 102), some (.int (x1_s + 0)), some (.int (x2_s + 1))], [], (h_s.1, zup h_s.2.1 103 (zix (60 + x2_s)) (h_s.2.1 116 (zix x2_s)), h_s.2.2.1, h_s.2.2.2)) (gI K_s)) ∧ (¬ (h_s.2.1 116 (zix x2_s)).toInt < 0 → wF F_s 213 (8, [some (.ref 102), some (.int (x1_s + 1)), some (.int (x2_s + 1))], [], (h_s.1, zup h_s.2.1 103 (zix (60 + x2_s)) (h_s.2.1 116 (zix x2_s)), h_s.2.2.1, h_s.2.2.2)) (gI K_s))))) ∧ (¬ x2_s.toInt < (h_s.2.1 102 7).toInt → K_s x1_s h_s)) : wF (F_s + 1) 213 (8, [some (.ref 102), some (.int x1_s), some (.int x2_s)], [], h_s) (gI K_s) := by
  refine w_0 (pc := 8) (e_s := (1, 1, 2, 0, 0, .null, [])) (y_s := (9, [some (.ref _), some (.int _), some (.int _)], [.int _], _)) rfl (u_ rfl) ?_
  refine w_t (pc := 9) (e_s := (3, 1, 0, 0, 0, .null, [])) (y_s := (10, [some (.ref _), some (.int _), some (.int _)], [.ref _, .int _], _)) rfl (u_ rfl) ?_
  refine w20 (pc := 10) (len_s := 3) rfl ?_
  refine wi3 (pc := 13) (len_s := 3) rfl rfl rfl (fun c1_s => ?_) (fun c1_s => ?_)
  · replace t_s := t_s.1 c1_s
    refine w_t (pc := 16) (e_s := (3, 1, 0, 0, 0, .null, [])) (y_s := (17, [some (.ref _), some (.int _), some (.int _)], [.ref _], _)) rfl (u_ rfl) ?_
    refine w20r (pc := 17) (len_s := 3) (q_s := 103) rfl (krq hk rfl) ?_
    refine w_t (pc := 20) (e_s := (0, 2, 0, 0, 0, .int 60, [])) (y_s := (22, [some (.ref _), some (.int _), some (.int _)], [.int _, .ref _], _)) rfl (u_ rfl) ?_
    refine w_t (pc := 22) (e_s := (1, 1, 2, 0, 0, .null, [])) (y_s := (23, [some (.ref _), some (.int _), some (.int _)], [.int _, .int _, .ref _], _)) rfl (u_ rfl) ?_
    refine w_t (pc := 23) (e_s := (7, 1, 0, 0, 0, .null, [])) (y_s := (24, [some (.ref _), some (.int _), some (.int _)], [.int (_ + _), .ref _], _)) rfl (u_ rfl) ?_
    refine w_t (pc := 24) (e_s := (3, 1, 0, 0, 0, .null, [])) (y_s := (25, [some (.ref _), some (.int _), some (.int _)], [.ref _, .int _, .ref _], _)) rfl (u_ rfl) ?_
    refine w20r (pc := 25) (len_s := 3) (q_s := 116) rfl (krq hk rfl) ?_
    refine w_t (pc := 28) (e_s := (1, 1, 2, 0, 0, .null, [])) (y_s := (29, [some (.ref _), some (.int _), some (.int _)], [.int _, .ref _, .int _, .ref _], _)) rfl (u_ rfl) ?_
    refine w22 (pc := 29) (len_s := 1) rfl (hk.1 116 0 8 rfl rfl) (fun c2_s => ?_)
    replace t_s := t_s c2_s
    refine w25 (pc := 30) (len_s := 1) rfl (hk.1 103 0 104 rfl rfl) (fun c3_s => ?_)
    replace t_s := t_s c3_s
    refine w_t (pc := 31) (e_s := (1, 1, 1, 0, 0, .null, [])) (y_s := (32, [some (.ref _), some (.int _), some (.int _)], [.int _], _)) rfl (u_ rfl) ?_
    refine w_t (pc := 32) (e_s := (3, 1, 0, 0, 0, .null, [])) (y_s := (33, [some (.ref _), some (.int _), some (.int _)], [.ref _, .int _], _)) rfl (u_ rfl) ?_
    refine w20r (pc := 33) (len_s := 3) (q_s := 116) rfl (krq hk rfl) ?_
    refine w_t (pc := 36) (e_s := (1, 1, 2, 0, 0, .null, [])) (y_s := (37, [some (.ref _), some (.int _), some (.int _)], [.int _, .ref _, .int _], _)) rfl (u_ rfl) ?_
    refine w22 (pc := 37) (len_s := 1) rfl (hk.1 116 0 8 rfl rfl) (fun c4_s => ?_)
    refine wq2 (pc := 38) (len_s := 3) rfl rfl (fun c5_s => ?_) (fun c5_s => ?_)
    · replace t_s := t_s.1 c5_s
      refine w_t (pc := 45) (e_s := (0, 1, 0, 0, 0, .int 0, [])) (y_s := (46, [some (.ref _), some (.int _), some (.int _)], [.int _, .int _], _)) rfl (u_ rfl) ?_
      refine w_t (pc := 46) (e_s := (7, 1, 0, 0, 0, .null, [])) (y_s := (47, [some (.ref _), some (.int _), some (.int _)], [.int (_ + _)], _)) rfl (u_ rfl) ?_
      refine w_t (pc := 47) (e_s := (4, 1, 1, 0, 0, .null, [])) (y_s := (48, [some (.ref _), some (.int _), some (.int _)], [], _)) rfl (u_ rfl) ?_
      refine w_t (pc := 48) (e_s := (19, 3, 2, 0, 0, .int 1, [])) (y_s := (51, [some (.ref _), some (.int _), some (.int _)], [], _)) rfl (u_ rfl) ?_
      refine w_t (pc := 51) (e_s := (17, 3, 8, 0, 0, .null, [])) (y_s := (8, [some (.ref _), some (.int _), some (.int _)], [], _)) rfl (u_ rfl) ?_
      exact t_s
    · replace t_s := t_s.2 c5_s
      refine w_t (pc := 41) (e_s := (0, 1, 0, 0, 0, .int 1, [])) (y_s := (42, [some (.ref _), some (.int _), some (.int _)], [.int _, .int _], _)) rfl (u_ rfl) ?_
      refine w_t (pc := 42) (e_s := (17, 3, 46, 0, 0, .null, [])) (y_s := (46, [some (.ref _), some (.int _), some (.int _)], [.int _, .int _], _)) rfl (u_ rfl) ?_
      refine w_t (pc := 46) (e_s := (7, 1, 0, 0, 0, .null, [])) (y_s := (47, [some (.ref _), some (.int _), some (.int _)], [.int (_ + _)], _)) rfl (u_ rfl) ?_
      refine w_t (pc := 47) (e_s := (4, 1, 1, 0, 0, .null, [])) (y_s := (48, [some (.ref _), some (.int _), some (.int _)], [], _)) rfl (u_ rfl) ?_
      refine w_t (pc := 48) (e_s := (19, 3, 2, 0, 0, .int 1, [])) (y_s := (51, [some (.ref _), some (.int _), some (.int _)], [], _)) rfl (u_ rfl) ?_
      refine w_t (pc := 51) (e_s := (17, 3, 8, 0, 0, .null, [])) (y_s := (8, [some (.ref _), some (.int _), some (.int _)], [], _)) rfl (u_ rfl) ?_
      exact t_s
  · replace t_s := t_s.2 c1_s
    refine w_t (pc := 54) (e_s := (1, 1, 1, 0, 0, .null, [])) (y_s := (55, [some (.ref _), some (.int _), some (.int _)], [.int _], _)) rfl (u_ rfl) ?_
    exact wrI (pc := 55) (len_s := 1) rfl hk t_s
/-! ALL ASK: class and reference. -/
noncomputable def iab (z_s : Int) : Int := if z_s < 0 then -z_s else z_s
noncomputable def kyI (f_s : Nat → Nat → Int32) (p_s i_s : Nat) : Int := (iab ((f_s 103 (20 + i_s)).toInt - (f_s 103 p_s).toInt) * 100 + (f_s 103 (28 + i_s)).toInt) * 8 + (i_s : Int)
noncomputable def hkI (f_s : Nat → Nat → Int32) (p_s : Nat) : Int := (12 - (f_s 103 (6 + p_s)).toInt) * 6 + (p_s : Int)
theorem tM_will {nh ni nr p_s : Nat} {f_s : Nat → Nat → Int32} (h_s : tM nh ni nr f_s) (hp : p_s < 6) : 0 ≤ (f_s 103 (6 + p_s)).toInt ∧ (f_s 103 (6 + p_s)).toInt ≤ 12 := by
  have u_s := h_s.2.2 p_s 1 (by omega) hp (fun w_s => absurd w_s (by omega))
  rw [plc_h (by omega), vB_n (by omega), Nat.mul_one] at u_s
  exact ⟨u_s.1, u_s.2.1⟩
theorem hk_inj {nh ni nr : Nat} {f_s : Nat → Nat → Int32} (h_s : tM nh ni nr f_s) : ∀ p_s q_s, p_s < nh → q_s < nh → hkI f_s p_s = hkI f_s q_s → p_s = q_s := by
  intro p_s q_s hp hq e_s
  have b_s := h_s.1.1
  unfold hkI at e_s
  omega
theorem hk_0 {nh ni nr : Nat} {f_s : Nat → Nat → Int32} (h_s : tM nh ni nr f_s) : ∀ p_s, p_s < nh → 0 ≤ hkI f_s p_s := by
  intro p_s hp
  have b_s := h_s.1.1
  have w_s := tM_will h_s (p_s := p_s) (by omega)
  unfold hkI
  omega
section AA
variable {F_s : Nat} {h_s : zH} {K_s : Int32 → zH → Prop} {V : zH → Prop} {nh ni nr p_s i_s o : Nat} {x1_s x2_s x3 : Int32} {f_s : Nat → Nat → Int32}
theorem iab_c {x_s y_s : Int32} (h0 : 0 ≤ x_s.toInt ∧ x_s.toInt ≤ 5) (h1 : 0 ≤ y_s.toInt ∧ y_s.toInt ≤ 5) : (x_s - y_s).toInt = x_s.toInt - y_s.toInt ∧ (-(x_s - y_s)).toInt = -(x_s.toInt - y_s.toInt) ∧ (if x_s - y_s < 0 then -(x_s - y_s) else x_s - y_s).toInt = iab (x_s.toInt - y_s.toInt) := by
  have e_s := sub_i h0.1 h1.1
  have e2_s : (-(x_s - y_s)).toInt = -(x_s.toInt - y_s.toInt) := by rw [na_neg (by omega), e_s]
  refine ⟨e_s, e2_s, ?_⟩
  unfold iab
  by_cases c_s : x_s - y_s < 0
  · have c1_s := (iq2 _).mp c_s
    rw [if_pos c_s, if_pos (by omega), e2_s]
  · have c1_s : ¬ (x_s - y_s).toInt < 0 := fun w_s => c_s ((iq2 _).mpr w_s)
    rw [if_neg c_s, if_neg (by omega), e_s]
/-- headRather -/
theorem sp_195 (hk : hKn h_s) (hc_s : tM nh ni nr f_s) (e1_s : x1_s.toInt = (p_s : Int)) (e2_s : x2_s.toInt = (i_s : Int)) (e3_s : x3.toInt = (o : Int)) (hp : p_s < nh) (hi_s : i_s < ni) (ho : o < ni) (t1_s : kyI f_s p_s i_s < kyI f_s p_s o → K_s 1 (h_s.1, f_s, h_s.2.2.1, h_s.2.2.2)) (t0_s : ¬ kyI f_s p_s i_s < kyI f_s p_s o → K_s 0 (h_s.1, f_s, h_s.2.2.1, h_s.2.2.2)) : wF F_s 195 (0, [some (.ref 102), some (.int x1_s), some (.int x2_s), some (.int x3), none, none], [], (h_s.1, f_s, h_s.2.2.1, h_s.2.2.2)) (gI K_s) := by
  have b_s := hc_s.1
  have z1 : zix x1_s = p_s := by
    have := azix (i := x1_s) (by omega)
    omega
  have z2 : zix (20 + x2_s) = 20 + i_s := zxa (c_s := 20) (a_s := 20) rfl e2_s (by omega)
  have z3 : zix (20 + x3) = 20 + o := zxa (c_s := 20) (a_s := 20) rfl e3_s (by omega)
  have y2 : zix (28 + x2_s) = 28 + i_s := zxa (c_s := 28) (a_s := 28) rfl e2_s (by omega)
  have y3 : zix (28 + x3) = 28 + o := zxa (c_s := 28) (a_s := 28) rfl e3_s (by omega)
  have bp := tM_form hc_s (p_s := p_s) (by omega)
  have bi := tM_own (i_s := i_s) (k_s := 1) hc_s (by omega) (by omega)
  have bo := tM_own (i_s := o) (k_s := 1) hc_s (by omega) (by omega)
  have bi : 0 ≤ (f_s 103 (20 + i_s)).toInt ∧ (f_s 103 (20 + i_s)).toInt ≤ 5 := bi
  have bo : 0 ≤ (f_s 103 (20 + o)).toInt ∧ (f_s 103 (20 + o)).toInt ≤ 5 := bo
  have wi : 0 ≤ (f_s 103 (28 + i_s)).toInt ∧ (f_s 103 (28 + i_s)).toInt ≤ 99 := tM_own (i_s := i_s) (k_s := 2) hc_s (by omega) (by omega)
  have wo : 0 ≤ (f_s 103 (28 + o)).toInt ∧ (f_s 103 (28 + o)).toInt ≤ 99 := tM_own (i_s := o) (k_s := 2) hc_s (by omega) (by omega)
  obtain ⟨q1_s, q2_s, _⟩ := iab_c bi bp
  obtain ⟨r1_s, r2, _⟩ := iab_c bo bp
  have d1_s : ((f_s 103 (20 + i_s)).toInt - (f_s 103 p_s).toInt < 0 → iab ((f_s 103 (20 + i_s)).toInt - (f_s 103 p_s).toInt) = -((f_s 103 (20 + i_s)).toInt - (f_s 103 p_s).toInt)) ∧ (¬ (f_s 103 (20 + i_s)).toInt - (f_s 103 p_s).toInt < 0 → iab ((f_s 103 (20 + i_s)).toInt - (f_s 103 p_s).toInt) = (f_s 103 (20 + i_s)).toInt - (f_s 103 p_s).toInt) := ⟨fun c_s => if_pos c_s, fun c_s => if_neg c_s⟩
  have d2_s : ((f_s 103 (20 + o)).toInt - (f_s 103 p_s).toInt < 0 → iab ((f_s 103 (20 + o)).toInt - (f_s 103 p_s).toInt) = -((f_s 103 (20 + o)).toInt - (f_s 103 p_s).toInt)) ∧ (¬ (f_s 103 (20 + o)).toInt - (f_s 103 p_s).toInt < 0 → iab ((f_s 103 (20 + o)).toInt - (f_s 103 p_s).toInt) = (f_s 103 (20 + o)).toInt - (f_s 103 p_s).toInt) := ⟨fun c_s => if_pos c_s, fun c_s => if_neg c_s⟩
  unfold kyI at t0_s t1_s
  refine wF_le (Nat.le_succ F_s) (sg_195_0 (h_s := (h_s.1, f_s, h_s.2.2.1, h_s.2.2.2)) hk ?_)
  dsimp only
  simp only [z1, z2, z3, y2, y3, q1_s, q2_s, r1_s, r2]
  generalize iab ((f_s 103 (20 + i_s)).toInt - (f_s 103 p_s).toInt) = D1 at d1_s t0_s t1_s
  generalize iab ((f_s 103 (20 + o)).toInt - (f_s 103 p_s).toInt) = D2 at d2_s t0_s t1_s
  refine fun c1_s => fun c2_s => ⟨fun c3_s => fun c4_s => ⟨fun c6_s => ⟨fun c7_s => fun c8_s => fun c9_s => ⟨fun c10_s => ⟨fun c11_s => ?_, fun c11_s => ?_⟩, fun c10_s => ⟨fun c14_s => ?_, fun c14_s => ?_⟩⟩, fun c7_s => ⟨fun c15_s => ?_, fun c15_s => ?_⟩⟩, fun c6_s => ⟨fun c16 => fun c17 => fun c18_s => ⟨fun c19_s => ⟨fun c20_s => ?_, fun c20_s => ?_⟩, fun c19_s => ⟨fun c23_s => ?_, fun c23_s => ?_⟩⟩, fun c16 => ⟨fun c24_s => ?_, fun c24_s => ?_⟩⟩⟩, fun c3_s => fun c25_s => ⟨fun c27_s => ⟨fun c28_s => fun c29_s => fun c30_s => ⟨fun c31_s => ⟨fun c32_s => ?_, fun c32_s => ?_⟩, fun c31_s => ⟨fun c35_s => ?_, fun c35_s => ?_⟩⟩, fun c28_s => ⟨fun c36_s => ?_, fun c36_s => ?_⟩⟩, fun c27_s => ⟨fun c37 => fun c38 => fun c39_s => ⟨fun c40_s => ⟨fun c41 => ?_, fun c41 => ?_⟩, fun c40_s => ⟨fun c44_s => ?_, fun c44_s => ?_⟩⟩, fun c37 => ⟨fun c45 => ?_, fun c45 => ?_⟩⟩⟩⟩
  all_goals first | exact t1_s (by omega) | exact t0_s (by omega)
/-- isRatherIdea -/
theorem sp_29 (hk : hKn h_s) (hc_s : tC nh ni nr f_s) (e1_s : x1_s.toInt = (p_s : Int)) (e2_s : x2_s.toInt = (i_s : Int)) (hp : p_s < nh) (hi_s : i_s < ni) (e3_s : x3.toInt < 0 ∨ ∃ o, x3.toInt = ((o : Nat) : Int) ∧ o < ni) (t1_s : (∀ o : Nat, x3.toInt = (o : Int) → o < ni → kyI f_s p_s i_s < kyI f_s p_s o) → K_s 1 (h_s.1, f_s, h_s.2.2.1, h_s.2.2.2)) (t0_s : ∀ o : Nat, x3.toInt = (o : Int) → o < ni → ¬ kyI f_s p_s i_s < kyI f_s p_s o → K_s 0 (h_s.1, f_s, h_s.2.2.1, h_s.2.2.2)) : wF F_s 29 (0, [some (.ref 7), some (.int x1_s), some (.int x2_s), some (.int x3), none, none], [], (h_s.1, f_s, h_s.2.2.1, h_s.2.2.2)) (gI K_s) := by
  have b_s := hc_s.1
  have c7_s := hc_s.2.1.2.1
  refine wF_le (Nat.le_succ F_s) (sg_29_0 (h_s := (h_s.1, f_s, h_s.2.2.1, h_s.2.2.2)) hk ?_)
  dsimp only
  rcases e3_s with e3_s | ⟨o, e3_s, ho⟩
  · exact ⟨fun _ => t1_s (fun o w_s _ => by omega), fun c_s => absurd e3_s c_s⟩
  · have z1 : zix x1_s = p_s := by
      have := azix (i := x1_s) (by omega)
      omega
    have z2 : zix x2_s = i_s := by
      have := azix (i := x2_s) (by omega)
      omega
    have z3 : zix x3 = o := by
      have := azix (i := x3) (by omega)
      omega
    have t1_s : kyI f_s p_s i_s < kyI f_s p_s o → K_s 1 (h_s.1, f_s, h_s.2.2.1, h_s.2.2.2) := fun w_s => t1_s (fun o1 w1_s w2_s => by
      have eo : o1 = o := by omega
      rw [eo]
      exact w_s)
    have t0_s := t0_s o e3_s ho
    have s1_s : f_s 8 p_s = f_s 103 p_s := (tC_form hc_s (by omega)).1
    have s2_s : f_s (20 + i_s) 1 = f_s 103 (20 + i_s) := (tC_own (i_s := i_s) (k_s := 1) hc_s (by omega) (by omega)).1
    have s3_s : f_s (20 + o) 1 = f_s 103 (20 + o) := (tC_own (i_s := o) (k_s := 1) hc_s (by omega) (by omega)).1
    have s4_s : f_s (20 + i_s) 2 = f_s 103 (28 + i_s) := (tC_own (i_s := i_s) (k_s := 2) hc_s (by omega) (by omega)).1
    have s5 : f_s (20 + o) 2 = f_s 103 (28 + o) := (tC_own (i_s := o) (k_s := 2) hc_s (by omega) (by omega)).1
    have bp := tM_form (tC_M hc_s) (p_s := p_s) (by omega)
    have bi : 0 ≤ (f_s 103 (20 + i_s)).toInt ∧ (f_s 103 (20 + i_s)).toInt ≤ 5 := tM_own (i_s := i_s) (k_s := 1) (tC_M hc_s) (by omega) (by omega)
    have bo : 0 ≤ (f_s 103 (20 + o)).toInt ∧ (f_s 103 (20 + o)).toInt ≤ 5 := tM_own (i_s := o) (k_s := 1) (tC_M hc_s) (by omega) (by omega)
    have wi : 0 ≤ (f_s 103 (28 + i_s)).toInt ∧ (f_s 103 (28 + i_s)).toInt ≤ 99 := tM_own (i_s := i_s) (k_s := 2) (tC_M hc_s) (by omega) (by omega)
    have wo : 0 ≤ (f_s 103 (28 + o)).toInt ∧ (f_s 103 (28 + o)).toInt ≤ 99 := tM_own (i_s := o) (k_s := 2) (tC_M hc_s) (by omega) (by omega)
    obtain ⟨_, _, q3_s⟩ := iab_c bi bp
    obtain ⟨_, _, r3⟩ := iab_c bo bp
    unfold kyI at t0_s t1_s
    simp only [z1, z2, z3, s1_s, s2_s, s3_s, s4_s, s5, q3_s, r3, c7_s]
    generalize iab ((f_s 103 (20 + i_s)).toInt - (f_s 103 p_s).toInt) = D1 at t0_s t1_s
    generalize iab ((f_s 103 (20 + o)).toInt - (f_s 103 p_s).toInt) = D2 at t0_s t1_s
    refine ⟨fun c1_s => ?_, fun c1_s => ⟨fun c2_s => fun c3_s => fun c4_s => fun c5_s => ⟨fun c7_s => ⟨fun c10_s => ⟨fun c11_s => ?_, fun c11_s => ?_⟩, fun c10_s => ⟨fun c14_s => ?_, fun c14_s => ?_⟩⟩, fun c7_s => ⟨fun c15_s => ?_, fun c15_s => ?_⟩⟩, fun c2_s => ?_⟩⟩
    all_goals first | exact t1_s (by omega) | exact t0_s (by omega) | (exfalso; omega)
/-- isRatherHead -/
theorem sp_28 {q_s : Nat} (hk : hKn h_s) (hc_s : tC nh ni nr f_s) (e1_s : x1_s.toInt = (p_s : Int)) (hp : p_s < nh) (e2_s : x2_s.toInt < 0 ∨ ∃ q_s, x2_s.toInt = ((q_s : Nat) : Int) ∧ q_s < nh) (t1_s : (∀ q_s : Nat, x2_s.toInt = (q_s : Int) → q_s < nh → hkI f_s p_s < hkI f_s q_s) → K_s 1 (h_s.1, f_s, h_s.2.2.1, h_s.2.2.2)) (t0_s : ∀ q_s : Nat, x2_s.toInt = (q_s : Int) → q_s < nh → ¬ hkI f_s p_s < hkI f_s q_s → K_s 0 (h_s.1, f_s, h_s.2.2.1, h_s.2.2.2)) : wF F_s 28 (0, [some (.ref 7), some (.int x1_s), some (.int x2_s)], [], (h_s.1, f_s, h_s.2.2.1, h_s.2.2.2)) (gI K_s) := by
  have b_s := hc_s.1
  have c6_s := hc_s.2.1.1
  refine wF_le (Nat.le_succ F_s) (sg_28_0 (h_s := (h_s.1, f_s, h_s.2.2.1, h_s.2.2.2)) hk ?_)
  dsimp only
  rcases e2_s with e2_s | ⟨q_s, e2_s, hq⟩
  · exact ⟨fun _ => t1_s (fun q_s w_s _ => by omega), fun c_s => absurd e2_s c_s⟩
  · have z1 : zix x1_s = p_s := by
      have := azix (i := x1_s) (by omega)
      omega
    have z2 : zix x2_s = q_s := by
      have := azix (i := x2_s) (by omega)
      omega
    have t1_s : hkI f_s p_s < hkI f_s q_s → K_s 1 (h_s.1, f_s, h_s.2.2.1, h_s.2.2.2) := fun w_s => t1_s (fun o1 w1_s w2_s => by
      have eo : o1 = q_s := by omega
      rw [eo]
      exact w_s)
    have t0_s := t0_s q_s e2_s hq
    have s1_s : f_s 9 p_s = f_s 103 (6 + p_s) := (tC_will hc_s (by omega)).1
    have s2_s : f_s 9 q_s = f_s 103 (6 + q_s) := (tC_will hc_s (by omega)).1
    have bp := tM_will (tC_M hc_s) (p_s := p_s) (by omega)
    have bq := tM_will (tC_M hc_s) (p_s := q_s) (by omega)
    unfold hkI at t0_s t1_s
    simp only [z1, z2, s1_s, s2_s, c6_s]
    refine ⟨fun c1_s => ?_, fun c1_s => ⟨fun c2_s => fun c3_s => fun c4_s => ⟨fun c5_s => ⟨fun c6_s => ?_, fun c6_s => ?_⟩, fun c5_s => ⟨fun c9_s => ?_, fun c9_s => ?_⟩⟩, fun c2_s => ?_⟩⟩
    all_goals first | exact t1_s (by omega) | exact t0_s (by omega) | (exfalso; omega)
/-- ideaRather -/
theorem sp_196 {q_s : Nat} (hk : hKn h_s) (hc_s : tM nh ni nr f_s) (e1_s : x1_s.toInt = (p_s : Int)) (e2_s : x2_s.toInt = (q_s : Int)) (hp : p_s < nh) (hq : q_s < nh) (t1_s : hkI f_s p_s < hkI f_s q_s → K_s 1 (h_s.1, f_s, h_s.2.2.1, h_s.2.2.2)) (t0_s : ¬ hkI f_s p_s < hkI f_s q_s → K_s 0 (h_s.1, f_s, h_s.2.2.1, h_s.2.2.2)) : wF F_s 196 (0, [some (.ref 102), some (.int x1_s), some (.int x2_s)], [], (h_s.1, f_s, h_s.2.2.1, h_s.2.2.2)) (gI K_s) := by
  have b_s := hc_s.1
  have z1 : zix (6 + x1_s) = 6 + p_s := zxa (c_s := 6) (a_s := 6) rfl e1_s (by omega)
  have z2 : zix (6 + x2_s) = 6 + q_s := zxa (c_s := 6) (a_s := 6) rfl e2_s (by omega)
  have bp := tM_will hc_s (p_s := p_s) (by omega)
  have bq := tM_will hc_s (p_s := q_s) (by omega)
  unfold hkI at t0_s t1_s
  refine wF_le (Nat.le_succ F_s) (sg_196_0 (h_s := (h_s.1, f_s, h_s.2.2.1, h_s.2.2.2)) hk ?_)
  dsimp only
  simp only [z1, z2]
  refine fun c1_s => fun c2_s => ⟨fun c3_s => ⟨fun c4_s => ?_, fun c4_s => ?_⟩, fun c3_s => ⟨fun c7_s => ?_, fun c7_s => ?_⟩⟩
  all_goals first | exact t1_s (by omega) | exact t0_s (by omega)
/-- the best of those not passed over, as far as n -/
noncomputable def bsN (kf : Nat → Int) (no_s : Nat → Bool) (m_s : Int) (n_s : Nat) (v_s : Int) : Prop := (v_s = m_s ∧ ∀ o, o < n_s → no_s o = true) ∨ ∃ b_s : Nat, b_s < n_s ∧ v_s = (b_s : Int) ∧ no_s b_s = false ∧ ∀ o, o < n_s → no_s o = false → o = b_s ∨ kf b_s < kf o
theorem bs_skip {kf : Nat → Int} {no_s : Nat → Bool} {m_s v_s : Int} {n_s : Nat} (h_s : bsN kf no_s m_s n_s v_s) (hn : no_s n_s = true) : bsN kf no_s m_s (n_s + 1) v_s := by
  rcases h_s with ⟨a1_s, a2⟩ | ⟨b_s, a1_s, a2, a3, a4⟩
  · refine Or.inl ⟨a1_s, fun o ho => ?_⟩
    by_cases e_s : o = n_s
    · rw [e_s]
      exact hn
    · exact a2 o (by omega)
  · refine Or.inr ⟨b_s, by omega, a2, a3, fun o ho w_s => ?_⟩
    by_cases e_s : o = n_s
    · rw [e_s, hn] at w_s
      cases w_s
    · exact a4 o (by omega) w_s
theorem bs_take {kf : Nat → Int} {no_s : Nat → Bool} {m_s v_s : Int} {n_s : Nat} (hm_s : m_s < 0) (h_s : bsN kf no_s m_s n_s v_s) (hn : no_s n_s = false) (hl : ∀ o : Nat, v_s = (o : Int) → o < n_s → kf n_s < kf o) : bsN kf no_s m_s (n_s + 1) (n_s : Int) := by
  refine Or.inr ⟨n_s, by omega, rfl, hn, fun o ho w_s => ?_⟩
  by_cases e_s : o = n_s
  · exact Or.inl e_s
  · rcases h_s with ⟨a1_s, a2⟩ | ⟨b_s, a1_s, a2, a3, a4⟩
    · rw [a2 o (by omega)] at w_s
      cases w_s
    · have l := hl b_s a2 a1_s
      rcases a4 o (by omega) w_s with u_s | u_s
      · rw [u_s]
        exact Or.inr l
      · exact Or.inr (by omega)
theorem bs_keep {kf : Nat → Int} {no_s : Nat → Bool} {m_s v_s : Int} {n_s b_s : Nat} (hinj : kf b_s = kf n_s → b_s = n_s) (h_s : bsN kf no_s m_s n_s v_s) (hv : v_s = (b_s : Int)) (hm_s : m_s < 0) (hl : ¬ kf n_s < kf b_s) : bsN kf no_s m_s (n_s + 1) v_s := by
  rcases h_s with ⟨a1_s, a2⟩ | ⟨b1, a1_s, a2, a3, a4⟩
  · omega
  · have eb : b1 = b_s := by omega
    subst eb
    refine Or.inr ⟨b1, by omega, a2, a3, fun o ho w_s => ?_⟩
    by_cases e_s : o = n_s
    · rw [e_s]
      by_cases f_s : kf b1 = kf n_s
      · exact Or.inl (hinj f_s).symm
      · exact Or.inr (by omega)
    · exact a4 o (by omega) w_s
theorem ky_inj {n_s : Nat} (hn : n_s < 8) (o : Nat) (ho : o < 8) (e_s : kyI f_s p_s o = kyI f_s p_s n_s) : o = n_s := by
  unfold kyI at e_s
  omega
end AA
/-! ALL ASK, the class: heads by rank choose one after the other. -/
section CA_s
variable {h_s : zH} {K_s : Int32 → zH → Prop} {V : zH → Prop} {nh ni nr p_s : Nat} {x1_s x2_s : Int32} {f_s : Nat → Nat → Int32}
theorem nr27 (hk : hKn h_s) (hc_s : tC nh ni nr f_s) (e1_s : x1_s.toInt = (p_s : Int)) (hp : p_s < nh) (t_s : ∀ v_s, bsN (kyI f_s p_s) (btv x2_s) (-2) ni v_s.toInt → K_s v_s (h_s.1, f_s, h_s.2.2.1, h_s.2.2.2)) : ∀ (F_s n_s : Nat) (x3 x4_s : Int32), x4_s.toInt = (n_s : Int) → n_s ≤ ni → bsN (kyI f_s p_s) (btv x2_s) (-2) n_s x3.toInt → wF F_s 27 (6, [some (.ref 7), some (.int x1_s), some (.int x2_s), some (.int x3), some (.int x4_s)], [], (h_s.1, f_s, h_s.2.2.1, h_s.2.2.2)) (gI K_s)
  | 0, _, _, _, _, _, _ => wF_zero
  | F_s + 1, n_s, x3, x4_s, e4_s, hn, hb_s => by
    have b_s := hc_s.1
    have c7_s := hc_s.2.1.2.1
    have e5_s : (x4_s + 1).toInt = ((n_s + 1 : Nat) : Int) := by
      rw [in1_ (by omega), e4_s]
      omega
    refine sg_27_6 (h_s := (h_s.1, f_s, h_s.2.2.1, h_s.2.2.2)) hk ?_
    dsimp only
    rw [c7_s, e4_s]
    refine ⟨fun c1_s => ⟨fun c2_s => ?_, fun c2_s => ?_⟩, fun c1_s => ?_⟩
    · have hno := (bt_tst (x_s := x2_s) e4_s (by omega)).1.mp c2_s
      have e3_s : x3.toInt < 0 ∨ ∃ o, x3.toInt = ((o : Nat) : Int) ∧ o < ni := by
        rcases hb_s with ⟨a1_s, _⟩ | ⟨o, a1_s, a2, _⟩
        · exact Or.inl (by omega)
        · exact Or.inr ⟨o, a2, by omega⟩
      refine sp_29 hk hc_s e1_s e4_s hp (by omega) e3_s (fun w_s _ => ⟨fun c_s => absurd c_s (by decide), fun _ => ?_⟩) (fun o w1_s w2_s w3_s _ => ⟨fun _ => ?_, fun c_s => absurd rfl c_s⟩)
      · refine nr27 hk hc_s e1_s hp t_s F_s (n_s + 1) x4_s (x4_s + 1) e5_s (by omega) ?_
        rw [e4_s]
        exact bs_take (by omega) hb_s hno (fun o w1_s w2_s => w_s o w1_s (by omega))
      · exact nr27 hk hc_s e1_s hp t_s F_s (n_s + 1) x3 (x4_s + 1) e5_s (by omega) (bs_keep (fun w_s => ky_inj (p_s := p_s) (f_s := f_s) (by omega) o (by omega) w_s) hb_s w1_s (by omega) w3_s)
    · have hno : btv x2_s n_s = true := by
        cases e_s : btv x2_s n_s with
        | true => rfl
        | false => exact absurd ((bt_tst (x_s := x2_s) e4_s (by omega)).1.mpr e_s) c2_s
      exact nr27 hk hc_s e1_s hp t_s F_s (n_s + 1) x3 (x4_s + 1) e5_s (by omega) (bs_skip hb_s hno)
    · have en : n_s = ni := by omega
      subst en
      exact t_s x3 hb_s
theorem sp_27 {F_s : Nat} (hk : hKn h_s) (hc_s : tC nh ni nr f_s) (e1_s : x1_s.toInt = (p_s : Int)) (hp : p_s < nh) (t_s : ∀ v_s, bsN (kyI f_s p_s) (btv x2_s) (-2) ni v_s.toInt → K_s v_s (h_s.1, f_s, h_s.2.2.1, h_s.2.2.2)) : wF F_s 27 (0, [some (.ref 7), some (.int x1_s), some (.int x2_s), none, none], [], (h_s.1, f_s, h_s.2.2.1, h_s.2.2.2)) (gI K_s) := wF_le (Nat.le_succ F_s) (sg_27_0 (h_s := (h_s.1, f_s, h_s.2.2.1, h_s.2.2.2)) hk (nr27 hk hc_s e1_s hp t_s F_s 0 (-2) 0 rfl (Nat.zero_le _) (Or.inl ⟨rfl, fun o ho => absurd ho (Nat.not_lt_zero o)⟩)))
theorem fo26 (hk : hKn h_s) (hc_s : tC nh ni nr f_s) (t_s : ∀ v_s, bsN (hkI f_s) (btv x1_s) (-1) nh v_s.toInt → K_s v_s (h_s.1, f_s, h_s.2.2.1, h_s.2.2.2)) : ∀ (F_s n_s : Nat) (x2_s x3 : Int32), x3.toInt = (n_s : Int) → n_s ≤ nh → bsN (hkI f_s) (btv x1_s) (-1) n_s x2_s.toInt → wF F_s 26 (4, [some (.ref 7), some (.int x1_s), some (.int x2_s), some (.int x3)], [], (h_s.1, f_s, h_s.2.2.1, h_s.2.2.2)) (gI K_s)
  | 0, _, _, _, _, _, _ => wF_zero
  | F_s + 1, n_s, x2_s, x3, e4_s, hn, hb_s => by
    have b_s := hc_s.1
    have c6_s := hc_s.2.1.1
    have e5_s : (x3 + 1).toInt = ((n_s + 1 : Nat) : Int) := by
      rw [in1_ (by omega), e4_s]
      omega
    refine sg_26_4 (h_s := (h_s.1, f_s, h_s.2.2.1, h_s.2.2.2)) hk ?_
    dsimp only
    rw [c6_s, e4_s]
    refine ⟨fun c1_s => ⟨fun c2_s => ?_, fun c2_s => ?_⟩, fun c1_s => ?_⟩
    · have hno := (bt_tst (x_s := x1_s) e4_s (by omega)).1.mp c2_s
      have e3_s : x2_s.toInt < 0 ∨ ∃ o, x2_s.toInt = ((o : Nat) : Int) ∧ o < nh := by
        rcases hb_s with ⟨a1_s, _⟩ | ⟨o, a1_s, a2, _⟩
        · exact Or.inl (by omega)
        · exact Or.inr ⟨o, a2, by omega⟩
      refine sp_28 (p_s := n_s) (q_s := 0) hk hc_s e4_s (by omega) e3_s (fun w_s _ => ⟨fun c_s => absurd c_s (by decide), fun _ => ?_⟩) (fun o w1_s w2_s w3_s _ => ⟨fun _ => ?_, fun c_s => absurd rfl c_s⟩)
      · refine fo26 hk hc_s t_s F_s (n_s + 1) x3 (x3 + 1) e5_s (by omega) ?_
        rw [e4_s]
        exact bs_take (by omega) hb_s hno (fun o w1_s w2_s => w_s o w1_s (by omega))
      · exact fo26 hk hc_s t_s F_s (n_s + 1) x2_s (x3 + 1) e5_s (by omega) (bs_keep (fun w_s => hk_inj (tC_M hc_s) o n_s (by omega) (by omega) w_s) hb_s w1_s (by omega) w3_s)
    · have hno : btv x1_s n_s = true := by
        cases e_s : btv x1_s n_s with
        | true => rfl
        | false => exact absurd ((bt_tst (x_s := x1_s) e4_s (by omega)).1.mpr e_s) c2_s
      exact fo26 hk hc_s t_s F_s (n_s + 1) x2_s (x3 + 1) e5_s (by omega) (bs_skip hb_s hno)
    · have en : n_s = nh := by omega
      subst en
      exact t_s x2_s hb_s
theorem sp_26 {F_s : Nat} (hk : hKn h_s) (hc_s : tC nh ni nr f_s) (t_s : ∀ v_s, bsN (hkI f_s) (btv x1_s) (-1) nh v_s.toInt → K_s v_s (h_s.1, f_s, h_s.2.2.1, h_s.2.2.2)) : wF F_s 26 (0, [some (.ref 7), some (.int x1_s), none, none], [], (h_s.1, f_s, h_s.2.2.1, h_s.2.2.2)) (gI K_s) := wF_le (Nat.le_succ F_s) (sg_26_0 (h_s := (h_s.1, f_s, h_s.2.2.1, h_s.2.2.2)) hk (fo26 hk hc_s t_s F_s 0 (-1) 0 rfl (Nat.zero_le _) (Or.inl ⟨rfl, fun o ho => absurd ho (Nat.not_lt_zero o)⟩)))
theorem fl240 {y1 x3 : Int32} {f0_s : Nat → Nat → Int32} (hk : hKn h_s) (e3_s : x3.toInt = 6) (t_s : ∀ f1_s, (∀ k_s, k_s < 6 → f1_s 12 k_s = y1) → (∀ a_s k_s, ¬ (a_s = 12 ∧ k_s < 6) → f1_s a_s k_s = f0_s a_s k_s) → V (h_s.1, f1_s, h_s.2.2.1, h_s.2.2.2)) : ∀ (F_s n_s : Nat) (x2_s : Int32) (f_s : Nat → Nat → Int32), x2_s.toInt = (n_s : Int) → n_s ≤ 6 → (∀ k_s, k_s < n_s → f_s 12 k_s = y1) → (∀ a_s k_s, ¬ (a_s = 12 ∧ k_s < 6) → f_s a_s k_s = f0_s a_s k_s) → wF F_s 240 (5, [some (.ref 12), some (.int y1), some (.int x2_s), some (.int x3)], [], (h_s.1, f_s, h_s.2.2.1, h_s.2.2.2)) (gV V)
  | 0, _, _, _, _, _, _, _ => wF_zero
  | F_s + 1, n_s, x2_s, f_s, e2_s, hn, hf, hg => by
    have z_s := azix (i := x2_s) (by omega)
    have ez : zix x2_s = n_s := by omega
    refine sg_240_5 (h_s := (h_s.1, f_s, h_s.2.2.1, h_s.2.2.2)) hk ?_
    dsimp only
    rw [ez]
    refine ⟨fun c1_s _ => ?_, fun c1_s => ?_⟩
    · refine fl240 (f0_s := f0_s) hk e3_s t_s F_s (n_s + 1) (x2_s + 1) _ (by rw [in1_ (by omega)]; omega) (by omega) (fun k_s hk1 => ?_) (fun a_s k_s q_s => ?_)
      · by_cases e_s : k_s = n_s
        · rw [e_s, zsame_up]
        · rw [zne_up (by omega)]
          exact hf k_s (by omega)
      · rw [zne_up (by omega)]
        exact hg a_s k_s q_s
    · have en : n_s = 6 := by omega
      subst en
      exact t_s f_s hf hg
theorem SDp_congr {ky : Nat → Nat → Int} {hq : Nat → Int} {hd_s hd1 : Nat → Int} (he : ∀ q_s, q_s < nh → (hq q_s < hq p_s ∨ q_s = p_s) → hd1 q_s = hd_s q_s) (hp : p_s < nh) (S_s : SDp nh ni ky hq hd_s p_s) : SDp nh ni ky hq hd1 p_s := by
  rcases S_s with ⟨s1_s, s2_s⟩ | ⟨i_s, s1_s, s2_s, s3_s, s4_s⟩
  · refine Or.inl ⟨by rw [he p_s hp (Or.inr rfl)]; exact s1_s, fun i_s hi_s => ?_⟩
    obtain ⟨q_s, q1_s, q2_s, q3_s⟩ := s2_s i_s hi_s
    exact ⟨q_s, q1_s, q2_s, by rw [he q_s q1_s (Or.inl q2_s)]; exact q3_s⟩
  · refine Or.inr ⟨i_s, s1_s, by rw [he p_s hp (Or.inr rfl)]; exact s2_s, fun q_s q1_s q2_s => ?_, fun o o1 o2 => ?_⟩
    · rw [he q_s q1_s (Or.inl q2_s)]
      exact s3_s q_s q1_s q2_s
    · rcases s4_s o o1 o2 with ⟨q_s, q1_s, q2_s, q3_s⟩ | u_s
      · exact Or.inl ⟨q_s, q1_s, q2_s, by rw [he q_s q1_s (Or.inl q2_s)]; exact q3_s⟩
      · exact Or.inr u_s
/-- what stands when some are served -/
noncomputable def srv (nh ni : Nat) (f0_s f_s : Nat → Nat → Int32) (s_s g_s : Int32) (n_s : Nat) : Prop := (∀ q_s, q_s < nh → btv s_s q_s = true → SDp nh ni (kyI f0_s) (hkI f0_s) (fun q_s => (f_s 12 q_s).toInt) q_s) ∧ (∀ q_s, q_s < nh → btv s_s q_s = false → (f_s 12 q_s).toInt = -2) ∧ (∀ a_s q_s, a_s < nh → q_s < nh → btv s_s q_s = true → btv s_s a_s = false → hkI f0_s q_s < hkI f0_s a_s) ∧ (∀ i_s, i_s < ni → (btv g_s i_s = true ↔ ∃ q_s, q_s < nh ∧ btv s_s q_s = true ∧ (f_s 12 q_s).toInt = ((i_s : Nat) : Int))) ∧ cnB s_s nh = n_s
theorem ky_fr {f0_s : Nat → Nat → Int32} (h3 : ∀ k_s, f_s 103 k_s = f0_s 103 k_s) : kyI f_s = kyI f0_s ∧ hkI f_s = hkI f0_s := by
  refine ⟨?_, ?_⟩
  · funext p_s i_s
    unfold kyI
    rw [h3, h3, h3]
  · funext p_s
    unfold hkI
    rw [h3]
theorem srv_step {f0_s f1_s : Nat → Nat → Int32} {s_s g_s s1_s g1 : Int32} {n_s b_s : Nat} {v_s : Int} (b6 : nh ≤ 6 ∧ ni ≤ 8) (S_s : srv nh ni f0_s f_s s_s g_s n_s) (hb_s : b_s < nh) (hs : btv s_s b_s = false) (hbest : ∀ o, o < nh → btv s_s o = false → o = b_s ∨ hkI f0_s b_s < hkI f0_s o) (hn : bsN (kyI f0_s b_s) (btv g_s) (-2) ni v_s) (e1_s : (f1_s 12 b_s).toInt = v_s) (e2_s : ∀ q_s, ¬ q_s = b_s → f1_s 12 q_s = f_s 12 q_s) (e3_s : ∀ k_s, k_s < 32 → btv s1_s k_s = (btv s_s k_s || decide (k_s = b_s))) (e4_s : (v_s = -2 ∧ g1 = g_s) ∨ (∃ i_s : Nat, i_s < ni ∧ v_s = (i_s : Int) ∧ ∀ k_s, k_s < 32 → btv g1 k_s = (btv g_s k_s || decide (k_s = i_s)))) : srv nh ni f0_s f1_s s1_s g1 (n_s + 1) := by
  obtain ⟨i1_s, i2_s, i3_s, i4_s, i5_s⟩ := S_s
  have s1b : btv s1_s b_s = true := by
    rw [e3_s b_s (by omega), decide_eq_true rfl, Bool.or_true]
  have s1n : ∀ k_s, k_s < 32 → ¬ k_s = b_s → btv s1_s k_s = btv s_s k_s := fun k_s hk32 hne => by rw [e3_s k_s hk32, decide_eq_false hne, Bool.or_false]
  have up_s : ∀ q_s, q_s < nh → hkI f0_s q_s < hkI f0_s b_s → btv s_s q_s = true := fun q_s hq l => by
    cases e_s : btv s_s q_s with
    | true => rfl
    | false =>
      rcases hbest q_s hq e_s with u_s | u_s
      · rw [u_s] at l
        omega
      · omega
  have nq : ∀ q_s, hkI f0_s q_s < hkI f0_s b_s → ¬ q_s = b_s := fun q_s l e_s => by
    rw [e_s] at l
    omega
  refine ⟨fun q_s hq w_s => ?_, fun q_s hq w_s => ?_, fun a_s q_s ha_s hq w1_s w2_s => ?_, fun i_s hi_s => ?_, ?_⟩
  · by_cases e_s : q_s = b_s
    · subst e_s
      rcases hn with ⟨a1_s, a2⟩ | ⟨i_s, a1_s, a2, a3, a4⟩
      · refine Or.inl ⟨by rw [← a1_s]; exact e1_s, fun i_s hi_s => ?_⟩
        obtain ⟨r_s, r1_s, r2, r3⟩ := (i4_s i_s hi_s).mp (a2 i_s hi_s)
        have l := i3_s q_s r_s hq r1_s r2 hs
        refine ⟨r_s, r1_s, l, ?_⟩
        show (f1_s 12 r_s).toInt = (i_s : Int)
        rw [e2_s r_s (nq r_s l)]
        exact r3
      · refine Or.inr ⟨i_s, a1_s, by rw [← a2]; exact e1_s, fun r_s r1_s l w_s => ?_, fun o ho hne => ?_⟩
        · have w_s : (f1_s 12 r_s).toInt = (i_s : Int) := w_s
          rw [e2_s r_s (nq r_s l)] at w_s
          have := (i4_s i_s a1_s).mpr ⟨r_s, r1_s, up_s r_s r1_s l, w_s⟩
          rw [a3] at this
          cases this
        · cases eo : btv g_s o with
          | true =>
            obtain ⟨r_s, r1_s, r2, r3⟩ := (i4_s o ho).mp eo
            have l := i3_s q_s r_s hq r1_s r2 hs
            refine Or.inl ⟨r_s, r1_s, l, ?_⟩
            show (f1_s 12 r_s).toInt = (o : Int)
            rw [e2_s r_s (nq r_s l)]
            exact r3
          | false =>
            rcases a4 o ho eo with u_s | u_s
            · exact absurd u_s hne
            · exact Or.inr u_s
    · rw [s1n q_s (by omega) e_s] at w_s
      refine SDp_congr (hd_s := fun q_s => (f_s 12 q_s).toInt) (fun r_s r1_s r2 => ?_) hq (i1_s q_s hq w_s)
      show (f1_s 12 r_s).toInt = (f_s 12 r_s).toInt
      rw [e2_s r_s (fun u_s => ?_)]
      have l := i3_s b_s q_s hb_s hq w_s hs
      rcases r2 with r2 | r2
      · rw [u_s] at r2
        omega
      · exact e_s (by rw [← r2, u_s])
  · by_cases e_s : q_s = b_s
    · rw [e_s, s1b] at w_s
      cases w_s
    · rw [s1n q_s (by omega) e_s] at w_s
      rw [e2_s q_s e_s]
      exact i2_s q_s hq w_s
  · have ea : ¬ a_s = b_s := fun u_s => by
      rw [u_s, s1b] at w2_s
      cases w2_s
    rw [s1n a_s (by omega) ea] at w2_s
    by_cases e_s : q_s = b_s
    · rw [e_s]
      rcases hbest a_s ha_s w2_s with u_s | u_s
      · exact absurd u_s ea
      · exact u_s
    · rw [s1n q_s (by omega) e_s] at w1_s
      exact i3_s a_s q_s ha_s hq w1_s w2_s
  · have old_s : (∃ q_s, q_s < nh ∧ btv s1_s q_s = true ∧ (f1_s 12 q_s).toInt = ((i_s : Nat) : Int)) ↔ ((∃ q_s, q_s < nh ∧ btv s_s q_s = true ∧ (f_s 12 q_s).toInt = ((i_s : Nat) : Int)) ∨ v_s = (i_s : Int)) := by
      constructor
      · rintro ⟨q_s, q1_s, q2_s, q3_s⟩
        by_cases e_s : q_s = b_s
        · rw [e_s, e1_s] at q3_s
          exact Or.inr q3_s
        · rw [s1n q_s (by omega) e_s] at q2_s
          rw [e2_s q_s e_s] at q3_s
          exact Or.inl ⟨q_s, q1_s, q2_s, q3_s⟩
      · rintro (⟨q_s, q1_s, q2_s, q3_s⟩ | w_s)
        · have e_s : ¬ q_s = b_s := fun u_s => by
            rw [u_s, hs] at q2_s
            cases q2_s
          exact ⟨q_s, q1_s, by rw [s1n q_s (by omega) e_s]; exact q2_s, by rw [e2_s q_s e_s]; exact q3_s⟩
        · exact ⟨b_s, hb_s, s1b, by rw [e1_s]; exact w_s⟩
    rw [old_s, ← i4_s i_s hi_s]
    rcases e4_s with ⟨v2, eg⟩ | ⟨j_s, j1, j2_s, j3_s⟩
    · rw [eg]
      exact ⟨fun w_s => Or.inl w_s, fun w_s => w_s.elim (fun u_s => u_s) (fun u_s => by omega)⟩
    · rw [j3_s i_s (by omega)]
      by_cases e_s : i_s = j_s
      · rw [e_s, decide_eq_true rfl, Bool.or_true]
        exact ⟨fun _ => Or.inr j2_s, fun _ => rfl⟩
      · rw [decide_eq_false e_s, Bool.or_false]
        exact ⟨fun w_s => Or.inl w_s, fun w_s => w_s.elim (fun u_s => u_s) (fun u_s => by omega)⟩
  · rw [cnB_set hs s1b s1n nh (by omega), i5_s, if_pos hb_s]
theorem all25 {f0_s : Nat → Nat → Int32} (hk : hKn h_s) (hc_s : tC nh ni nr f0_s) (t_s : ∀ f1_s, (∀ q_s, q_s < nh → SDp nh ni (kyI f0_s) (hkI f0_s) (fun q_s => (f1_s 12 q_s).toInt) q_s) → (∀ a_s k_s, ¬ (a_s = 12 ∧ k_s < 6) → f1_s a_s k_s = f0_s a_s k_s) → V (h_s.1, f1_s, h_s.2.2.1, h_s.2.2.2)) : ∀ (F_s n_s : Nat) (x1_s x2_s x3 : Int32) (l4 : Option Value) (f_s : Nat → Nat → Int32), x3.toInt = (n_s : Int) → n_s ≤ nh → srv nh ni f0_s f_s x1_s x2_s n_s → (∀ a_s k_s, ¬ (a_s = 12 ∧ k_s < 6) → f_s a_s k_s = f0_s a_s k_s) → wF F_s 25 (15, [some (.ref 7), some (.int x1_s), some (.int x2_s), some (.int x3), l4], [], (h_s.1, f_s, h_s.2.2.1, h_s.2.2.2)) (gV V)
  | 0, _, _, _, _, _, _, _, _, _, _ => wF_zero
  | F_s + 1, n_s, x1_s, x2_s, x3, l4, f_s, e3_s, hn, S_s, hg => by
    have b_s := hc_s.1
    have e76 : f_s 7 6 = f0_s 7 6 := hg 7 6 (by omega)
    have c6_s := hc_s.2.1.1
    have e103_s : ∀ k_s, f_s 103 k_s = f0_s 103 k_s := fun k_s => hg 103 k_s (by omega)
    obtain ⟨ek, eh⟩ := ky_fr e103_s
    have hcf : tC nh ni nr f_s := tC_fr (fun a_s k_s q_s => hg a_s k_s (by unfold inC at q_s; omega)) hc_s
    refine sg_25_15 (h_s := (h_s.1, f_s, h_s.2.2.1, h_s.2.2.2)) hk ?_
    dsimp only
    rw [e76, c6_s, e3_s]
    refine ⟨fun c1_s => ?_, fun c1_s => ?_⟩
    · refine sp_26 hk hcf (fun v2 hv2 _ => ?_)
      rw [eh] at hv2
      rcases hv2 with ⟨a1_s, a2⟩ | ⟨bb, a1_s, a2, a3, a4⟩
      · exact ⟨fun _ => t_s f_s (fun q_s hq => S_s.1 q_s hq (a2 q_s hq)) hg, fun c_s => absurd (show v2.toInt < 0 by omega) c_s⟩
      · refine ⟨fun c_s => absurd c_s (by omega), fun _ => ⟨fun _ => ?_, fun c_s => absurd (show v2.toInt < (f_s 7 6).toInt by rw [e76, c6_s]; omega) c_s⟩⟩
        have z2 := azix (i := v2) (by omega)
        have ez2 : zix v2 = bb := by omega
        refine sp_27 (p_s := bb) hk hcf a2 a1_s (fun v5 hv5 _ _ => ?_)
        rw [ek] at hv5
        dsimp only
        rw [ez2, zsame_up]
        have st_s := fun (g1 : Int32) (e4_s : (v5.toInt = -2 ∧ g1 = x2_s) ∨ (∃ i_s : Nat, i_s < ni ∧ v5.toInt = (i_s : Int) ∧ ∀ k_s, k_s < 32 → btv g1 k_s = (btv x2_s k_s || decide (k_s = i_s)))) => srv_step (f1_s := zup f_s 12 bb v5) (s1_s := x1_s ||| (1 <<< (v2 &&& 31))) (g1 := g1) (v_s := v5.toInt) ⟨b_s.1, b_s.2.1⟩ S_s a1_s a3 a4 hv5 (by rw [zsame_up]) (fun q_s hq => zne_up (by omega)) (fun k_s hk32 => by rw [bt_or, bt_shl a2 (by omega) hk32]) e4_s
        have nx := fun (g1 : Int32) (S1 : srv nh ni f0_s (zup f_s 12 bb v5) (x1_s ||| (1 <<< (v2 &&& 31))) g1 (n_s + 1)) => all25 (f0_s := f0_s) hk hc_s t_s F_s (n_s + 1) (x1_s ||| (1 <<< (v2 &&& 31))) g1 (x3 + 1) (some (.int v2)) (zup f_s 12 bb v5) (by rw [in1_ (by omega)]; omega) (by omega) S1 (fun a_s k_s q_s => by rw [zne_up (by omega)]; exact hg a_s k_s q_s)
        refine ⟨fun c_s => nx x2_s (st_s x2_s (Or.inl ⟨c_s, rfl⟩)), fun c_s => ?_⟩
        rcases hv5 with ⟨b1, _⟩ | ⟨i_s, b1, b2, _, _⟩
        · exact absurd b1 c_s
        · exact nx _ (st_s _ (Or.inr ⟨i_s, b1, b2, fun k_s hk32 => by rw [bt_or, bt_shl b2 (by omega) hk32]⟩))
    · have en : n_s = nh := by omega
      subst en
      exact t_s f_s (fun q_s hq => S_s.1 q_s hq (cnB_all x1_s n_s S_s.2.2.2.2 q_s hq)) hg
theorem cnB_0 : ∀ n_s, cnB 0 n_s = 0
  | 0 => rfl
  | n_s + 1 => by
    show cnB 0 n_s + (if btv 0 n_s = true then 1 else 0) = 0
    rw [cnB_0 n_s, bt_0]
    rfl
theorem sp_25 {F_s : Nat} {f0_s : Nat → Nat → Int32} (hk : hKn h_s) (hc_s : tC nh ni nr f0_s) (t_s : ∀ f1_s, (∀ q_s, q_s < nh → SDp nh ni (kyI f0_s) (hkI f0_s) (fun q_s => (f1_s 12 q_s).toInt) q_s) → (∀ a_s k_s, ¬ (a_s = 12 ∧ k_s < 6) → f1_s a_s k_s = f0_s a_s k_s) → V (h_s.1, f1_s, h_s.2.2.1, h_s.2.2.2)) : wF F_s 25 (0, [some (.ref 7), none, none, none, none], [], (h_s.1, f0_s, h_s.2.2.1, h_s.2.2.2)) (gV V) := by
  refine wF_le (Nat.le_succ F_s) (sg_25_0 (h_s := (h_s.1, f0_s, h_s.2.2.1, h_s.2.2.2)) hk ?_)
  refine wF_le (Nat.le_succ F_s) (sg_240_0 (h_s := (h_s.1, f0_s, h_s.2.2.1, h_s.2.2.2)) hk ?_)
  refine fl240 (f0_s := f0_s) hk rfl (fun f1_s g1 g2 hk1 => ?_) F_s 0 0 f0_s rfl (by omega) (fun k_s hq => absurd hq (Nat.not_lt_zero k_s)) (fun _ _ _ => rfl)
  have b_s := hc_s.1
  refine all25 (h_s := (h_s.1, f1_s, h_s.2.2.1, h_s.2.2.2)) (f0_s := f0_s) hk1 hc_s t_s F_s 0 0 0 0 none f1_s rfl (Nat.zero_le _) ⟨fun q_s hq w_s => ?_, fun q_s hq w_s => ?_, fun a_s q_s ha_s hq w1_s w2_s => ?_, fun i_s hi_s => ⟨fun w_s => ?_, fun w_s => ?_⟩, cnB_0 nh⟩ g2
  · rw [bt_0] at w_s
    cases w_s
  · rw [g1 q_s (by omega)]
    rfl
  · rw [bt_0] at w1_s
    cases w1_s
  · rw [bt_0] at w_s
    cases w_s
  · obtain ⟨q_s, _, w_s, _⟩ := w_s
    rw [bt_0] at w_s
    cases w_s
end CA_s
