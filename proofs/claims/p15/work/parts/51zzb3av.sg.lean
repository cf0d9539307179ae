/-! What ended runs give: printed by a program (wip/fun/sg.py). -/
/-- ColdShod$Country.isThere(II)Z, from 0 on -/
theorem sg_18_0 {F_s : Nat} {x1_s x2_s : Int32} {h_s : zH} {K_s : Int32 → zH → Prop} (hk : hKn h_s) (t_s : (x2_s.toInt < 0 → K_s 0 h_s) ∧ (¬ x2_s.toInt < 0 → ((14 < x2_s.toInt → K_s 0 h_s) ∧ (¬ 14 < x2_s.toInt → ((1 < x2_s.toInt → ((8 < x2_s.toInt → ((x2_s.toInt = 14 → ((x1_s.toInt < 0 → K_s 0 h_s) ∧ (¬ x1_s.toInt < 0 → ((x1_s.toInt < (h_s.2.1 7 7).toInt → K_s 1 h_s) ∧ (¬ x1_s.toInt < (h_s.2.1 7 7).toInt → K_s 0 h_s))))) ∧ (¬ x2_s.toInt = 14 → ((x1_s.toInt < 0 → K_s 0 h_s) ∧ (¬ x1_s.toInt < 0 → ((x1_s.toInt < (h_s.2.1 7 8).toInt → K_s 1 h_s) ∧ (¬ x1_s.toInt < (h_s.2.1 7 8).toInt → K_s 0 h_s))))))) ∧ (¬ 8 < x2_s.toInt → ((x1_s.toInt < 0 → K_s 0 h_s) ∧ (¬ x1_s.toInt < 0 → ((x1_s.toInt < (h_s.2.1 7 7).toInt → K_s 1 h_s) ∧ (¬ x1_s.toInt < (h_s.2.1 7 7).toInt → K_s 0 h_s))))))) ∧ (¬ 1 < x2_s.toInt → ((x1_s.toInt < 0 → K_s 0 h_s) ∧ (¬ x1_s.toInt < 0 → ((x1_s.toInt < (h_s.2.1 7 6).toInt → K_s 1 h_s) ∧ (¬ x1_s.toInt < (h_s.2.1 7 6).toInt → K_s 0 h_s)))))))))) : wF (F_s + 1) 18 (0, [some (.ref 7), some (.int x1_s), some (.int x2_s)], [], h_s) (gI K_s) := by
  refine w_0 (pc := 0) (e_s := (1, 1, 2, 0, 0, .null, [])) (y_s := (1, [some (.ref _), some (.int _), some (.int _)], [.int _], _)) rfl (u_ rfl) ?_
  refine wq2 (pc := 1) (len_s := 3) rfl rfl (fun c1_s => ?_) (fun c1_s => ?_)
  · replace t_s := t_s.1 c1_s
    refine w_t (pc := 10) (e_s := (0, 1, 0, 0, 0, .int 0, [])) (y_s := (11, [some (.ref _), some (.int _), some (.int _)], [.int _], _)) rfl (u_ rfl) ?_
    exact wrI (pc := 11) (len_s := 1) rfl hk t_s
  · replace t_s := t_s.2 c1_s
    refine w_t (pc := 4) (e_s := (1, 1, 2, 0, 0, .null, [])) (y_s := (5, [some (.ref _), some (.int _), some (.int _)], [.int _], _)) rfl (u_ rfl) ?_
    refine w_t (pc := 5) (e_s := (0, 2, 0, 0, 0, .int 14, [])) (y_s := (7, [some (.ref _), some (.int _), some (.int _)], [.int _, .int _], _)) rfl (u_ rfl) ?_
    refine wi5 (pc := 7) (len_s := 3) (Y := 14) rfl rfl (by decide) (fun c2_s => ?_) (fun c2_s => ?_)
    · replace t_s := t_s.1 c2_s
      refine w_t (pc := 10) (e_s := (0, 1, 0, 0, 0, .int 0, [])) (y_s := (11, [some (.ref _), some (.int _), some (.int _)], [.int _], _)) rfl (u_ rfl) ?_
      exact wrI (pc := 11) (len_s := 1) rfl hk t_s
    · replace t_s := t_s.2 c2_s
      refine w_t (pc := 12) (e_s := (1, 1, 2, 0, 0, .null, [])) (y_s := (13, [some (.ref _), some (.int _), some (.int _)], [.int _], _)) rfl (u_ rfl) ?_
      refine w_t (pc := 13) (e_s := (0, 1, 0, 0, 0, .int 1, [])) (y_s := (14, [some (.ref _), some (.int _), some (.int _)], [.int _, .int _], _)) rfl (u_ rfl) ?_
      refine wi4 (pc := 14) (len_s := 3) (Y := 1) rfl rfl (by decide) (fun c3_s => ?_) (fun c3_s => ?_)
      · replace t_s := t_s.1 c3_s
        refine w_t (pc := 23) (e_s := (1, 1, 2, 0, 0, .null, [])) (y_s := (24, [some (.ref _), some (.int _), some (.int _)], [.int _], _)) rfl (u_ rfl) ?_
        refine w_t (pc := 24) (e_s := (0, 2, 0, 0, 0, .int 8, [])) (y_s := (26, [some (.ref _), some (.int _), some (.int _)], [.int _, .int _], _)) rfl (u_ rfl) ?_
        refine wi5 (pc := 26) (len_s := 3) (Y := 8) rfl rfl (by decide) (fun c4_s => ?_) (fun c4_s => ?_)
        · replace t_s := t_s.1 c4_s
          refine w_t (pc := 29) (e_s := (1, 1, 2, 0, 0, .null, [])) (y_s := (30, [some (.ref _), some (.int _), some (.int _)], [.int _], _)) rfl (u_ rfl) ?_
          refine w_t (pc := 30) (e_s := (0, 2, 0, 0, 0, .int 14, [])) (y_s := (32, [some (.ref _), some (.int _), some (.int _)], [.int _, .int _], _)) rfl (u_ rfl) ?_
          refine wi1 (pc := 32) (len_s := 3) (Y := 14) rfl rfl (by decide) (fun c5_s => ?_) (fun c5_s => ?_)
          · replace t_s := t_s.1 c5_s
            refine w_t (pc := 35) (e_s := (3, 1, 0, 0, 0, .null, [])) (y_s := (36, [some (.ref _), some (.int _), some (.int _)], [.ref _], _)) rfl (u_ rfl) ?_
            refine w_t (pc := 36) (e_s := (1, 1, 1, 0, 0, .null, [])) (y_s := (37, [some (.ref _), some (.int _), some (.int _)], [.int _, .ref _], _)) rfl (u_ rfl) ?_
            refine wcI (pc := 37) (len_s := 3) rfl rfl (l := [some (.ref _), some (.int _)]) rfl ?_
            refine w_t (pc := 0) (e_s := (1, 1, 1, 0, 0, .null, [])) (y_s := (1, [some (.ref _), some (.int _)], [.int _], _)) rfl (u_ rfl) ?_
            refine wq2 (pc := 1) (len_s := 3) rfl rfl (fun c6_s => ?_) (fun c6_s => ?_)
            · replace t_s := t_s.1 c6_s
              refine w_t (pc := 16) (e_s := (0, 1, 0, 0, 0, .int 0, [])) (y_s := (17, [some (.ref _), some (.int _)], [.int _], _)) rfl (u_ rfl) ?_
              refine wrI (pc := 17) (len_s := 1) rfl hk ?_
              show wF _ 18 (40, [some (.ref _), some (.int _), some (.int _)], [.int _], _) _
              refine w_t (pc := 40) (e_s := (17, 3, 48, 0, 0, .null, [])) (y_s := (48, [some (.ref _), some (.int _), some (.int _)], [.int _], _)) rfl (u_ rfl) ?_
              exact wrI (pc := 48) (len_s := 1) rfl hk t_s
            · replace t_s := t_s.2 c6_s
              refine w_t (pc := 4) (e_s := (1, 1, 1, 0, 0, .null, [])) (y_s := (5, [some (.ref _), some (.int _)], [.int _], _)) rfl (u_ rfl) ?_
              refine w_t (pc := 5) (e_s := (3, 1, 0, 0, 0, .null, [])) (y_s := (6, [some (.ref _), some (.int _)], [.ref _, .int _], _)) rfl (u_ rfl) ?_
              refine w20 (pc := 6) (len_s := 3) rfl ?_
              refine wi3 (pc := 9) (len_s := 3) rfl rfl rfl (fun c7_s => ?_) (fun c7_s => ?_)
              · replace t_s := t_s.1 c7_s
                refine w_t (pc := 12) (e_s := (0, 1, 0, 0, 0, .int 1, [])) (y_s := (13, [some (.ref _), some (.int _)], [.int _], _)) rfl (u_ rfl) ?_
                refine w_t (pc := 13) (e_s := (17, 3, 17, 0, 0, .null, [])) (y_s := (17, [some (.ref _), some (.int _)], [.int _], _)) rfl (u_ rfl) ?_
                refine wrI (pc := 17) (len_s := 1) rfl hk ?_
                show wF _ 18 (40, [some (.ref _), some (.int _), some (.int _)], [.int _], _) _
                refine w_t (pc := 40) (e_s := (17, 3, 48, 0, 0, .null, [])) (y_s := (48, [some (.ref _), some (.int _), some (.int _)], [.int _], _)) rfl (u_ rfl) ?_
                exact wrI (pc := 48) (len_s := 1) rfl hk t_s
              · replace t_s := t_s.2 c7_s
                refine w_t (pc := 16) (e_s := (0, 1, 0, 0, 0, .int 0, [])) (y_s := (17, [some (.ref _), some (.int _)], [.int _], _)) rfl (u_ rfl) ?_
                refine wrI (pc := 17) (len_s := 1) rfl hk ?_
                show wF _ 18 (40, [some (.ref _), some (.int _), some (.int _)], [.int _], _) _
                refine w_t (pc := 40) (e_s := (17, 3, 48, 0, 0, .null, [])) (y_s := (48, [some (.ref _), some (.int _), some (.int _)], [.int _], _)) rfl (u_ rfl) ?_
                exact wrI (pc := 48) (len_s := 1) rfl hk t_s
          · replace t_s := t_s.2 c5_s
            refine w_t (pc := 43) (e_s := (3, 1, 0, 0, 0, .null, [])) (y_s := (44, [some (.ref _), some (.int _), some (.int _)], [.ref _], _)) rfl (u_ rfl) ?_
            refine w_t (pc := 44) (e_s := (1, 1, 1, 0, 0, .null, [])) (y_s := (45, [some (.ref _), some (.int _), some (.int _)], [.int _, .ref _], _)) rfl (u_ rfl) ?_
            refine wcI (pc := 45) (len_s := 3) rfl rfl (l := [some (.ref _), some (.int _)]) rfl ?_
            refine w_t (pc := 0) (e_s := (1, 1, 1, 0, 0, .null, [])) (y_s := (1, [some (.ref _), some (.int _)], [.int _], _)) rfl (u_ rfl) ?_
            refine wq2 (pc := 1) (len_s := 3) rfl rfl (fun c8_s => ?_) (fun c8_s => ?_)
            · replace t_s := t_s.1 c8_s
              refine w_t (pc := 16) (e_s := (0, 1, 0, 0, 0, .int 0, [])) (y_s := (17, [some (.ref _), some (.int _)], [.int _], _)) rfl (u_ rfl) ?_
              refine wrI (pc := 17) (len_s := 1) rfl hk ?_
              show wF _ 18 (48, [some (.ref _), some (.int _), some (.int _)], [.int _], _) _
              exact wrI (pc := 48) (len_s := 1) rfl hk t_s
            · replace t_s := t_s.2 c8_s
              refine w_t (pc := 4) (e_s := (1, 1, 1, 0, 0, .null, [])) (y_s := (5, [some (.ref _), some (.int _)], [.int _], _)) rfl (u_ rfl) ?_
              refine w_t (pc := 5) (e_s := (3, 1, 0, 0, 0, .null, [])) (y_s := (6, [some (.ref _), some (.int _)], [.ref _, .int _], _)) rfl (u_ rfl) ?_
              refine w20 (pc := 6) (len_s := 3) rfl ?_
              refine wi3 (pc := 9) (len_s := 3) rfl rfl rfl (fun c9_s => ?_) (fun c9_s => ?_)
              · replace t_s := t_s.1 c9_s
                refine w_t (pc := 12) (e_s := (0, 1, 0, 0, 0, .int 1, [])) (y_s := (13, [some (.ref _), some (.int _)], [.int _], _)) rfl (u_ rfl) ?_
                refine w_t (pc := 13) (e_s := (17, 3, 17, 0, 0, .null, [])) (y_s := (17, [some (.ref _), some (.int _)], [.int _], _)) rfl (u_ rfl) ?_
                refine wrI (pc := 17) (len_s := 1) rfl hk ?_
                show wF _ 18 (48, [some (.ref _), some (.int _), some (.int _)], [.int _], _) _
                exact wrI (pc := 48) (len_s := 1) rfl hk t_s
              · replace t_s := t_s.2 c9_s
                refine w_t (pc := 16) (e_s := (0, 1, 0, 0, 0, .int 0, [])) (y_s := (17, [some (.ref _), some (.int _)], [.int _], _)) rfl (u_ rfl) ?_
                refine wrI (pc := 17) (len_s := 1) rfl hk ?_
                show wF _ 18 (48, [some (.ref _), some (.int _), some (.int _)], [.int _], _) _
                exact wrI (pc := 48) (len_s := 1) rfl hk t_s
        · replace t_s := t_s.2 c4_s
          refine w_t (pc := 35) (e_s := (3, 1, 0, 0, 0, .null, [])) (y_s := (36, [some (.ref _), some (.int _), some (.int _)], [.ref _], _)) rfl (u_ rfl) ?_
          refine w_t (pc := 36) (e_s := (1, 1, 1, 0, 0, .null, [])) (y_s := (37, [some (.ref _), some (.int _), some (.int _)], [.int _, .ref _], _)) rfl (u_ rfl) ?_
          refine wcI (pc := 37) (len_s := 3) rfl rfl (l := [some (.ref _), some (.int _)]) rfl ?_
          refine w_t (pc := 0) (e_s := (1, 1, 1, 0, 0, .null, [])) (y_s := (1, [some (.ref _), some (.int _)], [.int _], _)) rfl (u_ rfl) ?_
          refine wq2 (pc := 1) (len_s := 3) rfl rfl (fun c10_s => ?_) (fun c10_s => ?_)
          · replace t_s := t_s.1 c10_s
            refine w_t (pc := 16) (e_s := (0, 1, 0, 0, 0, .int 0, [])) (y_s := (17, [some (.ref _), some (.int _)], [.int _], _)) rfl (u_ rfl) ?_
            refine wrI (pc := 17) (len_s := 1) rfl hk ?_
            show wF _ 18 (40, [some (.ref _), some (.int _), some (.int _)], [.int _], _) _
            refine w_t (pc := 40) (e_s := (17, 3, 48, 0, 0, .null, [])) (y_s := (48, [some (.ref _), some (.int _), some (.int _)], [.int _], _)) rfl (u_ rfl) ?_
            exact wrI (pc := 48) (len_s := 1) rfl hk t_s
          · replace t_s := t_s.2 c10_s
            refine w_t (pc := 4) (e_s := (1, 1, 1, 0, 0, .null, [])) (y_s := (5, [some (.ref _), some (.int _)], [.int _], _)) rfl (u_ rfl) ?_
            refine w_t (pc := 5) (e_s := (3, 1, 0, 0, 0, .null, [])) (y_s := (6, [some (.ref _), some (.int _)], [.ref _, .int _], _)) rfl (u_ rfl) ?_
            refine w20 (pc := 6) (len_s := 3) rfl ?_
            refine wi3 (pc := 9) (len_s := 3) rfl rfl rfl (fun c11_s => ?_) (fun c11_s => ?_)
            · replace t_s := t_s.1 c11_s
              refine w_t (pc := 12) (e_s := (0, 1, 0, 0, 0, .int 1, [])) (y_s := (13, [some (.ref _), some (.int _)], [.int _], _)) rfl (u_ rfl) ?_
              refine w_t (pc := 13) (e_s := (17, 3, 17, 0, 0, .null, [])) (y_s := (17, [some (.ref _), some (.int _)], [.int _], _)) rfl (u_ rfl) ?_
              refine wrI (pc := 17) (len_s := 1) rfl hk ?_
              show wF _ 18 (40, [some (.ref _), some (.int _), some (.int _)], [.int _], _) _
              refine w_t (pc := 40) (e_s := (17, 3, 48, 0, 0, .null, [])) (y_s := (48, [some (.ref _), some (.int _), some (.int _)], [.int _], _)) rfl (u_ rfl) ?_
              exact wrI (pc := 48) (len_s := 1) rfl hk t_s
            · replace t_s := t_s.2 c11_s
              refine w_t (pc := 16) (e_s := (0, 1, 0, 0, 0, .int 0, [])) (y_s := (17, [some (.ref _), some (.int _)], [.int _], _)) rfl (u_ rfl) ?_
              refine wrI (pc := 17) (len_s := 1) rfl hk ?_
              show wF _ 18 (40, [some (.ref _), some (.int _), some (.int _)], [.int _], _) _
              refine w_t (pc := 40) (e_s := (17, 3, 48, 0, 0, .null, [])) (y_s := (48, [some (.ref _), some (.int _), some (.int _)], [.int _], _)) rfl (u_ rfl) ?_
              exact wrI (pc := 48) (len_s := 1) rfl hk t_s
      · replace t_s := t_s.2 c3_s
        refine w_t (pc := 17) (e_s := (3, 1, 0, 0, 0, .null, [])) (y_s := (18, [some (.ref _), some (.int _), some (.int _)], [.ref _], _)) rfl (u_ rfl) ?_
        refine w_t (pc := 18) (e_s := (1, 1, 1, 0, 0, .null, [])) (y_s := (19, [some (.ref _), some (.int _), some (.int _)], [.int _, .ref _], _)) rfl (u_ rfl) ?_
        refine wcI (pc := 19) (len_s := 3) rfl rfl (l := [some (.ref _), some (.int _)]) rfl ?_
        refine w_t (pc := 0) (e_s := (1, 1, 1, 0, 0, .null, [])) (y_s := (1, [some (.ref _), some (.int _)], [.int _], _)) rfl (u_ rfl) ?_
        refine wq2 (pc := 1) (len_s := 3) rfl rfl (fun c12_s => ?_) (fun c12_s => ?_)
        · replace t_s := t_s.1 c12_s
          refine w_t (pc := 16) (e_s := (0, 1, 0, 0, 0, .int 0, [])) (y_s := (17, [some (.ref _), some (.int _)], [.int _], _)) rfl (u_ rfl) ?_
          refine wrI (pc := 17) (len_s := 1) rfl hk ?_
          show wF _ 18 (22, [some (.ref _), some (.int _), some (.int _)], [.int _], _) _
          exact wrI (pc := 22) (len_s := 1) rfl hk t_s
        · replace t_s := t_s.2 c12_s
          refine w_t (pc := 4) (e_s := (1, 1, 1, 0, 0, .null, [])) (y_s := (5, [some (.ref _), some (.int _)], [.int _], _)) rfl (u_ rfl) ?_
          refine w_t (pc := 5) (e_s := (3, 1, 0, 0, 0, .null, [])) (y_s := (6, [some (.ref _), some (.int _)], [.ref _, .int _], _)) rfl (u_ rfl) ?_
          refine w20 (pc := 6) (len_s := 3) rfl ?_
          refine wi3 (pc := 9) (len_s := 3) rfl rfl rfl (fun c13_s => ?_) (fun c13_s => ?_)
          · replace t_s := t_s.1 c13_s
            refine w_t (pc := 12) (e_s := (0, 1, 0, 0, 0, .int 1, [])) (y_s := (13, [some (.ref _), some (.int _)], [.int _], _)) rfl (u_ rfl) ?_
            refine w_t (pc := 13) (e_s := (17, 3, 17, 0, 0, .null, [])) (y_s := (17, [some (.ref _), some (.int _)], [.int _], _)) rfl (u_ rfl) ?_
            refine wrI (pc := 17) (len_s := 1) rfl hk ?_
            show wF _ 18 (22, [some (.ref _), some (.int _), some (.int _)], [.int _], _) _
            exact wrI (pc := 22) (len_s := 1) rfl hk t_s
          · replace t_s := t_s.2 c13_s
            refine w_t (pc := 16) (e_s := (0, 1, 0, 0, 0, .int 0, [])) (y_s := (17, [some (.ref _), some (.int _)], [.int _], _)) rfl (u_ rfl) ?_
            refine wrI (pc := 17) (len_s := 1) rfl hk ?_
            show wF _ 18 (22, [some (.ref _), some (.int _), some (.int _)], [.int _], _) _
            exact wrI (pc := 22) (len_s := 1) rfl hk t_s
/-- ColdShod$Country.canBe(II)Z, from 0 on -/
theorem sg_19_0 {F_s : Nat} {x1_s x2_s : Int32} {h_s : zH} {K_s : Int32 → zH → Prop} (hk : hKn h_s) (t_s : (x1_s.toInt < 0 → K_s 0 h_s) ∧ (¬ x1_s.toInt < 0 → ((11 < x1_s.toInt → K_s 0 h_s) ∧ (¬ 11 < x1_s.toInt → ((x1_s.toInt = 8 → (zix x1_s < 12 → (x2_s.toInt < (h_s.2.1 2 (zix x1_s)).toInt → K_s 0 h_s) ∧ (¬ x2_s.toInt < (h_s.2.1 2 (zix x1_s)).toInt → ((((h_s.2.1 7 6) - 1).toInt < x2_s.toInt → K_s 0 h_s) ∧ (¬ ((h_s.2.1 7 6) - 1).toInt < x2_s.toInt → K_s 1 h_s))))) ∧ (¬ x1_s.toInt = 8 → (zix x1_s < 12 → (x2_s.toInt < (h_s.2.1 2 (zix x1_s)).toInt → K_s 0 h_s) ∧ (¬ x2_s.toInt < (h_s.2.1 2 (zix x1_s)).toInt → (((h_s.2.1 1 (zix x1_s)).toInt < x2_s.toInt → K_s 0 h_s) ∧ (¬ (h_s.2.1 1 (zix x1_s)).toInt < x2_s.toInt → K_s 1 h_s)))))))))) : wF (F_s + 1) 19 (0, [some (.ref 7), some (.int x1_s), some (.int x2_s), none], [], h_s) (gI K_s) := by
  refine w_0 (pc := 0) (e_s := (1, 1, 1, 0, 0, .null, [])) (y_s := (1, [some (.ref _), some (.int _), some (.int _), none], [.int _], _)) rfl (u_ rfl) ?_
  refine wq2 (pc := 1) (len_s := 3) rfl rfl (fun c1_s => ?_) (fun c1_s => ?_)
  · replace t_s := t_s.1 c1_s
    refine w_t (pc := 10) (e_s := (0, 1, 0, 0, 0, .int 0, [])) (y_s := (11, [some (.ref _), some (.int _), some (.int _), none], [.int _], _)) rfl (u_ rfl) ?_
    exact wrI (pc := 11) (len_s := 1) rfl hk t_s
  · replace t_s := t_s.2 c1_s
    refine w_t (pc := 4) (e_s := (1, 1, 1, 0, 0, .null, [])) (y_s := (5, [some (.ref _), some (.int _), some (.int _), none], [.int _], _)) rfl (u_ rfl) ?_
    refine w_t (pc := 5) (e_s := (0, 2, 0, 0, 0, .int 11, [])) (y_s := (7, [some (.ref _), some (.int _), some (.int _), none], [.int _, .int _], _)) rfl (u_ rfl) ?_
    refine wi5 (pc := 7) (len_s := 3) (Y := 11) rfl rfl (by decide) (fun c2_s => ?_) (fun c2_s => ?_)
    · replace t_s := t_s.1 c2_s
      refine w_t (pc := 10) (e_s := (0, 1, 0, 0, 0, .int 0, [])) (y_s := (11, [some (.ref _), some (.int _), some (.int _), none], [.int _], _)) rfl (u_ rfl) ?_
      exact wrI (pc := 11) (len_s := 1) rfl hk t_s
    · replace t_s := t_s.2 c2_s
      refine w_t (pc := 12) (e_s := (1, 1, 1, 0, 0, .null, [])) (y_s := (13, [some (.ref _), some (.int _), some (.int _), none], [.int _], _)) rfl (u_ rfl) ?_
      refine w_t (pc := 13) (e_s := (0, 2, 0, 0, 0, .int 8, [])) (y_s := (15, [some (.ref _), some (.int _), some (.int _), none], [.int _, .int _], _)) rfl (u_ rfl) ?_
      refine wi1 (pc := 15) (len_s := 3) (Y := 8) rfl rfl (by decide) (fun c3_s => ?_) (fun c3_s => ?_)
      · replace t_s := t_s.1 c3_s
        refine w_t (pc := 18) (e_s := (3, 1, 0, 0, 0, .null, [])) (y_s := (19, [some (.ref _), some (.int _), some (.int _), none], [.ref _], _)) rfl (u_ rfl) ?_
        refine w20 (pc := 19) (len_s := 3) rfl ?_
        refine w_t (pc := 22) (e_s := (0, 1, 0, 0, 0, .int 1, [])) (y_s := (23, [some (.ref _), some (.int _), some (.int _), none], [.int _, .int _], _)) rfl (u_ rfl) ?_
        refine w_t (pc := 23) (e_s := (7, 1, 0, 1, 0, .null, [])) (y_s := (24, [some (.ref _), some (.int _), some (.int _), none], [.int (_ - _)], _)) rfl (u_ rfl) ?_
        refine w_t (pc := 24) (e_s := (17, 3, 32, 0, 0, .null, [])) (y_s := (32, [some (.ref _), some (.int _), some (.int _), none], [.int _], _)) rfl (u_ rfl) ?_
        refine w_t (pc := 32) (e_s := (4, 1, 3, 0, 0, .null, [])) (y_s := (33, [some (.ref _), some (.int _), some (.int _), some (.int _)], [], _)) rfl (u_ rfl) ?_
        refine w_t (pc := 33) (e_s := (1, 1, 2, 0, 0, .null, [])) (y_s := (34, [some (.ref _), some (.int _), some (.int _), some (.int _)], [.int _], _)) rfl (u_ rfl) ?_
        refine w_t (pc := 34) (e_s := (43, 3, 2, 0, 1, .null, [(0, 4)])) (y_s := (37, [some (.ref _), some (.int _), some (.int _), some (.int _)], [.ref _, .int _], _)) rfl (u_ rfl) ?_
        refine w_t (pc := 37) (e_s := (1, 1, 1, 0, 0, .null, [])) (y_s := (38, [some (.ref _), some (.int _), some (.int _), some (.int _)], [.int _, .ref _, .int _], _)) rfl (u_ rfl) ?_
        refine w22 (pc := 38) (len_s := 1) rfl (hk.1 2 5 12 rfl rfl) (fun c4_s => ?_)
        replace t_s := t_s c4_s
        refine wi2 (pc := 39) (len_s := 3) rfl rfl rfl (fun c5_s => ?_) (fun c5_s => ?_)
        · replace t_s := t_s.1 c5_s
          refine w_t (pc := 51) (e_s := (0, 1, 0, 0, 0, .int 0, [])) (y_s := (52, [some (.ref _), some (.int _), some (.int _), some (.int _)], [.int _], _)) rfl (u_ rfl) ?_
          exact wrI (pc := 52) (len_s := 1) rfl hk t_s
        · replace t_s := t_s.2 c5_s
          refine w_t (pc := 42) (e_s := (1, 1, 2, 0, 0, .null, [])) (y_s := (43, [some (.ref _), some (.int _), some (.int _), some (.int _)], [.int _], _)) rfl (u_ rfl) ?_
          refine w_t (pc := 43) (e_s := (1, 1, 3, 0, 0, .null, [])) (y_s := (44, [some (.ref _), some (.int _), some (.int _), some (.int _)], [.int _, .int _], _)) rfl (u_ rfl) ?_
          refine wi4 (pc := 44) (len_s := 3) rfl rfl rfl (fun c6_s => ?_) (fun c6_s => ?_)
          · replace t_s := t_s.1 c6_s
            refine w_t (pc := 51) (e_s := (0, 1, 0, 0, 0, .int 0, [])) (y_s := (52, [some (.ref _), some (.int _), some (.int _), some (.int _)], [.int _], _)) rfl (u_ rfl) ?_
            exact wrI (pc := 52) (len_s := 1) rfl hk t_s
          · replace t_s := t_s.2 c6_s
            refine w_t (pc := 47) (e_s := (0, 1, 0, 0, 0, .int 1, [])) (y_s := (48, [some (.ref _), some (.int _), some (.int _), some (.int _)], [.int _], _)) rfl (u_ rfl) ?_
            refine w_t (pc := 48) (e_s := (17, 3, 52, 0, 0, .null, [])) (y_s := (52, [some (.ref _), some (.int _), some (.int _), some (.int _)], [.int _], _)) rfl (u_ rfl) ?_
            exact wrI (pc := 52) (len_s := 1) rfl hk t_s
      · replace t_s := t_s.2 c3_s
        refine w_t (pc := 27) (e_s := (43, 3, 1, 0, 1, .null, [(0, 3)])) (y_s := (30, [some (.ref _), some (.int _), some (.int _), none], [.ref _], _)) rfl (u_ rfl) ?_
        refine w_t (pc := 30) (e_s := (1, 1, 1, 0, 0, .null, [])) (y_s := (31, [some (.ref _), some (.int _), some (.int _), none], [.int _, .ref _], _)) rfl (u_ rfl) ?_
        refine w22 (pc := 31) (len_s := 1) rfl (hk.1 1 5 12 rfl rfl) (fun c7_s => ?_)
        replace t_s := t_s c7_s
        refine w_t (pc := 32) (e_s := (4, 1, 3, 0, 0, .null, [])) (y_s := (33, [some (.ref _), some (.int _), some (.int _), some (.int _)], [], _)) rfl (u_ rfl) ?_
        refine w_t (pc := 33) (e_s := (1, 1, 2, 0, 0, .null, [])) (y_s := (34, [some (.ref _), some (.int _), some (.int _), some (.int _)], [.int _], _)) rfl (u_ rfl) ?_
        refine w_t (pc := 34) (e_s := (43, 3, 2, 0, 1, .null, [(0, 4)])) (y_s := (37, [some (.ref _), some (.int _), some (.int _), some (.int _)], [.ref _, .int _], _)) rfl (u_ rfl) ?_
        refine w_t (pc := 37) (e_s := (1, 1, 1, 0, 0, .null, [])) (y_s := (38, [some (.ref _), some (.int _), some (.int _), some (.int _)], [.int _, .ref _, .int _], _)) rfl (u_ rfl) ?_
        refine w22 (pc := 38) (len_s := 1) rfl (hk.1 2 5 12 rfl rfl) (fun c8_s => ?_)
        refine wi2 (pc := 39) (len_s := 3) rfl rfl rfl (fun c9_s => ?_) (fun c9_s => ?_)
        · replace t_s := t_s.1 c9_s
          refine w_t (pc := 51) (e_s := (0, 1, 0, 0, 0, .int 0, [])) (y_s := (52, [some (.ref _), some (.int _), some (.int _), some (.int _)], [.int _], _)) rfl (u_ rfl) ?_
          exact wrI (pc := 52) (len_s := 1) rfl hk t_s
        · replace t_s := t_s.2 c9_s
          refine w_t (pc := 42) (e_s := (1, 1, 2, 0, 0, .null, [])) (y_s := (43, [some (.ref _), some (.int _), some (.int _), some (.int _)], [.int _], _)) rfl (u_ rfl) ?_
          refine w_t (pc := 43) (e_s := (1, 1, 3, 0, 0, .null, [])) (y_s := (44, [some (.ref _), some (.int _), some (.int _), some (.int _)], [.int _, .int _], _)) rfl (u_ rfl) ?_
          refine wi4 (pc := 44) (len_s := 3) rfl rfl rfl (fun c10_s => ?_) (fun c10_s => ?_)
          · replace t_s := t_s.1 c10_s
            refine w_t (pc := 51) (e_s := (0, 1, 0, 0, 0, .int 0, [])) (y_s := (52, [some (.ref _), some (.int _), some (.int _), some (.int _)], [.int _], _)) rfl (u_ rfl) ?_
            exact wrI (pc := 52) (len_s := 1) rfl hk t_s
          · replace t_s := t_s.2 c10_s
            refine w_t (pc := 47) (e_s := (0, 1, 0, 0, 0, .int 1, [])) (y_s := (48, [some (.ref _), some (.int _), some (.int _), some (.int _)], [.int _], _)) rfl (u_ rfl) ?_
            refine w_t (pc := 48) (e_s := (17, 3, 52, 0, 0, .null, [])) (y_s := (52, [some (.ref _), some (.int _), some (.int _), some (.int _)], [.int _], _)) rfl (u_ rfl) ?_
            exact wrI (pc := 52) (len_s := 1) rfl hk t_s
/-- ColdShod$Country.numberOf(II)I, from 0 on -/
theorem sg_20_0 {F_s : Nat} {x1_s x2_s : Int32} {h_s : zH} {K_s : Int32 → zH → Prop} (hk : hKn h_s) (t_s : wF F_s 18 (0, [some (.ref 7), some (.int x1_s), some (.int x2_s)], [], h_s) (gI (fun v1_s h1 => hKn h1 → (v1_s.toInt = 0 → K_s (-2000000000) h1) ∧ (¬ v1_s.toInt = 0 → ((x2_s.toInt = 0 → (zix x1_s < 6 → K_s (h1.2.1 8 (zix x1_s)) h1)) ∧ (¬ x2_s.toInt = 0 → (x2_s.toInt = 1 → (zix x1_s < 6 → K_s (h1.2.1 9 (zix x1_s)) h1)) ∧ (¬ x2_s.toInt = 1 → (x2_s.toInt = 2 → (zix x1_s < 8 → K_s (h1.2.1 (20 + (zix x1_s)) 0) h1)) ∧ (¬ x2_s.toInt = 2 → (x2_s.toInt = 3 → (zix x1_s < 8 → K_s (h1.2.1 (20 + (zix x1_s)) 1) h1)) ∧ (¬ x2_s.toInt = 3 → (x2_s.toInt = 4 → (zix x1_s < 8 → K_s (h1.2.1 (20 + (zix x1_s)) 2) h1)) ∧ (¬ x2_s.toInt = 4 → (x2_s.toInt = 5 → (zix x1_s < 8 → K_s (h1.2.1 (20 + (zix x1_s)) 3) h1)) ∧ (¬ x2_s.toInt = 5 → (x2_s.toInt = 6 → (zix x1_s < 8 → K_s (h1.2.1 (20 + (zix x1_s)) 4) h1)) ∧ (¬ x2_s.toInt = 6 → (x2_s.toInt = 7 → (zix x1_s < 8 → K_s (h1.2.1 (20 + (zix x1_s)) 5) h1)) ∧ (¬ x2_s.toInt = 7 → (x2_s.toInt = 8 → (zix x1_s < 8 → K_s (h1.2.1 (20 + (zix x1_s)) 6) h1)) ∧ (¬ x2_s.toInt = 8 → (x2_s.toInt = 9 → (zix x1_s < 12 → K_s (h1.2.1 (28 + (zix x1_s)) 2) h1)) ∧ (¬ x2_s.toInt = 9 → (x2_s.toInt = 10 → (zix x1_s < 12 → K_s (h1.2.1 (28 + (zix x1_s)) 3) h1)) ∧ (¬ x2_s.toInt = 10 → (x2_s.toInt = 11 → (zix x1_s < 12 → K_s (h1.2.1 (28 + (zix x1_s)) 4) h1)) ∧ (¬ x2_s.toInt = 11 → (x2_s.toInt = 12 → (zix x1_s < 12 → K_s (h1.2.1 (28 + (zix x1_s)) 0) h1)) ∧ (¬ x2_s.toInt = 12 → (x2_s.toInt = 13 → (zix x1_s < 12 → K_s (h1.2.1 (28 + (zix x1_s)) 1) h1)) ∧ (¬ x2_s.toInt = 13 → (x2_s.toInt = 14 → (zix x1_s < 8 → K_s (9 - ((h1.2.1 (20 + (zix x1_s)) 2) / 11)) h1)) ∧ (¬ x2_s.toInt = 14 → K_s (-2000000000) h1)))))))))))))))))))) : wF (F_s + 1) 20 (0, [some (.ref 7), some (.int x1_s), some (.int x2_s)], [], h_s) (gI K_s) := by
  refine w_0 (pc := 0) (e_s := (3, 1, 0, 0, 0, .null, [])) (y_s := (1, [some (.ref _), some (.int _), some (.int _)], [.ref _], _)) rfl (u_ rfl) ?_
  refine w_t (pc := 1) (e_s := (1, 1, 1, 0, 0, .null, [])) (y_s := (2, [some (.ref _), some (.int _), some (.int _)], [.int _, .ref _], _)) rfl (u_ rfl) ?_
  refine w_t (pc := 2) (e_s := (1, 1, 2, 0, 0, .null, [])) (y_s := (3, [some (.ref _), some (.int _), some (.int _)], [.int _, .int _, .ref _], _)) rfl (u_ rfl) ?_
  refine wcI (pc := 3) (len_s := 3) rfl rfl (l := [some (.ref _), some (.int _), some (.int _)]) rfl (wmI t_s (fun v1_s h1 hk t_s => ?_))
  replace t_s := t_s hk
  refine wq1 (pc := 6) (len_s := 3) rfl rfl (fun c2_s => ?_) (fun c2_s => ?_)
  · replace t_s := t_s.1 c2_s
    refine w_t (pc := 9) (e_s := (0, 2, 0, 0, 0, .int (-2000000000), [(0, 763)])) (y_s := (11, [some (.ref _), some (.int _), some (.int _)], [.int _], _)) rfl (u_ rfl) ?_
    exact wrI (pc := 11) (len_s := 1) rfl hk t_s
  · replace t_s := t_s.2 c2_s
    refine w_t (pc := 12) (e_s := (1, 1, 2, 0, 0, .null, [])) (y_s := (13, [some (.ref _), some (.int _), some (.int _)], [.int _], _)) rfl (u_ rfl) ?_
    refine wsw (pc := 13) (len_s := 75) rfl ?_
    refine wsc (X_s := 0) rfl (by decide) (fun c3_s => ?_) (fun c3_s => ?_)
    · replace t_s := t_s.1 c3_s
      refine w_t (pc := 88) (e_s := (3, 1, 0, 0, 0, .null, [])) (y_s := (89, [some (.ref _), some (.int _), some (.int _)], [.ref _], _)) rfl (u_ rfl) ?_
      refine w20r (pc := 89) (len_s := 3) (q_s := 8) rfl (krq hk rfl) ?_
      refine w_t (pc := 92) (e_s := (1, 1, 1, 0, 0, .null, [])) (y_s := (93, [some (.ref _), some (.int _), some (.int _)], [.int _, .ref _], _)) rfl (u_ rfl) ?_
      refine w22 (pc := 93) (len_s := 1) rfl (hk.1 8 0 6 rfl rfl) (fun c4_s => ?_)
      replace t_s := t_s c4_s
      exact wrI (pc := 94) (len_s := 1) rfl hk t_s
    · replace t_s := t_s.2 c3_s
      refine wsc (X_s := 1) rfl (by decide) (fun c5_s => ?_) (fun c5_s => ?_)
      · replace t_s := t_s.1 c5_s
        refine w_t (pc := 95) (e_s := (3, 1, 0, 0, 0, .null, [])) (y_s := (96, [some (.ref _), some (.int _), some (.int _)], [.ref _], _)) rfl (u_ rfl) ?_
        refine w20r (pc := 96) (len_s := 3) (q_s := 9) rfl (krq hk rfl) ?_
        refine w_t (pc := 99) (e_s := (1, 1, 1, 0, 0, .null, [])) (y_s := (100, [some (.ref _), some (.int _), some (.int _)], [.int _, .ref _], _)) rfl (u_ rfl) ?_
        refine w22 (pc := 100) (len_s := 1) rfl (hk.1 9 0 6 rfl rfl) (fun c6_s => ?_)
        replace t_s := t_s c6_s
        exact wrI (pc := 101) (len_s := 1) rfl hk t_s
      · replace t_s := t_s.2 c5_s
        refine wsc (X_s := 2) rfl (by decide) (fun c7_s => ?_) (fun c7_s => ?_)
        · replace t_s := t_s.1 c7_s
          refine w_t (pc := 102) (e_s := (3, 1, 0, 0, 0, .null, [])) (y_s := (103, [some (.ref _), some (.int _), some (.int _)], [.ref _], _)) rfl (u_ rfl) ?_
          refine w20r (pc := 103) (len_s := 3) (q_s := 10) rfl (krq hk rfl) ?_
          refine w_t (pc := 106) (e_s := (1, 1, 1, 0, 0, .null, [])) (y_s := (107, [some (.ref _), some (.int _), some (.int _)], [.int _, .ref _], _)) rfl (u_ rfl) ?_
          refine w24 (g_s := fun j_ => 20 + j_) (pc := 107) (len_s := 1) hk rfl (hk.1 10 2 8 rfl rfl) kg10 (fun c8_s => ?_)
          replace t_s := t_s c8_s
          refine w20 (pc := 108) (len_s := 3) rfl ?_
          exact wrI (pc := 111) (len_s := 1) rfl hk t_s
        · replace t_s := t_s.2 c7_s
          refine wsc (X_s := 3) rfl (by decide) (fun c9_s => ?_) (fun c9_s => ?_)
          · replace t_s := t_s.1 c9_s
            refine w_t (pc := 112) (e_s := (3, 1, 0, 0, 0, .null, [])) (y_s := (113, [some (.ref _), some (.int _), some (.int _)], [.ref _], _)) rfl (u_ rfl) ?_
            refine w20r (pc := 113) (len_s := 3) (q_s := 10) rfl (krq hk rfl) ?_
            refine w_t (pc := 116) (e_s := (1, 1, 1, 0, 0, .null, [])) (y_s := (117, [some (.ref _), some (.int _), some (.int _)], [.int _, .ref _], _)) rfl (u_ rfl) ?_
            refine w24 (g_s := fun j_ => 20 + j_) (pc := 117) (len_s := 1) hk rfl (hk.1 10 2 8 rfl rfl) kg10 (fun c10_s => ?_)
            replace t_s := t_s c10_s
            refine w20 (pc := 118) (len_s := 3) rfl ?_
            exact wrI (pc := 121) (len_s := 1) rfl hk t_s
          · replace t_s := t_s.2 c9_s
            refine wsc (X_s := 4) rfl (by decide) (fun c11_s => ?_) (fun c11_s => ?_)
            · replace t_s := t_s.1 c11_s
              refine w_t (pc := 122) (e_s := (3, 1, 0, 0, 0, .null, [])) (y_s := (123, [some (.ref _), some (.int _), some (.int _)], [.ref _], _)) rfl (u_ rfl) ?_
              refine w20r (pc := 123) (len_s := 3) (q_s := 10) rfl (krq hk rfl) ?_
              refine w_t (pc := 126) (e_s := (1, 1, 1, 0, 0, .null, [])) (y_s := (127, [some (.ref _), some (.int _), some (.int _)], [.int _, .ref _], _)) rfl (u_ rfl) ?_
              refine w24 (g_s := fun j_ => 20 + j_) (pc := 127) (len_s := 1) hk rfl (hk.1 10 2 8 rfl rfl) kg10 (fun c12_s => ?_)
              replace t_s := t_s c12_s
              refine w20 (pc := 128) (len_s := 3) rfl ?_
              exact wrI (pc := 131) (len_s := 1) rfl hk t_s
            · replace t_s := t_s.2 c11_s
              refine wsc (X_s := 5) rfl (by decide) (fun c13_s => ?_) (fun c13_s => ?_)
              · replace t_s := t_s.1 c13_s
                refine w_t (pc := 132) (e_s := (3, 1, 0, 0, 0, .null, [])) (y_s := (133, [some (.ref _), some (.int _), some (.int _)], [.ref _], _)) rfl (u_ rfl) ?_
                refine w20r (pc := 133) (len_s := 3) (q_s := 10) rfl (krq hk rfl) ?_
                refine w_t (pc := 136) (e_s := (1, 1, 1, 0, 0, .null, [])) (y_s := (137, [some (.ref _), some (.int _), some (.int _)], [.int _, .ref _], _)) rfl (u_ rfl) ?_
                refine w24 (g_s := fun j_ => 20 + j_) (pc := 137) (len_s := 1) hk rfl (hk.1 10 2 8 rfl rfl) kg10 (fun c14_s => ?_)
                replace t_s := t_s c14_s
                refine w20 (pc := 138) (len_s := 3) rfl ?_
                exact wrI (pc := 141) (len_s := 1) rfl hk t_s
              · replace t_s := t_s.2 c13_s
                refine wsc (X_s := 6) rfl (by decide) (fun c15_s => ?_) (fun c15_s => ?_)
                · replace t_s := t_s.1 c15_s
                  refine w_t (pc := 142) (e_s := (3, 1, 0, 0, 0, .null, [])) (y_s := (143, [some (.ref _), some (.int _), some (.int _)], [.ref _], _)) rfl (u_ rfl) ?_
                  refine w20r (pc := 143) (len_s := 3) (q_s := 10) rfl (krq hk rfl) ?_
                  refine w_t (pc := 146) (e_s := (1, 1, 1, 0, 0, .null, [])) (y_s := (147, [some (.ref _), some (.int _), some (.int _)], [.int _, .ref _], _)) rfl (u_ rfl) ?_
                  refine w24 (g_s := fun j_ => 20 + j_) (pc := 147) (len_s := 1) hk rfl (hk.1 10 2 8 rfl rfl) kg10 (fun c16 => ?_)
                  replace t_s := t_s c16
                  refine w20 (pc := 148) (len_s := 3) rfl ?_
                  exact wrI (pc := 151) (len_s := 1) rfl hk t_s
                · replace t_s := t_s.2 c15_s
                  refine wsc (X_s := 7) rfl (by decide) (fun c17 => ?_) (fun c17 => ?_)
                  · replace t_s := t_s.1 c17
                    refine w_t (pc := 152) (e_s := (3, 1, 0, 0, 0, .null, [])) (y_s := (153, [some (.ref _), some (.int _), some (.int _)], [.ref _], _)) rfl (u_ rfl) ?_
                    refine w20r (pc := 153) (len_s := 3) (q_s := 10) rfl (krq hk rfl) ?_
                    refine w_t (pc := 156) (e_s := (1, 1, 1, 0, 0, .null, [])) (y_s := (157, [some (.ref _), some (.int _), some (.int _)], [.int _, .ref _], _)) rfl (u_ rfl) ?_
                    refine w24 (g_s := fun j_ => 20 + j_) (pc := 157) (len_s := 1) hk rfl (hk.1 10 2 8 rfl rfl) kg10 (fun c18_s => ?_)
                    replace t_s := t_s c18_s
                    refine w20 (pc := 158) (len_s := 3) rfl ?_
                    exact wrI (pc := 161) (len_s := 1) rfl hk t_s
                  · replace t_s := t_s.2 c17
                    refine wsc (X_s := 8) rfl (by decide) (fun c19_s => ?_) (fun c19_s => ?_)
                    · replace t_s := t_s.1 c19_s
                      refine w_t (pc := 162) (e_s := (3, 1, 0, 0, 0, .null, [])) (y_s := (163, [some (.ref _), some (.int _), some (.int _)], [.ref _], _)) rfl (u_ rfl) ?_
                      refine w20r (pc := 163) (len_s := 3) (q_s := 10) rfl (krq hk rfl) ?_
                      refine w_t (pc := 166) (e_s := (1, 1, 1, 0, 0, .null, [])) (y_s := (167, [some (.ref _), some (.int _), some (.int _)], [.int _, .ref _], _)) rfl (u_ rfl) ?_
                      refine w24 (g_s := fun j_ => 20 + j_) (pc := 167) (len_s := 1) hk rfl (hk.1 10 2 8 rfl rfl) kg10 (fun c20_s => ?_)
                      replace t_s := t_s c20_s
                      refine w20 (pc := 168) (len_s := 3) rfl ?_
                      exact wrI (pc := 171) (len_s := 1) rfl hk t_s
                    · replace t_s := t_s.2 c19_s
                      refine wsc (X_s := 9) rfl (by decide) (fun c21 => ?_) (fun c21 => ?_)
                      · replace t_s := t_s.1 c21
                        refine w_t (pc := 172) (e_s := (3, 1, 0, 0, 0, .null, [])) (y_s := (173, [some (.ref _), some (.int _), some (.int _)], [.ref _], _)) rfl (u_ rfl) ?_
                        refine w20r (pc := 173) (len_s := 3) (q_s := 11) rfl (krq hk rfl) ?_
                        refine w_t (pc := 176) (e_s := (1, 1, 1, 0, 0, .null, [])) (y_s := (177, [some (.ref _), some (.int _), some (.int _)], [.int _, .ref _], _)) rfl (u_ rfl) ?_
                        refine w24 (g_s := fun j_ => 28 + j_) (pc := 177) (len_s := 1) hk rfl (hk.1 11 3 12 rfl rfl) kg11 (fun c22 => ?_)
                        replace t_s := t_s c22
                        refine w20 (pc := 178) (len_s := 3) rfl ?_
                        exact wrI (pc := 181) (len_s := 1) rfl hk t_s
                      · replace t_s := t_s.2 c21
                        refine wsc (X_s := 10) rfl (by decide) (fun c23_s => ?_) (fun c23_s => ?_)
                        · replace t_s := t_s.1 c23_s
                          refine w_t (pc := 182) (e_s := (3, 1, 0, 0, 0, .null, [])) (y_s := (183, [some (.ref _), some (.int _), some (.int _)], [.ref _], _)) rfl (u_ rfl) ?_
                          refine w20r (pc := 183) (len_s := 3) (q_s := 11) rfl (krq hk rfl) ?_
                          refine w_t (pc := 186) (e_s := (1, 1, 1, 0, 0, .null, [])) (y_s := (187, [some (.ref _), some (.int _), some (.int _)], [.int _, .ref _], _)) rfl (u_ rfl) ?_
                          refine w24 (g_s := fun j_ => 28 + j_) (pc := 187) (len_s := 1) hk rfl (hk.1 11 3 12 rfl rfl) kg11 (fun c24_s => ?_)
                          replace t_s := t_s c24_s
                          refine w20 (pc := 188) (len_s := 3) rfl ?_
                          exact wrI (pc := 191) (len_s := 1) rfl hk t_s
                        · replace t_s := t_s.2 c23_s
                          refine wsc (X_s := 11) rfl (by decide) (fun c25_s => ?_) (fun c25_s => ?_)
                          · replace t_s := t_s.1 c25_s
                            refine w_t (pc := 192) (e_s := (3, 1, 0, 0, 0, .null, [])) (y_s := (193, [some (.ref _), some (.int _), some (.int _)], [.ref _], _)) rfl (u_ rfl) ?_
                            refine w20r (pc := 193) (len_s := 3) (q_s := 11) rfl (krq hk rfl) ?_
                            refine w_t (pc := 196) (e_s := (1, 1, 1, 0, 0, .null, [])) (y_s := (197, [some (.ref _), some (.int _), some (.int _)], [.int _, .ref _], _)) rfl (u_ rfl) ?_
                            refine w24 (g_s := fun j_ => 28 + j_) (pc := 197) (len_s := 1) hk rfl (hk.1 11 3 12 rfl rfl) kg11 (fun c26 => ?_)
                            replace t_s := t_s c26
                            refine w20 (pc := 198) (len_s := 3) rfl ?_
                            exact wrI (pc := 201) (len_s := 1) rfl hk t_s
                          · replace t_s := t_s.2 c25_s
                            refine wsc (X_s := 12) rfl (by decide) (fun c27_s => ?_) (fun c27_s => ?_)
                            · replace t_s := t_s.1 c27_s
                              refine w_t (pc := 202) (e_s := (3, 1, 0, 0, 0, .null, [])) (y_s := (203, [some (.ref _), some (.int _), some (.int _)], [.ref _], _)) rfl (u_ rfl) ?_
                              refine w20r (pc := 203) (len_s := 3) (q_s := 11) rfl (krq hk rfl) ?_
                              refine w_t (pc := 206) (e_s := (1, 1, 1, 0, 0, .null, [])) (y_s := (207, [some (.ref _), some (.int _), some (.int _)], [.int _, .ref _], _)) rfl (u_ rfl) ?_
                              refine w24 (g_s := fun j_ => 28 + j_) (pc := 207) (len_s := 1) hk rfl (hk.1 11 3 12 rfl rfl) kg11 (fun c28_s => ?_)
                              replace t_s := t_s c28_s
                              refine w20 (pc := 208) (len_s := 3) rfl ?_
                              exact wrI (pc := 211) (len_s := 1) rfl hk t_s
                            · replace t_s := t_s.2 c27_s
                              refine wsc (X_s := 13) rfl (by decide) (fun c29_s => ?_) (fun c29_s => ?_)
                              · replace t_s := t_s.1 c29_s
                                refine w_t (pc := 212) (e_s := (3, 1, 0, 0, 0, .null, [])) (y_s := (213, [some (.ref _), some (.int _), some (.int _)], [.ref _], _)) rfl (u_ rfl) ?_
                                refine w20r (pc := 213) (len_s := 3) (q_s := 11) rfl (krq hk rfl) ?_
                                refine w_t (pc := 216) (e_s := (1, 1, 1, 0, 0, .null, [])) (y_s := (217, [some (.ref _), some (.int _), some (.int _)], [.int _, .ref _], _)) rfl (u_ rfl) ?_
                                refine w24 (g_s := fun j_ => 28 + j_) (pc := 217) (len_s := 1) hk rfl (hk.1 11 3 12 rfl rfl) kg11 (fun c30_s => ?_)
                                replace t_s := t_s c30_s
                                refine w20 (pc := 218) (len_s := 3) rfl ?_
                                exact wrI (pc := 221) (len_s := 1) rfl hk t_s
                              · replace t_s := t_s.2 c29_s
                                refine wsc (X_s := 14) rfl (by decide) (fun c31_s => ?_) (fun c31_s => ?_)
                                · replace t_s := t_s.1 c31_s
                                  refine w_t (pc := 222) (e_s := (3, 1, 0, 0, 0, .null, [])) (y_s := (223, [some (.ref _), some (.int _), some (.int _)], [.ref _], _)) rfl (u_ rfl) ?_
                                  refine w20r (pc := 223) (len_s := 3) (q_s := 10) rfl (krq hk rfl) ?_
                                  refine w_t (pc := 226) (e_s := (1, 1, 1, 0, 0, .null, [])) (y_s := (227, [some (.ref _), some (.int _), some (.int _)], [.int _, .ref _], _)) rfl (u_ rfl) ?_
                                  refine w24 (g_s := fun j_ => 20 + j_) (pc := 227) (len_s := 1) hk rfl (hk.1 10 2 8 rfl rfl) kg10 (fun c32_s => ?_)
                                  replace t_s := t_s c32_s
                                  refine wcI (pc := 228) (len_s := 3) rfl rfl (l := [some (.ref _)]) rfl ?_
                                  refine w_t (pc := 0) (e_s := (0, 2, 0, 0, 0, .int 9, [])) (y_s := (2, [some (.ref _)], [.int _], _)) rfl (u_ rfl) ?_
                                  refine w_t (pc := 2) (e_s := (3, 1, 0, 0, 0, .null, [])) (y_s := (3, [some (.ref _)], [.ref _, .int _], _)) rfl (u_ rfl) ?_
                                  refine w20 (pc := 3) (len_s := 3) rfl ?_
                                  refine w_t (pc := 6) (e_s := (0, 2, 0, 0, 0, .int 11, [])) (y_s := (8, [some (.ref _)], [.int _, .int _, .int _], _)) rfl (u_ rfl) ?_
                                  refine w8 (pc := 8) (len_s := 1) rfl ?_
                                  refine w_t (pc := 9) (e_s := (7, 1, 0, 1, 0, .null, [])) (y_s := (10, [some (.ref _)], [.int (_ - _)], _)) rfl (u_ rfl) ?_
                                  refine wrI (pc := 10) (len_s := 1) rfl hk ?_
                                  show wF _ 20 (231, [some (.ref _), some (.int _), some (.int _)], [.int _], _) _
                                  exact wrI (pc := 231) (len_s := 1) rfl hk t_s
                                · replace t_s := t_s.2 c31_s
                                  show wF _ _ (232, _, _, _) _
                                  refine w_t (pc := 232) (e_s := (0, 2, 0, 0, 0, .int (-2000000000), [(0, 763)])) (y_s := (234, [some (.ref _), some (.int _), some (.int _)], [.int _], _)) rfl (u_ rfl) ?_
                                  exact wrI (pc := 234) (len_s := 1) rfl hk t_s
/-- ColdShod$Country.setNumber(III)V, from 0 on -/
theorem sg_21_0 {F_s : Nat} {x1_s x2_s x3 : Int32} {h_s : zH} {K_s : zH → Prop} (hk : hKn h_s) (t_s : wF F_s 18 (0, [some (.ref 7), some (.int x1_s), some (.int x2_s)], [], h_s) (gI (fun v1_s h1 => hKn h1 → (v1_s.toInt = 0 → K_s h1) ∧ (¬ v1_s.toInt = 0 → ((x2_s.toInt = 0 → (zix x1_s < 6 → K_s (h1.1, zup h1.2.1 8 (zix x1_s) x3, h1.2.2.1, h1.2.2.2))) ∧ (¬ x2_s.toInt = 0 → (x2_s.toInt = 1 → (zix x1_s < 6 → K_s (h1.1, zup h1.2.1 9 (zix x1_s) x3, h1.2.2.1, h1.2.2.2))) ∧ (¬ x2_s.toInt = 1 → (x2_s.toInt = 2 → (zix x1_s < 8 → K_s (h1.1, zup h1.2.1 (20 + (zix x1_s)) 0 x3, h1.2.2.1, h1.2.2.2))) ∧ (¬ x2_s.toInt = 2 → (x2_s.toInt = 3 → (zix x1_s < 8 → K_s (h1.1, zup h1.2.1 (20 + (zix x1_s)) 1 x3, h1.2.2.1, h1.2.2.2))) ∧ (¬ x2_s.toInt = 3 → (x2_s.toInt = 4 → (zix x1_s < 8 → K_s (h1.1, zup h1.2.1 (20 + (zix x1_s)) 2 x3, h1.2.2.1, h1.2.2.2))) ∧ (¬ x2_s.toInt = 4 → (x2_s.toInt = 5 → (zix x1_s < 8 → K_s (h1.1, zup h1.2.1 (20 + (zix x1_s)) 3 x3, h1.2.2.1, h1.2.2.2))) ∧ (¬ x2_s.toInt = 5 → (x2_s.toInt = 6 → (zix x1_s < 8 → K_s (h1.1, zup h1.2.1 (20 + (zix x1_s)) 4 x3, h1.2.2.1, h1.2.2.2))) ∧ (¬ x2_s.toInt = 6 → (x2_s.toInt = 7 → (zix x1_s < 8 → K_s (h1.1, zup h1.2.1 (20 + (zix x1_s)) 5 x3, h1.2.2.1, h1.2.2.2))) ∧ (¬ x2_s.toInt = 7 → (x2_s.toInt = 8 → (zix x1_s < 8 → K_s (h1.1, zup h1.2.1 (20 + (zix x1_s)) 6 x3, h1.2.2.1, h1.2.2.2))) ∧ (¬ x2_s.toInt = 8 → (x2_s.toInt = 9 → (zix x1_s < 12 → K_s (h1.1, zup h1.2.1 (28 + (zix x1_s)) 2 x3, h1.2.2.1, h1.2.2.2))) ∧ (¬ x2_s.toInt = 9 → (x2_s.toInt = 10 → (zix x1_s < 12 → K_s (h1.1, zup h1.2.1 (28 + (zix x1_s)) 3 x3, h1.2.2.1, h1.2.2.2))) ∧ (¬ x2_s.toInt = 10 → (x2_s.toInt = 11 → (zix x1_s < 12 → K_s (h1.1, zup h1.2.1 (28 + (zix x1_s)) 4 x3, h1.2.2.1, h1.2.2.2))) ∧ (¬ x2_s.toInt = 11 → K_s h1))))))))))))))))) : wF (F_s + 1) 21 (0, [some (.ref 7), some (.int x1_s), some (.int x2_s), some (.int x3)], [], h_s) (gV K_s) := by
  refine w_0 (pc := 0) (e_s := (3, 1, 0, 0, 0, .null, [])) (y_s := (1, [some (.ref _), some (.int _), some (.int _), some (.int _)], [.ref _], _)) rfl (u_ rfl) ?_
  refine w_t (pc := 1) (e_s := (1, 1, 1, 0, 0, .null, [])) (y_s := (2, [some (.ref _), some (.int _), some (.int _), some (.int _)], [.int _, .ref _], _)) rfl (u_ rfl) ?_
  refine w_t (pc := 2) (e_s := (1, 1, 2, 0, 0, .null, [])) (y_s := (3, [some (.ref _), some (.int _), some (.int _), some (.int _)], [.int _, .int _, .ref _], _)) rfl (u_ rfl) ?_
  refine wcI (pc := 3) (len_s := 3) rfl rfl (l := [some (.ref _), some (.int _), some (.int _)]) rfl (wmI t_s (fun v1_s h1 hk t_s => ?_))
  replace t_s := t_s hk
  refine wq1 (pc := 6) (len_s := 3) rfl rfl (fun c2_s => ?_) (fun c2_s => ?_)
  · replace t_s := t_s.1 c2_s
    exact wrV (pc := 9) (len_s := 1) rfl hk t_s
  · replace t_s := t_s.2 c2_s
    refine w_t (pc := 10) (e_s := (1, 1, 2, 0, 0, .null, [])) (y_s := (11, [some (.ref _), some (.int _), some (.int _), some (.int _)], [.int _], _)) rfl (u_ rfl) ?_
    refine wsw (pc := 11) (len_s := 61) rfl ?_
    refine wsc (X_s := 0) rfl (by decide) (fun c3_s => ?_) (fun c3_s => ?_)
    · replace t_s := t_s.1 c3_s
      refine w_t (pc := 72) (e_s := (3, 1, 0, 0, 0, .null, [])) (y_s := (73, [some (.ref _), some (.int _), some (.int _), some (.int _)], [.ref _], _)) rfl (u_ rfl) ?_
      refine w20r (pc := 73) (len_s := 3) (q_s := 8) rfl (krq hk rfl) ?_
      refine w_t (pc := 76) (e_s := (1, 1, 1, 0, 0, .null, [])) (y_s := (77, [some (.ref _), some (.int _), some (.int _), some (.int _)], [.int _, .ref _], _)) rfl (u_ rfl) ?_
      refine w_t (pc := 77) (e_s := (1, 1, 3, 0, 0, .null, [])) (y_s := (78, [some (.ref _), some (.int _), some (.int _), some (.int _)], [.int _, .int _, .ref _], _)) rfl (u_ rfl) ?_
      refine w25 (pc := 78) (len_s := 1) rfl (hk.1 8 0 6 rfl rfl) (fun c4_s => ?_)
      replace t_s := t_s c4_s
      refine w_t (pc := 79) (e_s := (17, 3, 222, 0, 0, .null, [])) (y_s := (222, [some (.ref _), some (.int _), some (.int _), some (.int _)], [], _)) rfl (u_ rfl) ?_
      exact wrV (pc := 222) (len_s := 1) rfl hk t_s
    · replace t_s := t_s.2 c3_s
      refine wsc (X_s := 1) rfl (by decide) (fun c5_s => ?_) (fun c5_s => ?_)
      · replace t_s := t_s.1 c5_s
        refine w_t (pc := 82) (e_s := (3, 1, 0, 0, 0, .null, [])) (y_s := (83, [some (.ref _), some (.int _), some (.int _), some (.int _)], [.ref _], _)) rfl (u_ rfl) ?_
        refine w20r (pc := 83) (len_s := 3) (q_s := 9) rfl (krq hk rfl) ?_
        refine w_t (pc := 86) (e_s := (1, 1, 1, 0, 0, .null, [])) (y_s := (87, [some (.ref _), some (.int _), some (.int _), some (.int _)], [.int _, .ref _], _)) rfl (u_ rfl) ?_
        refine w_t (pc := 87) (e_s := (1, 1, 3, 0, 0, .null, [])) (y_s := (88, [some (.ref _), some (.int _), some (.int _), some (.int _)], [.int _, .int _, .ref _], _)) rfl (u_ rfl) ?_
        refine w25 (pc := 88) (len_s := 1) rfl (hk.1 9 0 6 rfl rfl) (fun c6_s => ?_)
        replace t_s := t_s c6_s
        refine w_t (pc := 89) (e_s := (17, 3, 222, 0, 0, .null, [])) (y_s := (222, [some (.ref _), some (.int _), some (.int _), some (.int _)], [], _)) rfl (u_ rfl) ?_
        exact wrV (pc := 222) (len_s := 1) rfl hk t_s
      · replace t_s := t_s.2 c5_s
        refine wsc (X_s := 2) rfl (by decide) (fun c7_s => ?_) (fun c7_s => ?_)
        · replace t_s := t_s.1 c7_s
          refine w_t (pc := 92) (e_s := (3, 1, 0, 0, 0, .null, [])) (y_s := (93, [some (.ref _), some (.int _), some (.int _), some (.int _)], [.ref _], _)) rfl (u_ rfl) ?_
          refine w20r (pc := 93) (len_s := 3) (q_s := 10) rfl (krq hk rfl) ?_
          refine w_t (pc := 96) (e_s := (1, 1, 1, 0, 0, .null, [])) (y_s := (97, [some (.ref _), some (.int _), some (.int _), some (.int _)], [.int _, .ref _], _)) rfl (u_ rfl) ?_
          refine w24 (g_s := fun j_ => 20 + j_) (pc := 97) (len_s := 1) hk rfl (hk.1 10 2 8 rfl rfl) kg10 (fun c8_s => ?_)
          replace t_s := t_s c8_s
          refine w_t (pc := 98) (e_s := (1, 1, 3, 0, 0, .null, [])) (y_s := (99, [some (.ref _), some (.int _), some (.int _), some (.int _)], [.int _, .ref _], _)) rfl (u_ rfl) ?_
          refine w21 (pc := 99) (len_s := 3) rfl ?_
          refine w_t (pc := 102) (e_s := (17, 3, 222, 0, 0, .null, [])) (y_s := (222, [some (.ref _), some (.int _), some (.int _), some (.int _)], [], _)) rfl (u_ rfl) ?_
          exact wrV (pc := 222) (len_s := 1) rfl hk t_s
        · replace t_s := t_s.2 c7_s
          refine wsc (X_s := 3) rfl (by decide) (fun c9_s => ?_) (fun c9_s => ?_)
          · replace t_s := t_s.1 c9_s
            refine w_t (pc := 105) (e_s := (3, 1, 0, 0, 0, .null, [])) (y_s := (106, [some (.ref _), some (.int _), some (.int _), some (.int _)], [.ref _], _)) rfl (u_ rfl) ?_
            refine w20r (pc := 106) (len_s := 3) (q_s := 10) rfl (krq hk rfl) ?_
            refine w_t (pc := 109) (e_s := (1, 1, 1, 0, 0, .null, [])) (y_s := (110, [some (.ref _), some (.int _), some (.int _), some (.int _)], [.int _, .ref _], _)) rfl (u_ rfl) ?_
            refine w24 (g_s := fun j_ => 20 + j_) (pc := 110) (len_s := 1) hk rfl (hk.1 10 2 8 rfl rfl) kg10 (fun c10_s => ?_)
            replace t_s := t_s c10_s
            refine w_t (pc := 111) (e_s := (1, 1, 3, 0, 0, .null, [])) (y_s := (112, [some (.ref _), some (.int _), some (.int _), some (.int _)], [.int _, .ref _], _)) rfl (u_ rfl) ?_
            refine w21 (pc := 112) (len_s := 3) rfl ?_
            refine w_t (pc := 115) (e_s := (17, 3, 222, 0, 0, .null, [])) (y_s := (222, [some (.ref _), some (.int _), some (.int _), some (.int _)], [], _)) rfl (u_ rfl) ?_
            exact wrV (pc := 222) (len_s := 1) rfl hk t_s
          · replace t_s := t_s.2 c9_s
            refine wsc (X_s := 4) rfl (by decide) (fun c11_s => ?_) (fun c11_s => ?_)
            · replace t_s := t_s.1 c11_s
              refine w_t (pc := 118) (e_s := (3, 1, 0, 0, 0, .null, [])) (y_s := (119, [some (.ref _), some (.int _), some (.int _), some (.int _)], [.ref _], _)) rfl (u_ rfl) ?_
              refine w20r (pc := 119) (len_s := 3) (q_s := 10) rfl (krq hk rfl) ?_
              refine w_t (pc := 122) (e_s := (1, 1, 1, 0, 0, .null, [])) (y_s := (123, [some (.ref _), some (.int _), some (.int _), some (.int _)], [.int _, .ref _], _)) rfl (u_ rfl) ?_
              refine w24 (g_s := fun j_ => 20 + j_) (pc := 123) (len_s := 1) hk rfl (hk.1 10 2 8 rfl rfl) kg10 (fun c12_s => ?_)
              replace t_s := t_s c12_s
              refine w_t (pc := 124) (e_s := (1, 1, 3, 0, 0, .null, [])) (y_s := (125, [some (.ref _), some (.int _), some (.int _), some (.int _)], [.int _, .ref _], _)) rfl (u_ rfl) ?_
              refine w21 (pc := 125) (len_s := 3) rfl ?_
              refine w_t (pc := 128) (e_s := (17, 3, 222, 0, 0, .null, [])) (y_s := (222, [some (.ref _), some (.int _), some (.int _), some (.int _)], [], _)) rfl (u_ rfl) ?_
              exact wrV (pc := 222) (len_s := 1) rfl hk t_s
            · replace t_s := t_s.2 c11_s
              refine wsc (X_s := 5) rfl (by decide) (fun c13_s => ?_) (fun c13_s => ?_)
              · replace t_s := t_s.1 c13_s
                refine w_t (pc := 131) (e_s := (3, 1, 0, 0, 0, .null, [])) (y_s := (132, [some (.ref _), some (.int _), some (.int _), some (.int _)], [.ref _], _)) rfl (u_ rfl) ?_
                refine w20r (pc := 132) (len_s := 3) (q_s := 10) rfl (krq hk rfl) ?_
                refine w_t (pc := 135) (e_s := (1, 1, 1, 0, 0, .null, [])) (y_s := (136, [some (.ref _), some (.int _), some (.int _), some (.int _)], [.int _, .ref _], _)) rfl (u_ rfl) ?_
                refine w24 (g_s := fun j_ => 20 + j_) (pc := 136) (len_s := 1) hk rfl (hk.1 10 2 8 rfl rfl) kg10 (fun c14_s => ?_)
                replace t_s := t_s c14_s
                refine w_t (pc := 137) (e_s := (1, 1, 3, 0, 0, .null, [])) (y_s := (138, [some (.ref _), some (.int _), some (.int _), some (.int _)], [.int _, .ref _], _)) rfl (u_ rfl) ?_
                refine w21 (pc := 138) (len_s := 3) rfl ?_
                refine w_t (pc := 141) (e_s := (17, 3, 222, 0, 0, .null, [])) (y_s := (222, [some (.ref _), some (.int _), some (.int _), some (.int _)], [], _)) rfl (u_ rfl) ?_
                exact wrV (pc := 222) (len_s := 1) rfl hk t_s
              · replace t_s := t_s.2 c13_s
                refine wsc (X_s := 6) rfl (by decide) (fun c15_s => ?_) (fun c15_s => ?_)
                · replace t_s := t_s.1 c15_s
                  refine w_t (pc := 144) (e_s := (3, 1, 0, 0, 0, .null, [])) (y_s := (145, [some (.ref _), some (.int _), some (.int _), some (.int _)], [.ref _], _)) rfl (u_ rfl) ?_
                  refine w20r (pc := 145) (len_s := 3) (q_s := 10) rfl (krq hk rfl) ?_
                  refine w_t (pc := 148) (e_s := (1, 1, 1, 0, 0, .null, [])) (y_s := (149, [some (.ref _), some (.int _), some (.int _), some (.int _)], [.int _, .ref _], _)) rfl (u_ rfl) ?_
                  refine w24 (g_s := fun j_ => 20 + j_) (pc := 149) (len_s := 1) hk rfl (hk.1 10 2 8 rfl rfl) kg10 (fun c16 => ?_)
                  replace t_s := t_s c16
                  refine w_t (pc := 150) (e_s := (1, 1, 3, 0, 0, .null, [])) (y_s := (151, [some (.ref _), some (.int _), some (.int _), some (.int _)], [.int _, .ref _], _)) rfl (u_ rfl) ?_
                  refine w21 (pc := 151) (len_s := 3) rfl ?_
                  refine w_t (pc := 154) (e_s := (17, 3, 222, 0, 0, .null, [])) (y_s := (222, [some (.ref _), some (.int _), some (.int _), some (.int _)], [], _)) rfl (u_ rfl) ?_
                  exact wrV (pc := 222) (len_s := 1) rfl hk t_s
                · replace t_s := t_s.2 c15_s
                  refine wsc (X_s := 7) rfl (by decide) (fun c17 => ?_) (fun c17 => ?_)
                  · replace t_s := t_s.1 c17
                    refine w_t (pc := 157) (e_s := (3, 1, 0, 0, 0, .null, [])) (y_s := (158, [some (.ref _), some (.int _), some (.int _), some (.int _)], [.ref _], _)) rfl (u_ rfl) ?_
                    refine w20r (pc := 158) (len_s := 3) (q_s := 10) rfl (krq hk rfl) ?_
                    refine w_t (pc := 161) (e_s := (1, 1, 1, 0, 0, .null, [])) (y_s := (162, [some (.ref _), some (.int _), some (.int _), some (.int _)], [.int _, .ref _], _)) rfl (u_ rfl) ?_
                    refine w24 (g_s := fun j_ => 20 + j_) (pc := 162) (len_s := 1) hk rfl (hk.1 10 2 8 rfl rfl) kg10 (fun c18_s => ?_)
                    replace t_s := t_s c18_s
                    refine w_t (pc := 163) (e_s := (1, 1, 3, 0, 0, .null, [])) (y_s := (164, [some (.ref _), some (.int _), some (.int _), some (.int _)], [.int _, .ref _], _)) rfl (u_ rfl) ?_
                    refine w21 (pc := 164) (len_s := 3) rfl ?_
                    refine w_t (pc := 167) (e_s := (17, 3, 222, 0, 0, .null, [])) (y_s := (222, [some (.ref _), some (.int _), some (.int _), some (.int _)], [], _)) rfl (u_ rfl) ?_
                    exact wrV (pc := 222) (len_s := 1) rfl hk t_s
                  · replace t_s := t_s.2 c17
                    refine wsc (X_s := 8) rfl (by decide) (fun c19_s => ?_) (fun c19_s => ?_)
                    · replace t_s := t_s.1 c19_s
                      refine w_t (pc := 170) (e_s := (3, 1, 0, 0, 0, .null, [])) (y_s := (171, [some (.ref _), some (.int _), some (.int _), some (.int _)], [.ref _], _)) rfl (u_ rfl) ?_
                      refine w20r (pc := 171) (len_s := 3) (q_s := 10) rfl (krq hk rfl) ?_
                      refine w_t (pc := 174) (e_s := (1, 1, 1, 0, 0, .null, [])) (y_s := (175, [some (.ref _), some (.int _), some (.int _), some (.int _)], [.int _, .ref _], _)) rfl (u_ rfl) ?_
                      refine w24 (g_s := fun j_ => 20 + j_) (pc := 175) (len_s := 1) hk rfl (hk.1 10 2 8 rfl rfl) kg10 (fun c20_s => ?_)
                      replace t_s := t_s c20_s
                      refine w_t (pc := 176) (e_s := (1, 1, 3, 0, 0, .null, [])) (y_s := (177, [some (.ref _), some (.int _), some (.int _), some (.int _)], [.int _, .ref _], _)) rfl (u_ rfl) ?_
                      refine w21 (pc := 177) (len_s := 3) rfl ?_
                      refine w_t (pc := 180) (e_s := (17, 3, 222, 0, 0, .null, [])) (y_s := (222, [some (.ref _), some (.int _), some (.int _), some (.int _)], [], _)) rfl (u_ rfl) ?_
                      exact wrV (pc := 222) (len_s := 1) rfl hk t_s
                    · replace t_s := t_s.2 c19_s
                      refine wsc (X_s := 9) rfl (by decide) (fun c21 => ?_) (fun c21 => ?_)
                      · replace t_s := t_s.1 c21
                        refine w_t (pc := 183) (e_s := (3, 1, 0, 0, 0, .null, [])) (y_s := (184, [some (.ref _), some (.int _), some (.int _), some (.int _)], [.ref _], _)) rfl (u_ rfl) ?_
                        refine w20r (pc := 184) (len_s := 3) (q_s := 11) rfl (krq hk rfl) ?_
                        refine w_t (pc := 187) (e_s := (1, 1, 1, 0, 0, .null, [])) (y_s := (188, [some (.ref _), some (.int _), some (.int _), some (.int _)], [.int _, .ref _], _)) rfl (u_ rfl) ?_
                        refine w24 (g_s := fun j_ => 28 + j_) (pc := 188) (len_s := 1) hk rfl (hk.1 11 3 12 rfl rfl) kg11 (fun c22 => ?_)
                        replace t_s := t_s c22
                        refine w_t (pc := 189) (e_s := (1, 1, 3, 0, 0, .null, [])) (y_s := (190, [some (.ref _), some (.int _), some (.int _), some (.int _)], [.int _, .ref _], _)) rfl (u_ rfl) ?_
                        refine w21 (pc := 190) (len_s := 3) rfl ?_
                        refine w_t (pc := 193) (e_s := (17, 3, 222, 0, 0, .null, [])) (y_s := (222, [some (.ref _), some (.int _), some (.int _), some (.int _)], [], _)) rfl (u_ rfl) ?_
                        exact wrV (pc := 222) (len_s := 1) rfl hk t_s
                      · replace t_s := t_s.2 c21
                        refine wsc (X_s := 10) rfl (by decide) (fun c23_s => ?_) (fun c23_s => ?_)
                        · replace t_s := t_s.1 c23_s
                          refine w_t (pc := 196) (e_s := (3, 1, 0, 0, 0, .null, [])) (y_s := (197, [some (.ref _), some (.int _), some (.int _), some (.int _)], [.ref _], _)) rfl (u_ rfl) ?_
                          refine w20r (pc := 197) (len_s := 3) (q_s := 11) rfl (krq hk rfl) ?_
                          refine w_t (pc := 200) (e_s := (1, 1, 1, 0, 0, .null, [])) (y_s := (201, [some (.ref _), some (.int _), some (.int _), some (.int _)], [.int _, .ref _], _)) rfl (u_ rfl) ?_
                          refine w24 (g_s := fun j_ => 28 + j_) (pc := 201) (len_s := 1) hk rfl (hk.1 11 3 12 rfl rfl) kg11 (fun c24_s => ?_)
                          replace t_s := t_s c24_s
                          refine w_t (pc := 202) (e_s := (1, 1, 3, 0, 0, .null, [])) (y_s := (203, [some (.ref _), some (.int _), some (.int _), some (.int _)], [.int _, .ref _], _)) rfl (u_ rfl) ?_
                          refine w21 (pc := 203) (len_s := 3) rfl ?_
                          refine w_t (pc := 206) (e_s := (17, 3, 222, 0, 0, .null, [])) (y_s := (222, [some (.ref _), some (.int _), some (.int _), some (.int _)], [], _)) rfl (u_ rfl) ?_
                          exact wrV (pc := 222) (len_s := 1) rfl hk t_s
                        · replace t_s := t_s.2 c23_s
                          refine wsc (X_s := 11) rfl (by decide) (fun c25_s => ?_) (fun c25_s => ?_)
                          · replace t_s := t_s.1 c25_s
                            refine w_t (pc := 209) (e_s := (3, 1, 0, 0, 0, .null, [])) (y_s := (210, [some (.ref _), some (.int _), some (.int _), some (.int _)], [.ref _], _)) rfl (u_ rfl) ?_
                            refine w20r (pc := 210) (len_s := 3) (q_s := 11) rfl (krq hk rfl) ?_
                            refine w_t (pc := 213) (e_s := (1, 1, 1, 0, 0, .null, [])) (y_s := (214, [some (.ref _), some (.int _), some (.int _), some (.int _)], [.int _, .ref _], _)) rfl (u_ rfl) ?_
                            refine w24 (g_s := fun j_ => 28 + j_) (pc := 214) (len_s := 1) hk rfl (hk.1 11 3 12 rfl rfl) kg11 (fun c26 => ?_)
                            replace t_s := t_s c26
                            refine w_t (pc := 215) (e_s := (1, 1, 3, 0, 0, .null, [])) (y_s := (216, [some (.ref _), some (.int _), some (.int _), some (.int _)], [.int _, .ref _], _)) rfl (u_ rfl) ?_
                            refine w21 (pc := 216) (len_s := 3) rfl ?_
                            refine w_t (pc := 219) (e_s := (17, 3, 222, 0, 0, .null, [])) (y_s := (222, [some (.ref _), some (.int _), some (.int _), some (.int _)], [], _)) rfl (u_ rfl) ?_
                            exact wrV (pc := 222) (len_s := 1) rfl hk t_s
                          · replace t_s := t_s.2 c25_s
                            show wF _ _ (222, _, _, _) _
                            exact wrV (pc := 222) (len_s := 1) rfl hk t_s
/-- ColdShod.of(II)I, from 0 on -/
theorem sg_99_0 {F_s : Nat} {x1_s : Int32} {x2_s : Int32} {h_s : zH} {K_s : Int32 → zH → Prop} (hk : hKn h_s) (t_s : wF F_s 20 (0, [some (.ref 7), some (.int x1_s), some (.int x2_s)], [], h_s) (gI (fun v1_s h1 => hKn h1 → K_s v1_s h1))) : wF (F_s + 1) 99 (0, [some (.ref 6), some (.int x1_s), some (.int x2_s)], [], h_s) (gI K_s) := by
  refine w_0 (pc := 0) (e_s := (3, 1, 0, 0, 0, .null, [])) (y_s := (1, [some (.ref _), some (.int _), some (.int _)], [.ref _], _)) rfl (u_ rfl) ?_
  refine w20r (pc := 1) (len_s := 3) (q_s := 7) rfl (krq hk rfl) ?_
  refine w_t (pc := 4) (e_s := (1, 1, 1, 0, 0, .null, [])) (y_s := (5, [some (.ref _), some (.int _), some (.int _)], [.int _, .ref _], _)) rfl (u_ rfl) ?_
  refine w_t (pc := 5) (e_s := (1, 1, 2, 0, 0, .null, [])) (y_s := (6, [some (.ref _), some (.int _), some (.int _)], [.int _, .int _, .ref _], _)) rfl (u_ rfl) ?_
  refine wcI (pc := 6) (len_s := 3) rfl rfl (l := [some (.ref _), some (.int _), some (.int _)]) rfl (wmI t_s (fun v1_s h1 hk t_s => ?_))
  replace t_s := t_s hk
  exact wrI (pc := 9) (len_s := 1) rfl hk t_s
/-- ColdShod$Changes.takeBack(LColdShod$Country;)V, from 0 on -/
theorem sg_11_0 {F_s : Nat}  {h_s : zH} {K_s : zH → Prop} (hk : hKn h_s) (t_s : (0 < (h_s.2.1 42 0).toInt → (zix ((h_s.2.1 42 0) - 1) < 40 → wF F_s 21 (0, [some (.ref 7), some (.int (h_s.2.1 43 (zix ((h_s.2.1 42 0) - 1)))), some (.int (h_s.2.1 44 (zix ((h_s.2.1 42 0) - 1)))), some (.int (h_s.2.1 45 (zix ((h_s.2.1 42 0) - 1))))], [], (h_s.1, zup (zup h_s.2.1 42 0 ((h_s.2.1 42 0) - 1)) 42 1 ((h_s.2.1 42 1) + 1), h_s.2.2.1, h_s.2.2.2)) (gV (fun h5 => hKn h5 → K_s h5)))) ∧ (¬ 0 < (h_s.2.1 42 0).toInt → K_s h_s)) : wF (F_s + 1) 11 (0, [some (.ref 42), some (.ref 7)], [], h_s) (gV K_s) := by
  refine w_0 (pc := 0) (e_s := (3, 1, 0, 0, 0, .null, [])) (y_s := (1, [some (.ref _), some (.ref _)], [.ref _], _)) rfl (u_ rfl) ?_
  refine w20 (pc := 1) (len_s := 3) rfl ?_
  refine wq4 (pc := 4) (len_s := 3) rfl rfl (fun c1_s => ?_) (fun c1_s => ?_)
  · replace t_s := t_s.1 c1_s
    refine w_t (pc := 8) (e_s := (3, 1, 0, 0, 0, .null, [])) (y_s := (9, [some (.ref _), some (.ref _)], [.ref _], _)) rfl (u_ rfl) ?_
    refine w_t (pc := 9) (e_s := (39, 1, 0, 0, 0, .null, [])) (y_s := (10, [some (.ref _), some (.ref _)], [.ref _, .ref _], _)) rfl (u_ rfl) ?_
    refine w20 (pc := 10) (len_s := 3) rfl ?_
    refine w_t (pc := 13) (e_s := (0, 1, 0, 0, 0, .int 1, [])) (y_s := (14, [some (.ref _), some (.ref _)], [.int _, .int _, .ref _], _)) rfl (u_ rfl) ?_
    refine w_t (pc := 14) (e_s := (7, 1, 0, 1, 0, .null, [])) (y_s := (15, [some (.ref _), some (.ref _)], [.int (_ - _), .ref _], _)) rfl (u_ rfl) ?_
    refine w21 (pc := 15) (len_s := 3) rfl ?_
    refine w_t (pc := 18) (e_s := (3, 1, 0, 0, 0, .null, [])) (y_s := (19, [some (.ref _), some (.ref _)], [.ref _], _)) rfl (u_ rfl) ?_
    refine w_t (pc := 19) (e_s := (39, 1, 0, 0, 0, .null, [])) (y_s := (20, [some (.ref _), some (.ref _)], [.ref _, .ref _], _)) rfl (u_ rfl) ?_
    refine w20 (pc := 20) (len_s := 3) rfl ?_
    refine w_t (pc := 23) (e_s := (0, 1, 0, 0, 0, .int 1, [])) (y_s := (24, [some (.ref _), some (.ref _)], [.int _, .int _, .ref _], _)) rfl (u_ rfl) ?_
    refine w_t (pc := 24) (e_s := (7, 1, 0, 0, 0, .null, [])) (y_s := (25, [some (.ref _), some (.ref _)], [.int (_ + _), .ref _], _)) rfl (u_ rfl) ?_
    refine w21 (pc := 25) (len_s := 3) rfl ?_
    refine w_t (pc := 28) (e_s := (3, 1, 1, 0, 0, .null, [])) (y_s := (29, [some (.ref _), some (.ref _)], [.ref _], _)) rfl (u_ rfl) ?_
    refine w_t (pc := 29) (e_s := (3, 1, 0, 0, 0, .null, [])) (y_s := (30, [some (.ref _), some (.ref _)], [.ref _, .ref _], _)) rfl (u_ rfl) ?_
    refine w20r (pc := 30) (len_s := 3) (q_s := 43) rfl (krq hk rfl) ?_
    refine w_t (pc := 33) (e_s := (3, 1, 0, 0, 0, .null, [])) (y_s := (34, [some (.ref _), some (.ref _)], [.ref _, .ref _, .ref _], _)) rfl (u_ rfl) ?_
    refine w20 (pc := 34) (len_s := 3) rfl ?_
    refine w22 (pc := 37) (len_s := 1) rfl (hk.1 43 0 40 rfl rfl) (fun c2_s => ?_)
    replace t_s := t_s c2_s
    refine w_t (pc := 38) (e_s := (3, 1, 0, 0, 0, .null, [])) (y_s := (39, [some (.ref _), some (.ref _)], [.ref _, .int _, .ref _], _)) rfl (u_ rfl) ?_
    refine w20r (pc := 39) (len_s := 3) (q_s := 44) rfl (krq hk rfl) ?_
    refine w_t (pc := 42) (e_s := (3, 1, 0, 0, 0, .null, [])) (y_s := (43, [some (.ref _), some (.ref _)], [.ref _, .ref _, .int _, .ref _], _)) rfl (u_ rfl) ?_
    refine w20 (pc := 43) (len_s := 3) rfl ?_
    refine w22 (pc := 46) (len_s := 1) rfl (hk.1 44 0 40 rfl rfl) (fun c3_s => ?_)
    refine w_t (pc := 47) (e_s := (3, 1, 0, 0, 0, .null, [])) (y_s := (48, [some (.ref _), some (.ref _)], [.ref _, .int _, .int _, .ref _], _)) rfl (u_ rfl) ?_
    refine w20r (pc := 48) (len_s := 3) (q_s := 45) rfl (krq hk rfl) ?_
    refine w_t (pc := 51) (e_s := (3, 1, 0, 0, 0, .null, [])) (y_s := (52, [some (.ref _), some (.ref _)], [.ref _, .ref _, .int _, .int _, .ref _], _)) rfl (u_ rfl) ?_
    refine w20 (pc := 52) (len_s := 3) rfl ?_
    refine w22 (pc := 55) (len_s := 1) rfl (hk.1 45 0 40 rfl rfl) (fun c4_s => ?_)
    refine wcV (pc := 56) (len_s := 3) rfl rfl (l := [some (.ref _), some (.int _), some (.int _), some (.int _)]) rfl (wmV t_s (fun h5 hk t_s => ?_))
    replace t_s := t_s hk
    exact wrV (pc := 59) (len_s := 1) rfl hk t_s
  · replace t_s := t_s.2 c1_s
    exact wrV (pc := 7) (len_s := 1) rfl hk t_s
/-- ColdShod$Changes.doAgain(LColdShod$Country;)V, from 0 on -/
theorem sg_12_0 {F_s : Nat}  {h_s : zH} {K_s : zH → Prop} (hk : hKn h_s) (t_s : (0 < (h_s.2.1 42 1).toInt → (((h_s.2.1 42 0).toInt < 40 → (zix (h_s.2.1 42 0) < 40 → wF F_s 21 (0, [some (.ref 7), some (.int (h_s.2.1 43 (zix (h_s.2.1 42 0)))), some (.int (h_s.2.1 44 (zix (h_s.2.1 42 0)))), some (.int (h_s.2.1 46 (zix (h_s.2.1 42 0))))], [], h_s) (gV (fun h6 => hKn h6 → K_s (h6.1, zup (zup h6.2.1 42 0 ((h6.2.1 42 0) + 1)) 42 1 ((h6.2.1 42 1) - 1), h6.2.2.1, h6.2.2.2))))) ∧ (¬ (h_s.2.1 42 0).toInt < 40 → K_s h_s))) ∧ (¬ 0 < (h_s.2.1 42 1).toInt → K_s h_s)) : wF (F_s + 1) 12 (0, [some (.ref 42), some (.ref 7)], [], h_s) (gV K_s) := by
  refine w_0 (pc := 0) (e_s := (3, 1, 0, 0, 0, .null, [])) (y_s := (1, [some (.ref _), some (.ref _)], [.ref _], _)) rfl (u_ rfl) ?_
  refine w20 (pc := 1) (len_s := 3) rfl ?_
  refine wq5 (pc := 4) (len_s := 3) rfl rfl (fun c1_s => ?_) (fun c1_s => ?_)
  · replace t_s := t_s.1 c1_s
    refine w_t (pc := 7) (e_s := (3, 1, 0, 0, 0, .null, [])) (y_s := (8, [some (.ref _), some (.ref _)], [.ref _], _)) rfl (u_ rfl) ?_
    refine w20 (pc := 8) (len_s := 3) rfl ?_
    refine w_t (pc := 11) (e_s := (0, 2, 0, 0, 0, .int 40, [])) (y_s := (13, [some (.ref _), some (.ref _)], [.int _, .int _], _)) rfl (u_ rfl) ?_
    refine wi2 (pc := 13) (len_s := 3) (Y := 40) rfl rfl (by decide) (fun c2_s => ?_) (fun c2_s => ?_)
    · replace t_s := t_s.1 c2_s
      refine w_t (pc := 17) (e_s := (3, 1, 1, 0, 0, .null, [])) (y_s := (18, [some (.ref _), some (.ref _)], [.ref _], _)) rfl (u_ rfl) ?_
      refine w_t (pc := 18) (e_s := (3, 1, 0, 0, 0, .null, [])) (y_s := (19, [some (.ref _), some (.ref _)], [.ref _, .ref _], _)) rfl (u_ rfl) ?_
      refine w20r (pc := 19) (len_s := 3) (q_s := 43) rfl (krq hk rfl) ?_
      refine w_t (pc := 22) (e_s := (3, 1, 0, 0, 0, .null, [])) (y_s := (23, [some (.ref _), some (.ref _)], [.ref _, .ref _, .ref _], _)) rfl (u_ rfl) ?_
      refine w20 (pc := 23) (len_s := 3) rfl ?_
      refine w22 (pc := 26) (len_s := 1) rfl (hk.1 43 0 40 rfl rfl) (fun c3_s => ?_)
      replace t_s := t_s c3_s
      refine w_t (pc := 27) (e_s := (3, 1, 0, 0, 0, .null, [])) (y_s := (28, [some (.ref _), some (.ref _)], [.ref _, .int _, .ref _], _)) rfl (u_ rfl) ?_
      refine w20r (pc := 28) (len_s := 3) (q_s := 44) rfl (krq hk rfl) ?_
      refine w_t (pc := 31) (e_s := (3, 1, 0, 0, 0, .null, [])) (y_s := (32, [some (.ref _), some (.ref _)], [.ref _, .ref _, .int _, .ref _], _)) rfl (u_ rfl) ?_
      refine w20 (pc := 32) (len_s := 3) rfl ?_
      refine w22 (pc := 35) (len_s := 1) rfl (hk.1 44 0 40 rfl rfl) (fun c4_s => ?_)
      refine w_t (pc := 36) (e_s := (3, 1, 0, 0, 0, .null, [])) (y_s := (37, [some (.ref _), some (.ref _)], [.ref _, .int _, .int _, .ref _], _)) rfl (u_ rfl) ?_
      refine w20r (pc := 37) (len_s := 3) (q_s := 46) rfl (krq hk rfl) ?_
      refine w_t (pc := 40) (e_s := (3, 1, 0, 0, 0, .null, [])) (y_s := (41, [some (.ref _), some (.ref _)], [.ref _, .ref _, .int _, .int _, .ref _], _)) rfl (u_ rfl) ?_
      refine w20 (pc := 41) (len_s := 3) rfl ?_
      refine w22 (pc := 44) (len_s := 1) rfl (hk.1 46 0 40 rfl rfl) (fun c5_s => ?_)
      refine wcV (pc := 45) (len_s := 3) rfl rfl (l := [some (.ref _), some (.int _), some (.int _), some (.int _)]) rfl (wmV t_s (fun h6 hk t_s => ?_))
      replace t_s := t_s hk
      refine w_t (pc := 48) (e_s := (3, 1, 0, 0, 0, .null, [])) (y_s := (49, [some (.ref _), some (.ref _)], [.ref _], _)) rfl (u_ rfl) ?_
      refine w_t (pc := 49) (e_s := (39, 1, 0, 0, 0, .null, [])) (y_s := (50, [some (.ref _), some (.ref _)], [.ref _, .ref _], _)) rfl (u_ rfl) ?_
      refine w20 (pc := 50) (len_s := 3) rfl ?_
      refine w_t (pc := 53) (e_s := (0, 1, 0, 0, 0, .int 1, [])) (y_s := (54, [some (.ref _), some (.ref _)], [.int _, .int _, .ref _], _)) rfl (u_ rfl) ?_
      refine w_t (pc := 54) (e_s := (7, 1, 0, 0, 0, .null, [])) (y_s := (55, [some (.ref _), some (.ref _)], [.int (_ + _), .ref _], _)) rfl (u_ rfl) ?_
      refine w21 (pc := 55) (len_s := 3) rfl ?_
      refine w_t (pc := 58) (e_s := (3, 1, 0, 0, 0, .null, [])) (y_s := (59, [some (.ref _), some (.ref _)], [.ref _], _)) rfl (u_ rfl) ?_
      refine w_t (pc := 59) (e_s := (39, 1, 0, 0, 0, .null, [])) (y_s := (60, [some (.ref _), some (.ref _)], [.ref _, .ref _], _)) rfl (u_ rfl) ?_
      refine w20 (pc := 60) (len_s := 3) rfl ?_
      refine w_t (pc := 63) (e_s := (0, 1, 0, 0, 0, .int 1, [])) (y_s := (64, [some (.ref _), some (.ref _)], [.int _, .int _, .ref _], _)) rfl (u_ rfl) ?_
      refine w_t (pc := 64) (e_s := (7, 1, 0, 1, 0, .null, [])) (y_s := (65, [some (.ref _), some (.ref _)], [.int (_ - _), .ref _], _)) rfl (u_ rfl) ?_
      refine w21 (pc := 65) (len_s := 3) rfl ?_
      exact wrV (pc := 68) (len_s := 1) rfl hk t_s
    · replace t_s := t_s.2 c2_s
      exact wrV (pc := 16) (len_s := 1) rfl hk t_s
  · replace t_s := t_s.2 c1_s
    exact wrV (pc := 16) (len_s := 1) rfl hk t_s
/-- ColdShod.undo()I, from 0 on -/
theorem sg_123_0 {F_s : Nat}  {h_s : zH} {K_s : Int32 → zH → Prop} (hk : hKn h_s) (t_s : ((h_s.2.1 42 0).toInt = 0 → K_s (-5) h_s) ∧ (¬ (h_s.2.1 42 0).toInt = 0 → wF F_s 11 (0, [some (.ref 42), some (.ref 7)], [], h_s) (gV (fun h2 => hKn h2 → K_s (h2.2.1 42 0) h2)))) : wF (F_s + 1) 123 (0, [some (.ref 6)], [], h_s) (gI K_s) := by
  refine w_0 (pc := 0) (e_s := (3, 1, 0, 0, 0, .null, [])) (y_s := (1, [some (.ref _)], [.ref _], _)) rfl (u_ rfl) ?_
  refine w20r (pc := 1) (len_s := 3) (q_s := 42) rfl (krq hk rfl) ?_
  refine w20 (pc := 4) (len_s := 3) rfl ?_
  refine wq1 (pc := 7) (len_s := 3) rfl rfl (fun c1_s => ?_) (fun c1_s => ?_)
  · replace t_s := t_s.1 c1_s
    refine w_t (pc := 10) (e_s := (0, 2, 0, 0, 0, .int (-5), [])) (y_s := (12, [some (.ref _)], [.int _], _)) rfl (u_ rfl) ?_
    exact wrI (pc := 12) (len_s := 1) rfl hk t_s
  · replace t_s := t_s.2 c1_s
    refine w_t (pc := 13) (e_s := (3, 1, 0, 0, 0, .null, [])) (y_s := (14, [some (.ref _)], [.ref _], _)) rfl (u_ rfl) ?_
    refine w20r (pc := 14) (len_s := 3) (q_s := 42) rfl (krq hk rfl) ?_
    refine w_t (pc := 17) (e_s := (3, 1, 0, 0, 0, .null, [])) (y_s := (18, [some (.ref _)], [.ref _, .ref _], _)) rfl (u_ rfl) ?_
    refine w20r (pc := 18) (len_s := 3) (q_s := 7) rfl (krq hk rfl) ?_
    refine wcV (pc := 21) (len_s := 3) rfl rfl (l := [some (.ref _), some (.ref _)]) rfl (wmV t_s (fun h2 hk t_s => ?_))
    replace t_s := t_s hk
    refine w_t (pc := 24) (e_s := (3, 1, 0, 0, 0, .null, [])) (y_s := (25, [some (.ref _)], [.ref _], _)) rfl (u_ rfl) ?_
    refine w20r (pc := 25) (len_s := 3) (q_s := 42) rfl (krq hk rfl) ?_
    refine w20 (pc := 28) (len_s := 3) rfl ?_
    exact wrI (pc := 31) (len_s := 1) rfl hk t_s
/-- ColdShod.redo()I, from 0 on -/
theorem sg_124_0 {F_s : Nat}  {h_s : zH} {K_s : Int32 → zH → Prop} (hk : hKn h_s) (t_s : ((h_s.2.1 42 1).toInt = 0 → K_s (-5) h_s) ∧ (¬ (h_s.2.1 42 1).toInt = 0 → wF F_s 12 (0, [some (.ref 42), some (.ref 7)], [], h_s) (gV (fun h2 => hKn h2 → K_s (h2.2.1 42 1) h2)))) : wF (F_s + 1) 124 (0, [some (.ref 6)], [], h_s) (gI K_s) := by
  refine w_0 (pc := 0) (e_s := (3, 1, 0, 0, 0, .null, [])) (y_s := (1, [some (.ref _)], [.ref _], _)) rfl (u_ rfl) ?_
  refine w20r (pc := 1) (len_s := 3) (q_s := 42) rfl (krq hk rfl) ?_
  refine w20 (pc := 4) (len_s := 3) rfl ?_
  refine wq1 (pc := 7) (len_s := 3) rfl rfl (fun c1_s => ?_) (fun c1_s => ?_)
  · replace t_s := t_s.1 c1_s
    refine w_t (pc := 10) (e_s := (0, 2, 0, 0, 0, .int (-5), [])) (y_s := (12, [some (.ref _)], [.int _], _)) rfl (u_ rfl) ?_
    exact wrI (pc := 12) (len_s := 1) rfl hk t_s
  · replace t_s := t_s.2 c1_s
    refine w_t (pc := 13) (e_s := (3, 1, 0, 0, 0, .null, [])) (y_s := (14, [some (.ref _)], [.ref _], _)) rfl (u_ rfl) ?_
    refine w20r (pc := 14) (len_s := 3) (q_s := 42) rfl (krq hk rfl) ?_
    refine w_t (pc := 17) (e_s := (3, 1, 0, 0, 0, .null, [])) (y_s := (18, [some (.ref _)], [.ref _, .ref _], _)) rfl (u_ rfl) ?_
    refine w20r (pc := 18) (len_s := 3) (q_s := 7) rfl (krq hk rfl) ?_
    refine wcV (pc := 21) (len_s := 3) rfl rfl (l := [some (.ref _), some (.ref _)]) rfl (wmV t_s (fun h2 hk t_s => ?_))
    replace t_s := t_s hk
    refine w_t (pc := 24) (e_s := (3, 1, 0, 0, 0, .null, [])) (y_s := (25, [some (.ref _)], [.ref _], _)) rfl (u_ rfl) ?_
    refine w20r (pc := 25) (len_s := 3) (q_s := 42) rfl (krq hk rfl) ?_
    refine w20 (pc := 28) (len_s := 3) rfl ?_
    exact wrI (pc := 31) (len_s := 1) rfl hk t_s
/-- ColdShodModel.placeOf(II)I, from 0 on -/
theorem sg_161_0 {F_s : Nat} {x1_s : Int32} {x2_s : Int32} {h_s : zH} {K_s : Int32 → zH → Prop} (hk : hKn h_s) (t_s : (x2_s.toInt < 0 → ((x2_s.toInt < 2 → ((x2_s.toInt < 9 → K_s (-1) h_s) ∧ (¬ x2_s.toInt < 9 → ((11 < x2_s.toInt → K_s (-1) h_s) ∧ (¬ 11 < x2_s.toInt → ((x1_s.toInt < 0 → K_s (-1) h_s) ∧ (¬ x1_s.toInt < 0 → ((((h_s.2.1 102 8) - 1).toInt < x1_s.toInt → K_s (-1) h_s) ∧ (¬ ((h_s.2.1 102 8) - 1).toInt < x1_s.toInt → K_s ((68 + (12 * (x2_s - 9))) + x1_s) h_s))))))))) ∧ (¬ x2_s.toInt < 2 → ((8 < x2_s.toInt → ((x2_s.toInt < 9 → K_s (-1) h_s) ∧ (¬ x2_s.toInt < 9 → ((11 < x2_s.toInt → K_s (-1) h_s) ∧ (¬ 11 < x2_s.toInt → ((x1_s.toInt < 0 → K_s (-1) h_s) ∧ (¬ x1_s.toInt < 0 → ((((h_s.2.1 102 8) - 1).toInt < x1_s.toInt → K_s (-1) h_s) ∧ (¬ ((h_s.2.1 102 8) - 1).toInt < x1_s.toInt → K_s ((68 + (12 * (x2_s - 9))) + x1_s) h_s))))))))) ∧ (¬ 8 < x2_s.toInt → ((x1_s.toInt < 0 → K_s (-1) h_s) ∧ (¬ x1_s.toInt < 0 → ((((h_s.2.1 102 7) - 1).toInt < x1_s.toInt → K_s (-1) h_s) ∧ (¬ ((h_s.2.1 102 7) - 1).toInt < x1_s.toInt → K_s ((12 + (8 * (x2_s - 2))) + x1_s) h_s))))))))) ∧ (¬ x2_s.toInt < 0 → ((1 < x2_s.toInt → ((x2_s.toInt < 2 → ((x2_s.toInt < 9 → K_s (-1) h_s) ∧ (¬ x2_s.toInt < 9 → ((11 < x2_s.toInt → K_s (-1) h_s) ∧ (¬ 11 < x2_s.toInt → ((x1_s.toInt < 0 → K_s (-1) h_s) ∧ (¬ x1_s.toInt < 0 → ((((h_s.2.1 102 8) - 1).toInt < x1_s.toInt → K_s (-1) h_s) ∧ (¬ ((h_s.2.1 102 8) - 1).toInt < x1_s.toInt → K_s ((68 + (12 * (x2_s - 9))) + x1_s) h_s))))))))) ∧ (¬ x2_s.toInt < 2 → ((8 < x2_s.toInt → ((x2_s.toInt < 9 → K_s (-1) h_s) ∧ (¬ x2_s.toInt < 9 → ((11 < x2_s.toInt → K_s (-1) h_s) ∧ (¬ 11 < x2_s.toInt → ((x1_s.toInt < 0 → K_s (-1) h_s) ∧ (¬ x1_s.toInt < 0 → ((((h_s.2.1 102 8) - 1).toInt < x1_s.toInt → K_s (-1) h_s) ∧ (¬ ((h_s.2.1 102 8) - 1).toInt < x1_s.toInt → K_s ((68 + (12 * (x2_s - 9))) + x1_s) h_s))))))))) ∧ (¬ 8 < x2_s.toInt → ((x1_s.toInt < 0 → K_s (-1) h_s) ∧ (¬ x1_s.toInt < 0 → ((((h_s.2.1 102 7) - 1).toInt < x1_s.toInt → K_s (-1) h_s) ∧ (¬ ((h_s.2.1 102 7) - 1).toInt < x1_s.toInt → K_s ((12 + (8 * (x2_s - 2))) + x1_s) h_s))))))))) ∧ (¬ 1 < x2_s.toInt → ((x1_s.toInt < 0 → K_s (-1) h_s) ∧ (¬ x1_s.toInt < 0 → ((((h_s.2.1 102 6) - 1).toInt < x1_s.toInt → K_s (-1) h_s) ∧ (¬ ((h_s.2.1 102 6) - 1).toInt < x1_s.toInt → K_s ((6 * x2_s) + x1_s) h_s)))))))) : wF (F_s + 1) 161 (0, [some (.ref 102), some (.int x1_s), some (.int x2_s)], [], h_s) (gI K_s) := by
  refine w_0 (pc := 0) (e_s := (1, 1, 2, 0, 0, .null, [])) (y_s := (1, [some (.ref _), some (.int _), some (.int _)], [.int _], _)) rfl (u_ rfl) ?_
  refine w_t (pc := 1) (e_s := (10, 1, 0, 0, 0, .null, [])) (y_s := (2, [some (.ref _), some (.int _), some (.int _)], [.long (Int32.toInt64 _)], _)) rfl (u_ rfl) ?_
  refine w_t (pc := 2) (e_s := (0, 1, 0, 0, 0, .long 0, [])) (y_s := (3, [some (.ref _), some (.int _), some (.int _)], [.long _, .long _], _)) rfl (u_ rfl) ?_
  refine w_t (pc := 3) (e_s := (0, 1, 0, 0, 0, .long 1, [])) (y_s := (4, [some (.ref _), some (.int _), some (.int _)], [.long _, .long _, .long _], _)) rfl (u_ rfl) ?_
  refine wcI (pc := 4) (len_s := 3) rfl rfl (l := [some (.long _), none, some (.long _), none, some (.long _), none]) rfl ?_
  refine w_t (pc := 0) (e_s := (2, 1, 0, 0, 0, .null, [])) (y_s := (1, [some (.long _), none, some (.long _), none, some (.long _), none], [.long _], _)) rfl (u_ rfl) ?_
  refine w_t (pc := 1) (e_s := (2, 1, 2, 0, 0, .null, [])) (y_s := (2, [some (.long _), none, some (.long _), none, some (.long _), none], [.long _, .long _], _)) rfl (u_ rfl) ?_
  refine w_t (pc := 2) (e_s := (14, 1, 0, 0, 0, .null, [])) (y_s := (3, [some (.long _), none, some (.long _), none, some (.long _), none], [.int (lg_cmp _ _)], _)) rfl (u_ rfl) ?_
  refine wl2 (pc := 3) (len_s := 3) (Y := 0) rfl (Int32.toInt_toInt64 _) (by decide) (fun c1_s => ?_) (fun c1_s => ?_)
  · replace t_s := t_s.1 c1_s
    refine w_t (pc := 17) (e_s := (0, 1, 0, 0, 0, .int 0, [])) (y_s := (18, [some (.long _), none, some (.long _), none, some (.long _), none], [.int _], _)) rfl (u_ rfl) ?_
    refine wrI (pc := 18) (len_s := 1) rfl hk ?_
    show wF _ 161 (7, [some (.ref _), some (.int _), some (.int _)], [.int _], _) _
    refine w_t (pc := 7) (e_s := (15, 3, 30, 0, 0, .null, [])) (y_s := (30, [some (.ref _), some (.int _), some (.int _)], [], _)) rfl (u_ rfl) ?_
    refine w_t (pc := 30) (e_s := (1, 1, 2, 0, 0, .null, [])) (y_s := (31, [some (.ref _), some (.int _), some (.int _)], [.int _], _)) rfl (u_ rfl) ?_
    refine w_t (pc := 31) (e_s := (10, 1, 0, 0, 0, .null, [])) (y_s := (32, [some (.ref _), some (.int _), some (.int _)], [.long (Int32.toInt64 _)], _)) rfl (u_ rfl) ?_
    refine w_t (pc := 32) (e_s := (0, 3, 0, 0, 0, .long 2, [(0, 1072)])) (y_s := (35, [some (.ref _), some (.int _), some (.int _)], [.long _, .long _], _)) rfl (u_ rfl) ?_
    refine w_t (pc := 35) (e_s := (0, 3, 0, 0, 0, .long 8, [(0, 1073)])) (y_s := (38, [some (.ref _), some (.int _), some (.int _)], [.long _, .long _, .long _], _)) rfl (u_ rfl) ?_
    refine wcI (pc := 38) (len_s := 3) rfl rfl (l := [some (.long _), none, some (.long _), none, some (.long _), none]) rfl ?_
    refine w_t (pc := 0) (e_s := (2, 1, 0, 0, 0, .null, [])) (y_s := (1, [some (.long _), none, some (.long _), none, some (.long _), none], [.long _], _)) rfl (u_ rfl) ?_
    refine w_t (pc := 1) (e_s := (2, 1, 2, 0, 0, .null, [])) (y_s := (2, [some (.long _), none, some (.long _), none, some (.long _), none], [.long _, .long _], _)) rfl (u_ rfl) ?_
    refine w_t (pc := 2) (e_s := (14, 1, 0, 0, 0, .null, [])) (y_s := (3, [some (.long _), none, some (.long _), none, some (.long _), none], [.int (lg_cmp _ _)], _)) rfl (u_ rfl) ?_
    refine wl2 (pc := 3) (len_s := 3) (Y := 2) rfl (Int32.toInt_toInt64 _) (by decide) (fun c2_s => ?_) (fun c2_s => ?_)
    · replace t_s := t_s.1 c2_s
      refine w_t (pc := 17) (e_s := (0, 1, 0, 0, 0, .int 0, [])) (y_s := (18, [some (.long _), none, some (.long _), none, some (.long _), none], [.int _], _)) rfl (u_ rfl) ?_
      refine wrI (pc := 18) (len_s := 1) rfl hk ?_
      show wF _ 161 (41, [some (.ref _), some (.int _), some (.int _)], [.int _], _) _
      refine w_t (pc := 41) (e_s := (15, 3, 69, 0, 0, .null, [])) (y_s := (69, [some (.ref _), some (.int _), some (.int _)], [], _)) rfl (u_ rfl) ?_
      refine w_t (pc := 69) (e_s := (1, 1, 2, 0, 0, .null, [])) (y_s := (70, [some (.ref _), some (.int _), some (.int _)], [.int _], _)) rfl (u_ rfl) ?_
      refine w_t (pc := 70) (e_s := (10, 1, 0, 0, 0, .null, [])) (y_s := (71, [some (.ref _), some (.int _), some (.int _)], [.long (Int32.toInt64 _)], _)) rfl (u_ rfl) ?_
      refine w_t (pc := 71) (e_s := (0, 3, 0, 0, 0, .long 9, [(0, 1066)])) (y_s := (74, [some (.ref _), some (.int _), some (.int _)], [.long _, .long _], _)) rfl (u_ rfl) ?_
      refine w_t (pc := 74) (e_s := (0, 3, 0, 0, 0, .long 11, [(0, 1075)])) (y_s := (77, [some (.ref _), some (.int _), some (.int _)], [.long _, .long _, .long _], _)) rfl (u_ rfl) ?_
      refine wcI (pc := 77) (len_s := 3) rfl rfl (l := [some (.long _), none, some (.long _), none, some (.long _), none]) rfl ?_
      refine w_t (pc := 0) (e_s := (2, 1, 0, 0, 0, .null, [])) (y_s := (1, [some (.long _), none, some (.long _), none, some (.long _), none], [.long _], _)) rfl (u_ rfl) ?_
      refine w_t (pc := 1) (e_s := (2, 1, 2, 0, 0, .null, [])) (y_s := (2, [some (.long _), none, some (.long _), none, some (.long _), none], [.long _, .long _], _)) rfl (u_ rfl) ?_
      refine w_t (pc := 2) (e_s := (14, 1, 0, 0, 0, .null, [])) (y_s := (3, [some (.long _), none, some (.long _), none, some (.long _), none], [.int (lg_cmp _ _)], _)) rfl (u_ rfl) ?_
      refine wl2 (pc := 3) (len_s := 3) (Y := 9) rfl (Int32.toInt_toInt64 _) (by decide) (fun c3_s => ?_) (fun c3_s => ?_)
      · replace t_s := t_s.1 c3_s
        refine w_t (pc := 17) (e_s := (0, 1, 0, 0, 0, .int 0, [])) (y_s := (18, [some (.long _), none, some (.long _), none, some (.long _), none], [.int _], _)) rfl (u_ rfl) ?_
        refine wrI (pc := 18) (len_s := 1) rfl hk ?_
        show wF _ 161 (80, [some (.ref _), some (.int _), some (.int _)], [.int _], _) _
        refine w_t (pc := 80) (e_s := (15, 3, 107, 0, 0, .null, [])) (y_s := (107, [some (.ref _), some (.int _), some (.int _)], [], _)) rfl (u_ rfl) ?_
        refine w_t (pc := 107) (e_s := (0, 1, 0, 0, 0, .int (-1), [])) (y_s := (108, [some (.ref _), some (.int _), some (.int _)], [.int _], _)) rfl (u_ rfl) ?_
        exact wrI (pc := 108) (len_s := 1) rfl hk t_s
      · replace t_s := t_s.2 c3_s
        refine w_t (pc := 6) (e_s := (2, 1, 0, 0, 0, .null, [])) (y_s := (7, [some (.long _), none, some (.long _), none, some (.long _), none], [.long _], _)) rfl (u_ rfl) ?_
        refine w_t (pc := 7) (e_s := (2, 2, 4, 0, 0, .null, [])) (y_s := (9, [some (.long _), none, some (.long _), none, some (.long _), none], [.long _, .long _], _)) rfl (u_ rfl) ?_
        refine w_t (pc := 9) (e_s := (14, 1, 0, 0, 0, .null, [])) (y_s := (10, [some (.long _), none, some (.long _), none, some (.long _), none], [.int (lg_cmp _ _)], _)) rfl (u_ rfl) ?_
        refine wl4 (pc := 10) (len_s := 3) (Y := 11) rfl (Int32.toInt_toInt64 _) (by decide) (fun c4_s => ?_) (fun c4_s => ?_)
        · replace t_s := t_s.1 c4_s
          refine w_t (pc := 17) (e_s := (0, 1, 0, 0, 0, .int 0, [])) (y_s := (18, [some (.long _), none, some (.long _), none, some (.long _), none], [.int _], _)) rfl (u_ rfl) ?_
          refine wrI (pc := 18) (len_s := 1) rfl hk ?_
          show wF _ 161 (80, [some (.ref _), some (.int _), some (.int _)], [.int _], _) _
          refine w_t (pc := 80) (e_s := (15, 3, 107, 0, 0, .null, [])) (y_s := (107, [some (.ref _), some (.int _), some (.int _)], [], _)) rfl (u_ rfl) ?_
          refine w_t (pc := 107) (e_s := (0, 1, 0, 0, 0, .int (-1), [])) (y_s := (108, [some (.ref _), some (.int _), some (.int _)], [.int _], _)) rfl (u_ rfl) ?_
          exact wrI (pc := 108) (len_s := 1) rfl hk t_s
        · replace t_s := t_s.2 c4_s
          refine w_t (pc := 13) (e_s := (0, 1, 0, 0, 0, .int 1, [])) (y_s := (14, [some (.long _), none, some (.long _), none, some (.long _), none], [.int _], _)) rfl (u_ rfl) ?_
          refine w_t (pc := 14) (e_s := (17, 3, 18, 0, 0, .null, [])) (y_s := (18, [some (.long _), none, some (.long _), none, some (.long _), none], [.int _], _)) rfl (u_ rfl) ?_
          refine wrI (pc := 18) (len_s := 1) rfl hk ?_
          show wF _ 161 (80, [some (.ref _), some (.int _), some (.int _)], [.int _], _) _
          refine w_t (pc := 80) (e_s := (15, 3, 107, 0, 0, .null, [])) (y_s := (83, [some (.ref _), some (.int _), some (.int _)], [], _)) rfl (u_ rfl) ?_
          refine w_t (pc := 83) (e_s := (3, 1, 0, 0, 0, .null, [])) (y_s := (84, [some (.ref _), some (.int _), some (.int _)], [.ref _], _)) rfl (u_ rfl) ?_
          refine w_t (pc := 84) (e_s := (1, 1, 1, 0, 0, .null, [])) (y_s := (85, [some (.ref _), some (.int _), some (.int _)], [.int _, .ref _], _)) rfl (u_ rfl) ?_
          refine w_t (pc := 85) (e_s := (10, 1, 0, 0, 0, .null, [])) (y_s := (86, [some (.ref _), some (.int _), some (.int _)], [.long (Int32.toInt64 _), .ref _], _)) rfl (u_ rfl) ?_
          refine wcI (pc := 86) (len_s := 3) rfl rfl (l := [some (.ref _), some (.long _), none]) rfl ?_
          refine w_t (pc := 0) (e_s := (2, 1, 1, 0, 0, .null, [])) (y_s := (1, [some (.ref _), some (.long _), none], [.long _], _)) rfl (u_ rfl) ?_
          refine w_t (pc := 1) (e_s := (0, 1, 0, 0, 0, .long 0, [])) (y_s := (2, [some (.ref _), some (.long _), none], [.long _, .long _], _)) rfl (u_ rfl) ?_
          refine w_t (pc := 2) (e_s := (3, 1, 0, 0, 0, .null, [])) (y_s := (3, [some (.ref _), some (.long _), none], [.ref _, .long _, .long _], _)) rfl (u_ rfl) ?_
          refine w20 (pc := 3) (len_s := 3) rfl ?_
          refine w_t (pc := 6) (e_s := (0, 1, 0, 0, 0, .int 1, [])) (y_s := (7, [some (.ref _), some (.long _), none], [.int _, .int _, .long _, .long _], _)) rfl (u_ rfl) ?_
          refine w_t (pc := 7) (e_s := (7, 1, 0, 1, 0, .null, [])) (y_s := (8, [some (.ref _), some (.long _), none], [.int (_ - _), .long _, .long _], _)) rfl (u_ rfl) ?_
          refine w_t (pc := 8) (e_s := (10, 1, 0, 0, 0, .null, [])) (y_s := (9, [some (.ref _), some (.long _), none], [.long (Int32.toInt64 _), .long _, .long _], _)) rfl (u_ rfl) ?_
          refine wcI (pc := 9) (len_s := 3) rfl rfl (l := [some (.long _), none, some (.long _), none, some (.long _), none]) rfl ?_
          refine w_t (pc := 0) (e_s := (2, 1, 0, 0, 0, .null, [])) (y_s := (1, [some (.long _), none, some (.long _), none, some (.long _), none], [.long _], _)) rfl (u_ rfl) ?_
          refine w_t (pc := 1) (e_s := (2, 1, 2, 0, 0, .null, [])) (y_s := (2, [some (.long _), none, some (.long _), none, some (.long _), none], [.long _, .long _], _)) rfl (u_ rfl) ?_
          refine w_t (pc := 2) (e_s := (14, 1, 0, 0, 0, .null, [])) (y_s := (3, [some (.long _), none, some (.long _), none, some (.long _), none], [.int (lg_cmp _ _)], _)) rfl (u_ rfl) ?_
          refine wl2 (pc := 3) (len_s := 3) (Y := 0) rfl (Int32.toInt_toInt64 _) (by decide) (fun c5_s => ?_) (fun c5_s => ?_)
          · replace t_s := t_s.1 c5_s
            refine w_t (pc := 17) (e_s := (0, 1, 0, 0, 0, .int 0, [])) (y_s := (18, [some (.long _), none, some (.long _), none, some (.long _), none], [.int _], _)) rfl (u_ rfl) ?_
            refine wrI (pc := 18) (len_s := 1) rfl hk ?_
            show wF _ 153 (12, [some (.ref _), some (.long _), none], [.int _], _) _
            refine wrI (pc := 12) (len_s := 1) rfl hk ?_
            show wF _ 161 (89, [some (.ref _), some (.int _), some (.int _)], [.int _], _) _
            refine w_t (pc := 89) (e_s := (15, 3, 107, 0, 0, .null, [])) (y_s := (107, [some (.ref _), some (.int _), some (.int _)], [], _)) rfl (u_ rfl) ?_
            refine w_t (pc := 107) (e_s := (0, 1, 0, 0, 0, .int (-1), [])) (y_s := (108, [some (.ref _), some (.int _), some (.int _)], [.int _], _)) rfl (u_ rfl) ?_
            exact wrI (pc := 108) (len_s := 1) rfl hk t_s
          · replace t_s := t_s.2 c5_s
            refine w_t (pc := 6) (e_s := (2, 1, 0, 0, 0, .null, [])) (y_s := (7, [some (.long _), none, some (.long _), none, some (.long _), none], [.long _], _)) rfl (u_ rfl) ?_
            refine w_t (pc := 7) (e_s := (2, 2, 4, 0, 0, .null, [])) (y_s := (9, [some (.long _), none, some (.long _), none, some (.long _), none], [.long _, .long _], _)) rfl (u_ rfl) ?_
            refine w_t (pc := 9) (e_s := (14, 1, 0, 0, 0, .null, [])) (y_s := (10, [some (.long _), none, some (.long _), none, some (.long _), none], [.int (lg_cmp _ _)], _)) rfl (u_ rfl) ?_
            refine wl4 (pc := 10) (len_s := 3) rfl (Int32.toInt_toInt64 _) (Int32.toInt_toInt64 _) (fun c6_s => ?_) (fun c6_s => ?_)
            · replace t_s := t_s.1 c6_s
              refine w_t (pc := 17) (e_s := (0, 1, 0, 0, 0, .int 0, [])) (y_s := (18, [some (.long _), none, some (.long _), none, some (.long _), none], [.int _], _)) rfl (u_ rfl) ?_
              refine wrI (pc := 18) (len_s := 1) rfl hk ?_
              show wF _ 153 (12, [some (.ref _), some (.long _), none], [.int _], _) _
              refine wrI (pc := 12) (len_s := 1) rfl hk ?_
              show wF _ 161 (89, [some (.ref _), some (.int _), some (.int _)], [.int _], _) _
              refine w_t (pc := 89) (e_s := (15, 3, 107, 0, 0, .null, [])) (y_s := (107, [some (.ref _), some (.int _), some (.int _)], [], _)) rfl (u_ rfl) ?_
              refine w_t (pc := 107) (e_s := (0, 1, 0, 0, 0, .int (-1), [])) (y_s := (108, [some (.ref _), some (.int _), some (.int _)], [.int _], _)) rfl (u_ rfl) ?_
              exact wrI (pc := 108) (len_s := 1) rfl hk t_s
            · replace t_s := t_s.2 c6_s
              refine w_t (pc := 13) (e_s := (0, 1, 0, 0, 0, .int 1, [])) (y_s := (14, [some (.long _), none, some (.long _), none, some (.long _), none], [.int _], _)) rfl (u_ rfl) ?_
              refine w_t (pc := 14) (e_s := (17, 3, 18, 0, 0, .null, [])) (y_s := (18, [some (.long _), none, some (.long _), none, some (.long _), none], [.int _], _)) rfl (u_ rfl) ?_
              refine wrI (pc := 18) (len_s := 1) rfl hk ?_
              show wF _ 153 (12, [some (.ref _), some (.long _), none], [.int _], _) _
              refine wrI (pc := 12) (len_s := 1) rfl hk ?_
              show wF _ 161 (89, [some (.ref _), some (.int _), some (.int _)], [.int _], _) _
              refine w_t (pc := 89) (e_s := (15, 3, 107, 0, 0, .null, [])) (y_s := (92, [some (.ref _), some (.int _), some (.int _)], [], _)) rfl (u_ rfl) ?_
              refine w_t (pc := 92) (e_s := (0, 2, 0, 0, 0, .int 68, [])) (y_s := (94, [some (.ref _), some (.int _), some (.int _)], [.int _], _)) rfl (u_ rfl) ?_
              refine w_t (pc := 94) (e_s := (0, 2, 0, 0, 0, .int 12, [])) (y_s := (96, [some (.ref _), some (.int _), some (.int _)], [.int _, .int _], _)) rfl (u_ rfl) ?_
              refine w_t (pc := 96) (e_s := (1, 1, 2, 0, 0, .null, [])) (y_s := (97, [some (.ref _), some (.int _), some (.int _)], [.int _, .int _, .int _], _)) rfl (u_ rfl) ?_
              refine w_t (pc := 97) (e_s := (0, 2, 0, 0, 0, .int 9, [])) (y_s := (99, [some (.ref _), some (.int _), some (.int _)], [.int _, .int _, .int _, .int _], _)) rfl (u_ rfl) ?_
              refine w_t (pc := 99) (e_s := (7, 1, 0, 1, 0, .null, [])) (y_s := (100, [some (.ref _), some (.int _), some (.int _)], [.int (_ - _), .int _, .int _], _)) rfl (u_ rfl) ?_
              refine w_t (pc := 100) (e_s := (7, 1, 0, 2, 0, .null, [])) (y_s := (101, [some (.ref _), some (.int _), some (.int _)], [.int (_ * _), .int _], _)) rfl (u_ rfl) ?_
              refine w_t (pc := 101) (e_s := (7, 1, 0, 0, 0, .null, [])) (y_s := (102, [some (.ref _), some (.int _), some (.int _)], [.int (_ + _)], _)) rfl (u_ rfl) ?_
              refine w_t (pc := 102) (e_s := (1, 1, 1, 0, 0, .null, [])) (y_s := (103, [some (.ref _), some (.int _), some (.int _)], [.int _, .int _], _)) rfl (u_ rfl) ?_
              refine w_t (pc := 103) (e_s := (7, 1, 0, 0, 0, .null, [])) (y_s := (104, [some (.ref _), some (.int _), some (.int _)], [.int (_ + _)], _)) rfl (u_ rfl) ?_
              refine w_t (pc := 104) (e_s := (17, 3, 108, 0, 0, .null, [])) (y_s := (108, [some (.ref _), some (.int _), some (.int _)], [.int _], _)) rfl (u_ rfl) ?_
              exact wrI (pc := 108) (len_s := 1) rfl hk t_s
    · replace t_s := t_s.2 c2_s
      refine w_t (pc := 6) (e_s := (2, 1, 0, 0, 0, .null, [])) (y_s := (7, [some (.long _), none, some (.long _), none, some (.long _), none], [.long _], _)) rfl (u_ rfl) ?_
      refine w_t (pc := 7) (e_s := (2, 2, 4, 0, 0, .null, [])) (y_s := (9, [some (.long _), none, some (.long _), none, some (.long _), none], [.long _, .long _], _)) rfl (u_ rfl) ?_
      refine w_t (pc := 9) (e_s := (14, 1, 0, 0, 0, .null, [])) (y_s := (10, [some (.long _), none, some (.long _), none, some (.long _), none], [.int (lg_cmp _ _)], _)) rfl (u_ rfl) ?_
      refine wl4 (pc := 10) (len_s := 3) (Y := 8) rfl (Int32.toInt_toInt64 _) (by decide) (fun c7_s => ?_) (fun c7_s => ?_)
      · replace t_s := t_s.1 c7_s
        refine w_t (pc := 17) (e_s := (0, 1, 0, 0, 0, .int 0, [])) (y_s := (18, [some (.long _), none, some (.long _), none, some (.long _), none], [.int _], _)) rfl (u_ rfl) ?_
        refine wrI (pc := 18) (len_s := 1) rfl hk ?_
        show wF _ 161 (41, [some (.ref _), some (.int _), some (.int _)], [.int _], _) _
        refine w_t (pc := 41) (e_s := (15, 3, 69, 0, 0, .null, [])) (y_s := (69, [some (.ref _), some (.int _), some (.int _)], [], _)) rfl (u_ rfl) ?_
        refine w_t (pc := 69) (e_s := (1, 1, 2, 0, 0, .null, [])) (y_s := (70, [some (.ref _), some (.int _), some (.int _)], [.int _], _)) rfl (u_ rfl) ?_
        refine w_t (pc := 70) (e_s := (10, 1, 0, 0, 0, .null, [])) (y_s := (71, [some (.ref _), some (.int _), some (.int _)], [.long (Int32.toInt64 _)], _)) rfl (u_ rfl) ?_
        refine w_t (pc := 71) (e_s := (0, 3, 0, 0, 0, .long 9, [(0, 1066)])) (y_s := (74, [some (.ref _), some (.int _), some (.int _)], [.long _, .long _], _)) rfl (u_ rfl) ?_
        refine w_t (pc := 74) (e_s := (0, 3, 0, 0, 0, .long 11, [(0, 1075)])) (y_s := (77, [some (.ref _), some (.int _), some (.int _)], [.long _, .long _, .long _], _)) rfl (u_ rfl) ?_
        refine wcI (pc := 77) (len_s := 3) rfl rfl (l := [some (.long _), none, some (.long _), none, some (.long _), none]) rfl ?_
        refine w_t (pc := 0) (e_s := (2, 1, 0, 0, 0, .null, [])) (y_s := (1, [some (.long _), none, some (.long _), none, some (.long _), none], [.long _], _)) rfl (u_ rfl) ?_
        refine w_t (pc := 1) (e_s := (2, 1, 2, 0, 0, .null, [])) (y_s := (2, [some (.long _), none, some (.long _), none, some (.long _), none], [.long _, .long _], _)) rfl (u_ rfl) ?_
        refine w_t (pc := 2) (e_s := (14, 1, 0, 0, 0, .null, [])) (y_s := (3, [some (.long _), none, some (.long _), none, some (.long _), none], [.int (lg_cmp _ _)], _)) rfl (u_ rfl) ?_
        refine wl2 (pc := 3) (len_s := 3) (Y := 9) rfl (Int32.toInt_toInt64 _) (by decide) (fun c8_s => ?_) (fun c8_s => ?_)
        · replace t_s := t_s.1 c8_s
          refine w_t (pc := 17) (e_s := (0, 1, 0, 0, 0, .int 0, [])) (y_s := (18, [some (.long _), none, some (.long _), none, some (.long _), none], [.int _], _)) rfl (u_ rfl) ?_
          refine wrI (pc := 18) (len_s := 1) rfl hk ?_
          show wF _ 161 (80, [some (.ref _), some (.int _), some (.int _)], [.int _], _) _
          refine w_t (pc := 80) (e_s := (15, 3, 107, 0, 0, .null, [])) (y_s := (107, [some (.ref _), some (.int _), some (.int _)], [], _)) rfl (u_ rfl) ?_
          refine w_t (pc := 107) (e_s := (0, 1, 0, 0, 0, .int (-1), [])) (y_s := (108, [some (.ref _), some (.int _), some (.int _)], [.int _], _)) rfl (u_ rfl) ?_
          exact wrI (pc := 108) (len_s := 1) rfl hk t_s
        · replace t_s := t_s.2 c8_s
          refine w_t (pc := 6) (e_s := (2, 1, 0, 0, 0, .null, [])) (y_s := (7, [some (.long _), none, some (.long _), none, some (.long _), none], [.long _], _)) rfl (u_ rfl) ?_
          refine w_t (pc := 7) (e_s := (2, 2, 4, 0, 0, .null, [])) (y_s := (9, [some (.long _), none, some (.long _), none, some (.long _), none], [.long _, .long _], _)) rfl (u_ rfl) ?_
          refine w_t (pc := 9) (e_s := (14, 1, 0, 0, 0, .null, [])) (y_s := (10, [some (.long _), none, some (.long _), none, some (.long _), none], [.int (lg_cmp _ _)], _)) rfl (u_ rfl) ?_
          refine wl4 (pc := 10) (len_s := 3) (Y := 11) rfl (Int32.toInt_toInt64 _) (by decide) (fun c9_s => ?_) (fun c9_s => ?_)
          · replace t_s := t_s.1 c9_s
            refine w_t (pc := 17) (e_s := (0, 1, 0, 0, 0, .int 0, [])) (y_s := (18, [some (.long _), none, some (.long _), none, some (.long _), none], [.int _], _)) rfl (u_ rfl) ?_
            refine wrI (pc := 18) (len_s := 1) rfl hk ?_
            show wF _ 161 (80, [some (.ref _), some (.int _), some (.int _)], [.int _], _) _
            refine w_t (pc := 80) (e_s := (15, 3, 107, 0, 0, .null, [])) (y_s := (107, [some (.ref _), some (.int _), some (.int _)], [], _)) rfl (u_ rfl) ?_
            refine w_t (pc := 107) (e_s := (0, 1, 0, 0, 0, .int (-1), [])) (y_s := (108, [some (.ref _), some (.int _), some (.int _)], [.int _], _)) rfl (u_ rfl) ?_
            exact wrI (pc := 108) (len_s := 1) rfl hk t_s
          · replace t_s := t_s.2 c9_s
            refine w_t (pc := 13) (e_s := (0, 1, 0, 0, 0, .int 1, [])) (y_s := (14, [some (.long _), none, some (.long _), none, some (.long _), none], [.int _], _)) rfl (u_ rfl) ?_
            refine w_t (pc := 14) (e_s := (17, 3, 18, 0, 0, .null, [])) (y_s := (18, [some (.long _), none, some (.long _), none, some (.long _), none], [.int _], _)) rfl (u_ rfl) ?_
            refine wrI (pc := 18) (len_s := 1) rfl hk ?_
            show wF _ 161 (80, [some (.ref _), some (.int _), some (.int _)], [.int _], _) _
            refine w_t (pc := 80) (e_s := (15, 3, 107, 0, 0, .null, [])) (y_s := (83, [some (.ref _), some (.int _), some (.int _)], [], _)) rfl (u_ rfl) ?_
            refine w_t (pc := 83) (e_s := (3, 1, 0, 0, 0, .null, [])) (y_s := (84, [some (.ref _), some (.int _), some (.int _)], [.ref _], _)) rfl (u_ rfl) ?_
            refine w_t (pc := 84) (e_s := (1, 1, 1, 0, 0, .null, [])) (y_s := (85, [some (.ref _), some (.int _), some (.int _)], [.int _, .ref _], _)) rfl (u_ rfl) ?_
            refine w_t (pc := 85) (e_s := (10, 1, 0, 0, 0, .null, [])) (y_s := (86, [some (.ref _), some (.int _), some (.int _)], [.long (Int32.toInt64 _), .ref _], _)) rfl (u_ rfl) ?_
            refine wcI (pc := 86) (len_s := 3) rfl rfl (l := [some (.ref _), some (.long _), none]) rfl ?_
            refine w_t (pc := 0) (e_s := (2, 1, 1, 0, 0, .null, [])) (y_s := (1, [some (.ref _), some (.long _), none], [.long _], _)) rfl (u_ rfl) ?_
            refine w_t (pc := 1) (e_s := (0, 1, 0, 0, 0, .long 0, [])) (y_s := (2, [some (.ref _), some (.long _), none], [.long _, .long _], _)) rfl (u_ rfl) ?_
            refine w_t (pc := 2) (e_s := (3, 1, 0, 0, 0, .null, [])) (y_s := (3, [some (.ref _), some (.long _), none], [.ref _, .long _, .long _], _)) rfl (u_ rfl) ?_
            refine w20 (pc := 3) (len_s := 3) rfl ?_
            refine w_t (pc := 6) (e_s := (0, 1, 0, 0, 0, .int 1, [])) (y_s := (7, [some (.ref _), some (.long _), none], [.int _, .int _, .long _, .long _], _)) rfl (u_ rfl) ?_
            refine w_t (pc := 7) (e_s := (7, 1, 0, 1, 0, .null, [])) (y_s := (8, [some (.ref _), some (.long _), none], [.int (_ - _), .long _, .long _], _)) rfl (u_ rfl) ?_
            refine w_t (pc := 8) (e_s := (10, 1, 0, 0, 0, .null, [])) (y_s := (9, [some (.ref _), some (.long _), none], [.long (Int32.toInt64 _), .long _, .long _], _)) rfl (u_ rfl) ?_
            refine wcI (pc := 9) (len_s := 3) rfl rfl (l := [some (.long _), none, some (.long _), none, some (.long _), none]) rfl ?_
            refine w_t (pc := 0) (e_s := (2, 1, 0, 0, 0, .null, [])) (y_s := (1, [some (.long _), none, some (.long _), none, some (.long _), none], [.long _], _)) rfl (u_ rfl) ?_
            refine w_t (pc := 1) (e_s := (2, 1, 2, 0, 0, .null, [])) (y_s := (2, [some (.long _), none, some (.long _), none, some (.long _), none], [.long _, .long _], _)) rfl (u_ rfl) ?_
            refine w_t (pc := 2) (e_s := (14, 1, 0, 0, 0, .null, [])) (y_s := (3, [some (.long _), none, some (.long _), none, some (.long _), none], [.int (lg_cmp _ _)], _)) rfl (u_ rfl) ?_
            refine wl2 (pc := 3) (len_s := 3) (Y := 0) rfl (Int32.toInt_toInt64 _) (by decide) (fun c10_s => ?_) (fun c10_s => ?_)
            · replace t_s := t_s.1 c10_s
              refine w_t (pc := 17) (e_s := (0, 1, 0, 0, 0, .int 0, [])) (y_s := (18, [some (.long _), none, some (.long _), none, some (.long _), none], [.int _], _)) rfl (u_ rfl) ?_
              refine wrI (pc := 18) (len_s := 1) rfl hk ?_
              show wF _ 153 (12, [some (.ref _), some (.long _), none], [.int _], _) _
              refine wrI (pc := 12) (len_s := 1) rfl hk ?_
              show wF _ 161 (89, [some (.ref _), some (.int _), some (.int _)], [.int _], _) _
              refine w_t (pc := 89) (e_s := (15, 3, 107, 0, 0, .null, [])) (y_s := (107, [some (.ref _), some (.int _), some (.int _)], [], _)) rfl (u_ rfl) ?_
              refine w_t (pc := 107) (e_s := (0, 1, 0, 0, 0, .int (-1), [])) (y_s := (108, [some (.ref _), some (.int _), some (.int _)], [.int _], _)) rfl (u_ rfl) ?_
              exact wrI (pc := 108) (len_s := 1) rfl hk t_s
            · replace t_s := t_s.2 c10_s
              refine w_t (pc := 6) (e_s := (2, 1, 0, 0, 0, .null, [])) (y_s := (7, [some (.long _), none, some (.long _), none, some (.long _), none], [.long _], _)) rfl (u_ rfl) ?_
              refine w_t (pc := 7) (e_s := (2, 2, 4, 0, 0, .null, [])) (y_s := (9, [some (.long _), none, some (.long _), none, some (.long _), none], [.long _, .long _], _)) rfl (u_ rfl) ?_
              refine w_t (pc := 9) (e_s := (14, 1, 0, 0, 0, .null, [])) (y_s := (10, [some (.long _), none, some (.long _), none, some (.long _), none], [.int (lg_cmp _ _)], _)) rfl (u_ rfl) ?_
              refine wl4 (pc := 10) (len_s := 3) rfl (Int32.toInt_toInt64 _) (Int32.toInt_toInt64 _) (fun c11_s => ?_) (fun c11_s => ?_)
              · replace t_s := t_s.1 c11_s
                refine w_t (pc := 17) (e_s := (0, 1, 0, 0, 0, .int 0, [])) (y_s := (18, [some (.long _), none, some (.long _), none, some (.long _), none], [.int _], _)) rfl (u_ rfl) ?_
                refine wrI (pc := 18) (len_s := 1) rfl hk ?_
                show wF _ 153 (12, [some (.ref _), some (.long _), none], [.int _], _) _
                refine wrI (pc := 12) (len_s := 1) rfl hk ?_
                show wF _ 161 (89, [some (.ref _), some (.int _), some (.int _)], [.int _], _) _
                refine w_t (pc := 89) (e_s := (15, 3, 107, 0, 0, .null, [])) (y_s := (107, [some (.ref _), some (.int _), some (.int _)], [], _)) rfl (u_ rfl) ?_
                refine w_t (pc := 107) (e_s := (0, 1, 0, 0, 0, .int (-1), [])) (y_s := (108, [some (.ref _), some (.int _), some (.int _)], [.int _], _)) rfl (u_ rfl) ?_
                exact wrI (pc := 108) (len_s := 1) rfl hk t_s
              · replace t_s := t_s.2 c11_s
                refine w_t (pc := 13) (e_s := (0, 1, 0, 0, 0, .int 1, [])) (y_s := (14, [some (.long _), none, some (.long _), none, some (.long _), none], [.int _], _)) rfl (u_ rfl) ?_
                refine w_t (pc := 14) (e_s := (17, 3, 18, 0, 0, .null, [])) (y_s := (18, [some (.long _), none, some (.long _), none, some (.long _), none], [.int _], _)) rfl (u_ rfl) ?_
                refine wrI (pc := 18) (len_s := 1) rfl hk ?_
                show wF _ 153 (12, [some (.ref _), some (.long _), none], [.int _], _) _
                refine wrI (pc := 12) (len_s := 1) rfl hk ?_
                show wF _ 161 (89, [some (.ref _), some (.int _), some (.int _)], [.int _], _) _
                refine w_t (pc := 89) (e_s := (15, 3, 107, 0, 0, .null, [])) (y_s := (92, [some (.ref _), some (.int _), some (.int _)], [], _)) rfl (u_ rfl) ?_
                refine w_t (pc := 92) (e_s := (0, 2, 0, 0, 0, .int 68, [])) (y_s := (94, [some (.ref _), some (.int _), some (.int _)], [.int _], _)) rfl (u_ rfl) ?_
                refine w_t (pc := 94) (e_s := (0, 2, 0, 0, 0, .int 12, [])) (y_s := (96, [some (.ref _), some (.int _), some (.int _)], [.int _, .int _], _)) rfl (u_ rfl) ?_
                refine w_t (pc := 96) (e_s := (1, 1, 2, 0, 0, .null, [])) (y_s := (97, [some (.ref _), some (.int _), some (.int _)], [.int _, .int _, .int _], _)) rfl (u_ rfl) ?_
                refine w_t (pc := 97) (e_s := (0, 2, 0, 0, 0, .int 9, [])) (y_s := (99, [some (.ref _), some (.int _), some (.int _)], [.int _, .int _, .int _, .int _], _)) rfl (u_ rfl) ?_
                refine w_t (pc := 99) (e_s := (7, 1, 0, 1, 0, .null, [])) (y_s := (100, [some (.ref _), some (.int _), some (.int _)], [.int (_ - _), .int _, .int _], _)) rfl (u_ rfl) ?_
                refine w_t (pc := 100) (e_s := (7, 1, 0, 2, 0, .null, [])) (y_s := (101, [some (.ref _), some (.int _), some (.int _)], [.int (_ * _), .int _], _)) rfl (u_ rfl) ?_
                refine w_t (pc := 101) (e_s := (7, 1, 0, 0, 0, .null, [])) (y_s := (102, [some (.ref _), some (.int _), some (.int _)], [.int (_ + _)], _)) rfl (u_ rfl) ?_
                refine w_t (pc := 102) (e_s := (1, 1, 1, 0, 0, .null, [])) (y_s := (103, [some (.ref _), some (.int _), some (.int _)], [.int _, .int _], _)) rfl (u_ rfl) ?_
                refine w_t (pc := 103) (e_s := (7, 1, 0, 0, 0, .null, [])) (y_s := (104, [some (.ref _), some (.int _), some (.int _)], [.int (_ + _)], _)) rfl (u_ rfl) ?_
                refine w_t (pc := 104) (e_s := (17, 3, 108, 0, 0, .null, [])) (y_s := (108, [some (.ref _), some (.int _), some (.int _)], [.int _], _)) rfl (u_ rfl) ?_
                exact wrI (pc := 108) (len_s := 1) rfl hk t_s
      · replace t_s := t_s.2 c7_s
        refine w_t (pc := 13) (e_s := (0, 1, 0, 0, 0, .int 1, [])) (y_s := (14, [some (.long _), none, some (.long _), none, some (.long _), none], [.int _], _)) rfl (u_ rfl) ?_
        refine w_t (pc := 14) (e_s := (17, 3, 18, 0, 0, .null, [])) (y_s := (18, [some (.long _), none, some (.long _), none, some (.long _), none], [.int _], _)) rfl (u_ rfl) ?_
        refine wrI (pc := 18) (len_s := 1) rfl hk ?_
        show wF _ 161 (41, [some (.ref _), some (.int _), some (.int _)], [.int _], _) _
        refine w_t (pc := 41) (e_s := (15, 3, 69, 0, 0, .null, [])) (y_s := (44, [some (.ref _), some (.int _), some (.int _)], [], _)) rfl (u_ rfl) ?_
        refine w_t (pc := 44) (e_s := (3, 1, 0, 0, 0, .null, [])) (y_s := (45, [some (.ref _), some (.int _), some (.int _)], [.ref _], _)) rfl (u_ rfl) ?_
        refine w_t (pc := 45) (e_s := (1, 1, 1, 0, 0, .null, [])) (y_s := (46, [some (.ref _), some (.int _), some (.int _)], [.int _, .ref _], _)) rfl (u_ rfl) ?_
        refine w_t (pc := 46) (e_s := (10, 1, 0, 0, 0, .null, [])) (y_s := (47, [some (.ref _), some (.int _), some (.int _)], [.long (Int32.toInt64 _), .ref _], _)) rfl (u_ rfl) ?_
        refine wcI (pc := 47) (len_s := 3) rfl rfl (l := [some (.ref _), some (.long _), none]) rfl ?_
        refine w_t (pc := 0) (e_s := (2, 1, 1, 0, 0, .null, [])) (y_s := (1, [some (.ref _), some (.long _), none], [.long _], _)) rfl (u_ rfl) ?_
        refine w_t (pc := 1) (e_s := (0, 1, 0, 0, 0, .long 0, [])) (y_s := (2, [some (.ref _), some (.long _), none], [.long _, .long _], _)) rfl (u_ rfl) ?_
        refine w_t (pc := 2) (e_s := (3, 1, 0, 0, 0, .null, [])) (y_s := (3, [some (.ref _), some (.long _), none], [.ref _, .long _, .long _], _)) rfl (u_ rfl) ?_
        refine w20 (pc := 3) (len_s := 3) rfl ?_
        refine w_t (pc := 6) (e_s := (0, 1, 0, 0, 0, .int 1, [])) (y_s := (7, [some (.ref _), some (.long _), none], [.int _, .int _, .long _, .long _], _)) rfl (u_ rfl) ?_
        refine w_t (pc := 7) (e_s := (7, 1, 0, 1, 0, .null, [])) (y_s := (8, [some (.ref _), some (.long _), none], [.int (_ - _), .long _, .long _], _)) rfl (u_ rfl) ?_
        refine w_t (pc := 8) (e_s := (10, 1, 0, 0, 0, .null, [])) (y_s := (9, [some (.ref _), some (.long _), none], [.long (Int32.toInt64 _), .long _, .long _], _)) rfl (u_ rfl) ?_
        refine wcI (pc := 9) (len_s := 3) rfl rfl (l := [some (.long _), none, some (.long _), none, some (.long _), none]) rfl ?_
        refine w_t (pc := 0) (e_s := (2, 1, 0, 0, 0, .null, [])) (y_s := (1, [some (.long _), none, some (.long _), none, some (.long _), none], [.long _], _)) rfl (u_ rfl) ?_
        refine w_t (pc := 1) (e_s := (2, 1, 2, 0, 0, .null, [])) (y_s := (2, [some (.long _), none, some (.long _), none, some (.long _), none], [.long _, .long _], _)) rfl (u_ rfl) ?_
        refine w_t (pc := 2) (e_s := (14, 1, 0, 0, 0, .null, [])) (y_s := (3, [some (.long _), none, some (.long _), none, some (.long _), none], [.int (lg_cmp _ _)], _)) rfl (u_ rfl) ?_
        refine wl2 (pc := 3) (len_s := 3) (Y := 0) rfl (Int32.toInt_toInt64 _) (by decide) (fun c12_s => ?_) (fun c12_s => ?_)
        · replace t_s := t_s.1 c12_s
          refine w_t (pc := 17) (e_s := (0, 1, 0, 0, 0, .int 0, [])) (y_s := (18, [some (.long _), none, some (.long _), none, some (.long _), none], [.int _], _)) rfl (u_ rfl) ?_
          refine wrI (pc := 18) (len_s := 1) rfl hk ?_
          show wF _ 152 (12, [some (.ref _), some (.long _), none], [.int _], _) _
          refine wrI (pc := 12) (len_s := 1) rfl hk ?_
          show wF _ 161 (50, [some (.ref _), some (.int _), some (.int _)], [.int _], _) _
          refine w_t (pc := 50) (e_s := (15, 3, 67, 0, 0, .null, [])) (y_s := (67, [some (.ref _), some (.int _), some (.int _)], [], _)) rfl (u_ rfl) ?_
          refine w_t (pc := 67) (e_s := (0, 1, 0, 0, 0, .int (-1), [])) (y_s := (68, [some (.ref _), some (.int _), some (.int _)], [.int _], _)) rfl (u_ rfl) ?_
          exact wrI (pc := 68) (len_s := 1) rfl hk t_s
        · replace t_s := t_s.2 c12_s
          refine w_t (pc := 6) (e_s := (2, 1, 0, 0, 0, .null, [])) (y_s := (7, [some (.long _), none, some (.long _), none, some (.long _), none], [.long _], _)) rfl (u_ rfl) ?_
          refine w_t (pc := 7) (e_s := (2, 2, 4, 0, 0, .null, [])) (y_s := (9, [some (.long _), none, some (.long _), none, some (.long _), none], [.long _, .long _], _)) rfl (u_ rfl) ?_
          refine w_t (pc := 9) (e_s := (14, 1, 0, 0, 0, .null, [])) (y_s := (10, [some (.long _), none, some (.long _), none, some (.long _), none], [.int (lg_cmp _ _)], _)) rfl (u_ rfl) ?_
          refine wl4 (pc := 10) (len_s := 3) rfl (Int32.toInt_toInt64 _) (Int32.toInt_toInt64 _) (fun c13_s => ?_) (fun c13_s => ?_)
          · replace t_s := t_s.1 c13_s
            refine w_t (pc := 17) (e_s := (0, 1, 0, 0, 0, .int 0, [])) (y_s := (18, [some (.long _), none, some (.long _), none, some (.long _), none], [.int _], _)) rfl (u_ rfl) ?_
            refine wrI (pc := 18) (len_s := 1) rfl hk ?_
            show wF _ 152 (12, [some (.ref _), some (.long _), none], [.int _], _) _
            refine wrI (pc := 12) (len_s := 1) rfl hk ?_
            show wF _ 161 (50, [some (.ref _), some (.int _), some (.int _)], [.int _], _) _
            refine w_t (pc := 50) (e_s := (15, 3, 67, 0, 0, .null, [])) (y_s := (67, [some (.ref _), some (.int _), some (.int _)], [], _)) rfl (u_ rfl) ?_
            refine w_t (pc := 67) (e_s := (0, 1, 0, 0, 0, .int (-1), [])) (y_s := (68, [some (.ref _), some (.int _), some (.int _)], [.int _], _)) rfl (u_ rfl) ?_
            exact wrI (pc := 68) (len_s := 1) rfl hk t_s
          · replace t_s := t_s.2 c13_s
            refine w_t (pc := 13) (e_s := (0, 1, 0, 0, 0, .int 1, [])) (y_s := (14, [some (.long _), none, some (.long _), none, some (.long _), none], [.int _], _)) rfl (u_ rfl) ?_
            refine w_t (pc := 14) (e_s := (17, 3, 18, 0, 0, .null, [])) (y_s := (18, [some (.long _), none, some (.long _), none, some (.long _), none], [.int _], _)) rfl (u_ rfl) ?_
            refine wrI (pc := 18) (len_s := 1) rfl hk ?_
            show wF _ 152 (12, [some (.ref _), some (.long _), none], [.int _], _) _
            refine wrI (pc := 12) (len_s := 1) rfl hk ?_
            show wF _ 161 (50, [some (.ref _), some (.int _), some (.int _)], [.int _], _) _
            refine w_t (pc := 50) (e_s := (15, 3, 67, 0, 0, .null, [])) (y_s := (53, [some (.ref _), some (.int _), some (.int _)], [], _)) rfl (u_ rfl) ?_
            refine w_t (pc := 53) (e_s := (0, 2, 0, 0, 0, .int 12, [])) (y_s := (55, [some (.ref _), some (.int _), some (.int _)], [.int _], _)) rfl (u_ rfl) ?_
            refine w_t (pc := 55) (e_s := (0, 2, 0, 0, 0, .int 8, [])) (y_s := (57, [some (.ref _), some (.int _), some (.int _)], [.int _, .int _], _)) rfl (u_ rfl) ?_
            refine w_t (pc := 57) (e_s := (1, 1, 2, 0, 0, .null, [])) (y_s := (58, [some (.ref _), some (.int _), some (.int _)], [.int _, .int _, .int _], _)) rfl (u_ rfl) ?_
            refine w_t (pc := 58) (e_s := (0, 1, 0, 0, 0, .int 2, [])) (y_s := (59, [some (.ref _), some (.int _), some (.int _)], [.int _, .int _, .int _, .int _], _)) rfl (u_ rfl) ?_
            refine w_t (pc := 59) (e_s := (7, 1, 0, 1, 0, .null, [])) (y_s := (60, [some (.ref _), some (.int _), some (.int _)], [.int (_ - _), .int _, .int _], _)) rfl (u_ rfl) ?_
            refine w_t (pc := 60) (e_s := (7, 1, 0, 2, 0, .null, [])) (y_s := (61, [some (.ref _), some (.int _), some (.int _)], [.int (_ * _), .int _], _)) rfl (u_ rfl) ?_
            refine w_t (pc := 61) (e_s := (7, 1, 0, 0, 0, .null, [])) (y_s := (62, [some (.ref _), some (.int _), some (.int _)], [.int (_ + _)], _)) rfl (u_ rfl) ?_
            refine w_t (pc := 62) (e_s := (1, 1, 1, 0, 0, .null, [])) (y_s := (63, [some (.ref _), some (.int _), some (.int _)], [.int _, .int _], _)) rfl (u_ rfl) ?_
            refine w_t (pc := 63) (e_s := (7, 1, 0, 0, 0, .null, [])) (y_s := (64, [some (.ref _), some (.int _), some (.int _)], [.int (_ + _)], _)) rfl (u_ rfl) ?_
            refine w_t (pc := 64) (e_s := (17, 3, 68, 0, 0, .null, [])) (y_s := (68, [some (.ref _), some (.int _), some (.int _)], [.int _], _)) rfl (u_ rfl) ?_
            exact wrI (pc := 68) (len_s := 1) rfl hk t_s
  · replace t_s := t_s.2 c1_s
    refine w_t (pc := 6) (e_s := (2, 1, 0, 0, 0, .null, [])) (y_s := (7, [some (.long _), none, some (.long _), none, some (.long _), none], [.long _], _)) rfl (u_ rfl) ?_
    refine w_t (pc := 7) (e_s := (2, 2, 4, 0, 0, .null, [])) (y_s := (9, [some (.long _), none, some (.long _), none, some (.long _), none], [.long _, .long _], _)) rfl (u_ rfl) ?_
    refine w_t (pc := 9) (e_s := (14, 1, 0, 0, 0, .null, [])) (y_s := (10, [some (.long _), none, some (.long _), none, some (.long _), none], [.int (lg_cmp _ _)], _)) rfl (u_ rfl) ?_
    refine wl4 (pc := 10) (len_s := 3) (Y := 1) rfl (Int32.toInt_toInt64 _) (by decide) (fun c14_s => ?_) (fun c14_s => ?_)
    · replace t_s := t_s.1 c14_s
      refine w_t (pc := 17) (e_s := (0, 1, 0, 0, 0, .int 0, [])) (y_s := (18, [some (.long _), none, some (.long _), none, some (.long _), none], [.int _], _)) rfl (u_ rfl) ?_
      refine wrI (pc := 18) (len_s := 1) rfl hk ?_
      show wF _ 161 (7, [some (.ref _), some (.int _), some (.int _)], [.int _], _) _
      refine w_t (pc := 7) (e_s := (15, 3, 30, 0, 0, .null, [])) (y_s := (30, [some (.ref _), some (.int _), some (.int _)], [], _)) rfl (u_ rfl) ?_
      refine w_t (pc := 30) (e_s := (1, 1, 2, 0, 0, .null, [])) (y_s := (31, [some (.ref _), some (.int _), some (.int _)], [.int _], _)) rfl (u_ rfl) ?_
      refine w_t (pc := 31) (e_s := (10, 1, 0, 0, 0, .null, [])) (y_s := (32, [some (.ref _), some (.int _), some (.int _)], [.long (Int32.toInt64 _)], _)) rfl (u_ rfl) ?_
      refine w_t (pc := 32) (e_s := (0, 3, 0, 0, 0, .long 2, [(0, 1072)])) (y_s := (35, [some (.ref _), some (.int _), some (.int _)], [.long _, .long _], _)) rfl (u_ rfl) ?_
      refine w_t (pc := 35) (e_s := (0, 3, 0, 0, 0, .long 8, [(0, 1073)])) (y_s := (38, [some (.ref _), some (.int _), some (.int _)], [.long _, .long _, .long _], _)) rfl (u_ rfl) ?_
      refine wcI (pc := 38) (len_s := 3) rfl rfl (l := [some (.long _), none, some (.long _), none, some (.long _), none]) rfl ?_
      refine w_t (pc := 0) (e_s := (2, 1, 0, 0, 0, .null, [])) (y_s := (1, [some (.long _), none, some (.long _), none, some (.long _), none], [.long _], _)) rfl (u_ rfl) ?_
      refine w_t (pc := 1) (e_s := (2, 1, 2, 0, 0, .null, [])) (y_s := (2, [some (.long _), none, some (.long _), none, some (.long _), none], [.long _, .long _], _)) rfl (u_ rfl) ?_
      refine w_t (pc := 2) (e_s := (14, 1, 0, 0, 0, .null, [])) (y_s := (3, [some (.long _), none, some (.long _), none, some (.long _), none], [.int (lg_cmp _ _)], _)) rfl (u_ rfl) ?_
      refine wl2 (pc := 3) (len_s := 3) (Y := 2) rfl (Int32.toInt_toInt64 _) (by decide) (fun c15_s => ?_) (fun c15_s => ?_)
      · replace t_s := t_s.1 c15_s
        refine w_t (pc := 17) (e_s := (0, 1, 0, 0, 0, .int 0, [])) (y_s := (18, [some (.long _), none, some (.long _), none, some (.long _), none], [.int _], _)) rfl (u_ rfl) ?_
        refine wrI (pc := 18) (len_s := 1) rfl hk ?_
        show wF _ 161 (41, [some (.ref _), some (.int _), some (.int _)], [.int _], _) _
        refine w_t (pc := 41) (e_s := (15, 3, 69, 0, 0, .null, [])) (y_s := (69, [some (.ref _), some (.int _), some (.int _)], [], _)) rfl (u_ rfl) ?_
        refine w_t (pc := 69) (e_s := (1, 1, 2, 0, 0, .null, [])) (y_s := (70, [some (.ref _), some (.int _), some (.int _)], [.int _], _)) rfl (u_ rfl) ?_
        refine w_t (pc := 70) (e_s := (10, 1, 0, 0, 0, .null, [])) (y_s := (71, [some (.ref _), some (.int _), some (.int _)], [.long (Int32.toInt64 _)], _)) rfl (u_ rfl) ?_
        refine w_t (pc := 71) (e_s := (0, 3, 0, 0, 0, .long 9, [(0, 1066)])) (y_s := (74, [some (.ref _), some (.int _), some (.int _)], [.long _, .long _], _)) rfl (u_ rfl) ?_
        refine w_t (pc := 74) (e_s := (0, 3, 0, 0, 0, .long 11, [(0, 1075)])) (y_s := (77, [some (.ref _), some (.int _), some (.int _)], [.long _, .long _, .long _], _)) rfl (u_ rfl) ?_
        refine wcI (pc := 77) (len_s := 3) rfl rfl (l := [some (.long _), none, some (.long _), none, some (.long _), none]) rfl ?_
        refine w_t (pc := 0) (e_s := (2, 1, 0, 0, 0, .null, [])) (y_s := (1, [some (.long _), none, some (.long _), none, some (.long _), none], [.long _], _)) rfl (u_ rfl) ?_
        refine w_t (pc := 1) (e_s := (2, 1, 2, 0, 0, .null, [])) (y_s := (2, [some (.long _), none, some (.long _), none, some (.long _), none], [.long _, .long _], _)) rfl (u_ rfl) ?_
        refine w_t (pc := 2) (e_s := (14, 1, 0, 0, 0, .null, [])) (y_s := (3, [some (.long _), none, some (.long _), none, some (.long _), none], [.int (lg_cmp _ _)], _)) rfl (u_ rfl) ?_
        refine wl2 (pc := 3) (len_s := 3) (Y := 9) rfl (Int32.toInt_toInt64 _) (by decide) (fun c16 => ?_) (fun c16 => ?_)
        · replace t_s := t_s.1 c16
          refine w_t (pc := 17) (e_s := (0, 1, 0, 0, 0, .int 0, [])) (y_s := (18, [some (.long _), none, some (.long _), none, some (.long _), none], [.int _], _)) rfl (u_ rfl) ?_
          refine wrI (pc := 18) (len_s := 1) rfl hk ?_
          show wF _ 161 (80, [some (.ref _), some (.int _), some (.int _)], [.int _], _) _
          refine w_t (pc := 80) (e_s := (15, 3, 107, 0, 0, .null, [])) (y_s := (107, [some (.ref _), some (.int _), some (.int _)], [], _)) rfl (u_ rfl) ?_
          refine w_t (pc := 107) (e_s := (0, 1, 0, 0, 0, .int (-1), [])) (y_s := (108, [some (.ref _), some (.int _), some (.int _)], [.int _], _)) rfl (u_ rfl) ?_
          exact wrI (pc := 108) (len_s := 1) rfl hk t_s
        · replace t_s := t_s.2 c16
          refine w_t (pc := 6) (e_s := (2, 1, 0, 0, 0, .null, [])) (y_s := (7, [some (.long _), none, some (.long _), none, some (.long _), none], [.long _], _)) rfl (u_ rfl) ?_
          refine w_t (pc := 7) (e_s := (2, 2, 4, 0, 0, .null, [])) (y_s := (9, [some (.long _), none, some (.long _), none, some (.long _), none], [.long _, .long _], _)) rfl (u_ rfl) ?_
          refine w_t (pc := 9) (e_s := (14, 1, 0, 0, 0, .null, [])) (y_s := (10, [some (.long _), none, some (.long _), none, some (.long _), none], [.int (lg_cmp _ _)], _)) rfl (u_ rfl) ?_
          refine wl4 (pc := 10) (len_s := 3) (Y := 11) rfl (Int32.toInt_toInt64 _) (by decide) (fun c17 => ?_) (fun c17 => ?_)
          · replace t_s := t_s.1 c17
            refine w_t (pc := 17) (e_s := (0, 1, 0, 0, 0, .int 0, [])) (y_s := (18, [some (.long _), none, some (.long _), none, some (.long _), none], [.int _], _)) rfl (u_ rfl) ?_
            refine wrI (pc := 18) (len_s := 1) rfl hk ?_
            show wF _ 161 (80, [some (.ref _), some (.int _), some (.int _)], [.int _], _) _
            refine w_t (pc := 80) (e_s := (15, 3, 107, 0, 0, .null, [])) (y_s := (107, [some (.ref _), some (.int _), some (.int _)], [], _)) rfl (u_ rfl) ?_
            refine w_t (pc := 107) (e_s := (0, 1, 0, 0, 0, .int (-1), [])) (y_s := (108, [some (.ref _), some (.int _), some (.int _)], [.int _], _)) rfl (u_ rfl) ?_
            exact wrI (pc := 108) (len_s := 1) rfl hk t_s
          · replace t_s := t_s.2 c17
            refine w_t (pc := 13) (e_s := (0, 1, 0, 0, 0, .int 1, [])) (y_s := (14, [some (.long _), none, some (.long _), none, some (.long _), none], [.int _], _)) rfl (u_ rfl) ?_
            refine w_t (pc := 14) (e_s := (17, 3, 18, 0, 0, .null, [])) (y_s := (18, [some (.long _), none, some (.long _), none, some (.long _), none], [.int _], _)) rfl (u_ rfl) ?_
            refine wrI (pc := 18) (len_s := 1) rfl hk ?_
            show wF _ 161 (80, [some (.ref _), some (.int _), some (.int _)], [.int _], _) _
            refine w_t (pc := 80) (e_s := (15, 3, 107, 0, 0, .null, [])) (y_s := (83, [some (.ref _), some (.int _), some (.int _)], [], _)) rfl (u_ rfl) ?_
            refine w_t (pc := 83) (e_s := (3, 1, 0, 0, 0, .null, [])) (y_s := (84, [some (.ref _), some (.int _), some (.int _)], [.ref _], _)) rfl (u_ rfl) ?_
            refine w_t (pc := 84) (e_s := (1, 1, 1, 0, 0, .null, [])) (y_s := (85, [some (.ref _), some (.int _), some (.int _)], [.int _, .ref _], _)) rfl (u_ rfl) ?_
            refine w_t (pc := 85) (e_s := (10, 1, 0, 0, 0, .null, [])) (y_s := (86, [some (.ref _), some (.int _), some (.int _)], [.long (Int32.toInt64 _), .ref _], _)) rfl (u_ rfl) ?_
            refine wcI (pc := 86) (len_s := 3) rfl rfl (l := [some (.ref _), some (.long _), none]) rfl ?_
            refine w_t (pc := 0) (e_s := (2, 1, 1, 0, 0, .null, [])) (y_s := (1, [some (.ref _), some (.long _), none], [.long _], _)) rfl (u_ rfl) ?_
            refine w_t (pc := 1) (e_s := (0, 1, 0, 0, 0, .long 0, [])) (y_s := (2, [some (.ref _), some (.long _), none], [.long _, .long _], _)) rfl (u_ rfl) ?_
            refine w_t (pc := 2) (e_s := (3, 1, 0, 0, 0, .null, [])) (y_s := (3, [some (.ref _), some (.long _), none], [.ref _, .long _, .long _], _)) rfl (u_ rfl) ?_
            refine w20 (pc := 3) (len_s := 3) rfl ?_
            refine w_t (pc := 6) (e_s := (0, 1, 0, 0, 0, .int 1, [])) (y_s := (7, [some (.ref _), some (.long _), none], [.int _, .int _, .long _, .long _], _)) rfl (u_ rfl) ?_
            refine w_t (pc := 7) (e_s := (7, 1, 0, 1, 0, .null, [])) (y_s := (8, [some (.ref _), some (.long _), none], [.int (_ - _), .long _, .long _], _)) rfl (u_ rfl) ?_
            refine w_t (pc := 8) (e_s := (10, 1, 0, 0, 0, .null, [])) (y_s := (9, [some (.ref _), some (.long _), none], [.long (Int32.toInt64 _), .long _, .long _], _)) rfl (u_ rfl) ?_
            refine wcI (pc := 9) (len_s := 3) rfl rfl (l := [some (.long _), none, some (.long _), none, some (.long _), none]) rfl ?_
            refine w_t (pc := 0) (e_s := (2, 1, 0, 0, 0, .null, [])) (y_s := (1, [some (.long _), none, some (.long _), none, some (.long _), none], [.long _], _)) rfl (u_ rfl) ?_
            refine w_t (pc := 1) (e_s := (2, 1, 2, 0, 0, .null, [])) (y_s := (2, [some (.long _), none, some (.long _), none, some (.long _), none], [.long _, .long _], _)) rfl (u_ rfl) ?_
            refine w_t (pc := 2) (e_s := (14, 1, 0, 0, 0, .null, [])) (y_s := (3, [some (.long _), none, some (.long _), none, some (.long _), none], [.int (lg_cmp _ _)], _)) rfl (u_ rfl) ?_
            refine wl2 (pc := 3) (len_s := 3) (Y := 0) rfl (Int32.toInt_toInt64 _) (by decide) (fun c18_s => ?_) (fun c18_s => ?_)
            · replace t_s := t_s.1 c18_s
              refine w_t (pc := 17) (e_s := (0, 1, 0, 0, 0, .int 0, [])) (y_s := (18, [some (.long _), none, some (.long _), none, some (.long _), none], [.int _], _)) rfl (u_ rfl) ?_
              refine wrI (pc := 18) (len_s := 1) rfl hk ?_
              show wF _ 153 (12, [some (.ref _), some (.long _), none], [.int _], _) _
              refine wrI (pc := 12) (len_s := 1) rfl hk ?_
              show wF _ 161 (89, [some (.ref _), some (.int _), some (.int _)], [.int _], _) _
              refine w_t (pc := 89) (e_s := (15, 3, 107, 0, 0, .null, [])) (y_s := (107, [some (.ref _), some (.int _), some (.int _)], [], _)) rfl (u_ rfl) ?_
              refine w_t (pc := 107) (e_s := (0, 1, 0, 0, 0, .int (-1), [])) (y_s := (108, [some (.ref _), some (.int _), some (.int _)], [.int _], _)) rfl (u_ rfl) ?_
              exact wrI (pc := 108) (len_s := 1) rfl hk t_s
            · replace t_s := t_s.2 c18_s
              refine w_t (pc := 6) (e_s := (2, 1, 0, 0, 0, .null, [])) (y_s := (7, [some (.long _), none, some (.long _), none, some (.long _), none], [.long _], _)) rfl (u_ rfl) ?_
              refine w_t (pc := 7) (e_s := (2, 2, 4, 0, 0, .null, [])) (y_s := (9, [some (.long _), none, some (.long _), none, some (.long _), none], [.long _, .long _], _)) rfl (u_ rfl) ?_
              refine w_t (pc := 9) (e_s := (14, 1, 0, 0, 0, .null, [])) (y_s := (10, [some (.long _), none, some (.long _), none, some (.long _), none], [.int (lg_cmp _ _)], _)) rfl (u_ rfl) ?_
              refine wl4 (pc := 10) (len_s := 3) rfl (Int32.toInt_toInt64 _) (Int32.toInt_toInt64 _) (fun c19_s => ?_) (fun c19_s => ?_)
              · replace t_s := t_s.1 c19_s
                refine w_t (pc := 17) (e_s := (0, 1, 0, 0, 0, .int 0, [])) (y_s := (18, [some (.long _), none, some (.long _), none, some (.long _), none], [.int _], _)) rfl (u_ rfl) ?_
                refine wrI (pc := 18) (len_s := 1) rfl hk ?_
                show wF _ 153 (12, [some (.ref _), some (.long _), none], [.int _], _) _
                refine wrI (pc := 12) (len_s := 1) rfl hk ?_
                show wF _ 161 (89, [some (.ref _), some (.int _), some (.int _)], [.int _], _) _
                refine w_t (pc := 89) (e_s := (15, 3, 107, 0, 0, .null, [])) (y_s := (107, [some (.ref _), some (.int _), some (.int _)], [], _)) rfl (u_ rfl) ?_
                refine w_t (pc := 107) (e_s := (0, 1, 0, 0, 0, .int (-1), [])) (y_s := (108, [some (.ref _), some (.int _), some (.int _)], [.int _], _)) rfl (u_ rfl) ?_
                exact wrI (pc := 108) (len_s := 1) rfl hk t_s
              · replace t_s := t_s.2 c19_s
                refine w_t (pc := 13) (e_s := (0, 1, 0, 0, 0, .int 1, [])) (y_s := (14, [some (.long _), none, some (.long _), none, some (.long _), none], [.int _], _)) rfl (u_ rfl) ?_
                refine w_t (pc := 14) (e_s := (17, 3, 18, 0, 0, .null, [])) (y_s := (18, [some (.long _), none, some (.long _), none, some (.long _), none], [.int _], _)) rfl (u_ rfl) ?_
                refine wrI (pc := 18) (len_s := 1) rfl hk ?_
                show wF _ 153 (12, [some (.ref _), some (.long _), none], [.int _], _) _
                refine wrI (pc := 12) (len_s := 1) rfl hk ?_
                show wF _ 161 (89, [some (.ref _), some (.int _), some (.int _)], [.int _], _) _
                refine w_t (pc := 89) (e_s := (15, 3, 107, 0, 0, .null, [])) (y_s := (92, [some (.ref _), some (.int _), some (.int _)], [], _)) rfl (u_ rfl) ?_
                refine w_t (pc := 92) (e_s := (0, 2, 0, 0, 0, .int 68, [])) (y_s := (94, [some (.ref _), some (.int _), some (.int _)], [.int _], _)) rfl (u_ rfl) ?_
                refine w_t (pc := 94) (e_s := (0, 2, 0, 0, 0, .int 12, [])) (y_s := (96, [some (.ref _), some (.int _), some (.int _)], [.int _, .int _], _)) rfl (u_ rfl) ?_
                refine w_t (pc := 96) (e_s := (1, 1, 2, 0, 0, .null, [])) (y_s := (97, [some (.ref _), some (.int _), some (.int _)], [.int _, .int _, .int _], _)) rfl (u_ rfl) ?_
                refine w_t (pc := 97) (e_s := (0, 2, 0, 0, 0, .int 9, [])) (y_s := (99, [some (.ref _), some (.int _), some (.int _)], [.int _, .int _, .int _, .int _], _)) rfl (u_ rfl) ?_
                refine w_t (pc := 99) (e_s := (7, 1, 0, 1, 0, .null, [])) (y_s := (100, [some (.ref _), some (.int _), some (.int _)], [.int (_ - _), .int _, .int _], _)) rfl (u_ rfl) ?_
                refine w_t (pc := 100) (e_s := (7, 1, 0, 2, 0, .null, [])) (y_s := (101, [some (.ref _), some (.int _), some (.int _)], [.int (_ * _), .int _], _)) rfl (u_ rfl) ?_
                refine w_t (pc := 101) (e_s := (7, 1, 0, 0, 0, .null, [])) (y_s := (102, [some (.ref _), some (.int _), some (.int _)], [.int (_ + _)], _)) rfl (u_ rfl) ?_
                refine w_t (pc := 102) (e_s := (1, 1, 1, 0, 0, .null, [])) (y_s := (103, [some (.ref _), some (.int _), some (.int _)], [.int _, .int _], _)) rfl (u_ rfl) ?_
                refine w_t (pc := 103) (e_s := (7, 1, 0, 0, 0, .null, [])) (y_s := (104, [some (.ref _), some (.int _), some (.int _)], [.int (_ + _)], _)) rfl (u_ rfl) ?_
                refine w_t (pc := 104) (e_s := (17, 3, 108, 0, 0, .null, [])) (y_s := (108, [some (.ref _), some (.int _), some (.int _)], [.int _], _)) rfl (u_ rfl) ?_
                exact wrI (pc := 108) (len_s := 1) rfl hk t_s
      · replace t_s := t_s.2 c15_s
        refine w_t (pc := 6) (e_s := (2, 1, 0, 0, 0, .null, [])) (y_s := (7, [some (.long _), none, some (.long _), none, some (.long _), none], [.long _], _)) rfl (u_ rfl) ?_
        refine w_t (pc := 7) (e_s := (2, 2, 4, 0, 0, .null, [])) (y_s := (9, [some (.long _), none, some (.long _), none, some (.long _), none], [.long _, .long _], _)) rfl (u_ rfl) ?_
        refine w_t (pc := 9) (e_s := (14, 1, 0, 0, 0, .null, [])) (y_s := (10, [some (.long _), none, some (.long _), none, some (.long _), none], [.int (lg_cmp _ _)], _)) rfl (u_ rfl) ?_
        refine wl4 (pc := 10) (len_s := 3) (Y := 8) rfl (Int32.toInt_toInt64 _) (by decide) (fun c20_s => ?_) (fun c20_s => ?_)
        · replace t_s := t_s.1 c20_s
          refine w_t (pc := 17) (e_s := (0, 1, 0, 0, 0, .int 0, [])) (y_s := (18, [some (.long _), none, some (.long _), none, some (.long _), none], [.int _], _)) rfl (u_ rfl) ?_
          refine wrI (pc := 18) (len_s := 1) rfl hk ?_
          show wF _ 161 (41, [some (.ref _), some (.int _), some (.int _)], [.int _], _) _
          refine w_t (pc := 41) (e_s := (15, 3, 69, 0, 0, .null, [])) (y_s := (69, [some (.ref _), some (.int _), some (.int _)], [], _)) rfl (u_ rfl) ?_
          refine w_t (pc := 69) (e_s := (1, 1, 2, 0, 0, .null, [])) (y_s := (70, [some (.ref _), some (.int _), some (.int _)], [.int _], _)) rfl (u_ rfl) ?_
          refine w_t (pc := 70) (e_s := (10, 1, 0, 0, 0, .null, [])) (y_s := (71, [some (.ref _), some (.int _), some (.int _)], [.long (Int32.toInt64 _)], _)) rfl (u_ rfl) ?_
          refine w_t (pc := 71) (e_s := (0, 3, 0, 0, 0, .long 9, [(0, 1066)])) (y_s := (74, [some (.ref _), some (.int _), some (.int _)], [.long _, .long _], _)) rfl (u_ rfl) ?_
          refine w_t (pc := 74) (e_s := (0, 3, 0, 0, 0, .long 11, [(0, 1075)])) (y_s := (77, [some (.ref _), some (.int _), some (.int _)], [.long _, .long _, .long _], _)) rfl (u_ rfl) ?_
          refine wcI (pc := 77) (len_s := 3) rfl rfl (l := [some (.long _), none, some (.long _), none, some (.long _), none]) rfl ?_
          refine w_t (pc := 0) (e_s := (2, 1, 0, 0, 0, .null, [])) (y_s := (1, [some (.long _), none, some (.long _), none, some (.long _), none], [.long _], _)) rfl (u_ rfl) ?_
          refine w_t (pc := 1) (e_s := (2, 1, 2, 0, 0, .null, [])) (y_s := (2, [some (.long _), none, some (.long _), none, some (.long _), none], [.long _, .long _], _)) rfl (u_ rfl) ?_
          refine w_t (pc := 2) (e_s := (14, 1, 0, 0, 0, .null, [])) (y_s := (3, [some (.long _), none, some (.long _), none, some (.long _), none], [.int (lg_cmp _ _)], _)) rfl (u_ rfl) ?_
          refine wl2 (pc := 3) (len_s := 3) (Y := 9) rfl (Int32.toInt_toInt64 _) (by decide) (fun c21 => ?_) (fun c21 => ?_)
          · replace t_s := t_s.1 c21
            refine w_t (pc := 17) (e_s := (0, 1, 0, 0, 0, .int 0, [])) (y_s := (18, [some (.long _), none, some (.long _), none, some (.long _), none], [.int _], _)) rfl (u_ rfl) ?_
            refine wrI (pc := 18) (len_s := 1) rfl hk ?_
            show wF _ 161 (80, [some (.ref _), some (.int _), some (.int _)], [.int _], _) _
            refine w_t (pc := 80) (e_s := (15, 3, 107, 0, 0, .null, [])) (y_s := (107, [some (.ref _), some (.int _), some (.int _)], [], _)) rfl (u_ rfl) ?_
            refine w_t (pc := 107) (e_s := (0, 1, 0, 0, 0, .int (-1), [])) (y_s := (108, [some (.ref _), some (.int _), some (.int _)], [.int _], _)) rfl (u_ rfl) ?_
            exact wrI (pc := 108) (len_s := 1) rfl hk t_s
          · replace t_s := t_s.2 c21
            refine w_t (pc := 6) (e_s := (2, 1, 0, 0, 0, .null, [])) (y_s := (7, [some (.long _), none, some (.long _), none, some (.long _), none], [.long _], _)) rfl (u_ rfl) ?_
            refine w_t (pc := 7) (e_s := (2, 2, 4, 0, 0, .null, [])) (y_s := (9, [some (.long _), none, some (.long _), none, some (.long _), none], [.long _, .long _], _)) rfl (u_ rfl) ?_
            refine w_t (pc := 9) (e_s := (14, 1, 0, 0, 0, .null, [])) (y_s := (10, [some (.long _), none, some (.long _), none, some (.long _), none], [.int (lg_cmp _ _)], _)) rfl (u_ rfl) ?_
            refine wl4 (pc := 10) (len_s := 3) (Y := 11) rfl (Int32.toInt_toInt64 _) (by decide) (fun c22 => ?_) (fun c22 => ?_)
            · replace t_s := t_s.1 c22
              refine w_t (pc := 17) (e_s := (0, 1, 0, 0, 0, .int 0, [])) (y_s := (18, [some (.long _), none, some (.long _), none, some (.long _), none], [.int _], _)) rfl (u_ rfl) ?_
              refine wrI (pc := 18) (len_s := 1) rfl hk ?_
              show wF _ 161 (80, [some (.ref _), some (.int _), some (.int _)], [.int _], _) _
              refine w_t (pc := 80) (e_s := (15, 3, 107, 0, 0, .null, [])) (y_s := (107, [some (.ref _), some (.int _), some (.int _)], [], _)) rfl (u_ rfl) ?_
              refine w_t (pc := 107) (e_s := (0, 1, 0, 0, 0, .int (-1), [])) (y_s := (108, [some (.ref _), some (.int _), some (.int _)], [.int _], _)) rfl (u_ rfl) ?_
              exact wrI (pc := 108) (len_s := 1) rfl hk t_s
            · replace t_s := t_s.2 c22
              refine w_t (pc := 13) (e_s := (0, 1, 0, 0, 0, .int 1, [])) (y_s := (14, [some (.long _), none, some (.long _), none, some (.long _), none], [.int _], _)) rfl (u_ rfl) ?_
              refine w_t (pc := 14) (e_s := (17, 3, 18, 0, 0, .null, [])) (y_s := (18, [some (.long _), none, some (.long _), none, some (.long _), none], [.int _], _)) rfl (u_ rfl) ?_
              refine wrI (pc := 18) (len_s := 1) rfl hk ?_
              show wF _ 161 (80, [some (.ref _), some (.int _), some (.int _)], [.int _], _) _
              refine w_t (pc := 80) (e_s := (15, 3, 107, 0, 0, .null, [])) (y_s := (83, [some (.ref _), some (.int _), some (.int _)], [], _)) rfl (u_ rfl) ?_
              refine w_t (pc := 83) (e_s := (3, 1, 0, 0, 0, .null, [])) (y_s := (84, [some (.ref _), some (.int _), some (.int _)], [.ref _], _)) rfl (u_ rfl) ?_
              refine w_t (pc := 84) (e_s := (1, 1, 1, 0, 0, .null, [])) (y_s := (85, [some (.ref _), some (.int _), some (.int _)], [.int _, .ref _], _)) rfl (u_ rfl) ?_
              refine w_t (pc := 85) (e_s := (10, 1, 0, 0, 0, .null, [])) (y_s := (86, [some (.ref _), some (.int _), some (.int _)], [.long (Int32.toInt64 _), .ref _], _)) rfl (u_ rfl) ?_
              refine wcI (pc := 86) (len_s := 3) rfl rfl (l := [some (.ref _), some (.long _), none]) rfl ?_
              refine w_t (pc := 0) (e_s := (2, 1, 1, 0, 0, .null, [])) (y_s := (1, [some (.ref _), some (.long _), none], [.long _], _)) rfl (u_ rfl) ?_
              refine w_t (pc := 1) (e_s := (0, 1, 0, 0, 0, .long 0, [])) (y_s := (2, [some (.ref _), some (.long _), none], [.long _, .long _], _)) rfl (u_ rfl) ?_
              refine w_t (pc := 2) (e_s := (3, 1, 0, 0, 0, .null, [])) (y_s := (3, [some (.ref _), some (.long _), none], [.ref _, .long _, .long _], _)) rfl (u_ rfl) ?_
              refine w20 (pc := 3) (len_s := 3) rfl ?_
              refine w_t (pc := 6) (e_s := (0, 1, 0, 0, 0, .int 1, [])) (y_s := (7, [some (.ref _), some (.long _), none], [.int _, .int _, .long _, .long _], _)) rfl (u_ rfl) ?_
              refine w_t (pc := 7) (e_s := (7, 1, 0, 1, 0, .null, [])) (y_s := (8, [some (.ref _), some (.long _), none], [.int (_ - _), .long _, .long _], _)) rfl (u_ rfl) ?_
              refine w_t (pc := 8) (e_s := (10, 1, 0, 0, 0, .null, [])) (y_s := (9, [some (.ref _), some (.long _), none], [.long (Int32.toInt64 _), .long _, .long _], _)) rfl (u_ rfl) ?_
              refine wcI (pc := 9) (len_s := 3) rfl rfl (l := [some (.long _), none, some (.long _), none, some (.long _), none]) rfl ?_
              refine w_t (pc := 0) (e_s := (2, 1, 0, 0, 0, .null, [])) (y_s := (1, [some (.long _), none, some (.long _), none, some (.long _), none], [.long _], _)) rfl (u_ rfl) ?_
              refine w_t (pc := 1) (e_s := (2, 1, 2, 0, 0, .null, [])) (y_s := (2, [some (.long _), none, some (.long _), none, some (.long _), none], [.long _, .long _], _)) rfl (u_ rfl) ?_
              refine w_t (pc := 2) (e_s := (14, 1, 0, 0, 0, .null, [])) (y_s := (3, [some (.long _), none, some (.long _), none, some (.long _), none], [.int (lg_cmp _ _)], _)) rfl (u_ rfl) ?_
              refine wl2 (pc := 3) (len_s := 3) (Y := 0) rfl (Int32.toInt_toInt64 _) (by decide) (fun c23_s => ?_) (fun c23_s => ?_)
              · replace t_s := t_s.1 c23_s
                refine w_t (pc := 17) (e_s := (0, 1, 0, 0, 0, .int 0, [])) (y_s := (18, [some (.long _), none, some (.long _), none, some (.long _), none], [.int _], _)) rfl (u_ rfl) ?_
                refine wrI (pc := 18) (len_s := 1) rfl hk ?_
                show wF _ 153 (12, [some (.ref _), some (.long _), none], [.int _], _) _
                refine wrI (pc := 12) (len_s := 1) rfl hk ?_
                show wF _ 161 (89, [some (.ref _), some (.int _), some (.int _)], [.int _], _) _
                refine w_t (pc := 89) (e_s := (15, 3, 107, 0, 0, .null, [])) (y_s := (107, [some (.ref _), some (.int _), some (.int _)], [], _)) rfl (u_ rfl) ?_
                refine w_t (pc := 107) (e_s := (0, 1, 0, 0, 0, .int (-1), [])) (y_s := (108, [some (.ref _), some (.int _), some (.int _)], [.int _], _)) rfl (u_ rfl) ?_
                exact wrI (pc := 108) (len_s := 1) rfl hk t_s
              · replace t_s := t_s.2 c23_s
                refine w_t (pc := 6) (e_s := (2, 1, 0, 0, 0, .null, [])) (y_s := (7, [some (.long _), none, some (.long _), none, some (.long _), none], [.long _], _)) rfl (u_ rfl) ?_
                refine w_t (pc := 7) (e_s := (2, 2, 4, 0, 0, .null, [])) (y_s := (9, [some (.long _), none, some (.long _), none, some (.long _), none], [.long _, .long _], _)) rfl (u_ rfl) ?_
                refine w_t (pc := 9) (e_s := (14, 1, 0, 0, 0, .null, [])) (y_s := (10, [some (.long _), none, some (.long _), none, some (.long _), none], [.int (lg_cmp _ _)], _)) rfl (u_ rfl) ?_
                refine wl4 (pc := 10) (len_s := 3) rfl (Int32.toInt_toInt64 _) (Int32.toInt_toInt64 _) (fun c24_s => ?_) (fun c24_s => ?_)
                · replace t_s := t_s.1 c24_s
                  refine w_t (pc := 17) (e_s := (0, 1, 0, 0, 0, .int 0, [])) (y_s := (18, [some (.long _), none, some (.long _), none, some (.long _), none], [.int _], _)) rfl (u_ rfl) ?_
                  refine wrI (pc := 18) (len_s := 1) rfl hk ?_
                  show wF _ 153 (12, [some (.ref _), some (.long _), none], [.int _], _) _
                  refine wrI (pc := 12) (len_s := 1) rfl hk ?_
                  show wF _ 161 (89, [some (.ref _), some (.int _), some (.int _)], [.int _], _) _
                  refine w_t (pc := 89) (e_s := (15, 3, 107, 0, 0, .null, [])) (y_s := (107, [some (.ref _), some (.int _), some (.int _)], [], _)) rfl (u_ rfl) ?_
                  refine w_t (pc := 107) (e_s := (0, 1, 0, 0, 0, .int (-1), [])) (y_s := (108, [some (.ref _), some (.int _), some (.int _)], [.int _], _)) rfl (u_ rfl) ?_
                  exact wrI (pc := 108) (len_s := 1) rfl hk t_s
                · replace t_s := t_s.2 c24_s
                  refine w_t (pc := 13) (e_s := (0, 1, 0, 0, 0, .int 1, [])) (y_s := (14, [some (.long _), none, some (.long _), none, some (.long _), none], [.int _], _)) rfl (u_ rfl) ?_
                  refine w_t (pc := 14) (e_s := (17, 3, 18, 0, 0, .null, [])) (y_s := (18, [some (.long _), none, some (.long _), none, some (.long _), none], [.int _], _)) rfl (u_ rfl) ?_
                  refine wrI (pc := 18) (len_s := 1) rfl hk ?_
                  show wF _ 153 (12, [some (.ref _), some (.long _), none], [.int _], _) _
                  refine wrI (pc := 12) (len_s := 1) rfl hk ?_
                  show wF _ 161 (89, [some (.ref _), some (.int _), some (.int _)], [.int _], _) _
                  refine w_t (pc := 89) (e_s := (15, 3, 107, 0, 0, .null, [])) (y_s := (92, [some (.ref _), some (.int _), some (.int _)], [], _)) rfl (u_ rfl) ?_
                  refine w_t (pc := 92) (e_s := (0, 2, 0, 0, 0, .int 68, [])) (y_s := (94, [some (.ref _), some (.int _), some (.int _)], [.int _], _)) rfl (u_ rfl) ?_
                  refine w_t (pc := 94) (e_s := (0, 2, 0, 0, 0, .int 12, [])) (y_s := (96, [some (.ref _), some (.int _), some (.int _)], [.int _, .int _], _)) rfl (u_ rfl) ?_
                  refine w_t (pc := 96) (e_s := (1, 1, 2, 0, 0, .null, [])) (y_s := (97, [some (.ref _), some (.int _), some (.int _)], [.int _, .int _, .int _], _)) rfl (u_ rfl) ?_
                  refine w_t (pc := 97) (e_s := (0, 2, 0, 0, 0, .int 9, [])) (y_s := (99, [some (.ref _), some (.int _), some (.int _)], [.int _, .int _, .int _, .int _], _)) rfl (u_ rfl) ?_
                  refine w_t (pc := 99) (e_s := (7, 1, 0, 1, 0, .null, [])) (y_s := (100, [some (.ref _), some (.int _), some (.int _)], [.int (_ - _), .int _, .int _], _)) rfl (u_ rfl) ?_
                  refine w_t (pc := 100) (e_s := (7, 1, 0, 2, 0, .null, [])) (y_s := (101, [some (.ref _), some (.int _), some (.int _)], [.int (_ * _), .int _], _)) rfl (u_ rfl) ?_
                  refine w_t (pc := 101) (e_s := (7, 1, 0, 0, 0, .null, [])) (y_s := (102, [some (.ref _), some (.int _), some (.int _)], [.int (_ + _)], _)) rfl (u_ rfl) ?_
                  refine w_t (pc := 102) (e_s := (1, 1, 1, 0, 0, .null, [])) (y_s := (103, [some (.ref _), some (.int _), some (.int _)], [.int _, .int _], _)) rfl (u_ rfl) ?_
                  refine w_t (pc := 103) (e_s := (7, 1, 0, 0, 0, .null, [])) (y_s := (104, [some (.ref _), some (.int _), some (.int _)], [.int (_ + _)], _)) rfl (u_ rfl) ?_
                  refine w_t (pc := 104) (e_s := (17, 3, 108, 0, 0, .null, [])) (y_s := (108, [some (.ref _), some (.int _), some (.int _)], [.int _], _)) rfl (u_ rfl) ?_
                  exact wrI (pc := 108) (len_s := 1) rfl hk t_s
        · replace t_s := t_s.2 c20_s
          refine w_t (pc := 13) (e_s := (0, 1, 0, 0, 0, .int 1, [])) (y_s := (14, [some (.long _), none, some (.long _), none, some (.long _), none], [.int _], _)) rfl (u_ rfl) ?_
          refine w_t (pc := 14) (e_s := (17, 3, 18, 0, 0, .null, [])) (y_s := (18, [some (.long _), none, some (.long _), none, some (.long _), none], [.int _], _)) rfl (u_ rfl) ?_
          refine wrI (pc := 18) (len_s := 1) rfl hk ?_
          show wF _ 161 (41, [some (.ref _), some (.int _), some (.int _)], [.int _], _) _
          refine w_t (pc := 41) (e_s := (15, 3, 69, 0, 0, .null, [])) (y_s := (44, [some (.ref _), some (.int _), some (.int _)], [], _)) rfl (u_ rfl) ?_
          refine w_t (pc := 44) (e_s := (3, 1, 0, 0, 0, .null, [])) (y_s := (45, [some (.ref _), some (.int _), some (.int _)], [.ref _], _)) rfl (u_ rfl) ?_
          refine w_t (pc := 45) (e_s := (1, 1, 1, 0, 0, .null, [])) (y_s := (46, [some (.ref _), some (.int _), some (.int _)], [.int _, .ref _], _)) rfl (u_ rfl) ?_
          refine w_t (pc := 46) (e_s := (10, 1, 0, 0, 0, .null, [])) (y_s := (47, [some (.ref _), some (.int _), some (.int _)], [.long (Int32.toInt64 _), .ref _], _)) rfl (u_ rfl) ?_
          refine wcI (pc := 47) (len_s := 3) rfl rfl (l := [some (.ref _), some (.long _), none]) rfl ?_
          refine w_t (pc := 0) (e_s := (2, 1, 1, 0, 0, .null, [])) (y_s := (1, [some (.ref _), some (.long _), none], [.long _], _)) rfl (u_ rfl) ?_
          refine w_t (pc := 1) (e_s := (0, 1, 0, 0, 0, .long 0, [])) (y_s := (2, [some (.ref _), some (.long _), none], [.long _, .long _], _)) rfl (u_ rfl) ?_
          refine w_t (pc := 2) (e_s := (3, 1, 0, 0, 0, .null, [])) (y_s := (3, [some (.ref _), some (.long _), none], [.ref _, .long _, .long _], _)) rfl (u_ rfl) ?_
          refine w20 (pc := 3) (len_s := 3) rfl ?_
          refine w_t (pc := 6) (e_s := (0, 1, 0, 0, 0, .int 1, [])) (y_s := (7, [some (.ref _), some (.long _), none], [.int _, .int _, .long _, .long _], _)) rfl (u_ rfl) ?_
          refine w_t (pc := 7) (e_s := (7, 1, 0, 1, 0, .null, [])) (y_s := (8, [some (.ref _), some (.long _), none], [.int (_ - _), .long _, .long _], _)) rfl (u_ rfl) ?_
          refine w_t (pc := 8) (e_s := (10, 1, 0, 0, 0, .null, [])) (y_s := (9, [some (.ref _), some (.long _), none], [.long (Int32.toInt64 _), .long _, .long _], _)) rfl (u_ rfl) ?_
          refine wcI (pc := 9) (len_s := 3) rfl rfl (l := [some (.long _), none, some (.long _), none, some (.long _), none]) rfl ?_
          refine w_t (pc := 0) (e_s := (2, 1, 0, 0, 0, .null, [])) (y_s := (1, [some (.long _), none, some (.long _), none, some (.long _), none], [.long _], _)) rfl (u_ rfl) ?_
          refine w_t (pc := 1) (e_s := (2, 1, 2, 0, 0, .null, [])) (y_s := (2, [some (.long _), none, some (.long _), none, some (.long _), none], [.long _, .long _], _)) rfl (u_ rfl) ?_
          refine w_t (pc := 2) (e_s := (14, 1, 0, 0, 0, .null, [])) (y_s := (3, [some (.long _), none, some (.long _), none, some (.long _), none], [.int (lg_cmp _ _)], _)) rfl (u_ rfl) ?_
          refine wl2 (pc := 3) (len_s := 3) (Y := 0) rfl (Int32.toInt_toInt64 _) (by decide) (fun c25_s => ?_) (fun c25_s => ?_)
          · replace t_s := t_s.1 c25_s
            refine w_t (pc := 17) (e_s := (0, 1, 0, 0, 0, .int 0, [])) (y_s := (18, [some (.long _), none, some (.long _), none, some (.long _), none], [.int _], _)) rfl (u_ rfl) ?_
            refine wrI (pc := 18) (len_s := 1) rfl hk ?_
            show wF _ 152 (12, [some (.ref _), some (.long _), none], [.int _], _) _
            refine wrI (pc := 12) (len_s := 1) rfl hk ?_
            show wF _ 161 (50, [some (.ref _), some (.int _), some (.int _)], [.int _], _) _
            refine w_t (pc := 50) (e_s := (15, 3, 67, 0, 0, .null, [])) (y_s := (67, [some (.ref _), some (.int _), some (.int _)], [], _)) rfl (u_ rfl) ?_
            refine w_t (pc := 67) (e_s := (0, 1, 0, 0, 0, .int (-1), [])) (y_s := (68, [some (.ref _), some (.int _), some (.int _)], [.int _], _)) rfl (u_ rfl) ?_
            exact wrI (pc := 68) (len_s := 1) rfl hk t_s
          · replace t_s := t_s.2 c25_s
            refine w_t (pc := 6) (e_s := (2, 1, 0, 0, 0, .null, [])) (y_s := (7, [some (.long _), none, some (.long _), none, some (.long _), none], [.long _], _)) rfl (u_ rfl) ?_
            refine w_t (pc := 7) (e_s := (2, 2, 4, 0, 0, .null, [])) (y_s := (9, [some (.long _), none, some (.long _), none, some (.long _), none], [.long _, .long _], _)) rfl (u_ rfl) ?_
            refine w_t (pc := 9) (e_s := (14, 1, 0, 0, 0, .null, [])) (y_s := (10, [some (.long _), none, some (.long _), none, some (.long _), none], [.int (lg_cmp _ _)], _)) rfl (u_ rfl) ?_
            refine wl4 (pc := 10) (len_s := 3) rfl (Int32.toInt_toInt64 _) (Int32.toInt_toInt64 _) (fun c26 => ?_) (fun c26 => ?_)
            · replace t_s := t_s.1 c26
              refine w_t (pc := 17) (e_s := (0, 1, 0, 0, 0, .int 0, [])) (y_s := (18, [some (.long _), none, some (.long _), none, some (.long _), none], [.int _], _)) rfl (u_ rfl) ?_
              refine wrI (pc := 18) (len_s := 1) rfl hk ?_
              show wF _ 152 (12, [some (.ref _), some (.long _), none], [.int _], _) _
              refine wrI (pc := 12) (len_s := 1) rfl hk ?_
              show wF _ 161 (50, [some (.ref _), some (.int _), some (.int _)], [.int _], _) _
              refine w_t (pc := 50) (e_s := (15, 3, 67, 0, 0, .null, [])) (y_s := (67, [some (.ref _), some (.int _), some (.int _)], [], _)) rfl (u_ rfl) ?_
              refine w_t (pc := 67) (e_s := (0, 1, 0, 0, 0, .int (-1), [])) (y_s := (68, [some (.ref _), some (.int _), some (.int _)], [.int _], _)) rfl (u_ rfl) ?_
              exact wrI (pc := 68) (len_s := 1) rfl hk t_s
            · replace t_s := t_s.2 c26
              refine w_t (pc := 13) (e_s := (0, 1, 0, 0, 0, .int 1, [])) (y_s := (14, [some (.long _), none, some (.long _), none, some (.long _), none], [.int _], _)) rfl (u_ rfl) ?_
              refine w_t (pc := 14) (e_s := (17, 3, 18, 0, 0, .null, [])) (y_s := (18, [some (.long _), none, some (.long _), none, some (.long _), none], [.int _], _)) rfl (u_ rfl) ?_
              refine wrI (pc := 18) (len_s := 1) rfl hk ?_
              show wF _ 152 (12, [some (.ref _), some (.long _), none], [.int _], _) _
              refine wrI (pc := 12) (len_s := 1) rfl hk ?_
              show wF _ 161 (50, [some (.ref _), some (.int _), some (.int _)], [.int _], _) _
              refine w_t (pc := 50) (e_s := (15, 3, 67, 0, 0, .null, [])) (y_s := (53, [some (.ref _), some (.int _), some (.int _)], [], _)) rfl (u_ rfl) ?_
              refine w_t (pc := 53) (e_s := (0, 2, 0, 0, 0, .int 12, [])) (y_s := (55, [some (.ref _), some (.int _), some (.int _)], [.int _], _)) rfl (u_ rfl) ?_
              refine w_t (pc := 55) (e_s := (0, 2, 0, 0, 0, .int 8, [])) (y_s := (57, [some (.ref _), some (.int _), some (.int _)], [.int _, .int _], _)) rfl (u_ rfl) ?_
              refine w_t (pc := 57) (e_s := (1, 1, 2, 0, 0, .null, [])) (y_s := (58, [some (.ref _), some (.int _), some (.int _)], [.int _, .int _, .int _], _)) rfl (u_ rfl) ?_
              refine w_t (pc := 58) (e_s := (0, 1, 0, 0, 0, .int 2, [])) (y_s := (59, [some (.ref _), some (.int _), some (.int _)], [.int _, .int _, .int _, .int _], _)) rfl (u_ rfl) ?_
              refine w_t (pc := 59) (e_s := (7, 1, 0, 1, 0, .null, [])) (y_s := (60, [some (.ref _), some (.int _), some (.int _)], [.int (_ - _), .int _, .int _], _)) rfl (u_ rfl) ?_
              refine w_t (pc := 60) (e_s := (7, 1, 0, 2, 0, .null, [])) (y_s := (61, [some (.ref _), some (.int _), some (.int _)], [.int (_ * _), .int _], _)) rfl (u_ rfl) ?_
              refine w_t (pc := 61) (e_s := (7, 1, 0, 0, 0, .null, [])) (y_s := (62, [some (.ref _), some (.int _), some (.int _)], [.int (_ + _)], _)) rfl (u_ rfl) ?_
              refine w_t (pc := 62) (e_s := (1, 1, 1, 0, 0, .null, [])) (y_s := (63, [some (.ref _), some (.int _), some (.int _)], [.int _, .int _], _)) rfl (u_ rfl) ?_
              refine w_t (pc := 63) (e_s := (7, 1, 0, 0, 0, .null, [])) (y_s := (64, [some (.ref _), some (.int _), some (.int _)], [.int (_ + _)], _)) rfl (u_ rfl) ?_
              refine w_t (pc := 64) (e_s := (17, 3, 68, 0, 0, .null, [])) (y_s := (68, [some (.ref _), some (.int _), some (.int _)], [.int _], _)) rfl (u_ rfl) ?_
              exact wrI (pc := 68) (len_s := 1) rfl hk t_s
    · replace t_s := t_s.2 c14_s
      refine w_t (pc := 13) (e_s := (0, 1, 0, 0, 0, .int 1, [])) (y_s := (14, [some (.long _), none, some (.long _), none, some (.long _), none], [.int _], _)) rfl (u_ rfl) ?_
      refine w_t (pc := 14) (e_s := (17, 3, 18, 0, 0, .null, [])) (y_s := (18, [some (.long _), none, some (.long _), none, some (.long _), none], [.int _], _)) rfl (u_ rfl) ?_
      refine wrI (pc := 18) (len_s := 1) rfl hk ?_
      show wF _ 161 (7, [some (.ref _), some (.int _), some (.int _)], [.int _], _) _
      refine w_t (pc := 7) (e_s := (15, 3, 30, 0, 0, .null, [])) (y_s := (10, [some (.ref _), some (.int _), some (.int _)], [], _)) rfl (u_ rfl) ?_
      refine w_t (pc := 10) (e_s := (3, 1, 0, 0, 0, .null, [])) (y_s := (11, [some (.ref _), some (.int _), some (.int _)], [.ref _], _)) rfl (u_ rfl) ?_
      refine w_t (pc := 11) (e_s := (1, 1, 1, 0, 0, .null, [])) (y_s := (12, [some (.ref _), some (.int _), some (.int _)], [.int _, .ref _], _)) rfl (u_ rfl) ?_
      refine w_t (pc := 12) (e_s := (10, 1, 0, 0, 0, .null, [])) (y_s := (13, [some (.ref _), some (.int _), some (.int _)], [.long (Int32.toInt64 _), .ref _], _)) rfl (u_ rfl) ?_
      refine wcI (pc := 13) (len_s := 3) rfl rfl (l := [some (.ref _), some (.long _), none]) rfl ?_
      refine w_t (pc := 0) (e_s := (2, 1, 1, 0, 0, .null, [])) (y_s := (1, [some (.ref _), some (.long _), none], [.long _], _)) rfl (u_ rfl) ?_
      refine w_t (pc := 1) (e_s := (0, 1, 0, 0, 0, .long 0, [])) (y_s := (2, [some (.ref _), some (.long _), none], [.long _, .long _], _)) rfl (u_ rfl) ?_
      refine w_t (pc := 2) (e_s := (3, 1, 0, 0, 0, .null, [])) (y_s := (3, [some (.ref _), some (.long _), none], [.ref _, .long _, .long _], _)) rfl (u_ rfl) ?_
      refine w20 (pc := 3) (len_s := 3) rfl ?_
      refine w_t (pc := 6) (e_s := (0, 1, 0, 0, 0, .int 1, [])) (y_s := (7, [some (.ref _), some (.long _), none], [.int _, .int _, .long _, .long _], _)) rfl (u_ rfl) ?_
      refine w_t (pc := 7) (e_s := (7, 1, 0, 1, 0, .null, [])) (y_s := (8, [some (.ref _), some (.long _), none], [.int (_ - _), .long _, .long _], _)) rfl (u_ rfl) ?_
      refine w_t (pc := 8) (e_s := (10, 1, 0, 0, 0, .null, [])) (y_s := (9, [some (.ref _), some (.long _), none], [.long (Int32.toInt64 _), .long _, .long _], _)) rfl (u_ rfl) ?_
      refine wcI (pc := 9) (len_s := 3) rfl rfl (l := [some (.long _), none, some (.long _), none, some (.long _), none]) rfl ?_
      refine w_t (pc := 0) (e_s := (2, 1, 0, 0, 0, .null, [])) (y_s := (1, [some (.long _), none, some (.long _), none, some (.long _), none], [.long _], _)) rfl (u_ rfl) ?_
      refine w_t (pc := 1) (e_s := (2, 1, 2, 0, 0, .null, [])) (y_s := (2, [some (.long _), none, some (.long _), none, some (.long _), none], [.long _, .long _], _)) rfl (u_ rfl) ?_
      refine w_t (pc := 2) (e_s := (14, 1, 0, 0, 0, .null, [])) (y_s := (3, [some (.long _), none, some (.long _), none, some (.long _), none], [.int (lg_cmp _ _)], _)) rfl (u_ rfl) ?_
      refine wl2 (pc := 3) (len_s := 3) (Y := 0) rfl (Int32.toInt_toInt64 _) (by decide) (fun c27_s => ?_) (fun c27_s => ?_)
      · replace t_s := t_s.1 c27_s
        refine w_t (pc := 17) (e_s := (0, 1, 0, 0, 0, .int 0, [])) (y_s := (18, [some (.long _), none, some (.long _), none, some (.long _), none], [.int _], _)) rfl (u_ rfl) ?_
        refine wrI (pc := 18) (len_s := 1) rfl hk ?_
        show wF _ 151 (12, [some (.ref _), some (.long _), none], [.int _], _) _
        refine wrI (pc := 12) (len_s := 1) rfl hk ?_
        show wF _ 161 (16, [some (.ref _), some (.int _), some (.int _)], [.int _], _) _
        refine w_t (pc := 16) (e_s := (15, 3, 28, 0, 0, .null, [])) (y_s := (28, [some (.ref _), some (.int _), some (.int _)], [], _)) rfl (u_ rfl) ?_
        refine w_t (pc := 28) (e_s := (0, 1, 0, 0, 0, .int (-1), [])) (y_s := (29, [some (.ref _), some (.int _), some (.int _)], [.int _], _)) rfl (u_ rfl) ?_
        exact wrI (pc := 29) (len_s := 1) rfl hk t_s
      · replace t_s := t_s.2 c27_s
        refine w_t (pc := 6) (e_s := (2, 1, 0, 0, 0, .null, [])) (y_s := (7, [some (.long _), none, some (.long _), none, some (.long _), none], [.long _], _)) rfl (u_ rfl) ?_
        refine w_t (pc := 7) (e_s := (2, 2, 4, 0, 0, .null, [])) (y_s := (9, [some (.long _), none, some (.long _), none, some (.long _), none], [.long _, .long _], _)) rfl (u_ rfl) ?_
        refine w_t (pc := 9) (e_s := (14, 1, 0, 0, 0, .null, [])) (y_s := (10, [some (.long _), none, some (.long _), none, some (.long _), none], [.int (lg_cmp _ _)], _)) rfl (u_ rfl) ?_
        refine wl4 (pc := 10) (len_s := 3) rfl (Int32.toInt_toInt64 _) (Int32.toInt_toInt64 _) (fun c28_s => ?_) (fun c28_s => ?_)
        · replace t_s := t_s.1 c28_s
          refine w_t (pc := 17) (e_s := (0, 1, 0, 0, 0, .int 0, [])) (y_s := (18, [some (.long _), none, some (.long _), none, some (.long _), none], [.int _], _)) rfl (u_ rfl) ?_
          refine wrI (pc := 18) (len_s := 1) rfl hk ?_
          show wF _ 151 (12, [some (.ref _), some (.long _), none], [.int _], _) _
          refine wrI (pc := 12) (len_s := 1) rfl hk ?_
          show wF _ 161 (16, [some (.ref _), some (.int _), some (.int _)], [.int _], _) _
          refine w_t (pc := 16) (e_s := (15, 3, 28, 0, 0, .null, [])) (y_s := (28, [some (.ref _), some (.int _), some (.int _)], [], _)) rfl (u_ rfl) ?_
          refine w_t (pc := 28) (e_s := (0, 1, 0, 0, 0, .int (-1), [])) (y_s := (29, [some (.ref _), some (.int _), some (.int _)], [.int _], _)) rfl (u_ rfl) ?_
          exact wrI (pc := 29) (len_s := 1) rfl hk t_s
        · replace t_s := t_s.2 c28_s
          refine w_t (pc := 13) (e_s := (0, 1, 0, 0, 0, .int 1, [])) (y_s := (14, [some (.long _), none, some (.long _), none, some (.long _), none], [.int _], _)) rfl (u_ rfl) ?_
          refine w_t (pc := 14) (e_s := (17, 3, 18, 0, 0, .null, [])) (y_s := (18, [some (.long _), none, some (.long _), none, some (.long _), none], [.int _], _)) rfl (u_ rfl) ?_
          refine wrI (pc := 18) (len_s := 1) rfl hk ?_
          show wF _ 151 (12, [some (.ref _), some (.long _), none], [.int _], _) _
          refine wrI (pc := 12) (len_s := 1) rfl hk ?_
          show wF _ 161 (16, [some (.ref _), some (.int _), some (.int _)], [.int _], _) _
          refine w_t (pc := 16) (e_s := (15, 3, 28, 0, 0, .null, [])) (y_s := (19, [some (.ref _), some (.int _), some (.int _)], [], _)) rfl (u_ rfl) ?_
          refine w_t (pc := 19) (e_s := (0, 2, 0, 0, 0, .int 6, [])) (y_s := (21, [some (.ref _), some (.int _), some (.int _)], [.int _], _)) rfl (u_ rfl) ?_
          refine w_t (pc := 21) (e_s := (1, 1, 2, 0, 0, .null, [])) (y_s := (22, [some (.ref _), some (.int _), some (.int _)], [.int _, .int _], _)) rfl (u_ rfl) ?_
          refine w_t (pc := 22) (e_s := (7, 1, 0, 2, 0, .null, [])) (y_s := (23, [some (.ref _), some (.int _), some (.int _)], [.int (_ * _)], _)) rfl (u_ rfl) ?_
          refine w_t (pc := 23) (e_s := (1, 1, 1, 0, 0, .null, [])) (y_s := (24, [some (.ref _), some (.int _), some (.int _)], [.int _, .int _], _)) rfl (u_ rfl) ?_
          refine w_t (pc := 24) (e_s := (7, 1, 0, 0, 0, .null, [])) (y_s := (25, [some (.ref _), some (.int _), some (.int _)], [.int (_ + _)], _)) rfl (u_ rfl) ?_
          refine w_t (pc := 25) (e_s := (17, 3, 29, 0, 0, .null, [])) (y_s := (29, [some (.ref _), some (.int _), some (.int _)], [.int _], _)) rfl (u_ rfl) ?_
          exact wrI (pc := 29) (len_s := 1) rfl hk t_s
/-- ColdShodModel.mayBecome(II)Z, from 0 on -/
theorem sg_162_0 {F_s : Nat} {x1_s : Int32} {x2_s : Int32} {h_s : zH} {K_s : Int32 → zH → Prop} (hk : hKn h_s) (t_s : (x1_s.toInt = 0 → ((x2_s.toInt < 0 → K_s 0 h_s) ∧ (¬ x2_s.toInt < 0 → ((5 < x2_s.toInt → K_s 0 h_s) ∧ (¬ 5 < x2_s.toInt → K_s 1 h_s))))) ∧ (¬ x1_s.toInt = 0 → (x1_s.toInt = 1 → ((x2_s.toInt < 0 → K_s 0 h_s) ∧ (¬ x2_s.toInt < 0 → ((12 < x2_s.toInt → K_s 0 h_s) ∧ (¬ 12 < x2_s.toInt → K_s 1 h_s))))) ∧ (¬ x1_s.toInt = 1 → (x1_s.toInt = 2 → ((x2_s.toInt < 0 → K_s 0 h_s) ∧ (¬ x2_s.toInt < 0 → ((3 < x2_s.toInt → K_s 0 h_s) ∧ (¬ 3 < x2_s.toInt → K_s 1 h_s))))) ∧ (¬ x1_s.toInt = 2 → (x1_s.toInt = 3 → ((x2_s.toInt < 0 → K_s 0 h_s) ∧ (¬ x2_s.toInt < 0 → ((5 < x2_s.toInt → K_s 0 h_s) ∧ (¬ 5 < x2_s.toInt → K_s 1 h_s))))) ∧ (¬ x1_s.toInt = 3 → (x1_s.toInt = 4 → ((x2_s.toInt < 0 → K_s 0 h_s) ∧ (¬ x2_s.toInt < 0 → ((99 < x2_s.toInt → K_s 0 h_s) ∧ (¬ 99 < x2_s.toInt → K_s 1 h_s))))) ∧ (¬ x1_s.toInt = 4 → (x1_s.toInt = 5 → ((x2_s.toInt < 0 → K_s 0 h_s) ∧ (¬ x2_s.toInt < 0 → ((9 < x2_s.toInt → K_s 0 h_s) ∧ (¬ 9 < x2_s.toInt → K_s 1 h_s))))) ∧ (¬ x1_s.toInt = 5 → (x1_s.toInt = 6 → ((x2_s.toInt < 0 → K_s 0 h_s) ∧ (¬ x2_s.toInt < 0 → ((1 < x2_s.toInt → K_s 0 h_s) ∧ (¬ 1 < x2_s.toInt → K_s 1 h_s))))) ∧ (¬ x1_s.toInt = 6 → (x1_s.toInt = 7 → ((x2_s.toInt < 0 → K_s 0 h_s) ∧ (¬ x2_s.toInt < 0 → ((9 < x2_s.toInt → K_s 0 h_s) ∧ (¬ 9 < x2_s.toInt → K_s 1 h_s))))) ∧ (¬ x1_s.toInt = 7 → (x1_s.toInt = 8 → ((x2_s.toInt = -1 → K_s 1 h_s) ∧ (¬ x2_s.toInt = -1 → ((x2_s.toInt < 0 → K_s 0 h_s) ∧ (¬ x2_s.toInt < 0 → ((((h_s.2.1 102 6) - 1).toInt < x2_s.toInt → K_s 0 h_s) ∧ (¬ ((h_s.2.1 102 6) - 1).toInt < x2_s.toInt → K_s 1 h_s))))))) ∧ (¬ x1_s.toInt = 8 → (x1_s.toInt = 9 → ((x2_s.toInt < 1 → K_s 0 h_s) ∧ (¬ x2_s.toInt < 1 → ((9 < x2_s.toInt → K_s 0 h_s) ∧ (¬ 9 < x2_s.toInt → K_s 1 h_s))))) ∧ (¬ x1_s.toInt = 9 → (x1_s.toInt = 10 → ((x2_s.toInt < 0 → K_s 0 h_s) ∧ (¬ x2_s.toInt < 0 → ((9 < x2_s.toInt → K_s 0 h_s) ∧ (¬ 9 < x2_s.toInt → K_s 1 h_s))))) ∧ (¬ x1_s.toInt = 10 → (x1_s.toInt = 11 → ((x2_s.toInt < 0 → K_s 0 h_s) ∧ (¬ x2_s.toInt < 0 → ((2 < x2_s.toInt → K_s 0 h_s) ∧ (¬ 2 < x2_s.toInt → K_s 1 h_s))))) ∧ (¬ x1_s.toInt = 11 → ((x2_s.toInt < 0 → K_s 0 h_s) ∧ (¬ x2_s.toInt < 0 → ((9 < x2_s.toInt → K_s 0 h_s) ∧ (¬ 9 < x2_s.toInt → K_s 1 h_s))))))))))))))))) : wF (F_s + 1) 162 (0, [some (.ref 102), some (.int x1_s), some (.int x2_s)], [], h_s) (gI K_s) := by
  refine w_0 (pc := 0) (e_s := (1, 1, 1, 0, 0, .null, [])) (y_s := (1, [some (.ref _), some (.int _), some (.int _)], [.int _], _)) rfl (u_ rfl) ?_
  refine wsw (pc := 1) (len_s := 63) rfl ?_
  refine wsc (X_s := 0) rfl (by decide) (fun c1_s => ?_) (fun c1_s => ?_)
  · replace t_s := t_s.1 c1_s
    refine w_t (pc := 64) (e_s := (1, 1, 2, 0, 0, .null, [])) (y_s := (65, [some (.ref _), some (.int _), some (.int _)], [.int _], _)) rfl (u_ rfl) ?_
    refine w_t (pc := 65) (e_s := (10, 1, 0, 0, 0, .null, [])) (y_s := (66, [some (.ref _), some (.int _), some (.int _)], [.long (Int32.toInt64 _)], _)) rfl (u_ rfl) ?_
    refine w_t (pc := 66) (e_s := (0, 1, 0, 0, 0, .long 0, [])) (y_s := (67, [some (.ref _), some (.int _), some (.int _)], [.long _, .long _], _)) rfl (u_ rfl) ?_
    refine w_t (pc := 67) (e_s := (0, 3, 0, 0, 0, .long 5, [(0, 1063)])) (y_s := (70, [some (.ref _), some (.int _), some (.int _)], [.long _, .long _, .long _], _)) rfl (u_ rfl) ?_
    refine wcI (pc := 70) (len_s := 3) rfl rfl (l := [some (.long _), none, some (.long _), none, some (.long _), none]) rfl ?_
    refine w_t (pc := 0) (e_s := (2, 1, 0, 0, 0, .null, [])) (y_s := (1, [some (.long _), none, some (.long _), none, some (.long _), none], [.long _], _)) rfl (u_ rfl) ?_
    refine w_t (pc := 1) (e_s := (2, 1, 2, 0, 0, .null, [])) (y_s := (2, [some (.long _), none, some (.long _), none, some (.long _), none], [.long _, .long _], _)) rfl (u_ rfl) ?_
    refine w_t (pc := 2) (e_s := (14, 1, 0, 0, 0, .null, [])) (y_s := (3, [some (.long _), none, some (.long _), none, some (.long _), none], [.int (lg_cmp _ _)], _)) rfl (u_ rfl) ?_
    refine wl2 (pc := 3) (len_s := 3) (Y := 0) rfl (Int32.toInt_toInt64 _) (by decide) (fun c2_s => ?_) (fun c2_s => ?_)
    · replace t_s := t_s.1 c2_s
      refine w_t (pc := 17) (e_s := (0, 1, 0, 0, 0, .int 0, [])) (y_s := (18, [some (.long _), none, some (.long _), none, some (.long _), none], [.int _], _)) rfl (u_ rfl) ?_
      refine wrI (pc := 18) (len_s := 1) rfl hk ?_
      show wF _ 162 (73, [some (.ref _), some (.int _), some (.int _)], [.int _], _) _
      exact wrI (pc := 73) (len_s := 1) rfl hk t_s
    · replace t_s := t_s.2 c2_s
      refine w_t (pc := 6) (e_s := (2, 1, 0, 0, 0, .null, [])) (y_s := (7, [some (.long _), none, some (.long _), none, some (.long _), none], [.long _], _)) rfl (u_ rfl) ?_
      refine w_t (pc := 7) (e_s := (2, 2, 4, 0, 0, .null, [])) (y_s := (9, [some (.long _), none, some (.long _), none, some (.long _), none], [.long _, .long _], _)) rfl (u_ rfl) ?_
      refine w_t (pc := 9) (e_s := (14, 1, 0, 0, 0, .null, [])) (y_s := (10, [some (.long _), none, some (.long _), none, some (.long _), none], [.int (lg_cmp _ _)], _)) rfl (u_ rfl) ?_
      refine wl4 (pc := 10) (len_s := 3) (Y := 5) rfl (Int32.toInt_toInt64 _) (by decide) (fun c3_s => ?_) (fun c3_s => ?_)
      · replace t_s := t_s.1 c3_s
        refine w_t (pc := 17) (e_s := (0, 1, 0, 0, 0, .int 0, [])) (y_s := (18, [some (.long _), none, some (.long _), none, some (.long _), none], [.int _], _)) rfl (u_ rfl) ?_
        refine wrI (pc := 18) (len_s := 1) rfl hk ?_
        show wF _ 162 (73, [some (.ref _), some (.int _), some (.int _)], [.int _], _) _
        exact wrI (pc := 73) (len_s := 1) rfl hk t_s
      · replace t_s := t_s.2 c3_s
        refine w_t (pc := 13) (e_s := (0, 1, 0, 0, 0, .int 1, [])) (y_s := (14, [some (.long _), none, some (.long _), none, some (.long _), none], [.int _], _)) rfl (u_ rfl) ?_
        refine w_t (pc := 14) (e_s := (17, 3, 18, 0, 0, .null, [])) (y_s := (18, [some (.long _), none, some (.long _), none, some (.long _), none], [.int _], _)) rfl (u_ rfl) ?_
        refine wrI (pc := 18) (len_s := 1) rfl hk ?_
        show wF _ 162 (73, [some (.ref _), some (.int _), some (.int _)], [.int _], _) _
        exact wrI (pc := 73) (len_s := 1) rfl hk t_s
  · replace t_s := t_s.2 c1_s
    refine wsc (X_s := 1) rfl (by decide) (fun c4_s => ?_) (fun c4_s => ?_)
    · replace t_s := t_s.1 c4_s
      refine w_t (pc := 74) (e_s := (1, 1, 2, 0, 0, .null, [])) (y_s := (75, [some (.ref _), some (.int _), some (.int _)], [.int _], _)) rfl (u_ rfl) ?_
      refine w_t (pc := 75) (e_s := (10, 1, 0, 0, 0, .null, [])) (y_s := (76, [some (.ref _), some (.int _), some (.int _)], [.long (Int32.toInt64 _)], _)) rfl (u_ rfl) ?_
      refine w_t (pc := 76) (e_s := (0, 1, 0, 0, 0, .long 0, [])) (y_s := (77, [some (.ref _), some (.int _), some (.int _)], [.long _, .long _], _)) rfl (u_ rfl) ?_
      refine w_t (pc := 77) (e_s := (0, 3, 0, 0, 0, .long 12, [(0, 1070)])) (y_s := (80, [some (.ref _), some (.int _), some (.int _)], [.long _, .long _, .long _], _)) rfl (u_ rfl) ?_
      refine wcI (pc := 80) (len_s := 3) rfl rfl (l := [some (.long _), none, some (.long _), none, some (.long _), none]) rfl ?_
      refine w_t (pc := 0) (e_s := (2, 1, 0, 0, 0, .null, [])) (y_s := (1, [some (.long _), none, some (.long _), none, some (.long _), none], [.long _], _)) rfl (u_ rfl) ?_
      refine w_t (pc := 1) (e_s := (2, 1, 2, 0, 0, .null, [])) (y_s := (2, [some (.long _), none, some (.long _), none, some (.long _), none], [.long _, .long _], _)) rfl (u_ rfl) ?_
      refine w_t (pc := 2) (e_s := (14, 1, 0, 0, 0, .null, [])) (y_s := (3, [some (.long _), none, some (.long _), none, some (.long _), none], [.int (lg_cmp _ _)], _)) rfl (u_ rfl) ?_
      refine wl2 (pc := 3) (len_s := 3) (Y := 0) rfl (Int32.toInt_toInt64 _) (by decide) (fun c5_s => ?_) (fun c5_s => ?_)
      · replace t_s := t_s.1 c5_s
        refine w_t (pc := 17) (e_s := (0, 1, 0, 0, 0, .int 0, [])) (y_s := (18, [some (.long _), none, some (.long _), none, some (.long _), none], [.int _], _)) rfl (u_ rfl) ?_
        refine wrI (pc := 18) (len_s := 1) rfl hk ?_
        show wF _ 162 (83, [some (.ref _), some (.int _), some (.int _)], [.int _], _) _
        exact wrI (pc := 83) (len_s := 1) rfl hk t_s
      · replace t_s := t_s.2 c5_s
        refine w_t (pc := 6) (e_s := (2, 1, 0, 0, 0, .null, [])) (y_s := (7, [some (.long _), none, some (.long _), none, some (.long _), none], [.long _], _)) rfl (u_ rfl) ?_
        refine w_t (pc := 7) (e_s := (2, 2, 4, 0, 0, .null, [])) (y_s := (9, [some (.long _), none, some (.long _), none, some (.long _), none], [.long _, .long _], _)) rfl (u_ rfl) ?_
        refine w_t (pc := 9) (e_s := (14, 1, 0, 0, 0, .null, [])) (y_s := (10, [some (.long _), none, some (.long _), none, some (.long _), none], [.int (lg_cmp _ _)], _)) rfl (u_ rfl) ?_
        refine wl4 (pc := 10) (len_s := 3) (Y := 12) rfl (Int32.toInt_toInt64 _) (by decide) (fun c6_s => ?_) (fun c6_s => ?_)
        · replace t_s := t_s.1 c6_s
          refine w_t (pc := 17) (e_s := (0, 1, 0, 0, 0, .int 0, [])) (y_s := (18, [some (.long _), none, some (.long _), none, some (.long _), none], [.int _], _)) rfl (u_ rfl) ?_
          refine wrI (pc := 18) (len_s := 1) rfl hk ?_
          show wF _ 162 (83, [some (.ref _), some (.int _), some (.int _)], [.int _], _) _
          exact wrI (pc := 83) (len_s := 1) rfl hk t_s
        · replace t_s := t_s.2 c6_s
          refine w_t (pc := 13) (e_s := (0, 1, 0, 0, 0, .int 1, [])) (y_s := (14, [some (.long _), none, some (.long _), none, some (.long _), none], [.int _], _)) rfl (u_ rfl) ?_
          refine w_t (pc := 14) (e_s := (17, 3, 18, 0, 0, .null, [])) (y_s := (18, [some (.long _), none, some (.long _), none, some (.long _), none], [.int _], _)) rfl (u_ rfl) ?_
          refine wrI (pc := 18) (len_s := 1) rfl hk ?_
          show wF _ 162 (83, [some (.ref _), some (.int _), some (.int _)], [.int _], _) _
          exact wrI (pc := 83) (len_s := 1) rfl hk t_s
    · replace t_s := t_s.2 c4_s
      refine wsc (X_s := 2) rfl (by decide) (fun c7_s => ?_) (fun c7_s => ?_)
      · replace t_s := t_s.1 c7_s
        refine w_t (pc := 84) (e_s := (1, 1, 2, 0, 0, .null, [])) (y_s := (85, [some (.ref _), some (.int _), some (.int _)], [.int _], _)) rfl (u_ rfl) ?_
        refine w_t (pc := 85) (e_s := (10, 1, 0, 0, 0, .null, [])) (y_s := (86, [some (.ref _), some (.int _), some (.int _)], [.long (Int32.toInt64 _)], _)) rfl (u_ rfl) ?_
        refine w_t (pc := 86) (e_s := (0, 1, 0, 0, 0, .long 0, [])) (y_s := (87, [some (.ref _), some (.int _), some (.int _)], [.long _, .long _], _)) rfl (u_ rfl) ?_
        refine w_t (pc := 87) (e_s := (0, 3, 0, 0, 0, .long 3, [(0, 1064)])) (y_s := (90, [some (.ref _), some (.int _), some (.int _)], [.long _, .long _, .long _], _)) rfl (u_ rfl) ?_
        refine wcI (pc := 90) (len_s := 3) rfl rfl (l := [some (.long _), none, some (.long _), none, some (.long _), none]) rfl ?_
        refine w_t (pc := 0) (e_s := (2, 1, 0, 0, 0, .null, [])) (y_s := (1, [some (.long _), none, some (.long _), none, some (.long _), none], [.long _], _)) rfl (u_ rfl) ?_
        refine w_t (pc := 1) (e_s := (2, 1, 2, 0, 0, .null, [])) (y_s := (2, [some (.long _), none, some (.long _), none, some (.long _), none], [.long _, .long _], _)) rfl (u_ rfl) ?_
        refine w_t (pc := 2) (e_s := (14, 1, 0, 0, 0, .null, [])) (y_s := (3, [some (.long _), none, some (.long _), none, some (.long _), none], [.int (lg_cmp _ _)], _)) rfl (u_ rfl) ?_
        refine wl2 (pc := 3) (len_s := 3) (Y := 0) rfl (Int32.toInt_toInt64 _) (by decide) (fun c8_s => ?_) (fun c8_s => ?_)
        · replace t_s := t_s.1 c8_s
          refine w_t (pc := 17) (e_s := (0, 1, 0, 0, 0, .int 0, [])) (y_s := (18, [some (.long _), none, some (.long _), none, some (.long _), none], [.int _], _)) rfl (u_ rfl) ?_
          refine wrI (pc := 18) (len_s := 1) rfl hk ?_
          show wF _ 162 (93, [some (.ref _), some (.int _), some (.int _)], [.int _], _) _
          exact wrI (pc := 93) (len_s := 1) rfl hk t_s
        · replace t_s := t_s.2 c8_s
          refine w_t (pc := 6) (e_s := (2, 1, 0, 0, 0, .null, [])) (y_s := (7, [some (.long _), none, some (.long _), none, some (.long _), none], [.long _], _)) rfl (u_ rfl) ?_
          refine w_t (pc := 7) (e_s := (2, 2, 4, 0, 0, .null, [])) (y_s := (9, [some (.long _), none, some (.long _), none, some (.long _), none], [.long _, .long _], _)) rfl (u_ rfl) ?_
          refine w_t (pc := 9) (e_s := (14, 1, 0, 0, 0, .null, [])) (y_s := (10, [some (.long _), none, some (.long _), none, some (.long _), none], [.int (lg_cmp _ _)], _)) rfl (u_ rfl) ?_
          refine wl4 (pc := 10) (len_s := 3) (Y := 3) rfl (Int32.toInt_toInt64 _) (by decide) (fun c9_s => ?_) (fun c9_s => ?_)
          · replace t_s := t_s.1 c9_s
            refine w_t (pc := 17) (e_s := (0, 1, 0, 0, 0, .int 0, [])) (y_s := (18, [some (.long _), none, some (.long _), none, some (.long _), none], [.int _], _)) rfl (u_ rfl) ?_
            refine wrI (pc := 18) (len_s := 1) rfl hk ?_
            show wF _ 162 (93, [some (.ref _), some (.int _), some (.int _)], [.int _], _) _
            exact wrI (pc := 93) (len_s := 1) rfl hk t_s
          · replace t_s := t_s.2 c9_s
            refine w_t (pc := 13) (e_s := (0, 1, 0, 0, 0, .int 1, [])) (y_s := (14, [some (.long _), none, some (.long _), none, some (.long _), none], [.int _], _)) rfl (u_ rfl) ?_
            refine w_t (pc := 14) (e_s := (17, 3, 18, 0, 0, .null, [])) (y_s := (18, [some (.long _), none, some (.long _), none, some (.long _), none], [.int _], _)) rfl (u_ rfl) ?_
            refine wrI (pc := 18) (len_s := 1) rfl hk ?_
            show wF _ 162 (93, [some (.ref _), some (.int _), some (.int _)], [.int _], _) _
            exact wrI (pc := 93) (len_s := 1) rfl hk t_s
      · replace t_s := t_s.2 c7_s
        refine wsc (X_s := 3) rfl (by decide) (fun c10_s => ?_) (fun c10_s => ?_)
        · replace t_s := t_s.1 c10_s
          refine w_t (pc := 64) (e_s := (1, 1, 2, 0, 0, .null, [])) (y_s := (65, [some (.ref _), some (.int _), some (.int _)], [.int _], _)) rfl (u_ rfl) ?_
          refine w_t (pc := 65) (e_s := (10, 1, 0, 0, 0, .null, [])) (y_s := (66, [some (.ref _), some (.int _), some (.int _)], [.long (Int32.toInt64 _)], _)) rfl (u_ rfl) ?_
          refine w_t (pc := 66) (e_s := (0, 1, 0, 0, 0, .long 0, [])) (y_s := (67, [some (.ref _), some (.int _), some (.int _)], [.long _, .long _], _)) rfl (u_ rfl) ?_
          refine w_t (pc := 67) (e_s := (0, 3, 0, 0, 0, .long 5, [(0, 1063)])) (y_s := (70, [some (.ref _), some (.int _), some (.int _)], [.long _, .long _, .long _], _)) rfl (u_ rfl) ?_
          refine wcI (pc := 70) (len_s := 3) rfl rfl (l := [some (.long _), none, some (.long _), none, some (.long _), none]) rfl ?_
          refine w_t (pc := 0) (e_s := (2, 1, 0, 0, 0, .null, [])) (y_s := (1, [some (.long _), none, some (.long _), none, some (.long _), none], [.long _], _)) rfl (u_ rfl) ?_
          refine w_t (pc := 1) (e_s := (2, 1, 2, 0, 0, .null, [])) (y_s := (2, [some (.long _), none, some (.long _), none, some (.long _), none], [.long _, .long _], _)) rfl (u_ rfl) ?_
          refine w_t (pc := 2) (e_s := (14, 1, 0, 0, 0, .null, [])) (y_s := (3, [some (.long _), none, some (.long _), none, some (.long _), none], [.int (lg_cmp _ _)], _)) rfl (u_ rfl) ?_
          refine wl2 (pc := 3) (len_s := 3) (Y := 0) rfl (Int32.toInt_toInt64 _) (by decide) (fun c11_s => ?_) (fun c11_s => ?_)
          · replace t_s := t_s.1 c11_s
            refine w_t (pc := 17) (e_s := (0, 1, 0, 0, 0, .int 0, [])) (y_s := (18, [some (.long _), none, some (.long _), none, some (.long _), none], [.int _], _)) rfl (u_ rfl) ?_
            refine wrI (pc := 18) (len_s := 1) rfl hk ?_
            show wF _ 162 (73, [some (.ref _), some (.int _), some (.int _)], [.int _], _) _
            exact wrI (pc := 73) (len_s := 1) rfl hk t_s
          · replace t_s := t_s.2 c11_s
            refine w_t (pc := 6) (e_s := (2, 1, 0, 0, 0, .null, [])) (y_s := (7, [some (.long _), none, some (.long _), none, some (.long _), none], [.long _], _)) rfl (u_ rfl) ?_
            refine w_t (pc := 7) (e_s := (2, 2, 4, 0, 0, .null, [])) (y_s := (9, [some (.long _), none, some (.long _), none, some (.long _), none], [.long _, .long _], _)) rfl (u_ rfl) ?_
            refine w_t (pc := 9) (e_s := (14, 1, 0, 0, 0, .null, [])) (y_s := (10, [some (.long _), none, some (.long _), none, some (.long _), none], [.int (lg_cmp _ _)], _)) rfl (u_ rfl) ?_
            refine wl4 (pc := 10) (len_s := 3) (Y := 5) rfl (Int32.toInt_toInt64 _) (by decide) (fun c12_s => ?_) (fun c12_s => ?_)
            · replace t_s := t_s.1 c12_s
              refine w_t (pc := 17) (e_s := (0, 1, 0, 0, 0, .int 0, [])) (y_s := (18, [some (.long _), none, some (.long _), none, some (.long _), none], [.int _], _)) rfl (u_ rfl) ?_
              refine wrI (pc := 18) (len_s := 1) rfl hk ?_
              show wF _ 162 (73, [some (.ref _), some (.int _), some (.int _)], [.int _], _) _
              exact wrI (pc := 73) (len_s := 1) rfl hk t_s
            · replace t_s := t_s.2 c12_s
              refine w_t (pc := 13) (e_s := (0, 1, 0, 0, 0, .int 1, [])) (y_s := (14, [some (.long _), none, some (.long _), none, some (.long _), none], [.int _], _)) rfl (u_ rfl) ?_
              refine w_t (pc := 14) (e_s := (17, 3, 18, 0, 0, .null, [])) (y_s := (18, [some (.long _), none, some (.long _), none, some (.long _), none], [.int _], _)) rfl (u_ rfl) ?_
              refine wrI (pc := 18) (len_s := 1) rfl hk ?_
              show wF _ 162 (73, [some (.ref _), some (.int _), some (.int _)], [.int _], _) _
              exact wrI (pc := 73) (len_s := 1) rfl hk t_s
        · replace t_s := t_s.2 c10_s
          refine wsc (X_s := 4) rfl (by decide) (fun c13_s => ?_) (fun c13_s => ?_)
          · replace t_s := t_s.1 c13_s
            refine w_t (pc := 94) (e_s := (1, 1, 2, 0, 0, .null, [])) (y_s := (95, [some (.ref _), some (.int _), some (.int _)], [.int _], _)) rfl (u_ rfl) ?_
            refine w_t (pc := 95) (e_s := (10, 1, 0, 0, 0, .null, [])) (y_s := (96, [some (.ref _), some (.int _), some (.int _)], [.long (Int32.toInt64 _)], _)) rfl (u_ rfl) ?_
            refine w_t (pc := 96) (e_s := (0, 1, 0, 0, 0, .long 0, [])) (y_s := (97, [some (.ref _), some (.int _), some (.int _)], [.long _, .long _], _)) rfl (u_ rfl) ?_
            refine w_t (pc := 97) (e_s := (0, 3, 0, 0, 0, .long 99, [(0, 1077)])) (y_s := (100, [some (.ref _), some (.int _), some (.int _)], [.long _, .long _, .long _], _)) rfl (u_ rfl) ?_
            refine wcI (pc := 100) (len_s := 3) rfl rfl (l := [some (.long _), none, some (.long _), none, some (.long _), none]) rfl ?_
            refine w_t (pc := 0) (e_s := (2, 1, 0, 0, 0, .null, [])) (y_s := (1, [some (.long _), none, some (.long _), none, some (.long _), none], [.long _], _)) rfl (u_ rfl) ?_
            refine w_t (pc := 1) (e_s := (2, 1, 2, 0, 0, .null, [])) (y_s := (2, [some (.long _), none, some (.long _), none, some (.long _), none], [.long _, .long _], _)) rfl (u_ rfl) ?_
            refine w_t (pc := 2) (e_s := (14, 1, 0, 0, 0, .null, [])) (y_s := (3, [some (.long _), none, some (.long _), none, some (.long _), none], [.int (lg_cmp _ _)], _)) rfl (u_ rfl) ?_
            refine wl2 (pc := 3) (len_s := 3) (Y := 0) rfl (Int32.toInt_toInt64 _) (by decide) (fun c14_s => ?_) (fun c14_s => ?_)
            · replace t_s := t_s.1 c14_s
              refine w_t (pc := 17) (e_s := (0, 1, 0, 0, 0, .int 0, [])) (y_s := (18, [some (.long _), none, some (.long _), none, some (.long _), none], [.int _], _)) rfl (u_ rfl) ?_
              refine wrI (pc := 18) (len_s := 1) rfl hk ?_
              show wF _ 162 (103, [some (.ref _), some (.int _), some (.int _)], [.int _], _) _
              exact wrI (pc := 103) (len_s := 1) rfl hk t_s
            · replace t_s := t_s.2 c14_s
              refine w_t (pc := 6) (e_s := (2, 1, 0, 0, 0, .null, [])) (y_s := (7, [some (.long _), none, some (.long _), none, some (.long _), none], [.long _], _)) rfl (u_ rfl) ?_
              refine w_t (pc := 7) (e_s := (2, 2, 4, 0, 0, .null, [])) (y_s := (9, [some (.long _), none, some (.long _), none, some (.long _), none], [.long _, .long _], _)) rfl (u_ rfl) ?_
              refine w_t (pc := 9) (e_s := (14, 1, 0, 0, 0, .null, [])) (y_s := (10, [some (.long _), none, some (.long _), none, some (.long _), none], [.int (lg_cmp _ _)], _)) rfl (u_ rfl) ?_
              refine wl4 (pc := 10) (len_s := 3) (Y := 99) rfl (Int32.toInt_toInt64 _) (by decide) (fun c15_s => ?_) (fun c15_s => ?_)
              · replace t_s := t_s.1 c15_s
                refine w_t (pc := 17) (e_s := (0, 1, 0, 0, 0, .int 0, [])) (y_s := (18, [some (.long _), none, some (.long _), none, some (.long _), none], [.int _], _)) rfl (u_ rfl) ?_
                refine wrI (pc := 18) (len_s := 1) rfl hk ?_
                show wF _ 162 (103, [some (.ref _), some (.int _), some (.int _)], [.int _], _) _
                exact wrI (pc := 103) (len_s := 1) rfl hk t_s
              · replace t_s := t_s.2 c15_s
                refine w_t (pc := 13) (e_s := (0, 1, 0, 0, 0, .int 1, [])) (y_s := (14, [some (.long _), none, some (.long _), none, some (.long _), none], [.int _], _)) rfl (u_ rfl) ?_
                refine w_t (pc := 14) (e_s := (17, 3, 18, 0, 0, .null, [])) (y_s := (18, [some (.long _), none, some (.long _), none, some (.long _), none], [.int _], _)) rfl (u_ rfl) ?_
                refine wrI (pc := 18) (len_s := 1) rfl hk ?_
                show wF _ 162 (103, [some (.ref _), some (.int _), some (.int _)], [.int _], _) _
                exact wrI (pc := 103) (len_s := 1) rfl hk t_s
          · replace t_s := t_s.2 c13_s
            refine wsc (X_s := 5) rfl (by decide) (fun c16 => ?_) (fun c16 => ?_)
            · replace t_s := t_s.1 c16
              refine w_t (pc := 152) (e_s := (1, 1, 2, 0, 0, .null, [])) (y_s := (153, [some (.ref _), some (.int _), some (.int _)], [.int _], _)) rfl (u_ rfl) ?_
              refine w_t (pc := 153) (e_s := (10, 1, 0, 0, 0, .null, [])) (y_s := (154, [some (.ref _), some (.int _), some (.int _)], [.long (Int32.toInt64 _)], _)) rfl (u_ rfl) ?_
              refine w_t (pc := 154) (e_s := (0, 1, 0, 0, 0, .long 0, [])) (y_s := (155, [some (.ref _), some (.int _), some (.int _)], [.long _, .long _], _)) rfl (u_ rfl) ?_
              refine w_t (pc := 155) (e_s := (0, 3, 0, 0, 0, .long 9, [(0, 1066)])) (y_s := (158, [some (.ref _), some (.int _), some (.int _)], [.long _, .long _, .long _], _)) rfl (u_ rfl) ?_
              refine wcI (pc := 158) (len_s := 3) rfl rfl (l := [some (.long _), none, some (.long _), none, some (.long _), none]) rfl ?_
              refine w_t (pc := 0) (e_s := (2, 1, 0, 0, 0, .null, [])) (y_s := (1, [some (.long _), none, some (.long _), none, some (.long _), none], [.long _], _)) rfl (u_ rfl) ?_
              refine w_t (pc := 1) (e_s := (2, 1, 2, 0, 0, .null, [])) (y_s := (2, [some (.long _), none, some (.long _), none, some (.long _), none], [.long _, .long _], _)) rfl (u_ rfl) ?_
              refine w_t (pc := 2) (e_s := (14, 1, 0, 0, 0, .null, [])) (y_s := (3, [some (.long _), none, some (.long _), none, some (.long _), none], [.int (lg_cmp _ _)], _)) rfl (u_ rfl) ?_
              refine wl2 (pc := 3) (len_s := 3) (Y := 0) rfl (Int32.toInt_toInt64 _) (by decide) (fun c17 => ?_) (fun c17 => ?_)
              · replace t_s := t_s.1 c17
                refine w_t (pc := 17) (e_s := (0, 1, 0, 0, 0, .int 0, [])) (y_s := (18, [some (.long _), none, some (.long _), none, some (.long _), none], [.int _], _)) rfl (u_ rfl) ?_
                refine wrI (pc := 18) (len_s := 1) rfl hk ?_
                show wF _ 162 (161, [some (.ref _), some (.int _), some (.int _)], [.int _], _) _
                exact wrI (pc := 161) (len_s := 1) rfl hk t_s
              · replace t_s := t_s.2 c17
                refine w_t (pc := 6) (e_s := (2, 1, 0, 0, 0, .null, [])) (y_s := (7, [some (.long _), none, some (.long _), none, some (.long _), none], [.long _], _)) rfl (u_ rfl) ?_
                refine w_t (pc := 7) (e_s := (2, 2, 4, 0, 0, .null, [])) (y_s := (9, [some (.long _), none, some (.long _), none, some (.long _), none], [.long _, .long _], _)) rfl (u_ rfl) ?_
                refine w_t (pc := 9) (e_s := (14, 1, 0, 0, 0, .null, [])) (y_s := (10, [some (.long _), none, some (.long _), none, some (.long _), none], [.int (lg_cmp _ _)], _)) rfl (u_ rfl) ?_
                refine wl4 (pc := 10) (len_s := 3) (Y := 9) rfl (Int32.toInt_toInt64 _) (by decide) (fun c18_s => ?_) (fun c18_s => ?_)
                · replace t_s := t_s.1 c18_s
                  refine w_t (pc := 17) (e_s := (0, 1, 0, 0, 0, .int 0, [])) (y_s := (18, [some (.long _), none, some (.long _), none, some (.long _), none], [.int _], _)) rfl (u_ rfl) ?_
                  refine wrI (pc := 18) (len_s := 1) rfl hk ?_
                  show wF _ 162 (161, [some (.ref _), some (.int _), some (.int _)], [.int _], _) _
                  exact wrI (pc := 161) (len_s := 1) rfl hk t_s
                · replace t_s := t_s.2 c18_s
                  refine w_t (pc := 13) (e_s := (0, 1, 0, 0, 0, .int 1, [])) (y_s := (14, [some (.long _), none, some (.long _), none, some (.long _), none], [.int _], _)) rfl (u_ rfl) ?_
                  refine w_t (pc := 14) (e_s := (17, 3, 18, 0, 0, .null, [])) (y_s := (18, [some (.long _), none, some (.long _), none, some (.long _), none], [.int _], _)) rfl (u_ rfl) ?_
                  refine wrI (pc := 18) (len_s := 1) rfl hk ?_
                  show wF _ 162 (161, [some (.ref _), some (.int _), some (.int _)], [.int _], _) _
                  exact wrI (pc := 161) (len_s := 1) rfl hk t_s
            · replace t_s := t_s.2 c16
              refine wsc (X_s := 6) rfl (by decide) (fun c19_s => ?_) (fun c19_s => ?_)
              · replace t_s := t_s.1 c19_s
                refine w_t (pc := 104) (e_s := (1, 1, 2, 0, 0, .null, [])) (y_s := (105, [some (.ref _), some (.int _), some (.int _)], [.int _], _)) rfl (u_ rfl) ?_
                refine w_t (pc := 105) (e_s := (10, 1, 0, 0, 0, .null, [])) (y_s := (106, [some (.ref _), some (.int _), some (.int _)], [.long (Int32.toInt64 _)], _)) rfl (u_ rfl) ?_
                refine w_t (pc := 106) (e_s := (0, 1, 0, 0, 0, .long 0, [])) (y_s := (107, [some (.ref _), some (.int _), some (.int _)], [.long _, .long _], _)) rfl (u_ rfl) ?_
                refine w_t (pc := 107) (e_s := (0, 1, 0, 0, 0, .long 1, [])) (y_s := (108, [some (.ref _), some (.int _), some (.int _)], [.long _, .long _, .long _], _)) rfl (u_ rfl) ?_
                refine wcI (pc := 108) (len_s := 3) rfl rfl (l := [some (.long _), none, some (.long _), none, some (.long _), none]) rfl ?_
                refine w_t (pc := 0) (e_s := (2, 1, 0, 0, 0, .null, [])) (y_s := (1, [some (.long _), none, some (.long _), none, some (.long _), none], [.long _], _)) rfl (u_ rfl) ?_
                refine w_t (pc := 1) (e_s := (2, 1, 2, 0, 0, .null, [])) (y_s := (2, [some (.long _), none, some (.long _), none, some (.long _), none], [.long _, .long _], _)) rfl (u_ rfl) ?_
                refine w_t (pc := 2) (e_s := (14, 1, 0, 0, 0, .null, [])) (y_s := (3, [some (.long _), none, some (.long _), none, some (.long _), none], [.int (lg_cmp _ _)], _)) rfl (u_ rfl) ?_
                refine wl2 (pc := 3) (len_s := 3) (Y := 0) rfl (Int32.toInt_toInt64 _) (by decide) (fun c20_s => ?_) (fun c20_s => ?_)
                · replace t_s := t_s.1 c20_s
                  refine w_t (pc := 17) (e_s := (0, 1, 0, 0, 0, .int 0, [])) (y_s := (18, [some (.long _), none, some (.long _), none, some (.long _), none], [.int _], _)) rfl (u_ rfl) ?_
                  refine wrI (pc := 18) (len_s := 1) rfl hk ?_
                  show wF _ 162 (111, [some (.ref _), some (.int _), some (.int _)], [.int _], _) _
                  exact wrI (pc := 111) (len_s := 1) rfl hk t_s
                · replace t_s := t_s.2 c20_s
                  refine w_t (pc := 6) (e_s := (2, 1, 0, 0, 0, .null, [])) (y_s := (7, [some (.long _), none, some (.long _), none, some (.long _), none], [.long _], _)) rfl (u_ rfl) ?_
                  refine w_t (pc := 7) (e_s := (2, 2, 4, 0, 0, .null, [])) (y_s := (9, [some (.long _), none, some (.long _), none, some (.long _), none], [.long _, .long _], _)) rfl (u_ rfl) ?_
                  refine w_t (pc := 9) (e_s := (14, 1, 0, 0, 0, .null, [])) (y_s := (10, [some (.long _), none, some (.long _), none, some (.long _), none], [.int (lg_cmp _ _)], _)) rfl (u_ rfl) ?_
                  refine wl4 (pc := 10) (len_s := 3) (Y := 1) rfl (Int32.toInt_toInt64 _) (by decide) (fun c21 => ?_) (fun c21 => ?_)
                  · replace t_s := t_s.1 c21
                    refine w_t (pc := 17) (e_s := (0, 1, 0, 0, 0, .int 0, [])) (y_s := (18, [some (.long _), none, some (.long _), none, some (.long _), none], [.int _], _)) rfl (u_ rfl) ?_
                    refine wrI (pc := 18) (len_s := 1) rfl hk ?_
                    show wF _ 162 (111, [some (.ref _), some (.int _), some (.int _)], [.int _], _) _
                    exact wrI (pc := 111) (len_s := 1) rfl hk t_s
                  · replace t_s := t_s.2 c21
                    refine w_t (pc := 13) (e_s := (0, 1, 0, 0, 0, .int 1, [])) (y_s := (14, [some (.long _), none, some (.long _), none, some (.long _), none], [.int _], _)) rfl (u_ rfl) ?_
                    refine w_t (pc := 14) (e_s := (17, 3, 18, 0, 0, .null, [])) (y_s := (18, [some (.long _), none, some (.long _), none, some (.long _), none], [.int _], _)) rfl (u_ rfl) ?_
                    refine wrI (pc := 18) (len_s := 1) rfl hk ?_
                    show wF _ 162 (111, [some (.ref _), some (.int _), some (.int _)], [.int _], _) _
                    exact wrI (pc := 111) (len_s := 1) rfl hk t_s
              · replace t_s := t_s.2 c19_s
                refine wsc (X_s := 7) rfl (by decide) (fun c22 => ?_) (fun c22 => ?_)
                · replace t_s := t_s.1 c22
                  refine w_t (pc := 152) (e_s := (1, 1, 2, 0, 0, .null, [])) (y_s := (153, [some (.ref _), some (.int _), some (.int _)], [.int _], _)) rfl (u_ rfl) ?_
                  refine w_t (pc := 153) (e_s := (10, 1, 0, 0, 0, .null, [])) (y_s := (154, [some (.ref _), some (.int _), some (.int _)], [.long (Int32.toInt64 _)], _)) rfl (u_ rfl) ?_
                  refine w_t (pc := 154) (e_s := (0, 1, 0, 0, 0, .long 0, [])) (y_s := (155, [some (.ref _), some (.int _), some (.int _)], [.long _, .long _], _)) rfl (u_ rfl) ?_
                  refine w_t (pc := 155) (e_s := (0, 3, 0, 0, 0, .long 9, [(0, 1066)])) (y_s := (158, [some (.ref _), some (.int _), some (.int _)], [.long _, .long _, .long _], _)) rfl (u_ rfl) ?_
                  refine wcI (pc := 158) (len_s := 3) rfl rfl (l := [some (.long _), none, some (.long _), none, some (.long _), none]) rfl ?_
                  refine w_t (pc := 0) (e_s := (2, 1, 0, 0, 0, .null, [])) (y_s := (1, [some (.long _), none, some (.long _), none, some (.long _), none], [.long _], _)) rfl (u_ rfl) ?_
                  refine w_t (pc := 1) (e_s := (2, 1, 2, 0, 0, .null, [])) (y_s := (2, [some (.long _), none, some (.long _), none, some (.long _), none], [.long _, .long _], _)) rfl (u_ rfl) ?_
                  refine w_t (pc := 2) (e_s := (14, 1, 0, 0, 0, .null, [])) (y_s := (3, [some (.long _), none, some (.long _), none, some (.long _), none], [.int (lg_cmp _ _)], _)) rfl (u_ rfl) ?_
                  refine wl2 (pc := 3) (len_s := 3) (Y := 0) rfl (Int32.toInt_toInt64 _) (by decide) (fun c23_s => ?_) (fun c23_s => ?_)
                  · replace t_s := t_s.1 c23_s
                    refine w_t (pc := 17) (e_s := (0, 1, 0, 0, 0, .int 0, [])) (y_s := (18, [some (.long _), none, some (.long _), none, some (.long _), none], [.int _], _)) rfl (u_ rfl) ?_
                    refine wrI (pc := 18) (len_s := 1) rfl hk ?_
                    show wF _ 162 (161, [some (.ref _), some (.int _), some (.int _)], [.int _], _) _
                    exact wrI (pc := 161) (len_s := 1) rfl hk t_s
                  · replace t_s := t_s.2 c23_s
                    refine w_t (pc := 6) (e_s := (2, 1, 0, 0, 0, .null, [])) (y_s := (7, [some (.long _), none, some (.long _), none, some (.long _), none], [.long _], _)) rfl (u_ rfl) ?_
                    refine w_t (pc := 7) (e_s := (2, 2, 4, 0, 0, .null, [])) (y_s := (9, [some (.long _), none, some (.long _), none, some (.long _), none], [.long _, .long _], _)) rfl (u_ rfl) ?_
                    refine w_t (pc := 9) (e_s := (14, 1, 0, 0, 0, .null, [])) (y_s := (10, [some (.long _), none, some (.long _), none, some (.long _), none], [.int (lg_cmp _ _)], _)) rfl (u_ rfl) ?_
                    refine wl4 (pc := 10) (len_s := 3) (Y := 9) rfl (Int32.toInt_toInt64 _) (by decide) (fun c24_s => ?_) (fun c24_s => ?_)
                    · replace t_s := t_s.1 c24_s
                      refine w_t (pc := 17) (e_s := (0, 1, 0, 0, 0, .int 0, [])) (y_s := (18, [some (.long _), none, some (.long _), none, some (.long _), none], [.int _], _)) rfl (u_ rfl) ?_
                      refine wrI (pc := 18) (len_s := 1) rfl hk ?_
                      show wF _ 162 (161, [some (.ref _), some (.int _), some (.int _)], [.int _], _) _
                      exact wrI (pc := 161) (len_s := 1) rfl hk t_s
                    · replace t_s := t_s.2 c24_s
                      refine w_t (pc := 13) (e_s := (0, 1, 0, 0, 0, .int 1, [])) (y_s := (14, [some (.long _), none, some (.long _), none, some (.long _), none], [.int _], _)) rfl (u_ rfl) ?_
                      refine w_t (pc := 14) (e_s := (17, 3, 18, 0, 0, .null, [])) (y_s := (18, [some (.long _), none, some (.long _), none, some (.long _), none], [.int _], _)) rfl (u_ rfl) ?_
                      refine wrI (pc := 18) (len_s := 1) rfl hk ?_
                      show wF _ 162 (161, [some (.ref _), some (.int _), some (.int _)], [.int _], _) _
                      exact wrI (pc := 161) (len_s := 1) rfl hk t_s
                · replace t_s := t_s.2 c22
                  refine wsc (X_s := 8) rfl (by decide) (fun c25_s => ?_) (fun c25_s => ?_)
                  · replace t_s := t_s.1 c25_s
                    refine w_t (pc := 112) (e_s := (1, 1, 2, 0, 0, .null, [])) (y_s := (113, [some (.ref _), some (.int _), some (.int _)], [.int _], _)) rfl (u_ rfl) ?_
                    refine w_t (pc := 113) (e_s := (0, 1, 0, 0, 0, .int (-1), [])) (y_s := (114, [some (.ref _), some (.int _), some (.int _)], [.int _, .int _], _)) rfl (u_ rfl) ?_
                    refine wi0 (pc := 114) (len_s := 3) (Y := -1) rfl rfl (by decide) (fun c26 => ?_) (fun c26 => ?_)
                    · replace t_s := t_s.1 c26
                      refine w_t (pc := 126) (e_s := (0, 1, 0, 0, 0, .int 1, [])) (y_s := (127, [some (.ref _), some (.int _), some (.int _)], [.int _], _)) rfl (u_ rfl) ?_
                      refine w_t (pc := 127) (e_s := (17, 3, 131, 0, 0, .null, [])) (y_s := (131, [some (.ref _), some (.int _), some (.int _)], [.int _], _)) rfl (u_ rfl) ?_
                      exact wrI (pc := 131) (len_s := 1) rfl hk t_s
                    · replace t_s := t_s.2 c26
                      refine w_t (pc := 117) (e_s := (3, 1, 0, 0, 0, .null, [])) (y_s := (118, [some (.ref _), some (.int _), some (.int _)], [.ref _], _)) rfl (u_ rfl) ?_
                      refine w_t (pc := 118) (e_s := (1, 1, 2, 0, 0, .null, [])) (y_s := (119, [some (.ref _), some (.int _), some (.int _)], [.int _, .ref _], _)) rfl (u_ rfl) ?_
                      refine w_t (pc := 119) (e_s := (10, 1, 0, 0, 0, .null, [])) (y_s := (120, [some (.ref _), some (.int _), some (.int _)], [.long (Int32.toInt64 _), .ref _], _)) rfl (u_ rfl) ?_
                      refine wcI (pc := 120) (len_s := 3) rfl rfl (l := [some (.ref _), some (.long _), none]) rfl ?_
                      refine w_t (pc := 0) (e_s := (2, 1, 1, 0, 0, .null, [])) (y_s := (1, [some (.ref _), some (.long _), none], [.long _], _)) rfl (u_ rfl) ?_
                      refine w_t (pc := 1) (e_s := (0, 1, 0, 0, 0, .long 0, [])) (y_s := (2, [some (.ref _), some (.long _), none], [.long _, .long _], _)) rfl (u_ rfl) ?_
                      refine w_t (pc := 2) (e_s := (3, 1, 0, 0, 0, .null, [])) (y_s := (3, [some (.ref _), some (.long _), none], [.ref _, .long _, .long _], _)) rfl (u_ rfl) ?_
                      refine w20 (pc := 3) (len_s := 3) rfl ?_
                      refine w_t (pc := 6) (e_s := (0, 1, 0, 0, 0, .int 1, [])) (y_s := (7, [some (.ref _), some (.long _), none], [.int _, .int _, .long _, .long _], _)) rfl (u_ rfl) ?_
                      refine w_t (pc := 7) (e_s := (7, 1, 0, 1, 0, .null, [])) (y_s := (8, [some (.ref _), some (.long _), none], [.int (_ - _), .long _, .long _], _)) rfl (u_ rfl) ?_
                      refine w_t (pc := 8) (e_s := (10, 1, 0, 0, 0, .null, [])) (y_s := (9, [some (.ref _), some (.long _), none], [.long (Int32.toInt64 _), .long _, .long _], _)) rfl (u_ rfl) ?_
                      refine wcI (pc := 9) (len_s := 3) rfl rfl (l := [some (.long _), none, some (.long _), none, some (.long _), none]) rfl ?_
                      refine w_t (pc := 0) (e_s := (2, 1, 0, 0, 0, .null, [])) (y_s := (1, [some (.long _), none, some (.long _), none, some (.long _), none], [.long _], _)) rfl (u_ rfl) ?_
                      refine w_t (pc := 1) (e_s := (2, 1, 2, 0, 0, .null, [])) (y_s := (2, [some (.long _), none, some (.long _), none, some (.long _), none], [.long _, .long _], _)) rfl (u_ rfl) ?_
                      refine w_t (pc := 2) (e_s := (14, 1, 0, 0, 0, .null, [])) (y_s := (3, [some (.long _), none, some (.long _), none, some (.long _), none], [.int (lg_cmp _ _)], _)) rfl (u_ rfl) ?_
                      refine wl2 (pc := 3) (len_s := 3) (Y := 0) rfl (Int32.toInt_toInt64 _) (by decide) (fun c27_s => ?_) (fun c27_s => ?_)
                      · replace t_s := t_s.1 c27_s
                        refine w_t (pc := 17) (e_s := (0, 1, 0, 0, 0, .int 0, [])) (y_s := (18, [some (.long _), none, some (.long _), none, some (.long _), none], [.int _], _)) rfl (u_ rfl) ?_
                        refine wrI (pc := 18) (len_s := 1) rfl hk ?_
                        show wF _ 151 (12, [some (.ref _), some (.long _), none], [.int _], _) _
                        refine wrI (pc := 12) (len_s := 1) rfl hk ?_
                        show wF _ 162 (123, [some (.ref _), some (.int _), some (.int _)], [.int _], _) _
                        refine w_t (pc := 123) (e_s := (15, 3, 130, 0, 0, .null, [])) (y_s := (130, [some (.ref _), some (.int _), some (.int _)], [], _)) rfl (u_ rfl) ?_
                        refine w_t (pc := 130) (e_s := (0, 1, 0, 0, 0, .int 0, [])) (y_s := (131, [some (.ref _), some (.int _), some (.int _)], [.int _], _)) rfl (u_ rfl) ?_
                        exact wrI (pc := 131) (len_s := 1) rfl hk t_s
                      · replace t_s := t_s.2 c27_s
                        refine w_t (pc := 6) (e_s := (2, 1, 0, 0, 0, .null, [])) (y_s := (7, [some (.long _), none, some (.long _), none, some (.long _), none], [.long _], _)) rfl (u_ rfl) ?_
                        refine w_t (pc := 7) (e_s := (2, 2, 4, 0, 0, .null, [])) (y_s := (9, [some (.long _), none, some (.long _), none, some (.long _), none], [.long _, .long _], _)) rfl (u_ rfl) ?_
                        refine w_t (pc := 9) (e_s := (14, 1, 0, 0, 0, .null, [])) (y_s := (10, [some (.long _), none, some (.long _), none, some (.long _), none], [.int (lg_cmp _ _)], _)) rfl (u_ rfl) ?_
                        refine wl4 (pc := 10) (len_s := 3) rfl (Int32.toInt_toInt64 _) (Int32.toInt_toInt64 _) (fun c28_s => ?_) (fun c28_s => ?_)
                        · replace t_s := t_s.1 c28_s
                          refine w_t (pc := 17) (e_s := (0, 1, 0, 0, 0, .int 0, [])) (y_s := (18, [some (.long _), none, some (.long _), none, some (.long _), none], [.int _], _)) rfl (u_ rfl) ?_
                          refine wrI (pc := 18) (len_s := 1) rfl hk ?_
                          show wF _ 151 (12, [some (.ref _), some (.long _), none], [.int _], _) _
                          refine wrI (pc := 12) (len_s := 1) rfl hk ?_
                          show wF _ 162 (123, [some (.ref _), some (.int _), some (.int _)], [.int _], _) _
                          refine w_t (pc := 123) (e_s := (15, 3, 130, 0, 0, .null, [])) (y_s := (130, [some (.ref _), some (.int _), some (.int _)], [], _)) rfl (u_ rfl) ?_
                          refine w_t (pc := 130) (e_s := (0, 1, 0, 0, 0, .int 0, [])) (y_s := (131, [some (.ref _), some (.int _), some (.int _)], [.int _], _)) rfl (u_ rfl) ?_
                          exact wrI (pc := 131) (len_s := 1) rfl hk t_s
                        · replace t_s := t_s.2 c28_s
                          refine w_t (pc := 13) (e_s := (0, 1, 0, 0, 0, .int 1, [])) (y_s := (14, [some (.long _), none, some (.long _), none, some (.long _), none], [.int _], _)) rfl (u_ rfl) ?_
                          refine w_t (pc := 14) (e_s := (17, 3, 18, 0, 0, .null, [])) (y_s := (18, [some (.long _), none, some (.long _), none, some (.long _), none], [.int _], _)) rfl (u_ rfl) ?_
                          refine wrI (pc := 18) (len_s := 1) rfl hk ?_
                          show wF _ 151 (12, [some (.ref _), some (.long _), none], [.int _], _) _
                          refine wrI (pc := 12) (len_s := 1) rfl hk ?_
                          show wF _ 162 (123, [some (.ref _), some (.int _), some (.int _)], [.int _], _) _
                          refine w_t (pc := 123) (e_s := (15, 3, 130, 0, 0, .null, [])) (y_s := (126, [some (.ref _), some (.int _), some (.int _)], [], _)) rfl (u_ rfl) ?_
                          refine w_t (pc := 126) (e_s := (0, 1, 0, 0, 0, .int 1, [])) (y_s := (127, [some (.ref _), some (.int _), some (.int _)], [.int _], _)) rfl (u_ rfl) ?_
                          refine w_t (pc := 127) (e_s := (17, 3, 131, 0, 0, .null, [])) (y_s := (131, [some (.ref _), some (.int _), some (.int _)], [.int _], _)) rfl (u_ rfl) ?_
                          exact wrI (pc := 131) (len_s := 1) rfl hk t_s
                  · replace t_s := t_s.2 c25_s
                    refine wsc (X_s := 9) rfl (by decide) (fun c29_s => ?_) (fun c29_s => ?_)
                    · replace t_s := t_s.1 c29_s
                      refine w_t (pc := 132) (e_s := (1, 1, 2, 0, 0, .null, [])) (y_s := (133, [some (.ref _), some (.int _), some (.int _)], [.int _], _)) rfl (u_ rfl) ?_
                      refine w_t (pc := 133) (e_s := (10, 1, 0, 0, 0, .null, [])) (y_s := (134, [some (.ref _), some (.int _), some (.int _)], [.long (Int32.toInt64 _)], _)) rfl (u_ rfl) ?_
                      refine w_t (pc := 134) (e_s := (0, 1, 0, 0, 0, .long 1, [])) (y_s := (135, [some (.ref _), some (.int _), some (.int _)], [.long _, .long _], _)) rfl (u_ rfl) ?_
                      refine w_t (pc := 135) (e_s := (0, 3, 0, 0, 0, .long 9, [(0, 1066)])) (y_s := (138, [some (.ref _), some (.int _), some (.int _)], [.long _, .long _, .long _], _)) rfl (u_ rfl) ?_
                      refine wcI (pc := 138) (len_s := 3) rfl rfl (l := [some (.long _), none, some (.long _), none, some (.long _), none]) rfl ?_
                      refine w_t (pc := 0) (e_s := (2, 1, 0, 0, 0, .null, [])) (y_s := (1, [some (.long _), none, some (.long _), none, some (.long _), none], [.long _], _)) rfl (u_ rfl) ?_
                      refine w_t (pc := 1) (e_s := (2, 1, 2, 0, 0, .null, [])) (y_s := (2, [some (.long _), none, some (.long _), none, some (.long _), none], [.long _, .long _], _)) rfl (u_ rfl) ?_
                      refine w_t (pc := 2) (e_s := (14, 1, 0, 0, 0, .null, [])) (y_s := (3, [some (.long _), none, some (.long _), none, some (.long _), none], [.int (lg_cmp _ _)], _)) rfl (u_ rfl) ?_
                      refine wl2 (pc := 3) (len_s := 3) (Y := 1) rfl (Int32.toInt_toInt64 _) (by decide) (fun c30_s => ?_) (fun c30_s => ?_)
                      · replace t_s := t_s.1 c30_s
                        refine w_t (pc := 17) (e_s := (0, 1, 0, 0, 0, .int 0, [])) (y_s := (18, [some (.long _), none, some (.long _), none, some (.long _), none], [.int _], _)) rfl (u_ rfl) ?_
                        refine wrI (pc := 18) (len_s := 1) rfl hk ?_
                        show wF _ 162 (141, [some (.ref _), some (.int _), some (.int _)], [.int _], _) _
                        exact wrI (pc := 141) (len_s := 1) rfl hk t_s
                      · replace t_s := t_s.2 c30_s
                        refine w_t (pc := 6) (e_s := (2, 1, 0, 0, 0, .null, [])) (y_s := (7, [some (.long _), none, some (.long _), none, some (.long _), none], [.long _], _)) rfl (u_ rfl) ?_
                        refine w_t (pc := 7) (e_s := (2, 2, 4, 0, 0, .null, [])) (y_s := (9, [some (.long _), none, some (.long _), none, some (.long _), none], [.long _, .long _], _)) rfl (u_ rfl) ?_
                        refine w_t (pc := 9) (e_s := (14, 1, 0, 0, 0, .null, [])) (y_s := (10, [some (.long _), none, some (.long _), none, some (.long _), none], [.int (lg_cmp _ _)], _)) rfl (u_ rfl) ?_
                        refine wl4 (pc := 10) (len_s := 3) (Y := 9) rfl (Int32.toInt_toInt64 _) (by decide) (fun c31_s => ?_) (fun c31_s => ?_)
                        · replace t_s := t_s.1 c31_s
                          refine w_t (pc := 17) (e_s := (0, 1, 0, 0, 0, .int 0, [])) (y_s := (18, [some (.long _), none, some (.long _), none, some (.long _), none], [.int _], _)) rfl (u_ rfl) ?_
                          refine wrI (pc := 18) (len_s := 1) rfl hk ?_
                          show wF _ 162 (141, [some (.ref _), some (.int _), some (.int _)], [.int _], _) _
                          exact wrI (pc := 141) (len_s := 1) rfl hk t_s
                        · replace t_s := t_s.2 c31_s
                          refine w_t (pc := 13) (e_s := (0, 1, 0, 0, 0, .int 1, [])) (y_s := (14, [some (.long _), none, some (.long _), none, some (.long _), none], [.int _], _)) rfl (u_ rfl) ?_
                          refine w_t (pc := 14) (e_s := (17, 3, 18, 0, 0, .null, [])) (y_s := (18, [some (.long _), none, some (.long _), none, some (.long _), none], [.int _], _)) rfl (u_ rfl) ?_
                          refine wrI (pc := 18) (len_s := 1) rfl hk ?_
                          show wF _ 162 (141, [some (.ref _), some (.int _), some (.int _)], [.int _], _) _
                          exact wrI (pc := 141) (len_s := 1) rfl hk t_s
                    · replace t_s := t_s.2 c29_s
                      refine wsc (X_s := 10) rfl (by decide) (fun c32_s => ?_) (fun c32_s => ?_)
                      · replace t_s := t_s.1 c32_s
                        refine w_t (pc := 152) (e_s := (1, 1, 2, 0, 0, .null, [])) (y_s := (153, [some (.ref _), some (.int _), some (.int _)], [.int _], _)) rfl (u_ rfl) ?_
                        refine w_t (pc := 153) (e_s := (10, 1, 0, 0, 0, .null, [])) (y_s := (154, [some (.ref _), some (.int _), some (.int _)], [.long (Int32.toInt64 _)], _)) rfl (u_ rfl) ?_
                        refine w_t (pc := 154) (e_s := (0, 1, 0, 0, 0, .long 0, [])) (y_s := (155, [some (.ref _), some (.int _), some (.int _)], [.long _, .long _], _)) rfl (u_ rfl) ?_
                        refine w_t (pc := 155) (e_s := (0, 3, 0, 0, 0, .long 9, [(0, 1066)])) (y_s := (158, [some (.ref _), some (.int _), some (.int _)], [.long _, .long _, .long _], _)) rfl (u_ rfl) ?_
                        refine wcI (pc := 158) (len_s := 3) rfl rfl (l := [some (.long _), none, some (.long _), none, some (.long _), none]) rfl ?_
                        refine w_t (pc := 0) (e_s := (2, 1, 0, 0, 0, .null, [])) (y_s := (1, [some (.long _), none, some (.long _), none, some (.long _), none], [.long _], _)) rfl (u_ rfl) ?_
                        refine w_t (pc := 1) (e_s := (2, 1, 2, 0, 0, .null, [])) (y_s := (2, [some (.long _), none, some (.long _), none, some (.long _), none], [.long _, .long _], _)) rfl (u_ rfl) ?_
                        refine w_t (pc := 2) (e_s := (14, 1, 0, 0, 0, .null, [])) (y_s := (3, [some (.long _), none, some (.long _), none, some (.long _), none], [.int (lg_cmp _ _)], _)) rfl (u_ rfl) ?_
                        refine wl2 (pc := 3) (len_s := 3) (Y := 0) rfl (Int32.toInt_toInt64 _) (by decide) (fun c33_s => ?_) (fun c33_s => ?_)
                        · replace t_s := t_s.1 c33_s
                          refine w_t (pc := 17) (e_s := (0, 1, 0, 0, 0, .int 0, [])) (y_s := (18, [some (.long _), none, some (.long _), none, some (.long _), none], [.int _], _)) rfl (u_ rfl) ?_
                          refine wrI (pc := 18) (len_s := 1) rfl hk ?_
                          show wF _ 162 (161, [some (.ref _), some (.int _), some (.int _)], [.int _], _) _
                          exact wrI (pc := 161) (len_s := 1) rfl hk t_s
                        · replace t_s := t_s.2 c33_s
                          refine w_t (pc := 6) (e_s := (2, 1, 0, 0, 0, .null, [])) (y_s := (7, [some (.long _), none, some (.long _), none, some (.long _), none], [.long _], _)) rfl (u_ rfl) ?_
                          refine w_t (pc := 7) (e_s := (2, 2, 4, 0, 0, .null, [])) (y_s := (9, [some (.long _), none, some (.long _), none, some (.long _), none], [.long _, .long _], _)) rfl (u_ rfl) ?_
                          refine w_t (pc := 9) (e_s := (14, 1, 0, 0, 0, .null, [])) (y_s := (10, [some (.long _), none, some (.long _), none, some (.long _), none], [.int (lg_cmp _ _)], _)) rfl (u_ rfl) ?_
                          refine wl4 (pc := 10) (len_s := 3) (Y := 9) rfl (Int32.toInt_toInt64 _) (by decide) (fun c34_s => ?_) (fun c34_s => ?_)
                          · replace t_s := t_s.1 c34_s
                            refine w_t (pc := 17) (e_s := (0, 1, 0, 0, 0, .int 0, [])) (y_s := (18, [some (.long _), none, some (.long _), none, some (.long _), none], [.int _], _)) rfl (u_ rfl) ?_
                            refine wrI (pc := 18) (len_s := 1) rfl hk ?_
                            show wF _ 162 (161, [some (.ref _), some (.int _), some (.int _)], [.int _], _) _
                            exact wrI (pc := 161) (len_s := 1) rfl hk t_s
                          · replace t_s := t_s.2 c34_s
                            refine w_t (pc := 13) (e_s := (0, 1, 0, 0, 0, .int 1, [])) (y_s := (14, [some (.long _), none, some (.long _), none, some (.long _), none], [.int _], _)) rfl (u_ rfl) ?_
                            refine w_t (pc := 14) (e_s := (17, 3, 18, 0, 0, .null, [])) (y_s := (18, [some (.long _), none, some (.long _), none, some (.long _), none], [.int _], _)) rfl (u_ rfl) ?_
                            refine wrI (pc := 18) (len_s := 1) rfl hk ?_
                            show wF _ 162 (161, [some (.ref _), some (.int _), some (.int _)], [.int _], _) _
                            exact wrI (pc := 161) (len_s := 1) rfl hk t_s
                      · replace t_s := t_s.2 c32_s
                        refine wsc (X_s := 11) rfl (by decide) (fun c35_s => ?_) (fun c35_s => ?_)
                        · replace t_s := t_s.1 c35_s
                          refine w_t (pc := 142) (e_s := (1, 1, 2, 0, 0, .null, [])) (y_s := (143, [some (.ref _), some (.int _), some (.int _)], [.int _], _)) rfl (u_ rfl) ?_
                          refine w_t (pc := 143) (e_s := (10, 1, 0, 0, 0, .null, [])) (y_s := (144, [some (.ref _), some (.int _), some (.int _)], [.long (Int32.toInt64 _)], _)) rfl (u_ rfl) ?_
                          refine w_t (pc := 144) (e_s := (0, 1, 0, 0, 0, .long 0, [])) (y_s := (145, [some (.ref _), some (.int _), some (.int _)], [.long _, .long _], _)) rfl (u_ rfl) ?_
                          refine w_t (pc := 145) (e_s := (0, 3, 0, 0, 0, .long 2, [(0, 1072)])) (y_s := (148, [some (.ref _), some (.int _), some (.int _)], [.long _, .long _, .long _], _)) rfl (u_ rfl) ?_
                          refine wcI (pc := 148) (len_s := 3) rfl rfl (l := [some (.long _), none, some (.long _), none, some (.long _), none]) rfl ?_
                          refine w_t (pc := 0) (e_s := (2, 1, 0, 0, 0, .null, [])) (y_s := (1, [some (.long _), none, some (.long _), none, some (.long _), none], [.long _], _)) rfl (u_ rfl) ?_
                          refine w_t (pc := 1) (e_s := (2, 1, 2, 0, 0, .null, [])) (y_s := (2, [some (.long _), none, some (.long _), none, some (.long _), none], [.long _, .long _], _)) rfl (u_ rfl) ?_
                          refine w_t (pc := 2) (e_s := (14, 1, 0, 0, 0, .null, [])) (y_s := (3, [some (.long _), none, some (.long _), none, some (.long _), none], [.int (lg_cmp _ _)], _)) rfl (u_ rfl) ?_
                          refine wl2 (pc := 3) (len_s := 3) (Y := 0) rfl (Int32.toInt_toInt64 _) (by decide) (fun c36_s => ?_) (fun c36_s => ?_)
                          · replace t_s := t_s.1 c36_s
                            refine w_t (pc := 17) (e_s := (0, 1, 0, 0, 0, .int 0, [])) (y_s := (18, [some (.long _), none, some (.long _), none, some (.long _), none], [.int _], _)) rfl (u_ rfl) ?_
                            refine wrI (pc := 18) (len_s := 1) rfl hk ?_
                            show wF _ 162 (151, [some (.ref _), some (.int _), some (.int _)], [.int _], _) _
                            exact wrI (pc := 151) (len_s := 1) rfl hk t_s
                          · replace t_s := t_s.2 c36_s
                            refine w_t (pc := 6) (e_s := (2, 1, 0, 0, 0, .null, [])) (y_s := (7, [some (.long _), none, some (.long _), none, some (.long _), none], [.long _], _)) rfl (u_ rfl) ?_
                            refine w_t (pc := 7) (e_s := (2, 2, 4, 0, 0, .null, [])) (y_s := (9, [some (.long _), none, some (.long _), none, some (.long _), none], [.long _, .long _], _)) rfl (u_ rfl) ?_
                            refine w_t (pc := 9) (e_s := (14, 1, 0, 0, 0, .null, [])) (y_s := (10, [some (.long _), none, some (.long _), none, some (.long _), none], [.int (lg_cmp _ _)], _)) rfl (u_ rfl) ?_
                            refine wl4 (pc := 10) (len_s := 3) (Y := 2) rfl (Int32.toInt_toInt64 _) (by decide) (fun c37 => ?_) (fun c37 => ?_)
                            · replace t_s := t_s.1 c37
                              refine w_t (pc := 17) (e_s := (0, 1, 0, 0, 0, .int 0, [])) (y_s := (18, [some (.long _), none, some (.long _), none, some (.long _), none], [.int _], _)) rfl (u_ rfl) ?_
                              refine wrI (pc := 18) (len_s := 1) rfl hk ?_
                              show wF _ 162 (151, [some (.ref _), some (.int _), some (.int _)], [.int _], _) _
                              exact wrI (pc := 151) (len_s := 1) rfl hk t_s
                            · replace t_s := t_s.2 c37
                              refine w_t (pc := 13) (e_s := (0, 1, 0, 0, 0, .int 1, [])) (y_s := (14, [some (.long _), none, some (.long _), none, some (.long _), none], [.int _], _)) rfl (u_ rfl) ?_
                              refine w_t (pc := 14) (e_s := (17, 3, 18, 0, 0, .null, [])) (y_s := (18, [some (.long _), none, some (.long _), none, some (.long _), none], [.int _], _)) rfl (u_ rfl) ?_
                              refine wrI (pc := 18) (len_s := 1) rfl hk ?_
                              show wF _ 162 (151, [some (.ref _), some (.int _), some (.int _)], [.int _], _) _
                              exact wrI (pc := 151) (len_s := 1) rfl hk t_s
                        · replace t_s := t_s.2 c35_s
                          show wF _ _ (152, _, _, _) _
                          refine w_t (pc := 152) (e_s := (1, 1, 2, 0, 0, .null, [])) (y_s := (153, [some (.ref _), some (.int _), some (.int _)], [.int _], _)) rfl (u_ rfl) ?_
                          refine w_t (pc := 153) (e_s := (10, 1, 0, 0, 0, .null, [])) (y_s := (154, [some (.ref _), some (.int _), some (.int _)], [.long (Int32.toInt64 _)], _)) rfl (u_ rfl) ?_
                          refine w_t (pc := 154) (e_s := (0, 1, 0, 0, 0, .long 0, [])) (y_s := (155, [some (.ref _), some (.int _), some (.int _)], [.long _, .long _], _)) rfl (u_ rfl) ?_
                          refine w_t (pc := 155) (e_s := (0, 3, 0, 0, 0, .long 9, [(0, 1066)])) (y_s := (158, [some (.ref _), some (.int _), some (.int _)], [.long _, .long _, .long _], _)) rfl (u_ rfl) ?_
                          refine wcI (pc := 158) (len_s := 3) rfl rfl (l := [some (.long _), none, some (.long _), none, some (.long _), none]) rfl ?_
                          refine w_t (pc := 0) (e_s := (2, 1, 0, 0, 0, .null, [])) (y_s := (1, [some (.long _), none, some (.long _), none, some (.long _), none], [.long _], _)) rfl (u_ rfl) ?_
                          refine w_t (pc := 1) (e_s := (2, 1, 2, 0, 0, .null, [])) (y_s := (2, [some (.long _), none, some (.long _), none, some (.long _), none], [.long _, .long _], _)) rfl (u_ rfl) ?_
                          refine w_t (pc := 2) (e_s := (14, 1, 0, 0, 0, .null, [])) (y_s := (3, [some (.long _), none, some (.long _), none, some (.long _), none], [.int (lg_cmp _ _)], _)) rfl (u_ rfl) ?_
                          refine wl2 (pc := 3) (len_s := 3) (Y := 0) rfl (Int32.toInt_toInt64 _) (by decide) (fun c38 => ?_) (fun c38 => ?_)
                          · replace t_s := t_s.1 c38
                            refine w_t (pc := 17) (e_s := (0, 1, 0, 0, 0, .int 0, [])) (y_s := (18, [some (.long _), none, some (.long _), none, some (.long _), none], [.int _], _)) rfl (u_ rfl) ?_
                            refine wrI (pc := 18) (len_s := 1) rfl hk ?_
                            show wF _ 162 (161, [some (.ref _), some (.int _), some (.int _)], [.int _], _) _
                            exact wrI (pc := 161) (len_s := 1) rfl hk t_s
                          · replace t_s := t_s.2 c38
                            refine w_t (pc := 6) (e_s := (2, 1, 0, 0, 0, .null, [])) (y_s := (7, [some (.long _), none, some (.long _), none, some (.long _), none], [.long _], _)) rfl (u_ rfl) ?_
                            refine w_t (pc := 7) (e_s := (2, 2, 4, 0, 0, .null, [])) (y_s := (9, [some (.long _), none, some (.long _), none, some (.long _), none], [.long _, .long _], _)) rfl (u_ rfl) ?_
                            refine w_t (pc := 9) (e_s := (14, 1, 0, 0, 0, .null, [])) (y_s := (10, [some (.long _), none, some (.long _), none, some (.long _), none], [.int (lg_cmp _ _)], _)) rfl (u_ rfl) ?_
                            refine wl4 (pc := 10) (len_s := 3) (Y := 9) rfl (Int32.toInt_toInt64 _) (by decide) (fun c39_s => ?_) (fun c39_s => ?_)
                            · replace t_s := t_s.1 c39_s
                              refine w_t (pc := 17) (e_s := (0, 1, 0, 0, 0, .int 0, [])) (y_s := (18, [some (.long _), none, some (.long _), none, some (.long _), none], [.int _], _)) rfl (u_ rfl) ?_
                              refine wrI (pc := 18) (len_s := 1) rfl hk ?_
                              show wF _ 162 (161, [some (.ref _), some (.int _), some (.int _)], [.int _], _) _
                              exact wrI (pc := 161) (len_s := 1) rfl hk t_s
                            · replace t_s := t_s.2 c39_s
                              refine w_t (pc := 13) (e_s := (0, 1, 0, 0, 0, .int 1, [])) (y_s := (14, [some (.long _), none, some (.long _), none, some (.long _), none], [.int _], _)) rfl (u_ rfl) ?_
                              refine w_t (pc := 14) (e_s := (17, 3, 18, 0, 0, .null, [])) (y_s := (18, [some (.long _), none, some (.long _), none, some (.long _), none], [.int _], _)) rfl (u_ rfl) ?_
                              refine wrI (pc := 18) (len_s := 1) rfl hk ?_
                              show wF _ 162 (161, [some (.ref _), some (.int _), some (.int _)], [.int _], _) _
                              exact wrI (pc := 161) (len_s := 1) rfl hk t_s
/-- ColdShodModel.becomes(II)I, from 0 on -/
theorem sg_148_0 {F_s : Nat} {x1_s : Int32} {x2_s : Int32} {h_s : zH} {K_s : Int32 → zH → Prop} (hk : hKn h_s) (t_s : (zix x1_s < 104 → ((h_s.2.1 103 (zix x1_s)).toInt = x2_s.toInt → K_s (h_s.2.1 103 (zix x1_s)) h_s) ∧ (¬ (h_s.2.1 103 (zix x1_s)).toInt = x2_s.toInt → (((h_s.2.1 102 5).toInt = 40 → wF F_s 148 (26, [some (.ref 102), some (.int x1_s), some (.int x2_s), some (.int (h_s.2.1 103 (zix x1_s))), some (.int 1)], [], h_s) (gI K_s)) ∧ (¬ (h_s.2.1 102 5).toInt = 40 → (zix (h_s.2.1 102 5) < 40 → K_s (h_s.2.1 103 (zix x1_s)) (h_s.1, zup (zup (zup (zup (zup (zup h_s.2.1 104 (zix (h_s.2.1 102 5)) x1_s) 105 (zix (h_s.2.1 102 5)) (h_s.2.1 103 (zix x1_s))) 106 (zix (h_s.2.1 102 5)) x2_s) 102 5 ((h_s.2.1 102 5) + 1)) 102 4 ((h_s.2.1 102 5) + 1)) 103 (zix x1_s) x2_s, h_s.2.2.1, h_s.2.2.2))))))) : wF (F_s + 1) 148 (0, [some (.ref 102), some (.int x1_s), some (.int x2_s), none, none], [], h_s) (gI K_s) := by
  refine w_0 (pc := 0) (e_s := (3, 1, 0, 0, 0, .null, [])) (y_s := (1, [some (.ref _), some (.int _), some (.int _), none, none], [.ref _], _)) rfl (u_ rfl) ?_
  refine w20r (pc := 1) (len_s := 3) (q_s := 103) rfl (krq hk rfl) ?_
  refine w_t (pc := 4) (e_s := (1, 1, 1, 0, 0, .null, [])) (y_s := (5, [some (.ref _), some (.int _), some (.int _), none, none], [.int _, .ref _], _)) rfl (u_ rfl) ?_
  refine w22 (pc := 5) (len_s := 1) rfl (hk.1 103 0 104 rfl rfl) (fun c1_s => ?_)
  replace t_s := t_s c1_s
  refine w_t (pc := 6) (e_s := (4, 1, 3, 0, 0, .null, [])) (y_s := (7, [some (.ref _), some (.int _), some (.int _), some (.int _), none], [], _)) rfl (u_ rfl) ?_
  refine w_t (pc := 7) (e_s := (1, 1, 3, 0, 0, .null, [])) (y_s := (8, [some (.ref _), some (.int _), some (.int _), some (.int _), none], [.int _], _)) rfl (u_ rfl) ?_
  refine w_t (pc := 8) (e_s := (1, 1, 2, 0, 0, .null, [])) (y_s := (9, [some (.ref _), some (.int _), some (.int _), some (.int _), none], [.int _, .int _], _)) rfl (u_ rfl) ?_
  refine wi1 (pc := 9) (len_s := 3) rfl rfl rfl (fun c2_s => ?_) (fun c2_s => ?_)
  · replace t_s := t_s.1 c2_s
    refine w_t (pc := 12) (e_s := (1, 1, 3, 0, 0, .null, [])) (y_s := (13, [some (.ref _), some (.int _), some (.int _), some (.int _), none], [.int _], _)) rfl (u_ rfl) ?_
    exact wrI (pc := 13) (len_s := 1) rfl hk t_s
  · replace t_s := t_s.2 c2_s
    refine w_t (pc := 14) (e_s := (3, 1, 0, 0, 0, .null, [])) (y_s := (15, [some (.ref _), some (.int _), some (.int _), some (.int _), none], [.ref _], _)) rfl (u_ rfl) ?_
    refine w20 (pc := 15) (len_s := 3) rfl ?_
    refine w_t (pc := 18) (e_s := (0, 2, 0, 0, 0, .int 40, [])) (y_s := (20, [some (.ref _), some (.int _), some (.int _), some (.int _), none], [.int _, .int _], _)) rfl (u_ rfl) ?_
    refine wi1 (pc := 20) (len_s := 3) (Y := 40) rfl rfl (by decide) (fun c3_s => ?_) (fun c3_s => ?_)
    · replace t_s := t_s.1 c3_s
      refine w_t (pc := 23) (e_s := (0, 1, 0, 0, 0, .int 1, [])) (y_s := (24, [some (.ref _), some (.int _), some (.int _), some (.int _), none], [.int _], _)) rfl (u_ rfl) ?_
      refine w_t (pc := 24) (e_s := (4, 2, 4, 0, 0, .null, [])) (y_s := (26, [some (.ref _), some (.int _), some (.int _), some (.int _), some (.int _)], [], _)) rfl (u_ rfl) ?_
      exact t_s
    · replace t_s := t_s.2 c3_s
      refine w_t (pc := 97) (e_s := (3, 1, 0, 0, 0, .null, [])) (y_s := (98, [some (.ref _), some (.int _), some (.int _), some (.int _), none], [.ref _], _)) rfl (u_ rfl) ?_
      refine w20r (pc := 98) (len_s := 3) (q_s := 104) rfl (krq hk rfl) ?_
      refine w_t (pc := 101) (e_s := (3, 1, 0, 0, 0, .null, [])) (y_s := (102, [some (.ref _), some (.int _), some (.int _), some (.int _), none], [.ref _, .ref _], _)) rfl (u_ rfl) ?_
      refine w20 (pc := 102) (len_s := 3) rfl ?_
      refine w_t (pc := 105) (e_s := (1, 1, 1, 0, 0, .null, [])) (y_s := (106, [some (.ref _), some (.int _), some (.int _), some (.int _), none], [.int _, .int _, .ref _], _)) rfl (u_ rfl) ?_
      refine w25 (pc := 106) (len_s := 1) rfl (hk.1 104 0 40 rfl rfl) (fun c4_s => ?_)
      replace t_s := t_s c4_s
      refine w_t (pc := 107) (e_s := (3, 1, 0, 0, 0, .null, [])) (y_s := (108, [some (.ref _), some (.int _), some (.int _), some (.int _), none], [.ref _], _)) rfl (u_ rfl) ?_
      refine w20r (pc := 108) (len_s := 3) (q_s := 105) rfl (krq hk rfl) ?_
      refine w_t (pc := 111) (e_s := (3, 1, 0, 0, 0, .null, [])) (y_s := (112, [some (.ref _), some (.int _), some (.int _), some (.int _), none], [.ref _, .ref _], _)) rfl (u_ rfl) ?_
      refine w20 (pc := 112) (len_s := 3) rfl ?_
      refine w_t (pc := 115) (e_s := (1, 1, 3, 0, 0, .null, [])) (y_s := (116, [some (.ref _), some (.int _), some (.int _), some (.int _), none], [.int _, .int _, .ref _], _)) rfl (u_ rfl) ?_
      refine w25 (pc := 116) (len_s := 1) rfl (hk.1 105 0 40 rfl rfl) (fun c5_s => ?_)
      refine w_t (pc := 117) (e_s := (3, 1, 0, 0, 0, .null, [])) (y_s := (118, [some (.ref _), some (.int _), some (.int _), some (.int _), none], [.ref _], _)) rfl (u_ rfl) ?_
      refine w20r (pc := 118) (len_s := 3) (q_s := 106) rfl (krq hk rfl) ?_
      refine w_t (pc := 121) (e_s := (3, 1, 0, 0, 0, .null, [])) (y_s := (122, [some (.ref _), some (.int _), some (.int _), some (.int _), none], [.ref _, .ref _], _)) rfl (u_ rfl) ?_
      refine w20 (pc := 122) (len_s := 3) rfl ?_
      refine w_t (pc := 125) (e_s := (1, 1, 2, 0, 0, .null, [])) (y_s := (126, [some (.ref _), some (.int _), some (.int _), some (.int _), none], [.int _, .int _, .ref _], _)) rfl (u_ rfl) ?_
      refine w25 (pc := 126) (len_s := 1) rfl (hk.1 106 0 40 rfl rfl) (fun c6_s => ?_)
      refine w_t (pc := 127) (e_s := (3, 1, 0, 0, 0, .null, [])) (y_s := (128, [some (.ref _), some (.int _), some (.int _), some (.int _), none], [.ref _], _)) rfl (u_ rfl) ?_
      refine w_t (pc := 128) (e_s := (39, 1, 0, 0, 0, .null, [])) (y_s := (129, [some (.ref _), some (.int _), some (.int _), some (.int _), none], [.ref _, .ref _], _)) rfl (u_ rfl) ?_
      refine w20 (pc := 129) (len_s := 3) rfl ?_
      refine w_t (pc := 132) (e_s := (0, 1, 0, 0, 0, .int 1, [])) (y_s := (133, [some (.ref _), some (.int _), some (.int _), some (.int _), none], [.int _, .int _, .ref _], _)) rfl (u_ rfl) ?_
      refine w_t (pc := 133) (e_s := (7, 1, 0, 0, 0, .null, [])) (y_s := (134, [some (.ref _), some (.int _), some (.int _), some (.int _), none], [.int (_ + _), .ref _], _)) rfl (u_ rfl) ?_
      refine w21 (pc := 134) (len_s := 3) rfl ?_
      refine w_t (pc := 137) (e_s := (3, 1, 0, 0, 0, .null, [])) (y_s := (138, [some (.ref _), some (.int _), some (.int _), some (.int _), none], [.ref _], _)) rfl (u_ rfl) ?_
      refine w_t (pc := 138) (e_s := (3, 1, 0, 0, 0, .null, [])) (y_s := (139, [some (.ref _), some (.int _), some (.int _), some (.int _), none], [.ref _, .ref _], _)) rfl (u_ rfl) ?_
      refine w20 (pc := 139) (len_s := 3) rfl ?_
      refine w21 (pc := 142) (len_s := 3) rfl ?_
      refine w_t (pc := 145) (e_s := (3, 1, 0, 0, 0, .null, [])) (y_s := (146, [some (.ref _), some (.int _), some (.int _), some (.int _), none], [.ref _], _)) rfl (u_ rfl) ?_
      refine w20r (pc := 146) (len_s := 3) (q_s := 103) rfl (krq hk rfl) ?_
      refine w_t (pc := 149) (e_s := (1, 1, 1, 0, 0, .null, [])) (y_s := (150, [some (.ref _), some (.int _), some (.int _), some (.int _), none], [.int _, .ref _], _)) rfl (u_ rfl) ?_
      refine w_t (pc := 150) (e_s := (1, 1, 2, 0, 0, .null, [])) (y_s := (151, [some (.ref _), some (.int _), some (.int _), some (.int _), none], [.int _, .int _, .ref _], _)) rfl (u_ rfl) ?_
      refine w25 (pc := 151) (len_s := 1) rfl (hk.1 103 0 104 rfl rfl) (fun c7_s => ?_)
      refine w_t (pc := 152) (e_s := (1, 1, 3, 0, 0, .null, [])) (y_s := (153, [some (.ref _), some (.int _), some (.int _), some (.int _), none], [.int _], _)) rfl (u_ rfl) ?_
      exact wrI (pc := 153) (len_s := 1) rfl hk t_s
/-- ColdShodModel.becomes(II)I, from 26 on -/
theorem sg_148_26 {F_s : Nat} {x1_s x2_s x3 x4_s : Int32} {h_s : zH} {K_s : Int32 → zH → Prop} (hk : hKn h_s) (t_s : (x4_s.toInt < 40 → (zix x4_s < 40 → (zix (x4_s - 1) < 40 → wF F_s 148 (26, [some (.ref 102), some (.int x1_s), some (.int x2_s), some (.int x3), some (.int (x4_s + 1))], [], (h_s.1, zup (zup (zup h_s.2.1 104 (zix (x4_s - 1)) (h_s.2.1 104 (zix x4_s))) 105 (zix (x4_s - 1)) (h_s.2.1 105 (zix x4_s))) 106 (zix (x4_s - 1)) (h_s.2.1 106 (zix x4_s)), h_s.2.2.1, h_s.2.2.2)) (gI K_s)))) ∧ (¬ x4_s.toInt < 40 → (zix ((h_s.2.1 102 5) - 1) < 40 → (zix x1_s < 104 → K_s x3 (h_s.1, zup (zup (zup (zup (zup (zup (zup h_s.2.1 102 5 ((h_s.2.1 102 5) - 1)) 104 (zix ((h_s.2.1 102 5) - 1)) x1_s) 105 (zix ((h_s.2.1 102 5) - 1)) x3) 106 (zix ((h_s.2.1 102 5) - 1)) x2_s) 102 5 (((h_s.2.1 102 5) - 1) + 1)) 102 4 (((h_s.2.1 102 5) - 1) + 1)) 103 (zix x1_s) x2_s, h_s.2.2.1, h_s.2.2.2))))) : wF (F_s + 1) 148 (26, [some (.ref 102), some (.int x1_s), some (.int x2_s), some (.int x3), some (.int x4_s)], [], h_s) (gI K_s) := by
  refine w_0 (pc := 26) (e_s := (1, 2, 4, 0, 0, .null, [])) (y_s := (28, [some (.ref _), some (.int _), some (.int _), some (.int _), some (.int _)], [.int _], _)) rfl (u_ rfl) ?_
  refine w_t (pc := 28) (e_s := (0, 2, 0, 0, 0, .int 40, [])) (y_s := (30, [some (.ref _), some (.int _), some (.int _), some (.int _), some (.int _)], [.int _, .int _], _)) rfl (u_ rfl) ?_
  refine wi3 (pc := 30) (len_s := 3) (Y := 40) rfl rfl (by decide) (fun c1_s => ?_) (fun c1_s => ?_)
  · replace t_s := t_s.1 c1_s
    refine w_t (pc := 33) (e_s := (3, 1, 0, 0, 0, .null, [])) (y_s := (34, [some (.ref _), some (.int _), some (.int _), some (.int _), some (.int _)], [.ref _], _)) rfl (u_ rfl) ?_
    refine w20r (pc := 34) (len_s := 3) (q_s := 104) rfl (krq hk rfl) ?_
    refine w_t (pc := 37) (e_s := (1, 2, 4, 0, 0, .null, [])) (y_s := (39, [some (.ref _), some (.int _), some (.int _), some (.int _), some (.int _)], [.int _, .ref _], _)) rfl (u_ rfl) ?_
    refine w_t (pc := 39) (e_s := (0, 1, 0, 0, 0, .int 1, [])) (y_s := (40, [some (.ref _), some (.int _), some (.int _), some (.int _), some (.int _)], [.int _, .int _, .ref _], _)) rfl (u_ rfl) ?_
    refine w_t (pc := 40) (e_s := (7, 1, 0, 1, 0, .null, [])) (y_s := (41, [some (.ref _), some (.int _), some (.int _), some (.int _), some (.int _)], [.int (_ - _), .ref _], _)) rfl (u_ rfl) ?_
    refine w_t (pc := 41) (e_s := (3, 1, 0, 0, 0, .null, [])) (y_s := (42, [some (.ref _), some (.int _), some (.int _), some (.int _), some (.int _)], [.ref _, .int _, .ref _], _)) rfl (u_ rfl) ?_
    refine w20r (pc := 42) (len_s := 3) (q_s := 104) rfl (krq hk rfl) ?_
    refine w_t (pc := 45) (e_s := (1, 2, 4, 0, 0, .null, [])) (y_s := (47, [some (.ref _), some (.int _), some (.int _), some (.int _), some (.int _)], [.int _, .ref _, .int _, .ref _], _)) rfl (u_ rfl) ?_
    refine w22 (pc := 47) (len_s := 1) rfl (hk.1 104 0 40 rfl rfl) (fun c2_s => ?_)
    replace t_s := t_s c2_s
    refine w25 (pc := 48) (len_s := 1) rfl (hk.1 104 0 40 rfl rfl) (fun c3_s => ?_)
    replace t_s := t_s c3_s
    refine w_t (pc := 49) (e_s := (3, 1, 0, 0, 0, .null, [])) (y_s := (50, [some (.ref _), some (.int _), some (.int _), some (.int _), some (.int _)], [.ref _], _)) rfl (u_ rfl) ?_
    refine w20r (pc := 50) (len_s := 3) (q_s := 105) rfl (krq hk rfl) ?_
    refine w_t (pc := 53) (e_s := (1, 2, 4, 0, 0, .null, [])) (y_s := (55, [some (.ref _), some (.int _), some (.int _), some (.int _), some (.int _)], [.int _, .ref _], _)) rfl (u_ rfl) ?_
    refine w_t (pc := 55) (e_s := (0, 1, 0, 0, 0, .int 1, [])) (y_s := (56, [some (.ref _), some (.int _), some (.int _), some (.int _), some (.int _)], [.int _, .int _, .ref _], _)) rfl (u_ rfl) ?_
    refine w_t (pc := 56) (e_s := (7, 1, 0, 1, 0, .null, [])) (y_s := (57, [some (.ref _), some (.int _), some (.int _), some (.int _), some (.int _)], [.int (_ - _), .ref _], _)) rfl (u_ rfl) ?_
    refine w_t (pc := 57) (e_s := (3, 1, 0, 0, 0, .null, [])) (y_s := (58, [some (.ref _), some (.int _), some (.int _), some (.int _), some (.int _)], [.ref _, .int _, .ref _], _)) rfl (u_ rfl) ?_
    refine w20r (pc := 58) (len_s := 3) (q_s := 105) rfl (krq hk rfl) ?_
    refine w_t (pc := 61) (e_s := (1, 2, 4, 0, 0, .null, [])) (y_s := (63, [some (.ref _), some (.int _), some (.int _), some (.int _), some (.int _)], [.int _, .ref _, .int _, .ref _], _)) rfl (u_ rfl) ?_
    refine w22 (pc := 63) (len_s := 1) rfl (hk.1 105 0 40 rfl rfl) (fun c4_s => ?_)
    refine w25 (pc := 64) (len_s := 1) rfl (hk.1 105 0 40 rfl rfl) (fun c5_s => ?_)
    refine w_t (pc := 65) (e_s := (3, 1, 0, 0, 0, .null, [])) (y_s := (66, [some (.ref _), some (.int _), some (.int _), some (.int _), some (.int _)], [.ref _], _)) rfl (u_ rfl) ?_
    refine w20r (pc := 66) (len_s := 3) (q_s := 106) rfl (krq hk rfl) ?_
    refine w_t (pc := 69) (e_s := (1, 2, 4, 0, 0, .null, [])) (y_s := (71, [some (.ref _), some (.int _), some (.int _), some (.int _), some (.int _)], [.int _, .ref _], _)) rfl (u_ rfl) ?_
    refine w_t (pc := 71) (e_s := (0, 1, 0, 0, 0, .int 1, [])) (y_s := (72, [some (.ref _), some (.int _), some (.int _), some (.int _), some (.int _)], [.int _, .int _, .ref _], _)) rfl (u_ rfl) ?_
    refine w_t (pc := 72) (e_s := (7, 1, 0, 1, 0, .null, [])) (y_s := (73, [some (.ref _), some (.int _), some (.int _), some (.int _), some (.int _)], [.int (_ - _), .ref _], _)) rfl (u_ rfl) ?_
    refine w_t (pc := 73) (e_s := (3, 1, 0, 0, 0, .null, [])) (y_s := (74, [some (.ref _), some (.int _), some (.int _), some (.int _), some (.int _)], [.ref _, .int _, .ref _], _)) rfl (u_ rfl) ?_
    refine w20r (pc := 74) (len_s := 3) (q_s := 106) rfl (krq hk rfl) ?_
    refine w_t (pc := 77) (e_s := (1, 2, 4, 0, 0, .null, [])) (y_s := (79, [some (.ref _), some (.int _), some (.int _), some (.int _), some (.int _)], [.int _, .ref _, .int _, .ref _], _)) rfl (u_ rfl) ?_
    refine w22 (pc := 79) (len_s := 1) rfl (hk.1 106 0 40 rfl rfl) (fun c6_s => ?_)
    refine w25 (pc := 80) (len_s := 1) rfl (hk.1 106 0 40 rfl rfl) (fun c7_s => ?_)
    refine w_t (pc := 81) (e_s := (19, 3, 4, 0, 0, .int 1, [])) (y_s := (84, [some (.ref _), some (.int _), some (.int _), some (.int _), some (.int _)], [], _)) rfl (u_ rfl) ?_
    refine w_t (pc := 84) (e_s := (17, 3, 26, 0, 0, .null, [])) (y_s := (26, [some (.ref _), some (.int _), some (.int _), some (.int _), some (.int _)], [], _)) rfl (u_ rfl) ?_
    exact t_s
  · replace t_s := t_s.2 c1_s
    refine w_t (pc := 87) (e_s := (3, 1, 0, 0, 0, .null, [])) (y_s := (88, [some (.ref _), some (.int _), some (.int _), some (.int _), some (.int _)], [.ref _], _)) rfl (u_ rfl) ?_
    refine w_t (pc := 88) (e_s := (39, 1, 0, 0, 0, .null, [])) (y_s := (89, [some (.ref _), some (.int _), some (.int _), some (.int _), some (.int _)], [.ref _, .ref _], _)) rfl (u_ rfl) ?_
    refine w20 (pc := 89) (len_s := 3) rfl ?_
    refine w_t (pc := 92) (e_s := (0, 1, 0, 0, 0, .int 1, [])) (y_s := (93, [some (.ref _), some (.int _), some (.int _), some (.int _), some (.int _)], [.int _, .int _, .ref _], _)) rfl (u_ rfl) ?_
    refine w_t (pc := 93) (e_s := (7, 1, 0, 1, 0, .null, [])) (y_s := (94, [some (.ref _), some (.int _), some (.int _), some (.int _), some (.int _)], [.int (_ - _), .ref _], _)) rfl (u_ rfl) ?_
    refine w21 (pc := 94) (len_s := 3) rfl ?_
    refine w_t (pc := 97) (e_s := (3, 1, 0, 0, 0, .null, [])) (y_s := (98, [some (.ref _), some (.int _), some (.int _), some (.int _), some (.int _)], [.ref _], _)) rfl (u_ rfl) ?_
    refine w20r (pc := 98) (len_s := 3) (q_s := 104) rfl (krq hk rfl) ?_
    refine w_t (pc := 101) (e_s := (3, 1, 0, 0, 0, .null, [])) (y_s := (102, [some (.ref _), some (.int _), some (.int _), some (.int _), some (.int _)], [.ref _, .ref _], _)) rfl (u_ rfl) ?_
    refine w20 (pc := 102) (len_s := 3) rfl ?_
    refine w_t (pc := 105) (e_s := (1, 1, 1, 0, 0, .null, [])) (y_s := (106, [some (.ref _), some (.int _), some (.int _), some (.int _), some (.int _)], [.int _, .int _, .ref _], _)) rfl (u_ rfl) ?_
    refine w25 (pc := 106) (len_s := 1) rfl (hk.1 104 0 40 rfl rfl) (fun c8_s => ?_)
    replace t_s := t_s c8_s
    refine w_t (pc := 107) (e_s := (3, 1, 0, 0, 0, .null, [])) (y_s := (108, [some (.ref _), some (.int _), some (.int _), some (.int _), some (.int _)], [.ref _], _)) rfl (u_ rfl) ?_
    refine w20r (pc := 108) (len_s := 3) (q_s := 105) rfl (krq hk rfl) ?_
    refine w_t (pc := 111) (e_s := (3, 1, 0, 0, 0, .null, [])) (y_s := (112, [some (.ref _), some (.int _), some (.int _), some (.int _), some (.int _)], [.ref _, .ref _], _)) rfl (u_ rfl) ?_
    refine w20 (pc := 112) (len_s := 3) rfl ?_
    refine w_t (pc := 115) (e_s := (1, 1, 3, 0, 0, .null, [])) (y_s := (116, [some (.ref _), some (.int _), some (.int _), some (.int _), some (.int _)], [.int _, .int _, .ref _], _)) rfl (u_ rfl) ?_
    refine w25 (pc := 116) (len_s := 1) rfl (hk.1 105 0 40 rfl rfl) (fun c9_s => ?_)
    refine w_t (pc := 117) (e_s := (3, 1, 0, 0, 0, .null, [])) (y_s := (118, [some (.ref _), some (.int _), some (.int _), some (.int _), some (.int _)], [.ref _], _)) rfl (u_ rfl) ?_
    refine w20r (pc := 118) (len_s := 3) (q_s := 106) rfl (krq hk rfl) ?_
    refine w_t (pc := 121) (e_s := (3, 1, 0, 0, 0, .null, [])) (y_s := (122, [some (.ref _), some (.int _), some (.int _), some (.int _), some (.int _)], [.ref _, .ref _], _)) rfl (u_ rfl) ?_
    refine w20 (pc := 122) (len_s := 3) rfl ?_
    refine w_t (pc := 125) (e_s := (1, 1, 2, 0, 0, .null, [])) (y_s := (126, [some (.ref _), some (.int _), some (.int _), some (.int _), some (.int _)], [.int _, .int _, .ref _], _)) rfl (u_ rfl) ?_
    refine w25 (pc := 126) (len_s := 1) rfl (hk.1 106 0 40 rfl rfl) (fun c10_s => ?_)
    refine w_t (pc := 127) (e_s := (3, 1, 0, 0, 0, .null, [])) (y_s := (128, [some (.ref _), some (.int _), some (.int _), some (.int _), some (.int _)], [.ref _], _)) rfl (u_ rfl) ?_
    refine w_t (pc := 128) (e_s := (39, 1, 0, 0, 0, .null, [])) (y_s := (129, [some (.ref _), some (.int _), some (.int _), some (.int _), some (.int _)], [.ref _, .ref _], _)) rfl (u_ rfl) ?_
    refine w20 (pc := 129) (len_s := 3) rfl ?_
    refine w_t (pc := 132) (e_s := (0, 1, 0, 0, 0, .int 1, [])) (y_s := (133, [some (.ref _), some (.int _), some (.int _), some (.int _), some (.int _)], [.int _, .int _, .ref _], _)) rfl (u_ rfl) ?_
    refine w_t (pc := 133) (e_s := (7, 1, 0, 0, 0, .null, [])) (y_s := (134, [some (.ref _), some (.int _), some (.int _), some (.int _), some (.int _)], [.int (_ + _), .ref _], _)) rfl (u_ rfl) ?_
    refine w21 (pc := 134) (len_s := 3) rfl ?_
    refine w_t (pc := 137) (e_s := (3, 1, 0, 0, 0, .null, [])) (y_s := (138, [some (.ref _), some (.int _), some (.int _), some (.int _), some (.int _)], [.ref _], _)) rfl (u_ rfl) ?_
    refine w_t (pc := 138) (e_s := (3, 1, 0, 0, 0, .null, [])) (y_s := (139, [some (.ref _), some (.int _), some (.int _), some (.int _), some (.int _)], [.ref _, .ref _], _)) rfl (u_ rfl) ?_
    refine w20 (pc := 139) (len_s := 3) rfl ?_
    refine w21 (pc := 142) (len_s := 3) rfl ?_
    refine w_t (pc := 145) (e_s := (3, 1, 0, 0, 0, .null, [])) (y_s := (146, [some (.ref _), some (.int _), some (.int _), some (.int _), some (.int _)], [.ref _], _)) rfl (u_ rfl) ?_
    refine w20r (pc := 146) (len_s := 3) (q_s := 103) rfl (krq hk rfl) ?_
    refine w_t (pc := 149) (e_s := (1, 1, 1, 0, 0, .null, [])) (y_s := (150, [some (.ref _), some (.int _), some (.int _), some (.int _), some (.int _)], [.int _, .ref _], _)) rfl (u_ rfl) ?_
    refine w_t (pc := 150) (e_s := (1, 1, 2, 0, 0, .null, [])) (y_s := (151, [some (.ref _), some (.int _), some (.int _), some (.int _), some (.int _)], [.int _, .int _, .ref _], _)) rfl (u_ rfl) ?_
    refine w25 (pc := 151) (len_s := 1) rfl (hk.1 103 0 104 rfl rfl) (fun c11_s => ?_)
    replace t_s := t_s c11_s
    refine w_t (pc := 152) (e_s := (1, 1, 3, 0, 0, .null, [])) (y_s := (153, [some (.ref _), some (.int _), some (.int _), some (.int _), some (.int _)], [.int _], _)) rfl (u_ rfl) ?_
    exact wrI (pc := 153) (len_s := 1) rfl hk t_s
/-- ColdShodModel.mend(III)I, from 0 on -/
theorem sg_163_0 {F_s : Nat} {x1_s : Int32} {x2_s : Int32} {x3 : Int32} {h_s : zH} {K_s : Int32 → zH → Prop} (hk : hKn h_s) (t_s : wF F_s 161 (0, [some (.ref 102), some (.int x1_s), some (.int x2_s)], [], h_s) (gI (fun v1_s h1 => hKn h1 → (v1_s.toInt < 0 → K_s (-2000000000) h1) ∧ (¬ v1_s.toInt < 0 → wF F_s 162 (0, [some (.ref 102), some (.int x2_s), some (.int x3)], [], h1) (gI (fun v3 h3 => hKn h3 → (v3.toInt = 0 → K_s (-2000000000) h3) ∧ (¬ v3.toInt = 0 → wF F_s 148 (0, [some (.ref 102), some (.int v1_s), some (.int x3), none, none], [], h3) (gI (fun v5 h5 => hKn h5 → K_s v5 h5))))))))) : wF (F_s + 1) 163 (0, [some (.ref 102), some (.int x1_s), some (.int x2_s), some (.int x3), none], [], h_s) (gI K_s) := by
  refine w_0 (pc := 0) (e_s := (3, 1, 0, 0, 0, .null, [])) (y_s := (1, [some (.ref _), some (.int _), some (.int _), some (.int _), none], [.ref _], _)) rfl (u_ rfl) ?_
  refine w_t (pc := 1) (e_s := (1, 1, 1, 0, 0, .null, [])) (y_s := (2, [some (.ref _), some (.int _), some (.int _), some (.int _), none], [.int _, .ref _], _)) rfl (u_ rfl) ?_
  refine w_t (pc := 2) (e_s := (1, 1, 2, 0, 0, .null, [])) (y_s := (3, [some (.ref _), some (.int _), some (.int _), some (.int _), none], [.int _, .int _, .ref _], _)) rfl (u_ rfl) ?_
  refine wcI (pc := 3) (len_s := 3) rfl rfl (l := [some (.ref _), some (.int _), some (.int _)]) rfl (wmI t_s (fun v1_s h1 hk t_s => ?_))
  replace t_s := t_s hk
  refine w_t (pc := 6) (e_s := (4, 2, 4, 0, 0, .null, [])) (y_s := (8, [some (.ref _), some (.int _), some (.int _), some (.int _), some (.int _)], [], _)) rfl (u_ rfl) ?_
  refine w_t (pc := 8) (e_s := (1, 2, 4, 0, 0, .null, [])) (y_s := (10, [some (.ref _), some (.int _), some (.int _), some (.int _), some (.int _)], [.int _], _)) rfl (u_ rfl) ?_
  refine wq2 (pc := 10) (len_s := 3) rfl rfl (fun c2_s => ?_) (fun c2_s => ?_)
  · replace t_s := t_s.1 c2_s
    refine w_t (pc := 32) (e_s := (0, 2, 0, 0, 0, .int (-2000000000), [(0, 1081)])) (y_s := (34, [some (.ref _), some (.int _), some (.int _), some (.int _), some (.int _)], [.int _], _)) rfl (u_ rfl) ?_
    exact wrI (pc := 34) (len_s := 1) rfl hk t_s
  · replace t_s := t_s.2 c2_s
    refine w_t (pc := 13) (e_s := (3, 1, 0, 0, 0, .null, [])) (y_s := (14, [some (.ref _), some (.int _), some (.int _), some (.int _), some (.int _)], [.ref _], _)) rfl (u_ rfl) ?_
    refine w_t (pc := 14) (e_s := (1, 1, 2, 0, 0, .null, [])) (y_s := (15, [some (.ref _), some (.int _), some (.int _), some (.int _), some (.int _)], [.int _, .ref _], _)) rfl (u_ rfl) ?_
    refine w_t (pc := 15) (e_s := (1, 1, 3, 0, 0, .null, [])) (y_s := (16, [some (.ref _), some (.int _), some (.int _), some (.int _), some (.int _)], [.int _, .int _, .ref _], _)) rfl (u_ rfl) ?_
    refine wcI (pc := 16) (len_s := 3) rfl rfl (l := [some (.ref _), some (.int _), some (.int _)]) rfl (wmI t_s (fun v3 h3 hk t_s => ?_))
    replace t_s := t_s hk
    refine wq0 (pc := 19) (len_s := 3) rfl rfl (fun c4_s => ?_) (fun c4_s => ?_)
    · replace t_s := t_s.1 c4_s
      refine w_t (pc := 32) (e_s := (0, 2, 0, 0, 0, .int (-2000000000), [(0, 1081)])) (y_s := (34, [some (.ref _), some (.int _), some (.int _), some (.int _), some (.int _)], [.int _], _)) rfl (u_ rfl) ?_
      exact wrI (pc := 34) (len_s := 1) rfl hk t_s
    · replace t_s := t_s.2 c4_s
      refine w_t (pc := 22) (e_s := (3, 1, 0, 0, 0, .null, [])) (y_s := (23, [some (.ref _), some (.int _), some (.int _), some (.int _), some (.int _)], [.ref _], _)) rfl (u_ rfl) ?_
      refine w_t (pc := 23) (e_s := (1, 2, 4, 0, 0, .null, [])) (y_s := (25, [some (.ref _), some (.int _), some (.int _), some (.int _), some (.int _)], [.int _, .ref _], _)) rfl (u_ rfl) ?_
      refine w_t (pc := 25) (e_s := (1, 1, 3, 0, 0, .null, [])) (y_s := (26, [some (.ref _), some (.int _), some (.int _), some (.int _), some (.int _)], [.int _, .int _, .ref _], _)) rfl (u_ rfl) ?_
      refine wcI (pc := 26) (len_s := 3) rfl rfl (l := [some (.ref _), some (.int _), some (.int _), none, none]) rfl (wmI t_s (fun v5 h5 hk t_s => ?_))
      replace t_s := t_s hk
      refine w_t (pc := 29) (e_s := (17, 3, 34, 0, 0, .null, [])) (y_s := (34, [some (.ref _), some (.int _), some (.int _), some (.int _), some (.int _)], [.int _], _)) rfl (u_ rfl) ?_
      exact wrI (pc := 34) (len_s := 1) rfl hk t_s
/-- ColdShodModel.of(II)I, from 0 on -/
theorem sg_164_0 {F_s : Nat} {x1_s : Int32} {x2_s : Int32} {h_s : zH} {K_s : Int32 → zH → Prop} (hk : hKn h_s) (t_s : wF F_s 161 (0, [some (.ref 102), some (.int x1_s), some (.int x2_s)], [], h_s) (gI (fun v1_s h1 => hKn h1 → (v1_s.toInt < 0 → ((x2_s.toInt = 14 → ((x1_s.toInt < 0 → K_s (-2000000000) h1) ∧ (¬ x1_s.toInt < 0 → ((((h1.2.1 102 7) - 1).toInt < x1_s.toInt → ((((h1.2.1 102 8) - 1).toInt < x1_s.toInt → K_s (-2000000000) h1) ∧ (¬ ((h1.2.1 102 8) - 1).toInt < x1_s.toInt → ((x2_s.toInt = 12 → (zix x1_s < 12 → K_s (h1.2.1 107 (zix x1_s)) h1)) ∧ (¬ x2_s.toInt = 12 → ((x2_s.toInt = 13 → (zix x1_s < 12 → K_s (h1.2.1 108 (zix x1_s)) h1)) ∧ (¬ x2_s.toInt = 13 → K_s (-2000000000) h1))))))) ∧ (¬ ((h1.2.1 102 7) - 1).toInt < x1_s.toInt → (zix (28 + x1_s) < 104 → K_s (9 - ((h1.2.1 103 (zix (28 + x1_s))) / 11)) h1)))))) ∧ (¬ x2_s.toInt = 14 → ((x1_s.toInt < 0 → K_s (-2000000000) h1) ∧ (¬ x1_s.toInt < 0 → ((((h1.2.1 102 8) - 1).toInt < x1_s.toInt → K_s (-2000000000) h1) ∧ (¬ ((h1.2.1 102 8) - 1).toInt < x1_s.toInt → ((x2_s.toInt = 12 → (zix x1_s < 12 → K_s (h1.2.1 107 (zix x1_s)) h1)) ∧ (¬ x2_s.toInt = 12 → ((x2_s.toInt = 13 → (zix x1_s < 12 → K_s (h1.2.1 108 (zix x1_s)) h1)) ∧ (¬ x2_s.toInt = 13 → K_s (-2000000000) h1))))))))))) ∧ (¬ v1_s.toInt < 0 → (zix v1_s < 104 → K_s (h1.2.1 103 (zix v1_s)) h1))))) : wF (F_s + 1) 164 (0, [some (.ref 102), some (.int x1_s), some (.int x2_s), none], [], h_s) (gI K_s) := by
  refine w_0 (pc := 0) (e_s := (3, 1, 0, 0, 0, .null, [])) (y_s := (1, [some (.ref _), some (.int _), some (.int _), none], [.ref _], _)) rfl (u_ rfl) ?_
  refine w_t (pc := 1) (e_s := (1, 1, 1, 0, 0, .null, [])) (y_s := (2, [some (.ref _), some (.int _), some (.int _), none], [.int _, .ref _], _)) rfl (u_ rfl) ?_
  refine w_t (pc := 2) (e_s := (1, 1, 2, 0, 0, .null, [])) (y_s := (3, [some (.ref _), some (.int _), some (.int _), none], [.int _, .int _, .ref _], _)) rfl (u_ rfl) ?_
  refine wcI (pc := 3) (len_s := 3) rfl rfl (l := [some (.ref _), some (.int _), some (.int _)]) rfl (wmI t_s (fun v1_s h1 hk t_s => ?_))
  replace t_s := t_s hk
  refine w_t (pc := 6) (e_s := (4, 1, 3, 0, 0, .null, [])) (y_s := (7, [some (.ref _), some (.int _), some (.int _), some (.int _)], [], _)) rfl (u_ rfl) ?_
  refine w_t (pc := 7) (e_s := (1, 1, 3, 0, 0, .null, [])) (y_s := (8, [some (.ref _), some (.int _), some (.int _), some (.int _)], [.int _], _)) rfl (u_ rfl) ?_
  refine wq2 (pc := 8) (len_s := 3) rfl rfl (fun c2_s => ?_) (fun c2_s => ?_)
  · replace t_s := t_s.1 c2_s
    refine w_t (pc := 18) (e_s := (1, 1, 2, 0, 0, .null, [])) (y_s := (19, [some (.ref _), some (.int _), some (.int _), some (.int _)], [.int _], _)) rfl (u_ rfl) ?_
    refine w_t (pc := 19) (e_s := (0, 2, 0, 0, 0, .int 14, [])) (y_s := (21, [some (.ref _), some (.int _), some (.int _), some (.int _)], [.int _, .int _], _)) rfl (u_ rfl) ?_
    refine wi1 (pc := 21) (len_s := 3) (Y := 14) rfl rfl (by decide) (fun c3_s => ?_) (fun c3_s => ?_)
    · replace t_s := t_s.1 c3_s
      refine w_t (pc := 24) (e_s := (3, 1, 0, 0, 0, .null, [])) (y_s := (25, [some (.ref _), some (.int _), some (.int _), some (.int _)], [.ref _], _)) rfl (u_ rfl) ?_
      refine w_t (pc := 25) (e_s := (1, 1, 1, 0, 0, .null, [])) (y_s := (26, [some (.ref _), some (.int _), some (.int _), some (.int _)], [.int _, .ref _], _)) rfl (u_ rfl) ?_
      refine w_t (pc := 26) (e_s := (10, 1, 0, 0, 0, .null, [])) (y_s := (27, [some (.ref _), some (.int _), some (.int _), some (.int _)], [.long (Int32.toInt64 _), .ref _], _)) rfl (u_ rfl) ?_
      refine wcI (pc := 27) (len_s := 3) rfl rfl (l := [some (.ref _), some (.long _), none]) rfl ?_
      refine w_t (pc := 0) (e_s := (2, 1, 1, 0, 0, .null, [])) (y_s := (1, [some (.ref _), some (.long _), none], [.long _], _)) rfl (u_ rfl) ?_
      refine w_t (pc := 1) (e_s := (0, 1, 0, 0, 0, .long 0, [])) (y_s := (2, [some (.ref _), some (.long _), none], [.long _, .long _], _)) rfl (u_ rfl) ?_
      refine w_t (pc := 2) (e_s := (3, 1, 0, 0, 0, .null, [])) (y_s := (3, [some (.ref _), some (.long _), none], [.ref _, .long _, .long _], _)) rfl (u_ rfl) ?_
      refine w20 (pc := 3) (len_s := 3) rfl ?_
      refine w_t (pc := 6) (e_s := (0, 1, 0, 0, 0, .int 1, [])) (y_s := (7, [some (.ref _), some (.long _), none], [.int _, .int _, .long _, .long _], _)) rfl (u_ rfl) ?_
      refine w_t (pc := 7) (e_s := (7, 1, 0, 1, 0, .null, [])) (y_s := (8, [some (.ref _), some (.long _), none], [.int (_ - _), .long _, .long _], _)) rfl (u_ rfl) ?_
      refine w_t (pc := 8) (e_s := (10, 1, 0, 0, 0, .null, [])) (y_s := (9, [some (.ref _), some (.long _), none], [.long (Int32.toInt64 _), .long _, .long _], _)) rfl (u_ rfl) ?_
      refine wcI (pc := 9) (len_s := 3) rfl rfl (l := [some (.long _), none, some (.long _), none, some (.long _), none]) rfl ?_
      refine w_t (pc := 0) (e_s := (2, 1, 0, 0, 0, .null, [])) (y_s := (1, [some (.long _), none, some (.long _), none, some (.long _), none], [.long _], _)) rfl (u_ rfl) ?_
      refine w_t (pc := 1) (e_s := (2, 1, 2, 0, 0, .null, [])) (y_s := (2, [some (.long _), none, some (.long _), none, some (.long _), none], [.long _, .long _], _)) rfl (u_ rfl) ?_
      refine w_t (pc := 2) (e_s := (14, 1, 0, 0, 0, .null, [])) (y_s := (3, [some (.long _), none, some (.long _), none, some (.long _), none], [.int (lg_cmp _ _)], _)) rfl (u_ rfl) ?_
      refine wl2 (pc := 3) (len_s := 3) (Y := 0) rfl (Int32.toInt_toInt64 _) (by decide) (fun c4_s => ?_) (fun c4_s => ?_)
      · replace t_s := t_s.1 c4_s
        refine w_t (pc := 17) (e_s := (0, 1, 0, 0, 0, .int 0, [])) (y_s := (18, [some (.long _), none, some (.long _), none, some (.long _), none], [.int _], _)) rfl (u_ rfl) ?_
        refine wrI (pc := 18) (len_s := 1) rfl hk ?_
        show wF _ 152 (12, [some (.ref _), some (.long _), none], [.int _], _) _
        refine wrI (pc := 12) (len_s := 1) rfl hk ?_
        show wF _ 164 (30, [some (.ref _), some (.int _), some (.int _), some (.int _)], [.int _], _) _
        refine w_t (pc := 30) (e_s := (15, 3, 46, 0, 0, .null, [])) (y_s := (46, [some (.ref _), some (.int _), some (.int _), some (.int _)], [], _)) rfl (u_ rfl) ?_
        refine w_t (pc := 46) (e_s := (3, 1, 0, 0, 0, .null, [])) (y_s := (47, [some (.ref _), some (.int _), some (.int _), some (.int _)], [.ref _], _)) rfl (u_ rfl) ?_
        refine w_t (pc := 47) (e_s := (1, 1, 1, 0, 0, .null, [])) (y_s := (48, [some (.ref _), some (.int _), some (.int _), some (.int _)], [.int _, .ref _], _)) rfl (u_ rfl) ?_
        refine w_t (pc := 48) (e_s := (10, 1, 0, 0, 0, .null, [])) (y_s := (49, [some (.ref _), some (.int _), some (.int _), some (.int _)], [.long (Int32.toInt64 _), .ref _], _)) rfl (u_ rfl) ?_
        refine wcI (pc := 49) (len_s := 3) rfl rfl (l := [some (.ref _), some (.long _), none]) rfl ?_
        refine w_t (pc := 0) (e_s := (2, 1, 1, 0, 0, .null, [])) (y_s := (1, [some (.ref _), some (.long _), none], [.long _], _)) rfl (u_ rfl) ?_
        refine w_t (pc := 1) (e_s := (0, 1, 0, 0, 0, .long 0, [])) (y_s := (2, [some (.ref _), some (.long _), none], [.long _, .long _], _)) rfl (u_ rfl) ?_
        refine w_t (pc := 2) (e_s := (3, 1, 0, 0, 0, .null, [])) (y_s := (3, [some (.ref _), some (.long _), none], [.ref _, .long _, .long _], _)) rfl (u_ rfl) ?_
        refine w20 (pc := 3) (len_s := 3) rfl ?_
        refine w_t (pc := 6) (e_s := (0, 1, 0, 0, 0, .int 1, [])) (y_s := (7, [some (.ref _), some (.long _), none], [.int _, .int _, .long _, .long _], _)) rfl (u_ rfl) ?_
        refine w_t (pc := 7) (e_s := (7, 1, 0, 1, 0, .null, [])) (y_s := (8, [some (.ref _), some (.long _), none], [.int (_ - _), .long _, .long _], _)) rfl (u_ rfl) ?_
        refine w_t (pc := 8) (e_s := (10, 1, 0, 0, 0, .null, [])) (y_s := (9, [some (.ref _), some (.long _), none], [.long (Int32.toInt64 _), .long _, .long _], _)) rfl (u_ rfl) ?_
        refine wcI (pc := 9) (len_s := 3) rfl rfl (l := [some (.long _), none, some (.long _), none, some (.long _), none]) rfl ?_
        refine w_t (pc := 0) (e_s := (2, 1, 0, 0, 0, .null, [])) (y_s := (1, [some (.long _), none, some (.long _), none, some (.long _), none], [.long _], _)) rfl (u_ rfl) ?_
        refine w_t (pc := 1) (e_s := (2, 1, 2, 0, 0, .null, [])) (y_s := (2, [some (.long _), none, some (.long _), none, some (.long _), none], [.long _, .long _], _)) rfl (u_ rfl) ?_
        refine w_t (pc := 2) (e_s := (14, 1, 0, 0, 0, .null, [])) (y_s := (3, [some (.long _), none, some (.long _), none, some (.long _), none], [.int (lg_cmp _ _)], _)) rfl (u_ rfl) ?_
        refine wl2 (pc := 3) (len_s := 3) (Y := 0) rfl (Int32.toInt_toInt64 _) (by decide) (fun c5_s => ?_) (fun c5_s => ?_)
        · skip
          refine w_t (pc := 17) (e_s := (0, 1, 0, 0, 0, .int 0, [])) (y_s := (18, [some (.long _), none, some (.long _), none, some (.long _), none], [.int _], _)) rfl (u_ rfl) ?_
          refine wrI (pc := 18) (len_s := 1) rfl hk ?_
          show wF _ 153 (12, [some (.ref _), some (.long _), none], [.int _], _) _
          refine wrI (pc := 12) (len_s := 1) rfl hk ?_
          show wF _ 164 (52, [some (.ref _), some (.int _), some (.int _), some (.int _)], [.int _], _) _
          refine w_t (pc := 52) (e_s := (15, 3, 60, 1, 0, .null, [])) (y_s := (55, [some (.ref _), some (.int _), some (.int _), some (.int _)], [], _)) rfl (u_ rfl) ?_
          refine w_t (pc := 55) (e_s := (0, 2, 0, 0, 0, .int (-2000000000), [(0, 1081)])) (y_s := (57, [some (.ref _), some (.int _), some (.int _), some (.int _)], [.int _], _)) rfl (u_ rfl) ?_
          refine w_t (pc := 57) (e_s := (17, 3, 92, 0, 0, .null, [])) (y_s := (92, [some (.ref _), some (.int _), some (.int _), some (.int _)], [.int _], _)) rfl (u_ rfl) ?_
          exact wrI (pc := 92) (len_s := 1) rfl hk t_s
        · exact absurd c4_s c5_s
      · replace t_s := t_s.2 c4_s
        refine w_t (pc := 6) (e_s := (2, 1, 0, 0, 0, .null, [])) (y_s := (7, [some (.long _), none, some (.long _), none, some (.long _), none], [.long _], _)) rfl (u_ rfl) ?_
        refine w_t (pc := 7) (e_s := (2, 2, 4, 0, 0, .null, [])) (y_s := (9, [some (.long _), none, some (.long _), none, some (.long _), none], [.long _, .long _], _)) rfl (u_ rfl) ?_
        refine w_t (pc := 9) (e_s := (14, 1, 0, 0, 0, .null, [])) (y_s := (10, [some (.long _), none, some (.long _), none, some (.long _), none], [.int (lg_cmp _ _)], _)) rfl (u_ rfl) ?_
        refine wl4 (pc := 10) (len_s := 3) rfl (Int32.toInt_toInt64 _) (Int32.toInt_toInt64 _) (fun c6_s => ?_) (fun c6_s => ?_)
        · replace t_s := t_s.1 c6_s
          refine w_t (pc := 17) (e_s := (0, 1, 0, 0, 0, .int 0, [])) (y_s := (18, [some (.long _), none, some (.long _), none, some (.long _), none], [.int _], _)) rfl (u_ rfl) ?_
          refine wrI (pc := 18) (len_s := 1) rfl hk ?_
          show wF _ 152 (12, [some (.ref _), some (.long _), none], [.int _], _) _
          refine wrI (pc := 12) (len_s := 1) rfl hk ?_
          show wF _ 164 (30, [some (.ref _), some (.int _), some (.int _), some (.int _)], [.int _], _) _
          refine w_t (pc := 30) (e_s := (15, 3, 46, 0, 0, .null, [])) (y_s := (46, [some (.ref _), some (.int _), some (.int _), some (.int _)], [], _)) rfl (u_ rfl) ?_
          refine w_t (pc := 46) (e_s := (3, 1, 0, 0, 0, .null, [])) (y_s := (47, [some (.ref _), some (.int _), some (.int _), some (.int _)], [.ref _], _)) rfl (u_ rfl) ?_
          refine w_t (pc := 47) (e_s := (1, 1, 1, 0, 0, .null, [])) (y_s := (48, [some (.ref _), some (.int _), some (.int _), some (.int _)], [.int _, .ref _], _)) rfl (u_ rfl) ?_
          refine w_t (pc := 48) (e_s := (10, 1, 0, 0, 0, .null, [])) (y_s := (49, [some (.ref _), some (.int _), some (.int _), some (.int _)], [.long (Int32.toInt64 _), .ref _], _)) rfl (u_ rfl) ?_
          refine wcI (pc := 49) (len_s := 3) rfl rfl (l := [some (.ref _), some (.long _), none]) rfl ?_
          refine w_t (pc := 0) (e_s := (2, 1, 1, 0, 0, .null, [])) (y_s := (1, [some (.ref _), some (.long _), none], [.long _], _)) rfl (u_ rfl) ?_
          refine w_t (pc := 1) (e_s := (0, 1, 0, 0, 0, .long 0, [])) (y_s := (2, [some (.ref _), some (.long _), none], [.long _, .long _], _)) rfl (u_ rfl) ?_
          refine w_t (pc := 2) (e_s := (3, 1, 0, 0, 0, .null, [])) (y_s := (3, [some (.ref _), some (.long _), none], [.ref _, .long _, .long _], _)) rfl (u_ rfl) ?_
          refine w20 (pc := 3) (len_s := 3) rfl ?_
          refine w_t (pc := 6) (e_s := (0, 1, 0, 0, 0, .int 1, [])) (y_s := (7, [some (.ref _), some (.long _), none], [.int _, .int _, .long _, .long _], _)) rfl (u_ rfl) ?_
          refine w_t (pc := 7) (e_s := (7, 1, 0, 1, 0, .null, [])) (y_s := (8, [some (.ref _), some (.long _), none], [.int (_ - _), .long _, .long _], _)) rfl (u_ rfl) ?_
          refine w_t (pc := 8) (e_s := (10, 1, 0, 0, 0, .null, [])) (y_s := (9, [some (.ref _), some (.long _), none], [.long (Int32.toInt64 _), .long _, .long _], _)) rfl (u_ rfl) ?_
          refine wcI (pc := 9) (len_s := 3) rfl rfl (l := [some (.long _), none, some (.long _), none, some (.long _), none]) rfl ?_
          refine w_t (pc := 0) (e_s := (2, 1, 0, 0, 0, .null, [])) (y_s := (1, [some (.long _), none, some (.long _), none, some (.long _), none], [.long _], _)) rfl (u_ rfl) ?_
          refine w_t (pc := 1) (e_s := (2, 1, 2, 0, 0, .null, [])) (y_s := (2, [some (.long _), none, some (.long _), none, some (.long _), none], [.long _, .long _], _)) rfl (u_ rfl) ?_
          refine w_t (pc := 2) (e_s := (14, 1, 0, 0, 0, .null, [])) (y_s := (3, [some (.long _), none, some (.long _), none, some (.long _), none], [.int (lg_cmp _ _)], _)) rfl (u_ rfl) ?_
          refine wl2 (pc := 3) (len_s := 3) (Y := 0) rfl (Int32.toInt_toInt64 _) (by decide) (fun c7_s => ?_) (fun c7_s => ?_)
          · exact absurd c7_s c4_s
          · skip
            refine w_t (pc := 6) (e_s := (2, 1, 0, 0, 0, .null, [])) (y_s := (7, [some (.long _), none, some (.long _), none, some (.long _), none], [.long _], _)) rfl (u_ rfl) ?_
            refine w_t (pc := 7) (e_s := (2, 2, 4, 0, 0, .null, [])) (y_s := (9, [some (.long _), none, some (.long _), none, some (.long _), none], [.long _, .long _], _)) rfl (u_ rfl) ?_
            refine w_t (pc := 9) (e_s := (14, 1, 0, 0, 0, .null, [])) (y_s := (10, [some (.long _), none, some (.long _), none, some (.long _), none], [.int (lg_cmp _ _)], _)) rfl (u_ rfl) ?_
            refine wl4 (pc := 10) (len_s := 3) rfl (Int32.toInt_toInt64 _) (Int32.toInt_toInt64 _) (fun c8_s => ?_) (fun c8_s => ?_)
            · replace t_s := t_s.1 c8_s
              refine w_t (pc := 17) (e_s := (0, 1, 0, 0, 0, .int 0, [])) (y_s := (18, [some (.long _), none, some (.long _), none, some (.long _), none], [.int _], _)) rfl (u_ rfl) ?_
              refine wrI (pc := 18) (len_s := 1) rfl hk ?_
              show wF _ 153 (12, [some (.ref _), some (.long _), none], [.int _], _) _
              refine wrI (pc := 12) (len_s := 1) rfl hk ?_
              show wF _ 164 (52, [some (.ref _), some (.int _), some (.int _), some (.int _)], [.int _], _) _
              refine w_t (pc := 52) (e_s := (15, 3, 60, 1, 0, .null, [])) (y_s := (55, [some (.ref _), some (.int _), some (.int _), some (.int _)], [], _)) rfl (u_ rfl) ?_
              refine w_t (pc := 55) (e_s := (0, 2, 0, 0, 0, .int (-2000000000), [(0, 1081)])) (y_s := (57, [some (.ref _), some (.int _), some (.int _), some (.int _)], [.int _], _)) rfl (u_ rfl) ?_
              refine w_t (pc := 57) (e_s := (17, 3, 92, 0, 0, .null, [])) (y_s := (92, [some (.ref _), some (.int _), some (.int _), some (.int _)], [.int _], _)) rfl (u_ rfl) ?_
              exact wrI (pc := 92) (len_s := 1) rfl hk t_s
            · replace t_s := t_s.2 c8_s
              refine w_t (pc := 13) (e_s := (0, 1, 0, 0, 0, .int 1, [])) (y_s := (14, [some (.long _), none, some (.long _), none, some (.long _), none], [.int _], _)) rfl (u_ rfl) ?_
              refine w_t (pc := 14) (e_s := (17, 3, 18, 0, 0, .null, [])) (y_s := (18, [some (.long _), none, some (.long _), none, some (.long _), none], [.int _], _)) rfl (u_ rfl) ?_
              refine wrI (pc := 18) (len_s := 1) rfl hk ?_
              show wF _ 153 (12, [some (.ref _), some (.long _), none], [.int _], _) _
              refine wrI (pc := 12) (len_s := 1) rfl hk ?_
              show wF _ 164 (52, [some (.ref _), some (.int _), some (.int _), some (.int _)], [.int _], _) _
              refine w_t (pc := 52) (e_s := (15, 3, 60, 1, 0, .null, [])) (y_s := (60, [some (.ref _), some (.int _), some (.int _), some (.int _)], [], _)) rfl (u_ rfl) ?_
              refine w_t (pc := 60) (e_s := (1, 1, 2, 0, 0, .null, [])) (y_s := (61, [some (.ref _), some (.int _), some (.int _), some (.int _)], [.int _], _)) rfl (u_ rfl) ?_
              refine w_t (pc := 61) (e_s := (0, 2, 0, 0, 0, .int 12, [])) (y_s := (63, [some (.ref _), some (.int _), some (.int _), some (.int _)], [.int _, .int _], _)) rfl (u_ rfl) ?_
              refine wi1 (pc := 63) (len_s := 3) (Y := 12) rfl rfl (by decide) (fun c9_s => ?_) (fun c9_s => ?_)
              · replace t_s := t_s.1 c9_s
                refine w_t (pc := 66) (e_s := (3, 1, 0, 0, 0, .null, [])) (y_s := (67, [some (.ref _), some (.int _), some (.int _), some (.int _)], [.ref _], _)) rfl (u_ rfl) ?_
                refine w20r (pc := 67) (len_s := 3) (q_s := 107) rfl (krq hk rfl) ?_
                refine w_t (pc := 70) (e_s := (1, 1, 1, 0, 0, .null, [])) (y_s := (71, [some (.ref _), some (.int _), some (.int _), some (.int _)], [.int _, .ref _], _)) rfl (u_ rfl) ?_
                refine w22 (pc := 71) (len_s := 1) rfl (hk.1 107 0 12 rfl rfl) (fun c10_s => ?_)
                replace t_s := t_s c10_s
                refine w_t (pc := 72) (e_s := (17, 3, 92, 0, 0, .null, [])) (y_s := (92, [some (.ref _), some (.int _), some (.int _), some (.int _)], [.int _], _)) rfl (u_ rfl) ?_
                exact wrI (pc := 92) (len_s := 1) rfl hk t_s
              · replace t_s := t_s.2 c9_s
                refine w_t (pc := 75) (e_s := (1, 1, 2, 0, 0, .null, [])) (y_s := (76, [some (.ref _), some (.int _), some (.int _), some (.int _)], [.int _], _)) rfl (u_ rfl) ?_
                refine w_t (pc := 76) (e_s := (0, 2, 0, 0, 0, .int 13, [])) (y_s := (78, [some (.ref _), some (.int _), some (.int _), some (.int _)], [.int _, .int _], _)) rfl (u_ rfl) ?_
                refine wi1 (pc := 78) (len_s := 3) (Y := 13) rfl rfl (by decide) (fun c11_s => ?_) (fun c11_s => ?_)
                · replace t_s := t_s.1 c11_s
                  refine w_t (pc := 81) (e_s := (3, 1, 0, 0, 0, .null, [])) (y_s := (82, [some (.ref _), some (.int _), some (.int _), some (.int _)], [.ref _], _)) rfl (u_ rfl) ?_
                  refine w20r (pc := 82) (len_s := 3) (q_s := 108) rfl (krq hk rfl) ?_
                  refine w_t (pc := 85) (e_s := (1, 1, 1, 0, 0, .null, [])) (y_s := (86, [some (.ref _), some (.int _), some (.int _), some (.int _)], [.int _, .ref _], _)) rfl (u_ rfl) ?_
                  refine w22 (pc := 86) (len_s := 1) rfl (hk.1 108 0 12 rfl rfl) (fun c12_s => ?_)
                  replace t_s := t_s c12_s
                  refine w_t (pc := 87) (e_s := (17, 3, 92, 0, 0, .null, [])) (y_s := (92, [some (.ref _), some (.int _), some (.int _), some (.int _)], [.int _], _)) rfl (u_ rfl) ?_
                  exact wrI (pc := 92) (len_s := 1) rfl hk t_s
                · replace t_s := t_s.2 c11_s
                  refine w_t (pc := 90) (e_s := (0, 2, 0, 0, 0, .int (-2000000000), [(0, 1081)])) (y_s := (92, [some (.ref _), some (.int _), some (.int _), some (.int _)], [.int _], _)) rfl (u_ rfl) ?_
                  exact wrI (pc := 92) (len_s := 1) rfl hk t_s
        · replace t_s := t_s.2 c6_s
          refine w_t (pc := 13) (e_s := (0, 1, 0, 0, 0, .int 1, [])) (y_s := (14, [some (.long _), none, some (.long _), none, some (.long _), none], [.int _], _)) rfl (u_ rfl) ?_
          refine w_t (pc := 14) (e_s := (17, 3, 18, 0, 0, .null, [])) (y_s := (18, [some (.long _), none, some (.long _), none, some (.long _), none], [.int _], _)) rfl (u_ rfl) ?_
          refine wrI (pc := 18) (len_s := 1) rfl hk ?_
          show wF _ 152 (12, [some (.ref _), some (.long _), none], [.int _], _) _
          refine wrI (pc := 12) (len_s := 1) rfl hk ?_
          show wF _ 164 (30, [some (.ref _), some (.int _), some (.int _), some (.int _)], [.int _], _) _
          refine w_t (pc := 30) (e_s := (15, 3, 46, 0, 0, .null, [])) (y_s := (33, [some (.ref _), some (.int _), some (.int _), some (.int _)], [], _)) rfl (u_ rfl) ?_
          refine w_t (pc := 33) (e_s := (3, 1, 0, 0, 0, .null, [])) (y_s := (34, [some (.ref _), some (.int _), some (.int _), some (.int _)], [.ref _], _)) rfl (u_ rfl) ?_
          refine w20r (pc := 34) (len_s := 3) (q_s := 103) rfl (krq hk rfl) ?_
          refine w_t (pc := 37) (e_s := (0, 2, 0, 0, 0, .int 28, [])) (y_s := (39, [some (.ref _), some (.int _), some (.int _), some (.int _)], [.int _, .ref _], _)) rfl (u_ rfl) ?_
          refine w_t (pc := 39) (e_s := (1, 1, 1, 0, 0, .null, [])) (y_s := (40, [some (.ref _), some (.int _), some (.int _), some (.int _)], [.int _, .int _, .ref _], _)) rfl (u_ rfl) ?_
          refine w_t (pc := 40) (e_s := (7, 1, 0, 0, 0, .null, [])) (y_s := (41, [some (.ref _), some (.int _), some (.int _), some (.int _)], [.int (_ + _), .ref _], _)) rfl (u_ rfl) ?_
          refine w22 (pc := 41) (len_s := 1) rfl (hk.1 103 0 104 rfl rfl) (fun c13_s => ?_)
          replace t_s := t_s c13_s
          refine wcI (pc := 42) (len_s := 3) rfl rfl (l := [some (.int _)]) rfl ?_
          refine w_t (pc := 0) (e_s := (0, 2, 0, 0, 0, .int 9, [])) (y_s := (2, [some (.int _)], [.int _], _)) rfl (u_ rfl) ?_
          refine w_t (pc := 2) (e_s := (1, 1, 0, 0, 0, .null, [])) (y_s := (3, [some (.int _)], [.int _, .int _], _)) rfl (u_ rfl) ?_
          refine w_t (pc := 3) (e_s := (0, 2, 0, 0, 0, .int 11, [])) (y_s := (5, [some (.int _)], [.int _, .int _, .int _], _)) rfl (u_ rfl) ?_
          refine w8 (pc := 5) (len_s := 1) rfl ?_
          refine w_t (pc := 6) (e_s := (7, 1, 0, 1, 0, .null, [])) (y_s := (7, [some (.int _)], [.int (_ - _)], _)) rfl (u_ rfl) ?_
          refine wrI (pc := 7) (len_s := 1) rfl hk ?_
          show wF _ 164 (45, [some (.ref _), some (.int _), some (.int _), some (.int _)], [.int _], _) _
          exact wrI (pc := 45) (len_s := 1) rfl hk t_s
    · replace t_s := t_s.2 c3_s
      refine w_t (pc := 46) (e_s := (3, 1, 0, 0, 0, .null, [])) (y_s := (47, [some (.ref _), some (.int _), some (.int _), some (.int _)], [.ref _], _)) rfl (u_ rfl) ?_
      refine w_t (pc := 47) (e_s := (1, 1, 1, 0, 0, .null, [])) (y_s := (48, [some (.ref _), some (.int _), some (.int _), some (.int _)], [.int _, .ref _], _)) rfl (u_ rfl) ?_
      refine w_t (pc := 48) (e_s := (10, 1, 0, 0, 0, .null, [])) (y_s := (49, [some (.ref _), some (.int _), some (.int _), some (.int _)], [.long (Int32.toInt64 _), .ref _], _)) rfl (u_ rfl) ?_
      refine wcI (pc := 49) (len_s := 3) rfl rfl (l := [some (.ref _), some (.long _), none]) rfl ?_
      refine w_t (pc := 0) (e_s := (2, 1, 1, 0, 0, .null, [])) (y_s := (1, [some (.ref _), some (.long _), none], [.long _], _)) rfl (u_ rfl) ?_
      refine w_t (pc := 1) (e_s := (0, 1, 0, 0, 0, .long 0, [])) (y_s := (2, [some (.ref _), some (.long _), none], [.long _, .long _], _)) rfl (u_ rfl) ?_
      refine w_t (pc := 2) (e_s := (3, 1, 0, 0, 0, .null, [])) (y_s := (3, [some (.ref _), some (.long _), none], [.ref _, .long _, .long _], _)) rfl (u_ rfl) ?_
      refine w20 (pc := 3) (len_s := 3) rfl ?_
      refine w_t (pc := 6) (e_s := (0, 1, 0, 0, 0, .int 1, [])) (y_s := (7, [some (.ref _), some (.long _), none], [.int _, .int _, .long _, .long _], _)) rfl (u_ rfl) ?_
      refine w_t (pc := 7) (e_s := (7, 1, 0, 1, 0, .null, [])) (y_s := (8, [some (.ref _), some (.long _), none], [.int (_ - _), .long _, .long _], _)) rfl (u_ rfl) ?_
      refine w_t (pc := 8) (e_s := (10, 1, 0, 0, 0, .null, [])) (y_s := (9, [some (.ref _), some (.long _), none], [.long (Int32.toInt64 _), .long _, .long _], _)) rfl (u_ rfl) ?_
      refine wcI (pc := 9) (len_s := 3) rfl rfl (l := [some (.long _), none, some (.long _), none, some (.long _), none]) rfl ?_
      refine w_t (pc := 0) (e_s := (2, 1, 0, 0, 0, .null, [])) (y_s := (1, [some (.long _), none, some (.long _), none, some (.long _), none], [.long _], _)) rfl (u_ rfl) ?_
      refine w_t (pc := 1) (e_s := (2, 1, 2, 0, 0, .null, [])) (y_s := (2, [some (.long _), none, some (.long _), none, some (.long _), none], [.long _, .long _], _)) rfl (u_ rfl) ?_
      refine w_t (pc := 2) (e_s := (14, 1, 0, 0, 0, .null, [])) (y_s := (3, [some (.long _), none, some (.long _), none, some (.long _), none], [.int (lg_cmp _ _)], _)) rfl (u_ rfl) ?_
      refine wl2 (pc := 3) (len_s := 3) (Y := 0) rfl (Int32.toInt_toInt64 _) (by decide) (fun c14_s => ?_) (fun c14_s => ?_)
      · replace t_s := t_s.1 c14_s
        refine w_t (pc := 17) (e_s := (0, 1, 0, 0, 0, .int 0, [])) (y_s := (18, [some (.long _), none, some (.long _), none, some (.long _), none], [.int _], _)) rfl (u_ rfl) ?_
        refine wrI (pc := 18) (len_s := 1) rfl hk ?_
        show wF _ 153 (12, [some (.ref _), some (.long _), none], [.int _], _) _
        refine wrI (pc := 12) (len_s := 1) rfl hk ?_
        show wF _ 164 (52, [some (.ref _), some (.int _), some (.int _), some (.int _)], [.int _], _) _
        refine w_t (pc := 52) (e_s := (15, 3, 60, 1, 0, .null, [])) (y_s := (55, [some (.ref _), some (.int _), some (.int _), some (.int _)], [], _)) rfl (u_ rfl) ?_
        refine w_t (pc := 55) (e_s := (0, 2, 0, 0, 0, .int (-2000000000), [(0, 1081)])) (y_s := (57, [some (.ref _), some (.int _), some (.int _), some (.int _)], [.int _], _)) rfl (u_ rfl) ?_
        refine w_t (pc := 57) (e_s := (17, 3, 92, 0, 0, .null, [])) (y_s := (92, [some (.ref _), some (.int _), some (.int _), some (.int _)], [.int _], _)) rfl (u_ rfl) ?_
        exact wrI (pc := 92) (len_s := 1) rfl hk t_s
      · replace t_s := t_s.2 c14_s
        refine w_t (pc := 6) (e_s := (2, 1, 0, 0, 0, .null, [])) (y_s := (7, [some (.long _), none, some (.long _), none, some (.long _), none], [.long _], _)) rfl (u_ rfl) ?_
        refine w_t (pc := 7) (e_s := (2, 2, 4, 0, 0, .null, [])) (y_s := (9, [some (.long _), none, some (.long _), none, some (.long _), none], [.long _, .long _], _)) rfl (u_ rfl) ?_
        refine w_t (pc := 9) (e_s := (14, 1, 0, 0, 0, .null, [])) (y_s := (10, [some (.long _), none, some (.long _), none, some (.long _), none], [.int (lg_cmp _ _)], _)) rfl (u_ rfl) ?_
        refine wl4 (pc := 10) (len_s := 3) rfl (Int32.toInt_toInt64 _) (Int32.toInt_toInt64 _) (fun c15_s => ?_) (fun c15_s => ?_)
        · replace t_s := t_s.1 c15_s
          refine w_t (pc := 17) (e_s := (0, 1, 0, 0, 0, .int 0, [])) (y_s := (18, [some (.long _), none, some (.long _), none, some (.long _), none], [.int _], _)) rfl (u_ rfl) ?_
          refine wrI (pc := 18) (len_s := 1) rfl hk ?_
          show wF _ 153 (12, [some (.ref _), some (.long _), none], [.int _], _) _
          refine wrI (pc := 12) (len_s := 1) rfl hk ?_
          show wF _ 164 (52, [some (.ref _), some (.int _), some (.int _), some (.int _)], [.int _], _) _
          refine w_t (pc := 52) (e_s := (15, 3, 60, 1, 0, .null, [])) (y_s := (55, [some (.ref _), some (.int _), some (.int _), some (.int _)], [], _)) rfl (u_ rfl) ?_
          refine w_t (pc := 55) (e_s := (0, 2, 0, 0, 0, .int (-2000000000), [(0, 1081)])) (y_s := (57, [some (.ref _), some (.int _), some (.int _), some (.int _)], [.int _], _)) rfl (u_ rfl) ?_
          refine w_t (pc := 57) (e_s := (17, 3, 92, 0, 0, .null, [])) (y_s := (92, [some (.ref _), some (.int _), some (.int _), some (.int _)], [.int _], _)) rfl (u_ rfl) ?_
          exact wrI (pc := 92) (len_s := 1) rfl hk t_s
        · replace t_s := t_s.2 c15_s
          refine w_t (pc := 13) (e_s := (0, 1, 0, 0, 0, .int 1, [])) (y_s := (14, [some (.long _), none, some (.long _), none, some (.long _), none], [.int _], _)) rfl (u_ rfl) ?_
          refine w_t (pc := 14) (e_s := (17, 3, 18, 0, 0, .null, [])) (y_s := (18, [some (.long _), none, some (.long _), none, some (.long _), none], [.int _], _)) rfl (u_ rfl) ?_
          refine wrI (pc := 18) (len_s := 1) rfl hk ?_
          show wF _ 153 (12, [some (.ref _), some (.long _), none], [.int _], _) _
          refine wrI (pc := 12) (len_s := 1) rfl hk ?_
          show wF _ 164 (52, [some (.ref _), some (.int _), some (.int _), some (.int _)], [.int _], _) _
          refine w_t (pc := 52) (e_s := (15, 3, 60, 1, 0, .null, [])) (y_s := (60, [some (.ref _), some (.int _), some (.int _), some (.int _)], [], _)) rfl (u_ rfl) ?_
          refine w_t (pc := 60) (e_s := (1, 1, 2, 0, 0, .null, [])) (y_s := (61, [some (.ref _), some (.int _), some (.int _), some (.int _)], [.int _], _)) rfl (u_ rfl) ?_
          refine w_t (pc := 61) (e_s := (0, 2, 0, 0, 0, .int 12, [])) (y_s := (63, [some (.ref _), some (.int _), some (.int _), some (.int _)], [.int _, .int _], _)) rfl (u_ rfl) ?_
          refine wi1 (pc := 63) (len_s := 3) (Y := 12) rfl rfl (by decide) (fun c16 => ?_) (fun c16 => ?_)
          · replace t_s := t_s.1 c16
            refine w_t (pc := 66) (e_s := (3, 1, 0, 0, 0, .null, [])) (y_s := (67, [some (.ref _), some (.int _), some (.int _), some (.int _)], [.ref _], _)) rfl (u_ rfl) ?_
            refine w20r (pc := 67) (len_s := 3) (q_s := 107) rfl (krq hk rfl) ?_
            refine w_t (pc := 70) (e_s := (1, 1, 1, 0, 0, .null, [])) (y_s := (71, [some (.ref _), some (.int _), some (.int _), some (.int _)], [.int _, .ref _], _)) rfl (u_ rfl) ?_
            refine w22 (pc := 71) (len_s := 1) rfl (hk.1 107 0 12 rfl rfl) (fun c17 => ?_)
            replace t_s := t_s c17
            refine w_t (pc := 72) (e_s := (17, 3, 92, 0, 0, .null, [])) (y_s := (92, [some (.ref _), some (.int _), some (.int _), some (.int _)], [.int _], _)) rfl (u_ rfl) ?_
            exact wrI (pc := 92) (len_s := 1) rfl hk t_s
          · replace t_s := t_s.2 c16
            refine w_t (pc := 75) (e_s := (1, 1, 2, 0, 0, .null, [])) (y_s := (76, [some (.ref _), some (.int _), some (.int _), some (.int _)], [.int _], _)) rfl (u_ rfl) ?_
            refine w_t (pc := 76) (e_s := (0, 2, 0, 0, 0, .int 13, [])) (y_s := (78, [some (.ref _), some (.int _), some (.int _), some (.int _)], [.int _, .int _], _)) rfl (u_ rfl) ?_
            refine wi1 (pc := 78) (len_s := 3) (Y := 13) rfl rfl (by decide) (fun c18_s => ?_) (fun c18_s => ?_)
            · replace t_s := t_s.1 c18_s
              refine w_t (pc := 81) (e_s := (3, 1, 0, 0, 0, .null, [])) (y_s := (82, [some (.ref _), some (.int _), some (.int _), some (.int _)], [.ref _], _)) rfl (u_ rfl) ?_
              refine w20r (pc := 82) (len_s := 3) (q_s := 108) rfl (krq hk rfl) ?_
              refine w_t (pc := 85) (e_s := (1, 1, 1, 0, 0, .null, [])) (y_s := (86, [some (.ref _), some (.int _), some (.int _), some (.int _)], [.int _, .ref _], _)) rfl (u_ rfl) ?_
              refine w22 (pc := 86) (len_s := 1) rfl (hk.1 108 0 12 rfl rfl) (fun c19_s => ?_)
              replace t_s := t_s c19_s
              refine w_t (pc := 87) (e_s := (17, 3, 92, 0, 0, .null, [])) (y_s := (92, [some (.ref _), some (.int _), some (.int _), some (.int _)], [.int _], _)) rfl (u_ rfl) ?_
              exact wrI (pc := 92) (len_s := 1) rfl hk t_s
            · replace t_s := t_s.2 c18_s
              refine w_t (pc := 90) (e_s := (0, 2, 0, 0, 0, .int (-2000000000), [(0, 1081)])) (y_s := (92, [some (.ref _), some (.int _), some (.int _), some (.int _)], [.int _], _)) rfl (u_ rfl) ?_
              exact wrI (pc := 92) (len_s := 1) rfl hk t_s
  · replace t_s := t_s.2 c2_s
    refine w_t (pc := 11) (e_s := (3, 1, 0, 0, 0, .null, [])) (y_s := (12, [some (.ref _), some (.int _), some (.int _), some (.int _)], [.ref _], _)) rfl (u_ rfl) ?_
    refine w20r (pc := 12) (len_s := 3) (q_s := 103) rfl (krq hk rfl) ?_
    refine w_t (pc := 15) (e_s := (1, 1, 3, 0, 0, .null, [])) (y_s := (16, [some (.ref _), some (.int _), some (.int _), some (.int _)], [.int _, .ref _], _)) rfl (u_ rfl) ?_
    refine w22 (pc := 16) (len_s := 1) rfl (hk.1 103 0 104 rfl rfl) (fun c20_s => ?_)
    replace t_s := t_s c20_s
    exact wrI (pc := 17) (len_s := 1) rfl hk t_s
/-- ColdShodModel.undo()I, from 0 on -/
theorem sg_149_0 {F_s : Nat}  {h_s : zH} {K_s : Int32 → zH → Prop} (hk : hKn h_s) (t_s : ((h_s.2.1 102 5).toInt = 0 → K_s (-5) h_s) ∧ (¬ (h_s.2.1 102 5).toInt = 0 → (zix ((h_s.2.1 102 5) - 1) < 40 → (zix (h_s.2.1 104 (zix ((h_s.2.1 102 5) - 1))) < 104 → K_s ((h_s.2.1 102 5) - 1) (h_s.1, zup (zup h_s.2.1 102 5 ((h_s.2.1 102 5) - 1)) 103 (zix (h_s.2.1 104 (zix ((h_s.2.1 102 5) - 1)))) (h_s.2.1 105 (zix ((h_s.2.1 102 5) - 1))), h_s.2.2.1, h_s.2.2.2))))) : wF (F_s + 1) 149 (0, [some (.ref 102)], [], h_s) (gI K_s) := by
  refine w_0 (pc := 0) (e_s := (3, 1, 0, 0, 0, .null, [])) (y_s := (1, [some (.ref _)], [.ref _], _)) rfl (u_ rfl) ?_
  refine w20 (pc := 1) (len_s := 3) rfl ?_
  refine wq1 (pc := 4) (len_s := 3) rfl rfl (fun c1_s => ?_) (fun c1_s => ?_)
  · replace t_s := t_s.1 c1_s
    refine w_t (pc := 7) (e_s := (0, 2, 0, 0, 0, .int (-5), [])) (y_s := (9, [some (.ref _)], [.int _], _)) rfl (u_ rfl) ?_
    exact wrI (pc := 9) (len_s := 1) rfl hk t_s
  · replace t_s := t_s.2 c1_s
    refine w_t (pc := 10) (e_s := (3, 1, 0, 0, 0, .null, [])) (y_s := (11, [some (.ref _)], [.ref _], _)) rfl (u_ rfl) ?_
    refine w_t (pc := 11) (e_s := (39, 1, 0, 0, 0, .null, [])) (y_s := (12, [some (.ref _)], [.ref _, .ref _], _)) rfl (u_ rfl) ?_
    refine w20 (pc := 12) (len_s := 3) rfl ?_
    refine w_t (pc := 15) (e_s := (0, 1, 0, 0, 0, .int 1, [])) (y_s := (16, [some (.ref _)], [.int _, .int _, .ref _], _)) rfl (u_ rfl) ?_
    refine w_t (pc := 16) (e_s := (7, 1, 0, 1, 0, .null, [])) (y_s := (17, [some (.ref _)], [.int (_ - _), .ref _], _)) rfl (u_ rfl) ?_
    refine w21 (pc := 17) (len_s := 3) rfl ?_
    refine w_t (pc := 20) (e_s := (3, 1, 0, 0, 0, .null, [])) (y_s := (21, [some (.ref _)], [.ref _], _)) rfl (u_ rfl) ?_
    refine w20r (pc := 21) (len_s := 3) (q_s := 103) rfl (krq hk rfl) ?_
    refine w_t (pc := 24) (e_s := (3, 1, 0, 0, 0, .null, [])) (y_s := (25, [some (.ref _)], [.ref _, .ref _], _)) rfl (u_ rfl) ?_
    refine w20r (pc := 25) (len_s := 3) (q_s := 104) rfl (krq hk rfl) ?_
    refine w_t (pc := 28) (e_s := (3, 1, 0, 0, 0, .null, [])) (y_s := (29, [some (.ref _)], [.ref _, .ref _, .ref _], _)) rfl (u_ rfl) ?_
    refine w20 (pc := 29) (len_s := 3) rfl ?_
    refine w22 (pc := 32) (len_s := 1) rfl (hk.1 104 0 40 rfl rfl) (fun c2_s => ?_)
    replace t_s := t_s c2_s
    refine w_t (pc := 33) (e_s := (3, 1, 0, 0, 0, .null, [])) (y_s := (34, [some (.ref _)], [.ref _, .int _, .ref _], _)) rfl (u_ rfl) ?_
    refine w20r (pc := 34) (len_s := 3) (q_s := 105) rfl (krq hk rfl) ?_
    refine w_t (pc := 37) (e_s := (3, 1, 0, 0, 0, .null, [])) (y_s := (38, [some (.ref _)], [.ref _, .ref _, .int _, .ref _], _)) rfl (u_ rfl) ?_
    refine w20 (pc := 38) (len_s := 3) rfl ?_
    refine w22 (pc := 41) (len_s := 1) rfl (hk.1 105 0 40 rfl rfl) (fun c3_s => ?_)
    refine w25 (pc := 42) (len_s := 1) rfl (hk.1 103 0 104 rfl rfl) (fun c4_s => ?_)
    replace t_s := t_s c4_s
    refine w_t (pc := 43) (e_s := (3, 1, 0, 0, 0, .null, [])) (y_s := (44, [some (.ref _)], [.ref _], _)) rfl (u_ rfl) ?_
    refine w20 (pc := 44) (len_s := 3) rfl ?_
    exact wrI (pc := 47) (len_s := 1) rfl hk t_s
/-- ColdShodModel.redo()I, from 0 on -/
theorem sg_150_0 {F_s : Nat}  {h_s : zH} {K_s : Int32 → zH → Prop} (hk : hKn h_s) (t_s : ((h_s.2.1 102 5).toInt = (h_s.2.1 102 4).toInt → K_s (-5) h_s) ∧ (¬ (h_s.2.1 102 5).toInt = (h_s.2.1 102 4).toInt → (zix (h_s.2.1 102 5) < 40 → (zix (h_s.2.1 104 (zix (h_s.2.1 102 5))) < 104 → K_s ((h_s.2.1 102 4) - ((h_s.2.1 102 5) + 1)) (h_s.1, zup (zup h_s.2.1 103 (zix (h_s.2.1 104 (zix (h_s.2.1 102 5)))) (h_s.2.1 106 (zix (h_s.2.1 102 5)))) 102 5 ((h_s.2.1 102 5) + 1), h_s.2.2.1, h_s.2.2.2))))) : wF (F_s + 1) 150 (0, [some (.ref 102)], [], h_s) (gI K_s) := by
  refine w_0 (pc := 0) (e_s := (3, 1, 0, 0, 0, .null, [])) (y_s := (1, [some (.ref _)], [.ref _], _)) rfl (u_ rfl) ?_
  refine w20 (pc := 1) (len_s := 3) rfl ?_
  refine w_t (pc := 4) (e_s := (3, 1, 0, 0, 0, .null, [])) (y_s := (5, [some (.ref _)], [.ref _, .int _], _)) rfl (u_ rfl) ?_
  refine w20 (pc := 5) (len_s := 3) rfl ?_
  refine wi1 (pc := 8) (len_s := 3) rfl rfl rfl (fun c1_s => ?_) (fun c1_s => ?_)
  · replace t_s := t_s.1 c1_s
    refine w_t (pc := 11) (e_s := (0, 2, 0, 0, 0, .int (-5), [])) (y_s := (13, [some (.ref _)], [.int _], _)) rfl (u_ rfl) ?_
    exact wrI (pc := 13) (len_s := 1) rfl hk t_s
  · replace t_s := t_s.2 c1_s
    refine w_t (pc := 14) (e_s := (3, 1, 0, 0, 0, .null, [])) (y_s := (15, [some (.ref _)], [.ref _], _)) rfl (u_ rfl) ?_
    refine w20r (pc := 15) (len_s := 3) (q_s := 103) rfl (krq hk rfl) ?_
    refine w_t (pc := 18) (e_s := (3, 1, 0, 0, 0, .null, [])) (y_s := (19, [some (.ref _)], [.ref _, .ref _], _)) rfl (u_ rfl) ?_
    refine w20r (pc := 19) (len_s := 3) (q_s := 104) rfl (krq hk rfl) ?_
    refine w_t (pc := 22) (e_s := (3, 1, 0, 0, 0, .null, [])) (y_s := (23, [some (.ref _)], [.ref _, .ref _, .ref _], _)) rfl (u_ rfl) ?_
    refine w20 (pc := 23) (len_s := 3) rfl ?_
    refine w22 (pc := 26) (len_s := 1) rfl (hk.1 104 0 40 rfl rfl) (fun c2_s => ?_)
    replace t_s := t_s c2_s
    refine w_t (pc := 27) (e_s := (3, 1, 0, 0, 0, .null, [])) (y_s := (28, [some (.ref _)], [.ref _, .int _, .ref _], _)) rfl (u_ rfl) ?_
    refine w20r (pc := 28) (len_s := 3) (q_s := 106) rfl (krq hk rfl) ?_
    refine w_t (pc := 31) (e_s := (3, 1, 0, 0, 0, .null, [])) (y_s := (32, [some (.ref _)], [.ref _, .ref _, .int _, .ref _], _)) rfl (u_ rfl) ?_
    refine w20 (pc := 32) (len_s := 3) rfl ?_
    refine w22 (pc := 35) (len_s := 1) rfl (hk.1 106 0 40 rfl rfl) (fun c3_s => ?_)
    refine w25 (pc := 36) (len_s := 1) rfl (hk.1 103 0 104 rfl rfl) (fun c4_s => ?_)
    replace t_s := t_s c4_s
    refine w_t (pc := 37) (e_s := (3, 1, 0, 0, 0, .null, [])) (y_s := (38, [some (.ref _)], [.ref _], _)) rfl (u_ rfl) ?_
    refine w_t (pc := 38) (e_s := (39, 1, 0, 0, 0, .null, [])) (y_s := (39, [some (.ref _)], [.ref _, .ref _], _)) rfl (u_ rfl) ?_
    refine w20 (pc := 39) (len_s := 3) rfl ?_
    refine w_t (pc := 42) (e_s := (0, 1, 0, 0, 0, .int 1, [])) (y_s := (43, [some (.ref _)], [.int _, .int _, .ref _], _)) rfl (u_ rfl) ?_
    refine w_t (pc := 43) (e_s := (7, 1, 0, 0, 0, .null, [])) (y_s := (44, [some (.ref _)], [.int (_ + _), .ref _], _)) rfl (u_ rfl) ?_
    refine w21 (pc := 44) (len_s := 3) rfl ?_
    refine w_t (pc := 47) (e_s := (3, 1, 0, 0, 0, .null, [])) (y_s := (48, [some (.ref _)], [.ref _], _)) rfl (u_ rfl) ?_
    refine w20 (pc := 48) (len_s := 3) rfl ?_
    refine w_t (pc := 51) (e_s := (3, 1, 0, 0, 0, .null, [])) (y_s := (52, [some (.ref _)], [.ref _, .int _], _)) rfl (u_ rfl) ?_
    refine w20 (pc := 52) (len_s := 3) rfl ?_
    refine w_t (pc := 55) (e_s := (7, 1, 0, 1, 0, .null, [])) (y_s := (56, [some (.ref _)], [.int (_ - _)], _)) rfl (u_ rfl) ?_
    exact wrI (pc := 56) (len_s := 1) rfl hk t_s
