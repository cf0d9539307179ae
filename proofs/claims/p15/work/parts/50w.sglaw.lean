/-! THE LAW, from its loop on, by what ended runs give: printed by a program (wip/fun/sg.py). -/
theorem sg_241_18 {F_s : Nat} {x3 : Int32} {h_s : zH} {K_s : Int32 → zH → Prop} (hk : hKn h_s) (t_s : (∀ n1_s : Nat, (((Int32.ofNat n1_s) - 6).toInt < x3.toInt → K_s 1 h_s) ∧ (¬ ((Int32.ofNat n1_s) - 6).toInt < x3.toInt → ((((h_s.2.1 0 (zix x3)) &&& 63).toInt = 0 → wF F_s 241 (200, [some (.ref 0), some (.ref 6), some (.ref 102), some (.int x3)], [], h_s) (gI K_s)) ∧ (¬ ((h_s.2.1 0 (zix x3)) &&& 63).toInt = 0 → (((h_s.2.1 0 (zix x3)) &&& 63).toInt = 1 → wF F_s 241 (223, [some (.ref 0), some (.ref 6), some (.ref 102), some (.int x3)], [], h_s) (gI K_s)) ∧ (¬ ((h_s.2.1 0 (zix x3)) &&& 63).toInt = 1 → (((h_s.2.1 0 (zix x3)) &&& 63).toInt = 2 → wF F_s 241 (256, [some (.ref 0), some (.ref 6), some (.ref 102), some (.int x3)], [], h_s) (gI K_s)) ∧ (¬ ((h_s.2.1 0 (zix x3)) &&& 63).toInt = 2 → (((h_s.2.1 0 (zix x3)) &&& 63).toInt = 3 → wF F_s 241 (289, [some (.ref 0), some (.ref 6), some (.ref 102), some (.int x3)], [], h_s) (gI K_s)) ∧ (¬ ((h_s.2.1 0 (zix x3)) &&& 63).toInt = 3 → (((h_s.2.1 0 (zix x3)) &&& 63).toInt = 4 → wF F_s 241 (332, [some (.ref 0), some (.ref 6), some (.ref 102), some (.int x3)], [], h_s) (gI K_s)) ∧ (¬ ((h_s.2.1 0 (zix x3)) &&& 63).toInt = 4 → (((h_s.2.1 0 (zix x3)) &&& 63).toInt = 5 → wF F_s 241 (375, [some (.ref 0), some (.ref 6), some (.ref 102), some (.int x3)], [], h_s) (gI K_s)) ∧ (¬ ((h_s.2.1 0 (zix x3)) &&& 63).toInt = 5 → (((h_s.2.1 0 (zix x3)) &&& 63).toInt = 6 → wF F_s 241 (408, [some (.ref 0), some (.ref 6), some (.ref 102), some (.int x3)], [], h_s) (gI K_s)) ∧ (¬ ((h_s.2.1 0 (zix x3)) &&& 63).toInt = 6 → (((h_s.2.1 0 (zix x3)) &&& 63).toInt = 7 → wF F_s 241 (431, [some (.ref 0), some (.ref 6), some (.ref 102), some (.int x3)], [], h_s) (gI K_s)) ∧ (¬ ((h_s.2.1 0 (zix x3)) &&& 63).toInt = 7 → (((h_s.2.1 0 (zix x3)) &&& 63).toInt = 8 → wF F_s 241 (444, [some (.ref 0), some (.ref 6), some (.ref 102), some (.int x3)], [], h_s) (gI K_s)) ∧ (¬ ((h_s.2.1 0 (zix x3)) &&& 63).toInt = 8 → (((h_s.2.1 0 (zix x3)) &&& 63).toInt = 9 → wF F_s 241 (477, [some (.ref 0), some (.ref 6), some (.ref 102), some (.int x3)], [], h_s) (gI K_s)) ∧ (¬ ((h_s.2.1 0 (zix x3)) &&& 63).toInt = 9 → (((h_s.2.1 0 (zix x3)) &&& 63).toInt = 10 → wF F_s 241 (520, [some (.ref 0), some (.ref 6), some (.ref 102), some (.int x3)], [], h_s) (gI K_s)) ∧ (¬ ((h_s.2.1 0 (zix x3)) &&& 63).toInt = 10 → (((h_s.2.1 0 (zix x3)) &&& 63).toInt = 11 → wF F_s 241 (563, [some (.ref 0), some (.ref 6), some (.ref 102), some (.int x3)], [], h_s) (gI K_s)) ∧ (¬ ((h_s.2.1 0 (zix x3)) &&& 63).toInt = 11 → (((h_s.2.1 0 (zix x3)) &&& 63).toInt = 12 → wF F_s 241 (606, [some (.ref 0), some (.ref 6), some (.ref 102), some (.int x3)], [], h_s) (gI K_s)) ∧ (¬ ((h_s.2.1 0 (zix x3)) &&& 63).toInt = 12 → (((h_s.2.1 0 (zix x3)) &&& 63).toInt = 13 → wF F_s 241 (639, [some (.ref 0), some (.ref 6), some (.ref 102), some (.int x3)], [], h_s) (gI K_s)) ∧ (¬ ((h_s.2.1 0 (zix x3)) &&& 63).toInt = 13 → (((h_s.2.1 0 (zix x3)) &&& 63).toInt = 14 → wF F_s 241 (662, [some (.ref 0), some (.ref 6), some (.ref 102), some (.int x3)], [], h_s) (gI K_s)) ∧ (¬ ((h_s.2.1 0 (zix x3)) &&& 63).toInt = 14 → (((h_s.2.1 0 (zix x3)) &&& 63).toInt = 15 → wF F_s 241 (675, [some (.ref 0), some (.ref 6), some (.ref 102), some (.int x3)], [], h_s) (gI K_s)) ∧ (¬ ((h_s.2.1 0 (zix x3)) &&& 63).toInt = 15 → (((h_s.2.1 0 (zix x3)) &&& 63).toInt = 16 → wF F_s 241 (698, [some (.ref 0), some (.ref 6), some (.ref 102), some (.int x3)], [], h_s) (gI K_s)) ∧ (¬ ((h_s.2.1 0 (zix x3)) &&& 63).toInt = 16 → (((h_s.2.1 0 (zix x3)) &&& 63).toInt = 17 → wF F_s 241 (731, [some (.ref 0), some (.ref 6), some (.ref 102), some (.int x3)], [], h_s) (gI K_s)) ∧ (¬ ((h_s.2.1 0 (zix x3)) &&& 63).toInt = 17 → (((h_s.2.1 0 (zix x3)) &&& 63).toInt = 18 → wF F_s 241 (774, [some (.ref 0), some (.ref 6), some (.ref 102), some (.int x3)], [], h_s) (gI K_s)) ∧ (¬ ((h_s.2.1 0 (zix x3)) &&& 63).toInt = 18 → (((h_s.2.1 0 (zix x3)) &&& 63).toInt = 19 → wF F_s 241 (817, [some (.ref 0), some (.ref 6), some (.ref 102), some (.int x3)], [], h_s) (gI K_s)) ∧ (¬ ((h_s.2.1 0 (zix x3)) &&& 63).toInt = 19 → (((h_s.2.1 0 (zix x3)) &&& 63).toInt = 20 → wF F_s 241 (870, [some (.ref 0), some (.ref 6), some (.ref 102), some (.int x3)], [], h_s) (gI K_s)) ∧ (¬ ((h_s.2.1 0 (zix x3)) &&& 63).toInt = 20 → (((h_s.2.1 0 (zix x3)) &&& 63).toInt = 21 → wF F_s 241 (903, [some (.ref 0), some (.ref 6), some (.ref 102), some (.int x3)], [], h_s) (gI K_s)) ∧ (¬ ((h_s.2.1 0 (zix x3)) &&& 63).toInt = 21 → (((h_s.2.1 0 (zix x3)) &&& 63).toInt = 22 → wF F_s 241 (936, [some (.ref 0), some (.ref 6), some (.ref 102), some (.int x3)], [], h_s) (gI K_s)) ∧ (¬ ((h_s.2.1 0 (zix x3)) &&& 63).toInt = 22 → (((h_s.2.1 0 (zix x3)) &&& 63).toInt = 23 → wF F_s 241 (949, [some (.ref 0), some (.ref 6), some (.ref 102), some (.int x3)], [], h_s) (gI K_s)) ∧ (¬ ((h_s.2.1 0 (zix x3)) &&& 63).toInt = 23 → (((h_s.2.1 0 (zix x3)) &&& 63).toInt = 24 → wF F_s 241 (972, [some (.ref 0), some (.ref 6), some (.ref 102), some (.int x3)], [], h_s) (gI K_s)) ∧ (¬ ((h_s.2.1 0 (zix x3)) &&& 63).toInt = 24 → (((h_s.2.1 0 (zix x3)) &&& 63).toInt = 25 → wF F_s 241 (985, [some (.ref 0), some (.ref 6), some (.ref 102), some (.int x3)], [], h_s) (gI K_s)) ∧ (¬ ((h_s.2.1 0 (zix x3)) &&& 63).toInt = 25 → (((h_s.2.1 0 (zix x3)) &&& 63).toInt = 26 → wF F_s 241 (998, [some (.ref 0), some (.ref 6), some (.ref 102), some (.int x3)], [], h_s) (gI K_s)) ∧ (¬ ((h_s.2.1 0 (zix x3)) &&& 63).toInt = 26 → (((h_s.2.1 0 (zix x3)) &&& 63).toInt = 27 → wF F_s 241 (1011, [some (.ref 0), some (.ref 6), some (.ref 102), some (.int x3)], [], h_s) (gI K_s)) ∧ (¬ ((h_s.2.1 0 (zix x3)) &&& 63).toInt = 27 → (((h_s.2.1 0 (zix x3)) &&& 63).toInt = 28 → wF F_s 241 (1024, [some (.ref 0), some (.ref 6), some (.ref 102), some (.int x3)], [], h_s) (gI K_s)) ∧ (¬ ((h_s.2.1 0 (zix x3)) &&& 63).toInt = 28 → (((h_s.2.1 0 (zix x3)) &&& 63).toInt = 29 → wF F_s 241 (1047, [some (.ref 0), some (.ref 6), some (.ref 102), some (.int x3)], [], h_s) (gI K_s)) ∧ (¬ ((h_s.2.1 0 (zix x3)) &&& 63).toInt = 29 → (((h_s.2.1 0 (zix x3)) &&& 63).toInt = 30 → wF F_s 241 (1090, [some (.ref 0), some (.ref 6), some (.ref 102), some (.int x3)], [], h_s) (gI K_s)) ∧ (¬ ((h_s.2.1 0 (zix x3)) &&& 63).toInt = 30 → (((h_s.2.1 0 (zix x3)) &&& 63).toInt = 31 → wF F_s 241 (1113, [some (.ref 0), some (.ref 6), some (.ref 102), some (.int x3)], [], h_s) (gI K_s)) ∧ (¬ ((h_s.2.1 0 (zix x3)) &&& 63).toInt = 31 → (((h_s.2.1 0 (zix x3)) &&& 63).toInt = 32 → wF F_s 241 (1146, [some (.ref 0), some (.ref 6), some (.ref 102), some (.int x3)], [], h_s) (gI K_s)) ∧ (¬ ((h_s.2.1 0 (zix x3)) &&& 63).toInt = 32 → (((h_s.2.1 0 (zix x3)) &&& 63).toInt = 33 → wF F_s 241 (1189, [some (.ref 0), some (.ref 6), some (.ref 102), some (.int x3)], [], h_s) (gI K_s)) ∧ (¬ ((h_s.2.1 0 (zix x3)) &&& 63).toInt = 33 → (((h_s.2.1 0 (zix x3)) &&& 63).toInt = 34 → wF F_s 241 (1262, [some (.ref 0), some (.ref 6), some (.ref 102), some (.int x3)], [], h_s) (gI K_s)) ∧ (¬ ((h_s.2.1 0 (zix x3)) &&& 63).toInt = 34 → (((h_s.2.1 0 (zix x3)) &&& 63).toInt = 35 → wF F_s 241 (1295, [some (.ref 0), some (.ref 6), some (.ref 102), some (.int x3)], [], h_s) (gI K_s)) ∧ (¬ ((h_s.2.1 0 (zix x3)) &&& 63).toInt = 35 → (((h_s.2.1 0 (zix x3)) &&& 63).toInt = 36 → wF F_s 241 (1358, [some (.ref 0), some (.ref 6), some (.ref 102), some (.int x3)], [], h_s) (gI K_s)) ∧ (¬ ((h_s.2.1 0 (zix x3)) &&& 63).toInt = 36 → (((h_s.2.1 0 (zix x3)) &&& 63).toInt = 37 → wF F_s 241 (1391, [some (.ref 0), some (.ref 6), some (.ref 102), some (.int x3)], [], h_s) (gI K_s)) ∧ (¬ ((h_s.2.1 0 (zix x3)) &&& 63).toInt = 37 → wF F_s 241 (18, [some (.ref 0), some (.ref 6), some (.ref 102), some (.int (x3 + 6))], [], h_s) (gI K_s))))))))))))))))))))))))))))))))))))))))))) : wF (F_s + 1) 241 (18, [some (.ref 0), some (.ref 6), some (.ref 102), some (.int x3)], [], h_s) (gI K_s) := by
  refine w_0 (pc := 18) (e_s := (1, 1, 3, 0, 0, .null, [])) (y_s := (19, [some (.ref _), some (.ref _), some (.ref _), some (.int _)], [.int _], _)) rfl (u_ rfl) ?_
  refine w_t (pc := 19) (e_s := (3, 1, 0, 0, 0, .null, [])) (y_s := (20, [some (.ref _), some (.ref _), some (.ref _), some (.int _)], [.ref _, .int _], _)) rfl (u_ rfl) ?_
  refine w28x (pc := 20) (len_s := 1) rfl (fun n1_s => ?_)
  replace t_s := t_s n1_s
  refine w_t (pc := 21) (e_s := (0, 2, 0, 0, 0, .int 6, [])) (y_s := (23, [some (.ref _), some (.ref _), some (.ref _), some (.int _)], [.int _, .int _, .int _], _)) rfl (u_ rfl) ?_
  refine w_t (pc := 23) (e_s := (7, 1, 0, 1, 0, .null, [])) (y_s := (24, [some (.ref _), some (.ref _), some (.ref _), some (.int _)], [.int (_ - _), .int _], _)) rfl (u_ rfl) ?_
  refine wi4 (pc := 24) (len_s := 3) rfl rfl rfl (fun c2_s => ?_) (fun c2_s => ?_)
  · replace t_s := t_s.1 c2_s
    refine w_t (pc := 1420) (e_s := (0, 1, 0, 0, 0, .int 1, [])) (y_s := (1421, [some (.ref _), some (.ref _), some (.ref _), some (.int _)], [.int _], _)) rfl (u_ rfl) ?_
    exact wrI (pc := 1421) (len_s := 1) rfl hk t_s
  · replace t_s := t_s.2 c2_s
    refine w_t (pc := 27) (e_s := (3, 1, 0, 0, 0, .null, [])) (y_s := (28, [some (.ref _), some (.ref _), some (.ref _), some (.int _)], [.ref _], _)) rfl (u_ rfl) ?_
    refine w_t (pc := 28) (e_s := (1, 1, 3, 0, 0, .null, [])) (y_s := (29, [some (.ref _), some (.ref _), some (.ref _), some (.int _)], [.int _, .ref _], _)) rfl (u_ rfl) ?_
    refine w22x (pc := 29) (len_s := 1) rfl ?_
    refine w_t (pc := 30) (e_s := (0, 2, 0, 0, 0, .int 63, [])) (y_s := (32, [some (.ref _), some (.ref _), some (.ref _), some (.int _)], [.int _, .int _], _)) rfl (u_ rfl) ?_
    refine w_t (pc := 32) (e_s := (7, 1, 0, 3, 0, .null, [])) (y_s := (33, [some (.ref _), some (.ref _), some (.ref _), some (.int _)], [.int (_ &&& _)], _)) rfl (u_ rfl) ?_
    refine wsw (pc := 33) (len_s := 167) rfl ?_
    refine wsc (X_s := 0) rfl (by decide) (fun c3_s => ?_) (fun c3_s => ?_)
    · replace t_s := t_s.1 c3_s
      exact t_s
    · replace t_s := t_s.2 c3_s
      refine wsc (X_s := 1) rfl (by decide) (fun c4_s => ?_) (fun c4_s => ?_)
      · replace t_s := t_s.1 c4_s
        exact t_s
      · replace t_s := t_s.2 c4_s
        refine wsc (X_s := 2) rfl (by decide) (fun c5_s => ?_) (fun c5_s => ?_)
        · replace t_s := t_s.1 c5_s
          exact t_s
        · replace t_s := t_s.2 c5_s
          refine wsc (X_s := 3) rfl (by decide) (fun c6_s => ?_) (fun c6_s => ?_)
          · replace t_s := t_s.1 c6_s
            exact t_s
          · replace t_s := t_s.2 c6_s
            refine wsc (X_s := 4) rfl (by decide) (fun c7_s => ?_) (fun c7_s => ?_)
            · replace t_s := t_s.1 c7_s
              exact t_s
            · replace t_s := t_s.2 c7_s
              refine wsc (X_s := 5) rfl (by decide) (fun c8_s => ?_) (fun c8_s => ?_)
              · replace t_s := t_s.1 c8_s
                exact t_s
              · replace t_s := t_s.2 c8_s
                refine wsc (X_s := 6) rfl (by decide) (fun c9_s => ?_) (fun c9_s => ?_)
                · replace t_s := t_s.1 c9_s
                  exact t_s
                · replace t_s := t_s.2 c9_s
                  refine wsc (X_s := 7) rfl (by decide) (fun c10_s => ?_) (fun c10_s => ?_)
                  · replace t_s := t_s.1 c10_s
                    exact t_s
                  · replace t_s := t_s.2 c10_s
                    refine wsc (X_s := 8) rfl (by decide) (fun c11 => ?_) (fun c11 => ?_)
                    · replace t_s := t_s.1 c11
                      exact t_s
                    · replace t_s := t_s.2 c11
                      refine wsc (X_s := 9) rfl (by decide) (fun c12_s => ?_) (fun c12_s => ?_)
                      · replace t_s := t_s.1 c12_s
                        exact t_s
                      · replace t_s := t_s.2 c12_s
                        refine wsc (X_s := 10) rfl (by decide) (fun c13_s => ?_) (fun c13_s => ?_)
                        · replace t_s := t_s.1 c13_s
                          exact t_s
                        · replace t_s := t_s.2 c13_s
                          refine wsc (X_s := 11) rfl (by decide) (fun c14_s => ?_) (fun c14_s => ?_)
                          · replace t_s := t_s.1 c14_s
                            exact t_s
                          · replace t_s := t_s.2 c14_s
                            refine wsc (X_s := 12) rfl (by decide) (fun c15_s => ?_) (fun c15_s => ?_)
                            · replace t_s := t_s.1 c15_s
                              exact t_s
                            · replace t_s := t_s.2 c15_s
                              refine wsc (X_s := 13) rfl (by decide) (fun c16 => ?_) (fun c16 => ?_)
                              · replace t_s := t_s.1 c16
                                exact t_s
                              · replace t_s := t_s.2 c16
                                refine wsc (X_s := 14) rfl (by decide) (fun c17 => ?_) (fun c17 => ?_)
                                · replace t_s := t_s.1 c17
                                  exact t_s
                                · replace t_s := t_s.2 c17
                                  refine wsc (X_s := 15) rfl (by decide) (fun c18_s => ?_) (fun c18_s => ?_)
                                  · replace t_s := t_s.1 c18_s
                                    exact t_s
                                  · replace t_s := t_s.2 c18_s
                                    refine wsc (X_s := 16) rfl (by decide) (fun c19_s => ?_) (fun c19_s => ?_)
                                    · replace t_s := t_s.1 c19_s
                                      exact t_s
                                    · replace t_s := t_s.2 c19_s
                                      refine wsc (X_s := 17) rfl (by decide) (fun c20_s => ?_) (fun c20_s => ?_)
                                      · replace t_s := t_s.1 c20_s
                                        exact t_s
                                      · replace t_s := t_s.2 c20_s
                                        refine wsc (X_s := 18) rfl (by decide) (fun c21 => ?_) (fun c21 => ?_)
                                        · replace t_s := t_s.1 c21
                                          exact t_s
                                        · replace t_s := t_s.2 c21
                                          refine wsc (X_s := 19) rfl (by decide) (fun c22 => ?_) (fun c22 => ?_)
                                          · replace t_s := t_s.1 c22
                                            exact t_s
                                          · replace t_s := t_s.2 c22
                                            refine wsc (X_s := 20) rfl (by decide) (fun c23_s => ?_) (fun c23_s => ?_)
                                            · replace t_s := t_s.1 c23_s
                                              exact t_s
                                            · replace t_s := t_s.2 c23_s
                                              refine wsc (X_s := 21) rfl (by decide) (fun c24_s => ?_) (fun c24_s => ?_)
                                              · replace t_s := t_s.1 c24_s
                                                exact t_s
                                              · replace t_s := t_s.2 c24_s
                                                refine wsc (X_s := 22) rfl (by decide) (fun c25_s => ?_) (fun c25_s => ?_)
                                                · replace t_s := t_s.1 c25_s
                                                  exact t_s
                                                · replace t_s := t_s.2 c25_s
                                                  refine wsc (X_s := 23) rfl (by decide) (fun c26 => ?_) (fun c26 => ?_)
                                                  · replace t_s := t_s.1 c26
                                                    exact t_s
                                                  · replace t_s := t_s.2 c26
                                                    refine wsc (X_s := 24) rfl (by decide) (fun c27_s => ?_) (fun c27_s => ?_)
                                                    · replace t_s := t_s.1 c27_s
                                                      exact t_s
                                                    · replace t_s := t_s.2 c27_s
                                                      refine wsc (X_s := 25) rfl (by decide) (fun c28_s => ?_) (fun c28_s => ?_)
                                                      · replace t_s := t_s.1 c28_s
                                                        exact t_s
                                                      · replace t_s := t_s.2 c28_s
                                                        refine wsc (X_s := 26) rfl (by decide) (fun c29_s => ?_) (fun c29_s => ?_)
                                                        · replace t_s := t_s.1 c29_s
                                                          exact t_s
                                                        · replace t_s := t_s.2 c29_s
                                                          refine wsc (X_s := 27) rfl (by decide) (fun c30_s => ?_) (fun c30_s => ?_)
                                                          · replace t_s := t_s.1 c30_s
                                                            exact t_s
                                                          · replace t_s := t_s.2 c30_s
                                                            refine wsc (X_s := 28) rfl (by decide) (fun c31_s => ?_) (fun c31_s => ?_)
                                                            · replace t_s := t_s.1 c31_s
                                                              exact t_s
                                                            · replace t_s := t_s.2 c31_s
                                                              refine wsc (X_s := 29) rfl (by decide) (fun c32_s => ?_) (fun c32_s => ?_)
                                                              · replace t_s := t_s.1 c32_s
                                                                exact t_s
                                                              · replace t_s := t_s.2 c32_s
                                                                refine wsc (X_s := 30) rfl (by decide) (fun c33_s => ?_) (fun c33_s => ?_)
                                                                · replace t_s := t_s.1 c33_s
                                                                  exact t_s
                                                                · replace t_s := t_s.2 c33_s
                                                                  refine wsc (X_s := 31) rfl (by decide) (fun c34_s => ?_) (fun c34_s => ?_)
                                                                  · replace t_s := t_s.1 c34_s
                                                                    exact t_s
                                                                  · replace t_s := t_s.2 c34_s
                                                                    refine wsc (X_s := 32) rfl (by decide) (fun c35_s => ?_) (fun c35_s => ?_)
                                                                    · replace t_s := t_s.1 c35_s
                                                                      exact t_s
                                                                    · replace t_s := t_s.2 c35_s
                                                                      refine wsc (X_s := 33) rfl (by decide) (fun c36_s => ?_) (fun c36_s => ?_)
                                                                      · replace t_s := t_s.1 c36_s
                                                                        exact t_s
                                                                      · replace t_s := t_s.2 c36_s
                                                                        refine wsc (X_s := 34) rfl (by decide) (fun c37 => ?_) (fun c37 => ?_)
                                                                        · replace t_s := t_s.1 c37
                                                                          exact t_s
                                                                        · replace t_s := t_s.2 c37
                                                                          refine wsc (X_s := 35) rfl (by decide) (fun c38 => ?_) (fun c38 => ?_)
                                                                          · replace t_s := t_s.1 c38
                                                                            exact t_s
                                                                          · replace t_s := t_s.2 c38
                                                                            refine wsc (X_s := 36) rfl (by decide) (fun c39_s => ?_) (fun c39_s => ?_)
                                                                            · replace t_s := t_s.1 c39_s
                                                                              exact t_s
                                                                            · replace t_s := t_s.2 c39_s
                                                                              refine wsc (X_s := 37) rfl (by decide) (fun c40_s => ?_) (fun c40_s => ?_)
                                                                              · replace t_s := t_s.1 c40_s
                                                                                exact t_s
                                                                              · replace t_s := t_s.2 c40_s
                                                                                show wF _ _ (1414, _, _, _) _
                                                                                refine w_t (pc := 1414) (e_s := (19, 3, 3, 0, 0, .int 6, [])) (y_s := (1417, [some (.ref _), some (.ref _), some (.ref _), some (.int _)], [], _)) rfl (u_ rfl) ?_
                                                                                refine w_t (pc := 1417) (e_s := (17, 3, 18, 0, 0, .null, [])) (y_s := (18, [some (.ref _), some (.ref _), some (.ref _), some (.int _)], [], _)) rfl (u_ rfl) ?_
                                                                                exact t_s
theorem sg_241_200 {F_s : Nat} {x3 : Int32} {h_s : zH} {K_s : Int32 → zH → Prop} (hk : hKn h_s) (t_s : wF F_s 93 (0, [some (.ref 6), some (.int (h_s.2.1 0 (zix (x3 + 1))))], [], h_s) (gI (fun v1_s h1 => hKn h1 → wF F_s 155 (0, [some (.ref 102), some (.int (h1.2.1 0 (zix (x3 + 1))))], [], h1) (gI (fun v2 h2 => hKn h2 → wF F_s 241 (18, [some (.ref 0), some (.ref 6), some (.ref 102), some (.int (x3 + 6))], [], h2) (gI K_s)))))) : wF (F_s + 1) 241 (200, [some (.ref 0), some (.ref 6), some (.ref 102), some (.int x3)], [], h_s) (gI K_s) := by
  refine w_0 (pc := 200) (e_s := (3, 1, 1, 0, 0, .null, [])) (y_s := (201, [some (.ref _), some (.ref _), some (.ref _), some (.int _)], [.ref _], _)) rfl (u_ rfl) ?_
  refine w_t (pc := 201) (e_s := (3, 1, 0, 0, 0, .null, [])) (y_s := (202, [some (.ref _), some (.ref _), some (.ref _), some (.int _)], [.ref _, .ref _], _)) rfl (u_ rfl) ?_
  refine w_t (pc := 202) (e_s := (1, 1, 3, 0, 0, .null, [])) (y_s := (203, [some (.ref _), some (.ref _), some (.ref _), some (.int _)], [.int _, .ref _, .ref _], _)) rfl (u_ rfl) ?_
  refine w_t (pc := 203) (e_s := (0, 1, 0, 0, 0, .int 1, [])) (y_s := (204, [some (.ref _), some (.ref _), some (.ref _), some (.int _)], [.int _, .int _, .ref _, .ref _], _)) rfl (u_ rfl) ?_
  refine w_t (pc := 204) (e_s := (7, 1, 0, 0, 0, .null, [])) (y_s := (205, [some (.ref _), some (.ref _), some (.ref _), some (.int _)], [.int (_ + _), .ref _, .ref _], _)) rfl (u_ rfl) ?_
  refine w22x (pc := 205) (len_s := 1) rfl ?_
  refine wcI (pc := 206) (len_s := 3) rfl rfl (l := [some (.ref _), some (.int _)]) rfl (wmI t_s (fun v1_s h1 hk t_s => ?_))
  replace t_s := t_s hk
  refine w_t (pc := 209) (e_s := (42, 1, 0, 0, 0, .null, [])) (y_s := (210, [some (.ref _), some (.ref _), some (.ref _), some (.int _)], [], _)) rfl (u_ rfl) ?_
  refine w_t (pc := 210) (e_s := (3, 1, 2, 0, 0, .null, [])) (y_s := (211, [some (.ref _), some (.ref _), some (.ref _), some (.int _)], [.ref _], _)) rfl (u_ rfl) ?_
  refine w_t (pc := 211) (e_s := (3, 1, 0, 0, 0, .null, [])) (y_s := (212, [some (.ref _), some (.ref _), some (.ref _), some (.int _)], [.ref _, .ref _], _)) rfl (u_ rfl) ?_
  refine w_t (pc := 212) (e_s := (1, 1, 3, 0, 0, .null, [])) (y_s := (213, [some (.ref _), some (.ref _), some (.ref _), some (.int _)], [.int _, .ref _, .ref _], _)) rfl (u_ rfl) ?_
  refine w_t (pc := 213) (e_s := (0, 1, 0, 0, 0, .int 1, [])) (y_s := (214, [some (.ref _), some (.ref _), some (.ref _), some (.int _)], [.int _, .int _, .ref _, .ref _], _)) rfl (u_ rfl) ?_
  refine w_t (pc := 214) (e_s := (7, 1, 0, 0, 0, .null, [])) (y_s := (215, [some (.ref _), some (.ref _), some (.ref _), some (.int _)], [.int (_ + _), .ref _, .ref _], _)) rfl (u_ rfl) ?_
  refine w22x (pc := 215) (len_s := 1) rfl ?_
  refine wcI (pc := 216) (len_s := 3) rfl rfl (l := [some (.ref _), some (.int _)]) rfl (wmI t_s (fun v2 h2 hk t_s => ?_))
  replace t_s := t_s hk
  refine w_t (pc := 219) (e_s := (42, 1, 0, 0, 0, .null, [])) (y_s := (220, [some (.ref _), some (.ref _), some (.ref _), some (.int _)], [], _)) rfl (u_ rfl) ?_
  refine w_t (pc := 220) (e_s := (17, 3, 1414, 0, 0, .null, [])) (y_s := (1414, [some (.ref _), some (.ref _), some (.ref _), some (.int _)], [], _)) rfl (u_ rfl) ?_
  refine w_t (pc := 1414) (e_s := (19, 3, 3, 0, 0, .int 6, [])) (y_s := (1417, [some (.ref _), some (.ref _), some (.ref _), some (.int _)], [], _)) rfl (u_ rfl) ?_
  refine w_t (pc := 1417) (e_s := (17, 3, 18, 0, 0, .null, [])) (y_s := (18, [some (.ref _), some (.ref _), some (.ref _), some (.int _)], [], _)) rfl (u_ rfl) ?_
  exact t_s
theorem sg_241_223 {F_s : Nat} {x3 : Int32} {h_s : zH} {K_s : Int32 → zH → Prop} (hk : hKn h_s) (t_s : wF F_s 94 (0, [some (.ref 6), some (.int (h_s.2.1 0 (zix (x3 + 1)))), some (.int (h_s.2.1 0 (zix (x3 + 2)))), none], [], h_s) (gI (fun v1_s h1 => hKn h1 → wF F_s 156 (0, [some (.ref 102), some (.int (h1.2.1 0 (zix (x3 + 1)))), some (.int (h1.2.1 0 (zix (x3 + 2))))], [], h1) (gI (fun v2 h2 => hKn h2 → wF F_s 241 (18, [some (.ref 0), some (.ref 6), some (.ref 102), some (.int (x3 + 6))], [], h2) (gI K_s)))))) : wF (F_s + 1) 241 (223, [some (.ref 0), some (.ref 6), some (.ref 102), some (.int x3)], [], h_s) (gI K_s) := by
  refine w_0 (pc := 223) (e_s := (3, 1, 1, 0, 0, .null, [])) (y_s := (224, [some (.ref _), some (.ref _), some (.ref _), some (.int _)], [.ref _], _)) rfl (u_ rfl) ?_
  refine w_t (pc := 224) (e_s := (3, 1, 0, 0, 0, .null, [])) (y_s := (225, [some (.ref _), some (.ref _), some (.ref _), some (.int _)], [.ref _, .ref _], _)) rfl (u_ rfl) ?_
  refine w_t (pc := 225) (e_s := (1, 1, 3, 0, 0, .null, [])) (y_s := (226, [some (.ref _), some (.ref _), some (.ref _), some (.int _)], [.int _, .ref _, .ref _], _)) rfl (u_ rfl) ?_
  refine w_t (pc := 226) (e_s := (0, 1, 0, 0, 0, .int 1, [])) (y_s := (227, [some (.ref _), some (.ref _), some (.ref _), some (.int _)], [.int _, .int _, .ref _, .ref _], _)) rfl (u_ rfl) ?_
  refine w_t (pc := 227) (e_s := (7, 1, 0, 0, 0, .null, [])) (y_s := (228, [some (.ref _), some (.ref _), some (.ref _), some (.int _)], [.int (_ + _), .ref _, .ref _], _)) rfl (u_ rfl) ?_
  refine w22x (pc := 228) (len_s := 1) rfl ?_
  refine w_t (pc := 229) (e_s := (3, 1, 0, 0, 0, .null, [])) (y_s := (230, [some (.ref _), some (.ref _), some (.ref _), some (.int _)], [.ref _, .int _, .ref _], _)) rfl (u_ rfl) ?_
  refine w_t (pc := 230) (e_s := (1, 1, 3, 0, 0, .null, [])) (y_s := (231, [some (.ref _), some (.ref _), some (.ref _), some (.int _)], [.int _, .ref _, .int _, .ref _], _)) rfl (u_ rfl) ?_
  refine w_t (pc := 231) (e_s := (0, 1, 0, 0, 0, .int 2, [])) (y_s := (232, [some (.ref _), some (.ref _), some (.ref _), some (.int _)], [.int _, .int _, .ref _, .int _, .ref _], _)) rfl (u_ rfl) ?_
  refine w_t (pc := 232) (e_s := (7, 1, 0, 0, 0, .null, [])) (y_s := (233, [some (.ref _), some (.ref _), some (.ref _), some (.int _)], [.int (_ + _), .ref _, .int _, .ref _], _)) rfl (u_ rfl) ?_
  refine w22x (pc := 233) (len_s := 1) rfl ?_
  refine wcI (pc := 234) (len_s := 3) rfl rfl (l := [some (.ref _), some (.int _), some (.int _), none]) rfl (wmI t_s (fun v1_s h1 hk t_s => ?_))
  replace t_s := t_s hk
  refine w_t (pc := 237) (e_s := (42, 1, 0, 0, 0, .null, [])) (y_s := (238, [some (.ref _), some (.ref _), some (.ref _), some (.int _)], [], _)) rfl (u_ rfl) ?_
  refine w_t (pc := 238) (e_s := (3, 1, 2, 0, 0, .null, [])) (y_s := (239, [some (.ref _), some (.ref _), some (.ref _), some (.int _)], [.ref _], _)) rfl (u_ rfl) ?_
  refine w_t (pc := 239) (e_s := (3, 1, 0, 0, 0, .null, [])) (y_s := (240, [some (.ref _), some (.ref _), some (.ref _), some (.int _)], [.ref _, .ref _], _)) rfl (u_ rfl) ?_
  refine w_t (pc := 240) (e_s := (1, 1, 3, 0, 0, .null, [])) (y_s := (241, [some (.ref _), some (.ref _), some (.ref _), some (.int _)], [.int _, .ref _, .ref _], _)) rfl (u_ rfl) ?_
  refine w_t (pc := 241) (e_s := (0, 1, 0, 0, 0, .int 1, [])) (y_s := (242, [some (.ref _), some (.ref _), some (.ref _), some (.int _)], [.int _, .int _, .ref _, .ref _], _)) rfl (u_ rfl) ?_
  refine w_t (pc := 242) (e_s := (7, 1, 0, 0, 0, .null, [])) (y_s := (243, [some (.ref _), some (.ref _), some (.ref _), some (.int _)], [.int (_ + _), .ref _, .ref _], _)) rfl (u_ rfl) ?_
  refine w22x (pc := 243) (len_s := 1) rfl ?_
  refine w_t (pc := 244) (e_s := (3, 1, 0, 0, 0, .null, [])) (y_s := (245, [some (.ref _), some (.ref _), some (.ref _), some (.int _)], [.ref _, .int _, .ref _], _)) rfl (u_ rfl) ?_
  refine w_t (pc := 245) (e_s := (1, 1, 3, 0, 0, .null, [])) (y_s := (246, [some (.ref _), some (.ref _), some (.ref _), some (.int _)], [.int _, .ref _, .int _, .ref _], _)) rfl (u_ rfl) ?_
  refine w_t (pc := 246) (e_s := (0, 1, 0, 0, 0, .int 2, [])) (y_s := (247, [some (.ref _), some (.ref _), some (.ref _), some (.int _)], [.int _, .int _, .ref _, .int _, .ref _], _)) rfl (u_ rfl) ?_
  refine w_t (pc := 247) (e_s := (7, 1, 0, 0, 0, .null, [])) (y_s := (248, [some (.ref _), some (.ref _), some (.ref _), some (.int _)], [.int (_ + _), .ref _, .int _, .ref _], _)) rfl (u_ rfl) ?_
  refine w22x (pc := 248) (len_s := 1) rfl ?_
  refine wcI (pc := 249) (len_s := 3) rfl rfl (l := [some (.ref _), some (.int _), some (.int _)]) rfl (wmI t_s (fun v2 h2 hk t_s => ?_))
  replace t_s := t_s hk
  refine w_t (pc := 252) (e_s := (42, 1, 0, 0, 0, .null, [])) (y_s := (253, [some (.ref _), some (.ref _), some (.ref _), some (.int _)], [], _)) rfl (u_ rfl) ?_
  refine w_t (pc := 253) (e_s := (17, 3, 1414, 0, 0, .null, [])) (y_s := (1414, [some (.ref _), some (.ref _), some (.ref _), some (.int _)], [], _)) rfl (u_ rfl) ?_
  refine w_t (pc := 1414) (e_s := (19, 3, 3, 0, 0, .int 6, [])) (y_s := (1417, [some (.ref _), some (.ref _), some (.ref _), some (.int _)], [], _)) rfl (u_ rfl) ?_
  refine w_t (pc := 1417) (e_s := (17, 3, 18, 0, 0, .null, [])) (y_s := (18, [some (.ref _), some (.ref _), some (.ref _), some (.int _)], [], _)) rfl (u_ rfl) ?_
  exact t_s
theorem sg_241_256 {F_s : Nat} {x3 : Int32} {h_s : zH} {K_s : Int32 → zH → Prop} (hk : hKn h_s) (t_s : wF F_s 95 (0, [some (.ref 6), some (.int (h_s.2.1 0 (zix (x3 + 1)))), some (.int (h_s.2.1 0 (zix (x3 + 2))))], [], h_s) (gI (fun v1_s h1 => hKn h1 → wF F_s 159 (0, [some (.ref 102), some (.int (h1.2.1 0 (zix (x3 + 1)))), some (.int (h1.2.1 0 (zix (x3 + 2))))], [], h1) (gI (fun v2 h2 => hKn h2 → wF F_s 241 (18, [some (.ref 0), some (.ref 6), some (.ref 102), some (.int (x3 + 6))], [], h2) (gI K_s)))))) : wF (F_s + 1) 241 (256, [some (.ref 0), some (.ref 6), some (.ref 102), some (.int x3)], [], h_s) (gI K_s) := by
  refine w_0 (pc := 256) (e_s := (3, 1, 1, 0, 0, .null, [])) (y_s := (257, [some (.ref _), some (.ref _), some (.ref _), some (.int _)], [.ref _], _)) rfl (u_ rfl) ?_
  refine w_t (pc := 257) (e_s := (3, 1, 0, 0, 0, .null, [])) (y_s := (258, [some (.ref _), some (.ref _), some (.ref _), some (.int _)], [.ref _, .ref _], _)) rfl (u_ rfl) ?_
  refine w_t (pc := 258) (e_s := (1, 1, 3, 0, 0, .null, [])) (y_s := (259, [some (.ref _), some (.ref _), some (.ref _), some (.int _)], [.int _, .ref _, .ref _], _)) rfl (u_ rfl) ?_
  refine w_t (pc := 259) (e_s := (0, 1, 0, 0, 0, .int 1, [])) (y_s := (260, [some (.ref _), some (.ref _), some (.ref _), some (.int _)], [.int _, .int _, .ref _, .ref _], _)) rfl (u_ rfl) ?_
  refine w_t (pc := 260) (e_s := (7, 1, 0, 0, 0, .null, [])) (y_s := (261, [some (.ref _), some (.ref _), some (.ref _), some (.int _)], [.int (_ + _), .ref _, .ref _], _)) rfl (u_ rfl) ?_
  refine w22x (pc := 261) (len_s := 1) rfl ?_
  refine w_t (pc := 262) (e_s := (3, 1, 0, 0, 0, .null, [])) (y_s := (263, [some (.ref _), some (.ref _), some (.ref _), some (.int _)], [.ref _, .int _, .ref _], _)) rfl (u_ rfl) ?_
  refine w_t (pc := 263) (e_s := (1, 1, 3, 0, 0, .null, [])) (y_s := (264, [some (.ref _), some (.ref _), some (.ref _), some (.int _)], [.int _, .ref _, .int _, .ref _], _)) rfl (u_ rfl) ?_
  refine w_t (pc := 264) (e_s := (0, 1, 0, 0, 0, .int 2, [])) (y_s := (265, [some (.ref _), some (.ref _), some (.ref _), some (.int _)], [.int _, .int _, .ref _, .int _, .ref _], _)) rfl (u_ rfl) ?_
  refine w_t (pc := 265) (e_s := (7, 1, 0, 0, 0, .null, [])) (y_s := (266, [some (.ref _), some (.ref _), some (.ref _), some (.int _)], [.int (_ + _), .ref _, .int _, .ref _], _)) rfl (u_ rfl) ?_
  refine w22x (pc := 266) (len_s := 1) rfl ?_
  refine wcI (pc := 267) (len_s := 3) rfl rfl (l := [some (.ref _), some (.int _), some (.int _)]) rfl (wmI t_s (fun v1_s h1 hk t_s => ?_))
  replace t_s := t_s hk
  refine w_t (pc := 270) (e_s := (42, 1, 0, 0, 0, .null, [])) (y_s := (271, [some (.ref _), some (.ref _), some (.ref _), some (.int _)], [], _)) rfl (u_ rfl) ?_
  refine w_t (pc := 271) (e_s := (3, 1, 2, 0, 0, .null, [])) (y_s := (272, [some (.ref _), some (.ref _), some (.ref _), some (.int _)], [.ref _], _)) rfl (u_ rfl) ?_
  refine w_t (pc := 272) (e_s := (3, 1, 0, 0, 0, .null, [])) (y_s := (273, [some (.ref _), some (.ref _), some (.ref _), some (.int _)], [.ref _, .ref _], _)) rfl (u_ rfl) ?_
  refine w_t (pc := 273) (e_s := (1, 1, 3, 0, 0, .null, [])) (y_s := (274, [some (.ref _), some (.ref _), some (.ref _), some (.int _)], [.int _, .ref _, .ref _], _)) rfl (u_ rfl) ?_
  refine w_t (pc := 274) (e_s := (0, 1, 0, 0, 0, .int 1, [])) (y_s := (275, [some (.ref _), some (.ref _), some (.ref _), some (.int _)], [.int _, .int _, .ref _, .ref _], _)) rfl (u_ rfl) ?_
  refine w_t (pc := 275) (e_s := (7, 1, 0, 0, 0, .null, [])) (y_s := (276, [some (.ref _), some (.ref _), some (.ref _), some (.int _)], [.int (_ + _), .ref _, .ref _], _)) rfl (u_ rfl) ?_
  refine w22x (pc := 276) (len_s := 1) rfl ?_
  refine w_t (pc := 277) (e_s := (3, 1, 0, 0, 0, .null, [])) (y_s := (278, [some (.ref _), some (.ref _), some (.ref _), some (.int _)], [.ref _, .int _, .ref _], _)) rfl (u_ rfl) ?_
  refine w_t (pc := 278) (e_s := (1, 1, 3, 0, 0, .null, [])) (y_s := (279, [some (.ref _), some (.ref _), some (.ref _), some (.int _)], [.int _, .ref _, .int _, .ref _], _)) rfl (u_ rfl) ?_
  refine w_t (pc := 279) (e_s := (0, 1, 0, 0, 0, .int 2, [])) (y_s := (280, [some (.ref _), some (.ref _), some (.ref _), some (.int _)], [.int _, .int _, .ref _, .int _, .ref _], _)) rfl (u_ rfl) ?_
  refine w_t (pc := 280) (e_s := (7, 1, 0, 0, 0, .null, [])) (y_s := (281, [some (.ref _), some (.ref _), some (.ref _), some (.int _)], [.int (_ + _), .ref _, .int _, .ref _], _)) rfl (u_ rfl) ?_
  refine w22x (pc := 281) (len_s := 1) rfl ?_
  refine wcI (pc := 282) (len_s := 3) rfl rfl (l := [some (.ref _), some (.int _), some (.int _)]) rfl (wmI t_s (fun v2 h2 hk t_s => ?_))
  replace t_s := t_s hk
  refine w_t (pc := 285) (e_s := (42, 1, 0, 0, 0, .null, [])) (y_s := (286, [some (.ref _), some (.ref _), some (.ref _), some (.int _)], [], _)) rfl (u_ rfl) ?_
  refine w_t (pc := 286) (e_s := (17, 3, 1414, 0, 0, .null, [])) (y_s := (1414, [some (.ref _), some (.ref _), some (.ref _), some (.int _)], [], _)) rfl (u_ rfl) ?_
  refine w_t (pc := 1414) (e_s := (19, 3, 3, 0, 0, .int 6, [])) (y_s := (1417, [some (.ref _), some (.ref _), some (.ref _), some (.int _)], [], _)) rfl (u_ rfl) ?_
  refine w_t (pc := 1417) (e_s := (17, 3, 18, 0, 0, .null, [])) (y_s := (18, [some (.ref _), some (.ref _), some (.ref _), some (.int _)], [], _)) rfl (u_ rfl) ?_
  exact t_s
theorem sg_241_289 {F_s : Nat} {x3 : Int32} {h_s : zH} {K_s : Int32 → zH → Prop} (hk : hKn h_s) (t_s : wF F_s 96 (0, [some (.ref 6), some (.int (h_s.2.1 0 (zix (x3 + 1)))), some (.int (h_s.2.1 0 (zix (x3 + 2)))), some (.int (h_s.2.1 0 (zix (x3 + 3)))), none, none, none], [], h_s) (gI (fun v1_s h1 => hKn h1 → wF F_s 160 (0, [some (.ref 102), some (.int (h1.2.1 0 (zix (x3 + 1)))), some (.int (h1.2.1 0 (zix (x3 + 2)))), some (.int (h1.2.1 0 (zix (x3 + 3)))), none, none, none], [], h1) (gI (fun v2 h2 => hKn h2 → wF F_s 241 (18, [some (.ref 0), some (.ref 6), some (.ref 102), some (.int (x3 + 6))], [], h2) (gI K_s)))))) : wF (F_s + 1) 241 (289, [some (.ref 0), some (.ref 6), some (.ref 102), some (.int x3)], [], h_s) (gI K_s) := by
  refine w_0 (pc := 289) (e_s := (3, 1, 1, 0, 0, .null, [])) (y_s := (290, [some (.ref _), some (.ref _), some (.ref _), some (.int _)], [.ref _], _)) rfl (u_ rfl) ?_
  refine w_t (pc := 290) (e_s := (3, 1, 0, 0, 0, .null, [])) (y_s := (291, [some (.ref _), some (.ref _), some (.ref _), some (.int _)], [.ref _, .ref _], _)) rfl (u_ rfl) ?_
  refine w_t (pc := 291) (e_s := (1, 1, 3, 0, 0, .null, [])) (y_s := (292, [some (.ref _), some (.ref _), some (.ref _), some (.int _)], [.int _, .ref _, .ref _], _)) rfl (u_ rfl) ?_
  refine w_t (pc := 292) (e_s := (0, 1, 0, 0, 0, .int 1, [])) (y_s := (293, [some (.ref _), some (.ref _), some (.ref _), some (.int _)], [.int _, .int _, .ref _, .ref _], _)) rfl (u_ rfl) ?_
  refine w_t (pc := 293) (e_s := (7, 1, 0, 0, 0, .null, [])) (y_s := (294, [some (.ref _), some (.ref _), some (.ref _), some (.int _)], [.int (_ + _), .ref _, .ref _], _)) rfl (u_ rfl) ?_
  refine w22x (pc := 294) (len_s := 1) rfl ?_
  refine w_t (pc := 295) (e_s := (3, 1, 0, 0, 0, .null, [])) (y_s := (296, [some (.ref _), some (.ref _), some (.ref _), some (.int _)], [.ref _, .int _, .ref _], _)) rfl (u_ rfl) ?_
  refine w_t (pc := 296) (e_s := (1, 1, 3, 0, 0, .null, [])) (y_s := (297, [some (.ref _), some (.ref _), some (.ref _), some (.int _)], [.int _, .ref _, .int _, .ref _], _)) rfl (u_ rfl) ?_
  refine w_t (pc := 297) (e_s := (0, 1, 0, 0, 0, .int 2, [])) (y_s := (298, [some (.ref _), some (.ref _), some (.ref _), some (.int _)], [.int _, .int _, .ref _, .int _, .ref _], _)) rfl (u_ rfl) ?_
  refine w_t (pc := 298) (e_s := (7, 1, 0, 0, 0, .null, [])) (y_s := (299, [some (.ref _), some (.ref _), some (.ref _), some (.int _)], [.int (_ + _), .ref _, .int _, .ref _], _)) rfl (u_ rfl) ?_
  refine w22x (pc := 299) (len_s := 1) rfl ?_
  refine w_t (pc := 300) (e_s := (3, 1, 0, 0, 0, .null, [])) (y_s := (301, [some (.ref _), some (.ref _), some (.ref _), some (.int _)], [.ref _, .int _, .int _, .ref _], _)) rfl (u_ rfl) ?_
  refine w_t (pc := 301) (e_s := (1, 1, 3, 0, 0, .null, [])) (y_s := (302, [some (.ref _), some (.ref _), some (.ref _), some (.int _)], [.int _, .ref _, .int _, .int _, .ref _], _)) rfl (u_ rfl) ?_
  refine w_t (pc := 302) (e_s := (0, 1, 0, 0, 0, .int 3, [])) (y_s := (303, [some (.ref _), some (.ref _), some (.ref _), some (.int _)], [.int _, .int _, .ref _, .int _, .int _, .ref _], _)) rfl (u_ rfl) ?_
  refine w_t (pc := 303) (e_s := (7, 1, 0, 0, 0, .null, [])) (y_s := (304, [some (.ref _), some (.ref _), some (.ref _), some (.int _)], [.int (_ + _), .ref _, .int _, .int _, .ref _], _)) rfl (u_ rfl) ?_
  refine w22x (pc := 304) (len_s := 1) rfl ?_
  refine wcI (pc := 305) (len_s := 3) rfl rfl (l := [some (.ref _), some (.int _), some (.int _), some (.int _), none, none, none]) rfl (wmI t_s (fun v1_s h1 hk t_s => ?_))
  replace t_s := t_s hk
  refine w_t (pc := 308) (e_s := (42, 1, 0, 0, 0, .null, [])) (y_s := (309, [some (.ref _), some (.ref _), some (.ref _), some (.int _)], [], _)) rfl (u_ rfl) ?_
  refine w_t (pc := 309) (e_s := (3, 1, 2, 0, 0, .null, [])) (y_s := (310, [some (.ref _), some (.ref _), some (.ref _), some (.int _)], [.ref _], _)) rfl (u_ rfl) ?_
  refine w_t (pc := 310) (e_s := (3, 1, 0, 0, 0, .null, [])) (y_s := (311, [some (.ref _), some (.ref _), some (.ref _), some (.int _)], [.ref _, .ref _], _)) rfl (u_ rfl) ?_
  refine w_t (pc := 311) (e_s := (1, 1, 3, 0, 0, .null, [])) (y_s := (312, [some (.ref _), some (.ref _), some (.ref _), some (.int _)], [.int _, .ref _, .ref _], _)) rfl (u_ rfl) ?_
  refine w_t (pc := 312) (e_s := (0, 1, 0, 0, 0, .int 1, [])) (y_s := (313, [some (.ref _), some (.ref _), some (.ref _), some (.int _)], [.int _, .int _, .ref _, .ref _], _)) rfl (u_ rfl) ?_
  refine w_t (pc := 313) (e_s := (7, 1, 0, 0, 0, .null, [])) (y_s := (314, [some (.ref _), some (.ref _), some (.ref _), some (.int _)], [.int (_ + _), .ref _, .ref _], _)) rfl (u_ rfl) ?_
  refine w22x (pc := 314) (len_s := 1) rfl ?_
  refine w_t (pc := 315) (e_s := (3, 1, 0, 0, 0, .null, [])) (y_s := (316, [some (.ref _), some (.ref _), some (.ref _), some (.int _)], [.ref _, .int _, .ref _], _)) rfl (u_ rfl) ?_
  refine w_t (pc := 316) (e_s := (1, 1, 3, 0, 0, .null, [])) (y_s := (317, [some (.ref _), some (.ref _), some (.ref _), some (.int _)], [.int _, .ref _, .int _, .ref _], _)) rfl (u_ rfl) ?_
  refine w_t (pc := 317) (e_s := (0, 1, 0, 0, 0, .int 2, [])) (y_s := (318, [some (.ref _), some (.ref _), some (.ref _), some (.int _)], [.int _, .int _, .ref _, .int _, .ref _], _)) rfl (u_ rfl) ?_
  refine w_t (pc := 318) (e_s := (7, 1, 0, 0, 0, .null, [])) (y_s := (319, [some (.ref _), some (.ref _), some (.ref _), some (.int _)], [.int (_ + _), .ref _, .int _, .ref _], _)) rfl (u_ rfl) ?_
  refine w22x (pc := 319) (len_s := 1) rfl ?_
  refine w_t (pc := 320) (e_s := (3, 1, 0, 0, 0, .null, [])) (y_s := (321, [some (.ref _), some (.ref _), some (.ref _), some (.int _)], [.ref _, .int _, .int _, .ref _], _)) rfl (u_ rfl) ?_
  refine w_t (pc := 321) (e_s := (1, 1, 3, 0, 0, .null, [])) (y_s := (322, [some (.ref _), some (.ref _), some (.ref _), some (.int _)], [.int _, .ref _, .int _, .int _, .ref _], _)) rfl (u_ rfl) ?_
  refine w_t (pc := 322) (e_s := (0, 1, 0, 0, 0, .int 3, [])) (y_s := (323, [some (.ref _), some (.ref _), some (.ref _), some (.int _)], [.int _, .int _, .ref _, .int _, .int _, .ref _], _)) rfl (u_ rfl) ?_
  refine w_t (pc := 323) (e_s := (7, 1, 0, 0, 0, .null, [])) (y_s := (324, [some (.ref _), some (.ref _), some (.ref _), some (.int _)], [.int (_ + _), .ref _, .int _, .int _, .ref _], _)) rfl (u_ rfl) ?_
  refine w22x (pc := 324) (len_s := 1) rfl ?_
  refine wcI (pc := 325) (len_s := 3) rfl rfl (l := [some (.ref _), some (.int _), some (.int _), some (.int _), none, none, none]) rfl (wmI t_s (fun v2 h2 hk t_s => ?_))
  replace t_s := t_s hk
  refine w_t (pc := 328) (e_s := (42, 1, 0, 0, 0, .null, [])) (y_s := (329, [some (.ref _), some (.ref _), some (.ref _), some (.int _)], [], _)) rfl (u_ rfl) ?_
  refine w_t (pc := 329) (e_s := (17, 3, 1414, 0, 0, .null, [])) (y_s := (1414, [some (.ref _), some (.ref _), some (.ref _), some (.int _)], [], _)) rfl (u_ rfl) ?_
  refine w_t (pc := 1414) (e_s := (19, 3, 3, 0, 0, .int 6, [])) (y_s := (1417, [some (.ref _), some (.ref _), some (.ref _), some (.int _)], [], _)) rfl (u_ rfl) ?_
  refine w_t (pc := 1417) (e_s := (17, 3, 18, 0, 0, .null, [])) (y_s := (18, [some (.ref _), some (.ref _), some (.ref _), some (.int _)], [], _)) rfl (u_ rfl) ?_
  exact t_s
theorem sg_241_332 {F_s : Nat} {x3 : Int32} {h_s : zH} {K_s : Int32 → zH → Prop} (hk : hKn h_s) (t_s : wF F_s 98 (0, [some (.ref 6), some (.int (h_s.2.1 0 (zix (x3 + 1)))), some (.int (h_s.2.1 0 (zix (x3 + 2)))), some (.int (h_s.2.1 0 (zix (x3 + 3)))), none], [], h_s) (gI (fun v1_s h1 => hKn h1 → wF F_s 163 (0, [some (.ref 102), some (.int (h1.2.1 0 (zix (x3 + 1)))), some (.int (h1.2.1 0 (zix (x3 + 2)))), some (.int (h1.2.1 0 (zix (x3 + 3)))), none], [], h1) (gI (fun v2 h2 => hKn h2 → wF F_s 241 (18, [some (.ref 0), some (.ref 6), some (.ref 102), some (.int (x3 + 6))], [], h2) (gI K_s)))))) : wF (F_s + 1) 241 (332, [some (.ref 0), some (.ref 6), some (.ref 102), some (.int x3)], [], h_s) (gI K_s) := by
  refine w_0 (pc := 332) (e_s := (3, 1, 1, 0, 0, .null, [])) (y_s := (333, [some (.ref _), some (.ref _), some (.ref _), some (.int _)], [.ref _], _)) rfl (u_ rfl) ?_
  refine w_t (pc := 333) (e_s := (3, 1, 0, 0, 0, .null, [])) (y_s := (334, [some (.ref _), some (.ref _), some (.ref _), some (.int _)], [.ref _, .ref _], _)) rfl (u_ rfl) ?_
  refine w_t (pc := 334) (e_s := (1, 1, 3, 0, 0, .null, [])) (y_s := (335, [some (.ref _), some (.ref _), some (.ref _), some (.int _)], [.int _, .ref _, .ref _], _)) rfl (u_ rfl) ?_
  refine w_t (pc := 335) (e_s := (0, 1, 0, 0, 0, .int 1, [])) (y_s := (336, [some (.ref _), some (.ref _), some (.ref _), some (.int _)], [.int _, .int _, .ref _, .ref _], _)) rfl (u_ rfl) ?_
  refine w_t (pc := 336) (e_s := (7, 1, 0, 0, 0, .null, [])) (y_s := (337, [some (.ref _), some (.ref _), some (.ref _), some (.int _)], [.int (_ + _), .ref _, .ref _], _)) rfl (u_ rfl) ?_
  refine w22x (pc := 337) (len_s := 1) rfl ?_
  refine w_t (pc := 338) (e_s := (3, 1, 0, 0, 0, .null, [])) (y_s := (339, [some (.ref _), some (.ref _), some (.ref _), some (.int _)], [.ref _, .int _, .ref _], _)) rfl (u_ rfl) ?_
  refine w_t (pc := 339) (e_s := (1, 1, 3, 0, 0, .null, [])) (y_s := (340, [some (.ref _), some (.ref _), some (.ref _), some (.int _)], [.int _, .ref _, .int _, .ref _], _)) rfl (u_ rfl) ?_
  refine w_t (pc := 340) (e_s := (0, 1, 0, 0, 0, .int 2, [])) (y_s := (341, [some (.ref _), some (.ref _), some (.ref _), some (.int _)], [.int _, .int _, .ref _, .int _, .ref _], _)) rfl (u_ rfl) ?_
  refine w_t (pc := 341) (e_s := (7, 1, 0, 0, 0, .null, [])) (y_s := (342, [some (.ref _), some (.ref _), some (.ref _), some (.int _)], [.int (_ + _), .ref _, .int _, .ref _], _)) rfl (u_ rfl) ?_
  refine w22x (pc := 342) (len_s := 1) rfl ?_
  refine w_t (pc := 343) (e_s := (3, 1, 0, 0, 0, .null, [])) (y_s := (344, [some (.ref _), some (.ref _), some (.ref _), some (.int _)], [.ref _, .int _, .int _, .ref _], _)) rfl (u_ rfl) ?_
  refine w_t (pc := 344) (e_s := (1, 1, 3, 0, 0, .null, [])) (y_s := (345, [some (.ref _), some (.ref _), some (.ref _), some (.int _)], [.int _, .ref _, .int _, .int _, .ref _], _)) rfl (u_ rfl) ?_
  refine w_t (pc := 345) (e_s := (0, 1, 0, 0, 0, .int 3, [])) (y_s := (346, [some (.ref _), some (.ref _), some (.ref _), some (.int _)], [.int _, .int _, .ref _, .int _, .int _, .ref _], _)) rfl (u_ rfl) ?_
  refine w_t (pc := 346) (e_s := (7, 1, 0, 0, 0, .null, [])) (y_s := (347, [some (.ref _), some (.ref _), some (.ref _), some (.int _)], [.int (_ + _), .ref _, .int _, .int _, .ref _], _)) rfl (u_ rfl) ?_
  refine w22x (pc := 347) (len_s := 1) rfl ?_
  refine wcI (pc := 348) (len_s := 3) rfl rfl (l := [some (.ref _), some (.int _), some (.int _), some (.int _), none]) rfl (wmI t_s (fun v1_s h1 hk t_s => ?_))
  replace t_s := t_s hk
  refine w_t (pc := 351) (e_s := (42, 1, 0, 0, 0, .null, [])) (y_s := (352, [some (.ref _), some (.ref _), some (.ref _), some (.int _)], [], _)) rfl (u_ rfl) ?_
  refine w_t (pc := 352) (e_s := (3, 1, 2, 0, 0, .null, [])) (y_s := (353, [some (.ref _), some (.ref _), some (.ref _), some (.int _)], [.ref _], _)) rfl (u_ rfl) ?_
  refine w_t (pc := 353) (e_s := (3, 1, 0, 0, 0, .null, [])) (y_s := (354, [some (.ref _), some (.ref _), some (.ref _), some (.int _)], [.ref _, .ref _], _)) rfl (u_ rfl) ?_
  refine w_t (pc := 354) (e_s := (1, 1, 3, 0, 0, .null, [])) (y_s := (355, [some (.ref _), some (.ref _), some (.ref _), some (.int _)], [.int _, .ref _, .ref _], _)) rfl (u_ rfl) ?_
  refine w_t (pc := 355) (e_s := (0, 1, 0, 0, 0, .int 1, [])) (y_s := (356, [some (.ref _), some (.ref _), some (.ref _), some (.int _)], [.int _, .int _, .ref _, .ref _], _)) rfl (u_ rfl) ?_
  refine w_t (pc := 356) (e_s := (7, 1, 0, 0, 0, .null, [])) (y_s := (357, [some (.ref _), some (.ref _), some (.ref _), some (.int _)], [.int (_ + _), .ref _, .ref _], _)) rfl (u_ rfl) ?_
  refine w22x (pc := 357) (len_s := 1) rfl ?_
  refine w_t (pc := 358) (e_s := (3, 1, 0, 0, 0, .null, [])) (y_s := (359, [some (.ref _), some (.ref _), some (.ref _), some (.int _)], [.ref _, .int _, .ref _], _)) rfl (u_ rfl) ?_
  refine w_t (pc := 359) (e_s := (1, 1, 3, 0, 0, .null, [])) (y_s := (360, [some (.ref _), some (.ref _), some (.ref _), some (.int _)], [.int _, .ref _, .int _, .ref _], _)) rfl (u_ rfl) ?_
  refine w_t (pc := 360) (e_s := (0, 1, 0, 0, 0, .int 2, [])) (y_s := (361, [some (.ref _), some (.ref _), some (.ref _), some (.int _)], [.int _, .int _, .ref _, .int _, .ref _], _)) rfl (u_ rfl) ?_
  refine w_t (pc := 361) (e_s := (7, 1, 0, 0, 0, .null, [])) (y_s := (362, [some (.ref _), some (.ref _), some (.ref _), some (.int _)], [.int (_ + _), .ref _, .int _, .ref _], _)) rfl (u_ rfl) ?_
  refine w22x (pc := 362) (len_s := 1) rfl ?_
  refine w_t (pc := 363) (e_s := (3, 1, 0, 0, 0, .null, [])) (y_s := (364, [some (.ref _), some (.ref _), some (.ref _), some (.int _)], [.ref _, .int _, .int _, .ref _], _)) rfl (u_ rfl) ?_
  refine w_t (pc := 364) (e_s := (1, 1, 3, 0, 0, .null, [])) (y_s := (365, [some (.ref _), some (.ref _), some (.ref _), some (.int _)], [.int _, .ref _, .int _, .int _, .ref _], _)) rfl (u_ rfl) ?_
  refine w_t (pc := 365) (e_s := (0, 1, 0, 0, 0, .int 3, [])) (y_s := (366, [some (.ref _), some (.ref _), some (.ref _), some (.int _)], [.int _, .int _, .ref _, .int _, .int _, .ref _], _)) rfl (u_ rfl) ?_
  refine w_t (pc := 366) (e_s := (7, 1, 0, 0, 0, .null, [])) (y_s := (367, [some (.ref _), some (.ref _), some (.ref _), some (.int _)], [.int (_ + _), .ref _, .int _, .int _, .ref _], _)) rfl (u_ rfl) ?_
  refine w22x (pc := 367) (len_s := 1) rfl ?_
  refine wcI (pc := 368) (len_s := 3) rfl rfl (l := [some (.ref _), some (.int _), some (.int _), some (.int _), none]) rfl (wmI t_s (fun v2 h2 hk t_s => ?_))
  replace t_s := t_s hk
  refine w_t (pc := 371) (e_s := (42, 1, 0, 0, 0, .null, [])) (y_s := (372, [some (.ref _), some (.ref _), some (.ref _), some (.int _)], [], _)) rfl (u_ rfl) ?_
  refine w_t (pc := 372) (e_s := (17, 3, 1414, 0, 0, .null, [])) (y_s := (1414, [some (.ref _), some (.ref _), some (.ref _), some (.int _)], [], _)) rfl (u_ rfl) ?_
  refine w_t (pc := 1414) (e_s := (19, 3, 3, 0, 0, .int 6, [])) (y_s := (1417, [some (.ref _), some (.ref _), some (.ref _), some (.int _)], [], _)) rfl (u_ rfl) ?_
  refine w_t (pc := 1417) (e_s := (17, 3, 18, 0, 0, .null, [])) (y_s := (18, [some (.ref _), some (.ref _), some (.ref _), some (.int _)], [], _)) rfl (u_ rfl) ?_
  exact t_s
theorem sg_241_375 {F_s : Nat} {x3 : Int32} {h_s : zH} {K_s : Int32 → zH → Prop} (hk : hKn h_s) (t_s : wF F_s 99 (0, [some (.ref 6), some (.int (h_s.2.1 0 (zix (x3 + 1)))), some (.int (h_s.2.1 0 (zix (x3 + 2))))], [], h_s) (gI (fun v1_s h1 => hKn h1 → wF F_s 164 (0, [some (.ref 102), some (.int (h1.2.1 0 (zix (x3 + 1)))), some (.int (h1.2.1 0 (zix (x3 + 2)))), none], [], h1) (gI (fun v2 h2 => hKn h2 → wF F_s 241 (18, [some (.ref 0), some (.ref 6), some (.ref 102), some (.int (x3 + 6))], [], h2) (gI K_s)))))) : wF (F_s + 1) 241 (375, [some (.ref 0), some (.ref 6), some (.ref 102), some (.int x3)], [], h_s) (gI K_s) := by
  refine w_0 (pc := 375) (e_s := (3, 1, 1, 0, 0, .null, [])) (y_s := (376, [some (.ref _), some (.ref _), some (.ref _), some (.int _)], [.ref _], _)) rfl (u_ rfl) ?_
  refine w_t (pc := 376) (e_s := (3, 1, 0, 0, 0, .null, [])) (y_s := (377, [some (.ref _), some (.ref _), some (.ref _), some (.int _)], [.ref _, .ref _], _)) rfl (u_ rfl) ?_
  refine w_t (pc := 377) (e_s := (1, 1, 3, 0, 0, .null, [])) (y_s := (378, [some (.ref _), some (.ref _), some (.ref _), some (.int _)], [.int _, .ref _, .ref _], _)) rfl (u_ rfl) ?_
  refine w_t (pc := 378) (e_s := (0, 1, 0, 0, 0, .int 1, [])) (y_s := (379, [some (.ref _), some (.ref _), some (.ref _), some (.int _)], [.int _, .int _, .ref _, .ref _], _)) rfl (u_ rfl) ?_
  refine w_t (pc := 379) (e_s := (7, 1, 0, 0, 0, .null, [])) (y_s := (380, [some (.ref _), some (.ref _), some (.ref _), some (.int _)], [.int (_ + _), .ref _, .ref _], _)) rfl (u_ rfl) ?_
  refine w22x (pc := 380) (len_s := 1) rfl ?_
  refine w_t (pc := 381) (e_s := (3, 1, 0, 0, 0, .null, [])) (y_s := (382, [some (.ref _), some (.ref _), some (.ref _), some (.int _)], [.ref _, .int _, .ref _], _)) rfl (u_ rfl) ?_
  refine w_t (pc := 382) (e_s := (1, 1, 3, 0, 0, .null, [])) (y_s := (383, [some (.ref _), some (.ref _), some (.ref _), some (.int _)], [.int _, .ref _, .int _, .ref _], _)) rfl (u_ rfl) ?_
  refine w_t (pc := 383) (e_s := (0, 1, 0, 0, 0, .int 2, [])) (y_s := (384, [some (.ref _), some (.ref _), some (.ref _), some (.int _)], [.int _, .int _, .ref _, .int _, .ref _], _)) rfl (u_ rfl) ?_
  refine w_t (pc := 384) (e_s := (7, 1, 0, 0, 0, .null, [])) (y_s := (385, [some (.ref _), some (.ref _), some (.ref _), some (.int _)], [.int (_ + _), .ref _, .int _, .ref _], _)) rfl (u_ rfl) ?_
  refine w22x (pc := 385) (len_s := 1) rfl ?_
  refine wcI (pc := 386) (len_s := 3) rfl rfl (l := [some (.ref _), some (.int _), some (.int _)]) rfl (wmI t_s (fun v1_s h1 hk t_s => ?_))
  replace t_s := t_s hk
  refine w_t (pc := 389) (e_s := (42, 1, 0, 0, 0, .null, [])) (y_s := (390, [some (.ref _), some (.ref _), some (.ref _), some (.int _)], [], _)) rfl (u_ rfl) ?_
  refine w_t (pc := 390) (e_s := (3, 1, 2, 0, 0, .null, [])) (y_s := (391, [some (.ref _), some (.ref _), some (.ref _), some (.int _)], [.ref _], _)) rfl (u_ rfl) ?_
  refine w_t (pc := 391) (e_s := (3, 1, 0, 0, 0, .null, [])) (y_s := (392, [some (.ref _), some (.ref _), some (.ref _), some (.int _)], [.ref _, .ref _], _)) rfl (u_ rfl) ?_
  refine w_t (pc := 392) (e_s := (1, 1, 3, 0, 0, .null, [])) (y_s := (393, [some (.ref _), some (.ref _), some (.ref _), some (.int _)], [.int _, .ref _, .ref _], _)) rfl (u_ rfl) ?_
  refine w_t (pc := 393) (e_s := (0, 1, 0, 0, 0, .int 1, [])) (y_s := (394, [some (.ref _), some (.ref _), some (.ref _), some (.int _)], [.int _, .int _, .ref _, .ref _], _)) rfl (u_ rfl) ?_
  refine w_t (pc := 394) (e_s := (7, 1, 0, 0, 0, .null, [])) (y_s := (395, [some (.ref _), some (.ref _), some (.ref _), some (.int _)], [.int (_ + _), .ref _, .ref _], _)) rfl (u_ rfl) ?_
  refine w22x (pc := 395) (len_s := 1) rfl ?_
  refine w_t (pc := 396) (e_s := (3, 1, 0, 0, 0, .null, [])) (y_s := (397, [some (.ref _), some (.ref _), some (.ref _), some (.int _)], [.ref _, .int _, .ref _], _)) rfl (u_ rfl) ?_
  refine w_t (pc := 397) (e_s := (1, 1, 3, 0, 0, .null, [])) (y_s := (398, [some (.ref _), some (.ref _), some (.ref _), some (.int _)], [.int _, .ref _, .int _, .ref _], _)) rfl (u_ rfl) ?_
  refine w_t (pc := 398) (e_s := (0, 1, 0, 0, 0, .int 2, [])) (y_s := (399, [some (.ref _), some (.ref _), some (.ref _), some (.int _)], [.int _, .int _, .ref _, .int _, .ref _], _)) rfl (u_ rfl) ?_
  refine w_t (pc := 399) (e_s := (7, 1, 0, 0, 0, .null, [])) (y_s := (400, [some (.ref _), some (.ref _), some (.ref _), some (.int _)], [.int (_ + _), .ref _, .int _, .ref _], _)) rfl (u_ rfl) ?_
  refine w22x (pc := 400) (len_s := 1) rfl ?_
  refine wcI (pc := 401) (len_s := 3) rfl rfl (l := [some (.ref _), some (.int _), some (.int _), none]) rfl (wmI t_s (fun v2 h2 hk t_s => ?_))
  replace t_s := t_s hk
  refine w_t (pc := 404) (e_s := (42, 1, 0, 0, 0, .null, [])) (y_s := (405, [some (.ref _), some (.ref _), some (.ref _), some (.int _)], [], _)) rfl (u_ rfl) ?_
  refine w_t (pc := 405) (e_s := (17, 3, 1414, 0, 0, .null, [])) (y_s := (1414, [some (.ref _), some (.ref _), some (.ref _), some (.int _)], [], _)) rfl (u_ rfl) ?_
  refine w_t (pc := 1414) (e_s := (19, 3, 3, 0, 0, .int 6, [])) (y_s := (1417, [some (.ref _), some (.ref _), some (.ref _), some (.int _)], [], _)) rfl (u_ rfl) ?_
  refine w_t (pc := 1417) (e_s := (17, 3, 18, 0, 0, .null, [])) (y_s := (18, [some (.ref _), some (.ref _), some (.ref _), some (.int _)], [], _)) rfl (u_ rfl) ?_
  exact t_s
theorem sg_241_408 {F_s : Nat} {x3 : Int32} {h_s : zH} {K_s : Int32 → zH → Prop} (hk : hKn h_s) (t_s : wF F_s 100 (0, [some (.ref 6), some (.int (h_s.2.1 0 (zix (x3 + 1))))], [], h_s) (gI (fun v1_s h1 => hKn h1 → wF F_s 165 (0, [some (.ref 102), some (.int (h1.2.1 0 (zix (x3 + 1))))], [], h1) (gI (fun v2 h2 => hKn h2 → wF F_s 241 (18, [some (.ref 0), some (.ref 6), some (.ref 102), some (.int (x3 + 6))], [], h2) (gI K_s)))))) : wF (F_s + 1) 241 (408, [some (.ref 0), some (.ref 6), some (.ref 102), some (.int x3)], [], h_s) (gI K_s) := by
  refine w_0 (pc := 408) (e_s := (3, 1, 1, 0, 0, .null, [])) (y_s := (409, [some (.ref _), some (.ref _), some (.ref _), some (.int _)], [.ref _], _)) rfl (u_ rfl) ?_
  refine w_t (pc := 409) (e_s := (3, 1, 0, 0, 0, .null, [])) (y_s := (410, [some (.ref _), some (.ref _), some (.ref _), some (.int _)], [.ref _, .ref _], _)) rfl (u_ rfl) ?_
  refine w_t (pc := 410) (e_s := (1, 1, 3, 0, 0, .null, [])) (y_s := (411, [some (.ref _), some (.ref _), some (.ref _), some (.int _)], [.int _, .ref _, .ref _], _)) rfl (u_ rfl) ?_
  refine w_t (pc := 411) (e_s := (0, 1, 0, 0, 0, .int 1, [])) (y_s := (412, [some (.ref _), some (.ref _), some (.ref _), some (.int _)], [.int _, .int _, .ref _, .ref _], _)) rfl (u_ rfl) ?_
  refine w_t (pc := 412) (e_s := (7, 1, 0, 0, 0, .null, [])) (y_s := (413, [some (.ref _), some (.ref _), some (.ref _), some (.int _)], [.int (_ + _), .ref _, .ref _], _)) rfl (u_ rfl) ?_
  refine w22x (pc := 413) (len_s := 1) rfl ?_
  refine wcI (pc := 414) (len_s := 3) rfl rfl (l := [some (.ref _), some (.int _)]) rfl (wmI t_s (fun v1_s h1 hk t_s => ?_))
  replace t_s := t_s hk
  refine w_t (pc := 417) (e_s := (42, 1, 0, 0, 0, .null, [])) (y_s := (418, [some (.ref _), some (.ref _), some (.ref _), some (.int _)], [], _)) rfl (u_ rfl) ?_
  refine w_t (pc := 418) (e_s := (3, 1, 2, 0, 0, .null, [])) (y_s := (419, [some (.ref _), some (.ref _), some (.ref _), some (.int _)], [.ref _], _)) rfl (u_ rfl) ?_
  refine w_t (pc := 419) (e_s := (3, 1, 0, 0, 0, .null, [])) (y_s := (420, [some (.ref _), some (.ref _), some (.ref _), some (.int _)], [.ref _, .ref _], _)) rfl (u_ rfl) ?_
  refine w_t (pc := 420) (e_s := (1, 1, 3, 0, 0, .null, [])) (y_s := (421, [some (.ref _), some (.ref _), some (.ref _), some (.int _)], [.int _, .ref _, .ref _], _)) rfl (u_ rfl) ?_
  refine w_t (pc := 421) (e_s := (0, 1, 0, 0, 0, .int 1, [])) (y_s := (422, [some (.ref _), some (.ref _), some (.ref _), some (.int _)], [.int _, .int _, .ref _, .ref _], _)) rfl (u_ rfl) ?_
  refine w_t (pc := 422) (e_s := (7, 1, 0, 0, 0, .null, [])) (y_s := (423, [some (.ref _), some (.ref _), some (.ref _), some (.int _)], [.int (_ + _), .ref _, .ref _], _)) rfl (u_ rfl) ?_
  refine w22x (pc := 423) (len_s := 1) rfl ?_
  refine wcI (pc := 424) (len_s := 3) rfl rfl (l := [some (.ref _), some (.int _)]) rfl (wmI t_s (fun v2 h2 hk t_s => ?_))
  replace t_s := t_s hk
  refine w_t (pc := 427) (e_s := (42, 1, 0, 0, 0, .null, [])) (y_s := (428, [some (.ref _), some (.ref _), some (.ref _), some (.int _)], [], _)) rfl (u_ rfl) ?_
  refine w_t (pc := 428) (e_s := (17, 3, 1414, 0, 0, .null, [])) (y_s := (1414, [some (.ref _), some (.ref _), some (.ref _), some (.int _)], [], _)) rfl (u_ rfl) ?_
  refine w_t (pc := 1414) (e_s := (19, 3, 3, 0, 0, .int 6, [])) (y_s := (1417, [some (.ref _), some (.ref _), some (.ref _), some (.int _)], [], _)) rfl (u_ rfl) ?_
  refine w_t (pc := 1417) (e_s := (17, 3, 18, 0, 0, .null, [])) (y_s := (18, [some (.ref _), some (.ref _), some (.ref _), some (.int _)], [], _)) rfl (u_ rfl) ?_
  exact t_s
theorem sg_241_431 {F_s : Nat} {x3 : Int32} {h_s : zH} {K_s : Int32 → zH → Prop} (hk : hKn h_s) (t_s : wF F_s 101 (0, [some (.ref 6), none, none], [], h_s) (gI (fun v1_s h1 => hKn h1 → wF F_s 177 (0, [some (.ref 102), none, none, none], [], h1) (gI (fun v2 h2 => hKn h2 → wF F_s 241 (18, [some (.ref 0), some (.ref 6), some (.ref 102), some (.int (x3 + 6))], [], h2) (gI K_s)))))) : wF (F_s + 1) 241 (431, [some (.ref 0), some (.ref 6), some (.ref 102), some (.int x3)], [], h_s) (gI K_s) := by
  refine w_0 (pc := 431) (e_s := (3, 1, 1, 0, 0, .null, [])) (y_s := (432, [some (.ref _), some (.ref _), some (.ref _), some (.int _)], [.ref _], _)) rfl (u_ rfl) ?_
  refine wcI (pc := 432) (len_s := 3) rfl rfl (l := [some (.ref _), none, none]) rfl (wmI t_s (fun v1_s h1 hk t_s => ?_))
  replace t_s := t_s hk
  refine w_t (pc := 435) (e_s := (42, 1, 0, 0, 0, .null, [])) (y_s := (436, [some (.ref _), some (.ref _), some (.ref _), some (.int _)], [], _)) rfl (u_ rfl) ?_
  refine w_t (pc := 436) (e_s := (3, 1, 2, 0, 0, .null, [])) (y_s := (437, [some (.ref _), some (.ref _), some (.ref _), some (.int _)], [.ref _], _)) rfl (u_ rfl) ?_
  refine wcI (pc := 437) (len_s := 3) rfl rfl (l := [some (.ref _), none, none, none]) rfl (wmI t_s (fun v2 h2 hk t_s => ?_))
  replace t_s := t_s hk
  refine w_t (pc := 440) (e_s := (42, 1, 0, 0, 0, .null, [])) (y_s := (441, [some (.ref _), some (.ref _), some (.ref _), some (.int _)], [], _)) rfl (u_ rfl) ?_
  refine w_t (pc := 441) (e_s := (17, 3, 1414, 0, 0, .null, [])) (y_s := (1414, [some (.ref _), some (.ref _), some (.ref _), some (.int _)], [], _)) rfl (u_ rfl) ?_
  refine w_t (pc := 1414) (e_s := (19, 3, 3, 0, 0, .int 6, [])) (y_s := (1417, [some (.ref _), some (.ref _), some (.ref _), some (.int _)], [], _)) rfl (u_ rfl) ?_
  refine w_t (pc := 1417) (e_s := (17, 3, 18, 0, 0, .null, [])) (y_s := (18, [some (.ref _), some (.ref _), some (.ref _), some (.int _)], [], _)) rfl (u_ rfl) ?_
  exact t_s
theorem sg_241_444 {F_s : Nat} {x3 : Int32} {h_s : zH} {K_s : Int32 → zH → Prop} (hk : hKn h_s) (t_s : wF F_s 102 (0, [some (.ref 6), some (.int (h_s.2.1 0 (zix (x3 + 1)))), some (.int (h_s.2.1 0 (zix (x3 + 2))))], [], h_s) (gI (fun v1_s h1 => hKn h1 → wF F_s 181 (0, [some (.ref 102), some (.int (h1.2.1 0 (zix (x3 + 1)))), some (.int (h1.2.1 0 (zix (x3 + 2))))], [], h1) (gI (fun v2 h2 => hKn h2 → wF F_s 241 (18, [some (.ref 0), some (.ref 6), some (.ref 102), some (.int (x3 + 6))], [], h2) (gI K_s)))))) : wF (F_s + 1) 241 (444, [some (.ref 0), some (.ref 6), some (.ref 102), some (.int x3)], [], h_s) (gI K_s) := by
  refine w_0 (pc := 444) (e_s := (3, 1, 1, 0, 0, .null, [])) (y_s := (445, [some (.ref _), some (.ref _), some (.ref _), some (.int _)], [.ref _], _)) rfl (u_ rfl) ?_
  refine w_t (pc := 445) (e_s := (3, 1, 0, 0, 0, .null, [])) (y_s := (446, [some (.ref _), some (.ref _), some (.ref _), some (.int _)], [.ref _, .ref _], _)) rfl (u_ rfl) ?_
  refine w_t (pc := 446) (e_s := (1, 1, 3, 0, 0, .null, [])) (y_s := (447, [some (.ref _), some (.ref _), some (.ref _), some (.int _)], [.int _, .ref _, .ref _], _)) rfl (u_ rfl) ?_
  refine w_t (pc := 447) (e_s := (0, 1, 0, 0, 0, .int 1, [])) (y_s := (448, [some (.ref _), some (.ref _), some (.ref _), some (.int _)], [.int _, .int _, .ref _, .ref _], _)) rfl (u_ rfl) ?_
  refine w_t (pc := 448) (e_s := (7, 1, 0, 0, 0, .null, [])) (y_s := (449, [some (.ref _), some (.ref _), some (.ref _), some (.int _)], [.int (_ + _), .ref _, .ref _], _)) rfl (u_ rfl) ?_
  refine w22x (pc := 449) (len_s := 1) rfl ?_
  refine w_t (pc := 450) (e_s := (3, 1, 0, 0, 0, .null, [])) (y_s := (451, [some (.ref _), some (.ref _), some (.ref _), some (.int _)], [.ref _, .int _, .ref _], _)) rfl (u_ rfl) ?_
  refine w_t (pc := 451) (e_s := (1, 1, 3, 0, 0, .null, [])) (y_s := (452, [some (.ref _), some (.ref _), some (.ref _), some (.int _)], [.int _, .ref _, .int _, .ref _], _)) rfl (u_ rfl) ?_
  refine w_t (pc := 452) (e_s := (0, 1, 0, 0, 0, .int 2, [])) (y_s := (453, [some (.ref _), some (.ref _), some (.ref _), some (.int _)], [.int _, .int _, .ref _, .int _, .ref _], _)) rfl (u_ rfl) ?_
  refine w_t (pc := 453) (e_s := (7, 1, 0, 0, 0, .null, [])) (y_s := (454, [some (.ref _), some (.ref _), some (.ref _), some (.int _)], [.int (_ + _), .ref _, .int _, .ref _], _)) rfl (u_ rfl) ?_
  refine w22x (pc := 454) (len_s := 1) rfl ?_
  refine wcI (pc := 455) (len_s := 3) rfl rfl (l := [some (.ref _), some (.int _), some (.int _)]) rfl (wmI t_s (fun v1_s h1 hk t_s => ?_))
  replace t_s := t_s hk
  refine w_t (pc := 458) (e_s := (42, 1, 0, 0, 0, .null, [])) (y_s := (459, [some (.ref _), some (.ref _), some (.ref _), some (.int _)], [], _)) rfl (u_ rfl) ?_
  refine w_t (pc := 459) (e_s := (3, 1, 2, 0, 0, .null, [])) (y_s := (460, [some (.ref _), some (.ref _), some (.ref _), some (.int _)], [.ref _], _)) rfl (u_ rfl) ?_
  refine w_t (pc := 460) (e_s := (3, 1, 0, 0, 0, .null, [])) (y_s := (461, [some (.ref _), some (.ref _), some (.ref _), some (.int _)], [.ref _, .ref _], _)) rfl (u_ rfl) ?_
  refine w_t (pc := 461) (e_s := (1, 1, 3, 0, 0, .null, [])) (y_s := (462, [some (.ref _), some (.ref _), some (.ref _), some (.int _)], [.int _, .ref _, .ref _], _)) rfl (u_ rfl) ?_
  refine w_t (pc := 462) (e_s := (0, 1, 0, 0, 0, .int 1, [])) (y_s := (463, [some (.ref _), some (.ref _), some (.ref _), some (.int _)], [.int _, .int _, .ref _, .ref _], _)) rfl (u_ rfl) ?_
  refine w_t (pc := 463) (e_s := (7, 1, 0, 0, 0, .null, [])) (y_s := (464, [some (.ref _), some (.ref _), some (.ref _), some (.int _)], [.int (_ + _), .ref _, .ref _], _)) rfl (u_ rfl) ?_
  refine w22x (pc := 464) (len_s := 1) rfl ?_
  refine w_t (pc := 465) (e_s := (3, 1, 0, 0, 0, .null, [])) (y_s := (466, [some (.ref _), some (.ref _), some (.ref _), some (.int _)], [.ref _, .int _, .ref _], _)) rfl (u_ rfl) ?_
  refine w_t (pc := 466) (e_s := (1, 1, 3, 0, 0, .null, [])) (y_s := (467, [some (.ref _), some (.ref _), some (.ref _), some (.int _)], [.int _, .ref _, .int _, .ref _], _)) rfl (u_ rfl) ?_
  refine w_t (pc := 467) (e_s := (0, 1, 0, 0, 0, .int 2, [])) (y_s := (468, [some (.ref _), some (.ref _), some (.ref _), some (.int _)], [.int _, .int _, .ref _, .int _, .ref _], _)) rfl (u_ rfl) ?_
  refine w_t (pc := 468) (e_s := (7, 1, 0, 0, 0, .null, [])) (y_s := (469, [some (.ref _), some (.ref _), some (.ref _), some (.int _)], [.int (_ + _), .ref _, .int _, .ref _], _)) rfl (u_ rfl) ?_
  refine w22x (pc := 469) (len_s := 1) rfl ?_
  refine wcI (pc := 470) (len_s := 3) rfl rfl (l := [some (.ref _), some (.int _), some (.int _)]) rfl (wmI t_s (fun v2 h2 hk t_s => ?_))
  replace t_s := t_s hk
  refine w_t (pc := 473) (e_s := (42, 1, 0, 0, 0, .null, [])) (y_s := (474, [some (.ref _), some (.ref _), some (.ref _), some (.int _)], [], _)) rfl (u_ rfl) ?_
  refine w_t (pc := 474) (e_s := (17, 3, 1414, 0, 0, .null, [])) (y_s := (1414, [some (.ref _), some (.ref _), some (.ref _), some (.int _)], [], _)) rfl (u_ rfl) ?_
  refine w_t (pc := 1414) (e_s := (19, 3, 3, 0, 0, .int 6, [])) (y_s := (1417, [some (.ref _), some (.ref _), some (.ref _), some (.int _)], [], _)) rfl (u_ rfl) ?_
  refine w_t (pc := 1417) (e_s := (17, 3, 18, 0, 0, .null, [])) (y_s := (18, [some (.ref _), some (.ref _), some (.ref _), some (.int _)], [], _)) rfl (u_ rfl) ?_
  exact t_s
theorem sg_241_477 {F_s : Nat} {x3 : Int32} {h_s : zH} {K_s : Int32 → zH → Prop} (hk : hKn h_s) (t_s : wF F_s 103 (0, [some (.ref 6), some (.int (h_s.2.1 0 (zix (x3 + 1)))), some (.int (h_s.2.1 0 (zix (x3 + 2)))), some (.int (h_s.2.1 0 (zix (x3 + 3)))), none, none, none], [], h_s) (gI (fun v1_s h1 => hKn h1 → wF F_s 189 (0, [some (.ref 102), some (.int (h1.2.1 0 (zix (x3 + 1)))), some (.int (h1.2.1 0 (zix (x3 + 2)))), some (.int (h1.2.1 0 (zix (x3 + 3))))], [], h1) (gI (fun v2 h2 => hKn h2 → wF F_s 241 (18, [some (.ref 0), some (.ref 6), some (.ref 102), some (.int (x3 + 6))], [], h2) (gI K_s)))))) : wF (F_s + 1) 241 (477, [some (.ref 0), some (.ref 6), some (.ref 102), some (.int x3)], [], h_s) (gI K_s) := by
  refine w_0 (pc := 477) (e_s := (3, 1, 1, 0, 0, .null, [])) (y_s := (478, [some (.ref _), some (.ref _), some (.ref _), some (.int _)], [.ref _], _)) rfl (u_ rfl) ?_
  refine w_t (pc := 478) (e_s := (3, 1, 0, 0, 0, .null, [])) (y_s := (479, [some (.ref _), some (.ref _), some (.ref _), some (.int _)], [.ref _, .ref _], _)) rfl (u_ rfl) ?_
  refine w_t (pc := 479) (e_s := (1, 1, 3, 0, 0, .null, [])) (y_s := (480, [some (.ref _), some (.ref _), some (.ref _), some (.int _)], [.int _, .ref _, .ref _], _)) rfl (u_ rfl) ?_
  refine w_t (pc := 480) (e_s := (0, 1, 0, 0, 0, .int 1, [])) (y_s := (481, [some (.ref _), some (.ref _), some (.ref _), some (.int _)], [.int _, .int _, .ref _, .ref _], _)) rfl (u_ rfl) ?_
  refine w_t (pc := 481) (e_s := (7, 1, 0, 0, 0, .null, [])) (y_s := (482, [some (.ref _), some (.ref _), some (.ref _), some (.int _)], [.int (_ + _), .ref _, .ref _], _)) rfl (u_ rfl) ?_
  refine w22x (pc := 482) (len_s := 1) rfl ?_
  refine w_t (pc := 483) (e_s := (3, 1, 0, 0, 0, .null, [])) (y_s := (484, [some (.ref _), some (.ref _), some (.ref _), some (.int _)], [.ref _, .int _, .ref _], _)) rfl (u_ rfl) ?_
  refine w_t (pc := 484) (e_s := (1, 1, 3, 0, 0, .null, [])) (y_s := (485, [some (.ref _), some (.ref _), some (.ref _), some (.int _)], [.int _, .ref _, .int _, .ref _], _)) rfl (u_ rfl) ?_
  refine w_t (pc := 485) (e_s := (0, 1, 0, 0, 0, .int 2, [])) (y_s := (486, [some (.ref _), some (.ref _), some (.ref _), some (.int _)], [.int _, .int _, .ref _, .int _, .ref _], _)) rfl (u_ rfl) ?_
  refine w_t (pc := 486) (e_s := (7, 1, 0, 0, 0, .null, [])) (y_s := (487, [some (.ref _), some (.ref _), some (.ref _), some (.int _)], [.int (_ + _), .ref _, .int _, .ref _], _)) rfl (u_ rfl) ?_
  refine w22x (pc := 487) (len_s := 1) rfl ?_
  refine w_t (pc := 488) (e_s := (3, 1, 0, 0, 0, .null, [])) (y_s := (489, [some (.ref _), some (.ref _), some (.ref _), some (.int _)], [.ref _, .int _, .int _, .ref _], _)) rfl (u_ rfl) ?_
  refine w_t (pc := 489) (e_s := (1, 1, 3, 0, 0, .null, [])) (y_s := (490, [some (.ref _), some (.ref _), some (.ref _), some (.int _)], [.int _, .ref _, .int _, .int _, .ref _], _)) rfl (u_ rfl) ?_
  refine w_t (pc := 490) (e_s := (0, 1, 0, 0, 0, .int 3, [])) (y_s := (491, [some (.ref _), some (.ref _), some (.ref _), some (.int _)], [.int _, .int _, .ref _, .int _, .int _, .ref _], _)) rfl (u_ rfl) ?_
  refine w_t (pc := 491) (e_s := (7, 1, 0, 0, 0, .null, [])) (y_s := (492, [some (.ref _), some (.ref _), some (.ref _), some (.int _)], [.int (_ + _), .ref _, .int _, .int _, .ref _], _)) rfl (u_ rfl) ?_
  refine w22x (pc := 492) (len_s := 1) rfl ?_
  refine wcI (pc := 493) (len_s := 3) rfl rfl (l := [some (.ref _), some (.int _), some (.int _), some (.int _), none, none, none]) rfl (wmI t_s (fun v1_s h1 hk t_s => ?_))
  replace t_s := t_s hk
  refine w_t (pc := 496) (e_s := (42, 1, 0, 0, 0, .null, [])) (y_s := (497, [some (.ref _), some (.ref _), some (.ref _), some (.int _)], [], _)) rfl (u_ rfl) ?_
  refine w_t (pc := 497) (e_s := (3, 1, 2, 0, 0, .null, [])) (y_s := (498, [some (.ref _), some (.ref _), some (.ref _), some (.int _)], [.ref _], _)) rfl (u_ rfl) ?_
  refine w_t (pc := 498) (e_s := (3, 1, 0, 0, 0, .null, [])) (y_s := (499, [some (.ref _), some (.ref _), some (.ref _), some (.int _)], [.ref _, .ref _], _)) rfl (u_ rfl) ?_
  refine w_t (pc := 499) (e_s := (1, 1, 3, 0, 0, .null, [])) (y_s := (500, [some (.ref _), some (.ref _), some (.ref _), some (.int _)], [.int _, .ref _, .ref _], _)) rfl (u_ rfl) ?_
  refine w_t (pc := 500) (e_s := (0, 1, 0, 0, 0, .int 1, [])) (y_s := (501, [some (.ref _), some (.ref _), some (.ref _), some (.int _)], [.int _, .int _, .ref _, .ref _], _)) rfl (u_ rfl) ?_
  refine w_t (pc := 501) (e_s := (7, 1, 0, 0, 0, .null, [])) (y_s := (502, [some (.ref _), some (.ref _), some (.ref _), some (.int _)], [.int (_ + _), .ref _, .ref _], _)) rfl (u_ rfl) ?_
  refine w22x (pc := 502) (len_s := 1) rfl ?_
  refine w_t (pc := 503) (e_s := (3, 1, 0, 0, 0, .null, [])) (y_s := (504, [some (.ref _), some (.ref _), some (.ref _), some (.int _)], [.ref _, .int _, .ref _], _)) rfl (u_ rfl) ?_
  refine w_t (pc := 504) (e_s := (1, 1, 3, 0, 0, .null, [])) (y_s := (505, [some (.ref _), some (.ref _), some (.ref _), some (.int _)], [.int _, .ref _, .int _, .ref _], _)) rfl (u_ rfl) ?_
  refine w_t (pc := 505) (e_s := (0, 1, 0, 0, 0, .int 2, [])) (y_s := (506, [some (.ref _), some (.ref _), some (.ref _), some (.int _)], [.int _, .int _, .ref _, .int _, .ref _], _)) rfl (u_ rfl) ?_
  refine w_t (pc := 506) (e_s := (7, 1, 0, 0, 0, .null, [])) (y_s := (507, [some (.ref _), some (.ref _), some (.ref _), some (.int _)], [.int (_ + _), .ref _, .int _, .ref _], _)) rfl (u_ rfl) ?_
  refine w22x (pc := 507) (len_s := 1) rfl ?_
  refine w_t (pc := 508) (e_s := (3, 1, 0, 0, 0, .null, [])) (y_s := (509, [some (.ref _), some (.ref _), some (.ref _), some (.int _)], [.ref _, .int _, .int _, .ref _], _)) rfl (u_ rfl) ?_
  refine w_t (pc := 509) (e_s := (1, 1, 3, 0, 0, .null, [])) (y_s := (510, [some (.ref _), some (.ref _), some (.ref _), some (.int _)], [.int _, .ref _, .int _, .int _, .ref _], _)) rfl (u_ rfl) ?_
  refine w_t (pc := 510) (e_s := (0, 1, 0, 0, 0, .int 3, [])) (y_s := (511, [some (.ref _), some (.ref _), some (.ref _), some (.int _)], [.int _, .int _, .ref _, .int _, .int _, .ref _], _)) rfl (u_ rfl) ?_
  refine w_t (pc := 511) (e_s := (7, 1, 0, 0, 0, .null, [])) (y_s := (512, [some (.ref _), some (.ref _), some (.ref _), some (.int _)], [.int (_ + _), .ref _, .int _, .int _, .ref _], _)) rfl (u_ rfl) ?_
  refine w22x (pc := 512) (len_s := 1) rfl ?_
  refine wcI (pc := 513) (len_s := 3) rfl rfl (l := [some (.ref _), some (.int _), some (.int _), some (.int _)]) rfl (wmI t_s (fun v2 h2 hk t_s => ?_))
  replace t_s := t_s hk
  refine w_t (pc := 516) (e_s := (42, 1, 0, 0, 0, .null, [])) (y_s := (517, [some (.ref _), some (.ref _), some (.ref _), some (.int _)], [], _)) rfl (u_ rfl) ?_
  refine w_t (pc := 517) (e_s := (17, 3, 1414, 0, 0, .null, [])) (y_s := (1414, [some (.ref _), some (.ref _), some (.ref _), some (.int _)], [], _)) rfl (u_ rfl) ?_
  refine w_t (pc := 1414) (e_s := (19, 3, 3, 0, 0, .int 6, [])) (y_s := (1417, [some (.ref _), some (.ref _), some (.ref _), some (.int _)], [], _)) rfl (u_ rfl) ?_
  refine w_t (pc := 1417) (e_s := (17, 3, 18, 0, 0, .null, [])) (y_s := (18, [some (.ref _), some (.ref _), some (.ref _), some (.int _)], [], _)) rfl (u_ rfl) ?_
  exact t_s
theorem sg_241_520 {F_s : Nat} {x3 : Int32} {h_s : zH} {K_s : Int32 → zH → Prop} (hk : hKn h_s) (t_s : wF F_s 104 (0, [some (.ref 6), some (.int (h_s.2.1 0 (zix (x3 + 1)))), some (.int (h_s.2.1 0 (zix (x3 + 2)))), some (.int (h_s.2.1 0 (zix (x3 + 3)))), none, none], [], h_s) (gI (fun v1_s h1 => hKn h1 → wF F_s 191 (0, [some (.ref 102), some (.int (h1.2.1 0 (zix (x3 + 1)))), some (.int (h1.2.1 0 (zix (x3 + 2)))), some (.int (h1.2.1 0 (zix (x3 + 3)))), none], [], h1) (gI (fun v2 h2 => hKn h2 → wF F_s 241 (18, [some (.ref 0), some (.ref 6), some (.ref 102), some (.int (x3 + 6))], [], h2) (gI K_s)))))) : wF (F_s + 1) 241 (520, [some (.ref 0), some (.ref 6), some (.ref 102), some (.int x3)], [], h_s) (gI K_s) := by
  refine w_0 (pc := 520) (e_s := (3, 1, 1, 0, 0, .null, [])) (y_s := (521, [some (.ref _), some (.ref _), some (.ref _), some (.int _)], [.ref _], _)) rfl (u_ rfl) ?_
  refine w_t (pc := 521) (e_s := (3, 1, 0, 0, 0, .null, [])) (y_s := (522, [some (.ref _), some (.ref _), some (.ref _), some (.int _)], [.ref _, .ref _], _)) rfl (u_ rfl) ?_
  refine w_t (pc := 522) (e_s := (1, 1, 3, 0, 0, .null, [])) (y_s := (523, [some (.ref _), some (.ref _), some (.ref _), some (.int _)], [.int _, .ref _, .ref _], _)) rfl (u_ rfl) ?_
  refine w_t (pc := 523) (e_s := (0, 1, 0, 0, 0, .int 1, [])) (y_s := (524, [some (.ref _), some (.ref _), some (.ref _), some (.int _)], [.int _, .int _, .ref _, .ref _], _)) rfl (u_ rfl) ?_
  refine w_t (pc := 524) (e_s := (7, 1, 0, 0, 0, .null, [])) (y_s := (525, [some (.ref _), some (.ref _), some (.ref _), some (.int _)], [.int (_ + _), .ref _, .ref _], _)) rfl (u_ rfl) ?_
  refine w22x (pc := 525) (len_s := 1) rfl ?_
  refine w_t (pc := 526) (e_s := (3, 1, 0, 0, 0, .null, [])) (y_s := (527, [some (.ref _), some (.ref _), some (.ref _), some (.int _)], [.ref _, .int _, .ref _], _)) rfl (u_ rfl) ?_
  refine w_t (pc := 527) (e_s := (1, 1, 3, 0, 0, .null, [])) (y_s := (528, [some (.ref _), some (.ref _), some (.ref _), some (.int _)], [.int _, .ref _, .int _, .ref _], _)) rfl (u_ rfl) ?_
  refine w_t (pc := 528) (e_s := (0, 1, 0, 0, 0, .int 2, [])) (y_s := (529, [some (.ref _), some (.ref _), some (.ref _), some (.int _)], [.int _, .int _, .ref _, .int _, .ref _], _)) rfl (u_ rfl) ?_
  refine w_t (pc := 529) (e_s := (7, 1, 0, 0, 0, .null, [])) (y_s := (530, [some (.ref _), some (.ref _), some (.ref _), some (.int _)], [.int (_ + _), .ref _, .int _, .ref _], _)) rfl (u_ rfl) ?_
  refine w22x (pc := 530) (len_s := 1) rfl ?_
  refine w_t (pc := 531) (e_s := (3, 1, 0, 0, 0, .null, [])) (y_s := (532, [some (.ref _), some (.ref _), some (.ref _), some (.int _)], [.ref _, .int _, .int _, .ref _], _)) rfl (u_ rfl) ?_
  refine w_t (pc := 532) (e_s := (1, 1, 3, 0, 0, .null, [])) (y_s := (533, [some (.ref _), some (.ref _), some (.ref _), some (.int _)], [.int _, .ref _, .int _, .int _, .ref _], _)) rfl (u_ rfl) ?_
  refine w_t (pc := 533) (e_s := (0, 1, 0, 0, 0, .int 3, [])) (y_s := (534, [some (.ref _), some (.ref _), some (.ref _), some (.int _)], [.int _, .int _, .ref _, .int _, .int _, .ref _], _)) rfl (u_ rfl) ?_
  refine w_t (pc := 534) (e_s := (7, 1, 0, 0, 0, .null, [])) (y_s := (535, [some (.ref _), some (.ref _), some (.ref _), some (.int _)], [.int (_ + _), .ref _, .int _, .int _, .ref _], _)) rfl (u_ rfl) ?_
  refine w22x (pc := 535) (len_s := 1) rfl ?_
  refine wcI (pc := 536) (len_s := 3) rfl rfl (l := [some (.ref _), some (.int _), some (.int _), some (.int _), none, none]) rfl (wmI t_s (fun v1_s h1 hk t_s => ?_))
  replace t_s := t_s hk
  refine w_t (pc := 539) (e_s := (42, 1, 0, 0, 0, .null, [])) (y_s := (540, [some (.ref _), some (.ref _), some (.ref _), some (.int _)], [], _)) rfl (u_ rfl) ?_
  refine w_t (pc := 540) (e_s := (3, 1, 2, 0, 0, .null, [])) (y_s := (541, [some (.ref _), some (.ref _), some (.ref _), some (.int _)], [.ref _], _)) rfl (u_ rfl) ?_
  refine w_t (pc := 541) (e_s := (3, 1, 0, 0, 0, .null, [])) (y_s := (542, [some (.ref _), some (.ref _), some (.ref _), some (.int _)], [.ref _, .ref _], _)) rfl (u_ rfl) ?_
  refine w_t (pc := 542) (e_s := (1, 1, 3, 0, 0, .null, [])) (y_s := (543, [some (.ref _), some (.ref _), some (.ref _), some (.int _)], [.int _, .ref _, .ref _], _)) rfl (u_ rfl) ?_
  refine w_t (pc := 543) (e_s := (0, 1, 0, 0, 0, .int 1, [])) (y_s := (544, [some (.ref _), some (.ref _), some (.ref _), some (.int _)], [.int _, .int _, .ref _, .ref _], _)) rfl (u_ rfl) ?_
  refine w_t (pc := 544) (e_s := (7, 1, 0, 0, 0, .null, [])) (y_s := (545, [some (.ref _), some (.ref _), some (.ref _), some (.int _)], [.int (_ + _), .ref _, .ref _], _)) rfl (u_ rfl) ?_
  refine w22x (pc := 545) (len_s := 1) rfl ?_
  refine w_t (pc := 546) (e_s := (3, 1, 0, 0, 0, .null, [])) (y_s := (547, [some (.ref _), some (.ref _), some (.ref _), some (.int _)], [.ref _, .int _, .ref _], _)) rfl (u_ rfl) ?_
  refine w_t (pc := 547) (e_s := (1, 1, 3, 0, 0, .null, [])) (y_s := (548, [some (.ref _), some (.ref _), some (.ref _), some (.int _)], [.int _, .ref _, .int _, .ref _], _)) rfl (u_ rfl) ?_
  refine w_t (pc := 548) (e_s := (0, 1, 0, 0, 0, .int 2, [])) (y_s := (549, [some (.ref _), some (.ref _), some (.ref _), some (.int _)], [.int _, .int _, .ref _, .int _, .ref _], _)) rfl (u_ rfl) ?_
  refine w_t (pc := 549) (e_s := (7, 1, 0, 0, 0, .null, [])) (y_s := (550, [some (.ref _), some (.ref _), some (.ref _), some (.int _)], [.int (_ + _), .ref _, .int _, .ref _], _)) rfl (u_ rfl) ?_
  refine w22x (pc := 550) (len_s := 1) rfl ?_
  refine w_t (pc := 551) (e_s := (3, 1, 0, 0, 0, .null, [])) (y_s := (552, [some (.ref _), some (.ref _), some (.ref _), some (.int _)], [.ref _, .int _, .int _, .ref _], _)) rfl (u_ rfl) ?_
  refine w_t (pc := 552) (e_s := (1, 1, 3, 0, 0, .null, [])) (y_s := (553, [some (.ref _), some (.ref _), some (.ref _), some (.int _)], [.int _, .ref _, .int _, .int _, .ref _], _)) rfl (u_ rfl) ?_
  refine w_t (pc := 553) (e_s := (0, 1, 0, 0, 0, .int 3, [])) (y_s := (554, [some (.ref _), some (.ref _), some (.ref _), some (.int _)], [.int _, .int _, .ref _, .int _, .int _, .ref _], _)) rfl (u_ rfl) ?_
  refine w_t (pc := 554) (e_s := (7, 1, 0, 0, 0, .null, [])) (y_s := (555, [some (.ref _), some (.ref _), some (.ref _), some (.int _)], [.int (_ + _), .ref _, .int _, .int _, .ref _], _)) rfl (u_ rfl) ?_
  refine w22x (pc := 555) (len_s := 1) rfl ?_
  refine wcI (pc := 556) (len_s := 3) rfl rfl (l := [some (.ref _), some (.int _), some (.int _), some (.int _), none]) rfl (wmI t_s (fun v2 h2 hk t_s => ?_))
  replace t_s := t_s hk
  refine w_t (pc := 559) (e_s := (42, 1, 0, 0, 0, .null, [])) (y_s := (560, [some (.ref _), some (.ref _), some (.ref _), some (.int _)], [], _)) rfl (u_ rfl) ?_
  refine w_t (pc := 560) (e_s := (17, 3, 1414, 0, 0, .null, [])) (y_s := (1414, [some (.ref _), some (.ref _), some (.ref _), some (.int _)], [], _)) rfl (u_ rfl) ?_
  refine w_t (pc := 1414) (e_s := (19, 3, 3, 0, 0, .int 6, [])) (y_s := (1417, [some (.ref _), some (.ref _), some (.ref _), some (.int _)], [], _)) rfl (u_ rfl) ?_
  refine w_t (pc := 1417) (e_s := (17, 3, 18, 0, 0, .null, [])) (y_s := (18, [some (.ref _), some (.ref _), some (.ref _), some (.int _)], [], _)) rfl (u_ rfl) ?_
  exact t_s
theorem sg_241_563 {F_s : Nat} {x3 : Int32} {h_s : zH} {K_s : Int32 → zH → Prop} (hk : hKn h_s) (t_s : wF F_s 105 (0, [some (.ref 6), some (.int (h_s.2.1 0 (zix (x3 + 1)))), some (.int (h_s.2.1 0 (zix (x3 + 2)))), some (.int (h_s.2.1 0 (zix (x3 + 3))))], [], h_s) (gI (fun v1_s h1 => hKn h1 → wF F_s 193 (0, [some (.ref 102), some (.int (h1.2.1 0 (zix (x3 + 1)))), some (.int (h1.2.1 0 (zix (x3 + 2)))), some (.int (h1.2.1 0 (zix (x3 + 3))))], [], h1) (gI (fun v2 h2 => hKn h2 → wF F_s 241 (18, [some (.ref 0), some (.ref 6), some (.ref 102), some (.int (x3 + 6))], [], h2) (gI K_s)))))) : wF (F_s + 1) 241 (563, [some (.ref 0), some (.ref 6), some (.ref 102), some (.int x3)], [], h_s) (gI K_s) := by
  refine w_0 (pc := 563) (e_s := (3, 1, 1, 0, 0, .null, [])) (y_s := (564, [some (.ref _), some (.ref _), some (.ref _), some (.int _)], [.ref _], _)) rfl (u_ rfl) ?_
  refine w_t (pc := 564) (e_s := (3, 1, 0, 0, 0, .null, [])) (y_s := (565, [some (.ref _), some (.ref _), some (.ref _), some (.int _)], [.ref _, .ref _], _)) rfl (u_ rfl) ?_
  refine w_t (pc := 565) (e_s := (1, 1, 3, 0, 0, .null, [])) (y_s := (566, [some (.ref _), some (.ref _), some (.ref _), some (.int _)], [.int _, .ref _, .ref _], _)) rfl (u_ rfl) ?_
  refine w_t (pc := 566) (e_s := (0, 1, 0, 0, 0, .int 1, [])) (y_s := (567, [some (.ref _), some (.ref _), some (.ref _), some (.int _)], [.int _, .int _, .ref _, .ref _], _)) rfl (u_ rfl) ?_
  refine w_t (pc := 567) (e_s := (7, 1, 0, 0, 0, .null, [])) (y_s := (568, [some (.ref _), some (.ref _), some (.ref _), some (.int _)], [.int (_ + _), .ref _, .ref _], _)) rfl (u_ rfl) ?_
  refine w22x (pc := 568) (len_s := 1) rfl ?_
  refine w_t (pc := 569) (e_s := (3, 1, 0, 0, 0, .null, [])) (y_s := (570, [some (.ref _), some (.ref _), some (.ref _), some (.int _)], [.ref _, .int _, .ref _], _)) rfl (u_ rfl) ?_
  refine w_t (pc := 570) (e_s := (1, 1, 3, 0, 0, .null, [])) (y_s := (571, [some (.ref _), some (.ref _), some (.ref _), some (.int _)], [.int _, .ref _, .int _, .ref _], _)) rfl (u_ rfl) ?_
  refine w_t (pc := 571) (e_s := (0, 1, 0, 0, 0, .int 2, [])) (y_s := (572, [some (.ref _), some (.ref _), some (.ref _), some (.int _)], [.int _, .int _, .ref _, .int _, .ref _], _)) rfl (u_ rfl) ?_
  refine w_t (pc := 572) (e_s := (7, 1, 0, 0, 0, .null, [])) (y_s := (573, [some (.ref _), some (.ref _), some (.ref _), some (.int _)], [.int (_ + _), .ref _, .int _, .ref _], _)) rfl (u_ rfl) ?_
  refine w22x (pc := 573) (len_s := 1) rfl ?_
  refine w_t (pc := 574) (e_s := (3, 1, 0, 0, 0, .null, [])) (y_s := (575, [some (.ref _), some (.ref _), some (.ref _), some (.int _)], [.ref _, .int _, .int _, .ref _], _)) rfl (u_ rfl) ?_
  refine w_t (pc := 575) (e_s := (1, 1, 3, 0, 0, .null, [])) (y_s := (576, [some (.ref _), some (.ref _), some (.ref _), some (.int _)], [.int _, .ref _, .int _, .int _, .ref _], _)) rfl (u_ rfl) ?_
  refine w_t (pc := 576) (e_s := (0, 1, 0, 0, 0, .int 3, [])) (y_s := (577, [some (.ref _), some (.ref _), some (.ref _), some (.int _)], [.int _, .int _, .ref _, .int _, .int _, .ref _], _)) rfl (u_ rfl) ?_
  refine w_t (pc := 577) (e_s := (7, 1, 0, 0, 0, .null, [])) (y_s := (578, [some (.ref _), some (.ref _), some (.ref _), some (.int _)], [.int (_ + _), .ref _, .int _, .int _, .ref _], _)) rfl (u_ rfl) ?_
  refine w22x (pc := 578) (len_s := 1) rfl ?_
  refine wcI (pc := 579) (len_s := 3) rfl rfl (l := [some (.ref _), some (.int _), some (.int _), some (.int _)]) rfl (wmI t_s (fun v1_s h1 hk t_s => ?_))
  replace t_s := t_s hk
  refine w_t (pc := 582) (e_s := (42, 1, 0, 0, 0, .null, [])) (y_s := (583, [some (.ref _), some (.ref _), some (.ref _), some (.int _)], [], _)) rfl (u_ rfl) ?_
  refine w_t (pc := 583) (e_s := (3, 1, 2, 0, 0, .null, [])) (y_s := (584, [some (.ref _), some (.ref _), some (.ref _), some (.int _)], [.ref _], _)) rfl (u_ rfl) ?_
  refine w_t (pc := 584) (e_s := (3, 1, 0, 0, 0, .null, [])) (y_s := (585, [some (.ref _), some (.ref _), some (.ref _), some (.int _)], [.ref _, .ref _], _)) rfl (u_ rfl) ?_
  refine w_t (pc := 585) (e_s := (1, 1, 3, 0, 0, .null, [])) (y_s := (586, [some (.ref _), some (.ref _), some (.ref _), some (.int _)], [.int _, .ref _, .ref _], _)) rfl (u_ rfl) ?_
  refine w_t (pc := 586) (e_s := (0, 1, 0, 0, 0, .int 1, [])) (y_s := (587, [some (.ref _), some (.ref _), some (.ref _), some (.int _)], [.int _, .int _, .ref _, .ref _], _)) rfl (u_ rfl) ?_
  refine w_t (pc := 587) (e_s := (7, 1, 0, 0, 0, .null, [])) (y_s := (588, [some (.ref _), some (.ref _), some (.ref _), some (.int _)], [.int (_ + _), .ref _, .ref _], _)) rfl (u_ rfl) ?_
  refine w22x (pc := 588) (len_s := 1) rfl ?_
  refine w_t (pc := 589) (e_s := (3, 1, 0, 0, 0, .null, [])) (y_s := (590, [some (.ref _), some (.ref _), some (.ref _), some (.int _)], [.ref _, .int _, .ref _], _)) rfl (u_ rfl) ?_
  refine w_t (pc := 590) (e_s := (1, 1, 3, 0, 0, .null, [])) (y_s := (591, [some (.ref _), some (.ref _), some (.ref _), some (.int _)], [.int _, .ref _, .int _, .ref _], _)) rfl (u_ rfl) ?_
  refine w_t (pc := 591) (e_s := (0, 1, 0, 0, 0, .int 2, [])) (y_s := (592, [some (.ref _), some (.ref _), some (.ref _), some (.int _)], [.int _, .int _, .ref _, .int _, .ref _], _)) rfl (u_ rfl) ?_
  refine w_t (pc := 592) (e_s := (7, 1, 0, 0, 0, .null, [])) (y_s := (593, [some (.ref _), some (.ref _), some (.ref _), some (.int _)], [.int (_ + _), .ref _, .int _, .ref _], _)) rfl (u_ rfl) ?_
  refine w22x (pc := 593) (len_s := 1) rfl ?_
  refine w_t (pc := 594) (e_s := (3, 1, 0, 0, 0, .null, [])) (y_s := (595, [some (.ref _), some (.ref _), some (.ref _), some (.int _)], [.ref _, .int _, .int _, .ref _], _)) rfl (u_ rfl) ?_
  refine w_t (pc := 595) (e_s := (1, 1, 3, 0, 0, .null, [])) (y_s := (596, [some (.ref _), some (.ref _), some (.ref _), some (.int _)], [.int _, .ref _, .int _, .int _, .ref _], _)) rfl (u_ rfl) ?_
  refine w_t (pc := 596) (e_s := (0, 1, 0, 0, 0, .int 3, [])) (y_s := (597, [some (.ref _), some (.ref _), some (.ref _), some (.int _)], [.int _, .int _, .ref _, .int _, .int _, .ref _], _)) rfl (u_ rfl) ?_
  refine w_t (pc := 597) (e_s := (7, 1, 0, 0, 0, .null, [])) (y_s := (598, [some (.ref _), some (.ref _), some (.ref _), some (.int _)], [.int (_ + _), .ref _, .int _, .int _, .ref _], _)) rfl (u_ rfl) ?_
  refine w22x (pc := 598) (len_s := 1) rfl ?_
  refine wcI (pc := 599) (len_s := 3) rfl rfl (l := [some (.ref _), some (.int _), some (.int _), some (.int _)]) rfl (wmI t_s (fun v2 h2 hk t_s => ?_))
  replace t_s := t_s hk
  refine w_t (pc := 602) (e_s := (42, 1, 0, 0, 0, .null, [])) (y_s := (603, [some (.ref _), some (.ref _), some (.ref _), some (.int _)], [], _)) rfl (u_ rfl) ?_
  refine w_t (pc := 603) (e_s := (17, 3, 1414, 0, 0, .null, [])) (y_s := (1414, [some (.ref _), some (.ref _), some (.ref _), some (.int _)], [], _)) rfl (u_ rfl) ?_
  refine w_t (pc := 1414) (e_s := (19, 3, 3, 0, 0, .int 6, [])) (y_s := (1417, [some (.ref _), some (.ref _), some (.ref _), some (.int _)], [], _)) rfl (u_ rfl) ?_
  refine w_t (pc := 1417) (e_s := (17, 3, 18, 0, 0, .null, [])) (y_s := (18, [some (.ref _), some (.ref _), some (.ref _), some (.int _)], [], _)) rfl (u_ rfl) ?_
  exact t_s
theorem sg_241_606 {F_s : Nat} {x3 : Int32} {h_s : zH} {K_s : Int32 → zH → Prop} (hk : hKn h_s) (t_s : wF F_s 106 (0, [some (.ref 6), some (.int (h_s.2.1 0 (zix (x3 + 1)))), some (.int (h_s.2.1 0 (zix (x3 + 2)))), none, none, none, none, none, none], [], h_s) (gI (fun v1_s h1 => hKn h1 → wF F_s 194 (0, [some (.ref 102), some (.int (h1.2.1 0 (zix (x3 + 1)))), some (.int (h1.2.1 0 (zix (x3 + 2)))), none, none, none], [], h1) (gI (fun v2 h2 => hKn h2 → wF F_s 241 (18, [some (.ref 0), some (.ref 6), some (.ref 102), some (.int (x3 + 6))], [], h2) (gI K_s)))))) : wF (F_s + 1) 241 (606, [some (.ref 0), some (.ref 6), some (.ref 102), some (.int x3)], [], h_s) (gI K_s) := by
  refine w_0 (pc := 606) (e_s := (3, 1, 1, 0, 0, .null, [])) (y_s := (607, [some (.ref _), some (.ref _), some (.ref _), some (.int _)], [.ref _], _)) rfl (u_ rfl) ?_
  refine w_t (pc := 607) (e_s := (3, 1, 0, 0, 0, .null, [])) (y_s := (608, [some (.ref _), some (.ref _), some (.ref _), some (.int _)], [.ref _, .ref _], _)) rfl (u_ rfl) ?_
  refine w_t (pc := 608) (e_s := (1, 1, 3, 0, 0, .null, [])) (y_s := (609, [some (.ref _), some (.ref _), some (.ref _), some (.int _)], [.int _, .ref _, .ref _], _)) rfl (u_ rfl) ?_
  refine w_t (pc := 609) (e_s := (0, 1, 0, 0, 0, .int 1, [])) (y_s := (610, [some (.ref _), some (.ref _), some (.ref _), some (.int _)], [.int _, .int _, .ref _, .ref _], _)) rfl (u_ rfl) ?_
  refine w_t (pc := 610) (e_s := (7, 1, 0, 0, 0, .null, [])) (y_s := (611, [some (.ref _), some (.ref _), some (.ref _), some (.int _)], [.int (_ + _), .ref _, .ref _], _)) rfl (u_ rfl) ?_
  refine w22x (pc := 611) (len_s := 1) rfl ?_
  refine w_t (pc := 612) (e_s := (3, 1, 0, 0, 0, .null, [])) (y_s := (613, [some (.ref _), some (.ref _), some (.ref _), some (.int _)], [.ref _, .int _, .ref _], _)) rfl (u_ rfl) ?_
  refine w_t (pc := 613) (e_s := (1, 1, 3, 0, 0, .null, [])) (y_s := (614, [some (.ref _), some (.ref _), some (.ref _), some (.int _)], [.int _, .ref _, .int _, .ref _], _)) rfl (u_ rfl) ?_
  refine w_t (pc := 614) (e_s := (0, 1, 0, 0, 0, .int 2, [])) (y_s := (615, [some (.ref _), some (.ref _), some (.ref _), some (.int _)], [.int _, .int _, .ref _, .int _, .ref _], _)) rfl (u_ rfl) ?_
  refine w_t (pc := 615) (e_s := (7, 1, 0, 0, 0, .null, [])) (y_s := (616, [some (.ref _), some (.ref _), some (.ref _), some (.int _)], [.int (_ + _), .ref _, .int _, .ref _], _)) rfl (u_ rfl) ?_
  refine w22x (pc := 616) (len_s := 1) rfl ?_
  refine wcI (pc := 617) (len_s := 3) rfl rfl (l := [some (.ref _), some (.int _), some (.int _), none, none, none, none, none, none]) rfl (wmI t_s (fun v1_s h1 hk t_s => ?_))
  replace t_s := t_s hk
  refine w_t (pc := 620) (e_s := (42, 1, 0, 0, 0, .null, [])) (y_s := (621, [some (.ref _), some (.ref _), some (.ref _), some (.int _)], [], _)) rfl (u_ rfl) ?_
  refine w_t (pc := 621) (e_s := (3, 1, 2, 0, 0, .null, [])) (y_s := (622, [some (.ref _), some (.ref _), some (.ref _), some (.int _)], [.ref _], _)) rfl (u_ rfl) ?_
  refine w_t (pc := 622) (e_s := (3, 1, 0, 0, 0, .null, [])) (y_s := (623, [some (.ref _), some (.ref _), some (.ref _), some (.int _)], [.ref _, .ref _], _)) rfl (u_ rfl) ?_
  refine w_t (pc := 623) (e_s := (1, 1, 3, 0, 0, .null, [])) (y_s := (624, [some (.ref _), some (.ref _), some (.ref _), some (.int _)], [.int _, .ref _, .ref _], _)) rfl (u_ rfl) ?_
  refine w_t (pc := 624) (e_s := (0, 1, 0, 0, 0, .int 1, [])) (y_s := (625, [some (.ref _), some (.ref _), some (.ref _), some (.int _)], [.int _, .int _, .ref _, .ref _], _)) rfl (u_ rfl) ?_
  refine w_t (pc := 625) (e_s := (7, 1, 0, 0, 0, .null, [])) (y_s := (626, [some (.ref _), some (.ref _), some (.ref _), some (.int _)], [.int (_ + _), .ref _, .ref _], _)) rfl (u_ rfl) ?_
  refine w22x (pc := 626) (len_s := 1) rfl ?_
  refine w_t (pc := 627) (e_s := (3, 1, 0, 0, 0, .null, [])) (y_s := (628, [some (.ref _), some (.ref _), some (.ref _), some (.int _)], [.ref _, .int _, .ref _], _)) rfl (u_ rfl) ?_
  refine w_t (pc := 628) (e_s := (1, 1, 3, 0, 0, .null, [])) (y_s := (629, [some (.ref _), some (.ref _), some (.ref _), some (.int _)], [.int _, .ref _, .int _, .ref _], _)) rfl (u_ rfl) ?_
  refine w_t (pc := 629) (e_s := (0, 1, 0, 0, 0, .int 2, [])) (y_s := (630, [some (.ref _), some (.ref _), some (.ref _), some (.int _)], [.int _, .int _, .ref _, .int _, .ref _], _)) rfl (u_ rfl) ?_
  refine w_t (pc := 630) (e_s := (7, 1, 0, 0, 0, .null, [])) (y_s := (631, [some (.ref _), some (.ref _), some (.ref _), some (.int _)], [.int (_ + _), .ref _, .int _, .ref _], _)) rfl (u_ rfl) ?_
  refine w22x (pc := 631) (len_s := 1) rfl ?_
  refine wcI (pc := 632) (len_s := 3) rfl rfl (l := [some (.ref _), some (.int _), some (.int _), none, none, none]) rfl (wmI t_s (fun v2 h2 hk t_s => ?_))
  replace t_s := t_s hk
  refine w_t (pc := 635) (e_s := (42, 1, 0, 0, 0, .null, [])) (y_s := (636, [some (.ref _), some (.ref _), some (.ref _), some (.int _)], [], _)) rfl (u_ rfl) ?_
  refine w_t (pc := 636) (e_s := (17, 3, 1414, 0, 0, .null, [])) (y_s := (1414, [some (.ref _), some (.ref _), some (.ref _), some (.int _)], [], _)) rfl (u_ rfl) ?_
  refine w_t (pc := 1414) (e_s := (19, 3, 3, 0, 0, .int 6, [])) (y_s := (1417, [some (.ref _), some (.ref _), some (.ref _), some (.int _)], [], _)) rfl (u_ rfl) ?_
  refine w_t (pc := 1417) (e_s := (17, 3, 18, 0, 0, .null, [])) (y_s := (18, [some (.ref _), some (.ref _), some (.ref _), some (.int _)], [], _)) rfl (u_ rfl) ?_
  exact t_s
theorem sg_241_639 {F_s : Nat} {x3 : Int32} {h_s : zH} {K_s : Int32 → zH → Prop} (hk : hKn h_s) (t_s : wF F_s 107 (0, [some (.ref 6), some (.int (h_s.2.1 0 (zix (x3 + 1))))], [], h_s) (gI (fun v1_s h1 => hKn h1 → wF F_s 199 (0, [some (.ref 102), some (.int (h1.2.1 0 (zix (x3 + 1))))], [], h1) (gI (fun v2 h2 => hKn h2 → (v1_s.toInt = v2.toInt → wF F_s 241 (18, [some (.ref 0), some (.ref 6), some (.ref 102), some (.int (x3 + 6))], [], h2) (gI K_s)) ∧ (¬ v1_s.toInt = v2.toInt → K_s 0 h2)))))) : wF (F_s + 1) 241 (639, [some (.ref 0), some (.ref 6), some (.ref 102), some (.int x3)], [], h_s) (gI K_s) := by
  refine w_0 (pc := 639) (e_s := (3, 1, 1, 0, 0, .null, [])) (y_s := (640, [some (.ref _), some (.ref _), some (.ref _), some (.int _)], [.ref _], _)) rfl (u_ rfl) ?_
  refine w_t (pc := 640) (e_s := (3, 1, 0, 0, 0, .null, [])) (y_s := (641, [some (.ref _), some (.ref _), some (.ref _), some (.int _)], [.ref _, .ref _], _)) rfl (u_ rfl) ?_
  refine w_t (pc := 641) (e_s := (1, 1, 3, 0, 0, .null, [])) (y_s := (642, [some (.ref _), some (.ref _), some (.ref _), some (.int _)], [.int _, .ref _, .ref _], _)) rfl (u_ rfl) ?_
  refine w_t (pc := 642) (e_s := (0, 1, 0, 0, 0, .int 1, [])) (y_s := (643, [some (.ref _), some (.ref _), some (.ref _), some (.int _)], [.int _, .int _, .ref _, .ref _], _)) rfl (u_ rfl) ?_
  refine w_t (pc := 643) (e_s := (7, 1, 0, 0, 0, .null, [])) (y_s := (644, [some (.ref _), some (.ref _), some (.ref _), some (.int _)], [.int (_ + _), .ref _, .ref _], _)) rfl (u_ rfl) ?_
  refine w22x (pc := 644) (len_s := 1) rfl ?_
  refine wcI (pc := 645) (len_s := 3) rfl rfl (l := [some (.ref _), some (.int _)]) rfl (wmI t_s (fun v1_s h1 hk t_s => ?_))
  replace t_s := t_s hk
  refine w_t (pc := 648) (e_s := (3, 1, 2, 0, 0, .null, [])) (y_s := (649, [some (.ref _), some (.ref _), some (.ref _), some (.int _)], [.ref _, .int _], _)) rfl (u_ rfl) ?_
  refine w_t (pc := 649) (e_s := (3, 1, 0, 0, 0, .null, [])) (y_s := (650, [some (.ref _), some (.ref _), some (.ref _), some (.int _)], [.ref _, .ref _, .int _], _)) rfl (u_ rfl) ?_
  refine w_t (pc := 650) (e_s := (1, 1, 3, 0, 0, .null, [])) (y_s := (651, [some (.ref _), some (.ref _), some (.ref _), some (.int _)], [.int _, .ref _, .ref _, .int _], _)) rfl (u_ rfl) ?_
  refine w_t (pc := 651) (e_s := (0, 1, 0, 0, 0, .int 1, [])) (y_s := (652, [some (.ref _), some (.ref _), some (.ref _), some (.int _)], [.int _, .int _, .ref _, .ref _, .int _], _)) rfl (u_ rfl) ?_
  refine w_t (pc := 652) (e_s := (7, 1, 0, 0, 0, .null, [])) (y_s := (653, [some (.ref _), some (.ref _), some (.ref _), some (.int _)], [.int (_ + _), .ref _, .ref _, .int _], _)) rfl (u_ rfl) ?_
  refine w22x (pc := 653) (len_s := 1) rfl ?_
  refine wcI (pc := 654) (len_s := 3) rfl rfl (l := [some (.ref _), some (.int _)]) rfl (wmI t_s (fun v2 h2 hk t_s => ?_))
  replace t_s := t_s hk
  refine wi0 (pc := 657) (len_s := 3) rfl rfl rfl (fun c3_s => ?_) (fun c3_s => ?_)
  · replace t_s := t_s.1 c3_s
    refine w_t (pc := 1414) (e_s := (19, 3, 3, 0, 0, .int 6, [])) (y_s := (1417, [some (.ref _), some (.ref _), some (.ref _), some (.int _)], [], _)) rfl (u_ rfl) ?_
    refine w_t (pc := 1417) (e_s := (17, 3, 18, 0, 0, .null, [])) (y_s := (18, [some (.ref _), some (.ref _), some (.ref _), some (.int _)], [], _)) rfl (u_ rfl) ?_
    exact t_s
  · replace t_s := t_s.2 c3_s
    refine w_t (pc := 660) (e_s := (0, 1, 0, 0, 0, .int 0, [])) (y_s := (661, [some (.ref _), some (.ref _), some (.ref _), some (.int _)], [.int _], _)) rfl (u_ rfl) ?_
    exact wrI (pc := 661) (len_s := 1) rfl hk t_s
theorem sg_241_662 {F_s : Nat} {x3 : Int32} {h_s : zH} {K_s : Int32 → zH → Prop} (hk : hKn h_s) (t_s : wF F_s 108 (0, [some (.ref 6)], [], h_s) (gI (fun v1_s h1 => hKn h1 → wF F_s 200 (0, [some (.ref 102), none, none, none, none, none], [], h1) (gI (fun v2 h2 => hKn h2 → wF F_s 241 (18, [some (.ref 0), some (.ref 6), some (.ref 102), some (.int (x3 + 6))], [], h2) (gI K_s)))))) : wF (F_s + 1) 241 (662, [some (.ref 0), some (.ref 6), some (.ref 102), some (.int x3)], [], h_s) (gI K_s) := by
  refine w_0 (pc := 662) (e_s := (3, 1, 1, 0, 0, .null, [])) (y_s := (663, [some (.ref _), some (.ref _), some (.ref _), some (.int _)], [.ref _], _)) rfl (u_ rfl) ?_
  refine wcI (pc := 663) (len_s := 3) rfl rfl (l := [some (.ref _)]) rfl (wmI t_s (fun v1_s h1 hk t_s => ?_))
  replace t_s := t_s hk
  refine w_t (pc := 666) (e_s := (42, 1, 0, 0, 0, .null, [])) (y_s := (667, [some (.ref _), some (.ref _), some (.ref _), some (.int _)], [], _)) rfl (u_ rfl) ?_
  refine w_t (pc := 667) (e_s := (3, 1, 2, 0, 0, .null, [])) (y_s := (668, [some (.ref _), some (.ref _), some (.ref _), some (.int _)], [.ref _], _)) rfl (u_ rfl) ?_
  refine wcI (pc := 668) (len_s := 3) rfl rfl (l := [some (.ref _), none, none, none, none, none]) rfl (wmI t_s (fun v2 h2 hk t_s => ?_))
  replace t_s := t_s hk
  refine w_t (pc := 671) (e_s := (42, 1, 0, 0, 0, .null, [])) (y_s := (672, [some (.ref _), some (.ref _), some (.ref _), some (.int _)], [], _)) rfl (u_ rfl) ?_
  refine w_t (pc := 672) (e_s := (17, 3, 1414, 0, 0, .null, [])) (y_s := (1414, [some (.ref _), some (.ref _), some (.ref _), some (.int _)], [], _)) rfl (u_ rfl) ?_
  refine w_t (pc := 1414) (e_s := (19, 3, 3, 0, 0, .int 6, [])) (y_s := (1417, [some (.ref _), some (.ref _), some (.ref _), some (.int _)], [], _)) rfl (u_ rfl) ?_
  refine w_t (pc := 1417) (e_s := (17, 3, 18, 0, 0, .null, [])) (y_s := (18, [some (.ref _), some (.ref _), some (.ref _), some (.int _)], [], _)) rfl (u_ rfl) ?_
  exact t_s
theorem sg_241_675 {F_s : Nat} {x3 : Int32} {h_s : zH} {K_s : Int32 → zH → Prop} (hk : hKn h_s) (t_s : wF F_s 109 (0, [some (.ref 6), some (.int (h_s.2.1 0 (zix (x3 + 1)))), none], [], h_s) (gI (fun v1_s h1 => hKn h1 → wF F_s 202 (0, [some (.ref 102), some (.int (h1.2.1 0 (zix (x3 + 1)))), none, none, none, none, none], [], h1) (gI (fun v2 h2 => hKn h2 → wF F_s 241 (18, [some (.ref 0), some (.ref 6), some (.ref 102), some (.int (x3 + 6))], [], h2) (gI K_s)))))) : wF (F_s + 1) 241 (675, [some (.ref 0), some (.ref 6), some (.ref 102), some (.int x3)], [], h_s) (gI K_s) := by
  refine w_0 (pc := 675) (e_s := (3, 1, 1, 0, 0, .null, [])) (y_s := (676, [some (.ref _), some (.ref _), some (.ref _), some (.int _)], [.ref _], _)) rfl (u_ rfl) ?_
  refine w_t (pc := 676) (e_s := (3, 1, 0, 0, 0, .null, [])) (y_s := (677, [some (.ref _), some (.ref _), some (.ref _), some (.int _)], [.ref _, .ref _], _)) rfl (u_ rfl) ?_
  refine w_t (pc := 677) (e_s := (1, 1, 3, 0, 0, .null, [])) (y_s := (678, [some (.ref _), some (.ref _), some (.ref _), some (.int _)], [.int _, .ref _, .ref _], _)) rfl (u_ rfl) ?_
  refine w_t (pc := 678) (e_s := (0, 1, 0, 0, 0, .int 1, [])) (y_s := (679, [some (.ref _), some (.ref _), some (.ref _), some (.int _)], [.int _, .int _, .ref _, .ref _], _)) rfl (u_ rfl) ?_
  refine w_t (pc := 679) (e_s := (7, 1, 0, 0, 0, .null, [])) (y_s := (680, [some (.ref _), some (.ref _), some (.ref _), some (.int _)], [.int (_ + _), .ref _, .ref _], _)) rfl (u_ rfl) ?_
  refine w22x (pc := 680) (len_s := 1) rfl ?_
  refine wcI (pc := 681) (len_s := 3) rfl rfl (l := [some (.ref _), some (.int _), none]) rfl (wmI t_s (fun v1_s h1 hk t_s => ?_))
  replace t_s := t_s hk
  refine w_t (pc := 684) (e_s := (42, 1, 0, 0, 0, .null, [])) (y_s := (685, [some (.ref _), some (.ref _), some (.ref _), some (.int _)], [], _)) rfl (u_ rfl) ?_
  refine w_t (pc := 685) (e_s := (3, 1, 2, 0, 0, .null, [])) (y_s := (686, [some (.ref _), some (.ref _), some (.ref _), some (.int _)], [.ref _], _)) rfl (u_ rfl) ?_
  refine w_t (pc := 686) (e_s := (3, 1, 0, 0, 0, .null, [])) (y_s := (687, [some (.ref _), some (.ref _), some (.ref _), some (.int _)], [.ref _, .ref _], _)) rfl (u_ rfl) ?_
  refine w_t (pc := 687) (e_s := (1, 1, 3, 0, 0, .null, [])) (y_s := (688, [some (.ref _), some (.ref _), some (.ref _), some (.int _)], [.int _, .ref _, .ref _], _)) rfl (u_ rfl) ?_
  refine w_t (pc := 688) (e_s := (0, 1, 0, 0, 0, .int 1, [])) (y_s := (689, [some (.ref _), some (.ref _), some (.ref _), some (.int _)], [.int _, .int _, .ref _, .ref _], _)) rfl (u_ rfl) ?_
  refine w_t (pc := 689) (e_s := (7, 1, 0, 0, 0, .null, [])) (y_s := (690, [some (.ref _), some (.ref _), some (.ref _), some (.int _)], [.int (_ + _), .ref _, .ref _], _)) rfl (u_ rfl) ?_
  refine w22x (pc := 690) (len_s := 1) rfl ?_
  refine wcI (pc := 691) (len_s := 3) rfl rfl (l := [some (.ref _), some (.int _), none, none, none, none, none]) rfl (wmI t_s (fun v2 h2 hk t_s => ?_))
  replace t_s := t_s hk
  refine w_t (pc := 694) (e_s := (42, 1, 0, 0, 0, .null, [])) (y_s := (695, [some (.ref _), some (.ref _), some (.ref _), some (.int _)], [], _)) rfl (u_ rfl) ?_
  refine w_t (pc := 695) (e_s := (17, 3, 1414, 0, 0, .null, [])) (y_s := (1414, [some (.ref _), some (.ref _), some (.ref _), some (.int _)], [], _)) rfl (u_ rfl) ?_
  refine w_t (pc := 1414) (e_s := (19, 3, 3, 0, 0, .int 6, [])) (y_s := (1417, [some (.ref _), some (.ref _), some (.ref _), some (.int _)], [], _)) rfl (u_ rfl) ?_
  refine w_t (pc := 1417) (e_s := (17, 3, 18, 0, 0, .null, [])) (y_s := (18, [some (.ref _), some (.ref _), some (.ref _), some (.int _)], [], _)) rfl (u_ rfl) ?_
  exact t_s
theorem sg_241_698 {F_s : Nat} {x3 : Int32} {h_s : zH} {K_s : Int32 → zH → Prop} (hk : hKn h_s) (t_s : wF F_s 110 (0, [some (.ref 6), some (.int (h_s.2.1 0 (zix (x3 + 1)))), some (.int (h_s.2.1 0 (zix (x3 + 2)))), none], [], h_s) (gI (fun v1_s h1 => hKn h1 → wF F_s 205 (0, [some (.ref 102), some (.int (h1.2.1 0 (zix (x3 + 1)))), some (.int (h1.2.1 0 (zix (x3 + 2))))], [], h1) (gI (fun v2 h2 => hKn h2 → wF F_s 241 (18, [some (.ref 0), some (.ref 6), some (.ref 102), some (.int (x3 + 6))], [], h2) (gI K_s)))))) : wF (F_s + 1) 241 (698, [some (.ref 0), some (.ref 6), some (.ref 102), some (.int x3)], [], h_s) (gI K_s) := by
  refine w_0 (pc := 698) (e_s := (3, 1, 1, 0, 0, .null, [])) (y_s := (699, [some (.ref _), some (.ref _), some (.ref _), some (.int _)], [.ref _], _)) rfl (u_ rfl) ?_
  refine w_t (pc := 699) (e_s := (3, 1, 0, 0, 0, .null, [])) (y_s := (700, [some (.ref _), some (.ref _), some (.ref _), some (.int _)], [.ref _, .ref _], _)) rfl (u_ rfl) ?_
  refine w_t (pc := 700) (e_s := (1, 1, 3, 0, 0, .null, [])) (y_s := (701, [some (.ref _), some (.ref _), some (.ref _), some (.int _)], [.int _, .ref _, .ref _], _)) rfl (u_ rfl) ?_
  refine w_t (pc := 701) (e_s := (0, 1, 0, 0, 0, .int 1, [])) (y_s := (702, [some (.ref _), some (.ref _), some (.ref _), some (.int _)], [.int _, .int _, .ref _, .ref _], _)) rfl (u_ rfl) ?_
  refine w_t (pc := 702) (e_s := (7, 1, 0, 0, 0, .null, [])) (y_s := (703, [some (.ref _), some (.ref _), some (.ref _), some (.int _)], [.int (_ + _), .ref _, .ref _], _)) rfl (u_ rfl) ?_
  refine w22x (pc := 703) (len_s := 1) rfl ?_
  refine w_t (pc := 704) (e_s := (3, 1, 0, 0, 0, .null, [])) (y_s := (705, [some (.ref _), some (.ref _), some (.ref _), some (.int _)], [.ref _, .int _, .ref _], _)) rfl (u_ rfl) ?_
  refine w_t (pc := 705) (e_s := (1, 1, 3, 0, 0, .null, [])) (y_s := (706, [some (.ref _), some (.ref _), some (.ref _), some (.int _)], [.int _, .ref _, .int _, .ref _], _)) rfl (u_ rfl) ?_
  refine w_t (pc := 706) (e_s := (0, 1, 0, 0, 0, .int 2, [])) (y_s := (707, [some (.ref _), some (.ref _), some (.ref _), some (.int _)], [.int _, .int _, .ref _, .int _, .ref _], _)) rfl (u_ rfl) ?_
  refine w_t (pc := 707) (e_s := (7, 1, 0, 0, 0, .null, [])) (y_s := (708, [some (.ref _), some (.ref _), some (.ref _), some (.int _)], [.int (_ + _), .ref _, .int _, .ref _], _)) rfl (u_ rfl) ?_
  refine w22x (pc := 708) (len_s := 1) rfl ?_
  refine wcI (pc := 709) (len_s := 3) rfl rfl (l := [some (.ref _), some (.int _), some (.int _), none]) rfl (wmI t_s (fun v1_s h1 hk t_s => ?_))
  replace t_s := t_s hk
  refine w_t (pc := 712) (e_s := (42, 1, 0, 0, 0, .null, [])) (y_s := (713, [some (.ref _), some (.ref _), some (.ref _), some (.int _)], [], _)) rfl (u_ rfl) ?_
  refine w_t (pc := 713) (e_s := (3, 1, 2, 0, 0, .null, [])) (y_s := (714, [some (.ref _), some (.ref _), some (.ref _), some (.int _)], [.ref _], _)) rfl (u_ rfl) ?_
  refine w_t (pc := 714) (e_s := (3, 1, 0, 0, 0, .null, [])) (y_s := (715, [some (.ref _), some (.ref _), some (.ref _), some (.int _)], [.ref _, .ref _], _)) rfl (u_ rfl) ?_
  refine w_t (pc := 715) (e_s := (1, 1, 3, 0, 0, .null, [])) (y_s := (716, [some (.ref _), some (.ref _), some (.ref _), some (.int _)], [.int _, .ref _, .ref _], _)) rfl (u_ rfl) ?_
  refine w_t (pc := 716) (e_s := (0, 1, 0, 0, 0, .int 1, [])) (y_s := (717, [some (.ref _), some (.ref _), some (.ref _), some (.int _)], [.int _, .int _, .ref _, .ref _], _)) rfl (u_ rfl) ?_
  refine w_t (pc := 717) (e_s := (7, 1, 0, 0, 0, .null, [])) (y_s := (718, [some (.ref _), some (.ref _), some (.ref _), some (.int _)], [.int (_ + _), .ref _, .ref _], _)) rfl (u_ rfl) ?_
  refine w22x (pc := 718) (len_s := 1) rfl ?_
  refine w_t (pc := 719) (e_s := (3, 1, 0, 0, 0, .null, [])) (y_s := (720, [some (.ref _), some (.ref _), some (.ref _), some (.int _)], [.ref _, .int _, .ref _], _)) rfl (u_ rfl) ?_
  refine w_t (pc := 720) (e_s := (1, 1, 3, 0, 0, .null, [])) (y_s := (721, [some (.ref _), some (.ref _), some (.ref _), some (.int _)], [.int _, .ref _, .int _, .ref _], _)) rfl (u_ rfl) ?_
  refine w_t (pc := 721) (e_s := (0, 1, 0, 0, 0, .int 2, [])) (y_s := (722, [some (.ref _), some (.ref _), some (.ref _), some (.int _)], [.int _, .int _, .ref _, .int _, .ref _], _)) rfl (u_ rfl) ?_
  refine w_t (pc := 722) (e_s := (7, 1, 0, 0, 0, .null, [])) (y_s := (723, [some (.ref _), some (.ref _), some (.ref _), some (.int _)], [.int (_ + _), .ref _, .int _, .ref _], _)) rfl (u_ rfl) ?_
  refine w22x (pc := 723) (len_s := 1) rfl ?_
  refine wcI (pc := 724) (len_s := 3) rfl rfl (l := [some (.ref _), some (.int _), some (.int _)]) rfl (wmI t_s (fun v2 h2 hk t_s => ?_))
  replace t_s := t_s hk
  refine w_t (pc := 727) (e_s := (42, 1, 0, 0, 0, .null, [])) (y_s := (728, [some (.ref _), some (.ref _), some (.ref _), some (.int _)], [], _)) rfl (u_ rfl) ?_
  refine w_t (pc := 728) (e_s := (17, 3, 1414, 0, 0, .null, [])) (y_s := (1414, [some (.ref _), some (.ref _), some (.ref _), some (.int _)], [], _)) rfl (u_ rfl) ?_
  refine w_t (pc := 1414) (e_s := (19, 3, 3, 0, 0, .int 6, [])) (y_s := (1417, [some (.ref _), some (.ref _), some (.ref _), some (.int _)], [], _)) rfl (u_ rfl) ?_
  refine w_t (pc := 1417) (e_s := (17, 3, 18, 0, 0, .null, [])) (y_s := (18, [some (.ref _), some (.ref _), some (.ref _), some (.int _)], [], _)) rfl (u_ rfl) ?_
  exact t_s
theorem sg_241_731 {F_s : Nat} {x3 : Int32} {h_s : zH} {K_s : Int32 → zH → Prop} (hk : hKn h_s) (t_s : wF F_s 111 (0, [some (.ref 6), some (.int (h_s.2.1 0 (zix (x3 + 1)))), some (.int (h_s.2.1 0 (zix (x3 + 2)))), some (.int (h_s.2.1 0 (zix (x3 + 3)))), none, none, none, none, none], [], h_s) (gI (fun v1_s h1 => hKn h1 → wF F_s 206 (0, [some (.ref 102), some (.int (h1.2.1 0 (zix (x3 + 1)))), some (.int (h1.2.1 0 (zix (x3 + 2)))), some (.int (h1.2.1 0 (zix (x3 + 3)))), none, none, none, none], [], h1) (gI (fun v2 h2 => hKn h2 → wF F_s 241 (18, [some (.ref 0), some (.ref 6), some (.ref 102), some (.int (x3 + 6))], [], h2) (gI K_s)))))) : wF (F_s + 1) 241 (731, [some (.ref 0), some (.ref 6), some (.ref 102), some (.int x3)], [], h_s) (gI K_s) := by
  refine w_0 (pc := 731) (e_s := (3, 1, 1, 0, 0, .null, [])) (y_s := (732, [some (.ref _), some (.ref _), some (.ref _), some (.int _)], [.ref _], _)) rfl (u_ rfl) ?_
  refine w_t (pc := 732) (e_s := (3, 1, 0, 0, 0, .null, [])) (y_s := (733, [some (.ref _), some (.ref _), some (.ref _), some (.int _)], [.ref _, .ref _], _)) rfl (u_ rfl) ?_
  refine w_t (pc := 733) (e_s := (1, 1, 3, 0, 0, .null, [])) (y_s := (734, [some (.ref _), some (.ref _), some (.ref _), some (.int _)], [.int _, .ref _, .ref _], _)) rfl (u_ rfl) ?_
  refine w_t (pc := 734) (e_s := (0, 1, 0, 0, 0, .int 1, [])) (y_s := (735, [some (.ref _), some (.ref _), some (.ref _), some (.int _)], [.int _, .int _, .ref _, .ref _], _)) rfl (u_ rfl) ?_
  refine w_t (pc := 735) (e_s := (7, 1, 0, 0, 0, .null, [])) (y_s := (736, [some (.ref _), some (.ref _), some (.ref _), some (.int _)], [.int (_ + _), .ref _, .ref _], _)) rfl (u_ rfl) ?_
  refine w22x (pc := 736) (len_s := 1) rfl ?_
  refine w_t (pc := 737) (e_s := (3, 1, 0, 0, 0, .null, [])) (y_s := (738, [some (.ref _), some (.ref _), some (.ref _), some (.int _)], [.ref _, .int _, .ref _], _)) rfl (u_ rfl) ?_
  refine w_t (pc := 738) (e_s := (1, 1, 3, 0, 0, .null, [])) (y_s := (739, [some (.ref _), some (.ref _), some (.ref _), some (.int _)], [.int _, .ref _, .int _, .ref _], _)) rfl (u_ rfl) ?_
  refine w_t (pc := 739) (e_s := (0, 1, 0, 0, 0, .int 2, [])) (y_s := (740, [some (.ref _), some (.ref _), some (.ref _), some (.int _)], [.int _, .int _, .ref _, .int _, .ref _], _)) rfl (u_ rfl) ?_
  refine w_t (pc := 740) (e_s := (7, 1, 0, 0, 0, .null, [])) (y_s := (741, [some (.ref _), some (.ref _), some (.ref _), some (.int _)], [.int (_ + _), .ref _, .int _, .ref _], _)) rfl (u_ rfl) ?_
  refine w22x (pc := 741) (len_s := 1) rfl ?_
  refine w_t (pc := 742) (e_s := (3, 1, 0, 0, 0, .null, [])) (y_s := (743, [some (.ref _), some (.ref _), some (.ref _), some (.int _)], [.ref _, .int _, .int _, .ref _], _)) rfl (u_ rfl) ?_
  refine w_t (pc := 743) (e_s := (1, 1, 3, 0, 0, .null, [])) (y_s := (744, [some (.ref _), some (.ref _), some (.ref _), some (.int _)], [.int _, .ref _, .int _, .int _, .ref _], _)) rfl (u_ rfl) ?_
  refine w_t (pc := 744) (e_s := (0, 1, 0, 0, 0, .int 3, [])) (y_s := (745, [some (.ref _), some (.ref _), some (.ref _), some (.int _)], [.int _, .int _, .ref _, .int _, .int _, .ref _], _)) rfl (u_ rfl) ?_
  refine w_t (pc := 745) (e_s := (7, 1, 0, 0, 0, .null, [])) (y_s := (746, [some (.ref _), some (.ref _), some (.ref _), some (.int _)], [.int (_ + _), .ref _, .int _, .int _, .ref _], _)) rfl (u_ rfl) ?_
  refine w22x (pc := 746) (len_s := 1) rfl ?_
  refine wcI (pc := 747) (len_s := 3) rfl rfl (l := [some (.ref _), some (.int _), some (.int _), some (.int _), none, none, none, none, none]) rfl (wmI t_s (fun v1_s h1 hk t_s => ?_))
  replace t_s := t_s hk
  refine w_t (pc := 750) (e_s := (42, 1, 0, 0, 0, .null, [])) (y_s := (751, [some (.ref _), some (.ref _), some (.ref _), some (.int _)], [], _)) rfl (u_ rfl) ?_
  refine w_t (pc := 751) (e_s := (3, 1, 2, 0, 0, .null, [])) (y_s := (752, [some (.ref _), some (.ref _), some (.ref _), some (.int _)], [.ref _], _)) rfl (u_ rfl) ?_
  refine w_t (pc := 752) (e_s := (3, 1, 0, 0, 0, .null, [])) (y_s := (753, [some (.ref _), some (.ref _), some (.ref _), some (.int _)], [.ref _, .ref _], _)) rfl (u_ rfl) ?_
  refine w_t (pc := 753) (e_s := (1, 1, 3, 0, 0, .null, [])) (y_s := (754, [some (.ref _), some (.ref _), some (.ref _), some (.int _)], [.int _, .ref _, .ref _], _)) rfl (u_ rfl) ?_
  refine w_t (pc := 754) (e_s := (0, 1, 0, 0, 0, .int 1, [])) (y_s := (755, [some (.ref _), some (.ref _), some (.ref _), some (.int _)], [.int _, .int _, .ref _, .ref _], _)) rfl (u_ rfl) ?_
  refine w_t (pc := 755) (e_s := (7, 1, 0, 0, 0, .null, [])) (y_s := (756, [some (.ref _), some (.ref _), some (.ref _), some (.int _)], [.int (_ + _), .ref _, .ref _], _)) rfl (u_ rfl) ?_
  refine w22x (pc := 756) (len_s := 1) rfl ?_
  refine w_t (pc := 757) (e_s := (3, 1, 0, 0, 0, .null, [])) (y_s := (758, [some (.ref _), some (.ref _), some (.ref _), some (.int _)], [.ref _, .int _, .ref _], _)) rfl (u_ rfl) ?_
  refine w_t (pc := 758) (e_s := (1, 1, 3, 0, 0, .null, [])) (y_s := (759, [some (.ref _), some (.ref _), some (.ref _), some (.int _)], [.int _, .ref _, .int _, .ref _], _)) rfl (u_ rfl) ?_
  refine w_t (pc := 759) (e_s := (0, 1, 0, 0, 0, .int 2, [])) (y_s := (760, [some (.ref _), some (.ref _), some (.ref _), some (.int _)], [.int _, .int _, .ref _, .int _, .ref _], _)) rfl (u_ rfl) ?_
  refine w_t (pc := 760) (e_s := (7, 1, 0, 0, 0, .null, [])) (y_s := (761, [some (.ref _), some (.ref _), some (.ref _), some (.int _)], [.int (_ + _), .ref _, .int _, .ref _], _)) rfl (u_ rfl) ?_
  refine w22x (pc := 761) (len_s := 1) rfl ?_
  refine w_t (pc := 762) (e_s := (3, 1, 0, 0, 0, .null, [])) (y_s := (763, [some (.ref _), some (.ref _), some (.ref _), some (.int _)], [.ref _, .int _, .int _, .ref _], _)) rfl (u_ rfl) ?_
  refine w_t (pc := 763) (e_s := (1, 1, 3, 0, 0, .null, [])) (y_s := (764, [some (.ref _), some (.ref _), some (.ref _), some (.int _)], [.int _, .ref _, .int _, .int _, .ref _], _)) rfl (u_ rfl) ?_
  refine w_t (pc := 764) (e_s := (0, 1, 0, 0, 0, .int 3, [])) (y_s := (765, [some (.ref _), some (.ref _), some (.ref _), some (.int _)], [.int _, .int _, .ref _, .int _, .int _, .ref _], _)) rfl (u_ rfl) ?_
  refine w_t (pc := 765) (e_s := (7, 1, 0, 0, 0, .null, [])) (y_s := (766, [some (.ref _), some (.ref _), some (.ref _), some (.int _)], [.int (_ + _), .ref _, .int _, .int _, .ref _], _)) rfl (u_ rfl) ?_
  refine w22x (pc := 766) (len_s := 1) rfl ?_
  refine wcI (pc := 767) (len_s := 3) rfl rfl (l := [some (.ref _), some (.int _), some (.int _), some (.int _), none, none, none, none]) rfl (wmI t_s (fun v2 h2 hk t_s => ?_))
  replace t_s := t_s hk
  refine w_t (pc := 770) (e_s := (42, 1, 0, 0, 0, .null, [])) (y_s := (771, [some (.ref _), some (.ref _), some (.ref _), some (.int _)], [], _)) rfl (u_ rfl) ?_
  refine w_t (pc := 771) (e_s := (17, 3, 1414, 0, 0, .null, [])) (y_s := (1414, [some (.ref _), some (.ref _), some (.ref _), some (.int _)], [], _)) rfl (u_ rfl) ?_
  refine w_t (pc := 1414) (e_s := (19, 3, 3, 0, 0, .int 6, [])) (y_s := (1417, [some (.ref _), some (.ref _), some (.ref _), some (.int _)], [], _)) rfl (u_ rfl) ?_
  refine w_t (pc := 1417) (e_s := (17, 3, 18, 0, 0, .null, [])) (y_s := (18, [some (.ref _), some (.ref _), some (.ref _), some (.int _)], [], _)) rfl (u_ rfl) ?_
  exact t_s
theorem sg_241_774 {F_s : Nat} {x3 : Int32} {h_s : zH} {K_s : Int32 → zH → Prop} (hk : hKn h_s) (t_s : wF F_s 112 (0, [some (.ref 6), some (.int (h_s.2.1 0 (zix (x3 + 1)))), some (.int (h_s.2.1 0 (zix (x3 + 2)))), some (.int (h_s.2.1 0 (zix (x3 + 3)))), none], [], h_s) (gI (fun v1_s h1 => hKn h1 → wF F_s 208 (0, [some (.ref 102), some (.int (h1.2.1 0 (zix (x3 + 1)))), some (.int (h1.2.1 0 (zix (x3 + 2)))), some (.int (h1.2.1 0 (zix (x3 + 3)))), none], [], h1) (gI (fun v2 h2 => hKn h2 → wF F_s 241 (18, [some (.ref 0), some (.ref 6), some (.ref 102), some (.int (x3 + 6))], [], h2) (gI K_s)))))) : wF (F_s + 1) 241 (774, [some (.ref 0), some (.ref 6), some (.ref 102), some (.int x3)], [], h_s) (gI K_s) := by
  refine w_0 (pc := 774) (e_s := (3, 1, 1, 0, 0, .null, [])) (y_s := (775, [some (.ref _), some (.ref _), some (.ref _), some (.int _)], [.ref _], _)) rfl (u_ rfl) ?_
  refine w_t (pc := 775) (e_s := (3, 1, 0, 0, 0, .null, [])) (y_s := (776, [some (.ref _), some (.ref _), some (.ref _), some (.int _)], [.ref _, .ref _], _)) rfl (u_ rfl) ?_
  refine w_t (pc := 776) (e_s := (1, 1, 3, 0, 0, .null, [])) (y_s := (777, [some (.ref _), some (.ref _), some (.ref _), some (.int _)], [.int _, .ref _, .ref _], _)) rfl (u_ rfl) ?_
  refine w_t (pc := 777) (e_s := (0, 1, 0, 0, 0, .int 1, [])) (y_s := (778, [some (.ref _), some (.ref _), some (.ref _), some (.int _)], [.int _, .int _, .ref _, .ref _], _)) rfl (u_ rfl) ?_
  refine w_t (pc := 778) (e_s := (7, 1, 0, 0, 0, .null, [])) (y_s := (779, [some (.ref _), some (.ref _), some (.ref _), some (.int _)], [.int (_ + _), .ref _, .ref _], _)) rfl (u_ rfl) ?_
  refine w22x (pc := 779) (len_s := 1) rfl ?_
  refine w_t (pc := 780) (e_s := (3, 1, 0, 0, 0, .null, [])) (y_s := (781, [some (.ref _), some (.ref _), some (.ref _), some (.int _)], [.ref _, .int _, .ref _], _)) rfl (u_ rfl) ?_
  refine w_t (pc := 781) (e_s := (1, 1, 3, 0, 0, .null, [])) (y_s := (782, [some (.ref _), some (.ref _), some (.ref _), some (.int _)], [.int _, .ref _, .int _, .ref _], _)) rfl (u_ rfl) ?_
  refine w_t (pc := 782) (e_s := (0, 1, 0, 0, 0, .int 2, [])) (y_s := (783, [some (.ref _), some (.ref _), some (.ref _), some (.int _)], [.int _, .int _, .ref _, .int _, .ref _], _)) rfl (u_ rfl) ?_
  refine w_t (pc := 783) (e_s := (7, 1, 0, 0, 0, .null, [])) (y_s := (784, [some (.ref _), some (.ref _), some (.ref _), some (.int _)], [.int (_ + _), .ref _, .int _, .ref _], _)) rfl (u_ rfl) ?_
  refine w22x (pc := 784) (len_s := 1) rfl ?_
  refine w_t (pc := 785) (e_s := (3, 1, 0, 0, 0, .null, [])) (y_s := (786, [some (.ref _), some (.ref _), some (.ref _), some (.int _)], [.ref _, .int _, .int _, .ref _], _)) rfl (u_ rfl) ?_
  refine w_t (pc := 786) (e_s := (1, 1, 3, 0, 0, .null, [])) (y_s := (787, [some (.ref _), some (.ref _), some (.ref _), some (.int _)], [.int _, .ref _, .int _, .int _, .ref _], _)) rfl (u_ rfl) ?_
  refine w_t (pc := 787) (e_s := (0, 1, 0, 0, 0, .int 3, [])) (y_s := (788, [some (.ref _), some (.ref _), some (.ref _), some (.int _)], [.int _, .int _, .ref _, .int _, .int _, .ref _], _)) rfl (u_ rfl) ?_
  refine w_t (pc := 788) (e_s := (7, 1, 0, 0, 0, .null, [])) (y_s := (789, [some (.ref _), some (.ref _), some (.ref _), some (.int _)], [.int (_ + _), .ref _, .int _, .int _, .ref _], _)) rfl (u_ rfl) ?_
  refine w22x (pc := 789) (len_s := 1) rfl ?_
  refine wcI (pc := 790) (len_s := 3) rfl rfl (l := [some (.ref _), some (.int _), some (.int _), some (.int _), none]) rfl (wmI t_s (fun v1_s h1 hk t_s => ?_))
  replace t_s := t_s hk
  refine w_t (pc := 793) (e_s := (42, 1, 0, 0, 0, .null, [])) (y_s := (794, [some (.ref _), some (.ref _), some (.ref _), some (.int _)], [], _)) rfl (u_ rfl) ?_
  refine w_t (pc := 794) (e_s := (3, 1, 2, 0, 0, .null, [])) (y_s := (795, [some (.ref _), some (.ref _), some (.ref _), some (.int _)], [.ref _], _)) rfl (u_ rfl) ?_
  refine w_t (pc := 795) (e_s := (3, 1, 0, 0, 0, .null, [])) (y_s := (796, [some (.ref _), some (.ref _), some (.ref _), some (.int _)], [.ref _, .ref _], _)) rfl (u_ rfl) ?_
  refine w_t (pc := 796) (e_s := (1, 1, 3, 0, 0, .null, [])) (y_s := (797, [some (.ref _), some (.ref _), some (.ref _), some (.int _)], [.int _, .ref _, .ref _], _)) rfl (u_ rfl) ?_
  refine w_t (pc := 797) (e_s := (0, 1, 0, 0, 0, .int 1, [])) (y_s := (798, [some (.ref _), some (.ref _), some (.ref _), some (.int _)], [.int _, .int _, .ref _, .ref _], _)) rfl (u_ rfl) ?_
  refine w_t (pc := 798) (e_s := (7, 1, 0, 0, 0, .null, [])) (y_s := (799, [some (.ref _), some (.ref _), some (.ref _), some (.int _)], [.int (_ + _), .ref _, .ref _], _)) rfl (u_ rfl) ?_
  refine w22x (pc := 799) (len_s := 1) rfl ?_
  refine w_t (pc := 800) (e_s := (3, 1, 0, 0, 0, .null, [])) (y_s := (801, [some (.ref _), some (.ref _), some (.ref _), some (.int _)], [.ref _, .int _, .ref _], _)) rfl (u_ rfl) ?_
  refine w_t (pc := 801) (e_s := (1, 1, 3, 0, 0, .null, [])) (y_s := (802, [some (.ref _), some (.ref _), some (.ref _), some (.int _)], [.int _, .ref _, .int _, .ref _], _)) rfl (u_ rfl) ?_
  refine w_t (pc := 802) (e_s := (0, 1, 0, 0, 0, .int 2, [])) (y_s := (803, [some (.ref _), some (.ref _), some (.ref _), some (.int _)], [.int _, .int _, .ref _, .int _, .ref _], _)) rfl (u_ rfl) ?_
  refine w_t (pc := 803) (e_s := (7, 1, 0, 0, 0, .null, [])) (y_s := (804, [some (.ref _), some (.ref _), some (.ref _), some (.int _)], [.int (_ + _), .ref _, .int _, .ref _], _)) rfl (u_ rfl) ?_
  refine w22x (pc := 804) (len_s := 1) rfl ?_
  refine w_t (pc := 805) (e_s := (3, 1, 0, 0, 0, .null, [])) (y_s := (806, [some (.ref _), some (.ref _), some (.ref _), some (.int _)], [.ref _, .int _, .int _, .ref _], _)) rfl (u_ rfl) ?_
  refine w_t (pc := 806) (e_s := (1, 1, 3, 0, 0, .null, [])) (y_s := (807, [some (.ref _), some (.ref _), some (.ref _), some (.int _)], [.int _, .ref _, .int _, .int _, .ref _], _)) rfl (u_ rfl) ?_
  refine w_t (pc := 807) (e_s := (0, 1, 0, 0, 0, .int 3, [])) (y_s := (808, [some (.ref _), some (.ref _), some (.ref _), some (.int _)], [.int _, .int _, .ref _, .int _, .int _, .ref _], _)) rfl (u_ rfl) ?_
  refine w_t (pc := 808) (e_s := (7, 1, 0, 0, 0, .null, [])) (y_s := (809, [some (.ref _), some (.ref _), some (.ref _), some (.int _)], [.int (_ + _), .ref _, .int _, .int _, .ref _], _)) rfl (u_ rfl) ?_
  refine w22x (pc := 809) (len_s := 1) rfl ?_
  refine wcI (pc := 810) (len_s := 3) rfl rfl (l := [some (.ref _), some (.int _), some (.int _), some (.int _), none]) rfl (wmI t_s (fun v2 h2 hk t_s => ?_))
  replace t_s := t_s hk
  refine w_t (pc := 813) (e_s := (42, 1, 0, 0, 0, .null, [])) (y_s := (814, [some (.ref _), some (.ref _), some (.ref _), some (.int _)], [], _)) rfl (u_ rfl) ?_
  refine w_t (pc := 814) (e_s := (17, 3, 1414, 0, 0, .null, [])) (y_s := (1414, [some (.ref _), some (.ref _), some (.ref _), some (.int _)], [], _)) rfl (u_ rfl) ?_
  refine w_t (pc := 1414) (e_s := (19, 3, 3, 0, 0, .int 6, [])) (y_s := (1417, [some (.ref _), some (.ref _), some (.ref _), some (.int _)], [], _)) rfl (u_ rfl) ?_
  refine w_t (pc := 1417) (e_s := (17, 3, 18, 0, 0, .null, [])) (y_s := (18, [some (.ref _), some (.ref _), some (.ref _), some (.int _)], [], _)) rfl (u_ rfl) ?_
  exact t_s
theorem sg_241_817 {F_s : Nat} {x3 : Int32} {h_s : zH} {K_s : Int32 → zH → Prop} (hk : hKn h_s) (t_s : wF F_s 116 (0, [some (.ref 6), some (.int (h_s.2.1 0 (zix (x3 + 1)))), some (.int (h_s.2.1 0 (zix (x3 + 2)))), some (.int (h_s.2.1 0 (zix (x3 + 3)))), some (.int (h_s.2.1 0 (zix (x3 + 4)))), none, none, none, none, none, none, none, none, none], [], h_s) (gI (fun v1_s h1 => hKn h1 → wF F_s 209 (0, [some (.ref 102), some (.int (h1.2.1 0 (zix (x3 + 1)))), some (.int (h1.2.1 0 (zix (x3 + 2)))), some (.int (h1.2.1 0 (zix (x3 + 3)))), some (.int (h1.2.1 0 (zix (x3 + 4)))), none, none, none, none, none, none], [], h1) (gI (fun v2 h2 => hKn h2 → wF F_s 241 (18, [some (.ref 0), some (.ref 6), some (.ref 102), some (.int (x3 + 6))], [], h2) (gI K_s)))))) : wF (F_s + 1) 241 (817, [some (.ref 0), some (.ref 6), some (.ref 102), some (.int x3)], [], h_s) (gI K_s) := by
  refine w_0 (pc := 817) (e_s := (3, 1, 1, 0, 0, .null, [])) (y_s := (818, [some (.ref _), some (.ref _), some (.ref _), some (.int _)], [.ref _], _)) rfl (u_ rfl) ?_
  refine w_t (pc := 818) (e_s := (3, 1, 0, 0, 0, .null, [])) (y_s := (819, [some (.ref _), some (.ref _), some (.ref _), some (.int _)], [.ref _, .ref _], _)) rfl (u_ rfl) ?_
  refine w_t (pc := 819) (e_s := (1, 1, 3, 0, 0, .null, [])) (y_s := (820, [some (.ref _), some (.ref _), some (.ref _), some (.int _)], [.int _, .ref _, .ref _], _)) rfl (u_ rfl) ?_
  refine w_t (pc := 820) (e_s := (0, 1, 0, 0, 0, .int 1, [])) (y_s := (821, [some (.ref _), some (.ref _), some (.ref _), some (.int _)], [.int _, .int _, .ref _, .ref _], _)) rfl (u_ rfl) ?_
  refine w_t (pc := 821) (e_s := (7, 1, 0, 0, 0, .null, [])) (y_s := (822, [some (.ref _), some (.ref _), some (.ref _), some (.int _)], [.int (_ + _), .ref _, .ref _], _)) rfl (u_ rfl) ?_
  refine w22x (pc := 822) (len_s := 1) rfl ?_
  refine w_t (pc := 823) (e_s := (3, 1, 0, 0, 0, .null, [])) (y_s := (824, [some (.ref _), some (.ref _), some (.ref _), some (.int _)], [.ref _, .int _, .ref _], _)) rfl (u_ rfl) ?_
  refine w_t (pc := 824) (e_s := (1, 1, 3, 0, 0, .null, [])) (y_s := (825, [some (.ref _), some (.ref _), some (.ref _), some (.int _)], [.int _, .ref _, .int _, .ref _], _)) rfl (u_ rfl) ?_
  refine w_t (pc := 825) (e_s := (0, 1, 0, 0, 0, .int 2, [])) (y_s := (826, [some (.ref _), some (.ref _), some (.ref _), some (.int _)], [.int _, .int _, .ref _, .int _, .ref _], _)) rfl (u_ rfl) ?_
  refine w_t (pc := 826) (e_s := (7, 1, 0, 0, 0, .null, [])) (y_s := (827, [some (.ref _), some (.ref _), some (.ref _), some (.int _)], [.int (_ + _), .ref _, .int _, .ref _], _)) rfl (u_ rfl) ?_
  refine w22x (pc := 827) (len_s := 1) rfl ?_
  refine w_t (pc := 828) (e_s := (3, 1, 0, 0, 0, .null, [])) (y_s := (829, [some (.ref _), some (.ref _), some (.ref _), some (.int _)], [.ref _, .int _, .int _, .ref _], _)) rfl (u_ rfl) ?_
  refine w_t (pc := 829) (e_s := (1, 1, 3, 0, 0, .null, [])) (y_s := (830, [some (.ref _), some (.ref _), some (.ref _), some (.int _)], [.int _, .ref _, .int _, .int _, .ref _], _)) rfl (u_ rfl) ?_
  refine w_t (pc := 830) (e_s := (0, 1, 0, 0, 0, .int 3, [])) (y_s := (831, [some (.ref _), some (.ref _), some (.ref _), some (.int _)], [.int _, .int _, .ref _, .int _, .int _, .ref _], _)) rfl (u_ rfl) ?_
  refine w_t (pc := 831) (e_s := (7, 1, 0, 0, 0, .null, [])) (y_s := (832, [some (.ref _), some (.ref _), some (.ref _), some (.int _)], [.int (_ + _), .ref _, .int _, .int _, .ref _], _)) rfl (u_ rfl) ?_
  refine w22x (pc := 832) (len_s := 1) rfl ?_
  refine w_t (pc := 833) (e_s := (3, 1, 0, 0, 0, .null, [])) (y_s := (834, [some (.ref _), some (.ref _), some (.ref _), some (.int _)], [.ref _, .int _, .int _, .int _, .ref _], _)) rfl (u_ rfl) ?_
  refine w_t (pc := 834) (e_s := (1, 1, 3, 0, 0, .null, [])) (y_s := (835, [some (.ref _), some (.ref _), some (.ref _), some (.int _)], [.int _, .ref _, .int _, .int _, .int _, .ref _], _)) rfl (u_ rfl) ?_
  refine w_t (pc := 835) (e_s := (0, 1, 0, 0, 0, .int 4, [])) (y_s := (836, [some (.ref _), some (.ref _), some (.ref _), some (.int _)], [.int _, .int _, .ref _, .int _, .int _, .int _, .ref _], _)) rfl (u_ rfl) ?_
  refine w_t (pc := 836) (e_s := (7, 1, 0, 0, 0, .null, [])) (y_s := (837, [some (.ref _), some (.ref _), some (.ref _), some (.int _)], [.int (_ + _), .ref _, .int _, .int _, .int _, .ref _], _)) rfl (u_ rfl) ?_
  refine w22x (pc := 837) (len_s := 1) rfl ?_
  refine wcI (pc := 838) (len_s := 3) rfl rfl (l := [some (.ref _), some (.int _), some (.int _), some (.int _), some (.int _), none, none, none, none, none, none, none, none, none]) rfl (wmI t_s (fun v1_s h1 hk t_s => ?_))
  replace t_s := t_s hk
  refine w_t (pc := 841) (e_s := (42, 1, 0, 0, 0, .null, [])) (y_s := (842, [some (.ref _), some (.ref _), some (.ref _), some (.int _)], [], _)) rfl (u_ rfl) ?_
  refine w_t (pc := 842) (e_s := (3, 1, 2, 0, 0, .null, [])) (y_s := (843, [some (.ref _), some (.ref _), some (.ref _), some (.int _)], [.ref _], _)) rfl (u_ rfl) ?_
  refine w_t (pc := 843) (e_s := (3, 1, 0, 0, 0, .null, [])) (y_s := (844, [some (.ref _), some (.ref _), some (.ref _), some (.int _)], [.ref _, .ref _], _)) rfl (u_ rfl) ?_
  refine w_t (pc := 844) (e_s := (1, 1, 3, 0, 0, .null, [])) (y_s := (845, [some (.ref _), some (.ref _), some (.ref _), some (.int _)], [.int _, .ref _, .ref _], _)) rfl (u_ rfl) ?_
  refine w_t (pc := 845) (e_s := (0, 1, 0, 0, 0, .int 1, [])) (y_s := (846, [some (.ref _), some (.ref _), some (.ref _), some (.int _)], [.int _, .int _, .ref _, .ref _], _)) rfl (u_ rfl) ?_
  refine w_t (pc := 846) (e_s := (7, 1, 0, 0, 0, .null, [])) (y_s := (847, [some (.ref _), some (.ref _), some (.ref _), some (.int _)], [.int (_ + _), .ref _, .ref _], _)) rfl (u_ rfl) ?_
  refine w22x (pc := 847) (len_s := 1) rfl ?_
  refine w_t (pc := 848) (e_s := (3, 1, 0, 0, 0, .null, [])) (y_s := (849, [some (.ref _), some (.ref _), some (.ref _), some (.int _)], [.ref _, .int _, .ref _], _)) rfl (u_ rfl) ?_
  refine w_t (pc := 849) (e_s := (1, 1, 3, 0, 0, .null, [])) (y_s := (850, [some (.ref _), some (.ref _), some (.ref _), some (.int _)], [.int _, .ref _, .int _, .ref _], _)) rfl (u_ rfl) ?_
  refine w_t (pc := 850) (e_s := (0, 1, 0, 0, 0, .int 2, [])) (y_s := (851, [some (.ref _), some (.ref _), some (.ref _), some (.int _)], [.int _, .int _, .ref _, .int _, .ref _], _)) rfl (u_ rfl) ?_
  refine w_t (pc := 851) (e_s := (7, 1, 0, 0, 0, .null, [])) (y_s := (852, [some (.ref _), some (.ref _), some (.ref _), some (.int _)], [.int (_ + _), .ref _, .int _, .ref _], _)) rfl (u_ rfl) ?_
  refine w22x (pc := 852) (len_s := 1) rfl ?_
  refine w_t (pc := 853) (e_s := (3, 1, 0, 0, 0, .null, [])) (y_s := (854, [some (.ref _), some (.ref _), some (.ref _), some (.int _)], [.ref _, .int _, .int _, .ref _], _)) rfl (u_ rfl) ?_
  refine w_t (pc := 854) (e_s := (1, 1, 3, 0, 0, .null, [])) (y_s := (855, [some (.ref _), some (.ref _), some (.ref _), some (.int _)], [.int _, .ref _, .int _, .int _, .ref _], _)) rfl (u_ rfl) ?_
  refine w_t (pc := 855) (e_s := (0, 1, 0, 0, 0, .int 3, [])) (y_s := (856, [some (.ref _), some (.ref _), some (.ref _), some (.int _)], [.int _, .int _, .ref _, .int _, .int _, .ref _], _)) rfl (u_ rfl) ?_
  refine w_t (pc := 856) (e_s := (7, 1, 0, 0, 0, .null, [])) (y_s := (857, [some (.ref _), some (.ref _), some (.ref _), some (.int _)], [.int (_ + _), .ref _, .int _, .int _, .ref _], _)) rfl (u_ rfl) ?_
  refine w22x (pc := 857) (len_s := 1) rfl ?_
  refine w_t (pc := 858) (e_s := (3, 1, 0, 0, 0, .null, [])) (y_s := (859, [some (.ref _), some (.ref _), some (.ref _), some (.int _)], [.ref _, .int _, .int _, .int _, .ref _], _)) rfl (u_ rfl) ?_
  refine w_t (pc := 859) (e_s := (1, 1, 3, 0, 0, .null, [])) (y_s := (860, [some (.ref _), some (.ref _), some (.ref _), some (.int _)], [.int _, .ref _, .int _, .int _, .int _, .ref _], _)) rfl (u_ rfl) ?_
  refine w_t (pc := 860) (e_s := (0, 1, 0, 0, 0, .int 4, [])) (y_s := (861, [some (.ref _), some (.ref _), some (.ref _), some (.int _)], [.int _, .int _, .ref _, .int _, .int _, .int _, .ref _], _)) rfl (u_ rfl) ?_
  refine w_t (pc := 861) (e_s := (7, 1, 0, 0, 0, .null, [])) (y_s := (862, [some (.ref _), some (.ref _), some (.ref _), some (.int _)], [.int (_ + _), .ref _, .int _, .int _, .int _, .ref _], _)) rfl (u_ rfl) ?_
  refine w22x (pc := 862) (len_s := 1) rfl ?_
  refine wcI (pc := 863) (len_s := 3) rfl rfl (l := [some (.ref _), some (.int _), some (.int _), some (.int _), some (.int _), none, none, none, none, none, none]) rfl (wmI t_s (fun v2 h2 hk t_s => ?_))
  replace t_s := t_s hk
  refine w_t (pc := 866) (e_s := (42, 1, 0, 0, 0, .null, [])) (y_s := (867, [some (.ref _), some (.ref _), some (.ref _), some (.int _)], [], _)) rfl (u_ rfl) ?_
  refine w_t (pc := 867) (e_s := (17, 3, 1414, 0, 0, .null, [])) (y_s := (1414, [some (.ref _), some (.ref _), some (.ref _), some (.int _)], [], _)) rfl (u_ rfl) ?_
  refine w_t (pc := 1414) (e_s := (19, 3, 3, 0, 0, .int 6, [])) (y_s := (1417, [some (.ref _), some (.ref _), some (.ref _), some (.int _)], [], _)) rfl (u_ rfl) ?_
  refine w_t (pc := 1417) (e_s := (17, 3, 18, 0, 0, .null, [])) (y_s := (18, [some (.ref _), some (.ref _), some (.ref _), some (.int _)], [], _)) rfl (u_ rfl) ?_
  exact t_s
theorem sg_241_870 {F_s : Nat} {x3 : Int32} {h_s : zH} {K_s : Int32 → zH → Prop} (hk : hKn h_s) (t_s : wF F_s 117 (0, [some (.ref 6), some (.int (h_s.2.1 0 (zix (x3 + 1)))), some (.int (h_s.2.1 0 (zix (x3 + 2)))), none], [], h_s) (gI (fun v1_s h1 => hKn h1 → wF F_s 211 (0, [some (.ref 102), some (.int (h1.2.1 0 (zix (x3 + 1)))), some (.int (h1.2.1 0 (zix (x3 + 2)))), none], [], h1) (gI (fun v2 h2 => hKn h2 → wF F_s 241 (18, [some (.ref 0), some (.ref 6), some (.ref 102), some (.int (x3 + 6))], [], h2) (gI K_s)))))) : wF (F_s + 1) 241 (870, [some (.ref 0), some (.ref 6), some (.ref 102), some (.int x3)], [], h_s) (gI K_s) := by
  refine w_0 (pc := 870) (e_s := (3, 1, 1, 0, 0, .null, [])) (y_s := (871, [some (.ref _), some (.ref _), some (.ref _), some (.int _)], [.ref _], _)) rfl (u_ rfl) ?_
  refine w_t (pc := 871) (e_s := (3, 1, 0, 0, 0, .null, [])) (y_s := (872, [some (.ref _), some (.ref _), some (.ref _), some (.int _)], [.ref _, .ref _], _)) rfl (u_ rfl) ?_
  refine w_t (pc := 872) (e_s := (1, 1, 3, 0, 0, .null, [])) (y_s := (873, [some (.ref _), some (.ref _), some (.ref _), some (.int _)], [.int _, .ref _, .ref _], _)) rfl (u_ rfl) ?_
  refine w_t (pc := 873) (e_s := (0, 1, 0, 0, 0, .int 1, [])) (y_s := (874, [some (.ref _), some (.ref _), some (.ref _), some (.int _)], [.int _, .int _, .ref _, .ref _], _)) rfl (u_ rfl) ?_
  refine w_t (pc := 874) (e_s := (7, 1, 0, 0, 0, .null, [])) (y_s := (875, [some (.ref _), some (.ref _), some (.ref _), some (.int _)], [.int (_ + _), .ref _, .ref _], _)) rfl (u_ rfl) ?_
  refine w22x (pc := 875) (len_s := 1) rfl ?_
  refine w_t (pc := 876) (e_s := (3, 1, 0, 0, 0, .null, [])) (y_s := (877, [some (.ref _), some (.ref _), some (.ref _), some (.int _)], [.ref _, .int _, .ref _], _)) rfl (u_ rfl) ?_
  refine w_t (pc := 877) (e_s := (1, 1, 3, 0, 0, .null, [])) (y_s := (878, [some (.ref _), some (.ref _), some (.ref _), some (.int _)], [.int _, .ref _, .int _, .ref _], _)) rfl (u_ rfl) ?_
  refine w_t (pc := 878) (e_s := (0, 1, 0, 0, 0, .int 2, [])) (y_s := (879, [some (.ref _), some (.ref _), some (.ref _), some (.int _)], [.int _, .int _, .ref _, .int _, .ref _], _)) rfl (u_ rfl) ?_
  refine w_t (pc := 879) (e_s := (7, 1, 0, 0, 0, .null, [])) (y_s := (880, [some (.ref _), some (.ref _), some (.ref _), some (.int _)], [.int (_ + _), .ref _, .int _, .ref _], _)) rfl (u_ rfl) ?_
  refine w22x (pc := 880) (len_s := 1) rfl ?_
  refine wcI (pc := 881) (len_s := 3) rfl rfl (l := [some (.ref _), some (.int _), some (.int _), none]) rfl (wmI t_s (fun v1_s h1 hk t_s => ?_))
  replace t_s := t_s hk
  refine w_t (pc := 884) (e_s := (42, 1, 0, 0, 0, .null, [])) (y_s := (885, [some (.ref _), some (.ref _), some (.ref _), some (.int _)], [], _)) rfl (u_ rfl) ?_
  refine w_t (pc := 885) (e_s := (3, 1, 2, 0, 0, .null, [])) (y_s := (886, [some (.ref _), some (.ref _), some (.ref _), some (.int _)], [.ref _], _)) rfl (u_ rfl) ?_
  refine w_t (pc := 886) (e_s := (3, 1, 0, 0, 0, .null, [])) (y_s := (887, [some (.ref _), some (.ref _), some (.ref _), some (.int _)], [.ref _, .ref _], _)) rfl (u_ rfl) ?_
  refine w_t (pc := 887) (e_s := (1, 1, 3, 0, 0, .null, [])) (y_s := (888, [some (.ref _), some (.ref _), some (.ref _), some (.int _)], [.int _, .ref _, .ref _], _)) rfl (u_ rfl) ?_
  refine w_t (pc := 888) (e_s := (0, 1, 0, 0, 0, .int 1, [])) (y_s := (889, [some (.ref _), some (.ref _), some (.ref _), some (.int _)], [.int _, .int _, .ref _, .ref _], _)) rfl (u_ rfl) ?_
  refine w_t (pc := 889) (e_s := (7, 1, 0, 0, 0, .null, [])) (y_s := (890, [some (.ref _), some (.ref _), some (.ref _), some (.int _)], [.int (_ + _), .ref _, .ref _], _)) rfl (u_ rfl) ?_
  refine w22x (pc := 890) (len_s := 1) rfl ?_
  refine w_t (pc := 891) (e_s := (3, 1, 0, 0, 0, .null, [])) (y_s := (892, [some (.ref _), some (.ref _), some (.ref _), some (.int _)], [.ref _, .int _, .ref _], _)) rfl (u_ rfl) ?_
  refine w_t (pc := 892) (e_s := (1, 1, 3, 0, 0, .null, [])) (y_s := (893, [some (.ref _), some (.ref _), some (.ref _), some (.int _)], [.int _, .ref _, .int _, .ref _], _)) rfl (u_ rfl) ?_
  refine w_t (pc := 893) (e_s := (0, 1, 0, 0, 0, .int 2, [])) (y_s := (894, [some (.ref _), some (.ref _), some (.ref _), some (.int _)], [.int _, .int _, .ref _, .int _, .ref _], _)) rfl (u_ rfl) ?_
  refine w_t (pc := 894) (e_s := (7, 1, 0, 0, 0, .null, [])) (y_s := (895, [some (.ref _), some (.ref _), some (.ref _), some (.int _)], [.int (_ + _), .ref _, .int _, .ref _], _)) rfl (u_ rfl) ?_
  refine w22x (pc := 895) (len_s := 1) rfl ?_
  refine wcI (pc := 896) (len_s := 3) rfl rfl (l := [some (.ref _), some (.int _), some (.int _), none]) rfl (wmI t_s (fun v2 h2 hk t_s => ?_))
  replace t_s := t_s hk
  refine w_t (pc := 899) (e_s := (42, 1, 0, 0, 0, .null, [])) (y_s := (900, [some (.ref _), some (.ref _), some (.ref _), some (.int _)], [], _)) rfl (u_ rfl) ?_
  refine w_t (pc := 900) (e_s := (17, 3, 1414, 0, 0, .null, [])) (y_s := (1414, [some (.ref _), some (.ref _), some (.ref _), some (.int _)], [], _)) rfl (u_ rfl) ?_
  refine w_t (pc := 1414) (e_s := (19, 3, 3, 0, 0, .int 6, [])) (y_s := (1417, [some (.ref _), some (.ref _), some (.ref _), some (.int _)], [], _)) rfl (u_ rfl) ?_
  refine w_t (pc := 1417) (e_s := (17, 3, 18, 0, 0, .null, [])) (y_s := (18, [some (.ref _), some (.ref _), some (.ref _), some (.int _)], [], _)) rfl (u_ rfl) ?_
  exact t_s
theorem sg_241_903 {F_s : Nat} {x3 : Int32} {h_s : zH} {K_s : Int32 → zH → Prop} (hk : hKn h_s) (t_s : wF F_s 118 (0, [some (.ref 6), some (.int (h_s.2.1 0 (zix (x3 + 1)))), some (.int (h_s.2.1 0 (zix (x3 + 2)))), none, none, none], [], h_s) (gI (fun v1_s h1 => hKn h1 → wF F_s 212 (0, [some (.ref 102), some (.int (h1.2.1 0 (zix (x3 + 1)))), some (.int (h1.2.1 0 (zix (x3 + 2))))], [], h1) (gI (fun v2 h2 => hKn h2 → wF F_s 241 (18, [some (.ref 0), some (.ref 6), some (.ref 102), some (.int (x3 + 6))], [], h2) (gI K_s)))))) : wF (F_s + 1) 241 (903, [some (.ref 0), some (.ref 6), some (.ref 102), some (.int x3)], [], h_s) (gI K_s) := by
  refine w_0 (pc := 903) (e_s := (3, 1, 1, 0, 0, .null, [])) (y_s := (904, [some (.ref _), some (.ref _), some (.ref _), some (.int _)], [.ref _], _)) rfl (u_ rfl) ?_
  refine w_t (pc := 904) (e_s := (3, 1, 0, 0, 0, .null, [])) (y_s := (905, [some (.ref _), some (.ref _), some (.ref _), some (.int _)], [.ref _, .ref _], _)) rfl (u_ rfl) ?_
  refine w_t (pc := 905) (e_s := (1, 1, 3, 0, 0, .null, [])) (y_s := (906, [some (.ref _), some (.ref _), some (.ref _), some (.int _)], [.int _, .ref _, .ref _], _)) rfl (u_ rfl) ?_
  refine w_t (pc := 906) (e_s := (0, 1, 0, 0, 0, .int 1, [])) (y_s := (907, [some (.ref _), some (.ref _), some (.ref _), some (.int _)], [.int _, .int _, .ref _, .ref _], _)) rfl (u_ rfl) ?_
  refine w_t (pc := 907) (e_s := (7, 1, 0, 0, 0, .null, [])) (y_s := (908, [some (.ref _), some (.ref _), some (.ref _), some (.int _)], [.int (_ + _), .ref _, .ref _], _)) rfl (u_ rfl) ?_
  refine w22x (pc := 908) (len_s := 1) rfl ?_
  refine w_t (pc := 909) (e_s := (3, 1, 0, 0, 0, .null, [])) (y_s := (910, [some (.ref _), some (.ref _), some (.ref _), some (.int _)], [.ref _, .int _, .ref _], _)) rfl (u_ rfl) ?_
  refine w_t (pc := 910) (e_s := (1, 1, 3, 0, 0, .null, [])) (y_s := (911, [some (.ref _), some (.ref _), some (.ref _), some (.int _)], [.int _, .ref _, .int _, .ref _], _)) rfl (u_ rfl) ?_
  refine w_t (pc := 911) (e_s := (0, 1, 0, 0, 0, .int 2, [])) (y_s := (912, [some (.ref _), some (.ref _), some (.ref _), some (.int _)], [.int _, .int _, .ref _, .int _, .ref _], _)) rfl (u_ rfl) ?_
  refine w_t (pc := 912) (e_s := (7, 1, 0, 0, 0, .null, [])) (y_s := (913, [some (.ref _), some (.ref _), some (.ref _), some (.int _)], [.int (_ + _), .ref _, .int _, .ref _], _)) rfl (u_ rfl) ?_
  refine w22x (pc := 913) (len_s := 1) rfl ?_
  refine wcI (pc := 914) (len_s := 3) rfl rfl (l := [some (.ref _), some (.int _), some (.int _), none, none, none]) rfl (wmI t_s (fun v1_s h1 hk t_s => ?_))
  replace t_s := t_s hk
  refine w_t (pc := 917) (e_s := (42, 1, 0, 0, 0, .null, [])) (y_s := (918, [some (.ref _), some (.ref _), some (.ref _), some (.int _)], [], _)) rfl (u_ rfl) ?_
  refine w_t (pc := 918) (e_s := (3, 1, 2, 0, 0, .null, [])) (y_s := (919, [some (.ref _), some (.ref _), some (.ref _), some (.int _)], [.ref _], _)) rfl (u_ rfl) ?_
  refine w_t (pc := 919) (e_s := (3, 1, 0, 0, 0, .null, [])) (y_s := (920, [some (.ref _), some (.ref _), some (.ref _), some (.int _)], [.ref _, .ref _], _)) rfl (u_ rfl) ?_
  refine w_t (pc := 920) (e_s := (1, 1, 3, 0, 0, .null, [])) (y_s := (921, [some (.ref _), some (.ref _), some (.ref _), some (.int _)], [.int _, .ref _, .ref _], _)) rfl (u_ rfl) ?_
  refine w_t (pc := 921) (e_s := (0, 1, 0, 0, 0, .int 1, [])) (y_s := (922, [some (.ref _), some (.ref _), some (.ref _), some (.int _)], [.int _, .int _, .ref _, .ref _], _)) rfl (u_ rfl) ?_
  refine w_t (pc := 922) (e_s := (7, 1, 0, 0, 0, .null, [])) (y_s := (923, [some (.ref _), some (.ref _), some (.ref _), some (.int _)], [.int (_ + _), .ref _, .ref _], _)) rfl (u_ rfl) ?_
  refine w22x (pc := 923) (len_s := 1) rfl ?_
  refine w_t (pc := 924) (e_s := (3, 1, 0, 0, 0, .null, [])) (y_s := (925, [some (.ref _), some (.ref _), some (.ref _), some (.int _)], [.ref _, .int _, .ref _], _)) rfl (u_ rfl) ?_
  refine w_t (pc := 925) (e_s := (1, 1, 3, 0, 0, .null, [])) (y_s := (926, [some (.ref _), some (.ref _), some (.ref _), some (.int _)], [.int _, .ref _, .int _, .ref _], _)) rfl (u_ rfl) ?_
  refine w_t (pc := 926) (e_s := (0, 1, 0, 0, 0, .int 2, [])) (y_s := (927, [some (.ref _), some (.ref _), some (.ref _), some (.int _)], [.int _, .int _, .ref _, .int _, .ref _], _)) rfl (u_ rfl) ?_
  refine w_t (pc := 927) (e_s := (7, 1, 0, 0, 0, .null, [])) (y_s := (928, [some (.ref _), some (.ref _), some (.ref _), some (.int _)], [.int (_ + _), .ref _, .int _, .ref _], _)) rfl (u_ rfl) ?_
  refine w22x (pc := 928) (len_s := 1) rfl ?_
  refine wcI (pc := 929) (len_s := 3) rfl rfl (l := [some (.ref _), some (.int _), some (.int _)]) rfl (wmI t_s (fun v2 h2 hk t_s => ?_))
  replace t_s := t_s hk
  refine w_t (pc := 932) (e_s := (42, 1, 0, 0, 0, .null, [])) (y_s := (933, [some (.ref _), some (.ref _), some (.ref _), some (.int _)], [], _)) rfl (u_ rfl) ?_
  refine w_t (pc := 933) (e_s := (17, 3, 1414, 0, 0, .null, [])) (y_s := (1414, [some (.ref _), some (.ref _), some (.ref _), some (.int _)], [], _)) rfl (u_ rfl) ?_
  refine w_t (pc := 1414) (e_s := (19, 3, 3, 0, 0, .int 6, [])) (y_s := (1417, [some (.ref _), some (.ref _), some (.ref _), some (.int _)], [], _)) rfl (u_ rfl) ?_
  refine w_t (pc := 1417) (e_s := (17, 3, 18, 0, 0, .null, [])) (y_s := (18, [some (.ref _), some (.ref _), some (.ref _), some (.int _)], [], _)) rfl (u_ rfl) ?_
  exact t_s
theorem sg_241_936 {F_s : Nat} {x3 : Int32} {h_s : zH} {K_s : Int32 → zH → Prop} (hk : hKn h_s) (t_s : wF F_s 119 (0, [some (.ref 6), none, none], [], h_s) (gI (fun v1_s h1 => hKn h1 → wF F_s 213 (0, [some (.ref 102), none, none], [], h1) (gI (fun v2 h2 => hKn h2 → wF F_s 241 (18, [some (.ref 0), some (.ref 6), some (.ref 102), some (.int (x3 + 6))], [], h2) (gI K_s)))))) : wF (F_s + 1) 241 (936, [some (.ref 0), some (.ref 6), some (.ref 102), some (.int x3)], [], h_s) (gI K_s) := by
  refine w_0 (pc := 936) (e_s := (3, 1, 1, 0, 0, .null, [])) (y_s := (937, [some (.ref _), some (.ref _), some (.ref _), some (.int _)], [.ref _], _)) rfl (u_ rfl) ?_
  refine wcI (pc := 937) (len_s := 3) rfl rfl (l := [some (.ref _), none, none]) rfl (wmI t_s (fun v1_s h1 hk t_s => ?_))
  replace t_s := t_s hk
  refine w_t (pc := 940) (e_s := (42, 1, 0, 0, 0, .null, [])) (y_s := (941, [some (.ref _), some (.ref _), some (.ref _), some (.int _)], [], _)) rfl (u_ rfl) ?_
  refine w_t (pc := 941) (e_s := (3, 1, 2, 0, 0, .null, [])) (y_s := (942, [some (.ref _), some (.ref _), some (.ref _), some (.int _)], [.ref _], _)) rfl (u_ rfl) ?_
  refine wcI (pc := 942) (len_s := 3) rfl rfl (l := [some (.ref _), none, none]) rfl (wmI t_s (fun v2 h2 hk t_s => ?_))
  replace t_s := t_s hk
  refine w_t (pc := 945) (e_s := (42, 1, 0, 0, 0, .null, [])) (y_s := (946, [some (.ref _), some (.ref _), some (.ref _), some (.int _)], [], _)) rfl (u_ rfl) ?_
  refine w_t (pc := 946) (e_s := (17, 3, 1414, 0, 0, .null, [])) (y_s := (1414, [some (.ref _), some (.ref _), some (.ref _), some (.int _)], [], _)) rfl (u_ rfl) ?_
  refine w_t (pc := 1414) (e_s := (19, 3, 3, 0, 0, .int 6, [])) (y_s := (1417, [some (.ref _), some (.ref _), some (.ref _), some (.int _)], [], _)) rfl (u_ rfl) ?_
  refine w_t (pc := 1417) (e_s := (17, 3, 18, 0, 0, .null, [])) (y_s := (18, [some (.ref _), some (.ref _), some (.ref _), some (.int _)], [], _)) rfl (u_ rfl) ?_
  exact t_s
theorem sg_241_949 {F_s : Nat} {x3 : Int32} {h_s : zH} {K_s : Int32 → zH → Prop} (hk : hKn h_s) (t_s : wF F_s 120 (0, [some (.ref 6), some (.int (h_s.2.1 0 (zix (x3 + 1))))], [], h_s) (gI (fun v1_s h1 => hKn h1 → wF F_s 214 (0, [some (.ref 102), some (.int (h1.2.1 0 (zix (x3 + 1))))], [], h1) (gI (fun v2 h2 => hKn h2 → wF F_s 241 (18, [some (.ref 0), some (.ref 6), some (.ref 102), some (.int (x3 + 6))], [], h2) (gI K_s)))))) : wF (F_s + 1) 241 (949, [some (.ref 0), some (.ref 6), some (.ref 102), some (.int x3)], [], h_s) (gI K_s) := by
  refine w_0 (pc := 949) (e_s := (3, 1, 1, 0, 0, .null, [])) (y_s := (950, [some (.ref _), some (.ref _), some (.ref _), some (.int _)], [.ref _], _)) rfl (u_ rfl) ?_
  refine w_t (pc := 950) (e_s := (3, 1, 0, 0, 0, .null, [])) (y_s := (951, [some (.ref _), some (.ref _), some (.ref _), some (.int _)], [.ref _, .ref _], _)) rfl (u_ rfl) ?_
  refine w_t (pc := 951) (e_s := (1, 1, 3, 0, 0, .null, [])) (y_s := (952, [some (.ref _), some (.ref _), some (.ref _), some (.int _)], [.int _, .ref _, .ref _], _)) rfl (u_ rfl) ?_
  refine w_t (pc := 952) (e_s := (0, 1, 0, 0, 0, .int 1, [])) (y_s := (953, [some (.ref _), some (.ref _), some (.ref _), some (.int _)], [.int _, .int _, .ref _, .ref _], _)) rfl (u_ rfl) ?_
  refine w_t (pc := 953) (e_s := (7, 1, 0, 0, 0, .null, [])) (y_s := (954, [some (.ref _), some (.ref _), some (.ref _), some (.int _)], [.int (_ + _), .ref _, .ref _], _)) rfl (u_ rfl) ?_
  refine w22x (pc := 954) (len_s := 1) rfl ?_
  refine wcI (pc := 955) (len_s := 3) rfl rfl (l := [some (.ref _), some (.int _)]) rfl (wmI t_s (fun v1_s h1 hk t_s => ?_))
  replace t_s := t_s hk
  refine w_t (pc := 958) (e_s := (42, 1, 0, 0, 0, .null, [])) (y_s := (959, [some (.ref _), some (.ref _), some (.ref _), some (.int _)], [], _)) rfl (u_ rfl) ?_
  refine w_t (pc := 959) (e_s := (3, 1, 2, 0, 0, .null, [])) (y_s := (960, [some (.ref _), some (.ref _), some (.ref _), some (.int _)], [.ref _], _)) rfl (u_ rfl) ?_
  refine w_t (pc := 960) (e_s := (3, 1, 0, 0, 0, .null, [])) (y_s := (961, [some (.ref _), some (.ref _), some (.ref _), some (.int _)], [.ref _, .ref _], _)) rfl (u_ rfl) ?_
  refine w_t (pc := 961) (e_s := (1, 1, 3, 0, 0, .null, [])) (y_s := (962, [some (.ref _), some (.ref _), some (.ref _), some (.int _)], [.int _, .ref _, .ref _], _)) rfl (u_ rfl) ?_
  refine w_t (pc := 962) (e_s := (0, 1, 0, 0, 0, .int 1, [])) (y_s := (963, [some (.ref _), some (.ref _), some (.ref _), some (.int _)], [.int _, .int _, .ref _, .ref _], _)) rfl (u_ rfl) ?_
  refine w_t (pc := 963) (e_s := (7, 1, 0, 0, 0, .null, [])) (y_s := (964, [some (.ref _), some (.ref _), some (.ref _), some (.int _)], [.int (_ + _), .ref _, .ref _], _)) rfl (u_ rfl) ?_
  refine w22x (pc := 964) (len_s := 1) rfl ?_
  refine wcI (pc := 965) (len_s := 3) rfl rfl (l := [some (.ref _), some (.int _)]) rfl (wmI t_s (fun v2 h2 hk t_s => ?_))
  replace t_s := t_s hk
  refine w_t (pc := 968) (e_s := (42, 1, 0, 0, 0, .null, [])) (y_s := (969, [some (.ref _), some (.ref _), some (.ref _), some (.int _)], [], _)) rfl (u_ rfl) ?_
  refine w_t (pc := 969) (e_s := (17, 3, 1414, 0, 0, .null, [])) (y_s := (1414, [some (.ref _), some (.ref _), some (.ref _), some (.int _)], [], _)) rfl (u_ rfl) ?_
  refine w_t (pc := 1414) (e_s := (19, 3, 3, 0, 0, .int 6, [])) (y_s := (1417, [some (.ref _), some (.ref _), some (.ref _), some (.int _)], [], _)) rfl (u_ rfl) ?_
  refine w_t (pc := 1417) (e_s := (17, 3, 18, 0, 0, .null, [])) (y_s := (18, [some (.ref _), some (.ref _), some (.ref _), some (.int _)], [], _)) rfl (u_ rfl) ?_
  exact t_s
theorem sg_241_972 {F_s : Nat} {x3 : Int32} {h_s : zH} {K_s : Int32 → zH → Prop} (hk : hKn h_s) (t_s : wF F_s 121 (0, [some (.ref 6), none], [], h_s) (gI (fun v1_s h1 => hKn h1 → wF F_s 215 (0, [some (.ref 102), none], [], h1) (gI (fun v2 h2 => hKn h2 → wF F_s 241 (18, [some (.ref 0), some (.ref 6), some (.ref 102), some (.int (x3 + 6))], [], h2) (gI K_s)))))) : wF (F_s + 1) 241 (972, [some (.ref 0), some (.ref 6), some (.ref 102), some (.int x3)], [], h_s) (gI K_s) := by
  refine w_0 (pc := 972) (e_s := (3, 1, 1, 0, 0, .null, [])) (y_s := (973, [some (.ref _), some (.ref _), some (.ref _), some (.int _)], [.ref _], _)) rfl (u_ rfl) ?_
  refine wcI (pc := 973) (len_s := 3) rfl rfl (l := [some (.ref _), none]) rfl (wmI t_s (fun v1_s h1 hk t_s => ?_))
  replace t_s := t_s hk
  refine w_t (pc := 976) (e_s := (42, 1, 0, 0, 0, .null, [])) (y_s := (977, [some (.ref _), some (.ref _), some (.ref _), some (.int _)], [], _)) rfl (u_ rfl) ?_
  refine w_t (pc := 977) (e_s := (3, 1, 2, 0, 0, .null, [])) (y_s := (978, [some (.ref _), some (.ref _), some (.ref _), some (.int _)], [.ref _], _)) rfl (u_ rfl) ?_
  refine wcI (pc := 978) (len_s := 3) rfl rfl (l := [some (.ref _), none]) rfl (wmI t_s (fun v2 h2 hk t_s => ?_))
  replace t_s := t_s hk
  refine w_t (pc := 981) (e_s := (42, 1, 0, 0, 0, .null, [])) (y_s := (982, [some (.ref _), some (.ref _), some (.ref _), some (.int _)], [], _)) rfl (u_ rfl) ?_
  refine w_t (pc := 982) (e_s := (17, 3, 1414, 0, 0, .null, [])) (y_s := (1414, [some (.ref _), some (.ref _), some (.ref _), some (.int _)], [], _)) rfl (u_ rfl) ?_
  refine w_t (pc := 1414) (e_s := (19, 3, 3, 0, 0, .int 6, [])) (y_s := (1417, [some (.ref _), some (.ref _), some (.ref _), some (.int _)], [], _)) rfl (u_ rfl) ?_
  refine w_t (pc := 1417) (e_s := (17, 3, 18, 0, 0, .null, [])) (y_s := (18, [some (.ref _), some (.ref _), some (.ref _), some (.int _)], [], _)) rfl (u_ rfl) ?_
  exact t_s
theorem sg_241_985 {F_s : Nat} {x3 : Int32} {h_s : zH} {K_s : Int32 → zH → Prop} (hk : hKn h_s) (t_s : wF F_s 122 (0, [some (.ref 6), none], [], h_s) (gI (fun v1_s h1 => hKn h1 → wF F_s 216 (0, [some (.ref 102), none], [], h1) (gI (fun v2 h2 => hKn h2 → wF F_s 241 (18, [some (.ref 0), some (.ref 6), some (.ref 102), some (.int (x3 + 6))], [], h2) (gI K_s)))))) : wF (F_s + 1) 241 (985, [some (.ref 0), some (.ref 6), some (.ref 102), some (.int x3)], [], h_s) (gI K_s) := by
  refine w_0 (pc := 985) (e_s := (3, 1, 1, 0, 0, .null, [])) (y_s := (986, [some (.ref _), some (.ref _), some (.ref _), some (.int _)], [.ref _], _)) rfl (u_ rfl) ?_
  refine wcI (pc := 986) (len_s := 3) rfl rfl (l := [some (.ref _), none]) rfl (wmI t_s (fun v1_s h1 hk t_s => ?_))
  replace t_s := t_s hk
  refine w_t (pc := 989) (e_s := (42, 1, 0, 0, 0, .null, [])) (y_s := (990, [some (.ref _), some (.ref _), some (.ref _), some (.int _)], [], _)) rfl (u_ rfl) ?_
  refine w_t (pc := 990) (e_s := (3, 1, 2, 0, 0, .null, [])) (y_s := (991, [some (.ref _), some (.ref _), some (.ref _), some (.int _)], [.ref _], _)) rfl (u_ rfl) ?_
  refine wcI (pc := 991) (len_s := 3) rfl rfl (l := [some (.ref _), none]) rfl (wmI t_s (fun v2 h2 hk t_s => ?_))
  replace t_s := t_s hk
  refine w_t (pc := 994) (e_s := (42, 1, 0, 0, 0, .null, [])) (y_s := (995, [some (.ref _), some (.ref _), some (.ref _), some (.int _)], [], _)) rfl (u_ rfl) ?_
  refine w_t (pc := 995) (e_s := (17, 3, 1414, 0, 0, .null, [])) (y_s := (1414, [some (.ref _), some (.ref _), some (.ref _), some (.int _)], [], _)) rfl (u_ rfl) ?_
  refine w_t (pc := 1414) (e_s := (19, 3, 3, 0, 0, .int 6, [])) (y_s := (1417, [some (.ref _), some (.ref _), some (.ref _), some (.int _)], [], _)) rfl (u_ rfl) ?_
  refine w_t (pc := 1417) (e_s := (17, 3, 18, 0, 0, .null, [])) (y_s := (18, [some (.ref _), some (.ref _), some (.ref _), some (.int _)], [], _)) rfl (u_ rfl) ?_
  exact t_s
theorem sg_241_998 {F_s : Nat} {x3 : Int32} {h_s : zH} {K_s : Int32 → zH → Prop} (hk : hKn h_s) (t_s : wF F_s 123 (0, [some (.ref 6)], [], h_s) (gI (fun v1_s h1 => hKn h1 → wF F_s 149 (0, [some (.ref 102)], [], h1) (gI (fun v2 h2 => hKn h2 → wF F_s 241 (18, [some (.ref 0), some (.ref 6), some (.ref 102), some (.int (x3 + 6))], [], h2) (gI K_s)))))) : wF (F_s + 1) 241 (998, [some (.ref 0), some (.ref 6), some (.ref 102), some (.int x3)], [], h_s) (gI K_s) := by
  refine w_0 (pc := 998) (e_s := (3, 1, 1, 0, 0, .null, [])) (y_s := (999, [some (.ref _), some (.ref _), some (.ref _), some (.int _)], [.ref _], _)) rfl (u_ rfl) ?_
  refine wcI (pc := 999) (len_s := 3) rfl rfl (l := [some (.ref _)]) rfl (wmI t_s (fun v1_s h1 hk t_s => ?_))
  replace t_s := t_s hk
  refine w_t (pc := 1002) (e_s := (42, 1, 0, 0, 0, .null, [])) (y_s := (1003, [some (.ref _), some (.ref _), some (.ref _), some (.int _)], [], _)) rfl (u_ rfl) ?_
  refine w_t (pc := 1003) (e_s := (3, 1, 2, 0, 0, .null, [])) (y_s := (1004, [some (.ref _), some (.ref _), some (.ref _), some (.int _)], [.ref _], _)) rfl (u_ rfl) ?_
  refine wcI (pc := 1004) (len_s := 3) rfl rfl (l := [some (.ref _)]) rfl (wmI t_s (fun v2 h2 hk t_s => ?_))
  replace t_s := t_s hk
  refine w_t (pc := 1007) (e_s := (42, 1, 0, 0, 0, .null, [])) (y_s := (1008, [some (.ref _), some (.ref _), some (.ref _), some (.int _)], [], _)) rfl (u_ rfl) ?_
  refine w_t (pc := 1008) (e_s := (17, 3, 1414, 0, 0, .null, [])) (y_s := (1414, [some (.ref _), some (.ref _), some (.ref _), some (.int _)], [], _)) rfl (u_ rfl) ?_
  refine w_t (pc := 1414) (e_s := (19, 3, 3, 0, 0, .int 6, [])) (y_s := (1417, [some (.ref _), some (.ref _), some (.ref _), some (.int _)], [], _)) rfl (u_ rfl) ?_
  refine w_t (pc := 1417) (e_s := (17, 3, 18, 0, 0, .null, [])) (y_s := (18, [some (.ref _), some (.ref _), some (.ref _), some (.int _)], [], _)) rfl (u_ rfl) ?_
  exact t_s
theorem sg_241_1011 {F_s : Nat} {x3 : Int32} {h_s : zH} {K_s : Int32 → zH → Prop} (hk : hKn h_s) (t_s : wF F_s 124 (0, [some (.ref 6)], [], h_s) (gI (fun v1_s h1 => hKn h1 → wF F_s 150 (0, [some (.ref 102)], [], h1) (gI (fun v2 h2 => hKn h2 → wF F_s 241 (18, [some (.ref 0), some (.ref 6), some (.ref 102), some (.int (x3 + 6))], [], h2) (gI K_s)))))) : wF (F_s + 1) 241 (1011, [some (.ref 0), some (.ref 6), some (.ref 102), some (.int x3)], [], h_s) (gI K_s) := by
  refine w_0 (pc := 1011) (e_s := (3, 1, 1, 0, 0, .null, [])) (y_s := (1012, [some (.ref _), some (.ref _), some (.ref _), some (.int _)], [.ref _], _)) rfl (u_ rfl) ?_
  refine wcI (pc := 1012) (len_s := 3) rfl rfl (l := [some (.ref _)]) rfl (wmI t_s (fun v1_s h1 hk t_s => ?_))
  replace t_s := t_s hk
  refine w_t (pc := 1015) (e_s := (42, 1, 0, 0, 0, .null, [])) (y_s := (1016, [some (.ref _), some (.ref _), some (.ref _), some (.int _)], [], _)) rfl (u_ rfl) ?_
  refine w_t (pc := 1016) (e_s := (3, 1, 2, 0, 0, .null, [])) (y_s := (1017, [some (.ref _), some (.ref _), some (.ref _), some (.int _)], [.ref _], _)) rfl (u_ rfl) ?_
  refine wcI (pc := 1017) (len_s := 3) rfl rfl (l := [some (.ref _)]) rfl (wmI t_s (fun v2 h2 hk t_s => ?_))
  replace t_s := t_s hk
  refine w_t (pc := 1020) (e_s := (42, 1, 0, 0, 0, .null, [])) (y_s := (1021, [some (.ref _), some (.ref _), some (.ref _), some (.int _)], [], _)) rfl (u_ rfl) ?_
  refine w_t (pc := 1021) (e_s := (17, 3, 1414, 0, 0, .null, [])) (y_s := (1414, [some (.ref _), some (.ref _), some (.ref _), some (.int _)], [], _)) rfl (u_ rfl) ?_
  refine w_t (pc := 1414) (e_s := (19, 3, 3, 0, 0, .int 6, [])) (y_s := (1417, [some (.ref _), some (.ref _), some (.ref _), some (.int _)], [], _)) rfl (u_ rfl) ?_
  refine w_t (pc := 1417) (e_s := (17, 3, 18, 0, 0, .null, [])) (y_s := (18, [some (.ref _), some (.ref _), some (.ref _), some (.int _)], [], _)) rfl (u_ rfl) ?_
  exact t_s
theorem sg_241_1024 {F_s : Nat} {x3 : Int32} {h_s : zH} {K_s : Int32 → zH → Prop} (hk : hKn h_s) (t_s : wF F_s 125 (0, [some (.ref 6), some (.int (h_s.2.1 0 (zix (x3 + 1))))], [], h_s) (gI (fun v1_s h1 => hKn h1 → wF F_s 219 (0, [some (.ref 102), some (.int (h1.2.1 0 (zix (x3 + 1))))], [], h1) (gI (fun v2 h2 => hKn h2 → wF F_s 241 (18, [some (.ref 0), some (.ref 6), some (.ref 102), some (.int (x3 + 6))], [], h2) (gI K_s)))))) : wF (F_s + 1) 241 (1024, [some (.ref 0), some (.ref 6), some (.ref 102), some (.int x3)], [], h_s) (gI K_s) := by
  refine w_0 (pc := 1024) (e_s := (3, 1, 1, 0, 0, .null, [])) (y_s := (1025, [some (.ref _), some (.ref _), some (.ref _), some (.int _)], [.ref _], _)) rfl (u_ rfl) ?_
  refine w_t (pc := 1025) (e_s := (3, 1, 0, 0, 0, .null, [])) (y_s := (1026, [some (.ref _), some (.ref _), some (.ref _), some (.int _)], [.ref _, .ref _], _)) rfl (u_ rfl) ?_
  refine w_t (pc := 1026) (e_s := (1, 1, 3, 0, 0, .null, [])) (y_s := (1027, [some (.ref _), some (.ref _), some (.ref _), some (.int _)], [.int _, .ref _, .ref _], _)) rfl (u_ rfl) ?_
  refine w_t (pc := 1027) (e_s := (0, 1, 0, 0, 0, .int 1, [])) (y_s := (1028, [some (.ref _), some (.ref _), some (.ref _), some (.int _)], [.int _, .int _, .ref _, .ref _], _)) rfl (u_ rfl) ?_
  refine w_t (pc := 1028) (e_s := (7, 1, 0, 0, 0, .null, [])) (y_s := (1029, [some (.ref _), some (.ref _), some (.ref _), some (.int _)], [.int (_ + _), .ref _, .ref _], _)) rfl (u_ rfl) ?_
  refine w22x (pc := 1029) (len_s := 1) rfl ?_
  refine wcI (pc := 1030) (len_s := 3) rfl rfl (l := [some (.ref _), some (.int _)]) rfl (wmI t_s (fun v1_s h1 hk t_s => ?_))
  replace t_s := t_s hk
  refine w_t (pc := 1033) (e_s := (42, 1, 0, 0, 0, .null, [])) (y_s := (1034, [some (.ref _), some (.ref _), some (.ref _), some (.int _)], [], _)) rfl (u_ rfl) ?_
  refine w_t (pc := 1034) (e_s := (3, 1, 2, 0, 0, .null, [])) (y_s := (1035, [some (.ref _), some (.ref _), some (.ref _), some (.int _)], [.ref _], _)) rfl (u_ rfl) ?_
  refine w_t (pc := 1035) (e_s := (3, 1, 0, 0, 0, .null, [])) (y_s := (1036, [some (.ref _), some (.ref _), some (.ref _), some (.int _)], [.ref _, .ref _], _)) rfl (u_ rfl) ?_
  refine w_t (pc := 1036) (e_s := (1, 1, 3, 0, 0, .null, [])) (y_s := (1037, [some (.ref _), some (.ref _), some (.ref _), some (.int _)], [.int _, .ref _, .ref _], _)) rfl (u_ rfl) ?_
  refine w_t (pc := 1037) (e_s := (0, 1, 0, 0, 0, .int 1, [])) (y_s := (1038, [some (.ref _), some (.ref _), some (.ref _), some (.int _)], [.int _, .int _, .ref _, .ref _], _)) rfl (u_ rfl) ?_
  refine w_t (pc := 1038) (e_s := (7, 1, 0, 0, 0, .null, [])) (y_s := (1039, [some (.ref _), some (.ref _), some (.ref _), some (.int _)], [.int (_ + _), .ref _, .ref _], _)) rfl (u_ rfl) ?_
  refine w22x (pc := 1039) (len_s := 1) rfl ?_
  refine wcI (pc := 1040) (len_s := 3) rfl rfl (l := [some (.ref _), some (.int _)]) rfl (wmI t_s (fun v2 h2 hk t_s => ?_))
  replace t_s := t_s hk
  refine w_t (pc := 1043) (e_s := (42, 1, 0, 0, 0, .null, [])) (y_s := (1044, [some (.ref _), some (.ref _), some (.ref _), some (.int _)], [], _)) rfl (u_ rfl) ?_
  refine w_t (pc := 1044) (e_s := (17, 3, 1414, 0, 0, .null, [])) (y_s := (1414, [some (.ref _), some (.ref _), some (.ref _), some (.int _)], [], _)) rfl (u_ rfl) ?_
  refine w_t (pc := 1414) (e_s := (19, 3, 3, 0, 0, .int 6, [])) (y_s := (1417, [some (.ref _), some (.ref _), some (.ref _), some (.int _)], [], _)) rfl (u_ rfl) ?_
  refine w_t (pc := 1417) (e_s := (17, 3, 18, 0, 0, .null, [])) (y_s := (18, [some (.ref _), some (.ref _), some (.ref _), some (.int _)], [], _)) rfl (u_ rfl) ?_
  exact t_s
theorem sg_241_1047 {F_s : Nat} {x3 : Int32} {h_s : zH} {K_s : Int32 → zH → Prop} (hk : hKn h_s) (t_s : wF F_s 126 (0, [some (.ref 6), some (.int (h_s.2.1 0 (zix (x3 + 1)))), some (.int (h_s.2.1 0 (zix (x3 + 2)))), some (.int (h_s.2.1 0 (zix (x3 + 3))))], [], h_s) (gI (fun v1_s h1 => hKn h1 → wF F_s 226 (0, [some (.ref 102), some (.int (h1.2.1 0 (zix (x3 + 1)))), some (.int (h1.2.1 0 (zix (x3 + 2)))), some (.int (h1.2.1 0 (zix (x3 + 3))))], [], h1) (gI (fun v2 h2 => hKn h2 → wF F_s 241 (18, [some (.ref 0), some (.ref 6), some (.ref 102), some (.int (x3 + 6))], [], h2) (gI K_s)))))) : wF (F_s + 1) 241 (1047, [some (.ref 0), some (.ref 6), some (.ref 102), some (.int x3)], [], h_s) (gI K_s) := by
  refine w_0 (pc := 1047) (e_s := (3, 1, 1, 0, 0, .null, [])) (y_s := (1048, [some (.ref _), some (.ref _), some (.ref _), some (.int _)], [.ref _], _)) rfl (u_ rfl) ?_
  refine w_t (pc := 1048) (e_s := (3, 1, 0, 0, 0, .null, [])) (y_s := (1049, [some (.ref _), some (.ref _), some (.ref _), some (.int _)], [.ref _, .ref _], _)) rfl (u_ rfl) ?_
  refine w_t (pc := 1049) (e_s := (1, 1, 3, 0, 0, .null, [])) (y_s := (1050, [some (.ref _), some (.ref _), some (.ref _), some (.int _)], [.int _, .ref _, .ref _], _)) rfl (u_ rfl) ?_
  refine w_t (pc := 1050) (e_s := (0, 1, 0, 0, 0, .int 1, [])) (y_s := (1051, [some (.ref _), some (.ref _), some (.ref _), some (.int _)], [.int _, .int _, .ref _, .ref _], _)) rfl (u_ rfl) ?_
  refine w_t (pc := 1051) (e_s := (7, 1, 0, 0, 0, .null, [])) (y_s := (1052, [some (.ref _), some (.ref _), some (.ref _), some (.int _)], [.int (_ + _), .ref _, .ref _], _)) rfl (u_ rfl) ?_
  refine w22x (pc := 1052) (len_s := 1) rfl ?_
  refine w_t (pc := 1053) (e_s := (3, 1, 0, 0, 0, .null, [])) (y_s := (1054, [some (.ref _), some (.ref _), some (.ref _), some (.int _)], [.ref _, .int _, .ref _], _)) rfl (u_ rfl) ?_
  refine w_t (pc := 1054) (e_s := (1, 1, 3, 0, 0, .null, [])) (y_s := (1055, [some (.ref _), some (.ref _), some (.ref _), some (.int _)], [.int _, .ref _, .int _, .ref _], _)) rfl (u_ rfl) ?_
  refine w_t (pc := 1055) (e_s := (0, 1, 0, 0, 0, .int 2, [])) (y_s := (1056, [some (.ref _), some (.ref _), some (.ref _), some (.int _)], [.int _, .int _, .ref _, .int _, .ref _], _)) rfl (u_ rfl) ?_
  refine w_t (pc := 1056) (e_s := (7, 1, 0, 0, 0, .null, [])) (y_s := (1057, [some (.ref _), some (.ref _), some (.ref _), some (.int _)], [.int (_ + _), .ref _, .int _, .ref _], _)) rfl (u_ rfl) ?_
  refine w22x (pc := 1057) (len_s := 1) rfl ?_
  refine w_t (pc := 1058) (e_s := (3, 1, 0, 0, 0, .null, [])) (y_s := (1059, [some (.ref _), some (.ref _), some (.ref _), some (.int _)], [.ref _, .int _, .int _, .ref _], _)) rfl (u_ rfl) ?_
  refine w_t (pc := 1059) (e_s := (1, 1, 3, 0, 0, .null, [])) (y_s := (1060, [some (.ref _), some (.ref _), some (.ref _), some (.int _)], [.int _, .ref _, .int _, .int _, .ref _], _)) rfl (u_ rfl) ?_
  refine w_t (pc := 1060) (e_s := (0, 1, 0, 0, 0, .int 3, [])) (y_s := (1061, [some (.ref _), some (.ref _), some (.ref _), some (.int _)], [.int _, .int _, .ref _, .int _, .int _, .ref _], _)) rfl (u_ rfl) ?_
  refine w_t (pc := 1061) (e_s := (7, 1, 0, 0, 0, .null, [])) (y_s := (1062, [some (.ref _), some (.ref _), some (.ref _), some (.int _)], [.int (_ + _), .ref _, .int _, .int _, .ref _], _)) rfl (u_ rfl) ?_
  refine w22x (pc := 1062) (len_s := 1) rfl ?_
  refine wcI (pc := 1063) (len_s := 3) rfl rfl (l := [some (.ref _), some (.int _), some (.int _), some (.int _)]) rfl (wmI t_s (fun v1_s h1 hk t_s => ?_))
  replace t_s := t_s hk
  refine w_t (pc := 1066) (e_s := (42, 1, 0, 0, 0, .null, [])) (y_s := (1067, [some (.ref _), some (.ref _), some (.ref _), some (.int _)], [], _)) rfl (u_ rfl) ?_
  refine w_t (pc := 1067) (e_s := (3, 1, 2, 0, 0, .null, [])) (y_s := (1068, [some (.ref _), some (.ref _), some (.ref _), some (.int _)], [.ref _], _)) rfl (u_ rfl) ?_
  refine w_t (pc := 1068) (e_s := (3, 1, 0, 0, 0, .null, [])) (y_s := (1069, [some (.ref _), some (.ref _), some (.ref _), some (.int _)], [.ref _, .ref _], _)) rfl (u_ rfl) ?_
  refine w_t (pc := 1069) (e_s := (1, 1, 3, 0, 0, .null, [])) (y_s := (1070, [some (.ref _), some (.ref _), some (.ref _), some (.int _)], [.int _, .ref _, .ref _], _)) rfl (u_ rfl) ?_
  refine w_t (pc := 1070) (e_s := (0, 1, 0, 0, 0, .int 1, [])) (y_s := (1071, [some (.ref _), some (.ref _), some (.ref _), some (.int _)], [.int _, .int _, .ref _, .ref _], _)) rfl (u_ rfl) ?_
  refine w_t (pc := 1071) (e_s := (7, 1, 0, 0, 0, .null, [])) (y_s := (1072, [some (.ref _), some (.ref _), some (.ref _), some (.int _)], [.int (_ + _), .ref _, .ref _], _)) rfl (u_ rfl) ?_
  refine w22x (pc := 1072) (len_s := 1) rfl ?_
  refine w_t (pc := 1073) (e_s := (3, 1, 0, 0, 0, .null, [])) (y_s := (1074, [some (.ref _), some (.ref _), some (.ref _), some (.int _)], [.ref _, .int _, .ref _], _)) rfl (u_ rfl) ?_
  refine w_t (pc := 1074) (e_s := (1, 1, 3, 0, 0, .null, [])) (y_s := (1075, [some (.ref _), some (.ref _), some (.ref _), some (.int _)], [.int _, .ref _, .int _, .ref _], _)) rfl (u_ rfl) ?_
  refine w_t (pc := 1075) (e_s := (0, 1, 0, 0, 0, .int 2, [])) (y_s := (1076, [some (.ref _), some (.ref _), some (.ref _), some (.int _)], [.int _, .int _, .ref _, .int _, .ref _], _)) rfl (u_ rfl) ?_
  refine w_t (pc := 1076) (e_s := (7, 1, 0, 0, 0, .null, [])) (y_s := (1077, [some (.ref _), some (.ref _), some (.ref _), some (.int _)], [.int (_ + _), .ref _, .int _, .ref _], _)) rfl (u_ rfl) ?_
  refine w22x (pc := 1077) (len_s := 1) rfl ?_
  refine w_t (pc := 1078) (e_s := (3, 1, 0, 0, 0, .null, [])) (y_s := (1079, [some (.ref _), some (.ref _), some (.ref _), some (.int _)], [.ref _, .int _, .int _, .ref _], _)) rfl (u_ rfl) ?_
  refine w_t (pc := 1079) (e_s := (1, 1, 3, 0, 0, .null, [])) (y_s := (1080, [some (.ref _), some (.ref _), some (.ref _), some (.int _)], [.int _, .ref _, .int _, .int _, .ref _], _)) rfl (u_ rfl) ?_
  refine w_t (pc := 1080) (e_s := (0, 1, 0, 0, 0, .int 3, [])) (y_s := (1081, [some (.ref _), some (.ref _), some (.ref _), some (.int _)], [.int _, .int _, .ref _, .int _, .int _, .ref _], _)) rfl (u_ rfl) ?_
  refine w_t (pc := 1081) (e_s := (7, 1, 0, 0, 0, .null, [])) (y_s := (1082, [some (.ref _), some (.ref _), some (.ref _), some (.int _)], [.int (_ + _), .ref _, .int _, .int _, .ref _], _)) rfl (u_ rfl) ?_
  refine w22x (pc := 1082) (len_s := 1) rfl ?_
  refine wcI (pc := 1083) (len_s := 3) rfl rfl (l := [some (.ref _), some (.int _), some (.int _), some (.int _)]) rfl (wmI t_s (fun v2 h2 hk t_s => ?_))
  replace t_s := t_s hk
  refine w_t (pc := 1086) (e_s := (42, 1, 0, 0, 0, .null, [])) (y_s := (1087, [some (.ref _), some (.ref _), some (.ref _), some (.int _)], [], _)) rfl (u_ rfl) ?_
  refine w_t (pc := 1087) (e_s := (17, 3, 1414, 0, 0, .null, [])) (y_s := (1414, [some (.ref _), some (.ref _), some (.ref _), some (.int _)], [], _)) rfl (u_ rfl) ?_
  refine w_t (pc := 1414) (e_s := (19, 3, 3, 0, 0, .int 6, [])) (y_s := (1417, [some (.ref _), some (.ref _), some (.ref _), some (.int _)], [], _)) rfl (u_ rfl) ?_
  refine w_t (pc := 1417) (e_s := (17, 3, 18, 0, 0, .null, [])) (y_s := (18, [some (.ref _), some (.ref _), some (.ref _), some (.int _)], [], _)) rfl (u_ rfl) ?_
  exact t_s
theorem sg_241_1090 {F_s : Nat} {x3 : Int32} {h_s : zH} {K_s : Int32 → zH → Prop} (hk : hKn h_s) (t_s : wF F_s 127 (0, [some (.ref 6), some (.int (h_s.2.1 0 (zix (x3 + 1))))], [], h_s) (gI (fun v1_s h1 => hKn h1 → wF F_s 227 (0, [some (.ref 102), some (.int (h1.2.1 0 (zix (x3 + 1))))], [], h1) (gI (fun v2 h2 => hKn h2 → wF F_s 241 (18, [some (.ref 0), some (.ref 6), some (.ref 102), some (.int (x3 + 6))], [], h2) (gI K_s)))))) : wF (F_s + 1) 241 (1090, [some (.ref 0), some (.ref 6), some (.ref 102), some (.int x3)], [], h_s) (gI K_s) := by
  refine w_0 (pc := 1090) (e_s := (3, 1, 1, 0, 0, .null, [])) (y_s := (1091, [some (.ref _), some (.ref _), some (.ref _), some (.int _)], [.ref _], _)) rfl (u_ rfl) ?_
  refine w_t (pc := 1091) (e_s := (3, 1, 0, 0, 0, .null, [])) (y_s := (1092, [some (.ref _), some (.ref _), some (.ref _), some (.int _)], [.ref _, .ref _], _)) rfl (u_ rfl) ?_
  refine w_t (pc := 1092) (e_s := (1, 1, 3, 0, 0, .null, [])) (y_s := (1093, [some (.ref _), some (.ref _), some (.ref _), some (.int _)], [.int _, .ref _, .ref _], _)) rfl (u_ rfl) ?_
  refine w_t (pc := 1093) (e_s := (0, 1, 0, 0, 0, .int 1, [])) (y_s := (1094, [some (.ref _), some (.ref _), some (.ref _), some (.int _)], [.int _, .int _, .ref _, .ref _], _)) rfl (u_ rfl) ?_
  refine w_t (pc := 1094) (e_s := (7, 1, 0, 0, 0, .null, [])) (y_s := (1095, [some (.ref _), some (.ref _), some (.ref _), some (.int _)], [.int (_ + _), .ref _, .ref _], _)) rfl (u_ rfl) ?_
  refine w22x (pc := 1095) (len_s := 1) rfl ?_
  refine wcI (pc := 1096) (len_s := 3) rfl rfl (l := [some (.ref _), some (.int _)]) rfl (wmI t_s (fun v1_s h1 hk t_s => ?_))
  replace t_s := t_s hk
  refine w_t (pc := 1099) (e_s := (42, 1, 0, 0, 0, .null, [])) (y_s := (1100, [some (.ref _), some (.ref _), some (.ref _), some (.int _)], [], _)) rfl (u_ rfl) ?_
  refine w_t (pc := 1100) (e_s := (3, 1, 2, 0, 0, .null, [])) (y_s := (1101, [some (.ref _), some (.ref _), some (.ref _), some (.int _)], [.ref _], _)) rfl (u_ rfl) ?_
  refine w_t (pc := 1101) (e_s := (3, 1, 0, 0, 0, .null, [])) (y_s := (1102, [some (.ref _), some (.ref _), some (.ref _), some (.int _)], [.ref _, .ref _], _)) rfl (u_ rfl) ?_
  refine w_t (pc := 1102) (e_s := (1, 1, 3, 0, 0, .null, [])) (y_s := (1103, [some (.ref _), some (.ref _), some (.ref _), some (.int _)], [.int _, .ref _, .ref _], _)) rfl (u_ rfl) ?_
  refine w_t (pc := 1103) (e_s := (0, 1, 0, 0, 0, .int 1, [])) (y_s := (1104, [some (.ref _), some (.ref _), some (.ref _), some (.int _)], [.int _, .int _, .ref _, .ref _], _)) rfl (u_ rfl) ?_
  refine w_t (pc := 1104) (e_s := (7, 1, 0, 0, 0, .null, [])) (y_s := (1105, [some (.ref _), some (.ref _), some (.ref _), some (.int _)], [.int (_ + _), .ref _, .ref _], _)) rfl (u_ rfl) ?_
  refine w22x (pc := 1105) (len_s := 1) rfl ?_
  refine wcI (pc := 1106) (len_s := 3) rfl rfl (l := [some (.ref _), some (.int _)]) rfl (wmI t_s (fun v2 h2 hk t_s => ?_))
  replace t_s := t_s hk
  refine w_t (pc := 1109) (e_s := (42, 1, 0, 0, 0, .null, [])) (y_s := (1110, [some (.ref _), some (.ref _), some (.ref _), some (.int _)], [], _)) rfl (u_ rfl) ?_
  refine w_t (pc := 1110) (e_s := (17, 3, 1414, 0, 0, .null, [])) (y_s := (1414, [some (.ref _), some (.ref _), some (.ref _), some (.int _)], [], _)) rfl (u_ rfl) ?_
  refine w_t (pc := 1414) (e_s := (19, 3, 3, 0, 0, .int 6, [])) (y_s := (1417, [some (.ref _), some (.ref _), some (.ref _), some (.int _)], [], _)) rfl (u_ rfl) ?_
  refine w_t (pc := 1417) (e_s := (17, 3, 18, 0, 0, .null, [])) (y_s := (18, [some (.ref _), some (.ref _), some (.ref _), some (.int _)], [], _)) rfl (u_ rfl) ?_
  exact t_s
theorem sg_241_1113 {F_s : Nat} {x3 : Int32} {h_s : zH} {K_s : Int32 → zH → Prop} (hk : hKn h_s) (t_s : wF F_s 128 (0, [some (.ref 6), some (.int (h_s.2.1 0 (zix (x3 + 1)))), some (.int (h_s.2.1 0 (zix (x3 + 2))))], [], h_s) (gI (fun v1_s h1 => hKn h1 → wF F_s 229 (0, [some (.ref 102), some (.int (h1.2.1 0 (zix (x3 + 1)))), some (.int (h1.2.1 0 (zix (x3 + 2))))], [], h1) (gI (fun v2 h2 => hKn h2 → wF F_s 241 (18, [some (.ref 0), some (.ref 6), some (.ref 102), some (.int (x3 + 6))], [], h2) (gI K_s)))))) : wF (F_s + 1) 241 (1113, [some (.ref 0), some (.ref 6), some (.ref 102), some (.int x3)], [], h_s) (gI K_s) := by
  refine w_0 (pc := 1113) (e_s := (3, 1, 1, 0, 0, .null, [])) (y_s := (1114, [some (.ref _), some (.ref _), some (.ref _), some (.int _)], [.ref _], _)) rfl (u_ rfl) ?_
  refine w_t (pc := 1114) (e_s := (3, 1, 0, 0, 0, .null, [])) (y_s := (1115, [some (.ref _), some (.ref _), some (.ref _), some (.int _)], [.ref _, .ref _], _)) rfl (u_ rfl) ?_
  refine w_t (pc := 1115) (e_s := (1, 1, 3, 0, 0, .null, [])) (y_s := (1116, [some (.ref _), some (.ref _), some (.ref _), some (.int _)], [.int _, .ref _, .ref _], _)) rfl (u_ rfl) ?_
  refine w_t (pc := 1116) (e_s := (0, 1, 0, 0, 0, .int 1, [])) (y_s := (1117, [some (.ref _), some (.ref _), some (.ref _), some (.int _)], [.int _, .int _, .ref _, .ref _], _)) rfl (u_ rfl) ?_
  refine w_t (pc := 1117) (e_s := (7, 1, 0, 0, 0, .null, [])) (y_s := (1118, [some (.ref _), some (.ref _), some (.ref _), some (.int _)], [.int (_ + _), .ref _, .ref _], _)) rfl (u_ rfl) ?_
  refine w22x (pc := 1118) (len_s := 1) rfl ?_
  refine w_t (pc := 1119) (e_s := (3, 1, 0, 0, 0, .null, [])) (y_s := (1120, [some (.ref _), some (.ref _), some (.ref _), some (.int _)], [.ref _, .int _, .ref _], _)) rfl (u_ rfl) ?_
  refine w_t (pc := 1120) (e_s := (1, 1, 3, 0, 0, .null, [])) (y_s := (1121, [some (.ref _), some (.ref _), some (.ref _), some (.int _)], [.int _, .ref _, .int _, .ref _], _)) rfl (u_ rfl) ?_
  refine w_t (pc := 1121) (e_s := (0, 1, 0, 0, 0, .int 2, [])) (y_s := (1122, [some (.ref _), some (.ref _), some (.ref _), some (.int _)], [.int _, .int _, .ref _, .int _, .ref _], _)) rfl (u_ rfl) ?_
  refine w_t (pc := 1122) (e_s := (7, 1, 0, 0, 0, .null, [])) (y_s := (1123, [some (.ref _), some (.ref _), some (.ref _), some (.int _)], [.int (_ + _), .ref _, .int _, .ref _], _)) rfl (u_ rfl) ?_
  refine w22x (pc := 1123) (len_s := 1) rfl ?_
  refine wcI (pc := 1124) (len_s := 3) rfl rfl (l := [some (.ref _), some (.int _), some (.int _)]) rfl (wmI t_s (fun v1_s h1 hk t_s => ?_))
  replace t_s := t_s hk
  refine w_t (pc := 1127) (e_s := (42, 1, 0, 0, 0, .null, [])) (y_s := (1128, [some (.ref _), some (.ref _), some (.ref _), some (.int _)], [], _)) rfl (u_ rfl) ?_
  refine w_t (pc := 1128) (e_s := (3, 1, 2, 0, 0, .null, [])) (y_s := (1129, [some (.ref _), some (.ref _), some (.ref _), some (.int _)], [.ref _], _)) rfl (u_ rfl) ?_
  refine w_t (pc := 1129) (e_s := (3, 1, 0, 0, 0, .null, [])) (y_s := (1130, [some (.ref _), some (.ref _), some (.ref _), some (.int _)], [.ref _, .ref _], _)) rfl (u_ rfl) ?_
  refine w_t (pc := 1130) (e_s := (1, 1, 3, 0, 0, .null, [])) (y_s := (1131, [some (.ref _), some (.ref _), some (.ref _), some (.int _)], [.int _, .ref _, .ref _], _)) rfl (u_ rfl) ?_
  refine w_t (pc := 1131) (e_s := (0, 1, 0, 0, 0, .int 1, [])) (y_s := (1132, [some (.ref _), some (.ref _), some (.ref _), some (.int _)], [.int _, .int _, .ref _, .ref _], _)) rfl (u_ rfl) ?_
  refine w_t (pc := 1132) (e_s := (7, 1, 0, 0, 0, .null, [])) (y_s := (1133, [some (.ref _), some (.ref _), some (.ref _), some (.int _)], [.int (_ + _), .ref _, .ref _], _)) rfl (u_ rfl) ?_
  refine w22x (pc := 1133) (len_s := 1) rfl ?_
  refine w_t (pc := 1134) (e_s := (3, 1, 0, 0, 0, .null, [])) (y_s := (1135, [some (.ref _), some (.ref _), some (.ref _), some (.int _)], [.ref _, .int _, .ref _], _)) rfl (u_ rfl) ?_
  refine w_t (pc := 1135) (e_s := (1, 1, 3, 0, 0, .null, [])) (y_s := (1136, [some (.ref _), some (.ref _), some (.ref _), some (.int _)], [.int _, .ref _, .int _, .ref _], _)) rfl (u_ rfl) ?_
  refine w_t (pc := 1136) (e_s := (0, 1, 0, 0, 0, .int 2, [])) (y_s := (1137, [some (.ref _), some (.ref _), some (.ref _), some (.int _)], [.int _, .int _, .ref _, .int _, .ref _], _)) rfl (u_ rfl) ?_
  refine w_t (pc := 1137) (e_s := (7, 1, 0, 0, 0, .null, [])) (y_s := (1138, [some (.ref _), some (.ref _), some (.ref _), some (.int _)], [.int (_ + _), .ref _, .int _, .ref _], _)) rfl (u_ rfl) ?_
  refine w22x (pc := 1138) (len_s := 1) rfl ?_
  refine wcI (pc := 1139) (len_s := 3) rfl rfl (l := [some (.ref _), some (.int _), some (.int _)]) rfl (wmI t_s (fun v2 h2 hk t_s => ?_))
  replace t_s := t_s hk
  refine w_t (pc := 1142) (e_s := (42, 1, 0, 0, 0, .null, [])) (y_s := (1143, [some (.ref _), some (.ref _), some (.ref _), some (.int _)], [], _)) rfl (u_ rfl) ?_
  refine w_t (pc := 1143) (e_s := (17, 3, 1414, 0, 0, .null, [])) (y_s := (1414, [some (.ref _), some (.ref _), some (.ref _), some (.int _)], [], _)) rfl (u_ rfl) ?_
  refine w_t (pc := 1414) (e_s := (19, 3, 3, 0, 0, .int 6, [])) (y_s := (1417, [some (.ref _), some (.ref _), some (.ref _), some (.int _)], [], _)) rfl (u_ rfl) ?_
  refine w_t (pc := 1417) (e_s := (17, 3, 18, 0, 0, .null, [])) (y_s := (18, [some (.ref _), some (.ref _), some (.ref _), some (.int _)], [], _)) rfl (u_ rfl) ?_
  exact t_s
theorem sg_241_1146 {F_s : Nat} {x3 : Int32} {h_s : zH} {K_s : Int32 → zH → Prop} (hk : hKn h_s) (t_s : wF F_s 129 (0, [some (.ref 6), some (.int (h_s.2.1 0 (zix (x3 + 1)))), some (.int (h_s.2.1 0 (zix (x3 + 2)))), some (.int (h_s.2.1 0 (zix (x3 + 3))))], [], h_s) (gI (fun v1_s h1 => hKn h1 → wF F_s 230 (0, [some (.ref 102), some (.int (h1.2.1 0 (zix (x3 + 1)))), some (.int (h1.2.1 0 (zix (x3 + 2)))), some (.int (h1.2.1 0 (zix (x3 + 3)))), none], [], h1) (gI (fun v2 h2 => hKn h2 → wF F_s 241 (18, [some (.ref 0), some (.ref 6), some (.ref 102), some (.int (x3 + 6))], [], h2) (gI K_s)))))) : wF (F_s + 1) 241 (1146, [some (.ref 0), some (.ref 6), some (.ref 102), some (.int x3)], [], h_s) (gI K_s) := by
  refine w_0 (pc := 1146) (e_s := (3, 1, 1, 0, 0, .null, [])) (y_s := (1147, [some (.ref _), some (.ref _), some (.ref _), some (.int _)], [.ref _], _)) rfl (u_ rfl) ?_
  refine w_t (pc := 1147) (e_s := (3, 1, 0, 0, 0, .null, [])) (y_s := (1148, [some (.ref _), some (.ref _), some (.ref _), some (.int _)], [.ref _, .ref _], _)) rfl (u_ rfl) ?_
  refine w_t (pc := 1148) (e_s := (1, 1, 3, 0, 0, .null, [])) (y_s := (1149, [some (.ref _), some (.ref _), some (.ref _), some (.int _)], [.int _, .ref _, .ref _], _)) rfl (u_ rfl) ?_
  refine w_t (pc := 1149) (e_s := (0, 1, 0, 0, 0, .int 1, [])) (y_s := (1150, [some (.ref _), some (.ref _), some (.ref _), some (.int _)], [.int _, .int _, .ref _, .ref _], _)) rfl (u_ rfl) ?_
  refine w_t (pc := 1150) (e_s := (7, 1, 0, 0, 0, .null, [])) (y_s := (1151, [some (.ref _), some (.ref _), some (.ref _), some (.int _)], [.int (_ + _), .ref _, .ref _], _)) rfl (u_ rfl) ?_
  refine w22x (pc := 1151) (len_s := 1) rfl ?_
  refine w_t (pc := 1152) (e_s := (3, 1, 0, 0, 0, .null, [])) (y_s := (1153, [some (.ref _), some (.ref _), some (.ref _), some (.int _)], [.ref _, .int _, .ref _], _)) rfl (u_ rfl) ?_
  refine w_t (pc := 1153) (e_s := (1, 1, 3, 0, 0, .null, [])) (y_s := (1154, [some (.ref _), some (.ref _), some (.ref _), some (.int _)], [.int _, .ref _, .int _, .ref _], _)) rfl (u_ rfl) ?_
  refine w_t (pc := 1154) (e_s := (0, 1, 0, 0, 0, .int 2, [])) (y_s := (1155, [some (.ref _), some (.ref _), some (.ref _), some (.int _)], [.int _, .int _, .ref _, .int _, .ref _], _)) rfl (u_ rfl) ?_
  refine w_t (pc := 1155) (e_s := (7, 1, 0, 0, 0, .null, [])) (y_s := (1156, [some (.ref _), some (.ref _), some (.ref _), some (.int _)], [.int (_ + _), .ref _, .int _, .ref _], _)) rfl (u_ rfl) ?_
  refine w22x (pc := 1156) (len_s := 1) rfl ?_
  refine w_t (pc := 1157) (e_s := (3, 1, 0, 0, 0, .null, [])) (y_s := (1158, [some (.ref _), some (.ref _), some (.ref _), some (.int _)], [.ref _, .int _, .int _, .ref _], _)) rfl (u_ rfl) ?_
  refine w_t (pc := 1158) (e_s := (1, 1, 3, 0, 0, .null, [])) (y_s := (1159, [some (.ref _), some (.ref _), some (.ref _), some (.int _)], [.int _, .ref _, .int _, .int _, .ref _], _)) rfl (u_ rfl) ?_
  refine w_t (pc := 1159) (e_s := (0, 1, 0, 0, 0, .int 3, [])) (y_s := (1160, [some (.ref _), some (.ref _), some (.ref _), some (.int _)], [.int _, .int _, .ref _, .int _, .int _, .ref _], _)) rfl (u_ rfl) ?_
  refine w_t (pc := 1160) (e_s := (7, 1, 0, 0, 0, .null, [])) (y_s := (1161, [some (.ref _), some (.ref _), some (.ref _), some (.int _)], [.int (_ + _), .ref _, .int _, .int _, .ref _], _)) rfl (u_ rfl) ?_
  refine w22x (pc := 1161) (len_s := 1) rfl ?_
  refine wcI (pc := 1162) (len_s := 3) rfl rfl (l := [some (.ref _), some (.int _), some (.int _), some (.int _)]) rfl (wmI t_s (fun v1_s h1 hk t_s => ?_))
  replace t_s := t_s hk
  refine w_t (pc := 1165) (e_s := (42, 1, 0, 0, 0, .null, [])) (y_s := (1166, [some (.ref _), some (.ref _), some (.ref _), some (.int _)], [], _)) rfl (u_ rfl) ?_
  refine w_t (pc := 1166) (e_s := (3, 1, 2, 0, 0, .null, [])) (y_s := (1167, [some (.ref _), some (.ref _), some (.ref _), some (.int _)], [.ref _], _)) rfl (u_ rfl) ?_
  refine w_t (pc := 1167) (e_s := (3, 1, 0, 0, 0, .null, [])) (y_s := (1168, [some (.ref _), some (.ref _), some (.ref _), some (.int _)], [.ref _, .ref _], _)) rfl (u_ rfl) ?_
  refine w_t (pc := 1168) (e_s := (1, 1, 3, 0, 0, .null, [])) (y_s := (1169, [some (.ref _), some (.ref _), some (.ref _), some (.int _)], [.int _, .ref _, .ref _], _)) rfl (u_ rfl) ?_
  refine w_t (pc := 1169) (e_s := (0, 1, 0, 0, 0, .int 1, [])) (y_s := (1170, [some (.ref _), some (.ref _), some (.ref _), some (.int _)], [.int _, .int _, .ref _, .ref _], _)) rfl (u_ rfl) ?_
  refine w_t (pc := 1170) (e_s := (7, 1, 0, 0, 0, .null, [])) (y_s := (1171, [some (.ref _), some (.ref _), some (.ref _), some (.int _)], [.int (_ + _), .ref _, .ref _], _)) rfl (u_ rfl) ?_
  refine w22x (pc := 1171) (len_s := 1) rfl ?_
  refine w_t (pc := 1172) (e_s := (3, 1, 0, 0, 0, .null, [])) (y_s := (1173, [some (.ref _), some (.ref _), some (.ref _), some (.int _)], [.ref _, .int _, .ref _], _)) rfl (u_ rfl) ?_
  refine w_t (pc := 1173) (e_s := (1, 1, 3, 0, 0, .null, [])) (y_s := (1174, [some (.ref _), some (.ref _), some (.ref _), some (.int _)], [.int _, .ref _, .int _, .ref _], _)) rfl (u_ rfl) ?_
  refine w_t (pc := 1174) (e_s := (0, 1, 0, 0, 0, .int 2, [])) (y_s := (1175, [some (.ref _), some (.ref _), some (.ref _), some (.int _)], [.int _, .int _, .ref _, .int _, .ref _], _)) rfl (u_ rfl) ?_
  refine w_t (pc := 1175) (e_s := (7, 1, 0, 0, 0, .null, [])) (y_s := (1176, [some (.ref _), some (.ref _), some (.ref _), some (.int _)], [.int (_ + _), .ref _, .int _, .ref _], _)) rfl (u_ rfl) ?_
  refine w22x (pc := 1176) (len_s := 1) rfl ?_
  refine w_t (pc := 1177) (e_s := (3, 1, 0, 0, 0, .null, [])) (y_s := (1178, [some (.ref _), some (.ref _), some (.ref _), some (.int _)], [.ref _, .int _, .int _, .ref _], _)) rfl (u_ rfl) ?_
  refine w_t (pc := 1178) (e_s := (1, 1, 3, 0, 0, .null, [])) (y_s := (1179, [some (.ref _), some (.ref _), some (.ref _), some (.int _)], [.int _, .ref _, .int _, .int _, .ref _], _)) rfl (u_ rfl) ?_
  refine w_t (pc := 1179) (e_s := (0, 1, 0, 0, 0, .int 3, [])) (y_s := (1180, [some (.ref _), some (.ref _), some (.ref _), some (.int _)], [.int _, .int _, .ref _, .int _, .int _, .ref _], _)) rfl (u_ rfl) ?_
  refine w_t (pc := 1180) (e_s := (7, 1, 0, 0, 0, .null, [])) (y_s := (1181, [some (.ref _), some (.ref _), some (.ref _), some (.int _)], [.int (_ + _), .ref _, .int _, .int _, .ref _], _)) rfl (u_ rfl) ?_
  refine w22x (pc := 1181) (len_s := 1) rfl ?_
  refine wcI (pc := 1182) (len_s := 3) rfl rfl (l := [some (.ref _), some (.int _), some (.int _), some (.int _), none]) rfl (wmI t_s (fun v2 h2 hk t_s => ?_))
  replace t_s := t_s hk
  refine w_t (pc := 1185) (e_s := (42, 1, 0, 0, 0, .null, [])) (y_s := (1186, [some (.ref _), some (.ref _), some (.ref _), some (.int _)], [], _)) rfl (u_ rfl) ?_
  refine w_t (pc := 1186) (e_s := (17, 3, 1414, 0, 0, .null, [])) (y_s := (1414, [some (.ref _), some (.ref _), some (.ref _), some (.int _)], [], _)) rfl (u_ rfl) ?_
  refine w_t (pc := 1414) (e_s := (19, 3, 3, 0, 0, .int 6, [])) (y_s := (1417, [some (.ref _), some (.ref _), some (.ref _), some (.int _)], [], _)) rfl (u_ rfl) ?_
  refine w_t (pc := 1417) (e_s := (17, 3, 18, 0, 0, .null, [])) (y_s := (18, [some (.ref _), some (.ref _), some (.ref _), some (.int _)], [], _)) rfl (u_ rfl) ?_
  exact t_s
theorem sg_241_1189 {F_s : Nat} {x3 : Int32} {h_s : zH} {K_s : Int32 → zH → Prop} (hk : hKn h_s) (t_s : wF F_s 130 (0, [some (.ref 6), some (.int (h_s.2.1 0 (zix (x3 + 1)))), some (.int (h_s.2.1 0 (zix (x3 + 2)))), some (.long ((((h_s.2.1 0 (zix (x3 + 3))).toInt64) <<< ((32 : Int32).toInt64 &&& 63)) ||| (((h_s.2.1 0 (zix (x3 + 4))).toInt64) &&& 4294967295))), none, none], [], h_s) (gI (fun v1_s h1 => hKn h1 → wF F_s 233 (0, [some (.ref 102), some (.int (h1.2.1 0 (zix (x3 + 1)))), some (.int (h1.2.1 0 (zix (x3 + 2)))), some (.long ((((h1.2.1 0 (zix (x3 + 3))).toInt64) <<< ((32 : Int32).toInt64 &&& 63)) ||| (((h1.2.1 0 (zix (x3 + 4))).toInt64) &&& 4294967295))), none, none], [], h1) (gI (fun v2 h2 => hKn h2 → wF F_s 241 (18, [some (.ref 0), some (.ref 6), some (.ref 102), some (.int (x3 + 6))], [], h2) (gI K_s)))))) : wF (F_s + 1) 241 (1189, [some (.ref 0), some (.ref 6), some (.ref 102), some (.int x3)], [], h_s) (gI K_s) := by
  refine w_0 (pc := 1189) (e_s := (3, 1, 1, 0, 0, .null, [])) (y_s := (1190, [some (.ref _), some (.ref _), some (.ref _), some (.int _)], [.ref _], _)) rfl (u_ rfl) ?_
  refine w_t (pc := 1190) (e_s := (3, 1, 0, 0, 0, .null, [])) (y_s := (1191, [some (.ref _), some (.ref _), some (.ref _), some (.int _)], [.ref _, .ref _], _)) rfl (u_ rfl) ?_
  refine w_t (pc := 1191) (e_s := (1, 1, 3, 0, 0, .null, [])) (y_s := (1192, [some (.ref _), some (.ref _), some (.ref _), some (.int _)], [.int _, .ref _, .ref _], _)) rfl (u_ rfl) ?_
  refine w_t (pc := 1192) (e_s := (0, 1, 0, 0, 0, .int 1, [])) (y_s := (1193, [some (.ref _), some (.ref _), some (.ref _), some (.int _)], [.int _, .int _, .ref _, .ref _], _)) rfl (u_ rfl) ?_
  refine w_t (pc := 1193) (e_s := (7, 1, 0, 0, 0, .null, [])) (y_s := (1194, [some (.ref _), some (.ref _), some (.ref _), some (.int _)], [.int (_ + _), .ref _, .ref _], _)) rfl (u_ rfl) ?_
  refine w22x (pc := 1194) (len_s := 1) rfl ?_
  refine w_t (pc := 1195) (e_s := (3, 1, 0, 0, 0, .null, [])) (y_s := (1196, [some (.ref _), some (.ref _), some (.ref _), some (.int _)], [.ref _, .int _, .ref _], _)) rfl (u_ rfl) ?_
  refine w_t (pc := 1196) (e_s := (1, 1, 3, 0, 0, .null, [])) (y_s := (1197, [some (.ref _), some (.ref _), some (.ref _), some (.int _)], [.int _, .ref _, .int _, .ref _], _)) rfl (u_ rfl) ?_
  refine w_t (pc := 1197) (e_s := (0, 1, 0, 0, 0, .int 2, [])) (y_s := (1198, [some (.ref _), some (.ref _), some (.ref _), some (.int _)], [.int _, .int _, .ref _, .int _, .ref _], _)) rfl (u_ rfl) ?_
  refine w_t (pc := 1198) (e_s := (7, 1, 0, 0, 0, .null, [])) (y_s := (1199, [some (.ref _), some (.ref _), some (.ref _), some (.int _)], [.int (_ + _), .ref _, .int _, .ref _], _)) rfl (u_ rfl) ?_
  refine w22x (pc := 1199) (len_s := 1) rfl ?_
  refine w_t (pc := 1200) (e_s := (3, 1, 0, 0, 0, .null, [])) (y_s := (1201, [some (.ref _), some (.ref _), some (.ref _), some (.int _)], [.ref _, .int _, .int _, .ref _], _)) rfl (u_ rfl) ?_
  refine w_t (pc := 1201) (e_s := (1, 1, 3, 0, 0, .null, [])) (y_s := (1202, [some (.ref _), some (.ref _), some (.ref _), some (.int _)], [.int _, .ref _, .int _, .int _, .ref _], _)) rfl (u_ rfl) ?_
  refine w_t (pc := 1202) (e_s := (0, 1, 0, 0, 0, .int 3, [])) (y_s := (1203, [some (.ref _), some (.ref _), some (.ref _), some (.int _)], [.int _, .int _, .ref _, .int _, .int _, .ref _], _)) rfl (u_ rfl) ?_
  refine w_t (pc := 1203) (e_s := (7, 1, 0, 0, 0, .null, [])) (y_s := (1204, [some (.ref _), some (.ref _), some (.ref _), some (.int _)], [.int (_ + _), .ref _, .int _, .int _, .ref _], _)) rfl (u_ rfl) ?_
  refine w22x (pc := 1204) (len_s := 1) rfl ?_
  refine w_t (pc := 1205) (e_s := (10, 1, 0, 0, 0, .null, [])) (y_s := (1206, [some (.ref _), some (.ref _), some (.ref _), some (.int _)], [.long (Int32.toInt64 _), .int _, .int _, .ref _], _)) rfl (u_ rfl) ?_
  refine w_t (pc := 1206) (e_s := (0, 2, 0, 0, 0, .int 32, [])) (y_s := (1208, [some (.ref _), some (.ref _), some (.ref _), some (.int _)], [.int _, .long _, .int _, .int _, .ref _], _)) rfl (u_ rfl) ?_
  refine w_t (pc := 1208) (e_s := (13, 1, 0, 0, 0, .null, [])) (y_s := (1209, [some (.ref _), some (.ref _), some (.ref _), some (.int _)], [.long ((_ : Int64) <<< ((_ : Int64) &&& 63)), .int _, .int _, .ref _], _)) rfl (u_ rfl) ?_
  refine w_t (pc := 1209) (e_s := (3, 1, 0, 0, 0, .null, [])) (y_s := (1210, [some (.ref _), some (.ref _), some (.ref _), some (.int _)], [.ref _, .long _, .int _, .int _, .ref _], _)) rfl (u_ rfl) ?_
  refine w_t (pc := 1210) (e_s := (1, 1, 3, 0, 0, .null, [])) (y_s := (1211, [some (.ref _), some (.ref _), some (.ref _), some (.int _)], [.int _, .ref _, .long _, .int _, .int _, .ref _], _)) rfl (u_ rfl) ?_
  refine w_t (pc := 1211) (e_s := (0, 1, 0, 0, 0, .int 4, [])) (y_s := (1212, [some (.ref _), some (.ref _), some (.ref _), some (.int _)], [.int _, .int _, .ref _, .long _, .int _, .int _, .ref _], _)) rfl (u_ rfl) ?_
  refine w_t (pc := 1212) (e_s := (7, 1, 0, 0, 0, .null, [])) (y_s := (1213, [some (.ref _), some (.ref _), some (.ref _), some (.int _)], [.int (_ + _), .ref _, .long _, .int _, .int _, .ref _], _)) rfl (u_ rfl) ?_
  refine w22x (pc := 1213) (len_s := 1) rfl ?_
  refine w_t (pc := 1214) (e_s := (10, 1, 0, 0, 0, .null, [])) (y_s := (1215, [some (.ref _), some (.ref _), some (.ref _), some (.int _)], [.long (Int32.toInt64 _), .long _, .int _, .int _, .ref _], _)) rfl (u_ rfl) ?_
  refine w_t (pc := 1215) (e_s := (0, 3, 0, 0, 0, .long 4294967295, [(0, 1225)])) (y_s := (1218, [some (.ref _), some (.ref _), some (.ref _), some (.int _)], [.long _, .long _, .long _, .int _, .int _, .ref _], _)) rfl (u_ rfl) ?_
  refine w_t (pc := 1218) (e_s := (12, 1, 0, 0, 0, .null, [])) (y_s := (1219, [some (.ref _), some (.ref _), some (.ref _), some (.int _)], [.long ((_ : Int64) &&& (_ : Int64)), .long _, .int _, .int _, .ref _], _)) rfl (u_ rfl) ?_
  refine w_t (pc := 1219) (e_s := (12, 1, 0, 1, 0, .null, [])) (y_s := (1220, [some (.ref _), some (.ref _), some (.ref _), some (.int _)], [.long ((_ : Int64) ||| (_ : Int64)), .int _, .int _, .ref _], _)) rfl (u_ rfl) ?_
  refine wcI (pc := 1220) (len_s := 3) rfl rfl (l := [some (.ref _), some (.int _), some (.int _), some (.long _), none, none]) rfl (wmI t_s (fun v1_s h1 hk t_s => ?_))
  replace t_s := t_s hk
  refine w_t (pc := 1223) (e_s := (42, 1, 0, 0, 0, .null, [])) (y_s := (1224, [some (.ref _), some (.ref _), some (.ref _), some (.int _)], [], _)) rfl (u_ rfl) ?_
  refine w_t (pc := 1224) (e_s := (3, 1, 2, 0, 0, .null, [])) (y_s := (1225, [some (.ref _), some (.ref _), some (.ref _), some (.int _)], [.ref _], _)) rfl (u_ rfl) ?_
  refine w_t (pc := 1225) (e_s := (3, 1, 0, 0, 0, .null, [])) (y_s := (1226, [some (.ref _), some (.ref _), some (.ref _), some (.int _)], [.ref _, .ref _], _)) rfl (u_ rfl) ?_
  refine w_t (pc := 1226) (e_s := (1, 1, 3, 0, 0, .null, [])) (y_s := (1227, [some (.ref _), some (.ref _), some (.ref _), some (.int _)], [.int _, .ref _, .ref _], _)) rfl (u_ rfl) ?_
  refine w_t (pc := 1227) (e_s := (0, 1, 0, 0, 0, .int 1, [])) (y_s := (1228, [some (.ref _), some (.ref _), some (.ref _), some (.int _)], [.int _, .int _, .ref _, .ref _], _)) rfl (u_ rfl) ?_
  refine w_t (pc := 1228) (e_s := (7, 1, 0, 0, 0, .null, [])) (y_s := (1229, [some (.ref _), some (.ref _), some (.ref _), some (.int _)], [.int (_ + _), .ref _, .ref _], _)) rfl (u_ rfl) ?_
  refine w22x (pc := 1229) (len_s := 1) rfl ?_
  refine w_t (pc := 1230) (e_s := (3, 1, 0, 0, 0, .null, [])) (y_s := (1231, [some (.ref _), some (.ref _), some (.ref _), some (.int _)], [.ref _, .int _, .ref _], _)) rfl (u_ rfl) ?_
  refine w_t (pc := 1231) (e_s := (1, 1, 3, 0, 0, .null, [])) (y_s := (1232, [some (.ref _), some (.ref _), some (.ref _), some (.int _)], [.int _, .ref _, .int _, .ref _], _)) rfl (u_ rfl) ?_
  refine w_t (pc := 1232) (e_s := (0, 1, 0, 0, 0, .int 2, [])) (y_s := (1233, [some (.ref _), some (.ref _), some (.ref _), some (.int _)], [.int _, .int _, .ref _, .int _, .ref _], _)) rfl (u_ rfl) ?_
  refine w_t (pc := 1233) (e_s := (7, 1, 0, 0, 0, .null, [])) (y_s := (1234, [some (.ref _), some (.ref _), some (.ref _), some (.int _)], [.int (_ + _), .ref _, .int _, .ref _], _)) rfl (u_ rfl) ?_
  refine w22x (pc := 1234) (len_s := 1) rfl ?_
  refine w_t (pc := 1235) (e_s := (3, 1, 0, 0, 0, .null, [])) (y_s := (1236, [some (.ref _), some (.ref _), some (.ref _), some (.int _)], [.ref _, .int _, .int _, .ref _], _)) rfl (u_ rfl) ?_
  refine w_t (pc := 1236) (e_s := (1, 1, 3, 0, 0, .null, [])) (y_s := (1237, [some (.ref _), some (.ref _), some (.ref _), some (.int _)], [.int _, .ref _, .int _, .int _, .ref _], _)) rfl (u_ rfl) ?_
  refine w_t (pc := 1237) (e_s := (0, 1, 0, 0, 0, .int 3, [])) (y_s := (1238, [some (.ref _), some (.ref _), some (.ref _), some (.int _)], [.int _, .int _, .ref _, .int _, .int _, .ref _], _)) rfl (u_ rfl) ?_
  refine w_t (pc := 1238) (e_s := (7, 1, 0, 0, 0, .null, [])) (y_s := (1239, [some (.ref _), some (.ref _), some (.ref _), some (.int _)], [.int (_ + _), .ref _, .int _, .int _, .ref _], _)) rfl (u_ rfl) ?_
  refine w22x (pc := 1239) (len_s := 1) rfl ?_
  refine w_t (pc := 1240) (e_s := (10, 1, 0, 0, 0, .null, [])) (y_s := (1241, [some (.ref _), some (.ref _), some (.ref _), some (.int _)], [.long (Int32.toInt64 _), .int _, .int _, .ref _], _)) rfl (u_ rfl) ?_
  refine w_t (pc := 1241) (e_s := (0, 2, 0, 0, 0, .int 32, [])) (y_s := (1243, [some (.ref _), some (.ref _), some (.ref _), some (.int _)], [.int _, .long _, .int _, .int _, .ref _], _)) rfl (u_ rfl) ?_
  refine w_t (pc := 1243) (e_s := (13, 1, 0, 0, 0, .null, [])) (y_s := (1244, [some (.ref _), some (.ref _), some (.ref _), some (.int _)], [.long ((_ : Int64) <<< ((_ : Int64) &&& 63)), .int _, .int _, .ref _], _)) rfl (u_ rfl) ?_
  refine w_t (pc := 1244) (e_s := (3, 1, 0, 0, 0, .null, [])) (y_s := (1245, [some (.ref _), some (.ref _), some (.ref _), some (.int _)], [.ref _, .long _, .int _, .int _, .ref _], _)) rfl (u_ rfl) ?_
  refine w_t (pc := 1245) (e_s := (1, 1, 3, 0, 0, .null, [])) (y_s := (1246, [some (.ref _), some (.ref _), some (.ref _), some (.int _)], [.int _, .ref _, .long _, .int _, .int _, .ref _], _)) rfl (u_ rfl) ?_
  refine w_t (pc := 1246) (e_s := (0, 1, 0, 0, 0, .int 4, [])) (y_s := (1247, [some (.ref _), some (.ref _), some (.ref _), some (.int _)], [.int _, .int _, .ref _, .long _, .int _, .int _, .ref _], _)) rfl (u_ rfl) ?_
  refine w_t (pc := 1247) (e_s := (7, 1, 0, 0, 0, .null, [])) (y_s := (1248, [some (.ref _), some (.ref _), some (.ref _), some (.int _)], [.int (_ + _), .ref _, .long _, .int _, .int _, .ref _], _)) rfl (u_ rfl) ?_
  refine w22x (pc := 1248) (len_s := 1) rfl ?_
  refine w_t (pc := 1249) (e_s := (10, 1, 0, 0, 0, .null, [])) (y_s := (1250, [some (.ref _), some (.ref _), some (.ref _), some (.int _)], [.long (Int32.toInt64 _), .long _, .int _, .int _, .ref _], _)) rfl (u_ rfl) ?_
  refine w_t (pc := 1250) (e_s := (0, 3, 0, 0, 0, .long 4294967295, [(0, 1225)])) (y_s := (1253, [some (.ref _), some (.ref _), some (.ref _), some (.int _)], [.long _, .long _, .long _, .int _, .int _, .ref _], _)) rfl (u_ rfl) ?_
  refine w_t (pc := 1253) (e_s := (12, 1, 0, 0, 0, .null, [])) (y_s := (1254, [some (.ref _), some (.ref _), some (.ref _), some (.int _)], [.long ((_ : Int64) &&& (_ : Int64)), .long _, .int _, .int _, .ref _], _)) rfl (u_ rfl) ?_
  refine w_t (pc := 1254) (e_s := (12, 1, 0, 1, 0, .null, [])) (y_s := (1255, [some (.ref _), some (.ref _), some (.ref _), some (.int _)], [.long ((_ : Int64) ||| (_ : Int64)), .int _, .int _, .ref _], _)) rfl (u_ rfl) ?_
  refine wcI (pc := 1255) (len_s := 3) rfl rfl (l := [some (.ref _), some (.int _), some (.int _), some (.long _), none, none]) rfl (wmI t_s (fun v2 h2 hk t_s => ?_))
  replace t_s := t_s hk
  refine w_t (pc := 1258) (e_s := (42, 1, 0, 0, 0, .null, [])) (y_s := (1259, [some (.ref _), some (.ref _), some (.ref _), some (.int _)], [], _)) rfl (u_ rfl) ?_
  refine w_t (pc := 1259) (e_s := (17, 3, 1414, 0, 0, .null, [])) (y_s := (1414, [some (.ref _), some (.ref _), some (.ref _), some (.int _)], [], _)) rfl (u_ rfl) ?_
  refine w_t (pc := 1414) (e_s := (19, 3, 3, 0, 0, .int 6, [])) (y_s := (1417, [some (.ref _), some (.ref _), some (.ref _), some (.int _)], [], _)) rfl (u_ rfl) ?_
  refine w_t (pc := 1417) (e_s := (17, 3, 18, 0, 0, .null, [])) (y_s := (18, [some (.ref _), some (.ref _), some (.ref _), some (.int _)], [], _)) rfl (u_ rfl) ?_
  exact t_s
theorem sg_241_1262 {F_s : Nat} {x3 : Int32} {h_s : zH} {K_s : Int32 → zH → Prop} (hk : hKn h_s) (t_s : wF F_s 131 (0, [some (.ref 6), some (.int (h_s.2.1 0 (zix (x3 + 1)))), some (.int (h_s.2.1 0 (zix (x3 + 2))))], [], h_s) (gJ (fun v1_s h1 => hKn h1 → wF F_s 234 (0, [some (.ref 102), some (.int (h1.2.1 0 (zix (x3 + 1)))), some (.int (h1.2.1 0 (zix (x3 + 2))))], [], h1) (gJ (fun v2 h2 => hKn h2 → wF F_s 241 (18, [some (.ref 0), some (.ref 6), some (.ref 102), some (.int (x3 + 6))], [], h2) (gI K_s)))))) : wF (F_s + 1) 241 (1262, [some (.ref 0), some (.ref 6), some (.ref 102), some (.int x3)], [], h_s) (gI K_s) := by
  refine w_0 (pc := 1262) (e_s := (3, 1, 1, 0, 0, .null, [])) (y_s := (1263, [some (.ref _), some (.ref _), some (.ref _), some (.int _)], [.ref _], _)) rfl (u_ rfl) ?_
  refine w_t (pc := 1263) (e_s := (3, 1, 0, 0, 0, .null, [])) (y_s := (1264, [some (.ref _), some (.ref _), some (.ref _), some (.int _)], [.ref _, .ref _], _)) rfl (u_ rfl) ?_
  refine w_t (pc := 1264) (e_s := (1, 1, 3, 0, 0, .null, [])) (y_s := (1265, [some (.ref _), some (.ref _), some (.ref _), some (.int _)], [.int _, .ref _, .ref _], _)) rfl (u_ rfl) ?_
  refine w_t (pc := 1265) (e_s := (0, 1, 0, 0, 0, .int 1, [])) (y_s := (1266, [some (.ref _), some (.ref _), some (.ref _), some (.int _)], [.int _, .int _, .ref _, .ref _], _)) rfl (u_ rfl) ?_
  refine w_t (pc := 1266) (e_s := (7, 1, 0, 0, 0, .null, [])) (y_s := (1267, [some (.ref _), some (.ref _), some (.ref _), some (.int _)], [.int (_ + _), .ref _, .ref _], _)) rfl (u_ rfl) ?_
  refine w22x (pc := 1267) (len_s := 1) rfl ?_
  refine w_t (pc := 1268) (e_s := (3, 1, 0, 0, 0, .null, [])) (y_s := (1269, [some (.ref _), some (.ref _), some (.ref _), some (.int _)], [.ref _, .int _, .ref _], _)) rfl (u_ rfl) ?_
  refine w_t (pc := 1269) (e_s := (1, 1, 3, 0, 0, .null, [])) (y_s := (1270, [some (.ref _), some (.ref _), some (.ref _), some (.int _)], [.int _, .ref _, .int _, .ref _], _)) rfl (u_ rfl) ?_
  refine w_t (pc := 1270) (e_s := (0, 1, 0, 0, 0, .int 2, [])) (y_s := (1271, [some (.ref _), some (.ref _), some (.ref _), some (.int _)], [.int _, .int _, .ref _, .int _, .ref _], _)) rfl (u_ rfl) ?_
  refine w_t (pc := 1271) (e_s := (7, 1, 0, 0, 0, .null, [])) (y_s := (1272, [some (.ref _), some (.ref _), some (.ref _), some (.int _)], [.int (_ + _), .ref _, .int _, .ref _], _)) rfl (u_ rfl) ?_
  refine w22x (pc := 1272) (len_s := 1) rfl ?_
  refine wcJ (pc := 1273) (len_s := 3) rfl rfl (l := [some (.ref _), some (.int _), some (.int _)]) rfl (wmJ t_s (fun v1_s h1 hk t_s => ?_))
  replace t_s := t_s hk
  refine w_t (pc := 1276) (e_s := (44, 1, 0, 0, 0, .null, [])) (y_s := (1277, [some (.ref _), some (.ref _), some (.ref _), some (.int _)], [], _)) rfl (u_ rfl) ?_
  refine w_t (pc := 1277) (e_s := (3, 1, 2, 0, 0, .null, [])) (y_s := (1278, [some (.ref _), some (.ref _), some (.ref _), some (.int _)], [.ref _], _)) rfl (u_ rfl) ?_
  refine w_t (pc := 1278) (e_s := (3, 1, 0, 0, 0, .null, [])) (y_s := (1279, [some (.ref _), some (.ref _), some (.ref _), some (.int _)], [.ref _, .ref _], _)) rfl (u_ rfl) ?_
  refine w_t (pc := 1279) (e_s := (1, 1, 3, 0, 0, .null, [])) (y_s := (1280, [some (.ref _), some (.ref _), some (.ref _), some (.int _)], [.int _, .ref _, .ref _], _)) rfl (u_ rfl) ?_
  refine w_t (pc := 1280) (e_s := (0, 1, 0, 0, 0, .int 1, [])) (y_s := (1281, [some (.ref _), some (.ref _), some (.ref _), some (.int _)], [.int _, .int _, .ref _, .ref _], _)) rfl (u_ rfl) ?_
  refine w_t (pc := 1281) (e_s := (7, 1, 0, 0, 0, .null, [])) (y_s := (1282, [some (.ref _), some (.ref _), some (.ref _), some (.int _)], [.int (_ + _), .ref _, .ref _], _)) rfl (u_ rfl) ?_
  refine w22x (pc := 1282) (len_s := 1) rfl ?_
  refine w_t (pc := 1283) (e_s := (3, 1, 0, 0, 0, .null, [])) (y_s := (1284, [some (.ref _), some (.ref _), some (.ref _), some (.int _)], [.ref _, .int _, .ref _], _)) rfl (u_ rfl) ?_
  refine w_t (pc := 1284) (e_s := (1, 1, 3, 0, 0, .null, [])) (y_s := (1285, [some (.ref _), some (.ref _), some (.ref _), some (.int _)], [.int _, .ref _, .int _, .ref _], _)) rfl (u_ rfl) ?_
  refine w_t (pc := 1285) (e_s := (0, 1, 0, 0, 0, .int 2, [])) (y_s := (1286, [some (.ref _), some (.ref _), some (.ref _), some (.int _)], [.int _, .int _, .ref _, .int _, .ref _], _)) rfl (u_ rfl) ?_
  refine w_t (pc := 1286) (e_s := (7, 1, 0, 0, 0, .null, [])) (y_s := (1287, [some (.ref _), some (.ref _), some (.ref _), some (.int _)], [.int (_ + _), .ref _, .int _, .ref _], _)) rfl (u_ rfl) ?_
  refine w22x (pc := 1287) (len_s := 1) rfl ?_
  refine wcJ (pc := 1288) (len_s := 3) rfl rfl (l := [some (.ref _), some (.int _), some (.int _)]) rfl (wmJ t_s (fun v2 h2 hk t_s => ?_))
  replace t_s := t_s hk
  refine w_t (pc := 1291) (e_s := (44, 1, 0, 0, 0, .null, [])) (y_s := (1292, [some (.ref _), some (.ref _), some (.ref _), some (.int _)], [], _)) rfl (u_ rfl) ?_
  refine w_t (pc := 1292) (e_s := (17, 3, 1414, 0, 0, .null, [])) (y_s := (1414, [some (.ref _), some (.ref _), some (.ref _), some (.int _)], [], _)) rfl (u_ rfl) ?_
  refine w_t (pc := 1414) (e_s := (19, 3, 3, 0, 0, .int 6, [])) (y_s := (1417, [some (.ref _), some (.ref _), some (.ref _), some (.int _)], [], _)) rfl (u_ rfl) ?_
  refine w_t (pc := 1417) (e_s := (17, 3, 18, 0, 0, .null, [])) (y_s := (18, [some (.ref _), some (.ref _), some (.ref _), some (.int _)], [], _)) rfl (u_ rfl) ?_
  exact t_s
theorem sg_241_1295 {F_s : Nat} {x3 : Int32} {h_s : zH} {K_s : Int32 → zH → Prop} (hk : hKn h_s) (t_s : wF F_s 132 (0, [some (.ref 6), some (.int (h_s.2.1 0 (zix (x3 + 1)))), some (.int (h_s.2.1 0 (zix (x3 + 2)))), some (.int (h_s.2.1 0 (zix (x3 + 3)))), some (.int (h_s.2.1 0 (zix (x3 + 4)))), some (.int (h_s.2.1 0 (zix (x3 + 5)))), none, none], [], h_s) (gI (fun v1_s h1 => hKn h1 → wF F_s 235 (0, [some (.ref 102), some (.int (h1.2.1 0 (zix (x3 + 1)))), some (.int (h1.2.1 0 (zix (x3 + 2)))), some (.int (h1.2.1 0 (zix (x3 + 3)))), some (.int (h1.2.1 0 (zix (x3 + 4)))), some (.int (h1.2.1 0 (zix (x3 + 5)))), none], [], h1) (gI (fun v2 h2 => hKn h2 → wF F_s 241 (18, [some (.ref 0), some (.ref 6), some (.ref 102), some (.int (x3 + 6))], [], h2) (gI K_s)))))) : wF (F_s + 1) 241 (1295, [some (.ref 0), some (.ref 6), some (.ref 102), some (.int x3)], [], h_s) (gI K_s) := by
  refine w_0 (pc := 1295) (e_s := (3, 1, 1, 0, 0, .null, [])) (y_s := (1296, [some (.ref _), some (.ref _), some (.ref _), some (.int _)], [.ref _], _)) rfl (u_ rfl) ?_
  refine w_t (pc := 1296) (e_s := (3, 1, 0, 0, 0, .null, [])) (y_s := (1297, [some (.ref _), some (.ref _), some (.ref _), some (.int _)], [.ref _, .ref _], _)) rfl (u_ rfl) ?_
  refine w_t (pc := 1297) (e_s := (1, 1, 3, 0, 0, .null, [])) (y_s := (1298, [some (.ref _), some (.ref _), some (.ref _), some (.int _)], [.int _, .ref _, .ref _], _)) rfl (u_ rfl) ?_
  refine w_t (pc := 1298) (e_s := (0, 1, 0, 0, 0, .int 1, [])) (y_s := (1299, [some (.ref _), some (.ref _), some (.ref _), some (.int _)], [.int _, .int _, .ref _, .ref _], _)) rfl (u_ rfl) ?_
  refine w_t (pc := 1299) (e_s := (7, 1, 0, 0, 0, .null, [])) (y_s := (1300, [some (.ref _), some (.ref _), some (.ref _), some (.int _)], [.int (_ + _), .ref _, .ref _], _)) rfl (u_ rfl) ?_
  refine w22x (pc := 1300) (len_s := 1) rfl ?_
  refine w_t (pc := 1301) (e_s := (3, 1, 0, 0, 0, .null, [])) (y_s := (1302, [some (.ref _), some (.ref _), some (.ref _), some (.int _)], [.ref _, .int _, .ref _], _)) rfl (u_ rfl) ?_
  refine w_t (pc := 1302) (e_s := (1, 1, 3, 0, 0, .null, [])) (y_s := (1303, [some (.ref _), some (.ref _), some (.ref _), some (.int _)], [.int _, .ref _, .int _, .ref _], _)) rfl (u_ rfl) ?_
  refine w_t (pc := 1303) (e_s := (0, 1, 0, 0, 0, .int 2, [])) (y_s := (1304, [some (.ref _), some (.ref _), some (.ref _), some (.int _)], [.int _, .int _, .ref _, .int _, .ref _], _)) rfl (u_ rfl) ?_
  refine w_t (pc := 1304) (e_s := (7, 1, 0, 0, 0, .null, [])) (y_s := (1305, [some (.ref _), some (.ref _), some (.ref _), some (.int _)], [.int (_ + _), .ref _, .int _, .ref _], _)) rfl (u_ rfl) ?_
  refine w22x (pc := 1305) (len_s := 1) rfl ?_
  refine w_t (pc := 1306) (e_s := (3, 1, 0, 0, 0, .null, [])) (y_s := (1307, [some (.ref _), some (.ref _), some (.ref _), some (.int _)], [.ref _, .int _, .int _, .ref _], _)) rfl (u_ rfl) ?_
  refine w_t (pc := 1307) (e_s := (1, 1, 3, 0, 0, .null, [])) (y_s := (1308, [some (.ref _), some (.ref _), some (.ref _), some (.int _)], [.int _, .ref _, .int _, .int _, .ref _], _)) rfl (u_ rfl) ?_
  refine w_t (pc := 1308) (e_s := (0, 1, 0, 0, 0, .int 3, [])) (y_s := (1309, [some (.ref _), some (.ref _), some (.ref _), some (.int _)], [.int _, .int _, .ref _, .int _, .int _, .ref _], _)) rfl (u_ rfl) ?_
  refine w_t (pc := 1309) (e_s := (7, 1, 0, 0, 0, .null, [])) (y_s := (1310, [some (.ref _), some (.ref _), some (.ref _), some (.int _)], [.int (_ + _), .ref _, .int _, .int _, .ref _], _)) rfl (u_ rfl) ?_
  refine w22x (pc := 1310) (len_s := 1) rfl ?_
  refine w_t (pc := 1311) (e_s := (3, 1, 0, 0, 0, .null, [])) (y_s := (1312, [some (.ref _), some (.ref _), some (.ref _), some (.int _)], [.ref _, .int _, .int _, .int _, .ref _], _)) rfl (u_ rfl) ?_
  refine w_t (pc := 1312) (e_s := (1, 1, 3, 0, 0, .null, [])) (y_s := (1313, [some (.ref _), some (.ref _), some (.ref _), some (.int _)], [.int _, .ref _, .int _, .int _, .int _, .ref _], _)) rfl (u_ rfl) ?_
  refine w_t (pc := 1313) (e_s := (0, 1, 0, 0, 0, .int 4, [])) (y_s := (1314, [some (.ref _), some (.ref _), some (.ref _), some (.int _)], [.int _, .int _, .ref _, .int _, .int _, .int _, .ref _], _)) rfl (u_ rfl) ?_
  refine w_t (pc := 1314) (e_s := (7, 1, 0, 0, 0, .null, [])) (y_s := (1315, [some (.ref _), some (.ref _), some (.ref _), some (.int _)], [.int (_ + _), .ref _, .int _, .int _, .int _, .ref _], _)) rfl (u_ rfl) ?_
  refine w22x (pc := 1315) (len_s := 1) rfl ?_
  refine w_t (pc := 1316) (e_s := (3, 1, 0, 0, 0, .null, [])) (y_s := (1317, [some (.ref _), some (.ref _), some (.ref _), some (.int _)], [.ref _, .int _, .int _, .int _, .int _, .ref _], _)) rfl (u_ rfl) ?_
  refine w_t (pc := 1317) (e_s := (1, 1, 3, 0, 0, .null, [])) (y_s := (1318, [some (.ref _), some (.ref _), some (.ref _), some (.int _)], [.int _, .ref _, .int _, .int _, .int _, .int _, .ref _], _)) rfl (u_ rfl) ?_
  refine w_t (pc := 1318) (e_s := (0, 1, 0, 0, 0, .int 5, [])) (y_s := (1319, [some (.ref _), some (.ref _), some (.ref _), some (.int _)], [.int _, .int _, .ref _, .int _, .int _, .int _, .int _, .ref _], _)) rfl (u_ rfl) ?_
  refine w_t (pc := 1319) (e_s := (7, 1, 0, 0, 0, .null, [])) (y_s := (1320, [some (.ref _), some (.ref _), some (.ref _), some (.int _)], [.int (_ + _), .ref _, .int _, .int _, .int _, .int _, .ref _], _)) rfl (u_ rfl) ?_
  refine w22x (pc := 1320) (len_s := 1) rfl ?_
  refine wcI (pc := 1321) (len_s := 3) rfl rfl (l := [some (.ref _), some (.int _), some (.int _), some (.int _), some (.int _), some (.int _), none, none]) rfl (wmI t_s (fun v1_s h1 hk t_s => ?_))
  replace t_s := t_s hk
  refine w_t (pc := 1324) (e_s := (42, 1, 0, 0, 0, .null, [])) (y_s := (1325, [some (.ref _), some (.ref _), some (.ref _), some (.int _)], [], _)) rfl (u_ rfl) ?_
  refine w_t (pc := 1325) (e_s := (3, 1, 2, 0, 0, .null, [])) (y_s := (1326, [some (.ref _), some (.ref _), some (.ref _), some (.int _)], [.ref _], _)) rfl (u_ rfl) ?_
  refine w_t (pc := 1326) (e_s := (3, 1, 0, 0, 0, .null, [])) (y_s := (1327, [some (.ref _), some (.ref _), some (.ref _), some (.int _)], [.ref _, .ref _], _)) rfl (u_ rfl) ?_
  refine w_t (pc := 1327) (e_s := (1, 1, 3, 0, 0, .null, [])) (y_s := (1328, [some (.ref _), some (.ref _), some (.ref _), some (.int _)], [.int _, .ref _, .ref _], _)) rfl (u_ rfl) ?_
  refine w_t (pc := 1328) (e_s := (0, 1, 0, 0, 0, .int 1, [])) (y_s := (1329, [some (.ref _), some (.ref _), some (.ref _), some (.int _)], [.int _, .int _, .ref _, .ref _], _)) rfl (u_ rfl) ?_
  refine w_t (pc := 1329) (e_s := (7, 1, 0, 0, 0, .null, [])) (y_s := (1330, [some (.ref _), some (.ref _), some (.ref _), some (.int _)], [.int (_ + _), .ref _, .ref _], _)) rfl (u_ rfl) ?_
  refine w22x (pc := 1330) (len_s := 1) rfl ?_
  refine w_t (pc := 1331) (e_s := (3, 1, 0, 0, 0, .null, [])) (y_s := (1332, [some (.ref _), some (.ref _), some (.ref _), some (.int _)], [.ref _, .int _, .ref _], _)) rfl (u_ rfl) ?_
  refine w_t (pc := 1332) (e_s := (1, 1, 3, 0, 0, .null, [])) (y_s := (1333, [some (.ref _), some (.ref _), some (.ref _), some (.int _)], [.int _, .ref _, .int _, .ref _], _)) rfl (u_ rfl) ?_
  refine w_t (pc := 1333) (e_s := (0, 1, 0, 0, 0, .int 2, [])) (y_s := (1334, [some (.ref _), some (.ref _), some (.ref _), some (.int _)], [.int _, .int _, .ref _, .int _, .ref _], _)) rfl (u_ rfl) ?_
  refine w_t (pc := 1334) (e_s := (7, 1, 0, 0, 0, .null, [])) (y_s := (1335, [some (.ref _), some (.ref _), some (.ref _), some (.int _)], [.int (_ + _), .ref _, .int _, .ref _], _)) rfl (u_ rfl) ?_
  refine w22x (pc := 1335) (len_s := 1) rfl ?_
  refine w_t (pc := 1336) (e_s := (3, 1, 0, 0, 0, .null, [])) (y_s := (1337, [some (.ref _), some (.ref _), some (.ref _), some (.int _)], [.ref _, .int _, .int _, .ref _], _)) rfl (u_ rfl) ?_
  refine w_t (pc := 1337) (e_s := (1, 1, 3, 0, 0, .null, [])) (y_s := (1338, [some (.ref _), some (.ref _), some (.ref _), some (.int _)], [.int _, .ref _, .int _, .int _, .ref _], _)) rfl (u_ rfl) ?_
  refine w_t (pc := 1338) (e_s := (0, 1, 0, 0, 0, .int 3, [])) (y_s := (1339, [some (.ref _), some (.ref _), some (.ref _), some (.int _)], [.int _, .int _, .ref _, .int _, .int _, .ref _], _)) rfl (u_ rfl) ?_
  refine w_t (pc := 1339) (e_s := (7, 1, 0, 0, 0, .null, [])) (y_s := (1340, [some (.ref _), some (.ref _), some (.ref _), some (.int _)], [.int (_ + _), .ref _, .int _, .int _, .ref _], _)) rfl (u_ rfl) ?_
  refine w22x (pc := 1340) (len_s := 1) rfl ?_
  refine w_t (pc := 1341) (e_s := (3, 1, 0, 0, 0, .null, [])) (y_s := (1342, [some (.ref _), some (.ref _), some (.ref _), some (.int _)], [.ref _, .int _, .int _, .int _, .ref _], _)) rfl (u_ rfl) ?_
  refine w_t (pc := 1342) (e_s := (1, 1, 3, 0, 0, .null, [])) (y_s := (1343, [some (.ref _), some (.ref _), some (.ref _), some (.int _)], [.int _, .ref _, .int _, .int _, .int _, .ref _], _)) rfl (u_ rfl) ?_
  refine w_t (pc := 1343) (e_s := (0, 1, 0, 0, 0, .int 4, [])) (y_s := (1344, [some (.ref _), some (.ref _), some (.ref _), some (.int _)], [.int _, .int _, .ref _, .int _, .int _, .int _, .ref _], _)) rfl (u_ rfl) ?_
  refine w_t (pc := 1344) (e_s := (7, 1, 0, 0, 0, .null, [])) (y_s := (1345, [some (.ref _), some (.ref _), some (.ref _), some (.int _)], [.int (_ + _), .ref _, .int _, .int _, .int _, .ref _], _)) rfl (u_ rfl) ?_
  refine w22x (pc := 1345) (len_s := 1) rfl ?_
  refine w_t (pc := 1346) (e_s := (3, 1, 0, 0, 0, .null, [])) (y_s := (1347, [some (.ref _), some (.ref _), some (.ref _), some (.int _)], [.ref _, .int _, .int _, .int _, .int _, .ref _], _)) rfl (u_ rfl) ?_
  refine w_t (pc := 1347) (e_s := (1, 1, 3, 0, 0, .null, [])) (y_s := (1348, [some (.ref _), some (.ref _), some (.ref _), some (.int _)], [.int _, .ref _, .int _, .int _, .int _, .int _, .ref _], _)) rfl (u_ rfl) ?_
  refine w_t (pc := 1348) (e_s := (0, 1, 0, 0, 0, .int 5, [])) (y_s := (1349, [some (.ref _), some (.ref _), some (.ref _), some (.int _)], [.int _, .int _, .ref _, .int _, .int _, .int _, .int _, .ref _], _)) rfl (u_ rfl) ?_
  refine w_t (pc := 1349) (e_s := (7, 1, 0, 0, 0, .null, [])) (y_s := (1350, [some (.ref _), some (.ref _), some (.ref _), some (.int _)], [.int (_ + _), .ref _, .int _, .int _, .int _, .int _, .ref _], _)) rfl (u_ rfl) ?_
  refine w22x (pc := 1350) (len_s := 1) rfl ?_
  refine wcI (pc := 1351) (len_s := 3) rfl rfl (l := [some (.ref _), some (.int _), some (.int _), some (.int _), some (.int _), some (.int _), none]) rfl (wmI t_s (fun v2 h2 hk t_s => ?_))
  replace t_s := t_s hk
  refine w_t (pc := 1354) (e_s := (42, 1, 0, 0, 0, .null, [])) (y_s := (1355, [some (.ref _), some (.ref _), some (.ref _), some (.int _)], [], _)) rfl (u_ rfl) ?_
  refine w_t (pc := 1355) (e_s := (17, 3, 1414, 0, 0, .null, [])) (y_s := (1414, [some (.ref _), some (.ref _), some (.ref _), some (.int _)], [], _)) rfl (u_ rfl) ?_
  refine w_t (pc := 1414) (e_s := (19, 3, 3, 0, 0, .int 6, [])) (y_s := (1417, [some (.ref _), some (.ref _), some (.ref _), some (.int _)], [], _)) rfl (u_ rfl) ?_
  refine w_t (pc := 1417) (e_s := (17, 3, 18, 0, 0, .null, [])) (y_s := (18, [some (.ref _), some (.ref _), some (.ref _), some (.int _)], [], _)) rfl (u_ rfl) ?_
  exact t_s
theorem sg_241_1358 {F_s : Nat} {x3 : Int32} {h_s : zH} {K_s : Int32 → zH → Prop} (hk : hKn h_s) (t_s : wF F_s 133 (0, [some (.ref 6), some (.int (h_s.2.1 0 (zix (x3 + 1)))), some (.int (h_s.2.1 0 (zix (x3 + 2)))), none, none], [], h_s) (gI (fun v1_s h1 => hKn h1 → wF F_s 236 (0, [some (.ref 102), some (.int (h1.2.1 0 (zix (x3 + 1)))), some (.int (h1.2.1 0 (zix (x3 + 2)))), none], [], h1) (gI (fun v2 h2 => hKn h2 → wF F_s 241 (18, [some (.ref 0), some (.ref 6), some (.ref 102), some (.int (x3 + 6))], [], h2) (gI K_s)))))) : wF (F_s + 1) 241 (1358, [some (.ref 0), some (.ref 6), some (.ref 102), some (.int x3)], [], h_s) (gI K_s) := by
  refine w_0 (pc := 1358) (e_s := (3, 1, 1, 0, 0, .null, [])) (y_s := (1359, [some (.ref _), some (.ref _), some (.ref _), some (.int _)], [.ref _], _)) rfl (u_ rfl) ?_
  refine w_t (pc := 1359) (e_s := (3, 1, 0, 0, 0, .null, [])) (y_s := (1360, [some (.ref _), some (.ref _), some (.ref _), some (.int _)], [.ref _, .ref _], _)) rfl (u_ rfl) ?_
  refine w_t (pc := 1360) (e_s := (1, 1, 3, 0, 0, .null, [])) (y_s := (1361, [some (.ref _), some (.ref _), some (.ref _), some (.int _)], [.int _, .ref _, .ref _], _)) rfl (u_ rfl) ?_
  refine w_t (pc := 1361) (e_s := (0, 1, 0, 0, 0, .int 1, [])) (y_s := (1362, [some (.ref _), some (.ref _), some (.ref _), some (.int _)], [.int _, .int _, .ref _, .ref _], _)) rfl (u_ rfl) ?_
  refine w_t (pc := 1362) (e_s := (7, 1, 0, 0, 0, .null, [])) (y_s := (1363, [some (.ref _), some (.ref _), some (.ref _), some (.int _)], [.int (_ + _), .ref _, .ref _], _)) rfl (u_ rfl) ?_
  refine w22x (pc := 1363) (len_s := 1) rfl ?_
  refine w_t (pc := 1364) (e_s := (3, 1, 0, 0, 0, .null, [])) (y_s := (1365, [some (.ref _), some (.ref _), some (.ref _), some (.int _)], [.ref _, .int _, .ref _], _)) rfl (u_ rfl) ?_
  refine w_t (pc := 1365) (e_s := (1, 1, 3, 0, 0, .null, [])) (y_s := (1366, [some (.ref _), some (.ref _), some (.ref _), some (.int _)], [.int _, .ref _, .int _, .ref _], _)) rfl (u_ rfl) ?_
  refine w_t (pc := 1366) (e_s := (0, 1, 0, 0, 0, .int 2, [])) (y_s := (1367, [some (.ref _), some (.ref _), some (.ref _), some (.int _)], [.int _, .int _, .ref _, .int _, .ref _], _)) rfl (u_ rfl) ?_
  refine w_t (pc := 1367) (e_s := (7, 1, 0, 0, 0, .null, [])) (y_s := (1368, [some (.ref _), some (.ref _), some (.ref _), some (.int _)], [.int (_ + _), .ref _, .int _, .ref _], _)) rfl (u_ rfl) ?_
  refine w22x (pc := 1368) (len_s := 1) rfl ?_
  refine wcI (pc := 1369) (len_s := 3) rfl rfl (l := [some (.ref _), some (.int _), some (.int _), none, none]) rfl (wmI t_s (fun v1_s h1 hk t_s => ?_))
  replace t_s := t_s hk
  refine w_t (pc := 1372) (e_s := (42, 1, 0, 0, 0, .null, [])) (y_s := (1373, [some (.ref _), some (.ref _), some (.ref _), some (.int _)], [], _)) rfl (u_ rfl) ?_
  refine w_t (pc := 1373) (e_s := (3, 1, 2, 0, 0, .null, [])) (y_s := (1374, [some (.ref _), some (.ref _), some (.ref _), some (.int _)], [.ref _], _)) rfl (u_ rfl) ?_
  refine w_t (pc := 1374) (e_s := (3, 1, 0, 0, 0, .null, [])) (y_s := (1375, [some (.ref _), some (.ref _), some (.ref _), some (.int _)], [.ref _, .ref _], _)) rfl (u_ rfl) ?_
  refine w_t (pc := 1375) (e_s := (1, 1, 3, 0, 0, .null, [])) (y_s := (1376, [some (.ref _), some (.ref _), some (.ref _), some (.int _)], [.int _, .ref _, .ref _], _)) rfl (u_ rfl) ?_
  refine w_t (pc := 1376) (e_s := (0, 1, 0, 0, 0, .int 1, [])) (y_s := (1377, [some (.ref _), some (.ref _), some (.ref _), some (.int _)], [.int _, .int _, .ref _, .ref _], _)) rfl (u_ rfl) ?_
  refine w_t (pc := 1377) (e_s := (7, 1, 0, 0, 0, .null, [])) (y_s := (1378, [some (.ref _), some (.ref _), some (.ref _), some (.int _)], [.int (_ + _), .ref _, .ref _], _)) rfl (u_ rfl) ?_
  refine w22x (pc := 1378) (len_s := 1) rfl ?_
  refine w_t (pc := 1379) (e_s := (3, 1, 0, 0, 0, .null, [])) (y_s := (1380, [some (.ref _), some (.ref _), some (.ref _), some (.int _)], [.ref _, .int _, .ref _], _)) rfl (u_ rfl) ?_
  refine w_t (pc := 1380) (e_s := (1, 1, 3, 0, 0, .null, [])) (y_s := (1381, [some (.ref _), some (.ref _), some (.ref _), some (.int _)], [.int _, .ref _, .int _, .ref _], _)) rfl (u_ rfl) ?_
  refine w_t (pc := 1381) (e_s := (0, 1, 0, 0, 0, .int 2, [])) (y_s := (1382, [some (.ref _), some (.ref _), some (.ref _), some (.int _)], [.int _, .int _, .ref _, .int _, .ref _], _)) rfl (u_ rfl) ?_
  refine w_t (pc := 1382) (e_s := (7, 1, 0, 0, 0, .null, [])) (y_s := (1383, [some (.ref _), some (.ref _), some (.ref _), some (.int _)], [.int (_ + _), .ref _, .int _, .ref _], _)) rfl (u_ rfl) ?_
  refine w22x (pc := 1383) (len_s := 1) rfl ?_
  refine wcI (pc := 1384) (len_s := 3) rfl rfl (l := [some (.ref _), some (.int _), some (.int _), none]) rfl (wmI t_s (fun v2 h2 hk t_s => ?_))
  replace t_s := t_s hk
  refine w_t (pc := 1387) (e_s := (42, 1, 0, 0, 0, .null, [])) (y_s := (1388, [some (.ref _), some (.ref _), some (.ref _), some (.int _)], [], _)) rfl (u_ rfl) ?_
  refine w_t (pc := 1388) (e_s := (17, 3, 1414, 0, 0, .null, [])) (y_s := (1414, [some (.ref _), some (.ref _), some (.ref _), some (.int _)], [], _)) rfl (u_ rfl) ?_
  refine w_t (pc := 1414) (e_s := (19, 3, 3, 0, 0, .int 6, [])) (y_s := (1417, [some (.ref _), some (.ref _), some (.ref _), some (.int _)], [], _)) rfl (u_ rfl) ?_
  refine w_t (pc := 1417) (e_s := (17, 3, 18, 0, 0, .null, [])) (y_s := (18, [some (.ref _), some (.ref _), some (.ref _), some (.int _)], [], _)) rfl (u_ rfl) ?_
  exact t_s
theorem sg_241_1391 {F_s : Nat} {x3 : Int32} {h_s : zH} {K_s : Int32 → zH → Prop} (hk : hKn h_s) (t_s : wF F_s 134 (0, [some (.ref 6), some (.int (h_s.2.1 0 (zix (x3 + 1))))], [], h_s) (gI (fun v1_s h1 => hKn h1 → wF F_s 237 (0, [some (.ref 102), some (.int (h1.2.1 0 (zix (x3 + 1))))], [], h1) (gI (fun v2 h2 => hKn h2 → wF F_s 241 (18, [some (.ref 0), some (.ref 6), some (.ref 102), some (.int (x3 + 6))], [], h2) (gI K_s)))))) : wF (F_s + 1) 241 (1391, [some (.ref 0), some (.ref 6), some (.ref 102), some (.int x3)], [], h_s) (gI K_s) := by
  refine w_0 (pc := 1391) (e_s := (3, 1, 1, 0, 0, .null, [])) (y_s := (1392, [some (.ref _), some (.ref _), some (.ref _), some (.int _)], [.ref _], _)) rfl (u_ rfl) ?_
  refine w_t (pc := 1392) (e_s := (3, 1, 0, 0, 0, .null, [])) (y_s := (1393, [some (.ref _), some (.ref _), some (.ref _), some (.int _)], [.ref _, .ref _], _)) rfl (u_ rfl) ?_
  refine w_t (pc := 1393) (e_s := (1, 1, 3, 0, 0, .null, [])) (y_s := (1394, [some (.ref _), some (.ref _), some (.ref _), some (.int _)], [.int _, .ref _, .ref _], _)) rfl (u_ rfl) ?_
  refine w_t (pc := 1394) (e_s := (0, 1, 0, 0, 0, .int 1, [])) (y_s := (1395, [some (.ref _), some (.ref _), some (.ref _), some (.int _)], [.int _, .int _, .ref _, .ref _], _)) rfl (u_ rfl) ?_
  refine w_t (pc := 1395) (e_s := (7, 1, 0, 0, 0, .null, [])) (y_s := (1396, [some (.ref _), some (.ref _), some (.ref _), some (.int _)], [.int (_ + _), .ref _, .ref _], _)) rfl (u_ rfl) ?_
  refine w22x (pc := 1396) (len_s := 1) rfl ?_
  refine wcI (pc := 1397) (len_s := 3) rfl rfl (l := [some (.ref _), some (.int _)]) rfl (wmI t_s (fun v1_s h1 hk t_s => ?_))
  replace t_s := t_s hk
  refine w_t (pc := 1400) (e_s := (42, 1, 0, 0, 0, .null, [])) (y_s := (1401, [some (.ref _), some (.ref _), some (.ref _), some (.int _)], [], _)) rfl (u_ rfl) ?_
  refine w_t (pc := 1401) (e_s := (3, 1, 2, 0, 0, .null, [])) (y_s := (1402, [some (.ref _), some (.ref _), some (.ref _), some (.int _)], [.ref _], _)) rfl (u_ rfl) ?_
  refine w_t (pc := 1402) (e_s := (3, 1, 0, 0, 0, .null, [])) (y_s := (1403, [some (.ref _), some (.ref _), some (.ref _), some (.int _)], [.ref _, .ref _], _)) rfl (u_ rfl) ?_
  refine w_t (pc := 1403) (e_s := (1, 1, 3, 0, 0, .null, [])) (y_s := (1404, [some (.ref _), some (.ref _), some (.ref _), some (.int _)], [.int _, .ref _, .ref _], _)) rfl (u_ rfl) ?_
  refine w_t (pc := 1404) (e_s := (0, 1, 0, 0, 0, .int 1, [])) (y_s := (1405, [some (.ref _), some (.ref _), some (.ref _), some (.int _)], [.int _, .int _, .ref _, .ref _], _)) rfl (u_ rfl) ?_
  refine w_t (pc := 1405) (e_s := (7, 1, 0, 0, 0, .null, [])) (y_s := (1406, [some (.ref _), some (.ref _), some (.ref _), some (.int _)], [.int (_ + _), .ref _, .ref _], _)) rfl (u_ rfl) ?_
  refine w22x (pc := 1406) (len_s := 1) rfl ?_
  refine wcI (pc := 1407) (len_s := 3) rfl rfl (l := [some (.ref _), some (.int _)]) rfl (wmI t_s (fun v2 h2 hk t_s => ?_))
  replace t_s := t_s hk
  refine w_t (pc := 1410) (e_s := (42, 1, 0, 0, 0, .null, [])) (y_s := (1411, [some (.ref _), some (.ref _), some (.ref _), some (.int _)], [], _)) rfl (u_ rfl) ?_
  refine w_t (pc := 1411) (e_s := (17, 3, 1414, 0, 0, .null, [])) (y_s := (1414, [some (.ref _), some (.ref _), some (.ref _), some (.int _)], [], _)) rfl (u_ rfl) ?_
  refine w_t (pc := 1414) (e_s := (19, 3, 3, 0, 0, .int 6, [])) (y_s := (1417, [some (.ref _), some (.ref _), some (.ref _), some (.int _)], [], _)) rfl (u_ rfl) ?_
  refine w_t (pc := 1417) (e_s := (17, 3, 18, 0, 0, .null, [])) (y_s := (18, [some (.ref _), some (.ref _), some (.ref _), some (.int _)], [], _)) rfl (u_ rfl) ?_
  exact t_s
