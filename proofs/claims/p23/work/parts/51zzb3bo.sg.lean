/-! What ended runs give: printed by a program (wip/fun/sg.py). -/
/-- ColdShod.journey(III)I, from 0 on -/
theorem sg_103_0 {F_s : Nat} {x1_s : Int32} {x2_s : Int32} {x3 : Int32} {h_s : zH} {K_s : Int32 → zH → Prop} (hk : hKn h_s) (t_s : (x1_s.toInt < 0 → K_s (-1) h_s) ∧ (¬ x1_s.toInt < 0 → ((x1_s.toInt < 6 → ((x2_s.toInt < 0 → K_s (-1) h_s) ∧ (¬ x2_s.toInt < 0 → ((x2_s.toInt < (h_s.2.1 7 7).toInt → ((x3.toInt < 0 → K_s (-1) h_s) ∧ (¬ x3.toInt < 0 → ((4 < x3.toInt → K_s (-1) h_s) ∧ (¬ 4 < x3.toInt → (zix x1_s < 6 → wF F_s 140 (0, [some (.ref (76 + 2 * (zix x1_s)))], [], h_s) (gI (fun v8 h8 => hKn h8 → (v8.toInt = 0 → wF F_s 48 (0, [some (.ref 50), some (.ref (76 + 2 * (zix x1_s))), some (.int (h8.2.1 7 8)), none, none, none], [], h8) (gV (fun h11 => hKn h11 → wF F_s 139 (0, [some (.ref 6), some (.int x2_s)], [], h11) (gR (fun v12 h12 => hKn h12 → wF F_s 49 (0, [some (.ref 50), some (.ref v12), some (.ref 7), none], [], h12) (gI (fun v13 h13 => hKn h13 → (x3.toInt = 0 → K_s (h13.2.1 50 2) h13) ∧ (¬ x3.toInt = 0 → (x3.toInt = 1 → K_s (h13.2.1 50 3) h13) ∧ (¬ x3.toInt = 1 → (x3.toInt = 2 → K_s (h13.2.1 v12 2) h13) ∧ (¬ x3.toInt = 2 → (x3.toInt = 3 → K_s (h13.2.1 v12 3) h13) ∧ (¬ x3.toInt = 3 → ((v13.toInt = 0 → K_s (h13.2.1 50 3) h13) ∧ (¬ v13.toInt = 0 → K_s (-2) h13))))))))))))) ∧ (¬ v8.toInt = 0 → K_s v8 h8))))))))) ∧ (¬ x2_s.toInt < (h_s.2.1 7 7).toInt → K_s (-1) h_s))))) ∧ (¬ x1_s.toInt < 6 → K_s (-1) h_s)))) : wF (F_s + 1) 103 (0, [some (.ref 6), some (.int x1_s), some (.int x2_s), some (.int x3), none, none, none], [], h_s) (gI K_s) := by
  refine w_0 (pc := 0) (e_s := (1, 1, 1, 0, 0, .null, [])) (y_s := (1, [some (.ref _), some (.int _), some (.int _), some (.int _), none, none, none], [.int _], _)) rfl (u_ rfl) ?_
  refine wcI (pc := 1) (len_s := 3) rfl rfl (l := [some (.int _)]) rfl ?_
  refine w_t (pc := 0) (e_s := (1, 1, 0, 0, 0, .null, [])) (y_s := (1, [some (.int _)], [.int _], _)) rfl (u_ rfl) ?_
  refine wq2 (pc := 1) (len_s := 3) rfl rfl (fun c1_s => ?_) (fun c1_s => ?_)
  · replace t_s := t_s.1 c1_s
    refine w_t (pc := 14) (e_s := (0, 1, 0, 0, 0, .int 0, [])) (y_s := (15, [some (.int _)], [.int _], _)) rfl (u_ rfl) ?_
    refine wrI (pc := 15) (len_s := 1) rfl hk ?_
    show wF _ 103 (4, [some (.ref _), some (.int _), some (.int _), some (.int _), none, none, none], [.int _], _) _
    refine w_t (pc := 4) (e_s := (15, 3, 27, 0, 0, .null, [])) (y_s := (27, [some (.ref _), some (.int _), some (.int _), some (.int _), none, none, none], [], _)) rfl (u_ rfl) ?_
    refine w_t (pc := 27) (e_s := (0, 1, 0, 0, 0, .int (-1), [])) (y_s := (28, [some (.ref _), some (.int _), some (.int _), some (.int _), none, none, none], [.int _], _)) rfl (u_ rfl) ?_
    exact wrI (pc := 28) (len_s := 1) rfl hk t_s
  · replace t_s := t_s.2 c1_s
    refine w_t (pc := 4) (e_s := (1, 1, 0, 0, 0, .null, [])) (y_s := (5, [some (.int _)], [.int _], _)) rfl (u_ rfl) ?_
    refine w_t (pc := 5) (e_s := (0, 2, 0, 0, 0, .int 6, [])) (y_s := (7, [some (.int _)], [.int _, .int _], _)) rfl (u_ rfl) ?_
    refine wi3 (pc := 7) (len_s := 3) (Y := 6) rfl rfl (by decide) (fun c2_s => ?_) (fun c2_s => ?_)
    · replace t_s := t_s.1 c2_s
      refine w_t (pc := 10) (e_s := (0, 1, 0, 0, 0, .int 1, [])) (y_s := (11, [some (.int _)], [.int _], _)) rfl (u_ rfl) ?_
      refine w_t (pc := 11) (e_s := (17, 3, 15, 0, 0, .null, [])) (y_s := (15, [some (.int _)], [.int _], _)) rfl (u_ rfl) ?_
      refine wrI (pc := 15) (len_s := 1) rfl hk ?_
      show wF _ 103 (4, [some (.ref _), some (.int _), some (.int _), some (.int _), none, none, none], [.int _], _) _
      refine w_t (pc := 4) (e_s := (15, 3, 27, 0, 0, .null, [])) (y_s := (7, [some (.ref _), some (.int _), some (.int _), some (.int _), none, none, none], [], _)) rfl (u_ rfl) ?_
      refine w_t (pc := 7) (e_s := (3, 1, 0, 0, 0, .null, [])) (y_s := (8, [some (.ref _), some (.int _), some (.int _), some (.int _), none, none, none], [.ref _], _)) rfl (u_ rfl) ?_
      refine w20r (pc := 8) (len_s := 3) (q_s := 7) rfl (krq hk rfl) ?_
      refine w_t (pc := 11) (e_s := (1, 1, 2, 0, 0, .null, [])) (y_s := (12, [some (.ref _), some (.int _), some (.int _), some (.int _), none, none, none], [.int _, .ref _], _)) rfl (u_ rfl) ?_
      refine wcI (pc := 12) (len_s := 3) rfl rfl (l := [some (.ref _), some (.int _)]) rfl ?_
      refine w_t (pc := 0) (e_s := (1, 1, 1, 0, 0, .null, [])) (y_s := (1, [some (.ref _), some (.int _)], [.int _], _)) rfl (u_ rfl) ?_
      refine wq2 (pc := 1) (len_s := 3) rfl rfl (fun c3_s => ?_) (fun c3_s => ?_)
      · replace t_s := t_s.1 c3_s
        refine w_t (pc := 16) (e_s := (0, 1, 0, 0, 0, .int 0, [])) (y_s := (17, [some (.ref _), some (.int _)], [.int _], _)) rfl (u_ rfl) ?_
        refine wrI (pc := 17) (len_s := 1) rfl hk ?_
        show wF _ 103 (15, [some (.ref _), some (.int _), some (.int _), some (.int _), none, none, none], [.int _], _) _
        refine w_t (pc := 15) (e_s := (15, 3, 27, 0, 0, .null, [])) (y_s := (27, [some (.ref _), some (.int _), some (.int _), some (.int _), none, none, none], [], _)) rfl (u_ rfl) ?_
        refine w_t (pc := 27) (e_s := (0, 1, 0, 0, 0, .int (-1), [])) (y_s := (28, [some (.ref _), some (.int _), some (.int _), some (.int _), none, none, none], [.int _], _)) rfl (u_ rfl) ?_
        exact wrI (pc := 28) (len_s := 1) rfl hk t_s
      · replace t_s := t_s.2 c3_s
        refine w_t (pc := 4) (e_s := (1, 1, 1, 0, 0, .null, [])) (y_s := (5, [some (.ref _), some (.int _)], [.int _], _)) rfl (u_ rfl) ?_
        refine w_t (pc := 5) (e_s := (3, 1, 0, 0, 0, .null, [])) (y_s := (6, [some (.ref _), some (.int _)], [.ref _, .int _], _)) rfl (u_ rfl) ?_
        refine w20 (pc := 6) (len_s := 3) rfl ?_
        refine wi3 (pc := 9) (len_s := 3) rfl rfl rfl (fun c4_s => ?_) (fun c4_s => ?_)
        · replace t_s := t_s.1 c4_s
          refine w_t (pc := 12) (e_s := (0, 1, 0, 0, 0, .int 1, [])) (y_s := (13, [some (.ref _), some (.int _)], [.int _], _)) rfl (u_ rfl) ?_
          refine w_t (pc := 13) (e_s := (17, 3, 17, 0, 0, .null, [])) (y_s := (17, [some (.ref _), some (.int _)], [.int _], _)) rfl (u_ rfl) ?_
          refine wrI (pc := 17) (len_s := 1) rfl hk ?_
          show wF _ 103 (15, [some (.ref _), some (.int _), some (.int _), some (.int _), none, none, none], [.int _], _) _
          refine w_t (pc := 15) (e_s := (15, 3, 27, 0, 0, .null, [])) (y_s := (18, [some (.ref _), some (.int _), some (.int _), some (.int _), none, none, none], [], _)) rfl (u_ rfl) ?_
          refine w_t (pc := 18) (e_s := (1, 1, 3, 0, 0, .null, [])) (y_s := (19, [some (.ref _), some (.int _), some (.int _), some (.int _), none, none, none], [.int _], _)) rfl (u_ rfl) ?_
          refine wq2 (pc := 19) (len_s := 3) rfl rfl (fun c5_s => ?_) (fun c5_s => ?_)
          · replace t_s := t_s.1 c5_s
            refine w_t (pc := 27) (e_s := (0, 1, 0, 0, 0, .int (-1), [])) (y_s := (28, [some (.ref _), some (.int _), some (.int _), some (.int _), none, none, none], [.int _], _)) rfl (u_ rfl) ?_
            exact wrI (pc := 28) (len_s := 1) rfl hk t_s
          · replace t_s := t_s.2 c5_s
            refine w_t (pc := 22) (e_s := (1, 1, 3, 0, 0, .null, [])) (y_s := (23, [some (.ref _), some (.int _), some (.int _), some (.int _), none, none, none], [.int _], _)) rfl (u_ rfl) ?_
            refine w_t (pc := 23) (e_s := (0, 1, 0, 0, 0, .int 4, [])) (y_s := (24, [some (.ref _), some (.int _), some (.int _), some (.int _), none, none, none], [.int _, .int _], _)) rfl (u_ rfl) ?_
            refine wi5 (pc := 24) (len_s := 3) (Y := 4) rfl rfl (by decide) (fun c6_s => ?_) (fun c6_s => ?_)
            · replace t_s := t_s.1 c6_s
              refine w_t (pc := 27) (e_s := (0, 1, 0, 0, 0, .int (-1), [])) (y_s := (28, [some (.ref _), some (.int _), some (.int _), some (.int _), none, none, none], [.int _], _)) rfl (u_ rfl) ?_
              exact wrI (pc := 28) (len_s := 1) rfl hk t_s
            · replace t_s := t_s.2 c6_s
              refine w_t (pc := 29) (e_s := (3, 1, 0, 0, 0, .null, [])) (y_s := (30, [some (.ref _), some (.int _), some (.int _), some (.int _), none, none, none], [.ref _], _)) rfl (u_ rfl) ?_
              refine w20r (pc := 30) (len_s := 3) (q_s := 71) rfl (krq hk rfl) ?_
              refine w_t (pc := 33) (e_s := (1, 1, 1, 0, 0, .null, [])) (y_s := (34, [some (.ref _), some (.int _), some (.int _), some (.int _), none, none, none], [.int _, .ref _], _)) rfl (u_ rfl) ?_
              refine w24 (g_s := fun j_ => 76 + 2 * j_) (pc := 34) (len_s := 1) hk rfl (hk.1 71 4 6 rfl rfl) kg71 (fun c7_s => ?_)
              replace t_s := t_s c7_s
              refine wcI (pc := 35) (len_s := 3) rfl rfl (l := [some (.ref _)]) rfl (wmI t_s (fun v8 h8 hk t_s => ?_))
              replace t_s := t_s hk
              refine w_t (pc := 38) (e_s := (4, 2, 4, 0, 0, .null, [])) (y_s := (40, [some (.ref _), some (.int _), some (.int _), some (.int _), some (.int _), none, none], [], _)) rfl (u_ rfl) ?_
              refine w_t (pc := 40) (e_s := (1, 2, 4, 0, 0, .null, [])) (y_s := (42, [some (.ref _), some (.int _), some (.int _), some (.int _), some (.int _), none, none], [.int _], _)) rfl (u_ rfl) ?_
              refine wq0 (pc := 42) (len_s := 3) rfl rfl (fun c9_s => ?_) (fun c9_s => ?_)
              · replace t_s := t_s.1 c9_s
                refine w_t (pc := 48) (e_s := (3, 1, 0, 0, 0, .null, [])) (y_s := (49, [some (.ref _), some (.int _), some (.int _), some (.int _), some (.int _), none, none], [.ref _], _)) rfl (u_ rfl) ?_
                refine w20r (pc := 49) (len_s := 3) (q_s := 50) rfl (krq hk rfl) ?_
                refine w_t (pc := 52) (e_s := (3, 1, 0, 0, 0, .null, [])) (y_s := (53, [some (.ref _), some (.int _), some (.int _), some (.int _), some (.int _), none, none], [.ref _, .ref _], _)) rfl (u_ rfl) ?_
                refine w20r (pc := 53) (len_s := 3) (q_s := 71) rfl (krq hk rfl) ?_
                refine w_t (pc := 56) (e_s := (1, 1, 1, 0, 0, .null, [])) (y_s := (57, [some (.ref _), some (.int _), some (.int _), some (.int _), some (.int _), none, none], [.int _, .ref _, .ref _], _)) rfl (u_ rfl) ?_
                refine w24 (g_s := fun j_ => 76 + 2 * j_) (pc := 57) (len_s := 1) hk rfl (hk.1 71 4 6 rfl rfl) kg71 (fun c10_s => ?_)
                refine w_t (pc := 58) (e_s := (3, 1, 0, 0, 0, .null, [])) (y_s := (59, [some (.ref _), some (.int _), some (.int _), some (.int _), some (.int _), none, none], [.ref _, .ref _, .ref _], _)) rfl (u_ rfl) ?_
                refine w20r (pc := 59) (len_s := 3) (q_s := 7) rfl (krq hk rfl) ?_
                refine w20 (pc := 62) (len_s := 3) rfl ?_
                refine wcV (pc := 65) (len_s := 3) rfl rfl (l := [some (.ref _), some (.ref _), some (.int _), none, none, none]) rfl (wmV t_s (fun h11 hk t_s => ?_))
                replace t_s := t_s hk
                refine w_t (pc := 68) (e_s := (3, 1, 0, 0, 0, .null, [])) (y_s := (69, [some (.ref _), some (.int _), some (.int _), some (.int _), some (.int _), none, none], [.ref _], _)) rfl (u_ rfl) ?_
                refine w_t (pc := 69) (e_s := (1, 1, 2, 0, 0, .null, [])) (y_s := (70, [some (.ref _), some (.int _), some (.int _), some (.int _), some (.int _), none, none], [.int _, .ref _], _)) rfl (u_ rfl) ?_
                refine wcR (pc := 70) (len_s := 3) rfl rfl (l := [some (.ref _), some (.int _)]) rfl (wmR t_s (fun v12 h12 hk t_s => ?_))
                replace t_s := t_s hk
                refine w_t (pc := 73) (e_s := (6, 2, 5, 0, 0, .null, [])) (y_s := (75, [some (.ref _), some (.int _), some (.int _), some (.int _), some (.int _), some (.ref _), none], [], _)) rfl (u_ rfl) ?_
                refine w_t (pc := 75) (e_s := (3, 1, 0, 0, 0, .null, [])) (y_s := (76, [some (.ref _), some (.int _), some (.int _), some (.int _), some (.int _), some (.ref _), none], [.ref _], _)) rfl (u_ rfl) ?_
                refine w20r (pc := 76) (len_s := 3) (q_s := 50) rfl (krq hk rfl) ?_
                refine w_t (pc := 79) (e_s := (3, 2, 5, 0, 0, .null, [])) (y_s := (81, [some (.ref _), some (.int _), some (.int _), some (.int _), some (.int _), some (.ref _), none], [.ref _, .ref _], _)) rfl (u_ rfl) ?_
                refine w_t (pc := 81) (e_s := (3, 1, 0, 0, 0, .null, [])) (y_s := (82, [some (.ref _), some (.int _), some (.int _), some (.int _), some (.int _), some (.ref _), none], [.ref _, .ref _, .ref _], _)) rfl (u_ rfl) ?_
                refine w20r (pc := 82) (len_s := 3) (q_s := 7) rfl (krq hk rfl) ?_
                refine wcI (pc := 85) (len_s := 3) rfl rfl (l := [some (.ref _), some (.ref _), some (.ref _), none]) rfl (wmI t_s (fun v13 h13 hk t_s => ?_))
                replace t_s := t_s hk
                refine w_t (pc := 88) (e_s := (4, 2, 6, 0, 0, .null, [])) (y_s := (90, [some (.ref _), some (.int _), some (.int _), some (.int _), some (.int _), some (.ref _), some (.int _)], [], _)) rfl (u_ rfl) ?_
                refine w_t (pc := 90) (e_s := (1, 1, 3, 0, 0, .null, [])) (y_s := (91, [some (.ref _), some (.int _), some (.int _), some (.int _), some (.int _), some (.ref _), some (.int _)], [.int _], _)) rfl (u_ rfl) ?_
                refine wsw (pc := 91) (len_s := 29) rfl ?_
                refine wsc (X_s := 0) rfl (by decide) (fun c14_s => ?_) (fun c14_s => ?_)
                · replace t_s := t_s.1 c14_s
                  refine w_t (pc := 120) (e_s := (3, 1, 0, 0, 0, .null, [])) (y_s := (121, [some (.ref _), some (.int _), some (.int _), some (.int _), some (.int _), some (.ref _), some (.int _)], [.ref _], _)) rfl (u_ rfl) ?_
                  refine w20r (pc := 121) (len_s := 3) (q_s := 50) rfl (krq hk rfl) ?_
                  refine w20 (pc := 124) (len_s := 3) rfl ?_
                  exact wrI (pc := 127) (len_s := 1) rfl hk t_s
                · replace t_s := t_s.2 c14_s
                  refine wsc (X_s := 1) rfl (by decide) (fun c15_s => ?_) (fun c15_s => ?_)
                  · replace t_s := t_s.1 c15_s
                    refine w_t (pc := 128) (e_s := (3, 1, 0, 0, 0, .null, [])) (y_s := (129, [some (.ref _), some (.int _), some (.int _), some (.int _), some (.int _), some (.ref _), some (.int _)], [.ref _], _)) rfl (u_ rfl) ?_
                    refine w20r (pc := 129) (len_s := 3) (q_s := 50) rfl (krq hk rfl) ?_
                    refine w20 (pc := 132) (len_s := 3) rfl ?_
                    exact wrI (pc := 135) (len_s := 1) rfl hk t_s
                  · replace t_s := t_s.2 c15_s
                    refine wsc (X_s := 2) rfl (by decide) (fun c16 => ?_) (fun c16 => ?_)
                    · replace t_s := t_s.1 c16
                      refine w_t (pc := 136) (e_s := (3, 2, 5, 0, 0, .null, [])) (y_s := (138, [some (.ref _), some (.int _), some (.int _), some (.int _), some (.int _), some (.ref _), some (.int _)], [.ref _], _)) rfl (u_ rfl) ?_
                      refine w20 (pc := 138) (len_s := 3) rfl ?_
                      exact wrI (pc := 141) (len_s := 1) rfl hk t_s
                    · replace t_s := t_s.2 c16
                      refine wsc (X_s := 3) rfl (by decide) (fun c17 => ?_) (fun c17 => ?_)
                      · replace t_s := t_s.1 c17
                        refine w_t (pc := 142) (e_s := (3, 2, 5, 0, 0, .null, [])) (y_s := (144, [some (.ref _), some (.int _), some (.int _), some (.int _), some (.int _), some (.ref _), some (.int _)], [.ref _], _)) rfl (u_ rfl) ?_
                        refine w20 (pc := 144) (len_s := 3) rfl ?_
                        exact wrI (pc := 147) (len_s := 1) rfl hk t_s
                      · replace t_s := t_s.2 c17
                        show wF _ _ (148, _, _, _) _
                        refine w_t (pc := 148) (e_s := (1, 2, 6, 0, 0, .null, [])) (y_s := (150, [some (.ref _), some (.int _), some (.int _), some (.int _), some (.int _), some (.ref _), some (.int _)], [.int _], _)) rfl (u_ rfl) ?_
                        refine wq0 (pc := 150) (len_s := 3) rfl rfl (fun c18_s => ?_) (fun c18_s => ?_)
                        · replace t_s := t_s.1 c18_s
                          refine w_t (pc := 158) (e_s := (3, 1, 0, 0, 0, .null, [])) (y_s := (159, [some (.ref _), some (.int _), some (.int _), some (.int _), some (.int _), some (.ref _), some (.int _)], [.ref _], _)) rfl (u_ rfl) ?_
                          refine w20r (pc := 159) (len_s := 3) (q_s := 50) rfl (krq hk rfl) ?_
                          refine w20 (pc := 162) (len_s := 3) rfl ?_
                          exact wrI (pc := 165) (len_s := 1) rfl hk t_s
                        · replace t_s := t_s.2 c18_s
                          refine w_t (pc := 153) (e_s := (0, 2, 0, 0, 0, .int (-2), [])) (y_s := (155, [some (.ref _), some (.int _), some (.int _), some (.int _), some (.int _), some (.ref _), some (.int _)], [.int _], _)) rfl (u_ rfl) ?_
                          refine w_t (pc := 155) (e_s := (17, 3, 165, 0, 0, .null, [])) (y_s := (165, [some (.ref _), some (.int _), some (.int _), some (.int _), some (.int _), some (.ref _), some (.int _)], [.int _], _)) rfl (u_ rfl) ?_
                          exact wrI (pc := 165) (len_s := 1) rfl hk t_s
              · replace t_s := t_s.2 c9_s
                refine w_t (pc := 45) (e_s := (1, 2, 4, 0, 0, .null, [])) (y_s := (47, [some (.ref _), some (.int _), some (.int _), some (.int _), some (.int _), none, none], [.int _], _)) rfl (u_ rfl) ?_
                exact wrI (pc := 47) (len_s := 1) rfl hk t_s
        · replace t_s := t_s.2 c4_s
          refine w_t (pc := 16) (e_s := (0, 1, 0, 0, 0, .int 0, [])) (y_s := (17, [some (.ref _), some (.int _)], [.int _], _)) rfl (u_ rfl) ?_
          refine wrI (pc := 17) (len_s := 1) rfl hk ?_
          show wF _ 103 (15, [some (.ref _), some (.int _), some (.int _), some (.int _), none, none, none], [.int _], _) _
          refine w_t (pc := 15) (e_s := (15, 3, 27, 0, 0, .null, [])) (y_s := (27, [some (.ref _), some (.int _), some (.int _), some (.int _), none, none, none], [], _)) rfl (u_ rfl) ?_
          refine w_t (pc := 27) (e_s := (0, 1, 0, 0, 0, .int (-1), [])) (y_s := (28, [some (.ref _), some (.int _), some (.int _), some (.int _), none, none, none], [.int _], _)) rfl (u_ rfl) ?_
          exact wrI (pc := 28) (len_s := 1) rfl hk t_s
    · replace t_s := t_s.2 c2_s
      refine w_t (pc := 14) (e_s := (0, 1, 0, 0, 0, .int 0, [])) (y_s := (15, [some (.int _)], [.int _], _)) rfl (u_ rfl) ?_
      refine wrI (pc := 15) (len_s := 1) rfl hk ?_
      show wF _ 103 (4, [some (.ref _), some (.int _), some (.int _), some (.int _), none, none, none], [.int _], _) _
      refine w_t (pc := 4) (e_s := (15, 3, 27, 0, 0, .null, [])) (y_s := (27, [some (.ref _), some (.int _), some (.int _), some (.int _), none, none, none], [], _)) rfl (u_ rfl) ?_
      refine w_t (pc := 27) (e_s := (0, 1, 0, 0, 0, .int (-1), [])) (y_s := (28, [some (.ref _), some (.int _), some (.int _), some (.int _), none, none, none], [.int _], _)) rfl (u_ rfl) ?_
      exact wrI (pc := 28) (len_s := 1) rfl hk t_s
/-- ColdShodModel.journey(III)I, from 0 on -/
theorem sg_189_0 {F_s : Nat} {x1_s : Int32} {x2_s : Int32} {x3 : Int32} {h_s : zH} {K_s : Int32 → zH → Prop} (hk : hKn h_s) (t_s : (x1_s.toInt < 0 → K_s (-1) h_s) ∧ (¬ x1_s.toInt < 0 → ((5 < x1_s.toInt → K_s (-1) h_s) ∧ (¬ 5 < x1_s.toInt → (zix x1_s < 6 → ((h_s.2.1 124 (zix x1_s)).toInt < 0 → ((x2_s.toInt < 0 → K_s (-1) h_s) ∧ (¬ x2_s.toInt < 0 → ((((h_s.2.1 102 7) - 1).toInt < x2_s.toInt → K_s (-1) h_s) ∧ (¬ ((h_s.2.1 102 7) - 1).toInt < x2_s.toInt → ((x3.toInt < 0 → K_s (-1) h_s) ∧ (¬ x3.toInt < 0 → ((4 < x3.toInt → K_s (-1) h_s) ∧ (¬ 4 < x3.toInt → K_s (-11) h_s))))))))) ∧ (¬ (h_s.2.1 124 (zix x1_s)).toInt < 0 → (((h_s.2.1 124 (zix x1_s)).toInt = 50 → ((x2_s.toInt < 0 → K_s (-1) h_s) ∧ (¬ x2_s.toInt < 0 → ((((h_s.2.1 102 7) - 1).toInt < x2_s.toInt → K_s (-1) h_s) ∧ (¬ ((h_s.2.1 102 7) - 1).toInt < x2_s.toInt → ((x3.toInt < 0 → K_s (-1) h_s) ∧ (¬ x3.toInt < 0 → ((4 < x3.toInt → K_s (-1) h_s) ∧ (¬ 4 < x3.toInt → wF F_s 178 (0, [some (.ref 102), some (.int x2_s), none], [], h_s) (gV (fun h29 => hKn h29 → wF F_s 188 (0, [some (.ref 102), some (.int x1_s), none], [], h29) (gV (fun h30 => hKn h30 → (x3.toInt = 0 → K_s (h30.2.1 102 24) h30) ∧ (¬ x3.toInt = 0 → (x3.toInt = 1 → K_s (h30.2.1 102 25) h30) ∧ (¬ x3.toInt = 1 → (x3.toInt = 2 → K_s (h30.2.1 112 2) h30) ∧ (¬ x3.toInt = 2 → (x3.toInt = 3 → K_s (h30.2.1 112 3) h30) ∧ (¬ x3.toInt = 3 → wF F_s 187 (0, [some (.ref 102), some (.int x1_s), none], [], h30) (gI (fun v37 h37 => hKn h37 → ((h30.2.1 102 25).toInt < v37.toInt → K_s (h37.2.1 102 25) h37) ∧ (¬ (h30.2.1 102 25).toInt < v37.toInt → K_s (-2) h37)))))))))))))))))))) ∧ (¬ (h_s.2.1 124 (zix x1_s)).toInt = 50 → ((x2_s.toInt < 0 → K_s (-1) h_s) ∧ (¬ x2_s.toInt < 0 → ((((h_s.2.1 102 7) - 1).toInt < x2_s.toInt → K_s (-1) h_s) ∧ (¬ ((h_s.2.1 102 7) - 1).toInt < x2_s.toInt → ((x3.toInt < 0 → K_s (-1) h_s) ∧ (¬ x3.toInt < 0 → ((4 < x3.toInt → K_s (-1) h_s) ∧ (¬ 4 < x3.toInt → K_s (-12) h_s)))))))))))))))) : wF (F_s + 1) 189 (0, [some (.ref 102), some (.int x1_s), some (.int x2_s), some (.int x3)], [], h_s) (gI K_s) := by
  refine w_0 (pc := 0) (e_s := (3, 1, 0, 0, 0, .null, [])) (y_s := (1, [some (.ref _), some (.int _), some (.int _), some (.int _)], [.ref _], _)) rfl (u_ rfl) ?_
  refine w_t (pc := 1) (e_s := (1, 1, 1, 0, 0, .null, [])) (y_s := (2, [some (.ref _), some (.int _), some (.int _), some (.int _)], [.int _, .ref _], _)) rfl (u_ rfl) ?_
  refine wcI (pc := 2) (len_s := 3) rfl rfl (l := [some (.ref _), some (.int _)]) rfl ?_
  refine w_t (pc := 0) (e_s := (1, 1, 1, 0, 0, .null, [])) (y_s := (1, [some (.ref _), some (.int _)], [.int _], _)) rfl (u_ rfl) ?_
  refine wcI (pc := 1) (len_s := 3) rfl rfl (l := [some (.int _)]) rfl ?_
  refine w_t (pc := 0) (e_s := (1, 1, 0, 0, 0, .null, [])) (y_s := (1, [some (.int _)], [.int _], _)) rfl (u_ rfl) ?_
  refine w_t (pc := 1) (e_s := (10, 1, 0, 0, 0, .null, [])) (y_s := (2, [some (.int _)], [.long (Int32.toInt64 _)], _)) rfl (u_ rfl) ?_
  refine w_t (pc := 2) (e_s := (0, 1, 0, 0, 0, .long 0, [])) (y_s := (3, [some (.int _)], [.long _, .long _], _)) rfl (u_ rfl) ?_
  refine w_t (pc := 3) (e_s := (0, 3, 0, 0, 0, .long 5, [(0, 1063)])) (y_s := (6, [some (.int _)], [.long _, .long _, .long _], _)) rfl (u_ rfl) ?_
  refine wcI (pc := 6) (len_s := 3) rfl rfl (l := [some (.long _), none, some (.long _), none, some (.long _), none]) rfl ?_
  refine w_t (pc := 0) (e_s := (2, 1, 0, 0, 0, .null, [])) (y_s := (1, [some (.long _), none, some (.long _), none, some (.long _), none], [.long _], _)) rfl (u_ rfl) ?_
  refine w_t (pc := 1) (e_s := (2, 1, 2, 0, 0, .null, [])) (y_s := (2, [some (.long _), none, some (.long _), none, some (.long _), none], [.long _, .long _], _)) rfl (u_ rfl) ?_
  refine w_t (pc := 2) (e_s := (14, 1, 0, 0, 0, .null, [])) (y_s := (3, [some (.long _), none, some (.long _), none, some (.long _), none], [.int (lg_cmp _ _)], _)) rfl (u_ rfl) ?_
  refine wl2 (pc := 3) (len_s := 3) (Y := 0) rfl (Int32.toInt_toInt64 _) (by decide) (fun c1_s => ?_) (fun c1_s => ?_)
  · replace t_s := t_s.1 c1_s
    refine w_t (pc := 17) (e_s := (0, 1, 0, 0, 0, .int 0, [])) (y_s := (18, [some (.long _), none, some (.long _), none, some (.long _), none], [.int _], _)) rfl (u_ rfl) ?_
    refine wrI (pc := 18) (len_s := 1) rfl hk ?_
    show wF _ 228 (9, [some (.int _)], [.int _], _) _
    refine wrI (pc := 9) (len_s := 1) rfl hk ?_
    show wF _ 186 (4, [some (.ref _), some (.int _)], [.int _], _) _
    refine w_t (pc := 4) (e_s := (15, 3, 11, 1, 0, .null, [])) (y_s := (7, [some (.ref _), some (.int _)], [], _)) rfl (u_ rfl) ?_
    refine w_t (pc := 7) (e_s := (0, 1, 0, 0, 0, .int (-1), [])) (y_s := (8, [some (.ref _), some (.int _)], [.int _], _)) rfl (u_ rfl) ?_
    refine w_t (pc := 8) (e_s := (17, 3, 42, 0, 0, .null, [])) (y_s := (42, [some (.ref _), some (.int _)], [.int _], _)) rfl (u_ rfl) ?_
    refine wrI (pc := 42) (len_s := 1) rfl hk ?_
    show wF _ 189 (5, [some (.ref _), some (.int _), some (.int _), some (.int _)], [.int _], _) _
    refine w_t (pc := 5) (e_s := (0, 1, 0, 0, 0, .int (-1), [])) (y_s := (6, [some (.ref _), some (.int _), some (.int _), some (.int _)], [.int _, .int _], _)) rfl (u_ rfl) ?_
    refine w_t (pc := 6) (e_s := (16, 3, 30, 0, 0, .null, [])) (y_s := (30, [some (.ref _), some (.int _), some (.int _), some (.int _)], [], _)) rfl (u_ rfl) ?_
    refine w_t (pc := 30) (e_s := (0, 1, 0, 0, 0, .int (-1), [])) (y_s := (31, [some (.ref _), some (.int _), some (.int _), some (.int _)], [.int _], _)) rfl (u_ rfl) ?_
    exact wrI (pc := 31) (len_s := 1) rfl hk t_s
  · replace t_s := t_s.2 c1_s
    refine w_t (pc := 6) (e_s := (2, 1, 0, 0, 0, .null, [])) (y_s := (7, [some (.long _), none, some (.long _), none, some (.long _), none], [.long _], _)) rfl (u_ rfl) ?_
    refine w_t (pc := 7) (e_s := (2, 2, 4, 0, 0, .null, [])) (y_s := (9, [some (.long _), none, some (.long _), none, some (.long _), none], [.long _, .long _], _)) rfl (u_ rfl) ?_
    refine w_t (pc := 9) (e_s := (14, 1, 0, 0, 0, .null, [])) (y_s := (10, [some (.long _), none, some (.long _), none, some (.long _), none], [.int (lg_cmp _ _)], _)) rfl (u_ rfl) ?_
    refine wl4 (pc := 10) (len_s := 3) (Y := 5) rfl (Int32.toInt_toInt64 _) (by decide) (fun c2_s => ?_) (fun c2_s => ?_)
    · replace t_s := t_s.1 c2_s
      refine w_t (pc := 17) (e_s := (0, 1, 0, 0, 0, .int 0, [])) (y_s := (18, [some (.long _), none, some (.long _), none, some (.long _), none], [.int _], _)) rfl (u_ rfl) ?_
      refine wrI (pc := 18) (len_s := 1) rfl hk ?_
      show wF _ 228 (9, [some (.int _)], [.int _], _) _
      refine wrI (pc := 9) (len_s := 1) rfl hk ?_
      show wF _ 186 (4, [some (.ref _), some (.int _)], [.int _], _) _
      refine w_t (pc := 4) (e_s := (15, 3, 11, 1, 0, .null, [])) (y_s := (7, [some (.ref _), some (.int _)], [], _)) rfl (u_ rfl) ?_
      refine w_t (pc := 7) (e_s := (0, 1, 0, 0, 0, .int (-1), [])) (y_s := (8, [some (.ref _), some (.int _)], [.int _], _)) rfl (u_ rfl) ?_
      refine w_t (pc := 8) (e_s := (17, 3, 42, 0, 0, .null, [])) (y_s := (42, [some (.ref _), some (.int _)], [.int _], _)) rfl (u_ rfl) ?_
      refine wrI (pc := 42) (len_s := 1) rfl hk ?_
      show wF _ 189 (5, [some (.ref _), some (.int _), some (.int _), some (.int _)], [.int _], _) _
      refine w_t (pc := 5) (e_s := (0, 1, 0, 0, 0, .int (-1), [])) (y_s := (6, [some (.ref _), some (.int _), some (.int _), some (.int _)], [.int _, .int _], _)) rfl (u_ rfl) ?_
      refine w_t (pc := 6) (e_s := (16, 3, 30, 0, 0, .null, [])) (y_s := (30, [some (.ref _), some (.int _), some (.int _), some (.int _)], [], _)) rfl (u_ rfl) ?_
      refine w_t (pc := 30) (e_s := (0, 1, 0, 0, 0, .int (-1), [])) (y_s := (31, [some (.ref _), some (.int _), some (.int _), some (.int _)], [.int _], _)) rfl (u_ rfl) ?_
      exact wrI (pc := 31) (len_s := 1) rfl hk t_s
    · replace t_s := t_s.2 c2_s
      refine w_t (pc := 13) (e_s := (0, 1, 0, 0, 0, .int 1, [])) (y_s := (14, [some (.long _), none, some (.long _), none, some (.long _), none], [.int _], _)) rfl (u_ rfl) ?_
      refine w_t (pc := 14) (e_s := (17, 3, 18, 0, 0, .null, [])) (y_s := (18, [some (.long _), none, some (.long _), none, some (.long _), none], [.int _], _)) rfl (u_ rfl) ?_
      refine wrI (pc := 18) (len_s := 1) rfl hk ?_
      show wF _ 228 (9, [some (.int _)], [.int _], _) _
      refine wrI (pc := 9) (len_s := 1) rfl hk ?_
      show wF _ 186 (4, [some (.ref _), some (.int _)], [.int _], _) _
      refine w_t (pc := 4) (e_s := (15, 3, 11, 1, 0, .null, [])) (y_s := (11, [some (.ref _), some (.int _)], [], _)) rfl (u_ rfl) ?_
      refine w_t (pc := 11) (e_s := (3, 1, 0, 0, 0, .null, [])) (y_s := (12, [some (.ref _), some (.int _)], [.ref _], _)) rfl (u_ rfl) ?_
      refine w20r (pc := 12) (len_s := 3) (q_s := 124) rfl (krq hk rfl) ?_
      refine w_t (pc := 15) (e_s := (1, 1, 1, 0, 0, .null, [])) (y_s := (16, [some (.ref _), some (.int _)], [.int _, .ref _], _)) rfl (u_ rfl) ?_
      refine w22 (pc := 16) (len_s := 1) rfl (hk.1 124 0 6 rfl rfl) (fun c3_s => ?_)
      replace t_s := t_s c3_s
      refine wq3 (pc := 17) (len_s := 3) rfl rfl (fun c4_s => ?_) (fun c4_s => ?_)
      · replace t_s := t_s.1 c4_s
        refine w_t (pc := 20) (e_s := (0, 2, 0, 0, 0, .int (-11), [])) (y_s := (22, [some (.ref _), some (.int _)], [.int _], _)) rfl (u_ rfl) ?_
        refine w_t (pc := 22) (e_s := (17, 3, 42, 0, 0, .null, [])) (y_s := (42, [some (.ref _), some (.int _)], [.int _], _)) rfl (u_ rfl) ?_
        refine wrI (pc := 42) (len_s := 1) rfl hk ?_
        show wF _ 189 (5, [some (.ref _), some (.int _), some (.int _), some (.int _)], [.int _], _) _
        refine w_t (pc := 5) (e_s := (0, 1, 0, 0, 0, .int (-1), [])) (y_s := (6, [some (.ref _), some (.int _), some (.int _), some (.int _)], [.int _, .int _], _)) rfl (u_ rfl) ?_
        refine w_t (pc := 6) (e_s := (16, 3, 30, 0, 0, .null, [])) (y_s := (9, [some (.ref _), some (.int _), some (.int _), some (.int _)], [], _)) rfl (u_ rfl) ?_
        refine w_t (pc := 9) (e_s := (3, 1, 0, 0, 0, .null, [])) (y_s := (10, [some (.ref _), some (.int _), some (.int _), some (.int _)], [.ref _], _)) rfl (u_ rfl) ?_
        refine w_t (pc := 10) (e_s := (1, 1, 2, 0, 0, .null, [])) (y_s := (11, [some (.ref _), some (.int _), some (.int _), some (.int _)], [.int _, .ref _], _)) rfl (u_ rfl) ?_
        refine w_t (pc := 11) (e_s := (10, 1, 0, 0, 0, .null, [])) (y_s := (12, [some (.ref _), some (.int _), some (.int _), some (.int _)], [.long (Int32.toInt64 _), .ref _], _)) rfl (u_ rfl) ?_
        refine wcI (pc := 12) (len_s := 3) rfl rfl (l := [some (.ref _), some (.long _), none]) rfl ?_
        refine w_t (pc := 0) (e_s := (2, 1, 1, 0, 0, .null, [])) (y_s := (1, [some (.ref _), some (.long _), none], [.long _], _)) rfl (u_ rfl) ?_
        refine w_t (pc := 1) (e_s := (0, 1, 0, 0, 0, .long 0, [])) (y_s := (2, [some (.ref _), some (.long _), none], [.long _, .long _], _)) rfl (u_ rfl) ?_
        refine w_t (pc := 2) (e_s := (3, 1, 0, 0, 0, .null, [])) (y_s := (3, [some (.ref _), some (.long _), none], [.ref _, .long _, .long _], _)) rfl (u_ rfl) ?_
        refine w20 (pc := 3) (len_s := 3) rfl ?_
        refine w_t (pc := 6) (e_s := (0, 1, 0, 0, 0, .int 1, [])) (y_s := (7, [some (.ref _), some (.long _), none], [.int _, .int _, .long _, .long _], _)) rfl (u_ rfl) ?_
        refine w_t (pc := 7) (e_s := (7, 1, 0, 1, 0, .null, [])) (y_s := (8, [some (.ref _), some (.long _), none], [.int (_ - _), .long _, .long _], _)) rfl (u_ rfl) ?_
        refine w_t (pc := 8) (e_s := (10, 1, 0, 0, 0, .null, [])) (y_s := (9, [some (.ref _), some (.long _), none], [.long (Int32.toInt64 _), .long _, .long _], _)) rfl (u_ rfl) ?_
        refine wcI (pc := 9) (len_s := 3) rfl rfl (l := [some (.long _), none, some (.long _), none, some (.long _), none]) rfl ?_
        refine w_t (pc := 0) (e_s := (2, 1, 0, 0, 0, .null, [])) (y_s := (1, [some (.long _), none, some (.long _), none, some (.long _), none], [.long _], _)) rfl (u_ rfl) ?_
        refine w_t (pc := 1) (e_s := (2, 1, 2, 0, 0, .null, [])) (y_s := (2, [some (.long _), none, some (.long _), none, some (.long _), none], [.long _, .long _], _)) rfl (u_ rfl) ?_
        refine w_t (pc := 2) (e_s := (14, 1, 0, 0, 0, .null, [])) (y_s := (3, [some (.long _), none, some (.long _), none, some (.long _), none], [.int (lg_cmp _ _)], _)) rfl (u_ rfl) ?_
        refine wl2 (pc := 3) (len_s := 3) (Y := 0) rfl (Int32.toInt_toInt64 _) (by decide) (fun c5_s => ?_) (fun c5_s => ?_)
        · replace t_s := t_s.1 c5_s
          refine w_t (pc := 17) (e_s := (0, 1, 0, 0, 0, .int 0, [])) (y_s := (18, [some (.long _), none, some (.long _), none, some (.long _), none], [.int _], _)) rfl (u_ rfl) ?_
          refine wrI (pc := 18) (len_s := 1) rfl hk ?_
          show wF _ 152 (12, [some (.ref _), some (.long _), none], [.int _], _) _
          refine wrI (pc := 12) (len_s := 1) rfl hk ?_
          show wF _ 189 (15, [some (.ref _), some (.int _), some (.int _), some (.int _)], [.int _], _) _
          refine w_t (pc := 15) (e_s := (15, 3, 30, 0, 0, .null, [])) (y_s := (30, [some (.ref _), some (.int _), some (.int _), some (.int _)], [], _)) rfl (u_ rfl) ?_
          refine w_t (pc := 30) (e_s := (0, 1, 0, 0, 0, .int (-1), [])) (y_s := (31, [some (.ref _), some (.int _), some (.int _), some (.int _)], [.int _], _)) rfl (u_ rfl) ?_
          exact wrI (pc := 31) (len_s := 1) rfl hk t_s
        · replace t_s := t_s.2 c5_s
          refine w_t (pc := 6) (e_s := (2, 1, 0, 0, 0, .null, [])) (y_s := (7, [some (.long _), none, some (.long _), none, some (.long _), none], [.long _], _)) rfl (u_ rfl) ?_
          refine w_t (pc := 7) (e_s := (2, 2, 4, 0, 0, .null, [])) (y_s := (9, [some (.long _), none, some (.long _), none, some (.long _), none], [.long _, .long _], _)) rfl (u_ rfl) ?_
          refine w_t (pc := 9) (e_s := (14, 1, 0, 0, 0, .null, [])) (y_s := (10, [some (.long _), none, some (.long _), none, some (.long _), none], [.int (lg_cmp _ _)], _)) rfl (u_ rfl) ?_
          refine wl4 (pc := 10) (len_s := 3) rfl (Int32.toInt_toInt64 _) (Int32.toInt_toInt64 _) (fun c6_s => ?_) (fun c6_s => ?_)
          · replace t_s := t_s.1 c6_s
            refine w_t (pc := 17) (e_s := (0, 1, 0, 0, 0, .int 0, [])) (y_s := (18, [some (.long _), none, some (.long _), none, some (.long _), none], [.int _], _)) rfl (u_ rfl) ?_
            refine wrI (pc := 18) (len_s := 1) rfl hk ?_
            show wF _ 152 (12, [some (.ref _), some (.long _), none], [.int _], _) _
            refine wrI (pc := 12) (len_s := 1) rfl hk ?_
            show wF _ 189 (15, [some (.ref _), some (.int _), some (.int _), some (.int _)], [.int _], _) _
            refine w_t (pc := 15) (e_s := (15, 3, 30, 0, 0, .null, [])) (y_s := (30, [some (.ref _), some (.int _), some (.int _), some (.int _)], [], _)) rfl (u_ rfl) ?_
            refine w_t (pc := 30) (e_s := (0, 1, 0, 0, 0, .int (-1), [])) (y_s := (31, [some (.ref _), some (.int _), some (.int _), some (.int _)], [.int _], _)) rfl (u_ rfl) ?_
            exact wrI (pc := 31) (len_s := 1) rfl hk t_s
          · replace t_s := t_s.2 c6_s
            refine w_t (pc := 13) (e_s := (0, 1, 0, 0, 0, .int 1, [])) (y_s := (14, [some (.long _), none, some (.long _), none, some (.long _), none], [.int _], _)) rfl (u_ rfl) ?_
            refine w_t (pc := 14) (e_s := (17, 3, 18, 0, 0, .null, [])) (y_s := (18, [some (.long _), none, some (.long _), none, some (.long _), none], [.int _], _)) rfl (u_ rfl) ?_
            refine wrI (pc := 18) (len_s := 1) rfl hk ?_
            show wF _ 152 (12, [some (.ref _), some (.long _), none], [.int _], _) _
            refine wrI (pc := 12) (len_s := 1) rfl hk ?_
            show wF _ 189 (15, [some (.ref _), some (.int _), some (.int _), some (.int _)], [.int _], _) _
            refine w_t (pc := 15) (e_s := (15, 3, 30, 0, 0, .null, [])) (y_s := (18, [some (.ref _), some (.int _), some (.int _), some (.int _)], [], _)) rfl (u_ rfl) ?_
            refine w_t (pc := 18) (e_s := (1, 1, 3, 0, 0, .null, [])) (y_s := (19, [some (.ref _), some (.int _), some (.int _), some (.int _)], [.int _], _)) rfl (u_ rfl) ?_
            refine w_t (pc := 19) (e_s := (10, 1, 0, 0, 0, .null, [])) (y_s := (20, [some (.ref _), some (.int _), some (.int _), some (.int _)], [.long (Int32.toInt64 _)], _)) rfl (u_ rfl) ?_
            refine w_t (pc := 20) (e_s := (0, 1, 0, 0, 0, .long 0, [])) (y_s := (21, [some (.ref _), some (.int _), some (.int _), some (.int _)], [.long _, .long _], _)) rfl (u_ rfl) ?_
            refine w_t (pc := 21) (e_s := (0, 3, 0, 0, 0, .long 4, [(0, 1113)])) (y_s := (24, [some (.ref _), some (.int _), some (.int _), some (.int _)], [.long _, .long _, .long _], _)) rfl (u_ rfl) ?_
            refine wcI (pc := 24) (len_s := 3) rfl rfl (l := [some (.long _), none, some (.long _), none, some (.long _), none]) rfl ?_
            refine w_t (pc := 0) (e_s := (2, 1, 0, 0, 0, .null, [])) (y_s := (1, [some (.long _), none, some (.long _), none, some (.long _), none], [.long _], _)) rfl (u_ rfl) ?_
            refine w_t (pc := 1) (e_s := (2, 1, 2, 0, 0, .null, [])) (y_s := (2, [some (.long _), none, some (.long _), none, some (.long _), none], [.long _, .long _], _)) rfl (u_ rfl) ?_
            refine w_t (pc := 2) (e_s := (14, 1, 0, 0, 0, .null, [])) (y_s := (3, [some (.long _), none, some (.long _), none, some (.long _), none], [.int (lg_cmp _ _)], _)) rfl (u_ rfl) ?_
            refine wl2 (pc := 3) (len_s := 3) (Y := 0) rfl (Int32.toInt_toInt64 _) (by decide) (fun c7_s => ?_) (fun c7_s => ?_)
            · replace t_s := t_s.1 c7_s
              refine w_t (pc := 17) (e_s := (0, 1, 0, 0, 0, .int 0, [])) (y_s := (18, [some (.long _), none, some (.long _), none, some (.long _), none], [.int _], _)) rfl (u_ rfl) ?_
              refine wrI (pc := 18) (len_s := 1) rfl hk ?_
              show wF _ 189 (27, [some (.ref _), some (.int _), some (.int _), some (.int _)], [.int _], _) _
              refine w_t (pc := 27) (e_s := (15, 3, 32, 1, 0, .null, [])) (y_s := (30, [some (.ref _), some (.int _), some (.int _), some (.int _)], [], _)) rfl (u_ rfl) ?_
              refine w_t (pc := 30) (e_s := (0, 1, 0, 0, 0, .int (-1), [])) (y_s := (31, [some (.ref _), some (.int _), some (.int _), some (.int _)], [.int _], _)) rfl (u_ rfl) ?_
              exact wrI (pc := 31) (len_s := 1) rfl hk t_s
            · replace t_s := t_s.2 c7_s
              refine w_t (pc := 6) (e_s := (2, 1, 0, 0, 0, .null, [])) (y_s := (7, [some (.long _), none, some (.long _), none, some (.long _), none], [.long _], _)) rfl (u_ rfl) ?_
              refine w_t (pc := 7) (e_s := (2, 2, 4, 0, 0, .null, [])) (y_s := (9, [some (.long _), none, some (.long _), none, some (.long _), none], [.long _, .long _], _)) rfl (u_ rfl) ?_
              refine w_t (pc := 9) (e_s := (14, 1, 0, 0, 0, .null, [])) (y_s := (10, [some (.long _), none, some (.long _), none, some (.long _), none], [.int (lg_cmp _ _)], _)) rfl (u_ rfl) ?_
              refine wl4 (pc := 10) (len_s := 3) (Y := 4) rfl (Int32.toInt_toInt64 _) (by decide) (fun c8_s => ?_) (fun c8_s => ?_)
              · replace t_s := t_s.1 c8_s
                refine w_t (pc := 17) (e_s := (0, 1, 0, 0, 0, .int 0, [])) (y_s := (18, [some (.long _), none, some (.long _), none, some (.long _), none], [.int _], _)) rfl (u_ rfl) ?_
                refine wrI (pc := 18) (len_s := 1) rfl hk ?_
                show wF _ 189 (27, [some (.ref _), some (.int _), some (.int _), some (.int _)], [.int _], _) _
                refine w_t (pc := 27) (e_s := (15, 3, 32, 1, 0, .null, [])) (y_s := (30, [some (.ref _), some (.int _), some (.int _), some (.int _)], [], _)) rfl (u_ rfl) ?_
                refine w_t (pc := 30) (e_s := (0, 1, 0, 0, 0, .int (-1), [])) (y_s := (31, [some (.ref _), some (.int _), some (.int _), some (.int _)], [.int _], _)) rfl (u_ rfl) ?_
                exact wrI (pc := 31) (len_s := 1) rfl hk t_s
              · replace t_s := t_s.2 c8_s
                refine w_t (pc := 13) (e_s := (0, 1, 0, 0, 0, .int 1, [])) (y_s := (14, [some (.long _), none, some (.long _), none, some (.long _), none], [.int _], _)) rfl (u_ rfl) ?_
                refine w_t (pc := 14) (e_s := (17, 3, 18, 0, 0, .null, [])) (y_s := (18, [some (.long _), none, some (.long _), none, some (.long _), none], [.int _], _)) rfl (u_ rfl) ?_
                refine wrI (pc := 18) (len_s := 1) rfl hk ?_
                show wF _ 189 (27, [some (.ref _), some (.int _), some (.int _), some (.int _)], [.int _], _) _
                refine w_t (pc := 27) (e_s := (15, 3, 32, 1, 0, .null, [])) (y_s := (32, [some (.ref _), some (.int _), some (.int _), some (.int _)], [], _)) rfl (u_ rfl) ?_
                refine w_t (pc := 32) (e_s := (3, 1, 0, 0, 0, .null, [])) (y_s := (33, [some (.ref _), some (.int _), some (.int _), some (.int _)], [.ref _], _)) rfl (u_ rfl) ?_
                refine w_t (pc := 33) (e_s := (1, 1, 1, 0, 0, .null, [])) (y_s := (34, [some (.ref _), some (.int _), some (.int _), some (.int _)], [.int _, .ref _], _)) rfl (u_ rfl) ?_
                refine wcI (pc := 34) (len_s := 3) rfl rfl (l := [some (.ref _), some (.int _)]) rfl ?_
                refine w_t (pc := 0) (e_s := (1, 1, 1, 0, 0, .null, [])) (y_s := (1, [some (.ref _), some (.int _)], [.int _], _)) rfl (u_ rfl) ?_
                refine wcI (pc := 1) (len_s := 3) rfl rfl (l := [some (.int _)]) rfl ?_
                refine w_t (pc := 0) (e_s := (1, 1, 0, 0, 0, .null, [])) (y_s := (1, [some (.int _)], [.int _], _)) rfl (u_ rfl) ?_
                refine w_t (pc := 1) (e_s := (10, 1, 0, 0, 0, .null, [])) (y_s := (2, [some (.int _)], [.long (Int32.toInt64 _)], _)) rfl (u_ rfl) ?_
                refine w_t (pc := 2) (e_s := (0, 1, 0, 0, 0, .long 0, [])) (y_s := (3, [some (.int _)], [.long _, .long _], _)) rfl (u_ rfl) ?_
                refine w_t (pc := 3) (e_s := (0, 3, 0, 0, 0, .long 5, [(0, 1063)])) (y_s := (6, [some (.int _)], [.long _, .long _, .long _], _)) rfl (u_ rfl) ?_
                refine wcI (pc := 6) (len_s := 3) rfl rfl (l := [some (.long _), none, some (.long _), none, some (.long _), none]) rfl ?_
                refine w_t (pc := 0) (e_s := (2, 1, 0, 0, 0, .null, [])) (y_s := (1, [some (.long _), none, some (.long _), none, some (.long _), none], [.long _], _)) rfl (u_ rfl) ?_
                refine w_t (pc := 1) (e_s := (2, 1, 2, 0, 0, .null, [])) (y_s := (2, [some (.long _), none, some (.long _), none, some (.long _), none], [.long _, .long _], _)) rfl (u_ rfl) ?_
                refine w_t (pc := 2) (e_s := (14, 1, 0, 0, 0, .null, [])) (y_s := (3, [some (.long _), none, some (.long _), none, some (.long _), none], [.int (lg_cmp _ _)], _)) rfl (u_ rfl) ?_
                refine wl2 (pc := 3) (len_s := 3) (Y := 0) rfl (Int32.toInt_toInt64 _) (by decide) (fun c9_s => ?_) (fun c9_s => ?_)
                · exact absurd c9_s c1_s
                · skip
                  refine w_t (pc := 6) (e_s := (2, 1, 0, 0, 0, .null, [])) (y_s := (7, [some (.long _), none, some (.long _), none, some (.long _), none], [.long _], _)) rfl (u_ rfl) ?_
                  refine w_t (pc := 7) (e_s := (2, 2, 4, 0, 0, .null, [])) (y_s := (9, [some (.long _), none, some (.long _), none, some (.long _), none], [.long _, .long _], _)) rfl (u_ rfl) ?_
                  refine w_t (pc := 9) (e_s := (14, 1, 0, 0, 0, .null, [])) (y_s := (10, [some (.long _), none, some (.long _), none, some (.long _), none], [.int (lg_cmp _ _)], _)) rfl (u_ rfl) ?_
                  refine wl4 (pc := 10) (len_s := 3) (Y := 5) rfl (Int32.toInt_toInt64 _) (by decide) (fun c10_s => ?_) (fun c10_s => ?_)
                  · exact absurd c10_s c2_s
                  · skip
                    refine w_t (pc := 13) (e_s := (0, 1, 0, 0, 0, .int 1, [])) (y_s := (14, [some (.long _), none, some (.long _), none, some (.long _), none], [.int _], _)) rfl (u_ rfl) ?_
                    refine w_t (pc := 14) (e_s := (17, 3, 18, 0, 0, .null, [])) (y_s := (18, [some (.long _), none, some (.long _), none, some (.long _), none], [.int _], _)) rfl (u_ rfl) ?_
                    refine wrI (pc := 18) (len_s := 1) rfl hk ?_
                    show wF _ 228 (9, [some (.int _)], [.int _], _) _
                    refine wrI (pc := 9) (len_s := 1) rfl hk ?_
                    show wF _ 186 (4, [some (.ref _), some (.int _)], [.int _], _) _
                    refine w_t (pc := 4) (e_s := (15, 3, 11, 1, 0, .null, [])) (y_s := (11, [some (.ref _), some (.int _)], [], _)) rfl (u_ rfl) ?_
                    refine w_t (pc := 11) (e_s := (3, 1, 0, 0, 0, .null, [])) (y_s := (12, [some (.ref _), some (.int _)], [.ref _], _)) rfl (u_ rfl) ?_
                    refine w20r (pc := 12) (len_s := 3) (q_s := 124) rfl (krq hk rfl) ?_
                    refine w_t (pc := 15) (e_s := (1, 1, 1, 0, 0, .null, [])) (y_s := (16, [some (.ref _), some (.int _)], [.int _, .ref _], _)) rfl (u_ rfl) ?_
                    refine w22 (pc := 16) (len_s := 1) rfl (hk.1 124 0 6 rfl rfl) (fun c11_s => ?_)
                    refine wq3 (pc := 17) (len_s := 3) rfl rfl (fun c12_s => ?_) (fun c12_s => ?_)
                    · skip
                      refine w_t (pc := 20) (e_s := (0, 2, 0, 0, 0, .int (-11), [])) (y_s := (22, [some (.ref _), some (.int _)], [.int _], _)) rfl (u_ rfl) ?_
                      refine w_t (pc := 22) (e_s := (17, 3, 42, 0, 0, .null, [])) (y_s := (42, [some (.ref _), some (.int _)], [.int _], _)) rfl (u_ rfl) ?_
                      refine wrI (pc := 42) (len_s := 1) rfl hk ?_
                      show wF _ 189 (37, [some (.ref _), some (.int _), some (.int _), some (.int _)], [.int _], _) _
                      refine w_t (pc := 37) (e_s := (15, 3, 46, 3, 0, .null, [])) (y_s := (40, [some (.ref _), some (.int _), some (.int _), some (.int _)], [], _)) rfl (u_ rfl) ?_
                      refine w_t (pc := 40) (e_s := (3, 1, 0, 0, 0, .null, [])) (y_s := (41, [some (.ref _), some (.int _), some (.int _), some (.int _)], [.ref _], _)) rfl (u_ rfl) ?_
                      refine w_t (pc := 41) (e_s := (1, 1, 1, 0, 0, .null, [])) (y_s := (42, [some (.ref _), some (.int _), some (.int _), some (.int _)], [.int _, .ref _], _)) rfl (u_ rfl) ?_
                      refine wcI (pc := 42) (len_s := 3) rfl rfl (l := [some (.ref _), some (.int _)]) rfl ?_
                      refine w_t (pc := 0) (e_s := (1, 1, 1, 0, 0, .null, [])) (y_s := (1, [some (.ref _), some (.int _)], [.int _], _)) rfl (u_ rfl) ?_
                      refine wcI (pc := 1) (len_s := 3) rfl rfl (l := [some (.int _)]) rfl ?_
                      refine w_t (pc := 0) (e_s := (1, 1, 0, 0, 0, .null, [])) (y_s := (1, [some (.int _)], [.int _], _)) rfl (u_ rfl) ?_
                      refine w_t (pc := 1) (e_s := (10, 1, 0, 0, 0, .null, [])) (y_s := (2, [some (.int _)], [.long (Int32.toInt64 _)], _)) rfl (u_ rfl) ?_
                      refine w_t (pc := 2) (e_s := (0, 1, 0, 0, 0, .long 0, [])) (y_s := (3, [some (.int _)], [.long _, .long _], _)) rfl (u_ rfl) ?_
                      refine w_t (pc := 3) (e_s := (0, 3, 0, 0, 0, .long 5, [(0, 1063)])) (y_s := (6, [some (.int _)], [.long _, .long _, .long _], _)) rfl (u_ rfl) ?_
                      refine wcI (pc := 6) (len_s := 3) rfl rfl (l := [some (.long _), none, some (.long _), none, some (.long _), none]) rfl ?_
                      refine w_t (pc := 0) (e_s := (2, 1, 0, 0, 0, .null, [])) (y_s := (1, [some (.long _), none, some (.long _), none, some (.long _), none], [.long _], _)) rfl (u_ rfl) ?_
                      refine w_t (pc := 1) (e_s := (2, 1, 2, 0, 0, .null, [])) (y_s := (2, [some (.long _), none, some (.long _), none, some (.long _), none], [.long _, .long _], _)) rfl (u_ rfl) ?_
                      refine w_t (pc := 2) (e_s := (14, 1, 0, 0, 0, .null, [])) (y_s := (3, [some (.long _), none, some (.long _), none, some (.long _), none], [.int (lg_cmp _ _)], _)) rfl (u_ rfl) ?_
                      refine wl2 (pc := 3) (len_s := 3) (Y := 0) rfl (Int32.toInt_toInt64 _) (by decide) (fun c13_s => ?_) (fun c13_s => ?_)
                      · exact absurd c13_s c1_s
                      · skip
                        refine w_t (pc := 6) (e_s := (2, 1, 0, 0, 0, .null, [])) (y_s := (7, [some (.long _), none, some (.long _), none, some (.long _), none], [.long _], _)) rfl (u_ rfl) ?_
                        refine w_t (pc := 7) (e_s := (2, 2, 4, 0, 0, .null, [])) (y_s := (9, [some (.long _), none, some (.long _), none, some (.long _), none], [.long _, .long _], _)) rfl (u_ rfl) ?_
                        refine w_t (pc := 9) (e_s := (14, 1, 0, 0, 0, .null, [])) (y_s := (10, [some (.long _), none, some (.long _), none, some (.long _), none], [.int (lg_cmp _ _)], _)) rfl (u_ rfl) ?_
                        refine wl4 (pc := 10) (len_s := 3) (Y := 5) rfl (Int32.toInt_toInt64 _) (by decide) (fun c14_s => ?_) (fun c14_s => ?_)
                        · exact absurd c14_s c2_s
                        · skip
                          refine w_t (pc := 13) (e_s := (0, 1, 0, 0, 0, .int 1, [])) (y_s := (14, [some (.long _), none, some (.long _), none, some (.long _), none], [.int _], _)) rfl (u_ rfl) ?_
                          refine w_t (pc := 14) (e_s := (17, 3, 18, 0, 0, .null, [])) (y_s := (18, [some (.long _), none, some (.long _), none, some (.long _), none], [.int _], _)) rfl (u_ rfl) ?_
                          refine wrI (pc := 18) (len_s := 1) rfl hk ?_
                          show wF _ 228 (9, [some (.int _)], [.int _], _) _
                          refine wrI (pc := 9) (len_s := 1) rfl hk ?_
                          show wF _ 186 (4, [some (.ref _), some (.int _)], [.int _], _) _
                          refine w_t (pc := 4) (e_s := (15, 3, 11, 1, 0, .null, [])) (y_s := (11, [some (.ref _), some (.int _)], [], _)) rfl (u_ rfl) ?_
                          refine w_t (pc := 11) (e_s := (3, 1, 0, 0, 0, .null, [])) (y_s := (12, [some (.ref _), some (.int _)], [.ref _], _)) rfl (u_ rfl) ?_
                          refine w20r (pc := 12) (len_s := 3) (q_s := 124) rfl (krq hk rfl) ?_
                          refine w_t (pc := 15) (e_s := (1, 1, 1, 0, 0, .null, [])) (y_s := (16, [some (.ref _), some (.int _)], [.int _, .ref _], _)) rfl (u_ rfl) ?_
                          refine w22 (pc := 16) (len_s := 1) rfl (hk.1 124 0 6 rfl rfl) (fun c15_s => ?_)
                          refine wq3 (pc := 17) (len_s := 3) rfl rfl (fun c16 => ?_) (fun c16 => ?_)
                          · skip
                            refine w_t (pc := 20) (e_s := (0, 2, 0, 0, 0, .int (-11), [])) (y_s := (22, [some (.ref _), some (.int _)], [.int _], _)) rfl (u_ rfl) ?_
                            refine w_t (pc := 22) (e_s := (17, 3, 42, 0, 0, .null, [])) (y_s := (42, [some (.ref _), some (.int _)], [.int _], _)) rfl (u_ rfl) ?_
                            refine wrI (pc := 42) (len_s := 1) rfl hk ?_
                            show wF _ 189 (45, [some (.ref _), some (.int _), some (.int _), some (.int _)], [.int _], _) _
                            exact wrI (pc := 45) (len_s := 1) rfl hk t_s
                          · exact absurd c4_s c16
                    · exact absurd c4_s c12_s
      · replace t_s := t_s.2 c4_s
        refine w_t (pc := 25) (e_s := (3, 1, 0, 0, 0, .null, [])) (y_s := (26, [some (.ref _), some (.int _)], [.ref _], _)) rfl (u_ rfl) ?_
        refine w20r (pc := 26) (len_s := 3) (q_s := 124) rfl (krq hk rfl) ?_
        refine w_t (pc := 29) (e_s := (1, 1, 1, 0, 0, .null, [])) (y_s := (30, [some (.ref _), some (.int _)], [.int _, .ref _], _)) rfl (u_ rfl) ?_
        refine w22 (pc := 30) (len_s := 1) rfl (hk.1 124 0 6 rfl rfl) (fun c17 => ?_)
        refine w_t (pc := 31) (e_s := (0, 2, 0, 0, 0, .int 50, [])) (y_s := (33, [some (.ref _), some (.int _)], [.int _, .int _], _)) rfl (u_ rfl) ?_
        refine wi1 (pc := 33) (len_s := 3) (Y := 50) rfl rfl (by decide) (fun c18_s => ?_) (fun c18_s => ?_)
        · replace t_s := t_s.1 c18_s
          refine w_t (pc := 36) (e_s := (0, 1, 0, 0, 0, .int 1, [])) (y_s := (37, [some (.ref _), some (.int _)], [.int _], _)) rfl (u_ rfl) ?_
          refine w_t (pc := 37) (e_s := (17, 3, 42, 0, 0, .null, [])) (y_s := (42, [some (.ref _), some (.int _)], [.int _], _)) rfl (u_ rfl) ?_
          refine wrI (pc := 42) (len_s := 1) rfl hk ?_
          show wF _ 189 (5, [some (.ref _), some (.int _), some (.int _), some (.int _)], [.int _], _) _
          refine w_t (pc := 5) (e_s := (0, 1, 0, 0, 0, .int (-1), [])) (y_s := (6, [some (.ref _), some (.int _), some (.int _), some (.int _)], [.int _, .int _], _)) rfl (u_ rfl) ?_
          refine w_t (pc := 6) (e_s := (16, 3, 30, 0, 0, .null, [])) (y_s := (9, [some (.ref _), some (.int _), some (.int _), some (.int _)], [], _)) rfl (u_ rfl) ?_
          refine w_t (pc := 9) (e_s := (3, 1, 0, 0, 0, .null, [])) (y_s := (10, [some (.ref _), some (.int _), some (.int _), some (.int _)], [.ref _], _)) rfl (u_ rfl) ?_
          refine w_t (pc := 10) (e_s := (1, 1, 2, 0, 0, .null, [])) (y_s := (11, [some (.ref _), some (.int _), some (.int _), some (.int _)], [.int _, .ref _], _)) rfl (u_ rfl) ?_
          refine w_t (pc := 11) (e_s := (10, 1, 0, 0, 0, .null, [])) (y_s := (12, [some (.ref _), some (.int _), some (.int _), some (.int _)], [.long (Int32.toInt64 _), .ref _], _)) rfl (u_ rfl) ?_
          refine wcI (pc := 12) (len_s := 3) rfl rfl (l := [some (.ref _), some (.long _), none]) rfl ?_
          refine w_t (pc := 0) (e_s := (2, 1, 1, 0, 0, .null, [])) (y_s := (1, [some (.ref _), some (.long _), none], [.long _], _)) rfl (u_ rfl) ?_
          refine w_t (pc := 1) (e_s := (0, 1, 0, 0, 0, .long 0, [])) (y_s := (2, [some (.ref _), some (.long _), none], [.long _, .long _], _)) rfl (u_ rfl) ?_
          refine w_t (pc := 2) (e_s := (3, 1, 0, 0, 0, .null, [])) (y_s := (3, [some (.ref _), some (.long _), none], [.ref _, .long _, .long _], _)) rfl (u_ rfl) ?_
          refine w20 (pc := 3) (len_s := 3) rfl ?_
          refine w_t (pc := 6) (e_s := (0, 1, 0, 0, 0, .int 1, [])) (y_s := (7, [some (.ref _), some (.long _), none], [.int _, .int _, .long _, .long _], _)) rfl (u_ rfl) ?_
          refine w_t (pc := 7) (e_s := (7, 1, 0, 1, 0, .null, [])) (y_s := (8, [some (.ref _), some (.long _), none], [.int (_ - _), .long _, .long _], _)) rfl (u_ rfl) ?_
          refine w_t (pc := 8) (e_s := (10, 1, 0, 0, 0, .null, [])) (y_s := (9, [some (.ref _), some (.long _), none], [.long (Int32.toInt64 _), .long _, .long _], _)) rfl (u_ rfl) ?_
          refine wcI (pc := 9) (len_s := 3) rfl rfl (l := [some (.long _), none, some (.long _), none, some (.long _), none]) rfl ?_
          refine w_t (pc := 0) (e_s := (2, 1, 0, 0, 0, .null, [])) (y_s := (1, [some (.long _), none, some (.long _), none, some (.long _), none], [.long _], _)) rfl (u_ rfl) ?_
          refine w_t (pc := 1) (e_s := (2, 1, 2, 0, 0, .null, [])) (y_s := (2, [some (.long _), none, some (.long _), none, some (.long _), none], [.long _, .long _], _)) rfl (u_ rfl) ?_
          refine w_t (pc := 2) (e_s := (14, 1, 0, 0, 0, .null, [])) (y_s := (3, [some (.long _), none, some (.long _), none, some (.long _), none], [.int (lg_cmp _ _)], _)) rfl (u_ rfl) ?_
          refine wl2 (pc := 3) (len_s := 3) (Y := 0) rfl (Int32.toInt_toInt64 _) (by decide) (fun c19_s => ?_) (fun c19_s => ?_)
          · replace t_s := t_s.1 c19_s
            refine w_t (pc := 17) (e_s := (0, 1, 0, 0, 0, .int 0, [])) (y_s := (18, [some (.long _), none, some (.long _), none, some (.long _), none], [.int _], _)) rfl (u_ rfl) ?_
            refine wrI (pc := 18) (len_s := 1) rfl hk ?_
            show wF _ 152 (12, [some (.ref _), some (.long _), none], [.int _], _) _
            refine wrI (pc := 12) (len_s := 1) rfl hk ?_
            show wF _ 189 (15, [some (.ref _), some (.int _), some (.int _), some (.int _)], [.int _], _) _
            refine w_t (pc := 15) (e_s := (15, 3, 30, 0, 0, .null, [])) (y_s := (30, [some (.ref _), some (.int _), some (.int _), some (.int _)], [], _)) rfl (u_ rfl) ?_
            refine w_t (pc := 30) (e_s := (0, 1, 0, 0, 0, .int (-1), [])) (y_s := (31, [some (.ref _), some (.int _), some (.int _), some (.int _)], [.int _], _)) rfl (u_ rfl) ?_
            exact wrI (pc := 31) (len_s := 1) rfl hk t_s
          · replace t_s := t_s.2 c19_s
            refine w_t (pc := 6) (e_s := (2, 1, 0, 0, 0, .null, [])) (y_s := (7, [some (.long _), none, some (.long _), none, some (.long _), none], [.long _], _)) rfl (u_ rfl) ?_
            refine w_t (pc := 7) (e_s := (2, 2, 4, 0, 0, .null, [])) (y_s := (9, [some (.long _), none, some (.long _), none, some (.long _), none], [.long _, .long _], _)) rfl (u_ rfl) ?_
            refine w_t (pc := 9) (e_s := (14, 1, 0, 0, 0, .null, [])) (y_s := (10, [some (.long _), none, some (.long _), none, some (.long _), none], [.int (lg_cmp _ _)], _)) rfl (u_ rfl) ?_
            refine wl4 (pc := 10) (len_s := 3) rfl (Int32.toInt_toInt64 _) (Int32.toInt_toInt64 _) (fun c20_s => ?_) (fun c20_s => ?_)
            · replace t_s := t_s.1 c20_s
              refine w_t (pc := 17) (e_s := (0, 1, 0, 0, 0, .int 0, [])) (y_s := (18, [some (.long _), none, some (.long _), none, some (.long _), none], [.int _], _)) rfl (u_ rfl) ?_
              refine wrI (pc := 18) (len_s := 1) rfl hk ?_
              show wF _ 152 (12, [some (.ref _), some (.long _), none], [.int _], _) _
              refine wrI (pc := 12) (len_s := 1) rfl hk ?_
              show wF _ 189 (15, [some (.ref _), some (.int _), some (.int _), some (.int _)], [.int _], _) _
              refine w_t (pc := 15) (e_s := (15, 3, 30, 0, 0, .null, [])) (y_s := (30, [some (.ref _), some (.int _), some (.int _), some (.int _)], [], _)) rfl (u_ rfl) ?_
              refine w_t (pc := 30) (e_s := (0, 1, 0, 0, 0, .int (-1), [])) (y_s := (31, [some (.ref _), some (.int _), some (.int _), some (.int _)], [.int _], _)) rfl (u_ rfl) ?_
              exact wrI (pc := 31) (len_s := 1) rfl hk t_s
            · replace t_s := t_s.2 c20_s
              refine w_t (pc := 13) (e_s := (0, 1, 0, 0, 0, .int 1, [])) (y_s := (14, [some (.long _), none, some (.long _), none, some (.long _), none], [.int _], _)) rfl (u_ rfl) ?_
              refine w_t (pc := 14) (e_s := (17, 3, 18, 0, 0, .null, [])) (y_s := (18, [some (.long _), none, some (.long _), none, some (.long _), none], [.int _], _)) rfl (u_ rfl) ?_
              refine wrI (pc := 18) (len_s := 1) rfl hk ?_
              show wF _ 152 (12, [some (.ref _), some (.long _), none], [.int _], _) _
              refine wrI (pc := 12) (len_s := 1) rfl hk ?_
              show wF _ 189 (15, [some (.ref _), some (.int _), some (.int _), some (.int _)], [.int _], _) _
              refine w_t (pc := 15) (e_s := (15, 3, 30, 0, 0, .null, [])) (y_s := (18, [some (.ref _), some (.int _), some (.int _), some (.int _)], [], _)) rfl (u_ rfl) ?_
              refine w_t (pc := 18) (e_s := (1, 1, 3, 0, 0, .null, [])) (y_s := (19, [some (.ref _), some (.int _), some (.int _), some (.int _)], [.int _], _)) rfl (u_ rfl) ?_
              refine w_t (pc := 19) (e_s := (10, 1, 0, 0, 0, .null, [])) (y_s := (20, [some (.ref _), some (.int _), some (.int _), some (.int _)], [.long (Int32.toInt64 _)], _)) rfl (u_ rfl) ?_
              refine w_t (pc := 20) (e_s := (0, 1, 0, 0, 0, .long 0, [])) (y_s := (21, [some (.ref _), some (.int _), some (.int _), some (.int _)], [.long _, .long _], _)) rfl (u_ rfl) ?_
              refine w_t (pc := 21) (e_s := (0, 3, 0, 0, 0, .long 4, [(0, 1113)])) (y_s := (24, [some (.ref _), some (.int _), some (.int _), some (.int _)], [.long _, .long _, .long _], _)) rfl (u_ rfl) ?_
              refine wcI (pc := 24) (len_s := 3) rfl rfl (l := [some (.long _), none, some (.long _), none, some (.long _), none]) rfl ?_
              refine w_t (pc := 0) (e_s := (2, 1, 0, 0, 0, .null, [])) (y_s := (1, [some (.long _), none, some (.long _), none, some (.long _), none], [.long _], _)) rfl (u_ rfl) ?_
              refine w_t (pc := 1) (e_s := (2, 1, 2, 0, 0, .null, [])) (y_s := (2, [some (.long _), none, some (.long _), none, some (.long _), none], [.long _, .long _], _)) rfl (u_ rfl) ?_
              refine w_t (pc := 2) (e_s := (14, 1, 0, 0, 0, .null, [])) (y_s := (3, [some (.long _), none, some (.long _), none, some (.long _), none], [.int (lg_cmp _ _)], _)) rfl (u_ rfl) ?_
              refine wl2 (pc := 3) (len_s := 3) (Y := 0) rfl (Int32.toInt_toInt64 _) (by decide) (fun c21 => ?_) (fun c21 => ?_)
              · replace t_s := t_s.1 c21
                refine w_t (pc := 17) (e_s := (0, 1, 0, 0, 0, .int 0, [])) (y_s := (18, [some (.long _), none, some (.long _), none, some (.long _), none], [.int _], _)) rfl (u_ rfl) ?_
                refine wrI (pc := 18) (len_s := 1) rfl hk ?_
                show wF _ 189 (27, [some (.ref _), some (.int _), some (.int _), some (.int _)], [.int _], _) _
                refine w_t (pc := 27) (e_s := (15, 3, 32, 1, 0, .null, [])) (y_s := (30, [some (.ref _), some (.int _), some (.int _), some (.int _)], [], _)) rfl (u_ rfl) ?_
                refine w_t (pc := 30) (e_s := (0, 1, 0, 0, 0, .int (-1), [])) (y_s := (31, [some (.ref _), some (.int _), some (.int _), some (.int _)], [.int _], _)) rfl (u_ rfl) ?_
                exact wrI (pc := 31) (len_s := 1) rfl hk t_s
              · replace t_s := t_s.2 c21
                refine w_t (pc := 6) (e_s := (2, 1, 0, 0, 0, .null, [])) (y_s := (7, [some (.long _), none, some (.long _), none, some (.long _), none], [.long _], _)) rfl (u_ rfl) ?_
                refine w_t (pc := 7) (e_s := (2, 2, 4, 0, 0, .null, [])) (y_s := (9, [some (.long _), none, some (.long _), none, some (.long _), none], [.long _, .long _], _)) rfl (u_ rfl) ?_
                refine w_t (pc := 9) (e_s := (14, 1, 0, 0, 0, .null, [])) (y_s := (10, [some (.long _), none, some (.long _), none, some (.long _), none], [.int (lg_cmp _ _)], _)) rfl (u_ rfl) ?_
                refine wl4 (pc := 10) (len_s := 3) (Y := 4) rfl (Int32.toInt_toInt64 _) (by decide) (fun c22 => ?_) (fun c22 => ?_)
                · replace t_s := t_s.1 c22
                  refine w_t (pc := 17) (e_s := (0, 1, 0, 0, 0, .int 0, [])) (y_s := (18, [some (.long _), none, some (.long _), none, some (.long _), none], [.int _], _)) rfl (u_ rfl) ?_
                  refine wrI (pc := 18) (len_s := 1) rfl hk ?_
                  show wF _ 189 (27, [some (.ref _), some (.int _), some (.int _), some (.int _)], [.int _], _) _
                  refine w_t (pc := 27) (e_s := (15, 3, 32, 1, 0, .null, [])) (y_s := (30, [some (.ref _), some (.int _), some (.int _), some (.int _)], [], _)) rfl (u_ rfl) ?_
                  refine w_t (pc := 30) (e_s := (0, 1, 0, 0, 0, .int (-1), [])) (y_s := (31, [some (.ref _), some (.int _), some (.int _), some (.int _)], [.int _], _)) rfl (u_ rfl) ?_
                  exact wrI (pc := 31) (len_s := 1) rfl hk t_s
                · replace t_s := t_s.2 c22
                  refine w_t (pc := 13) (e_s := (0, 1, 0, 0, 0, .int 1, [])) (y_s := (14, [some (.long _), none, some (.long _), none, some (.long _), none], [.int _], _)) rfl (u_ rfl) ?_
                  refine w_t (pc := 14) (e_s := (17, 3, 18, 0, 0, .null, [])) (y_s := (18, [some (.long _), none, some (.long _), none, some (.long _), none], [.int _], _)) rfl (u_ rfl) ?_
                  refine wrI (pc := 18) (len_s := 1) rfl hk ?_
                  show wF _ 189 (27, [some (.ref _), some (.int _), some (.int _), some (.int _)], [.int _], _) _
                  refine w_t (pc := 27) (e_s := (15, 3, 32, 1, 0, .null, [])) (y_s := (32, [some (.ref _), some (.int _), some (.int _), some (.int _)], [], _)) rfl (u_ rfl) ?_
                  refine w_t (pc := 32) (e_s := (3, 1, 0, 0, 0, .null, [])) (y_s := (33, [some (.ref _), some (.int _), some (.int _), some (.int _)], [.ref _], _)) rfl (u_ rfl) ?_
                  refine w_t (pc := 33) (e_s := (1, 1, 1, 0, 0, .null, [])) (y_s := (34, [some (.ref _), some (.int _), some (.int _), some (.int _)], [.int _, .ref _], _)) rfl (u_ rfl) ?_
                  refine wcI (pc := 34) (len_s := 3) rfl rfl (l := [some (.ref _), some (.int _)]) rfl ?_
                  refine w_t (pc := 0) (e_s := (1, 1, 1, 0, 0, .null, [])) (y_s := (1, [some (.ref _), some (.int _)], [.int _], _)) rfl (u_ rfl) ?_
                  refine wcI (pc := 1) (len_s := 3) rfl rfl (l := [some (.int _)]) rfl ?_
                  refine w_t (pc := 0) (e_s := (1, 1, 0, 0, 0, .null, [])) (y_s := (1, [some (.int _)], [.int _], _)) rfl (u_ rfl) ?_
                  refine w_t (pc := 1) (e_s := (10, 1, 0, 0, 0, .null, [])) (y_s := (2, [some (.int _)], [.long (Int32.toInt64 _)], _)) rfl (u_ rfl) ?_
                  refine w_t (pc := 2) (e_s := (0, 1, 0, 0, 0, .long 0, [])) (y_s := (3, [some (.int _)], [.long _, .long _], _)) rfl (u_ rfl) ?_
                  refine w_t (pc := 3) (e_s := (0, 3, 0, 0, 0, .long 5, [(0, 1063)])) (y_s := (6, [some (.int _)], [.long _, .long _, .long _], _)) rfl (u_ rfl) ?_
                  refine wcI (pc := 6) (len_s := 3) rfl rfl (l := [some (.long _), none, some (.long _), none, some (.long _), none]) rfl ?_
                  refine w_t (pc := 0) (e_s := (2, 1, 0, 0, 0, .null, [])) (y_s := (1, [some (.long _), none, some (.long _), none, some (.long _), none], [.long _], _)) rfl (u_ rfl) ?_
                  refine w_t (pc := 1) (e_s := (2, 1, 2, 0, 0, .null, [])) (y_s := (2, [some (.long _), none, some (.long _), none, some (.long _), none], [.long _, .long _], _)) rfl (u_ rfl) ?_
                  refine w_t (pc := 2) (e_s := (14, 1, 0, 0, 0, .null, [])) (y_s := (3, [some (.long _), none, some (.long _), none, some (.long _), none], [.int (lg_cmp _ _)], _)) rfl (u_ rfl) ?_
                  refine wl2 (pc := 3) (len_s := 3) (Y := 0) rfl (Int32.toInt_toInt64 _) (by decide) (fun c23_s => ?_) (fun c23_s => ?_)
                  · exact absurd c23_s c1_s
                  · skip
                    refine w_t (pc := 6) (e_s := (2, 1, 0, 0, 0, .null, [])) (y_s := (7, [some (.long _), none, some (.long _), none, some (.long _), none], [.long _], _)) rfl (u_ rfl) ?_
                    refine w_t (pc := 7) (e_s := (2, 2, 4, 0, 0, .null, [])) (y_s := (9, [some (.long _), none, some (.long _), none, some (.long _), none], [.long _, .long _], _)) rfl (u_ rfl) ?_
                    refine w_t (pc := 9) (e_s := (14, 1, 0, 0, 0, .null, [])) (y_s := (10, [some (.long _), none, some (.long _), none, some (.long _), none], [.int (lg_cmp _ _)], _)) rfl (u_ rfl) ?_
                    refine wl4 (pc := 10) (len_s := 3) (Y := 5) rfl (Int32.toInt_toInt64 _) (by decide) (fun c24_s => ?_) (fun c24_s => ?_)
                    · exact absurd c24_s c2_s
                    · skip
                      refine w_t (pc := 13) (e_s := (0, 1, 0, 0, 0, .int 1, [])) (y_s := (14, [some (.long _), none, some (.long _), none, some (.long _), none], [.int _], _)) rfl (u_ rfl) ?_
                      refine w_t (pc := 14) (e_s := (17, 3, 18, 0, 0, .null, [])) (y_s := (18, [some (.long _), none, some (.long _), none, some (.long _), none], [.int _], _)) rfl (u_ rfl) ?_
                      refine wrI (pc := 18) (len_s := 1) rfl hk ?_
                      show wF _ 228 (9, [some (.int _)], [.int _], _) _
                      refine wrI (pc := 9) (len_s := 1) rfl hk ?_
                      show wF _ 186 (4, [some (.ref _), some (.int _)], [.int _], _) _
                      refine w_t (pc := 4) (e_s := (15, 3, 11, 1, 0, .null, [])) (y_s := (11, [some (.ref _), some (.int _)], [], _)) rfl (u_ rfl) ?_
                      refine w_t (pc := 11) (e_s := (3, 1, 0, 0, 0, .null, [])) (y_s := (12, [some (.ref _), some (.int _)], [.ref _], _)) rfl (u_ rfl) ?_
                      refine w20r (pc := 12) (len_s := 3) (q_s := 124) rfl (krq hk rfl) ?_
                      refine w_t (pc := 15) (e_s := (1, 1, 1, 0, 0, .null, [])) (y_s := (16, [some (.ref _), some (.int _)], [.int _, .ref _], _)) rfl (u_ rfl) ?_
                      refine w22 (pc := 16) (len_s := 1) rfl (hk.1 124 0 6 rfl rfl) (fun c25_s => ?_)
                      refine wq3 (pc := 17) (len_s := 3) rfl rfl (fun c26 => ?_) (fun c26 => ?_)
                      · exact absurd c26 c4_s
                      · skip
                        refine w_t (pc := 25) (e_s := (3, 1, 0, 0, 0, .null, [])) (y_s := (26, [some (.ref _), some (.int _)], [.ref _], _)) rfl (u_ rfl) ?_
                        refine w20r (pc := 26) (len_s := 3) (q_s := 124) rfl (krq hk rfl) ?_
                        refine w_t (pc := 29) (e_s := (1, 1, 1, 0, 0, .null, [])) (y_s := (30, [some (.ref _), some (.int _)], [.int _, .ref _], _)) rfl (u_ rfl) ?_
                        refine w22 (pc := 30) (len_s := 1) rfl (hk.1 124 0 6 rfl rfl) (fun c27_s => ?_)
                        refine w_t (pc := 31) (e_s := (0, 2, 0, 0, 0, .int 50, [])) (y_s := (33, [some (.ref _), some (.int _)], [.int _, .int _], _)) rfl (u_ rfl) ?_
                        refine wi1 (pc := 33) (len_s := 3) (Y := 50) rfl rfl (by decide) (fun c28_s => ?_) (fun c28_s => ?_)
                        · skip
                          refine w_t (pc := 36) (e_s := (0, 1, 0, 0, 0, .int 1, [])) (y_s := (37, [some (.ref _), some (.int _)], [.int _], _)) rfl (u_ rfl) ?_
                          refine w_t (pc := 37) (e_s := (17, 3, 42, 0, 0, .null, [])) (y_s := (42, [some (.ref _), some (.int _)], [.int _], _)) rfl (u_ rfl) ?_
                          refine wrI (pc := 42) (len_s := 1) rfl hk ?_
                          show wF _ 189 (37, [some (.ref _), some (.int _), some (.int _), some (.int _)], [.int _], _) _
                          refine w_t (pc := 37) (e_s := (15, 3, 46, 3, 0, .null, [])) (y_s := (46, [some (.ref _), some (.int _), some (.int _), some (.int _)], [], _)) rfl (u_ rfl) ?_
                          refine w_t (pc := 46) (e_s := (3, 1, 0, 0, 0, .null, [])) (y_s := (47, [some (.ref _), some (.int _), some (.int _), some (.int _)], [.ref _], _)) rfl (u_ rfl) ?_
                          refine w_t (pc := 47) (e_s := (1, 1, 2, 0, 0, .null, [])) (y_s := (48, [some (.ref _), some (.int _), some (.int _), some (.int _)], [.int _, .ref _], _)) rfl (u_ rfl) ?_
                          refine wcV (pc := 48) (len_s := 3) rfl rfl (l := [some (.ref _), some (.int _), none]) rfl (wmV t_s (fun h29 hk t_s => ?_))
                          replace t_s := t_s hk
                          refine w_t (pc := 51) (e_s := (3, 1, 0, 0, 0, .null, [])) (y_s := (52, [some (.ref _), some (.int _), some (.int _), some (.int _)], [.ref _], _)) rfl (u_ rfl) ?_
                          refine w_t (pc := 52) (e_s := (1, 1, 1, 0, 0, .null, [])) (y_s := (53, [some (.ref _), some (.int _), some (.int _), some (.int _)], [.int _, .ref _], _)) rfl (u_ rfl) ?_
                          refine wcV (pc := 53) (len_s := 3) rfl rfl (l := [some (.ref _), some (.int _), none]) rfl (wmV t_s (fun h30 hk t_s => ?_))
                          replace t_s := t_s hk
                          refine w_t (pc := 56) (e_s := (1, 1, 3, 0, 0, .null, [])) (y_s := (57, [some (.ref _), some (.int _), some (.int _), some (.int _)], [.int _], _)) rfl (u_ rfl) ?_
                          refine wsw (pc := 57) (len_s := 31) rfl ?_
                          refine wsc (X_s := 0) rfl (by decide) (fun c31_s => ?_) (fun c31_s => ?_)
                          · replace t_s := t_s.1 c31_s
                            refine w_t (pc := 88) (e_s := (3, 1, 0, 0, 0, .null, [])) (y_s := (89, [some (.ref _), some (.int _), some (.int _), some (.int _)], [.ref _], _)) rfl (u_ rfl) ?_
                            refine w20 (pc := 89) (len_s := 3) rfl ?_
                            exact wrI (pc := 92) (len_s := 1) rfl hk t_s
                          · replace t_s := t_s.2 c31_s
                            refine wsc (X_s := 1) rfl (by decide) (fun c32_s => ?_) (fun c32_s => ?_)
                            · replace t_s := t_s.1 c32_s
                              refine w_t (pc := 93) (e_s := (3, 1, 0, 0, 0, .null, [])) (y_s := (94, [some (.ref _), some (.int _), some (.int _), some (.int _)], [.ref _], _)) rfl (u_ rfl) ?_
                              refine w20 (pc := 94) (len_s := 3) rfl ?_
                              exact wrI (pc := 97) (len_s := 1) rfl hk t_s
                            · replace t_s := t_s.2 c32_s
                              refine wsc (X_s := 2) rfl (by decide) (fun c33_s => ?_) (fun c33_s => ?_)
                              · replace t_s := t_s.1 c33_s
                                refine w_t (pc := 98) (e_s := (3, 1, 0, 0, 0, .null, [])) (y_s := (99, [some (.ref _), some (.int _), some (.int _), some (.int _)], [.ref _], _)) rfl (u_ rfl) ?_
                                refine w20r (pc := 99) (len_s := 3) (q_s := 112) rfl (krq hk rfl) ?_
                                refine w_t (pc := 102) (e_s := (0, 1, 0, 0, 0, .int 2, [])) (y_s := (103, [some (.ref _), some (.int _), some (.int _), some (.int _)], [.int _, .ref _], _)) rfl (u_ rfl) ?_
                                refine w22 (pc := 103) (len_s := 1) rfl (hk.1 112 0 7 rfl rfl) (fun c34_s => ?_)
                                exact wrI (pc := 104) (len_s := 1) rfl hk t_s
                              · replace t_s := t_s.2 c33_s
                                refine wsc (X_s := 3) rfl (by decide) (fun c35_s => ?_) (fun c35_s => ?_)
                                · replace t_s := t_s.1 c35_s
                                  refine w_t (pc := 105) (e_s := (3, 1, 0, 0, 0, .null, [])) (y_s := (106, [some (.ref _), some (.int _), some (.int _), some (.int _)], [.ref _], _)) rfl (u_ rfl) ?_
                                  refine w20r (pc := 106) (len_s := 3) (q_s := 112) rfl (krq hk rfl) ?_
                                  refine w_t (pc := 109) (e_s := (0, 1, 0, 0, 0, .int 3, [])) (y_s := (110, [some (.ref _), some (.int _), some (.int _), some (.int _)], [.int _, .ref _], _)) rfl (u_ rfl) ?_
                                  refine w22 (pc := 110) (len_s := 1) rfl (hk.1 112 0 7 rfl rfl) (fun c36_s => ?_)
                                  exact wrI (pc := 111) (len_s := 1) rfl hk t_s
                                · replace t_s := t_s.2 c35_s
                                  show wF _ _ (112, _, _, _) _
                                  refine w_t (pc := 112) (e_s := (3, 1, 0, 0, 0, .null, [])) (y_s := (113, [some (.ref _), some (.int _), some (.int _), some (.int _)], [.ref _], _)) rfl (u_ rfl) ?_
                                  refine w20 (pc := 113) (len_s := 3) rfl ?_
                                  refine w_t (pc := 116) (e_s := (3, 1, 0, 0, 0, .null, [])) (y_s := (117, [some (.ref _), some (.int _), some (.int _), some (.int _)], [.ref _, .int _], _)) rfl (u_ rfl) ?_
                                  refine w_t (pc := 117) (e_s := (1, 1, 1, 0, 0, .null, [])) (y_s := (118, [some (.ref _), some (.int _), some (.int _), some (.int _)], [.int _, .ref _, .int _], _)) rfl (u_ rfl) ?_
                                  refine wcI (pc := 118) (len_s := 3) rfl rfl (l := [some (.ref _), some (.int _), none]) rfl (wmI t_s (fun v37 h37 hk t_s => ?_))
                                  replace t_s := t_s hk
                                  refine wi3 (pc := 121) (len_s := 3) rfl rfl rfl (fun c38 => ?_) (fun c38 => ?_)
                                  · replace t_s := t_s.1 c38
                                    refine w_t (pc := 124) (e_s := (3, 1, 0, 0, 0, .null, [])) (y_s := (125, [some (.ref _), some (.int _), some (.int _), some (.int _)], [.ref _], _)) rfl (u_ rfl) ?_
                                    refine w20 (pc := 125) (len_s := 3) rfl ?_
                                    refine w_t (pc := 128) (e_s := (17, 3, 133, 0, 0, .null, [])) (y_s := (133, [some (.ref _), some (.int _), some (.int _), some (.int _)], [.int _], _)) rfl (u_ rfl) ?_
                                    exact wrI (pc := 133) (len_s := 1) rfl hk t_s
                                  · replace t_s := t_s.2 c38
                                    refine w_t (pc := 131) (e_s := (0, 2, 0, 0, 0, .int (-2), [])) (y_s := (133, [some (.ref _), some (.int _), some (.int _), some (.int _)], [.int _], _)) rfl (u_ rfl) ?_
                                    exact wrI (pc := 133) (len_s := 1) rfl hk t_s
                        · exact absurd c18_s c28_s
        · replace t_s := t_s.2 c18_s
          refine w_t (pc := 40) (e_s := (0, 2, 0, 0, 0, .int (-12), [])) (y_s := (42, [some (.ref _), some (.int _)], [.int _], _)) rfl (u_ rfl) ?_
          refine wrI (pc := 42) (len_s := 1) rfl hk ?_
          show wF _ 189 (5, [some (.ref _), some (.int _), some (.int _), some (.int _)], [.int _], _) _
          refine w_t (pc := 5) (e_s := (0, 1, 0, 0, 0, .int (-1), [])) (y_s := (6, [some (.ref _), some (.int _), some (.int _), some (.int _)], [.int _, .int _], _)) rfl (u_ rfl) ?_
          refine w_t (pc := 6) (e_s := (16, 3, 30, 0, 0, .null, [])) (y_s := (9, [some (.ref _), some (.int _), some (.int _), some (.int _)], [], _)) rfl (u_ rfl) ?_
          refine w_t (pc := 9) (e_s := (3, 1, 0, 0, 0, .null, [])) (y_s := (10, [some (.ref _), some (.int _), some (.int _), some (.int _)], [.ref _], _)) rfl (u_ rfl) ?_
          refine w_t (pc := 10) (e_s := (1, 1, 2, 0, 0, .null, [])) (y_s := (11, [some (.ref _), some (.int _), some (.int _), some (.int _)], [.int _, .ref _], _)) rfl (u_ rfl) ?_
          refine w_t (pc := 11) (e_s := (10, 1, 0, 0, 0, .null, [])) (y_s := (12, [some (.ref _), some (.int _), some (.int _), some (.int _)], [.long (Int32.toInt64 _), .ref _], _)) rfl (u_ rfl) ?_
          refine wcI (pc := 12) (len_s := 3) rfl rfl (l := [some (.ref _), some (.long _), none]) rfl ?_
          refine w_t (pc := 0) (e_s := (2, 1, 1, 0, 0, .null, [])) (y_s := (1, [some (.ref _), some (.long _), none], [.long _], _)) rfl (u_ rfl) ?_
          refine w_t (pc := 1) (e_s := (0, 1, 0, 0, 0, .long 0, [])) (y_s := (2, [some (.ref _), some (.long _), none], [.long _, .long _], _)) rfl (u_ rfl) ?_
          refine w_t (pc := 2) (e_s := (3, 1, 0, 0, 0, .null, [])) (y_s := (3, [some (.ref _), some (.long _), none], [.ref _, .long _, .long _], _)) rfl (u_ rfl) ?_
          refine w20 (pc := 3) (len_s := 3) rfl ?_
          refine w_t (pc := 6) (e_s := (0, 1, 0, 0, 0, .int 1, [])) (y_s := (7, [some (.ref _), some (.long _), none], [.int _, .int _, .long _, .long _], _)) rfl (u_ rfl) ?_
          refine w_t (pc := 7) (e_s := (7, 1, 0, 1, 0, .null, [])) (y_s := (8, [some (.ref _), some (.long _), none], [.int (_ - _), .long _, .long _], _)) rfl (u_ rfl) ?_
          refine w_t (pc := 8) (e_s := (10, 1, 0, 0, 0, .null, [])) (y_s := (9, [some (.ref _), some (.long _), none], [.long (Int32.toInt64 _), .long _, .long _], _)) rfl (u_ rfl) ?_
          refine wcI (pc := 9) (len_s := 3) rfl rfl (l := [some (.long _), none, some (.long _), none, some (.long _), none]) rfl ?_
          refine w_t (pc := 0) (e_s := (2, 1, 0, 0, 0, .null, [])) (y_s := (1, [some (.long _), none, some (.long _), none, some (.long _), none], [.long _], _)) rfl (u_ rfl) ?_
          refine w_t (pc := 1) (e_s := (2, 1, 2, 0, 0, .null, [])) (y_s := (2, [some (.long _), none, some (.long _), none, some (.long _), none], [.long _, .long _], _)) rfl (u_ rfl) ?_
          refine w_t (pc := 2) (e_s := (14, 1, 0, 0, 0, .null, [])) (y_s := (3, [some (.long _), none, some (.long _), none, some (.long _), none], [.int (lg_cmp _ _)], _)) rfl (u_ rfl) ?_
          refine wl2 (pc := 3) (len_s := 3) (Y := 0) rfl (Int32.toInt_toInt64 _) (by decide) (fun c39_s => ?_) (fun c39_s => ?_)
          · replace t_s := t_s.1 c39_s
            refine w_t (pc := 17) (e_s := (0, 1, 0, 0, 0, .int 0, [])) (y_s := (18, [some (.long _), none, some (.long _), none, some (.long _), none], [.int _], _)) rfl (u_ rfl) ?_
            refine wrI (pc := 18) (len_s := 1) rfl hk ?_
            show wF _ 152 (12, [some (.ref _), some (.long _), none], [.int _], _) _
            refine wrI (pc := 12) (len_s := 1) rfl hk ?_
            show wF _ 189 (15, [some (.ref _), some (.int _), some (.int _), some (.int _)], [.int _], _) _
            refine w_t (pc := 15) (e_s := (15, 3, 30, 0, 0, .null, [])) (y_s := (30, [some (.ref _), some (.int _), some (.int _), some (.int _)], [], _)) rfl (u_ rfl) ?_
            refine w_t (pc := 30) (e_s := (0, 1, 0, 0, 0, .int (-1), [])) (y_s := (31, [some (.ref _), some (.int _), some (.int _), some (.int _)], [.int _], _)) rfl (u_ rfl) ?_
            exact wrI (pc := 31) (len_s := 1) rfl hk t_s
          · replace t_s := t_s.2 c39_s
            refine w_t (pc := 6) (e_s := (2, 1, 0, 0, 0, .null, [])) (y_s := (7, [some (.long _), none, some (.long _), none, some (.long _), none], [.long _], _)) rfl (u_ rfl) ?_
            refine w_t (pc := 7) (e_s := (2, 2, 4, 0, 0, .null, [])) (y_s := (9, [some (.long _), none, some (.long _), none, some (.long _), none], [.long _, .long _], _)) rfl (u_ rfl) ?_
            refine w_t (pc := 9) (e_s := (14, 1, 0, 0, 0, .null, [])) (y_s := (10, [some (.long _), none, some (.long _), none, some (.long _), none], [.int (lg_cmp _ _)], _)) rfl (u_ rfl) ?_
            refine wl4 (pc := 10) (len_s := 3) rfl (Int32.toInt_toInt64 _) (Int32.toInt_toInt64 _) (fun c40_s => ?_) (fun c40_s => ?_)
            · replace t_s := t_s.1 c40_s
              refine w_t (pc := 17) (e_s := (0, 1, 0, 0, 0, .int 0, [])) (y_s := (18, [some (.long _), none, some (.long _), none, some (.long _), none], [.int _], _)) rfl (u_ rfl) ?_
              refine wrI (pc := 18) (len_s := 1) rfl hk ?_
              show wF _ 152 (12, [some (.ref _), some (.long _), none], [.int _], _) _
              refine wrI (pc := 12) (len_s := 1) rfl hk ?_
              show wF _ 189 (15, [some (.ref _), some (.int _), some (.int _), some (.int _)], [.int _], _) _
              refine w_t (pc := 15) (e_s := (15, 3, 30, 0, 0, .null, [])) (y_s := (30, [some (.ref _), some (.int _), some (.int _), some (.int _)], [], _)) rfl (u_ rfl) ?_
              refine w_t (pc := 30) (e_s := (0, 1, 0, 0, 0, .int (-1), [])) (y_s := (31, [some (.ref _), some (.int _), some (.int _), some (.int _)], [.int _], _)) rfl (u_ rfl) ?_
              exact wrI (pc := 31) (len_s := 1) rfl hk t_s
            · replace t_s := t_s.2 c40_s
              refine w_t (pc := 13) (e_s := (0, 1, 0, 0, 0, .int 1, [])) (y_s := (14, [some (.long _), none, some (.long _), none, some (.long _), none], [.int _], _)) rfl (u_ rfl) ?_
              refine w_t (pc := 14) (e_s := (17, 3, 18, 0, 0, .null, [])) (y_s := (18, [some (.long _), none, some (.long _), none, some (.long _), none], [.int _], _)) rfl (u_ rfl) ?_
              refine wrI (pc := 18) (len_s := 1) rfl hk ?_
              show wF _ 152 (12, [some (.ref _), some (.long _), none], [.int _], _) _
              refine wrI (pc := 12) (len_s := 1) rfl hk ?_
              show wF _ 189 (15, [some (.ref _), some (.int _), some (.int _), some (.int _)], [.int _], _) _
              refine w_t (pc := 15) (e_s := (15, 3, 30, 0, 0, .null, [])) (y_s := (18, [some (.ref _), some (.int _), some (.int _), some (.int _)], [], _)) rfl (u_ rfl) ?_
              refine w_t (pc := 18) (e_s := (1, 1, 3, 0, 0, .null, [])) (y_s := (19, [some (.ref _), some (.int _), some (.int _), some (.int _)], [.int _], _)) rfl (u_ rfl) ?_
              refine w_t (pc := 19) (e_s := (10, 1, 0, 0, 0, .null, [])) (y_s := (20, [some (.ref _), some (.int _), some (.int _), some (.int _)], [.long (Int32.toInt64 _)], _)) rfl (u_ rfl) ?_
              refine w_t (pc := 20) (e_s := (0, 1, 0, 0, 0, .long 0, [])) (y_s := (21, [some (.ref _), some (.int _), some (.int _), some (.int _)], [.long _, .long _], _)) rfl (u_ rfl) ?_
              refine w_t (pc := 21) (e_s := (0, 3, 0, 0, 0, .long 4, [(0, 1113)])) (y_s := (24, [some (.ref _), some (.int _), some (.int _), some (.int _)], [.long _, .long _, .long _], _)) rfl (u_ rfl) ?_
              refine wcI (pc := 24) (len_s := 3) rfl rfl (l := [some (.long _), none, some (.long _), none, some (.long _), none]) rfl ?_
              refine w_t (pc := 0) (e_s := (2, 1, 0, 0, 0, .null, [])) (y_s := (1, [some (.long _), none, some (.long _), none, some (.long _), none], [.long _], _)) rfl (u_ rfl) ?_
              refine w_t (pc := 1) (e_s := (2, 1, 2, 0, 0, .null, [])) (y_s := (2, [some (.long _), none, some (.long _), none, some (.long _), none], [.long _, .long _], _)) rfl (u_ rfl) ?_
              refine w_t (pc := 2) (e_s := (14, 1, 0, 0, 0, .null, [])) (y_s := (3, [some (.long _), none, some (.long _), none, some (.long _), none], [.int (lg_cmp _ _)], _)) rfl (u_ rfl) ?_
              refine wl2 (pc := 3) (len_s := 3) (Y := 0) rfl (Int32.toInt_toInt64 _) (by decide) (fun c41 => ?_) (fun c41 => ?_)
              · replace t_s := t_s.1 c41
                refine w_t (pc := 17) (e_s := (0, 1, 0, 0, 0, .int 0, [])) (y_s := (18, [some (.long _), none, some (.long _), none, some (.long _), none], [.int _], _)) rfl (u_ rfl) ?_
                refine wrI (pc := 18) (len_s := 1) rfl hk ?_
                show wF _ 189 (27, [some (.ref _), some (.int _), some (.int _), some (.int _)], [.int _], _) _
                refine w_t (pc := 27) (e_s := (15, 3, 32, 1, 0, .null, [])) (y_s := (30, [some (.ref _), some (.int _), some (.int _), some (.int _)], [], _)) rfl (u_ rfl) ?_
                refine w_t (pc := 30) (e_s := (0, 1, 0, 0, 0, .int (-1), [])) (y_s := (31, [some (.ref _), some (.int _), some (.int _), some (.int _)], [.int _], _)) rfl (u_ rfl) ?_
                exact wrI (pc := 31) (len_s := 1) rfl hk t_s
              · replace t_s := t_s.2 c41
                refine w_t (pc := 6) (e_s := (2, 1, 0, 0, 0, .null, [])) (y_s := (7, [some (.long _), none, some (.long _), none, some (.long _), none], [.long _], _)) rfl (u_ rfl) ?_
                refine w_t (pc := 7) (e_s := (2, 2, 4, 0, 0, .null, [])) (y_s := (9, [some (.long _), none, some (.long _), none, some (.long _), none], [.long _, .long _], _)) rfl (u_ rfl) ?_
                refine w_t (pc := 9) (e_s := (14, 1, 0, 0, 0, .null, [])) (y_s := (10, [some (.long _), none, some (.long _), none, some (.long _), none], [.int (lg_cmp _ _)], _)) rfl (u_ rfl) ?_
                refine wl4 (pc := 10) (len_s := 3) (Y := 4) rfl (Int32.toInt_toInt64 _) (by decide) (fun c42 => ?_) (fun c42 => ?_)
                · replace t_s := t_s.1 c42
                  refine w_t (pc := 17) (e_s := (0, 1, 0, 0, 0, .int 0, [])) (y_s := (18, [some (.long _), none, some (.long _), none, some (.long _), none], [.int _], _)) rfl (u_ rfl) ?_
                  refine wrI (pc := 18) (len_s := 1) rfl hk ?_
                  show wF _ 189 (27, [some (.ref _), some (.int _), some (.int _), some (.int _)], [.int _], _) _
                  refine w_t (pc := 27) (e_s := (15, 3, 32, 1, 0, .null, [])) (y_s := (30, [some (.ref _), some (.int _), some (.int _), some (.int _)], [], _)) rfl (u_ rfl) ?_
                  refine w_t (pc := 30) (e_s := (0, 1, 0, 0, 0, .int (-1), [])) (y_s := (31, [some (.ref _), some (.int _), some (.int _), some (.int _)], [.int _], _)) rfl (u_ rfl) ?_
                  exact wrI (pc := 31) (len_s := 1) rfl hk t_s
                · replace t_s := t_s.2 c42
                  refine w_t (pc := 13) (e_s := (0, 1, 0, 0, 0, .int 1, [])) (y_s := (14, [some (.long _), none, some (.long _), none, some (.long _), none], [.int _], _)) rfl (u_ rfl) ?_
                  refine w_t (pc := 14) (e_s := (17, 3, 18, 0, 0, .null, [])) (y_s := (18, [some (.long _), none, some (.long _), none, some (.long _), none], [.int _], _)) rfl (u_ rfl) ?_
                  refine wrI (pc := 18) (len_s := 1) rfl hk ?_
                  show wF _ 189 (27, [some (.ref _), some (.int _), some (.int _), some (.int _)], [.int _], _) _
                  refine w_t (pc := 27) (e_s := (15, 3, 32, 1, 0, .null, [])) (y_s := (32, [some (.ref _), some (.int _), some (.int _), some (.int _)], [], _)) rfl (u_ rfl) ?_
                  refine w_t (pc := 32) (e_s := (3, 1, 0, 0, 0, .null, [])) (y_s := (33, [some (.ref _), some (.int _), some (.int _), some (.int _)], [.ref _], _)) rfl (u_ rfl) ?_
                  refine w_t (pc := 33) (e_s := (1, 1, 1, 0, 0, .null, [])) (y_s := (34, [some (.ref _), some (.int _), some (.int _), some (.int _)], [.int _, .ref _], _)) rfl (u_ rfl) ?_
                  refine wcI (pc := 34) (len_s := 3) rfl rfl (l := [some (.ref _), some (.int _)]) rfl ?_
                  refine w_t (pc := 0) (e_s := (1, 1, 1, 0, 0, .null, [])) (y_s := (1, [some (.ref _), some (.int _)], [.int _], _)) rfl (u_ rfl) ?_
                  refine wcI (pc := 1) (len_s := 3) rfl rfl (l := [some (.int _)]) rfl ?_
                  refine w_t (pc := 0) (e_s := (1, 1, 0, 0, 0, .null, [])) (y_s := (1, [some (.int _)], [.int _], _)) rfl (u_ rfl) ?_
                  refine w_t (pc := 1) (e_s := (10, 1, 0, 0, 0, .null, [])) (y_s := (2, [some (.int _)], [.long (Int32.toInt64 _)], _)) rfl (u_ rfl) ?_
                  refine w_t (pc := 2) (e_s := (0, 1, 0, 0, 0, .long 0, [])) (y_s := (3, [some (.int _)], [.long _, .long _], _)) rfl (u_ rfl) ?_
                  refine w_t (pc := 3) (e_s := (0, 3, 0, 0, 0, .long 5, [(0, 1063)])) (y_s := (6, [some (.int _)], [.long _, .long _, .long _], _)) rfl (u_ rfl) ?_
                  refine wcI (pc := 6) (len_s := 3) rfl rfl (l := [some (.long _), none, some (.long _), none, some (.long _), none]) rfl ?_
                  refine w_t (pc := 0) (e_s := (2, 1, 0, 0, 0, .null, [])) (y_s := (1, [some (.long _), none, some (.long _), none, some (.long _), none], [.long _], _)) rfl (u_ rfl) ?_
                  refine w_t (pc := 1) (e_s := (2, 1, 2, 0, 0, .null, [])) (y_s := (2, [some (.long _), none, some (.long _), none, some (.long _), none], [.long _, .long _], _)) rfl (u_ rfl) ?_
                  refine w_t (pc := 2) (e_s := (14, 1, 0, 0, 0, .null, [])) (y_s := (3, [some (.long _), none, some (.long _), none, some (.long _), none], [.int (lg_cmp _ _)], _)) rfl (u_ rfl) ?_
                  refine wl2 (pc := 3) (len_s := 3) (Y := 0) rfl (Int32.toInt_toInt64 _) (by decide) (fun c43_s => ?_) (fun c43_s => ?_)
                  · exact absurd c43_s c1_s
                  · skip
                    refine w_t (pc := 6) (e_s := (2, 1, 0, 0, 0, .null, [])) (y_s := (7, [some (.long _), none, some (.long _), none, some (.long _), none], [.long _], _)) rfl (u_ rfl) ?_
                    refine w_t (pc := 7) (e_s := (2, 2, 4, 0, 0, .null, [])) (y_s := (9, [some (.long _), none, some (.long _), none, some (.long _), none], [.long _, .long _], _)) rfl (u_ rfl) ?_
                    refine w_t (pc := 9) (e_s := (14, 1, 0, 0, 0, .null, [])) (y_s := (10, [some (.long _), none, some (.long _), none, some (.long _), none], [.int (lg_cmp _ _)], _)) rfl (u_ rfl) ?_
                    refine wl4 (pc := 10) (len_s := 3) (Y := 5) rfl (Int32.toInt_toInt64 _) (by decide) (fun c44_s => ?_) (fun c44_s => ?_)
                    · exact absurd c44_s c2_s
                    · skip
                      refine w_t (pc := 13) (e_s := (0, 1, 0, 0, 0, .int 1, [])) (y_s := (14, [some (.long _), none, some (.long _), none, some (.long _), none], [.int _], _)) rfl (u_ rfl) ?_
                      refine w_t (pc := 14) (e_s := (17, 3, 18, 0, 0, .null, [])) (y_s := (18, [some (.long _), none, some (.long _), none, some (.long _), none], [.int _], _)) rfl (u_ rfl) ?_
                      refine wrI (pc := 18) (len_s := 1) rfl hk ?_
                      show wF _ 228 (9, [some (.int _)], [.int _], _) _
                      refine wrI (pc := 9) (len_s := 1) rfl hk ?_
                      show wF _ 186 (4, [some (.ref _), some (.int _)], [.int _], _) _
                      refine w_t (pc := 4) (e_s := (15, 3, 11, 1, 0, .null, [])) (y_s := (11, [some (.ref _), some (.int _)], [], _)) rfl (u_ rfl) ?_
                      refine w_t (pc := 11) (e_s := (3, 1, 0, 0, 0, .null, [])) (y_s := (12, [some (.ref _), some (.int _)], [.ref _], _)) rfl (u_ rfl) ?_
                      refine w20r (pc := 12) (len_s := 3) (q_s := 124) rfl (krq hk rfl) ?_
                      refine w_t (pc := 15) (e_s := (1, 1, 1, 0, 0, .null, [])) (y_s := (16, [some (.ref _), some (.int _)], [.int _, .ref _], _)) rfl (u_ rfl) ?_
                      refine w22 (pc := 16) (len_s := 1) rfl (hk.1 124 0 6 rfl rfl) (fun c45 => ?_)
                      refine wq3 (pc := 17) (len_s := 3) rfl rfl (fun c46_s => ?_) (fun c46_s => ?_)
                      · exact absurd c46_s c4_s
                      · skip
                        refine w_t (pc := 25) (e_s := (3, 1, 0, 0, 0, .null, [])) (y_s := (26, [some (.ref _), some (.int _)], [.ref _], _)) rfl (u_ rfl) ?_
                        refine w20r (pc := 26) (len_s := 3) (q_s := 124) rfl (krq hk rfl) ?_
                        refine w_t (pc := 29) (e_s := (1, 1, 1, 0, 0, .null, [])) (y_s := (30, [some (.ref _), some (.int _)], [.int _, .ref _], _)) rfl (u_ rfl) ?_
                        refine w22 (pc := 30) (len_s := 1) rfl (hk.1 124 0 6 rfl rfl) (fun c47_s => ?_)
                        refine w_t (pc := 31) (e_s := (0, 2, 0, 0, 0, .int 50, [])) (y_s := (33, [some (.ref _), some (.int _)], [.int _, .int _], _)) rfl (u_ rfl) ?_
                        refine wi1 (pc := 33) (len_s := 3) (Y := 50) rfl rfl (by decide) (fun c48_s => ?_) (fun c48_s => ?_)
                        · exact absurd c48_s c18_s
                        · skip
                          refine w_t (pc := 40) (e_s := (0, 2, 0, 0, 0, .int (-12), [])) (y_s := (42, [some (.ref _), some (.int _)], [.int _], _)) rfl (u_ rfl) ?_
                          refine wrI (pc := 42) (len_s := 1) rfl hk ?_
                          show wF _ 189 (37, [some (.ref _), some (.int _), some (.int _), some (.int _)], [.int _], _) _
                          refine w_t (pc := 37) (e_s := (15, 3, 46, 3, 0, .null, [])) (y_s := (40, [some (.ref _), some (.int _), some (.int _), some (.int _)], [], _)) rfl (u_ rfl) ?_
                          refine w_t (pc := 40) (e_s := (3, 1, 0, 0, 0, .null, [])) (y_s := (41, [some (.ref _), some (.int _), some (.int _), some (.int _)], [.ref _], _)) rfl (u_ rfl) ?_
                          refine w_t (pc := 41) (e_s := (1, 1, 1, 0, 0, .null, [])) (y_s := (42, [some (.ref _), some (.int _), some (.int _), some (.int _)], [.int _, .ref _], _)) rfl (u_ rfl) ?_
                          refine wcI (pc := 42) (len_s := 3) rfl rfl (l := [some (.ref _), some (.int _)]) rfl ?_
                          refine w_t (pc := 0) (e_s := (1, 1, 1, 0, 0, .null, [])) (y_s := (1, [some (.ref _), some (.int _)], [.int _], _)) rfl (u_ rfl) ?_
                          refine wcI (pc := 1) (len_s := 3) rfl rfl (l := [some (.int _)]) rfl ?_
                          refine w_t (pc := 0) (e_s := (1, 1, 0, 0, 0, .null, [])) (y_s := (1, [some (.int _)], [.int _], _)) rfl (u_ rfl) ?_
                          refine w_t (pc := 1) (e_s := (10, 1, 0, 0, 0, .null, [])) (y_s := (2, [some (.int _)], [.long (Int32.toInt64 _)], _)) rfl (u_ rfl) ?_
                          refine w_t (pc := 2) (e_s := (0, 1, 0, 0, 0, .long 0, [])) (y_s := (3, [some (.int _)], [.long _, .long _], _)) rfl (u_ rfl) ?_
                          refine w_t (pc := 3) (e_s := (0, 3, 0, 0, 0, .long 5, [(0, 1063)])) (y_s := (6, [some (.int _)], [.long _, .long _, .long _], _)) rfl (u_ rfl) ?_
                          refine wcI (pc := 6) (len_s := 3) rfl rfl (l := [some (.long _), none, some (.long _), none, some (.long _), none]) rfl ?_
                          refine w_t (pc := 0) (e_s := (2, 1, 0, 0, 0, .null, [])) (y_s := (1, [some (.long _), none, some (.long _), none, some (.long _), none], [.long _], _)) rfl (u_ rfl) ?_
                          refine w_t (pc := 1) (e_s := (2, 1, 2, 0, 0, .null, [])) (y_s := (2, [some (.long _), none, some (.long _), none, some (.long _), none], [.long _, .long _], _)) rfl (u_ rfl) ?_
                          refine w_t (pc := 2) (e_s := (14, 1, 0, 0, 0, .null, [])) (y_s := (3, [some (.long _), none, some (.long _), none, some (.long _), none], [.int (lg_cmp _ _)], _)) rfl (u_ rfl) ?_
                          refine wl2 (pc := 3) (len_s := 3) (Y := 0) rfl (Int32.toInt_toInt64 _) (by decide) (fun c49 => ?_) (fun c49 => ?_)
                          · exact absurd c49 c1_s
                          · skip
                            refine w_t (pc := 6) (e_s := (2, 1, 0, 0, 0, .null, [])) (y_s := (7, [some (.long _), none, some (.long _), none, some (.long _), none], [.long _], _)) rfl (u_ rfl) ?_
                            refine w_t (pc := 7) (e_s := (2, 2, 4, 0, 0, .null, [])) (y_s := (9, [some (.long _), none, some (.long _), none, some (.long _), none], [.long _, .long _], _)) rfl (u_ rfl) ?_
                            refine w_t (pc := 9) (e_s := (14, 1, 0, 0, 0, .null, [])) (y_s := (10, [some (.long _), none, some (.long _), none, some (.long _), none], [.int (lg_cmp _ _)], _)) rfl (u_ rfl) ?_
                            refine wl4 (pc := 10) (len_s := 3) (Y := 5) rfl (Int32.toInt_toInt64 _) (by decide) (fun c50 => ?_) (fun c50 => ?_)
                            · exact absurd c50 c2_s
                            · skip
                              refine w_t (pc := 13) (e_s := (0, 1, 0, 0, 0, .int 1, [])) (y_s := (14, [some (.long _), none, some (.long _), none, some (.long _), none], [.int _], _)) rfl (u_ rfl) ?_
                              refine w_t (pc := 14) (e_s := (17, 3, 18, 0, 0, .null, [])) (y_s := (18, [some (.long _), none, some (.long _), none, some (.long _), none], [.int _], _)) rfl (u_ rfl) ?_
                              refine wrI (pc := 18) (len_s := 1) rfl hk ?_
                              show wF _ 228 (9, [some (.int _)], [.int _], _) _
                              refine wrI (pc := 9) (len_s := 1) rfl hk ?_
                              show wF _ 186 (4, [some (.ref _), some (.int _)], [.int _], _) _
                              refine w_t (pc := 4) (e_s := (15, 3, 11, 1, 0, .null, [])) (y_s := (11, [some (.ref _), some (.int _)], [], _)) rfl (u_ rfl) ?_
                              refine w_t (pc := 11) (e_s := (3, 1, 0, 0, 0, .null, [])) (y_s := (12, [some (.ref _), some (.int _)], [.ref _], _)) rfl (u_ rfl) ?_
                              refine w20r (pc := 12) (len_s := 3) (q_s := 124) rfl (krq hk rfl) ?_
                              refine w_t (pc := 15) (e_s := (1, 1, 1, 0, 0, .null, [])) (y_s := (16, [some (.ref _), some (.int _)], [.int _, .ref _], _)) rfl (u_ rfl) ?_
                              refine w22 (pc := 16) (len_s := 1) rfl (hk.1 124 0 6 rfl rfl) (fun c51_s => ?_)
                              refine wq3 (pc := 17) (len_s := 3) rfl rfl (fun c52_s => ?_) (fun c52_s => ?_)
                              · exact absurd c52_s c4_s
                              · skip
                                refine w_t (pc := 25) (e_s := (3, 1, 0, 0, 0, .null, [])) (y_s := (26, [some (.ref _), some (.int _)], [.ref _], _)) rfl (u_ rfl) ?_
                                refine w20r (pc := 26) (len_s := 3) (q_s := 124) rfl (krq hk rfl) ?_
                                refine w_t (pc := 29) (e_s := (1, 1, 1, 0, 0, .null, [])) (y_s := (30, [some (.ref _), some (.int _)], [.int _, .ref _], _)) rfl (u_ rfl) ?_
                                refine w22 (pc := 30) (len_s := 1) rfl (hk.1 124 0 6 rfl rfl) (fun c53 => ?_)
                                refine w_t (pc := 31) (e_s := (0, 2, 0, 0, 0, .int 50, [])) (y_s := (33, [some (.ref _), some (.int _)], [.int _, .int _], _)) rfl (u_ rfl) ?_
                                refine wi1 (pc := 33) (len_s := 3) (Y := 50) rfl rfl (by decide) (fun c54 => ?_) (fun c54 => ?_)
                                · exact absurd c54 c18_s
                                · skip
                                  refine w_t (pc := 40) (e_s := (0, 2, 0, 0, 0, .int (-12), [])) (y_s := (42, [some (.ref _), some (.int _)], [.int _], _)) rfl (u_ rfl) ?_
                                  refine wrI (pc := 42) (len_s := 1) rfl hk ?_
                                  show wF _ 189 (45, [some (.ref _), some (.int _), some (.int _), some (.int _)], [.int _], _) _
                                  exact wrI (pc := 45) (len_s := 1) rfl hk t_s
/-- ColdShodModel.goesJourney(I)V, from 0 on -/
theorem sg_188_0 {F_s : Nat} {x1_s : Int32} {h_s : zH} {K_s : zH → Prop} (hk : hKn h_s) (t_s : wF F_s 188 (12, [some (.ref 102), some (.int x1_s), some (.int 1)], [], (h_s.1, zup (zup h_s.2.1 102 24 0) 102 25 0, h_s.2.2.1, h_s.2.2.2)) (gV K_s)) : wF (F_s + 1) 188 (0, [some (.ref 102), some (.int x1_s), none], [], h_s) (gV K_s) := by
  refine w_0 (pc := 0) (e_s := (3, 1, 0, 0, 0, .null, [])) (y_s := (1, [some (.ref _), some (.int _), none], [.ref _], _)) rfl (u_ rfl) ?_
  refine w_t (pc := 1) (e_s := (0, 1, 0, 0, 0, .int 0, [])) (y_s := (2, [some (.ref _), some (.int _), none], [.int _, .ref _], _)) rfl (u_ rfl) ?_
  refine w21 (pc := 2) (len_s := 3) rfl ?_
  refine w_t (pc := 5) (e_s := (3, 1, 0, 0, 0, .null, [])) (y_s := (6, [some (.ref _), some (.int _), none], [.ref _], _)) rfl (u_ rfl) ?_
  refine w_t (pc := 6) (e_s := (0, 1, 0, 0, 0, .int 0, [])) (y_s := (7, [some (.ref _), some (.int _), none], [.int _, .ref _], _)) rfl (u_ rfl) ?_
  refine w21 (pc := 7) (len_s := 3) rfl ?_
  refine w_t (pc := 10) (e_s := (0, 1, 0, 0, 0, .int 1, [])) (y_s := (11, [some (.ref _), some (.int _), none], [.int _], _)) rfl (u_ rfl) ?_
  refine w_t (pc := 11) (e_s := (4, 1, 2, 0, 0, .null, [])) (y_s := (12, [some (.ref _), some (.int _), some (.int _)], [], _)) rfl (u_ rfl) ?_
  exact t_s
/-- ColdShodModel.goesJourney(I)V, from 12 on -/
theorem sg_188_12 {F_s : Nat} {x1_s x2_s : Int32} {h_s : zH} {K_s : zH → Prop} (hk : hKn h_s) (t_s : (x2_s.toInt = 0 → K_s h_s) ∧ (¬ x2_s.toInt = 0 → wF F_s 187 (0, [some (.ref 102), some (.int x1_s), none], [], h_s) (gI (fun v2 h2 => hKn h2 → ((h_s.2.1 102 25).toInt < v2.toInt → (zix ((60 * x1_s) + (h2.2.1 102 25)) < 360 → wF F_s 183 (0, [some (.ref 102), some (.int ((h2.2.2.1 126 (zix ((60 * x1_s) + (h2.2.1 102 25)))).toInt32)), none], [], h2) (gV (fun h5 => hKn h5 → wF F_s 188 (65, [some (.ref 102), some (.int x1_s), some (.int (h5.2.1 102 23))], [], (h5.1, zup h5.2.1 102 24 ((h5.2.1 102 24) + (h5.2.1 102 22)), h5.2.2.1, h5.2.2.2)) (gV K_s))))) ∧ (¬ (h_s.2.1 102 25).toInt < v2.toInt → K_s h2))))) : wF (F_s + 1) 188 (12, [some (.ref 102), some (.int x1_s), some (.int x2_s)], [], h_s) (gV K_s) := by
  refine w_0 (pc := 12) (e_s := (1, 1, 2, 0, 0, .null, [])) (y_s := (13, [some (.ref _), some (.int _), some (.int _)], [.int _], _)) rfl (u_ rfl) ?_
  refine wq0 (pc := 13) (len_s := 3) rfl rfl (fun c1_s => ?_) (fun c1_s => ?_)
  · replace t_s := t_s.1 c1_s
    exact wrV (pc := 89) (len_s := 1) rfl hk t_s
  · replace t_s := t_s.2 c1_s
    refine w_t (pc := 16) (e_s := (3, 1, 0, 0, 0, .null, [])) (y_s := (17, [some (.ref _), some (.int _), some (.int _)], [.ref _], _)) rfl (u_ rfl) ?_
    refine w20 (pc := 17) (len_s := 3) rfl ?_
    refine w_t (pc := 20) (e_s := (3, 1, 0, 0, 0, .null, [])) (y_s := (21, [some (.ref _), some (.int _), some (.int _)], [.ref _, .int _], _)) rfl (u_ rfl) ?_
    refine w_t (pc := 21) (e_s := (1, 1, 1, 0, 0, .null, [])) (y_s := (22, [some (.ref _), some (.int _), some (.int _)], [.int _, .ref _, .int _], _)) rfl (u_ rfl) ?_
    refine wcI (pc := 22) (len_s := 3) rfl rfl (l := [some (.ref _), some (.int _), none]) rfl (wmI t_s (fun v2 h2 hk t_s => ?_))
    replace t_s := t_s hk
    refine wi3 (pc := 25) (len_s := 3) rfl rfl rfl (fun c3_s => ?_) (fun c3_s => ?_)
    · replace t_s := t_s.1 c3_s
      refine w_t (pc := 28) (e_s := (3, 1, 0, 0, 0, .null, [])) (y_s := (29, [some (.ref _), some (.int _), some (.int _)], [.ref _], _)) rfl (u_ rfl) ?_
      refine w_t (pc := 29) (e_s := (3, 1, 0, 0, 0, .null, [])) (y_s := (30, [some (.ref _), some (.int _), some (.int _)], [.ref _, .ref _], _)) rfl (u_ rfl) ?_
      refine w20r (pc := 30) (len_s := 3) (q_s := 126) rfl (krq hk rfl) ?_
      refine w_t (pc := 33) (e_s := (0, 2, 0, 0, 0, .int 60, [])) (y_s := (35, [some (.ref _), some (.int _), some (.int _)], [.int _, .ref _, .ref _], _)) rfl (u_ rfl) ?_
      refine w_t (pc := 35) (e_s := (1, 1, 1, 0, 0, .null, [])) (y_s := (36, [some (.ref _), some (.int _), some (.int _)], [.int _, .int _, .ref _, .ref _], _)) rfl (u_ rfl) ?_
      refine w_t (pc := 36) (e_s := (7, 1, 0, 2, 0, .null, [])) (y_s := (37, [some (.ref _), some (.int _), some (.int _)], [.int (_ * _), .ref _, .ref _], _)) rfl (u_ rfl) ?_
      refine w_t (pc := 37) (e_s := (3, 1, 0, 0, 0, .null, [])) (y_s := (38, [some (.ref _), some (.int _), some (.int _)], [.ref _, .int _, .ref _, .ref _], _)) rfl (u_ rfl) ?_
      refine w20 (pc := 38) (len_s := 3) rfl ?_
      refine w_t (pc := 41) (e_s := (7, 1, 0, 0, 0, .null, [])) (y_s := (42, [some (.ref _), some (.int _), some (.int _)], [.int (_ + _), .ref _, .ref _], _)) rfl (u_ rfl) ?_
      refine w23 (pc := 42) (len_s := 1) rfl (hk.1 126 1 360 rfl rfl) (fun c4_s => ?_)
      replace t_s := t_s c4_s
      refine w_t (pc := 43) (e_s := (11, 1, 0, 0, 0, .null, [])) (y_s := (44, [some (.ref _), some (.int _), some (.int _)], [.int (Int64.toInt32 _), .ref _], _)) rfl (u_ rfl) ?_
      refine wcV (pc := 44) (len_s := 3) rfl rfl (l := [some (.ref _), some (.int _), none]) rfl (wmV t_s (fun h5 hk t_s => ?_))
      replace t_s := t_s hk
      refine w_t (pc := 47) (e_s := (3, 1, 0, 0, 0, .null, [])) (y_s := (48, [some (.ref _), some (.int _), some (.int _)], [.ref _], _)) rfl (u_ rfl) ?_
      refine w_t (pc := 48) (e_s := (39, 1, 0, 0, 0, .null, [])) (y_s := (49, [some (.ref _), some (.int _), some (.int _)], [.ref _, .ref _], _)) rfl (u_ rfl) ?_
      refine w20 (pc := 49) (len_s := 3) rfl ?_
      refine w_t (pc := 52) (e_s := (3, 1, 0, 0, 0, .null, [])) (y_s := (53, [some (.ref _), some (.int _), some (.int _)], [.ref _, .int _, .ref _], _)) rfl (u_ rfl) ?_
      refine w20 (pc := 53) (len_s := 3) rfl ?_
      refine w_t (pc := 56) (e_s := (7, 1, 0, 0, 0, .null, [])) (y_s := (57, [some (.ref _), some (.int _), some (.int _)], [.int (_ + _), .ref _], _)) rfl (u_ rfl) ?_
      refine w21 (pc := 57) (len_s := 3) rfl ?_
      refine w_t (pc := 60) (e_s := (3, 1, 0, 0, 0, .null, [])) (y_s := (61, [some (.ref _), some (.int _), some (.int _)], [.ref _], _)) rfl (u_ rfl) ?_
      refine w20 (pc := 61) (len_s := 3) rfl ?_
      refine w_t (pc := 64) (e_s := (4, 1, 2, 0, 0, .null, [])) (y_s := (65, [some (.ref _), some (.int _), some (.int _)], [], _)) rfl (u_ rfl) ?_
      exact t_s
    · replace t_s := t_s.2 c3_s
      exact wrV (pc := 89) (len_s := 1) rfl hk t_s
/-- ColdShodModel.goesJourney(I)V, from 65 on -/
theorem sg_188_65 {F_s : Nat} {x1_s x2_s : Int32} {h_s : zH} {K_s : zH → Prop} (hk : hKn h_s) (t_s : ((h_s.2.1 102 23).toInt = 0 → wF F_s 188 (12, [some (.ref 102), some (.int x1_s), some (.int x2_s)], [], (h_s.1, zup h_s.2.1 102 25 ((h_s.2.1 102 25) + 0), h_s.2.2.1, h_s.2.2.2)) (gV K_s)) ∧ (¬ (h_s.2.1 102 23).toInt = 0 → wF F_s 188 (12, [some (.ref 102), some (.int x1_s), some (.int x2_s)], [], (h_s.1, zup h_s.2.1 102 25 ((h_s.2.1 102 25) + 1), h_s.2.2.1, h_s.2.2.2)) (gV K_s))) : wF (F_s + 1) 188 (65, [some (.ref 102), some (.int x1_s), some (.int x2_s)], [], h_s) (gV K_s) := by
  refine w_0 (pc := 65) (e_s := (3, 1, 0, 0, 0, .null, [])) (y_s := (66, [some (.ref _), some (.int _), some (.int _)], [.ref _], _)) rfl (u_ rfl) ?_
  refine w_t (pc := 66) (e_s := (39, 1, 0, 0, 0, .null, [])) (y_s := (67, [some (.ref _), some (.int _), some (.int _)], [.ref _, .ref _], _)) rfl (u_ rfl) ?_
  refine w20 (pc := 67) (len_s := 3) rfl ?_
  refine w_t (pc := 70) (e_s := (3, 1, 0, 0, 0, .null, [])) (y_s := (71, [some (.ref _), some (.int _), some (.int _)], [.ref _, .int _, .ref _], _)) rfl (u_ rfl) ?_
  refine w20 (pc := 71) (len_s := 3) rfl ?_
  refine wq0 (pc := 74) (len_s := 3) rfl rfl (fun c1_s => ?_) (fun c1_s => ?_)
  · replace t_s := t_s.1 c1_s
    refine w_t (pc := 81) (e_s := (0, 1, 0, 0, 0, .int 0, [])) (y_s := (82, [some (.ref _), some (.int _), some (.int _)], [.int _, .int _, .ref _], _)) rfl (u_ rfl) ?_
    refine w_t (pc := 82) (e_s := (7, 1, 0, 0, 0, .null, [])) (y_s := (83, [some (.ref _), some (.int _), some (.int _)], [.int (_ + _), .ref _], _)) rfl (u_ rfl) ?_
    refine w21 (pc := 83) (len_s := 3) rfl ?_
    refine w_t (pc := 86) (e_s := (17, 3, 12, 0, 0, .null, [])) (y_s := (12, [some (.ref _), some (.int _), some (.int _)], [], _)) rfl (u_ rfl) ?_
    exact t_s
  · replace t_s := t_s.2 c1_s
    refine w_t (pc := 77) (e_s := (0, 1, 0, 0, 0, .int 1, [])) (y_s := (78, [some (.ref _), some (.int _), some (.int _)], [.int _, .int _, .ref _], _)) rfl (u_ rfl) ?_
    refine w_t (pc := 78) (e_s := (17, 3, 82, 0, 0, .null, [])) (y_s := (82, [some (.ref _), some (.int _), some (.int _)], [.int _, .int _, .ref _], _)) rfl (u_ rfl) ?_
    refine w_t (pc := 82) (e_s := (7, 1, 0, 0, 0, .null, [])) (y_s := (83, [some (.ref _), some (.int _), some (.int _)], [.int (_ + _), .ref _], _)) rfl (u_ rfl) ?_
    refine w21 (pc := 83) (len_s := 3) rfl ?_
    refine w_t (pc := 86) (e_s := (17, 3, 12, 0, 0, .null, [])) (y_s := (12, [some (.ref _), some (.int _), some (.int _)], [], _)) rfl (u_ rfl) ?_
    exact t_s
