/-! What ended runs of the methods that lay roads give: printed by a program (wip/fun/sg.py). -/
/-- ColdShod.road(II)I, from 0 on -/
theorem sg_95_0 {F_s : Nat} {x1_s : Int32} {x2_s : Int32} {h_s : zH} {K_s : Int32 → zH → Prop} (hk : hKn h_s) (t_s : (x1_s.toInt < 0 → K_s (-1) h_s) ∧ (¬ x1_s.toInt < 0 → (((x1_s / 10).toInt < 0 → K_s (-1) h_s) ∧ (¬ (x1_s / 10).toInt < 0 → (((x1_s / 10).toInt < 8 → (((x1_s - x1_s / 10 * 10).toInt < 0 → K_s (-1) h_s) ∧ (¬ (x1_s - x1_s / 10 * 10).toInt < 0 → (((x1_s - x1_s / 10 * 10).toInt < 8 → (((x1_s / 10).toInt = (x1_s - x1_s / 10 * 10).toInt → K_s (-1) h_s) ∧ (¬ (x1_s / 10).toInt = (x1_s - x1_s / 10 * 10).toInt → ((x2_s.toInt < 1 → K_s (-1) h_s) ∧ (¬ x2_s.toInt < 1 → ((9 < x2_s.toInt → K_s (-1) h_s) ∧ (¬ 9 < x2_s.toInt → (((h_s.2.1 7 8).toInt < 12 → (zix (h_s.2.1 7 8) < 12 → K_s ((zup (zup (zup h_s.2.1 (28 + (zix (h_s.2.1 7 8))) 0 (x1_s / 10)) (28 + (zix (h_s.2.1 7 8))) 1 (x1_s - x1_s / 10 * 10)) (28 + (zix (h_s.2.1 7 8))) 2 x2_s) 7 8) (h_s.1, zup (zup (zup (zup h_s.2.1 (28 + (zix (h_s.2.1 7 8))) 0 (x1_s / 10)) (28 + (zix (h_s.2.1 7 8))) 1 (x1_s - x1_s / 10 * 10)) (28 + (zix (h_s.2.1 7 8))) 2 x2_s) 7 8 (((zup (zup (zup h_s.2.1 (28 + (zix (h_s.2.1 7 8))) 0 (x1_s / 10)) (28 + (zix (h_s.2.1 7 8))) 1 (x1_s - x1_s / 10 * 10)) (28 + (zix (h_s.2.1 7 8))) 2 x2_s) 7 8) + 1), h_s.2.2.1, h_s.2.2.2))) ∧ (¬ (h_s.2.1 7 8).toInt < 12 → K_s (-3) h_s))))))))) ∧ (¬ (x1_s - x1_s / 10 * 10).toInt < 8 → K_s (-1) h_s))))) ∧ (¬ (x1_s / 10).toInt < 8 → K_s (-1) h_s)))))) : wF (F_s + 1) 95 (0, [some (.ref 6), some (.int x1_s), some (.int x2_s)], [], h_s) (gI K_s) := by
  refine w_0 (pc := 0) (e_s := (1, 1, 1, 0, 0, .null, [])) (y_s := (1, [some (.ref _), some (.int _), some (.int _)], [.int _], _)) rfl (u_ rfl) ?_
  refine wcI (pc := 1) (len_s := 3) rfl rfl (l := [some (.int _)]) rfl ?_
  refine w_t (pc := 0) (e_s := (1, 1, 0, 0, 0, .null, [])) (y_s := (1, [some (.int _)], [.int _], _)) rfl (u_ rfl) ?_
  refine wq2 (pc := 1) (len_s := 3) rfl rfl (fun c1_s => ?_) (fun c1_s => ?_)
  · replace t_s := t_s.1 c1_s
    refine w_t (pc := 41) (e_s := (0, 1, 0, 0, 0, .int 0, [])) (y_s := (42, [some (.int _)], [.int _], _)) rfl (u_ rfl) ?_
    refine wrI (pc := 42) (len_s := 1) rfl hk ?_
    show wF _ 95 (4, [some (.ref _), some (.int _), some (.int _)], [.int _], _) _
    refine w_t (pc := 4) (e_s := (15, 3, 18, 0, 0, .null, [])) (y_s := (18, [some (.ref _), some (.int _), some (.int _)], [], _)) rfl (u_ rfl) ?_
    refine w_t (pc := 18) (e_s := (0, 1, 0, 0, 0, .int (-1), [])) (y_s := (19, [some (.ref _), some (.int _), some (.int _)], [.int _], _)) rfl (u_ rfl) ?_
    exact wrI (pc := 19) (len_s := 1) rfl hk t_s
  · replace t_s := t_s.2 c1_s
    refine w_t (pc := 4) (e_s := (1, 1, 0, 0, 0, .null, [])) (y_s := (5, [some (.int _)], [.int _], _)) rfl (u_ rfl) ?_
    refine w_t (pc := 5) (e_s := (0, 2, 0, 0, 0, .int 10, [])) (y_s := (7, [some (.int _)], [.int _, .int _], _)) rfl (u_ rfl) ?_
    refine w8 (pc := 7) (len_s := 1) rfl ?_
    refine w_t (pc := 8) (e_s := (10, 1, 0, 0, 0, .null, [])) (y_s := (9, [some (.int _)], [.long (Int32.toInt64 _)], _)) rfl (u_ rfl) ?_
    refine wcI (pc := 9) (len_s := 3) rfl rfl (l := [some (.long _), none]) rfl ?_
    refine w_t (pc := 0) (e_s := (2, 1, 0, 0, 0, .null, [])) (y_s := (1, [some (.long _), none], [.long _], _)) rfl (u_ rfl) ?_
    refine w_t (pc := 1) (e_s := (0, 1, 0, 0, 0, .long 0, [])) (y_s := (2, [some (.long _), none], [.long _, .long _], _)) rfl (u_ rfl) ?_
    refine w_t (pc := 2) (e_s := (14, 1, 0, 0, 0, .null, [])) (y_s := (3, [some (.long _), none], [.int (lg_cmp _ _)], _)) rfl (u_ rfl) ?_
    refine wl2 (pc := 3) (len_s := 3) (Y := 0) rfl (Int32.toInt_toInt64 _) (by decide) (fun c2_s => ?_) (fun c2_s => ?_)
    · replace t_s := t_s.1 c2_s
      refine w_t (pc := 18) (e_s := (0, 1, 0, 0, 0, .int 0, [])) (y_s := (19, [some (.long _), none], [.int _], _)) rfl (u_ rfl) ?_
      refine wrI (pc := 19) (len_s := 1) rfl hk ?_
      show wF _ 138 (12, [some (.int _)], [.int _], _) _
      refine w_t (pc := 12) (e_s := (15, 3, 41, 0, 0, .null, [])) (y_s := (41, [some (.int _)], [], _)) rfl (u_ rfl) ?_
      refine w_t (pc := 41) (e_s := (0, 1, 0, 0, 0, .int 0, [])) (y_s := (42, [some (.int _)], [.int _], _)) rfl (u_ rfl) ?_
      refine wrI (pc := 42) (len_s := 1) rfl hk ?_
      show wF _ 95 (4, [some (.ref _), some (.int _), some (.int _)], [.int _], _) _
      refine w_t (pc := 4) (e_s := (15, 3, 18, 0, 0, .null, [])) (y_s := (18, [some (.ref _), some (.int _), some (.int _)], [], _)) rfl (u_ rfl) ?_
      refine w_t (pc := 18) (e_s := (0, 1, 0, 0, 0, .int (-1), [])) (y_s := (19, [some (.ref _), some (.int _), some (.int _)], [.int _], _)) rfl (u_ rfl) ?_
      exact wrI (pc := 19) (len_s := 1) rfl hk t_s
    · replace t_s := t_s.2 c2_s
      refine w_t (pc := 6) (e_s := (2, 1, 0, 0, 0, .null, [])) (y_s := (7, [some (.long _), none], [.long _], _)) rfl (u_ rfl) ?_
      refine w_t (pc := 7) (e_s := (0, 3, 0, 0, 0, .long 8, [(0, 1028)])) (y_s := (10, [some (.long _), none], [.long _, .long _], _)) rfl (u_ rfl) ?_
      refine w_t (pc := 10) (e_s := (14, 1, 0, 0, 0, .null, [])) (y_s := (11, [some (.long _), none], [.int (lg_cmp _ _)], _)) rfl (u_ rfl) ?_
      refine wl3 (pc := 11) (len_s := 3) (Y := 8) rfl (Int32.toInt_toInt64 _) (by decide) (fun c3_s => ?_) (fun c3_s => ?_)
      · replace t_s := t_s.1 c3_s
        refine w_t (pc := 14) (e_s := (0, 1, 0, 0, 0, .int 1, [])) (y_s := (15, [some (.long _), none], [.int _], _)) rfl (u_ rfl) ?_
        refine w_t (pc := 15) (e_s := (17, 3, 19, 0, 0, .null, [])) (y_s := (19, [some (.long _), none], [.int _], _)) rfl (u_ rfl) ?_
        refine wrI (pc := 19) (len_s := 1) rfl hk ?_
        show wF _ 138 (12, [some (.int _)], [.int _], _) _
        refine w_t (pc := 12) (e_s := (15, 3, 41, 0, 0, .null, [])) (y_s := (15, [some (.int _)], [], _)) rfl (u_ rfl) ?_
        refine w_t (pc := 15) (e_s := (1, 1, 0, 0, 0, .null, [])) (y_s := (16, [some (.int _)], [.int _], _)) rfl (u_ rfl) ?_
        refine w_t (pc := 16) (e_s := (0, 2, 0, 0, 0, .int 10, [])) (y_s := (18, [some (.int _)], [.int _, .int _], _)) rfl (u_ rfl) ?_
        refine w8m (pc := 18) (len_s := 1) rfl ?_
        refine w_t (pc := 19) (e_s := (10, 1, 0, 0, 0, .null, [])) (y_s := (20, [some (.int _)], [.long (Int32.toInt64 _)], _)) rfl (u_ rfl) ?_
        refine wcI (pc := 20) (len_s := 3) rfl rfl (l := [some (.long _), none]) rfl ?_
        refine w_t (pc := 0) (e_s := (2, 1, 0, 0, 0, .null, [])) (y_s := (1, [some (.long _), none], [.long _], _)) rfl (u_ rfl) ?_
        refine w_t (pc := 1) (e_s := (0, 1, 0, 0, 0, .long 0, [])) (y_s := (2, [some (.long _), none], [.long _, .long _], _)) rfl (u_ rfl) ?_
        refine w_t (pc := 2) (e_s := (14, 1, 0, 0, 0, .null, [])) (y_s := (3, [some (.long _), none], [.int (lg_cmp _ _)], _)) rfl (u_ rfl) ?_
        refine wl2 (pc := 3) (len_s := 3) (Y := 0) rfl (Int32.toInt_toInt64 _) (by decide) (fun c4_s => ?_) (fun c4_s => ?_)
        · replace t_s := t_s.1 c4_s
          refine w_t (pc := 18) (e_s := (0, 1, 0, 0, 0, .int 0, [])) (y_s := (19, [some (.long _), none], [.int _], _)) rfl (u_ rfl) ?_
          refine wrI (pc := 19) (len_s := 1) rfl hk ?_
          show wF _ 138 (23, [some (.int _)], [.int _], _) _
          refine w_t (pc := 23) (e_s := (15, 3, 41, 0, 0, .null, [])) (y_s := (41, [some (.int _)], [], _)) rfl (u_ rfl) ?_
          refine w_t (pc := 41) (e_s := (0, 1, 0, 0, 0, .int 0, [])) (y_s := (42, [some (.int _)], [.int _], _)) rfl (u_ rfl) ?_
          refine wrI (pc := 42) (len_s := 1) rfl hk ?_
          show wF _ 95 (4, [some (.ref _), some (.int _), some (.int _)], [.int _], _) _
          refine w_t (pc := 4) (e_s := (15, 3, 18, 0, 0, .null, [])) (y_s := (18, [some (.ref _), some (.int _), some (.int _)], [], _)) rfl (u_ rfl) ?_
          refine w_t (pc := 18) (e_s := (0, 1, 0, 0, 0, .int (-1), [])) (y_s := (19, [some (.ref _), some (.int _), some (.int _)], [.int _], _)) rfl (u_ rfl) ?_
          exact wrI (pc := 19) (len_s := 1) rfl hk t_s
        · replace t_s := t_s.2 c4_s
          refine w_t (pc := 6) (e_s := (2, 1, 0, 0, 0, .null, [])) (y_s := (7, [some (.long _), none], [.long _], _)) rfl (u_ rfl) ?_
          refine w_t (pc := 7) (e_s := (0, 3, 0, 0, 0, .long 8, [(0, 1028)])) (y_s := (10, [some (.long _), none], [.long _, .long _], _)) rfl (u_ rfl) ?_
          refine w_t (pc := 10) (e_s := (14, 1, 0, 0, 0, .null, [])) (y_s := (11, [some (.long _), none], [.int (lg_cmp _ _)], _)) rfl (u_ rfl) ?_
          refine wl3 (pc := 11) (len_s := 3) (Y := 8) rfl (Int32.toInt_toInt64 _) (by decide) (fun c5_s => ?_) (fun c5_s => ?_)
          · replace t_s := t_s.1 c5_s
            refine w_t (pc := 14) (e_s := (0, 1, 0, 0, 0, .int 1, [])) (y_s := (15, [some (.long _), none], [.int _], _)) rfl (u_ rfl) ?_
            refine w_t (pc := 15) (e_s := (17, 3, 19, 0, 0, .null, [])) (y_s := (19, [some (.long _), none], [.int _], _)) rfl (u_ rfl) ?_
            refine wrI (pc := 19) (len_s := 1) rfl hk ?_
            show wF _ 138 (23, [some (.int _)], [.int _], _) _
            refine w_t (pc := 23) (e_s := (15, 3, 41, 0, 0, .null, [])) (y_s := (26, [some (.int _)], [], _)) rfl (u_ rfl) ?_
            refine w_t (pc := 26) (e_s := (1, 1, 0, 0, 0, .null, [])) (y_s := (27, [some (.int _)], [.int _], _)) rfl (u_ rfl) ?_
            refine w_t (pc := 27) (e_s := (0, 2, 0, 0, 0, .int 10, [])) (y_s := (29, [some (.int _)], [.int _, .int _], _)) rfl (u_ rfl) ?_
            refine w8 (pc := 29) (len_s := 1) rfl ?_
            refine w_t (pc := 30) (e_s := (1, 1, 0, 0, 0, .null, [])) (y_s := (31, [some (.int _)], [.int _, .int _], _)) rfl (u_ rfl) ?_
            refine w_t (pc := 31) (e_s := (0, 2, 0, 0, 0, .int 10, [])) (y_s := (33, [some (.int _)], [.int _, .int _, .int _], _)) rfl (u_ rfl) ?_
            refine w8m (pc := 33) (len_s := 1) rfl ?_
            refine wi0 (pc := 34) (len_s := 3) rfl rfl rfl (fun c6_s => ?_) (fun c6_s => ?_)
            · replace t_s := t_s.1 c6_s
              refine w_t (pc := 41) (e_s := (0, 1, 0, 0, 0, .int 0, [])) (y_s := (42, [some (.int _)], [.int _], _)) rfl (u_ rfl) ?_
              refine wrI (pc := 42) (len_s := 1) rfl hk ?_
              show wF _ 95 (4, [some (.ref _), some (.int _), some (.int _)], [.int _], _) _
              refine w_t (pc := 4) (e_s := (15, 3, 18, 0, 0, .null, [])) (y_s := (18, [some (.ref _), some (.int _), some (.int _)], [], _)) rfl (u_ rfl) ?_
              refine w_t (pc := 18) (e_s := (0, 1, 0, 0, 0, .int (-1), [])) (y_s := (19, [some (.ref _), some (.int _), some (.int _)], [.int _], _)) rfl (u_ rfl) ?_
              exact wrI (pc := 19) (len_s := 1) rfl hk t_s
            · replace t_s := t_s.2 c6_s
              refine w_t (pc := 37) (e_s := (0, 1, 0, 0, 0, .int 1, [])) (y_s := (38, [some (.int _)], [.int _], _)) rfl (u_ rfl) ?_
              refine w_t (pc := 38) (e_s := (17, 3, 42, 0, 0, .null, [])) (y_s := (42, [some (.int _)], [.int _], _)) rfl (u_ rfl) ?_
              refine wrI (pc := 42) (len_s := 1) rfl hk ?_
              show wF _ 95 (4, [some (.ref _), some (.int _), some (.int _)], [.int _], _) _
              refine w_t (pc := 4) (e_s := (15, 3, 18, 0, 0, .null, [])) (y_s := (7, [some (.ref _), some (.int _), some (.int _)], [], _)) rfl (u_ rfl) ?_
              refine w_t (pc := 7) (e_s := (1, 1, 2, 0, 0, .null, [])) (y_s := (8, [some (.ref _), some (.int _), some (.int _)], [.int _], _)) rfl (u_ rfl) ?_
              refine w_t (pc := 8) (e_s := (0, 1, 0, 0, 0, .int 1, [])) (y_s := (9, [some (.ref _), some (.int _), some (.int _)], [.int _, .int _], _)) rfl (u_ rfl) ?_
              refine wi2 (pc := 9) (len_s := 3) (Y := 1) rfl rfl (by decide) (fun c7_s => ?_) (fun c7_s => ?_)
              · replace t_s := t_s.1 c7_s
                refine w_t (pc := 18) (e_s := (0, 1, 0, 0, 0, .int (-1), [])) (y_s := (19, [some (.ref _), some (.int _), some (.int _)], [.int _], _)) rfl (u_ rfl) ?_
                exact wrI (pc := 19) (len_s := 1) rfl hk t_s
              · replace t_s := t_s.2 c7_s
                refine w_t (pc := 12) (e_s := (1, 1, 2, 0, 0, .null, [])) (y_s := (13, [some (.ref _), some (.int _), some (.int _)], [.int _], _)) rfl (u_ rfl) ?_
                refine w_t (pc := 13) (e_s := (0, 2, 0, 0, 0, .int 9, [])) (y_s := (15, [some (.ref _), some (.int _), some (.int _)], [.int _, .int _], _)) rfl (u_ rfl) ?_
                refine wi5 (pc := 15) (len_s := 3) (Y := 9) rfl rfl (by decide) (fun c8_s => ?_) (fun c8_s => ?_)
                · replace t_s := t_s.1 c8_s
                  refine w_t (pc := 18) (e_s := (0, 1, 0, 0, 0, .int (-1), [])) (y_s := (19, [some (.ref _), some (.int _), some (.int _)], [.int _], _)) rfl (u_ rfl) ?_
                  exact wrI (pc := 19) (len_s := 1) rfl hk t_s
                · replace t_s := t_s.2 c8_s
                  refine w_t (pc := 20) (e_s := (3, 1, 0, 0, 0, .null, [])) (y_s := (21, [some (.ref _), some (.int _), some (.int _)], [.ref _], _)) rfl (u_ rfl) ?_
                  refine w20r (pc := 21) (len_s := 3) (q_s := 7) rfl (krq hk rfl) ?_
                  refine w_t (pc := 24) (e_s := (1, 1, 1, 0, 0, .null, [])) (y_s := (25, [some (.ref _), some (.int _), some (.int _)], [.int _, .ref _], _)) rfl (u_ rfl) ?_
                  refine w_t (pc := 25) (e_s := (0, 2, 0, 0, 0, .int 10, [])) (y_s := (27, [some (.ref _), some (.int _), some (.int _)], [.int _, .int _, .ref _], _)) rfl (u_ rfl) ?_
                  refine w8 (pc := 27) (len_s := 1) rfl ?_
                  refine w_t (pc := 28) (e_s := (1, 1, 1, 0, 0, .null, [])) (y_s := (29, [some (.ref _), some (.int _), some (.int _)], [.int _, .int _, .ref _], _)) rfl (u_ rfl) ?_
                  refine w_t (pc := 29) (e_s := (0, 2, 0, 0, 0, .int 10, [])) (y_s := (31, [some (.ref _), some (.int _), some (.int _)], [.int _, .int _, .int _, .ref _], _)) rfl (u_ rfl) ?_
                  refine w8m (pc := 31) (len_s := 1) rfl ?_
                  refine w_t (pc := 32) (e_s := (1, 1, 2, 0, 0, .null, [])) (y_s := (33, [some (.ref _), some (.int _), some (.int _)], [.int _, .int _, .int _, .ref _], _)) rfl (u_ rfl) ?_
                  refine wcI (pc := 33) (len_s := 3) rfl rfl (l := [some (.ref _), some (.int _), some (.int _), some (.int _), none]) rfl ?_
                  refine w_t (pc := 0) (e_s := (3, 1, 0, 0, 0, .null, [])) (y_s := (1, [some (.ref _), some (.int _), some (.int _), some (.int _), none], [.ref _], _)) rfl (u_ rfl) ?_
                  refine w20 (pc := 1) (len_s := 3) rfl ?_
                  refine w_t (pc := 4) (e_s := (0, 2, 0, 0, 0, .int 12, [])) (y_s := (6, [some (.ref _), some (.int _), some (.int _), some (.int _), none], [.int _, .int _], _)) rfl (u_ rfl) ?_
                  refine wi2 (pc := 6) (len_s := 3) (Y := 12) rfl rfl (by decide) (fun c9_s => ?_) (fun c9_s => ?_)
                  · replace t_s := t_s.1 c9_s
                    refine w_t (pc := 12) (e_s := (3, 1, 0, 0, 0, .null, [])) (y_s := (13, [some (.ref _), some (.int _), some (.int _), some (.int _), none], [.ref _], _)) rfl (u_ rfl) ?_
                    refine w20r (pc := 13) (len_s := 3) (q_s := 11) rfl (krq hk rfl) ?_
                    refine w_t (pc := 16) (e_s := (3, 1, 0, 0, 0, .null, [])) (y_s := (17, [some (.ref _), some (.int _), some (.int _), some (.int _), none], [.ref _, .ref _], _)) rfl (u_ rfl) ?_
                    refine w20 (pc := 17) (len_s := 3) rfl ?_
                    refine w24 (g_s := fun j_ => 28 + j_) (pc := 20) (len_s := 1) hk rfl (hk.1 11 3 12 rfl rfl) kg11 (fun c10_s => ?_)
                    replace t_s := t_s c10_s
                    refine w_t (pc := 21) (e_s := (6, 2, 4, 0, 0, .null, [])) (y_s := (23, [some (.ref _), some (.int _), some (.int _), some (.int _), some (.ref _)], [], _)) rfl (u_ rfl) ?_
                    refine w_t (pc := 23) (e_s := (3, 2, 4, 0, 0, .null, [])) (y_s := (25, [some (.ref _), some (.int _), some (.int _), some (.int _), some (.ref _)], [.ref _], _)) rfl (u_ rfl) ?_
                    refine w_t (pc := 25) (e_s := (1, 1, 1, 0, 0, .null, [])) (y_s := (26, [some (.ref _), some (.int _), some (.int _), some (.int _), some (.ref _)], [.int _, .ref _], _)) rfl (u_ rfl) ?_
                    refine w21 (pc := 26) (len_s := 3) rfl ?_
                    refine w_t (pc := 29) (e_s := (3, 2, 4, 0, 0, .null, [])) (y_s := (31, [some (.ref _), some (.int _), some (.int _), some (.int _), some (.ref _)], [.ref _], _)) rfl (u_ rfl) ?_
                    refine w_t (pc := 31) (e_s := (1, 1, 2, 0, 0, .null, [])) (y_s := (32, [some (.ref _), some (.int _), some (.int _), some (.int _), some (.ref _)], [.int _, .ref _], _)) rfl (u_ rfl) ?_
                    refine w21 (pc := 32) (len_s := 3) rfl ?_
                    refine w_t (pc := 35) (e_s := (3, 2, 4, 0, 0, .null, [])) (y_s := (37, [some (.ref _), some (.int _), some (.int _), some (.int _), some (.ref _)], [.ref _], _)) rfl (u_ rfl) ?_
                    refine w_t (pc := 37) (e_s := (1, 1, 3, 0, 0, .null, [])) (y_s := (38, [some (.ref _), some (.int _), some (.int _), some (.int _), some (.ref _)], [.int _, .ref _], _)) rfl (u_ rfl) ?_
                    refine w21 (pc := 38) (len_s := 3) rfl ?_
                    refine w_t (pc := 41) (e_s := (3, 1, 0, 0, 0, .null, [])) (y_s := (42, [some (.ref _), some (.int _), some (.int _), some (.int _), some (.ref _)], [.ref _], _)) rfl (u_ rfl) ?_
                    refine w_t (pc := 42) (e_s := (39, 1, 0, 0, 0, .null, [])) (y_s := (43, [some (.ref _), some (.int _), some (.int _), some (.int _), some (.ref _)], [.ref _, .ref _], _)) rfl (u_ rfl) ?_
                    refine w20 (pc := 43) (len_s := 3) rfl ?_
                    refine w_t (pc := 46) (e_s := (40, 1, 0, 0, 0, .null, [])) (y_s := (47, [some (.ref _), some (.int _), some (.int _), some (.int _), some (.ref _)], [.int _, .ref _, .int _], _)) rfl (u_ rfl) ?_
                    refine w_t (pc := 47) (e_s := (0, 1, 0, 0, 0, .int 1, [])) (y_s := (48, [some (.ref _), some (.int _), some (.int _), some (.int _), some (.ref _)], [.int _, .int _, .ref _, .int _], _)) rfl (u_ rfl) ?_
                    refine w_t (pc := 48) (e_s := (7, 1, 0, 0, 0, .null, [])) (y_s := (49, [some (.ref _), some (.int _), some (.int _), some (.int _), some (.ref _)], [.int (_ + _), .ref _, .int _], _)) rfl (u_ rfl) ?_
                    refine w21 (pc := 49) (len_s := 3) rfl ?_
                    refine wrI (pc := 52) (len_s := 1) rfl hk ?_
                    show wF _ 95 (36, [some (.ref _), some (.int _), some (.int _)], [.int _], _) _
                    exact wrI (pc := 36) (len_s := 1) rfl hk t_s
                  · replace t_s := t_s.2 c9_s
                    refine w_t (pc := 9) (e_s := (0, 2, 0, 0, 0, .int (-3), [])) (y_s := (11, [some (.ref _), some (.int _), some (.int _), some (.int _), none], [.int _], _)) rfl (u_ rfl) ?_
                    refine wrI (pc := 11) (len_s := 1) rfl hk ?_
                    show wF _ 95 (36, [some (.ref _), some (.int _), some (.int _)], [.int _], _) _
                    exact wrI (pc := 36) (len_s := 1) rfl hk t_s
          · replace t_s := t_s.2 c5_s
            refine w_t (pc := 18) (e_s := (0, 1, 0, 0, 0, .int 0, [])) (y_s := (19, [some (.long _), none], [.int _], _)) rfl (u_ rfl) ?_
            refine wrI (pc := 19) (len_s := 1) rfl hk ?_
            show wF _ 138 (23, [some (.int _)], [.int _], _) _
            refine w_t (pc := 23) (e_s := (15, 3, 41, 0, 0, .null, [])) (y_s := (41, [some (.int _)], [], _)) rfl (u_ rfl) ?_
            refine w_t (pc := 41) (e_s := (0, 1, 0, 0, 0, .int 0, [])) (y_s := (42, [some (.int _)], [.int _], _)) rfl (u_ rfl) ?_
            refine wrI (pc := 42) (len_s := 1) rfl hk ?_
            show wF _ 95 (4, [some (.ref _), some (.int _), some (.int _)], [.int _], _) _
            refine w_t (pc := 4) (e_s := (15, 3, 18, 0, 0, .null, [])) (y_s := (18, [some (.ref _), some (.int _), some (.int _)], [], _)) rfl (u_ rfl) ?_
            refine w_t (pc := 18) (e_s := (0, 1, 0, 0, 0, .int (-1), [])) (y_s := (19, [some (.ref _), some (.int _), some (.int _)], [.int _], _)) rfl (u_ rfl) ?_
            exact wrI (pc := 19) (len_s := 1) rfl hk t_s
      · replace t_s := t_s.2 c3_s
        refine w_t (pc := 18) (e_s := (0, 1, 0, 0, 0, .int 0, [])) (y_s := (19, [some (.long _), none], [.int _], _)) rfl (u_ rfl) ?_
        refine wrI (pc := 19) (len_s := 1) rfl hk ?_
        show wF _ 138 (12, [some (.int _)], [.int _], _) _
        refine w_t (pc := 12) (e_s := (15, 3, 41, 0, 0, .null, [])) (y_s := (41, [some (.int _)], [], _)) rfl (u_ rfl) ?_
        refine w_t (pc := 41) (e_s := (0, 1, 0, 0, 0, .int 0, [])) (y_s := (42, [some (.int _)], [.int _], _)) rfl (u_ rfl) ?_
        refine wrI (pc := 42) (len_s := 1) rfl hk ?_
        show wF _ 95 (4, [some (.ref _), some (.int _), some (.int _)], [.int _], _) _
        refine w_t (pc := 4) (e_s := (15, 3, 18, 0, 0, .null, [])) (y_s := (18, [some (.ref _), some (.int _), some (.int _)], [], _)) rfl (u_ rfl) ?_
        refine w_t (pc := 18) (e_s := (0, 1, 0, 0, 0, .int (-1), [])) (y_s := (19, [some (.ref _), some (.int _), some (.int _)], [.int _], _)) rfl (u_ rfl) ?_
        exact wrI (pc := 19) (len_s := 1) rfl hk t_s
/-- ColdShodModel.road(II)I, from 0 on -/
theorem sg_159_0 {F_s : Nat} {x1_s : Int32} {x2_s : Int32} {h_s : zH} {K_s : Int32 → zH → Prop} (hk : hKn h_s) (t_s : (x1_s.toInt < 0 → K_s (-1) h_s) ∧ (¬ x1_s.toInt < 0 → (((x1_s / 10).toInt < 0 → K_s (-1) h_s) ∧ (¬ (x1_s / 10).toInt < 0 → ((7 < (x1_s / 10).toInt → K_s (-1) h_s) ∧ (¬ 7 < (x1_s / 10).toInt → (((x1_s - x1_s / 10 * 10).toInt < 0 → K_s (-1) h_s) ∧ (¬ (x1_s - x1_s / 10 * 10).toInt < 0 → ((7 < (x1_s - x1_s / 10 * 10).toInt → K_s (-1) h_s) ∧ (¬ 7 < (x1_s - x1_s / 10 * 10).toInt → (((x1_s / 10).toInt = (x1_s - x1_s / 10 * 10).toInt → K_s (-1) h_s) ∧ (¬ (x1_s / 10).toInt = (x1_s - x1_s / 10 * 10).toInt → ((x2_s.toInt < 1 → K_s (-1) h_s) ∧ (¬ x2_s.toInt < 1 → ((9 < x2_s.toInt → K_s (-1) h_s) ∧ (¬ 9 < x2_s.toInt → (((h_s.2.1 102 8).toInt = 12 → K_s (-3) h_s) ∧ (¬ (h_s.2.1 102 8).toInt = 12 → (zix (h_s.2.1 102 8) < 12 → (zix (68 + (h_s.2.1 102 8)) < 104 → K_s (((h_s.2.1 102 8) + 1) - 1) (h_s.1, zup (zup (zup (zup h_s.2.1 107 (zix (h_s.2.1 102 8)) (x1_s / 10)) 108 (zix (h_s.2.1 102 8)) (x1_s - x1_s / 10 * 10)) 103 (zix (68 + (h_s.2.1 102 8))) x2_s) 102 8 ((h_s.2.1 102 8) + 1), h_s.2.2.1, h_s.2.2.2))))))))))))))))))))) : wF (F_s + 1) 159 (0, [some (.ref 102), some (.int x1_s), some (.int x2_s)], [], h_s) (gI K_s) := by
  refine w_0 (pc := 0) (e_s := (1, 1, 1, 0, 0, .null, [])) (y_s := (1, [some (.ref _), some (.int _), some (.int _)], [.int _], _)) rfl (u_ rfl) ?_
  refine wq2 (pc := 1) (len_s := 3) rfl rfl (fun c1_s => ?_) (fun c1_s => ?_)
  · replace t_s := t_s.1 c1_s
    refine w_t (pc := 22) (e_s := (0, 1, 0, 0, 0, .int (-1), [])) (y_s := (23, [some (.ref _), some (.int _), some (.int _)], [.int _], _)) rfl (u_ rfl) ?_
    exact wrI (pc := 23) (len_s := 1) rfl hk t_s
  · replace t_s := t_s.2 c1_s
    refine w_t (pc := 4) (e_s := (1, 1, 1, 0, 0, .null, [])) (y_s := (5, [some (.ref _), some (.int _), some (.int _)], [.int _], _)) rfl (u_ rfl) ?_
    refine w_t (pc := 5) (e_s := (0, 2, 0, 0, 0, .int 10, [])) (y_s := (7, [some (.ref _), some (.int _), some (.int _)], [.int _, .int _], _)) rfl (u_ rfl) ?_
    refine w8 (pc := 7) (len_s := 1) rfl ?_
    refine w_t (pc := 8) (e_s := (10, 1, 0, 0, 0, .null, [])) (y_s := (9, [some (.ref _), some (.int _), some (.int _)], [.long (Int32.toInt64 _)], _)) rfl (u_ rfl) ?_
    refine w_t (pc := 9) (e_s := (1, 1, 1, 0, 0, .null, [])) (y_s := (10, [some (.ref _), some (.int _), some (.int _)], [.int _, .long _], _)) rfl (u_ rfl) ?_
    refine w_t (pc := 10) (e_s := (0, 2, 0, 0, 0, .int 10, [])) (y_s := (12, [some (.ref _), some (.int _), some (.int _)], [.int _, .int _, .long _], _)) rfl (u_ rfl) ?_
    refine w8m (pc := 12) (len_s := 1) rfl ?_
    refine w_t (pc := 13) (e_s := (10, 1, 0, 0, 0, .null, [])) (y_s := (14, [some (.ref _), some (.int _), some (.int _)], [.long (Int32.toInt64 _), .long _], _)) rfl (u_ rfl) ?_
    refine w_t (pc := 14) (e_s := (1, 1, 2, 0, 0, .null, [])) (y_s := (15, [some (.ref _), some (.int _), some (.int _)], [.int _, .long _, .long _], _)) rfl (u_ rfl) ?_
    refine w_t (pc := 15) (e_s := (10, 1, 0, 0, 0, .null, [])) (y_s := (16, [some (.ref _), some (.int _), some (.int _)], [.long (Int32.toInt64 _), .long _, .long _], _)) rfl (u_ rfl) ?_
    refine wcI (pc := 16) (len_s := 3) rfl rfl (l := [some (.long _), none, some (.long _), none, some (.long _), none]) rfl ?_
    refine w_t (pc := 0) (e_s := (2, 1, 0, 0, 0, .null, [])) (y_s := (1, [some (.long _), none, some (.long _), none, some (.long _), none], [.long _], _)) rfl (u_ rfl) ?_
    refine wcI (pc := 1) (len_s := 3) rfl rfl (l := [some (.long _), none]) rfl ?_
    refine w_t (pc := 0) (e_s := (2, 1, 0, 0, 0, .null, [])) (y_s := (1, [some (.long _), none], [.long _], _)) rfl (u_ rfl) ?_
    refine w_t (pc := 1) (e_s := (0, 1, 0, 0, 0, .long 0, [])) (y_s := (2, [some (.long _), none], [.long _, .long _], _)) rfl (u_ rfl) ?_
    refine w_t (pc := 2) (e_s := (0, 3, 0, 0, 0, .long 7, [(0, 1062)])) (y_s := (5, [some (.long _), none], [.long _, .long _, .long _], _)) rfl (u_ rfl) ?_
    refine wcI (pc := 5) (len_s := 3) rfl rfl (l := [some (.long _), none, some (.long _), none, some (.long _), none]) rfl ?_
    refine w_t (pc := 0) (e_s := (2, 1, 0, 0, 0, .null, [])) (y_s := (1, [some (.long _), none, some (.long _), none, some (.long _), none], [.long _], _)) rfl (u_ rfl) ?_
    refine w_t (pc := 1) (e_s := (2, 1, 2, 0, 0, .null, [])) (y_s := (2, [some (.long _), none, some (.long _), none, some (.long _), none], [.long _, .long _], _)) rfl (u_ rfl) ?_
    refine w_t (pc := 2) (e_s := (14, 1, 0, 0, 0, .null, [])) (y_s := (3, [some (.long _), none, some (.long _), none, some (.long _), none], [.int (lg_cmp _ _)], _)) rfl (u_ rfl) ?_
    refine wl2 (pc := 3) (len_s := 3) (Y := 0) rfl (Int32.toInt_toInt64 _) (by decide) (fun c2_s => ?_) (fun c2_s => ?_)
    · replace t_s := t_s.1 c2_s
      refine w_t (pc := 17) (e_s := (0, 1, 0, 0, 0, .int 0, [])) (y_s := (18, [some (.long _), none, some (.long _), none, some (.long _), none], [.int _], _)) rfl (u_ rfl) ?_
      refine wrI (pc := 18) (len_s := 1) rfl hk ?_
      show wF _ 154 (8, [some (.long _), none], [.int _], _) _
      refine wrI (pc := 8) (len_s := 1) rfl hk ?_
      show wF _ 157 (4, [some (.long _), none, some (.long _), none, some (.long _), none], [.int _], _) _
      refine w_t (pc := 4) (e_s := (15, 3, 36, 0, 0, .null, [])) (y_s := (36, [some (.long _), none, some (.long _), none, some (.long _), none], [], _)) rfl (u_ rfl) ?_
      refine w_t (pc := 36) (e_s := (0, 1, 0, 0, 0, .int 0, [])) (y_s := (37, [some (.long _), none, some (.long _), none, some (.long _), none], [.int _], _)) rfl (u_ rfl) ?_
      refine wrI (pc := 37) (len_s := 1) rfl hk ?_
      show wF _ 159 (19, [some (.ref _), some (.int _), some (.int _)], [.int _], _) _
      refine w_t (pc := 19) (e_s := (15, 3, 24, 1, 0, .null, [])) (y_s := (22, [some (.ref _), some (.int _), some (.int _)], [], _)) rfl (u_ rfl) ?_
      refine w_t (pc := 22) (e_s := (0, 1, 0, 0, 0, .int (-1), [])) (y_s := (23, [some (.ref _), some (.int _), some (.int _)], [.int _], _)) rfl (u_ rfl) ?_
      exact wrI (pc := 23) (len_s := 1) rfl hk t_s
    · replace t_s := t_s.2 c2_s
      refine w_t (pc := 6) (e_s := (2, 1, 0, 0, 0, .null, [])) (y_s := (7, [some (.long _), none, some (.long _), none, some (.long _), none], [.long _], _)) rfl (u_ rfl) ?_
      refine w_t (pc := 7) (e_s := (2, 2, 4, 0, 0, .null, [])) (y_s := (9, [some (.long _), none, some (.long _), none, some (.long _), none], [.long _, .long _], _)) rfl (u_ rfl) ?_
      refine w_t (pc := 9) (e_s := (14, 1, 0, 0, 0, .null, [])) (y_s := (10, [some (.long _), none, some (.long _), none, some (.long _), none], [.int (lg_cmp _ _)], _)) rfl (u_ rfl) ?_
      refine wl4 (pc := 10) (len_s := 3) (Y := 7) rfl (Int32.toInt_toInt64 _) (by decide) (fun c3_s => ?_) (fun c3_s => ?_)
      · replace t_s := t_s.1 c3_s
        refine w_t (pc := 17) (e_s := (0, 1, 0, 0, 0, .int 0, [])) (y_s := (18, [some (.long _), none, some (.long _), none, some (.long _), none], [.int _], _)) rfl (u_ rfl) ?_
        refine wrI (pc := 18) (len_s := 1) rfl hk ?_
        show wF _ 154 (8, [some (.long _), none], [.int _], _) _
        refine wrI (pc := 8) (len_s := 1) rfl hk ?_
        show wF _ 157 (4, [some (.long _), none, some (.long _), none, some (.long _), none], [.int _], _) _
        refine w_t (pc := 4) (e_s := (15, 3, 36, 0, 0, .null, [])) (y_s := (36, [some (.long _), none, some (.long _), none, some (.long _), none], [], _)) rfl (u_ rfl) ?_
        refine w_t (pc := 36) (e_s := (0, 1, 0, 0, 0, .int 0, [])) (y_s := (37, [some (.long _), none, some (.long _), none, some (.long _), none], [.int _], _)) rfl (u_ rfl) ?_
        refine wrI (pc := 37) (len_s := 1) rfl hk ?_
        show wF _ 159 (19, [some (.ref _), some (.int _), some (.int _)], [.int _], _) _
        refine w_t (pc := 19) (e_s := (15, 3, 24, 1, 0, .null, [])) (y_s := (22, [some (.ref _), some (.int _), some (.int _)], [], _)) rfl (u_ rfl) ?_
        refine w_t (pc := 22) (e_s := (0, 1, 0, 0, 0, .int (-1), [])) (y_s := (23, [some (.ref _), some (.int _), some (.int _)], [.int _], _)) rfl (u_ rfl) ?_
        exact wrI (pc := 23) (len_s := 1) rfl hk t_s
      · replace t_s := t_s.2 c3_s
        refine w_t (pc := 13) (e_s := (0, 1, 0, 0, 0, .int 1, [])) (y_s := (14, [some (.long _), none, some (.long _), none, some (.long _), none], [.int _], _)) rfl (u_ rfl) ?_
        refine w_t (pc := 14) (e_s := (17, 3, 18, 0, 0, .null, [])) (y_s := (18, [some (.long _), none, some (.long _), none, some (.long _), none], [.int _], _)) rfl (u_ rfl) ?_
        refine wrI (pc := 18) (len_s := 1) rfl hk ?_
        show wF _ 154 (8, [some (.long _), none], [.int _], _) _
        refine wrI (pc := 8) (len_s := 1) rfl hk ?_
        show wF _ 157 (4, [some (.long _), none, some (.long _), none, some (.long _), none], [.int _], _) _
        refine w_t (pc := 4) (e_s := (15, 3, 36, 0, 0, .null, [])) (y_s := (7, [some (.long _), none, some (.long _), none, some (.long _), none], [], _)) rfl (u_ rfl) ?_
        refine w_t (pc := 7) (e_s := (2, 1, 2, 0, 0, .null, [])) (y_s := (8, [some (.long _), none, some (.long _), none, some (.long _), none], [.long _], _)) rfl (u_ rfl) ?_
        refine wcI (pc := 8) (len_s := 3) rfl rfl (l := [some (.long _), none]) rfl ?_
        refine w_t (pc := 0) (e_s := (2, 1, 0, 0, 0, .null, [])) (y_s := (1, [some (.long _), none], [.long _], _)) rfl (u_ rfl) ?_
        refine w_t (pc := 1) (e_s := (0, 1, 0, 0, 0, .long 0, [])) (y_s := (2, [some (.long _), none], [.long _, .long _], _)) rfl (u_ rfl) ?_
        refine w_t (pc := 2) (e_s := (0, 3, 0, 0, 0, .long 7, [(0, 1062)])) (y_s := (5, [some (.long _), none], [.long _, .long _, .long _], _)) rfl (u_ rfl) ?_
        refine wcI (pc := 5) (len_s := 3) rfl rfl (l := [some (.long _), none, some (.long _), none, some (.long _), none]) rfl ?_
        refine w_t (pc := 0) (e_s := (2, 1, 0, 0, 0, .null, [])) (y_s := (1, [some (.long _), none, some (.long _), none, some (.long _), none], [.long _], _)) rfl (u_ rfl) ?_
        refine w_t (pc := 1) (e_s := (2, 1, 2, 0, 0, .null, [])) (y_s := (2, [some (.long _), none, some (.long _), none, some (.long _), none], [.long _, .long _], _)) rfl (u_ rfl) ?_
        refine w_t (pc := 2) (e_s := (14, 1, 0, 0, 0, .null, [])) (y_s := (3, [some (.long _), none, some (.long _), none, some (.long _), none], [.int (lg_cmp _ _)], _)) rfl (u_ rfl) ?_
        refine wl2 (pc := 3) (len_s := 3) (Y := 0) rfl (Int32.toInt_toInt64 _) (by decide) (fun c4_s => ?_) (fun c4_s => ?_)
        · replace t_s := t_s.1 c4_s
          refine w_t (pc := 17) (e_s := (0, 1, 0, 0, 0, .int 0, [])) (y_s := (18, [some (.long _), none, some (.long _), none, some (.long _), none], [.int _], _)) rfl (u_ rfl) ?_
          refine wrI (pc := 18) (len_s := 1) rfl hk ?_
          show wF _ 154 (8, [some (.long _), none], [.int _], _) _
          refine wrI (pc := 8) (len_s := 1) rfl hk ?_
          show wF _ 157 (11, [some (.long _), none, some (.long _), none, some (.long _), none], [.int _], _) _
          refine w_t (pc := 11) (e_s := (15, 3, 36, 0, 0, .null, [])) (y_s := (36, [some (.long _), none, some (.long _), none, some (.long _), none], [], _)) rfl (u_ rfl) ?_
          refine w_t (pc := 36) (e_s := (0, 1, 0, 0, 0, .int 0, [])) (y_s := (37, [some (.long _), none, some (.long _), none, some (.long _), none], [.int _], _)) rfl (u_ rfl) ?_
          refine wrI (pc := 37) (len_s := 1) rfl hk ?_
          show wF _ 159 (19, [some (.ref _), some (.int _), some (.int _)], [.int _], _) _
          refine w_t (pc := 19) (e_s := (15, 3, 24, 1, 0, .null, [])) (y_s := (22, [some (.ref _), some (.int _), some (.int _)], [], _)) rfl (u_ rfl) ?_
          refine w_t (pc := 22) (e_s := (0, 1, 0, 0, 0, .int (-1), [])) (y_s := (23, [some (.ref _), some (.int _), some (.int _)], [.int _], _)) rfl (u_ rfl) ?_
          exact wrI (pc := 23) (len_s := 1) rfl hk t_s
        · replace t_s := t_s.2 c4_s
          refine w_t (pc := 6) (e_s := (2, 1, 0, 0, 0, .null, [])) (y_s := (7, [some (.long _), none, some (.long _), none, some (.long _), none], [.long _], _)) rfl (u_ rfl) ?_
          refine w_t (pc := 7) (e_s := (2, 2, 4, 0, 0, .null, [])) (y_s := (9, [some (.long _), none, some (.long _), none, some (.long _), none], [.long _, .long _], _)) rfl (u_ rfl) ?_
          refine w_t (pc := 9) (e_s := (14, 1, 0, 0, 0, .null, [])) (y_s := (10, [some (.long _), none, some (.long _), none, some (.long _), none], [.int (lg_cmp _ _)], _)) rfl (u_ rfl) ?_
          refine wl4 (pc := 10) (len_s := 3) (Y := 7) rfl (Int32.toInt_toInt64 _) (by decide) (fun c5_s => ?_) (fun c5_s => ?_)
          · replace t_s := t_s.1 c5_s
            refine w_t (pc := 17) (e_s := (0, 1, 0, 0, 0, .int 0, [])) (y_s := (18, [some (.long _), none, some (.long _), none, some (.long _), none], [.int _], _)) rfl (u_ rfl) ?_
            refine wrI (pc := 18) (len_s := 1) rfl hk ?_
            show wF _ 154 (8, [some (.long _), none], [.int _], _) _
            refine wrI (pc := 8) (len_s := 1) rfl hk ?_
            show wF _ 157 (11, [some (.long _), none, some (.long _), none, some (.long _), none], [.int _], _) _
            refine w_t (pc := 11) (e_s := (15, 3, 36, 0, 0, .null, [])) (y_s := (36, [some (.long _), none, some (.long _), none, some (.long _), none], [], _)) rfl (u_ rfl) ?_
            refine w_t (pc := 36) (e_s := (0, 1, 0, 0, 0, .int 0, [])) (y_s := (37, [some (.long _), none, some (.long _), none, some (.long _), none], [.int _], _)) rfl (u_ rfl) ?_
            refine wrI (pc := 37) (len_s := 1) rfl hk ?_
            show wF _ 159 (19, [some (.ref _), some (.int _), some (.int _)], [.int _], _) _
            refine w_t (pc := 19) (e_s := (15, 3, 24, 1, 0, .null, [])) (y_s := (22, [some (.ref _), some (.int _), some (.int _)], [], _)) rfl (u_ rfl) ?_
            refine w_t (pc := 22) (e_s := (0, 1, 0, 0, 0, .int (-1), [])) (y_s := (23, [some (.ref _), some (.int _), some (.int _)], [.int _], _)) rfl (u_ rfl) ?_
            exact wrI (pc := 23) (len_s := 1) rfl hk t_s
          · replace t_s := t_s.2 c5_s
            refine w_t (pc := 13) (e_s := (0, 1, 0, 0, 0, .int 1, [])) (y_s := (14, [some (.long _), none, some (.long _), none, some (.long _), none], [.int _], _)) rfl (u_ rfl) ?_
            refine w_t (pc := 14) (e_s := (17, 3, 18, 0, 0, .null, [])) (y_s := (18, [some (.long _), none, some (.long _), none, some (.long _), none], [.int _], _)) rfl (u_ rfl) ?_
            refine wrI (pc := 18) (len_s := 1) rfl hk ?_
            show wF _ 154 (8, [some (.long _), none], [.int _], _) _
            refine wrI (pc := 8) (len_s := 1) rfl hk ?_
            show wF _ 157 (11, [some (.long _), none, some (.long _), none, some (.long _), none], [.int _], _) _
            refine w_t (pc := 11) (e_s := (15, 3, 36, 0, 0, .null, [])) (y_s := (14, [some (.long _), none, some (.long _), none, some (.long _), none], [], _)) rfl (u_ rfl) ?_
            refine w_t (pc := 14) (e_s := (2, 1, 0, 0, 0, .null, [])) (y_s := (15, [some (.long _), none, some (.long _), none, some (.long _), none], [.long _], _)) rfl (u_ rfl) ?_
            refine w_t (pc := 15) (e_s := (2, 1, 2, 0, 0, .null, [])) (y_s := (16, [some (.long _), none, some (.long _), none, some (.long _), none], [.long _, .long _], _)) rfl (u_ rfl) ?_
            refine w_t (pc := 16) (e_s := (14, 1, 0, 0, 0, .null, [])) (y_s := (17, [some (.long _), none, some (.long _), none, some (.long _), none], [.int (lg_cmp _ _)], _)) rfl (u_ rfl) ?_
            refine wl0 (pc := 17) (len_s := 3) rfl (Int32.toInt_toInt64 _) (Int32.toInt_toInt64 _) (fun c6_s => ?_) (fun c6_s => ?_)
            · replace t_s := t_s.1 c6_s
              refine w_t (pc := 36) (e_s := (0, 1, 0, 0, 0, .int 0, [])) (y_s := (37, [some (.long _), none, some (.long _), none, some (.long _), none], [.int _], _)) rfl (u_ rfl) ?_
              refine wrI (pc := 37) (len_s := 1) rfl hk ?_
              show wF _ 159 (19, [some (.ref _), some (.int _), some (.int _)], [.int _], _) _
              refine w_t (pc := 19) (e_s := (15, 3, 24, 1, 0, .null, [])) (y_s := (22, [some (.ref _), some (.int _), some (.int _)], [], _)) rfl (u_ rfl) ?_
              refine w_t (pc := 22) (e_s := (0, 1, 0, 0, 0, .int (-1), [])) (y_s := (23, [some (.ref _), some (.int _), some (.int _)], [.int _], _)) rfl (u_ rfl) ?_
              exact wrI (pc := 23) (len_s := 1) rfl hk t_s
            · replace t_s := t_s.2 c6_s
              refine w_t (pc := 20) (e_s := (2, 2, 4, 0, 0, .null, [])) (y_s := (22, [some (.long _), none, some (.long _), none, some (.long _), none], [.long _], _)) rfl (u_ rfl) ?_
              refine w_t (pc := 22) (e_s := (0, 1, 0, 0, 0, .long 1, [])) (y_s := (23, [some (.long _), none, some (.long _), none, some (.long _), none], [.long _, .long _], _)) rfl (u_ rfl) ?_
              refine w_t (pc := 23) (e_s := (0, 3, 0, 0, 0, .long 9, [(0, 1066)])) (y_s := (26, [some (.long _), none, some (.long _), none, some (.long _), none], [.long _, .long _, .long _], _)) rfl (u_ rfl) ?_
              refine wcI (pc := 26) (len_s := 3) rfl rfl (l := [some (.long _), none, some (.long _), none, some (.long _), none]) rfl ?_
              refine w_t (pc := 0) (e_s := (2, 1, 0, 0, 0, .null, [])) (y_s := (1, [some (.long _), none, some (.long _), none, some (.long _), none], [.long _], _)) rfl (u_ rfl) ?_
              refine w_t (pc := 1) (e_s := (2, 1, 2, 0, 0, .null, [])) (y_s := (2, [some (.long _), none, some (.long _), none, some (.long _), none], [.long _, .long _], _)) rfl (u_ rfl) ?_
              refine w_t (pc := 2) (e_s := (14, 1, 0, 0, 0, .null, [])) (y_s := (3, [some (.long _), none, some (.long _), none, some (.long _), none], [.int (lg_cmp _ _)], _)) rfl (u_ rfl) ?_
              refine wl2 (pc := 3) (len_s := 3) (Y := 1) rfl (Int32.toInt_toInt64 _) (by decide) (fun c7_s => ?_) (fun c7_s => ?_)
              · replace t_s := t_s.1 c7_s
                refine w_t (pc := 17) (e_s := (0, 1, 0, 0, 0, .int 0, [])) (y_s := (18, [some (.long _), none, some (.long _), none, some (.long _), none], [.int _], _)) rfl (u_ rfl) ?_
                refine wrI (pc := 18) (len_s := 1) rfl hk ?_
                show wF _ 157 (29, [some (.long _), none, some (.long _), none, some (.long _), none], [.int _], _) _
                refine w_t (pc := 29) (e_s := (15, 3, 36, 0, 0, .null, [])) (y_s := (36, [some (.long _), none, some (.long _), none, some (.long _), none], [], _)) rfl (u_ rfl) ?_
                refine w_t (pc := 36) (e_s := (0, 1, 0, 0, 0, .int 0, [])) (y_s := (37, [some (.long _), none, some (.long _), none, some (.long _), none], [.int _], _)) rfl (u_ rfl) ?_
                refine wrI (pc := 37) (len_s := 1) rfl hk ?_
                show wF _ 159 (19, [some (.ref _), some (.int _), some (.int _)], [.int _], _) _
                refine w_t (pc := 19) (e_s := (15, 3, 24, 1, 0, .null, [])) (y_s := (22, [some (.ref _), some (.int _), some (.int _)], [], _)) rfl (u_ rfl) ?_
                refine w_t (pc := 22) (e_s := (0, 1, 0, 0, 0, .int (-1), [])) (y_s := (23, [some (.ref _), some (.int _), some (.int _)], [.int _], _)) rfl (u_ rfl) ?_
                exact wrI (pc := 23) (len_s := 1) rfl hk t_s
              · replace t_s := t_s.2 c7_s
                refine w_t (pc := 6) (e_s := (2, 1, 0, 0, 0, .null, [])) (y_s := (7, [some (.long _), none, some (.long _), none, some (.long _), none], [.long _], _)) rfl (u_ rfl) ?_
                refine w_t (pc := 7) (e_s := (2, 2, 4, 0, 0, .null, [])) (y_s := (9, [some (.long _), none, some (.long _), none, some (.long _), none], [.long _, .long _], _)) rfl (u_ rfl) ?_
                refine w_t (pc := 9) (e_s := (14, 1, 0, 0, 0, .null, [])) (y_s := (10, [some (.long _), none, some (.long _), none, some (.long _), none], [.int (lg_cmp _ _)], _)) rfl (u_ rfl) ?_
                refine wl4 (pc := 10) (len_s := 3) (Y := 9) rfl (Int32.toInt_toInt64 _) (by decide) (fun c8_s => ?_) (fun c8_s => ?_)
                · replace t_s := t_s.1 c8_s
                  refine w_t (pc := 17) (e_s := (0, 1, 0, 0, 0, .int 0, [])) (y_s := (18, [some (.long _), none, some (.long _), none, some (.long _), none], [.int _], _)) rfl (u_ rfl) ?_
                  refine wrI (pc := 18) (len_s := 1) rfl hk ?_
                  show wF _ 157 (29, [some (.long _), none, some (.long _), none, some (.long _), none], [.int _], _) _
                  refine w_t (pc := 29) (e_s := (15, 3, 36, 0, 0, .null, [])) (y_s := (36, [some (.long _), none, some (.long _), none, some (.long _), none], [], _)) rfl (u_ rfl) ?_
                  refine w_t (pc := 36) (e_s := (0, 1, 0, 0, 0, .int 0, [])) (y_s := (37, [some (.long _), none, some (.long _), none, some (.long _), none], [.int _], _)) rfl (u_ rfl) ?_
                  refine wrI (pc := 37) (len_s := 1) rfl hk ?_
                  show wF _ 159 (19, [some (.ref _), some (.int _), some (.int _)], [.int _], _) _
                  refine w_t (pc := 19) (e_s := (15, 3, 24, 1, 0, .null, [])) (y_s := (22, [some (.ref _), some (.int _), some (.int _)], [], _)) rfl (u_ rfl) ?_
                  refine w_t (pc := 22) (e_s := (0, 1, 0, 0, 0, .int (-1), [])) (y_s := (23, [some (.ref _), some (.int _), some (.int _)], [.int _], _)) rfl (u_ rfl) ?_
                  exact wrI (pc := 23) (len_s := 1) rfl hk t_s
                · replace t_s := t_s.2 c8_s
                  refine w_t (pc := 13) (e_s := (0, 1, 0, 0, 0, .int 1, [])) (y_s := (14, [some (.long _), none, some (.long _), none, some (.long _), none], [.int _], _)) rfl (u_ rfl) ?_
                  refine w_t (pc := 14) (e_s := (17, 3, 18, 0, 0, .null, [])) (y_s := (18, [some (.long _), none, some (.long _), none, some (.long _), none], [.int _], _)) rfl (u_ rfl) ?_
                  refine wrI (pc := 18) (len_s := 1) rfl hk ?_
                  show wF _ 157 (29, [some (.long _), none, some (.long _), none, some (.long _), none], [.int _], _) _
                  refine w_t (pc := 29) (e_s := (15, 3, 36, 0, 0, .null, [])) (y_s := (32, [some (.long _), none, some (.long _), none, some (.long _), none], [], _)) rfl (u_ rfl) ?_
                  refine w_t (pc := 32) (e_s := (0, 1, 0, 0, 0, .int 1, [])) (y_s := (33, [some (.long _), none, some (.long _), none, some (.long _), none], [.int _], _)) rfl (u_ rfl) ?_
                  refine w_t (pc := 33) (e_s := (17, 3, 37, 0, 0, .null, [])) (y_s := (37, [some (.long _), none, some (.long _), none, some (.long _), none], [.int _], _)) rfl (u_ rfl) ?_
                  refine wrI (pc := 37) (len_s := 1) rfl hk ?_
                  show wF _ 159 (19, [some (.ref _), some (.int _), some (.int _)], [.int _], _) _
                  refine w_t (pc := 19) (e_s := (15, 3, 24, 1, 0, .null, [])) (y_s := (24, [some (.ref _), some (.int _), some (.int _)], [], _)) rfl (u_ rfl) ?_
                  refine w_t (pc := 24) (e_s := (3, 1, 0, 0, 0, .null, [])) (y_s := (25, [some (.ref _), some (.int _), some (.int _)], [.ref _], _)) rfl (u_ rfl) ?_
                  refine w20 (pc := 25) (len_s := 3) rfl ?_
                  refine w_t (pc := 28) (e_s := (0, 2, 0, 0, 0, .int 12, [])) (y_s := (30, [some (.ref _), some (.int _), some (.int _)], [.int _, .int _], _)) rfl (u_ rfl) ?_
                  refine wi1 (pc := 30) (len_s := 3) (Y := 12) rfl rfl (by decide) (fun c9_s => ?_) (fun c9_s => ?_)
                  · replace t_s := t_s.1 c9_s
                    refine w_t (pc := 33) (e_s := (0, 2, 0, 0, 0, .int (-3), [])) (y_s := (35, [some (.ref _), some (.int _), some (.int _)], [.int _], _)) rfl (u_ rfl) ?_
                    exact wrI (pc := 35) (len_s := 1) rfl hk t_s
                  · replace t_s := t_s.2 c9_s
                    refine w_t (pc := 36) (e_s := (3, 1, 0, 0, 0, .null, [])) (y_s := (37, [some (.ref _), some (.int _), some (.int _)], [.ref _], _)) rfl (u_ rfl) ?_
                    refine w_t (pc := 37) (e_s := (1, 1, 1, 0, 0, .null, [])) (y_s := (38, [some (.ref _), some (.int _), some (.int _)], [.int _, .ref _], _)) rfl (u_ rfl) ?_
                    refine w_t (pc := 38) (e_s := (0, 2, 0, 0, 0, .int 10, [])) (y_s := (40, [some (.ref _), some (.int _), some (.int _)], [.int _, .int _, .ref _], _)) rfl (u_ rfl) ?_
                    refine w8 (pc := 40) (len_s := 1) rfl ?_
                    refine w_t (pc := 41) (e_s := (1, 1, 1, 0, 0, .null, [])) (y_s := (42, [some (.ref _), some (.int _), some (.int _)], [.int _, .int _, .ref _], _)) rfl (u_ rfl) ?_
                    refine w_t (pc := 42) (e_s := (0, 2, 0, 0, 0, .int 10, [])) (y_s := (44, [some (.ref _), some (.int _), some (.int _)], [.int _, .int _, .int _, .ref _], _)) rfl (u_ rfl) ?_
                    refine w8m (pc := 44) (len_s := 1) rfl ?_
                    refine w_t (pc := 45) (e_s := (1, 1, 2, 0, 0, .null, [])) (y_s := (46, [some (.ref _), some (.int _), some (.int _)], [.int _, .int _, .int _, .ref _], _)) rfl (u_ rfl) ?_
                    refine wcV (pc := 46) (len_s := 3) rfl rfl (l := [some (.ref _), some (.int _), some (.int _), some (.int _)]) rfl ?_
                    refine w_t (pc := 0) (e_s := (3, 1, 0, 0, 0, .null, [])) (y_s := (1, [some (.ref _), some (.int _), some (.int _), some (.int _)], [.ref _], _)) rfl (u_ rfl) ?_
                    refine w20r (pc := 1) (len_s := 3) (q_s := 107) rfl (krq hk rfl) ?_
                    refine w_t (pc := 4) (e_s := (3, 1, 0, 0, 0, .null, [])) (y_s := (5, [some (.ref _), some (.int _), some (.int _), some (.int _)], [.ref _, .ref _], _)) rfl (u_ rfl) ?_
                    refine w20 (pc := 5) (len_s := 3) rfl ?_
                    refine w_t (pc := 8) (e_s := (1, 1, 1, 0, 0, .null, [])) (y_s := (9, [some (.ref _), some (.int _), some (.int _), some (.int _)], [.int _, .int _, .ref _], _)) rfl (u_ rfl) ?_
                    refine w25 (pc := 9) (len_s := 1) rfl (hk.1 107 0 12 rfl rfl) (fun c10_s => ?_)
                    replace t_s := t_s c10_s
                    refine w_t (pc := 10) (e_s := (3, 1, 0, 0, 0, .null, [])) (y_s := (11, [some (.ref _), some (.int _), some (.int _), some (.int _)], [.ref _], _)) rfl (u_ rfl) ?_
                    refine w20r (pc := 11) (len_s := 3) (q_s := 108) rfl (krq hk rfl) ?_
                    refine w_t (pc := 14) (e_s := (3, 1, 0, 0, 0, .null, [])) (y_s := (15, [some (.ref _), some (.int _), some (.int _), some (.int _)], [.ref _, .ref _], _)) rfl (u_ rfl) ?_
                    refine w20 (pc := 15) (len_s := 3) rfl ?_
                    refine w_t (pc := 18) (e_s := (1, 1, 2, 0, 0, .null, [])) (y_s := (19, [some (.ref _), some (.int _), some (.int _), some (.int _)], [.int _, .int _, .ref _], _)) rfl (u_ rfl) ?_
                    refine w25 (pc := 19) (len_s := 1) rfl (hk.1 108 0 12 rfl rfl) (fun c11_s => ?_)
                    refine w_t (pc := 20) (e_s := (3, 1, 0, 0, 0, .null, [])) (y_s := (21, [some (.ref _), some (.int _), some (.int _), some (.int _)], [.ref _], _)) rfl (u_ rfl) ?_
                    refine w20r (pc := 21) (len_s := 3) (q_s := 103) rfl (krq hk rfl) ?_
                    refine w_t (pc := 24) (e_s := (0, 2, 0, 0, 0, .int 68, [])) (y_s := (26, [some (.ref _), some (.int _), some (.int _), some (.int _)], [.int _, .ref _], _)) rfl (u_ rfl) ?_
                    refine w_t (pc := 26) (e_s := (3, 1, 0, 0, 0, .null, [])) (y_s := (27, [some (.ref _), some (.int _), some (.int _), some (.int _)], [.ref _, .int _, .ref _], _)) rfl (u_ rfl) ?_
                    refine w20 (pc := 27) (len_s := 3) rfl ?_
                    refine w_t (pc := 30) (e_s := (7, 1, 0, 0, 0, .null, [])) (y_s := (31, [some (.ref _), some (.int _), some (.int _), some (.int _)], [.int (_ + _), .ref _], _)) rfl (u_ rfl) ?_
                    refine w_t (pc := 31) (e_s := (1, 1, 3, 0, 0, .null, [])) (y_s := (32, [some (.ref _), some (.int _), some (.int _), some (.int _)], [.int _, .int _, .ref _], _)) rfl (u_ rfl) ?_
                    refine w25 (pc := 32) (len_s := 1) rfl (hk.1 103 0 104 rfl rfl) (fun c12_s => ?_)
                    replace t_s := t_s c12_s
                    refine w_t (pc := 33) (e_s := (3, 1, 0, 0, 0, .null, [])) (y_s := (34, [some (.ref _), some (.int _), some (.int _), some (.int _)], [.ref _], _)) rfl (u_ rfl) ?_
                    refine w_t (pc := 34) (e_s := (39, 1, 0, 0, 0, .null, [])) (y_s := (35, [some (.ref _), some (.int _), some (.int _), some (.int _)], [.ref _, .ref _], _)) rfl (u_ rfl) ?_
                    refine w20 (pc := 35) (len_s := 3) rfl ?_
                    refine w_t (pc := 38) (e_s := (0, 1, 0, 0, 0, .int 1, [])) (y_s := (39, [some (.ref _), some (.int _), some (.int _), some (.int _)], [.int _, .int _, .ref _], _)) rfl (u_ rfl) ?_
                    refine w_t (pc := 39) (e_s := (7, 1, 0, 0, 0, .null, [])) (y_s := (40, [some (.ref _), some (.int _), some (.int _), some (.int _)], [.int (_ + _), .ref _], _)) rfl (u_ rfl) ?_
                    refine w21 (pc := 40) (len_s := 3) rfl ?_
                    refine wrV (pc := 43) (len_s := 1) rfl hk ?_
                    show wF _ 159 (49, [some (.ref _), some (.int _), some (.int _)], [], _) _
                    refine w_t (pc := 49) (e_s := (3, 1, 0, 0, 0, .null, [])) (y_s := (50, [some (.ref _), some (.int _), some (.int _)], [.ref _], _)) rfl (u_ rfl) ?_
                    refine w20 (pc := 50) (len_s := 3) rfl ?_
                    refine w_t (pc := 53) (e_s := (0, 1, 0, 0, 0, .int 1, [])) (y_s := (54, [some (.ref _), some (.int _), some (.int _)], [.int _, .int _], _)) rfl (u_ rfl) ?_
                    refine w_t (pc := 54) (e_s := (7, 1, 0, 1, 0, .null, [])) (y_s := (55, [some (.ref _), some (.int _), some (.int _)], [.int (_ - _)], _)) rfl (u_ rfl) ?_
                    exact wrI (pc := 55) (len_s := 1) rfl hk t_s
/-- ColdShod.roads(III)I, from 0 on -/
theorem sg_96_0 {F_s : Nat} {x1_s : Int32} {x2_s : Int32} {x3 : Int32} {h_s : zH} {K_s : Int32 → zH → Prop} (hk : hKn h_s) (t_s : (x1_s.toInt < 0 → K_s (-1) h_s) ∧ (¬ x1_s.toInt < 0 → ((x1_s.toInt < 6 → ((x3.toInt < 1 → K_s (-1) h_s) ∧ (¬ x3.toInt < 1 → ((12 < x3.toInt → K_s (-1) h_s) ∧ (¬ 12 < x3.toInt → (zix x1_s < 6 → ((h_s.2.1 (76 + 2 * (zix x1_s)) 0).toInt = 0 → K_s 0 h_s) ∧ (¬ (h_s.2.1 (76 + 2 * (zix x1_s)) 0).toInt = 0 → (((h_s.2.1 (76 + 2 * (zix x1_s)) 0).toInt = 2 → (((h_s.2.1 (76 + 2 * (zix x1_s)) 2).toInt = 0 → ((x2_s.toInt < 0 → K_s 0 h_s) ∧ (¬ x2_s.toInt < 0 → wF F_s 96 (61, [some (.ref 6), some (.int x1_s), some (.int x2_s), some (.int x3), some (.ref (76 + 2 * (zix x1_s))), some (.int 0), some (.int x2_s)], [], h_s) (gI K_s)))) ∧ (¬ (h_s.2.1 (76 + 2 * (zix x1_s)) 2).toInt = 0 → K_s (-12) h_s))) ∧ (¬ (h_s.2.1 (76 + 2 * (zix x1_s)) 0).toInt = 2 → K_s (-12) h_s))))))))) ∧ (¬ x1_s.toInt < 6 → K_s (-1) h_s)))) : wF (F_s + 1) 96 (0, [some (.ref 6), some (.int x1_s), some (.int x2_s), some (.int x3), none, none, none], [], h_s) (gI K_s) := by
  refine w_0 (pc := 0) (e_s := (1, 1, 1, 0, 0, .null, [])) (y_s := (1, [some (.ref _), some (.int _), some (.int _), some (.int _), none, none, none], [.int _], _)) rfl (u_ rfl) ?_
  refine wcI (pc := 1) (len_s := 3) rfl rfl (l := [some (.int _)]) rfl ?_
  refine w_t (pc := 0) (e_s := (1, 1, 0, 0, 0, .null, [])) (y_s := (1, [some (.int _)], [.int _], _)) rfl (u_ rfl) ?_
  refine wq2 (pc := 1) (len_s := 3) rfl rfl (fun c1_s => ?_) (fun c1_s => ?_)
  · replace t_s := t_s.1 c1_s
    refine w_t (pc := 14) (e_s := (0, 1, 0, 0, 0, .int 0, [])) (y_s := (15, [some (.int _)], [.int _], _)) rfl (u_ rfl) ?_
    refine wrI (pc := 15) (len_s := 1) rfl hk ?_
    show wF _ 96 (4, [some (.ref _), some (.int _), some (.int _), some (.int _), none, none, none], [.int _], _) _
    refine w_t (pc := 4) (e_s := (15, 3, 18, 0, 0, .null, [])) (y_s := (18, [some (.ref _), some (.int _), some (.int _), some (.int _), none, none, none], [], _)) rfl (u_ rfl) ?_
    refine w_t (pc := 18) (e_s := (0, 1, 0, 0, 0, .int (-1), [])) (y_s := (19, [some (.ref _), some (.int _), some (.int _), some (.int _), none, none, none], [.int _], _)) rfl (u_ rfl) ?_
    exact wrI (pc := 19) (len_s := 1) rfl hk t_s
  · replace t_s := t_s.2 c1_s
    refine w_t (pc := 4) (e_s := (1, 1, 0, 0, 0, .null, [])) (y_s := (5, [some (.int _)], [.int _], _)) rfl (u_ rfl) ?_
    refine w_t (pc := 5) (e_s := (0, 2, 0, 0, 0, .int 6, [])) (y_s := (7, [some (.int _)], [.int _, .int _], _)) rfl (u_ rfl) ?_
    refine wi3 (pc := 7) (len_s := 3) (Y := 6) rfl rfl (by decide) (fun c2_s => ?_) (fun c2_s => ?_)
    · replace t_s := t_s.1 c2_s
      refine w_t (pc := 10) (e_s := (0, 1, 0, 0, 0, .int 1, [])) (y_s := (11, [some (.int _)], [.int _], _)) rfl (u_ rfl) ?_
      refine w_t (pc := 11) (e_s := (17, 3, 15, 0, 0, .null, [])) (y_s := (15, [some (.int _)], [.int _], _)) rfl (u_ rfl) ?_
      refine wrI (pc := 15) (len_s := 1) rfl hk ?_
      show wF _ 96 (4, [some (.ref _), some (.int _), some (.int _), some (.int _), none, none, none], [.int _], _) _
      refine w_t (pc := 4) (e_s := (15, 3, 18, 0, 0, .null, [])) (y_s := (7, [some (.ref _), some (.int _), some (.int _), some (.int _), none, none, none], [], _)) rfl (u_ rfl) ?_
      refine w_t (pc := 7) (e_s := (1, 1, 3, 0, 0, .null, [])) (y_s := (8, [some (.ref _), some (.int _), some (.int _), some (.int _), none, none, none], [.int _], _)) rfl (u_ rfl) ?_
      refine w_t (pc := 8) (e_s := (0, 1, 0, 0, 0, .int 1, [])) (y_s := (9, [some (.ref _), some (.int _), some (.int _), some (.int _), none, none, none], [.int _, .int _], _)) rfl (u_ rfl) ?_
      refine wi2 (pc := 9) (len_s := 3) (Y := 1) rfl rfl (by decide) (fun c3_s => ?_) (fun c3_s => ?_)
      · replace t_s := t_s.1 c3_s
        refine w_t (pc := 18) (e_s := (0, 1, 0, 0, 0, .int (-1), [])) (y_s := (19, [some (.ref _), some (.int _), some (.int _), some (.int _), none, none, none], [.int _], _)) rfl (u_ rfl) ?_
        exact wrI (pc := 19) (len_s := 1) rfl hk t_s
      · replace t_s := t_s.2 c3_s
        refine w_t (pc := 12) (e_s := (1, 1, 3, 0, 0, .null, [])) (y_s := (13, [some (.ref _), some (.int _), some (.int _), some (.int _), none, none, none], [.int _], _)) rfl (u_ rfl) ?_
        refine w_t (pc := 13) (e_s := (0, 2, 0, 0, 0, .int 12, [])) (y_s := (15, [some (.ref _), some (.int _), some (.int _), some (.int _), none, none, none], [.int _, .int _], _)) rfl (u_ rfl) ?_
        refine wi5 (pc := 15) (len_s := 3) (Y := 12) rfl rfl (by decide) (fun c4_s => ?_) (fun c4_s => ?_)
        · replace t_s := t_s.1 c4_s
          refine w_t (pc := 18) (e_s := (0, 1, 0, 0, 0, .int (-1), [])) (y_s := (19, [some (.ref _), some (.int _), some (.int _), some (.int _), none, none, none], [.int _], _)) rfl (u_ rfl) ?_
          exact wrI (pc := 19) (len_s := 1) rfl hk t_s
        · replace t_s := t_s.2 c4_s
          refine w_t (pc := 20) (e_s := (3, 1, 0, 0, 0, .null, [])) (y_s := (21, [some (.ref _), some (.int _), some (.int _), some (.int _), none, none, none], [.ref _], _)) rfl (u_ rfl) ?_
          refine w20r (pc := 21) (len_s := 3) (q_s := 71) rfl (krq hk rfl) ?_
          refine w_t (pc := 24) (e_s := (1, 1, 1, 0, 0, .null, [])) (y_s := (25, [some (.ref _), some (.int _), some (.int _), some (.int _), none, none, none], [.int _, .ref _], _)) rfl (u_ rfl) ?_
          refine w24 (g_s := fun j_ => 76 + 2 * j_) (pc := 25) (len_s := 1) hk rfl (hk.1 71 4 6 rfl rfl) kg71 (fun c5_s => ?_)
          replace t_s := t_s c5_s
          refine w_t (pc := 26) (e_s := (6, 2, 4, 0, 0, .null, [])) (y_s := (28, [some (.ref _), some (.int _), some (.int _), some (.int _), some (.ref _), none, none], [], _)) rfl (u_ rfl) ?_
          refine w_t (pc := 28) (e_s := (3, 2, 4, 0, 0, .null, [])) (y_s := (30, [some (.ref _), some (.int _), some (.int _), some (.int _), some (.ref _), none, none], [.ref _], _)) rfl (u_ rfl) ?_
          refine w20 (pc := 30) (len_s := 3) rfl ?_
          refine wq1 (pc := 33) (len_s := 3) rfl rfl (fun c6_s => ?_) (fun c6_s => ?_)
          · replace t_s := t_s.1 c6_s
            refine w_t (pc := 36) (e_s := (0, 1, 0, 0, 0, .int 0, [])) (y_s := (37, [some (.ref _), some (.int _), some (.int _), some (.int _), some (.ref _), none, none], [.int _], _)) rfl (u_ rfl) ?_
            exact wrI (pc := 37) (len_s := 1) rfl hk t_s
          · replace t_s := t_s.2 c6_s
            refine w_t (pc := 38) (e_s := (3, 2, 4, 0, 0, .null, [])) (y_s := (40, [some (.ref _), some (.int _), some (.int _), some (.int _), some (.ref _), none, none], [.ref _], _)) rfl (u_ rfl) ?_
            refine wcI (pc := 40) (len_s := 3) rfl rfl (l := [some (.ref _)]) rfl ?_
            refine w_t (pc := 0) (e_s := (3, 1, 0, 0, 0, .null, [])) (y_s := (1, [some (.ref _)], [.ref _], _)) rfl (u_ rfl) ?_
            refine w20 (pc := 1) (len_s := 3) rfl ?_
            refine w_t (pc := 4) (e_s := (0, 1, 0, 0, 0, .int 2, [])) (y_s := (5, [some (.ref _)], [.int _, .int _], _)) rfl (u_ rfl) ?_
            refine wi1 (pc := 5) (len_s := 3) (Y := 2) rfl rfl (by decide) (fun c7_s => ?_) (fun c7_s => ?_)
            · replace t_s := t_s.1 c7_s
              refine w_t (pc := 8) (e_s := (3, 1, 0, 0, 0, .null, [])) (y_s := (9, [some (.ref _)], [.ref _], _)) rfl (u_ rfl) ?_
              refine w20 (pc := 9) (len_s := 3) rfl ?_
              refine wq1 (pc := 12) (len_s := 3) rfl rfl (fun c8_s => ?_) (fun c8_s => ?_)
              · replace t_s := t_s.1 c8_s
                refine w_t (pc := 15) (e_s := (0, 1, 0, 0, 0, .int 1, [])) (y_s := (16, [some (.ref _)], [.int _], _)) rfl (u_ rfl) ?_
                refine w_t (pc := 16) (e_s := (17, 3, 20, 0, 0, .null, [])) (y_s := (20, [some (.ref _)], [.int _], _)) rfl (u_ rfl) ?_
                refine wrI (pc := 20) (len_s := 1) rfl hk ?_
                show wF _ 96 (43, [some (.ref _), some (.int _), some (.int _), some (.int _), some (.ref _), none, none], [.int _], _) _
                refine w_t (pc := 43) (e_s := (15, 3, 49, 1, 0, .null, [])) (y_s := (49, [some (.ref _), some (.int _), some (.int _), some (.int _), some (.ref _), none, none], [], _)) rfl (u_ rfl) ?_
                refine w_t (pc := 49) (e_s := (1, 1, 2, 0, 0, .null, [])) (y_s := (50, [some (.ref _), some (.int _), some (.int _), some (.int _), some (.ref _), none, none], [.int _], _)) rfl (u_ rfl) ?_
                refine wq3 (pc := 50) (len_s := 3) rfl rfl (fun c9_s => ?_) (fun c9_s => ?_)
                · replace t_s := t_s.1 c9_s
                  refine w_t (pc := 53) (e_s := (0, 1, 0, 0, 0, .int 0, [])) (y_s := (54, [some (.ref _), some (.int _), some (.int _), some (.int _), some (.ref _), none, none], [.int _], _)) rfl (u_ rfl) ?_
                  exact wrI (pc := 54) (len_s := 1) rfl hk t_s
                · replace t_s := t_s.2 c9_s
                  refine w_t (pc := 55) (e_s := (0, 1, 0, 0, 0, .int 0, [])) (y_s := (56, [some (.ref _), some (.int _), some (.int _), some (.int _), some (.ref _), none, none], [.int _], _)) rfl (u_ rfl) ?_
                  refine w_t (pc := 56) (e_s := (4, 2, 5, 0, 0, .null, [])) (y_s := (58, [some (.ref _), some (.int _), some (.int _), some (.int _), some (.ref _), some (.int _), none], [], _)) rfl (u_ rfl) ?_
                  refine w_t (pc := 58) (e_s := (1, 1, 2, 0, 0, .null, [])) (y_s := (59, [some (.ref _), some (.int _), some (.int _), some (.int _), some (.ref _), some (.int _), none], [.int _], _)) rfl (u_ rfl) ?_
                  refine w_t (pc := 59) (e_s := (4, 2, 6, 0, 0, .null, [])) (y_s := (61, [some (.ref _), some (.int _), some (.int _), some (.int _), some (.ref _), some (.int _), some (.int _)], [], _)) rfl (u_ rfl) ?_
                  exact t_s
              · replace t_s := t_s.2 c8_s
                refine w_t (pc := 19) (e_s := (0, 1, 0, 0, 0, .int 0, [])) (y_s := (20, [some (.ref _)], [.int _], _)) rfl (u_ rfl) ?_
                refine wrI (pc := 20) (len_s := 1) rfl hk ?_
                show wF _ 96 (43, [some (.ref _), some (.int _), some (.int _), some (.int _), some (.ref _), none, none], [.int _], _) _
                refine w_t (pc := 43) (e_s := (15, 3, 49, 1, 0, .null, [])) (y_s := (46, [some (.ref _), some (.int _), some (.int _), some (.int _), some (.ref _), none, none], [], _)) rfl (u_ rfl) ?_
                refine w_t (pc := 46) (e_s := (0, 2, 0, 0, 0, .int (-12), [])) (y_s := (48, [some (.ref _), some (.int _), some (.int _), some (.int _), some (.ref _), none, none], [.int _], _)) rfl (u_ rfl) ?_
                exact wrI (pc := 48) (len_s := 1) rfl hk t_s
            · replace t_s := t_s.2 c7_s
              refine w_t (pc := 19) (e_s := (0, 1, 0, 0, 0, .int 0, [])) (y_s := (20, [some (.ref _)], [.int _], _)) rfl (u_ rfl) ?_
              refine wrI (pc := 20) (len_s := 1) rfl hk ?_
              show wF _ 96 (43, [some (.ref _), some (.int _), some (.int _), some (.int _), some (.ref _), none, none], [.int _], _) _
              refine w_t (pc := 43) (e_s := (15, 3, 49, 1, 0, .null, [])) (y_s := (46, [some (.ref _), some (.int _), some (.int _), some (.int _), some (.ref _), none, none], [], _)) rfl (u_ rfl) ?_
              refine w_t (pc := 46) (e_s := (0, 2, 0, 0, 0, .int (-12), [])) (y_s := (48, [some (.ref _), some (.int _), some (.int _), some (.int _), some (.ref _), none, none], [.int _], _)) rfl (u_ rfl) ?_
              exact wrI (pc := 48) (len_s := 1) rfl hk t_s
    · replace t_s := t_s.2 c2_s
      refine w_t (pc := 14) (e_s := (0, 1, 0, 0, 0, .int 0, [])) (y_s := (15, [some (.int _)], [.int _], _)) rfl (u_ rfl) ?_
      refine wrI (pc := 15) (len_s := 1) rfl hk ?_
      show wF _ 96 (4, [some (.ref _), some (.int _), some (.int _), some (.int _), none, none, none], [.int _], _) _
      refine w_t (pc := 4) (e_s := (15, 3, 18, 0, 0, .null, [])) (y_s := (18, [some (.ref _), some (.int _), some (.int _), some (.int _), none, none, none], [], _)) rfl (u_ rfl) ?_
      refine w_t (pc := 18) (e_s := (0, 1, 0, 0, 0, .int (-1), [])) (y_s := (19, [some (.ref _), some (.int _), some (.int _), some (.int _), none, none, none], [.int _], _)) rfl (u_ rfl) ?_
      exact wrI (pc := 19) (len_s := 1) rfl hk t_s
/-- ColdShod.roads(III)I, from 61 on -/
theorem sg_96_61 {F_s : Nat} {d_s : Nat} {x1_s x2_s x3 x5_s x6 : Int32} {h_s : zH} {K_s : Int32 → zH → Prop} (hd_s : d_s < 6) (hk : hKn h_s) (t_s : (x5_s.toInt < x3.toInt → ((x6.toInt < ((h_s.2.1 (76 + 2 * d_s) 3) - 2).toInt → (zix x6 < 60 → (zix (x6 + 1) < 60 → (zix (x6 + 2) < 60 → ((h_s.2.2.1 (76 + 2 * d_s + 1) (zix x6)).toInt < 0 → K_s x5_s h_s) ∧ (¬ (h_s.2.2.1 (76 + 2 * d_s + 1) (zix x6)).toInt < 0 → (((h_s.2.2.1 (76 + 2 * d_s + 1) (zix x6)).toInt < 8 → (((h_s.2.2.1 (76 + 2 * d_s + 1) (zix (x6 + 1))).toInt < 0 → K_s x5_s h_s) ∧ (¬ (h_s.2.2.1 (76 + 2 * d_s + 1) (zix (x6 + 1))).toInt < 0 → (((h_s.2.2.1 (76 + 2 * d_s + 1) (zix (x6 + 1))).toInt < 8 → (((h_s.2.2.1 (76 + 2 * d_s + 1) (zix x6)).toInt = (h_s.2.2.1 (76 + 2 * d_s + 1) (zix (x6 + 1))).toInt → K_s x5_s h_s) ∧ (¬ (h_s.2.2.1 (76 + 2 * d_s + 1) (zix x6)).toInt = (h_s.2.2.1 (76 + 2 * d_s + 1) (zix (x6 + 1))).toInt → (((h_s.2.2.1 (76 + 2 * d_s + 1) (zix (x6 + 2))).toInt < 1 → K_s x5_s h_s) ∧ (¬ (h_s.2.2.1 (76 + 2 * d_s + 1) (zix (x6 + 2))).toInt < 1 → ((9 < (h_s.2.2.1 (76 + 2 * d_s + 1) (zix (x6 + 2))).toInt → K_s x5_s h_s) ∧ (¬ 9 < (h_s.2.2.1 (76 + 2 * d_s + 1) (zix (x6 + 2))).toInt → (((h_s.2.1 7 8).toInt < 12 → (zix (h_s.2.1 7 8) < 12 → (((zup (zup (zup h_s.2.1 (28 + (zix (h_s.2.1 7 8))) 0 ((h_s.2.2.1 (76 + 2 * d_s + 1) (zix x6)).toInt32)) (28 + (zix (h_s.2.1 7 8))) 1 ((h_s.2.2.1 (76 + 2 * d_s + 1) (zix (x6 + 1))).toInt32)) (28 + (zix (h_s.2.1 7 8))) 2 ((h_s.2.2.1 (76 + 2 * d_s + 1) (zix (x6 + 2))).toInt32)) 7 8).toInt < 0 → K_s x5_s (h_s.1, zup (zup (zup (zup h_s.2.1 (28 + (zix (h_s.2.1 7 8))) 0 ((h_s.2.2.1 (76 + 2 * d_s + 1) (zix x6)).toInt32)) (28 + (zix (h_s.2.1 7 8))) 1 ((h_s.2.2.1 (76 + 2 * d_s + 1) (zix (x6 + 1))).toInt32)) (28 + (zix (h_s.2.1 7 8))) 2 ((h_s.2.2.1 (76 + 2 * d_s + 1) (zix (x6 + 2))).toInt32)) 7 8 (((zup (zup (zup h_s.2.1 (28 + (zix (h_s.2.1 7 8))) 0 ((h_s.2.2.1 (76 + 2 * d_s + 1) (zix x6)).toInt32)) (28 + (zix (h_s.2.1 7 8))) 1 ((h_s.2.2.1 (76 + 2 * d_s + 1) (zix (x6 + 1))).toInt32)) (28 + (zix (h_s.2.1 7 8))) 2 ((h_s.2.2.1 (76 + 2 * d_s + 1) (zix (x6 + 2))).toInt32)) 7 8) + 1), h_s.2.2.1, h_s.2.2.2)) ∧ (¬ ((zup (zup (zup h_s.2.1 (28 + (zix (h_s.2.1 7 8))) 0 ((h_s.2.2.1 (76 + 2 * d_s + 1) (zix x6)).toInt32)) (28 + (zix (h_s.2.1 7 8))) 1 ((h_s.2.2.1 (76 + 2 * d_s + 1) (zix (x6 + 1))).toInt32)) (28 + (zix (h_s.2.1 7 8))) 2 ((h_s.2.2.1 (76 + 2 * d_s + 1) (zix (x6 + 2))).toInt32)) 7 8).toInt < 0 → wF F_s 96 (61, [some (.ref 6), some (.int x1_s), some (.int x2_s), some (.int x3), some (.ref (76 + 2 * d_s)), some (.int (x5_s + 1)), some (.int (x6 + 3))], [], (h_s.1, zup (zup (zup (zup h_s.2.1 (28 + (zix (h_s.2.1 7 8))) 0 ((h_s.2.2.1 (76 + 2 * d_s + 1) (zix x6)).toInt32)) (28 + (zix (h_s.2.1 7 8))) 1 ((h_s.2.2.1 (76 + 2 * d_s + 1) (zix (x6 + 1))).toInt32)) (28 + (zix (h_s.2.1 7 8))) 2 ((h_s.2.2.1 (76 + 2 * d_s + 1) (zix (x6 + 2))).toInt32)) 7 8 (((zup (zup (zup h_s.2.1 (28 + (zix (h_s.2.1 7 8))) 0 ((h_s.2.2.1 (76 + 2 * d_s + 1) (zix x6)).toInt32)) (28 + (zix (h_s.2.1 7 8))) 1 ((h_s.2.2.1 (76 + 2 * d_s + 1) (zix (x6 + 1))).toInt32)) (28 + (zix (h_s.2.1 7 8))) 2 ((h_s.2.2.1 (76 + 2 * d_s + 1) (zix (x6 + 2))).toInt32)) 7 8) + 1), h_s.2.2.1, h_s.2.2.2)) (gI K_s)))) ∧ (¬ (h_s.2.1 7 8).toInt < 12 → K_s x5_s h_s))))))))) ∧ (¬ (h_s.2.2.1 (76 + 2 * d_s + 1) (zix (x6 + 1))).toInt < 8 → K_s x5_s h_s))))) ∧ (¬ (h_s.2.2.1 (76 + 2 * d_s + 1) (zix x6)).toInt < 8 → K_s x5_s h_s))))))) ∧ (¬ x6.toInt < ((h_s.2.1 (76 + 2 * d_s) 3) - 2).toInt → K_s x5_s h_s))) ∧ (¬ x5_s.toInt < x3.toInt → K_s x5_s h_s)) : wF (F_s + 1) 96 (61, [some (.ref 6), some (.int x1_s), some (.int x2_s), some (.int x3), some (.ref (76 + 2 * d_s)), some (.int x5_s), some (.int x6)], [], h_s) (gI K_s) := by
  refine w_0 (pc := 61) (e_s := (1, 2, 5, 0, 0, .null, [])) (y_s := (63, [some (.ref _), some (.int _), some (.int _), some (.int _), some (.ref _), some (.int _), some (.int _)], [.int _], _)) rfl (u_ rfl) ?_
  refine w_t (pc := 63) (e_s := (1, 1, 3, 0, 0, .null, [])) (y_s := (64, [some (.ref _), some (.int _), some (.int _), some (.int _), some (.ref _), some (.int _), some (.int _)], [.int _, .int _], _)) rfl (u_ rfl) ?_
  refine wi3 (pc := 64) (len_s := 3) rfl rfl rfl (fun c1_s => ?_) (fun c1_s => ?_)
  · replace t_s := t_s.1 c1_s
    refine w_t (pc := 67) (e_s := (1, 2, 6, 0, 0, .null, [])) (y_s := (69, [some (.ref _), some (.int _), some (.int _), some (.int _), some (.ref _), some (.int _), some (.int _)], [.int _], _)) rfl (u_ rfl) ?_
    refine w_t (pc := 69) (e_s := (3, 2, 4, 0, 0, .null, [])) (y_s := (71, [some (.ref _), some (.int _), some (.int _), some (.int _), some (.ref _), some (.int _), some (.int _)], [.ref _, .int _], _)) rfl (u_ rfl) ?_
    refine w20 (pc := 71) (len_s := 3) rfl ?_
    refine w_t (pc := 74) (e_s := (0, 1, 0, 0, 0, .int 2, [])) (y_s := (75, [some (.ref _), some (.int _), some (.int _), some (.int _), some (.ref _), some (.int _), some (.int _)], [.int _, .int _, .int _], _)) rfl (u_ rfl) ?_
    refine w_t (pc := 75) (e_s := (7, 1, 0, 1, 0, .null, [])) (y_s := (76, [some (.ref _), some (.int _), some (.int _), some (.int _), some (.ref _), some (.int _), some (.int _)], [.int (_ - _), .int _], _)) rfl (u_ rfl) ?_
    refine wi3 (pc := 76) (len_s := 3) rfl rfl rfl (fun c2_s => ?_) (fun c2_s => ?_)
    · replace t_s := t_s.1 c2_s
      refine w_t (pc := 79) (e_s := (3, 1, 0, 0, 0, .null, [])) (y_s := (80, [some (.ref _), some (.int _), some (.int _), some (.int _), some (.ref _), some (.int _), some (.int _)], [.ref _], _)) rfl (u_ rfl) ?_
      refine w_t (pc := 80) (e_s := (3, 2, 4, 0, 0, .null, [])) (y_s := (82, [some (.ref _), some (.int _), some (.int _), some (.int _), some (.ref _), some (.int _), some (.int _)], [.ref _, .ref _], _)) rfl (u_ rfl) ?_
      refine w_t (pc := 82) (e_s := (1, 2, 6, 0, 0, .null, [])) (y_s := (84, [some (.ref _), some (.int _), some (.int _), some (.int _), some (.ref _), some (.int _), some (.int _)], [.int _, .ref _, .ref _], _)) rfl (u_ rfl) ?_
      refine wcI (pc := 84) (len_s := 3) rfl rfl (l := [some (.ref _), some (.ref _), some (.int _), none, none, none, none, none, none]) rfl ?_
      refine w_t (pc := 0) (e_s := (3, 1, 1, 0, 0, .null, [])) (y_s := (1, [some (.ref _), some (.ref _), some (.int _), none, none, none, none, none, none], [.ref _], _)) rfl (u_ rfl) ?_
      refine w20r (pc := 1) (len_s := 3) (q_s := 76 + 2 * d_s + 1) rfl (kshc hk hd_s) ?_
      refine w_t (pc := 4) (e_s := (1, 1, 2, 0, 0, .null, [])) (y_s := (5, [some (.ref _), some (.ref _), some (.int _), none, none, none, none, none, none], [.int _, .ref _], _)) rfl (u_ rfl) ?_
      refine w23 (pc := 5) (len_s := 1) rfl (kshz hk hd_s) (fun c3_s => ?_)
      replace t_s := t_s c3_s
      refine w_t (pc := 6) (e_s := (5, 1, 3, 0, 0, .null, [])) (y_s := (7, [some (.ref _), some (.ref _), some (.int _), some (.long _), none, none, none, none, none], [], _)) rfl (u_ rfl) ?_
      refine w_t (pc := 7) (e_s := (3, 1, 1, 0, 0, .null, [])) (y_s := (8, [some (.ref _), some (.ref _), some (.int _), some (.long _), none, none, none, none, none], [.ref _], _)) rfl (u_ rfl) ?_
      refine w20r (pc := 8) (len_s := 3) (q_s := 76 + 2 * d_s + 1) rfl (kshc hk hd_s) ?_
      refine w_t (pc := 11) (e_s := (1, 1, 2, 0, 0, .null, [])) (y_s := (12, [some (.ref _), some (.ref _), some (.int _), some (.long _), none, none, none, none, none], [.int _, .ref _], _)) rfl (u_ rfl) ?_
      refine w_t (pc := 12) (e_s := (0, 1, 0, 0, 0, .int 1, [])) (y_s := (13, [some (.ref _), some (.ref _), some (.int _), some (.long _), none, none, none, none, none], [.int _, .int _, .ref _], _)) rfl (u_ rfl) ?_
      refine w_t (pc := 13) (e_s := (7, 1, 0, 0, 0, .null, [])) (y_s := (14, [some (.ref _), some (.ref _), some (.int _), some (.long _), none, none, none, none, none], [.int (_ + _), .ref _], _)) rfl (u_ rfl) ?_
      refine w23 (pc := 14) (len_s := 1) rfl (kshz hk hd_s) (fun c4_s => ?_)
      replace t_s := t_s c4_s
      refine w_t (pc := 15) (e_s := (5, 2, 5, 0, 0, .null, [])) (y_s := (17, [some (.ref _), some (.ref _), some (.int _), some (.long _), none, some (.long _), none, none, none], [], _)) rfl (u_ rfl) ?_
      refine w_t (pc := 17) (e_s := (3, 1, 1, 0, 0, .null, [])) (y_s := (18, [some (.ref _), some (.ref _), some (.int _), some (.long _), none, some (.long _), none, none, none], [.ref _], _)) rfl (u_ rfl) ?_
      refine w20r (pc := 18) (len_s := 3) (q_s := 76 + 2 * d_s + 1) rfl (kshc hk hd_s) ?_
      refine w_t (pc := 21) (e_s := (1, 1, 2, 0, 0, .null, [])) (y_s := (22, [some (.ref _), some (.ref _), some (.int _), some (.long _), none, some (.long _), none, none, none], [.int _, .ref _], _)) rfl (u_ rfl) ?_
      refine w_t (pc := 22) (e_s := (0, 1, 0, 0, 0, .int 2, [])) (y_s := (23, [some (.ref _), some (.ref _), some (.int _), some (.long _), none, some (.long _), none, none, none], [.int _, .int _, .ref _], _)) rfl (u_ rfl) ?_
      refine w_t (pc := 23) (e_s := (7, 1, 0, 0, 0, .null, [])) (y_s := (24, [some (.ref _), some (.ref _), some (.int _), some (.long _), none, some (.long _), none, none, none], [.int (_ + _), .ref _], _)) rfl (u_ rfl) ?_
      refine w23 (pc := 24) (len_s := 1) rfl (kshz hk hd_s) (fun c5_s => ?_)
      replace t_s := t_s c5_s
      refine w_t (pc := 25) (e_s := (5, 2, 7, 0, 0, .null, [])) (y_s := (27, [some (.ref _), some (.ref _), some (.int _), some (.long _), none, some (.long _), none, some (.long _), none], [], _)) rfl (u_ rfl) ?_
      refine w_t (pc := 27) (e_s := (2, 1, 3, 0, 0, .null, [])) (y_s := (28, [some (.ref _), some (.ref _), some (.int _), some (.long _), none, some (.long _), none, some (.long _), none], [.long _], _)) rfl (u_ rfl) ?_
      refine wcI (pc := 28) (len_s := 3) rfl rfl (l := [some (.long _), none]) rfl ?_
      refine w_t (pc := 0) (e_s := (2, 1, 0, 0, 0, .null, [])) (y_s := (1, [some (.long _), none], [.long _], _)) rfl (u_ rfl) ?_
      refine w_t (pc := 1) (e_s := (0, 1, 0, 0, 0, .long 0, [])) (y_s := (2, [some (.long _), none], [.long _, .long _], _)) rfl (u_ rfl) ?_
      refine w_t (pc := 2) (e_s := (14, 1, 0, 0, 0, .null, [])) (y_s := (3, [some (.long _), none], [.int (lg_cmp _ _)], _)) rfl (u_ rfl) ?_
      refine wl2 (pc := 3) (len_s := 3) (Y := 0) rfl rfl (by decide) (fun c6_s => ?_) (fun c6_s => ?_)
      · replace t_s := t_s.1 c6_s
        refine w_t (pc := 18) (e_s := (0, 1, 0, 0, 0, .int 0, [])) (y_s := (19, [some (.long _), none], [.int _], _)) rfl (u_ rfl) ?_
        refine wrI (pc := 19) (len_s := 1) rfl hk ?_
        show wF _ 97 (31, [some (.ref _), some (.ref _), some (.int _), some (.long _), none, some (.long _), none, some (.long _), none], [.int _], _) _
        refine w_t (pc := 31) (e_s := (15, 3, 65, 0, 0, .null, [])) (y_s := (65, [some (.ref _), some (.ref _), some (.int _), some (.long _), none, some (.long _), none, some (.long _), none], [], _)) rfl (u_ rfl) ?_
        refine w_t (pc := 65) (e_s := (0, 1, 0, 0, 0, .int 0, [])) (y_s := (66, [some (.ref _), some (.ref _), some (.int _), some (.long _), none, some (.long _), none, some (.long _), none], [.int _], _)) rfl (u_ rfl) ?_
        refine wrI (pc := 66) (len_s := 1) rfl hk ?_
        show wF _ 96 (87, [some (.ref _), some (.int _), some (.int _), some (.int _), some (.ref _), some (.int _), some (.int _)], [.int _], _) _
        refine w_t (pc := 87) (e_s := (15, 3, 93, 1, 0, .null, [])) (y_s := (90, [some (.ref _), some (.int _), some (.int _), some (.int _), some (.ref _), some (.int _), some (.int _)], [], _)) rfl (u_ rfl) ?_
        refine w_t (pc := 90) (e_s := (1, 2, 5, 0, 0, .null, [])) (y_s := (92, [some (.ref _), some (.int _), some (.int _), some (.int _), some (.ref _), some (.int _), some (.int _)], [.int _], _)) rfl (u_ rfl) ?_
        exact wrI (pc := 92) (len_s := 1) rfl hk t_s
      · replace t_s := t_s.2 c6_s
        refine w_t (pc := 6) (e_s := (2, 1, 0, 0, 0, .null, [])) (y_s := (7, [some (.long _), none], [.long _], _)) rfl (u_ rfl) ?_
        refine w_t (pc := 7) (e_s := (0, 3, 0, 0, 0, .long 8, [(0, 1028)])) (y_s := (10, [some (.long _), none], [.long _, .long _], _)) rfl (u_ rfl) ?_
        refine w_t (pc := 10) (e_s := (14, 1, 0, 0, 0, .null, [])) (y_s := (11, [some (.long _), none], [.int (lg_cmp _ _)], _)) rfl (u_ rfl) ?_
        refine wl3 (pc := 11) (len_s := 3) (Y := 8) rfl rfl (by decide) (fun c7_s => ?_) (fun c7_s => ?_)
        · replace t_s := t_s.1 c7_s
          refine w_t (pc := 14) (e_s := (0, 1, 0, 0, 0, .int 1, [])) (y_s := (15, [some (.long _), none], [.int _], _)) rfl (u_ rfl) ?_
          refine w_t (pc := 15) (e_s := (17, 3, 19, 0, 0, .null, [])) (y_s := (19, [some (.long _), none], [.int _], _)) rfl (u_ rfl) ?_
          refine wrI (pc := 19) (len_s := 1) rfl hk ?_
          show wF _ 97 (31, [some (.ref _), some (.ref _), some (.int _), some (.long _), none, some (.long _), none, some (.long _), none], [.int _], _) _
          refine w_t (pc := 31) (e_s := (15, 3, 65, 0, 0, .null, [])) (y_s := (34, [some (.ref _), some (.ref _), some (.int _), some (.long _), none, some (.long _), none, some (.long _), none], [], _)) rfl (u_ rfl) ?_
          refine w_t (pc := 34) (e_s := (2, 2, 5, 0, 0, .null, [])) (y_s := (36, [some (.ref _), some (.ref _), some (.int _), some (.long _), none, some (.long _), none, some (.long _), none], [.long _], _)) rfl (u_ rfl) ?_
          refine wcI (pc := 36) (len_s := 3) rfl rfl (l := [some (.long _), none]) rfl ?_
          refine w_t (pc := 0) (e_s := (2, 1, 0, 0, 0, .null, [])) (y_s := (1, [some (.long _), none], [.long _], _)) rfl (u_ rfl) ?_
          refine w_t (pc := 1) (e_s := (0, 1, 0, 0, 0, .long 0, [])) (y_s := (2, [some (.long _), none], [.long _, .long _], _)) rfl (u_ rfl) ?_
          refine w_t (pc := 2) (e_s := (14, 1, 0, 0, 0, .null, [])) (y_s := (3, [some (.long _), none], [.int (lg_cmp _ _)], _)) rfl (u_ rfl) ?_
          refine wl2 (pc := 3) (len_s := 3) (Y := 0) rfl rfl (by decide) (fun c8_s => ?_) (fun c8_s => ?_)
          · replace t_s := t_s.1 c8_s
            refine w_t (pc := 18) (e_s := (0, 1, 0, 0, 0, .int 0, [])) (y_s := (19, [some (.long _), none], [.int _], _)) rfl (u_ rfl) ?_
            refine wrI (pc := 19) (len_s := 1) rfl hk ?_
            show wF _ 97 (39, [some (.ref _), some (.ref _), some (.int _), some (.long _), none, some (.long _), none, some (.long _), none], [.int _], _) _
            refine w_t (pc := 39) (e_s := (15, 3, 65, 0, 0, .null, [])) (y_s := (65, [some (.ref _), some (.ref _), some (.int _), some (.long _), none, some (.long _), none, some (.long _), none], [], _)) rfl (u_ rfl) ?_
            refine w_t (pc := 65) (e_s := (0, 1, 0, 0, 0, .int 0, [])) (y_s := (66, [some (.ref _), some (.ref _), some (.int _), some (.long _), none, some (.long _), none, some (.long _), none], [.int _], _)) rfl (u_ rfl) ?_
            refine wrI (pc := 66) (len_s := 1) rfl hk ?_
            show wF _ 96 (87, [some (.ref _), some (.int _), some (.int _), some (.int _), some (.ref _), some (.int _), some (.int _)], [.int _], _) _
            refine w_t (pc := 87) (e_s := (15, 3, 93, 1, 0, .null, [])) (y_s := (90, [some (.ref _), some (.int _), some (.int _), some (.int _), some (.ref _), some (.int _), some (.int _)], [], _)) rfl (u_ rfl) ?_
            refine w_t (pc := 90) (e_s := (1, 2, 5, 0, 0, .null, [])) (y_s := (92, [some (.ref _), some (.int _), some (.int _), some (.int _), some (.ref _), some (.int _), some (.int _)], [.int _], _)) rfl (u_ rfl) ?_
            exact wrI (pc := 92) (len_s := 1) rfl hk t_s
          · replace t_s := t_s.2 c8_s
            refine w_t (pc := 6) (e_s := (2, 1, 0, 0, 0, .null, [])) (y_s := (7, [some (.long _), none], [.long _], _)) rfl (u_ rfl) ?_
            refine w_t (pc := 7) (e_s := (0, 3, 0, 0, 0, .long 8, [(0, 1028)])) (y_s := (10, [some (.long _), none], [.long _, .long _], _)) rfl (u_ rfl) ?_
            refine w_t (pc := 10) (e_s := (14, 1, 0, 0, 0, .null, [])) (y_s := (11, [some (.long _), none], [.int (lg_cmp _ _)], _)) rfl (u_ rfl) ?_
            refine wl3 (pc := 11) (len_s := 3) (Y := 8) rfl rfl (by decide) (fun c9_s => ?_) (fun c9_s => ?_)
            · replace t_s := t_s.1 c9_s
              refine w_t (pc := 14) (e_s := (0, 1, 0, 0, 0, .int 1, [])) (y_s := (15, [some (.long _), none], [.int _], _)) rfl (u_ rfl) ?_
              refine w_t (pc := 15) (e_s := (17, 3, 19, 0, 0, .null, [])) (y_s := (19, [some (.long _), none], [.int _], _)) rfl (u_ rfl) ?_
              refine wrI (pc := 19) (len_s := 1) rfl hk ?_
              show wF _ 97 (39, [some (.ref _), some (.ref _), some (.int _), some (.long _), none, some (.long _), none, some (.long _), none], [.int _], _) _
              refine w_t (pc := 39) (e_s := (15, 3, 65, 0, 0, .null, [])) (y_s := (42, [some (.ref _), some (.ref _), some (.int _), some (.long _), none, some (.long _), none, some (.long _), none], [], _)) rfl (u_ rfl) ?_
              refine w_t (pc := 42) (e_s := (2, 1, 3, 0, 0, .null, [])) (y_s := (43, [some (.ref _), some (.ref _), some (.int _), some (.long _), none, some (.long _), none, some (.long _), none], [.long _], _)) rfl (u_ rfl) ?_
              refine w_t (pc := 43) (e_s := (2, 2, 5, 0, 0, .null, [])) (y_s := (45, [some (.ref _), some (.ref _), some (.int _), some (.long _), none, some (.long _), none, some (.long _), none], [.long _, .long _], _)) rfl (u_ rfl) ?_
              refine w_t (pc := 45) (e_s := (14, 1, 0, 0, 0, .null, [])) (y_s := (46, [some (.ref _), some (.ref _), some (.int _), some (.long _), none, some (.long _), none, some (.long _), none], [.int (lg_cmp _ _)], _)) rfl (u_ rfl) ?_
              refine wl0 (pc := 46) (len_s := 3) rfl rfl rfl (fun c10_s => ?_) (fun c10_s => ?_)
              · replace t_s := t_s.1 c10_s
                refine w_t (pc := 65) (e_s := (0, 1, 0, 0, 0, .int 0, [])) (y_s := (66, [some (.ref _), some (.ref _), some (.int _), some (.long _), none, some (.long _), none, some (.long _), none], [.int _], _)) rfl (u_ rfl) ?_
                refine wrI (pc := 66) (len_s := 1) rfl hk ?_
                show wF _ 96 (87, [some (.ref _), some (.int _), some (.int _), some (.int _), some (.ref _), some (.int _), some (.int _)], [.int _], _) _
                refine w_t (pc := 87) (e_s := (15, 3, 93, 1, 0, .null, [])) (y_s := (90, [some (.ref _), some (.int _), some (.int _), some (.int _), some (.ref _), some (.int _), some (.int _)], [], _)) rfl (u_ rfl) ?_
                refine w_t (pc := 90) (e_s := (1, 2, 5, 0, 0, .null, [])) (y_s := (92, [some (.ref _), some (.int _), some (.int _), some (.int _), some (.ref _), some (.int _), some (.int _)], [.int _], _)) rfl (u_ rfl) ?_
                exact wrI (pc := 92) (len_s := 1) rfl hk t_s
              · replace t_s := t_s.2 c10_s
                refine w_t (pc := 49) (e_s := (2, 2, 7, 0, 0, .null, [])) (y_s := (51, [some (.ref _), some (.ref _), some (.int _), some (.long _), none, some (.long _), none, some (.long _), none], [.long _], _)) rfl (u_ rfl) ?_
                refine w_t (pc := 51) (e_s := (0, 1, 0, 0, 0, .long 1, [])) (y_s := (52, [some (.ref _), some (.ref _), some (.int _), some (.long _), none, some (.long _), none, some (.long _), none], [.long _, .long _], _)) rfl (u_ rfl) ?_
                refine w_t (pc := 52) (e_s := (14, 1, 0, 0, 0, .null, [])) (y_s := (53, [some (.ref _), some (.ref _), some (.int _), some (.long _), none, some (.long _), none, some (.long _), none], [.int (lg_cmp _ _)], _)) rfl (u_ rfl) ?_
                refine wl2 (pc := 53) (len_s := 3) (Y := 1) rfl rfl (by decide) (fun c11_s => ?_) (fun c11_s => ?_)
                · replace t_s := t_s.1 c11_s
                  refine w_t (pc := 65) (e_s := (0, 1, 0, 0, 0, .int 0, [])) (y_s := (66, [some (.ref _), some (.ref _), some (.int _), some (.long _), none, some (.long _), none, some (.long _), none], [.int _], _)) rfl (u_ rfl) ?_
                  refine wrI (pc := 66) (len_s := 1) rfl hk ?_
                  show wF _ 96 (87, [some (.ref _), some (.int _), some (.int _), some (.int _), some (.ref _), some (.int _), some (.int _)], [.int _], _) _
                  refine w_t (pc := 87) (e_s := (15, 3, 93, 1, 0, .null, [])) (y_s := (90, [some (.ref _), some (.int _), some (.int _), some (.int _), some (.ref _), some (.int _), some (.int _)], [], _)) rfl (u_ rfl) ?_
                  refine w_t (pc := 90) (e_s := (1, 2, 5, 0, 0, .null, [])) (y_s := (92, [some (.ref _), some (.int _), some (.int _), some (.int _), some (.ref _), some (.int _), some (.int _)], [.int _], _)) rfl (u_ rfl) ?_
                  exact wrI (pc := 92) (len_s := 1) rfl hk t_s
                · replace t_s := t_s.2 c11_s
                  refine w_t (pc := 56) (e_s := (2, 2, 7, 0, 0, .null, [])) (y_s := (58, [some (.ref _), some (.ref _), some (.int _), some (.long _), none, some (.long _), none, some (.long _), none], [.long _], _)) rfl (u_ rfl) ?_
                  refine w_t (pc := 58) (e_s := (0, 3, 0, 0, 0, .long 9, [(0, 946)])) (y_s := (61, [some (.ref _), some (.ref _), some (.int _), some (.long _), none, some (.long _), none, some (.long _), none], [.long _, .long _], _)) rfl (u_ rfl) ?_
                  refine w_t (pc := 61) (e_s := (14, 1, 0, 0, 0, .null, [])) (y_s := (62, [some (.ref _), some (.ref _), some (.int _), some (.long _), none, some (.long _), none, some (.long _), none], [.int (lg_cmp _ _)], _)) rfl (u_ rfl) ?_
                  refine wl5 (pc := 62) (len_s := 3) (Y := 9) rfl rfl (by decide) (fun c12_s => ?_) (fun c12_s => ?_)
                  · replace t_s := t_s.1 c12_s
                    refine w_t (pc := 65) (e_s := (0, 1, 0, 0, 0, .int 0, [])) (y_s := (66, [some (.ref _), some (.ref _), some (.int _), some (.long _), none, some (.long _), none, some (.long _), none], [.int _], _)) rfl (u_ rfl) ?_
                    refine wrI (pc := 66) (len_s := 1) rfl hk ?_
                    show wF _ 96 (87, [some (.ref _), some (.int _), some (.int _), some (.int _), some (.ref _), some (.int _), some (.int _)], [.int _], _) _
                    refine w_t (pc := 87) (e_s := (15, 3, 93, 1, 0, .null, [])) (y_s := (90, [some (.ref _), some (.int _), some (.int _), some (.int _), some (.ref _), some (.int _), some (.int _)], [], _)) rfl (u_ rfl) ?_
                    refine w_t (pc := 90) (e_s := (1, 2, 5, 0, 0, .null, [])) (y_s := (92, [some (.ref _), some (.int _), some (.int _), some (.int _), some (.ref _), some (.int _), some (.int _)], [.int _], _)) rfl (u_ rfl) ?_
                    exact wrI (pc := 92) (len_s := 1) rfl hk t_s
                  · replace t_s := t_s.2 c12_s
                    refine w_t (pc := 67) (e_s := (3, 1, 0, 0, 0, .null, [])) (y_s := (68, [some (.ref _), some (.ref _), some (.int _), some (.long _), none, some (.long _), none, some (.long _), none], [.ref _], _)) rfl (u_ rfl) ?_
                    refine w20r (pc := 68) (len_s := 3) (q_s := 7) rfl (krq hk rfl) ?_
                    refine w_t (pc := 71) (e_s := (2, 1, 3, 0, 0, .null, [])) (y_s := (72, [some (.ref _), some (.ref _), some (.int _), some (.long _), none, some (.long _), none, some (.long _), none], [.long _, .ref _], _)) rfl (u_ rfl) ?_
                    refine w_t (pc := 72) (e_s := (11, 1, 0, 0, 0, .null, [])) (y_s := (73, [some (.ref _), some (.ref _), some (.int _), some (.long _), none, some (.long _), none, some (.long _), none], [.int (Int64.toInt32 _), .ref _], _)) rfl (u_ rfl) ?_
                    refine w_t (pc := 73) (e_s := (2, 2, 5, 0, 0, .null, [])) (y_s := (75, [some (.ref _), some (.ref _), some (.int _), some (.long _), none, some (.long _), none, some (.long _), none], [.long _, .int _, .ref _], _)) rfl (u_ rfl) ?_
                    refine w_t (pc := 75) (e_s := (11, 1, 0, 0, 0, .null, [])) (y_s := (76, [some (.ref _), some (.ref _), some (.int _), some (.long _), none, some (.long _), none, some (.long _), none], [.int (Int64.toInt32 _), .int _, .ref _], _)) rfl (u_ rfl) ?_
                    refine w_t (pc := 76) (e_s := (2, 2, 7, 0, 0, .null, [])) (y_s := (78, [some (.ref _), some (.ref _), some (.int _), some (.long _), none, some (.long _), none, some (.long _), none], [.long _, .int _, .int _, .ref _], _)) rfl (u_ rfl) ?_
                    refine w_t (pc := 78) (e_s := (11, 1, 0, 0, 0, .null, [])) (y_s := (79, [some (.ref _), some (.ref _), some (.int _), some (.long _), none, some (.long _), none, some (.long _), none], [.int (Int64.toInt32 _), .int _, .int _, .ref _], _)) rfl (u_ rfl) ?_
                    refine wcI (pc := 79) (len_s := 3) rfl rfl (l := [some (.ref _), some (.int _), some (.int _), some (.int _), none]) rfl ?_
                    refine w_t (pc := 0) (e_s := (3, 1, 0, 0, 0, .null, [])) (y_s := (1, [some (.ref _), some (.int _), some (.int _), some (.int _), none], [.ref _], _)) rfl (u_ rfl) ?_
                    refine w20 (pc := 1) (len_s := 3) rfl ?_
                    refine w_t (pc := 4) (e_s := (0, 2, 0, 0, 0, .int 12, [])) (y_s := (6, [some (.ref _), some (.int _), some (.int _), some (.int _), none], [.int _, .int _], _)) rfl (u_ rfl) ?_
                    refine wi2 (pc := 6) (len_s := 3) (Y := 12) rfl rfl (by decide) (fun c13_s => ?_) (fun c13_s => ?_)
                    · replace t_s := t_s.1 c13_s
                      refine w_t (pc := 12) (e_s := (3, 1, 0, 0, 0, .null, [])) (y_s := (13, [some (.ref _), some (.int _), some (.int _), some (.int _), none], [.ref _], _)) rfl (u_ rfl) ?_
                      refine w20r (pc := 13) (len_s := 3) (q_s := 11) rfl (krq hk rfl) ?_
                      refine w_t (pc := 16) (e_s := (3, 1, 0, 0, 0, .null, [])) (y_s := (17, [some (.ref _), some (.int _), some (.int _), some (.int _), none], [.ref _, .ref _], _)) rfl (u_ rfl) ?_
                      refine w20 (pc := 17) (len_s := 3) rfl ?_
                      refine w24 (g_s := fun j_ => 28 + j_) (pc := 20) (len_s := 1) hk rfl (hk.1 11 3 12 rfl rfl) kg11 (fun c14_s => ?_)
                      replace t_s := t_s c14_s
                      refine w_t (pc := 21) (e_s := (6, 2, 4, 0, 0, .null, [])) (y_s := (23, [some (.ref _), some (.int _), some (.int _), some (.int _), some (.ref _)], [], _)) rfl (u_ rfl) ?_
                      refine w_t (pc := 23) (e_s := (3, 2, 4, 0, 0, .null, [])) (y_s := (25, [some (.ref _), some (.int _), some (.int _), some (.int _), some (.ref _)], [.ref _], _)) rfl (u_ rfl) ?_
                      refine w_t (pc := 25) (e_s := (1, 1, 1, 0, 0, .null, [])) (y_s := (26, [some (.ref _), some (.int _), some (.int _), some (.int _), some (.ref _)], [.int _, .ref _], _)) rfl (u_ rfl) ?_
                      refine w21 (pc := 26) (len_s := 3) rfl ?_
                      refine w_t (pc := 29) (e_s := (3, 2, 4, 0, 0, .null, [])) (y_s := (31, [some (.ref _), some (.int _), some (.int _), some (.int _), some (.ref _)], [.ref _], _)) rfl (u_ rfl) ?_
                      refine w_t (pc := 31) (e_s := (1, 1, 2, 0, 0, .null, [])) (y_s := (32, [some (.ref _), some (.int _), some (.int _), some (.int _), some (.ref _)], [.int _, .ref _], _)) rfl (u_ rfl) ?_
                      refine w21 (pc := 32) (len_s := 3) rfl ?_
                      refine w_t (pc := 35) (e_s := (3, 2, 4, 0, 0, .null, [])) (y_s := (37, [some (.ref _), some (.int _), some (.int _), some (.int _), some (.ref _)], [.ref _], _)) rfl (u_ rfl) ?_
                      refine w_t (pc := 37) (e_s := (1, 1, 3, 0, 0, .null, [])) (y_s := (38, [some (.ref _), some (.int _), some (.int _), some (.int _), some (.ref _)], [.int _, .ref _], _)) rfl (u_ rfl) ?_
                      refine w21 (pc := 38) (len_s := 3) rfl ?_
                      refine w_t (pc := 41) (e_s := (3, 1, 0, 0, 0, .null, [])) (y_s := (42, [some (.ref _), some (.int _), some (.int _), some (.int _), some (.ref _)], [.ref _], _)) rfl (u_ rfl) ?_
                      refine w_t (pc := 42) (e_s := (39, 1, 0, 0, 0, .null, [])) (y_s := (43, [some (.ref _), some (.int _), some (.int _), some (.int _), some (.ref _)], [.ref _, .ref _], _)) rfl (u_ rfl) ?_
                      refine w20 (pc := 43) (len_s := 3) rfl ?_
                      refine w_t (pc := 46) (e_s := (40, 1, 0, 0, 0, .null, [])) (y_s := (47, [some (.ref _), some (.int _), some (.int _), some (.int _), some (.ref _)], [.int _, .ref _, .int _], _)) rfl (u_ rfl) ?_
                      refine w_t (pc := 47) (e_s := (0, 1, 0, 0, 0, .int 1, [])) (y_s := (48, [some (.ref _), some (.int _), some (.int _), some (.int _), some (.ref _)], [.int _, .int _, .ref _, .int _], _)) rfl (u_ rfl) ?_
                      refine w_t (pc := 48) (e_s := (7, 1, 0, 0, 0, .null, [])) (y_s := (49, [some (.ref _), some (.int _), some (.int _), some (.int _), some (.ref _)], [.int (_ + _), .ref _, .int _], _)) rfl (u_ rfl) ?_
                      refine w21 (pc := 49) (len_s := 3) rfl ?_
                      refine wrI (pc := 52) (len_s := 1) rfl hk ?_
                      show wF _ 97 (82, [some (.ref _), some (.ref _), some (.int _), some (.long _), none, some (.long _), none, some (.long _), none], [.int _], _) _
                      refine wq2 (pc := 82) (len_s := 3) rfl rfl (fun c15_s => ?_) (fun c15_s => ?_)
                      · replace t_s := t_s.1 c15_s
                        refine w_t (pc := 89) (e_s := (0, 1, 0, 0, 0, .int 0, [])) (y_s := (90, [some (.ref _), some (.ref _), some (.int _), some (.long _), none, some (.long _), none, some (.long _), none], [.int _], _)) rfl (u_ rfl) ?_
                        refine wrI (pc := 90) (len_s := 1) rfl hk ?_
                        show wF _ 96 (87, [some (.ref _), some (.int _), some (.int _), some (.int _), some (.ref _), some (.int _), some (.int _)], [.int _], _) _
                        refine w_t (pc := 87) (e_s := (15, 3, 93, 1, 0, .null, [])) (y_s := (90, [some (.ref _), some (.int _), some (.int _), some (.int _), some (.ref _), some (.int _), some (.int _)], [], _)) rfl (u_ rfl) ?_
                        refine w_t (pc := 90) (e_s := (1, 2, 5, 0, 0, .null, [])) (y_s := (92, [some (.ref _), some (.int _), some (.int _), some (.int _), some (.ref _), some (.int _), some (.int _)], [.int _], _)) rfl (u_ rfl) ?_
                        exact wrI (pc := 92) (len_s := 1) rfl hk t_s
                      · replace t_s := t_s.2 c15_s
                        refine w_t (pc := 85) (e_s := (0, 1, 0, 0, 0, .int 1, [])) (y_s := (86, [some (.ref _), some (.ref _), some (.int _), some (.long _), none, some (.long _), none, some (.long _), none], [.int _], _)) rfl (u_ rfl) ?_
                        refine w_t (pc := 86) (e_s := (17, 3, 90, 0, 0, .null, [])) (y_s := (90, [some (.ref _), some (.ref _), some (.int _), some (.long _), none, some (.long _), none, some (.long _), none], [.int _], _)) rfl (u_ rfl) ?_
                        refine wrI (pc := 90) (len_s := 1) rfl hk ?_
                        show wF _ 96 (87, [some (.ref _), some (.int _), some (.int _), some (.int _), some (.ref _), some (.int _), some (.int _)], [.int _], _) _
                        refine w_t (pc := 87) (e_s := (15, 3, 93, 1, 0, .null, [])) (y_s := (93, [some (.ref _), some (.int _), some (.int _), some (.int _), some (.ref _), some (.int _), some (.int _)], [], _)) rfl (u_ rfl) ?_
                        refine w_t (pc := 93) (e_s := (19, 3, 5, 0, 0, .int 1, [])) (y_s := (96, [some (.ref _), some (.int _), some (.int _), some (.int _), some (.ref _), some (.int _), some (.int _)], [], _)) rfl (u_ rfl) ?_
                        refine w_t (pc := 96) (e_s := (19, 3, 6, 0, 0, .int 3, [])) (y_s := (99, [some (.ref _), some (.int _), some (.int _), some (.int _), some (.ref _), some (.int _), some (.int _)], [], _)) rfl (u_ rfl) ?_
                        refine w_t (pc := 99) (e_s := (17, 3, 61, 0, 0, .null, [])) (y_s := (61, [some (.ref _), some (.int _), some (.int _), some (.int _), some (.ref _), some (.int _), some (.int _)], [], _)) rfl (u_ rfl) ?_
                        exact t_s
                    · replace t_s := t_s.2 c13_s
                      refine w_t (pc := 9) (e_s := (0, 2, 0, 0, 0, .int (-3), [])) (y_s := (11, [some (.ref _), some (.int _), some (.int _), some (.int _), none], [.int _], _)) rfl (u_ rfl) ?_
                      refine wrI (pc := 11) (len_s := 1) rfl hk ?_
                      show wF _ 97 (82, [some (.ref _), some (.ref _), some (.int _), some (.long _), none, some (.long _), none, some (.long _), none], [.int _], _) _
                      refine w_t (pc := 82) (e_s := (15, 3, 89, 2, 0, .null, [])) (y_s := (89, [some (.ref _), some (.ref _), some (.int _), some (.long _), none, some (.long _), none, some (.long _), none], [], _)) rfl (u_ rfl) ?_
                      refine w_t (pc := 89) (e_s := (0, 1, 0, 0, 0, .int 0, [])) (y_s := (90, [some (.ref _), some (.ref _), some (.int _), some (.long _), none, some (.long _), none, some (.long _), none], [.int _], _)) rfl (u_ rfl) ?_
                      refine wrI (pc := 90) (len_s := 1) rfl hk ?_
                      show wF _ 96 (87, [some (.ref _), some (.int _), some (.int _), some (.int _), some (.ref _), some (.int _), some (.int _)], [.int _], _) _
                      refine w_t (pc := 87) (e_s := (15, 3, 93, 1, 0, .null, [])) (y_s := (90, [some (.ref _), some (.int _), some (.int _), some (.int _), some (.ref _), some (.int _), some (.int _)], [], _)) rfl (u_ rfl) ?_
                      refine w_t (pc := 90) (e_s := (1, 2, 5, 0, 0, .null, [])) (y_s := (92, [some (.ref _), some (.int _), some (.int _), some (.int _), some (.ref _), some (.int _), some (.int _)], [.int _], _)) rfl (u_ rfl) ?_
                      exact wrI (pc := 92) (len_s := 1) rfl hk t_s
            · replace t_s := t_s.2 c9_s
              refine w_t (pc := 18) (e_s := (0, 1, 0, 0, 0, .int 0, [])) (y_s := (19, [some (.long _), none], [.int _], _)) rfl (u_ rfl) ?_
              refine wrI (pc := 19) (len_s := 1) rfl hk ?_
              show wF _ 97 (39, [some (.ref _), some (.ref _), some (.int _), some (.long _), none, some (.long _), none, some (.long _), none], [.int _], _) _
              refine w_t (pc := 39) (e_s := (15, 3, 65, 0, 0, .null, [])) (y_s := (65, [some (.ref _), some (.ref _), some (.int _), some (.long _), none, some (.long _), none, some (.long _), none], [], _)) rfl (u_ rfl) ?_
              refine w_t (pc := 65) (e_s := (0, 1, 0, 0, 0, .int 0, [])) (y_s := (66, [some (.ref _), some (.ref _), some (.int _), some (.long _), none, some (.long _), none, some (.long _), none], [.int _], _)) rfl (u_ rfl) ?_
              refine wrI (pc := 66) (len_s := 1) rfl hk ?_
              show wF _ 96 (87, [some (.ref _), some (.int _), some (.int _), some (.int _), some (.ref _), some (.int _), some (.int _)], [.int _], _) _
              refine w_t (pc := 87) (e_s := (15, 3, 93, 1, 0, .null, [])) (y_s := (90, [some (.ref _), some (.int _), some (.int _), some (.int _), some (.ref _), some (.int _), some (.int _)], [], _)) rfl (u_ rfl) ?_
              refine w_t (pc := 90) (e_s := (1, 2, 5, 0, 0, .null, [])) (y_s := (92, [some (.ref _), some (.int _), some (.int _), some (.int _), some (.ref _), some (.int _), some (.int _)], [.int _], _)) rfl (u_ rfl) ?_
              exact wrI (pc := 92) (len_s := 1) rfl hk t_s
        · replace t_s := t_s.2 c7_s
          refine w_t (pc := 18) (e_s := (0, 1, 0, 0, 0, .int 0, [])) (y_s := (19, [some (.long _), none], [.int _], _)) rfl (u_ rfl) ?_
          refine wrI (pc := 19) (len_s := 1) rfl hk ?_
          show wF _ 97 (31, [some (.ref _), some (.ref _), some (.int _), some (.long _), none, some (.long _), none, some (.long _), none], [.int _], _) _
          refine w_t (pc := 31) (e_s := (15, 3, 65, 0, 0, .null, [])) (y_s := (65, [some (.ref _), some (.ref _), some (.int _), some (.long _), none, some (.long _), none, some (.long _), none], [], _)) rfl (u_ rfl) ?_
          refine w_t (pc := 65) (e_s := (0, 1, 0, 0, 0, .int 0, [])) (y_s := (66, [some (.ref _), some (.ref _), some (.int _), some (.long _), none, some (.long _), none, some (.long _), none], [.int _], _)) rfl (u_ rfl) ?_
          refine wrI (pc := 66) (len_s := 1) rfl hk ?_
          show wF _ 96 (87, [some (.ref _), some (.int _), some (.int _), some (.int _), some (.ref _), some (.int _), some (.int _)], [.int _], _) _
          refine w_t (pc := 87) (e_s := (15, 3, 93, 1, 0, .null, [])) (y_s := (90, [some (.ref _), some (.int _), some (.int _), some (.int _), some (.ref _), some (.int _), some (.int _)], [], _)) rfl (u_ rfl) ?_
          refine w_t (pc := 90) (e_s := (1, 2, 5, 0, 0, .null, [])) (y_s := (92, [some (.ref _), some (.int _), some (.int _), some (.int _), some (.ref _), some (.int _), some (.int _)], [.int _], _)) rfl (u_ rfl) ?_
          exact wrI (pc := 92) (len_s := 1) rfl hk t_s
    · replace t_s := t_s.2 c2_s
      refine w_t (pc := 102) (e_s := (1, 2, 5, 0, 0, .null, [])) (y_s := (104, [some (.ref _), some (.int _), some (.int _), some (.int _), some (.ref _), some (.int _), some (.int _)], [.int _], _)) rfl (u_ rfl) ?_
      exact wrI (pc := 104) (len_s := 1) rfl hk t_s
  · replace t_s := t_s.2 c1_s
    refine w_t (pc := 102) (e_s := (1, 2, 5, 0, 0, .null, [])) (y_s := (104, [some (.ref _), some (.int _), some (.int _), some (.int _), some (.ref _), some (.int _), some (.int _)], [.int _], _)) rfl (u_ rfl) ?_
    exact wrI (pc := 104) (len_s := 1) rfl hk t_s
/-- ColdShodModel.roads(III)I, from 0 on -/
theorem sg_160_0 {F_s : Nat} {x1_s : Int32} {x2_s : Int32} {x3 : Int32} {h_s : zH} {K_s : Int32 → zH → Prop} (hk : hKn h_s) (t_s : (x1_s.toInt < 0 → K_s (-1) h_s) ∧ (¬ x1_s.toInt < 0 → ((5 < x1_s.toInt → K_s (-1) h_s) ∧ (¬ 5 < x1_s.toInt → ((x3.toInt < 1 → K_s (-1) h_s) ∧ (¬ x3.toInt < 1 → ((12 < x3.toInt → K_s (-1) h_s) ∧ (¬ 12 < x3.toInt → (zix x1_s < 6 → ((h_s.2.1 124 (zix x1_s)).toInt < 0 → (((h_s.2.1 124 (zix x1_s)).toInt = 50 → ((x2_s.toInt < 0 → wF F_s 160 (69, [some (.ref 102), some (.int x1_s), some (.int x2_s), some (.int x3), some (.int 0), some (.int 0), none], [], h_s) (gI K_s)) ∧ (¬ x2_s.toInt < 0 → wF F_s 160 (69, [some (.ref 102), some (.int x1_s), some (.int x2_s), some (.int x3), some (.int 0), some (.int 1), none], [], h_s) (gI K_s)))) ∧ (¬ (h_s.2.1 124 (zix x1_s)).toInt = 50 → wF F_s 160 (69, [some (.ref 102), some (.int x1_s), some (.int x2_s), some (.int x3), some (.int 0), some (.int 0), none], [], h_s) (gI K_s)))) ∧ (¬ (h_s.2.1 124 (zix x1_s)).toInt < 0 → (((h_s.2.1 124 (zix x1_s)).toInt = 50 → ((x2_s.toInt < 0 → wF F_s 160 (69, [some (.ref 102), some (.int x1_s), some (.int x2_s), some (.int x3), some (.int 0), some (.int 0), none], [], h_s) (gI K_s)) ∧ (¬ x2_s.toInt < 0 → wF F_s 160 (69, [some (.ref 102), some (.int x1_s), some (.int x2_s), some (.int x3), some (.int 0), some (.int 1), none], [], h_s) (gI K_s)))) ∧ (¬ (h_s.2.1 124 (zix x1_s)).toInt = 50 → K_s (-12) h_s)))))))))))) : wF (F_s + 1) 160 (0, [some (.ref 102), some (.int x1_s), some (.int x2_s), some (.int x3), none, none, none], [], h_s) (gI K_s) := by
  refine w_0 (pc := 0) (e_s := (1, 1, 1, 0, 0, .null, [])) (y_s := (1, [some (.ref _), some (.int _), some (.int _), some (.int _), none, none, none], [.int _], _)) rfl (u_ rfl) ?_
  refine wcI (pc := 1) (len_s := 3) rfl rfl (l := [some (.int _)]) rfl ?_
  refine w_t (pc := 0) (e_s := (1, 1, 0, 0, 0, .null, [])) (y_s := (1, [some (.int _)], [.int _], _)) rfl (u_ rfl) ?_
  refine w_t (pc := 1) (e_s := (10, 1, 0, 0, 0, .null, [])) (y_s := (2, [some (.int _)], [.long (Int32.toInt64 _)], _)) rfl (u_ rfl) ?_
  refine w_t (pc := 2) (e_s := (0, 1, 0, 0, 0, .long 0, [])) (y_s := (3, [some (.int _)], [.long _, .long _], _)) rfl (u_ rfl) ?_
  refine w_t (pc := 3) (e_s := (0, 3, 0, 0, 0, .long 5, [(0, 1063)])) (y_s := (6, [some (.int _)], [.long _, .long _, .long _], _)) rfl (u_ rfl) ?_
  refine wcI (pc := 6) (len_s := 3) rfl rfl (l := [some (.long _), none, some (.long _), none, some (.long _), none]) rfl ?_
  refine w_t (pc := 0) (e_s := (2, 1, 0, 0, 0, .null, [])) (y_s := (1, [some (.long _), none, some (.long _), none, some (.long _), none], [.long _], _)) rfl (u_ rfl) ?_
  refine w_t (pc := 1) (e_s := (2, 1, 2, 0, 0, .null, [])) (y_s := (2, [some (.long _), none, some (.long _), none, some (.long _), none], [.long _, .long _], _)) rfl (u_ rfl) ?_
  refine w_t (pc := 2) (e_s := (14, 1, 0, 0, 0, .null, [])) (y_s := (3, [some (.long _), none, some (.long _), none, some (.long _), none], [.int (lg_cmp _ _)], _)) rfl (u_ rfl) ?_
  refine wl2 (pc := 3) (len_s := 3) (Y := 0) rfl (Int32.toInt_toInt64 _) (by decide) (fun c1_s => ?_) (fun c1_s => ?_)
  · replace t_s := t_s.1 c1_s
    refine w_t (pc := 17) (e_s := (0, 1, 0, 0, 0, .int 0, [])) (y_s := (18, [some (.long _), none, some (.long _), none, some (.long _), none], [.int _], _)) rfl (u_ rfl) ?_
    refine wrI (pc := 18) (len_s := 1) rfl hk ?_
    show wF _ 228 (9, [some (.int _)], [.int _], _) _
    refine wrI (pc := 9) (len_s := 1) rfl hk ?_
    show wF _ 160 (4, [some (.ref _), some (.int _), some (.int _), some (.int _), none, none, none], [.int _], _) _
    refine w_t (pc := 4) (e_s := (15, 3, 19, 0, 0, .null, [])) (y_s := (19, [some (.ref _), some (.int _), some (.int _), some (.int _), none, none, none], [], _)) rfl (u_ rfl) ?_
    refine w_t (pc := 19) (e_s := (0, 1, 0, 0, 0, .int (-1), [])) (y_s := (20, [some (.ref _), some (.int _), some (.int _), some (.int _), none, none, none], [.int _], _)) rfl (u_ rfl) ?_
    exact wrI (pc := 20) (len_s := 1) rfl hk t_s
  · replace t_s := t_s.2 c1_s
    refine w_t (pc := 6) (e_s := (2, 1, 0, 0, 0, .null, [])) (y_s := (7, [some (.long _), none, some (.long _), none, some (.long _), none], [.long _], _)) rfl (u_ rfl) ?_
    refine w_t (pc := 7) (e_s := (2, 2, 4, 0, 0, .null, [])) (y_s := (9, [some (.long _), none, some (.long _), none, some (.long _), none], [.long _, .long _], _)) rfl (u_ rfl) ?_
    refine w_t (pc := 9) (e_s := (14, 1, 0, 0, 0, .null, [])) (y_s := (10, [some (.long _), none, some (.long _), none, some (.long _), none], [.int (lg_cmp _ _)], _)) rfl (u_ rfl) ?_
    refine wl4 (pc := 10) (len_s := 3) (Y := 5) rfl (Int32.toInt_toInt64 _) (by decide) (fun c2_s => ?_) (fun c2_s => ?_)
    · replace t_s := t_s.1 c2_s
      refine w_t (pc := 17) (e_s := (0, 1, 0, 0, 0, .int 0, [])) (y_s := (18, [some (.long _), none, some (.long _), none, some (.long _), none], [.int _], _)) rfl (u_ rfl) ?_
      refine wrI (pc := 18) (len_s := 1) rfl hk ?_
      show wF _ 228 (9, [some (.int _)], [.int _], _) _
      refine wrI (pc := 9) (len_s := 1) rfl hk ?_
      show wF _ 160 (4, [some (.ref _), some (.int _), some (.int _), some (.int _), none, none, none], [.int _], _) _
      refine w_t (pc := 4) (e_s := (15, 3, 19, 0, 0, .null, [])) (y_s := (19, [some (.ref _), some (.int _), some (.int _), some (.int _), none, none, none], [], _)) rfl (u_ rfl) ?_
      refine w_t (pc := 19) (e_s := (0, 1, 0, 0, 0, .int (-1), [])) (y_s := (20, [some (.ref _), some (.int _), some (.int _), some (.int _), none, none, none], [.int _], _)) rfl (u_ rfl) ?_
      exact wrI (pc := 20) (len_s := 1) rfl hk t_s
    · replace t_s := t_s.2 c2_s
      refine w_t (pc := 13) (e_s := (0, 1, 0, 0, 0, .int 1, [])) (y_s := (14, [some (.long _), none, some (.long _), none, some (.long _), none], [.int _], _)) rfl (u_ rfl) ?_
      refine w_t (pc := 14) (e_s := (17, 3, 18, 0, 0, .null, [])) (y_s := (18, [some (.long _), none, some (.long _), none, some (.long _), none], [.int _], _)) rfl (u_ rfl) ?_
      refine wrI (pc := 18) (len_s := 1) rfl hk ?_
      show wF _ 228 (9, [some (.int _)], [.int _], _) _
      refine wrI (pc := 9) (len_s := 1) rfl hk ?_
      show wF _ 160 (4, [some (.ref _), some (.int _), some (.int _), some (.int _), none, none, none], [.int _], _) _
      refine w_t (pc := 4) (e_s := (15, 3, 19, 0, 0, .null, [])) (y_s := (7, [some (.ref _), some (.int _), some (.int _), some (.int _), none, none, none], [], _)) rfl (u_ rfl) ?_
      refine w_t (pc := 7) (e_s := (1, 1, 3, 0, 0, .null, [])) (y_s := (8, [some (.ref _), some (.int _), some (.int _), some (.int _), none, none, none], [.int _], _)) rfl (u_ rfl) ?_
      refine w_t (pc := 8) (e_s := (10, 1, 0, 0, 0, .null, [])) (y_s := (9, [some (.ref _), some (.int _), some (.int _), some (.int _), none, none, none], [.long (Int32.toInt64 _)], _)) rfl (u_ rfl) ?_
      refine w_t (pc := 9) (e_s := (0, 1, 0, 0, 0, .long 1, [])) (y_s := (10, [some (.ref _), some (.int _), some (.int _), some (.int _), none, none, none], [.long _, .long _], _)) rfl (u_ rfl) ?_
      refine w_t (pc := 10) (e_s := (0, 3, 0, 0, 0, .long 12, [(0, 1070)])) (y_s := (13, [some (.ref _), some (.int _), some (.int _), some (.int _), none, none, none], [.long _, .long _, .long _], _)) rfl (u_ rfl) ?_
      refine wcI (pc := 13) (len_s := 3) rfl rfl (l := [some (.long _), none, some (.long _), none, some (.long _), none]) rfl ?_
      refine w_t (pc := 0) (e_s := (2, 1, 0, 0, 0, .null, [])) (y_s := (1, [some (.long _), none, some (.long _), none, some (.long _), none], [.long _], _)) rfl (u_ rfl) ?_
      refine w_t (pc := 1) (e_s := (2, 1, 2, 0, 0, .null, [])) (y_s := (2, [some (.long _), none, some (.long _), none, some (.long _), none], [.long _, .long _], _)) rfl (u_ rfl) ?_
      refine w_t (pc := 2) (e_s := (14, 1, 0, 0, 0, .null, [])) (y_s := (3, [some (.long _), none, some (.long _), none, some (.long _), none], [.int (lg_cmp _ _)], _)) rfl (u_ rfl) ?_
      refine wl2 (pc := 3) (len_s := 3) (Y := 1) rfl (Int32.toInt_toInt64 _) (by decide) (fun c3_s => ?_) (fun c3_s => ?_)
      · replace t_s := t_s.1 c3_s
        refine w_t (pc := 17) (e_s := (0, 1, 0, 0, 0, .int 0, [])) (y_s := (18, [some (.long _), none, some (.long _), none, some (.long _), none], [.int _], _)) rfl (u_ rfl) ?_
        refine wrI (pc := 18) (len_s := 1) rfl hk ?_
        show wF _ 160 (16, [some (.ref _), some (.int _), some (.int _), some (.int _), none, none, none], [.int _], _) _
        refine w_t (pc := 16) (e_s := (15, 3, 21, 1, 0, .null, [])) (y_s := (19, [some (.ref _), some (.int _), some (.int _), some (.int _), none, none, none], [], _)) rfl (u_ rfl) ?_
        refine w_t (pc := 19) (e_s := (0, 1, 0, 0, 0, .int (-1), [])) (y_s := (20, [some (.ref _), some (.int _), some (.int _), some (.int _), none, none, none], [.int _], _)) rfl (u_ rfl) ?_
        exact wrI (pc := 20) (len_s := 1) rfl hk t_s
      · replace t_s := t_s.2 c3_s
        refine w_t (pc := 6) (e_s := (2, 1, 0, 0, 0, .null, [])) (y_s := (7, [some (.long _), none, some (.long _), none, some (.long _), none], [.long _], _)) rfl (u_ rfl) ?_
        refine w_t (pc := 7) (e_s := (2, 2, 4, 0, 0, .null, [])) (y_s := (9, [some (.long _), none, some (.long _), none, some (.long _), none], [.long _, .long _], _)) rfl (u_ rfl) ?_
        refine w_t (pc := 9) (e_s := (14, 1, 0, 0, 0, .null, [])) (y_s := (10, [some (.long _), none, some (.long _), none, some (.long _), none], [.int (lg_cmp _ _)], _)) rfl (u_ rfl) ?_
        refine wl4 (pc := 10) (len_s := 3) (Y := 12) rfl (Int32.toInt_toInt64 _) (by decide) (fun c4_s => ?_) (fun c4_s => ?_)
        · replace t_s := t_s.1 c4_s
          refine w_t (pc := 17) (e_s := (0, 1, 0, 0, 0, .int 0, [])) (y_s := (18, [some (.long _), none, some (.long _), none, some (.long _), none], [.int _], _)) rfl (u_ rfl) ?_
          refine wrI (pc := 18) (len_s := 1) rfl hk ?_
          show wF _ 160 (16, [some (.ref _), some (.int _), some (.int _), some (.int _), none, none, none], [.int _], _) _
          refine w_t (pc := 16) (e_s := (15, 3, 21, 1, 0, .null, [])) (y_s := (19, [some (.ref _), some (.int _), some (.int _), some (.int _), none, none, none], [], _)) rfl (u_ rfl) ?_
          refine w_t (pc := 19) (e_s := (0, 1, 0, 0, 0, .int (-1), [])) (y_s := (20, [some (.ref _), some (.int _), some (.int _), some (.int _), none, none, none], [.int _], _)) rfl (u_ rfl) ?_
          exact wrI (pc := 20) (len_s := 1) rfl hk t_s
        · replace t_s := t_s.2 c4_s
          refine w_t (pc := 13) (e_s := (0, 1, 0, 0, 0, .int 1, [])) (y_s := (14, [some (.long _), none, some (.long _), none, some (.long _), none], [.int _], _)) rfl (u_ rfl) ?_
          refine w_t (pc := 14) (e_s := (17, 3, 18, 0, 0, .null, [])) (y_s := (18, [some (.long _), none, some (.long _), none, some (.long _), none], [.int _], _)) rfl (u_ rfl) ?_
          refine wrI (pc := 18) (len_s := 1) rfl hk ?_
          show wF _ 160 (16, [some (.ref _), some (.int _), some (.int _), some (.int _), none, none, none], [.int _], _) _
          refine w_t (pc := 16) (e_s := (15, 3, 21, 1, 0, .null, [])) (y_s := (21, [some (.ref _), some (.int _), some (.int _), some (.int _), none, none, none], [], _)) rfl (u_ rfl) ?_
          refine w_t (pc := 21) (e_s := (3, 1, 0, 0, 0, .null, [])) (y_s := (22, [some (.ref _), some (.int _), some (.int _), some (.int _), none, none, none], [.ref _], _)) rfl (u_ rfl) ?_
          refine w20r (pc := 22) (len_s := 3) (q_s := 124) rfl (krq hk rfl) ?_
          refine w_t (pc := 25) (e_s := (1, 1, 1, 0, 0, .null, [])) (y_s := (26, [some (.ref _), some (.int _), some (.int _), some (.int _), none, none, none], [.int _, .ref _], _)) rfl (u_ rfl) ?_
          refine w22 (pc := 26) (len_s := 1) rfl (hk.1 124 0 6 rfl rfl) (fun c5_s => ?_)
          replace t_s := t_s c5_s
          refine wq2 (pc := 27) (len_s := 3) rfl rfl (fun c6_s => ?_) (fun c6_s => ?_)
          · replace t_s := t_s.1 c6_s
            refine w_t (pc := 44) (e_s := (0, 1, 0, 0, 0, .int 0, [])) (y_s := (45, [some (.ref _), some (.int _), some (.int _), some (.int _), none, none, none], [.int _], _)) rfl (u_ rfl) ?_
            refine w_t (pc := 45) (e_s := (4, 2, 4, 0, 0, .null, [])) (y_s := (47, [some (.ref _), some (.int _), some (.int _), some (.int _), some (.int _), none, none], [], _)) rfl (u_ rfl) ?_
            refine w_t (pc := 47) (e_s := (3, 1, 0, 0, 0, .null, [])) (y_s := (48, [some (.ref _), some (.int _), some (.int _), some (.int _), some (.int _), none, none], [.ref _], _)) rfl (u_ rfl) ?_
            refine w20r (pc := 48) (len_s := 3) (q_s := 124) rfl (krq hk rfl) ?_
            refine w_t (pc := 51) (e_s := (1, 1, 1, 0, 0, .null, [])) (y_s := (52, [some (.ref _), some (.int _), some (.int _), some (.int _), some (.int _), none, none], [.int _, .ref _], _)) rfl (u_ rfl) ?_
            refine w22 (pc := 52) (len_s := 1) rfl (hk.1 124 0 6 rfl rfl) (fun c7_s => ?_)
            refine w_t (pc := 53) (e_s := (0, 2, 0, 0, 0, .int 50, [])) (y_s := (55, [some (.ref _), some (.int _), some (.int _), some (.int _), some (.int _), none, none], [.int _, .int _], _)) rfl (u_ rfl) ?_
            refine wi1 (pc := 55) (len_s := 3) (Y := 50) rfl rfl (by decide) (fun c8_s => ?_) (fun c8_s => ?_)
            · replace t_s := t_s.1 c8_s
              refine w_t (pc := 58) (e_s := (1, 1, 2, 0, 0, .null, [])) (y_s := (59, [some (.ref _), some (.int _), some (.int _), some (.int _), some (.int _), none, none], [.int _], _)) rfl (u_ rfl) ?_
              refine wq2 (pc := 59) (len_s := 3) rfl rfl (fun c9_s => ?_) (fun c9_s => ?_)
              · replace t_s := t_s.1 c9_s
                refine w_t (pc := 66) (e_s := (0, 1, 0, 0, 0, .int 0, [])) (y_s := (67, [some (.ref _), some (.int _), some (.int _), some (.int _), some (.int _), none, none], [.int _], _)) rfl (u_ rfl) ?_
                refine w_t (pc := 67) (e_s := (4, 2, 5, 0, 0, .null, [])) (y_s := (69, [some (.ref _), some (.int _), some (.int _), some (.int _), some (.int _), some (.int _), none], [], _)) rfl (u_ rfl) ?_
                exact t_s
              · replace t_s := t_s.2 c9_s
                refine w_t (pc := 62) (e_s := (0, 1, 0, 0, 0, .int 1, [])) (y_s := (63, [some (.ref _), some (.int _), some (.int _), some (.int _), some (.int _), none, none], [.int _], _)) rfl (u_ rfl) ?_
                refine w_t (pc := 63) (e_s := (17, 3, 67, 0, 0, .null, [])) (y_s := (67, [some (.ref _), some (.int _), some (.int _), some (.int _), some (.int _), none, none], [.int _], _)) rfl (u_ rfl) ?_
                refine w_t (pc := 67) (e_s := (4, 2, 5, 0, 0, .null, [])) (y_s := (69, [some (.ref _), some (.int _), some (.int _), some (.int _), some (.int _), some (.int _), none], [], _)) rfl (u_ rfl) ?_
                exact t_s
            · replace t_s := t_s.2 c8_s
              refine w_t (pc := 66) (e_s := (0, 1, 0, 0, 0, .int 0, [])) (y_s := (67, [some (.ref _), some (.int _), some (.int _), some (.int _), some (.int _), none, none], [.int _], _)) rfl (u_ rfl) ?_
              refine w_t (pc := 67) (e_s := (4, 2, 5, 0, 0, .null, [])) (y_s := (69, [some (.ref _), some (.int _), some (.int _), some (.int _), some (.int _), some (.int _), none], [], _)) rfl (u_ rfl) ?_
              exact t_s
          · replace t_s := t_s.2 c6_s
            refine w_t (pc := 30) (e_s := (3, 1, 0, 0, 0, .null, [])) (y_s := (31, [some (.ref _), some (.int _), some (.int _), some (.int _), none, none, none], [.ref _], _)) rfl (u_ rfl) ?_
            refine w20r (pc := 31) (len_s := 3) (q_s := 124) rfl (krq hk rfl) ?_
            refine w_t (pc := 34) (e_s := (1, 1, 1, 0, 0, .null, [])) (y_s := (35, [some (.ref _), some (.int _), some (.int _), some (.int _), none, none, none], [.int _, .ref _], _)) rfl (u_ rfl) ?_
            refine w22 (pc := 35) (len_s := 1) rfl (hk.1 124 0 6 rfl rfl) (fun c10_s => ?_)
            refine w_t (pc := 36) (e_s := (0, 2, 0, 0, 0, .int 50, [])) (y_s := (38, [some (.ref _), some (.int _), some (.int _), some (.int _), none, none, none], [.int _, .int _], _)) rfl (u_ rfl) ?_
            refine wi0 (pc := 38) (len_s := 3) (Y := 50) rfl rfl (by decide) (fun c11_s => ?_) (fun c11_s => ?_)
            · replace t_s := t_s.1 c11_s
              refine w_t (pc := 44) (e_s := (0, 1, 0, 0, 0, .int 0, [])) (y_s := (45, [some (.ref _), some (.int _), some (.int _), some (.int _), none, none, none], [.int _], _)) rfl (u_ rfl) ?_
              refine w_t (pc := 45) (e_s := (4, 2, 4, 0, 0, .null, [])) (y_s := (47, [some (.ref _), some (.int _), some (.int _), some (.int _), some (.int _), none, none], [], _)) rfl (u_ rfl) ?_
              refine w_t (pc := 47) (e_s := (3, 1, 0, 0, 0, .null, [])) (y_s := (48, [some (.ref _), some (.int _), some (.int _), some (.int _), some (.int _), none, none], [.ref _], _)) rfl (u_ rfl) ?_
              refine w20r (pc := 48) (len_s := 3) (q_s := 124) rfl (krq hk rfl) ?_
              refine w_t (pc := 51) (e_s := (1, 1, 1, 0, 0, .null, [])) (y_s := (52, [some (.ref _), some (.int _), some (.int _), some (.int _), some (.int _), none, none], [.int _, .ref _], _)) rfl (u_ rfl) ?_
              refine w22 (pc := 52) (len_s := 1) rfl (hk.1 124 0 6 rfl rfl) (fun c12_s => ?_)
              refine w_t (pc := 53) (e_s := (0, 2, 0, 0, 0, .int 50, [])) (y_s := (55, [some (.ref _), some (.int _), some (.int _), some (.int _), some (.int _), none, none], [.int _, .int _], _)) rfl (u_ rfl) ?_
              refine wi1 (pc := 55) (len_s := 3) (Y := 50) rfl rfl (by decide) (fun c13_s => ?_) (fun c13_s => ?_)
              · skip
                refine w_t (pc := 58) (e_s := (1, 1, 2, 0, 0, .null, [])) (y_s := (59, [some (.ref _), some (.int _), some (.int _), some (.int _), some (.int _), none, none], [.int _], _)) rfl (u_ rfl) ?_
                refine wq2 (pc := 59) (len_s := 3) rfl rfl (fun c14_s => ?_) (fun c14_s => ?_)
                · replace t_s := t_s.1 c14_s
                  refine w_t (pc := 66) (e_s := (0, 1, 0, 0, 0, .int 0, [])) (y_s := (67, [some (.ref _), some (.int _), some (.int _), some (.int _), some (.int _), none, none], [.int _], _)) rfl (u_ rfl) ?_
                  refine w_t (pc := 67) (e_s := (4, 2, 5, 0, 0, .null, [])) (y_s := (69, [some (.ref _), some (.int _), some (.int _), some (.int _), some (.int _), some (.int _), none], [], _)) rfl (u_ rfl) ?_
                  exact t_s
                · replace t_s := t_s.2 c14_s
                  refine w_t (pc := 62) (e_s := (0, 1, 0, 0, 0, .int 1, [])) (y_s := (63, [some (.ref _), some (.int _), some (.int _), some (.int _), some (.int _), none, none], [.int _], _)) rfl (u_ rfl) ?_
                  refine w_t (pc := 63) (e_s := (17, 3, 67, 0, 0, .null, [])) (y_s := (67, [some (.ref _), some (.int _), some (.int _), some (.int _), some (.int _), none, none], [.int _], _)) rfl (u_ rfl) ?_
                  refine w_t (pc := 67) (e_s := (4, 2, 5, 0, 0, .null, [])) (y_s := (69, [some (.ref _), some (.int _), some (.int _), some (.int _), some (.int _), some (.int _), none], [], _)) rfl (u_ rfl) ?_
                  exact t_s
              · exact absurd c11_s c13_s
            · replace t_s := t_s.2 c11_s
              refine w_t (pc := 41) (e_s := (0, 2, 0, 0, 0, .int (-12), [])) (y_s := (43, [some (.ref _), some (.int _), some (.int _), some (.int _), none, none, none], [.int _], _)) rfl (u_ rfl) ?_
              exact wrI (pc := 43) (len_s := 1) rfl hk t_s
/-- ColdShodModel.roads(III)I, from 69 on -/
theorem sg_160_69 {F_s : Nat} {x1_s x2_s x3 x4_s x5_s : Int32} {l6 : Option Value} {h_s : zH} {K_s : Int32 → zH → Prop} (hk : hKn h_s) (t_s : (x5_s.toInt = 0 → K_s x4_s h_s) ∧ (¬ x5_s.toInt = 0 → ((x4_s.toInt < x3.toInt → (zix x1_s < 6 → ((((h_s.2.1 125 (zix x1_s)) - 3) - (3 * x4_s)).toInt < x2_s.toInt → wF F_s 160 (126, [some (.ref 102), some (.int x1_s), some (.int x2_s), some (.int x3), some (.int x4_s), some (.int 0), some (.int (((60 * x1_s) + x2_s) + (3 * x4_s)))], [], h_s) (gI K_s)) ∧ (¬ (((h_s.2.1 125 (zix x1_s)) - 3) - (3 * x4_s)).toInt < x2_s.toInt → (((h_s.2.1 102 8).toInt < 12 → wF F_s 160 (126, [some (.ref 102), some (.int x1_s), some (.int x2_s), some (.int x3), some (.int x4_s), some (.int 1), some (.int (((60 * x1_s) + x2_s) + (3 * x4_s)))], [], h_s) (gI K_s)) ∧ (¬ (h_s.2.1 102 8).toInt < 12 → wF F_s 160 (126, [some (.ref 102), some (.int x1_s), some (.int x2_s), some (.int x3), some (.int x4_s), some (.int 0), some (.int (((60 * x1_s) + x2_s) + (3 * x4_s)))], [], h_s) (gI K_s)))))) ∧ (¬ x4_s.toInt < x3.toInt → K_s x4_s h_s)))) : wF (F_s + 1) 160 (69, [some (.ref 102), some (.int x1_s), some (.int x2_s), some (.int x3), some (.int x4_s), some (.int x5_s), l6], [], h_s) (gI K_s) := by
  refine w_0 (pc := 69) (e_s := (1, 2, 5, 0, 0, .null, [])) (y_s := (71, [some (.ref _), some (.int _), some (.int _), some (.int _), some (.int _), some (.int _), _], [.int _], _)) rfl (u_ rfl) ?_
  refine wq0 (pc := 71) (len_s := 3) rfl rfl (fun c1_s => ?_) (fun c1_s => ?_)
  · replace t_s := t_s.1 c1_s
    refine w_t (pc := 212) (e_s := (1, 2, 4, 0, 0, .null, [])) (y_s := (214, [some (.ref _), some (.int _), some (.int _), some (.int _), some (.int _), some (.int _), _], [.int _], _)) rfl (u_ rfl) ?_
    exact wrI (pc := 214) (len_s := 1) rfl hk t_s
  · replace t_s := t_s.2 c1_s
    refine w_t (pc := 74) (e_s := (1, 2, 4, 0, 0, .null, [])) (y_s := (76, [some (.ref _), some (.int _), some (.int _), some (.int _), some (.int _), some (.int _), _], [.int _], _)) rfl (u_ rfl) ?_
    refine w_t (pc := 76) (e_s := (1, 1, 3, 0, 0, .null, [])) (y_s := (77, [some (.ref _), some (.int _), some (.int _), some (.int _), some (.int _), some (.int _), _], [.int _, .int _], _)) rfl (u_ rfl) ?_
    refine wi3 (pc := 77) (len_s := 3) rfl rfl rfl (fun c2_s => ?_) (fun c2_s => ?_)
    · replace t_s := t_s.1 c2_s
      refine w_t (pc := 80) (e_s := (1, 1, 2, 0, 0, .null, [])) (y_s := (81, [some (.ref _), some (.int _), some (.int _), some (.int _), some (.int _), some (.int _), _], [.int _], _)) rfl (u_ rfl) ?_
      refine w_t (pc := 81) (e_s := (3, 1, 0, 0, 0, .null, [])) (y_s := (82, [some (.ref _), some (.int _), some (.int _), some (.int _), some (.int _), some (.int _), _], [.ref _, .int _], _)) rfl (u_ rfl) ?_
      refine w20r (pc := 82) (len_s := 3) (q_s := 125) rfl (krq hk rfl) ?_
      refine w_t (pc := 85) (e_s := (1, 1, 1, 0, 0, .null, [])) (y_s := (86, [some (.ref _), some (.int _), some (.int _), some (.int _), some (.int _), some (.int _), _], [.int _, .ref _, .int _], _)) rfl (u_ rfl) ?_
      refine w22 (pc := 86) (len_s := 1) rfl (hk.1 125 0 6 rfl rfl) (fun c3_s => ?_)
      replace t_s := t_s c3_s
      refine w_t (pc := 87) (e_s := (0, 1, 0, 0, 0, .int 3, [])) (y_s := (88, [some (.ref _), some (.int _), some (.int _), some (.int _), some (.int _), some (.int _), _], [.int _, .int _, .int _], _)) rfl (u_ rfl) ?_
      refine w_t (pc := 88) (e_s := (7, 1, 0, 1, 0, .null, [])) (y_s := (89, [some (.ref _), some (.int _), some (.int _), some (.int _), some (.int _), some (.int _), _], [.int (_ - _), .int _], _)) rfl (u_ rfl) ?_
      refine w_t (pc := 89) (e_s := (0, 1, 0, 0, 0, .int 3, [])) (y_s := (90, [some (.ref _), some (.int _), some (.int _), some (.int _), some (.int _), some (.int _), _], [.int _, .int _, .int _], _)) rfl (u_ rfl) ?_
      refine w_t (pc := 90) (e_s := (1, 2, 4, 0, 0, .null, [])) (y_s := (92, [some (.ref _), some (.int _), some (.int _), some (.int _), some (.int _), some (.int _), _], [.int _, .int _, .int _, .int _], _)) rfl (u_ rfl) ?_
      refine w_t (pc := 92) (e_s := (7, 1, 0, 2, 0, .null, [])) (y_s := (93, [some (.ref _), some (.int _), some (.int _), some (.int _), some (.int _), some (.int _), _], [.int (_ * _), .int _, .int _], _)) rfl (u_ rfl) ?_
      refine w_t (pc := 93) (e_s := (7, 1, 0, 1, 0, .null, [])) (y_s := (94, [some (.ref _), some (.int _), some (.int _), some (.int _), some (.int _), some (.int _), _], [.int (_ - _), .int _], _)) rfl (u_ rfl) ?_
      refine wi4 (pc := 94) (len_s := 3) rfl rfl rfl (fun c4_s => ?_) (fun c4_s => ?_)
      · replace t_s := t_s.1 c4_s
        refine w_t (pc := 110) (e_s := (0, 1, 0, 0, 0, .int 0, [])) (y_s := (111, [some (.ref _), some (.int _), some (.int _), some (.int _), some (.int _), some (.int _), _], [.int _], _)) rfl (u_ rfl) ?_
        refine w_t (pc := 111) (e_s := (4, 2, 5, 0, 0, .null, [])) (y_s := (113, [some (.ref _), some (.int _), some (.int _), some (.int _), some (.int _), some (.int _), _], [], _)) rfl (u_ rfl) ?_
        refine w_t (pc := 113) (e_s := (0, 2, 0, 0, 0, .int 60, [])) (y_s := (115, [some (.ref _), some (.int _), some (.int _), some (.int _), some (.int _), some (.int _), _], [.int _], _)) rfl (u_ rfl) ?_
        refine w_t (pc := 115) (e_s := (1, 1, 1, 0, 0, .null, [])) (y_s := (116, [some (.ref _), some (.int _), some (.int _), some (.int _), some (.int _), some (.int _), _], [.int _, .int _], _)) rfl (u_ rfl) ?_
        refine w_t (pc := 116) (e_s := (7, 1, 0, 2, 0, .null, [])) (y_s := (117, [some (.ref _), some (.int _), some (.int _), some (.int _), some (.int _), some (.int _), _], [.int (_ * _)], _)) rfl (u_ rfl) ?_
        refine w_t (pc := 117) (e_s := (1, 1, 2, 0, 0, .null, [])) (y_s := (118, [some (.ref _), some (.int _), some (.int _), some (.int _), some (.int _), some (.int _), _], [.int _, .int _], _)) rfl (u_ rfl) ?_
        refine w_t (pc := 118) (e_s := (7, 1, 0, 0, 0, .null, [])) (y_s := (119, [some (.ref _), some (.int _), some (.int _), some (.int _), some (.int _), some (.int _), _], [.int (_ + _)], _)) rfl (u_ rfl) ?_
        refine w_t (pc := 119) (e_s := (0, 1, 0, 0, 0, .int 3, [])) (y_s := (120, [some (.ref _), some (.int _), some (.int _), some (.int _), some (.int _), some (.int _), _], [.int _, .int _], _)) rfl (u_ rfl) ?_
        refine w_t (pc := 120) (e_s := (1, 2, 4, 0, 0, .null, [])) (y_s := (122, [some (.ref _), some (.int _), some (.int _), some (.int _), some (.int _), some (.int _), _], [.int _, .int _, .int _], _)) rfl (u_ rfl) ?_
        refine w_t (pc := 122) (e_s := (7, 1, 0, 2, 0, .null, [])) (y_s := (123, [some (.ref _), some (.int _), some (.int _), some (.int _), some (.int _), some (.int _), _], [.int (_ * _), .int _], _)) rfl (u_ rfl) ?_
        refine w_t (pc := 123) (e_s := (7, 1, 0, 0, 0, .null, [])) (y_s := (124, [some (.ref _), some (.int _), some (.int _), some (.int _), some (.int _), some (.int _), _], [.int (_ + _)], _)) rfl (u_ rfl) ?_
        refine w_t (pc := 124) (e_s := (4, 2, 6, 0, 0, .null, [])) (y_s := (126, [some (.ref _), some (.int _), some (.int _), some (.int _), some (.int _), some (.int _), some (.int _)], [], _)) rfl (u_ rfl) ?_
        exact t_s
      · replace t_s := t_s.2 c4_s
        refine w_t (pc := 97) (e_s := (3, 1, 0, 0, 0, .null, [])) (y_s := (98, [some (.ref _), some (.int _), some (.int _), some (.int _), some (.int _), some (.int _), _], [.ref _], _)) rfl (u_ rfl) ?_
        refine w20 (pc := 98) (len_s := 3) rfl ?_
        refine w_t (pc := 101) (e_s := (0, 2, 0, 0, 0, .int 12, [])) (y_s := (103, [some (.ref _), some (.int _), some (.int _), some (.int _), some (.int _), some (.int _), _], [.int _, .int _], _)) rfl (u_ rfl) ?_
        refine wi3 (pc := 103) (len_s := 3) (Y := 12) rfl rfl (by decide) (fun c5_s => ?_) (fun c5_s => ?_)
        · replace t_s := t_s.1 c5_s
          refine w_t (pc := 106) (e_s := (0, 1, 0, 0, 0, .int 1, [])) (y_s := (107, [some (.ref _), some (.int _), some (.int _), some (.int _), some (.int _), some (.int _), _], [.int _], _)) rfl (u_ rfl) ?_
          refine w_t (pc := 107) (e_s := (17, 3, 111, 0, 0, .null, [])) (y_s := (111, [some (.ref _), some (.int _), some (.int _), some (.int _), some (.int _), some (.int _), _], [.int _], _)) rfl (u_ rfl) ?_
          refine w_t (pc := 111) (e_s := (4, 2, 5, 0, 0, .null, [])) (y_s := (113, [some (.ref _), some (.int _), some (.int _), some (.int _), some (.int _), some (.int _), _], [], _)) rfl (u_ rfl) ?_
          refine w_t (pc := 113) (e_s := (0, 2, 0, 0, 0, .int 60, [])) (y_s := (115, [some (.ref _), some (.int _), some (.int _), some (.int _), some (.int _), some (.int _), _], [.int _], _)) rfl (u_ rfl) ?_
          refine w_t (pc := 115) (e_s := (1, 1, 1, 0, 0, .null, [])) (y_s := (116, [some (.ref _), some (.int _), some (.int _), some (.int _), some (.int _), some (.int _), _], [.int _, .int _], _)) rfl (u_ rfl) ?_
          refine w_t (pc := 116) (e_s := (7, 1, 0, 2, 0, .null, [])) (y_s := (117, [some (.ref _), some (.int _), some (.int _), some (.int _), some (.int _), some (.int _), _], [.int (_ * _)], _)) rfl (u_ rfl) ?_
          refine w_t (pc := 117) (e_s := (1, 1, 2, 0, 0, .null, [])) (y_s := (118, [some (.ref _), some (.int _), some (.int _), some (.int _), some (.int _), some (.int _), _], [.int _, .int _], _)) rfl (u_ rfl) ?_
          refine w_t (pc := 118) (e_s := (7, 1, 0, 0, 0, .null, [])) (y_s := (119, [some (.ref _), some (.int _), some (.int _), some (.int _), some (.int _), some (.int _), _], [.int (_ + _)], _)) rfl (u_ rfl) ?_
          refine w_t (pc := 119) (e_s := (0, 1, 0, 0, 0, .int 3, [])) (y_s := (120, [some (.ref _), some (.int _), some (.int _), some (.int _), some (.int _), some (.int _), _], [.int _, .int _], _)) rfl (u_ rfl) ?_
          refine w_t (pc := 120) (e_s := (1, 2, 4, 0, 0, .null, [])) (y_s := (122, [some (.ref _), some (.int _), some (.int _), some (.int _), some (.int _), some (.int _), _], [.int _, .int _, .int _], _)) rfl (u_ rfl) ?_
          refine w_t (pc := 122) (e_s := (7, 1, 0, 2, 0, .null, [])) (y_s := (123, [some (.ref _), some (.int _), some (.int _), some (.int _), some (.int _), some (.int _), _], [.int (_ * _), .int _], _)) rfl (u_ rfl) ?_
          refine w_t (pc := 123) (e_s := (7, 1, 0, 0, 0, .null, [])) (y_s := (124, [some (.ref _), some (.int _), some (.int _), some (.int _), some (.int _), some (.int _), _], [.int (_ + _)], _)) rfl (u_ rfl) ?_
          refine w_t (pc := 124) (e_s := (4, 2, 6, 0, 0, .null, [])) (y_s := (126, [some (.ref _), some (.int _), some (.int _), some (.int _), some (.int _), some (.int _), some (.int _)], [], _)) rfl (u_ rfl) ?_
          exact t_s
        · replace t_s := t_s.2 c5_s
          refine w_t (pc := 110) (e_s := (0, 1, 0, 0, 0, .int 0, [])) (y_s := (111, [some (.ref _), some (.int _), some (.int _), some (.int _), some (.int _), some (.int _), _], [.int _], _)) rfl (u_ rfl) ?_
          refine w_t (pc := 111) (e_s := (4, 2, 5, 0, 0, .null, [])) (y_s := (113, [some (.ref _), some (.int _), some (.int _), some (.int _), some (.int _), some (.int _), _], [], _)) rfl (u_ rfl) ?_
          refine w_t (pc := 113) (e_s := (0, 2, 0, 0, 0, .int 60, [])) (y_s := (115, [some (.ref _), some (.int _), some (.int _), some (.int _), some (.int _), some (.int _), _], [.int _], _)) rfl (u_ rfl) ?_
          refine w_t (pc := 115) (e_s := (1, 1, 1, 0, 0, .null, [])) (y_s := (116, [some (.ref _), some (.int _), some (.int _), some (.int _), some (.int _), some (.int _), _], [.int _, .int _], _)) rfl (u_ rfl) ?_
          refine w_t (pc := 116) (e_s := (7, 1, 0, 2, 0, .null, [])) (y_s := (117, [some (.ref _), some (.int _), some (.int _), some (.int _), some (.int _), some (.int _), _], [.int (_ * _)], _)) rfl (u_ rfl) ?_
          refine w_t (pc := 117) (e_s := (1, 1, 2, 0, 0, .null, [])) (y_s := (118, [some (.ref _), some (.int _), some (.int _), some (.int _), some (.int _), some (.int _), _], [.int _, .int _], _)) rfl (u_ rfl) ?_
          refine w_t (pc := 118) (e_s := (7, 1, 0, 0, 0, .null, [])) (y_s := (119, [some (.ref _), some (.int _), some (.int _), some (.int _), some (.int _), some (.int _), _], [.int (_ + _)], _)) rfl (u_ rfl) ?_
          refine w_t (pc := 119) (e_s := (0, 1, 0, 0, 0, .int 3, [])) (y_s := (120, [some (.ref _), some (.int _), some (.int _), some (.int _), some (.int _), some (.int _), _], [.int _, .int _], _)) rfl (u_ rfl) ?_
          refine w_t (pc := 120) (e_s := (1, 2, 4, 0, 0, .null, [])) (y_s := (122, [some (.ref _), some (.int _), some (.int _), some (.int _), some (.int _), some (.int _), _], [.int _, .int _, .int _], _)) rfl (u_ rfl) ?_
          refine w_t (pc := 122) (e_s := (7, 1, 0, 2, 0, .null, [])) (y_s := (123, [some (.ref _), some (.int _), some (.int _), some (.int _), some (.int _), some (.int _), _], [.int (_ * _), .int _], _)) rfl (u_ rfl) ?_
          refine w_t (pc := 123) (e_s := (7, 1, 0, 0, 0, .null, [])) (y_s := (124, [some (.ref _), some (.int _), some (.int _), some (.int _), some (.int _), some (.int _), _], [.int (_ + _)], _)) rfl (u_ rfl) ?_
          refine w_t (pc := 124) (e_s := (4, 2, 6, 0, 0, .null, [])) (y_s := (126, [some (.ref _), some (.int _), some (.int _), some (.int _), some (.int _), some (.int _), some (.int _)], [], _)) rfl (u_ rfl) ?_
          exact t_s
    · replace t_s := t_s.2 c2_s
      refine w_t (pc := 212) (e_s := (1, 2, 4, 0, 0, .null, [])) (y_s := (214, [some (.ref _), some (.int _), some (.int _), some (.int _), some (.int _), some (.int _), _], [.int _], _)) rfl (u_ rfl) ?_
      exact wrI (pc := 214) (len_s := 1) rfl hk t_s
/-- ColdShodModel.roads(III)I, from 126 on -/
theorem sg_160_126 {F_s : Nat} {x1_s x2_s x3 x4_s x5_s x6 : Int32} {h_s : zH} {K_s : Int32 → zH → Prop} (hk : hKn h_s) (t_s : (x5_s.toInt = 0 → wF F_s 160 (69, [some (.ref 102), some (.int x1_s), some (.int x2_s), some (.int x3), some (.int x4_s), some (.int 0), some (.int x6)], [], h_s) (gI K_s)) ∧ (¬ x5_s.toInt = 0 → (zix x6 < 360 → (zix (x6 + 1) < 360 → (zix (x6 + 2) < 360 → ((h_s.2.2.1 126 (zix x6)).toInt < 0 → wF F_s 160 (69, [some (.ref 102), some (.int x1_s), some (.int x2_s), some (.int x3), some (.int x4_s), some (.int 0), some (.int x6)], [], h_s) (gI K_s)) ∧ (¬ (h_s.2.2.1 126 (zix x6)).toInt < 0 → ((7 < (h_s.2.2.1 126 (zix x6)).toInt → wF F_s 160 (69, [some (.ref 102), some (.int x1_s), some (.int x2_s), some (.int x3), some (.int x4_s), some (.int 0), some (.int x6)], [], h_s) (gI K_s)) ∧ (¬ 7 < (h_s.2.2.1 126 (zix x6)).toInt → (((h_s.2.2.1 126 (zix (x6 + 1))).toInt < 0 → wF F_s 160 (69, [some (.ref 102), some (.int x1_s), some (.int x2_s), some (.int x3), some (.int x4_s), some (.int 0), some (.int x6)], [], h_s) (gI K_s)) ∧ (¬ (h_s.2.2.1 126 (zix (x6 + 1))).toInt < 0 → ((7 < (h_s.2.2.1 126 (zix (x6 + 1))).toInt → wF F_s 160 (69, [some (.ref 102), some (.int x1_s), some (.int x2_s), some (.int x3), some (.int x4_s), some (.int 0), some (.int x6)], [], h_s) (gI K_s)) ∧ (¬ 7 < (h_s.2.2.1 126 (zix (x6 + 1))).toInt → (((h_s.2.2.1 126 (zix x6)).toInt = (h_s.2.2.1 126 (zix (x6 + 1))).toInt → wF F_s 160 (69, [some (.ref 102), some (.int x1_s), some (.int x2_s), some (.int x3), some (.int x4_s), some (.int 0), some (.int x6)], [], h_s) (gI K_s)) ∧ (¬ (h_s.2.2.1 126 (zix x6)).toInt = (h_s.2.2.1 126 (zix (x6 + 1))).toInt → (((h_s.2.2.1 126 (zix (x6 + 2))).toInt < 1 → wF F_s 160 (69, [some (.ref 102), some (.int x1_s), some (.int x2_s), some (.int x3), some (.int x4_s), some (.int 0), some (.int x6)], [], h_s) (gI K_s)) ∧ (¬ (h_s.2.2.1 126 (zix (x6 + 2))).toInt < 1 → ((9 < (h_s.2.2.1 126 (zix (x6 + 2))).toInt → wF F_s 160 (69, [some (.ref 102), some (.int x1_s), some (.int x2_s), some (.int x3), some (.int x4_s), some (.int 0), some (.int x6)], [], h_s) (gI K_s)) ∧ (¬ 9 < (h_s.2.2.1 126 (zix (x6 + 2))).toInt → (zix (h_s.2.1 102 8) < 12 → (zix (68 + (h_s.2.1 102 8)) < 104 → wF F_s 160 (69, [some (.ref 102), some (.int x1_s), some (.int x2_s), some (.int x3), some (.int (x4_s + 1)), some (.int 1), some (.int x6)], [], (h_s.1, zup (zup (zup (zup h_s.2.1 107 (zix (h_s.2.1 102 8)) ((h_s.2.2.1 126 (zix x6)).toInt32)) 108 (zix (h_s.2.1 102 8)) ((h_s.2.2.1 126 (zix (x6 + 1))).toInt32)) 103 (zix (68 + (h_s.2.1 102 8))) ((h_s.2.2.1 126 (zix (x6 + 2))).toInt32)) 102 8 ((h_s.2.1 102 8) + 1), h_s.2.2.1, h_s.2.2.2)) (gI K_s))))))))))))))))))))) : wF (F_s + 1) 160 (126, [some (.ref 102), some (.int x1_s), some (.int x2_s), some (.int x3), some (.int x4_s), some (.int x5_s), some (.int x6)], [], h_s) (gI K_s) := by
  refine w_0 (pc := 126) (e_s := (1, 2, 5, 0, 0, .null, [])) (y_s := (128, [some (.ref _), some (.int _), some (.int _), some (.int _), some (.int _), some (.int _), some (.int _)], [.int _], _)) rfl (u_ rfl) ?_
  refine wq0 (pc := 128) (len_s := 3) rfl rfl (fun c1_s => ?_) (fun c1_s => ?_)
  · replace t_s := t_s.1 c1_s
    refine w_t (pc := 166) (e_s := (0, 1, 0, 0, 0, .int 0, [])) (y_s := (167, [some (.ref _), some (.int _), some (.int _), some (.int _), some (.int _), some (.int _), some (.int _)], [.int _], _)) rfl (u_ rfl) ?_
    refine w_t (pc := 167) (e_s := (4, 2, 5, 0, 0, .null, [])) (y_s := (169, [some (.ref _), some (.int _), some (.int _), some (.int _), some (.int _), some (.int _), some (.int _)], [], _)) rfl (u_ rfl) ?_
    refine w_t (pc := 169) (e_s := (1, 2, 5, 0, 0, .null, [])) (y_s := (171, [some (.ref _), some (.int _), some (.int _), some (.int _), some (.int _), some (.int _), some (.int _)], [.int _], _)) rfl (u_ rfl) ?_
    refine w_t (pc := 171) (e_s := (15, 3, 209, 0, 0, .null, [])) (y_s := (209, [some (.ref _), some (.int _), some (.int _), some (.int _), some (.int _), some (.int _), some (.int _)], [], _)) rfl (u_ rfl) ?_
    refine w_t (pc := 209) (e_s := (17, 3, 69, 0, 0, .null, [])) (y_s := (69, [some (.ref _), some (.int _), some (.int _), some (.int _), some (.int _), some (.int _), some (.int _)], [], _)) rfl (u_ rfl) ?_
    exact t_s
  · replace t_s := t_s.2 c1_s
    refine w_t (pc := 131) (e_s := (3, 1, 0, 0, 0, .null, [])) (y_s := (132, [some (.ref _), some (.int _), some (.int _), some (.int _), some (.int _), some (.int _), some (.int _)], [.ref _], _)) rfl (u_ rfl) ?_
    refine w20r (pc := 132) (len_s := 3) (q_s := 126) rfl (krq hk rfl) ?_
    refine w_t (pc := 135) (e_s := (1, 2, 6, 0, 0, .null, [])) (y_s := (137, [some (.ref _), some (.int _), some (.int _), some (.int _), some (.int _), some (.int _), some (.int _)], [.int _, .ref _], _)) rfl (u_ rfl) ?_
    refine w23 (pc := 137) (len_s := 1) rfl (hk.1 126 1 360 rfl rfl) (fun c2_s => ?_)
    replace t_s := t_s c2_s
    refine w_t (pc := 138) (e_s := (3, 1, 0, 0, 0, .null, [])) (y_s := (139, [some (.ref _), some (.int _), some (.int _), some (.int _), some (.int _), some (.int _), some (.int _)], [.ref _, .long _], _)) rfl (u_ rfl) ?_
    refine w20r (pc := 139) (len_s := 3) (q_s := 126) rfl (krq hk rfl) ?_
    refine w_t (pc := 142) (e_s := (1, 2, 6, 0, 0, .null, [])) (y_s := (144, [some (.ref _), some (.int _), some (.int _), some (.int _), some (.int _), some (.int _), some (.int _)], [.int _, .ref _, .long _], _)) rfl (u_ rfl) ?_
    refine w_t (pc := 144) (e_s := (0, 1, 0, 0, 0, .int 1, [])) (y_s := (145, [some (.ref _), some (.int _), some (.int _), some (.int _), some (.int _), some (.int _), some (.int _)], [.int _, .int _, .ref _, .long _], _)) rfl (u_ rfl) ?_
    refine w_t (pc := 145) (e_s := (7, 1, 0, 0, 0, .null, [])) (y_s := (146, [some (.ref _), some (.int _), some (.int _), some (.int _), some (.int _), some (.int _), some (.int _)], [.int (_ + _), .ref _, .long _], _)) rfl (u_ rfl) ?_
    refine w23 (pc := 146) (len_s := 1) rfl (hk.1 126 1 360 rfl rfl) (fun c3_s => ?_)
    replace t_s := t_s c3_s
    refine w_t (pc := 147) (e_s := (3, 1, 0, 0, 0, .null, [])) (y_s := (148, [some (.ref _), some (.int _), some (.int _), some (.int _), some (.int _), some (.int _), some (.int _)], [.ref _, .long _, .long _], _)) rfl (u_ rfl) ?_
    refine w20r (pc := 148) (len_s := 3) (q_s := 126) rfl (krq hk rfl) ?_
    refine w_t (pc := 151) (e_s := (1, 2, 6, 0, 0, .null, [])) (y_s := (153, [some (.ref _), some (.int _), some (.int _), some (.int _), some (.int _), some (.int _), some (.int _)], [.int _, .ref _, .long _, .long _], _)) rfl (u_ rfl) ?_
    refine w_t (pc := 153) (e_s := (0, 1, 0, 0, 0, .int 2, [])) (y_s := (154, [some (.ref _), some (.int _), some (.int _), some (.int _), some (.int _), some (.int _), some (.int _)], [.int _, .int _, .ref _, .long _, .long _], _)) rfl (u_ rfl) ?_
    refine w_t (pc := 154) (e_s := (7, 1, 0, 0, 0, .null, [])) (y_s := (155, [some (.ref _), some (.int _), some (.int _), some (.int _), some (.int _), some (.int _), some (.int _)], [.int (_ + _), .ref _, .long _, .long _], _)) rfl (u_ rfl) ?_
    refine w23 (pc := 155) (len_s := 1) rfl (hk.1 126 1 360 rfl rfl) (fun c4_s => ?_)
    replace t_s := t_s c4_s
    refine wcI (pc := 156) (len_s := 3) rfl rfl (l := [some (.long _), none, some (.long _), none, some (.long _), none]) rfl ?_
    refine w_t (pc := 0) (e_s := (2, 1, 0, 0, 0, .null, [])) (y_s := (1, [some (.long _), none, some (.long _), none, some (.long _), none], [.long _], _)) rfl (u_ rfl) ?_
    refine wcI (pc := 1) (len_s := 3) rfl rfl (l := [some (.long _), none]) rfl ?_
    refine w_t (pc := 0) (e_s := (2, 1, 0, 0, 0, .null, [])) (y_s := (1, [some (.long _), none], [.long _], _)) rfl (u_ rfl) ?_
    refine w_t (pc := 1) (e_s := (0, 1, 0, 0, 0, .long 0, [])) (y_s := (2, [some (.long _), none], [.long _, .long _], _)) rfl (u_ rfl) ?_
    refine w_t (pc := 2) (e_s := (0, 3, 0, 0, 0, .long 7, [(0, 1062)])) (y_s := (5, [some (.long _), none], [.long _, .long _, .long _], _)) rfl (u_ rfl) ?_
    refine wcI (pc := 5) (len_s := 3) rfl rfl (l := [some (.long _), none, some (.long _), none, some (.long _), none]) rfl ?_
    refine w_t (pc := 0) (e_s := (2, 1, 0, 0, 0, .null, [])) (y_s := (1, [some (.long _), none, some (.long _), none, some (.long _), none], [.long _], _)) rfl (u_ rfl) ?_
    refine w_t (pc := 1) (e_s := (2, 1, 2, 0, 0, .null, [])) (y_s := (2, [some (.long _), none, some (.long _), none, some (.long _), none], [.long _, .long _], _)) rfl (u_ rfl) ?_
    refine w_t (pc := 2) (e_s := (14, 1, 0, 0, 0, .null, [])) (y_s := (3, [some (.long _), none, some (.long _), none, some (.long _), none], [.int (lg_cmp _ _)], _)) rfl (u_ rfl) ?_
    refine wl2 (pc := 3) (len_s := 3) (Y := 0) rfl rfl (by decide) (fun c5_s => ?_) (fun c5_s => ?_)
    · replace t_s := t_s.1 c5_s
      refine w_t (pc := 17) (e_s := (0, 1, 0, 0, 0, .int 0, [])) (y_s := (18, [some (.long _), none, some (.long _), none, some (.long _), none], [.int _], _)) rfl (u_ rfl) ?_
      refine wrI (pc := 18) (len_s := 1) rfl hk ?_
      show wF _ 154 (8, [some (.long _), none], [.int _], _) _
      refine wrI (pc := 8) (len_s := 1) rfl hk ?_
      show wF _ 157 (4, [some (.long _), none, some (.long _), none, some (.long _), none], [.int _], _) _
      refine w_t (pc := 4) (e_s := (15, 3, 36, 0, 0, .null, [])) (y_s := (36, [some (.long _), none, some (.long _), none, some (.long _), none], [], _)) rfl (u_ rfl) ?_
      refine w_t (pc := 36) (e_s := (0, 1, 0, 0, 0, .int 0, [])) (y_s := (37, [some (.long _), none, some (.long _), none, some (.long _), none], [.int _], _)) rfl (u_ rfl) ?_
      refine wrI (pc := 37) (len_s := 1) rfl hk ?_
      show wF _ 160 (159, [some (.ref _), some (.int _), some (.int _), some (.int _), some (.int _), some (.int _), some (.int _)], [.int _], _) _
      refine w_t (pc := 159) (e_s := (15, 3, 166, 0, 0, .null, [])) (y_s := (166, [some (.ref _), some (.int _), some (.int _), some (.int _), some (.int _), some (.int _), some (.int _)], [], _)) rfl (u_ rfl) ?_
      refine w_t (pc := 166) (e_s := (0, 1, 0, 0, 0, .int 0, [])) (y_s := (167, [some (.ref _), some (.int _), some (.int _), some (.int _), some (.int _), some (.int _), some (.int _)], [.int _], _)) rfl (u_ rfl) ?_
      refine w_t (pc := 167) (e_s := (4, 2, 5, 0, 0, .null, [])) (y_s := (169, [some (.ref _), some (.int _), some (.int _), some (.int _), some (.int _), some (.int _), some (.int _)], [], _)) rfl (u_ rfl) ?_
      refine w_t (pc := 169) (e_s := (1, 2, 5, 0, 0, .null, [])) (y_s := (171, [some (.ref _), some (.int _), some (.int _), some (.int _), some (.int _), some (.int _), some (.int _)], [.int _], _)) rfl (u_ rfl) ?_
      refine w_t (pc := 171) (e_s := (15, 3, 209, 0, 0, .null, [])) (y_s := (209, [some (.ref _), some (.int _), some (.int _), some (.int _), some (.int _), some (.int _), some (.int _)], [], _)) rfl (u_ rfl) ?_
      refine w_t (pc := 209) (e_s := (17, 3, 69, 0, 0, .null, [])) (y_s := (69, [some (.ref _), some (.int _), some (.int _), some (.int _), some (.int _), some (.int _), some (.int _)], [], _)) rfl (u_ rfl) ?_
      exact t_s
    · replace t_s := t_s.2 c5_s
      refine w_t (pc := 6) (e_s := (2, 1, 0, 0, 0, .null, [])) (y_s := (7, [some (.long _), none, some (.long _), none, some (.long _), none], [.long _], _)) rfl (u_ rfl) ?_
      refine w_t (pc := 7) (e_s := (2, 2, 4, 0, 0, .null, [])) (y_s := (9, [some (.long _), none, some (.long _), none, some (.long _), none], [.long _, .long _], _)) rfl (u_ rfl) ?_
      refine w_t (pc := 9) (e_s := (14, 1, 0, 0, 0, .null, [])) (y_s := (10, [some (.long _), none, some (.long _), none, some (.long _), none], [.int (lg_cmp _ _)], _)) rfl (u_ rfl) ?_
      refine wl4 (pc := 10) (len_s := 3) (Y := 7) rfl rfl (by decide) (fun c6_s => ?_) (fun c6_s => ?_)
      · replace t_s := t_s.1 c6_s
        refine w_t (pc := 17) (e_s := (0, 1, 0, 0, 0, .int 0, [])) (y_s := (18, [some (.long _), none, some (.long _), none, some (.long _), none], [.int _], _)) rfl (u_ rfl) ?_
        refine wrI (pc := 18) (len_s := 1) rfl hk ?_
        show wF _ 154 (8, [some (.long _), none], [.int _], _) _
        refine wrI (pc := 8) (len_s := 1) rfl hk ?_
        show wF _ 157 (4, [some (.long _), none, some (.long _), none, some (.long _), none], [.int _], _) _
        refine w_t (pc := 4) (e_s := (15, 3, 36, 0, 0, .null, [])) (y_s := (36, [some (.long _), none, some (.long _), none, some (.long _), none], [], _)) rfl (u_ rfl) ?_
        refine w_t (pc := 36) (e_s := (0, 1, 0, 0, 0, .int 0, [])) (y_s := (37, [some (.long _), none, some (.long _), none, some (.long _), none], [.int _], _)) rfl (u_ rfl) ?_
        refine wrI (pc := 37) (len_s := 1) rfl hk ?_
        show wF _ 160 (159, [some (.ref _), some (.int _), some (.int _), some (.int _), some (.int _), some (.int _), some (.int _)], [.int _], _) _
        refine w_t (pc := 159) (e_s := (15, 3, 166, 0, 0, .null, [])) (y_s := (166, [some (.ref _), some (.int _), some (.int _), some (.int _), some (.int _), some (.int _), some (.int _)], [], _)) rfl (u_ rfl) ?_
        refine w_t (pc := 166) (e_s := (0, 1, 0, 0, 0, .int 0, [])) (y_s := (167, [some (.ref _), some (.int _), some (.int _), some (.int _), some (.int _), some (.int _), some (.int _)], [.int _], _)) rfl (u_ rfl) ?_
        refine w_t (pc := 167) (e_s := (4, 2, 5, 0, 0, .null, [])) (y_s := (169, [some (.ref _), some (.int _), some (.int _), some (.int _), some (.int _), some (.int _), some (.int _)], [], _)) rfl (u_ rfl) ?_
        refine w_t (pc := 169) (e_s := (1, 2, 5, 0, 0, .null, [])) (y_s := (171, [some (.ref _), some (.int _), some (.int _), some (.int _), some (.int _), some (.int _), some (.int _)], [.int _], _)) rfl (u_ rfl) ?_
        refine w_t (pc := 171) (e_s := (15, 3, 209, 0, 0, .null, [])) (y_s := (209, [some (.ref _), some (.int _), some (.int _), some (.int _), some (.int _), some (.int _), some (.int _)], [], _)) rfl (u_ rfl) ?_
        refine w_t (pc := 209) (e_s := (17, 3, 69, 0, 0, .null, [])) (y_s := (69, [some (.ref _), some (.int _), some (.int _), some (.int _), some (.int _), some (.int _), some (.int _)], [], _)) rfl (u_ rfl) ?_
        exact t_s
      · replace t_s := t_s.2 c6_s
        refine w_t (pc := 13) (e_s := (0, 1, 0, 0, 0, .int 1, [])) (y_s := (14, [some (.long _), none, some (.long _), none, some (.long _), none], [.int _], _)) rfl (u_ rfl) ?_
        refine w_t (pc := 14) (e_s := (17, 3, 18, 0, 0, .null, [])) (y_s := (18, [some (.long _), none, some (.long _), none, some (.long _), none], [.int _], _)) rfl (u_ rfl) ?_
        refine wrI (pc := 18) (len_s := 1) rfl hk ?_
        show wF _ 154 (8, [some (.long _), none], [.int _], _) _
        refine wrI (pc := 8) (len_s := 1) rfl hk ?_
        show wF _ 157 (4, [some (.long _), none, some (.long _), none, some (.long _), none], [.int _], _) _
        refine w_t (pc := 4) (e_s := (15, 3, 36, 0, 0, .null, [])) (y_s := (7, [some (.long _), none, some (.long _), none, some (.long _), none], [], _)) rfl (u_ rfl) ?_
        refine w_t (pc := 7) (e_s := (2, 1, 2, 0, 0, .null, [])) (y_s := (8, [some (.long _), none, some (.long _), none, some (.long _), none], [.long _], _)) rfl (u_ rfl) ?_
        refine wcI (pc := 8) (len_s := 3) rfl rfl (l := [some (.long _), none]) rfl ?_
        refine w_t (pc := 0) (e_s := (2, 1, 0, 0, 0, .null, [])) (y_s := (1, [some (.long _), none], [.long _], _)) rfl (u_ rfl) ?_
        refine w_t (pc := 1) (e_s := (0, 1, 0, 0, 0, .long 0, [])) (y_s := (2, [some (.long _), none], [.long _, .long _], _)) rfl (u_ rfl) ?_
        refine w_t (pc := 2) (e_s := (0, 3, 0, 0, 0, .long 7, [(0, 1062)])) (y_s := (5, [some (.long _), none], [.long _, .long _, .long _], _)) rfl (u_ rfl) ?_
        refine wcI (pc := 5) (len_s := 3) rfl rfl (l := [some (.long _), none, some (.long _), none, some (.long _), none]) rfl ?_
        refine w_t (pc := 0) (e_s := (2, 1, 0, 0, 0, .null, [])) (y_s := (1, [some (.long _), none, some (.long _), none, some (.long _), none], [.long _], _)) rfl (u_ rfl) ?_
        refine w_t (pc := 1) (e_s := (2, 1, 2, 0, 0, .null, [])) (y_s := (2, [some (.long _), none, some (.long _), none, some (.long _), none], [.long _, .long _], _)) rfl (u_ rfl) ?_
        refine w_t (pc := 2) (e_s := (14, 1, 0, 0, 0, .null, [])) (y_s := (3, [some (.long _), none, some (.long _), none, some (.long _), none], [.int (lg_cmp _ _)], _)) rfl (u_ rfl) ?_
        refine wl2 (pc := 3) (len_s := 3) (Y := 0) rfl rfl (by decide) (fun c7_s => ?_) (fun c7_s => ?_)
        · replace t_s := t_s.1 c7_s
          refine w_t (pc := 17) (e_s := (0, 1, 0, 0, 0, .int 0, [])) (y_s := (18, [some (.long _), none, some (.long _), none, some (.long _), none], [.int _], _)) rfl (u_ rfl) ?_
          refine wrI (pc := 18) (len_s := 1) rfl hk ?_
          show wF _ 154 (8, [some (.long _), none], [.int _], _) _
          refine wrI (pc := 8) (len_s := 1) rfl hk ?_
          show wF _ 157 (11, [some (.long _), none, some (.long _), none, some (.long _), none], [.int _], _) _
          refine w_t (pc := 11) (e_s := (15, 3, 36, 0, 0, .null, [])) (y_s := (36, [some (.long _), none, some (.long _), none, some (.long _), none], [], _)) rfl (u_ rfl) ?_
          refine w_t (pc := 36) (e_s := (0, 1, 0, 0, 0, .int 0, [])) (y_s := (37, [some (.long _), none, some (.long _), none, some (.long _), none], [.int _], _)) rfl (u_ rfl) ?_
          refine wrI (pc := 37) (len_s := 1) rfl hk ?_
          show wF _ 160 (159, [some (.ref _), some (.int _), some (.int _), some (.int _), some (.int _), some (.int _), some (.int _)], [.int _], _) _
          refine w_t (pc := 159) (e_s := (15, 3, 166, 0, 0, .null, [])) (y_s := (166, [some (.ref _), some (.int _), some (.int _), some (.int _), some (.int _), some (.int _), some (.int _)], [], _)) rfl (u_ rfl) ?_
          refine w_t (pc := 166) (e_s := (0, 1, 0, 0, 0, .int 0, [])) (y_s := (167, [some (.ref _), some (.int _), some (.int _), some (.int _), some (.int _), some (.int _), some (.int _)], [.int _], _)) rfl (u_ rfl) ?_
          refine w_t (pc := 167) (e_s := (4, 2, 5, 0, 0, .null, [])) (y_s := (169, [some (.ref _), some (.int _), some (.int _), some (.int _), some (.int _), some (.int _), some (.int _)], [], _)) rfl (u_ rfl) ?_
          refine w_t (pc := 169) (e_s := (1, 2, 5, 0, 0, .null, [])) (y_s := (171, [some (.ref _), some (.int _), some (.int _), some (.int _), some (.int _), some (.int _), some (.int _)], [.int _], _)) rfl (u_ rfl) ?_
          refine w_t (pc := 171) (e_s := (15, 3, 209, 0, 0, .null, [])) (y_s := (209, [some (.ref _), some (.int _), some (.int _), some (.int _), some (.int _), some (.int _), some (.int _)], [], _)) rfl (u_ rfl) ?_
          refine w_t (pc := 209) (e_s := (17, 3, 69, 0, 0, .null, [])) (y_s := (69, [some (.ref _), some (.int _), some (.int _), some (.int _), some (.int _), some (.int _), some (.int _)], [], _)) rfl (u_ rfl) ?_
          exact t_s
        · replace t_s := t_s.2 c7_s
          refine w_t (pc := 6) (e_s := (2, 1, 0, 0, 0, .null, [])) (y_s := (7, [some (.long _), none, some (.long _), none, some (.long _), none], [.long _], _)) rfl (u_ rfl) ?_
          refine w_t (pc := 7) (e_s := (2, 2, 4, 0, 0, .null, [])) (y_s := (9, [some (.long _), none, some (.long _), none, some (.long _), none], [.long _, .long _], _)) rfl (u_ rfl) ?_
          refine w_t (pc := 9) (e_s := (14, 1, 0, 0, 0, .null, [])) (y_s := (10, [some (.long _), none, some (.long _), none, some (.long _), none], [.int (lg_cmp _ _)], _)) rfl (u_ rfl) ?_
          refine wl4 (pc := 10) (len_s := 3) (Y := 7) rfl rfl (by decide) (fun c8_s => ?_) (fun c8_s => ?_)
          · replace t_s := t_s.1 c8_s
            refine w_t (pc := 17) (e_s := (0, 1, 0, 0, 0, .int 0, [])) (y_s := (18, [some (.long _), none, some (.long _), none, some (.long _), none], [.int _], _)) rfl (u_ rfl) ?_
            refine wrI (pc := 18) (len_s := 1) rfl hk ?_
            show wF _ 154 (8, [some (.long _), none], [.int _], _) _
            refine wrI (pc := 8) (len_s := 1) rfl hk ?_
            show wF _ 157 (11, [some (.long _), none, some (.long _), none, some (.long _), none], [.int _], _) _
            refine w_t (pc := 11) (e_s := (15, 3, 36, 0, 0, .null, [])) (y_s := (36, [some (.long _), none, some (.long _), none, some (.long _), none], [], _)) rfl (u_ rfl) ?_
            refine w_t (pc := 36) (e_s := (0, 1, 0, 0, 0, .int 0, [])) (y_s := (37, [some (.long _), none, some (.long _), none, some (.long _), none], [.int _], _)) rfl (u_ rfl) ?_
            refine wrI (pc := 37) (len_s := 1) rfl hk ?_
            show wF _ 160 (159, [some (.ref _), some (.int _), some (.int _), some (.int _), some (.int _), some (.int _), some (.int _)], [.int _], _) _
            refine w_t (pc := 159) (e_s := (15, 3, 166, 0, 0, .null, [])) (y_s := (166, [some (.ref _), some (.int _), some (.int _), some (.int _), some (.int _), some (.int _), some (.int _)], [], _)) rfl (u_ rfl) ?_
            refine w_t (pc := 166) (e_s := (0, 1, 0, 0, 0, .int 0, [])) (y_s := (167, [some (.ref _), some (.int _), some (.int _), some (.int _), some (.int _), some (.int _), some (.int _)], [.int _], _)) rfl (u_ rfl) ?_
            refine w_t (pc := 167) (e_s := (4, 2, 5, 0, 0, .null, [])) (y_s := (169, [some (.ref _), some (.int _), some (.int _), some (.int _), some (.int _), some (.int _), some (.int _)], [], _)) rfl (u_ rfl) ?_
            refine w_t (pc := 169) (e_s := (1, 2, 5, 0, 0, .null, [])) (y_s := (171, [some (.ref _), some (.int _), some (.int _), some (.int _), some (.int _), some (.int _), some (.int _)], [.int _], _)) rfl (u_ rfl) ?_
            refine w_t (pc := 171) (e_s := (15, 3, 209, 0, 0, .null, [])) (y_s := (209, [some (.ref _), some (.int _), some (.int _), some (.int _), some (.int _), some (.int _), some (.int _)], [], _)) rfl (u_ rfl) ?_
            refine w_t (pc := 209) (e_s := (17, 3, 69, 0, 0, .null, [])) (y_s := (69, [some (.ref _), some (.int _), some (.int _), some (.int _), some (.int _), some (.int _), some (.int _)], [], _)) rfl (u_ rfl) ?_
            exact t_s
          · replace t_s := t_s.2 c8_s
            refine w_t (pc := 13) (e_s := (0, 1, 0, 0, 0, .int 1, [])) (y_s := (14, [some (.long _), none, some (.long _), none, some (.long _), none], [.int _], _)) rfl (u_ rfl) ?_
            refine w_t (pc := 14) (e_s := (17, 3, 18, 0, 0, .null, [])) (y_s := (18, [some (.long _), none, some (.long _), none, some (.long _), none], [.int _], _)) rfl (u_ rfl) ?_
            refine wrI (pc := 18) (len_s := 1) rfl hk ?_
            show wF _ 154 (8, [some (.long _), none], [.int _], _) _
            refine wrI (pc := 8) (len_s := 1) rfl hk ?_
            show wF _ 157 (11, [some (.long _), none, some (.long _), none, some (.long _), none], [.int _], _) _
            refine w_t (pc := 11) (e_s := (15, 3, 36, 0, 0, .null, [])) (y_s := (14, [some (.long _), none, some (.long _), none, some (.long _), none], [], _)) rfl (u_ rfl) ?_
            refine w_t (pc := 14) (e_s := (2, 1, 0, 0, 0, .null, [])) (y_s := (15, [some (.long _), none, some (.long _), none, some (.long _), none], [.long _], _)) rfl (u_ rfl) ?_
            refine w_t (pc := 15) (e_s := (2, 1, 2, 0, 0, .null, [])) (y_s := (16, [some (.long _), none, some (.long _), none, some (.long _), none], [.long _, .long _], _)) rfl (u_ rfl) ?_
            refine w_t (pc := 16) (e_s := (14, 1, 0, 0, 0, .null, [])) (y_s := (17, [some (.long _), none, some (.long _), none, some (.long _), none], [.int (lg_cmp _ _)], _)) rfl (u_ rfl) ?_
            refine wl0 (pc := 17) (len_s := 3) rfl rfl rfl (fun c9_s => ?_) (fun c9_s => ?_)
            · replace t_s := t_s.1 c9_s
              refine w_t (pc := 36) (e_s := (0, 1, 0, 0, 0, .int 0, [])) (y_s := (37, [some (.long _), none, some (.long _), none, some (.long _), none], [.int _], _)) rfl (u_ rfl) ?_
              refine wrI (pc := 37) (len_s := 1) rfl hk ?_
              show wF _ 160 (159, [some (.ref _), some (.int _), some (.int _), some (.int _), some (.int _), some (.int _), some (.int _)], [.int _], _) _
              refine w_t (pc := 159) (e_s := (15, 3, 166, 0, 0, .null, [])) (y_s := (166, [some (.ref _), some (.int _), some (.int _), some (.int _), some (.int _), some (.int _), some (.int _)], [], _)) rfl (u_ rfl) ?_
              refine w_t (pc := 166) (e_s := (0, 1, 0, 0, 0, .int 0, [])) (y_s := (167, [some (.ref _), some (.int _), some (.int _), some (.int _), some (.int _), some (.int _), some (.int _)], [.int _], _)) rfl (u_ rfl) ?_
              refine w_t (pc := 167) (e_s := (4, 2, 5, 0, 0, .null, [])) (y_s := (169, [some (.ref _), some (.int _), some (.int _), some (.int _), some (.int _), some (.int _), some (.int _)], [], _)) rfl (u_ rfl) ?_
              refine w_t (pc := 169) (e_s := (1, 2, 5, 0, 0, .null, [])) (y_s := (171, [some (.ref _), some (.int _), some (.int _), some (.int _), some (.int _), some (.int _), some (.int _)], [.int _], _)) rfl (u_ rfl) ?_
              refine w_t (pc := 171) (e_s := (15, 3, 209, 0, 0, .null, [])) (y_s := (209, [some (.ref _), some (.int _), some (.int _), some (.int _), some (.int _), some (.int _), some (.int _)], [], _)) rfl (u_ rfl) ?_
              refine w_t (pc := 209) (e_s := (17, 3, 69, 0, 0, .null, [])) (y_s := (69, [some (.ref _), some (.int _), some (.int _), some (.int _), some (.int _), some (.int _), some (.int _)], [], _)) rfl (u_ rfl) ?_
              exact t_s
            · replace t_s := t_s.2 c9_s
              refine w_t (pc := 20) (e_s := (2, 2, 4, 0, 0, .null, [])) (y_s := (22, [some (.long _), none, some (.long _), none, some (.long _), none], [.long _], _)) rfl (u_ rfl) ?_
              refine w_t (pc := 22) (e_s := (0, 1, 0, 0, 0, .long 1, [])) (y_s := (23, [some (.long _), none, some (.long _), none, some (.long _), none], [.long _, .long _], _)) rfl (u_ rfl) ?_
              refine w_t (pc := 23) (e_s := (0, 3, 0, 0, 0, .long 9, [(0, 1066)])) (y_s := (26, [some (.long _), none, some (.long _), none, some (.long _), none], [.long _, .long _, .long _], _)) rfl (u_ rfl) ?_
              refine wcI (pc := 26) (len_s := 3) rfl rfl (l := [some (.long _), none, some (.long _), none, some (.long _), none]) rfl ?_
              refine w_t (pc := 0) (e_s := (2, 1, 0, 0, 0, .null, [])) (y_s := (1, [some (.long _), none, some (.long _), none, some (.long _), none], [.long _], _)) rfl (u_ rfl) ?_
              refine w_t (pc := 1) (e_s := (2, 1, 2, 0, 0, .null, [])) (y_s := (2, [some (.long _), none, some (.long _), none, some (.long _), none], [.long _, .long _], _)) rfl (u_ rfl) ?_
              refine w_t (pc := 2) (e_s := (14, 1, 0, 0, 0, .null, [])) (y_s := (3, [some (.long _), none, some (.long _), none, some (.long _), none], [.int (lg_cmp _ _)], _)) rfl (u_ rfl) ?_
              refine wl2 (pc := 3) (len_s := 3) (Y := 1) rfl rfl (by decide) (fun c10_s => ?_) (fun c10_s => ?_)
              · replace t_s := t_s.1 c10_s
                refine w_t (pc := 17) (e_s := (0, 1, 0, 0, 0, .int 0, [])) (y_s := (18, [some (.long _), none, some (.long _), none, some (.long _), none], [.int _], _)) rfl (u_ rfl) ?_
                refine wrI (pc := 18) (len_s := 1) rfl hk ?_
                show wF _ 157 (29, [some (.long _), none, some (.long _), none, some (.long _), none], [.int _], _) _
                refine w_t (pc := 29) (e_s := (15, 3, 36, 0, 0, .null, [])) (y_s := (36, [some (.long _), none, some (.long _), none, some (.long _), none], [], _)) rfl (u_ rfl) ?_
                refine w_t (pc := 36) (e_s := (0, 1, 0, 0, 0, .int 0, [])) (y_s := (37, [some (.long _), none, some (.long _), none, some (.long _), none], [.int _], _)) rfl (u_ rfl) ?_
                refine wrI (pc := 37) (len_s := 1) rfl hk ?_
                show wF _ 160 (159, [some (.ref _), some (.int _), some (.int _), some (.int _), some (.int _), some (.int _), some (.int _)], [.int _], _) _
                refine w_t (pc := 159) (e_s := (15, 3, 166, 0, 0, .null, [])) (y_s := (166, [some (.ref _), some (.int _), some (.int _), some (.int _), some (.int _), some (.int _), some (.int _)], [], _)) rfl (u_ rfl) ?_
                refine w_t (pc := 166) (e_s := (0, 1, 0, 0, 0, .int 0, [])) (y_s := (167, [some (.ref _), some (.int _), some (.int _), some (.int _), some (.int _), some (.int _), some (.int _)], [.int _], _)) rfl (u_ rfl) ?_
                refine w_t (pc := 167) (e_s := (4, 2, 5, 0, 0, .null, [])) (y_s := (169, [some (.ref _), some (.int _), some (.int _), some (.int _), some (.int _), some (.int _), some (.int _)], [], _)) rfl (u_ rfl) ?_
                refine w_t (pc := 169) (e_s := (1, 2, 5, 0, 0, .null, [])) (y_s := (171, [some (.ref _), some (.int _), some (.int _), some (.int _), some (.int _), some (.int _), some (.int _)], [.int _], _)) rfl (u_ rfl) ?_
                refine w_t (pc := 171) (e_s := (15, 3, 209, 0, 0, .null, [])) (y_s := (209, [some (.ref _), some (.int _), some (.int _), some (.int _), some (.int _), some (.int _), some (.int _)], [], _)) rfl (u_ rfl) ?_
                refine w_t (pc := 209) (e_s := (17, 3, 69, 0, 0, .null, [])) (y_s := (69, [some (.ref _), some (.int _), some (.int _), some (.int _), some (.int _), some (.int _), some (.int _)], [], _)) rfl (u_ rfl) ?_
                exact t_s
              · replace t_s := t_s.2 c10_s
                refine w_t (pc := 6) (e_s := (2, 1, 0, 0, 0, .null, [])) (y_s := (7, [some (.long _), none, some (.long _), none, some (.long _), none], [.long _], _)) rfl (u_ rfl) ?_
                refine w_t (pc := 7) (e_s := (2, 2, 4, 0, 0, .null, [])) (y_s := (9, [some (.long _), none, some (.long _), none, some (.long _), none], [.long _, .long _], _)) rfl (u_ rfl) ?_
                refine w_t (pc := 9) (e_s := (14, 1, 0, 0, 0, .null, [])) (y_s := (10, [some (.long _), none, some (.long _), none, some (.long _), none], [.int (lg_cmp _ _)], _)) rfl (u_ rfl) ?_
                refine wl4 (pc := 10) (len_s := 3) (Y := 9) rfl rfl (by decide) (fun c11_s => ?_) (fun c11_s => ?_)
                · replace t_s := t_s.1 c11_s
                  refine w_t (pc := 17) (e_s := (0, 1, 0, 0, 0, .int 0, [])) (y_s := (18, [some (.long _), none, some (.long _), none, some (.long _), none], [.int _], _)) rfl (u_ rfl) ?_
                  refine wrI (pc := 18) (len_s := 1) rfl hk ?_
                  show wF _ 157 (29, [some (.long _), none, some (.long _), none, some (.long _), none], [.int _], _) _
                  refine w_t (pc := 29) (e_s := (15, 3, 36, 0, 0, .null, [])) (y_s := (36, [some (.long _), none, some (.long _), none, some (.long _), none], [], _)) rfl (u_ rfl) ?_
                  refine w_t (pc := 36) (e_s := (0, 1, 0, 0, 0, .int 0, [])) (y_s := (37, [some (.long _), none, some (.long _), none, some (.long _), none], [.int _], _)) rfl (u_ rfl) ?_
                  refine wrI (pc := 37) (len_s := 1) rfl hk ?_
                  show wF _ 160 (159, [some (.ref _), some (.int _), some (.int _), some (.int _), some (.int _), some (.int _), some (.int _)], [.int _], _) _
                  refine w_t (pc := 159) (e_s := (15, 3, 166, 0, 0, .null, [])) (y_s := (166, [some (.ref _), some (.int _), some (.int _), some (.int _), some (.int _), some (.int _), some (.int _)], [], _)) rfl (u_ rfl) ?_
                  refine w_t (pc := 166) (e_s := (0, 1, 0, 0, 0, .int 0, [])) (y_s := (167, [some (.ref _), some (.int _), some (.int _), some (.int _), some (.int _), some (.int _), some (.int _)], [.int _], _)) rfl (u_ rfl) ?_
                  refine w_t (pc := 167) (e_s := (4, 2, 5, 0, 0, .null, [])) (y_s := (169, [some (.ref _), some (.int _), some (.int _), some (.int _), some (.int _), some (.int _), some (.int _)], [], _)) rfl (u_ rfl) ?_
                  refine w_t (pc := 169) (e_s := (1, 2, 5, 0, 0, .null, [])) (y_s := (171, [some (.ref _), some (.int _), some (.int _), some (.int _), some (.int _), some (.int _), some (.int _)], [.int _], _)) rfl (u_ rfl) ?_
                  refine w_t (pc := 171) (e_s := (15, 3, 209, 0, 0, .null, [])) (y_s := (209, [some (.ref _), some (.int _), some (.int _), some (.int _), some (.int _), some (.int _), some (.int _)], [], _)) rfl (u_ rfl) ?_
                  refine w_t (pc := 209) (e_s := (17, 3, 69, 0, 0, .null, [])) (y_s := (69, [some (.ref _), some (.int _), some (.int _), some (.int _), some (.int _), some (.int _), some (.int _)], [], _)) rfl (u_ rfl) ?_
                  exact t_s
                · replace t_s := t_s.2 c11_s
                  refine w_t (pc := 13) (e_s := (0, 1, 0, 0, 0, .int 1, [])) (y_s := (14, [some (.long _), none, some (.long _), none, some (.long _), none], [.int _], _)) rfl (u_ rfl) ?_
                  refine w_t (pc := 14) (e_s := (17, 3, 18, 0, 0, .null, [])) (y_s := (18, [some (.long _), none, some (.long _), none, some (.long _), none], [.int _], _)) rfl (u_ rfl) ?_
                  refine wrI (pc := 18) (len_s := 1) rfl hk ?_
                  show wF _ 157 (29, [some (.long _), none, some (.long _), none, some (.long _), none], [.int _], _) _
                  refine w_t (pc := 29) (e_s := (15, 3, 36, 0, 0, .null, [])) (y_s := (32, [some (.long _), none, some (.long _), none, some (.long _), none], [], _)) rfl (u_ rfl) ?_
                  refine w_t (pc := 32) (e_s := (0, 1, 0, 0, 0, .int 1, [])) (y_s := (33, [some (.long _), none, some (.long _), none, some (.long _), none], [.int _], _)) rfl (u_ rfl) ?_
                  refine w_t (pc := 33) (e_s := (17, 3, 37, 0, 0, .null, [])) (y_s := (37, [some (.long _), none, some (.long _), none, some (.long _), none], [.int _], _)) rfl (u_ rfl) ?_
                  refine wrI (pc := 37) (len_s := 1) rfl hk ?_
                  show wF _ 160 (159, [some (.ref _), some (.int _), some (.int _), some (.int _), some (.int _), some (.int _), some (.int _)], [.int _], _) _
                  refine w_t (pc := 159) (e_s := (15, 3, 166, 0, 0, .null, [])) (y_s := (162, [some (.ref _), some (.int _), some (.int _), some (.int _), some (.int _), some (.int _), some (.int _)], [], _)) rfl (u_ rfl) ?_
                  refine w_t (pc := 162) (e_s := (0, 1, 0, 0, 0, .int 1, [])) (y_s := (163, [some (.ref _), some (.int _), some (.int _), some (.int _), some (.int _), some (.int _), some (.int _)], [.int _], _)) rfl (u_ rfl) ?_
                  refine w_t (pc := 163) (e_s := (17, 3, 167, 0, 0, .null, [])) (y_s := (167, [some (.ref _), some (.int _), some (.int _), some (.int _), some (.int _), some (.int _), some (.int _)], [.int _], _)) rfl (u_ rfl) ?_
                  refine w_t (pc := 167) (e_s := (4, 2, 5, 0, 0, .null, [])) (y_s := (169, [some (.ref _), some (.int _), some (.int _), some (.int _), some (.int _), some (.int _), some (.int _)], [], _)) rfl (u_ rfl) ?_
                  refine w_t (pc := 169) (e_s := (1, 2, 5, 0, 0, .null, [])) (y_s := (171, [some (.ref _), some (.int _), some (.int _), some (.int _), some (.int _), some (.int _), some (.int _)], [.int _], _)) rfl (u_ rfl) ?_
                  refine w_t (pc := 171) (e_s := (15, 3, 209, 0, 0, .null, [])) (y_s := (174, [some (.ref _), some (.int _), some (.int _), some (.int _), some (.int _), some (.int _), some (.int _)], [], _)) rfl (u_ rfl) ?_
                  refine w_t (pc := 174) (e_s := (3, 1, 0, 0, 0, .null, [])) (y_s := (175, [some (.ref _), some (.int _), some (.int _), some (.int _), some (.int _), some (.int _), some (.int _)], [.ref _], _)) rfl (u_ rfl) ?_
                  refine w_t (pc := 175) (e_s := (3, 1, 0, 0, 0, .null, [])) (y_s := (176, [some (.ref _), some (.int _), some (.int _), some (.int _), some (.int _), some (.int _), some (.int _)], [.ref _, .ref _], _)) rfl (u_ rfl) ?_
                  refine w20r (pc := 176) (len_s := 3) (q_s := 126) rfl (krq hk rfl) ?_
                  refine w_t (pc := 179) (e_s := (1, 2, 6, 0, 0, .null, [])) (y_s := (181, [some (.ref _), some (.int _), some (.int _), some (.int _), some (.int _), some (.int _), some (.int _)], [.int _, .ref _, .ref _], _)) rfl (u_ rfl) ?_
                  refine w23 (pc := 181) (len_s := 1) rfl (hk.1 126 1 360 rfl rfl) (fun c12_s => ?_)
                  refine w_t (pc := 182) (e_s := (11, 1, 0, 0, 0, .null, [])) (y_s := (183, [some (.ref _), some (.int _), some (.int _), some (.int _), some (.int _), some (.int _), some (.int _)], [.int (Int64.toInt32 _), .ref _], _)) rfl (u_ rfl) ?_
                  refine w_t (pc := 183) (e_s := (3, 1, 0, 0, 0, .null, [])) (y_s := (184, [some (.ref _), some (.int _), some (.int _), some (.int _), some (.int _), some (.int _), some (.int _)], [.ref _, .int _, .ref _], _)) rfl (u_ rfl) ?_
                  refine w20r (pc := 184) (len_s := 3) (q_s := 126) rfl (krq hk rfl) ?_
                  refine w_t (pc := 187) (e_s := (1, 2, 6, 0, 0, .null, [])) (y_s := (189, [some (.ref _), some (.int _), some (.int _), some (.int _), some (.int _), some (.int _), some (.int _)], [.int _, .ref _, .int _, .ref _], _)) rfl (u_ rfl) ?_
                  refine w_t (pc := 189) (e_s := (0, 1, 0, 0, 0, .int 1, [])) (y_s := (190, [some (.ref _), some (.int _), some (.int _), some (.int _), some (.int _), some (.int _), some (.int _)], [.int _, .int _, .ref _, .int _, .ref _], _)) rfl (u_ rfl) ?_
                  refine w_t (pc := 190) (e_s := (7, 1, 0, 0, 0, .null, [])) (y_s := (191, [some (.ref _), some (.int _), some (.int _), some (.int _), some (.int _), some (.int _), some (.int _)], [.int (_ + _), .ref _, .int _, .ref _], _)) rfl (u_ rfl) ?_
                  refine w23 (pc := 191) (len_s := 1) rfl (hk.1 126 1 360 rfl rfl) (fun c13_s => ?_)
                  refine w_t (pc := 192) (e_s := (11, 1, 0, 0, 0, .null, [])) (y_s := (193, [some (.ref _), some (.int _), some (.int _), some (.int _), some (.int _), some (.int _), some (.int _)], [.int (Int64.toInt32 _), .int _, .ref _], _)) rfl (u_ rfl) ?_
                  refine w_t (pc := 193) (e_s := (3, 1, 0, 0, 0, .null, [])) (y_s := (194, [some (.ref _), some (.int _), some (.int _), some (.int _), some (.int _), some (.int _), some (.int _)], [.ref _, .int _, .int _, .ref _], _)) rfl (u_ rfl) ?_
                  refine w20r (pc := 194) (len_s := 3) (q_s := 126) rfl (krq hk rfl) ?_
                  refine w_t (pc := 197) (e_s := (1, 2, 6, 0, 0, .null, [])) (y_s := (199, [some (.ref _), some (.int _), some (.int _), some (.int _), some (.int _), some (.int _), some (.int _)], [.int _, .ref _, .int _, .int _, .ref _], _)) rfl (u_ rfl) ?_
                  refine w_t (pc := 199) (e_s := (0, 1, 0, 0, 0, .int 2, [])) (y_s := (200, [some (.ref _), some (.int _), some (.int _), some (.int _), some (.int _), some (.int _), some (.int _)], [.int _, .int _, .ref _, .int _, .int _, .ref _], _)) rfl (u_ rfl) ?_
                  refine w_t (pc := 200) (e_s := (7, 1, 0, 0, 0, .null, [])) (y_s := (201, [some (.ref _), some (.int _), some (.int _), some (.int _), some (.int _), some (.int _), some (.int _)], [.int (_ + _), .ref _, .int _, .int _, .ref _], _)) rfl (u_ rfl) ?_
                  refine w23 (pc := 201) (len_s := 1) rfl (hk.1 126 1 360 rfl rfl) (fun c14_s => ?_)
                  refine w_t (pc := 202) (e_s := (11, 1, 0, 0, 0, .null, [])) (y_s := (203, [some (.ref _), some (.int _), some (.int _), some (.int _), some (.int _), some (.int _), some (.int _)], [.int (Int64.toInt32 _), .int _, .int _, .ref _], _)) rfl (u_ rfl) ?_
                  refine wcV (pc := 203) (len_s := 3) rfl rfl (l := [some (.ref _), some (.int _), some (.int _), some (.int _)]) rfl ?_
                  refine w_t (pc := 0) (e_s := (3, 1, 0, 0, 0, .null, [])) (y_s := (1, [some (.ref _), some (.int _), some (.int _), some (.int _)], [.ref _], _)) rfl (u_ rfl) ?_
                  refine w20r (pc := 1) (len_s := 3) (q_s := 107) rfl (krq hk rfl) ?_
                  refine w_t (pc := 4) (e_s := (3, 1, 0, 0, 0, .null, [])) (y_s := (5, [some (.ref _), some (.int _), some (.int _), some (.int _)], [.ref _, .ref _], _)) rfl (u_ rfl) ?_
                  refine w20 (pc := 5) (len_s := 3) rfl ?_
                  refine w_t (pc := 8) (e_s := (1, 1, 1, 0, 0, .null, [])) (y_s := (9, [some (.ref _), some (.int _), some (.int _), some (.int _)], [.int _, .int _, .ref _], _)) rfl (u_ rfl) ?_
                  refine w25 (pc := 9) (len_s := 1) rfl (hk.1 107 0 12 rfl rfl) (fun c15_s => ?_)
                  replace t_s := t_s c15_s
                  refine w_t (pc := 10) (e_s := (3, 1, 0, 0, 0, .null, [])) (y_s := (11, [some (.ref _), some (.int _), some (.int _), some (.int _)], [.ref _], _)) rfl (u_ rfl) ?_
                  refine w20r (pc := 11) (len_s := 3) (q_s := 108) rfl (krq hk rfl) ?_
                  refine w_t (pc := 14) (e_s := (3, 1, 0, 0, 0, .null, [])) (y_s := (15, [some (.ref _), some (.int _), some (.int _), some (.int _)], [.ref _, .ref _], _)) rfl (u_ rfl) ?_
                  refine w20 (pc := 15) (len_s := 3) rfl ?_
                  refine w_t (pc := 18) (e_s := (1, 1, 2, 0, 0, .null, [])) (y_s := (19, [some (.ref _), some (.int _), some (.int _), some (.int _)], [.int _, .int _, .ref _], _)) rfl (u_ rfl) ?_
                  refine w25 (pc := 19) (len_s := 1) rfl (hk.1 108 0 12 rfl rfl) (fun c16 => ?_)
                  refine w_t (pc := 20) (e_s := (3, 1, 0, 0, 0, .null, [])) (y_s := (21, [some (.ref _), some (.int _), some (.int _), some (.int _)], [.ref _], _)) rfl (u_ rfl) ?_
                  refine w20r (pc := 21) (len_s := 3) (q_s := 103) rfl (krq hk rfl) ?_
                  refine w_t (pc := 24) (e_s := (0, 2, 0, 0, 0, .int 68, [])) (y_s := (26, [some (.ref _), some (.int _), some (.int _), some (.int _)], [.int _, .ref _], _)) rfl (u_ rfl) ?_
                  refine w_t (pc := 26) (e_s := (3, 1, 0, 0, 0, .null, [])) (y_s := (27, [some (.ref _), some (.int _), some (.int _), some (.int _)], [.ref _, .int _, .ref _], _)) rfl (u_ rfl) ?_
                  refine w20 (pc := 27) (len_s := 3) rfl ?_
                  refine w_t (pc := 30) (e_s := (7, 1, 0, 0, 0, .null, [])) (y_s := (31, [some (.ref _), some (.int _), some (.int _), some (.int _)], [.int (_ + _), .ref _], _)) rfl (u_ rfl) ?_
                  refine w_t (pc := 31) (e_s := (1, 1, 3, 0, 0, .null, [])) (y_s := (32, [some (.ref _), some (.int _), some (.int _), some (.int _)], [.int _, .int _, .ref _], _)) rfl (u_ rfl) ?_
                  refine w25 (pc := 32) (len_s := 1) rfl (hk.1 103 0 104 rfl rfl) (fun c17 => ?_)
                  replace t_s := t_s c17
                  refine w_t (pc := 33) (e_s := (3, 1, 0, 0, 0, .null, [])) (y_s := (34, [some (.ref _), some (.int _), some (.int _), some (.int _)], [.ref _], _)) rfl (u_ rfl) ?_
                  refine w_t (pc := 34) (e_s := (39, 1, 0, 0, 0, .null, [])) (y_s := (35, [some (.ref _), some (.int _), some (.int _), some (.int _)], [.ref _, .ref _], _)) rfl (u_ rfl) ?_
                  refine w20 (pc := 35) (len_s := 3) rfl ?_
                  refine w_t (pc := 38) (e_s := (0, 1, 0, 0, 0, .int 1, [])) (y_s := (39, [some (.ref _), some (.int _), some (.int _), some (.int _)], [.int _, .int _, .ref _], _)) rfl (u_ rfl) ?_
                  refine w_t (pc := 39) (e_s := (7, 1, 0, 0, 0, .null, [])) (y_s := (40, [some (.ref _), some (.int _), some (.int _), some (.int _)], [.int (_ + _), .ref _], _)) rfl (u_ rfl) ?_
                  refine w21 (pc := 40) (len_s := 3) rfl ?_
                  refine wrV (pc := 43) (len_s := 1) rfl hk ?_
                  show wF _ 160 (206, [some (.ref _), some (.int _), some (.int _), some (.int _), some (.int _), some (.int _), some (.int _)], [], _) _
                  refine w_t (pc := 206) (e_s := (19, 3, 4, 0, 0, .int 1, [])) (y_s := (209, [some (.ref _), some (.int _), some (.int _), some (.int _), some (.int _), some (.int _), some (.int _)], [], _)) rfl (u_ rfl) ?_
                  refine w_t (pc := 209) (e_s := (17, 3, 69, 0, 0, .null, [])) (y_s := (69, [some (.ref _), some (.int _), some (.int _), some (.int _), some (.int _), some (.int _), some (.int _)], [], _)) rfl (u_ rfl) ?_
                  exact t_s
