/-! What ended runs give: printed by a program (wip/fun/sg.py). -/
/-- ColdShod$Changes.forgetFirst()V, from 0 on -/
theorem sg_10_0 {F_s : Nat}  {h_s : zH} {K_s : zH → Prop} (hk : hKn h_s) (t_s : (1 + 39 ≤ 40 ∧ 0 + 39 ≤ 40 → (1 + 39 ≤ 40 ∧ 0 + 39 ≤ 40 → (1 + 39 ≤ 40 ∧ 0 + 39 ≤ 40 → (1 + 39 ≤ 40 ∧ 0 + 39 ≤ 40 → K_s (h_s.1, zrow (zrow (zrow (zrow (zup h_s.2.1 42 0 39) 43 (zcpy ((zup h_s.2.1 42 0 39) 43) ((zup h_s.2.1 42 0 39) 43) 1 0 39)) 44 (zcpy ((zrow (zup h_s.2.1 42 0 39) 43 (zcpy ((zup h_s.2.1 42 0 39) 43) ((zup h_s.2.1 42 0 39) 43) 1 0 39)) 44) ((zrow (zup h_s.2.1 42 0 39) 43 (zcpy ((zup h_s.2.1 42 0 39) 43) ((zup h_s.2.1 42 0 39) 43) 1 0 39)) 44) 1 0 39)) 45 (zcpy ((zrow (zrow (zup h_s.2.1 42 0 39) 43 (zcpy ((zup h_s.2.1 42 0 39) 43) ((zup h_s.2.1 42 0 39) 43) 1 0 39)) 44 (zcpy ((zrow (zup h_s.2.1 42 0 39) 43 (zcpy ((zup h_s.2.1 42 0 39) 43) ((zup h_s.2.1 42 0 39) 43) 1 0 39)) 44) ((zrow (zup h_s.2.1 42 0 39) 43 (zcpy ((zup h_s.2.1 42 0 39) 43) ((zup h_s.2.1 42 0 39) 43) 1 0 39)) 44) 1 0 39)) 45) ((zrow (zrow (zup h_s.2.1 42 0 39) 43 (zcpy ((zup h_s.2.1 42 0 39) 43) ((zup h_s.2.1 42 0 39) 43) 1 0 39)) 44 (zcpy ((zrow (zup h_s.2.1 42 0 39) 43 (zcpy ((zup h_s.2.1 42 0 39) 43) ((zup h_s.2.1 42 0 39) 43) 1 0 39)) 44) ((zrow (zup h_s.2.1 42 0 39) 43 (zcpy ((zup h_s.2.1 42 0 39) 43) ((zup h_s.2.1 42 0 39) 43) 1 0 39)) 44) 1 0 39)) 45) 1 0 39)) 46 (zcpy ((zrow (zrow (zrow (zup h_s.2.1 42 0 39) 43 (zcpy ((zup h_s.2.1 42 0 39) 43) ((zup h_s.2.1 42 0 39) 43) 1 0 39)) 44 (zcpy ((zrow (zup h_s.2.1 42 0 39) 43 (zcpy ((zup h_s.2.1 42 0 39) 43) ((zup h_s.2.1 42 0 39) 43) 1 0 39)) 44) ((zrow (zup h_s.2.1 42 0 39) 43 (zcpy ((zup h_s.2.1 42 0 39) 43) ((zup h_s.2.1 42 0 39) 43) 1 0 39)) 44) 1 0 39)) 45 (zcpy ((zrow (zrow (zup h_s.2.1 42 0 39) 43 (zcpy ((zup h_s.2.1 42 0 39) 43) ((zup h_s.2.1 42 0 39) 43) 1 0 39)) 44 (zcpy ((zrow (zup h_s.2.1 42 0 39) 43 (zcpy ((zup h_s.2.1 42 0 39) 43) ((zup h_s.2.1 42 0 39) 43) 1 0 39)) 44) ((zrow (zup h_s.2.1 42 0 39) 43 (zcpy ((zup h_s.2.1 42 0 39) 43) ((zup h_s.2.1 42 0 39) 43) 1 0 39)) 44) 1 0 39)) 45) ((zrow (zrow (zup h_s.2.1 42 0 39) 43 (zcpy ((zup h_s.2.1 42 0 39) 43) ((zup h_s.2.1 42 0 39) 43) 1 0 39)) 44 (zcpy ((zrow (zup h_s.2.1 42 0 39) 43 (zcpy ((zup h_s.2.1 42 0 39) 43) ((zup h_s.2.1 42 0 39) 43) 1 0 39)) 44) ((zrow (zup h_s.2.1 42 0 39) 43 (zcpy ((zup h_s.2.1 42 0 39) 43) ((zup h_s.2.1 42 0 39) 43) 1 0 39)) 44) 1 0 39)) 45) 1 0 39)) 46) ((zrow (zrow (zrow (zup h_s.2.1 42 0 39) 43 (zcpy ((zup h_s.2.1 42 0 39) 43) ((zup h_s.2.1 42 0 39) 43) 1 0 39)) 44 (zcpy ((zrow (zup h_s.2.1 42 0 39) 43 (zcpy ((zup h_s.2.1 42 0 39) 43) ((zup h_s.2.1 42 0 39) 43) 1 0 39)) 44) ((zrow (zup h_s.2.1 42 0 39) 43 (zcpy ((zup h_s.2.1 42 0 39) 43) ((zup h_s.2.1 42 0 39) 43) 1 0 39)) 44) 1 0 39)) 45 (zcpy ((zrow (zrow (zup h_s.2.1 42 0 39) 43 (zcpy ((zup h_s.2.1 42 0 39) 43) ((zup h_s.2.1 42 0 39) 43) 1 0 39)) 44 (zcpy ((zrow (zup h_s.2.1 42 0 39) 43 (zcpy ((zup h_s.2.1 42 0 39) 43) ((zup h_s.2.1 42 0 39) 43) 1 0 39)) 44) ((zrow (zup h_s.2.1 42 0 39) 43 (zcpy ((zup h_s.2.1 42 0 39) 43) ((zup h_s.2.1 42 0 39) 43) 1 0 39)) 44) 1 0 39)) 45) ((zrow (zrow (zup h_s.2.1 42 0 39) 43 (zcpy ((zup h_s.2.1 42 0 39) 43) ((zup h_s.2.1 42 0 39) 43) 1 0 39)) 44 (zcpy ((zrow (zup h_s.2.1 42 0 39) 43 (zcpy ((zup h_s.2.1 42 0 39) 43) ((zup h_s.2.1 42 0 39) 43) 1 0 39)) 44) ((zrow (zup h_s.2.1 42 0 39) 43 (zcpy ((zup h_s.2.1 42 0 39) 43) ((zup h_s.2.1 42 0 39) 43) 1 0 39)) 44) 1 0 39)) 45) 1 0 39)) 46) 1 0 39), h_s.2.2.1, h_s.2.2.2)))))) : wF (F_s + 1) 10 (0, [some (.ref 42)], [], h_s) (gV K_s) := by
  refine w_0 (pc := 0) (e_s := (3, 1, 0, 0, 0, .null, [])) (y_s := (1, [some (.ref _)], [.ref _], _)) rfl (u_ rfl) ?_
  refine w_t (pc := 1) (e_s := (0, 2, 0, 0, 0, .int 39, [])) (y_s := (3, [some (.ref _)], [.int _, .ref _], _)) rfl (u_ rfl) ?_
  refine w21 (pc := 3) (len_s := 3) rfl ?_
  refine w_t (pc := 6) (e_s := (3, 1, 0, 0, 0, .null, [])) (y_s := (7, [some (.ref _)], [.ref _], _)) rfl (u_ rfl) ?_
  refine w20r (pc := 7) (len_s := 3) (q_s := 43) rfl (krq hk rfl) ?_
  refine w_t (pc := 10) (e_s := (0, 1, 0, 0, 0, .int 1, [])) (y_s := (11, [some (.ref _)], [.int _, .ref _], _)) rfl (u_ rfl) ?_
  refine w_t (pc := 11) (e_s := (3, 1, 0, 0, 0, .null, [])) (y_s := (12, [some (.ref _)], [.ref _, .int _, .ref _], _)) rfl (u_ rfl) ?_
  refine w20r (pc := 12) (len_s := 3) (q_s := 43) rfl (krq hk rfl) ?_
  refine w_t (pc := 15) (e_s := (0, 1, 0, 0, 0, .int 0, [])) (y_s := (16, [some (.ref _)], [.int _, .ref _, .int _, .ref _], _)) rfl (u_ rfl) ?_
  refine w_t (pc := 16) (e_s := (3, 1, 0, 0, 0, .null, [])) (y_s := (17, [some (.ref _)], [.ref _, .int _, .ref _, .int _, .ref _], _)) rfl (u_ rfl) ?_
  refine w20 (pc := 17) (len_s := 3) rfl ?_
  refine w34i (pc := 20) (len_s := 3) rfl (hk.1 43 0 40 rfl rfl) (hk.1 43 0 40 rfl rfl) (fun c1_s => ?_)
  replace t_s := t_s c1_s
  refine w_t (pc := 23) (e_s := (3, 1, 0, 0, 0, .null, [])) (y_s := (24, [some (.ref _)], [.ref _], _)) rfl (u_ rfl) ?_
  refine w20r (pc := 24) (len_s := 3) (q_s := 44) rfl (krq hk rfl) ?_
  refine w_t (pc := 27) (e_s := (0, 1, 0, 0, 0, .int 1, [])) (y_s := (28, [some (.ref _)], [.int _, .ref _], _)) rfl (u_ rfl) ?_
  refine w_t (pc := 28) (e_s := (3, 1, 0, 0, 0, .null, [])) (y_s := (29, [some (.ref _)], [.ref _, .int _, .ref _], _)) rfl (u_ rfl) ?_
  refine w20r (pc := 29) (len_s := 3) (q_s := 44) rfl (krq hk rfl) ?_
  refine w_t (pc := 32) (e_s := (0, 1, 0, 0, 0, .int 0, [])) (y_s := (33, [some (.ref _)], [.int _, .ref _, .int _, .ref _], _)) rfl (u_ rfl) ?_
  refine w_t (pc := 33) (e_s := (3, 1, 0, 0, 0, .null, [])) (y_s := (34, [some (.ref _)], [.ref _, .int _, .ref _, .int _, .ref _], _)) rfl (u_ rfl) ?_
  refine w20 (pc := 34) (len_s := 3) rfl ?_
  refine w34i (pc := 37) (len_s := 3) rfl (hk.1 44 0 40 rfl rfl) (hk.1 44 0 40 rfl rfl) (fun c2_s => ?_)
  replace t_s := t_s c2_s
  refine w_t (pc := 40) (e_s := (3, 1, 0, 0, 0, .null, [])) (y_s := (41, [some (.ref _)], [.ref _], _)) rfl (u_ rfl) ?_
  refine w20r (pc := 41) (len_s := 3) (q_s := 45) rfl (krq hk rfl) ?_
  refine w_t (pc := 44) (e_s := (0, 1, 0, 0, 0, .int 1, [])) (y_s := (45, [some (.ref _)], [.int _, .ref _], _)) rfl (u_ rfl) ?_
  refine w_t (pc := 45) (e_s := (3, 1, 0, 0, 0, .null, [])) (y_s := (46, [some (.ref _)], [.ref _, .int _, .ref _], _)) rfl (u_ rfl) ?_
  refine w20r (pc := 46) (len_s := 3) (q_s := 45) rfl (krq hk rfl) ?_
  refine w_t (pc := 49) (e_s := (0, 1, 0, 0, 0, .int 0, [])) (y_s := (50, [some (.ref _)], [.int _, .ref _, .int _, .ref _], _)) rfl (u_ rfl) ?_
  refine w_t (pc := 50) (e_s := (3, 1, 0, 0, 0, .null, [])) (y_s := (51, [some (.ref _)], [.ref _, .int _, .ref _, .int _, .ref _], _)) rfl (u_ rfl) ?_
  refine w20 (pc := 51) (len_s := 3) rfl ?_
  refine w34i (pc := 54) (len_s := 3) rfl (hk.1 45 0 40 rfl rfl) (hk.1 45 0 40 rfl rfl) (fun c3_s => ?_)
  replace t_s := t_s c3_s
  refine w_t (pc := 57) (e_s := (3, 1, 0, 0, 0, .null, [])) (y_s := (58, [some (.ref _)], [.ref _], _)) rfl (u_ rfl) ?_
  refine w20r (pc := 58) (len_s := 3) (q_s := 46) rfl (krq hk rfl) ?_
  refine w_t (pc := 61) (e_s := (0, 1, 0, 0, 0, .int 1, [])) (y_s := (62, [some (.ref _)], [.int _, .ref _], _)) rfl (u_ rfl) ?_
  refine w_t (pc := 62) (e_s := (3, 1, 0, 0, 0, .null, [])) (y_s := (63, [some (.ref _)], [.ref _, .int _, .ref _], _)) rfl (u_ rfl) ?_
  refine w20r (pc := 63) (len_s := 3) (q_s := 46) rfl (krq hk rfl) ?_
  refine w_t (pc := 66) (e_s := (0, 1, 0, 0, 0, .int 0, [])) (y_s := (67, [some (.ref _)], [.int _, .ref _, .int _, .ref _], _)) rfl (u_ rfl) ?_
  refine w_t (pc := 67) (e_s := (3, 1, 0, 0, 0, .null, [])) (y_s := (68, [some (.ref _)], [.ref _, .int _, .ref _, .int _, .ref _], _)) rfl (u_ rfl) ?_
  refine w20 (pc := 68) (len_s := 3) rfl ?_
  refine w34i (pc := 71) (len_s := 3) rfl (hk.1 46 0 40 rfl rfl) (hk.1 46 0 40 rfl rfl) (fun c4_s => ?_)
  replace t_s := t_s c4_s
  exact wrV (pc := 74) (len_s := 1) rfl hk t_s
/-- ColdShod$Changes.note(IIII)V, from 0 on -/
theorem sg_9_0 {F_s : Nat} {x1_s x2_s x3 x4_s : Int32} {h_s : zH} {K_s : zH → Prop} (hk : hKn h_s) (t_s : ((h_s.2.1 42 0).toInt < 40 → (zix (h_s.2.1 42 0) < 40 → K_s (h_s.1, zup (zup (zup (zup (zup (zup h_s.2.1 42 1 0) 43 (zix (h_s.2.1 42 0)) x1_s) 44 (zix (h_s.2.1 42 0)) x2_s) 45 (zix (h_s.2.1 42 0)) x3) 46 (zix (h_s.2.1 42 0)) x4_s) 42 0 ((h_s.2.1 42 0) + 1), h_s.2.2.1, h_s.2.2.2))) ∧ (¬ (h_s.2.1 42 0).toInt < 40 → wF F_s 10 (0, [some (.ref 42)], [], (h_s.1, zup h_s.2.1 42 1 0, h_s.2.2.1, h_s.2.2.2)) (gV (fun h6 => hKn h6 → (zix (h6.2.1 42 0) < 40 → K_s (h6.1, zup (zup (zup (zup (zup h6.2.1 43 (zix (h6.2.1 42 0)) x1_s) 44 (zix (h6.2.1 42 0)) x2_s) 45 (zix (h6.2.1 42 0)) x3) 46 (zix (h6.2.1 42 0)) x4_s) 42 0 ((h6.2.1 42 0) + 1), h6.2.2.1, h6.2.2.2)))))) : wF (F_s + 1) 9 (0, [some (.ref 42), some (.int x1_s), some (.int x2_s), some (.int x3), some (.int x4_s)], [], h_s) (gV K_s) := by
  refine w_0 (pc := 0) (e_s := (3, 1, 0, 0, 0, .null, [])) (y_s := (1, [some (.ref _), some (.int _), some (.int _), some (.int _), some (.int _)], [.ref _], _)) rfl (u_ rfl) ?_
  refine w_t (pc := 1) (e_s := (0, 1, 0, 0, 0, .int 0, [])) (y_s := (2, [some (.ref _), some (.int _), some (.int _), some (.int _), some (.int _)], [.int _, .ref _], _)) rfl (u_ rfl) ?_
  refine w21 (pc := 2) (len_s := 3) rfl ?_
  refine w_t (pc := 5) (e_s := (3, 1, 0, 0, 0, .null, [])) (y_s := (6, [some (.ref _), some (.int _), some (.int _), some (.int _), some (.int _)], [.ref _], _)) rfl (u_ rfl) ?_
  refine w20 (pc := 6) (len_s := 3) rfl ?_
  refine w_t (pc := 9) (e_s := (0, 2, 0, 0, 0, .int 40, [])) (y_s := (11, [some (.ref _), some (.int _), some (.int _), some (.int _), some (.int _)], [.int _, .int _], _)) rfl (u_ rfl) ?_
  refine wi2 (pc := 11) (len_s := 3) (Y := 40) rfl rfl (by decide) (fun c1_s => ?_) (fun c1_s => ?_)
  · replace t_s := t_s.1 c1_s
    refine w_t (pc := 18) (e_s := (3, 1, 0, 0, 0, .null, [])) (y_s := (19, [some (.ref _), some (.int _), some (.int _), some (.int _), some (.int _)], [.ref _], _)) rfl (u_ rfl) ?_
    refine w20r (pc := 19) (len_s := 3) (q_s := 43) rfl (krq hk rfl) ?_
    refine w_t (pc := 22) (e_s := (3, 1, 0, 0, 0, .null, [])) (y_s := (23, [some (.ref _), some (.int _), some (.int _), some (.int _), some (.int _)], [.ref _, .ref _], _)) rfl (u_ rfl) ?_
    refine w20 (pc := 23) (len_s := 3) rfl ?_
    refine w_t (pc := 26) (e_s := (1, 1, 1, 0, 0, .null, [])) (y_s := (27, [some (.ref _), some (.int _), some (.int _), some (.int _), some (.int _)], [.int _, .int _, .ref _], _)) rfl (u_ rfl) ?_
    refine w25 (pc := 27) (len_s := 1) rfl (hk.1 43 0 40 rfl rfl) (fun c2_s => ?_)
    replace t_s := t_s c2_s
    refine w_t (pc := 28) (e_s := (3, 1, 0, 0, 0, .null, [])) (y_s := (29, [some (.ref _), some (.int _), some (.int _), some (.int _), some (.int _)], [.ref _], _)) rfl (u_ rfl) ?_
    refine w20r (pc := 29) (len_s := 3) (q_s := 44) rfl (krq hk rfl) ?_
    refine w_t (pc := 32) (e_s := (3, 1, 0, 0, 0, .null, [])) (y_s := (33, [some (.ref _), some (.int _), some (.int _), some (.int _), some (.int _)], [.ref _, .ref _], _)) rfl (u_ rfl) ?_
    refine w20 (pc := 33) (len_s := 3) rfl ?_
    refine w_t (pc := 36) (e_s := (1, 1, 2, 0, 0, .null, [])) (y_s := (37, [some (.ref _), some (.int _), some (.int _), some (.int _), some (.int _)], [.int _, .int _, .ref _], _)) rfl (u_ rfl) ?_
    refine w25 (pc := 37) (len_s := 1) rfl (hk.1 44 0 40 rfl rfl) (fun c3_s => ?_)
    refine w_t (pc := 38) (e_s := (3, 1, 0, 0, 0, .null, [])) (y_s := (39, [some (.ref _), some (.int _), some (.int _), some (.int _), some (.int _)], [.ref _], _)) rfl (u_ rfl) ?_
    refine w20r (pc := 39) (len_s := 3) (q_s := 45) rfl (krq hk rfl) ?_
    refine w_t (pc := 42) (e_s := (3, 1, 0, 0, 0, .null, [])) (y_s := (43, [some (.ref _), some (.int _), some (.int _), some (.int _), some (.int _)], [.ref _, .ref _], _)) rfl (u_ rfl) ?_
    refine w20 (pc := 43) (len_s := 3) rfl ?_
    refine w_t (pc := 46) (e_s := (1, 1, 3, 0, 0, .null, [])) (y_s := (47, [some (.ref _), some (.int _), some (.int _), some (.int _), some (.int _)], [.int _, .int _, .ref _], _)) rfl (u_ rfl) ?_
    refine w25 (pc := 47) (len_s := 1) rfl (hk.1 45 0 40 rfl rfl) (fun c4_s => ?_)
    refine w_t (pc := 48) (e_s := (3, 1, 0, 0, 0, .null, [])) (y_s := (49, [some (.ref _), some (.int _), some (.int _), some (.int _), some (.int _)], [.ref _], _)) rfl (u_ rfl) ?_
    refine w20r (pc := 49) (len_s := 3) (q_s := 46) rfl (krq hk rfl) ?_
    refine w_t (pc := 52) (e_s := (3, 1, 0, 0, 0, .null, [])) (y_s := (53, [some (.ref _), some (.int _), some (.int _), some (.int _), some (.int _)], [.ref _, .ref _], _)) rfl (u_ rfl) ?_
    refine w20 (pc := 53) (len_s := 3) rfl ?_
    refine w_t (pc := 56) (e_s := (1, 2, 4, 0, 0, .null, [])) (y_s := (58, [some (.ref _), some (.int _), some (.int _), some (.int _), some (.int _)], [.int _, .int _, .ref _], _)) rfl (u_ rfl) ?_
    refine w25 (pc := 58) (len_s := 1) rfl (hk.1 46 0 40 rfl rfl) (fun c5_s => ?_)
    refine w_t (pc := 59) (e_s := (3, 1, 0, 0, 0, .null, [])) (y_s := (60, [some (.ref _), some (.int _), some (.int _), some (.int _), some (.int _)], [.ref _], _)) rfl (u_ rfl) ?_
    refine w_t (pc := 60) (e_s := (39, 1, 0, 0, 0, .null, [])) (y_s := (61, [some (.ref _), some (.int _), some (.int _), some (.int _), some (.int _)], [.ref _, .ref _], _)) rfl (u_ rfl) ?_
    refine w20 (pc := 61) (len_s := 3) rfl ?_
    refine w_t (pc := 64) (e_s := (0, 1, 0, 0, 0, .int 1, [])) (y_s := (65, [some (.ref _), some (.int _), some (.int _), some (.int _), some (.int _)], [.int _, .int _, .ref _], _)) rfl (u_ rfl) ?_
    refine w_t (pc := 65) (e_s := (7, 1, 0, 0, 0, .null, [])) (y_s := (66, [some (.ref _), some (.int _), some (.int _), some (.int _), some (.int _)], [.int (_ + _), .ref _], _)) rfl (u_ rfl) ?_
    refine w21 (pc := 66) (len_s := 3) rfl ?_
    exact wrV (pc := 69) (len_s := 1) rfl hk t_s
  · replace t_s := t_s.2 c1_s
    refine w_t (pc := 14) (e_s := (3, 1, 0, 0, 0, .null, [])) (y_s := (15, [some (.ref _), some (.int _), some (.int _), some (.int _), some (.int _)], [.ref _], _)) rfl (u_ rfl) ?_
    refine wcV (pc := 15) (len_s := 3) rfl rfl (l := [some (.ref _)]) rfl (wmV t_s (fun h6 hk t_s => ?_))
    replace t_s := t_s hk
    refine w_t (pc := 18) (e_s := (3, 1, 0, 0, 0, .null, [])) (y_s := (19, [some (.ref _), some (.int _), some (.int _), some (.int _), some (.int _)], [.ref _], _)) rfl (u_ rfl) ?_
    refine w20r (pc := 19) (len_s := 3) (q_s := 43) rfl (krq hk rfl) ?_
    refine w_t (pc := 22) (e_s := (3, 1, 0, 0, 0, .null, [])) (y_s := (23, [some (.ref _), some (.int _), some (.int _), some (.int _), some (.int _)], [.ref _, .ref _], _)) rfl (u_ rfl) ?_
    refine w20 (pc := 23) (len_s := 3) rfl ?_
    refine w_t (pc := 26) (e_s := (1, 1, 1, 0, 0, .null, [])) (y_s := (27, [some (.ref _), some (.int _), some (.int _), some (.int _), some (.int _)], [.int _, .int _, .ref _], _)) rfl (u_ rfl) ?_
    refine w25 (pc := 27) (len_s := 1) rfl (hk.1 43 0 40 rfl rfl) (fun c7_s => ?_)
    replace t_s := t_s c7_s
    refine w_t (pc := 28) (e_s := (3, 1, 0, 0, 0, .null, [])) (y_s := (29, [some (.ref _), some (.int _), some (.int _), some (.int _), some (.int _)], [.ref _], _)) rfl (u_ rfl) ?_
    refine w20r (pc := 29) (len_s := 3) (q_s := 44) rfl (krq hk rfl) ?_
    refine w_t (pc := 32) (e_s := (3, 1, 0, 0, 0, .null, [])) (y_s := (33, [some (.ref _), some (.int _), some (.int _), some (.int _), some (.int _)], [.ref _, .ref _], _)) rfl (u_ rfl) ?_
    refine w20 (pc := 33) (len_s := 3) rfl ?_
    refine w_t (pc := 36) (e_s := (1, 1, 2, 0, 0, .null, [])) (y_s := (37, [some (.ref _), some (.int _), some (.int _), some (.int _), some (.int _)], [.int _, .int _, .ref _], _)) rfl (u_ rfl) ?_
    refine w25 (pc := 37) (len_s := 1) rfl (hk.1 44 0 40 rfl rfl) (fun c8_s => ?_)
    refine w_t (pc := 38) (e_s := (3, 1, 0, 0, 0, .null, [])) (y_s := (39, [some (.ref _), some (.int _), some (.int _), some (.int _), some (.int _)], [.ref _], _)) rfl (u_ rfl) ?_
    refine w20r (pc := 39) (len_s := 3) (q_s := 45) rfl (krq hk rfl) ?_
    refine w_t (pc := 42) (e_s := (3, 1, 0, 0, 0, .null, [])) (y_s := (43, [some (.ref _), some (.int _), some (.int _), some (.int _), some (.int _)], [.ref _, .ref _], _)) rfl (u_ rfl) ?_
    refine w20 (pc := 43) (len_s := 3) rfl ?_
    refine w_t (pc := 46) (e_s := (1, 1, 3, 0, 0, .null, [])) (y_s := (47, [some (.ref _), some (.int _), some (.int _), some (.int _), some (.int _)], [.int _, .int _, .ref _], _)) rfl (u_ rfl) ?_
    refine w25 (pc := 47) (len_s := 1) rfl (hk.1 45 0 40 rfl rfl) (fun c9_s => ?_)
    refine w_t (pc := 48) (e_s := (3, 1, 0, 0, 0, .null, [])) (y_s := (49, [some (.ref _), some (.int _), some (.int _), some (.int _), some (.int _)], [.ref _], _)) rfl (u_ rfl) ?_
    refine w20r (pc := 49) (len_s := 3) (q_s := 46) rfl (krq hk rfl) ?_
    refine w_t (pc := 52) (e_s := (3, 1, 0, 0, 0, .null, [])) (y_s := (53, [some (.ref _), some (.int _), some (.int _), some (.int _), some (.int _)], [.ref _, .ref _], _)) rfl (u_ rfl) ?_
    refine w20 (pc := 53) (len_s := 3) rfl ?_
    refine w_t (pc := 56) (e_s := (1, 2, 4, 0, 0, .null, [])) (y_s := (58, [some (.ref _), some (.int _), some (.int _), some (.int _), some (.int _)], [.int _, .int _, .ref _], _)) rfl (u_ rfl) ?_
    refine w25 (pc := 58) (len_s := 1) rfl (hk.1 46 0 40 rfl rfl) (fun c10_s => ?_)
    refine w_t (pc := 59) (e_s := (3, 1, 0, 0, 0, .null, [])) (y_s := (60, [some (.ref _), some (.int _), some (.int _), some (.int _), some (.int _)], [.ref _], _)) rfl (u_ rfl) ?_
    refine w_t (pc := 60) (e_s := (39, 1, 0, 0, 0, .null, [])) (y_s := (61, [some (.ref _), some (.int _), some (.int _), some (.int _), some (.int _)], [.ref _, .ref _], _)) rfl (u_ rfl) ?_
    refine w20 (pc := 61) (len_s := 3) rfl ?_
    refine w_t (pc := 64) (e_s := (0, 1, 0, 0, 0, .int 1, [])) (y_s := (65, [some (.ref _), some (.int _), some (.int _), some (.int _), some (.int _)], [.int _, .int _, .ref _], _)) rfl (u_ rfl) ?_
    refine w_t (pc := 65) (e_s := (7, 1, 0, 0, 0, .null, [])) (y_s := (66, [some (.ref _), some (.int _), some (.int _), some (.int _), some (.int _)], [.int (_ + _), .ref _], _)) rfl (u_ rfl) ?_
    refine w21 (pc := 66) (len_s := 3) rfl ?_
    exact wrV (pc := 69) (len_s := 1) rfl hk t_s
/-- ColdShod.mend(III)I, from 0 on -/
theorem sg_98_0 {F_s : Nat} {x1_s : Int32} {x2_s : Int32} {x3 : Int32} {h_s : zH} {K_s : Int32 → zH → Prop} (hk : hKn h_s) (t_s : wF F_s 18 (0, [some (.ref 7), some (.int x1_s), some (.int x2_s)], [], h_s) (gI (fun v1_s h1 => hKn h1 → (v1_s.toInt = 0 → K_s (-2000000000) h1) ∧ (¬ v1_s.toInt = 0 → wF F_s 19 (0, [some (.ref 7), some (.int x2_s), some (.int x3), none], [], h1) (gI (fun v3 h3 => hKn h3 → (v3.toInt = 0 → K_s (-2000000000) h3) ∧ (¬ v3.toInt = 0 → wF F_s 20 (0, [some (.ref 7), some (.int x1_s), some (.int x2_s)], [], h3) (gI (fun v5 h5 => hKn h5 → (v5.toInt = x3.toInt → K_s v5 h5) ∧ (¬ v5.toInt = x3.toInt → wF F_s 21 (0, [some (.ref 7), some (.int x1_s), some (.int x2_s), some (.int x3)], [], h5) (gV (fun h7 => hKn h7 → wF F_s 9 (0, [some (.ref 42), some (.int x1_s), some (.int x2_s), some (.int v5), some (.int x3)], [], h7) (gV (fun h8 => hKn h8 → K_s v5 h8)))))))))))))) : wF (F_s + 1) 98 (0, [some (.ref 6), some (.int x1_s), some (.int x2_s), some (.int x3), none], [], h_s) (gI K_s) := by
  refine w_0 (pc := 0) (e_s := (3, 1, 0, 0, 0, .null, [])) (y_s := (1, [some (.ref _), some (.int _), some (.int _), some (.int _), none], [.ref _], _)) rfl (u_ rfl) ?_
  refine w20r (pc := 1) (len_s := 3) (q_s := 7) rfl (krq hk rfl) ?_
  refine w_t (pc := 4) (e_s := (1, 1, 1, 0, 0, .null, [])) (y_s := (5, [some (.ref _), some (.int _), some (.int _), some (.int _), none], [.int _, .ref _], _)) rfl (u_ rfl) ?_
  refine w_t (pc := 5) (e_s := (1, 1, 2, 0, 0, .null, [])) (y_s := (6, [some (.ref _), some (.int _), some (.int _), some (.int _), none], [.int _, .int _, .ref _], _)) rfl (u_ rfl) ?_
  refine wcI (pc := 6) (len_s := 3) rfl rfl (l := [some (.ref _), some (.int _), some (.int _)]) rfl (wmI t_s (fun v1_s h1 hk t_s => ?_))
  replace t_s := t_s hk
  refine wq0 (pc := 9) (len_s := 3) rfl rfl (fun c2_s => ?_) (fun c2_s => ?_)
  · replace t_s := t_s.1 c2_s
    refine w_t (pc := 24) (e_s := (0, 2, 0, 0, 0, .int (-2000000000), [(0, 949)])) (y_s := (26, [some (.ref _), some (.int _), some (.int _), some (.int _), none], [.int _], _)) rfl (u_ rfl) ?_
    exact wrI (pc := 26) (len_s := 1) rfl hk t_s
  · replace t_s := t_s.2 c2_s
    refine w_t (pc := 12) (e_s := (3, 1, 0, 0, 0, .null, [])) (y_s := (13, [some (.ref _), some (.int _), some (.int _), some (.int _), none], [.ref _], _)) rfl (u_ rfl) ?_
    refine w20r (pc := 13) (len_s := 3) (q_s := 7) rfl (krq hk rfl) ?_
    refine w_t (pc := 16) (e_s := (1, 1, 2, 0, 0, .null, [])) (y_s := (17, [some (.ref _), some (.int _), some (.int _), some (.int _), none], [.int _, .ref _], _)) rfl (u_ rfl) ?_
    refine w_t (pc := 17) (e_s := (1, 1, 3, 0, 0, .null, [])) (y_s := (18, [some (.ref _), some (.int _), some (.int _), some (.int _), none], [.int _, .int _, .ref _], _)) rfl (u_ rfl) ?_
    refine wcI (pc := 18) (len_s := 3) rfl rfl (l := [some (.ref _), some (.int _), some (.int _), none]) rfl (wmI t_s (fun v3 h3 hk t_s => ?_))
    replace t_s := t_s hk
    refine wq1 (pc := 21) (len_s := 3) rfl rfl (fun c4_s => ?_) (fun c4_s => ?_)
    · replace t_s := t_s.1 c4_s
      refine w_t (pc := 24) (e_s := (0, 2, 0, 0, 0, .int (-2000000000), [(0, 949)])) (y_s := (26, [some (.ref _), some (.int _), some (.int _), some (.int _), none], [.int _], _)) rfl (u_ rfl) ?_
      exact wrI (pc := 26) (len_s := 1) rfl hk t_s
    · replace t_s := t_s.2 c4_s
      refine w_t (pc := 27) (e_s := (3, 1, 0, 0, 0, .null, [])) (y_s := (28, [some (.ref _), some (.int _), some (.int _), some (.int _), none], [.ref _], _)) rfl (u_ rfl) ?_
      refine w20r (pc := 28) (len_s := 3) (q_s := 7) rfl (krq hk rfl) ?_
      refine w_t (pc := 31) (e_s := (1, 1, 1, 0, 0, .null, [])) (y_s := (32, [some (.ref _), some (.int _), some (.int _), some (.int _), none], [.int _, .ref _], _)) rfl (u_ rfl) ?_
      refine w_t (pc := 32) (e_s := (1, 1, 2, 0, 0, .null, [])) (y_s := (33, [some (.ref _), some (.int _), some (.int _), some (.int _), none], [.int _, .int _, .ref _], _)) rfl (u_ rfl) ?_
      refine wcI (pc := 33) (len_s := 3) rfl rfl (l := [some (.ref _), some (.int _), some (.int _)]) rfl (wmI t_s (fun v5 h5 hk t_s => ?_))
      replace t_s := t_s hk
      refine w_t (pc := 36) (e_s := (4, 2, 4, 0, 0, .null, [])) (y_s := (38, [some (.ref _), some (.int _), some (.int _), some (.int _), some (.int _)], [], _)) rfl (u_ rfl) ?_
      refine w_t (pc := 38) (e_s := (1, 2, 4, 0, 0, .null, [])) (y_s := (40, [some (.ref _), some (.int _), some (.int _), some (.int _), some (.int _)], [.int _], _)) rfl (u_ rfl) ?_
      refine w_t (pc := 40) (e_s := (1, 1, 3, 0, 0, .null, [])) (y_s := (41, [some (.ref _), some (.int _), some (.int _), some (.int _), some (.int _)], [.int _, .int _], _)) rfl (u_ rfl) ?_
      refine wi0 (pc := 41) (len_s := 3) rfl rfl rfl (fun c6_s => ?_) (fun c6_s => ?_)
      · replace t_s := t_s.1 c6_s
        refine w_t (pc := 66) (e_s := (1, 2, 4, 0, 0, .null, [])) (y_s := (68, [some (.ref _), some (.int _), some (.int _), some (.int _), some (.int _)], [.int _], _)) rfl (u_ rfl) ?_
        exact wrI (pc := 68) (len_s := 1) rfl hk t_s
      · replace t_s := t_s.2 c6_s
        refine w_t (pc := 44) (e_s := (3, 1, 0, 0, 0, .null, [])) (y_s := (45, [some (.ref _), some (.int _), some (.int _), some (.int _), some (.int _)], [.ref _], _)) rfl (u_ rfl) ?_
        refine w20r (pc := 45) (len_s := 3) (q_s := 7) rfl (krq hk rfl) ?_
        refine w_t (pc := 48) (e_s := (1, 1, 1, 0, 0, .null, [])) (y_s := (49, [some (.ref _), some (.int _), some (.int _), some (.int _), some (.int _)], [.int _, .ref _], _)) rfl (u_ rfl) ?_
        refine w_t (pc := 49) (e_s := (1, 1, 2, 0, 0, .null, [])) (y_s := (50, [some (.ref _), some (.int _), some (.int _), some (.int _), some (.int _)], [.int _, .int _, .ref _], _)) rfl (u_ rfl) ?_
        refine w_t (pc := 50) (e_s := (1, 1, 3, 0, 0, .null, [])) (y_s := (51, [some (.ref _), some (.int _), some (.int _), some (.int _), some (.int _)], [.int _, .int _, .int _, .ref _], _)) rfl (u_ rfl) ?_
        refine wcV (pc := 51) (len_s := 3) rfl rfl (l := [some (.ref _), some (.int _), some (.int _), some (.int _)]) rfl (wmV t_s (fun h7 hk t_s => ?_))
        replace t_s := t_s hk
        refine w_t (pc := 54) (e_s := (3, 1, 0, 0, 0, .null, [])) (y_s := (55, [some (.ref _), some (.int _), some (.int _), some (.int _), some (.int _)], [.ref _], _)) rfl (u_ rfl) ?_
        refine w20r (pc := 55) (len_s := 3) (q_s := 42) rfl (krq hk rfl) ?_
        refine w_t (pc := 58) (e_s := (1, 1, 1, 0, 0, .null, [])) (y_s := (59, [some (.ref _), some (.int _), some (.int _), some (.int _), some (.int _)], [.int _, .ref _], _)) rfl (u_ rfl) ?_
        refine w_t (pc := 59) (e_s := (1, 1, 2, 0, 0, .null, [])) (y_s := (60, [some (.ref _), some (.int _), some (.int _), some (.int _), some (.int _)], [.int _, .int _, .ref _], _)) rfl (u_ rfl) ?_
        refine w_t (pc := 60) (e_s := (1, 2, 4, 0, 0, .null, [])) (y_s := (62, [some (.ref _), some (.int _), some (.int _), some (.int _), some (.int _)], [.int _, .int _, .int _, .ref _], _)) rfl (u_ rfl) ?_
        refine w_t (pc := 62) (e_s := (1, 1, 3, 0, 0, .null, [])) (y_s := (63, [some (.ref _), some (.int _), some (.int _), some (.int _), some (.int _)], [.int _, .int _, .int _, .int _, .ref _], _)) rfl (u_ rfl) ?_
        refine wcV (pc := 63) (len_s := 3) rfl rfl (l := [some (.ref _), some (.int _), some (.int _), some (.int _), some (.int _)]) rfl (wmV t_s (fun h8 hk t_s => ?_))
        replace t_s := t_s hk
        refine w_t (pc := 66) (e_s := (1, 2, 4, 0, 0, .null, [])) (y_s := (68, [some (.ref _), some (.int _), some (.int _), some (.int _), some (.int _)], [.int _], _)) rfl (u_ rfl) ?_
        exact wrI (pc := 68) (len_s := 1) rfl hk t_s
/-- ColdShod$WayPlan.weigh(I)V, from 0 on -/
theorem sg_91_0 {F_s : Nat} {x1_s : Int32} {h_s : zH} {K_s : zH → Prop} (hk : hKn h_s) (t_s : (zix x1_s < 8 → ((h_s.2.1 59 1).toInt = -2 → (0 + zix x1_s ≤ 8 ∧ 0 + zix x1_s ≤ 8 → K_s (h_s.1, zrow (zup (zup h_s.2.1 59 2 (h_s.2.1 (63 + (zix x1_s)) 2)) 59 1 x1_s) 60 (zcpy ((zup (zup h_s.2.1 59 2 (h_s.2.1 (63 + (zix x1_s)) 2)) 59 1 x1_s) 61) ((zup (zup h_s.2.1 59 2 (h_s.2.1 (63 + (zix x1_s)) 2)) 59 1 x1_s) 60) 0 0 (zix x1_s)), h_s.2.2.1, h_s.2.2.2))) ∧ (¬ (h_s.2.1 59 1).toInt = -2 → (((h_s.2.1 (63 + (zix x1_s)) 2).toInt < (h_s.2.1 59 2).toInt → (0 + zix x1_s ≤ 8 ∧ 0 + zix x1_s ≤ 8 → K_s (h_s.1, zrow (zup (zup h_s.2.1 59 2 (h_s.2.1 (63 + (zix x1_s)) 2)) 59 1 x1_s) 60 (zcpy ((zup (zup h_s.2.1 59 2 (h_s.2.1 (63 + (zix x1_s)) 2)) 59 1 x1_s) 61) ((zup (zup h_s.2.1 59 2 (h_s.2.1 (63 + (zix x1_s)) 2)) 59 1 x1_s) 60) 0 0 (zix x1_s)), h_s.2.2.1, h_s.2.2.2))) ∧ (¬ (h_s.2.1 (63 + (zix x1_s)) 2).toInt < (h_s.2.1 59 2).toInt → (((h_s.2.1 (63 + (zix x1_s)) 2).toInt = (h_s.2.1 59 2).toInt → ((x1_s.toInt < (h_s.2.1 59 1).toInt → (0 + zix x1_s ≤ 8 ∧ 0 + zix x1_s ≤ 8 → K_s (h_s.1, zrow (zup (zup h_s.2.1 59 2 (h_s.2.1 (63 + (zix x1_s)) 2)) 59 1 x1_s) 60 (zcpy ((zup (zup h_s.2.1 59 2 (h_s.2.1 (63 + (zix x1_s)) 2)) 59 1 x1_s) 61) ((zup (zup h_s.2.1 59 2 (h_s.2.1 (63 + (zix x1_s)) 2)) 59 1 x1_s) 60) 0 0 (zix x1_s)), h_s.2.2.1, h_s.2.2.2))) ∧ (¬ x1_s.toInt < (h_s.2.1 59 1).toInt → K_s h_s))) ∧ (¬ (h_s.2.1 (63 + (zix x1_s)) 2).toInt = (h_s.2.1 59 2).toInt → K_s h_s))))))) : wF (F_s + 1) 91 (0, [some (.ref 59), some (.int x1_s), none, none], [], h_s) (gV K_s) := by
  refine w_0 (pc := 0) (e_s := (3, 1, 0, 0, 0, .null, [])) (y_s := (1, [some (.ref _), some (.int _), none, none], [.ref _], _)) rfl (u_ rfl) ?_
  refine w20r (pc := 1) (len_s := 3) (q_s := 62) rfl (krq hk rfl) ?_
  refine w_t (pc := 4) (e_s := (1, 1, 1, 0, 0, .null, [])) (y_s := (5, [some (.ref _), some (.int _), none, none], [.int _, .ref _], _)) rfl (u_ rfl) ?_
  refine w24 (g_s := fun j_ => 63 + j_) (pc := 5) (len_s := 1) hk rfl (hk.1 62 2 8 rfl rfl) kg62 (fun c1_s => ?_)
  replace t_s := t_s c1_s
  refine w20 (pc := 6) (len_s := 3) rfl ?_
  refine w_t (pc := 9) (e_s := (4, 1, 2, 0, 0, .null, [])) (y_s := (10, [some (.ref _), some (.int _), some (.int _), none], [], _)) rfl (u_ rfl) ?_
  refine w_t (pc := 10) (e_s := (3, 1, 0, 0, 0, .null, [])) (y_s := (11, [some (.ref _), some (.int _), some (.int _), none], [.ref _], _)) rfl (u_ rfl) ?_
  refine w20 (pc := 11) (len_s := 3) rfl ?_
  refine w_t (pc := 14) (e_s := (0, 2, 0, 0, 0, .int (-2), [])) (y_s := (16, [some (.ref _), some (.int _), some (.int _), none], [.int _, .int _], _)) rfl (u_ rfl) ?_
  refine wi0 (pc := 16) (len_s := 3) (Y := -2) rfl rfl (by decide) (fun c2_s => ?_) (fun c2_s => ?_)
  · replace t_s := t_s.1 c2_s
    refine w_t (pc := 43) (e_s := (0, 1, 0, 0, 0, .int 1, [])) (y_s := (44, [some (.ref _), some (.int _), some (.int _), none], [.int _], _)) rfl (u_ rfl) ?_
    refine w_t (pc := 44) (e_s := (17, 3, 48, 0, 0, .null, [])) (y_s := (48, [some (.ref _), some (.int _), some (.int _), none], [.int _], _)) rfl (u_ rfl) ?_
    refine w_t (pc := 48) (e_s := (4, 1, 3, 0, 0, .null, [])) (y_s := (49, [some (.ref _), some (.int _), some (.int _), some (.int _)], [], _)) rfl (u_ rfl) ?_
    refine w_t (pc := 49) (e_s := (1, 1, 3, 0, 0, .null, [])) (y_s := (50, [some (.ref _), some (.int _), some (.int _), some (.int _)], [.int _], _)) rfl (u_ rfl) ?_
    refine w_t (pc := 50) (e_s := (15, 3, 54, 1, 0, .null, [])) (y_s := (54, [some (.ref _), some (.int _), some (.int _), some (.int _)], [], _)) rfl (u_ rfl) ?_
    refine w_t (pc := 54) (e_s := (3, 1, 0, 0, 0, .null, [])) (y_s := (55, [some (.ref _), some (.int _), some (.int _), some (.int _)], [.ref _], _)) rfl (u_ rfl) ?_
    refine w_t (pc := 55) (e_s := (1, 1, 2, 0, 0, .null, [])) (y_s := (56, [some (.ref _), some (.int _), some (.int _), some (.int _)], [.int _, .ref _], _)) rfl (u_ rfl) ?_
    refine w21 (pc := 56) (len_s := 3) rfl ?_
    refine w_t (pc := 59) (e_s := (3, 1, 0, 0, 0, .null, [])) (y_s := (60, [some (.ref _), some (.int _), some (.int _), some (.int _)], [.ref _], _)) rfl (u_ rfl) ?_
    refine w_t (pc := 60) (e_s := (1, 1, 1, 0, 0, .null, [])) (y_s := (61, [some (.ref _), some (.int _), some (.int _), some (.int _)], [.int _, .ref _], _)) rfl (u_ rfl) ?_
    refine w21 (pc := 61) (len_s := 3) rfl ?_
    refine w_t (pc := 64) (e_s := (3, 1, 0, 0, 0, .null, [])) (y_s := (65, [some (.ref _), some (.int _), some (.int _), some (.int _)], [.ref _], _)) rfl (u_ rfl) ?_
    refine w20r (pc := 65) (len_s := 3) (q_s := 61) rfl (krq hk rfl) ?_
    refine w_t (pc := 68) (e_s := (0, 1, 0, 0, 0, .int 0, [])) (y_s := (69, [some (.ref _), some (.int _), some (.int _), some (.int _)], [.int _, .ref _], _)) rfl (u_ rfl) ?_
    refine w_t (pc := 69) (e_s := (3, 1, 0, 0, 0, .null, [])) (y_s := (70, [some (.ref _), some (.int _), some (.int _), some (.int _)], [.ref _, .int _, .ref _], _)) rfl (u_ rfl) ?_
    refine w20r (pc := 70) (len_s := 3) (q_s := 60) rfl (krq hk rfl) ?_
    refine w_t (pc := 73) (e_s := (0, 1, 0, 0, 0, .int 0, [])) (y_s := (74, [some (.ref _), some (.int _), some (.int _), some (.int _)], [.int _, .ref _, .int _, .ref _], _)) rfl (u_ rfl) ?_
    refine w_t (pc := 74) (e_s := (1, 1, 1, 0, 0, .null, [])) (y_s := (75, [some (.ref _), some (.int _), some (.int _), some (.int _)], [.int _, .int _, .ref _, .int _, .ref _], _)) rfl (u_ rfl) ?_
    refine w34i (pc := 75) (len_s := 3) rfl (hk.1 61 0 8 rfl rfl) (hk.1 60 0 8 rfl rfl) (fun c3_s => ?_)
    replace t_s := t_s c3_s
    exact wrV (pc := 78) (len_s := 1) rfl hk t_s
  · replace t_s := t_s.2 c2_s
    refine w_t (pc := 19) (e_s := (1, 1, 2, 0, 0, .null, [])) (y_s := (20, [some (.ref _), some (.int _), some (.int _), none], [.int _], _)) rfl (u_ rfl) ?_
    refine w_t (pc := 20) (e_s := (3, 1, 0, 0, 0, .null, [])) (y_s := (21, [some (.ref _), some (.int _), some (.int _), none], [.ref _, .int _], _)) rfl (u_ rfl) ?_
    refine w20 (pc := 21) (len_s := 3) rfl ?_
    refine wi2 (pc := 24) (len_s := 3) rfl rfl rfl (fun c4_s => ?_) (fun c4_s => ?_)
    · replace t_s := t_s.1 c4_s
      refine w_t (pc := 43) (e_s := (0, 1, 0, 0, 0, .int 1, [])) (y_s := (44, [some (.ref _), some (.int _), some (.int _), none], [.int _], _)) rfl (u_ rfl) ?_
      refine w_t (pc := 44) (e_s := (17, 3, 48, 0, 0, .null, [])) (y_s := (48, [some (.ref _), some (.int _), some (.int _), none], [.int _], _)) rfl (u_ rfl) ?_
      refine w_t (pc := 48) (e_s := (4, 1, 3, 0, 0, .null, [])) (y_s := (49, [some (.ref _), some (.int _), some (.int _), some (.int _)], [], _)) rfl (u_ rfl) ?_
      refine w_t (pc := 49) (e_s := (1, 1, 3, 0, 0, .null, [])) (y_s := (50, [some (.ref _), some (.int _), some (.int _), some (.int _)], [.int _], _)) rfl (u_ rfl) ?_
      refine w_t (pc := 50) (e_s := (15, 3, 54, 1, 0, .null, [])) (y_s := (54, [some (.ref _), some (.int _), some (.int _), some (.int _)], [], _)) rfl (u_ rfl) ?_
      refine w_t (pc := 54) (e_s := (3, 1, 0, 0, 0, .null, [])) (y_s := (55, [some (.ref _), some (.int _), some (.int _), some (.int _)], [.ref _], _)) rfl (u_ rfl) ?_
      refine w_t (pc := 55) (e_s := (1, 1, 2, 0, 0, .null, [])) (y_s := (56, [some (.ref _), some (.int _), some (.int _), some (.int _)], [.int _, .ref _], _)) rfl (u_ rfl) ?_
      refine w21 (pc := 56) (len_s := 3) rfl ?_
      refine w_t (pc := 59) (e_s := (3, 1, 0, 0, 0, .null, [])) (y_s := (60, [some (.ref _), some (.int _), some (.int _), some (.int _)], [.ref _], _)) rfl (u_ rfl) ?_
      refine w_t (pc := 60) (e_s := (1, 1, 1, 0, 0, .null, [])) (y_s := (61, [some (.ref _), some (.int _), some (.int _), some (.int _)], [.int _, .ref _], _)) rfl (u_ rfl) ?_
      refine w21 (pc := 61) (len_s := 3) rfl ?_
      refine w_t (pc := 64) (e_s := (3, 1, 0, 0, 0, .null, [])) (y_s := (65, [some (.ref _), some (.int _), some (.int _), some (.int _)], [.ref _], _)) rfl (u_ rfl) ?_
      refine w20r (pc := 65) (len_s := 3) (q_s := 61) rfl (krq hk rfl) ?_
      refine w_t (pc := 68) (e_s := (0, 1, 0, 0, 0, .int 0, [])) (y_s := (69, [some (.ref _), some (.int _), some (.int _), some (.int _)], [.int _, .ref _], _)) rfl (u_ rfl) ?_
      refine w_t (pc := 69) (e_s := (3, 1, 0, 0, 0, .null, [])) (y_s := (70, [some (.ref _), some (.int _), some (.int _), some (.int _)], [.ref _, .int _, .ref _], _)) rfl (u_ rfl) ?_
      refine w20r (pc := 70) (len_s := 3) (q_s := 60) rfl (krq hk rfl) ?_
      refine w_t (pc := 73) (e_s := (0, 1, 0, 0, 0, .int 0, [])) (y_s := (74, [some (.ref _), some (.int _), some (.int _), some (.int _)], [.int _, .ref _, .int _, .ref _], _)) rfl (u_ rfl) ?_
      refine w_t (pc := 74) (e_s := (1, 1, 1, 0, 0, .null, [])) (y_s := (75, [some (.ref _), some (.int _), some (.int _), some (.int _)], [.int _, .int _, .ref _, .int _, .ref _], _)) rfl (u_ rfl) ?_
      refine w34i (pc := 75) (len_s := 3) rfl (hk.1 61 0 8 rfl rfl) (hk.1 60 0 8 rfl rfl) (fun c5_s => ?_)
      replace t_s := t_s c5_s
      exact wrV (pc := 78) (len_s := 1) rfl hk t_s
    · replace t_s := t_s.2 c4_s
      refine w_t (pc := 27) (e_s := (1, 1, 2, 0, 0, .null, [])) (y_s := (28, [some (.ref _), some (.int _), some (.int _), none], [.int _], _)) rfl (u_ rfl) ?_
      refine w_t (pc := 28) (e_s := (3, 1, 0, 0, 0, .null, [])) (y_s := (29, [some (.ref _), some (.int _), some (.int _), none], [.ref _, .int _], _)) rfl (u_ rfl) ?_
      refine w20 (pc := 29) (len_s := 3) rfl ?_
      refine wi1 (pc := 32) (len_s := 3) rfl rfl rfl (fun c6_s => ?_) (fun c6_s => ?_)
      · replace t_s := t_s.1 c6_s
        refine w_t (pc := 35) (e_s := (1, 1, 1, 0, 0, .null, [])) (y_s := (36, [some (.ref _), some (.int _), some (.int _), none], [.int _], _)) rfl (u_ rfl) ?_
        refine w_t (pc := 36) (e_s := (3, 1, 0, 0, 0, .null, [])) (y_s := (37, [some (.ref _), some (.int _), some (.int _), none], [.ref _, .int _], _)) rfl (u_ rfl) ?_
        refine w20 (pc := 37) (len_s := 3) rfl ?_
        refine wi3 (pc := 40) (len_s := 3) rfl rfl rfl (fun c7_s => ?_) (fun c7_s => ?_)
        · replace t_s := t_s.1 c7_s
          refine w_t (pc := 43) (e_s := (0, 1, 0, 0, 0, .int 1, [])) (y_s := (44, [some (.ref _), some (.int _), some (.int _), none], [.int _], _)) rfl (u_ rfl) ?_
          refine w_t (pc := 44) (e_s := (17, 3, 48, 0, 0, .null, [])) (y_s := (48, [some (.ref _), some (.int _), some (.int _), none], [.int _], _)) rfl (u_ rfl) ?_
          refine w_t (pc := 48) (e_s := (4, 1, 3, 0, 0, .null, [])) (y_s := (49, [some (.ref _), some (.int _), some (.int _), some (.int _)], [], _)) rfl (u_ rfl) ?_
          refine w_t (pc := 49) (e_s := (1, 1, 3, 0, 0, .null, [])) (y_s := (50, [some (.ref _), some (.int _), some (.int _), some (.int _)], [.int _], _)) rfl (u_ rfl) ?_
          refine w_t (pc := 50) (e_s := (15, 3, 54, 1, 0, .null, [])) (y_s := (54, [some (.ref _), some (.int _), some (.int _), some (.int _)], [], _)) rfl (u_ rfl) ?_
          refine w_t (pc := 54) (e_s := (3, 1, 0, 0, 0, .null, [])) (y_s := (55, [some (.ref _), some (.int _), some (.int _), some (.int _)], [.ref _], _)) rfl (u_ rfl) ?_
          refine w_t (pc := 55) (e_s := (1, 1, 2, 0, 0, .null, [])) (y_s := (56, [some (.ref _), some (.int _), some (.int _), some (.int _)], [.int _, .ref _], _)) rfl (u_ rfl) ?_
          refine w21 (pc := 56) (len_s := 3) rfl ?_
          refine w_t (pc := 59) (e_s := (3, 1, 0, 0, 0, .null, [])) (y_s := (60, [some (.ref _), some (.int _), some (.int _), some (.int _)], [.ref _], _)) rfl (u_ rfl) ?_
          refine w_t (pc := 60) (e_s := (1, 1, 1, 0, 0, .null, [])) (y_s := (61, [some (.ref _), some (.int _), some (.int _), some (.int _)], [.int _, .ref _], _)) rfl (u_ rfl) ?_
          refine w21 (pc := 61) (len_s := 3) rfl ?_
          refine w_t (pc := 64) (e_s := (3, 1, 0, 0, 0, .null, [])) (y_s := (65, [some (.ref _), some (.int _), some (.int _), some (.int _)], [.ref _], _)) rfl (u_ rfl) ?_
          refine w20r (pc := 65) (len_s := 3) (q_s := 61) rfl (krq hk rfl) ?_
          refine w_t (pc := 68) (e_s := (0, 1, 0, 0, 0, .int 0, [])) (y_s := (69, [some (.ref _), some (.int _), some (.int _), some (.int _)], [.int _, .ref _], _)) rfl (u_ rfl) ?_
          refine w_t (pc := 69) (e_s := (3, 1, 0, 0, 0, .null, [])) (y_s := (70, [some (.ref _), some (.int _), some (.int _), some (.int _)], [.ref _, .int _, .ref _], _)) rfl (u_ rfl) ?_
          refine w20r (pc := 70) (len_s := 3) (q_s := 60) rfl (krq hk rfl) ?_
          refine w_t (pc := 73) (e_s := (0, 1, 0, 0, 0, .int 0, [])) (y_s := (74, [some (.ref _), some (.int _), some (.int _), some (.int _)], [.int _, .ref _, .int _, .ref _], _)) rfl (u_ rfl) ?_
          refine w_t (pc := 74) (e_s := (1, 1, 1, 0, 0, .null, [])) (y_s := (75, [some (.ref _), some (.int _), some (.int _), some (.int _)], [.int _, .int _, .ref _, .int _, .ref _], _)) rfl (u_ rfl) ?_
          refine w34i (pc := 75) (len_s := 3) rfl (hk.1 61 0 8 rfl rfl) (hk.1 60 0 8 rfl rfl) (fun c8_s => ?_)
          replace t_s := t_s c8_s
          exact wrV (pc := 78) (len_s := 1) rfl hk t_s
        · replace t_s := t_s.2 c7_s
          refine w_t (pc := 47) (e_s := (0, 1, 0, 0, 0, .int 0, [])) (y_s := (48, [some (.ref _), some (.int _), some (.int _), none], [.int _], _)) rfl (u_ rfl) ?_
          refine w_t (pc := 48) (e_s := (4, 1, 3, 0, 0, .null, [])) (y_s := (49, [some (.ref _), some (.int _), some (.int _), some (.int _)], [], _)) rfl (u_ rfl) ?_
          refine w_t (pc := 49) (e_s := (1, 1, 3, 0, 0, .null, [])) (y_s := (50, [some (.ref _), some (.int _), some (.int _), some (.int _)], [.int _], _)) rfl (u_ rfl) ?_
          refine w_t (pc := 50) (e_s := (15, 3, 54, 1, 0, .null, [])) (y_s := (53, [some (.ref _), some (.int _), some (.int _), some (.int _)], [], _)) rfl (u_ rfl) ?_
          exact wrV (pc := 53) (len_s := 1) rfl hk t_s
      · replace t_s := t_s.2 c6_s
        refine w_t (pc := 47) (e_s := (0, 1, 0, 0, 0, .int 0, [])) (y_s := (48, [some (.ref _), some (.int _), some (.int _), none], [.int _], _)) rfl (u_ rfl) ?_
        refine w_t (pc := 48) (e_s := (4, 1, 3, 0, 0, .null, [])) (y_s := (49, [some (.ref _), some (.int _), some (.int _), some (.int _)], [], _)) rfl (u_ rfl) ?_
        refine w_t (pc := 49) (e_s := (1, 1, 3, 0, 0, .null, [])) (y_s := (50, [some (.ref _), some (.int _), some (.int _), some (.int _)], [.int _], _)) rfl (u_ rfl) ?_
        refine w_t (pc := 50) (e_s := (15, 3, 54, 1, 0, .null, [])) (y_s := (53, [some (.ref _), some (.int _), some (.int _), some (.int _)], [], _)) rfl (u_ rfl) ?_
        exact wrV (pc := 53) (len_s := 1) rfl hk t_s
/-- ColdShod$WayPlan.follow(LColdShod$Country;IIII)V, from 0 on -/
theorem sg_90_0 {F_s : Nat} {x2_s x3 x4_s x5_s : Int32} {h_s : zH} {K_s : zH → Prop} (hk : hKn h_s) (t_s : (x2_s.toInt = x3.toInt → wF F_s 91 (0, [some (.ref 59), some (.int x5_s), none, none], [], h_s) (gV (fun h2 => hKn h2 → K_s h2))) ∧ (¬ x2_s.toInt = x3.toInt → (((x5_s + 1).toInt < 8 → wF F_s 90 (32, [some (.ref 59), some (.ref 7), some (.int x2_s), some (.int x3), some (.int x4_s), some (.int x5_s), some (.int 0), none, none], [], h_s) (gV K_s)) ∧ (¬ (x5_s + 1).toInt < 8 → K_s h_s)))) : wF (F_s + 1) 90 (0, [some (.ref 59), some (.ref 7), some (.int x2_s), some (.int x3), some (.int x4_s), some (.int x5_s), none, none, none], [], h_s) (gV K_s) := by
  refine w_0 (pc := 0) (e_s := (1, 1, 2, 0, 0, .null, [])) (y_s := (1, [some (.ref _), some (.ref _), some (.int _), some (.int _), some (.int _), some (.int _), none, none, none], [.int _], _)) rfl (u_ rfl) ?_
  refine w_t (pc := 1) (e_s := (1, 1, 3, 0, 0, .null, [])) (y_s := (2, [some (.ref _), some (.ref _), some (.int _), some (.int _), some (.int _), some (.int _), none, none, none], [.int _, .int _], _)) rfl (u_ rfl) ?_
  refine wi1 (pc := 2) (len_s := 3) rfl rfl rfl (fun c1_s => ?_) (fun c1_s => ?_)
  · replace t_s := t_s.1 c1_s
    refine w_t (pc := 5) (e_s := (3, 1, 0, 0, 0, .null, [])) (y_s := (6, [some (.ref _), some (.ref _), some (.int _), some (.int _), some (.int _), some (.int _), none, none, none], [.ref _], _)) rfl (u_ rfl) ?_
    refine w_t (pc := 6) (e_s := (1, 2, 5, 0, 0, .null, [])) (y_s := (8, [some (.ref _), some (.ref _), some (.int _), some (.int _), some (.int _), some (.int _), none, none, none], [.int _, .ref _], _)) rfl (u_ rfl) ?_
    refine wcV (pc := 8) (len_s := 3) rfl rfl (l := [some (.ref _), some (.int _), none, none]) rfl (wmV t_s (fun h2 hk t_s => ?_))
    replace t_s := t_s hk
    refine w_t (pc := 11) (e_s := (1, 1, 2, 0, 0, .null, [])) (y_s := (12, [some (.ref _), some (.ref _), some (.int _), some (.int _), some (.int _), some (.int _), none, none, none], [.int _], _)) rfl (u_ rfl) ?_
    refine w_t (pc := 12) (e_s := (1, 1, 3, 0, 0, .null, [])) (y_s := (13, [some (.ref _), some (.ref _), some (.int _), some (.int _), some (.int _), some (.int _), none, none, none], [.int _, .int _], _)) rfl (u_ rfl) ?_
    refine wi0 (pc := 13) (len_s := 3) rfl rfl rfl (fun c3_s => ?_) (fun c3_s => ?_)
    · skip
      exact wrV (pc := 28) (len_s := 1) rfl hk t_s
    · exact absurd c1_s c3_s
  · replace t_s := t_s.2 c1_s
    refine w_t (pc := 11) (e_s := (1, 1, 2, 0, 0, .null, [])) (y_s := (12, [some (.ref _), some (.ref _), some (.int _), some (.int _), some (.int _), some (.int _), none, none, none], [.int _], _)) rfl (u_ rfl) ?_
    refine w_t (pc := 12) (e_s := (1, 1, 3, 0, 0, .null, [])) (y_s := (13, [some (.ref _), some (.ref _), some (.int _), some (.int _), some (.int _), some (.int _), none, none, none], [.int _, .int _], _)) rfl (u_ rfl) ?_
    refine wi0 (pc := 13) (len_s := 3) rfl rfl rfl (fun c4_s => ?_) (fun c4_s => ?_)
    · exact absurd c4_s c1_s
    · skip
      refine w_t (pc := 16) (e_s := (1, 2, 5, 0, 0, .null, [])) (y_s := (18, [some (.ref _), some (.ref _), some (.int _), some (.int _), some (.int _), some (.int _), none, none, none], [.int _], _)) rfl (u_ rfl) ?_
      refine w_t (pc := 18) (e_s := (0, 1, 0, 0, 0, .int 1, [])) (y_s := (19, [some (.ref _), some (.ref _), some (.int _), some (.int _), some (.int _), some (.int _), none, none, none], [.int _, .int _], _)) rfl (u_ rfl) ?_
      refine w_t (pc := 19) (e_s := (7, 1, 0, 0, 0, .null, [])) (y_s := (20, [some (.ref _), some (.ref _), some (.int _), some (.int _), some (.int _), some (.int _), none, none, none], [.int (_ + _)], _)) rfl (u_ rfl) ?_
      refine w_t (pc := 20) (e_s := (3, 1, 0, 0, 0, .null, [])) (y_s := (21, [some (.ref _), some (.ref _), some (.int _), some (.int _), some (.int _), some (.int _), none, none, none], [.ref _, .int _], _)) rfl (u_ rfl) ?_
      refine w20r (pc := 21) (len_s := 3) (q_s := 62) rfl (krq hk rfl) ?_
      refine w28 (pc := 24) (len_s := 1) rfl (hk.1 62 2 8 rfl rfl) ?_
      refine wi2 (pc := 25) (len_s := 3) (Y := 8) rfl rfl (by decide) (fun c5_s => ?_) (fun c5_s => ?_)
      · replace t_s := t_s.1 c5_s
        refine w_t (pc := 29) (e_s := (0, 1, 0, 0, 0, .int 0, [])) (y_s := (30, [some (.ref _), some (.ref _), some (.int _), some (.int _), some (.int _), some (.int _), none, none, none], [.int _], _)) rfl (u_ rfl) ?_
        refine w_t (pc := 30) (e_s := (4, 2, 6, 0, 0, .null, [])) (y_s := (32, [some (.ref _), some (.ref _), some (.int _), some (.int _), some (.int _), some (.int _), some (.int _), none, none], [], _)) rfl (u_ rfl) ?_
        exact t_s
      · replace t_s := t_s.2 c5_s
        exact wrV (pc := 28) (len_s := 1) rfl hk t_s
/-- ColdShod$WayPlan.follow(LColdShod$Country;IIII)V, from 32 on -/
theorem sg_90_32 {F_s : Nat} {x2_s x3 x4_s x5_s x6 : Int32} {l7 l8 : Option Value} {h_s : zH} {K_s : zH → Prop} (hk : hKn h_s) (t_s : (x6.toInt < (h_s.2.1 7 8).toInt → (zix x6 < 12 → wF F_s 74 (0, [some (.ref (28 + (zix x6))), some (.int x2_s)], [], h_s) (gI (fun v3 h3 => hKn h3 → (v3.toInt < 0 → wF F_s 90 (32, [some (.ref 59), some (.ref 7), some (.int x2_s), some (.int x3), some (.int x4_s), some (.int x5_s), some (.int (x6 + 1)), some (.ref (28 + (zix x6))), some (.int v3)], [], h3) (gV K_s)) ∧ (¬ v3.toInt < 0 → ((((x4_s >>> (v3 &&& 31)) &&& 1).toInt = 0 → (zix (x5_s + 1) < 8 → (zix x5_s < 8 → wF F_s 35 (0, [some (.ref (63 + (zix (x5_s + 1)))), some (.ref (63 + (zix x5_s)))], [], h3) (gV (fun h8 => hKn h8 → wF F_s 24 (0, [some (.ref 7), some (.ref (63 + (zix (x5_s + 1)))), some (.ref (28 + (zix x6))), none, none], [], h8) (gI (fun v10 h10 => hKn h10 → (v10.toInt < (h10.2.1 (28 + (zix x6)) 2).toInt → wF F_s 90 (32, [some (.ref 59), some (.ref 7), some (.int x2_s), some (.int x3), some (.int x4_s), some (.int x5_s), some (.int (x6 + 1)), some (.ref (28 + (zix x6))), some (.int v3)], [], h10) (gV K_s)) ∧ (¬ v10.toInt < (h10.2.1 (28 + (zix x6)) 2).toInt → wF F_s 90 (0, [some (.ref 59), some (.ref 7), some (.int v3), some (.int x3), some (.int (x4_s ||| (1 <<< (v3 &&& 31)))), some (.int (x5_s + 1)), none, none, none], [], (h10.1, zup h10.2.1 61 (zix x5_s) x6, h10.2.2.1, h10.2.2.2)) (gV (fun h13 => hKn h13 → wF F_s 90 (32, [some (.ref 59), some (.ref 7), some (.int x2_s), some (.int x3), some (.int x4_s), some (.int x5_s), some (.int (x6 + 1)), some (.ref (28 + (zix x6))), some (.int v3)], [], h13) (gV K_s))))))))))) ∧ (¬ ((x4_s >>> (v3 &&& 31)) &&& 1).toInt = 0 → wF F_s 90 (32, [some (.ref 59), some (.ref 7), some (.int x2_s), some (.int x3), some (.int x4_s), some (.int x5_s), some (.int (x6 + 1)), some (.ref (28 + (zix x6))), some (.int v3)], [], h3) (gV K_s)))))))) ∧ (¬ x6.toInt < (h_s.2.1 7 8).toInt → K_s h_s)) : wF (F_s + 1) 90 (32, [some (.ref 59), some (.ref 7), some (.int x2_s), some (.int x3), some (.int x4_s), some (.int x5_s), some (.int x6), l7, l8], [], h_s) (gV K_s) := by
  refine w_0 (pc := 32) (e_s := (1, 2, 6, 0, 0, .null, [])) (y_s := (34, [some (.ref _), some (.ref _), some (.int _), some (.int _), some (.int _), some (.int _), some (.int _), _, _], [.int _], _)) rfl (u_ rfl) ?_
  refine w_t (pc := 34) (e_s := (3, 1, 1, 0, 0, .null, [])) (y_s := (35, [some (.ref _), some (.ref _), some (.int _), some (.int _), some (.int _), some (.int _), some (.int _), _, _], [.ref _, .int _], _)) rfl (u_ rfl) ?_
  refine w20 (pc := 35) (len_s := 3) rfl ?_
  refine wi3 (pc := 38) (len_s := 3) rfl rfl rfl (fun c1_s => ?_) (fun c1_s => ?_)
  · replace t_s := t_s.1 c1_s
    refine w_t (pc := 41) (e_s := (3, 1, 1, 0, 0, .null, [])) (y_s := (42, [some (.ref _), some (.ref _), some (.int _), some (.int _), some (.int _), some (.int _), some (.int _), _, _], [.ref _], _)) rfl (u_ rfl) ?_
    refine w20r (pc := 42) (len_s := 3) (q_s := 11) rfl (krq hk rfl) ?_
    refine w_t (pc := 45) (e_s := (1, 2, 6, 0, 0, .null, [])) (y_s := (47, [some (.ref _), some (.ref _), some (.int _), some (.int _), some (.int _), some (.int _), some (.int _), _, _], [.int _, .ref _], _)) rfl (u_ rfl) ?_
    refine w24 (g_s := fun j_ => 28 + j_) (pc := 47) (len_s := 1) hk rfl (hk.1 11 3 12 rfl rfl) kg11 (fun c2_s => ?_)
    replace t_s := t_s c2_s
    refine w_t (pc := 48) (e_s := (6, 2, 7, 0, 0, .null, [])) (y_s := (50, [some (.ref _), some (.ref _), some (.int _), some (.int _), some (.int _), some (.int _), some (.int _), some (.ref _), _], [], _)) rfl (u_ rfl) ?_
    refine w_t (pc := 50) (e_s := (3, 2, 7, 0, 0, .null, [])) (y_s := (52, [some (.ref _), some (.ref _), some (.int _), some (.int _), some (.int _), some (.int _), some (.int _), some (.ref _), _], [.ref _], _)) rfl (u_ rfl) ?_
    refine w_t (pc := 52) (e_s := (1, 1, 2, 0, 0, .null, [])) (y_s := (53, [some (.ref _), some (.ref _), some (.int _), some (.int _), some (.int _), some (.int _), some (.int _), some (.ref _), _], [.int _, .ref _], _)) rfl (u_ rfl) ?_
    refine wcI (pc := 53) (len_s := 3) rfl rfl (l := [some (.ref _), some (.int _)]) rfl (wmI t_s (fun v3 h3 hk t_s => ?_))
    replace t_s := t_s hk
    refine w_t (pc := 56) (e_s := (4, 2, 8, 0, 0, .null, [])) (y_s := (58, [some (.ref _), some (.ref _), some (.int _), some (.int _), some (.int _), some (.int _), some (.int _), some (.ref _), some (.int _)], [], _)) rfl (u_ rfl) ?_
    refine w_t (pc := 58) (e_s := (1, 2, 8, 0, 0, .null, [])) (y_s := (60, [some (.ref _), some (.ref _), some (.int _), some (.int _), some (.int _), some (.int _), some (.int _), some (.ref _), some (.int _)], [.int _], _)) rfl (u_ rfl) ?_
    refine wq2 (pc := 60) (len_s := 3) rfl rfl (fun c4_s => ?_) (fun c4_s => ?_)
    · replace t_s := t_s.1 c4_s
      refine w_t (pc := 149) (e_s := (19, 3, 6, 0, 0, .int 1, [])) (y_s := (152, [some (.ref _), some (.ref _), some (.int _), some (.int _), some (.int _), some (.int _), some (.int _), some (.ref _), some (.int _)], [], _)) rfl (u_ rfl) ?_
      refine w_t (pc := 152) (e_s := (17, 3, 32, 0, 0, .null, [])) (y_s := (32, [some (.ref _), some (.ref _), some (.int _), some (.int _), some (.int _), some (.int _), some (.int _), some (.ref _), some (.int _)], [], _)) rfl (u_ rfl) ?_
      exact t_s
    · replace t_s := t_s.2 c4_s
      refine w_t (pc := 63) (e_s := (1, 2, 4, 0, 0, .null, [])) (y_s := (65, [some (.ref _), some (.ref _), some (.int _), some (.int _), some (.int _), some (.int _), some (.int _), some (.ref _), some (.int _)], [.int _], _)) rfl (u_ rfl) ?_
      refine w_t (pc := 65) (e_s := (1, 2, 8, 0, 0, .null, [])) (y_s := (67, [some (.ref _), some (.ref _), some (.int _), some (.int _), some (.int _), some (.int _), some (.int _), some (.ref _), some (.int _)], [.int _, .int _], _)) rfl (u_ rfl) ?_
      refine w_t (pc := 67) (e_s := (7, 1, 0, 7, 0, .null, [])) (y_s := (68, [some (.ref _), some (.ref _), some (.int _), some (.int _), some (.int _), some (.int _), some (.int _), some (.ref _), some (.int _)], [.int ((_ : Int32) >>> ((_ : Int32) &&& 31))], _)) rfl (u_ rfl) ?_
      refine w_t (pc := 68) (e_s := (0, 1, 0, 0, 0, .int 1, [])) (y_s := (69, [some (.ref _), some (.ref _), some (.int _), some (.int _), some (.int _), some (.int _), some (.int _), some (.ref _), some (.int _)], [.int _, .int _], _)) rfl (u_ rfl) ?_
      refine w_t (pc := 69) (e_s := (7, 1, 0, 3, 0, .null, [])) (y_s := (70, [some (.ref _), some (.ref _), some (.int _), some (.int _), some (.int _), some (.int _), some (.int _), some (.ref _), some (.int _)], [.int (_ &&& _)], _)) rfl (u_ rfl) ?_
      refine wq0 (pc := 70) (len_s := 3) rfl rfl (fun c5_s => ?_) (fun c5_s => ?_)
      · replace t_s := t_s.1 c5_s
        refine w_t (pc := 76) (e_s := (3, 1, 0, 0, 0, .null, [])) (y_s := (77, [some (.ref _), some (.ref _), some (.int _), some (.int _), some (.int _), some (.int _), some (.int _), some (.ref _), some (.int _)], [.ref _], _)) rfl (u_ rfl) ?_
        refine w20r (pc := 77) (len_s := 3) (q_s := 62) rfl (krq hk rfl) ?_
        refine w_t (pc := 80) (e_s := (1, 2, 5, 0, 0, .null, [])) (y_s := (82, [some (.ref _), some (.ref _), some (.int _), some (.int _), some (.int _), some (.int _), some (.int _), some (.ref _), some (.int _)], [.int _, .ref _], _)) rfl (u_ rfl) ?_
        refine w_t (pc := 82) (e_s := (0, 1, 0, 0, 0, .int 1, [])) (y_s := (83, [some (.ref _), some (.ref _), some (.int _), some (.int _), some (.int _), some (.int _), some (.int _), some (.ref _), some (.int _)], [.int _, .int _, .ref _], _)) rfl (u_ rfl) ?_
        refine w_t (pc := 83) (e_s := (7, 1, 0, 0, 0, .null, [])) (y_s := (84, [some (.ref _), some (.ref _), some (.int _), some (.int _), some (.int _), some (.int _), some (.int _), some (.ref _), some (.int _)], [.int (_ + _), .ref _], _)) rfl (u_ rfl) ?_
        refine w24 (g_s := fun j_ => 63 + j_) (pc := 84) (len_s := 1) hk rfl (hk.1 62 2 8 rfl rfl) kg62 (fun c6_s => ?_)
        replace t_s := t_s c6_s
        refine w_t (pc := 85) (e_s := (3, 1, 0, 0, 0, .null, [])) (y_s := (86, [some (.ref _), some (.ref _), some (.int _), some (.int _), some (.int _), some (.int _), some (.int _), some (.ref _), some (.int _)], [.ref _, .ref _], _)) rfl (u_ rfl) ?_
        refine w20r (pc := 86) (len_s := 3) (q_s := 62) rfl (krq hk rfl) ?_
        refine w_t (pc := 89) (e_s := (1, 2, 5, 0, 0, .null, [])) (y_s := (91, [some (.ref _), some (.ref _), some (.int _), some (.int _), some (.int _), some (.int _), some (.int _), some (.ref _), some (.int _)], [.int _, .ref _, .ref _], _)) rfl (u_ rfl) ?_
        refine w24 (g_s := fun j_ => 63 + j_) (pc := 91) (len_s := 1) hk rfl (hk.1 62 2 8 rfl rfl) kg62 (fun c7_s => ?_)
        replace t_s := t_s c7_s
        refine wcV (pc := 92) (len_s := 3) rfl rfl (l := [some (.ref _), some (.ref _)]) rfl (wmV t_s (fun h8 hk t_s => ?_))
        replace t_s := t_s hk
        refine w_t (pc := 95) (e_s := (3, 1, 1, 0, 0, .null, [])) (y_s := (96, [some (.ref _), some (.ref _), some (.int _), some (.int _), some (.int _), some (.int _), some (.int _), some (.ref _), some (.int _)], [.ref _], _)) rfl (u_ rfl) ?_
        refine w_t (pc := 96) (e_s := (3, 1, 0, 0, 0, .null, [])) (y_s := (97, [some (.ref _), some (.ref _), some (.int _), some (.int _), some (.int _), some (.int _), some (.int _), some (.ref _), some (.int _)], [.ref _, .ref _], _)) rfl (u_ rfl) ?_
        refine w20r (pc := 97) (len_s := 3) (q_s := 62) rfl (krq hk rfl) ?_
        refine w_t (pc := 100) (e_s := (1, 2, 5, 0, 0, .null, [])) (y_s := (102, [some (.ref _), some (.ref _), some (.int _), some (.int _), some (.int _), some (.int _), some (.int _), some (.ref _), some (.int _)], [.int _, .ref _, .ref _], _)) rfl (u_ rfl) ?_
        refine w_t (pc := 102) (e_s := (0, 1, 0, 0, 0, .int 1, [])) (y_s := (103, [some (.ref _), some (.ref _), some (.int _), some (.int _), some (.int _), some (.int _), some (.int _), some (.ref _), some (.int _)], [.int _, .int _, .ref _, .ref _], _)) rfl (u_ rfl) ?_
        refine w_t (pc := 103) (e_s := (7, 1, 0, 0, 0, .null, [])) (y_s := (104, [some (.ref _), some (.ref _), some (.int _), some (.int _), some (.int _), some (.int _), some (.int _), some (.ref _), some (.int _)], [.int (_ + _), .ref _, .ref _], _)) rfl (u_ rfl) ?_
        refine w24 (g_s := fun j_ => 63 + j_) (pc := 104) (len_s := 1) hk rfl (hk.1 62 2 8 rfl rfl) kg62 (fun c9_s => ?_)
        refine w_t (pc := 105) (e_s := (3, 2, 7, 0, 0, .null, [])) (y_s := (107, [some (.ref _), some (.ref _), some (.int _), some (.int _), some (.int _), some (.int _), some (.int _), some (.ref _), some (.int _)], [.ref _, .ref _, .ref _], _)) rfl (u_ rfl) ?_
        refine wcI (pc := 107) (len_s := 3) rfl rfl (l := [some (.ref _), some (.ref _), some (.ref _), none, none]) rfl (wmI t_s (fun v10 h10 hk t_s => ?_))
        replace t_s := t_s hk
        refine w_t (pc := 110) (e_s := (3, 2, 7, 0, 0, .null, [])) (y_s := (112, [some (.ref _), some (.ref _), some (.int _), some (.int _), some (.int _), some (.int _), some (.int _), some (.ref _), some (.int _)], [.ref _, .int _], _)) rfl (u_ rfl) ?_
        refine w20 (pc := 112) (len_s := 3) rfl ?_
        refine wi3 (pc := 115) (len_s := 3) rfl rfl rfl (fun c11 => ?_) (fun c11 => ?_)
        · replace t_s := t_s.1 c11
          refine w_t (pc := 118) (e_s := (17, 3, 149, 0, 0, .null, [])) (y_s := (149, [some (.ref _), some (.ref _), some (.int _), some (.int _), some (.int _), some (.int _), some (.int _), some (.ref _), some (.int _)], [], _)) rfl (u_ rfl) ?_
          refine w_t (pc := 149) (e_s := (19, 3, 6, 0, 0, .int 1, [])) (y_s := (152, [some (.ref _), some (.ref _), some (.int _), some (.int _), some (.int _), some (.int _), some (.int _), some (.ref _), some (.int _)], [], _)) rfl (u_ rfl) ?_
          refine w_t (pc := 152) (e_s := (17, 3, 32, 0, 0, .null, [])) (y_s := (32, [some (.ref _), some (.ref _), some (.int _), some (.int _), some (.int _), some (.int _), some (.int _), some (.ref _), some (.int _)], [], _)) rfl (u_ rfl) ?_
          exact t_s
        · replace t_s := t_s.2 c11
          refine w_t (pc := 121) (e_s := (3, 1, 0, 0, 0, .null, [])) (y_s := (122, [some (.ref _), some (.ref _), some (.int _), some (.int _), some (.int _), some (.int _), some (.int _), some (.ref _), some (.int _)], [.ref _], _)) rfl (u_ rfl) ?_
          refine w20r (pc := 122) (len_s := 3) (q_s := 61) rfl (krq hk rfl) ?_
          refine w_t (pc := 125) (e_s := (1, 2, 5, 0, 0, .null, [])) (y_s := (127, [some (.ref _), some (.ref _), some (.int _), some (.int _), some (.int _), some (.int _), some (.int _), some (.ref _), some (.int _)], [.int _, .ref _], _)) rfl (u_ rfl) ?_
          refine w_t (pc := 127) (e_s := (1, 2, 6, 0, 0, .null, [])) (y_s := (129, [some (.ref _), some (.ref _), some (.int _), some (.int _), some (.int _), some (.int _), some (.int _), some (.ref _), some (.int _)], [.int _, .int _, .ref _], _)) rfl (u_ rfl) ?_
          refine w25 (pc := 129) (len_s := 1) rfl (hk.1 61 0 8 rfl rfl) (fun c12_s => ?_)
          refine w_t (pc := 130) (e_s := (3, 1, 0, 0, 0, .null, [])) (y_s := (131, [some (.ref _), some (.ref _), some (.int _), some (.int _), some (.int _), some (.int _), some (.int _), some (.ref _), some (.int _)], [.ref _], _)) rfl (u_ rfl) ?_
          refine w_t (pc := 131) (e_s := (3, 1, 1, 0, 0, .null, [])) (y_s := (132, [some (.ref _), some (.ref _), some (.int _), some (.int _), some (.int _), some (.int _), some (.int _), some (.ref _), some (.int _)], [.ref _, .ref _], _)) rfl (u_ rfl) ?_
          refine w_t (pc := 132) (e_s := (1, 2, 8, 0, 0, .null, [])) (y_s := (134, [some (.ref _), some (.ref _), some (.int _), some (.int _), some (.int _), some (.int _), some (.int _), some (.ref _), some (.int _)], [.int _, .ref _, .ref _], _)) rfl (u_ rfl) ?_
          refine w_t (pc := 134) (e_s := (1, 1, 3, 0, 0, .null, [])) (y_s := (135, [some (.ref _), some (.ref _), some (.int _), some (.int _), some (.int _), some (.int _), some (.int _), some (.ref _), some (.int _)], [.int _, .int _, .ref _, .ref _], _)) rfl (u_ rfl) ?_
          refine w_t (pc := 135) (e_s := (1, 2, 4, 0, 0, .null, [])) (y_s := (137, [some (.ref _), some (.ref _), some (.int _), some (.int _), some (.int _), some (.int _), some (.int _), some (.ref _), some (.int _)], [.int _, .int _, .int _, .ref _, .ref _], _)) rfl (u_ rfl) ?_
          refine w_t (pc := 137) (e_s := (0, 1, 0, 0, 0, .int 1, [])) (y_s := (138, [some (.ref _), some (.ref _), some (.int _), some (.int _), some (.int _), some (.int _), some (.int _), some (.ref _), some (.int _)], [.int _, .int _, .int _, .int _, .ref _, .ref _], _)) rfl (u_ rfl) ?_
          refine w_t (pc := 138) (e_s := (1, 2, 8, 0, 0, .null, [])) (y_s := (140, [some (.ref _), some (.ref _), some (.int _), some (.int _), some (.int _), some (.int _), some (.int _), some (.ref _), some (.int _)], [.int _, .int _, .int _, .int _, .int _, .ref _, .ref _], _)) rfl (u_ rfl) ?_
          refine w_t (pc := 140) (e_s := (7, 1, 0, 6, 0, .null, [])) (y_s := (141, [some (.ref _), some (.ref _), some (.int _), some (.int _), some (.int _), some (.int _), some (.int _), some (.ref _), some (.int _)], [.int ((_ : Int32) <<< ((_ : Int32) &&& 31)), .int _, .int _, .int _, .ref _, .ref _], _)) rfl (u_ rfl) ?_
          refine w_t (pc := 141) (e_s := (7, 1, 0, 4, 0, .null, [])) (y_s := (142, [some (.ref _), some (.ref _), some (.int _), some (.int _), some (.int _), some (.int _), some (.int _), some (.ref _), some (.int _)], [.int (_ ||| _), .int _, .int _, .ref _, .ref _], _)) rfl (u_ rfl) ?_
          refine w_t (pc := 142) (e_s := (1, 2, 5, 0, 0, .null, [])) (y_s := (144, [some (.ref _), some (.ref _), some (.int _), some (.int _), some (.int _), some (.int _), some (.int _), some (.ref _), some (.int _)], [.int _, .int _, .int _, .int _, .ref _, .ref _], _)) rfl (u_ rfl) ?_
          refine w_t (pc := 144) (e_s := (0, 1, 0, 0, 0, .int 1, [])) (y_s := (145, [some (.ref _), some (.ref _), some (.int _), some (.int _), some (.int _), some (.int _), some (.int _), some (.ref _), some (.int _)], [.int _, .int _, .int _, .int _, .int _, .ref _, .ref _], _)) rfl (u_ rfl) ?_
          refine w_t (pc := 145) (e_s := (7, 1, 0, 0, 0, .null, [])) (y_s := (146, [some (.ref _), some (.ref _), some (.int _), some (.int _), some (.int _), some (.int _), some (.int _), some (.ref _), some (.int _)], [.int (_ + _), .int _, .int _, .int _, .ref _, .ref _], _)) rfl (u_ rfl) ?_
          refine wcV (pc := 146) (len_s := 3) rfl rfl (l := [some (.ref _), some (.ref _), some (.int _), some (.int _), some (.int _), some (.int _), none, none, none]) rfl (wmV t_s (fun h13 hk t_s => ?_))
          replace t_s := t_s hk
          refine w_t (pc := 149) (e_s := (19, 3, 6, 0, 0, .int 1, [])) (y_s := (152, [some (.ref _), some (.ref _), some (.int _), some (.int _), some (.int _), some (.int _), some (.int _), some (.ref _), some (.int _)], [], _)) rfl (u_ rfl) ?_
          refine w_t (pc := 152) (e_s := (17, 3, 32, 0, 0, .null, [])) (y_s := (32, [some (.ref _), some (.ref _), some (.int _), some (.int _), some (.int _), some (.int _), some (.int _), some (.ref _), some (.int _)], [], _)) rfl (u_ rfl) ?_
          exact t_s
      · replace t_s := t_s.2 c5_s
        refine w_t (pc := 73) (e_s := (17, 3, 149, 0, 0, .null, [])) (y_s := (149, [some (.ref _), some (.ref _), some (.int _), some (.int _), some (.int _), some (.int _), some (.int _), some (.ref _), some (.int _)], [], _)) rfl (u_ rfl) ?_
        refine w_t (pc := 149) (e_s := (19, 3, 6, 0, 0, .int 1, [])) (y_s := (152, [some (.ref _), some (.ref _), some (.int _), some (.int _), some (.int _), some (.int _), some (.int _), some (.ref _), some (.int _)], [], _)) rfl (u_ rfl) ?_
        refine w_t (pc := 152) (e_s := (17, 3, 32, 0, 0, .null, [])) (y_s := (32, [some (.ref _), some (.ref _), some (.int _), some (.int _), some (.int _), some (.int _), some (.int _), some (.ref _), some (.int _)], [], _)) rfl (u_ rfl) ?_
        exact t_s
  · replace t_s := t_s.2 c1_s
    exact wrV (pc := 155) (len_s := 1) rfl hk t_s
/-- ColdShod$WayPlan.seek(LColdShod$Country;LColdShod$Idea;II)V, from 0 on -/
theorem sg_89_0 {F_s : Nat} {d_s : Nat} {x3 x4_s : Int32} {h_s : zH} {K_s : zH → Prop} (hk : hKn h_s) (t_s : wF F_s 35 (0, [some (.ref 63), some (.ref d_s)], [], (h_s.1, zup h_s.2.1 59 1 (-2), h_s.2.2.1, h_s.2.2.2)) (gV (fun h2 => hKn h2 → wF F_s 90 (0, [some (.ref 59), some (.ref 7), some (.int x3), some (.int x4_s), some (.int (1 <<< (x3 &&& 31))), some (.int 0), none, none, none], [], h2) (gV (fun h3 => hKn h3 → K_s h3))))) : wF (F_s + 1) 89 (0, [some (.ref 59), some (.ref 7), some (.ref d_s), some (.int x3), some (.int x4_s)], [], h_s) (gV K_s) := by
  refine w_0 (pc := 0) (e_s := (3, 1, 0, 0, 0, .null, [])) (y_s := (1, [some (.ref _), some (.ref _), some (.ref _), some (.int _), some (.int _)], [.ref _], _)) rfl (u_ rfl) ?_
  refine w_t (pc := 1) (e_s := (0, 2, 0, 0, 0, .int (-2), [])) (y_s := (3, [some (.ref _), some (.ref _), some (.ref _), some (.int _), some (.int _)], [.int _, .ref _], _)) rfl (u_ rfl) ?_
  refine w21 (pc := 3) (len_s := 3) rfl ?_
  refine w_t (pc := 6) (e_s := (3, 1, 0, 0, 0, .null, [])) (y_s := (7, [some (.ref _), some (.ref _), some (.ref _), some (.int _), some (.int _)], [.ref _], _)) rfl (u_ rfl) ?_
  refine w20r (pc := 7) (len_s := 3) (q_s := 62) rfl (krq hk rfl) ?_
  refine w_t (pc := 10) (e_s := (0, 1, 0, 0, 0, .int 0, [])) (y_s := (11, [some (.ref _), some (.ref _), some (.ref _), some (.int _), some (.int _)], [.int _, .ref _], _)) rfl (u_ rfl) ?_
  refine w24 (g_s := fun j_ => 63 + j_) (pc := 11) (len_s := 1) hk rfl (hk.1 62 2 8 rfl rfl) kg62 (fun c1_s => ?_)
  show wF _ _ (_, _, [.ref 63], _) _
  refine w_t (pc := 12) (e_s := (3, 1, 2, 0, 0, .null, [])) (y_s := (13, [some (.ref _), some (.ref _), some (.ref _), some (.int _), some (.int _)], [.ref _, .ref _], _)) rfl (u_ rfl) ?_
  refine wcV (pc := 13) (len_s := 3) rfl rfl (l := [some (.ref _), some (.ref _)]) rfl (wmV t_s (fun h2 hk t_s => ?_))
  replace t_s := t_s hk
  refine w_t (pc := 16) (e_s := (3, 1, 0, 0, 0, .null, [])) (y_s := (17, [some (.ref _), some (.ref _), some (.ref _), some (.int _), some (.int _)], [.ref _], _)) rfl (u_ rfl) ?_
  refine w_t (pc := 17) (e_s := (3, 1, 1, 0, 0, .null, [])) (y_s := (18, [some (.ref _), some (.ref _), some (.ref _), some (.int _), some (.int _)], [.ref _, .ref _], _)) rfl (u_ rfl) ?_
  refine w_t (pc := 18) (e_s := (1, 1, 3, 0, 0, .null, [])) (y_s := (19, [some (.ref _), some (.ref _), some (.ref _), some (.int _), some (.int _)], [.int _, .ref _, .ref _], _)) rfl (u_ rfl) ?_
  refine w_t (pc := 19) (e_s := (1, 2, 4, 0, 0, .null, [])) (y_s := (21, [some (.ref _), some (.ref _), some (.ref _), some (.int _), some (.int _)], [.int _, .int _, .ref _, .ref _], _)) rfl (u_ rfl) ?_
  refine w_t (pc := 21) (e_s := (0, 1, 0, 0, 0, .int 1, [])) (y_s := (22, [some (.ref _), some (.ref _), some (.ref _), some (.int _), some (.int _)], [.int _, .int _, .int _, .ref _, .ref _], _)) rfl (u_ rfl) ?_
  refine w_t (pc := 22) (e_s := (1, 1, 3, 0, 0, .null, [])) (y_s := (23, [some (.ref _), some (.ref _), some (.ref _), some (.int _), some (.int _)], [.int _, .int _, .int _, .int _, .ref _, .ref _], _)) rfl (u_ rfl) ?_
  refine w_t (pc := 23) (e_s := (7, 1, 0, 6, 0, .null, [])) (y_s := (24, [some (.ref _), some (.ref _), some (.ref _), some (.int _), some (.int _)], [.int ((_ : Int32) <<< ((_ : Int32) &&& 31)), .int _, .int _, .ref _, .ref _], _)) rfl (u_ rfl) ?_
  refine w_t (pc := 24) (e_s := (0, 1, 0, 0, 0, .int 0, [])) (y_s := (25, [some (.ref _), some (.ref _), some (.ref _), some (.int _), some (.int _)], [.int _, .int _, .int _, .int _, .ref _, .ref _], _)) rfl (u_ rfl) ?_
  refine wcV (pc := 25) (len_s := 3) rfl rfl (l := [some (.ref _), some (.ref _), some (.int _), some (.int _), some (.int _), some (.int _), none, none, none]) rfl (wmV t_s (fun h3 hk t_s => ?_))
  replace t_s := t_s hk
  exact wrV (pc := 28) (len_s := 1) rfl hk t_s
/-- ColdShod.way(III)I, from 0 on -/
theorem sg_105_0 {F_s : Nat} {x1_s : Int32} {x2_s : Int32} {x3 : Int32} {h_s : zH} {K_s : Int32 → zH → Prop} (hk : hKn h_s) (t_s : (x1_s.toInt < 0 → K_s (-1) h_s) ∧ (¬ x1_s.toInt < 0 → ((x1_s.toInt < (h_s.2.1 7 7).toInt → ((x2_s.toInt < 0 → K_s (-1) h_s) ∧ (¬ x2_s.toInt < 0 → (((x2_s / 10).toInt < 0 → K_s (-1) h_s) ∧ (¬ (x2_s / 10).toInt < 0 → (((x2_s / 10).toInt < 8 → (((x2_s - x2_s / 10 * 10).toInt < 0 → K_s (-1) h_s) ∧ (¬ (x2_s - x2_s / 10 * 10).toInt < 0 → (((x2_s - x2_s / 10 * 10).toInt < 8 → (((x2_s / 10).toInt = (x2_s - x2_s / 10 * 10).toInt → K_s (-1) h_s) ∧ (¬ (x2_s / 10).toInt = (x2_s - x2_s / 10 * 10).toInt → ((x3.toInt < -2 → K_s (-1) h_s) ∧ (¬ x3.toInt < -2 → (zix x1_s < 8 → wF F_s 89 (0, [some (.ref 59), some (.ref 7), some (.ref (20 + (zix x1_s))), some (.int (x2_s / 10)), some (.int (x2_s - x2_s / 10 * 10))], [], h_s) (gV (fun h11 => hKn h11 → ((h11.2.1 59 1).toInt = -2 → K_s (-2) h11) ∧ (¬ (h11.2.1 59 1).toInt = -2 → ((x3.toInt < (h11.2.1 59 1).toInt → ((x3.toInt = -1 → K_s (h11.2.1 59 2) h11) ∧ (¬ x3.toInt = -1 → ((x3.toInt = -2 → K_s (h11.2.1 59 1) h11) ∧ (¬ x3.toInt = -2 → (zix x3 < 8 → K_s (h11.2.1 60 (zix x3)) h11)))))) ∧ (¬ x3.toInt < (h11.2.1 59 1).toInt → K_s (-2) h11))))))))))) ∧ (¬ (x2_s - x2_s / 10 * 10).toInt < 8 → K_s (-1) h_s))))) ∧ (¬ (x2_s / 10).toInt < 8 → K_s (-1) h_s))))))) ∧ (¬ x1_s.toInt < (h_s.2.1 7 7).toInt → K_s (-1) h_s)))) : wF (F_s + 1) 105 (0, [some (.ref 6), some (.int x1_s), some (.int x2_s), some (.int x3)], [], h_s) (gI K_s) := by
  refine w_0 (pc := 0) (e_s := (3, 1, 0, 0, 0, .null, [])) (y_s := (1, [some (.ref _), some (.int _), some (.int _), some (.int _)], [.ref _], _)) rfl (u_ rfl) ?_
  refine w20r (pc := 1) (len_s := 3) (q_s := 7) rfl (krq hk rfl) ?_
  refine w_t (pc := 4) (e_s := (1, 1, 1, 0, 0, .null, [])) (y_s := (5, [some (.ref _), some (.int _), some (.int _), some (.int _)], [.int _, .ref _], _)) rfl (u_ rfl) ?_
  refine wcI (pc := 5) (len_s := 3) rfl rfl (l := [some (.ref _), some (.int _)]) rfl ?_
  refine w_t (pc := 0) (e_s := (1, 1, 1, 0, 0, .null, [])) (y_s := (1, [some (.ref _), some (.int _)], [.int _], _)) rfl (u_ rfl) ?_
  refine wq2 (pc := 1) (len_s := 3) rfl rfl (fun c1_s => ?_) (fun c1_s => ?_)
  · replace t_s := t_s.1 c1_s
    refine w_t (pc := 16) (e_s := (0, 1, 0, 0, 0, .int 0, [])) (y_s := (17, [some (.ref _), some (.int _)], [.int _], _)) rfl (u_ rfl) ?_
    refine wrI (pc := 17) (len_s := 1) rfl hk ?_
    show wF _ 105 (8, [some (.ref _), some (.int _), some (.int _), some (.int _)], [.int _], _) _
    refine w_t (pc := 8) (e_s := (15, 3, 24, 0, 0, .null, [])) (y_s := (24, [some (.ref _), some (.int _), some (.int _), some (.int _)], [], _)) rfl (u_ rfl) ?_
    refine w_t (pc := 24) (e_s := (0, 1, 0, 0, 0, .int (-1), [])) (y_s := (25, [some (.ref _), some (.int _), some (.int _), some (.int _)], [.int _], _)) rfl (u_ rfl) ?_
    exact wrI (pc := 25) (len_s := 1) rfl hk t_s
  · replace t_s := t_s.2 c1_s
    refine w_t (pc := 4) (e_s := (1, 1, 1, 0, 0, .null, [])) (y_s := (5, [some (.ref _), some (.int _)], [.int _], _)) rfl (u_ rfl) ?_
    refine w_t (pc := 5) (e_s := (3, 1, 0, 0, 0, .null, [])) (y_s := (6, [some (.ref _), some (.int _)], [.ref _, .int _], _)) rfl (u_ rfl) ?_
    refine w20 (pc := 6) (len_s := 3) rfl ?_
    refine wi3 (pc := 9) (len_s := 3) rfl rfl rfl (fun c2_s => ?_) (fun c2_s => ?_)
    · replace t_s := t_s.1 c2_s
      refine w_t (pc := 12) (e_s := (0, 1, 0, 0, 0, .int 1, [])) (y_s := (13, [some (.ref _), some (.int _)], [.int _], _)) rfl (u_ rfl) ?_
      refine w_t (pc := 13) (e_s := (17, 3, 17, 0, 0, .null, [])) (y_s := (17, [some (.ref _), some (.int _)], [.int _], _)) rfl (u_ rfl) ?_
      refine wrI (pc := 17) (len_s := 1) rfl hk ?_
      show wF _ 105 (8, [some (.ref _), some (.int _), some (.int _), some (.int _)], [.int _], _) _
      refine w_t (pc := 8) (e_s := (15, 3, 24, 0, 0, .null, [])) (y_s := (11, [some (.ref _), some (.int _), some (.int _), some (.int _)], [], _)) rfl (u_ rfl) ?_
      refine w_t (pc := 11) (e_s := (1, 1, 2, 0, 0, .null, [])) (y_s := (12, [some (.ref _), some (.int _), some (.int _), some (.int _)], [.int _], _)) rfl (u_ rfl) ?_
      refine wcI (pc := 12) (len_s := 3) rfl rfl (l := [some (.int _)]) rfl ?_
      refine w_t (pc := 0) (e_s := (1, 1, 0, 0, 0, .null, [])) (y_s := (1, [some (.int _)], [.int _], _)) rfl (u_ rfl) ?_
      refine wq2 (pc := 1) (len_s := 3) rfl rfl (fun c3_s => ?_) (fun c3_s => ?_)
      · replace t_s := t_s.1 c3_s
        refine w_t (pc := 41) (e_s := (0, 1, 0, 0, 0, .int 0, [])) (y_s := (42, [some (.int _)], [.int _], _)) rfl (u_ rfl) ?_
        refine wrI (pc := 42) (len_s := 1) rfl hk ?_
        show wF _ 105 (15, [some (.ref _), some (.int _), some (.int _), some (.int _)], [.int _], _) _
        refine w_t (pc := 15) (e_s := (15, 3, 24, 0, 0, .null, [])) (y_s := (24, [some (.ref _), some (.int _), some (.int _), some (.int _)], [], _)) rfl (u_ rfl) ?_
        refine w_t (pc := 24) (e_s := (0, 1, 0, 0, 0, .int (-1), [])) (y_s := (25, [some (.ref _), some (.int _), some (.int _), some (.int _)], [.int _], _)) rfl (u_ rfl) ?_
        exact wrI (pc := 25) (len_s := 1) rfl hk t_s
      · replace t_s := t_s.2 c3_s
        refine w_t (pc := 4) (e_s := (1, 1, 0, 0, 0, .null, [])) (y_s := (5, [some (.int _)], [.int _], _)) rfl (u_ rfl) ?_
        refine w_t (pc := 5) (e_s := (0, 2, 0, 0, 0, .int 10, [])) (y_s := (7, [some (.int _)], [.int _, .int _], _)) rfl (u_ rfl) ?_
        refine w8 (pc := 7) (len_s := 1) rfl ?_
        refine w_t (pc := 8) (e_s := (10, 1, 0, 0, 0, .null, [])) (y_s := (9, [some (.int _)], [.long (Int32.toInt64 _)], _)) rfl (u_ rfl) ?_
        refine wcI (pc := 9) (len_s := 3) rfl rfl (l := [some (.long _), none]) rfl ?_
        refine w_t (pc := 0) (e_s := (2, 1, 0, 0, 0, .null, [])) (y_s := (1, [some (.long _), none], [.long _], _)) rfl (u_ rfl) ?_
        refine w_t (pc := 1) (e_s := (0, 1, 0, 0, 0, .long 0, [])) (y_s := (2, [some (.long _), none], [.long _, .long _], _)) rfl (u_ rfl) ?_
        refine w_t (pc := 2) (e_s := (14, 1, 0, 0, 0, .null, [])) (y_s := (3, [some (.long _), none], [.int (lg_cmp _ _)], _)) rfl (u_ rfl) ?_
        refine wl2 (pc := 3) (len_s := 3) (Y := 0) rfl (Int32.toInt_toInt64 _) (by decide) (fun c4_s => ?_) (fun c4_s => ?_)
        · replace t_s := t_s.1 c4_s
          refine w_t (pc := 18) (e_s := (0, 1, 0, 0, 0, .int 0, [])) (y_s := (19, [some (.long _), none], [.int _], _)) rfl (u_ rfl) ?_
          refine wrI (pc := 19) (len_s := 1) rfl hk ?_
          show wF _ 138 (12, [some (.int _)], [.int _], _) _
          refine w_t (pc := 12) (e_s := (15, 3, 41, 0, 0, .null, [])) (y_s := (41, [some (.int _)], [], _)) rfl (u_ rfl) ?_
          refine w_t (pc := 41) (e_s := (0, 1, 0, 0, 0, .int 0, [])) (y_s := (42, [some (.int _)], [.int _], _)) rfl (u_ rfl) ?_
          refine wrI (pc := 42) (len_s := 1) rfl hk ?_
          show wF _ 105 (15, [some (.ref _), some (.int _), some (.int _), some (.int _)], [.int _], _) _
          refine w_t (pc := 15) (e_s := (15, 3, 24, 0, 0, .null, [])) (y_s := (24, [some (.ref _), some (.int _), some (.int _), some (.int _)], [], _)) rfl (u_ rfl) ?_
          refine w_t (pc := 24) (e_s := (0, 1, 0, 0, 0, .int (-1), [])) (y_s := (25, [some (.ref _), some (.int _), some (.int _), some (.int _)], [.int _], _)) rfl (u_ rfl) ?_
          exact wrI (pc := 25) (len_s := 1) rfl hk t_s
        · replace t_s := t_s.2 c4_s
          refine w_t (pc := 6) (e_s := (2, 1, 0, 0, 0, .null, [])) (y_s := (7, [some (.long _), none], [.long _], _)) rfl (u_ rfl) ?_
          refine w_t (pc := 7) (e_s := (0, 3, 0, 0, 0, .long 8, [(0, 1028)])) (y_s := (10, [some (.long _), none], [.long _, .long _], _)) rfl (u_ rfl) ?_
          refine w_t (pc := 10) (e_s := (14, 1, 0, 0, 0, .null, [])) (y_s := (11, [some (.long _), none], [.int (lg_cmp _ _)], _)) rfl (u_ rfl) ?_
          refine wl3 (pc := 11) (len_s := 3) (Y := 8) rfl (Int32.toInt_toInt64 _) (by decide) (fun c5_s => ?_) (fun c5_s => ?_)
          · replace t_s := t_s.1 c5_s
            refine w_t (pc := 14) (e_s := (0, 1, 0, 0, 0, .int 1, [])) (y_s := (15, [some (.long _), none], [.int _], _)) rfl (u_ rfl) ?_
            refine w_t (pc := 15) (e_s := (17, 3, 19, 0, 0, .null, [])) (y_s := (19, [some (.long _), none], [.int _], _)) rfl (u_ rfl) ?_
            refine wrI (pc := 19) (len_s := 1) rfl hk ?_
            show wF _ 138 (12, [some (.int _)], [.int _], _) _
            refine w_t (pc := 12) (e_s := (15, 3, 41, 0, 0, .null, [])) (y_s := (15, [some (.int _)], [], _)) rfl (u_ rfl) ?_
            refine w_t (pc := 15) (e_s := (1, 1, 0, 0, 0, .null, [])) (y_s := (16, [some (.int _)], [.int _], _)) rfl (u_ rfl) ?_
            refine w_t (pc := 16) (e_s := (0, 2, 0, 0, 0, .int 10, [])) (y_s := (18, [some (.int _)], [.int _, .int _], _)) rfl (u_ rfl) ?_
            refine w8m (pc := 18) (len_s := 1) rfl ?_
            refine w_t (pc := 19) (e_s := (10, 1, 0, 0, 0, .null, [])) (y_s := (20, [some (.int _)], [.long (Int32.toInt64 _)], _)) rfl (u_ rfl) ?_
            refine wcI (pc := 20) (len_s := 3) rfl rfl (l := [some (.long _), none]) rfl ?_
            refine w_t (pc := 0) (e_s := (2, 1, 0, 0, 0, .null, [])) (y_s := (1, [some (.long _), none], [.long _], _)) rfl (u_ rfl) ?_
            refine w_t (pc := 1) (e_s := (0, 1, 0, 0, 0, .long 0, [])) (y_s := (2, [some (.long _), none], [.long _, .long _], _)) rfl (u_ rfl) ?_
            refine w_t (pc := 2) (e_s := (14, 1, 0, 0, 0, .null, [])) (y_s := (3, [some (.long _), none], [.int (lg_cmp _ _)], _)) rfl (u_ rfl) ?_
            refine wl2 (pc := 3) (len_s := 3) (Y := 0) rfl (Int32.toInt_toInt64 _) (by decide) (fun c6_s => ?_) (fun c6_s => ?_)
            · replace t_s := t_s.1 c6_s
              refine w_t (pc := 18) (e_s := (0, 1, 0, 0, 0, .int 0, [])) (y_s := (19, [some (.long _), none], [.int _], _)) rfl (u_ rfl) ?_
              refine wrI (pc := 19) (len_s := 1) rfl hk ?_
              show wF _ 138 (23, [some (.int _)], [.int _], _) _
              refine w_t (pc := 23) (e_s := (15, 3, 41, 0, 0, .null, [])) (y_s := (41, [some (.int _)], [], _)) rfl (u_ rfl) ?_
              refine w_t (pc := 41) (e_s := (0, 1, 0, 0, 0, .int 0, [])) (y_s := (42, [some (.int _)], [.int _], _)) rfl (u_ rfl) ?_
              refine wrI (pc := 42) (len_s := 1) rfl hk ?_
              show wF _ 105 (15, [some (.ref _), some (.int _), some (.int _), some (.int _)], [.int _], _) _
              refine w_t (pc := 15) (e_s := (15, 3, 24, 0, 0, .null, [])) (y_s := (24, [some (.ref _), some (.int _), some (.int _), some (.int _)], [], _)) rfl (u_ rfl) ?_
              refine w_t (pc := 24) (e_s := (0, 1, 0, 0, 0, .int (-1), [])) (y_s := (25, [some (.ref _), some (.int _), some (.int _), some (.int _)], [.int _], _)) rfl (u_ rfl) ?_
              exact wrI (pc := 25) (len_s := 1) rfl hk t_s
            · replace t_s := t_s.2 c6_s
              refine w_t (pc := 6) (e_s := (2, 1, 0, 0, 0, .null, [])) (y_s := (7, [some (.long _), none], [.long _], _)) rfl (u_ rfl) ?_
              refine w_t (pc := 7) (e_s := (0, 3, 0, 0, 0, .long 8, [(0, 1028)])) (y_s := (10, [some (.long _), none], [.long _, .long _], _)) rfl (u_ rfl) ?_
              refine w_t (pc := 10) (e_s := (14, 1, 0, 0, 0, .null, [])) (y_s := (11, [some (.long _), none], [.int (lg_cmp _ _)], _)) rfl (u_ rfl) ?_
              refine wl3 (pc := 11) (len_s := 3) (Y := 8) rfl (Int32.toInt_toInt64 _) (by decide) (fun c7_s => ?_) (fun c7_s => ?_)
              · replace t_s := t_s.1 c7_s
                refine w_t (pc := 14) (e_s := (0, 1, 0, 0, 0, .int 1, [])) (y_s := (15, [some (.long _), none], [.int _], _)) rfl (u_ rfl) ?_
                refine w_t (pc := 15) (e_s := (17, 3, 19, 0, 0, .null, [])) (y_s := (19, [some (.long _), none], [.int _], _)) rfl (u_ rfl) ?_
                refine wrI (pc := 19) (len_s := 1) rfl hk ?_
                show wF _ 138 (23, [some (.int _)], [.int _], _) _
                refine w_t (pc := 23) (e_s := (15, 3, 41, 0, 0, .null, [])) (y_s := (26, [some (.int _)], [], _)) rfl (u_ rfl) ?_
                refine w_t (pc := 26) (e_s := (1, 1, 0, 0, 0, .null, [])) (y_s := (27, [some (.int _)], [.int _], _)) rfl (u_ rfl) ?_
                refine w_t (pc := 27) (e_s := (0, 2, 0, 0, 0, .int 10, [])) (y_s := (29, [some (.int _)], [.int _, .int _], _)) rfl (u_ rfl) ?_
                refine w8 (pc := 29) (len_s := 1) rfl ?_
                refine w_t (pc := 30) (e_s := (1, 1, 0, 0, 0, .null, [])) (y_s := (31, [some (.int _)], [.int _, .int _], _)) rfl (u_ rfl) ?_
                refine w_t (pc := 31) (e_s := (0, 2, 0, 0, 0, .int 10, [])) (y_s := (33, [some (.int _)], [.int _, .int _, .int _], _)) rfl (u_ rfl) ?_
                refine w8m (pc := 33) (len_s := 1) rfl ?_
                refine wi0 (pc := 34) (len_s := 3) rfl rfl rfl (fun c8_s => ?_) (fun c8_s => ?_)
                · replace t_s := t_s.1 c8_s
                  refine w_t (pc := 41) (e_s := (0, 1, 0, 0, 0, .int 0, [])) (y_s := (42, [some (.int _)], [.int _], _)) rfl (u_ rfl) ?_
                  refine wrI (pc := 42) (len_s := 1) rfl hk ?_
                  show wF _ 105 (15, [some (.ref _), some (.int _), some (.int _), some (.int _)], [.int _], _) _
                  refine w_t (pc := 15) (e_s := (15, 3, 24, 0, 0, .null, [])) (y_s := (24, [some (.ref _), some (.int _), some (.int _), some (.int _)], [], _)) rfl (u_ rfl) ?_
                  refine w_t (pc := 24) (e_s := (0, 1, 0, 0, 0, .int (-1), [])) (y_s := (25, [some (.ref _), some (.int _), some (.int _), some (.int _)], [.int _], _)) rfl (u_ rfl) ?_
                  exact wrI (pc := 25) (len_s := 1) rfl hk t_s
                · replace t_s := t_s.2 c8_s
                  refine w_t (pc := 37) (e_s := (0, 1, 0, 0, 0, .int 1, [])) (y_s := (38, [some (.int _)], [.int _], _)) rfl (u_ rfl) ?_
                  refine w_t (pc := 38) (e_s := (17, 3, 42, 0, 0, .null, [])) (y_s := (42, [some (.int _)], [.int _], _)) rfl (u_ rfl) ?_
                  refine wrI (pc := 42) (len_s := 1) rfl hk ?_
                  show wF _ 105 (15, [some (.ref _), some (.int _), some (.int _), some (.int _)], [.int _], _) _
                  refine w_t (pc := 15) (e_s := (15, 3, 24, 0, 0, .null, [])) (y_s := (18, [some (.ref _), some (.int _), some (.int _), some (.int _)], [], _)) rfl (u_ rfl) ?_
                  refine w_t (pc := 18) (e_s := (1, 1, 3, 0, 0, .null, [])) (y_s := (19, [some (.ref _), some (.int _), some (.int _), some (.int _)], [.int _], _)) rfl (u_ rfl) ?_
                  refine w_t (pc := 19) (e_s := (0, 2, 0, 0, 0, .int (-2), [])) (y_s := (21, [some (.ref _), some (.int _), some (.int _), some (.int _)], [.int _, .int _], _)) rfl (u_ rfl) ?_
                  refine wi3 (pc := 21) (len_s := 3) (Y := -2) rfl rfl (by decide) (fun c9_s => ?_) (fun c9_s => ?_)
                  · replace t_s := t_s.1 c9_s
                    refine w_t (pc := 24) (e_s := (0, 1, 0, 0, 0, .int (-1), [])) (y_s := (25, [some (.ref _), some (.int _), some (.int _), some (.int _)], [.int _], _)) rfl (u_ rfl) ?_
                    exact wrI (pc := 25) (len_s := 1) rfl hk t_s
                  · replace t_s := t_s.2 c9_s
                    refine w_t (pc := 26) (e_s := (3, 1, 0, 0, 0, .null, [])) (y_s := (27, [some (.ref _), some (.int _), some (.int _), some (.int _)], [.ref _], _)) rfl (u_ rfl) ?_
                    refine w20r (pc := 27) (len_s := 3) (q_s := 59) rfl (krq hk rfl) ?_
                    refine w_t (pc := 30) (e_s := (3, 1, 0, 0, 0, .null, [])) (y_s := (31, [some (.ref _), some (.int _), some (.int _), some (.int _)], [.ref _, .ref _], _)) rfl (u_ rfl) ?_
                    refine w20r (pc := 31) (len_s := 3) (q_s := 7) rfl (krq hk rfl) ?_
                    refine w_t (pc := 34) (e_s := (3, 1, 0, 0, 0, .null, [])) (y_s := (35, [some (.ref _), some (.int _), some (.int _), some (.int _)], [.ref _, .ref _, .ref _], _)) rfl (u_ rfl) ?_
                    refine w20r (pc := 35) (len_s := 3) (q_s := 7) rfl (krq hk rfl) ?_
                    refine w20r (pc := 38) (len_s := 3) (q_s := 10) rfl (krq hk rfl) ?_
                    refine w_t (pc := 41) (e_s := (1, 1, 1, 0, 0, .null, [])) (y_s := (42, [some (.ref _), some (.int _), some (.int _), some (.int _)], [.int _, .ref _, .ref _, .ref _], _)) rfl (u_ rfl) ?_
                    refine w24 (g_s := fun j_ => 20 + j_) (pc := 42) (len_s := 1) hk rfl (hk.1 10 2 8 rfl rfl) kg10 (fun c10_s => ?_)
                    replace t_s := t_s c10_s
                    refine w_t (pc := 43) (e_s := (1, 1, 2, 0, 0, .null, [])) (y_s := (44, [some (.ref _), some (.int _), some (.int _), some (.int _)], [.int _, .ref _, .ref _, .ref _], _)) rfl (u_ rfl) ?_
                    refine w_t (pc := 44) (e_s := (0, 2, 0, 0, 0, .int 10, [])) (y_s := (46, [some (.ref _), some (.int _), some (.int _), some (.int _)], [.int _, .int _, .ref _, .ref _, .ref _], _)) rfl (u_ rfl) ?_
                    refine w8 (pc := 46) (len_s := 1) rfl ?_
                    refine w_t (pc := 47) (e_s := (1, 1, 2, 0, 0, .null, [])) (y_s := (48, [some (.ref _), some (.int _), some (.int _), some (.int _)], [.int _, .int _, .ref _, .ref _, .ref _], _)) rfl (u_ rfl) ?_
                    refine w_t (pc := 48) (e_s := (0, 2, 0, 0, 0, .int 10, [])) (y_s := (50, [some (.ref _), some (.int _), some (.int _), some (.int _)], [.int _, .int _, .int _, .ref _, .ref _, .ref _], _)) rfl (u_ rfl) ?_
                    refine w8m (pc := 50) (len_s := 1) rfl ?_
                    refine wcV (pc := 51) (len_s := 3) rfl rfl (l := [some (.ref _), some (.ref _), some (.ref _), some (.int _), some (.int _)]) rfl (wmV t_s (fun h11 hk t_s => ?_))
                    replace t_s := t_s hk
                    refine w_t (pc := 54) (e_s := (3, 1, 0, 0, 0, .null, [])) (y_s := (55, [some (.ref _), some (.int _), some (.int _), some (.int _)], [.ref _], _)) rfl (u_ rfl) ?_
                    refine w20r (pc := 55) (len_s := 3) (q_s := 59) rfl (krq hk rfl) ?_
                    refine w20 (pc := 58) (len_s := 3) rfl ?_
                    refine w_t (pc := 61) (e_s := (0, 2, 0, 0, 0, .int (-2), [])) (y_s := (63, [some (.ref _), some (.int _), some (.int _), some (.int _)], [.int _, .int _], _)) rfl (u_ rfl) ?_
                    refine wi0 (pc := 63) (len_s := 3) (Y := -2) rfl rfl (by decide) (fun c12_s => ?_) (fun c12_s => ?_)
                    · replace t_s := t_s.1 c12_s
                      refine w_t (pc := 77) (e_s := (0, 2, 0, 0, 0, .int (-2), [])) (y_s := (79, [some (.ref _), some (.int _), some (.int _), some (.int _)], [.int _], _)) rfl (u_ rfl) ?_
                      exact wrI (pc := 79) (len_s := 1) rfl hk t_s
                    · replace t_s := t_s.2 c12_s
                      refine w_t (pc := 66) (e_s := (1, 1, 3, 0, 0, .null, [])) (y_s := (67, [some (.ref _), some (.int _), some (.int _), some (.int _)], [.int _], _)) rfl (u_ rfl) ?_
                      refine w_t (pc := 67) (e_s := (3, 1, 0, 0, 0, .null, [])) (y_s := (68, [some (.ref _), some (.int _), some (.int _), some (.int _)], [.ref _, .int _], _)) rfl (u_ rfl) ?_
                      refine w20r (pc := 68) (len_s := 3) (q_s := 59) rfl (krq hk rfl) ?_
                      refine w20 (pc := 71) (len_s := 3) rfl ?_
                      refine wi2 (pc := 74) (len_s := 3) rfl rfl rfl (fun c13_s => ?_) (fun c13_s => ?_)
                      · replace t_s := t_s.1 c13_s
                        refine w_t (pc := 80) (e_s := (1, 1, 3, 0, 0, .null, [])) (y_s := (81, [some (.ref _), some (.int _), some (.int _), some (.int _)], [.int _], _)) rfl (u_ rfl) ?_
                        refine w_t (pc := 81) (e_s := (0, 1, 0, 0, 0, .int (-1), [])) (y_s := (82, [some (.ref _), some (.int _), some (.int _), some (.int _)], [.int _, .int _], _)) rfl (u_ rfl) ?_
                        refine wi1 (pc := 82) (len_s := 3) (Y := -1) rfl rfl (by decide) (fun c14_s => ?_) (fun c14_s => ?_)
                        · replace t_s := t_s.1 c14_s
                          refine w_t (pc := 85) (e_s := (3, 1, 0, 0, 0, .null, [])) (y_s := (86, [some (.ref _), some (.int _), some (.int _), some (.int _)], [.ref _], _)) rfl (u_ rfl) ?_
                          refine w20r (pc := 86) (len_s := 3) (q_s := 59) rfl (krq hk rfl) ?_
                          refine w20 (pc := 89) (len_s := 3) rfl ?_
                          exact wrI (pc := 92) (len_s := 1) rfl hk t_s
                        · replace t_s := t_s.2 c14_s
                          refine w_t (pc := 93) (e_s := (1, 1, 3, 0, 0, .null, [])) (y_s := (94, [some (.ref _), some (.int _), some (.int _), some (.int _)], [.int _], _)) rfl (u_ rfl) ?_
                          refine w_t (pc := 94) (e_s := (0, 2, 0, 0, 0, .int (-2), [])) (y_s := (96, [some (.ref _), some (.int _), some (.int _), some (.int _)], [.int _, .int _], _)) rfl (u_ rfl) ?_
                          refine wi1 (pc := 96) (len_s := 3) (Y := -2) rfl rfl (by decide) (fun c15_s => ?_) (fun c15_s => ?_)
                          · replace t_s := t_s.1 c15_s
                            refine w_t (pc := 99) (e_s := (3, 1, 0, 0, 0, .null, [])) (y_s := (100, [some (.ref _), some (.int _), some (.int _), some (.int _)], [.ref _], _)) rfl (u_ rfl) ?_
                            refine w20r (pc := 100) (len_s := 3) (q_s := 59) rfl (krq hk rfl) ?_
                            refine w20 (pc := 103) (len_s := 3) rfl ?_
                            refine w_t (pc := 106) (e_s := (17, 3, 118, 0, 0, .null, [])) (y_s := (118, [some (.ref _), some (.int _), some (.int _), some (.int _)], [.int _], _)) rfl (u_ rfl) ?_
                            exact wrI (pc := 118) (len_s := 1) rfl hk t_s
                          · replace t_s := t_s.2 c15_s
                            refine w_t (pc := 109) (e_s := (3, 1, 0, 0, 0, .null, [])) (y_s := (110, [some (.ref _), some (.int _), some (.int _), some (.int _)], [.ref _], _)) rfl (u_ rfl) ?_
                            refine w20r (pc := 110) (len_s := 3) (q_s := 59) rfl (krq hk rfl) ?_
                            refine w20r (pc := 113) (len_s := 3) (q_s := 60) rfl (krq hk rfl) ?_
                            refine w_t (pc := 116) (e_s := (1, 1, 3, 0, 0, .null, [])) (y_s := (117, [some (.ref _), some (.int _), some (.int _), some (.int _)], [.int _, .ref _], _)) rfl (u_ rfl) ?_
                            refine w22 (pc := 117) (len_s := 1) rfl (hk.1 60 0 8 rfl rfl) (fun c16 => ?_)
                            replace t_s := t_s c16
                            exact wrI (pc := 118) (len_s := 1) rfl hk t_s
                      · replace t_s := t_s.2 c13_s
                        refine w_t (pc := 77) (e_s := (0, 2, 0, 0, 0, .int (-2), [])) (y_s := (79, [some (.ref _), some (.int _), some (.int _), some (.int _)], [.int _], _)) rfl (u_ rfl) ?_
                        exact wrI (pc := 79) (len_s := 1) rfl hk t_s
              · replace t_s := t_s.2 c7_s
                refine w_t (pc := 18) (e_s := (0, 1, 0, 0, 0, .int 0, [])) (y_s := (19, [some (.long _), none], [.int _], _)) rfl (u_ rfl) ?_
                refine wrI (pc := 19) (len_s := 1) rfl hk ?_
                show wF _ 138 (23, [some (.int _)], [.int _], _) _
                refine w_t (pc := 23) (e_s := (15, 3, 41, 0, 0, .null, [])) (y_s := (41, [some (.int _)], [], _)) rfl (u_ rfl) ?_
                refine w_t (pc := 41) (e_s := (0, 1, 0, 0, 0, .int 0, [])) (y_s := (42, [some (.int _)], [.int _], _)) rfl (u_ rfl) ?_
                refine wrI (pc := 42) (len_s := 1) rfl hk ?_
                show wF _ 105 (15, [some (.ref _), some (.int _), some (.int _), some (.int _)], [.int _], _) _
                refine w_t (pc := 15) (e_s := (15, 3, 24, 0, 0, .null, [])) (y_s := (24, [some (.ref _), some (.int _), some (.int _), some (.int _)], [], _)) rfl (u_ rfl) ?_
                refine w_t (pc := 24) (e_s := (0, 1, 0, 0, 0, .int (-1), [])) (y_s := (25, [some (.ref _), some (.int _), some (.int _), some (.int _)], [.int _], _)) rfl (u_ rfl) ?_
                exact wrI (pc := 25) (len_s := 1) rfl hk t_s
          · replace t_s := t_s.2 c5_s
            refine w_t (pc := 18) (e_s := (0, 1, 0, 0, 0, .int 0, [])) (y_s := (19, [some (.long _), none], [.int _], _)) rfl (u_ rfl) ?_
            refine wrI (pc := 19) (len_s := 1) rfl hk ?_
            show wF _ 138 (12, [some (.int _)], [.int _], _) _
            refine w_t (pc := 12) (e_s := (15, 3, 41, 0, 0, .null, [])) (y_s := (41, [some (.int _)], [], _)) rfl (u_ rfl) ?_
            refine w_t (pc := 41) (e_s := (0, 1, 0, 0, 0, .int 0, [])) (y_s := (42, [some (.int _)], [.int _], _)) rfl (u_ rfl) ?_
            refine wrI (pc := 42) (len_s := 1) rfl hk ?_
            show wF _ 105 (15, [some (.ref _), some (.int _), some (.int _), some (.int _)], [.int _], _) _
            refine w_t (pc := 15) (e_s := (15, 3, 24, 0, 0, .null, [])) (y_s := (24, [some (.ref _), some (.int _), some (.int _), some (.int _)], [], _)) rfl (u_ rfl) ?_
            refine w_t (pc := 24) (e_s := (0, 1, 0, 0, 0, .int (-1), [])) (y_s := (25, [some (.ref _), some (.int _), some (.int _), some (.int _)], [.int _], _)) rfl (u_ rfl) ?_
            exact wrI (pc := 25) (len_s := 1) rfl hk t_s
    · replace t_s := t_s.2 c2_s
      refine w_t (pc := 16) (e_s := (0, 1, 0, 0, 0, .int 0, [])) (y_s := (17, [some (.ref _), some (.int _)], [.int _], _)) rfl (u_ rfl) ?_
      refine wrI (pc := 17) (len_s := 1) rfl hk ?_
      show wF _ 105 (8, [some (.ref _), some (.int _), some (.int _), some (.int _)], [.int _], _) _
      refine w_t (pc := 8) (e_s := (15, 3, 24, 0, 0, .null, [])) (y_s := (24, [some (.ref _), some (.int _), some (.int _), some (.int _)], [], _)) rfl (u_ rfl) ?_
      refine w_t (pc := 24) (e_s := (0, 1, 0, 0, 0, .int (-1), [])) (y_s := (25, [some (.ref _), some (.int _), some (.int _), some (.int _)], [.int _], _)) rfl (u_ rfl) ?_
      exact wrI (pc := 25) (len_s := 1) rfl hk t_s
/-- ColdShod.image()I, from 0 on -/
theorem sg_121_0 {F_s : Nat}  {h_s : zH} {K_s : Int32 → zH → Prop} (hk : hKn h_s) (t_s : wF F_s 121 (2, [some (.ref 6), some (.int 0)], [], h_s) (gI K_s)) : wF (F_s + 1) 121 (0, [some (.ref 6), none], [], h_s) (gI K_s) := by
  refine w_0 (pc := 0) (e_s := (0, 1, 0, 0, 0, .int 0, [])) (y_s := (1, [some (.ref _), none], [.int _], _)) rfl (u_ rfl) ?_
  refine w_t (pc := 1) (e_s := (4, 1, 1, 0, 0, .null, [])) (y_s := (2, [some (.ref _), some (.int _)], [], _)) rfl (u_ rfl) ?_
  exact t_s
/-- ColdShod.image()I, from 2 on -/
theorem sg_121_2 {F_s : Nat} {x1_s : Int32} {h_s : zH} {K_s : Int32 → zH → Prop} (hk : hKn h_s) (t_s : (x1_s.toInt < (h_s.2.1 7 7).toInt → (zix x1_s < 8 → wF F_s 35 (0, [some (.ref (94 + (zix x1_s))), some (.ref (20 + (zix x1_s)))], [], h_s) (gV (fun h4 => hKn h4 → wF F_s 121 (2, [some (.ref 6), some (.int (x1_s + 1))], [], h4) (gI K_s))))) ∧ (¬ x1_s.toInt < (h_s.2.1 7 7).toInt → (0 + 5 ≤ 5 ∧ 0 + 5 ≤ 5 → K_s (h_s.2.1 73 3) (h_s.1, zup (zrow h_s.2.1 75 (zcpy (h_s.2.1 73) (h_s.2.1 75) 0 0 5)) 6 12 (h_s.2.1 7 7), h_s.2.2.1, h_s.2.2.2)))) : wF (F_s + 1) 121 (2, [some (.ref 6), some (.int x1_s)], [], h_s) (gI K_s) := by
  refine w_0 (pc := 2) (e_s := (1, 1, 1, 0, 0, .null, [])) (y_s := (3, [some (.ref _), some (.int _)], [.int _], _)) rfl (u_ rfl) ?_
  refine w_t (pc := 3) (e_s := (3, 1, 0, 0, 0, .null, [])) (y_s := (4, [some (.ref _), some (.int _)], [.ref _, .int _], _)) rfl (u_ rfl) ?_
  refine w20r (pc := 4) (len_s := 3) (q_s := 7) rfl (krq hk rfl) ?_
  refine w20 (pc := 7) (len_s := 3) rfl ?_
  refine wi3 (pc := 10) (len_s := 3) rfl rfl rfl (fun c1_s => ?_) (fun c1_s => ?_)
  · replace t_s := t_s.1 c1_s
    refine w_t (pc := 13) (e_s := (3, 1, 0, 0, 0, .null, [])) (y_s := (14, [some (.ref _), some (.int _)], [.ref _], _)) rfl (u_ rfl) ?_
    refine w20r (pc := 14) (len_s := 3) (q_s := 74) rfl (krq hk rfl) ?_
    refine w_t (pc := 17) (e_s := (1, 1, 1, 0, 0, .null, [])) (y_s := (18, [some (.ref _), some (.int _)], [.int _, .ref _], _)) rfl (u_ rfl) ?_
    refine w24 (g_s := fun j_ => 94 + j_) (pc := 18) (len_s := 1) hk rfl (hk.1 74 2 8 rfl rfl) kg74 (fun c2_s => ?_)
    replace t_s := t_s c2_s
    refine w_t (pc := 19) (e_s := (3, 1, 0, 0, 0, .null, [])) (y_s := (20, [some (.ref _), some (.int _)], [.ref _, .ref _], _)) rfl (u_ rfl) ?_
    refine w20r (pc := 20) (len_s := 3) (q_s := 7) rfl (krq hk rfl) ?_
    refine w20r (pc := 23) (len_s := 3) (q_s := 10) rfl (krq hk rfl) ?_
    refine w_t (pc := 26) (e_s := (1, 1, 1, 0, 0, .null, [])) (y_s := (27, [some (.ref _), some (.int _)], [.int _, .ref _, .ref _], _)) rfl (u_ rfl) ?_
    refine w24 (g_s := fun j_ => 20 + j_) (pc := 27) (len_s := 1) hk rfl (hk.1 10 2 8 rfl rfl) kg10 (fun c3_s => ?_)
    refine wcV (pc := 28) (len_s := 3) rfl rfl (l := [some (.ref _), some (.ref _)]) rfl (wmV t_s (fun h4 hk t_s => ?_))
    replace t_s := t_s hk
    refine w_t (pc := 31) (e_s := (19, 3, 1, 0, 0, .int 1, [])) (y_s := (34, [some (.ref _), some (.int _)], [], _)) rfl (u_ rfl) ?_
    refine w_t (pc := 34) (e_s := (17, 3, 2, 0, 0, .null, [])) (y_s := (2, [some (.ref _), some (.int _)], [], _)) rfl (u_ rfl) ?_
    exact t_s
  · replace t_s := t_s.2 c1_s
    refine w_t (pc := 37) (e_s := (3, 1, 0, 0, 0, .null, [])) (y_s := (38, [some (.ref _), some (.int _)], [.ref _], _)) rfl (u_ rfl) ?_
    refine w20r (pc := 38) (len_s := 3) (q_s := 73) rfl (krq hk rfl) ?_
    refine w_t (pc := 41) (e_s := (0, 1, 0, 0, 0, .int 0, [])) (y_s := (42, [some (.ref _), some (.int _)], [.int _, .ref _], _)) rfl (u_ rfl) ?_
    refine w_t (pc := 42) (e_s := (3, 1, 0, 0, 0, .null, [])) (y_s := (43, [some (.ref _), some (.int _)], [.ref _, .int _, .ref _], _)) rfl (u_ rfl) ?_
    refine w20r (pc := 43) (len_s := 3) (q_s := 75) rfl (krq hk rfl) ?_
    refine w_t (pc := 46) (e_s := (0, 1, 0, 0, 0, .int 0, [])) (y_s := (47, [some (.ref _), some (.int _)], [.int _, .ref _, .int _, .ref _], _)) rfl (u_ rfl) ?_
    refine w_t (pc := 47) (e_s := (0, 1, 0, 0, 0, .int 5, [])) (y_s := (48, [some (.ref _), some (.int _)], [.int _, .int _, .ref _, .int _, .ref _], _)) rfl (u_ rfl) ?_
    refine w34i (pc := 48) (len_s := 3) rfl (hk.1 73 0 5 rfl rfl) (hk.1 75 0 5 rfl rfl) (fun c5_s => ?_)
    replace t_s := t_s c5_s
    refine w_t (pc := 51) (e_s := (3, 1, 0, 0, 0, .null, [])) (y_s := (52, [some (.ref _), some (.int _)], [.ref _], _)) rfl (u_ rfl) ?_
    refine w_t (pc := 52) (e_s := (3, 1, 0, 0, 0, .null, [])) (y_s := (53, [some (.ref _), some (.int _)], [.ref _, .ref _], _)) rfl (u_ rfl) ?_
    refine w20r (pc := 53) (len_s := 3) (q_s := 7) rfl (krq hk rfl) ?_
    refine w20 (pc := 56) (len_s := 3) rfl ?_
    refine w21 (pc := 59) (len_s := 3) rfl ?_
    refine w_t (pc := 62) (e_s := (3, 1, 0, 0, 0, .null, [])) (y_s := (63, [some (.ref _), some (.int _)], [.ref _], _)) rfl (u_ rfl) ?_
    refine w20r (pc := 63) (len_s := 3) (q_s := 73) rfl (krq hk rfl) ?_
    refine w_t (pc := 66) (e_s := (0, 1, 0, 0, 0, .int 3, [])) (y_s := (67, [some (.ref _), some (.int _)], [.int _, .ref _], _)) rfl (u_ rfl) ?_
    refine w22 (pc := 67) (len_s := 1) rfl (hk.1 73 0 5 rfl rfl) (fun c6_s => ?_)
    exact wrI (pc := 68) (len_s := 1) rfl hk t_s
/-- ColdShod.back()I, from 0 on -/
theorem sg_122_0 {F_s : Nat}  {h_s : zH} {K_s : Int32 → zH → Prop} (hk : hKn h_s) (t_s : ((h_s.2.1 6 12).toInt = -1 → K_s (-5) h_s) ∧ (¬ (h_s.2.1 6 12).toInt = -1 → wF F_s 122 (13, [some (.ref 6), some (.int 0)], [], h_s) (gI K_s))) : wF (F_s + 1) 122 (0, [some (.ref 6), none], [], h_s) (gI K_s) := by
  refine w_0 (pc := 0) (e_s := (3, 1, 0, 0, 0, .null, [])) (y_s := (1, [some (.ref _), none], [.ref _], _)) rfl (u_ rfl) ?_
  refine w20 (pc := 1) (len_s := 3) rfl ?_
  refine w_t (pc := 4) (e_s := (0, 1, 0, 0, 0, .int (-1), [])) (y_s := (5, [some (.ref _), none], [.int _, .int _], _)) rfl (u_ rfl) ?_
  refine wi1 (pc := 5) (len_s := 3) (Y := -1) rfl rfl (by decide) (fun c1_s => ?_) (fun c1_s => ?_)
  · replace t_s := t_s.1 c1_s
    refine w_t (pc := 8) (e_s := (0, 2, 0, 0, 0, .int (-5), [])) (y_s := (10, [some (.ref _), none], [.int _], _)) rfl (u_ rfl) ?_
    exact wrI (pc := 10) (len_s := 1) rfl hk t_s
  · replace t_s := t_s.2 c1_s
    refine w_t (pc := 11) (e_s := (0, 1, 0, 0, 0, .int 0, [])) (y_s := (12, [some (.ref _), none], [.int _], _)) rfl (u_ rfl) ?_
    refine w_t (pc := 12) (e_s := (4, 1, 1, 0, 0, .null, [])) (y_s := (13, [some (.ref _), some (.int _)], [], _)) rfl (u_ rfl) ?_
    exact t_s
/-- ColdShod.back()I, from 13 on -/
theorem sg_122_13 {F_s : Nat} {x1_s : Int32} {h_s : zH} {K_s : Int32 → zH → Prop} (hk : hKn h_s) (t_s : (x1_s.toInt < (h_s.2.1 6 12).toInt → (zix x1_s < 8 → wF F_s 36 (0, [some (.ref (20 + (zix x1_s))), some (.ref (94 + (zix x1_s)))], [], h_s) (gV (fun h4 => hKn h4 → wF F_s 122 (13, [some (.ref 6), some (.int (x1_s + 1))], [], h4) (gI K_s))))) ∧ (¬ x1_s.toInt < (h_s.2.1 6 12).toInt → (0 + 5 ≤ 5 ∧ 0 + 5 ≤ 5 → K_s ((zrow h_s.2.1 73 (zcpy (h_s.2.1 75) (h_s.2.1 73) 0 0 5)) 73 3) (h_s.1, zrow h_s.2.1 73 (zcpy (h_s.2.1 75) (h_s.2.1 73) 0 0 5), h_s.2.2.1, h_s.2.2.2)))) : wF (F_s + 1) 122 (13, [some (.ref 6), some (.int x1_s)], [], h_s) (gI K_s) := by
  refine w_0 (pc := 13) (e_s := (1, 1, 1, 0, 0, .null, [])) (y_s := (14, [some (.ref _), some (.int _)], [.int _], _)) rfl (u_ rfl) ?_
  refine w_t (pc := 14) (e_s := (3, 1, 0, 0, 0, .null, [])) (y_s := (15, [some (.ref _), some (.int _)], [.ref _, .int _], _)) rfl (u_ rfl) ?_
  refine w20 (pc := 15) (len_s := 3) rfl ?_
  refine wi3 (pc := 18) (len_s := 3) rfl rfl rfl (fun c1_s => ?_) (fun c1_s => ?_)
  · replace t_s := t_s.1 c1_s
    refine w_t (pc := 21) (e_s := (3, 1, 0, 0, 0, .null, [])) (y_s := (22, [some (.ref _), some (.int _)], [.ref _], _)) rfl (u_ rfl) ?_
    refine w20r (pc := 22) (len_s := 3) (q_s := 7) rfl (krq hk rfl) ?_
    refine w20r (pc := 25) (len_s := 3) (q_s := 10) rfl (krq hk rfl) ?_
    refine w_t (pc := 28) (e_s := (1, 1, 1, 0, 0, .null, [])) (y_s := (29, [some (.ref _), some (.int _)], [.int _, .ref _], _)) rfl (u_ rfl) ?_
    refine w24 (g_s := fun j_ => 20 + j_) (pc := 29) (len_s := 1) hk rfl (hk.1 10 2 8 rfl rfl) kg10 (fun c2_s => ?_)
    replace t_s := t_s c2_s
    refine w_t (pc := 30) (e_s := (3, 1, 0, 0, 0, .null, [])) (y_s := (31, [some (.ref _), some (.int _)], [.ref _, .ref _], _)) rfl (u_ rfl) ?_
    refine w20r (pc := 31) (len_s := 3) (q_s := 74) rfl (krq hk rfl) ?_
    refine w_t (pc := 34) (e_s := (1, 1, 1, 0, 0, .null, [])) (y_s := (35, [some (.ref _), some (.int _)], [.int _, .ref _, .ref _], _)) rfl (u_ rfl) ?_
    refine w24 (g_s := fun j_ => 94 + j_) (pc := 35) (len_s := 1) hk rfl (hk.1 74 2 8 rfl rfl) kg74 (fun c3_s => ?_)
    refine wcV (pc := 36) (len_s := 3) rfl rfl (l := [some (.ref _), some (.ref _)]) rfl (wmV t_s (fun h4 hk t_s => ?_))
    replace t_s := t_s hk
    refine w_t (pc := 39) (e_s := (19, 3, 1, 0, 0, .int 1, [])) (y_s := (42, [some (.ref _), some (.int _)], [], _)) rfl (u_ rfl) ?_
    refine w_t (pc := 42) (e_s := (17, 3, 13, 0, 0, .null, [])) (y_s := (13, [some (.ref _), some (.int _)], [], _)) rfl (u_ rfl) ?_
    exact t_s
  · replace t_s := t_s.2 c1_s
    refine w_t (pc := 45) (e_s := (3, 1, 0, 0, 0, .null, [])) (y_s := (46, [some (.ref _), some (.int _)], [.ref _], _)) rfl (u_ rfl) ?_
    refine w20r (pc := 46) (len_s := 3) (q_s := 75) rfl (krq hk rfl) ?_
    refine w_t (pc := 49) (e_s := (0, 1, 0, 0, 0, .int 0, [])) (y_s := (50, [some (.ref _), some (.int _)], [.int _, .ref _], _)) rfl (u_ rfl) ?_
    refine w_t (pc := 50) (e_s := (3, 1, 0, 0, 0, .null, [])) (y_s := (51, [some (.ref _), some (.int _)], [.ref _, .int _, .ref _], _)) rfl (u_ rfl) ?_
    refine w20r (pc := 51) (len_s := 3) (q_s := 73) rfl (krq hk rfl) ?_
    refine w_t (pc := 54) (e_s := (0, 1, 0, 0, 0, .int 0, [])) (y_s := (55, [some (.ref _), some (.int _)], [.int _, .ref _, .int _, .ref _], _)) rfl (u_ rfl) ?_
    refine w_t (pc := 55) (e_s := (0, 1, 0, 0, 0, .int 5, [])) (y_s := (56, [some (.ref _), some (.int _)], [.int _, .int _, .ref _, .int _, .ref _], _)) rfl (u_ rfl) ?_
    refine w34i (pc := 56) (len_s := 3) rfl (hk.1 75 0 5 rfl rfl) (hk.1 73 0 5 rfl rfl) (fun c5_s => ?_)
    replace t_s := t_s c5_s
    refine w_t (pc := 59) (e_s := (3, 1, 0, 0, 0, .null, [])) (y_s := (60, [some (.ref _), some (.int _)], [.ref _], _)) rfl (u_ rfl) ?_
    refine w20r (pc := 60) (len_s := 3) (q_s := 73) rfl (krq hk rfl) ?_
    refine w_t (pc := 63) (e_s := (0, 1, 0, 0, 0, .int 3, [])) (y_s := (64, [some (.ref _), some (.int _)], [.int _, .ref _], _)) rfl (u_ rfl) ?_
    refine w22 (pc := 64) (len_s := 1) rfl (hk.1 73 0 5 rfl rfl) (fun c6_s => ?_)
    exact wrI (pc := 65) (len_s := 1) rfl hk t_s
